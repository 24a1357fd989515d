theorem fX8_cost_0 : ft 90 0 = some (.iload_n 1, 0, 0, 0, .null) := by decide +kernel
theorem gX8_cost_0 {l0 l2 l3 : Option Value} {u : Int32} {st : List Value} {H : HP} {Q : Option Value → HP → Prop} : Go 90 0 [l0, some (.int u), l2, l3] st H Q ↔ Go 90 1 [l0, some (.int u), l2, l3] (.int u :: st) H Q := G_iload_n fX8_cost_0 rfl
theorem fX8_cost_1 : ft 90 1 = some (.invokestatic 160, 111, 0, 437, .null) := by decide +kernel
theorem gX8_cost_1 {L : List (Option Value)} {a0 : Int32}  {H : HP} {Q : Option Value → HP → Prop} : Go 90 1 L (.int a0 :: []) H Q ↔ Go 111 0 [some (.int a0)] [] H (Cont 90 4 L [] Q) := G_cS (n := 1) (N := 1) (as := [.int a0]) (st := []) fX8_cost_1 (by decide +kernel) rfl (Nat.le_of_ble_eq_true rfl) (Nat.le_of_ble_eq_true rfl) rfl
theorem fX8_cost_4 : ft 90 4 = some (.ifCond .ne 5, 0, 0, 0, .null) := by decide +kernel
theorem gX8_cost_4T {L : List (Option Value)} {a : Int} (c : (-2147483648 ≤ a ∧ a ≤ 2147483647) ∧ ¬ a = 0) {st : List Value} {H : HP} {Q : Option Value → HP → Prop} : Go 90 4 L (vi a :: st) H Q ↔ Go 90 9 L st H Q := G_ifT fX8_cost_4 (by decide) c
theorem gX8_cost_4F {L : List (Option Value)} {a : Int} (c : (-2147483648 ≤ a ∧ a ≤ 2147483647) ∧ ¬ (¬ a = 0)) {st : List Value} {H : HP} {Q : Option Value → HP → Prop} : Go 90 4 L (vi a :: st) H Q ↔ Go 90 7 L st H Q := G_ifF (tg := 9) fX8_cost_4 (by decide) c
theorem fX8_cost_7 : ft 90 7 = some (.iconst (-1), 0, 0, 0, .null) := by decide +kernel
theorem gX8_cost_7 {L : List (Option Value)} {st : List Value} {H : HP} {Q : Option Value → HP → Prop} : Go 90 7 L st H Q ↔ Go 90 8 L (vi (-1) :: st) H Q := G_iconst fX8_cost_7
theorem fX8_cost_8 : ft 90 8 = some (.ireturn, 0, 0, 0, .null) := by decide +kernel
theorem gX8_cost_8 {L : List (Option Value)} {u : Int32} {H : HP} {Q : Option Value → HP → Prop} : Go 90 8 L [.int u] H Q ↔ Q (some (.int u)) H := G_iret fX8_cost_8 (by decide +kernel)
theorem fX8_cost_9 : ft 90 9 = some (.iload_n 2, 0, 0, 0, .null) := by decide +kernel
theorem gX8_cost_9 {l0 l1 l3 : Option Value} {u : Int32} {st : List Value} {H : HP} {Q : Option Value → HP → Prop} : Go 90 9 [l0, l1, some (.int u), l3] st H Q ↔ Go 90 10 [l0, l1, some (.int u), l3] (.int u :: st) H Q := G_iload_n fX8_cost_9 rfl
theorem fX8_cost_10 : ft 90 10 = some (.invokestatic 133, 112, 0, 373, .null) := by decide +kernel
theorem gX8_cost_10 {L : List (Option Value)} {a0 : Int32}  {H : HP} {Q : Option Value → HP → Prop} : Go 90 10 L (.int a0 :: []) H Q ↔ Go 112 0 [some (.int a0)] [] H (Cont 90 13 L [] Q) := G_cS (n := 1) (N := 1) (as := [.int a0]) (st := []) fX8_cost_10 (by decide +kernel) rfl (Nat.le_of_ble_eq_true rfl) (Nat.le_of_ble_eq_true rfl) rfl
theorem fX8_cost_13 : ft 90 13 = some (.ifCond .eq 10, 0, 0, 0, .null) := by decide +kernel
theorem gX8_cost_13T {L : List (Option Value)} {a : Int} (c : (-2147483648 ≤ a ∧ a ≤ 2147483647) ∧ a = 0) {st : List Value} {H : HP} {Q : Option Value → HP → Prop} : Go 90 13 L (vi a :: st) H Q ↔ Go 90 23 L st H Q := G_ifT fX8_cost_13 (by decide) c
theorem gX8_cost_13F {L : List (Option Value)} {a : Int} (c : (-2147483648 ≤ a ∧ a ≤ 2147483647) ∧ ¬ (a = 0)) {st : List Value} {H : HP} {Q : Option Value → HP → Prop} : Go 90 13 L (vi a :: st) H Q ↔ Go 90 16 L st H Q := G_ifF (tg := 23) fX8_cost_13 (by decide) c
theorem fX8_cost_16 : ft 90 16 = some (.iload_n 3, 0, 0, 0, .null) := by decide +kernel
theorem gX8_cost_16 {l0 l1 l2 : Option Value} {u : Int32} {st : List Value} {H : HP} {Q : Option Value → HP → Prop} : Go 90 16 [l0, l1, l2, some (.int u)] st H Q ↔ Go 90 17 [l0, l1, l2, some (.int u)] (.int u :: st) H Q := G_iload_n fX8_cost_16 rfl
theorem fX8_cost_17 : ft 90 17 = some (.invokestatic 133, 112, 0, 373, .null) := by decide +kernel
theorem gX8_cost_17 {L : List (Option Value)} {a0 : Int32}  {H : HP} {Q : Option Value → HP → Prop} : Go 90 17 L (.int a0 :: []) H Q ↔ Go 112 0 [some (.int a0)] [] H (Cont 90 20 L [] Q) := G_cS (n := 1) (N := 1) (as := [.int a0]) (st := []) fX8_cost_17 (by decide +kernel) rfl (Nat.le_of_ble_eq_true rfl) (Nat.le_of_ble_eq_true rfl) rfl
theorem fX8_cost_20 : ft 90 20 = some (.ifCond .ne 6, 0, 0, 0, .null) := by decide +kernel
theorem gX8_cost_20T {L : List (Option Value)} {a : Int} (c : (-2147483648 ≤ a ∧ a ≤ 2147483647) ∧ ¬ a = 0) {st : List Value} {H : HP} {Q : Option Value → HP → Prop} : Go 90 20 L (vi a :: st) H Q ↔ Go 90 26 L st H Q := G_ifT fX8_cost_20 (by decide) c
theorem gX8_cost_20F {L : List (Option Value)} {a : Int} (c : (-2147483648 ≤ a ∧ a ≤ 2147483647) ∧ ¬ (¬ a = 0)) {st : List Value} {H : HP} {Q : Option Value → HP → Prop} : Go 90 20 L (vi a :: st) H Q ↔ Go 90 23 L st H Q := G_ifF (tg := 26) fX8_cost_20 (by decide) c
theorem fX8_cost_23 : ft 90 23 = some (.bipush (-2), 0, 0, 0, .null) := by decide +kernel
theorem gX8_cost_23 {L : List (Option Value)} {st : List Value} {H : HP} {Q : Option Value → HP → Prop} : Go 90 23 L st H Q ↔ Go 90 25 L (vi (-2) :: st) H Q := G_bipush fX8_cost_23 (by decide)
theorem fX8_cost_25 : ft 90 25 = some (.ireturn, 0, 0, 0, .null) := by decide +kernel
theorem gX8_cost_25 {L : List (Option Value)} {u : Int32} {H : HP} {Q : Option Value → HP → Prop} : Go 90 25 L [.int u] H Q ↔ Q (some (.int u)) H := G_iret fX8_cost_25 (by decide +kernel)
theorem fX8_cost_26 : ft 90 26 = some (.iload_n 1, 0, 0, 0, .null) := by decide +kernel
theorem gX8_cost_26 {l0 l2 l3 : Option Value} {u : Int32} {st : List Value} {H : HP} {Q : Option Value → HP → Prop} : Go 90 26 [l0, some (.int u), l2, l3] st H Q ↔ Go 90 27 [l0, some (.int u), l2, l3] (.int u :: st) H Q := G_iload_n fX8_cost_26 rfl
theorem fX8_cost_27 : ft 90 27 = some (.iload_n 2, 0, 0, 0, .null) := by decide +kernel
theorem gX8_cost_27 {l0 l1 l3 : Option Value} {u : Int32} {st : List Value} {H : HP} {Q : Option Value → HP → Prop} : Go 90 27 [l0, l1, some (.int u), l3] st H Q ↔ Go 90 28 [l0, l1, some (.int u), l3] (.int u :: st) H Q := G_iload_n fX8_cost_27 rfl
theorem fX8_cost_28 : ft 90 28 = some (.iload_n 3, 0, 0, 0, .null) := by decide +kernel
theorem gX8_cost_28 {l0 l1 l2 : Option Value} {u : Int32} {st : List Value} {H : HP} {Q : Option Value → HP → Prop} : Go 90 28 [l0, l1, l2, some (.int u)] st H Q ↔ Go 90 29 [l0, l1, l2, some (.int u)] (.int u :: st) H Q := G_iload_n fX8_cost_28 rfl
theorem fX8_cost_29 : ft 90 29 = some (.invokestatic 204, 114, 0, 587, .null) := by decide +kernel
theorem gX8_cost_29 {L : List (Option Value)} {a0 : Int32} {a1 : Int32} {a2 : Int32}  {H : HP} {Q : Option Value → HP → Prop} : Go 90 29 L (.int a2 :: .int a1 :: .int a0 :: []) H Q ↔ Go 114 0 [some (.int a0), some (.int a1), some (.int a2), none, none, none] [] H (Cont 90 32 L [] Q) := G_cS (n := 3) (N := 6) (as := [.int a2, .int a1, .int a0]) (st := []) fX8_cost_29 (by decide +kernel) rfl (Nat.le_of_ble_eq_true rfl) (Nat.le_of_ble_eq_true rfl) rfl
theorem fX8_cost_32 : ft 90 32 = some (.ireturn, 0, 0, 0, .null) := by decide +kernel
theorem gX8_cost_32 {L : List (Option Value)} {u : Int32} {H : HP} {Q : Option Value → HP → Prop} : Go 90 32 L [.int u] H Q ↔ Q (some (.int u)) H := G_iret fX8_cost_32 (by decide +kernel)
theorem fX8_plan_0 : ft 91 0 = some (.iload_n 1, 0, 0, 0, .null) := by decide +kernel
theorem gX8_plan_0 {l0 l2 : Option Value} {u : Int32} {st : List Value} {H : HP} {Q : Option Value → HP → Prop} : Go 91 0 [l0, some (.int u), l2] st H Q ↔ Go 91 1 [l0, some (.int u), l2] (.int u :: st) H Q := G_iload_n fX8_plan_0 rfl
theorem fX8_plan_1 : ft 91 1 = some (.invokestatic 133, 112, 0, 373, .null) := by decide +kernel
theorem gX8_plan_1 {L : List (Option Value)} {a0 : Int32}  {H : HP} {Q : Option Value → HP → Prop} : Go 91 1 L (.int a0 :: []) H Q ↔ Go 112 0 [some (.int a0)] [] H (Cont 91 4 L [] Q) := G_cS (n := 1) (N := 1) (as := [.int a0]) (st := []) fX8_plan_1 (by decide +kernel) rfl (Nat.le_of_ble_eq_true rfl) (Nat.le_of_ble_eq_true rfl) rfl
theorem fX8_plan_4 : ft 91 4 = some (.ifCond .eq 10, 0, 0, 0, .null) := by decide +kernel
theorem gX8_plan_4T {L : List (Option Value)} {a : Int} (c : (-2147483648 ≤ a ∧ a ≤ 2147483647) ∧ a = 0) {st : List Value} {H : HP} {Q : Option Value → HP → Prop} : Go 91 4 L (vi a :: st) H Q ↔ Go 91 14 L st H Q := G_ifT fX8_plan_4 (by decide) c
theorem gX8_plan_4F {L : List (Option Value)} {a : Int} (c : (-2147483648 ≤ a ∧ a ≤ 2147483647) ∧ ¬ (a = 0)) {st : List Value} {H : HP} {Q : Option Value → HP → Prop} : Go 91 4 L (vi a :: st) H Q ↔ Go 91 7 L st H Q := G_ifF (tg := 14) fX8_plan_4 (by decide) c
theorem fX8_plan_7 : ft 91 7 = some (.iload_n 2, 0, 0, 0, .null) := by decide +kernel
theorem gX8_plan_7 {l0 l1 : Option Value} {u : Int32} {st : List Value} {H : HP} {Q : Option Value → HP → Prop} : Go 91 7 [l0, l1, some (.int u)] st H Q ↔ Go 91 8 [l0, l1, some (.int u)] (.int u :: st) H Q := G_iload_n fX8_plan_7 rfl
theorem fX8_plan_8 : ft 91 8 = some (.invokestatic 133, 112, 0, 373, .null) := by decide +kernel
theorem gX8_plan_8 {L : List (Option Value)} {a0 : Int32}  {H : HP} {Q : Option Value → HP → Prop} : Go 91 8 L (.int a0 :: []) H Q ↔ Go 112 0 [some (.int a0)] [] H (Cont 91 11 L [] Q) := G_cS (n := 1) (N := 1) (as := [.int a0]) (st := []) fX8_plan_8 (by decide +kernel) rfl (Nat.le_of_ble_eq_true rfl) (Nat.le_of_ble_eq_true rfl) rfl
theorem fX8_plan_11 : ft 91 11 = some (.ifCond .ne 6, 0, 0, 0, .null) := by decide +kernel
theorem gX8_plan_11T {L : List (Option Value)} {a : Int} (c : (-2147483648 ≤ a ∧ a ≤ 2147483647) ∧ ¬ a = 0) {st : List Value} {H : HP} {Q : Option Value → HP → Prop} : Go 91 11 L (vi a :: st) H Q ↔ Go 91 17 L st H Q := G_ifT fX8_plan_11 (by decide) c
theorem gX8_plan_11F {L : List (Option Value)} {a : Int} (c : (-2147483648 ≤ a ∧ a ≤ 2147483647) ∧ ¬ (¬ a = 0)) {st : List Value} {H : HP} {Q : Option Value → HP → Prop} : Go 91 11 L (vi a :: st) H Q ↔ Go 91 14 L st H Q := G_ifF (tg := 17) fX8_plan_11 (by decide) c
theorem fX8_plan_14 : ft 91 14 = some (.bipush (-2), 0, 0, 0, .null) := by decide +kernel
theorem gX8_plan_14 {L : List (Option Value)} {st : List Value} {H : HP} {Q : Option Value → HP → Prop} : Go 91 14 L st H Q ↔ Go 91 16 L (vi (-2) :: st) H Q := G_bipush fX8_plan_14 (by decide)
theorem fX8_plan_16 : ft 91 16 = some (.ireturn, 0, 0, 0, .null) := by decide +kernel
theorem gX8_plan_16 {L : List (Option Value)} {u : Int32} {H : HP} {Q : Option Value → HP → Prop} : Go 91 16 L [.int u] H Q ↔ Q (some (.int u)) H := G_iret fX8_plan_16 (by decide +kernel)
theorem fX8_plan_17 : ft 91 17 = some (.iconst 2, 0, 0, 0, .null) := by decide +kernel
theorem gX8_plan_17 {L : List (Option Value)} {st : List Value} {H : HP} {Q : Option Value → HP → Prop} : Go 91 17 L st H Q ↔ Go 91 18 L (vi 2 :: st) H Q := G_iconst fX8_plan_17
theorem fX8_plan_18 : ft 91 18 = some (.iload_n 1, 0, 0, 0, .null) := by decide +kernel
theorem gX8_plan_18 {l0 l2 : Option Value} {u : Int32} {st : List Value} {H : HP} {Q : Option Value → HP → Prop} : Go 91 18 [l0, some (.int u), l2] st H Q ↔ Go 91 19 [l0, some (.int u), l2] (.int u :: st) H Q := G_iload_n fX8_plan_18 rfl
theorem fX8_plan_19 : ft 91 19 = some (.iload_n 2, 0, 0, 0, .null) := by decide +kernel
theorem gX8_plan_19 {l0 l1 : Option Value} {u : Int32} {st : List Value} {H : HP} {Q : Option Value → HP → Prop} : Go 91 19 [l0, l1, some (.int u)] st H Q ↔ Go 91 20 [l0, l1, some (.int u)] (.int u :: st) H Q := G_iload_n fX8_plan_19 rfl
theorem fX8_plan_20 : ft 91 20 = some (.invokestatic 204, 114, 0, 587, .null) := by decide +kernel
theorem gX8_plan_20 {L : List (Option Value)} {a0 : Int32} {a1 : Int32} {a2 : Int32}  {H : HP} {Q : Option Value → HP → Prop} : Go 91 20 L (.int a2 :: .int a1 :: .int a0 :: []) H Q ↔ Go 114 0 [some (.int a0), some (.int a1), some (.int a2), none, none, none] [] H (Cont 91 23 L [] Q) := G_cS (n := 3) (N := 6) (as := [.int a2, .int a1, .int a0]) (st := []) fX8_plan_20 (by decide +kernel) rfl (Nat.le_of_ble_eq_true rfl) (Nat.le_of_ble_eq_true rfl) rfl
theorem fX8_plan_23 : ft 91 23 = some (.iconst 0, 0, 0, 0, .null) := by decide +kernel
theorem gX8_plan_23 {L : List (Option Value)} {st : List Value} {H : HP} {Q : Option Value → HP → Prop} : Go 91 23 L st H Q ↔ Go 91 24 L (vi 0 :: st) H Q := G_iconst fX8_plan_23
theorem fX8_plan_24 : ft 91 24 = some (.iload_n 1, 0, 0, 0, .null) := by decide +kernel
theorem gX8_plan_24 {l0 l2 : Option Value} {u : Int32} {st : List Value} {H : HP} {Q : Option Value → HP → Prop} : Go 91 24 [l0, some (.int u), l2] st H Q ↔ Go 91 25 [l0, some (.int u), l2] (.int u :: st) H Q := G_iload_n fX8_plan_24 rfl
theorem fX8_plan_25 : ft 91 25 = some (.iload_n 2, 0, 0, 0, .null) := by decide +kernel
theorem gX8_plan_25 {l0 l1 : Option Value} {u : Int32} {st : List Value} {H : HP} {Q : Option Value → HP → Prop} : Go 91 25 [l0, l1, some (.int u)] st H Q ↔ Go 91 26 [l0, l1, some (.int u)] (.int u :: st) H Q := G_iload_n fX8_plan_25 rfl
theorem fX8_plan_26 : ft 91 26 = some (.invokestatic 204, 114, 0, 587, .null) := by decide +kernel
theorem gX8_plan_26 {L : List (Option Value)} {a0 : Int32} {a1 : Int32} {a2 : Int32} {r0 : Int32} {H : HP} {Q : Option Value → HP → Prop} : Go 91 26 L (.int a2 :: .int a1 :: .int a0 :: [.int r0]) H Q ↔ Go 114 0 [some (.int a0), some (.int a1), some (.int a2), none, none, none] [] H (Cont 91 29 L [.int r0] Q) := G_cS (n := 3) (N := 6) (as := [.int a2, .int a1, .int a0]) (st := [.int r0]) fX8_plan_26 (by decide +kernel) rfl (Nat.le_of_ble_eq_true rfl) (Nat.le_of_ble_eq_true rfl) rfl
theorem fX8_plan_29 : ft 91 29 = some (.if_icmp .ge 7, 0, 0, 0, .null) := by decide +kernel
theorem gX8_plan_29T {L : List (Option Value)} {a b : Int} (c : (-2147483648 ≤ a ∧ a ≤ 2147483647 ∧ -2147483648 ≤ b ∧ b ≤ 2147483647) ∧ b ≤ a) {st : List Value} {H : HP} {Q : Option Value → HP → Prop} : Go 91 29 L (vi b :: vi a :: st) H Q ↔ Go 91 36 L st H Q := G_icT fX8_plan_29 (by decide) c
theorem gX8_plan_29F {L : List (Option Value)} {a b : Int} (c : (-2147483648 ≤ a ∧ a ≤ 2147483647 ∧ -2147483648 ≤ b ∧ b ≤ 2147483647) ∧ ¬ (b ≤ a)) {st : List Value} {H : HP} {Q : Option Value → HP → Prop} : Go 91 29 L (vi b :: vi a :: st) H Q ↔ Go 91 32 L st H Q := G_icF (tg := 36) fX8_plan_29 (by decide) c
theorem fX8_plan_32 : ft 91 32 = some (.iconst 2, 0, 0, 0, .null) := by decide +kernel
theorem gX8_plan_32 {L : List (Option Value)} {st : List Value} {H : HP} {Q : Option Value → HP → Prop} : Go 91 32 L st H Q ↔ Go 91 33 L (vi 2 :: st) H Q := G_iconst fX8_plan_32
theorem fX8_plan_33 : ft 91 33 = some (.goto 4, 0, 0, 0, .null) := by decide +kernel
theorem gX8_plan_33 {L : List (Option Value)} {st : List Value} {H : HP} {Q : Option Value → HP → Prop} : Go 91 33 L st H Q ↔ Go 91 37 L st H Q := G_goto fX8_plan_33 (by decide)
theorem fX8_plan_36 : ft 91 36 = some (.iconst 0, 0, 0, 0, .null) := by decide +kernel
theorem gX8_plan_36 {L : List (Option Value)} {st : List Value} {H : HP} {Q : Option Value → HP → Prop} : Go 91 36 L st H Q ↔ Go 91 37 L (vi 0 :: st) H Q := G_iconst fX8_plan_36
theorem fX8_plan_37 : ft 91 37 = some (.ireturn, 0, 0, 0, .null) := by decide +kernel
theorem gX8_plan_37 {L : List (Option Value)} {u : Int32} {H : HP} {Q : Option Value → HP → Prop} : Go 91 37 L [.int u] H Q ↔ Q (some (.int u)) H := G_iret fX8_plan_37 (by decide +kernel)
theorem fX8_power_0 : ft 92 0 = some (.aload_n 0, 0, 0, 0, .null) := by decide +kernel
theorem gX8_power_0 {l1 l2 l3 l4 l5 : Option Value} {u : Nat} {st : List Value} {H : HP} {Q : Option Value → HP → Prop} : Go 92 0 [some (.ref u), l1, l2, l3, l4, l5] st H Q ↔ Go 92 1 [some (.ref u), l1, l2, l3, l4, l5] (.ref u :: st) H Q := G_aload_n fX8_power_0 rfl
theorem fX8_power_1 : ft 92 1 = some (.iconst 0, 0, 0, 0, .null) := by decide +kernel
theorem gX8_power_1 {L : List (Option Value)} {st : List Value} {H : HP} {Q : Option Value → HP → Prop} : Go 92 1 L st H Q ↔ Go 92 2 L (vi 0 :: st) H Q := G_iconst fX8_power_1
theorem fX8_power_2 : ft 92 2 = some (.putfield 64, 8, 12, 233, .null) := by decide +kernel
theorem gX8_power_2 {L : List (Option Value)} {p : Nat} {u : Int32} (hp : p ≠ 0) {st : List Value} {H : HP} {Q : Option Value → HP → Prop} : Go 92 2 L (.int u :: .ref p :: st) H Q ↔ Wr (pF' 8 12 (hget H p) (.int u)) p 92 5 L st H Q := G_putf fX8_power_2 ⟨⟨rfl, rfl⟩, rfl, Or.inl rfl⟩ hp
theorem fX8_power_5 : ft 92 5 = some (.iload_n 1, 0, 0, 0, .null) := by decide +kernel
theorem gX8_power_5 {l0 l2 l3 l4 l5 : Option Value} {u : Int32} {st : List Value} {H : HP} {Q : Option Value → HP → Prop} : Go 92 5 [l0, some (.int u), l2, l3, l4, l5] st H Q ↔ Go 92 6 [l0, some (.int u), l2, l3, l4, l5] (.int u :: st) H Q := G_iload_n fX8_power_5 rfl
theorem fX8_power_6 : ft 92 6 = some (.invokestatic 85, 108, 0, 265, .null) := by decide +kernel
theorem gX8_power_6 {L : List (Option Value)} {a0 : Int32}  {H : HP} {Q : Option Value → HP → Prop} : Go 92 6 L (.int a0 :: []) H Q ↔ Go 108 0 [some (.int a0)] [] H (Cont 92 9 L [] Q) := G_cS (n := 1) (N := 1) (as := [.int a0]) (st := []) fX8_power_6 (by decide +kernel) rfl (Nat.le_of_ble_eq_true rfl) (Nat.le_of_ble_eq_true rfl) rfl
theorem fX8_power_9 : ft 92 9 = some (.ifCond .eq 10, 0, 0, 0, .null) := by decide +kernel
theorem gX8_power_9T {L : List (Option Value)} {a : Int} (c : (-2147483648 ≤ a ∧ a ≤ 2147483647) ∧ a = 0) {st : List Value} {H : HP} {Q : Option Value → HP → Prop} : Go 92 9 L (vi a :: st) H Q ↔ Go 92 19 L st H Q := G_ifT fX8_power_9 (by decide) c
theorem gX8_power_9F {L : List (Option Value)} {a : Int} (c : (-2147483648 ≤ a ∧ a ≤ 2147483647) ∧ ¬ (a = 0)) {st : List Value} {H : HP} {Q : Option Value → HP → Prop} : Go 92 9 L (vi a :: st) H Q ↔ Go 92 12 L st H Q := G_ifF (tg := 19) fX8_power_9 (by decide) c
theorem fX8_power_12 : ft 92 12 = some (.iload_n 2, 0, 0, 0, .null) := by decide +kernel
theorem gX8_power_12 {l0 l1 l3 l4 l5 : Option Value} {u : Int32} {st : List Value} {H : HP} {Q : Option Value → HP → Prop} : Go 92 12 [l0, l1, some (.int u), l3, l4, l5] st H Q ↔ Go 92 13 [l0, l1, some (.int u), l3, l4, l5] (.int u :: st) H Q := G_iload_n fX8_power_12 rfl
theorem fX8_power_13 : ft 92 13 = some (.invokestatic 130, 109, 0, 370, .null) := by decide +kernel
theorem gX8_power_13 {L : List (Option Value)} {a0 : Int32}  {H : HP} {Q : Option Value → HP → Prop} : Go 92 13 L (.int a0 :: []) H Q ↔ Go 109 0 [some (.int a0)] [] H (Cont 92 16 L [] Q) := G_cS (n := 1) (N := 1) (as := [.int a0]) (st := []) fX8_power_13 (by decide +kernel) rfl (Nat.le_of_ble_eq_true rfl) (Nat.le_of_ble_eq_true rfl) rfl
theorem fX8_power_16 : ft 92 16 = some (.ifCond .ne 5, 0, 0, 0, .null) := by decide +kernel
theorem gX8_power_16T {L : List (Option Value)} {a : Int} (c : (-2147483648 ≤ a ∧ a ≤ 2147483647) ∧ ¬ a = 0) {st : List Value} {H : HP} {Q : Option Value → HP → Prop} : Go 92 16 L (vi a :: st) H Q ↔ Go 92 21 L st H Q := G_ifT fX8_power_16 (by decide) c
theorem gX8_power_16F {L : List (Option Value)} {a : Int} (c : (-2147483648 ≤ a ∧ a ≤ 2147483647) ∧ ¬ (¬ a = 0)) {st : List Value} {H : HP} {Q : Option Value → HP → Prop} : Go 92 16 L (vi a :: st) H Q ↔ Go 92 19 L st H Q := G_ifF (tg := 21) fX8_power_16 (by decide) c
theorem fX8_power_19 : ft 92 19 = some (.iconst (-1), 0, 0, 0, .null) := by decide +kernel
theorem gX8_power_19 {L : List (Option Value)} {st : List Value} {H : HP} {Q : Option Value → HP → Prop} : Go 92 19 L st H Q ↔ Go 92 20 L (vi (-1) :: st) H Q := G_iconst fX8_power_19
theorem fX8_power_20 : ft 92 20 = some (.ireturn, 0, 0, 0, .null) := by decide +kernel
theorem gX8_power_20 {L : List (Option Value)} {u : Int32} {H : HP} {Q : Option Value → HP → Prop} : Go 92 20 L [.int u] H Q ↔ Q (some (.int u)) H := G_iret fX8_power_20 (by decide +kernel)
theorem fX8_power_21 : ft 92 21 = some (.iload_n 3, 0, 0, 0, .null) := by decide +kernel
theorem gX8_power_21 {l0 l1 l2 l4 l5 : Option Value} {u : Int32} {st : List Value} {H : HP} {Q : Option Value → HP → Prop} : Go 92 21 [l0, l1, l2, some (.int u), l4, l5] st H Q ↔ Go 92 22 [l0, l1, l2, some (.int u), l4, l5] (.int u :: st) H Q := G_iload_n fX8_power_21 rfl
theorem fX8_power_22 : ft 92 22 = some (.ifCond .lt 18, 0, 0, 0, .null) := by decide +kernel
theorem gX8_power_22T {L : List (Option Value)} {a : Int} (c : (-2147483648 ≤ a ∧ a ≤ 2147483647) ∧ a < 0) {st : List Value} {H : HP} {Q : Option Value → HP → Prop} : Go 92 22 L (vi a :: st) H Q ↔ Go 92 40 L st H Q := G_ifT fX8_power_22 (by decide) c
theorem gX8_power_22F {L : List (Option Value)} {a : Int} (c : (-2147483648 ≤ a ∧ a ≤ 2147483647) ∧ ¬ (a < 0)) {st : List Value} {H : HP} {Q : Option Value → HP → Prop} : Go 92 22 L (vi a :: st) H Q ↔ Go 92 25 L st H Q := G_ifF (tg := 40) fX8_power_22 (by decide) c
theorem fX8_power_25 : ft 92 25 = some (.iload_n 3, 0, 0, 0, .null) := by decide +kernel
theorem gX8_power_25 {l0 l1 l2 l4 l5 : Option Value} {u : Int32} {st : List Value} {H : HP} {Q : Option Value → HP → Prop} : Go 92 25 [l0, l1, l2, some (.int u), l4, l5] st H Q ↔ Go 92 26 [l0, l1, l2, some (.int u), l4, l5] (.int u :: st) H Q := G_iload_n fX8_power_25 rfl
theorem fX8_power_26 : ft 92 26 = some (.sipush 1000, 0, 0, 0, .null) := by decide +kernel
theorem gX8_power_26 {L : List (Option Value)} {st : List Value} {H : HP} {Q : Option Value → HP → Prop} : Go 92 26 L st H Q ↔ Go 92 29 L (vi 1000 :: st) H Q := G_sipush fX8_power_26 (by decide)
theorem fX8_power_29 : ft 92 29 = some (.if_icmp .gt 11, 0, 0, 0, .null) := by decide +kernel
theorem gX8_power_29T {L : List (Option Value)} {a b : Int} (c : (-2147483648 ≤ a ∧ a ≤ 2147483647 ∧ -2147483648 ≤ b ∧ b ≤ 2147483647) ∧ b < a) {st : List Value} {H : HP} {Q : Option Value → HP → Prop} : Go 92 29 L (vi b :: vi a :: st) H Q ↔ Go 92 40 L st H Q := G_icT fX8_power_29 (by decide) c
theorem gX8_power_29F {L : List (Option Value)} {a b : Int} (c : (-2147483648 ≤ a ∧ a ≤ 2147483647 ∧ -2147483648 ≤ b ∧ b ≤ 2147483647) ∧ ¬ (b < a)) {st : List Value} {H : HP} {Q : Option Value → HP → Prop} : Go 92 29 L (vi b :: vi a :: st) H Q ↔ Go 92 32 L st H Q := G_icF (tg := 40) fX8_power_29 (by decide) c
theorem fX8_power_32 : ft 92 32 = some (.iload 4, 0, 0, 0, .null) := by decide +kernel
theorem gX8_power_32 {l0 l1 l2 l3 l5 : Option Value} {u : Int32} {st : List Value} {H : HP} {Q : Option Value → HP → Prop} : Go 92 32 [l0, l1, l2, l3, some (.int u), l5] st H Q ↔ Go 92 34 [l0, l1, l2, l3, some (.int u), l5] (.int u :: st) H Q := G_iload fX8_power_32 rfl
theorem fX8_power_34 : ft 92 34 = some (.invokestatic 133, 112, 0, 373, .null) := by decide +kernel
theorem gX8_power_34 {L : List (Option Value)} {a0 : Int32}  {H : HP} {Q : Option Value → HP → Prop} : Go 92 34 L (.int a0 :: []) H Q ↔ Go 112 0 [some (.int a0)] [] H (Cont 92 37 L [] Q) := G_cS (n := 1) (N := 1) (as := [.int a0]) (st := []) fX8_power_34 (by decide +kernel) rfl (Nat.le_of_ble_eq_true rfl) (Nat.le_of_ble_eq_true rfl) rfl
theorem fX8_power_37 : ft 92 37 = some (.ifCond .ne 6, 0, 0, 0, .null) := by decide +kernel
theorem gX8_power_37T {L : List (Option Value)} {a : Int} (c : (-2147483648 ≤ a ∧ a ≤ 2147483647) ∧ ¬ a = 0) {st : List Value} {H : HP} {Q : Option Value → HP → Prop} : Go 92 37 L (vi a :: st) H Q ↔ Go 92 43 L st H Q := G_ifT fX8_power_37 (by decide) c
theorem gX8_power_37F {L : List (Option Value)} {a : Int} (c : (-2147483648 ≤ a ∧ a ≤ 2147483647) ∧ ¬ (¬ a = 0)) {st : List Value} {H : HP} {Q : Option Value → HP → Prop} : Go 92 37 L (vi a :: st) H Q ↔ Go 92 40 L st H Q := G_ifF (tg := 43) fX8_power_37 (by decide) c
theorem fX8_power_40 : ft 92 40 = some (.bipush (-2), 0, 0, 0, .null) := by decide +kernel
theorem gX8_power_40 {L : List (Option Value)} {st : List Value} {H : HP} {Q : Option Value → HP → Prop} : Go 92 40 L st H Q ↔ Go 92 42 L (vi (-2) :: st) H Q := G_bipush fX8_power_40 (by decide)
theorem fX8_power_42 : ft 92 42 = some (.ireturn, 0, 0, 0, .null) := by decide +kernel
theorem gX8_power_42 {L : List (Option Value)} {u : Int32} {H : HP} {Q : Option Value → HP → Prop} : Go 92 42 L [.int u] H Q ↔ Q (some (.int u)) H := G_iret fX8_power_42 (by decide +kernel)
theorem fX8_power_43 : ft 92 43 = some (.aload_n 0, 0, 0, 0, .null) := by decide +kernel
theorem gX8_power_43 {l1 l2 l3 l4 l5 : Option Value} {u : Nat} {st : List Value} {H : HP} {Q : Option Value → HP → Prop} : Go 92 43 [some (.ref u), l1, l2, l3, l4, l5] st H Q ↔ Go 92 44 [some (.ref u), l1, l2, l3, l4, l5] (.ref u :: st) H Q := G_aload_n fX8_power_43 rfl
theorem fX8_power_44 : ft 92 44 = some (.getfield 11, 8, 0, 221, .null) := by decide +kernel
theorem gX8_power_44 {L : List (Option Value)} {p : Nat} {st : List Value} {H : HP} {Q : Option Value → HP → Prop} : Go 92 44 L (.ref p :: st) H Q ↔ Rd (gF' 8 0 (hget H p)) 92 47 L st H Q := G_getf fX8_power_44 ⟨rfl, rfl⟩
theorem fX8_power_47 : ft 92 47 = some (.iload_n 1, 0, 0, 0, .null) := by decide +kernel
theorem gX8_power_47 {l0 l2 l3 l4 l5 : Option Value} {u : Int32} {st : List Value} {H : HP} {Q : Option Value → HP → Prop} : Go 92 47 [l0, some (.int u), l2, l3, l4, l5] st H Q ↔ Go 92 48 [l0, some (.int u), l2, l3, l4, l5] (.int u :: st) H Q := G_iload_n fX8_power_47 rfl
theorem fX8_power_48 : ft 92 48 = some (.aaload, 0, 0, 0, .null) := by decide +kernel
theorem gX8_power_48 {L : List (Option Value)} {p : Nat} {a : Int} {st : List Value} {H : HP} {Q : Option Value → HP → Prop} : Go 92 48 L (vi a :: .ref p :: st) H Q ↔ Rd (aR' (hget H p) a) 92 49 L st H Q := G_aald fX8_power_48
theorem fX8_power_49 : ft 92 49 = some (.astore 5, 0, 0, 0, .null) := by decide +kernel
theorem gX8_power_49 {l0 l1 l2 l3 l4 l5 : Option Value} {u : Nat} {st : List Value} {H : HP} {Q : Option Value → HP → Prop} : Go 92 49 [l0, l1, l2, l3, l4, l5] (.ref u :: st) H Q ↔ Go 92 51 [l0, l1, l2, l3, l4, some (.ref u)] st H Q := G_astore fX8_power_49 rfl
theorem gX8_power_49N {l0 l1 l2 l3 l4 l5 : Option Value} {st : List Value} {H : HP} {Q : Option Value → HP → Prop} : Go 92 49 [l0, l1, l2, l3, l4, l5] (.null :: st) H Q ↔ Go 92 51 [l0, l1, l2, l3, l4, some .null] st H Q := G_astoreN fX8_power_49 rfl
theorem fX8_power_51 : ft 92 51 = some (.aload 5, 0, 0, 0, .null) := by decide +kernel
theorem gX8_power_51 {l0 l1 l2 l3 l4 : Option Value} {u : Nat} {st : List Value} {H : HP} {Q : Option Value → HP → Prop} : Go 92 51 [l0, l1, l2, l3, l4, some (.ref u)] st H Q ↔ Go 92 53 [l0, l1, l2, l3, l4, some (.ref u)] (.ref u :: st) H Q := G_aload fX8_power_51 rfl
theorem gX8_power_51N {l0 l1 l2 l3 l4 : Option Value} {st : List Value} {H : HP} {Q : Option Value → HP → Prop} : Go 92 51 [l0, l1, l2, l3, l4, some .null] st H Q ↔ Go 92 53 [l0, l1, l2, l3, l4, some .null] (.null :: st) H Q := G_aloadN fX8_power_51 rfl
theorem fX8_power_53 : ft 92 53 = some (.ifnonnull 9, 0, 0, 0, .null) := by decide +kernel
theorem gX8_power_53T {L : List (Option Value)} {p : Nat} {st : List Value} {H : HP} {Q : Option Value → HP → Prop} : Go 92 53 L ((.ref p) :: st) H Q ↔ Go 92 62 L st H Q := G_nnT fX8_power_53 (by decide)
theorem gX8_power_53F {L : List (Option Value)} {st : List Value} {H : HP} {Q : Option Value → HP → Prop} : Go 92 53 L (.null :: st) H Q ↔ Go 92 56 L st H Q := G_nnF (tg := 62) fX8_power_53 (by decide)
theorem fX8_power_56 : ft 92 56 = some (.aload_n 0, 0, 0, 0, .null) := by decide +kernel
theorem gX8_power_56 {l1 l2 l3 l4 l5 : Option Value} {u : Nat} {st : List Value} {H : HP} {Q : Option Value → HP → Prop} : Go 92 56 [some (.ref u), l1, l2, l3, l4, l5] st H Q ↔ Go 92 57 [some (.ref u), l1, l2, l3, l4, l5] (.ref u :: st) H Q := G_aload_n fX8_power_56 rfl
theorem fX8_power_57 : ft 92 57 = some (.iconst 1, 0, 0, 0, .null) := by decide +kernel
theorem gX8_power_57 {L : List (Option Value)} {st : List Value} {H : HP} {Q : Option Value → HP → Prop} : Go 92 57 L st H Q ↔ Go 92 58 L (vi 1 :: st) H Q := G_iconst fX8_power_57
theorem fX8_power_58 : ft 92 58 = some (.invokevirtual 92, 105, 0, 271, .null) := by decide +kernel
theorem gX8_power_58 {L : List (Option Value)} {p : Nat} {a0 : Int32}  {H : HP} {Q : Option Value → HP → Prop} : Go 92 58 L (.int a0 :: .ref p :: []) H Q ↔ (iso 8 (hget H p) = true ∧ Go 105 0 [some (.ref p), some (.int a0)] [] H (Cont 92 61 L [] Q)) := G_cV (n := 1) (N := 2) (as := [.int a0]) (st := []) fX8_power_58 (by decide +kernel) rfl (Nat.le_of_ble_eq_true rfl) (Nat.le_of_ble_eq_true rfl) rfl
theorem fX8_power_61 : ft 92 61 = some (.ireturn, 0, 0, 0, .null) := by decide +kernel
theorem gX8_power_61 {L : List (Option Value)} {u : Int32} {H : HP} {Q : Option Value → HP → Prop} : Go 92 61 L [.int u] H Q ↔ Q (some (.int u)) H := G_iret fX8_power_61 (by decide +kernel)
theorem fX8_power_62 : ft 92 62 = some (.aload 5, 0, 0, 0, .null) := by decide +kernel
theorem gX8_power_62 {l0 l1 l2 l3 l4 : Option Value} {u : Nat} {st : List Value} {H : HP} {Q : Option Value → HP → Prop} : Go 92 62 [l0, l1, l2, l3, l4, some (.ref u)] st H Q ↔ Go 92 64 [l0, l1, l2, l3, l4, some (.ref u)] (.ref u :: st) H Q := G_aload fX8_power_62 rfl
theorem gX8_power_62N {l0 l1 l2 l3 l4 : Option Value} {st : List Value} {H : HP} {Q : Option Value → HP → Prop} : Go 92 62 [l0, l1, l2, l3, l4, some .null] st H Q ↔ Go 92 64 [l0, l1, l2, l3, l4, some .null] (.null :: st) H Q := G_aloadN fX8_power_62 rfl
theorem fX8_power_64 : ft 92 64 = some (.getfield 99, 5, 0, 282, .null) := by decide +kernel
theorem gX8_power_64 {L : List (Option Value)} {p : Nat} {st : List Value} {H : HP} {Q : Option Value → HP → Prop} : Go 92 64 L (.ref p :: st) H Q ↔ Rd (gF' 5 0 (hget H p)) 92 67 L st H Q := G_getf fX8_power_64 ⟨rfl, rfl⟩
theorem fX8_power_67 : ft 92 67 = some (.iconst 3, 0, 0, 0, .null) := by decide +kernel
theorem gX8_power_67 {L : List (Option Value)} {st : List Value} {H : HP} {Q : Option Value → HP → Prop} : Go 92 67 L st H Q ↔ Go 92 68 L (vi 3 :: st) H Q := G_iconst fX8_power_67
theorem fX8_power_68 : ft 92 68 = some (.if_icmp .le 9, 0, 0, 0, .null) := by decide +kernel
theorem gX8_power_68T {L : List (Option Value)} {a b : Int} (c : (-2147483648 ≤ a ∧ a ≤ 2147483647 ∧ -2147483648 ≤ b ∧ b ≤ 2147483647) ∧ a ≤ b) {st : List Value} {H : HP} {Q : Option Value → HP → Prop} : Go 92 68 L (vi b :: vi a :: st) H Q ↔ Go 92 77 L st H Q := G_icT fX8_power_68 (by decide) c
theorem gX8_power_68F {L : List (Option Value)} {a b : Int} (c : (-2147483648 ≤ a ∧ a ≤ 2147483647 ∧ -2147483648 ≤ b ∧ b ≤ 2147483647) ∧ ¬ (a ≤ b)) {st : List Value} {H : HP} {Q : Option Value → HP → Prop} : Go 92 68 L (vi b :: vi a :: st) H Q ↔ Go 92 71 L st H Q := G_icF (tg := 77) fX8_power_68 (by decide) c
theorem fX8_power_71 : ft 92 71 = some (.aload_n 0, 0, 0, 0, .null) := by decide +kernel
theorem gX8_power_71 {l1 l2 l3 l4 l5 : Option Value} {u : Nat} {st : List Value} {H : HP} {Q : Option Value → HP → Prop} : Go 92 71 [some (.ref u), l1, l2, l3, l4, l5] st H Q ↔ Go 92 72 [some (.ref u), l1, l2, l3, l4, l5] (.ref u :: st) H Q := G_aload_n fX8_power_71 rfl
theorem fX8_power_72 : ft 92 72 = some (.iconst 2, 0, 0, 0, .null) := by decide +kernel
theorem gX8_power_72 {L : List (Option Value)} {st : List Value} {H : HP} {Q : Option Value → HP → Prop} : Go 92 72 L st H Q ↔ Go 92 73 L (vi 2 :: st) H Q := G_iconst fX8_power_72
theorem fX8_power_73 : ft 92 73 = some (.invokevirtual 92, 105, 0, 271, .null) := by decide +kernel
theorem gX8_power_73 {L : List (Option Value)} {p : Nat} {a0 : Int32}  {H : HP} {Q : Option Value → HP → Prop} : Go 92 73 L (.int a0 :: .ref p :: []) H Q ↔ (iso 8 (hget H p) = true ∧ Go 105 0 [some (.ref p), some (.int a0)] [] H (Cont 92 76 L [] Q)) := G_cV (n := 1) (N := 2) (as := [.int a0]) (st := []) fX8_power_73 (by decide +kernel) rfl (Nat.le_of_ble_eq_true rfl) (Nat.le_of_ble_eq_true rfl) rfl
theorem fX8_power_76 : ft 92 76 = some (.ireturn, 0, 0, 0, .null) := by decide +kernel
theorem gX8_power_76 {L : List (Option Value)} {u : Int32} {H : HP} {Q : Option Value → HP → Prop} : Go 92 76 L [.int u] H Q ↔ Q (some (.int u)) H := G_iret fX8_power_76 (by decide +kernel)
theorem fX8_power_77 : ft 92 77 = some (.aload_n 0, 0, 0, 0, .null) := by decide +kernel
theorem gX8_power_77 {l1 l2 l3 l4 l5 : Option Value} {u : Nat} {st : List Value} {H : HP} {Q : Option Value → HP → Prop} : Go 92 77 [some (.ref u), l1, l2, l3, l4, l5] st H Q ↔ Go 92 78 [some (.ref u), l1, l2, l3, l4, l5] (.ref u :: st) H Q := G_aload_n fX8_power_77 rfl
theorem fX8_power_78 : ft 92 78 = some (.getfield 44, 8, 6, 227, .null) := by decide +kernel
theorem gX8_power_78 {L : List (Option Value)} {p : Nat} {st : List Value} {H : HP} {Q : Option Value → HP → Prop} : Go 92 78 L (.ref p :: st) H Q ↔ Rd (gF' 8 6 (hget H p)) 92 81 L st H Q := G_getf fX8_power_78 ⟨rfl, rfl⟩
theorem fX8_power_81 : ft 92 81 = some (.iload 4, 0, 0, 0, .null) := by decide +kernel
theorem gX8_power_81 {l0 l1 l2 l3 l5 : Option Value} {u : Int32} {st : List Value} {H : HP} {Q : Option Value → HP → Prop} : Go 92 81 [l0, l1, l2, l3, some (.int u), l5] st H Q ↔ Go 92 83 [l0, l1, l2, l3, some (.int u), l5] (.int u :: st) H Q := G_iload fX8_power_81 rfl
theorem fX8_power_83 : ft 92 83 = some (.putfield 143, 6, 1, 111, .null) := by decide +kernel
theorem gX8_power_83 {L : List (Option Value)} {p : Nat} {u : Int32} (hp : p ≠ 0) {st : List Value} {H : HP} {Q : Option Value → HP → Prop} : Go 92 83 L (.int u :: .ref p :: st) H Q ↔ Wr (pF' 6 1 (hget H p) (.int u)) p 92 86 L st H Q := G_putf fX8_power_83 ⟨⟨rfl, rfl⟩, rfl, Or.inl rfl⟩ hp
theorem fX8_power_86 : ft 92 86 = some (.aload_n 0, 0, 0, 0, .null) := by decide +kernel
theorem gX8_power_86 {l1 l2 l3 l4 l5 : Option Value} {u : Nat} {st : List Value} {H : HP} {Q : Option Value → HP → Prop} : Go 92 86 [some (.ref u), l1, l2, l3, l4, l5] st H Q ↔ Go 92 87 [some (.ref u), l1, l2, l3, l4, l5] (.ref u :: st) H Q := G_aload_n fX8_power_86 rfl
theorem fX8_power_87 : ft 92 87 = some (.getfield 24, 8, 3, 224, .null) := by decide +kernel
theorem gX8_power_87 {L : List (Option Value)} {p : Nat} {st : List Value} {H : HP} {Q : Option Value → HP → Prop} : Go 92 87 L (.ref p :: st) H Q ↔ Rd (gF' 8 3 (hget H p)) 92 90 L st H Q := G_getf fX8_power_87 ⟨rfl, rfl⟩
theorem fX8_power_90 : ft 92 90 = some (.aload 5, 0, 0, 0, .null) := by decide +kernel
theorem gX8_power_90 {l0 l1 l2 l3 l4 : Option Value} {u : Nat} {st : List Value} {H : HP} {Q : Option Value → HP → Prop} : Go 92 90 [l0, l1, l2, l3, l4, some (.ref u)] st H Q ↔ Go 92 92 [l0, l1, l2, l3, l4, some (.ref u)] (.ref u :: st) H Q := G_aload fX8_power_90 rfl
theorem gX8_power_90N {l0 l1 l2 l3 l4 : Option Value} {st : List Value} {H : HP} {Q : Option Value → HP → Prop} : Go 92 90 [l0, l1, l2, l3, l4, some .null] st H Q ↔ Go 92 92 [l0, l1, l2, l3, l4, some .null] (.null :: st) H Q := G_aloadN fX8_power_90 rfl
theorem fX8_power_92 : ft 92 92 = some (.aload_n 0, 0, 0, 0, .null) := by decide +kernel
theorem gX8_power_92 {l1 l2 l3 l4 l5 : Option Value} {u : Nat} {st : List Value} {H : HP} {Q : Option Value → HP → Prop} : Go 92 92 [some (.ref u), l1, l2, l3, l4, l5] st H Q ↔ Go 92 93 [some (.ref u), l1, l2, l3, l4, l5] (.ref u :: st) H Q := G_aload_n fX8_power_92 rfl
theorem fX8_power_93 : ft 92 93 = some (.getfield 17, 8, 1, 222, .null) := by decide +kernel
theorem gX8_power_93 {L : List (Option Value)} {p : Nat} {st : List Value} {H : HP} {Q : Option Value → HP → Prop} : Go 92 93 L (.ref p :: st) H Q ↔ Rd (gF' 8 1 (hget H p)) 92 96 L st H Q := G_getf fX8_power_93 ⟨rfl, rfl⟩
theorem fX8_power_96 : ft 92 96 = some (.iload_n 2, 0, 0, 0, .null) := by decide +kernel
theorem gX8_power_96 {l0 l1 l3 l4 l5 : Option Value} {u : Int32} {st : List Value} {H : HP} {Q : Option Value → HP → Prop} : Go 92 96 [l0, l1, some (.int u), l3, l4, l5] st H Q ↔ Go 92 97 [l0, l1, some (.int u), l3, l4, l5] (.int u :: st) H Q := G_iload_n fX8_power_96 rfl
theorem fX8_power_97 : ft 92 97 = some (.aaload, 0, 0, 0, .null) := by decide +kernel
theorem gX8_power_97 {L : List (Option Value)} {p : Nat} {a : Int} {st : List Value} {H : HP} {Q : Option Value → HP → Prop} : Go 92 97 L (vi a :: .ref p :: st) H Q ↔ Rd (aR' (hget H p) a) 92 98 L st H Q := G_aald fX8_power_97
theorem fX8_power_98 : ft 92 98 = some (.iload_n 3, 0, 0, 0, .null) := by decide +kernel
theorem gX8_power_98 {l0 l1 l2 l4 l5 : Option Value} {u : Int32} {st : List Value} {H : HP} {Q : Option Value → HP → Prop} : Go 92 98 [l0, l1, l2, some (.int u), l4, l5] st H Q ↔ Go 92 99 [l0, l1, l2, some (.int u), l4, l5] (.int u :: st) H Q := G_iload_n fX8_power_98 rfl
theorem fX8_power_99 : ft 92 99 = some (.aload_n 0, 0, 0, 0, .null) := by decide +kernel
theorem gX8_power_99 {l1 l2 l3 l4 l5 : Option Value} {u : Nat} {st : List Value} {H : HP} {Q : Option Value → HP → Prop} : Go 92 99 [some (.ref u), l1, l2, l3, l4, l5] st H Q ↔ Go 92 100 [some (.ref u), l1, l2, l3, l4, l5] (.ref u :: st) H Q := G_aload_n fX8_power_99 rfl
theorem fX8_power_100 : ft 92 100 = some (.getfield 44, 8, 6, 227, .null) := by decide +kernel
theorem gX8_power_100 {L : List (Option Value)} {p : Nat} {st : List Value} {H : HP} {Q : Option Value → HP → Prop} : Go 92 100 L (.ref p :: st) H Q ↔ Rd (gF' 8 6 (hget H p)) 92 103 L st H Q := G_getf fX8_power_100 ⟨rfl, rfl⟩
theorem fX8_power_103 : ft 92 103 = some (.invokevirtual 208, 20, 0, 599, .null) := by decide +kernel
theorem gX8_power_103 {L : List (Option Value)} {p : Nat} {a0 : Nat} {a1 : Nat} {a2 : Int32} {a3 : Nat}  {H : HP} {Q : Option Value → HP → Prop} : Go 92 103 L (.ref a3 :: .int a2 :: .ref a1 :: .ref a0 :: .ref p :: []) H Q ↔ (iso 2 (hget H p) = true ∧ Go 20 0 [some (.ref p), some (.ref a0), some (.ref a1), some (.int a2), some (.ref a3), none, none] [] H (Cont 92 106 L [] Q)) := G_cV (n := 4) (N := 7) (as := [.ref a3, .int a2, .ref a1, .ref a0]) (st := []) fX8_power_103 (by decide +kernel) rfl (Nat.le_of_ble_eq_true rfl) (Nat.le_of_ble_eq_true rfl) rfl
theorem fX8_power_106 : ft 92 106 = some (.iload 4, 0, 0, 0, .null) := by decide +kernel
theorem gX8_power_106 {l0 l1 l2 l3 l5 : Option Value} {u : Int32} {st : List Value} {H : HP} {Q : Option Value → HP → Prop} : Go 92 106 [l0, l1, l2, l3, some (.int u), l5] st H Q ↔ Go 92 108 [l0, l1, l2, l3, some (.int u), l5] (.int u :: st) H Q := G_iload fX8_power_106 rfl
theorem fX8_power_108 : ft 92 108 = some (.ireturn, 0, 0, 0, .null) := by decide +kernel
theorem gX8_power_108 {L : List (Option Value)} {u : Int32} {H : HP} {Q : Option Value → HP → Prop} : Go 92 108 L [.int u] H Q ↔ Q (some (.int u)) H := G_iret fX8_power_108 (by decide +kernel)
theorem fX8_series_0 : ft 93 0 = some (.aload_n 0, 0, 0, 0, .null) := by decide +kernel
theorem gX8_series_0 {l1 l2 l3 l4 : Option Value} {u : Nat} {st : List Value} {H : HP} {Q : Option Value → HP → Prop} : Go 93 0 [some (.ref u), l1, l2, l3, l4] st H Q ↔ Go 93 1 [some (.ref u), l1, l2, l3, l4] (.ref u :: st) H Q := G_aload_n fX8_series_0 rfl
theorem fX8_series_1 : ft 93 1 = some (.iconst 0, 0, 0, 0, .null) := by decide +kernel
theorem gX8_series_1 {L : List (Option Value)} {st : List Value} {H : HP} {Q : Option Value → HP → Prop} : Go 93 1 L st H Q ↔ Go 93 2 L (vi 0 :: st) H Q := G_iconst fX8_series_1
theorem fX8_series_2 : ft 93 2 = some (.putfield 64, 8, 12, 233, .null) := by decide +kernel
theorem gX8_series_2 {L : List (Option Value)} {p : Nat} {u : Int32} (hp : p ≠ 0) {st : List Value} {H : HP} {Q : Option Value → HP → Prop} : Go 93 2 L (.int u :: .ref p :: st) H Q ↔ Wr (pF' 8 12 (hget H p) (.int u)) p 93 5 L st H Q := G_putf fX8_series_2 ⟨⟨rfl, rfl⟩, rfl, Or.inl rfl⟩ hp
theorem fX8_series_5 : ft 93 5 = some (.iload_n 1, 0, 0, 0, .null) := by decide +kernel
theorem gX8_series_5 {l0 l2 l3 l4 : Option Value} {u : Int32} {st : List Value} {H : HP} {Q : Option Value → HP → Prop} : Go 93 5 [l0, some (.int u), l2, l3, l4] st H Q ↔ Go 93 6 [l0, some (.int u), l2, l3, l4] (.int u :: st) H Q := G_iload_n fX8_series_5 rfl
theorem fX8_series_6 : ft 93 6 = some (.invokestatic 85, 108, 0, 265, .null) := by decide +kernel
theorem gX8_series_6 {L : List (Option Value)} {a0 : Int32}  {H : HP} {Q : Option Value → HP → Prop} : Go 93 6 L (.int a0 :: []) H Q ↔ Go 108 0 [some (.int a0)] [] H (Cont 93 9 L [] Q) := G_cS (n := 1) (N := 1) (as := [.int a0]) (st := []) fX8_series_6 (by decide +kernel) rfl (Nat.le_of_ble_eq_true rfl) (Nat.le_of_ble_eq_true rfl) rfl
theorem fX8_series_9 : ft 93 9 = some (.ifCond .eq 10, 0, 0, 0, .null) := by decide +kernel
theorem gX8_series_9T {L : List (Option Value)} {a : Int} (c : (-2147483648 ≤ a ∧ a ≤ 2147483647) ∧ a = 0) {st : List Value} {H : HP} {Q : Option Value → HP → Prop} : Go 93 9 L (vi a :: st) H Q ↔ Go 93 19 L st H Q := G_ifT fX8_series_9 (by decide) c
theorem gX8_series_9F {L : List (Option Value)} {a : Int} (c : (-2147483648 ≤ a ∧ a ≤ 2147483647) ∧ ¬ (a = 0)) {st : List Value} {H : HP} {Q : Option Value → HP → Prop} : Go 93 9 L (vi a :: st) H Q ↔ Go 93 12 L st H Q := G_ifF (tg := 19) fX8_series_9 (by decide) c
theorem fX8_series_12 : ft 93 12 = some (.iload_n 2, 0, 0, 0, .null) := by decide +kernel
theorem gX8_series_12 {l0 l1 l3 l4 : Option Value} {u : Int32} {st : List Value} {H : HP} {Q : Option Value → HP → Prop} : Go 93 12 [l0, l1, some (.int u), l3, l4] st H Q ↔ Go 93 13 [l0, l1, some (.int u), l3, l4] (.int u :: st) H Q := G_iload_n fX8_series_12 rfl
theorem fX8_series_13 : ft 93 13 = some (.invokestatic 130, 109, 0, 370, .null) := by decide +kernel
theorem gX8_series_13 {L : List (Option Value)} {a0 : Int32}  {H : HP} {Q : Option Value → HP → Prop} : Go 93 13 L (.int a0 :: []) H Q ↔ Go 109 0 [some (.int a0)] [] H (Cont 93 16 L [] Q) := G_cS (n := 1) (N := 1) (as := [.int a0]) (st := []) fX8_series_13 (by decide +kernel) rfl (Nat.le_of_ble_eq_true rfl) (Nat.le_of_ble_eq_true rfl) rfl
theorem fX8_series_16 : ft 93 16 = some (.ifCond .ne 5, 0, 0, 0, .null) := by decide +kernel
theorem gX8_series_16T {L : List (Option Value)} {a : Int} (c : (-2147483648 ≤ a ∧ a ≤ 2147483647) ∧ ¬ a = 0) {st : List Value} {H : HP} {Q : Option Value → HP → Prop} : Go 93 16 L (vi a :: st) H Q ↔ Go 93 21 L st H Q := G_ifT fX8_series_16 (by decide) c
theorem gX8_series_16F {L : List (Option Value)} {a : Int} (c : (-2147483648 ≤ a ∧ a ≤ 2147483647) ∧ ¬ (¬ a = 0)) {st : List Value} {H : HP} {Q : Option Value → HP → Prop} : Go 93 16 L (vi a :: st) H Q ↔ Go 93 19 L st H Q := G_ifF (tg := 21) fX8_series_16 (by decide) c
theorem fX8_series_19 : ft 93 19 = some (.iconst (-1), 0, 0, 0, .null) := by decide +kernel
theorem gX8_series_19 {L : List (Option Value)} {st : List Value} {H : HP} {Q : Option Value → HP → Prop} : Go 93 19 L st H Q ↔ Go 93 20 L (vi (-1) :: st) H Q := G_iconst fX8_series_19
theorem fX8_series_20 : ft 93 20 = some (.ireturn, 0, 0, 0, .null) := by decide +kernel
theorem gX8_series_20 {L : List (Option Value)} {u : Int32} {H : HP} {Q : Option Value → HP → Prop} : Go 93 20 L [.int u] H Q ↔ Q (some (.int u)) H := G_iret fX8_series_20 (by decide +kernel)
theorem fX8_series_21 : ft 93 21 = some (.iload_n 3, 0, 0, 0, .null) := by decide +kernel
theorem gX8_series_21 {l0 l1 l2 l4 : Option Value} {u : Int32} {st : List Value} {H : HP} {Q : Option Value → HP → Prop} : Go 93 21 [l0, l1, l2, some (.int u), l4] st H Q ↔ Go 93 22 [l0, l1, l2, some (.int u), l4] (.int u :: st) H Q := G_iload_n fX8_series_21 rfl
theorem fX8_series_22 : ft 93 22 = some (.invokestatic 133, 112, 0, 373, .null) := by decide +kernel
theorem gX8_series_22 {L : List (Option Value)} {a0 : Int32}  {H : HP} {Q : Option Value → HP → Prop} : Go 93 22 L (.int a0 :: []) H Q ↔ Go 112 0 [some (.int a0)] [] H (Cont 93 25 L [] Q) := G_cS (n := 1) (N := 1) (as := [.int a0]) (st := []) fX8_series_22 (by decide +kernel) rfl (Nat.le_of_ble_eq_true rfl) (Nat.le_of_ble_eq_true rfl) rfl
theorem fX8_series_25 : ft 93 25 = some (.ifCond .ne 6, 0, 0, 0, .null) := by decide +kernel
theorem gX8_series_25T {L : List (Option Value)} {a : Int} (c : (-2147483648 ≤ a ∧ a ≤ 2147483647) ∧ ¬ a = 0) {st : List Value} {H : HP} {Q : Option Value → HP → Prop} : Go 93 25 L (vi a :: st) H Q ↔ Go 93 31 L st H Q := G_ifT fX8_series_25 (by decide) c
theorem gX8_series_25F {L : List (Option Value)} {a : Int} (c : (-2147483648 ≤ a ∧ a ≤ 2147483647) ∧ ¬ (¬ a = 0)) {st : List Value} {H : HP} {Q : Option Value → HP → Prop} : Go 93 25 L (vi a :: st) H Q ↔ Go 93 28 L st H Q := G_ifF (tg := 31) fX8_series_25 (by decide) c
theorem fX8_series_28 : ft 93 28 = some (.bipush (-2), 0, 0, 0, .null) := by decide +kernel
theorem gX8_series_28 {L : List (Option Value)} {st : List Value} {H : HP} {Q : Option Value → HP → Prop} : Go 93 28 L st H Q ↔ Go 93 30 L (vi (-2) :: st) H Q := G_bipush fX8_series_28 (by decide)
theorem fX8_series_30 : ft 93 30 = some (.ireturn, 0, 0, 0, .null) := by decide +kernel
theorem gX8_series_30 {L : List (Option Value)} {u : Int32} {H : HP} {Q : Option Value → HP → Prop} : Go 93 30 L [.int u] H Q ↔ Q (some (.int u)) H := G_iret fX8_series_30 (by decide +kernel)
theorem fX8_series_31 : ft 93 31 = some (.aload_n 0, 0, 0, 0, .null) := by decide +kernel
theorem gX8_series_31 {l1 l2 l3 l4 : Option Value} {u : Nat} {st : List Value} {H : HP} {Q : Option Value → HP → Prop} : Go 93 31 [some (.ref u), l1, l2, l3, l4] st H Q ↔ Go 93 32 [some (.ref u), l1, l2, l3, l4] (.ref u :: st) H Q := G_aload_n fX8_series_31 rfl
theorem fX8_series_32 : ft 93 32 = some (.getfield 11, 8, 0, 221, .null) := by decide +kernel
theorem gX8_series_32 {L : List (Option Value)} {p : Nat} {st : List Value} {H : HP} {Q : Option Value → HP → Prop} : Go 93 32 L (.ref p :: st) H Q ↔ Rd (gF' 8 0 (hget H p)) 93 35 L st H Q := G_getf fX8_series_32 ⟨rfl, rfl⟩
theorem fX8_series_35 : ft 93 35 = some (.iload_n 1, 0, 0, 0, .null) := by decide +kernel
theorem gX8_series_35 {l0 l2 l3 l4 : Option Value} {u : Int32} {st : List Value} {H : HP} {Q : Option Value → HP → Prop} : Go 93 35 [l0, some (.int u), l2, l3, l4] st H Q ↔ Go 93 36 [l0, some (.int u), l2, l3, l4] (.int u :: st) H Q := G_iload_n fX8_series_35 rfl
theorem fX8_series_36 : ft 93 36 = some (.aaload, 0, 0, 0, .null) := by decide +kernel
theorem gX8_series_36 {L : List (Option Value)} {p : Nat} {a : Int} {st : List Value} {H : HP} {Q : Option Value → HP → Prop} : Go 93 36 L (vi a :: .ref p :: st) H Q ↔ Rd (aR' (hget H p) a) 93 37 L st H Q := G_aald fX8_series_36
theorem fX8_series_37 : ft 93 37 = some (.astore 4, 0, 0, 0, .null) := by decide +kernel
theorem gX8_series_37 {l0 l1 l2 l3 l4 : Option Value} {u : Nat} {st : List Value} {H : HP} {Q : Option Value → HP → Prop} : Go 93 37 [l0, l1, l2, l3, l4] (.ref u :: st) H Q ↔ Go 93 39 [l0, l1, l2, l3, some (.ref u)] st H Q := G_astore fX8_series_37 rfl
theorem gX8_series_37N {l0 l1 l2 l3 l4 : Option Value} {st : List Value} {H : HP} {Q : Option Value → HP → Prop} : Go 93 37 [l0, l1, l2, l3, l4] (.null :: st) H Q ↔ Go 93 39 [l0, l1, l2, l3, some .null] st H Q := G_astoreN fX8_series_37 rfl
theorem fX8_series_39 : ft 93 39 = some (.aload 4, 0, 0, 0, .null) := by decide +kernel
theorem gX8_series_39 {l0 l1 l2 l3 : Option Value} {u : Nat} {st : List Value} {H : HP} {Q : Option Value → HP → Prop} : Go 93 39 [l0, l1, l2, l3, some (.ref u)] st H Q ↔ Go 93 41 [l0, l1, l2, l3, some (.ref u)] (.ref u :: st) H Q := G_aload fX8_series_39 rfl
theorem gX8_series_39N {l0 l1 l2 l3 : Option Value} {st : List Value} {H : HP} {Q : Option Value → HP → Prop} : Go 93 39 [l0, l1, l2, l3, some .null] st H Q ↔ Go 93 41 [l0, l1, l2, l3, some .null] (.null :: st) H Q := G_aloadN fX8_series_39 rfl
theorem fX8_series_41 : ft 93 41 = some (.ifnonnull 9, 0, 0, 0, .null) := by decide +kernel
theorem gX8_series_41T {L : List (Option Value)} {p : Nat} {st : List Value} {H : HP} {Q : Option Value → HP → Prop} : Go 93 41 L ((.ref p) :: st) H Q ↔ Go 93 50 L st H Q := G_nnT fX8_series_41 (by decide)
theorem gX8_series_41F {L : List (Option Value)} {st : List Value} {H : HP} {Q : Option Value → HP → Prop} : Go 93 41 L (.null :: st) H Q ↔ Go 93 44 L st H Q := G_nnF (tg := 50) fX8_series_41 (by decide)
theorem fX8_series_44 : ft 93 44 = some (.aload_n 0, 0, 0, 0, .null) := by decide +kernel
theorem gX8_series_44 {l1 l2 l3 l4 : Option Value} {u : Nat} {st : List Value} {H : HP} {Q : Option Value → HP → Prop} : Go 93 44 [some (.ref u), l1, l2, l3, l4] st H Q ↔ Go 93 45 [some (.ref u), l1, l2, l3, l4] (.ref u :: st) H Q := G_aload_n fX8_series_44 rfl
theorem fX8_series_45 : ft 93 45 = some (.iconst 1, 0, 0, 0, .null) := by decide +kernel
theorem gX8_series_45 {L : List (Option Value)} {st : List Value} {H : HP} {Q : Option Value → HP → Prop} : Go 93 45 L st H Q ↔ Go 93 46 L (vi 1 :: st) H Q := G_iconst fX8_series_45
theorem fX8_series_46 : ft 93 46 = some (.invokevirtual 92, 105, 0, 271, .null) := by decide +kernel
theorem gX8_series_46 {L : List (Option Value)} {p : Nat} {a0 : Int32}  {H : HP} {Q : Option Value → HP → Prop} : Go 93 46 L (.int a0 :: .ref p :: []) H Q ↔ (iso 8 (hget H p) = true ∧ Go 105 0 [some (.ref p), some (.int a0)] [] H (Cont 93 49 L [] Q)) := G_cV (n := 1) (N := 2) (as := [.int a0]) (st := []) fX8_series_46 (by decide +kernel) rfl (Nat.le_of_ble_eq_true rfl) (Nat.le_of_ble_eq_true rfl) rfl
theorem fX8_series_49 : ft 93 49 = some (.ireturn, 0, 0, 0, .null) := by decide +kernel
theorem gX8_series_49 {L : List (Option Value)} {u : Int32} {H : HP} {Q : Option Value → HP → Prop} : Go 93 49 L [.int u] H Q ↔ Q (some (.int u)) H := G_iret fX8_series_49 (by decide +kernel)
theorem fX8_series_50 : ft 93 50 = some (.aload 4, 0, 0, 0, .null) := by decide +kernel
theorem gX8_series_50 {l0 l1 l2 l3 : Option Value} {u : Nat} {st : List Value} {H : HP} {Q : Option Value → HP → Prop} : Go 93 50 [l0, l1, l2, l3, some (.ref u)] st H Q ↔ Go 93 52 [l0, l1, l2, l3, some (.ref u)] (.ref u :: st) H Q := G_aload fX8_series_50 rfl
theorem gX8_series_50N {l0 l1 l2 l3 : Option Value} {st : List Value} {H : HP} {Q : Option Value → HP → Prop} : Go 93 50 [l0, l1, l2, l3, some .null] st H Q ↔ Go 93 52 [l0, l1, l2, l3, some .null] (.null :: st) H Q := G_aloadN fX8_series_50 rfl
theorem fX8_series_52 : ft 93 52 = some (.getfield 99, 5, 0, 282, .null) := by decide +kernel
theorem gX8_series_52 {L : List (Option Value)} {p : Nat} {st : List Value} {H : HP} {Q : Option Value → HP → Prop} : Go 93 52 L (.ref p :: st) H Q ↔ Rd (gF' 5 0 (hget H p)) 93 55 L st H Q := G_getf fX8_series_52 ⟨rfl, rfl⟩
theorem fX8_series_55 : ft 93 55 = some (.iconst 3, 0, 0, 0, .null) := by decide +kernel
theorem gX8_series_55 {L : List (Option Value)} {st : List Value} {H : HP} {Q : Option Value → HP → Prop} : Go 93 55 L st H Q ↔ Go 93 56 L (vi 3 :: st) H Q := G_iconst fX8_series_55
theorem fX8_series_56 : ft 93 56 = some (.if_icmp .le 9, 0, 0, 0, .null) := by decide +kernel
theorem gX8_series_56T {L : List (Option Value)} {a b : Int} (c : (-2147483648 ≤ a ∧ a ≤ 2147483647 ∧ -2147483648 ≤ b ∧ b ≤ 2147483647) ∧ a ≤ b) {st : List Value} {H : HP} {Q : Option Value → HP → Prop} : Go 93 56 L (vi b :: vi a :: st) H Q ↔ Go 93 65 L st H Q := G_icT fX8_series_56 (by decide) c
theorem gX8_series_56F {L : List (Option Value)} {a b : Int} (c : (-2147483648 ≤ a ∧ a ≤ 2147483647 ∧ -2147483648 ≤ b ∧ b ≤ 2147483647) ∧ ¬ (a ≤ b)) {st : List Value} {H : HP} {Q : Option Value → HP → Prop} : Go 93 56 L (vi b :: vi a :: st) H Q ↔ Go 93 59 L st H Q := G_icF (tg := 65) fX8_series_56 (by decide) c
theorem fX8_series_59 : ft 93 59 = some (.aload_n 0, 0, 0, 0, .null) := by decide +kernel
theorem gX8_series_59 {l1 l2 l3 l4 : Option Value} {u : Nat} {st : List Value} {H : HP} {Q : Option Value → HP → Prop} : Go 93 59 [some (.ref u), l1, l2, l3, l4] st H Q ↔ Go 93 60 [some (.ref u), l1, l2, l3, l4] (.ref u :: st) H Q := G_aload_n fX8_series_59 rfl
theorem fX8_series_60 : ft 93 60 = some (.iconst 2, 0, 0, 0, .null) := by decide +kernel
theorem gX8_series_60 {L : List (Option Value)} {st : List Value} {H : HP} {Q : Option Value → HP → Prop} : Go 93 60 L st H Q ↔ Go 93 61 L (vi 2 :: st) H Q := G_iconst fX8_series_60
theorem fX8_series_61 : ft 93 61 = some (.invokevirtual 92, 105, 0, 271, .null) := by decide +kernel
theorem gX8_series_61 {L : List (Option Value)} {p : Nat} {a0 : Int32}  {H : HP} {Q : Option Value → HP → Prop} : Go 93 61 L (.int a0 :: .ref p :: []) H Q ↔ (iso 8 (hget H p) = true ∧ Go 105 0 [some (.ref p), some (.int a0)] [] H (Cont 93 64 L [] Q)) := G_cV (n := 1) (N := 2) (as := [.int a0]) (st := []) fX8_series_61 (by decide +kernel) rfl (Nat.le_of_ble_eq_true rfl) (Nat.le_of_ble_eq_true rfl) rfl
theorem fX8_series_64 : ft 93 64 = some (.ireturn, 0, 0, 0, .null) := by decide +kernel
theorem gX8_series_64 {L : List (Option Value)} {u : Int32} {H : HP} {Q : Option Value → HP → Prop} : Go 93 64 L [.int u] H Q ↔ Q (some (.int u)) H := G_iret fX8_series_64 (by decide +kernel)
theorem fX8_series_65 : ft 93 65 = some (.aload_n 0, 0, 0, 0, .null) := by decide +kernel
theorem gX8_series_65 {l1 l2 l3 l4 : Option Value} {u : Nat} {st : List Value} {H : HP} {Q : Option Value → HP → Prop} : Go 93 65 [some (.ref u), l1, l2, l3, l4] st H Q ↔ Go 93 66 [some (.ref u), l1, l2, l3, l4] (.ref u :: st) H Q := G_aload_n fX8_series_65 rfl
theorem fX8_series_66 : ft 93 66 = some (.getfield 17, 8, 1, 222, .null) := by decide +kernel
theorem gX8_series_66 {L : List (Option Value)} {p : Nat} {st : List Value} {H : HP} {Q : Option Value → HP → Prop} : Go 93 66 L (.ref p :: st) H Q ↔ Rd (gF' 8 1 (hget H p)) 93 69 L st H Q := G_getf fX8_series_66 ⟨rfl, rfl⟩
theorem fX8_series_69 : ft 93 69 = some (.iload_n 2, 0, 0, 0, .null) := by decide +kernel
theorem gX8_series_69 {l0 l1 l3 l4 : Option Value} {u : Int32} {st : List Value} {H : HP} {Q : Option Value → HP → Prop} : Go 93 69 [l0, l1, some (.int u), l3, l4] st H Q ↔ Go 93 70 [l0, l1, some (.int u), l3, l4] (.int u :: st) H Q := G_iload_n fX8_series_69 rfl
theorem fX8_series_70 : ft 93 70 = some (.aaload, 0, 0, 0, .null) := by decide +kernel
theorem gX8_series_70 {L : List (Option Value)} {p : Nat} {a : Int} {st : List Value} {H : HP} {Q : Option Value → HP → Prop} : Go 93 70 L (vi a :: .ref p :: st) H Q ↔ Rd (aR' (hget H p) a) 93 71 L st H Q := G_aald fX8_series_70
theorem fX8_series_71 : ft 93 71 = some (.aload 4, 0, 0, 0, .null) := by decide +kernel
theorem gX8_series_71 {l0 l1 l2 l3 : Option Value} {u : Nat} {st : List Value} {H : HP} {Q : Option Value → HP → Prop} : Go 93 71 [l0, l1, l2, l3, some (.ref u)] st H Q ↔ Go 93 73 [l0, l1, l2, l3, some (.ref u)] (.ref u :: st) H Q := G_aload fX8_series_71 rfl
theorem gX8_series_71N {l0 l1 l2 l3 : Option Value} {st : List Value} {H : HP} {Q : Option Value → HP → Prop} : Go 93 71 [l0, l1, l2, l3, some .null] st H Q ↔ Go 93 73 [l0, l1, l2, l3, some .null] (.null :: st) H Q := G_aloadN fX8_series_71 rfl
theorem fX8_series_73 : ft 93 73 = some (.getfield 109, 5, 1, 286, .null) := by decide +kernel
theorem gX8_series_73 {L : List (Option Value)} {p : Nat} {st : List Value} {H : HP} {Q : Option Value → HP → Prop} : Go 93 73 L (.ref p :: st) H Q ↔ Rd (gF' 5 1 (hget H p)) 93 76 L st H Q := G_getf fX8_series_73 ⟨rfl, rfl⟩
theorem fX8_series_76 : ft 93 76 = some (.iconst 0, 0, 0, 0, .null) := by decide +kernel
theorem gX8_series_76 {L : List (Option Value)} {st : List Value} {H : HP} {Q : Option Value → HP → Prop} : Go 93 76 L st H Q ↔ Go 93 77 L (vi 0 :: st) H Q := G_iconst fX8_series_76
theorem fX8_series_77 : ft 93 77 = some (.laload, 0, 0, 0, .null) := by decide +kernel
theorem gX8_series_77 {L : List (Option Value)} {p : Nat} {a : Int} {st : List Value} {H : HP} {Q : Option Value → HP → Prop} : Go 93 77 L (vi a :: .ref p :: st) H Q ↔ Rd (aL' (hget H p) a) 93 78 L st H Q := G_lald fX8_series_77
theorem fX8_series_78 : ft 93 78 = some (.invokevirtual 212, 29, 0, 612, .null) := by decide +kernel
theorem gX8_series_78 {L : List (Option Value)} {p : Nat} {a0 : Int64}  {H : HP} {Q : Option Value → HP → Prop} : Go 93 78 L (.long a0 :: .ref p :: []) H Q ↔ (iso 3 (hget H p) = true ∧ Go 29 0 [some (.ref p), some (.long a0), none] [] H (Cont 93 81 L [] Q)) := G_cV (n := 1) (N := 3) (as := [.long a0]) (st := []) fX8_series_78 (by decide +kernel) rfl (Nat.le_of_ble_eq_true rfl) (Nat.le_of_ble_eq_true rfl) rfl
theorem fX8_series_81 : ft 93 81 = some (.lconst 0, 0, 0, 0, .null) := by decide +kernel
theorem gX8_series_81 {L : List (Option Value)} {st : List Value} {H : HP} {Q : Option Value → HP → Prop} : Go 93 81 L st H Q ↔ Go 93 82 L (vl 0 :: st) H Q := G_lconst fX8_series_81 (by decide)
theorem fX8_series_82 : ft 93 82 = some (.lcmp, 0, 0, 0, .null) := by decide +kernel
theorem fX8_series_82' : ft 93 83 = some (.ifCond .ne 9, 0, 0, 0, .null) := by decide +kernel
theorem gX8_series_82T {L : List (Option Value)} {a b : Int} (c : (-9223372036854775808 ≤ a ∧ a ≤ 9223372036854775807 ∧ -9223372036854775808 ≤ b ∧ b ≤ 9223372036854775807) ∧ ¬ a = b) {st : List Value} {H : HP} {Q : Option Value → HP → Prop} : Go 93 82 L (vl b :: vl a :: st) H Q ↔ Go 93 92 L st H Q := G_lcT fX8_series_82 fX8_series_82' (by decide) c
theorem gX8_series_82F {L : List (Option Value)} {a b : Int} (c : (-9223372036854775808 ≤ a ∧ a ≤ 9223372036854775807 ∧ -9223372036854775808 ≤ b ∧ b ≤ 9223372036854775807) ∧ ¬ (¬ a = b)) {st : List Value} {H : HP} {Q : Option Value → HP → Prop} : Go 93 82 L (vl b :: vl a :: st) H Q ↔ Go 93 86 L st H Q := G_lcF (tg := 92) fX8_series_82 fX8_series_82' (by decide) c
theorem fX8_series_83 : ft 93 83 = some (.ifCond .ne 9, 0, 0, 0, .null) := by decide +kernel
theorem gX8_series_83T {L : List (Option Value)} {a : Int} (c : (-2147483648 ≤ a ∧ a ≤ 2147483647) ∧ ¬ a = 0) {st : List Value} {H : HP} {Q : Option Value → HP → Prop} : Go 93 83 L (vi a :: st) H Q ↔ Go 93 92 L st H Q := G_ifT fX8_series_83 (by decide) c
theorem gX8_series_83F {L : List (Option Value)} {a : Int} (c : (-2147483648 ≤ a ∧ a ≤ 2147483647) ∧ ¬ (¬ a = 0)) {st : List Value} {H : HP} {Q : Option Value → HP → Prop} : Go 93 83 L (vi a :: st) H Q ↔ Go 93 86 L st H Q := G_ifF (tg := 92) fX8_series_83 (by decide) c
theorem fX8_series_86 : ft 93 86 = some (.aload_n 0, 0, 0, 0, .null) := by decide +kernel
theorem gX8_series_86 {l1 l2 l3 l4 : Option Value} {u : Nat} {st : List Value} {H : HP} {Q : Option Value → HP → Prop} : Go 93 86 [some (.ref u), l1, l2, l3, l4] st H Q ↔ Go 93 87 [some (.ref u), l1, l2, l3, l4] (.ref u :: st) H Q := G_aload_n fX8_series_86 rfl
theorem fX8_series_87 : ft 93 87 = some (.iconst 5, 0, 0, 0, .null) := by decide +kernel
theorem gX8_series_87 {L : List (Option Value)} {st : List Value} {H : HP} {Q : Option Value → HP → Prop} : Go 93 87 L st H Q ↔ Go 93 88 L (vi 5 :: st) H Q := G_iconst fX8_series_87
theorem fX8_series_88 : ft 93 88 = some (.invokevirtual 92, 105, 0, 271, .null) := by decide +kernel
theorem gX8_series_88 {L : List (Option Value)} {p : Nat} {a0 : Int32}  {H : HP} {Q : Option Value → HP → Prop} : Go 93 88 L (.int a0 :: .ref p :: []) H Q ↔ (iso 8 (hget H p) = true ∧ Go 105 0 [some (.ref p), some (.int a0)] [] H (Cont 93 91 L [] Q)) := G_cV (n := 1) (N := 2) (as := [.int a0]) (st := []) fX8_series_88 (by decide +kernel) rfl (Nat.le_of_ble_eq_true rfl) (Nat.le_of_ble_eq_true rfl) rfl
theorem fX8_series_91 : ft 93 91 = some (.ireturn, 0, 0, 0, .null) := by decide +kernel
theorem gX8_series_91 {L : List (Option Value)} {u : Int32} {H : HP} {Q : Option Value → HP → Prop} : Go 93 91 L [.int u] H Q ↔ Q (some (.int u)) H := G_iret fX8_series_91 (by decide +kernel)
theorem fX8_series_92 : ft 93 92 = some (.aload_n 0, 0, 0, 0, .null) := by decide +kernel
theorem gX8_series_92 {l1 l2 l3 l4 : Option Value} {u : Nat} {st : List Value} {H : HP} {Q : Option Value → HP → Prop} : Go 93 92 [some (.ref u), l1, l2, l3, l4] st H Q ↔ Go 93 93 [some (.ref u), l1, l2, l3, l4] (.ref u :: st) H Q := G_aload_n fX8_series_92 rfl
theorem fX8_series_93 : ft 93 93 = some (.getfield 44, 8, 6, 227, .null) := by decide +kernel
theorem gX8_series_93 {L : List (Option Value)} {p : Nat} {st : List Value} {H : HP} {Q : Option Value → HP → Prop} : Go 93 93 L (.ref p :: st) H Q ↔ Rd (gF' 8 6 (hget H p)) 93 96 L st H Q := G_getf fX8_series_93 ⟨rfl, rfl⟩
theorem fX8_series_96 : ft 93 96 = some (.iload_n 3, 0, 0, 0, .null) := by decide +kernel
theorem gX8_series_96 {l0 l1 l2 l4 : Option Value} {u : Int32} {st : List Value} {H : HP} {Q : Option Value → HP → Prop} : Go 93 96 [l0, l1, l2, some (.int u), l4] st H Q ↔ Go 93 97 [l0, l1, l2, some (.int u), l4] (.int u :: st) H Q := G_iload_n fX8_series_96 rfl
theorem fX8_series_97 : ft 93 97 = some (.putfield 143, 6, 1, 111, .null) := by decide +kernel
theorem gX8_series_97 {L : List (Option Value)} {p : Nat} {u : Int32} (hp : p ≠ 0) {st : List Value} {H : HP} {Q : Option Value → HP → Prop} : Go 93 97 L (.int u :: .ref p :: st) H Q ↔ Wr (pF' 6 1 (hget H p) (.int u)) p 93 100 L st H Q := G_putf fX8_series_97 ⟨⟨rfl, rfl⟩, rfl, Or.inl rfl⟩ hp
theorem fX8_series_100 : ft 93 100 = some (.aload_n 0, 0, 0, 0, .null) := by decide +kernel
theorem gX8_series_100 {l1 l2 l3 l4 : Option Value} {u : Nat} {st : List Value} {H : HP} {Q : Option Value → HP → Prop} : Go 93 100 [some (.ref u), l1, l2, l3, l4] st H Q ↔ Go 93 101 [some (.ref u), l1, l2, l3, l4] (.ref u :: st) H Q := G_aload_n fX8_series_100 rfl
theorem fX8_series_101 : ft 93 101 = some (.getfield 24, 8, 3, 224, .null) := by decide +kernel
theorem gX8_series_101 {L : List (Option Value)} {p : Nat} {st : List Value} {H : HP} {Q : Option Value → HP → Prop} : Go 93 101 L (.ref p :: st) H Q ↔ Rd (gF' 8 3 (hget H p)) 93 104 L st H Q := G_getf fX8_series_101 ⟨rfl, rfl⟩
theorem fX8_series_104 : ft 93 104 = some (.aload 4, 0, 0, 0, .null) := by decide +kernel
theorem gX8_series_104 {l0 l1 l2 l3 : Option Value} {u : Nat} {st : List Value} {H : HP} {Q : Option Value → HP → Prop} : Go 93 104 [l0, l1, l2, l3, some (.ref u)] st H Q ↔ Go 93 106 [l0, l1, l2, l3, some (.ref u)] (.ref u :: st) H Q := G_aload fX8_series_104 rfl
theorem gX8_series_104N {l0 l1 l2 l3 : Option Value} {st : List Value} {H : HP} {Q : Option Value → HP → Prop} : Go 93 104 [l0, l1, l2, l3, some .null] st H Q ↔ Go 93 106 [l0, l1, l2, l3, some .null] (.null :: st) H Q := G_aloadN fX8_series_104 rfl
theorem fX8_series_106 : ft 93 106 = some (.aload_n 0, 0, 0, 0, .null) := by decide +kernel
theorem gX8_series_106 {l1 l2 l3 l4 : Option Value} {u : Nat} {st : List Value} {H : HP} {Q : Option Value → HP → Prop} : Go 93 106 [some (.ref u), l1, l2, l3, l4] st H Q ↔ Go 93 107 [some (.ref u), l1, l2, l3, l4] (.ref u :: st) H Q := G_aload_n fX8_series_106 rfl
theorem fX8_series_107 : ft 93 107 = some (.getfield 17, 8, 1, 222, .null) := by decide +kernel
theorem gX8_series_107 {L : List (Option Value)} {p : Nat} {st : List Value} {H : HP} {Q : Option Value → HP → Prop} : Go 93 107 L (.ref p :: st) H Q ↔ Rd (gF' 8 1 (hget H p)) 93 110 L st H Q := G_getf fX8_series_107 ⟨rfl, rfl⟩
theorem fX8_series_110 : ft 93 110 = some (.iload_n 2, 0, 0, 0, .null) := by decide +kernel
theorem gX8_series_110 {l0 l1 l3 l4 : Option Value} {u : Int32} {st : List Value} {H : HP} {Q : Option Value → HP → Prop} : Go 93 110 [l0, l1, some (.int u), l3, l4] st H Q ↔ Go 93 111 [l0, l1, some (.int u), l3, l4] (.int u :: st) H Q := G_iload_n fX8_series_110 rfl
theorem fX8_series_111 : ft 93 111 = some (.aaload, 0, 0, 0, .null) := by decide +kernel
theorem gX8_series_111 {L : List (Option Value)} {p : Nat} {a : Int} {st : List Value} {H : HP} {Q : Option Value → HP → Prop} : Go 93 111 L (vi a :: .ref p :: st) H Q ↔ Rd (aR' (hget H p) a) 93 112 L st H Q := G_aald fX8_series_111
theorem fX8_series_112 : ft 93 112 = some (.aload_n 0, 0, 0, 0, .null) := by decide +kernel
theorem gX8_series_112 {l1 l2 l3 l4 : Option Value} {u : Nat} {st : List Value} {H : HP} {Q : Option Value → HP → Prop} : Go 93 112 [some (.ref u), l1, l2, l3, l4] st H Q ↔ Go 93 113 [some (.ref u), l1, l2, l3, l4] (.ref u :: st) H Q := G_aload_n fX8_series_112 rfl
theorem fX8_series_113 : ft 93 113 = some (.getfield 44, 8, 6, 227, .null) := by decide +kernel
theorem gX8_series_113 {L : List (Option Value)} {p : Nat} {st : List Value} {H : HP} {Q : Option Value → HP → Prop} : Go 93 113 L (.ref p :: st) H Q ↔ Rd (gF' 8 6 (hget H p)) 93 116 L st H Q := G_getf fX8_series_113 ⟨rfl, rfl⟩
theorem fX8_series_116 : ft 93 116 = some (.invokevirtual 215, 22, 0, 613, .null) := by decide +kernel
theorem gX8_series_116 {L : List (Option Value)} {p : Nat} {a0 : Nat} {a1 : Nat} {a2 : Nat}  {H : HP} {Q : Option Value → HP → Prop} : Go 93 116 L (.ref a2 :: .ref a1 :: .ref a0 :: .ref p :: []) H Q ↔ (iso 2 (hget H p) = true ∧ Go 22 0 [some (.ref p), some (.ref a0), some (.ref a1), some (.ref a2), none, none, none, none, none, none] [] H (Cont 93 119 L [] Q)) := G_cV (n := 3) (N := 10) (as := [.ref a2, .ref a1, .ref a0]) (st := []) fX8_series_116 (by decide +kernel) rfl (Nat.le_of_ble_eq_true rfl) (Nat.le_of_ble_eq_true rfl) rfl
theorem fX8_series_119 : ft 93 119 = some (.iload_n 3, 0, 0, 0, .null) := by decide +kernel
theorem gX8_series_119 {l0 l1 l2 l4 : Option Value} {u : Int32} {st : List Value} {H : HP} {Q : Option Value → HP → Prop} : Go 93 119 [l0, l1, l2, some (.int u), l4] st H Q ↔ Go 93 120 [l0, l1, l2, some (.int u), l4] (.int u :: st) H Q := G_iload_n fX8_series_119 rfl
theorem fX8_series_120 : ft 93 120 = some (.ireturn, 0, 0, 0, .null) := by decide +kernel
theorem gX8_series_120 {L : List (Option Value)} {u : Int32} {H : HP} {Q : Option Value → HP → Prop} : Go 93 120 L [.int u] H Q ↔ Q (some (.int u)) H := G_iret fX8_series_120 (by decide +kernel)
theorem fX8_divide_0 : ft 94 0 = some (.aload_n 0, 0, 0, 0, .null) := by decide +kernel
theorem gX8_divide_0 {l1 l2 l3 l4 l5 l6 : Option Value} {u : Nat} {st : List Value} {H : HP} {Q : Option Value → HP → Prop} : Go 94 0 [some (.ref u), l1, l2, l3, l4, l5, l6] st H Q ↔ Go 94 1 [some (.ref u), l1, l2, l3, l4, l5, l6] (.ref u :: st) H Q := G_aload_n fX8_divide_0 rfl
theorem fX8_divide_1 : ft 94 1 = some (.iconst 0, 0, 0, 0, .null) := by decide +kernel
theorem gX8_divide_1 {L : List (Option Value)} {st : List Value} {H : HP} {Q : Option Value → HP → Prop} : Go 94 1 L st H Q ↔ Go 94 2 L (vi 0 :: st) H Q := G_iconst fX8_divide_1
theorem fX8_divide_2 : ft 94 2 = some (.putfield 64, 8, 12, 233, .null) := by decide +kernel
theorem gX8_divide_2 {L : List (Option Value)} {p : Nat} {u : Int32} (hp : p ≠ 0) {st : List Value} {H : HP} {Q : Option Value → HP → Prop} : Go 94 2 L (.int u :: .ref p :: st) H Q ↔ Wr (pF' 8 12 (hget H p) (.int u)) p 94 5 L st H Q := G_putf fX8_divide_2 ⟨⟨rfl, rfl⟩, rfl, Or.inl rfl⟩ hp
theorem fX8_divide_5 : ft 94 5 = some (.iload_n 1, 0, 0, 0, .null) := by decide +kernel
theorem gX8_divide_5 {l0 l2 l3 l4 l5 l6 : Option Value} {u : Int32} {st : List Value} {H : HP} {Q : Option Value → HP → Prop} : Go 94 5 [l0, some (.int u), l2, l3, l4, l5, l6] st H Q ↔ Go 94 6 [l0, some (.int u), l2, l3, l4, l5, l6] (.int u :: st) H Q := G_iload_n fX8_divide_5 rfl
theorem fX8_divide_6 : ft 94 6 = some (.invokestatic 85, 108, 0, 265, .null) := by decide +kernel
theorem gX8_divide_6 {L : List (Option Value)} {a0 : Int32}  {H : HP} {Q : Option Value → HP → Prop} : Go 94 6 L (.int a0 :: []) H Q ↔ Go 108 0 [some (.int a0)] [] H (Cont 94 9 L [] Q) := G_cS (n := 1) (N := 1) (as := [.int a0]) (st := []) fX8_divide_6 (by decide +kernel) rfl (Nat.le_of_ble_eq_true rfl) (Nat.le_of_ble_eq_true rfl) rfl
theorem fX8_divide_9 : ft 94 9 = some (.ifCond .eq 17, 0, 0, 0, .null) := by decide +kernel
theorem gX8_divide_9T {L : List (Option Value)} {a : Int} (c : (-2147483648 ≤ a ∧ a ≤ 2147483647) ∧ a = 0) {st : List Value} {H : HP} {Q : Option Value → HP → Prop} : Go 94 9 L (vi a :: st) H Q ↔ Go 94 26 L st H Q := G_ifT fX8_divide_9 (by decide) c
theorem gX8_divide_9F {L : List (Option Value)} {a : Int} (c : (-2147483648 ≤ a ∧ a ≤ 2147483647) ∧ ¬ (a = 0)) {st : List Value} {H : HP} {Q : Option Value → HP → Prop} : Go 94 9 L (vi a :: st) H Q ↔ Go 94 12 L st H Q := G_ifF (tg := 26) fX8_divide_9 (by decide) c
theorem fX8_divide_12 : ft 94 12 = some (.iload_n 2, 0, 0, 0, .null) := by decide +kernel
theorem gX8_divide_12 {l0 l1 l3 l4 l5 l6 : Option Value} {u : Int32} {st : List Value} {H : HP} {Q : Option Value → HP → Prop} : Go 94 12 [l0, l1, some (.int u), l3, l4, l5, l6] st H Q ↔ Go 94 13 [l0, l1, some (.int u), l3, l4, l5, l6] (.int u :: st) H Q := G_iload_n fX8_divide_12 rfl
theorem fX8_divide_13 : ft 94 13 = some (.invokestatic 85, 108, 0, 265, .null) := by decide +kernel
theorem gX8_divide_13 {L : List (Option Value)} {a0 : Int32}  {H : HP} {Q : Option Value → HP → Prop} : Go 94 13 L (.int a0 :: []) H Q ↔ Go 108 0 [some (.int a0)] [] H (Cont 94 16 L [] Q) := G_cS (n := 1) (N := 1) (as := [.int a0]) (st := []) fX8_divide_13 (by decide +kernel) rfl (Nat.le_of_ble_eq_true rfl) (Nat.le_of_ble_eq_true rfl) rfl
theorem fX8_divide_16 : ft 94 16 = some (.ifCond .eq 10, 0, 0, 0, .null) := by decide +kernel
theorem gX8_divide_16T {L : List (Option Value)} {a : Int} (c : (-2147483648 ≤ a ∧ a ≤ 2147483647) ∧ a = 0) {st : List Value} {H : HP} {Q : Option Value → HP → Prop} : Go 94 16 L (vi a :: st) H Q ↔ Go 94 26 L st H Q := G_ifT fX8_divide_16 (by decide) c
theorem gX8_divide_16F {L : List (Option Value)} {a : Int} (c : (-2147483648 ≤ a ∧ a ≤ 2147483647) ∧ ¬ (a = 0)) {st : List Value} {H : HP} {Q : Option Value → HP → Prop} : Go 94 16 L (vi a :: st) H Q ↔ Go 94 19 L st H Q := G_ifF (tg := 26) fX8_divide_16 (by decide) c
theorem fX8_divide_19 : ft 94 19 = some (.iload_n 3, 0, 0, 0, .null) := by decide +kernel
theorem gX8_divide_19 {l0 l1 l2 l4 l5 l6 : Option Value} {u : Int32} {st : List Value} {H : HP} {Q : Option Value → HP → Prop} : Go 94 19 [l0, l1, l2, some (.int u), l4, l5, l6] st H Q ↔ Go 94 20 [l0, l1, l2, some (.int u), l4, l5, l6] (.int u :: st) H Q := G_iload_n fX8_divide_19 rfl
theorem fX8_divide_20 : ft 94 20 = some (.invokestatic 130, 109, 0, 370, .null) := by decide +kernel
theorem gX8_divide_20 {L : List (Option Value)} {a0 : Int32}  {H : HP} {Q : Option Value → HP → Prop} : Go 94 20 L (.int a0 :: []) H Q ↔ Go 109 0 [some (.int a0)] [] H (Cont 94 23 L [] Q) := G_cS (n := 1) (N := 1) (as := [.int a0]) (st := []) fX8_divide_20 (by decide +kernel) rfl (Nat.le_of_ble_eq_true rfl) (Nat.le_of_ble_eq_true rfl) rfl
theorem fX8_divide_23 : ft 94 23 = some (.ifCond .ne 5, 0, 0, 0, .null) := by decide +kernel
theorem gX8_divide_23T {L : List (Option Value)} {a : Int} (c : (-2147483648 ≤ a ∧ a ≤ 2147483647) ∧ ¬ a = 0) {st : List Value} {H : HP} {Q : Option Value → HP → Prop} : Go 94 23 L (vi a :: st) H Q ↔ Go 94 28 L st H Q := G_ifT fX8_divide_23 (by decide) c
theorem gX8_divide_23F {L : List (Option Value)} {a : Int} (c : (-2147483648 ≤ a ∧ a ≤ 2147483647) ∧ ¬ (¬ a = 0)) {st : List Value} {H : HP} {Q : Option Value → HP → Prop} : Go 94 23 L (vi a :: st) H Q ↔ Go 94 26 L st H Q := G_ifF (tg := 28) fX8_divide_23 (by decide) c
theorem fX8_divide_26 : ft 94 26 = some (.iconst (-1), 0, 0, 0, .null) := by decide +kernel
theorem gX8_divide_26 {L : List (Option Value)} {st : List Value} {H : HP} {Q : Option Value → HP → Prop} : Go 94 26 L st H Q ↔ Go 94 27 L (vi (-1) :: st) H Q := G_iconst fX8_divide_26
theorem fX8_divide_27 : ft 94 27 = some (.ireturn, 0, 0, 0, .null) := by decide +kernel
theorem gX8_divide_27 {L : List (Option Value)} {u : Int32} {H : HP} {Q : Option Value → HP → Prop} : Go 94 27 L [.int u] H Q ↔ Q (some (.int u)) H := G_iret fX8_divide_27 (by decide +kernel)
theorem fX8_divide_28 : ft 94 28 = some (.aload_n 0, 0, 0, 0, .null) := by decide +kernel
theorem gX8_divide_28 {l1 l2 l3 l4 l5 l6 : Option Value} {u : Nat} {st : List Value} {H : HP} {Q : Option Value → HP → Prop} : Go 94 28 [some (.ref u), l1, l2, l3, l4, l5, l6] st H Q ↔ Go 94 29 [some (.ref u), l1, l2, l3, l4, l5, l6] (.ref u :: st) H Q := G_aload_n fX8_divide_28 rfl
theorem fX8_divide_29 : ft 94 29 = some (.getfield 11, 8, 0, 221, .null) := by decide +kernel
theorem gX8_divide_29 {L : List (Option Value)} {p : Nat} {st : List Value} {H : HP} {Q : Option Value → HP → Prop} : Go 94 29 L (.ref p :: st) H Q ↔ Rd (gF' 8 0 (hget H p)) 94 32 L st H Q := G_getf fX8_divide_29 ⟨rfl, rfl⟩
theorem fX8_divide_32 : ft 94 32 = some (.iload_n 1, 0, 0, 0, .null) := by decide +kernel
theorem gX8_divide_32 {l0 l2 l3 l4 l5 l6 : Option Value} {u : Int32} {st : List Value} {H : HP} {Q : Option Value → HP → Prop} : Go 94 32 [l0, some (.int u), l2, l3, l4, l5, l6] st H Q ↔ Go 94 33 [l0, some (.int u), l2, l3, l4, l5, l6] (.int u :: st) H Q := G_iload_n fX8_divide_32 rfl
theorem fX8_divide_33 : ft 94 33 = some (.aaload, 0, 0, 0, .null) := by decide +kernel
theorem gX8_divide_33 {L : List (Option Value)} {p : Nat} {a : Int} {st : List Value} {H : HP} {Q : Option Value → HP → Prop} : Go 94 33 L (vi a :: .ref p :: st) H Q ↔ Rd (aR' (hget H p) a) 94 34 L st H Q := G_aald fX8_divide_33
theorem fX8_divide_34 : ft 94 34 = some (.astore 4, 0, 0, 0, .null) := by decide +kernel
theorem gX8_divide_34 {l0 l1 l2 l3 l4 l5 l6 : Option Value} {u : Nat} {st : List Value} {H : HP} {Q : Option Value → HP → Prop} : Go 94 34 [l0, l1, l2, l3, l4, l5, l6] (.ref u :: st) H Q ↔ Go 94 36 [l0, l1, l2, l3, some (.ref u), l5, l6] st H Q := G_astore fX8_divide_34 rfl
theorem gX8_divide_34N {l0 l1 l2 l3 l4 l5 l6 : Option Value} {st : List Value} {H : HP} {Q : Option Value → HP → Prop} : Go 94 34 [l0, l1, l2, l3, l4, l5, l6] (.null :: st) H Q ↔ Go 94 36 [l0, l1, l2, l3, some .null, l5, l6] st H Q := G_astoreN fX8_divide_34 rfl
theorem fX8_divide_36 : ft 94 36 = some (.aload_n 0, 0, 0, 0, .null) := by decide +kernel
theorem gX8_divide_36 {l1 l2 l3 l4 l5 l6 : Option Value} {u : Nat} {st : List Value} {H : HP} {Q : Option Value → HP → Prop} : Go 94 36 [some (.ref u), l1, l2, l3, l4, l5, l6] st H Q ↔ Go 94 37 [some (.ref u), l1, l2, l3, l4, l5, l6] (.ref u :: st) H Q := G_aload_n fX8_divide_36 rfl
theorem fX8_divide_37 : ft 94 37 = some (.getfield 11, 8, 0, 221, .null) := by decide +kernel
theorem gX8_divide_37 {L : List (Option Value)} {p : Nat} {st : List Value} {H : HP} {Q : Option Value → HP → Prop} : Go 94 37 L (.ref p :: st) H Q ↔ Rd (gF' 8 0 (hget H p)) 94 40 L st H Q := G_getf fX8_divide_37 ⟨rfl, rfl⟩
theorem fX8_divide_40 : ft 94 40 = some (.iload_n 2, 0, 0, 0, .null) := by decide +kernel
theorem gX8_divide_40 {l0 l1 l3 l4 l5 l6 : Option Value} {u : Int32} {st : List Value} {H : HP} {Q : Option Value → HP → Prop} : Go 94 40 [l0, l1, some (.int u), l3, l4, l5, l6] st H Q ↔ Go 94 41 [l0, l1, some (.int u), l3, l4, l5, l6] (.int u :: st) H Q := G_iload_n fX8_divide_40 rfl
theorem fX8_divide_41 : ft 94 41 = some (.aaload, 0, 0, 0, .null) := by decide +kernel
theorem gX8_divide_41 {L : List (Option Value)} {p : Nat} {a : Int} {st : List Value} {H : HP} {Q : Option Value → HP → Prop} : Go 94 41 L (vi a :: .ref p :: st) H Q ↔ Rd (aR' (hget H p) a) 94 42 L st H Q := G_aald fX8_divide_41
theorem fX8_divide_42 : ft 94 42 = some (.astore 5, 0, 0, 0, .null) := by decide +kernel
theorem gX8_divide_42 {l0 l1 l2 l3 l4 l5 l6 : Option Value} {u : Nat} {st : List Value} {H : HP} {Q : Option Value → HP → Prop} : Go 94 42 [l0, l1, l2, l3, l4, l5, l6] (.ref u :: st) H Q ↔ Go 94 44 [l0, l1, l2, l3, l4, some (.ref u), l6] st H Q := G_astore fX8_divide_42 rfl
theorem gX8_divide_42N {l0 l1 l2 l3 l4 l5 l6 : Option Value} {st : List Value} {H : HP} {Q : Option Value → HP → Prop} : Go 94 42 [l0, l1, l2, l3, l4, l5, l6] (.null :: st) H Q ↔ Go 94 44 [l0, l1, l2, l3, l4, some .null, l6] st H Q := G_astoreN fX8_divide_42 rfl
theorem fX8_divide_44 : ft 94 44 = some (.aload 4, 0, 0, 0, .null) := by decide +kernel
theorem gX8_divide_44 {l0 l1 l2 l3 l5 l6 : Option Value} {u : Nat} {st : List Value} {H : HP} {Q : Option Value → HP → Prop} : Go 94 44 [l0, l1, l2, l3, some (.ref u), l5, l6] st H Q ↔ Go 94 46 [l0, l1, l2, l3, some (.ref u), l5, l6] (.ref u :: st) H Q := G_aload fX8_divide_44 rfl
theorem gX8_divide_44N {l0 l1 l2 l3 l5 l6 : Option Value} {st : List Value} {H : HP} {Q : Option Value → HP → Prop} : Go 94 44 [l0, l1, l2, l3, some .null, l5, l6] st H Q ↔ Go 94 46 [l0, l1, l2, l3, some .null, l5, l6] (.null :: st) H Q := G_aloadN fX8_divide_44 rfl
theorem fX8_divide_46 : ft 94 46 = some (.ifnull 8, 0, 0, 0, .null) := by decide +kernel
theorem gX8_divide_46T {L : List (Option Value)} {st : List Value} {H : HP} {Q : Option Value → HP → Prop} : Go 94 46 L (.null :: st) H Q ↔ Go 94 54 L st H Q := G_nullT fX8_divide_46 (by decide)
theorem gX8_divide_46F {L : List (Option Value)} {p : Nat} {st : List Value} {H : HP} {Q : Option Value → HP → Prop} : Go 94 46 L ((.ref p) :: st) H Q ↔ Go 94 49 L st H Q := G_nullF (tg := 54) fX8_divide_46 (by decide)
theorem fX8_divide_49 : ft 94 49 = some (.aload 5, 0, 0, 0, .null) := by decide +kernel
theorem gX8_divide_49 {l0 l1 l2 l3 l4 l6 : Option Value} {u : Nat} {st : List Value} {H : HP} {Q : Option Value → HP → Prop} : Go 94 49 [l0, l1, l2, l3, l4, some (.ref u), l6] st H Q ↔ Go 94 51 [l0, l1, l2, l3, l4, some (.ref u), l6] (.ref u :: st) H Q := G_aload fX8_divide_49 rfl
theorem gX8_divide_49N {l0 l1 l2 l3 l4 l6 : Option Value} {st : List Value} {H : HP} {Q : Option Value → HP → Prop} : Go 94 49 [l0, l1, l2, l3, l4, some .null, l6] st H Q ↔ Go 94 51 [l0, l1, l2, l3, l4, some .null, l6] (.null :: st) H Q := G_aloadN fX8_divide_49 rfl
theorem fX8_divide_51 : ft 94 51 = some (.ifnonnull 9, 0, 0, 0, .null) := by decide +kernel
theorem gX8_divide_51T {L : List (Option Value)} {p : Nat} {st : List Value} {H : HP} {Q : Option Value → HP → Prop} : Go 94 51 L ((.ref p) :: st) H Q ↔ Go 94 60 L st H Q := G_nnT fX8_divide_51 (by decide)
theorem gX8_divide_51F {L : List (Option Value)} {st : List Value} {H : HP} {Q : Option Value → HP → Prop} : Go 94 51 L (.null :: st) H Q ↔ Go 94 54 L st H Q := G_nnF (tg := 60) fX8_divide_51 (by decide)
theorem fX8_divide_54 : ft 94 54 = some (.aload_n 0, 0, 0, 0, .null) := by decide +kernel
theorem gX8_divide_54 {l1 l2 l3 l4 l5 l6 : Option Value} {u : Nat} {st : List Value} {H : HP} {Q : Option Value → HP → Prop} : Go 94 54 [some (.ref u), l1, l2, l3, l4, l5, l6] st H Q ↔ Go 94 55 [some (.ref u), l1, l2, l3, l4, l5, l6] (.ref u :: st) H Q := G_aload_n fX8_divide_54 rfl
theorem fX8_divide_55 : ft 94 55 = some (.iconst 1, 0, 0, 0, .null) := by decide +kernel
theorem gX8_divide_55 {L : List (Option Value)} {st : List Value} {H : HP} {Q : Option Value → HP → Prop} : Go 94 55 L st H Q ↔ Go 94 56 L (vi 1 :: st) H Q := G_iconst fX8_divide_55
theorem fX8_divide_56 : ft 94 56 = some (.invokevirtual 92, 105, 0, 271, .null) := by decide +kernel
theorem gX8_divide_56 {L : List (Option Value)} {p : Nat} {a0 : Int32}  {H : HP} {Q : Option Value → HP → Prop} : Go 94 56 L (.int a0 :: .ref p :: []) H Q ↔ (iso 8 (hget H p) = true ∧ Go 105 0 [some (.ref p), some (.int a0)] [] H (Cont 94 59 L [] Q)) := G_cV (n := 1) (N := 2) (as := [.int a0]) (st := []) fX8_divide_56 (by decide +kernel) rfl (Nat.le_of_ble_eq_true rfl) (Nat.le_of_ble_eq_true rfl) rfl
theorem fX8_divide_59 : ft 94 59 = some (.ireturn, 0, 0, 0, .null) := by decide +kernel
theorem gX8_divide_59 {L : List (Option Value)} {u : Int32} {H : HP} {Q : Option Value → HP → Prop} : Go 94 59 L [.int u] H Q ↔ Q (some (.int u)) H := G_iret fX8_divide_59 (by decide +kernel)
theorem fX8_divide_60 : ft 94 60 = some (.aload 4, 0, 0, 0, .null) := by decide +kernel
theorem gX8_divide_60 {l0 l1 l2 l3 l5 l6 : Option Value} {u : Nat} {st : List Value} {H : HP} {Q : Option Value → HP → Prop} : Go 94 60 [l0, l1, l2, l3, some (.ref u), l5, l6] st H Q ↔ Go 94 62 [l0, l1, l2, l3, some (.ref u), l5, l6] (.ref u :: st) H Q := G_aload fX8_divide_60 rfl
theorem gX8_divide_60N {l0 l1 l2 l3 l5 l6 : Option Value} {st : List Value} {H : HP} {Q : Option Value → HP → Prop} : Go 94 60 [l0, l1, l2, l3, some .null, l5, l6] st H Q ↔ Go 94 62 [l0, l1, l2, l3, some .null, l5, l6] (.null :: st) H Q := G_aloadN fX8_divide_60 rfl
theorem fX8_divide_62 : ft 94 62 = some (.getfield 99, 5, 0, 282, .null) := by decide +kernel
theorem gX8_divide_62 {L : List (Option Value)} {p : Nat} {st : List Value} {H : HP} {Q : Option Value → HP → Prop} : Go 94 62 L (.ref p :: st) H Q ↔ Rd (gF' 5 0 (hget H p)) 94 65 L st H Q := G_getf fX8_divide_62 ⟨rfl, rfl⟩
theorem fX8_divide_65 : ft 94 65 = some (.iconst 3, 0, 0, 0, .null) := by decide +kernel
theorem gX8_divide_65 {L : List (Option Value)} {st : List Value} {H : HP} {Q : Option Value → HP → Prop} : Go 94 65 L st H Q ↔ Go 94 66 L (vi 3 :: st) H Q := G_iconst fX8_divide_65
theorem fX8_divide_66 : ft 94 66 = some (.if_icmp .gt 12, 0, 0, 0, .null) := by decide +kernel
theorem gX8_divide_66T {L : List (Option Value)} {a b : Int} (c : (-2147483648 ≤ a ∧ a ≤ 2147483647 ∧ -2147483648 ≤ b ∧ b ≤ 2147483647) ∧ b < a) {st : List Value} {H : HP} {Q : Option Value → HP → Prop} : Go 94 66 L (vi b :: vi a :: st) H Q ↔ Go 94 78 L st H Q := G_icT fX8_divide_66 (by decide) c
theorem gX8_divide_66F {L : List (Option Value)} {a b : Int} (c : (-2147483648 ≤ a ∧ a ≤ 2147483647 ∧ -2147483648 ≤ b ∧ b ≤ 2147483647) ∧ ¬ (b < a)) {st : List Value} {H : HP} {Q : Option Value → HP → Prop} : Go 94 66 L (vi b :: vi a :: st) H Q ↔ Go 94 69 L st H Q := G_icF (tg := 78) fX8_divide_66 (by decide) c
theorem fX8_divide_69 : ft 94 69 = some (.aload 5, 0, 0, 0, .null) := by decide +kernel
theorem gX8_divide_69 {l0 l1 l2 l3 l4 l6 : Option Value} {u : Nat} {st : List Value} {H : HP} {Q : Option Value → HP → Prop} : Go 94 69 [l0, l1, l2, l3, l4, some (.ref u), l6] st H Q ↔ Go 94 71 [l0, l1, l2, l3, l4, some (.ref u), l6] (.ref u :: st) H Q := G_aload fX8_divide_69 rfl
theorem gX8_divide_69N {l0 l1 l2 l3 l4 l6 : Option Value} {st : List Value} {H : HP} {Q : Option Value → HP → Prop} : Go 94 69 [l0, l1, l2, l3, l4, some .null, l6] st H Q ↔ Go 94 71 [l0, l1, l2, l3, l4, some .null, l6] (.null :: st) H Q := G_aloadN fX8_divide_69 rfl
theorem fX8_divide_71 : ft 94 71 = some (.getfield 99, 5, 0, 282, .null) := by decide +kernel
theorem gX8_divide_71 {L : List (Option Value)} {p : Nat} {st : List Value} {H : HP} {Q : Option Value → HP → Prop} : Go 94 71 L (.ref p :: st) H Q ↔ Rd (gF' 5 0 (hget H p)) 94 74 L st H Q := G_getf fX8_divide_71 ⟨rfl, rfl⟩
theorem fX8_divide_74 : ft 94 74 = some (.iconst 3, 0, 0, 0, .null) := by decide +kernel
theorem gX8_divide_74 {L : List (Option Value)} {st : List Value} {H : HP} {Q : Option Value → HP → Prop} : Go 94 74 L st H Q ↔ Go 94 75 L (vi 3 :: st) H Q := G_iconst fX8_divide_74
theorem fX8_divide_75 : ft 94 75 = some (.if_icmp .le 9, 0, 0, 0, .null) := by decide +kernel
theorem gX8_divide_75T {L : List (Option Value)} {a b : Int} (c : (-2147483648 ≤ a ∧ a ≤ 2147483647 ∧ -2147483648 ≤ b ∧ b ≤ 2147483647) ∧ a ≤ b) {st : List Value} {H : HP} {Q : Option Value → HP → Prop} : Go 94 75 L (vi b :: vi a :: st) H Q ↔ Go 94 84 L st H Q := G_icT fX8_divide_75 (by decide) c
theorem gX8_divide_75F {L : List (Option Value)} {a b : Int} (c : (-2147483648 ≤ a ∧ a ≤ 2147483647 ∧ -2147483648 ≤ b ∧ b ≤ 2147483647) ∧ ¬ (a ≤ b)) {st : List Value} {H : HP} {Q : Option Value → HP → Prop} : Go 94 75 L (vi b :: vi a :: st) H Q ↔ Go 94 78 L st H Q := G_icF (tg := 84) fX8_divide_75 (by decide) c
theorem fX8_divide_78 : ft 94 78 = some (.aload_n 0, 0, 0, 0, .null) := by decide +kernel
theorem gX8_divide_78 {l1 l2 l3 l4 l5 l6 : Option Value} {u : Nat} {st : List Value} {H : HP} {Q : Option Value → HP → Prop} : Go 94 78 [some (.ref u), l1, l2, l3, l4, l5, l6] st H Q ↔ Go 94 79 [some (.ref u), l1, l2, l3, l4, l5, l6] (.ref u :: st) H Q := G_aload_n fX8_divide_78 rfl
theorem fX8_divide_79 : ft 94 79 = some (.iconst 2, 0, 0, 0, .null) := by decide +kernel
theorem gX8_divide_79 {L : List (Option Value)} {st : List Value} {H : HP} {Q : Option Value → HP → Prop} : Go 94 79 L st H Q ↔ Go 94 80 L (vi 2 :: st) H Q := G_iconst fX8_divide_79
theorem fX8_divide_80 : ft 94 80 = some (.invokevirtual 92, 105, 0, 271, .null) := by decide +kernel
theorem gX8_divide_80 {L : List (Option Value)} {p : Nat} {a0 : Int32}  {H : HP} {Q : Option Value → HP → Prop} : Go 94 80 L (.int a0 :: .ref p :: []) H Q ↔ (iso 8 (hget H p) = true ∧ Go 105 0 [some (.ref p), some (.int a0)] [] H (Cont 94 83 L [] Q)) := G_cV (n := 1) (N := 2) (as := [.int a0]) (st := []) fX8_divide_80 (by decide +kernel) rfl (Nat.le_of_ble_eq_true rfl) (Nat.le_of_ble_eq_true rfl) rfl
theorem fX8_divide_83 : ft 94 83 = some (.ireturn, 0, 0, 0, .null) := by decide +kernel
theorem gX8_divide_83 {L : List (Option Value)} {u : Int32} {H : HP} {Q : Option Value → HP → Prop} : Go 94 83 L [.int u] H Q ↔ Q (some (.int u)) H := G_iret fX8_divide_83 (by decide +kernel)
theorem fX8_divide_84 : ft 94 84 = some (.aload_n 0, 0, 0, 0, .null) := by decide +kernel
theorem gX8_divide_84 {l1 l2 l3 l4 l5 l6 : Option Value} {u : Nat} {st : List Value} {H : HP} {Q : Option Value → HP → Prop} : Go 94 84 [some (.ref u), l1, l2, l3, l4, l5, l6] st H Q ↔ Go 94 85 [some (.ref u), l1, l2, l3, l4, l5, l6] (.ref u :: st) H Q := G_aload_n fX8_divide_84 rfl
theorem fX8_divide_85 : ft 94 85 = some (.getfield 17, 8, 1, 222, .null) := by decide +kernel
theorem gX8_divide_85 {L : List (Option Value)} {p : Nat} {st : List Value} {H : HP} {Q : Option Value → HP → Prop} : Go 94 85 L (.ref p :: st) H Q ↔ Rd (gF' 8 1 (hget H p)) 94 88 L st H Q := G_getf fX8_divide_85 ⟨rfl, rfl⟩
theorem fX8_divide_88 : ft 94 88 = some (.iload_n 3, 0, 0, 0, .null) := by decide +kernel
theorem gX8_divide_88 {l0 l1 l2 l4 l5 l6 : Option Value} {u : Int32} {st : List Value} {H : HP} {Q : Option Value → HP → Prop} : Go 94 88 [l0, l1, l2, some (.int u), l4, l5, l6] st H Q ↔ Go 94 89 [l0, l1, l2, some (.int u), l4, l5, l6] (.int u :: st) H Q := G_iload_n fX8_divide_88 rfl
theorem fX8_divide_89 : ft 94 89 = some (.aaload, 0, 0, 0, .null) := by decide +kernel
theorem gX8_divide_89 {L : List (Option Value)} {p : Nat} {a : Int} {st : List Value} {H : HP} {Q : Option Value → HP → Prop} : Go 94 89 L (vi a :: .ref p :: st) H Q ↔ Rd (aR' (hget H p) a) 94 90 L st H Q := G_aald fX8_divide_89
theorem fX8_divide_90 : ft 94 90 = some (.aload 5, 0, 0, 0, .null) := by decide +kernel
theorem gX8_divide_90 {l0 l1 l2 l3 l4 l6 : Option Value} {u : Nat} {st : List Value} {H : HP} {Q : Option Value → HP → Prop} : Go 94 90 [l0, l1, l2, l3, l4, some (.ref u), l6] st H Q ↔ Go 94 92 [l0, l1, l2, l3, l4, some (.ref u), l6] (.ref u :: st) H Q := G_aload fX8_divide_90 rfl
theorem gX8_divide_90N {l0 l1 l2 l3 l4 l6 : Option Value} {st : List Value} {H : HP} {Q : Option Value → HP → Prop} : Go 94 90 [l0, l1, l2, l3, l4, some .null, l6] st H Q ↔ Go 94 92 [l0, l1, l2, l3, l4, some .null, l6] (.null :: st) H Q := G_aloadN fX8_divide_90 rfl
theorem fX8_divide_92 : ft 94 92 = some (.invokevirtual 218, 39, 0, 622, .null) := by decide +kernel
theorem gX8_divide_92 {L : List (Option Value)} {p : Nat} {a0 : Nat}  {H : HP} {Q : Option Value → HP → Prop} : Go 94 92 L (.ref a0 :: .ref p :: []) H Q ↔ (iso 3 (hget H p) = true ∧ Go 39 0 [some (.ref p), some (.ref a0), none] [] H (Cont 94 95 L [] Q)) := G_cV (n := 1) (N := 3) (as := [.ref a0]) (st := []) fX8_divide_92 (by decide +kernel) rfl (Nat.le_of_ble_eq_true rfl) (Nat.le_of_ble_eq_true rfl) rfl
theorem fX8_divide_95 : ft 94 95 = some (.istore 6, 0, 0, 0, .null) := by decide +kernel
theorem gX8_divide_95 {l0 l1 l2 l3 l4 l5 l6 : Option Value} {u : Int32} {st : List Value} {H : HP} {Q : Option Value → HP → Prop} : Go 94 95 [l0, l1, l2, l3, l4, l5, l6] (.int u :: st) H Q ↔ Go 94 97 [l0, l1, l2, l3, l4, l5, some (.int u)] st H Q := G_istore fX8_divide_95 rfl
theorem fX8_divide_97 : ft 94 97 = some (.iload 6, 0, 0, 0, .null) := by decide +kernel
theorem gX8_divide_97 {l0 l1 l2 l3 l4 l5 : Option Value} {u : Int32} {st : List Value} {H : HP} {Q : Option Value → HP → Prop} : Go 94 97 [l0, l1, l2, l3, l4, l5, some (.int u)] st H Q ↔ Go 94 99 [l0, l1, l2, l3, l4, l5, some (.int u)] (.int u :: st) H Q := G_iload fX8_divide_97 rfl
theorem fX8_divide_99 : ft 94 99 = some (.ifCond .ge 9, 0, 0, 0, .null) := by decide +kernel
theorem gX8_divide_99T {L : List (Option Value)} {a : Int} (c : (-2147483648 ≤ a ∧ a ≤ 2147483647) ∧ 0 ≤ a) {st : List Value} {H : HP} {Q : Option Value → HP → Prop} : Go 94 99 L (vi a :: st) H Q ↔ Go 94 108 L st H Q := G_ifT fX8_divide_99 (by decide) c
theorem gX8_divide_99F {L : List (Option Value)} {a : Int} (c : (-2147483648 ≤ a ∧ a ≤ 2147483647) ∧ ¬ (0 ≤ a)) {st : List Value} {H : HP} {Q : Option Value → HP → Prop} : Go 94 99 L (vi a :: st) H Q ↔ Go 94 102 L st H Q := G_ifF (tg := 108) fX8_divide_99 (by decide) c
theorem fX8_divide_102 : ft 94 102 = some (.aload_n 0, 0, 0, 0, .null) := by decide +kernel
theorem gX8_divide_102 {l1 l2 l3 l4 l5 l6 : Option Value} {u : Nat} {st : List Value} {H : HP} {Q : Option Value → HP → Prop} : Go 94 102 [some (.ref u), l1, l2, l3, l4, l5, l6] st H Q ↔ Go 94 103 [some (.ref u), l1, l2, l3, l4, l5, l6] (.ref u :: st) H Q := G_aload_n fX8_divide_102 rfl
theorem fX8_divide_103 : ft 94 103 = some (.iconst 5, 0, 0, 0, .null) := by decide +kernel
theorem gX8_divide_103 {L : List (Option Value)} {st : List Value} {H : HP} {Q : Option Value → HP → Prop} : Go 94 103 L st H Q ↔ Go 94 104 L (vi 5 :: st) H Q := G_iconst fX8_divide_103
theorem fX8_divide_104 : ft 94 104 = some (.invokevirtual 92, 105, 0, 271, .null) := by decide +kernel
theorem gX8_divide_104 {L : List (Option Value)} {p : Nat} {a0 : Int32}  {H : HP} {Q : Option Value → HP → Prop} : Go 94 104 L (.int a0 :: .ref p :: []) H Q ↔ (iso 8 (hget H p) = true ∧ Go 105 0 [some (.ref p), some (.int a0)] [] H (Cont 94 107 L [] Q)) := G_cV (n := 1) (N := 2) (as := [.int a0]) (st := []) fX8_divide_104 (by decide +kernel) rfl (Nat.le_of_ble_eq_true rfl) (Nat.le_of_ble_eq_true rfl) rfl
theorem fX8_divide_107 : ft 94 107 = some (.ireturn, 0, 0, 0, .null) := by decide +kernel
theorem gX8_divide_107 {L : List (Option Value)} {u : Int32} {H : HP} {Q : Option Value → HP → Prop} : Go 94 107 L [.int u] H Q ↔ Q (some (.int u)) H := G_iret fX8_divide_107 (by decide +kernel)
theorem fX8_divide_108 : ft 94 108 = some (.aload_n 0, 0, 0, 0, .null) := by decide +kernel
theorem gX8_divide_108 {l1 l2 l3 l4 l5 l6 : Option Value} {u : Nat} {st : List Value} {H : HP} {Q : Option Value → HP → Prop} : Go 94 108 [some (.ref u), l1, l2, l3, l4, l5, l6] st H Q ↔ Go 94 109 [some (.ref u), l1, l2, l3, l4, l5, l6] (.ref u :: st) H Q := G_aload_n fX8_divide_108 rfl
theorem fX8_divide_109 : ft 94 109 = some (.getfield 44, 8, 6, 227, .null) := by decide +kernel
theorem gX8_divide_109 {L : List (Option Value)} {p : Nat} {st : List Value} {H : HP} {Q : Option Value → HP → Prop} : Go 94 109 L (.ref p :: st) H Q ↔ Rd (gF' 8 6 (hget H p)) 94 112 L st H Q := G_getf fX8_divide_109 ⟨rfl, rfl⟩
theorem fX8_divide_112 : ft 94 112 = some (.aload 4, 0, 0, 0, .null) := by decide +kernel
theorem gX8_divide_112 {l0 l1 l2 l3 l5 l6 : Option Value} {u : Nat} {st : List Value} {H : HP} {Q : Option Value → HP → Prop} : Go 94 112 [l0, l1, l2, l3, some (.ref u), l5, l6] st H Q ↔ Go 94 114 [l0, l1, l2, l3, some (.ref u), l5, l6] (.ref u :: st) H Q := G_aload fX8_divide_112 rfl
theorem gX8_divide_112N {l0 l1 l2 l3 l5 l6 : Option Value} {st : List Value} {H : HP} {Q : Option Value → HP → Prop} : Go 94 112 [l0, l1, l2, l3, some .null, l5, l6] st H Q ↔ Go 94 114 [l0, l1, l2, l3, some .null, l5, l6] (.null :: st) H Q := G_aloadN fX8_divide_112 rfl
theorem fX8_divide_114 : ft 94 114 = some (.invokevirtual 102, 55, 0, 302, .null) := by decide +kernel
theorem gX8_divide_114 {L : List (Option Value)} {p : Nat}  {r0 : Nat} {H : HP} {Q : Option Value → HP → Prop} : Go 94 114 L (.ref p :: [.ref r0]) H Q ↔ (iso 5 (hget H p) = true ∧ Go 55 0 [some (.ref p)] [] H (Cont 94 117 L [.ref r0] Q)) := G_cV (n := 0) (N := 1) (as := []) (st := [.ref r0]) fX8_divide_114 (by decide +kernel) rfl (Nat.le_of_ble_eq_true rfl) (Nat.le_of_ble_eq_true rfl) rfl
theorem fX8_divide_117 : ft 94 117 = some (.iload 6, 0, 0, 0, .null) := by decide +kernel
theorem gX8_divide_117 {l0 l1 l2 l3 l4 l5 : Option Value} {u : Int32} {st : List Value} {H : HP} {Q : Option Value → HP → Prop} : Go 94 117 [l0, l1, l2, l3, l4, l5, some (.int u)] st H Q ↔ Go 94 119 [l0, l1, l2, l3, l4, l5, some (.int u)] (.int u :: st) H Q := G_iload fX8_divide_117 rfl
theorem fX8_divide_119 : ft 94 119 = some (.isub, 0, 0, 0, .null) := by decide +kernel
theorem gX8_divide_119 {L : List (Option Value)} {a b : Int} {st : List Value} {H : HP} {Q : Option Value → HP → Prop} : Go 94 119 L (vi b :: vi a :: st) H Q ↔ Go 94 120 L (vi (a - b) :: st) H Q := G_isub fX8_divide_119
theorem fX8_divide_120 : ft 94 120 = some (.iconst 0, 0, 0, 0, .null) := by decide +kernel
theorem gX8_divide_120 {L : List (Option Value)} {st : List Value} {H : HP} {Q : Option Value → HP → Prop} : Go 94 120 L st H Q ↔ Go 94 121 L (vi 0 :: st) H Q := G_iconst fX8_divide_120
theorem fX8_divide_121 : ft 94 121 = some (.invokestatic 222, 187, 0, 626, .null) := by decide +kernel
theorem gX8_divide_121 {L : List (Option Value)} {a0 : Int32} {a1 : Int32} {r0 : Nat} {H : HP} {Q : Option Value → HP → Prop} : Go 94 121 L (.int a1 :: .int a0 :: [.ref r0]) H Q ↔ Go 187 0 [some (.int a0), some (.int a1)] [] H (Cont 94 124 L [.ref r0] Q) := G_cS (n := 2) (N := 2) (as := [.int a1, .int a0]) (st := [.ref r0]) fX8_divide_121 (by decide +kernel) rfl (Nat.le_of_ble_eq_true rfl) (Nat.le_of_ble_eq_true rfl) rfl
theorem fX8_divide_124 : ft 94 124 = some (.putfield 143, 6, 1, 111, .null) := by decide +kernel
theorem gX8_divide_124 {L : List (Option Value)} {p : Nat} {u : Int32} (hp : p ≠ 0) {st : List Value} {H : HP} {Q : Option Value → HP → Prop} : Go 94 124 L (.int u :: .ref p :: st) H Q ↔ Wr (pF' 6 1 (hget H p) (.int u)) p 94 127 L st H Q := G_putf fX8_divide_124 ⟨⟨rfl, rfl⟩, rfl, Or.inl rfl⟩ hp
theorem fX8_divide_127 : ft 94 127 = some (.aload_n 0, 0, 0, 0, .null) := by decide +kernel
theorem gX8_divide_127 {l1 l2 l3 l4 l5 l6 : Option Value} {u : Nat} {st : List Value} {H : HP} {Q : Option Value → HP → Prop} : Go 94 127 [some (.ref u), l1, l2, l3, l4, l5, l6] st H Q ↔ Go 94 128 [some (.ref u), l1, l2, l3, l4, l5, l6] (.ref u :: st) H Q := G_aload_n fX8_divide_127 rfl
theorem fX8_divide_128 : ft 94 128 = some (.getfield 47, 8, 7, 228, .null) := by decide +kernel
theorem gX8_divide_128 {L : List (Option Value)} {p : Nat} {st : List Value} {H : HP} {Q : Option Value → HP → Prop} : Go 94 128 L (.ref p :: st) H Q ↔ Rd (gF' 8 7 (hget H p)) 94 131 L st H Q := G_getf fX8_divide_128 ⟨rfl, rfl⟩
theorem fX8_divide_131 : ft 94 131 = some (.iload 6, 0, 0, 0, .null) := by decide +kernel
theorem gX8_divide_131 {l0 l1 l2 l3 l4 l5 : Option Value} {u : Int32} {st : List Value} {H : HP} {Q : Option Value → HP → Prop} : Go 94 131 [l0, l1, l2, l3, l4, l5, some (.int u)] st H Q ↔ Go 94 133 [l0, l1, l2, l3, l4, l5, some (.int u)] (.int u :: st) H Q := G_iload fX8_divide_131 rfl
theorem fX8_divide_133 : ft 94 133 = some (.putfield 143, 6, 1, 111, .null) := by decide +kernel
theorem gX8_divide_133 {L : List (Option Value)} {p : Nat} {u : Int32} (hp : p ≠ 0) {st : List Value} {H : HP} {Q : Option Value → HP → Prop} : Go 94 133 L (.int u :: .ref p :: st) H Q ↔ Wr (pF' 6 1 (hget H p) (.int u)) p 94 136 L st H Q := G_putf fX8_divide_133 ⟨⟨rfl, rfl⟩, rfl, Or.inl rfl⟩ hp
theorem fX8_divide_136 : ft 94 136 = some (.aload_n 0, 0, 0, 0, .null) := by decide +kernel
theorem gX8_divide_136 {l1 l2 l3 l4 l5 l6 : Option Value} {u : Nat} {st : List Value} {H : HP} {Q : Option Value → HP → Prop} : Go 94 136 [some (.ref u), l1, l2, l3, l4, l5, l6] st H Q ↔ Go 94 137 [some (.ref u), l1, l2, l3, l4, l5, l6] (.ref u :: st) H Q := G_aload_n fX8_divide_136 rfl
theorem fX8_divide_137 : ft 94 137 = some (.getfield 24, 8, 3, 224, .null) := by decide +kernel
theorem gX8_divide_137 {L : List (Option Value)} {p : Nat} {st : List Value} {H : HP} {Q : Option Value → HP → Prop} : Go 94 137 L (.ref p :: st) H Q ↔ Rd (gF' 8 3 (hget H p)) 94 140 L st H Q := G_getf fX8_divide_137 ⟨rfl, rfl⟩
theorem fX8_divide_140 : ft 94 140 = some (.aload 4, 0, 0, 0, .null) := by decide +kernel
theorem gX8_divide_140 {l0 l1 l2 l3 l5 l6 : Option Value} {u : Nat} {st : List Value} {H : HP} {Q : Option Value → HP → Prop} : Go 94 140 [l0, l1, l2, l3, some (.ref u), l5, l6] st H Q ↔ Go 94 142 [l0, l1, l2, l3, some (.ref u), l5, l6] (.ref u :: st) H Q := G_aload fX8_divide_140 rfl
theorem gX8_divide_140N {l0 l1 l2 l3 l5 l6 : Option Value} {st : List Value} {H : HP} {Q : Option Value → HP → Prop} : Go 94 140 [l0, l1, l2, l3, some .null, l5, l6] st H Q ↔ Go 94 142 [l0, l1, l2, l3, some .null, l5, l6] (.null :: st) H Q := G_aloadN fX8_divide_140 rfl
theorem fX8_divide_142 : ft 94 142 = some (.aload 5, 0, 0, 0, .null) := by decide +kernel
theorem gX8_divide_142 {l0 l1 l2 l3 l4 l6 : Option Value} {u : Nat} {st : List Value} {H : HP} {Q : Option Value → HP → Prop} : Go 94 142 [l0, l1, l2, l3, l4, some (.ref u), l6] st H Q ↔ Go 94 144 [l0, l1, l2, l3, l4, some (.ref u), l6] (.ref u :: st) H Q := G_aload fX8_divide_142 rfl
theorem gX8_divide_142N {l0 l1 l2 l3 l4 l6 : Option Value} {st : List Value} {H : HP} {Q : Option Value → HP → Prop} : Go 94 142 [l0, l1, l2, l3, l4, some .null, l6] st H Q ↔ Go 94 144 [l0, l1, l2, l3, l4, some .null, l6] (.null :: st) H Q := G_aloadN fX8_divide_142 rfl
theorem fX8_divide_144 : ft 94 144 = some (.aload_n 0, 0, 0, 0, .null) := by decide +kernel
theorem gX8_divide_144 {l1 l2 l3 l4 l5 l6 : Option Value} {u : Nat} {st : List Value} {H : HP} {Q : Option Value → HP → Prop} : Go 94 144 [some (.ref u), l1, l2, l3, l4, l5, l6] st H Q ↔ Go 94 145 [some (.ref u), l1, l2, l3, l4, l5, l6] (.ref u :: st) H Q := G_aload_n fX8_divide_144 rfl
theorem fX8_divide_145 : ft 94 145 = some (.getfield 17, 8, 1, 222, .null) := by decide +kernel
theorem gX8_divide_145 {L : List (Option Value)} {p : Nat} {st : List Value} {H : HP} {Q : Option Value → HP → Prop} : Go 94 145 L (.ref p :: st) H Q ↔ Rd (gF' 8 1 (hget H p)) 94 148 L st H Q := G_getf fX8_divide_145 ⟨rfl, rfl⟩
theorem fX8_divide_148 : ft 94 148 = some (.iload_n 3, 0, 0, 0, .null) := by decide +kernel
theorem gX8_divide_148 {l0 l1 l2 l4 l5 l6 : Option Value} {u : Int32} {st : List Value} {H : HP} {Q : Option Value → HP → Prop} : Go 94 148 [l0, l1, l2, some (.int u), l4, l5, l6] st H Q ↔ Go 94 149 [l0, l1, l2, some (.int u), l4, l5, l6] (.int u :: st) H Q := G_iload_n fX8_divide_148 rfl
theorem fX8_divide_149 : ft 94 149 = some (.aaload, 0, 0, 0, .null) := by decide +kernel
theorem gX8_divide_149 {L : List (Option Value)} {p : Nat} {a : Int} {st : List Value} {H : HP} {Q : Option Value → HP → Prop} : Go 94 149 L (vi a :: .ref p :: st) H Q ↔ Rd (aR' (hget H p) a) 94 150 L st H Q := G_aald fX8_divide_149
theorem fX8_divide_150 : ft 94 150 = some (.aload_n 0, 0, 0, 0, .null) := by decide +kernel
theorem gX8_divide_150 {l1 l2 l3 l4 l5 l6 : Option Value} {u : Nat} {st : List Value} {H : HP} {Q : Option Value → HP → Prop} : Go 94 150 [some (.ref u), l1, l2, l3, l4, l5, l6] st H Q ↔ Go 94 151 [some (.ref u), l1, l2, l3, l4, l5, l6] (.ref u :: st) H Q := G_aload_n fX8_divide_150 rfl
theorem fX8_divide_151 : ft 94 151 = some (.getfield 44, 8, 6, 227, .null) := by decide +kernel
theorem gX8_divide_151 {L : List (Option Value)} {p : Nat} {st : List Value} {H : HP} {Q : Option Value → HP → Prop} : Go 94 151 L (.ref p :: st) H Q ↔ Rd (gF' 8 6 (hget H p)) 94 154 L st H Q := G_getf fX8_divide_151 ⟨rfl, rfl⟩
theorem fX8_divide_154 : ft 94 154 = some (.aload_n 0, 0, 0, 0, .null) := by decide +kernel
theorem gX8_divide_154 {l1 l2 l3 l4 l5 l6 : Option Value} {u : Nat} {st : List Value} {H : HP} {Q : Option Value → HP → Prop} : Go 94 154 [some (.ref u), l1, l2, l3, l4, l5, l6] st H Q ↔ Go 94 155 [some (.ref u), l1, l2, l3, l4, l5, l6] (.ref u :: st) H Q := G_aload_n fX8_divide_154 rfl
theorem fX8_divide_155 : ft 94 155 = some (.getfield 47, 8, 7, 228, .null) := by decide +kernel
theorem gX8_divide_155 {L : List (Option Value)} {p : Nat} {st : List Value} {H : HP} {Q : Option Value → HP → Prop} : Go 94 155 L (.ref p :: st) H Q ↔ Rd (gF' 8 7 (hget H p)) 94 158 L st H Q := G_getf fX8_divide_155 ⟨rfl, rfl⟩
theorem fX8_divide_158 : ft 94 158 = some (.invokevirtual 228, 23, 0, 627, .null) := by decide +kernel
theorem gX8_divide_158 {L : List (Option Value)} {p : Nat} {a0 : Nat} {a1 : Nat} {a2 : Nat} {a3 : Nat} {a4 : Nat}  {H : HP} {Q : Option Value → HP → Prop} : Go 94 158 L (.ref a4 :: .ref a3 :: .ref a2 :: .ref a1 :: .ref a0 :: .ref p :: []) H Q ↔ (iso 2 (hget H p) = true ∧ Go 23 0 [some (.ref p), some (.ref a0), some (.ref a1), some (.ref a2), some (.ref a3), some (.ref a4), none, none, none, none, none, none, none] [] H (Cont 94 161 L [] Q)) := G_cV (n := 5) (N := 13) (as := [.ref a4, .ref a3, .ref a2, .ref a1, .ref a0]) (st := []) fX8_divide_158 (by decide +kernel) rfl (Nat.le_of_ble_eq_true rfl) (Nat.le_of_ble_eq_true rfl) rfl
theorem fX8_divide_161 : ft 94 161 = some (.aload_n 0, 0, 0, 0, .null) := by decide +kernel
theorem gX8_divide_161 {l1 l2 l3 l4 l5 l6 : Option Value} {u : Nat} {st : List Value} {H : HP} {Q : Option Value → HP → Prop} : Go 94 161 [some (.ref u), l1, l2, l3, l4, l5, l6] st H Q ↔ Go 94 162 [some (.ref u), l1, l2, l3, l4, l5, l6] (.ref u :: st) H Q := G_aload_n fX8_divide_161 rfl
theorem fX8_divide_162 : ft 94 162 = some (.getfield 44, 8, 6, 227, .null) := by decide +kernel
theorem gX8_divide_162 {L : List (Option Value)} {p : Nat} {st : List Value} {H : HP} {Q : Option Value → HP → Prop} : Go 94 162 L (.ref p :: st) H Q ↔ Rd (gF' 8 6 (hget H p)) 94 165 L st H Q := G_getf fX8_divide_162 ⟨rfl, rfl⟩
theorem fX8_divide_165 : ft 94 165 = some (.getfield 143, 6, 1, 111, .null) := by decide +kernel
theorem gX8_divide_165 {L : List (Option Value)} {p : Nat} {st : List Value} {H : HP} {Q : Option Value → HP → Prop} : Go 94 165 L (.ref p :: st) H Q ↔ Rd (gF' 6 1 (hget H p)) 94 168 L st H Q := G_getf fX8_divide_165 ⟨rfl, rfl⟩
theorem fX8_divide_168 : ft 94 168 = some (.ireturn, 0, 0, 0, .null) := by decide +kernel
theorem gX8_divide_168 {L : List (Option Value)} {u : Int32} {H : HP} {Q : Option Value → HP → Prop} : Go 94 168 L [.int u] H Q ↔ Q (some (.int u)) H := G_iret fX8_divide_168 (by decide +kernel)
theorem fX8_evaluate_0 : ft 95 0 = some (.aload_n 0, 0, 0, 0, .null) := by decide +kernel
theorem gX8_evaluate_0 {l1 l2 l3 l4 l5 : Option Value} {u : Nat} {st : List Value} {H : HP} {Q : Option Value → HP → Prop} : Go 95 0 [some (.ref u), l1, l2, l3, l4, l5] st H Q ↔ Go 95 1 [some (.ref u), l1, l2, l3, l4, l5] (.ref u :: st) H Q := G_aload_n fX8_evaluate_0 rfl
theorem fX8_evaluate_1 : ft 95 1 = some (.iconst 0, 0, 0, 0, .null) := by decide +kernel
theorem gX8_evaluate_1 {L : List (Option Value)} {st : List Value} {H : HP} {Q : Option Value → HP → Prop} : Go 95 1 L st H Q ↔ Go 95 2 L (vi 0 :: st) H Q := G_iconst fX8_evaluate_1
theorem fX8_evaluate_2 : ft 95 2 = some (.putfield 64, 8, 12, 233, .null) := by decide +kernel
theorem gX8_evaluate_2 {L : List (Option Value)} {p : Nat} {u : Int32} (hp : p ≠ 0) {st : List Value} {H : HP} {Q : Option Value → HP → Prop} : Go 95 2 L (.int u :: .ref p :: st) H Q ↔ Wr (pF' 8 12 (hget H p) (.int u)) p 95 5 L st H Q := G_putf fX8_evaluate_2 ⟨⟨rfl, rfl⟩, rfl, Or.inl rfl⟩ hp
theorem fX8_evaluate_5 : ft 95 5 = some (.iload_n 1, 0, 0, 0, .null) := by decide +kernel
theorem gX8_evaluate_5 {l0 l2 l3 l4 l5 : Option Value} {u : Int32} {st : List Value} {H : HP} {Q : Option Value → HP → Prop} : Go 95 5 [l0, some (.int u), l2, l3, l4, l5] st H Q ↔ Go 95 6 [l0, some (.int u), l2, l3, l4, l5] (.int u :: st) H Q := G_iload_n fX8_evaluate_5 rfl
theorem fX8_evaluate_6 : ft 95 6 = some (.invokestatic 85, 108, 0, 265, .null) := by decide +kernel
theorem gX8_evaluate_6 {L : List (Option Value)} {a0 : Int32}  {H : HP} {Q : Option Value → HP → Prop} : Go 95 6 L (.int a0 :: []) H Q ↔ Go 108 0 [some (.int a0)] [] H (Cont 95 9 L [] Q) := G_cS (n := 1) (N := 1) (as := [.int a0]) (st := []) fX8_evaluate_6 (by decide +kernel) rfl (Nat.le_of_ble_eq_true rfl) (Nat.le_of_ble_eq_true rfl) rfl
theorem fX8_evaluate_9 : ft 95 9 = some (.ifCond .eq 17, 0, 0, 0, .null) := by decide +kernel
theorem gX8_evaluate_9T {L : List (Option Value)} {a : Int} (c : (-2147483648 ≤ a ∧ a ≤ 2147483647) ∧ a = 0) {st : List Value} {H : HP} {Q : Option Value → HP → Prop} : Go 95 9 L (vi a :: st) H Q ↔ Go 95 26 L st H Q := G_ifT fX8_evaluate_9 (by decide) c
theorem gX8_evaluate_9F {L : List (Option Value)} {a : Int} (c : (-2147483648 ≤ a ∧ a ≤ 2147483647) ∧ ¬ (a = 0)) {st : List Value} {H : HP} {Q : Option Value → HP → Prop} : Go 95 9 L (vi a :: st) H Q ↔ Go 95 12 L st H Q := G_ifF (tg := 26) fX8_evaluate_9 (by decide) c
theorem fX8_evaluate_12 : ft 95 12 = some (.iload_n 2, 0, 0, 0, .null) := by decide +kernel
theorem gX8_evaluate_12 {l0 l1 l3 l4 l5 : Option Value} {u : Int32} {st : List Value} {H : HP} {Q : Option Value → HP → Prop} : Go 95 12 [l0, l1, some (.int u), l3, l4, l5] st H Q ↔ Go 95 13 [l0, l1, some (.int u), l3, l4, l5] (.int u :: st) H Q := G_iload_n fX8_evaluate_12 rfl
theorem fX8_evaluate_13 : ft 95 13 = some (.invokestatic 85, 108, 0, 265, .null) := by decide +kernel
theorem gX8_evaluate_13 {L : List (Option Value)} {a0 : Int32}  {H : HP} {Q : Option Value → HP → Prop} : Go 95 13 L (.int a0 :: []) H Q ↔ Go 108 0 [some (.int a0)] [] H (Cont 95 16 L [] Q) := G_cS (n := 1) (N := 1) (as := [.int a0]) (st := []) fX8_evaluate_13 (by decide +kernel) rfl (Nat.le_of_ble_eq_true rfl) (Nat.le_of_ble_eq_true rfl) rfl
theorem fX8_evaluate_16 : ft 95 16 = some (.ifCond .eq 10, 0, 0, 0, .null) := by decide +kernel
theorem gX8_evaluate_16T {L : List (Option Value)} {a : Int} (c : (-2147483648 ≤ a ∧ a ≤ 2147483647) ∧ a = 0) {st : List Value} {H : HP} {Q : Option Value → HP → Prop} : Go 95 16 L (vi a :: st) H Q ↔ Go 95 26 L st H Q := G_ifT fX8_evaluate_16 (by decide) c
theorem gX8_evaluate_16F {L : List (Option Value)} {a : Int} (c : (-2147483648 ≤ a ∧ a ≤ 2147483647) ∧ ¬ (a = 0)) {st : List Value} {H : HP} {Q : Option Value → HP → Prop} : Go 95 16 L (vi a :: st) H Q ↔ Go 95 19 L st H Q := G_ifF (tg := 26) fX8_evaluate_16 (by decide) c
theorem fX8_evaluate_19 : ft 95 19 = some (.iload_n 3, 0, 0, 0, .null) := by decide +kernel
theorem gX8_evaluate_19 {l0 l1 l2 l4 l5 : Option Value} {u : Int32} {st : List Value} {H : HP} {Q : Option Value → HP → Prop} : Go 95 19 [l0, l1, l2, some (.int u), l4, l5] st H Q ↔ Go 95 20 [l0, l1, l2, some (.int u), l4, l5] (.int u :: st) H Q := G_iload_n fX8_evaluate_19 rfl
theorem fX8_evaluate_20 : ft 95 20 = some (.invokestatic 130, 109, 0, 370, .null) := by decide +kernel
theorem gX8_evaluate_20 {L : List (Option Value)} {a0 : Int32}  {H : HP} {Q : Option Value → HP → Prop} : Go 95 20 L (.int a0 :: []) H Q ↔ Go 109 0 [some (.int a0)] [] H (Cont 95 23 L [] Q) := G_cS (n := 1) (N := 1) (as := [.int a0]) (st := []) fX8_evaluate_20 (by decide +kernel) rfl (Nat.le_of_ble_eq_true rfl) (Nat.le_of_ble_eq_true rfl) rfl
theorem fX8_evaluate_23 : ft 95 23 = some (.ifCond .ne 5, 0, 0, 0, .null) := by decide +kernel
theorem gX8_evaluate_23T {L : List (Option Value)} {a : Int} (c : (-2147483648 ≤ a ∧ a ≤ 2147483647) ∧ ¬ a = 0) {st : List Value} {H : HP} {Q : Option Value → HP → Prop} : Go 95 23 L (vi a :: st) H Q ↔ Go 95 28 L st H Q := G_ifT fX8_evaluate_23 (by decide) c
theorem gX8_evaluate_23F {L : List (Option Value)} {a : Int} (c : (-2147483648 ≤ a ∧ a ≤ 2147483647) ∧ ¬ (¬ a = 0)) {st : List Value} {H : HP} {Q : Option Value → HP → Prop} : Go 95 23 L (vi a :: st) H Q ↔ Go 95 26 L st H Q := G_ifF (tg := 28) fX8_evaluate_23 (by decide) c
theorem fX8_evaluate_26 : ft 95 26 = some (.iconst (-1), 0, 0, 0, .null) := by decide +kernel
theorem gX8_evaluate_26 {L : List (Option Value)} {st : List Value} {H : HP} {Q : Option Value → HP → Prop} : Go 95 26 L st H Q ↔ Go 95 27 L (vi (-1) :: st) H Q := G_iconst fX8_evaluate_26
theorem fX8_evaluate_27 : ft 95 27 = some (.ireturn, 0, 0, 0, .null) := by decide +kernel
theorem gX8_evaluate_27 {L : List (Option Value)} {u : Int32} {H : HP} {Q : Option Value → HP → Prop} : Go 95 27 L [.int u] H Q ↔ Q (some (.int u)) H := G_iret fX8_evaluate_27 (by decide +kernel)
theorem fX8_evaluate_28 : ft 95 28 = some (.aload_n 0, 0, 0, 0, .null) := by decide +kernel
theorem gX8_evaluate_28 {l1 l2 l3 l4 l5 : Option Value} {u : Nat} {st : List Value} {H : HP} {Q : Option Value → HP → Prop} : Go 95 28 [some (.ref u), l1, l2, l3, l4, l5] st H Q ↔ Go 95 29 [some (.ref u), l1, l2, l3, l4, l5] (.ref u :: st) H Q := G_aload_n fX8_evaluate_28 rfl
theorem fX8_evaluate_29 : ft 95 29 = some (.getfield 11, 8, 0, 221, .null) := by decide +kernel
theorem gX8_evaluate_29 {L : List (Option Value)} {p : Nat} {st : List Value} {H : HP} {Q : Option Value → HP → Prop} : Go 95 29 L (.ref p :: st) H Q ↔ Rd (gF' 8 0 (hget H p)) 95 32 L st H Q := G_getf fX8_evaluate_29 ⟨rfl, rfl⟩
theorem fX8_evaluate_32 : ft 95 32 = some (.iload_n 1, 0, 0, 0, .null) := by decide +kernel
theorem gX8_evaluate_32 {l0 l2 l3 l4 l5 : Option Value} {u : Int32} {st : List Value} {H : HP} {Q : Option Value → HP → Prop} : Go 95 32 [l0, some (.int u), l2, l3, l4, l5] st H Q ↔ Go 95 33 [l0, some (.int u), l2, l3, l4, l5] (.int u :: st) H Q := G_iload_n fX8_evaluate_32 rfl
theorem fX8_evaluate_33 : ft 95 33 = some (.aaload, 0, 0, 0, .null) := by decide +kernel
theorem gX8_evaluate_33 {L : List (Option Value)} {p : Nat} {a : Int} {st : List Value} {H : HP} {Q : Option Value → HP → Prop} : Go 95 33 L (vi a :: .ref p :: st) H Q ↔ Rd (aR' (hget H p) a) 95 34 L st H Q := G_aald fX8_evaluate_33
theorem fX8_evaluate_34 : ft 95 34 = some (.astore 4, 0, 0, 0, .null) := by decide +kernel
theorem gX8_evaluate_34 {l0 l1 l2 l3 l4 l5 : Option Value} {u : Nat} {st : List Value} {H : HP} {Q : Option Value → HP → Prop} : Go 95 34 [l0, l1, l2, l3, l4, l5] (.ref u :: st) H Q ↔ Go 95 36 [l0, l1, l2, l3, some (.ref u), l5] st H Q := G_astore fX8_evaluate_34 rfl
theorem gX8_evaluate_34N {l0 l1 l2 l3 l4 l5 : Option Value} {st : List Value} {H : HP} {Q : Option Value → HP → Prop} : Go 95 34 [l0, l1, l2, l3, l4, l5] (.null :: st) H Q ↔ Go 95 36 [l0, l1, l2, l3, some .null, l5] st H Q := G_astoreN fX8_evaluate_34 rfl
theorem fX8_evaluate_36 : ft 95 36 = some (.aload_n 0, 0, 0, 0, .null) := by decide +kernel
theorem gX8_evaluate_36 {l1 l2 l3 l4 l5 : Option Value} {u : Nat} {st : List Value} {H : HP} {Q : Option Value → HP → Prop} : Go 95 36 [some (.ref u), l1, l2, l3, l4, l5] st H Q ↔ Go 95 37 [some (.ref u), l1, l2, l3, l4, l5] (.ref u :: st) H Q := G_aload_n fX8_evaluate_36 rfl
theorem fX8_evaluate_37 : ft 95 37 = some (.getfield 11, 8, 0, 221, .null) := by decide +kernel
theorem gX8_evaluate_37 {L : List (Option Value)} {p : Nat} {st : List Value} {H : HP} {Q : Option Value → HP → Prop} : Go 95 37 L (.ref p :: st) H Q ↔ Rd (gF' 8 0 (hget H p)) 95 40 L st H Q := G_getf fX8_evaluate_37 ⟨rfl, rfl⟩
theorem fX8_evaluate_40 : ft 95 40 = some (.iload_n 2, 0, 0, 0, .null) := by decide +kernel
theorem gX8_evaluate_40 {l0 l1 l3 l4 l5 : Option Value} {u : Int32} {st : List Value} {H : HP} {Q : Option Value → HP → Prop} : Go 95 40 [l0, l1, some (.int u), l3, l4, l5] st H Q ↔ Go 95 41 [l0, l1, some (.int u), l3, l4, l5] (.int u :: st) H Q := G_iload_n fX8_evaluate_40 rfl
theorem fX8_evaluate_41 : ft 95 41 = some (.aaload, 0, 0, 0, .null) := by decide +kernel
theorem gX8_evaluate_41 {L : List (Option Value)} {p : Nat} {a : Int} {st : List Value} {H : HP} {Q : Option Value → HP → Prop} : Go 95 41 L (vi a :: .ref p :: st) H Q ↔ Rd (aR' (hget H p) a) 95 42 L st H Q := G_aald fX8_evaluate_41
theorem fX8_evaluate_42 : ft 95 42 = some (.astore 5, 0, 0, 0, .null) := by decide +kernel
theorem gX8_evaluate_42 {l0 l1 l2 l3 l4 l5 : Option Value} {u : Nat} {st : List Value} {H : HP} {Q : Option Value → HP → Prop} : Go 95 42 [l0, l1, l2, l3, l4, l5] (.ref u :: st) H Q ↔ Go 95 44 [l0, l1, l2, l3, l4, some (.ref u)] st H Q := G_astore fX8_evaluate_42 rfl
theorem gX8_evaluate_42N {l0 l1 l2 l3 l4 l5 : Option Value} {st : List Value} {H : HP} {Q : Option Value → HP → Prop} : Go 95 42 [l0, l1, l2, l3, l4, l5] (.null :: st) H Q ↔ Go 95 44 [l0, l1, l2, l3, l4, some .null] st H Q := G_astoreN fX8_evaluate_42 rfl
theorem fX8_evaluate_44 : ft 95 44 = some (.aload 4, 0, 0, 0, .null) := by decide +kernel
theorem gX8_evaluate_44 {l0 l1 l2 l3 l5 : Option Value} {u : Nat} {st : List Value} {H : HP} {Q : Option Value → HP → Prop} : Go 95 44 [l0, l1, l2, l3, some (.ref u), l5] st H Q ↔ Go 95 46 [l0, l1, l2, l3, some (.ref u), l5] (.ref u :: st) H Q := G_aload fX8_evaluate_44 rfl
theorem gX8_evaluate_44N {l0 l1 l2 l3 l5 : Option Value} {st : List Value} {H : HP} {Q : Option Value → HP → Prop} : Go 95 44 [l0, l1, l2, l3, some .null, l5] st H Q ↔ Go 95 46 [l0, l1, l2, l3, some .null, l5] (.null :: st) H Q := G_aloadN fX8_evaluate_44 rfl
theorem fX8_evaluate_46 : ft 95 46 = some (.ifnull 8, 0, 0, 0, .null) := by decide +kernel
theorem gX8_evaluate_46T {L : List (Option Value)} {st : List Value} {H : HP} {Q : Option Value → HP → Prop} : Go 95 46 L (.null :: st) H Q ↔ Go 95 54 L st H Q := G_nullT fX8_evaluate_46 (by decide)
theorem gX8_evaluate_46F {L : List (Option Value)} {p : Nat} {st : List Value} {H : HP} {Q : Option Value → HP → Prop} : Go 95 46 L ((.ref p) :: st) H Q ↔ Go 95 49 L st H Q := G_nullF (tg := 54) fX8_evaluate_46 (by decide)
theorem fX8_evaluate_49 : ft 95 49 = some (.aload 5, 0, 0, 0, .null) := by decide +kernel
theorem gX8_evaluate_49 {l0 l1 l2 l3 l4 : Option Value} {u : Nat} {st : List Value} {H : HP} {Q : Option Value → HP → Prop} : Go 95 49 [l0, l1, l2, l3, l4, some (.ref u)] st H Q ↔ Go 95 51 [l0, l1, l2, l3, l4, some (.ref u)] (.ref u :: st) H Q := G_aload fX8_evaluate_49 rfl
theorem gX8_evaluate_49N {l0 l1 l2 l3 l4 : Option Value} {st : List Value} {H : HP} {Q : Option Value → HP → Prop} : Go 95 49 [l0, l1, l2, l3, l4, some .null] st H Q ↔ Go 95 51 [l0, l1, l2, l3, l4, some .null] (.null :: st) H Q := G_aloadN fX8_evaluate_49 rfl
theorem fX8_evaluate_51 : ft 95 51 = some (.ifnonnull 9, 0, 0, 0, .null) := by decide +kernel
theorem gX8_evaluate_51T {L : List (Option Value)} {p : Nat} {st : List Value} {H : HP} {Q : Option Value → HP → Prop} : Go 95 51 L ((.ref p) :: st) H Q ↔ Go 95 60 L st H Q := G_nnT fX8_evaluate_51 (by decide)
theorem gX8_evaluate_51F {L : List (Option Value)} {st : List Value} {H : HP} {Q : Option Value → HP → Prop} : Go 95 51 L (.null :: st) H Q ↔ Go 95 54 L st H Q := G_nnF (tg := 60) fX8_evaluate_51 (by decide)
theorem fX8_evaluate_54 : ft 95 54 = some (.aload_n 0, 0, 0, 0, .null) := by decide +kernel
theorem gX8_evaluate_54 {l1 l2 l3 l4 l5 : Option Value} {u : Nat} {st : List Value} {H : HP} {Q : Option Value → HP → Prop} : Go 95 54 [some (.ref u), l1, l2, l3, l4, l5] st H Q ↔ Go 95 55 [some (.ref u), l1, l2, l3, l4, l5] (.ref u :: st) H Q := G_aload_n fX8_evaluate_54 rfl
theorem fX8_evaluate_55 : ft 95 55 = some (.iconst 1, 0, 0, 0, .null) := by decide +kernel
theorem gX8_evaluate_55 {L : List (Option Value)} {st : List Value} {H : HP} {Q : Option Value → HP → Prop} : Go 95 55 L st H Q ↔ Go 95 56 L (vi 1 :: st) H Q := G_iconst fX8_evaluate_55
theorem fX8_evaluate_56 : ft 95 56 = some (.invokevirtual 92, 105, 0, 271, .null) := by decide +kernel
theorem gX8_evaluate_56 {L : List (Option Value)} {p : Nat} {a0 : Int32}  {H : HP} {Q : Option Value → HP → Prop} : Go 95 56 L (.int a0 :: .ref p :: []) H Q ↔ (iso 8 (hget H p) = true ∧ Go 105 0 [some (.ref p), some (.int a0)] [] H (Cont 95 59 L [] Q)) := G_cV (n := 1) (N := 2) (as := [.int a0]) (st := []) fX8_evaluate_56 (by decide +kernel) rfl (Nat.le_of_ble_eq_true rfl) (Nat.le_of_ble_eq_true rfl) rfl
theorem fX8_evaluate_59 : ft 95 59 = some (.ireturn, 0, 0, 0, .null) := by decide +kernel
theorem gX8_evaluate_59 {L : List (Option Value)} {u : Int32} {H : HP} {Q : Option Value → HP → Prop} : Go 95 59 L [.int u] H Q ↔ Q (some (.int u)) H := G_iret fX8_evaluate_59 (by decide +kernel)
theorem fX8_evaluate_60 : ft 95 60 = some (.aload 4, 0, 0, 0, .null) := by decide +kernel
theorem gX8_evaluate_60 {l0 l1 l2 l3 l5 : Option Value} {u : Nat} {st : List Value} {H : HP} {Q : Option Value → HP → Prop} : Go 95 60 [l0, l1, l2, l3, some (.ref u), l5] st H Q ↔ Go 95 62 [l0, l1, l2, l3, some (.ref u), l5] (.ref u :: st) H Q := G_aload fX8_evaluate_60 rfl
theorem gX8_evaluate_60N {l0 l1 l2 l3 l5 : Option Value} {st : List Value} {H : HP} {Q : Option Value → HP → Prop} : Go 95 60 [l0, l1, l2, l3, some .null, l5] st H Q ↔ Go 95 62 [l0, l1, l2, l3, some .null, l5] (.null :: st) H Q := G_aloadN fX8_evaluate_60 rfl
theorem fX8_evaluate_62 : ft 95 62 = some (.getfield 99, 5, 0, 282, .null) := by decide +kernel
theorem gX8_evaluate_62 {L : List (Option Value)} {p : Nat} {st : List Value} {H : HP} {Q : Option Value → HP → Prop} : Go 95 62 L (.ref p :: st) H Q ↔ Rd (gF' 5 0 (hget H p)) 95 65 L st H Q := G_getf fX8_evaluate_62 ⟨rfl, rfl⟩
theorem fX8_evaluate_65 : ft 95 65 = some (.iconst 3, 0, 0, 0, .null) := by decide +kernel
theorem gX8_evaluate_65 {L : List (Option Value)} {st : List Value} {H : HP} {Q : Option Value → HP → Prop} : Go 95 65 L st H Q ↔ Go 95 66 L (vi 3 :: st) H Q := G_iconst fX8_evaluate_65
theorem fX8_evaluate_66 : ft 95 66 = some (.if_icmp .gt 12, 0, 0, 0, .null) := by decide +kernel
theorem gX8_evaluate_66T {L : List (Option Value)} {a b : Int} (c : (-2147483648 ≤ a ∧ a ≤ 2147483647 ∧ -2147483648 ≤ b ∧ b ≤ 2147483647) ∧ b < a) {st : List Value} {H : HP} {Q : Option Value → HP → Prop} : Go 95 66 L (vi b :: vi a :: st) H Q ↔ Go 95 78 L st H Q := G_icT fX8_evaluate_66 (by decide) c
theorem gX8_evaluate_66F {L : List (Option Value)} {a b : Int} (c : (-2147483648 ≤ a ∧ a ≤ 2147483647 ∧ -2147483648 ≤ b ∧ b ≤ 2147483647) ∧ ¬ (b < a)) {st : List Value} {H : HP} {Q : Option Value → HP → Prop} : Go 95 66 L (vi b :: vi a :: st) H Q ↔ Go 95 69 L st H Q := G_icF (tg := 78) fX8_evaluate_66 (by decide) c
theorem fX8_evaluate_69 : ft 95 69 = some (.aload 5, 0, 0, 0, .null) := by decide +kernel
theorem gX8_evaluate_69 {l0 l1 l2 l3 l4 : Option Value} {u : Nat} {st : List Value} {H : HP} {Q : Option Value → HP → Prop} : Go 95 69 [l0, l1, l2, l3, l4, some (.ref u)] st H Q ↔ Go 95 71 [l0, l1, l2, l3, l4, some (.ref u)] (.ref u :: st) H Q := G_aload fX8_evaluate_69 rfl
theorem gX8_evaluate_69N {l0 l1 l2 l3 l4 : Option Value} {st : List Value} {H : HP} {Q : Option Value → HP → Prop} : Go 95 69 [l0, l1, l2, l3, l4, some .null] st H Q ↔ Go 95 71 [l0, l1, l2, l3, l4, some .null] (.null :: st) H Q := G_aloadN fX8_evaluate_69 rfl
theorem fX8_evaluate_71 : ft 95 71 = some (.getfield 99, 5, 0, 282, .null) := by decide +kernel
theorem gX8_evaluate_71 {L : List (Option Value)} {p : Nat} {st : List Value} {H : HP} {Q : Option Value → HP → Prop} : Go 95 71 L (.ref p :: st) H Q ↔ Rd (gF' 5 0 (hget H p)) 95 74 L st H Q := G_getf fX8_evaluate_71 ⟨rfl, rfl⟩
theorem fX8_evaluate_74 : ft 95 74 = some (.iconst 3, 0, 0, 0, .null) := by decide +kernel
theorem gX8_evaluate_74 {L : List (Option Value)} {st : List Value} {H : HP} {Q : Option Value → HP → Prop} : Go 95 74 L st H Q ↔ Go 95 75 L (vi 3 :: st) H Q := G_iconst fX8_evaluate_74
theorem fX8_evaluate_75 : ft 95 75 = some (.if_icmp .le 9, 0, 0, 0, .null) := by decide +kernel
theorem gX8_evaluate_75T {L : List (Option Value)} {a b : Int} (c : (-2147483648 ≤ a ∧ a ≤ 2147483647 ∧ -2147483648 ≤ b ∧ b ≤ 2147483647) ∧ a ≤ b) {st : List Value} {H : HP} {Q : Option Value → HP → Prop} : Go 95 75 L (vi b :: vi a :: st) H Q ↔ Go 95 84 L st H Q := G_icT fX8_evaluate_75 (by decide) c
theorem gX8_evaluate_75F {L : List (Option Value)} {a b : Int} (c : (-2147483648 ≤ a ∧ a ≤ 2147483647 ∧ -2147483648 ≤ b ∧ b ≤ 2147483647) ∧ ¬ (a ≤ b)) {st : List Value} {H : HP} {Q : Option Value → HP → Prop} : Go 95 75 L (vi b :: vi a :: st) H Q ↔ Go 95 78 L st H Q := G_icF (tg := 84) fX8_evaluate_75 (by decide) c
theorem fX8_evaluate_78 : ft 95 78 = some (.aload_n 0, 0, 0, 0, .null) := by decide +kernel
theorem gX8_evaluate_78 {l1 l2 l3 l4 l5 : Option Value} {u : Nat} {st : List Value} {H : HP} {Q : Option Value → HP → Prop} : Go 95 78 [some (.ref u), l1, l2, l3, l4, l5] st H Q ↔ Go 95 79 [some (.ref u), l1, l2, l3, l4, l5] (.ref u :: st) H Q := G_aload_n fX8_evaluate_78 rfl
theorem fX8_evaluate_79 : ft 95 79 = some (.iconst 2, 0, 0, 0, .null) := by decide +kernel
theorem gX8_evaluate_79 {L : List (Option Value)} {st : List Value} {H : HP} {Q : Option Value → HP → Prop} : Go 95 79 L st H Q ↔ Go 95 80 L (vi 2 :: st) H Q := G_iconst fX8_evaluate_79
theorem fX8_evaluate_80 : ft 95 80 = some (.invokevirtual 92, 105, 0, 271, .null) := by decide +kernel
theorem gX8_evaluate_80 {L : List (Option Value)} {p : Nat} {a0 : Int32}  {H : HP} {Q : Option Value → HP → Prop} : Go 95 80 L (.int a0 :: .ref p :: []) H Q ↔ (iso 8 (hget H p) = true ∧ Go 105 0 [some (.ref p), some (.int a0)] [] H (Cont 95 83 L [] Q)) := G_cV (n := 1) (N := 2) (as := [.int a0]) (st := []) fX8_evaluate_80 (by decide +kernel) rfl (Nat.le_of_ble_eq_true rfl) (Nat.le_of_ble_eq_true rfl) rfl
theorem fX8_evaluate_83 : ft 95 83 = some (.ireturn, 0, 0, 0, .null) := by decide +kernel
theorem gX8_evaluate_83 {L : List (Option Value)} {u : Int32} {H : HP} {Q : Option Value → HP → Prop} : Go 95 83 L [.int u] H Q ↔ Q (some (.int u)) H := G_iret fX8_evaluate_83 (by decide +kernel)
theorem fX8_evaluate_84 : ft 95 84 = some (.aload_n 0, 0, 0, 0, .null) := by decide +kernel
theorem gX8_evaluate_84 {l1 l2 l3 l4 l5 : Option Value} {u : Nat} {st : List Value} {H : HP} {Q : Option Value → HP → Prop} : Go 95 84 [some (.ref u), l1, l2, l3, l4, l5] st H Q ↔ Go 95 85 [some (.ref u), l1, l2, l3, l4, l5] (.ref u :: st) H Q := G_aload_n fX8_evaluate_84 rfl
theorem fX8_evaluate_85 : ft 95 85 = some (.getfield 44, 8, 6, 227, .null) := by decide +kernel
theorem gX8_evaluate_85 {L : List (Option Value)} {p : Nat} {st : List Value} {H : HP} {Q : Option Value → HP → Prop} : Go 95 85 L (.ref p :: st) H Q ↔ Rd (gF' 8 6 (hget H p)) 95 88 L st H Q := G_getf fX8_evaluate_85 ⟨rfl, rfl⟩
theorem fX8_evaluate_88 : ft 95 88 = some (.aload 5, 0, 0, 0, .null) := by decide +kernel
theorem gX8_evaluate_88 {l0 l1 l2 l3 l4 : Option Value} {u : Nat} {st : List Value} {H : HP} {Q : Option Value → HP → Prop} : Go 95 88 [l0, l1, l2, l3, l4, some (.ref u)] st H Q ↔ Go 95 90 [l0, l1, l2, l3, l4, some (.ref u)] (.ref u :: st) H Q := G_aload fX8_evaluate_88 rfl
theorem gX8_evaluate_88N {l0 l1 l2 l3 l4 : Option Value} {st : List Value} {H : HP} {Q : Option Value → HP → Prop} : Go 95 88 [l0, l1, l2, l3, l4, some .null] st H Q ↔ Go 95 90 [l0, l1, l2, l3, l4, some .null] (.null :: st) H Q := G_aloadN fX8_evaluate_88 rfl
theorem fX8_evaluate_90 : ft 95 90 = some (.invokevirtual 102, 55, 0, 302, .null) := by decide +kernel
theorem gX8_evaluate_90 {L : List (Option Value)} {p : Nat}  {r0 : Nat} {H : HP} {Q : Option Value → HP → Prop} : Go 95 90 L (.ref p :: [.ref r0]) H Q ↔ (iso 5 (hget H p) = true ∧ Go 55 0 [some (.ref p)] [] H (Cont 95 93 L [.ref r0] Q)) := G_cV (n := 0) (N := 1) (as := []) (st := [.ref r0]) fX8_evaluate_90 (by decide +kernel) rfl (Nat.le_of_ble_eq_true rfl) (Nat.le_of_ble_eq_true rfl) rfl
theorem fX8_evaluate_93 : ft 95 93 = some (.putfield 143, 6, 1, 111, .null) := by decide +kernel
theorem gX8_evaluate_93 {L : List (Option Value)} {p : Nat} {u : Int32} (hp : p ≠ 0) {st : List Value} {H : HP} {Q : Option Value → HP → Prop} : Go 95 93 L (.int u :: .ref p :: st) H Q ↔ Wr (pF' 6 1 (hget H p) (.int u)) p 95 96 L st H Q := G_putf fX8_evaluate_93 ⟨⟨rfl, rfl⟩, rfl, Or.inl rfl⟩ hp
theorem fX8_evaluate_96 : ft 95 96 = some (.aload_n 0, 0, 0, 0, .null) := by decide +kernel
theorem gX8_evaluate_96 {l1 l2 l3 l4 l5 : Option Value} {u : Nat} {st : List Value} {H : HP} {Q : Option Value → HP → Prop} : Go 95 96 [some (.ref u), l1, l2, l3, l4, l5] st H Q ↔ Go 95 97 [some (.ref u), l1, l2, l3, l4, l5] (.ref u :: st) H Q := G_aload_n fX8_evaluate_96 rfl
theorem fX8_evaluate_97 : ft 95 97 = some (.getfield 24, 8, 3, 224, .null) := by decide +kernel
theorem gX8_evaluate_97 {L : List (Option Value)} {p : Nat} {st : List Value} {H : HP} {Q : Option Value → HP → Prop} : Go 95 97 L (.ref p :: st) H Q ↔ Rd (gF' 8 3 (hget H p)) 95 100 L st H Q := G_getf fX8_evaluate_97 ⟨rfl, rfl⟩
theorem fX8_evaluate_100 : ft 95 100 = some (.aload 4, 0, 0, 0, .null) := by decide +kernel
theorem gX8_evaluate_100 {l0 l1 l2 l3 l5 : Option Value} {u : Nat} {st : List Value} {H : HP} {Q : Option Value → HP → Prop} : Go 95 100 [l0, l1, l2, l3, some (.ref u), l5] st H Q ↔ Go 95 102 [l0, l1, l2, l3, some (.ref u), l5] (.ref u :: st) H Q := G_aload fX8_evaluate_100 rfl
theorem gX8_evaluate_100N {l0 l1 l2 l3 l5 : Option Value} {st : List Value} {H : HP} {Q : Option Value → HP → Prop} : Go 95 100 [l0, l1, l2, l3, some .null, l5] st H Q ↔ Go 95 102 [l0, l1, l2, l3, some .null, l5] (.null :: st) H Q := G_aloadN fX8_evaluate_100 rfl
theorem fX8_evaluate_102 : ft 95 102 = some (.aload 5, 0, 0, 0, .null) := by decide +kernel
theorem gX8_evaluate_102 {l0 l1 l2 l3 l4 : Option Value} {u : Nat} {st : List Value} {H : HP} {Q : Option Value → HP → Prop} : Go 95 102 [l0, l1, l2, l3, l4, some (.ref u)] st H Q ↔ Go 95 104 [l0, l1, l2, l3, l4, some (.ref u)] (.ref u :: st) H Q := G_aload fX8_evaluate_102 rfl
theorem gX8_evaluate_102N {l0 l1 l2 l3 l4 : Option Value} {st : List Value} {H : HP} {Q : Option Value → HP → Prop} : Go 95 102 [l0, l1, l2, l3, l4, some .null] st H Q ↔ Go 95 104 [l0, l1, l2, l3, l4, some .null] (.null :: st) H Q := G_aloadN fX8_evaluate_102 rfl
theorem fX8_evaluate_104 : ft 95 104 = some (.aload_n 0, 0, 0, 0, .null) := by decide +kernel
theorem gX8_evaluate_104 {l1 l2 l3 l4 l5 : Option Value} {u : Nat} {st : List Value} {H : HP} {Q : Option Value → HP → Prop} : Go 95 104 [some (.ref u), l1, l2, l3, l4, l5] st H Q ↔ Go 95 105 [some (.ref u), l1, l2, l3, l4, l5] (.ref u :: st) H Q := G_aload_n fX8_evaluate_104 rfl
theorem fX8_evaluate_105 : ft 95 105 = some (.getfield 17, 8, 1, 222, .null) := by decide +kernel
theorem gX8_evaluate_105 {L : List (Option Value)} {p : Nat} {st : List Value} {H : HP} {Q : Option Value → HP → Prop} : Go 95 105 L (.ref p :: st) H Q ↔ Rd (gF' 8 1 (hget H p)) 95 108 L st H Q := G_getf fX8_evaluate_105 ⟨rfl, rfl⟩
theorem fX8_evaluate_108 : ft 95 108 = some (.iload_n 3, 0, 0, 0, .null) := by decide +kernel
theorem gX8_evaluate_108 {l0 l1 l2 l4 l5 : Option Value} {u : Int32} {st : List Value} {H : HP} {Q : Option Value → HP → Prop} : Go 95 108 [l0, l1, l2, some (.int u), l4, l5] st H Q ↔ Go 95 109 [l0, l1, l2, some (.int u), l4, l5] (.int u :: st) H Q := G_iload_n fX8_evaluate_108 rfl
theorem fX8_evaluate_109 : ft 95 109 = some (.aaload, 0, 0, 0, .null) := by decide +kernel
theorem gX8_evaluate_109 {L : List (Option Value)} {p : Nat} {a : Int} {st : List Value} {H : HP} {Q : Option Value → HP → Prop} : Go 95 109 L (vi a :: .ref p :: st) H Q ↔ Rd (aR' (hget H p) a) 95 110 L st H Q := G_aald fX8_evaluate_109
theorem fX8_evaluate_110 : ft 95 110 = some (.aload_n 0, 0, 0, 0, .null) := by decide +kernel
theorem gX8_evaluate_110 {l1 l2 l3 l4 l5 : Option Value} {u : Nat} {st : List Value} {H : HP} {Q : Option Value → HP → Prop} : Go 95 110 [some (.ref u), l1, l2, l3, l4, l5] st H Q ↔ Go 95 111 [some (.ref u), l1, l2, l3, l4, l5] (.ref u :: st) H Q := G_aload_n fX8_evaluate_110 rfl
theorem fX8_evaluate_111 : ft 95 111 = some (.getfield 44, 8, 6, 227, .null) := by decide +kernel
theorem gX8_evaluate_111 {L : List (Option Value)} {p : Nat} {st : List Value} {H : HP} {Q : Option Value → HP → Prop} : Go 95 111 L (.ref p :: st) H Q ↔ Rd (gF' 8 6 (hget H p)) 95 114 L st H Q := G_getf fX8_evaluate_111 ⟨rfl, rfl⟩
theorem fX8_evaluate_114 : ft 95 114 = some (.invokevirtual 232, 24, 0, 635, .null) := by decide +kernel
theorem gX8_evaluate_114 {L : List (Option Value)} {p : Nat} {a0 : Nat} {a1 : Nat} {a2 : Nat} {a3 : Nat}  {H : HP} {Q : Option Value → HP → Prop} : Go 95 114 L (.ref a3 :: .ref a2 :: .ref a1 :: .ref a0 :: .ref p :: []) H Q ↔ (iso 2 (hget H p) = true ∧ Go 24 0 [some (.ref p), some (.ref a0), some (.ref a1), some (.ref a2), some (.ref a3), none] [] H (Cont 95 117 L [] Q)) := G_cV (n := 4) (N := 6) (as := [.ref a3, .ref a2, .ref a1, .ref a0]) (st := []) fX8_evaluate_114 (by decide +kernel) rfl (Nat.le_of_ble_eq_true rfl) (Nat.le_of_ble_eq_true rfl) rfl
theorem fX8_evaluate_117 : ft 95 117 = some (.aload_n 0, 0, 0, 0, .null) := by decide +kernel
theorem gX8_evaluate_117 {l1 l2 l3 l4 l5 : Option Value} {u : Nat} {st : List Value} {H : HP} {Q : Option Value → HP → Prop} : Go 95 117 [some (.ref u), l1, l2, l3, l4, l5] st H Q ↔ Go 95 118 [some (.ref u), l1, l2, l3, l4, l5] (.ref u :: st) H Q := G_aload_n fX8_evaluate_117 rfl
theorem fX8_evaluate_118 : ft 95 118 = some (.getfield 44, 8, 6, 227, .null) := by decide +kernel
theorem gX8_evaluate_118 {L : List (Option Value)} {p : Nat} {st : List Value} {H : HP} {Q : Option Value → HP → Prop} : Go 95 118 L (.ref p :: st) H Q ↔ Rd (gF' 8 6 (hget H p)) 95 121 L st H Q := G_getf fX8_evaluate_118 ⟨rfl, rfl⟩
theorem fX8_evaluate_121 : ft 95 121 = some (.getfield 143, 6, 1, 111, .null) := by decide +kernel
theorem gX8_evaluate_121 {L : List (Option Value)} {p : Nat} {st : List Value} {H : HP} {Q : Option Value → HP → Prop} : Go 95 121 L (.ref p :: st) H Q ↔ Rd (gF' 6 1 (hget H p)) 95 124 L st H Q := G_getf fX8_evaluate_121 ⟨rfl, rfl⟩
theorem fX8_evaluate_124 : ft 95 124 = some (.ireturn, 0, 0, 0, .null) := by decide +kernel
theorem gX8_evaluate_124 {L : List (Option Value)} {u : Int32} {H : HP} {Q : Option Value → HP → Prop} : Go 95 124 L [.int u] H Q ↔ Q (some (.int u)) H := G_iret fX8_evaluate_124 (by decide +kernel)
theorem fX8_interpolate_0 : ft 96 0 = some (.aload_n 0, 0, 0, 0, .null) := by decide +kernel
theorem gX8_interpolate_0 {l1 l2 l3 l4 l5 : Option Value} {u : Nat} {st : List Value} {H : HP} {Q : Option Value → HP → Prop} : Go 96 0 [some (.ref u), l1, l2, l3, l4, l5] st H Q ↔ Go 96 1 [some (.ref u), l1, l2, l3, l4, l5] (.ref u :: st) H Q := G_aload_n fX8_interpolate_0 rfl
theorem fX8_interpolate_1 : ft 96 1 = some (.iconst 0, 0, 0, 0, .null) := by decide +kernel
theorem gX8_interpolate_1 {L : List (Option Value)} {st : List Value} {H : HP} {Q : Option Value → HP → Prop} : Go 96 1 L st H Q ↔ Go 96 2 L (vi 0 :: st) H Q := G_iconst fX8_interpolate_1
theorem fX8_interpolate_2 : ft 96 2 = some (.putfield 64, 8, 12, 233, .null) := by decide +kernel
theorem gX8_interpolate_2 {L : List (Option Value)} {p : Nat} {u : Int32} (hp : p ≠ 0) {st : List Value} {H : HP} {Q : Option Value → HP → Prop} : Go 96 2 L (.int u :: .ref p :: st) H Q ↔ Wr (pF' 8 12 (hget H p) (.int u)) p 96 5 L st H Q := G_putf fX8_interpolate_2 ⟨⟨rfl, rfl⟩, rfl, Or.inl rfl⟩ hp
theorem fX8_interpolate_5 : ft 96 5 = some (.iload_n 1, 0, 0, 0, .null) := by decide +kernel
theorem gX8_interpolate_5 {l0 l2 l3 l4 l5 : Option Value} {u : Int32} {st : List Value} {H : HP} {Q : Option Value → HP → Prop} : Go 96 5 [l0, some (.int u), l2, l3, l4, l5] st H Q ↔ Go 96 6 [l0, some (.int u), l2, l3, l4, l5] (.int u :: st) H Q := G_iload_n fX8_interpolate_5 rfl
theorem fX8_interpolate_6 : ft 96 6 = some (.invokestatic 85, 108, 0, 265, .null) := by decide +kernel
theorem gX8_interpolate_6 {L : List (Option Value)} {a0 : Int32}  {H : HP} {Q : Option Value → HP → Prop} : Go 96 6 L (.int a0 :: []) H Q ↔ Go 108 0 [some (.int a0)] [] H (Cont 96 9 L [] Q) := G_cS (n := 1) (N := 1) (as := [.int a0]) (st := []) fX8_interpolate_6 (by decide +kernel) rfl (Nat.le_of_ble_eq_true rfl) (Nat.le_of_ble_eq_true rfl) rfl
theorem fX8_interpolate_9 : ft 96 9 = some (.ifCond .eq 17, 0, 0, 0, .null) := by decide +kernel
theorem gX8_interpolate_9T {L : List (Option Value)} {a : Int} (c : (-2147483648 ≤ a ∧ a ≤ 2147483647) ∧ a = 0) {st : List Value} {H : HP} {Q : Option Value → HP → Prop} : Go 96 9 L (vi a :: st) H Q ↔ Go 96 26 L st H Q := G_ifT fX8_interpolate_9 (by decide) c
theorem gX8_interpolate_9F {L : List (Option Value)} {a : Int} (c : (-2147483648 ≤ a ∧ a ≤ 2147483647) ∧ ¬ (a = 0)) {st : List Value} {H : HP} {Q : Option Value → HP → Prop} : Go 96 9 L (vi a :: st) H Q ↔ Go 96 12 L st H Q := G_ifF (tg := 26) fX8_interpolate_9 (by decide) c
theorem fX8_interpolate_12 : ft 96 12 = some (.iload_n 2, 0, 0, 0, .null) := by decide +kernel
theorem gX8_interpolate_12 {l0 l1 l3 l4 l5 : Option Value} {u : Int32} {st : List Value} {H : HP} {Q : Option Value → HP → Prop} : Go 96 12 [l0, l1, some (.int u), l3, l4, l5] st H Q ↔ Go 96 13 [l0, l1, some (.int u), l3, l4, l5] (.int u :: st) H Q := G_iload_n fX8_interpolate_12 rfl
theorem fX8_interpolate_13 : ft 96 13 = some (.invokestatic 85, 108, 0, 265, .null) := by decide +kernel
theorem gX8_interpolate_13 {L : List (Option Value)} {a0 : Int32}  {H : HP} {Q : Option Value → HP → Prop} : Go 96 13 L (.int a0 :: []) H Q ↔ Go 108 0 [some (.int a0)] [] H (Cont 96 16 L [] Q) := G_cS (n := 1) (N := 1) (as := [.int a0]) (st := []) fX8_interpolate_13 (by decide +kernel) rfl (Nat.le_of_ble_eq_true rfl) (Nat.le_of_ble_eq_true rfl) rfl
theorem fX8_interpolate_16 : ft 96 16 = some (.ifCond .eq 10, 0, 0, 0, .null) := by decide +kernel
theorem gX8_interpolate_16T {L : List (Option Value)} {a : Int} (c : (-2147483648 ≤ a ∧ a ≤ 2147483647) ∧ a = 0) {st : List Value} {H : HP} {Q : Option Value → HP → Prop} : Go 96 16 L (vi a :: st) H Q ↔ Go 96 26 L st H Q := G_ifT fX8_interpolate_16 (by decide) c
theorem gX8_interpolate_16F {L : List (Option Value)} {a : Int} (c : (-2147483648 ≤ a ∧ a ≤ 2147483647) ∧ ¬ (a = 0)) {st : List Value} {H : HP} {Q : Option Value → HP → Prop} : Go 96 16 L (vi a :: st) H Q ↔ Go 96 19 L st H Q := G_ifF (tg := 26) fX8_interpolate_16 (by decide) c
theorem fX8_interpolate_19 : ft 96 19 = some (.iload_n 3, 0, 0, 0, .null) := by decide +kernel
theorem gX8_interpolate_19 {l0 l1 l2 l4 l5 : Option Value} {u : Int32} {st : List Value} {H : HP} {Q : Option Value → HP → Prop} : Go 96 19 [l0, l1, l2, some (.int u), l4, l5] st H Q ↔ Go 96 20 [l0, l1, l2, some (.int u), l4, l5] (.int u :: st) H Q := G_iload_n fX8_interpolate_19 rfl
theorem fX8_interpolate_20 : ft 96 20 = some (.invokestatic 130, 109, 0, 370, .null) := by decide +kernel
theorem gX8_interpolate_20 {L : List (Option Value)} {a0 : Int32}  {H : HP} {Q : Option Value → HP → Prop} : Go 96 20 L (.int a0 :: []) H Q ↔ Go 109 0 [some (.int a0)] [] H (Cont 96 23 L [] Q) := G_cS (n := 1) (N := 1) (as := [.int a0]) (st := []) fX8_interpolate_20 (by decide +kernel) rfl (Nat.le_of_ble_eq_true rfl) (Nat.le_of_ble_eq_true rfl) rfl
theorem fX8_interpolate_23 : ft 96 23 = some (.ifCond .ne 5, 0, 0, 0, .null) := by decide +kernel
theorem gX8_interpolate_23T {L : List (Option Value)} {a : Int} (c : (-2147483648 ≤ a ∧ a ≤ 2147483647) ∧ ¬ a = 0) {st : List Value} {H : HP} {Q : Option Value → HP → Prop} : Go 96 23 L (vi a :: st) H Q ↔ Go 96 28 L st H Q := G_ifT fX8_interpolate_23 (by decide) c
theorem gX8_interpolate_23F {L : List (Option Value)} {a : Int} (c : (-2147483648 ≤ a ∧ a ≤ 2147483647) ∧ ¬ (¬ a = 0)) {st : List Value} {H : HP} {Q : Option Value → HP → Prop} : Go 96 23 L (vi a :: st) H Q ↔ Go 96 26 L st H Q := G_ifF (tg := 28) fX8_interpolate_23 (by decide) c
theorem fX8_interpolate_26 : ft 96 26 = some (.iconst (-1), 0, 0, 0, .null) := by decide +kernel
theorem gX8_interpolate_26 {L : List (Option Value)} {st : List Value} {H : HP} {Q : Option Value → HP → Prop} : Go 96 26 L st H Q ↔ Go 96 27 L (vi (-1) :: st) H Q := G_iconst fX8_interpolate_26
theorem fX8_interpolate_27 : ft 96 27 = some (.ireturn, 0, 0, 0, .null) := by decide +kernel
theorem gX8_interpolate_27 {L : List (Option Value)} {u : Int32} {H : HP} {Q : Option Value → HP → Prop} : Go 96 27 L [.int u] H Q ↔ Q (some (.int u)) H := G_iret fX8_interpolate_27 (by decide +kernel)
theorem fX8_interpolate_28 : ft 96 28 = some (.aload_n 0, 0, 0, 0, .null) := by decide +kernel
theorem gX8_interpolate_28 {l1 l2 l3 l4 l5 : Option Value} {u : Nat} {st : List Value} {H : HP} {Q : Option Value → HP → Prop} : Go 96 28 [some (.ref u), l1, l2, l3, l4, l5] st H Q ↔ Go 96 29 [some (.ref u), l1, l2, l3, l4, l5] (.ref u :: st) H Q := G_aload_n fX8_interpolate_28 rfl
theorem fX8_interpolate_29 : ft 96 29 = some (.getfield 11, 8, 0, 221, .null) := by decide +kernel
theorem gX8_interpolate_29 {L : List (Option Value)} {p : Nat} {st : List Value} {H : HP} {Q : Option Value → HP → Prop} : Go 96 29 L (.ref p :: st) H Q ↔ Rd (gF' 8 0 (hget H p)) 96 32 L st H Q := G_getf fX8_interpolate_29 ⟨rfl, rfl⟩
theorem fX8_interpolate_32 : ft 96 32 = some (.iload_n 1, 0, 0, 0, .null) := by decide +kernel
theorem gX8_interpolate_32 {l0 l2 l3 l4 l5 : Option Value} {u : Int32} {st : List Value} {H : HP} {Q : Option Value → HP → Prop} : Go 96 32 [l0, some (.int u), l2, l3, l4, l5] st H Q ↔ Go 96 33 [l0, some (.int u), l2, l3, l4, l5] (.int u :: st) H Q := G_iload_n fX8_interpolate_32 rfl
theorem fX8_interpolate_33 : ft 96 33 = some (.aaload, 0, 0, 0, .null) := by decide +kernel
theorem gX8_interpolate_33 {L : List (Option Value)} {p : Nat} {a : Int} {st : List Value} {H : HP} {Q : Option Value → HP → Prop} : Go 96 33 L (vi a :: .ref p :: st) H Q ↔ Rd (aR' (hget H p) a) 96 34 L st H Q := G_aald fX8_interpolate_33
theorem fX8_interpolate_34 : ft 96 34 = some (.astore 4, 0, 0, 0, .null) := by decide +kernel
theorem gX8_interpolate_34 {l0 l1 l2 l3 l4 l5 : Option Value} {u : Nat} {st : List Value} {H : HP} {Q : Option Value → HP → Prop} : Go 96 34 [l0, l1, l2, l3, l4, l5] (.ref u :: st) H Q ↔ Go 96 36 [l0, l1, l2, l3, some (.ref u), l5] st H Q := G_astore fX8_interpolate_34 rfl
theorem gX8_interpolate_34N {l0 l1 l2 l3 l4 l5 : Option Value} {st : List Value} {H : HP} {Q : Option Value → HP → Prop} : Go 96 34 [l0, l1, l2, l3, l4, l5] (.null :: st) H Q ↔ Go 96 36 [l0, l1, l2, l3, some .null, l5] st H Q := G_astoreN fX8_interpolate_34 rfl
theorem fX8_interpolate_36 : ft 96 36 = some (.aload_n 0, 0, 0, 0, .null) := by decide +kernel
theorem gX8_interpolate_36 {l1 l2 l3 l4 l5 : Option Value} {u : Nat} {st : List Value} {H : HP} {Q : Option Value → HP → Prop} : Go 96 36 [some (.ref u), l1, l2, l3, l4, l5] st H Q ↔ Go 96 37 [some (.ref u), l1, l2, l3, l4, l5] (.ref u :: st) H Q := G_aload_n fX8_interpolate_36 rfl
theorem fX8_interpolate_37 : ft 96 37 = some (.getfield 11, 8, 0, 221, .null) := by decide +kernel
theorem gX8_interpolate_37 {L : List (Option Value)} {p : Nat} {st : List Value} {H : HP} {Q : Option Value → HP → Prop} : Go 96 37 L (.ref p :: st) H Q ↔ Rd (gF' 8 0 (hget H p)) 96 40 L st H Q := G_getf fX8_interpolate_37 ⟨rfl, rfl⟩
theorem fX8_interpolate_40 : ft 96 40 = some (.iload_n 2, 0, 0, 0, .null) := by decide +kernel
theorem gX8_interpolate_40 {l0 l1 l3 l4 l5 : Option Value} {u : Int32} {st : List Value} {H : HP} {Q : Option Value → HP → Prop} : Go 96 40 [l0, l1, some (.int u), l3, l4, l5] st H Q ↔ Go 96 41 [l0, l1, some (.int u), l3, l4, l5] (.int u :: st) H Q := G_iload_n fX8_interpolate_40 rfl
theorem fX8_interpolate_41 : ft 96 41 = some (.aaload, 0, 0, 0, .null) := by decide +kernel
theorem gX8_interpolate_41 {L : List (Option Value)} {p : Nat} {a : Int} {st : List Value} {H : HP} {Q : Option Value → HP → Prop} : Go 96 41 L (vi a :: .ref p :: st) H Q ↔ Rd (aR' (hget H p) a) 96 42 L st H Q := G_aald fX8_interpolate_41
theorem fX8_interpolate_42 : ft 96 42 = some (.astore 5, 0, 0, 0, .null) := by decide +kernel
theorem gX8_interpolate_42 {l0 l1 l2 l3 l4 l5 : Option Value} {u : Nat} {st : List Value} {H : HP} {Q : Option Value → HP → Prop} : Go 96 42 [l0, l1, l2, l3, l4, l5] (.ref u :: st) H Q ↔ Go 96 44 [l0, l1, l2, l3, l4, some (.ref u)] st H Q := G_astore fX8_interpolate_42 rfl
theorem gX8_interpolate_42N {l0 l1 l2 l3 l4 l5 : Option Value} {st : List Value} {H : HP} {Q : Option Value → HP → Prop} : Go 96 42 [l0, l1, l2, l3, l4, l5] (.null :: st) H Q ↔ Go 96 44 [l0, l1, l2, l3, l4, some .null] st H Q := G_astoreN fX8_interpolate_42 rfl
theorem fX8_interpolate_44 : ft 96 44 = some (.aload 4, 0, 0, 0, .null) := by decide +kernel
theorem gX8_interpolate_44 {l0 l1 l2 l3 l5 : Option Value} {u : Nat} {st : List Value} {H : HP} {Q : Option Value → HP → Prop} : Go 96 44 [l0, l1, l2, l3, some (.ref u), l5] st H Q ↔ Go 96 46 [l0, l1, l2, l3, some (.ref u), l5] (.ref u :: st) H Q := G_aload fX8_interpolate_44 rfl
theorem gX8_interpolate_44N {l0 l1 l2 l3 l5 : Option Value} {st : List Value} {H : HP} {Q : Option Value → HP → Prop} : Go 96 44 [l0, l1, l2, l3, some .null, l5] st H Q ↔ Go 96 46 [l0, l1, l2, l3, some .null, l5] (.null :: st) H Q := G_aloadN fX8_interpolate_44 rfl
theorem fX8_interpolate_46 : ft 96 46 = some (.ifnull 8, 0, 0, 0, .null) := by decide +kernel
theorem gX8_interpolate_46T {L : List (Option Value)} {st : List Value} {H : HP} {Q : Option Value → HP → Prop} : Go 96 46 L (.null :: st) H Q ↔ Go 96 54 L st H Q := G_nullT fX8_interpolate_46 (by decide)
theorem gX8_interpolate_46F {L : List (Option Value)} {p : Nat} {st : List Value} {H : HP} {Q : Option Value → HP → Prop} : Go 96 46 L ((.ref p) :: st) H Q ↔ Go 96 49 L st H Q := G_nullF (tg := 54) fX8_interpolate_46 (by decide)
theorem fX8_interpolate_49 : ft 96 49 = some (.aload 5, 0, 0, 0, .null) := by decide +kernel
theorem gX8_interpolate_49 {l0 l1 l2 l3 l4 : Option Value} {u : Nat} {st : List Value} {H : HP} {Q : Option Value → HP → Prop} : Go 96 49 [l0, l1, l2, l3, l4, some (.ref u)] st H Q ↔ Go 96 51 [l0, l1, l2, l3, l4, some (.ref u)] (.ref u :: st) H Q := G_aload fX8_interpolate_49 rfl
theorem gX8_interpolate_49N {l0 l1 l2 l3 l4 : Option Value} {st : List Value} {H : HP} {Q : Option Value → HP → Prop} : Go 96 49 [l0, l1, l2, l3, l4, some .null] st H Q ↔ Go 96 51 [l0, l1, l2, l3, l4, some .null] (.null :: st) H Q := G_aloadN fX8_interpolate_49 rfl
theorem fX8_interpolate_51 : ft 96 51 = some (.ifnonnull 9, 0, 0, 0, .null) := by decide +kernel
theorem gX8_interpolate_51T {L : List (Option Value)} {p : Nat} {st : List Value} {H : HP} {Q : Option Value → HP → Prop} : Go 96 51 L ((.ref p) :: st) H Q ↔ Go 96 60 L st H Q := G_nnT fX8_interpolate_51 (by decide)
theorem gX8_interpolate_51F {L : List (Option Value)} {st : List Value} {H : HP} {Q : Option Value → HP → Prop} : Go 96 51 L (.null :: st) H Q ↔ Go 96 54 L st H Q := G_nnF (tg := 60) fX8_interpolate_51 (by decide)
theorem fX8_interpolate_54 : ft 96 54 = some (.aload_n 0, 0, 0, 0, .null) := by decide +kernel
theorem gX8_interpolate_54 {l1 l2 l3 l4 l5 : Option Value} {u : Nat} {st : List Value} {H : HP} {Q : Option Value → HP → Prop} : Go 96 54 [some (.ref u), l1, l2, l3, l4, l5] st H Q ↔ Go 96 55 [some (.ref u), l1, l2, l3, l4, l5] (.ref u :: st) H Q := G_aload_n fX8_interpolate_54 rfl
theorem fX8_interpolate_55 : ft 96 55 = some (.iconst 1, 0, 0, 0, .null) := by decide +kernel
theorem gX8_interpolate_55 {L : List (Option Value)} {st : List Value} {H : HP} {Q : Option Value → HP → Prop} : Go 96 55 L st H Q ↔ Go 96 56 L (vi 1 :: st) H Q := G_iconst fX8_interpolate_55
theorem fX8_interpolate_56 : ft 96 56 = some (.invokevirtual 92, 105, 0, 271, .null) := by decide +kernel
theorem gX8_interpolate_56 {L : List (Option Value)} {p : Nat} {a0 : Int32}  {H : HP} {Q : Option Value → HP → Prop} : Go 96 56 L (.int a0 :: .ref p :: []) H Q ↔ (iso 8 (hget H p) = true ∧ Go 105 0 [some (.ref p), some (.int a0)] [] H (Cont 96 59 L [] Q)) := G_cV (n := 1) (N := 2) (as := [.int a0]) (st := []) fX8_interpolate_56 (by decide +kernel) rfl (Nat.le_of_ble_eq_true rfl) (Nat.le_of_ble_eq_true rfl) rfl
theorem fX8_interpolate_59 : ft 96 59 = some (.ireturn, 0, 0, 0, .null) := by decide +kernel
theorem gX8_interpolate_59 {L : List (Option Value)} {u : Int32} {H : HP} {Q : Option Value → HP → Prop} : Go 96 59 L [.int u] H Q ↔ Q (some (.int u)) H := G_iret fX8_interpolate_59 (by decide +kernel)
theorem fX8_interpolate_60 : ft 96 60 = some (.aload 4, 0, 0, 0, .null) := by decide +kernel
theorem gX8_interpolate_60 {l0 l1 l2 l3 l5 : Option Value} {u : Nat} {st : List Value} {H : HP} {Q : Option Value → HP → Prop} : Go 96 60 [l0, l1, l2, l3, some (.ref u), l5] st H Q ↔ Go 96 62 [l0, l1, l2, l3, some (.ref u), l5] (.ref u :: st) H Q := G_aload fX8_interpolate_60 rfl
theorem gX8_interpolate_60N {l0 l1 l2 l3 l5 : Option Value} {st : List Value} {H : HP} {Q : Option Value → HP → Prop} : Go 96 60 [l0, l1, l2, l3, some .null, l5] st H Q ↔ Go 96 62 [l0, l1, l2, l3, some .null, l5] (.null :: st) H Q := G_aloadN fX8_interpolate_60 rfl
theorem fX8_interpolate_62 : ft 96 62 = some (.getfield 99, 5, 0, 282, .null) := by decide +kernel
theorem gX8_interpolate_62 {L : List (Option Value)} {p : Nat} {st : List Value} {H : HP} {Q : Option Value → HP → Prop} : Go 96 62 L (.ref p :: st) H Q ↔ Rd (gF' 5 0 (hget H p)) 96 65 L st H Q := G_getf fX8_interpolate_62 ⟨rfl, rfl⟩
theorem fX8_interpolate_65 : ft 96 65 = some (.iconst 3, 0, 0, 0, .null) := by decide +kernel
theorem gX8_interpolate_65 {L : List (Option Value)} {st : List Value} {H : HP} {Q : Option Value → HP → Prop} : Go 96 65 L st H Q ↔ Go 96 66 L (vi 3 :: st) H Q := G_iconst fX8_interpolate_65
theorem fX8_interpolate_66 : ft 96 66 = some (.if_icmp .gt 12, 0, 0, 0, .null) := by decide +kernel
theorem gX8_interpolate_66T {L : List (Option Value)} {a b : Int} (c : (-2147483648 ≤ a ∧ a ≤ 2147483647 ∧ -2147483648 ≤ b ∧ b ≤ 2147483647) ∧ b < a) {st : List Value} {H : HP} {Q : Option Value → HP → Prop} : Go 96 66 L (vi b :: vi a :: st) H Q ↔ Go 96 78 L st H Q := G_icT fX8_interpolate_66 (by decide) c
theorem gX8_interpolate_66F {L : List (Option Value)} {a b : Int} (c : (-2147483648 ≤ a ∧ a ≤ 2147483647 ∧ -2147483648 ≤ b ∧ b ≤ 2147483647) ∧ ¬ (b < a)) {st : List Value} {H : HP} {Q : Option Value → HP → Prop} : Go 96 66 L (vi b :: vi a :: st) H Q ↔ Go 96 69 L st H Q := G_icF (tg := 78) fX8_interpolate_66 (by decide) c
theorem fX8_interpolate_69 : ft 96 69 = some (.aload 5, 0, 0, 0, .null) := by decide +kernel
theorem gX8_interpolate_69 {l0 l1 l2 l3 l4 : Option Value} {u : Nat} {st : List Value} {H : HP} {Q : Option Value → HP → Prop} : Go 96 69 [l0, l1, l2, l3, l4, some (.ref u)] st H Q ↔ Go 96 71 [l0, l1, l2, l3, l4, some (.ref u)] (.ref u :: st) H Q := G_aload fX8_interpolate_69 rfl
theorem gX8_interpolate_69N {l0 l1 l2 l3 l4 : Option Value} {st : List Value} {H : HP} {Q : Option Value → HP → Prop} : Go 96 69 [l0, l1, l2, l3, l4, some .null] st H Q ↔ Go 96 71 [l0, l1, l2, l3, l4, some .null] (.null :: st) H Q := G_aloadN fX8_interpolate_69 rfl
theorem fX8_interpolate_71 : ft 96 71 = some (.getfield 99, 5, 0, 282, .null) := by decide +kernel
theorem gX8_interpolate_71 {L : List (Option Value)} {p : Nat} {st : List Value} {H : HP} {Q : Option Value → HP → Prop} : Go 96 71 L (.ref p :: st) H Q ↔ Rd (gF' 5 0 (hget H p)) 96 74 L st H Q := G_getf fX8_interpolate_71 ⟨rfl, rfl⟩
theorem fX8_interpolate_74 : ft 96 74 = some (.iconst 3, 0, 0, 0, .null) := by decide +kernel
theorem gX8_interpolate_74 {L : List (Option Value)} {st : List Value} {H : HP} {Q : Option Value → HP → Prop} : Go 96 74 L st H Q ↔ Go 96 75 L (vi 3 :: st) H Q := G_iconst fX8_interpolate_74
theorem fX8_interpolate_75 : ft 96 75 = some (.if_icmp .le 9, 0, 0, 0, .null) := by decide +kernel
theorem gX8_interpolate_75T {L : List (Option Value)} {a b : Int} (c : (-2147483648 ≤ a ∧ a ≤ 2147483647 ∧ -2147483648 ≤ b ∧ b ≤ 2147483647) ∧ a ≤ b) {st : List Value} {H : HP} {Q : Option Value → HP → Prop} : Go 96 75 L (vi b :: vi a :: st) H Q ↔ Go 96 84 L st H Q := G_icT fX8_interpolate_75 (by decide) c
theorem gX8_interpolate_75F {L : List (Option Value)} {a b : Int} (c : (-2147483648 ≤ a ∧ a ≤ 2147483647 ∧ -2147483648 ≤ b ∧ b ≤ 2147483647) ∧ ¬ (a ≤ b)) {st : List Value} {H : HP} {Q : Option Value → HP → Prop} : Go 96 75 L (vi b :: vi a :: st) H Q ↔ Go 96 78 L st H Q := G_icF (tg := 84) fX8_interpolate_75 (by decide) c
theorem fX8_interpolate_78 : ft 96 78 = some (.aload_n 0, 0, 0, 0, .null) := by decide +kernel
theorem gX8_interpolate_78 {l1 l2 l3 l4 l5 : Option Value} {u : Nat} {st : List Value} {H : HP} {Q : Option Value → HP → Prop} : Go 96 78 [some (.ref u), l1, l2, l3, l4, l5] st H Q ↔ Go 96 79 [some (.ref u), l1, l2, l3, l4, l5] (.ref u :: st) H Q := G_aload_n fX8_interpolate_78 rfl
theorem fX8_interpolate_79 : ft 96 79 = some (.iconst 2, 0, 0, 0, .null) := by decide +kernel
theorem gX8_interpolate_79 {L : List (Option Value)} {st : List Value} {H : HP} {Q : Option Value → HP → Prop} : Go 96 79 L st H Q ↔ Go 96 80 L (vi 2 :: st) H Q := G_iconst fX8_interpolate_79
theorem fX8_interpolate_80 : ft 96 80 = some (.invokevirtual 92, 105, 0, 271, .null) := by decide +kernel
theorem gX8_interpolate_80 {L : List (Option Value)} {p : Nat} {a0 : Int32}  {H : HP} {Q : Option Value → HP → Prop} : Go 96 80 L (.int a0 :: .ref p :: []) H Q ↔ (iso 8 (hget H p) = true ∧ Go 105 0 [some (.ref p), some (.int a0)] [] H (Cont 96 83 L [] Q)) := G_cV (n := 1) (N := 2) (as := [.int a0]) (st := []) fX8_interpolate_80 (by decide +kernel) rfl (Nat.le_of_ble_eq_true rfl) (Nat.le_of_ble_eq_true rfl) rfl
theorem fX8_interpolate_83 : ft 96 83 = some (.ireturn, 0, 0, 0, .null) := by decide +kernel
theorem gX8_interpolate_83 {L : List (Option Value)} {u : Int32} {H : HP} {Q : Option Value → HP → Prop} : Go 96 83 L [.int u] H Q ↔ Q (some (.int u)) H := G_iret fX8_interpolate_83 (by decide +kernel)
theorem fX8_interpolate_84 : ft 96 84 = some (.aload 4, 0, 0, 0, .null) := by decide +kernel
theorem gX8_interpolate_84 {l0 l1 l2 l3 l5 : Option Value} {u : Nat} {st : List Value} {H : HP} {Q : Option Value → HP → Prop} : Go 96 84 [l0, l1, l2, l3, some (.ref u), l5] st H Q ↔ Go 96 86 [l0, l1, l2, l3, some (.ref u), l5] (.ref u :: st) H Q := G_aload fX8_interpolate_84 rfl
theorem gX8_interpolate_84N {l0 l1 l2 l3 l5 : Option Value} {st : List Value} {H : HP} {Q : Option Value → HP → Prop} : Go 96 84 [l0, l1, l2, l3, some .null, l5] st H Q ↔ Go 96 86 [l0, l1, l2, l3, some .null, l5] (.null :: st) H Q := G_aloadN fX8_interpolate_84 rfl
theorem fX8_interpolate_86 : ft 96 86 = some (.invokevirtual 102, 55, 0, 302, .null) := by decide +kernel
theorem gX8_interpolate_86 {L : List (Option Value)} {p : Nat}   {H : HP} {Q : Option Value → HP → Prop} : Go 96 86 L (.ref p :: []) H Q ↔ (iso 5 (hget H p) = true ∧ Go 55 0 [some (.ref p)] [] H (Cont 96 89 L [] Q)) := G_cV (n := 0) (N := 1) (as := []) (st := []) fX8_interpolate_86 (by decide +kernel) rfl (Nat.le_of_ble_eq_true rfl) (Nat.le_of_ble_eq_true rfl) rfl
theorem fX8_interpolate_89 : ft 96 89 = some (.aload 5, 0, 0, 0, .null) := by decide +kernel
theorem gX8_interpolate_89 {l0 l1 l2 l3 l4 : Option Value} {u : Nat} {st : List Value} {H : HP} {Q : Option Value → HP → Prop} : Go 96 89 [l0, l1, l2, l3, l4, some (.ref u)] st H Q ↔ Go 96 91 [l0, l1, l2, l3, l4, some (.ref u)] (.ref u :: st) H Q := G_aload fX8_interpolate_89 rfl
theorem gX8_interpolate_89N {l0 l1 l2 l3 l4 : Option Value} {st : List Value} {H : HP} {Q : Option Value → HP → Prop} : Go 96 89 [l0, l1, l2, l3, l4, some .null] st H Q ↔ Go 96 91 [l0, l1, l2, l3, l4, some .null] (.null :: st) H Q := G_aloadN fX8_interpolate_89 rfl
theorem fX8_interpolate_91 : ft 96 91 = some (.invokevirtual 102, 55, 0, 302, .null) := by decide +kernel
theorem gX8_interpolate_91 {L : List (Option Value)} {p : Nat}  {r0 : Int32} {H : HP} {Q : Option Value → HP → Prop} : Go 96 91 L (.ref p :: [.int r0]) H Q ↔ (iso 5 (hget H p) = true ∧ Go 55 0 [some (.ref p)] [] H (Cont 96 94 L [.int r0] Q)) := G_cV (n := 0) (N := 1) (as := []) (st := [.int r0]) fX8_interpolate_91 (by decide +kernel) rfl (Nat.le_of_ble_eq_true rfl) (Nat.le_of_ble_eq_true rfl) rfl
theorem fX8_interpolate_94 : ft 96 94 = some (.if_icmp .eq 6, 0, 0, 0, .null) := by decide +kernel
theorem gX8_interpolate_94T {L : List (Option Value)} {a b : Int} (c : (-2147483648 ≤ a ∧ a ≤ 2147483647 ∧ -2147483648 ≤ b ∧ b ≤ 2147483647) ∧ a = b) {st : List Value} {H : HP} {Q : Option Value → HP → Prop} : Go 96 94 L (vi b :: vi a :: st) H Q ↔ Go 96 100 L st H Q := G_icT fX8_interpolate_94 (by decide) c
theorem gX8_interpolate_94F {L : List (Option Value)} {a b : Int} (c : (-2147483648 ≤ a ∧ a ≤ 2147483647 ∧ -2147483648 ≤ b ∧ b ≤ 2147483647) ∧ ¬ (a = b)) {st : List Value} {H : HP} {Q : Option Value → HP → Prop} : Go 96 94 L (vi b :: vi a :: st) H Q ↔ Go 96 97 L st H Q := G_icF (tg := 100) fX8_interpolate_94 (by decide) c
theorem fX8_interpolate_97 : ft 96 97 = some (.bipush (-3), 0, 0, 0, .null) := by decide +kernel
theorem gX8_interpolate_97 {L : List (Option Value)} {st : List Value} {H : HP} {Q : Option Value → HP → Prop} : Go 96 97 L st H Q ↔ Go 96 99 L (vi (-3) :: st) H Q := G_bipush fX8_interpolate_97 (by decide)
theorem fX8_interpolate_99 : ft 96 99 = some (.ireturn, 0, 0, 0, .null) := by decide +kernel
theorem gX8_interpolate_99 {L : List (Option Value)} {u : Int32} {H : HP} {Q : Option Value → HP → Prop} : Go 96 99 L [.int u] H Q ↔ Q (some (.int u)) H := G_iret fX8_interpolate_99 (by decide +kernel)
theorem fX8_interpolate_100 : ft 96 100 = some (.aload_n 0, 0, 0, 0, .null) := by decide +kernel
theorem gX8_interpolate_100 {l1 l2 l3 l4 l5 : Option Value} {u : Nat} {st : List Value} {H : HP} {Q : Option Value → HP → Prop} : Go 96 100 [some (.ref u), l1, l2, l3, l4, l5] st H Q ↔ Go 96 101 [some (.ref u), l1, l2, l3, l4, l5] (.ref u :: st) H Q := G_aload_n fX8_interpolate_100 rfl
theorem fX8_interpolate_101 : ft 96 101 = some (.getfield 17, 8, 1, 222, .null) := by decide +kernel
theorem gX8_interpolate_101 {L : List (Option Value)} {p : Nat} {st : List Value} {H : HP} {Q : Option Value → HP → Prop} : Go 96 101 L (.ref p :: st) H Q ↔ Rd (gF' 8 1 (hget H p)) 96 104 L st H Q := G_getf fX8_interpolate_101 ⟨rfl, rfl⟩
theorem fX8_interpolate_104 : ft 96 104 = some (.iload_n 3, 0, 0, 0, .null) := by decide +kernel
theorem gX8_interpolate_104 {l0 l1 l2 l4 l5 : Option Value} {u : Int32} {st : List Value} {H : HP} {Q : Option Value → HP → Prop} : Go 96 104 [l0, l1, l2, some (.int u), l4, l5] st H Q ↔ Go 96 105 [l0, l1, l2, some (.int u), l4, l5] (.int u :: st) H Q := G_iload_n fX8_interpolate_104 rfl
theorem fX8_interpolate_105 : ft 96 105 = some (.aaload, 0, 0, 0, .null) := by decide +kernel
theorem gX8_interpolate_105 {L : List (Option Value)} {p : Nat} {a : Int} {st : List Value} {H : HP} {Q : Option Value → HP → Prop} : Go 96 105 L (vi a :: .ref p :: st) H Q ↔ Rd (aR' (hget H p) a) 96 106 L st H Q := G_aald fX8_interpolate_105
theorem fX8_interpolate_106 : ft 96 106 = some (.aload 4, 0, 0, 0, .null) := by decide +kernel
theorem gX8_interpolate_106 {l0 l1 l2 l3 l5 : Option Value} {u : Nat} {st : List Value} {H : HP} {Q : Option Value → HP → Prop} : Go 96 106 [l0, l1, l2, l3, some (.ref u), l5] st H Q ↔ Go 96 108 [l0, l1, l2, l3, some (.ref u), l5] (.ref u :: st) H Q := G_aload fX8_interpolate_106 rfl
theorem gX8_interpolate_106N {l0 l1 l2 l3 l5 : Option Value} {st : List Value} {H : HP} {Q : Option Value → HP → Prop} : Go 96 106 [l0, l1, l2, l3, some .null, l5] st H Q ↔ Go 96 108 [l0, l1, l2, l3, some .null, l5] (.null :: st) H Q := G_aloadN fX8_interpolate_106 rfl
theorem fX8_interpolate_108 : ft 96 108 = some (.invokevirtual 236, 40, 0, 643, .null) := by decide +kernel
theorem gX8_interpolate_108 {L : List (Option Value)} {p : Nat} {a0 : Nat}  {H : HP} {Q : Option Value → HP → Prop} : Go 96 108 L (.ref a0 :: .ref p :: []) H Q ↔ (iso 3 (hget H p) = true ∧ Go 40 0 [some (.ref p), some (.ref a0), none, none, none, none] [] H (Cont 96 111 L [] Q)) := G_cV (n := 1) (N := 6) (as := [.ref a0]) (st := []) fX8_interpolate_108 (by decide +kernel) rfl (Nat.le_of_ble_eq_true rfl) (Nat.le_of_ble_eq_true rfl) rfl
theorem fX8_interpolate_111 : ft 96 111 = some (.ifCond .eq 9, 0, 0, 0, .null) := by decide +kernel
theorem gX8_interpolate_111T {L : List (Option Value)} {a : Int} (c : (-2147483648 ≤ a ∧ a ≤ 2147483647) ∧ a = 0) {st : List Value} {H : HP} {Q : Option Value → HP → Prop} : Go 96 111 L (vi a :: st) H Q ↔ Go 96 120 L st H Q := G_ifT fX8_interpolate_111 (by decide) c
theorem gX8_interpolate_111F {L : List (Option Value)} {a : Int} (c : (-2147483648 ≤ a ∧ a ≤ 2147483647) ∧ ¬ (a = 0)) {st : List Value} {H : HP} {Q : Option Value → HP → Prop} : Go 96 111 L (vi a :: st) H Q ↔ Go 96 114 L st H Q := G_ifF (tg := 120) fX8_interpolate_111 (by decide) c
theorem fX8_interpolate_114 : ft 96 114 = some (.aload_n 0, 0, 0, 0, .null) := by decide +kernel
theorem gX8_interpolate_114 {l1 l2 l3 l4 l5 : Option Value} {u : Nat} {st : List Value} {H : HP} {Q : Option Value → HP → Prop} : Go 96 114 [some (.ref u), l1, l2, l3, l4, l5] st H Q ↔ Go 96 115 [some (.ref u), l1, l2, l3, l4, l5] (.ref u :: st) H Q := G_aload_n fX8_interpolate_114 rfl
theorem fX8_interpolate_115 : ft 96 115 = some (.iconst 5, 0, 0, 0, .null) := by decide +kernel
theorem gX8_interpolate_115 {L : List (Option Value)} {st : List Value} {H : HP} {Q : Option Value → HP → Prop} : Go 96 115 L st H Q ↔ Go 96 116 L (vi 5 :: st) H Q := G_iconst fX8_interpolate_115
theorem fX8_interpolate_116 : ft 96 116 = some (.invokevirtual 92, 105, 0, 271, .null) := by decide +kernel
theorem gX8_interpolate_116 {L : List (Option Value)} {p : Nat} {a0 : Int32}  {H : HP} {Q : Option Value → HP → Prop} : Go 96 116 L (.int a0 :: .ref p :: []) H Q ↔ (iso 8 (hget H p) = true ∧ Go 105 0 [some (.ref p), some (.int a0)] [] H (Cont 96 119 L [] Q)) := G_cV (n := 1) (N := 2) (as := [.int a0]) (st := []) fX8_interpolate_116 (by decide +kernel) rfl (Nat.le_of_ble_eq_true rfl) (Nat.le_of_ble_eq_true rfl) rfl
theorem fX8_interpolate_119 : ft 96 119 = some (.ireturn, 0, 0, 0, .null) := by decide +kernel
theorem gX8_interpolate_119 {L : List (Option Value)} {u : Int32} {H : HP} {Q : Option Value → HP → Prop} : Go 96 119 L [.int u] H Q ↔ Q (some (.int u)) H := G_iret fX8_interpolate_119 (by decide +kernel)
theorem fX8_interpolate_120 : ft 96 120 = some (.aload_n 0, 0, 0, 0, .null) := by decide +kernel
theorem gX8_interpolate_120 {l1 l2 l3 l4 l5 : Option Value} {u : Nat} {st : List Value} {H : HP} {Q : Option Value → HP → Prop} : Go 96 120 [some (.ref u), l1, l2, l3, l4, l5] st H Q ↔ Go 96 121 [some (.ref u), l1, l2, l3, l4, l5] (.ref u :: st) H Q := G_aload_n fX8_interpolate_120 rfl
theorem fX8_interpolate_121 : ft 96 121 = some (.getfield 44, 8, 6, 227, .null) := by decide +kernel
theorem gX8_interpolate_121 {L : List (Option Value)} {p : Nat} {st : List Value} {H : HP} {Q : Option Value → HP → Prop} : Go 96 121 L (.ref p :: st) H Q ↔ Rd (gF' 8 6 (hget H p)) 96 124 L st H Q := G_getf fX8_interpolate_121 ⟨rfl, rfl⟩
theorem fX8_interpolate_124 : ft 96 124 = some (.aload 4, 0, 0, 0, .null) := by decide +kernel
theorem gX8_interpolate_124 {l0 l1 l2 l3 l5 : Option Value} {u : Nat} {st : List Value} {H : HP} {Q : Option Value → HP → Prop} : Go 96 124 [l0, l1, l2, l3, some (.ref u), l5] st H Q ↔ Go 96 126 [l0, l1, l2, l3, some (.ref u), l5] (.ref u :: st) H Q := G_aload fX8_interpolate_124 rfl
theorem gX8_interpolate_124N {l0 l1 l2 l3 l5 : Option Value} {st : List Value} {H : HP} {Q : Option Value → HP → Prop} : Go 96 124 [l0, l1, l2, l3, some .null, l5] st H Q ↔ Go 96 126 [l0, l1, l2, l3, some .null, l5] (.null :: st) H Q := G_aloadN fX8_interpolate_124 rfl
theorem fX8_interpolate_126 : ft 96 126 = some (.invokevirtual 102, 55, 0, 302, .null) := by decide +kernel
theorem gX8_interpolate_126 {L : List (Option Value)} {p : Nat}  {r0 : Nat} {H : HP} {Q : Option Value → HP → Prop} : Go 96 126 L (.ref p :: [.ref r0]) H Q ↔ (iso 5 (hget H p) = true ∧ Go 55 0 [some (.ref p)] [] H (Cont 96 129 L [.ref r0] Q)) := G_cV (n := 0) (N := 1) (as := []) (st := [.ref r0]) fX8_interpolate_126 (by decide +kernel) rfl (Nat.le_of_ble_eq_true rfl) (Nat.le_of_ble_eq_true rfl) rfl
theorem fX8_interpolate_129 : ft 96 129 = some (.putfield 143, 6, 1, 111, .null) := by decide +kernel
theorem gX8_interpolate_129 {L : List (Option Value)} {p : Nat} {u : Int32} (hp : p ≠ 0) {st : List Value} {H : HP} {Q : Option Value → HP → Prop} : Go 96 129 L (.int u :: .ref p :: st) H Q ↔ Wr (pF' 6 1 (hget H p) (.int u)) p 96 132 L st H Q := G_putf fX8_interpolate_129 ⟨⟨rfl, rfl⟩, rfl, Or.inl rfl⟩ hp
theorem fX8_interpolate_132 : ft 96 132 = some (.aload_n 0, 0, 0, 0, .null) := by decide +kernel
theorem gX8_interpolate_132 {l1 l2 l3 l4 l5 : Option Value} {u : Nat} {st : List Value} {H : HP} {Q : Option Value → HP → Prop} : Go 96 132 [some (.ref u), l1, l2, l3, l4, l5] st H Q ↔ Go 96 133 [some (.ref u), l1, l2, l3, l4, l5] (.ref u :: st) H Q := G_aload_n fX8_interpolate_132 rfl
theorem fX8_interpolate_133 : ft 96 133 = some (.getfield 24, 8, 3, 224, .null) := by decide +kernel
theorem gX8_interpolate_133 {L : List (Option Value)} {p : Nat} {st : List Value} {H : HP} {Q : Option Value → HP → Prop} : Go 96 133 L (.ref p :: st) H Q ↔ Rd (gF' 8 3 (hget H p)) 96 136 L st H Q := G_getf fX8_interpolate_133 ⟨rfl, rfl⟩
theorem fX8_interpolate_136 : ft 96 136 = some (.aload 4, 0, 0, 0, .null) := by decide +kernel
theorem gX8_interpolate_136 {l0 l1 l2 l3 l5 : Option Value} {u : Nat} {st : List Value} {H : HP} {Q : Option Value → HP → Prop} : Go 96 136 [l0, l1, l2, l3, some (.ref u), l5] st H Q ↔ Go 96 138 [l0, l1, l2, l3, some (.ref u), l5] (.ref u :: st) H Q := G_aload fX8_interpolate_136 rfl
theorem gX8_interpolate_136N {l0 l1 l2 l3 l5 : Option Value} {st : List Value} {H : HP} {Q : Option Value → HP → Prop} : Go 96 136 [l0, l1, l2, l3, some .null, l5] st H Q ↔ Go 96 138 [l0, l1, l2, l3, some .null, l5] (.null :: st) H Q := G_aloadN fX8_interpolate_136 rfl
theorem fX8_interpolate_138 : ft 96 138 = some (.aload 5, 0, 0, 0, .null) := by decide +kernel
theorem gX8_interpolate_138 {l0 l1 l2 l3 l4 : Option Value} {u : Nat} {st : List Value} {H : HP} {Q : Option Value → HP → Prop} : Go 96 138 [l0, l1, l2, l3, l4, some (.ref u)] st H Q ↔ Go 96 140 [l0, l1, l2, l3, l4, some (.ref u)] (.ref u :: st) H Q := G_aload fX8_interpolate_138 rfl
theorem gX8_interpolate_138N {l0 l1 l2 l3 l4 : Option Value} {st : List Value} {H : HP} {Q : Option Value → HP → Prop} : Go 96 138 [l0, l1, l2, l3, l4, some .null] st H Q ↔ Go 96 140 [l0, l1, l2, l3, l4, some .null] (.null :: st) H Q := G_aloadN fX8_interpolate_138 rfl
theorem fX8_interpolate_140 : ft 96 140 = some (.aload_n 0, 0, 0, 0, .null) := by decide +kernel
theorem gX8_interpolate_140 {l1 l2 l3 l4 l5 : Option Value} {u : Nat} {st : List Value} {H : HP} {Q : Option Value → HP → Prop} : Go 96 140 [some (.ref u), l1, l2, l3, l4, l5] st H Q ↔ Go 96 141 [some (.ref u), l1, l2, l3, l4, l5] (.ref u :: st) H Q := G_aload_n fX8_interpolate_140 rfl
theorem fX8_interpolate_141 : ft 96 141 = some (.getfield 17, 8, 1, 222, .null) := by decide +kernel
theorem gX8_interpolate_141 {L : List (Option Value)} {p : Nat} {st : List Value} {H : HP} {Q : Option Value → HP → Prop} : Go 96 141 L (.ref p :: st) H Q ↔ Rd (gF' 8 1 (hget H p)) 96 144 L st H Q := G_getf fX8_interpolate_141 ⟨rfl, rfl⟩
theorem fX8_interpolate_144 : ft 96 144 = some (.iload_n 3, 0, 0, 0, .null) := by decide +kernel
theorem gX8_interpolate_144 {l0 l1 l2 l4 l5 : Option Value} {u : Int32} {st : List Value} {H : HP} {Q : Option Value → HP → Prop} : Go 96 144 [l0, l1, l2, some (.int u), l4, l5] st H Q ↔ Go 96 145 [l0, l1, l2, some (.int u), l4, l5] (.int u :: st) H Q := G_iload_n fX8_interpolate_144 rfl
theorem fX8_interpolate_145 : ft 96 145 = some (.aaload, 0, 0, 0, .null) := by decide +kernel
theorem gX8_interpolate_145 {L : List (Option Value)} {p : Nat} {a : Int} {st : List Value} {H : HP} {Q : Option Value → HP → Prop} : Go 96 145 L (vi a :: .ref p :: st) H Q ↔ Rd (aR' (hget H p) a) 96 146 L st H Q := G_aald fX8_interpolate_145
theorem fX8_interpolate_146 : ft 96 146 = some (.aload_n 0, 0, 0, 0, .null) := by decide +kernel
theorem gX8_interpolate_146 {l1 l2 l3 l4 l5 : Option Value} {u : Nat} {st : List Value} {H : HP} {Q : Option Value → HP → Prop} : Go 96 146 [some (.ref u), l1, l2, l3, l4, l5] st H Q ↔ Go 96 147 [some (.ref u), l1, l2, l3, l4, l5] (.ref u :: st) H Q := G_aload_n fX8_interpolate_146 rfl
theorem fX8_interpolate_147 : ft 96 147 = some (.getfield 44, 8, 6, 227, .null) := by decide +kernel
theorem gX8_interpolate_147 {L : List (Option Value)} {p : Nat} {st : List Value} {H : HP} {Q : Option Value → HP → Prop} : Go 96 147 L (.ref p :: st) H Q ↔ Rd (gF' 8 6 (hget H p)) 96 150 L st H Q := G_getf fX8_interpolate_147 ⟨rfl, rfl⟩
theorem fX8_interpolate_150 : ft 96 150 = some (.invokevirtual 240, 25, 0, 647, .null) := by decide +kernel
theorem gX8_interpolate_150 {L : List (Option Value)} {p : Nat} {a0 : Nat} {a1 : Nat} {a2 : Nat} {a3 : Nat}  {H : HP} {Q : Option Value → HP → Prop} : Go 96 150 L (.ref a3 :: .ref a2 :: .ref a1 :: .ref a0 :: .ref p :: []) H Q ↔ (iso 2 (hget H p) = true ∧ Go 25 0 [some (.ref p), some (.ref a0), some (.ref a1), some (.ref a2), some (.ref a3), none, none, none, none, none, none, none] [] H (Cont 96 153 L [] Q)) := G_cV (n := 4) (N := 12) (as := [.ref a3, .ref a2, .ref a1, .ref a0]) (st := []) fX8_interpolate_150 (by decide +kernel) rfl (Nat.le_of_ble_eq_true rfl) (Nat.le_of_ble_eq_true rfl) rfl
theorem fX8_interpolate_153 : ft 96 153 = some (.aload_n 0, 0, 0, 0, .null) := by decide +kernel
theorem gX8_interpolate_153 {l1 l2 l3 l4 l5 : Option Value} {u : Nat} {st : List Value} {H : HP} {Q : Option Value → HP → Prop} : Go 96 153 [some (.ref u), l1, l2, l3, l4, l5] st H Q ↔ Go 96 154 [some (.ref u), l1, l2, l3, l4, l5] (.ref u :: st) H Q := G_aload_n fX8_interpolate_153 rfl
theorem fX8_interpolate_154 : ft 96 154 = some (.getfield 44, 8, 6, 227, .null) := by decide +kernel
theorem gX8_interpolate_154 {L : List (Option Value)} {p : Nat} {st : List Value} {H : HP} {Q : Option Value → HP → Prop} : Go 96 154 L (.ref p :: st) H Q ↔ Rd (gF' 8 6 (hget H p)) 96 157 L st H Q := G_getf fX8_interpolate_154 ⟨rfl, rfl⟩
theorem fX8_interpolate_157 : ft 96 157 = some (.getfield 143, 6, 1, 111, .null) := by decide +kernel
theorem gX8_interpolate_157 {L : List (Option Value)} {p : Nat} {st : List Value} {H : HP} {Q : Option Value → HP → Prop} : Go 96 157 L (.ref p :: st) H Q ↔ Rd (gF' 6 1 (hget H p)) 96 160 L st H Q := G_getf fX8_interpolate_157 ⟨rfl, rfl⟩
theorem fX8_interpolate_160 : ft 96 160 = some (.ireturn, 0, 0, 0, .null) := by decide +kernel
theorem gX8_interpolate_160 {L : List (Option Value)} {u : Int32} {H : HP} {Q : Option Value → HP → Prop} : Go 96 160 L [.int u] H Q ↔ Q (some (.int u)) H := G_iret fX8_interpolate_160 (by decide +kernel)
theorem fX8_residue_0 : ft 97 0 = some (.aload_n 0, 0, 0, 0, .null) := by decide +kernel
theorem gX8_residue_0 {l1 : Option Value} {u : Nat} {st : List Value} {H : HP} {Q : Option Value → HP → Prop} : Go 97 0 [some (.ref u), l1] st H Q ↔ Go 97 1 [some (.ref u), l1] (.ref u :: st) H Q := G_aload_n fX8_residue_0 rfl
theorem fX8_residue_1 : ft 97 1 = some (.getfield 44, 8, 6, 227, .null) := by decide +kernel
theorem gX8_residue_1 {L : List (Option Value)} {p : Nat} {st : List Value} {H : HP} {Q : Option Value → HP → Prop} : Go 97 1 L (.ref p :: st) H Q ↔ Rd (gF' 8 6 (hget H p)) 97 4 L st H Q := G_getf fX8_residue_1 ⟨rfl, rfl⟩
theorem fX8_residue_4 : ft 97 4 = some (.iload_n 1, 0, 0, 0, .null) := by decide +kernel
theorem gX8_residue_4 {l0 : Option Value} {u : Int32} {st : List Value} {H : HP} {Q : Option Value → HP → Prop} : Go 97 4 [l0, some (.int u)] st H Q ↔ Go 97 5 [l0, some (.int u)] (.int u :: st) H Q := G_iload_n fX8_residue_4 rfl
theorem fX8_residue_5 : ft 97 5 = some (.ldc2_w 150, 0, 0, 419, .long (-1)) := by decide +kernel
theorem gX8_residue_5 {L : List (Option Value)} {st : List Value} {H : HP} {Q : Option Value → HP → Prop} : Go 97 5 L st H Q ↔ Go 97 8 L (vl (-1) :: st) H Q := G_ldcl fX8_residue_5 (by decide +kernel)
theorem fX8_residue_8 : ft 97 8 = some (.invokevirtual 152, 62, 0, 420, .null) := by decide +kernel
theorem gX8_residue_8 {L : List (Option Value)} {p : Nat} {a0 : Int32} {a1 : Int64}  {H : HP} {Q : Option Value → HP → Prop} : Go 97 8 L (.long a1 :: .int a0 :: .ref p :: []) H Q ↔ (iso 6 (hget H p) = true ∧ Go 62 0 [some (.ref p), some (.int a0), some (.long a1), none] [] H (Cont 97 11 L [] Q)) := G_cV (n := 2) (N := 4) (as := [.long a1, .int a0]) (st := []) fX8_residue_8 (by decide +kernel) rfl (Nat.le_of_ble_eq_true rfl) (Nat.le_of_ble_eq_true rfl) rfl
theorem fX8_residue_11 : ft 97 11 = some (.lreturn, 0, 0, 0, .null) := by decide +kernel
theorem gX8_residue_11 {L : List (Option Value)} {u : Int64} {H : HP} {Q : Option Value → HP → Prop} : Go 97 11 L [.long u] H Q ↔ Q (some (.long u)) H := G_lret fX8_residue_11 (by decide +kernel)
theorem fX8_rest_0 : ft 98 0 = some (.aload_n 0, 0, 0, 0, .null) := by decide +kernel
theorem gX8_rest_0 {l1 : Option Value} {u : Nat} {st : List Value} {H : HP} {Q : Option Value → HP → Prop} : Go 98 0 [some (.ref u), l1] st H Q ↔ Go 98 1 [some (.ref u), l1] (.ref u :: st) H Q := G_aload_n fX8_rest_0 rfl
theorem fX8_rest_1 : ft 98 1 = some (.getfield 47, 8, 7, 228, .null) := by decide +kernel
theorem gX8_rest_1 {L : List (Option Value)} {p : Nat} {st : List Value} {H : HP} {Q : Option Value → HP → Prop} : Go 98 1 L (.ref p :: st) H Q ↔ Rd (gF' 8 7 (hget H p)) 98 4 L st H Q := G_getf fX8_rest_1 ⟨rfl, rfl⟩
theorem fX8_rest_4 : ft 98 4 = some (.iload_n 1, 0, 0, 0, .null) := by decide +kernel
theorem gX8_rest_4 {l0 : Option Value} {u : Int32} {st : List Value} {H : HP} {Q : Option Value → HP → Prop} : Go 98 4 [l0, some (.int u)] st H Q ↔ Go 98 5 [l0, some (.int u)] (.int u :: st) H Q := G_iload_n fX8_rest_4 rfl
theorem fX8_rest_5 : ft 98 5 = some (.ldc2_w 150, 0, 0, 419, .long (-1)) := by decide +kernel
theorem gX8_rest_5 {L : List (Option Value)} {st : List Value} {H : HP} {Q : Option Value → HP → Prop} : Go 98 5 L st H Q ↔ Go 98 8 L (vl (-1) :: st) H Q := G_ldcl fX8_rest_5 (by decide +kernel)
theorem fX8_rest_8 : ft 98 8 = some (.invokevirtual 152, 62, 0, 420, .null) := by decide +kernel
theorem gX8_rest_8 {L : List (Option Value)} {p : Nat} {a0 : Int32} {a1 : Int64}  {H : HP} {Q : Option Value → HP → Prop} : Go 98 8 L (.long a1 :: .int a0 :: .ref p :: []) H Q ↔ (iso 6 (hget H p) = true ∧ Go 62 0 [some (.ref p), some (.int a0), some (.long a1), none] [] H (Cont 98 11 L [] Q)) := G_cV (n := 2) (N := 4) (as := [.long a1, .int a0]) (st := []) fX8_rest_8 (by decide +kernel) rfl (Nat.le_of_ble_eq_true rfl) (Nat.le_of_ble_eq_true rfl) rfl
theorem fX8_rest_11 : ft 98 11 = some (.lreturn, 0, 0, 0, .null) := by decide +kernel
theorem gX8_rest_11 {L : List (Option Value)} {u : Int64} {H : HP} {Q : Option Value → HP → Prop} : Go 98 11 L [.long u] H Q ↔ Q (some (.long u)) H := G_lret fX8_rest_11 (by decide +kernel)

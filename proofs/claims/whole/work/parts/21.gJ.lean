theorem fJxe99ae_isNaN_b9ae7_0 : ft 181 0 = some (.dload_n 0, 0, 0, 0, .null) := by decide +kernel
theorem gJxe99ae_isNaN_b9ae7_0  {u : UInt64} {st : List Value} {H : HP} {Q : Option Value → HP → Prop} : Go 181 0 [some (.double u), none] st H Q ↔ Go 181 1 [some (.double u), none] (.double u :: st) H Q := G_dload_n fJxe99ae_isNaN_b9ae7_0 rfl
theorem fJxe99ae_isNaN_b9ae7_1 : ft 181 1 = some (.dload_n 0, 0, 0, 0, .null) := by decide +kernel
theorem gJxe99ae_isNaN_b9ae7_1  {u : UInt64} {st : List Value} {H : HP} {Q : Option Value → HP → Prop} : Go 181 1 [some (.double u), none] st H Q ↔ Go 181 2 [some (.double u), none] (.double u :: st) H Q := G_dload_n fJxe99ae_isNaN_b9ae7_1 rfl
theorem fJxe99ae_isNaN_b9ae7_2 : ft 181 2 = some (.dcmp .l, 0, 0, 0, .null) := by decide +kernel
theorem fJxe99ae_isNaN_b9ae7_2' : ft 181 3 = some (.ifCond .eq 7, 0, 0, 0, .null) := by decide +kernel
theorem gJxe99ae_isNaN_b9ae7_2T {L : List (Option Value)} {x w : UInt64} (c : dck .l .eq x w = true) {st : List Value} {H : HP} {Q : Option Value → HP → Prop} : Go 181 2 L (.double w :: .double x :: st) H Q ↔ Go 181 10 L st H Q := G_dcT fJxe99ae_isNaN_b9ae7_2 fJxe99ae_isNaN_b9ae7_2' (by decide) c
theorem gJxe99ae_isNaN_b9ae7_2F {L : List (Option Value)} {x w : UInt64} (c : dck .l .eq x w = false) {st : List Value} {H : HP} {Q : Option Value → HP → Prop} : Go 181 2 L (.double w :: .double x :: st) H Q ↔ Go 181 6 L st H Q := G_dcF (tg := 10) fJxe99ae_isNaN_b9ae7_2 fJxe99ae_isNaN_b9ae7_2' (by decide) c
theorem fJxe99ae_isNaN_b9ae7_3 : ft 181 3 = some (.ifCond .eq 7, 0, 0, 0, .null) := by decide +kernel
theorem gJxe99ae_isNaN_b9ae7_3T {L : List (Option Value)} {a : Int} (c : (-2147483648 ≤ a ∧ a ≤ 2147483647) ∧ a = 0) {st : List Value} {H : HP} {Q : Option Value → HP → Prop} : Go 181 3 L (vi a :: st) H Q ↔ Go 181 10 L st H Q := G_ifT fJxe99ae_isNaN_b9ae7_3 (by decide) c
theorem gJxe99ae_isNaN_b9ae7_3F {L : List (Option Value)} {a : Int} (c : (-2147483648 ≤ a ∧ a ≤ 2147483647) ∧ ¬ (a = 0)) {st : List Value} {H : HP} {Q : Option Value → HP → Prop} : Go 181 3 L (vi a :: st) H Q ↔ Go 181 6 L st H Q := G_ifF (tg := 10) fJxe99ae_isNaN_b9ae7_3 (by decide) c
theorem fJxe99ae_isNaN_b9ae7_6 : ft 181 6 = some (.iconst 1, 0, 0, 0, .null) := by decide +kernel
theorem gJxe99ae_isNaN_b9ae7_6 {L : List (Option Value)} {st : List Value} {H : HP} {Q : Option Value → HP → Prop} : Go 181 6 L st H Q ↔ Go 181 7 L (vi 1 :: st) H Q := G_iconst fJxe99ae_isNaN_b9ae7_6
theorem fJxe99ae_isNaN_b9ae7_7 : ft 181 7 = some (.goto 4, 0, 0, 0, .null) := by decide +kernel
theorem gJxe99ae_isNaN_b9ae7_7 {L : List (Option Value)} {st : List Value} {H : HP} {Q : Option Value → HP → Prop} : Go 181 7 L st H Q ↔ Go 181 11 L st H Q := G_goto fJxe99ae_isNaN_b9ae7_7 (by decide)
theorem fJxe99ae_isNaN_b9ae7_10 : ft 181 10 = some (.iconst 0, 0, 0, 0, .null) := by decide +kernel
theorem gJxe99ae_isNaN_b9ae7_10 {L : List (Option Value)} {st : List Value} {H : HP} {Q : Option Value → HP → Prop} : Go 181 10 L st H Q ↔ Go 181 11 L (vi 0 :: st) H Q := G_iconst fJxe99ae_isNaN_b9ae7_10
theorem fJxe99ae_isNaN_b9ae7_11 : ft 181 11 = some (.ireturn, 0, 0, 0, .null) := by decide +kernel
theorem gJxe99ae_isNaN_b9ae7_11 {L : List (Option Value)} {a : Int} (c : a = 0 ∨ a = 1) {H : HP} {Q : Option Value → HP → Prop} : Go 181 11 L [vi a] H Q ↔ Q (some (vi a)) H := G_zret fJxe99ae_isNaN_b9ae7_11 (by decide +kernel) c
theorem fJxe99ae_doubleToLongBits_ccdee_0 : ft 182 0 = some (.dload_n 0, 0, 0, 0, .null) := by decide +kernel
theorem gJxe99ae_doubleToLongBits_ccdee_0  {u : UInt64} {st : List Value} {H : HP} {Q : Option Value → HP → Prop} : Go 182 0 [some (.double u), none] st H Q ↔ Go 182 1 [some (.double u), none] (.double u :: st) H Q := G_dload_n fJxe99ae_doubleToLongBits_ccdee_0 rfl
theorem fJxe99ae_doubleToLongBits_ccdee_1 : ft 182 1 = some (.invokestatic 122, 181, 0, 1086, .null) := by decide +kernel
theorem gJxe99ae_doubleToLongBits_ccdee_1 {L : List (Option Value)} {a0 : UInt64}  {H : HP} {Q : Option Value → HP → Prop} : Go 182 1 L (.double a0 :: []) H Q ↔ Go 181 0 [some (.double a0), none] [] H (Cont 182 4 L [] Q) := G_cS (n := 1) (N := 2) (as := [.double a0]) (st := []) fJxe99ae_doubleToLongBits_ccdee_1 (by decide +kernel) rfl (Nat.le_of_ble_eq_true rfl) (Nat.le_of_ble_eq_true rfl) rfl
theorem fJxe99ae_doubleToLongBits_ccdee_4 : ft 182 4 = some (.ifCond .ne 8, 0, 0, 0, .null) := by decide +kernel
theorem gJxe99ae_doubleToLongBits_ccdee_4T {L : List (Option Value)} {a : Int} (c : (-2147483648 ≤ a ∧ a ≤ 2147483647) ∧ ¬ a = 0) {st : List Value} {H : HP} {Q : Option Value → HP → Prop} : Go 182 4 L (vi a :: st) H Q ↔ Go 182 12 L st H Q := G_ifT fJxe99ae_doubleToLongBits_ccdee_4 (by decide) c
theorem gJxe99ae_doubleToLongBits_ccdee_4F {L : List (Option Value)} {a : Int} (c : (-2147483648 ≤ a ∧ a ≤ 2147483647) ∧ ¬ (¬ a = 0)) {st : List Value} {H : HP} {Q : Option Value → HP → Prop} : Go 182 4 L (vi a :: st) H Q ↔ Go 182 7 L st H Q := G_ifF (tg := 12) fJxe99ae_doubleToLongBits_ccdee_4 (by decide) c
theorem fJxe99ae_doubleToLongBits_ccdee_7 : ft 182 7 = some (.dload_n 0, 0, 0, 0, .null) := by decide +kernel
theorem gJxe99ae_doubleToLongBits_ccdee_7  {u : UInt64} {st : List Value} {H : HP} {Q : Option Value → HP → Prop} : Go 182 7 [some (.double u), none] st H Q ↔ Go 182 8 [some (.double u), none] (.double u :: st) H Q := G_dload_n fJxe99ae_doubleToLongBits_ccdee_7 rfl
theorem fJxe99ae_doubleToLongBits_ccdee_8 : ft 182 8 = some (.invokestatic 134, 1002, 0, 1089, .null) := by decide +kernel
theorem gJxe99ae_doubleToLongBits_ccdee_8 {L : List (Option Value)} {u : UInt64}  {H : HP} {Q : Option Value → HP → Prop} : Go 182 8 L (.double u :: []) H Q ↔ Go 182 11 L (.long u.toInt64 :: []) H Q := G_d2ln fJxe99ae_doubleToLongBits_ccdee_8 rfl ⟨by decide +kernel, Nat.le_trans (m := 23) (Nat.le_of_ble_eq_true rfl) (by decide +kernel)⟩
theorem fJxe99ae_doubleToLongBits_ccdee_11 : ft 182 11 = some (.lreturn, 0, 0, 0, .null) := by decide +kernel
theorem gJxe99ae_doubleToLongBits_ccdee_11 {L : List (Option Value)} {u : Int64} {H : HP} {Q : Option Value → HP → Prop} : Go 182 11 L [.long u] H Q ↔ Q (some (.long u)) H := G_lret fJxe99ae_doubleToLongBits_ccdee_11 (by decide +kernel)
theorem fJxe99ae_doubleToLongBits_ccdee_12 : ft 182 12 = some (.ldc2_w 137, 0, 0, 1092, .long (9221120237041090560)) := by decide +kernel
theorem gJxe99ae_doubleToLongBits_ccdee_12 {L : List (Option Value)} {st : List Value} {H : HP} {Q : Option Value → HP → Prop} : Go 182 12 L st H Q ↔ Go 182 15 L (vl (9221120237041090560) :: st) H Q := G_ldcl fJxe99ae_doubleToLongBits_ccdee_12 (by decide +kernel)
theorem fJxe99ae_doubleToLongBits_ccdee_15 : ft 182 15 = some (.lreturn, 0, 0, 0, .null) := by decide +kernel
theorem gJxe99ae_doubleToLongBits_ccdee_15 {L : List (Option Value)} {u : Int64} {H : HP} {Q : Option Value → HP → Prop} : Go 182 15 L [.long u] H Q ↔ Q (some (.long u)) H := G_lret fJxe99ae_doubleToLongBits_ccdee_15 (by decide +kernel)
theorem fJ9_floorMod_7cf53_0 : ft 183 0 = some (.iload_n 0, 0, 0, 0, .null) := by decide +kernel
theorem gJ9_floorMod_7cf53_0 {l1 l2 : Option Value} {u : Int32} {st : List Value} {H : HP} {Q : Option Value → HP → Prop} : Go 183 0 [some (.int u), l1, l2] st H Q ↔ Go 183 1 [some (.int u), l1, l2] (.int u :: st) H Q := G_iload_n fJ9_floorMod_7cf53_0 rfl
theorem fJ9_floorMod_7cf53_1 : ft 183 1 = some (.iload_n 1, 0, 0, 0, .null) := by decide +kernel
theorem gJ9_floorMod_7cf53_1 {l0 l2 : Option Value} {u : Int32} {st : List Value} {H : HP} {Q : Option Value → HP → Prop} : Go 183 1 [l0, some (.int u), l2] st H Q ↔ Go 183 2 [l0, some (.int u), l2] (.int u :: st) H Q := G_iload_n fJ9_floorMod_7cf53_1 rfl
theorem fJ9_floorMod_7cf53_2 : ft 183 2 = some (.irem, 0, 0, 0, .null) := by decide +kernel
theorem gJ9_floorMod_7cf53_2 {L : List (Option Value)} {a b : Int} (c : -2147483648 ≤ a ∧ a ≤ 2147483647 ∧ -2147483648 ≤ b ∧ b ≤ 2147483647 ∧ ¬ b = 0) {st : List Value} {H : HP} {Q : Option Value → HP → Prop} : Go 183 2 L (vi b :: vi a :: st) H Q ↔ Go 183 3 L (vi (a.tmod b) :: st) H Q := G_irem fJ9_floorMod_7cf53_2 c
theorem fJ9_floorMod_7cf53_3 : ft 183 3 = some (.istore_n 2, 0, 0, 0, .null) := by decide +kernel
theorem gJ9_floorMod_7cf53_3 {l0 l1 l2 : Option Value} {u : Int32} {st : List Value} {H : HP} {Q : Option Value → HP → Prop} : Go 183 3 [l0, l1, l2] (.int u :: st) H Q ↔ Go 183 4 [l0, l1, some (.int u)] st H Q := G_istore_n fJ9_floorMod_7cf53_3 rfl
theorem fJ9_floorMod_7cf53_4 : ft 183 4 = some (.iload_n 0, 0, 0, 0, .null) := by decide +kernel
theorem gJ9_floorMod_7cf53_4 {l1 l2 : Option Value} {u : Int32} {st : List Value} {H : HP} {Q : Option Value → HP → Prop} : Go 183 4 [some (.int u), l1, l2] st H Q ↔ Go 183 5 [some (.int u), l1, l2] (.int u :: st) H Q := G_iload_n fJ9_floorMod_7cf53_4 rfl
theorem fJ9_floorMod_7cf53_5 : ft 183 5 = some (.iload_n 1, 0, 0, 0, .null) := by decide +kernel
theorem gJ9_floorMod_7cf53_5 {l0 l2 : Option Value} {u : Int32} {st : List Value} {H : HP} {Q : Option Value → HP → Prop} : Go 183 5 [l0, some (.int u), l2] st H Q ↔ Go 183 6 [l0, some (.int u), l2] (.int u :: st) H Q := G_iload_n fJ9_floorMod_7cf53_5 rfl
theorem fJ9_floorMod_7cf53_6 : ft 183 6 = some (.ixor, 0, 0, 0, .null) := by decide +kernel
theorem gJ9_floorMod_7cf53_6 {L : List (Option Value)} {a b : Int} {st : List Value} {H : HP} {Q : Option Value → HP → Prop} : Go 183 6 L (vi b :: vi a :: st) H Q ↔ Go 183 7 L (vi (jXor a b) :: st) H Q := G_ixor fJ9_floorMod_7cf53_6
theorem fJ9_floorMod_7cf53_7 : ft 183 7 = some (.ifCond .ge 11, 0, 0, 0, .null) := by decide +kernel
theorem gJ9_floorMod_7cf53_7T {L : List (Option Value)} {a : Int} (c : (-2147483648 ≤ a ∧ a ≤ 2147483647) ∧ 0 ≤ a) {st : List Value} {H : HP} {Q : Option Value → HP → Prop} : Go 183 7 L (vi a :: st) H Q ↔ Go 183 18 L st H Q := G_ifT fJ9_floorMod_7cf53_7 (by decide) c
theorem gJ9_floorMod_7cf53_7F {L : List (Option Value)} {a : Int} (c : (-2147483648 ≤ a ∧ a ≤ 2147483647) ∧ ¬ (0 ≤ a)) {st : List Value} {H : HP} {Q : Option Value → HP → Prop} : Go 183 7 L (vi a :: st) H Q ↔ Go 183 10 L st H Q := G_ifF (tg := 18) fJ9_floorMod_7cf53_7 (by decide) c
theorem fJ9_floorMod_7cf53_10 : ft 183 10 = some (.iload_n 2, 0, 0, 0, .null) := by decide +kernel
theorem gJ9_floorMod_7cf53_10 {l0 l1 : Option Value} {u : Int32} {st : List Value} {H : HP} {Q : Option Value → HP → Prop} : Go 183 10 [l0, l1, some (.int u)] st H Q ↔ Go 183 11 [l0, l1, some (.int u)] (.int u :: st) H Q := G_iload_n fJ9_floorMod_7cf53_10 rfl
theorem fJ9_floorMod_7cf53_11 : ft 183 11 = some (.ifCond .eq 7, 0, 0, 0, .null) := by decide +kernel
theorem gJ9_floorMod_7cf53_11T {L : List (Option Value)} {a : Int} (c : (-2147483648 ≤ a ∧ a ≤ 2147483647) ∧ a = 0) {st : List Value} {H : HP} {Q : Option Value → HP → Prop} : Go 183 11 L (vi a :: st) H Q ↔ Go 183 18 L st H Q := G_ifT fJ9_floorMod_7cf53_11 (by decide) c
theorem gJ9_floorMod_7cf53_11F {L : List (Option Value)} {a : Int} (c : (-2147483648 ≤ a ∧ a ≤ 2147483647) ∧ ¬ (a = 0)) {st : List Value} {H : HP} {Q : Option Value → HP → Prop} : Go 183 11 L (vi a :: st) H Q ↔ Go 183 14 L st H Q := G_ifF (tg := 18) fJ9_floorMod_7cf53_11 (by decide) c
theorem fJ9_floorMod_7cf53_14 : ft 183 14 = some (.iload_n 2, 0, 0, 0, .null) := by decide +kernel
theorem gJ9_floorMod_7cf53_14 {l0 l1 : Option Value} {u : Int32} {st : List Value} {H : HP} {Q : Option Value → HP → Prop} : Go 183 14 [l0, l1, some (.int u)] st H Q ↔ Go 183 15 [l0, l1, some (.int u)] (.int u :: st) H Q := G_iload_n fJ9_floorMod_7cf53_14 rfl
theorem fJ9_floorMod_7cf53_15 : ft 183 15 = some (.iload_n 1, 0, 0, 0, .null) := by decide +kernel
theorem gJ9_floorMod_7cf53_15 {l0 l2 : Option Value} {u : Int32} {st : List Value} {H : HP} {Q : Option Value → HP → Prop} : Go 183 15 [l0, some (.int u), l2] st H Q ↔ Go 183 16 [l0, some (.int u), l2] (.int u :: st) H Q := G_iload_n fJ9_floorMod_7cf53_15 rfl
theorem fJ9_floorMod_7cf53_16 : ft 183 16 = some (.iadd, 0, 0, 0, .null) := by decide +kernel
theorem gJ9_floorMod_7cf53_16 {L : List (Option Value)} {a b : Int} {st : List Value} {H : HP} {Q : Option Value → HP → Prop} : Go 183 16 L (vi b :: vi a :: st) H Q ↔ Go 183 17 L (vi (a + b) :: st) H Q := G_iadd fJ9_floorMod_7cf53_16
theorem fJ9_floorMod_7cf53_17 : ft 183 17 = some (.ireturn, 0, 0, 0, .null) := by decide +kernel
theorem gJ9_floorMod_7cf53_17 {L : List (Option Value)} {u : Int32} {H : HP} {Q : Option Value → HP → Prop} : Go 183 17 L [.int u] H Q ↔ Q (some (.int u)) H := G_iret fJ9_floorMod_7cf53_17 (by decide +kernel)
theorem fJ9_floorMod_7cf53_18 : ft 183 18 = some (.iload_n 2, 0, 0, 0, .null) := by decide +kernel
theorem gJ9_floorMod_7cf53_18 {l0 l1 : Option Value} {u : Int32} {st : List Value} {H : HP} {Q : Option Value → HP → Prop} : Go 183 18 [l0, l1, some (.int u)] st H Q ↔ Go 183 19 [l0, l1, some (.int u)] (.int u :: st) H Q := G_iload_n fJ9_floorMod_7cf53_18 rfl
theorem fJ9_floorMod_7cf53_19 : ft 183 19 = some (.ireturn, 0, 0, 0, .null) := by decide +kernel
theorem gJ9_floorMod_7cf53_19 {L : List (Option Value)} {u : Int32} {H : HP} {Q : Option Value → HP → Prop} : Go 183 19 L [.int u] H Q ↔ Q (some (.int u)) H := G_iret fJ9_floorMod_7cf53_19 (by decide +kernel)
theorem fJ9_floorMod_f86c9_0 : ft 184 0 = some (.lload_n 0, 0, 0, 0, .null) := by decide +kernel
theorem gJ9_floorMod_f86c9_0 {l2 l3 l4 l5 : Option Value} {u : Int64} {st : List Value} {H : HP} {Q : Option Value → HP → Prop} : Go 184 0 [some (.long u), none, l2, l3, l4, l5] st H Q ↔ Go 184 1 [some (.long u), none, l2, l3, l4, l5] (.long u :: st) H Q := G_lload_n fJ9_floorMod_f86c9_0 rfl
theorem fJ9_floorMod_f86c9_1 : ft 184 1 = some (.lload_n 2, 0, 0, 0, .null) := by decide +kernel
theorem gJ9_floorMod_f86c9_1 {l0 l1 l4 l5 : Option Value} {u : Int64} {st : List Value} {H : HP} {Q : Option Value → HP → Prop} : Go 184 1 [l0, l1, some (.long u), none, l4, l5] st H Q ↔ Go 184 2 [l0, l1, some (.long u), none, l4, l5] (.long u :: st) H Q := G_lload_n fJ9_floorMod_f86c9_1 rfl
theorem fJ9_floorMod_f86c9_2 : ft 184 2 = some (.lrem, 0, 0, 0, .null) := by decide +kernel
theorem gJ9_floorMod_f86c9_2 {L : List (Option Value)} {a b : Int} (c : -9223372036854775808 ≤ a ∧ a ≤ 9223372036854775807 ∧ -9223372036854775808 ≤ b ∧ b ≤ 9223372036854775807 ∧ ¬ b = 0) {st : List Value} {H : HP} {Q : Option Value → HP → Prop} : Go 184 2 L (vl b :: vl a :: st) H Q ↔ Go 184 3 L (vl (a.tmod b) :: st) H Q := G_lrem fJ9_floorMod_f86c9_2 c
theorem fJ9_floorMod_f86c9_3 : ft 184 3 = some (.lstore 4, 0, 0, 0, .null) := by decide +kernel
theorem gJ9_floorMod_f86c9_3 {l0 l1 l2 l3 l4 l5 : Option Value} {u : Int64} {st : List Value} {H : HP} {Q : Option Value → HP → Prop} : Go 184 3 [l0, l1, l2, l3, l4, l5] (.long u :: st) H Q ↔ Go 184 5 [l0, l1, l2, l3, some (.long u), none] st H Q := G_lstore fJ9_floorMod_f86c9_3 rfl
theorem fJ9_floorMod_f86c9_5 : ft 184 5 = some (.lload_n 0, 0, 0, 0, .null) := by decide +kernel
theorem gJ9_floorMod_f86c9_5 {l2 l3 l4 l5 : Option Value} {u : Int64} {st : List Value} {H : HP} {Q : Option Value → HP → Prop} : Go 184 5 [some (.long u), none, l2, l3, l4, l5] st H Q ↔ Go 184 6 [some (.long u), none, l2, l3, l4, l5] (.long u :: st) H Q := G_lload_n fJ9_floorMod_f86c9_5 rfl
theorem fJ9_floorMod_f86c9_6 : ft 184 6 = some (.lload_n 2, 0, 0, 0, .null) := by decide +kernel
theorem gJ9_floorMod_f86c9_6 {l0 l1 l4 l5 : Option Value} {u : Int64} {st : List Value} {H : HP} {Q : Option Value → HP → Prop} : Go 184 6 [l0, l1, some (.long u), none, l4, l5] st H Q ↔ Go 184 7 [l0, l1, some (.long u), none, l4, l5] (.long u :: st) H Q := G_lload_n fJ9_floorMod_f86c9_6 rfl
theorem fJ9_floorMod_f86c9_7 : ft 184 7 = some (.lxor, 0, 0, 0, .null) := by decide +kernel
theorem gJ9_floorMod_f86c9_7 {L : List (Option Value)} {a b : Int} {st : List Value} {H : HP} {Q : Option Value → HP → Prop} : Go 184 7 L (vl b :: vl a :: st) H Q ↔ Go 184 8 L (vl (bXor a b) :: st) H Q := G_lxor fJ9_floorMod_f86c9_7
theorem fJ9_floorMod_f86c9_8 : ft 184 8 = some (.lconst 0, 0, 0, 0, .null) := by decide +kernel
theorem gJ9_floorMod_f86c9_8 {L : List (Option Value)} {st : List Value} {H : HP} {Q : Option Value → HP → Prop} : Go 184 8 L st H Q ↔ Go 184 9 L (vl 0 :: st) H Q := G_lconst fJ9_floorMod_f86c9_8 (by decide)
theorem fJ9_floorMod_f86c9_9 : ft 184 9 = some (.lcmp, 0, 0, 0, .null) := by decide +kernel
theorem fJ9_floorMod_f86c9_9' : ft 184 10 = some (.ifCond .ge 15, 0, 0, 0, .null) := by decide +kernel
theorem gJ9_floorMod_f86c9_9T {L : List (Option Value)} {a b : Int} (c : (-9223372036854775808 ≤ a ∧ a ≤ 9223372036854775807 ∧ -9223372036854775808 ≤ b ∧ b ≤ 9223372036854775807) ∧ b ≤ a) {st : List Value} {H : HP} {Q : Option Value → HP → Prop} : Go 184 9 L (vl b :: vl a :: st) H Q ↔ Go 184 25 L st H Q := G_lcT fJ9_floorMod_f86c9_9 fJ9_floorMod_f86c9_9' (by decide) c
theorem gJ9_floorMod_f86c9_9F {L : List (Option Value)} {a b : Int} (c : (-9223372036854775808 ≤ a ∧ a ≤ 9223372036854775807 ∧ -9223372036854775808 ≤ b ∧ b ≤ 9223372036854775807) ∧ ¬ (b ≤ a)) {st : List Value} {H : HP} {Q : Option Value → HP → Prop} : Go 184 9 L (vl b :: vl a :: st) H Q ↔ Go 184 13 L st H Q := G_lcF (tg := 25) fJ9_floorMod_f86c9_9 fJ9_floorMod_f86c9_9' (by decide) c
theorem fJ9_floorMod_f86c9_10 : ft 184 10 = some (.ifCond .ge 15, 0, 0, 0, .null) := by decide +kernel
theorem gJ9_floorMod_f86c9_10T {L : List (Option Value)} {a : Int} (c : (-2147483648 ≤ a ∧ a ≤ 2147483647) ∧ 0 ≤ a) {st : List Value} {H : HP} {Q : Option Value → HP → Prop} : Go 184 10 L (vi a :: st) H Q ↔ Go 184 25 L st H Q := G_ifT fJ9_floorMod_f86c9_10 (by decide) c
theorem gJ9_floorMod_f86c9_10F {L : List (Option Value)} {a : Int} (c : (-2147483648 ≤ a ∧ a ≤ 2147483647) ∧ ¬ (0 ≤ a)) {st : List Value} {H : HP} {Q : Option Value → HP → Prop} : Go 184 10 L (vi a :: st) H Q ↔ Go 184 13 L st H Q := G_ifF (tg := 25) fJ9_floorMod_f86c9_10 (by decide) c
theorem fJ9_floorMod_f86c9_13 : ft 184 13 = some (.lload 4, 0, 0, 0, .null) := by decide +kernel
theorem gJ9_floorMod_f86c9_13 {l0 l1 l2 l3 : Option Value} {u : Int64} {st : List Value} {H : HP} {Q : Option Value → HP → Prop} : Go 184 13 [l0, l1, l2, l3, some (.long u), none] st H Q ↔ Go 184 15 [l0, l1, l2, l3, some (.long u), none] (.long u :: st) H Q := G_lload fJ9_floorMod_f86c9_13 rfl
theorem fJ9_floorMod_f86c9_15 : ft 184 15 = some (.lconst 0, 0, 0, 0, .null) := by decide +kernel
theorem gJ9_floorMod_f86c9_15 {L : List (Option Value)} {st : List Value} {H : HP} {Q : Option Value → HP → Prop} : Go 184 15 L st H Q ↔ Go 184 16 L (vl 0 :: st) H Q := G_lconst fJ9_floorMod_f86c9_15 (by decide)
theorem fJ9_floorMod_f86c9_16 : ft 184 16 = some (.lcmp, 0, 0, 0, .null) := by decide +kernel
theorem fJ9_floorMod_f86c9_16' : ft 184 17 = some (.ifCond .eq 8, 0, 0, 0, .null) := by decide +kernel
theorem gJ9_floorMod_f86c9_16T {L : List (Option Value)} {a b : Int} (c : (-9223372036854775808 ≤ a ∧ a ≤ 9223372036854775807 ∧ -9223372036854775808 ≤ b ∧ b ≤ 9223372036854775807) ∧ a = b) {st : List Value} {H : HP} {Q : Option Value → HP → Prop} : Go 184 16 L (vl b :: vl a :: st) H Q ↔ Go 184 25 L st H Q := G_lcT fJ9_floorMod_f86c9_16 fJ9_floorMod_f86c9_16' (by decide) c
theorem gJ9_floorMod_f86c9_16F {L : List (Option Value)} {a b : Int} (c : (-9223372036854775808 ≤ a ∧ a ≤ 9223372036854775807 ∧ -9223372036854775808 ≤ b ∧ b ≤ 9223372036854775807) ∧ ¬ (a = b)) {st : List Value} {H : HP} {Q : Option Value → HP → Prop} : Go 184 16 L (vl b :: vl a :: st) H Q ↔ Go 184 20 L st H Q := G_lcF (tg := 25) fJ9_floorMod_f86c9_16 fJ9_floorMod_f86c9_16' (by decide) c
theorem fJ9_floorMod_f86c9_17 : ft 184 17 = some (.ifCond .eq 8, 0, 0, 0, .null) := by decide +kernel
theorem gJ9_floorMod_f86c9_17T {L : List (Option Value)} {a : Int} (c : (-2147483648 ≤ a ∧ a ≤ 2147483647) ∧ a = 0) {st : List Value} {H : HP} {Q : Option Value → HP → Prop} : Go 184 17 L (vi a :: st) H Q ↔ Go 184 25 L st H Q := G_ifT fJ9_floorMod_f86c9_17 (by decide) c
theorem gJ9_floorMod_f86c9_17F {L : List (Option Value)} {a : Int} (c : (-2147483648 ≤ a ∧ a ≤ 2147483647) ∧ ¬ (a = 0)) {st : List Value} {H : HP} {Q : Option Value → HP → Prop} : Go 184 17 L (vi a :: st) H Q ↔ Go 184 20 L st H Q := G_ifF (tg := 25) fJ9_floorMod_f86c9_17 (by decide) c
theorem fJ9_floorMod_f86c9_20 : ft 184 20 = some (.lload 4, 0, 0, 0, .null) := by decide +kernel
theorem gJ9_floorMod_f86c9_20 {l0 l1 l2 l3 : Option Value} {u : Int64} {st : List Value} {H : HP} {Q : Option Value → HP → Prop} : Go 184 20 [l0, l1, l2, l3, some (.long u), none] st H Q ↔ Go 184 22 [l0, l1, l2, l3, some (.long u), none] (.long u :: st) H Q := G_lload fJ9_floorMod_f86c9_20 rfl
theorem fJ9_floorMod_f86c9_22 : ft 184 22 = some (.lload_n 2, 0, 0, 0, .null) := by decide +kernel
theorem gJ9_floorMod_f86c9_22 {l0 l1 l4 l5 : Option Value} {u : Int64} {st : List Value} {H : HP} {Q : Option Value → HP → Prop} : Go 184 22 [l0, l1, some (.long u), none, l4, l5] st H Q ↔ Go 184 23 [l0, l1, some (.long u), none, l4, l5] (.long u :: st) H Q := G_lload_n fJ9_floorMod_f86c9_22 rfl
theorem fJ9_floorMod_f86c9_23 : ft 184 23 = some (.ladd, 0, 0, 0, .null) := by decide +kernel
theorem gJ9_floorMod_f86c9_23 {L : List (Option Value)} {a b : Int} {st : List Value} {H : HP} {Q : Option Value → HP → Prop} : Go 184 23 L (vl b :: vl a :: st) H Q ↔ Go 184 24 L (vl (a + b) :: st) H Q := G_ladd fJ9_floorMod_f86c9_23
theorem fJ9_floorMod_f86c9_24 : ft 184 24 = some (.lreturn, 0, 0, 0, .null) := by decide +kernel
theorem gJ9_floorMod_f86c9_24 {L : List (Option Value)} {u : Int64} {H : HP} {Q : Option Value → HP → Prop} : Go 184 24 L [.long u] H Q ↔ Q (some (.long u)) H := G_lret fJ9_floorMod_f86c9_24 (by decide +kernel)
theorem fJ9_floorMod_f86c9_25 : ft 184 25 = some (.lload 4, 0, 0, 0, .null) := by decide +kernel
theorem gJ9_floorMod_f86c9_25 {l0 l1 l2 l3 : Option Value} {u : Int64} {st : List Value} {H : HP} {Q : Option Value → HP → Prop} : Go 184 25 [l0, l1, l2, l3, some (.long u), none] st H Q ↔ Go 184 27 [l0, l1, l2, l3, some (.long u), none] (.long u :: st) H Q := G_lload fJ9_floorMod_f86c9_25 rfl
theorem fJ9_floorMod_f86c9_27 : ft 184 27 = some (.lreturn, 0, 0, 0, .null) := by decide +kernel
theorem gJ9_floorMod_f86c9_27 {L : List (Option Value)} {u : Int64} {H : HP} {Q : Option Value → HP → Prop} : Go 184 27 L [.long u] H Q ↔ Q (some (.long u)) H := G_lret fJ9_floorMod_f86c9_27 (by decide +kernel)
theorem fJ9_abs_0f7a4_0 : ft 185 0 = some (.iload_n 0, 0, 0, 0, .null) := by decide +kernel
theorem gJ9_abs_0f7a4_0  {u : Int32} {st : List Value} {H : HP} {Q : Option Value → HP → Prop} : Go 185 0 [some (.int u)] st H Q ↔ Go 185 1 [some (.int u)] (.int u :: st) H Q := G_iload_n fJ9_abs_0f7a4_0 rfl
theorem fJ9_abs_0f7a4_1 : ft 185 1 = some (.ifCond .ge 8, 0, 0, 0, .null) := by decide +kernel
theorem gJ9_abs_0f7a4_1T {L : List (Option Value)} {a : Int} (c : (-2147483648 ≤ a ∧ a ≤ 2147483647) ∧ 0 ≤ a) {st : List Value} {H : HP} {Q : Option Value → HP → Prop} : Go 185 1 L (vi a :: st) H Q ↔ Go 185 9 L st H Q := G_ifT fJ9_abs_0f7a4_1 (by decide) c
theorem gJ9_abs_0f7a4_1F {L : List (Option Value)} {a : Int} (c : (-2147483648 ≤ a ∧ a ≤ 2147483647) ∧ ¬ (0 ≤ a)) {st : List Value} {H : HP} {Q : Option Value → HP → Prop} : Go 185 1 L (vi a :: st) H Q ↔ Go 185 4 L st H Q := G_ifF (tg := 9) fJ9_abs_0f7a4_1 (by decide) c
theorem fJ9_abs_0f7a4_4 : ft 185 4 = some (.iload_n 0, 0, 0, 0, .null) := by decide +kernel
theorem gJ9_abs_0f7a4_4  {u : Int32} {st : List Value} {H : HP} {Q : Option Value → HP → Prop} : Go 185 4 [some (.int u)] st H Q ↔ Go 185 5 [some (.int u)] (.int u :: st) H Q := G_iload_n fJ9_abs_0f7a4_4 rfl
theorem fJ9_abs_0f7a4_5 : ft 185 5 = some (.ineg, 0, 0, 0, .null) := by decide +kernel
theorem gJ9_abs_0f7a4_5 {L : List (Option Value)} {a : Int} {st : List Value} {H : HP} {Q : Option Value → HP → Prop} : Go 185 5 L (vi a :: st) H Q ↔ Go 185 6 L (vi (-a) :: st) H Q := G_ineg fJ9_abs_0f7a4_5
theorem fJ9_abs_0f7a4_6 : ft 185 6 = some (.goto 4, 0, 0, 0, .null) := by decide +kernel
theorem gJ9_abs_0f7a4_6 {L : List (Option Value)} {st : List Value} {H : HP} {Q : Option Value → HP → Prop} : Go 185 6 L st H Q ↔ Go 185 10 L st H Q := G_goto fJ9_abs_0f7a4_6 (by decide)
theorem fJ9_abs_0f7a4_9 : ft 185 9 = some (.iload_n 0, 0, 0, 0, .null) := by decide +kernel
theorem gJ9_abs_0f7a4_9  {u : Int32} {st : List Value} {H : HP} {Q : Option Value → HP → Prop} : Go 185 9 [some (.int u)] st H Q ↔ Go 185 10 [some (.int u)] (.int u :: st) H Q := G_iload_n fJ9_abs_0f7a4_9 rfl
theorem fJ9_abs_0f7a4_10 : ft 185 10 = some (.ireturn, 0, 0, 0, .null) := by decide +kernel
theorem gJ9_abs_0f7a4_10 {L : List (Option Value)} {u : Int32} {H : HP} {Q : Option Value → HP → Prop} : Go 185 10 L [.int u] H Q ↔ Q (some (.int u)) H := G_iret fJ9_abs_0f7a4_10 (by decide +kernel)
theorem fJ9_abs_067f4_0 : ft 186 0 = some (.lload_n 0, 0, 0, 0, .null) := by decide +kernel
theorem gJ9_abs_067f4_0  {u : Int64} {st : List Value} {H : HP} {Q : Option Value → HP → Prop} : Go 186 0 [some (.long u), none] st H Q ↔ Go 186 1 [some (.long u), none] (.long u :: st) H Q := G_lload_n fJ9_abs_067f4_0 rfl
theorem fJ9_abs_067f4_1 : ft 186 1 = some (.lconst 0, 0, 0, 0, .null) := by decide +kernel
theorem gJ9_abs_067f4_1 {L : List (Option Value)} {st : List Value} {H : HP} {Q : Option Value → HP → Prop} : Go 186 1 L st H Q ↔ Go 186 2 L (vl 0 :: st) H Q := G_lconst fJ9_abs_067f4_1 (by decide)
theorem fJ9_abs_067f4_2 : ft 186 2 = some (.lcmp, 0, 0, 0, .null) := by decide +kernel
theorem fJ9_abs_067f4_2' : ft 186 3 = some (.ifCond .ge 8, 0, 0, 0, .null) := by decide +kernel
theorem gJ9_abs_067f4_2T {L : List (Option Value)} {a b : Int} (c : (-9223372036854775808 ≤ a ∧ a ≤ 9223372036854775807 ∧ -9223372036854775808 ≤ b ∧ b ≤ 9223372036854775807) ∧ b ≤ a) {st : List Value} {H : HP} {Q : Option Value → HP → Prop} : Go 186 2 L (vl b :: vl a :: st) H Q ↔ Go 186 11 L st H Q := G_lcT fJ9_abs_067f4_2 fJ9_abs_067f4_2' (by decide) c
theorem gJ9_abs_067f4_2F {L : List (Option Value)} {a b : Int} (c : (-9223372036854775808 ≤ a ∧ a ≤ 9223372036854775807 ∧ -9223372036854775808 ≤ b ∧ b ≤ 9223372036854775807) ∧ ¬ (b ≤ a)) {st : List Value} {H : HP} {Q : Option Value → HP → Prop} : Go 186 2 L (vl b :: vl a :: st) H Q ↔ Go 186 6 L st H Q := G_lcF (tg := 11) fJ9_abs_067f4_2 fJ9_abs_067f4_2' (by decide) c
theorem fJ9_abs_067f4_3 : ft 186 3 = some (.ifCond .ge 8, 0, 0, 0, .null) := by decide +kernel
theorem gJ9_abs_067f4_3T {L : List (Option Value)} {a : Int} (c : (-2147483648 ≤ a ∧ a ≤ 2147483647) ∧ 0 ≤ a) {st : List Value} {H : HP} {Q : Option Value → HP → Prop} : Go 186 3 L (vi a :: st) H Q ↔ Go 186 11 L st H Q := G_ifT fJ9_abs_067f4_3 (by decide) c
theorem gJ9_abs_067f4_3F {L : List (Option Value)} {a : Int} (c : (-2147483648 ≤ a ∧ a ≤ 2147483647) ∧ ¬ (0 ≤ a)) {st : List Value} {H : HP} {Q : Option Value → HP → Prop} : Go 186 3 L (vi a :: st) H Q ↔ Go 186 6 L st H Q := G_ifF (tg := 11) fJ9_abs_067f4_3 (by decide) c
theorem fJ9_abs_067f4_6 : ft 186 6 = some (.lload_n 0, 0, 0, 0, .null) := by decide +kernel
theorem gJ9_abs_067f4_6  {u : Int64} {st : List Value} {H : HP} {Q : Option Value → HP → Prop} : Go 186 6 [some (.long u), none] st H Q ↔ Go 186 7 [some (.long u), none] (.long u :: st) H Q := G_lload_n fJ9_abs_067f4_6 rfl
theorem fJ9_abs_067f4_7 : ft 186 7 = some (.lneg, 0, 0, 0, .null) := by decide +kernel
theorem gJ9_abs_067f4_7 {L : List (Option Value)} {a : Int} {st : List Value} {H : HP} {Q : Option Value → HP → Prop} : Go 186 7 L (vl a :: st) H Q ↔ Go 186 8 L (vl (-a) :: st) H Q := G_lneg fJ9_abs_067f4_7
theorem fJ9_abs_067f4_8 : ft 186 8 = some (.goto 4, 0, 0, 0, .null) := by decide +kernel
theorem gJ9_abs_067f4_8 {L : List (Option Value)} {st : List Value} {H : HP} {Q : Option Value → HP → Prop} : Go 186 8 L st H Q ↔ Go 186 12 L st H Q := G_goto fJ9_abs_067f4_8 (by decide)
theorem fJ9_abs_067f4_11 : ft 186 11 = some (.lload_n 0, 0, 0, 0, .null) := by decide +kernel
theorem gJ9_abs_067f4_11  {u : Int64} {st : List Value} {H : HP} {Q : Option Value → HP → Prop} : Go 186 11 [some (.long u), none] st H Q ↔ Go 186 12 [some (.long u), none] (.long u :: st) H Q := G_lload_n fJ9_abs_067f4_11 rfl
theorem fJ9_abs_067f4_12 : ft 186 12 = some (.lreturn, 0, 0, 0, .null) := by decide +kernel
theorem gJ9_abs_067f4_12 {L : List (Option Value)} {u : Int64} {H : HP} {Q : Option Value → HP → Prop} : Go 186 12 L [.long u] H Q ↔ Q (some (.long u)) H := G_lret fJ9_abs_067f4_12 (by decide +kernel)
theorem fJ9_max_7cf53_0 : ft 187 0 = some (.iload_n 0, 0, 0, 0, .null) := by decide +kernel
theorem gJ9_max_7cf53_0 {l1 : Option Value} {u : Int32} {st : List Value} {H : HP} {Q : Option Value → HP → Prop} : Go 187 0 [some (.int u), l1] st H Q ↔ Go 187 1 [some (.int u), l1] (.int u :: st) H Q := G_iload_n fJ9_max_7cf53_0 rfl
theorem fJ9_max_7cf53_1 : ft 187 1 = some (.iload_n 1, 0, 0, 0, .null) := by decide +kernel
theorem gJ9_max_7cf53_1 {l0 : Option Value} {u : Int32} {st : List Value} {H : HP} {Q : Option Value → HP → Prop} : Go 187 1 [l0, some (.int u)] st H Q ↔ Go 187 2 [l0, some (.int u)] (.int u :: st) H Q := G_iload_n fJ9_max_7cf53_1 rfl
theorem fJ9_max_7cf53_2 : ft 187 2 = some (.if_icmp .lt 7, 0, 0, 0, .null) := by decide +kernel
theorem gJ9_max_7cf53_2T {L : List (Option Value)} {a b : Int} (c : (-2147483648 ≤ a ∧ a ≤ 2147483647 ∧ -2147483648 ≤ b ∧ b ≤ 2147483647) ∧ a < b) {st : List Value} {H : HP} {Q : Option Value → HP → Prop} : Go 187 2 L (vi b :: vi a :: st) H Q ↔ Go 187 9 L st H Q := G_icT fJ9_max_7cf53_2 (by decide) c
theorem gJ9_max_7cf53_2F {L : List (Option Value)} {a b : Int} (c : (-2147483648 ≤ a ∧ a ≤ 2147483647 ∧ -2147483648 ≤ b ∧ b ≤ 2147483647) ∧ ¬ (a < b)) {st : List Value} {H : HP} {Q : Option Value → HP → Prop} : Go 187 2 L (vi b :: vi a :: st) H Q ↔ Go 187 5 L st H Q := G_icF (tg := 9) fJ9_max_7cf53_2 (by decide) c
theorem fJ9_max_7cf53_5 : ft 187 5 = some (.iload_n 0, 0, 0, 0, .null) := by decide +kernel
theorem gJ9_max_7cf53_5 {l1 : Option Value} {u : Int32} {st : List Value} {H : HP} {Q : Option Value → HP → Prop} : Go 187 5 [some (.int u), l1] st H Q ↔ Go 187 6 [some (.int u), l1] (.int u :: st) H Q := G_iload_n fJ9_max_7cf53_5 rfl
theorem fJ9_max_7cf53_6 : ft 187 6 = some (.goto 4, 0, 0, 0, .null) := by decide +kernel
theorem gJ9_max_7cf53_6 {L : List (Option Value)} {st : List Value} {H : HP} {Q : Option Value → HP → Prop} : Go 187 6 L st H Q ↔ Go 187 10 L st H Q := G_goto fJ9_max_7cf53_6 (by decide)
theorem fJ9_max_7cf53_9 : ft 187 9 = some (.iload_n 1, 0, 0, 0, .null) := by decide +kernel
theorem gJ9_max_7cf53_9 {l0 : Option Value} {u : Int32} {st : List Value} {H : HP} {Q : Option Value → HP → Prop} : Go 187 9 [l0, some (.int u)] st H Q ↔ Go 187 10 [l0, some (.int u)] (.int u :: st) H Q := G_iload_n fJ9_max_7cf53_9 rfl
theorem fJ9_max_7cf53_10 : ft 187 10 = some (.ireturn, 0, 0, 0, .null) := by decide +kernel
theorem gJ9_max_7cf53_10 {L : List (Option Value)} {u : Int32} {H : HP} {Q : Option Value → HP → Prop} : Go 187 10 L [.int u] H Q ↔ Q (some (.int u)) H := G_iret fJ9_max_7cf53_10 (by decide +kernel)
theorem fJ9_max_f86c9_0 : ft 188 0 = some (.lload_n 0, 0, 0, 0, .null) := by decide +kernel
theorem gJ9_max_f86c9_0 {l2 l3 : Option Value} {u : Int64} {st : List Value} {H : HP} {Q : Option Value → HP → Prop} : Go 188 0 [some (.long u), none, l2, l3] st H Q ↔ Go 188 1 [some (.long u), none, l2, l3] (.long u :: st) H Q := G_lload_n fJ9_max_f86c9_0 rfl
theorem fJ9_max_f86c9_1 : ft 188 1 = some (.lload_n 2, 0, 0, 0, .null) := by decide +kernel
theorem gJ9_max_f86c9_1 {l0 l1 : Option Value} {u : Int64} {st : List Value} {H : HP} {Q : Option Value → HP → Prop} : Go 188 1 [l0, l1, some (.long u), none] st H Q ↔ Go 188 2 [l0, l1, some (.long u), none] (.long u :: st) H Q := G_lload_n fJ9_max_f86c9_1 rfl
theorem fJ9_max_f86c9_2 : ft 188 2 = some (.lcmp, 0, 0, 0, .null) := by decide +kernel
theorem fJ9_max_f86c9_2' : ft 188 3 = some (.ifCond .lt 7, 0, 0, 0, .null) := by decide +kernel
theorem gJ9_max_f86c9_2T {L : List (Option Value)} {a b : Int} (c : (-9223372036854775808 ≤ a ∧ a ≤ 9223372036854775807 ∧ -9223372036854775808 ≤ b ∧ b ≤ 9223372036854775807) ∧ a < b) {st : List Value} {H : HP} {Q : Option Value → HP → Prop} : Go 188 2 L (vl b :: vl a :: st) H Q ↔ Go 188 10 L st H Q := G_lcT fJ9_max_f86c9_2 fJ9_max_f86c9_2' (by decide) c
theorem gJ9_max_f86c9_2F {L : List (Option Value)} {a b : Int} (c : (-9223372036854775808 ≤ a ∧ a ≤ 9223372036854775807 ∧ -9223372036854775808 ≤ b ∧ b ≤ 9223372036854775807) ∧ ¬ (a < b)) {st : List Value} {H : HP} {Q : Option Value → HP → Prop} : Go 188 2 L (vl b :: vl a :: st) H Q ↔ Go 188 6 L st H Q := G_lcF (tg := 10) fJ9_max_f86c9_2 fJ9_max_f86c9_2' (by decide) c
theorem fJ9_max_f86c9_3 : ft 188 3 = some (.ifCond .lt 7, 0, 0, 0, .null) := by decide +kernel
theorem gJ9_max_f86c9_3T {L : List (Option Value)} {a : Int} (c : (-2147483648 ≤ a ∧ a ≤ 2147483647) ∧ a < 0) {st : List Value} {H : HP} {Q : Option Value → HP → Prop} : Go 188 3 L (vi a :: st) H Q ↔ Go 188 10 L st H Q := G_ifT fJ9_max_f86c9_3 (by decide) c
theorem gJ9_max_f86c9_3F {L : List (Option Value)} {a : Int} (c : (-2147483648 ≤ a ∧ a ≤ 2147483647) ∧ ¬ (a < 0)) {st : List Value} {H : HP} {Q : Option Value → HP → Prop} : Go 188 3 L (vi a :: st) H Q ↔ Go 188 6 L st H Q := G_ifF (tg := 10) fJ9_max_f86c9_3 (by decide) c
theorem fJ9_max_f86c9_6 : ft 188 6 = some (.lload_n 0, 0, 0, 0, .null) := by decide +kernel
theorem gJ9_max_f86c9_6 {l2 l3 : Option Value} {u : Int64} {st : List Value} {H : HP} {Q : Option Value → HP → Prop} : Go 188 6 [some (.long u), none, l2, l3] st H Q ↔ Go 188 7 [some (.long u), none, l2, l3] (.long u :: st) H Q := G_lload_n fJ9_max_f86c9_6 rfl
theorem fJ9_max_f86c9_7 : ft 188 7 = some (.goto 4, 0, 0, 0, .null) := by decide +kernel
theorem gJ9_max_f86c9_7 {L : List (Option Value)} {st : List Value} {H : HP} {Q : Option Value → HP → Prop} : Go 188 7 L st H Q ↔ Go 188 11 L st H Q := G_goto fJ9_max_f86c9_7 (by decide)
theorem fJ9_max_f86c9_10 : ft 188 10 = some (.lload_n 2, 0, 0, 0, .null) := by decide +kernel
theorem gJ9_max_f86c9_10 {l0 l1 : Option Value} {u : Int64} {st : List Value} {H : HP} {Q : Option Value → HP → Prop} : Go 188 10 [l0, l1, some (.long u), none] st H Q ↔ Go 188 11 [l0, l1, some (.long u), none] (.long u :: st) H Q := G_lload_n fJ9_max_f86c9_10 rfl
theorem fJ9_max_f86c9_11 : ft 188 11 = some (.lreturn, 0, 0, 0, .null) := by decide +kernel
theorem gJ9_max_f86c9_11 {L : List (Option Value)} {u : Int64} {H : HP} {Q : Option Value → HP → Prop} : Go 188 11 L [.long u] H Q ↔ Q (some (.long u)) H := G_lret fJ9_max_f86c9_11 (by decide +kernel)
theorem fJ9_min_7cf53_0 : ft 189 0 = some (.iload_n 0, 0, 0, 0, .null) := by decide +kernel
theorem gJ9_min_7cf53_0 {l1 : Option Value} {u : Int32} {st : List Value} {H : HP} {Q : Option Value → HP → Prop} : Go 189 0 [some (.int u), l1] st H Q ↔ Go 189 1 [some (.int u), l1] (.int u :: st) H Q := G_iload_n fJ9_min_7cf53_0 rfl
theorem fJ9_min_7cf53_1 : ft 189 1 = some (.iload_n 1, 0, 0, 0, .null) := by decide +kernel
theorem gJ9_min_7cf53_1 {l0 : Option Value} {u : Int32} {st : List Value} {H : HP} {Q : Option Value → HP → Prop} : Go 189 1 [l0, some (.int u)] st H Q ↔ Go 189 2 [l0, some (.int u)] (.int u :: st) H Q := G_iload_n fJ9_min_7cf53_1 rfl
theorem fJ9_min_7cf53_2 : ft 189 2 = some (.if_icmp .gt 7, 0, 0, 0, .null) := by decide +kernel
theorem gJ9_min_7cf53_2T {L : List (Option Value)} {a b : Int} (c : (-2147483648 ≤ a ∧ a ≤ 2147483647 ∧ -2147483648 ≤ b ∧ b ≤ 2147483647) ∧ b < a) {st : List Value} {H : HP} {Q : Option Value → HP → Prop} : Go 189 2 L (vi b :: vi a :: st) H Q ↔ Go 189 9 L st H Q := G_icT fJ9_min_7cf53_2 (by decide) c
theorem gJ9_min_7cf53_2F {L : List (Option Value)} {a b : Int} (c : (-2147483648 ≤ a ∧ a ≤ 2147483647 ∧ -2147483648 ≤ b ∧ b ≤ 2147483647) ∧ ¬ (b < a)) {st : List Value} {H : HP} {Q : Option Value → HP → Prop} : Go 189 2 L (vi b :: vi a :: st) H Q ↔ Go 189 5 L st H Q := G_icF (tg := 9) fJ9_min_7cf53_2 (by decide) c
theorem fJ9_min_7cf53_5 : ft 189 5 = some (.iload_n 0, 0, 0, 0, .null) := by decide +kernel
theorem gJ9_min_7cf53_5 {l1 : Option Value} {u : Int32} {st : List Value} {H : HP} {Q : Option Value → HP → Prop} : Go 189 5 [some (.int u), l1] st H Q ↔ Go 189 6 [some (.int u), l1] (.int u :: st) H Q := G_iload_n fJ9_min_7cf53_5 rfl
theorem fJ9_min_7cf53_6 : ft 189 6 = some (.goto 4, 0, 0, 0, .null) := by decide +kernel
theorem gJ9_min_7cf53_6 {L : List (Option Value)} {st : List Value} {H : HP} {Q : Option Value → HP → Prop} : Go 189 6 L st H Q ↔ Go 189 10 L st H Q := G_goto fJ9_min_7cf53_6 (by decide)
theorem fJ9_min_7cf53_9 : ft 189 9 = some (.iload_n 1, 0, 0, 0, .null) := by decide +kernel
theorem gJ9_min_7cf53_9 {l0 : Option Value} {u : Int32} {st : List Value} {H : HP} {Q : Option Value → HP → Prop} : Go 189 9 [l0, some (.int u)] st H Q ↔ Go 189 10 [l0, some (.int u)] (.int u :: st) H Q := G_iload_n fJ9_min_7cf53_9 rfl
theorem fJ9_min_7cf53_10 : ft 189 10 = some (.ireturn, 0, 0, 0, .null) := by decide +kernel
theorem gJ9_min_7cf53_10 {L : List (Option Value)} {u : Int32} {H : HP} {Q : Option Value → HP → Prop} : Go 189 10 L [.int u] H Q ↔ Q (some (.int u)) H := G_iret fJ9_min_7cf53_10 (by decide +kernel)

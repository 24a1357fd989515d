theorem fX9_isNone_0 : ft 175 0 = some (.dload_n 0, 0, 0, 0, .null) := by decide +kernel
theorem gX9_isNone_0 {l2 l3 l4 l5 l6 : Option Value} {u : UInt64} {st : List Value} {H : HP} {Q : Option Value → HP → Prop} : Go 175 0 [some (.double u), none, l2, l3, l4, l5, l6] st H Q ↔ Go 175 1 [some (.double u), none, l2, l3, l4, l5, l6] (.double u :: st) H Q := G_dload_n fX9_isNone_0 rfl
theorem fX9_isNone_1 : ft 175 1 = some (.dconst 0, 0, 0, 0, .null) := by decide +kernel
theorem gX9_isNone_1 {L : List (Option Value)} {st : List Value} {H : HP} {Q : Option Value → HP → Prop} : Go 175 1 L st H Q ↔ Go 175 2 L (.double FP.dconst0 :: st) H Q := G_dconst fX9_isNone_1
theorem fX9_isNone_2 : ft 175 2 = some (.dcmp .l, 0, 0, 0, .null) := by decide +kernel
theorem fX9_isNone_2' : ft 175 3 = some (.ifCond .eq 9, 0, 0, 0, .null) := by decide +kernel
theorem gX9_isNone_2T {L : List (Option Value)} {x w : UInt64} (c : dck .l .eq x w = true) {st : List Value} {H : HP} {Q : Option Value → HP → Prop} : Go 175 2 L (.double w :: .double x :: st) H Q ↔ Go 175 12 L st H Q := G_dcT fX9_isNone_2 fX9_isNone_2' (by decide) c
theorem gX9_isNone_2F {L : List (Option Value)} {x w : UInt64} (c : dck .l .eq x w = false) {st : List Value} {H : HP} {Q : Option Value → HP → Prop} : Go 175 2 L (.double w :: .double x :: st) H Q ↔ Go 175 6 L st H Q := G_dcF (tg := 12) fX9_isNone_2 fX9_isNone_2' (by decide) c
theorem fX9_isNone_3 : ft 175 3 = some (.ifCond .eq 9, 0, 0, 0, .null) := by decide +kernel
theorem gX9_isNone_3T {L : List (Option Value)} {a : Int} (c : (-2147483648 ≤ a ∧ a ≤ 2147483647) ∧ a = 0) {st : List Value} {H : HP} {Q : Option Value → HP → Prop} : Go 175 3 L (vi a :: st) H Q ↔ Go 175 12 L st H Q := G_ifT fX9_isNone_3 (by decide) c
theorem gX9_isNone_3F {L : List (Option Value)} {a : Int} (c : (-2147483648 ≤ a ∧ a ≤ 2147483647) ∧ ¬ (a = 0)) {st : List Value} {H : HP} {Q : Option Value → HP → Prop} : Go 175 3 L (vi a :: st) H Q ↔ Go 175 6 L st H Q := G_ifF (tg := 12) fX9_isNone_3 (by decide) c
theorem fX9_isNone_6 : ft 175 6 = some (.dload_n 2, 0, 0, 0, .null) := by decide +kernel
theorem gX9_isNone_6 {l0 l1 l4 l5 l6 : Option Value} {u : UInt64} {st : List Value} {H : HP} {Q : Option Value → HP → Prop} : Go 175 6 [l0, l1, some (.double u), none, l4, l5, l6] st H Q ↔ Go 175 7 [l0, l1, some (.double u), none, l4, l5, l6] (.double u :: st) H Q := G_dload_n fX9_isNone_6 rfl
theorem fX9_isNone_7 : ft 175 7 = some (.dconst 0, 0, 0, 0, .null) := by decide +kernel
theorem gX9_isNone_7 {L : List (Option Value)} {st : List Value} {H : HP} {Q : Option Value → HP → Prop} : Go 175 7 L st H Q ↔ Go 175 8 L (.double FP.dconst0 :: st) H Q := G_dconst fX9_isNone_7
theorem fX9_isNone_8 : ft 175 8 = some (.dcmp .l, 0, 0, 0, .null) := by decide +kernel
theorem fX9_isNone_8' : ft 175 9 = some (.ifCond .ne 7, 0, 0, 0, .null) := by decide +kernel
theorem gX9_isNone_8T {L : List (Option Value)} {x w : UInt64} (c : dck .l .ne x w = true) {st : List Value} {H : HP} {Q : Option Value → HP → Prop} : Go 175 8 L (.double w :: .double x :: st) H Q ↔ Go 175 16 L st H Q := G_dcT fX9_isNone_8 fX9_isNone_8' (by decide) c
theorem gX9_isNone_8F {L : List (Option Value)} {x w : UInt64} (c : dck .l .ne x w = false) {st : List Value} {H : HP} {Q : Option Value → HP → Prop} : Go 175 8 L (.double w :: .double x :: st) H Q ↔ Go 175 12 L st H Q := G_dcF (tg := 16) fX9_isNone_8 fX9_isNone_8' (by decide) c
theorem fX9_isNone_9 : ft 175 9 = some (.ifCond .ne 7, 0, 0, 0, .null) := by decide +kernel
theorem gX9_isNone_9T {L : List (Option Value)} {a : Int} (c : (-2147483648 ≤ a ∧ a ≤ 2147483647) ∧ ¬ a = 0) {st : List Value} {H : HP} {Q : Option Value → HP → Prop} : Go 175 9 L (vi a :: st) H Q ↔ Go 175 16 L st H Q := G_ifT fX9_isNone_9 (by decide) c
theorem gX9_isNone_9F {L : List (Option Value)} {a : Int} (c : (-2147483648 ≤ a ∧ a ≤ 2147483647) ∧ ¬ (¬ a = 0)) {st : List Value} {H : HP} {Q : Option Value → HP → Prop} : Go 175 9 L (vi a :: st) H Q ↔ Go 175 12 L st H Q := G_ifF (tg := 16) fX9_isNone_9 (by decide) c
theorem fX9_isNone_12 : ft 175 12 = some (.iconst 1, 0, 0, 0, .null) := by decide +kernel
theorem gX9_isNone_12 {L : List (Option Value)} {st : List Value} {H : HP} {Q : Option Value → HP → Prop} : Go 175 12 L st H Q ↔ Go 175 13 L (vi 1 :: st) H Q := G_iconst fX9_isNone_12
theorem fX9_isNone_13 : ft 175 13 = some (.goto 4, 0, 0, 0, .null) := by decide +kernel
theorem gX9_isNone_13 {L : List (Option Value)} {st : List Value} {H : HP} {Q : Option Value → HP → Prop} : Go 175 13 L st H Q ↔ Go 175 17 L st H Q := G_goto fX9_isNone_13 (by decide)
theorem fX9_isNone_16 : ft 175 16 = some (.iconst 0, 0, 0, 0, .null) := by decide +kernel
theorem gX9_isNone_16 {L : List (Option Value)} {st : List Value} {H : HP} {Q : Option Value → HP → Prop} : Go 175 16 L st H Q ↔ Go 175 17 L (vi 0 :: st) H Q := G_iconst fX9_isNone_16
theorem fX9_isNone_17 : ft 175 17 = some (.istore 4, 0, 0, 0, .null) := by decide +kernel
theorem gX9_isNone_17 {l0 l1 l2 l3 l4 l5 l6 : Option Value} {u : Int32} {st : List Value} {H : HP} {Q : Option Value → HP → Prop} : Go 175 17 [l0, l1, l2, l3, l4, l5, l6] (.int u :: st) H Q ↔ Go 175 19 [l0, l1, l2, l3, some (.int u), l5, l6] st H Q := G_istore fX9_isNone_17 rfl
theorem fX9_isNone_19 : ft 175 19 = some (.ldc2_w 209, 0, 0, 1082, .double 9218868437227405312) := by decide +kernel
theorem gX9_isNone_19 {L : List (Option Value)} {st : List Value} {H : HP} {Q : Option Value → HP → Prop} : Go 175 19 L st H Q ↔ Go 175 22 L (.double 9218868437227405312 :: st) H Q := G_ldcd fX9_isNone_19 rfl
theorem fX9_isNone_22 : ft 175 22 = some (.dstore 5, 0, 0, 0, .null) := by decide +kernel
theorem gX9_isNone_22 {l0 l1 l2 l3 l4 l5 l6 : Option Value} {u : UInt64} {st : List Value} {H : HP} {Q : Option Value → HP → Prop} : Go 175 22 [l0, l1, l2, l3, l4, l5, l6] (.double u :: st) H Q ↔ Go 175 24 [l0, l1, l2, l3, l4, some (.double u), none] st H Q := G_dstore fX9_isNone_22 rfl
theorem fX9_isNone_24 : ft 175 24 = some (.iload 4, 0, 0, 0, .null) := by decide +kernel
theorem gX9_isNone_24 {l0 l1 l2 l3 l5 l6 : Option Value} {u : Int32} {st : List Value} {H : HP} {Q : Option Value → HP → Prop} : Go 175 24 [l0, l1, l2, l3, some (.int u), l5, l6] st H Q ↔ Go 175 26 [l0, l1, l2, l3, some (.int u), l5, l6] (.int u :: st) H Q := G_iload fX9_isNone_24 rfl
theorem fX9_isNone_26 : ft 175 26 = some (.ifCond .eq 37, 0, 0, 0, .null) := by decide +kernel
theorem gX9_isNone_26T {L : List (Option Value)} {a : Int} (c : (-2147483648 ≤ a ∧ a ≤ 2147483647) ∧ a = 0) {st : List Value} {H : HP} {Q : Option Value → HP → Prop} : Go 175 26 L (vi a :: st) H Q ↔ Go 175 63 L st H Q := G_ifT fX9_isNone_26 (by decide) c
theorem gX9_isNone_26F {L : List (Option Value)} {a : Int} (c : (-2147483648 ≤ a ∧ a ≤ 2147483647) ∧ ¬ (a = 0)) {st : List Value} {H : HP} {Q : Option Value → HP → Prop} : Go 175 26 L (vi a :: st) H Q ↔ Go 175 29 L st H Q := G_ifF (tg := 63) fX9_isNone_26 (by decide) c
theorem fX9_isNone_29 : ft 175 29 = some (.dload_n 0, 0, 0, 0, .null) := by decide +kernel
theorem gX9_isNone_29 {l2 l3 l4 l5 l6 : Option Value} {u : UInt64} {st : List Value} {H : HP} {Q : Option Value → HP → Prop} : Go 175 29 [some (.double u), none, l2, l3, l4, l5, l6] st H Q ↔ Go 175 30 [some (.double u), none, l2, l3, l4, l5, l6] (.double u :: st) H Q := G_dload_n fX9_isNone_29 rfl
theorem fX9_isNone_30 : ft 175 30 = some (.dload 5, 0, 0, 0, .null) := by decide +kernel
theorem gX9_isNone_30 {l0 l1 l2 l3 l4 : Option Value} {u : UInt64} {st : List Value} {H : HP} {Q : Option Value → HP → Prop} : Go 175 30 [l0, l1, l2, l3, l4, some (.double u), none] st H Q ↔ Go 175 32 [l0, l1, l2, l3, l4, some (.double u), none] (.double u :: st) H Q := G_dload fX9_isNone_30 rfl
theorem fX9_isNone_32 : ft 175 32 = some (.dcmp .l, 0, 0, 0, .null) := by decide +kernel
theorem fX9_isNone_32' : ft 175 33 = some (.ifCond .eq 26, 0, 0, 0, .null) := by decide +kernel
theorem gX9_isNone_32T {L : List (Option Value)} {x w : UInt64} (c : dck .l .eq x w = true) {st : List Value} {H : HP} {Q : Option Value → HP → Prop} : Go 175 32 L (.double w :: .double x :: st) H Q ↔ Go 175 59 L st H Q := G_dcT fX9_isNone_32 fX9_isNone_32' (by decide) c
theorem gX9_isNone_32F {L : List (Option Value)} {x w : UInt64} (c : dck .l .eq x w = false) {st : List Value} {H : HP} {Q : Option Value → HP → Prop} : Go 175 32 L (.double w :: .double x :: st) H Q ↔ Go 175 36 L st H Q := G_dcF (tg := 59) fX9_isNone_32 fX9_isNone_32' (by decide) c
theorem fX9_isNone_33 : ft 175 33 = some (.ifCond .eq 26, 0, 0, 0, .null) := by decide +kernel
theorem gX9_isNone_33T {L : List (Option Value)} {a : Int} (c : (-2147483648 ≤ a ∧ a ≤ 2147483647) ∧ a = 0) {st : List Value} {H : HP} {Q : Option Value → HP → Prop} : Go 175 33 L (vi a :: st) H Q ↔ Go 175 59 L st H Q := G_ifT fX9_isNone_33 (by decide) c
theorem gX9_isNone_33F {L : List (Option Value)} {a : Int} (c : (-2147483648 ≤ a ∧ a ≤ 2147483647) ∧ ¬ (a = 0)) {st : List Value} {H : HP} {Q : Option Value → HP → Prop} : Go 175 33 L (vi a :: st) H Q ↔ Go 175 36 L st H Q := G_ifF (tg := 59) fX9_isNone_33 (by decide) c
theorem fX9_isNone_36 : ft 175 36 = some (.dload_n 0, 0, 0, 0, .null) := by decide +kernel
theorem gX9_isNone_36 {l2 l3 l4 l5 l6 : Option Value} {u : UInt64} {st : List Value} {H : HP} {Q : Option Value → HP → Prop} : Go 175 36 [some (.double u), none, l2, l3, l4, l5, l6] st H Q ↔ Go 175 37 [some (.double u), none, l2, l3, l4, l5, l6] (.double u :: st) H Q := G_dload_n fX9_isNone_36 rfl
theorem fX9_isNone_37 : ft 175 37 = some (.dload 5, 0, 0, 0, .null) := by decide +kernel
theorem gX9_isNone_37 {l0 l1 l2 l3 l4 : Option Value} {u : UInt64} {st : List Value} {H : HP} {Q : Option Value → HP → Prop} : Go 175 37 [l0, l1, l2, l3, l4, some (.double u), none] st H Q ↔ Go 175 39 [l0, l1, l2, l3, l4, some (.double u), none] (.double u :: st) H Q := G_dload fX9_isNone_37 rfl
theorem fX9_isNone_39 : ft 175 39 = some (.dneg, 0, 0, 0, .null) := by decide +kernel
theorem gX9_isNone_39 {L : List (Option Value)} {x : UInt64} {st : List Value} {H : HP} {Q : Option Value → HP → Prop} : Go 175 39 L (.double x :: st) H Q ↔ Go 175 40 L (.double (FP.dneg x) :: st) H Q := G_dneg fX9_isNone_39
theorem fX9_isNone_40 : ft 175 40 = some (.dcmp .l, 0, 0, 0, .null) := by decide +kernel
theorem fX9_isNone_40' : ft 175 41 = some (.ifCond .eq 18, 0, 0, 0, .null) := by decide +kernel
theorem gX9_isNone_40T {L : List (Option Value)} {x w : UInt64} (c : dck .l .eq x w = true) {st : List Value} {H : HP} {Q : Option Value → HP → Prop} : Go 175 40 L (.double w :: .double x :: st) H Q ↔ Go 175 59 L st H Q := G_dcT fX9_isNone_40 fX9_isNone_40' (by decide) c
theorem gX9_isNone_40F {L : List (Option Value)} {x w : UInt64} (c : dck .l .eq x w = false) {st : List Value} {H : HP} {Q : Option Value → HP → Prop} : Go 175 40 L (.double w :: .double x :: st) H Q ↔ Go 175 44 L st H Q := G_dcF (tg := 59) fX9_isNone_40 fX9_isNone_40' (by decide) c
theorem fX9_isNone_41 : ft 175 41 = some (.ifCond .eq 18, 0, 0, 0, .null) := by decide +kernel
theorem gX9_isNone_41T {L : List (Option Value)} {a : Int} (c : (-2147483648 ≤ a ∧ a ≤ 2147483647) ∧ a = 0) {st : List Value} {H : HP} {Q : Option Value → HP → Prop} : Go 175 41 L (vi a :: st) H Q ↔ Go 175 59 L st H Q := G_ifT fX9_isNone_41 (by decide) c
theorem gX9_isNone_41F {L : List (Option Value)} {a : Int} (c : (-2147483648 ≤ a ∧ a ≤ 2147483647) ∧ ¬ (a = 0)) {st : List Value} {H : HP} {Q : Option Value → HP → Prop} : Go 175 41 L (vi a :: st) H Q ↔ Go 175 44 L st H Q := G_ifF (tg := 59) fX9_isNone_41 (by decide) c
theorem fX9_isNone_44 : ft 175 44 = some (.dload_n 2, 0, 0, 0, .null) := by decide +kernel
theorem gX9_isNone_44 {l0 l1 l4 l5 l6 : Option Value} {u : UInt64} {st : List Value} {H : HP} {Q : Option Value → HP → Prop} : Go 175 44 [l0, l1, some (.double u), none, l4, l5, l6] st H Q ↔ Go 175 45 [l0, l1, some (.double u), none, l4, l5, l6] (.double u :: st) H Q := G_dload_n fX9_isNone_44 rfl
theorem fX9_isNone_45 : ft 175 45 = some (.dload 5, 0, 0, 0, .null) := by decide +kernel
theorem gX9_isNone_45 {l0 l1 l2 l3 l4 : Option Value} {u : UInt64} {st : List Value} {H : HP} {Q : Option Value → HP → Prop} : Go 175 45 [l0, l1, l2, l3, l4, some (.double u), none] st H Q ↔ Go 175 47 [l0, l1, l2, l3, l4, some (.double u), none] (.double u :: st) H Q := G_dload fX9_isNone_45 rfl
theorem fX9_isNone_47 : ft 175 47 = some (.dcmp .l, 0, 0, 0, .null) := by decide +kernel
theorem fX9_isNone_47' : ft 175 48 = some (.ifCond .eq 11, 0, 0, 0, .null) := by decide +kernel
theorem gX9_isNone_47T {L : List (Option Value)} {x w : UInt64} (c : dck .l .eq x w = true) {st : List Value} {H : HP} {Q : Option Value → HP → Prop} : Go 175 47 L (.double w :: .double x :: st) H Q ↔ Go 175 59 L st H Q := G_dcT fX9_isNone_47 fX9_isNone_47' (by decide) c
theorem gX9_isNone_47F {L : List (Option Value)} {x w : UInt64} (c : dck .l .eq x w = false) {st : List Value} {H : HP} {Q : Option Value → HP → Prop} : Go 175 47 L (.double w :: .double x :: st) H Q ↔ Go 175 51 L st H Q := G_dcF (tg := 59) fX9_isNone_47 fX9_isNone_47' (by decide) c
theorem fX9_isNone_48 : ft 175 48 = some (.ifCond .eq 11, 0, 0, 0, .null) := by decide +kernel
theorem gX9_isNone_48T {L : List (Option Value)} {a : Int} (c : (-2147483648 ≤ a ∧ a ≤ 2147483647) ∧ a = 0) {st : List Value} {H : HP} {Q : Option Value → HP → Prop} : Go 175 48 L (vi a :: st) H Q ↔ Go 175 59 L st H Q := G_ifT fX9_isNone_48 (by decide) c
theorem gX9_isNone_48F {L : List (Option Value)} {a : Int} (c : (-2147483648 ≤ a ∧ a ≤ 2147483647) ∧ ¬ (a = 0)) {st : List Value} {H : HP} {Q : Option Value → HP → Prop} : Go 175 48 L (vi a :: st) H Q ↔ Go 175 51 L st H Q := G_ifF (tg := 59) fX9_isNone_48 (by decide) c
theorem fX9_isNone_51 : ft 175 51 = some (.dload_n 2, 0, 0, 0, .null) := by decide +kernel
theorem gX9_isNone_51 {l0 l1 l4 l5 l6 : Option Value} {u : UInt64} {st : List Value} {H : HP} {Q : Option Value → HP → Prop} : Go 175 51 [l0, l1, some (.double u), none, l4, l5, l6] st H Q ↔ Go 175 52 [l0, l1, some (.double u), none, l4, l5, l6] (.double u :: st) H Q := G_dload_n fX9_isNone_51 rfl
theorem fX9_isNone_52 : ft 175 52 = some (.dload 5, 0, 0, 0, .null) := by decide +kernel
theorem gX9_isNone_52 {l0 l1 l2 l3 l4 : Option Value} {u : UInt64} {st : List Value} {H : HP} {Q : Option Value → HP → Prop} : Go 175 52 [l0, l1, l2, l3, l4, some (.double u), none] st H Q ↔ Go 175 54 [l0, l1, l2, l3, l4, some (.double u), none] (.double u :: st) H Q := G_dload fX9_isNone_52 rfl
theorem fX9_isNone_54 : ft 175 54 = some (.dneg, 0, 0, 0, .null) := by decide +kernel
theorem gX9_isNone_54 {L : List (Option Value)} {x : UInt64} {st : List Value} {H : HP} {Q : Option Value → HP → Prop} : Go 175 54 L (.double x :: st) H Q ↔ Go 175 55 L (.double (FP.dneg x) :: st) H Q := G_dneg fX9_isNone_54
theorem fX9_isNone_55 : ft 175 55 = some (.dcmp .l, 0, 0, 0, .null) := by decide +kernel
theorem fX9_isNone_55' : ft 175 56 = some (.ifCond .ne 7, 0, 0, 0, .null) := by decide +kernel
theorem gX9_isNone_55T {L : List (Option Value)} {x w : UInt64} (c : dck .l .ne x w = true) {st : List Value} {H : HP} {Q : Option Value → HP → Prop} : Go 175 55 L (.double w :: .double x :: st) H Q ↔ Go 175 63 L st H Q := G_dcT fX9_isNone_55 fX9_isNone_55' (by decide) c
theorem gX9_isNone_55F {L : List (Option Value)} {x w : UInt64} (c : dck .l .ne x w = false) {st : List Value} {H : HP} {Q : Option Value → HP → Prop} : Go 175 55 L (.double w :: .double x :: st) H Q ↔ Go 175 59 L st H Q := G_dcF (tg := 63) fX9_isNone_55 fX9_isNone_55' (by decide) c
theorem fX9_isNone_56 : ft 175 56 = some (.ifCond .ne 7, 0, 0, 0, .null) := by decide +kernel
theorem gX9_isNone_56T {L : List (Option Value)} {a : Int} (c : (-2147483648 ≤ a ∧ a ≤ 2147483647) ∧ ¬ a = 0) {st : List Value} {H : HP} {Q : Option Value → HP → Prop} : Go 175 56 L (vi a :: st) H Q ↔ Go 175 63 L st H Q := G_ifT fX9_isNone_56 (by decide) c
theorem gX9_isNone_56F {L : List (Option Value)} {a : Int} (c : (-2147483648 ≤ a ∧ a ≤ 2147483647) ∧ ¬ (¬ a = 0)) {st : List Value} {H : HP} {Q : Option Value → HP → Prop} : Go 175 56 L (vi a :: st) H Q ↔ Go 175 59 L st H Q := G_ifF (tg := 63) fX9_isNone_56 (by decide) c
theorem fX9_isNone_59 : ft 175 59 = some (.iconst 1, 0, 0, 0, .null) := by decide +kernel
theorem gX9_isNone_59 {L : List (Option Value)} {st : List Value} {H : HP} {Q : Option Value → HP → Prop} : Go 175 59 L st H Q ↔ Go 175 60 L (vi 1 :: st) H Q := G_iconst fX9_isNone_59
theorem fX9_isNone_60 : ft 175 60 = some (.goto 4, 0, 0, 0, .null) := by decide +kernel
theorem gX9_isNone_60 {L : List (Option Value)} {st : List Value} {H : HP} {Q : Option Value → HP → Prop} : Go 175 60 L st H Q ↔ Go 175 64 L st H Q := G_goto fX9_isNone_60 (by decide)
theorem fX9_isNone_63 : ft 175 63 = some (.iconst 0, 0, 0, 0, .null) := by decide +kernel
theorem gX9_isNone_63 {L : List (Option Value)} {st : List Value} {H : HP} {Q : Option Value → HP → Prop} : Go 175 63 L st H Q ↔ Go 175 64 L (vi 0 :: st) H Q := G_iconst fX9_isNone_63
theorem fX9_isNone_64 : ft 175 64 = some (.ireturn, 0, 0, 0, .null) := by decide +kernel
theorem gX9_isNone_64 {L : List (Option Value)} {a : Int} (c : a = 0 ∨ a = 1) {H : HP} {Q : Option Value → HP → Prop} : Go 175 64 L [vi a] H Q ↔ Q (some (vi a)) H := G_zret fX9_isNone_64 (by decide +kernel) c
theorem fX9_realOf_0 : ft 176 0 = some (.dconst 0, 0, 0, 0, .null) := by decide +kernel
theorem gX9_realOf_0 {L : List (Option Value)} {st : List Value} {H : HP} {Q : Option Value → HP → Prop} : Go 176 0 L st H Q ↔ Go 176 1 L (.double FP.dconst0 :: st) H Q := G_dconst fX9_realOf_0
theorem fX9_realOf_1 : ft 176 1 = some (.dstore 4, 0, 0, 0, .null) := by decide +kernel
theorem gX9_realOf_1 {l0 l1 l2 l3 l4 l5 l6 l7 l8 l9 l10 l11 l12 l13 l14 l15 l16 l17 : Option Value} {u : UInt64} {st : List Value} {H : HP} {Q : Option Value → HP → Prop} : Go 176 1 [l0, l1, l2, l3, l4, l5, l6, l7, l8, l9, l10, l11, l12, l13, l14, l15, l16, l17] (.double u :: st) H Q ↔ Go 176 3 [l0, l1, l2, l3, some (.double u), none, l6, l7, l8, l9, l10, l11, l12, l13, l14, l15, l16, l17] st H Q := G_dstore fX9_realOf_1 rfl
theorem fX9_realOf_3 : ft 176 3 = some (.iconst 0, 0, 0, 0, .null) := by decide +kernel
theorem gX9_realOf_3 {L : List (Option Value)} {st : List Value} {H : HP} {Q : Option Value → HP → Prop} : Go 176 3 L st H Q ↔ Go 176 4 L (vi 0 :: st) H Q := G_iconst fX9_realOf_3
theorem fX9_realOf_4 : ft 176 4 = some (.istore 6, 0, 0, 0, .null) := by decide +kernel
theorem gX9_realOf_4 {l0 l1 l2 l3 l4 l5 l6 l7 l8 l9 l10 l11 l12 l13 l14 l15 l16 l17 : Option Value} {u : Int32} {st : List Value} {H : HP} {Q : Option Value → HP → Prop} : Go 176 4 [l0, l1, l2, l3, l4, l5, l6, l7, l8, l9, l10, l11, l12, l13, l14, l15, l16, l17] (.int u :: st) H Q ↔ Go 176 6 [l0, l1, l2, l3, l4, l5, some (.int u), l7, l8, l9, l10, l11, l12, l13, l14, l15, l16, l17] st H Q := G_istore fX9_realOf_4 rfl
theorem fX9_realOf_6 : ft 176 6 = some (.iload 6, 0, 0, 0, .null) := by decide +kernel
theorem gX9_realOf_6 {l0 l1 l2 l3 l4 l5 l7 l8 l9 l10 l11 l12 l13 l14 l15 l16 l17 : Option Value} {u : Int32} {st : List Value} {H : HP} {Q : Option Value → HP → Prop} : Go 176 6 [l0, l1, l2, l3, l4, l5, some (.int u), l7, l8, l9, l10, l11, l12, l13, l14, l15, l16, l17] st H Q ↔ Go 176 8 [l0, l1, l2, l3, l4, l5, some (.int u), l7, l8, l9, l10, l11, l12, l13, l14, l15, l16, l17] (.int u :: st) H Q := G_iload fX9_realOf_6 rfl
theorem fX9_realOf_8 : ft 176 8 = some (.aload_n 0, 0, 0, 0, .null) := by decide +kernel
theorem gX9_realOf_8 {l1 l2 l3 l4 l5 l6 l7 l8 l9 l10 l11 l12 l13 l14 l15 l16 l17 : Option Value} {u : Nat} {st : List Value} {H : HP} {Q : Option Value → HP → Prop} : Go 176 8 [some (.ref u), l1, l2, l3, l4, l5, l6, l7, l8, l9, l10, l11, l12, l13, l14, l15, l16, l17] st H Q ↔ Go 176 9 [some (.ref u), l1, l2, l3, l4, l5, l6, l7, l8, l9, l10, l11, l12, l13, l14, l15, l16, l17] (.ref u :: st) H Q := G_aload_n fX9_realOf_8 rfl
theorem fX9_realOf_9 : ft 176 9 = some (.iload_n 1, 0, 0, 0, .null) := by decide +kernel
theorem gX9_realOf_9 {l0 l2 l3 l4 l5 l6 l7 l8 l9 l10 l11 l12 l13 l14 l15 l16 l17 : Option Value} {u : Int32} {st : List Value} {H : HP} {Q : Option Value → HP → Prop} : Go 176 9 [l0, some (.int u), l2, l3, l4, l5, l6, l7, l8, l9, l10, l11, l12, l13, l14, l15, l16, l17] st H Q ↔ Go 176 10 [l0, some (.int u), l2, l3, l4, l5, l6, l7, l8, l9, l10, l11, l12, l13, l14, l15, l16, l17] (.int u :: st) H Q := G_iload_n fX9_realOf_9 rfl
theorem fX9_realOf_10 : ft 176 10 = some (.invokevirtual 100, 124, 0, 867, .null) := by decide +kernel
theorem gX9_realOf_10 {L : List (Option Value)} {p : Nat} {a0 : Int32} {r0 : Int32} {H : HP} {Q : Option Value → HP → Prop} : Go 176 10 L (.int a0 :: .ref p :: [.int r0]) H Q ↔ (iso 9 (hget H p) = true ∧ Go 124 0 [some (.ref p), some (.int a0)] [] H (Cont 176 13 L [.int r0] Q)) := G_cV (n := 1) (N := 2) (as := [.int a0]) (st := [.int r0]) fX9_realOf_10 (by decide +kernel) rfl (Nat.le_of_ble_eq_true rfl) (Nat.le_of_ble_eq_true rfl) rfl
theorem fX9_realOf_13 : ft 176 13 = some (.if_icmp .ge 232, 0, 0, 0, .null) := by decide +kernel
theorem gX9_realOf_13T {L : List (Option Value)} {a b : Int} (c : (-2147483648 ≤ a ∧ a ≤ 2147483647 ∧ -2147483648 ≤ b ∧ b ≤ 2147483647) ∧ b ≤ a) {st : List Value} {H : HP} {Q : Option Value → HP → Prop} : Go 176 13 L (vi b :: vi a :: st) H Q ↔ Go 176 245 L st H Q := G_icT fX9_realOf_13 (by decide) c
theorem gX9_realOf_13F {L : List (Option Value)} {a b : Int} (c : (-2147483648 ≤ a ∧ a ≤ 2147483647 ∧ -2147483648 ≤ b ∧ b ≤ 2147483647) ∧ ¬ (b ≤ a)) {st : List Value} {H : HP} {Q : Option Value → HP → Prop} : Go 176 13 L (vi b :: vi a :: st) H Q ↔ Go 176 16 L st H Q := G_icF (tg := 245) fX9_realOf_13 (by decide) c
theorem fX9_realOf_16 : ft 176 16 = some (.iload_n 3, 0, 0, 0, .null) := by decide +kernel
theorem gX9_realOf_16 {l0 l1 l2 l4 l5 l6 l7 l8 l9 l10 l11 l12 l13 l14 l15 l16 l17 : Option Value} {u : Int32} {st : List Value} {H : HP} {Q : Option Value → HP → Prop} : Go 176 16 [l0, l1, l2, some (.int u), l4, l5, l6, l7, l8, l9, l10, l11, l12, l13, l14, l15, l16, l17] st H Q ↔ Go 176 17 [l0, l1, l2, some (.int u), l4, l5, l6, l7, l8, l9, l10, l11, l12, l13, l14, l15, l16, l17] (.int u :: st) H Q := G_iload_n fX9_realOf_16 rfl
theorem fX9_realOf_17 : ft 176 17 = some (.iload 6, 0, 0, 0, .null) := by decide +kernel
theorem gX9_realOf_17 {l0 l1 l2 l3 l4 l5 l7 l8 l9 l10 l11 l12 l13 l14 l15 l16 l17 : Option Value} {u : Int32} {st : List Value} {H : HP} {Q : Option Value → HP → Prop} : Go 176 17 [l0, l1, l2, l3, l4, l5, some (.int u), l7, l8, l9, l10, l11, l12, l13, l14, l15, l16, l17] st H Q ↔ Go 176 19 [l0, l1, l2, l3, l4, l5, some (.int u), l7, l8, l9, l10, l11, l12, l13, l14, l15, l16, l17] (.int u :: st) H Q := G_iload fX9_realOf_17 rfl
theorem fX9_realOf_19 : ft 176 19 = some (.isub, 0, 0, 0, .null) := by decide +kernel
theorem gX9_realOf_19 {L : List (Option Value)} {a b : Int} {st : List Value} {H : HP} {Q : Option Value → HP → Prop} : Go 176 19 L (vi b :: vi a :: st) H Q ↔ Go 176 20 L (vi (a - b) :: st) H Q := G_isub fX9_realOf_19
theorem fX9_realOf_20 : ft 176 20 = some (.istore 7, 0, 0, 0, .null) := by decide +kernel
theorem gX9_realOf_20 {l0 l1 l2 l3 l4 l5 l6 l7 l8 l9 l10 l11 l12 l13 l14 l15 l16 l17 : Option Value} {u : Int32} {st : List Value} {H : HP} {Q : Option Value → HP → Prop} : Go 176 20 [l0, l1, l2, l3, l4, l5, l6, l7, l8, l9, l10, l11, l12, l13, l14, l15, l16, l17] (.int u :: st) H Q ↔ Go 176 22 [l0, l1, l2, l3, l4, l5, l6, some (.int u), l8, l9, l10, l11, l12, l13, l14, l15, l16, l17] st H Q := G_istore fX9_realOf_20 rfl
theorem fX9_realOf_22 : ft 176 22 = some (.iload 7, 0, 0, 0, .null) := by decide +kernel
theorem gX9_realOf_22 {l0 l1 l2 l3 l4 l5 l6 l8 l9 l10 l11 l12 l13 l14 l15 l16 l17 : Option Value} {u : Int32} {st : List Value} {H : HP} {Q : Option Value → HP → Prop} : Go 176 22 [l0, l1, l2, l3, l4, l5, l6, some (.int u), l8, l9, l10, l11, l12, l13, l14, l15, l16, l17] st H Q ↔ Go 176 24 [l0, l1, l2, l3, l4, l5, l6, some (.int u), l8, l9, l10, l11, l12, l13, l14, l15, l16, l17] (.int u :: st) H Q := G_iload fX9_realOf_22 rfl
theorem fX9_realOf_24 : ft 176 24 = some (.ifCond .lt 215, 0, 0, 0, .null) := by decide +kernel
theorem gX9_realOf_24T {L : List (Option Value)} {a : Int} (c : (-2147483648 ≤ a ∧ a ≤ 2147483647) ∧ a < 0) {st : List Value} {H : HP} {Q : Option Value → HP → Prop} : Go 176 24 L (vi a :: st) H Q ↔ Go 176 239 L st H Q := G_ifT fX9_realOf_24 (by decide) c
theorem gX9_realOf_24F {L : List (Option Value)} {a : Int} (c : (-2147483648 ≤ a ∧ a ≤ 2147483647) ∧ ¬ (a < 0)) {st : List Value} {H : HP} {Q : Option Value → HP → Prop} : Go 176 24 L (vi a :: st) H Q ↔ Go 176 27 L st H Q := G_ifF (tg := 239) fX9_realOf_24 (by decide) c
theorem fX9_realOf_27 : ft 176 27 = some (.iload 7, 0, 0, 0, .null) := by decide +kernel
theorem gX9_realOf_27 {l0 l1 l2 l3 l4 l5 l6 l8 l9 l10 l11 l12 l13 l14 l15 l16 l17 : Option Value} {u : Int32} {st : List Value} {H : HP} {Q : Option Value → HP → Prop} : Go 176 27 [l0, l1, l2, l3, l4, l5, l6, some (.int u), l8, l9, l10, l11, l12, l13, l14, l15, l16, l17] st H Q ↔ Go 176 29 [l0, l1, l2, l3, l4, l5, l6, some (.int u), l8, l9, l10, l11, l12, l13, l14, l15, l16, l17] (.int u :: st) H Q := G_iload fX9_realOf_27 rfl
theorem fX9_realOf_29 : ft 176 29 = some (.aload_n 0, 0, 0, 0, .null) := by decide +kernel
theorem gX9_realOf_29 {l1 l2 l3 l4 l5 l6 l7 l8 l9 l10 l11 l12 l13 l14 l15 l16 l17 : Option Value} {u : Nat} {st : List Value} {H : HP} {Q : Option Value → HP → Prop} : Go 176 29 [some (.ref u), l1, l2, l3, l4, l5, l6, l7, l8, l9, l10, l11, l12, l13, l14, l15, l16, l17] st H Q ↔ Go 176 30 [some (.ref u), l1, l2, l3, l4, l5, l6, l7, l8, l9, l10, l11, l12, l13, l14, l15, l16, l17] (.ref u :: st) H Q := G_aload_n fX9_realOf_29 rfl
theorem fX9_realOf_30 : ft 176 30 = some (.iload_n 2, 0, 0, 0, .null) := by decide +kernel
theorem gX9_realOf_30 {l0 l1 l3 l4 l5 l6 l7 l8 l9 l10 l11 l12 l13 l14 l15 l16 l17 : Option Value} {u : Int32} {st : List Value} {H : HP} {Q : Option Value → HP → Prop} : Go 176 30 [l0, l1, some (.int u), l3, l4, l5, l6, l7, l8, l9, l10, l11, l12, l13, l14, l15, l16, l17] st H Q ↔ Go 176 31 [l0, l1, some (.int u), l3, l4, l5, l6, l7, l8, l9, l10, l11, l12, l13, l14, l15, l16, l17] (.int u :: st) H Q := G_iload_n fX9_realOf_30 rfl
theorem fX9_realOf_31 : ft 176 31 = some (.invokevirtual 100, 124, 0, 867, .null) := by decide +kernel
theorem gX9_realOf_31 {L : List (Option Value)} {p : Nat} {a0 : Int32} {r0 : Int32} {H : HP} {Q : Option Value → HP → Prop} : Go 176 31 L (.int a0 :: .ref p :: [.int r0]) H Q ↔ (iso 9 (hget H p) = true ∧ Go 124 0 [some (.ref p), some (.int a0)] [] H (Cont 176 34 L [.int r0] Q)) := G_cV (n := 1) (N := 2) (as := [.int a0]) (st := [.int r0]) fX9_realOf_31 (by decide +kernel) rfl (Nat.le_of_ble_eq_true rfl) (Nat.le_of_ble_eq_true rfl) rfl
theorem fX9_realOf_34 : ft 176 34 = some (.if_icmp .lt 6, 0, 0, 0, .null) := by decide +kernel
theorem gX9_realOf_34T {L : List (Option Value)} {a b : Int} (c : (-2147483648 ≤ a ∧ a ≤ 2147483647 ∧ -2147483648 ≤ b ∧ b ≤ 2147483647) ∧ a < b) {st : List Value} {H : HP} {Q : Option Value → HP → Prop} : Go 176 34 L (vi b :: vi a :: st) H Q ↔ Go 176 40 L st H Q := G_icT fX9_realOf_34 (by decide) c
theorem gX9_realOf_34F {L : List (Option Value)} {a b : Int} (c : (-2147483648 ≤ a ∧ a ≤ 2147483647 ∧ -2147483648 ≤ b ∧ b ≤ 2147483647) ∧ ¬ (a < b)) {st : List Value} {H : HP} {Q : Option Value → HP → Prop} : Go 176 34 L (vi b :: vi a :: st) H Q ↔ Go 176 37 L st H Q := G_icF (tg := 40) fX9_realOf_34 (by decide) c
theorem fX9_realOf_37 : ft 176 37 = some (.goto 202, 0, 0, 0, .null) := by decide +kernel
theorem gX9_realOf_37 {L : List (Option Value)} {st : List Value} {H : HP} {Q : Option Value → HP → Prop} : Go 176 37 L st H Q ↔ Go 176 239 L st H Q := G_goto fX9_realOf_37 (by decide)
theorem fX9_realOf_40 : ft 176 40 = some (.aload_n 0, 0, 0, 0, .null) := by decide +kernel
theorem gX9_realOf_40 {l1 l2 l3 l4 l5 l6 l7 l8 l9 l10 l11 l12 l13 l14 l15 l16 l17 : Option Value} {u : Nat} {st : List Value} {H : HP} {Q : Option Value → HP → Prop} : Go 176 40 [some (.ref u), l1, l2, l3, l4, l5, l6, l7, l8, l9, l10, l11, l12, l13, l14, l15, l16, l17] st H Q ↔ Go 176 41 [some (.ref u), l1, l2, l3, l4, l5, l6, l7, l8, l9, l10, l11, l12, l13, l14, l15, l16, l17] (.ref u :: st) H Q := G_aload_n fX9_realOf_40 rfl
theorem fX9_realOf_41 : ft 176 41 = some (.iload_n 1, 0, 0, 0, .null) := by decide +kernel
theorem gX9_realOf_41 {l0 l2 l3 l4 l5 l6 l7 l8 l9 l10 l11 l12 l13 l14 l15 l16 l17 : Option Value} {u : Int32} {st : List Value} {H : HP} {Q : Option Value → HP → Prop} : Go 176 41 [l0, some (.int u), l2, l3, l4, l5, l6, l7, l8, l9, l10, l11, l12, l13, l14, l15, l16, l17] st H Q ↔ Go 176 42 [l0, some (.int u), l2, l3, l4, l5, l6, l7, l8, l9, l10, l11, l12, l13, l14, l15, l16, l17] (.int u :: st) H Q := G_iload_n fX9_realOf_41 rfl
theorem fX9_realOf_42 : ft 176 42 = some (.invokevirtual 97, 125, 0, 863, .null) := by decide +kernel
theorem gX9_realOf_42 {L : List (Option Value)} {p : Nat} {a0 : Int32}  {H : HP} {Q : Option Value → HP → Prop} : Go 176 42 L (.int a0 :: .ref p :: []) H Q ↔ (iso 9 (hget H p) = true ∧ Go 125 0 [some (.ref p), some (.int a0)] [] H (Cont 176 45 L [] Q)) := G_cV (n := 1) (N := 2) (as := [.int a0]) (st := []) fX9_realOf_42 (by decide +kernel) rfl (Nat.le_of_ble_eq_true rfl) (Nat.le_of_ble_eq_true rfl) rfl
theorem fX9_realOf_45 : ft 176 45 = some (.iconst 4, 0, 0, 0, .null) := by decide +kernel
theorem gX9_realOf_45 {L : List (Option Value)} {st : List Value} {H : HP} {Q : Option Value → HP → Prop} : Go 176 45 L st H Q ↔ Go 176 46 L (vi 4 :: st) H Q := G_iconst fX9_realOf_45
theorem fX9_realOf_46 : ft 176 46 = some (.if_icmp .ne 7, 0, 0, 0, .null) := by decide +kernel
theorem gX9_realOf_46T {L : List (Option Value)} {a b : Int} (c : (-2147483648 ≤ a ∧ a ≤ 2147483647 ∧ -2147483648 ≤ b ∧ b ≤ 2147483647) ∧ ¬ a = b) {st : List Value} {H : HP} {Q : Option Value → HP → Prop} : Go 176 46 L (vi b :: vi a :: st) H Q ↔ Go 176 53 L st H Q := G_icT fX9_realOf_46 (by decide) c
theorem gX9_realOf_46F {L : List (Option Value)} {a b : Int} (c : (-2147483648 ≤ a ∧ a ≤ 2147483647 ∧ -2147483648 ≤ b ∧ b ≤ 2147483647) ∧ ¬ (¬ a = b)) {st : List Value} {H : HP} {Q : Option Value → HP → Prop} : Go 176 46 L (vi b :: vi a :: st) H Q ↔ Go 176 49 L st H Q := G_icF (tg := 53) fX9_realOf_46 (by decide) c
theorem fX9_realOf_49 : ft 176 49 = some (.iconst 1, 0, 0, 0, .null) := by decide +kernel
theorem gX9_realOf_49 {L : List (Option Value)} {st : List Value} {H : HP} {Q : Option Value → HP → Prop} : Go 176 49 L st H Q ↔ Go 176 50 L (vi 1 :: st) H Q := G_iconst fX9_realOf_49
theorem fX9_realOf_50 : ft 176 50 = some (.goto 4, 0, 0, 0, .null) := by decide +kernel
theorem gX9_realOf_50 {L : List (Option Value)} {st : List Value} {H : HP} {Q : Option Value → HP → Prop} : Go 176 50 L st H Q ↔ Go 176 54 L st H Q := G_goto fX9_realOf_50 (by decide)
theorem fX9_realOf_53 : ft 176 53 = some (.iconst 0, 0, 0, 0, .null) := by decide +kernel
theorem gX9_realOf_53 {L : List (Option Value)} {st : List Value} {H : HP} {Q : Option Value → HP → Prop} : Go 176 53 L st H Q ↔ Go 176 54 L (vi 0 :: st) H Q := G_iconst fX9_realOf_53
theorem fX9_realOf_54 : ft 176 54 = some (.istore 8, 0, 0, 0, .null) := by decide +kernel
theorem gX9_realOf_54 {l0 l1 l2 l3 l4 l5 l6 l7 l8 l9 l10 l11 l12 l13 l14 l15 l16 l17 : Option Value} {u : Int32} {st : List Value} {H : HP} {Q : Option Value → HP → Prop} : Go 176 54 [l0, l1, l2, l3, l4, l5, l6, l7, l8, l9, l10, l11, l12, l13, l14, l15, l16, l17] (.int u :: st) H Q ↔ Go 176 56 [l0, l1, l2, l3, l4, l5, l6, l7, some (.int u), l9, l10, l11, l12, l13, l14, l15, l16, l17] st H Q := G_istore fX9_realOf_54 rfl
theorem fX9_realOf_56 : ft 176 56 = some (.aload_n 0, 0, 0, 0, .null) := by decide +kernel
theorem gX9_realOf_56 {l1 l2 l3 l4 l5 l6 l7 l8 l9 l10 l11 l12 l13 l14 l15 l16 l17 : Option Value} {u : Nat} {st : List Value} {H : HP} {Q : Option Value → HP → Prop} : Go 176 56 [some (.ref u), l1, l2, l3, l4, l5, l6, l7, l8, l9, l10, l11, l12, l13, l14, l15, l16, l17] st H Q ↔ Go 176 57 [some (.ref u), l1, l2, l3, l4, l5, l6, l7, l8, l9, l10, l11, l12, l13, l14, l15, l16, l17] (.ref u :: st) H Q := G_aload_n fX9_realOf_56 rfl
theorem fX9_realOf_57 : ft 176 57 = some (.iload_n 2, 0, 0, 0, .null) := by decide +kernel
theorem gX9_realOf_57 {l0 l1 l3 l4 l5 l6 l7 l8 l9 l10 l11 l12 l13 l14 l15 l16 l17 : Option Value} {u : Int32} {st : List Value} {H : HP} {Q : Option Value → HP → Prop} : Go 176 57 [l0, l1, some (.int u), l3, l4, l5, l6, l7, l8, l9, l10, l11, l12, l13, l14, l15, l16, l17] st H Q ↔ Go 176 58 [l0, l1, some (.int u), l3, l4, l5, l6, l7, l8, l9, l10, l11, l12, l13, l14, l15, l16, l17] (.int u :: st) H Q := G_iload_n fX9_realOf_57 rfl
theorem fX9_realOf_58 : ft 176 58 = some (.invokevirtual 97, 125, 0, 863, .null) := by decide +kernel
theorem gX9_realOf_58 {L : List (Option Value)} {p : Nat} {a0 : Int32}  {H : HP} {Q : Option Value → HP → Prop} : Go 176 58 L (.int a0 :: .ref p :: []) H Q ↔ (iso 9 (hget H p) = true ∧ Go 125 0 [some (.ref p), some (.int a0)] [] H (Cont 176 61 L [] Q)) := G_cV (n := 1) (N := 2) (as := [.int a0]) (st := []) fX9_realOf_58 (by decide +kernel) rfl (Nat.le_of_ble_eq_true rfl) (Nat.le_of_ble_eq_true rfl) rfl
theorem fX9_realOf_61 : ft 176 61 = some (.iconst 4, 0, 0, 0, .null) := by decide +kernel
theorem gX9_realOf_61 {L : List (Option Value)} {st : List Value} {H : HP} {Q : Option Value → HP → Prop} : Go 176 61 L st H Q ↔ Go 176 62 L (vi 4 :: st) H Q := G_iconst fX9_realOf_61
theorem fX9_realOf_62 : ft 176 62 = some (.if_icmp .ne 7, 0, 0, 0, .null) := by decide +kernel
theorem gX9_realOf_62T {L : List (Option Value)} {a b : Int} (c : (-2147483648 ≤ a ∧ a ≤ 2147483647 ∧ -2147483648 ≤ b ∧ b ≤ 2147483647) ∧ ¬ a = b) {st : List Value} {H : HP} {Q : Option Value → HP → Prop} : Go 176 62 L (vi b :: vi a :: st) H Q ↔ Go 176 69 L st H Q := G_icT fX9_realOf_62 (by decide) c
theorem gX9_realOf_62F {L : List (Option Value)} {a b : Int} (c : (-2147483648 ≤ a ∧ a ≤ 2147483647 ∧ -2147483648 ≤ b ∧ b ≤ 2147483647) ∧ ¬ (¬ a = b)) {st : List Value} {H : HP} {Q : Option Value → HP → Prop} : Go 176 62 L (vi b :: vi a :: st) H Q ↔ Go 176 65 L st H Q := G_icF (tg := 69) fX9_realOf_62 (by decide) c
theorem fX9_realOf_65 : ft 176 65 = some (.iconst 1, 0, 0, 0, .null) := by decide +kernel
theorem gX9_realOf_65 {L : List (Option Value)} {st : List Value} {H : HP} {Q : Option Value → HP → Prop} : Go 176 65 L st H Q ↔ Go 176 66 L (vi 1 :: st) H Q := G_iconst fX9_realOf_65
theorem fX9_realOf_66 : ft 176 66 = some (.goto 4, 0, 0, 0, .null) := by decide +kernel
theorem gX9_realOf_66 {L : List (Option Value)} {st : List Value} {H : HP} {Q : Option Value → HP → Prop} : Go 176 66 L st H Q ↔ Go 176 70 L st H Q := G_goto fX9_realOf_66 (by decide)
theorem fX9_realOf_69 : ft 176 69 = some (.iconst 0, 0, 0, 0, .null) := by decide +kernel
theorem gX9_realOf_69 {L : List (Option Value)} {st : List Value} {H : HP} {Q : Option Value → HP → Prop} : Go 176 69 L st H Q ↔ Go 176 70 L (vi 0 :: st) H Q := G_iconst fX9_realOf_69
theorem fX9_realOf_70 : ft 176 70 = some (.istore 9, 0, 0, 0, .null) := by decide +kernel
theorem gX9_realOf_70 {l0 l1 l2 l3 l4 l5 l6 l7 l8 l9 l10 l11 l12 l13 l14 l15 l16 l17 : Option Value} {u : Int32} {st : List Value} {H : HP} {Q : Option Value → HP → Prop} : Go 176 70 [l0, l1, l2, l3, l4, l5, l6, l7, l8, l9, l10, l11, l12, l13, l14, l15, l16, l17] (.int u :: st) H Q ↔ Go 176 72 [l0, l1, l2, l3, l4, l5, l6, l7, l8, some (.int u), l10, l11, l12, l13, l14, l15, l16, l17] st H Q := G_istore fX9_realOf_70 rfl
theorem fX9_realOf_72 : ft 176 72 = some (.iload 8, 0, 0, 0, .null) := by decide +kernel
theorem gX9_realOf_72 {l0 l1 l2 l3 l4 l5 l6 l7 l9 l10 l11 l12 l13 l14 l15 l16 l17 : Option Value} {u : Int32} {st : List Value} {H : HP} {Q : Option Value → HP → Prop} : Go 176 72 [l0, l1, l2, l3, l4, l5, l6, l7, some (.int u), l9, l10, l11, l12, l13, l14, l15, l16, l17] st H Q ↔ Go 176 74 [l0, l1, l2, l3, l4, l5, l6, l7, some (.int u), l9, l10, l11, l12, l13, l14, l15, l16, l17] (.int u :: st) H Q := G_iload fX9_realOf_72 rfl
theorem fX9_realOf_74 : ft 176 74 = some (.ifCond .eq 16, 0, 0, 0, .null) := by decide +kernel
theorem gX9_realOf_74T {L : List (Option Value)} {a : Int} (c : (-2147483648 ≤ a ∧ a ≤ 2147483647) ∧ a = 0) {st : List Value} {H : HP} {Q : Option Value → HP → Prop} : Go 176 74 L (vi a :: st) H Q ↔ Go 176 90 L st H Q := G_ifT fX9_realOf_74 (by decide) c
theorem gX9_realOf_74F {L : List (Option Value)} {a : Int} (c : (-2147483648 ≤ a ∧ a ≤ 2147483647) ∧ ¬ (a = 0)) {st : List Value} {H : HP} {Q : Option Value → HP → Prop} : Go 176 74 L (vi a :: st) H Q ↔ Go 176 77 L st H Q := G_ifF (tg := 90) fX9_realOf_74 (by decide) c
theorem fX9_realOf_77 : ft 176 77 = some (.aload_n 0, 0, 0, 0, .null) := by decide +kernel
theorem gX9_realOf_77 {l1 l2 l3 l4 l5 l6 l7 l8 l9 l10 l11 l12 l13 l14 l15 l16 l17 : Option Value} {u : Nat} {st : List Value} {H : HP} {Q : Option Value → HP → Prop} : Go 176 77 [some (.ref u), l1, l2, l3, l4, l5, l6, l7, l8, l9, l10, l11, l12, l13, l14, l15, l16, l17] st H Q ↔ Go 176 78 [some (.ref u), l1, l2, l3, l4, l5, l6, l7, l8, l9, l10, l11, l12, l13, l14, l15, l16, l17] (.ref u :: st) H Q := G_aload_n fX9_realOf_77 rfl
theorem fX9_realOf_78 : ft 176 78 = some (.iload_n 1, 0, 0, 0, .null) := by decide +kernel
theorem gX9_realOf_78 {l0 l2 l3 l4 l5 l6 l7 l8 l9 l10 l11 l12 l13 l14 l15 l16 l17 : Option Value} {u : Int32} {st : List Value} {H : HP} {Q : Option Value → HP → Prop} : Go 176 78 [l0, some (.int u), l2, l3, l4, l5, l6, l7, l8, l9, l10, l11, l12, l13, l14, l15, l16, l17] st H Q ↔ Go 176 79 [l0, some (.int u), l2, l3, l4, l5, l6, l7, l8, l9, l10, l11, l12, l13, l14, l15, l16, l17] (.int u :: st) H Q := G_iload_n fX9_realOf_78 rfl
theorem fX9_realOf_79 : ft 176 79 = some (.iload 6, 0, 0, 0, .null) := by decide +kernel
theorem gX9_realOf_79 {l0 l1 l2 l3 l4 l5 l7 l8 l9 l10 l11 l12 l13 l14 l15 l16 l17 : Option Value} {u : Int32} {st : List Value} {H : HP} {Q : Option Value → HP → Prop} : Go 176 79 [l0, l1, l2, l3, l4, l5, some (.int u), l7, l8, l9, l10, l11, l12, l13, l14, l15, l16, l17] st H Q ↔ Go 176 81 [l0, l1, l2, l3, l4, l5, some (.int u), l7, l8, l9, l10, l11, l12, l13, l14, l15, l16, l17] (.int u :: st) H Q := G_iload fX9_realOf_79 rfl
theorem fX9_realOf_81 : ft 176 81 = some (.invokevirtual 117, 123, 0, 888, .null) := by decide +kernel
theorem gX9_realOf_81 {L : List (Option Value)} {p : Nat} {a0 : Int32} {a1 : Int32}  {H : HP} {Q : Option Value → HP → Prop} : Go 176 81 L (.int a1 :: .int a0 :: .ref p :: []) H Q ↔ (iso 9 (hget H p) = true ∧ Go 123 0 [some (.ref p), some (.int a0), some (.int a1)] [] H (Cont 176 84 L [] Q)) := G_cV (n := 2) (N := 3) (as := [.int a1, .int a0]) (st := []) fX9_realOf_81 (by decide +kernel) rfl (Nat.le_of_ble_eq_true rfl) (Nat.le_of_ble_eq_true rfl) rfl
theorem fX9_realOf_84 : ft 176 84 = some (.invokestatic 107, 129, 0, 878, .null) := by decide +kernel
theorem gX9_realOf_84 {L : List (Option Value)} {a0 : Int64}  {H : HP} {Q : Option Value → HP → Prop} : Go 176 84 L (.long a0 :: []) H Q ↔ Go 129 0 [some (.long a0), none] [] H (Cont 176 87 L [] Q) := G_cS (n := 1) (N := 2) (as := [.long a0]) (st := []) fX9_realOf_84 (by decide +kernel) rfl (Nat.le_of_ble_eq_true rfl) (Nat.le_of_ble_eq_true rfl) rfl
theorem fX9_realOf_87 : ft 176 87 = some (.ifCond .eq 21, 0, 0, 0, .null) := by decide +kernel
theorem gX9_realOf_87T {L : List (Option Value)} {a : Int} (c : (-2147483648 ≤ a ∧ a ≤ 2147483647) ∧ a = 0) {st : List Value} {H : HP} {Q : Option Value → HP → Prop} : Go 176 87 L (vi a :: st) H Q ↔ Go 176 108 L st H Q := G_ifT fX9_realOf_87 (by decide) c
theorem gX9_realOf_87F {L : List (Option Value)} {a : Int} (c : (-2147483648 ≤ a ∧ a ≤ 2147483647) ∧ ¬ (a = 0)) {st : List Value} {H : HP} {Q : Option Value → HP → Prop} : Go 176 87 L (vi a :: st) H Q ↔ Go 176 90 L st H Q := G_ifF (tg := 108) fX9_realOf_87 (by decide) c
theorem fX9_realOf_90 : ft 176 90 = some (.iload 9, 0, 0, 0, .null) := by decide +kernel
theorem gX9_realOf_90 {l0 l1 l2 l3 l4 l5 l6 l7 l8 l10 l11 l12 l13 l14 l15 l16 l17 : Option Value} {u : Int32} {st : List Value} {H : HP} {Q : Option Value → HP → Prop} : Go 176 90 [l0, l1, l2, l3, l4, l5, l6, l7, l8, some (.int u), l10, l11, l12, l13, l14, l15, l16, l17] st H Q ↔ Go 176 92 [l0, l1, l2, l3, l4, l5, l6, l7, l8, some (.int u), l10, l11, l12, l13, l14, l15, l16, l17] (.int u :: st) H Q := G_iload fX9_realOf_90 rfl
theorem fX9_realOf_92 : ft 176 92 = some (.ifCond .eq 20, 0, 0, 0, .null) := by decide +kernel
theorem gX9_realOf_92T {L : List (Option Value)} {a : Int} (c : (-2147483648 ≤ a ∧ a ≤ 2147483647) ∧ a = 0) {st : List Value} {H : HP} {Q : Option Value → HP → Prop} : Go 176 92 L (vi a :: st) H Q ↔ Go 176 112 L st H Q := G_ifT fX9_realOf_92 (by decide) c
theorem gX9_realOf_92F {L : List (Option Value)} {a : Int} (c : (-2147483648 ≤ a ∧ a ≤ 2147483647) ∧ ¬ (a = 0)) {st : List Value} {H : HP} {Q : Option Value → HP → Prop} : Go 176 92 L (vi a :: st) H Q ↔ Go 176 95 L st H Q := G_ifF (tg := 112) fX9_realOf_92 (by decide) c
theorem fX9_realOf_95 : ft 176 95 = some (.aload_n 0, 0, 0, 0, .null) := by decide +kernel
theorem gX9_realOf_95 {l1 l2 l3 l4 l5 l6 l7 l8 l9 l10 l11 l12 l13 l14 l15 l16 l17 : Option Value} {u : Nat} {st : List Value} {H : HP} {Q : Option Value → HP → Prop} : Go 176 95 [some (.ref u), l1, l2, l3, l4, l5, l6, l7, l8, l9, l10, l11, l12, l13, l14, l15, l16, l17] st H Q ↔ Go 176 96 [some (.ref u), l1, l2, l3, l4, l5, l6, l7, l8, l9, l10, l11, l12, l13, l14, l15, l16, l17] (.ref u :: st) H Q := G_aload_n fX9_realOf_95 rfl
theorem fX9_realOf_96 : ft 176 96 = some (.iload_n 2, 0, 0, 0, .null) := by decide +kernel
theorem gX9_realOf_96 {l0 l1 l3 l4 l5 l6 l7 l8 l9 l10 l11 l12 l13 l14 l15 l16 l17 : Option Value} {u : Int32} {st : List Value} {H : HP} {Q : Option Value → HP → Prop} : Go 176 96 [l0, l1, some (.int u), l3, l4, l5, l6, l7, l8, l9, l10, l11, l12, l13, l14, l15, l16, l17] st H Q ↔ Go 176 97 [l0, l1, some (.int u), l3, l4, l5, l6, l7, l8, l9, l10, l11, l12, l13, l14, l15, l16, l17] (.int u :: st) H Q := G_iload_n fX9_realOf_96 rfl
theorem fX9_realOf_97 : ft 176 97 = some (.iload 7, 0, 0, 0, .null) := by decide +kernel
theorem gX9_realOf_97 {l0 l1 l2 l3 l4 l5 l6 l8 l9 l10 l11 l12 l13 l14 l15 l16 l17 : Option Value} {u : Int32} {st : List Value} {H : HP} {Q : Option Value → HP → Prop} : Go 176 97 [l0, l1, l2, l3, l4, l5, l6, some (.int u), l8, l9, l10, l11, l12, l13, l14, l15, l16, l17] st H Q ↔ Go 176 99 [l0, l1, l2, l3, l4, l5, l6, some (.int u), l8, l9, l10, l11, l12, l13, l14, l15, l16, l17] (.int u :: st) H Q := G_iload fX9_realOf_97 rfl
theorem fX9_realOf_99 : ft 176 99 = some (.invokevirtual 117, 123, 0, 888, .null) := by decide +kernel
theorem gX9_realOf_99 {L : List (Option Value)} {p : Nat} {a0 : Int32} {a1 : Int32}  {H : HP} {Q : Option Value → HP → Prop} : Go 176 99 L (.int a1 :: .int a0 :: .ref p :: []) H Q ↔ (iso 9 (hget H p) = true ∧ Go 123 0 [some (.ref p), some (.int a0), some (.int a1)] [] H (Cont 176 102 L [] Q)) := G_cV (n := 2) (N := 3) (as := [.int a1, .int a0]) (st := []) fX9_realOf_99 (by decide +kernel) rfl (Nat.le_of_ble_eq_true rfl) (Nat.le_of_ble_eq_true rfl) rfl
theorem fX9_realOf_102 : ft 176 102 = some (.invokestatic 107, 129, 0, 878, .null) := by decide +kernel
theorem gX9_realOf_102 {L : List (Option Value)} {a0 : Int64}  {H : HP} {Q : Option Value → HP → Prop} : Go 176 102 L (.long a0 :: []) H Q ↔ Go 129 0 [some (.long a0), none] [] H (Cont 176 105 L [] Q) := G_cS (n := 1) (N := 2) (as := [.long a0]) (st := []) fX9_realOf_102 (by decide +kernel) rfl (Nat.le_of_ble_eq_true rfl) (Nat.le_of_ble_eq_true rfl) rfl
theorem fX9_realOf_105 : ft 176 105 = some (.ifCond .ne 7, 0, 0, 0, .null) := by decide +kernel
theorem gX9_realOf_105T {L : List (Option Value)} {a : Int} (c : (-2147483648 ≤ a ∧ a ≤ 2147483647) ∧ ¬ a = 0) {st : List Value} {H : HP} {Q : Option Value → HP → Prop} : Go 176 105 L (vi a :: st) H Q ↔ Go 176 112 L st H Q := G_ifT fX9_realOf_105 (by decide) c
theorem gX9_realOf_105F {L : List (Option Value)} {a : Int} (c : (-2147483648 ≤ a ∧ a ≤ 2147483647) ∧ ¬ (¬ a = 0)) {st : List Value} {H : HP} {Q : Option Value → HP → Prop} : Go 176 105 L (vi a :: st) H Q ↔ Go 176 108 L st H Q := G_ifF (tg := 112) fX9_realOf_105 (by decide) c
theorem fX9_realOf_108 : ft 176 108 = some (.ldc2_w 111, 0, 0, 883, .long (9221120237041090560)) := by decide +kernel
theorem gX9_realOf_108 {L : List (Option Value)} {st : List Value} {H : HP} {Q : Option Value → HP → Prop} : Go 176 108 L st H Q ↔ Go 176 111 L (vl (9221120237041090560) :: st) H Q := G_ldcl fX9_realOf_108 (by decide +kernel)
theorem fX9_realOf_111 : ft 176 111 = some (.lreturn, 0, 0, 0, .null) := by decide +kernel
theorem gX9_realOf_111 {L : List (Option Value)} {u : Int64} {H : HP} {Q : Option Value → HP → Prop} : Go 176 111 L [.long u] H Q ↔ Q (some (.long u)) H := G_lret fX9_realOf_111 (by decide +kernel)
theorem fX9_realOf_112 : ft 176 112 = some (.iload 8, 0, 0, 0, .null) := by decide +kernel
theorem gX9_realOf_112 {l0 l1 l2 l3 l4 l5 l6 l7 l9 l10 l11 l12 l13 l14 l15 l16 l17 : Option Value} {u : Int32} {st : List Value} {H : HP} {Q : Option Value → HP → Prop} : Go 176 112 [l0, l1, l2, l3, l4, l5, l6, l7, some (.int u), l9, l10, l11, l12, l13, l14, l15, l16, l17] st H Q ↔ Go 176 114 [l0, l1, l2, l3, l4, l5, l6, l7, some (.int u), l9, l10, l11, l12, l13, l14, l15, l16, l17] (.int u :: st) H Q := G_iload fX9_realOf_112 rfl
theorem fX9_realOf_114 : ft 176 114 = some (.ifCond .eq 16, 0, 0, 0, .null) := by decide +kernel
theorem gX9_realOf_114T {L : List (Option Value)} {a : Int} (c : (-2147483648 ≤ a ∧ a ≤ 2147483647) ∧ a = 0) {st : List Value} {H : HP} {Q : Option Value → HP → Prop} : Go 176 114 L (vi a :: st) H Q ↔ Go 176 130 L st H Q := G_ifT fX9_realOf_114 (by decide) c
theorem gX9_realOf_114F {L : List (Option Value)} {a : Int} (c : (-2147483648 ≤ a ∧ a ≤ 2147483647) ∧ ¬ (a = 0)) {st : List Value} {H : HP} {Q : Option Value → HP → Prop} : Go 176 114 L (vi a :: st) H Q ↔ Go 176 117 L st H Q := G_ifF (tg := 130) fX9_realOf_114 (by decide) c
theorem fX9_realOf_117 : ft 176 117 = some (.aload_n 0, 0, 0, 0, .null) := by decide +kernel
theorem gX9_realOf_117 {l1 l2 l3 l4 l5 l6 l7 l8 l9 l10 l11 l12 l13 l14 l15 l16 l17 : Option Value} {u : Nat} {st : List Value} {H : HP} {Q : Option Value → HP → Prop} : Go 176 117 [some (.ref u), l1, l2, l3, l4, l5, l6, l7, l8, l9, l10, l11, l12, l13, l14, l15, l16, l17] st H Q ↔ Go 176 118 [some (.ref u), l1, l2, l3, l4, l5, l6, l7, l8, l9, l10, l11, l12, l13, l14, l15, l16, l17] (.ref u :: st) H Q := G_aload_n fX9_realOf_117 rfl
theorem fX9_realOf_118 : ft 176 118 = some (.iload_n 1, 0, 0, 0, .null) := by decide +kernel
theorem gX9_realOf_118 {l0 l2 l3 l4 l5 l6 l7 l8 l9 l10 l11 l12 l13 l14 l15 l16 l17 : Option Value} {u : Int32} {st : List Value} {H : HP} {Q : Option Value → HP → Prop} : Go 176 118 [l0, some (.int u), l2, l3, l4, l5, l6, l7, l8, l9, l10, l11, l12, l13, l14, l15, l16, l17] st H Q ↔ Go 176 119 [l0, some (.int u), l2, l3, l4, l5, l6, l7, l8, l9, l10, l11, l12, l13, l14, l15, l16, l17] (.int u :: st) H Q := G_iload_n fX9_realOf_118 rfl
theorem fX9_realOf_119 : ft 176 119 = some (.iload 6, 0, 0, 0, .null) := by decide +kernel
theorem gX9_realOf_119 {l0 l1 l2 l3 l4 l5 l7 l8 l9 l10 l11 l12 l13 l14 l15 l16 l17 : Option Value} {u : Int32} {st : List Value} {H : HP} {Q : Option Value → HP → Prop} : Go 176 119 [l0, l1, l2, l3, l4, l5, some (.int u), l7, l8, l9, l10, l11, l12, l13, l14, l15, l16, l17] st H Q ↔ Go 176 121 [l0, l1, l2, l3, l4, l5, some (.int u), l7, l8, l9, l10, l11, l12, l13, l14, l15, l16, l17] (.int u :: st) H Q := G_iload fX9_realOf_119 rfl
theorem fX9_realOf_121 : ft 176 121 = some (.invokevirtual 117, 123, 0, 888, .null) := by decide +kernel
theorem gX9_realOf_121 {L : List (Option Value)} {p : Nat} {a0 : Int32} {a1 : Int32}  {H : HP} {Q : Option Value → HP → Prop} : Go 176 121 L (.int a1 :: .int a0 :: .ref p :: []) H Q ↔ (iso 9 (hget H p) = true ∧ Go 123 0 [some (.ref p), some (.int a0), some (.int a1)] [] H (Cont 176 124 L [] Q)) := G_cV (n := 2) (N := 3) (as := [.int a1, .int a0]) (st := []) fX9_realOf_121 (by decide +kernel) rfl (Nat.le_of_ble_eq_true rfl) (Nat.le_of_ble_eq_true rfl) rfl
theorem fX9_realOf_124 : ft 176 124 = some (.invokestatic 211, 1001, 0, 1076, .null) := by decide +kernel
theorem gX9_realOf_124 {L : List (Option Value)} {u : Int64}  (c : vn_snl2d u = false) {H : HP} {Q : Option Value → HP → Prop} : Go 176 124 L (.long u :: []) H Q ↔ Go 176 127 L (.double u.toUInt64 :: []) H Q := G_l2dn fX9_realOf_124 rfl ⟨by decide +kernel, Nat.le_trans (m := 23) (Nat.le_of_ble_eq_true rfl) (by decide +kernel)⟩ c
theorem fX9_realOf_127 : ft 176 127 = some (.goto 11, 0, 0, 0, .null) := by decide +kernel
theorem gX9_realOf_127 {L : List (Option Value)} {st : List Value} {H : HP} {Q : Option Value → HP → Prop} : Go 176 127 L st H Q ↔ Go 176 138 L st H Q := G_goto fX9_realOf_127 (by decide)
theorem fX9_realOf_130 : ft 176 130 = some (.aload_n 0, 0, 0, 0, .null) := by decide +kernel
theorem gX9_realOf_130 {l1 l2 l3 l4 l5 l6 l7 l8 l9 l10 l11 l12 l13 l14 l15 l16 l17 : Option Value} {u : Nat} {st : List Value} {H : HP} {Q : Option Value → HP → Prop} : Go 176 130 [some (.ref u), l1, l2, l3, l4, l5, l6, l7, l8, l9, l10, l11, l12, l13, l14, l15, l16, l17] st H Q ↔ Go 176 131 [some (.ref u), l1, l2, l3, l4, l5, l6, l7, l8, l9, l10, l11, l12, l13, l14, l15, l16, l17] (.ref u :: st) H Q := G_aload_n fX9_realOf_130 rfl
theorem fX9_realOf_131 : ft 176 131 = some (.iload_n 1, 0, 0, 0, .null) := by decide +kernel
theorem gX9_realOf_131 {l0 l2 l3 l4 l5 l6 l7 l8 l9 l10 l11 l12 l13 l14 l15 l16 l17 : Option Value} {u : Int32} {st : List Value} {H : HP} {Q : Option Value → HP → Prop} : Go 176 131 [l0, some (.int u), l2, l3, l4, l5, l6, l7, l8, l9, l10, l11, l12, l13, l14, l15, l16, l17] st H Q ↔ Go 176 132 [l0, some (.int u), l2, l3, l4, l5, l6, l7, l8, l9, l10, l11, l12, l13, l14, l15, l16, l17] (.int u :: st) H Q := G_iload_n fX9_realOf_131 rfl
theorem fX9_realOf_132 : ft 176 132 = some (.iload 6, 0, 0, 0, .null) := by decide +kernel
theorem gX9_realOf_132 {l0 l1 l2 l3 l4 l5 l7 l8 l9 l10 l11 l12 l13 l14 l15 l16 l17 : Option Value} {u : Int32} {st : List Value} {H : HP} {Q : Option Value → HP → Prop} : Go 176 132 [l0, l1, l2, l3, l4, l5, some (.int u), l7, l8, l9, l10, l11, l12, l13, l14, l15, l16, l17] st H Q ↔ Go 176 134 [l0, l1, l2, l3, l4, l5, some (.int u), l7, l8, l9, l10, l11, l12, l13, l14, l15, l16, l17] (.int u :: st) H Q := G_iload fX9_realOf_132 rfl
theorem fX9_realOf_134 : ft 176 134 = some (.invokevirtual 117, 123, 0, 888, .null) := by decide +kernel
theorem gX9_realOf_134 {L : List (Option Value)} {p : Nat} {a0 : Int32} {a1 : Int32}  {H : HP} {Q : Option Value → HP → Prop} : Go 176 134 L (.int a1 :: .int a0 :: .ref p :: []) H Q ↔ (iso 9 (hget H p) = true ∧ Go 123 0 [some (.ref p), some (.int a0), some (.int a1)] [] H (Cont 176 137 L [] Q)) := G_cV (n := 2) (N := 3) (as := [.int a1, .int a0]) (st := []) fX9_realOf_134 (by decide +kernel) rfl (Nat.le_of_ble_eq_true rfl) (Nat.le_of_ble_eq_true rfl) rfl
theorem fX9_realOf_137 : ft 176 137 = some (.l2d, 0, 0, 0, .null) := by decide +kernel
theorem gX9_realOf_137 {L : List (Option Value)} {a : Int} {st : List Value} {H : HP} {Q : Option Value → HP → Prop} : Go 176 137 L (vl a :: st) H Q ↔ Go 176 138 L (.double (FP.l2d (Int64.ofInt a)) :: st) H Q := G_l2d fX9_realOf_137
theorem fX9_realOf_138 : ft 176 138 = some (.dstore 10, 0, 0, 0, .null) := by decide +kernel
theorem gX9_realOf_138 {l0 l1 l2 l3 l4 l5 l6 l7 l8 l9 l10 l11 l12 l13 l14 l15 l16 l17 : Option Value} {u : UInt64} {st : List Value} {H : HP} {Q : Option Value → HP → Prop} : Go 176 138 [l0, l1, l2, l3, l4, l5, l6, l7, l8, l9, l10, l11, l12, l13, l14, l15, l16, l17] (.double u :: st) H Q ↔ Go 176 140 [l0, l1, l2, l3, l4, l5, l6, l7, l8, l9, some (.double u), none, l12, l13, l14, l15, l16, l17] st H Q := G_dstore fX9_realOf_138 rfl
theorem fX9_realOf_140 : ft 176 140 = some (.iload 9, 0, 0, 0, .null) := by decide +kernel
theorem gX9_realOf_140 {l0 l1 l2 l3 l4 l5 l6 l7 l8 l10 l11 l12 l13 l14 l15 l16 l17 : Option Value} {u : Int32} {st : List Value} {H : HP} {Q : Option Value → HP → Prop} : Go 176 140 [l0, l1, l2, l3, l4, l5, l6, l7, l8, some (.int u), l10, l11, l12, l13, l14, l15, l16, l17] st H Q ↔ Go 176 142 [l0, l1, l2, l3, l4, l5, l6, l7, l8, some (.int u), l10, l11, l12, l13, l14, l15, l16, l17] (.int u :: st) H Q := G_iload fX9_realOf_140 rfl
theorem fX9_realOf_142 : ft 176 142 = some (.ifCond .eq 16, 0, 0, 0, .null) := by decide +kernel
theorem gX9_realOf_142T {L : List (Option Value)} {a : Int} (c : (-2147483648 ≤ a ∧ a ≤ 2147483647) ∧ a = 0) {st : List Value} {H : HP} {Q : Option Value → HP → Prop} : Go 176 142 L (vi a :: st) H Q ↔ Go 176 158 L st H Q := G_ifT fX9_realOf_142 (by decide) c
theorem gX9_realOf_142F {L : List (Option Value)} {a : Int} (c : (-2147483648 ≤ a ∧ a ≤ 2147483647) ∧ ¬ (a = 0)) {st : List Value} {H : HP} {Q : Option Value → HP → Prop} : Go 176 142 L (vi a :: st) H Q ↔ Go 176 145 L st H Q := G_ifF (tg := 158) fX9_realOf_142 (by decide) c
theorem fX9_realOf_145 : ft 176 145 = some (.aload_n 0, 0, 0, 0, .null) := by decide +kernel
theorem gX9_realOf_145 {l1 l2 l3 l4 l5 l6 l7 l8 l9 l10 l11 l12 l13 l14 l15 l16 l17 : Option Value} {u : Nat} {st : List Value} {H : HP} {Q : Option Value → HP → Prop} : Go 176 145 [some (.ref u), l1, l2, l3, l4, l5, l6, l7, l8, l9, l10, l11, l12, l13, l14, l15, l16, l17] st H Q ↔ Go 176 146 [some (.ref u), l1, l2, l3, l4, l5, l6, l7, l8, l9, l10, l11, l12, l13, l14, l15, l16, l17] (.ref u :: st) H Q := G_aload_n fX9_realOf_145 rfl
theorem fX9_realOf_146 : ft 176 146 = some (.iload_n 2, 0, 0, 0, .null) := by decide +kernel
theorem gX9_realOf_146 {l0 l1 l3 l4 l5 l6 l7 l8 l9 l10 l11 l12 l13 l14 l15 l16 l17 : Option Value} {u : Int32} {st : List Value} {H : HP} {Q : Option Value → HP → Prop} : Go 176 146 [l0, l1, some (.int u), l3, l4, l5, l6, l7, l8, l9, l10, l11, l12, l13, l14, l15, l16, l17] st H Q ↔ Go 176 147 [l0, l1, some (.int u), l3, l4, l5, l6, l7, l8, l9, l10, l11, l12, l13, l14, l15, l16, l17] (.int u :: st) H Q := G_iload_n fX9_realOf_146 rfl
theorem fX9_realOf_147 : ft 176 147 = some (.iload 7, 0, 0, 0, .null) := by decide +kernel
theorem gX9_realOf_147 {l0 l1 l2 l3 l4 l5 l6 l8 l9 l10 l11 l12 l13 l14 l15 l16 l17 : Option Value} {u : Int32} {st : List Value} {H : HP} {Q : Option Value → HP → Prop} : Go 176 147 [l0, l1, l2, l3, l4, l5, l6, some (.int u), l8, l9, l10, l11, l12, l13, l14, l15, l16, l17] st H Q ↔ Go 176 149 [l0, l1, l2, l3, l4, l5, l6, some (.int u), l8, l9, l10, l11, l12, l13, l14, l15, l16, l17] (.int u :: st) H Q := G_iload fX9_realOf_147 rfl
theorem fX9_realOf_149 : ft 176 149 = some (.invokevirtual 117, 123, 0, 888, .null) := by decide +kernel
theorem gX9_realOf_149 {L : List (Option Value)} {p : Nat} {a0 : Int32} {a1 : Int32}  {H : HP} {Q : Option Value → HP → Prop} : Go 176 149 L (.int a1 :: .int a0 :: .ref p :: []) H Q ↔ (iso 9 (hget H p) = true ∧ Go 123 0 [some (.ref p), some (.int a0), some (.int a1)] [] H (Cont 176 152 L [] Q)) := G_cV (n := 2) (N := 3) (as := [.int a1, .int a0]) (st := []) fX9_realOf_149 (by decide +kernel) rfl (Nat.le_of_ble_eq_true rfl) (Nat.le_of_ble_eq_true rfl) rfl
theorem fX9_realOf_152 : ft 176 152 = some (.invokestatic 211, 1001, 0, 1076, .null) := by decide +kernel
theorem gX9_realOf_152 {L : List (Option Value)} {u : Int64}  (c : vn_snl2d u = false) {H : HP} {Q : Option Value → HP → Prop} : Go 176 152 L (.long u :: []) H Q ↔ Go 176 155 L (.double u.toUInt64 :: []) H Q := G_l2dn fX9_realOf_152 rfl ⟨by decide +kernel, Nat.le_trans (m := 23) (Nat.le_of_ble_eq_true rfl) (by decide +kernel)⟩ c
theorem fX9_realOf_155 : ft 176 155 = some (.goto 11, 0, 0, 0, .null) := by decide +kernel
theorem gX9_realOf_155 {L : List (Option Value)} {st : List Value} {H : HP} {Q : Option Value → HP → Prop} : Go 176 155 L st H Q ↔ Go 176 166 L st H Q := G_goto fX9_realOf_155 (by decide)
theorem fX9_realOf_158 : ft 176 158 = some (.aload_n 0, 0, 0, 0, .null) := by decide +kernel
theorem gX9_realOf_158 {l1 l2 l3 l4 l5 l6 l7 l8 l9 l10 l11 l12 l13 l14 l15 l16 l17 : Option Value} {u : Nat} {st : List Value} {H : HP} {Q : Option Value → HP → Prop} : Go 176 158 [some (.ref u), l1, l2, l3, l4, l5, l6, l7, l8, l9, l10, l11, l12, l13, l14, l15, l16, l17] st H Q ↔ Go 176 159 [some (.ref u), l1, l2, l3, l4, l5, l6, l7, l8, l9, l10, l11, l12, l13, l14, l15, l16, l17] (.ref u :: st) H Q := G_aload_n fX9_realOf_158 rfl
theorem fX9_realOf_159 : ft 176 159 = some (.iload_n 2, 0, 0, 0, .null) := by decide +kernel
theorem gX9_realOf_159 {l0 l1 l3 l4 l5 l6 l7 l8 l9 l10 l11 l12 l13 l14 l15 l16 l17 : Option Value} {u : Int32} {st : List Value} {H : HP} {Q : Option Value → HP → Prop} : Go 176 159 [l0, l1, some (.int u), l3, l4, l5, l6, l7, l8, l9, l10, l11, l12, l13, l14, l15, l16, l17] st H Q ↔ Go 176 160 [l0, l1, some (.int u), l3, l4, l5, l6, l7, l8, l9, l10, l11, l12, l13, l14, l15, l16, l17] (.int u :: st) H Q := G_iload_n fX9_realOf_159 rfl
theorem fX9_realOf_160 : ft 176 160 = some (.iload 7, 0, 0, 0, .null) := by decide +kernel
theorem gX9_realOf_160 {l0 l1 l2 l3 l4 l5 l6 l8 l9 l10 l11 l12 l13 l14 l15 l16 l17 : Option Value} {u : Int32} {st : List Value} {H : HP} {Q : Option Value → HP → Prop} : Go 176 160 [l0, l1, l2, l3, l4, l5, l6, some (.int u), l8, l9, l10, l11, l12, l13, l14, l15, l16, l17] st H Q ↔ Go 176 162 [l0, l1, l2, l3, l4, l5, l6, some (.int u), l8, l9, l10, l11, l12, l13, l14, l15, l16, l17] (.int u :: st) H Q := G_iload fX9_realOf_160 rfl
theorem fX9_realOf_162 : ft 176 162 = some (.invokevirtual 117, 123, 0, 888, .null) := by decide +kernel
theorem gX9_realOf_162 {L : List (Option Value)} {p : Nat} {a0 : Int32} {a1 : Int32}  {H : HP} {Q : Option Value → HP → Prop} : Go 176 162 L (.int a1 :: .int a0 :: .ref p :: []) H Q ↔ (iso 9 (hget H p) = true ∧ Go 123 0 [some (.ref p), some (.int a0), some (.int a1)] [] H (Cont 176 165 L [] Q)) := G_cV (n := 2) (N := 3) (as := [.int a1, .int a0]) (st := []) fX9_realOf_162 (by decide +kernel) rfl (Nat.le_of_ble_eq_true rfl) (Nat.le_of_ble_eq_true rfl) rfl
theorem fX9_realOf_165 : ft 176 165 = some (.l2d, 0, 0, 0, .null) := by decide +kernel
theorem gX9_realOf_165 {L : List (Option Value)} {a : Int} {st : List Value} {H : HP} {Q : Option Value → HP → Prop} : Go 176 165 L (vl a :: st) H Q ↔ Go 176 166 L (.double (FP.l2d (Int64.ofInt a)) :: st) H Q := G_l2d fX9_realOf_165
theorem fX9_realOf_166 : ft 176 166 = some (.dstore 12, 0, 0, 0, .null) := by decide +kernel
theorem gX9_realOf_166 {l0 l1 l2 l3 l4 l5 l6 l7 l8 l9 l10 l11 l12 l13 l14 l15 l16 l17 : Option Value} {u : UInt64} {st : List Value} {H : HP} {Q : Option Value → HP → Prop} : Go 176 166 [l0, l1, l2, l3, l4, l5, l6, l7, l8, l9, l10, l11, l12, l13, l14, l15, l16, l17] (.double u :: st) H Q ↔ Go 176 168 [l0, l1, l2, l3, l4, l5, l6, l7, l8, l9, l10, l11, some (.double u), none, l14, l15, l16, l17] st H Q := G_dstore fX9_realOf_166 rfl
theorem fX9_realOf_168 : ft 176 168 = some (.dload 10, 0, 0, 0, .null) := by decide +kernel
theorem gX9_realOf_168 {l0 l1 l2 l3 l4 l5 l6 l7 l8 l9 l12 l13 l14 l15 l16 l17 : Option Value} {u : UInt64} {st : List Value} {H : HP} {Q : Option Value → HP → Prop} : Go 176 168 [l0, l1, l2, l3, l4, l5, l6, l7, l8, l9, some (.double u), none, l12, l13, l14, l15, l16, l17] st H Q ↔ Go 176 170 [l0, l1, l2, l3, l4, l5, l6, l7, l8, l9, some (.double u), none, l12, l13, l14, l15, l16, l17] (.double u :: st) H Q := G_dload fX9_realOf_168 rfl
theorem fX9_realOf_170 : ft 176 170 = some (.dload 12, 0, 0, 0, .null) := by decide +kernel
theorem gX9_realOf_170 {l0 l1 l2 l3 l4 l5 l6 l7 l8 l9 l10 l11 l14 l15 l16 l17 : Option Value} {u : UInt64} {st : List Value} {H : HP} {Q : Option Value → HP → Prop} : Go 176 170 [l0, l1, l2, l3, l4, l5, l6, l7, l8, l9, l10, l11, some (.double u), none, l14, l15, l16, l17] st H Q ↔ Go 176 172 [l0, l1, l2, l3, l4, l5, l6, l7, l8, l9, l10, l11, some (.double u), none, l14, l15, l16, l17] (.double u :: st) H Q := G_dload fX9_realOf_170 rfl
theorem fX9_realOf_172 : ft 176 172 = some (.invokestatic 217, 175, 0, 1079, .null) := by decide +kernel
theorem gX9_realOf_172 {L : List (Option Value)} {a0 : UInt64} {a1 : UInt64}  {H : HP} {Q : Option Value → HP → Prop} : Go 176 172 L (.double a1 :: .double a0 :: []) H Q ↔ Go 175 0 [some (.double a0), none, some (.double a1), none, none, none, none] [] H (Cont 176 175 L [] Q) := G_cS (n := 2) (N := 7) (as := [.double a1, .double a0]) (st := []) fX9_realOf_172 (by decide +kernel) rfl (Nat.le_of_ble_eq_true rfl) (Nat.le_of_ble_eq_true rfl) rfl
theorem fX9_realOf_175 : ft 176 175 = some (.ifCond .eq 7, 0, 0, 0, .null) := by decide +kernel
theorem gX9_realOf_175T {L : List (Option Value)} {a : Int} (c : (-2147483648 ≤ a ∧ a ≤ 2147483647) ∧ a = 0) {st : List Value} {H : HP} {Q : Option Value → HP → Prop} : Go 176 175 L (vi a :: st) H Q ↔ Go 176 182 L st H Q := G_ifT fX9_realOf_175 (by decide) c
theorem gX9_realOf_175F {L : List (Option Value)} {a : Int} (c : (-2147483648 ≤ a ∧ a ≤ 2147483647) ∧ ¬ (a = 0)) {st : List Value} {H : HP} {Q : Option Value → HP → Prop} : Go 176 175 L (vi a :: st) H Q ↔ Go 176 178 L st H Q := G_ifF (tg := 182) fX9_realOf_175 (by decide) c
theorem fX9_realOf_178 : ft 176 178 = some (.ldc2_w 111, 0, 0, 883, .long (9221120237041090560)) := by decide +kernel
theorem gX9_realOf_178 {L : List (Option Value)} {st : List Value} {H : HP} {Q : Option Value → HP → Prop} : Go 176 178 L st H Q ↔ Go 176 181 L (vl (9221120237041090560) :: st) H Q := G_ldcl fX9_realOf_178 (by decide +kernel)
theorem fX9_realOf_181 : ft 176 181 = some (.lreturn, 0, 0, 0, .null) := by decide +kernel
theorem gX9_realOf_181 {L : List (Option Value)} {u : Int64} {H : HP} {Q : Option Value → HP → Prop} : Go 176 181 L [.long u] H Q ↔ Q (some (.long u)) H := G_lret fX9_realOf_181 (by decide +kernel)
theorem fX9_realOf_182 : ft 176 182 = some (.dload 10, 0, 0, 0, .null) := by decide +kernel
theorem gX9_realOf_182 {l0 l1 l2 l3 l4 l5 l6 l7 l8 l9 l12 l13 l14 l15 l16 l17 : Option Value} {u : UInt64} {st : List Value} {H : HP} {Q : Option Value → HP → Prop} : Go 176 182 [l0, l1, l2, l3, l4, l5, l6, l7, l8, l9, some (.double u), none, l12, l13, l14, l15, l16, l17] st H Q ↔ Go 176 184 [l0, l1, l2, l3, l4, l5, l6, l7, l8, l9, some (.double u), none, l12, l13, l14, l15, l16, l17] (.double u :: st) H Q := G_dload fX9_realOf_182 rfl
theorem fX9_realOf_184 : ft 176 184 = some (.dload 12, 0, 0, 0, .null) := by decide +kernel
theorem gX9_realOf_184 {l0 l1 l2 l3 l4 l5 l6 l7 l8 l9 l10 l11 l14 l15 l16 l17 : Option Value} {u : UInt64} {st : List Value} {H : HP} {Q : Option Value → HP → Prop} : Go 176 184 [l0, l1, l2, l3, l4, l5, l6, l7, l8, l9, l10, l11, some (.double u), none, l14, l15, l16, l17] st H Q ↔ Go 176 186 [l0, l1, l2, l3, l4, l5, l6, l7, l8, l9, l10, l11, some (.double u), none, l14, l15, l16, l17] (.double u :: st) H Q := G_dload fX9_realOf_184 rfl
theorem fX9_realOf_186 : ft 176 186 = some (.dmul, 0, 0, 0, .null) := by decide +kernel
theorem gX9_realOf_186 {L : List (Option Value)} {x w : UInt64} (c : vf_n64 (FP.dmul x w)) {st : List Value} {H : HP} {Q : Option Value → HP → Prop} : Go 176 186 L (.double w :: .double x :: st) H Q ↔ Go 176 187 L (.double (FP.dmul x w) :: st) H Q := G_dmul fX9_realOf_186 c
theorem fX9_realOf_187 : ft 176 187 = some (.dstore 14, 0, 0, 0, .null) := by decide +kernel
theorem gX9_realOf_187 {l0 l1 l2 l3 l4 l5 l6 l7 l8 l9 l10 l11 l12 l13 l14 l15 l16 l17 : Option Value} {u : UInt64} {st : List Value} {H : HP} {Q : Option Value → HP → Prop} : Go 176 187 [l0, l1, l2, l3, l4, l5, l6, l7, l8, l9, l10, l11, l12, l13, l14, l15, l16, l17] (.double u :: st) H Q ↔ Go 176 189 [l0, l1, l2, l3, l4, l5, l6, l7, l8, l9, l10, l11, l12, l13, some (.double u), none, l16, l17] st H Q := G_dstore fX9_realOf_187 rfl
theorem fX9_realOf_189 : ft 176 189 = some (.ldc2_w 209, 0, 0, 1082, .double 9218868437227405312) := by decide +kernel
theorem gX9_realOf_189 {L : List (Option Value)} {st : List Value} {H : HP} {Q : Option Value → HP → Prop} : Go 176 189 L st H Q ↔ Go 176 192 L (.double 9218868437227405312 :: st) H Q := G_ldcd fX9_realOf_189 rfl
theorem fX9_realOf_192 : ft 176 192 = some (.dstore 16, 0, 0, 0, .null) := by decide +kernel
theorem gX9_realOf_192 {l0 l1 l2 l3 l4 l5 l6 l7 l8 l9 l10 l11 l12 l13 l14 l15 l16 l17 : Option Value} {u : UInt64} {st : List Value} {H : HP} {Q : Option Value → HP → Prop} : Go 176 192 [l0, l1, l2, l3, l4, l5, l6, l7, l8, l9, l10, l11, l12, l13, l14, l15, l16, l17] (.double u :: st) H Q ↔ Go 176 194 [l0, l1, l2, l3, l4, l5, l6, l7, l8, l9, l10, l11, l12, l13, l14, l15, some (.double u), none] st H Q := G_dstore fX9_realOf_192 rfl
theorem fX9_realOf_194 : ft 176 194 = some (.dload 4, 0, 0, 0, .null) := by decide +kernel
theorem gX9_realOf_194 {l0 l1 l2 l3 l6 l7 l8 l9 l10 l11 l12 l13 l14 l15 l16 l17 : Option Value} {u : UInt64} {st : List Value} {H : HP} {Q : Option Value → HP → Prop} : Go 176 194 [l0, l1, l2, l3, some (.double u), none, l6, l7, l8, l9, l10, l11, l12, l13, l14, l15, l16, l17] st H Q ↔ Go 176 196 [l0, l1, l2, l3, some (.double u), none, l6, l7, l8, l9, l10, l11, l12, l13, l14, l15, l16, l17] (.double u :: st) H Q := G_dload fX9_realOf_194 rfl
theorem fX9_realOf_196 : ft 176 196 = some (.dload 16, 0, 0, 0, .null) := by decide +kernel
theorem gX9_realOf_196 {l0 l1 l2 l3 l4 l5 l6 l7 l8 l9 l10 l11 l12 l13 l14 l15 : Option Value} {u : UInt64} {st : List Value} {H : HP} {Q : Option Value → HP → Prop} : Go 176 196 [l0, l1, l2, l3, l4, l5, l6, l7, l8, l9, l10, l11, l12, l13, l14, l15, some (.double u), none] st H Q ↔ Go 176 198 [l0, l1, l2, l3, l4, l5, l6, l7, l8, l9, l10, l11, l12, l13, l14, l15, some (.double u), none] (.double u :: st) H Q := G_dload fX9_realOf_196 rfl
theorem fX9_realOf_198 : ft 176 198 = some (.dcmp .l, 0, 0, 0, .null) := by decide +kernel
theorem fX9_realOf_198' : ft 176 199 = some (.ifCond .ne 12, 0, 0, 0, .null) := by decide +kernel
theorem gX9_realOf_198T {L : List (Option Value)} {x w : UInt64} (c : dck .l .ne x w = true) {st : List Value} {H : HP} {Q : Option Value → HP → Prop} : Go 176 198 L (.double w :: .double x :: st) H Q ↔ Go 176 211 L st H Q := G_dcT fX9_realOf_198 fX9_realOf_198' (by decide) c
theorem gX9_realOf_198F {L : List (Option Value)} {x w : UInt64} (c : dck .l .ne x w = false) {st : List Value} {H : HP} {Q : Option Value → HP → Prop} : Go 176 198 L (.double w :: .double x :: st) H Q ↔ Go 176 202 L st H Q := G_dcF (tg := 211) fX9_realOf_198 fX9_realOf_198' (by decide) c
theorem fX9_realOf_199 : ft 176 199 = some (.ifCond .ne 12, 0, 0, 0, .null) := by decide +kernel
theorem gX9_realOf_199T {L : List (Option Value)} {a : Int} (c : (-2147483648 ≤ a ∧ a ≤ 2147483647) ∧ ¬ a = 0) {st : List Value} {H : HP} {Q : Option Value → HP → Prop} : Go 176 199 L (vi a :: st) H Q ↔ Go 176 211 L st H Q := G_ifT fX9_realOf_199 (by decide) c
theorem gX9_realOf_199F {L : List (Option Value)} {a : Int} (c : (-2147483648 ≤ a ∧ a ≤ 2147483647) ∧ ¬ (¬ a = 0)) {st : List Value} {H : HP} {Q : Option Value → HP → Prop} : Go 176 199 L (vi a :: st) H Q ↔ Go 176 202 L st H Q := G_ifF (tg := 211) fX9_realOf_199 (by decide) c
theorem fX9_realOf_202 : ft 176 202 = some (.dload 14, 0, 0, 0, .null) := by decide +kernel
theorem gX9_realOf_202 {l0 l1 l2 l3 l4 l5 l6 l7 l8 l9 l10 l11 l12 l13 l16 l17 : Option Value} {u : UInt64} {st : List Value} {H : HP} {Q : Option Value → HP → Prop} : Go 176 202 [l0, l1, l2, l3, l4, l5, l6, l7, l8, l9, l10, l11, l12, l13, some (.double u), none, l16, l17] st H Q ↔ Go 176 204 [l0, l1, l2, l3, l4, l5, l6, l7, l8, l9, l10, l11, l12, l13, some (.double u), none, l16, l17] (.double u :: st) H Q := G_dload fX9_realOf_202 rfl
theorem fX9_realOf_204 : ft 176 204 = some (.dload 16, 0, 0, 0, .null) := by decide +kernel
theorem gX9_realOf_204 {l0 l1 l2 l3 l4 l5 l6 l7 l8 l9 l10 l11 l12 l13 l14 l15 : Option Value} {u : UInt64} {st : List Value} {H : HP} {Q : Option Value → HP → Prop} : Go 176 204 [l0, l1, l2, l3, l4, l5, l6, l7, l8, l9, l10, l11, l12, l13, l14, l15, some (.double u), none] st H Q ↔ Go 176 206 [l0, l1, l2, l3, l4, l5, l6, l7, l8, l9, l10, l11, l12, l13, l14, l15, some (.double u), none] (.double u :: st) H Q := G_dload fX9_realOf_204 rfl
theorem fX9_realOf_206 : ft 176 206 = some (.dneg, 0, 0, 0, .null) := by decide +kernel
theorem gX9_realOf_206 {L : List (Option Value)} {x : UInt64} {st : List Value} {H : HP} {Q : Option Value → HP → Prop} : Go 176 206 L (.double x :: st) H Q ↔ Go 176 207 L (.double (FP.dneg x) :: st) H Q := G_dneg fX9_realOf_206
theorem fX9_realOf_207 : ft 176 207 = some (.dcmp .l, 0, 0, 0, .null) := by decide +kernel
theorem fX9_realOf_207' : ft 176 208 = some (.ifCond .eq 20, 0, 0, 0, .null) := by decide +kernel
theorem gX9_realOf_207T {L : List (Option Value)} {x w : UInt64} (c : dck .l .eq x w = true) {st : List Value} {H : HP} {Q : Option Value → HP → Prop} : Go 176 207 L (.double w :: .double x :: st) H Q ↔ Go 176 228 L st H Q := G_dcT fX9_realOf_207 fX9_realOf_207' (by decide) c
theorem gX9_realOf_207F {L : List (Option Value)} {x w : UInt64} (c : dck .l .eq x w = false) {st : List Value} {H : HP} {Q : Option Value → HP → Prop} : Go 176 207 L (.double w :: .double x :: st) H Q ↔ Go 176 211 L st H Q := G_dcF (tg := 228) fX9_realOf_207 fX9_realOf_207' (by decide) c
theorem fX9_realOf_208 : ft 176 208 = some (.ifCond .eq 20, 0, 0, 0, .null) := by decide +kernel
theorem gX9_realOf_208T {L : List (Option Value)} {a : Int} (c : (-2147483648 ≤ a ∧ a ≤ 2147483647) ∧ a = 0) {st : List Value} {H : HP} {Q : Option Value → HP → Prop} : Go 176 208 L (vi a :: st) H Q ↔ Go 176 228 L st H Q := G_ifT fX9_realOf_208 (by decide) c
theorem gX9_realOf_208F {L : List (Option Value)} {a : Int} (c : (-2147483648 ≤ a ∧ a ≤ 2147483647) ∧ ¬ (a = 0)) {st : List Value} {H : HP} {Q : Option Value → HP → Prop} : Go 176 208 L (vi a :: st) H Q ↔ Go 176 211 L st H Q := G_ifF (tg := 228) fX9_realOf_208 (by decide) c
theorem fX9_realOf_211 : ft 176 211 = some (.dload 4, 0, 0, 0, .null) := by decide +kernel
theorem gX9_realOf_211 {l0 l1 l2 l3 l6 l7 l8 l9 l10 l11 l12 l13 l14 l15 l16 l17 : Option Value} {u : UInt64} {st : List Value} {H : HP} {Q : Option Value → HP → Prop} : Go 176 211 [l0, l1, l2, l3, some (.double u), none, l6, l7, l8, l9, l10, l11, l12, l13, l14, l15, l16, l17] st H Q ↔ Go 176 213 [l0, l1, l2, l3, some (.double u), none, l6, l7, l8, l9, l10, l11, l12, l13, l14, l15, l16, l17] (.double u :: st) H Q := G_dload fX9_realOf_211 rfl
theorem fX9_realOf_213 : ft 176 213 = some (.dload 16, 0, 0, 0, .null) := by decide +kernel
theorem gX9_realOf_213 {l0 l1 l2 l3 l4 l5 l6 l7 l8 l9 l10 l11 l12 l13 l14 l15 : Option Value} {u : UInt64} {st : List Value} {H : HP} {Q : Option Value → HP → Prop} : Go 176 213 [l0, l1, l2, l3, l4, l5, l6, l7, l8, l9, l10, l11, l12, l13, l14, l15, some (.double u), none] st H Q ↔ Go 176 215 [l0, l1, l2, l3, l4, l5, l6, l7, l8, l9, l10, l11, l12, l13, l14, l15, some (.double u), none] (.double u :: st) H Q := G_dload fX9_realOf_213 rfl
theorem fX9_realOf_215 : ft 176 215 = some (.dneg, 0, 0, 0, .null) := by decide +kernel
theorem gX9_realOf_215 {L : List (Option Value)} {x : UInt64} {st : List Value} {H : HP} {Q : Option Value → HP → Prop} : Go 176 215 L (.double x :: st) H Q ↔ Go 176 216 L (.double (FP.dneg x) :: st) H Q := G_dneg fX9_realOf_215
theorem fX9_realOf_216 : ft 176 216 = some (.dcmp .l, 0, 0, 0, .null) := by decide +kernel
theorem fX9_realOf_216' : ft 176 217 = some (.ifCond .ne 15, 0, 0, 0, .null) := by decide +kernel
theorem gX9_realOf_216T {L : List (Option Value)} {x w : UInt64} (c : dck .l .ne x w = true) {st : List Value} {H : HP} {Q : Option Value → HP → Prop} : Go 176 216 L (.double w :: .double x :: st) H Q ↔ Go 176 232 L st H Q := G_dcT fX9_realOf_216 fX9_realOf_216' (by decide) c
theorem gX9_realOf_216F {L : List (Option Value)} {x w : UInt64} (c : dck .l .ne x w = false) {st : List Value} {H : HP} {Q : Option Value → HP → Prop} : Go 176 216 L (.double w :: .double x :: st) H Q ↔ Go 176 220 L st H Q := G_dcF (tg := 232) fX9_realOf_216 fX9_realOf_216' (by decide) c
theorem fX9_realOf_217 : ft 176 217 = some (.ifCond .ne 15, 0, 0, 0, .null) := by decide +kernel
theorem gX9_realOf_217T {L : List (Option Value)} {a : Int} (c : (-2147483648 ≤ a ∧ a ≤ 2147483647) ∧ ¬ a = 0) {st : List Value} {H : HP} {Q : Option Value → HP → Prop} : Go 176 217 L (vi a :: st) H Q ↔ Go 176 232 L st H Q := G_ifT fX9_realOf_217 (by decide) c
theorem gX9_realOf_217F {L : List (Option Value)} {a : Int} (c : (-2147483648 ≤ a ∧ a ≤ 2147483647) ∧ ¬ (¬ a = 0)) {st : List Value} {H : HP} {Q : Option Value → HP → Prop} : Go 176 217 L (vi a :: st) H Q ↔ Go 176 220 L st H Q := G_ifF (tg := 232) fX9_realOf_217 (by decide) c
theorem fX9_realOf_220 : ft 176 220 = some (.dload 14, 0, 0, 0, .null) := by decide +kernel
theorem gX9_realOf_220 {l0 l1 l2 l3 l4 l5 l6 l7 l8 l9 l10 l11 l12 l13 l16 l17 : Option Value} {u : UInt64} {st : List Value} {H : HP} {Q : Option Value → HP → Prop} : Go 176 220 [l0, l1, l2, l3, l4, l5, l6, l7, l8, l9, l10, l11, l12, l13, some (.double u), none, l16, l17] st H Q ↔ Go 176 222 [l0, l1, l2, l3, l4, l5, l6, l7, l8, l9, l10, l11, l12, l13, some (.double u), none, l16, l17] (.double u :: st) H Q := G_dload fX9_realOf_220 rfl
theorem fX9_realOf_222 : ft 176 222 = some (.dload 16, 0, 0, 0, .null) := by decide +kernel
theorem gX9_realOf_222 {l0 l1 l2 l3 l4 l5 l6 l7 l8 l9 l10 l11 l12 l13 l14 l15 : Option Value} {u : UInt64} {st : List Value} {H : HP} {Q : Option Value → HP → Prop} : Go 176 222 [l0, l1, l2, l3, l4, l5, l6, l7, l8, l9, l10, l11, l12, l13, l14, l15, some (.double u), none] st H Q ↔ Go 176 224 [l0, l1, l2, l3, l4, l5, l6, l7, l8, l9, l10, l11, l12, l13, l14, l15, some (.double u), none] (.double u :: st) H Q := G_dload fX9_realOf_222 rfl
theorem fX9_realOf_224 : ft 176 224 = some (.dcmp .l, 0, 0, 0, .null) := by decide +kernel
theorem fX9_realOf_224' : ft 176 225 = some (.ifCond .ne 7, 0, 0, 0, .null) := by decide +kernel
theorem gX9_realOf_224T {L : List (Option Value)} {x w : UInt64} (c : dck .l .ne x w = true) {st : List Value} {H : HP} {Q : Option Value → HP → Prop} : Go 176 224 L (.double w :: .double x :: st) H Q ↔ Go 176 232 L st H Q := G_dcT fX9_realOf_224 fX9_realOf_224' (by decide) c
theorem gX9_realOf_224F {L : List (Option Value)} {x w : UInt64} (c : dck .l .ne x w = false) {st : List Value} {H : HP} {Q : Option Value → HP → Prop} : Go 176 224 L (.double w :: .double x :: st) H Q ↔ Go 176 228 L st H Q := G_dcF (tg := 232) fX9_realOf_224 fX9_realOf_224' (by decide) c
theorem fX9_realOf_225 : ft 176 225 = some (.ifCond .ne 7, 0, 0, 0, .null) := by decide +kernel
theorem gX9_realOf_225T {L : List (Option Value)} {a : Int} (c : (-2147483648 ≤ a ∧ a ≤ 2147483647) ∧ ¬ a = 0) {st : List Value} {H : HP} {Q : Option Value → HP → Prop} : Go 176 225 L (vi a :: st) H Q ↔ Go 176 232 L st H Q := G_ifT fX9_realOf_225 (by decide) c
theorem gX9_realOf_225F {L : List (Option Value)} {a : Int} (c : (-2147483648 ≤ a ∧ a ≤ 2147483647) ∧ ¬ (¬ a = 0)) {st : List Value} {H : HP} {Q : Option Value → HP → Prop} : Go 176 225 L (vi a :: st) H Q ↔ Go 176 228 L st H Q := G_ifF (tg := 232) fX9_realOf_225 (by decide) c
theorem fX9_realOf_228 : ft 176 228 = some (.ldc2_w 111, 0, 0, 883, .long (9221120237041090560)) := by decide +kernel
theorem gX9_realOf_228 {L : List (Option Value)} {st : List Value} {H : HP} {Q : Option Value → HP → Prop} : Go 176 228 L st H Q ↔ Go 176 231 L (vl (9221120237041090560) :: st) H Q := G_ldcl fX9_realOf_228 (by decide +kernel)
theorem fX9_realOf_231 : ft 176 231 = some (.lreturn, 0, 0, 0, .null) := by decide +kernel
theorem gX9_realOf_231 {L : List (Option Value)} {u : Int64} {H : HP} {Q : Option Value → HP → Prop} : Go 176 231 L [.long u] H Q ↔ Q (some (.long u)) H := G_lret fX9_realOf_231 (by decide +kernel)
theorem fX9_realOf_232 : ft 176 232 = some (.dload 4, 0, 0, 0, .null) := by decide +kernel
theorem gX9_realOf_232 {l0 l1 l2 l3 l6 l7 l8 l9 l10 l11 l12 l13 l14 l15 l16 l17 : Option Value} {u : UInt64} {st : List Value} {H : HP} {Q : Option Value → HP → Prop} : Go 176 232 [l0, l1, l2, l3, some (.double u), none, l6, l7, l8, l9, l10, l11, l12, l13, l14, l15, l16, l17] st H Q ↔ Go 176 234 [l0, l1, l2, l3, some (.double u), none, l6, l7, l8, l9, l10, l11, l12, l13, l14, l15, l16, l17] (.double u :: st) H Q := G_dload fX9_realOf_232 rfl
theorem fX9_realOf_234 : ft 176 234 = some (.dload 14, 0, 0, 0, .null) := by decide +kernel
theorem gX9_realOf_234 {l0 l1 l2 l3 l4 l5 l6 l7 l8 l9 l10 l11 l12 l13 l16 l17 : Option Value} {u : UInt64} {st : List Value} {H : HP} {Q : Option Value → HP → Prop} : Go 176 234 [l0, l1, l2, l3, l4, l5, l6, l7, l8, l9, l10, l11, l12, l13, some (.double u), none, l16, l17] st H Q ↔ Go 176 236 [l0, l1, l2, l3, l4, l5, l6, l7, l8, l9, l10, l11, l12, l13, some (.double u), none, l16, l17] (.double u :: st) H Q := G_dload fX9_realOf_234 rfl
theorem fX9_realOf_236 : ft 176 236 = some (.dadd, 0, 0, 0, .null) := by decide +kernel
theorem gX9_realOf_236 {L : List (Option Value)} {x w : UInt64} (c : vf_n64 (FP.dadd x w)) {st : List Value} {H : HP} {Q : Option Value → HP → Prop} : Go 176 236 L (.double w :: .double x :: st) H Q ↔ Go 176 237 L (.double (FP.dadd x w) :: st) H Q := G_dadd fX9_realOf_236 c
theorem fX9_realOf_237 : ft 176 237 = some (.dstore 4, 0, 0, 0, .null) := by decide +kernel
theorem gX9_realOf_237 {l0 l1 l2 l3 l4 l5 l6 l7 l8 l9 l10 l11 l12 l13 l14 l15 l16 l17 : Option Value} {u : UInt64} {st : List Value} {H : HP} {Q : Option Value → HP → Prop} : Go 176 237 [l0, l1, l2, l3, l4, l5, l6, l7, l8, l9, l10, l11, l12, l13, l14, l15, l16, l17] (.double u :: st) H Q ↔ Go 176 239 [l0, l1, l2, l3, some (.double u), none, l6, l7, l8, l9, l10, l11, l12, l13, l14, l15, l16, l17] st H Q := G_dstore fX9_realOf_237 rfl
theorem fX9_realOf_239 : ft 176 239 = some (.iinc 6 1, 0, 0, 0, .null) := by decide +kernel
theorem gX9_realOf_239 {l0 l1 l2 l3 l4 l5 l7 l8 l9 l10 l11 l12 l13 l14 l15 l16 l17 : Option Value} {a : Int} {st : List Value} {H : HP} {Q : Option Value → HP → Prop} : Go 176 239 [l0, l1, l2, l3, l4, l5, some (vi a), l7, l8, l9, l10, l11, l12, l13, l14, l15, l16, l17] st H Q ↔ Go 176 242 [l0, l1, l2, l3, l4, l5, some (vi (a + 1)), l7, l8, l9, l10, l11, l12, l13, l14, l15, l16, l17] st H Q := G_iinc fX9_realOf_239 rfl rfl
theorem fX9_realOf_242 : ft 176 242 = some (.goto (-236), 0, 0, 0, .null) := by decide +kernel
theorem gX9_realOf_242 {L : List (Option Value)} {st : List Value} {H : HP} {Q : Option Value → HP → Prop} : Go 176 242 L st H Q ↔ Go 176 6 L st H Q := G_goto fX9_realOf_242 (by decide)
theorem fX9_realOf_245 : ft 176 245 = some (.dload 4, 0, 0, 0, .null) := by decide +kernel
theorem gX9_realOf_245 {l0 l1 l2 l3 l6 l7 l8 l9 l10 l11 l12 l13 l14 l15 l16 l17 : Option Value} {u : UInt64} {st : List Value} {H : HP} {Q : Option Value → HP → Prop} : Go 176 245 [l0, l1, l2, l3, some (.double u), none, l6, l7, l8, l9, l10, l11, l12, l13, l14, l15, l16, l17] st H Q ↔ Go 176 247 [l0, l1, l2, l3, some (.double u), none, l6, l7, l8, l9, l10, l11, l12, l13, l14, l15, l16, l17] (.double u :: st) H Q := G_dload fX9_realOf_245 rfl
theorem fX9_realOf_247 : ft 176 247 = some (.invokestatic 221, 182, 0, 1083, .null) := by decide +kernel
theorem gX9_realOf_247 {L : List (Option Value)} {a0 : UInt64}  {H : HP} {Q : Option Value → HP → Prop} : Go 176 247 L (.double a0 :: []) H Q ↔ Go 182 0 [some (.double a0), none] [] H (Cont 176 250 L [] Q) := G_cS (n := 1) (N := 2) (as := [.double a0]) (st := []) fX9_realOf_247 (by decide +kernel) rfl (Nat.le_of_ble_eq_true rfl) (Nat.le_of_ble_eq_true rfl) rfl
theorem fX9_realOf_250 : ft 176 250 = some (.lreturn, 0, 0, 0, .null) := by decide +kernel
theorem gX9_realOf_250 {L : List (Option Value)} {u : Int64} {H : HP} {Q : Option Value → HP → Prop} : Go 176 250 L [.long u] H Q ↔ Q (some (.long u)) H := G_lret fX9_realOf_250 (by decide +kernel)
theorem fX9_real_0 : ft 177 0 = some (.aload_n 0, 0, 0, 0, .null) := by decide +kernel
theorem gX9_real_0 {l1 l2 l3 : Option Value} {u : Nat} {st : List Value} {H : HP} {Q : Option Value → HP → Prop} : Go 177 0 [some (.ref u), l1, l2, l3] st H Q ↔ Go 177 1 [some (.ref u), l1, l2, l3] (.ref u :: st) H Q := G_aload_n fX9_real_0 rfl
theorem fX9_real_1 : ft 177 1 = some (.iconst 0, 0, 0, 0, .null) := by decide +kernel
theorem gX9_real_1 {L : List (Option Value)} {st : List Value} {H : HP} {Q : Option Value → HP → Prop} : Go 177 1 L st H Q ↔ Go 177 2 L (vi 0 :: st) H Q := G_iconst fX9_real_1
theorem fX9_real_2 : ft 177 2 = some (.putfield 72, 9, 0, 754, .null) := by decide +kernel
theorem gX9_real_2 {L : List (Option Value)} {p : Nat} {u : Int32} (hp : p ≠ 0) {st : List Value} {H : HP} {Q : Option Value → HP → Prop} : Go 177 2 L (.int u :: .ref p :: st) H Q ↔ Wr (pF' 9 0 (hget H p) (.int u)) p 177 5 L st H Q := G_putf fX9_real_2 ⟨⟨rfl, rfl⟩, rfl, Or.inl rfl⟩ hp
theorem fX9_real_5 : ft 177 5 = some (.iload_n 1, 0, 0, 0, .null) := by decide +kernel
theorem gX9_real_5 {l0 l2 l3 : Option Value} {u : Int32} {st : List Value} {H : HP} {Q : Option Value → HP → Prop} : Go 177 5 [l0, some (.int u), l2, l3] st H Q ↔ Go 177 6 [l0, some (.int u), l2, l3] (.int u :: st) H Q := G_iload_n fX9_real_5 rfl
theorem fX9_real_6 : ft 177 6 = some (.invokestatic 85, 119, 0, 841, .null) := by decide +kernel
theorem gX9_real_6 {L : List (Option Value)} {a0 : Int32}  {H : HP} {Q : Option Value → HP → Prop} : Go 177 6 L (.int a0 :: []) H Q ↔ Go 119 0 [some (.int a0)] [] H (Cont 177 9 L [] Q) := G_cS (n := 1) (N := 1) (as := [.int a0]) (st := []) fX9_real_6 (by decide +kernel) rfl (Nat.le_of_ble_eq_true rfl) (Nat.le_of_ble_eq_true rfl) rfl
theorem fX9_real_9 : ft 177 9 = some (.ifCond .eq 10, 0, 0, 0, .null) := by decide +kernel
theorem gX9_real_9T {L : List (Option Value)} {a : Int} (c : (-2147483648 ≤ a ∧ a ≤ 2147483647) ∧ a = 0) {st : List Value} {H : HP} {Q : Option Value → HP → Prop} : Go 177 9 L (vi a :: st) H Q ↔ Go 177 19 L st H Q := G_ifT fX9_real_9 (by decide) c
theorem gX9_real_9F {L : List (Option Value)} {a : Int} (c : (-2147483648 ≤ a ∧ a ≤ 2147483647) ∧ ¬ (a = 0)) {st : List Value} {H : HP} {Q : Option Value → HP → Prop} : Go 177 9 L (vi a :: st) H Q ↔ Go 177 12 L st H Q := G_ifF (tg := 19) fX9_real_9 (by decide) c
theorem fX9_real_12 : ft 177 12 = some (.iload_n 2, 0, 0, 0, .null) := by decide +kernel
theorem gX9_real_12 {l0 l1 l3 : Option Value} {u : Int32} {st : List Value} {H : HP} {Q : Option Value → HP → Prop} : Go 177 12 [l0, l1, some (.int u), l3] st H Q ↔ Go 177 13 [l0, l1, some (.int u), l3] (.int u :: st) H Q := G_iload_n fX9_real_12 rfl
theorem fX9_real_13 : ft 177 13 = some (.invokestatic 85, 119, 0, 841, .null) := by decide +kernel
theorem gX9_real_13 {L : List (Option Value)} {a0 : Int32}  {H : HP} {Q : Option Value → HP → Prop} : Go 177 13 L (.int a0 :: []) H Q ↔ Go 119 0 [some (.int a0)] [] H (Cont 177 16 L [] Q) := G_cS (n := 1) (N := 1) (as := [.int a0]) (st := []) fX9_real_13 (by decide +kernel) rfl (Nat.le_of_ble_eq_true rfl) (Nat.le_of_ble_eq_true rfl) rfl
theorem fX9_real_16 : ft 177 16 = some (.ifCond .ne 5, 0, 0, 0, .null) := by decide +kernel
theorem gX9_real_16T {L : List (Option Value)} {a : Int} (c : (-2147483648 ≤ a ∧ a ≤ 2147483647) ∧ ¬ a = 0) {st : List Value} {H : HP} {Q : Option Value → HP → Prop} : Go 177 16 L (vi a :: st) H Q ↔ Go 177 21 L st H Q := G_ifT fX9_real_16 (by decide) c
theorem gX9_real_16F {L : List (Option Value)} {a : Int} (c : (-2147483648 ≤ a ∧ a ≤ 2147483647) ∧ ¬ (¬ a = 0)) {st : List Value} {H : HP} {Q : Option Value → HP → Prop} : Go 177 16 L (vi a :: st) H Q ↔ Go 177 19 L st H Q := G_ifF (tg := 21) fX9_real_16 (by decide) c
theorem fX9_real_19 : ft 177 19 = some (.iconst (-1), 0, 0, 0, .null) := by decide +kernel
theorem gX9_real_19 {L : List (Option Value)} {st : List Value} {H : HP} {Q : Option Value → HP → Prop} : Go 177 19 L st H Q ↔ Go 177 20 L (vi (-1) :: st) H Q := G_iconst fX9_real_19
theorem fX9_real_20 : ft 177 20 = some (.ireturn, 0, 0, 0, .null) := by decide +kernel
theorem gX9_real_20 {L : List (Option Value)} {u : Int32} {H : HP} {Q : Option Value → HP → Prop} : Go 177 20 L [.int u] H Q ↔ Q (some (.int u)) H := G_iret fX9_real_20 (by decide +kernel)
theorem fX9_real_21 : ft 177 21 = some (.aload_n 0, 0, 0, 0, .null) := by decide +kernel
theorem gX9_real_21 {l1 l2 l3 : Option Value} {u : Nat} {st : List Value} {H : HP} {Q : Option Value → HP → Prop} : Go 177 21 [some (.ref u), l1, l2, l3] st H Q ↔ Go 177 22 [some (.ref u), l1, l2, l3] (.ref u :: st) H Q := G_aload_n fX9_real_21 rfl
theorem fX9_real_22 : ft 177 22 = some (.getfield 9, 9, 1, 755, .null) := by decide +kernel
theorem gX9_real_22 {L : List (Option Value)} {p : Nat} {st : List Value} {H : HP} {Q : Option Value → HP → Prop} : Go 177 22 L (.ref p :: st) H Q ↔ Rd (gF' 9 1 (hget H p)) 177 25 L st H Q := G_getf fX9_real_22 ⟨rfl, rfl⟩
theorem fX9_real_25 : ft 177 25 = some (.iload_n 1, 0, 0, 0, .null) := by decide +kernel
theorem gX9_real_25 {l0 l2 l3 : Option Value} {u : Int32} {st : List Value} {H : HP} {Q : Option Value → HP → Prop} : Go 177 25 [l0, some (.int u), l2, l3] st H Q ↔ Go 177 26 [l0, some (.int u), l2, l3] (.int u :: st) H Q := G_iload_n fX9_real_25 rfl
theorem fX9_real_26 : ft 177 26 = some (.iaload, 0, 0, 0, .null) := by decide +kernel
theorem gX9_real_26 {L : List (Option Value)} {p : Nat} {a : Int} {st : List Value} {H : HP} {Q : Option Value → HP → Prop} : Go 177 26 L (vi a :: .ref p :: st) H Q ↔ Rd (aJ' (hget H p) a) 177 27 L st H Q := G_iald fX9_real_26
theorem fX9_real_27 : ft 177 27 = some (.bipush (-9), 0, 0, 0, .null) := by decide +kernel
theorem gX9_real_27 {L : List (Option Value)} {st : List Value} {H : HP} {Q : Option Value → HP → Prop} : Go 177 27 L st H Q ↔ Go 177 29 L (vi (-9) :: st) H Q := G_bipush fX9_real_27 (by decide)
theorem fX9_real_29 : ft 177 29 = some (.if_icmp .eq 14, 0, 0, 0, .null) := by decide +kernel
theorem gX9_real_29T {L : List (Option Value)} {a b : Int} (c : (-2147483648 ≤ a ∧ a ≤ 2147483647 ∧ -2147483648 ≤ b ∧ b ≤ 2147483647) ∧ a = b) {st : List Value} {H : HP} {Q : Option Value → HP → Prop} : Go 177 29 L (vi b :: vi a :: st) H Q ↔ Go 177 43 L st H Q := G_icT fX9_real_29 (by decide) c
theorem gX9_real_29F {L : List (Option Value)} {a b : Int} (c : (-2147483648 ≤ a ∧ a ≤ 2147483647 ∧ -2147483648 ≤ b ∧ b ≤ 2147483647) ∧ ¬ (a = b)) {st : List Value} {H : HP} {Q : Option Value → HP → Prop} : Go 177 29 L (vi b :: vi a :: st) H Q ↔ Go 177 32 L st H Q := G_icF (tg := 43) fX9_real_29 (by decide) c
theorem fX9_real_32 : ft 177 32 = some (.aload_n 0, 0, 0, 0, .null) := by decide +kernel
theorem gX9_real_32 {l1 l2 l3 : Option Value} {u : Nat} {st : List Value} {H : HP} {Q : Option Value → HP → Prop} : Go 177 32 [some (.ref u), l1, l2, l3] st H Q ↔ Go 177 33 [some (.ref u), l1, l2, l3] (.ref u :: st) H Q := G_aload_n fX9_real_32 rfl
theorem fX9_real_33 : ft 177 33 = some (.getfield 9, 9, 1, 755, .null) := by decide +kernel
theorem gX9_real_33 {L : List (Option Value)} {p : Nat} {st : List Value} {H : HP} {Q : Option Value → HP → Prop} : Go 177 33 L (.ref p :: st) H Q ↔ Rd (gF' 9 1 (hget H p)) 177 36 L st H Q := G_getf fX9_real_33 ⟨rfl, rfl⟩
theorem fX9_real_36 : ft 177 36 = some (.iload_n 2, 0, 0, 0, .null) := by decide +kernel
theorem gX9_real_36 {l0 l1 l3 : Option Value} {u : Int32} {st : List Value} {H : HP} {Q : Option Value → HP → Prop} : Go 177 36 [l0, l1, some (.int u), l3] st H Q ↔ Go 177 37 [l0, l1, some (.int u), l3] (.int u :: st) H Q := G_iload_n fX9_real_36 rfl
theorem fX9_real_37 : ft 177 37 = some (.iaload, 0, 0, 0, .null) := by decide +kernel
theorem gX9_real_37 {L : List (Option Value)} {p : Nat} {a : Int} {st : List Value} {H : HP} {Q : Option Value → HP → Prop} : Go 177 37 L (vi a :: .ref p :: st) H Q ↔ Rd (aJ' (hget H p) a) 177 38 L st H Q := G_iald fX9_real_37
theorem fX9_real_38 : ft 177 38 = some (.bipush (-9), 0, 0, 0, .null) := by decide +kernel
theorem gX9_real_38 {L : List (Option Value)} {st : List Value} {H : HP} {Q : Option Value → HP → Prop} : Go 177 38 L st H Q ↔ Go 177 40 L (vi (-9) :: st) H Q := G_bipush fX9_real_38 (by decide)
theorem fX9_real_40 : ft 177 40 = some (.if_icmp .ne 9, 0, 0, 0, .null) := by decide +kernel
theorem gX9_real_40T {L : List (Option Value)} {a b : Int} (c : (-2147483648 ≤ a ∧ a ≤ 2147483647 ∧ -2147483648 ≤ b ∧ b ≤ 2147483647) ∧ ¬ a = b) {st : List Value} {H : HP} {Q : Option Value → HP → Prop} : Go 177 40 L (vi b :: vi a :: st) H Q ↔ Go 177 49 L st H Q := G_icT fX9_real_40 (by decide) c
theorem gX9_real_40F {L : List (Option Value)} {a b : Int} (c : (-2147483648 ≤ a ∧ a ≤ 2147483647 ∧ -2147483648 ≤ b ∧ b ≤ 2147483647) ∧ ¬ (¬ a = b)) {st : List Value} {H : HP} {Q : Option Value → HP → Prop} : Go 177 40 L (vi b :: vi a :: st) H Q ↔ Go 177 43 L st H Q := G_icF (tg := 49) fX9_real_40 (by decide) c
theorem fX9_real_43 : ft 177 43 = some (.aload_n 0, 0, 0, 0, .null) := by decide +kernel
theorem gX9_real_43 {l1 l2 l3 : Option Value} {u : Nat} {st : List Value} {H : HP} {Q : Option Value → HP → Prop} : Go 177 43 [some (.ref u), l1, l2, l3] st H Q ↔ Go 177 44 [some (.ref u), l1, l2, l3] (.ref u :: st) H Q := G_aload_n fX9_real_43 rfl
theorem fX9_real_44 : ft 177 44 = some (.iconst 1, 0, 0, 0, .null) := by decide +kernel
theorem gX9_real_44 {L : List (Option Value)} {st : List Value} {H : HP} {Q : Option Value → HP → Prop} : Go 177 44 L st H Q ↔ Go 177 45 L (vi 1 :: st) H Q := G_iconst fX9_real_44
theorem fX9_real_45 : ft 177 45 = some (.invokevirtual 89, 117, 0, 847, .null) := by decide +kernel
theorem gX9_real_45 {L : List (Option Value)} {p : Nat} {a0 : Int32}  {H : HP} {Q : Option Value → HP → Prop} : Go 177 45 L (.int a0 :: .ref p :: []) H Q ↔ (iso 9 (hget H p) = true ∧ Go 117 0 [some (.ref p), some (.int a0)] [] H (Cont 177 48 L [] Q)) := G_cV (n := 1) (N := 2) (as := [.int a0]) (st := []) fX9_real_45 (by decide +kernel) rfl (Nat.le_of_ble_eq_true rfl) (Nat.le_of_ble_eq_true rfl) rfl
theorem fX9_real_48 : ft 177 48 = some (.ireturn, 0, 0, 0, .null) := by decide +kernel
theorem gX9_real_48 {L : List (Option Value)} {u : Int32} {H : HP} {Q : Option Value → HP → Prop} : Go 177 48 L [.int u] H Q ↔ Q (some (.int u)) H := G_iret fX9_real_48 (by decide +kernel)
theorem fX9_real_49 : ft 177 49 = some (.aload_n 0, 0, 0, 0, .null) := by decide +kernel
theorem gX9_real_49 {l1 l2 l3 : Option Value} {u : Nat} {st : List Value} {H : HP} {Q : Option Value → HP → Prop} : Go 177 49 [some (.ref u), l1, l2, l3] st H Q ↔ Go 177 50 [some (.ref u), l1, l2, l3] (.ref u :: st) H Q := G_aload_n fX9_real_49 rfl
theorem fX9_real_50 : ft 177 50 = some (.aload_n 0, 0, 0, 0, .null) := by decide +kernel
theorem gX9_real_50 {l1 l2 l3 : Option Value} {u : Nat} {st : List Value} {H : HP} {Q : Option Value → HP → Prop} : Go 177 50 [some (.ref u), l1, l2, l3] st H Q ↔ Go 177 51 [some (.ref u), l1, l2, l3] (.ref u :: st) H Q := G_aload_n fX9_real_50 rfl
theorem fX9_real_51 : ft 177 51 = some (.iload_n 1, 0, 0, 0, .null) := by decide +kernel
theorem gX9_real_51 {l0 l2 l3 : Option Value} {u : Int32} {st : List Value} {H : HP} {Q : Option Value → HP → Prop} : Go 177 51 [l0, some (.int u), l2, l3] st H Q ↔ Go 177 52 [l0, some (.int u), l2, l3] (.int u :: st) H Q := G_iload_n fX9_real_51 rfl
theorem fX9_real_52 : ft 177 52 = some (.invokevirtual 100, 124, 0, 867, .null) := by decide +kernel
theorem gX9_real_52 {L : List (Option Value)} {p : Nat} {a0 : Int32} {r0 : Nat} {H : HP} {Q : Option Value → HP → Prop} : Go 177 52 L (.int a0 :: .ref p :: [.ref r0]) H Q ↔ (iso 9 (hget H p) = true ∧ Go 124 0 [some (.ref p), some (.int a0)] [] H (Cont 177 55 L [.ref r0] Q)) := G_cV (n := 1) (N := 2) (as := [.int a0]) (st := [.ref r0]) fX9_real_52 (by decide +kernel) rfl (Nat.le_of_ble_eq_true rfl) (Nat.le_of_ble_eq_true rfl) rfl
theorem fX9_real_55 : ft 177 55 = some (.aload_n 0, 0, 0, 0, .null) := by decide +kernel
theorem gX9_real_55 {l1 l2 l3 : Option Value} {u : Nat} {st : List Value} {H : HP} {Q : Option Value → HP → Prop} : Go 177 55 [some (.ref u), l1, l2, l3] st H Q ↔ Go 177 56 [some (.ref u), l1, l2, l3] (.ref u :: st) H Q := G_aload_n fX9_real_55 rfl
theorem fX9_real_56 : ft 177 56 = some (.iload_n 2, 0, 0, 0, .null) := by decide +kernel
theorem gX9_real_56 {l0 l1 l3 : Option Value} {u : Int32} {st : List Value} {H : HP} {Q : Option Value → HP → Prop} : Go 177 56 [l0, l1, some (.int u), l3] st H Q ↔ Go 177 57 [l0, l1, some (.int u), l3] (.int u :: st) H Q := G_iload_n fX9_real_56 rfl
theorem fX9_real_57 : ft 177 57 = some (.invokevirtual 100, 124, 0, 867, .null) := by decide +kernel
theorem gX9_real_57 {L : List (Option Value)} {p : Nat} {a0 : Int32} {r0 : Int32} {r1 : Nat} {H : HP} {Q : Option Value → HP → Prop} : Go 177 57 L (.int a0 :: .ref p :: [.int r0, .ref r1]) H Q ↔ (iso 9 (hget H p) = true ∧ Go 124 0 [some (.ref p), some (.int a0)] [] H (Cont 177 60 L [.int r0, .ref r1] Q)) := G_cV (n := 1) (N := 2) (as := [.int a0]) (st := [.int r0, .ref r1]) fX9_real_57 (by decide +kernel) rfl (Nat.le_of_ble_eq_true rfl) (Nat.le_of_ble_eq_true rfl) rfl
theorem fX9_real_60 : ft 177 60 = some (.iadd, 0, 0, 0, .null) := by decide +kernel
theorem gX9_real_60 {L : List (Option Value)} {a b : Int} {st : List Value} {H : HP} {Q : Option Value → HP → Prop} : Go 177 60 L (vi b :: vi a :: st) H Q ↔ Go 177 61 L (vi (a + b) :: st) H Q := G_iadd fX9_real_60
theorem fX9_real_61 : ft 177 61 = some (.iconst 1, 0, 0, 0, .null) := by decide +kernel
theorem gX9_real_61 {L : List (Option Value)} {st : List Value} {H : HP} {Q : Option Value → HP → Prop} : Go 177 61 L st H Q ↔ Go 177 62 L (vi 1 :: st) H Q := G_iconst fX9_real_61
theorem fX9_real_62 : ft 177 62 = some (.isub, 0, 0, 0, .null) := by decide +kernel
theorem gX9_real_62 {L : List (Option Value)} {a b : Int} {st : List Value} {H : HP} {Q : Option Value → HP → Prop} : Go 177 62 L (vi b :: vi a :: st) H Q ↔ Go 177 63 L (vi (a - b) :: st) H Q := G_isub fX9_real_62
theorem fX9_real_63 : ft 177 63 = some (.putfield 225, 9, 17, 771, .null) := by decide +kernel
theorem gX9_real_63 {L : List (Option Value)} {p : Nat} {u : Int32} (hp : p ≠ 0) {st : List Value} {H : HP} {Q : Option Value → HP → Prop} : Go 177 63 L (.int u :: .ref p :: st) H Q ↔ Wr (pF' 9 17 (hget H p) (.int u)) p 177 66 L st H Q := G_putf fX9_real_63 ⟨⟨rfl, rfl⟩, rfl, Or.inl rfl⟩ hp
theorem fX9_real_66 : ft 177 66 = some (.iconst 0, 0, 0, 0, .null) := by decide +kernel
theorem gX9_real_66 {L : List (Option Value)} {st : List Value} {H : HP} {Q : Option Value → HP → Prop} : Go 177 66 L st H Q ↔ Go 177 67 L (vi 0 :: st) H Q := G_iconst fX9_real_66
theorem fX9_real_67 : ft 177 67 = some (.istore_n 3, 0, 0, 0, .null) := by decide +kernel
theorem gX9_real_67 {l0 l1 l2 l3 : Option Value} {u : Int32} {st : List Value} {H : HP} {Q : Option Value → HP → Prop} : Go 177 67 [l0, l1, l2, l3] (.int u :: st) H Q ↔ Go 177 68 [l0, l1, l2, some (.int u)] st H Q := G_istore_n fX9_real_67 rfl
theorem fX9_real_68 : ft 177 68 = some (.iload_n 3, 0, 0, 0, .null) := by decide +kernel
theorem gX9_real_68 {l0 l1 l2 : Option Value} {u : Int32} {st : List Value} {H : HP} {Q : Option Value → HP → Prop} : Go 177 68 [l0, l1, l2, some (.int u)] st H Q ↔ Go 177 69 [l0, l1, l2, some (.int u)] (.int u :: st) H Q := G_iload_n fX9_real_68 rfl
theorem fX9_real_69 : ft 177 69 = some (.aload_n 0, 0, 0, 0, .null) := by decide +kernel
theorem gX9_real_69 {l1 l2 l3 : Option Value} {u : Nat} {st : List Value} {H : HP} {Q : Option Value → HP → Prop} : Go 177 69 [some (.ref u), l1, l2, l3] st H Q ↔ Go 177 70 [some (.ref u), l1, l2, l3] (.ref u :: st) H Q := G_aload_n fX9_real_69 rfl
theorem fX9_real_70 : ft 177 70 = some (.getfield 225, 9, 17, 771, .null) := by decide +kernel
theorem gX9_real_70 {L : List (Option Value)} {p : Nat} {st : List Value} {H : HP} {Q : Option Value → HP → Prop} : Go 177 70 L (.ref p :: st) H Q ↔ Rd (gF' 9 17 (hget H p)) 177 73 L st H Q := G_getf fX9_real_70 ⟨rfl, rfl⟩
theorem fX9_real_73 : ft 177 73 = some (.if_icmp .ge 22, 0, 0, 0, .null) := by decide +kernel
theorem gX9_real_73T {L : List (Option Value)} {a b : Int} (c : (-2147483648 ≤ a ∧ a ≤ 2147483647 ∧ -2147483648 ≤ b ∧ b ≤ 2147483647) ∧ b ≤ a) {st : List Value} {H : HP} {Q : Option Value → HP → Prop} : Go 177 73 L (vi b :: vi a :: st) H Q ↔ Go 177 95 L st H Q := G_icT fX9_real_73 (by decide) c
theorem gX9_real_73F {L : List (Option Value)} {a b : Int} (c : (-2147483648 ≤ a ∧ a ≤ 2147483647 ∧ -2147483648 ≤ b ∧ b ≤ 2147483647) ∧ ¬ (b ≤ a)) {st : List Value} {H : HP} {Q : Option Value → HP → Prop} : Go 177 73 L (vi b :: vi a :: st) H Q ↔ Go 177 76 L st H Q := G_icF (tg := 95) fX9_real_73 (by decide) c
theorem fX9_real_76 : ft 177 76 = some (.aload_n 0, 0, 0, 0, .null) := by decide +kernel
theorem gX9_real_76 {l1 l2 l3 : Option Value} {u : Nat} {st : List Value} {H : HP} {Q : Option Value → HP → Prop} : Go 177 76 [some (.ref u), l1, l2, l3] st H Q ↔ Go 177 77 [some (.ref u), l1, l2, l3] (.ref u :: st) H Q := G_aload_n fX9_real_76 rfl
theorem fX9_real_77 : ft 177 77 = some (.getfield 45, 9, 18, 772, .null) := by decide +kernel
theorem gX9_real_77 {L : List (Option Value)} {p : Nat} {st : List Value} {H : HP} {Q : Option Value → HP → Prop} : Go 177 77 L (.ref p :: st) H Q ↔ Rd (gF' 9 18 (hget H p)) 177 80 L st H Q := G_getf fX9_real_77 ⟨rfl, rfl⟩
theorem fX9_real_80 : ft 177 80 = some (.iload_n 3, 0, 0, 0, .null) := by decide +kernel
theorem gX9_real_80 {l0 l1 l2 : Option Value} {u : Int32} {st : List Value} {H : HP} {Q : Option Value → HP → Prop} : Go 177 80 [l0, l1, l2, some (.int u)] st H Q ↔ Go 177 81 [l0, l1, l2, some (.int u)] (.int u :: st) H Q := G_iload_n fX9_real_80 rfl
theorem fX9_real_81 : ft 177 81 = some (.aload_n 0, 0, 0, 0, .null) := by decide +kernel
theorem gX9_real_81 {l1 l2 l3 : Option Value} {u : Nat} {st : List Value} {H : HP} {Q : Option Value → HP → Prop} : Go 177 81 [some (.ref u), l1, l2, l3] st H Q ↔ Go 177 82 [some (.ref u), l1, l2, l3] (.ref u :: st) H Q := G_aload_n fX9_real_81 rfl
theorem fX9_real_82 : ft 177 82 = some (.iload_n 1, 0, 0, 0, .null) := by decide +kernel
theorem gX9_real_82 {l0 l2 l3 : Option Value} {u : Int32} {st : List Value} {H : HP} {Q : Option Value → HP → Prop} : Go 177 82 [l0, some (.int u), l2, l3] st H Q ↔ Go 177 83 [l0, some (.int u), l2, l3] (.int u :: st) H Q := G_iload_n fX9_real_82 rfl
theorem fX9_real_83 : ft 177 83 = some (.iload_n 2, 0, 0, 0, .null) := by decide +kernel
theorem gX9_real_83 {l0 l1 l3 : Option Value} {u : Int32} {st : List Value} {H : HP} {Q : Option Value → HP → Prop} : Go 177 83 [l0, l1, some (.int u), l3] st H Q ↔ Go 177 84 [l0, l1, some (.int u), l3] (.int u :: st) H Q := G_iload_n fX9_real_83 rfl
theorem fX9_real_84 : ft 177 84 = some (.iload_n 3, 0, 0, 0, .null) := by decide +kernel
theorem gX9_real_84 {l0 l1 l2 : Option Value} {u : Int32} {st : List Value} {H : HP} {Q : Option Value → HP → Prop} : Go 177 84 [l0, l1, l2, some (.int u)] st H Q ↔ Go 177 85 [l0, l1, l2, some (.int u)] (.int u :: st) H Q := G_iload_n fX9_real_84 rfl
theorem fX9_real_85 : ft 177 85 = some (.invokevirtual 228, 176, 0, 1072, .null) := by decide +kernel
theorem gX9_real_85 {L : List (Option Value)} {p : Nat} {a0 : Int32} {a1 : Int32} {a2 : Int32} {r0 : Int32} {r1 : Nat} {H : HP} {Q : Option Value → HP → Prop} : Go 177 85 L (.int a2 :: .int a1 :: .int a0 :: .ref p :: [.int r0, .ref r1]) H Q ↔ (iso 9 (hget H p) = true ∧ Go 176 0 [some (.ref p), some (.int a0), some (.int a1), some (.int a2), none, none, none, none, none, none, none, none, none, none, none, none, none, none] [] H (Cont 177 88 L [.int r0, .ref r1] Q)) := G_cV (n := 3) (N := 18) (as := [.int a2, .int a1, .int a0]) (st := [.int r0, .ref r1]) fX9_real_85 (by decide +kernel) rfl (Nat.le_of_ble_eq_true rfl) (Nat.le_of_ble_eq_true rfl) rfl
theorem fX9_real_88 : ft 177 88 = some (.lastore, 0, 0, 0, .null) := by decide +kernel
theorem gX9_real_88 {L : List (Option Value)} {p : Nat} {a : Int} {b : Int} (hp : p ≠ 0) {st : List Value} {H : HP} {Q : Option Value → HP → Prop} : Go 177 88 L (vl b :: vi a :: .ref p :: st) H Q ↔ Wr (sL' (hget H p) a b) p 177 89 L st H Q := G_last fX9_real_88 hp
theorem fX9_real_89 : ft 177 89 = some (.iinc 3 1, 0, 0, 0, .null) := by decide +kernel
theorem gX9_real_89 {l0 l1 l2 : Option Value} {a : Int} {st : List Value} {H : HP} {Q : Option Value → HP → Prop} : Go 177 89 [l0, l1, l2, some (vi a)] st H Q ↔ Go 177 92 [l0, l1, l2, some (vi (a + 1))] st H Q := G_iinc fX9_real_89 rfl rfl
theorem fX9_real_92 : ft 177 92 = some (.goto (-24), 0, 0, 0, .null) := by decide +kernel
theorem gX9_real_92 {L : List (Option Value)} {st : List Value} {H : HP} {Q : Option Value → HP → Prop} : Go 177 92 L st H Q ↔ Go 177 68 L st H Q := G_goto fX9_real_92 (by decide)
theorem fX9_real_95 : ft 177 95 = some (.aload_n 0, 0, 0, 0, .null) := by decide +kernel
theorem gX9_real_95 {l1 l2 l3 : Option Value} {u : Nat} {st : List Value} {H : HP} {Q : Option Value → HP → Prop} : Go 177 95 [some (.ref u), l1, l2, l3] st H Q ↔ Go 177 96 [some (.ref u), l1, l2, l3] (.ref u :: st) H Q := G_aload_n fX9_real_95 rfl
theorem fX9_real_96 : ft 177 96 = some (.getfield 225, 9, 17, 771, .null) := by decide +kernel
theorem gX9_real_96 {L : List (Option Value)} {p : Nat} {st : List Value} {H : HP} {Q : Option Value → HP → Prop} : Go 177 96 L (.ref p :: st) H Q ↔ Rd (gF' 9 17 (hget H p)) 177 99 L st H Q := G_getf fX9_real_96 ⟨rfl, rfl⟩
theorem fX9_real_99 : ft 177 99 = some (.ireturn, 0, 0, 0, .null) := by decide +kernel
theorem gX9_real_99 {L : List (Option Value)} {u : Int32} {H : HP} {Q : Option Value → HP → Prop} : Go 177 99 L [.int u] H Q ↔ Q (some (.int u)) H := G_iret fX9_real_99 (by decide +kernel)
theorem fX9_realAt_0 : ft 178 0 = some (.iload_n 1, 0, 0, 0, .null) := by decide +kernel
theorem gX9_realAt_0 {l0 : Option Value} {u : Int32} {st : List Value} {H : HP} {Q : Option Value → HP → Prop} : Go 178 0 [l0, some (.int u)] st H Q ↔ Go 178 1 [l0, some (.int u)] (.int u :: st) H Q := G_iload_n fX9_realAt_0 rfl
theorem fX9_realAt_1 : ft 178 1 = some (.ifCond .lt 20, 0, 0, 0, .null) := by decide +kernel
theorem gX9_realAt_1T {L : List (Option Value)} {a : Int} (c : (-2147483648 ≤ a ∧ a ≤ 2147483647) ∧ a < 0) {st : List Value} {H : HP} {Q : Option Value → HP → Prop} : Go 178 1 L (vi a :: st) H Q ↔ Go 178 21 L st H Q := G_ifT fX9_realAt_1 (by decide) c
theorem gX9_realAt_1F {L : List (Option Value)} {a : Int} (c : (-2147483648 ≤ a ∧ a ≤ 2147483647) ∧ ¬ (a < 0)) {st : List Value} {H : HP} {Q : Option Value → HP → Prop} : Go 178 1 L (vi a :: st) H Q ↔ Go 178 4 L st H Q := G_ifF (tg := 21) fX9_realAt_1 (by decide) c
theorem fX9_realAt_4 : ft 178 4 = some (.iload_n 1, 0, 0, 0, .null) := by decide +kernel
theorem gX9_realAt_4 {l0 : Option Value} {u : Int32} {st : List Value} {H : HP} {Q : Option Value → HP → Prop} : Go 178 4 [l0, some (.int u)] st H Q ↔ Go 178 5 [l0, some (.int u)] (.int u :: st) H Q := G_iload_n fX9_realAt_4 rfl
theorem fX9_realAt_5 : ft 178 5 = some (.aload_n 0, 0, 0, 0, .null) := by decide +kernel
theorem gX9_realAt_5 {l1 : Option Value} {u : Nat} {st : List Value} {H : HP} {Q : Option Value → HP → Prop} : Go 178 5 [some (.ref u), l1] st H Q ↔ Go 178 6 [some (.ref u), l1] (.ref u :: st) H Q := G_aload_n fX9_realAt_5 rfl
theorem fX9_realAt_6 : ft 178 6 = some (.getfield 225, 9, 17, 771, .null) := by decide +kernel
theorem gX9_realAt_6 {L : List (Option Value)} {p : Nat} {st : List Value} {H : HP} {Q : Option Value → HP → Prop} : Go 178 6 L (.ref p :: st) H Q ↔ Rd (gF' 9 17 (hget H p)) 178 9 L st H Q := G_getf fX9_realAt_6 ⟨rfl, rfl⟩
theorem fX9_realAt_9 : ft 178 9 = some (.if_icmp .ge 12, 0, 0, 0, .null) := by decide +kernel
theorem gX9_realAt_9T {L : List (Option Value)} {a b : Int} (c : (-2147483648 ≤ a ∧ a ≤ 2147483647 ∧ -2147483648 ≤ b ∧ b ≤ 2147483647) ∧ b ≤ a) {st : List Value} {H : HP} {Q : Option Value → HP → Prop} : Go 178 9 L (vi b :: vi a :: st) H Q ↔ Go 178 21 L st H Q := G_icT fX9_realAt_9 (by decide) c
theorem gX9_realAt_9F {L : List (Option Value)} {a b : Int} (c : (-2147483648 ≤ a ∧ a ≤ 2147483647 ∧ -2147483648 ≤ b ∧ b ≤ 2147483647) ∧ ¬ (b ≤ a)) {st : List Value} {H : HP} {Q : Option Value → HP → Prop} : Go 178 9 L (vi b :: vi a :: st) H Q ↔ Go 178 12 L st H Q := G_icF (tg := 21) fX9_realAt_9 (by decide) c
theorem fX9_realAt_12 : ft 178 12 = some (.aload_n 0, 0, 0, 0, .null) := by decide +kernel
theorem gX9_realAt_12 {l1 : Option Value} {u : Nat} {st : List Value} {H : HP} {Q : Option Value → HP → Prop} : Go 178 12 [some (.ref u), l1] st H Q ↔ Go 178 13 [some (.ref u), l1] (.ref u :: st) H Q := G_aload_n fX9_realAt_12 rfl
theorem fX9_realAt_13 : ft 178 13 = some (.getfield 45, 9, 18, 772, .null) := by decide +kernel
theorem gX9_realAt_13 {L : List (Option Value)} {p : Nat} {st : List Value} {H : HP} {Q : Option Value → HP → Prop} : Go 178 13 L (.ref p :: st) H Q ↔ Rd (gF' 9 18 (hget H p)) 178 16 L st H Q := G_getf fX9_realAt_13 ⟨rfl, rfl⟩
theorem fX9_realAt_16 : ft 178 16 = some (.iload_n 1, 0, 0, 0, .null) := by decide +kernel
theorem gX9_realAt_16 {l0 : Option Value} {u : Int32} {st : List Value} {H : HP} {Q : Option Value → HP → Prop} : Go 178 16 [l0, some (.int u)] st H Q ↔ Go 178 17 [l0, some (.int u)] (.int u :: st) H Q := G_iload_n fX9_realAt_16 rfl
theorem fX9_realAt_17 : ft 178 17 = some (.laload, 0, 0, 0, .null) := by decide +kernel
theorem gX9_realAt_17 {L : List (Option Value)} {p : Nat} {a : Int} {st : List Value} {H : HP} {Q : Option Value → HP → Prop} : Go 178 17 L (vi a :: .ref p :: st) H Q ↔ Rd (aL' (hget H p) a) 178 18 L st H Q := G_lald fX9_realAt_17
theorem fX9_realAt_18 : ft 178 18 = some (.goto 6, 0, 0, 0, .null) := by decide +kernel
theorem gX9_realAt_18 {L : List (Option Value)} {st : List Value} {H : HP} {Q : Option Value → HP → Prop} : Go 178 18 L st H Q ↔ Go 178 24 L st H Q := G_goto fX9_realAt_18 (by decide)
theorem fX9_realAt_21 : ft 178 21 = some (.ldc2_w 111, 0, 0, 883, .long (9221120237041090560)) := by decide +kernel
theorem gX9_realAt_21 {L : List (Option Value)} {st : List Value} {H : HP} {Q : Option Value → HP → Prop} : Go 178 21 L st H Q ↔ Go 178 24 L (vl (9221120237041090560) :: st) H Q := G_ldcl fX9_realAt_21 (by decide +kernel)
theorem fX9_realAt_24 : ft 178 24 = some (.lreturn, 0, 0, 0, .null) := by decide +kernel
theorem gX9_realAt_24 {L : List (Option Value)} {u : Int64} {H : HP} {Q : Option Value → HP → Prop} : Go 178 24 L [.long u] H Q ↔ Q (some (.long u)) H := G_lret fX9_realAt_24 (by decide +kernel)
theorem fX9_fault_0 : ft 179 0 = some (.aload_n 0, 0, 0, 0, .null) := by decide +kernel
theorem gX9_fault_0  {u : Nat} {st : List Value} {H : HP} {Q : Option Value → HP → Prop} : Go 179 0 [some (.ref u)] st H Q ↔ Go 179 1 [some (.ref u)] (.ref u :: st) H Q := G_aload_n fX9_fault_0 rfl
theorem fX9_fault_1 : ft 179 1 = some (.getfield 72, 9, 0, 754, .null) := by decide +kernel
theorem gX9_fault_1 {L : List (Option Value)} {p : Nat} {st : List Value} {H : HP} {Q : Option Value → HP → Prop} : Go 179 1 L (.ref p :: st) H Q ↔ Rd (gF' 9 0 (hget H p)) 179 4 L st H Q := G_getf fX9_fault_1 ⟨rfl, rfl⟩
theorem fX9_fault_4 : ft 179 4 = some (.ireturn, 0, 0, 0, .null) := by decide +kernel
theorem gX9_fault_4 {L : List (Option Value)} {u : Int32} {H : HP} {Q : Option Value → HP → Prop} : Go 179 4 L [.int u] H Q ↔ Q (some (.int u)) H := G_iret fX9_fault_4 (by decide +kernel)
theorem fX9_told_0 : ft 180 0 = some (.iload_n 1, 0, 0, 0, .null) := by decide +kernel
theorem gX9_told_0 {l0 : Option Value} {u : Int32} {st : List Value} {H : HP} {Q : Option Value → HP → Prop} : Go 180 0 [l0, some (.int u)] st H Q ↔ Go 180 1 [l0, some (.int u)] (.int u :: st) H Q := G_iload_n fX9_told_0 rfl
theorem fX9_told_1 : ft 180 1 = some (.tableswitch 78 0 6 #[43, 48, 53, 58, 63, 68, 73], 0, 0, 0, .null) := by decide +kernel
theorem gX9_told_1O {L : List (Option Value)} {a : Int} (c : (-2147483648 ≤ a ∧ a ≤ 2147483647) ∧ (a < 0 ∨ 6 < a)) {st : List Value} {H : HP} {Q : Option Value → HP → Prop} : Go 180 1 L (vi a :: st) H Q ↔ Go 180 79 L st H Q := G_swO fX9_told_1 (by decide) c
theorem gX9_told_1_0 {L : List (Option Value)} {a : Int} (c : a = 0) {st : List Value} {H : HP} {Q : Option Value → HP → Prop} : Go 180 1 L (vi a :: st) H Q ↔ Go 180 44 L st H Q := G_swI (i := 43) (j := 0) fX9_told_1 (by decide) (by decide) (by decide) c
theorem gX9_told_1_1 {L : List (Option Value)} {a : Int} (c : a = 1) {st : List Value} {H : HP} {Q : Option Value → HP → Prop} : Go 180 1 L (vi a :: st) H Q ↔ Go 180 49 L st H Q := G_swI (i := 48) (j := 1) fX9_told_1 (by decide) (by decide) (by decide) c
theorem gX9_told_1_2 {L : List (Option Value)} {a : Int} (c : a = 2) {st : List Value} {H : HP} {Q : Option Value → HP → Prop} : Go 180 1 L (vi a :: st) H Q ↔ Go 180 54 L st H Q := G_swI (i := 53) (j := 2) fX9_told_1 (by decide) (by decide) (by decide) c
theorem gX9_told_1_3 {L : List (Option Value)} {a : Int} (c : a = 3) {st : List Value} {H : HP} {Q : Option Value → HP → Prop} : Go 180 1 L (vi a :: st) H Q ↔ Go 180 59 L st H Q := G_swI (i := 58) (j := 3) fX9_told_1 (by decide) (by decide) (by decide) c
theorem gX9_told_1_4 {L : List (Option Value)} {a : Int} (c : a = 4) {st : List Value} {H : HP} {Q : Option Value → HP → Prop} : Go 180 1 L (vi a :: st) H Q ↔ Go 180 64 L st H Q := G_swI (i := 63) (j := 4) fX9_told_1 (by decide) (by decide) (by decide) c
theorem gX9_told_1_5 {L : List (Option Value)} {a : Int} (c : a = 5) {st : List Value} {H : HP} {Q : Option Value → HP → Prop} : Go 180 1 L (vi a :: st) H Q ↔ Go 180 69 L st H Q := G_swI (i := 68) (j := 5) fX9_told_1 (by decide) (by decide) (by decide) c
theorem gX9_told_1_6 {L : List (Option Value)} {a : Int} (c : a = 6) {st : List Value} {H : HP} {Q : Option Value → HP → Prop} : Go 180 1 L (vi a :: st) H Q ↔ Go 180 74 L st H Q := G_swI (i := 73) (j := 6) fX9_told_1 (by decide) (by decide) (by decide) c
theorem fX9_told_44 : ft 180 44 = some (.aload_n 0, 0, 0, 0, .null) := by decide +kernel
theorem gX9_told_44 {l1 : Option Value} {u : Nat} {st : List Value} {H : HP} {Q : Option Value → HP → Prop} : Go 180 44 [some (.ref u), l1] st H Q ↔ Go 180 45 [some (.ref u), l1] (.ref u :: st) H Q := G_aload_n fX9_told_44 rfl
theorem fX9_told_45 : ft 180 45 = some (.getfield 155, 9, 5, 759, .null) := by decide +kernel
theorem gX9_told_45 {L : List (Option Value)} {p : Nat} {st : List Value} {H : HP} {Q : Option Value → HP → Prop} : Go 180 45 L (.ref p :: st) H Q ↔ Rd (gF' 9 5 (hget H p)) 180 48 L st H Q := G_getf fX9_told_45 ⟨rfl, rfl⟩
theorem fX9_told_48 : ft 180 48 = some (.ireturn, 0, 0, 0, .null) := by decide +kernel
theorem gX9_told_48 {L : List (Option Value)} {u : Int32} {H : HP} {Q : Option Value → HP → Prop} : Go 180 48 L [.int u] H Q ↔ Q (some (.int u)) H := G_iret fX9_told_48 (by decide +kernel)
theorem fX9_told_49 : ft 180 49 = some (.aload_n 0, 0, 0, 0, .null) := by decide +kernel
theorem gX9_told_49 {l1 : Option Value} {u : Nat} {st : List Value} {H : HP} {Q : Option Value → HP → Prop} : Go 180 49 [some (.ref u), l1] st H Q ↔ Go 180 50 [some (.ref u), l1] (.ref u :: st) H Q := G_aload_n fX9_told_49 rfl
theorem fX9_told_50 : ft 180 50 = some (.getfield 23, 9, 6, 760, .null) := by decide +kernel
theorem gX9_told_50 {L : List (Option Value)} {p : Nat} {st : List Value} {H : HP} {Q : Option Value → HP → Prop} : Go 180 50 L (.ref p :: st) H Q ↔ Rd (gF' 9 6 (hget H p)) 180 53 L st H Q := G_getf fX9_told_50 ⟨rfl, rfl⟩
theorem fX9_told_53 : ft 180 53 = some (.ireturn, 0, 0, 0, .null) := by decide +kernel
theorem gX9_told_53 {L : List (Option Value)} {u : Int32} {H : HP} {Q : Option Value → HP → Prop} : Go 180 53 L [.int u] H Q ↔ Q (some (.int u)) H := G_iret fX9_told_53 (by decide +kernel)
theorem fX9_told_54 : ft 180 54 = some (.aload_n 0, 0, 0, 0, .null) := by decide +kernel
theorem gX9_told_54 {l1 : Option Value} {u : Nat} {st : List Value} {H : HP} {Q : Option Value → HP → Prop} : Go 180 54 [some (.ref u), l1] st H Q ↔ Go 180 55 [some (.ref u), l1] (.ref u :: st) H Q := G_aload_n fX9_told_54 rfl
theorem fX9_told_55 : ft 180 55 = some (.getfield 163, 9, 8, 762, .null) := by decide +kernel
theorem gX9_told_55 {L : List (Option Value)} {p : Nat} {st : List Value} {H : HP} {Q : Option Value → HP → Prop} : Go 180 55 L (.ref p :: st) H Q ↔ Rd (gF' 9 8 (hget H p)) 180 58 L st H Q := G_getf fX9_told_55 ⟨rfl, rfl⟩
theorem fX9_told_58 : ft 180 58 = some (.ireturn, 0, 0, 0, .null) := by decide +kernel
theorem gX9_told_58 {L : List (Option Value)} {u : Int32} {H : HP} {Q : Option Value → HP → Prop} : Go 180 58 L [.int u] H Q ↔ Q (some (.int u)) H := G_iret fX9_told_58 (by decide +kernel)
theorem fX9_told_59 : ft 180 59 = some (.aload_n 0, 0, 0, 0, .null) := by decide +kernel
theorem gX9_told_59 {l1 : Option Value} {u : Nat} {st : List Value} {H : HP} {Q : Option Value → HP → Prop} : Go 180 59 [some (.ref u), l1] st H Q ↔ Go 180 60 [some (.ref u), l1] (.ref u :: st) H Q := G_aload_n fX9_told_59 rfl
theorem fX9_told_60 : ft 180 60 = some (.getfield 187, 9, 11, 765, .null) := by decide +kernel
theorem gX9_told_60 {L : List (Option Value)} {p : Nat} {st : List Value} {H : HP} {Q : Option Value → HP → Prop} : Go 180 60 L (.ref p :: st) H Q ↔ Rd (gF' 9 11 (hget H p)) 180 63 L st H Q := G_getf fX9_told_60 ⟨rfl, rfl⟩
theorem fX9_told_63 : ft 180 63 = some (.ireturn, 0, 0, 0, .null) := by decide +kernel
theorem gX9_told_63 {L : List (Option Value)} {u : Int32} {H : HP} {Q : Option Value → HP → Prop} : Go 180 63 L [.int u] H Q ↔ Q (some (.int u)) H := G_iret fX9_told_63 (by decide +kernel)
theorem fX9_told_64 : ft 180 64 = some (.aload_n 0, 0, 0, 0, .null) := by decide +kernel
theorem gX9_told_64 {l1 : Option Value} {u : Nat} {st : List Value} {H : HP} {Q : Option Value → HP → Prop} : Go 180 64 [some (.ref u), l1] st H Q ↔ Go 180 65 [some (.ref u), l1] (.ref u :: st) H Q := G_aload_n fX9_told_64 rfl
theorem fX9_told_65 : ft 180 65 = some (.getfield 203, 9, 13, 767, .null) := by decide +kernel
theorem gX9_told_65 {L : List (Option Value)} {p : Nat} {st : List Value} {H : HP} {Q : Option Value → HP → Prop} : Go 180 65 L (.ref p :: st) H Q ↔ Rd (gF' 9 13 (hget H p)) 180 68 L st H Q := G_getf fX9_told_65 ⟨rfl, rfl⟩
theorem fX9_told_68 : ft 180 68 = some (.ireturn, 0, 0, 0, .null) := by decide +kernel
theorem gX9_told_68 {L : List (Option Value)} {u : Int32} {H : HP} {Q : Option Value → HP → Prop} : Go 180 68 L [.int u] H Q ↔ Q (some (.int u)) H := G_iret fX9_told_68 (by decide +kernel)
theorem fX9_told_69 : ft 180 69 = some (.aload_n 0, 0, 0, 0, .null) := by decide +kernel
theorem gX9_told_69 {l1 : Option Value} {u : Nat} {st : List Value} {H : HP} {Q : Option Value → HP → Prop} : Go 180 69 [some (.ref u), l1] st H Q ↔ Go 180 70 [some (.ref u), l1] (.ref u :: st) H Q := G_aload_n fX9_told_69 rfl
theorem fX9_told_70 : ft 180 70 = some (.getfield 206, 9, 15, 769, .null) := by decide +kernel
theorem gX9_told_70 {L : List (Option Value)} {p : Nat} {st : List Value} {H : HP} {Q : Option Value → HP → Prop} : Go 180 70 L (.ref p :: st) H Q ↔ Rd (gF' 9 15 (hget H p)) 180 73 L st H Q := G_getf fX9_told_70 ⟨rfl, rfl⟩
theorem fX9_told_73 : ft 180 73 = some (.ireturn, 0, 0, 0, .null) := by decide +kernel
theorem gX9_told_73 {L : List (Option Value)} {u : Int32} {H : HP} {Q : Option Value → HP → Prop} : Go 180 73 L [.int u] H Q ↔ Q (some (.int u)) H := G_iret fX9_told_73 (by decide +kernel)
theorem fX9_told_74 : ft 180 74 = some (.aload_n 0, 0, 0, 0, .null) := by decide +kernel
theorem gX9_told_74 {l1 : Option Value} {u : Nat} {st : List Value} {H : HP} {Q : Option Value → HP → Prop} : Go 180 74 [some (.ref u), l1] st H Q ↔ Go 180 75 [some (.ref u), l1] (.ref u :: st) H Q := G_aload_n fX9_told_74 rfl
theorem fX9_told_75 : ft 180 75 = some (.getfield 225, 9, 17, 771, .null) := by decide +kernel
theorem gX9_told_75 {L : List (Option Value)} {p : Nat} {st : List Value} {H : HP} {Q : Option Value → HP → Prop} : Go 180 75 L (.ref p :: st) H Q ↔ Rd (gF' 9 17 (hget H p)) 180 78 L st H Q := G_getf fX9_told_75 ⟨rfl, rfl⟩
theorem fX9_told_78 : ft 180 78 = some (.ireturn, 0, 0, 0, .null) := by decide +kernel
theorem gX9_told_78 {L : List (Option Value)} {u : Int32} {H : HP} {Q : Option Value → HP → Prop} : Go 180 78 L [.int u] H Q ↔ Q (some (.int u)) H := G_iret fX9_told_78 (by decide +kernel)
theorem fX9_told_79 : ft 180 79 = some (.bipush (-2), 0, 0, 0, .null) := by decide +kernel
theorem gX9_told_79 {L : List (Option Value)} {st : List Value} {H : HP} {Q : Option Value → HP → Prop} : Go 180 79 L st H Q ↔ Go 180 81 L (vi (-2) :: st) H Q := G_bipush fX9_told_79 (by decide)
theorem fX9_told_81 : ft 180 81 = some (.ireturn, 0, 0, 0, .null) := by decide +kernel
theorem gX9_told_81 {L : List (Option Value)} {u : Int32} {H : HP} {Q : Option Value → HP → Prop} : Go 180 81 L [.int u] H Q ↔ Q (some (.int u)) H := G_iret fX9_told_81 (by decide +kernel)

theorem fX8_init_0 : ft 69 0 = some (.aload_n 0, 0, 0, 0, .null) := by decide +kernel
theorem gX8_init_0  {u : Nat} {st : List Value} {H : HP} {Q : Option Value → HP → Prop} : Go 69 0 [some (.ref u)] st H Q ↔ Go 69 1 [some (.ref u)] (.ref u :: st) H Q := G_aload_n fX8_init_0 rfl
theorem fX8_init_1 : ft 69 1 = some (.invokespecial 3, 1000, 0, 49, .null) := by decide +kernel
theorem gX8_init_1 {L : List (Option Value)} {p : Nat}  {H : HP} {Q : Option Value → HP → Prop} : Go 69 1 L (.ref p :: []) H Q ↔ Go 69 4 L [] H Q := G_obj fX8_init_1 rfl ⟨by decide +kernel, Nat.le_trans (m := 20) (Nat.le_of_ble_eq_true rfl) (by decide +kernel)⟩
theorem fX8_init_4 : ft 69 4 = some (.aload_n 0, 0, 0, 0, .null) := by decide +kernel
theorem gX8_init_4  {u : Nat} {st : List Value} {H : HP} {Q : Option Value → HP → Prop} : Go 69 4 [some (.ref u)] st H Q ↔ Go 69 5 [some (.ref u)] (.ref u :: st) H Q := G_aload_n fX8_init_4 rfl
theorem fX8_init_5 : ft 69 5 = some (.bipush 12, 0, 0, 0, .null) := by decide +kernel
theorem gX8_init_5 {L : List (Option Value)} {st : List Value} {H : HP} {Q : Option Value → HP → Prop} : Go 69 5 L st H Q ↔ Go 69 7 L (vi 12 :: st) H Q := G_bipush fX8_init_5 (by decide)
theorem fX8_init_7 : ft 69 7 = some (.anewarray 9, 5, 0, 52, .null) := by decide +kernel
theorem gX8_init_7 {L : List (Option Value)} {a : Int} (c : 0 ≤ a ∧ a ≤ 1000000) {st : List Value} {H : HP} {Q : Option Value → HP → Prop} : Go 69 7 L (vi a :: st) H Q ↔ Go 69 10 L (.ref H.1 :: st) (hnew H (cR (.object (vCn 5)) a fun _ => none) a.toNat) Q := G_anew fX8_init_7 rfl c
theorem fX8_init_10 : ft 69 10 = some (.putfield 11, 8, 0, 221, .null) := by decide +kernel
theorem gX8_init_10 {L : List (Option Value)} {p : Nat} {u : Nat} (hp : p ≠ 0) {st : List Value} {H : HP} {Q : Option Value → HP → Prop} : Go 69 10 L (.ref u :: .ref p :: st) H Q ↔ Wr (pF' 8 0 (hget H p) (.ref u)) p 69 13 L st H Q := G_putf fX8_init_10 ⟨⟨rfl, rfl⟩, rfl, Or.inr (by decide +kernel)⟩ hp
theorem fX8_init_13 : ft 69 13 = some (.aload_n 0, 0, 0, 0, .null) := by decide +kernel
theorem gX8_init_13  {u : Nat} {st : List Value} {H : HP} {Q : Option Value → HP → Prop} : Go 69 13 [some (.ref u)] st H Q ↔ Go 69 14 [some (.ref u)] (.ref u :: st) H Q := G_aload_n fX8_init_13 rfl
theorem fX8_init_14 : ft 69 14 = some (.iconst 3, 0, 0, 0, .null) := by decide +kernel
theorem gX8_init_14 {L : List (Option Value)} {st : List Value} {H : HP} {Q : Option Value → HP → Prop} : Go 69 14 L st H Q ↔ Go 69 15 L (vi 3 :: st) H Q := G_iconst fX8_init_14
theorem fX8_init_15 : ft 69 15 = some (.anewarray 15, 3, 0, 54, .null) := by decide +kernel
theorem gX8_init_15 {L : List (Option Value)} {a : Int} (c : 0 ≤ a ∧ a ≤ 1000000) {st : List Value} {H : HP} {Q : Option Value → HP → Prop} : Go 69 15 L (vi a :: st) H Q ↔ Go 69 18 L (.ref H.1 :: st) (hnew H (cR (.object (vCn 3)) a fun _ => none) a.toNat) Q := G_anew fX8_init_15 rfl c
theorem fX8_init_18 : ft 69 18 = some (.putfield 17, 8, 1, 222, .null) := by decide +kernel
theorem gX8_init_18 {L : List (Option Value)} {p : Nat} {u : Nat} (hp : p ≠ 0) {st : List Value} {H : HP} {Q : Option Value → HP → Prop} : Go 69 18 L (.ref u :: .ref p :: st) H Q ↔ Wr (pF' 8 1 (hget H p) (.ref u)) p 69 21 L st H Q := G_putf fX8_init_18 ⟨⟨rfl, rfl⟩, rfl, Or.inr (by decide +kernel)⟩ hp
theorem fX8_init_21 : ft 69 21 = some (.aload_n 0, 0, 0, 0, .null) := by decide +kernel
theorem gX8_init_21  {u : Nat} {st : List Value} {H : HP} {Q : Option Value → HP → Prop} : Go 69 21 [some (.ref u)] st H Q ↔ Go 69 22 [some (.ref u)] (.ref u :: st) H Q := G_aload_n fX8_init_21 rfl
theorem fX8_init_22 : ft 69 22 = some (.new 21, 2, 0, 56, .null) := by decide +kernel
theorem gX8_init_22 {L : List (Option Value)} {st : List Value} {H : HP} {Q : Option Value → HP → Prop} : Go 69 22 L st H Q ↔ Go 69 25 L (.ref H.1 :: st) (hnew H (cO 2 [.null, .null, .null]) 3) Q := G_new fX8_init_22 (by decide +kernel)
theorem fX8_init_25 : ft 69 25 = some (.dup, 0, 0, 0, .null) := by decide +kernel
theorem gX8_init_25 {L : List (Option Value)} {u : Nat} {st : List Value} {H : HP} {Q : Option Value → HP → Prop} : Go 69 25 L (.ref u :: st) H Q ↔ Go 69 26 L (.ref u :: .ref u :: st) H Q := G_dup fX8_init_25 rfl
theorem fX8_init_26 : ft 69 26 = some (.invokespecial 23, 17, 1, 58, .null) := by decide +kernel
theorem gX8_init_26 {L : List (Option Value)} {p : Nat}  {r0 : Nat} {r1 : Nat} {H : HP} {Q : Option Value → HP → Prop} : Go 69 26 L (.ref p :: [.ref r0, .ref r1]) H Q ↔ Go 17 0 [some (.ref p)] [] H (Cont 69 29 L [.ref r0, .ref r1] Q) := G_cI (n := 0) (N := 1) (as := []) (st := [.ref r0, .ref r1]) fX8_init_26 (by decide +kernel) rfl (Nat.le_of_ble_eq_true rfl) (Nat.le_of_ble_eq_true rfl) rfl
theorem fX8_init_29 : ft 69 29 = some (.putfield 24, 8, 3, 224, .null) := by decide +kernel
theorem gX8_init_29 {L : List (Option Value)} {p : Nat} {u : Nat} (hp : p ≠ 0) {st : List Value} {H : HP} {Q : Option Value → HP → Prop} : Go 69 29 L (.ref u :: .ref p :: st) H Q ↔ Wr (pF' 8 3 (hget H p) (.ref u)) p 69 32 L st H Q := G_putf fX8_init_29 ⟨⟨rfl, rfl⟩, rfl, Or.inr (by decide +kernel)⟩ hp
theorem fX8_init_32 : ft 69 32 = some (.aload_n 0, 0, 0, 0, .null) := by decide +kernel
theorem gX8_init_32  {u : Nat} {st : List Value} {H : HP} {Q : Option Value → HP → Prop} : Go 69 32 [some (.ref u)] st H Q ↔ Go 69 33 [some (.ref u)] (.ref u :: st) H Q := G_aload_n fX8_init_32 rfl
theorem fX8_init_33 : ft 69 33 = some (.new 28, 0, 0, 73, .null) := by decide +kernel
theorem gX8_init_33 {L : List (Option Value)} {st : List Value} {H : HP} {Q : Option Value → HP → Prop} : Go 69 33 L st H Q ↔ Go 69 36 L (.ref H.1 :: st) (hnew H (cO 0 [.null, .null, .null, .null, .null]) 5) Q := G_new fX8_init_33 (by decide +kernel)
theorem fX8_init_36 : ft 69 36 = some (.dup, 0, 0, 0, .null) := by decide +kernel
theorem gX8_init_36 {L : List (Option Value)} {u : Nat} {st : List Value} {H : HP} {Q : Option Value → HP → Prop} : Go 69 36 L (.ref u :: st) H Q ↔ Go 69 37 L (.ref u :: .ref u :: st) H Q := G_dup fX8_init_36 rfl
theorem fX8_init_37 : ft 69 37 = some (.invokespecial 30, 0, 0, 75, .null) := by decide +kernel
theorem gX8_init_37 {L : List (Option Value)} {p : Nat}  {r0 : Nat} {r1 : Nat} {H : HP} {Q : Option Value → HP → Prop} : Go 69 37 L (.ref p :: [.ref r0, .ref r1]) H Q ↔ Go 0 0 [some (.ref p), none] [] H (Cont 69 40 L [.ref r0, .ref r1] Q) := G_cI (n := 0) (N := 2) (as := []) (st := [.ref r0, .ref r1]) fX8_init_37 (by decide +kernel) rfl (Nat.le_of_ble_eq_true rfl) (Nat.le_of_ble_eq_true rfl) rfl
theorem fX8_init_40 : ft 69 40 = some (.putfield 31, 8, 4, 225, .null) := by decide +kernel
theorem gX8_init_40 {L : List (Option Value)} {p : Nat} {u : Nat} (hp : p ≠ 0) {st : List Value} {H : HP} {Q : Option Value → HP → Prop} : Go 69 40 L (.ref u :: .ref p :: st) H Q ↔ Wr (pF' 8 4 (hget H p) (.ref u)) p 69 43 L st H Q := G_putf fX8_init_40 ⟨⟨rfl, rfl⟩, rfl, Or.inr (by decide +kernel)⟩ hp
theorem fX8_init_43 : ft 69 43 = some (.aload_n 0, 0, 0, 0, .null) := by decide +kernel
theorem gX8_init_43  {u : Nat} {st : List Value} {H : HP} {Q : Option Value → HP → Prop} : Go 69 43 [some (.ref u)] st H Q ↔ Go 69 44 [some (.ref u)] (.ref u :: st) H Q := G_aload_n fX8_init_43 rfl
theorem fX8_init_44 : ft 69 44 = some (.new 35, 6, 0, 98, .null) := by decide +kernel
theorem gX8_init_44 {L : List (Option Value)} {st : List Value} {H : HP} {Q : Option Value → HP → Prop} : Go 69 44 L st H Q ↔ Go 69 47 L (.ref H.1 :: st) (hnew H (cO 6 [.null, .int 0]) 2) Q := G_new fX8_init_44 (by decide +kernel)
theorem fX8_init_47 : ft 69 47 = some (.dup, 0, 0, 0, .null) := by decide +kernel
theorem gX8_init_47 {L : List (Option Value)} {u : Nat} {st : List Value} {H : HP} {Q : Option Value → HP → Prop} : Go 69 47 L (.ref u :: st) H Q ↔ Go 69 48 L (.ref u :: .ref u :: st) H Q := G_dup fX8_init_47 rfl
theorem fX8_init_48 : ft 69 48 = some (.bipush 64, 0, 0, 0, .null) := by decide +kernel
theorem gX8_init_48 {L : List (Option Value)} {st : List Value} {H : HP} {Q : Option Value → HP → Prop} : Go 69 48 L st H Q ↔ Go 69 50 L (vi 64 :: st) H Q := G_bipush fX8_init_48 (by decide)
theorem fX8_init_50 : ft 69 50 = some (.invokespecial 37, 61, 0, 100, .null) := by decide +kernel
theorem gX8_init_50 {L : List (Option Value)} {p : Nat} {a0 : Int32} {r0 : Nat} {r1 : Nat} {H : HP} {Q : Option Value → HP → Prop} : Go 69 50 L (.int a0 :: .ref p :: [.ref r0, .ref r1]) H Q ↔ Go 61 0 [some (.ref p), some (.int a0)] [] H (Cont 69 53 L [.ref r0, .ref r1] Q) := G_cI (n := 1) (N := 2) (as := [.int a0]) (st := [.ref r0, .ref r1]) fX8_init_50 (by decide +kernel) rfl (Nat.le_of_ble_eq_true rfl) (Nat.le_of_ble_eq_true rfl) rfl
theorem fX8_init_53 : ft 69 53 = some (.putfield 40, 8, 5, 226, .null) := by decide +kernel
theorem gX8_init_53 {L : List (Option Value)} {p : Nat} {u : Nat} (hp : p ≠ 0) {st : List Value} {H : HP} {Q : Option Value → HP → Prop} : Go 69 53 L (.ref u :: .ref p :: st) H Q ↔ Wr (pF' 8 5 (hget H p) (.ref u)) p 69 56 L st H Q := G_putf fX8_init_53 ⟨⟨rfl, rfl⟩, rfl, Or.inr (by decide +kernel)⟩ hp
theorem fX8_init_56 : ft 69 56 = some (.aload_n 0, 0, 0, 0, .null) := by decide +kernel
theorem gX8_init_56  {u : Nat} {st : List Value} {H : HP} {Q : Option Value → HP → Prop} : Go 69 56 [some (.ref u)] st H Q ↔ Go 69 57 [some (.ref u)] (.ref u :: st) H Q := G_aload_n fX8_init_56 rfl
theorem fX8_init_57 : ft 69 57 = some (.new 35, 6, 0, 98, .null) := by decide +kernel
theorem gX8_init_57 {L : List (Option Value)} {st : List Value} {H : HP} {Q : Option Value → HP → Prop} : Go 69 57 L st H Q ↔ Go 69 60 L (.ref H.1 :: st) (hnew H (cO 6 [.null, .int 0]) 2) Q := G_new fX8_init_57 (by decide +kernel)
theorem fX8_init_60 : ft 69 60 = some (.dup, 0, 0, 0, .null) := by decide +kernel
theorem gX8_init_60 {L : List (Option Value)} {u : Nat} {st : List Value} {H : HP} {Q : Option Value → HP → Prop} : Go 69 60 L (.ref u :: st) H Q ↔ Go 69 61 L (.ref u :: .ref u :: st) H Q := G_dup fX8_init_60 rfl
theorem fX8_init_61 : ft 69 61 = some (.bipush 64, 0, 0, 0, .null) := by decide +kernel
theorem gX8_init_61 {L : List (Option Value)} {st : List Value} {H : HP} {Q : Option Value → HP → Prop} : Go 69 61 L st H Q ↔ Go 69 63 L (vi 64 :: st) H Q := G_bipush fX8_init_61 (by decide)
theorem fX8_init_63 : ft 69 63 = some (.invokespecial 37, 61, 0, 100, .null) := by decide +kernel
theorem gX8_init_63 {L : List (Option Value)} {p : Nat} {a0 : Int32} {r0 : Nat} {r1 : Nat} {H : HP} {Q : Option Value → HP → Prop} : Go 69 63 L (.int a0 :: .ref p :: [.ref r0, .ref r1]) H Q ↔ Go 61 0 [some (.ref p), some (.int a0)] [] H (Cont 69 66 L [.ref r0, .ref r1] Q) := G_cI (n := 1) (N := 2) (as := [.int a0]) (st := [.ref r0, .ref r1]) fX8_init_63 (by decide +kernel) rfl (Nat.le_of_ble_eq_true rfl) (Nat.le_of_ble_eq_true rfl) rfl
theorem fX8_init_66 : ft 69 66 = some (.putfield 44, 8, 6, 227, .null) := by decide +kernel
theorem gX8_init_66 {L : List (Option Value)} {p : Nat} {u : Nat} (hp : p ≠ 0) {st : List Value} {H : HP} {Q : Option Value → HP → Prop} : Go 69 66 L (.ref u :: .ref p :: st) H Q ↔ Wr (pF' 8 6 (hget H p) (.ref u)) p 69 69 L st H Q := G_putf fX8_init_66 ⟨⟨rfl, rfl⟩, rfl, Or.inr (by decide +kernel)⟩ hp
theorem fX8_init_69 : ft 69 69 = some (.aload_n 0, 0, 0, 0, .null) := by decide +kernel
theorem gX8_init_69  {u : Nat} {st : List Value} {H : HP} {Q : Option Value → HP → Prop} : Go 69 69 [some (.ref u)] st H Q ↔ Go 69 70 [some (.ref u)] (.ref u :: st) H Q := G_aload_n fX8_init_69 rfl
theorem fX8_init_70 : ft 69 70 = some (.new 35, 6, 0, 98, .null) := by decide +kernel
theorem gX8_init_70 {L : List (Option Value)} {st : List Value} {H : HP} {Q : Option Value → HP → Prop} : Go 69 70 L st H Q ↔ Go 69 73 L (.ref H.1 :: st) (hnew H (cO 6 [.null, .int 0]) 2) Q := G_new fX8_init_70 (by decide +kernel)
theorem fX8_init_73 : ft 69 73 = some (.dup, 0, 0, 0, .null) := by decide +kernel
theorem gX8_init_73 {L : List (Option Value)} {u : Nat} {st : List Value} {H : HP} {Q : Option Value → HP → Prop} : Go 69 73 L (.ref u :: st) H Q ↔ Go 69 74 L (.ref u :: .ref u :: st) H Q := G_dup fX8_init_73 rfl
theorem fX8_init_74 : ft 69 74 = some (.bipush 64, 0, 0, 0, .null) := by decide +kernel
theorem gX8_init_74 {L : List (Option Value)} {st : List Value} {H : HP} {Q : Option Value → HP → Prop} : Go 69 74 L st H Q ↔ Go 69 76 L (vi 64 :: st) H Q := G_bipush fX8_init_74 (by decide)
theorem fX8_init_76 : ft 69 76 = some (.invokespecial 37, 61, 0, 100, .null) := by decide +kernel
theorem gX8_init_76 {L : List (Option Value)} {p : Nat} {a0 : Int32} {r0 : Nat} {r1 : Nat} {H : HP} {Q : Option Value → HP → Prop} : Go 69 76 L (.int a0 :: .ref p :: [.ref r0, .ref r1]) H Q ↔ Go 61 0 [some (.ref p), some (.int a0)] [] H (Cont 69 79 L [.ref r0, .ref r1] Q) := G_cI (n := 1) (N := 2) (as := [.int a0]) (st := [.ref r0, .ref r1]) fX8_init_76 (by decide +kernel) rfl (Nat.le_of_ble_eq_true rfl) (Nat.le_of_ble_eq_true rfl) rfl
theorem fX8_init_79 : ft 69 79 = some (.putfield 47, 8, 7, 228, .null) := by decide +kernel
theorem gX8_init_79 {L : List (Option Value)} {p : Nat} {u : Nat} (hp : p ≠ 0) {st : List Value} {H : HP} {Q : Option Value → HP → Prop} : Go 69 79 L (.ref u :: .ref p :: st) H Q ↔ Wr (pF' 8 7 (hget H p) (.ref u)) p 69 82 L st H Q := G_putf fX8_init_79 ⟨⟨rfl, rfl⟩, rfl, Or.inr (by decide +kernel)⟩ hp
theorem fX8_init_82 : ft 69 82 = some (.aload_n 0, 0, 0, 0, .null) := by decide +kernel
theorem gX8_init_82  {u : Nat} {st : List Value} {H : HP} {Q : Option Value → HP → Prop} : Go 69 82 [some (.ref u)] st H Q ↔ Go 69 83 [some (.ref u)] (.ref u :: st) H Q := G_aload_n fX8_init_82 rfl
theorem fX8_init_83 : ft 69 83 = some (.new 35, 6, 0, 98, .null) := by decide +kernel
theorem gX8_init_83 {L : List (Option Value)} {st : List Value} {H : HP} {Q : Option Value → HP → Prop} : Go 69 83 L st H Q ↔ Go 69 86 L (.ref H.1 :: st) (hnew H (cO 6 [.null, .int 0]) 2) Q := G_new fX8_init_83 (by decide +kernel)
theorem fX8_init_86 : ft 69 86 = some (.dup, 0, 0, 0, .null) := by decide +kernel
theorem gX8_init_86 {L : List (Option Value)} {u : Nat} {st : List Value} {H : HP} {Q : Option Value → HP → Prop} : Go 69 86 L (.ref u :: st) H Q ↔ Go 69 87 L (.ref u :: .ref u :: st) H Q := G_dup fX8_init_86 rfl
theorem fX8_init_87 : ft 69 87 = some (.bipush 64, 0, 0, 0, .null) := by decide +kernel
theorem gX8_init_87 {L : List (Option Value)} {st : List Value} {H : HP} {Q : Option Value → HP → Prop} : Go 69 87 L st H Q ↔ Go 69 89 L (vi 64 :: st) H Q := G_bipush fX8_init_87 (by decide)
theorem fX8_init_89 : ft 69 89 = some (.invokespecial 37, 61, 0, 100, .null) := by decide +kernel
theorem gX8_init_89 {L : List (Option Value)} {p : Nat} {a0 : Int32} {r0 : Nat} {r1 : Nat} {H : HP} {Q : Option Value → HP → Prop} : Go 69 89 L (.int a0 :: .ref p :: [.ref r0, .ref r1]) H Q ↔ Go 61 0 [some (.ref p), some (.int a0)] [] H (Cont 69 92 L [.ref r0, .ref r1] Q) := G_cI (n := 1) (N := 2) (as := [.int a0]) (st := [.ref r0, .ref r1]) fX8_init_89 (by decide +kernel) rfl (Nat.le_of_ble_eq_true rfl) (Nat.le_of_ble_eq_true rfl) rfl
theorem fX8_init_92 : ft 69 92 = some (.putfield 50, 8, 8, 229, .null) := by decide +kernel
theorem gX8_init_92 {L : List (Option Value)} {p : Nat} {u : Nat} (hp : p ≠ 0) {st : List Value} {H : HP} {Q : Option Value → HP → Prop} : Go 69 92 L (.ref u :: .ref p :: st) H Q ↔ Wr (pF' 8 8 (hget H p) (.ref u)) p 69 95 L st H Q := G_putf fX8_init_92 ⟨⟨rfl, rfl⟩, rfl, Or.inr (by decide +kernel)⟩ hp
theorem fX8_init_95 : ft 69 95 = some (.aload_n 0, 0, 0, 0, .null) := by decide +kernel
theorem gX8_init_95  {u : Nat} {st : List Value} {H : HP} {Q : Option Value → HP → Prop} : Go 69 95 [some (.ref u)] st H Q ↔ Go 69 96 [some (.ref u)] (.ref u :: st) H Q := G_aload_n fX8_init_95 rfl
theorem fX8_init_96 : ft 69 96 = some (.new 35, 6, 0, 98, .null) := by decide +kernel
theorem gX8_init_96 {L : List (Option Value)} {st : List Value} {H : HP} {Q : Option Value → HP → Prop} : Go 69 96 L st H Q ↔ Go 69 99 L (.ref H.1 :: st) (hnew H (cO 6 [.null, .int 0]) 2) Q := G_new fX8_init_96 (by decide +kernel)
theorem fX8_init_99 : ft 69 99 = some (.dup, 0, 0, 0, .null) := by decide +kernel
theorem gX8_init_99 {L : List (Option Value)} {u : Nat} {st : List Value} {H : HP} {Q : Option Value → HP → Prop} : Go 69 99 L (.ref u :: st) H Q ↔ Go 69 100 L (.ref u :: .ref u :: st) H Q := G_dup fX8_init_99 rfl
theorem fX8_init_100 : ft 69 100 = some (.bipush 127, 0, 0, 0, .null) := by decide +kernel
theorem gX8_init_100 {L : List (Option Value)} {st : List Value} {H : HP} {Q : Option Value → HP → Prop} : Go 69 100 L st H Q ↔ Go 69 102 L (vi 127 :: st) H Q := G_bipush fX8_init_100 (by decide)
theorem fX8_init_102 : ft 69 102 = some (.invokespecial 37, 61, 0, 100, .null) := by decide +kernel
theorem gX8_init_102 {L : List (Option Value)} {p : Nat} {a0 : Int32} {r0 : Nat} {r1 : Nat} {H : HP} {Q : Option Value → HP → Prop} : Go 69 102 L (.int a0 :: .ref p :: [.ref r0, .ref r1]) H Q ↔ Go 61 0 [some (.ref p), some (.int a0)] [] H (Cont 69 105 L [.ref r0, .ref r1] Q) := G_cI (n := 1) (N := 2) (as := [.int a0]) (st := [.ref r0, .ref r1]) fX8_init_102 (by decide +kernel) rfl (Nat.le_of_ble_eq_true rfl) (Nat.le_of_ble_eq_true rfl) rfl
theorem fX8_init_105 : ft 69 105 = some (.putfield 53, 8, 9, 230, .null) := by decide +kernel
theorem gX8_init_105 {L : List (Option Value)} {p : Nat} {u : Nat} (hp : p ≠ 0) {st : List Value} {H : HP} {Q : Option Value → HP → Prop} : Go 69 105 L (.ref u :: .ref p :: st) H Q ↔ Wr (pF' 8 9 (hget H p) (.ref u)) p 69 108 L st H Q := G_putf fX8_init_105 ⟨⟨rfl, rfl⟩, rfl, Or.inr (by decide +kernel)⟩ hp
theorem fX8_init_108 : ft 69 108 = some (.aload_n 0, 0, 0, 0, .null) := by decide +kernel
theorem gX8_init_108  {u : Nat} {st : List Value} {H : HP} {Q : Option Value → HP → Prop} : Go 69 108 [some (.ref u)] st H Q ↔ Go 69 109 [some (.ref u)] (.ref u :: st) H Q := G_aload_n fX8_init_108 rfl
theorem fX8_init_109 : ft 69 109 = some (.bipush 64, 0, 0, 0, .null) := by decide +kernel
theorem gX8_init_109 {L : List (Option Value)} {st : List Value} {H : HP} {Q : Option Value → HP → Prop} : Go 69 109 L st H Q ↔ Go 69 111 L (vi 64 :: st) H Q := G_bipush fX8_init_109 (by decide)
theorem fX8_init_111 : ft 69 111 = some (.newarray .long, 0, 0, 0, .null) := by decide +kernel
theorem gX8_init_111 {L : List (Option Value)} {a : Int} (c : 0 ≤ a ∧ a ≤ 1000000) {st : List Value} {H : HP} {Q : Option Value → HP → Prop} : Go 69 111 L (vi a :: st) H Q ↔ Go 69 113 L (.ref H.1 :: st) (hnew H (cL a fun _ => 0) a.toNat) Q := G_newL fX8_init_111 c
theorem fX8_init_113 : ft 69 113 = some (.putfield 56, 8, 10, 231, .null) := by decide +kernel
theorem gX8_init_113 {L : List (Option Value)} {p : Nat} {u : Nat} (hp : p ≠ 0) {st : List Value} {H : HP} {Q : Option Value → HP → Prop} : Go 69 113 L (.ref u :: .ref p :: st) H Q ↔ Wr (pF' 8 10 (hget H p) (.ref u)) p 69 116 L st H Q := G_putf fX8_init_113 ⟨⟨rfl, rfl⟩, rfl, Or.inr (by decide +kernel)⟩ hp
theorem fX8_init_116 : ft 69 116 = some (.aload_n 0, 0, 0, 0, .null) := by decide +kernel
theorem gX8_init_116  {u : Nat} {st : List Value} {H : HP} {Q : Option Value → HP → Prop} : Go 69 116 [some (.ref u)] st H Q ↔ Go 69 117 [some (.ref u)] (.ref u :: st) H Q := G_aload_n fX8_init_116 rfl
theorem fX8_init_117 : ft 69 117 = some (.bipush (-9), 0, 0, 0, .null) := by decide +kernel
theorem gX8_init_117 {L : List (Option Value)} {st : List Value} {H : HP} {Q : Option Value → HP → Prop} : Go 69 117 L st H Q ↔ Go 69 119 L (vi (-9) :: st) H Q := G_bipush fX8_init_117 (by decide)
theorem fX8_init_119 : ft 69 119 = some (.putfield 60, 8, 11, 232, .null) := by decide +kernel
theorem gX8_init_119 {L : List (Option Value)} {p : Nat} {u : Int32} (hp : p ≠ 0) {st : List Value} {H : HP} {Q : Option Value → HP → Prop} : Go 69 119 L (.int u :: .ref p :: st) H Q ↔ Wr (pF' 8 11 (hget H p) (.int u)) p 69 122 L st H Q := G_putf fX8_init_119 ⟨⟨rfl, rfl⟩, rfl, Or.inl rfl⟩ hp
theorem fX8_init_122 : ft 69 122 = some (.aload_n 0, 0, 0, 0, .null) := by decide +kernel
theorem gX8_init_122  {u : Nat} {st : List Value} {H : HP} {Q : Option Value → HP → Prop} : Go 69 122 [some (.ref u)] st H Q ↔ Go 69 123 [some (.ref u)] (.ref u :: st) H Q := G_aload_n fX8_init_122 rfl
theorem fX8_init_123 : ft 69 123 = some (.iconst 0, 0, 0, 0, .null) := by decide +kernel
theorem gX8_init_123 {L : List (Option Value)} {st : List Value} {H : HP} {Q : Option Value → HP → Prop} : Go 69 123 L st H Q ↔ Go 69 124 L (vi 0 :: st) H Q := G_iconst fX8_init_123
theorem fX8_init_124 : ft 69 124 = some (.putfield 64, 8, 12, 233, .null) := by decide +kernel
theorem gX8_init_124 {L : List (Option Value)} {p : Nat} {u : Int32} (hp : p ≠ 0) {st : List Value} {H : HP} {Q : Option Value → HP → Prop} : Go 69 124 L (.int u :: .ref p :: st) H Q ↔ Wr (pF' 8 12 (hget H p) (.int u)) p 69 127 L st H Q := G_putf fX8_init_124 ⟨⟨rfl, rfl⟩, rfl, Or.inl rfl⟩ hp
theorem fX8_init_127 : ft 69 127 = some (.aload_n 0, 0, 0, 0, .null) := by decide +kernel
theorem gX8_init_127  {u : Nat} {st : List Value} {H : HP} {Q : Option Value → HP → Prop} : Go 69 127 [some (.ref u)] st H Q ↔ Go 69 128 [some (.ref u)] (.ref u :: st) H Q := G_aload_n fX8_init_127 rfl
theorem fX8_init_128 : ft 69 128 = some (.getfield 17, 8, 1, 222, .null) := by decide +kernel
theorem gX8_init_128 {L : List (Option Value)} {p : Nat} {st : List Value} {H : HP} {Q : Option Value → HP → Prop} : Go 69 128 L (.ref p :: st) H Q ↔ Rd (gF' 8 1 (hget H p)) 69 131 L st H Q := G_getf fX8_init_128 ⟨rfl, rfl⟩
theorem fX8_init_131 : ft 69 131 = some (.iconst 0, 0, 0, 0, .null) := by decide +kernel
theorem gX8_init_131 {L : List (Option Value)} {st : List Value} {H : HP} {Q : Option Value → HP → Prop} : Go 69 131 L st H Q ↔ Go 69 132 L (vi 0 :: st) H Q := G_iconst fX8_init_131
theorem fX8_init_132 : ft 69 132 = some (.new 15, 3, 0, 54, .null) := by decide +kernel
theorem gX8_init_132 {L : List (Option Value)} {st : List Value} {H : HP} {Q : Option Value → HP → Prop} : Go 69 132 L st H Q ↔ Go 69 135 L (.ref H.1 :: st) (hnew H (cO 3 [.long 0]) 1) Q := G_new fX8_init_132 (by decide +kernel)
theorem fX8_init_135 : ft 69 135 = some (.dup, 0, 0, 0, .null) := by decide +kernel
theorem gX8_init_135 {L : List (Option Value)} {u : Nat} {st : List Value} {H : HP} {Q : Option Value → HP → Prop} : Go 69 135 L (.ref u :: st) H Q ↔ Go 69 136 L (.ref u :: .ref u :: st) H Q := G_dup fX8_init_135 rfl
theorem fX8_init_136 : ft 69 136 = some (.ldc2_w 67, 0, 0, 118, .long (998244353)) := by decide +kernel
theorem gX8_init_136 {L : List (Option Value)} {st : List Value} {H : HP} {Q : Option Value → HP → Prop} : Go 69 136 L st H Q ↔ Go 69 139 L (vl (998244353) :: st) H Q := G_ldcl fX8_init_136 (by decide +kernel)
theorem fX8_init_139 : ft 69 139 = some (.invokespecial 69, 28, 0, 119, .null) := by decide +kernel
theorem gX8_init_139 {L : List (Option Value)} {p : Nat} {a0 : Int64} {r0 : Nat} {r1 : Int32} {r2 : Nat} {H : HP} {Q : Option Value → HP → Prop} : Go 69 139 L (.long a0 :: .ref p :: [.ref r0, .int r1, .ref r2]) H Q ↔ Go 28 0 [some (.ref p), some (.long a0), none] [] H (Cont 69 142 L [.ref r0, .int r1, .ref r2] Q) := G_cI (n := 1) (N := 3) (as := [.long a0]) (st := [.ref r0, .int r1, .ref r2]) fX8_init_139 (by decide +kernel) rfl (Nat.le_of_ble_eq_true rfl) (Nat.le_of_ble_eq_true rfl) rfl
theorem fX8_init_142 : ft 69 142 = some (.aastore, 0, 0, 0, .null) := by decide +kernel
theorem gX8_init_142 {L : List (Option Value)} {p : Nat} {a : Int} {b : Nat} (hp : p ≠ 0) {st : List Value} {H : HP} {Q : Option Value → HP → Prop} : Go 69 142 L (.ref b :: vi a :: .ref p :: st) H Q ↔ Wr (sR' (hget H p) a b (hget H b)) p 69 143 L st H Q := G_aast fX8_init_142 hp
theorem fX8_init_143 : ft 69 143 = some (.aload_n 0, 0, 0, 0, .null) := by decide +kernel
theorem gX8_init_143  {u : Nat} {st : List Value} {H : HP} {Q : Option Value → HP → Prop} : Go 69 143 [some (.ref u)] st H Q ↔ Go 69 144 [some (.ref u)] (.ref u :: st) H Q := G_aload_n fX8_init_143 rfl
theorem fX8_init_144 : ft 69 144 = some (.getfield 17, 8, 1, 222, .null) := by decide +kernel
theorem gX8_init_144 {L : List (Option Value)} {p : Nat} {st : List Value} {H : HP} {Q : Option Value → HP → Prop} : Go 69 144 L (.ref p :: st) H Q ↔ Rd (gF' 8 1 (hget H p)) 69 147 L st H Q := G_getf fX8_init_144 ⟨rfl, rfl⟩
theorem fX8_init_147 : ft 69 147 = some (.iconst 1, 0, 0, 0, .null) := by decide +kernel
theorem gX8_init_147 {L : List (Option Value)} {st : List Value} {H : HP} {Q : Option Value → HP → Prop} : Go 69 147 L st H Q ↔ Go 69 148 L (vi 1 :: st) H Q := G_iconst fX8_init_147
theorem fX8_init_148 : ft 69 148 = some (.new 15, 3, 0, 54, .null) := by decide +kernel
theorem gX8_init_148 {L : List (Option Value)} {st : List Value} {H : HP} {Q : Option Value → HP → Prop} : Go 69 148 L st H Q ↔ Go 69 151 L (.ref H.1 :: st) (hnew H (cO 3 [.long 0]) 1) Q := G_new fX8_init_148 (by decide +kernel)
theorem fX8_init_151 : ft 69 151 = some (.dup, 0, 0, 0, .null) := by decide +kernel
theorem gX8_init_151 {L : List (Option Value)} {u : Nat} {st : List Value} {H : HP} {Q : Option Value → HP → Prop} : Go 69 151 L (.ref u :: st) H Q ↔ Go 69 152 L (.ref u :: .ref u :: st) H Q := G_dup fX8_init_151 rfl
theorem fX8_init_152 : ft 69 152 = some (.ldc2_w 72, 0, 0, 127, .long (1004535809)) := by decide +kernel
theorem gX8_init_152 {L : List (Option Value)} {st : List Value} {H : HP} {Q : Option Value → HP → Prop} : Go 69 152 L st H Q ↔ Go 69 155 L (vl (1004535809) :: st) H Q := G_ldcl fX8_init_152 (by decide +kernel)
theorem fX8_init_155 : ft 69 155 = some (.invokespecial 69, 28, 0, 119, .null) := by decide +kernel
theorem gX8_init_155 {L : List (Option Value)} {p : Nat} {a0 : Int64} {r0 : Nat} {r1 : Int32} {r2 : Nat} {H : HP} {Q : Option Value → HP → Prop} : Go 69 155 L (.long a0 :: .ref p :: [.ref r0, .int r1, .ref r2]) H Q ↔ Go 28 0 [some (.ref p), some (.long a0), none] [] H (Cont 69 158 L [.ref r0, .int r1, .ref r2] Q) := G_cI (n := 1) (N := 3) (as := [.long a0]) (st := [.ref r0, .int r1, .ref r2]) fX8_init_155 (by decide +kernel) rfl (Nat.le_of_ble_eq_true rfl) (Nat.le_of_ble_eq_true rfl) rfl
theorem fX8_init_158 : ft 69 158 = some (.aastore, 0, 0, 0, .null) := by decide +kernel
theorem gX8_init_158 {L : List (Option Value)} {p : Nat} {a : Int} {b : Nat} (hp : p ≠ 0) {st : List Value} {H : HP} {Q : Option Value → HP → Prop} : Go 69 158 L (.ref b :: vi a :: .ref p :: st) H Q ↔ Wr (sR' (hget H p) a b (hget H b)) p 69 159 L st H Q := G_aast fX8_init_158 hp
theorem fX8_init_159 : ft 69 159 = some (.aload_n 0, 0, 0, 0, .null) := by decide +kernel
theorem gX8_init_159  {u : Nat} {st : List Value} {H : HP} {Q : Option Value → HP → Prop} : Go 69 159 [some (.ref u)] st H Q ↔ Go 69 160 [some (.ref u)] (.ref u :: st) H Q := G_aload_n fX8_init_159 rfl
theorem fX8_init_160 : ft 69 160 = some (.getfield 17, 8, 1, 222, .null) := by decide +kernel
theorem gX8_init_160 {L : List (Option Value)} {p : Nat} {st : List Value} {H : HP} {Q : Option Value → HP → Prop} : Go 69 160 L (.ref p :: st) H Q ↔ Rd (gF' 8 1 (hget H p)) 69 163 L st H Q := G_getf fX8_init_160 ⟨rfl, rfl⟩
theorem fX8_init_163 : ft 69 163 = some (.iconst 2, 0, 0, 0, .null) := by decide +kernel
theorem gX8_init_163 {L : List (Option Value)} {st : List Value} {H : HP} {Q : Option Value → HP → Prop} : Go 69 163 L st H Q ↔ Go 69 164 L (vi 2 :: st) H Q := G_iconst fX8_init_163
theorem fX8_init_164 : ft 69 164 = some (.new 15, 3, 0, 54, .null) := by decide +kernel
theorem gX8_init_164 {L : List (Option Value)} {st : List Value} {H : HP} {Q : Option Value → HP → Prop} : Go 69 164 L st H Q ↔ Go 69 167 L (.ref H.1 :: st) (hnew H (cO 3 [.long 0]) 1) Q := G_new fX8_init_164 (by decide +kernel)
theorem fX8_init_167 : ft 69 167 = some (.dup, 0, 0, 0, .null) := by decide +kernel
theorem gX8_init_167 {L : List (Option Value)} {u : Nat} {st : List Value} {H : HP} {Q : Option Value → HP → Prop} : Go 69 167 L (.ref u :: st) H Q ↔ Go 69 168 L (.ref u :: .ref u :: st) H Q := G_dup fX8_init_167 rfl
theorem fX8_init_168 : ft 69 168 = some (.ldc2_w 74, 0, 0, 128, .long (469762049)) := by decide +kernel
theorem gX8_init_168 {L : List (Option Value)} {st : List Value} {H : HP} {Q : Option Value → HP → Prop} : Go 69 168 L st H Q ↔ Go 69 171 L (vl (469762049) :: st) H Q := G_ldcl fX8_init_168 (by decide +kernel)
theorem fX8_init_171 : ft 69 171 = some (.invokespecial 69, 28, 0, 119, .null) := by decide +kernel
theorem gX8_init_171 {L : List (Option Value)} {p : Nat} {a0 : Int64} {r0 : Nat} {r1 : Int32} {r2 : Nat} {H : HP} {Q : Option Value → HP → Prop} : Go 69 171 L (.long a0 :: .ref p :: [.ref r0, .int r1, .ref r2]) H Q ↔ Go 28 0 [some (.ref p), some (.long a0), none] [] H (Cont 69 174 L [.ref r0, .int r1, .ref r2] Q) := G_cI (n := 1) (N := 3) (as := [.long a0]) (st := [.ref r0, .int r1, .ref r2]) fX8_init_171 (by decide +kernel) rfl (Nat.le_of_ble_eq_true rfl) (Nat.le_of_ble_eq_true rfl) rfl
theorem fX8_init_174 : ft 69 174 = some (.aastore, 0, 0, 0, .null) := by decide +kernel
theorem gX8_init_174 {L : List (Option Value)} {p : Nat} {a : Int} {b : Nat} (hp : p ≠ 0) {st : List Value} {H : HP} {Q : Option Value → HP → Prop} : Go 69 174 L (.ref b :: vi a :: .ref p :: st) H Q ↔ Wr (sR' (hget H p) a b (hget H b)) p 69 175 L st H Q := G_aast fX8_init_174 hp
theorem fX8_init_175 : ft 69 175 = some (.aload_n 0, 0, 0, 0, .null) := by decide +kernel
theorem gX8_init_175  {u : Nat} {st : List Value} {H : HP} {Q : Option Value → HP → Prop} : Go 69 175 [some (.ref u)] st H Q ↔ Go 69 176 [some (.ref u)] (.ref u :: st) H Q := G_aload_n fX8_init_175 rfl
theorem fX8_init_176 : ft 69 176 = some (.new 76, 4, 0, 129, .null) := by decide +kernel
theorem gX8_init_176 {L : List (Option Value)} {st : List Value} {H : HP} {Q : Option Value → HP → Prop} : Go 69 176 L st H Q ↔ Go 69 179 L (.ref H.1 :: st) (hnew H (cO 4 [.null, .null, .int 0, .null, .null, .null, .null, .long 0, .long 0]) 9) Q := G_new fX8_init_176 (by decide +kernel)
theorem fX8_init_179 : ft 69 179 = some (.dup, 0, 0, 0, .null) := by decide +kernel
theorem gX8_init_179 {L : List (Option Value)} {u : Nat} {st : List Value} {H : HP} {Q : Option Value → HP → Prop} : Go 69 179 L (.ref u :: st) H Q ↔ Go 69 180 L (.ref u :: .ref u :: st) H Q := G_dup fX8_init_179 rfl
theorem fX8_init_180 : ft 69 180 = some (.aload_n 0, 0, 0, 0, .null) := by decide +kernel
theorem gX8_init_180  {u : Nat} {st : List Value} {H : HP} {Q : Option Value → HP → Prop} : Go 69 180 [some (.ref u)] st H Q ↔ Go 69 181 [some (.ref u)] (.ref u :: st) H Q := G_aload_n fX8_init_180 rfl
theorem fX8_init_181 : ft 69 181 = some (.getfield 17, 8, 1, 222, .null) := by decide +kernel
theorem gX8_init_181 {L : List (Option Value)} {p : Nat} {st : List Value} {H : HP} {Q : Option Value → HP → Prop} : Go 69 181 L (.ref p :: st) H Q ↔ Rd (gF' 8 1 (hget H p)) 69 184 L st H Q := G_getf fX8_init_181 ⟨rfl, rfl⟩
theorem fX8_init_184 : ft 69 184 = some (.iconst 0, 0, 0, 0, .null) := by decide +kernel
theorem gX8_init_184 {L : List (Option Value)} {st : List Value} {H : HP} {Q : Option Value → HP → Prop} : Go 69 184 L st H Q ↔ Go 69 185 L (vi 0 :: st) H Q := G_iconst fX8_init_184
theorem fX8_init_185 : ft 69 185 = some (.aaload, 0, 0, 0, .null) := by decide +kernel
theorem gX8_init_185 {L : List (Option Value)} {p : Nat} {a : Int} {st : List Value} {H : HP} {Q : Option Value → HP → Prop} : Go 69 185 L (vi a :: .ref p :: st) H Q ↔ Rd (aR' (hget H p) a) 69 186 L st H Q := G_aald fX8_init_185
theorem fX8_init_186 : ft 69 186 = some (.aload_n 0, 0, 0, 0, .null) := by decide +kernel
theorem gX8_init_186  {u : Nat} {st : List Value} {H : HP} {Q : Option Value → HP → Prop} : Go 69 186 [some (.ref u)] st H Q ↔ Go 69 187 [some (.ref u)] (.ref u :: st) H Q := G_aload_n fX8_init_186 rfl
theorem fX8_init_187 : ft 69 187 = some (.getfield 17, 8, 1, 222, .null) := by decide +kernel
theorem gX8_init_187 {L : List (Option Value)} {p : Nat} {st : List Value} {H : HP} {Q : Option Value → HP → Prop} : Go 69 187 L (.ref p :: st) H Q ↔ Rd (gF' 8 1 (hget H p)) 69 190 L st H Q := G_getf fX8_init_187 ⟨rfl, rfl⟩
theorem fX8_init_190 : ft 69 190 = some (.iconst 1, 0, 0, 0, .null) := by decide +kernel
theorem gX8_init_190 {L : List (Option Value)} {st : List Value} {H : HP} {Q : Option Value → HP → Prop} : Go 69 190 L st H Q ↔ Go 69 191 L (vi 1 :: st) H Q := G_iconst fX8_init_190
theorem fX8_init_191 : ft 69 191 = some (.aaload, 0, 0, 0, .null) := by decide +kernel
theorem gX8_init_191 {L : List (Option Value)} {p : Nat} {a : Int} {st : List Value} {H : HP} {Q : Option Value → HP → Prop} : Go 69 191 L (vi a :: .ref p :: st) H Q ↔ Rd (aR' (hget H p) a) 69 192 L st H Q := G_aald fX8_init_191
theorem fX8_init_192 : ft 69 192 = some (.aload_n 0, 0, 0, 0, .null) := by decide +kernel
theorem gX8_init_192  {u : Nat} {st : List Value} {H : HP} {Q : Option Value → HP → Prop} : Go 69 192 [some (.ref u)] st H Q ↔ Go 69 193 [some (.ref u)] (.ref u :: st) H Q := G_aload_n fX8_init_192 rfl
theorem fX8_init_193 : ft 69 193 = some (.getfield 17, 8, 1, 222, .null) := by decide +kernel
theorem gX8_init_193 {L : List (Option Value)} {p : Nat} {st : List Value} {H : HP} {Q : Option Value → HP → Prop} : Go 69 193 L (.ref p :: st) H Q ↔ Rd (gF' 8 1 (hget H p)) 69 196 L st H Q := G_getf fX8_init_193 ⟨rfl, rfl⟩
theorem fX8_init_196 : ft 69 196 = some (.iconst 2, 0, 0, 0, .null) := by decide +kernel
theorem gX8_init_196 {L : List (Option Value)} {st : List Value} {H : HP} {Q : Option Value → HP → Prop} : Go 69 196 L st H Q ↔ Go 69 197 L (vi 2 :: st) H Q := G_iconst fX8_init_196
theorem fX8_init_197 : ft 69 197 = some (.aaload, 0, 0, 0, .null) := by decide +kernel
theorem gX8_init_197 {L : List (Option Value)} {p : Nat} {a : Int} {st : List Value} {H : HP} {Q : Option Value → HP → Prop} : Go 69 197 L (vi a :: .ref p :: st) H Q ↔ Rd (aR' (hget H p) a) 69 198 L st H Q := G_aald fX8_init_197
theorem fX8_init_198 : ft 69 198 = some (.invokespecial 78, 41, 0, 131, .null) := by decide +kernel
theorem gX8_init_198 {L : List (Option Value)} {p : Nat} {a0 : Nat} {a1 : Nat} {a2 : Nat} {r0 : Nat} {r1 : Nat} {H : HP} {Q : Option Value → HP → Prop} : Go 69 198 L (.ref a2 :: .ref a1 :: .ref a0 :: .ref p :: [.ref r0, .ref r1]) H Q ↔ Go 41 0 [some (.ref p), some (.ref a0), some (.ref a1), some (.ref a2)] [] H (Cont 69 201 L [.ref r0, .ref r1] Q) := G_cI (n := 3) (N := 4) (as := [.ref a2, .ref a1, .ref a0]) (st := [.ref r0, .ref r1]) fX8_init_198 (by decide +kernel) rfl (Nat.le_of_ble_eq_true rfl) (Nat.le_of_ble_eq_true rfl) rfl
theorem fX8_init_201 : ft 69 201 = some (.putfield 81, 8, 2, 223, .null) := by decide +kernel
theorem gX8_init_201 {L : List (Option Value)} {p : Nat} {u : Nat} (hp : p ≠ 0) {st : List Value} {H : HP} {Q : Option Value → HP → Prop} : Go 69 201 L (.ref u :: .ref p :: st) H Q ↔ Wr (pF' 8 2 (hget H p) (.ref u)) p 69 204 L st H Q := G_putf fX8_init_201 ⟨⟨rfl, rfl⟩, rfl, Or.inr (by decide +kernel)⟩ hp
theorem fX8_init_204 : ft 69 204 = some (.return_, 0, 0, 0, .null) := by decide +kernel
theorem gX8_init_204 {L : List (Option Value)} {H : HP} {Q : Option Value → HP → Prop} : Go 69 204 L [] H Q ↔ Q none H := G_vret fX8_init_204 (by decide +kernel)
theorem fX8_row_0 : ft 70 0 = some (.aload_n 0, 0, 0, 0, .null) := by decide +kernel
theorem gX8_row_0 {l1 l2 l3 : Option Value} {u : Nat} {st : List Value} {H : HP} {Q : Option Value → HP → Prop} : Go 70 0 [some (.ref u), l1, l2, l3] st H Q ↔ Go 70 1 [some (.ref u), l1, l2, l3] (.ref u :: st) H Q := G_aload_n fX8_row_0 rfl
theorem fX8_row_1 : ft 70 1 = some (.iconst 0, 0, 0, 0, .null) := by decide +kernel
theorem gX8_row_1 {L : List (Option Value)} {st : List Value} {H : HP} {Q : Option Value → HP → Prop} : Go 70 1 L st H Q ↔ Go 70 2 L (vi 0 :: st) H Q := G_iconst fX8_row_1
theorem fX8_row_2 : ft 70 2 = some (.putfield 64, 8, 12, 233, .null) := by decide +kernel
theorem gX8_row_2 {L : List (Option Value)} {p : Nat} {u : Int32} (hp : p ≠ 0) {st : List Value} {H : HP} {Q : Option Value → HP → Prop} : Go 70 2 L (.int u :: .ref p :: st) H Q ↔ Wr (pF' 8 12 (hget H p) (.int u)) p 70 5 L st H Q := G_putf fX8_row_2 ⟨⟨rfl, rfl⟩, rfl, Or.inl rfl⟩ hp
theorem fX8_row_5 : ft 70 5 = some (.iload_n 1, 0, 0, 0, .null) := by decide +kernel
theorem gX8_row_5 {l0 l2 l3 : Option Value} {u : Int32} {st : List Value} {H : HP} {Q : Option Value → HP → Prop} : Go 70 5 [l0, some (.int u), l2, l3] st H Q ↔ Go 70 6 [l0, some (.int u), l2, l3] (.int u :: st) H Q := G_iload_n fX8_row_5 rfl
theorem fX8_row_6 : ft 70 6 = some (.invokestatic 85, 108, 0, 265, .null) := by decide +kernel
theorem gX8_row_6 {L : List (Option Value)} {a0 : Int32}  {H : HP} {Q : Option Value → HP → Prop} : Go 70 6 L (.int a0 :: []) H Q ↔ Go 108 0 [some (.int a0)] [] H (Cont 70 9 L [] Q) := G_cS (n := 1) (N := 1) (as := [.int a0]) (st := []) fX8_row_6 (by decide +kernel) rfl (Nat.le_of_ble_eq_true rfl) (Nat.le_of_ble_eq_true rfl) rfl
theorem fX8_row_9 : ft 70 9 = some (.ifCond .ne 5, 0, 0, 0, .null) := by decide +kernel
theorem gX8_row_9T {L : List (Option Value)} {a : Int} (c : (-2147483648 ≤ a ∧ a ≤ 2147483647) ∧ ¬ a = 0) {st : List Value} {H : HP} {Q : Option Value → HP → Prop} : Go 70 9 L (vi a :: st) H Q ↔ Go 70 14 L st H Q := G_ifT fX8_row_9 (by decide) c
theorem gX8_row_9F {L : List (Option Value)} {a : Int} (c : (-2147483648 ≤ a ∧ a ≤ 2147483647) ∧ ¬ (¬ a = 0)) {st : List Value} {H : HP} {Q : Option Value → HP → Prop} : Go 70 9 L (vi a :: st) H Q ↔ Go 70 12 L st H Q := G_ifF (tg := 14) fX8_row_9 (by decide) c
theorem fX8_row_12 : ft 70 12 = some (.iconst (-1), 0, 0, 0, .null) := by decide +kernel
theorem gX8_row_12 {L : List (Option Value)} {st : List Value} {H : HP} {Q : Option Value → HP → Prop} : Go 70 12 L st H Q ↔ Go 70 13 L (vi (-1) :: st) H Q := G_iconst fX8_row_12
theorem fX8_row_13 : ft 70 13 = some (.ireturn, 0, 0, 0, .null) := by decide +kernel
theorem gX8_row_13 {L : List (Option Value)} {u : Int32} {H : HP} {Q : Option Value → HP → Prop} : Go 70 13 L [.int u] H Q ↔ Q (some (.int u)) H := G_iret fX8_row_13 (by decide +kernel)
theorem fX8_row_14 : ft 70 14 = some (.iload_n 2, 0, 0, 0, .null) := by decide +kernel
theorem gX8_row_14 {l0 l1 l3 : Option Value} {u : Int32} {st : List Value} {H : HP} {Q : Option Value → HP → Prop} : Go 70 14 [l0, l1, some (.int u), l3] st H Q ↔ Go 70 15 [l0, l1, some (.int u), l3] (.int u :: st) H Q := G_iload_n fX8_row_14 rfl
theorem fX8_row_15 : ft 70 15 = some (.invokestatic 89, 110, 0, 268, .null) := by decide +kernel
theorem gX8_row_15 {L : List (Option Value)} {a0 : Int32}  {H : HP} {Q : Option Value → HP → Prop} : Go 70 15 L (.int a0 :: []) H Q ↔ Go 110 0 [some (.int a0)] [] H (Cont 70 18 L [] Q) := G_cS (n := 1) (N := 1) (as := [.int a0]) (st := []) fX8_row_15 (by decide +kernel) rfl (Nat.le_of_ble_eq_true rfl) (Nat.le_of_ble_eq_true rfl) rfl
theorem fX8_row_18 : ft 70 18 = some (.ifCond .eq 13, 0, 0, 0, .null) := by decide +kernel
theorem gX8_row_18T {L : List (Option Value)} {a : Int} (c : (-2147483648 ≤ a ∧ a ≤ 2147483647) ∧ a = 0) {st : List Value} {H : HP} {Q : Option Value → HP → Prop} : Go 70 18 L (vi a :: st) H Q ↔ Go 70 31 L st H Q := G_ifT fX8_row_18 (by decide) c
theorem gX8_row_18F {L : List (Option Value)} {a : Int} (c : (-2147483648 ≤ a ∧ a ≤ 2147483647) ∧ ¬ (a = 0)) {st : List Value} {H : HP} {Q : Option Value → HP → Prop} : Go 70 18 L (vi a :: st) H Q ↔ Go 70 21 L st H Q := G_ifF (tg := 31) fX8_row_18 (by decide) c
theorem fX8_row_21 : ft 70 21 = some (.iload_n 3, 0, 0, 0, .null) := by decide +kernel
theorem gX8_row_21 {l0 l1 l2 : Option Value} {u : Int32} {st : List Value} {H : HP} {Q : Option Value → HP → Prop} : Go 70 21 [l0, l1, l2, some (.int u)] st H Q ↔ Go 70 22 [l0, l1, l2, some (.int u)] (.int u :: st) H Q := G_iload_n fX8_row_21 rfl
theorem fX8_row_22 : ft 70 22 = some (.ifCond .eq 9, 0, 0, 0, .null) := by decide +kernel
theorem gX8_row_22T {L : List (Option Value)} {a : Int} (c : (-2147483648 ≤ a ∧ a ≤ 2147483647) ∧ a = 0) {st : List Value} {H : HP} {Q : Option Value → HP → Prop} : Go 70 22 L (vi a :: st) H Q ↔ Go 70 31 L st H Q := G_ifT fX8_row_22 (by decide) c
theorem gX8_row_22F {L : List (Option Value)} {a : Int} (c : (-2147483648 ≤ a ∧ a ≤ 2147483647) ∧ ¬ (a = 0)) {st : List Value} {H : HP} {Q : Option Value → HP → Prop} : Go 70 22 L (vi a :: st) H Q ↔ Go 70 25 L st H Q := G_ifF (tg := 31) fX8_row_22 (by decide) c
theorem fX8_row_25 : ft 70 25 = some (.iload_n 3, 0, 0, 0, .null) := by decide +kernel
theorem gX8_row_25 {l0 l1 l2 : Option Value} {u : Int32} {st : List Value} {H : HP} {Q : Option Value → HP → Prop} : Go 70 25 [l0, l1, l2, some (.int u)] st H Q ↔ Go 70 26 [l0, l1, l2, some (.int u)] (.int u :: st) H Q := G_iload_n fX8_row_25 rfl
theorem fX8_row_26 : ft 70 26 = some (.bipush 64, 0, 0, 0, .null) := by decide +kernel
theorem gX8_row_26 {L : List (Option Value)} {st : List Value} {H : HP} {Q : Option Value → HP → Prop} : Go 70 26 L st H Q ↔ Go 70 28 L (vi 64 :: st) H Q := G_bipush fX8_row_26 (by decide)
theorem fX8_row_28 : ft 70 28 = some (.if_icmp .le 6, 0, 0, 0, .null) := by decide +kernel
theorem gX8_row_28T {L : List (Option Value)} {a b : Int} (c : (-2147483648 ≤ a ∧ a ≤ 2147483647 ∧ -2147483648 ≤ b ∧ b ≤ 2147483647) ∧ a ≤ b) {st : List Value} {H : HP} {Q : Option Value → HP → Prop} : Go 70 28 L (vi b :: vi a :: st) H Q ↔ Go 70 34 L st H Q := G_icT fX8_row_28 (by decide) c
theorem gX8_row_28F {L : List (Option Value)} {a b : Int} (c : (-2147483648 ≤ a ∧ a ≤ 2147483647 ∧ -2147483648 ≤ b ∧ b ≤ 2147483647) ∧ ¬ (a ≤ b)) {st : List Value} {H : HP} {Q : Option Value → HP → Prop} : Go 70 28 L (vi b :: vi a :: st) H Q ↔ Go 70 31 L st H Q := G_icF (tg := 34) fX8_row_28 (by decide) c
theorem fX8_row_31 : ft 70 31 = some (.bipush (-2), 0, 0, 0, .null) := by decide +kernel
theorem gX8_row_31 {L : List (Option Value)} {st : List Value} {H : HP} {Q : Option Value → HP → Prop} : Go 70 31 L st H Q ↔ Go 70 33 L (vi (-2) :: st) H Q := G_bipush fX8_row_31 (by decide)
theorem fX8_row_33 : ft 70 33 = some (.ireturn, 0, 0, 0, .null) := by decide +kernel
theorem gX8_row_33 {L : List (Option Value)} {u : Int32} {H : HP} {Q : Option Value → HP → Prop} : Go 70 33 L [.int u] H Q ↔ Q (some (.int u)) H := G_iret fX8_row_33 (by decide +kernel)
theorem fX8_row_34 : ft 70 34 = some (.iload_n 3, 0, 0, 0, .null) := by decide +kernel
theorem gX8_row_34 {l0 l1 l2 : Option Value} {u : Int32} {st : List Value} {H : HP} {Q : Option Value → HP → Prop} : Go 70 34 [l0, l1, l2, some (.int u)] st H Q ↔ Go 70 35 [l0, l1, l2, some (.int u)] (.int u :: st) H Q := G_iload_n fX8_row_34 rfl
theorem fX8_row_35 : ft 70 35 = some (.ifCond .ge 9, 0, 0, 0, .null) := by decide +kernel
theorem gX8_row_35T {L : List (Option Value)} {a : Int} (c : (-2147483648 ≤ a ∧ a ≤ 2147483647) ∧ 0 ≤ a) {st : List Value} {H : HP} {Q : Option Value → HP → Prop} : Go 70 35 L (vi a :: st) H Q ↔ Go 70 44 L st H Q := G_ifT fX8_row_35 (by decide) c
theorem gX8_row_35F {L : List (Option Value)} {a : Int} (c : (-2147483648 ≤ a ∧ a ≤ 2147483647) ∧ ¬ (0 ≤ a)) {st : List Value} {H : HP} {Q : Option Value → HP → Prop} : Go 70 35 L (vi a :: st) H Q ↔ Go 70 38 L st H Q := G_ifF (tg := 44) fX8_row_35 (by decide) c
theorem fX8_row_38 : ft 70 38 = some (.aload_n 0, 0, 0, 0, .null) := by decide +kernel
theorem gX8_row_38 {l1 l2 l3 : Option Value} {u : Nat} {st : List Value} {H : HP} {Q : Option Value → HP → Prop} : Go 70 38 [some (.ref u), l1, l2, l3] st H Q ↔ Go 70 39 [some (.ref u), l1, l2, l3] (.ref u :: st) H Q := G_aload_n fX8_row_38 rfl
theorem fX8_row_39 : ft 70 39 = some (.iconst 4, 0, 0, 0, .null) := by decide +kernel
theorem gX8_row_39 {L : List (Option Value)} {st : List Value} {H : HP} {Q : Option Value → HP → Prop} : Go 70 39 L st H Q ↔ Go 70 40 L (vi 4 :: st) H Q := G_iconst fX8_row_39
theorem fX8_row_40 : ft 70 40 = some (.invokevirtual 92, 105, 0, 271, .null) := by decide +kernel
theorem gX8_row_40 {L : List (Option Value)} {p : Nat} {a0 : Int32}  {H : HP} {Q : Option Value → HP → Prop} : Go 70 40 L (.int a0 :: .ref p :: []) H Q ↔ (iso 8 (hget H p) = true ∧ Go 105 0 [some (.ref p), some (.int a0)] [] H (Cont 70 43 L [] Q)) := G_cV (n := 1) (N := 2) (as := [.int a0]) (st := []) fX8_row_40 (by decide +kernel) rfl (Nat.le_of_ble_eq_true rfl) (Nat.le_of_ble_eq_true rfl) rfl
theorem fX8_row_43 : ft 70 43 = some (.ireturn, 0, 0, 0, .null) := by decide +kernel
theorem gX8_row_43 {L : List (Option Value)} {u : Int32} {H : HP} {Q : Option Value → HP → Prop} : Go 70 43 L [.int u] H Q ↔ Q (some (.int u)) H := G_iret fX8_row_43 (by decide +kernel)
theorem fX8_row_44 : ft 70 44 = some (.aload_n 0, 0, 0, 0, .null) := by decide +kernel
theorem gX8_row_44 {l1 l2 l3 : Option Value} {u : Nat} {st : List Value} {H : HP} {Q : Option Value → HP → Prop} : Go 70 44 [some (.ref u), l1, l2, l3] st H Q ↔ Go 70 45 [some (.ref u), l1, l2, l3] (.ref u :: st) H Q := G_aload_n fX8_row_44 rfl
theorem fX8_row_45 : ft 70 45 = some (.getfield 11, 8, 0, 221, .null) := by decide +kernel
theorem gX8_row_45 {L : List (Option Value)} {p : Nat} {st : List Value} {H : HP} {Q : Option Value → HP → Prop} : Go 70 45 L (.ref p :: st) H Q ↔ Rd (gF' 8 0 (hget H p)) 70 48 L st H Q := G_getf fX8_row_45 ⟨rfl, rfl⟩
theorem fX8_row_48 : ft 70 48 = some (.iload_n 1, 0, 0, 0, .null) := by decide +kernel
theorem gX8_row_48 {l0 l2 l3 : Option Value} {u : Int32} {st : List Value} {H : HP} {Q : Option Value → HP → Prop} : Go 70 48 [l0, some (.int u), l2, l3] st H Q ↔ Go 70 49 [l0, some (.int u), l2, l3] (.int u :: st) H Q := G_iload_n fX8_row_48 rfl
theorem fX8_row_49 : ft 70 49 = some (.new 9, 5, 0, 52, .null) := by decide +kernel
theorem gX8_row_49 {L : List (Option Value)} {st : List Value} {H : HP} {Q : Option Value → HP → Prop} : Go 70 49 L st H Q ↔ Go 70 52 L (.ref H.1 :: st) (hnew H (cO 5 [.int 0, .null]) 2) Q := G_new fX8_row_49 (by decide +kernel)
theorem fX8_row_52 : ft 70 52 = some (.dup, 0, 0, 0, .null) := by decide +kernel
theorem gX8_row_52 {L : List (Option Value)} {u : Nat} {st : List Value} {H : HP} {Q : Option Value → HP → Prop} : Go 70 52 L (.ref u :: st) H Q ↔ Go 70 53 L (.ref u :: .ref u :: st) H Q := G_dup fX8_row_52 rfl
theorem fX8_row_53 : ft 70 53 = some (.iload_n 2, 0, 0, 0, .null) := by decide +kernel
theorem gX8_row_53 {l0 l1 l3 : Option Value} {u : Int32} {st : List Value} {H : HP} {Q : Option Value → HP → Prop} : Go 70 53 [l0, l1, some (.int u), l3] st H Q ↔ Go 70 54 [l0, l1, some (.int u), l3] (.int u :: st) H Q := G_iload_n fX8_row_53 rfl
theorem fX8_row_54 : ft 70 54 = some (.iload_n 3, 0, 0, 0, .null) := by decide +kernel
theorem gX8_row_54 {l0 l1 l2 : Option Value} {u : Int32} {st : List Value} {H : HP} {Q : Option Value → HP → Prop} : Go 70 54 [l0, l1, l2, some (.int u)] st H Q ↔ Go 70 55 [l0, l1, l2, some (.int u)] (.int u :: st) H Q := G_iload_n fX8_row_54 rfl
theorem fX8_row_55 : ft 70 55 = some (.invokespecial 96, 54, 0, 276, .null) := by decide +kernel
theorem gX8_row_55 {L : List (Option Value)} {p : Nat} {a0 : Int32} {a1 : Int32} {r0 : Nat} {r1 : Int32} {r2 : Nat} {H : HP} {Q : Option Value → HP → Prop} : Go 70 55 L (.int a1 :: .int a0 :: .ref p :: [.ref r0, .int r1, .ref r2]) H Q ↔ Go 54 0 [some (.ref p), some (.int a0), some (.int a1)] [] H (Cont 70 58 L [.ref r0, .int r1, .ref r2] Q) := G_cI (n := 2) (N := 3) (as := [.int a1, .int a0]) (st := [.ref r0, .int r1, .ref r2]) fX8_row_55 (by decide +kernel) rfl (Nat.le_of_ble_eq_true rfl) (Nat.le_of_ble_eq_true rfl) rfl
theorem fX8_row_58 : ft 70 58 = some (.aastore, 0, 0, 0, .null) := by decide +kernel
theorem gX8_row_58 {L : List (Option Value)} {p : Nat} {a : Int} {b : Nat} (hp : p ≠ 0) {st : List Value} {H : HP} {Q : Option Value → HP → Prop} : Go 70 58 L (.ref b :: vi a :: .ref p :: st) H Q ↔ Wr (sR' (hget H p) a b (hget H b)) p 70 59 L st H Q := G_aast fX8_row_58 hp
theorem fX8_row_59 : ft 70 59 = some (.iconst 1, 0, 0, 0, .null) := by decide +kernel
theorem gX8_row_59 {L : List (Option Value)} {st : List Value} {H : HP} {Q : Option Value → HP → Prop} : Go 70 59 L st H Q ↔ Go 70 60 L (vi 1 :: st) H Q := G_iconst fX8_row_59
theorem fX8_row_60 : ft 70 60 = some (.ireturn, 0, 0, 0, .null) := by decide +kernel
theorem gX8_row_60 {L : List (Option Value)} {u : Int32} {H : HP} {Q : Option Value → HP → Prop} : Go 70 60 L [.int u] H Q ↔ Q (some (.int u)) H := G_iret fX8_row_60 (by decide +kernel)
theorem fX8_share_0 : ft 71 0 = some (.iload_n 1, 0, 0, 0, .null) := by decide +kernel
theorem gX8_share_0 {l0 l2 : Option Value} {u : Int32} {st : List Value} {H : HP} {Q : Option Value → HP → Prop} : Go 71 0 [l0, some (.int u), l2] st H Q ↔ Go 71 1 [l0, some (.int u), l2] (.int u :: st) H Q := G_iload_n fX8_share_0 rfl
theorem fX8_share_1 : ft 71 1 = some (.invokestatic 85, 108, 0, 265, .null) := by decide +kernel
theorem gX8_share_1 {L : List (Option Value)} {a0 : Int32}  {H : HP} {Q : Option Value → HP → Prop} : Go 71 1 L (.int a0 :: []) H Q ↔ Go 108 0 [some (.int a0)] [] H (Cont 71 4 L [] Q) := G_cS (n := 1) (N := 1) (as := [.int a0]) (st := []) fX8_share_1 (by decide +kernel) rfl (Nat.le_of_ble_eq_true rfl) (Nat.le_of_ble_eq_true rfl) rfl
theorem fX8_share_4 : ft 71 4 = some (.ifCond .eq 10, 0, 0, 0, .null) := by decide +kernel
theorem gX8_share_4T {L : List (Option Value)} {a : Int} (c : (-2147483648 ≤ a ∧ a ≤ 2147483647) ∧ a = 0) {st : List Value} {H : HP} {Q : Option Value → HP → Prop} : Go 71 4 L (vi a :: st) H Q ↔ Go 71 14 L st H Q := G_ifT fX8_share_4 (by decide) c
theorem gX8_share_4F {L : List (Option Value)} {a : Int} (c : (-2147483648 ≤ a ∧ a ≤ 2147483647) ∧ ¬ (a = 0)) {st : List Value} {H : HP} {Q : Option Value → HP → Prop} : Go 71 4 L (vi a :: st) H Q ↔ Go 71 7 L st H Q := G_ifF (tg := 14) fX8_share_4 (by decide) c
theorem fX8_share_7 : ft 71 7 = some (.iload_n 2, 0, 0, 0, .null) := by decide +kernel
theorem gX8_share_7 {l0 l1 : Option Value} {u : Int32} {st : List Value} {H : HP} {Q : Option Value → HP → Prop} : Go 71 7 [l0, l1, some (.int u)] st H Q ↔ Go 71 8 [l0, l1, some (.int u)] (.int u :: st) H Q := G_iload_n fX8_share_7 rfl
theorem fX8_share_8 : ft 71 8 = some (.invokestatic 85, 108, 0, 265, .null) := by decide +kernel
theorem gX8_share_8 {L : List (Option Value)} {a0 : Int32}  {H : HP} {Q : Option Value → HP → Prop} : Go 71 8 L (.int a0 :: []) H Q ↔ Go 108 0 [some (.int a0)] [] H (Cont 71 11 L [] Q) := G_cS (n := 1) (N := 1) (as := [.int a0]) (st := []) fX8_share_8 (by decide +kernel) rfl (Nat.le_of_ble_eq_true rfl) (Nat.le_of_ble_eq_true rfl) rfl
theorem fX8_share_11 : ft 71 11 = some (.ifCond .ne 5, 0, 0, 0, .null) := by decide +kernel
theorem gX8_share_11T {L : List (Option Value)} {a : Int} (c : (-2147483648 ≤ a ∧ a ≤ 2147483647) ∧ ¬ a = 0) {st : List Value} {H : HP} {Q : Option Value → HP → Prop} : Go 71 11 L (vi a :: st) H Q ↔ Go 71 16 L st H Q := G_ifT fX8_share_11 (by decide) c
theorem gX8_share_11F {L : List (Option Value)} {a : Int} (c : (-2147483648 ≤ a ∧ a ≤ 2147483647) ∧ ¬ (¬ a = 0)) {st : List Value} {H : HP} {Q : Option Value → HP → Prop} : Go 71 11 L (vi a :: st) H Q ↔ Go 71 14 L st H Q := G_ifF (tg := 16) fX8_share_11 (by decide) c
theorem fX8_share_14 : ft 71 14 = some (.iconst (-1), 0, 0, 0, .null) := by decide +kernel
theorem gX8_share_14 {L : List (Option Value)} {st : List Value} {H : HP} {Q : Option Value → HP → Prop} : Go 71 14 L st H Q ↔ Go 71 15 L (vi (-1) :: st) H Q := G_iconst fX8_share_14
theorem fX8_share_15 : ft 71 15 = some (.ireturn, 0, 0, 0, .null) := by decide +kernel
theorem gX8_share_15 {L : List (Option Value)} {u : Int32} {H : HP} {Q : Option Value → HP → Prop} : Go 71 15 L [.int u] H Q ↔ Q (some (.int u)) H := G_iret fX8_share_15 (by decide +kernel)
theorem fX8_share_16 : ft 71 16 = some (.aload_n 0, 0, 0, 0, .null) := by decide +kernel
theorem gX8_share_16 {l1 l2 : Option Value} {u : Nat} {st : List Value} {H : HP} {Q : Option Value → HP → Prop} : Go 71 16 [some (.ref u), l1, l2] st H Q ↔ Go 71 17 [some (.ref u), l1, l2] (.ref u :: st) H Q := G_aload_n fX8_share_16 rfl
theorem fX8_share_17 : ft 71 17 = some (.getfield 11, 8, 0, 221, .null) := by decide +kernel
theorem gX8_share_17 {L : List (Option Value)} {p : Nat} {st : List Value} {H : HP} {Q : Option Value → HP → Prop} : Go 71 17 L (.ref p :: st) H Q ↔ Rd (gF' 8 0 (hget H p)) 71 20 L st H Q := G_getf fX8_share_17 ⟨rfl, rfl⟩
theorem fX8_share_20 : ft 71 20 = some (.iload_n 1, 0, 0, 0, .null) := by decide +kernel
theorem gX8_share_20 {l0 l2 : Option Value} {u : Int32} {st : List Value} {H : HP} {Q : Option Value → HP → Prop} : Go 71 20 [l0, some (.int u), l2] st H Q ↔ Go 71 21 [l0, some (.int u), l2] (.int u :: st) H Q := G_iload_n fX8_share_20 rfl
theorem fX8_share_21 : ft 71 21 = some (.aload_n 0, 0, 0, 0, .null) := by decide +kernel
theorem gX8_share_21 {l1 l2 : Option Value} {u : Nat} {st : List Value} {H : HP} {Q : Option Value → HP → Prop} : Go 71 21 [some (.ref u), l1, l2] st H Q ↔ Go 71 22 [some (.ref u), l1, l2] (.ref u :: st) H Q := G_aload_n fX8_share_21 rfl
theorem fX8_share_22 : ft 71 22 = some (.getfield 11, 8, 0, 221, .null) := by decide +kernel
theorem gX8_share_22 {L : List (Option Value)} {p : Nat} {st : List Value} {H : HP} {Q : Option Value → HP → Prop} : Go 71 22 L (.ref p :: st) H Q ↔ Rd (gF' 8 0 (hget H p)) 71 25 L st H Q := G_getf fX8_share_22 ⟨rfl, rfl⟩
theorem fX8_share_25 : ft 71 25 = some (.iload_n 2, 0, 0, 0, .null) := by decide +kernel
theorem gX8_share_25 {l0 l1 : Option Value} {u : Int32} {st : List Value} {H : HP} {Q : Option Value → HP → Prop} : Go 71 25 [l0, l1, some (.int u)] st H Q ↔ Go 71 26 [l0, l1, some (.int u)] (.int u :: st) H Q := G_iload_n fX8_share_25 rfl
theorem fX8_share_26 : ft 71 26 = some (.aaload, 0, 0, 0, .null) := by decide +kernel
theorem gX8_share_26 {L : List (Option Value)} {p : Nat} {a : Int} {st : List Value} {H : HP} {Q : Option Value → HP → Prop} : Go 71 26 L (vi a :: .ref p :: st) H Q ↔ Rd (aR' (hget H p) a) 71 27 L st H Q := G_aald fX8_share_26
theorem fX8_share_27 : ft 71 27 = some (.aastore, 0, 0, 0, .null) := by decide +kernel
theorem gX8_share_27 {L : List (Option Value)} {p : Nat} {a : Int} {b : Nat} (hp : p ≠ 0) {st : List Value} {H : HP} {Q : Option Value → HP → Prop} : Go 71 27 L (.ref b :: vi a :: .ref p :: st) H Q ↔ Wr (sR' (hget H p) a b (hget H b)) p 71 28 L st H Q := G_aast fX8_share_27 hp
theorem fX8_share_28 : ft 71 28 = some (.iconst 1, 0, 0, 0, .null) := by decide +kernel
theorem gX8_share_28 {L : List (Option Value)} {st : List Value} {H : HP} {Q : Option Value → HP → Prop} : Go 71 28 L st H Q ↔ Go 71 29 L (vi 1 :: st) H Q := G_iconst fX8_share_28
theorem fX8_share_29 : ft 71 29 = some (.ireturn, 0, 0, 0, .null) := by decide +kernel
theorem gX8_share_29 {L : List (Option Value)} {u : Int32} {H : HP} {Q : Option Value → HP → Prop} : Go 71 29 L [.int u] H Q ↔ Q (some (.int u)) H := G_iret fX8_share_29 (by decide +kernel)
theorem fX8_kind_0 : ft 72 0 = some (.iload_n 1, 0, 0, 0, .null) := by decide +kernel
theorem gX8_kind_0 {l0 l2 l3 : Option Value} {u : Int32} {st : List Value} {H : HP} {Q : Option Value → HP → Prop} : Go 72 0 [l0, some (.int u), l2, l3] st H Q ↔ Go 72 1 [l0, some (.int u), l2, l3] (.int u :: st) H Q := G_iload_n fX8_kind_0 rfl
theorem fX8_kind_1 : ft 72 1 = some (.invokestatic 85, 108, 0, 265, .null) := by decide +kernel
theorem gX8_kind_1 {L : List (Option Value)} {a0 : Int32}  {H : HP} {Q : Option Value → HP → Prop} : Go 72 1 L (.int a0 :: []) H Q ↔ Go 108 0 [some (.int a0)] [] H (Cont 72 4 L [] Q) := G_cS (n := 1) (N := 1) (as := [.int a0]) (st := []) fX8_kind_1 (by decide +kernel) rfl (Nat.le_of_ble_eq_true rfl) (Nat.le_of_ble_eq_true rfl) rfl
theorem fX8_kind_4 : ft 72 4 = some (.ifCond .ne 5, 0, 0, 0, .null) := by decide +kernel
theorem gX8_kind_4T {L : List (Option Value)} {a : Int} (c : (-2147483648 ≤ a ∧ a ≤ 2147483647) ∧ ¬ a = 0) {st : List Value} {H : HP} {Q : Option Value → HP → Prop} : Go 72 4 L (vi a :: st) H Q ↔ Go 72 9 L st H Q := G_ifT fX8_kind_4 (by decide) c
theorem gX8_kind_4F {L : List (Option Value)} {a : Int} (c : (-2147483648 ≤ a ∧ a ≤ 2147483647) ∧ ¬ (¬ a = 0)) {st : List Value} {H : HP} {Q : Option Value → HP → Prop} : Go 72 4 L (vi a :: st) H Q ↔ Go 72 7 L st H Q := G_ifF (tg := 9) fX8_kind_4 (by decide) c
theorem fX8_kind_7 : ft 72 7 = some (.iconst (-1), 0, 0, 0, .null) := by decide +kernel
theorem gX8_kind_7 {L : List (Option Value)} {st : List Value} {H : HP} {Q : Option Value → HP → Prop} : Go 72 7 L st H Q ↔ Go 72 8 L (vi (-1) :: st) H Q := G_iconst fX8_kind_7
theorem fX8_kind_8 : ft 72 8 = some (.ireturn, 0, 0, 0, .null) := by decide +kernel
theorem gX8_kind_8 {L : List (Option Value)} {u : Int32} {H : HP} {Q : Option Value → HP → Prop} : Go 72 8 L [.int u] H Q ↔ Q (some (.int u)) H := G_iret fX8_kind_8 (by decide +kernel)
theorem fX8_kind_9 : ft 72 9 = some (.iload_n 2, 0, 0, 0, .null) := by decide +kernel
theorem gX8_kind_9 {l0 l1 l3 : Option Value} {u : Int32} {st : List Value} {H : HP} {Q : Option Value → HP → Prop} : Go 72 9 [l0, l1, some (.int u), l3] st H Q ↔ Go 72 10 [l0, l1, some (.int u), l3] (.int u :: st) H Q := G_iload_n fX8_kind_9 rfl
theorem fX8_kind_10 : ft 72 10 = some (.ifCond .eq 11, 0, 0, 0, .null) := by decide +kernel
theorem gX8_kind_10T {L : List (Option Value)} {a : Int} (c : (-2147483648 ≤ a ∧ a ≤ 2147483647) ∧ a = 0) {st : List Value} {H : HP} {Q : Option Value → HP → Prop} : Go 72 10 L (vi a :: st) H Q ↔ Go 72 21 L st H Q := G_ifT fX8_kind_10 (by decide) c
theorem gX8_kind_10F {L : List (Option Value)} {a : Int} (c : (-2147483648 ≤ a ∧ a ≤ 2147483647) ∧ ¬ (a = 0)) {st : List Value} {H : HP} {Q : Option Value → HP → Prop} : Go 72 10 L (vi a :: st) H Q ↔ Go 72 13 L st H Q := G_ifF (tg := 21) fX8_kind_10 (by decide) c
theorem fX8_kind_13 : ft 72 13 = some (.iload_n 2, 0, 0, 0, .null) := by decide +kernel
theorem gX8_kind_13 {l0 l1 l3 : Option Value} {u : Int32} {st : List Value} {H : HP} {Q : Option Value → HP → Prop} : Go 72 13 [l0, l1, some (.int u), l3] st H Q ↔ Go 72 14 [l0, l1, some (.int u), l3] (.int u :: st) H Q := G_iload_n fX8_kind_13 rfl
theorem fX8_kind_14 : ft 72 14 = some (.iconst 1, 0, 0, 0, .null) := by decide +kernel
theorem gX8_kind_14 {L : List (Option Value)} {st : List Value} {H : HP} {Q : Option Value → HP → Prop} : Go 72 14 L st H Q ↔ Go 72 15 L (vi 1 :: st) H Q := G_iconst fX8_kind_14
theorem fX8_kind_15 : ft 72 15 = some (.if_icmp .eq 6, 0, 0, 0, .null) := by decide +kernel
theorem gX8_kind_15T {L : List (Option Value)} {a b : Int} (c : (-2147483648 ≤ a ∧ a ≤ 2147483647 ∧ -2147483648 ≤ b ∧ b ≤ 2147483647) ∧ a = b) {st : List Value} {H : HP} {Q : Option Value → HP → Prop} : Go 72 15 L (vi b :: vi a :: st) H Q ↔ Go 72 21 L st H Q := G_icT fX8_kind_15 (by decide) c
theorem gX8_kind_15F {L : List (Option Value)} {a b : Int} (c : (-2147483648 ≤ a ∧ a ≤ 2147483647 ∧ -2147483648 ≤ b ∧ b ≤ 2147483647) ∧ ¬ (a = b)) {st : List Value} {H : HP} {Q : Option Value → HP → Prop} : Go 72 15 L (vi b :: vi a :: st) H Q ↔ Go 72 18 L st H Q := G_icF (tg := 21) fX8_kind_15 (by decide) c
theorem fX8_kind_18 : ft 72 18 = some (.bipush (-2), 0, 0, 0, .null) := by decide +kernel
theorem gX8_kind_18 {L : List (Option Value)} {st : List Value} {H : HP} {Q : Option Value → HP → Prop} : Go 72 18 L st H Q ↔ Go 72 20 L (vi (-2) :: st) H Q := G_bipush fX8_kind_18 (by decide)
theorem fX8_kind_20 : ft 72 20 = some (.ireturn, 0, 0, 0, .null) := by decide +kernel
theorem gX8_kind_20 {L : List (Option Value)} {u : Int32} {H : HP} {Q : Option Value → HP → Prop} : Go 72 20 L [.int u] H Q ↔ Q (some (.int u)) H := G_iret fX8_kind_20 (by decide +kernel)
theorem fX8_kind_21 : ft 72 21 = some (.aload_n 0, 0, 0, 0, .null) := by decide +kernel
theorem gX8_kind_21 {l1 l2 l3 : Option Value} {u : Nat} {st : List Value} {H : HP} {Q : Option Value → HP → Prop} : Go 72 21 [some (.ref u), l1, l2, l3] st H Q ↔ Go 72 22 [some (.ref u), l1, l2, l3] (.ref u :: st) H Q := G_aload_n fX8_kind_21 rfl
theorem fX8_kind_22 : ft 72 22 = some (.getfield 11, 8, 0, 221, .null) := by decide +kernel
theorem gX8_kind_22 {L : List (Option Value)} {p : Nat} {st : List Value} {H : HP} {Q : Option Value → HP → Prop} : Go 72 22 L (.ref p :: st) H Q ↔ Rd (gF' 8 0 (hget H p)) 72 25 L st H Q := G_getf fX8_kind_22 ⟨rfl, rfl⟩
theorem fX8_kind_25 : ft 72 25 = some (.iload_n 1, 0, 0, 0, .null) := by decide +kernel
theorem gX8_kind_25 {l0 l2 l3 : Option Value} {u : Int32} {st : List Value} {H : HP} {Q : Option Value → HP → Prop} : Go 72 25 [l0, some (.int u), l2, l3] st H Q ↔ Go 72 26 [l0, some (.int u), l2, l3] (.int u :: st) H Q := G_iload_n fX8_kind_25 rfl
theorem fX8_kind_26 : ft 72 26 = some (.aaload, 0, 0, 0, .null) := by decide +kernel
theorem gX8_kind_26 {L : List (Option Value)} {p : Nat} {a : Int} {st : List Value} {H : HP} {Q : Option Value → HP → Prop} : Go 72 26 L (vi a :: .ref p :: st) H Q ↔ Rd (aR' (hget H p) a) 72 27 L st H Q := G_aald fX8_kind_26
theorem fX8_kind_27 : ft 72 27 = some (.astore_n 3, 0, 0, 0, .null) := by decide +kernel
theorem gX8_kind_27 {l0 l1 l2 l3 : Option Value} {u : Nat} {st : List Value} {H : HP} {Q : Option Value → HP → Prop} : Go 72 27 [l0, l1, l2, l3] (.ref u :: st) H Q ↔ Go 72 28 [l0, l1, l2, some (.ref u)] st H Q := G_astore_n fX8_kind_27 rfl
theorem gX8_kind_27N {l0 l1 l2 l3 : Option Value} {st : List Value} {H : HP} {Q : Option Value → HP → Prop} : Go 72 27 [l0, l1, l2, l3] (.null :: st) H Q ↔ Go 72 28 [l0, l1, l2, some .null] st H Q := G_astore_nN fX8_kind_27 rfl
theorem fX8_kind_28 : ft 72 28 = some (.aload_n 3, 0, 0, 0, .null) := by decide +kernel
theorem gX8_kind_28 {l0 l1 l2 : Option Value} {u : Nat} {st : List Value} {H : HP} {Q : Option Value → HP → Prop} : Go 72 28 [l0, l1, l2, some (.ref u)] st H Q ↔ Go 72 29 [l0, l1, l2, some (.ref u)] (.ref u :: st) H Q := G_aload_n fX8_kind_28 rfl
theorem gX8_kind_28N {l0 l1 l2 : Option Value} {st : List Value} {H : HP} {Q : Option Value → HP → Prop} : Go 72 28 [l0, l1, l2, some .null] st H Q ↔ Go 72 29 [l0, l1, l2, some .null] (.null :: st) H Q := G_aload_nN fX8_kind_28 rfl
theorem fX8_kind_29 : ft 72 29 = some (.ifnonnull 6, 0, 0, 0, .null) := by decide +kernel
theorem gX8_kind_29T {L : List (Option Value)} {p : Nat} {st : List Value} {H : HP} {Q : Option Value → HP → Prop} : Go 72 29 L ((.ref p) :: st) H Q ↔ Go 72 35 L st H Q := G_nnT fX8_kind_29 (by decide)
theorem gX8_kind_29F {L : List (Option Value)} {st : List Value} {H : HP} {Q : Option Value → HP → Prop} : Go 72 29 L (.null :: st) H Q ↔ Go 72 32 L st H Q := G_nnF (tg := 35) fX8_kind_29 (by decide)
theorem fX8_kind_32 : ft 72 32 = some (.bipush (-9), 0, 0, 0, .null) := by decide +kernel
theorem gX8_kind_32 {L : List (Option Value)} {st : List Value} {H : HP} {Q : Option Value → HP → Prop} : Go 72 32 L st H Q ↔ Go 72 34 L (vi (-9) :: st) H Q := G_bipush fX8_kind_32 (by decide)
theorem fX8_kind_34 : ft 72 34 = some (.ireturn, 0, 0, 0, .null) := by decide +kernel
theorem gX8_kind_34 {L : List (Option Value)} {u : Int32} {H : HP} {Q : Option Value → HP → Prop} : Go 72 34 L [.int u] H Q ↔ Q (some (.int u)) H := G_iret fX8_kind_34 (by decide +kernel)
theorem fX8_kind_35 : ft 72 35 = some (.iload_n 2, 0, 0, 0, .null) := by decide +kernel
theorem gX8_kind_35 {l0 l1 l3 : Option Value} {u : Int32} {st : List Value} {H : HP} {Q : Option Value → HP → Prop} : Go 72 35 [l0, l1, some (.int u), l3] st H Q ↔ Go 72 36 [l0, l1, some (.int u), l3] (.int u :: st) H Q := G_iload_n fX8_kind_35 rfl
theorem fX8_kind_36 : ft 72 36 = some (.ifCond .ne 10, 0, 0, 0, .null) := by decide +kernel
theorem gX8_kind_36T {L : List (Option Value)} {a : Int} (c : (-2147483648 ≤ a ∧ a ≤ 2147483647) ∧ ¬ a = 0) {st : List Value} {H : HP} {Q : Option Value → HP → Prop} : Go 72 36 L (vi a :: st) H Q ↔ Go 72 46 L st H Q := G_ifT fX8_kind_36 (by decide) c
theorem gX8_kind_36F {L : List (Option Value)} {a : Int} (c : (-2147483648 ≤ a ∧ a ≤ 2147483647) ∧ ¬ (¬ a = 0)) {st : List Value} {H : HP} {Q : Option Value → HP → Prop} : Go 72 36 L (vi a :: st) H Q ↔ Go 72 39 L st H Q := G_ifF (tg := 46) fX8_kind_36 (by decide) c
theorem fX8_kind_39 : ft 72 39 = some (.aload_n 3, 0, 0, 0, .null) := by decide +kernel
theorem gX8_kind_39 {l0 l1 l2 : Option Value} {u : Nat} {st : List Value} {H : HP} {Q : Option Value → HP → Prop} : Go 72 39 [l0, l1, l2, some (.ref u)] st H Q ↔ Go 72 40 [l0, l1, l2, some (.ref u)] (.ref u :: st) H Q := G_aload_n fX8_kind_39 rfl
theorem gX8_kind_39N {l0 l1 l2 : Option Value} {st : List Value} {H : HP} {Q : Option Value → HP → Prop} : Go 72 39 [l0, l1, l2, some .null] st H Q ↔ Go 72 40 [l0, l1, l2, some .null] (.null :: st) H Q := G_aload_nN fX8_kind_39 rfl
theorem fX8_kind_40 : ft 72 40 = some (.getfield 99, 5, 0, 282, .null) := by decide +kernel
theorem gX8_kind_40 {L : List (Option Value)} {p : Nat} {st : List Value} {H : HP} {Q : Option Value → HP → Prop} : Go 72 40 L (.ref p :: st) H Q ↔ Rd (gF' 5 0 (hget H p)) 72 43 L st H Q := G_getf fX8_kind_40 ⟨rfl, rfl⟩
theorem fX8_kind_43 : ft 72 43 = some (.goto 7, 0, 0, 0, .null) := by decide +kernel
theorem gX8_kind_43 {L : List (Option Value)} {st : List Value} {H : HP} {Q : Option Value → HP → Prop} : Go 72 43 L st H Q ↔ Go 72 50 L st H Q := G_goto fX8_kind_43 (by decide)
theorem fX8_kind_46 : ft 72 46 = some (.aload_n 3, 0, 0, 0, .null) := by decide +kernel
theorem gX8_kind_46 {l0 l1 l2 : Option Value} {u : Nat} {st : List Value} {H : HP} {Q : Option Value → HP → Prop} : Go 72 46 [l0, l1, l2, some (.ref u)] st H Q ↔ Go 72 47 [l0, l1, l2, some (.ref u)] (.ref u :: st) H Q := G_aload_n fX8_kind_46 rfl
theorem gX8_kind_46N {l0 l1 l2 : Option Value} {st : List Value} {H : HP} {Q : Option Value → HP → Prop} : Go 72 46 [l0, l1, l2, some .null] st H Q ↔ Go 72 47 [l0, l1, l2, some .null] (.null :: st) H Q := G_aload_nN fX8_kind_46 rfl
theorem fX8_kind_47 : ft 72 47 = some (.invokevirtual 102, 55, 0, 302, .null) := by decide +kernel
theorem gX8_kind_47 {L : List (Option Value)} {p : Nat}   {H : HP} {Q : Option Value → HP → Prop} : Go 72 47 L (.ref p :: []) H Q ↔ (iso 5 (hget H p) = true ∧ Go 55 0 [some (.ref p)] [] H (Cont 72 50 L [] Q)) := G_cV (n := 0) (N := 1) (as := []) (st := []) fX8_kind_47 (by decide +kernel) rfl (Nat.le_of_ble_eq_true rfl) (Nat.le_of_ble_eq_true rfl) rfl
theorem fX8_kind_50 : ft 72 50 = some (.ireturn, 0, 0, 0, .null) := by decide +kernel
theorem gX8_kind_50 {L : List (Option Value)} {u : Int32} {H : HP} {Q : Option Value → HP → Prop} : Go 72 50 L [.int u] H Q ↔ Q (some (.int u)) H := G_iret fX8_kind_50 (by decide +kernel)
theorem fX8_put_0 : ft 73 0 = some (.aload_n 0, 0, 0, 0, .null) := by decide +kernel
theorem gX8_put_0 {l1 l2 l3 l4 l5 : Option Value} {u : Nat} {st : List Value} {H : HP} {Q : Option Value → HP → Prop} : Go 73 0 [some (.ref u), l1, l2, l3, l4, l5] st H Q ↔ Go 73 1 [some (.ref u), l1, l2, l3, l4, l5] (.ref u :: st) H Q := G_aload_n fX8_put_0 rfl
theorem fX8_put_1 : ft 73 1 = some (.iconst 0, 0, 0, 0, .null) := by decide +kernel
theorem gX8_put_1 {L : List (Option Value)} {st : List Value} {H : HP} {Q : Option Value → HP → Prop} : Go 73 1 L st H Q ↔ Go 73 2 L (vi 0 :: st) H Q := G_iconst fX8_put_1
theorem fX8_put_2 : ft 73 2 = some (.putfield 64, 8, 12, 233, .null) := by decide +kernel
theorem gX8_put_2 {L : List (Option Value)} {p : Nat} {u : Int32} (hp : p ≠ 0) {st : List Value} {H : HP} {Q : Option Value → HP → Prop} : Go 73 2 L (.int u :: .ref p :: st) H Q ↔ Wr (pF' 8 12 (hget H p) (.int u)) p 73 5 L st H Q := G_putf fX8_put_2 ⟨⟨rfl, rfl⟩, rfl, Or.inl rfl⟩ hp
theorem fX8_put_5 : ft 73 5 = some (.iload_n 1, 0, 0, 0, .null) := by decide +kernel
theorem gX8_put_5 {l0 l2 l3 l4 l5 : Option Value} {u : Int32} {st : List Value} {H : HP} {Q : Option Value → HP → Prop} : Go 73 5 [l0, some (.int u), l2, l3, l4, l5] st H Q ↔ Go 73 6 [l0, some (.int u), l2, l3, l4, l5] (.int u :: st) H Q := G_iload_n fX8_put_5 rfl
theorem fX8_put_6 : ft 73 6 = some (.invokestatic 85, 108, 0, 265, .null) := by decide +kernel
theorem gX8_put_6 {L : List (Option Value)} {a0 : Int32}  {H : HP} {Q : Option Value → HP → Prop} : Go 73 6 L (.int a0 :: []) H Q ↔ Go 108 0 [some (.int a0)] [] H (Cont 73 9 L [] Q) := G_cS (n := 1) (N := 1) (as := [.int a0]) (st := []) fX8_put_6 (by decide +kernel) rfl (Nat.le_of_ble_eq_true rfl) (Nat.le_of_ble_eq_true rfl) rfl
theorem fX8_put_9 : ft 73 9 = some (.ifCond .ne 5, 0, 0, 0, .null) := by decide +kernel
theorem gX8_put_9T {L : List (Option Value)} {a : Int} (c : (-2147483648 ≤ a ∧ a ≤ 2147483647) ∧ ¬ a = 0) {st : List Value} {H : HP} {Q : Option Value → HP → Prop} : Go 73 9 L (vi a :: st) H Q ↔ Go 73 14 L st H Q := G_ifT fX8_put_9 (by decide) c
theorem gX8_put_9F {L : List (Option Value)} {a : Int} (c : (-2147483648 ≤ a ∧ a ≤ 2147483647) ∧ ¬ (¬ a = 0)) {st : List Value} {H : HP} {Q : Option Value → HP → Prop} : Go 73 9 L (vi a :: st) H Q ↔ Go 73 12 L st H Q := G_ifF (tg := 14) fX8_put_9 (by decide) c
theorem fX8_put_12 : ft 73 12 = some (.iconst (-1), 0, 0, 0, .null) := by decide +kernel
theorem gX8_put_12 {L : List (Option Value)} {st : List Value} {H : HP} {Q : Option Value → HP → Prop} : Go 73 12 L st H Q ↔ Go 73 13 L (vi (-1) :: st) H Q := G_iconst fX8_put_12
theorem fX8_put_13 : ft 73 13 = some (.ireturn, 0, 0, 0, .null) := by decide +kernel
theorem gX8_put_13 {L : List (Option Value)} {u : Int32} {H : HP} {Q : Option Value → HP → Prop} : Go 73 13 L [.int u] H Q ↔ Q (some (.int u)) H := G_iret fX8_put_13 (by decide +kernel)
theorem fX8_put_14 : ft 73 14 = some (.aload_n 0, 0, 0, 0, .null) := by decide +kernel
theorem gX8_put_14 {l1 l2 l3 l4 l5 : Option Value} {u : Nat} {st : List Value} {H : HP} {Q : Option Value → HP → Prop} : Go 73 14 [some (.ref u), l1, l2, l3, l4, l5] st H Q ↔ Go 73 15 [some (.ref u), l1, l2, l3, l4, l5] (.ref u :: st) H Q := G_aload_n fX8_put_14 rfl
theorem fX8_put_15 : ft 73 15 = some (.getfield 11, 8, 0, 221, .null) := by decide +kernel
theorem gX8_put_15 {L : List (Option Value)} {p : Nat} {st : List Value} {H : HP} {Q : Option Value → HP → Prop} : Go 73 15 L (.ref p :: st) H Q ↔ Rd (gF' 8 0 (hget H p)) 73 18 L st H Q := G_getf fX8_put_15 ⟨rfl, rfl⟩
theorem fX8_put_18 : ft 73 18 = some (.iload_n 1, 0, 0, 0, .null) := by decide +kernel
theorem gX8_put_18 {l0 l2 l3 l4 l5 : Option Value} {u : Int32} {st : List Value} {H : HP} {Q : Option Value → HP → Prop} : Go 73 18 [l0, some (.int u), l2, l3, l4, l5] st H Q ↔ Go 73 19 [l0, some (.int u), l2, l3, l4, l5] (.int u :: st) H Q := G_iload_n fX8_put_18 rfl
theorem fX8_put_19 : ft 73 19 = some (.aaload, 0, 0, 0, .null) := by decide +kernel
theorem gX8_put_19 {L : List (Option Value)} {p : Nat} {a : Int} {st : List Value} {H : HP} {Q : Option Value → HP → Prop} : Go 73 19 L (vi a :: .ref p :: st) H Q ↔ Rd (aR' (hget H p) a) 73 20 L st H Q := G_aald fX8_put_19
theorem fX8_put_20 : ft 73 20 = some (.astore 5, 0, 0, 0, .null) := by decide +kernel
theorem gX8_put_20 {l0 l1 l2 l3 l4 l5 : Option Value} {u : Nat} {st : List Value} {H : HP} {Q : Option Value → HP → Prop} : Go 73 20 [l0, l1, l2, l3, l4, l5] (.ref u :: st) H Q ↔ Go 73 22 [l0, l1, l2, l3, l4, some (.ref u)] st H Q := G_astore fX8_put_20 rfl
theorem gX8_put_20N {l0 l1 l2 l3 l4 l5 : Option Value} {st : List Value} {H : HP} {Q : Option Value → HP → Prop} : Go 73 20 [l0, l1, l2, l3, l4, l5] (.null :: st) H Q ↔ Go 73 22 [l0, l1, l2, l3, l4, some .null] st H Q := G_astoreN fX8_put_20 rfl
theorem fX8_put_22 : ft 73 22 = some (.aload 5, 0, 0, 0, .null) := by decide +kernel
theorem gX8_put_22 {l0 l1 l2 l3 l4 : Option Value} {u : Nat} {st : List Value} {H : HP} {Q : Option Value → HP → Prop} : Go 73 22 [l0, l1, l2, l3, l4, some (.ref u)] st H Q ↔ Go 73 24 [l0, l1, l2, l3, l4, some (.ref u)] (.ref u :: st) H Q := G_aload fX8_put_22 rfl
theorem gX8_put_22N {l0 l1 l2 l3 l4 : Option Value} {st : List Value} {H : HP} {Q : Option Value → HP → Prop} : Go 73 22 [l0, l1, l2, l3, l4, some .null] st H Q ↔ Go 73 24 [l0, l1, l2, l3, l4, some .null] (.null :: st) H Q := G_aloadN fX8_put_22 rfl
theorem fX8_put_24 : ft 73 24 = some (.ifnonnull 9, 0, 0, 0, .null) := by decide +kernel
theorem gX8_put_24T {L : List (Option Value)} {p : Nat} {st : List Value} {H : HP} {Q : Option Value → HP → Prop} : Go 73 24 L ((.ref p) :: st) H Q ↔ Go 73 33 L st H Q := G_nnT fX8_put_24 (by decide)
theorem gX8_put_24F {L : List (Option Value)} {st : List Value} {H : HP} {Q : Option Value → HP → Prop} : Go 73 24 L (.null :: st) H Q ↔ Go 73 27 L st H Q := G_nnF (tg := 33) fX8_put_24 (by decide)
theorem fX8_put_27 : ft 73 27 = some (.aload_n 0, 0, 0, 0, .null) := by decide +kernel
theorem gX8_put_27 {l1 l2 l3 l4 l5 : Option Value} {u : Nat} {st : List Value} {H : HP} {Q : Option Value → HP → Prop} : Go 73 27 [some (.ref u), l1, l2, l3, l4, l5] st H Q ↔ Go 73 28 [some (.ref u), l1, l2, l3, l4, l5] (.ref u :: st) H Q := G_aload_n fX8_put_27 rfl
theorem fX8_put_28 : ft 73 28 = some (.iconst 1, 0, 0, 0, .null) := by decide +kernel
theorem gX8_put_28 {L : List (Option Value)} {st : List Value} {H : HP} {Q : Option Value → HP → Prop} : Go 73 28 L st H Q ↔ Go 73 29 L (vi 1 :: st) H Q := G_iconst fX8_put_28
theorem fX8_put_29 : ft 73 29 = some (.invokevirtual 92, 105, 0, 271, .null) := by decide +kernel
theorem gX8_put_29 {L : List (Option Value)} {p : Nat} {a0 : Int32}  {H : HP} {Q : Option Value → HP → Prop} : Go 73 29 L (.int a0 :: .ref p :: []) H Q ↔ (iso 8 (hget H p) = true ∧ Go 105 0 [some (.ref p), some (.int a0)] [] H (Cont 73 32 L [] Q)) := G_cV (n := 1) (N := 2) (as := [.int a0]) (st := []) fX8_put_29 (by decide +kernel) rfl (Nat.le_of_ble_eq_true rfl) (Nat.le_of_ble_eq_true rfl) rfl
theorem fX8_put_32 : ft 73 32 = some (.ireturn, 0, 0, 0, .null) := by decide +kernel
theorem gX8_put_32 {L : List (Option Value)} {u : Int32} {H : HP} {Q : Option Value → HP → Prop} : Go 73 32 L [.int u] H Q ↔ Q (some (.int u)) H := G_iret fX8_put_32 (by decide +kernel)
theorem fX8_put_33 : ft 73 33 = some (.aload 5, 0, 0, 0, .null) := by decide +kernel
theorem gX8_put_33 {l0 l1 l2 l3 l4 : Option Value} {u : Nat} {st : List Value} {H : HP} {Q : Option Value → HP → Prop} : Go 73 33 [l0, l1, l2, l3, l4, some (.ref u)] st H Q ↔ Go 73 35 [l0, l1, l2, l3, l4, some (.ref u)] (.ref u :: st) H Q := G_aload fX8_put_33 rfl
theorem gX8_put_33N {l0 l1 l2 l3 l4 : Option Value} {st : List Value} {H : HP} {Q : Option Value → HP → Prop} : Go 73 33 [l0, l1, l2, l3, l4, some .null] st H Q ↔ Go 73 35 [l0, l1, l2, l3, l4, some .null] (.null :: st) H Q := G_aloadN fX8_put_33 rfl
theorem fX8_put_35 : ft 73 35 = some (.iload_n 2, 0, 0, 0, .null) := by decide +kernel
theorem gX8_put_35 {l0 l1 l3 l4 l5 : Option Value} {u : Int32} {st : List Value} {H : HP} {Q : Option Value → HP → Prop} : Go 73 35 [l0, l1, some (.int u), l3, l4, l5] st H Q ↔ Go 73 36 [l0, l1, some (.int u), l3, l4, l5] (.int u :: st) H Q := G_iload_n fX8_put_35 rfl
theorem fX8_put_36 : ft 73 36 = some (.invokevirtual 106, 56, 0, 310, .null) := by decide +kernel
theorem gX8_put_36 {L : List (Option Value)} {p : Nat} {a0 : Int32}  {H : HP} {Q : Option Value → HP → Prop} : Go 73 36 L (.int a0 :: .ref p :: []) H Q ↔ (iso 5 (hget H p) = true ∧ Go 56 0 [some (.ref p), some (.int a0)] [] H (Cont 73 39 L [] Q)) := G_cV (n := 1) (N := 2) (as := [.int a0]) (st := []) fX8_put_36 (by decide +kernel) rfl (Nat.le_of_ble_eq_true rfl) (Nat.le_of_ble_eq_true rfl) rfl
theorem fX8_put_39 : ft 73 39 = some (.ifCond .ne 9, 0, 0, 0, .null) := by decide +kernel
theorem gX8_put_39T {L : List (Option Value)} {a : Int} (c : (-2147483648 ≤ a ∧ a ≤ 2147483647) ∧ ¬ a = 0) {st : List Value} {H : HP} {Q : Option Value → HP → Prop} : Go 73 39 L (vi a :: st) H Q ↔ Go 73 48 L st H Q := G_ifT fX8_put_39 (by decide) c
theorem gX8_put_39F {L : List (Option Value)} {a : Int} (c : (-2147483648 ≤ a ∧ a ≤ 2147483647) ∧ ¬ (¬ a = 0)) {st : List Value} {H : HP} {Q : Option Value → HP → Prop} : Go 73 39 L (vi a :: st) H Q ↔ Go 73 42 L st H Q := G_ifF (tg := 48) fX8_put_39 (by decide) c
theorem fX8_put_42 : ft 73 42 = some (.aload_n 0, 0, 0, 0, .null) := by decide +kernel
theorem gX8_put_42 {l1 l2 l3 l4 l5 : Option Value} {u : Nat} {st : List Value} {H : HP} {Q : Option Value → HP → Prop} : Go 73 42 [some (.ref u), l1, l2, l3, l4, l5] st H Q ↔ Go 73 43 [some (.ref u), l1, l2, l3, l4, l5] (.ref u :: st) H Q := G_aload_n fX8_put_42 rfl
theorem fX8_put_43 : ft 73 43 = some (.iconst 3, 0, 0, 0, .null) := by decide +kernel
theorem gX8_put_43 {L : List (Option Value)} {st : List Value} {H : HP} {Q : Option Value → HP → Prop} : Go 73 43 L st H Q ↔ Go 73 44 L (vi 3 :: st) H Q := G_iconst fX8_put_43
theorem fX8_put_44 : ft 73 44 = some (.invokevirtual 92, 105, 0, 271, .null) := by decide +kernel
theorem gX8_put_44 {L : List (Option Value)} {p : Nat} {a0 : Int32}  {H : HP} {Q : Option Value → HP → Prop} : Go 73 44 L (.int a0 :: .ref p :: []) H Q ↔ (iso 8 (hget H p) = true ∧ Go 105 0 [some (.ref p), some (.int a0)] [] H (Cont 73 47 L [] Q)) := G_cV (n := 1) (N := 2) (as := [.int a0]) (st := []) fX8_put_44 (by decide +kernel) rfl (Nat.le_of_ble_eq_true rfl) (Nat.le_of_ble_eq_true rfl) rfl
theorem fX8_put_47 : ft 73 47 = some (.ireturn, 0, 0, 0, .null) := by decide +kernel
theorem gX8_put_47 {L : List (Option Value)} {u : Int32} {H : HP} {Q : Option Value → HP → Prop} : Go 73 47 L [.int u] H Q ↔ Q (some (.int u)) H := G_iret fX8_put_47 (by decide +kernel)
theorem fX8_put_48 : ft 73 48 = some (.aload 5, 0, 0, 0, .null) := by decide +kernel
theorem gX8_put_48 {l0 l1 l2 l3 l4 : Option Value} {u : Nat} {st : List Value} {H : HP} {Q : Option Value → HP → Prop} : Go 73 48 [l0, l1, l2, l3, l4, some (.ref u)] st H Q ↔ Go 73 50 [l0, l1, l2, l3, l4, some (.ref u)] (.ref u :: st) H Q := G_aload fX8_put_48 rfl
theorem gX8_put_48N {l0 l1 l2 l3 l4 : Option Value} {st : List Value} {H : HP} {Q : Option Value → HP → Prop} : Go 73 48 [l0, l1, l2, l3, l4, some .null] st H Q ↔ Go 73 50 [l0, l1, l2, l3, l4, some .null] (.null :: st) H Q := G_aloadN fX8_put_48 rfl
theorem fX8_put_50 : ft 73 50 = some (.getfield 109, 5, 1, 286, .null) := by decide +kernel
theorem gX8_put_50 {L : List (Option Value)} {p : Nat} {st : List Value} {H : HP} {Q : Option Value → HP → Prop} : Go 73 50 L (.ref p :: st) H Q ↔ Rd (gF' 5 1 (hget H p)) 73 53 L st H Q := G_getf fX8_put_50 ⟨rfl, rfl⟩
theorem fX8_put_53 : ft 73 53 = some (.iload_n 2, 0, 0, 0, .null) := by decide +kernel
theorem gX8_put_53 {l0 l1 l3 l4 l5 : Option Value} {u : Int32} {st : List Value} {H : HP} {Q : Option Value → HP → Prop} : Go 73 53 [l0, l1, some (.int u), l3, l4, l5] st H Q ↔ Go 73 54 [l0, l1, some (.int u), l3, l4, l5] (.int u :: st) H Q := G_iload_n fX8_put_53 rfl
theorem fX8_put_54 : ft 73 54 = some (.aload 5, 0, 0, 0, .null) := by decide +kernel
theorem gX8_put_54 {l0 l1 l2 l3 l4 : Option Value} {u : Nat} {st : List Value} {H : HP} {Q : Option Value → HP → Prop} : Go 73 54 [l0, l1, l2, l3, l4, some (.ref u)] st H Q ↔ Go 73 56 [l0, l1, l2, l3, l4, some (.ref u)] (.ref u :: st) H Q := G_aload fX8_put_54 rfl
theorem gX8_put_54N {l0 l1 l2 l3 l4 : Option Value} {st : List Value} {H : HP} {Q : Option Value → HP → Prop} : Go 73 54 [l0, l1, l2, l3, l4, some .null] st H Q ↔ Go 73 56 [l0, l1, l2, l3, l4, some .null] (.null :: st) H Q := G_aloadN fX8_put_54 rfl
theorem fX8_put_56 : ft 73 56 = some (.lload_n 3, 0, 0, 0, .null) := by decide +kernel
theorem gX8_put_56 {l0 l1 l2 l5 : Option Value} {u : Int64} {st : List Value} {H : HP} {Q : Option Value → HP → Prop} : Go 73 56 [l0, l1, l2, some (.long u), none, l5] st H Q ↔ Go 73 57 [l0, l1, l2, some (.long u), none, l5] (.long u :: st) H Q := G_lload_n fX8_put_56 rfl
theorem fX8_put_57 : ft 73 57 = some (.invokevirtual 112, 57, 0, 314, .null) := by decide +kernel
theorem gX8_put_57 {L : List (Option Value)} {p : Nat} {a0 : Int64} {r0 : Int32} {r1 : Nat} {H : HP} {Q : Option Value → HP → Prop} : Go 73 57 L (.long a0 :: .ref p :: [.int r0, .ref r1]) H Q ↔ (iso 5 (hget H p) = true ∧ Go 57 0 [some (.ref p), some (.long a0), none] [] H (Cont 73 60 L [.int r0, .ref r1] Q)) := G_cV (n := 1) (N := 3) (as := [.long a0]) (st := [.int r0, .ref r1]) fX8_put_57 (by decide +kernel) rfl (Nat.le_of_ble_eq_true rfl) (Nat.le_of_ble_eq_true rfl) rfl
theorem fX8_put_60 : ft 73 60 = some (.lastore, 0, 0, 0, .null) := by decide +kernel
theorem gX8_put_60 {L : List (Option Value)} {p : Nat} {a : Int} {b : Int} (hp : p ≠ 0) {st : List Value} {H : HP} {Q : Option Value → HP → Prop} : Go 73 60 L (vl b :: vi a :: .ref p :: st) H Q ↔ Wr (sL' (hget H p) a b) p 73 61 L st H Q := G_last fX8_put_60 hp
theorem fX8_put_61 : ft 73 61 = some (.iconst 1, 0, 0, 0, .null) := by decide +kernel
theorem gX8_put_61 {L : List (Option Value)} {st : List Value} {H : HP} {Q : Option Value → HP → Prop} : Go 73 61 L st H Q ↔ Go 73 62 L (vi 1 :: st) H Q := G_iconst fX8_put_61
theorem fX8_put_62 : ft 73 62 = some (.ireturn, 0, 0, 0, .null) := by decide +kernel
theorem gX8_put_62 {L : List (Option Value)} {u : Int32} {H : HP} {Q : Option Value → HP → Prop} : Go 73 62 L [.int u] H Q ↔ Q (some (.int u)) H := G_iret fX8_put_62 (by decide +kernel)
theorem fX8_at_0 : ft 74 0 = some (.aload_n 0, 0, 0, 0, .null) := by decide +kernel
theorem gX8_at_0 {l1 l2 : Option Value} {u : Nat} {st : List Value} {H : HP} {Q : Option Value → HP → Prop} : Go 74 0 [some (.ref u), l1, l2] st H Q ↔ Go 74 1 [some (.ref u), l1, l2] (.ref u :: st) H Q := G_aload_n fX8_at_0 rfl
theorem fX8_at_1 : ft 74 1 = some (.iconst 0, 0, 0, 0, .null) := by decide +kernel
theorem gX8_at_1 {L : List (Option Value)} {st : List Value} {H : HP} {Q : Option Value → HP → Prop} : Go 74 1 L st H Q ↔ Go 74 2 L (vi 0 :: st) H Q := G_iconst fX8_at_1
theorem fX8_at_2 : ft 74 2 = some (.putfield 64, 8, 12, 233, .null) := by decide +kernel
theorem gX8_at_2 {L : List (Option Value)} {p : Nat} {u : Int32} (hp : p ≠ 0) {st : List Value} {H : HP} {Q : Option Value → HP → Prop} : Go 74 2 L (.int u :: .ref p :: st) H Q ↔ Wr (pF' 8 12 (hget H p) (.int u)) p 74 5 L st H Q := G_putf fX8_at_2 ⟨⟨rfl, rfl⟩, rfl, Or.inl rfl⟩ hp
theorem fX8_at_5 : ft 74 5 = some (.iload_n 1, 0, 0, 0, .null) := by decide +kernel
theorem gX8_at_5 {l0 l2 : Option Value} {u : Int32} {st : List Value} {H : HP} {Q : Option Value → HP → Prop} : Go 74 5 [l0, some (.int u), l2] st H Q ↔ Go 74 6 [l0, some (.int u), l2] (.int u :: st) H Q := G_iload_n fX8_at_5 rfl
theorem fX8_at_6 : ft 74 6 = some (.invokestatic 85, 108, 0, 265, .null) := by decide +kernel
theorem gX8_at_6 {L : List (Option Value)} {a0 : Int32}  {H : HP} {Q : Option Value → HP → Prop} : Go 74 6 L (.int a0 :: []) H Q ↔ Go 108 0 [some (.int a0)] [] H (Cont 74 9 L [] Q) := G_cS (n := 1) (N := 1) (as := [.int a0]) (st := []) fX8_at_6 (by decide +kernel) rfl (Nat.le_of_ble_eq_true rfl) (Nat.le_of_ble_eq_true rfl) rfl
theorem fX8_at_9 : ft 74 9 = some (.ifCond .ne 5, 0, 0, 0, .null) := by decide +kernel
theorem gX8_at_9T {L : List (Option Value)} {a : Int} (c : (-2147483648 ≤ a ∧ a ≤ 2147483647) ∧ ¬ a = 0) {st : List Value} {H : HP} {Q : Option Value → HP → Prop} : Go 74 9 L (vi a :: st) H Q ↔ Go 74 14 L st H Q := G_ifT fX8_at_9 (by decide) c
theorem gX8_at_9F {L : List (Option Value)} {a : Int} (c : (-2147483648 ≤ a ∧ a ≤ 2147483647) ∧ ¬ (¬ a = 0)) {st : List Value} {H : HP} {Q : Option Value → HP → Prop} : Go 74 9 L (vi a :: st) H Q ↔ Go 74 12 L st H Q := G_ifF (tg := 14) fX8_at_9 (by decide) c
theorem fX8_at_12 : ft 74 12 = some (.lconst 0, 0, 0, 0, .null) := by decide +kernel
theorem gX8_at_12 {L : List (Option Value)} {st : List Value} {H : HP} {Q : Option Value → HP → Prop} : Go 74 12 L st H Q ↔ Go 74 13 L (vl 0 :: st) H Q := G_lconst fX8_at_12 (by decide)
theorem fX8_at_13 : ft 74 13 = some (.lreturn, 0, 0, 0, .null) := by decide +kernel
theorem gX8_at_13 {L : List (Option Value)} {u : Int64} {H : HP} {Q : Option Value → HP → Prop} : Go 74 13 L [.long u] H Q ↔ Q (some (.long u)) H := G_lret fX8_at_13 (by decide +kernel)
theorem fX8_at_14 : ft 74 14 = some (.aload_n 0, 0, 0, 0, .null) := by decide +kernel
theorem gX8_at_14 {l1 l2 : Option Value} {u : Nat} {st : List Value} {H : HP} {Q : Option Value → HP → Prop} : Go 74 14 [some (.ref u), l1, l2] st H Q ↔ Go 74 15 [some (.ref u), l1, l2] (.ref u :: st) H Q := G_aload_n fX8_at_14 rfl
theorem fX8_at_15 : ft 74 15 = some (.aload_n 0, 0, 0, 0, .null) := by decide +kernel
theorem gX8_at_15 {l1 l2 : Option Value} {u : Nat} {st : List Value} {H : HP} {Q : Option Value → HP → Prop} : Go 74 15 [some (.ref u), l1, l2] st H Q ↔ Go 74 16 [some (.ref u), l1, l2] (.ref u :: st) H Q := G_aload_n fX8_at_15 rfl
theorem fX8_at_16 : ft 74 16 = some (.getfield 11, 8, 0, 221, .null) := by decide +kernel
theorem gX8_at_16 {L : List (Option Value)} {p : Nat} {st : List Value} {H : HP} {Q : Option Value → HP → Prop} : Go 74 16 L (.ref p :: st) H Q ↔ Rd (gF' 8 0 (hget H p)) 74 19 L st H Q := G_getf fX8_at_16 ⟨rfl, rfl⟩
theorem fX8_at_19 : ft 74 19 = some (.iload_n 1, 0, 0, 0, .null) := by decide +kernel
theorem gX8_at_19 {l0 l2 : Option Value} {u : Int32} {st : List Value} {H : HP} {Q : Option Value → HP → Prop} : Go 74 19 [l0, some (.int u), l2] st H Q ↔ Go 74 20 [l0, some (.int u), l2] (.int u :: st) H Q := G_iload_n fX8_at_19 rfl
theorem fX8_at_20 : ft 74 20 = some (.aaload, 0, 0, 0, .null) := by decide +kernel
theorem gX8_at_20 {L : List (Option Value)} {p : Nat} {a : Int} {st : List Value} {H : HP} {Q : Option Value → HP → Prop} : Go 74 20 L (vi a :: .ref p :: st) H Q ↔ Rd (aR' (hget H p) a) 74 21 L st H Q := G_aald fX8_at_20
theorem fX8_at_21 : ft 74 21 = some (.iload_n 2, 0, 0, 0, .null) := by decide +kernel
theorem gX8_at_21 {l0 l1 : Option Value} {u : Int32} {st : List Value} {H : HP} {Q : Option Value → HP → Prop} : Go 74 21 [l0, l1, some (.int u)] st H Q ↔ Go 74 22 [l0, l1, some (.int u)] (.int u :: st) H Q := G_iload_n fX8_at_21 rfl
theorem fX8_at_22 : ft 74 22 = some (.invokevirtual 116, 107, 0, 328, .null) := by decide +kernel
theorem gX8_at_22 {L : List (Option Value)} {p : Nat} {a0 : Nat} {a1 : Int32}  {H : HP} {Q : Option Value → HP → Prop} : Go 74 22 L (.int a1 :: .ref a0 :: .ref p :: []) H Q ↔ (iso 8 (hget H p) = true ∧ Go 107 0 [some (.ref p), some (.ref a0), some (.int a1)] [] H (Cont 74 25 L [] Q)) := G_cV (n := 2) (N := 3) (as := [.int a1, .ref a0]) (st := []) fX8_at_22 (by decide +kernel) rfl (Nat.le_of_ble_eq_true rfl) (Nat.le_of_ble_eq_true rfl) rfl
theorem gX8_at_22N {L : List (Option Value)} {p : Nat} {a1 : Int32}  {H : HP} {Q : Option Value → HP → Prop} : Go 74 22 L (.int a1 :: .null :: .ref p :: []) H Q ↔ (iso 8 (hget H p) = true ∧ Go 107 0 [some (.ref p), some (.null), some (.int a1)] [] H (Cont 74 25 L [] Q)) := G_cV (n := 2) (N := 3) (as := [.int a1, .null]) (st := []) fX8_at_22 (by decide +kernel) rfl (Nat.le_of_ble_eq_true rfl) (Nat.le_of_ble_eq_true rfl) rfl
theorem fX8_at_25 : ft 74 25 = some (.lreturn, 0, 0, 0, .null) := by decide +kernel
theorem gX8_at_25 {L : List (Option Value)} {u : Int64} {H : HP} {Q : Option Value → HP → Prop} : Go 74 25 L [.long u] H Q ↔ Q (some (.long u)) H := G_lret fX8_at_25 (by decide +kernel)
theorem fX8_as_0 : ft 75 0 = some (.aload_n 0, 0, 0, 0, .null) := by decide +kernel
theorem gX8_as_0 {l1 l2 l3 l4 : Option Value} {u : Nat} {st : List Value} {H : HP} {Q : Option Value → HP → Prop} : Go 75 0 [some (.ref u), l1, l2, l3, l4] st H Q ↔ Go 75 1 [some (.ref u), l1, l2, l3, l4] (.ref u :: st) H Q := G_aload_n fX8_as_0 rfl
theorem fX8_as_1 : ft 75 1 = some (.iconst 0, 0, 0, 0, .null) := by decide +kernel
theorem gX8_as_1 {L : List (Option Value)} {st : List Value} {H : HP} {Q : Option Value → HP → Prop} : Go 75 1 L st H Q ↔ Go 75 2 L (vi 0 :: st) H Q := G_iconst fX8_as_1
theorem fX8_as_2 : ft 75 2 = some (.putfield 64, 8, 12, 233, .null) := by decide +kernel
theorem gX8_as_2 {L : List (Option Value)} {p : Nat} {u : Int32} (hp : p ≠ 0) {st : List Value} {H : HP} {Q : Option Value → HP → Prop} : Go 75 2 L (.int u :: .ref p :: st) H Q ↔ Wr (pF' 8 12 (hget H p) (.int u)) p 75 5 L st H Q := G_putf fX8_as_2 ⟨⟨rfl, rfl⟩, rfl, Or.inl rfl⟩ hp
theorem fX8_as_5 : ft 75 5 = some (.iload_n 1, 0, 0, 0, .null) := by decide +kernel
theorem gX8_as_5 {l0 l2 l3 l4 : Option Value} {u : Int32} {st : List Value} {H : HP} {Q : Option Value → HP → Prop} : Go 75 5 [l0, some (.int u), l2, l3, l4] st H Q ↔ Go 75 6 [l0, some (.int u), l2, l3, l4] (.int u :: st) H Q := G_iload_n fX8_as_5 rfl
theorem fX8_as_6 : ft 75 6 = some (.invokestatic 85, 108, 0, 265, .null) := by decide +kernel
theorem gX8_as_6 {L : List (Option Value)} {a0 : Int32}  {H : HP} {Q : Option Value → HP → Prop} : Go 75 6 L (.int a0 :: []) H Q ↔ Go 108 0 [some (.int a0)] [] H (Cont 75 9 L [] Q) := G_cS (n := 1) (N := 1) (as := [.int a0]) (st := []) fX8_as_6 (by decide +kernel) rfl (Nat.le_of_ble_eq_true rfl) (Nat.le_of_ble_eq_true rfl) rfl
theorem fX8_as_9 : ft 75 9 = some (.ifCond .eq 10, 0, 0, 0, .null) := by decide +kernel
theorem gX8_as_9T {L : List (Option Value)} {a : Int} (c : (-2147483648 ≤ a ∧ a ≤ 2147483647) ∧ a = 0) {st : List Value} {H : HP} {Q : Option Value → HP → Prop} : Go 75 9 L (vi a :: st) H Q ↔ Go 75 19 L st H Q := G_ifT fX8_as_9 (by decide) c
theorem gX8_as_9F {L : List (Option Value)} {a : Int} (c : (-2147483648 ≤ a ∧ a ≤ 2147483647) ∧ ¬ (a = 0)) {st : List Value} {H : HP} {Q : Option Value → HP → Prop} : Go 75 9 L (vi a :: st) H Q ↔ Go 75 12 L st H Q := G_ifF (tg := 19) fX8_as_9 (by decide) c
theorem fX8_as_12 : ft 75 12 = some (.iload_n 3, 0, 0, 0, .null) := by decide +kernel
theorem gX8_as_12 {l0 l1 l2 l4 : Option Value} {u : Int32} {st : List Value} {H : HP} {Q : Option Value → HP → Prop} : Go 75 12 [l0, l1, l2, some (.int u), l4] st H Q ↔ Go 75 13 [l0, l1, l2, some (.int u), l4] (.int u :: st) H Q := G_iload_n fX8_as_12 rfl
theorem fX8_as_13 : ft 75 13 = some (.invokestatic 89, 110, 0, 268, .null) := by decide +kernel
theorem gX8_as_13 {L : List (Option Value)} {a0 : Int32}  {H : HP} {Q : Option Value → HP → Prop} : Go 75 13 L (.int a0 :: []) H Q ↔ Go 110 0 [some (.int a0)] [] H (Cont 75 16 L [] Q) := G_cS (n := 1) (N := 1) (as := [.int a0]) (st := []) fX8_as_13 (by decide +kernel) rfl (Nat.le_of_ble_eq_true rfl) (Nat.le_of_ble_eq_true rfl) rfl
theorem fX8_as_16 : ft 75 16 = some (.ifCond .ne 5, 0, 0, 0, .null) := by decide +kernel
theorem gX8_as_16T {L : List (Option Value)} {a : Int} (c : (-2147483648 ≤ a ∧ a ≤ 2147483647) ∧ ¬ a = 0) {st : List Value} {H : HP} {Q : Option Value → HP → Prop} : Go 75 16 L (vi a :: st) H Q ↔ Go 75 21 L st H Q := G_ifT fX8_as_16 (by decide) c
theorem gX8_as_16F {L : List (Option Value)} {a : Int} (c : (-2147483648 ≤ a ∧ a ≤ 2147483647) ∧ ¬ (¬ a = 0)) {st : List Value} {H : HP} {Q : Option Value → HP → Prop} : Go 75 16 L (vi a :: st) H Q ↔ Go 75 19 L st H Q := G_ifF (tg := 21) fX8_as_16 (by decide) c
theorem fX8_as_19 : ft 75 19 = some (.lconst 0, 0, 0, 0, .null) := by decide +kernel
theorem gX8_as_19 {L : List (Option Value)} {st : List Value} {H : HP} {Q : Option Value → HP → Prop} : Go 75 19 L st H Q ↔ Go 75 20 L (vl 0 :: st) H Q := G_lconst fX8_as_19 (by decide)
theorem fX8_as_20 : ft 75 20 = some (.lreturn, 0, 0, 0, .null) := by decide +kernel
theorem gX8_as_20 {L : List (Option Value)} {u : Int64} {H : HP} {Q : Option Value → HP → Prop} : Go 75 20 L [.long u] H Q ↔ Q (some (.long u)) H := G_lret fX8_as_20 (by decide +kernel)
theorem fX8_as_21 : ft 75 21 = some (.aload_n 0, 0, 0, 0, .null) := by decide +kernel
theorem gX8_as_21 {l1 l2 l3 l4 : Option Value} {u : Nat} {st : List Value} {H : HP} {Q : Option Value → HP → Prop} : Go 75 21 [some (.ref u), l1, l2, l3, l4] st H Q ↔ Go 75 22 [some (.ref u), l1, l2, l3, l4] (.ref u :: st) H Q := G_aload_n fX8_as_21 rfl
theorem fX8_as_22 : ft 75 22 = some (.getfield 11, 8, 0, 221, .null) := by decide +kernel
theorem gX8_as_22 {L : List (Option Value)} {p : Nat} {st : List Value} {H : HP} {Q : Option Value → HP → Prop} : Go 75 22 L (.ref p :: st) H Q ↔ Rd (gF' 8 0 (hget H p)) 75 25 L st H Q := G_getf fX8_as_22 ⟨rfl, rfl⟩
theorem fX8_as_25 : ft 75 25 = some (.iload_n 1, 0, 0, 0, .null) := by decide +kernel
theorem gX8_as_25 {l0 l2 l3 l4 : Option Value} {u : Int32} {st : List Value} {H : HP} {Q : Option Value → HP → Prop} : Go 75 25 [l0, some (.int u), l2, l3, l4] st H Q ↔ Go 75 26 [l0, some (.int u), l2, l3, l4] (.int u :: st) H Q := G_iload_n fX8_as_25 rfl
theorem fX8_as_26 : ft 75 26 = some (.aaload, 0, 0, 0, .null) := by decide +kernel
theorem gX8_as_26 {L : List (Option Value)} {p : Nat} {a : Int} {st : List Value} {H : HP} {Q : Option Value → HP → Prop} : Go 75 26 L (vi a :: .ref p :: st) H Q ↔ Rd (aR' (hget H p) a) 75 27 L st H Q := G_aald fX8_as_26
theorem fX8_as_27 : ft 75 27 = some (.astore 4, 0, 0, 0, .null) := by decide +kernel
theorem gX8_as_27 {l0 l1 l2 l3 l4 : Option Value} {u : Nat} {st : List Value} {H : HP} {Q : Option Value → HP → Prop} : Go 75 27 [l0, l1, l2, l3, l4] (.ref u :: st) H Q ↔ Go 75 29 [l0, l1, l2, l3, some (.ref u)] st H Q := G_astore fX8_as_27 rfl
theorem gX8_as_27N {l0 l1 l2 l3 l4 : Option Value} {st : List Value} {H : HP} {Q : Option Value → HP → Prop} : Go 75 27 [l0, l1, l2, l3, l4] (.null :: st) H Q ↔ Go 75 29 [l0, l1, l2, l3, some .null] st H Q := G_astoreN fX8_as_27 rfl
theorem fX8_as_29 : ft 75 29 = some (.aload 4, 0, 0, 0, .null) := by decide +kernel
theorem gX8_as_29 {l0 l1 l2 l3 : Option Value} {u : Nat} {st : List Value} {H : HP} {Q : Option Value → HP → Prop} : Go 75 29 [l0, l1, l2, l3, some (.ref u)] st H Q ↔ Go 75 31 [l0, l1, l2, l3, some (.ref u)] (.ref u :: st) H Q := G_aload fX8_as_29 rfl
theorem gX8_as_29N {l0 l1 l2 l3 : Option Value} {st : List Value} {H : HP} {Q : Option Value → HP → Prop} : Go 75 29 [l0, l1, l2, l3, some .null] st H Q ↔ Go 75 31 [l0, l1, l2, l3, some .null] (.null :: st) H Q := G_aloadN fX8_as_29 rfl
theorem fX8_as_31 : ft 75 31 = some (.ifnull 18, 0, 0, 0, .null) := by decide +kernel
theorem gX8_as_31T {L : List (Option Value)} {st : List Value} {H : HP} {Q : Option Value → HP → Prop} : Go 75 31 L (.null :: st) H Q ↔ Go 75 49 L st H Q := G_nullT fX8_as_31 (by decide)
theorem gX8_as_31F {L : List (Option Value)} {p : Nat} {st : List Value} {H : HP} {Q : Option Value → HP → Prop} : Go 75 31 L ((.ref p) :: st) H Q ↔ Go 75 34 L st H Q := G_nullF (tg := 49) fX8_as_31 (by decide)
theorem fX8_as_34 : ft 75 34 = some (.aload 4, 0, 0, 0, .null) := by decide +kernel
theorem gX8_as_34 {l0 l1 l2 l3 : Option Value} {u : Nat} {st : List Value} {H : HP} {Q : Option Value → HP → Prop} : Go 75 34 [l0, l1, l2, l3, some (.ref u)] st H Q ↔ Go 75 36 [l0, l1, l2, l3, some (.ref u)] (.ref u :: st) H Q := G_aload fX8_as_34 rfl
theorem gX8_as_34N {l0 l1 l2 l3 : Option Value} {st : List Value} {H : HP} {Q : Option Value → HP → Prop} : Go 75 34 [l0, l1, l2, l3, some .null] st H Q ↔ Go 75 36 [l0, l1, l2, l3, some .null] (.null :: st) H Q := G_aloadN fX8_as_34 rfl
theorem fX8_as_36 : ft 75 36 = some (.getfield 99, 5, 0, 282, .null) := by decide +kernel
theorem gX8_as_36 {L : List (Option Value)} {p : Nat} {st : List Value} {H : HP} {Q : Option Value → HP → Prop} : Go 75 36 L (.ref p :: st) H Q ↔ Rd (gF' 5 0 (hget H p)) 75 39 L st H Q := G_getf fX8_as_36 ⟨rfl, rfl⟩
theorem fX8_as_39 : ft 75 39 = some (.iload_n 3, 0, 0, 0, .null) := by decide +kernel
theorem gX8_as_39 {l0 l1 l2 l4 : Option Value} {u : Int32} {st : List Value} {H : HP} {Q : Option Value → HP → Prop} : Go 75 39 [l0, l1, l2, some (.int u), l4] st H Q ↔ Go 75 40 [l0, l1, l2, some (.int u), l4] (.int u :: st) H Q := G_iload_n fX8_as_39 rfl
theorem fX8_as_40 : ft 75 40 = some (.if_icmp .eq 9, 0, 0, 0, .null) := by decide +kernel
theorem gX8_as_40T {L : List (Option Value)} {a b : Int} (c : (-2147483648 ≤ a ∧ a ≤ 2147483647 ∧ -2147483648 ≤ b ∧ b ≤ 2147483647) ∧ a = b) {st : List Value} {H : HP} {Q : Option Value → HP → Prop} : Go 75 40 L (vi b :: vi a :: st) H Q ↔ Go 75 49 L st H Q := G_icT fX8_as_40 (by decide) c
theorem gX8_as_40F {L : List (Option Value)} {a b : Int} (c : (-2147483648 ≤ a ∧ a ≤ 2147483647 ∧ -2147483648 ≤ b ∧ b ≤ 2147483647) ∧ ¬ (a = b)) {st : List Value} {H : HP} {Q : Option Value → HP → Prop} : Go 75 40 L (vi b :: vi a :: st) H Q ↔ Go 75 43 L st H Q := G_icF (tg := 49) fX8_as_40 (by decide) c
theorem fX8_as_43 : ft 75 43 = some (.aload_n 0, 0, 0, 0, .null) := by decide +kernel
theorem gX8_as_43 {l1 l2 l3 l4 : Option Value} {u : Nat} {st : List Value} {H : HP} {Q : Option Value → HP → Prop} : Go 75 43 [some (.ref u), l1, l2, l3, l4] st H Q ↔ Go 75 44 [some (.ref u), l1, l2, l3, l4] (.ref u :: st) H Q := G_aload_n fX8_as_43 rfl
theorem fX8_as_44 : ft 75 44 = some (.iconst 2, 0, 0, 0, .null) := by decide +kernel
theorem gX8_as_44 {L : List (Option Value)} {st : List Value} {H : HP} {Q : Option Value → HP → Prop} : Go 75 44 L st H Q ↔ Go 75 45 L (vi 2 :: st) H Q := G_iconst fX8_as_44
theorem fX8_as_45 : ft 75 45 = some (.invokevirtual 120, 106, 0, 332, .null) := by decide +kernel
theorem gX8_as_45 {L : List (Option Value)} {p : Nat} {a0 : Int32}  {H : HP} {Q : Option Value → HP → Prop} : Go 75 45 L (.int a0 :: .ref p :: []) H Q ↔ (iso 8 (hget H p) = true ∧ Go 106 0 [some (.ref p), some (.int a0)] [] H (Cont 75 48 L [] Q)) := G_cV (n := 1) (N := 2) (as := [.int a0]) (st := []) fX8_as_45 (by decide +kernel) rfl (Nat.le_of_ble_eq_true rfl) (Nat.le_of_ble_eq_true rfl) rfl
theorem fX8_as_48 : ft 75 48 = some (.lreturn, 0, 0, 0, .null) := by decide +kernel
theorem gX8_as_48 {L : List (Option Value)} {u : Int64} {H : HP} {Q : Option Value → HP → Prop} : Go 75 48 L [.long u] H Q ↔ Q (some (.long u)) H := G_lret fX8_as_48 (by decide +kernel)
theorem fX8_as_49 : ft 75 49 = some (.aload_n 0, 0, 0, 0, .null) := by decide +kernel
theorem gX8_as_49 {l1 l2 l3 l4 : Option Value} {u : Nat} {st : List Value} {H : HP} {Q : Option Value → HP → Prop} : Go 75 49 [some (.ref u), l1, l2, l3, l4] st H Q ↔ Go 75 50 [some (.ref u), l1, l2, l3, l4] (.ref u :: st) H Q := G_aload_n fX8_as_49 rfl
theorem fX8_as_50 : ft 75 50 = some (.aload 4, 0, 0, 0, .null) := by decide +kernel
theorem gX8_as_50 {l0 l1 l2 l3 : Option Value} {u : Nat} {st : List Value} {H : HP} {Q : Option Value → HP → Prop} : Go 75 50 [l0, l1, l2, l3, some (.ref u)] st H Q ↔ Go 75 52 [l0, l1, l2, l3, some (.ref u)] (.ref u :: st) H Q := G_aload fX8_as_50 rfl
theorem gX8_as_50N {l0 l1 l2 l3 : Option Value} {st : List Value} {H : HP} {Q : Option Value → HP → Prop} : Go 75 50 [l0, l1, l2, l3, some .null] st H Q ↔ Go 75 52 [l0, l1, l2, l3, some .null] (.null :: st) H Q := G_aloadN fX8_as_50 rfl
theorem fX8_as_52 : ft 75 52 = some (.iload_n 2, 0, 0, 0, .null) := by decide +kernel
theorem gX8_as_52 {l0 l1 l3 l4 : Option Value} {u : Int32} {st : List Value} {H : HP} {Q : Option Value → HP → Prop} : Go 75 52 [l0, l1, some (.int u), l3, l4] st H Q ↔ Go 75 53 [l0, l1, some (.int u), l3, l4] (.int u :: st) H Q := G_iload_n fX8_as_52 rfl
theorem fX8_as_53 : ft 75 53 = some (.invokevirtual 116, 107, 0, 328, .null) := by decide +kernel
theorem gX8_as_53 {L : List (Option Value)} {p : Nat} {a0 : Nat} {a1 : Int32}  {H : HP} {Q : Option Value → HP → Prop} : Go 75 53 L (.int a1 :: .ref a0 :: .ref p :: []) H Q ↔ (iso 8 (hget H p) = true ∧ Go 107 0 [some (.ref p), some (.ref a0), some (.int a1)] [] H (Cont 75 56 L [] Q)) := G_cV (n := 2) (N := 3) (as := [.int a1, .ref a0]) (st := []) fX8_as_53 (by decide +kernel) rfl (Nat.le_of_ble_eq_true rfl) (Nat.le_of_ble_eq_true rfl) rfl
theorem gX8_as_53N {L : List (Option Value)} {p : Nat} {a1 : Int32}  {H : HP} {Q : Option Value → HP → Prop} : Go 75 53 L (.int a1 :: .null :: .ref p :: []) H Q ↔ (iso 8 (hget H p) = true ∧ Go 107 0 [some (.ref p), some (.null), some (.int a1)] [] H (Cont 75 56 L [] Q)) := G_cV (n := 2) (N := 3) (as := [.int a1, .null]) (st := []) fX8_as_53 (by decide +kernel) rfl (Nat.le_of_ble_eq_true rfl) (Nat.le_of_ble_eq_true rfl) rfl
theorem fX8_as_56 : ft 75 56 = some (.lreturn, 0, 0, 0, .null) := by decide +kernel
theorem gX8_as_56 {L : List (Option Value)} {u : Int64} {H : HP} {Q : Option Value → HP → Prop} : Go 75 56 L [.long u] H Q ↔ Q (some (.long u)) H := G_lret fX8_as_56 (by decide +kernel)
theorem fX8_reverse_0 : ft 76 0 = some (.aload_n 0, 0, 0, 0, .null) := by decide +kernel
theorem gX8_reverse_0 {l1 l2 : Option Value} {u : Nat} {st : List Value} {H : HP} {Q : Option Value → HP → Prop} : Go 76 0 [some (.ref u), l1, l2] st H Q ↔ Go 76 1 [some (.ref u), l1, l2] (.ref u :: st) H Q := G_aload_n fX8_reverse_0 rfl
theorem fX8_reverse_1 : ft 76 1 = some (.iconst 0, 0, 0, 0, .null) := by decide +kernel
theorem gX8_reverse_1 {L : List (Option Value)} {st : List Value} {H : HP} {Q : Option Value → HP → Prop} : Go 76 1 L st H Q ↔ Go 76 2 L (vi 0 :: st) H Q := G_iconst fX8_reverse_1
theorem fX8_reverse_2 : ft 76 2 = some (.putfield 64, 8, 12, 233, .null) := by decide +kernel
theorem gX8_reverse_2 {L : List (Option Value)} {p : Nat} {u : Int32} (hp : p ≠ 0) {st : List Value} {H : HP} {Q : Option Value → HP → Prop} : Go 76 2 L (.int u :: .ref p :: st) H Q ↔ Wr (pF' 8 12 (hget H p) (.int u)) p 76 5 L st H Q := G_putf fX8_reverse_2 ⟨⟨rfl, rfl⟩, rfl, Or.inl rfl⟩ hp
theorem fX8_reverse_5 : ft 76 5 = some (.iload_n 1, 0, 0, 0, .null) := by decide +kernel
theorem gX8_reverse_5 {l0 l2 : Option Value} {u : Int32} {st : List Value} {H : HP} {Q : Option Value → HP → Prop} : Go 76 5 [l0, some (.int u), l2] st H Q ↔ Go 76 6 [l0, some (.int u), l2] (.int u :: st) H Q := G_iload_n fX8_reverse_5 rfl
theorem fX8_reverse_6 : ft 76 6 = some (.invokestatic 85, 108, 0, 265, .null) := by decide +kernel
theorem gX8_reverse_6 {L : List (Option Value)} {a0 : Int32}  {H : HP} {Q : Option Value → HP → Prop} : Go 76 6 L (.int a0 :: []) H Q ↔ Go 108 0 [some (.int a0)] [] H (Cont 76 9 L [] Q) := G_cS (n := 1) (N := 1) (as := [.int a0]) (st := []) fX8_reverse_6 (by decide +kernel) rfl (Nat.le_of_ble_eq_true rfl) (Nat.le_of_ble_eq_true rfl) rfl
theorem fX8_reverse_9 : ft 76 9 = some (.ifCond .ne 5, 0, 0, 0, .null) := by decide +kernel
theorem gX8_reverse_9T {L : List (Option Value)} {a : Int} (c : (-2147483648 ≤ a ∧ a ≤ 2147483647) ∧ ¬ a = 0) {st : List Value} {H : HP} {Q : Option Value → HP → Prop} : Go 76 9 L (vi a :: st) H Q ↔ Go 76 14 L st H Q := G_ifT fX8_reverse_9 (by decide) c
theorem gX8_reverse_9F {L : List (Option Value)} {a : Int} (c : (-2147483648 ≤ a ∧ a ≤ 2147483647) ∧ ¬ (¬ a = 0)) {st : List Value} {H : HP} {Q : Option Value → HP → Prop} : Go 76 9 L (vi a :: st) H Q ↔ Go 76 12 L st H Q := G_ifF (tg := 14) fX8_reverse_9 (by decide) c
theorem fX8_reverse_12 : ft 76 12 = some (.iconst (-1), 0, 0, 0, .null) := by decide +kernel
theorem gX8_reverse_12 {L : List (Option Value)} {st : List Value} {H : HP} {Q : Option Value → HP → Prop} : Go 76 12 L st H Q ↔ Go 76 13 L (vi (-1) :: st) H Q := G_iconst fX8_reverse_12
theorem fX8_reverse_13 : ft 76 13 = some (.ireturn, 0, 0, 0, .null) := by decide +kernel
theorem gX8_reverse_13 {L : List (Option Value)} {u : Int32} {H : HP} {Q : Option Value → HP → Prop} : Go 76 13 L [.int u] H Q ↔ Q (some (.int u)) H := G_iret fX8_reverse_13 (by decide +kernel)
theorem fX8_reverse_14 : ft 76 14 = some (.aload_n 0, 0, 0, 0, .null) := by decide +kernel
theorem gX8_reverse_14 {l1 l2 : Option Value} {u : Nat} {st : List Value} {H : HP} {Q : Option Value → HP → Prop} : Go 76 14 [some (.ref u), l1, l2] st H Q ↔ Go 76 15 [some (.ref u), l1, l2] (.ref u :: st) H Q := G_aload_n fX8_reverse_14 rfl
theorem fX8_reverse_15 : ft 76 15 = some (.getfield 11, 8, 0, 221, .null) := by decide +kernel
theorem gX8_reverse_15 {L : List (Option Value)} {p : Nat} {st : List Value} {H : HP} {Q : Option Value → HP → Prop} : Go 76 15 L (.ref p :: st) H Q ↔ Rd (gF' 8 0 (hget H p)) 76 18 L st H Q := G_getf fX8_reverse_15 ⟨rfl, rfl⟩
theorem fX8_reverse_18 : ft 76 18 = some (.iload_n 1, 0, 0, 0, .null) := by decide +kernel
theorem gX8_reverse_18 {l0 l2 : Option Value} {u : Int32} {st : List Value} {H : HP} {Q : Option Value → HP → Prop} : Go 76 18 [l0, some (.int u), l2] st H Q ↔ Go 76 19 [l0, some (.int u), l2] (.int u :: st) H Q := G_iload_n fX8_reverse_18 rfl
theorem fX8_reverse_19 : ft 76 19 = some (.aaload, 0, 0, 0, .null) := by decide +kernel
theorem gX8_reverse_19 {L : List (Option Value)} {p : Nat} {a : Int} {st : List Value} {H : HP} {Q : Option Value → HP → Prop} : Go 76 19 L (vi a :: .ref p :: st) H Q ↔ Rd (aR' (hget H p) a) 76 20 L st H Q := G_aald fX8_reverse_19
theorem fX8_reverse_20 : ft 76 20 = some (.astore_n 2, 0, 0, 0, .null) := by decide +kernel
theorem gX8_reverse_20 {l0 l1 l2 : Option Value} {u : Nat} {st : List Value} {H : HP} {Q : Option Value → HP → Prop} : Go 76 20 [l0, l1, l2] (.ref u :: st) H Q ↔ Go 76 21 [l0, l1, some (.ref u)] st H Q := G_astore_n fX8_reverse_20 rfl
theorem gX8_reverse_20N {l0 l1 l2 : Option Value} {st : List Value} {H : HP} {Q : Option Value → HP → Prop} : Go 76 20 [l0, l1, l2] (.null :: st) H Q ↔ Go 76 21 [l0, l1, some .null] st H Q := G_astore_nN fX8_reverse_20 rfl
theorem fX8_reverse_21 : ft 76 21 = some (.aload_n 2, 0, 0, 0, .null) := by decide +kernel
theorem gX8_reverse_21 {l0 l1 : Option Value} {u : Nat} {st : List Value} {H : HP} {Q : Option Value → HP → Prop} : Go 76 21 [l0, l1, some (.ref u)] st H Q ↔ Go 76 22 [l0, l1, some (.ref u)] (.ref u :: st) H Q := G_aload_n fX8_reverse_21 rfl
theorem gX8_reverse_21N {l0 l1 : Option Value} {st : List Value} {H : HP} {Q : Option Value → HP → Prop} : Go 76 21 [l0, l1, some .null] st H Q ↔ Go 76 22 [l0, l1, some .null] (.null :: st) H Q := G_aload_nN fX8_reverse_21 rfl
theorem fX8_reverse_22 : ft 76 22 = some (.ifnonnull 9, 0, 0, 0, .null) := by decide +kernel
theorem gX8_reverse_22T {L : List (Option Value)} {p : Nat} {st : List Value} {H : HP} {Q : Option Value → HP → Prop} : Go 76 22 L ((.ref p) :: st) H Q ↔ Go 76 31 L st H Q := G_nnT fX8_reverse_22 (by decide)
theorem gX8_reverse_22F {L : List (Option Value)} {st : List Value} {H : HP} {Q : Option Value → HP → Prop} : Go 76 22 L (.null :: st) H Q ↔ Go 76 25 L st H Q := G_nnF (tg := 31) fX8_reverse_22 (by decide)
theorem fX8_reverse_25 : ft 76 25 = some (.aload_n 0, 0, 0, 0, .null) := by decide +kernel
theorem gX8_reverse_25 {l1 l2 : Option Value} {u : Nat} {st : List Value} {H : HP} {Q : Option Value → HP → Prop} : Go 76 25 [some (.ref u), l1, l2] st H Q ↔ Go 76 26 [some (.ref u), l1, l2] (.ref u :: st) H Q := G_aload_n fX8_reverse_25 rfl
theorem fX8_reverse_26 : ft 76 26 = some (.iconst 1, 0, 0, 0, .null) := by decide +kernel
theorem gX8_reverse_26 {L : List (Option Value)} {st : List Value} {H : HP} {Q : Option Value → HP → Prop} : Go 76 26 L st H Q ↔ Go 76 27 L (vi 1 :: st) H Q := G_iconst fX8_reverse_26
theorem fX8_reverse_27 : ft 76 27 = some (.invokevirtual 92, 105, 0, 271, .null) := by decide +kernel
theorem gX8_reverse_27 {L : List (Option Value)} {p : Nat} {a0 : Int32}  {H : HP} {Q : Option Value → HP → Prop} : Go 76 27 L (.int a0 :: .ref p :: []) H Q ↔ (iso 8 (hget H p) = true ∧ Go 105 0 [some (.ref p), some (.int a0)] [] H (Cont 76 30 L [] Q)) := G_cV (n := 1) (N := 2) (as := [.int a0]) (st := []) fX8_reverse_27 (by decide +kernel) rfl (Nat.le_of_ble_eq_true rfl) (Nat.le_of_ble_eq_true rfl) rfl
theorem fX8_reverse_30 : ft 76 30 = some (.ireturn, 0, 0, 0, .null) := by decide +kernel
theorem gX8_reverse_30 {L : List (Option Value)} {u : Int32} {H : HP} {Q : Option Value → HP → Prop} : Go 76 30 L [.int u] H Q ↔ Q (some (.int u)) H := G_iret fX8_reverse_30 (by decide +kernel)
theorem fX8_reverse_31 : ft 76 31 = some (.aload_n 2, 0, 0, 0, .null) := by decide +kernel
theorem gX8_reverse_31 {l0 l1 : Option Value} {u : Nat} {st : List Value} {H : HP} {Q : Option Value → HP → Prop} : Go 76 31 [l0, l1, some (.ref u)] st H Q ↔ Go 76 32 [l0, l1, some (.ref u)] (.ref u :: st) H Q := G_aload_n fX8_reverse_31 rfl
theorem gX8_reverse_31N {l0 l1 : Option Value} {st : List Value} {H : HP} {Q : Option Value → HP → Prop} : Go 76 31 [l0, l1, some .null] st H Q ↔ Go 76 32 [l0, l1, some .null] (.null :: st) H Q := G_aload_nN fX8_reverse_31 rfl
theorem fX8_reverse_32 : ft 76 32 = some (.iconst 0, 0, 0, 0, .null) := by decide +kernel
theorem gX8_reverse_32 {L : List (Option Value)} {st : List Value} {H : HP} {Q : Option Value → HP → Prop} : Go 76 32 L st H Q ↔ Go 76 33 L (vi 0 :: st) H Q := G_iconst fX8_reverse_32
theorem fX8_reverse_33 : ft 76 33 = some (.aload_n 2, 0, 0, 0, .null) := by decide +kernel
theorem gX8_reverse_33 {l0 l1 : Option Value} {u : Nat} {st : List Value} {H : HP} {Q : Option Value → HP → Prop} : Go 76 33 [l0, l1, some (.ref u)] st H Q ↔ Go 76 34 [l0, l1, some (.ref u)] (.ref u :: st) H Q := G_aload_n fX8_reverse_33 rfl
theorem gX8_reverse_33N {l0 l1 : Option Value} {st : List Value} {H : HP} {Q : Option Value → HP → Prop} : Go 76 33 [l0, l1, some .null] st H Q ↔ Go 76 34 [l0, l1, some .null] (.null :: st) H Q := G_aload_nN fX8_reverse_33 rfl
theorem fX8_reverse_34 : ft 76 34 = some (.invokevirtual 102, 55, 0, 302, .null) := by decide +kernel
theorem gX8_reverse_34 {L : List (Option Value)} {p : Nat}  {r0 : Int32} {r1 : Nat} {H : HP} {Q : Option Value → HP → Prop} : Go 76 34 L (.ref p :: [.int r0, .ref r1]) H Q ↔ (iso 5 (hget H p) = true ∧ Go 55 0 [some (.ref p)] [] H (Cont 76 37 L [.int r0, .ref r1] Q)) := G_cV (n := 0) (N := 1) (as := []) (st := [.int r0, .ref r1]) fX8_reverse_34 (by decide +kernel) rfl (Nat.le_of_ble_eq_true rfl) (Nat.le_of_ble_eq_true rfl) rfl
theorem fX8_reverse_37 : ft 76 37 = some (.invokevirtual 124, 58, 0, 344, .null) := by decide +kernel
theorem gX8_reverse_37 {L : List (Option Value)} {p : Nat} {a0 : Int32} {a1 : Int32}  {H : HP} {Q : Option Value → HP → Prop} : Go 76 37 L (.int a1 :: .int a0 :: .ref p :: []) H Q ↔ (iso 5 (hget H p) = true ∧ Go 58 0 [some (.ref p), some (.int a0), some (.int a1), none, none, none, none] [] H (Cont 76 40 L [] Q)) := G_cV (n := 2) (N := 7) (as := [.int a1, .int a0]) (st := []) fX8_reverse_37 (by decide +kernel) rfl (Nat.le_of_ble_eq_true rfl) (Nat.le_of_ble_eq_true rfl) rfl
theorem fX8_reverse_40 : ft 76 40 = some (.iconst 1, 0, 0, 0, .null) := by decide +kernel
theorem gX8_reverse_40 {L : List (Option Value)} {st : List Value} {H : HP} {Q : Option Value → HP → Prop} : Go 76 40 L st H Q ↔ Go 76 41 L (vi 1 :: st) H Q := G_iconst fX8_reverse_40
theorem fX8_reverse_41 : ft 76 41 = some (.ireturn, 0, 0, 0, .null) := by decide +kernel
theorem gX8_reverse_41 {L : List (Option Value)} {u : Int32} {H : HP} {Q : Option Value → HP → Prop} : Go 76 41 L [.int u] H Q ↔ Q (some (.int u)) H := G_iret fX8_reverse_41 (by decide +kernel)
theorem fX8_shift_0 : ft 77 0 = some (.aload_n 0, 0, 0, 0, .null) := by decide +kernel
theorem gX8_shift_0 {l1 l2 l3 : Option Value} {u : Nat} {st : List Value} {H : HP} {Q : Option Value → HP → Prop} : Go 77 0 [some (.ref u), l1, l2, l3] st H Q ↔ Go 77 1 [some (.ref u), l1, l2, l3] (.ref u :: st) H Q := G_aload_n fX8_shift_0 rfl
theorem fX8_shift_1 : ft 77 1 = some (.iconst 0, 0, 0, 0, .null) := by decide +kernel
theorem gX8_shift_1 {L : List (Option Value)} {st : List Value} {H : HP} {Q : Option Value → HP → Prop} : Go 77 1 L st H Q ↔ Go 77 2 L (vi 0 :: st) H Q := G_iconst fX8_shift_1
theorem fX8_shift_2 : ft 77 2 = some (.putfield 64, 8, 12, 233, .null) := by decide +kernel
theorem gX8_shift_2 {L : List (Option Value)} {p : Nat} {u : Int32} (hp : p ≠ 0) {st : List Value} {H : HP} {Q : Option Value → HP → Prop} : Go 77 2 L (.int u :: .ref p :: st) H Q ↔ Wr (pF' 8 12 (hget H p) (.int u)) p 77 5 L st H Q := G_putf fX8_shift_2 ⟨⟨rfl, rfl⟩, rfl, Or.inl rfl⟩ hp
theorem fX8_shift_5 : ft 77 5 = some (.iload_n 1, 0, 0, 0, .null) := by decide +kernel
theorem gX8_shift_5 {l0 l2 l3 : Option Value} {u : Int32} {st : List Value} {H : HP} {Q : Option Value → HP → Prop} : Go 77 5 [l0, some (.int u), l2, l3] st H Q ↔ Go 77 6 [l0, some (.int u), l2, l3] (.int u :: st) H Q := G_iload_n fX8_shift_5 rfl
theorem fX8_shift_6 : ft 77 6 = some (.invokestatic 85, 108, 0, 265, .null) := by decide +kernel
theorem gX8_shift_6 {L : List (Option Value)} {a0 : Int32}  {H : HP} {Q : Option Value → HP → Prop} : Go 77 6 L (.int a0 :: []) H Q ↔ Go 108 0 [some (.int a0)] [] H (Cont 77 9 L [] Q) := G_cS (n := 1) (N := 1) (as := [.int a0]) (st := []) fX8_shift_6 (by decide +kernel) rfl (Nat.le_of_ble_eq_true rfl) (Nat.le_of_ble_eq_true rfl) rfl
theorem fX8_shift_9 : ft 77 9 = some (.ifCond .ne 5, 0, 0, 0, .null) := by decide +kernel
theorem gX8_shift_9T {L : List (Option Value)} {a : Int} (c : (-2147483648 ≤ a ∧ a ≤ 2147483647) ∧ ¬ a = 0) {st : List Value} {H : HP} {Q : Option Value → HP → Prop} : Go 77 9 L (vi a :: st) H Q ↔ Go 77 14 L st H Q := G_ifT fX8_shift_9 (by decide) c
theorem gX8_shift_9F {L : List (Option Value)} {a : Int} (c : (-2147483648 ≤ a ∧ a ≤ 2147483647) ∧ ¬ (¬ a = 0)) {st : List Value} {H : HP} {Q : Option Value → HP → Prop} : Go 77 9 L (vi a :: st) H Q ↔ Go 77 12 L st H Q := G_ifF (tg := 14) fX8_shift_9 (by decide) c
theorem fX8_shift_12 : ft 77 12 = some (.iconst (-1), 0, 0, 0, .null) := by decide +kernel
theorem gX8_shift_12 {L : List (Option Value)} {st : List Value} {H : HP} {Q : Option Value → HP → Prop} : Go 77 12 L st H Q ↔ Go 77 13 L (vi (-1) :: st) H Q := G_iconst fX8_shift_12
theorem fX8_shift_13 : ft 77 13 = some (.ireturn, 0, 0, 0, .null) := by decide +kernel
theorem gX8_shift_13 {L : List (Option Value)} {u : Int32} {H : HP} {Q : Option Value → HP → Prop} : Go 77 13 L [.int u] H Q ↔ Q (some (.int u)) H := G_iret fX8_shift_13 (by decide +kernel)
theorem fX8_shift_14 : ft 77 14 = some (.aload_n 0, 0, 0, 0, .null) := by decide +kernel
theorem gX8_shift_14 {l1 l2 l3 : Option Value} {u : Nat} {st : List Value} {H : HP} {Q : Option Value → HP → Prop} : Go 77 14 [some (.ref u), l1, l2, l3] st H Q ↔ Go 77 15 [some (.ref u), l1, l2, l3] (.ref u :: st) H Q := G_aload_n fX8_shift_14 rfl
theorem fX8_shift_15 : ft 77 15 = some (.getfield 11, 8, 0, 221, .null) := by decide +kernel
theorem gX8_shift_15 {L : List (Option Value)} {p : Nat} {st : List Value} {H : HP} {Q : Option Value → HP → Prop} : Go 77 15 L (.ref p :: st) H Q ↔ Rd (gF' 8 0 (hget H p)) 77 18 L st H Q := G_getf fX8_shift_15 ⟨rfl, rfl⟩
theorem fX8_shift_18 : ft 77 18 = some (.iload_n 1, 0, 0, 0, .null) := by decide +kernel
theorem gX8_shift_18 {l0 l2 l3 : Option Value} {u : Int32} {st : List Value} {H : HP} {Q : Option Value → HP → Prop} : Go 77 18 [l0, some (.int u), l2, l3] st H Q ↔ Go 77 19 [l0, some (.int u), l2, l3] (.int u :: st) H Q := G_iload_n fX8_shift_18 rfl
theorem fX8_shift_19 : ft 77 19 = some (.aaload, 0, 0, 0, .null) := by decide +kernel
theorem gX8_shift_19 {L : List (Option Value)} {p : Nat} {a : Int} {st : List Value} {H : HP} {Q : Option Value → HP → Prop} : Go 77 19 L (vi a :: .ref p :: st) H Q ↔ Rd (aR' (hget H p) a) 77 20 L st H Q := G_aald fX8_shift_19
theorem fX8_shift_20 : ft 77 20 = some (.astore_n 3, 0, 0, 0, .null) := by decide +kernel
theorem gX8_shift_20 {l0 l1 l2 l3 : Option Value} {u : Nat} {st : List Value} {H : HP} {Q : Option Value → HP → Prop} : Go 77 20 [l0, l1, l2, l3] (.ref u :: st) H Q ↔ Go 77 21 [l0, l1, l2, some (.ref u)] st H Q := G_astore_n fX8_shift_20 rfl
theorem gX8_shift_20N {l0 l1 l2 l3 : Option Value} {st : List Value} {H : HP} {Q : Option Value → HP → Prop} : Go 77 20 [l0, l1, l2, l3] (.null :: st) H Q ↔ Go 77 21 [l0, l1, l2, some .null] st H Q := G_astore_nN fX8_shift_20 rfl
theorem fX8_shift_21 : ft 77 21 = some (.aload_n 3, 0, 0, 0, .null) := by decide +kernel
theorem gX8_shift_21 {l0 l1 l2 : Option Value} {u : Nat} {st : List Value} {H : HP} {Q : Option Value → HP → Prop} : Go 77 21 [l0, l1, l2, some (.ref u)] st H Q ↔ Go 77 22 [l0, l1, l2, some (.ref u)] (.ref u :: st) H Q := G_aload_n fX8_shift_21 rfl
theorem gX8_shift_21N {l0 l1 l2 : Option Value} {st : List Value} {H : HP} {Q : Option Value → HP → Prop} : Go 77 21 [l0, l1, l2, some .null] st H Q ↔ Go 77 22 [l0, l1, l2, some .null] (.null :: st) H Q := G_aload_nN fX8_shift_21 rfl
theorem fX8_shift_22 : ft 77 22 = some (.ifnonnull 9, 0, 0, 0, .null) := by decide +kernel
theorem gX8_shift_22T {L : List (Option Value)} {p : Nat} {st : List Value} {H : HP} {Q : Option Value → HP → Prop} : Go 77 22 L ((.ref p) :: st) H Q ↔ Go 77 31 L st H Q := G_nnT fX8_shift_22 (by decide)
theorem gX8_shift_22F {L : List (Option Value)} {st : List Value} {H : HP} {Q : Option Value → HP → Prop} : Go 77 22 L (.null :: st) H Q ↔ Go 77 25 L st H Q := G_nnF (tg := 31) fX8_shift_22 (by decide)
theorem fX8_shift_25 : ft 77 25 = some (.aload_n 0, 0, 0, 0, .null) := by decide +kernel
theorem gX8_shift_25 {l1 l2 l3 : Option Value} {u : Nat} {st : List Value} {H : HP} {Q : Option Value → HP → Prop} : Go 77 25 [some (.ref u), l1, l2, l3] st H Q ↔ Go 77 26 [some (.ref u), l1, l2, l3] (.ref u :: st) H Q := G_aload_n fX8_shift_25 rfl
theorem fX8_shift_26 : ft 77 26 = some (.iconst 1, 0, 0, 0, .null) := by decide +kernel
theorem gX8_shift_26 {L : List (Option Value)} {st : List Value} {H : HP} {Q : Option Value → HP → Prop} : Go 77 26 L st H Q ↔ Go 77 27 L (vi 1 :: st) H Q := G_iconst fX8_shift_26
theorem fX8_shift_27 : ft 77 27 = some (.invokevirtual 92, 105, 0, 271, .null) := by decide +kernel
theorem gX8_shift_27 {L : List (Option Value)} {p : Nat} {a0 : Int32}  {H : HP} {Q : Option Value → HP → Prop} : Go 77 27 L (.int a0 :: .ref p :: []) H Q ↔ (iso 8 (hget H p) = true ∧ Go 105 0 [some (.ref p), some (.int a0)] [] H (Cont 77 30 L [] Q)) := G_cV (n := 1) (N := 2) (as := [.int a0]) (st := []) fX8_shift_27 (by decide +kernel) rfl (Nat.le_of_ble_eq_true rfl) (Nat.le_of_ble_eq_true rfl) rfl
theorem fX8_shift_30 : ft 77 30 = some (.ireturn, 0, 0, 0, .null) := by decide +kernel
theorem gX8_shift_30 {L : List (Option Value)} {u : Int32} {H : HP} {Q : Option Value → HP → Prop} : Go 77 30 L [.int u] H Q ↔ Q (some (.int u)) H := G_iret fX8_shift_30 (by decide +kernel)
theorem fX8_shift_31 : ft 77 31 = some (.aload_n 3, 0, 0, 0, .null) := by decide +kernel
theorem gX8_shift_31 {l0 l1 l2 : Option Value} {u : Nat} {st : List Value} {H : HP} {Q : Option Value → HP → Prop} : Go 77 31 [l0, l1, l2, some (.ref u)] st H Q ↔ Go 77 32 [l0, l1, l2, some (.ref u)] (.ref u :: st) H Q := G_aload_n fX8_shift_31 rfl
theorem gX8_shift_31N {l0 l1 l2 : Option Value} {st : List Value} {H : HP} {Q : Option Value → HP → Prop} : Go 77 31 [l0, l1, l2, some .null] st H Q ↔ Go 77 32 [l0, l1, l2, some .null] (.null :: st) H Q := G_aload_nN fX8_shift_31 rfl
theorem fX8_shift_32 : ft 77 32 = some (.iload_n 2, 0, 0, 0, .null) := by decide +kernel
theorem gX8_shift_32 {l0 l1 l3 : Option Value} {u : Int32} {st : List Value} {H : HP} {Q : Option Value → HP → Prop} : Go 77 32 [l0, l1, some (.int u), l3] st H Q ↔ Go 77 33 [l0, l1, some (.int u), l3] (.int u :: st) H Q := G_iload_n fX8_shift_32 rfl
theorem fX8_shift_33 : ft 77 33 = some (.invokevirtual 127, 59, 0, 358, .null) := by decide +kernel
theorem gX8_shift_33 {L : List (Option Value)} {p : Nat} {a0 : Int32}  {H : HP} {Q : Option Value → HP → Prop} : Go 77 33 L (.int a0 :: .ref p :: []) H Q ↔ (iso 5 (hget H p) = true ∧ Go 59 0 [some (.ref p), some (.int a0), none] [] H (Cont 77 36 L [] Q)) := G_cV (n := 1) (N := 3) (as := [.int a0]) (st := []) fX8_shift_33 (by decide +kernel) rfl (Nat.le_of_ble_eq_true rfl) (Nat.le_of_ble_eq_true rfl) rfl
theorem fX8_shift_36 : ft 77 36 = some (.iconst 1, 0, 0, 0, .null) := by decide +kernel
theorem gX8_shift_36 {L : List (Option Value)} {st : List Value} {H : HP} {Q : Option Value → HP → Prop} : Go 77 36 L st H Q ↔ Go 77 37 L (vi 1 :: st) H Q := G_iconst fX8_shift_36
theorem fX8_shift_37 : ft 77 37 = some (.ireturn, 0, 0, 0, .null) := by decide +kernel
theorem gX8_shift_37 {L : List (Option Value)} {u : Int32} {H : HP} {Q : Option Value → HP → Prop} : Go 77 37 L [.int u] H Q ↔ Q (some (.int u)) H := G_iret fX8_shift_37 (by decide +kernel)
theorem fX8_root_0 : ft 78 0 = some (.aload_n 0, 0, 0, 0, .null) := by decide +kernel
theorem gX8_root_0 {l1 l2 : Option Value} {u : Nat} {st : List Value} {H : HP} {Q : Option Value → HP → Prop} : Go 78 0 [some (.ref u), l1, l2] st H Q ↔ Go 78 1 [some (.ref u), l1, l2] (.ref u :: st) H Q := G_aload_n fX8_root_0 rfl
theorem fX8_root_1 : ft 78 1 = some (.iconst 0, 0, 0, 0, .null) := by decide +kernel
theorem gX8_root_1 {L : List (Option Value)} {st : List Value} {H : HP} {Q : Option Value → HP → Prop} : Go 78 1 L st H Q ↔ Go 78 2 L (vi 0 :: st) H Q := G_iconst fX8_root_1
theorem fX8_root_2 : ft 78 2 = some (.putfield 64, 8, 12, 233, .null) := by decide +kernel
theorem gX8_root_2 {L : List (Option Value)} {p : Nat} {u : Int32} (hp : p ≠ 0) {st : List Value} {H : HP} {Q : Option Value → HP → Prop} : Go 78 2 L (.int u :: .ref p :: st) H Q ↔ Wr (pF' 8 12 (hget H p) (.int u)) p 78 5 L st H Q := G_putf fX8_root_2 ⟨⟨rfl, rfl⟩, rfl, Or.inl rfl⟩ hp
theorem fX8_root_5 : ft 78 5 = some (.iload_n 1, 0, 0, 0, .null) := by decide +kernel
theorem gX8_root_5 {l0 l2 : Option Value} {u : Int32} {st : List Value} {H : HP} {Q : Option Value → HP → Prop} : Go 78 5 [l0, some (.int u), l2] st H Q ↔ Go 78 6 [l0, some (.int u), l2] (.int u :: st) H Q := G_iload_n fX8_root_5 rfl
theorem fX8_root_6 : ft 78 6 = some (.invokestatic 130, 109, 0, 370, .null) := by decide +kernel
theorem gX8_root_6 {L : List (Option Value)} {a0 : Int32}  {H : HP} {Q : Option Value → HP → Prop} : Go 78 6 L (.int a0 :: []) H Q ↔ Go 109 0 [some (.int a0)] [] H (Cont 78 9 L [] Q) := G_cS (n := 1) (N := 1) (as := [.int a0]) (st := []) fX8_root_6 (by decide +kernel) rfl (Nat.le_of_ble_eq_true rfl) (Nat.le_of_ble_eq_true rfl) rfl
theorem fX8_root_9 : ft 78 9 = some (.ifCond .eq 10, 0, 0, 0, .null) := by decide +kernel
theorem gX8_root_9T {L : List (Option Value)} {a : Int} (c : (-2147483648 ≤ a ∧ a ≤ 2147483647) ∧ a = 0) {st : List Value} {H : HP} {Q : Option Value → HP → Prop} : Go 78 9 L (vi a :: st) H Q ↔ Go 78 19 L st H Q := G_ifT fX8_root_9 (by decide) c
theorem gX8_root_9F {L : List (Option Value)} {a : Int} (c : (-2147483648 ≤ a ∧ a ≤ 2147483647) ∧ ¬ (a = 0)) {st : List Value} {H : HP} {Q : Option Value → HP → Prop} : Go 78 9 L (vi a :: st) H Q ↔ Go 78 12 L st H Q := G_ifF (tg := 19) fX8_root_9 (by decide) c
theorem fX8_root_12 : ft 78 12 = some (.iload_n 2, 0, 0, 0, .null) := by decide +kernel
theorem gX8_root_12 {l0 l1 : Option Value} {u : Int32} {st : List Value} {H : HP} {Q : Option Value → HP → Prop} : Go 78 12 [l0, l1, some (.int u)] st H Q ↔ Go 78 13 [l0, l1, some (.int u)] (.int u :: st) H Q := G_iload_n fX8_root_12 rfl
theorem fX8_root_13 : ft 78 13 = some (.invokestatic 133, 112, 0, 373, .null) := by decide +kernel
theorem gX8_root_13 {L : List (Option Value)} {a0 : Int32}  {H : HP} {Q : Option Value → HP → Prop} : Go 78 13 L (.int a0 :: []) H Q ↔ Go 112 0 [some (.int a0)] [] H (Cont 78 16 L [] Q) := G_cS (n := 1) (N := 1) (as := [.int a0]) (st := []) fX8_root_13 (by decide +kernel) rfl (Nat.le_of_ble_eq_true rfl) (Nat.le_of_ble_eq_true rfl) rfl
theorem fX8_root_16 : ft 78 16 = some (.ifCond .ne 5, 0, 0, 0, .null) := by decide +kernel
theorem gX8_root_16T {L : List (Option Value)} {a : Int} (c : (-2147483648 ≤ a ∧ a ≤ 2147483647) ∧ ¬ a = 0) {st : List Value} {H : HP} {Q : Option Value → HP → Prop} : Go 78 16 L (vi a :: st) H Q ↔ Go 78 21 L st H Q := G_ifT fX8_root_16 (by decide) c
theorem gX8_root_16F {L : List (Option Value)} {a : Int} (c : (-2147483648 ≤ a ∧ a ≤ 2147483647) ∧ ¬ (¬ a = 0)) {st : List Value} {H : HP} {Q : Option Value → HP → Prop} : Go 78 16 L (vi a :: st) H Q ↔ Go 78 19 L st H Q := G_ifF (tg := 21) fX8_root_16 (by decide) c
theorem fX8_root_19 : ft 78 19 = some (.lconst 0, 0, 0, 0, .null) := by decide +kernel
theorem gX8_root_19 {L : List (Option Value)} {st : List Value} {H : HP} {Q : Option Value → HP → Prop} : Go 78 19 L st H Q ↔ Go 78 20 L (vl 0 :: st) H Q := G_lconst fX8_root_19 (by decide)
theorem fX8_root_20 : ft 78 20 = some (.lreturn, 0, 0, 0, .null) := by decide +kernel
theorem gX8_root_20 {L : List (Option Value)} {u : Int64} {H : HP} {Q : Option Value → HP → Prop} : Go 78 20 L [.long u] H Q ↔ Q (some (.long u)) H := G_lret fX8_root_20 (by decide +kernel)
theorem fX8_root_21 : ft 78 21 = some (.aload_n 0, 0, 0, 0, .null) := by decide +kernel
theorem gX8_root_21 {l1 l2 : Option Value} {u : Nat} {st : List Value} {H : HP} {Q : Option Value → HP → Prop} : Go 78 21 [some (.ref u), l1, l2] st H Q ↔ Go 78 22 [some (.ref u), l1, l2] (.ref u :: st) H Q := G_aload_n fX8_root_21 rfl
theorem fX8_root_22 : ft 78 22 = some (.getfield 17, 8, 1, 222, .null) := by decide +kernel
theorem gX8_root_22 {L : List (Option Value)} {p : Nat} {st : List Value} {H : HP} {Q : Option Value → HP → Prop} : Go 78 22 L (.ref p :: st) H Q ↔ Rd (gF' 8 1 (hget H p)) 78 25 L st H Q := G_getf fX8_root_22 ⟨rfl, rfl⟩
theorem fX8_root_25 : ft 78 25 = some (.iload_n 1, 0, 0, 0, .null) := by decide +kernel
theorem gX8_root_25 {l0 l2 : Option Value} {u : Int32} {st : List Value} {H : HP} {Q : Option Value → HP → Prop} : Go 78 25 [l0, some (.int u), l2] st H Q ↔ Go 78 26 [l0, some (.int u), l2] (.int u :: st) H Q := G_iload_n fX8_root_25 rfl
theorem fX8_root_26 : ft 78 26 = some (.aaload, 0, 0, 0, .null) := by decide +kernel
theorem gX8_root_26 {L : List (Option Value)} {p : Nat} {a : Int} {st : List Value} {H : HP} {Q : Option Value → HP → Prop} : Go 78 26 L (vi a :: .ref p :: st) H Q ↔ Rd (aR' (hget H p) a) 78 27 L st H Q := G_aald fX8_root_26
theorem fX8_root_27 : ft 78 27 = some (.iload_n 2, 0, 0, 0, .null) := by decide +kernel
theorem gX8_root_27 {l0 l1 : Option Value} {u : Int32} {st : List Value} {H : HP} {Q : Option Value → HP → Prop} : Go 78 27 [l0, l1, some (.int u)] st H Q ↔ Go 78 28 [l0, l1, some (.int u)] (.int u :: st) H Q := G_iload_n fX8_root_27 rfl
theorem fX8_root_28 : ft 78 28 = some (.invokevirtual 136, 35, 0, 376, .null) := by decide +kernel
theorem gX8_root_28 {L : List (Option Value)} {p : Nat} {a0 : Int32}  {H : HP} {Q : Option Value → HP → Prop} : Go 78 28 L (.int a0 :: .ref p :: []) H Q ↔ (iso 3 (hget H p) = true ∧ Go 35 0 [some (.ref p), some (.int a0)] [] H (Cont 78 31 L [] Q)) := G_cV (n := 1) (N := 2) (as := [.int a0]) (st := []) fX8_root_28 (by decide +kernel) rfl (Nat.le_of_ble_eq_true rfl) (Nat.le_of_ble_eq_true rfl) rfl
theorem fX8_root_31 : ft 78 31 = some (.ifCond .ne 9, 0, 0, 0, .null) := by decide +kernel
theorem gX8_root_31T {L : List (Option Value)} {a : Int} (c : (-2147483648 ≤ a ∧ a ≤ 2147483647) ∧ ¬ a = 0) {st : List Value} {H : HP} {Q : Option Value → HP → Prop} : Go 78 31 L (vi a :: st) H Q ↔ Go 78 40 L st H Q := G_ifT fX8_root_31 (by decide) c
theorem gX8_root_31F {L : List (Option Value)} {a : Int} (c : (-2147483648 ≤ a ∧ a ≤ 2147483647) ∧ ¬ (¬ a = 0)) {st : List Value} {H : HP} {Q : Option Value → HP → Prop} : Go 78 31 L (vi a :: st) H Q ↔ Go 78 34 L st H Q := G_ifF (tg := 40) fX8_root_31 (by decide) c
theorem fX8_root_34 : ft 78 34 = some (.aload_n 0, 0, 0, 0, .null) := by decide +kernel
theorem gX8_root_34 {l1 l2 : Option Value} {u : Nat} {st : List Value} {H : HP} {Q : Option Value → HP → Prop} : Go 78 34 [some (.ref u), l1, l2] st H Q ↔ Go 78 35 [some (.ref u), l1, l2] (.ref u :: st) H Q := G_aload_n fX8_root_34 rfl
theorem fX8_root_35 : ft 78 35 = some (.iconst 5, 0, 0, 0, .null) := by decide +kernel
theorem gX8_root_35 {L : List (Option Value)} {st : List Value} {H : HP} {Q : Option Value → HP → Prop} : Go 78 35 L st H Q ↔ Go 78 36 L (vi 5 :: st) H Q := G_iconst fX8_root_35
theorem fX8_root_36 : ft 78 36 = some (.invokevirtual 120, 106, 0, 332, .null) := by decide +kernel
theorem gX8_root_36 {L : List (Option Value)} {p : Nat} {a0 : Int32}  {H : HP} {Q : Option Value → HP → Prop} : Go 78 36 L (.int a0 :: .ref p :: []) H Q ↔ (iso 8 (hget H p) = true ∧ Go 106 0 [some (.ref p), some (.int a0)] [] H (Cont 78 39 L [] Q)) := G_cV (n := 1) (N := 2) (as := [.int a0]) (st := []) fX8_root_36 (by decide +kernel) rfl (Nat.le_of_ble_eq_true rfl) (Nat.le_of_ble_eq_true rfl) rfl
theorem fX8_root_39 : ft 78 39 = some (.lreturn, 0, 0, 0, .null) := by decide +kernel
theorem gX8_root_39 {L : List (Option Value)} {u : Int64} {H : HP} {Q : Option Value → HP → Prop} : Go 78 39 L [.long u] H Q ↔ Q (some (.long u)) H := G_lret fX8_root_39 (by decide +kernel)
theorem fX8_root_40 : ft 78 40 = some (.aload_n 0, 0, 0, 0, .null) := by decide +kernel
theorem gX8_root_40 {l1 l2 : Option Value} {u : Nat} {st : List Value} {H : HP} {Q : Option Value → HP → Prop} : Go 78 40 [some (.ref u), l1, l2] st H Q ↔ Go 78 41 [some (.ref u), l1, l2] (.ref u :: st) H Q := G_aload_n fX8_root_40 rfl
theorem fX8_root_41 : ft 78 41 = some (.getfield 17, 8, 1, 222, .null) := by decide +kernel
theorem gX8_root_41 {L : List (Option Value)} {p : Nat} {st : List Value} {H : HP} {Q : Option Value → HP → Prop} : Go 78 41 L (.ref p :: st) H Q ↔ Rd (gF' 8 1 (hget H p)) 78 44 L st H Q := G_getf fX8_root_41 ⟨rfl, rfl⟩
theorem fX8_root_44 : ft 78 44 = some (.iload_n 1, 0, 0, 0, .null) := by decide +kernel
theorem gX8_root_44 {l0 l2 : Option Value} {u : Int32} {st : List Value} {H : HP} {Q : Option Value → HP → Prop} : Go 78 44 [l0, some (.int u), l2] st H Q ↔ Go 78 45 [l0, some (.int u), l2] (.int u :: st) H Q := G_iload_n fX8_root_44 rfl
theorem fX8_root_45 : ft 78 45 = some (.aaload, 0, 0, 0, .null) := by decide +kernel
theorem gX8_root_45 {L : List (Option Value)} {p : Nat} {a : Int} {st : List Value} {H : HP} {Q : Option Value → HP → Prop} : Go 78 45 L (vi a :: .ref p :: st) H Q ↔ Rd (aR' (hget H p) a) 78 46 L st H Q := G_aald fX8_root_45
theorem fX8_root_46 : ft 78 46 = some (.iload_n 2, 0, 0, 0, .null) := by decide +kernel
theorem gX8_root_46 {l0 l1 : Option Value} {u : Int32} {st : List Value} {H : HP} {Q : Option Value → HP → Prop} : Go 78 46 [l0, l1, some (.int u)] st H Q ↔ Go 78 47 [l0, l1, some (.int u)] (.int u :: st) H Q := G_iload_n fX8_root_46 rfl
theorem fX8_root_47 : ft 78 47 = some (.invokevirtual 139, 36, 0, 380, .null) := by decide +kernel
theorem gX8_root_47 {L : List (Option Value)} {p : Nat} {a0 : Int32}  {H : HP} {Q : Option Value → HP → Prop} : Go 78 47 L (.int a0 :: .ref p :: []) H Q ↔ (iso 3 (hget H p) = true ∧ Go 36 0 [some (.ref p), some (.int a0)] [] H (Cont 78 50 L [] Q)) := G_cV (n := 1) (N := 2) (as := [.int a0]) (st := []) fX8_root_47 (by decide +kernel) rfl (Nat.le_of_ble_eq_true rfl) (Nat.le_of_ble_eq_true rfl) rfl
theorem fX8_root_50 : ft 78 50 = some (.lreturn, 0, 0, 0, .null) := by decide +kernel
theorem gX8_root_50 {L : List (Option Value)} {u : Int64} {H : HP} {Q : Option Value → HP → Prop} : Go 78 50 L [.long u] H Q ↔ Q (some (.long u)) H := G_lret fX8_root_50 (by decide +kernel)
theorem fX8_transform_0 : ft 79 0 = some (.aload_n 0, 0, 0, 0, .null) := by decide +kernel
theorem gX8_transform_0 {l1 l2 l3 l4 : Option Value} {u : Nat} {st : List Value} {H : HP} {Q : Option Value → HP → Prop} : Go 79 0 [some (.ref u), l1, l2, l3, l4] st H Q ↔ Go 79 1 [some (.ref u), l1, l2, l3, l4] (.ref u :: st) H Q := G_aload_n fX8_transform_0 rfl
theorem fX8_transform_1 : ft 79 1 = some (.iconst 0, 0, 0, 0, .null) := by decide +kernel
theorem gX8_transform_1 {L : List (Option Value)} {st : List Value} {H : HP} {Q : Option Value → HP → Prop} : Go 79 1 L st H Q ↔ Go 79 2 L (vi 0 :: st) H Q := G_iconst fX8_transform_1
theorem fX8_transform_2 : ft 79 2 = some (.putfield 64, 8, 12, 233, .null) := by decide +kernel
theorem gX8_transform_2 {L : List (Option Value)} {p : Nat} {u : Int32} (hp : p ≠ 0) {st : List Value} {H : HP} {Q : Option Value → HP → Prop} : Go 79 2 L (.int u :: .ref p :: st) H Q ↔ Wr (pF' 8 12 (hget H p) (.int u)) p 79 5 L st H Q := G_putf fX8_transform_2 ⟨⟨rfl, rfl⟩, rfl, Or.inl rfl⟩ hp
theorem fX8_transform_5 : ft 79 5 = some (.iload_n 1, 0, 0, 0, .null) := by decide +kernel
theorem gX8_transform_5 {l0 l2 l3 l4 : Option Value} {u : Int32} {st : List Value} {H : HP} {Q : Option Value → HP → Prop} : Go 79 5 [l0, some (.int u), l2, l3, l4] st H Q ↔ Go 79 6 [l0, some (.int u), l2, l3, l4] (.int u :: st) H Q := G_iload_n fX8_transform_5 rfl
theorem fX8_transform_6 : ft 79 6 = some (.invokestatic 85, 108, 0, 265, .null) := by decide +kernel
theorem gX8_transform_6 {L : List (Option Value)} {a0 : Int32}  {H : HP} {Q : Option Value → HP → Prop} : Go 79 6 L (.int a0 :: []) H Q ↔ Go 108 0 [some (.int a0)] [] H (Cont 79 9 L [] Q) := G_cS (n := 1) (N := 1) (as := [.int a0]) (st := []) fX8_transform_6 (by decide +kernel) rfl (Nat.le_of_ble_eq_true rfl) (Nat.le_of_ble_eq_true rfl) rfl
theorem fX8_transform_9 : ft 79 9 = some (.ifCond .eq 10, 0, 0, 0, .null) := by decide +kernel
theorem gX8_transform_9T {L : List (Option Value)} {a : Int} (c : (-2147483648 ≤ a ∧ a ≤ 2147483647) ∧ a = 0) {st : List Value} {H : HP} {Q : Option Value → HP → Prop} : Go 79 9 L (vi a :: st) H Q ↔ Go 79 19 L st H Q := G_ifT fX8_transform_9 (by decide) c
theorem gX8_transform_9F {L : List (Option Value)} {a : Int} (c : (-2147483648 ≤ a ∧ a ≤ 2147483647) ∧ ¬ (a = 0)) {st : List Value} {H : HP} {Q : Option Value → HP → Prop} : Go 79 9 L (vi a :: st) H Q ↔ Go 79 12 L st H Q := G_ifF (tg := 19) fX8_transform_9 (by decide) c
theorem fX8_transform_12 : ft 79 12 = some (.iload_n 2, 0, 0, 0, .null) := by decide +kernel
theorem gX8_transform_12 {l0 l1 l3 l4 : Option Value} {u : Int32} {st : List Value} {H : HP} {Q : Option Value → HP → Prop} : Go 79 12 [l0, l1, some (.int u), l3, l4] st H Q ↔ Go 79 13 [l0, l1, some (.int u), l3, l4] (.int u :: st) H Q := G_iload_n fX8_transform_12 rfl
theorem fX8_transform_13 : ft 79 13 = some (.invokestatic 130, 109, 0, 370, .null) := by decide +kernel
theorem gX8_transform_13 {L : List (Option Value)} {a0 : Int32}  {H : HP} {Q : Option Value → HP → Prop} : Go 79 13 L (.int a0 :: []) H Q ↔ Go 109 0 [some (.int a0)] [] H (Cont 79 16 L [] Q) := G_cS (n := 1) (N := 1) (as := [.int a0]) (st := []) fX8_transform_13 (by decide +kernel) rfl (Nat.le_of_ble_eq_true rfl) (Nat.le_of_ble_eq_true rfl) rfl
theorem fX8_transform_16 : ft 79 16 = some (.ifCond .ne 5, 0, 0, 0, .null) := by decide +kernel
theorem gX8_transform_16T {L : List (Option Value)} {a : Int} (c : (-2147483648 ≤ a ∧ a ≤ 2147483647) ∧ ¬ a = 0) {st : List Value} {H : HP} {Q : Option Value → HP → Prop} : Go 79 16 L (vi a :: st) H Q ↔ Go 79 21 L st H Q := G_ifT fX8_transform_16 (by decide) c
theorem gX8_transform_16F {L : List (Option Value)} {a : Int} (c : (-2147483648 ≤ a ∧ a ≤ 2147483647) ∧ ¬ (¬ a = 0)) {st : List Value} {H : HP} {Q : Option Value → HP → Prop} : Go 79 16 L (vi a :: st) H Q ↔ Go 79 19 L st H Q := G_ifF (tg := 21) fX8_transform_16 (by decide) c
theorem fX8_transform_19 : ft 79 19 = some (.iconst (-1), 0, 0, 0, .null) := by decide +kernel
theorem gX8_transform_19 {L : List (Option Value)} {st : List Value} {H : HP} {Q : Option Value → HP → Prop} : Go 79 19 L st H Q ↔ Go 79 20 L (vi (-1) :: st) H Q := G_iconst fX8_transform_19
theorem fX8_transform_20 : ft 79 20 = some (.ireturn, 0, 0, 0, .null) := by decide +kernel
theorem gX8_transform_20 {L : List (Option Value)} {u : Int32} {H : HP} {Q : Option Value → HP → Prop} : Go 79 20 L [.int u] H Q ↔ Q (some (.int u)) H := G_iret fX8_transform_20 (by decide +kernel)
theorem fX8_transform_21 : ft 79 21 = some (.aload_n 0, 0, 0, 0, .null) := by decide +kernel
theorem gX8_transform_21 {l1 l2 l3 l4 : Option Value} {u : Nat} {st : List Value} {H : HP} {Q : Option Value → HP → Prop} : Go 79 21 [some (.ref u), l1, l2, l3, l4] st H Q ↔ Go 79 22 [some (.ref u), l1, l2, l3, l4] (.ref u :: st) H Q := G_aload_n fX8_transform_21 rfl
theorem fX8_transform_22 : ft 79 22 = some (.getfield 11, 8, 0, 221, .null) := by decide +kernel
theorem gX8_transform_22 {L : List (Option Value)} {p : Nat} {st : List Value} {H : HP} {Q : Option Value → HP → Prop} : Go 79 22 L (.ref p :: st) H Q ↔ Rd (gF' 8 0 (hget H p)) 79 25 L st H Q := G_getf fX8_transform_22 ⟨rfl, rfl⟩
theorem fX8_transform_25 : ft 79 25 = some (.iload_n 1, 0, 0, 0, .null) := by decide +kernel
theorem gX8_transform_25 {l0 l2 l3 l4 : Option Value} {u : Int32} {st : List Value} {H : HP} {Q : Option Value → HP → Prop} : Go 79 25 [l0, some (.int u), l2, l3, l4] st H Q ↔ Go 79 26 [l0, some (.int u), l2, l3, l4] (.int u :: st) H Q := G_iload_n fX8_transform_25 rfl
theorem fX8_transform_26 : ft 79 26 = some (.aaload, 0, 0, 0, .null) := by decide +kernel
theorem gX8_transform_26 {L : List (Option Value)} {p : Nat} {a : Int} {st : List Value} {H : HP} {Q : Option Value → HP → Prop} : Go 79 26 L (vi a :: .ref p :: st) H Q ↔ Rd (aR' (hget H p) a) 79 27 L st H Q := G_aald fX8_transform_26
theorem fX8_transform_27 : ft 79 27 = some (.astore_n 3, 0, 0, 0, .null) := by decide +kernel
theorem gX8_transform_27 {l0 l1 l2 l3 l4 : Option Value} {u : Nat} {st : List Value} {H : HP} {Q : Option Value → HP → Prop} : Go 79 27 [l0, l1, l2, l3, l4] (.ref u :: st) H Q ↔ Go 79 28 [l0, l1, l2, some (.ref u), l4] st H Q := G_astore_n fX8_transform_27 rfl
theorem gX8_transform_27N {l0 l1 l2 l3 l4 : Option Value} {st : List Value} {H : HP} {Q : Option Value → HP → Prop} : Go 79 27 [l0, l1, l2, l3, l4] (.null :: st) H Q ↔ Go 79 28 [l0, l1, l2, some .null, l4] st H Q := G_astore_nN fX8_transform_27 rfl
theorem fX8_transform_28 : ft 79 28 = some (.aload_n 3, 0, 0, 0, .null) := by decide +kernel
theorem gX8_transform_28 {l0 l1 l2 l4 : Option Value} {u : Nat} {st : List Value} {H : HP} {Q : Option Value → HP → Prop} : Go 79 28 [l0, l1, l2, some (.ref u), l4] st H Q ↔ Go 79 29 [l0, l1, l2, some (.ref u), l4] (.ref u :: st) H Q := G_aload_n fX8_transform_28 rfl
theorem gX8_transform_28N {l0 l1 l2 l4 : Option Value} {st : List Value} {H : HP} {Q : Option Value → HP → Prop} : Go 79 28 [l0, l1, l2, some .null, l4] st H Q ↔ Go 79 29 [l0, l1, l2, some .null, l4] (.null :: st) H Q := G_aload_nN fX8_transform_28 rfl
theorem fX8_transform_29 : ft 79 29 = some (.ifnonnull 9, 0, 0, 0, .null) := by decide +kernel
theorem gX8_transform_29T {L : List (Option Value)} {p : Nat} {st : List Value} {H : HP} {Q : Option Value → HP → Prop} : Go 79 29 L ((.ref p) :: st) H Q ↔ Go 79 38 L st H Q := G_nnT fX8_transform_29 (by decide)
theorem gX8_transform_29F {L : List (Option Value)} {st : List Value} {H : HP} {Q : Option Value → HP → Prop} : Go 79 29 L (.null :: st) H Q ↔ Go 79 32 L st H Q := G_nnF (tg := 38) fX8_transform_29 (by decide)
theorem fX8_transform_32 : ft 79 32 = some (.aload_n 0, 0, 0, 0, .null) := by decide +kernel
theorem gX8_transform_32 {l1 l2 l3 l4 : Option Value} {u : Nat} {st : List Value} {H : HP} {Q : Option Value → HP → Prop} : Go 79 32 [some (.ref u), l1, l2, l3, l4] st H Q ↔ Go 79 33 [some (.ref u), l1, l2, l3, l4] (.ref u :: st) H Q := G_aload_n fX8_transform_32 rfl
theorem fX8_transform_33 : ft 79 33 = some (.iconst 1, 0, 0, 0, .null) := by decide +kernel
theorem gX8_transform_33 {L : List (Option Value)} {st : List Value} {H : HP} {Q : Option Value → HP → Prop} : Go 79 33 L st H Q ↔ Go 79 34 L (vi 1 :: st) H Q := G_iconst fX8_transform_33
theorem fX8_transform_34 : ft 79 34 = some (.invokevirtual 92, 105, 0, 271, .null) := by decide +kernel
theorem gX8_transform_34 {L : List (Option Value)} {p : Nat} {a0 : Int32}  {H : HP} {Q : Option Value → HP → Prop} : Go 79 34 L (.int a0 :: .ref p :: []) H Q ↔ (iso 8 (hget H p) = true ∧ Go 105 0 [some (.ref p), some (.int a0)] [] H (Cont 79 37 L [] Q)) := G_cV (n := 1) (N := 2) (as := [.int a0]) (st := []) fX8_transform_34 (by decide +kernel) rfl (Nat.le_of_ble_eq_true rfl) (Nat.le_of_ble_eq_true rfl) rfl
theorem fX8_transform_37 : ft 79 37 = some (.ireturn, 0, 0, 0, .null) := by decide +kernel
theorem gX8_transform_37 {L : List (Option Value)} {u : Int32} {H : HP} {Q : Option Value → HP → Prop} : Go 79 37 L [.int u] H Q ↔ Q (some (.int u)) H := G_iret fX8_transform_37 (by decide +kernel)
theorem fX8_transform_38 : ft 79 38 = some (.aload_n 3, 0, 0, 0, .null) := by decide +kernel
theorem gX8_transform_38 {l0 l1 l2 l4 : Option Value} {u : Nat} {st : List Value} {H : HP} {Q : Option Value → HP → Prop} : Go 79 38 [l0, l1, l2, some (.ref u), l4] st H Q ↔ Go 79 39 [l0, l1, l2, some (.ref u), l4] (.ref u :: st) H Q := G_aload_n fX8_transform_38 rfl
theorem gX8_transform_38N {l0 l1 l2 l4 : Option Value} {st : List Value} {H : HP} {Q : Option Value → HP → Prop} : Go 79 38 [l0, l1, l2, some .null, l4] st H Q ↔ Go 79 39 [l0, l1, l2, some .null, l4] (.null :: st) H Q := G_aload_nN fX8_transform_38 rfl
theorem fX8_transform_39 : ft 79 39 = some (.getfield 99, 5, 0, 282, .null) := by decide +kernel
theorem gX8_transform_39 {L : List (Option Value)} {p : Nat} {st : List Value} {H : HP} {Q : Option Value → HP → Prop} : Go 79 39 L (.ref p :: st) H Q ↔ Rd (gF' 5 0 (hget H p)) 79 42 L st H Q := G_getf fX8_transform_39 ⟨rfl, rfl⟩
theorem fX8_transform_42 : ft 79 42 = some (.iconst 3, 0, 0, 0, .null) := by decide +kernel
theorem gX8_transform_42 {L : List (Option Value)} {st : List Value} {H : HP} {Q : Option Value → HP → Prop} : Go 79 42 L st H Q ↔ Go 79 43 L (vi 3 :: st) H Q := G_iconst fX8_transform_42
theorem fX8_transform_43 : ft 79 43 = some (.if_icmp .le 9, 0, 0, 0, .null) := by decide +kernel
theorem gX8_transform_43T {L : List (Option Value)} {a b : Int} (c : (-2147483648 ≤ a ∧ a ≤ 2147483647 ∧ -2147483648 ≤ b ∧ b ≤ 2147483647) ∧ a ≤ b) {st : List Value} {H : HP} {Q : Option Value → HP → Prop} : Go 79 43 L (vi b :: vi a :: st) H Q ↔ Go 79 52 L st H Q := G_icT fX8_transform_43 (by decide) c
theorem gX8_transform_43F {L : List (Option Value)} {a b : Int} (c : (-2147483648 ≤ a ∧ a ≤ 2147483647 ∧ -2147483648 ≤ b ∧ b ≤ 2147483647) ∧ ¬ (a ≤ b)) {st : List Value} {H : HP} {Q : Option Value → HP → Prop} : Go 79 43 L (vi b :: vi a :: st) H Q ↔ Go 79 46 L st H Q := G_icF (tg := 52) fX8_transform_43 (by decide) c
theorem fX8_transform_46 : ft 79 46 = some (.aload_n 0, 0, 0, 0, .null) := by decide +kernel
theorem gX8_transform_46 {l1 l2 l3 l4 : Option Value} {u : Nat} {st : List Value} {H : HP} {Q : Option Value → HP → Prop} : Go 79 46 [some (.ref u), l1, l2, l3, l4] st H Q ↔ Go 79 47 [some (.ref u), l1, l2, l3, l4] (.ref u :: st) H Q := G_aload_n fX8_transform_46 rfl
theorem fX8_transform_47 : ft 79 47 = some (.iconst 2, 0, 0, 0, .null) := by decide +kernel
theorem gX8_transform_47 {L : List (Option Value)} {st : List Value} {H : HP} {Q : Option Value → HP → Prop} : Go 79 47 L st H Q ↔ Go 79 48 L (vi 2 :: st) H Q := G_iconst fX8_transform_47
theorem fX8_transform_48 : ft 79 48 = some (.invokevirtual 92, 105, 0, 271, .null) := by decide +kernel
theorem gX8_transform_48 {L : List (Option Value)} {p : Nat} {a0 : Int32}  {H : HP} {Q : Option Value → HP → Prop} : Go 79 48 L (.int a0 :: .ref p :: []) H Q ↔ (iso 8 (hget H p) = true ∧ Go 105 0 [some (.ref p), some (.int a0)] [] H (Cont 79 51 L [] Q)) := G_cV (n := 1) (N := 2) (as := [.int a0]) (st := []) fX8_transform_48 (by decide +kernel) rfl (Nat.le_of_ble_eq_true rfl) (Nat.le_of_ble_eq_true rfl) rfl
theorem fX8_transform_51 : ft 79 51 = some (.ireturn, 0, 0, 0, .null) := by decide +kernel
theorem gX8_transform_51 {L : List (Option Value)} {u : Int32} {H : HP} {Q : Option Value → HP → Prop} : Go 79 51 L [.int u] H Q ↔ Q (some (.int u)) H := G_iret fX8_transform_51 (by decide +kernel)
theorem fX8_transform_52 : ft 79 52 = some (.aload_n 0, 0, 0, 0, .null) := by decide +kernel
theorem gX8_transform_52 {l1 l2 l3 l4 : Option Value} {u : Nat} {st : List Value} {H : HP} {Q : Option Value → HP → Prop} : Go 79 52 [some (.ref u), l1, l2, l3, l4] st H Q ↔ Go 79 53 [some (.ref u), l1, l2, l3, l4] (.ref u :: st) H Q := G_aload_n fX8_transform_52 rfl
theorem fX8_transform_53 : ft 79 53 = some (.getfield 17, 8, 1, 222, .null) := by decide +kernel
theorem gX8_transform_53 {L : List (Option Value)} {p : Nat} {st : List Value} {H : HP} {Q : Option Value → HP → Prop} : Go 79 53 L (.ref p :: st) H Q ↔ Rd (gF' 8 1 (hget H p)) 79 56 L st H Q := G_getf fX8_transform_53 ⟨rfl, rfl⟩
theorem fX8_transform_56 : ft 79 56 = some (.iload_n 2, 0, 0, 0, .null) := by decide +kernel
theorem gX8_transform_56 {l0 l1 l3 l4 : Option Value} {u : Int32} {st : List Value} {H : HP} {Q : Option Value → HP → Prop} : Go 79 56 [l0, l1, some (.int u), l3, l4] st H Q ↔ Go 79 57 [l0, l1, some (.int u), l3, l4] (.int u :: st) H Q := G_iload_n fX8_transform_56 rfl
theorem fX8_transform_57 : ft 79 57 = some (.aaload, 0, 0, 0, .null) := by decide +kernel
theorem gX8_transform_57 {L : List (Option Value)} {p : Nat} {a : Int} {st : List Value} {H : HP} {Q : Option Value → HP → Prop} : Go 79 57 L (vi a :: .ref p :: st) H Q ↔ Rd (aR' (hget H p) a) 79 58 L st H Q := G_aald fX8_transform_57
theorem fX8_transform_58 : ft 79 58 = some (.aload_n 3, 0, 0, 0, .null) := by decide +kernel
theorem gX8_transform_58 {l0 l1 l2 l4 : Option Value} {u : Nat} {st : List Value} {H : HP} {Q : Option Value → HP → Prop} : Go 79 58 [l0, l1, l2, some (.ref u), l4] st H Q ↔ Go 79 59 [l0, l1, l2, some (.ref u), l4] (.ref u :: st) H Q := G_aload_n fX8_transform_58 rfl
theorem gX8_transform_58N {l0 l1 l2 l4 : Option Value} {st : List Value} {H : HP} {Q : Option Value → HP → Prop} : Go 79 58 [l0, l1, l2, some .null, l4] st H Q ↔ Go 79 59 [l0, l1, l2, some .null, l4] (.null :: st) H Q := G_aload_nN fX8_transform_58 rfl
theorem fX8_transform_59 : ft 79 59 = some (.invokevirtual 102, 55, 0, 302, .null) := by decide +kernel
theorem gX8_transform_59 {L : List (Option Value)} {p : Nat}  {r0 : Nat} {H : HP} {Q : Option Value → HP → Prop} : Go 79 59 L (.ref p :: [.ref r0]) H Q ↔ (iso 5 (hget H p) = true ∧ Go 55 0 [some (.ref p)] [] H (Cont 79 62 L [.ref r0] Q)) := G_cV (n := 0) (N := 1) (as := []) (st := [.ref r0]) fX8_transform_59 (by decide +kernel) rfl (Nat.le_of_ble_eq_true rfl) (Nat.le_of_ble_eq_true rfl) rfl
theorem fX8_transform_62 : ft 79 62 = some (.invokevirtual 136, 35, 0, 376, .null) := by decide +kernel
theorem gX8_transform_62 {L : List (Option Value)} {p : Nat} {a0 : Int32}  {H : HP} {Q : Option Value → HP → Prop} : Go 79 62 L (.int a0 :: .ref p :: []) H Q ↔ (iso 3 (hget H p) = true ∧ Go 35 0 [some (.ref p), some (.int a0)] [] H (Cont 79 65 L [] Q)) := G_cV (n := 1) (N := 2) (as := [.int a0]) (st := []) fX8_transform_62 (by decide +kernel) rfl (Nat.le_of_ble_eq_true rfl) (Nat.le_of_ble_eq_true rfl) rfl
theorem fX8_transform_65 : ft 79 65 = some (.ifCond .ne 6, 0, 0, 0, .null) := by decide +kernel
theorem gX8_transform_65T {L : List (Option Value)} {a : Int} (c : (-2147483648 ≤ a ∧ a ≤ 2147483647) ∧ ¬ a = 0) {st : List Value} {H : HP} {Q : Option Value → HP → Prop} : Go 79 65 L (vi a :: st) H Q ↔ Go 79 71 L st H Q := G_ifT fX8_transform_65 (by decide) c
theorem gX8_transform_65F {L : List (Option Value)} {a : Int} (c : (-2147483648 ≤ a ∧ a ≤ 2147483647) ∧ ¬ (¬ a = 0)) {st : List Value} {H : HP} {Q : Option Value → HP → Prop} : Go 79 65 L (vi a :: st) H Q ↔ Go 79 68 L st H Q := G_ifF (tg := 71) fX8_transform_65 (by decide) c
theorem fX8_transform_68 : ft 79 68 = some (.bipush (-3), 0, 0, 0, .null) := by decide +kernel
theorem gX8_transform_68 {L : List (Option Value)} {st : List Value} {H : HP} {Q : Option Value → HP → Prop} : Go 79 68 L st H Q ↔ Go 79 70 L (vi (-3) :: st) H Q := G_bipush fX8_transform_68 (by decide)
theorem fX8_transform_70 : ft 79 70 = some (.ireturn, 0, 0, 0, .null) := by decide +kernel
theorem gX8_transform_70 {L : List (Option Value)} {u : Int32} {H : HP} {Q : Option Value → HP → Prop} : Go 79 70 L [.int u] H Q ↔ Q (some (.int u)) H := G_iret fX8_transform_70 (by decide +kernel)
theorem fX8_transform_71 : ft 79 71 = some (.iconst 0, 0, 0, 0, .null) := by decide +kernel
theorem gX8_transform_71 {L : List (Option Value)} {st : List Value} {H : HP} {Q : Option Value → HP → Prop} : Go 79 71 L st H Q ↔ Go 79 72 L (vi 0 :: st) H Q := G_iconst fX8_transform_71
theorem fX8_transform_72 : ft 79 72 = some (.istore 4, 0, 0, 0, .null) := by decide +kernel
theorem gX8_transform_72 {l0 l1 l2 l3 l4 : Option Value} {u : Int32} {st : List Value} {H : HP} {Q : Option Value → HP → Prop} : Go 79 72 [l0, l1, l2, l3, l4] (.int u :: st) H Q ↔ Go 79 74 [l0, l1, l2, l3, some (.int u)] st H Q := G_istore fX8_transform_72 rfl
theorem fX8_transform_74 : ft 79 74 = some (.iload 4, 0, 0, 0, .null) := by decide +kernel
theorem gX8_transform_74 {l0 l1 l2 l3 : Option Value} {u : Int32} {st : List Value} {H : HP} {Q : Option Value → HP → Prop} : Go 79 74 [l0, l1, l2, l3, some (.int u)] st H Q ↔ Go 79 76 [l0, l1, l2, l3, some (.int u)] (.int u :: st) H Q := G_iload fX8_transform_74 rfl
theorem fX8_transform_76 : ft 79 76 = some (.aload_n 3, 0, 0, 0, .null) := by decide +kernel
theorem gX8_transform_76 {l0 l1 l2 l4 : Option Value} {u : Nat} {st : List Value} {H : HP} {Q : Option Value → HP → Prop} : Go 79 76 [l0, l1, l2, some (.ref u), l4] st H Q ↔ Go 79 77 [l0, l1, l2, some (.ref u), l4] (.ref u :: st) H Q := G_aload_n fX8_transform_76 rfl
theorem gX8_transform_76N {l0 l1 l2 l4 : Option Value} {st : List Value} {H : HP} {Q : Option Value → HP → Prop} : Go 79 76 [l0, l1, l2, some .null, l4] st H Q ↔ Go 79 77 [l0, l1, l2, some .null, l4] (.null :: st) H Q := G_aload_nN fX8_transform_76 rfl
theorem fX8_transform_77 : ft 79 77 = some (.invokevirtual 102, 55, 0, 302, .null) := by decide +kernel
theorem gX8_transform_77 {L : List (Option Value)} {p : Nat}  {r0 : Int32} {H : HP} {Q : Option Value → HP → Prop} : Go 79 77 L (.ref p :: [.int r0]) H Q ↔ (iso 5 (hget H p) = true ∧ Go 55 0 [some (.ref p)] [] H (Cont 79 80 L [.int r0] Q)) := G_cV (n := 0) (N := 1) (as := []) (st := [.int r0]) fX8_transform_77 (by decide +kernel) rfl (Nat.le_of_ble_eq_true rfl) (Nat.le_of_ble_eq_true rfl) rfl
theorem fX8_transform_80 : ft 79 80 = some (.if_icmp .ge 20, 0, 0, 0, .null) := by decide +kernel
theorem gX8_transform_80T {L : List (Option Value)} {a b : Int} (c : (-2147483648 ≤ a ∧ a ≤ 2147483647 ∧ -2147483648 ≤ b ∧ b ≤ 2147483647) ∧ b ≤ a) {st : List Value} {H : HP} {Q : Option Value → HP → Prop} : Go 79 80 L (vi b :: vi a :: st) H Q ↔ Go 79 100 L st H Q := G_icT fX8_transform_80 (by decide) c
theorem gX8_transform_80F {L : List (Option Value)} {a b : Int} (c : (-2147483648 ≤ a ∧ a ≤ 2147483647 ∧ -2147483648 ≤ b ∧ b ≤ 2147483647) ∧ ¬ (b ≤ a)) {st : List Value} {H : HP} {Q : Option Value → HP → Prop} : Go 79 80 L (vi b :: vi a :: st) H Q ↔ Go 79 83 L st H Q := G_icF (tg := 100) fX8_transform_80 (by decide) c
theorem fX8_transform_83 : ft 79 83 = some (.aload_n 0, 0, 0, 0, .null) := by decide +kernel
theorem gX8_transform_83 {l1 l2 l3 l4 : Option Value} {u : Nat} {st : List Value} {H : HP} {Q : Option Value → HP → Prop} : Go 79 83 [some (.ref u), l1, l2, l3, l4] st H Q ↔ Go 79 84 [some (.ref u), l1, l2, l3, l4] (.ref u :: st) H Q := G_aload_n fX8_transform_83 rfl
theorem fX8_transform_84 : ft 79 84 = some (.getfield 40, 8, 5, 226, .null) := by decide +kernel
theorem gX8_transform_84 {L : List (Option Value)} {p : Nat} {st : List Value} {H : HP} {Q : Option Value → HP → Prop} : Go 79 84 L (.ref p :: st) H Q ↔ Rd (gF' 8 5 (hget H p)) 79 87 L st H Q := G_getf fX8_transform_84 ⟨rfl, rfl⟩
theorem fX8_transform_87 : ft 79 87 = some (.getfield 142, 6, 0, 107, .null) := by decide +kernel
theorem gX8_transform_87 {L : List (Option Value)} {p : Nat} {st : List Value} {H : HP} {Q : Option Value → HP → Prop} : Go 79 87 L (.ref p :: st) H Q ↔ Rd (gF' 6 0 (hget H p)) 79 90 L st H Q := G_getf fX8_transform_87 ⟨rfl, rfl⟩
theorem fX8_transform_90 : ft 79 90 = some (.iload 4, 0, 0, 0, .null) := by decide +kernel
theorem gX8_transform_90 {l0 l1 l2 l3 : Option Value} {u : Int32} {st : List Value} {H : HP} {Q : Option Value → HP → Prop} : Go 79 90 [l0, l1, l2, l3, some (.int u)] st H Q ↔ Go 79 92 [l0, l1, l2, l3, some (.int u)] (.int u :: st) H Q := G_iload fX8_transform_90 rfl
theorem fX8_transform_92 : ft 79 92 = some (.lconst 1, 0, 0, 0, .null) := by decide +kernel
theorem gX8_transform_92 {L : List (Option Value)} {st : List Value} {H : HP} {Q : Option Value → HP → Prop} : Go 79 92 L st H Q ↔ Go 79 93 L (vl 1 :: st) H Q := G_lconst fX8_transform_92 (by decide)
theorem fX8_transform_93 : ft 79 93 = some (.lastore, 0, 0, 0, .null) := by decide +kernel
theorem gX8_transform_93 {L : List (Option Value)} {p : Nat} {a : Int} {b : Int} (hp : p ≠ 0) {st : List Value} {H : HP} {Q : Option Value → HP → Prop} : Go 79 93 L (vl b :: vi a :: .ref p :: st) H Q ↔ Wr (sL' (hget H p) a b) p 79 94 L st H Q := G_last fX8_transform_93 hp
theorem fX8_transform_94 : ft 79 94 = some (.iinc 4 1, 0, 0, 0, .null) := by decide +kernel
theorem gX8_transform_94 {l0 l1 l2 l3 : Option Value} {a : Int} {st : List Value} {H : HP} {Q : Option Value → HP → Prop} : Go 79 94 [l0, l1, l2, l3, some (vi a)] st H Q ↔ Go 79 97 [l0, l1, l2, l3, some (vi (a + 1))] st H Q := G_iinc fX8_transform_94 rfl rfl
theorem fX8_transform_97 : ft 79 97 = some (.goto (-23), 0, 0, 0, .null) := by decide +kernel
theorem gX8_transform_97 {L : List (Option Value)} {st : List Value} {H : HP} {Q : Option Value → HP → Prop} : Go 79 97 L st H Q ↔ Go 79 74 L st H Q := G_goto fX8_transform_97 (by decide)
theorem fX8_transform_100 : ft 79 100 = some (.aload_n 0, 0, 0, 0, .null) := by decide +kernel
theorem gX8_transform_100 {l1 l2 l3 l4 : Option Value} {u : Nat} {st : List Value} {H : HP} {Q : Option Value → HP → Prop} : Go 79 100 [some (.ref u), l1, l2, l3, l4] st H Q ↔ Go 79 101 [some (.ref u), l1, l2, l3, l4] (.ref u :: st) H Q := G_aload_n fX8_transform_100 rfl
theorem fX8_transform_101 : ft 79 101 = some (.getfield 40, 8, 5, 226, .null) := by decide +kernel
theorem gX8_transform_101 {L : List (Option Value)} {p : Nat} {st : List Value} {H : HP} {Q : Option Value → HP → Prop} : Go 79 101 L (.ref p :: st) H Q ↔ Rd (gF' 8 5 (hget H p)) 79 104 L st H Q := G_getf fX8_transform_101 ⟨rfl, rfl⟩
theorem fX8_transform_104 : ft 79 104 = some (.aload_n 3, 0, 0, 0, .null) := by decide +kernel
theorem gX8_transform_104 {l0 l1 l2 l4 : Option Value} {u : Nat} {st : List Value} {H : HP} {Q : Option Value → HP → Prop} : Go 79 104 [l0, l1, l2, some (.ref u), l4] st H Q ↔ Go 79 105 [l0, l1, l2, some (.ref u), l4] (.ref u :: st) H Q := G_aload_n fX8_transform_104 rfl
theorem gX8_transform_104N {l0 l1 l2 l4 : Option Value} {st : List Value} {H : HP} {Q : Option Value → HP → Prop} : Go 79 104 [l0, l1, l2, some .null, l4] st H Q ↔ Go 79 105 [l0, l1, l2, some .null, l4] (.null :: st) H Q := G_aload_nN fX8_transform_104 rfl
theorem fX8_transform_105 : ft 79 105 = some (.invokevirtual 102, 55, 0, 302, .null) := by decide +kernel
theorem gX8_transform_105 {L : List (Option Value)} {p : Nat}  {r0 : Nat} {H : HP} {Q : Option Value → HP → Prop} : Go 79 105 L (.ref p :: [.ref r0]) H Q ↔ (iso 5 (hget H p) = true ∧ Go 55 0 [some (.ref p)] [] H (Cont 79 108 L [.ref r0] Q)) := G_cV (n := 0) (N := 1) (as := []) (st := [.ref r0]) fX8_transform_105 (by decide +kernel) rfl (Nat.le_of_ble_eq_true rfl) (Nat.le_of_ble_eq_true rfl) rfl
theorem fX8_transform_108 : ft 79 108 = some (.putfield 143, 6, 1, 111, .null) := by decide +kernel
theorem gX8_transform_108 {L : List (Option Value)} {p : Nat} {u : Int32} (hp : p ≠ 0) {st : List Value} {H : HP} {Q : Option Value → HP → Prop} : Go 79 108 L (.int u :: .ref p :: st) H Q ↔ Wr (pF' 6 1 (hget H p) (.int u)) p 79 111 L st H Q := G_putf fX8_transform_108 ⟨⟨rfl, rfl⟩, rfl, Or.inl rfl⟩ hp
theorem fX8_transform_111 : ft 79 111 = some (.aload_n 0, 0, 0, 0, .null) := by decide +kernel
theorem gX8_transform_111 {l1 l2 l3 l4 : Option Value} {u : Nat} {st : List Value} {H : HP} {Q : Option Value → HP → Prop} : Go 79 111 [some (.ref u), l1, l2, l3, l4] st H Q ↔ Go 79 112 [some (.ref u), l1, l2, l3, l4] (.ref u :: st) H Q := G_aload_n fX8_transform_111 rfl
theorem fX8_transform_112 : ft 79 112 = some (.iload_n 2, 0, 0, 0, .null) := by decide +kernel
theorem gX8_transform_112 {l0 l1 l3 l4 : Option Value} {u : Int32} {st : List Value} {H : HP} {Q : Option Value → HP → Prop} : Go 79 112 [l0, l1, some (.int u), l3, l4] st H Q ↔ Go 79 113 [l0, l1, some (.int u), l3, l4] (.int u :: st) H Q := G_iload_n fX8_transform_112 rfl
theorem fX8_transform_113 : ft 79 113 = some (.putfield 60, 8, 11, 232, .null) := by decide +kernel
theorem gX8_transform_113 {L : List (Option Value)} {p : Nat} {u : Int32} (hp : p ≠ 0) {st : List Value} {H : HP} {Q : Option Value → HP → Prop} : Go 79 113 L (.int u :: .ref p :: st) H Q ↔ Wr (pF' 8 11 (hget H p) (.int u)) p 79 116 L st H Q := G_putf fX8_transform_113 ⟨⟨rfl, rfl⟩, rfl, Or.inl rfl⟩ hp
theorem fX8_transform_116 : ft 79 116 = some (.aload_n 0, 0, 0, 0, .null) := by decide +kernel
theorem gX8_transform_116 {l1 l2 l3 l4 : Option Value} {u : Nat} {st : List Value} {H : HP} {Q : Option Value → HP → Prop} : Go 79 116 [some (.ref u), l1, l2, l3, l4] st H Q ↔ Go 79 117 [some (.ref u), l1, l2, l3, l4] (.ref u :: st) H Q := G_aload_n fX8_transform_116 rfl
theorem fX8_transform_117 : ft 79 117 = some (.getfield 24, 8, 3, 224, .null) := by decide +kernel
theorem gX8_transform_117 {L : List (Option Value)} {p : Nat} {st : List Value} {H : HP} {Q : Option Value → HP → Prop} : Go 79 117 L (.ref p :: st) H Q ↔ Rd (gF' 8 3 (hget H p)) 79 120 L st H Q := G_getf fX8_transform_117 ⟨rfl, rfl⟩
theorem fX8_transform_120 : ft 79 120 = some (.aload_n 3, 0, 0, 0, .null) := by decide +kernel
theorem gX8_transform_120 {l0 l1 l2 l4 : Option Value} {u : Nat} {st : List Value} {H : HP} {Q : Option Value → HP → Prop} : Go 79 120 [l0, l1, l2, some (.ref u), l4] st H Q ↔ Go 79 121 [l0, l1, l2, some (.ref u), l4] (.ref u :: st) H Q := G_aload_n fX8_transform_120 rfl
theorem gX8_transform_120N {l0 l1 l2 l4 : Option Value} {st : List Value} {H : HP} {Q : Option Value → HP → Prop} : Go 79 120 [l0, l1, l2, some .null, l4] st H Q ↔ Go 79 121 [l0, l1, l2, some .null, l4] (.null :: st) H Q := G_aload_nN fX8_transform_120 rfl
theorem fX8_transform_121 : ft 79 121 = some (.aload_n 0, 0, 0, 0, .null) := by decide +kernel
theorem gX8_transform_121 {l1 l2 l3 l4 : Option Value} {u : Nat} {st : List Value} {H : HP} {Q : Option Value → HP → Prop} : Go 79 121 [some (.ref u), l1, l2, l3, l4] st H Q ↔ Go 79 122 [some (.ref u), l1, l2, l3, l4] (.ref u :: st) H Q := G_aload_n fX8_transform_121 rfl
theorem fX8_transform_122 : ft 79 122 = some (.getfield 17, 8, 1, 222, .null) := by decide +kernel
theorem gX8_transform_122 {L : List (Option Value)} {p : Nat} {st : List Value} {H : HP} {Q : Option Value → HP → Prop} : Go 79 122 L (.ref p :: st) H Q ↔ Rd (gF' 8 1 (hget H p)) 79 125 L st H Q := G_getf fX8_transform_122 ⟨rfl, rfl⟩
theorem fX8_transform_125 : ft 79 125 = some (.iload_n 2, 0, 0, 0, .null) := by decide +kernel
theorem gX8_transform_125 {l0 l1 l3 l4 : Option Value} {u : Int32} {st : List Value} {H : HP} {Q : Option Value → HP → Prop} : Go 79 125 [l0, l1, some (.int u), l3, l4] st H Q ↔ Go 79 126 [l0, l1, some (.int u), l3, l4] (.int u :: st) H Q := G_iload_n fX8_transform_125 rfl
theorem fX8_transform_126 : ft 79 126 = some (.aaload, 0, 0, 0, .null) := by decide +kernel
theorem gX8_transform_126 {L : List (Option Value)} {p : Nat} {a : Int} {st : List Value} {H : HP} {Q : Option Value → HP → Prop} : Go 79 126 L (vi a :: .ref p :: st) H Q ↔ Rd (aR' (hget H p) a) 79 127 L st H Q := G_aald fX8_transform_126
theorem fX8_transform_127 : ft 79 127 = some (.aload_n 0, 0, 0, 0, .null) := by decide +kernel
theorem gX8_transform_127 {l1 l2 l3 l4 : Option Value} {u : Nat} {st : List Value} {H : HP} {Q : Option Value → HP → Prop} : Go 79 127 [some (.ref u), l1, l2, l3, l4] st H Q ↔ Go 79 128 [some (.ref u), l1, l2, l3, l4] (.ref u :: st) H Q := G_aload_n fX8_transform_127 rfl
theorem fX8_transform_128 : ft 79 128 = some (.getfield 40, 8, 5, 226, .null) := by decide +kernel
theorem gX8_transform_128 {L : List (Option Value)} {p : Nat} {st : List Value} {H : HP} {Q : Option Value → HP → Prop} : Go 79 128 L (.ref p :: st) H Q ↔ Rd (gF' 8 5 (hget H p)) 79 131 L st H Q := G_getf fX8_transform_128 ⟨rfl, rfl⟩
theorem fX8_transform_131 : ft 79 131 = some (.invokevirtual 146, 18, 0, 389, .null) := by decide +kernel
theorem gX8_transform_131 {L : List (Option Value)} {p : Nat} {a0 : Nat} {a1 : Nat} {a2 : Nat}  {H : HP} {Q : Option Value → HP → Prop} : Go 79 131 L (.ref a2 :: .ref a1 :: .ref a0 :: .ref p :: []) H Q ↔ (iso 2 (hget H p) = true ∧ Go 18 0 [some (.ref p), some (.ref a0), some (.ref a1), some (.ref a2), none, none, none, none, none] [] H (Cont 79 134 L [] Q)) := G_cV (n := 3) (N := 9) (as := [.ref a2, .ref a1, .ref a0]) (st := []) fX8_transform_131 (by decide +kernel) rfl (Nat.le_of_ble_eq_true rfl) (Nat.le_of_ble_eq_true rfl) rfl
theorem fX8_transform_134 : ft 79 134 = some (.aload_n 0, 0, 0, 0, .null) := by decide +kernel
theorem gX8_transform_134 {l1 l2 l3 l4 : Option Value} {u : Nat} {st : List Value} {H : HP} {Q : Option Value → HP → Prop} : Go 79 134 [some (.ref u), l1, l2, l3, l4] st H Q ↔ Go 79 135 [some (.ref u), l1, l2, l3, l4] (.ref u :: st) H Q := G_aload_n fX8_transform_134 rfl
theorem fX8_transform_135 : ft 79 135 = some (.getfield 40, 8, 5, 226, .null) := by decide +kernel
theorem gX8_transform_135 {L : List (Option Value)} {p : Nat} {st : List Value} {H : HP} {Q : Option Value → HP → Prop} : Go 79 135 L (.ref p :: st) H Q ↔ Rd (gF' 8 5 (hget H p)) 79 138 L st H Q := G_getf fX8_transform_135 ⟨rfl, rfl⟩
theorem fX8_transform_138 : ft 79 138 = some (.getfield 143, 6, 1, 111, .null) := by decide +kernel
theorem gX8_transform_138 {L : List (Option Value)} {p : Nat} {st : List Value} {H : HP} {Q : Option Value → HP → Prop} : Go 79 138 L (.ref p :: st) H Q ↔ Rd (gF' 6 1 (hget H p)) 79 141 L st H Q := G_getf fX8_transform_138 ⟨rfl, rfl⟩
theorem fX8_transform_141 : ft 79 141 = some (.ireturn, 0, 0, 0, .null) := by decide +kernel
theorem gX8_transform_141 {L : List (Option Value)} {u : Int32} {H : HP} {Q : Option Value → HP → Prop} : Go 79 141 L [.int u] H Q ↔ Q (some (.int u)) H := G_iret fX8_transform_141 (by decide +kernel)

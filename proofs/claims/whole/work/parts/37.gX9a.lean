theorem fX9_init_0 : ft 116 0 = some (.aload_n 0, 0, 0, 0, .null) := by decide +kernel
theorem gX9_init_0  {u : Nat} {st : List Value} {H : HP} {Q : Option Value → HP → Prop} : Go 116 0 [some (.ref u)] st H Q ↔ Go 116 1 [some (.ref u)] (.ref u :: st) H Q := G_aload_n fX9_init_0 rfl
theorem fX9_init_1 : ft 116 1 = some (.invokespecial 1, 1000, 0, 753, .null) := by decide +kernel
theorem gX9_init_1 {L : List (Option Value)} {p : Nat}  {H : HP} {Q : Option Value → HP → Prop} : Go 116 1 L (.ref p :: []) H Q ↔ Go 116 4 L [] H Q := G_obj fX9_init_1 rfl ⟨by decide +kernel, Nat.le_trans (m := 20) (Nat.le_of_ble_eq_true rfl) (by decide +kernel)⟩
theorem fX9_init_4 : ft 116 4 = some (.aload_n 0, 0, 0, 0, .null) := by decide +kernel
theorem gX9_init_4  {u : Nat} {st : List Value} {H : HP} {Q : Option Value → HP → Prop} : Go 116 4 [some (.ref u)] st H Q ↔ Go 116 5 [some (.ref u)] (.ref u :: st) H Q := G_aload_n fX9_init_4 rfl
theorem fX9_init_5 : ft 116 5 = some (.bipush 12, 0, 0, 0, .null) := by decide +kernel
theorem gX9_init_5 {L : List (Option Value)} {st : List Value} {H : HP} {Q : Option Value → HP → Prop} : Go 116 5 L st H Q ↔ Go 116 7 L (vi 12 :: st) H Q := G_bipush fX9_init_5 (by decide)
theorem fX9_init_7 : ft 116 7 = some (.newarray .int, 0, 0, 0, .null) := by decide +kernel
theorem gX9_init_7 {L : List (Option Value)} {a : Int} (c : 0 ≤ a ∧ a ≤ 1000000) {st : List Value} {H : HP} {Q : Option Value → HP → Prop} : Go 116 7 L (vi a :: st) H Q ↔ Go 116 9 L (.ref H.1 :: st) (hnew H (cJ a fun _ => 0) a.toNat) Q := G_newJ fX9_init_7 c
theorem fX9_init_9 : ft 116 9 = some (.dup, 0, 0, 0, .null) := by decide +kernel
theorem gX9_init_9 {L : List (Option Value)} {u : Nat} {st : List Value} {H : HP} {Q : Option Value → HP → Prop} : Go 116 9 L (.ref u :: st) H Q ↔ Go 116 10 L (.ref u :: .ref u :: st) H Q := G_dup fX9_init_9 rfl
theorem fX9_init_10 : ft 116 10 = some (.iconst 0, 0, 0, 0, .null) := by decide +kernel
theorem gX9_init_10 {L : List (Option Value)} {st : List Value} {H : HP} {Q : Option Value → HP → Prop} : Go 116 10 L st H Q ↔ Go 116 11 L (vi 0 :: st) H Q := G_iconst fX9_init_10
theorem fX9_init_11 : ft 116 11 = some (.bipush (-9), 0, 0, 0, .null) := by decide +kernel
theorem gX9_init_11 {L : List (Option Value)} {st : List Value} {H : HP} {Q : Option Value → HP → Prop} : Go 116 11 L st H Q ↔ Go 116 13 L (vi (-9) :: st) H Q := G_bipush fX9_init_11 (by decide)
theorem fX9_init_13 : ft 116 13 = some (.iastore, 0, 0, 0, .null) := by decide +kernel
theorem gX9_init_13 {L : List (Option Value)} {p : Nat} {a : Int} {b : Int} (hp : p ≠ 0) {st : List Value} {H : HP} {Q : Option Value → HP → Prop} : Go 116 13 L (vi b :: vi a :: .ref p :: st) H Q ↔ Wr (sJ' (hget H p) a b) p 116 14 L st H Q := G_iast fX9_init_13 hp
theorem fX9_init_14 : ft 116 14 = some (.dup, 0, 0, 0, .null) := by decide +kernel
theorem gX9_init_14 {L : List (Option Value)} {u : Nat} {st : List Value} {H : HP} {Q : Option Value → HP → Prop} : Go 116 14 L (.ref u :: st) H Q ↔ Go 116 15 L (.ref u :: .ref u :: st) H Q := G_dup fX9_init_14 rfl
theorem fX9_init_15 : ft 116 15 = some (.iconst 1, 0, 0, 0, .null) := by decide +kernel
theorem gX9_init_15 {L : List (Option Value)} {st : List Value} {H : HP} {Q : Option Value → HP → Prop} : Go 116 15 L st H Q ↔ Go 116 16 L (vi 1 :: st) H Q := G_iconst fX9_init_15
theorem fX9_init_16 : ft 116 16 = some (.bipush (-9), 0, 0, 0, .null) := by decide +kernel
theorem gX9_init_16 {L : List (Option Value)} {st : List Value} {H : HP} {Q : Option Value → HP → Prop} : Go 116 16 L st H Q ↔ Go 116 18 L (vi (-9) :: st) H Q := G_bipush fX9_init_16 (by decide)
theorem fX9_init_18 : ft 116 18 = some (.iastore, 0, 0, 0, .null) := by decide +kernel
theorem gX9_init_18 {L : List (Option Value)} {p : Nat} {a : Int} {b : Int} (hp : p ≠ 0) {st : List Value} {H : HP} {Q : Option Value → HP → Prop} : Go 116 18 L (vi b :: vi a :: .ref p :: st) H Q ↔ Wr (sJ' (hget H p) a b) p 116 19 L st H Q := G_iast fX9_init_18 hp
theorem fX9_init_19 : ft 116 19 = some (.dup, 0, 0, 0, .null) := by decide +kernel
theorem gX9_init_19 {L : List (Option Value)} {u : Nat} {st : List Value} {H : HP} {Q : Option Value → HP → Prop} : Go 116 19 L (.ref u :: st) H Q ↔ Go 116 20 L (.ref u :: .ref u :: st) H Q := G_dup fX9_init_19 rfl
theorem fX9_init_20 : ft 116 20 = some (.iconst 2, 0, 0, 0, .null) := by decide +kernel
theorem gX9_init_20 {L : List (Option Value)} {st : List Value} {H : HP} {Q : Option Value → HP → Prop} : Go 116 20 L st H Q ↔ Go 116 21 L (vi 2 :: st) H Q := G_iconst fX9_init_20
theorem fX9_init_21 : ft 116 21 = some (.bipush (-9), 0, 0, 0, .null) := by decide +kernel
theorem gX9_init_21 {L : List (Option Value)} {st : List Value} {H : HP} {Q : Option Value → HP → Prop} : Go 116 21 L st H Q ↔ Go 116 23 L (vi (-9) :: st) H Q := G_bipush fX9_init_21 (by decide)
theorem fX9_init_23 : ft 116 23 = some (.iastore, 0, 0, 0, .null) := by decide +kernel
theorem gX9_init_23 {L : List (Option Value)} {p : Nat} {a : Int} {b : Int} (hp : p ≠ 0) {st : List Value} {H : HP} {Q : Option Value → HP → Prop} : Go 116 23 L (vi b :: vi a :: .ref p :: st) H Q ↔ Wr (sJ' (hget H p) a b) p 116 24 L st H Q := G_iast fX9_init_23 hp
theorem fX9_init_24 : ft 116 24 = some (.dup, 0, 0, 0, .null) := by decide +kernel
theorem gX9_init_24 {L : List (Option Value)} {u : Nat} {st : List Value} {H : HP} {Q : Option Value → HP → Prop} : Go 116 24 L (.ref u :: st) H Q ↔ Go 116 25 L (.ref u :: .ref u :: st) H Q := G_dup fX9_init_24 rfl
theorem fX9_init_25 : ft 116 25 = some (.iconst 3, 0, 0, 0, .null) := by decide +kernel
theorem gX9_init_25 {L : List (Option Value)} {st : List Value} {H : HP} {Q : Option Value → HP → Prop} : Go 116 25 L st H Q ↔ Go 116 26 L (vi 3 :: st) H Q := G_iconst fX9_init_25
theorem fX9_init_26 : ft 116 26 = some (.bipush (-9), 0, 0, 0, .null) := by decide +kernel
theorem gX9_init_26 {L : List (Option Value)} {st : List Value} {H : HP} {Q : Option Value → HP → Prop} : Go 116 26 L st H Q ↔ Go 116 28 L (vi (-9) :: st) H Q := G_bipush fX9_init_26 (by decide)
theorem fX9_init_28 : ft 116 28 = some (.iastore, 0, 0, 0, .null) := by decide +kernel
theorem gX9_init_28 {L : List (Option Value)} {p : Nat} {a : Int} {b : Int} (hp : p ≠ 0) {st : List Value} {H : HP} {Q : Option Value → HP → Prop} : Go 116 28 L (vi b :: vi a :: .ref p :: st) H Q ↔ Wr (sJ' (hget H p) a b) p 116 29 L st H Q := G_iast fX9_init_28 hp
theorem fX9_init_29 : ft 116 29 = some (.dup, 0, 0, 0, .null) := by decide +kernel
theorem gX9_init_29 {L : List (Option Value)} {u : Nat} {st : List Value} {H : HP} {Q : Option Value → HP → Prop} : Go 116 29 L (.ref u :: st) H Q ↔ Go 116 30 L (.ref u :: .ref u :: st) H Q := G_dup fX9_init_29 rfl
theorem fX9_init_30 : ft 116 30 = some (.iconst 4, 0, 0, 0, .null) := by decide +kernel
theorem gX9_init_30 {L : List (Option Value)} {st : List Value} {H : HP} {Q : Option Value → HP → Prop} : Go 116 30 L st H Q ↔ Go 116 31 L (vi 4 :: st) H Q := G_iconst fX9_init_30
theorem fX9_init_31 : ft 116 31 = some (.bipush (-9), 0, 0, 0, .null) := by decide +kernel
theorem gX9_init_31 {L : List (Option Value)} {st : List Value} {H : HP} {Q : Option Value → HP → Prop} : Go 116 31 L st H Q ↔ Go 116 33 L (vi (-9) :: st) H Q := G_bipush fX9_init_31 (by decide)
theorem fX9_init_33 : ft 116 33 = some (.iastore, 0, 0, 0, .null) := by decide +kernel
theorem gX9_init_33 {L : List (Option Value)} {p : Nat} {a : Int} {b : Int} (hp : p ≠ 0) {st : List Value} {H : HP} {Q : Option Value → HP → Prop} : Go 116 33 L (vi b :: vi a :: .ref p :: st) H Q ↔ Wr (sJ' (hget H p) a b) p 116 34 L st H Q := G_iast fX9_init_33 hp
theorem fX9_init_34 : ft 116 34 = some (.dup, 0, 0, 0, .null) := by decide +kernel
theorem gX9_init_34 {L : List (Option Value)} {u : Nat} {st : List Value} {H : HP} {Q : Option Value → HP → Prop} : Go 116 34 L (.ref u :: st) H Q ↔ Go 116 35 L (.ref u :: .ref u :: st) H Q := G_dup fX9_init_34 rfl
theorem fX9_init_35 : ft 116 35 = some (.iconst 5, 0, 0, 0, .null) := by decide +kernel
theorem gX9_init_35 {L : List (Option Value)} {st : List Value} {H : HP} {Q : Option Value → HP → Prop} : Go 116 35 L st H Q ↔ Go 116 36 L (vi 5 :: st) H Q := G_iconst fX9_init_35
theorem fX9_init_36 : ft 116 36 = some (.bipush (-9), 0, 0, 0, .null) := by decide +kernel
theorem gX9_init_36 {L : List (Option Value)} {st : List Value} {H : HP} {Q : Option Value → HP → Prop} : Go 116 36 L st H Q ↔ Go 116 38 L (vi (-9) :: st) H Q := G_bipush fX9_init_36 (by decide)
theorem fX9_init_38 : ft 116 38 = some (.iastore, 0, 0, 0, .null) := by decide +kernel
theorem gX9_init_38 {L : List (Option Value)} {p : Nat} {a : Int} {b : Int} (hp : p ≠ 0) {st : List Value} {H : HP} {Q : Option Value → HP → Prop} : Go 116 38 L (vi b :: vi a :: .ref p :: st) H Q ↔ Wr (sJ' (hget H p) a b) p 116 39 L st H Q := G_iast fX9_init_38 hp
theorem fX9_init_39 : ft 116 39 = some (.dup, 0, 0, 0, .null) := by decide +kernel
theorem gX9_init_39 {L : List (Option Value)} {u : Nat} {st : List Value} {H : HP} {Q : Option Value → HP → Prop} : Go 116 39 L (.ref u :: st) H Q ↔ Go 116 40 L (.ref u :: .ref u :: st) H Q := G_dup fX9_init_39 rfl
theorem fX9_init_40 : ft 116 40 = some (.bipush 6, 0, 0, 0, .null) := by decide +kernel
theorem gX9_init_40 {L : List (Option Value)} {st : List Value} {H : HP} {Q : Option Value → HP → Prop} : Go 116 40 L st H Q ↔ Go 116 42 L (vi 6 :: st) H Q := G_bipush fX9_init_40 (by decide)
theorem fX9_init_42 : ft 116 42 = some (.bipush (-9), 0, 0, 0, .null) := by decide +kernel
theorem gX9_init_42 {L : List (Option Value)} {st : List Value} {H : HP} {Q : Option Value → HP → Prop} : Go 116 42 L st H Q ↔ Go 116 44 L (vi (-9) :: st) H Q := G_bipush fX9_init_42 (by decide)
theorem fX9_init_44 : ft 116 44 = some (.iastore, 0, 0, 0, .null) := by decide +kernel
theorem gX9_init_44 {L : List (Option Value)} {p : Nat} {a : Int} {b : Int} (hp : p ≠ 0) {st : List Value} {H : HP} {Q : Option Value → HP → Prop} : Go 116 44 L (vi b :: vi a :: .ref p :: st) H Q ↔ Wr (sJ' (hget H p) a b) p 116 45 L st H Q := G_iast fX9_init_44 hp
theorem fX9_init_45 : ft 116 45 = some (.dup, 0, 0, 0, .null) := by decide +kernel
theorem gX9_init_45 {L : List (Option Value)} {u : Nat} {st : List Value} {H : HP} {Q : Option Value → HP → Prop} : Go 116 45 L (.ref u :: st) H Q ↔ Go 116 46 L (.ref u :: .ref u :: st) H Q := G_dup fX9_init_45 rfl
theorem fX9_init_46 : ft 116 46 = some (.bipush 7, 0, 0, 0, .null) := by decide +kernel
theorem gX9_init_46 {L : List (Option Value)} {st : List Value} {H : HP} {Q : Option Value → HP → Prop} : Go 116 46 L st H Q ↔ Go 116 48 L (vi 7 :: st) H Q := G_bipush fX9_init_46 (by decide)
theorem fX9_init_48 : ft 116 48 = some (.bipush (-9), 0, 0, 0, .null) := by decide +kernel
theorem gX9_init_48 {L : List (Option Value)} {st : List Value} {H : HP} {Q : Option Value → HP → Prop} : Go 116 48 L st H Q ↔ Go 116 50 L (vi (-9) :: st) H Q := G_bipush fX9_init_48 (by decide)
theorem fX9_init_50 : ft 116 50 = some (.iastore, 0, 0, 0, .null) := by decide +kernel
theorem gX9_init_50 {L : List (Option Value)} {p : Nat} {a : Int} {b : Int} (hp : p ≠ 0) {st : List Value} {H : HP} {Q : Option Value → HP → Prop} : Go 116 50 L (vi b :: vi a :: .ref p :: st) H Q ↔ Wr (sJ' (hget H p) a b) p 116 51 L st H Q := G_iast fX9_init_50 hp
theorem fX9_init_51 : ft 116 51 = some (.dup, 0, 0, 0, .null) := by decide +kernel
theorem gX9_init_51 {L : List (Option Value)} {u : Nat} {st : List Value} {H : HP} {Q : Option Value → HP → Prop} : Go 116 51 L (.ref u :: st) H Q ↔ Go 116 52 L (.ref u :: .ref u :: st) H Q := G_dup fX9_init_51 rfl
theorem fX9_init_52 : ft 116 52 = some (.bipush 8, 0, 0, 0, .null) := by decide +kernel
theorem gX9_init_52 {L : List (Option Value)} {st : List Value} {H : HP} {Q : Option Value → HP → Prop} : Go 116 52 L st H Q ↔ Go 116 54 L (vi 8 :: st) H Q := G_bipush fX9_init_52 (by decide)
theorem fX9_init_54 : ft 116 54 = some (.bipush (-9), 0, 0, 0, .null) := by decide +kernel
theorem gX9_init_54 {L : List (Option Value)} {st : List Value} {H : HP} {Q : Option Value → HP → Prop} : Go 116 54 L st H Q ↔ Go 116 56 L (vi (-9) :: st) H Q := G_bipush fX9_init_54 (by decide)
theorem fX9_init_56 : ft 116 56 = some (.iastore, 0, 0, 0, .null) := by decide +kernel
theorem gX9_init_56 {L : List (Option Value)} {p : Nat} {a : Int} {b : Int} (hp : p ≠ 0) {st : List Value} {H : HP} {Q : Option Value → HP → Prop} : Go 116 56 L (vi b :: vi a :: .ref p :: st) H Q ↔ Wr (sJ' (hget H p) a b) p 116 57 L st H Q := G_iast fX9_init_56 hp
theorem fX9_init_57 : ft 116 57 = some (.dup, 0, 0, 0, .null) := by decide +kernel
theorem gX9_init_57 {L : List (Option Value)} {u : Nat} {st : List Value} {H : HP} {Q : Option Value → HP → Prop} : Go 116 57 L (.ref u :: st) H Q ↔ Go 116 58 L (.ref u :: .ref u :: st) H Q := G_dup fX9_init_57 rfl
theorem fX9_init_58 : ft 116 58 = some (.bipush 9, 0, 0, 0, .null) := by decide +kernel
theorem gX9_init_58 {L : List (Option Value)} {st : List Value} {H : HP} {Q : Option Value → HP → Prop} : Go 116 58 L st H Q ↔ Go 116 60 L (vi 9 :: st) H Q := G_bipush fX9_init_58 (by decide)
theorem fX9_init_60 : ft 116 60 = some (.bipush (-9), 0, 0, 0, .null) := by decide +kernel
theorem gX9_init_60 {L : List (Option Value)} {st : List Value} {H : HP} {Q : Option Value → HP → Prop} : Go 116 60 L st H Q ↔ Go 116 62 L (vi (-9) :: st) H Q := G_bipush fX9_init_60 (by decide)
theorem fX9_init_62 : ft 116 62 = some (.iastore, 0, 0, 0, .null) := by decide +kernel
theorem gX9_init_62 {L : List (Option Value)} {p : Nat} {a : Int} {b : Int} (hp : p ≠ 0) {st : List Value} {H : HP} {Q : Option Value → HP → Prop} : Go 116 62 L (vi b :: vi a :: .ref p :: st) H Q ↔ Wr (sJ' (hget H p) a b) p 116 63 L st H Q := G_iast fX9_init_62 hp
theorem fX9_init_63 : ft 116 63 = some (.dup, 0, 0, 0, .null) := by decide +kernel
theorem gX9_init_63 {L : List (Option Value)} {u : Nat} {st : List Value} {H : HP} {Q : Option Value → HP → Prop} : Go 116 63 L (.ref u :: st) H Q ↔ Go 116 64 L (.ref u :: .ref u :: st) H Q := G_dup fX9_init_63 rfl
theorem fX9_init_64 : ft 116 64 = some (.bipush 10, 0, 0, 0, .null) := by decide +kernel
theorem gX9_init_64 {L : List (Option Value)} {st : List Value} {H : HP} {Q : Option Value → HP → Prop} : Go 116 64 L st H Q ↔ Go 116 66 L (vi 10 :: st) H Q := G_bipush fX9_init_64 (by decide)
theorem fX9_init_66 : ft 116 66 = some (.bipush (-9), 0, 0, 0, .null) := by decide +kernel
theorem gX9_init_66 {L : List (Option Value)} {st : List Value} {H : HP} {Q : Option Value → HP → Prop} : Go 116 66 L st H Q ↔ Go 116 68 L (vi (-9) :: st) H Q := G_bipush fX9_init_66 (by decide)
theorem fX9_init_68 : ft 116 68 = some (.iastore, 0, 0, 0, .null) := by decide +kernel
theorem gX9_init_68 {L : List (Option Value)} {p : Nat} {a : Int} {b : Int} (hp : p ≠ 0) {st : List Value} {H : HP} {Q : Option Value → HP → Prop} : Go 116 68 L (vi b :: vi a :: .ref p :: st) H Q ↔ Wr (sJ' (hget H p) a b) p 116 69 L st H Q := G_iast fX9_init_68 hp
theorem fX9_init_69 : ft 116 69 = some (.dup, 0, 0, 0, .null) := by decide +kernel
theorem gX9_init_69 {L : List (Option Value)} {u : Nat} {st : List Value} {H : HP} {Q : Option Value → HP → Prop} : Go 116 69 L (.ref u :: st) H Q ↔ Go 116 70 L (.ref u :: .ref u :: st) H Q := G_dup fX9_init_69 rfl
theorem fX9_init_70 : ft 116 70 = some (.bipush 11, 0, 0, 0, .null) := by decide +kernel
theorem gX9_init_70 {L : List (Option Value)} {st : List Value} {H : HP} {Q : Option Value → HP → Prop} : Go 116 70 L st H Q ↔ Go 116 72 L (vi 11 :: st) H Q := G_bipush fX9_init_70 (by decide)
theorem fX9_init_72 : ft 116 72 = some (.bipush (-9), 0, 0, 0, .null) := by decide +kernel
theorem gX9_init_72 {L : List (Option Value)} {st : List Value} {H : HP} {Q : Option Value → HP → Prop} : Go 116 72 L st H Q ↔ Go 116 74 L (vi (-9) :: st) H Q := G_bipush fX9_init_72 (by decide)
theorem fX9_init_74 : ft 116 74 = some (.iastore, 0, 0, 0, .null) := by decide +kernel
theorem gX9_init_74 {L : List (Option Value)} {p : Nat} {a : Int} {b : Int} (hp : p ≠ 0) {st : List Value} {H : HP} {Q : Option Value → HP → Prop} : Go 116 74 L (vi b :: vi a :: .ref p :: st) H Q ↔ Wr (sJ' (hget H p) a b) p 116 75 L st H Q := G_iast fX9_init_74 hp
theorem fX9_init_75 : ft 116 75 = some (.putfield 9, 9, 1, 755, .null) := by decide +kernel
theorem gX9_init_75 {L : List (Option Value)} {p : Nat} {u : Nat} (hp : p ≠ 0) {st : List Value} {H : HP} {Q : Option Value → HP → Prop} : Go 116 75 L (.ref u :: .ref p :: st) H Q ↔ Wr (pF' 9 1 (hget H p) (.ref u)) p 116 78 L st H Q := G_putf fX9_init_75 ⟨⟨rfl, rfl⟩, rfl, Or.inr (by decide +kernel)⟩ hp
theorem fX9_init_78 : ft 116 78 = some (.aload_n 0, 0, 0, 0, .null) := by decide +kernel
theorem gX9_init_78  {u : Nat} {st : List Value} {H : HP} {Q : Option Value → HP → Prop} : Go 116 78 [some (.ref u)] st H Q ↔ Go 116 79 [some (.ref u)] (.ref u :: st) H Q := G_aload_n fX9_init_78 rfl
theorem fX9_init_79 : ft 116 79 = some (.bipush 13, 0, 0, 0, .null) := by decide +kernel
theorem gX9_init_79 {L : List (Option Value)} {st : List Value} {H : HP} {Q : Option Value → HP → Prop} : Go 116 79 L st H Q ↔ Go 116 81 L (vi 13 :: st) H Q := G_bipush fX9_init_79 (by decide)
theorem fX9_init_81 : ft 116 81 = some (.newarray .int, 0, 0, 0, .null) := by decide +kernel
theorem gX9_init_81 {L : List (Option Value)} {a : Int} (c : 0 ≤ a ∧ a ≤ 1000000) {st : List Value} {H : HP} {Q : Option Value → HP → Prop} : Go 116 81 L (vi a :: st) H Q ↔ Go 116 83 L (.ref H.1 :: st) (hnew H (cJ a fun _ => 0) a.toNat) Q := G_newJ fX9_init_81 c
theorem fX9_init_83 : ft 116 83 = some (.putfield 13, 9, 2, 756, .null) := by decide +kernel
theorem gX9_init_83 {L : List (Option Value)} {p : Nat} {u : Nat} (hp : p ≠ 0) {st : List Value} {H : HP} {Q : Option Value → HP → Prop} : Go 116 83 L (.ref u :: .ref p :: st) H Q ↔ Wr (pF' 9 2 (hget H p) (.ref u)) p 116 86 L st H Q := G_putf fX9_init_83 ⟨⟨rfl, rfl⟩, rfl, Or.inr (by decide +kernel)⟩ hp
theorem fX9_init_86 : ft 116 86 = some (.aload_n 0, 0, 0, 0, .null) := by decide +kernel
theorem gX9_init_86  {u : Nat} {st : List Value} {H : HP} {Q : Option Value → HP → Prop} : Go 116 86 [some (.ref u)] st H Q ↔ Go 116 87 [some (.ref u)] (.ref u :: st) H Q := G_aload_n fX9_init_86 rfl
theorem fX9_init_87 : ft 116 87 = some (.bipush 13, 0, 0, 0, .null) := by decide +kernel
theorem gX9_init_87 {L : List (Option Value)} {st : List Value} {H : HP} {Q : Option Value → HP → Prop} : Go 116 87 L st H Q ↔ Go 116 89 L (vi 13 :: st) H Q := G_bipush fX9_init_87 (by decide)
theorem fX9_init_89 : ft 116 89 = some (.newarray .int, 0, 0, 0, .null) := by decide +kernel
theorem gX9_init_89 {L : List (Option Value)} {a : Int} (c : 0 ≤ a ∧ a ≤ 1000000) {st : List Value} {H : HP} {Q : Option Value → HP → Prop} : Go 116 89 L (vi a :: st) H Q ↔ Go 116 91 L (.ref H.1 :: st) (hnew H (cJ a fun _ => 0) a.toNat) Q := G_newJ fX9_init_89 c
theorem fX9_init_91 : ft 116 91 = some (.putfield 16, 9, 3, 757, .null) := by decide +kernel
theorem gX9_init_91 {L : List (Option Value)} {p : Nat} {u : Nat} (hp : p ≠ 0) {st : List Value} {H : HP} {Q : Option Value → HP → Prop} : Go 116 91 L (.ref u :: .ref p :: st) H Q ↔ Wr (pF' 9 3 (hget H p) (.ref u)) p 116 94 L st H Q := G_putf fX9_init_91 ⟨⟨rfl, rfl⟩, rfl, Or.inr (by decide +kernel)⟩ hp
theorem fX9_init_94 : ft 116 94 = some (.aload_n 0, 0, 0, 0, .null) := by decide +kernel
theorem gX9_init_94  {u : Nat} {st : List Value} {H : HP} {Q : Option Value → HP → Prop} : Go 116 94 [some (.ref u)] st H Q ↔ Go 116 95 [some (.ref u)] (.ref u :: st) H Q := G_aload_n fX9_init_94 rfl
theorem fX9_init_95 : ft 116 95 = some (.sipush 832, 0, 0, 0, .null) := by decide +kernel
theorem gX9_init_95 {L : List (Option Value)} {st : List Value} {H : HP} {Q : Option Value → HP → Prop} : Go 116 95 L st H Q ↔ Go 116 98 L (vi 832 :: st) H Q := G_sipush fX9_init_95 (by decide)
theorem fX9_init_98 : ft 116 98 = some (.newarray .long, 0, 0, 0, .null) := by decide +kernel
theorem gX9_init_98 {L : List (Option Value)} {a : Int} (c : 0 ≤ a ∧ a ≤ 1000000) {st : List Value} {H : HP} {Q : Option Value → HP → Prop} : Go 116 98 L (vi a :: st) H Q ↔ Go 116 100 L (.ref H.1 :: st) (hnew H (cL a fun _ => 0) a.toNat) Q := G_newL fX9_init_98 c
theorem fX9_init_100 : ft 116 100 = some (.putfield 19, 9, 4, 758, .null) := by decide +kernel
theorem gX9_init_100 {L : List (Option Value)} {p : Nat} {u : Nat} (hp : p ≠ 0) {st : List Value} {H : HP} {Q : Option Value → HP → Prop} : Go 116 100 L (.ref u :: .ref p :: st) H Q ↔ Wr (pF' 9 4 (hget H p) (.ref u)) p 116 103 L st H Q := G_putf fX9_init_100 ⟨⟨rfl, rfl⟩, rfl, Or.inr (by decide +kernel)⟩ hp
theorem fX9_init_103 : ft 116 103 = some (.aload_n 0, 0, 0, 0, .null) := by decide +kernel
theorem gX9_init_103  {u : Nat} {st : List Value} {H : HP} {Q : Option Value → HP → Prop} : Go 116 103 [some (.ref u)] st H Q ↔ Go 116 104 [some (.ref u)] (.ref u :: st) H Q := G_aload_n fX9_init_103 rfl
theorem fX9_init_104 : ft 116 104 = some (.bipush (-9), 0, 0, 0, .null) := by decide +kernel
theorem gX9_init_104 {L : List (Option Value)} {st : List Value} {H : HP} {Q : Option Value → HP → Prop} : Go 116 104 L st H Q ↔ Go 116 106 L (vi (-9) :: st) H Q := G_bipush fX9_init_104 (by decide)
theorem fX9_init_106 : ft 116 106 = some (.putfield 23, 9, 6, 760, .null) := by decide +kernel
theorem gX9_init_106 {L : List (Option Value)} {p : Nat} {u : Int32} (hp : p ≠ 0) {st : List Value} {H : HP} {Q : Option Value → HP → Prop} : Go 116 106 L (.int u :: .ref p :: st) H Q ↔ Wr (pF' 9 6 (hget H p) (.int u)) p 116 109 L st H Q := G_putf fX9_init_106 ⟨⟨rfl, rfl⟩, rfl, Or.inl rfl⟩ hp
theorem fX9_init_109 : ft 116 109 = some (.aload_n 0, 0, 0, 0, .null) := by decide +kernel
theorem gX9_init_109  {u : Nat} {st : List Value} {H : HP} {Q : Option Value → HP → Prop} : Go 116 109 [some (.ref u)] st H Q ↔ Go 116 110 [some (.ref u)] (.ref u :: st) H Q := G_aload_n fX9_init_109 rfl
theorem fX9_init_110 : ft 116 110 = some (.bipush 64, 0, 0, 0, .null) := by decide +kernel
theorem gX9_init_110 {L : List (Option Value)} {st : List Value} {H : HP} {Q : Option Value → HP → Prop} : Go 116 110 L st H Q ↔ Go 116 112 L (vi 64 :: st) H Q := G_bipush fX9_init_110 (by decide)
theorem fX9_init_112 : ft 116 112 = some (.newarray .long, 0, 0, 0, .null) := by decide +kernel
theorem gX9_init_112 {L : List (Option Value)} {a : Int} (c : 0 ≤ a ∧ a ≤ 1000000) {st : List Value} {H : HP} {Q : Option Value → HP → Prop} : Go 116 112 L (vi a :: st) H Q ↔ Go 116 114 L (.ref H.1 :: st) (hnew H (cL a fun _ => 0) a.toNat) Q := G_newL fX9_init_112 c
theorem fX9_init_114 : ft 116 114 = some (.putfield 27, 9, 7, 761, .null) := by decide +kernel
theorem gX9_init_114 {L : List (Option Value)} {p : Nat} {u : Nat} (hp : p ≠ 0) {st : List Value} {H : HP} {Q : Option Value → HP → Prop} : Go 116 114 L (.ref u :: .ref p :: st) H Q ↔ Wr (pF' 9 7 (hget H p) (.ref u)) p 116 117 L st H Q := G_putf fX9_init_114 ⟨⟨rfl, rfl⟩, rfl, Or.inr (by decide +kernel)⟩ hp
theorem fX9_init_117 : ft 116 117 = some (.aload_n 0, 0, 0, 0, .null) := by decide +kernel
theorem gX9_init_117  {u : Nat} {st : List Value} {H : HP} {Q : Option Value → HP → Prop} : Go 116 117 [some (.ref u)] st H Q ↔ Go 116 118 [some (.ref u)] (.ref u :: st) H Q := G_aload_n fX9_init_117 rfl
theorem fX9_init_118 : ft 116 118 = some (.sipush 128, 0, 0, 0, .null) := by decide +kernel
theorem gX9_init_118 {L : List (Option Value)} {st : List Value} {H : HP} {Q : Option Value → HP → Prop} : Go 116 118 L st H Q ↔ Go 116 121 L (vi 128 :: st) H Q := G_sipush fX9_init_118 (by decide)
theorem fX9_init_121 : ft 116 121 = some (.newarray .long, 0, 0, 0, .null) := by decide +kernel
theorem gX9_init_121 {L : List (Option Value)} {a : Int} (c : 0 ≤ a ∧ a ≤ 1000000) {st : List Value} {H : HP} {Q : Option Value → HP → Prop} : Go 116 121 L (vi a :: st) H Q ↔ Go 116 123 L (.ref H.1 :: st) (hnew H (cL a fun _ => 0) a.toNat) Q := G_newL fX9_init_121 c
theorem fX9_init_123 : ft 116 123 = some (.putfield 30, 9, 9, 763, .null) := by decide +kernel
theorem gX9_init_123 {L : List (Option Value)} {p : Nat} {u : Nat} (hp : p ≠ 0) {st : List Value} {H : HP} {Q : Option Value → HP → Prop} : Go 116 123 L (.ref u :: .ref p :: st) H Q ↔ Wr (pF' 9 9 (hget H p) (.ref u)) p 116 126 L st H Q := G_putf fX9_init_123 ⟨⟨rfl, rfl⟩, rfl, Or.inr (by decide +kernel)⟩ hp
theorem fX9_init_126 : ft 116 126 = some (.aload_n 0, 0, 0, 0, .null) := by decide +kernel
theorem gX9_init_126  {u : Nat} {st : List Value} {H : HP} {Q : Option Value → HP → Prop} : Go 116 126 [some (.ref u)] st H Q ↔ Go 116 127 [some (.ref u)] (.ref u :: st) H Q := G_aload_n fX9_init_126 rfl
theorem fX9_init_127 : ft 116 127 = some (.sipush 128, 0, 0, 0, .null) := by decide +kernel
theorem gX9_init_127 {L : List (Option Value)} {st : List Value} {H : HP} {Q : Option Value → HP → Prop} : Go 116 127 L st H Q ↔ Go 116 130 L (vi 128 :: st) H Q := G_sipush fX9_init_127 (by decide)
theorem fX9_init_130 : ft 116 130 = some (.newarray .long, 0, 0, 0, .null) := by decide +kernel
theorem gX9_init_130 {L : List (Option Value)} {a : Int} (c : 0 ≤ a ∧ a ≤ 1000000) {st : List Value} {H : HP} {Q : Option Value → HP → Prop} : Go 116 130 L (vi a :: st) H Q ↔ Go 116 132 L (.ref H.1 :: st) (hnew H (cL a fun _ => 0) a.toNat) Q := G_newL fX9_init_130 c
theorem fX9_init_132 : ft 116 132 = some (.putfield 33, 9, 10, 764, .null) := by decide +kernel
theorem gX9_init_132 {L : List (Option Value)} {p : Nat} {u : Nat} (hp : p ≠ 0) {st : List Value} {H : HP} {Q : Option Value → HP → Prop} : Go 116 132 L (.ref u :: .ref p :: st) H Q ↔ Wr (pF' 9 10 (hget H p) (.ref u)) p 116 135 L st H Q := G_putf fX9_init_132 ⟨⟨rfl, rfl⟩, rfl, Or.inr (by decide +kernel)⟩ hp
theorem fX9_init_135 : ft 116 135 = some (.aload_n 0, 0, 0, 0, .null) := by decide +kernel
theorem gX9_init_135  {u : Nat} {st : List Value} {H : HP} {Q : Option Value → HP → Prop} : Go 116 135 [some (.ref u)] st H Q ↔ Go 116 136 [some (.ref u)] (.ref u :: st) H Q := G_aload_n fX9_init_135 rfl
theorem fX9_init_136 : ft 116 136 = some (.bipush 64, 0, 0, 0, .null) := by decide +kernel
theorem gX9_init_136 {L : List (Option Value)} {st : List Value} {H : HP} {Q : Option Value → HP → Prop} : Go 116 136 L st H Q ↔ Go 116 138 L (vi 64 :: st) H Q := G_bipush fX9_init_136 (by decide)
theorem fX9_init_138 : ft 116 138 = some (.newarray .long, 0, 0, 0, .null) := by decide +kernel
theorem gX9_init_138 {L : List (Option Value)} {a : Int} (c : 0 ≤ a ∧ a ≤ 1000000) {st : List Value} {H : HP} {Q : Option Value → HP → Prop} : Go 116 138 L (vi a :: st) H Q ↔ Go 116 140 L (.ref H.1 :: st) (hnew H (cL a fun _ => 0) a.toNat) Q := G_newL fX9_init_138 c
theorem fX9_init_140 : ft 116 140 = some (.putfield 36, 9, 12, 766, .null) := by decide +kernel
theorem gX9_init_140 {L : List (Option Value)} {p : Nat} {u : Nat} (hp : p ≠ 0) {st : List Value} {H : HP} {Q : Option Value → HP → Prop} : Go 116 140 L (.ref u :: .ref p :: st) H Q ↔ Wr (pF' 9 12 (hget H p) (.ref u)) p 116 143 L st H Q := G_putf fX9_init_140 ⟨⟨rfl, rfl⟩, rfl, Or.inr (by decide +kernel)⟩ hp
theorem fX9_init_143 : ft 116 143 = some (.aload_n 0, 0, 0, 0, .null) := by decide +kernel
theorem gX9_init_143  {u : Nat} {st : List Value} {H : HP} {Q : Option Value → HP → Prop} : Go 116 143 [some (.ref u)] st H Q ↔ Go 116 144 [some (.ref u)] (.ref u :: st) H Q := G_aload_n fX9_init_143 rfl
theorem fX9_init_144 : ft 116 144 = some (.bipush 64, 0, 0, 0, .null) := by decide +kernel
theorem gX9_init_144 {L : List (Option Value)} {st : List Value} {H : HP} {Q : Option Value → HP → Prop} : Go 116 144 L st H Q ↔ Go 116 146 L (vi 64 :: st) H Q := G_bipush fX9_init_144 (by decide)
theorem fX9_init_146 : ft 116 146 = some (.newarray .long, 0, 0, 0, .null) := by decide +kernel
theorem gX9_init_146 {L : List (Option Value)} {a : Int} (c : 0 ≤ a ∧ a ≤ 1000000) {st : List Value} {H : HP} {Q : Option Value → HP → Prop} : Go 116 146 L (vi a :: st) H Q ↔ Go 116 148 L (.ref H.1 :: st) (hnew H (cL a fun _ => 0) a.toNat) Q := G_newL fX9_init_146 c
theorem fX9_init_148 : ft 116 148 = some (.putfield 39, 9, 14, 768, .null) := by decide +kernel
theorem gX9_init_148 {L : List (Option Value)} {p : Nat} {u : Nat} (hp : p ≠ 0) {st : List Value} {H : HP} {Q : Option Value → HP → Prop} : Go 116 148 L (.ref u :: .ref p :: st) H Q ↔ Wr (pF' 9 14 (hget H p) (.ref u)) p 116 151 L st H Q := G_putf fX9_init_148 ⟨⟨rfl, rfl⟩, rfl, Or.inr (by decide +kernel)⟩ hp
theorem fX9_init_151 : ft 116 151 = some (.aload_n 0, 0, 0, 0, .null) := by decide +kernel
theorem gX9_init_151  {u : Nat} {st : List Value} {H : HP} {Q : Option Value → HP → Prop} : Go 116 151 [some (.ref u)] st H Q ↔ Go 116 152 [some (.ref u)] (.ref u :: st) H Q := G_aload_n fX9_init_151 rfl
theorem fX9_init_152 : ft 116 152 = some (.bipush 64, 0, 0, 0, .null) := by decide +kernel
theorem gX9_init_152 {L : List (Option Value)} {st : List Value} {H : HP} {Q : Option Value → HP → Prop} : Go 116 152 L st H Q ↔ Go 116 154 L (vi 64 :: st) H Q := G_bipush fX9_init_152 (by decide)
theorem fX9_init_154 : ft 116 154 = some (.newarray .int, 0, 0, 0, .null) := by decide +kernel
theorem gX9_init_154 {L : List (Option Value)} {a : Int} (c : 0 ≤ a ∧ a ≤ 1000000) {st : List Value} {H : HP} {Q : Option Value → HP → Prop} : Go 116 154 L (vi a :: st) H Q ↔ Go 116 156 L (.ref H.1 :: st) (hnew H (cJ a fun _ => 0) a.toNat) Q := G_newJ fX9_init_154 c
theorem fX9_init_156 : ft 116 156 = some (.putfield 42, 9, 16, 770, .null) := by decide +kernel
theorem gX9_init_156 {L : List (Option Value)} {p : Nat} {u : Nat} (hp : p ≠ 0) {st : List Value} {H : HP} {Q : Option Value → HP → Prop} : Go 116 156 L (.ref u :: .ref p :: st) H Q ↔ Wr (pF' 9 16 (hget H p) (.ref u)) p 116 159 L st H Q := G_putf fX9_init_156 ⟨⟨rfl, rfl⟩, rfl, Or.inr (by decide +kernel)⟩ hp
theorem fX9_init_159 : ft 116 159 = some (.aload_n 0, 0, 0, 0, .null) := by decide +kernel
theorem gX9_init_159  {u : Nat} {st : List Value} {H : HP} {Q : Option Value → HP → Prop} : Go 116 159 [some (.ref u)] st H Q ↔ Go 116 160 [some (.ref u)] (.ref u :: st) H Q := G_aload_n fX9_init_159 rfl
theorem fX9_init_160 : ft 116 160 = some (.sipush 128, 0, 0, 0, .null) := by decide +kernel
theorem gX9_init_160 {L : List (Option Value)} {st : List Value} {H : HP} {Q : Option Value → HP → Prop} : Go 116 160 L st H Q ↔ Go 116 163 L (vi 128 :: st) H Q := G_sipush fX9_init_160 (by decide)
theorem fX9_init_163 : ft 116 163 = some (.newarray .long, 0, 0, 0, .null) := by decide +kernel
theorem gX9_init_163 {L : List (Option Value)} {a : Int} (c : 0 ≤ a ∧ a ≤ 1000000) {st : List Value} {H : HP} {Q : Option Value → HP → Prop} : Go 116 163 L (vi a :: st) H Q ↔ Go 116 165 L (.ref H.1 :: st) (hnew H (cL a fun _ => 0) a.toNat) Q := G_newL fX9_init_163 c
theorem fX9_init_165 : ft 116 165 = some (.putfield 45, 9, 18, 772, .null) := by decide +kernel
theorem gX9_init_165 {L : List (Option Value)} {p : Nat} {u : Nat} (hp : p ≠ 0) {st : List Value} {H : HP} {Q : Option Value → HP → Prop} : Go 116 165 L (.ref u :: .ref p :: st) H Q ↔ Wr (pF' 9 18 (hget H p) (.ref u)) p 116 168 L st H Q := G_putf fX9_init_165 ⟨⟨rfl, rfl⟩, rfl, Or.inr (by decide +kernel)⟩ hp
theorem fX9_init_168 : ft 116 168 = some (.aload_n 0, 0, 0, 0, .null) := by decide +kernel
theorem gX9_init_168  {u : Nat} {st : List Value} {H : HP} {Q : Option Value → HP → Prop} : Go 116 168 [some (.ref u)] st H Q ↔ Go 116 169 [some (.ref u)] (.ref u :: st) H Q := G_aload_n fX9_init_168 rfl
theorem fX9_init_169 : ft 116 169 = some (.bipush 64, 0, 0, 0, .null) := by decide +kernel
theorem gX9_init_169 {L : List (Option Value)} {st : List Value} {H : HP} {Q : Option Value → HP → Prop} : Go 116 169 L st H Q ↔ Go 116 171 L (vi 64 :: st) H Q := G_bipush fX9_init_169 (by decide)
theorem fX9_init_171 : ft 116 171 = some (.newarray .long, 0, 0, 0, .null) := by decide +kernel
theorem gX9_init_171 {L : List (Option Value)} {a : Int} (c : 0 ≤ a ∧ a ≤ 1000000) {st : List Value} {H : HP} {Q : Option Value → HP → Prop} : Go 116 171 L (vi a :: st) H Q ↔ Go 116 173 L (.ref H.1 :: st) (hnew H (cL a fun _ => 0) a.toNat) Q := G_newL fX9_init_171 c
theorem fX9_init_173 : ft 116 173 = some (.putfield 48, 9, 19, 773, .null) := by decide +kernel
theorem gX9_init_173 {L : List (Option Value)} {p : Nat} {u : Nat} (hp : p ≠ 0) {st : List Value} {H : HP} {Q : Option Value → HP → Prop} : Go 116 173 L (.ref u :: .ref p :: st) H Q ↔ Wr (pF' 9 19 (hget H p) (.ref u)) p 116 176 L st H Q := G_putf fX9_init_173 ⟨⟨rfl, rfl⟩, rfl, Or.inr (by decide +kernel)⟩ hp
theorem fX9_init_176 : ft 116 176 = some (.aload_n 0, 0, 0, 0, .null) := by decide +kernel
theorem gX9_init_176  {u : Nat} {st : List Value} {H : HP} {Q : Option Value → HP → Prop} : Go 116 176 [some (.ref u)] st H Q ↔ Go 116 177 [some (.ref u)] (.ref u :: st) H Q := G_aload_n fX9_init_176 rfl
theorem fX9_init_177 : ft 116 177 = some (.bipush 64, 0, 0, 0, .null) := by decide +kernel
theorem gX9_init_177 {L : List (Option Value)} {st : List Value} {H : HP} {Q : Option Value → HP → Prop} : Go 116 177 L st H Q ↔ Go 116 179 L (vi 64 :: st) H Q := G_bipush fX9_init_177 (by decide)
theorem fX9_init_179 : ft 116 179 = some (.newarray .long, 0, 0, 0, .null) := by decide +kernel
theorem gX9_init_179 {L : List (Option Value)} {a : Int} (c : 0 ≤ a ∧ a ≤ 1000000) {st : List Value} {H : HP} {Q : Option Value → HP → Prop} : Go 116 179 L (vi a :: st) H Q ↔ Go 116 181 L (.ref H.1 :: st) (hnew H (cL a fun _ => 0) a.toNat) Q := G_newL fX9_init_179 c
theorem fX9_init_181 : ft 116 181 = some (.putfield 51, 9, 20, 774, .null) := by decide +kernel
theorem gX9_init_181 {L : List (Option Value)} {p : Nat} {u : Nat} (hp : p ≠ 0) {st : List Value} {H : HP} {Q : Option Value → HP → Prop} : Go 116 181 L (.ref u :: .ref p :: st) H Q ↔ Wr (pF' 9 20 (hget H p) (.ref u)) p 116 184 L st H Q := G_putf fX9_init_181 ⟨⟨rfl, rfl⟩, rfl, Or.inr (by decide +kernel)⟩ hp
theorem fX9_init_184 : ft 116 184 = some (.aload_n 0, 0, 0, 0, .null) := by decide +kernel
theorem gX9_init_184  {u : Nat} {st : List Value} {H : HP} {Q : Option Value → HP → Prop} : Go 116 184 [some (.ref u)] st H Q ↔ Go 116 185 [some (.ref u)] (.ref u :: st) H Q := G_aload_n fX9_init_184 rfl
theorem fX9_init_185 : ft 116 185 = some (.sipush 400, 0, 0, 0, .null) := by decide +kernel
theorem gX9_init_185 {L : List (Option Value)} {st : List Value} {H : HP} {Q : Option Value → HP → Prop} : Go 116 185 L st H Q ↔ Go 116 188 L (vi 400 :: st) H Q := G_sipush fX9_init_185 (by decide)
theorem fX9_init_188 : ft 116 188 = some (.newarray .int, 0, 0, 0, .null) := by decide +kernel
theorem gX9_init_188 {L : List (Option Value)} {a : Int} (c : 0 ≤ a ∧ a ≤ 1000000) {st : List Value} {H : HP} {Q : Option Value → HP → Prop} : Go 116 188 L (vi a :: st) H Q ↔ Go 116 190 L (.ref H.1 :: st) (hnew H (cJ a fun _ => 0) a.toNat) Q := G_newJ fX9_init_188 c
theorem fX9_init_190 : ft 116 190 = some (.putfield 54, 9, 21, 775, .null) := by decide +kernel
theorem gX9_init_190 {L : List (Option Value)} {p : Nat} {u : Nat} (hp : p ≠ 0) {st : List Value} {H : HP} {Q : Option Value → HP → Prop} : Go 116 190 L (.ref u :: .ref p :: st) H Q ↔ Wr (pF' 9 21 (hget H p) (.ref u)) p 116 193 L st H Q := G_putf fX9_init_190 ⟨⟨rfl, rfl⟩, rfl, Or.inr (by decide +kernel)⟩ hp
theorem fX9_init_193 : ft 116 193 = some (.aload_n 0, 0, 0, 0, .null) := by decide +kernel
theorem gX9_init_193  {u : Nat} {st : List Value} {H : HP} {Q : Option Value → HP → Prop} : Go 116 193 [some (.ref u)] st H Q ↔ Go 116 194 [some (.ref u)] (.ref u :: st) H Q := G_aload_n fX9_init_193 rfl
theorem fX9_init_194 : ft 116 194 = some (.bipush 9, 0, 0, 0, .null) := by decide +kernel
theorem gX9_init_194 {L : List (Option Value)} {st : List Value} {H : HP} {Q : Option Value → HP → Prop} : Go 116 194 L st H Q ↔ Go 116 196 L (vi 9 :: st) H Q := G_bipush fX9_init_194 (by decide)
theorem fX9_init_196 : ft 116 196 = some (.newarray .long, 0, 0, 0, .null) := by decide +kernel
theorem gX9_init_196 {L : List (Option Value)} {a : Int} (c : 0 ≤ a ∧ a ≤ 1000000) {st : List Value} {H : HP} {Q : Option Value → HP → Prop} : Go 116 196 L (vi a :: st) H Q ↔ Go 116 198 L (.ref H.1 :: st) (hnew H (cL a fun _ => 0) a.toNat) Q := G_newL fX9_init_196 c
theorem fX9_init_198 : ft 116 198 = some (.putfield 57, 9, 22, 776, .null) := by decide +kernel
theorem gX9_init_198 {L : List (Option Value)} {p : Nat} {u : Nat} (hp : p ≠ 0) {st : List Value} {H : HP} {Q : Option Value → HP → Prop} : Go 116 198 L (.ref u :: .ref p :: st) H Q ↔ Wr (pF' 9 22 (hget H p) (.ref u)) p 116 201 L st H Q := G_putf fX9_init_198 ⟨⟨rfl, rfl⟩, rfl, Or.inr (by decide +kernel)⟩ hp
theorem fX9_init_201 : ft 116 201 = some (.aload_n 0, 0, 0, 0, .null) := by decide +kernel
theorem gX9_init_201  {u : Nat} {st : List Value} {H : HP} {Q : Option Value → HP → Prop} : Go 116 201 [some (.ref u)] st H Q ↔ Go 116 202 [some (.ref u)] (.ref u :: st) H Q := G_aload_n fX9_init_201 rfl
theorem fX9_init_202 : ft 116 202 = some (.bipush 64, 0, 0, 0, .null) := by decide +kernel
theorem gX9_init_202 {L : List (Option Value)} {st : List Value} {H : HP} {Q : Option Value → HP → Prop} : Go 116 202 L st H Q ↔ Go 116 204 L (vi 64 :: st) H Q := G_bipush fX9_init_202 (by decide)
theorem fX9_init_204 : ft 116 204 = some (.newarray .long, 0, 0, 0, .null) := by decide +kernel
theorem gX9_init_204 {L : List (Option Value)} {a : Int} (c : 0 ≤ a ∧ a ≤ 1000000) {st : List Value} {H : HP} {Q : Option Value → HP → Prop} : Go 116 204 L (vi a :: st) H Q ↔ Go 116 206 L (.ref H.1 :: st) (hnew H (cL a fun _ => 0) a.toNat) Q := G_newL fX9_init_204 c
theorem fX9_init_206 : ft 116 206 = some (.putfield 60, 9, 23, 777, .null) := by decide +kernel
theorem gX9_init_206 {L : List (Option Value)} {p : Nat} {u : Nat} (hp : p ≠ 0) {st : List Value} {H : HP} {Q : Option Value → HP → Prop} : Go 116 206 L (.ref u :: .ref p :: st) H Q ↔ Wr (pF' 9 23 (hget H p) (.ref u)) p 116 209 L st H Q := G_putf fX9_init_206 ⟨⟨rfl, rfl⟩, rfl, Or.inr (by decide +kernel)⟩ hp
theorem fX9_init_209 : ft 116 209 = some (.aload_n 0, 0, 0, 0, .null) := by decide +kernel
theorem gX9_init_209  {u : Nat} {st : List Value} {H : HP} {Q : Option Value → HP → Prop} : Go 116 209 [some (.ref u)] st H Q ↔ Go 116 210 [some (.ref u)] (.ref u :: st) H Q := G_aload_n fX9_init_209 rfl
theorem fX9_init_210 : ft 116 210 = some (.bipush 64, 0, 0, 0, .null) := by decide +kernel
theorem gX9_init_210 {L : List (Option Value)} {st : List Value} {H : HP} {Q : Option Value → HP → Prop} : Go 116 210 L st H Q ↔ Go 116 212 L (vi 64 :: st) H Q := G_bipush fX9_init_210 (by decide)
theorem fX9_init_212 : ft 116 212 = some (.newarray .long, 0, 0, 0, .null) := by decide +kernel
theorem gX9_init_212 {L : List (Option Value)} {a : Int} (c : 0 ≤ a ∧ a ≤ 1000000) {st : List Value} {H : HP} {Q : Option Value → HP → Prop} : Go 116 212 L (vi a :: st) H Q ↔ Go 116 214 L (.ref H.1 :: st) (hnew H (cL a fun _ => 0) a.toNat) Q := G_newL fX9_init_212 c
theorem fX9_init_214 : ft 116 214 = some (.putfield 63, 9, 24, 778, .null) := by decide +kernel
theorem gX9_init_214 {L : List (Option Value)} {p : Nat} {u : Nat} (hp : p ≠ 0) {st : List Value} {H : HP} {Q : Option Value → HP → Prop} : Go 116 214 L (.ref u :: .ref p :: st) H Q ↔ Wr (pF' 9 24 (hget H p) (.ref u)) p 116 217 L st H Q := G_putf fX9_init_214 ⟨⟨rfl, rfl⟩, rfl, Or.inr (by decide +kernel)⟩ hp
theorem fX9_init_217 : ft 116 217 = some (.aload_n 0, 0, 0, 0, .null) := by decide +kernel
theorem gX9_init_217  {u : Nat} {st : List Value} {H : HP} {Q : Option Value → HP → Prop} : Go 116 217 [some (.ref u)] st H Q ↔ Go 116 218 [some (.ref u)] (.ref u :: st) H Q := G_aload_n fX9_init_217 rfl
theorem fX9_init_218 : ft 116 218 = some (.bipush 64, 0, 0, 0, .null) := by decide +kernel
theorem gX9_init_218 {L : List (Option Value)} {st : List Value} {H : HP} {Q : Option Value → HP → Prop} : Go 116 218 L st H Q ↔ Go 116 220 L (vi 64 :: st) H Q := G_bipush fX9_init_218 (by decide)
theorem fX9_init_220 : ft 116 220 = some (.newarray .long, 0, 0, 0, .null) := by decide +kernel
theorem gX9_init_220 {L : List (Option Value)} {a : Int} (c : 0 ≤ a ∧ a ≤ 1000000) {st : List Value} {H : HP} {Q : Option Value → HP → Prop} : Go 116 220 L (vi a :: st) H Q ↔ Go 116 222 L (.ref H.1 :: st) (hnew H (cL a fun _ => 0) a.toNat) Q := G_newL fX9_init_220 c
theorem fX9_init_222 : ft 116 222 = some (.putfield 66, 9, 25, 779, .null) := by decide +kernel
theorem gX9_init_222 {L : List (Option Value)} {p : Nat} {u : Nat} (hp : p ≠ 0) {st : List Value} {H : HP} {Q : Option Value → HP → Prop} : Go 116 222 L (.ref u :: .ref p :: st) H Q ↔ Wr (pF' 9 25 (hget H p) (.ref u)) p 116 225 L st H Q := G_putf fX9_init_222 ⟨⟨rfl, rfl⟩, rfl, Or.inr (by decide +kernel)⟩ hp
theorem fX9_init_225 : ft 116 225 = some (.aload_n 0, 0, 0, 0, .null) := by decide +kernel
theorem gX9_init_225  {u : Nat} {st : List Value} {H : HP} {Q : Option Value → HP → Prop} : Go 116 225 [some (.ref u)] st H Q ↔ Go 116 226 [some (.ref u)] (.ref u :: st) H Q := G_aload_n fX9_init_225 rfl
theorem fX9_init_226 : ft 116 226 = some (.bipush 65, 0, 0, 0, .null) := by decide +kernel
theorem gX9_init_226 {L : List (Option Value)} {st : List Value} {H : HP} {Q : Option Value → HP → Prop} : Go 116 226 L st H Q ↔ Go 116 228 L (vi 65 :: st) H Q := G_bipush fX9_init_226 (by decide)
theorem fX9_init_228 : ft 116 228 = some (.newarray .long, 0, 0, 0, .null) := by decide +kernel
theorem gX9_init_228 {L : List (Option Value)} {a : Int} (c : 0 ≤ a ∧ a ≤ 1000000) {st : List Value} {H : HP} {Q : Option Value → HP → Prop} : Go 116 228 L (vi a :: st) H Q ↔ Go 116 230 L (.ref H.1 :: st) (hnew H (cL a fun _ => 0) a.toNat) Q := G_newL fX9_init_228 c
theorem fX9_init_230 : ft 116 230 = some (.putfield 69, 9, 26, 780, .null) := by decide +kernel
theorem gX9_init_230 {L : List (Option Value)} {p : Nat} {u : Nat} (hp : p ≠ 0) {st : List Value} {H : HP} {Q : Option Value → HP → Prop} : Go 116 230 L (.ref u :: .ref p :: st) H Q ↔ Wr (pF' 9 26 (hget H p) (.ref u)) p 116 233 L st H Q := G_putf fX9_init_230 ⟨⟨rfl, rfl⟩, rfl, Or.inr (by decide +kernel)⟩ hp
theorem fX9_init_233 : ft 116 233 = some (.return_, 0, 0, 0, .null) := by decide +kernel
theorem gX9_init_233 {L : List (Option Value)} {H : HP} {Q : Option Value → HP → Prop} : Go 116 233 L [] H Q ↔ Q none H := G_vret fX9_init_233 (by decide +kernel)
theorem fX9_fails_0 : ft 117 0 = some (.aload_n 0, 0, 0, 0, .null) := by decide +kernel
theorem gX9_fails_0 {l1 : Option Value} {u : Nat} {st : List Value} {H : HP} {Q : Option Value → HP → Prop} : Go 117 0 [some (.ref u), l1] st H Q ↔ Go 117 1 [some (.ref u), l1] (.ref u :: st) H Q := G_aload_n fX9_fails_0 rfl
theorem fX9_fails_1 : ft 117 1 = some (.iload_n 1, 0, 0, 0, .null) := by decide +kernel
theorem gX9_fails_1 {l0 : Option Value} {u : Int32} {st : List Value} {H : HP} {Q : Option Value → HP → Prop} : Go 117 1 [l0, some (.int u)] st H Q ↔ Go 117 2 [l0, some (.int u)] (.int u :: st) H Q := G_iload_n fX9_fails_1 rfl
theorem fX9_fails_2 : ft 117 2 = some (.putfield 72, 9, 0, 754, .null) := by decide +kernel
theorem gX9_fails_2 {L : List (Option Value)} {p : Nat} {u : Int32} (hp : p ≠ 0) {st : List Value} {H : HP} {Q : Option Value → HP → Prop} : Go 117 2 L (.int u :: .ref p :: st) H Q ↔ Wr (pF' 9 0 (hget H p) (.int u)) p 117 5 L st H Q := G_putf fX9_fails_2 ⟨⟨rfl, rfl⟩, rfl, Or.inl rfl⟩ hp
theorem fX9_fails_5 : ft 117 5 = some (.bipush (-10), 0, 0, 0, .null) := by decide +kernel
theorem gX9_fails_5 {L : List (Option Value)} {st : List Value} {H : HP} {Q : Option Value → HP → Prop} : Go 117 5 L st H Q ↔ Go 117 7 L (vi (-10) :: st) H Q := G_bipush fX9_fails_5 (by decide)
theorem fX9_fails_7 : ft 117 7 = some (.iload_n 1, 0, 0, 0, .null) := by decide +kernel
theorem gX9_fails_7 {l0 : Option Value} {u : Int32} {st : List Value} {H : HP} {Q : Option Value → HP → Prop} : Go 117 7 [l0, some (.int u)] st H Q ↔ Go 117 8 [l0, some (.int u)] (.int u :: st) H Q := G_iload_n fX9_fails_7 rfl
theorem fX9_fails_8 : ft 117 8 = some (.isub, 0, 0, 0, .null) := by decide +kernel
theorem gX9_fails_8 {L : List (Option Value)} {a b : Int} {st : List Value} {H : HP} {Q : Option Value → HP → Prop} : Go 117 8 L (vi b :: vi a :: st) H Q ↔ Go 117 9 L (vi (a - b) :: st) H Q := G_isub fX9_fails_8
theorem fX9_fails_9 : ft 117 9 = some (.ireturn, 0, 0, 0, .null) := by decide +kernel
theorem gX9_fails_9 {L : List (Option Value)} {u : Int32} {H : HP} {Q : Option Value → HP → Prop} : Go 117 9 L [.int u] H Q ↔ Q (some (.int u)) H := G_iret fX9_fails_9 (by decide +kernel)
theorem fX9_within_0 : ft 118 0 = some (.iload_n 0, 0, 0, 0, .null) := by decide +kernel
theorem gX9_within_0 {l1 l2 : Option Value} {u : Int32} {st : List Value} {H : HP} {Q : Option Value → HP → Prop} : Go 118 0 [some (.int u), l1, l2] st H Q ↔ Go 118 1 [some (.int u), l1, l2] (.int u :: st) H Q := G_iload_n fX9_within_0 rfl
theorem fX9_within_1 : ft 118 1 = some (.iload_n 1, 0, 0, 0, .null) := by decide +kernel
theorem gX9_within_1 {l0 l2 : Option Value} {u : Int32} {st : List Value} {H : HP} {Q : Option Value → HP → Prop} : Go 118 1 [l0, some (.int u), l2] st H Q ↔ Go 118 2 [l0, some (.int u), l2] (.int u :: st) H Q := G_iload_n fX9_within_1 rfl
theorem fX9_within_2 : ft 118 2 = some (.if_icmp .lt 12, 0, 0, 0, .null) := by decide +kernel
theorem gX9_within_2T {L : List (Option Value)} {a b : Int} (c : (-2147483648 ≤ a ∧ a ≤ 2147483647 ∧ -2147483648 ≤ b ∧ b ≤ 2147483647) ∧ a < b) {st : List Value} {H : HP} {Q : Option Value → HP → Prop} : Go 118 2 L (vi b :: vi a :: st) H Q ↔ Go 118 14 L st H Q := G_icT fX9_within_2 (by decide) c
theorem gX9_within_2F {L : List (Option Value)} {a b : Int} (c : (-2147483648 ≤ a ∧ a ≤ 2147483647 ∧ -2147483648 ≤ b ∧ b ≤ 2147483647) ∧ ¬ (a < b)) {st : List Value} {H : HP} {Q : Option Value → HP → Prop} : Go 118 2 L (vi b :: vi a :: st) H Q ↔ Go 118 5 L st H Q := G_icF (tg := 14) fX9_within_2 (by decide) c
theorem fX9_within_5 : ft 118 5 = some (.iload_n 0, 0, 0, 0, .null) := by decide +kernel
theorem gX9_within_5 {l1 l2 : Option Value} {u : Int32} {st : List Value} {H : HP} {Q : Option Value → HP → Prop} : Go 118 5 [some (.int u), l1, l2] st H Q ↔ Go 118 6 [some (.int u), l1, l2] (.int u :: st) H Q := G_iload_n fX9_within_5 rfl
theorem fX9_within_6 : ft 118 6 = some (.iload_n 2, 0, 0, 0, .null) := by decide +kernel
theorem gX9_within_6 {l0 l1 : Option Value} {u : Int32} {st : List Value} {H : HP} {Q : Option Value → HP → Prop} : Go 118 6 [l0, l1, some (.int u)] st H Q ↔ Go 118 7 [l0, l1, some (.int u)] (.int u :: st) H Q := G_iload_n fX9_within_6 rfl
theorem fX9_within_7 : ft 118 7 = some (.if_icmp .gt 7, 0, 0, 0, .null) := by decide +kernel
theorem gX9_within_7T {L : List (Option Value)} {a b : Int} (c : (-2147483648 ≤ a ∧ a ≤ 2147483647 ∧ -2147483648 ≤ b ∧ b ≤ 2147483647) ∧ b < a) {st : List Value} {H : HP} {Q : Option Value → HP → Prop} : Go 118 7 L (vi b :: vi a :: st) H Q ↔ Go 118 14 L st H Q := G_icT fX9_within_7 (by decide) c
theorem gX9_within_7F {L : List (Option Value)} {a b : Int} (c : (-2147483648 ≤ a ∧ a ≤ 2147483647 ∧ -2147483648 ≤ b ∧ b ≤ 2147483647) ∧ ¬ (b < a)) {st : List Value} {H : HP} {Q : Option Value → HP → Prop} : Go 118 7 L (vi b :: vi a :: st) H Q ↔ Go 118 10 L st H Q := G_icF (tg := 14) fX9_within_7 (by decide) c
theorem fX9_within_10 : ft 118 10 = some (.iconst 1, 0, 0, 0, .null) := by decide +kernel
theorem gX9_within_10 {L : List (Option Value)} {st : List Value} {H : HP} {Q : Option Value → HP → Prop} : Go 118 10 L st H Q ↔ Go 118 11 L (vi 1 :: st) H Q := G_iconst fX9_within_10
theorem fX9_within_11 : ft 118 11 = some (.goto 4, 0, 0, 0, .null) := by decide +kernel
theorem gX9_within_11 {L : List (Option Value)} {st : List Value} {H : HP} {Q : Option Value → HP → Prop} : Go 118 11 L st H Q ↔ Go 118 15 L st H Q := G_goto fX9_within_11 (by decide)
theorem fX9_within_14 : ft 118 14 = some (.iconst 0, 0, 0, 0, .null) := by decide +kernel
theorem gX9_within_14 {L : List (Option Value)} {st : List Value} {H : HP} {Q : Option Value → HP → Prop} : Go 118 14 L st H Q ↔ Go 118 15 L (vi 0 :: st) H Q := G_iconst fX9_within_14
theorem fX9_within_15 : ft 118 15 = some (.ireturn, 0, 0, 0, .null) := by decide +kernel
theorem gX9_within_15 {L : List (Option Value)} {a : Int} (c : a = 0 ∨ a = 1) {H : HP} {Q : Option Value → HP → Prop} : Go 118 15 L [vi a] H Q ↔ Q (some (vi a)) H := G_zret fX9_within_15 (by decide +kernel) c
theorem fX9_isPlace_0 : ft 119 0 = some (.iload_n 0, 0, 0, 0, .null) := by decide +kernel
theorem gX9_isPlace_0  {u : Int32} {st : List Value} {H : HP} {Q : Option Value → HP → Prop} : Go 119 0 [some (.int u)] st H Q ↔ Go 119 1 [some (.int u)] (.int u :: st) H Q := G_iload_n fX9_isPlace_0 rfl
theorem fX9_isPlace_1 : ft 119 1 = some (.iconst 0, 0, 0, 0, .null) := by decide +kernel
theorem gX9_isPlace_1 {L : List (Option Value)} {st : List Value} {H : HP} {Q : Option Value → HP → Prop} : Go 119 1 L st H Q ↔ Go 119 2 L (vi 0 :: st) H Q := G_iconst fX9_isPlace_1
theorem fX9_isPlace_2 : ft 119 2 = some (.bipush 11, 0, 0, 0, .null) := by decide +kernel
theorem gX9_isPlace_2 {L : List (Option Value)} {st : List Value} {H : HP} {Q : Option Value → HP → Prop} : Go 119 2 L st H Q ↔ Go 119 4 L (vi 11 :: st) H Q := G_bipush fX9_isPlace_2 (by decide)
theorem fX9_isPlace_4 : ft 119 4 = some (.invokestatic 75, 118, 0, 844, .null) := by decide +kernel
theorem gX9_isPlace_4 {L : List (Option Value)} {a0 : Int32} {a1 : Int32} {a2 : Int32}  {H : HP} {Q : Option Value → HP → Prop} : Go 119 4 L (.int a2 :: .int a1 :: .int a0 :: []) H Q ↔ Go 118 0 [some (.int a0), some (.int a1), some (.int a2)] [] H (Cont 119 7 L [] Q) := G_cS (n := 3) (N := 3) (as := [.int a2, .int a1, .int a0]) (st := []) fX9_isPlace_4 (by decide +kernel) rfl (Nat.le_of_ble_eq_true rfl) (Nat.le_of_ble_eq_true rfl) rfl
theorem fX9_isPlace_7 : ft 119 7 = some (.ireturn, 0, 0, 0, .null) := by decide +kernel
theorem gX9_isPlace_7 {L : List (Option Value)} {a : Int} (c : a = 0 ∨ a = 1) {H : HP} {Q : Option Value → HP → Prop} : Go 119 7 L [vi a] H Q ↔ Q (some (vi a)) H := G_zret fX9_isPlace_7 (by decide +kernel) c
theorem fX9_isPrime_0 : ft 120 0 = some (.iload_n 0, 0, 0, 0, .null) := by decide +kernel
theorem gX9_isPrime_0  {u : Int32} {st : List Value} {H : HP} {Q : Option Value → HP → Prop} : Go 120 0 [some (.int u)] st H Q ↔ Go 120 1 [some (.int u)] (.int u :: st) H Q := G_iload_n fX9_isPrime_0 rfl
theorem fX9_isPrime_1 : ft 120 1 = some (.iconst 0, 0, 0, 0, .null) := by decide +kernel
theorem gX9_isPrime_1 {L : List (Option Value)} {st : List Value} {H : HP} {Q : Option Value → HP → Prop} : Go 120 1 L st H Q ↔ Go 120 2 L (vi 0 :: st) H Q := G_iconst fX9_isPrime_1
theorem fX9_isPrime_2 : ft 120 2 = some (.iconst 2, 0, 0, 0, .null) := by decide +kernel
theorem gX9_isPrime_2 {L : List (Option Value)} {st : List Value} {H : HP} {Q : Option Value → HP → Prop} : Go 120 2 L st H Q ↔ Go 120 3 L (vi 2 :: st) H Q := G_iconst fX9_isPrime_2
theorem fX9_isPrime_3 : ft 120 3 = some (.invokestatic 75, 118, 0, 844, .null) := by decide +kernel
theorem gX9_isPrime_3 {L : List (Option Value)} {a0 : Int32} {a1 : Int32} {a2 : Int32}  {H : HP} {Q : Option Value → HP → Prop} : Go 120 3 L (.int a2 :: .int a1 :: .int a0 :: []) H Q ↔ Go 118 0 [some (.int a0), some (.int a1), some (.int a2)] [] H (Cont 120 6 L [] Q) := G_cS (n := 3) (N := 3) (as := [.int a2, .int a1, .int a0]) (st := []) fX9_isPrime_3 (by decide +kernel) rfl (Nat.le_of_ble_eq_true rfl) (Nat.le_of_ble_eq_true rfl) rfl
theorem fX9_isPrime_6 : ft 120 6 = some (.ireturn, 0, 0, 0, .null) := by decide +kernel
theorem gX9_isPrime_6 {L : List (Option Value)} {a : Int} (c : a = 0 ∨ a = 1) {H : HP} {Q : Option Value → HP → Prop} : Go 120 6 L [vi a] H Q ↔ Q (some (vi a)) H := G_zret fX9_isPrime_6 (by decide +kernel) c
theorem fX9_prime_0 : ft 121 0 = some (.iload_n 0, 0, 0, 0, .null) := by decide +kernel
theorem gX9_prime_0  {u : Int32} {st : List Value} {H : HP} {Q : Option Value → HP → Prop} : Go 121 0 [some (.int u)] st H Q ↔ Go 121 1 [some (.int u)] (.int u :: st) H Q := G_iload_n fX9_prime_0 rfl
theorem fX9_prime_1 : ft 121 1 = some (.ifCond .ne 9, 0, 0, 0, .null) := by decide +kernel
theorem gX9_prime_1T {L : List (Option Value)} {a : Int} (c : (-2147483648 ≤ a ∧ a ≤ 2147483647) ∧ ¬ a = 0) {st : List Value} {H : HP} {Q : Option Value → HP → Prop} : Go 121 1 L (vi a :: st) H Q ↔ Go 121 10 L st H Q := G_ifT fX9_prime_1 (by decide) c
theorem gX9_prime_1F {L : List (Option Value)} {a : Int} (c : (-2147483648 ≤ a ∧ a ≤ 2147483647) ∧ ¬ (¬ a = 0)) {st : List Value} {H : HP} {Q : Option Value → HP → Prop} : Go 121 1 L (vi a :: st) H Q ↔ Go 121 4 L st H Q := G_ifF (tg := 10) fX9_prime_1 (by decide) c
theorem fX9_prime_4 : ft 121 4 = some (.ldc2_w 79, 0, 0, 921, .long (998244353)) := by decide +kernel
theorem gX9_prime_4 {L : List (Option Value)} {st : List Value} {H : HP} {Q : Option Value → HP → Prop} : Go 121 4 L st H Q ↔ Go 121 7 L (vl (998244353) :: st) H Q := G_ldcl fX9_prime_4 (by decide +kernel)
theorem fX9_prime_7 : ft 121 7 = some (.goto 17, 0, 0, 0, .null) := by decide +kernel
theorem gX9_prime_7 {L : List (Option Value)} {st : List Value} {H : HP} {Q : Option Value → HP → Prop} : Go 121 7 L st H Q ↔ Go 121 24 L st H Q := G_goto fX9_prime_7 (by decide)
theorem fX9_prime_10 : ft 121 10 = some (.iload_n 0, 0, 0, 0, .null) := by decide +kernel
theorem gX9_prime_10  {u : Int32} {st : List Value} {H : HP} {Q : Option Value → HP → Prop} : Go 121 10 [some (.int u)] st H Q ↔ Go 121 11 [some (.int u)] (.int u :: st) H Q := G_iload_n fX9_prime_10 rfl
theorem fX9_prime_11 : ft 121 11 = some (.iconst 1, 0, 0, 0, .null) := by decide +kernel
theorem gX9_prime_11 {L : List (Option Value)} {st : List Value} {H : HP} {Q : Option Value → HP → Prop} : Go 121 11 L st H Q ↔ Go 121 12 L (vi 1 :: st) H Q := G_iconst fX9_prime_11
theorem fX9_prime_12 : ft 121 12 = some (.if_icmp .ne 9, 0, 0, 0, .null) := by decide +kernel
theorem gX9_prime_12T {L : List (Option Value)} {a b : Int} (c : (-2147483648 ≤ a ∧ a ≤ 2147483647 ∧ -2147483648 ≤ b ∧ b ≤ 2147483647) ∧ ¬ a = b) {st : List Value} {H : HP} {Q : Option Value → HP → Prop} : Go 121 12 L (vi b :: vi a :: st) H Q ↔ Go 121 21 L st H Q := G_icT fX9_prime_12 (by decide) c
theorem gX9_prime_12F {L : List (Option Value)} {a b : Int} (c : (-2147483648 ≤ a ∧ a ≤ 2147483647 ∧ -2147483648 ≤ b ∧ b ≤ 2147483647) ∧ ¬ (¬ a = b)) {st : List Value} {H : HP} {Q : Option Value → HP → Prop} : Go 121 12 L (vi b :: vi a :: st) H Q ↔ Go 121 15 L st H Q := G_icF (tg := 21) fX9_prime_12 (by decide) c
theorem fX9_prime_15 : ft 121 15 = some (.ldc2_w 81, 0, 0, 922, .long (1004535809)) := by decide +kernel
theorem gX9_prime_15 {L : List (Option Value)} {st : List Value} {H : HP} {Q : Option Value → HP → Prop} : Go 121 15 L st H Q ↔ Go 121 18 L (vl (1004535809) :: st) H Q := G_ldcl fX9_prime_15 (by decide +kernel)
theorem fX9_prime_18 : ft 121 18 = some (.goto 6, 0, 0, 0, .null) := by decide +kernel
theorem gX9_prime_18 {L : List (Option Value)} {st : List Value} {H : HP} {Q : Option Value → HP → Prop} : Go 121 18 L st H Q ↔ Go 121 24 L st H Q := G_goto fX9_prime_18 (by decide)
theorem fX9_prime_21 : ft 121 21 = some (.ldc2_w 83, 0, 0, 923, .long (469762049)) := by decide +kernel
theorem gX9_prime_21 {L : List (Option Value)} {st : List Value} {H : HP} {Q : Option Value → HP → Prop} : Go 121 21 L st H Q ↔ Go 121 24 L (vl (469762049) :: st) H Q := G_ldcl fX9_prime_21 (by decide +kernel)
theorem fX9_prime_24 : ft 121 24 = some (.lreturn, 0, 0, 0, .null) := by decide +kernel
theorem gX9_prime_24 {L : List (Option Value)} {u : Int64} {H : HP} {Q : Option Value → HP → Prop} : Go 121 24 L [.long u] H Q ↔ Q (some (.long u)) H := G_lret fX9_prime_24 (by decide +kernel)
theorem fX9_renew_0 : ft 122 0 = some (.iconst 0, 0, 0, 0, .null) := by decide +kernel
theorem gX9_renew_0 {L : List (Option Value)} {st : List Value} {H : HP} {Q : Option Value → HP → Prop} : Go 122 0 L st H Q ↔ Go 122 1 L (vi 0 :: st) H Q := G_iconst fX9_renew_0
theorem fX9_renew_1 : ft 122 1 = some (.istore 4, 0, 0, 0, .null) := by decide +kernel
theorem gX9_renew_1 {l0 l1 l2 l3 l4 l5 l6 : Option Value} {u : Int32} {st : List Value} {H : HP} {Q : Option Value → HP → Prop} : Go 122 1 [l0, l1, l2, l3, l4, l5, l6] (.int u :: st) H Q ↔ Go 122 3 [l0, l1, l2, l3, some (.int u), l5, l6] st H Q := G_istore fX9_renew_1 rfl
theorem fX9_renew_3 : ft 122 3 = some (.iconst 1, 0, 0, 0, .null) := by decide +kernel
theorem gX9_renew_3 {L : List (Option Value)} {st : List Value} {H : HP} {Q : Option Value → HP → Prop} : Go 122 3 L st H Q ↔ Go 122 4 L (vi 1 :: st) H Q := G_iconst fX9_renew_3
theorem fX9_renew_4 : ft 122 4 = some (.istore 5, 0, 0, 0, .null) := by decide +kernel
theorem gX9_renew_4 {l0 l1 l2 l3 l4 l5 l6 : Option Value} {u : Int32} {st : List Value} {H : HP} {Q : Option Value → HP → Prop} : Go 122 4 [l0, l1, l2, l3, l4, l5, l6] (.int u :: st) H Q ↔ Go 122 6 [l0, l1, l2, l3, l4, some (.int u), l6] st H Q := G_istore fX9_renew_4 rfl
theorem fX9_renew_6 : ft 122 6 = some (.iload 5, 0, 0, 0, .null) := by decide +kernel
theorem gX9_renew_6 {l0 l1 l2 l3 l4 l6 : Option Value} {u : Int32} {st : List Value} {H : HP} {Q : Option Value → HP → Prop} : Go 122 6 [l0, l1, l2, l3, l4, some (.int u), l6] st H Q ↔ Go 122 8 [l0, l1, l2, l3, l4, some (.int u), l6] (.int u :: st) H Q := G_iload fX9_renew_6 rfl
theorem fX9_renew_8 : ft 122 8 = some (.ifCond .eq 62, 0, 0, 0, .null) := by decide +kernel
theorem gX9_renew_8T {L : List (Option Value)} {a : Int} (c : (-2147483648 ≤ a ∧ a ≤ 2147483647) ∧ a = 0) {st : List Value} {H : HP} {Q : Option Value → HP → Prop} : Go 122 8 L (vi a :: st) H Q ↔ Go 122 70 L st H Q := G_ifT fX9_renew_8 (by decide) c
theorem gX9_renew_8F {L : List (Option Value)} {a : Int} (c : (-2147483648 ≤ a ∧ a ≤ 2147483647) ∧ ¬ (a = 0)) {st : List Value} {H : HP} {Q : Option Value → HP → Prop} : Go 122 8 L (vi a :: st) H Q ↔ Go 122 11 L st H Q := G_ifF (tg := 70) fX9_renew_8 (by decide) c
theorem fX9_renew_11 : ft 122 11 = some (.iconst 0, 0, 0, 0, .null) := by decide +kernel
theorem gX9_renew_11 {L : List (Option Value)} {st : List Value} {H : HP} {Q : Option Value → HP → Prop} : Go 122 11 L st H Q ↔ Go 122 12 L (vi 0 :: st) H Q := G_iconst fX9_renew_11
theorem fX9_renew_12 : ft 122 12 = some (.istore 5, 0, 0, 0, .null) := by decide +kernel
theorem gX9_renew_12 {l0 l1 l2 l3 l4 l5 l6 : Option Value} {u : Int32} {st : List Value} {H : HP} {Q : Option Value → HP → Prop} : Go 122 12 [l0, l1, l2, l3, l4, l5, l6] (.int u :: st) H Q ↔ Go 122 14 [l0, l1, l2, l3, l4, some (.int u), l6] st H Q := G_istore fX9_renew_12 rfl
theorem fX9_renew_14 : ft 122 14 = some (.iconst 0, 0, 0, 0, .null) := by decide +kernel
theorem gX9_renew_14 {L : List (Option Value)} {st : List Value} {H : HP} {Q : Option Value → HP → Prop} : Go 122 14 L st H Q ↔ Go 122 15 L (vi 0 :: st) H Q := G_iconst fX9_renew_14
theorem fX9_renew_15 : ft 122 15 = some (.istore 6, 0, 0, 0, .null) := by decide +kernel
theorem gX9_renew_15 {l0 l1 l2 l3 l4 l5 l6 : Option Value} {u : Int32} {st : List Value} {H : HP} {Q : Option Value → HP → Prop} : Go 122 15 [l0, l1, l2, l3, l4, l5, l6] (.int u :: st) H Q ↔ Go 122 17 [l0, l1, l2, l3, l4, l5, some (.int u)] st H Q := G_istore fX9_renew_15 rfl
theorem fX9_renew_17 : ft 122 17 = some (.iload 6, 0, 0, 0, .null) := by decide +kernel
theorem gX9_renew_17 {l0 l1 l2 l3 l4 l5 : Option Value} {u : Int32} {st : List Value} {H : HP} {Q : Option Value → HP → Prop} : Go 122 17 [l0, l1, l2, l3, l4, l5, some (.int u)] st H Q ↔ Go 122 19 [l0, l1, l2, l3, l4, l5, some (.int u)] (.int u :: st) H Q := G_iload fX9_renew_17 rfl
theorem fX9_renew_19 : ft 122 19 = some (.bipush 12, 0, 0, 0, .null) := by decide +kernel
theorem gX9_renew_19 {L : List (Option Value)} {st : List Value} {H : HP} {Q : Option Value → HP → Prop} : Go 122 19 L st H Q ↔ Go 122 21 L (vi 12 :: st) H Q := G_bipush fX9_renew_19 (by decide)
theorem fX9_renew_21 : ft 122 21 = some (.if_icmp .ge 31, 0, 0, 0, .null) := by decide +kernel
theorem gX9_renew_21T {L : List (Option Value)} {a b : Int} (c : (-2147483648 ≤ a ∧ a ≤ 2147483647 ∧ -2147483648 ≤ b ∧ b ≤ 2147483647) ∧ b ≤ a) {st : List Value} {H : HP} {Q : Option Value → HP → Prop} : Go 122 21 L (vi b :: vi a :: st) H Q ↔ Go 122 52 L st H Q := G_icT fX9_renew_21 (by decide) c
theorem gX9_renew_21F {L : List (Option Value)} {a b : Int} (c : (-2147483648 ≤ a ∧ a ≤ 2147483647 ∧ -2147483648 ≤ b ∧ b ≤ 2147483647) ∧ ¬ (b ≤ a)) {st : List Value} {H : HP} {Q : Option Value → HP → Prop} : Go 122 21 L (vi b :: vi a :: st) H Q ↔ Go 122 24 L st H Q := G_icF (tg := 52) fX9_renew_21 (by decide) c
theorem fX9_renew_24 : ft 122 24 = some (.iload 5, 0, 0, 0, .null) := by decide +kernel
theorem gX9_renew_24 {l0 l1 l2 l3 l4 l6 : Option Value} {u : Int32} {st : List Value} {H : HP} {Q : Option Value → HP → Prop} : Go 122 24 [l0, l1, l2, l3, l4, some (.int u), l6] st H Q ↔ Go 122 26 [l0, l1, l2, l3, l4, some (.int u), l6] (.int u :: st) H Q := G_iload fX9_renew_24 rfl
theorem fX9_renew_26 : ft 122 26 = some (.aload_n 0, 0, 0, 0, .null) := by decide +kernel
theorem gX9_renew_26 {l1 l2 l3 l4 l5 l6 : Option Value} {u : Nat} {st : List Value} {H : HP} {Q : Option Value → HP → Prop} : Go 122 26 [some (.ref u), l1, l2, l3, l4, l5, l6] st H Q ↔ Go 122 27 [some (.ref u), l1, l2, l3, l4, l5, l6] (.ref u :: st) H Q := G_aload_n fX9_renew_26 rfl
theorem fX9_renew_27 : ft 122 27 = some (.getfield 9, 9, 1, 755, .null) := by decide +kernel
theorem gX9_renew_27 {L : List (Option Value)} {p : Nat} {st : List Value} {H : HP} {Q : Option Value → HP → Prop} : Go 122 27 L (.ref p :: st) H Q ↔ Rd (gF' 9 1 (hget H p)) 122 30 L st H Q := G_getf fX9_renew_27 ⟨rfl, rfl⟩
theorem fX9_renew_30 : ft 122 30 = some (.iload 6, 0, 0, 0, .null) := by decide +kernel
theorem gX9_renew_30 {l0 l1 l2 l3 l4 l5 : Option Value} {u : Int32} {st : List Value} {H : HP} {Q : Option Value → HP → Prop} : Go 122 30 [l0, l1, l2, l3, l4, l5, some (.int u)] st H Q ↔ Go 122 32 [l0, l1, l2, l3, l4, l5, some (.int u)] (.int u :: st) H Q := G_iload fX9_renew_30 rfl
theorem fX9_renew_32 : ft 122 32 = some (.iaload, 0, 0, 0, .null) := by decide +kernel
theorem gX9_renew_32 {L : List (Option Value)} {p : Nat} {a : Int} {st : List Value} {H : HP} {Q : Option Value → HP → Prop} : Go 122 32 L (vi a :: .ref p :: st) H Q ↔ Rd (aJ' (hget H p) a) 122 33 L st H Q := G_iald fX9_renew_32
theorem fX9_renew_33 : ft 122 33 = some (.iload 4, 0, 0, 0, .null) := by decide +kernel
theorem gX9_renew_33 {l0 l1 l2 l3 l5 l6 : Option Value} {u : Int32} {st : List Value} {H : HP} {Q : Option Value → HP → Prop} : Go 122 33 [l0, l1, l2, l3, some (.int u), l5, l6] st H Q ↔ Go 122 35 [l0, l1, l2, l3, some (.int u), l5, l6] (.int u :: st) H Q := G_iload fX9_renew_33 rfl
theorem fX9_renew_35 : ft 122 35 = some (.if_icmp .ne 7, 0, 0, 0, .null) := by decide +kernel
theorem gX9_renew_35T {L : List (Option Value)} {a b : Int} (c : (-2147483648 ≤ a ∧ a ≤ 2147483647 ∧ -2147483648 ≤ b ∧ b ≤ 2147483647) ∧ ¬ a = b) {st : List Value} {H : HP} {Q : Option Value → HP → Prop} : Go 122 35 L (vi b :: vi a :: st) H Q ↔ Go 122 42 L st H Q := G_icT fX9_renew_35 (by decide) c
theorem gX9_renew_35F {L : List (Option Value)} {a b : Int} (c : (-2147483648 ≤ a ∧ a ≤ 2147483647 ∧ -2147483648 ≤ b ∧ b ≤ 2147483647) ∧ ¬ (¬ a = b)) {st : List Value} {H : HP} {Q : Option Value → HP → Prop} : Go 122 35 L (vi b :: vi a :: st) H Q ↔ Go 122 38 L st H Q := G_icF (tg := 42) fX9_renew_35 (by decide) c
theorem fX9_renew_38 : ft 122 38 = some (.iconst 1, 0, 0, 0, .null) := by decide +kernel
theorem gX9_renew_38 {L : List (Option Value)} {st : List Value} {H : HP} {Q : Option Value → HP → Prop} : Go 122 38 L st H Q ↔ Go 122 39 L (vi 1 :: st) H Q := G_iconst fX9_renew_38
theorem fX9_renew_39 : ft 122 39 = some (.goto 4, 0, 0, 0, .null) := by decide +kernel
theorem gX9_renew_39 {L : List (Option Value)} {st : List Value} {H : HP} {Q : Option Value → HP → Prop} : Go 122 39 L st H Q ↔ Go 122 43 L st H Q := G_goto fX9_renew_39 (by decide)
theorem fX9_renew_42 : ft 122 42 = some (.iconst 0, 0, 0, 0, .null) := by decide +kernel
theorem gX9_renew_42 {L : List (Option Value)} {st : List Value} {H : HP} {Q : Option Value → HP → Prop} : Go 122 42 L st H Q ↔ Go 122 43 L (vi 0 :: st) H Q := G_iconst fX9_renew_42
theorem fX9_renew_43 : ft 122 43 = some (.ior, 0, 0, 0, .null) := by decide +kernel
theorem gX9_renew_43 {L : List (Option Value)} {a b : Int} {st : List Value} {H : HP} {Q : Option Value → HP → Prop} : Go 122 43 L (vi b :: vi a :: st) H Q ↔ Go 122 44 L (vi (jOr a b) :: st) H Q := G_ior fX9_renew_43
theorem fX9_renew_44 : ft 122 44 = some (.istore 5, 0, 0, 0, .null) := by decide +kernel
theorem gX9_renew_44 {l0 l1 l2 l3 l4 l5 l6 : Option Value} {u : Int32} {st : List Value} {H : HP} {Q : Option Value → HP → Prop} : Go 122 44 [l0, l1, l2, l3, l4, l5, l6] (.int u :: st) H Q ↔ Go 122 46 [l0, l1, l2, l3, l4, some (.int u), l6] st H Q := G_istore fX9_renew_44 rfl
theorem fX9_renew_46 : ft 122 46 = some (.iinc 6 1, 0, 0, 0, .null) := by decide +kernel
theorem gX9_renew_46 {l0 l1 l2 l3 l4 l5 : Option Value} {a : Int} {st : List Value} {H : HP} {Q : Option Value → HP → Prop} : Go 122 46 [l0, l1, l2, l3, l4, l5, some (vi a)] st H Q ↔ Go 122 49 [l0, l1, l2, l3, l4, l5, some (vi (a + 1))] st H Q := G_iinc fX9_renew_46 rfl rfl
theorem fX9_renew_49 : ft 122 49 = some (.goto (-32), 0, 0, 0, .null) := by decide +kernel
theorem gX9_renew_49 {L : List (Option Value)} {st : List Value} {H : HP} {Q : Option Value → HP → Prop} : Go 122 49 L st H Q ↔ Go 122 17 L st H Q := G_goto fX9_renew_49 (by decide)
theorem fX9_renew_52 : ft 122 52 = some (.iload 4, 0, 0, 0, .null) := by decide +kernel
theorem gX9_renew_52 {l0 l1 l2 l3 l5 l6 : Option Value} {u : Int32} {st : List Value} {H : HP} {Q : Option Value → HP → Prop} : Go 122 52 [l0, l1, l2, l3, some (.int u), l5, l6] st H Q ↔ Go 122 54 [l0, l1, l2, l3, some (.int u), l5, l6] (.int u :: st) H Q := G_iload fX9_renew_52 rfl
theorem fX9_renew_54 : ft 122 54 = some (.iload 5, 0, 0, 0, .null) := by decide +kernel
theorem gX9_renew_54 {l0 l1 l2 l3 l4 l6 : Option Value} {u : Int32} {st : List Value} {H : HP} {Q : Option Value → HP → Prop} : Go 122 54 [l0, l1, l2, l3, l4, some (.int u), l6] st H Q ↔ Go 122 56 [l0, l1, l2, l3, l4, some (.int u), l6] (.int u :: st) H Q := G_iload fX9_renew_54 rfl
theorem fX9_renew_56 : ft 122 56 = some (.ifCond .eq 7, 0, 0, 0, .null) := by decide +kernel
theorem gX9_renew_56T {L : List (Option Value)} {a : Int} (c : (-2147483648 ≤ a ∧ a ≤ 2147483647) ∧ a = 0) {st : List Value} {H : HP} {Q : Option Value → HP → Prop} : Go 122 56 L (vi a :: st) H Q ↔ Go 122 63 L st H Q := G_ifT fX9_renew_56 (by decide) c
theorem gX9_renew_56F {L : List (Option Value)} {a : Int} (c : (-2147483648 ≤ a ∧ a ≤ 2147483647) ∧ ¬ (a = 0)) {st : List Value} {H : HP} {Q : Option Value → HP → Prop} : Go 122 56 L (vi a :: st) H Q ↔ Go 122 59 L st H Q := G_ifF (tg := 63) fX9_renew_56 (by decide) c
theorem fX9_renew_59 : ft 122 59 = some (.iconst 1, 0, 0, 0, .null) := by decide +kernel
theorem gX9_renew_59 {L : List (Option Value)} {st : List Value} {H : HP} {Q : Option Value → HP → Prop} : Go 122 59 L st H Q ↔ Go 122 60 L (vi 1 :: st) H Q := G_iconst fX9_renew_59
theorem fX9_renew_60 : ft 122 60 = some (.goto 4, 0, 0, 0, .null) := by decide +kernel
theorem gX9_renew_60 {L : List (Option Value)} {st : List Value} {H : HP} {Q : Option Value → HP → Prop} : Go 122 60 L st H Q ↔ Go 122 64 L st H Q := G_goto fX9_renew_60 (by decide)
theorem fX9_renew_63 : ft 122 63 = some (.iconst 0, 0, 0, 0, .null) := by decide +kernel
theorem gX9_renew_63 {L : List (Option Value)} {st : List Value} {H : HP} {Q : Option Value → HP → Prop} : Go 122 63 L st H Q ↔ Go 122 64 L (vi 0 :: st) H Q := G_iconst fX9_renew_63
theorem fX9_renew_64 : ft 122 64 = some (.iadd, 0, 0, 0, .null) := by decide +kernel
theorem gX9_renew_64 {L : List (Option Value)} {a b : Int} {st : List Value} {H : HP} {Q : Option Value → HP → Prop} : Go 122 64 L (vi b :: vi a :: st) H Q ↔ Go 122 65 L (vi (a + b) :: st) H Q := G_iadd fX9_renew_64
theorem fX9_renew_65 : ft 122 65 = some (.istore 4, 0, 0, 0, .null) := by decide +kernel
theorem gX9_renew_65 {l0 l1 l2 l3 l4 l5 l6 : Option Value} {u : Int32} {st : List Value} {H : HP} {Q : Option Value → HP → Prop} : Go 122 65 [l0, l1, l2, l3, l4, l5, l6] (.int u :: st) H Q ↔ Go 122 67 [l0, l1, l2, l3, some (.int u), l5, l6] st H Q := G_istore fX9_renew_65 rfl
theorem fX9_renew_67 : ft 122 67 = some (.goto (-61), 0, 0, 0, .null) := by decide +kernel
theorem gX9_renew_67 {L : List (Option Value)} {st : List Value} {H : HP} {Q : Option Value → HP → Prop} : Go 122 67 L st H Q ↔ Go 122 6 L st H Q := G_goto fX9_renew_67 (by decide)
theorem fX9_renew_70 : ft 122 70 = some (.aload_n 0, 0, 0, 0, .null) := by decide +kernel
theorem gX9_renew_70 {l1 l2 l3 l4 l5 l6 : Option Value} {u : Nat} {st : List Value} {H : HP} {Q : Option Value → HP → Prop} : Go 122 70 [some (.ref u), l1, l2, l3, l4, l5, l6] st H Q ↔ Go 122 71 [some (.ref u), l1, l2, l3, l4, l5, l6] (.ref u :: st) H Q := G_aload_n fX9_renew_70 rfl
theorem fX9_renew_71 : ft 122 71 = some (.getfield 9, 9, 1, 755, .null) := by decide +kernel
theorem gX9_renew_71 {L : List (Option Value)} {p : Nat} {st : List Value} {H : HP} {Q : Option Value → HP → Prop} : Go 122 71 L (.ref p :: st) H Q ↔ Rd (gF' 9 1 (hget H p)) 122 74 L st H Q := G_getf fX9_renew_71 ⟨rfl, rfl⟩
theorem fX9_renew_74 : ft 122 74 = some (.iload_n 1, 0, 0, 0, .null) := by decide +kernel
theorem gX9_renew_74 {l0 l2 l3 l4 l5 l6 : Option Value} {u : Int32} {st : List Value} {H : HP} {Q : Option Value → HP → Prop} : Go 122 74 [l0, some (.int u), l2, l3, l4, l5, l6] st H Q ↔ Go 122 75 [l0, some (.int u), l2, l3, l4, l5, l6] (.int u :: st) H Q := G_iload_n fX9_renew_74 rfl
theorem fX9_renew_75 : ft 122 75 = some (.iload 4, 0, 0, 0, .null) := by decide +kernel
theorem gX9_renew_75 {l0 l1 l2 l3 l5 l6 : Option Value} {u : Int32} {st : List Value} {H : HP} {Q : Option Value → HP → Prop} : Go 122 75 [l0, l1, l2, l3, some (.int u), l5, l6] st H Q ↔ Go 122 77 [l0, l1, l2, l3, some (.int u), l5, l6] (.int u :: st) H Q := G_iload fX9_renew_75 rfl
theorem fX9_renew_77 : ft 122 77 = some (.iastore, 0, 0, 0, .null) := by decide +kernel
theorem gX9_renew_77 {L : List (Option Value)} {p : Nat} {a : Int} {b : Int} (hp : p ≠ 0) {st : List Value} {H : HP} {Q : Option Value → HP → Prop} : Go 122 77 L (vi b :: vi a :: .ref p :: st) H Q ↔ Wr (sJ' (hget H p) a b) p 122 78 L st H Q := G_iast fX9_renew_77 hp
theorem fX9_renew_78 : ft 122 78 = some (.aload_n 0, 0, 0, 0, .null) := by decide +kernel
theorem gX9_renew_78 {l1 l2 l3 l4 l5 l6 : Option Value} {u : Nat} {st : List Value} {H : HP} {Q : Option Value → HP → Prop} : Go 122 78 [some (.ref u), l1, l2, l3, l4, l5, l6] st H Q ↔ Go 122 79 [some (.ref u), l1, l2, l3, l4, l5, l6] (.ref u :: st) H Q := G_aload_n fX9_renew_78 rfl
theorem fX9_renew_79 : ft 122 79 = some (.getfield 13, 9, 2, 756, .null) := by decide +kernel
theorem gX9_renew_79 {L : List (Option Value)} {p : Nat} {st : List Value} {H : HP} {Q : Option Value → HP → Prop} : Go 122 79 L (.ref p :: st) H Q ↔ Rd (gF' 9 2 (hget H p)) 122 82 L st H Q := G_getf fX9_renew_79 ⟨rfl, rfl⟩
theorem fX9_renew_82 : ft 122 82 = some (.iload 4, 0, 0, 0, .null) := by decide +kernel
theorem gX9_renew_82 {l0 l1 l2 l3 l5 l6 : Option Value} {u : Int32} {st : List Value} {H : HP} {Q : Option Value → HP → Prop} : Go 122 82 [l0, l1, l2, l3, some (.int u), l5, l6] st H Q ↔ Go 122 84 [l0, l1, l2, l3, some (.int u), l5, l6] (.int u :: st) H Q := G_iload fX9_renew_82 rfl
theorem fX9_renew_84 : ft 122 84 = some (.iload_n 2, 0, 0, 0, .null) := by decide +kernel
theorem gX9_renew_84 {l0 l1 l3 l4 l5 l6 : Option Value} {u : Int32} {st : List Value} {H : HP} {Q : Option Value → HP → Prop} : Go 122 84 [l0, l1, some (.int u), l3, l4, l5, l6] st H Q ↔ Go 122 85 [l0, l1, some (.int u), l3, l4, l5, l6] (.int u :: st) H Q := G_iload_n fX9_renew_84 rfl
theorem fX9_renew_85 : ft 122 85 = some (.iastore, 0, 0, 0, .null) := by decide +kernel
theorem gX9_renew_85 {L : List (Option Value)} {p : Nat} {a : Int} {b : Int} (hp : p ≠ 0) {st : List Value} {H : HP} {Q : Option Value → HP → Prop} : Go 122 85 L (vi b :: vi a :: .ref p :: st) H Q ↔ Wr (sJ' (hget H p) a b) p 122 86 L st H Q := G_iast fX9_renew_85 hp
theorem fX9_renew_86 : ft 122 86 = some (.aload_n 0, 0, 0, 0, .null) := by decide +kernel
theorem gX9_renew_86 {l1 l2 l3 l4 l5 l6 : Option Value} {u : Nat} {st : List Value} {H : HP} {Q : Option Value → HP → Prop} : Go 122 86 [some (.ref u), l1, l2, l3, l4, l5, l6] st H Q ↔ Go 122 87 [some (.ref u), l1, l2, l3, l4, l5, l6] (.ref u :: st) H Q := G_aload_n fX9_renew_86 rfl
theorem fX9_renew_87 : ft 122 87 = some (.getfield 16, 9, 3, 757, .null) := by decide +kernel
theorem gX9_renew_87 {L : List (Option Value)} {p : Nat} {st : List Value} {H : HP} {Q : Option Value → HP → Prop} : Go 122 87 L (.ref p :: st) H Q ↔ Rd (gF' 9 3 (hget H p)) 122 90 L st H Q := G_getf fX9_renew_87 ⟨rfl, rfl⟩
theorem fX9_renew_90 : ft 122 90 = some (.iload 4, 0, 0, 0, .null) := by decide +kernel
theorem gX9_renew_90 {l0 l1 l2 l3 l5 l6 : Option Value} {u : Int32} {st : List Value} {H : HP} {Q : Option Value → HP → Prop} : Go 122 90 [l0, l1, l2, l3, some (.int u), l5, l6] st H Q ↔ Go 122 92 [l0, l1, l2, l3, some (.int u), l5, l6] (.int u :: st) H Q := G_iload fX9_renew_90 rfl
theorem fX9_renew_92 : ft 122 92 = some (.iload_n 3, 0, 0, 0, .null) := by decide +kernel
theorem gX9_renew_92 {l0 l1 l2 l4 l5 l6 : Option Value} {u : Int32} {st : List Value} {H : HP} {Q : Option Value → HP → Prop} : Go 122 92 [l0, l1, l2, some (.int u), l4, l5, l6] st H Q ↔ Go 122 93 [l0, l1, l2, some (.int u), l4, l5, l6] (.int u :: st) H Q := G_iload_n fX9_renew_92 rfl
theorem fX9_renew_93 : ft 122 93 = some (.iastore, 0, 0, 0, .null) := by decide +kernel
theorem gX9_renew_93 {L : List (Option Value)} {p : Nat} {a : Int} {b : Int} (hp : p ≠ 0) {st : List Value} {H : HP} {Q : Option Value → HP → Prop} : Go 122 93 L (vi b :: vi a :: .ref p :: st) H Q ↔ Wr (sJ' (hget H p) a b) p 122 94 L st H Q := G_iast fX9_renew_93 hp
theorem fX9_renew_94 : ft 122 94 = some (.iconst 0, 0, 0, 0, .null) := by decide +kernel
theorem gX9_renew_94 {L : List (Option Value)} {st : List Value} {H : HP} {Q : Option Value → HP → Prop} : Go 122 94 L st H Q ↔ Go 122 95 L (vi 0 :: st) H Q := G_iconst fX9_renew_94
theorem fX9_renew_95 : ft 122 95 = some (.istore 6, 0, 0, 0, .null) := by decide +kernel
theorem gX9_renew_95 {l0 l1 l2 l3 l4 l5 l6 : Option Value} {u : Int32} {st : List Value} {H : HP} {Q : Option Value → HP → Prop} : Go 122 95 [l0, l1, l2, l3, l4, l5, l6] (.int u :: st) H Q ↔ Go 122 97 [l0, l1, l2, l3, l4, l5, some (.int u)] st H Q := G_istore fX9_renew_95 rfl
theorem fX9_renew_97 : ft 122 97 = some (.iload 6, 0, 0, 0, .null) := by decide +kernel
theorem gX9_renew_97 {l0 l1 l2 l3 l4 l5 : Option Value} {u : Int32} {st : List Value} {H : HP} {Q : Option Value → HP → Prop} : Go 122 97 [l0, l1, l2, l3, l4, l5, some (.int u)] st H Q ↔ Go 122 99 [l0, l1, l2, l3, l4, l5, some (.int u)] (.int u :: st) H Q := G_iload fX9_renew_97 rfl
theorem fX9_renew_99 : ft 122 99 = some (.bipush 64, 0, 0, 0, .null) := by decide +kernel
theorem gX9_renew_99 {L : List (Option Value)} {st : List Value} {H : HP} {Q : Option Value → HP → Prop} : Go 122 99 L st H Q ↔ Go 122 101 L (vi 64 :: st) H Q := G_bipush fX9_renew_99 (by decide)
theorem fX9_renew_101 : ft 122 101 = some (.if_icmp .ge 23, 0, 0, 0, .null) := by decide +kernel
theorem gX9_renew_101T {L : List (Option Value)} {a b : Int} (c : (-2147483648 ≤ a ∧ a ≤ 2147483647 ∧ -2147483648 ≤ b ∧ b ≤ 2147483647) ∧ b ≤ a) {st : List Value} {H : HP} {Q : Option Value → HP → Prop} : Go 122 101 L (vi b :: vi a :: st) H Q ↔ Go 122 124 L st H Q := G_icT fX9_renew_101 (by decide) c
theorem gX9_renew_101F {L : List (Option Value)} {a b : Int} (c : (-2147483648 ≤ a ∧ a ≤ 2147483647 ∧ -2147483648 ≤ b ∧ b ≤ 2147483647) ∧ ¬ (b ≤ a)) {st : List Value} {H : HP} {Q : Option Value → HP → Prop} : Go 122 101 L (vi b :: vi a :: st) H Q ↔ Go 122 104 L st H Q := G_icF (tg := 124) fX9_renew_101 (by decide) c
theorem fX9_renew_104 : ft 122 104 = some (.aload_n 0, 0, 0, 0, .null) := by decide +kernel
theorem gX9_renew_104 {l1 l2 l3 l4 l5 l6 : Option Value} {u : Nat} {st : List Value} {H : HP} {Q : Option Value → HP → Prop} : Go 122 104 [some (.ref u), l1, l2, l3, l4, l5, l6] st H Q ↔ Go 122 105 [some (.ref u), l1, l2, l3, l4, l5, l6] (.ref u :: st) H Q := G_aload_n fX9_renew_104 rfl
theorem fX9_renew_105 : ft 122 105 = some (.getfield 19, 9, 4, 758, .null) := by decide +kernel
theorem gX9_renew_105 {L : List (Option Value)} {p : Nat} {st : List Value} {H : HP} {Q : Option Value → HP → Prop} : Go 122 105 L (.ref p :: st) H Q ↔ Rd (gF' 9 4 (hget H p)) 122 108 L st H Q := G_getf fX9_renew_105 ⟨rfl, rfl⟩
theorem fX9_renew_108 : ft 122 108 = some (.bipush 64, 0, 0, 0, .null) := by decide +kernel
theorem gX9_renew_108 {L : List (Option Value)} {st : List Value} {H : HP} {Q : Option Value → HP → Prop} : Go 122 108 L st H Q ↔ Go 122 110 L (vi 64 :: st) H Q := G_bipush fX9_renew_108 (by decide)
theorem fX9_renew_110 : ft 122 110 = some (.iload 4, 0, 0, 0, .null) := by decide +kernel
theorem gX9_renew_110 {l0 l1 l2 l3 l5 l6 : Option Value} {u : Int32} {st : List Value} {H : HP} {Q : Option Value → HP → Prop} : Go 122 110 [l0, l1, l2, l3, some (.int u), l5, l6] st H Q ↔ Go 122 112 [l0, l1, l2, l3, some (.int u), l5, l6] (.int u :: st) H Q := G_iload fX9_renew_110 rfl
theorem fX9_renew_112 : ft 122 112 = some (.imul, 0, 0, 0, .null) := by decide +kernel
theorem gX9_renew_112 {L : List (Option Value)} {a b : Int} {st : List Value} {H : HP} {Q : Option Value → HP → Prop} : Go 122 112 L (vi b :: vi a :: st) H Q ↔ Go 122 113 L (vi (a * b) :: st) H Q := G_imul fX9_renew_112
theorem fX9_renew_113 : ft 122 113 = some (.iload 6, 0, 0, 0, .null) := by decide +kernel
theorem gX9_renew_113 {l0 l1 l2 l3 l4 l5 : Option Value} {u : Int32} {st : List Value} {H : HP} {Q : Option Value → HP → Prop} : Go 122 113 [l0, l1, l2, l3, l4, l5, some (.int u)] st H Q ↔ Go 122 115 [l0, l1, l2, l3, l4, l5, some (.int u)] (.int u :: st) H Q := G_iload fX9_renew_113 rfl
theorem fX9_renew_115 : ft 122 115 = some (.iadd, 0, 0, 0, .null) := by decide +kernel
theorem gX9_renew_115 {L : List (Option Value)} {a b : Int} {st : List Value} {H : HP} {Q : Option Value → HP → Prop} : Go 122 115 L (vi b :: vi a :: st) H Q ↔ Go 122 116 L (vi (a + b) :: st) H Q := G_iadd fX9_renew_115
theorem fX9_renew_116 : ft 122 116 = some (.lconst 0, 0, 0, 0, .null) := by decide +kernel
theorem gX9_renew_116 {L : List (Option Value)} {st : List Value} {H : HP} {Q : Option Value → HP → Prop} : Go 122 116 L st H Q ↔ Go 122 117 L (vl 0 :: st) H Q := G_lconst fX9_renew_116 (by decide)
theorem fX9_renew_117 : ft 122 117 = some (.lastore, 0, 0, 0, .null) := by decide +kernel
theorem gX9_renew_117 {L : List (Option Value)} {p : Nat} {a : Int} {b : Int} (hp : p ≠ 0) {st : List Value} {H : HP} {Q : Option Value → HP → Prop} : Go 122 117 L (vl b :: vi a :: .ref p :: st) H Q ↔ Wr (sL' (hget H p) a b) p 122 118 L st H Q := G_last fX9_renew_117 hp
theorem fX9_renew_118 : ft 122 118 = some (.iinc 6 1, 0, 0, 0, .null) := by decide +kernel
theorem gX9_renew_118 {l0 l1 l2 l3 l4 l5 : Option Value} {a : Int} {st : List Value} {H : HP} {Q : Option Value → HP → Prop} : Go 122 118 [l0, l1, l2, l3, l4, l5, some (vi a)] st H Q ↔ Go 122 121 [l0, l1, l2, l3, l4, l5, some (vi (a + 1))] st H Q := G_iinc fX9_renew_118 rfl rfl
theorem fX9_renew_121 : ft 122 121 = some (.goto (-24), 0, 0, 0, .null) := by decide +kernel
theorem gX9_renew_121 {L : List (Option Value)} {st : List Value} {H : HP} {Q : Option Value → HP → Prop} : Go 122 121 L st H Q ↔ Go 122 97 L st H Q := G_goto fX9_renew_121 (by decide)
theorem fX9_renew_124 : ft 122 124 = some (.iload 4, 0, 0, 0, .null) := by decide +kernel
theorem gX9_renew_124 {l0 l1 l2 l3 l5 l6 : Option Value} {u : Int32} {st : List Value} {H : HP} {Q : Option Value → HP → Prop} : Go 122 124 [l0, l1, l2, l3, some (.int u), l5, l6] st H Q ↔ Go 122 126 [l0, l1, l2, l3, some (.int u), l5, l6] (.int u :: st) H Q := G_iload fX9_renew_124 rfl
theorem fX9_renew_126 : ft 122 126 = some (.ireturn, 0, 0, 0, .null) := by decide +kernel
theorem gX9_renew_126 {L : List (Option Value)} {u : Int32} {H : HP} {Q : Option Value → HP → Prop} : Go 122 126 L [.int u] H Q ↔ Q (some (.int u)) H := G_iret fX9_renew_126 (by decide +kernel)
theorem fX9_entry_0 : ft 123 0 = some (.aload_n 0, 0, 0, 0, .null) := by decide +kernel
theorem gX9_entry_0 {l1 l2 : Option Value} {u : Nat} {st : List Value} {H : HP} {Q : Option Value → HP → Prop} : Go 123 0 [some (.ref u), l1, l2] st H Q ↔ Go 123 1 [some (.ref u), l1, l2] (.ref u :: st) H Q := G_aload_n fX9_entry_0 rfl
theorem fX9_entry_1 : ft 123 1 = some (.getfield 19, 9, 4, 758, .null) := by decide +kernel
theorem gX9_entry_1 {L : List (Option Value)} {p : Nat} {st : List Value} {H : HP} {Q : Option Value → HP → Prop} : Go 123 1 L (.ref p :: st) H Q ↔ Rd (gF' 9 4 (hget H p)) 123 4 L st H Q := G_getf fX9_entry_1 ⟨rfl, rfl⟩
theorem fX9_entry_4 : ft 123 4 = some (.bipush 64, 0, 0, 0, .null) := by decide +kernel
theorem gX9_entry_4 {L : List (Option Value)} {st : List Value} {H : HP} {Q : Option Value → HP → Prop} : Go 123 4 L st H Q ↔ Go 123 6 L (vi 64 :: st) H Q := G_bipush fX9_entry_4 (by decide)
theorem fX9_entry_6 : ft 123 6 = some (.aload_n 0, 0, 0, 0, .null) := by decide +kernel
theorem gX9_entry_6 {l1 l2 : Option Value} {u : Nat} {st : List Value} {H : HP} {Q : Option Value → HP → Prop} : Go 123 6 [some (.ref u), l1, l2] st H Q ↔ Go 123 7 [some (.ref u), l1, l2] (.ref u :: st) H Q := G_aload_n fX9_entry_6 rfl
theorem fX9_entry_7 : ft 123 7 = some (.getfield 9, 9, 1, 755, .null) := by decide +kernel
theorem gX9_entry_7 {L : List (Option Value)} {p : Nat} {st : List Value} {H : HP} {Q : Option Value → HP → Prop} : Go 123 7 L (.ref p :: st) H Q ↔ Rd (gF' 9 1 (hget H p)) 123 10 L st H Q := G_getf fX9_entry_7 ⟨rfl, rfl⟩
theorem fX9_entry_10 : ft 123 10 = some (.iload_n 1, 0, 0, 0, .null) := by decide +kernel
theorem gX9_entry_10 {l0 l2 : Option Value} {u : Int32} {st : List Value} {H : HP} {Q : Option Value → HP → Prop} : Go 123 10 [l0, some (.int u), l2] st H Q ↔ Go 123 11 [l0, some (.int u), l2] (.int u :: st) H Q := G_iload_n fX9_entry_10 rfl
theorem fX9_entry_11 : ft 123 11 = some (.iaload, 0, 0, 0, .null) := by decide +kernel
theorem gX9_entry_11 {L : List (Option Value)} {p : Nat} {a : Int} {st : List Value} {H : HP} {Q : Option Value → HP → Prop} : Go 123 11 L (vi a :: .ref p :: st) H Q ↔ Rd (aJ' (hget H p) a) 123 12 L st H Q := G_iald fX9_entry_11
theorem fX9_entry_12 : ft 123 12 = some (.imul, 0, 0, 0, .null) := by decide +kernel
theorem gX9_entry_12 {L : List (Option Value)} {a b : Int} {st : List Value} {H : HP} {Q : Option Value → HP → Prop} : Go 123 12 L (vi b :: vi a :: st) H Q ↔ Go 123 13 L (vi (a * b) :: st) H Q := G_imul fX9_entry_12
theorem fX9_entry_13 : ft 123 13 = some (.iload_n 2, 0, 0, 0, .null) := by decide +kernel
theorem gX9_entry_13 {l0 l1 : Option Value} {u : Int32} {st : List Value} {H : HP} {Q : Option Value → HP → Prop} : Go 123 13 [l0, l1, some (.int u)] st H Q ↔ Go 123 14 [l0, l1, some (.int u)] (.int u :: st) H Q := G_iload_n fX9_entry_13 rfl
theorem fX9_entry_14 : ft 123 14 = some (.iadd, 0, 0, 0, .null) := by decide +kernel
theorem gX9_entry_14 {L : List (Option Value)} {a b : Int} {st : List Value} {H : HP} {Q : Option Value → HP → Prop} : Go 123 14 L (vi b :: vi a :: st) H Q ↔ Go 123 15 L (vi (a + b) :: st) H Q := G_iadd fX9_entry_14
theorem fX9_entry_15 : ft 123 15 = some (.laload, 0, 0, 0, .null) := by decide +kernel
theorem gX9_entry_15 {L : List (Option Value)} {p : Nat} {a : Int} {st : List Value} {H : HP} {Q : Option Value → HP → Prop} : Go 123 15 L (vi a :: .ref p :: st) H Q ↔ Rd (aL' (hget H p) a) 123 16 L st H Q := G_lald fX9_entry_15
theorem fX9_entry_16 : ft 123 16 = some (.lreturn, 0, 0, 0, .null) := by decide +kernel
theorem gX9_entry_16 {L : List (Option Value)} {u : Int64} {H : HP} {Q : Option Value → HP → Prop} : Go 123 16 L [.long u] H Q ↔ Q (some (.long u)) H := G_lret fX9_entry_16 (by decide +kernel)
theorem fX9_count_0 : ft 124 0 = some (.aload_n 0, 0, 0, 0, .null) := by decide +kernel
theorem gX9_count_0 {l1 : Option Value} {u : Nat} {st : List Value} {H : HP} {Q : Option Value → HP → Prop} : Go 124 0 [some (.ref u), l1] st H Q ↔ Go 124 1 [some (.ref u), l1] (.ref u :: st) H Q := G_aload_n fX9_count_0 rfl
theorem fX9_count_1 : ft 124 1 = some (.getfield 16, 9, 3, 757, .null) := by decide +kernel
theorem gX9_count_1 {L : List (Option Value)} {p : Nat} {st : List Value} {H : HP} {Q : Option Value → HP → Prop} : Go 124 1 L (.ref p :: st) H Q ↔ Rd (gF' 9 3 (hget H p)) 124 4 L st H Q := G_getf fX9_count_1 ⟨rfl, rfl⟩
theorem fX9_count_4 : ft 124 4 = some (.aload_n 0, 0, 0, 0, .null) := by decide +kernel
theorem gX9_count_4 {l1 : Option Value} {u : Nat} {st : List Value} {H : HP} {Q : Option Value → HP → Prop} : Go 124 4 [some (.ref u), l1] st H Q ↔ Go 124 5 [some (.ref u), l1] (.ref u :: st) H Q := G_aload_n fX9_count_4 rfl
theorem fX9_count_5 : ft 124 5 = some (.getfield 9, 9, 1, 755, .null) := by decide +kernel
theorem gX9_count_5 {L : List (Option Value)} {p : Nat} {st : List Value} {H : HP} {Q : Option Value → HP → Prop} : Go 124 5 L (.ref p :: st) H Q ↔ Rd (gF' 9 1 (hget H p)) 124 8 L st H Q := G_getf fX9_count_5 ⟨rfl, rfl⟩
theorem fX9_count_8 : ft 124 8 = some (.iload_n 1, 0, 0, 0, .null) := by decide +kernel
theorem gX9_count_8 {l0 : Option Value} {u : Int32} {st : List Value} {H : HP} {Q : Option Value → HP → Prop} : Go 124 8 [l0, some (.int u)] st H Q ↔ Go 124 9 [l0, some (.int u)] (.int u :: st) H Q := G_iload_n fX9_count_8 rfl
theorem fX9_count_9 : ft 124 9 = some (.iaload, 0, 0, 0, .null) := by decide +kernel
theorem gX9_count_9 {L : List (Option Value)} {p : Nat} {a : Int} {st : List Value} {H : HP} {Q : Option Value → HP → Prop} : Go 124 9 L (vi a :: .ref p :: st) H Q ↔ Rd (aJ' (hget H p) a) 124 10 L st H Q := G_iald fX9_count_9
theorem fX9_count_10 : ft 124 10 = some (.iaload, 0, 0, 0, .null) := by decide +kernel
theorem gX9_count_10 {L : List (Option Value)} {p : Nat} {a : Int} {st : List Value} {H : HP} {Q : Option Value → HP → Prop} : Go 124 10 L (vi a :: .ref p :: st) H Q ↔ Rd (aJ' (hget H p) a) 124 11 L st H Q := G_iald fX9_count_10
theorem fX9_count_11 : ft 124 11 = some (.ireturn, 0, 0, 0, .null) := by decide +kernel
theorem gX9_count_11 {L : List (Option Value)} {u : Int32} {H : HP} {Q : Option Value → HP → Prop} : Go 124 11 L [.int u] H Q ↔ Q (some (.int u)) H := G_iret fX9_count_11 (by decide +kernel)
theorem fX9_laneOf_0 : ft 125 0 = some (.aload_n 0, 0, 0, 0, .null) := by decide +kernel
theorem gX9_laneOf_0 {l1 : Option Value} {u : Nat} {st : List Value} {H : HP} {Q : Option Value → HP → Prop} : Go 125 0 [some (.ref u), l1] st H Q ↔ Go 125 1 [some (.ref u), l1] (.ref u :: st) H Q := G_aload_n fX9_laneOf_0 rfl
theorem fX9_laneOf_1 : ft 125 1 = some (.getfield 13, 9, 2, 756, .null) := by decide +kernel
theorem gX9_laneOf_1 {L : List (Option Value)} {p : Nat} {st : List Value} {H : HP} {Q : Option Value → HP → Prop} : Go 125 1 L (.ref p :: st) H Q ↔ Rd (gF' 9 2 (hget H p)) 125 4 L st H Q := G_getf fX9_laneOf_1 ⟨rfl, rfl⟩
theorem fX9_laneOf_4 : ft 125 4 = some (.aload_n 0, 0, 0, 0, .null) := by decide +kernel
theorem gX9_laneOf_4 {l1 : Option Value} {u : Nat} {st : List Value} {H : HP} {Q : Option Value → HP → Prop} : Go 125 4 [some (.ref u), l1] st H Q ↔ Go 125 5 [some (.ref u), l1] (.ref u :: st) H Q := G_aload_n fX9_laneOf_4 rfl
theorem fX9_laneOf_5 : ft 125 5 = some (.getfield 9, 9, 1, 755, .null) := by decide +kernel
theorem gX9_laneOf_5 {L : List (Option Value)} {p : Nat} {st : List Value} {H : HP} {Q : Option Value → HP → Prop} : Go 125 5 L (.ref p :: st) H Q ↔ Rd (gF' 9 1 (hget H p)) 125 8 L st H Q := G_getf fX9_laneOf_5 ⟨rfl, rfl⟩
theorem fX9_laneOf_8 : ft 125 8 = some (.iload_n 1, 0, 0, 0, .null) := by decide +kernel
theorem gX9_laneOf_8 {l0 : Option Value} {u : Int32} {st : List Value} {H : HP} {Q : Option Value → HP → Prop} : Go 125 8 [l0, some (.int u)] st H Q ↔ Go 125 9 [l0, some (.int u)] (.int u :: st) H Q := G_iload_n fX9_laneOf_8 rfl
theorem fX9_laneOf_9 : ft 125 9 = some (.iaload, 0, 0, 0, .null) := by decide +kernel
theorem gX9_laneOf_9 {L : List (Option Value)} {p : Nat} {a : Int} {st : List Value} {H : HP} {Q : Option Value → HP → Prop} : Go 125 9 L (vi a :: .ref p :: st) H Q ↔ Rd (aJ' (hget H p) a) 125 10 L st H Q := G_iald fX9_laneOf_9
theorem fX9_laneOf_10 : ft 125 10 = some (.iaload, 0, 0, 0, .null) := by decide +kernel
theorem gX9_laneOf_10 {L : List (Option Value)} {p : Nat} {a : Int} {st : List Value} {H : HP} {Q : Option Value → HP → Prop} : Go 125 10 L (vi a :: .ref p :: st) H Q ↔ Rd (aJ' (hget H p) a) 125 11 L st H Q := G_iald fX9_laneOf_10
theorem fX9_laneOf_11 : ft 125 11 = some (.ireturn, 0, 0, 0, .null) := by decide +kernel
theorem gX9_laneOf_11 {L : List (Option Value)} {u : Int32} {H : HP} {Q : Option Value → HP → Prop} : Go 125 11 L [.int u] H Q ↔ Q (some (.int u)) H := G_iret fX9_laneOf_11 (by decide +kernel)
theorem fX9_row_0 : ft 126 0 = some (.aload_n 0, 0, 0, 0, .null) := by decide +kernel
theorem gX9_row_0 {l1 l2 l3 : Option Value} {u : Nat} {st : List Value} {H : HP} {Q : Option Value → HP → Prop} : Go 126 0 [some (.ref u), l1, l2, l3] st H Q ↔ Go 126 1 [some (.ref u), l1, l2, l3] (.ref u :: st) H Q := G_aload_n fX9_row_0 rfl
theorem fX9_row_1 : ft 126 1 = some (.iconst 0, 0, 0, 0, .null) := by decide +kernel
theorem gX9_row_1 {L : List (Option Value)} {st : List Value} {H : HP} {Q : Option Value → HP → Prop} : Go 126 1 L st H Q ↔ Go 126 2 L (vi 0 :: st) H Q := G_iconst fX9_row_1
theorem fX9_row_2 : ft 126 2 = some (.putfield 72, 9, 0, 754, .null) := by decide +kernel
theorem gX9_row_2 {L : List (Option Value)} {p : Nat} {u : Int32} (hp : p ≠ 0) {st : List Value} {H : HP} {Q : Option Value → HP → Prop} : Go 126 2 L (.int u :: .ref p :: st) H Q ↔ Wr (pF' 9 0 (hget H p) (.int u)) p 126 5 L st H Q := G_putf fX9_row_2 ⟨⟨rfl, rfl⟩, rfl, Or.inl rfl⟩ hp
theorem fX9_row_5 : ft 126 5 = some (.iload_n 1, 0, 0, 0, .null) := by decide +kernel
theorem gX9_row_5 {l0 l2 l3 : Option Value} {u : Int32} {st : List Value} {H : HP} {Q : Option Value → HP → Prop} : Go 126 5 [l0, some (.int u), l2, l3] st H Q ↔ Go 126 6 [l0, some (.int u), l2, l3] (.int u :: st) H Q := G_iload_n fX9_row_5 rfl
theorem fX9_row_6 : ft 126 6 = some (.invokestatic 85, 119, 0, 841, .null) := by decide +kernel
theorem gX9_row_6 {L : List (Option Value)} {a0 : Int32}  {H : HP} {Q : Option Value → HP → Prop} : Go 126 6 L (.int a0 :: []) H Q ↔ Go 119 0 [some (.int a0)] [] H (Cont 126 9 L [] Q) := G_cS (n := 1) (N := 1) (as := [.int a0]) (st := []) fX9_row_6 (by decide +kernel) rfl (Nat.le_of_ble_eq_true rfl) (Nat.le_of_ble_eq_true rfl) rfl
theorem fX9_row_9 : ft 126 9 = some (.ifCond .ne 5, 0, 0, 0, .null) := by decide +kernel
theorem gX9_row_9T {L : List (Option Value)} {a : Int} (c : (-2147483648 ≤ a ∧ a ≤ 2147483647) ∧ ¬ a = 0) {st : List Value} {H : HP} {Q : Option Value → HP → Prop} : Go 126 9 L (vi a :: st) H Q ↔ Go 126 14 L st H Q := G_ifT fX9_row_9 (by decide) c
theorem gX9_row_9F {L : List (Option Value)} {a : Int} (c : (-2147483648 ≤ a ∧ a ≤ 2147483647) ∧ ¬ (¬ a = 0)) {st : List Value} {H : HP} {Q : Option Value → HP → Prop} : Go 126 9 L (vi a :: st) H Q ↔ Go 126 12 L st H Q := G_ifF (tg := 14) fX9_row_9 (by decide) c
theorem fX9_row_12 : ft 126 12 = some (.iconst (-1), 0, 0, 0, .null) := by decide +kernel
theorem gX9_row_12 {L : List (Option Value)} {st : List Value} {H : HP} {Q : Option Value → HP → Prop} : Go 126 12 L st H Q ↔ Go 126 13 L (vi (-1) :: st) H Q := G_iconst fX9_row_12
theorem fX9_row_13 : ft 126 13 = some (.ireturn, 0, 0, 0, .null) := by decide +kernel
theorem gX9_row_13 {L : List (Option Value)} {u : Int32} {H : HP} {Q : Option Value → HP → Prop} : Go 126 13 L [.int u] H Q ↔ Q (some (.int u)) H := G_iret fX9_row_13 (by decide +kernel)
theorem fX9_row_14 : ft 126 14 = some (.iload_n 2, 0, 0, 0, .null) := by decide +kernel
theorem gX9_row_14 {l0 l1 l3 : Option Value} {u : Int32} {st : List Value} {H : HP} {Q : Option Value → HP → Prop} : Go 126 14 [l0, l1, some (.int u), l3] st H Q ↔ Go 126 15 [l0, l1, some (.int u), l3] (.int u :: st) H Q := G_iload_n fX9_row_14 rfl
theorem fX9_row_15 : ft 126 15 = some (.iconst 0, 0, 0, 0, .null) := by decide +kernel
theorem gX9_row_15 {L : List (Option Value)} {st : List Value} {H : HP} {Q : Option Value → HP → Prop} : Go 126 15 L st H Q ↔ Go 126 16 L (vi 0 :: st) H Q := G_iconst fX9_row_15
theorem fX9_row_16 : ft 126 16 = some (.iconst 4, 0, 0, 0, .null) := by decide +kernel
theorem gX9_row_16 {L : List (Option Value)} {st : List Value} {H : HP} {Q : Option Value → HP → Prop} : Go 126 16 L st H Q ↔ Go 126 17 L (vi 4 :: st) H Q := G_iconst fX9_row_16
theorem fX9_row_17 : ft 126 17 = some (.invokestatic 75, 118, 0, 844, .null) := by decide +kernel
theorem gX9_row_17 {L : List (Option Value)} {a0 : Int32} {a1 : Int32} {a2 : Int32}  {H : HP} {Q : Option Value → HP → Prop} : Go 126 17 L (.int a2 :: .int a1 :: .int a0 :: []) H Q ↔ Go 118 0 [some (.int a0), some (.int a1), some (.int a2)] [] H (Cont 126 20 L [] Q) := G_cS (n := 3) (N := 3) (as := [.int a2, .int a1, .int a0]) (st := []) fX9_row_17 (by decide +kernel) rfl (Nat.le_of_ble_eq_true rfl) (Nat.le_of_ble_eq_true rfl) rfl
theorem fX9_row_20 : ft 126 20 = some (.ifCond .eq 13, 0, 0, 0, .null) := by decide +kernel
theorem gX9_row_20T {L : List (Option Value)} {a : Int} (c : (-2147483648 ≤ a ∧ a ≤ 2147483647) ∧ a = 0) {st : List Value} {H : HP} {Q : Option Value → HP → Prop} : Go 126 20 L (vi a :: st) H Q ↔ Go 126 33 L st H Q := G_ifT fX9_row_20 (by decide) c
theorem gX9_row_20F {L : List (Option Value)} {a : Int} (c : (-2147483648 ≤ a ∧ a ≤ 2147483647) ∧ ¬ (a = 0)) {st : List Value} {H : HP} {Q : Option Value → HP → Prop} : Go 126 20 L (vi a :: st) H Q ↔ Go 126 23 L st H Q := G_ifF (tg := 33) fX9_row_20 (by decide) c
theorem fX9_row_23 : ft 126 23 = some (.iload_n 3, 0, 0, 0, .null) := by decide +kernel
theorem gX9_row_23 {l0 l1 l2 : Option Value} {u : Int32} {st : List Value} {H : HP} {Q : Option Value → HP → Prop} : Go 126 23 [l0, l1, l2, some (.int u)] st H Q ↔ Go 126 24 [l0, l1, l2, some (.int u)] (.int u :: st) H Q := G_iload_n fX9_row_23 rfl
theorem fX9_row_24 : ft 126 24 = some (.ifCond .eq 9, 0, 0, 0, .null) := by decide +kernel
theorem gX9_row_24T {L : List (Option Value)} {a : Int} (c : (-2147483648 ≤ a ∧ a ≤ 2147483647) ∧ a = 0) {st : List Value} {H : HP} {Q : Option Value → HP → Prop} : Go 126 24 L (vi a :: st) H Q ↔ Go 126 33 L st H Q := G_ifT fX9_row_24 (by decide) c
theorem gX9_row_24F {L : List (Option Value)} {a : Int} (c : (-2147483648 ≤ a ∧ a ≤ 2147483647) ∧ ¬ (a = 0)) {st : List Value} {H : HP} {Q : Option Value → HP → Prop} : Go 126 24 L (vi a :: st) H Q ↔ Go 126 27 L st H Q := G_ifF (tg := 33) fX9_row_24 (by decide) c
theorem fX9_row_27 : ft 126 27 = some (.iload_n 3, 0, 0, 0, .null) := by decide +kernel
theorem gX9_row_27 {l0 l1 l2 : Option Value} {u : Int32} {st : List Value} {H : HP} {Q : Option Value → HP → Prop} : Go 126 27 [l0, l1, l2, some (.int u)] st H Q ↔ Go 126 28 [l0, l1, l2, some (.int u)] (.int u :: st) H Q := G_iload_n fX9_row_27 rfl
theorem fX9_row_28 : ft 126 28 = some (.bipush 64, 0, 0, 0, .null) := by decide +kernel
theorem gX9_row_28 {L : List (Option Value)} {st : List Value} {H : HP} {Q : Option Value → HP → Prop} : Go 126 28 L st H Q ↔ Go 126 30 L (vi 64 :: st) H Q := G_bipush fX9_row_28 (by decide)
theorem fX9_row_30 : ft 126 30 = some (.if_icmp .le 6, 0, 0, 0, .null) := by decide +kernel
theorem gX9_row_30T {L : List (Option Value)} {a b : Int} (c : (-2147483648 ≤ a ∧ a ≤ 2147483647 ∧ -2147483648 ≤ b ∧ b ≤ 2147483647) ∧ a ≤ b) {st : List Value} {H : HP} {Q : Option Value → HP → Prop} : Go 126 30 L (vi b :: vi a :: st) H Q ↔ Go 126 36 L st H Q := G_icT fX9_row_30 (by decide) c
theorem gX9_row_30F {L : List (Option Value)} {a b : Int} (c : (-2147483648 ≤ a ∧ a ≤ 2147483647 ∧ -2147483648 ≤ b ∧ b ≤ 2147483647) ∧ ¬ (a ≤ b)) {st : List Value} {H : HP} {Q : Option Value → HP → Prop} : Go 126 30 L (vi b :: vi a :: st) H Q ↔ Go 126 33 L st H Q := G_icF (tg := 36) fX9_row_30 (by decide) c
theorem fX9_row_33 : ft 126 33 = some (.bipush (-2), 0, 0, 0, .null) := by decide +kernel
theorem gX9_row_33 {L : List (Option Value)} {st : List Value} {H : HP} {Q : Option Value → HP → Prop} : Go 126 33 L st H Q ↔ Go 126 35 L (vi (-2) :: st) H Q := G_bipush fX9_row_33 (by decide)
theorem fX9_row_35 : ft 126 35 = some (.ireturn, 0, 0, 0, .null) := by decide +kernel
theorem gX9_row_35 {L : List (Option Value)} {u : Int32} {H : HP} {Q : Option Value → HP → Prop} : Go 126 35 L [.int u] H Q ↔ Q (some (.int u)) H := G_iret fX9_row_35 (by decide +kernel)
theorem fX9_row_36 : ft 126 36 = some (.iload_n 3, 0, 0, 0, .null) := by decide +kernel
theorem gX9_row_36 {l0 l1 l2 : Option Value} {u : Int32} {st : List Value} {H : HP} {Q : Option Value → HP → Prop} : Go 126 36 [l0, l1, l2, some (.int u)] st H Q ↔ Go 126 37 [l0, l1, l2, some (.int u)] (.int u :: st) H Q := G_iload_n fX9_row_36 rfl
theorem fX9_row_37 : ft 126 37 = some (.ifCond .ge 9, 0, 0, 0, .null) := by decide +kernel
theorem gX9_row_37T {L : List (Option Value)} {a : Int} (c : (-2147483648 ≤ a ∧ a ≤ 2147483647) ∧ 0 ≤ a) {st : List Value} {H : HP} {Q : Option Value → HP → Prop} : Go 126 37 L (vi a :: st) H Q ↔ Go 126 46 L st H Q := G_ifT fX9_row_37 (by decide) c
theorem gX9_row_37F {L : List (Option Value)} {a : Int} (c : (-2147483648 ≤ a ∧ a ≤ 2147483647) ∧ ¬ (0 ≤ a)) {st : List Value} {H : HP} {Q : Option Value → HP → Prop} : Go 126 37 L (vi a :: st) H Q ↔ Go 126 40 L st H Q := G_ifF (tg := 46) fX9_row_37 (by decide) c
theorem fX9_row_40 : ft 126 40 = some (.aload_n 0, 0, 0, 0, .null) := by decide +kernel
theorem gX9_row_40 {l1 l2 l3 : Option Value} {u : Nat} {st : List Value} {H : HP} {Q : Option Value → HP → Prop} : Go 126 40 [some (.ref u), l1, l2, l3] st H Q ↔ Go 126 41 [some (.ref u), l1, l2, l3] (.ref u :: st) H Q := G_aload_n fX9_row_40 rfl
theorem fX9_row_41 : ft 126 41 = some (.iconst 4, 0, 0, 0, .null) := by decide +kernel
theorem gX9_row_41 {L : List (Option Value)} {st : List Value} {H : HP} {Q : Option Value → HP → Prop} : Go 126 41 L st H Q ↔ Go 126 42 L (vi 4 :: st) H Q := G_iconst fX9_row_41
theorem fX9_row_42 : ft 126 42 = some (.invokevirtual 89, 117, 0, 847, .null) := by decide +kernel
theorem gX9_row_42 {L : List (Option Value)} {p : Nat} {a0 : Int32}  {H : HP} {Q : Option Value → HP → Prop} : Go 126 42 L (.int a0 :: .ref p :: []) H Q ↔ (iso 9 (hget H p) = true ∧ Go 117 0 [some (.ref p), some (.int a0)] [] H (Cont 126 45 L [] Q)) := G_cV (n := 1) (N := 2) (as := [.int a0]) (st := []) fX9_row_42 (by decide +kernel) rfl (Nat.le_of_ble_eq_true rfl) (Nat.le_of_ble_eq_true rfl) rfl
theorem fX9_row_45 : ft 126 45 = some (.ireturn, 0, 0, 0, .null) := by decide +kernel
theorem gX9_row_45 {L : List (Option Value)} {u : Int32} {H : HP} {Q : Option Value → HP → Prop} : Go 126 45 L [.int u] H Q ↔ Q (some (.int u)) H := G_iret fX9_row_45 (by decide +kernel)
theorem fX9_row_46 : ft 126 46 = some (.aload_n 0, 0, 0, 0, .null) := by decide +kernel
theorem gX9_row_46 {l1 l2 l3 : Option Value} {u : Nat} {st : List Value} {H : HP} {Q : Option Value → HP → Prop} : Go 126 46 [some (.ref u), l1, l2, l3] st H Q ↔ Go 126 47 [some (.ref u), l1, l2, l3] (.ref u :: st) H Q := G_aload_n fX9_row_46 rfl
theorem fX9_row_47 : ft 126 47 = some (.iload_n 1, 0, 0, 0, .null) := by decide +kernel
theorem gX9_row_47 {l0 l2 l3 : Option Value} {u : Int32} {st : List Value} {H : HP} {Q : Option Value → HP → Prop} : Go 126 47 [l0, some (.int u), l2, l3] st H Q ↔ Go 126 48 [l0, some (.int u), l2, l3] (.int u :: st) H Q := G_iload_n fX9_row_47 rfl
theorem fX9_row_48 : ft 126 48 = some (.iload_n 2, 0, 0, 0, .null) := by decide +kernel
theorem gX9_row_48 {l0 l1 l3 : Option Value} {u : Int32} {st : List Value} {H : HP} {Q : Option Value → HP → Prop} : Go 126 48 [l0, l1, some (.int u), l3] st H Q ↔ Go 126 49 [l0, l1, some (.int u), l3] (.int u :: st) H Q := G_iload_n fX9_row_48 rfl
theorem fX9_row_49 : ft 126 49 = some (.iload_n 3, 0, 0, 0, .null) := by decide +kernel
theorem gX9_row_49 {l0 l1 l2 : Option Value} {u : Int32} {st : List Value} {H : HP} {Q : Option Value → HP → Prop} : Go 126 49 [l0, l1, l2, some (.int u)] st H Q ↔ Go 126 50 [l0, l1, l2, some (.int u)] (.int u :: st) H Q := G_iload_n fX9_row_49 rfl
theorem fX9_row_50 : ft 126 50 = some (.invokevirtual 93, 122, 0, 851, .null) := by decide +kernel
theorem gX9_row_50 {L : List (Option Value)} {p : Nat} {a0 : Int32} {a1 : Int32} {a2 : Int32}  {H : HP} {Q : Option Value → HP → Prop} : Go 126 50 L (.int a2 :: .int a1 :: .int a0 :: .ref p :: []) H Q ↔ (iso 9 (hget H p) = true ∧ Go 122 0 [some (.ref p), some (.int a0), some (.int a1), some (.int a2), none, none, none] [] H (Cont 126 53 L [] Q)) := G_cV (n := 3) (N := 7) (as := [.int a2, .int a1, .int a0]) (st := []) fX9_row_50 (by decide +kernel) rfl (Nat.le_of_ble_eq_true rfl) (Nat.le_of_ble_eq_true rfl) rfl
theorem fX9_row_53 : ft 126 53 = some (.pop, 0, 0, 0, .null) := by decide +kernel
theorem gX9_row_53 {L : List (Option Value)} {u : Int32} {st : List Value} {H : HP} {Q : Option Value → HP → Prop} : Go 126 53 L (.int u :: st) H Q ↔ Go 126 54 L st H Q := G_pop fX9_row_53 rfl
theorem fX9_row_54 : ft 126 54 = some (.iconst 1, 0, 0, 0, .null) := by decide +kernel
theorem gX9_row_54 {L : List (Option Value)} {st : List Value} {H : HP} {Q : Option Value → HP → Prop} : Go 126 54 L st H Q ↔ Go 126 55 L (vi 1 :: st) H Q := G_iconst fX9_row_54
theorem fX9_row_55 : ft 126 55 = some (.ireturn, 0, 0, 0, .null) := by decide +kernel
theorem gX9_row_55 {L : List (Option Value)} {u : Int32} {H : HP} {Q : Option Value → HP → Prop} : Go 126 55 L [.int u] H Q ↔ Q (some (.int u)) H := G_iret fX9_row_55 (by decide +kernel)
theorem fX9_share_0 : ft 127 0 = some (.iload_n 1, 0, 0, 0, .null) := by decide +kernel
theorem gX9_share_0 {l0 l2 : Option Value} {u : Int32} {st : List Value} {H : HP} {Q : Option Value → HP → Prop} : Go 127 0 [l0, some (.int u), l2] st H Q ↔ Go 127 1 [l0, some (.int u), l2] (.int u :: st) H Q := G_iload_n fX9_share_0 rfl
theorem fX9_share_1 : ft 127 1 = some (.invokestatic 85, 119, 0, 841, .null) := by decide +kernel
theorem gX9_share_1 {L : List (Option Value)} {a0 : Int32}  {H : HP} {Q : Option Value → HP → Prop} : Go 127 1 L (.int a0 :: []) H Q ↔ Go 119 0 [some (.int a0)] [] H (Cont 127 4 L [] Q) := G_cS (n := 1) (N := 1) (as := [.int a0]) (st := []) fX9_share_1 (by decide +kernel) rfl (Nat.le_of_ble_eq_true rfl) (Nat.le_of_ble_eq_true rfl) rfl
theorem fX9_share_4 : ft 127 4 = some (.ifCond .eq 10, 0, 0, 0, .null) := by decide +kernel
theorem gX9_share_4T {L : List (Option Value)} {a : Int} (c : (-2147483648 ≤ a ∧ a ≤ 2147483647) ∧ a = 0) {st : List Value} {H : HP} {Q : Option Value → HP → Prop} : Go 127 4 L (vi a :: st) H Q ↔ Go 127 14 L st H Q := G_ifT fX9_share_4 (by decide) c
theorem gX9_share_4F {L : List (Option Value)} {a : Int} (c : (-2147483648 ≤ a ∧ a ≤ 2147483647) ∧ ¬ (a = 0)) {st : List Value} {H : HP} {Q : Option Value → HP → Prop} : Go 127 4 L (vi a :: st) H Q ↔ Go 127 7 L st H Q := G_ifF (tg := 14) fX9_share_4 (by decide) c
theorem fX9_share_7 : ft 127 7 = some (.iload_n 2, 0, 0, 0, .null) := by decide +kernel
theorem gX9_share_7 {l0 l1 : Option Value} {u : Int32} {st : List Value} {H : HP} {Q : Option Value → HP → Prop} : Go 127 7 [l0, l1, some (.int u)] st H Q ↔ Go 127 8 [l0, l1, some (.int u)] (.int u :: st) H Q := G_iload_n fX9_share_7 rfl
theorem fX9_share_8 : ft 127 8 = some (.invokestatic 85, 119, 0, 841, .null) := by decide +kernel
theorem gX9_share_8 {L : List (Option Value)} {a0 : Int32}  {H : HP} {Q : Option Value → HP → Prop} : Go 127 8 L (.int a0 :: []) H Q ↔ Go 119 0 [some (.int a0)] [] H (Cont 127 11 L [] Q) := G_cS (n := 1) (N := 1) (as := [.int a0]) (st := []) fX9_share_8 (by decide +kernel) rfl (Nat.le_of_ble_eq_true rfl) (Nat.le_of_ble_eq_true rfl) rfl
theorem fX9_share_11 : ft 127 11 = some (.ifCond .ne 5, 0, 0, 0, .null) := by decide +kernel
theorem gX9_share_11T {L : List (Option Value)} {a : Int} (c : (-2147483648 ≤ a ∧ a ≤ 2147483647) ∧ ¬ a = 0) {st : List Value} {H : HP} {Q : Option Value → HP → Prop} : Go 127 11 L (vi a :: st) H Q ↔ Go 127 16 L st H Q := G_ifT fX9_share_11 (by decide) c
theorem gX9_share_11F {L : List (Option Value)} {a : Int} (c : (-2147483648 ≤ a ∧ a ≤ 2147483647) ∧ ¬ (¬ a = 0)) {st : List Value} {H : HP} {Q : Option Value → HP → Prop} : Go 127 11 L (vi a :: st) H Q ↔ Go 127 14 L st H Q := G_ifF (tg := 16) fX9_share_11 (by decide) c
theorem fX9_share_14 : ft 127 14 = some (.iconst (-1), 0, 0, 0, .null) := by decide +kernel
theorem gX9_share_14 {L : List (Option Value)} {st : List Value} {H : HP} {Q : Option Value → HP → Prop} : Go 127 14 L st H Q ↔ Go 127 15 L (vi (-1) :: st) H Q := G_iconst fX9_share_14
theorem fX9_share_15 : ft 127 15 = some (.ireturn, 0, 0, 0, .null) := by decide +kernel
theorem gX9_share_15 {L : List (Option Value)} {u : Int32} {H : HP} {Q : Option Value → HP → Prop} : Go 127 15 L [.int u] H Q ↔ Q (some (.int u)) H := G_iret fX9_share_15 (by decide +kernel)
theorem fX9_share_16 : ft 127 16 = some (.aload_n 0, 0, 0, 0, .null) := by decide +kernel
theorem gX9_share_16 {l1 l2 : Option Value} {u : Nat} {st : List Value} {H : HP} {Q : Option Value → HP → Prop} : Go 127 16 [some (.ref u), l1, l2] st H Q ↔ Go 127 17 [some (.ref u), l1, l2] (.ref u :: st) H Q := G_aload_n fX9_share_16 rfl
theorem fX9_share_17 : ft 127 17 = some (.getfield 9, 9, 1, 755, .null) := by decide +kernel
theorem gX9_share_17 {L : List (Option Value)} {p : Nat} {st : List Value} {H : HP} {Q : Option Value → HP → Prop} : Go 127 17 L (.ref p :: st) H Q ↔ Rd (gF' 9 1 (hget H p)) 127 20 L st H Q := G_getf fX9_share_17 ⟨rfl, rfl⟩
theorem fX9_share_20 : ft 127 20 = some (.iload_n 1, 0, 0, 0, .null) := by decide +kernel
theorem gX9_share_20 {l0 l2 : Option Value} {u : Int32} {st : List Value} {H : HP} {Q : Option Value → HP → Prop} : Go 127 20 [l0, some (.int u), l2] st H Q ↔ Go 127 21 [l0, some (.int u), l2] (.int u :: st) H Q := G_iload_n fX9_share_20 rfl
theorem fX9_share_21 : ft 127 21 = some (.aload_n 0, 0, 0, 0, .null) := by decide +kernel
theorem gX9_share_21 {l1 l2 : Option Value} {u : Nat} {st : List Value} {H : HP} {Q : Option Value → HP → Prop} : Go 127 21 [some (.ref u), l1, l2] st H Q ↔ Go 127 22 [some (.ref u), l1, l2] (.ref u :: st) H Q := G_aload_n fX9_share_21 rfl
theorem fX9_share_22 : ft 127 22 = some (.getfield 9, 9, 1, 755, .null) := by decide +kernel
theorem gX9_share_22 {L : List (Option Value)} {p : Nat} {st : List Value} {H : HP} {Q : Option Value → HP → Prop} : Go 127 22 L (.ref p :: st) H Q ↔ Rd (gF' 9 1 (hget H p)) 127 25 L st H Q := G_getf fX9_share_22 ⟨rfl, rfl⟩
theorem fX9_share_25 : ft 127 25 = some (.iload_n 2, 0, 0, 0, .null) := by decide +kernel
theorem gX9_share_25 {l0 l1 : Option Value} {u : Int32} {st : List Value} {H : HP} {Q : Option Value → HP → Prop} : Go 127 25 [l0, l1, some (.int u)] st H Q ↔ Go 127 26 [l0, l1, some (.int u)] (.int u :: st) H Q := G_iload_n fX9_share_25 rfl
theorem fX9_share_26 : ft 127 26 = some (.iaload, 0, 0, 0, .null) := by decide +kernel
theorem gX9_share_26 {L : List (Option Value)} {p : Nat} {a : Int} {st : List Value} {H : HP} {Q : Option Value → HP → Prop} : Go 127 26 L (vi a :: .ref p :: st) H Q ↔ Rd (aJ' (hget H p) a) 127 27 L st H Q := G_iald fX9_share_26
theorem fX9_share_27 : ft 127 27 = some (.iastore, 0, 0, 0, .null) := by decide +kernel
theorem gX9_share_27 {L : List (Option Value)} {p : Nat} {a : Int} {b : Int} (hp : p ≠ 0) {st : List Value} {H : HP} {Q : Option Value → HP → Prop} : Go 127 27 L (vi b :: vi a :: .ref p :: st) H Q ↔ Wr (sJ' (hget H p) a b) p 127 28 L st H Q := G_iast fX9_share_27 hp
theorem fX9_share_28 : ft 127 28 = some (.iconst 1, 0, 0, 0, .null) := by decide +kernel
theorem gX9_share_28 {L : List (Option Value)} {st : List Value} {H : HP} {Q : Option Value → HP → Prop} : Go 127 28 L st H Q ↔ Go 127 29 L (vi 1 :: st) H Q := G_iconst fX9_share_28
theorem fX9_share_29 : ft 127 29 = some (.ireturn, 0, 0, 0, .null) := by decide +kernel
theorem gX9_share_29 {L : List (Option Value)} {u : Int32} {H : HP} {Q : Option Value → HP → Prop} : Go 127 29 L [.int u] H Q ↔ Q (some (.int u)) H := G_iret fX9_share_29 (by decide +kernel)
theorem fX9_kind_0 : ft 128 0 = some (.iload_n 1, 0, 0, 0, .null) := by decide +kernel
theorem gX9_kind_0 {l0 l2 : Option Value} {u : Int32} {st : List Value} {H : HP} {Q : Option Value → HP → Prop} : Go 128 0 [l0, some (.int u), l2] st H Q ↔ Go 128 1 [l0, some (.int u), l2] (.int u :: st) H Q := G_iload_n fX9_kind_0 rfl
theorem fX9_kind_1 : ft 128 1 = some (.invokestatic 85, 119, 0, 841, .null) := by decide +kernel
theorem gX9_kind_1 {L : List (Option Value)} {a0 : Int32}  {H : HP} {Q : Option Value → HP → Prop} : Go 128 1 L (.int a0 :: []) H Q ↔ Go 119 0 [some (.int a0)] [] H (Cont 128 4 L [] Q) := G_cS (n := 1) (N := 1) (as := [.int a0]) (st := []) fX9_kind_1 (by decide +kernel) rfl (Nat.le_of_ble_eq_true rfl) (Nat.le_of_ble_eq_true rfl) rfl
theorem fX9_kind_4 : ft 128 4 = some (.ifCond .ne 5, 0, 0, 0, .null) := by decide +kernel
theorem gX9_kind_4T {L : List (Option Value)} {a : Int} (c : (-2147483648 ≤ a ∧ a ≤ 2147483647) ∧ ¬ a = 0) {st : List Value} {H : HP} {Q : Option Value → HP → Prop} : Go 128 4 L (vi a :: st) H Q ↔ Go 128 9 L st H Q := G_ifT fX9_kind_4 (by decide) c
theorem gX9_kind_4F {L : List (Option Value)} {a : Int} (c : (-2147483648 ≤ a ∧ a ≤ 2147483647) ∧ ¬ (¬ a = 0)) {st : List Value} {H : HP} {Q : Option Value → HP → Prop} : Go 128 4 L (vi a :: st) H Q ↔ Go 128 7 L st H Q := G_ifF (tg := 9) fX9_kind_4 (by decide) c
theorem fX9_kind_7 : ft 128 7 = some (.iconst (-1), 0, 0, 0, .null) := by decide +kernel
theorem gX9_kind_7 {L : List (Option Value)} {st : List Value} {H : HP} {Q : Option Value → HP → Prop} : Go 128 7 L st H Q ↔ Go 128 8 L (vi (-1) :: st) H Q := G_iconst fX9_kind_7
theorem fX9_kind_8 : ft 128 8 = some (.ireturn, 0, 0, 0, .null) := by decide +kernel
theorem gX9_kind_8 {L : List (Option Value)} {u : Int32} {H : HP} {Q : Option Value → HP → Prop} : Go 128 8 L [.int u] H Q ↔ Q (some (.int u)) H := G_iret fX9_kind_8 (by decide +kernel)
theorem fX9_kind_9 : ft 128 9 = some (.iload_n 2, 0, 0, 0, .null) := by decide +kernel
theorem gX9_kind_9 {l0 l1 : Option Value} {u : Int32} {st : List Value} {H : HP} {Q : Option Value → HP → Prop} : Go 128 9 [l0, l1, some (.int u)] st H Q ↔ Go 128 10 [l0, l1, some (.int u)] (.int u :: st) H Q := G_iload_n fX9_kind_9 rfl
theorem fX9_kind_10 : ft 128 10 = some (.iconst 0, 0, 0, 0, .null) := by decide +kernel
theorem gX9_kind_10 {L : List (Option Value)} {st : List Value} {H : HP} {Q : Option Value → HP → Prop} : Go 128 10 L st H Q ↔ Go 128 11 L (vi 0 :: st) H Q := G_iconst fX9_kind_10
theorem fX9_kind_11 : ft 128 11 = some (.iconst 1, 0, 0, 0, .null) := by decide +kernel
theorem gX9_kind_11 {L : List (Option Value)} {st : List Value} {H : HP} {Q : Option Value → HP → Prop} : Go 128 11 L st H Q ↔ Go 128 12 L (vi 1 :: st) H Q := G_iconst fX9_kind_11
theorem fX9_kind_12 : ft 128 12 = some (.invokestatic 75, 118, 0, 844, .null) := by decide +kernel
theorem gX9_kind_12 {L : List (Option Value)} {a0 : Int32} {a1 : Int32} {a2 : Int32}  {H : HP} {Q : Option Value → HP → Prop} : Go 128 12 L (.int a2 :: .int a1 :: .int a0 :: []) H Q ↔ Go 118 0 [some (.int a0), some (.int a1), some (.int a2)] [] H (Cont 128 15 L [] Q) := G_cS (n := 3) (N := 3) (as := [.int a2, .int a1, .int a0]) (st := []) fX9_kind_12 (by decide +kernel) rfl (Nat.le_of_ble_eq_true rfl) (Nat.le_of_ble_eq_true rfl) rfl
theorem fX9_kind_15 : ft 128 15 = some (.ifCond .ne 6, 0, 0, 0, .null) := by decide +kernel
theorem gX9_kind_15T {L : List (Option Value)} {a : Int} (c : (-2147483648 ≤ a ∧ a ≤ 2147483647) ∧ ¬ a = 0) {st : List Value} {H : HP} {Q : Option Value → HP → Prop} : Go 128 15 L (vi a :: st) H Q ↔ Go 128 21 L st H Q := G_ifT fX9_kind_15 (by decide) c
theorem gX9_kind_15F {L : List (Option Value)} {a : Int} (c : (-2147483648 ≤ a ∧ a ≤ 2147483647) ∧ ¬ (¬ a = 0)) {st : List Value} {H : HP} {Q : Option Value → HP → Prop} : Go 128 15 L (vi a :: st) H Q ↔ Go 128 18 L st H Q := G_ifF (tg := 21) fX9_kind_15 (by decide) c
theorem fX9_kind_18 : ft 128 18 = some (.bipush (-2), 0, 0, 0, .null) := by decide +kernel
theorem gX9_kind_18 {L : List (Option Value)} {st : List Value} {H : HP} {Q : Option Value → HP → Prop} : Go 128 18 L st H Q ↔ Go 128 20 L (vi (-2) :: st) H Q := G_bipush fX9_kind_18 (by decide)
theorem fX9_kind_20 : ft 128 20 = some (.ireturn, 0, 0, 0, .null) := by decide +kernel
theorem gX9_kind_20 {L : List (Option Value)} {u : Int32} {H : HP} {Q : Option Value → HP → Prop} : Go 128 20 L [.int u] H Q ↔ Q (some (.int u)) H := G_iret fX9_kind_20 (by decide +kernel)
theorem fX9_kind_21 : ft 128 21 = some (.aload_n 0, 0, 0, 0, .null) := by decide +kernel
theorem gX9_kind_21 {l1 l2 : Option Value} {u : Nat} {st : List Value} {H : HP} {Q : Option Value → HP → Prop} : Go 128 21 [some (.ref u), l1, l2] st H Q ↔ Go 128 22 [some (.ref u), l1, l2] (.ref u :: st) H Q := G_aload_n fX9_kind_21 rfl
theorem fX9_kind_22 : ft 128 22 = some (.getfield 9, 9, 1, 755, .null) := by decide +kernel
theorem gX9_kind_22 {L : List (Option Value)} {p : Nat} {st : List Value} {H : HP} {Q : Option Value → HP → Prop} : Go 128 22 L (.ref p :: st) H Q ↔ Rd (gF' 9 1 (hget H p)) 128 25 L st H Q := G_getf fX9_kind_22 ⟨rfl, rfl⟩
theorem fX9_kind_25 : ft 128 25 = some (.iload_n 1, 0, 0, 0, .null) := by decide +kernel
theorem gX9_kind_25 {l0 l2 : Option Value} {u : Int32} {st : List Value} {H : HP} {Q : Option Value → HP → Prop} : Go 128 25 [l0, some (.int u), l2] st H Q ↔ Go 128 26 [l0, some (.int u), l2] (.int u :: st) H Q := G_iload_n fX9_kind_25 rfl
theorem fX9_kind_26 : ft 128 26 = some (.iaload, 0, 0, 0, .null) := by decide +kernel
theorem gX9_kind_26 {L : List (Option Value)} {p : Nat} {a : Int} {st : List Value} {H : HP} {Q : Option Value → HP → Prop} : Go 128 26 L (vi a :: .ref p :: st) H Q ↔ Rd (aJ' (hget H p) a) 128 27 L st H Q := G_iald fX9_kind_26
theorem fX9_kind_27 : ft 128 27 = some (.bipush (-9), 0, 0, 0, .null) := by decide +kernel
theorem gX9_kind_27 {L : List (Option Value)} {st : List Value} {H : HP} {Q : Option Value → HP → Prop} : Go 128 27 L st H Q ↔ Go 128 29 L (vi (-9) :: st) H Q := G_bipush fX9_kind_27 (by decide)
theorem fX9_kind_29 : ft 128 29 = some (.if_icmp .ne 8, 0, 0, 0, .null) := by decide +kernel
theorem gX9_kind_29T {L : List (Option Value)} {a b : Int} (c : (-2147483648 ≤ a ∧ a ≤ 2147483647 ∧ -2147483648 ≤ b ∧ b ≤ 2147483647) ∧ ¬ a = b) {st : List Value} {H : HP} {Q : Option Value → HP → Prop} : Go 128 29 L (vi b :: vi a :: st) H Q ↔ Go 128 37 L st H Q := G_icT fX9_kind_29 (by decide) c
theorem gX9_kind_29F {L : List (Option Value)} {a b : Int} (c : (-2147483648 ≤ a ∧ a ≤ 2147483647 ∧ -2147483648 ≤ b ∧ b ≤ 2147483647) ∧ ¬ (¬ a = b)) {st : List Value} {H : HP} {Q : Option Value → HP → Prop} : Go 128 29 L (vi b :: vi a :: st) H Q ↔ Go 128 32 L st H Q := G_icF (tg := 37) fX9_kind_29 (by decide) c
theorem fX9_kind_32 : ft 128 32 = some (.bipush (-9), 0, 0, 0, .null) := by decide +kernel
theorem gX9_kind_32 {L : List (Option Value)} {st : List Value} {H : HP} {Q : Option Value → HP → Prop} : Go 128 32 L st H Q ↔ Go 128 34 L (vi (-9) :: st) H Q := G_bipush fX9_kind_32 (by decide)
theorem fX9_kind_34 : ft 128 34 = some (.goto 20, 0, 0, 0, .null) := by decide +kernel
theorem gX9_kind_34 {L : List (Option Value)} {st : List Value} {H : HP} {Q : Option Value → HP → Prop} : Go 128 34 L st H Q ↔ Go 128 54 L st H Q := G_goto fX9_kind_34 (by decide)
theorem fX9_kind_37 : ft 128 37 = some (.iload_n 2, 0, 0, 0, .null) := by decide +kernel
theorem gX9_kind_37 {l0 l1 : Option Value} {u : Int32} {st : List Value} {H : HP} {Q : Option Value → HP → Prop} : Go 128 37 [l0, l1, some (.int u)] st H Q ↔ Go 128 38 [l0, l1, some (.int u)] (.int u :: st) H Q := G_iload_n fX9_kind_37 rfl
theorem fX9_kind_38 : ft 128 38 = some (.ifCond .ne 11, 0, 0, 0, .null) := by decide +kernel
theorem gX9_kind_38T {L : List (Option Value)} {a : Int} (c : (-2147483648 ≤ a ∧ a ≤ 2147483647) ∧ ¬ a = 0) {st : List Value} {H : HP} {Q : Option Value → HP → Prop} : Go 128 38 L (vi a :: st) H Q ↔ Go 128 49 L st H Q := G_ifT fX9_kind_38 (by decide) c
theorem gX9_kind_38F {L : List (Option Value)} {a : Int} (c : (-2147483648 ≤ a ∧ a ≤ 2147483647) ∧ ¬ (¬ a = 0)) {st : List Value} {H : HP} {Q : Option Value → HP → Prop} : Go 128 38 L (vi a :: st) H Q ↔ Go 128 41 L st H Q := G_ifF (tg := 49) fX9_kind_38 (by decide) c
theorem fX9_kind_41 : ft 128 41 = some (.aload_n 0, 0, 0, 0, .null) := by decide +kernel
theorem gX9_kind_41 {l1 l2 : Option Value} {u : Nat} {st : List Value} {H : HP} {Q : Option Value → HP → Prop} : Go 128 41 [some (.ref u), l1, l2] st H Q ↔ Go 128 42 [some (.ref u), l1, l2] (.ref u :: st) H Q := G_aload_n fX9_kind_41 rfl
theorem fX9_kind_42 : ft 128 42 = some (.iload_n 1, 0, 0, 0, .null) := by decide +kernel
theorem gX9_kind_42 {l0 l2 : Option Value} {u : Int32} {st : List Value} {H : HP} {Q : Option Value → HP → Prop} : Go 128 42 [l0, some (.int u), l2] st H Q ↔ Go 128 43 [l0, some (.int u), l2] (.int u :: st) H Q := G_iload_n fX9_kind_42 rfl
theorem fX9_kind_43 : ft 128 43 = some (.invokevirtual 97, 125, 0, 863, .null) := by decide +kernel
theorem gX9_kind_43 {L : List (Option Value)} {p : Nat} {a0 : Int32}  {H : HP} {Q : Option Value → HP → Prop} : Go 128 43 L (.int a0 :: .ref p :: []) H Q ↔ (iso 9 (hget H p) = true ∧ Go 125 0 [some (.ref p), some (.int a0)] [] H (Cont 128 46 L [] Q)) := G_cV (n := 1) (N := 2) (as := [.int a0]) (st := []) fX9_kind_43 (by decide +kernel) rfl (Nat.le_of_ble_eq_true rfl) (Nat.le_of_ble_eq_true rfl) rfl
theorem fX9_kind_46 : ft 128 46 = some (.goto 8, 0, 0, 0, .null) := by decide +kernel
theorem gX9_kind_46 {L : List (Option Value)} {st : List Value} {H : HP} {Q : Option Value → HP → Prop} : Go 128 46 L st H Q ↔ Go 128 54 L st H Q := G_goto fX9_kind_46 (by decide)
theorem fX9_kind_49 : ft 128 49 = some (.aload_n 0, 0, 0, 0, .null) := by decide +kernel
theorem gX9_kind_49 {l1 l2 : Option Value} {u : Nat} {st : List Value} {H : HP} {Q : Option Value → HP → Prop} : Go 128 49 [some (.ref u), l1, l2] st H Q ↔ Go 128 50 [some (.ref u), l1, l2] (.ref u :: st) H Q := G_aload_n fX9_kind_49 rfl
theorem fX9_kind_50 : ft 128 50 = some (.iload_n 1, 0, 0, 0, .null) := by decide +kernel
theorem gX9_kind_50 {l0 l2 : Option Value} {u : Int32} {st : List Value} {H : HP} {Q : Option Value → HP → Prop} : Go 128 50 [l0, some (.int u), l2] st H Q ↔ Go 128 51 [l0, some (.int u), l2] (.int u :: st) H Q := G_iload_n fX9_kind_50 rfl
theorem fX9_kind_51 : ft 128 51 = some (.invokevirtual 100, 124, 0, 867, .null) := by decide +kernel
theorem gX9_kind_51 {L : List (Option Value)} {p : Nat} {a0 : Int32}  {H : HP} {Q : Option Value → HP → Prop} : Go 128 51 L (.int a0 :: .ref p :: []) H Q ↔ (iso 9 (hget H p) = true ∧ Go 124 0 [some (.ref p), some (.int a0)] [] H (Cont 128 54 L [] Q)) := G_cV (n := 1) (N := 2) (as := [.int a0]) (st := []) fX9_kind_51 (by decide +kernel) rfl (Nat.le_of_ble_eq_true rfl) (Nat.le_of_ble_eq_true rfl) rfl
theorem fX9_kind_54 : ft 128 54 = some (.ireturn, 0, 0, 0, .null) := by decide +kernel
theorem gX9_kind_54 {L : List (Option Value)} {u : Int32} {H : HP} {Q : Option Value → HP → Prop} : Go 128 54 L [.int u] H Q ↔ Q (some (.int u)) H := G_iret fX9_kind_54 (by decide +kernel)
theorem fX9_isNumber_0 : ft 129 0 = some (.lload_n 0, 0, 0, 0, .null) := by decide +kernel
theorem gX9_isNumber_0  {u : Int64} {st : List Value} {H : HP} {Q : Option Value → HP → Prop} : Go 129 0 [some (.long u), none] st H Q ↔ Go 129 1 [some (.long u), none] (.long u :: st) H Q := G_lload_n fX9_isNumber_0 rfl
theorem fX9_isNumber_1 : ft 129 1 = some (.ldc2_w 103, 0, 0, 881, .long (9223372036854775807)) := by decide +kernel
theorem gX9_isNumber_1 {L : List (Option Value)} {st : List Value} {H : HP} {Q : Option Value → HP → Prop} : Go 129 1 L st H Q ↔ Go 129 4 L (vl (9223372036854775807) :: st) H Q := G_ldcl fX9_isNumber_1 (by decide +kernel)
theorem fX9_isNumber_4 : ft 129 4 = some (.land, 0, 0, 0, .null) := by decide +kernel
theorem gX9_isNumber_4 {L : List (Option Value)} {a b : Int} {st : List Value} {H : HP} {Q : Option Value → HP → Prop} : Go 129 4 L (vl b :: vl a :: st) H Q ↔ Go 129 5 L (vl (bAnd a b) :: st) H Q := G_land fX9_isNumber_4
theorem fX9_isNumber_5 : ft 129 5 = some (.ldc2_w 105, 0, 0, 882, .long (9218868437227405312)) := by decide +kernel
theorem gX9_isNumber_5 {L : List (Option Value)} {st : List Value} {H : HP} {Q : Option Value → HP → Prop} : Go 129 5 L st H Q ↔ Go 129 8 L (vl (9218868437227405312) :: st) H Q := G_ldcl fX9_isNumber_5 (by decide +kernel)
theorem fX9_isNumber_8 : ft 129 8 = some (.lcmp, 0, 0, 0, .null) := by decide +kernel
theorem fX9_isNumber_8' : ft 129 9 = some (.ifCond .gt 7, 0, 0, 0, .null) := by decide +kernel
theorem gX9_isNumber_8T {L : List (Option Value)} {a b : Int} (c : (-9223372036854775808 ≤ a ∧ a ≤ 9223372036854775807 ∧ -9223372036854775808 ≤ b ∧ b ≤ 9223372036854775807) ∧ b < a) {st : List Value} {H : HP} {Q : Option Value → HP → Prop} : Go 129 8 L (vl b :: vl a :: st) H Q ↔ Go 129 16 L st H Q := G_lcT fX9_isNumber_8 fX9_isNumber_8' (by decide) c
theorem gX9_isNumber_8F {L : List (Option Value)} {a b : Int} (c : (-9223372036854775808 ≤ a ∧ a ≤ 9223372036854775807 ∧ -9223372036854775808 ≤ b ∧ b ≤ 9223372036854775807) ∧ ¬ (b < a)) {st : List Value} {H : HP} {Q : Option Value → HP → Prop} : Go 129 8 L (vl b :: vl a :: st) H Q ↔ Go 129 12 L st H Q := G_lcF (tg := 16) fX9_isNumber_8 fX9_isNumber_8' (by decide) c
theorem fX9_isNumber_9 : ft 129 9 = some (.ifCond .gt 7, 0, 0, 0, .null) := by decide +kernel
theorem gX9_isNumber_9T {L : List (Option Value)} {a : Int} (c : (-2147483648 ≤ a ∧ a ≤ 2147483647) ∧ 0 < a) {st : List Value} {H : HP} {Q : Option Value → HP → Prop} : Go 129 9 L (vi a :: st) H Q ↔ Go 129 16 L st H Q := G_ifT fX9_isNumber_9 (by decide) c
theorem gX9_isNumber_9F {L : List (Option Value)} {a : Int} (c : (-2147483648 ≤ a ∧ a ≤ 2147483647) ∧ ¬ (0 < a)) {st : List Value} {H : HP} {Q : Option Value → HP → Prop} : Go 129 9 L (vi a :: st) H Q ↔ Go 129 12 L st H Q := G_ifF (tg := 16) fX9_isNumber_9 (by decide) c
theorem fX9_isNumber_12 : ft 129 12 = some (.iconst 1, 0, 0, 0, .null) := by decide +kernel
theorem gX9_isNumber_12 {L : List (Option Value)} {st : List Value} {H : HP} {Q : Option Value → HP → Prop} : Go 129 12 L st H Q ↔ Go 129 13 L (vi 1 :: st) H Q := G_iconst fX9_isNumber_12
theorem fX9_isNumber_13 : ft 129 13 = some (.goto 4, 0, 0, 0, .null) := by decide +kernel
theorem gX9_isNumber_13 {L : List (Option Value)} {st : List Value} {H : HP} {Q : Option Value → HP → Prop} : Go 129 13 L st H Q ↔ Go 129 17 L st H Q := G_goto fX9_isNumber_13 (by decide)
theorem fX9_isNumber_16 : ft 129 16 = some (.iconst 0, 0, 0, 0, .null) := by decide +kernel
theorem gX9_isNumber_16 {L : List (Option Value)} {st : List Value} {H : HP} {Q : Option Value → HP → Prop} : Go 129 16 L st H Q ↔ Go 129 17 L (vi 0 :: st) H Q := G_iconst fX9_isNumber_16
theorem fX9_isNumber_17 : ft 129 17 = some (.ireturn, 0, 0, 0, .null) := by decide +kernel
theorem gX9_isNumber_17 {L : List (Option Value)} {a : Int} (c : a = 0 ∨ a = 1) {H : HP} {Q : Option Value → HP → Prop} : Go 129 17 L [vi a] H Q ↔ Q (some (vi a)) H := G_zret fX9_isNumber_17 (by decide +kernel) c
theorem fX9_comes_0 : ft 130 0 = some (.iload_n 0, 0, 0, 0, .null) := by decide +kernel
theorem gX9_comes_0 {l1 l2 : Option Value} {u : Int32} {st : List Value} {H : HP} {Q : Option Value → HP → Prop} : Go 130 0 [some (.int u), l1, l2] st H Q ↔ Go 130 1 [some (.int u), l1, l2] (.int u :: st) H Q := G_iload_n fX9_comes_0 rfl
theorem fX9_comes_1 : ft 130 1 = some (.tableswitch 47 0 3 #[31, 36, 41, 45], 0, 0, 0, .null) := by decide +kernel
theorem gX9_comes_1O {L : List (Option Value)} {a : Int} (c : (-2147483648 ≤ a ∧ a ≤ 2147483647) ∧ (a < 0 ∨ 3 < a)) {st : List Value} {H : HP} {Q : Option Value → HP → Prop} : Go 130 1 L (vi a :: st) H Q ↔ Go 130 48 L st H Q := G_swO fX9_comes_1 (by decide) c
theorem gX9_comes_1_0 {L : List (Option Value)} {a : Int} (c : a = 0) {st : List Value} {H : HP} {Q : Option Value → HP → Prop} : Go 130 1 L (vi a :: st) H Q ↔ Go 130 32 L st H Q := G_swI (i := 31) (j := 0) fX9_comes_1 (by decide) (by decide) (by decide) c
theorem gX9_comes_1_1 {L : List (Option Value)} {a : Int} (c : a = 1) {st : List Value} {H : HP} {Q : Option Value → HP → Prop} : Go 130 1 L (vi a :: st) H Q ↔ Go 130 37 L st H Q := G_swI (i := 36) (j := 1) fX9_comes_1 (by decide) (by decide) (by decide) c
theorem gX9_comes_1_2 {L : List (Option Value)} {a : Int} (c : a = 2) {st : List Value} {H : HP} {Q : Option Value → HP → Prop} : Go 130 1 L (vi a :: st) H Q ↔ Go 130 42 L st H Q := G_swI (i := 41) (j := 2) fX9_comes_1 (by decide) (by decide) (by decide) c
theorem gX9_comes_1_3 {L : List (Option Value)} {a : Int} (c : a = 3) {st : List Value} {H : HP} {Q : Option Value → HP → Prop} : Go 130 1 L (vi a :: st) H Q ↔ Go 130 46 L st H Q := G_swI (i := 45) (j := 3) fX9_comes_1 (by decide) (by decide) (by decide) c
theorem fX9_comes_32 : ft 130 32 = some (.lload_n 1, 0, 0, 0, .null) := by decide +kernel
theorem gX9_comes_32 {l0 : Option Value} {u : Int64} {st : List Value} {H : HP} {Q : Option Value → HP → Prop} : Go 130 32 [l0, some (.long u), none] st H Q ↔ Go 130 33 [l0, some (.long u), none] (.long u :: st) H Q := G_lload_n fX9_comes_32 rfl
theorem fX9_comes_33 : ft 130 33 = some (.l2i, 0, 0, 0, .null) := by decide +kernel
theorem gX9_comes_33 {L : List (Option Value)} {a : Int} {st : List Value} {H : HP} {Q : Option Value → HP → Prop} : Go 130 33 L (vl a :: st) H Q ↔ Go 130 34 L (vi a :: st) H Q := G_l2i fX9_comes_33
theorem fX9_comes_34 : ft 130 34 = some (.i2b, 0, 0, 0, .null) := by decide +kernel
theorem gX9_comes_34 {L : List (Option Value)} {a : Int} {st : List Value} {H : HP} {Q : Option Value → HP → Prop} : Go 130 34 L (vi a :: st) H Q ↔ Go 130 35 L (vi (jB a) :: st) H Q := G_i2b fX9_comes_34
theorem fX9_comes_35 : ft 130 35 = some (.i2l, 0, 0, 0, .null) := by decide +kernel
theorem gX9_comes_35 {L : List (Option Value)} {a : Int} (c : -2147483648 ≤ a ∧ a ≤ 2147483647) {st : List Value} {H : HP} {Q : Option Value → HP → Prop} : Go 130 35 L (vi a :: st) H Q ↔ Go 130 36 L (vl a :: st) H Q := G_i2l fX9_comes_35 c
theorem fX9_comes_36 : ft 130 36 = some (.lreturn, 0, 0, 0, .null) := by decide +kernel
theorem gX9_comes_36 {L : List (Option Value)} {u : Int64} {H : HP} {Q : Option Value → HP → Prop} : Go 130 36 L [.long u] H Q ↔ Q (some (.long u)) H := G_lret fX9_comes_36 (by decide +kernel)
theorem fX9_comes_37 : ft 130 37 = some (.lload_n 1, 0, 0, 0, .null) := by decide +kernel
theorem gX9_comes_37 {l0 : Option Value} {u : Int64} {st : List Value} {H : HP} {Q : Option Value → HP → Prop} : Go 130 37 [l0, some (.long u), none] st H Q ↔ Go 130 38 [l0, some (.long u), none] (.long u :: st) H Q := G_lload_n fX9_comes_37 rfl
theorem fX9_comes_38 : ft 130 38 = some (.l2i, 0, 0, 0, .null) := by decide +kernel
theorem gX9_comes_38 {L : List (Option Value)} {a : Int} {st : List Value} {H : HP} {Q : Option Value → HP → Prop} : Go 130 38 L (vl a :: st) H Q ↔ Go 130 39 L (vi a :: st) H Q := G_l2i fX9_comes_38
theorem fX9_comes_39 : ft 130 39 = some (.i2s, 0, 0, 0, .null) := by decide +kernel
theorem gX9_comes_39 {L : List (Option Value)} {a : Int} {st : List Value} {H : HP} {Q : Option Value → HP → Prop} : Go 130 39 L (vi a :: st) H Q ↔ Go 130 40 L (vi (jS a) :: st) H Q := G_i2s fX9_comes_39
theorem fX9_comes_40 : ft 130 40 = some (.i2l, 0, 0, 0, .null) := by decide +kernel
theorem gX9_comes_40 {L : List (Option Value)} {a : Int} (c : -2147483648 ≤ a ∧ a ≤ 2147483647) {st : List Value} {H : HP} {Q : Option Value → HP → Prop} : Go 130 40 L (vi a :: st) H Q ↔ Go 130 41 L (vl a :: st) H Q := G_i2l fX9_comes_40 c
theorem fX9_comes_41 : ft 130 41 = some (.lreturn, 0, 0, 0, .null) := by decide +kernel
theorem gX9_comes_41 {L : List (Option Value)} {u : Int64} {H : HP} {Q : Option Value → HP → Prop} : Go 130 41 L [.long u] H Q ↔ Q (some (.long u)) H := G_lret fX9_comes_41 (by decide +kernel)
theorem fX9_comes_42 : ft 130 42 = some (.lload_n 1, 0, 0, 0, .null) := by decide +kernel
theorem gX9_comes_42 {l0 : Option Value} {u : Int64} {st : List Value} {H : HP} {Q : Option Value → HP → Prop} : Go 130 42 [l0, some (.long u), none] st H Q ↔ Go 130 43 [l0, some (.long u), none] (.long u :: st) H Q := G_lload_n fX9_comes_42 rfl
theorem fX9_comes_43 : ft 130 43 = some (.l2i, 0, 0, 0, .null) := by decide +kernel
theorem gX9_comes_43 {L : List (Option Value)} {a : Int} {st : List Value} {H : HP} {Q : Option Value → HP → Prop} : Go 130 43 L (vl a :: st) H Q ↔ Go 130 44 L (vi a :: st) H Q := G_l2i fX9_comes_43
theorem fX9_comes_44 : ft 130 44 = some (.i2l, 0, 0, 0, .null) := by decide +kernel
theorem gX9_comes_44 {L : List (Option Value)} {a : Int} (c : -2147483648 ≤ a ∧ a ≤ 2147483647) {st : List Value} {H : HP} {Q : Option Value → HP → Prop} : Go 130 44 L (vi a :: st) H Q ↔ Go 130 45 L (vl a :: st) H Q := G_i2l fX9_comes_44 c
theorem fX9_comes_45 : ft 130 45 = some (.lreturn, 0, 0, 0, .null) := by decide +kernel
theorem gX9_comes_45 {L : List (Option Value)} {u : Int64} {H : HP} {Q : Option Value → HP → Prop} : Go 130 45 L [.long u] H Q ↔ Q (some (.long u)) H := G_lret fX9_comes_45 (by decide +kernel)
theorem fX9_comes_46 : ft 130 46 = some (.lload_n 1, 0, 0, 0, .null) := by decide +kernel
theorem gX9_comes_46 {l0 : Option Value} {u : Int64} {st : List Value} {H : HP} {Q : Option Value → HP → Prop} : Go 130 46 [l0, some (.long u), none] st H Q ↔ Go 130 47 [l0, some (.long u), none] (.long u :: st) H Q := G_lload_n fX9_comes_46 rfl
theorem fX9_comes_47 : ft 130 47 = some (.lreturn, 0, 0, 0, .null) := by decide +kernel
theorem gX9_comes_47 {L : List (Option Value)} {u : Int64} {H : HP} {Q : Option Value → HP → Prop} : Go 130 47 L [.long u] H Q ↔ Q (some (.long u)) H := G_lret fX9_comes_47 (by decide +kernel)
theorem fX9_comes_48 : ft 130 48 = some (.lload_n 1, 0, 0, 0, .null) := by decide +kernel
theorem gX9_comes_48 {l0 : Option Value} {u : Int64} {st : List Value} {H : HP} {Q : Option Value → HP → Prop} : Go 130 48 [l0, some (.long u), none] st H Q ↔ Go 130 49 [l0, some (.long u), none] (.long u :: st) H Q := G_lload_n fX9_comes_48 rfl
theorem fX9_comes_49 : ft 130 49 = some (.invokestatic 107, 129, 0, 878, .null) := by decide +kernel
theorem gX9_comes_49 {L : List (Option Value)} {a0 : Int64}  {H : HP} {Q : Option Value → HP → Prop} : Go 130 49 L (.long a0 :: []) H Q ↔ Go 129 0 [some (.long a0), none] [] H (Cont 130 52 L [] Q) := G_cS (n := 1) (N := 2) (as := [.long a0]) (st := []) fX9_comes_49 (by decide +kernel) rfl (Nat.le_of_ble_eq_true rfl) (Nat.le_of_ble_eq_true rfl) rfl
theorem fX9_comes_52 : ft 130 52 = some (.ifCond .eq 7, 0, 0, 0, .null) := by decide +kernel
theorem gX9_comes_52T {L : List (Option Value)} {a : Int} (c : (-2147483648 ≤ a ∧ a ≤ 2147483647) ∧ a = 0) {st : List Value} {H : HP} {Q : Option Value → HP → Prop} : Go 130 52 L (vi a :: st) H Q ↔ Go 130 59 L st H Q := G_ifT fX9_comes_52 (by decide) c
theorem gX9_comes_52F {L : List (Option Value)} {a : Int} (c : (-2147483648 ≤ a ∧ a ≤ 2147483647) ∧ ¬ (a = 0)) {st : List Value} {H : HP} {Q : Option Value → HP → Prop} : Go 130 52 L (vi a :: st) H Q ↔ Go 130 55 L st H Q := G_ifF (tg := 59) fX9_comes_52 (by decide) c
theorem fX9_comes_55 : ft 130 55 = some (.lload_n 1, 0, 0, 0, .null) := by decide +kernel
theorem gX9_comes_55 {l0 : Option Value} {u : Int64} {st : List Value} {H : HP} {Q : Option Value → HP → Prop} : Go 130 55 [l0, some (.long u), none] st H Q ↔ Go 130 56 [l0, some (.long u), none] (.long u :: st) H Q := G_lload_n fX9_comes_55 rfl
theorem fX9_comes_56 : ft 130 56 = some (.goto 6, 0, 0, 0, .null) := by decide +kernel
theorem gX9_comes_56 {L : List (Option Value)} {st : List Value} {H : HP} {Q : Option Value → HP → Prop} : Go 130 56 L st H Q ↔ Go 130 62 L st H Q := G_goto fX9_comes_56 (by decide)
theorem fX9_comes_59 : ft 130 59 = some (.ldc2_w 111, 0, 0, 883, .long (9221120237041090560)) := by decide +kernel
theorem gX9_comes_59 {L : List (Option Value)} {st : List Value} {H : HP} {Q : Option Value → HP → Prop} : Go 130 59 L st H Q ↔ Go 130 62 L (vl (9221120237041090560) :: st) H Q := G_ldcl fX9_comes_59 (by decide +kernel)
theorem fX9_comes_62 : ft 130 62 = some (.lreturn, 0, 0, 0, .null) := by decide +kernel
theorem gX9_comes_62 {L : List (Option Value)} {u : Int64} {H : HP} {Q : Option Value → HP → Prop} : Go 130 62 L [.long u] H Q ↔ Q (some (.long u)) H := G_lret fX9_comes_62 (by decide +kernel)
theorem fX9_put_0 : ft 131 0 = some (.aload_n 0, 0, 0, 0, .null) := by decide +kernel
theorem gX9_put_0 {l1 l2 l3 l4 : Option Value} {u : Nat} {st : List Value} {H : HP} {Q : Option Value → HP → Prop} : Go 131 0 [some (.ref u), l1, l2, l3, l4] st H Q ↔ Go 131 1 [some (.ref u), l1, l2, l3, l4] (.ref u :: st) H Q := G_aload_n fX9_put_0 rfl
theorem fX9_put_1 : ft 131 1 = some (.iconst 0, 0, 0, 0, .null) := by decide +kernel
theorem gX9_put_1 {L : List (Option Value)} {st : List Value} {H : HP} {Q : Option Value → HP → Prop} : Go 131 1 L st H Q ↔ Go 131 2 L (vi 0 :: st) H Q := G_iconst fX9_put_1
theorem fX9_put_2 : ft 131 2 = some (.putfield 72, 9, 0, 754, .null) := by decide +kernel
theorem gX9_put_2 {L : List (Option Value)} {p : Nat} {u : Int32} (hp : p ≠ 0) {st : List Value} {H : HP} {Q : Option Value → HP → Prop} : Go 131 2 L (.int u :: .ref p :: st) H Q ↔ Wr (pF' 9 0 (hget H p) (.int u)) p 131 5 L st H Q := G_putf fX9_put_2 ⟨⟨rfl, rfl⟩, rfl, Or.inl rfl⟩ hp
theorem fX9_put_5 : ft 131 5 = some (.iload_n 1, 0, 0, 0, .null) := by decide +kernel
theorem gX9_put_5 {l0 l2 l3 l4 : Option Value} {u : Int32} {st : List Value} {H : HP} {Q : Option Value → HP → Prop} : Go 131 5 [l0, some (.int u), l2, l3, l4] st H Q ↔ Go 131 6 [l0, some (.int u), l2, l3, l4] (.int u :: st) H Q := G_iload_n fX9_put_5 rfl
theorem fX9_put_6 : ft 131 6 = some (.invokestatic 85, 119, 0, 841, .null) := by decide +kernel
theorem gX9_put_6 {L : List (Option Value)} {a0 : Int32}  {H : HP} {Q : Option Value → HP → Prop} : Go 131 6 L (.int a0 :: []) H Q ↔ Go 119 0 [some (.int a0)] [] H (Cont 131 9 L [] Q) := G_cS (n := 1) (N := 1) (as := [.int a0]) (st := []) fX9_put_6 (by decide +kernel) rfl (Nat.le_of_ble_eq_true rfl) (Nat.le_of_ble_eq_true rfl) rfl
theorem fX9_put_9 : ft 131 9 = some (.ifCond .ne 5, 0, 0, 0, .null) := by decide +kernel
theorem gX9_put_9T {L : List (Option Value)} {a : Int} (c : (-2147483648 ≤ a ∧ a ≤ 2147483647) ∧ ¬ a = 0) {st : List Value} {H : HP} {Q : Option Value → HP → Prop} : Go 131 9 L (vi a :: st) H Q ↔ Go 131 14 L st H Q := G_ifT fX9_put_9 (by decide) c
theorem gX9_put_9F {L : List (Option Value)} {a : Int} (c : (-2147483648 ≤ a ∧ a ≤ 2147483647) ∧ ¬ (¬ a = 0)) {st : List Value} {H : HP} {Q : Option Value → HP → Prop} : Go 131 9 L (vi a :: st) H Q ↔ Go 131 12 L st H Q := G_ifF (tg := 14) fX9_put_9 (by decide) c
theorem fX9_put_12 : ft 131 12 = some (.iconst (-1), 0, 0, 0, .null) := by decide +kernel
theorem gX9_put_12 {L : List (Option Value)} {st : List Value} {H : HP} {Q : Option Value → HP → Prop} : Go 131 12 L st H Q ↔ Go 131 13 L (vi (-1) :: st) H Q := G_iconst fX9_put_12
theorem fX9_put_13 : ft 131 13 = some (.ireturn, 0, 0, 0, .null) := by decide +kernel
theorem gX9_put_13 {L : List (Option Value)} {u : Int32} {H : HP} {Q : Option Value → HP → Prop} : Go 131 13 L [.int u] H Q ↔ Q (some (.int u)) H := G_iret fX9_put_13 (by decide +kernel)
theorem fX9_put_14 : ft 131 14 = some (.aload_n 0, 0, 0, 0, .null) := by decide +kernel
theorem gX9_put_14 {l1 l2 l3 l4 : Option Value} {u : Nat} {st : List Value} {H : HP} {Q : Option Value → HP → Prop} : Go 131 14 [some (.ref u), l1, l2, l3, l4] st H Q ↔ Go 131 15 [some (.ref u), l1, l2, l3, l4] (.ref u :: st) H Q := G_aload_n fX9_put_14 rfl
theorem fX9_put_15 : ft 131 15 = some (.getfield 9, 9, 1, 755, .null) := by decide +kernel
theorem gX9_put_15 {L : List (Option Value)} {p : Nat} {st : List Value} {H : HP} {Q : Option Value → HP → Prop} : Go 131 15 L (.ref p :: st) H Q ↔ Rd (gF' 9 1 (hget H p)) 131 18 L st H Q := G_getf fX9_put_15 ⟨rfl, rfl⟩
theorem fX9_put_18 : ft 131 18 = some (.iload_n 1, 0, 0, 0, .null) := by decide +kernel
theorem gX9_put_18 {l0 l2 l3 l4 : Option Value} {u : Int32} {st : List Value} {H : HP} {Q : Option Value → HP → Prop} : Go 131 18 [l0, some (.int u), l2, l3, l4] st H Q ↔ Go 131 19 [l0, some (.int u), l2, l3, l4] (.int u :: st) H Q := G_iload_n fX9_put_18 rfl
theorem fX9_put_19 : ft 131 19 = some (.iaload, 0, 0, 0, .null) := by decide +kernel
theorem gX9_put_19 {L : List (Option Value)} {p : Nat} {a : Int} {st : List Value} {H : HP} {Q : Option Value → HP → Prop} : Go 131 19 L (vi a :: .ref p :: st) H Q ↔ Rd (aJ' (hget H p) a) 131 20 L st H Q := G_iald fX9_put_19
theorem fX9_put_20 : ft 131 20 = some (.bipush (-9), 0, 0, 0, .null) := by decide +kernel
theorem gX9_put_20 {L : List (Option Value)} {st : List Value} {H : HP} {Q : Option Value → HP → Prop} : Go 131 20 L st H Q ↔ Go 131 22 L (vi (-9) :: st) H Q := G_bipush fX9_put_20 (by decide)
theorem fX9_put_22 : ft 131 22 = some (.if_icmp .ne 9, 0, 0, 0, .null) := by decide +kernel
theorem gX9_put_22T {L : List (Option Value)} {a b : Int} (c : (-2147483648 ≤ a ∧ a ≤ 2147483647 ∧ -2147483648 ≤ b ∧ b ≤ 2147483647) ∧ ¬ a = b) {st : List Value} {H : HP} {Q : Option Value → HP → Prop} : Go 131 22 L (vi b :: vi a :: st) H Q ↔ Go 131 31 L st H Q := G_icT fX9_put_22 (by decide) c
theorem gX9_put_22F {L : List (Option Value)} {a b : Int} (c : (-2147483648 ≤ a ∧ a ≤ 2147483647 ∧ -2147483648 ≤ b ∧ b ≤ 2147483647) ∧ ¬ (¬ a = b)) {st : List Value} {H : HP} {Q : Option Value → HP → Prop} : Go 131 22 L (vi b :: vi a :: st) H Q ↔ Go 131 25 L st H Q := G_icF (tg := 31) fX9_put_22 (by decide) c
theorem fX9_put_25 : ft 131 25 = some (.aload_n 0, 0, 0, 0, .null) := by decide +kernel
theorem gX9_put_25 {l1 l2 l3 l4 : Option Value} {u : Nat} {st : List Value} {H : HP} {Q : Option Value → HP → Prop} : Go 131 25 [some (.ref u), l1, l2, l3, l4] st H Q ↔ Go 131 26 [some (.ref u), l1, l2, l3, l4] (.ref u :: st) H Q := G_aload_n fX9_put_25 rfl
theorem fX9_put_26 : ft 131 26 = some (.iconst 1, 0, 0, 0, .null) := by decide +kernel
theorem gX9_put_26 {L : List (Option Value)} {st : List Value} {H : HP} {Q : Option Value → HP → Prop} : Go 131 26 L st H Q ↔ Go 131 27 L (vi 1 :: st) H Q := G_iconst fX9_put_26
theorem fX9_put_27 : ft 131 27 = some (.invokevirtual 89, 117, 0, 847, .null) := by decide +kernel
theorem gX9_put_27 {L : List (Option Value)} {p : Nat} {a0 : Int32}  {H : HP} {Q : Option Value → HP → Prop} : Go 131 27 L (.int a0 :: .ref p :: []) H Q ↔ (iso 9 (hget H p) = true ∧ Go 117 0 [some (.ref p), some (.int a0)] [] H (Cont 131 30 L [] Q)) := G_cV (n := 1) (N := 2) (as := [.int a0]) (st := []) fX9_put_27 (by decide +kernel) rfl (Nat.le_of_ble_eq_true rfl) (Nat.le_of_ble_eq_true rfl) rfl
theorem fX9_put_30 : ft 131 30 = some (.ireturn, 0, 0, 0, .null) := by decide +kernel
theorem gX9_put_30 {L : List (Option Value)} {u : Int32} {H : HP} {Q : Option Value → HP → Prop} : Go 131 30 L [.int u] H Q ↔ Q (some (.int u)) H := G_iret fX9_put_30 (by decide +kernel)
theorem fX9_put_31 : ft 131 31 = some (.iload_n 2, 0, 0, 0, .null) := by decide +kernel
theorem gX9_put_31 {l0 l1 l3 l4 : Option Value} {u : Int32} {st : List Value} {H : HP} {Q : Option Value → HP → Prop} : Go 131 31 [l0, l1, some (.int u), l3, l4] st H Q ↔ Go 131 32 [l0, l1, some (.int u), l3, l4] (.int u :: st) H Q := G_iload_n fX9_put_31 rfl
theorem fX9_put_32 : ft 131 32 = some (.ifCond .lt 12, 0, 0, 0, .null) := by decide +kernel
theorem gX9_put_32T {L : List (Option Value)} {a : Int} (c : (-2147483648 ≤ a ∧ a ≤ 2147483647) ∧ a < 0) {st : List Value} {H : HP} {Q : Option Value → HP → Prop} : Go 131 32 L (vi a :: st) H Q ↔ Go 131 44 L st H Q := G_ifT fX9_put_32 (by decide) c
theorem gX9_put_32F {L : List (Option Value)} {a : Int} (c : (-2147483648 ≤ a ∧ a ≤ 2147483647) ∧ ¬ (a < 0)) {st : List Value} {H : HP} {Q : Option Value → HP → Prop} : Go 131 32 L (vi a :: st) H Q ↔ Go 131 35 L st H Q := G_ifF (tg := 44) fX9_put_32 (by decide) c
theorem fX9_put_35 : ft 131 35 = some (.iload_n 2, 0, 0, 0, .null) := by decide +kernel
theorem gX9_put_35 {l0 l1 l3 l4 : Option Value} {u : Int32} {st : List Value} {H : HP} {Q : Option Value → HP → Prop} : Go 131 35 [l0, l1, some (.int u), l3, l4] st H Q ↔ Go 131 36 [l0, l1, some (.int u), l3, l4] (.int u :: st) H Q := G_iload_n fX9_put_35 rfl
theorem fX9_put_36 : ft 131 36 = some (.aload_n 0, 0, 0, 0, .null) := by decide +kernel
theorem gX9_put_36 {l1 l2 l3 l4 : Option Value} {u : Nat} {st : List Value} {H : HP} {Q : Option Value → HP → Prop} : Go 131 36 [some (.ref u), l1, l2, l3, l4] st H Q ↔ Go 131 37 [some (.ref u), l1, l2, l3, l4] (.ref u :: st) H Q := G_aload_n fX9_put_36 rfl
theorem fX9_put_37 : ft 131 37 = some (.iload_n 1, 0, 0, 0, .null) := by decide +kernel
theorem gX9_put_37 {l0 l2 l3 l4 : Option Value} {u : Int32} {st : List Value} {H : HP} {Q : Option Value → HP → Prop} : Go 131 37 [l0, some (.int u), l2, l3, l4] st H Q ↔ Go 131 38 [l0, some (.int u), l2, l3, l4] (.int u :: st) H Q := G_iload_n fX9_put_37 rfl
theorem fX9_put_38 : ft 131 38 = some (.invokevirtual 100, 124, 0, 867, .null) := by decide +kernel
theorem gX9_put_38 {L : List (Option Value)} {p : Nat} {a0 : Int32} {r0 : Int32} {H : HP} {Q : Option Value → HP → Prop} : Go 131 38 L (.int a0 :: .ref p :: [.int r0]) H Q ↔ (iso 9 (hget H p) = true ∧ Go 124 0 [some (.ref p), some (.int a0)] [] H (Cont 131 41 L [.int r0] Q)) := G_cV (n := 1) (N := 2) (as := [.int a0]) (st := [.int r0]) fX9_put_38 (by decide +kernel) rfl (Nat.le_of_ble_eq_true rfl) (Nat.le_of_ble_eq_true rfl) rfl
theorem fX9_put_41 : ft 131 41 = some (.if_icmp .lt 9, 0, 0, 0, .null) := by decide +kernel
theorem gX9_put_41T {L : List (Option Value)} {a b : Int} (c : (-2147483648 ≤ a ∧ a ≤ 2147483647 ∧ -2147483648 ≤ b ∧ b ≤ 2147483647) ∧ a < b) {st : List Value} {H : HP} {Q : Option Value → HP → Prop} : Go 131 41 L (vi b :: vi a :: st) H Q ↔ Go 131 50 L st H Q := G_icT fX9_put_41 (by decide) c
theorem gX9_put_41F {L : List (Option Value)} {a b : Int} (c : (-2147483648 ≤ a ∧ a ≤ 2147483647 ∧ -2147483648 ≤ b ∧ b ≤ 2147483647) ∧ ¬ (a < b)) {st : List Value} {H : HP} {Q : Option Value → HP → Prop} : Go 131 41 L (vi b :: vi a :: st) H Q ↔ Go 131 44 L st H Q := G_icF (tg := 50) fX9_put_41 (by decide) c
theorem fX9_put_44 : ft 131 44 = some (.aload_n 0, 0, 0, 0, .null) := by decide +kernel
theorem gX9_put_44 {l1 l2 l3 l4 : Option Value} {u : Nat} {st : List Value} {H : HP} {Q : Option Value → HP → Prop} : Go 131 44 [some (.ref u), l1, l2, l3, l4] st H Q ↔ Go 131 45 [some (.ref u), l1, l2, l3, l4] (.ref u :: st) H Q := G_aload_n fX9_put_44 rfl
theorem fX9_put_45 : ft 131 45 = some (.iconst 3, 0, 0, 0, .null) := by decide +kernel
theorem gX9_put_45 {L : List (Option Value)} {st : List Value} {H : HP} {Q : Option Value → HP → Prop} : Go 131 45 L st H Q ↔ Go 131 46 L (vi 3 :: st) H Q := G_iconst fX9_put_45
theorem fX9_put_46 : ft 131 46 = some (.invokevirtual 89, 117, 0, 847, .null) := by decide +kernel
theorem gX9_put_46 {L : List (Option Value)} {p : Nat} {a0 : Int32}  {H : HP} {Q : Option Value → HP → Prop} : Go 131 46 L (.int a0 :: .ref p :: []) H Q ↔ (iso 9 (hget H p) = true ∧ Go 117 0 [some (.ref p), some (.int a0)] [] H (Cont 131 49 L [] Q)) := G_cV (n := 1) (N := 2) (as := [.int a0]) (st := []) fX9_put_46 (by decide +kernel) rfl (Nat.le_of_ble_eq_true rfl) (Nat.le_of_ble_eq_true rfl) rfl
theorem fX9_put_49 : ft 131 49 = some (.ireturn, 0, 0, 0, .null) := by decide +kernel
theorem gX9_put_49 {L : List (Option Value)} {u : Int32} {H : HP} {Q : Option Value → HP → Prop} : Go 131 49 L [.int u] H Q ↔ Q (some (.int u)) H := G_iret fX9_put_49 (by decide +kernel)
theorem fX9_put_50 : ft 131 50 = some (.aload_n 0, 0, 0, 0, .null) := by decide +kernel
theorem gX9_put_50 {l1 l2 l3 l4 : Option Value} {u : Nat} {st : List Value} {H : HP} {Q : Option Value → HP → Prop} : Go 131 50 [some (.ref u), l1, l2, l3, l4] st H Q ↔ Go 131 51 [some (.ref u), l1, l2, l3, l4] (.ref u :: st) H Q := G_aload_n fX9_put_50 rfl
theorem fX9_put_51 : ft 131 51 = some (.getfield 19, 9, 4, 758, .null) := by decide +kernel
theorem gX9_put_51 {L : List (Option Value)} {p : Nat} {st : List Value} {H : HP} {Q : Option Value → HP → Prop} : Go 131 51 L (.ref p :: st) H Q ↔ Rd (gF' 9 4 (hget H p)) 131 54 L st H Q := G_getf fX9_put_51 ⟨rfl, rfl⟩
theorem fX9_put_54 : ft 131 54 = some (.bipush 64, 0, 0, 0, .null) := by decide +kernel
theorem gX9_put_54 {L : List (Option Value)} {st : List Value} {H : HP} {Q : Option Value → HP → Prop} : Go 131 54 L st H Q ↔ Go 131 56 L (vi 64 :: st) H Q := G_bipush fX9_put_54 (by decide)
theorem fX9_put_56 : ft 131 56 = some (.aload_n 0, 0, 0, 0, .null) := by decide +kernel
theorem gX9_put_56 {l1 l2 l3 l4 : Option Value} {u : Nat} {st : List Value} {H : HP} {Q : Option Value → HP → Prop} : Go 131 56 [some (.ref u), l1, l2, l3, l4] st H Q ↔ Go 131 57 [some (.ref u), l1, l2, l3, l4] (.ref u :: st) H Q := G_aload_n fX9_put_56 rfl
theorem fX9_put_57 : ft 131 57 = some (.getfield 9, 9, 1, 755, .null) := by decide +kernel
theorem gX9_put_57 {L : List (Option Value)} {p : Nat} {st : List Value} {H : HP} {Q : Option Value → HP → Prop} : Go 131 57 L (.ref p :: st) H Q ↔ Rd (gF' 9 1 (hget H p)) 131 60 L st H Q := G_getf fX9_put_57 ⟨rfl, rfl⟩
theorem fX9_put_60 : ft 131 60 = some (.iload_n 1, 0, 0, 0, .null) := by decide +kernel
theorem gX9_put_60 {l0 l2 l3 l4 : Option Value} {u : Int32} {st : List Value} {H : HP} {Q : Option Value → HP → Prop} : Go 131 60 [l0, some (.int u), l2, l3, l4] st H Q ↔ Go 131 61 [l0, some (.int u), l2, l3, l4] (.int u :: st) H Q := G_iload_n fX9_put_60 rfl
theorem fX9_put_61 : ft 131 61 = some (.iaload, 0, 0, 0, .null) := by decide +kernel
theorem gX9_put_61 {L : List (Option Value)} {p : Nat} {a : Int} {st : List Value} {H : HP} {Q : Option Value → HP → Prop} : Go 131 61 L (vi a :: .ref p :: st) H Q ↔ Rd (aJ' (hget H p) a) 131 62 L st H Q := G_iald fX9_put_61
theorem fX9_put_62 : ft 131 62 = some (.imul, 0, 0, 0, .null) := by decide +kernel
theorem gX9_put_62 {L : List (Option Value)} {a b : Int} {st : List Value} {H : HP} {Q : Option Value → HP → Prop} : Go 131 62 L (vi b :: vi a :: st) H Q ↔ Go 131 63 L (vi (a * b) :: st) H Q := G_imul fX9_put_62
theorem fX9_put_63 : ft 131 63 = some (.iload_n 2, 0, 0, 0, .null) := by decide +kernel
theorem gX9_put_63 {l0 l1 l3 l4 : Option Value} {u : Int32} {st : List Value} {H : HP} {Q : Option Value → HP → Prop} : Go 131 63 [l0, l1, some (.int u), l3, l4] st H Q ↔ Go 131 64 [l0, l1, some (.int u), l3, l4] (.int u :: st) H Q := G_iload_n fX9_put_63 rfl
theorem fX9_put_64 : ft 131 64 = some (.iadd, 0, 0, 0, .null) := by decide +kernel
theorem gX9_put_64 {L : List (Option Value)} {a b : Int} {st : List Value} {H : HP} {Q : Option Value → HP → Prop} : Go 131 64 L (vi b :: vi a :: st) H Q ↔ Go 131 65 L (vi (a + b) :: st) H Q := G_iadd fX9_put_64
theorem fX9_put_65 : ft 131 65 = some (.aload_n 0, 0, 0, 0, .null) := by decide +kernel
theorem gX9_put_65 {l1 l2 l3 l4 : Option Value} {u : Nat} {st : List Value} {H : HP} {Q : Option Value → HP → Prop} : Go 131 65 [some (.ref u), l1, l2, l3, l4] st H Q ↔ Go 131 66 [some (.ref u), l1, l2, l3, l4] (.ref u :: st) H Q := G_aload_n fX9_put_65 rfl
theorem fX9_put_66 : ft 131 66 = some (.iload_n 1, 0, 0, 0, .null) := by decide +kernel
theorem gX9_put_66 {l0 l2 l3 l4 : Option Value} {u : Int32} {st : List Value} {H : HP} {Q : Option Value → HP → Prop} : Go 131 66 [l0, some (.int u), l2, l3, l4] st H Q ↔ Go 131 67 [l0, some (.int u), l2, l3, l4] (.int u :: st) H Q := G_iload_n fX9_put_66 rfl
theorem fX9_put_67 : ft 131 67 = some (.invokevirtual 97, 125, 0, 863, .null) := by decide +kernel
theorem gX9_put_67 {L : List (Option Value)} {p : Nat} {a0 : Int32} {r0 : Int32} {r1 : Nat} {H : HP} {Q : Option Value → HP → Prop} : Go 131 67 L (.int a0 :: .ref p :: [.int r0, .ref r1]) H Q ↔ (iso 9 (hget H p) = true ∧ Go 125 0 [some (.ref p), some (.int a0)] [] H (Cont 131 70 L [.int r0, .ref r1] Q)) := G_cV (n := 1) (N := 2) (as := [.int a0]) (st := [.int r0, .ref r1]) fX9_put_67 (by decide +kernel) rfl (Nat.le_of_ble_eq_true rfl) (Nat.le_of_ble_eq_true rfl) rfl
theorem fX9_put_70 : ft 131 70 = some (.lload_n 3, 0, 0, 0, .null) := by decide +kernel
theorem gX9_put_70 {l0 l1 l2 : Option Value} {u : Int64} {st : List Value} {H : HP} {Q : Option Value → HP → Prop} : Go 131 70 [l0, l1, l2, some (.long u), none] st H Q ↔ Go 131 71 [l0, l1, l2, some (.long u), none] (.long u :: st) H Q := G_lload_n fX9_put_70 rfl
theorem fX9_put_71 : ft 131 71 = some (.invokestatic 113, 130, 0, 875, .null) := by decide +kernel
theorem gX9_put_71 {L : List (Option Value)} {a0 : Int32} {a1 : Int64} {r0 : Int32} {r1 : Nat} {H : HP} {Q : Option Value → HP → Prop} : Go 131 71 L (.long a1 :: .int a0 :: [.int r0, .ref r1]) H Q ↔ Go 130 0 [some (.int a0), some (.long a1), none] [] H (Cont 131 74 L [.int r0, .ref r1] Q) := G_cS (n := 2) (N := 3) (as := [.long a1, .int a0]) (st := [.int r0, .ref r1]) fX9_put_71 (by decide +kernel) rfl (Nat.le_of_ble_eq_true rfl) (Nat.le_of_ble_eq_true rfl) rfl
theorem fX9_put_74 : ft 131 74 = some (.lastore, 0, 0, 0, .null) := by decide +kernel
theorem gX9_put_74 {L : List (Option Value)} {p : Nat} {a : Int} {b : Int} (hp : p ≠ 0) {st : List Value} {H : HP} {Q : Option Value → HP → Prop} : Go 131 74 L (vl b :: vi a :: .ref p :: st) H Q ↔ Wr (sL' (hget H p) a b) p 131 75 L st H Q := G_last fX9_put_74 hp
theorem fX9_put_75 : ft 131 75 = some (.iconst 1, 0, 0, 0, .null) := by decide +kernel
theorem gX9_put_75 {L : List (Option Value)} {st : List Value} {H : HP} {Q : Option Value → HP → Prop} : Go 131 75 L st H Q ↔ Go 131 76 L (vi 1 :: st) H Q := G_iconst fX9_put_75
theorem fX9_put_76 : ft 131 76 = some (.ireturn, 0, 0, 0, .null) := by decide +kernel
theorem gX9_put_76 {L : List (Option Value)} {u : Int32} {H : HP} {Q : Option Value → HP → Prop} : Go 131 76 L [.int u] H Q ↔ Q (some (.int u)) H := G_iret fX9_put_76 (by decide +kernel)
theorem fX9_at_0 : ft 132 0 = some (.aload_n 0, 0, 0, 0, .null) := by decide +kernel
theorem gX9_at_0 {l1 l2 : Option Value} {u : Nat} {st : List Value} {H : HP} {Q : Option Value → HP → Prop} : Go 132 0 [some (.ref u), l1, l2] st H Q ↔ Go 132 1 [some (.ref u), l1, l2] (.ref u :: st) H Q := G_aload_n fX9_at_0 rfl
theorem fX9_at_1 : ft 132 1 = some (.iconst 0, 0, 0, 0, .null) := by decide +kernel
theorem gX9_at_1 {L : List (Option Value)} {st : List Value} {H : HP} {Q : Option Value → HP → Prop} : Go 132 1 L st H Q ↔ Go 132 2 L (vi 0 :: st) H Q := G_iconst fX9_at_1
theorem fX9_at_2 : ft 132 2 = some (.putfield 72, 9, 0, 754, .null) := by decide +kernel
theorem gX9_at_2 {L : List (Option Value)} {p : Nat} {u : Int32} (hp : p ≠ 0) {st : List Value} {H : HP} {Q : Option Value → HP → Prop} : Go 132 2 L (.int u :: .ref p :: st) H Q ↔ Wr (pF' 9 0 (hget H p) (.int u)) p 132 5 L st H Q := G_putf fX9_at_2 ⟨⟨rfl, rfl⟩, rfl, Or.inl rfl⟩ hp
theorem fX9_at_5 : ft 132 5 = some (.iload_n 1, 0, 0, 0, .null) := by decide +kernel
theorem gX9_at_5 {l0 l2 : Option Value} {u : Int32} {st : List Value} {H : HP} {Q : Option Value → HP → Prop} : Go 132 5 [l0, some (.int u), l2] st H Q ↔ Go 132 6 [l0, some (.int u), l2] (.int u :: st) H Q := G_iload_n fX9_at_5 rfl
theorem fX9_at_6 : ft 132 6 = some (.invokestatic 85, 119, 0, 841, .null) := by decide +kernel
theorem gX9_at_6 {L : List (Option Value)} {a0 : Int32}  {H : HP} {Q : Option Value → HP → Prop} : Go 132 6 L (.int a0 :: []) H Q ↔ Go 119 0 [some (.int a0)] [] H (Cont 132 9 L [] Q) := G_cS (n := 1) (N := 1) (as := [.int a0]) (st := []) fX9_at_6 (by decide +kernel) rfl (Nat.le_of_ble_eq_true rfl) (Nat.le_of_ble_eq_true rfl) rfl
theorem fX9_at_9 : ft 132 9 = some (.ifCond .ne 5, 0, 0, 0, .null) := by decide +kernel
theorem gX9_at_9T {L : List (Option Value)} {a : Int} (c : (-2147483648 ≤ a ∧ a ≤ 2147483647) ∧ ¬ a = 0) {st : List Value} {H : HP} {Q : Option Value → HP → Prop} : Go 132 9 L (vi a :: st) H Q ↔ Go 132 14 L st H Q := G_ifT fX9_at_9 (by decide) c
theorem gX9_at_9F {L : List (Option Value)} {a : Int} (c : (-2147483648 ≤ a ∧ a ≤ 2147483647) ∧ ¬ (¬ a = 0)) {st : List Value} {H : HP} {Q : Option Value → HP → Prop} : Go 132 9 L (vi a :: st) H Q ↔ Go 132 12 L st H Q := G_ifF (tg := 14) fX9_at_9 (by decide) c
theorem fX9_at_12 : ft 132 12 = some (.lconst 0, 0, 0, 0, .null) := by decide +kernel
theorem gX9_at_12 {L : List (Option Value)} {st : List Value} {H : HP} {Q : Option Value → HP → Prop} : Go 132 12 L st H Q ↔ Go 132 13 L (vl 0 :: st) H Q := G_lconst fX9_at_12 (by decide)
theorem fX9_at_13 : ft 132 13 = some (.lreturn, 0, 0, 0, .null) := by decide +kernel
theorem gX9_at_13 {L : List (Option Value)} {u : Int64} {H : HP} {Q : Option Value → HP → Prop} : Go 132 13 L [.long u] H Q ↔ Q (some (.long u)) H := G_lret fX9_at_13 (by decide +kernel)
theorem fX9_at_14 : ft 132 14 = some (.aload_n 0, 0, 0, 0, .null) := by decide +kernel
theorem gX9_at_14 {l1 l2 : Option Value} {u : Nat} {st : List Value} {H : HP} {Q : Option Value → HP → Prop} : Go 132 14 [some (.ref u), l1, l2] st H Q ↔ Go 132 15 [some (.ref u), l1, l2] (.ref u :: st) H Q := G_aload_n fX9_at_14 rfl
theorem fX9_at_15 : ft 132 15 = some (.getfield 9, 9, 1, 755, .null) := by decide +kernel
theorem gX9_at_15 {L : List (Option Value)} {p : Nat} {st : List Value} {H : HP} {Q : Option Value → HP → Prop} : Go 132 15 L (.ref p :: st) H Q ↔ Rd (gF' 9 1 (hget H p)) 132 18 L st H Q := G_getf fX9_at_15 ⟨rfl, rfl⟩
theorem fX9_at_18 : ft 132 18 = some (.iload_n 1, 0, 0, 0, .null) := by decide +kernel
theorem gX9_at_18 {l0 l2 : Option Value} {u : Int32} {st : List Value} {H : HP} {Q : Option Value → HP → Prop} : Go 132 18 [l0, some (.int u), l2] st H Q ↔ Go 132 19 [l0, some (.int u), l2] (.int u :: st) H Q := G_iload_n fX9_at_18 rfl
theorem fX9_at_19 : ft 132 19 = some (.iaload, 0, 0, 0, .null) := by decide +kernel
theorem gX9_at_19 {L : List (Option Value)} {p : Nat} {a : Int} {st : List Value} {H : HP} {Q : Option Value → HP → Prop} : Go 132 19 L (vi a :: .ref p :: st) H Q ↔ Rd (aJ' (hget H p) a) 132 20 L st H Q := G_iald fX9_at_19
theorem fX9_at_20 : ft 132 20 = some (.bipush (-9), 0, 0, 0, .null) := by decide +kernel
theorem gX9_at_20 {L : List (Option Value)} {st : List Value} {H : HP} {Q : Option Value → HP → Prop} : Go 132 20 L st H Q ↔ Go 132 22 L (vi (-9) :: st) H Q := G_bipush fX9_at_20 (by decide)
theorem fX9_at_22 : ft 132 22 = some (.if_icmp .ne 11, 0, 0, 0, .null) := by decide +kernel
theorem gX9_at_22T {L : List (Option Value)} {a b : Int} (c : (-2147483648 ≤ a ∧ a ≤ 2147483647 ∧ -2147483648 ≤ b ∧ b ≤ 2147483647) ∧ ¬ a = b) {st : List Value} {H : HP} {Q : Option Value → HP → Prop} : Go 132 22 L (vi b :: vi a :: st) H Q ↔ Go 132 33 L st H Q := G_icT fX9_at_22 (by decide) c
theorem gX9_at_22F {L : List (Option Value)} {a b : Int} (c : (-2147483648 ≤ a ∧ a ≤ 2147483647 ∧ -2147483648 ≤ b ∧ b ≤ 2147483647) ∧ ¬ (¬ a = b)) {st : List Value} {H : HP} {Q : Option Value → HP → Prop} : Go 132 22 L (vi b :: vi a :: st) H Q ↔ Go 132 25 L st H Q := G_icF (tg := 33) fX9_at_22 (by decide) c
theorem fX9_at_25 : ft 132 25 = some (.aload_n 0, 0, 0, 0, .null) := by decide +kernel
theorem gX9_at_25 {l1 l2 : Option Value} {u : Nat} {st : List Value} {H : HP} {Q : Option Value → HP → Prop} : Go 132 25 [some (.ref u), l1, l2] st H Q ↔ Go 132 26 [some (.ref u), l1, l2] (.ref u :: st) H Q := G_aload_n fX9_at_25 rfl
theorem fX9_at_26 : ft 132 26 = some (.iconst 1, 0, 0, 0, .null) := by decide +kernel
theorem gX9_at_26 {L : List (Option Value)} {st : List Value} {H : HP} {Q : Option Value → HP → Prop} : Go 132 26 L st H Q ↔ Go 132 27 L (vi 1 :: st) H Q := G_iconst fX9_at_26
theorem fX9_at_27 : ft 132 27 = some (.invokevirtual 89, 117, 0, 847, .null) := by decide +kernel
theorem gX9_at_27 {L : List (Option Value)} {p : Nat} {a0 : Int32}  {H : HP} {Q : Option Value → HP → Prop} : Go 132 27 L (.int a0 :: .ref p :: []) H Q ↔ (iso 9 (hget H p) = true ∧ Go 117 0 [some (.ref p), some (.int a0)] [] H (Cont 132 30 L [] Q)) := G_cV (n := 1) (N := 2) (as := [.int a0]) (st := []) fX9_at_27 (by decide +kernel) rfl (Nat.le_of_ble_eq_true rfl) (Nat.le_of_ble_eq_true rfl) rfl
theorem fX9_at_30 : ft 132 30 = some (.pop, 0, 0, 0, .null) := by decide +kernel
theorem gX9_at_30 {L : List (Option Value)} {u : Int32} {st : List Value} {H : HP} {Q : Option Value → HP → Prop} : Go 132 30 L (.int u :: st) H Q ↔ Go 132 31 L st H Q := G_pop fX9_at_30 rfl
theorem fX9_at_31 : ft 132 31 = some (.lconst 0, 0, 0, 0, .null) := by decide +kernel
theorem gX9_at_31 {L : List (Option Value)} {st : List Value} {H : HP} {Q : Option Value → HP → Prop} : Go 132 31 L st H Q ↔ Go 132 32 L (vl 0 :: st) H Q := G_lconst fX9_at_31 (by decide)
theorem fX9_at_32 : ft 132 32 = some (.lreturn, 0, 0, 0, .null) := by decide +kernel
theorem gX9_at_32 {L : List (Option Value)} {u : Int64} {H : HP} {Q : Option Value → HP → Prop} : Go 132 32 L [.long u] H Q ↔ Q (some (.long u)) H := G_lret fX9_at_32 (by decide +kernel)
theorem fX9_at_33 : ft 132 33 = some (.iload_n 2, 0, 0, 0, .null) := by decide +kernel
theorem gX9_at_33 {l0 l1 : Option Value} {u : Int32} {st : List Value} {H : HP} {Q : Option Value → HP → Prop} : Go 132 33 [l0, l1, some (.int u)] st H Q ↔ Go 132 34 [l0, l1, some (.int u)] (.int u :: st) H Q := G_iload_n fX9_at_33 rfl
theorem fX9_at_34 : ft 132 34 = some (.ifCond .lt 12, 0, 0, 0, .null) := by decide +kernel
theorem gX9_at_34T {L : List (Option Value)} {a : Int} (c : (-2147483648 ≤ a ∧ a ≤ 2147483647) ∧ a < 0) {st : List Value} {H : HP} {Q : Option Value → HP → Prop} : Go 132 34 L (vi a :: st) H Q ↔ Go 132 46 L st H Q := G_ifT fX9_at_34 (by decide) c
theorem gX9_at_34F {L : List (Option Value)} {a : Int} (c : (-2147483648 ≤ a ∧ a ≤ 2147483647) ∧ ¬ (a < 0)) {st : List Value} {H : HP} {Q : Option Value → HP → Prop} : Go 132 34 L (vi a :: st) H Q ↔ Go 132 37 L st H Q := G_ifF (tg := 46) fX9_at_34 (by decide) c
theorem fX9_at_37 : ft 132 37 = some (.iload_n 2, 0, 0, 0, .null) := by decide +kernel
theorem gX9_at_37 {l0 l1 : Option Value} {u : Int32} {st : List Value} {H : HP} {Q : Option Value → HP → Prop} : Go 132 37 [l0, l1, some (.int u)] st H Q ↔ Go 132 38 [l0, l1, some (.int u)] (.int u :: st) H Q := G_iload_n fX9_at_37 rfl
theorem fX9_at_38 : ft 132 38 = some (.aload_n 0, 0, 0, 0, .null) := by decide +kernel
theorem gX9_at_38 {l1 l2 : Option Value} {u : Nat} {st : List Value} {H : HP} {Q : Option Value → HP → Prop} : Go 132 38 [some (.ref u), l1, l2] st H Q ↔ Go 132 39 [some (.ref u), l1, l2] (.ref u :: st) H Q := G_aload_n fX9_at_38 rfl
theorem fX9_at_39 : ft 132 39 = some (.iload_n 1, 0, 0, 0, .null) := by decide +kernel
theorem gX9_at_39 {l0 l2 : Option Value} {u : Int32} {st : List Value} {H : HP} {Q : Option Value → HP → Prop} : Go 132 39 [l0, some (.int u), l2] st H Q ↔ Go 132 40 [l0, some (.int u), l2] (.int u :: st) H Q := G_iload_n fX9_at_39 rfl
theorem fX9_at_40 : ft 132 40 = some (.invokevirtual 100, 124, 0, 867, .null) := by decide +kernel
theorem gX9_at_40 {L : List (Option Value)} {p : Nat} {a0 : Int32} {r0 : Int32} {H : HP} {Q : Option Value → HP → Prop} : Go 132 40 L (.int a0 :: .ref p :: [.int r0]) H Q ↔ (iso 9 (hget H p) = true ∧ Go 124 0 [some (.ref p), some (.int a0)] [] H (Cont 132 43 L [.int r0] Q)) := G_cV (n := 1) (N := 2) (as := [.int a0]) (st := [.int r0]) fX9_at_40 (by decide +kernel) rfl (Nat.le_of_ble_eq_true rfl) (Nat.le_of_ble_eq_true rfl) rfl
theorem fX9_at_43 : ft 132 43 = some (.if_icmp .lt 11, 0, 0, 0, .null) := by decide +kernel
theorem gX9_at_43T {L : List (Option Value)} {a b : Int} (c : (-2147483648 ≤ a ∧ a ≤ 2147483647 ∧ -2147483648 ≤ b ∧ b ≤ 2147483647) ∧ a < b) {st : List Value} {H : HP} {Q : Option Value → HP → Prop} : Go 132 43 L (vi b :: vi a :: st) H Q ↔ Go 132 54 L st H Q := G_icT fX9_at_43 (by decide) c
theorem gX9_at_43F {L : List (Option Value)} {a b : Int} (c : (-2147483648 ≤ a ∧ a ≤ 2147483647 ∧ -2147483648 ≤ b ∧ b ≤ 2147483647) ∧ ¬ (a < b)) {st : List Value} {H : HP} {Q : Option Value → HP → Prop} : Go 132 43 L (vi b :: vi a :: st) H Q ↔ Go 132 46 L st H Q := G_icF (tg := 54) fX9_at_43 (by decide) c
theorem fX9_at_46 : ft 132 46 = some (.aload_n 0, 0, 0, 0, .null) := by decide +kernel
theorem gX9_at_46 {l1 l2 : Option Value} {u : Nat} {st : List Value} {H : HP} {Q : Option Value → HP → Prop} : Go 132 46 [some (.ref u), l1, l2] st H Q ↔ Go 132 47 [some (.ref u), l1, l2] (.ref u :: st) H Q := G_aload_n fX9_at_46 rfl
theorem fX9_at_47 : ft 132 47 = some (.iconst 3, 0, 0, 0, .null) := by decide +kernel
theorem gX9_at_47 {L : List (Option Value)} {st : List Value} {H : HP} {Q : Option Value → HP → Prop} : Go 132 47 L st H Q ↔ Go 132 48 L (vi 3 :: st) H Q := G_iconst fX9_at_47
theorem fX9_at_48 : ft 132 48 = some (.invokevirtual 89, 117, 0, 847, .null) := by decide +kernel
theorem gX9_at_48 {L : List (Option Value)} {p : Nat} {a0 : Int32}  {H : HP} {Q : Option Value → HP → Prop} : Go 132 48 L (.int a0 :: .ref p :: []) H Q ↔ (iso 9 (hget H p) = true ∧ Go 117 0 [some (.ref p), some (.int a0)] [] H (Cont 132 51 L [] Q)) := G_cV (n := 1) (N := 2) (as := [.int a0]) (st := []) fX9_at_48 (by decide +kernel) rfl (Nat.le_of_ble_eq_true rfl) (Nat.le_of_ble_eq_true rfl) rfl
theorem fX9_at_51 : ft 132 51 = some (.pop, 0, 0, 0, .null) := by decide +kernel
theorem gX9_at_51 {L : List (Option Value)} {u : Int32} {st : List Value} {H : HP} {Q : Option Value → HP → Prop} : Go 132 51 L (.int u :: st) H Q ↔ Go 132 52 L st H Q := G_pop fX9_at_51 rfl
theorem fX9_at_52 : ft 132 52 = some (.lconst 0, 0, 0, 0, .null) := by decide +kernel
theorem gX9_at_52 {L : List (Option Value)} {st : List Value} {H : HP} {Q : Option Value → HP → Prop} : Go 132 52 L st H Q ↔ Go 132 53 L (vl 0 :: st) H Q := G_lconst fX9_at_52 (by decide)
theorem fX9_at_53 : ft 132 53 = some (.lreturn, 0, 0, 0, .null) := by decide +kernel
theorem gX9_at_53 {L : List (Option Value)} {u : Int64} {H : HP} {Q : Option Value → HP → Prop} : Go 132 53 L [.long u] H Q ↔ Q (some (.long u)) H := G_lret fX9_at_53 (by decide +kernel)
theorem fX9_at_54 : ft 132 54 = some (.aload_n 0, 0, 0, 0, .null) := by decide +kernel
theorem gX9_at_54 {l1 l2 : Option Value} {u : Nat} {st : List Value} {H : HP} {Q : Option Value → HP → Prop} : Go 132 54 [some (.ref u), l1, l2] st H Q ↔ Go 132 55 [some (.ref u), l1, l2] (.ref u :: st) H Q := G_aload_n fX9_at_54 rfl
theorem fX9_at_55 : ft 132 55 = some (.iload_n 1, 0, 0, 0, .null) := by decide +kernel
theorem gX9_at_55 {l0 l2 : Option Value} {u : Int32} {st : List Value} {H : HP} {Q : Option Value → HP → Prop} : Go 132 55 [l0, some (.int u), l2] st H Q ↔ Go 132 56 [l0, some (.int u), l2] (.int u :: st) H Q := G_iload_n fX9_at_55 rfl
theorem fX9_at_56 : ft 132 56 = some (.iload_n 2, 0, 0, 0, .null) := by decide +kernel
theorem gX9_at_56 {l0 l1 : Option Value} {u : Int32} {st : List Value} {H : HP} {Q : Option Value → HP → Prop} : Go 132 56 [l0, l1, some (.int u)] st H Q ↔ Go 132 57 [l0, l1, some (.int u)] (.int u :: st) H Q := G_iload_n fX9_at_56 rfl
theorem fX9_at_57 : ft 132 57 = some (.invokevirtual 117, 123, 0, 888, .null) := by decide +kernel
theorem gX9_at_57 {L : List (Option Value)} {p : Nat} {a0 : Int32} {a1 : Int32}  {H : HP} {Q : Option Value → HP → Prop} : Go 132 57 L (.int a1 :: .int a0 :: .ref p :: []) H Q ↔ (iso 9 (hget H p) = true ∧ Go 123 0 [some (.ref p), some (.int a0), some (.int a1)] [] H (Cont 132 60 L [] Q)) := G_cV (n := 2) (N := 3) (as := [.int a1, .int a0]) (st := []) fX9_at_57 (by decide +kernel) rfl (Nat.le_of_ble_eq_true rfl) (Nat.le_of_ble_eq_true rfl) rfl
theorem fX9_at_60 : ft 132 60 = some (.lreturn, 0, 0, 0, .null) := by decide +kernel
theorem gX9_at_60 {L : List (Option Value)} {u : Int64} {H : HP} {Q : Option Value → HP → Prop} : Go 132 60 L [.long u] H Q ↔ Q (some (.long u)) H := G_lret fX9_at_60 (by decide +kernel)

theorem fX4_init_0 : ft 41 0 = some (.aload_n 0, 0, 0, 0, .null) := by decide +kernel
theorem gX4_init_0 {l1 l2 l3 : Option Value} {u : Nat} {st : List Value} {H : HP} {Q : Option Value → HP → Prop} : Go 41 0 [some (.ref u), l1, l2, l3] st H Q ↔ Go 41 1 [some (.ref u), l1, l2, l3] (.ref u :: st) H Q := G_aload_n fX4_init_0 rfl
theorem fX4_init_1 : ft 41 1 = some (.invokespecial 3, 1000, 0, 134, .null) := by decide +kernel
theorem gX4_init_1 {L : List (Option Value)} {p : Nat}  {H : HP} {Q : Option Value → HP → Prop} : Go 41 1 L (.ref p :: []) H Q ↔ Go 41 4 L [] H Q := G_obj fX4_init_1 rfl ⟨by decide +kernel, Nat.le_trans (m := 20) (Nat.le_of_ble_eq_true rfl) (by decide +kernel)⟩
theorem fX4_init_4 : ft 41 4 = some (.aload_n 0, 0, 0, 0, .null) := by decide +kernel
theorem gX4_init_4 {l1 l2 l3 : Option Value} {u : Nat} {st : List Value} {H : HP} {Q : Option Value → HP → Prop} : Go 41 4 [some (.ref u), l1, l2, l3] st H Q ↔ Go 41 5 [some (.ref u), l1, l2, l3] (.ref u :: st) H Q := G_aload_n fX4_init_4 rfl
theorem fX4_init_5 : ft 41 5 = some (.bipush 127, 0, 0, 0, .null) := by decide +kernel
theorem gX4_init_5 {L : List (Option Value)} {st : List Value} {H : HP} {Q : Option Value → HP → Prop} : Go 41 5 L st H Q ↔ Go 41 7 L (vi 127 :: st) H Q := G_bipush fX4_init_5 (by decide)
theorem fX4_init_7 : ft 41 7 = some (.newarray .long, 0, 0, 0, .null) := by decide +kernel
theorem gX4_init_7 {L : List (Option Value)} {a : Int} (c : 0 ≤ a ∧ a ≤ 1000000) {st : List Value} {H : HP} {Q : Option Value → HP → Prop} : Go 41 7 L (vi a :: st) H Q ↔ Go 41 9 L (.ref H.1 :: st) (hnew H (cL a fun _ => 0) a.toNat) Q := G_newL fX4_init_7 c
theorem fX4_init_9 : ft 41 9 = some (.putfield 9, 4, 0, 190, .null) := by decide +kernel
theorem gX4_init_9 {L : List (Option Value)} {p : Nat} {u : Nat} (hp : p ≠ 0) {st : List Value} {H : HP} {Q : Option Value → HP → Prop} : Go 41 9 L (.ref u :: .ref p :: st) H Q ↔ Wr (pF' 4 0 (hget H p) (.ref u)) p 41 12 L st H Q := G_putf fX4_init_9 ⟨⟨rfl, rfl⟩, rfl, Or.inr (by decide +kernel)⟩ hp
theorem fX4_init_12 : ft 41 12 = some (.aload_n 0, 0, 0, 0, .null) := by decide +kernel
theorem gX4_init_12 {l1 l2 l3 : Option Value} {u : Nat} {st : List Value} {H : HP} {Q : Option Value → HP → Prop} : Go 41 12 [some (.ref u), l1, l2, l3] st H Q ↔ Go 41 13 [some (.ref u), l1, l2, l3] (.ref u :: st) H Q := G_aload_n fX4_init_12 rfl
theorem fX4_init_13 : ft 41 13 = some (.bipush 127, 0, 0, 0, .null) := by decide +kernel
theorem gX4_init_13 {L : List (Option Value)} {st : List Value} {H : HP} {Q : Option Value → HP → Prop} : Go 41 13 L st H Q ↔ Go 41 15 L (vi 127 :: st) H Q := G_bipush fX4_init_13 (by decide)
theorem fX4_init_15 : ft 41 15 = some (.newarray .long, 0, 0, 0, .null) := by decide +kernel
theorem gX4_init_15 {L : List (Option Value)} {a : Int} (c : 0 ≤ a ∧ a ≤ 1000000) {st : List Value} {H : HP} {Q : Option Value → HP → Prop} : Go 41 15 L (vi a :: st) H Q ↔ Go 41 17 L (.ref H.1 :: st) (hnew H (cL a fun _ => 0) a.toNat) Q := G_newL fX4_init_15 c
theorem fX4_init_17 : ft 41 17 = some (.putfield 15, 4, 1, 192, .null) := by decide +kernel
theorem gX4_init_17 {L : List (Option Value)} {p : Nat} {u : Nat} (hp : p ≠ 0) {st : List Value} {H : HP} {Q : Option Value → HP → Prop} : Go 41 17 L (.ref u :: .ref p :: st) H Q ↔ Wr (pF' 4 1 (hget H p) (.ref u)) p 41 20 L st H Q := G_putf fX4_init_17 ⟨⟨rfl, rfl⟩, rfl, Or.inr (by decide +kernel)⟩ hp
theorem fX4_init_20 : ft 41 20 = some (.aload_n 0, 0, 0, 0, .null) := by decide +kernel
theorem gX4_init_20 {l1 l2 l3 : Option Value} {u : Nat} {st : List Value} {H : HP} {Q : Option Value → HP → Prop} : Go 41 20 [some (.ref u), l1, l2, l3] st H Q ↔ Go 41 21 [some (.ref u), l1, l2, l3] (.ref u :: st) H Q := G_aload_n fX4_init_20 rfl
theorem fX4_init_21 : ft 41 21 = some (.iconst 0, 0, 0, 0, .null) := by decide +kernel
theorem gX4_init_21 {L : List (Option Value)} {st : List Value} {H : HP} {Q : Option Value → HP → Prop} : Go 41 21 L st H Q ↔ Go 41 22 L (vi 0 :: st) H Q := G_iconst fX4_init_21
theorem fX4_init_22 : ft 41 22 = some (.putfield 18, 4, 2, 194, .null) := by decide +kernel
theorem gX4_init_22 {L : List (Option Value)} {p : Nat} {u : Int32} (hp : p ≠ 0) {st : List Value} {H : HP} {Q : Option Value → HP → Prop} : Go 41 22 L (.int u :: .ref p :: st) H Q ↔ Wr (pF' 4 2 (hget H p) (.int u)) p 41 25 L st H Q := G_putf fX4_init_22 ⟨⟨rfl, rfl⟩, rfl, Or.inl rfl⟩ hp
theorem fX4_init_25 : ft 41 25 = some (.aload_n 0, 0, 0, 0, .null) := by decide +kernel
theorem gX4_init_25 {l1 l2 l3 : Option Value} {u : Nat} {st : List Value} {H : HP} {Q : Option Value → HP → Prop} : Go 41 25 [some (.ref u), l1, l2, l3] st H Q ↔ Go 41 26 [some (.ref u), l1, l2, l3] (.ref u :: st) H Q := G_aload_n fX4_init_25 rfl
theorem fX4_init_26 : ft 41 26 = some (.new 22, 7, 0, 135, .null) := by decide +kernel
theorem gX4_init_26 {L : List (Option Value)} {st : List Value} {H : HP} {Q : Option Value → HP → Prop} : Go 41 26 L st H Q ↔ Go 41 29 L (.ref H.1 :: st) (hnew H (cO 7 [.long 0, .long 0]) 2) Q := G_new fX4_init_26 (by decide +kernel)
theorem fX4_init_29 : ft 41 29 = some (.dup, 0, 0, 0, .null) := by decide +kernel
theorem gX4_init_29 {L : List (Option Value)} {u : Nat} {st : List Value} {H : HP} {Q : Option Value → HP → Prop} : Go 41 29 L (.ref u :: st) H Q ↔ Go 41 30 L (.ref u :: .ref u :: st) H Q := G_dup fX4_init_29 rfl
theorem fX4_init_30 : ft 41 30 = some (.invokespecial 24, 63, 1, 137, .null) := by decide +kernel
theorem gX4_init_30 {L : List (Option Value)} {p : Nat}  {r0 : Nat} {r1 : Nat} {H : HP} {Q : Option Value → HP → Prop} : Go 41 30 L (.ref p :: [.ref r0, .ref r1]) H Q ↔ Go 63 0 [some (.ref p)] [] H (Cont 41 33 L [.ref r0, .ref r1] Q) := G_cI (n := 0) (N := 1) (as := []) (st := [.ref r0, .ref r1]) fX4_init_30 (by decide +kernel) rfl (Nat.le_of_ble_eq_true rfl) (Nat.le_of_ble_eq_true rfl) rfl
theorem fX4_init_33 : ft 41 33 = some (.putfield 25, 4, 3, 196, .null) := by decide +kernel
theorem gX4_init_33 {L : List (Option Value)} {p : Nat} {u : Nat} (hp : p ≠ 0) {st : List Value} {H : HP} {Q : Option Value → HP → Prop} : Go 41 33 L (.ref u :: .ref p :: st) H Q ↔ Wr (pF' 4 3 (hget H p) (.ref u)) p 41 36 L st H Q := G_putf fX4_init_33 ⟨⟨rfl, rfl⟩, rfl, Or.inr (by decide +kernel)⟩ hp
theorem fX4_init_36 : ft 41 36 = some (.aload_n 0, 0, 0, 0, .null) := by decide +kernel
theorem gX4_init_36 {l1 l2 l3 : Option Value} {u : Nat} {st : List Value} {H : HP} {Q : Option Value → HP → Prop} : Go 41 36 [some (.ref u), l1, l2, l3] st H Q ↔ Go 41 37 [some (.ref u), l1, l2, l3] (.ref u :: st) H Q := G_aload_n fX4_init_36 rfl
theorem fX4_init_37 : ft 41 37 = some (.new 29, 1, 0, 150, .null) := by decide +kernel
theorem gX4_init_37 {L : List (Option Value)} {st : List Value} {H : HP} {Q : Option Value → HP → Prop} : Go 41 37 L st H Q ↔ Go 41 40 L (.ref H.1 :: st) (hnew H (cO 1 [.null, .null, .null]) 3) Q := G_new fX4_init_37 (by decide +kernel)
theorem fX4_init_40 : ft 41 40 = some (.dup, 0, 0, 0, .null) := by decide +kernel
theorem gX4_init_40 {L : List (Option Value)} {u : Nat} {st : List Value} {H : HP} {Q : Option Value → HP → Prop} : Go 41 40 L (.ref u :: st) H Q ↔ Go 41 41 L (.ref u :: .ref u :: st) H Q := G_dup fX4_init_40 rfl
theorem fX4_init_41 : ft 41 41 = some (.aload_n 1, 0, 0, 0, .null) := by decide +kernel
theorem gX4_init_41 {l0 l2 l3 : Option Value} {u : Nat} {st : List Value} {H : HP} {Q : Option Value → HP → Prop} : Go 41 41 [l0, some (.ref u), l2, l3] st H Q ↔ Go 41 42 [l0, some (.ref u), l2, l3] (.ref u :: st) H Q := G_aload_n fX4_init_41 rfl
theorem fX4_init_42 : ft 41 42 = some (.invokespecial 31, 12, 0, 152, .null) := by decide +kernel
theorem gX4_init_42 {L : List (Option Value)} {p : Nat} {a0 : Nat} {r0 : Nat} {r1 : Nat} {H : HP} {Q : Option Value → HP → Prop} : Go 41 42 L (.ref a0 :: .ref p :: [.ref r0, .ref r1]) H Q ↔ Go 12 0 [some (.ref p), some (.ref a0)] [] H (Cont 41 45 L [.ref r0, .ref r1] Q) := G_cI (n := 1) (N := 2) (as := [.ref a0]) (st := [.ref r0, .ref r1]) fX4_init_42 (by decide +kernel) rfl (Nat.le_of_ble_eq_true rfl) (Nat.le_of_ble_eq_true rfl) rfl
theorem fX4_init_45 : ft 41 45 = some (.putfield 34, 4, 4, 197, .null) := by decide +kernel
theorem gX4_init_45 {L : List (Option Value)} {p : Nat} {u : Nat} (hp : p ≠ 0) {st : List Value} {H : HP} {Q : Option Value → HP → Prop} : Go 41 45 L (.ref u :: .ref p :: st) H Q ↔ Wr (pF' 4 4 (hget H p) (.ref u)) p 41 48 L st H Q := G_putf fX4_init_45 ⟨⟨rfl, rfl⟩, rfl, Or.inr (by decide +kernel)⟩ hp
theorem fX4_init_48 : ft 41 48 = some (.aload_n 0, 0, 0, 0, .null) := by decide +kernel
theorem gX4_init_48 {l1 l2 l3 : Option Value} {u : Nat} {st : List Value} {H : HP} {Q : Option Value → HP → Prop} : Go 41 48 [some (.ref u), l1, l2, l3] st H Q ↔ Go 41 49 [some (.ref u), l1, l2, l3] (.ref u :: st) H Q := G_aload_n fX4_init_48 rfl
theorem fX4_init_49 : ft 41 49 = some (.new 29, 1, 0, 150, .null) := by decide +kernel
theorem gX4_init_49 {L : List (Option Value)} {st : List Value} {H : HP} {Q : Option Value → HP → Prop} : Go 41 49 L st H Q ↔ Go 41 52 L (.ref H.1 :: st) (hnew H (cO 1 [.null, .null, .null]) 3) Q := G_new fX4_init_49 (by decide +kernel)
theorem fX4_init_52 : ft 41 52 = some (.dup, 0, 0, 0, .null) := by decide +kernel
theorem gX4_init_52 {L : List (Option Value)} {u : Nat} {st : List Value} {H : HP} {Q : Option Value → HP → Prop} : Go 41 52 L (.ref u :: st) H Q ↔ Go 41 53 L (.ref u :: .ref u :: st) H Q := G_dup fX4_init_52 rfl
theorem fX4_init_53 : ft 41 53 = some (.aload_n 2, 0, 0, 0, .null) := by decide +kernel
theorem gX4_init_53 {l0 l1 l3 : Option Value} {u : Nat} {st : List Value} {H : HP} {Q : Option Value → HP → Prop} : Go 41 53 [l0, l1, some (.ref u), l3] st H Q ↔ Go 41 54 [l0, l1, some (.ref u), l3] (.ref u :: st) H Q := G_aload_n fX4_init_53 rfl
theorem fX4_init_54 : ft 41 54 = some (.invokespecial 31, 12, 0, 152, .null) := by decide +kernel
theorem gX4_init_54 {L : List (Option Value)} {p : Nat} {a0 : Nat} {r0 : Nat} {r1 : Nat} {H : HP} {Q : Option Value → HP → Prop} : Go 41 54 L (.ref a0 :: .ref p :: [.ref r0, .ref r1]) H Q ↔ Go 12 0 [some (.ref p), some (.ref a0)] [] H (Cont 41 57 L [.ref r0, .ref r1] Q) := G_cI (n := 1) (N := 2) (as := [.ref a0]) (st := [.ref r0, .ref r1]) fX4_init_54 (by decide +kernel) rfl (Nat.le_of_ble_eq_true rfl) (Nat.le_of_ble_eq_true rfl) rfl
theorem fX4_init_57 : ft 41 57 = some (.putfield 38, 4, 5, 198, .null) := by decide +kernel
theorem gX4_init_57 {L : List (Option Value)} {p : Nat} {u : Nat} (hp : p ≠ 0) {st : List Value} {H : HP} {Q : Option Value → HP → Prop} : Go 41 57 L (.ref u :: .ref p :: st) H Q ↔ Wr (pF' 4 5 (hget H p) (.ref u)) p 41 60 L st H Q := G_putf fX4_init_57 ⟨⟨rfl, rfl⟩, rfl, Or.inr (by decide +kernel)⟩ hp
theorem fX4_init_60 : ft 41 60 = some (.aload_n 0, 0, 0, 0, .null) := by decide +kernel
theorem gX4_init_60 {l1 l2 l3 : Option Value} {u : Nat} {st : List Value} {H : HP} {Q : Option Value → HP → Prop} : Go 41 60 [some (.ref u), l1, l2, l3] st H Q ↔ Go 41 61 [some (.ref u), l1, l2, l3] (.ref u :: st) H Q := G_aload_n fX4_init_60 rfl
theorem fX4_init_61 : ft 41 61 = some (.new 29, 1, 0, 150, .null) := by decide +kernel
theorem gX4_init_61 {L : List (Option Value)} {st : List Value} {H : HP} {Q : Option Value → HP → Prop} : Go 41 61 L st H Q ↔ Go 41 64 L (.ref H.1 :: st) (hnew H (cO 1 [.null, .null, .null]) 3) Q := G_new fX4_init_61 (by decide +kernel)
theorem fX4_init_64 : ft 41 64 = some (.dup, 0, 0, 0, .null) := by decide +kernel
theorem gX4_init_64 {L : List (Option Value)} {u : Nat} {st : List Value} {H : HP} {Q : Option Value → HP → Prop} : Go 41 64 L (.ref u :: st) H Q ↔ Go 41 65 L (.ref u :: .ref u :: st) H Q := G_dup fX4_init_64 rfl
theorem fX4_init_65 : ft 41 65 = some (.aload_n 3, 0, 0, 0, .null) := by decide +kernel
theorem gX4_init_65 {l0 l1 l2 : Option Value} {u : Nat} {st : List Value} {H : HP} {Q : Option Value → HP → Prop} : Go 41 65 [l0, l1, l2, some (.ref u)] st H Q ↔ Go 41 66 [l0, l1, l2, some (.ref u)] (.ref u :: st) H Q := G_aload_n fX4_init_65 rfl
theorem fX4_init_66 : ft 41 66 = some (.invokespecial 31, 12, 0, 152, .null) := by decide +kernel
theorem gX4_init_66 {L : List (Option Value)} {p : Nat} {a0 : Nat} {r0 : Nat} {r1 : Nat} {H : HP} {Q : Option Value → HP → Prop} : Go 41 66 L (.ref a0 :: .ref p :: [.ref r0, .ref r1]) H Q ↔ Go 12 0 [some (.ref p), some (.ref a0)] [] H (Cont 41 69 L [.ref r0, .ref r1] Q) := G_cI (n := 1) (N := 2) (as := [.ref a0]) (st := [.ref r0, .ref r1]) fX4_init_66 (by decide +kernel) rfl (Nat.le_of_ble_eq_true rfl) (Nat.le_of_ble_eq_true rfl) rfl
theorem fX4_init_69 : ft 41 69 = some (.putfield 41, 4, 6, 199, .null) := by decide +kernel
theorem gX4_init_69 {L : List (Option Value)} {p : Nat} {u : Nat} (hp : p ≠ 0) {st : List Value} {H : HP} {Q : Option Value → HP → Prop} : Go 41 69 L (.ref u :: .ref p :: st) H Q ↔ Wr (pF' 4 6 (hget H p) (.ref u)) p 41 72 L st H Q := G_putf fX4_init_69 ⟨⟨rfl, rfl⟩, rfl, Or.inr (by decide +kernel)⟩ hp
theorem fX4_init_72 : ft 41 72 = some (.aload_n 0, 0, 0, 0, .null) := by decide +kernel
theorem gX4_init_72 {l1 l2 l3 : Option Value} {u : Nat} {st : List Value} {H : HP} {Q : Option Value → HP → Prop} : Go 41 72 [some (.ref u), l1, l2, l3] st H Q ↔ Go 41 73 [some (.ref u), l1, l2, l3] (.ref u :: st) H Q := G_aload_n fX4_init_72 rfl
theorem fX4_init_73 : ft 41 73 = some (.aload_n 2, 0, 0, 0, .null) := by decide +kernel
theorem gX4_init_73 {l0 l1 l3 : Option Value} {u : Nat} {st : List Value} {H : HP} {Q : Option Value → HP → Prop} : Go 41 73 [l0, l1, some (.ref u), l3] st H Q ↔ Go 41 74 [l0, l1, some (.ref u), l3] (.ref u :: st) H Q := G_aload_n fX4_init_73 rfl
theorem fX4_init_74 : ft 41 74 = some (.aload_n 2, 0, 0, 0, .null) := by decide +kernel
theorem gX4_init_74 {l0 l1 l3 : Option Value} {u : Nat} {st : List Value} {H : HP} {Q : Option Value → HP → Prop} : Go 41 74 [l0, l1, some (.ref u), l3] st H Q ↔ Go 41 75 [l0, l1, some (.ref u), l3] (.ref u :: st) H Q := G_aload_n fX4_init_74 rfl
theorem fX4_init_75 : ft 41 75 = some (.ldc2_w 44, 0, 0, 168, .long (998244353)) := by decide +kernel
theorem gX4_init_75 {L : List (Option Value)} {st : List Value} {H : HP} {Q : Option Value → HP → Prop} : Go 41 75 L st H Q ↔ Go 41 78 L (vl (998244353) :: st) H Q := G_ldcl fX4_init_75 (by decide +kernel)
theorem fX4_init_78 : ft 41 78 = some (.invokevirtual 46, 29, 0, 169, .null) := by decide +kernel
theorem gX4_init_78 {L : List (Option Value)} {p : Nat} {a0 : Int64} {r0 : Nat} {r1 : Nat} {H : HP} {Q : Option Value → HP → Prop} : Go 41 78 L (.long a0 :: .ref p :: [.ref r0, .ref r1]) H Q ↔ (iso 3 (hget H p) = true ∧ Go 29 0 [some (.ref p), some (.long a0), none] [] H (Cont 41 81 L [.ref r0, .ref r1] Q)) := G_cV (n := 1) (N := 3) (as := [.long a0]) (st := [.ref r0, .ref r1]) fX4_init_78 (by decide +kernel) rfl (Nat.le_of_ble_eq_true rfl) (Nat.le_of_ble_eq_true rfl) rfl
theorem fX4_init_81 : ft 41 81 = some (.invokevirtual 52, 34, 0, 176, .null) := by decide +kernel
theorem gX4_init_81 {L : List (Option Value)} {p : Nat} {a0 : Int64} {r0 : Nat} {H : HP} {Q : Option Value → HP → Prop} : Go 41 81 L (.long a0 :: .ref p :: [.ref r0]) H Q ↔ (iso 3 (hget H p) = true ∧ Go 34 0 [some (.ref p), some (.long a0), none] [] H (Cont 41 84 L [.ref r0] Q)) := G_cV (n := 1) (N := 3) (as := [.long a0]) (st := [.ref r0]) fX4_init_81 (by decide +kernel) rfl (Nat.le_of_ble_eq_true rfl) (Nat.le_of_ble_eq_true rfl) rfl
theorem fX4_init_84 : ft 41 84 = some (.putfield 55, 4, 7, 200, .null) := by decide +kernel
theorem gX4_init_84 {L : List (Option Value)} {p : Nat} {u : Int64} (hp : p ≠ 0) {st : List Value} {H : HP} {Q : Option Value → HP → Prop} : Go 41 84 L (.long u :: .ref p :: st) H Q ↔ Wr (pF' 4 7 (hget H p) (.long u)) p 41 87 L st H Q := G_putf fX4_init_84 ⟨⟨rfl, rfl⟩, rfl, Or.inr (by decide +kernel)⟩ hp
theorem fX4_init_87 : ft 41 87 = some (.aload_n 0, 0, 0, 0, .null) := by decide +kernel
theorem gX4_init_87 {l1 l2 l3 : Option Value} {u : Nat} {st : List Value} {H : HP} {Q : Option Value → HP → Prop} : Go 41 87 [some (.ref u), l1, l2, l3] st H Q ↔ Go 41 88 [some (.ref u), l1, l2, l3] (.ref u :: st) H Q := G_aload_n fX4_init_87 rfl
theorem fX4_init_88 : ft 41 88 = some (.aload_n 3, 0, 0, 0, .null) := by decide +kernel
theorem gX4_init_88 {l0 l1 l2 : Option Value} {u : Nat} {st : List Value} {H : HP} {Q : Option Value → HP → Prop} : Go 41 88 [l0, l1, l2, some (.ref u)] st H Q ↔ Go 41 89 [l0, l1, l2, some (.ref u)] (.ref u :: st) H Q := G_aload_n fX4_init_88 rfl
theorem fX4_init_89 : ft 41 89 = some (.aload_n 3, 0, 0, 0, .null) := by decide +kernel
theorem gX4_init_89 {l0 l1 l2 : Option Value} {u : Nat} {st : List Value} {H : HP} {Q : Option Value → HP → Prop} : Go 41 89 [l0, l1, l2, some (.ref u)] st H Q ↔ Go 41 90 [l0, l1, l2, some (.ref u)] (.ref u :: st) H Q := G_aload_n fX4_init_89 rfl
theorem fX4_init_90 : ft 41 90 = some (.ldc2_w 59, 0, 0, 189, .long (1002772198720536577)) := by decide +kernel
theorem gX4_init_90 {L : List (Option Value)} {st : List Value} {H : HP} {Q : Option Value → HP → Prop} : Go 41 90 L st H Q ↔ Go 41 93 L (vl (1002772198720536577) :: st) H Q := G_ldcl fX4_init_90 (by decide +kernel)
theorem fX4_init_93 : ft 41 93 = some (.invokevirtual 46, 29, 0, 169, .null) := by decide +kernel
theorem gX4_init_93 {L : List (Option Value)} {p : Nat} {a0 : Int64} {r0 : Nat} {r1 : Nat} {H : HP} {Q : Option Value → HP → Prop} : Go 41 93 L (.long a0 :: .ref p :: [.ref r0, .ref r1]) H Q ↔ (iso 3 (hget H p) = true ∧ Go 29 0 [some (.ref p), some (.long a0), none] [] H (Cont 41 96 L [.ref r0, .ref r1] Q)) := G_cV (n := 1) (N := 3) (as := [.long a0]) (st := [.ref r0, .ref r1]) fX4_init_93 (by decide +kernel) rfl (Nat.le_of_ble_eq_true rfl) (Nat.le_of_ble_eq_true rfl) rfl
theorem fX4_init_96 : ft 41 96 = some (.invokevirtual 52, 34, 0, 176, .null) := by decide +kernel
theorem gX4_init_96 {L : List (Option Value)} {p : Nat} {a0 : Int64} {r0 : Nat} {H : HP} {Q : Option Value → HP → Prop} : Go 41 96 L (.long a0 :: .ref p :: [.ref r0]) H Q ↔ (iso 3 (hget H p) = true ∧ Go 34 0 [some (.ref p), some (.long a0), none] [] H (Cont 41 99 L [.ref r0] Q)) := G_cV (n := 1) (N := 3) (as := [.long a0]) (st := [.ref r0]) fX4_init_96 (by decide +kernel) rfl (Nat.le_of_ble_eq_true rfl) (Nat.le_of_ble_eq_true rfl) rfl
theorem fX4_init_99 : ft 41 99 = some (.putfield 61, 4, 8, 201, .null) := by decide +kernel
theorem gX4_init_99 {L : List (Option Value)} {p : Nat} {u : Int64} (hp : p ≠ 0) {st : List Value} {H : HP} {Q : Option Value → HP → Prop} : Go 41 99 L (.long u :: .ref p :: st) H Q ↔ Wr (pF' 4 8 (hget H p) (.long u)) p 41 102 L st H Q := G_putf fX4_init_99 ⟨⟨rfl, rfl⟩, rfl, Or.inr (by decide +kernel)⟩ hp
theorem fX4_init_102 : ft 41 102 = some (.return_, 0, 0, 0, .null) := by decide +kernel
theorem gX4_init_102 {L : List (Option Value)} {H : HP} {Q : Option Value → HP → Prop} : Go 41 102 L [] H Q ↔ Q none H := G_vret fX4_init_102 (by decide +kernel)
theorem fX4_has_0 : ft 42 0 = some (.iload_n 1, 0, 0, 0, .null) := by decide +kernel
theorem gX4_has_0 {l0 : Option Value} {u : Int32} {st : List Value} {H : HP} {Q : Option Value → HP → Prop} : Go 42 0 [l0, some (.int u)] st H Q ↔ Go 42 1 [l0, some (.int u)] (.int u :: st) H Q := G_iload_n fX4_has_0 rfl
theorem fX4_has_1 : ft 42 1 = some (.ifCond .lt 15, 0, 0, 0, .null) := by decide +kernel
theorem gX4_has_1T {L : List (Option Value)} {a : Int} (c : (-2147483648 ≤ a ∧ a ≤ 2147483647) ∧ a < 0) {st : List Value} {H : HP} {Q : Option Value → HP → Prop} : Go 42 1 L (vi a :: st) H Q ↔ Go 42 16 L st H Q := G_ifT fX4_has_1 (by decide) c
theorem gX4_has_1F {L : List (Option Value)} {a : Int} (c : (-2147483648 ≤ a ∧ a ≤ 2147483647) ∧ ¬ (a < 0)) {st : List Value} {H : HP} {Q : Option Value → HP → Prop} : Go 42 1 L (vi a :: st) H Q ↔ Go 42 4 L st H Q := G_ifF (tg := 16) fX4_has_1 (by decide) c
theorem fX4_has_4 : ft 42 4 = some (.iload_n 1, 0, 0, 0, .null) := by decide +kernel
theorem gX4_has_4 {l0 : Option Value} {u : Int32} {st : List Value} {H : HP} {Q : Option Value → HP → Prop} : Go 42 4 [l0, some (.int u)] st H Q ↔ Go 42 5 [l0, some (.int u)] (.int u :: st) H Q := G_iload_n fX4_has_4 rfl
theorem fX4_has_5 : ft 42 5 = some (.aload_n 0, 0, 0, 0, .null) := by decide +kernel
theorem gX4_has_5 {l1 : Option Value} {u : Nat} {st : List Value} {H : HP} {Q : Option Value → HP → Prop} : Go 42 5 [some (.ref u), l1] st H Q ↔ Go 42 6 [some (.ref u), l1] (.ref u :: st) H Q := G_aload_n fX4_has_5 rfl
theorem fX4_has_6 : ft 42 6 = some (.getfield 18, 4, 2, 194, .null) := by decide +kernel
theorem gX4_has_6 {L : List (Option Value)} {p : Nat} {st : List Value} {H : HP} {Q : Option Value → HP → Prop} : Go 42 6 L (.ref p :: st) H Q ↔ Rd (gF' 4 2 (hget H p)) 42 9 L st H Q := G_getf fX4_has_6 ⟨rfl, rfl⟩
theorem fX4_has_9 : ft 42 9 = some (.if_icmp .ge 7, 0, 0, 0, .null) := by decide +kernel
theorem gX4_has_9T {L : List (Option Value)} {a b : Int} (c : (-2147483648 ≤ a ∧ a ≤ 2147483647 ∧ -2147483648 ≤ b ∧ b ≤ 2147483647) ∧ b ≤ a) {st : List Value} {H : HP} {Q : Option Value → HP → Prop} : Go 42 9 L (vi b :: vi a :: st) H Q ↔ Go 42 16 L st H Q := G_icT fX4_has_9 (by decide) c
theorem gX4_has_9F {L : List (Option Value)} {a b : Int} (c : (-2147483648 ≤ a ∧ a ≤ 2147483647 ∧ -2147483648 ≤ b ∧ b ≤ 2147483647) ∧ ¬ (b ≤ a)) {st : List Value} {H : HP} {Q : Option Value → HP → Prop} : Go 42 9 L (vi b :: vi a :: st) H Q ↔ Go 42 12 L st H Q := G_icF (tg := 16) fX4_has_9 (by decide) c
theorem fX4_has_12 : ft 42 12 = some (.iconst 1, 0, 0, 0, .null) := by decide +kernel
theorem gX4_has_12 {L : List (Option Value)} {st : List Value} {H : HP} {Q : Option Value → HP → Prop} : Go 42 12 L st H Q ↔ Go 42 13 L (vi 1 :: st) H Q := G_iconst fX4_has_12
theorem fX4_has_13 : ft 42 13 = some (.goto 4, 0, 0, 0, .null) := by decide +kernel
theorem gX4_has_13 {L : List (Option Value)} {st : List Value} {H : HP} {Q : Option Value → HP → Prop} : Go 42 13 L st H Q ↔ Go 42 17 L st H Q := G_goto fX4_has_13 (by decide)
theorem fX4_has_16 : ft 42 16 = some (.iconst 0, 0, 0, 0, .null) := by decide +kernel
theorem gX4_has_16 {L : List (Option Value)} {st : List Value} {H : HP} {Q : Option Value → HP → Prop} : Go 42 16 L st H Q ↔ Go 42 17 L (vi 0 :: st) H Q := G_iconst fX4_has_16
theorem fX4_has_17 : ft 42 17 = some (.ireturn, 0, 0, 0, .null) := by decide +kernel
theorem gX4_has_17 {L : List (Option Value)} {a : Int} (c : a = 0 ∨ a = 1) {H : HP} {Q : Option Value → HP → Prop} : Go 42 17 L [vi a] H Q ↔ Q (some (vi a)) H := G_zret fX4_has_17 (by decide +kernel) c
theorem fX4_anyBelowZero_0 : ft 43 0 = some (.iconst 0, 0, 0, 0, .null) := by decide +kernel
theorem gX4_anyBelowZero_0 {L : List (Option Value)} {st : List Value} {H : HP} {Q : Option Value → HP → Prop} : Go 43 0 L st H Q ↔ Go 43 1 L (vi 0 :: st) H Q := G_iconst fX4_anyBelowZero_0
theorem fX4_anyBelowZero_1 : ft 43 1 = some (.istore_n 1, 0, 0, 0, .null) := by decide +kernel
theorem gX4_anyBelowZero_1 {l0 l1 : Option Value} {u : Int32} {st : List Value} {H : HP} {Q : Option Value → HP → Prop} : Go 43 1 [l0, l1] (.int u :: st) H Q ↔ Go 43 2 [l0, some (.int u)] st H Q := G_istore_n fX4_anyBelowZero_1 rfl
theorem fX4_anyBelowZero_2 : ft 43 2 = some (.iload_n 1, 0, 0, 0, .null) := by decide +kernel
theorem gX4_anyBelowZero_2 {l0 : Option Value} {u : Int32} {st : List Value} {H : HP} {Q : Option Value → HP → Prop} : Go 43 2 [l0, some (.int u)] st H Q ↔ Go 43 3 [l0, some (.int u)] (.int u :: st) H Q := G_iload_n fX4_anyBelowZero_2 rfl
theorem fX4_anyBelowZero_3 : ft 43 3 = some (.aload_n 0, 0, 0, 0, .null) := by decide +kernel
theorem gX4_anyBelowZero_3 {l1 : Option Value} {u : Nat} {st : List Value} {H : HP} {Q : Option Value → HP → Prop} : Go 43 3 [some (.ref u), l1] st H Q ↔ Go 43 4 [some (.ref u), l1] (.ref u :: st) H Q := G_aload_n fX4_anyBelowZero_3 rfl
theorem fX4_anyBelowZero_4 : ft 43 4 = some (.getfield 18, 4, 2, 194, .null) := by decide +kernel
theorem gX4_anyBelowZero_4 {L : List (Option Value)} {p : Nat} {st : List Value} {H : HP} {Q : Option Value → HP → Prop} : Go 43 4 L (.ref p :: st) H Q ↔ Rd (gF' 4 2 (hget H p)) 43 7 L st H Q := G_getf fX4_anyBelowZero_4 ⟨rfl, rfl⟩
theorem fX4_anyBelowZero_7 : ft 43 7 = some (.if_icmp .ge 22, 0, 0, 0, .null) := by decide +kernel
theorem gX4_anyBelowZero_7T {L : List (Option Value)} {a b : Int} (c : (-2147483648 ≤ a ∧ a ≤ 2147483647 ∧ -2147483648 ≤ b ∧ b ≤ 2147483647) ∧ b ≤ a) {st : List Value} {H : HP} {Q : Option Value → HP → Prop} : Go 43 7 L (vi b :: vi a :: st) H Q ↔ Go 43 29 L st H Q := G_icT fX4_anyBelowZero_7 (by decide) c
theorem gX4_anyBelowZero_7F {L : List (Option Value)} {a b : Int} (c : (-2147483648 ≤ a ∧ a ≤ 2147483647 ∧ -2147483648 ≤ b ∧ b ≤ 2147483647) ∧ ¬ (b ≤ a)) {st : List Value} {H : HP} {Q : Option Value → HP → Prop} : Go 43 7 L (vi b :: vi a :: st) H Q ↔ Go 43 10 L st H Q := G_icF (tg := 29) fX4_anyBelowZero_7 (by decide) c
theorem fX4_anyBelowZero_10 : ft 43 10 = some (.aload_n 0, 0, 0, 0, .null) := by decide +kernel
theorem gX4_anyBelowZero_10 {l1 : Option Value} {u : Nat} {st : List Value} {H : HP} {Q : Option Value → HP → Prop} : Go 43 10 [some (.ref u), l1] st H Q ↔ Go 43 11 [some (.ref u), l1] (.ref u :: st) H Q := G_aload_n fX4_anyBelowZero_10 rfl
theorem fX4_anyBelowZero_11 : ft 43 11 = some (.getfield 9, 4, 0, 190, .null) := by decide +kernel
theorem gX4_anyBelowZero_11 {L : List (Option Value)} {p : Nat} {st : List Value} {H : HP} {Q : Option Value → HP → Prop} : Go 43 11 L (.ref p :: st) H Q ↔ Rd (gF' 4 0 (hget H p)) 43 14 L st H Q := G_getf fX4_anyBelowZero_11 ⟨rfl, rfl⟩
theorem fX4_anyBelowZero_14 : ft 43 14 = some (.iload_n 1, 0, 0, 0, .null) := by decide +kernel
theorem gX4_anyBelowZero_14 {l0 : Option Value} {u : Int32} {st : List Value} {H : HP} {Q : Option Value → HP → Prop} : Go 43 14 [l0, some (.int u)] st H Q ↔ Go 43 15 [l0, some (.int u)] (.int u :: st) H Q := G_iload_n fX4_anyBelowZero_14 rfl
theorem fX4_anyBelowZero_15 : ft 43 15 = some (.laload, 0, 0, 0, .null) := by decide +kernel
theorem gX4_anyBelowZero_15 {L : List (Option Value)} {p : Nat} {a : Int} {st : List Value} {H : HP} {Q : Option Value → HP → Prop} : Go 43 15 L (vi a :: .ref p :: st) H Q ↔ Rd (aL' (hget H p) a) 43 16 L st H Q := G_lald fX4_anyBelowZero_15
theorem fX4_anyBelowZero_16 : ft 43 16 = some (.lconst 0, 0, 0, 0, .null) := by decide +kernel
theorem gX4_anyBelowZero_16 {L : List (Option Value)} {st : List Value} {H : HP} {Q : Option Value → HP → Prop} : Go 43 16 L st H Q ↔ Go 43 17 L (vl 0 :: st) H Q := G_lconst fX4_anyBelowZero_16 (by decide)
theorem fX4_anyBelowZero_17 : ft 43 17 = some (.lcmp, 0, 0, 0, .null) := by decide +kernel
theorem fX4_anyBelowZero_17' : ft 43 18 = some (.ifCond .ge 5, 0, 0, 0, .null) := by decide +kernel
theorem gX4_anyBelowZero_17T {L : List (Option Value)} {a b : Int} (c : (-9223372036854775808 ≤ a ∧ a ≤ 9223372036854775807 ∧ -9223372036854775808 ≤ b ∧ b ≤ 9223372036854775807) ∧ b ≤ a) {st : List Value} {H : HP} {Q : Option Value → HP → Prop} : Go 43 17 L (vl b :: vl a :: st) H Q ↔ Go 43 23 L st H Q := G_lcT fX4_anyBelowZero_17 fX4_anyBelowZero_17' (by decide) c
theorem gX4_anyBelowZero_17F {L : List (Option Value)} {a b : Int} (c : (-9223372036854775808 ≤ a ∧ a ≤ 9223372036854775807 ∧ -9223372036854775808 ≤ b ∧ b ≤ 9223372036854775807) ∧ ¬ (b ≤ a)) {st : List Value} {H : HP} {Q : Option Value → HP → Prop} : Go 43 17 L (vl b :: vl a :: st) H Q ↔ Go 43 21 L st H Q := G_lcF (tg := 23) fX4_anyBelowZero_17 fX4_anyBelowZero_17' (by decide) c
theorem fX4_anyBelowZero_18 : ft 43 18 = some (.ifCond .ge 5, 0, 0, 0, .null) := by decide +kernel
theorem gX4_anyBelowZero_18T {L : List (Option Value)} {a : Int} (c : (-2147483648 ≤ a ∧ a ≤ 2147483647) ∧ 0 ≤ a) {st : List Value} {H : HP} {Q : Option Value → HP → Prop} : Go 43 18 L (vi a :: st) H Q ↔ Go 43 23 L st H Q := G_ifT fX4_anyBelowZero_18 (by decide) c
theorem gX4_anyBelowZero_18F {L : List (Option Value)} {a : Int} (c : (-2147483648 ≤ a ∧ a ≤ 2147483647) ∧ ¬ (0 ≤ a)) {st : List Value} {H : HP} {Q : Option Value → HP → Prop} : Go 43 18 L (vi a :: st) H Q ↔ Go 43 21 L st H Q := G_ifF (tg := 23) fX4_anyBelowZero_18 (by decide) c
theorem fX4_anyBelowZero_21 : ft 43 21 = some (.iconst 1, 0, 0, 0, .null) := by decide +kernel
theorem gX4_anyBelowZero_21 {L : List (Option Value)} {st : List Value} {H : HP} {Q : Option Value → HP → Prop} : Go 43 21 L st H Q ↔ Go 43 22 L (vi 1 :: st) H Q := G_iconst fX4_anyBelowZero_21
theorem fX4_anyBelowZero_22 : ft 43 22 = some (.ireturn, 0, 0, 0, .null) := by decide +kernel
theorem gX4_anyBelowZero_22 {L : List (Option Value)} {a : Int} (c : a = 0 ∨ a = 1) {H : HP} {Q : Option Value → HP → Prop} : Go 43 22 L [vi a] H Q ↔ Q (some (vi a)) H := G_zret fX4_anyBelowZero_22 (by decide +kernel) c
theorem fX4_anyBelowZero_23 : ft 43 23 = some (.iinc 1 1, 0, 0, 0, .null) := by decide +kernel
theorem gX4_anyBelowZero_23 {l0 : Option Value} {a : Int} {st : List Value} {H : HP} {Q : Option Value → HP → Prop} : Go 43 23 [l0, some (vi a)] st H Q ↔ Go 43 26 [l0, some (vi (a + 1))] st H Q := G_iinc fX4_anyBelowZero_23 rfl rfl
theorem fX4_anyBelowZero_26 : ft 43 26 = some (.goto (-24), 0, 0, 0, .null) := by decide +kernel
theorem gX4_anyBelowZero_26 {L : List (Option Value)} {st : List Value} {H : HP} {Q : Option Value → HP → Prop} : Go 43 26 L st H Q ↔ Go 43 2 L st H Q := G_goto fX4_anyBelowZero_26 (by decide)
theorem fX4_anyBelowZero_29 : ft 43 29 = some (.iconst 0, 0, 0, 0, .null) := by decide +kernel
theorem gX4_anyBelowZero_29 {L : List (Option Value)} {st : List Value} {H : HP} {Q : Option Value → HP → Prop} : Go 43 29 L st H Q ↔ Go 43 30 L (vi 0 :: st) H Q := G_iconst fX4_anyBelowZero_29
theorem fX4_anyBelowZero_30 : ft 43 30 = some (.ireturn, 0, 0, 0, .null) := by decide +kernel
theorem gX4_anyBelowZero_30 {L : List (Option Value)} {a : Int} (c : a = 0 ∨ a = 1) {H : HP} {Q : Option Value → HP → Prop} : Go 43 30 L [vi a] H Q ↔ Q (some (vi a)) H := G_zret fX4_anyBelowZero_30 (by decide +kernel) c
theorem fX4_keepSum_0 : ft 44 0 = some (.aload_n 0, 0, 0, 0, .null) := by decide +kernel
theorem gX4_keepSum_0 {l1 : Option Value} {u : Nat} {st : List Value} {H : HP} {Q : Option Value → HP → Prop} : Go 44 0 [some (.ref u), l1] st H Q ↔ Go 44 1 [some (.ref u), l1] (.ref u :: st) H Q := G_aload_n fX4_keepSum_0 rfl
theorem fX4_keepSum_1 : ft 44 1 = some (.getfield 9, 4, 0, 190, .null) := by decide +kernel
theorem gX4_keepSum_1 {L : List (Option Value)} {p : Nat} {st : List Value} {H : HP} {Q : Option Value → HP → Prop} : Go 44 1 L (.ref p :: st) H Q ↔ Rd (gF' 4 0 (hget H p)) 44 4 L st H Q := G_getf fX4_keepSum_1 ⟨rfl, rfl⟩
theorem fX4_keepSum_4 : ft 44 4 = some (.iload_n 1, 0, 0, 0, .null) := by decide +kernel
theorem gX4_keepSum_4 {l0 : Option Value} {u : Int32} {st : List Value} {H : HP} {Q : Option Value → HP → Prop} : Go 44 4 [l0, some (.int u)] st H Q ↔ Go 44 5 [l0, some (.int u)] (.int u :: st) H Q := G_iload_n fX4_keepSum_4 rfl
theorem fX4_keepSum_5 : ft 44 5 = some (.aload_n 0, 0, 0, 0, .null) := by decide +kernel
theorem gX4_keepSum_5 {l1 : Option Value} {u : Nat} {st : List Value} {H : HP} {Q : Option Value → HP → Prop} : Go 44 5 [some (.ref u), l1] st H Q ↔ Go 44 6 [some (.ref u), l1] (.ref u :: st) H Q := G_aload_n fX4_keepSum_5 rfl
theorem fX4_keepSum_6 : ft 44 6 = some (.getfield 25, 4, 3, 196, .null) := by decide +kernel
theorem gX4_keepSum_6 {L : List (Option Value)} {p : Nat} {st : List Value} {H : HP} {Q : Option Value → HP → Prop} : Go 44 6 L (.ref p :: st) H Q ↔ Rd (gF' 4 3 (hget H p)) 44 9 L st H Q := G_getf fX4_keepSum_6 ⟨rfl, rfl⟩
theorem fX4_keepSum_9 : ft 44 9 = some (.getfield 64, 7, 0, 142, .null) := by decide +kernel
theorem gX4_keepSum_9 {L : List (Option Value)} {p : Nat} {st : List Value} {H : HP} {Q : Option Value → HP → Prop} : Go 44 9 L (.ref p :: st) H Q ↔ Rd (gF' 7 0 (hget H p)) 44 12 L st H Q := G_getf fX4_keepSum_9 ⟨rfl, rfl⟩
theorem fX4_keepSum_12 : ft 44 12 = some (.lastore, 0, 0, 0, .null) := by decide +kernel
theorem gX4_keepSum_12 {L : List (Option Value)} {p : Nat} {a : Int} {b : Int} (hp : p ≠ 0) {st : List Value} {H : HP} {Q : Option Value → HP → Prop} : Go 44 12 L (vl b :: vi a :: .ref p :: st) H Q ↔ Wr (sL' (hget H p) a b) p 44 13 L st H Q := G_last fX4_keepSum_12 hp
theorem fX4_keepSum_13 : ft 44 13 = some (.aload_n 0, 0, 0, 0, .null) := by decide +kernel
theorem gX4_keepSum_13 {l1 : Option Value} {u : Nat} {st : List Value} {H : HP} {Q : Option Value → HP → Prop} : Go 44 13 [some (.ref u), l1] st H Q ↔ Go 44 14 [some (.ref u), l1] (.ref u :: st) H Q := G_aload_n fX4_keepSum_13 rfl
theorem fX4_keepSum_14 : ft 44 14 = some (.getfield 15, 4, 1, 192, .null) := by decide +kernel
theorem gX4_keepSum_14 {L : List (Option Value)} {p : Nat} {st : List Value} {H : HP} {Q : Option Value → HP → Prop} : Go 44 14 L (.ref p :: st) H Q ↔ Rd (gF' 4 1 (hget H p)) 44 17 L st H Q := G_getf fX4_keepSum_14 ⟨rfl, rfl⟩
theorem fX4_keepSum_17 : ft 44 17 = some (.iload_n 1, 0, 0, 0, .null) := by decide +kernel
theorem gX4_keepSum_17 {l0 : Option Value} {u : Int32} {st : List Value} {H : HP} {Q : Option Value → HP → Prop} : Go 44 17 [l0, some (.int u)] st H Q ↔ Go 44 18 [l0, some (.int u)] (.int u :: st) H Q := G_iload_n fX4_keepSum_17 rfl
theorem fX4_keepSum_18 : ft 44 18 = some (.aload_n 0, 0, 0, 0, .null) := by decide +kernel
theorem gX4_keepSum_18 {l1 : Option Value} {u : Nat} {st : List Value} {H : HP} {Q : Option Value → HP → Prop} : Go 44 18 [some (.ref u), l1] st H Q ↔ Go 44 19 [some (.ref u), l1] (.ref u :: st) H Q := G_aload_n fX4_keepSum_18 rfl
theorem fX4_keepSum_19 : ft 44 19 = some (.getfield 25, 4, 3, 196, .null) := by decide +kernel
theorem gX4_keepSum_19 {L : List (Option Value)} {p : Nat} {st : List Value} {H : HP} {Q : Option Value → HP → Prop} : Go 44 19 L (.ref p :: st) H Q ↔ Rd (gF' 4 3 (hget H p)) 44 22 L st H Q := G_getf fX4_keepSum_19 ⟨rfl, rfl⟩
theorem fX4_keepSum_22 : ft 44 22 = some (.getfield 66, 7, 1, 144, .null) := by decide +kernel
theorem gX4_keepSum_22 {L : List (Option Value)} {p : Nat} {st : List Value} {H : HP} {Q : Option Value → HP → Prop} : Go 44 22 L (.ref p :: st) H Q ↔ Rd (gF' 7 1 (hget H p)) 44 25 L st H Q := G_getf fX4_keepSum_22 ⟨rfl, rfl⟩
theorem fX4_keepSum_25 : ft 44 25 = some (.lastore, 0, 0, 0, .null) := by decide +kernel
theorem gX4_keepSum_25 {L : List (Option Value)} {p : Nat} {a : Int} {b : Int} (hp : p ≠ 0) {st : List Value} {H : HP} {Q : Option Value → HP → Prop} : Go 44 25 L (vl b :: vi a :: .ref p :: st) H Q ↔ Wr (sL' (hget H p) a b) p 44 26 L st H Q := G_last fX4_keepSum_25 hp
theorem fX4_keepSum_26 : ft 44 26 = some (.return_, 0, 0, 0, .null) := by decide +kernel
theorem gX4_keepSum_26 {L : List (Option Value)} {H : HP} {Q : Option Value → HP → Prop} : Go 44 26 L [] H Q ↔ Q none H := G_vret fX4_keepSum_26 (by decide +kernel)
theorem fX4_byPlainSums_0 : ft 45 0 = some (.aload_n 0, 0, 0, 0, .null) := by decide +kernel
theorem gX4_byPlainSums_0 {l1 l2 l3 l4 : Option Value} {u : Nat} {st : List Value} {H : HP} {Q : Option Value → HP → Prop} : Go 45 0 [some (.ref u), l1, l2, l3, l4] st H Q ↔ Go 45 1 [some (.ref u), l1, l2, l3, l4] (.ref u :: st) H Q := G_aload_n fX4_byPlainSums_0 rfl
theorem fX4_byPlainSums_1 : ft 45 1 = some (.aload_n 1, 0, 0, 0, .null) := by decide +kernel
theorem gX4_byPlainSums_1 {l0 l2 l3 l4 : Option Value} {u : Nat} {st : List Value} {H : HP} {Q : Option Value → HP → Prop} : Go 45 1 [l0, some (.ref u), l2, l3, l4] st H Q ↔ Go 45 2 [l0, some (.ref u), l2, l3, l4] (.ref u :: st) H Q := G_aload_n fX4_byPlainSums_1 rfl
theorem fX4_byPlainSums_2 : ft 45 2 = some (.invokevirtual 68, 55, 0, 454, .null) := by decide +kernel
theorem gX4_byPlainSums_2 {L : List (Option Value)} {p : Nat}  {r0 : Nat} {H : HP} {Q : Option Value → HP → Prop} : Go 45 2 L (.ref p :: [.ref r0]) H Q ↔ (iso 5 (hget H p) = true ∧ Go 55 0 [some (.ref p)] [] H (Cont 45 5 L [.ref r0] Q)) := G_cV (n := 0) (N := 1) (as := []) (st := [.ref r0]) fX4_byPlainSums_2 (by decide +kernel) rfl (Nat.le_of_ble_eq_true rfl) (Nat.le_of_ble_eq_true rfl) rfl
theorem fX4_byPlainSums_5 : ft 45 5 = some (.aload_n 2, 0, 0, 0, .null) := by decide +kernel
theorem gX4_byPlainSums_5 {l0 l1 l3 l4 : Option Value} {u : Nat} {st : List Value} {H : HP} {Q : Option Value → HP → Prop} : Go 45 5 [l0, l1, some (.ref u), l3, l4] st H Q ↔ Go 45 6 [l0, l1, some (.ref u), l3, l4] (.ref u :: st) H Q := G_aload_n fX4_byPlainSums_5 rfl
theorem fX4_byPlainSums_6 : ft 45 6 = some (.invokevirtual 68, 55, 0, 454, .null) := by decide +kernel
theorem gX4_byPlainSums_6 {L : List (Option Value)} {p : Nat}  {r0 : Int32} {r1 : Nat} {H : HP} {Q : Option Value → HP → Prop} : Go 45 6 L (.ref p :: [.int r0, .ref r1]) H Q ↔ (iso 5 (hget H p) = true ∧ Go 55 0 [some (.ref p)] [] H (Cont 45 9 L [.int r0, .ref r1] Q)) := G_cV (n := 0) (N := 1) (as := []) (st := [.int r0, .ref r1]) fX4_byPlainSums_6 (by decide +kernel) rfl (Nat.le_of_ble_eq_true rfl) (Nat.le_of_ble_eq_true rfl) rfl
theorem fX4_byPlainSums_9 : ft 45 9 = some (.iadd, 0, 0, 0, .null) := by decide +kernel
theorem gX4_byPlainSums_9 {L : List (Option Value)} {a b : Int} {st : List Value} {H : HP} {Q : Option Value → HP → Prop} : Go 45 9 L (vi b :: vi a :: st) H Q ↔ Go 45 10 L (vi (a + b) :: st) H Q := G_iadd fX4_byPlainSums_9
theorem fX4_byPlainSums_10 : ft 45 10 = some (.iconst 1, 0, 0, 0, .null) := by decide +kernel
theorem gX4_byPlainSums_10 {L : List (Option Value)} {st : List Value} {H : HP} {Q : Option Value → HP → Prop} : Go 45 10 L st H Q ↔ Go 45 11 L (vi 1 :: st) H Q := G_iconst fX4_byPlainSums_10
theorem fX4_byPlainSums_11 : ft 45 11 = some (.isub, 0, 0, 0, .null) := by decide +kernel
theorem gX4_byPlainSums_11 {L : List (Option Value)} {a b : Int} {st : List Value} {H : HP} {Q : Option Value → HP → Prop} : Go 45 11 L (vi b :: vi a :: st) H Q ↔ Go 45 12 L (vi (a - b) :: st) H Q := G_isub fX4_byPlainSums_11
theorem fX4_byPlainSums_12 : ft 45 12 = some (.putfield 18, 4, 2, 194, .null) := by decide +kernel
theorem gX4_byPlainSums_12 {L : List (Option Value)} {p : Nat} {u : Int32} (hp : p ≠ 0) {st : List Value} {H : HP} {Q : Option Value → HP → Prop} : Go 45 12 L (.int u :: .ref p :: st) H Q ↔ Wr (pF' 4 2 (hget H p) (.int u)) p 45 15 L st H Q := G_putf fX4_byPlainSums_12 ⟨⟨rfl, rfl⟩, rfl, Or.inl rfl⟩ hp
theorem fX4_byPlainSums_15 : ft 45 15 = some (.iconst 0, 0, 0, 0, .null) := by decide +kernel
theorem gX4_byPlainSums_15 {L : List (Option Value)} {st : List Value} {H : HP} {Q : Option Value → HP → Prop} : Go 45 15 L st H Q ↔ Go 45 16 L (vi 0 :: st) H Q := G_iconst fX4_byPlainSums_15
theorem fX4_byPlainSums_16 : ft 45 16 = some (.istore_n 3, 0, 0, 0, .null) := by decide +kernel
theorem gX4_byPlainSums_16 {l0 l1 l2 l3 l4 : Option Value} {u : Int32} {st : List Value} {H : HP} {Q : Option Value → HP → Prop} : Go 45 16 [l0, l1, l2, l3, l4] (.int u :: st) H Q ↔ Go 45 17 [l0, l1, l2, some (.int u), l4] st H Q := G_istore_n fX4_byPlainSums_16 rfl
theorem fX4_byPlainSums_17 : ft 45 17 = some (.iload_n 3, 0, 0, 0, .null) := by decide +kernel
theorem gX4_byPlainSums_17 {l0 l1 l2 l4 : Option Value} {u : Int32} {st : List Value} {H : HP} {Q : Option Value → HP → Prop} : Go 45 17 [l0, l1, l2, some (.int u), l4] st H Q ↔ Go 45 18 [l0, l1, l2, some (.int u), l4] (.int u :: st) H Q := G_iload_n fX4_byPlainSums_17 rfl
theorem fX4_byPlainSums_18 : ft 45 18 = some (.aload_n 0, 0, 0, 0, .null) := by decide +kernel
theorem gX4_byPlainSums_18 {l1 l2 l3 l4 : Option Value} {u : Nat} {st : List Value} {H : HP} {Q : Option Value → HP → Prop} : Go 45 18 [some (.ref u), l1, l2, l3, l4] st H Q ↔ Go 45 19 [some (.ref u), l1, l2, l3, l4] (.ref u :: st) H Q := G_aload_n fX4_byPlainSums_18 rfl
theorem fX4_byPlainSums_19 : ft 45 19 = some (.getfield 18, 4, 2, 194, .null) := by decide +kernel
theorem gX4_byPlainSums_19 {L : List (Option Value)} {p : Nat} {st : List Value} {H : HP} {Q : Option Value → HP → Prop} : Go 45 19 L (.ref p :: st) H Q ↔ Rd (gF' 4 2 (hget H p)) 45 22 L st H Q := G_getf fX4_byPlainSums_19 ⟨rfl, rfl⟩
theorem fX4_byPlainSums_22 : ft 45 22 = some (.if_icmp .ge 80, 0, 0, 0, .null) := by decide +kernel
theorem gX4_byPlainSums_22T {L : List (Option Value)} {a b : Int} (c : (-2147483648 ≤ a ∧ a ≤ 2147483647 ∧ -2147483648 ≤ b ∧ b ≤ 2147483647) ∧ b ≤ a) {st : List Value} {H : HP} {Q : Option Value → HP → Prop} : Go 45 22 L (vi b :: vi a :: st) H Q ↔ Go 45 102 L st H Q := G_icT fX4_byPlainSums_22 (by decide) c
theorem gX4_byPlainSums_22F {L : List (Option Value)} {a b : Int} (c : (-2147483648 ≤ a ∧ a ≤ 2147483647 ∧ -2147483648 ≤ b ∧ b ≤ 2147483647) ∧ ¬ (b ≤ a)) {st : List Value} {H : HP} {Q : Option Value → HP → Prop} : Go 45 22 L (vi b :: vi a :: st) H Q ↔ Go 45 25 L st H Q := G_icF (tg := 102) fX4_byPlainSums_22 (by decide) c
theorem fX4_byPlainSums_25 : ft 45 25 = some (.aload_n 0, 0, 0, 0, .null) := by decide +kernel
theorem gX4_byPlainSums_25 {l1 l2 l3 l4 : Option Value} {u : Nat} {st : List Value} {H : HP} {Q : Option Value → HP → Prop} : Go 45 25 [some (.ref u), l1, l2, l3, l4] st H Q ↔ Go 45 26 [some (.ref u), l1, l2, l3, l4] (.ref u :: st) H Q := G_aload_n fX4_byPlainSums_25 rfl
theorem fX4_byPlainSums_26 : ft 45 26 = some (.getfield 25, 4, 3, 196, .null) := by decide +kernel
theorem gX4_byPlainSums_26 {L : List (Option Value)} {p : Nat} {st : List Value} {H : HP} {Q : Option Value → HP → Prop} : Go 45 26 L (.ref p :: st) H Q ↔ Rd (gF' 4 3 (hget H p)) 45 29 L st H Q := G_getf fX4_byPlainSums_26 ⟨rfl, rfl⟩
theorem fX4_byPlainSums_29 : ft 45 29 = some (.invokevirtual 74, 64, 0, 460, .null) := by decide +kernel
theorem gX4_byPlainSums_29 {L : List (Option Value)} {p : Nat}   {H : HP} {Q : Option Value → HP → Prop} : Go 45 29 L (.ref p :: []) H Q ↔ (iso 7 (hget H p) = true ∧ Go 64 0 [some (.ref p)] [] H (Cont 45 32 L [] Q)) := G_cV (n := 0) (N := 1) (as := []) (st := []) fX4_byPlainSums_29 (by decide +kernel) rfl (Nat.le_of_ble_eq_true rfl) (Nat.le_of_ble_eq_true rfl) rfl
theorem fX4_byPlainSums_32 : ft 45 32 = some (.iconst 0, 0, 0, 0, .null) := by decide +kernel
theorem gX4_byPlainSums_32 {L : List (Option Value)} {st : List Value} {H : HP} {Q : Option Value → HP → Prop} : Go 45 32 L st H Q ↔ Go 45 33 L (vi 0 :: st) H Q := G_iconst fX4_byPlainSums_32
theorem fX4_byPlainSums_33 : ft 45 33 = some (.iload_n 3, 0, 0, 0, .null) := by decide +kernel
theorem gX4_byPlainSums_33 {l0 l1 l2 l4 : Option Value} {u : Int32} {st : List Value} {H : HP} {Q : Option Value → HP → Prop} : Go 45 33 [l0, l1, l2, some (.int u), l4] st H Q ↔ Go 45 34 [l0, l1, l2, some (.int u), l4] (.int u :: st) H Q := G_iload_n fX4_byPlainSums_33 rfl
theorem fX4_byPlainSums_34 : ft 45 34 = some (.aload_n 2, 0, 0, 0, .null) := by decide +kernel
theorem gX4_byPlainSums_34 {l0 l1 l3 l4 : Option Value} {u : Nat} {st : List Value} {H : HP} {Q : Option Value → HP → Prop} : Go 45 34 [l0, l1, some (.ref u), l3, l4] st H Q ↔ Go 45 35 [l0, l1, some (.ref u), l3, l4] (.ref u :: st) H Q := G_aload_n fX4_byPlainSums_34 rfl
theorem fX4_byPlainSums_35 : ft 45 35 = some (.invokevirtual 68, 55, 0, 454, .null) := by decide +kernel
theorem gX4_byPlainSums_35 {L : List (Option Value)} {p : Nat}  {r0 : Int32} {r1 : Int32} {H : HP} {Q : Option Value → HP → Prop} : Go 45 35 L (.ref p :: [.int r0, .int r1]) H Q ↔ (iso 5 (hget H p) = true ∧ Go 55 0 [some (.ref p)] [] H (Cont 45 38 L [.int r0, .int r1] Q)) := G_cV (n := 0) (N := 1) (as := []) (st := [.int r0, .int r1]) fX4_byPlainSums_35 (by decide +kernel) rfl (Nat.le_of_ble_eq_true rfl) (Nat.le_of_ble_eq_true rfl) rfl
theorem fX4_byPlainSums_38 : ft 45 38 = some (.isub, 0, 0, 0, .null) := by decide +kernel
theorem gX4_byPlainSums_38 {L : List (Option Value)} {a b : Int} {st : List Value} {H : HP} {Q : Option Value → HP → Prop} : Go 45 38 L (vi b :: vi a :: st) H Q ↔ Go 45 39 L (vi (a - b) :: st) H Q := G_isub fX4_byPlainSums_38
theorem fX4_byPlainSums_39 : ft 45 39 = some (.iconst 1, 0, 0, 0, .null) := by decide +kernel
theorem gX4_byPlainSums_39 {L : List (Option Value)} {st : List Value} {H : HP} {Q : Option Value → HP → Prop} : Go 45 39 L st H Q ↔ Go 45 40 L (vi 1 :: st) H Q := G_iconst fX4_byPlainSums_39
theorem fX4_byPlainSums_40 : ft 45 40 = some (.iadd, 0, 0, 0, .null) := by decide +kernel
theorem gX4_byPlainSums_40 {L : List (Option Value)} {a b : Int} {st : List Value} {H : HP} {Q : Option Value → HP → Prop} : Go 45 40 L (vi b :: vi a :: st) H Q ↔ Go 45 41 L (vi (a + b) :: st) H Q := G_iadd fX4_byPlainSums_40
theorem fX4_byPlainSums_41 : ft 45 41 = some (.invokestatic 77, 187, 0, 464, .null) := by decide +kernel
theorem gX4_byPlainSums_41 {L : List (Option Value)} {a0 : Int32} {a1 : Int32}  {H : HP} {Q : Option Value → HP → Prop} : Go 45 41 L (.int a1 :: .int a0 :: []) H Q ↔ Go 187 0 [some (.int a0), some (.int a1)] [] H (Cont 45 44 L [] Q) := G_cS (n := 2) (N := 2) (as := [.int a1, .int a0]) (st := []) fX4_byPlainSums_41 (by decide +kernel) rfl (Nat.le_of_ble_eq_true rfl) (Nat.le_of_ble_eq_true rfl) rfl
theorem fX4_byPlainSums_44 : ft 45 44 = some (.istore 4, 0, 0, 0, .null) := by decide +kernel
theorem gX4_byPlainSums_44 {l0 l1 l2 l3 l4 : Option Value} {u : Int32} {st : List Value} {H : HP} {Q : Option Value → HP → Prop} : Go 45 44 [l0, l1, l2, l3, l4] (.int u :: st) H Q ↔ Go 45 46 [l0, l1, l2, l3, some (.int u)] st H Q := G_istore fX4_byPlainSums_44 rfl
theorem fX4_byPlainSums_46 : ft 45 46 = some (.iload 4, 0, 0, 0, .null) := by decide +kernel
theorem gX4_byPlainSums_46 {l0 l1 l2 l3 : Option Value} {u : Int32} {st : List Value} {H : HP} {Q : Option Value → HP → Prop} : Go 45 46 [l0, l1, l2, l3, some (.int u)] st H Q ↔ Go 45 48 [l0, l1, l2, l3, some (.int u)] (.int u :: st) H Q := G_iload fX4_byPlainSums_46 rfl
theorem fX4_byPlainSums_48 : ft 45 48 = some (.iload_n 3, 0, 0, 0, .null) := by decide +kernel
theorem gX4_byPlainSums_48 {l0 l1 l2 l4 : Option Value} {u : Int32} {st : List Value} {H : HP} {Q : Option Value → HP → Prop} : Go 45 48 [l0, l1, l2, some (.int u), l4] st H Q ↔ Go 45 49 [l0, l1, l2, some (.int u), l4] (.int u :: st) H Q := G_iload_n fX4_byPlainSums_48 rfl
theorem fX4_byPlainSums_49 : ft 45 49 = some (.if_icmp .gt 42, 0, 0, 0, .null) := by decide +kernel
theorem gX4_byPlainSums_49T {L : List (Option Value)} {a b : Int} (c : (-2147483648 ≤ a ∧ a ≤ 2147483647 ∧ -2147483648 ≤ b ∧ b ≤ 2147483647) ∧ b < a) {st : List Value} {H : HP} {Q : Option Value → HP → Prop} : Go 45 49 L (vi b :: vi a :: st) H Q ↔ Go 45 91 L st H Q := G_icT fX4_byPlainSums_49 (by decide) c
theorem gX4_byPlainSums_49F {L : List (Option Value)} {a b : Int} (c : (-2147483648 ≤ a ∧ a ≤ 2147483647 ∧ -2147483648 ≤ b ∧ b ≤ 2147483647) ∧ ¬ (b < a)) {st : List Value} {H : HP} {Q : Option Value → HP → Prop} : Go 45 49 L (vi b :: vi a :: st) H Q ↔ Go 45 52 L st H Q := G_icF (tg := 91) fX4_byPlainSums_49 (by decide) c
theorem fX4_byPlainSums_52 : ft 45 52 = some (.iload 4, 0, 0, 0, .null) := by decide +kernel
theorem gX4_byPlainSums_52 {l0 l1 l2 l3 : Option Value} {u : Int32} {st : List Value} {H : HP} {Q : Option Value → HP → Prop} : Go 45 52 [l0, l1, l2, l3, some (.int u)] st H Q ↔ Go 45 54 [l0, l1, l2, l3, some (.int u)] (.int u :: st) H Q := G_iload fX4_byPlainSums_52 rfl
theorem fX4_byPlainSums_54 : ft 45 54 = some (.aload_n 1, 0, 0, 0, .null) := by decide +kernel
theorem gX4_byPlainSums_54 {l0 l2 l3 l4 : Option Value} {u : Nat} {st : List Value} {H : HP} {Q : Option Value → HP → Prop} : Go 45 54 [l0, some (.ref u), l2, l3, l4] st H Q ↔ Go 45 55 [l0, some (.ref u), l2, l3, l4] (.ref u :: st) H Q := G_aload_n fX4_byPlainSums_54 rfl
theorem fX4_byPlainSums_55 : ft 45 55 = some (.invokevirtual 68, 55, 0, 454, .null) := by decide +kernel
theorem gX4_byPlainSums_55 {L : List (Option Value)} {p : Nat}  {r0 : Int32} {H : HP} {Q : Option Value → HP → Prop} : Go 45 55 L (.ref p :: [.int r0]) H Q ↔ (iso 5 (hget H p) = true ∧ Go 55 0 [some (.ref p)] [] H (Cont 45 58 L [.int r0] Q)) := G_cV (n := 0) (N := 1) (as := []) (st := [.int r0]) fX4_byPlainSums_55 (by decide +kernel) rfl (Nat.le_of_ble_eq_true rfl) (Nat.le_of_ble_eq_true rfl) rfl
theorem fX4_byPlainSums_58 : ft 45 58 = some (.if_icmp .ge 33, 0, 0, 0, .null) := by decide +kernel
theorem gX4_byPlainSums_58T {L : List (Option Value)} {a b : Int} (c : (-2147483648 ≤ a ∧ a ≤ 2147483647 ∧ -2147483648 ≤ b ∧ b ≤ 2147483647) ∧ b ≤ a) {st : List Value} {H : HP} {Q : Option Value → HP → Prop} : Go 45 58 L (vi b :: vi a :: st) H Q ↔ Go 45 91 L st H Q := G_icT fX4_byPlainSums_58 (by decide) c
theorem gX4_byPlainSums_58F {L : List (Option Value)} {a b : Int} (c : (-2147483648 ≤ a ∧ a ≤ 2147483647 ∧ -2147483648 ≤ b ∧ b ≤ 2147483647) ∧ ¬ (b ≤ a)) {st : List Value} {H : HP} {Q : Option Value → HP → Prop} : Go 45 58 L (vi b :: vi a :: st) H Q ↔ Go 45 61 L st H Q := G_icF (tg := 91) fX4_byPlainSums_58 (by decide) c
theorem fX4_byPlainSums_61 : ft 45 61 = some (.aload_n 0, 0, 0, 0, .null) := by decide +kernel
theorem gX4_byPlainSums_61 {l1 l2 l3 l4 : Option Value} {u : Nat} {st : List Value} {H : HP} {Q : Option Value → HP → Prop} : Go 45 61 [some (.ref u), l1, l2, l3, l4] st H Q ↔ Go 45 62 [some (.ref u), l1, l2, l3, l4] (.ref u :: st) H Q := G_aload_n fX4_byPlainSums_61 rfl
theorem fX4_byPlainSums_62 : ft 45 62 = some (.getfield 25, 4, 3, 196, .null) := by decide +kernel
theorem gX4_byPlainSums_62 {L : List (Option Value)} {p : Nat} {st : List Value} {H : HP} {Q : Option Value → HP → Prop} : Go 45 62 L (.ref p :: st) H Q ↔ Rd (gF' 4 3 (hget H p)) 45 65 L st H Q := G_getf fX4_byPlainSums_62 ⟨rfl, rfl⟩
theorem fX4_byPlainSums_65 : ft 45 65 = some (.aload_n 1, 0, 0, 0, .null) := by decide +kernel
theorem gX4_byPlainSums_65 {l0 l2 l3 l4 : Option Value} {u : Nat} {st : List Value} {H : HP} {Q : Option Value → HP → Prop} : Go 45 65 [l0, some (.ref u), l2, l3, l4] st H Q ↔ Go 45 66 [l0, some (.ref u), l2, l3, l4] (.ref u :: st) H Q := G_aload_n fX4_byPlainSums_65 rfl
theorem fX4_byPlainSums_66 : ft 45 66 = some (.getfield 83, 5, 1, 287, .null) := by decide +kernel
theorem gX4_byPlainSums_66 {L : List (Option Value)} {p : Nat} {st : List Value} {H : HP} {Q : Option Value → HP → Prop} : Go 45 66 L (.ref p :: st) H Q ↔ Rd (gF' 5 1 (hget H p)) 45 69 L st H Q := G_getf fX4_byPlainSums_66 ⟨rfl, rfl⟩
theorem fX4_byPlainSums_69 : ft 45 69 = some (.iload 4, 0, 0, 0, .null) := by decide +kernel
theorem gX4_byPlainSums_69 {l0 l1 l2 l3 : Option Value} {u : Int32} {st : List Value} {H : HP} {Q : Option Value → HP → Prop} : Go 45 69 [l0, l1, l2, l3, some (.int u)] st H Q ↔ Go 45 71 [l0, l1, l2, l3, some (.int u)] (.int u :: st) H Q := G_iload fX4_byPlainSums_69 rfl
theorem fX4_byPlainSums_71 : ft 45 71 = some (.laload, 0, 0, 0, .null) := by decide +kernel
theorem gX4_byPlainSums_71 {L : List (Option Value)} {p : Nat} {a : Int} {st : List Value} {H : HP} {Q : Option Value → HP → Prop} : Go 45 71 L (vi a :: .ref p :: st) H Q ↔ Rd (aL' (hget H p) a) 45 72 L st H Q := G_lald fX4_byPlainSums_71
theorem fX4_byPlainSums_72 : ft 45 72 = some (.aload_n 2, 0, 0, 0, .null) := by decide +kernel
theorem gX4_byPlainSums_72 {l0 l1 l3 l4 : Option Value} {u : Nat} {st : List Value} {H : HP} {Q : Option Value → HP → Prop} : Go 45 72 [l0, l1, some (.ref u), l3, l4] st H Q ↔ Go 45 73 [l0, l1, some (.ref u), l3, l4] (.ref u :: st) H Q := G_aload_n fX4_byPlainSums_72 rfl
theorem fX4_byPlainSums_73 : ft 45 73 = some (.getfield 83, 5, 1, 287, .null) := by decide +kernel
theorem gX4_byPlainSums_73 {L : List (Option Value)} {p : Nat} {st : List Value} {H : HP} {Q : Option Value → HP → Prop} : Go 45 73 L (.ref p :: st) H Q ↔ Rd (gF' 5 1 (hget H p)) 45 76 L st H Q := G_getf fX4_byPlainSums_73 ⟨rfl, rfl⟩
theorem fX4_byPlainSums_76 : ft 45 76 = some (.iload_n 3, 0, 0, 0, .null) := by decide +kernel
theorem gX4_byPlainSums_76 {l0 l1 l2 l4 : Option Value} {u : Int32} {st : List Value} {H : HP} {Q : Option Value → HP → Prop} : Go 45 76 [l0, l1, l2, some (.int u), l4] st H Q ↔ Go 45 77 [l0, l1, l2, some (.int u), l4] (.int u :: st) H Q := G_iload_n fX4_byPlainSums_76 rfl
theorem fX4_byPlainSums_77 : ft 45 77 = some (.iload 4, 0, 0, 0, .null) := by decide +kernel
theorem gX4_byPlainSums_77 {l0 l1 l2 l3 : Option Value} {u : Int32} {st : List Value} {H : HP} {Q : Option Value → HP → Prop} : Go 45 77 [l0, l1, l2, l3, some (.int u)] st H Q ↔ Go 45 79 [l0, l1, l2, l3, some (.int u)] (.int u :: st) H Q := G_iload fX4_byPlainSums_77 rfl
theorem fX4_byPlainSums_79 : ft 45 79 = some (.isub, 0, 0, 0, .null) := by decide +kernel
theorem gX4_byPlainSums_79 {L : List (Option Value)} {a b : Int} {st : List Value} {H : HP} {Q : Option Value → HP → Prop} : Go 45 79 L (vi b :: vi a :: st) H Q ↔ Go 45 80 L (vi (a - b) :: st) H Q := G_isub fX4_byPlainSums_79
theorem fX4_byPlainSums_80 : ft 45 80 = some (.laload, 0, 0, 0, .null) := by decide +kernel
theorem gX4_byPlainSums_80 {L : List (Option Value)} {p : Nat} {a : Int} {st : List Value} {H : HP} {Q : Option Value → HP → Prop} : Go 45 80 L (vi a :: .ref p :: st) H Q ↔ Rd (aL' (hget H p) a) 45 81 L st H Q := G_lald fX4_byPlainSums_80
theorem fX4_byPlainSums_81 : ft 45 81 = some (.lmul, 0, 0, 0, .null) := by decide +kernel
theorem gX4_byPlainSums_81 {L : List (Option Value)} {a b : Int} {st : List Value} {H : HP} {Q : Option Value → HP → Prop} : Go 45 81 L (vl b :: vl a :: st) H Q ↔ Go 45 82 L (vl (a * b) :: st) H Q := G_lmul fX4_byPlainSums_81
theorem fX4_byPlainSums_82 : ft 45 82 = some (.invokevirtual 86, 65, 0, 465, .null) := by decide +kernel
theorem gX4_byPlainSums_82 {L : List (Option Value)} {p : Nat} {a0 : Int64}  {H : HP} {Q : Option Value → HP → Prop} : Go 45 82 L (.long a0 :: .ref p :: []) H Q ↔ (iso 7 (hget H p) = true ∧ Go 65 0 [some (.ref p), some (.long a0), none] [] H (Cont 45 85 L [] Q)) := G_cV (n := 1) (N := 3) (as := [.long a0]) (st := []) fX4_byPlainSums_82 (by decide +kernel) rfl (Nat.le_of_ble_eq_true rfl) (Nat.le_of_ble_eq_true rfl) rfl
theorem fX4_byPlainSums_85 : ft 45 85 = some (.iinc 4 1, 0, 0, 0, .null) := by decide +kernel
theorem gX4_byPlainSums_85 {l0 l1 l2 l3 : Option Value} {a : Int} {st : List Value} {H : HP} {Q : Option Value → HP → Prop} : Go 45 85 [l0, l1, l2, l3, some (vi a)] st H Q ↔ Go 45 88 [l0, l1, l2, l3, some (vi (a + 1))] st H Q := G_iinc fX4_byPlainSums_85 rfl rfl
theorem fX4_byPlainSums_88 : ft 45 88 = some (.goto (-42), 0, 0, 0, .null) := by decide +kernel
theorem gX4_byPlainSums_88 {L : List (Option Value)} {st : List Value} {H : HP} {Q : Option Value → HP → Prop} : Go 45 88 L st H Q ↔ Go 45 46 L st H Q := G_goto fX4_byPlainSums_88 (by decide)
theorem fX4_byPlainSums_91 : ft 45 91 = some (.aload_n 0, 0, 0, 0, .null) := by decide +kernel
theorem gX4_byPlainSums_91 {l1 l2 l3 l4 : Option Value} {u : Nat} {st : List Value} {H : HP} {Q : Option Value → HP → Prop} : Go 45 91 [some (.ref u), l1, l2, l3, l4] st H Q ↔ Go 45 92 [some (.ref u), l1, l2, l3, l4] (.ref u :: st) H Q := G_aload_n fX4_byPlainSums_91 rfl
theorem fX4_byPlainSums_92 : ft 45 92 = some (.iload_n 3, 0, 0, 0, .null) := by decide +kernel
theorem gX4_byPlainSums_92 {l0 l1 l2 l4 : Option Value} {u : Int32} {st : List Value} {H : HP} {Q : Option Value → HP → Prop} : Go 45 92 [l0, l1, l2, some (.int u), l4] st H Q ↔ Go 45 93 [l0, l1, l2, some (.int u), l4] (.int u :: st) H Q := G_iload_n fX4_byPlainSums_92 rfl
theorem fX4_byPlainSums_93 : ft 45 93 = some (.invokevirtual 90, 44, 0, 474, .null) := by decide +kernel
theorem gX4_byPlainSums_93 {L : List (Option Value)} {p : Nat} {a0 : Int32}  {H : HP} {Q : Option Value → HP → Prop} : Go 45 93 L (.int a0 :: .ref p :: []) H Q ↔ (iso 4 (hget H p) = true ∧ Go 44 0 [some (.ref p), some (.int a0)] [] H (Cont 45 96 L [] Q)) := G_cV (n := 1) (N := 2) (as := [.int a0]) (st := []) fX4_byPlainSums_93 (by decide +kernel) rfl (Nat.le_of_ble_eq_true rfl) (Nat.le_of_ble_eq_true rfl) rfl
theorem fX4_byPlainSums_96 : ft 45 96 = some (.iinc 3 1, 0, 0, 0, .null) := by decide +kernel
theorem gX4_byPlainSums_96 {l0 l1 l2 l4 : Option Value} {a : Int} {st : List Value} {H : HP} {Q : Option Value → HP → Prop} : Go 45 96 [l0, l1, l2, some (vi a), l4] st H Q ↔ Go 45 99 [l0, l1, l2, some (vi (a + 1)), l4] st H Q := G_iinc fX4_byPlainSums_96 rfl rfl
theorem fX4_byPlainSums_99 : ft 45 99 = some (.goto (-82), 0, 0, 0, .null) := by decide +kernel
theorem gX4_byPlainSums_99 {L : List (Option Value)} {st : List Value} {H : HP} {Q : Option Value → HP → Prop} : Go 45 99 L st H Q ↔ Go 45 17 L st H Q := G_goto fX4_byPlainSums_99 (by decide)
theorem fX4_byPlainSums_102 : ft 45 102 = some (.return_, 0, 0, 0, .null) := by decide +kernel
theorem gX4_byPlainSums_102 {L : List (Option Value)} {H : HP} {Q : Option Value → HP → Prop} : Go 45 102 L [] H Q ↔ Q none H := G_vret fX4_byPlainSums_102 (by decide +kernel)
theorem fX4_fitsOnePrime_0 : ft 46 0 = some (.aload_n 0, 0, 0, 0, .null) := by decide +kernel
theorem gX4_fitsOnePrime_0 {l1 l2 l3 : Option Value} {u : Nat} {st : List Value} {H : HP} {Q : Option Value → HP → Prop} : Go 46 0 [some (.ref u), l1, l2, l3] st H Q ↔ Go 46 1 [some (.ref u), l1, l2, l3] (.ref u :: st) H Q := G_aload_n fX4_fitsOnePrime_0 rfl
theorem fX4_fitsOnePrime_1 : ft 46 1 = some (.invokevirtual 94, 60, 0, 443, .null) := by decide +kernel
theorem gX4_fitsOnePrime_1 {L : List (Option Value)} {p : Nat}   {H : HP} {Q : Option Value → HP → Prop} : Go 46 1 L (.ref p :: []) H Q ↔ (iso 5 (hget H p) = true ∧ Go 60 0 [some (.ref p), none, none, none] [] H (Cont 46 4 L [] Q)) := G_cV (n := 0) (N := 4) (as := []) (st := []) fX4_fitsOnePrime_1 (by decide +kernel) rfl (Nat.le_of_ble_eq_true rfl) (Nat.le_of_ble_eq_true rfl) rfl
theorem fX4_fitsOnePrime_4 : ft 46 4 = some (.aload_n 1, 0, 0, 0, .null) := by decide +kernel
theorem gX4_fitsOnePrime_4 {l0 l2 l3 : Option Value} {u : Nat} {st : List Value} {H : HP} {Q : Option Value → HP → Prop} : Go 46 4 [l0, some (.ref u), l2, l3] st H Q ↔ Go 46 5 [l0, some (.ref u), l2, l3] (.ref u :: st) H Q := G_aload_n fX4_fitsOnePrime_4 rfl
theorem fX4_fitsOnePrime_5 : ft 46 5 = some (.invokevirtual 94, 60, 0, 443, .null) := by decide +kernel
theorem gX4_fitsOnePrime_5 {L : List (Option Value)} {p : Nat}  {r0 : Int64} {H : HP} {Q : Option Value → HP → Prop} : Go 46 5 L (.ref p :: [.long r0]) H Q ↔ (iso 5 (hget H p) = true ∧ Go 60 0 [some (.ref p), none, none, none] [] H (Cont 46 8 L [.long r0] Q)) := G_cV (n := 0) (N := 4) (as := []) (st := [.long r0]) fX4_fitsOnePrime_5 (by decide +kernel) rfl (Nat.le_of_ble_eq_true rfl) (Nat.le_of_ble_eq_true rfl) rfl
theorem fX4_fitsOnePrime_8 : ft 46 8 = some (.lmul, 0, 0, 0, .null) := by decide +kernel
theorem gX4_fitsOnePrime_8 {L : List (Option Value)} {a b : Int} {st : List Value} {H : HP} {Q : Option Value → HP → Prop} : Go 46 8 L (vl b :: vl a :: st) H Q ↔ Go 46 9 L (vl (a * b) :: st) H Q := G_lmul fX4_fitsOnePrime_8
theorem fX4_fitsOnePrime_9 : ft 46 9 = some (.lstore_n 2, 0, 0, 0, .null) := by decide +kernel
theorem gX4_fitsOnePrime_9 {l0 l1 l2 l3 : Option Value} {u : Int64} {st : List Value} {H : HP} {Q : Option Value → HP → Prop} : Go 46 9 [l0, l1, l2, l3] (.long u :: st) H Q ↔ Go 46 10 [l0, l1, some (.long u), none] st H Q := G_lstore_n fX4_fitsOnePrime_9 rfl
theorem fX4_fitsOnePrime_10 : ft 46 10 = some (.lload_n 2, 0, 0, 0, .null) := by decide +kernel
theorem gX4_fitsOnePrime_10 {l0 l1 : Option Value} {u : Int64} {st : List Value} {H : HP} {Q : Option Value → HP → Prop} : Go 46 10 [l0, l1, some (.long u), none] st H Q ↔ Go 46 11 [l0, l1, some (.long u), none] (.long u :: st) H Q := G_lload_n fX4_fitsOnePrime_10 rfl
theorem fX4_fitsOnePrime_11 : ft 46 11 = some (.ldc2_w 44, 0, 0, 168, .long (998244353)) := by decide +kernel
theorem gX4_fitsOnePrime_11 {L : List (Option Value)} {st : List Value} {H : HP} {Q : Option Value → HP → Prop} : Go 46 11 L st H Q ↔ Go 46 14 L (vl (998244353) :: st) H Q := G_ldcl fX4_fitsOnePrime_11 (by decide +kernel)
theorem fX4_fitsOnePrime_14 : ft 46 14 = some (.lcmp, 0, 0, 0, .null) := by decide +kernel
theorem fX4_fitsOnePrime_14' : ft 46 15 = some (.ifCond .ge 32, 0, 0, 0, .null) := by decide +kernel
theorem gX4_fitsOnePrime_14T {L : List (Option Value)} {a b : Int} (c : (-9223372036854775808 ≤ a ∧ a ≤ 9223372036854775807 ∧ -9223372036854775808 ≤ b ∧ b ≤ 9223372036854775807) ∧ b ≤ a) {st : List Value} {H : HP} {Q : Option Value → HP → Prop} : Go 46 14 L (vl b :: vl a :: st) H Q ↔ Go 46 47 L st H Q := G_lcT fX4_fitsOnePrime_14 fX4_fitsOnePrime_14' (by decide) c
theorem gX4_fitsOnePrime_14F {L : List (Option Value)} {a b : Int} (c : (-9223372036854775808 ≤ a ∧ a ≤ 9223372036854775807 ∧ -9223372036854775808 ≤ b ∧ b ≤ 9223372036854775807) ∧ ¬ (b ≤ a)) {st : List Value} {H : HP} {Q : Option Value → HP → Prop} : Go 46 14 L (vl b :: vl a :: st) H Q ↔ Go 46 18 L st H Q := G_lcF (tg := 47) fX4_fitsOnePrime_14 fX4_fitsOnePrime_14' (by decide) c
theorem fX4_fitsOnePrime_15 : ft 46 15 = some (.ifCond .ge 32, 0, 0, 0, .null) := by decide +kernel
theorem gX4_fitsOnePrime_15T {L : List (Option Value)} {a : Int} (c : (-2147483648 ≤ a ∧ a ≤ 2147483647) ∧ 0 ≤ a) {st : List Value} {H : HP} {Q : Option Value → HP → Prop} : Go 46 15 L (vi a :: st) H Q ↔ Go 46 47 L st H Q := G_ifT fX4_fitsOnePrime_15 (by decide) c
theorem gX4_fitsOnePrime_15F {L : List (Option Value)} {a : Int} (c : (-2147483648 ≤ a ∧ a ≤ 2147483647) ∧ ¬ (0 ≤ a)) {st : List Value} {H : HP} {Q : Option Value → HP → Prop} : Go 46 15 L (vi a :: st) H Q ↔ Go 46 18 L st H Q := G_ifF (tg := 47) fX4_fitsOnePrime_15 (by decide) c
theorem fX4_fitsOnePrime_18 : ft 46 18 = some (.ldc2_w 98, 0, 0, 453, .long (2)) := by decide +kernel
theorem gX4_fitsOnePrime_18 {L : List (Option Value)} {st : List Value} {H : HP} {Q : Option Value → HP → Prop} : Go 46 18 L st H Q ↔ Go 46 21 L (vl (2) :: st) H Q := G_ldcl fX4_fitsOnePrime_18 (by decide +kernel)
theorem fX4_fitsOnePrime_21 : ft 46 21 = some (.aload_n 0, 0, 0, 0, .null) := by decide +kernel
theorem gX4_fitsOnePrime_21 {l1 l2 l3 : Option Value} {u : Nat} {st : List Value} {H : HP} {Q : Option Value → HP → Prop} : Go 46 21 [some (.ref u), l1, l2, l3] st H Q ↔ Go 46 22 [some (.ref u), l1, l2, l3] (.ref u :: st) H Q := G_aload_n fX4_fitsOnePrime_21 rfl
theorem fX4_fitsOnePrime_22 : ft 46 22 = some (.invokevirtual 68, 55, 0, 454, .null) := by decide +kernel
theorem gX4_fitsOnePrime_22 {L : List (Option Value)} {p : Nat}  {r0 : Int64} {H : HP} {Q : Option Value → HP → Prop} : Go 46 22 L (.ref p :: [.long r0]) H Q ↔ (iso 5 (hget H p) = true ∧ Go 55 0 [some (.ref p)] [] H (Cont 46 25 L [.long r0] Q)) := G_cV (n := 0) (N := 1) (as := []) (st := [.long r0]) fX4_fitsOnePrime_22 (by decide +kernel) rfl (Nat.le_of_ble_eq_true rfl) (Nat.le_of_ble_eq_true rfl) rfl
theorem fX4_fitsOnePrime_25 : ft 46 25 = some (.aload_n 1, 0, 0, 0, .null) := by decide +kernel
theorem gX4_fitsOnePrime_25 {l0 l2 l3 : Option Value} {u : Nat} {st : List Value} {H : HP} {Q : Option Value → HP → Prop} : Go 46 25 [l0, some (.ref u), l2, l3] st H Q ↔ Go 46 26 [l0, some (.ref u), l2, l3] (.ref u :: st) H Q := G_aload_n fX4_fitsOnePrime_25 rfl
theorem fX4_fitsOnePrime_26 : ft 46 26 = some (.invokevirtual 68, 55, 0, 454, .null) := by decide +kernel
theorem gX4_fitsOnePrime_26 {L : List (Option Value)} {p : Nat}  {r0 : Int32} {r1 : Int64} {H : HP} {Q : Option Value → HP → Prop} : Go 46 26 L (.ref p :: [.int r0, .long r1]) H Q ↔ (iso 5 (hget H p) = true ∧ Go 55 0 [some (.ref p)] [] H (Cont 46 29 L [.int r0, .long r1] Q)) := G_cV (n := 0) (N := 1) (as := []) (st := [.int r0, .long r1]) fX4_fitsOnePrime_26 (by decide +kernel) rfl (Nat.le_of_ble_eq_true rfl) (Nat.le_of_ble_eq_true rfl) rfl
theorem fX4_fitsOnePrime_29 : ft 46 29 = some (.invokestatic 100, 189, 0, 455, .null) := by decide +kernel
theorem gX4_fitsOnePrime_29 {L : List (Option Value)} {a0 : Int32} {a1 : Int32} {r0 : Int64} {H : HP} {Q : Option Value → HP → Prop} : Go 46 29 L (.int a1 :: .int a0 :: [.long r0]) H Q ↔ Go 189 0 [some (.int a0), some (.int a1)] [] H (Cont 46 32 L [.long r0] Q) := G_cS (n := 2) (N := 2) (as := [.int a1, .int a0]) (st := [.long r0]) fX4_fitsOnePrime_29 (by decide +kernel) rfl (Nat.le_of_ble_eq_true rfl) (Nat.le_of_ble_eq_true rfl) rfl
theorem fX4_fitsOnePrime_32 : ft 46 32 = some (.i2l, 0, 0, 0, .null) := by decide +kernel
theorem gX4_fitsOnePrime_32 {L : List (Option Value)} {a : Int} (c : -2147483648 ≤ a ∧ a ≤ 2147483647) {st : List Value} {H : HP} {Q : Option Value → HP → Prop} : Go 46 32 L (vi a :: st) H Q ↔ Go 46 33 L (vl a :: st) H Q := G_i2l fX4_fitsOnePrime_32 c
theorem fX4_fitsOnePrime_33 : ft 46 33 = some (.lmul, 0, 0, 0, .null) := by decide +kernel
theorem gX4_fitsOnePrime_33 {L : List (Option Value)} {a b : Int} {st : List Value} {H : HP} {Q : Option Value → HP → Prop} : Go 46 33 L (vl b :: vl a :: st) H Q ↔ Go 46 34 L (vl (a * b) :: st) H Q := G_lmul fX4_fitsOnePrime_33
theorem fX4_fitsOnePrime_34 : ft 46 34 = some (.lload_n 2, 0, 0, 0, .null) := by decide +kernel
theorem gX4_fitsOnePrime_34 {l0 l1 : Option Value} {u : Int64} {st : List Value} {H : HP} {Q : Option Value → HP → Prop} : Go 46 34 [l0, l1, some (.long u), none] st H Q ↔ Go 46 35 [l0, l1, some (.long u), none] (.long u :: st) H Q := G_lload_n fX4_fitsOnePrime_34 rfl
theorem fX4_fitsOnePrime_35 : ft 46 35 = some (.lmul, 0, 0, 0, .null) := by decide +kernel
theorem gX4_fitsOnePrime_35 {L : List (Option Value)} {a b : Int} {st : List Value} {H : HP} {Q : Option Value → HP → Prop} : Go 46 35 L (vl b :: vl a :: st) H Q ↔ Go 46 36 L (vl (a * b) :: st) H Q := G_lmul fX4_fitsOnePrime_35
theorem fX4_fitsOnePrime_36 : ft 46 36 = some (.ldc2_w 44, 0, 0, 168, .long (998244353)) := by decide +kernel
theorem gX4_fitsOnePrime_36 {L : List (Option Value)} {st : List Value} {H : HP} {Q : Option Value → HP → Prop} : Go 46 36 L st H Q ↔ Go 46 39 L (vl (998244353) :: st) H Q := G_ldcl fX4_fitsOnePrime_36 (by decide +kernel)
theorem fX4_fitsOnePrime_39 : ft 46 39 = some (.lcmp, 0, 0, 0, .null) := by decide +kernel
theorem fX4_fitsOnePrime_39' : ft 46 40 = some (.ifCond .ge 7, 0, 0, 0, .null) := by decide +kernel
theorem gX4_fitsOnePrime_39T {L : List (Option Value)} {a b : Int} (c : (-9223372036854775808 ≤ a ∧ a ≤ 9223372036854775807 ∧ -9223372036854775808 ≤ b ∧ b ≤ 9223372036854775807) ∧ b ≤ a) {st : List Value} {H : HP} {Q : Option Value → HP → Prop} : Go 46 39 L (vl b :: vl a :: st) H Q ↔ Go 46 47 L st H Q := G_lcT fX4_fitsOnePrime_39 fX4_fitsOnePrime_39' (by decide) c
theorem gX4_fitsOnePrime_39F {L : List (Option Value)} {a b : Int} (c : (-9223372036854775808 ≤ a ∧ a ≤ 9223372036854775807 ∧ -9223372036854775808 ≤ b ∧ b ≤ 9223372036854775807) ∧ ¬ (b ≤ a)) {st : List Value} {H : HP} {Q : Option Value → HP → Prop} : Go 46 39 L (vl b :: vl a :: st) H Q ↔ Go 46 43 L st H Q := G_lcF (tg := 47) fX4_fitsOnePrime_39 fX4_fitsOnePrime_39' (by decide) c
theorem fX4_fitsOnePrime_40 : ft 46 40 = some (.ifCond .ge 7, 0, 0, 0, .null) := by decide +kernel
theorem gX4_fitsOnePrime_40T {L : List (Option Value)} {a : Int} (c : (-2147483648 ≤ a ∧ a ≤ 2147483647) ∧ 0 ≤ a) {st : List Value} {H : HP} {Q : Option Value → HP → Prop} : Go 46 40 L (vi a :: st) H Q ↔ Go 46 47 L st H Q := G_ifT fX4_fitsOnePrime_40 (by decide) c
theorem gX4_fitsOnePrime_40F {L : List (Option Value)} {a : Int} (c : (-2147483648 ≤ a ∧ a ≤ 2147483647) ∧ ¬ (0 ≤ a)) {st : List Value} {H : HP} {Q : Option Value → HP → Prop} : Go 46 40 L (vi a :: st) H Q ↔ Go 46 43 L st H Q := G_ifF (tg := 47) fX4_fitsOnePrime_40 (by decide) c
theorem fX4_fitsOnePrime_43 : ft 46 43 = some (.iconst 1, 0, 0, 0, .null) := by decide +kernel
theorem gX4_fitsOnePrime_43 {L : List (Option Value)} {st : List Value} {H : HP} {Q : Option Value → HP → Prop} : Go 46 43 L st H Q ↔ Go 46 44 L (vi 1 :: st) H Q := G_iconst fX4_fitsOnePrime_43
theorem fX4_fitsOnePrime_44 : ft 46 44 = some (.goto 4, 0, 0, 0, .null) := by decide +kernel
theorem gX4_fitsOnePrime_44 {L : List (Option Value)} {st : List Value} {H : HP} {Q : Option Value → HP → Prop} : Go 46 44 L st H Q ↔ Go 46 48 L st H Q := G_goto fX4_fitsOnePrime_44 (by decide)
theorem fX4_fitsOnePrime_47 : ft 46 47 = some (.iconst 0, 0, 0, 0, .null) := by decide +kernel
theorem gX4_fitsOnePrime_47 {L : List (Option Value)} {st : List Value} {H : HP} {Q : Option Value → HP → Prop} : Go 46 47 L st H Q ↔ Go 46 48 L (vi 0 :: st) H Q := G_iconst fX4_fitsOnePrime_47
theorem fX4_fitsOnePrime_48 : ft 46 48 = some (.ireturn, 0, 0, 0, .null) := by decide +kernel
theorem gX4_fitsOnePrime_48 {L : List (Option Value)} {a : Int} (c : a = 0 ∨ a = 1) {H : HP} {Q : Option Value → HP → Prop} : Go 46 48 L [vi a] H Q ↔ Q (some (vi a)) H := G_zret fX4_fitsOnePrime_48 (by decide +kernel) c
theorem fX4_byOnePrime_0 : ft 47 0 = some (.aload_n 0, 0, 0, 0, .null) := by decide +kernel
theorem gX4_byOnePrime_0 {l1 l2 l3 l4 l5 : Option Value} {u : Nat} {st : List Value} {H : HP} {Q : Option Value → HP → Prop} : Go 47 0 [some (.ref u), l1, l2, l3, l4, l5] st H Q ↔ Go 47 1 [some (.ref u), l1, l2, l3, l4, l5] (.ref u :: st) H Q := G_aload_n fX4_byOnePrime_0 rfl
theorem fX4_byOnePrime_1 : ft 47 1 = some (.getfield 34, 4, 4, 197, .null) := by decide +kernel
theorem gX4_byOnePrime_1 {L : List (Option Value)} {p : Nat} {st : List Value} {H : HP} {Q : Option Value → HP → Prop} : Go 47 1 L (.ref p :: st) H Q ↔ Rd (gF' 4 4 (hget H p)) 47 4 L st H Q := G_getf fX4_byOnePrime_1 ⟨rfl, rfl⟩
theorem fX4_byOnePrime_4 : ft 47 4 = some (.aload_n 1, 0, 0, 0, .null) := by decide +kernel
theorem gX4_byOnePrime_4 {l0 l2 l3 l4 l5 : Option Value} {u : Nat} {st : List Value} {H : HP} {Q : Option Value → HP → Prop} : Go 47 4 [l0, some (.ref u), l2, l3, l4, l5] st H Q ↔ Go 47 5 [l0, some (.ref u), l2, l3, l4, l5] (.ref u :: st) H Q := G_aload_n fX4_byOnePrime_4 rfl
theorem fX4_byOnePrime_5 : ft 47 5 = some (.aload_n 2, 0, 0, 0, .null) := by decide +kernel
theorem gX4_byOnePrime_5 {l0 l1 l3 l4 l5 : Option Value} {u : Nat} {st : List Value} {H : HP} {Q : Option Value → HP → Prop} : Go 47 5 [l0, l1, some (.ref u), l3, l4, l5] st H Q ↔ Go 47 6 [l0, l1, some (.ref u), l3, l4, l5] (.ref u :: st) H Q := G_aload_n fX4_byOnePrime_5 rfl
theorem fX4_byOnePrime_6 : ft 47 6 = some (.invokevirtual 103, 13, 0, 482, .null) := by decide +kernel
theorem gX4_byOnePrime_6 {L : List (Option Value)} {p : Nat} {a0 : Nat} {a1 : Nat}  {H : HP} {Q : Option Value → HP → Prop} : Go 47 6 L (.ref a1 :: .ref a0 :: .ref p :: []) H Q ↔ (iso 1 (hget H p) = true ∧ Go 13 0 [some (.ref p), some (.ref a0), some (.ref a1), none, none, none, none, none, none] [] H (Cont 47 9 L [] Q)) := G_cV (n := 2) (N := 9) (as := [.ref a1, .ref a0]) (st := []) fX4_byOnePrime_6 (by decide +kernel) rfl (Nat.le_of_ble_eq_true rfl) (Nat.le_of_ble_eq_true rfl) rfl
theorem fX4_byOnePrime_9 : ft 47 9 = some (.aload_n 0, 0, 0, 0, .null) := by decide +kernel
theorem gX4_byOnePrime_9 {l1 l2 l3 l4 l5 : Option Value} {u : Nat} {st : List Value} {H : HP} {Q : Option Value → HP → Prop} : Go 47 9 [some (.ref u), l1, l2, l3, l4, l5] st H Q ↔ Go 47 10 [some (.ref u), l1, l2, l3, l4, l5] (.ref u :: st) H Q := G_aload_n fX4_byOnePrime_9 rfl
theorem fX4_byOnePrime_10 : ft 47 10 = some (.aload_n 1, 0, 0, 0, .null) := by decide +kernel
theorem gX4_byOnePrime_10 {l0 l2 l3 l4 l5 : Option Value} {u : Nat} {st : List Value} {H : HP} {Q : Option Value → HP → Prop} : Go 47 10 [l0, some (.ref u), l2, l3, l4, l5] st H Q ↔ Go 47 11 [l0, some (.ref u), l2, l3, l4, l5] (.ref u :: st) H Q := G_aload_n fX4_byOnePrime_10 rfl
theorem fX4_byOnePrime_11 : ft 47 11 = some (.invokevirtual 68, 55, 0, 454, .null) := by decide +kernel
theorem gX4_byOnePrime_11 {L : List (Option Value)} {p : Nat}  {r0 : Nat} {H : HP} {Q : Option Value → HP → Prop} : Go 47 11 L (.ref p :: [.ref r0]) H Q ↔ (iso 5 (hget H p) = true ∧ Go 55 0 [some (.ref p)] [] H (Cont 47 14 L [.ref r0] Q)) := G_cV (n := 0) (N := 1) (as := []) (st := [.ref r0]) fX4_byOnePrime_11 (by decide +kernel) rfl (Nat.le_of_ble_eq_true rfl) (Nat.le_of_ble_eq_true rfl) rfl
theorem fX4_byOnePrime_14 : ft 47 14 = some (.aload_n 2, 0, 0, 0, .null) := by decide +kernel
theorem gX4_byOnePrime_14 {l0 l1 l3 l4 l5 : Option Value} {u : Nat} {st : List Value} {H : HP} {Q : Option Value → HP → Prop} : Go 47 14 [l0, l1, some (.ref u), l3, l4, l5] st H Q ↔ Go 47 15 [l0, l1, some (.ref u), l3, l4, l5] (.ref u :: st) H Q := G_aload_n fX4_byOnePrime_14 rfl
theorem fX4_byOnePrime_15 : ft 47 15 = some (.invokevirtual 68, 55, 0, 454, .null) := by decide +kernel
theorem gX4_byOnePrime_15 {L : List (Option Value)} {p : Nat}  {r0 : Int32} {r1 : Nat} {H : HP} {Q : Option Value → HP → Prop} : Go 47 15 L (.ref p :: [.int r0, .ref r1]) H Q ↔ (iso 5 (hget H p) = true ∧ Go 55 0 [some (.ref p)] [] H (Cont 47 18 L [.int r0, .ref r1] Q)) := G_cV (n := 0) (N := 1) (as := []) (st := [.int r0, .ref r1]) fX4_byOnePrime_15 (by decide +kernel) rfl (Nat.le_of_ble_eq_true rfl) (Nat.le_of_ble_eq_true rfl) rfl
theorem fX4_byOnePrime_18 : ft 47 18 = some (.iadd, 0, 0, 0, .null) := by decide +kernel
theorem gX4_byOnePrime_18 {L : List (Option Value)} {a b : Int} {st : List Value} {H : HP} {Q : Option Value → HP → Prop} : Go 47 18 L (vi b :: vi a :: st) H Q ↔ Go 47 19 L (vi (a + b) :: st) H Q := G_iadd fX4_byOnePrime_18
theorem fX4_byOnePrime_19 : ft 47 19 = some (.iconst 1, 0, 0, 0, .null) := by decide +kernel
theorem gX4_byOnePrime_19 {L : List (Option Value)} {st : List Value} {H : HP} {Q : Option Value → HP → Prop} : Go 47 19 L st H Q ↔ Go 47 20 L (vi 1 :: st) H Q := G_iconst fX4_byOnePrime_19
theorem fX4_byOnePrime_20 : ft 47 20 = some (.isub, 0, 0, 0, .null) := by decide +kernel
theorem gX4_byOnePrime_20 {L : List (Option Value)} {a b : Int} {st : List Value} {H : HP} {Q : Option Value → HP → Prop} : Go 47 20 L (vi b :: vi a :: st) H Q ↔ Go 47 21 L (vi (a - b) :: st) H Q := G_isub fX4_byOnePrime_20
theorem fX4_byOnePrime_21 : ft 47 21 = some (.putfield 18, 4, 2, 194, .null) := by decide +kernel
theorem gX4_byOnePrime_21 {L : List (Option Value)} {p : Nat} {u : Int32} (hp : p ≠ 0) {st : List Value} {H : HP} {Q : Option Value → HP → Prop} : Go 47 21 L (.int u :: .ref p :: st) H Q ↔ Wr (pF' 4 2 (hget H p) (.int u)) p 47 24 L st H Q := G_putf fX4_byOnePrime_21 ⟨⟨rfl, rfl⟩, rfl, Or.inl rfl⟩ hp
theorem fX4_byOnePrime_24 : ft 47 24 = some (.iconst 0, 0, 0, 0, .null) := by decide +kernel
theorem gX4_byOnePrime_24 {L : List (Option Value)} {st : List Value} {H : HP} {Q : Option Value → HP → Prop} : Go 47 24 L st H Q ↔ Go 47 25 L (vi 0 :: st) H Q := G_iconst fX4_byOnePrime_24
theorem fX4_byOnePrime_25 : ft 47 25 = some (.istore_n 3, 0, 0, 0, .null) := by decide +kernel
theorem gX4_byOnePrime_25 {l0 l1 l2 l3 l4 l5 : Option Value} {u : Int32} {st : List Value} {H : HP} {Q : Option Value → HP → Prop} : Go 47 25 [l0, l1, l2, l3, l4, l5] (.int u :: st) H Q ↔ Go 47 26 [l0, l1, l2, some (.int u), l4, l5] st H Q := G_istore_n fX4_byOnePrime_25 rfl
theorem fX4_byOnePrime_26 : ft 47 26 = some (.iload_n 3, 0, 0, 0, .null) := by decide +kernel
theorem gX4_byOnePrime_26 {l0 l1 l2 l4 l5 : Option Value} {u : Int32} {st : List Value} {H : HP} {Q : Option Value → HP → Prop} : Go 47 26 [l0, l1, l2, some (.int u), l4, l5] st H Q ↔ Go 47 27 [l0, l1, l2, some (.int u), l4, l5] (.int u :: st) H Q := G_iload_n fX4_byOnePrime_26 rfl
theorem fX4_byOnePrime_27 : ft 47 27 = some (.aload_n 0, 0, 0, 0, .null) := by decide +kernel
theorem gX4_byOnePrime_27 {l1 l2 l3 l4 l5 : Option Value} {u : Nat} {st : List Value} {H : HP} {Q : Option Value → HP → Prop} : Go 47 27 [some (.ref u), l1, l2, l3, l4, l5] st H Q ↔ Go 47 28 [some (.ref u), l1, l2, l3, l4, l5] (.ref u :: st) H Q := G_aload_n fX4_byOnePrime_27 rfl
theorem fX4_byOnePrime_28 : ft 47 28 = some (.getfield 18, 4, 2, 194, .null) := by decide +kernel
theorem gX4_byOnePrime_28 {L : List (Option Value)} {p : Nat} {st : List Value} {H : HP} {Q : Option Value → HP → Prop} : Go 47 28 L (.ref p :: st) H Q ↔ Rd (gF' 4 2 (hget H p)) 47 31 L st H Q := G_getf fX4_byOnePrime_28 ⟨rfl, rfl⟩
theorem fX4_byOnePrime_31 : ft 47 31 = some (.if_icmp .ge 59, 0, 0, 0, .null) := by decide +kernel
theorem gX4_byOnePrime_31T {L : List (Option Value)} {a b : Int} (c : (-2147483648 ≤ a ∧ a ≤ 2147483647 ∧ -2147483648 ≤ b ∧ b ≤ 2147483647) ∧ b ≤ a) {st : List Value} {H : HP} {Q : Option Value → HP → Prop} : Go 47 31 L (vi b :: vi a :: st) H Q ↔ Go 47 90 L st H Q := G_icT fX4_byOnePrime_31 (by decide) c
theorem gX4_byOnePrime_31F {L : List (Option Value)} {a b : Int} (c : (-2147483648 ≤ a ∧ a ≤ 2147483647 ∧ -2147483648 ≤ b ∧ b ≤ 2147483647) ∧ ¬ (b ≤ a)) {st : List Value} {H : HP} {Q : Option Value → HP → Prop} : Go 47 31 L (vi b :: vi a :: st) H Q ↔ Go 47 34 L st H Q := G_icF (tg := 90) fX4_byOnePrime_31 (by decide) c
theorem fX4_byOnePrime_34 : ft 47 34 = some (.aload_n 0, 0, 0, 0, .null) := by decide +kernel
theorem gX4_byOnePrime_34 {l1 l2 l3 l4 l5 : Option Value} {u : Nat} {st : List Value} {H : HP} {Q : Option Value → HP → Prop} : Go 47 34 [some (.ref u), l1, l2, l3, l4, l5] st H Q ↔ Go 47 35 [some (.ref u), l1, l2, l3, l4, l5] (.ref u :: st) H Q := G_aload_n fX4_byOnePrime_34 rfl
theorem fX4_byOnePrime_35 : ft 47 35 = some (.getfield 34, 4, 4, 197, .null) := by decide +kernel
theorem gX4_byOnePrime_35 {L : List (Option Value)} {p : Nat} {st : List Value} {H : HP} {Q : Option Value → HP → Prop} : Go 47 35 L (.ref p :: st) H Q ↔ Rd (gF' 4 4 (hget H p)) 47 38 L st H Q := G_getf fX4_byOnePrime_35 ⟨rfl, rfl⟩
theorem fX4_byOnePrime_38 : ft 47 38 = some (.getfield 107, 1, 1, 159, .null) := by decide +kernel
theorem gX4_byOnePrime_38 {L : List (Option Value)} {p : Nat} {st : List Value} {H : HP} {Q : Option Value → HP → Prop} : Go 47 38 L (.ref p :: st) H Q ↔ Rd (gF' 1 1 (hget H p)) 47 41 L st H Q := G_getf fX4_byOnePrime_38 ⟨rfl, rfl⟩
theorem fX4_byOnePrime_41 : ft 47 41 = some (.iload_n 3, 0, 0, 0, .null) := by decide +kernel
theorem gX4_byOnePrime_41 {l0 l1 l2 l4 l5 : Option Value} {u : Int32} {st : List Value} {H : HP} {Q : Option Value → HP → Prop} : Go 47 41 [l0, l1, l2, some (.int u), l4, l5] st H Q ↔ Go 47 42 [l0, l1, l2, some (.int u), l4, l5] (.int u :: st) H Q := G_iload_n fX4_byOnePrime_41 rfl
theorem fX4_byOnePrime_42 : ft 47 42 = some (.laload, 0, 0, 0, .null) := by decide +kernel
theorem gX4_byOnePrime_42 {L : List (Option Value)} {p : Nat} {a : Int} {st : List Value} {H : HP} {Q : Option Value → HP → Prop} : Go 47 42 L (vi a :: .ref p :: st) H Q ↔ Rd (aL' (hget H p) a) 47 43 L st H Q := G_lald fX4_byOnePrime_42
theorem fX4_byOnePrime_43 : ft 47 43 = some (.lstore 4, 0, 0, 0, .null) := by decide +kernel
theorem gX4_byOnePrime_43 {l0 l1 l2 l3 l4 l5 : Option Value} {u : Int64} {st : List Value} {H : HP} {Q : Option Value → HP → Prop} : Go 47 43 [l0, l1, l2, l3, l4, l5] (.long u :: st) H Q ↔ Go 47 45 [l0, l1, l2, l3, some (.long u), none] st H Q := G_lstore fX4_byOnePrime_43 rfl
theorem fX4_byOnePrime_45 : ft 47 45 = some (.aload_n 0, 0, 0, 0, .null) := by decide +kernel
theorem gX4_byOnePrime_45 {l1 l2 l3 l4 l5 : Option Value} {u : Nat} {st : List Value} {H : HP} {Q : Option Value → HP → Prop} : Go 47 45 [some (.ref u), l1, l2, l3, l4, l5] st H Q ↔ Go 47 46 [some (.ref u), l1, l2, l3, l4, l5] (.ref u :: st) H Q := G_aload_n fX4_byOnePrime_45 rfl
theorem fX4_byOnePrime_46 : ft 47 46 = some (.getfield 25, 4, 3, 196, .null) := by decide +kernel
theorem gX4_byOnePrime_46 {L : List (Option Value)} {p : Nat} {st : List Value} {H : HP} {Q : Option Value → HP → Prop} : Go 47 46 L (.ref p :: st) H Q ↔ Rd (gF' 4 3 (hget H p)) 47 49 L st H Q := G_getf fX4_byOnePrime_46 ⟨rfl, rfl⟩
theorem fX4_byOnePrime_49 : ft 47 49 = some (.invokevirtual 74, 64, 0, 460, .null) := by decide +kernel
theorem gX4_byOnePrime_49 {L : List (Option Value)} {p : Nat}   {H : HP} {Q : Option Value → HP → Prop} : Go 47 49 L (.ref p :: []) H Q ↔ (iso 7 (hget H p) = true ∧ Go 64 0 [some (.ref p)] [] H (Cont 47 52 L [] Q)) := G_cV (n := 0) (N := 1) (as := []) (st := []) fX4_byOnePrime_49 (by decide +kernel) rfl (Nat.le_of_ble_eq_true rfl) (Nat.le_of_ble_eq_true rfl) rfl
theorem fX4_byOnePrime_52 : ft 47 52 = some (.aload_n 0, 0, 0, 0, .null) := by decide +kernel
theorem gX4_byOnePrime_52 {l1 l2 l3 l4 l5 : Option Value} {u : Nat} {st : List Value} {H : HP} {Q : Option Value → HP → Prop} : Go 47 52 [some (.ref u), l1, l2, l3, l4, l5] st H Q ↔ Go 47 53 [some (.ref u), l1, l2, l3, l4, l5] (.ref u :: st) H Q := G_aload_n fX4_byOnePrime_52 rfl
theorem fX4_byOnePrime_53 : ft 47 53 = some (.getfield 25, 4, 3, 196, .null) := by decide +kernel
theorem gX4_byOnePrime_53 {L : List (Option Value)} {p : Nat} {st : List Value} {H : HP} {Q : Option Value → HP → Prop} : Go 47 53 L (.ref p :: st) H Q ↔ Rd (gF' 4 3 (hget H p)) 47 56 L st H Q := G_getf fX4_byOnePrime_53 ⟨rfl, rfl⟩
theorem fX4_byOnePrime_56 : ft 47 56 = some (.lload 4, 0, 0, 0, .null) := by decide +kernel
theorem gX4_byOnePrime_56 {l0 l1 l2 l3 : Option Value} {u : Int64} {st : List Value} {H : HP} {Q : Option Value → HP → Prop} : Go 47 56 [l0, l1, l2, l3, some (.long u), none] st H Q ↔ Go 47 58 [l0, l1, l2, l3, some (.long u), none] (.long u :: st) H Q := G_lload fX4_byOnePrime_56 rfl
theorem fX4_byOnePrime_58 : ft 47 58 = some (.ldc2_w 110, 0, 0, 511, .long (499122176)) := by decide +kernel
theorem gX4_byOnePrime_58 {L : List (Option Value)} {st : List Value} {H : HP} {Q : Option Value → HP → Prop} : Go 47 58 L st H Q ↔ Go 47 61 L (vl (499122176) :: st) H Q := G_ldcl fX4_byOnePrime_58 (by decide +kernel)
theorem fX4_byOnePrime_61 : ft 47 61 = some (.lcmp, 0, 0, 0, .null) := by decide +kernel
theorem fX4_byOnePrime_61' : ft 47 62 = some (.ifCond .le 12, 0, 0, 0, .null) := by decide +kernel
theorem gX4_byOnePrime_61T {L : List (Option Value)} {a b : Int} (c : (-9223372036854775808 ≤ a ∧ a ≤ 9223372036854775807 ∧ -9223372036854775808 ≤ b ∧ b ≤ 9223372036854775807) ∧ a ≤ b) {st : List Value} {H : HP} {Q : Option Value → HP → Prop} : Go 47 61 L (vl b :: vl a :: st) H Q ↔ Go 47 74 L st H Q := G_lcT fX4_byOnePrime_61 fX4_byOnePrime_61' (by decide) c
theorem gX4_byOnePrime_61F {L : List (Option Value)} {a b : Int} (c : (-9223372036854775808 ≤ a ∧ a ≤ 9223372036854775807 ∧ -9223372036854775808 ≤ b ∧ b ≤ 9223372036854775807) ∧ ¬ (a ≤ b)) {st : List Value} {H : HP} {Q : Option Value → HP → Prop} : Go 47 61 L (vl b :: vl a :: st) H Q ↔ Go 47 65 L st H Q := G_lcF (tg := 74) fX4_byOnePrime_61 fX4_byOnePrime_61' (by decide) c
theorem fX4_byOnePrime_62 : ft 47 62 = some (.ifCond .le 12, 0, 0, 0, .null) := by decide +kernel
theorem gX4_byOnePrime_62T {L : List (Option Value)} {a : Int} (c : (-2147483648 ≤ a ∧ a ≤ 2147483647) ∧ a ≤ 0) {st : List Value} {H : HP} {Q : Option Value → HP → Prop} : Go 47 62 L (vi a :: st) H Q ↔ Go 47 74 L st H Q := G_ifT fX4_byOnePrime_62 (by decide) c
theorem gX4_byOnePrime_62F {L : List (Option Value)} {a : Int} (c : (-2147483648 ≤ a ∧ a ≤ 2147483647) ∧ ¬ (a ≤ 0)) {st : List Value} {H : HP} {Q : Option Value → HP → Prop} : Go 47 62 L (vi a :: st) H Q ↔ Go 47 65 L st H Q := G_ifF (tg := 74) fX4_byOnePrime_62 (by decide) c
theorem fX4_byOnePrime_65 : ft 47 65 = some (.lload 4, 0, 0, 0, .null) := by decide +kernel
theorem gX4_byOnePrime_65 {l0 l1 l2 l3 : Option Value} {u : Int64} {st : List Value} {H : HP} {Q : Option Value → HP → Prop} : Go 47 65 [l0, l1, l2, l3, some (.long u), none] st H Q ↔ Go 47 67 [l0, l1, l2, l3, some (.long u), none] (.long u :: st) H Q := G_lload fX4_byOnePrime_65 rfl
theorem fX4_byOnePrime_67 : ft 47 67 = some (.ldc2_w 44, 0, 0, 168, .long (998244353)) := by decide +kernel
theorem gX4_byOnePrime_67 {L : List (Option Value)} {st : List Value} {H : HP} {Q : Option Value → HP → Prop} : Go 47 67 L st H Q ↔ Go 47 70 L (vl (998244353) :: st) H Q := G_ldcl fX4_byOnePrime_67 (by decide +kernel)
theorem fX4_byOnePrime_70 : ft 47 70 = some (.lsub, 0, 0, 0, .null) := by decide +kernel
theorem gX4_byOnePrime_70 {L : List (Option Value)} {a b : Int} {st : List Value} {H : HP} {Q : Option Value → HP → Prop} : Go 47 70 L (vl b :: vl a :: st) H Q ↔ Go 47 71 L (vl (a - b) :: st) H Q := G_lsub fX4_byOnePrime_70
theorem fX4_byOnePrime_71 : ft 47 71 = some (.goto 5, 0, 0, 0, .null) := by decide +kernel
theorem gX4_byOnePrime_71 {L : List (Option Value)} {st : List Value} {H : HP} {Q : Option Value → HP → Prop} : Go 47 71 L st H Q ↔ Go 47 76 L st H Q := G_goto fX4_byOnePrime_71 (by decide)
theorem fX4_byOnePrime_74 : ft 47 74 = some (.lload 4, 0, 0, 0, .null) := by decide +kernel
theorem gX4_byOnePrime_74 {l0 l1 l2 l3 : Option Value} {u : Int64} {st : List Value} {H : HP} {Q : Option Value → HP → Prop} : Go 47 74 [l0, l1, l2, l3, some (.long u), none] st H Q ↔ Go 47 76 [l0, l1, l2, l3, some (.long u), none] (.long u :: st) H Q := G_lload fX4_byOnePrime_74 rfl
theorem fX4_byOnePrime_76 : ft 47 76 = some (.invokevirtual 86, 65, 0, 465, .null) := by decide +kernel
theorem gX4_byOnePrime_76 {L : List (Option Value)} {p : Nat} {a0 : Int64}  {H : HP} {Q : Option Value → HP → Prop} : Go 47 76 L (.long a0 :: .ref p :: []) H Q ↔ (iso 7 (hget H p) = true ∧ Go 65 0 [some (.ref p), some (.long a0), none] [] H (Cont 47 79 L [] Q)) := G_cV (n := 1) (N := 3) (as := [.long a0]) (st := []) fX4_byOnePrime_76 (by decide +kernel) rfl (Nat.le_of_ble_eq_true rfl) (Nat.le_of_ble_eq_true rfl) rfl
theorem fX4_byOnePrime_79 : ft 47 79 = some (.aload_n 0, 0, 0, 0, .null) := by decide +kernel
theorem gX4_byOnePrime_79 {l1 l2 l3 l4 l5 : Option Value} {u : Nat} {st : List Value} {H : HP} {Q : Option Value → HP → Prop} : Go 47 79 [some (.ref u), l1, l2, l3, l4, l5] st H Q ↔ Go 47 80 [some (.ref u), l1, l2, l3, l4, l5] (.ref u :: st) H Q := G_aload_n fX4_byOnePrime_79 rfl
theorem fX4_byOnePrime_80 : ft 47 80 = some (.iload_n 3, 0, 0, 0, .null) := by decide +kernel
theorem gX4_byOnePrime_80 {l0 l1 l2 l4 l5 : Option Value} {u : Int32} {st : List Value} {H : HP} {Q : Option Value → HP → Prop} : Go 47 80 [l0, l1, l2, some (.int u), l4, l5] st H Q ↔ Go 47 81 [l0, l1, l2, some (.int u), l4, l5] (.int u :: st) H Q := G_iload_n fX4_byOnePrime_80 rfl
theorem fX4_byOnePrime_81 : ft 47 81 = some (.invokevirtual 90, 44, 0, 474, .null) := by decide +kernel
theorem gX4_byOnePrime_81 {L : List (Option Value)} {p : Nat} {a0 : Int32}  {H : HP} {Q : Option Value → HP → Prop} : Go 47 81 L (.int a0 :: .ref p :: []) H Q ↔ (iso 4 (hget H p) = true ∧ Go 44 0 [some (.ref p), some (.int a0)] [] H (Cont 47 84 L [] Q)) := G_cV (n := 1) (N := 2) (as := [.int a0]) (st := []) fX4_byOnePrime_81 (by decide +kernel) rfl (Nat.le_of_ble_eq_true rfl) (Nat.le_of_ble_eq_true rfl) rfl
theorem fX4_byOnePrime_84 : ft 47 84 = some (.iinc 3 1, 0, 0, 0, .null) := by decide +kernel
theorem gX4_byOnePrime_84 {l0 l1 l2 l4 l5 : Option Value} {a : Int} {st : List Value} {H : HP} {Q : Option Value → HP → Prop} : Go 47 84 [l0, l1, l2, some (vi a), l4, l5] st H Q ↔ Go 47 87 [l0, l1, l2, some (vi (a + 1)), l4, l5] st H Q := G_iinc fX4_byOnePrime_84 rfl rfl
theorem fX4_byOnePrime_87 : ft 47 87 = some (.goto (-61), 0, 0, 0, .null) := by decide +kernel
theorem gX4_byOnePrime_87 {L : List (Option Value)} {st : List Value} {H : HP} {Q : Option Value → HP → Prop} : Go 47 87 L st H Q ↔ Go 47 26 L st H Q := G_goto fX4_byOnePrime_87 (by decide)
theorem fX4_byOnePrime_90 : ft 47 90 = some (.return_, 0, 0, 0, .null) := by decide +kernel
theorem gX4_byOnePrime_90 {L : List (Option Value)} {H : HP} {Q : Option Value → HP → Prop} : Go 47 90 L [] H Q ↔ Q none H := G_vret fX4_byOnePrime_90 (by decide +kernel)
theorem fX4_byThreePrimes_0 : ft 48 0 = some (.aload_n 0, 0, 0, 0, .null) := by decide +kernel
theorem gX4_byThreePrimes_0 {l1 l2 l3 : Option Value} {u : Nat} {st : List Value} {H : HP} {Q : Option Value → HP → Prop} : Go 48 0 [some (.ref u), l1, l2, l3] st H Q ↔ Go 48 1 [some (.ref u), l1, l2, l3] (.ref u :: st) H Q := G_aload_n fX4_byThreePrimes_0 rfl
theorem fX4_byThreePrimes_1 : ft 48 1 = some (.getfield 34, 4, 4, 197, .null) := by decide +kernel
theorem gX4_byThreePrimes_1 {L : List (Option Value)} {p : Nat} {st : List Value} {H : HP} {Q : Option Value → HP → Prop} : Go 48 1 L (.ref p :: st) H Q ↔ Rd (gF' 4 4 (hget H p)) 48 4 L st H Q := G_getf fX4_byThreePrimes_1 ⟨rfl, rfl⟩
theorem fX4_byThreePrimes_4 : ft 48 4 = some (.aload_n 1, 0, 0, 0, .null) := by decide +kernel
theorem gX4_byThreePrimes_4 {l0 l2 l3 : Option Value} {u : Nat} {st : List Value} {H : HP} {Q : Option Value → HP → Prop} : Go 48 4 [l0, some (.ref u), l2, l3] st H Q ↔ Go 48 5 [l0, some (.ref u), l2, l3] (.ref u :: st) H Q := G_aload_n fX4_byThreePrimes_4 rfl
theorem fX4_byThreePrimes_5 : ft 48 5 = some (.aload_n 2, 0, 0, 0, .null) := by decide +kernel
theorem gX4_byThreePrimes_5 {l0 l1 l3 : Option Value} {u : Nat} {st : List Value} {H : HP} {Q : Option Value → HP → Prop} : Go 48 5 [l0, l1, some (.ref u), l3] st H Q ↔ Go 48 6 [l0, l1, some (.ref u), l3] (.ref u :: st) H Q := G_aload_n fX4_byThreePrimes_5 rfl
theorem fX4_byThreePrimes_6 : ft 48 6 = some (.invokevirtual 103, 13, 0, 482, .null) := by decide +kernel
theorem gX4_byThreePrimes_6 {L : List (Option Value)} {p : Nat} {a0 : Nat} {a1 : Nat}  {H : HP} {Q : Option Value → HP → Prop} : Go 48 6 L (.ref a1 :: .ref a0 :: .ref p :: []) H Q ↔ (iso 1 (hget H p) = true ∧ Go 13 0 [some (.ref p), some (.ref a0), some (.ref a1), none, none, none, none, none, none] [] H (Cont 48 9 L [] Q)) := G_cV (n := 2) (N := 9) (as := [.ref a1, .ref a0]) (st := []) fX4_byThreePrimes_6 (by decide +kernel) rfl (Nat.le_of_ble_eq_true rfl) (Nat.le_of_ble_eq_true rfl) rfl
theorem fX4_byThreePrimes_9 : ft 48 9 = some (.aload_n 0, 0, 0, 0, .null) := by decide +kernel
theorem gX4_byThreePrimes_9 {l1 l2 l3 : Option Value} {u : Nat} {st : List Value} {H : HP} {Q : Option Value → HP → Prop} : Go 48 9 [some (.ref u), l1, l2, l3] st H Q ↔ Go 48 10 [some (.ref u), l1, l2, l3] (.ref u :: st) H Q := G_aload_n fX4_byThreePrimes_9 rfl
theorem fX4_byThreePrimes_10 : ft 48 10 = some (.getfield 38, 4, 5, 198, .null) := by decide +kernel
theorem gX4_byThreePrimes_10 {L : List (Option Value)} {p : Nat} {st : List Value} {H : HP} {Q : Option Value → HP → Prop} : Go 48 10 L (.ref p :: st) H Q ↔ Rd (gF' 4 5 (hget H p)) 48 13 L st H Q := G_getf fX4_byThreePrimes_10 ⟨rfl, rfl⟩
theorem fX4_byThreePrimes_13 : ft 48 13 = some (.aload_n 1, 0, 0, 0, .null) := by decide +kernel
theorem gX4_byThreePrimes_13 {l0 l2 l3 : Option Value} {u : Nat} {st : List Value} {H : HP} {Q : Option Value → HP → Prop} : Go 48 13 [l0, some (.ref u), l2, l3] st H Q ↔ Go 48 14 [l0, some (.ref u), l2, l3] (.ref u :: st) H Q := G_aload_n fX4_byThreePrimes_13 rfl
theorem fX4_byThreePrimes_14 : ft 48 14 = some (.aload_n 2, 0, 0, 0, .null) := by decide +kernel
theorem gX4_byThreePrimes_14 {l0 l1 l3 : Option Value} {u : Nat} {st : List Value} {H : HP} {Q : Option Value → HP → Prop} : Go 48 14 [l0, l1, some (.ref u), l3] st H Q ↔ Go 48 15 [l0, l1, some (.ref u), l3] (.ref u :: st) H Q := G_aload_n fX4_byThreePrimes_14 rfl
theorem fX4_byThreePrimes_15 : ft 48 15 = some (.invokevirtual 103, 13, 0, 482, .null) := by decide +kernel
theorem gX4_byThreePrimes_15 {L : List (Option Value)} {p : Nat} {a0 : Nat} {a1 : Nat}  {H : HP} {Q : Option Value → HP → Prop} : Go 48 15 L (.ref a1 :: .ref a0 :: .ref p :: []) H Q ↔ (iso 1 (hget H p) = true ∧ Go 13 0 [some (.ref p), some (.ref a0), some (.ref a1), none, none, none, none, none, none] [] H (Cont 48 18 L [] Q)) := G_cV (n := 2) (N := 9) (as := [.ref a1, .ref a0]) (st := []) fX4_byThreePrimes_15 (by decide +kernel) rfl (Nat.le_of_ble_eq_true rfl) (Nat.le_of_ble_eq_true rfl) rfl
theorem fX4_byThreePrimes_18 : ft 48 18 = some (.aload_n 0, 0, 0, 0, .null) := by decide +kernel
theorem gX4_byThreePrimes_18 {l1 l2 l3 : Option Value} {u : Nat} {st : List Value} {H : HP} {Q : Option Value → HP → Prop} : Go 48 18 [some (.ref u), l1, l2, l3] st H Q ↔ Go 48 19 [some (.ref u), l1, l2, l3] (.ref u :: st) H Q := G_aload_n fX4_byThreePrimes_18 rfl
theorem fX4_byThreePrimes_19 : ft 48 19 = some (.getfield 41, 4, 6, 199, .null) := by decide +kernel
theorem gX4_byThreePrimes_19 {L : List (Option Value)} {p : Nat} {st : List Value} {H : HP} {Q : Option Value → HP → Prop} : Go 48 19 L (.ref p :: st) H Q ↔ Rd (gF' 4 6 (hget H p)) 48 22 L st H Q := G_getf fX4_byThreePrimes_19 ⟨rfl, rfl⟩
theorem fX4_byThreePrimes_22 : ft 48 22 = some (.aload_n 1, 0, 0, 0, .null) := by decide +kernel
theorem gX4_byThreePrimes_22 {l0 l2 l3 : Option Value} {u : Nat} {st : List Value} {H : HP} {Q : Option Value → HP → Prop} : Go 48 22 [l0, some (.ref u), l2, l3] st H Q ↔ Go 48 23 [l0, some (.ref u), l2, l3] (.ref u :: st) H Q := G_aload_n fX4_byThreePrimes_22 rfl
theorem fX4_byThreePrimes_23 : ft 48 23 = some (.aload_n 2, 0, 0, 0, .null) := by decide +kernel
theorem gX4_byThreePrimes_23 {l0 l1 l3 : Option Value} {u : Nat} {st : List Value} {H : HP} {Q : Option Value → HP → Prop} : Go 48 23 [l0, l1, some (.ref u), l3] st H Q ↔ Go 48 24 [l0, l1, some (.ref u), l3] (.ref u :: st) H Q := G_aload_n fX4_byThreePrimes_23 rfl
theorem fX4_byThreePrimes_24 : ft 48 24 = some (.invokevirtual 103, 13, 0, 482, .null) := by decide +kernel
theorem gX4_byThreePrimes_24 {L : List (Option Value)} {p : Nat} {a0 : Nat} {a1 : Nat}  {H : HP} {Q : Option Value → HP → Prop} : Go 48 24 L (.ref a1 :: .ref a0 :: .ref p :: []) H Q ↔ (iso 1 (hget H p) = true ∧ Go 13 0 [some (.ref p), some (.ref a0), some (.ref a1), none, none, none, none, none, none] [] H (Cont 48 27 L [] Q)) := G_cV (n := 2) (N := 9) (as := [.ref a1, .ref a0]) (st := []) fX4_byThreePrimes_24 (by decide +kernel) rfl (Nat.le_of_ble_eq_true rfl) (Nat.le_of_ble_eq_true rfl) rfl
theorem fX4_byThreePrimes_27 : ft 48 27 = some (.aload_n 0, 0, 0, 0, .null) := by decide +kernel
theorem gX4_byThreePrimes_27 {l1 l2 l3 : Option Value} {u : Nat} {st : List Value} {H : HP} {Q : Option Value → HP → Prop} : Go 48 27 [some (.ref u), l1, l2, l3] st H Q ↔ Go 48 28 [some (.ref u), l1, l2, l3] (.ref u :: st) H Q := G_aload_n fX4_byThreePrimes_27 rfl
theorem fX4_byThreePrimes_28 : ft 48 28 = some (.aload_n 1, 0, 0, 0, .null) := by decide +kernel
theorem gX4_byThreePrimes_28 {l0 l2 l3 : Option Value} {u : Nat} {st : List Value} {H : HP} {Q : Option Value → HP → Prop} : Go 48 28 [l0, some (.ref u), l2, l3] st H Q ↔ Go 48 29 [l0, some (.ref u), l2, l3] (.ref u :: st) H Q := G_aload_n fX4_byThreePrimes_28 rfl
theorem fX4_byThreePrimes_29 : ft 48 29 = some (.invokevirtual 68, 55, 0, 454, .null) := by decide +kernel
theorem gX4_byThreePrimes_29 {L : List (Option Value)} {p : Nat}  {r0 : Nat} {H : HP} {Q : Option Value → HP → Prop} : Go 48 29 L (.ref p :: [.ref r0]) H Q ↔ (iso 5 (hget H p) = true ∧ Go 55 0 [some (.ref p)] [] H (Cont 48 32 L [.ref r0] Q)) := G_cV (n := 0) (N := 1) (as := []) (st := [.ref r0]) fX4_byThreePrimes_29 (by decide +kernel) rfl (Nat.le_of_ble_eq_true rfl) (Nat.le_of_ble_eq_true rfl) rfl
theorem fX4_byThreePrimes_32 : ft 48 32 = some (.aload_n 2, 0, 0, 0, .null) := by decide +kernel
theorem gX4_byThreePrimes_32 {l0 l1 l3 : Option Value} {u : Nat} {st : List Value} {H : HP} {Q : Option Value → HP → Prop} : Go 48 32 [l0, l1, some (.ref u), l3] st H Q ↔ Go 48 33 [l0, l1, some (.ref u), l3] (.ref u :: st) H Q := G_aload_n fX4_byThreePrimes_32 rfl
theorem fX4_byThreePrimes_33 : ft 48 33 = some (.invokevirtual 68, 55, 0, 454, .null) := by decide +kernel
theorem gX4_byThreePrimes_33 {L : List (Option Value)} {p : Nat}  {r0 : Int32} {r1 : Nat} {H : HP} {Q : Option Value → HP → Prop} : Go 48 33 L (.ref p :: [.int r0, .ref r1]) H Q ↔ (iso 5 (hget H p) = true ∧ Go 55 0 [some (.ref p)] [] H (Cont 48 36 L [.int r0, .ref r1] Q)) := G_cV (n := 0) (N := 1) (as := []) (st := [.int r0, .ref r1]) fX4_byThreePrimes_33 (by decide +kernel) rfl (Nat.le_of_ble_eq_true rfl) (Nat.le_of_ble_eq_true rfl) rfl
theorem fX4_byThreePrimes_36 : ft 48 36 = some (.iadd, 0, 0, 0, .null) := by decide +kernel
theorem gX4_byThreePrimes_36 {L : List (Option Value)} {a b : Int} {st : List Value} {H : HP} {Q : Option Value → HP → Prop} : Go 48 36 L (vi b :: vi a :: st) H Q ↔ Go 48 37 L (vi (a + b) :: st) H Q := G_iadd fX4_byThreePrimes_36
theorem fX4_byThreePrimes_37 : ft 48 37 = some (.iconst 1, 0, 0, 0, .null) := by decide +kernel
theorem gX4_byThreePrimes_37 {L : List (Option Value)} {st : List Value} {H : HP} {Q : Option Value → HP → Prop} : Go 48 37 L st H Q ↔ Go 48 38 L (vi 1 :: st) H Q := G_iconst fX4_byThreePrimes_37
theorem fX4_byThreePrimes_38 : ft 48 38 = some (.isub, 0, 0, 0, .null) := by decide +kernel
theorem gX4_byThreePrimes_38 {L : List (Option Value)} {a b : Int} {st : List Value} {H : HP} {Q : Option Value → HP → Prop} : Go 48 38 L (vi b :: vi a :: st) H Q ↔ Go 48 39 L (vi (a - b) :: st) H Q := G_isub fX4_byThreePrimes_38
theorem fX4_byThreePrimes_39 : ft 48 39 = some (.putfield 18, 4, 2, 194, .null) := by decide +kernel
theorem gX4_byThreePrimes_39 {L : List (Option Value)} {p : Nat} {u : Int32} (hp : p ≠ 0) {st : List Value} {H : HP} {Q : Option Value → HP → Prop} : Go 48 39 L (.int u :: .ref p :: st) H Q ↔ Wr (pF' 4 2 (hget H p) (.int u)) p 48 42 L st H Q := G_putf fX4_byThreePrimes_39 ⟨⟨rfl, rfl⟩, rfl, Or.inl rfl⟩ hp
theorem fX4_byThreePrimes_42 : ft 48 42 = some (.iconst 0, 0, 0, 0, .null) := by decide +kernel
theorem gX4_byThreePrimes_42 {L : List (Option Value)} {st : List Value} {H : HP} {Q : Option Value → HP → Prop} : Go 48 42 L st H Q ↔ Go 48 43 L (vi 0 :: st) H Q := G_iconst fX4_byThreePrimes_42
theorem fX4_byThreePrimes_43 : ft 48 43 = some (.istore_n 3, 0, 0, 0, .null) := by decide +kernel
theorem gX4_byThreePrimes_43 {l0 l1 l2 l3 : Option Value} {u : Int32} {st : List Value} {H : HP} {Q : Option Value → HP → Prop} : Go 48 43 [l0, l1, l2, l3] (.int u :: st) H Q ↔ Go 48 44 [l0, l1, l2, some (.int u)] st H Q := G_istore_n fX4_byThreePrimes_43 rfl
theorem fX4_byThreePrimes_44 : ft 48 44 = some (.iload_n 3, 0, 0, 0, .null) := by decide +kernel
theorem gX4_byThreePrimes_44 {l0 l1 l2 : Option Value} {u : Int32} {st : List Value} {H : HP} {Q : Option Value → HP → Prop} : Go 48 44 [l0, l1, l2, some (.int u)] st H Q ↔ Go 48 45 [l0, l1, l2, some (.int u)] (.int u :: st) H Q := G_iload_n fX4_byThreePrimes_44 rfl
theorem fX4_byThreePrimes_45 : ft 48 45 = some (.aload_n 0, 0, 0, 0, .null) := by decide +kernel
theorem gX4_byThreePrimes_45 {l1 l2 l3 : Option Value} {u : Nat} {st : List Value} {H : HP} {Q : Option Value → HP → Prop} : Go 48 45 [some (.ref u), l1, l2, l3] st H Q ↔ Go 48 46 [some (.ref u), l1, l2, l3] (.ref u :: st) H Q := G_aload_n fX4_byThreePrimes_45 rfl
theorem fX4_byThreePrimes_46 : ft 48 46 = some (.getfield 18, 4, 2, 194, .null) := by decide +kernel
theorem gX4_byThreePrimes_46 {L : List (Option Value)} {p : Nat} {st : List Value} {H : HP} {Q : Option Value → HP → Prop} : Go 48 46 L (.ref p :: st) H Q ↔ Rd (gF' 4 2 (hget H p)) 48 49 L st H Q := G_getf fX4_byThreePrimes_46 ⟨rfl, rfl⟩
theorem fX4_byThreePrimes_49 : ft 48 49 = some (.if_icmp .ge 45, 0, 0, 0, .null) := by decide +kernel
theorem gX4_byThreePrimes_49T {L : List (Option Value)} {a b : Int} (c : (-2147483648 ≤ a ∧ a ≤ 2147483647 ∧ -2147483648 ≤ b ∧ b ≤ 2147483647) ∧ b ≤ a) {st : List Value} {H : HP} {Q : Option Value → HP → Prop} : Go 48 49 L (vi b :: vi a :: st) H Q ↔ Go 48 94 L st H Q := G_icT fX4_byThreePrimes_49 (by decide) c
theorem gX4_byThreePrimes_49F {L : List (Option Value)} {a b : Int} (c : (-2147483648 ≤ a ∧ a ≤ 2147483647 ∧ -2147483648 ≤ b ∧ b ≤ 2147483647) ∧ ¬ (b ≤ a)) {st : List Value} {H : HP} {Q : Option Value → HP → Prop} : Go 48 49 L (vi b :: vi a :: st) H Q ↔ Go 48 52 L st H Q := G_icF (tg := 94) fX4_byThreePrimes_49 (by decide) c
theorem fX4_byThreePrimes_52 : ft 48 52 = some (.aload_n 0, 0, 0, 0, .null) := by decide +kernel
theorem gX4_byThreePrimes_52 {l1 l2 l3 : Option Value} {u : Nat} {st : List Value} {H : HP} {Q : Option Value → HP → Prop} : Go 48 52 [some (.ref u), l1, l2, l3] st H Q ↔ Go 48 53 [some (.ref u), l1, l2, l3] (.ref u :: st) H Q := G_aload_n fX4_byThreePrimes_52 rfl
theorem fX4_byThreePrimes_53 : ft 48 53 = some (.aload_n 0, 0, 0, 0, .null) := by decide +kernel
theorem gX4_byThreePrimes_53 {l1 l2 l3 : Option Value} {u : Nat} {st : List Value} {H : HP} {Q : Option Value → HP → Prop} : Go 48 53 [some (.ref u), l1, l2, l3] st H Q ↔ Go 48 54 [some (.ref u), l1, l2, l3] (.ref u :: st) H Q := G_aload_n fX4_byThreePrimes_53 rfl
theorem fX4_byThreePrimes_54 : ft 48 54 = some (.getfield 34, 4, 4, 197, .null) := by decide +kernel
theorem gX4_byThreePrimes_54 {L : List (Option Value)} {p : Nat} {st : List Value} {H : HP} {Q : Option Value → HP → Prop} : Go 48 54 L (.ref p :: st) H Q ↔ Rd (gF' 4 4 (hget H p)) 48 57 L st H Q := G_getf fX4_byThreePrimes_54 ⟨rfl, rfl⟩
theorem fX4_byThreePrimes_57 : ft 48 57 = some (.getfield 107, 1, 1, 159, .null) := by decide +kernel
theorem gX4_byThreePrimes_57 {L : List (Option Value)} {p : Nat} {st : List Value} {H : HP} {Q : Option Value → HP → Prop} : Go 48 57 L (.ref p :: st) H Q ↔ Rd (gF' 1 1 (hget H p)) 48 60 L st H Q := G_getf fX4_byThreePrimes_57 ⟨rfl, rfl⟩
theorem fX4_byThreePrimes_60 : ft 48 60 = some (.iload_n 3, 0, 0, 0, .null) := by decide +kernel
theorem gX4_byThreePrimes_60 {l0 l1 l2 : Option Value} {u : Int32} {st : List Value} {H : HP} {Q : Option Value → HP → Prop} : Go 48 60 [l0, l1, l2, some (.int u)] st H Q ↔ Go 48 61 [l0, l1, l2, some (.int u)] (.int u :: st) H Q := G_iload_n fX4_byThreePrimes_60 rfl
theorem fX4_byThreePrimes_61 : ft 48 61 = some (.laload, 0, 0, 0, .null) := by decide +kernel
theorem gX4_byThreePrimes_61 {L : List (Option Value)} {p : Nat} {a : Int} {st : List Value} {H : HP} {Q : Option Value → HP → Prop} : Go 48 61 L (vi a :: .ref p :: st) H Q ↔ Rd (aL' (hget H p) a) 48 62 L st H Q := G_lald fX4_byThreePrimes_61
theorem fX4_byThreePrimes_62 : ft 48 62 = some (.aload_n 0, 0, 0, 0, .null) := by decide +kernel
theorem gX4_byThreePrimes_62 {l1 l2 l3 : Option Value} {u : Nat} {st : List Value} {H : HP} {Q : Option Value → HP → Prop} : Go 48 62 [some (.ref u), l1, l2, l3] st H Q ↔ Go 48 63 [some (.ref u), l1, l2, l3] (.ref u :: st) H Q := G_aload_n fX4_byThreePrimes_62 rfl
theorem fX4_byThreePrimes_63 : ft 48 63 = some (.getfield 38, 4, 5, 198, .null) := by decide +kernel
theorem gX4_byThreePrimes_63 {L : List (Option Value)} {p : Nat} {st : List Value} {H : HP} {Q : Option Value → HP → Prop} : Go 48 63 L (.ref p :: st) H Q ↔ Rd (gF' 4 5 (hget H p)) 48 66 L st H Q := G_getf fX4_byThreePrimes_63 ⟨rfl, rfl⟩
theorem fX4_byThreePrimes_66 : ft 48 66 = some (.getfield 107, 1, 1, 159, .null) := by decide +kernel
theorem gX4_byThreePrimes_66 {L : List (Option Value)} {p : Nat} {st : List Value} {H : HP} {Q : Option Value → HP → Prop} : Go 48 66 L (.ref p :: st) H Q ↔ Rd (gF' 1 1 (hget H p)) 48 69 L st H Q := G_getf fX4_byThreePrimes_66 ⟨rfl, rfl⟩
theorem fX4_byThreePrimes_69 : ft 48 69 = some (.iload_n 3, 0, 0, 0, .null) := by decide +kernel
theorem gX4_byThreePrimes_69 {l0 l1 l2 : Option Value} {u : Int32} {st : List Value} {H : HP} {Q : Option Value → HP → Prop} : Go 48 69 [l0, l1, l2, some (.int u)] st H Q ↔ Go 48 70 [l0, l1, l2, some (.int u)] (.int u :: st) H Q := G_iload_n fX4_byThreePrimes_69 rfl
theorem fX4_byThreePrimes_70 : ft 48 70 = some (.laload, 0, 0, 0, .null) := by decide +kernel
theorem gX4_byThreePrimes_70 {L : List (Option Value)} {p : Nat} {a : Int} {st : List Value} {H : HP} {Q : Option Value → HP → Prop} : Go 48 70 L (vi a :: .ref p :: st) H Q ↔ Rd (aL' (hget H p) a) 48 71 L st H Q := G_lald fX4_byThreePrimes_70
theorem fX4_byThreePrimes_71 : ft 48 71 = some (.aload_n 0, 0, 0, 0, .null) := by decide +kernel
theorem gX4_byThreePrimes_71 {l1 l2 l3 : Option Value} {u : Nat} {st : List Value} {H : HP} {Q : Option Value → HP → Prop} : Go 48 71 [some (.ref u), l1, l2, l3] st H Q ↔ Go 48 72 [some (.ref u), l1, l2, l3] (.ref u :: st) H Q := G_aload_n fX4_byThreePrimes_71 rfl
theorem fX4_byThreePrimes_72 : ft 48 72 = some (.getfield 41, 4, 6, 199, .null) := by decide +kernel
theorem gX4_byThreePrimes_72 {L : List (Option Value)} {p : Nat} {st : List Value} {H : HP} {Q : Option Value → HP → Prop} : Go 48 72 L (.ref p :: st) H Q ↔ Rd (gF' 4 6 (hget H p)) 48 75 L st H Q := G_getf fX4_byThreePrimes_72 ⟨rfl, rfl⟩
theorem fX4_byThreePrimes_75 : ft 48 75 = some (.getfield 107, 1, 1, 159, .null) := by decide +kernel
theorem gX4_byThreePrimes_75 {L : List (Option Value)} {p : Nat} {st : List Value} {H : HP} {Q : Option Value → HP → Prop} : Go 48 75 L (.ref p :: st) H Q ↔ Rd (gF' 1 1 (hget H p)) 48 78 L st H Q := G_getf fX4_byThreePrimes_75 ⟨rfl, rfl⟩
theorem fX4_byThreePrimes_78 : ft 48 78 = some (.iload_n 3, 0, 0, 0, .null) := by decide +kernel
theorem gX4_byThreePrimes_78 {l0 l1 l2 : Option Value} {u : Int32} {st : List Value} {H : HP} {Q : Option Value → HP → Prop} : Go 48 78 [l0, l1, l2, some (.int u)] st H Q ↔ Go 48 79 [l0, l1, l2, some (.int u)] (.int u :: st) H Q := G_iload_n fX4_byThreePrimes_78 rfl
theorem fX4_byThreePrimes_79 : ft 48 79 = some (.laload, 0, 0, 0, .null) := by decide +kernel
theorem gX4_byThreePrimes_79 {L : List (Option Value)} {p : Nat} {a : Int} {st : List Value} {H : HP} {Q : Option Value → HP → Prop} : Go 48 79 L (vi a :: .ref p :: st) H Q ↔ Rd (aL' (hget H p) a) 48 80 L st H Q := G_lald fX4_byThreePrimes_79
theorem fX4_byThreePrimes_80 : ft 48 80 = some (.invokevirtual 112, 49, 0, 516, .null) := by decide +kernel
theorem gX4_byThreePrimes_80 {L : List (Option Value)} {p : Nat} {a0 : Int64} {a1 : Int64} {a2 : Int64}  {H : HP} {Q : Option Value → HP → Prop} : Go 48 80 L (.long a2 :: .long a1 :: .long a0 :: .ref p :: []) H Q ↔ (iso 4 (hget H p) = true ∧ Go 49 0 [some (.ref p), some (.long a0), none, some (.long a1), none, some (.long a2), none, none, none, none, none, none, none, none, none] [] H (Cont 48 83 L [] Q)) := G_cV (n := 3) (N := 15) (as := [.long a2, .long a1, .long a0]) (st := []) fX4_byThreePrimes_80 (by decide +kernel) rfl (Nat.le_of_ble_eq_true rfl) (Nat.le_of_ble_eq_true rfl) rfl
theorem fX4_byThreePrimes_83 : ft 48 83 = some (.aload_n 0, 0, 0, 0, .null) := by decide +kernel
theorem gX4_byThreePrimes_83 {l1 l2 l3 : Option Value} {u : Nat} {st : List Value} {H : HP} {Q : Option Value → HP → Prop} : Go 48 83 [some (.ref u), l1, l2, l3] st H Q ↔ Go 48 84 [some (.ref u), l1, l2, l3] (.ref u :: st) H Q := G_aload_n fX4_byThreePrimes_83 rfl
theorem fX4_byThreePrimes_84 : ft 48 84 = some (.iload_n 3, 0, 0, 0, .null) := by decide +kernel
theorem gX4_byThreePrimes_84 {l0 l1 l2 : Option Value} {u : Int32} {st : List Value} {H : HP} {Q : Option Value → HP → Prop} : Go 48 84 [l0, l1, l2, some (.int u)] st H Q ↔ Go 48 85 [l0, l1, l2, some (.int u)] (.int u :: st) H Q := G_iload_n fX4_byThreePrimes_84 rfl
theorem fX4_byThreePrimes_85 : ft 48 85 = some (.invokevirtual 90, 44, 0, 474, .null) := by decide +kernel
theorem gX4_byThreePrimes_85 {L : List (Option Value)} {p : Nat} {a0 : Int32}  {H : HP} {Q : Option Value → HP → Prop} : Go 48 85 L (.int a0 :: .ref p :: []) H Q ↔ (iso 4 (hget H p) = true ∧ Go 44 0 [some (.ref p), some (.int a0)] [] H (Cont 48 88 L [] Q)) := G_cV (n := 1) (N := 2) (as := [.int a0]) (st := []) fX4_byThreePrimes_85 (by decide +kernel) rfl (Nat.le_of_ble_eq_true rfl) (Nat.le_of_ble_eq_true rfl) rfl
theorem fX4_byThreePrimes_88 : ft 48 88 = some (.iinc 3 1, 0, 0, 0, .null) := by decide +kernel
theorem gX4_byThreePrimes_88 {l0 l1 l2 : Option Value} {a : Int} {st : List Value} {H : HP} {Q : Option Value → HP → Prop} : Go 48 88 [l0, l1, l2, some (vi a)] st H Q ↔ Go 48 91 [l0, l1, l2, some (vi (a + 1))] st H Q := G_iinc fX4_byThreePrimes_88 rfl rfl
theorem fX4_byThreePrimes_91 : ft 48 91 = some (.goto (-47), 0, 0, 0, .null) := by decide +kernel
theorem gX4_byThreePrimes_91 {L : List (Option Value)} {st : List Value} {H : HP} {Q : Option Value → HP → Prop} : Go 48 91 L st H Q ↔ Go 48 44 L st H Q := G_goto fX4_byThreePrimes_91 (by decide)
theorem fX4_byThreePrimes_94 : ft 48 94 = some (.return_, 0, 0, 0, .null) := by decide +kernel
theorem gX4_byThreePrimes_94 {L : List (Option Value)} {H : HP} {Q : Option Value → HP → Prop} : Go 48 94 L [] H Q ↔ Q none H := G_vret fX4_byThreePrimes_94 (by decide +kernel)
theorem fX4_join_0 : ft 49 0 = some (.aload_n 0, 0, 0, 0, .null) := by decide +kernel
theorem gX4_join_0 {l1 l2 l3 l4 l5 l6 l7 l8 l9 l10 l11 l12 l13 l14 : Option Value} {u : Nat} {st : List Value} {H : HP} {Q : Option Value → HP → Prop} : Go 49 0 [some (.ref u), l1, l2, l3, l4, l5, l6, l7, l8, l9, l10, l11, l12, l13, l14] st H Q ↔ Go 49 1 [some (.ref u), l1, l2, l3, l4, l5, l6, l7, l8, l9, l10, l11, l12, l13, l14] (.ref u :: st) H Q := G_aload_n fX4_join_0 rfl
theorem fX4_join_1 : ft 49 1 = some (.getfield 38, 4, 5, 198, .null) := by decide +kernel
theorem gX4_join_1 {L : List (Option Value)} {p : Nat} {st : List Value} {H : HP} {Q : Option Value → HP → Prop} : Go 49 1 L (.ref p :: st) H Q ↔ Rd (gF' 4 5 (hget H p)) 49 4 L st H Q := G_getf fX4_join_1 ⟨rfl, rfl⟩
theorem fX4_join_4 : ft 49 4 = some (.getfield 116, 1, 0, 157, .null) := by decide +kernel
theorem gX4_join_4 {L : List (Option Value)} {p : Nat} {st : List Value} {H : HP} {Q : Option Value → HP → Prop} : Go 49 4 L (.ref p :: st) H Q ↔ Rd (gF' 1 0 (hget H p)) 49 7 L st H Q := G_getf fX4_join_4 ⟨rfl, rfl⟩
theorem fX4_join_7 : ft 49 7 = some (.astore 7, 0, 0, 0, .null) := by decide +kernel
theorem gX4_join_7 {l0 l1 l2 l3 l4 l5 l6 l7 l8 l9 l10 l11 l12 l13 l14 : Option Value} {u : Nat} {st : List Value} {H : HP} {Q : Option Value → HP → Prop} : Go 49 7 [l0, l1, l2, l3, l4, l5, l6, l7, l8, l9, l10, l11, l12, l13, l14] (.ref u :: st) H Q ↔ Go 49 9 [l0, l1, l2, l3, l4, l5, l6, some (.ref u), l8, l9, l10, l11, l12, l13, l14] st H Q := G_astore fX4_join_7 rfl
theorem gX4_join_7N {l0 l1 l2 l3 l4 l5 l6 l7 l8 l9 l10 l11 l12 l13 l14 : Option Value} {st : List Value} {H : HP} {Q : Option Value → HP → Prop} : Go 49 7 [l0, l1, l2, l3, l4, l5, l6, l7, l8, l9, l10, l11, l12, l13, l14] (.null :: st) H Q ↔ Go 49 9 [l0, l1, l2, l3, l4, l5, l6, some .null, l8, l9, l10, l11, l12, l13, l14] st H Q := G_astoreN fX4_join_7 rfl
theorem fX4_join_9 : ft 49 9 = some (.aload_n 0, 0, 0, 0, .null) := by decide +kernel
theorem gX4_join_9 {l1 l2 l3 l4 l5 l6 l7 l8 l9 l10 l11 l12 l13 l14 : Option Value} {u : Nat} {st : List Value} {H : HP} {Q : Option Value → HP → Prop} : Go 49 9 [some (.ref u), l1, l2, l3, l4, l5, l6, l7, l8, l9, l10, l11, l12, l13, l14] st H Q ↔ Go 49 10 [some (.ref u), l1, l2, l3, l4, l5, l6, l7, l8, l9, l10, l11, l12, l13, l14] (.ref u :: st) H Q := G_aload_n fX4_join_9 rfl
theorem fX4_join_10 : ft 49 10 = some (.getfield 41, 4, 6, 199, .null) := by decide +kernel
theorem gX4_join_10 {L : List (Option Value)} {p : Nat} {st : List Value} {H : HP} {Q : Option Value → HP → Prop} : Go 49 10 L (.ref p :: st) H Q ↔ Rd (gF' 4 6 (hget H p)) 49 13 L st H Q := G_getf fX4_join_10 ⟨rfl, rfl⟩
theorem fX4_join_13 : ft 49 13 = some (.getfield 116, 1, 0, 157, .null) := by decide +kernel
theorem gX4_join_13 {L : List (Option Value)} {p : Nat} {st : List Value} {H : HP} {Q : Option Value → HP → Prop} : Go 49 13 L (.ref p :: st) H Q ↔ Rd (gF' 1 0 (hget H p)) 49 16 L st H Q := G_getf fX4_join_13 ⟨rfl, rfl⟩
theorem fX4_join_16 : ft 49 16 = some (.astore 8, 0, 0, 0, .null) := by decide +kernel
theorem gX4_join_16 {l0 l1 l2 l3 l4 l5 l6 l7 l8 l9 l10 l11 l12 l13 l14 : Option Value} {u : Nat} {st : List Value} {H : HP} {Q : Option Value → HP → Prop} : Go 49 16 [l0, l1, l2, l3, l4, l5, l6, l7, l8, l9, l10, l11, l12, l13, l14] (.ref u :: st) H Q ↔ Go 49 18 [l0, l1, l2, l3, l4, l5, l6, l7, some (.ref u), l9, l10, l11, l12, l13, l14] st H Q := G_astore fX4_join_16 rfl
theorem gX4_join_16N {l0 l1 l2 l3 l4 l5 l6 l7 l8 l9 l10 l11 l12 l13 l14 : Option Value} {st : List Value} {H : HP} {Q : Option Value → HP → Prop} : Go 49 16 [l0, l1, l2, l3, l4, l5, l6, l7, l8, l9, l10, l11, l12, l13, l14] (.null :: st) H Q ↔ Go 49 18 [l0, l1, l2, l3, l4, l5, l6, l7, some .null, l9, l10, l11, l12, l13, l14] st H Q := G_astoreN fX4_join_16 rfl
theorem fX4_join_18 : ft 49 18 = some (.aload 7, 0, 0, 0, .null) := by decide +kernel
theorem gX4_join_18 {l0 l1 l2 l3 l4 l5 l6 l8 l9 l10 l11 l12 l13 l14 : Option Value} {u : Nat} {st : List Value} {H : HP} {Q : Option Value → HP → Prop} : Go 49 18 [l0, l1, l2, l3, l4, l5, l6, some (.ref u), l8, l9, l10, l11, l12, l13, l14] st H Q ↔ Go 49 20 [l0, l1, l2, l3, l4, l5, l6, some (.ref u), l8, l9, l10, l11, l12, l13, l14] (.ref u :: st) H Q := G_aload fX4_join_18 rfl
theorem gX4_join_18N {l0 l1 l2 l3 l4 l5 l6 l8 l9 l10 l11 l12 l13 l14 : Option Value} {st : List Value} {H : HP} {Q : Option Value → HP → Prop} : Go 49 18 [l0, l1, l2, l3, l4, l5, l6, some .null, l8, l9, l10, l11, l12, l13, l14] st H Q ↔ Go 49 20 [l0, l1, l2, l3, l4, l5, l6, some .null, l8, l9, l10, l11, l12, l13, l14] (.null :: st) H Q := G_aloadN fX4_join_18 rfl
theorem fX4_join_20 : ft 49 20 = some (.aload 7, 0, 0, 0, .null) := by decide +kernel
theorem gX4_join_20 {l0 l1 l2 l3 l4 l5 l6 l8 l9 l10 l11 l12 l13 l14 : Option Value} {u : Nat} {st : List Value} {H : HP} {Q : Option Value → HP → Prop} : Go 49 20 [l0, l1, l2, l3, l4, l5, l6, some (.ref u), l8, l9, l10, l11, l12, l13, l14] st H Q ↔ Go 49 22 [l0, l1, l2, l3, l4, l5, l6, some (.ref u), l8, l9, l10, l11, l12, l13, l14] (.ref u :: st) H Q := G_aload fX4_join_20 rfl
theorem gX4_join_20N {l0 l1 l2 l3 l4 l5 l6 l8 l9 l10 l11 l12 l13 l14 : Option Value} {st : List Value} {H : HP} {Q : Option Value → HP → Prop} : Go 49 20 [l0, l1, l2, l3, l4, l5, l6, some .null, l8, l9, l10, l11, l12, l13, l14] st H Q ↔ Go 49 22 [l0, l1, l2, l3, l4, l5, l6, some .null, l8, l9, l10, l11, l12, l13, l14] (.null :: st) H Q := G_aloadN fX4_join_20 rfl
theorem fX4_join_22 : ft 49 22 = some (.lload_n 3, 0, 0, 0, .null) := by decide +kernel
theorem gX4_join_22 {l0 l1 l2 l5 l6 l7 l8 l9 l10 l11 l12 l13 l14 : Option Value} {u : Int64} {st : List Value} {H : HP} {Q : Option Value → HP → Prop} : Go 49 22 [l0, l1, l2, some (.long u), none, l5, l6, l7, l8, l9, l10, l11, l12, l13, l14] st H Q ↔ Go 49 23 [l0, l1, l2, some (.long u), none, l5, l6, l7, l8, l9, l10, l11, l12, l13, l14] (.long u :: st) H Q := G_lload_n fX4_join_22 rfl
theorem fX4_join_23 : ft 49 23 = some (.lload_n 1, 0, 0, 0, .null) := by decide +kernel
theorem gX4_join_23 {l0 l3 l4 l5 l6 l7 l8 l9 l10 l11 l12 l13 l14 : Option Value} {u : Int64} {st : List Value} {H : HP} {Q : Option Value → HP → Prop} : Go 49 23 [l0, some (.long u), none, l3, l4, l5, l6, l7, l8, l9, l10, l11, l12, l13, l14] st H Q ↔ Go 49 24 [l0, some (.long u), none, l3, l4, l5, l6, l7, l8, l9, l10, l11, l12, l13, l14] (.long u :: st) H Q := G_lload_n fX4_join_23 rfl
theorem fX4_join_24 : ft 49 24 = some (.lsub, 0, 0, 0, .null) := by decide +kernel
theorem gX4_join_24 {L : List (Option Value)} {a b : Int} {st : List Value} {H : HP} {Q : Option Value → HP → Prop} : Go 49 24 L (vl b :: vl a :: st) H Q ↔ Go 49 25 L (vl (a - b) :: st) H Q := G_lsub fX4_join_24
theorem fX4_join_25 : ft 49 25 = some (.invokevirtual 46, 29, 0, 169, .null) := by decide +kernel
theorem gX4_join_25 {L : List (Option Value)} {p : Nat} {a0 : Int64} {r0 : Nat} {H : HP} {Q : Option Value → HP → Prop} : Go 49 25 L (.long a0 :: .ref p :: [.ref r0]) H Q ↔ (iso 3 (hget H p) = true ∧ Go 29 0 [some (.ref p), some (.long a0), none] [] H (Cont 49 28 L [.ref r0] Q)) := G_cV (n := 1) (N := 3) (as := [.long a0]) (st := [.ref r0]) fX4_join_25 (by decide +kernel) rfl (Nat.le_of_ble_eq_true rfl) (Nat.le_of_ble_eq_true rfl) rfl
theorem fX4_join_28 : ft 49 28 = some (.aload_n 0, 0, 0, 0, .null) := by decide +kernel
theorem gX4_join_28 {l1 l2 l3 l4 l5 l6 l7 l8 l9 l10 l11 l12 l13 l14 : Option Value} {u : Nat} {st : List Value} {H : HP} {Q : Option Value → HP → Prop} : Go 49 28 [some (.ref u), l1, l2, l3, l4, l5, l6, l7, l8, l9, l10, l11, l12, l13, l14] st H Q ↔ Go 49 29 [some (.ref u), l1, l2, l3, l4, l5, l6, l7, l8, l9, l10, l11, l12, l13, l14] (.ref u :: st) H Q := G_aload_n fX4_join_28 rfl
theorem fX4_join_29 : ft 49 29 = some (.getfield 55, 4, 7, 200, .null) := by decide +kernel
theorem gX4_join_29 {L : List (Option Value)} {p : Nat} {st : List Value} {H : HP} {Q : Option Value → HP → Prop} : Go 49 29 L (.ref p :: st) H Q ↔ Rd (gF' 4 7 (hget H p)) 49 32 L st H Q := G_getf fX4_join_29 ⟨rfl, rfl⟩
theorem fX4_join_32 : ft 49 32 = some (.invokevirtual 120, 30, 0, 520, .null) := by decide +kernel
theorem gX4_join_32 {L : List (Option Value)} {p : Nat} {a0 : Int64} {a1 : Int64}  {H : HP} {Q : Option Value → HP → Prop} : Go 49 32 L (.long a1 :: .long a0 :: .ref p :: []) H Q ↔ (iso 3 (hget H p) = true ∧ Go 30 0 [some (.ref p), some (.long a0), none, some (.long a1), none] [] H (Cont 49 35 L [] Q)) := G_cV (n := 2) (N := 5) (as := [.long a1, .long a0]) (st := []) fX4_join_32 (by decide +kernel) rfl (Nat.le_of_ble_eq_true rfl) (Nat.le_of_ble_eq_true rfl) rfl
theorem fX4_join_35 : ft 49 35 = some (.lstore 9, 0, 0, 0, .null) := by decide +kernel
theorem gX4_join_35 {l0 l1 l2 l3 l4 l5 l6 l7 l8 l9 l10 l11 l12 l13 l14 : Option Value} {u : Int64} {st : List Value} {H : HP} {Q : Option Value → HP → Prop} : Go 49 35 [l0, l1, l2, l3, l4, l5, l6, l7, l8, l9, l10, l11, l12, l13, l14] (.long u :: st) H Q ↔ Go 49 37 [l0, l1, l2, l3, l4, l5, l6, l7, l8, some (.long u), none, l11, l12, l13, l14] st H Q := G_lstore fX4_join_35 rfl
theorem fX4_join_37 : ft 49 37 = some (.lload_n 1, 0, 0, 0, .null) := by decide +kernel
theorem gX4_join_37 {l0 l3 l4 l5 l6 l7 l8 l9 l10 l11 l12 l13 l14 : Option Value} {u : Int64} {st : List Value} {H : HP} {Q : Option Value → HP → Prop} : Go 49 37 [l0, some (.long u), none, l3, l4, l5, l6, l7, l8, l9, l10, l11, l12, l13, l14] st H Q ↔ Go 49 38 [l0, some (.long u), none, l3, l4, l5, l6, l7, l8, l9, l10, l11, l12, l13, l14] (.long u :: st) H Q := G_lload_n fX4_join_37 rfl
theorem fX4_join_38 : ft 49 38 = some (.lload 9, 0, 0, 0, .null) := by decide +kernel
theorem gX4_join_38 {l0 l1 l2 l3 l4 l5 l6 l7 l8 l11 l12 l13 l14 : Option Value} {u : Int64} {st : List Value} {H : HP} {Q : Option Value → HP → Prop} : Go 49 38 [l0, l1, l2, l3, l4, l5, l6, l7, l8, some (.long u), none, l11, l12, l13, l14] st H Q ↔ Go 49 40 [l0, l1, l2, l3, l4, l5, l6, l7, l8, some (.long u), none, l11, l12, l13, l14] (.long u :: st) H Q := G_lload fX4_join_38 rfl
theorem fX4_join_40 : ft 49 40 = some (.ldc2_w 44, 0, 0, 168, .long (998244353)) := by decide +kernel
theorem gX4_join_40 {L : List (Option Value)} {st : List Value} {H : HP} {Q : Option Value → HP → Prop} : Go 49 40 L st H Q ↔ Go 49 43 L (vl (998244353) :: st) H Q := G_ldcl fX4_join_40 (by decide +kernel)
theorem fX4_join_43 : ft 49 43 = some (.lmul, 0, 0, 0, .null) := by decide +kernel
theorem gX4_join_43 {L : List (Option Value)} {a b : Int} {st : List Value} {H : HP} {Q : Option Value → HP → Prop} : Go 49 43 L (vl b :: vl a :: st) H Q ↔ Go 49 44 L (vl (a * b) :: st) H Q := G_lmul fX4_join_43
theorem fX4_join_44 : ft 49 44 = some (.ladd, 0, 0, 0, .null) := by decide +kernel
theorem gX4_join_44 {L : List (Option Value)} {a b : Int} {st : List Value} {H : HP} {Q : Option Value → HP → Prop} : Go 49 44 L (vl b :: vl a :: st) H Q ↔ Go 49 45 L (vl (a + b) :: st) H Q := G_ladd fX4_join_44
theorem fX4_join_45 : ft 49 45 = some (.lstore 11, 0, 0, 0, .null) := by decide +kernel
theorem gX4_join_45 {l0 l1 l2 l3 l4 l5 l6 l7 l8 l9 l10 l11 l12 l13 l14 : Option Value} {u : Int64} {st : List Value} {H : HP} {Q : Option Value → HP → Prop} : Go 49 45 [l0, l1, l2, l3, l4, l5, l6, l7, l8, l9, l10, l11, l12, l13, l14] (.long u :: st) H Q ↔ Go 49 47 [l0, l1, l2, l3, l4, l5, l6, l7, l8, l9, l10, some (.long u), none, l13, l14] st H Q := G_lstore fX4_join_45 rfl
theorem fX4_join_47 : ft 49 47 = some (.aload 8, 0, 0, 0, .null) := by decide +kernel
theorem gX4_join_47 {l0 l1 l2 l3 l4 l5 l6 l7 l9 l10 l11 l12 l13 l14 : Option Value} {u : Nat} {st : List Value} {H : HP} {Q : Option Value → HP → Prop} : Go 49 47 [l0, l1, l2, l3, l4, l5, l6, l7, some (.ref u), l9, l10, l11, l12, l13, l14] st H Q ↔ Go 49 49 [l0, l1, l2, l3, l4, l5, l6, l7, some (.ref u), l9, l10, l11, l12, l13, l14] (.ref u :: st) H Q := G_aload fX4_join_47 rfl
theorem gX4_join_47N {l0 l1 l2 l3 l4 l5 l6 l7 l9 l10 l11 l12 l13 l14 : Option Value} {st : List Value} {H : HP} {Q : Option Value → HP → Prop} : Go 49 47 [l0, l1, l2, l3, l4, l5, l6, l7, some .null, l9, l10, l11, l12, l13, l14] st H Q ↔ Go 49 49 [l0, l1, l2, l3, l4, l5, l6, l7, some .null, l9, l10, l11, l12, l13, l14] (.null :: st) H Q := G_aloadN fX4_join_47 rfl
theorem fX4_join_49 : ft 49 49 = some (.aload 8, 0, 0, 0, .null) := by decide +kernel
theorem gX4_join_49 {l0 l1 l2 l3 l4 l5 l6 l7 l9 l10 l11 l12 l13 l14 : Option Value} {u : Nat} {st : List Value} {H : HP} {Q : Option Value → HP → Prop} : Go 49 49 [l0, l1, l2, l3, l4, l5, l6, l7, some (.ref u), l9, l10, l11, l12, l13, l14] st H Q ↔ Go 49 51 [l0, l1, l2, l3, l4, l5, l6, l7, some (.ref u), l9, l10, l11, l12, l13, l14] (.ref u :: st) H Q := G_aload fX4_join_49 rfl
theorem gX4_join_49N {l0 l1 l2 l3 l4 l5 l6 l7 l9 l10 l11 l12 l13 l14 : Option Value} {st : List Value} {H : HP} {Q : Option Value → HP → Prop} : Go 49 49 [l0, l1, l2, l3, l4, l5, l6, l7, some .null, l9, l10, l11, l12, l13, l14] st H Q ↔ Go 49 51 [l0, l1, l2, l3, l4, l5, l6, l7, some .null, l9, l10, l11, l12, l13, l14] (.null :: st) H Q := G_aloadN fX4_join_49 rfl
theorem fX4_join_51 : ft 49 51 = some (.lload 5, 0, 0, 0, .null) := by decide +kernel
theorem gX4_join_51 {l0 l1 l2 l3 l4 l7 l8 l9 l10 l11 l12 l13 l14 : Option Value} {u : Int64} {st : List Value} {H : HP} {Q : Option Value → HP → Prop} : Go 49 51 [l0, l1, l2, l3, l4, some (.long u), none, l7, l8, l9, l10, l11, l12, l13, l14] st H Q ↔ Go 49 53 [l0, l1, l2, l3, l4, some (.long u), none, l7, l8, l9, l10, l11, l12, l13, l14] (.long u :: st) H Q := G_lload fX4_join_51 rfl
theorem fX4_join_53 : ft 49 53 = some (.lload 11, 0, 0, 0, .null) := by decide +kernel
theorem gX4_join_53 {l0 l1 l2 l3 l4 l5 l6 l7 l8 l9 l10 l13 l14 : Option Value} {u : Int64} {st : List Value} {H : HP} {Q : Option Value → HP → Prop} : Go 49 53 [l0, l1, l2, l3, l4, l5, l6, l7, l8, l9, l10, some (.long u), none, l13, l14] st H Q ↔ Go 49 55 [l0, l1, l2, l3, l4, l5, l6, l7, l8, l9, l10, some (.long u), none, l13, l14] (.long u :: st) H Q := G_lload fX4_join_53 rfl
theorem fX4_join_55 : ft 49 55 = some (.lsub, 0, 0, 0, .null) := by decide +kernel
theorem gX4_join_55 {L : List (Option Value)} {a b : Int} {st : List Value} {H : HP} {Q : Option Value → HP → Prop} : Go 49 55 L (vl b :: vl a :: st) H Q ↔ Go 49 56 L (vl (a - b) :: st) H Q := G_lsub fX4_join_55
theorem fX4_join_56 : ft 49 56 = some (.invokevirtual 46, 29, 0, 169, .null) := by decide +kernel
theorem gX4_join_56 {L : List (Option Value)} {p : Nat} {a0 : Int64} {r0 : Nat} {H : HP} {Q : Option Value → HP → Prop} : Go 49 56 L (.long a0 :: .ref p :: [.ref r0]) H Q ↔ (iso 3 (hget H p) = true ∧ Go 29 0 [some (.ref p), some (.long a0), none] [] H (Cont 49 59 L [.ref r0] Q)) := G_cV (n := 1) (N := 3) (as := [.long a0]) (st := [.ref r0]) fX4_join_56 (by decide +kernel) rfl (Nat.le_of_ble_eq_true rfl) (Nat.le_of_ble_eq_true rfl) rfl
theorem fX4_join_59 : ft 49 59 = some (.aload_n 0, 0, 0, 0, .null) := by decide +kernel
theorem gX4_join_59 {l1 l2 l3 l4 l5 l6 l7 l8 l9 l10 l11 l12 l13 l14 : Option Value} {u : Nat} {st : List Value} {H : HP} {Q : Option Value → HP → Prop} : Go 49 59 [some (.ref u), l1, l2, l3, l4, l5, l6, l7, l8, l9, l10, l11, l12, l13, l14] st H Q ↔ Go 49 60 [some (.ref u), l1, l2, l3, l4, l5, l6, l7, l8, l9, l10, l11, l12, l13, l14] (.ref u :: st) H Q := G_aload_n fX4_join_59 rfl
theorem fX4_join_60 : ft 49 60 = some (.getfield 61, 4, 8, 201, .null) := by decide +kernel
theorem gX4_join_60 {L : List (Option Value)} {p : Nat} {st : List Value} {H : HP} {Q : Option Value → HP → Prop} : Go 49 60 L (.ref p :: st) H Q ↔ Rd (gF' 4 8 (hget H p)) 49 63 L st H Q := G_getf fX4_join_60 ⟨rfl, rfl⟩
theorem fX4_join_63 : ft 49 63 = some (.invokevirtual 120, 30, 0, 520, .null) := by decide +kernel
theorem gX4_join_63 {L : List (Option Value)} {p : Nat} {a0 : Int64} {a1 : Int64}  {H : HP} {Q : Option Value → HP → Prop} : Go 49 63 L (.long a1 :: .long a0 :: .ref p :: []) H Q ↔ (iso 3 (hget H p) = true ∧ Go 30 0 [some (.ref p), some (.long a0), none, some (.long a1), none] [] H (Cont 49 66 L [] Q)) := G_cV (n := 2) (N := 5) (as := [.long a1, .long a0]) (st := []) fX4_join_63 (by decide +kernel) rfl (Nat.le_of_ble_eq_true rfl) (Nat.le_of_ble_eq_true rfl) rfl
theorem fX4_join_66 : ft 49 66 = some (.lstore 13, 0, 0, 0, .null) := by decide +kernel
theorem gX4_join_66 {l0 l1 l2 l3 l4 l5 l6 l7 l8 l9 l10 l11 l12 l13 l14 : Option Value} {u : Int64} {st : List Value} {H : HP} {Q : Option Value → HP → Prop} : Go 49 66 [l0, l1, l2, l3, l4, l5, l6, l7, l8, l9, l10, l11, l12, l13, l14] (.long u :: st) H Q ↔ Go 49 68 [l0, l1, l2, l3, l4, l5, l6, l7, l8, l9, l10, l11, l12, some (.long u), none] st H Q := G_lstore fX4_join_66 rfl
theorem fX4_join_68 : ft 49 68 = some (.aload_n 0, 0, 0, 0, .null) := by decide +kernel
theorem gX4_join_68 {l1 l2 l3 l4 l5 l6 l7 l8 l9 l10 l11 l12 l13 l14 : Option Value} {u : Nat} {st : List Value} {H : HP} {Q : Option Value → HP → Prop} : Go 49 68 [some (.ref u), l1, l2, l3, l4, l5, l6, l7, l8, l9, l10, l11, l12, l13, l14] st H Q ↔ Go 49 69 [some (.ref u), l1, l2, l3, l4, l5, l6, l7, l8, l9, l10, l11, l12, l13, l14] (.ref u :: st) H Q := G_aload_n fX4_join_68 rfl
theorem fX4_join_69 : ft 49 69 = some (.getfield 25, 4, 3, 196, .null) := by decide +kernel
theorem gX4_join_69 {L : List (Option Value)} {p : Nat} {st : List Value} {H : HP} {Q : Option Value → HP → Prop} : Go 49 69 L (.ref p :: st) H Q ↔ Rd (gF' 4 3 (hget H p)) 49 72 L st H Q := G_getf fX4_join_69 ⟨rfl, rfl⟩
theorem fX4_join_72 : ft 49 72 = some (.invokevirtual 74, 64, 0, 460, .null) := by decide +kernel
theorem gX4_join_72 {L : List (Option Value)} {p : Nat}   {H : HP} {Q : Option Value → HP → Prop} : Go 49 72 L (.ref p :: []) H Q ↔ (iso 7 (hget H p) = true ∧ Go 64 0 [some (.ref p)] [] H (Cont 49 75 L [] Q)) := G_cV (n := 0) (N := 1) (as := []) (st := []) fX4_join_72 (by decide +kernel) rfl (Nat.le_of_ble_eq_true rfl) (Nat.le_of_ble_eq_true rfl) rfl
theorem fX4_join_75 : ft 49 75 = some (.aload_n 0, 0, 0, 0, .null) := by decide +kernel
theorem gX4_join_75 {l1 l2 l3 l4 l5 l6 l7 l8 l9 l10 l11 l12 l13 l14 : Option Value} {u : Nat} {st : List Value} {H : HP} {Q : Option Value → HP → Prop} : Go 49 75 [some (.ref u), l1, l2, l3, l4, l5, l6, l7, l8, l9, l10, l11, l12, l13, l14] st H Q ↔ Go 49 76 [some (.ref u), l1, l2, l3, l4, l5, l6, l7, l8, l9, l10, l11, l12, l13, l14] (.ref u :: st) H Q := G_aload_n fX4_join_75 rfl
theorem fX4_join_76 : ft 49 76 = some (.getfield 25, 4, 3, 196, .null) := by decide +kernel
theorem gX4_join_76 {L : List (Option Value)} {p : Nat} {st : List Value} {H : HP} {Q : Option Value → HP → Prop} : Go 49 76 L (.ref p :: st) H Q ↔ Rd (gF' 4 3 (hget H p)) 49 79 L st H Q := G_getf fX4_join_76 ⟨rfl, rfl⟩
theorem fX4_join_79 : ft 49 79 = some (.lload 11, 0, 0, 0, .null) := by decide +kernel
theorem gX4_join_79 {l0 l1 l2 l3 l4 l5 l6 l7 l8 l9 l10 l13 l14 : Option Value} {u : Int64} {st : List Value} {H : HP} {Q : Option Value → HP → Prop} : Go 49 79 [l0, l1, l2, l3, l4, l5, l6, l7, l8, l9, l10, some (.long u), none, l13, l14] st H Q ↔ Go 49 81 [l0, l1, l2, l3, l4, l5, l6, l7, l8, l9, l10, some (.long u), none, l13, l14] (.long u :: st) H Q := G_lload fX4_join_79 rfl
theorem fX4_join_81 : ft 49 81 = some (.invokevirtual 86, 65, 0, 465, .null) := by decide +kernel
theorem gX4_join_81 {L : List (Option Value)} {p : Nat} {a0 : Int64}  {H : HP} {Q : Option Value → HP → Prop} : Go 49 81 L (.long a0 :: .ref p :: []) H Q ↔ (iso 7 (hget H p) = true ∧ Go 65 0 [some (.ref p), some (.long a0), none] [] H (Cont 49 84 L [] Q)) := G_cV (n := 1) (N := 3) (as := [.long a0]) (st := []) fX4_join_81 (by decide +kernel) rfl (Nat.le_of_ble_eq_true rfl) (Nat.le_of_ble_eq_true rfl) rfl
theorem fX4_join_84 : ft 49 84 = some (.aload_n 0, 0, 0, 0, .null) := by decide +kernel
theorem gX4_join_84 {l1 l2 l3 l4 l5 l6 l7 l8 l9 l10 l11 l12 l13 l14 : Option Value} {u : Nat} {st : List Value} {H : HP} {Q : Option Value → HP → Prop} : Go 49 84 [some (.ref u), l1, l2, l3, l4, l5, l6, l7, l8, l9, l10, l11, l12, l13, l14] st H Q ↔ Go 49 85 [some (.ref u), l1, l2, l3, l4, l5, l6, l7, l8, l9, l10, l11, l12, l13, l14] (.ref u :: st) H Q := G_aload_n fX4_join_84 rfl
theorem fX4_join_85 : ft 49 85 = some (.getfield 25, 4, 3, 196, .null) := by decide +kernel
theorem gX4_join_85 {L : List (Option Value)} {p : Nat} {st : List Value} {H : HP} {Q : Option Value → HP → Prop} : Go 49 85 L (.ref p :: st) H Q ↔ Rd (gF' 4 3 (hget H p)) 49 88 L st H Q := G_getf fX4_join_85 ⟨rfl, rfl⟩
theorem fX4_join_88 : ft 49 88 = some (.lload 13, 0, 0, 0, .null) := by decide +kernel
theorem gX4_join_88 {l0 l1 l2 l3 l4 l5 l6 l7 l8 l9 l10 l11 l12 : Option Value} {u : Int64} {st : List Value} {H : HP} {Q : Option Value → HP → Prop} : Go 49 88 [l0, l1, l2, l3, l4, l5, l6, l7, l8, l9, l10, l11, l12, some (.long u), none] st H Q ↔ Go 49 90 [l0, l1, l2, l3, l4, l5, l6, l7, l8, l9, l10, l11, l12, some (.long u), none] (.long u :: st) H Q := G_lload fX4_join_88 rfl
theorem fX4_join_90 : ft 49 90 = some (.ldc2_w 124, 0, 0, 521, .long (234881024)) := by decide +kernel
theorem gX4_join_90 {L : List (Option Value)} {st : List Value} {H : HP} {Q : Option Value → HP → Prop} : Go 49 90 L st H Q ↔ Go 49 93 L (vl (234881024) :: st) H Q := G_ldcl fX4_join_90 (by decide +kernel)
theorem fX4_join_93 : ft 49 93 = some (.lcmp, 0, 0, 0, .null) := by decide +kernel
theorem fX4_join_93' : ft 49 94 = some (.ifCond .le 12, 0, 0, 0, .null) := by decide +kernel
theorem gX4_join_93T {L : List (Option Value)} {a b : Int} (c : (-9223372036854775808 ≤ a ∧ a ≤ 9223372036854775807 ∧ -9223372036854775808 ≤ b ∧ b ≤ 9223372036854775807) ∧ a ≤ b) {st : List Value} {H : HP} {Q : Option Value → HP → Prop} : Go 49 93 L (vl b :: vl a :: st) H Q ↔ Go 49 106 L st H Q := G_lcT fX4_join_93 fX4_join_93' (by decide) c
theorem gX4_join_93F {L : List (Option Value)} {a b : Int} (c : (-9223372036854775808 ≤ a ∧ a ≤ 9223372036854775807 ∧ -9223372036854775808 ≤ b ∧ b ≤ 9223372036854775807) ∧ ¬ (a ≤ b)) {st : List Value} {H : HP} {Q : Option Value → HP → Prop} : Go 49 93 L (vl b :: vl a :: st) H Q ↔ Go 49 97 L st H Q := G_lcF (tg := 106) fX4_join_93 fX4_join_93' (by decide) c
theorem fX4_join_94 : ft 49 94 = some (.ifCond .le 12, 0, 0, 0, .null) := by decide +kernel
theorem gX4_join_94T {L : List (Option Value)} {a : Int} (c : (-2147483648 ≤ a ∧ a ≤ 2147483647) ∧ a ≤ 0) {st : List Value} {H : HP} {Q : Option Value → HP → Prop} : Go 49 94 L (vi a :: st) H Q ↔ Go 49 106 L st H Q := G_ifT fX4_join_94 (by decide) c
theorem gX4_join_94F {L : List (Option Value)} {a : Int} (c : (-2147483648 ≤ a ∧ a ≤ 2147483647) ∧ ¬ (a ≤ 0)) {st : List Value} {H : HP} {Q : Option Value → HP → Prop} : Go 49 94 L (vi a :: st) H Q ↔ Go 49 97 L st H Q := G_ifF (tg := 106) fX4_join_94 (by decide) c
theorem fX4_join_97 : ft 49 97 = some (.lload 13, 0, 0, 0, .null) := by decide +kernel
theorem gX4_join_97 {l0 l1 l2 l3 l4 l5 l6 l7 l8 l9 l10 l11 l12 : Option Value} {u : Int64} {st : List Value} {H : HP} {Q : Option Value → HP → Prop} : Go 49 97 [l0, l1, l2, l3, l4, l5, l6, l7, l8, l9, l10, l11, l12, some (.long u), none] st H Q ↔ Go 49 99 [l0, l1, l2, l3, l4, l5, l6, l7, l8, l9, l10, l11, l12, some (.long u), none] (.long u :: st) H Q := G_lload fX4_join_97 rfl
theorem fX4_join_99 : ft 49 99 = some (.ldc2_w 126, 0, 0, 522, .long (469762049)) := by decide +kernel
theorem gX4_join_99 {L : List (Option Value)} {st : List Value} {H : HP} {Q : Option Value → HP → Prop} : Go 49 99 L st H Q ↔ Go 49 102 L (vl (469762049) :: st) H Q := G_ldcl fX4_join_99 (by decide +kernel)
theorem fX4_join_102 : ft 49 102 = some (.lsub, 0, 0, 0, .null) := by decide +kernel
theorem gX4_join_102 {L : List (Option Value)} {a b : Int} {st : List Value} {H : HP} {Q : Option Value → HP → Prop} : Go 49 102 L (vl b :: vl a :: st) H Q ↔ Go 49 103 L (vl (a - b) :: st) H Q := G_lsub fX4_join_102
theorem fX4_join_103 : ft 49 103 = some (.goto 5, 0, 0, 0, .null) := by decide +kernel
theorem gX4_join_103 {L : List (Option Value)} {st : List Value} {H : HP} {Q : Option Value → HP → Prop} : Go 49 103 L st H Q ↔ Go 49 108 L st H Q := G_goto fX4_join_103 (by decide)
theorem fX4_join_106 : ft 49 106 = some (.lload 13, 0, 0, 0, .null) := by decide +kernel
theorem gX4_join_106 {l0 l1 l2 l3 l4 l5 l6 l7 l8 l9 l10 l11 l12 : Option Value} {u : Int64} {st : List Value} {H : HP} {Q : Option Value → HP → Prop} : Go 49 106 [l0, l1, l2, l3, l4, l5, l6, l7, l8, l9, l10, l11, l12, some (.long u), none] st H Q ↔ Go 49 108 [l0, l1, l2, l3, l4, l5, l6, l7, l8, l9, l10, l11, l12, some (.long u), none] (.long u :: st) H Q := G_lload fX4_join_106 rfl
theorem fX4_join_108 : ft 49 108 = some (.ldc2_w 59, 0, 0, 189, .long (1002772198720536577)) := by decide +kernel
theorem gX4_join_108 {L : List (Option Value)} {st : List Value} {H : HP} {Q : Option Value → HP → Prop} : Go 49 108 L st H Q ↔ Go 49 111 L (vl (1002772198720536577) :: st) H Q := G_ldcl fX4_join_108 (by decide +kernel)
theorem fX4_join_111 : ft 49 111 = some (.invokevirtual 128, 67, 0, 523, .null) := by decide +kernel
theorem gX4_join_111 {L : List (Option Value)} {p : Nat} {a0 : Int64} {a1 : Int64}  {H : HP} {Q : Option Value → HP → Prop} : Go 49 111 L (.long a1 :: .long a0 :: .ref p :: []) H Q ↔ (iso 7 (hget H p) = true ∧ Go 67 0 [some (.ref p), some (.long a0), none, some (.long a1), none, none, none] [] H (Cont 49 114 L [] Q)) := G_cV (n := 2) (N := 7) (as := [.long a1, .long a0]) (st := []) fX4_join_111 (by decide +kernel) rfl (Nat.le_of_ble_eq_true rfl) (Nat.le_of_ble_eq_true rfl) rfl
theorem fX4_join_114 : ft 49 114 = some (.return_, 0, 0, 0, .null) := by decide +kernel
theorem gX4_join_114 {L : List (Option Value)} {H : HP} {Q : Option Value → HP → Prop} : Go 49 114 L [] H Q ↔ Q none H := G_vret fX4_join_114 (by decide +kernel)
theorem fX4_around_0 : ft 50 0 = some (.iload_n 3, 0, 0, 0, .null) := by decide +kernel
theorem gX4_around_0 {l0 l1 l2 l4 l5 l6 : Option Value} {u : Int32} {st : List Value} {H : HP} {Q : Option Value → HP → Prop} : Go 50 0 [l0, l1, l2, some (.int u), l4, l5, l6] st H Q ↔ Go 50 1 [l0, l1, l2, some (.int u), l4, l5, l6] (.int u :: st) H Q := G_iload_n fX4_around_0 rfl
theorem fX4_around_1 : ft 50 1 = some (.iconst 1, 0, 0, 0, .null) := by decide +kernel
theorem gX4_around_1 {L : List (Option Value)} {st : List Value} {H : HP} {Q : Option Value → HP → Prop} : Go 50 1 L st H Q ↔ Go 50 2 L (vi 1 :: st) H Q := G_iconst fX4_around_1
theorem fX4_around_2 : ft 50 2 = some (.if_icmp .lt 9, 0, 0, 0, .null) := by decide +kernel
theorem gX4_around_2T {L : List (Option Value)} {a b : Int} (c : (-2147483648 ≤ a ∧ a ≤ 2147483647 ∧ -2147483648 ≤ b ∧ b ≤ 2147483647) ∧ a < b) {st : List Value} {H : HP} {Q : Option Value → HP → Prop} : Go 50 2 L (vi b :: vi a :: st) H Q ↔ Go 50 11 L st H Q := G_icT fX4_around_2 (by decide) c
theorem gX4_around_2F {L : List (Option Value)} {a b : Int} (c : (-2147483648 ≤ a ∧ a ≤ 2147483647 ∧ -2147483648 ≤ b ∧ b ≤ 2147483647) ∧ ¬ (a < b)) {st : List Value} {H : HP} {Q : Option Value → HP → Prop} : Go 50 2 L (vi b :: vi a :: st) H Q ↔ Go 50 5 L st H Q := G_icF (tg := 11) fX4_around_2 (by decide) c
theorem fX4_around_5 : ft 50 5 = some (.iload_n 3, 0, 0, 0, .null) := by decide +kernel
theorem gX4_around_5 {l0 l1 l2 l4 l5 l6 : Option Value} {u : Int32} {st : List Value} {H : HP} {Q : Option Value → HP → Prop} : Go 50 5 [l0, l1, l2, some (.int u), l4, l5, l6] st H Q ↔ Go 50 6 [l0, l1, l2, some (.int u), l4, l5, l6] (.int u :: st) H Q := G_iload_n fX4_around_5 rfl
theorem fX4_around_6 : ft 50 6 = some (.bipush 64, 0, 0, 0, .null) := by decide +kernel
theorem gX4_around_6 {L : List (Option Value)} {st : List Value} {H : HP} {Q : Option Value → HP → Prop} : Go 50 6 L st H Q ↔ Go 50 8 L (vi 64 :: st) H Q := G_bipush fX4_around_6 (by decide)
theorem fX4_around_8 : ft 50 8 = some (.if_icmp .le 4, 0, 0, 0, .null) := by decide +kernel
theorem gX4_around_8T {L : List (Option Value)} {a b : Int} (c : (-2147483648 ≤ a ∧ a ≤ 2147483647 ∧ -2147483648 ≤ b ∧ b ≤ 2147483647) ∧ a ≤ b) {st : List Value} {H : HP} {Q : Option Value → HP → Prop} : Go 50 8 L (vi b :: vi a :: st) H Q ↔ Go 50 12 L st H Q := G_icT fX4_around_8 (by decide) c
theorem gX4_around_8F {L : List (Option Value)} {a b : Int} (c : (-2147483648 ≤ a ∧ a ≤ 2147483647 ∧ -2147483648 ≤ b ∧ b ≤ 2147483647) ∧ ¬ (a ≤ b)) {st : List Value} {H : HP} {Q : Option Value → HP → Prop} : Go 50 8 L (vi b :: vi a :: st) H Q ↔ Go 50 11 L st H Q := G_icF (tg := 12) fX4_around_8 (by decide) c
theorem fX4_around_11 : ft 50 11 = some (.return_, 0, 0, 0, .null) := by decide +kernel
theorem gX4_around_11 {L : List (Option Value)} {H : HP} {Q : Option Value → HP → Prop} : Go 50 11 L [] H Q ↔ Q none H := G_vret fX4_around_11 (by decide +kernel)
theorem fX4_around_12 : ft 50 12 = some (.aload_n 0, 0, 0, 0, .null) := by decide +kernel
theorem gX4_around_12 {l1 l2 l3 l4 l5 l6 : Option Value} {u : Nat} {st : List Value} {H : HP} {Q : Option Value → HP → Prop} : Go 50 12 [some (.ref u), l1, l2, l3, l4, l5, l6] st H Q ↔ Go 50 13 [some (.ref u), l1, l2, l3, l4, l5, l6] (.ref u :: st) H Q := G_aload_n fX4_around_12 rfl
theorem fX4_around_13 : ft 50 13 = some (.iload_n 3, 0, 0, 0, .null) := by decide +kernel
theorem gX4_around_13 {l0 l1 l2 l4 l5 l6 : Option Value} {u : Int32} {st : List Value} {H : HP} {Q : Option Value → HP → Prop} : Go 50 13 [l0, l1, l2, some (.int u), l4, l5, l6] st H Q ↔ Go 50 14 [l0, l1, l2, some (.int u), l4, l5, l6] (.int u :: st) H Q := G_iload_n fX4_around_13 rfl
theorem fX4_around_14 : ft 50 14 = some (.putfield 18, 4, 2, 194, .null) := by decide +kernel
theorem gX4_around_14 {L : List (Option Value)} {p : Nat} {u : Int32} (hp : p ≠ 0) {st : List Value} {H : HP} {Q : Option Value → HP → Prop} : Go 50 14 L (.int u :: .ref p :: st) H Q ↔ Wr (pF' 4 2 (hget H p) (.int u)) p 50 17 L st H Q := G_putf fX4_around_14 ⟨⟨rfl, rfl⟩, rfl, Or.inl rfl⟩ hp
theorem fX4_around_17 : ft 50 17 = some (.iconst 0, 0, 0, 0, .null) := by decide +kernel
theorem gX4_around_17 {L : List (Option Value)} {st : List Value} {H : HP} {Q : Option Value → HP → Prop} : Go 50 17 L st H Q ↔ Go 50 18 L (vi 0 :: st) H Q := G_iconst fX4_around_17
theorem fX4_around_18 : ft 50 18 = some (.istore 4, 0, 0, 0, .null) := by decide +kernel
theorem gX4_around_18 {l0 l1 l2 l3 l4 l5 l6 : Option Value} {u : Int32} {st : List Value} {H : HP} {Q : Option Value → HP → Prop} : Go 50 18 [l0, l1, l2, l3, l4, l5, l6] (.int u :: st) H Q ↔ Go 50 20 [l0, l1, l2, l3, some (.int u), l5, l6] st H Q := G_istore fX4_around_18 rfl
theorem fX4_around_20 : ft 50 20 = some (.iload 4, 0, 0, 0, .null) := by decide +kernel
theorem gX4_around_20 {l0 l1 l2 l3 l5 l6 : Option Value} {u : Int32} {st : List Value} {H : HP} {Q : Option Value → HP → Prop} : Go 50 20 [l0, l1, l2, l3, some (.int u), l5, l6] st H Q ↔ Go 50 22 [l0, l1, l2, l3, some (.int u), l5, l6] (.int u :: st) H Q := G_iload fX4_around_20 rfl
theorem fX4_around_22 : ft 50 22 = some (.iload_n 3, 0, 0, 0, .null) := by decide +kernel
theorem gX4_around_22 {l0 l1 l2 l4 l5 l6 : Option Value} {u : Int32} {st : List Value} {H : HP} {Q : Option Value → HP → Prop} : Go 50 22 [l0, l1, l2, some (.int u), l4, l5, l6] st H Q ↔ Go 50 23 [l0, l1, l2, some (.int u), l4, l5, l6] (.int u :: st) H Q := G_iload_n fX4_around_22 rfl
theorem fX4_around_23 : ft 50 23 = some (.if_icmp .ge 91, 0, 0, 0, .null) := by decide +kernel
theorem gX4_around_23T {L : List (Option Value)} {a b : Int} (c : (-2147483648 ≤ a ∧ a ≤ 2147483647 ∧ -2147483648 ≤ b ∧ b ≤ 2147483647) ∧ b ≤ a) {st : List Value} {H : HP} {Q : Option Value → HP → Prop} : Go 50 23 L (vi b :: vi a :: st) H Q ↔ Go 50 114 L st H Q := G_icT fX4_around_23 (by decide) c
theorem gX4_around_23F {L : List (Option Value)} {a b : Int} (c : (-2147483648 ≤ a ∧ a ≤ 2147483647 ∧ -2147483648 ≤ b ∧ b ≤ 2147483647) ∧ ¬ (b ≤ a)) {st : List Value} {H : HP} {Q : Option Value → HP → Prop} : Go 50 23 L (vi b :: vi a :: st) H Q ↔ Go 50 26 L st H Q := G_icF (tg := 114) fX4_around_23 (by decide) c
theorem fX4_around_26 : ft 50 26 = some (.aload_n 0, 0, 0, 0, .null) := by decide +kernel
theorem gX4_around_26 {l1 l2 l3 l4 l5 l6 : Option Value} {u : Nat} {st : List Value} {H : HP} {Q : Option Value → HP → Prop} : Go 50 26 [some (.ref u), l1, l2, l3, l4, l5, l6] st H Q ↔ Go 50 27 [some (.ref u), l1, l2, l3, l4, l5, l6] (.ref u :: st) H Q := G_aload_n fX4_around_26 rfl
theorem fX4_around_27 : ft 50 27 = some (.getfield 25, 4, 3, 196, .null) := by decide +kernel
theorem gX4_around_27 {L : List (Option Value)} {p : Nat} {st : List Value} {H : HP} {Q : Option Value → HP → Prop} : Go 50 27 L (.ref p :: st) H Q ↔ Rd (gF' 4 3 (hget H p)) 50 30 L st H Q := G_getf fX4_around_27 ⟨rfl, rfl⟩
theorem fX4_around_30 : ft 50 30 = some (.invokevirtual 74, 64, 0, 460, .null) := by decide +kernel
theorem gX4_around_30 {L : List (Option Value)} {p : Nat}   {H : HP} {Q : Option Value → HP → Prop} : Go 50 30 L (.ref p :: []) H Q ↔ (iso 7 (hget H p) = true ∧ Go 64 0 [some (.ref p)] [] H (Cont 50 33 L [] Q)) := G_cV (n := 0) (N := 1) (as := []) (st := []) fX4_around_30 (by decide +kernel) rfl (Nat.le_of_ble_eq_true rfl) (Nat.le_of_ble_eq_true rfl) rfl
theorem fX4_around_33 : ft 50 33 = some (.iconst 0, 0, 0, 0, .null) := by decide +kernel
theorem gX4_around_33 {L : List (Option Value)} {st : List Value} {H : HP} {Q : Option Value → HP → Prop} : Go 50 33 L st H Q ↔ Go 50 34 L (vi 0 :: st) H Q := G_iconst fX4_around_33
theorem fX4_around_34 : ft 50 34 = some (.istore 5, 0, 0, 0, .null) := by decide +kernel
theorem gX4_around_34 {l0 l1 l2 l3 l4 l5 l6 : Option Value} {u : Int32} {st : List Value} {H : HP} {Q : Option Value → HP → Prop} : Go 50 34 [l0, l1, l2, l3, l4, l5, l6] (.int u :: st) H Q ↔ Go 50 36 [l0, l1, l2, l3, l4, some (.int u), l6] st H Q := G_istore fX4_around_34 rfl
theorem fX4_around_36 : ft 50 36 = some (.iload 5, 0, 0, 0, .null) := by decide +kernel
theorem gX4_around_36 {l0 l1 l2 l3 l4 l6 : Option Value} {u : Int32} {st : List Value} {H : HP} {Q : Option Value → HP → Prop} : Go 50 36 [l0, l1, l2, l3, l4, some (.int u), l6] st H Q ↔ Go 50 38 [l0, l1, l2, l3, l4, some (.int u), l6] (.int u :: st) H Q := G_iload fX4_around_36 rfl
theorem fX4_around_38 : ft 50 38 = some (.aload_n 1, 0, 0, 0, .null) := by decide +kernel
theorem gX4_around_38 {l0 l2 l3 l4 l5 l6 : Option Value} {u : Nat} {st : List Value} {H : HP} {Q : Option Value → HP → Prop} : Go 50 38 [l0, some (.ref u), l2, l3, l4, l5, l6] st H Q ↔ Go 50 39 [l0, some (.ref u), l2, l3, l4, l5, l6] (.ref u :: st) H Q := G_aload_n fX4_around_38 rfl
theorem fX4_around_39 : ft 50 39 = some (.invokevirtual 68, 55, 0, 454, .null) := by decide +kernel
theorem gX4_around_39 {L : List (Option Value)} {p : Nat}  {r0 : Int32} {H : HP} {Q : Option Value → HP → Prop} : Go 50 39 L (.ref p :: [.int r0]) H Q ↔ (iso 5 (hget H p) = true ∧ Go 55 0 [some (.ref p)] [] H (Cont 50 42 L [.int r0] Q)) := G_cV (n := 0) (N := 1) (as := []) (st := [.int r0]) fX4_around_39 (by decide +kernel) rfl (Nat.le_of_ble_eq_true rfl) (Nat.le_of_ble_eq_true rfl) rfl
theorem fX4_around_42 : ft 50 42 = some (.if_icmp .ge 60, 0, 0, 0, .null) := by decide +kernel
theorem gX4_around_42T {L : List (Option Value)} {a b : Int} (c : (-2147483648 ≤ a ∧ a ≤ 2147483647 ∧ -2147483648 ≤ b ∧ b ≤ 2147483647) ∧ b ≤ a) {st : List Value} {H : HP} {Q : Option Value → HP → Prop} : Go 50 42 L (vi b :: vi a :: st) H Q ↔ Go 50 102 L st H Q := G_icT fX4_around_42 (by decide) c
theorem gX4_around_42F {L : List (Option Value)} {a b : Int} (c : (-2147483648 ≤ a ∧ a ≤ 2147483647 ∧ -2147483648 ≤ b ∧ b ≤ 2147483647) ∧ ¬ (b ≤ a)) {st : List Value} {H : HP} {Q : Option Value → HP → Prop} : Go 50 42 L (vi b :: vi a :: st) H Q ↔ Go 50 45 L st H Q := G_icF (tg := 102) fX4_around_42 (by decide) c
theorem fX4_around_45 : ft 50 45 = some (.iload 4, 0, 0, 0, .null) := by decide +kernel
theorem gX4_around_45 {l0 l1 l2 l3 l5 l6 : Option Value} {u : Int32} {st : List Value} {H : HP} {Q : Option Value → HP → Prop} : Go 50 45 [l0, l1, l2, l3, some (.int u), l5, l6] st H Q ↔ Go 50 47 [l0, l1, l2, l3, some (.int u), l5, l6] (.int u :: st) H Q := G_iload fX4_around_45 rfl
theorem fX4_around_47 : ft 50 47 = some (.iload 5, 0, 0, 0, .null) := by decide +kernel
theorem gX4_around_47 {l0 l1 l2 l3 l4 l6 : Option Value} {u : Int32} {st : List Value} {H : HP} {Q : Option Value → HP → Prop} : Go 50 47 [l0, l1, l2, l3, l4, some (.int u), l6] st H Q ↔ Go 50 49 [l0, l1, l2, l3, l4, some (.int u), l6] (.int u :: st) H Q := G_iload fX4_around_47 rfl
theorem fX4_around_49 : ft 50 49 = some (.isub, 0, 0, 0, .null) := by decide +kernel
theorem gX4_around_49 {L : List (Option Value)} {a b : Int} {st : List Value} {H : HP} {Q : Option Value → HP → Prop} : Go 50 49 L (vi b :: vi a :: st) H Q ↔ Go 50 50 L (vi (a - b) :: st) H Q := G_isub fX4_around_49
theorem fX4_around_50 : ft 50 50 = some (.iload_n 3, 0, 0, 0, .null) := by decide +kernel
theorem gX4_around_50 {l0 l1 l2 l4 l5 l6 : Option Value} {u : Int32} {st : List Value} {H : HP} {Q : Option Value → HP → Prop} : Go 50 50 [l0, l1, l2, some (.int u), l4, l5, l6] st H Q ↔ Go 50 51 [l0, l1, l2, some (.int u), l4, l5, l6] (.int u :: st) H Q := G_iload_n fX4_around_50 rfl
theorem fX4_around_51 : ft 50 51 = some (.invokestatic 132, 183, 0, 537, .null) := by decide +kernel
theorem gX4_around_51 {L : List (Option Value)} {a0 : Int32} {a1 : Int32}  {H : HP} {Q : Option Value → HP → Prop} : Go 50 51 L (.int a1 :: .int a0 :: []) H Q ↔ Go 183 0 [some (.int a0), some (.int a1), none] [] H (Cont 50 54 L [] Q) := G_cS (n := 2) (N := 3) (as := [.int a1, .int a0]) (st := []) fX4_around_51 (by decide +kernel) rfl (Nat.le_of_ble_eq_true rfl) (Nat.le_of_ble_eq_true rfl) rfl
theorem fX4_around_54 : ft 50 54 = some (.istore 6, 0, 0, 0, .null) := by decide +kernel
theorem gX4_around_54 {l0 l1 l2 l3 l4 l5 l6 : Option Value} {u : Int32} {st : List Value} {H : HP} {Q : Option Value → HP → Prop} : Go 50 54 [l0, l1, l2, l3, l4, l5, l6] (.int u :: st) H Q ↔ Go 50 56 [l0, l1, l2, l3, l4, l5, some (.int u)] st H Q := G_istore fX4_around_54 rfl
theorem fX4_around_56 : ft 50 56 = some (.iload 6, 0, 0, 0, .null) := by decide +kernel
theorem gX4_around_56 {l0 l1 l2 l3 l4 l5 : Option Value} {u : Int32} {st : List Value} {H : HP} {Q : Option Value → HP → Prop} : Go 50 56 [l0, l1, l2, l3, l4, l5, some (.int u)] st H Q ↔ Go 50 58 [l0, l1, l2, l3, l4, l5, some (.int u)] (.int u :: st) H Q := G_iload fX4_around_56 rfl
theorem fX4_around_58 : ft 50 58 = some (.aload_n 2, 0, 0, 0, .null) := by decide +kernel
theorem gX4_around_58 {l0 l1 l3 l4 l5 l6 : Option Value} {u : Nat} {st : List Value} {H : HP} {Q : Option Value → HP → Prop} : Go 50 58 [l0, l1, some (.ref u), l3, l4, l5, l6] st H Q ↔ Go 50 59 [l0, l1, some (.ref u), l3, l4, l5, l6] (.ref u :: st) H Q := G_aload_n fX4_around_58 rfl
theorem fX4_around_59 : ft 50 59 = some (.invokevirtual 68, 55, 0, 454, .null) := by decide +kernel
theorem gX4_around_59 {L : List (Option Value)} {p : Nat}  {r0 : Int32} {H : HP} {Q : Option Value → HP → Prop} : Go 50 59 L (.ref p :: [.int r0]) H Q ↔ (iso 5 (hget H p) = true ∧ Go 55 0 [some (.ref p)] [] H (Cont 50 62 L [.int r0] Q)) := G_cV (n := 0) (N := 1) (as := []) (st := [.int r0]) fX4_around_59 (by decide +kernel) rfl (Nat.le_of_ble_eq_true rfl) (Nat.le_of_ble_eq_true rfl) rfl
theorem fX4_around_62 : ft 50 62 = some (.if_icmp .ge 34, 0, 0, 0, .null) := by decide +kernel
theorem gX4_around_62T {L : List (Option Value)} {a b : Int} (c : (-2147483648 ≤ a ∧ a ≤ 2147483647 ∧ -2147483648 ≤ b ∧ b ≤ 2147483647) ∧ b ≤ a) {st : List Value} {H : HP} {Q : Option Value → HP → Prop} : Go 50 62 L (vi b :: vi a :: st) H Q ↔ Go 50 96 L st H Q := G_icT fX4_around_62 (by decide) c
theorem gX4_around_62F {L : List (Option Value)} {a b : Int} (c : (-2147483648 ≤ a ∧ a ≤ 2147483647 ∧ -2147483648 ≤ b ∧ b ≤ 2147483647) ∧ ¬ (b ≤ a)) {st : List Value} {H : HP} {Q : Option Value → HP → Prop} : Go 50 62 L (vi b :: vi a :: st) H Q ↔ Go 50 65 L st H Q := G_icF (tg := 96) fX4_around_62 (by decide) c
theorem fX4_around_65 : ft 50 65 = some (.aload_n 0, 0, 0, 0, .null) := by decide +kernel
theorem gX4_around_65 {l1 l2 l3 l4 l5 l6 : Option Value} {u : Nat} {st : List Value} {H : HP} {Q : Option Value → HP → Prop} : Go 50 65 [some (.ref u), l1, l2, l3, l4, l5, l6] st H Q ↔ Go 50 66 [some (.ref u), l1, l2, l3, l4, l5, l6] (.ref u :: st) H Q := G_aload_n fX4_around_65 rfl
theorem fX4_around_66 : ft 50 66 = some (.getfield 25, 4, 3, 196, .null) := by decide +kernel
theorem gX4_around_66 {L : List (Option Value)} {p : Nat} {st : List Value} {H : HP} {Q : Option Value → HP → Prop} : Go 50 66 L (.ref p :: st) H Q ↔ Rd (gF' 4 3 (hget H p)) 50 69 L st H Q := G_getf fX4_around_66 ⟨rfl, rfl⟩
theorem fX4_around_69 : ft 50 69 = some (.aload_n 1, 0, 0, 0, .null) := by decide +kernel
theorem gX4_around_69 {l0 l2 l3 l4 l5 l6 : Option Value} {u : Nat} {st : List Value} {H : HP} {Q : Option Value → HP → Prop} : Go 50 69 [l0, some (.ref u), l2, l3, l4, l5, l6] st H Q ↔ Go 50 70 [l0, some (.ref u), l2, l3, l4, l5, l6] (.ref u :: st) H Q := G_aload_n fX4_around_69 rfl
theorem fX4_around_70 : ft 50 70 = some (.getfield 83, 5, 1, 287, .null) := by decide +kernel
theorem gX4_around_70 {L : List (Option Value)} {p : Nat} {st : List Value} {H : HP} {Q : Option Value → HP → Prop} : Go 50 70 L (.ref p :: st) H Q ↔ Rd (gF' 5 1 (hget H p)) 50 73 L st H Q := G_getf fX4_around_70 ⟨rfl, rfl⟩
theorem fX4_around_73 : ft 50 73 = some (.iload 5, 0, 0, 0, .null) := by decide +kernel
theorem gX4_around_73 {l0 l1 l2 l3 l4 l6 : Option Value} {u : Int32} {st : List Value} {H : HP} {Q : Option Value → HP → Prop} : Go 50 73 [l0, l1, l2, l3, l4, some (.int u), l6] st H Q ↔ Go 50 75 [l0, l1, l2, l3, l4, some (.int u), l6] (.int u :: st) H Q := G_iload fX4_around_73 rfl
theorem fX4_around_75 : ft 50 75 = some (.laload, 0, 0, 0, .null) := by decide +kernel
theorem gX4_around_75 {L : List (Option Value)} {p : Nat} {a : Int} {st : List Value} {H : HP} {Q : Option Value → HP → Prop} : Go 50 75 L (vi a :: .ref p :: st) H Q ↔ Rd (aL' (hget H p) a) 50 76 L st H Q := G_lald fX4_around_75
theorem fX4_around_76 : ft 50 76 = some (.aload_n 2, 0, 0, 0, .null) := by decide +kernel
theorem gX4_around_76 {l0 l1 l3 l4 l5 l6 : Option Value} {u : Nat} {st : List Value} {H : HP} {Q : Option Value → HP → Prop} : Go 50 76 [l0, l1, some (.ref u), l3, l4, l5, l6] st H Q ↔ Go 50 77 [l0, l1, some (.ref u), l3, l4, l5, l6] (.ref u :: st) H Q := G_aload_n fX4_around_76 rfl
theorem fX4_around_77 : ft 50 77 = some (.getfield 83, 5, 1, 287, .null) := by decide +kernel
theorem gX4_around_77 {L : List (Option Value)} {p : Nat} {st : List Value} {H : HP} {Q : Option Value → HP → Prop} : Go 50 77 L (.ref p :: st) H Q ↔ Rd (gF' 5 1 (hget H p)) 50 80 L st H Q := G_getf fX4_around_77 ⟨rfl, rfl⟩
theorem fX4_around_80 : ft 50 80 = some (.iload 6, 0, 0, 0, .null) := by decide +kernel
theorem gX4_around_80 {l0 l1 l2 l3 l4 l5 : Option Value} {u : Int32} {st : List Value} {H : HP} {Q : Option Value → HP → Prop} : Go 50 80 [l0, l1, l2, l3, l4, l5, some (.int u)] st H Q ↔ Go 50 82 [l0, l1, l2, l3, l4, l5, some (.int u)] (.int u :: st) H Q := G_iload fX4_around_80 rfl
theorem fX4_around_82 : ft 50 82 = some (.laload, 0, 0, 0, .null) := by decide +kernel
theorem gX4_around_82 {L : List (Option Value)} {p : Nat} {a : Int} {st : List Value} {H : HP} {Q : Option Value → HP → Prop} : Go 50 82 L (vi a :: .ref p :: st) H Q ↔ Rd (aL' (hget H p) a) 50 83 L st H Q := G_lald fX4_around_82
theorem fX4_around_83 : ft 50 83 = some (.lmul, 0, 0, 0, .null) := by decide +kernel
theorem gX4_around_83 {L : List (Option Value)} {a b : Int} {st : List Value} {H : HP} {Q : Option Value → HP → Prop} : Go 50 83 L (vl b :: vl a :: st) H Q ↔ Go 50 84 L (vl (a * b) :: st) H Q := G_lmul fX4_around_83
theorem fX4_around_84 : ft 50 84 = some (.invokevirtual 86, 65, 0, 465, .null) := by decide +kernel
theorem gX4_around_84 {L : List (Option Value)} {p : Nat} {a0 : Int64}  {H : HP} {Q : Option Value → HP → Prop} : Go 50 84 L (.long a0 :: .ref p :: []) H Q ↔ (iso 7 (hget H p) = true ∧ Go 65 0 [some (.ref p), some (.long a0), none] [] H (Cont 50 87 L [] Q)) := G_cV (n := 1) (N := 3) (as := [.long a0]) (st := []) fX4_around_84 (by decide +kernel) rfl (Nat.le_of_ble_eq_true rfl) (Nat.le_of_ble_eq_true rfl) rfl
theorem fX4_around_87 : ft 50 87 = some (.iload 6, 0, 0, 0, .null) := by decide +kernel
theorem gX4_around_87 {l0 l1 l2 l3 l4 l5 : Option Value} {u : Int32} {st : List Value} {H : HP} {Q : Option Value → HP → Prop} : Go 50 87 [l0, l1, l2, l3, l4, l5, some (.int u)] st H Q ↔ Go 50 89 [l0, l1, l2, l3, l4, l5, some (.int u)] (.int u :: st) H Q := G_iload fX4_around_87 rfl
theorem fX4_around_89 : ft 50 89 = some (.iload_n 3, 0, 0, 0, .null) := by decide +kernel
theorem gX4_around_89 {l0 l1 l2 l4 l5 l6 : Option Value} {u : Int32} {st : List Value} {H : HP} {Q : Option Value → HP → Prop} : Go 50 89 [l0, l1, l2, some (.int u), l4, l5, l6] st H Q ↔ Go 50 90 [l0, l1, l2, some (.int u), l4, l5, l6] (.int u :: st) H Q := G_iload_n fX4_around_89 rfl
theorem fX4_around_90 : ft 50 90 = some (.iadd, 0, 0, 0, .null) := by decide +kernel
theorem gX4_around_90 {L : List (Option Value)} {a b : Int} {st : List Value} {H : HP} {Q : Option Value → HP → Prop} : Go 50 90 L (vi b :: vi a :: st) H Q ↔ Go 50 91 L (vi (a + b) :: st) H Q := G_iadd fX4_around_90
theorem fX4_around_91 : ft 50 91 = some (.istore 6, 0, 0, 0, .null) := by decide +kernel
theorem gX4_around_91 {l0 l1 l2 l3 l4 l5 l6 : Option Value} {u : Int32} {st : List Value} {H : HP} {Q : Option Value → HP → Prop} : Go 50 91 [l0, l1, l2, l3, l4, l5, l6] (.int u :: st) H Q ↔ Go 50 93 [l0, l1, l2, l3, l4, l5, some (.int u)] st H Q := G_istore fX4_around_91 rfl
theorem fX4_around_93 : ft 50 93 = some (.goto (-37), 0, 0, 0, .null) := by decide +kernel
theorem gX4_around_93 {L : List (Option Value)} {st : List Value} {H : HP} {Q : Option Value → HP → Prop} : Go 50 93 L st H Q ↔ Go 50 56 L st H Q := G_goto fX4_around_93 (by decide)
theorem fX4_around_96 : ft 50 96 = some (.iinc 5 1, 0, 0, 0, .null) := by decide +kernel
theorem gX4_around_96 {l0 l1 l2 l3 l4 l6 : Option Value} {a : Int} {st : List Value} {H : HP} {Q : Option Value → HP → Prop} : Go 50 96 [l0, l1, l2, l3, l4, some (vi a), l6] st H Q ↔ Go 50 99 [l0, l1, l2, l3, l4, some (vi (a + 1)), l6] st H Q := G_iinc fX4_around_96 rfl rfl
theorem fX4_around_99 : ft 50 99 = some (.goto (-63), 0, 0, 0, .null) := by decide +kernel
theorem gX4_around_99 {L : List (Option Value)} {st : List Value} {H : HP} {Q : Option Value → HP → Prop} : Go 50 99 L st H Q ↔ Go 50 36 L st H Q := G_goto fX4_around_99 (by decide)
theorem fX4_around_102 : ft 50 102 = some (.aload_n 0, 0, 0, 0, .null) := by decide +kernel
theorem gX4_around_102 {l1 l2 l3 l4 l5 l6 : Option Value} {u : Nat} {st : List Value} {H : HP} {Q : Option Value → HP → Prop} : Go 50 102 [some (.ref u), l1, l2, l3, l4, l5, l6] st H Q ↔ Go 50 103 [some (.ref u), l1, l2, l3, l4, l5, l6] (.ref u :: st) H Q := G_aload_n fX4_around_102 rfl
theorem fX4_around_103 : ft 50 103 = some (.iload 4, 0, 0, 0, .null) := by decide +kernel
theorem gX4_around_103 {l0 l1 l2 l3 l5 l6 : Option Value} {u : Int32} {st : List Value} {H : HP} {Q : Option Value → HP → Prop} : Go 50 103 [l0, l1, l2, l3, some (.int u), l5, l6] st H Q ↔ Go 50 105 [l0, l1, l2, l3, some (.int u), l5, l6] (.int u :: st) H Q := G_iload fX4_around_103 rfl
theorem fX4_around_105 : ft 50 105 = some (.invokevirtual 90, 44, 0, 474, .null) := by decide +kernel
theorem gX4_around_105 {L : List (Option Value)} {p : Nat} {a0 : Int32}  {H : HP} {Q : Option Value → HP → Prop} : Go 50 105 L (.int a0 :: .ref p :: []) H Q ↔ (iso 4 (hget H p) = true ∧ Go 44 0 [some (.ref p), some (.int a0)] [] H (Cont 50 108 L [] Q)) := G_cV (n := 1) (N := 2) (as := [.int a0]) (st := []) fX4_around_105 (by decide +kernel) rfl (Nat.le_of_ble_eq_true rfl) (Nat.le_of_ble_eq_true rfl) rfl
theorem fX4_around_108 : ft 50 108 = some (.iinc 4 1, 0, 0, 0, .null) := by decide +kernel
theorem gX4_around_108 {l0 l1 l2 l3 l5 l6 : Option Value} {a : Int} {st : List Value} {H : HP} {Q : Option Value → HP → Prop} : Go 50 108 [l0, l1, l2, l3, some (vi a), l5, l6] st H Q ↔ Go 50 111 [l0, l1, l2, l3, some (vi (a + 1)), l5, l6] st H Q := G_iinc fX4_around_108 rfl rfl
theorem fX4_around_111 : ft 50 111 = some (.goto (-91), 0, 0, 0, .null) := by decide +kernel
theorem gX4_around_111 {L : List (Option Value)} {st : List Value} {H : HP} {Q : Option Value → HP → Prop} : Go 50 111 L st H Q ↔ Go 50 20 L st H Q := G_goto fX4_around_111 (by decide)
theorem fX4_around_114 : ft 50 114 = some (.return_, 0, 0, 0, .null) := by decide +kernel
theorem gX4_around_114 {L : List (Option Value)} {H : HP} {Q : Option Value → HP → Prop} : Go 50 114 L [] H Q ↔ Q none H := G_vret fX4_around_114 (by decide +kernel)
theorem fX4_alongside_0 : ft 51 0 = some (.aload_n 0, 0, 0, 0, .null) := by decide +kernel
theorem gX4_alongside_0 {l1 l2 l3 l4 l5 : Option Value} {u : Nat} {st : List Value} {H : HP} {Q : Option Value → HP → Prop} : Go 51 0 [some (.ref u), l1, l2, l3, l4, l5] st H Q ↔ Go 51 1 [some (.ref u), l1, l2, l3, l4, l5] (.ref u :: st) H Q := G_aload_n fX4_alongside_0 rfl
theorem fX4_alongside_1 : ft 51 1 = some (.aload_n 1, 0, 0, 0, .null) := by decide +kernel
theorem gX4_alongside_1 {l0 l2 l3 l4 l5 : Option Value} {u : Nat} {st : List Value} {H : HP} {Q : Option Value → HP → Prop} : Go 51 1 [l0, some (.ref u), l2, l3, l4, l5] st H Q ↔ Go 51 2 [l0, some (.ref u), l2, l3, l4, l5] (.ref u :: st) H Q := G_aload_n fX4_alongside_1 rfl
theorem fX4_alongside_2 : ft 51 2 = some (.invokevirtual 68, 55, 0, 454, .null) := by decide +kernel
theorem gX4_alongside_2 {L : List (Option Value)} {p : Nat}  {r0 : Nat} {H : HP} {Q : Option Value → HP → Prop} : Go 51 2 L (.ref p :: [.ref r0]) H Q ↔ (iso 5 (hget H p) = true ∧ Go 55 0 [some (.ref p)] [] H (Cont 51 5 L [.ref r0] Q)) := G_cV (n := 0) (N := 1) (as := []) (st := [.ref r0]) fX4_alongside_2 (by decide +kernel) rfl (Nat.le_of_ble_eq_true rfl) (Nat.le_of_ble_eq_true rfl) rfl
theorem fX4_alongside_5 : ft 51 5 = some (.aload_n 2, 0, 0, 0, .null) := by decide +kernel
theorem gX4_alongside_5 {l0 l1 l3 l4 l5 : Option Value} {u : Nat} {st : List Value} {H : HP} {Q : Option Value → HP → Prop} : Go 51 5 [l0, l1, some (.ref u), l3, l4, l5] st H Q ↔ Go 51 6 [l0, l1, some (.ref u), l3, l4, l5] (.ref u :: st) H Q := G_aload_n fX4_alongside_5 rfl
theorem fX4_alongside_6 : ft 51 6 = some (.invokevirtual 68, 55, 0, 454, .null) := by decide +kernel
theorem gX4_alongside_6 {L : List (Option Value)} {p : Nat}  {r0 : Int32} {r1 : Nat} {H : HP} {Q : Option Value → HP → Prop} : Go 51 6 L (.ref p :: [.int r0, .ref r1]) H Q ↔ (iso 5 (hget H p) = true ∧ Go 55 0 [some (.ref p)] [] H (Cont 51 9 L [.int r0, .ref r1] Q)) := G_cV (n := 0) (N := 1) (as := []) (st := [.int r0, .ref r1]) fX4_alongside_6 (by decide +kernel) rfl (Nat.le_of_ble_eq_true rfl) (Nat.le_of_ble_eq_true rfl) rfl
theorem fX4_alongside_9 : ft 51 9 = some (.iadd, 0, 0, 0, .null) := by decide +kernel
theorem gX4_alongside_9 {L : List (Option Value)} {a b : Int} {st : List Value} {H : HP} {Q : Option Value → HP → Prop} : Go 51 9 L (vi b :: vi a :: st) H Q ↔ Go 51 10 L (vi (a + b) :: st) H Q := G_iadd fX4_alongside_9
theorem fX4_alongside_10 : ft 51 10 = some (.iconst 1, 0, 0, 0, .null) := by decide +kernel
theorem gX4_alongside_10 {L : List (Option Value)} {st : List Value} {H : HP} {Q : Option Value → HP → Prop} : Go 51 10 L st H Q ↔ Go 51 11 L (vi 1 :: st) H Q := G_iconst fX4_alongside_10
theorem fX4_alongside_11 : ft 51 11 = some (.isub, 0, 0, 0, .null) := by decide +kernel
theorem gX4_alongside_11 {L : List (Option Value)} {a b : Int} {st : List Value} {H : HP} {Q : Option Value → HP → Prop} : Go 51 11 L (vi b :: vi a :: st) H Q ↔ Go 51 12 L (vi (a - b) :: st) H Q := G_isub fX4_alongside_11
theorem fX4_alongside_12 : ft 51 12 = some (.putfield 18, 4, 2, 194, .null) := by decide +kernel
theorem gX4_alongside_12 {L : List (Option Value)} {p : Nat} {u : Int32} (hp : p ≠ 0) {st : List Value} {H : HP} {Q : Option Value → HP → Prop} : Go 51 12 L (.int u :: .ref p :: st) H Q ↔ Wr (pF' 4 2 (hget H p) (.int u)) p 51 15 L st H Q := G_putf fX4_alongside_12 ⟨⟨rfl, rfl⟩, rfl, Or.inl rfl⟩ hp
theorem fX4_alongside_15 : ft 51 15 = some (.iconst 0, 0, 0, 0, .null) := by decide +kernel
theorem gX4_alongside_15 {L : List (Option Value)} {st : List Value} {H : HP} {Q : Option Value → HP → Prop} : Go 51 15 L st H Q ↔ Go 51 16 L (vi 0 :: st) H Q := G_iconst fX4_alongside_15
theorem fX4_alongside_16 : ft 51 16 = some (.istore_n 3, 0, 0, 0, .null) := by decide +kernel
theorem gX4_alongside_16 {l0 l1 l2 l3 l4 l5 : Option Value} {u : Int32} {st : List Value} {H : HP} {Q : Option Value → HP → Prop} : Go 51 16 [l0, l1, l2, l3, l4, l5] (.int u :: st) H Q ↔ Go 51 17 [l0, l1, l2, some (.int u), l4, l5] st H Q := G_istore_n fX4_alongside_16 rfl
theorem fX4_alongside_17 : ft 51 17 = some (.iload_n 3, 0, 0, 0, .null) := by decide +kernel
theorem gX4_alongside_17 {l0 l1 l2 l4 l5 : Option Value} {u : Int32} {st : List Value} {H : HP} {Q : Option Value → HP → Prop} : Go 51 17 [l0, l1, l2, some (.int u), l4, l5] st H Q ↔ Go 51 18 [l0, l1, l2, some (.int u), l4, l5] (.int u :: st) H Q := G_iload_n fX4_alongside_17 rfl
theorem fX4_alongside_18 : ft 51 18 = some (.aload_n 0, 0, 0, 0, .null) := by decide +kernel
theorem gX4_alongside_18 {l1 l2 l3 l4 l5 : Option Value} {u : Nat} {st : List Value} {H : HP} {Q : Option Value → HP → Prop} : Go 51 18 [some (.ref u), l1, l2, l3, l4, l5] st H Q ↔ Go 51 19 [some (.ref u), l1, l2, l3, l4, l5] (.ref u :: st) H Q := G_aload_n fX4_alongside_18 rfl
theorem fX4_alongside_19 : ft 51 19 = some (.getfield 18, 4, 2, 194, .null) := by decide +kernel
theorem gX4_alongside_19 {L : List (Option Value)} {p : Nat} {st : List Value} {H : HP} {Q : Option Value → HP → Prop} : Go 51 19 L (.ref p :: st) H Q ↔ Rd (gF' 4 2 (hget H p)) 51 22 L st H Q := G_getf fX4_alongside_19 ⟨rfl, rfl⟩
theorem fX4_alongside_22 : ft 51 22 = some (.if_icmp .ge 92, 0, 0, 0, .null) := by decide +kernel
theorem gX4_alongside_22T {L : List (Option Value)} {a b : Int} (c : (-2147483648 ≤ a ∧ a ≤ 2147483647 ∧ -2147483648 ≤ b ∧ b ≤ 2147483647) ∧ b ≤ a) {st : List Value} {H : HP} {Q : Option Value → HP → Prop} : Go 51 22 L (vi b :: vi a :: st) H Q ↔ Go 51 114 L st H Q := G_icT fX4_alongside_22 (by decide) c
theorem gX4_alongside_22F {L : List (Option Value)} {a b : Int} (c : (-2147483648 ≤ a ∧ a ≤ 2147483647 ∧ -2147483648 ≤ b ∧ b ≤ 2147483647) ∧ ¬ (b ≤ a)) {st : List Value} {H : HP} {Q : Option Value → HP → Prop} : Go 51 22 L (vi b :: vi a :: st) H Q ↔ Go 51 25 L st H Q := G_icF (tg := 114) fX4_alongside_22 (by decide) c
theorem fX4_alongside_25 : ft 51 25 = some (.iload_n 3, 0, 0, 0, .null) := by decide +kernel
theorem gX4_alongside_25 {l0 l1 l2 l4 l5 : Option Value} {u : Int32} {st : List Value} {H : HP} {Q : Option Value → HP → Prop} : Go 51 25 [l0, l1, l2, some (.int u), l4, l5] st H Q ↔ Go 51 26 [l0, l1, l2, some (.int u), l4, l5] (.int u :: st) H Q := G_iload_n fX4_alongside_25 rfl
theorem fX4_alongside_26 : ft 51 26 = some (.aload_n 2, 0, 0, 0, .null) := by decide +kernel
theorem gX4_alongside_26 {l0 l1 l3 l4 l5 : Option Value} {u : Nat} {st : List Value} {H : HP} {Q : Option Value → HP → Prop} : Go 51 26 [l0, l1, some (.ref u), l3, l4, l5] st H Q ↔ Go 51 27 [l0, l1, some (.ref u), l3, l4, l5] (.ref u :: st) H Q := G_aload_n fX4_alongside_26 rfl
theorem fX4_alongside_27 : ft 51 27 = some (.invokevirtual 68, 55, 0, 454, .null) := by decide +kernel
theorem gX4_alongside_27 {L : List (Option Value)} {p : Nat}  {r0 : Int32} {H : HP} {Q : Option Value → HP → Prop} : Go 51 27 L (.ref p :: [.int r0]) H Q ↔ (iso 5 (hget H p) = true ∧ Go 55 0 [some (.ref p)] [] H (Cont 51 30 L [.int r0] Q)) := G_cV (n := 0) (N := 1) (as := []) (st := [.int r0]) fX4_alongside_27 (by decide +kernel) rfl (Nat.le_of_ble_eq_true rfl) (Nat.le_of_ble_eq_true rfl) rfl
theorem fX4_alongside_30 : ft 51 30 = some (.iconst 1, 0, 0, 0, .null) := by decide +kernel
theorem gX4_alongside_30 {L : List (Option Value)} {st : List Value} {H : HP} {Q : Option Value → HP → Prop} : Go 51 30 L st H Q ↔ Go 51 31 L (vi 1 :: st) H Q := G_iconst fX4_alongside_30
theorem fX4_alongside_31 : ft 51 31 = some (.isub, 0, 0, 0, .null) := by decide +kernel
theorem gX4_alongside_31 {L : List (Option Value)} {a b : Int} {st : List Value} {H : HP} {Q : Option Value → HP → Prop} : Go 51 31 L (vi b :: vi a :: st) H Q ↔ Go 51 32 L (vi (a - b) :: st) H Q := G_isub fX4_alongside_31
theorem fX4_alongside_32 : ft 51 32 = some (.isub, 0, 0, 0, .null) := by decide +kernel
theorem gX4_alongside_32 {L : List (Option Value)} {a b : Int} {st : List Value} {H : HP} {Q : Option Value → HP → Prop} : Go 51 32 L (vi b :: vi a :: st) H Q ↔ Go 51 33 L (vi (a - b) :: st) H Q := G_isub fX4_alongside_32
theorem fX4_alongside_33 : ft 51 33 = some (.istore 4, 0, 0, 0, .null) := by decide +kernel
theorem gX4_alongside_33 {l0 l1 l2 l3 l4 l5 : Option Value} {u : Int32} {st : List Value} {H : HP} {Q : Option Value → HP → Prop} : Go 51 33 [l0, l1, l2, l3, l4, l5] (.int u :: st) H Q ↔ Go 51 35 [l0, l1, l2, l3, some (.int u), l5] st H Q := G_istore fX4_alongside_33 rfl
theorem fX4_alongside_35 : ft 51 35 = some (.aload_n 0, 0, 0, 0, .null) := by decide +kernel
theorem gX4_alongside_35 {l1 l2 l3 l4 l5 : Option Value} {u : Nat} {st : List Value} {H : HP} {Q : Option Value → HP → Prop} : Go 51 35 [some (.ref u), l1, l2, l3, l4, l5] st H Q ↔ Go 51 36 [some (.ref u), l1, l2, l3, l4, l5] (.ref u :: st) H Q := G_aload_n fX4_alongside_35 rfl
theorem fX4_alongside_36 : ft 51 36 = some (.getfield 25, 4, 3, 196, .null) := by decide +kernel
theorem gX4_alongside_36 {L : List (Option Value)} {p : Nat} {st : List Value} {H : HP} {Q : Option Value → HP → Prop} : Go 51 36 L (.ref p :: st) H Q ↔ Rd (gF' 4 3 (hget H p)) 51 39 L st H Q := G_getf fX4_alongside_36 ⟨rfl, rfl⟩
theorem fX4_alongside_39 : ft 51 39 = some (.invokevirtual 74, 64, 0, 460, .null) := by decide +kernel
theorem gX4_alongside_39 {L : List (Option Value)} {p : Nat}   {H : HP} {Q : Option Value → HP → Prop} : Go 51 39 L (.ref p :: []) H Q ↔ (iso 7 (hget H p) = true ∧ Go 64 0 [some (.ref p)] [] H (Cont 51 42 L [] Q)) := G_cV (n := 0) (N := 1) (as := []) (st := []) fX4_alongside_39 (by decide +kernel) rfl (Nat.le_of_ble_eq_true rfl) (Nat.le_of_ble_eq_true rfl) rfl
theorem fX4_alongside_42 : ft 51 42 = some (.iconst 0, 0, 0, 0, .null) := by decide +kernel
theorem gX4_alongside_42 {L : List (Option Value)} {st : List Value} {H : HP} {Q : Option Value → HP → Prop} : Go 51 42 L st H Q ↔ Go 51 43 L (vi 0 :: st) H Q := G_iconst fX4_alongside_42
theorem fX4_alongside_43 : ft 51 43 = some (.iload 4, 0, 0, 0, .null) := by decide +kernel
theorem gX4_alongside_43 {l0 l1 l2 l3 l5 : Option Value} {u : Int32} {st : List Value} {H : HP} {Q : Option Value → HP → Prop} : Go 51 43 [l0, l1, l2, l3, some (.int u), l5] st H Q ↔ Go 51 45 [l0, l1, l2, l3, some (.int u), l5] (.int u :: st) H Q := G_iload fX4_alongside_43 rfl
theorem fX4_alongside_45 : ft 51 45 = some (.ineg, 0, 0, 0, .null) := by decide +kernel
theorem gX4_alongside_45 {L : List (Option Value)} {a : Int} {st : List Value} {H : HP} {Q : Option Value → HP → Prop} : Go 51 45 L (vi a :: st) H Q ↔ Go 51 46 L (vi (-a) :: st) H Q := G_ineg fX4_alongside_45
theorem fX4_alongside_46 : ft 51 46 = some (.invokestatic 77, 187, 0, 464, .null) := by decide +kernel
theorem gX4_alongside_46 {L : List (Option Value)} {a0 : Int32} {a1 : Int32}  {H : HP} {Q : Option Value → HP → Prop} : Go 51 46 L (.int a1 :: .int a0 :: []) H Q ↔ Go 187 0 [some (.int a0), some (.int a1)] [] H (Cont 51 49 L [] Q) := G_cS (n := 2) (N := 2) (as := [.int a1, .int a0]) (st := []) fX4_alongside_46 (by decide +kernel) rfl (Nat.le_of_ble_eq_true rfl) (Nat.le_of_ble_eq_true rfl) rfl
theorem fX4_alongside_49 : ft 51 49 = some (.istore 5, 0, 0, 0, .null) := by decide +kernel
theorem gX4_alongside_49 {l0 l1 l2 l3 l4 l5 : Option Value} {u : Int32} {st : List Value} {H : HP} {Q : Option Value → HP → Prop} : Go 51 49 [l0, l1, l2, l3, l4, l5] (.int u :: st) H Q ↔ Go 51 51 [l0, l1, l2, l3, l4, some (.int u)] st H Q := G_istore fX4_alongside_49 rfl
theorem fX4_alongside_51 : ft 51 51 = some (.iload 5, 0, 0, 0, .null) := by decide +kernel
theorem gX4_alongside_51 {l0 l1 l2 l3 l4 : Option Value} {u : Int32} {st : List Value} {H : HP} {Q : Option Value → HP → Prop} : Go 51 51 [l0, l1, l2, l3, l4, some (.int u)] st H Q ↔ Go 51 53 [l0, l1, l2, l3, l4, some (.int u)] (.int u :: st) H Q := G_iload fX4_alongside_51 rfl
theorem fX4_alongside_53 : ft 51 53 = some (.aload_n 2, 0, 0, 0, .null) := by decide +kernel
theorem gX4_alongside_53 {l0 l1 l3 l4 l5 : Option Value} {u : Nat} {st : List Value} {H : HP} {Q : Option Value → HP → Prop} : Go 51 53 [l0, l1, some (.ref u), l3, l4, l5] st H Q ↔ Go 51 54 [l0, l1, some (.ref u), l3, l4, l5] (.ref u :: st) H Q := G_aload_n fX4_alongside_53 rfl
theorem fX4_alongside_54 : ft 51 54 = some (.invokevirtual 68, 55, 0, 454, .null) := by decide +kernel
theorem gX4_alongside_54 {L : List (Option Value)} {p : Nat}  {r0 : Int32} {H : HP} {Q : Option Value → HP → Prop} : Go 51 54 L (.ref p :: [.int r0]) H Q ↔ (iso 5 (hget H p) = true ∧ Go 55 0 [some (.ref p)] [] H (Cont 51 57 L [.int r0] Q)) := G_cV (n := 0) (N := 1) (as := []) (st := [.int r0]) fX4_alongside_54 (by decide +kernel) rfl (Nat.le_of_ble_eq_true rfl) (Nat.le_of_ble_eq_true rfl) rfl
theorem fX4_alongside_57 : ft 51 57 = some (.if_icmp .ge 46, 0, 0, 0, .null) := by decide +kernel
theorem gX4_alongside_57T {L : List (Option Value)} {a b : Int} (c : (-2147483648 ≤ a ∧ a ≤ 2147483647 ∧ -2147483648 ≤ b ∧ b ≤ 2147483647) ∧ b ≤ a) {st : List Value} {H : HP} {Q : Option Value → HP → Prop} : Go 51 57 L (vi b :: vi a :: st) H Q ↔ Go 51 103 L st H Q := G_icT fX4_alongside_57 (by decide) c
theorem gX4_alongside_57F {L : List (Option Value)} {a b : Int} (c : (-2147483648 ≤ a ∧ a ≤ 2147483647 ∧ -2147483648 ≤ b ∧ b ≤ 2147483647) ∧ ¬ (b ≤ a)) {st : List Value} {H : HP} {Q : Option Value → HP → Prop} : Go 51 57 L (vi b :: vi a :: st) H Q ↔ Go 51 60 L st H Q := G_icF (tg := 103) fX4_alongside_57 (by decide) c
theorem fX4_alongside_60 : ft 51 60 = some (.iload 5, 0, 0, 0, .null) := by decide +kernel
theorem gX4_alongside_60 {l0 l1 l2 l3 l4 : Option Value} {u : Int32} {st : List Value} {H : HP} {Q : Option Value → HP → Prop} : Go 51 60 [l0, l1, l2, l3, l4, some (.int u)] st H Q ↔ Go 51 62 [l0, l1, l2, l3, l4, some (.int u)] (.int u :: st) H Q := G_iload fX4_alongside_60 rfl
theorem fX4_alongside_62 : ft 51 62 = some (.iload 4, 0, 0, 0, .null) := by decide +kernel
theorem gX4_alongside_62 {l0 l1 l2 l3 l5 : Option Value} {u : Int32} {st : List Value} {H : HP} {Q : Option Value → HP → Prop} : Go 51 62 [l0, l1, l2, l3, some (.int u), l5] st H Q ↔ Go 51 64 [l0, l1, l2, l3, some (.int u), l5] (.int u :: st) H Q := G_iload fX4_alongside_62 rfl
theorem fX4_alongside_64 : ft 51 64 = some (.iadd, 0, 0, 0, .null) := by decide +kernel
theorem gX4_alongside_64 {L : List (Option Value)} {a b : Int} {st : List Value} {H : HP} {Q : Option Value → HP → Prop} : Go 51 64 L (vi b :: vi a :: st) H Q ↔ Go 51 65 L (vi (a + b) :: st) H Q := G_iadd fX4_alongside_64
theorem fX4_alongside_65 : ft 51 65 = some (.aload_n 1, 0, 0, 0, .null) := by decide +kernel
theorem gX4_alongside_65 {l0 l2 l3 l4 l5 : Option Value} {u : Nat} {st : List Value} {H : HP} {Q : Option Value → HP → Prop} : Go 51 65 [l0, some (.ref u), l2, l3, l4, l5] st H Q ↔ Go 51 66 [l0, some (.ref u), l2, l3, l4, l5] (.ref u :: st) H Q := G_aload_n fX4_alongside_65 rfl
theorem fX4_alongside_66 : ft 51 66 = some (.invokevirtual 68, 55, 0, 454, .null) := by decide +kernel
theorem gX4_alongside_66 {L : List (Option Value)} {p : Nat}  {r0 : Int32} {H : HP} {Q : Option Value → HP → Prop} : Go 51 66 L (.ref p :: [.int r0]) H Q ↔ (iso 5 (hget H p) = true ∧ Go 55 0 [some (.ref p)] [] H (Cont 51 69 L [.int r0] Q)) := G_cV (n := 0) (N := 1) (as := []) (st := [.int r0]) fX4_alongside_66 (by decide +kernel) rfl (Nat.le_of_ble_eq_true rfl) (Nat.le_of_ble_eq_true rfl) rfl
theorem fX4_alongside_69 : ft 51 69 = some (.if_icmp .ge 34, 0, 0, 0, .null) := by decide +kernel
theorem gX4_alongside_69T {L : List (Option Value)} {a b : Int} (c : (-2147483648 ≤ a ∧ a ≤ 2147483647 ∧ -2147483648 ≤ b ∧ b ≤ 2147483647) ∧ b ≤ a) {st : List Value} {H : HP} {Q : Option Value → HP → Prop} : Go 51 69 L (vi b :: vi a :: st) H Q ↔ Go 51 103 L st H Q := G_icT fX4_alongside_69 (by decide) c
theorem gX4_alongside_69F {L : List (Option Value)} {a b : Int} (c : (-2147483648 ≤ a ∧ a ≤ 2147483647 ∧ -2147483648 ≤ b ∧ b ≤ 2147483647) ∧ ¬ (b ≤ a)) {st : List Value} {H : HP} {Q : Option Value → HP → Prop} : Go 51 69 L (vi b :: vi a :: st) H Q ↔ Go 51 72 L st H Q := G_icF (tg := 103) fX4_alongside_69 (by decide) c
theorem fX4_alongside_72 : ft 51 72 = some (.aload_n 0, 0, 0, 0, .null) := by decide +kernel
theorem gX4_alongside_72 {l1 l2 l3 l4 l5 : Option Value} {u : Nat} {st : List Value} {H : HP} {Q : Option Value → HP → Prop} : Go 51 72 [some (.ref u), l1, l2, l3, l4, l5] st H Q ↔ Go 51 73 [some (.ref u), l1, l2, l3, l4, l5] (.ref u :: st) H Q := G_aload_n fX4_alongside_72 rfl
theorem fX4_alongside_73 : ft 51 73 = some (.getfield 25, 4, 3, 196, .null) := by decide +kernel
theorem gX4_alongside_73 {L : List (Option Value)} {p : Nat} {st : List Value} {H : HP} {Q : Option Value → HP → Prop} : Go 51 73 L (.ref p :: st) H Q ↔ Rd (gF' 4 3 (hget H p)) 51 76 L st H Q := G_getf fX4_alongside_73 ⟨rfl, rfl⟩
theorem fX4_alongside_76 : ft 51 76 = some (.aload_n 1, 0, 0, 0, .null) := by decide +kernel
theorem gX4_alongside_76 {l0 l2 l3 l4 l5 : Option Value} {u : Nat} {st : List Value} {H : HP} {Q : Option Value → HP → Prop} : Go 51 76 [l0, some (.ref u), l2, l3, l4, l5] st H Q ↔ Go 51 77 [l0, some (.ref u), l2, l3, l4, l5] (.ref u :: st) H Q := G_aload_n fX4_alongside_76 rfl
theorem fX4_alongside_77 : ft 51 77 = some (.getfield 83, 5, 1, 287, .null) := by decide +kernel
theorem gX4_alongside_77 {L : List (Option Value)} {p : Nat} {st : List Value} {H : HP} {Q : Option Value → HP → Prop} : Go 51 77 L (.ref p :: st) H Q ↔ Rd (gF' 5 1 (hget H p)) 51 80 L st H Q := G_getf fX4_alongside_77 ⟨rfl, rfl⟩
theorem fX4_alongside_80 : ft 51 80 = some (.iload 5, 0, 0, 0, .null) := by decide +kernel
theorem gX4_alongside_80 {l0 l1 l2 l3 l4 : Option Value} {u : Int32} {st : List Value} {H : HP} {Q : Option Value → HP → Prop} : Go 51 80 [l0, l1, l2, l3, l4, some (.int u)] st H Q ↔ Go 51 82 [l0, l1, l2, l3, l4, some (.int u)] (.int u :: st) H Q := G_iload fX4_alongside_80 rfl
theorem fX4_alongside_82 : ft 51 82 = some (.iload 4, 0, 0, 0, .null) := by decide +kernel
theorem gX4_alongside_82 {l0 l1 l2 l3 l5 : Option Value} {u : Int32} {st : List Value} {H : HP} {Q : Option Value → HP → Prop} : Go 51 82 [l0, l1, l2, l3, some (.int u), l5] st H Q ↔ Go 51 84 [l0, l1, l2, l3, some (.int u), l5] (.int u :: st) H Q := G_iload fX4_alongside_82 rfl
theorem fX4_alongside_84 : ft 51 84 = some (.iadd, 0, 0, 0, .null) := by decide +kernel
theorem gX4_alongside_84 {L : List (Option Value)} {a b : Int} {st : List Value} {H : HP} {Q : Option Value → HP → Prop} : Go 51 84 L (vi b :: vi a :: st) H Q ↔ Go 51 85 L (vi (a + b) :: st) H Q := G_iadd fX4_alongside_84
theorem fX4_alongside_85 : ft 51 85 = some (.laload, 0, 0, 0, .null) := by decide +kernel
theorem gX4_alongside_85 {L : List (Option Value)} {p : Nat} {a : Int} {st : List Value} {H : HP} {Q : Option Value → HP → Prop} : Go 51 85 L (vi a :: .ref p :: st) H Q ↔ Rd (aL' (hget H p) a) 51 86 L st H Q := G_lald fX4_alongside_85
theorem fX4_alongside_86 : ft 51 86 = some (.aload_n 2, 0, 0, 0, .null) := by decide +kernel
theorem gX4_alongside_86 {l0 l1 l3 l4 l5 : Option Value} {u : Nat} {st : List Value} {H : HP} {Q : Option Value → HP → Prop} : Go 51 86 [l0, l1, some (.ref u), l3, l4, l5] st H Q ↔ Go 51 87 [l0, l1, some (.ref u), l3, l4, l5] (.ref u :: st) H Q := G_aload_n fX4_alongside_86 rfl
theorem fX4_alongside_87 : ft 51 87 = some (.getfield 83, 5, 1, 287, .null) := by decide +kernel
theorem gX4_alongside_87 {L : List (Option Value)} {p : Nat} {st : List Value} {H : HP} {Q : Option Value → HP → Prop} : Go 51 87 L (.ref p :: st) H Q ↔ Rd (gF' 5 1 (hget H p)) 51 90 L st H Q := G_getf fX4_alongside_87 ⟨rfl, rfl⟩
theorem fX4_alongside_90 : ft 51 90 = some (.iload 5, 0, 0, 0, .null) := by decide +kernel
theorem gX4_alongside_90 {l0 l1 l2 l3 l4 : Option Value} {u : Int32} {st : List Value} {H : HP} {Q : Option Value → HP → Prop} : Go 51 90 [l0, l1, l2, l3, l4, some (.int u)] st H Q ↔ Go 51 92 [l0, l1, l2, l3, l4, some (.int u)] (.int u :: st) H Q := G_iload fX4_alongside_90 rfl
theorem fX4_alongside_92 : ft 51 92 = some (.laload, 0, 0, 0, .null) := by decide +kernel
theorem gX4_alongside_92 {L : List (Option Value)} {p : Nat} {a : Int} {st : List Value} {H : HP} {Q : Option Value → HP → Prop} : Go 51 92 L (vi a :: .ref p :: st) H Q ↔ Rd (aL' (hget H p) a) 51 93 L st H Q := G_lald fX4_alongside_92
theorem fX4_alongside_93 : ft 51 93 = some (.lmul, 0, 0, 0, .null) := by decide +kernel
theorem gX4_alongside_93 {L : List (Option Value)} {a b : Int} {st : List Value} {H : HP} {Q : Option Value → HP → Prop} : Go 51 93 L (vl b :: vl a :: st) H Q ↔ Go 51 94 L (vl (a * b) :: st) H Q := G_lmul fX4_alongside_93
theorem fX4_alongside_94 : ft 51 94 = some (.invokevirtual 86, 65, 0, 465, .null) := by decide +kernel
theorem gX4_alongside_94 {L : List (Option Value)} {p : Nat} {a0 : Int64}  {H : HP} {Q : Option Value → HP → Prop} : Go 51 94 L (.long a0 :: .ref p :: []) H Q ↔ (iso 7 (hget H p) = true ∧ Go 65 0 [some (.ref p), some (.long a0), none] [] H (Cont 51 97 L [] Q)) := G_cV (n := 1) (N := 3) (as := [.long a0]) (st := []) fX4_alongside_94 (by decide +kernel) rfl (Nat.le_of_ble_eq_true rfl) (Nat.le_of_ble_eq_true rfl) rfl
theorem fX4_alongside_97 : ft 51 97 = some (.iinc 5 1, 0, 0, 0, .null) := by decide +kernel
theorem gX4_alongside_97 {l0 l1 l2 l3 l4 : Option Value} {a : Int} {st : List Value} {H : HP} {Q : Option Value → HP → Prop} : Go 51 97 [l0, l1, l2, l3, l4, some (vi a)] st H Q ↔ Go 51 100 [l0, l1, l2, l3, l4, some (vi (a + 1))] st H Q := G_iinc fX4_alongside_97 rfl rfl
theorem fX4_alongside_100 : ft 51 100 = some (.goto (-49), 0, 0, 0, .null) := by decide +kernel
theorem gX4_alongside_100 {L : List (Option Value)} {st : List Value} {H : HP} {Q : Option Value → HP → Prop} : Go 51 100 L st H Q ↔ Go 51 51 L st H Q := G_goto fX4_alongside_100 (by decide)
theorem fX4_alongside_103 : ft 51 103 = some (.aload_n 0, 0, 0, 0, .null) := by decide +kernel
theorem gX4_alongside_103 {l1 l2 l3 l4 l5 : Option Value} {u : Nat} {st : List Value} {H : HP} {Q : Option Value → HP → Prop} : Go 51 103 [some (.ref u), l1, l2, l3, l4, l5] st H Q ↔ Go 51 104 [some (.ref u), l1, l2, l3, l4, l5] (.ref u :: st) H Q := G_aload_n fX4_alongside_103 rfl
theorem fX4_alongside_104 : ft 51 104 = some (.iload_n 3, 0, 0, 0, .null) := by decide +kernel
theorem gX4_alongside_104 {l0 l1 l2 l4 l5 : Option Value} {u : Int32} {st : List Value} {H : HP} {Q : Option Value → HP → Prop} : Go 51 104 [l0, l1, l2, some (.int u), l4, l5] st H Q ↔ Go 51 105 [l0, l1, l2, some (.int u), l4, l5] (.int u :: st) H Q := G_iload_n fX4_alongside_104 rfl
theorem fX4_alongside_105 : ft 51 105 = some (.invokevirtual 90, 44, 0, 474, .null) := by decide +kernel
theorem gX4_alongside_105 {L : List (Option Value)} {p : Nat} {a0 : Int32}  {H : HP} {Q : Option Value → HP → Prop} : Go 51 105 L (.int a0 :: .ref p :: []) H Q ↔ (iso 4 (hget H p) = true ∧ Go 44 0 [some (.ref p), some (.int a0)] [] H (Cont 51 108 L [] Q)) := G_cV (n := 1) (N := 2) (as := [.int a0]) (st := []) fX4_alongside_105 (by decide +kernel) rfl (Nat.le_of_ble_eq_true rfl) (Nat.le_of_ble_eq_true rfl) rfl
theorem fX4_alongside_108 : ft 51 108 = some (.iinc 3 1, 0, 0, 0, .null) := by decide +kernel
theorem gX4_alongside_108 {l0 l1 l2 l4 l5 : Option Value} {a : Int} {st : List Value} {H : HP} {Q : Option Value → HP → Prop} : Go 51 108 [l0, l1, l2, some (vi a), l4, l5] st H Q ↔ Go 51 111 [l0, l1, l2, some (vi (a + 1)), l4, l5] st H Q := G_iinc fX4_alongside_108 rfl rfl
theorem fX4_alongside_111 : ft 51 111 = some (.goto (-94), 0, 0, 0, .null) := by decide +kernel
theorem gX4_alongside_111 {L : List (Option Value)} {st : List Value} {H : HP} {Q : Option Value → HP → Prop} : Go 51 111 L st H Q ↔ Go 51 17 L st H Q := G_goto fX4_alongside_111 (by decide)
theorem fX4_alongside_114 : ft 51 114 = some (.return_, 0, 0, 0, .null) := by decide +kernel
theorem gX4_alongside_114 {L : List (Option Value)} {H : HP} {Q : Option Value → HP → Prop} : Go 51 114 L [] H Q ↔ Q none H := G_vret fX4_alongside_114 (by decide +kernel)

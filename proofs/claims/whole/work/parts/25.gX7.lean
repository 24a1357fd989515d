theorem fX7_init_0 : ft 63 0 = some (.aload_n 0, 0, 0, 0, .null) := by decide +kernel
theorem gX7_init_0  {u : Nat} {st : List Value} {H : HP} {Q : Option Value → HP → Prop} : Go 63 0 [some (.ref u)] st H Q ↔ Go 63 1 [some (.ref u)] (.ref u :: st) H Q := G_aload_n fX7_init_0 rfl
theorem fX7_init_1 : ft 63 1 = some (.invokespecial 1, 1000, 0, 140, .null) := by decide +kernel
theorem gX7_init_1 {L : List (Option Value)} {p : Nat}  {H : HP} {Q : Option Value → HP → Prop} : Go 63 1 L (.ref p :: []) H Q ↔ Go 63 4 L [] H Q := G_obj fX7_init_1 rfl ⟨by decide +kernel, Nat.le_trans (m := 20) (Nat.le_of_ble_eq_true rfl) (by decide +kernel)⟩
theorem fX7_init_4 : ft 63 4 = some (.aload_n 0, 0, 0, 0, .null) := by decide +kernel
theorem gX7_init_4  {u : Nat} {st : List Value} {H : HP} {Q : Option Value → HP → Prop} : Go 63 4 [some (.ref u)] st H Q ↔ Go 63 5 [some (.ref u)] (.ref u :: st) H Q := G_aload_n fX7_init_4 rfl
theorem fX7_init_5 : ft 63 5 = some (.lconst 0, 0, 0, 0, .null) := by decide +kernel
theorem gX7_init_5 {L : List (Option Value)} {st : List Value} {H : HP} {Q : Option Value → HP → Prop} : Go 63 5 L st H Q ↔ Go 63 6 L (vl 0 :: st) H Q := G_lconst fX7_init_5 (by decide)
theorem fX7_init_6 : ft 63 6 = some (.putfield 7, 7, 0, 141, .null) := by decide +kernel
theorem gX7_init_6 {L : List (Option Value)} {p : Nat} {u : Int64} (hp : p ≠ 0) {st : List Value} {H : HP} {Q : Option Value → HP → Prop} : Go 63 6 L (.long u :: .ref p :: st) H Q ↔ Wr (pF' 7 0 (hget H p) (.long u)) p 63 9 L st H Q := G_putf fX7_init_6 ⟨⟨rfl, rfl⟩, rfl, Or.inl rfl⟩ hp
theorem fX7_init_9 : ft 63 9 = some (.aload_n 0, 0, 0, 0, .null) := by decide +kernel
theorem gX7_init_9  {u : Nat} {st : List Value} {H : HP} {Q : Option Value → HP → Prop} : Go 63 9 [some (.ref u)] st H Q ↔ Go 63 10 [some (.ref u)] (.ref u :: st) H Q := G_aload_n fX7_init_9 rfl
theorem fX7_init_10 : ft 63 10 = some (.lconst 0, 0, 0, 0, .null) := by decide +kernel
theorem gX7_init_10 {L : List (Option Value)} {st : List Value} {H : HP} {Q : Option Value → HP → Prop} : Go 63 10 L st H Q ↔ Go 63 11 L (vl 0 :: st) H Q := G_lconst fX7_init_10 (by decide)
theorem fX7_init_11 : ft 63 11 = some (.putfield 13, 7, 1, 143, .null) := by decide +kernel
theorem gX7_init_11 {L : List (Option Value)} {p : Nat} {u : Int64} (hp : p ≠ 0) {st : List Value} {H : HP} {Q : Option Value → HP → Prop} : Go 63 11 L (.long u :: .ref p :: st) H Q ↔ Wr (pF' 7 1 (hget H p) (.long u)) p 63 14 L st H Q := G_putf fX7_init_11 ⟨⟨rfl, rfl⟩, rfl, Or.inl rfl⟩ hp
theorem fX7_init_14 : ft 63 14 = some (.return_, 0, 0, 0, .null) := by decide +kernel
theorem gX7_init_14 {L : List (Option Value)} {H : HP} {Q : Option Value → HP → Prop} : Go 63 14 L [] H Q ↔ Q none H := G_vret fX7_init_14 (by decide +kernel)
theorem fX7_clear_0 : ft 64 0 = some (.aload_n 0, 0, 0, 0, .null) := by decide +kernel
theorem gX7_clear_0  {u : Nat} {st : List Value} {H : HP} {Q : Option Value → HP → Prop} : Go 64 0 [some (.ref u)] st H Q ↔ Go 64 1 [some (.ref u)] (.ref u :: st) H Q := G_aload_n fX7_clear_0 rfl
theorem fX7_clear_1 : ft 64 1 = some (.lconst 0, 0, 0, 0, .null) := by decide +kernel
theorem gX7_clear_1 {L : List (Option Value)} {st : List Value} {H : HP} {Q : Option Value → HP → Prop} : Go 64 1 L st H Q ↔ Go 64 2 L (vl 0 :: st) H Q := G_lconst fX7_clear_1 (by decide)
theorem fX7_clear_2 : ft 64 2 = some (.putfield 7, 7, 0, 141, .null) := by decide +kernel
theorem gX7_clear_2 {L : List (Option Value)} {p : Nat} {u : Int64} (hp : p ≠ 0) {st : List Value} {H : HP} {Q : Option Value → HP → Prop} : Go 64 2 L (.long u :: .ref p :: st) H Q ↔ Wr (pF' 7 0 (hget H p) (.long u)) p 64 5 L st H Q := G_putf fX7_clear_2 ⟨⟨rfl, rfl⟩, rfl, Or.inl rfl⟩ hp
theorem fX7_clear_5 : ft 64 5 = some (.aload_n 0, 0, 0, 0, .null) := by decide +kernel
theorem gX7_clear_5  {u : Nat} {st : List Value} {H : HP} {Q : Option Value → HP → Prop} : Go 64 5 [some (.ref u)] st H Q ↔ Go 64 6 [some (.ref u)] (.ref u :: st) H Q := G_aload_n fX7_clear_5 rfl
theorem fX7_clear_6 : ft 64 6 = some (.lconst 0, 0, 0, 0, .null) := by decide +kernel
theorem gX7_clear_6 {L : List (Option Value)} {st : List Value} {H : HP} {Q : Option Value → HP → Prop} : Go 64 6 L st H Q ↔ Go 64 7 L (vl 0 :: st) H Q := G_lconst fX7_clear_6 (by decide)
theorem fX7_clear_7 : ft 64 7 = some (.putfield 13, 7, 1, 143, .null) := by decide +kernel
theorem gX7_clear_7 {L : List (Option Value)} {p : Nat} {u : Int64} (hp : p ≠ 0) {st : List Value} {H : HP} {Q : Option Value → HP → Prop} : Go 64 7 L (.long u :: .ref p :: st) H Q ↔ Wr (pF' 7 1 (hget H p) (.long u)) p 64 10 L st H Q := G_putf fX7_clear_7 ⟨⟨rfl, rfl⟩, rfl, Or.inl rfl⟩ hp
theorem fX7_clear_10 : ft 64 10 = some (.return_, 0, 0, 0, .null) := by decide +kernel
theorem gX7_clear_10 {L : List (Option Value)} {H : HP} {Q : Option Value → HP → Prop} : Go 64 10 L [] H Q ↔ Q none H := G_vret fX7_clear_10 (by decide +kernel)
theorem fX7_add_0 : ft 65 0 = some (.aload_n 0, 0, 0, 0, .null) := by decide +kernel
theorem gX7_add_0 {l1 l2 : Option Value} {u : Nat} {st : List Value} {H : HP} {Q : Option Value → HP → Prop} : Go 65 0 [some (.ref u), l1, l2] st H Q ↔ Go 65 1 [some (.ref u), l1, l2] (.ref u :: st) H Q := G_aload_n fX7_add_0 rfl
theorem fX7_add_1 : ft 65 1 = some (.lload_n 1, 0, 0, 0, .null) := by decide +kernel
theorem gX7_add_1 {l0 : Option Value} {u : Int64} {st : List Value} {H : HP} {Q : Option Value → HP → Prop} : Go 65 1 [l0, some (.long u), none] st H Q ↔ Go 65 2 [l0, some (.long u), none] (.long u :: st) H Q := G_lload_n fX7_add_1 rfl
theorem fX7_add_2 : ft 65 2 = some (.bipush 63, 0, 0, 0, .null) := by decide +kernel
theorem gX7_add_2 {L : List (Option Value)} {st : List Value} {H : HP} {Q : Option Value → HP → Prop} : Go 65 2 L st H Q ↔ Go 65 4 L (vi 63 :: st) H Q := G_bipush fX7_add_2 (by decide)
theorem fX7_add_4 : ft 65 4 = some (.lshr, 0, 0, 0, .null) := by decide +kernel
theorem gX7_add_4 {L : List (Option Value)} {a b : Int} {st : List Value} {H : HP} {Q : Option Value → HP → Prop} : Go 65 4 L (vi b :: vl a :: st) H Q ↔ Go 65 5 L (vl (bShr a b) :: st) H Q := G_lshr fX7_add_4
theorem fX7_add_5 : ft 65 5 = some (.lload_n 1, 0, 0, 0, .null) := by decide +kernel
theorem gX7_add_5 {l0 : Option Value} {u : Int64} {st : List Value} {H : HP} {Q : Option Value → HP → Prop} : Go 65 5 [l0, some (.long u), none] st H Q ↔ Go 65 6 [l0, some (.long u), none] (.long u :: st) H Q := G_lload_n fX7_add_5 rfl
theorem fX7_add_6 : ft 65 6 = some (.invokevirtual 16, 66, 0, 469, .null) := by decide +kernel
theorem gX7_add_6 {L : List (Option Value)} {p : Nat} {a0 : Int64} {a1 : Int64}  {H : HP} {Q : Option Value → HP → Prop} : Go 65 6 L (.long a1 :: .long a0 :: .ref p :: []) H Q ↔ (iso 7 (hget H p) = true ∧ Go 66 0 [some (.ref p), some (.long a0), none, some (.long a1), none, none, none, none, none] [] H (Cont 65 9 L [] Q)) := G_cV (n := 2) (N := 9) (as := [.long a1, .long a0]) (st := []) fX7_add_6 (by decide +kernel) rfl (Nat.le_of_ble_eq_true rfl) (Nat.le_of_ble_eq_true rfl) rfl
theorem fX7_add_9 : ft 65 9 = some (.return_, 0, 0, 0, .null) := by decide +kernel
theorem gX7_add_9 {L : List (Option Value)} {H : HP} {Q : Option Value → HP → Prop} : Go 65 9 L [] H Q ↔ Q none H := G_vret fX7_add_9 (by decide +kernel)
theorem fX7_addPair_0 : ft 66 0 = some (.aload_n 0, 0, 0, 0, .null) := by decide +kernel
theorem gX7_addPair_0 {l1 l2 l3 l4 l5 l6 l7 l8 : Option Value} {u : Nat} {st : List Value} {H : HP} {Q : Option Value → HP → Prop} : Go 66 0 [some (.ref u), l1, l2, l3, l4, l5, l6, l7, l8] st H Q ↔ Go 66 1 [some (.ref u), l1, l2, l3, l4, l5, l6, l7, l8] (.ref u :: st) H Q := G_aload_n fX7_addPair_0 rfl
theorem fX7_addPair_1 : ft 66 1 = some (.getfield 13, 7, 1, 143, .null) := by decide +kernel
theorem gX7_addPair_1 {L : List (Option Value)} {p : Nat} {st : List Value} {H : HP} {Q : Option Value → HP → Prop} : Go 66 1 L (.ref p :: st) H Q ↔ Rd (gF' 7 1 (hget H p)) 66 4 L st H Q := G_getf fX7_addPair_1 ⟨rfl, rfl⟩
theorem fX7_addPair_4 : ft 66 4 = some (.lload_n 3, 0, 0, 0, .null) := by decide +kernel
theorem gX7_addPair_4 {l0 l1 l2 l5 l6 l7 l8 : Option Value} {u : Int64} {st : List Value} {H : HP} {Q : Option Value → HP → Prop} : Go 66 4 [l0, l1, l2, some (.long u), none, l5, l6, l7, l8] st H Q ↔ Go 66 5 [l0, l1, l2, some (.long u), none, l5, l6, l7, l8] (.long u :: st) H Q := G_lload_n fX7_addPair_4 rfl
theorem fX7_addPair_5 : ft 66 5 = some (.ladd, 0, 0, 0, .null) := by decide +kernel
theorem gX7_addPair_5 {L : List (Option Value)} {a b : Int} {st : List Value} {H : HP} {Q : Option Value → HP → Prop} : Go 66 5 L (vl b :: vl a :: st) H Q ↔ Go 66 6 L (vl (a + b) :: st) H Q := G_ladd fX7_addPair_5
theorem fX7_addPair_6 : ft 66 6 = some (.lstore 5, 0, 0, 0, .null) := by decide +kernel
theorem gX7_addPair_6 {l0 l1 l2 l3 l4 l5 l6 l7 l8 : Option Value} {u : Int64} {st : List Value} {H : HP} {Q : Option Value → HP → Prop} : Go 66 6 [l0, l1, l2, l3, l4, l5, l6, l7, l8] (.long u :: st) H Q ↔ Go 66 8 [l0, l1, l2, l3, l4, some (.long u), none, l7, l8] st H Q := G_lstore fX7_addPair_6 rfl
theorem fX7_addPair_8 : ft 66 8 = some (.aload_n 0, 0, 0, 0, .null) := by decide +kernel
theorem gX7_addPair_8 {l1 l2 l3 l4 l5 l6 l7 l8 : Option Value} {u : Nat} {st : List Value} {H : HP} {Q : Option Value → HP → Prop} : Go 66 8 [some (.ref u), l1, l2, l3, l4, l5, l6, l7, l8] st H Q ↔ Go 66 9 [some (.ref u), l1, l2, l3, l4, l5, l6, l7, l8] (.ref u :: st) H Q := G_aload_n fX7_addPair_8 rfl
theorem fX7_addPair_9 : ft 66 9 = some (.getfield 13, 7, 1, 143, .null) := by decide +kernel
theorem gX7_addPair_9 {L : List (Option Value)} {p : Nat} {st : List Value} {H : HP} {Q : Option Value → HP → Prop} : Go 66 9 L (.ref p :: st) H Q ↔ Rd (gF' 7 1 (hget H p)) 66 12 L st H Q := G_getf fX7_addPair_9 ⟨rfl, rfl⟩
theorem fX7_addPair_12 : ft 66 12 = some (.lload_n 3, 0, 0, 0, .null) := by decide +kernel
theorem gX7_addPair_12 {l0 l1 l2 l5 l6 l7 l8 : Option Value} {u : Int64} {st : List Value} {H : HP} {Q : Option Value → HP → Prop} : Go 66 12 [l0, l1, l2, some (.long u), none, l5, l6, l7, l8] st H Q ↔ Go 66 13 [l0, l1, l2, some (.long u), none, l5, l6, l7, l8] (.long u :: st) H Q := G_lload_n fX7_addPair_12 rfl
theorem fX7_addPair_13 : ft 66 13 = some (.land, 0, 0, 0, .null) := by decide +kernel
theorem gX7_addPair_13 {L : List (Option Value)} {a b : Int} {st : List Value} {H : HP} {Q : Option Value → HP → Prop} : Go 66 13 L (vl b :: vl a :: st) H Q ↔ Go 66 14 L (vl (bAnd a b) :: st) H Q := G_land fX7_addPair_13
theorem fX7_addPair_14 : ft 66 14 = some (.aload_n 0, 0, 0, 0, .null) := by decide +kernel
theorem gX7_addPair_14 {l1 l2 l3 l4 l5 l6 l7 l8 : Option Value} {u : Nat} {st : List Value} {H : HP} {Q : Option Value → HP → Prop} : Go 66 14 [some (.ref u), l1, l2, l3, l4, l5, l6, l7, l8] st H Q ↔ Go 66 15 [some (.ref u), l1, l2, l3, l4, l5, l6, l7, l8] (.ref u :: st) H Q := G_aload_n fX7_addPair_14 rfl
theorem fX7_addPair_15 : ft 66 15 = some (.getfield 13, 7, 1, 143, .null) := by decide +kernel
theorem gX7_addPair_15 {L : List (Option Value)} {p : Nat} {st : List Value} {H : HP} {Q : Option Value → HP → Prop} : Go 66 15 L (.ref p :: st) H Q ↔ Rd (gF' 7 1 (hget H p)) 66 18 L st H Q := G_getf fX7_addPair_15 ⟨rfl, rfl⟩
theorem fX7_addPair_18 : ft 66 18 = some (.lload_n 3, 0, 0, 0, .null) := by decide +kernel
theorem gX7_addPair_18 {l0 l1 l2 l5 l6 l7 l8 : Option Value} {u : Int64} {st : List Value} {H : HP} {Q : Option Value → HP → Prop} : Go 66 18 [l0, l1, l2, some (.long u), none, l5, l6, l7, l8] st H Q ↔ Go 66 19 [l0, l1, l2, some (.long u), none, l5, l6, l7, l8] (.long u :: st) H Q := G_lload_n fX7_addPair_18 rfl
theorem fX7_addPair_19 : ft 66 19 = some (.lor, 0, 0, 0, .null) := by decide +kernel
theorem gX7_addPair_19 {L : List (Option Value)} {a b : Int} {st : List Value} {H : HP} {Q : Option Value → HP → Prop} : Go 66 19 L (vl b :: vl a :: st) H Q ↔ Go 66 20 L (vl (bOr a b) :: st) H Q := G_lor fX7_addPair_19
theorem fX7_addPair_20 : ft 66 20 = some (.lload 5, 0, 0, 0, .null) := by decide +kernel
theorem gX7_addPair_20 {l0 l1 l2 l3 l4 l7 l8 : Option Value} {u : Int64} {st : List Value} {H : HP} {Q : Option Value → HP → Prop} : Go 66 20 [l0, l1, l2, l3, l4, some (.long u), none, l7, l8] st H Q ↔ Go 66 22 [l0, l1, l2, l3, l4, some (.long u), none, l7, l8] (.long u :: st) H Q := G_lload fX7_addPair_20 rfl
theorem fX7_addPair_22 : ft 66 22 = some (.ldc2_w 20, 0, 0, 473, .long (-1)) := by decide +kernel
theorem gX7_addPair_22 {L : List (Option Value)} {st : List Value} {H : HP} {Q : Option Value → HP → Prop} : Go 66 22 L st H Q ↔ Go 66 25 L (vl (-1) :: st) H Q := G_ldcl fX7_addPair_22 (by decide +kernel)
theorem fX7_addPair_25 : ft 66 25 = some (.lxor, 0, 0, 0, .null) := by decide +kernel
theorem gX7_addPair_25 {L : List (Option Value)} {a b : Int} {st : List Value} {H : HP} {Q : Option Value → HP → Prop} : Go 66 25 L (vl b :: vl a :: st) H Q ↔ Go 66 26 L (vl (bXor a b) :: st) H Q := G_lxor fX7_addPair_25
theorem fX7_addPair_26 : ft 66 26 = some (.land, 0, 0, 0, .null) := by decide +kernel
theorem gX7_addPair_26 {L : List (Option Value)} {a b : Int} {st : List Value} {H : HP} {Q : Option Value → HP → Prop} : Go 66 26 L (vl b :: vl a :: st) H Q ↔ Go 66 27 L (vl (bAnd a b) :: st) H Q := G_land fX7_addPair_26
theorem fX7_addPair_27 : ft 66 27 = some (.lor, 0, 0, 0, .null) := by decide +kernel
theorem gX7_addPair_27 {L : List (Option Value)} {a b : Int} {st : List Value} {H : HP} {Q : Option Value → HP → Prop} : Go 66 27 L (vl b :: vl a :: st) H Q ↔ Go 66 28 L (vl (bOr a b) :: st) H Q := G_lor fX7_addPair_27
theorem fX7_addPair_28 : ft 66 28 = some (.bipush 63, 0, 0, 0, .null) := by decide +kernel
theorem gX7_addPair_28 {L : List (Option Value)} {st : List Value} {H : HP} {Q : Option Value → HP → Prop} : Go 66 28 L st H Q ↔ Go 66 30 L (vi 63 :: st) H Q := G_bipush fX7_addPair_28 (by decide)
theorem fX7_addPair_30 : ft 66 30 = some (.lushr, 0, 0, 0, .null) := by decide +kernel
theorem gX7_addPair_30 {L : List (Option Value)} {a b : Int} {st : List Value} {H : HP} {Q : Option Value → HP → Prop} : Go 66 30 L (vi b :: vl a :: st) H Q ↔ Go 66 31 L (vl (bUsh a b) :: st) H Q := G_lushr fX7_addPair_30
theorem fX7_addPair_31 : ft 66 31 = some (.lstore 7, 0, 0, 0, .null) := by decide +kernel
theorem gX7_addPair_31 {l0 l1 l2 l3 l4 l5 l6 l7 l8 : Option Value} {u : Int64} {st : List Value} {H : HP} {Q : Option Value → HP → Prop} : Go 66 31 [l0, l1, l2, l3, l4, l5, l6, l7, l8] (.long u :: st) H Q ↔ Go 66 33 [l0, l1, l2, l3, l4, l5, l6, some (.long u), none] st H Q := G_lstore fX7_addPair_31 rfl
theorem fX7_addPair_33 : ft 66 33 = some (.aload_n 0, 0, 0, 0, .null) := by decide +kernel
theorem gX7_addPair_33 {l1 l2 l3 l4 l5 l6 l7 l8 : Option Value} {u : Nat} {st : List Value} {H : HP} {Q : Option Value → HP → Prop} : Go 66 33 [some (.ref u), l1, l2, l3, l4, l5, l6, l7, l8] st H Q ↔ Go 66 34 [some (.ref u), l1, l2, l3, l4, l5, l6, l7, l8] (.ref u :: st) H Q := G_aload_n fX7_addPair_33 rfl
theorem fX7_addPair_34 : ft 66 34 = some (.lload 5, 0, 0, 0, .null) := by decide +kernel
theorem gX7_addPair_34 {l0 l1 l2 l3 l4 l7 l8 : Option Value} {u : Int64} {st : List Value} {H : HP} {Q : Option Value → HP → Prop} : Go 66 34 [l0, l1, l2, l3, l4, some (.long u), none, l7, l8] st H Q ↔ Go 66 36 [l0, l1, l2, l3, l4, some (.long u), none, l7, l8] (.long u :: st) H Q := G_lload fX7_addPair_34 rfl
theorem fX7_addPair_36 : ft 66 36 = some (.putfield 13, 7, 1, 143, .null) := by decide +kernel
theorem gX7_addPair_36 {L : List (Option Value)} {p : Nat} {u : Int64} (hp : p ≠ 0) {st : List Value} {H : HP} {Q : Option Value → HP → Prop} : Go 66 36 L (.long u :: .ref p :: st) H Q ↔ Wr (pF' 7 1 (hget H p) (.long u)) p 66 39 L st H Q := G_putf fX7_addPair_36 ⟨⟨rfl, rfl⟩, rfl, Or.inl rfl⟩ hp
theorem fX7_addPair_39 : ft 66 39 = some (.aload_n 0, 0, 0, 0, .null) := by decide +kernel
theorem gX7_addPair_39 {l1 l2 l3 l4 l5 l6 l7 l8 : Option Value} {u : Nat} {st : List Value} {H : HP} {Q : Option Value → HP → Prop} : Go 66 39 [some (.ref u), l1, l2, l3, l4, l5, l6, l7, l8] st H Q ↔ Go 66 40 [some (.ref u), l1, l2, l3, l4, l5, l6, l7, l8] (.ref u :: st) H Q := G_aload_n fX7_addPair_39 rfl
theorem fX7_addPair_40 : ft 66 40 = some (.aload_n 0, 0, 0, 0, .null) := by decide +kernel
theorem gX7_addPair_40 {l1 l2 l3 l4 l5 l6 l7 l8 : Option Value} {u : Nat} {st : List Value} {H : HP} {Q : Option Value → HP → Prop} : Go 66 40 [some (.ref u), l1, l2, l3, l4, l5, l6, l7, l8] st H Q ↔ Go 66 41 [some (.ref u), l1, l2, l3, l4, l5, l6, l7, l8] (.ref u :: st) H Q := G_aload_n fX7_addPair_40 rfl
theorem fX7_addPair_41 : ft 66 41 = some (.getfield 7, 7, 0, 141, .null) := by decide +kernel
theorem gX7_addPair_41 {L : List (Option Value)} {p : Nat} {st : List Value} {H : HP} {Q : Option Value → HP → Prop} : Go 66 41 L (.ref p :: st) H Q ↔ Rd (gF' 7 0 (hget H p)) 66 44 L st H Q := G_getf fX7_addPair_41 ⟨rfl, rfl⟩
theorem fX7_addPair_44 : ft 66 44 = some (.lload_n 1, 0, 0, 0, .null) := by decide +kernel
theorem gX7_addPair_44 {l0 l3 l4 l5 l6 l7 l8 : Option Value} {u : Int64} {st : List Value} {H : HP} {Q : Option Value → HP → Prop} : Go 66 44 [l0, some (.long u), none, l3, l4, l5, l6, l7, l8] st H Q ↔ Go 66 45 [l0, some (.long u), none, l3, l4, l5, l6, l7, l8] (.long u :: st) H Q := G_lload_n fX7_addPair_44 rfl
theorem fX7_addPair_45 : ft 66 45 = some (.ladd, 0, 0, 0, .null) := by decide +kernel
theorem gX7_addPair_45 {L : List (Option Value)} {a b : Int} {st : List Value} {H : HP} {Q : Option Value → HP → Prop} : Go 66 45 L (vl b :: vl a :: st) H Q ↔ Go 66 46 L (vl (a + b) :: st) H Q := G_ladd fX7_addPair_45
theorem fX7_addPair_46 : ft 66 46 = some (.lload 7, 0, 0, 0, .null) := by decide +kernel
theorem gX7_addPair_46 {l0 l1 l2 l3 l4 l5 l6 : Option Value} {u : Int64} {st : List Value} {H : HP} {Q : Option Value → HP → Prop} : Go 66 46 [l0, l1, l2, l3, l4, l5, l6, some (.long u), none] st H Q ↔ Go 66 48 [l0, l1, l2, l3, l4, l5, l6, some (.long u), none] (.long u :: st) H Q := G_lload fX7_addPair_46 rfl
theorem fX7_addPair_48 : ft 66 48 = some (.ladd, 0, 0, 0, .null) := by decide +kernel
theorem gX7_addPair_48 {L : List (Option Value)} {a b : Int} {st : List Value} {H : HP} {Q : Option Value → HP → Prop} : Go 66 48 L (vl b :: vl a :: st) H Q ↔ Go 66 49 L (vl (a + b) :: st) H Q := G_ladd fX7_addPair_48
theorem fX7_addPair_49 : ft 66 49 = some (.putfield 7, 7, 0, 141, .null) := by decide +kernel
theorem gX7_addPair_49 {L : List (Option Value)} {p : Nat} {u : Int64} (hp : p ≠ 0) {st : List Value} {H : HP} {Q : Option Value → HP → Prop} : Go 66 49 L (.long u :: .ref p :: st) H Q ↔ Wr (pF' 7 0 (hget H p) (.long u)) p 66 52 L st H Q := G_putf fX7_addPair_49 ⟨⟨rfl, rfl⟩, rfl, Or.inl rfl⟩ hp
theorem fX7_addPair_52 : ft 66 52 = some (.return_, 0, 0, 0, .null) := by decide +kernel
theorem gX7_addPair_52 {L : List (Option Value)} {H : HP} {Q : Option Value → HP → Prop} : Go 66 52 L [] H Q ↔ Q none H := G_vret fX7_addPair_52 (by decide +kernel)
theorem fX7_addProduct_0 : ft 67 0 = some (.lload_n 1, 0, 0, 0, .null) := by decide +kernel
theorem gX7_addProduct_0 {l0 l3 l4 l5 l6 : Option Value} {u : Int64} {st : List Value} {H : HP} {Q : Option Value → HP → Prop} : Go 67 0 [l0, some (.long u), none, l3, l4, l5, l6] st H Q ↔ Go 67 1 [l0, some (.long u), none, l3, l4, l5, l6] (.long u :: st) H Q := G_lload_n fX7_addProduct_0 rfl
theorem fX7_addProduct_1 : ft 67 1 = some (.lload_n 3, 0, 0, 0, .null) := by decide +kernel
theorem gX7_addProduct_1 {l0 l1 l2 l5 l6 : Option Value} {u : Int64} {st : List Value} {H : HP} {Q : Option Value → HP → Prop} : Go 67 1 [l0, l1, l2, some (.long u), none, l5, l6] st H Q ↔ Go 67 2 [l0, l1, l2, some (.long u), none, l5, l6] (.long u :: st) H Q := G_lload_n fX7_addProduct_1 rfl
theorem fX7_addProduct_2 : ft 67 2 = some (.bipush 32, 0, 0, 0, .null) := by decide +kernel
theorem gX7_addProduct_2 {L : List (Option Value)} {st : List Value} {H : HP} {Q : Option Value → HP → Prop} : Go 67 2 L st H Q ↔ Go 67 4 L (vi 32 :: st) H Q := G_bipush fX7_addProduct_2 (by decide)
theorem fX7_addProduct_4 : ft 67 4 = some (.lushr, 0, 0, 0, .null) := by decide +kernel
theorem gX7_addProduct_4 {L : List (Option Value)} {a b : Int} {st : List Value} {H : HP} {Q : Option Value → HP → Prop} : Go 67 4 L (vi b :: vl a :: st) H Q ↔ Go 67 5 L (vl (bUsh a b) :: st) H Q := G_lushr fX7_addProduct_4
theorem fX7_addProduct_5 : ft 67 5 = some (.lmul, 0, 0, 0, .null) := by decide +kernel
theorem gX7_addProduct_5 {L : List (Option Value)} {a b : Int} {st : List Value} {H : HP} {Q : Option Value → HP → Prop} : Go 67 5 L (vl b :: vl a :: st) H Q ↔ Go 67 6 L (vl (a * b) :: st) H Q := G_lmul fX7_addProduct_5
theorem fX7_addProduct_6 : ft 67 6 = some (.lstore 5, 0, 0, 0, .null) := by decide +kernel
theorem gX7_addProduct_6 {l0 l1 l2 l3 l4 l5 l6 : Option Value} {u : Int64} {st : List Value} {H : HP} {Q : Option Value → HP → Prop} : Go 67 6 [l0, l1, l2, l3, l4, l5, l6] (.long u :: st) H Q ↔ Go 67 8 [l0, l1, l2, l3, l4, some (.long u), none] st H Q := G_lstore fX7_addProduct_6 rfl
theorem fX7_addProduct_8 : ft 67 8 = some (.aload_n 0, 0, 0, 0, .null) := by decide +kernel
theorem gX7_addProduct_8 {l1 l2 l3 l4 l5 l6 : Option Value} {u : Nat} {st : List Value} {H : HP} {Q : Option Value → HP → Prop} : Go 67 8 [some (.ref u), l1, l2, l3, l4, l5, l6] st H Q ↔ Go 67 9 [some (.ref u), l1, l2, l3, l4, l5, l6] (.ref u :: st) H Q := G_aload_n fX7_addProduct_8 rfl
theorem fX7_addProduct_9 : ft 67 9 = some (.lload 5, 0, 0, 0, .null) := by decide +kernel
theorem gX7_addProduct_9 {l0 l1 l2 l3 l4 : Option Value} {u : Int64} {st : List Value} {H : HP} {Q : Option Value → HP → Prop} : Go 67 9 [l0, l1, l2, l3, l4, some (.long u), none] st H Q ↔ Go 67 11 [l0, l1, l2, l3, l4, some (.long u), none] (.long u :: st) H Q := G_lload fX7_addProduct_9 rfl
theorem fX7_addProduct_11 : ft 67 11 = some (.bipush 32, 0, 0, 0, .null) := by decide +kernel
theorem gX7_addProduct_11 {L : List (Option Value)} {st : List Value} {H : HP} {Q : Option Value → HP → Prop} : Go 67 11 L st H Q ↔ Go 67 13 L (vi 32 :: st) H Q := G_bipush fX7_addProduct_11 (by decide)
theorem fX7_addProduct_13 : ft 67 13 = some (.lshr, 0, 0, 0, .null) := by decide +kernel
theorem gX7_addProduct_13 {L : List (Option Value)} {a b : Int} {st : List Value} {H : HP} {Q : Option Value → HP → Prop} : Go 67 13 L (vi b :: vl a :: st) H Q ↔ Go 67 14 L (vl (bShr a b) :: st) H Q := G_lshr fX7_addProduct_13
theorem fX7_addProduct_14 : ft 67 14 = some (.lload 5, 0, 0, 0, .null) := by decide +kernel
theorem gX7_addProduct_14 {l0 l1 l2 l3 l4 : Option Value} {u : Int64} {st : List Value} {H : HP} {Q : Option Value → HP → Prop} : Go 67 14 [l0, l1, l2, l3, l4, some (.long u), none] st H Q ↔ Go 67 16 [l0, l1, l2, l3, l4, some (.long u), none] (.long u :: st) H Q := G_lload fX7_addProduct_14 rfl
theorem fX7_addProduct_16 : ft 67 16 = some (.bipush 32, 0, 0, 0, .null) := by decide +kernel
theorem gX7_addProduct_16 {L : List (Option Value)} {st : List Value} {H : HP} {Q : Option Value → HP → Prop} : Go 67 16 L st H Q ↔ Go 67 18 L (vi 32 :: st) H Q := G_bipush fX7_addProduct_16 (by decide)
theorem fX7_addProduct_18 : ft 67 18 = some (.lshl, 0, 0, 0, .null) := by decide +kernel
theorem gX7_addProduct_18 {L : List (Option Value)} {a b : Int} {st : List Value} {H : HP} {Q : Option Value → HP → Prop} : Go 67 18 L (vi b :: vl a :: st) H Q ↔ Go 67 19 L (vl (bShl a b) :: st) H Q := G_lshl fX7_addProduct_18
theorem fX7_addProduct_19 : ft 67 19 = some (.invokevirtual 16, 66, 0, 469, .null) := by decide +kernel
theorem gX7_addProduct_19 {L : List (Option Value)} {p : Nat} {a0 : Int64} {a1 : Int64}  {H : HP} {Q : Option Value → HP → Prop} : Go 67 19 L (.long a1 :: .long a0 :: .ref p :: []) H Q ↔ (iso 7 (hget H p) = true ∧ Go 66 0 [some (.ref p), some (.long a0), none, some (.long a1), none, none, none, none, none] [] H (Cont 67 22 L [] Q)) := G_cV (n := 2) (N := 9) (as := [.long a1, .long a0]) (st := []) fX7_addProduct_19 (by decide +kernel) rfl (Nat.le_of_ble_eq_true rfl) (Nat.le_of_ble_eq_true rfl) rfl
theorem fX7_addProduct_22 : ft 67 22 = some (.aload_n 0, 0, 0, 0, .null) := by decide +kernel
theorem gX7_addProduct_22 {l1 l2 l3 l4 l5 l6 : Option Value} {u : Nat} {st : List Value} {H : HP} {Q : Option Value → HP → Prop} : Go 67 22 [some (.ref u), l1, l2, l3, l4, l5, l6] st H Q ↔ Go 67 23 [some (.ref u), l1, l2, l3, l4, l5, l6] (.ref u :: st) H Q := G_aload_n fX7_addProduct_22 rfl
theorem fX7_addProduct_23 : ft 67 23 = some (.lload_n 1, 0, 0, 0, .null) := by decide +kernel
theorem gX7_addProduct_23 {l0 l3 l4 l5 l6 : Option Value} {u : Int64} {st : List Value} {H : HP} {Q : Option Value → HP → Prop} : Go 67 23 [l0, some (.long u), none, l3, l4, l5, l6] st H Q ↔ Go 67 24 [l0, some (.long u), none, l3, l4, l5, l6] (.long u :: st) H Q := G_lload_n fX7_addProduct_23 rfl
theorem fX7_addProduct_24 : ft 67 24 = some (.lload_n 3, 0, 0, 0, .null) := by decide +kernel
theorem gX7_addProduct_24 {l0 l1 l2 l5 l6 : Option Value} {u : Int64} {st : List Value} {H : HP} {Q : Option Value → HP → Prop} : Go 67 24 [l0, l1, l2, some (.long u), none, l5, l6] st H Q ↔ Go 67 25 [l0, l1, l2, some (.long u), none, l5, l6] (.long u :: st) H Q := G_lload_n fX7_addProduct_24 rfl
theorem fX7_addProduct_25 : ft 67 25 = some (.ldc2_w 22, 0, 0, 527, .long (4294967295)) := by decide +kernel
theorem gX7_addProduct_25 {L : List (Option Value)} {st : List Value} {H : HP} {Q : Option Value → HP → Prop} : Go 67 25 L st H Q ↔ Go 67 28 L (vl (4294967295) :: st) H Q := G_ldcl fX7_addProduct_25 (by decide +kernel)
theorem fX7_addProduct_28 : ft 67 28 = some (.land, 0, 0, 0, .null) := by decide +kernel
theorem gX7_addProduct_28 {L : List (Option Value)} {a b : Int} {st : List Value} {H : HP} {Q : Option Value → HP → Prop} : Go 67 28 L (vl b :: vl a :: st) H Q ↔ Go 67 29 L (vl (bAnd a b) :: st) H Q := G_land fX7_addProduct_28
theorem fX7_addProduct_29 : ft 67 29 = some (.lmul, 0, 0, 0, .null) := by decide +kernel
theorem gX7_addProduct_29 {L : List (Option Value)} {a b : Int} {st : List Value} {H : HP} {Q : Option Value → HP → Prop} : Go 67 29 L (vl b :: vl a :: st) H Q ↔ Go 67 30 L (vl (a * b) :: st) H Q := G_lmul fX7_addProduct_29
theorem fX7_addProduct_30 : ft 67 30 = some (.invokevirtual 24, 65, 0, 528, .null) := by decide +kernel
theorem gX7_addProduct_30 {L : List (Option Value)} {p : Nat} {a0 : Int64}  {H : HP} {Q : Option Value → HP → Prop} : Go 67 30 L (.long a0 :: .ref p :: []) H Q ↔ (iso 7 (hget H p) = true ∧ Go 65 0 [some (.ref p), some (.long a0), none] [] H (Cont 67 33 L [] Q)) := G_cV (n := 1) (N := 3) (as := [.long a0]) (st := []) fX7_addProduct_30 (by decide +kernel) rfl (Nat.le_of_ble_eq_true rfl) (Nat.le_of_ble_eq_true rfl) rfl
theorem fX7_addProduct_33 : ft 67 33 = some (.return_, 0, 0, 0, .null) := by decide +kernel
theorem gX7_addProduct_33 {L : List (Option Value)} {H : HP} {Q : Option Value → HP → Prop} : Go 67 33 L [] H Q ↔ Q none H := G_vret fX7_addProduct_33 (by decide +kernel)
theorem fX7_takeDigit_0 : ft 68 0 = some (.iload_n 1, 0, 0, 0, .null) := by decide +kernel
theorem gX7_takeDigit_0 {l0 l2 l3 l4 l5 l6 l7 : Option Value} {u : Int32} {st : List Value} {H : HP} {Q : Option Value → HP → Prop} : Go 68 0 [l0, some (.int u), l2, l3, l4, l5, l6, l7] st H Q ↔ Go 68 1 [l0, some (.int u), l2, l3, l4, l5, l6, l7] (.int u :: st) H Q := G_iload_n fX7_takeDigit_0 rfl
theorem fX7_takeDigit_1 : ft 68 1 = some (.iconst 2, 0, 0, 0, .null) := by decide +kernel
theorem gX7_takeDigit_1 {L : List (Option Value)} {st : List Value} {H : HP} {Q : Option Value → HP → Prop} : Go 68 1 L st H Q ↔ Go 68 2 L (vi 2 :: st) H Q := G_iconst fX7_takeDigit_1
theorem fX7_takeDigit_2 : ft 68 2 = some (.if_icmp .ge 5, 0, 0, 0, .null) := by decide +kernel
theorem gX7_takeDigit_2T {L : List (Option Value)} {a b : Int} (c : (-2147483648 ≤ a ∧ a ≤ 2147483647 ∧ -2147483648 ≤ b ∧ b ≤ 2147483647) ∧ b ≤ a) {st : List Value} {H : HP} {Q : Option Value → HP → Prop} : Go 68 2 L (vi b :: vi a :: st) H Q ↔ Go 68 7 L st H Q := G_icT fX7_takeDigit_2 (by decide) c
theorem gX7_takeDigit_2F {L : List (Option Value)} {a b : Int} (c : (-2147483648 ≤ a ∧ a ≤ 2147483647 ∧ -2147483648 ≤ b ∧ b ≤ 2147483647) ∧ ¬ (b ≤ a)) {st : List Value} {H : HP} {Q : Option Value → HP → Prop} : Go 68 2 L (vi b :: vi a :: st) H Q ↔ Go 68 5 L st H Q := G_icF (tg := 7) fX7_takeDigit_2 (by decide) c
theorem fX7_takeDigit_5 : ft 68 5 = some (.lconst 0, 0, 0, 0, .null) := by decide +kernel
theorem gX7_takeDigit_5 {L : List (Option Value)} {st : List Value} {H : HP} {Q : Option Value → HP → Prop} : Go 68 5 L st H Q ↔ Go 68 6 L (vl 0 :: st) H Q := G_lconst fX7_takeDigit_5 (by decide)
theorem fX7_takeDigit_6 : ft 68 6 = some (.lreturn, 0, 0, 0, .null) := by decide +kernel
theorem gX7_takeDigit_6 {L : List (Option Value)} {u : Int64} {H : HP} {Q : Option Value → HP → Prop} : Go 68 6 L [.long u] H Q ↔ Q (some (.long u)) H := G_lret fX7_takeDigit_6 (by decide +kernel)
theorem fX7_takeDigit_7 : ft 68 7 = some (.aload_n 0, 0, 0, 0, .null) := by decide +kernel
theorem gX7_takeDigit_7 {l1 l2 l3 l4 l5 l6 l7 : Option Value} {u : Nat} {st : List Value} {H : HP} {Q : Option Value → HP → Prop} : Go 68 7 [some (.ref u), l1, l2, l3, l4, l5, l6, l7] st H Q ↔ Go 68 8 [some (.ref u), l1, l2, l3, l4, l5, l6, l7] (.ref u :: st) H Q := G_aload_n fX7_takeDigit_7 rfl
theorem fX7_takeDigit_8 : ft 68 8 = some (.getfield 7, 7, 0, 141, .null) := by decide +kernel
theorem gX7_takeDigit_8 {L : List (Option Value)} {p : Nat} {st : List Value} {H : HP} {Q : Option Value → HP → Prop} : Go 68 8 L (.ref p :: st) H Q ↔ Rd (gF' 7 0 (hget H p)) 68 11 L st H Q := G_getf fX7_takeDigit_8 ⟨rfl, rfl⟩
theorem fX7_takeDigit_11 : ft 68 11 = some (.iload_n 1, 0, 0, 0, .null) := by decide +kernel
theorem gX7_takeDigit_11 {l0 l2 l3 l4 l5 l6 l7 : Option Value} {u : Int32} {st : List Value} {H : HP} {Q : Option Value → HP → Prop} : Go 68 11 [l0, some (.int u), l2, l3, l4, l5, l6, l7] st H Q ↔ Go 68 12 [l0, some (.int u), l2, l3, l4, l5, l6, l7] (.int u :: st) H Q := G_iload_n fX7_takeDigit_11 rfl
theorem fX7_takeDigit_12 : ft 68 12 = some (.i2l, 0, 0, 0, .null) := by decide +kernel
theorem gX7_takeDigit_12 {L : List (Option Value)} {a : Int} (c : -2147483648 ≤ a ∧ a ≤ 2147483647) {st : List Value} {H : HP} {Q : Option Value → HP → Prop} : Go 68 12 L (vi a :: st) H Q ↔ Go 68 13 L (vl a :: st) H Q := G_i2l fX7_takeDigit_12 c
theorem fX7_takeDigit_13 : ft 68 13 = some (.lrem, 0, 0, 0, .null) := by decide +kernel
theorem gX7_takeDigit_13 {L : List (Option Value)} {a b : Int} (c : -9223372036854775808 ≤ a ∧ a ≤ 9223372036854775807 ∧ -9223372036854775808 ≤ b ∧ b ≤ 9223372036854775807 ∧ ¬ b = 0) {st : List Value} {H : HP} {Q : Option Value → HP → Prop} : Go 68 13 L (vl b :: vl a :: st) H Q ↔ Go 68 14 L (vl (a.tmod b) :: st) H Q := G_lrem fX7_takeDigit_13 c
theorem fX7_takeDigit_14 : ft 68 14 = some (.lstore_n 2, 0, 0, 0, .null) := by decide +kernel
theorem gX7_takeDigit_14 {l0 l1 l2 l3 l4 l5 l6 l7 : Option Value} {u : Int64} {st : List Value} {H : HP} {Q : Option Value → HP → Prop} : Go 68 14 [l0, l1, l2, l3, l4, l5, l6, l7] (.long u :: st) H Q ↔ Go 68 15 [l0, l1, some (.long u), none, l4, l5, l6, l7] st H Q := G_lstore_n fX7_takeDigit_14 rfl
theorem fX7_takeDigit_15 : ft 68 15 = some (.aload_n 0, 0, 0, 0, .null) := by decide +kernel
theorem gX7_takeDigit_15 {l1 l2 l3 l4 l5 l6 l7 : Option Value} {u : Nat} {st : List Value} {H : HP} {Q : Option Value → HP → Prop} : Go 68 15 [some (.ref u), l1, l2, l3, l4, l5, l6, l7] st H Q ↔ Go 68 16 [some (.ref u), l1, l2, l3, l4, l5, l6, l7] (.ref u :: st) H Q := G_aload_n fX7_takeDigit_15 rfl
theorem fX7_takeDigit_16 : ft 68 16 = some (.aload_n 0, 0, 0, 0, .null) := by decide +kernel
theorem gX7_takeDigit_16 {l1 l2 l3 l4 l5 l6 l7 : Option Value} {u : Nat} {st : List Value} {H : HP} {Q : Option Value → HP → Prop} : Go 68 16 [some (.ref u), l1, l2, l3, l4, l5, l6, l7] st H Q ↔ Go 68 17 [some (.ref u), l1, l2, l3, l4, l5, l6, l7] (.ref u :: st) H Q := G_aload_n fX7_takeDigit_16 rfl
theorem fX7_takeDigit_17 : ft 68 17 = some (.getfield 7, 7, 0, 141, .null) := by decide +kernel
theorem gX7_takeDigit_17 {L : List (Option Value)} {p : Nat} {st : List Value} {H : HP} {Q : Option Value → HP → Prop} : Go 68 17 L (.ref p :: st) H Q ↔ Rd (gF' 7 0 (hget H p)) 68 20 L st H Q := G_getf fX7_takeDigit_17 ⟨rfl, rfl⟩
theorem fX7_takeDigit_20 : ft 68 20 = some (.iload_n 1, 0, 0, 0, .null) := by decide +kernel
theorem gX7_takeDigit_20 {l0 l2 l3 l4 l5 l6 l7 : Option Value} {u : Int32} {st : List Value} {H : HP} {Q : Option Value → HP → Prop} : Go 68 20 [l0, some (.int u), l2, l3, l4, l5, l6, l7] st H Q ↔ Go 68 21 [l0, some (.int u), l2, l3, l4, l5, l6, l7] (.int u :: st) H Q := G_iload_n fX7_takeDigit_20 rfl
theorem fX7_takeDigit_21 : ft 68 21 = some (.i2l, 0, 0, 0, .null) := by decide +kernel
theorem gX7_takeDigit_21 {L : List (Option Value)} {a : Int} (c : -2147483648 ≤ a ∧ a ≤ 2147483647) {st : List Value} {H : HP} {Q : Option Value → HP → Prop} : Go 68 21 L (vi a :: st) H Q ↔ Go 68 22 L (vl a :: st) H Q := G_i2l fX7_takeDigit_21 c
theorem fX7_takeDigit_22 : ft 68 22 = some (.ldiv, 0, 0, 0, .null) := by decide +kernel
theorem gX7_takeDigit_22 {L : List (Option Value)} {a b : Int} (c : -9223372036854775808 ≤ a ∧ a ≤ 9223372036854775807 ∧ -9223372036854775808 ≤ b ∧ b ≤ 9223372036854775807 ∧ ¬ b = 0) {st : List Value} {H : HP} {Q : Option Value → HP → Prop} : Go 68 22 L (vl b :: vl a :: st) H Q ↔ Go 68 23 L (vl (a.tdiv b) :: st) H Q := G_ldiv fX7_takeDigit_22 c
theorem fX7_takeDigit_23 : ft 68 23 = some (.putfield 7, 7, 0, 141, .null) := by decide +kernel
theorem gX7_takeDigit_23 {L : List (Option Value)} {p : Nat} {u : Int64} (hp : p ≠ 0) {st : List Value} {H : HP} {Q : Option Value → HP → Prop} : Go 68 23 L (.long u :: .ref p :: st) H Q ↔ Wr (pF' 7 0 (hget H p) (.long u)) p 68 26 L st H Q := G_putf fX7_takeDigit_23 ⟨⟨rfl, rfl⟩, rfl, Or.inl rfl⟩ hp
theorem fX7_takeDigit_26 : ft 68 26 = some (.lload_n 2, 0, 0, 0, .null) := by decide +kernel
theorem gX7_takeDigit_26 {l0 l1 l4 l5 l6 l7 : Option Value} {u : Int64} {st : List Value} {H : HP} {Q : Option Value → HP → Prop} : Go 68 26 [l0, l1, some (.long u), none, l4, l5, l6, l7] st H Q ↔ Go 68 27 [l0, l1, some (.long u), none, l4, l5, l6, l7] (.long u :: st) H Q := G_lload_n fX7_takeDigit_26 rfl
theorem fX7_takeDigit_27 : ft 68 27 = some (.bipush 32, 0, 0, 0, .null) := by decide +kernel
theorem gX7_takeDigit_27 {L : List (Option Value)} {st : List Value} {H : HP} {Q : Option Value → HP → Prop} : Go 68 27 L st H Q ↔ Go 68 29 L (vi 32 :: st) H Q := G_bipush fX7_takeDigit_27 (by decide)
theorem fX7_takeDigit_29 : ft 68 29 = some (.lshl, 0, 0, 0, .null) := by decide +kernel
theorem gX7_takeDigit_29 {L : List (Option Value)} {a b : Int} {st : List Value} {H : HP} {Q : Option Value → HP → Prop} : Go 68 29 L (vi b :: vl a :: st) H Q ↔ Go 68 30 L (vl (bShl a b) :: st) H Q := G_lshl fX7_takeDigit_29
theorem fX7_takeDigit_30 : ft 68 30 = some (.aload_n 0, 0, 0, 0, .null) := by decide +kernel
theorem gX7_takeDigit_30 {l1 l2 l3 l4 l5 l6 l7 : Option Value} {u : Nat} {st : List Value} {H : HP} {Q : Option Value → HP → Prop} : Go 68 30 [some (.ref u), l1, l2, l3, l4, l5, l6, l7] st H Q ↔ Go 68 31 [some (.ref u), l1, l2, l3, l4, l5, l6, l7] (.ref u :: st) H Q := G_aload_n fX7_takeDigit_30 rfl
theorem fX7_takeDigit_31 : ft 68 31 = some (.getfield 13, 7, 1, 143, .null) := by decide +kernel
theorem gX7_takeDigit_31 {L : List (Option Value)} {p : Nat} {st : List Value} {H : HP} {Q : Option Value → HP → Prop} : Go 68 31 L (.ref p :: st) H Q ↔ Rd (gF' 7 1 (hget H p)) 68 34 L st H Q := G_getf fX7_takeDigit_31 ⟨rfl, rfl⟩
theorem fX7_takeDigit_34 : ft 68 34 = some (.bipush 32, 0, 0, 0, .null) := by decide +kernel
theorem gX7_takeDigit_34 {L : List (Option Value)} {st : List Value} {H : HP} {Q : Option Value → HP → Prop} : Go 68 34 L st H Q ↔ Go 68 36 L (vi 32 :: st) H Q := G_bipush fX7_takeDigit_34 (by decide)
theorem fX7_takeDigit_36 : ft 68 36 = some (.lushr, 0, 0, 0, .null) := by decide +kernel
theorem gX7_takeDigit_36 {L : List (Option Value)} {a b : Int} {st : List Value} {H : HP} {Q : Option Value → HP → Prop} : Go 68 36 L (vi b :: vl a :: st) H Q ↔ Go 68 37 L (vl (bUsh a b) :: st) H Q := G_lushr fX7_takeDigit_36
theorem fX7_takeDigit_37 : ft 68 37 = some (.lor, 0, 0, 0, .null) := by decide +kernel
theorem gX7_takeDigit_37 {L : List (Option Value)} {a b : Int} {st : List Value} {H : HP} {Q : Option Value → HP → Prop} : Go 68 37 L (vl b :: vl a :: st) H Q ↔ Go 68 38 L (vl (bOr a b) :: st) H Q := G_lor fX7_takeDigit_37
theorem fX7_takeDigit_38 : ft 68 38 = some (.lstore 4, 0, 0, 0, .null) := by decide +kernel
theorem gX7_takeDigit_38 {l0 l1 l2 l3 l4 l5 l6 l7 : Option Value} {u : Int64} {st : List Value} {H : HP} {Q : Option Value → HP → Prop} : Go 68 38 [l0, l1, l2, l3, l4, l5, l6, l7] (.long u :: st) H Q ↔ Go 68 40 [l0, l1, l2, l3, some (.long u), none, l6, l7] st H Q := G_lstore fX7_takeDigit_38 rfl
theorem fX7_takeDigit_40 : ft 68 40 = some (.lload 4, 0, 0, 0, .null) := by decide +kernel
theorem gX7_takeDigit_40 {l0 l1 l2 l3 l6 l7 : Option Value} {u : Int64} {st : List Value} {H : HP} {Q : Option Value → HP → Prop} : Go 68 40 [l0, l1, l2, l3, some (.long u), none, l6, l7] st H Q ↔ Go 68 42 [l0, l1, l2, l3, some (.long u), none, l6, l7] (.long u :: st) H Q := G_lload fX7_takeDigit_40 rfl
theorem fX7_takeDigit_42 : ft 68 42 = some (.iload_n 1, 0, 0, 0, .null) := by decide +kernel
theorem gX7_takeDigit_42 {l0 l2 l3 l4 l5 l6 l7 : Option Value} {u : Int32} {st : List Value} {H : HP} {Q : Option Value → HP → Prop} : Go 68 42 [l0, some (.int u), l2, l3, l4, l5, l6, l7] st H Q ↔ Go 68 43 [l0, some (.int u), l2, l3, l4, l5, l6, l7] (.int u :: st) H Q := G_iload_n fX7_takeDigit_42 rfl
theorem fX7_takeDigit_43 : ft 68 43 = some (.i2l, 0, 0, 0, .null) := by decide +kernel
theorem gX7_takeDigit_43 {L : List (Option Value)} {a : Int} (c : -2147483648 ≤ a ∧ a ≤ 2147483647) {st : List Value} {H : HP} {Q : Option Value → HP → Prop} : Go 68 43 L (vi a :: st) H Q ↔ Go 68 44 L (vl a :: st) H Q := G_i2l fX7_takeDigit_43 c
theorem fX7_takeDigit_44 : ft 68 44 = some (.lrem, 0, 0, 0, .null) := by decide +kernel
theorem gX7_takeDigit_44 {L : List (Option Value)} {a b : Int} (c : -9223372036854775808 ≤ a ∧ a ≤ 9223372036854775807 ∧ -9223372036854775808 ≤ b ∧ b ≤ 9223372036854775807 ∧ ¬ b = 0) {st : List Value} {H : HP} {Q : Option Value → HP → Prop} : Go 68 44 L (vl b :: vl a :: st) H Q ↔ Go 68 45 L (vl (a.tmod b) :: st) H Q := G_lrem fX7_takeDigit_44 c
theorem fX7_takeDigit_45 : ft 68 45 = some (.bipush 32, 0, 0, 0, .null) := by decide +kernel
theorem gX7_takeDigit_45 {L : List (Option Value)} {st : List Value} {H : HP} {Q : Option Value → HP → Prop} : Go 68 45 L st H Q ↔ Go 68 47 L (vi 32 :: st) H Q := G_bipush fX7_takeDigit_45 (by decide)
theorem fX7_takeDigit_47 : ft 68 47 = some (.lshl, 0, 0, 0, .null) := by decide +kernel
theorem gX7_takeDigit_47 {L : List (Option Value)} {a b : Int} {st : List Value} {H : HP} {Q : Option Value → HP → Prop} : Go 68 47 L (vi b :: vl a :: st) H Q ↔ Go 68 48 L (vl (bShl a b) :: st) H Q := G_lshl fX7_takeDigit_47
theorem fX7_takeDigit_48 : ft 68 48 = some (.aload_n 0, 0, 0, 0, .null) := by decide +kernel
theorem gX7_takeDigit_48 {l1 l2 l3 l4 l5 l6 l7 : Option Value} {u : Nat} {st : List Value} {H : HP} {Q : Option Value → HP → Prop} : Go 68 48 [some (.ref u), l1, l2, l3, l4, l5, l6, l7] st H Q ↔ Go 68 49 [some (.ref u), l1, l2, l3, l4, l5, l6, l7] (.ref u :: st) H Q := G_aload_n fX7_takeDigit_48 rfl
theorem fX7_takeDigit_49 : ft 68 49 = some (.getfield 13, 7, 1, 143, .null) := by decide +kernel
theorem gX7_takeDigit_49 {L : List (Option Value)} {p : Nat} {st : List Value} {H : HP} {Q : Option Value → HP → Prop} : Go 68 49 L (.ref p :: st) H Q ↔ Rd (gF' 7 1 (hget H p)) 68 52 L st H Q := G_getf fX7_takeDigit_49 ⟨rfl, rfl⟩
theorem fX7_takeDigit_52 : ft 68 52 = some (.ldc2_w 22, 0, 0, 527, .long (4294967295)) := by decide +kernel
theorem gX7_takeDigit_52 {L : List (Option Value)} {st : List Value} {H : HP} {Q : Option Value → HP → Prop} : Go 68 52 L st H Q ↔ Go 68 55 L (vl (4294967295) :: st) H Q := G_ldcl fX7_takeDigit_52 (by decide +kernel)
theorem fX7_takeDigit_55 : ft 68 55 = some (.land, 0, 0, 0, .null) := by decide +kernel
theorem gX7_takeDigit_55 {L : List (Option Value)} {a b : Int} {st : List Value} {H : HP} {Q : Option Value → HP → Prop} : Go 68 55 L (vl b :: vl a :: st) H Q ↔ Go 68 56 L (vl (bAnd a b) :: st) H Q := G_land fX7_takeDigit_55
theorem fX7_takeDigit_56 : ft 68 56 = some (.lor, 0, 0, 0, .null) := by decide +kernel
theorem gX7_takeDigit_56 {L : List (Option Value)} {a b : Int} {st : List Value} {H : HP} {Q : Option Value → HP → Prop} : Go 68 56 L (vl b :: vl a :: st) H Q ↔ Go 68 57 L (vl (bOr a b) :: st) H Q := G_lor fX7_takeDigit_56
theorem fX7_takeDigit_57 : ft 68 57 = some (.lstore 6, 0, 0, 0, .null) := by decide +kernel
theorem gX7_takeDigit_57 {l0 l1 l2 l3 l4 l5 l6 l7 : Option Value} {u : Int64} {st : List Value} {H : HP} {Q : Option Value → HP → Prop} : Go 68 57 [l0, l1, l2, l3, l4, l5, l6, l7] (.long u :: st) H Q ↔ Go 68 59 [l0, l1, l2, l3, l4, l5, some (.long u), none] st H Q := G_lstore fX7_takeDigit_57 rfl
theorem fX7_takeDigit_59 : ft 68 59 = some (.aload_n 0, 0, 0, 0, .null) := by decide +kernel
theorem gX7_takeDigit_59 {l1 l2 l3 l4 l5 l6 l7 : Option Value} {u : Nat} {st : List Value} {H : HP} {Q : Option Value → HP → Prop} : Go 68 59 [some (.ref u), l1, l2, l3, l4, l5, l6, l7] st H Q ↔ Go 68 60 [some (.ref u), l1, l2, l3, l4, l5, l6, l7] (.ref u :: st) H Q := G_aload_n fX7_takeDigit_59 rfl
theorem fX7_takeDigit_60 : ft 68 60 = some (.lload 4, 0, 0, 0, .null) := by decide +kernel
theorem gX7_takeDigit_60 {l0 l1 l2 l3 l6 l7 : Option Value} {u : Int64} {st : List Value} {H : HP} {Q : Option Value → HP → Prop} : Go 68 60 [l0, l1, l2, l3, some (.long u), none, l6, l7] st H Q ↔ Go 68 62 [l0, l1, l2, l3, some (.long u), none, l6, l7] (.long u :: st) H Q := G_lload fX7_takeDigit_60 rfl
theorem fX7_takeDigit_62 : ft 68 62 = some (.iload_n 1, 0, 0, 0, .null) := by decide +kernel
theorem gX7_takeDigit_62 {l0 l2 l3 l4 l5 l6 l7 : Option Value} {u : Int32} {st : List Value} {H : HP} {Q : Option Value → HP → Prop} : Go 68 62 [l0, some (.int u), l2, l3, l4, l5, l6, l7] st H Q ↔ Go 68 63 [l0, some (.int u), l2, l3, l4, l5, l6, l7] (.int u :: st) H Q := G_iload_n fX7_takeDigit_62 rfl
theorem fX7_takeDigit_63 : ft 68 63 = some (.i2l, 0, 0, 0, .null) := by decide +kernel
theorem gX7_takeDigit_63 {L : List (Option Value)} {a : Int} (c : -2147483648 ≤ a ∧ a ≤ 2147483647) {st : List Value} {H : HP} {Q : Option Value → HP → Prop} : Go 68 63 L (vi a :: st) H Q ↔ Go 68 64 L (vl a :: st) H Q := G_i2l fX7_takeDigit_63 c
theorem fX7_takeDigit_64 : ft 68 64 = some (.ldiv, 0, 0, 0, .null) := by decide +kernel
theorem gX7_takeDigit_64 {L : List (Option Value)} {a b : Int} (c : -9223372036854775808 ≤ a ∧ a ≤ 9223372036854775807 ∧ -9223372036854775808 ≤ b ∧ b ≤ 9223372036854775807 ∧ ¬ b = 0) {st : List Value} {H : HP} {Q : Option Value → HP → Prop} : Go 68 64 L (vl b :: vl a :: st) H Q ↔ Go 68 65 L (vl (a.tdiv b) :: st) H Q := G_ldiv fX7_takeDigit_64 c
theorem fX7_takeDigit_65 : ft 68 65 = some (.bipush 32, 0, 0, 0, .null) := by decide +kernel
theorem gX7_takeDigit_65 {L : List (Option Value)} {st : List Value} {H : HP} {Q : Option Value → HP → Prop} : Go 68 65 L st H Q ↔ Go 68 67 L (vi 32 :: st) H Q := G_bipush fX7_takeDigit_65 (by decide)
theorem fX7_takeDigit_67 : ft 68 67 = some (.lshl, 0, 0, 0, .null) := by decide +kernel
theorem gX7_takeDigit_67 {L : List (Option Value)} {a b : Int} {st : List Value} {H : HP} {Q : Option Value → HP → Prop} : Go 68 67 L (vi b :: vl a :: st) H Q ↔ Go 68 68 L (vl (bShl a b) :: st) H Q := G_lshl fX7_takeDigit_67
theorem fX7_takeDigit_68 : ft 68 68 = some (.lload 6, 0, 0, 0, .null) := by decide +kernel
theorem gX7_takeDigit_68 {l0 l1 l2 l3 l4 l5 : Option Value} {u : Int64} {st : List Value} {H : HP} {Q : Option Value → HP → Prop} : Go 68 68 [l0, l1, l2, l3, l4, l5, some (.long u), none] st H Q ↔ Go 68 70 [l0, l1, l2, l3, l4, l5, some (.long u), none] (.long u :: st) H Q := G_lload fX7_takeDigit_68 rfl
theorem fX7_takeDigit_70 : ft 68 70 = some (.iload_n 1, 0, 0, 0, .null) := by decide +kernel
theorem gX7_takeDigit_70 {l0 l2 l3 l4 l5 l6 l7 : Option Value} {u : Int32} {st : List Value} {H : HP} {Q : Option Value → HP → Prop} : Go 68 70 [l0, some (.int u), l2, l3, l4, l5, l6, l7] st H Q ↔ Go 68 71 [l0, some (.int u), l2, l3, l4, l5, l6, l7] (.int u :: st) H Q := G_iload_n fX7_takeDigit_70 rfl
theorem fX7_takeDigit_71 : ft 68 71 = some (.i2l, 0, 0, 0, .null) := by decide +kernel
theorem gX7_takeDigit_71 {L : List (Option Value)} {a : Int} (c : -2147483648 ≤ a ∧ a ≤ 2147483647) {st : List Value} {H : HP} {Q : Option Value → HP → Prop} : Go 68 71 L (vi a :: st) H Q ↔ Go 68 72 L (vl a :: st) H Q := G_i2l fX7_takeDigit_71 c
theorem fX7_takeDigit_72 : ft 68 72 = some (.ldiv, 0, 0, 0, .null) := by decide +kernel
theorem gX7_takeDigit_72 {L : List (Option Value)} {a b : Int} (c : -9223372036854775808 ≤ a ∧ a ≤ 9223372036854775807 ∧ -9223372036854775808 ≤ b ∧ b ≤ 9223372036854775807 ∧ ¬ b = 0) {st : List Value} {H : HP} {Q : Option Value → HP → Prop} : Go 68 72 L (vl b :: vl a :: st) H Q ↔ Go 68 73 L (vl (a.tdiv b) :: st) H Q := G_ldiv fX7_takeDigit_72 c
theorem fX7_takeDigit_73 : ft 68 73 = some (.lor, 0, 0, 0, .null) := by decide +kernel
theorem gX7_takeDigit_73 {L : List (Option Value)} {a b : Int} {st : List Value} {H : HP} {Q : Option Value → HP → Prop} : Go 68 73 L (vl b :: vl a :: st) H Q ↔ Go 68 74 L (vl (bOr a b) :: st) H Q := G_lor fX7_takeDigit_73
theorem fX7_takeDigit_74 : ft 68 74 = some (.putfield 13, 7, 1, 143, .null) := by decide +kernel
theorem gX7_takeDigit_74 {L : List (Option Value)} {p : Nat} {u : Int64} (hp : p ≠ 0) {st : List Value} {H : HP} {Q : Option Value → HP → Prop} : Go 68 74 L (.long u :: .ref p :: st) H Q ↔ Wr (pF' 7 1 (hget H p) (.long u)) p 68 77 L st H Q := G_putf fX7_takeDigit_74 ⟨⟨rfl, rfl⟩, rfl, Or.inl rfl⟩ hp
theorem fX7_takeDigit_77 : ft 68 77 = some (.lload 6, 0, 0, 0, .null) := by decide +kernel
theorem gX7_takeDigit_77 {l0 l1 l2 l3 l4 l5 : Option Value} {u : Int64} {st : List Value} {H : HP} {Q : Option Value → HP → Prop} : Go 68 77 [l0, l1, l2, l3, l4, l5, some (.long u), none] st H Q ↔ Go 68 79 [l0, l1, l2, l3, l4, l5, some (.long u), none] (.long u :: st) H Q := G_lload fX7_takeDigit_77 rfl
theorem fX7_takeDigit_79 : ft 68 79 = some (.iload_n 1, 0, 0, 0, .null) := by decide +kernel
theorem gX7_takeDigit_79 {l0 l2 l3 l4 l5 l6 l7 : Option Value} {u : Int32} {st : List Value} {H : HP} {Q : Option Value → HP → Prop} : Go 68 79 [l0, some (.int u), l2, l3, l4, l5, l6, l7] st H Q ↔ Go 68 80 [l0, some (.int u), l2, l3, l4, l5, l6, l7] (.int u :: st) H Q := G_iload_n fX7_takeDigit_79 rfl
theorem fX7_takeDigit_80 : ft 68 80 = some (.i2l, 0, 0, 0, .null) := by decide +kernel
theorem gX7_takeDigit_80 {L : List (Option Value)} {a : Int} (c : -2147483648 ≤ a ∧ a ≤ 2147483647) {st : List Value} {H : HP} {Q : Option Value → HP → Prop} : Go 68 80 L (vi a :: st) H Q ↔ Go 68 81 L (vl a :: st) H Q := G_i2l fX7_takeDigit_80 c
theorem fX7_takeDigit_81 : ft 68 81 = some (.lrem, 0, 0, 0, .null) := by decide +kernel
theorem gX7_takeDigit_81 {L : List (Option Value)} {a b : Int} (c : -9223372036854775808 ≤ a ∧ a ≤ 9223372036854775807 ∧ -9223372036854775808 ≤ b ∧ b ≤ 9223372036854775807 ∧ ¬ b = 0) {st : List Value} {H : HP} {Q : Option Value → HP → Prop} : Go 68 81 L (vl b :: vl a :: st) H Q ↔ Go 68 82 L (vl (a.tmod b) :: st) H Q := G_lrem fX7_takeDigit_81 c
theorem fX7_takeDigit_82 : ft 68 82 = some (.lreturn, 0, 0, 0, .null) := by decide +kernel
theorem gX7_takeDigit_82 {L : List (Option Value)} {u : Int64} {H : HP} {Q : Option Value → HP → Prop} : Go 68 82 L [.long u] H Q ↔ Q (some (.long u)) H := G_lret fX7_takeDigit_82 (by decide +kernel)

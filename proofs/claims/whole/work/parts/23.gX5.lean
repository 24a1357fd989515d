theorem fX5_init_0 : ft 54 0 = some (.aload_n 0, 0, 0, 0, .null) := by decide +kernel
theorem gX5_init_0 {l1 l2 : Option Value} {u : Nat} {st : List Value} {H : HP} {Q : Option Value → HP → Prop} : Go 54 0 [some (.ref u), l1, l2] st H Q ↔ Go 54 1 [some (.ref u), l1, l2] (.ref u :: st) H Q := G_aload_n fX5_init_0 rfl
theorem fX5_init_1 : ft 54 1 = some (.invokespecial 3, 1000, 0, 279, .null) := by decide +kernel
theorem gX5_init_1 {L : List (Option Value)} {p : Nat}  {H : HP} {Q : Option Value → HP → Prop} : Go 54 1 L (.ref p :: []) H Q ↔ Go 54 4 L [] H Q := G_obj fX5_init_1 rfl ⟨by decide +kernel, Nat.le_trans (m := 20) (Nat.le_of_ble_eq_true rfl) (by decide +kernel)⟩
theorem fX5_init_4 : ft 54 4 = some (.aload_n 0, 0, 0, 0, .null) := by decide +kernel
theorem gX5_init_4 {l1 l2 : Option Value} {u : Nat} {st : List Value} {H : HP} {Q : Option Value → HP → Prop} : Go 54 4 [some (.ref u), l1, l2] st H Q ↔ Go 54 5 [some (.ref u), l1, l2] (.ref u :: st) H Q := G_aload_n fX5_init_4 rfl
theorem fX5_init_5 : ft 54 5 = some (.iload_n 1, 0, 0, 0, .null) := by decide +kernel
theorem gX5_init_5 {l0 l2 : Option Value} {u : Int32} {st : List Value} {H : HP} {Q : Option Value → HP → Prop} : Go 54 5 [l0, some (.int u), l2] st H Q ↔ Go 54 6 [l0, some (.int u), l2] (.int u :: st) H Q := G_iload_n fX5_init_5 rfl
theorem fX5_init_6 : ft 54 6 = some (.putfield 9, 5, 0, 280, .null) := by decide +kernel
theorem gX5_init_6 {L : List (Option Value)} {p : Nat} {u : Int32} (hp : p ≠ 0) {st : List Value} {H : HP} {Q : Option Value → HP → Prop} : Go 54 6 L (.int u :: .ref p :: st) H Q ↔ Wr (pF' 5 0 (hget H p) (.int u)) p 54 9 L st H Q := G_putf fX5_init_6 ⟨⟨rfl, rfl⟩, rfl, Or.inr (by decide +kernel)⟩ hp
theorem fX5_init_9 : ft 54 9 = some (.aload_n 0, 0, 0, 0, .null) := by decide +kernel
theorem gX5_init_9 {l1 l2 : Option Value} {u : Nat} {st : List Value} {H : HP} {Q : Option Value → HP → Prop} : Go 54 9 [some (.ref u), l1, l2] st H Q ↔ Go 54 10 [some (.ref u), l1, l2] (.ref u :: st) H Q := G_aload_n fX5_init_9 rfl
theorem fX5_init_10 : ft 54 10 = some (.iload_n 2, 0, 0, 0, .null) := by decide +kernel
theorem gX5_init_10 {l0 l1 : Option Value} {u : Int32} {st : List Value} {H : HP} {Q : Option Value → HP → Prop} : Go 54 10 [l0, l1, some (.int u)] st H Q ↔ Go 54 11 [l0, l1, some (.int u)] (.int u :: st) H Q := G_iload_n fX5_init_10 rfl
theorem fX5_init_11 : ft 54 11 = some (.newarray .long, 0, 0, 0, .null) := by decide +kernel
theorem gX5_init_11 {L : List (Option Value)} {a : Int} (c : 0 ≤ a ∧ a ≤ 1000000) {st : List Value} {H : HP} {Q : Option Value → HP → Prop} : Go 54 11 L (vi a :: st) H Q ↔ Go 54 13 L (.ref H.1 :: st) (hnew H (cL a fun _ => 0) a.toNat) Q := G_newL fX5_init_11 c
theorem fX5_init_13 : ft 54 13 = some (.putfield 15, 5, 1, 283, .null) := by decide +kernel
theorem gX5_init_13 {L : List (Option Value)} {p : Nat} {u : Nat} (hp : p ≠ 0) {st : List Value} {H : HP} {Q : Option Value → HP → Prop} : Go 54 13 L (.ref u :: .ref p :: st) H Q ↔ Wr (pF' 5 1 (hget H p) (.ref u)) p 54 16 L st H Q := G_putf fX5_init_13 ⟨⟨rfl, rfl⟩, rfl, Or.inr (by decide +kernel)⟩ hp
theorem fX5_init_16 : ft 54 16 = some (.return_, 0, 0, 0, .null) := by decide +kernel
theorem gX5_init_16 {L : List (Option Value)} {H : HP} {Q : Option Value → HP → Prop} : Go 54 16 L [] H Q ↔ Q none H := G_vret fX5_init_16 (by decide +kernel)
theorem fX5_size_0 : ft 55 0 = some (.aload_n 0, 0, 0, 0, .null) := by decide +kernel
theorem gX5_size_0  {u : Nat} {st : List Value} {H : HP} {Q : Option Value → HP → Prop} : Go 55 0 [some (.ref u)] st H Q ↔ Go 55 1 [some (.ref u)] (.ref u :: st) H Q := G_aload_n fX5_size_0 rfl
theorem fX5_size_1 : ft 55 1 = some (.getfield 15, 5, 1, 283, .null) := by decide +kernel
theorem gX5_size_1 {L : List (Option Value)} {p : Nat} {st : List Value} {H : HP} {Q : Option Value → HP → Prop} : Go 55 1 L (.ref p :: st) H Q ↔ Rd (gF' 5 1 (hget H p)) 55 4 L st H Q := G_getf fX5_size_1 ⟨rfl, rfl⟩
theorem fX5_size_4 : ft 55 4 = some (.arraylength, 0, 0, 0, .null) := by decide +kernel
theorem gX5_size_4 {L : List (Option Value)} {p : Nat} {st : List Value} {H : HP} {Q : Option Value → HP → Prop} : Go 55 4 L (.ref p :: st) H Q ↔ Rd (aN' (hget H p)) 55 5 L st H Q := G_alen fX5_size_4
theorem fX5_size_5 : ft 55 5 = some (.ireturn, 0, 0, 0, .null) := by decide +kernel
theorem gX5_size_5 {L : List (Option Value)} {u : Int32} {H : HP} {Q : Option Value → HP → Prop} : Go 55 5 L [.int u] H Q ↔ Q (some (.int u)) H := G_iret fX5_size_5 (by decide +kernel)
theorem fX5_has_0 : ft 56 0 = some (.iload_n 1, 0, 0, 0, .null) := by decide +kernel
theorem gX5_has_0 {l0 : Option Value} {u : Int32} {st : List Value} {H : HP} {Q : Option Value → HP → Prop} : Go 56 0 [l0, some (.int u)] st H Q ↔ Go 56 1 [l0, some (.int u)] (.int u :: st) H Q := G_iload_n fX5_has_0 rfl
theorem fX5_has_1 : ft 56 1 = some (.ifCond .lt 16, 0, 0, 0, .null) := by decide +kernel
theorem gX5_has_1T {L : List (Option Value)} {a : Int} (c : (-2147483648 ≤ a ∧ a ≤ 2147483647) ∧ a < 0) {st : List Value} {H : HP} {Q : Option Value → HP → Prop} : Go 56 1 L (vi a :: st) H Q ↔ Go 56 17 L st H Q := G_ifT fX5_has_1 (by decide) c
theorem gX5_has_1F {L : List (Option Value)} {a : Int} (c : (-2147483648 ≤ a ∧ a ≤ 2147483647) ∧ ¬ (a < 0)) {st : List Value} {H : HP} {Q : Option Value → HP → Prop} : Go 56 1 L (vi a :: st) H Q ↔ Go 56 4 L st H Q := G_ifF (tg := 17) fX5_has_1 (by decide) c
theorem fX5_has_4 : ft 56 4 = some (.iload_n 1, 0, 0, 0, .null) := by decide +kernel
theorem gX5_has_4 {l0 : Option Value} {u : Int32} {st : List Value} {H : HP} {Q : Option Value → HP → Prop} : Go 56 4 [l0, some (.int u)] st H Q ↔ Go 56 5 [l0, some (.int u)] (.int u :: st) H Q := G_iload_n fX5_has_4 rfl
theorem fX5_has_5 : ft 56 5 = some (.aload_n 0, 0, 0, 0, .null) := by decide +kernel
theorem gX5_has_5 {l1 : Option Value} {u : Nat} {st : List Value} {H : HP} {Q : Option Value → HP → Prop} : Go 56 5 [some (.ref u), l1] st H Q ↔ Go 56 6 [some (.ref u), l1] (.ref u :: st) H Q := G_aload_n fX5_has_5 rfl
theorem fX5_has_6 : ft 56 6 = some (.getfield 15, 5, 1, 283, .null) := by decide +kernel
theorem gX5_has_6 {L : List (Option Value)} {p : Nat} {st : List Value} {H : HP} {Q : Option Value → HP → Prop} : Go 56 6 L (.ref p :: st) H Q ↔ Rd (gF' 5 1 (hget H p)) 56 9 L st H Q := G_getf fX5_has_6 ⟨rfl, rfl⟩
theorem fX5_has_9 : ft 56 9 = some (.arraylength, 0, 0, 0, .null) := by decide +kernel
theorem gX5_has_9 {L : List (Option Value)} {p : Nat} {st : List Value} {H : HP} {Q : Option Value → HP → Prop} : Go 56 9 L (.ref p :: st) H Q ↔ Rd (aN' (hget H p)) 56 10 L st H Q := G_alen fX5_has_9
theorem fX5_has_10 : ft 56 10 = some (.if_icmp .ge 7, 0, 0, 0, .null) := by decide +kernel
theorem gX5_has_10T {L : List (Option Value)} {a b : Int} (c : (-2147483648 ≤ a ∧ a ≤ 2147483647 ∧ -2147483648 ≤ b ∧ b ≤ 2147483647) ∧ b ≤ a) {st : List Value} {H : HP} {Q : Option Value → HP → Prop} : Go 56 10 L (vi b :: vi a :: st) H Q ↔ Go 56 17 L st H Q := G_icT fX5_has_10 (by decide) c
theorem gX5_has_10F {L : List (Option Value)} {a b : Int} (c : (-2147483648 ≤ a ∧ a ≤ 2147483647 ∧ -2147483648 ≤ b ∧ b ≤ 2147483647) ∧ ¬ (b ≤ a)) {st : List Value} {H : HP} {Q : Option Value → HP → Prop} : Go 56 10 L (vi b :: vi a :: st) H Q ↔ Go 56 13 L st H Q := G_icF (tg := 17) fX5_has_10 (by decide) c
theorem fX5_has_13 : ft 56 13 = some (.iconst 1, 0, 0, 0, .null) := by decide +kernel
theorem gX5_has_13 {L : List (Option Value)} {st : List Value} {H : HP} {Q : Option Value → HP → Prop} : Go 56 13 L st H Q ↔ Go 56 14 L (vi 1 :: st) H Q := G_iconst fX5_has_13
theorem fX5_has_14 : ft 56 14 = some (.goto 4, 0, 0, 0, .null) := by decide +kernel
theorem gX5_has_14 {L : List (Option Value)} {st : List Value} {H : HP} {Q : Option Value → HP → Prop} : Go 56 14 L st H Q ↔ Go 56 18 L st H Q := G_goto fX5_has_14 (by decide)
theorem fX5_has_17 : ft 56 17 = some (.iconst 0, 0, 0, 0, .null) := by decide +kernel
theorem gX5_has_17 {L : List (Option Value)} {st : List Value} {H : HP} {Q : Option Value → HP → Prop} : Go 56 17 L st H Q ↔ Go 56 18 L (vi 0 :: st) H Q := G_iconst fX5_has_17
theorem fX5_has_18 : ft 56 18 = some (.ireturn, 0, 0, 0, .null) := by decide +kernel
theorem gX5_has_18 {L : List (Option Value)} {a : Int} (c : a = 0 ∨ a = 1) {H : HP} {Q : Option Value → HP → Prop} : Go 56 18 L [vi a] H Q ↔ Q (some (vi a)) H := G_zret fX5_has_18 (by decide +kernel) c
theorem fX5_narrowed_0 : ft 57 0 = some (.aload_n 0, 0, 0, 0, .null) := by decide +kernel
theorem gX5_narrowed_0 {l1 l2 : Option Value} {u : Nat} {st : List Value} {H : HP} {Q : Option Value → HP → Prop} : Go 57 0 [some (.ref u), l1, l2] st H Q ↔ Go 57 1 [some (.ref u), l1, l2] (.ref u :: st) H Q := G_aload_n fX5_narrowed_0 rfl
theorem fX5_narrowed_1 : ft 57 1 = some (.getfield 9, 5, 0, 280, .null) := by decide +kernel
theorem gX5_narrowed_1 {L : List (Option Value)} {p : Nat} {st : List Value} {H : HP} {Q : Option Value → HP → Prop} : Go 57 1 L (.ref p :: st) H Q ↔ Rd (gF' 5 0 (hget H p)) 57 4 L st H Q := G_getf fX5_narrowed_1 ⟨rfl, rfl⟩
theorem fX5_narrowed_4 : ft 57 4 = some (.tableswitch 48 0 3 #[32, 37, 42, 46], 0, 0, 0, .null) := by decide +kernel
theorem gX5_narrowed_4O {L : List (Option Value)} {a : Int} (c : (-2147483648 ≤ a ∧ a ≤ 2147483647) ∧ (a < 0 ∨ 3 < a)) {st : List Value} {H : HP} {Q : Option Value → HP → Prop} : Go 57 4 L (vi a :: st) H Q ↔ Go 57 52 L st H Q := G_swO fX5_narrowed_4 (by decide) c
theorem gX5_narrowed_4_0 {L : List (Option Value)} {a : Int} (c : a = 0) {st : List Value} {H : HP} {Q : Option Value → HP → Prop} : Go 57 4 L (vi a :: st) H Q ↔ Go 57 36 L st H Q := G_swI (i := 32) (j := 0) fX5_narrowed_4 (by decide) (by decide) (by decide) c
theorem gX5_narrowed_4_1 {L : List (Option Value)} {a : Int} (c : a = 1) {st : List Value} {H : HP} {Q : Option Value → HP → Prop} : Go 57 4 L (vi a :: st) H Q ↔ Go 57 41 L st H Q := G_swI (i := 37) (j := 1) fX5_narrowed_4 (by decide) (by decide) (by decide) c
theorem gX5_narrowed_4_2 {L : List (Option Value)} {a : Int} (c : a = 2) {st : List Value} {H : HP} {Q : Option Value → HP → Prop} : Go 57 4 L (vi a :: st) H Q ↔ Go 57 46 L st H Q := G_swI (i := 42) (j := 2) fX5_narrowed_4 (by decide) (by decide) (by decide) c
theorem gX5_narrowed_4_3 {L : List (Option Value)} {a : Int} (c : a = 3) {st : List Value} {H : HP} {Q : Option Value → HP → Prop} : Go 57 4 L (vi a :: st) H Q ↔ Go 57 50 L st H Q := G_swI (i := 46) (j := 3) fX5_narrowed_4 (by decide) (by decide) (by decide) c
theorem fX5_narrowed_36 : ft 57 36 = some (.lload_n 1, 0, 0, 0, .null) := by decide +kernel
theorem gX5_narrowed_36 {l0 : Option Value} {u : Int64} {st : List Value} {H : HP} {Q : Option Value → HP → Prop} : Go 57 36 [l0, some (.long u), none] st H Q ↔ Go 57 37 [l0, some (.long u), none] (.long u :: st) H Q := G_lload_n fX5_narrowed_36 rfl
theorem fX5_narrowed_37 : ft 57 37 = some (.l2i, 0, 0, 0, .null) := by decide +kernel
theorem gX5_narrowed_37 {L : List (Option Value)} {a : Int} {st : List Value} {H : HP} {Q : Option Value → HP → Prop} : Go 57 37 L (vl a :: st) H Q ↔ Go 57 38 L (vi a :: st) H Q := G_l2i fX5_narrowed_37
theorem fX5_narrowed_38 : ft 57 38 = some (.i2b, 0, 0, 0, .null) := by decide +kernel
theorem gX5_narrowed_38 {L : List (Option Value)} {a : Int} {st : List Value} {H : HP} {Q : Option Value → HP → Prop} : Go 57 38 L (vi a :: st) H Q ↔ Go 57 39 L (vi (jB a) :: st) H Q := G_i2b fX5_narrowed_38
theorem fX5_narrowed_39 : ft 57 39 = some (.i2l, 0, 0, 0, .null) := by decide +kernel
theorem gX5_narrowed_39 {L : List (Option Value)} {a : Int} (c : -2147483648 ≤ a ∧ a ≤ 2147483647) {st : List Value} {H : HP} {Q : Option Value → HP → Prop} : Go 57 39 L (vi a :: st) H Q ↔ Go 57 40 L (vl a :: st) H Q := G_i2l fX5_narrowed_39 c
theorem fX5_narrowed_40 : ft 57 40 = some (.lreturn, 0, 0, 0, .null) := by decide +kernel
theorem gX5_narrowed_40 {L : List (Option Value)} {u : Int64} {H : HP} {Q : Option Value → HP → Prop} : Go 57 40 L [.long u] H Q ↔ Q (some (.long u)) H := G_lret fX5_narrowed_40 (by decide +kernel)
theorem fX5_narrowed_41 : ft 57 41 = some (.lload_n 1, 0, 0, 0, .null) := by decide +kernel
theorem gX5_narrowed_41 {l0 : Option Value} {u : Int64} {st : List Value} {H : HP} {Q : Option Value → HP → Prop} : Go 57 41 [l0, some (.long u), none] st H Q ↔ Go 57 42 [l0, some (.long u), none] (.long u :: st) H Q := G_lload_n fX5_narrowed_41 rfl
theorem fX5_narrowed_42 : ft 57 42 = some (.l2i, 0, 0, 0, .null) := by decide +kernel
theorem gX5_narrowed_42 {L : List (Option Value)} {a : Int} {st : List Value} {H : HP} {Q : Option Value → HP → Prop} : Go 57 42 L (vl a :: st) H Q ↔ Go 57 43 L (vi a :: st) H Q := G_l2i fX5_narrowed_42
theorem fX5_narrowed_43 : ft 57 43 = some (.i2s, 0, 0, 0, .null) := by decide +kernel
theorem gX5_narrowed_43 {L : List (Option Value)} {a : Int} {st : List Value} {H : HP} {Q : Option Value → HP → Prop} : Go 57 43 L (vi a :: st) H Q ↔ Go 57 44 L (vi (jS a) :: st) H Q := G_i2s fX5_narrowed_43
theorem fX5_narrowed_44 : ft 57 44 = some (.i2l, 0, 0, 0, .null) := by decide +kernel
theorem gX5_narrowed_44 {L : List (Option Value)} {a : Int} (c : -2147483648 ≤ a ∧ a ≤ 2147483647) {st : List Value} {H : HP} {Q : Option Value → HP → Prop} : Go 57 44 L (vi a :: st) H Q ↔ Go 57 45 L (vl a :: st) H Q := G_i2l fX5_narrowed_44 c
theorem fX5_narrowed_45 : ft 57 45 = some (.lreturn, 0, 0, 0, .null) := by decide +kernel
theorem gX5_narrowed_45 {L : List (Option Value)} {u : Int64} {H : HP} {Q : Option Value → HP → Prop} : Go 57 45 L [.long u] H Q ↔ Q (some (.long u)) H := G_lret fX5_narrowed_45 (by decide +kernel)
theorem fX5_narrowed_46 : ft 57 46 = some (.lload_n 1, 0, 0, 0, .null) := by decide +kernel
theorem gX5_narrowed_46 {l0 : Option Value} {u : Int64} {st : List Value} {H : HP} {Q : Option Value → HP → Prop} : Go 57 46 [l0, some (.long u), none] st H Q ↔ Go 57 47 [l0, some (.long u), none] (.long u :: st) H Q := G_lload_n fX5_narrowed_46 rfl
theorem fX5_narrowed_47 : ft 57 47 = some (.l2i, 0, 0, 0, .null) := by decide +kernel
theorem gX5_narrowed_47 {L : List (Option Value)} {a : Int} {st : List Value} {H : HP} {Q : Option Value → HP → Prop} : Go 57 47 L (vl a :: st) H Q ↔ Go 57 48 L (vi a :: st) H Q := G_l2i fX5_narrowed_47
theorem fX5_narrowed_48 : ft 57 48 = some (.i2l, 0, 0, 0, .null) := by decide +kernel
theorem gX5_narrowed_48 {L : List (Option Value)} {a : Int} (c : -2147483648 ≤ a ∧ a ≤ 2147483647) {st : List Value} {H : HP} {Q : Option Value → HP → Prop} : Go 57 48 L (vi a :: st) H Q ↔ Go 57 49 L (vl a :: st) H Q := G_i2l fX5_narrowed_48 c
theorem fX5_narrowed_49 : ft 57 49 = some (.lreturn, 0, 0, 0, .null) := by decide +kernel
theorem gX5_narrowed_49 {L : List (Option Value)} {u : Int64} {H : HP} {Q : Option Value → HP → Prop} : Go 57 49 L [.long u] H Q ↔ Q (some (.long u)) H := G_lret fX5_narrowed_49 (by decide +kernel)
theorem fX5_narrowed_50 : ft 57 50 = some (.lload_n 1, 0, 0, 0, .null) := by decide +kernel
theorem gX5_narrowed_50 {l0 : Option Value} {u : Int64} {st : List Value} {H : HP} {Q : Option Value → HP → Prop} : Go 57 50 [l0, some (.long u), none] st H Q ↔ Go 57 51 [l0, some (.long u), none] (.long u :: st) H Q := G_lload_n fX5_narrowed_50 rfl
theorem fX5_narrowed_51 : ft 57 51 = some (.lreturn, 0, 0, 0, .null) := by decide +kernel
theorem gX5_narrowed_51 {L : List (Option Value)} {u : Int64} {H : HP} {Q : Option Value → HP → Prop} : Go 57 51 L [.long u] H Q ↔ Q (some (.long u)) H := G_lret fX5_narrowed_51 (by decide +kernel)
theorem fX5_narrowed_52 : ft 57 52 = some (.lload_n 1, 0, 0, 0, .null) := by decide +kernel
theorem gX5_narrowed_52 {l0 : Option Value} {u : Int64} {st : List Value} {H : HP} {Q : Option Value → HP → Prop} : Go 57 52 [l0, some (.long u), none] st H Q ↔ Go 57 53 [l0, some (.long u), none] (.long u :: st) H Q := G_lload_n fX5_narrowed_52 rfl
theorem fX5_narrowed_53 : ft 57 53 = some (.invokestatic 19, 1, 0, 318, .null) := by decide +kernel
theorem gX5_narrowed_53 {L : List (Option Value)} {a0 : Int64}  {H : HP} {Q : Option Value → HP → Prop} : Go 57 53 L (.long a0 :: []) H Q ↔ Go 1 0 [some (.long a0), none] [] H (Cont 57 56 L [] Q) := G_cS (n := 1) (N := 2) (as := [.long a0]) (st := []) fX5_narrowed_53 (by decide +kernel) rfl (Nat.le_of_ble_eq_true rfl) (Nat.le_of_ble_eq_true rfl) rfl
theorem fX5_narrowed_56 : ft 57 56 = some (.ifCond .eq 9, 0, 0, 0, .null) := by decide +kernel
theorem gX5_narrowed_56T {L : List (Option Value)} {a : Int} (c : (-2147483648 ≤ a ∧ a ≤ 2147483647) ∧ a = 0) {st : List Value} {H : HP} {Q : Option Value → HP → Prop} : Go 57 56 L (vi a :: st) H Q ↔ Go 57 65 L st H Q := G_ifT fX5_narrowed_56 (by decide) c
theorem gX5_narrowed_56F {L : List (Option Value)} {a : Int} (c : (-2147483648 ≤ a ∧ a ≤ 2147483647) ∧ ¬ (a = 0)) {st : List Value} {H : HP} {Q : Option Value → HP → Prop} : Go 57 56 L (vi a :: st) H Q ↔ Go 57 59 L st H Q := G_ifF (tg := 65) fX5_narrowed_56 (by decide) c
theorem fX5_narrowed_59 : ft 57 59 = some (.ldc2_w 25, 0, 0, 323, .long (9221120237041090560)) := by decide +kernel
theorem gX5_narrowed_59 {L : List (Option Value)} {st : List Value} {H : HP} {Q : Option Value → HP → Prop} : Go 57 59 L st H Q ↔ Go 57 62 L (vl (9221120237041090560) :: st) H Q := G_ldcl fX5_narrowed_59 (by decide +kernel)
theorem fX5_narrowed_62 : ft 57 62 = some (.goto 4, 0, 0, 0, .null) := by decide +kernel
theorem gX5_narrowed_62 {L : List (Option Value)} {st : List Value} {H : HP} {Q : Option Value → HP → Prop} : Go 57 62 L st H Q ↔ Go 57 66 L st H Q := G_goto fX5_narrowed_62 (by decide)
theorem fX5_narrowed_65 : ft 57 65 = some (.lload_n 1, 0, 0, 0, .null) := by decide +kernel
theorem gX5_narrowed_65 {l0 : Option Value} {u : Int64} {st : List Value} {H : HP} {Q : Option Value → HP → Prop} : Go 57 65 [l0, some (.long u), none] st H Q ↔ Go 57 66 [l0, some (.long u), none] (.long u :: st) H Q := G_lload_n fX5_narrowed_65 rfl
theorem fX5_narrowed_66 : ft 57 66 = some (.lreturn, 0, 0, 0, .null) := by decide +kernel
theorem gX5_narrowed_66 {L : List (Option Value)} {u : Int64} {H : HP} {Q : Option Value → HP → Prop} : Go 57 66 L [.long u] H Q ↔ Q (some (.long u)) H := G_lret fX5_narrowed_66 (by decide +kernel)
theorem fX5_flip_0 : ft 58 0 = some (.iload_n 1, 0, 0, 0, .null) := by decide +kernel
theorem gX5_flip_0 {l0 l2 l3 l4 l5 l6 : Option Value} {u : Int32} {st : List Value} {H : HP} {Q : Option Value → HP → Prop} : Go 58 0 [l0, some (.int u), l2, l3, l4, l5, l6] st H Q ↔ Go 58 1 [l0, some (.int u), l2, l3, l4, l5, l6] (.int u :: st) H Q := G_iload_n fX5_flip_0 rfl
theorem fX5_flip_1 : ft 58 1 = some (.iconst 0, 0, 0, 0, .null) := by decide +kernel
theorem gX5_flip_1 {L : List (Option Value)} {st : List Value} {H : HP} {Q : Option Value → HP → Prop} : Go 58 1 L st H Q ↔ Go 58 2 L (vi 0 :: st) H Q := G_iconst fX5_flip_1
theorem fX5_flip_2 : ft 58 2 = some (.invokestatic 27, 187, 0, 348, .null) := by decide +kernel
theorem gX5_flip_2 {L : List (Option Value)} {a0 : Int32} {a1 : Int32}  {H : HP} {Q : Option Value → HP → Prop} : Go 58 2 L (.int a1 :: .int a0 :: []) H Q ↔ Go 187 0 [some (.int a0), some (.int a1)] [] H (Cont 58 5 L [] Q) := G_cS (n := 2) (N := 2) (as := [.int a1, .int a0]) (st := []) fX5_flip_2 (by decide +kernel) rfl (Nat.le_of_ble_eq_true rfl) (Nat.le_of_ble_eq_true rfl) rfl
theorem fX5_flip_5 : ft 58 5 = some (.istore_n 3, 0, 0, 0, .null) := by decide +kernel
theorem gX5_flip_5 {l0 l1 l2 l3 l4 l5 l6 : Option Value} {u : Int32} {st : List Value} {H : HP} {Q : Option Value → HP → Prop} : Go 58 5 [l0, l1, l2, l3, l4, l5, l6] (.int u :: st) H Q ↔ Go 58 6 [l0, l1, l2, some (.int u), l4, l5, l6] st H Q := G_istore_n fX5_flip_5 rfl
theorem fX5_flip_6 : ft 58 6 = some (.iload_n 2, 0, 0, 0, .null) := by decide +kernel
theorem gX5_flip_6 {l0 l1 l3 l4 l5 l6 : Option Value} {u : Int32} {st : List Value} {H : HP} {Q : Option Value → HP → Prop} : Go 58 6 [l0, l1, some (.int u), l3, l4, l5, l6] st H Q ↔ Go 58 7 [l0, l1, some (.int u), l3, l4, l5, l6] (.int u :: st) H Q := G_iload_n fX5_flip_6 rfl
theorem fX5_flip_7 : ft 58 7 = some (.aload_n 0, 0, 0, 0, .null) := by decide +kernel
theorem gX5_flip_7 {l1 l2 l3 l4 l5 l6 : Option Value} {u : Nat} {st : List Value} {H : HP} {Q : Option Value → HP → Prop} : Go 58 7 [some (.ref u), l1, l2, l3, l4, l5, l6] st H Q ↔ Go 58 8 [some (.ref u), l1, l2, l3, l4, l5, l6] (.ref u :: st) H Q := G_aload_n fX5_flip_7 rfl
theorem fX5_flip_8 : ft 58 8 = some (.getfield 15, 5, 1, 283, .null) := by decide +kernel
theorem gX5_flip_8 {L : List (Option Value)} {p : Nat} {st : List Value} {H : HP} {Q : Option Value → HP → Prop} : Go 58 8 L (.ref p :: st) H Q ↔ Rd (gF' 5 1 (hget H p)) 58 11 L st H Q := G_getf fX5_flip_8 ⟨rfl, rfl⟩
theorem fX5_flip_11 : ft 58 11 = some (.arraylength, 0, 0, 0, .null) := by decide +kernel
theorem gX5_flip_11 {L : List (Option Value)} {p : Nat} {st : List Value} {H : HP} {Q : Option Value → HP → Prop} : Go 58 11 L (.ref p :: st) H Q ↔ Rd (aN' (hget H p)) 58 12 L st H Q := G_alen fX5_flip_11
theorem fX5_flip_12 : ft 58 12 = some (.invokestatic 33, 189, 0, 351, .null) := by decide +kernel
theorem gX5_flip_12 {L : List (Option Value)} {a0 : Int32} {a1 : Int32}  {H : HP} {Q : Option Value → HP → Prop} : Go 58 12 L (.int a1 :: .int a0 :: []) H Q ↔ Go 189 0 [some (.int a0), some (.int a1)] [] H (Cont 58 15 L [] Q) := G_cS (n := 2) (N := 2) (as := [.int a1, .int a0]) (st := []) fX5_flip_12 (by decide +kernel) rfl (Nat.le_of_ble_eq_true rfl) (Nat.le_of_ble_eq_true rfl) rfl
theorem fX5_flip_15 : ft 58 15 = some (.iconst 1, 0, 0, 0, .null) := by decide +kernel
theorem gX5_flip_15 {L : List (Option Value)} {st : List Value} {H : HP} {Q : Option Value → HP → Prop} : Go 58 15 L st H Q ↔ Go 58 16 L (vi 1 :: st) H Q := G_iconst fX5_flip_15
theorem fX5_flip_16 : ft 58 16 = some (.isub, 0, 0, 0, .null) := by decide +kernel
theorem gX5_flip_16 {L : List (Option Value)} {a b : Int} {st : List Value} {H : HP} {Q : Option Value → HP → Prop} : Go 58 16 L (vi b :: vi a :: st) H Q ↔ Go 58 17 L (vi (a - b) :: st) H Q := G_isub fX5_flip_16
theorem fX5_flip_17 : ft 58 17 = some (.istore 4, 0, 0, 0, .null) := by decide +kernel
theorem gX5_flip_17 {l0 l1 l2 l3 l4 l5 l6 : Option Value} {u : Int32} {st : List Value} {H : HP} {Q : Option Value → HP → Prop} : Go 58 17 [l0, l1, l2, l3, l4, l5, l6] (.int u :: st) H Q ↔ Go 58 19 [l0, l1, l2, l3, some (.int u), l5, l6] st H Q := G_istore fX5_flip_17 rfl
theorem fX5_flip_19 : ft 58 19 = some (.iload_n 3, 0, 0, 0, .null) := by decide +kernel
theorem gX5_flip_19 {l0 l1 l2 l4 l5 l6 : Option Value} {u : Int32} {st : List Value} {H : HP} {Q : Option Value → HP → Prop} : Go 58 19 [l0, l1, l2, some (.int u), l4, l5, l6] st H Q ↔ Go 58 20 [l0, l1, l2, some (.int u), l4, l5, l6] (.int u :: st) H Q := G_iload_n fX5_flip_19 rfl
theorem fX5_flip_20 : ft 58 20 = some (.iload 4, 0, 0, 0, .null) := by decide +kernel
theorem gX5_flip_20 {l0 l1 l2 l3 l5 l6 : Option Value} {u : Int32} {st : List Value} {H : HP} {Q : Option Value → HP → Prop} : Go 58 20 [l0, l1, l2, l3, some (.int u), l5, l6] st H Q ↔ Go 58 22 [l0, l1, l2, l3, some (.int u), l5, l6] (.int u :: st) H Q := G_iload fX5_flip_20 rfl
theorem fX5_flip_22 : ft 58 22 = some (.if_icmp .ge 42, 0, 0, 0, .null) := by decide +kernel
theorem gX5_flip_22T {L : List (Option Value)} {a b : Int} (c : (-2147483648 ≤ a ∧ a ≤ 2147483647 ∧ -2147483648 ≤ b ∧ b ≤ 2147483647) ∧ b ≤ a) {st : List Value} {H : HP} {Q : Option Value → HP → Prop} : Go 58 22 L (vi b :: vi a :: st) H Q ↔ Go 58 64 L st H Q := G_icT fX5_flip_22 (by decide) c
theorem gX5_flip_22F {L : List (Option Value)} {a b : Int} (c : (-2147483648 ≤ a ∧ a ≤ 2147483647 ∧ -2147483648 ≤ b ∧ b ≤ 2147483647) ∧ ¬ (b ≤ a)) {st : List Value} {H : HP} {Q : Option Value → HP → Prop} : Go 58 22 L (vi b :: vi a :: st) H Q ↔ Go 58 25 L st H Q := G_icF (tg := 64) fX5_flip_22 (by decide) c
theorem fX5_flip_25 : ft 58 25 = some (.aload_n 0, 0, 0, 0, .null) := by decide +kernel
theorem gX5_flip_25 {l1 l2 l3 l4 l5 l6 : Option Value} {u : Nat} {st : List Value} {H : HP} {Q : Option Value → HP → Prop} : Go 58 25 [some (.ref u), l1, l2, l3, l4, l5, l6] st H Q ↔ Go 58 26 [some (.ref u), l1, l2, l3, l4, l5, l6] (.ref u :: st) H Q := G_aload_n fX5_flip_25 rfl
theorem fX5_flip_26 : ft 58 26 = some (.getfield 15, 5, 1, 283, .null) := by decide +kernel
theorem gX5_flip_26 {L : List (Option Value)} {p : Nat} {st : List Value} {H : HP} {Q : Option Value → HP → Prop} : Go 58 26 L (.ref p :: st) H Q ↔ Rd (gF' 5 1 (hget H p)) 58 29 L st H Q := G_getf fX5_flip_26 ⟨rfl, rfl⟩
theorem fX5_flip_29 : ft 58 29 = some (.iload_n 3, 0, 0, 0, .null) := by decide +kernel
theorem gX5_flip_29 {l0 l1 l2 l4 l5 l6 : Option Value} {u : Int32} {st : List Value} {H : HP} {Q : Option Value → HP → Prop} : Go 58 29 [l0, l1, l2, some (.int u), l4, l5, l6] st H Q ↔ Go 58 30 [l0, l1, l2, some (.int u), l4, l5, l6] (.int u :: st) H Q := G_iload_n fX5_flip_29 rfl
theorem fX5_flip_30 : ft 58 30 = some (.laload, 0, 0, 0, .null) := by decide +kernel
theorem gX5_flip_30 {L : List (Option Value)} {p : Nat} {a : Int} {st : List Value} {H : HP} {Q : Option Value → HP → Prop} : Go 58 30 L (vi a :: .ref p :: st) H Q ↔ Rd (aL' (hget H p) a) 58 31 L st H Q := G_lald fX5_flip_30
theorem fX5_flip_31 : ft 58 31 = some (.lstore 5, 0, 0, 0, .null) := by decide +kernel
theorem gX5_flip_31 {l0 l1 l2 l3 l4 l5 l6 : Option Value} {u : Int64} {st : List Value} {H : HP} {Q : Option Value → HP → Prop} : Go 58 31 [l0, l1, l2, l3, l4, l5, l6] (.long u :: st) H Q ↔ Go 58 33 [l0, l1, l2, l3, l4, some (.long u), none] st H Q := G_lstore fX5_flip_31 rfl
theorem fX5_flip_33 : ft 58 33 = some (.aload_n 0, 0, 0, 0, .null) := by decide +kernel
theorem gX5_flip_33 {l1 l2 l3 l4 l5 l6 : Option Value} {u : Nat} {st : List Value} {H : HP} {Q : Option Value → HP → Prop} : Go 58 33 [some (.ref u), l1, l2, l3, l4, l5, l6] st H Q ↔ Go 58 34 [some (.ref u), l1, l2, l3, l4, l5, l6] (.ref u :: st) H Q := G_aload_n fX5_flip_33 rfl
theorem fX5_flip_34 : ft 58 34 = some (.getfield 15, 5, 1, 283, .null) := by decide +kernel
theorem gX5_flip_34 {L : List (Option Value)} {p : Nat} {st : List Value} {H : HP} {Q : Option Value → HP → Prop} : Go 58 34 L (.ref p :: st) H Q ↔ Rd (gF' 5 1 (hget H p)) 58 37 L st H Q := G_getf fX5_flip_34 ⟨rfl, rfl⟩
theorem fX5_flip_37 : ft 58 37 = some (.iload_n 3, 0, 0, 0, .null) := by decide +kernel
theorem gX5_flip_37 {l0 l1 l2 l4 l5 l6 : Option Value} {u : Int32} {st : List Value} {H : HP} {Q : Option Value → HP → Prop} : Go 58 37 [l0, l1, l2, some (.int u), l4, l5, l6] st H Q ↔ Go 58 38 [l0, l1, l2, some (.int u), l4, l5, l6] (.int u :: st) H Q := G_iload_n fX5_flip_37 rfl
theorem fX5_flip_38 : ft 58 38 = some (.aload_n 0, 0, 0, 0, .null) := by decide +kernel
theorem gX5_flip_38 {l1 l2 l3 l4 l5 l6 : Option Value} {u : Nat} {st : List Value} {H : HP} {Q : Option Value → HP → Prop} : Go 58 38 [some (.ref u), l1, l2, l3, l4, l5, l6] st H Q ↔ Go 58 39 [some (.ref u), l1, l2, l3, l4, l5, l6] (.ref u :: st) H Q := G_aload_n fX5_flip_38 rfl
theorem fX5_flip_39 : ft 58 39 = some (.getfield 15, 5, 1, 283, .null) := by decide +kernel
theorem gX5_flip_39 {L : List (Option Value)} {p : Nat} {st : List Value} {H : HP} {Q : Option Value → HP → Prop} : Go 58 39 L (.ref p :: st) H Q ↔ Rd (gF' 5 1 (hget H p)) 58 42 L st H Q := G_getf fX5_flip_39 ⟨rfl, rfl⟩
theorem fX5_flip_42 : ft 58 42 = some (.iload 4, 0, 0, 0, .null) := by decide +kernel
theorem gX5_flip_42 {l0 l1 l2 l3 l5 l6 : Option Value} {u : Int32} {st : List Value} {H : HP} {Q : Option Value → HP → Prop} : Go 58 42 [l0, l1, l2, l3, some (.int u), l5, l6] st H Q ↔ Go 58 44 [l0, l1, l2, l3, some (.int u), l5, l6] (.int u :: st) H Q := G_iload fX5_flip_42 rfl
theorem fX5_flip_44 : ft 58 44 = some (.laload, 0, 0, 0, .null) := by decide +kernel
theorem gX5_flip_44 {L : List (Option Value)} {p : Nat} {a : Int} {st : List Value} {H : HP} {Q : Option Value → HP → Prop} : Go 58 44 L (vi a :: .ref p :: st) H Q ↔ Rd (aL' (hget H p) a) 58 45 L st H Q := G_lald fX5_flip_44
theorem fX5_flip_45 : ft 58 45 = some (.lastore, 0, 0, 0, .null) := by decide +kernel
theorem gX5_flip_45 {L : List (Option Value)} {p : Nat} {a : Int} {b : Int} (hp : p ≠ 0) {st : List Value} {H : HP} {Q : Option Value → HP → Prop} : Go 58 45 L (vl b :: vi a :: .ref p :: st) H Q ↔ Wr (sL' (hget H p) a b) p 58 46 L st H Q := G_last fX5_flip_45 hp
theorem fX5_flip_46 : ft 58 46 = some (.aload_n 0, 0, 0, 0, .null) := by decide +kernel
theorem gX5_flip_46 {l1 l2 l3 l4 l5 l6 : Option Value} {u : Nat} {st : List Value} {H : HP} {Q : Option Value → HP → Prop} : Go 58 46 [some (.ref u), l1, l2, l3, l4, l5, l6] st H Q ↔ Go 58 47 [some (.ref u), l1, l2, l3, l4, l5, l6] (.ref u :: st) H Q := G_aload_n fX5_flip_46 rfl
theorem fX5_flip_47 : ft 58 47 = some (.getfield 15, 5, 1, 283, .null) := by decide +kernel
theorem gX5_flip_47 {L : List (Option Value)} {p : Nat} {st : List Value} {H : HP} {Q : Option Value → HP → Prop} : Go 58 47 L (.ref p :: st) H Q ↔ Rd (gF' 5 1 (hget H p)) 58 50 L st H Q := G_getf fX5_flip_47 ⟨rfl, rfl⟩
theorem fX5_flip_50 : ft 58 50 = some (.iload 4, 0, 0, 0, .null) := by decide +kernel
theorem gX5_flip_50 {l0 l1 l2 l3 l5 l6 : Option Value} {u : Int32} {st : List Value} {H : HP} {Q : Option Value → HP → Prop} : Go 58 50 [l0, l1, l2, l3, some (.int u), l5, l6] st H Q ↔ Go 58 52 [l0, l1, l2, l3, some (.int u), l5, l6] (.int u :: st) H Q := G_iload fX5_flip_50 rfl
theorem fX5_flip_52 : ft 58 52 = some (.lload 5, 0, 0, 0, .null) := by decide +kernel
theorem gX5_flip_52 {l0 l1 l2 l3 l4 : Option Value} {u : Int64} {st : List Value} {H : HP} {Q : Option Value → HP → Prop} : Go 58 52 [l0, l1, l2, l3, l4, some (.long u), none] st H Q ↔ Go 58 54 [l0, l1, l2, l3, l4, some (.long u), none] (.long u :: st) H Q := G_lload fX5_flip_52 rfl
theorem fX5_flip_54 : ft 58 54 = some (.lastore, 0, 0, 0, .null) := by decide +kernel
theorem gX5_flip_54 {L : List (Option Value)} {p : Nat} {a : Int} {b : Int} (hp : p ≠ 0) {st : List Value} {H : HP} {Q : Option Value → HP → Prop} : Go 58 54 L (vl b :: vi a :: .ref p :: st) H Q ↔ Wr (sL' (hget H p) a b) p 58 55 L st H Q := G_last fX5_flip_54 hp
theorem fX5_flip_55 : ft 58 55 = some (.iinc 3 1, 0, 0, 0, .null) := by decide +kernel
theorem gX5_flip_55 {l0 l1 l2 l4 l5 l6 : Option Value} {a : Int} {st : List Value} {H : HP} {Q : Option Value → HP → Prop} : Go 58 55 [l0, l1, l2, some (vi a), l4, l5, l6] st H Q ↔ Go 58 58 [l0, l1, l2, some (vi (a + 1)), l4, l5, l6] st H Q := G_iinc fX5_flip_55 rfl rfl
theorem fX5_flip_58 : ft 58 58 = some (.iinc 4 (-1), 0, 0, 0, .null) := by decide +kernel
theorem gX5_flip_58 {l0 l1 l2 l3 l5 l6 : Option Value} {a : Int} {st : List Value} {H : HP} {Q : Option Value → HP → Prop} : Go 58 58 [l0, l1, l2, l3, some (vi a), l5, l6] st H Q ↔ Go 58 61 [l0, l1, l2, l3, some (vi (a + (-1))), l5, l6] st H Q := G_iinc fX5_flip_58 rfl rfl
theorem fX5_flip_61 : ft 58 61 = some (.goto (-42), 0, 0, 0, .null) := by decide +kernel
theorem gX5_flip_61 {L : List (Option Value)} {st : List Value} {H : HP} {Q : Option Value → HP → Prop} : Go 58 61 L st H Q ↔ Go 58 19 L st H Q := G_goto fX5_flip_61 (by decide)
theorem fX5_flip_64 : ft 58 64 = some (.return_, 0, 0, 0, .null) := by decide +kernel
theorem gX5_flip_64 {L : List (Option Value)} {H : HP} {Q : Option Value → HP → Prop} : Go 58 64 L [] H Q ↔ Q none H := G_vret fX5_flip_64 (by decide +kernel)
theorem fX5_turn_0 : ft 59 0 = some (.aload_n 0, 0, 0, 0, .null) := by decide +kernel
theorem gX5_turn_0 {l1 l2 : Option Value} {u : Nat} {st : List Value} {H : HP} {Q : Option Value → HP → Prop} : Go 59 0 [some (.ref u), l1, l2] st H Q ↔ Go 59 1 [some (.ref u), l1, l2] (.ref u :: st) H Q := G_aload_n fX5_turn_0 rfl
theorem fX5_turn_1 : ft 59 1 = some (.getfield 15, 5, 1, 283, .null) := by decide +kernel
theorem gX5_turn_1 {L : List (Option Value)} {p : Nat} {st : List Value} {H : HP} {Q : Option Value → HP → Prop} : Go 59 1 L (.ref p :: st) H Q ↔ Rd (gF' 5 1 (hget H p)) 59 4 L st H Q := G_getf fX5_turn_1 ⟨rfl, rfl⟩
theorem fX5_turn_4 : ft 59 4 = some (.arraylength, 0, 0, 0, .null) := by decide +kernel
theorem gX5_turn_4 {L : List (Option Value)} {p : Nat} {st : List Value} {H : HP} {Q : Option Value → HP → Prop} : Go 59 4 L (.ref p :: st) H Q ↔ Rd (aN' (hget H p)) 59 5 L st H Q := G_alen fX5_turn_4
theorem fX5_turn_5 : ft 59 5 = some (.ifCond .ne 4, 0, 0, 0, .null) := by decide +kernel
theorem gX5_turn_5T {L : List (Option Value)} {a : Int} (c : (-2147483648 ≤ a ∧ a ≤ 2147483647) ∧ ¬ a = 0) {st : List Value} {H : HP} {Q : Option Value → HP → Prop} : Go 59 5 L (vi a :: st) H Q ↔ Go 59 9 L st H Q := G_ifT fX5_turn_5 (by decide) c
theorem gX5_turn_5F {L : List (Option Value)} {a : Int} (c : (-2147483648 ≤ a ∧ a ≤ 2147483647) ∧ ¬ (¬ a = 0)) {st : List Value} {H : HP} {Q : Option Value → HP → Prop} : Go 59 5 L (vi a :: st) H Q ↔ Go 59 8 L st H Q := G_ifF (tg := 9) fX5_turn_5 (by decide) c
theorem fX5_turn_8 : ft 59 8 = some (.return_, 0, 0, 0, .null) := by decide +kernel
theorem gX5_turn_8 {L : List (Option Value)} {H : HP} {Q : Option Value → HP → Prop} : Go 59 8 L [] H Q ↔ Q none H := G_vret fX5_turn_8 (by decide +kernel)
theorem fX5_turn_9 : ft 59 9 = some (.iload_n 1, 0, 0, 0, .null) := by decide +kernel
theorem gX5_turn_9 {l0 l2 : Option Value} {u : Int32} {st : List Value} {H : HP} {Q : Option Value → HP → Prop} : Go 59 9 [l0, some (.int u), l2] st H Q ↔ Go 59 10 [l0, some (.int u), l2] (.int u :: st) H Q := G_iload_n fX5_turn_9 rfl
theorem fX5_turn_10 : ft 59 10 = some (.aload_n 0, 0, 0, 0, .null) := by decide +kernel
theorem gX5_turn_10 {l1 l2 : Option Value} {u : Nat} {st : List Value} {H : HP} {Q : Option Value → HP → Prop} : Go 59 10 [some (.ref u), l1, l2] st H Q ↔ Go 59 11 [some (.ref u), l1, l2] (.ref u :: st) H Q := G_aload_n fX5_turn_10 rfl
theorem fX5_turn_11 : ft 59 11 = some (.getfield 15, 5, 1, 283, .null) := by decide +kernel
theorem gX5_turn_11 {L : List (Option Value)} {p : Nat} {st : List Value} {H : HP} {Q : Option Value → HP → Prop} : Go 59 11 L (.ref p :: st) H Q ↔ Rd (gF' 5 1 (hget H p)) 59 14 L st H Q := G_getf fX5_turn_11 ⟨rfl, rfl⟩
theorem fX5_turn_14 : ft 59 14 = some (.arraylength, 0, 0, 0, .null) := by decide +kernel
theorem gX5_turn_14 {L : List (Option Value)} {p : Nat} {st : List Value} {H : HP} {Q : Option Value → HP → Prop} : Go 59 14 L (.ref p :: st) H Q ↔ Rd (aN' (hget H p)) 59 15 L st H Q := G_alen fX5_turn_14
theorem fX5_turn_15 : ft 59 15 = some (.invokestatic 36, 183, 0, 362, .null) := by decide +kernel
theorem gX5_turn_15 {L : List (Option Value)} {a0 : Int32} {a1 : Int32}  {H : HP} {Q : Option Value → HP → Prop} : Go 59 15 L (.int a1 :: .int a0 :: []) H Q ↔ Go 183 0 [some (.int a0), some (.int a1), none] [] H (Cont 59 18 L [] Q) := G_cS (n := 2) (N := 3) (as := [.int a1, .int a0]) (st := []) fX5_turn_15 (by decide +kernel) rfl (Nat.le_of_ble_eq_true rfl) (Nat.le_of_ble_eq_true rfl) rfl
theorem fX5_turn_18 : ft 59 18 = some (.istore_n 2, 0, 0, 0, .null) := by decide +kernel
theorem gX5_turn_18 {l0 l1 l2 : Option Value} {u : Int32} {st : List Value} {H : HP} {Q : Option Value → HP → Prop} : Go 59 18 [l0, l1, l2] (.int u :: st) H Q ↔ Go 59 19 [l0, l1, some (.int u)] st H Q := G_istore_n fX5_turn_18 rfl
theorem fX5_turn_19 : ft 59 19 = some (.aload_n 0, 0, 0, 0, .null) := by decide +kernel
theorem gX5_turn_19 {l1 l2 : Option Value} {u : Nat} {st : List Value} {H : HP} {Q : Option Value → HP → Prop} : Go 59 19 [some (.ref u), l1, l2] st H Q ↔ Go 59 20 [some (.ref u), l1, l2] (.ref u :: st) H Q := G_aload_n fX5_turn_19 rfl
theorem fX5_turn_20 : ft 59 20 = some (.iconst 0, 0, 0, 0, .null) := by decide +kernel
theorem gX5_turn_20 {L : List (Option Value)} {st : List Value} {H : HP} {Q : Option Value → HP → Prop} : Go 59 20 L st H Q ↔ Go 59 21 L (vi 0 :: st) H Q := G_iconst fX5_turn_20
theorem fX5_turn_21 : ft 59 21 = some (.aload_n 0, 0, 0, 0, .null) := by decide +kernel
theorem gX5_turn_21 {l1 l2 : Option Value} {u : Nat} {st : List Value} {H : HP} {Q : Option Value → HP → Prop} : Go 59 21 [some (.ref u), l1, l2] st H Q ↔ Go 59 22 [some (.ref u), l1, l2] (.ref u :: st) H Q := G_aload_n fX5_turn_21 rfl
theorem fX5_turn_22 : ft 59 22 = some (.getfield 15, 5, 1, 283, .null) := by decide +kernel
theorem gX5_turn_22 {L : List (Option Value)} {p : Nat} {st : List Value} {H : HP} {Q : Option Value → HP → Prop} : Go 59 22 L (.ref p :: st) H Q ↔ Rd (gF' 5 1 (hget H p)) 59 25 L st H Q := G_getf fX5_turn_22 ⟨rfl, rfl⟩
theorem fX5_turn_25 : ft 59 25 = some (.arraylength, 0, 0, 0, .null) := by decide +kernel
theorem gX5_turn_25 {L : List (Option Value)} {p : Nat} {st : List Value} {H : HP} {Q : Option Value → HP → Prop} : Go 59 25 L (.ref p :: st) H Q ↔ Rd (aN' (hget H p)) 59 26 L st H Q := G_alen fX5_turn_25
theorem fX5_turn_26 : ft 59 26 = some (.invokevirtual 39, 58, 0, 365, .null) := by decide +kernel
theorem gX5_turn_26 {L : List (Option Value)} {p : Nat} {a0 : Int32} {a1 : Int32}  {H : HP} {Q : Option Value → HP → Prop} : Go 59 26 L (.int a1 :: .int a0 :: .ref p :: []) H Q ↔ (iso 5 (hget H p) = true ∧ Go 58 0 [some (.ref p), some (.int a0), some (.int a1), none, none, none, none] [] H (Cont 59 29 L [] Q)) := G_cV (n := 2) (N := 7) (as := [.int a1, .int a0]) (st := []) fX5_turn_26 (by decide +kernel) rfl (Nat.le_of_ble_eq_true rfl) (Nat.le_of_ble_eq_true rfl) rfl
theorem fX5_turn_29 : ft 59 29 = some (.aload_n 0, 0, 0, 0, .null) := by decide +kernel
theorem gX5_turn_29 {l1 l2 : Option Value} {u : Nat} {st : List Value} {H : HP} {Q : Option Value → HP → Prop} : Go 59 29 [some (.ref u), l1, l2] st H Q ↔ Go 59 30 [some (.ref u), l1, l2] (.ref u :: st) H Q := G_aload_n fX5_turn_29 rfl
theorem fX5_turn_30 : ft 59 30 = some (.iconst 0, 0, 0, 0, .null) := by decide +kernel
theorem gX5_turn_30 {L : List (Option Value)} {st : List Value} {H : HP} {Q : Option Value → HP → Prop} : Go 59 30 L st H Q ↔ Go 59 31 L (vi 0 :: st) H Q := G_iconst fX5_turn_30
theorem fX5_turn_31 : ft 59 31 = some (.iload_n 2, 0, 0, 0, .null) := by decide +kernel
theorem gX5_turn_31 {l0 l1 : Option Value} {u : Int32} {st : List Value} {H : HP} {Q : Option Value → HP → Prop} : Go 59 31 [l0, l1, some (.int u)] st H Q ↔ Go 59 32 [l0, l1, some (.int u)] (.int u :: st) H Q := G_iload_n fX5_turn_31 rfl
theorem fX5_turn_32 : ft 59 32 = some (.invokevirtual 39, 58, 0, 365, .null) := by decide +kernel
theorem gX5_turn_32 {L : List (Option Value)} {p : Nat} {a0 : Int32} {a1 : Int32}  {H : HP} {Q : Option Value → HP → Prop} : Go 59 32 L (.int a1 :: .int a0 :: .ref p :: []) H Q ↔ (iso 5 (hget H p) = true ∧ Go 58 0 [some (.ref p), some (.int a0), some (.int a1), none, none, none, none] [] H (Cont 59 35 L [] Q)) := G_cV (n := 2) (N := 7) (as := [.int a1, .int a0]) (st := []) fX5_turn_32 (by decide +kernel) rfl (Nat.le_of_ble_eq_true rfl) (Nat.le_of_ble_eq_true rfl) rfl
theorem fX5_turn_35 : ft 59 35 = some (.aload_n 0, 0, 0, 0, .null) := by decide +kernel
theorem gX5_turn_35 {l1 l2 : Option Value} {u : Nat} {st : List Value} {H : HP} {Q : Option Value → HP → Prop} : Go 59 35 [some (.ref u), l1, l2] st H Q ↔ Go 59 36 [some (.ref u), l1, l2] (.ref u :: st) H Q := G_aload_n fX5_turn_35 rfl
theorem fX5_turn_36 : ft 59 36 = some (.iload_n 2, 0, 0, 0, .null) := by decide +kernel
theorem gX5_turn_36 {l0 l1 : Option Value} {u : Int32} {st : List Value} {H : HP} {Q : Option Value → HP → Prop} : Go 59 36 [l0, l1, some (.int u)] st H Q ↔ Go 59 37 [l0, l1, some (.int u)] (.int u :: st) H Q := G_iload_n fX5_turn_36 rfl
theorem fX5_turn_37 : ft 59 37 = some (.aload_n 0, 0, 0, 0, .null) := by decide +kernel
theorem gX5_turn_37 {l1 l2 : Option Value} {u : Nat} {st : List Value} {H : HP} {Q : Option Value → HP → Prop} : Go 59 37 [some (.ref u), l1, l2] st H Q ↔ Go 59 38 [some (.ref u), l1, l2] (.ref u :: st) H Q := G_aload_n fX5_turn_37 rfl
theorem fX5_turn_38 : ft 59 38 = some (.getfield 15, 5, 1, 283, .null) := by decide +kernel
theorem gX5_turn_38 {L : List (Option Value)} {p : Nat} {st : List Value} {H : HP} {Q : Option Value → HP → Prop} : Go 59 38 L (.ref p :: st) H Q ↔ Rd (gF' 5 1 (hget H p)) 59 41 L st H Q := G_getf fX5_turn_38 ⟨rfl, rfl⟩
theorem fX5_turn_41 : ft 59 41 = some (.arraylength, 0, 0, 0, .null) := by decide +kernel
theorem gX5_turn_41 {L : List (Option Value)} {p : Nat} {st : List Value} {H : HP} {Q : Option Value → HP → Prop} : Go 59 41 L (.ref p :: st) H Q ↔ Rd (aN' (hget H p)) 59 42 L st H Q := G_alen fX5_turn_41
theorem fX5_turn_42 : ft 59 42 = some (.invokevirtual 39, 58, 0, 365, .null) := by decide +kernel
theorem gX5_turn_42 {L : List (Option Value)} {p : Nat} {a0 : Int32} {a1 : Int32}  {H : HP} {Q : Option Value → HP → Prop} : Go 59 42 L (.int a1 :: .int a0 :: .ref p :: []) H Q ↔ (iso 5 (hget H p) = true ∧ Go 58 0 [some (.ref p), some (.int a0), some (.int a1), none, none, none, none] [] H (Cont 59 45 L [] Q)) := G_cV (n := 2) (N := 7) (as := [.int a1, .int a0]) (st := []) fX5_turn_42 (by decide +kernel) rfl (Nat.le_of_ble_eq_true rfl) (Nat.le_of_ble_eq_true rfl) rfl
theorem fX5_turn_45 : ft 59 45 = some (.return_, 0, 0, 0, .null) := by decide +kernel
theorem gX5_turn_45 {L : List (Option Value)} {H : HP} {Q : Option Value → HP → Prop} : Go 59 45 L [] H Q ↔ Q none H := G_vret fX5_turn_45 (by decide +kernel)
theorem fX5_greatestSize_0 : ft 60 0 = some (.lconst 0, 0, 0, 0, .null) := by decide +kernel
theorem gX5_greatestSize_0 {L : List (Option Value)} {st : List Value} {H : HP} {Q : Option Value → HP → Prop} : Go 60 0 L st H Q ↔ Go 60 1 L (vl 0 :: st) H Q := G_lconst fX5_greatestSize_0 (by decide)
theorem fX5_greatestSize_1 : ft 60 1 = some (.lstore_n 1, 0, 0, 0, .null) := by decide +kernel
theorem gX5_greatestSize_1 {l0 l1 l2 l3 : Option Value} {u : Int64} {st : List Value} {H : HP} {Q : Option Value → HP → Prop} : Go 60 1 [l0, l1, l2, l3] (.long u :: st) H Q ↔ Go 60 2 [l0, some (.long u), none, l3] st H Q := G_lstore_n fX5_greatestSize_1 rfl
theorem fX5_greatestSize_2 : ft 60 2 = some (.iconst 0, 0, 0, 0, .null) := by decide +kernel
theorem gX5_greatestSize_2 {L : List (Option Value)} {st : List Value} {H : HP} {Q : Option Value → HP → Prop} : Go 60 2 L st H Q ↔ Go 60 3 L (vi 0 :: st) H Q := G_iconst fX5_greatestSize_2
theorem fX5_greatestSize_3 : ft 60 3 = some (.istore_n 3, 0, 0, 0, .null) := by decide +kernel
theorem gX5_greatestSize_3 {l0 l1 l2 l3 : Option Value} {u : Int32} {st : List Value} {H : HP} {Q : Option Value → HP → Prop} : Go 60 3 [l0, l1, l2, l3] (.int u :: st) H Q ↔ Go 60 4 [l0, l1, l2, some (.int u)] st H Q := G_istore_n fX5_greatestSize_3 rfl
theorem fX5_greatestSize_4 : ft 60 4 = some (.iload_n 3, 0, 0, 0, .null) := by decide +kernel
theorem gX5_greatestSize_4 {l0 l1 l2 : Option Value} {u : Int32} {st : List Value} {H : HP} {Q : Option Value → HP → Prop} : Go 60 4 [l0, l1, l2, some (.int u)] st H Q ↔ Go 60 5 [l0, l1, l2, some (.int u)] (.int u :: st) H Q := G_iload_n fX5_greatestSize_4 rfl
theorem fX5_greatestSize_5 : ft 60 5 = some (.aload_n 0, 0, 0, 0, .null) := by decide +kernel
theorem gX5_greatestSize_5 {l1 l2 l3 : Option Value} {u : Nat} {st : List Value} {H : HP} {Q : Option Value → HP → Prop} : Go 60 5 [some (.ref u), l1, l2, l3] st H Q ↔ Go 60 6 [some (.ref u), l1, l2, l3] (.ref u :: st) H Q := G_aload_n fX5_greatestSize_5 rfl
theorem fX5_greatestSize_6 : ft 60 6 = some (.getfield 15, 5, 1, 283, .null) := by decide +kernel
theorem gX5_greatestSize_6 {L : List (Option Value)} {p : Nat} {st : List Value} {H : HP} {Q : Option Value → HP → Prop} : Go 60 6 L (.ref p :: st) H Q ↔ Rd (gF' 5 1 (hget H p)) 60 9 L st H Q := G_getf fX5_greatestSize_6 ⟨rfl, rfl⟩
theorem fX5_greatestSize_9 : ft 60 9 = some (.arraylength, 0, 0, 0, .null) := by decide +kernel
theorem gX5_greatestSize_9 {L : List (Option Value)} {p : Nat} {st : List Value} {H : HP} {Q : Option Value → HP → Prop} : Go 60 9 L (.ref p :: st) H Q ↔ Rd (aN' (hget H p)) 60 10 L st H Q := G_alen fX5_greatestSize_9
theorem fX5_greatestSize_10 : ft 60 10 = some (.if_icmp .ge 23, 0, 0, 0, .null) := by decide +kernel
theorem gX5_greatestSize_10T {L : List (Option Value)} {a b : Int} (c : (-2147483648 ≤ a ∧ a ≤ 2147483647 ∧ -2147483648 ≤ b ∧ b ≤ 2147483647) ∧ b ≤ a) {st : List Value} {H : HP} {Q : Option Value → HP → Prop} : Go 60 10 L (vi b :: vi a :: st) H Q ↔ Go 60 33 L st H Q := G_icT fX5_greatestSize_10 (by decide) c
theorem gX5_greatestSize_10F {L : List (Option Value)} {a b : Int} (c : (-2147483648 ≤ a ∧ a ≤ 2147483647 ∧ -2147483648 ≤ b ∧ b ≤ 2147483647) ∧ ¬ (b ≤ a)) {st : List Value} {H : HP} {Q : Option Value → HP → Prop} : Go 60 10 L (vi b :: vi a :: st) H Q ↔ Go 60 13 L st H Q := G_icF (tg := 33) fX5_greatestSize_10 (by decide) c
theorem fX5_greatestSize_13 : ft 60 13 = some (.lload_n 1, 0, 0, 0, .null) := by decide +kernel
theorem gX5_greatestSize_13 {l0 l3 : Option Value} {u : Int64} {st : List Value} {H : HP} {Q : Option Value → HP → Prop} : Go 60 13 [l0, some (.long u), none, l3] st H Q ↔ Go 60 14 [l0, some (.long u), none, l3] (.long u :: st) H Q := G_lload_n fX5_greatestSize_13 rfl
theorem fX5_greatestSize_14 : ft 60 14 = some (.aload_n 0, 0, 0, 0, .null) := by decide +kernel
theorem gX5_greatestSize_14 {l1 l2 l3 : Option Value} {u : Nat} {st : List Value} {H : HP} {Q : Option Value → HP → Prop} : Go 60 14 [some (.ref u), l1, l2, l3] st H Q ↔ Go 60 15 [some (.ref u), l1, l2, l3] (.ref u :: st) H Q := G_aload_n fX5_greatestSize_14 rfl
theorem fX5_greatestSize_15 : ft 60 15 = some (.getfield 15, 5, 1, 283, .null) := by decide +kernel
theorem gX5_greatestSize_15 {L : List (Option Value)} {p : Nat} {st : List Value} {H : HP} {Q : Option Value → HP → Prop} : Go 60 15 L (.ref p :: st) H Q ↔ Rd (gF' 5 1 (hget H p)) 60 18 L st H Q := G_getf fX5_greatestSize_15 ⟨rfl, rfl⟩
theorem fX5_greatestSize_18 : ft 60 18 = some (.iload_n 3, 0, 0, 0, .null) := by decide +kernel
theorem gX5_greatestSize_18 {l0 l1 l2 : Option Value} {u : Int32} {st : List Value} {H : HP} {Q : Option Value → HP → Prop} : Go 60 18 [l0, l1, l2, some (.int u)] st H Q ↔ Go 60 19 [l0, l1, l2, some (.int u)] (.int u :: st) H Q := G_iload_n fX5_greatestSize_18 rfl
theorem fX5_greatestSize_19 : ft 60 19 = some (.laload, 0, 0, 0, .null) := by decide +kernel
theorem gX5_greatestSize_19 {L : List (Option Value)} {p : Nat} {a : Int} {st : List Value} {H : HP} {Q : Option Value → HP → Prop} : Go 60 19 L (vi a :: .ref p :: st) H Q ↔ Rd (aL' (hget H p) a) 60 20 L st H Q := G_lald fX5_greatestSize_19
theorem fX5_greatestSize_20 : ft 60 20 = some (.invokestatic 43, 186, 0, 447, .null) := by decide +kernel
theorem gX5_greatestSize_20 {L : List (Option Value)} {a0 : Int64} {r0 : Int64} {H : HP} {Q : Option Value → HP → Prop} : Go 60 20 L (.long a0 :: [.long r0]) H Q ↔ Go 186 0 [some (.long a0), none] [] H (Cont 60 23 L [.long r0] Q) := G_cS (n := 1) (N := 2) (as := [.long a0]) (st := [.long r0]) fX5_greatestSize_20 (by decide +kernel) rfl (Nat.le_of_ble_eq_true rfl) (Nat.le_of_ble_eq_true rfl) rfl
theorem fX5_greatestSize_23 : ft 60 23 = some (.invokestatic 47, 188, 0, 450, .null) := by decide +kernel
theorem gX5_greatestSize_23 {L : List (Option Value)} {a0 : Int64} {a1 : Int64}  {H : HP} {Q : Option Value → HP → Prop} : Go 60 23 L (.long a1 :: .long a0 :: []) H Q ↔ Go 188 0 [some (.long a0), none, some (.long a1), none] [] H (Cont 60 26 L [] Q) := G_cS (n := 2) (N := 4) (as := [.long a1, .long a0]) (st := []) fX5_greatestSize_23 (by decide +kernel) rfl (Nat.le_of_ble_eq_true rfl) (Nat.le_of_ble_eq_true rfl) rfl
theorem fX5_greatestSize_26 : ft 60 26 = some (.lstore_n 1, 0, 0, 0, .null) := by decide +kernel
theorem gX5_greatestSize_26 {l0 l1 l2 l3 : Option Value} {u : Int64} {st : List Value} {H : HP} {Q : Option Value → HP → Prop} : Go 60 26 [l0, l1, l2, l3] (.long u :: st) H Q ↔ Go 60 27 [l0, some (.long u), none, l3] st H Q := G_lstore_n fX5_greatestSize_26 rfl
theorem fX5_greatestSize_27 : ft 60 27 = some (.iinc 3 1, 0, 0, 0, .null) := by decide +kernel
theorem gX5_greatestSize_27 {l0 l1 l2 : Option Value} {a : Int} {st : List Value} {H : HP} {Q : Option Value → HP → Prop} : Go 60 27 [l0, l1, l2, some (vi a)] st H Q ↔ Go 60 30 [l0, l1, l2, some (vi (a + 1))] st H Q := G_iinc fX5_greatestSize_27 rfl rfl
theorem fX5_greatestSize_30 : ft 60 30 = some (.goto (-26), 0, 0, 0, .null) := by decide +kernel
theorem gX5_greatestSize_30 {L : List (Option Value)} {st : List Value} {H : HP} {Q : Option Value → HP → Prop} : Go 60 30 L st H Q ↔ Go 60 4 L st H Q := G_goto fX5_greatestSize_30 (by decide)
theorem fX5_greatestSize_33 : ft 60 33 = some (.lload_n 1, 0, 0, 0, .null) := by decide +kernel
theorem gX5_greatestSize_33 {l0 l3 : Option Value} {u : Int64} {st : List Value} {H : HP} {Q : Option Value → HP → Prop} : Go 60 33 [l0, some (.long u), none, l3] st H Q ↔ Go 60 34 [l0, some (.long u), none, l3] (.long u :: st) H Q := G_lload_n fX5_greatestSize_33 rfl
theorem fX5_greatestSize_34 : ft 60 34 = some (.lreturn, 0, 0, 0, .null) := by decide +kernel
theorem gX5_greatestSize_34 {L : List (Option Value)} {u : Int64} {H : HP} {Q : Option Value → HP → Prop} : Go 60 34 L [.long u] H Q ↔ Q (some (.long u)) H := G_lret fX5_greatestSize_34 (by decide +kernel)

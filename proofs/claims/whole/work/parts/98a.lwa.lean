/-! the law: what the calls answer (begun by program: wip/gen/law.py) -/
section LWA
variable {L i : Int} {g : Int → Int} {H : HP} {S : SS} {Q : Option Value → HP → Prop}
def isI (v : Value) : Prop := ∃ u : Int32, v = .int u
def isJ (v : Value) : Prop := ∃ u : Int64, v = .long u
theorem is_vi {v : Value} (h : isI v) : ∃ r, (-2147483648 ≤ r ∧ r ≤ 2147483647) ∧ v = vi r := by
  obtain ⟨u, hu⟩ := h
  exact ⟨u.toInt, jx_r u, by rw [hu]; unfold vi; rw [Int32.ofInt_toInt]⟩
theorem is_vl {v : Value} (h : isJ v) : ∃ r, (-9223372036854775808 ≤ r ∧ r ≤ 9223372036854775807) ∧ v = vl r := by
  obtain ⟨u, hu⟩ := h
  exact ⟨u.toInt, bx_r u, by rw [hu]; unfold vl; rw [Int64.ofInt_toInt]⟩
theorem bOr_r (a b : Int) : -9223372036854775808 ≤ bOr a b ∧ bOr a b ≤ 9223372036854775807 := bx_r _
theorem jA_r (a b : Int) : -2147483648 ≤ jAnd a b ∧ jAnd a b ≤ 2147483647 := jx_r _
theorem ov_row {S : SS} {p ln n : Int} {z : Nat} : isI (o_row S p ln n z).1 := by
  unfold o_row; (try unfold o_two); (try unfold o_one); repeat' split
  all_goals (try dsimp only)
  all_goals (repeat' split)
  all_goals exact ⟨_, rfl⟩
theorem ov_share {S : SS} {p q : Int} : isI (o_share S p q).1 := by
  unfold o_share; (try unfold o_two); (try unfold o_one); repeat' split
  all_goals (try dsimp only)
  all_goals (repeat' split)
  all_goals exact ⟨_, rfl⟩
theorem ov_kind {S : SS} {p w : Int} : isI (o_kind S p w).1 := by
  unfold o_kind; (try unfold o_two); (try unfold o_one); repeat' split
  all_goals (try dsimp only)
  all_goals (repeat' split)
  all_goals exact ⟨_, rfl⟩
theorem ov_put {S : SS} {p i v : Int} : isI (o_put S p i v).1 := by
  unfold o_put; (try unfold o_two); (try unfold o_one); repeat' split
  all_goals (try dsimp only)
  all_goals (repeat' split)
  all_goals exact ⟨_, rfl⟩
theorem ov_at {S : SS} {p i : Int} : isJ (o_at S p i).1 := by
  unfold o_at; (try unfold o_two); (try unfold o_one); repeat' split
  all_goals (try dsimp only)
  all_goals (repeat' split)
  all_goals exact ⟨_, rfl⟩
theorem ov_as {S : SS} {p i ln : Int} : isJ (o_as S p i ln).1 := by
  unfold o_as; (try unfold o_two); (try unfold o_one); repeat' split
  all_goals (try dsimp only)
  all_goals (repeat' split)
  all_goals exact ⟨_, rfl⟩
theorem ov_rev {S : SS} {p : Int} : isI (o_rev S p).1 := by
  unfold o_rev; (try unfold o_two); (try unfold o_one); repeat' split
  all_goals (try dsimp only)
  all_goals (repeat' split)
  all_goals exact ⟨_, rfl⟩
theorem ov_shift {S : SS} {p b : Int} : isI (o_shift S p b).1 := by
  unfold o_shift; (try unfold o_two); (try unfold o_one); repeat' split
  all_goals (try dsimp only)
  all_goals (repeat' split)
  all_goals exact ⟨_, rfl⟩
theorem ov_root {S : SS} {k n : Int} : isJ (o_root S k n).1 := by
  unfold o_root; (try unfold o_two); (try unfold o_one); repeat' split
  all_goals (try dsimp only)
  all_goals (repeat' split)
  all_goals exact ⟨_, rfl⟩
theorem ov_tr {S : SS} {a u : Int} : isI (o_tr S a u).1 := by
  unfold o_tr; (try unfold o_two); (try unfold o_one); repeat' split
  all_goals (try dsimp only)
  all_goals (repeat' split)
  all_goals exact ⟨_, rfl⟩
theorem ov_times {S : SS} {a : Int} : isI (o_times S a).1 := by
  unfold o_times; (try unfold o_two); (try unfold o_one); repeat' split
  all_goals (try dsimp only)
  all_goals (repeat' split)
  all_goals exact ⟨_, rfl⟩
theorem ov_sh {S : SS} {z : Nat} {i w : Int} : isJ (o_sh S z i w).1 := by
  unfold o_sh; repeat' split
  all_goals (try dsimp only)
  all_goals (repeat' split)
  all_goals exact ⟨_, rfl⟩
theorem ov_inv {S : SS} {a : Int} {z : Nat} : isI (o_inv S a z).1 := by
  unfold o_inv; (try unfold o_two); (try unfold o_one); repeat' split
  all_goals (try dsimp only)
  all_goals (repeat' split)
  all_goals exact ⟨_, rfl⟩
theorem ov_mul {S : SS} {a b w : Int} : isI (o_mul S a b w).1 := by
  unfold o_mul; (try unfold o_two); (try unfold o_one); repeat' split
  all_goals (try dsimp only)
  all_goals (repeat' split)
  all_goals exact ⟨_, rfl⟩
theorem ov_circ {S : SS} {a b n : Int} : isI (o_circ S a b n).1 := by
  unfold o_circ; (try unfold o_two); (try unfold o_one); repeat' split
  all_goals (try dsimp only)
  all_goals (repeat' split)
  all_goals exact ⟨_, rfl⟩
theorem ov_corr {S : SS} {a b : Int} : isI (o_corr S a b).1 := by
  unfold o_corr; (try unfold o_two); (try unfold o_one); repeat' split
  all_goals (try dsimp only)
  all_goals (repeat' split)
  all_goals exact ⟨_, rfl⟩
theorem ov_slide {S : SS} {a w : Int} : isI (o_slide S a w).1 := by
  unfold o_slide; (try unfold o_two); (try unfold o_one); repeat' split
  all_goals (try dsimp only)
  all_goals (repeat' split)
  all_goals exact ⟨_, rfl⟩
theorem ov_high {S : SS} {i : Int} : isJ (o_high S i).1 := by
  unfold o_high; (try unfold o_two); (try unfold o_one); repeat' split
  all_goals (try dsimp only)
  all_goals (repeat' split)
  all_goals exact ⟨_, rfl⟩
theorem ov_carry {S : SS} {a m : Int} {z : Nat} : isI (o_carry S a m z).1 := by
  unfold o_carry; (try unfold o_two); (try unfold o_one); repeat' split
  all_goals (try dsimp only)
  all_goals (repeat' split)
  all_goals exact ⟨_, rfl⟩
theorem ov_cost {S : SS} {w n m : Int} : isI (o_cost S w n m).1 := by
  unfold o_cost; (try unfold o_two); (try unfold o_one); repeat' split
  all_goals (try dsimp only)
  all_goals (repeat' split)
  all_goals exact ⟨_, rfl⟩
theorem ov_plan {S : SS} {n m : Int} : isI (o_plan S n m).1 := by
  unfold o_plan; (try unfold o_two); (try unfold o_one); repeat' split
  all_goals (try dsimp only)
  all_goals (repeat' split)
  all_goals exact ⟨_, rfl⟩
theorem ov_pow {S : SS} {a u t n : Int} : isI (o_pow S a u t n).1 := by
  unfold o_pow; (try unfold o_two); (try unfold o_one); repeat' split
  all_goals (try dsimp only)
  all_goals (repeat' split)
  all_goals exact ⟨_, rfl⟩
theorem ov_series {S : SS} {a u n : Int} : isI (o_series S a u n).1 := by
  unfold o_series; (try unfold o_two); (try unfold o_one); repeat' split
  all_goals (try dsimp only)
  all_goals (repeat' split)
  all_goals exact ⟨_, rfl⟩
theorem ov_div {S : SS} {a b u : Int} : isI (o_div S a b u).1 := by
  unfold o_div; (try unfold o_two); (try unfold o_one); repeat' split
  all_goals (try dsimp only)
  all_goals (repeat' split)
  all_goals exact ⟨_, rfl⟩
theorem ov_eval {S : SS} {a b u : Int} : isI (o_eval S a b u).1 := by
  unfold o_eval; (try unfold o_two); (try unfold o_one); repeat' split
  all_goals (try dsimp only)
  all_goals (repeat' split)
  all_goals exact ⟨_, rfl⟩
theorem ov_itp {S : SS} {a b u : Int} : isI (o_itp S a b u).1 := by
  unfold o_itp; (try unfold o_two); (try unfold o_one); repeat' split
  all_goals (try dsimp only)
  all_goals (repeat' split)
  all_goals exact ⟨_, rfl⟩
theorem ov_match {S : SS} {a b w : Int} : isI (o_match S a b w).1 := by
  unfold o_match; (try unfold o_two); (try unfold o_one); repeat' split
  all_goals (try dsimp only)
  all_goals (repeat' split)
  all_goals exact ⟨_, rfl⟩
theorem ov_matchAt {S : SS} {i : Int} : isI (o_matchAt S i).1 := by
  unfold o_matchAt; (try unfold o_two); (try unfold o_one); repeat' split
  all_goals (try dsimp only)
  all_goals (repeat' split)
  all_goals exact ⟨_, rfl⟩
theorem ov_real {S : SS} {a b : Int} : isI (o_real S a b).1 := by
  unfold o_real; (try unfold o_two); (try unfold o_one); repeat' split
  all_goals (try dsimp only)
  all_goals (repeat' split)
  all_goals exact ⟨_, rfl⟩
theorem ov_fault {S : SS} : isI (((vi S.2.1.1, S) : Value × SS)).1 := ⟨_, rfl⟩
theorem ov_told {S : SS} {i : Int} : isI (o_told S i).1 := by
  unfold o_told; (try unfold o_two); (try unfold o_one); repeat' split
  all_goals (try dsimp only)
  all_goals (repeat' split)
  all_goals exact ⟨_, rfl⟩
/-- what holds ahead of a call -/
def LI (L : Int) (g : Int → Int) (i : Int) (H : HP) (S : SS) : Prop := CI H S ∧ MJ H S ∧ hget H 0 = cJ L g ∧ H.1 ≤ 61 + 2 * i.toNat ∧ H.2.1 ≤ 7000 + 66 * i.toNat
theorem CI.nl (h : CI H S) : ¬ live S H.1 := fun hl => by have := (h.2.1 _ hl).1; omega
theorem MJ.m41 (h : MJ H S) : hget H 41 = cM S := by
  obtain ⟨T, h1, -⟩ := h
  exact h1.v.1
theorem LI.step {H1 H2 : HP} {S' : SS} (h : LI L g i H S) (hi : 0 ≤ i) (c1 : CI H1 S') (f1 : FX H H1) (c2 : MJ H2 S') (f2 : Fm 41 60 H1 H2) : LI L g (i + 5) H2 S' := by
  obtain ⟨-, -, h0, n1, n2⟩ := h
  have e1 := f1.1
  have e2 := f2.1
  have e3 := f2.2.1
  exact ⟨c1.fm f2, c2, by rw [f2.2.2 0 (by omega), f1.2 0 (Or.inl rfl)]; exact h0, by omega, by omega⟩
end LWA

def H00 (L : Nat) (xs : Nat → Int32) : HP := (1, 0, fun q => if q = 0 then .inl (.int, L, .inl xs) else .inr (99, []))
theorem law_runs (L : Nat) (xs : Nat → Int32) (hL : L ≤ 2560) : ∃ (fu : Nat) (H' : HP), ex fu 190 (0, entL 4 [.ref 0], []) (H00 L xs) = some (some (.int 1), H') ∧ H'.1 ≤ 600000 ∧ H'.2.1 ≤ 7302250 := sorry

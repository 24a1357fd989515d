/-! RUNS OF THE SMALL MACHINE: calls, in the form that the printed rows take -/
def iso (ci : Nat) (c : AC) : Bool := match c with
  | .inr (k, _) => decide (k = ci)
  | _ => false
theorem iso_O {ci : Nat} {fs : List Value} : iso ci (cO ci fs) = true := decide_eq_true rfl
theorem clOk_of {y z kd n : Nat} {st : List Value} (h1 : (z < 190 ∧ m_kd z = kd) ∧ rmOk y z = true) (h3 : n ≤ st.length) (h4 : wd (st.drop n) ≤ 8) : clOk y z kd n st = true := by
  unfold clOk
  rw [h1.2, Bool.and_true]
  exact decide_eq_true ⟨h1.1.1, h1.1.2, h3, h4⟩
section CAL
variable {y z pc n N ci p j : Nat} {L E : List (Option Value)} {st as : List Value} {H : HP} {Q : Option Value → HP → Prop} {ax : Ax}
theorem G_cS (h : ft y pc = some (.invokestatic j, ax)) (e : (ax.1 = z ∧ z ≠ 1001 ∧ z ≠ 1002) ∧ (m_np z = n ∧ m_maxL z = N) ∧ (z < 190 ∧ m_kd z = 0) ∧ rmOk y z = true) (ha : as.length = n) (hw : wd st ≤ 8) (hl : (argL as.reverse).length ≤ N) (hE : entL N as.reverse = E) : Go y pc L (as ++ st) H Q ↔ Go z 0 E [] H (Cont y (pc + 3) L st Q) := by
  obtain ⟨e1, ⟨e2, rfl⟩, e3⟩ := e
  subst hE
  exact G_callS h e1 e2 (clOk_of e3 (by rw [List.length_append]; omega) (by rw [← ha, List.drop_left]; exact hw)) ha hl
theorem G_cI (h : ft y pc = some (.invokespecial j, ax)) (e : (ax.1 = z ∧ z ≠ 1000) ∧ (m_np z = n ∧ m_maxL z = N) ∧ (z < 190 ∧ m_kd z = 2) ∧ rmOk y z = true) (ha : as.length = n) (hw : wd st ≤ 8) (hl : (argL (.ref p :: as.reverse)).length ≤ N) (hE : entL N (.ref p :: as.reverse) = E) : Go y pc L (as ++ .ref p :: st) H Q ↔ Go z 0 E [] H (Cont y (pc + 3) L st Q) := by
  obtain ⟨e1, ⟨e2, rfl⟩, e3⟩ := e
  subst hE
  have q : (as ++ Value.ref p :: st).drop (n + 1) = st := by
    rw [← ha, show as ++ Value.ref p :: st = (as ++ [Value.ref p]) ++ st by simp, show as.length + 1 = (as ++ [Value.ref p]).length by simp, List.drop_left]
  exact G_callI h e1 e2 (clOk_of e3 (by rw [List.length_append, List.length_cons]; omega) (by rw [q]; exact hw)) ha hl
theorem G_cV (h : ft y pc = some (.invokevirtual j, ax)) (e : ax.1 = z ∧ (m_np z = n ∧ m_maxL z = N) ∧ ((z < 190 ∧ m_kd z = 1) ∧ rmOk y z = true) ∧ m_ci z = ci) (ha : as.length = n) (hw : wd st ≤ 8) (hl : (argL (.ref p :: as.reverse)).length ≤ N) (hE : entL N (.ref p :: as.reverse) = E) : Go y pc L (as ++ .ref p :: st) H Q ↔ (iso ci (hget H p) = true ∧ Go z 0 E [] H (Cont y (pc + 3) L st Q)) := by
  obtain ⟨e1, ⟨e2, rfl⟩, e3, e4⟩ := e
  subst hE
  have q : (as ++ Value.ref p :: st).drop (n + 1) = st := by
    rw [← ha, show as ++ Value.ref p :: st = (as ++ [Value.ref p]) ++ st by simp, show as.length + 1 = (as ++ [Value.ref p]).length by simp, List.drop_left]
  have hk := clOk_of (n := n + 1) (st := as ++ .ref p :: st) e3 (by rw [List.length_append, List.length_cons]; omega) (by rw [q]; exact hw)
  cases hi : iso ci (hget H p) with
  | true =>
    cases hg : hget H p with
    | inl t => rw [hg] at hi; cases hi
    | inr t =>
      obtain ⟨k, fs⟩ := t
      rw [hg] at hi
      have hk2 : k = ci := of_decide_eq_true hi
      subst hk2
      rw [G_callV h e1 e2 hk ha hl e4 hg]
      exact ⟨fun t => ⟨rfl, t⟩, fun t => t.2⟩
  | false =>
    constructor
    · rintro ⟨m, v, H1, hn, hq⟩
      exfalso
      cases m with
      | zero => cases hn
      | succ m =>
        have hr : rcv ((as ++ Value.ref p :: st).take (n + 1)).reverse H (m_ci ax.1) = false := by
          rw [← ha, show as ++ Value.ref p :: st = (as ++ [Value.ref p]) ++ st by simp, show as.length + 1 = (as ++ [Value.ref p]).length by simp, List.take_left, show (as ++ [Value.ref p]).reverse = .ref p :: as.reverse by simp, e1, e4]
          unfold iso at hi
          unfold rcv
          exact hi
        have hs : stp y (pc, L, as ++ .ref p :: st) H = none := by
          rw [stp_ft h]
          show stpV y ax pc L (as ++ .ref p :: st) H = none
          unfold stpV
          rw [if_neg]
          rintro ⟨-, q2⟩
          rw [show m_np ax.1 = n by rw [e1]; exact e2] at q2
          rw [hr] at q2
          cases q2
        rw [ex, hs] at hn
        cases hn
    · rintro ⟨q1, -⟩
      cases q1
end CAL

/-! ORDER: the class sorts its regions -/
/-- what the sorting writes -/
def srQ (a j : Nat) : Bool := a == 70 || (decide (147 ≤ a) && (((a - 147) % 5 == 0 && (j == 6 || j == 8)) || (((a - 147) % 5 == 1 || (a - 147) % 5 == 3) && j == 7)))
theorem so_sr (a j : Nat) (h : srQ a j = false) : soP a j = false := by
  unfold srQ at h
  rw [Bool.or_eq_false_iff] at h
  exact h.1
theorem srQ_k (q : Nat) : srQ (147 + 5 * q) 8 = true ∧ srQ (147 + 5 * q) 6 = true ∧ srQ (147 + 5 * q + 1) 7 = true ∧ srQ (147 + 5 * q + 3) 7 = true := by
  unfold srQ
  refine ⟨?_, ?_, ?_, ?_⟩ <;> rw [decide_eq_true (by omega)]
  · rw [show (147 + 5 * q - 147) % 5 = 0 by omega]; exact Bool.or_true _
  · rw [show (147 + 5 * q - 147) % 5 = 0 by omega]; exact Bool.or_true _
  · rw [show (147 + 5 * q + 1 - 147) % 5 = 1 by omega]; exact Bool.or_true _
  · rw [show (147 + 5 * q + 3 - 147) % 5 = 3 by omega]; exact Bool.or_true _
theorem srQ_lo {a j : Nat} (h : a < 147) (h2 : a ≠ 70) : srQ a j = false := by
  unfold srQ
  rw [beq_eq_false_iff_ne.mpr h2, decide_eq_false (by omega)]
  rfl
theorem srQ_bx (q : Nat) {j : Nat} (hj : j < 6) : srQ (147 + 5 * q) j = false := by
  unfold srQ
  rw [beq_eq_false_iff_ne.mpr (show 147 + 5 * q ≠ 70 by omega), beq_eq_false_iff_ne.mpr (show j ≠ 6 by omega), beq_eq_false_iff_ne.mpr (show j ≠ 8 by omega), beq_eq_false_iff_ne.mpr (show (147 + 5 * q - 147) % 5 ≠ 1 by omega), beq_eq_false_iff_ne.mpr (show (147 + 5 * q - 147) % 5 ≠ 3 by omega)]
  show (decide (147 ≤ 147 + 5 * q) && ((((147 + 5 * q - 147) % 5 == 0) && false) || false)) = false
  rw [Bool.and_false]
  exact Bool.and_false _
theorem srQ_pt (q : Nat) {i j : Nat} (h : i = 1 ∧ j ≠ 7 ∨ i = 2 ∨ i = 3 ∧ j ≠ 7 ∨ i = 4) : srQ (147 + 5 * q + i) j = false := by
  unfold srQ
  rw [beq_eq_false_iff_ne.mpr (show 147 + 5 * q + i ≠ 70 by omega), beq_eq_false_iff_ne.mpr (show (147 + 5 * q + i - 147) % 5 ≠ 0 by omega), Bool.false_and, Bool.false_or, Bool.false_or]
  rcases h with ⟨_, h⟩ | h | ⟨_, h⟩ | h
  · rw [beq_eq_false_iff_ne.mpr h, Bool.and_false, Bool.and_false]
  · rw [beq_eq_false_iff_ne.mpr (show (147 + 5 * q + i - 147) % 5 ≠ 1 by omega), beq_eq_false_iff_ne.mpr (show (147 + 5 * q + i - 147) % 5 ≠ 3 by omega)]; exact Bool.and_false _
  · rw [beq_eq_false_iff_ne.mpr h, Bool.and_false, Bool.and_false]
  · rw [beq_eq_false_iff_ne.mpr (show (147 + 5 * q + i - 147) % 5 ≠ 1 by omega), beq_eq_false_iff_ne.mpr (show (147 + 5 * q + i - 147) % 5 ≠ 3 by omega)]; exact Bool.and_false _
/-- the boxes of the regions' cells -/
def rgZ (m : mM) (N : Nat) (L T R B : Nat → Nat) : Prop := ∀ q, q < N → m.1 (147 + 5 * q) 2 = nI (L q) ∧ m.1 (147 + 5 * q) 3 = nI (T q) ∧ m.1 (147 + 5 * q) 4 = nI (R q) ∧ m.1 (147 + 5 * q) 5 = nI (B q)
theorem rgZ_fr {m m' : mM} {N : Nat} {L T R B : Nat → Nat} (X : rgZ m N L T R B) (Q : fr srQ m m') : rgZ m' N L T R B := fun q hq => by
  obtain ⟨h1, h2, h3, h4⟩ := X q hq
  exact ⟨(fr_i Q _ _ (srQ_bx q (by decide))).trans h1, (fr_i Q _ _ (srQ_bx q (by decide))).trans h2, (fr_i Q _ _ (srQ_bx q (by decide))).trans h3, (fr_i Q _ _ (srQ_bx q (by decide))).trans h4⟩
def kf (c : Bool) (f g : Nat → Nat) (q : Nat) : Nat := if c then f q else g q
section SR
variable {S : xS} {W H n N : Nat} {m : mM} {L T R B : Nat → Nat}
theorem start_s (X : rgZ m N L T R B) (hn : N ≤ n) {q : Nat} (hq : q < N) (c : Bool) : xM S mX7_start [.ref (147 + 5 * q), .int (bz c)] (E W H n m) = some (.inl (some (.int (nI (kf c L T q)))), E W H n m, 0, 0) := by
  obtain ⟨h1, h2, h3, h4⟩ := X q hq
  refine w_X7_start S _ _ _ _ ?_
  cases c
  · refine c_ift (by decide) ?_
    refine c_gi (by omega) (eK_R _) (by rfl) (by rfl) ?_
    rw [h2]
    rfl
  · refine c_iff (by decide) ?_
    refine c_gi (by omega) (eK_R _) (by rfl) (by rfl) ?_
    rw [h1]
    rfl
theorem end_s (X : rgZ m N L T R B) (hn : N ≤ n) {q : Nat} (hq : q < N) (c : Bool) : xM S mX7_end [.ref (147 + 5 * q), .int (bz c)] (E W H n m) = some (.inl (some (.int (nI (kf c R B q)))), E W H n m, 0, 0) := by
  obtain ⟨h1, h2, h3, h4⟩ := X q hq
  refine w_X7_end S _ _ _ _ ?_
  cases c
  · refine c_ift (by decide) ?_
    refine c_gi (by omega) (eK_R _) (by rfl) (by rfl) ?_
    rw [h4]
    rfl
  · refine c_iff (by decide) ?_
    refine c_gi (by omega) (eK_R _) (by rfl) (by rfl) ?_
    rw [h3]
    rfl
theorem takeNumber_s (hn : N ≤ n) {q i : Nat} (hq : q < N) : xM S mX7_takeNumber [.ref (147 + 5 * q), .int (nI i)] (E W H n m) = some (.inl none, E W H n (sI (sI (sI m (147 + 5 * q) 6 (nI i)) (147 + 5 * q + 1) 7 (nI i)) (147 + 5 * q + 3) 7 (nI i)), 0, 0) := by
  have k1 : eK (147 + 5 * q + 1) = (0, 5) := eK_reg q 1 (by decide)
  have k3 : eK (147 + 5 * q + 3) = (0, 5) := eK_reg q 3 (by decide)
  refine w_X7_takeNumber S _ _ _ _ ?_
  refine c_pi (by omega) (eK_R _) (by rfl) (by rfl) (xPok_int (by decide) (by rfl)) ?_
  refine c_gr (o := 1) (by omega) (eK_R _) (by rfl) (by rfl) ?_
  refine c_pi (by omega) k1 (by rfl) (by rfl) (xPok_int (by decide) (by rfl)) ?_
  refine c_gr (o := 3) (by omega) (eK_R _) (by rfl) (by rfl) ?_
  refine c_pi (by omega) k3 (by rfl) (by rfl) (xPok_int (by decide) (by rfl)) ?_
  rfl
end SR

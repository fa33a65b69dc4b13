/-! GETTERS: of the registration and the counts -/
section GE
variable {S : xS} {W H n : Nat} {m : mM}
theorem told_in (e : m.1 90 35 = 1) (v : Int32) : xM S mX13_told [.ref 90, .int v] (E W H n m) = some (.inl (some (.int v)), E W H n (sI m 90 2 0), 0, 0) := by
  refine w_X13_told S _ _ _ _ ?_
  refine c_gi (by omega) (by rfl) (by rfl) (by rfl) ?_
  rw [e]
  refine c_iff (by decide) ?_
  refine c_pi (by omega) (by rfl) (by rfl) (by rfl) (xPok_int (by decide) (by rfl)) ?_
  refine c_gi (by omega) (by rfl) (by rfl) (by rfl) ?_
  rw [sI_ne (by omega), e]
  exact c_iff (by decide) rfl
theorem told_no (e : m.1 90 35 = 0) (v : Int32) : xM S mX13_told [.ref 90, .int v] (E W H n m) = some (.inl (some (.int 0)), E W H n (sI m 90 2 1), 0, 0) := by
  refine w_X13_told S _ _ _ _ ?_
  refine c_gi (by omega) (by rfl) (by rfl) (by rfl) ?_
  rw [e]
  refine c_ift rfl ?_
  refine c_pi (by omega) (by rfl) (by rfl) (by rfl) (xPok_int (by decide) (by rfl)) ?_
  refine c_gi (by omega) (by rfl) (by rfl) (by rfl) ?_
  rw [sI_ne (by omega), e]
  exact c_ift rfl rfl
theorem lacks_in (e : m.1 90 35 = 1) {c : Nat} (hc : c < 100000) {x : Int32} (h : 0 ≤ x.toInt ∧ x.toInt < c) : xM S mX13_lacks [.ref 90, .int x, .int (nI c)] (E W H n m) = some (.inl (some (.int 0)), E W H n (sI m 90 2 0), 0, 0) := by
  have i1 := in_s S (E W H n m) x.toInt64 0 (nI c - (1 : Int32)).toInt64
  rw [Int32.toInt_toInt64, Int32.toInt_toInt64, show (1 : Int32) = nI 1 from rfl, pk_sub (by omega), nI_toInt (by omega), show (0 : Int64).toInt = 0 from rfl, decide_eq_true (by omega)] at i1
  refine w_X13_lacks S _ _ _ _ _ ?_
  refine c_gi (by omega) (by rfl) (by rfl) (by rfl) ?_
  rw [e]
  refine c_ift (by decide) ?_
  rw [show nI c - (1 : Int32) = nI (c - 1) from pk_sub (a := c) (b := 1) (by omega)]
  refine c_qI i1 ?_
  refine c_iff (by decide) ?_
  refine c_pi (by omega) (by rfl) (by rfl) (by rfl) (xPok_int (by decide) (by rfl)) ?_
  refine c_gi (by omega) (by rfl) (by rfl) (by rfl) ?_
  rw [sI_eq ⟨rfl, rfl⟩]
  exact c_ift rfl rfl
theorem lacks_no (e : m.1 90 35 = 0) (x y : Int32) : xM S mX13_lacks [.ref 90, .int x, .int y] (E W H n m) = some (.inl (some (.int 1)), E W H n (sI m 90 2 1), 0, 0) := by
  refine w_X13_lacks S _ _ _ _ _ ?_
  refine c_gi (by omega) (by rfl) (by rfl) (by rfl) ?_
  rw [e]
  refine c_iff (by decide) ?_
  refine c_pi (by omega) (by rfl) (by rfl) (by rfl) (xPok_int (by decide) (by rfl)) ?_
  refine c_gi (by omega) (by rfl) (by rfl) (by rfl) ?_
  rw [sI_eq ⟨rfl, rfl⟩]
  exact c_iff (by decide) rfl
theorem req_in (e : m.1 0 12 = 1) : xM S mX12_requireComparison [.ref 0] (E W H n m) = some (.inl none, E W H n m, 0, 0) := by
  refine w_X12_requireComparison S _ _ _ ?_
  refine c_gi (by omega) (by rfl) (by rfl) (by rfl) ?_
  rw [e]
  exact c_ift (by decide) rfl
theorem req_no (e : m.1 0 12 = 0) : xM S mX12_requireComparison [.ref 0] (E W H n m) = some (.inr sIS, E W H n m, 1, 6) := by
  refine w_X12_requireComparison S _ _ _ ?_
  refine c_gi (by omega) (by rfl) (by rfl) (by rfl) ?_
  rw [e]
  exact c_iff (by decide) rfl
theorem creg_in (e : m.1 0 12 = 1) : xM S mX12_registration [.ref 0] (E W H n m) = some (.inl (some (.ref 82)), E W H n m, 0, 0) := by
  refine w_X12_registration S _ _ _ ?_
  refine c_ob (by omega) (by rfl) ?_
  refine c_qV (req_in e) ?_
  refine c_gr (by omega) (by rfl) (by rfl) (by rfl) ?_
  refine c_gr (by omega) (by rfl) (by rfl) (by rfl) ?_
  rfl
theorem cshiftX_in (e : m.1 0 12 = 1) : xM S mX12_shiftX [.ref 0] (E W H n m) = some (.inl (some (.int (m.1 82 6))), E W H n m, 0, 0) := by
  refine w_X12_shiftX S _ _ _ ?_
  refine c_ob (by omega) (by rfl) ?_
  refine c_qR (creg_in e) ?_
  refine c_gi (by omega) (by rfl) (by rfl) (by rfl) ?_
  rfl
theorem mshiftX_in (e : m.1 90 35 = 1) : xM S mX13_shiftX [.ref 90] (E W H n m) = some (.inl (some (.int (m.1 90 41))), E W H n (sI m 90 2 0), 0, 0) := by
  refine w_X13_shiftX S _ _ _ ?_
  refine c_gi (by omega) (by rfl) (by rfl) (by rfl) ?_
  refine c_ob (by omega) (by rfl) ?_
  refine c_qI (told_in e _) ?_
  rfl
end GE

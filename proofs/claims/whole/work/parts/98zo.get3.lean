/-! GETTERS: a region, a change of a number; out of range -/
section GH
variable {S : xS} {W H n : Nat} {m : mM}
theorem lacks_out (e : m.1 90 35 = 1) {c : Nat} (hc : c < 100000) {x : Int32} (h : ¬ (0 ≤ x.toInt ∧ x.toInt < c)) : xM S mX13_lacks [.ref 90, .int x, .int (nI c)] (E W H n m) = some (.inl (some (.int 1)), E W H n (sI m 90 2 2), 0, 0) := by
  have sb : (nI c - (1 : Int32)).toInt = (c : Int) - 1 := by
    rw [← zI_n (by omega), show (1 : Int32) = zI 1 from rfl, zI_sub (by omega) (by omega) (by omega) (by omega), zI_t (by omega) (by omega)]
  have i1 := in_s S (E W H n m) x.toInt64 0 (nI c - (1 : Int32)).toInt64
  rw [Int32.toInt_toInt64, Int32.toInt_toInt64, sb, show (0 : Int64).toInt = 0 from rfl, decide_eq_false (by omega)] at i1
  refine w_X13_lacks S _ _ _ _ _ ?_
  refine c_gi (by omega) (by rfl) (by rfl) (by rfl) ?_
  rw [e]
  refine c_ift (by decide) ?_
  refine c_qI i1 ?_
  refine c_ift rfl ?_
  refine c_pi (by omega) (by rfl) (by rfl) (by rfl) (xPok_int (by decide) (by rfl)) ?_
  refine c_gi (by omega) (by rfl) (by rfl) (by rfl) ?_
  rw [sI_eq ⟨rfl, rfl⟩]
  exact c_iff (by decide) rfl
theorem regionOf_in (e : m.1 0 12 = 1) {c i : Nat} (hc : c ≤ 256) (e17 : m.1 64 17 = nI c) (hi : i < c) {R : Nat} (er : m.2.2 70 i = some R) : xM S mX12_regionOf [.ref 0, .int (nI i)] (E W H n m) = some (.inl (some (.ref R)), E W H n m, 0, 0) := by
  have k : xM S mX1_regionNumbered [.ref 64, .int (nI i)] (E W H n m) = some (.inl (some (.ref R)), E W H n m, 0, 0) := by
    refine w_X1_regionNumbered S _ _ _ _ ?_
    refine c_iff (nI_pos (by omega)) ?_
    refine c_gi (by omega) (by rfl) (by rfl) (by rfl) ?_
    rw [e17]
    refine c_iff (fun w => by have := (nI_leI (by omega) (by omega)).mp w; omega) ?_
    refine c_gr (by omega) (by rfl) (by rfl) (by rfl) ?_
    refine c_rz (by omega) (by rfl) (show 256 = eL H 70 from rfl) ?_
    refine c_iff (fun w => by have := (nI_leI (by omega) (by omega)).mp w; omega) ?_
    refine c_gr (by omega) (by rfl) (by rfl) (by rfl) ?_
    refine c_rr (i := i) (by omega) (by rfl) (by decide) (by rfl) (by first | omega | ((conv => rhs; whnf); first | omega | (show _ < OfNat.ofNat (α := Nat) _; omega))) (by first | omega | ((conv => lhs; whnf); first | omega | (show OfNat.ofNat (α := Nat) _ < _; omega))) er ?_
    rfl
  refine w_X12_regionOf S _ _ _ _ ?_
  refine c_ob (by omega) (by rfl) ?_
  refine c_qV (req_in e) ?_
  refine c_gr (by omega) (by rfl) (by rfl) (by rfl) ?_
  refine c_ob (by omega) (by rfl) ?_
  exact k_N k rfl
theorem changeOf_in (e : m.1 0 12 = 1) {c i : Nat} (hc : c ≤ 256) (e19 : m.1 64 19 = nI c) (hi : i < c) {R : Nat} (er : m.2.2 71 i = some R) : xM S mX12_changeOf [.ref 0, .int (nI i)] (E W H n m) = some (.inl (some (.ref R)), E W H n m, 0, 0) := by
  have k : xM S mX1_changeNumbered [.ref 64, .int (nI i)] (E W H n m) = some (.inl (some (.ref R)), E W H n m, 0, 0) := by
    refine w_X1_changeNumbered S _ _ _ _ ?_
    refine c_iff (nI_pos (by omega)) ?_
    refine c_gi (by omega) (by rfl) (by rfl) (by rfl) ?_
    rw [e19]
    refine c_iff (fun w => by have := (nI_leI (by omega) (by omega)).mp w; omega) ?_
    refine c_gr (by omega) (by rfl) (by rfl) (by rfl) ?_
    refine c_rz (by omega) (by rfl) (show 512 = eL H 71 from rfl) ?_
    refine c_iff (fun w => by have := (nI_leI (by omega) (by omega)).mp w; omega) ?_
    refine c_gr (by omega) (by rfl) (by rfl) (by rfl) ?_
    refine c_rr (i := i) (by omega) (by rfl) (by decide) (by rfl) (by first | omega | ((conv => rhs; whnf); first | omega | (show _ < OfNat.ofNat (α := Nat) _; omega))) (by first | omega | ((conv => lhs; whnf); first | omega | (show OfNat.ofNat (α := Nat) _ < _; omega))) er ?_
    rfl
  refine w_X12_changeOf S _ _ _ _ ?_
  refine c_ob (by omega) (by rfl) ?_
  refine c_qV (req_in e) ?_
  refine c_gr (by omega) (by rfl) (by rfl) (by rfl) ?_
  refine c_ob (by omega) (by rfl) ?_
  exact k_N k rfl
theorem regionOf_no (e : m.1 0 12 = 0) (x : Int32) : xM S mX12_regionOf [.ref 0, .int x] (E W H n m) = some (.inr sIS, E W H n m, 1, 6) := by
  refine w_X12_regionOf S _ _ _ _ ?_
  refine c_ob (by omega) (by rfl) ?_
  rw [req_no e]
  rfl
theorem changeOf_no (e : m.1 0 12 = 0) (x : Int32) : xM S mX12_changeOf [.ref 0, .int x] (E W H n m) = some (.inr sIS, E W H n m, 1, 6) := by
  refine w_X12_changeOf S _ _ _ _ ?_
  refine c_ob (by omega) (by rfl) ?_
  rw [req_no e]
  rfl
end GH

/-! GETTERS: out of range; the boxes of regions -/
section GI
variable {S : xS} {W H n : Nat} {m : mM}
theorem regionOf_out (e : m.1 0 12 = 1) {c : Nat} (hc : c ≤ 256) (ef : m.1 64 17 = nI c) {x : Int32} (h : ¬ (0 ≤ x.toInt ∧ x.toInt < c)) : xM S mX12_regionOf [.ref 0, .int x] (E W H n m) = some (.inr sIO, E W H n m, 1, 6) := by
  have k : xM S mX1_regionNumbered [.ref 64, .int x] (E W H n m) = some (.inl (some .null), E W H n m, 0, 0) := by
    refine w_X1_regionNumbered S _ _ _ _ ?_
    by_cases c0 : x.toInt < 0
    · exact c_ift ((i_lt0 x).mpr c0) rfl
    · refine c_iff (fun w => c0 ((i_lt0 x).mp w)) ?_
      refine c_gi (by omega) (by rfl) (by rfl) (by rfl) ?_
      rw [ef]
      exact c_ift (by rw [fa_le, nI_toInt (by omega)]; omega) rfl
  refine w_X12_regionOf S _ _ _ _ ?_
  refine c_ob (by omega) (by rfl) ?_
  refine c_qV (req_in e) ?_
  refine c_gr (by omega) (by rfl) (by rfl) (by rfl) ?_
  refine c_ob (by omega) (by rfl) ?_
  rw [k]
  rfl
theorem changeOf_out (e : m.1 0 12 = 1) {c : Nat} (hc : c ≤ 256) (ef : m.1 64 19 = nI c) {x : Int32} (h : ¬ (0 ≤ x.toInt ∧ x.toInt < c)) : xM S mX12_changeOf [.ref 0, .int x] (E W H n m) = some (.inr sIO, E W H n m, 1, 6) := by
  have k : xM S mX1_changeNumbered [.ref 64, .int x] (E W H n m) = some (.inl (some .null), E W H n m, 0, 0) := by
    refine w_X1_changeNumbered S _ _ _ _ ?_
    by_cases c0 : x.toInt < 0
    · exact c_ift ((i_lt0 x).mpr c0) rfl
    · refine c_iff (fun w => c0 ((i_lt0 x).mp w)) ?_
      refine c_gi (by omega) (by rfl) (by rfl) (by rfl) ?_
      rw [ef]
      exact c_ift (by rw [fa_le, nI_toInt (by omega)]; omega) rfl
  refine w_X12_changeOf S _ _ _ _ ?_
  refine c_ob (by omega) (by rfl) ?_
  refine c_qV (req_in e) ?_
  refine c_gr (by omega) (by rfl) (by rfl) (by rfl) ?_
  refine c_ob (by omega) (by rfl) ?_
  rw [k]
  rfl
theorem cregionLeft_in (e : m.1 0 12 = 1) {c i q : Nat} (hc : c ≤ 256) (e17 : m.1 64 17 = nI c) (hi : i < c) (er : m.2.2 70 i = some (147 + 5 * q)) (hq : q < n) : xM S mX12_regionLeft [.ref 0, .int (nI i)] (E W H n m) = some (.inl (some (.int (m.1 (147 + 5 * q) 2))), E W H n m, 0, 0) := by
  refine w_X12_regionLeft S _ _ _ _ ?_
  refine c_ob (by omega) (by rfl) ?_
  refine c_qR (regionOf_in e hc e17 hi er) ?_
  refine c_gi (by omega) (eK_R _) (by rfl) (by rfl) ?_
  rfl
theorem mregionLeft_in (e : m.1 90 35 = 1) {c i q : Nat} (hc : c ≤ 256) (e59 : m.1 90 59 = nI c) (hi : i < c) (er : m.1 129 i = nI q) (hq : q < c) : xM S mX13_regionLeft [.ref 90, .int (nI i)] (E W H n m) = some (.inl (some (.int (m.1 125 q))), E W H n (sI m 90 2 0), 0, 0) := by
  refine w_X13_regionLeft S _ _ _ _ ?_
  refine c_gi (by omega) (by rfl) (by rfl) (by rfl) ?_
  rw [e59]
  refine c_ob (by omega) (by rfl) ?_
  refine c_qI (lacks_in e (by omega) (by rw [nI_toInt (by omega)]; omega)) ?_
  refine c_ift rfl ?_
  refine c_gr (by omega) (by rfl) (by rfl) (by rfl) ?_
  refine c_gr (by omega) (by rfl) (by rfl) (by rfl) ?_
  refine c_ri (i := i) (by omega) (by rfl) (by rfl) (by rfl) (by first | omega | ((conv => rhs; whnf); first | omega | (show _ < OfNat.ofNat (α := Nat) _; omega))) (by first | omega | ((conv => lhs; whnf); first | omega | (show OfNat.ofNat (α := Nat) _ < _; omega))) (by decide) ?_
  rw [sI_ne (by omega), show m.1 (90 + 39) i = nI q from er]
  refine c_ri (i := q) (by omega) (by rfl) (by rfl) (by rfl) (by first | omega | ((conv => rhs; whnf); first | omega | (show _ < OfNat.ofNat (α := Nat) _; omega))) (by first | omega | ((conv => lhs; whnf); first | omega | (show OfNat.ofNat (α := Nat) _ < _; omega))) (by decide) ?_
  rw [sI_ne (by omega)]
theorem cregionTop_in (e : m.1 0 12 = 1) {c i q : Nat} (hc : c ≤ 256) (e17 : m.1 64 17 = nI c) (hi : i < c) (er : m.2.2 70 i = some (147 + 5 * q)) (hq : q < n) : xM S mX12_regionTop [.ref 0, .int (nI i)] (E W H n m) = some (.inl (some (.int (m.1 (147 + 5 * q) 3))), E W H n m, 0, 0) := by
  refine w_X12_regionTop S _ _ _ _ ?_
  refine c_ob (by omega) (by rfl) ?_
  refine c_qR (regionOf_in e hc e17 hi er) ?_
  refine c_gi (by omega) (eK_R _) (by rfl) (by rfl) ?_
  rfl
theorem mregionTop_in (e : m.1 90 35 = 1) {c i q : Nat} (hc : c ≤ 256) (e59 : m.1 90 59 = nI c) (hi : i < c) (er : m.1 129 i = nI q) (hq : q < c) : xM S mX13_regionTop [.ref 90, .int (nI i)] (E W H n m) = some (.inl (some (.int (m.1 126 q))), E W H n (sI m 90 2 0), 0, 0) := by
  refine w_X13_regionTop S _ _ _ _ ?_
  refine c_gi (by omega) (by rfl) (by rfl) (by rfl) ?_
  rw [e59]
  refine c_ob (by omega) (by rfl) ?_
  refine c_qI (lacks_in e (by omega) (by rw [nI_toInt (by omega)]; omega)) ?_
  refine c_ift rfl ?_
  refine c_gr (by omega) (by rfl) (by rfl) (by rfl) ?_
  refine c_gr (by omega) (by rfl) (by rfl) (by rfl) ?_
  refine c_ri (i := i) (by omega) (by rfl) (by rfl) (by rfl) (by first | omega | ((conv => rhs; whnf); first | omega | (show _ < OfNat.ofNat (α := Nat) _; omega))) (by first | omega | ((conv => lhs; whnf); first | omega | (show OfNat.ofNat (α := Nat) _ < _; omega))) (by decide) ?_
  rw [sI_ne (by omega), show m.1 (90 + 39) i = nI q from er]
  refine c_ri (i := q) (by omega) (by rfl) (by rfl) (by rfl) (by first | omega | ((conv => rhs; whnf); first | omega | (show _ < OfNat.ofNat (α := Nat) _; omega))) (by first | omega | ((conv => lhs; whnf); first | omega | (show OfNat.ofNat (α := Nat) _ < _; omega))) (by decide) ?_
  rw [sI_ne (by omega)]
theorem cregionRight_in (e : m.1 0 12 = 1) {c i q : Nat} (hc : c ≤ 256) (e17 : m.1 64 17 = nI c) (hi : i < c) (er : m.2.2 70 i = some (147 + 5 * q)) (hq : q < n) : xM S mX12_regionRight [.ref 0, .int (nI i)] (E W H n m) = some (.inl (some (.int (m.1 (147 + 5 * q) 4))), E W H n m, 0, 0) := by
  refine w_X12_regionRight S _ _ _ _ ?_
  refine c_ob (by omega) (by rfl) ?_
  refine c_qR (regionOf_in e hc e17 hi er) ?_
  refine c_gi (by omega) (eK_R _) (by rfl) (by rfl) ?_
  rfl
theorem mregionRight_in (e : m.1 90 35 = 1) {c i q : Nat} (hc : c ≤ 256) (e59 : m.1 90 59 = nI c) (hi : i < c) (er : m.1 129 i = nI q) (hq : q < c) : xM S mX13_regionRight [.ref 90, .int (nI i)] (E W H n m) = some (.inl (some (.int (m.1 127 q))), E W H n (sI m 90 2 0), 0, 0) := by
  refine w_X13_regionRight S _ _ _ _ ?_
  refine c_gi (by omega) (by rfl) (by rfl) (by rfl) ?_
  rw [e59]
  refine c_ob (by omega) (by rfl) ?_
  refine c_qI (lacks_in e (by omega) (by rw [nI_toInt (by omega)]; omega)) ?_
  refine c_ift rfl ?_
  refine c_gr (by omega) (by rfl) (by rfl) (by rfl) ?_
  refine c_gr (by omega) (by rfl) (by rfl) (by rfl) ?_
  refine c_ri (i := i) (by omega) (by rfl) (by rfl) (by rfl) (by first | omega | ((conv => rhs; whnf); first | omega | (show _ < OfNat.ofNat (α := Nat) _; omega))) (by first | omega | ((conv => lhs; whnf); first | omega | (show OfNat.ofNat (α := Nat) _ < _; omega))) (by decide) ?_
  rw [sI_ne (by omega), show m.1 (90 + 39) i = nI q from er]
  refine c_ri (i := q) (by omega) (by rfl) (by rfl) (by rfl) (by first | omega | ((conv => rhs; whnf); first | omega | (show _ < OfNat.ofNat (α := Nat) _; omega))) (by first | omega | ((conv => lhs; whnf); first | omega | (show OfNat.ofNat (α := Nat) _ < _; omega))) (by decide) ?_
  rw [sI_ne (by omega)]
theorem cregionBottom_in (e : m.1 0 12 = 1) {c i q : Nat} (hc : c ≤ 256) (e17 : m.1 64 17 = nI c) (hi : i < c) (er : m.2.2 70 i = some (147 + 5 * q)) (hq : q < n) : xM S mX12_regionBottom [.ref 0, .int (nI i)] (E W H n m) = some (.inl (some (.int (m.1 (147 + 5 * q) 5))), E W H n m, 0, 0) := by
  refine w_X12_regionBottom S _ _ _ _ ?_
  refine c_ob (by omega) (by rfl) ?_
  refine c_qR (regionOf_in e hc e17 hi er) ?_
  refine c_gi (by omega) (eK_R _) (by rfl) (by rfl) ?_
  rfl
theorem mregionBottom_in (e : m.1 90 35 = 1) {c i q : Nat} (hc : c ≤ 256) (e59 : m.1 90 59 = nI c) (hi : i < c) (er : m.1 129 i = nI q) (hq : q < c) : xM S mX13_regionBottom [.ref 90, .int (nI i)] (E W H n m) = some (.inl (some (.int (m.1 128 q))), E W H n (sI m 90 2 0), 0, 0) := by
  refine w_X13_regionBottom S _ _ _ _ ?_
  refine c_gi (by omega) (by rfl) (by rfl) (by rfl) ?_
  rw [e59]
  refine c_ob (by omega) (by rfl) ?_
  refine c_qI (lacks_in e (by omega) (by rw [nI_toInt (by omega)]; omega)) ?_
  refine c_ift rfl ?_
  refine c_gr (by omega) (by rfl) (by rfl) (by rfl) ?_
  refine c_gr (by omega) (by rfl) (by rfl) (by rfl) ?_
  refine c_ri (i := i) (by omega) (by rfl) (by rfl) (by rfl) (by first | omega | ((conv => rhs; whnf); first | omega | (show _ < OfNat.ofNat (α := Nat) _; omega))) (by first | omega | ((conv => lhs; whnf); first | omega | (show OfNat.ofNat (α := Nat) _ < _; omega))) (by decide) ?_
  rw [sI_ne (by omega), show m.1 (90 + 39) i = nI q from er]
  refine c_ri (i := q) (by omega) (by rfl) (by rfl) (by rfl) (by first | omega | ((conv => rhs; whnf); first | omega | (show _ < OfNat.ofNat (α := Nat) _; omega))) (by first | omega | ((conv => lhs; whnf); first | omega | (show OfNat.ofNat (α := Nat) _ < _; omega))) (by decide) ?_
  rw [sI_ne (by omega)]
end GI

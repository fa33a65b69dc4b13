/-! GETTERS: pixels of a region; pixels, line, region of a change; without a comparison, out of range -/
section GJ
variable {S : xS} {W H n : Nat} {m : mM}
theorem cmissingPixels_in (e : m.1 0 12 = 1) {c i q : Nat} (hc : c ≤ 256) (e17 : m.1 64 17 = nI c) (hi : i < c) (er : m.2.2 70 i = some (147 + 5 * q)) (hq : q < n) : xM S mX12_missingPixels [.ref 0, .int (nI i)] (E W H n m) = some (.inl (some (.int (m.1 (147 + 5 * q + 1) 6))), E W H n m, 0, 0) := by
  refine w_X12_missingPixels S _ _ _ _ ?_
  refine c_ob (by omega) (by rfl) ?_
  refine c_qR (regionOf_in e hc e17 hi er) ?_
  refine c_gr (o := 1) (by omega) (eK_R _) (by rfl) (by rfl) ?_
  refine c_gi (by omega) (show eK (147 + 5 * q + 1) = (0, 5) from eK_reg q 1 (by decide)) (by rfl) (by rfl) ?_
  rfl
theorem mmissingPixels_in (e : m.1 90 35 = 1) {c i : Nat} (hc : c ≤ 256) (e59 : m.1 90 59 = nI c) (hi : i < c) : xM S mX13_missingPixels [.ref 90, .int (nI i)] (E W H n m) = some (.inl (some (.int (m.1 135 (2 * i)))), E W H n (sI m 90 2 0), 0, 0) := by
  refine w_X13_missingPixels S _ _ _ _ ?_
  refine c_gi (by omega) (by rfl) (by rfl) (by rfl) ?_
  rw [e59]
  refine c_ob (by omega) (by rfl) ?_
  refine c_qI (lacks_in e (by omega) (by rw [nI_toInt (by omega)]; omega)) ?_
  refine c_ift rfl ?_
  refine c_gr (by omega) (by rfl) (by rfl) (by rfl) ?_
  rw [show (2 : Int32) * nI i = nI (2 * i) from pk_mul 2 i]
  refine c_ri (i := 2 * i) (by omega) (by rfl) (by rfl) (by rfl) (by first | omega | ((conv => rhs; whnf); first | omega | (show _ < OfNat.ofNat (α := Nat) _; omega))) (by first | omega | ((conv => lhs; whnf); first | omega | (show OfNat.ofNat (α := Nat) _ < _; omega))) (by decide) ?_
  rw [sI_ne (by omega)]
theorem caddedPixels_in (e : m.1 0 12 = 1) {c i q : Nat} (hc : c ≤ 256) (e17 : m.1 64 17 = nI c) (hi : i < c) (er : m.2.2 70 i = some (147 + 5 * q)) (hq : q < n) : xM S mX12_addedPixels [.ref 0, .int (nI i)] (E W H n m) = some (.inl (some (.int (m.1 (147 + 5 * q + 3) 6))), E W H n m, 0, 0) := by
  refine w_X12_addedPixels S _ _ _ _ ?_
  refine c_ob (by omega) (by rfl) ?_
  refine c_qR (regionOf_in e hc e17 hi er) ?_
  refine c_gr (o := 3) (by omega) (eK_R _) (by rfl) (by rfl) ?_
  refine c_gi (by omega) (show eK (147 + 5 * q + 3) = (0, 5) from eK_reg q 3 (by decide)) (by rfl) (by rfl) ?_
  rfl
theorem maddedPixels_in (e : m.1 90 35 = 1) {c i : Nat} (hc : c ≤ 256) (e59 : m.1 90 59 = nI c) (hi : i < c) : xM S mX13_addedPixels [.ref 90, .int (nI i)] (E W H n m) = some (.inl (some (.int (m.1 135 (2 * i + 1)))), E W H n (sI m 90 2 0), 0, 0) := by
  refine w_X13_addedPixels S _ _ _ _ ?_
  refine c_gi (by omega) (by rfl) (by rfl) (by rfl) ?_
  rw [e59]
  refine c_ob (by omega) (by rfl) ?_
  refine c_qI (lacks_in e (by omega) (by rw [nI_toInt (by omega)]; omega)) ?_
  refine c_ift rfl ?_
  refine c_gr (by omega) (by rfl) (by rfl) (by rfl) ?_
  rw [show (2 : Int32) * nI i + (1 : Int32) = nI (2 * i + 1) from by rw [show (2 : Int32) * nI i = nI (2 * i) from pk_mul 2 i, nI_suc]]
  refine c_ri (i := 2 * i + 1) (by omega) (by rfl) (by rfl) (by rfl) (by first | omega | ((conv => rhs; whnf); first | omega | (show _ < OfNat.ofNat (α := Nat) _; omega))) (by first | omega | ((conv => lhs; whnf); first | omega | (show OfNat.ofNat (α := Nat) _ < _; omega))) (by decide) ?_
  rw [sI_ne (by omega)]
theorem cchangePixels_in (e : m.1 0 12 = 1) {c i p : Nat} (hc : c ≤ 256) (e19 : m.1 64 19 = nI c) (hi : i < c) (er : m.2.2 71 i = some p) (I : ptA p n) : xM S mX12_changePixels [.ref 0, .int (nI i)] (E W H n m) = some (.inl (some (.int (m.1 p 6))), E W H n m, 0, 0) := by
  refine w_X12_changePixels S _ _ _ _ ?_
  refine c_ob (by omega) (by rfl) ?_
  refine c_qR (changeOf_in e hc e19 hi er) ?_
  refine c_gi (by have := I.2.2; omega) I.1 (by rfl) (by rfl) ?_
  rfl
theorem cchangeLine_in (e : m.1 0 12 = 1) {c i p : Nat} (hc : c ≤ 256) (e19 : m.1 64 19 = nI c) (hi : i < c) (er : m.2.2 71 i = some p) (I : ptA p n) : xM S mX12_changeLine [.ref 0, .int (nI i)] (E W H n m) = some (.inl (some (.int (m.1 p 9))), E W H n m, 0, 0) := by
  refine w_X12_changeLine S _ _ _ _ ?_
  refine c_ob (by omega) (by rfl) ?_
  refine c_qR (changeOf_in e hc e19 hi er) ?_
  refine c_gi (by have := I.2.2; omega) I.1 (by rfl) (by rfl) ?_
  rfl
theorem cchangeRegion_in (e : m.1 0 12 = 1) {c i p : Nat} (hc : c ≤ 256) (e19 : m.1 64 19 = nI c) (hi : i < c) (er : m.2.2 71 i = some p) (I : ptA p n) : xM S mX12_changeRegion [.ref 0, .int (nI i)] (E W H n m) = some (.inl (some (.int (m.1 p 7))), E W H n m, 0, 0) := by
  refine w_X12_changeRegion S _ _ _ _ ?_
  refine c_ob (by omega) (by rfl) ?_
  refine c_qR (changeOf_in e hc e19 hi er) ?_
  refine c_gi (by have := I.2.2; omega) I.1 (by rfl) (by rfl) ?_
  rfl
theorem mchangePixels_in (e : m.1 90 35 = 1) {c i p : Nat} (hc : c ≤ 256) (e79 : m.1 90 79 = nI c) (hi : i < c) (er : m.1 141 i = nI p) (hp : p < 512) : xM S mX13_changePixels [.ref 90, .int (nI i)] (E W H n m) = some (.inl (some (.int (m.1 135 p))), E W H n (sI m 90 2 0), 0, 0) := by
  refine w_X13_changePixels S _ _ _ _ ?_
  refine c_gi (by omega) (by rfl) (by rfl) (by rfl) ?_
  rw [e79]
  refine c_ob (by omega) (by rfl) ?_
  refine c_qI (lacks_in e (by omega) (by rw [nI_toInt (by omega)]; omega)) ?_
  refine c_ift rfl ?_
  refine c_gr (by omega) (by rfl) (by rfl) (by rfl) ?_
  refine c_gr (by omega) (by rfl) (by rfl) (by rfl) ?_
  refine c_ri (i := i) (by omega) (by rfl) (by rfl) (by rfl) (by first | omega | ((conv => rhs; whnf); first | omega | (show _ < OfNat.ofNat (α := Nat) _; omega))) (by first | omega | ((conv => lhs; whnf); first | omega | (show OfNat.ofNat (α := Nat) _ < _; omega))) (by decide) ?_
  rw [sI_ne (by omega), show m.1 (90 + 51) i = nI p from er]
  refine c_ri (i := p) (by omega) (by rfl) (by rfl) (by rfl) (by first | omega | ((conv => rhs; whnf); first | omega | (show _ < OfNat.ofNat (α := Nat) _; omega))) (by first | omega | ((conv => lhs; whnf); first | omega | (show OfNat.ofNat (α := Nat) _ < _; omega))) (by decide) ?_
  rw [sI_ne (by omega)]
theorem mchangeLine_in (e : m.1 90 35 = 1) {c i : Nat} (hc : c ≤ 256) (e79 : m.1 90 79 = nI c) (hi : i < c) : xM S mX13_changeLine [.ref 90, .int (nI i)] (E W H n m) = some (.inl (some (.int (m.1 143 i))), E W H n (sI m 90 2 0), 0, 0) := by
  refine w_X13_changeLine S _ _ _ _ ?_
  refine c_gi (by omega) (by rfl) (by rfl) (by rfl) ?_
  rw [e79]
  refine c_ob (by omega) (by rfl) ?_
  refine c_qI (lacks_in e (by omega) (by rw [nI_toInt (by omega)]; omega)) ?_
  refine c_ift rfl ?_
  refine c_gr (by omega) (by rfl) (by rfl) (by rfl) ?_
  refine c_ri (i := i) (by omega) (by rfl) (by rfl) (by rfl) (by first | omega | ((conv => rhs; whnf); first | omega | (show _ < OfNat.ofNat (α := Nat) _; omega))) (by first | omega | ((conv => lhs; whnf); first | omega | (show OfNat.ofNat (α := Nat) _ < _; omega))) (by decide) ?_
  rw [sI_ne (by omega)]
theorem mchangeRegion_in (e : m.1 90 35 = 1) {c i p : Nat} (hc : c ≤ 256) (e79 : m.1 90 79 = nI c) (hi : i < c) (er : m.1 141 i = nI p) (hp : p < 512) : xM S mX13_changeRegion [.ref 90, .int (nI i)] (E W H n m) = some (.inl (some (.int (nI (p / 2)))), E W H n (sI m 90 2 0), 0, 0) := by
  refine w_X13_changeRegion S _ _ _ _ ?_
  refine c_gi (by omega) (by rfl) (by rfl) (by rfl) ?_
  rw [e79]
  refine c_ob (by omega) (by rfl) ?_
  refine c_qI (lacks_in e (by omega) (by rw [nI_toInt (by omega)]; omega)) ?_
  refine c_ift rfl ?_
  refine c_gr (by omega) (by rfl) (by rfl) (by rfl) ?_
  refine c_ri (i := i) (by omega) (by rfl) (by rfl) (by rfl) (by first | omega | ((conv => rhs; whnf); first | omega | (show _ < OfNat.ofNat (α := Nat) _; omega))) (by first | omega | ((conv => lhs; whnf); first | omega | (show OfNat.ofNat (α := Nat) _ < _; omega))) (by decide) ?_
  rw [sI_ne (by omega), show m.1 (90 + 51) i = nI p from er, show nI p / (2 : Int32) = nI (p / 2) from n_div (by omega) (by decide) (by decide)]
theorem cregionLeft_no (e : m.1 0 12 = 0) (x : Int32) : xM S mX12_regionLeft [.ref 0, .int x] (E W H n m) = some (.inr sIS, E W H n m, 1, 6) := by
  refine w_X12_regionLeft S _ _ _ _ ?_
  refine c_ob (by omega) (by rfl) ?_
  rw [regionOf_no e]
  rfl
theorem cregionLeft_out (e : m.1 0 12 = 1) {c : Nat} (hc : c ≤ 256) (ef : m.1 64 17 = nI c) {x : Int32} (h : ¬ (0 ≤ x.toInt ∧ x.toInt < c)) : xM S mX12_regionLeft [.ref 0, .int x] (E W H n m) = some (.inr sIO, E W H n m, 1, 6) := by
  refine w_X12_regionLeft S _ _ _ _ ?_
  refine c_ob (by omega) (by rfl) ?_
  rw [regionOf_out e hc ef h]
  rfl
theorem mregionLeft_no (e : m.1 90 35 = 0) (x : Int32) : xM S mX13_regionLeft [.ref 90, .int x] (E W H n m) = some (.inl (some (.int 0)), E W H n (sI m 90 2 1), 0, 0) := by
  refine w_X13_regionLeft S _ _ _ _ ?_
  refine c_gi (by omega) (by rfl) (by rfl) (by rfl) ?_
  refine c_ob (by omega) (by rfl) ?_
  refine c_qI (lacks_no e _ _) ?_
  exact c_iff (by decide) rfl
theorem mregionLeft_out (e : m.1 90 35 = 1) {c : Nat} (hc : c ≤ 256) (ef : m.1 90 59 = nI c) {x : Int32} (h : ¬ (0 ≤ x.toInt ∧ x.toInt < c)) : xM S mX13_regionLeft [.ref 90, .int x] (E W H n m) = some (.inl (some (.int 0)), E W H n (sI m 90 2 2), 0, 0) := by
  refine w_X13_regionLeft S _ _ _ _ ?_
  refine c_gi (by omega) (by rfl) (by rfl) (by rfl) ?_
  rw [ef]
  refine c_ob (by omega) (by rfl) ?_
  refine c_qI (lacks_out e (by omega) h) ?_
  exact c_iff (by decide) rfl
theorem cregionTop_no (e : m.1 0 12 = 0) (x : Int32) : xM S mX12_regionTop [.ref 0, .int x] (E W H n m) = some (.inr sIS, E W H n m, 1, 6) := by
  refine w_X12_regionTop S _ _ _ _ ?_
  refine c_ob (by omega) (by rfl) ?_
  rw [regionOf_no e]
  rfl
theorem cregionTop_out (e : m.1 0 12 = 1) {c : Nat} (hc : c ≤ 256) (ef : m.1 64 17 = nI c) {x : Int32} (h : ¬ (0 ≤ x.toInt ∧ x.toInt < c)) : xM S mX12_regionTop [.ref 0, .int x] (E W H n m) = some (.inr sIO, E W H n m, 1, 6) := by
  refine w_X12_regionTop S _ _ _ _ ?_
  refine c_ob (by omega) (by rfl) ?_
  rw [regionOf_out e hc ef h]
  rfl
theorem mregionTop_no (e : m.1 90 35 = 0) (x : Int32) : xM S mX13_regionTop [.ref 90, .int x] (E W H n m) = some (.inl (some (.int 0)), E W H n (sI m 90 2 1), 0, 0) := by
  refine w_X13_regionTop S _ _ _ _ ?_
  refine c_gi (by omega) (by rfl) (by rfl) (by rfl) ?_
  refine c_ob (by omega) (by rfl) ?_
  refine c_qI (lacks_no e _ _) ?_
  exact c_iff (by decide) rfl
theorem mregionTop_out (e : m.1 90 35 = 1) {c : Nat} (hc : c ≤ 256) (ef : m.1 90 59 = nI c) {x : Int32} (h : ¬ (0 ≤ x.toInt ∧ x.toInt < c)) : xM S mX13_regionTop [.ref 90, .int x] (E W H n m) = some (.inl (some (.int 0)), E W H n (sI m 90 2 2), 0, 0) := by
  refine w_X13_regionTop S _ _ _ _ ?_
  refine c_gi (by omega) (by rfl) (by rfl) (by rfl) ?_
  rw [ef]
  refine c_ob (by omega) (by rfl) ?_
  refine c_qI (lacks_out e (by omega) h) ?_
  exact c_iff (by decide) rfl
theorem cregionRight_no (e : m.1 0 12 = 0) (x : Int32) : xM S mX12_regionRight [.ref 0, .int x] (E W H n m) = some (.inr sIS, E W H n m, 1, 6) := by
  refine w_X12_regionRight S _ _ _ _ ?_
  refine c_ob (by omega) (by rfl) ?_
  rw [regionOf_no e]
  rfl
theorem cregionRight_out (e : m.1 0 12 = 1) {c : Nat} (hc : c ≤ 256) (ef : m.1 64 17 = nI c) {x : Int32} (h : ¬ (0 ≤ x.toInt ∧ x.toInt < c)) : xM S mX12_regionRight [.ref 0, .int x] (E W H n m) = some (.inr sIO, E W H n m, 1, 6) := by
  refine w_X12_regionRight S _ _ _ _ ?_
  refine c_ob (by omega) (by rfl) ?_
  rw [regionOf_out e hc ef h]
  rfl
theorem mregionRight_no (e : m.1 90 35 = 0) (x : Int32) : xM S mX13_regionRight [.ref 90, .int x] (E W H n m) = some (.inl (some (.int 0)), E W H n (sI m 90 2 1), 0, 0) := by
  refine w_X13_regionRight S _ _ _ _ ?_
  refine c_gi (by omega) (by rfl) (by rfl) (by rfl) ?_
  refine c_ob (by omega) (by rfl) ?_
  refine c_qI (lacks_no e _ _) ?_
  exact c_iff (by decide) rfl
theorem mregionRight_out (e : m.1 90 35 = 1) {c : Nat} (hc : c ≤ 256) (ef : m.1 90 59 = nI c) {x : Int32} (h : ¬ (0 ≤ x.toInt ∧ x.toInt < c)) : xM S mX13_regionRight [.ref 90, .int x] (E W H n m) = some (.inl (some (.int 0)), E W H n (sI m 90 2 2), 0, 0) := by
  refine w_X13_regionRight S _ _ _ _ ?_
  refine c_gi (by omega) (by rfl) (by rfl) (by rfl) ?_
  rw [ef]
  refine c_ob (by omega) (by rfl) ?_
  refine c_qI (lacks_out e (by omega) h) ?_
  exact c_iff (by decide) rfl
theorem cregionBottom_no (e : m.1 0 12 = 0) (x : Int32) : xM S mX12_regionBottom [.ref 0, .int x] (E W H n m) = some (.inr sIS, E W H n m, 1, 6) := by
  refine w_X12_regionBottom S _ _ _ _ ?_
  refine c_ob (by omega) (by rfl) ?_
  rw [regionOf_no e]
  rfl
theorem cregionBottom_out (e : m.1 0 12 = 1) {c : Nat} (hc : c ≤ 256) (ef : m.1 64 17 = nI c) {x : Int32} (h : ¬ (0 ≤ x.toInt ∧ x.toInt < c)) : xM S mX12_regionBottom [.ref 0, .int x] (E W H n m) = some (.inr sIO, E W H n m, 1, 6) := by
  refine w_X12_regionBottom S _ _ _ _ ?_
  refine c_ob (by omega) (by rfl) ?_
  rw [regionOf_out e hc ef h]
  rfl
theorem mregionBottom_no (e : m.1 90 35 = 0) (x : Int32) : xM S mX13_regionBottom [.ref 90, .int x] (E W H n m) = some (.inl (some (.int 0)), E W H n (sI m 90 2 1), 0, 0) := by
  refine w_X13_regionBottom S _ _ _ _ ?_
  refine c_gi (by omega) (by rfl) (by rfl) (by rfl) ?_
  refine c_ob (by omega) (by rfl) ?_
  refine c_qI (lacks_no e _ _) ?_
  exact c_iff (by decide) rfl
theorem mregionBottom_out (e : m.1 90 35 = 1) {c : Nat} (hc : c ≤ 256) (ef : m.1 90 59 = nI c) {x : Int32} (h : ¬ (0 ≤ x.toInt ∧ x.toInt < c)) : xM S mX13_regionBottom [.ref 90, .int x] (E W H n m) = some (.inl (some (.int 0)), E W H n (sI m 90 2 2), 0, 0) := by
  refine w_X13_regionBottom S _ _ _ _ ?_
  refine c_gi (by omega) (by rfl) (by rfl) (by rfl) ?_
  rw [ef]
  refine c_ob (by omega) (by rfl) ?_
  refine c_qI (lacks_out e (by omega) h) ?_
  exact c_iff (by decide) rfl
theorem cmissingPixels_no (e : m.1 0 12 = 0) (x : Int32) : xM S mX12_missingPixels [.ref 0, .int x] (E W H n m) = some (.inr sIS, E W H n m, 1, 6) := by
  refine w_X12_missingPixels S _ _ _ _ ?_
  refine c_ob (by omega) (by rfl) ?_
  rw [regionOf_no e]
  rfl
theorem cmissingPixels_out (e : m.1 0 12 = 1) {c : Nat} (hc : c ≤ 256) (ef : m.1 64 17 = nI c) {x : Int32} (h : ¬ (0 ≤ x.toInt ∧ x.toInt < c)) : xM S mX12_missingPixels [.ref 0, .int x] (E W H n m) = some (.inr sIO, E W H n m, 1, 6) := by
  refine w_X12_missingPixels S _ _ _ _ ?_
  refine c_ob (by omega) (by rfl) ?_
  rw [regionOf_out e hc ef h]
  rfl
theorem mmissingPixels_no (e : m.1 90 35 = 0) (x : Int32) : xM S mX13_missingPixels [.ref 90, .int x] (E W H n m) = some (.inl (some (.int 0)), E W H n (sI m 90 2 1), 0, 0) := by
  refine w_X13_missingPixels S _ _ _ _ ?_
  refine c_gi (by omega) (by rfl) (by rfl) (by rfl) ?_
  refine c_ob (by omega) (by rfl) ?_
  refine c_qI (lacks_no e _ _) ?_
  exact c_iff (by decide) rfl
theorem mmissingPixels_out (e : m.1 90 35 = 1) {c : Nat} (hc : c ≤ 256) (ef : m.1 90 59 = nI c) {x : Int32} (h : ¬ (0 ≤ x.toInt ∧ x.toInt < c)) : xM S mX13_missingPixels [.ref 90, .int x] (E W H n m) = some (.inl (some (.int 0)), E W H n (sI m 90 2 2), 0, 0) := by
  refine w_X13_missingPixels S _ _ _ _ ?_
  refine c_gi (by omega) (by rfl) (by rfl) (by rfl) ?_
  rw [ef]
  refine c_ob (by omega) (by rfl) ?_
  refine c_qI (lacks_out e (by omega) h) ?_
  exact c_iff (by decide) rfl
theorem caddedPixels_no (e : m.1 0 12 = 0) (x : Int32) : xM S mX12_addedPixels [.ref 0, .int x] (E W H n m) = some (.inr sIS, E W H n m, 1, 6) := by
  refine w_X12_addedPixels S _ _ _ _ ?_
  refine c_ob (by omega) (by rfl) ?_
  rw [regionOf_no e]
  rfl
theorem caddedPixels_out (e : m.1 0 12 = 1) {c : Nat} (hc : c ≤ 256) (ef : m.1 64 17 = nI c) {x : Int32} (h : ¬ (0 ≤ x.toInt ∧ x.toInt < c)) : xM S mX12_addedPixels [.ref 0, .int x] (E W H n m) = some (.inr sIO, E W H n m, 1, 6) := by
  refine w_X12_addedPixels S _ _ _ _ ?_
  refine c_ob (by omega) (by rfl) ?_
  rw [regionOf_out e hc ef h]
  rfl
theorem maddedPixels_no (e : m.1 90 35 = 0) (x : Int32) : xM S mX13_addedPixels [.ref 90, .int x] (E W H n m) = some (.inl (some (.int 0)), E W H n (sI m 90 2 1), 0, 0) := by
  refine w_X13_addedPixels S _ _ _ _ ?_
  refine c_gi (by omega) (by rfl) (by rfl) (by rfl) ?_
  refine c_ob (by omega) (by rfl) ?_
  refine c_qI (lacks_no e _ _) ?_
  exact c_iff (by decide) rfl
theorem maddedPixels_out (e : m.1 90 35 = 1) {c : Nat} (hc : c ≤ 256) (ef : m.1 90 59 = nI c) {x : Int32} (h : ¬ (0 ≤ x.toInt ∧ x.toInt < c)) : xM S mX13_addedPixels [.ref 90, .int x] (E W H n m) = some (.inl (some (.int 0)), E W H n (sI m 90 2 2), 0, 0) := by
  refine w_X13_addedPixels S _ _ _ _ ?_
  refine c_gi (by omega) (by rfl) (by rfl) (by rfl) ?_
  rw [ef]
  refine c_ob (by omega) (by rfl) ?_
  refine c_qI (lacks_out e (by omega) h) ?_
  exact c_iff (by decide) rfl
theorem cchangePixels_no (e : m.1 0 12 = 0) (x : Int32) : xM S mX12_changePixels [.ref 0, .int x] (E W H n m) = some (.inr sIS, E W H n m, 1, 6) := by
  refine w_X12_changePixels S _ _ _ _ ?_
  refine c_ob (by omega) (by rfl) ?_
  rw [changeOf_no e]
  rfl
theorem cchangePixels_out (e : m.1 0 12 = 1) {c : Nat} (hc : c ≤ 256) (ef : m.1 64 19 = nI c) {x : Int32} (h : ¬ (0 ≤ x.toInt ∧ x.toInt < c)) : xM S mX12_changePixels [.ref 0, .int x] (E W H n m) = some (.inr sIO, E W H n m, 1, 6) := by
  refine w_X12_changePixels S _ _ _ _ ?_
  refine c_ob (by omega) (by rfl) ?_
  rw [changeOf_out e hc ef h]
  rfl
theorem mchangePixels_no (e : m.1 90 35 = 0) (x : Int32) : xM S mX13_changePixels [.ref 90, .int x] (E W H n m) = some (.inl (some (.int 0)), E W H n (sI m 90 2 1), 0, 0) := by
  refine w_X13_changePixels S _ _ _ _ ?_
  refine c_gi (by omega) (by rfl) (by rfl) (by rfl) ?_
  refine c_ob (by omega) (by rfl) ?_
  refine c_qI (lacks_no e _ _) ?_
  exact c_iff (by decide) rfl
theorem mchangePixels_out (e : m.1 90 35 = 1) {c : Nat} (hc : c ≤ 256) (ef : m.1 90 79 = nI c) {x : Int32} (h : ¬ (0 ≤ x.toInt ∧ x.toInt < c)) : xM S mX13_changePixels [.ref 90, .int x] (E W H n m) = some (.inl (some (.int 0)), E W H n (sI m 90 2 2), 0, 0) := by
  refine w_X13_changePixels S _ _ _ _ ?_
  refine c_gi (by omega) (by rfl) (by rfl) (by rfl) ?_
  rw [ef]
  refine c_ob (by omega) (by rfl) ?_
  refine c_qI (lacks_out e (by omega) h) ?_
  exact c_iff (by decide) rfl
theorem cchangeLine_no (e : m.1 0 12 = 0) (x : Int32) : xM S mX12_changeLine [.ref 0, .int x] (E W H n m) = some (.inr sIS, E W H n m, 1, 6) := by
  refine w_X12_changeLine S _ _ _ _ ?_
  refine c_ob (by omega) (by rfl) ?_
  rw [changeOf_no e]
  rfl
theorem cchangeLine_out (e : m.1 0 12 = 1) {c : Nat} (hc : c ≤ 256) (ef : m.1 64 19 = nI c) {x : Int32} (h : ¬ (0 ≤ x.toInt ∧ x.toInt < c)) : xM S mX12_changeLine [.ref 0, .int x] (E W H n m) = some (.inr sIO, E W H n m, 1, 6) := by
  refine w_X12_changeLine S _ _ _ _ ?_
  refine c_ob (by omega) (by rfl) ?_
  rw [changeOf_out e hc ef h]
  rfl
theorem mchangeLine_no (e : m.1 90 35 = 0) (x : Int32) : xM S mX13_changeLine [.ref 90, .int x] (E W H n m) = some (.inl (some (.int 0)), E W H n (sI m 90 2 1), 0, 0) := by
  refine w_X13_changeLine S _ _ _ _ ?_
  refine c_gi (by omega) (by rfl) (by rfl) (by rfl) ?_
  refine c_ob (by omega) (by rfl) ?_
  refine c_qI (lacks_no e _ _) ?_
  exact c_iff (by decide) rfl
theorem mchangeLine_out (e : m.1 90 35 = 1) {c : Nat} (hc : c ≤ 256) (ef : m.1 90 79 = nI c) {x : Int32} (h : ¬ (0 ≤ x.toInt ∧ x.toInt < c)) : xM S mX13_changeLine [.ref 90, .int x] (E W H n m) = some (.inl (some (.int 0)), E W H n (sI m 90 2 2), 0, 0) := by
  refine w_X13_changeLine S _ _ _ _ ?_
  refine c_gi (by omega) (by rfl) (by rfl) (by rfl) ?_
  rw [ef]
  refine c_ob (by omega) (by rfl) ?_
  refine c_qI (lacks_out e (by omega) h) ?_
  exact c_iff (by decide) rfl
theorem cchangeRegion_no (e : m.1 0 12 = 0) (x : Int32) : xM S mX12_changeRegion [.ref 0, .int x] (E W H n m) = some (.inr sIS, E W H n m, 1, 6) := by
  refine w_X12_changeRegion S _ _ _ _ ?_
  refine c_ob (by omega) (by rfl) ?_
  rw [changeOf_no e]
  rfl
theorem cchangeRegion_out (e : m.1 0 12 = 1) {c : Nat} (hc : c ≤ 256) (ef : m.1 64 19 = nI c) {x : Int32} (h : ¬ (0 ≤ x.toInt ∧ x.toInt < c)) : xM S mX12_changeRegion [.ref 0, .int x] (E W H n m) = some (.inr sIO, E W H n m, 1, 6) := by
  refine w_X12_changeRegion S _ _ _ _ ?_
  refine c_ob (by omega) (by rfl) ?_
  rw [changeOf_out e hc ef h]
  rfl
theorem mchangeRegion_no (e : m.1 90 35 = 0) (x : Int32) : xM S mX13_changeRegion [.ref 90, .int x] (E W H n m) = some (.inl (some (.int 0)), E W H n (sI m 90 2 1), 0, 0) := by
  refine w_X13_changeRegion S _ _ _ _ ?_
  refine c_gi (by omega) (by rfl) (by rfl) (by rfl) ?_
  refine c_ob (by omega) (by rfl) ?_
  refine c_qI (lacks_no e _ _) ?_
  exact c_iff (by decide) rfl
theorem mchangeRegion_out (e : m.1 90 35 = 1) {c : Nat} (hc : c ≤ 256) (ef : m.1 90 79 = nI c) {x : Int32} (h : ¬ (0 ≤ x.toInt ∧ x.toInt < c)) : xM S mX13_changeRegion [.ref 90, .int x] (E W H n m) = some (.inl (some (.int 0)), E W H n (sI m 90 2 2), 0, 0) := by
  refine w_X13_changeRegion S _ _ _ _ ?_
  refine c_gi (by omega) (by rfl) (by rfl) (by rfl) ?_
  rw [ef]
  refine c_ob (by omega) (by rfl) ?_
  refine c_qI (lacks_out e (by omega) h) ?_
  exact c_iff (by decide) rfl
end GJ

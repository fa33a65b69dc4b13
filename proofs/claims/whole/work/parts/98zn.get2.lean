/-! GETTERS: the registration's and the counts', with and without a comparison -/
section GF
variable {S : xS} {W H n : Nat} {m : mM}
theorem creg_no (e : m.1 0 12 = 0) : xM S mX12_registration [.ref 0] (E W H n m) = some (.inr sIS, E W H n m, 1, 6) := by
  refine w_X12_registration S _ _ _ ?_
  refine c_ob (by omega) (by rfl) ?_
  rw [req_no e]
  rfl
theorem cshiftY_in (e : m.1 0 12 = 1) : xM S mX12_shiftY [.ref 0] (E W H n m) = some (.inl (some (.int (m.1 82 7))), E W H n m, 0, 0) := by
  refine w_X12_shiftY S _ _ _ ?_
  refine c_ob (by omega) (by rfl) ?_
  refine c_qR (creg_in e) ?_
  refine c_gi (by omega) (by rfl) (by rfl) (by rfl) ?_
  rfl
theorem mshiftY_in (e : m.1 90 35 = 1) : xM S mX13_shiftY [.ref 90] (E W H n m) = some (.inl (some (.int (m.1 90 42))), E W H n (sI m 90 2 0), 0, 0) := by
  refine w_X13_shiftY S _ _ _ ?_
  refine c_gi (by omega) (by rfl) (by rfl) (by rfl) ?_
  refine c_ob (by omega) (by rfl) ?_
  refine c_qI (told_in e _) ?_
  rfl
theorem cskew_in (e : m.1 0 12 = 1) : xM S mX12_skew [.ref 0] (E W H n m) = some (.inl (some (.int (m.1 82 8))), E W H n m, 0, 0) := by
  refine w_X12_skew S _ _ _ ?_
  refine c_ob (by omega) (by rfl) ?_
  refine c_qR (creg_in e) ?_
  refine c_gi (by omega) (by rfl) (by rfl) (by rfl) ?_
  rfl
theorem mskew_in (e : m.1 90 35 = 1) : xM S mX13_skew [.ref 90] (E W H n m) = some (.inl (some (.int (m.1 90 43))), E W H n (sI m 90 2 0), 0, 0) := by
  refine w_X13_skew S _ _ _ ?_
  refine c_gi (by omega) (by rfl) (by rfl) (by rfl) ?_
  refine c_ob (by omega) (by rfl) ?_
  refine c_qI (told_in e _) ?_
  rfl
theorem cmismatch_in (e : m.1 0 12 = 1) : xM S mX12_mismatch [.ref 0] (E W H n m) = some (.inl (some (.int (m.1 82 10))), E W H n m, 0, 0) := by
  refine w_X12_mismatch S _ _ _ ?_
  refine c_ob (by omega) (by rfl) ?_
  refine c_qR (creg_in e) ?_
  refine c_gi (by omega) (by rfl) (by rfl) (by rfl) ?_
  rfl
theorem mmismatch_in (e : m.1 90 35 = 1) : xM S mX13_mismatch [.ref 90] (E W H n m) = some (.inl (some (.int (m.1 90 45))), E W H n (sI m 90 2 0), 0, 0) := by
  refine w_X13_mismatch S _ _ _ ?_
  refine c_gi (by omega) (by rfl) (by rfl) (by rfl) ?_
  refine c_ob (by omega) (by rfl) ?_
  refine c_qI (told_in e _) ?_
  rfl
theorem cregions_in (e : m.1 0 12 = 1) : xM S mX12_regions [.ref 0] (E W H n m) = some (.inl (some (.int (m.1 64 17))), E W H n m, 0, 0) := by
  refine w_X12_regions S _ _ _ ?_
  refine c_ob (by omega) (by rfl) ?_
  refine c_qV (req_in e) ?_
  refine c_gr (by omega) (by rfl) (by rfl) (by rfl) ?_
  refine c_gi (by omega) (by rfl) (by rfl) (by rfl) ?_
  rfl
theorem mregions_in (e : m.1 90 35 = 1) : xM S mX13_regions [.ref 90] (E W H n m) = some (.inl (some (.int (m.1 90 59))), E W H n (sI m 90 2 0), 0, 0) := by
  refine w_X13_regions S _ _ _ ?_
  refine c_gi (by omega) (by rfl) (by rfl) (by rfl) ?_
  refine c_ob (by omega) (by rfl) ?_
  refine c_qI (told_in e _) ?_
  rfl
theorem cregions_no (e : m.1 0 12 = 0) : xM S mX12_regions [.ref 0] (E W H n m) = some (.inr sIS, E W H n m, 1, 6) := by
  refine w_X12_regions S _ _ _ ?_
  refine c_ob (by omega) (by rfl) ?_
  rw [req_no e]
  rfl
theorem cchanges_in (e : m.1 0 12 = 1) : xM S mX12_changes [.ref 0] (E W H n m) = some (.inl (some (.int (m.1 64 19))), E W H n m, 0, 0) := by
  refine w_X12_changes S _ _ _ ?_
  refine c_ob (by omega) (by rfl) ?_
  refine c_qV (req_in e) ?_
  refine c_gr (by omega) (by rfl) (by rfl) (by rfl) ?_
  refine c_gi (by omega) (by rfl) (by rfl) (by rfl) ?_
  rfl
theorem mchanges_in (e : m.1 90 35 = 1) : xM S mX13_changes [.ref 90] (E W H n m) = some (.inl (some (.int (m.1 90 79))), E W H n (sI m 90 2 0), 0, 0) := by
  refine w_X13_changes S _ _ _ ?_
  refine c_gi (by omega) (by rfl) (by rfl) (by rfl) ?_
  refine c_ob (by omega) (by rfl) ?_
  refine c_qI (told_in e _) ?_
  rfl
theorem cchanges_no (e : m.1 0 12 = 0) : xM S mX12_changes [.ref 0] (E W H n m) = some (.inr sIS, E W H n m, 1, 6) := by
  refine w_X12_changes S _ _ _ ?_
  refine c_ob (by omega) (by rfl) ?_
  rw [req_no e]
  rfl
theorem cshiftX_no (e : m.1 0 12 = 0) : xM S mX12_shiftX [.ref 0] (E W H n m) = some (.inr sIS, E W H n m, 1, 6) := by
  refine w_X12_shiftX S _ _ _ ?_
  refine c_ob (by omega) (by rfl) ?_
  rw [creg_no e]
  rfl
theorem cshiftY_no (e : m.1 0 12 = 0) : xM S mX12_shiftY [.ref 0] (E W H n m) = some (.inr sIS, E W H n m, 1, 6) := by
  refine w_X12_shiftY S _ _ _ ?_
  refine c_ob (by omega) (by rfl) ?_
  rw [creg_no e]
  rfl
theorem cskew_no (e : m.1 0 12 = 0) : xM S mX12_skew [.ref 0] (E W H n m) = some (.inr sIS, E W H n m, 1, 6) := by
  refine w_X12_skew S _ _ _ ?_
  refine c_ob (by omega) (by rfl) ?_
  rw [creg_no e]
  rfl
theorem cmismatch_no (e : m.1 0 12 = 0) : xM S mX12_mismatch [.ref 0] (E W H n m) = some (.inr sIS, E W H n m, 1, 6) := by
  refine w_X12_mismatch S _ _ _ ?_
  refine c_ob (by omega) (by rfl) ?_
  rw [creg_no e]
  rfl
theorem mshiftX_no (e : m.1 90 35 = 0) : xM S mX13_shiftX [.ref 90] (E W H n m) = some (.inl (some (.int 0)), E W H n (sI m 90 2 1), 0, 0) := by
  refine w_X13_shiftX S _ _ _ ?_
  refine c_gi (by omega) (by rfl) (by rfl) (by rfl) ?_
  refine c_ob (by omega) (by rfl) ?_
  refine c_qI (told_no e _) ?_
  rfl
theorem mshiftY_no (e : m.1 90 35 = 0) : xM S mX13_shiftY [.ref 90] (E W H n m) = some (.inl (some (.int 0)), E W H n (sI m 90 2 1), 0, 0) := by
  refine w_X13_shiftY S _ _ _ ?_
  refine c_gi (by omega) (by rfl) (by rfl) (by rfl) ?_
  refine c_ob (by omega) (by rfl) ?_
  refine c_qI (told_no e _) ?_
  rfl
theorem mskew_no (e : m.1 90 35 = 0) : xM S mX13_skew [.ref 90] (E W H n m) = some (.inl (some (.int 0)), E W H n (sI m 90 2 1), 0, 0) := by
  refine w_X13_skew S _ _ _ ?_
  refine c_gi (by omega) (by rfl) (by rfl) (by rfl) ?_
  refine c_ob (by omega) (by rfl) ?_
  refine c_qI (told_no e _) ?_
  rfl
theorem mmismatch_no (e : m.1 90 35 = 0) : xM S mX13_mismatch [.ref 90] (E W H n m) = some (.inl (some (.int 0)), E W H n (sI m 90 2 1), 0, 0) := by
  refine w_X13_mismatch S _ _ _ ?_
  refine c_gi (by omega) (by rfl) (by rfl) (by rfl) ?_
  refine c_ob (by omega) (by rfl) ?_
  refine c_qI (told_no e _) ?_
  rfl
theorem mregions_no (e : m.1 90 35 = 0) : xM S mX13_regions [.ref 90] (E W H n m) = some (.inl (some (.int 0)), E W H n (sI m 90 2 1), 0, 0) := by
  refine w_X13_regions S _ _ _ ?_
  refine c_gi (by omega) (by rfl) (by rfl) (by rfl) ?_
  refine c_ob (by omega) (by rfl) ?_
  refine c_qI (told_no e _) ?_
  rfl
theorem mchanges_no (e : m.1 90 35 = 0) : xM S mX13_changes [.ref 90] (E W H n m) = some (.inl (some (.int 0)), E W H n (sI m 90 2 1), 0, 0) := by
  refine w_X13_changes S _ _ _ ?_
  refine c_gi (by omega) (by rfl) (by rfl) (by rfl) ?_
  refine c_ob (by omega) (by rfl) ?_
  refine c_qI (told_no e _) ?_
  rfl
theorem cturned_in (e : m.1 0 12 = 1) {t : Bool} (et : m.1 82 9 = bz t) : xM S mX12_turned [.ref 0] (E W H n m) = some (.inl (some (.int (bz t))), E W H n m, 0, 0) := by
  refine w_X12_turned S _ _ _ ?_
  refine c_ob (by omega) (by rfl) ?_
  refine c_qR (creg_in e) ?_
  refine c_gi (by omega) (by rfl) (by rfl) (by rfl) ?_
  rw [et]
  exact c_ift (nar_bz t) rfl
theorem cturned_no (e : m.1 0 12 = 0) : xM S mX12_turned [.ref 0] (E W H n m) = some (.inr sIS, E W H n m, 1, 6) := by
  refine w_X12_turned S _ _ _ ?_
  refine c_ob (by omega) (by rfl) ?_
  rw [creg_no e]
  rfl
theorem mturned_in (e : m.1 90 35 = 1) {t : Bool} (et : m.1 90 44 = bz t) : xM S mX13_turned [.ref 90] (E W H n m) = some (.inl (some (.int (bz t))), E W H n (sI m 90 2 0), 0, 0) := by
  refine w_X13_turned S _ _ _ ?_
  refine c_gi (by omega) (by rfl) (by rfl) (by rfl) ?_
  rw [et]
  cases t
  · refine c_ift rfl ?_
    refine c_ob (by omega) (by rfl) ?_
    refine c_qI (told_in e _) ?_
    exact c_ift (by decide) rfl
  · refine c_iff (by decide) ?_
    refine c_ob (by omega) (by rfl) ?_
    refine c_qI (told_in e _) ?_
    exact c_iff (by decide) rfl
theorem mturned_no (e : m.1 90 35 = 0) {t : Bool} (et : m.1 90 44 = bz t) : xM S mX13_turned [.ref 90] (E W H n m) = some (.inl (some (.int 0)), E W H n (sI m 90 2 1), 0, 0) := by
  refine w_X13_turned S _ _ _ ?_
  refine c_gi (by omega) (by rfl) (by rfl) (by rfl) ?_
  rw [et]
  cases t
  · refine c_ift rfl ?_
    refine c_ob (by omega) (by rfl) ?_
    refine c_qI (told_no e _) ?_
    exact c_ift (by decide) rfl
  · refine c_iff (by decide) ?_
    refine c_ob (by omega) (by rfl) ?_
    refine c_qI (told_no e _) ?_
    exact c_ift (by decide) rfl
end GF

/-! GETTERS: similarity -/
section GK
variable {S : xS} {W H n : Nat} {m : mM}
theorem csimilarity_in (hW8 : 8 ≤ W) (hW : W ≤ 64) (hH8 : 8 ≤ H) (hH : H ≤ 64) (e : m.1 0 12 = 1) : xM S mX12_similarity [.ref 0] (E W H n m) = some (.inl (some (.int (((nI (W * H) - m.1 82 10) * (1000 : Int32)) / nI (W * H)))), E W H n m, 0, 0) := by
  have b : 64 ≤ W * H := Nat.mul_le_mul hW8 hH8
  have b2 : W * H ≤ 4096 := Nat.mul_le_mul hW hH
  refine w_X12_similarity S _ _ _ ?_
  refine c_gW (by omega) (by rfl) (by rfl) (by rfl) ?_
  refine c_gH (by omega) (by rfl) (by rfl) (by rfl) ?_
  refine c_let ?_
  rw [pk_mul]
  refine c_ob (by omega) (by rfl) ?_
  refine c_qR (creg_in e) ?_
  refine c_gi (by omega) (by rfl) (by rfl) (by rfl) ?_
  refine c_let ?_
  refine c_ift ((nI_leI (a := 1) (by omega) (by omega)).mpr (by omega)) ?_
  refine c_iff (fun w => by have := (nI_eq (b := 0) (by omega) (by omega)).mp w; omega) ?_
  rfl
theorem csimilarity_no (e : m.1 0 12 = 0) : xM S mX12_similarity [.ref 0] (E W H n m) = some (.inr sIS, E W H n m, 1, 6) := by
  refine w_X12_similarity S _ _ _ ?_
  refine c_gW (by omega) (by rfl) (by rfl) (by rfl) ?_
  refine c_gH (by omega) (by rfl) (by rfl) (by rfl) ?_
  refine c_let ?_
  refine c_ob (by omega) (by rfl) ?_
  rw [creg_no e]
  rfl
theorem msimilarity_in (hW8 : 8 ≤ W) (hW : W ≤ 64) (hH8 : 8 ≤ H) (hH : H ≤ 64) (e : m.1 90 35 = 1) : xM S mX13_similarity [.ref 90] (E W H n m) = some (.inl (some (.int (((nI (W * H) - m.1 90 45) * (1000 : Int32)) / nI (W * H)))), E W H n (sI m 90 2 0), 0, 0) := by
  have b : 64 ≤ W * H := Nat.mul_le_mul hW8 hH8
  have b2 : W * H ≤ 4096 := Nat.mul_le_mul hW hH
  refine w_X13_similarity S _ _ _ ?_
  refine c_gW (by omega) (by rfl) (by rfl) (by rfl) ?_
  refine c_gH (by omega) (by rfl) (by rfl) (by rfl) ?_
  refine c_gi (by omega) (by rfl) (by rfl) (by rfl) ?_
  refine c_gW (by omega) (by rfl) (by rfl) (by rfl) ?_
  refine c_gH (by omega) (by rfl) (by rfl) (by rfl) ?_
  rw [pk_mul]
  refine c_iff (fun w => by have := (nI_eq (b := 0) (by omega) (by omega)).mp w; omega) ?_
  refine c_ob (by omega) (by rfl) ?_
  refine c_qI (told_in e _) ?_
  rfl
theorem msimilarity_no (hW8 : 8 ≤ W) (hW : W ≤ 64) (hH8 : 8 ≤ H) (hH : H ≤ 64) (e : m.1 90 35 = 0) : xM S mX13_similarity [.ref 90] (E W H n m) = some (.inl (some (.int 0)), E W H n (sI m 90 2 1), 0, 0) := by
  have b : 64 ≤ W * H := Nat.mul_le_mul hW8 hH8
  have b2 : W * H ≤ 4096 := Nat.mul_le_mul hW hH
  refine w_X13_similarity S _ _ _ ?_
  refine c_gW (by omega) (by rfl) (by rfl) (by rfl) ?_
  refine c_gH (by omega) (by rfl) (by rfl) (by rfl) ?_
  refine c_gi (by omega) (by rfl) (by rfl) (by rfl) ?_
  refine c_gW (by omega) (by rfl) (by rfl) (by rfl) ?_
  refine c_gH (by omega) (by rfl) (by rfl) (by rfl) ?_
  rw [pk_mul]
  refine c_iff (fun w => by have := (nI_eq (b := 0) (by omega) (by omega)).mp w; omega) ?_
  refine c_ob (by omega) (by rfl) ?_
  refine c_qI (told_no e _) ?_
  rfl
end GK

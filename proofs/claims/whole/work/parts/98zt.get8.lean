/-! GETTERS: mismatchAt, blockDifference, regionAt -/
section GM
variable {S : xS} {W H n : Nat} {m : mM} {O T : Nat → Int64}
theorem t16 : (16 : Int32).toInt = 16 := rfl
theorem tm16 : (-16 : Int32).toInt = -16 := by decide
theorem mx_lt {x y : Int32} : (16 : Int32) < (if y ≤ x then x else y) ↔ ¬ (x.toInt ≤ 16 ∧ y.toInt ≤ 16) := by
  rw [fa_lt, t16]
  by_cases h : y ≤ x
  · rw [if_pos h]; rw [fa_le] at h; omega
  · rw [if_neg h]; rw [fa_le] at h; omega
theorem mn_ge {x y : Int32} : (-16 : Int32) ≤ (if x ≤ y then x else y) ↔ -16 ≤ x.toInt ∧ -16 ≤ y.toInt := by
  rw [fa_le, tm16]
  by_cases h : x ≤ y
  · rw [if_pos h]; rw [fa_le] at h; omega
  · rw [if_neg h]; rw [fa_le] at h; omega
def shOk (x y : Int32) : Prop := (x.toInt ≤ 16 ∧ y.toInt ≤ 16) ∧ -16 ≤ x.toInt ∧ -16 ≤ y.toInt
theorem cmismatchAt_in (hW8 : 8 ≤ W) (hW : W ≤ 64) (hH : H ≤ 64) (e : m.1 0 12 = 1) (eO : m.2.1 73 = O) (oO : okP W H O) (eT : m.2.1 88 = T) (oT : okP W H T) {x y : Int32} (v : shOk x y) : xM S mX12_mismatchAt [.ref 0, .int x, .int y] (E W H n m) = some (.inl (some (.int (nI (mm W H O T x.toInt y.toInt)))), E W H n m, 0, 0) := by
  obtain ⟨v1, v2⟩ := v
  have k := costOf_s (S := S) (n := n) hW8 hW hH eO oO eT oT (x := x.toInt) (y := y.toInt) (by omega) (by omega) (by omega) (by omega)
  rw [zI_of, zI_of] at k
  refine w_X12_mismatchAt S _ _ _ _ _ ?_
  refine c_ob (by omega) (by rfl) ?_
  refine c_qR (creg_in e) ?_
  refine c_qI (max_s S _ _ _) ?_
  refine c_iff (fun w => mx_lt.mp w v1) ?_
  refine c_qI (min_s S _ _ _) ?_
  refine c_ift (mn_ge.mpr v2) ?_
  refine c_gr (by omega) (by rfl) (by rfl) (by rfl) ?_
  refine c_gr (by omega) (by rfl) (by rfl) (by rfl) ?_
  refine c_ob (by omega) (by rfl) ?_
  exact c_qI k rfl
theorem cmismatchAt_out (e : m.1 0 12 = 1) {x y : Int32} (v : ¬ shOk x y) : xM S mX12_mismatchAt [.ref 0, .int x, .int y] (E W H n m) = some (.inr sIA, E W H n m, 1, 6) := by
  refine w_X12_mismatchAt S _ _ _ _ _ ?_
  refine c_ob (by omega) (by rfl) ?_
  refine c_qR (creg_in e) ?_
  refine c_qI (max_s S _ _ _) ?_
  by_cases c : x.toInt ≤ 16 ∧ y.toInt ≤ 16
  · refine c_iff (fun w => mx_lt.mp w c) ?_
    refine c_qI (min_s S _ _ _) ?_
    exact c_iff (fun w => v ⟨c, mn_ge.mp w⟩) rfl
  · exact c_ift (mx_lt.mpr c) rfl
theorem cmismatchAt_no (e : m.1 0 12 = 0) (x y : Int32) : xM S mX12_mismatchAt [.ref 0, .int x, .int y] (E W H n m) = some (.inr sIS, E W H n m, 1, 6) := by
  refine w_X12_mismatchAt S _ _ _ _ _ ?_
  refine c_ob (by omega) (by rfl) ?_
  rw [creg_no e]
  rfl
theorem size_g (S : xS) (h : xH) (x : Int32) : xM S mX13_size [.int x] h = some (.inl (some (.int (if 0 ≤ x then x else -x))), h, 0, 0) := by
  refine w_X13_size S _ _ _ ?_
  by_cases c : 0 ≤ x
  · exact c_ift c (by rw [if_pos c])
  · exact c_iff c (by rw [if_neg c])
theorem sz_le {x : Int32} (a : ¬ (16 : Int32) < (if 0 ≤ x then x else -x)) : x.toInt ≤ 16 := by
  by_cases c : 0 ≤ x
  · rw [if_pos c, fa_lt, t16] at a; omega
  · rw [i_le0] at c; omega
theorem sz_in {x : Int32} (a : x.toInt ≤ 16) (b : -16 ≤ x.toInt) : ¬ (16 : Int32) < nI x.toInt.natAbs := fun w => by
  have := (nI_ltI (a := 16) (by omega) (by omega)).mp w
  omega
theorem mmismatchAt_in (hW8 : 8 ≤ W) (hW : W ≤ 64) (hH8 : 8 ≤ H) (hH : H ≤ 64) (e : m.1 90 35 = 1) (PO : piM m 114 O) (PT : piM m 118 T) {x y : Int32} (v : shOk x y) : xM S mX13_mismatchAt [.ref 90, .int x, .int y] (E W H n m) = some (.inl (some (.int (nI (mm W H O T x.toInt y.toInt)))), E W H n (sI m 90 2 0), 0, 0) := by
  obtain ⟨v1, v2⟩ := v
  have PO' : piM (sI m 90 2 0) 114 O := fun k hk => (sI_ne (by omega)).trans (PO k hk)
  have PT' : piM (sI m 90 2 0) 118 T := fun k hk => (sI_ne (by omega)).trans (PT k hk)
  have k := differ_s (S := S) (n := n) hW8 hW hH8 hH PO' (Or.inr rfl) PT' (x := x.toInt) (y := y.toInt) (by omega) (by omega) (by omega) (by omega)
  rw [zI_of, zI_of] at k
  refine w_X13_mismatchAt S _ _ _ _ _ ?_
  refine c_pi (by omega) (by rfl) (by rfl) (by rfl) (xPok_int (by decide) (by rfl)) ?_
  refine c_gi (by omega) (by rfl) (by rfl) (by rfl) ?_
  rw [sI_ne (by omega), e]
  refine c_ift (by decide) ?_
  refine c_qI (size_n S _ (by omega)) ?_
  refine c_iff (sz_in v1.1 v2.1) ?_
  refine c_qI (size_n S _ (by omega)) ?_
  refine c_iff (sz_in v1.2 v2.2) ?_
  refine c_iff (fun w => by rw [fa_lt, tm16] at w; omega) ?_
  refine c_ift (by rw [fa_le, tm16]; omega) ?_
  refine c_gr (by omega) (by rfl) (by rfl) (by rfl) ?_
  refine c_ob (by omega) (by rfl) ?_
  exact c_qI k rfl
theorem mmismatchAt_out (e : m.1 90 35 = 1) {x y : Int32} (v : ¬ shOk x y) : xM S mX13_mismatchAt [.ref 90, .int x, .int y] (E W H n m) = some (.inl (some (.int 0)), E W H n (sI m 90 2 2), 0, 0) := by
  have f := fails_s (S := S) (W := W) (H := H) (n := n) (m := sI m 90 2 0) 2
  rw [sI_sI] at f
  refine w_X13_mismatchAt S _ _ _ _ _ ?_
  refine c_pi (by omega) (by rfl) (by rfl) (by rfl) (xPok_int (by decide) (by rfl)) ?_
  refine c_gi (by omega) (by rfl) (by rfl) (by rfl) ?_
  rw [sI_ne (by omega), e]
  refine c_ift (by decide) ?_
  refine c_qI (size_g S _ _) ?_
  by_cases a1 : (16 : Int32) < (if 0 ≤ x then x else -x)
  · refine c_ift a1 ?_
    refine c_ob (by omega) (by rfl) ?_
    exact c_qI f rfl
  refine c_iff a1 ?_
  refine c_qI (size_g S _ _) ?_
  by_cases a2 : (16 : Int32) < (if 0 ≤ y then y else -y)
  · refine c_ift a2 ?_
    refine c_ob (by omega) (by rfl) ?_
    exact c_qI f rfl
  refine c_iff a2 ?_
  by_cases a3 : x < (-16 : Int32)
  · refine c_ift a3 ?_
    refine c_ob (by omega) (by rfl) ?_
    exact c_qI f rfl
  refine c_iff a3 ?_
  have b1 := sz_le a1
  have b2 := sz_le a2
  rw [fa_lt, tm16] at a3
  refine c_iff (fun w => v ⟨⟨b1, b2⟩, by omega, by rw [fa_le, tm16] at w; omega⟩) ?_
  refine c_ob (by omega) (by rfl) ?_
  exact c_qI f rfl
theorem mmismatchAt_no (e : m.1 90 35 = 0) (x y : Int32) : xM S mX13_mismatchAt [.ref 90, .int x, .int y] (E W H n m) = some (.inl (some (.int 0)), E W H n (sI m 90 2 1), 0, 0) := by
  have f := fails_s (S := S) (W := W) (H := H) (n := n) (m := sI m 90 2 0) 1
  rw [sI_sI] at f
  refine w_X13_mismatchAt S _ _ _ _ _ ?_
  refine c_pi (by omega) (by rfl) (by rfl) (by rfl) (xPok_int (by decide) (by rfl)) ?_
  refine c_gi (by omega) (by rfl) (by rfl) (by rfl) ?_
  rw [sI_ne (by omega), e]
  refine c_iff (fun w => w rfl) ?_
  refine c_ob (by omega) (by rfl) ?_
  exact c_qI f rfl
-- blockDifference
theorem cblockDiff_in (hW8 : 8 ≤ W) (hW : W ≤ 64) (hH8 : 8 ≤ H) (hH : H ≤ 64) {B : Nat} (hB : 4 ≤ B) (hB2 : B ≤ 16) {D : Nat → Nat → Nat} (e : m.1 0 12 = 1) (X : blC m W H B D) {i j : Nat} (hi : i < coB W B) (hj : j < coB H B) : xM S mX12_blockDifference [.ref 0, .int (nI i), .int (nI j)] (E W H n m) = some (.inl (some (.int (nI (D i j)))), E W H n m, 0, 0) := by
  obtain ⟨c1, c2⟩ := coB_le hW8 hW hB hB2
  obtain ⟨r1, r2⟩ := coB_le hH8 hH hB hB2
  obtain ⟨e8, e9, e10, e65⟩ := X
  have lt : j * coB W B + i < coB W B * coB H B := by
    have h1 : (j + 1) * coB W B ≤ coB H B * coB W B := Nat.mul_le_mul_right _ hj
    rw [Nat.succ_mul, Nat.mul_comm (coB H B)] at h1
    omega
  have b256 : coB W B * coB H B ≤ 256 := Nat.mul_le_mul c2 r2
  have z65 : 256 = eL H 65 := rfl
  obtain ⟨_, p2, p3⟩ := phi_at (q := j) c2 hi
  have val : m.1 65 (j * coB W B + i) = nI (D i j) := by rw [e65 _ lt, p2, p3]
  have k : xM S mX1_differenceOf [.ref 64, .int (nI i), .int (nI j)] (E W H n m) = some (.inl (some (.int (nI (D i j)))), E W H n m, 0, 0) := by
    refine w_X1_differenceOf S _ _ _ _ _ ?_
    refine c_gi (by omega) (by rfl) (by rfl) (by rfl) ?_
    rw [e9]
    refine c_let ?_
    rw [pk_mul, nI_add]
    refine c_iff (nI_pos (by omega)) ?_
    refine c_gr (by omega) (by rfl) (by rfl) (by rfl) ?_
    refine c_rz (by omega) (by rfl) z65 ?_
    refine c_iff (fun w => by have := (nI_leI (by omega) (by omega)).mp w; omega) ?_
    refine c_gr (by omega) (by rfl) (by rfl) (by rfl) ?_
    refine c_ri (i := j * coB W B + i) (by omega) (by rfl) (by rfl) (by rfl) (by first | omega | ((conv => rhs; whnf); first | omega | (show _ < OfNat.ofNat (α := Nat) _; omega))) (by first | omega | ((conv => lhs; whnf); first | omega | (show OfNat.ofNat (α := Nat) _ < _; omega))) (by decide) ?_
    rw [show m.1 (64 + 1) (j * coB W B + i) = nI (D i j) from val]
  refine w_X12_blockDifference S _ _ _ _ _ ?_
  refine c_ob (by omega) (by rfl) ?_
  refine c_qV (req_in e) ?_
  refine c_iff (nI_pos (by omega)) ?_
  refine c_gr (by omega) (by rfl) (by rfl) (by rfl) ?_
  refine c_gi (by omega) (by rfl) (by rfl) (by rfl) ?_
  rw [e9]
  refine c_iff (fun w => by have := (nI_leI (by omega) (by omega)).mp w; omega) ?_
  refine c_iff (nI_pos (by omega)) ?_
  refine c_gr (by omega) (by rfl) (by rfl) (by rfl) ?_
  refine c_gi (by omega) (by rfl) (by rfl) (by rfl) ?_
  rw [e10]
  refine c_ift ((nI_ltI (by omega) (by omega)).mpr hj) ?_
  refine c_gr (by omega) (by rfl) (by rfl) (by rfl) ?_
  refine c_ob (by omega) (by rfl) ?_
  exact c_qI k rfl
theorem cblockDiff_out (hW8 : 8 ≤ W) (hW : W ≤ 64) (hH8 : 8 ≤ H) (hH : H ≤ 64) {B : Nat} (hB : 4 ≤ B) (hB2 : B ≤ 16) {D : Nat → Nat → Nat} (e : m.1 0 12 = 1) (X : blC m W H B D) {x y : Int32} (v : ¬ (0 ≤ x.toInt ∧ x.toInt < coB W B ∧ 0 ≤ y.toInt ∧ y.toInt < coB H B)) : xM S mX12_blockDifference [.ref 0, .int x, .int y] (E W H n m) = some (.inr sIO, E W H n m, 1, 6) := by
  obtain ⟨c1, c2⟩ := coB_le hW8 hW hB hB2
  obtain ⟨r1, r2⟩ := coB_le hH8 hH hB hB2
  obtain ⟨e8, e9, e10, e65⟩ := X
  refine w_X12_blockDifference S _ _ _ _ _ ?_
  refine c_ob (by omega) (by rfl) ?_
  refine c_qV (req_in e) ?_
  by_cases a1 : x.toInt < 0
  · exact c_ift ((i_lt0 x).mpr a1) rfl
  refine c_iff (fun w => a1 ((i_lt0 x).mp w)) ?_
  refine c_gr (by omega) (by rfl) (by rfl) (by rfl) ?_
  refine c_gi (by omega) (by rfl) (by rfl) (by rfl) ?_
  rw [e9]
  by_cases a2 : (coB W B : Int) ≤ x.toInt
  · exact c_ift (by rw [fa_le, nI_toInt (by omega)]; exact a2) rfl
  refine c_iff (fun w => by rw [fa_le, nI_toInt (by omega)] at w; omega) ?_
  by_cases a3 : y.toInt < 0
  · exact c_ift ((i_lt0 y).mpr a3) rfl
  refine c_iff (fun w => a3 ((i_lt0 y).mp w)) ?_
  refine c_gr (by omega) (by rfl) (by rfl) (by rfl) ?_
  refine c_gi (by omega) (by rfl) (by rfl) (by rfl) ?_
  rw [e10]
  exact c_iff (fun w => by rw [fa_lt, nI_toInt (by omega)] at w; omega) rfl
theorem cblockDiff_no (e : m.1 0 12 = 0) (x y : Int32) : xM S mX12_blockDifference [.ref 0, .int x, .int y] (E W H n m) = some (.inr sIS, E W H n m, 1, 6) := by
  refine w_X12_blockDifference S _ _ _ _ _ ?_
  refine c_ob (by omega) (by rfl) ?_
  rw [req_no e]
  rfl
theorem isBlock_g {c r : Nat} (hc : m.1 90 55 = nI c) (hr : m.1 90 56 = nI r) (c1 : 1 ≤ c) (c2 : c ≤ 16) (r1 : 1 ≤ r) (r2 : r ≤ 16) (x y : Int32) : xM S mX13_isBlock [.ref 90, .int x, .int y] (E W H n m) = some (.inl (some (.int (bz (decide (0 ≤ x.toInt ∧ x.toInt < c ∧ 0 ≤ y.toInt ∧ y.toInt < r))))), E W H n m, 0, 0) := by
  have i1 := in_s S (E W H n m) x.toInt64 0 (nI c - (1 : Int32)).toInt64
  have i2 := in_s S (E W H n m) y.toInt64 0 (nI r - (1 : Int32)).toInt64
  rw [Int32.toInt_toInt64, Int32.toInt_toInt64, t_0, show (1 : Int32) = nI 1 from rfl, pk_sub (by omega), nI_toInt (by omega)] at i1 i2
  refine w_X13_isBlock S _ _ _ _ _ ?_
  refine c_gi (by omega) (by rfl) (by rfl) (by rfl) ?_
  rw [hc, show (1 : Int32) = nI 1 from rfl, pk_sub (by omega)]
  refine c_qI i1 ?_
  by_cases d1 : 0 ≤ x.toInt ∧ x.toInt ≤ ((c - 1 : Nat) : Int)
  · rw [decide_eq_true d1]
    refine c_iff (by decide) ?_
    refine c_gi (by omega) (by rfl) (by rfl) (by rfl) ?_
    rw [hr, pk_sub (by omega)]
    refine c_qI i2 ?_
    by_cases d2 : 0 ≤ y.toInt ∧ y.toInt ≤ ((r - 1 : Nat) : Int)
    · rw [decide_eq_true d2, decide_eq_true (show 0 ≤ x.toInt ∧ x.toInt < c ∧ 0 ≤ y.toInt ∧ y.toInt < r by omega)]
      refine c_iff (by decide) ?_
      rfl
    · rw [decide_eq_false d2, decide_eq_false (show ¬ (0 ≤ x.toInt ∧ x.toInt < c ∧ 0 ≤ y.toInt ∧ y.toInt < r) by omega)]
      refine c_ift (by decide) ?_
      rfl
  · rw [decide_eq_false d1, decide_eq_false (show ¬ (0 ≤ x.toInt ∧ x.toInt < c ∧ 0 ≤ y.toInt ∧ y.toInt < r) by omega)]
    refine c_ift (by decide) ?_
    rfl
theorem mblockDiff_in (hW8 : 8 ≤ W) (hW : W ≤ 64) (hH8 : 8 ≤ H) (hH : H ≤ 64) {B : Nat} (hB : 4 ≤ B) (hB2 : B ≤ 16) {D : Nat → Nat → Nat} (e : m.1 90 35 = 1) (X : blM m W H B D) {i j : Nat} (hi : i < coB W B) (hj : j < coB H B) : xM S mX13_blockDifference [.ref 90, .int (nI i), .int (nI j)] (E W H n m) = some (.inl (some (.int (nI (D i j)))), E W H n (sI m 90 2 0), 0, 0) := by
  obtain ⟨c1, c2⟩ := coB_le hW8 hW hB hB2
  obtain ⟨r1, r2⟩ := coB_le hH8 hH hB hB2
  obtain ⟨e54, e55, e56, e123⟩ := X
  have k := isBlock_g (S := S) (W := W) (H := H) (n := n) (m := sI m 90 2 0) ((sI_ne (by omega)).trans e55) ((sI_ne (by omega)).trans e56) c1 c2 r1 r2 (nI i) (nI j)
  rw [nI_toInt (by omega), nI_toInt (by omega), decide_eq_true (by omega)] at k
  refine w_X13_blockDifference S _ _ _ _ _ ?_
  refine c_pi (by omega) (by rfl) (by rfl) (by rfl) (xPok_int (by decide) (by rfl)) ?_
  refine c_gi (by omega) (by rfl) (by rfl) (by rfl) ?_
  rw [sI_ne (by omega), e]
  refine c_ift (by decide) ?_
  refine c_ob (by omega) (by rfl) ?_
  refine c_qI k ?_
  refine c_iff (by decide) ?_
  refine c_gr (by omega) (by rfl) (by rfl) (by rfl) ?_
  rw [show (16 : Int32) * nI j + nI i = nI (16 * j + i) from by rw [show (16 : Int32) * nI j = nI (16 * j) from pk_mul 16 j, nI_add]]
  refine c_ri (i := 16 * j + i) (by omega) (by rfl) (by rfl) (by rfl) (by first | omega | ((conv => rhs; whnf); first | omega | (show _ < OfNat.ofNat (α := Nat) _; omega))) (by first | omega | ((conv => lhs; whnf); first | omega | (show OfNat.ofNat (α := Nat) _ < _; omega))) (by decide) ?_
  rw [sI_ne (by omega), show m.1 (90 + 33) (16 * j + i) = nI (D i j) from e123 j i (by omega) (by omega)]
theorem mblockDiff_out (hW8 : 8 ≤ W) (hW : W ≤ 64) (hH8 : 8 ≤ H) (hH : H ≤ 64) {B : Nat} (hB : 4 ≤ B) (hB2 : B ≤ 16) {D : Nat → Nat → Nat} (e : m.1 90 35 = 1) (X : blM m W H B D) {x y : Int32} (v : ¬ (0 ≤ x.toInt ∧ x.toInt < coB W B ∧ 0 ≤ y.toInt ∧ y.toInt < coB H B)) : xM S mX13_blockDifference [.ref 90, .int x, .int y] (E W H n m) = some (.inl (some (.int 0)), E W H n (sI m 90 2 2), 0, 0) := by
  obtain ⟨c1, c2⟩ := coB_le hW8 hW hB hB2
  obtain ⟨r1, r2⟩ := coB_le hH8 hH hB hB2
  obtain ⟨e54, e55, e56, e123⟩ := X
  have k := isBlock_g (S := S) (W := W) (H := H) (n := n) (m := sI m 90 2 0) ((sI_ne (by omega)).trans e55) ((sI_ne (by omega)).trans e56) c1 c2 r1 r2 x y
  rw [decide_eq_false v] at k
  have f := fails_s (S := S) (W := W) (H := H) (n := n) (m := sI m 90 2 0) 2
  rw [sI_sI] at f
  refine w_X13_blockDifference S _ _ _ _ _ ?_
  refine c_pi (by omega) (by rfl) (by rfl) (by rfl) (xPok_int (by decide) (by rfl)) ?_
  refine c_gi (by omega) (by rfl) (by rfl) (by rfl) ?_
  rw [sI_ne (by omega), e]
  refine c_ift (by decide) ?_
  refine c_ob (by omega) (by rfl) ?_
  refine c_qI k ?_
  refine c_ift rfl ?_
  refine c_ob (by omega) (by rfl) ?_
  exact c_qI f rfl
theorem mblockDiff_no (e : m.1 90 35 = 0) (x y : Int32) : xM S mX13_blockDifference [.ref 90, .int x, .int y] (E W H n m) = some (.inl (some (.int 0)), E W H n (sI m 90 2 1), 0, 0) := by
  have f := fails_s (S := S) (W := W) (H := H) (n := n) (m := sI m 90 2 0) 1
  rw [sI_sI] at f
  refine w_X13_blockDifference S _ _ _ _ _ ?_
  refine c_pi (by omega) (by rfl) (by rfl) (by rfl) (xPok_int (by decide) (by rfl)) ?_
  refine c_gi (by omega) (by rfl) (by rfl) (by rfl) ?_
  rw [sI_ne (by omega), e]
  refine c_iff (fun w => w rfl) ?_
  refine c_ob (by omega) (by rfl) ?_
  exact c_qI f rfl
-- regionAt
def ratV (P : Nat → Bool) (nb : Nat → Nat) (lb' : Nat → Nat) (k : Nat) : Int32 := if P k = true then nI (nb (lb' k)) else -1
theorem cregionAt_in (hW8 : 8 ≤ W) (hW : W ≤ 64) (hH8 : 8 ≤ H) (hH : H ≤ 64) {B : Nat} (hB : 4 ≤ B) (hB2 : B ≤ 16) (e : m.1 0 12 = 1) (e8 : m.1 64 8 = nI B) (e9 : m.1 64 9 = nI (coB W B)) {P : Nat → Bool} (e66 : ∀ b, b < coB W B * coB H B → m.1 66 b = labV P (phi (coB W B) b)) (F : fdI m n) {N : Nat} (hN : N = nS ba P 256) (hn : N ≤ n) {nb : Nat → Nat} (en : ∀ q, q < N → m.1 (147 + 5 * q) 6 = nI (nb q)) {x y : Nat} (hx : x < W) (hy : y < H) : xM S mX12_regionAt [.ref 0, .int (nI x), .int (nI y)] (E W H n m) = some (.inl (some (.int (ratV P nb (lbN P) (blk B (64 * y + x))))), E W H n m, 0, 0) := by
  obtain ⟨c1, c2⟩ := coB_le hW8 hW hB hB2
  obtain ⟨r1, r2⟩ := coB_le hH8 hH hB hB2
  have hi : x / B < coB W B := coB_x (by omega) hx
  have hj : y / B < coB H B := coB_x (by omega) hy
  have lt : y / B * coB W B + x / B < coB W B * coB H B := by
    have h1 : (y / B + 1) * coB W B ≤ coB H B * coB W B := Nat.mul_le_mul_right _ hj
    rw [Nat.succ_mul, Nat.mul_comm (coB H B)] at h1
    omega
  have b256 : coB W B * coB H B ≤ 256 := Nat.mul_le_mul c2 r2
  have z66 : 256 = eL H 66 := rfl
  obtain ⟨p1, _, _⟩ := phi_at (q := y / B) c2 hi
  have bk : blk B (64 * y + x) = 16 * (y / B) + x / B := blk_xy (by omega)
  have k256 : blk B (64 * y + x) < 256 := (blk_lt hB (by omega)).1
  have val : m.1 66 (y / B * coB W B + x / B) = labV P (blk B (64 * y + x)) := by rw [e66 _ lt, p1, bk]
  generalize hK : blk B (64 * y + x) = K at *
  have k : xM S mX1_regionOfPixel [.ref 64, .int (nI x), .int (nI y)] (E W H n m) = some (.inl (some (.int (ratV P nb (lbN P) K))), E W H n m, 0, 0) := by
    refine w_X1_regionOfPixel S _ _ _ _ _ ?_
    refine c_gi (by omega) (by rfl) (by rfl) (by rfl) ?_
    rw [e8]
    refine c_qI (max_n S _ (x := 1) (y := B) (by omega) (by omega)) ?_
    rw [show max 1 B = B by omega]
    have bz0 : ¬ nI B = 0 := fun w => by have := (nI_eq (b := 0) (by omega) (by omega)).mp w; omega
    refine c_iff bz0 ?_
    refine c_gi (by omega) (by rfl) (by rfl) (by rfl) ?_
    rw [e9]
    refine c_iff bz0 ?_
    refine c_let ?_
    rw [n_div (by omega) (by omega) (by omega), n_div (by omega) (by omega) (by omega), pk_mul, nI_add]
    refine c_iff (nI_pos (by omega)) ?_
    refine c_gr (by omega) (by rfl) (by rfl) (by rfl) ?_
    refine c_rz (by omega) (by rfl) z66 ?_
    refine c_ift ((nI_ltI (by omega) (by omega)).mpr (by omega)) ?_
    refine c_gr (by omega) (by rfl) (by rfl) (by rfl) ?_
    refine c_ri (i := y / B * coB W B + x / B) (by omega) (by rfl) (by rfl) (by rfl) (by first | omega | ((conv => rhs; whnf); first | omega | (show _ < OfNat.ofNat (α := Nat) _; omega))) (by first | omega | ((conv => lhs; whnf); first | omega | (show OfNat.ofNat (α := Nat) _ < _; omega))) (by decide) ?_
    rw [show m.1 (64 + 2) (y / B * coB W B + x / B) = labV P K from val]
    refine c_ob (by omega) (by rfl) ?_
    by_cases hP : P K = true
    · obtain ⟨_, _, _, _, _, l5⟩ := lbN_lt k256 hP
      rw [← hN] at l5
      rw [show labV P K = nI (lbN P K) from if_pos hP]
      refine c_qN (find_old F (by omega)) ?_
      refine c_gi (by omega) (eK_R _) (by rfl) (by rfl) ?_
      rw [en _ l5, show ratV P nb (lbN P) K = nI (nb (lbN P K)) from if_pos hP]
    · rw [show labV P K = -1 from if_neg hP]
      refine c_qN0 find_neg ?_
      rw [show ratV P nb (lbN P) K = -1 from if_neg hP]
  refine w_X12_regionAt S _ _ _ _ _ ?_
  refine c_ob (by omega) (by rfl) ?_
  refine c_qV (req_in e) ?_
  refine c_iff (nI_pos (by omega)) ?_
  refine c_gW (by omega) (by rfl) (by rfl) (by rfl) ?_
  refine c_iff (fun w => by have := (nI_leI (by omega) (by omega)).mp w; omega) ?_
  refine c_iff (nI_pos (by omega)) ?_
  refine c_gH (by omega) (by rfl) (by rfl) (by rfl) ?_
  refine c_ift ((nI_ltI (by omega) (by omega)).mpr hy) ?_
  refine c_gr (by omega) (by rfl) (by rfl) (by rfl) ?_
  refine c_ob (by omega) (by rfl) ?_
  exact c_qI k rfl
theorem cregionAt_out (hW : W ≤ 64) (hH : H ≤ 64) (e : m.1 0 12 = 1) {x y : Int32} (v : ¬ (0 ≤ x.toInt ∧ x.toInt < W ∧ 0 ≤ y.toInt ∧ y.toInt < H)) : xM S mX12_regionAt [.ref 0, .int x, .int y] (E W H n m) = some (.inr sIO, E W H n m, 1, 6) := by
  refine w_X12_regionAt S _ _ _ _ _ ?_
  refine c_ob (by omega) (by rfl) ?_
  refine c_qV (req_in e) ?_
  by_cases a1 : x.toInt < 0
  · exact c_ift ((i_lt0 x).mpr a1) rfl
  refine c_iff (fun w => a1 ((i_lt0 x).mp w)) ?_
  refine c_gW (by omega) (by rfl) (by rfl) (by rfl) ?_
  by_cases a2 : (W : Int) ≤ x.toInt
  · exact c_ift (by rw [fa_le, nI_toInt (by omega)]; exact a2) rfl
  refine c_iff (fun w => by rw [fa_le, nI_toInt (by omega)] at w; omega) ?_
  by_cases a3 : y.toInt < 0
  · exact c_ift ((i_lt0 y).mpr a3) rfl
  refine c_iff (fun w => a3 ((i_lt0 y).mp w)) ?_
  refine c_gH (by omega) (by rfl) (by rfl) (by rfl) ?_
  exact c_iff (fun w => by rw [fa_lt, nI_toInt (by omega)] at w; omega) rfl
theorem cregionAt_no (e : m.1 0 12 = 0) (x y : Int32) : xM S mX12_regionAt [.ref 0, .int x, .int y] (E W H n m) = some (.inr sIS, E W H n m, 1, 6) := by
  refine w_X12_regionAt S _ _ _ _ _ ?_
  refine c_ob (by omega) (by rfl) ?_
  rw [req_no e]
  rfl
theorem mregionAt_in (hW8 : 8 ≤ W) (hW : W ≤ 64) (hH8 : 8 ≤ H) (hH : H ≤ 64) {B : Nat} (hB : 4 ≤ B) (hB2 : B ≤ 16) (e : m.1 90 35 = 1) {P : Nat → Bool} {Ms Ad : Nat → Int64} {nb : Nat → Nat} (X : ofI m B P Ms Ad nb) {x y : Nat} (hx : x < W) (hy : y < H) : xM S mX13_regionAt [.ref 90, .int (nI x), .int (nI y)] (E W H n m) = some (.inl (some (.int (ratV P nb (lbN P) (blk B (64 * y + x))))), E W H n (sI m 90 2 0), 0, 0) := by
  obtain ⟨e54, _, _, e134⟩ := X
  have k := isOn_s (S := S) (n := n) (m := sI m 90 2 0) hW8 hW hH8 hH (nI x).toInt64 (nI y).toInt64
  rw [Int32.toInt_toInt64, Int32.toInt_toInt64, nI_toInt (by omega), nI_toInt (by omega), onP_n hx hy] at k
  have k2 := blockOf_s (S := S) (W := W) (H := H) (n := n) (m := sI m 90 2 0) hB hB2 ((sI_ne (by omega)).trans e54) (k := 64 * y + x) (by omega)
  have k256 : blk B (64 * y + x) < 256 := (blk_lt hB (by omega)).1
  generalize blk B (64 * y + x) = K at *
  refine w_X13_regionAt S _ _ _ _ _ ?_
  refine c_pi (by omega) (by rfl) (by rfl) (by rfl) (xPok_int (by decide) (by rfl)) ?_
  refine c_gi (by omega) (by rfl) (by rfl) (by rfl) ?_
  rw [sI_ne (by omega), e]
  refine c_ift (by decide) ?_
  refine c_ob (by omega) (by rfl) ?_
  refine c_qI k ?_
  refine c_iff (by decide) ?_
  refine c_gr (by omega) (by rfl) (by rfl) (by rfl) ?_
  refine c_ob (by omega) (by rfl) ?_
  rw [show (64 : Int32) * nI y + nI x = nI (64 * y + x) from by rw [show (64 : Int32) * nI y = nI (64 * y) from pk_mul 64 y, nI_add]]
  refine c_qI k2 ?_
  refine c_ri (i := K) (by omega) (by rfl) (by rfl) (by rfl) (by first | omega | ((conv => rhs; whnf); first | omega | (show _ < OfNat.ofNat (α := Nat) _; omega))) (by first | omega | ((conv => lhs; whnf); first | omega | (show OfNat.ofNat (α := Nat) _ < _; omega))) (by decide) ?_
  rw [sI_ne (by omega), show m.1 (90 + 44) K = ratV P nb (lbN P) K from e134 K k256]
theorem mregionAt_out (hW8 : 8 ≤ W) (hW : W ≤ 64) (hH8 : 8 ≤ H) (hH : H ≤ 64) (e : m.1 90 35 = 1) {x y : Int32} (v : ¬ (0 ≤ x.toInt ∧ x.toInt < W ∧ 0 ≤ y.toInt ∧ y.toInt < H)) : xM S mX13_regionAt [.ref 90, .int x, .int y] (E W H n m) = some (.inl (some (.int 0)), E W H n (sI m 90 2 2), 0, 0) := by
  have k := isOn_s (S := S) (n := n) (m := sI m 90 2 0) hW8 hW hH8 hH x.toInt64 y.toInt64
  rw [Int32.toInt_toInt64, Int32.toInt_toInt64, show onP W H x.toInt y.toInt = false from decide_eq_false v] at k
  have f := fails_s (S := S) (W := W) (H := H) (n := n) (m := sI m 90 2 0) 2
  rw [sI_sI] at f
  refine w_X13_regionAt S _ _ _ _ _ ?_
  refine c_pi (by omega) (by rfl) (by rfl) (by rfl) (xPok_int (by decide) (by rfl)) ?_
  refine c_gi (by omega) (by rfl) (by rfl) (by rfl) ?_
  rw [sI_ne (by omega), e]
  refine c_ift (by decide) ?_
  refine c_ob (by omega) (by rfl) ?_
  refine c_qI k ?_
  refine c_ift rfl ?_
  refine c_ob (by omega) (by rfl) ?_
  exact c_qI f rfl
theorem mregionAt_no (e : m.1 90 35 = 0) (x y : Int32) : xM S mX13_regionAt [.ref 90, .int x, .int y] (E W H n m) = some (.inl (some (.int 0)), E W H n (sI m 90 2 1), 0, 0) := by
  have f := fails_s (S := S) (W := W) (H := H) (n := n) (m := sI m 90 2 0) 1
  rw [sI_sI] at f
  refine w_X13_regionAt S _ _ _ _ _ ?_
  refine c_pi (by omega) (by rfl) (by rfl) (by rfl) (xPok_int (by decide) (by rfl)) ?_
  refine c_gi (by omega) (by rfl) (by rfl) (by rfl) ?_
  rw [sI_ne (by omega), e]
  refine c_iff (fun w => w rfl) ?_
  refine c_ob (by omega) (by rfl) ?_
  exact c_qI f rfl
end GM

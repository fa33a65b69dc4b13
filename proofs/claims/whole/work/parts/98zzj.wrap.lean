/-! WRAPPERS: the law's own methods around the class -/
theorem wr_I {o : Option xO} {E : String → xH → Option xO} {T : Int32 → xH → Option xO} {x : Int32} {h h2 : xH} {c s : Nat} {v : Option Value ⊕ String} (hc : o = some (.inl (some (.int x)), h, c, s)) (K : T x h = some (v, h2, 0, 0)) : xqI o E T = some (v, h2, c, s) := by
  rw [hc]
  show xadd c s (T x h) = _
  rw [K]
  show some (v, h2, 0 + c, 0 + s) = _
  rw [Nat.zero_add, Nat.zero_add]
theorem wr_J {o : Option xO} {E : String → xH → Option xO} {T : Int64 → xH → Option xO} {x : Int64} {h h2 : xH} {c s : Nat} {v : Option Value ⊕ String} (hc : o = some (.inl (some (.long x)), h, c, s)) (K : T x h = some (v, h2, 0, 0)) : xqJ o E T = some (v, h2, c, s) := by
  rw [hc]
  show xadd c s (T x h) = _
  rw [K]
  show some (v, h2, 0 + c, 0 + s) = _
  rw [Nat.zero_add, Nat.zero_add]
theorem xhE_to {S : xS} {m : xMd} {pc t : Nat} {al : xL} {e : String} {k : Int32} (hh : xhan m.2.2.2.2.2.1 m.2.2.2.2.1 pc e = some (some t)) (hk : ∀ h, xle (some (.inl (some (.int k)), h, 0, 0)) (xden S m t [] [.retAddr 999] h)) (h : xH) : xhE S m pc al e h = some (.inl (some (.int k)), h, 0, 0) := by
  unfold xhE
  rw [hh]
  exact l_al (al' := []) rfl trivial _ (hk h _ rfl)
theorem wx_I {S : xS} {m : xMd} {pc t : Nat} {al : xL} {e : String} {k : Int32} {o : Option xO} {T : Int32 → xH → Option xO} {h : xH} {c s : Nat} (hc : o = some (.inr e, h, c, s)) (hh : xhan m.2.2.2.2.2.1 m.2.2.2.2.1 pc e = some (some t)) (hk : ∀ h, xle (some (.inl (some (.int k)), h, 0, 0)) (xden S m t [] [.retAddr 999] h)) : xqI o (xhE S m pc al) T = some (.inl (some (.int k)), h, c, s) := by
  rw [hc]
  show xadd c s (xhE S m pc al e h) = _
  rw [xhE_to hh hk]
  show some (_, h, 0 + c, 0 + s) = _
  rw [Nat.zero_add, Nat.zero_add]
theorem wx_J {S : xS} {m : xMd} {pc t : Nat} {al : xL} {e : String} {k : Int32} {o : Option xO} {T : Int64 → xH → Option xO} {h : xH} {c s : Nat} (hc : o = some (.inr e, h, c, s)) (hh : xhan m.2.2.2.2.2.1 m.2.2.2.2.1 pc e = some (some t)) (hk : ∀ h, xle (some (.inl (some (.int k)), h, 0, 0)) (xden S m t [] [.retAddr 999] h)) : xqJ o (xhE S m pc al) T = some (.inl (some (.int k)), h, c, s) := by
  rw [hc]
  show xadd c s (xhE S m pc al e h) = _
  rw [xhE_to hh hk]
  show some (_, h, 0 + c, 0 + s) = _
  rw [Nat.zero_add, Nat.zero_add]
section WR
variable {S : xS} {W H n n1 : Nat} {m m1 : mM} {c s : Nat}
theorem W_row {x0 : Int32} {x1 : Int32} {y : Int64} (hc : xM S mX12_row [.ref 0, .int x0, .int x1] (E W H n m) = some (.inl (some (.long y)), E W H n1 m1, c, s)) : xM S mL_row [.ref 0, .int x0, .int x1, .ref 146] (E W H n m) = some (.inl (some (.int 0)), E W H n1 (sL m1 146 0 (y)), c, s) := by
  refine w_L_row S _ _ _ _ _ _ ?_
  refine c_ob (by omega) (by rfl) ?_
  refine wr_J hc ?_
  refine c_wl (i := 0) (by omega) (by rfl) (by rfl) (by first | omega | ((conv => rhs; whnf); first | omega | (show _ < OfNat.ofNat (α := Nat) _; omega))) (by first | omega | ((conv => lhs; whnf); first | omega | (show OfNat.ofNat (α := Nat) _ < _; omega))) ?_
  rfl
theorem W_row_sIO {x0 : Int32} {x1 : Int32} (hc : xM S mX12_row [.ref 0, .int x0, .int x1] (E W H n m) = some (.inr sIO, E W H n m1, c, s)) : xM S mL_row [.ref 0, .int x0, .int x1, .ref 146] (E W H n m) = some (.inl (some (.int 1)), E W H n m1, c, s) := by
  refine w_L_row S _ _ _ _ _ _ ?_
  refine c_ob (by omega) (by rfl) ?_
  exact wx_J hc (by decide +kernel) (w_L_row_12 S)
theorem W_setRow {x0 : Int32} {x1 : Int32} {x2 : Int64} {y : Int32} (hc : xM S mX12_setRow [.ref 0, .int x0, .int x1, .long x2] (E W H n m) = some (.inl (some (.int y)), E W H n1 m1, c, s)) : xM S mL_setRow [.ref 0, .int x0, .int x1, .long x2, .ref 146] (E W H n m) = some (.inl (some (.int 0)), E W H n1 (sL m1 146 0 (y.toInt64)), c, s) := by
  refine w_L_setRow S _ _ _ _ _ _ _ ?_
  refine c_ob (by omega) (by rfl) ?_
  refine wr_I hc ?_
  refine c_wl (i := 0) (by omega) (by rfl) (by rfl) (by first | omega | ((conv => rhs; whnf); first | omega | (show _ < OfNat.ofNat (α := Nat) _; omega))) (by first | omega | ((conv => lhs; whnf); first | omega | (show OfNat.ofNat (α := Nat) _ < _; omega))) ?_
  rfl
theorem W_setRow_sIO {x0 : Int32} {x1 : Int32} {x2 : Int64} (hc : xM S mX12_setRow [.ref 0, .int x0, .int x1, .long x2] (E W H n m) = some (.inr sIO, E W H n m1, c, s)) : xM S mL_setRow [.ref 0, .int x0, .int x1, .long x2, .ref 146] (E W H n m) = some (.inl (some (.int 1)), E W H n m1, c, s) := by
  refine w_L_setRow S _ _ _ _ _ _ _ ?_
  refine c_ob (by omega) (by rfl) ?_
  exact wx_I hc (by decide +kernel) (w_L_setRow_15 S)
theorem W_fill {x0 : Int32} {x1 : Int32} {x2 : Int32} {x3 : Int32} {x4 : Int32} {x5 : Int32} {y : Int32} (hc : xM S mX12_fill [.ref 0, .int x0, .int x1, .int x2, .int x3, .int x4, .int x5] (E W H n m) = some (.inl (some (.int y)), E W H n1 m1, c, s)) : xM S mL_fill [.ref 0, .int x0, .int x1, .int x2, .int x3, .int x4, .int x5, .ref 146] (E W H n m) = some (.inl (some (.int 0)), E W H n1 (sL m1 146 0 (y.toInt64)), c, s) := by
  refine w_L_fill S _ _ _ _ _ _ _ _ _ _ ?_
  refine c_ob (by omega) (by rfl) ?_
  refine wr_I hc ?_
  refine c_wl (i := 0) (by omega) (by rfl) (by rfl) (by first | omega | ((conv => rhs; whnf); first | omega | (show _ < OfNat.ofNat (α := Nat) _; omega))) (by first | omega | ((conv => lhs; whnf); first | omega | (show OfNat.ofNat (α := Nat) _ < _; omega))) ?_
  rfl
theorem W_fill_sIO {x0 : Int32} {x1 : Int32} {x2 : Int32} {x3 : Int32} {x4 : Int32} {x5 : Int32} (hc : xM S mX12_fill [.ref 0, .int x0, .int x1, .int x2, .int x3, .int x4, .int x5] (E W H n m) = some (.inr sIO, E W H n m1, c, s)) : xM S mL_fill [.ref 0, .int x0, .int x1, .int x2, .int x3, .int x4, .int x5, .ref 146] (E W H n m) = some (.inl (some (.int 1)), E W H n m1, c, s) := by
  refine w_L_fill S _ _ _ _ _ _ _ _ _ _ ?_
  refine c_ob (by omega) (by rfl) ?_
  exact wx_I hc (by decide +kernel) (w_L_fill_21 S)
theorem W_fill_sIA {x0 : Int32} {x1 : Int32} {x2 : Int32} {x3 : Int32} {x4 : Int32} {x5 : Int32} (hc : xM S mX12_fill [.ref 0, .int x0, .int x1, .int x2, .int x3, .int x4, .int x5] (E W H n m) = some (.inr sIA, E W H n m1, c, s)) : xM S mL_fill [.ref 0, .int x0, .int x1, .int x2, .int x3, .int x4, .int x5, .ref 146] (E W H n m) = some (.inl (some (.int 2)), E W H n m1, c, s) := by
  refine w_L_fill S _ _ _ _ _ _ _ _ _ _ ?_
  refine c_ob (by omega) (by rfl) ?_
  exact wx_I hc (by decide +kernel) (w_L_fill_25 S)
theorem W_copy {x0 : Int32} {x1 : Int32} {x2 : Int32} {x3 : Int32} {y : Int32} (hc : xM S mX12_copy [.ref 0, .int x0, .int x1, .int x2, .int x3] (E W H n m) = some (.inl (some (.int y)), E W H n1 m1, c, s)) : xM S mL_copy [.ref 0, .int x0, .int x1, .int x2, .int x3, .ref 146] (E W H n m) = some (.inl (some (.int 0)), E W H n1 (sL m1 146 0 (y.toInt64)), c, s) := by
  refine w_L_copy S _ _ _ _ _ _ _ _ ?_
  refine c_ob (by omega) (by rfl) ?_
  refine wr_I hc ?_
  refine c_wl (i := 0) (by omega) (by rfl) (by rfl) (by first | omega | ((conv => rhs; whnf); first | omega | (show _ < OfNat.ofNat (α := Nat) _; omega))) (by first | omega | ((conv => lhs; whnf); first | omega | (show OfNat.ofNat (α := Nat) _ < _; omega))) ?_
  rfl
theorem W_copy_sIO {x0 : Int32} {x1 : Int32} {x2 : Int32} {x3 : Int32} (hc : xM S mX12_copy [.ref 0, .int x0, .int x1, .int x2, .int x3] (E W H n m) = some (.inr sIO, E W H n m1, c, s)) : xM S mL_copy [.ref 0, .int x0, .int x1, .int x2, .int x3, .ref 146] (E W H n m) = some (.inl (some (.int 1)), E W H n m1, c, s) := by
  refine w_L_copy S _ _ _ _ _ _ _ _ ?_
  refine c_ob (by omega) (by rfl) ?_
  exact wx_I hc (by decide +kernel) (w_L_copy_17 S)
theorem W_merge {x0 : Int32} {y : Int32} (hc : xM S mX12_merge [.ref 0, .int x0] (E W H n m) = some (.inl (some (.int y)), E W H n1 m1, c, s)) : xM S mL_merge [.ref 0, .int x0, .ref 146] (E W H n m) = some (.inl (some (.int 0)), E W H n1 (sL m1 146 0 (y.toInt64)), c, s) := by
  refine w_L_merge S _ _ _ _ _ ?_
  refine c_ob (by omega) (by rfl) ?_
  refine wr_I hc ?_
  refine c_wl (i := 0) (by omega) (by rfl) (by rfl) (by first | omega | ((conv => rhs; whnf); first | omega | (show _ < OfNat.ofNat (α := Nat) _; omega))) (by first | omega | ((conv => lhs; whnf); first | omega | (show OfNat.ofNat (α := Nat) _ < _; omega))) ?_
  rfl
theorem W_merge_sIO {x0 : Int32} (hc : xM S mX12_merge [.ref 0, .int x0] (E W H n m) = some (.inr sIO, E W H n m1, c, s)) : xM S mL_merge [.ref 0, .int x0, .ref 146] (E W H n m) = some (.inl (some (.int 1)), E W H n m1, c, s) := by
  refine w_L_merge S _ _ _ _ _ ?_
  refine c_ob (by omega) (by rfl) ?_
  exact wx_I hc (by decide +kernel) (w_L_merge_12 S)
theorem W_flip {x0 : Int32} {x1 : Int32} {y : Int32} (hc : xM S mX12_flip [.ref 0, .int x0, .int x1] (E W H n m) = some (.inl (some (.int y)), E W H n1 m1, c, s)) : xM S mL_flip [.ref 0, .int x0, .int x1, .ref 146] (E W H n m) = some (.inl (some (.int 0)), E W H n1 (sL m1 146 0 (y.toInt64)), c, s) := by
  refine w_L_flip S _ _ _ _ _ _ ?_
  refine c_ob (by omega) (by rfl) ?_
  refine wr_I hc ?_
  refine c_wl (i := 0) (by omega) (by rfl) (by rfl) (by first | omega | ((conv => rhs; whnf); first | omega | (show _ < OfNat.ofNat (α := Nat) _; omega))) (by first | omega | ((conv => lhs; whnf); first | omega | (show OfNat.ofNat (α := Nat) _ < _; omega))) ?_
  rfl
theorem W_flip_sIO {x0 : Int32} {x1 : Int32} (hc : xM S mX12_flip [.ref 0, .int x0, .int x1] (E W H n m) = some (.inr sIO, E W H n m1, c, s)) : xM S mL_flip [.ref 0, .int x0, .int x1, .ref 146] (E W H n m) = some (.inl (some (.int 1)), E W H n m1, c, s) := by
  refine w_L_flip S _ _ _ _ _ _ ?_
  refine c_ob (by omega) (by rfl) ?_
  exact wx_I hc (by decide +kernel) (w_L_flip_13 S)
theorem W_flip_sIA {x0 : Int32} {x1 : Int32} (hc : xM S mX12_flip [.ref 0, .int x0, .int x1] (E W H n m) = some (.inr sIA, E W H n m1, c, s)) : xM S mL_flip [.ref 0, .int x0, .int x1, .ref 146] (E W H n m) = some (.inl (some (.int 2)), E W H n m1, c, s) := by
  refine w_L_flip S _ _ _ _ _ _ ?_
  refine c_ob (by omega) (by rfl) ?_
  exact wx_I hc (by decide +kernel) (w_L_flip_17 S)
theorem W_despeckle {x0 : Int32} {x1 : Int32} {y : Int32} (hc : xM S mX12_despeckle [.ref 0, .int x0, .int x1] (E W H n m) = some (.inl (some (.int y)), E W H n1 m1, c, s)) : xM S mL_despeckle [.ref 0, .int x0, .int x1, .ref 146] (E W H n m) = some (.inl (some (.int 0)), E W H n1 (sL m1 146 0 (y.toInt64)), c, s) := by
  refine w_L_despeckle S _ _ _ _ _ _ ?_
  refine c_ob (by omega) (by rfl) ?_
  refine wr_I hc ?_
  refine c_wl (i := 0) (by omega) (by rfl) (by rfl) (by first | omega | ((conv => rhs; whnf); first | omega | (show _ < OfNat.ofNat (α := Nat) _; omega))) (by first | omega | ((conv => lhs; whnf); first | omega | (show OfNat.ofNat (α := Nat) _ < _; omega))) ?_
  rfl
theorem W_despeckle_sIO {x0 : Int32} {x1 : Int32} (hc : xM S mX12_despeckle [.ref 0, .int x0, .int x1] (E W H n m) = some (.inr sIO, E W H n m1, c, s)) : xM S mL_despeckle [.ref 0, .int x0, .int x1, .ref 146] (E W H n m) = some (.inl (some (.int 1)), E W H n m1, c, s) := by
  refine w_L_despeckle S _ _ _ _ _ _ ?_
  refine c_ob (by omega) (by rfl) ?_
  exact wx_I hc (by decide +kernel) (w_L_despeckle_13 S)
theorem W_despeckle_sIA {x0 : Int32} {x1 : Int32} (hc : xM S mX12_despeckle [.ref 0, .int x0, .int x1] (E W H n m) = some (.inr sIA, E W H n m1, c, s)) : xM S mL_despeckle [.ref 0, .int x0, .int x1, .ref 146] (E W H n m) = some (.inl (some (.int 2)), E W H n m1, c, s) := by
  refine w_L_despeckle S _ _ _ _ _ _ ?_
  refine c_ob (by omega) (by rfl) ?_
  exact wx_I hc (by decide +kernel) (w_L_despeckle_17 S)
theorem W_paste {x0 : Int32} {x1 : Int32} {x2 : Int32} {y : Int32} (hc : xM S mX12_paste [.ref 0, .int x0, .int x1, .int x2] (E W H n m) = some (.inl (some (.int y)), E W H n1 m1, c, s)) : xM S mL_paste [.ref 0, .int x0, .int x1, .int x2, .ref 146] (E W H n m) = some (.inl (some (.int 0)), E W H n1 (sL m1 146 0 (y.toInt64)), c, s) := by
  refine w_L_paste S _ _ _ _ _ _ _ ?_
  refine c_ob (by omega) (by rfl) ?_
  refine wr_I hc ?_
  refine c_wl (i := 0) (by omega) (by rfl) (by rfl) (by first | omega | ((conv => rhs; whnf); first | omega | (show _ < OfNat.ofNat (α := Nat) _; omega))) (by first | omega | ((conv => lhs; whnf); first | omega | (show OfNat.ofNat (α := Nat) _ < _; omega))) ?_
  rfl
theorem W_paste_sIO {x0 : Int32} {x1 : Int32} {x2 : Int32} (hc : xM S mX12_paste [.ref 0, .int x0, .int x1, .int x2] (E W H n m) = some (.inr sIO, E W H n m1, c, s)) : xM S mL_paste [.ref 0, .int x0, .int x1, .int x2, .ref 146] (E W H n m) = some (.inl (some (.int 1)), E W H n m1, c, s) := by
  refine w_L_paste S _ _ _ _ _ _ _ ?_
  refine c_ob (by omega) (by rfl) ?_
  exact wx_I hc (by decide +kernel) (w_L_paste_15 S)
theorem W_components {x0 : Int32} {y : Int32} (hc : xM S mX12_components [.ref 0, .int x0] (E W H n m) = some (.inl (some (.int y)), E W H n1 m1, c, s)) : xM S mL_components [.ref 0, .int x0, .ref 146] (E W H n m) = some (.inl (some (.int 0)), E W H n1 (sL m1 146 0 (y.toInt64)), c, s) := by
  refine w_L_components S _ _ _ _ _ ?_
  refine c_ob (by omega) (by rfl) ?_
  refine wr_I hc ?_
  refine c_wl (i := 0) (by omega) (by rfl) (by rfl) (by first | omega | ((conv => rhs; whnf); first | omega | (show _ < OfNat.ofNat (α := Nat) _; omega))) (by first | omega | ((conv => lhs; whnf); first | omega | (show OfNat.ofNat (α := Nat) _ < _; omega))) ?_
  rfl
theorem W_components_sIO {x0 : Int32} (hc : xM S mX12_components [.ref 0, .int x0] (E W H n m) = some (.inr sIO, E W H n m1, c, s)) : xM S mL_components [.ref 0, .int x0, .ref 146] (E W H n m) = some (.inl (some (.int 1)), E W H n m1, c, s) := by
  refine w_L_components S _ _ _ _ _ ?_
  refine c_ob (by omega) (by rfl) ?_
  exact wx_I hc (by decide +kernel) (w_L_components_12 S)
theorem W_lines {x0 : Int32} {y : Int32} (hc : xM S mX12_lines [.ref 0, .int x0] (E W H n m) = some (.inl (some (.int y)), E W H n1 m1, c, s)) : xM S mL_lines [.ref 0, .int x0, .ref 146] (E W H n m) = some (.inl (some (.int 0)), E W H n1 (sL m1 146 0 (y.toInt64)), c, s) := by
  refine w_L_lines S _ _ _ _ _ ?_
  refine c_ob (by omega) (by rfl) ?_
  refine wr_I hc ?_
  refine c_wl (i := 0) (by omega) (by rfl) (by rfl) (by first | omega | ((conv => rhs; whnf); first | omega | (show _ < OfNat.ofNat (α := Nat) _; omega))) (by first | omega | ((conv => lhs; whnf); first | omega | (show OfNat.ofNat (α := Nat) _ < _; omega))) ?_
  rfl
theorem W_lines_sIO {x0 : Int32} (hc : xM S mX12_lines [.ref 0, .int x0] (E W H n m) = some (.inr sIO, E W H n m1, c, s)) : xM S mL_lines [.ref 0, .int x0, .ref 146] (E W H n m) = some (.inl (some (.int 1)), E W H n m1, c, s) := by
  refine w_L_lines S _ _ _ _ _ ?_
  refine c_ob (by omega) (by rfl) ?_
  exact wx_I hc (by decide +kernel) (w_L_lines_12 S)
theorem W_lineTop {x0 : Int32} {x1 : Int32} {y : Int32} (hc : xM S mX12_lineTop [.ref 0, .int x0, .int x1] (E W H n m) = some (.inl (some (.int y)), E W H n1 m1, c, s)) : xM S mL_lineTop [.ref 0, .int x0, .int x1, .ref 146] (E W H n m) = some (.inl (some (.int 0)), E W H n1 (sL m1 146 0 (y.toInt64)), c, s) := by
  refine w_L_lineTop S _ _ _ _ _ _ ?_
  refine c_ob (by omega) (by rfl) ?_
  refine wr_I hc ?_
  refine c_wl (i := 0) (by omega) (by rfl) (by rfl) (by first | omega | ((conv => rhs; whnf); first | omega | (show _ < OfNat.ofNat (α := Nat) _; omega))) (by first | omega | ((conv => lhs; whnf); first | omega | (show OfNat.ofNat (α := Nat) _ < _; omega))) ?_
  rfl
theorem W_lineTop_sIO {x0 : Int32} {x1 : Int32} (hc : xM S mX12_lineTop [.ref 0, .int x0, .int x1] (E W H n m) = some (.inr sIO, E W H n m1, c, s)) : xM S mL_lineTop [.ref 0, .int x0, .int x1, .ref 146] (E W H n m) = some (.inl (some (.int 1)), E W H n m1, c, s) := by
  refine w_L_lineTop S _ _ _ _ _ _ ?_
  refine c_ob (by omega) (by rfl) ?_
  exact wx_I hc (by decide +kernel) (w_L_lineTop_13 S)
theorem W_lineBottom {x0 : Int32} {x1 : Int32} {y : Int32} (hc : xM S mX12_lineBottom [.ref 0, .int x0, .int x1] (E W H n m) = some (.inl (some (.int y)), E W H n1 m1, c, s)) : xM S mL_lineBottom [.ref 0, .int x0, .int x1, .ref 146] (E W H n m) = some (.inl (some (.int 0)), E W H n1 (sL m1 146 0 (y.toInt64)), c, s) := by
  refine w_L_lineBottom S _ _ _ _ _ _ ?_
  refine c_ob (by omega) (by rfl) ?_
  refine wr_I hc ?_
  refine c_wl (i := 0) (by omega) (by rfl) (by rfl) (by first | omega | ((conv => rhs; whnf); first | omega | (show _ < OfNat.ofNat (α := Nat) _; omega))) (by first | omega | ((conv => lhs; whnf); first | omega | (show OfNat.ofNat (α := Nat) _ < _; omega))) ?_
  rfl
theorem W_lineBottom_sIO {x0 : Int32} {x1 : Int32} (hc : xM S mX12_lineBottom [.ref 0, .int x0, .int x1] (E W H n m) = some (.inr sIO, E W H n m1, c, s)) : xM S mL_lineBottom [.ref 0, .int x0, .int x1, .ref 146] (E W H n m) = some (.inl (some (.int 1)), E W H n m1, c, s) := by
  refine w_L_lineBottom S _ _ _ _ _ _ ?_
  refine c_ob (by omega) (by rfl) ?_
  exact wx_I hc (by decide +kernel) (w_L_lineBottom_13 S)
theorem W_words {x0 : Int32} {x1 : Int32} {x2 : Int32} {y : Int32} (hc : xM S mX12_words [.ref 0, .int x0, .int x1, .int x2] (E W H n m) = some (.inl (some (.int y)), E W H n1 m1, c, s)) : xM S mL_words [.ref 0, .int x0, .int x1, .int x2, .ref 146] (E W H n m) = some (.inl (some (.int 0)), E W H n1 (sL m1 146 0 (y.toInt64)), c, s) := by
  refine w_L_words S _ _ _ _ _ _ _ ?_
  refine c_ob (by omega) (by rfl) ?_
  refine wr_I hc ?_
  refine c_wl (i := 0) (by omega) (by rfl) (by rfl) (by first | omega | ((conv => rhs; whnf); first | omega | (show _ < OfNat.ofNat (α := Nat) _; omega))) (by first | omega | ((conv => lhs; whnf); first | omega | (show OfNat.ofNat (α := Nat) _ < _; omega))) ?_
  rfl
theorem W_words_sIO {x0 : Int32} {x1 : Int32} {x2 : Int32} (hc : xM S mX12_words [.ref 0, .int x0, .int x1, .int x2] (E W H n m) = some (.inr sIO, E W H n m1, c, s)) : xM S mL_words [.ref 0, .int x0, .int x1, .int x2, .ref 146] (E W H n m) = some (.inl (some (.int 1)), E W H n m1, c, s) := by
  refine w_L_words S _ _ _ _ _ _ _ ?_
  refine c_ob (by omega) (by rfl) ?_
  exact wx_I hc (by decide +kernel) (w_L_words_15 S)
theorem W_words_sIA {x0 : Int32} {x1 : Int32} {x2 : Int32} (hc : xM S mX12_words [.ref 0, .int x0, .int x1, .int x2] (E W H n m) = some (.inr sIA, E W H n m1, c, s)) : xM S mL_words [.ref 0, .int x0, .int x1, .int x2, .ref 146] (E W H n m) = some (.inl (some (.int 2)), E W H n m1, c, s) := by
  refine w_L_words S _ _ _ _ _ _ _ ?_
  refine c_ob (by omega) (by rfl) ?_
  exact wx_I hc (by decide +kernel) (w_L_words_19 S)
theorem W_ink {x0 : Int32} {x1 : Int32} {x2 : Int32} {x3 : Int32} {x4 : Int32} {y : Int32} (hc : xM S mX12_ink [.ref 0, .int x0, .int x1, .int x2, .int x3, .int x4] (E W H n m) = some (.inl (some (.int y)), E W H n1 m1, c, s)) : xM S mL_ink [.ref 0, .int x0, .int x1, .int x2, .int x3, .int x4, .ref 146] (E W H n m) = some (.inl (some (.int 0)), E W H n1 (sL m1 146 0 (y.toInt64)), c, s) := by
  refine w_L_ink S _ _ _ _ _ _ _ _ _ ?_
  refine c_ob (by omega) (by rfl) ?_
  refine wr_I hc ?_
  refine c_wl (i := 0) (by omega) (by rfl) (by rfl) (by first | omega | ((conv => rhs; whnf); first | omega | (show _ < OfNat.ofNat (α := Nat) _; omega))) (by first | omega | ((conv => lhs; whnf); first | omega | (show OfNat.ofNat (α := Nat) _ < _; omega))) ?_
  rfl
theorem W_ink_sIO {x0 : Int32} {x1 : Int32} {x2 : Int32} {x3 : Int32} {x4 : Int32} (hc : xM S mX12_ink [.ref 0, .int x0, .int x1, .int x2, .int x3, .int x4] (E W H n m) = some (.inr sIO, E W H n m1, c, s)) : xM S mL_ink [.ref 0, .int x0, .int x1, .int x2, .int x3, .int x4, .ref 146] (E W H n m) = some (.inl (some (.int 1)), E W H n m1, c, s) := by
  refine w_L_ink S _ _ _ _ _ _ _ _ _ ?_
  refine c_ob (by omega) (by rfl) ?_
  exact wx_I hc (by decide +kernel) (w_L_ink_19 S)
theorem W_ink_sIA {x0 : Int32} {x1 : Int32} {x2 : Int32} {x3 : Int32} {x4 : Int32} (hc : xM S mX12_ink [.ref 0, .int x0, .int x1, .int x2, .int x3, .int x4] (E W H n m) = some (.inr sIA, E W H n m1, c, s)) : xM S mL_ink [.ref 0, .int x0, .int x1, .int x2, .int x3, .int x4, .ref 146] (E W H n m) = some (.inl (some (.int 2)), E W H n m1, c, s) := by
  refine w_L_ink S _ _ _ _ _ _ _ _ _ ?_
  refine c_ob (by omega) (by rfl) ?_
  exact wx_I hc (by decide +kernel) (w_L_ink_23 S)
theorem W_fingerprint {x0 : Int32} {y : Int64} (hc : xM S mX12_fingerprint [.ref 0, .int x0] (E W H n m) = some (.inl (some (.long y)), E W H n1 m1, c, s)) : xM S mL_fingerprint [.ref 0, .int x0, .ref 146] (E W H n m) = some (.inl (some (.int 0)), E W H n1 (sL m1 146 0 (y)), c, s) := by
  refine w_L_fingerprint S _ _ _ _ _ ?_
  refine c_ob (by omega) (by rfl) ?_
  refine wr_J hc ?_
  refine c_wl (i := 0) (by omega) (by rfl) (by rfl) (by first | omega | ((conv => rhs; whnf); first | omega | (show _ < OfNat.ofNat (α := Nat) _; omega))) (by first | omega | ((conv => lhs; whnf); first | omega | (show OfNat.ofNat (α := Nat) _ < _; omega))) ?_
  rfl
theorem W_fingerprint_sIO {x0 : Int32} (hc : xM S mX12_fingerprint [.ref 0, .int x0] (E W H n m) = some (.inr sIO, E W H n m1, c, s)) : xM S mL_fingerprint [.ref 0, .int x0, .ref 146] (E W H n m) = some (.inl (some (.int 1)), E W H n m1, c, s) := by
  refine w_L_fingerprint S _ _ _ _ _ ?_
  refine c_ob (by omega) (by rfl) ?_
  exact wx_J hc (by decide +kernel) (w_L_fingerprint_11 S)
theorem W_undo  {y : Int32} (hc : xM S mX12_undo [.ref 0] (E W H n m) = some (.inl (some (.int y)), E W H n1 m1, c, s)) : xM S mL_undo [.ref 0, .ref 146] (E W H n m) = some (.inl (some (.int 0)), E W H n1 (sL m1 146 0 (y.toInt64)), c, s) := by
  refine w_L_undo S _ _ _ _ ?_
  refine c_ob (by omega) (by rfl) ?_
  refine wr_I hc ?_
  refine c_wl (i := 0) (by omega) (by rfl) (by rfl) (by first | omega | ((conv => rhs; whnf); first | omega | (show _ < OfNat.ofNat (α := Nat) _; omega))) (by first | omega | ((conv => lhs; whnf); first | omega | (show OfNat.ofNat (α := Nat) _ < _; omega))) ?_
  rfl
theorem W_undo_sIS  (hc : xM S mX12_undo [.ref 0] (E W H n m) = some (.inr sIS, E W H n m1, c, s)) : xM S mL_undo [.ref 0, .ref 146] (E W H n m) = some (.inl (some (.int 1)), E W H n m1, c, s) := by
  refine w_L_undo S _ _ _ _ ?_
  refine c_ob (by omega) (by rfl) ?_
  exact wx_I hc (by decide +kernel) (w_L_undo_11 S)
theorem W_type {x0 : Int32} {y : Int32} (hc : xM S mX12_type [.ref 0, .int x0] (E W H n m) = some (.inl (some (.int y)), E W H n1 m1, c, s)) : xM S mL_type [.ref 0, .int x0, .ref 146] (E W H n m) = some (.inl (some (.int 0)), E W H n1 (sL m1 146 0 (y.toInt64)), c, s) := by
  refine w_L_type S _ _ _ _ _ ?_
  refine c_ob (by omega) (by rfl) ?_
  refine wr_I hc ?_
  refine c_wl (i := 0) (by omega) (by rfl) (by rfl) (by first | omega | ((conv => rhs; whnf); first | omega | (show _ < OfNat.ofNat (α := Nat) _; omega))) (by first | omega | ((conv => lhs; whnf); first | omega | (show OfNat.ofNat (α := Nat) _ < _; omega))) ?_
  rfl
theorem W_type_sIA {x0 : Int32} (hc : xM S mX12_type [.ref 0, .int x0] (E W H n m) = some (.inr sIA, E W H n m1, c, s)) : xM S mL_type [.ref 0, .int x0, .ref 146] (E W H n m) = some (.inl (some (.int 1)), E W H n m1, c, s) := by
  refine w_L_type S _ _ _ _ _ ?_
  refine c_ob (by omega) (by rfl) ?_
  exact wx_I hc (by decide +kernel) (w_L_type_12 S)
theorem W_type_sIS {x0 : Int32} (hc : xM S mX12_type [.ref 0, .int x0] (E W H n m) = some (.inr sIS, E W H n m1, c, s)) : xM S mL_type [.ref 0, .int x0, .ref 146] (E W H n m) = some (.inl (some (.int 2)), E W H n m1, c, s) := by
  refine w_L_type S _ _ _ _ _ ?_
  refine c_ob (by omega) (by rfl) ?_
  exact wx_I hc (by decide +kernel) (w_L_type_15 S)
theorem W_setting {x0 : Int32} {y : Int32} (hc : xM S mX12_setting [.ref 0, .int x0] (E W H n m) = some (.inl (some (.int y)), E W H n1 m1, c, s)) : xM S mL_setting [.ref 0, .int x0, .ref 146] (E W H n m) = some (.inl (some (.int 0)), E W H n1 (sL m1 146 0 (y.toInt64)), c, s) := by
  refine w_L_setting S _ _ _ _ _ ?_
  refine c_ob (by omega) (by rfl) ?_
  refine wr_I hc ?_
  refine c_wl (i := 0) (by omega) (by rfl) (by rfl) (by first | omega | ((conv => rhs; whnf); first | omega | (show _ < OfNat.ofNat (α := Nat) _; omega))) (by first | omega | ((conv => lhs; whnf); first | omega | (show OfNat.ofNat (α := Nat) _ < _; omega))) ?_
  rfl
theorem W_setting_sIO {x0 : Int32} (hc : xM S mX12_setting [.ref 0, .int x0] (E W H n m) = some (.inr sIO, E W H n m1, c, s)) : xM S mL_setting [.ref 0, .int x0, .ref 146] (E W H n m) = some (.inl (some (.int 1)), E W H n m1, c, s) := by
  refine w_L_setting S _ _ _ _ _ ?_
  refine c_ob (by omega) (by rfl) ?_
  exact wx_I hc (by decide +kernel) (w_L_setting_12 S)
theorem W_configChar {x0 : Int32} {y : Int32} (hc : xM S mX12_configChar [.ref 0, .int x0] (E W H n m) = some (.inl (some (.int y)), E W H n1 m1, c, s)) : xM S mL_configChar [.ref 0, .int x0, .ref 146] (E W H n m) = some (.inl (some (.int 0)), E W H n1 (sL m1 146 0 (y.toInt64)), c, s) := by
  refine w_L_configChar S _ _ _ _ _ ?_
  refine c_ob (by omega) (by rfl) ?_
  refine wr_I hc ?_
  refine c_wl (i := 0) (by omega) (by rfl) (by rfl) (by first | omega | ((conv => rhs; whnf); first | omega | (show _ < OfNat.ofNat (α := Nat) _; omega))) (by first | omega | ((conv => lhs; whnf); first | omega | (show OfNat.ofNat (α := Nat) _ < _; omega))) ?_
  rfl
theorem W_configChar_sIO {x0 : Int32} (hc : xM S mX12_configChar [.ref 0, .int x0] (E W H n m) = some (.inr sIO, E W H n m1, c, s)) : xM S mL_configChar [.ref 0, .int x0, .ref 146] (E W H n m) = some (.inl (some (.int 1)), E W H n m1, c, s) := by
  refine w_L_configChar S _ _ _ _ _ ?_
  refine c_ob (by omega) (by rfl) ?_
  exact wx_I hc (by decide +kernel) (w_L_configChar_12 S)
theorem W_addMask {x0 : Int32} {x1 : Int32} {x2 : Int32} {x3 : Int32} {y : Int32} (hc : xM S mX12_addMask [.ref 0, .int x0, .int x1, .int x2, .int x3] (E W H n m) = some (.inl (some (.int y)), E W H n1 m1, c, s)) : xM S mL_addMask [.ref 0, .int x0, .int x1, .int x2, .int x3, .ref 146] (E W H n m) = some (.inl (some (.int 0)), E W H n1 (sL m1 146 0 (y.toInt64)), c, s) := by
  refine w_L_addMask S _ _ _ _ _ _ _ _ ?_
  refine c_ob (by omega) (by rfl) ?_
  refine wr_I hc ?_
  refine c_wl (i := 0) (by omega) (by rfl) (by rfl) (by first | omega | ((conv => rhs; whnf); first | omega | (show _ < OfNat.ofNat (α := Nat) _; omega))) (by first | omega | ((conv => lhs; whnf); first | omega | (show OfNat.ofNat (α := Nat) _ < _; omega))) ?_
  rfl
theorem W_addMask_sIA {x0 : Int32} {x1 : Int32} {x2 : Int32} {x3 : Int32} (hc : xM S mX12_addMask [.ref 0, .int x0, .int x1, .int x2, .int x3] (E W H n m) = some (.inr sIA, E W H n m1, c, s)) : xM S mL_addMask [.ref 0, .int x0, .int x1, .int x2, .int x3, .ref 146] (E W H n m) = some (.inl (some (.int 1)), E W H n m1, c, s) := by
  refine w_L_addMask S _ _ _ _ _ _ _ _ ?_
  refine c_ob (by omega) (by rfl) ?_
  exact wx_I hc (by decide +kernel) (w_L_addMask_17 S)
theorem W_addMask_sIS {x0 : Int32} {x1 : Int32} {x2 : Int32} {x3 : Int32} (hc : xM S mX12_addMask [.ref 0, .int x0, .int x1, .int x2, .int x3] (E W H n m) = some (.inr sIS, E W H n m1, c, s)) : xM S mL_addMask [.ref 0, .int x0, .int x1, .int x2, .int x3, .ref 146] (E W H n m) = some (.inl (some (.int 2)), E W H n m1, c, s) := by
  refine w_L_addMask S _ _ _ _ _ _ _ _ ?_
  refine c_ob (by omega) (by rfl) ?_
  exact wx_I hc (by decide +kernel) (w_L_addMask_21 S)
theorem W_removeMask {x0 : Int32} {y : Int32} (hc : xM S mX12_removeMask [.ref 0, .int x0] (E W H n m) = some (.inl (some (.int y)), E W H n1 m1, c, s)) : xM S mL_removeMask [.ref 0, .int x0, .ref 146] (E W H n m) = some (.inl (some (.int 0)), E W H n1 (sL m1 146 0 (y.toInt64)), c, s) := by
  refine w_L_removeMask S _ _ _ _ _ ?_
  refine c_ob (by omega) (by rfl) ?_
  refine wr_I hc ?_
  refine c_wl (i := 0) (by omega) (by rfl) (by rfl) (by first | omega | ((conv => rhs; whnf); first | omega | (show _ < OfNat.ofNat (α := Nat) _; omega))) (by first | omega | ((conv => lhs; whnf); first | omega | (show OfNat.ofNat (α := Nat) _ < _; omega))) ?_
  rfl
theorem W_removeMask_sIO {x0 : Int32} (hc : xM S mX12_removeMask [.ref 0, .int x0] (E W H n m) = some (.inr sIO, E W H n m1, c, s)) : xM S mL_removeMask [.ref 0, .int x0, .ref 146] (E W H n m) = some (.inl (some (.int 1)), E W H n m1, c, s) := by
  refine w_L_removeMask S _ _ _ _ _ ?_
  refine c_ob (by omega) (by rfl) ?_
  exact wx_I hc (by decide +kernel) (w_L_removeMask_12 S)
theorem W_shiftX  {y : Int32} (hc : xM S mX12_shiftX [.ref 0] (E W H n m) = some (.inl (some (.int y)), E W H n1 m1, c, s)) : xM S mL_shiftX [.ref 0, .ref 146] (E W H n m) = some (.inl (some (.int 0)), E W H n1 (sL m1 146 0 (y.toInt64)), c, s) := by
  refine w_L_shiftX S _ _ _ _ ?_
  refine c_ob (by omega) (by rfl) ?_
  refine wr_I hc ?_
  refine c_wl (i := 0) (by omega) (by rfl) (by rfl) (by first | omega | ((conv => rhs; whnf); first | omega | (show _ < OfNat.ofNat (α := Nat) _; omega))) (by first | omega | ((conv => lhs; whnf); first | omega | (show OfNat.ofNat (α := Nat) _ < _; omega))) ?_
  rfl
theorem W_shiftX_sIS  (hc : xM S mX12_shiftX [.ref 0] (E W H n m) = some (.inr sIS, E W H n m1, c, s)) : xM S mL_shiftX [.ref 0, .ref 146] (E W H n m) = some (.inl (some (.int 1)), E W H n m1, c, s) := by
  refine w_L_shiftX S _ _ _ _ ?_
  refine c_ob (by omega) (by rfl) ?_
  exact wx_I hc (by decide +kernel) (w_L_shiftX_11 S)
theorem W_shiftY  {y : Int32} (hc : xM S mX12_shiftY [.ref 0] (E W H n m) = some (.inl (some (.int y)), E W H n1 m1, c, s)) : xM S mL_shiftY [.ref 0, .ref 146] (E W H n m) = some (.inl (some (.int 0)), E W H n1 (sL m1 146 0 (y.toInt64)), c, s) := by
  refine w_L_shiftY S _ _ _ _ ?_
  refine c_ob (by omega) (by rfl) ?_
  refine wr_I hc ?_
  refine c_wl (i := 0) (by omega) (by rfl) (by rfl) (by first | omega | ((conv => rhs; whnf); first | omega | (show _ < OfNat.ofNat (α := Nat) _; omega))) (by first | omega | ((conv => lhs; whnf); first | omega | (show OfNat.ofNat (α := Nat) _ < _; omega))) ?_
  rfl
theorem W_shiftY_sIS  (hc : xM S mX12_shiftY [.ref 0] (E W H n m) = some (.inr sIS, E W H n m1, c, s)) : xM S mL_shiftY [.ref 0, .ref 146] (E W H n m) = some (.inl (some (.int 1)), E W H n m1, c, s) := by
  refine w_L_shiftY S _ _ _ _ ?_
  refine c_ob (by omega) (by rfl) ?_
  exact wx_I hc (by decide +kernel) (w_L_shiftY_11 S)
theorem W_skew  {y : Int32} (hc : xM S mX12_skew [.ref 0] (E W H n m) = some (.inl (some (.int y)), E W H n1 m1, c, s)) : xM S mL_skew [.ref 0, .ref 146] (E W H n m) = some (.inl (some (.int 0)), E W H n1 (sL m1 146 0 (y.toInt64)), c, s) := by
  refine w_L_skew S _ _ _ _ ?_
  refine c_ob (by omega) (by rfl) ?_
  refine wr_I hc ?_
  refine c_wl (i := 0) (by omega) (by rfl) (by rfl) (by first | omega | ((conv => rhs; whnf); first | omega | (show _ < OfNat.ofNat (α := Nat) _; omega))) (by first | omega | ((conv => lhs; whnf); first | omega | (show OfNat.ofNat (α := Nat) _ < _; omega))) ?_
  rfl
theorem W_skew_sIS  (hc : xM S mX12_skew [.ref 0] (E W H n m) = some (.inr sIS, E W H n m1, c, s)) : xM S mL_skew [.ref 0, .ref 146] (E W H n m) = some (.inl (some (.int 1)), E W H n m1, c, s) := by
  refine w_L_skew S _ _ _ _ ?_
  refine c_ob (by omega) (by rfl) ?_
  exact wx_I hc (by decide +kernel) (w_L_skew_11 S)
theorem W_turned {t : Bool} (hc : xM S mX12_turned [.ref 0] (E W H n m) = some (.inl (some (.int (bz t))), E W H n1 m1, c, s)) : xM S mL_turned [.ref 0, .ref 146] (E W H n m) = some (.inl (some (.int 0)), E W H n1 (sL m1 146 0 (bz t).toInt64), c, s) := by
  refine w_L_turned S _ _ _ _ ?_
  refine c_ob (by omega) (by rfl) ?_
  refine wr_I hc ?_
  cases t
  · refine c_ift rfl ?_
    refine c_wl (i := 0) (by omega) (by rfl) (by rfl) (by first | omega | ((conv => rhs; whnf); first | omega | (show _ < OfNat.ofNat (α := Nat) _; omega))) (by first | omega | ((conv => lhs; whnf); first | omega | (show OfNat.ofNat (α := Nat) _ < _; omega))) ?_
    rfl
  · refine c_iff (by decide) ?_
    refine c_wl (i := 0) (by omega) (by rfl) (by rfl) (by first | omega | ((conv => rhs; whnf); first | omega | (show _ < OfNat.ofNat (α := Nat) _; omega))) (by first | omega | ((conv => lhs; whnf); first | omega | (show OfNat.ofNat (α := Nat) _ < _; omega))) ?_
    rfl
theorem W_turned_sIS  (hc : xM S mX12_turned [.ref 0] (E W H n m) = some (.inr sIS, E W H n m1, c, s)) : xM S mL_turned [.ref 0, .ref 146] (E W H n m) = some (.inl (some (.int 1)), E W H n m1, c, s) := by
  refine w_L_turned S _ _ _ _ ?_
  refine c_ob (by omega) (by rfl) ?_
  exact wx_I hc (by decide +kernel) (w_L_turned_18 S)
theorem W_mismatch  {y : Int32} (hc : xM S mX12_mismatch [.ref 0] (E W H n m) = some (.inl (some (.int y)), E W H n1 m1, c, s)) : xM S mL_mismatch [.ref 0, .ref 146] (E W H n m) = some (.inl (some (.int 0)), E W H n1 (sL m1 146 0 (y.toInt64)), c, s) := by
  refine w_L_mismatch S _ _ _ _ ?_
  refine c_ob (by omega) (by rfl) ?_
  refine wr_I hc ?_
  refine c_wl (i := 0) (by omega) (by rfl) (by rfl) (by first | omega | ((conv => rhs; whnf); first | omega | (show _ < OfNat.ofNat (α := Nat) _; omega))) (by first | omega | ((conv => lhs; whnf); first | omega | (show OfNat.ofNat (α := Nat) _ < _; omega))) ?_
  rfl
theorem W_mismatch_sIS  (hc : xM S mX12_mismatch [.ref 0] (E W H n m) = some (.inr sIS, E W H n m1, c, s)) : xM S mL_mismatch [.ref 0, .ref 146] (E W H n m) = some (.inl (some (.int 1)), E W H n m1, c, s) := by
  refine w_L_mismatch S _ _ _ _ ?_
  refine c_ob (by omega) (by rfl) ?_
  exact wx_I hc (by decide +kernel) (w_L_mismatch_11 S)
theorem W_similarity  {y : Int32} (hc : xM S mX12_similarity [.ref 0] (E W H n m) = some (.inl (some (.int y)), E W H n1 m1, c, s)) : xM S mL_similarity [.ref 0, .ref 146] (E W H n m) = some (.inl (some (.int 0)), E W H n1 (sL m1 146 0 (y.toInt64)), c, s) := by
  refine w_L_similarity S _ _ _ _ ?_
  refine c_ob (by omega) (by rfl) ?_
  refine wr_I hc ?_
  refine c_wl (i := 0) (by omega) (by rfl) (by rfl) (by first | omega | ((conv => rhs; whnf); first | omega | (show _ < OfNat.ofNat (α := Nat) _; omega))) (by first | omega | ((conv => lhs; whnf); first | omega | (show OfNat.ofNat (α := Nat) _ < _; omega))) ?_
  rfl
theorem W_similarity_sIS  (hc : xM S mX12_similarity [.ref 0] (E W H n m) = some (.inr sIS, E W H n m1, c, s)) : xM S mL_similarity [.ref 0, .ref 146] (E W H n m) = some (.inl (some (.int 1)), E W H n m1, c, s) := by
  refine w_L_similarity S _ _ _ _ ?_
  refine c_ob (by omega) (by rfl) ?_
  exact wx_I hc (by decide +kernel) (w_L_similarity_11 S)
theorem W_mismatchAt {x0 : Int32} {x1 : Int32} {y : Int32} (hc : xM S mX12_mismatchAt [.ref 0, .int x0, .int x1] (E W H n m) = some (.inl (some (.int y)), E W H n1 m1, c, s)) : xM S mL_mismatchAt [.ref 0, .int x0, .int x1, .ref 146] (E W H n m) = some (.inl (some (.int 0)), E W H n1 (sL m1 146 0 (y.toInt64)), c, s) := by
  refine w_L_mismatchAt S _ _ _ _ _ _ ?_
  refine c_ob (by omega) (by rfl) ?_
  refine wr_I hc ?_
  refine c_wl (i := 0) (by omega) (by rfl) (by rfl) (by first | omega | ((conv => rhs; whnf); first | omega | (show _ < OfNat.ofNat (α := Nat) _; omega))) (by first | omega | ((conv => lhs; whnf); first | omega | (show OfNat.ofNat (α := Nat) _ < _; omega))) ?_
  rfl
theorem W_mismatchAt_sIS {x0 : Int32} {x1 : Int32} (hc : xM S mX12_mismatchAt [.ref 0, .int x0, .int x1] (E W H n m) = some (.inr sIS, E W H n m1, c, s)) : xM S mL_mismatchAt [.ref 0, .int x0, .int x1, .ref 146] (E W H n m) = some (.inl (some (.int 1)), E W H n m1, c, s) := by
  refine w_L_mismatchAt S _ _ _ _ _ _ ?_
  refine c_ob (by omega) (by rfl) ?_
  exact wx_I hc (by decide +kernel) (w_L_mismatchAt_13 S)
theorem W_mismatchAt_sIA {x0 : Int32} {x1 : Int32} (hc : xM S mX12_mismatchAt [.ref 0, .int x0, .int x1] (E W H n m) = some (.inr sIA, E W H n m1, c, s)) : xM S mL_mismatchAt [.ref 0, .int x0, .int x1, .ref 146] (E W H n m) = some (.inl (some (.int 2)), E W H n m1, c, s) := by
  refine w_L_mismatchAt S _ _ _ _ _ _ ?_
  refine c_ob (by omega) (by rfl) ?_
  exact wx_I hc (by decide +kernel) (w_L_mismatchAt_17 S)
theorem W_blockDifference {x0 : Int32} {x1 : Int32} {y : Int32} (hc : xM S mX12_blockDifference [.ref 0, .int x0, .int x1] (E W H n m) = some (.inl (some (.int y)), E W H n1 m1, c, s)) : xM S mL_blockDifference [.ref 0, .int x0, .int x1, .ref 146] (E W H n m) = some (.inl (some (.int 0)), E W H n1 (sL m1 146 0 (y.toInt64)), c, s) := by
  refine w_L_blockDifference S _ _ _ _ _ _ ?_
  refine c_ob (by omega) (by rfl) ?_
  refine wr_I hc ?_
  refine c_wl (i := 0) (by omega) (by rfl) (by rfl) (by first | omega | ((conv => rhs; whnf); first | omega | (show _ < OfNat.ofNat (α := Nat) _; omega))) (by first | omega | ((conv => lhs; whnf); first | omega | (show OfNat.ofNat (α := Nat) _ < _; omega))) ?_
  rfl
theorem W_blockDifference_sIS {x0 : Int32} {x1 : Int32} (hc : xM S mX12_blockDifference [.ref 0, .int x0, .int x1] (E W H n m) = some (.inr sIS, E W H n m1, c, s)) : xM S mL_blockDifference [.ref 0, .int x0, .int x1, .ref 146] (E W H n m) = some (.inl (some (.int 1)), E W H n m1, c, s) := by
  refine w_L_blockDifference S _ _ _ _ _ _ ?_
  refine c_ob (by omega) (by rfl) ?_
  exact wx_I hc (by decide +kernel) (w_L_blockDifference_13 S)
theorem W_blockDifference_sIO {x0 : Int32} {x1 : Int32} (hc : xM S mX12_blockDifference [.ref 0, .int x0, .int x1] (E W H n m) = some (.inr sIO, E W H n m1, c, s)) : xM S mL_blockDifference [.ref 0, .int x0, .int x1, .ref 146] (E W H n m) = some (.inl (some (.int 2)), E W H n m1, c, s) := by
  refine w_L_blockDifference S _ _ _ _ _ _ ?_
  refine c_ob (by omega) (by rfl) ?_
  exact wx_I hc (by decide +kernel) (w_L_blockDifference_17 S)
theorem W_regions  {y : Int32} (hc : xM S mX12_regions [.ref 0] (E W H n m) = some (.inl (some (.int y)), E W H n1 m1, c, s)) : xM S mL_regions [.ref 0, .ref 146] (E W H n m) = some (.inl (some (.int 0)), E W H n1 (sL m1 146 0 (y.toInt64)), c, s) := by
  refine w_L_regions S _ _ _ _ ?_
  refine c_ob (by omega) (by rfl) ?_
  refine wr_I hc ?_
  refine c_wl (i := 0) (by omega) (by rfl) (by rfl) (by first | omega | ((conv => rhs; whnf); first | omega | (show _ < OfNat.ofNat (α := Nat) _; omega))) (by first | omega | ((conv => lhs; whnf); first | omega | (show OfNat.ofNat (α := Nat) _ < _; omega))) ?_
  rfl
theorem W_regions_sIS  (hc : xM S mX12_regions [.ref 0] (E W H n m) = some (.inr sIS, E W H n m1, c, s)) : xM S mL_regions [.ref 0, .ref 146] (E W H n m) = some (.inl (some (.int 1)), E W H n m1, c, s) := by
  refine w_L_regions S _ _ _ _ ?_
  refine c_ob (by omega) (by rfl) ?_
  exact wx_I hc (by decide +kernel) (w_L_regions_11 S)
theorem W_regionAt {x0 : Int32} {x1 : Int32} {y : Int32} (hc : xM S mX12_regionAt [.ref 0, .int x0, .int x1] (E W H n m) = some (.inl (some (.int y)), E W H n1 m1, c, s)) : xM S mL_regionAt [.ref 0, .int x0, .int x1, .ref 146] (E W H n m) = some (.inl (some (.int 0)), E W H n1 (sL m1 146 0 (y.toInt64)), c, s) := by
  refine w_L_regionAt S _ _ _ _ _ _ ?_
  refine c_ob (by omega) (by rfl) ?_
  refine wr_I hc ?_
  refine c_wl (i := 0) (by omega) (by rfl) (by rfl) (by first | omega | ((conv => rhs; whnf); first | omega | (show _ < OfNat.ofNat (α := Nat) _; omega))) (by first | omega | ((conv => lhs; whnf); first | omega | (show OfNat.ofNat (α := Nat) _ < _; omega))) ?_
  rfl
theorem W_regionAt_sIS {x0 : Int32} {x1 : Int32} (hc : xM S mX12_regionAt [.ref 0, .int x0, .int x1] (E W H n m) = some (.inr sIS, E W H n m1, c, s)) : xM S mL_regionAt [.ref 0, .int x0, .int x1, .ref 146] (E W H n m) = some (.inl (some (.int 1)), E W H n m1, c, s) := by
  refine w_L_regionAt S _ _ _ _ _ _ ?_
  refine c_ob (by omega) (by rfl) ?_
  exact wx_I hc (by decide +kernel) (w_L_regionAt_13 S)
theorem W_regionAt_sIO {x0 : Int32} {x1 : Int32} (hc : xM S mX12_regionAt [.ref 0, .int x0, .int x1] (E W H n m) = some (.inr sIO, E W H n m1, c, s)) : xM S mL_regionAt [.ref 0, .int x0, .int x1, .ref 146] (E W H n m) = some (.inl (some (.int 2)), E W H n m1, c, s) := by
  refine w_L_regionAt S _ _ _ _ _ _ ?_
  refine c_ob (by omega) (by rfl) ?_
  exact wx_I hc (by decide +kernel) (w_L_regionAt_17 S)
theorem W_regionLeft {x0 : Int32} {y : Int32} (hc : xM S mX12_regionLeft [.ref 0, .int x0] (E W H n m) = some (.inl (some (.int y)), E W H n1 m1, c, s)) : xM S mL_regionLeft [.ref 0, .int x0, .ref 146] (E W H n m) = some (.inl (some (.int 0)), E W H n1 (sL m1 146 0 (y.toInt64)), c, s) := by
  refine w_L_regionLeft S _ _ _ _ _ ?_
  refine c_ob (by omega) (by rfl) ?_
  refine wr_I hc ?_
  refine c_wl (i := 0) (by omega) (by rfl) (by rfl) (by first | omega | ((conv => rhs; whnf); first | omega | (show _ < OfNat.ofNat (α := Nat) _; omega))) (by first | omega | ((conv => lhs; whnf); first | omega | (show OfNat.ofNat (α := Nat) _ < _; omega))) ?_
  rfl
theorem W_regionLeft_sIS {x0 : Int32} (hc : xM S mX12_regionLeft [.ref 0, .int x0] (E W H n m) = some (.inr sIS, E W H n m1, c, s)) : xM S mL_regionLeft [.ref 0, .int x0, .ref 146] (E W H n m) = some (.inl (some (.int 1)), E W H n m1, c, s) := by
  refine w_L_regionLeft S _ _ _ _ _ ?_
  refine c_ob (by omega) (by rfl) ?_
  exact wx_I hc (by decide +kernel) (w_L_regionLeft_12 S)
theorem W_regionLeft_sIO {x0 : Int32} (hc : xM S mX12_regionLeft [.ref 0, .int x0] (E W H n m) = some (.inr sIO, E W H n m1, c, s)) : xM S mL_regionLeft [.ref 0, .int x0, .ref 146] (E W H n m) = some (.inl (some (.int 2)), E W H n m1, c, s) := by
  refine w_L_regionLeft S _ _ _ _ _ ?_
  refine c_ob (by omega) (by rfl) ?_
  exact wx_I hc (by decide +kernel) (w_L_regionLeft_15 S)
theorem W_regionTop {x0 : Int32} {y : Int32} (hc : xM S mX12_regionTop [.ref 0, .int x0] (E W H n m) = some (.inl (some (.int y)), E W H n1 m1, c, s)) : xM S mL_regionTop [.ref 0, .int x0, .ref 146] (E W H n m) = some (.inl (some (.int 0)), E W H n1 (sL m1 146 0 (y.toInt64)), c, s) := by
  refine w_L_regionTop S _ _ _ _ _ ?_
  refine c_ob (by omega) (by rfl) ?_
  refine wr_I hc ?_
  refine c_wl (i := 0) (by omega) (by rfl) (by rfl) (by first | omega | ((conv => rhs; whnf); first | omega | (show _ < OfNat.ofNat (α := Nat) _; omega))) (by first | omega | ((conv => lhs; whnf); first | omega | (show OfNat.ofNat (α := Nat) _ < _; omega))) ?_
  rfl
theorem W_regionTop_sIS {x0 : Int32} (hc : xM S mX12_regionTop [.ref 0, .int x0] (E W H n m) = some (.inr sIS, E W H n m1, c, s)) : xM S mL_regionTop [.ref 0, .int x0, .ref 146] (E W H n m) = some (.inl (some (.int 1)), E W H n m1, c, s) := by
  refine w_L_regionTop S _ _ _ _ _ ?_
  refine c_ob (by omega) (by rfl) ?_
  exact wx_I hc (by decide +kernel) (w_L_regionTop_12 S)
theorem W_regionTop_sIO {x0 : Int32} (hc : xM S mX12_regionTop [.ref 0, .int x0] (E W H n m) = some (.inr sIO, E W H n m1, c, s)) : xM S mL_regionTop [.ref 0, .int x0, .ref 146] (E W H n m) = some (.inl (some (.int 2)), E W H n m1, c, s) := by
  refine w_L_regionTop S _ _ _ _ _ ?_
  refine c_ob (by omega) (by rfl) ?_
  exact wx_I hc (by decide +kernel) (w_L_regionTop_15 S)
theorem W_regionRight {x0 : Int32} {y : Int32} (hc : xM S mX12_regionRight [.ref 0, .int x0] (E W H n m) = some (.inl (some (.int y)), E W H n1 m1, c, s)) : xM S mL_regionRight [.ref 0, .int x0, .ref 146] (E W H n m) = some (.inl (some (.int 0)), E W H n1 (sL m1 146 0 (y.toInt64)), c, s) := by
  refine w_L_regionRight S _ _ _ _ _ ?_
  refine c_ob (by omega) (by rfl) ?_
  refine wr_I hc ?_
  refine c_wl (i := 0) (by omega) (by rfl) (by rfl) (by first | omega | ((conv => rhs; whnf); first | omega | (show _ < OfNat.ofNat (α := Nat) _; omega))) (by first | omega | ((conv => lhs; whnf); first | omega | (show OfNat.ofNat (α := Nat) _ < _; omega))) ?_
  rfl
theorem W_regionRight_sIS {x0 : Int32} (hc : xM S mX12_regionRight [.ref 0, .int x0] (E W H n m) = some (.inr sIS, E W H n m1, c, s)) : xM S mL_regionRight [.ref 0, .int x0, .ref 146] (E W H n m) = some (.inl (some (.int 1)), E W H n m1, c, s) := by
  refine w_L_regionRight S _ _ _ _ _ ?_
  refine c_ob (by omega) (by rfl) ?_
  exact wx_I hc (by decide +kernel) (w_L_regionRight_12 S)
theorem W_regionRight_sIO {x0 : Int32} (hc : xM S mX12_regionRight [.ref 0, .int x0] (E W H n m) = some (.inr sIO, E W H n m1, c, s)) : xM S mL_regionRight [.ref 0, .int x0, .ref 146] (E W H n m) = some (.inl (some (.int 2)), E W H n m1, c, s) := by
  refine w_L_regionRight S _ _ _ _ _ ?_
  refine c_ob (by omega) (by rfl) ?_
  exact wx_I hc (by decide +kernel) (w_L_regionRight_15 S)
theorem W_regionBottom {x0 : Int32} {y : Int32} (hc : xM S mX12_regionBottom [.ref 0, .int x0] (E W H n m) = some (.inl (some (.int y)), E W H n1 m1, c, s)) : xM S mL_regionBottom [.ref 0, .int x0, .ref 146] (E W H n m) = some (.inl (some (.int 0)), E W H n1 (sL m1 146 0 (y.toInt64)), c, s) := by
  refine w_L_regionBottom S _ _ _ _ _ ?_
  refine c_ob (by omega) (by rfl) ?_
  refine wr_I hc ?_
  refine c_wl (i := 0) (by omega) (by rfl) (by rfl) (by first | omega | ((conv => rhs; whnf); first | omega | (show _ < OfNat.ofNat (α := Nat) _; omega))) (by first | omega | ((conv => lhs; whnf); first | omega | (show OfNat.ofNat (α := Nat) _ < _; omega))) ?_
  rfl
theorem W_regionBottom_sIS {x0 : Int32} (hc : xM S mX12_regionBottom [.ref 0, .int x0] (E W H n m) = some (.inr sIS, E W H n m1, c, s)) : xM S mL_regionBottom [.ref 0, .int x0, .ref 146] (E W H n m) = some (.inl (some (.int 1)), E W H n m1, c, s) := by
  refine w_L_regionBottom S _ _ _ _ _ ?_
  refine c_ob (by omega) (by rfl) ?_
  exact wx_I hc (by decide +kernel) (w_L_regionBottom_12 S)
theorem W_regionBottom_sIO {x0 : Int32} (hc : xM S mX12_regionBottom [.ref 0, .int x0] (E W H n m) = some (.inr sIO, E W H n m1, c, s)) : xM S mL_regionBottom [.ref 0, .int x0, .ref 146] (E W H n m) = some (.inl (some (.int 2)), E W H n m1, c, s) := by
  refine w_L_regionBottom S _ _ _ _ _ ?_
  refine c_ob (by omega) (by rfl) ?_
  exact wx_I hc (by decide +kernel) (w_L_regionBottom_15 S)
theorem W_missingPixels {x0 : Int32} {y : Int32} (hc : xM S mX12_missingPixels [.ref 0, .int x0] (E W H n m) = some (.inl (some (.int y)), E W H n1 m1, c, s)) : xM S mL_missingPixels [.ref 0, .int x0, .ref 146] (E W H n m) = some (.inl (some (.int 0)), E W H n1 (sL m1 146 0 (y.toInt64)), c, s) := by
  refine w_L_missingPixels S _ _ _ _ _ ?_
  refine c_ob (by omega) (by rfl) ?_
  refine wr_I hc ?_
  refine c_wl (i := 0) (by omega) (by rfl) (by rfl) (by first | omega | ((conv => rhs; whnf); first | omega | (show _ < OfNat.ofNat (α := Nat) _; omega))) (by first | omega | ((conv => lhs; whnf); first | omega | (show OfNat.ofNat (α := Nat) _ < _; omega))) ?_
  rfl
theorem W_missingPixels_sIS {x0 : Int32} (hc : xM S mX12_missingPixels [.ref 0, .int x0] (E W H n m) = some (.inr sIS, E W H n m1, c, s)) : xM S mL_missingPixels [.ref 0, .int x0, .ref 146] (E W H n m) = some (.inl (some (.int 1)), E W H n m1, c, s) := by
  refine w_L_missingPixels S _ _ _ _ _ ?_
  refine c_ob (by omega) (by rfl) ?_
  exact wx_I hc (by decide +kernel) (w_L_missingPixels_12 S)
theorem W_missingPixels_sIO {x0 : Int32} (hc : xM S mX12_missingPixels [.ref 0, .int x0] (E W H n m) = some (.inr sIO, E W H n m1, c, s)) : xM S mL_missingPixels [.ref 0, .int x0, .ref 146] (E W H n m) = some (.inl (some (.int 2)), E W H n m1, c, s) := by
  refine w_L_missingPixels S _ _ _ _ _ ?_
  refine c_ob (by omega) (by rfl) ?_
  exact wx_I hc (by decide +kernel) (w_L_missingPixels_15 S)
theorem W_addedPixels {x0 : Int32} {y : Int32} (hc : xM S mX12_addedPixels [.ref 0, .int x0] (E W H n m) = some (.inl (some (.int y)), E W H n1 m1, c, s)) : xM S mL_addedPixels [.ref 0, .int x0, .ref 146] (E W H n m) = some (.inl (some (.int 0)), E W H n1 (sL m1 146 0 (y.toInt64)), c, s) := by
  refine w_L_addedPixels S _ _ _ _ _ ?_
  refine c_ob (by omega) (by rfl) ?_
  refine wr_I hc ?_
  refine c_wl (i := 0) (by omega) (by rfl) (by rfl) (by first | omega | ((conv => rhs; whnf); first | omega | (show _ < OfNat.ofNat (α := Nat) _; omega))) (by first | omega | ((conv => lhs; whnf); first | omega | (show OfNat.ofNat (α := Nat) _ < _; omega))) ?_
  rfl
theorem W_addedPixels_sIS {x0 : Int32} (hc : xM S mX12_addedPixels [.ref 0, .int x0] (E W H n m) = some (.inr sIS, E W H n m1, c, s)) : xM S mL_addedPixels [.ref 0, .int x0, .ref 146] (E W H n m) = some (.inl (some (.int 1)), E W H n m1, c, s) := by
  refine w_L_addedPixels S _ _ _ _ _ ?_
  refine c_ob (by omega) (by rfl) ?_
  exact wx_I hc (by decide +kernel) (w_L_addedPixels_12 S)
theorem W_addedPixels_sIO {x0 : Int32} (hc : xM S mX12_addedPixels [.ref 0, .int x0] (E W H n m) = some (.inr sIO, E W H n m1, c, s)) : xM S mL_addedPixels [.ref 0, .int x0, .ref 146] (E W H n m) = some (.inl (some (.int 2)), E W H n m1, c, s) := by
  refine w_L_addedPixels S _ _ _ _ _ ?_
  refine c_ob (by omega) (by rfl) ?_
  exact wx_I hc (by decide +kernel) (w_L_addedPixels_15 S)
theorem W_changes  {y : Int32} (hc : xM S mX12_changes [.ref 0] (E W H n m) = some (.inl (some (.int y)), E W H n1 m1, c, s)) : xM S mL_changes [.ref 0, .ref 146] (E W H n m) = some (.inl (some (.int 0)), E W H n1 (sL m1 146 0 (y.toInt64)), c, s) := by
  refine w_L_changes S _ _ _ _ ?_
  refine c_ob (by omega) (by rfl) ?_
  refine wr_I hc ?_
  refine c_wl (i := 0) (by omega) (by rfl) (by rfl) (by first | omega | ((conv => rhs; whnf); first | omega | (show _ < OfNat.ofNat (α := Nat) _; omega))) (by first | omega | ((conv => lhs; whnf); first | omega | (show OfNat.ofNat (α := Nat) _ < _; omega))) ?_
  rfl
theorem W_changes_sIS  (hc : xM S mX12_changes [.ref 0] (E W H n m) = some (.inr sIS, E W H n m1, c, s)) : xM S mL_changes [.ref 0, .ref 146] (E W H n m) = some (.inl (some (.int 1)), E W H n m1, c, s) := by
  refine w_L_changes S _ _ _ _ ?_
  refine c_ob (by omega) (by rfl) ?_
  exact wx_I hc (by decide +kernel) (w_L_changes_11 S)
theorem W_changeKind {x0 : Int32} {y : Int32} (hc : xM S mX12_changeKind [.ref 0, .int x0] (E W H n m) = some (.inl (some (.int y)), E W H n1 m1, c, s)) : xM S mL_changeKind [.ref 0, .int x0, .ref 146] (E W H n m) = some (.inl (some (.int 0)), E W H n1 (sL m1 146 0 (y.toInt64)), c, s) := by
  refine w_L_changeKind S _ _ _ _ _ ?_
  refine c_ob (by omega) (by rfl) ?_
  refine wr_I hc ?_
  refine c_wl (i := 0) (by omega) (by rfl) (by rfl) (by first | omega | ((conv => rhs; whnf); first | omega | (show _ < OfNat.ofNat (α := Nat) _; omega))) (by first | omega | ((conv => lhs; whnf); first | omega | (show OfNat.ofNat (α := Nat) _ < _; omega))) ?_
  rfl
theorem W_changeKind_sIS {x0 : Int32} (hc : xM S mX12_changeKind [.ref 0, .int x0] (E W H n m) = some (.inr sIS, E W H n m1, c, s)) : xM S mL_changeKind [.ref 0, .int x0, .ref 146] (E W H n m) = some (.inl (some (.int 1)), E W H n m1, c, s) := by
  refine w_L_changeKind S _ _ _ _ _ ?_
  refine c_ob (by omega) (by rfl) ?_
  exact wx_I hc (by decide +kernel) (w_L_changeKind_12 S)
theorem W_changeKind_sIO {x0 : Int32} (hc : xM S mX12_changeKind [.ref 0, .int x0] (E W H n m) = some (.inr sIO, E W H n m1, c, s)) : xM S mL_changeKind [.ref 0, .int x0, .ref 146] (E W H n m) = some (.inl (some (.int 2)), E W H n m1, c, s) := by
  refine w_L_changeKind S _ _ _ _ _ ?_
  refine c_ob (by omega) (by rfl) ?_
  exact wx_I hc (by decide +kernel) (w_L_changeKind_15 S)
theorem W_changeRegion {x0 : Int32} {y : Int32} (hc : xM S mX12_changeRegion [.ref 0, .int x0] (E W H n m) = some (.inl (some (.int y)), E W H n1 m1, c, s)) : xM S mL_changeRegion [.ref 0, .int x0, .ref 146] (E W H n m) = some (.inl (some (.int 0)), E W H n1 (sL m1 146 0 (y.toInt64)), c, s) := by
  refine w_L_changeRegion S _ _ _ _ _ ?_
  refine c_ob (by omega) (by rfl) ?_
  refine wr_I hc ?_
  refine c_wl (i := 0) (by omega) (by rfl) (by rfl) (by first | omega | ((conv => rhs; whnf); first | omega | (show _ < OfNat.ofNat (α := Nat) _; omega))) (by first | omega | ((conv => lhs; whnf); first | omega | (show OfNat.ofNat (α := Nat) _ < _; omega))) ?_
  rfl
theorem W_changeRegion_sIS {x0 : Int32} (hc : xM S mX12_changeRegion [.ref 0, .int x0] (E W H n m) = some (.inr sIS, E W H n m1, c, s)) : xM S mL_changeRegion [.ref 0, .int x0, .ref 146] (E W H n m) = some (.inl (some (.int 1)), E W H n m1, c, s) := by
  refine w_L_changeRegion S _ _ _ _ _ ?_
  refine c_ob (by omega) (by rfl) ?_
  exact wx_I hc (by decide +kernel) (w_L_changeRegion_12 S)
theorem W_changeRegion_sIO {x0 : Int32} (hc : xM S mX12_changeRegion [.ref 0, .int x0] (E W H n m) = some (.inr sIO, E W H n m1, c, s)) : xM S mL_changeRegion [.ref 0, .int x0, .ref 146] (E W H n m) = some (.inl (some (.int 2)), E W H n m1, c, s) := by
  refine w_L_changeRegion S _ _ _ _ _ ?_
  refine c_ob (by omega) (by rfl) ?_
  exact wx_I hc (by decide +kernel) (w_L_changeRegion_15 S)
theorem W_changeTarget {x0 : Int32} {y : Int32} (hc : xM S mX12_changeTarget [.ref 0, .int x0] (E W H n m) = some (.inl (some (.int y)), E W H n1 m1, c, s)) : xM S mL_changeTarget [.ref 0, .int x0, .ref 146] (E W H n m) = some (.inl (some (.int 0)), E W H n1 (sL m1 146 0 (y.toInt64)), c, s) := by
  refine w_L_changeTarget S _ _ _ _ _ ?_
  refine c_ob (by omega) (by rfl) ?_
  refine wr_I hc ?_
  refine c_wl (i := 0) (by omega) (by rfl) (by rfl) (by first | omega | ((conv => rhs; whnf); first | omega | (show _ < OfNat.ofNat (α := Nat) _; omega))) (by first | omega | ((conv => lhs; whnf); first | omega | (show OfNat.ofNat (α := Nat) _ < _; omega))) ?_
  rfl
theorem W_changeTarget_sIS {x0 : Int32} (hc : xM S mX12_changeTarget [.ref 0, .int x0] (E W H n m) = some (.inr sIS, E W H n m1, c, s)) : xM S mL_changeTarget [.ref 0, .int x0, .ref 146] (E W H n m) = some (.inl (some (.int 1)), E W H n m1, c, s) := by
  refine w_L_changeTarget S _ _ _ _ _ ?_
  refine c_ob (by omega) (by rfl) ?_
  exact wx_I hc (by decide +kernel) (w_L_changeTarget_12 S)
theorem W_changeTarget_sIO {x0 : Int32} (hc : xM S mX12_changeTarget [.ref 0, .int x0] (E W H n m) = some (.inr sIO, E W H n m1, c, s)) : xM S mL_changeTarget [.ref 0, .int x0, .ref 146] (E W H n m) = some (.inl (some (.int 2)), E W H n m1, c, s) := by
  refine w_L_changeTarget S _ _ _ _ _ ?_
  refine c_ob (by omega) (by rfl) ?_
  exact wx_I hc (by decide +kernel) (w_L_changeTarget_15 S)
theorem W_moveX {x0 : Int32} {y : Int32} (hc : xM S mX12_moveX [.ref 0, .int x0] (E W H n m) = some (.inl (some (.int y)), E W H n1 m1, c, s)) : xM S mL_moveX [.ref 0, .int x0, .ref 146] (E W H n m) = some (.inl (some (.int 0)), E W H n1 (sL m1 146 0 (y.toInt64)), c, s) := by
  refine w_L_moveX S _ _ _ _ _ ?_
  refine c_ob (by omega) (by rfl) ?_
  refine wr_I hc ?_
  refine c_wl (i := 0) (by omega) (by rfl) (by rfl) (by first | omega | ((conv => rhs; whnf); first | omega | (show _ < OfNat.ofNat (α := Nat) _; omega))) (by first | omega | ((conv => lhs; whnf); first | omega | (show OfNat.ofNat (α := Nat) _ < _; omega))) ?_
  rfl
theorem W_moveX_sIS {x0 : Int32} (hc : xM S mX12_moveX [.ref 0, .int x0] (E W H n m) = some (.inr sIS, E W H n m1, c, s)) : xM S mL_moveX [.ref 0, .int x0, .ref 146] (E W H n m) = some (.inl (some (.int 1)), E W H n m1, c, s) := by
  refine w_L_moveX S _ _ _ _ _ ?_
  refine c_ob (by omega) (by rfl) ?_
  exact wx_I hc (by decide +kernel) (w_L_moveX_12 S)
theorem W_moveX_sIO {x0 : Int32} (hc : xM S mX12_moveX [.ref 0, .int x0] (E W H n m) = some (.inr sIO, E W H n m1, c, s)) : xM S mL_moveX [.ref 0, .int x0, .ref 146] (E W H n m) = some (.inl (some (.int 2)), E W H n m1, c, s) := by
  refine w_L_moveX S _ _ _ _ _ ?_
  refine c_ob (by omega) (by rfl) ?_
  exact wx_I hc (by decide +kernel) (w_L_moveX_15 S)
theorem W_moveY {x0 : Int32} {y : Int32} (hc : xM S mX12_moveY [.ref 0, .int x0] (E W H n m) = some (.inl (some (.int y)), E W H n1 m1, c, s)) : xM S mL_moveY [.ref 0, .int x0, .ref 146] (E W H n m) = some (.inl (some (.int 0)), E W H n1 (sL m1 146 0 (y.toInt64)), c, s) := by
  refine w_L_moveY S _ _ _ _ _ ?_
  refine c_ob (by omega) (by rfl) ?_
  refine wr_I hc ?_
  refine c_wl (i := 0) (by omega) (by rfl) (by rfl) (by first | omega | ((conv => rhs; whnf); first | omega | (show _ < OfNat.ofNat (α := Nat) _; omega))) (by first | omega | ((conv => lhs; whnf); first | omega | (show OfNat.ofNat (α := Nat) _ < _; omega))) ?_
  rfl
theorem W_moveY_sIS {x0 : Int32} (hc : xM S mX12_moveY [.ref 0, .int x0] (E W H n m) = some (.inr sIS, E W H n m1, c, s)) : xM S mL_moveY [.ref 0, .int x0, .ref 146] (E W H n m) = some (.inl (some (.int 1)), E W H n m1, c, s) := by
  refine w_L_moveY S _ _ _ _ _ ?_
  refine c_ob (by omega) (by rfl) ?_
  exact wx_I hc (by decide +kernel) (w_L_moveY_12 S)
theorem W_moveY_sIO {x0 : Int32} (hc : xM S mX12_moveY [.ref 0, .int x0] (E W H n m) = some (.inr sIO, E W H n m1, c, s)) : xM S mL_moveY [.ref 0, .int x0, .ref 146] (E W H n m) = some (.inl (some (.int 2)), E W H n m1, c, s) := by
  refine w_L_moveY S _ _ _ _ _ ?_
  refine c_ob (by omega) (by rfl) ?_
  exact wx_I hc (by decide +kernel) (w_L_moveY_15 S)
theorem W_changePixels {x0 : Int32} {y : Int32} (hc : xM S mX12_changePixels [.ref 0, .int x0] (E W H n m) = some (.inl (some (.int y)), E W H n1 m1, c, s)) : xM S mL_changePixels [.ref 0, .int x0, .ref 146] (E W H n m) = some (.inl (some (.int 0)), E W H n1 (sL m1 146 0 (y.toInt64)), c, s) := by
  refine w_L_changePixels S _ _ _ _ _ ?_
  refine c_ob (by omega) (by rfl) ?_
  refine wr_I hc ?_
  refine c_wl (i := 0) (by omega) (by rfl) (by rfl) (by first | omega | ((conv => rhs; whnf); first | omega | (show _ < OfNat.ofNat (α := Nat) _; omega))) (by first | omega | ((conv => lhs; whnf); first | omega | (show OfNat.ofNat (α := Nat) _ < _; omega))) ?_
  rfl
theorem W_changePixels_sIS {x0 : Int32} (hc : xM S mX12_changePixels [.ref 0, .int x0] (E W H n m) = some (.inr sIS, E W H n m1, c, s)) : xM S mL_changePixels [.ref 0, .int x0, .ref 146] (E W H n m) = some (.inl (some (.int 1)), E W H n m1, c, s) := by
  refine w_L_changePixels S _ _ _ _ _ ?_
  refine c_ob (by omega) (by rfl) ?_
  exact wx_I hc (by decide +kernel) (w_L_changePixels_12 S)
theorem W_changePixels_sIO {x0 : Int32} (hc : xM S mX12_changePixels [.ref 0, .int x0] (E W H n m) = some (.inr sIO, E W H n m1, c, s)) : xM S mL_changePixels [.ref 0, .int x0, .ref 146] (E W H n m) = some (.inl (some (.int 2)), E W H n m1, c, s) := by
  refine w_L_changePixels S _ _ _ _ _ ?_
  refine c_ob (by omega) (by rfl) ?_
  exact wx_I hc (by decide +kernel) (w_L_changePixels_15 S)
theorem W_changeLine {x0 : Int32} {y : Int32} (hc : xM S mX12_changeLine [.ref 0, .int x0] (E W H n m) = some (.inl (some (.int y)), E W H n1 m1, c, s)) : xM S mL_changeLine [.ref 0, .int x0, .ref 146] (E W H n m) = some (.inl (some (.int 0)), E W H n1 (sL m1 146 0 (y.toInt64)), c, s) := by
  refine w_L_changeLine S _ _ _ _ _ ?_
  refine c_ob (by omega) (by rfl) ?_
  refine wr_I hc ?_
  refine c_wl (i := 0) (by omega) (by rfl) (by rfl) (by first | omega | ((conv => rhs; whnf); first | omega | (show _ < OfNat.ofNat (α := Nat) _; omega))) (by first | omega | ((conv => lhs; whnf); first | omega | (show OfNat.ofNat (α := Nat) _ < _; omega))) ?_
  rfl
theorem W_changeLine_sIS {x0 : Int32} (hc : xM S mX12_changeLine [.ref 0, .int x0] (E W H n m) = some (.inr sIS, E W H n m1, c, s)) : xM S mL_changeLine [.ref 0, .int x0, .ref 146] (E W H n m) = some (.inl (some (.int 1)), E W H n m1, c, s) := by
  refine w_L_changeLine S _ _ _ _ _ ?_
  refine c_ob (by omega) (by rfl) ?_
  exact wx_I hc (by decide +kernel) (w_L_changeLine_12 S)
theorem W_changeLine_sIO {x0 : Int32} (hc : xM S mX12_changeLine [.ref 0, .int x0] (E W H n m) = some (.inr sIO, E W H n m1, c, s)) : xM S mL_changeLine [.ref 0, .int x0, .ref 146] (E W H n m) = some (.inl (some (.int 2)), E W H n m1, c, s) := by
  refine w_L_changeLine S _ _ _ _ _ ?_
  refine c_ob (by omega) (by rfl) ?_
  exact wx_I hc (by decide +kernel) (w_L_changeLine_15 S)
theorem W_reportChar {x0 : Int32} {y : Int32} (hc : xM S mX12_reportChar [.ref 0, .int x0] (E W H n m) = some (.inl (some (.int y)), E W H n1 m1, c, s)) : xM S mL_reportChar [.ref 0, .int x0, .ref 146] (E W H n m) = some (.inl (some (.int 0)), E W H n1 (sL m1 146 0 (y.toInt64)), c, s) := by
  refine w_L_reportChar S _ _ _ _ _ ?_
  refine c_ob (by omega) (by rfl) ?_
  refine wr_I hc ?_
  refine c_wl (i := 0) (by omega) (by rfl) (by rfl) (by first | omega | ((conv => rhs; whnf); first | omega | (show _ < OfNat.ofNat (α := Nat) _; omega))) (by first | omega | ((conv => lhs; whnf); first | omega | (show OfNat.ofNat (α := Nat) _ < _; omega))) ?_
  rfl
theorem W_reportChar_sIS {x0 : Int32} (hc : xM S mX12_reportChar [.ref 0, .int x0] (E W H n m) = some (.inr sIS, E W H n m1, c, s)) : xM S mL_reportChar [.ref 0, .int x0, .ref 146] (E W H n m) = some (.inl (some (.int 1)), E W H n m1, c, s) := by
  refine w_L_reportChar S _ _ _ _ _ ?_
  refine c_ob (by omega) (by rfl) ?_
  exact wx_I hc (by decide +kernel) (w_L_reportChar_12 S)
theorem W_reportChar_sIO {x0 : Int32} (hc : xM S mX12_reportChar [.ref 0, .int x0] (E W H n m) = some (.inr sIO, E W H n m1, c, s)) : xM S mL_reportChar [.ref 0, .int x0, .ref 146] (E W H n m) = some (.inl (some (.int 2)), E W H n m1, c, s) := by
  refine w_L_reportChar S _ _ _ _ _ ?_
  refine c_ob (by omega) (by rfl) ?_
  exact wx_I hc (by decide +kernel) (w_L_reportChar_15 S)
theorem W_learn {x0 : Int32} {y : Int32} (hc : xM S mX12_learn [.ref 0, .int x0] (E W H n m) = some (.inl (some (.int y)), E W H n1 m1, c, s)) : xM S mL_learn [.ref 0, .int x0, .ref 146] (E W H n m) = some (.inl (some (.int 0)), E W H n1 (sL m1 146 0 (y.toInt64)), c, s) := by
  refine w_L_learn S _ _ _ _ _ ?_
  refine c_ob (by omega) (by rfl) ?_
  refine wr_I hc ?_
  refine c_wl (i := 0) (by omega) (by rfl) (by rfl) (by first | omega | ((conv => rhs; whnf); first | omega | (show _ < OfNat.ofNat (α := Nat) _; omega))) (by first | omega | ((conv => lhs; whnf); first | omega | (show OfNat.ofNat (α := Nat) _ < _; omega))) ?_
  rfl
theorem W_learn_sIO {x0 : Int32} (hc : xM S mX12_learn [.ref 0, .int x0] (E W H n m) = some (.inr sIO, E W H n m1, c, s)) : xM S mL_learn [.ref 0, .int x0, .ref 146] (E W H n m) = some (.inl (some (.int 1)), E W H n m1, c, s) := by
  refine w_L_learn S _ _ _ _ _ ?_
  refine c_ob (by omega) (by rfl) ?_
  exact wx_I hc (by decide +kernel) (w_L_learn_12 S)
theorem W_learn_sIS {x0 : Int32} (hc : xM S mX12_learn [.ref 0, .int x0] (E W H n m) = some (.inr sIS, E W H n m1, c, s)) : xM S mL_learn [.ref 0, .int x0, .ref 146] (E W H n m) = some (.inl (some (.int 2)), E W H n m1, c, s) := by
  refine w_L_learn S _ _ _ _ _ ?_
  refine c_ob (by omega) (by rfl) ?_
  exact wx_I hc (by decide +kernel) (w_L_learn_15 S)
theorem W_stampOf {x0 : Int32} {y : Int32} (hc : xM S mX12_stampOf [.ref 0, .int x0] (E W H n m) = some (.inl (some (.int y)), E W H n1 m1, c, s)) : xM S mL_stampOf [.ref 0, .int x0, .ref 146] (E W H n m) = some (.inl (some (.int 0)), E W H n1 (sL m1 146 0 (y.toInt64)), c, s) := by
  refine w_L_stampOf S _ _ _ _ _ ?_
  refine c_ob (by omega) (by rfl) ?_
  refine wr_I hc ?_
  refine c_wl (i := 0) (by omega) (by rfl) (by rfl) (by first | omega | ((conv => rhs; whnf); first | omega | (show _ < OfNat.ofNat (α := Nat) _; omega))) (by first | omega | ((conv => lhs; whnf); first | omega | (show OfNat.ofNat (α := Nat) _ < _; omega))) ?_
  rfl
theorem W_stampOf_sIS {x0 : Int32} (hc : xM S mX12_stampOf [.ref 0, .int x0] (E W H n m) = some (.inr sIS, E W H n m1, c, s)) : xM S mL_stampOf [.ref 0, .int x0, .ref 146] (E W H n m) = some (.inl (some (.int 1)), E W H n m1, c, s) := by
  refine w_L_stampOf S _ _ _ _ _ ?_
  refine c_ob (by omega) (by rfl) ?_
  exact wx_I hc (by decide +kernel) (w_L_stampOf_12 S)
theorem W_stampOf_sIO {x0 : Int32} (hc : xM S mX12_stampOf [.ref 0, .int x0] (E W H n m) = some (.inr sIO, E W H n m1, c, s)) : xM S mL_stampOf [.ref 0, .int x0, .ref 146] (E W H n m) = some (.inl (some (.int 2)), E W H n m1, c, s) := by
  refine w_L_stampOf S _ _ _ _ _ ?_
  refine c_ob (by omega) (by rfl) ?_
  exact wx_I hc (by decide +kernel) (w_L_stampOf_15 S)
theorem W_forgetStamp {x0 : Int32} {y : Int32} (hc : xM S mX12_forgetStamp [.ref 0, .int x0] (E W H n m) = some (.inl (some (.int y)), E W H n1 m1, c, s)) : xM S mL_forgetStamp [.ref 0, .int x0, .ref 146] (E W H n m) = some (.inl (some (.int 0)), E W H n1 (sL m1 146 0 (y.toInt64)), c, s) := by
  refine w_L_forgetStamp S _ _ _ _ _ ?_
  refine c_ob (by omega) (by rfl) ?_
  refine wr_I hc ?_
  refine c_wl (i := 0) (by omega) (by rfl) (by rfl) (by first | omega | ((conv => rhs; whnf); first | omega | (show _ < OfNat.ofNat (α := Nat) _; omega))) (by first | omega | ((conv => lhs; whnf); first | omega | (show OfNat.ofNat (α := Nat) _ < _; omega))) ?_
  rfl
theorem W_forgetStamp_sIO {x0 : Int32} (hc : xM S mX12_forgetStamp [.ref 0, .int x0] (E W H n m) = some (.inr sIO, E W H n m1, c, s)) : xM S mL_forgetStamp [.ref 0, .int x0, .ref 146] (E W H n m) = some (.inl (some (.int 1)), E W H n m1, c, s) := by
  refine w_L_forgetStamp S _ _ _ _ _ ?_
  refine c_ob (by omega) (by rfl) ?_
  exact wx_I hc (by decide +kernel) (w_L_forgetStamp_12 S)
theorem W_accept {x0 : Int32} {y : Int32} (hc : xM S mX12_accept [.ref 0, .int x0] (E W H n m) = some (.inl (some (.int y)), E W H n1 m1, c, s)) : xM S mL_accept [.ref 0, .int x0, .ref 146] (E W H n m) = some (.inl (some (.int 0)), E W H n1 (sL m1 146 0 (y.toInt64)), c, s) := by
  refine w_L_accept S _ _ _ _ _ ?_
  refine c_ob (by omega) (by rfl) ?_
  refine wr_I hc ?_
  refine c_wl (i := 0) (by omega) (by rfl) (by rfl) (by first | omega | ((conv => rhs; whnf); first | omega | (show _ < OfNat.ofNat (α := Nat) _; omega))) (by first | omega | ((conv => lhs; whnf); first | omega | (show OfNat.ofNat (α := Nat) _ < _; omega))) ?_
  rfl
theorem W_accept_sIS {x0 : Int32} (hc : xM S mX12_accept [.ref 0, .int x0] (E W H n m) = some (.inr sIS, E W H n m1, c, s)) : xM S mL_accept [.ref 0, .int x0, .ref 146] (E W H n m) = some (.inl (some (.int 1)), E W H n m1, c, s) := by
  refine w_L_accept S _ _ _ _ _ ?_
  refine c_ob (by omega) (by rfl) ?_
  exact wx_I hc (by decide +kernel) (w_L_accept_12 S)
theorem W_accept_sIO {x0 : Int32} (hc : xM S mX12_accept [.ref 0, .int x0] (E W H n m) = some (.inr sIO, E W H n m1, c, s)) : xM S mL_accept [.ref 0, .int x0, .ref 146] (E W H n m) = some (.inl (some (.int 2)), E W H n m1, c, s) := by
  refine w_L_accept S _ _ _ _ _ ?_
  refine c_ob (by omega) (by rfl) ?_
  exact wx_I hc (by decide +kernel) (w_L_accept_15 S)
theorem W_leastNoise {x0 : Int32} {y : Int32} (hc : xM S mX12_leastNoise [.ref 0, .int x0] (E W H n m) = some (.inl (some (.int y)), E W H n1 m1, c, s)) : xM S mL_leastNoise [.ref 0, .int x0, .ref 146] (E W H n m) = some (.inl (some (.int 0)), E W H n1 (sL m1 146 0 (y.toInt64)), c, s) := by
  refine w_L_leastNoise S _ _ _ _ _ ?_
  refine c_ob (by omega) (by rfl) ?_
  refine wr_I hc ?_
  refine c_wl (i := 0) (by omega) (by rfl) (by rfl) (by first | omega | ((conv => rhs; whnf); first | omega | (show _ < OfNat.ofNat (α := Nat) _; omega))) (by first | omega | ((conv => lhs; whnf); first | omega | (show OfNat.ofNat (α := Nat) _ < _; omega))) ?_
  rfl
theorem W_leastNoise_sIS {x0 : Int32} (hc : xM S mX12_leastNoise [.ref 0, .int x0] (E W H n m) = some (.inr sIS, E W H n m1, c, s)) : xM S mL_leastNoise [.ref 0, .int x0, .ref 146] (E W H n m) = some (.inl (some (.int 1)), E W H n m1, c, s) := by
  refine w_L_leastNoise S _ _ _ _ _ ?_
  refine c_ob (by omega) (by rfl) ?_
  exact wx_I hc (by decide +kernel) (w_L_leastNoise_12 S)
theorem W_leastNoise_sIA {x0 : Int32} (hc : xM S mX12_leastNoise [.ref 0, .int x0] (E W H n m) = some (.inr sIA, E W H n m1, c, s)) : xM S mL_leastNoise [.ref 0, .int x0, .ref 146] (E W H n m) = some (.inl (some (.int 2)), E W H n m1, c, s) := by
  refine w_L_leastNoise S _ _ _ _ _ ?_
  refine c_ob (by omega) (by rfl) ?_
  exact wx_I hc (by decide +kernel) (w_L_leastNoise_15 S)
end WR

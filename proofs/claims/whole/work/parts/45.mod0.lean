/-! PICTURES; THE MODEL'S LEAVES -/
theorem t_0 : (0 : Int64).toInt = 0 := rfl
theorem t_1 : (1 : Int64).toInt = 1 := rfl
theorem t_3 : (3 : Int64).toInt = 3 := rfl
/-- pixel k of a picture of rows -/
def px (f : Nat → Int64) (k : Nat) : Bool := lb (f (k / 64)) (k % 64)
def okP (W H : Nat) (f : Nat → Int64) : Prop := ∀ y x, lb (f y) x = true → x < W ∧ y < H
theorem okP_row {W H : Nat} {f : Nat → Int64} (o : okP W H f) (y : Nat) : f y &&& wh W = f y := by
  apply lb_ext
  intro i hi
  rw [lb_and_wh]
  cases hb : lb (f y) i
  · rfl
  · rw [decide_eq_true (o y i hb).1]; rfl
theorem okP_out {W H : Nat} {f : Nat → Int64} (o : okP W H f) {y : Nat} (hy : H ≤ y) : f y = 0 := by
  rw [lb_zero_iff]
  intro i _
  cases hb : lb (f y) i
  · rfl
  · exact absurd (o y i hb).2 (by omega)
theorem okP_0 (W H : Nat) : okP W H (fun _ => 0) := fun y x q => by rw [lb_0] at q; cases q
theorem px_xy (f : Nat → Int64) {x : Nat} (y : Nat) (hx : x < 64) : px f (64 * y + x) = lb (f y) x := by
  unfold px
  rw [show (64 * y + x) / 64 = y by omega, show (64 * y + x) % 64 = x by omega]
theorem px_ok {W H : Nat} {f : Nat → Int64} (o : okP W H f) {k : Nat} (h : px f k = true) : k % 64 < W ∧ k / 64 < H := o _ _ h
theorem px_ext {W H : Nat} {f g : Nat → Int64} (hH : H ≤ 64) (of : okP W H f) (og : okP W H g) (h : ∀ k, k < 4096 → px f k = px g k) : f = g := by
  funext y
  by_cases c : y < 64
  · apply lb_ext
    intro i hi
    have := h (64 * y + i) (by omega)
    rwa [px_xy f y hi, px_xy g y hi] at this
  · rw [okP_out of (by omega), okP_out og (by omega)]
theorem fill_ok {W H : Nat} {G f : Nat → Int64} (oG : okP W H G) (of : okP W H f) : fa_fill (fun y => G y &&& wh W) f H = G := by
  funext y
  unfold fa_fill
  by_cases c : y < H
  · rw [if_pos c]
    exact okP_row oG y
  · rw [if_neg c, okP_out of (by omega), okP_out oG (by omega)]
/-- a pixel, wherever -/
def onP (W H : Nat) (x y : Int) : Bool := decide (0 ≤ x ∧ x < W ∧ 0 ≤ y ∧ y < H)
def atP (W H : Nat) (f : Nat → Int64) (x y : Int) : Bool := onP W H x y && lb (f y.toNat) x.toNat
theorem in_s (S : xS) (h : xH) (a b c : Int64) : xM S mX13_in [.long a, .long b, .long c] h = some (.inl (some (.int (bz (decide (b.toInt ≤ a.toInt ∧ a.toInt ≤ c.toInt))))), h, 0, 0) := by
  refine w_X13_in S a b c h _ ?_
  simp only [lg_cmp_lt, lg_cmp_gt, Int64.lt_iff_toInt_lt]
  by_cases q1 : a.toInt < b.toInt
  · rw [if_pos q1, decide_eq_false (by omega)]
    rfl
  · rw [if_neg q1]
    by_cases q2 : c.toInt < a.toInt
    · rw [if_pos q2, decide_eq_false (by omega)]
      rfl
    · rw [if_neg q2, decide_eq_true (by omega)]
      rfl
theorem isPage_s (S : xS) (h : xH) (a : Nat) (p : Int32) : xM S mX13_isPage [.ref a, .int p] h = some (.inl (some (.int (bz (decide (0 ≤ p.toInt ∧ p.toInt ≤ 3))))), h, 0, 0) := by
  refine w_X13_isPage S a p h _ ?_
  rw [in_s, xqI_s, Int32.toInt_toInt64, t_0, t_3, if_pos (nar_bz _)]
theorem n_of {x : Int32} (h : 0 ≤ x.toInt) : x = nI x.toInt.toNat := by
  have := fb_rng x
  rw [fa_eq, nI_toInt (by omega)]
  omega
section MO
variable {S : xS} {W H n : Nat} {m : mM}
theorem fails_s (x : Int32) : xM S mX13_fails [.ref 90, .int x] (E W H n m) = some (.inl (some (.int 0)), E W H n (sI m 90 2 x), 0, 0) := by
  refine w_X13_fails S _ _ _ _ ?_
  repeat (first | refine c_let ?_ | refine c_ob (by first | omega | assumption) (by first | rfl | assumption) ?_ | refine c_gr (by first | omega | assumption) (by first | rfl | assumption) (by rfl) (by rfl) ?_ | refine c_gi (by first | omega | assumption) (by first | rfl | assumption) (by rfl) (by rfl) ?_ | refine c_gW (by first | omega | assumption) (by first | rfl | assumption) (by rfl) (by rfl) ?_ | refine c_gH (by first | omega | assumption) (by first | rfl | assumption) (by rfl) (by rfl) ?_ | refine c_ri (by first | omega | assumption) (by first | rfl | assumption) (by first | rfl | assumption) (by with_reducible rfl) (by first | omega | ((conv => rhs; whnf); omega)) (by first | omega | ((conv => lhs; whnf); omega)) (by decide) ?_ | refine c_rl (by first | omega | assumption) (by first | rfl | assumption) (by with_reducible rfl) (by first | omega | ((conv => rhs; whnf); omega)) (by first | omega | ((conv => lhs; whnf); omega)) ?_ | refine c_pi (by first | omega | assumption) (by first | rfl | assumption) (by rfl) (by rfl) (xPok_int (by decide) rfl) ?_ | refine c_wi (by first | omega | assumption) (by first | rfl | assumption) (by first | rfl | assumption) (by with_reducible rfl) (by first | omega | ((conv => rhs; whnf); omega)) (by first | omega | ((conv => lhs; whnf); omega)) ?_ | refine c_wl (by first | omega | assumption) (by first | rfl | assumption) (by with_reducible rfl) (by first | omega | ((conv => rhs; whnf); omega)) (by first | omega | ((conv => lhs; whnf); omega)) ?_ | refine c_rz (by first | omega | assumption) (by first | rfl | assumption) (by first | assumption | rfl) ?_ | refine c_gA (by first | omega | assumption) (by first | rfl | assumption) (by rfl) (by rfl) ?_ | refine c_gw (by first | omega | assumption) (by first | rfl | assumption) (by rfl) (by rfl) ?_ | refine c_gl (by first | omega | assumption) (by first | rfl | assumption) (by rfl) (by rfl) ?_ | refine c_nz ?_ | refine c_ift (by (first | assumption | ((try simp (disch := omega) only [n_lit, nI_add, pk_mul, pk_sub, n_div, sub_dm, Int32.toInt_toInt64, nI_toInt, sI_ne, sI_eq, sI_2, sL_1, sL_ne, sL_eq, sL_3, sR_1, sR_2, sR_ne, sR_eq, aI_ne, aI_eq, aI_2, aL_1, aL_ne, aL_eq, aL_3, Nat.add_zero, Nat.zero_add, Nat.reduceAdd, Nat.reduceMul, Nat.reduceSub, Nat.mul_zero, Nat.zero_mul, nI_ltI, nI_leI, nI_eq, bz_0, bz_1, t_0, decide_eq_false_iff_not, decide_eq_true_eq, Bool.and_eq_true, Bool.and_eq_false_imp, Bool.not_eq_true, Bool.not_eq_false]) <;> omega))) ?_ | refine c_iff (by (first | assumption | ((try simp (disch := omega) only [n_lit, nI_add, pk_mul, pk_sub, n_div, sub_dm, Int32.toInt_toInt64, nI_toInt, sI_ne, sI_eq, sI_2, sL_1, sL_ne, sL_eq, sL_3, sR_1, sR_2, sR_ne, sR_eq, aI_ne, aI_eq, aI_2, aL_1, aL_ne, aL_eq, aL_3, Nat.add_zero, Nat.zero_add, Nat.reduceAdd, Nat.reduceMul, Nat.reduceSub, Nat.mul_zero, Nat.zero_mul, nI_ltI, nI_leI, nI_eq, bz_0, bz_1, t_0, decide_eq_false_iff_not, decide_eq_true_eq, Bool.and_eq_true, Bool.and_eq_false_imp, Bool.not_eq_true, Bool.not_eq_false]) <;> omega))) ?_ | simp (disch := omega) only [n_lit, nI_add, pk_mul, pk_sub, n_div, sub_dm, Int32.toInt_toInt64, nI_toInt, sI_ne, sI_eq, sI_2, sL_1, sL_ne, sL_eq, sL_3, sR_1, sR_2, sR_ne, sR_eq, aI_ne, aI_eq, aI_2, aL_1, aL_ne, aL_eq, aL_3, Nat.add_zero, Nat.zero_add, Nat.reduceAdd, Nat.reduceMul, Nat.reduceSub, Nat.mul_zero, Nat.zero_mul])
  rfl
theorem isOn_s (hW8 : 8 ≤ W) (hW : W ≤ 64) (hH8 : 8 ≤ H) (hH : H ≤ 64) (x y : Int64) : xM S mX13_isOn [.ref 90, .long x, .long y] (E W H n m) = some (.inl (some (.int (bz (onP W H x.toInt y.toInt)))), E W H n m, 0, 0) := by
  refine w_X13_isOn S _ _ _ _ _ ?_
  repeat (first | refine c_let ?_ | refine c_ob (by first | omega | assumption) (by first | rfl | assumption) ?_ | refine c_gr (by first | omega | assumption) (by first | rfl | assumption) (by rfl) (by rfl) ?_ | refine c_gi (by first | omega | assumption) (by first | rfl | assumption) (by rfl) (by rfl) ?_ | refine c_gW (by first | omega | assumption) (by first | rfl | assumption) (by rfl) (by rfl) ?_ | refine c_gH (by first | omega | assumption) (by first | rfl | assumption) (by rfl) (by rfl) ?_ | refine c_ri (by first | omega | assumption) (by first | rfl | assumption) (by first | rfl | assumption) (by with_reducible rfl) (by first | omega | ((conv => rhs; whnf); omega)) (by first | omega | ((conv => lhs; whnf); omega)) (by decide) ?_ | refine c_rl (by first | omega | assumption) (by first | rfl | assumption) (by with_reducible rfl) (by first | omega | ((conv => rhs; whnf); omega)) (by first | omega | ((conv => lhs; whnf); omega)) ?_ | refine c_pi (by first | omega | assumption) (by first | rfl | assumption) (by rfl) (by rfl) (xPok_int (by decide) rfl) ?_ | refine c_wi (by first | omega | assumption) (by first | rfl | assumption) (by first | rfl | assumption) (by with_reducible rfl) (by first | omega | ((conv => rhs; whnf); omega)) (by first | omega | ((conv => lhs; whnf); omega)) ?_ | refine c_wl (by first | omega | assumption) (by first | rfl | assumption) (by with_reducible rfl) (by first | omega | ((conv => rhs; whnf); omega)) (by first | omega | ((conv => lhs; whnf); omega)) ?_ | refine c_rz (by first | omega | assumption) (by first | rfl | assumption) (by first | assumption | rfl) ?_ | refine c_qI (in_s _ _ _ _ _) ?_ | refine c_gA (by first | omega | assumption) (by first | rfl | assumption) (by rfl) (by rfl) ?_ | refine c_gw (by first | omega | assumption) (by first | rfl | assumption) (by rfl) (by rfl) ?_ | refine c_gl (by first | omega | assumption) (by first | rfl | assumption) (by rfl) (by rfl) ?_ | refine c_nz ?_ | refine c_ift (by (first | assumption | ((try simp (disch := omega) only [n_lit, nI_add, pk_mul, pk_sub, n_div, sub_dm, Int32.toInt_toInt64, nI_toInt, sI_ne, sI_eq, sI_2, sL_1, sL_ne, sL_eq, sL_3, sR_1, sR_2, sR_ne, sR_eq, aI_ne, aI_eq, aI_2, aL_1, aL_ne, aL_eq, aL_3, Nat.add_zero, Nat.zero_add, Nat.reduceAdd, Nat.reduceMul, Nat.reduceSub, Nat.mul_zero, Nat.zero_mul, nI_ltI, nI_leI, nI_eq, bz_0, bz_1, t_0, decide_eq_false_iff_not, decide_eq_true_eq, Bool.and_eq_true, Bool.and_eq_false_imp, Bool.not_eq_true, Bool.not_eq_false]) <;> omega))) ?_ | refine c_iff (by (first | assumption | ((try simp (disch := omega) only [n_lit, nI_add, pk_mul, pk_sub, n_div, sub_dm, Int32.toInt_toInt64, nI_toInt, sI_ne, sI_eq, sI_2, sL_1, sL_ne, sL_eq, sL_3, sR_1, sR_2, sR_ne, sR_eq, aI_ne, aI_eq, aI_2, aL_1, aL_ne, aL_eq, aL_3, Nat.add_zero, Nat.zero_add, Nat.reduceAdd, Nat.reduceMul, Nat.reduceSub, Nat.mul_zero, Nat.zero_mul, nI_ltI, nI_leI, nI_eq, bz_0, bz_1, t_0, decide_eq_false_iff_not, decide_eq_true_eq, Bool.and_eq_true, Bool.and_eq_false_imp, Bool.not_eq_true, Bool.not_eq_false]) <;> omega))) ?_ | simp (disch := omega) only [n_lit, nI_add, pk_mul, pk_sub, n_div, sub_dm, Int32.toInt_toInt64, nI_toInt, sI_ne, sI_eq, sI_2, sL_1, sL_ne, sL_eq, sL_3, sR_1, sR_2, sR_ne, sR_eq, aI_ne, aI_eq, aI_2, aL_1, aL_ne, aL_eq, aL_3, Nat.add_zero, Nat.zero_add, Nat.reduceAdd, Nat.reduceMul, Nat.reduceSub, Nat.mul_zero, Nat.zero_mul])
  by_cases c : 0 ≤ x.toInt ∧ x.toInt < W
  · refine c_iff (by simp (disch := omega) only [n_lit, nI_add, pk_mul, pk_sub, n_div, sub_dm, Int32.toInt_toInt64, nI_toInt, sI_ne, sI_eq, sI_2, sL_1, sL_ne, sL_eq, sL_3, sR_1, sR_2, sR_ne, sR_eq, aI_ne, aI_eq, aI_2, aL_1, aL_ne, aL_eq, aL_3, Nat.add_zero, Nat.zero_add, Nat.reduceAdd, Nat.reduceMul, Nat.reduceSub, Nat.mul_zero, Nat.zero_mul, nI_ltI, nI_leI, nI_eq, bz_0, bz_1, t_0, decide_eq_false_iff_not, decide_eq_true_eq, Bool.and_eq_true, Bool.and_eq_false_imp, Bool.not_eq_true, Bool.not_eq_false, t_0]; omega) ?_
    repeat (first | refine c_let ?_ | refine c_ob (by first | omega | assumption) (by first | rfl | assumption) ?_ | refine c_gr (by first | omega | assumption) (by first | rfl | assumption) (by rfl) (by rfl) ?_ | refine c_gi (by first | omega | assumption) (by first | rfl | assumption) (by rfl) (by rfl) ?_ | refine c_gW (by first | omega | assumption) (by first | rfl | assumption) (by rfl) (by rfl) ?_ | refine c_gH (by first | omega | assumption) (by first | rfl | assumption) (by rfl) (by rfl) ?_ | refine c_ri (by first | omega | assumption) (by first | rfl | assumption) (by first | rfl | assumption) (by with_reducible rfl) (by first | omega | ((conv => rhs; whnf); omega)) (by first | omega | ((conv => lhs; whnf); omega)) (by decide) ?_ | refine c_rl (by first | omega | assumption) (by first | rfl | assumption) (by with_reducible rfl) (by first | omega | ((conv => rhs; whnf); omega)) (by first | omega | ((conv => lhs; whnf); omega)) ?_ | refine c_pi (by first | omega | assumption) (by first | rfl | assumption) (by rfl) (by rfl) (xPok_int (by decide) rfl) ?_ | refine c_wi (by first | omega | assumption) (by first | rfl | assumption) (by first | rfl | assumption) (by with_reducible rfl) (by first | omega | ((conv => rhs; whnf); omega)) (by first | omega | ((conv => lhs; whnf); omega)) ?_ | refine c_wl (by first | omega | assumption) (by first | rfl | assumption) (by with_reducible rfl) (by first | omega | ((conv => rhs; whnf); omega)) (by first | omega | ((conv => lhs; whnf); omega)) ?_ | refine c_rz (by first | omega | assumption) (by first | rfl | assumption) (by first | assumption | rfl) ?_ | refine c_qI (in_s _ _ _ _ _) ?_ | refine c_gA (by first | omega | assumption) (by first | rfl | assumption) (by rfl) (by rfl) ?_ | refine c_gw (by first | omega | assumption) (by first | rfl | assumption) (by rfl) (by rfl) ?_ | refine c_gl (by first | omega | assumption) (by first | rfl | assumption) (by rfl) (by rfl) ?_ | refine c_nz ?_ | refine c_ift (by (first | assumption | ((try simp (disch := omega) only [n_lit, nI_add, pk_mul, pk_sub, n_div, sub_dm, Int32.toInt_toInt64, nI_toInt, sI_ne, sI_eq, sI_2, sL_1, sL_ne, sL_eq, sL_3, sR_1, sR_2, sR_ne, sR_eq, aI_ne, aI_eq, aI_2, aL_1, aL_ne, aL_eq, aL_3, Nat.add_zero, Nat.zero_add, Nat.reduceAdd, Nat.reduceMul, Nat.reduceSub, Nat.mul_zero, Nat.zero_mul, nI_ltI, nI_leI, nI_eq, bz_0, bz_1, t_0, decide_eq_false_iff_not, decide_eq_true_eq, Bool.and_eq_true, Bool.and_eq_false_imp, Bool.not_eq_true, Bool.not_eq_false]) <;> omega))) ?_ | refine c_iff (by (first | assumption | ((try simp (disch := omega) only [n_lit, nI_add, pk_mul, pk_sub, n_div, sub_dm, Int32.toInt_toInt64, nI_toInt, sI_ne, sI_eq, sI_2, sL_1, sL_ne, sL_eq, sL_3, sR_1, sR_2, sR_ne, sR_eq, aI_ne, aI_eq, aI_2, aL_1, aL_ne, aL_eq, aL_3, Nat.add_zero, Nat.zero_add, Nat.reduceAdd, Nat.reduceMul, Nat.reduceSub, Nat.mul_zero, Nat.zero_mul, nI_ltI, nI_leI, nI_eq, bz_0, bz_1, t_0, decide_eq_false_iff_not, decide_eq_true_eq, Bool.and_eq_true, Bool.and_eq_false_imp, Bool.not_eq_true, Bool.not_eq_false]) <;> omega))) ?_ | simp (disch := omega) only [n_lit, nI_add, pk_mul, pk_sub, n_div, sub_dm, Int32.toInt_toInt64, nI_toInt, sI_ne, sI_eq, sI_2, sL_1, sL_ne, sL_eq, sL_3, sR_1, sR_2, sR_ne, sR_eq, aI_ne, aI_eq, aI_2, aL_1, aL_ne, aL_eq, aL_3, Nat.add_zero, Nat.zero_add, Nat.reduceAdd, Nat.reduceMul, Nat.reduceSub, Nat.mul_zero, Nat.zero_mul])
    by_cases d : 0 ≤ y.toInt ∧ y.toInt < H
    · refine c_iff (by simp (disch := omega) only [n_lit, nI_add, pk_mul, pk_sub, n_div, sub_dm, Int32.toInt_toInt64, nI_toInt, sI_ne, sI_eq, sI_2, sL_1, sL_ne, sL_eq, sL_3, sR_1, sR_2, sR_ne, sR_eq, aI_ne, aI_eq, aI_2, aL_1, aL_ne, aL_eq, aL_3, Nat.add_zero, Nat.zero_add, Nat.reduceAdd, Nat.reduceMul, Nat.reduceSub, Nat.mul_zero, Nat.zero_mul, nI_ltI, nI_leI, nI_eq, bz_0, bz_1, t_0, decide_eq_false_iff_not, decide_eq_true_eq, Bool.and_eq_true, Bool.and_eq_false_imp, Bool.not_eq_true, Bool.not_eq_false, t_0]; omega) ?_
      rw [show onP W H x.toInt y.toInt = true from decide_eq_true ⟨c.1, c.2, d⟩]
      rfl
    · refine c_ift (by simp (disch := omega) only [n_lit, nI_add, pk_mul, pk_sub, n_div, sub_dm, Int32.toInt_toInt64, nI_toInt, sI_ne, sI_eq, sI_2, sL_1, sL_ne, sL_eq, sL_3, sR_1, sR_2, sR_ne, sR_eq, aI_ne, aI_eq, aI_2, aL_1, aL_ne, aL_eq, aL_3, Nat.add_zero, Nat.zero_add, Nat.reduceAdd, Nat.reduceMul, Nat.reduceSub, Nat.mul_zero, Nat.zero_mul, nI_ltI, nI_leI, nI_eq, bz_0, bz_1, t_0, decide_eq_false_iff_not, decide_eq_true_eq, Bool.and_eq_true, Bool.and_eq_false_imp, Bool.not_eq_true, Bool.not_eq_false, t_0]; omega) ?_
      rw [show onP W H x.toInt y.toInt = false from decide_eq_false (fun q => d q.2.2)]
      rfl
  · refine c_ift (by simp (disch := omega) only [n_lit, nI_add, pk_mul, pk_sub, n_div, sub_dm, Int32.toInt_toInt64, nI_toInt, sI_ne, sI_eq, sI_2, sL_1, sL_ne, sL_eq, sL_3, sR_1, sR_2, sR_ne, sR_eq, aI_ne, aI_eq, aI_2, aL_1, aL_ne, aL_eq, aL_3, Nat.add_zero, Nat.zero_add, Nat.reduceAdd, Nat.reduceMul, Nat.reduceSub, Nat.mul_zero, Nat.zero_mul, nI_ltI, nI_leI, nI_eq, bz_0, bz_1, t_0, decide_eq_false_iff_not, decide_eq_true_eq, Bool.and_eq_true, Bool.and_eq_false_imp, Bool.not_eq_true, Bool.not_eq_false, t_0]; omega) ?_
    rw [show onP W H x.toInt y.toInt = false from decide_eq_false (fun q => c ⟨q.1, q.2.1⟩)]
    rfl
end MO

/-! SETTINGS: configure of the class; the model reads a text -/
def rdQ (T : Nat → Nat) (L : Nat) : List (Nat × Int) × Option Nat := if L = 0 then ([], none) else rdS T L (L + 1) 0
theorem rd_neg {T : Nat → Nat} {L : Nat} {q : List (Nat × Int) × Option Nat} {x : Nat} (h : q.2 = some x) (hx : x < 1000) : rdR q 1 < nI 0 := by
  unfold rdR
  rw [h]
  show (-1 : Int32) - nI x < nI 0
  rw [fa_lt, Int32.toInt_sub, nI_toInt (by omega), nI_toInt (by decide), show (-1 : Int32).toInt = -1 from by decide, fb_bmod (by omega) (by omega)]
  omega
section CR
variable {S : xS} {W H n : Nat} {m : mM} {T : Nat → Nat} {L : Nat}
theorem cread_s {Z : ((Nat → Nat) × Nat × (Nat → Nat))} (X : txC m T L) (O : cfO Z) (C : cfX m 34 2 35 36 Z) : ∃ m', xM S mX2_read [.ref 34, .ref 32] (E W H n m) = some (.inl (some (.int (rdR (rdQ T L) 1))), E W H n m', 0, 0) ∧ cfX m' 34 5 37 38 ((rdQ T L).1.foldl ntS Z) ∧ cfO ((rdQ T L).1.foldl ntS Z) ∧ fr nxP m m' := by
  obtain ⟨x1, x2, x3⟩ := X
  obtain ⟨c1, c2, c3⟩ := C
  have o1 := O.1
  have hL := x2.1
  obtain ⟨m1, em⟩ : ∃ m1, m1 = sI (aI (aI m 37 (va_cpy (m.1 35) (m.1 37) 0 0 10)) 38 (va_cpy (m.1 36) (m.1 38) 0 0 10)) 34 5 (nI Z.2.1) := ⟨_, rfl⟩
  have C1 : cfX m1 34 5 37 38 Z := by
    rw [em]
    refine ⟨fun i hi => ?_, sI_eq ⟨rfl, rfl⟩, fun i hi => ?_⟩
    · rw [sI_ne (by omega), aI_ne (by omega), aI_eq rfl, va10, if_pos hi]; exact c1 i hi
    · rw [sI_ne (by omega), aI_eq rfl, va10, if_pos (by omega)]; exact c3 i hi
  have F1 : fr nxP m m1 := by
    rw [em]
    exact fr_sI (fr_aI (fr_aI fr_rf (fun y => rfl)) (fun y => rfl)) (by rfl)
  have X1 : txC m1 T L := ⟨by rw [fr_i F1 32 1 rfl]; exact x1, x2, fun i hi => by rw [fr_i F1 33 i rfl]; exact x3 i hi⟩
  have y1 := X1.1
  have ln : xM S mX11_length [.ref 32] (E W H n m1) = some (.inl (some (.int (nI L))), E W H n m1, 0, 0) := by
    refine w_X11_length S _ _ _ ?_
    repeat (first | (with_reducible refine c_let ?_) | ((with_reducible refine c_ob ?_ ?_ ?_); (focus (first | omega | assumption)); (focus (first | rfl | assumption))) | ((with_reducible show Option.bind (xGr _ _ _ _) _ = _); (first | refine c_gr (by first | omega | assumption) (by first | rfl | assumption) (by rfl) (by rfl) ?_)) | ((with_reducible show Option.bind (xGi _ _ _ _) _ = _); (first | refine c_gi (by first | omega | assumption) (by first | rfl | assumption) (by rfl) (by rfl) ?_ | refine c_gW (by first | omega | assumption) (by first | rfl | assumption) (by rfl) (by rfl) ?_ | refine c_gH (by first | omega | assumption) (by first | rfl | assumption) (by rfl) (by rfl) ?_ | refine c_gA (by first | omega | assumption) (by first | rfl | assumption) (by rfl) (by rfl) ?_ | refine c_gb (by first | omega | assumption) (by first | rfl | assumption) (by rfl) (by rfl) ?_)) | ((with_reducible show Option.bind (xRi _ _ _ _) _ = _); (first | refine c_ri (by first | omega | assumption) (by first | rfl | assumption) (by first | rfl | assumption) (by with_reducible rfl) (by first | omega | ((conv => rhs; whnf); first | omega | (show _ < OfNat.ofNat (α := Nat) _; omega))) (by first | omega | ((conv => lhs; whnf); first | omega | (show OfNat.ofNat (α := Nat) _ < _; omega))) (by decide) ?_)) | ((with_reducible show Option.bind (xRl _ _ _) _ = _); (first | refine c_rl (by first | omega | assumption) (by first | rfl | assumption) (by with_reducible rfl) (by first | omega | ((conv => rhs; whnf); first | omega | (show _ < OfNat.ofNat (α := Nat) _; omega))) (by first | omega | ((conv => lhs; whnf); first | omega | (show OfNat.ofNat (α := Nat) _ < _; omega))) ?_)) | ((with_reducible show Option.bind (xP _ _ _ _ _ _ (.int _)) _ = _); (first | refine c_pi (by first | omega | assumption) (by first | rfl | assumption) (by rfl) (by rfl) (xPok_int (by decide) (by rfl)) ?_)) | ((with_reducible show Option.bind (xWi _ _ _ _) _ = _); (first | refine c_wi (by first | omega | assumption) (by first | rfl | assumption) (by first | rfl | assumption) (by with_reducible rfl) (by first | omega | ((conv => rhs; whnf); first | omega | (show _ < OfNat.ofNat (α := Nat) _; omega))) (by first | omega | ((conv => lhs; whnf); first | omega | (show OfNat.ofNat (α := Nat) _ < _; omega))) ?_)) | ((with_reducible show Option.bind (xWl _ _ _ _) _ = _); (first | refine c_wl (by first | omega | assumption) (by first | rfl | assumption) (by with_reducible rfl) (by first | omega | ((conv => rhs; whnf); first | omega | (show _ < OfNat.ofNat (α := Nat) _; omega))) (by first | omega | ((conv => lhs; whnf); first | omega | (show OfNat.ofNat (α := Nat) _ < _; omega))) ?_)) | ((with_reducible show Option.bind (xRz _ _) _ = _); (first | refine c_rz (by first | omega | assumption) (by first | rfl | assumption) (by first | assumption | rfl) ?_)) | ((with_reducible show Option.bind (xGl _ _ _ _) _ = _); (first | refine c_gl (by first | omega | assumption) (by first | rfl | assumption) (by rfl) (by rfl) ?_ | refine c_gw (by first | omega | assumption) (by first | rfl | assumption) (by rfl) (by rfl) ?_)) | (with_reducible refine c_nz ?_) | ((with_reducible refine c_ift ?_ ?_); (focus (first | assumption | omega | (simp (disch := omega) only [n_lit, nI_add, pk_mul, pk_sub, n_div, sub_dm, Int32.toInt_toInt64, nI_toInt, sI_ne, sI_eq, sI_2, sL_1, sL_ne, sL_eq, sL_3, sR_1, sR_2, sR_ne, sR_eq, aI_ne, aI_eq, aI_2, aL_1, aL_ne, aL_eq, aL_3, Nat.add_zero, Nat.zero_add, Nat.reduceAdd, Nat.reduceMul, Nat.reduceSub, Nat.mul_zero, Nat.zero_mul, nI_ltI, nI_leI, nI_eq, bz_0, bz_1, t_0, decide_eq_false_iff_not, decide_eq_true_eq, Bool.and_eq_true, Bool.and_eq_false_imp, Bool.not_eq_true, Bool.not_eq_false, eq_self, not_true_eq_false, not_false_eq_true, reduceCtorEq, y1]; (try omega); done) | fail))) | ((with_reducible refine c_iff ?_ ?_); (focus (first | assumption | omega | (simp (disch := omega) only [n_lit, nI_add, pk_mul, pk_sub, n_div, sub_dm, Int32.toInt_toInt64, nI_toInt, sI_ne, sI_eq, sI_2, sL_1, sL_ne, sL_eq, sL_3, sR_1, sR_2, sR_ne, sR_eq, aI_ne, aI_eq, aI_2, aL_1, aL_ne, aL_eq, aL_3, Nat.add_zero, Nat.zero_add, Nat.reduceAdd, Nat.reduceMul, Nat.reduceSub, Nat.mul_zero, Nat.zero_mul, nI_ltI, nI_leI, nI_eq, bz_0, bz_1, t_0, decide_eq_false_iff_not, decide_eq_true_eq, Bool.and_eq_true, Bool.and_eq_false_imp, Bool.not_eq_true, Bool.not_eq_false, eq_self, not_true_eq_false, not_false_eq_true, reduceCtorEq, y1]; (try omega); done) | fail))) | simp (disch := omega) only [n_lit, nI_add, pk_mul, pk_sub, n_div, sub_dm, Int32.toInt_toInt64, nI_toInt, sI_ne, sI_eq, sI_2, sL_1, sL_ne, sL_eq, sL_3, sR_1, sR_2, sR_ne, sR_eq, aI_ne, aI_eq, aI_2, aL_1, aL_ne, aL_eq, aL_3, Nat.add_zero, Nat.zero_add, Nat.reduceAdd, Nat.reduceMul, Nat.reduceSub, Nat.mul_zero, Nat.zero_mul, y1])
    try rfl
  have go : ∀ {o' : xO}, (if ¬ nI L = nI 0 then (xden S mX2_read 58 [(0, .ref 34), (1, .ref 32), (2, .int (nI L)), (3, .int (nI 0)), (4, .int (nI 1))] [] (E W H n m1)) else (some (.inl (some (.int (0 : Int32))), E W H n m1, 0, 0))) = some o' → xM S mX2_read [.ref 34, .ref 32] (E W H n m) = some o' := fun {o'} ho => by
    refine w_X2_read S _ _ _ _ ?_
    repeat (first | (with_reducible refine c_let ?_) | ((with_reducible refine c_ob ?_ ?_ ?_); (focus (first | omega | assumption)); (focus (first | rfl | assumption))) | ((with_reducible show Option.bind (xGr _ _ _ _) _ = _); (first | refine c_gr (by first | omega | assumption) (by first | rfl | assumption) (by rfl) (by rfl) ?_)) | ((with_reducible show Option.bind (xGi _ _ _ _) _ = _); (first | refine c_gi (by first | omega | assumption) (by first | rfl | assumption) (by rfl) (by rfl) ?_ | refine c_gW (by first | omega | assumption) (by first | rfl | assumption) (by rfl) (by rfl) ?_ | refine c_gH (by first | omega | assumption) (by first | rfl | assumption) (by rfl) (by rfl) ?_ | refine c_gA (by first | omega | assumption) (by first | rfl | assumption) (by rfl) (by rfl) ?_ | refine c_gb (by first | omega | assumption) (by first | rfl | assumption) (by rfl) (by rfl) ?_)) | ((with_reducible show Option.bind (xRi _ _ _ _) _ = _); (first | refine c_ri (by first | omega | assumption) (by first | rfl | assumption) (by first | rfl | assumption) (by with_reducible rfl) (by first | omega | ((conv => rhs; whnf); first | omega | (show _ < OfNat.ofNat (α := Nat) _; omega))) (by first | omega | ((conv => lhs; whnf); first | omega | (show OfNat.ofNat (α := Nat) _ < _; omega))) (by decide) ?_)) | ((with_reducible show Option.bind (xRl _ _ _) _ = _); (first | refine c_rl (by first | omega | assumption) (by first | rfl | assumption) (by with_reducible rfl) (by first | omega | ((conv => rhs; whnf); first | omega | (show _ < OfNat.ofNat (α := Nat) _; omega))) (by first | omega | ((conv => lhs; whnf); first | omega | (show OfNat.ofNat (α := Nat) _ < _; omega))) ?_)) | ((with_reducible show Option.bind (xP _ _ _ _ _ _ (.int _)) _ = _); (first | refine c_pi (by first | omega | assumption) (by first | rfl | assumption) (by rfl) (by rfl) (xPok_int (by decide) (by rfl)) ?_)) | ((with_reducible show Option.bind (xWi _ _ _ _) _ = _); (first | refine c_wi (by first | omega | assumption) (by first | rfl | assumption) (by first | rfl | assumption) (by with_reducible rfl) (by first | omega | ((conv => rhs; whnf); first | omega | (show _ < OfNat.ofNat (α := Nat) _; omega))) (by first | omega | ((conv => lhs; whnf); first | omega | (show OfNat.ofNat (α := Nat) _ < _; omega))) ?_)) | ((with_reducible show Option.bind (xWl _ _ _ _) _ = _); (first | refine c_wl (by first | omega | assumption) (by first | rfl | assumption) (by with_reducible rfl) (by first | omega | ((conv => rhs; whnf); first | omega | (show _ < OfNat.ofNat (α := Nat) _; omega))) (by first | omega | ((conv => lhs; whnf); first | omega | (show OfNat.ofNat (α := Nat) _ < _; omega))) ?_)) | ((with_reducible show Option.bind (xRz _ _) _ = _); (first | refine c_rz (by first | omega | assumption) (by first | rfl | assumption) (by first | assumption | rfl) ?_)) | ((with_reducible show Option.bind (xGl _ _ _ _) _ = _); (first | refine c_gl (by first | omega | assumption) (by first | rfl | assumption) (by rfl) (by rfl) ?_ | refine c_gw (by first | omega | assumption) (by first | rfl | assumption) (by rfl) (by rfl) ?_)) | (with_reducible refine c_nz ?_) | ((with_reducible refine c_ift ?_ ?_); (focus (first | assumption | omega | (simp (disch := omega) only [n_lit, nI_add, pk_mul, pk_sub, n_div, sub_dm, Int32.toInt_toInt64, nI_toInt, sI_ne, sI_eq, sI_2, sL_1, sL_ne, sL_eq, sL_3, sR_1, sR_2, sR_ne, sR_eq, aI_ne, aI_eq, aI_2, aL_1, aL_ne, aL_eq, aL_3, Nat.add_zero, Nat.zero_add, Nat.reduceAdd, Nat.reduceMul, Nat.reduceSub, Nat.mul_zero, Nat.zero_mul, nI_ltI, nI_leI, nI_eq, bz_0, bz_1, t_0, decide_eq_false_iff_not, decide_eq_true_eq, Bool.and_eq_true, Bool.and_eq_false_imp, Bool.not_eq_true, Bool.not_eq_false, eq_self, not_true_eq_false, not_false_eq_true, reduceCtorEq]; (try omega); done) | fail))) | ((with_reducible refine c_iff ?_ ?_); (focus (first | assumption | omega | (simp (disch := omega) only [n_lit, nI_add, pk_mul, pk_sub, n_div, sub_dm, Int32.toInt_toInt64, nI_toInt, sI_ne, sI_eq, sI_2, sL_1, sL_ne, sL_eq, sL_3, sR_1, sR_2, sR_ne, sR_eq, aI_ne, aI_eq, aI_2, aL_1, aL_ne, aL_eq, aL_3, Nat.add_zero, Nat.zero_add, Nat.reduceAdd, Nat.reduceMul, Nat.reduceSub, Nat.mul_zero, Nat.zero_mul, nI_ltI, nI_leI, nI_eq, bz_0, bz_1, t_0, decide_eq_false_iff_not, decide_eq_true_eq, Bool.and_eq_true, Bool.and_eq_false_imp, Bool.not_eq_true, Bool.not_eq_false, eq_self, not_true_eq_false, not_false_eq_true, reduceCtorEq]; (try omega); done) | fail))) | simp (disch := omega) only [n_lit, nI_add, pk_mul, pk_sub, n_div, sub_dm, Int32.toInt_toInt64, nI_toInt, sI_ne, sI_eq, sI_2, sL_1, sL_ne, sL_eq, sL_3, sR_1, sR_2, sR_ne, sR_eq, aI_ne, aI_eq, aI_2, aL_1, aL_ne, aL_eq, aL_3, Nat.add_zero, Nat.zero_add, Nat.reduceAdd, Nat.reduceMul, Nat.reduceSub, Nat.mul_zero, Nat.zero_mul])
    refine c_cp10 (by decide) rfl rfl (by decide) rfl rfl rfl rfl ?_
    refine c_gr (by omega) (by rfl) (by rfl) (by rfl) ?_
    refine c_gr (by omega) (by rfl) (by rfl) (by rfl) ?_
    refine c_cp10 (by decide) rfl rfl (by decide) rfl rfl rfl rfl ?_
    repeat (first | (with_reducible refine c_let ?_) | ((with_reducible refine c_ob ?_ ?_ ?_); (focus (first | omega | assumption)); (focus (first | rfl | assumption))) | ((with_reducible show Option.bind (xGr _ _ _ _) _ = _); (first | refine c_gr (by first | omega | assumption) (by first | rfl | assumption) (by rfl) (by rfl) ?_)) | ((with_reducible show Option.bind (xGi _ _ _ _) _ = _); (first | refine c_gi (by first | omega | assumption) (by first | rfl | assumption) (by rfl) (by rfl) ?_ | refine c_gW (by first | omega | assumption) (by first | rfl | assumption) (by rfl) (by rfl) ?_ | refine c_gH (by first | omega | assumption) (by first | rfl | assumption) (by rfl) (by rfl) ?_ | refine c_gA (by first | omega | assumption) (by first | rfl | assumption) (by rfl) (by rfl) ?_ | refine c_gb (by first | omega | assumption) (by first | rfl | assumption) (by rfl) (by rfl) ?_)) | ((with_reducible show Option.bind (xRi _ _ _ _) _ = _); (first | refine c_ri (by first | omega | assumption) (by first | rfl | assumption) (by first | rfl | assumption) (by with_reducible rfl) (by first | omega | ((conv => rhs; whnf); first | omega | (show _ < OfNat.ofNat (α := Nat) _; omega))) (by first | omega | ((conv => lhs; whnf); first | omega | (show OfNat.ofNat (α := Nat) _ < _; omega))) (by decide) ?_)) | ((with_reducible show Option.bind (xRl _ _ _) _ = _); (first | refine c_rl (by first | omega | assumption) (by first | rfl | assumption) (by with_reducible rfl) (by first | omega | ((conv => rhs; whnf); first | omega | (show _ < OfNat.ofNat (α := Nat) _; omega))) (by first | omega | ((conv => lhs; whnf); first | omega | (show OfNat.ofNat (α := Nat) _ < _; omega))) ?_)) | ((with_reducible show Option.bind (xP _ _ _ _ _ _ (.int _)) _ = _); (first | refine c_pi (by first | omega | assumption) (by first | rfl | assumption) (by rfl) (by rfl) (xPok_int (by decide) (by rfl)) ?_)) | ((with_reducible show Option.bind (xWi _ _ _ _) _ = _); (first | refine c_wi (by first | omega | assumption) (by first | rfl | assumption) (by first | rfl | assumption) (by with_reducible rfl) (by first | omega | ((conv => rhs; whnf); first | omega | (show _ < OfNat.ofNat (α := Nat) _; omega))) (by first | omega | ((conv => lhs; whnf); first | omega | (show OfNat.ofNat (α := Nat) _ < _; omega))) ?_)) | ((with_reducible show Option.bind (xWl _ _ _ _) _ = _); (first | refine c_wl (by first | omega | assumption) (by first | rfl | assumption) (by with_reducible rfl) (by first | omega | ((conv => rhs; whnf); first | omega | (show _ < OfNat.ofNat (α := Nat) _; omega))) (by first | omega | ((conv => lhs; whnf); first | omega | (show OfNat.ofNat (α := Nat) _ < _; omega))) ?_)) | ((with_reducible show Option.bind (xRz _ _) _ = _); (first | refine c_rz (by first | omega | assumption) (by first | rfl | assumption) (by first | assumption | rfl) ?_)) | ((with_reducible show Option.bind (xGl _ _ _ _) _ = _); (first | refine c_gl (by first | omega | assumption) (by first | rfl | assumption) (by rfl) (by rfl) ?_ | refine c_gw (by first | omega | assumption) (by first | rfl | assumption) (by rfl) (by rfl) ?_)) | (with_reducible refine c_nz ?_) | ((with_reducible refine c_ift ?_ ?_); (focus (first | assumption | omega | (simp (disch := omega) only [n_lit, nI_add, pk_mul, pk_sub, n_div, sub_dm, Int32.toInt_toInt64, nI_toInt, sI_ne, sI_eq, sI_2, sL_1, sL_ne, sL_eq, sL_3, sR_1, sR_2, sR_ne, sR_eq, aI_ne, aI_eq, aI_2, aL_1, aL_ne, aL_eq, aL_3, Nat.add_zero, Nat.zero_add, Nat.reduceAdd, Nat.reduceMul, Nat.reduceSub, Nat.mul_zero, Nat.zero_mul, nI_ltI, nI_leI, nI_eq, bz_0, bz_1, t_0, decide_eq_false_iff_not, decide_eq_true_eq, Bool.and_eq_true, Bool.and_eq_false_imp, Bool.not_eq_true, Bool.not_eq_false, eq_self, not_true_eq_false, not_false_eq_true, reduceCtorEq, c2]; (try omega); done) | fail))) | ((with_reducible refine c_iff ?_ ?_); (focus (first | assumption | omega | (simp (disch := omega) only [n_lit, nI_add, pk_mul, pk_sub, n_div, sub_dm, Int32.toInt_toInt64, nI_toInt, sI_ne, sI_eq, sI_2, sL_1, sL_ne, sL_eq, sL_3, sR_1, sR_2, sR_ne, sR_eq, aI_ne, aI_eq, aI_2, aL_1, aL_ne, aL_eq, aL_3, Nat.add_zero, Nat.zero_add, Nat.reduceAdd, Nat.reduceMul, Nat.reduceSub, Nat.mul_zero, Nat.zero_mul, nI_ltI, nI_leI, nI_eq, bz_0, bz_1, t_0, decide_eq_false_iff_not, decide_eq_true_eq, Bool.and_eq_true, Bool.and_eq_false_imp, Bool.not_eq_true, Bool.not_eq_false, eq_self, not_true_eq_false, not_false_eq_true, reduceCtorEq, c2]; (try omega); done) | fail))) | simp (disch := omega) only [n_lit, nI_add, pk_mul, pk_sub, n_div, sub_dm, Int32.toInt_toInt64, nI_toInt, sI_ne, sI_eq, sI_2, sL_1, sL_ne, sL_eq, sL_3, sR_1, sR_2, sR_ne, sR_eq, aI_ne, aI_eq, aI_2, aL_1, aL_ne, aL_eq, aL_3, Nat.add_zero, Nat.zero_add, Nat.reduceAdd, Nat.reduceMul, Nat.reduceSub, Nat.mul_zero, Nat.zero_mul, c2])
    rw [← em]
    refine c_qI ln ?_
    exact ho
  by_cases z : L = 0
  · have e : rdQ T L = ([], none) := if_pos z
    rw [e]
    refine ⟨m1, go ?_, C1, O, F1⟩
    rw [z, if_neg (fun w => w rfl)]
    rfl
  · have e : rdQ T L = rdS T L (L + 1) 0 := if_neg z
    rw [e]
    obtain ⟨m2, k1, k2, k3, k4⟩ := read_loop (S := S) (W := W) (H := H) (n := n) (L + 1) 0 1 m1 Z X1 (Nat.zero_le _) (by omega) (by omega) (by omega) O C1
    refine ⟨m2, go ?_, k2, k3, fr_tr F1 k4⟩
    rw [if_pos (fun w => z ((nI_eq (by omega) (by decide)).mp w))]
    exact k1
def cfP (a j : Nat) : Bool := (decide (35 ≤ a) && decide (a < 39)) || ((a == 34 && (j == 2 || j == 5)) || (a == 32 && j == 1))
theorem rdQ_len : (rdQ T L).1.length ≤ L + 3 := by
  unfold rdQ
  split
  · exact Nat.zero_le _
  · have := (rdS_len (T := T) (L := L) (L + 1) 0 (Nat.zero_le _)).1
    omega
theorem rdS_err : ∀ f i x, i ≤ L → (rdS T L f i).2 = some x → x ≤ L + 1 := by
  intro f
  induction f with
  | zero => intro i x h1 h2; cases h2; omega
  | succ f ih =>
    intro i x h1 h2
    have ge : i ≤ en (tS T L) L i := en_ge
    have le : en (tS T L) L i ≤ L := en_le h1
    unfold rdS at h2
    (try dsimp only at h2)
    split at h2
    · cases h2; omega
    · split at h2
      · cases h2; omega
      · rename_i c
        have le2 : en (tB T L) L (en (tS T L) L i + 1) ≤ L := en_le (by
          have := Classical.not_not.mp c
          omega)
        split at h2
        · cases h2; omega
        · split at h2
          · cases h2
          · split at h2
            · cases h2; omega
            · exact ih _ x (by omega) h2
theorem cconf_ok {Z : ((Nat → Nat) × Nat × (Nat → Nat))} (X : txC m T L) (O : cfO Z) (C : cfX m 34 2 35 36 Z) (h : (rdQ T L).2 = none) : ∃ m', xM S mX12_configure [.ref 0] (E W H n m) = some (.inl (some (.int (nI (rdQ T L).1.length))), E W H n m', 0, 0) ∧ cfX m' 34 2 35 36 ((rdQ T L).1.foldl ntS Z) ∧ cfO ((rdQ T L).1.foldl ntS Z) ∧ txC m' T 0 ∧ fr cfP m m' := by
  obtain ⟨m1, k1, k2, k3, k4⟩ := cread_s (S := S) (W := W) (H := H) (n := n) X O C
  obtain ⟨m2, a1, a2, a3⟩ := apply_s (S := S) (W := W) (H := H) (n := n) k3 k2
  have X2 : txC m2 T L := ⟨by rw [fr_i a3 32 1 rfl, fr_i k4 32 1 rfl]; exact X.1, X.2.1, fun i hi => by rw [fr_i a3 33 i rfl, fr_i k4 33 i rfl]; exact X.2.2 i hi⟩
  have cl := cclear_s (S := S) (W := W) (H := H) (n := n) X2
  have ev : rdR (rdQ T L) 1 = nI (rdQ T L).1.length := by
    unfold rdR
    rw [h]
    show nI (1 + (rdQ T L).1.length - 1) = _
    rw [show 1 + (rdQ T L).1.length - 1 = (rdQ T L).1.length by omega]
  rw [ev] at k1
  have hl := rdQ_len (T := T) (L := L)
  have hL := X.2.1.1
  have nn : ¬ nI (rdQ T L).1.length < nI 0 := fun q => by have := (nI_ltI (by omega) (by omega)).mp q; omega
  obtain ⟨b1, b2, b3⟩ := a2
  refine ⟨sI m2 32 1 (nI 0), w_X12_configure S _ _ _ ?_, ⟨fun i hi => by rw [sI_ne (by omega)]; exact b1 i hi, by rw [sI_ne (by omega)]; exact b2, fun i hi => by rw [sI_ne (by omega)]; exact b3 i hi⟩, k3, txC_0 _ _, fr_sI (fr_tr (fr_mono k4 (fun a j w => ?_)) (fr_mono a3 (fun a j w => ?_))) (by rfl)⟩
  · refine c_gr (by omega) (by rfl) (by rfl) (by rfl) ?_
    refine c_gr (by omega) (by rfl) (by rfl) (by rfl) ?_
    refine c_ob (by omega) (by rfl) ?_
    refine c_qI k1 ?_
    refine c_iff nn ?_
    refine c_gr (by omega) (by rfl) (by rfl) (by rfl) ?_
    refine c_ob (by omega) (by rfl) ?_
    refine c_qV a1 ?_
    refine c_gr (by omega) (by rfl) (by rfl) (by rfl) ?_
    refine c_ob (by omega) (by rfl) ?_
    refine c_qI cl ?_
    rfl
  · unfold cfP at w
    unfold nxP
    simp only [Bool.or_eq_false_iff, Bool.and_eq_false_iff, decide_eq_false_iff_not, beq_eq_false_iff_ne, ne_eq] at w ⊢
    omega
  · unfold cfP at w
    simp only [Bool.or_eq_false_iff, Bool.and_eq_false_iff, decide_eq_false_iff_not, beq_eq_false_iff_ne, ne_eq] at w ⊢
    omega
theorem cconf_err {Z : ((Nat → Nat) × Nat × (Nat → Nat))} (X : txC m T L) (O : cfO Z) (C : cfX m 34 2 35 36 Z) {x : Nat} (h : (rdQ T L).2 = some x) : ∃ m', xM S mX12_configure [.ref 0] (E W H n m) = some (.inl (some (.int (-1 - nI x))), E W H n m', 0, 0) ∧ fr nxP m m' := by
  obtain ⟨m1, k1, k2, k3, k4⟩ := cread_s (S := S) (W := W) (H := H) (n := n) X O C
  have hL := X.2.1.1
  have hx : x < 1000 := by
    unfold rdQ at h
    split at h
    · cases h
    · have := rdS_err (L + 1) 0 x (Nat.zero_le _) h
      omega
  have ng := rd_neg (T := T) (L := L) h hx
  have ev : rdR (rdQ T L) 1 = -1 - nI x := by unfold rdR; rw [h]
  rw [ev] at k1 ng
  refine ⟨m1, w_X12_configure S _ _ _ ?_, k4⟩
  refine c_gr (by omega) (by rfl) (by rfl) (by rfl) ?_
  refine c_gr (by omega) (by rfl) (by rfl) (by rfl) ?_
  refine c_ob (by omega) (by rfl) ?_
  refine c_qI k1 ?_
  refine c_ift ng ?_
  rfl
theorem csetting_in {Z : ((Nat → Nat) × Nat × (Nat → Nat))} (C : cfX m 34 2 35 36 Z) {s : Nat} (hs : s < 10) : xM S mX12_setting [.ref 0, .int (nI s)] (E W H n m) = some (.inl (some (.int (nI (Z.1 s)))), E W H n m, 0, 0) := by
  obtain ⟨a1, a2, a3, a4, a5, a6, _⟩ := st_all s hs
  have c1 := C.1 s hs
  have xi : xin (nI s) 10 = true := xin_nI hs (by decide)
  have xc : (nI s).toNatClampNeg = s := nI_clamp (by omega)
  have z10 : 10 = eL H 35 := rfl
  have vo : xM S mX2_valueOf [.ref 34, .retAddr s] (E W H n m) = some (.inl (some (.int (nI (Z.1 s)))), E W H n m, 0, 0) := by
    refine w_X2_valueOf S _ _ _ _ ?_
    rw [a6, Option.bind_some]
    repeat (first | (with_reducible refine c_let ?_) | ((with_reducible refine c_ob ?_ ?_ ?_); (focus (first | omega | assumption)); (focus (first | rfl | assumption))) | ((with_reducible show Option.bind (xGr _ _ _ _) _ = _); (first | refine c_gr (by first | omega | assumption) (by first | rfl | assumption) (by rfl) (by rfl) ?_)) | ((with_reducible show Option.bind (xGi _ _ _ _) _ = _); (first | refine c_gi (by first | omega | assumption) (by first | rfl | assumption) (by rfl) (by rfl) ?_ | refine c_gW (by first | omega | assumption) (by first | rfl | assumption) (by rfl) (by rfl) ?_ | refine c_gH (by first | omega | assumption) (by first | rfl | assumption) (by rfl) (by rfl) ?_ | refine c_gA (by first | omega | assumption) (by first | rfl | assumption) (by rfl) (by rfl) ?_ | refine c_gb (by first | omega | assumption) (by first | rfl | assumption) (by rfl) (by rfl) ?_)) | ((with_reducible show Option.bind (xRi _ _ _ _) _ = _); (first | refine c_ri (by first | omega | assumption) (by first | rfl | assumption) (by first | rfl | assumption) (by with_reducible rfl) (by first | omega | ((conv => rhs; whnf); first | omega | (show _ < OfNat.ofNat (α := Nat) _; omega))) (by first | omega | ((conv => lhs; whnf); first | omega | (show OfNat.ofNat (α := Nat) _ < _; omega))) (by decide) ?_)) | ((with_reducible show Option.bind (xRl _ _ _) _ = _); (first | refine c_rl (by first | omega | assumption) (by first | rfl | assumption) (by with_reducible rfl) (by first | omega | ((conv => rhs; whnf); first | omega | (show _ < OfNat.ofNat (α := Nat) _; omega))) (by first | omega | ((conv => lhs; whnf); first | omega | (show OfNat.ofNat (α := Nat) _ < _; omega))) ?_)) | ((with_reducible show Option.bind (xP _ _ _ _ _ _ (.int _)) _ = _); (first | refine c_pi (by first | omega | assumption) (by first | rfl | assumption) (by rfl) (by rfl) (xPok_int (by decide) (by rfl)) ?_)) | ((with_reducible show Option.bind (xWi _ _ _ _) _ = _); (first | refine c_wi (by first | omega | assumption) (by first | rfl | assumption) (by first | rfl | assumption) (by with_reducible rfl) (by first | omega | ((conv => rhs; whnf); first | omega | (show _ < OfNat.ofNat (α := Nat) _; omega))) (by first | omega | ((conv => lhs; whnf); first | omega | (show OfNat.ofNat (α := Nat) _ < _; omega))) ?_)) | ((with_reducible show Option.bind (xWl _ _ _ _) _ = _); (first | refine c_wl (by first | omega | assumption) (by first | rfl | assumption) (by with_reducible rfl) (by first | omega | ((conv => rhs; whnf); first | omega | (show _ < OfNat.ofNat (α := Nat) _; omega))) (by first | omega | ((conv => lhs; whnf); first | omega | (show OfNat.ofNat (α := Nat) _ < _; omega))) ?_)) | ((with_reducible show Option.bind (xRz _ _) _ = _); (first | refine c_rz (by first | omega | assumption) (by first | rfl | assumption) (by first | assumption | rfl) ?_)) | ((with_reducible show Option.bind (xGl _ _ _ _) _ = _); (first | refine c_gl (by first | omega | assumption) (by first | rfl | assumption) (by rfl) (by rfl) ?_ | refine c_gw (by first | omega | assumption) (by first | rfl | assumption) (by rfl) (by rfl) ?_)) | (with_reducible refine c_nz ?_) | ((with_reducible refine c_ift ?_ ?_); (focus (first | assumption | omega | (simp (disch := omega) only [n_lit, nI_add, pk_mul, pk_sub, n_div, sub_dm, Int32.toInt_toInt64, nI_toInt, sI_ne, sI_eq, sI_2, sL_1, sL_ne, sL_eq, sL_3, sR_1, sR_2, sR_ne, sR_eq, aI_ne, aI_eq, aI_2, aL_1, aL_ne, aL_eq, aL_3, Nat.add_zero, Nat.zero_add, Nat.reduceAdd, Nat.reduceMul, Nat.reduceSub, Nat.mul_zero, Nat.zero_mul, nI_ltI, nI_leI, nI_eq, bz_0, bz_1, t_0, decide_eq_false_iff_not, decide_eq_true_eq, Bool.and_eq_true, Bool.and_eq_false_imp, Bool.not_eq_true, Bool.not_eq_false, eq_self, not_true_eq_false, not_false_eq_true, reduceCtorEq, c1]; (try omega); done) | fail))) | ((with_reducible refine c_iff ?_ ?_); (focus (first | assumption | omega | (simp (disch := omega) only [n_lit, nI_add, pk_mul, pk_sub, n_div, sub_dm, Int32.toInt_toInt64, nI_toInt, sI_ne, sI_eq, sI_2, sL_1, sL_ne, sL_eq, sL_3, sR_1, sR_2, sR_ne, sR_eq, aI_ne, aI_eq, aI_2, aL_1, aL_ne, aL_eq, aL_3, Nat.add_zero, Nat.zero_add, Nat.reduceAdd, Nat.reduceMul, Nat.reduceSub, Nat.mul_zero, Nat.zero_mul, nI_ltI, nI_leI, nI_eq, bz_0, bz_1, t_0, decide_eq_false_iff_not, decide_eq_true_eq, Bool.and_eq_true, Bool.and_eq_false_imp, Bool.not_eq_true, Bool.not_eq_false, eq_self, not_true_eq_false, not_false_eq_true, reduceCtorEq, c1]; (try omega); done) | fail))) | simp (disch := omega) only [n_lit, nI_add, pk_mul, pk_sub, n_div, sub_dm, Int32.toInt_toInt64, nI_toInt, sI_ne, sI_eq, sI_2, sL_1, sL_ne, sL_eq, sL_3, sR_1, sR_2, sR_ne, sR_eq, aI_ne, aI_eq, aI_2, aL_1, aL_ne, aL_eq, aL_3, Nat.add_zero, Nat.zero_add, Nat.reduceAdd, Nat.reduceMul, Nat.reduceSub, Nat.mul_zero, Nat.zero_mul, c1])
    try rfl
  refine w_X12_setting S _ _ _ _ ?_
  refine c_iff (fun q => by have := (nI_ltI (b := 0) (by omega) (by omega)).mp q; omega) ?_
  refine c_ift ((nI_ltI (b := 10) (by omega) (by omega)).mpr hs) ?_
  refine c_gr (by omega) (by rfl) (by rfl) (by rfl) ?_
  refine c_ift xi ?_
  refine c_ob (by omega) (by rfl) ?_
  rw [xc]
  refine c_qI vo ?_
  rfl
theorem csetting_out {s : Int32} (h : ¬ (0 ≤ s.toInt ∧ s.toInt ≤ 9)) : xM S mX12_setting [.ref 0, .int s] (E W H n m) = some (.inr sIO, E W H n m, 1, 6) := by
  refine w_X12_setting S _ _ _ _ ?_
  by_cases c : s.toInt < 0
  · refine c_ift ((i_lt0 s).mpr c) ?_
    rfl
  · refine c_iff (fun q => c ((i_lt0 s).mp q)) ?_
    refine c_iff (fun q => by
      have q : s < nI 10 := q
      rw [fa_lt, nI_toInt (by decide)] at q
      omega) ?_
    rfl
end CR

/-! SETTINGS: configure of the model, whole -/
section MD
variable {S : xS} {W H n : Nat} {m : mM} {T : Nat → Nat} {L : Nat}
theorem mreads_s (X : txM m T L) : ∃ m', xM S mX13_readsSettings [.ref 90] (E W H n m) = some (.inl (some (.int (oI (rdQ T L).2))), E W H n m', 0, 0) ∧ ((rdQ T L).2 = none → lstM m' (rdQ T L).1) ∧ fr rsP m m' := by
  have F0 : fr rsP m (sI m 90 23 (nI 0)) := fr_sI fr_rf (by rfl)
  have X0 := txM_fr X F0 (fun a j q => by unfold rsP; simp; omega)
  have y1 := X0.1
  have L0 : lstM (sI m 90 23 (nI 0)) [] := ⟨sI_eq ⟨rfl, rfl⟩, fun i a h => by cases h⟩
  by_cases z : L = 0
  · have e : rdQ T L = ([], none) := if_pos z
    rw [e]
    refine ⟨sI m 90 23 (nI 0), w_X13_readsSettings S _ _ _ ?_, fun _ => L0, F0⟩
    have x1 := X.1
    rw [z] at x1
    repeat (first | (with_reducible refine c_let ?_) | ((with_reducible refine c_ob ?_ ?_ ?_); (focus (first | omega | assumption)); (focus (first | rfl | assumption))) | ((with_reducible show Option.bind (xGr _ _ _ _) _ = _); (first | refine c_gr (by first | omega | assumption) (by first | rfl | assumption) (by rfl) (by rfl) ?_)) | ((with_reducible show Option.bind (xGi _ _ _ _) _ = _); (first | refine c_gi (by first | omega | assumption) (by first | rfl | assumption) (by rfl) (by rfl) ?_ | refine c_gW (by first | omega | assumption) (by first | rfl | assumption) (by rfl) (by rfl) ?_ | refine c_gH (by first | omega | assumption) (by first | rfl | assumption) (by rfl) (by rfl) ?_ | refine c_gA (by first | omega | assumption) (by first | rfl | assumption) (by rfl) (by rfl) ?_ | refine c_gb (by first | omega | assumption) (by first | rfl | assumption) (by rfl) (by rfl) ?_)) | ((with_reducible show Option.bind (xRi _ _ _ _) _ = _); (first | refine c_ri (by first | omega | assumption) (by first | rfl | assumption) (by first | rfl | assumption) (by with_reducible rfl) (by first | omega | ((conv => rhs; whnf); first | omega | (show _ < OfNat.ofNat (α := Nat) _; omega))) (by first | omega | ((conv => lhs; whnf); first | omega | (show OfNat.ofNat (α := Nat) _ < _; omega))) (by decide) ?_)) | ((with_reducible show Option.bind (xRl _ _ _) _ = _); (first | refine c_rl (by first | omega | assumption) (by first | rfl | assumption) (by with_reducible rfl) (by first | omega | ((conv => rhs; whnf); first | omega | (show _ < OfNat.ofNat (α := Nat) _; omega))) (by first | omega | ((conv => lhs; whnf); first | omega | (show OfNat.ofNat (α := Nat) _ < _; omega))) ?_)) | ((with_reducible show Option.bind (xP _ _ _ _ _ _ (.int _)) _ = _); (first | refine c_pi (by first | omega | assumption) (by first | rfl | assumption) (by rfl) (by rfl) (xPok_int (by decide) (by rfl)) ?_)) | ((with_reducible show Option.bind (xWi _ _ _ _) _ = _); (first | refine c_wi (by first | omega | assumption) (by first | rfl | assumption) (by first | rfl | assumption) (by with_reducible rfl) (by first | omega | ((conv => rhs; whnf); first | omega | (show _ < OfNat.ofNat (α := Nat) _; omega))) (by first | omega | ((conv => lhs; whnf); first | omega | (show OfNat.ofNat (α := Nat) _ < _; omega))) ?_)) | ((with_reducible show Option.bind (xWl _ _ _ _) _ = _); (first | refine c_wl (by first | omega | assumption) (by first | rfl | assumption) (by with_reducible rfl) (by first | omega | ((conv => rhs; whnf); first | omega | (show _ < OfNat.ofNat (α := Nat) _; omega))) (by first | omega | ((conv => lhs; whnf); first | omega | (show OfNat.ofNat (α := Nat) _ < _; omega))) ?_)) | ((with_reducible show Option.bind (xRz _ _) _ = _); (first | refine c_rz (by first | omega | assumption) (by first | rfl | assumption) (by first | assumption | rfl) ?_)) | ((with_reducible show Option.bind (xGl _ _ _ _) _ = _); (first | refine c_gl (by first | omega | assumption) (by first | rfl | assumption) (by rfl) (by rfl) ?_ | refine c_gw (by first | omega | assumption) (by first | rfl | assumption) (by rfl) (by rfl) ?_)) | (with_reducible refine c_nz ?_) | ((with_reducible refine c_ift ?_ ?_); (focus (first | assumption | omega | (simp (disch := omega) only [n_lit, nI_add, pk_mul, pk_sub, n_div, sub_dm, Int32.toInt_toInt64, nI_toInt, sI_ne, sI_eq, sI_2, sL_1, sL_ne, sL_eq, sL_3, sR_1, sR_2, sR_ne, sR_eq, aI_ne, aI_eq, aI_2, aL_1, aL_ne, aL_eq, aL_3, Nat.add_zero, Nat.zero_add, Nat.reduceAdd, Nat.reduceMul, Nat.reduceSub, Nat.mul_zero, Nat.zero_mul, nI_ltI, nI_leI, nI_eq, bz_0, bz_1, t_0, decide_eq_false_iff_not, decide_eq_true_eq, Bool.and_eq_true, Bool.and_eq_false_imp, Bool.not_eq_true, Bool.not_eq_false, eq_self, not_true_eq_false, not_false_eq_true, reduceCtorEq]; (try omega); done) | fail))) | ((with_reducible refine c_iff ?_ ?_); (focus (first | assumption | omega | (simp (disch := omega) only [n_lit, nI_add, pk_mul, pk_sub, n_div, sub_dm, Int32.toInt_toInt64, nI_toInt, sI_ne, sI_eq, sI_2, sL_1, sL_ne, sL_eq, sL_3, sR_1, sR_2, sR_ne, sR_eq, aI_ne, aI_eq, aI_2, aL_1, aL_ne, aL_eq, aL_3, Nat.add_zero, Nat.zero_add, Nat.reduceAdd, Nat.reduceMul, Nat.reduceSub, Nat.mul_zero, Nat.zero_mul, nI_ltI, nI_leI, nI_eq, bz_0, bz_1, t_0, decide_eq_false_iff_not, decide_eq_true_eq, Bool.and_eq_true, Bool.and_eq_false_imp, Bool.not_eq_true, Bool.not_eq_false, eq_self, not_true_eq_false, not_false_eq_true, reduceCtorEq]; (try omega); done) | fail))) | simp (disch := omega) only [n_lit, nI_add, pk_mul, pk_sub, n_div, sub_dm, Int32.toInt_toInt64, nI_toInt, sI_ne, sI_eq, sI_2, sL_1, sL_ne, sL_eq, sL_3, sR_1, sR_2, sR_ne, sR_eq, aI_ne, aI_eq, aI_2, aL_1, aL_ne, aL_eq, aL_3, Nat.add_zero, Nat.zero_add, Nat.reduceAdd, Nat.reduceMul, Nat.reduceSub, Nat.mul_zero, Nat.zero_mul])
    refine w_X13_readsSettings_7 S _ _ _ _ ?_
    repeat (first | (with_reducible refine c_let ?_) | ((with_reducible refine c_ob ?_ ?_ ?_); (focus (first | omega | assumption)); (focus (first | rfl | assumption))) | ((with_reducible show Option.bind (xGr _ _ _ _) _ = _); (first | refine c_gr (by first | omega | assumption) (by first | rfl | assumption) (by rfl) (by rfl) ?_)) | ((with_reducible show Option.bind (xGi _ _ _ _) _ = _); (first | refine c_gi (by first | omega | assumption) (by first | rfl | assumption) (by rfl) (by rfl) ?_ | refine c_gW (by first | omega | assumption) (by first | rfl | assumption) (by rfl) (by rfl) ?_ | refine c_gH (by first | omega | assumption) (by first | rfl | assumption) (by rfl) (by rfl) ?_ | refine c_gA (by first | omega | assumption) (by first | rfl | assumption) (by rfl) (by rfl) ?_ | refine c_gb (by first | omega | assumption) (by first | rfl | assumption) (by rfl) (by rfl) ?_)) | ((with_reducible show Option.bind (xRi _ _ _ _) _ = _); (first | refine c_ri (by first | omega | assumption) (by first | rfl | assumption) (by first | rfl | assumption) (by with_reducible rfl) (by first | omega | ((conv => rhs; whnf); first | omega | (show _ < OfNat.ofNat (α := Nat) _; omega))) (by first | omega | ((conv => lhs; whnf); first | omega | (show OfNat.ofNat (α := Nat) _ < _; omega))) (by decide) ?_)) | ((with_reducible show Option.bind (xRl _ _ _) _ = _); (first | refine c_rl (by first | omega | assumption) (by first | rfl | assumption) (by with_reducible rfl) (by first | omega | ((conv => rhs; whnf); first | omega | (show _ < OfNat.ofNat (α := Nat) _; omega))) (by first | omega | ((conv => lhs; whnf); first | omega | (show OfNat.ofNat (α := Nat) _ < _; omega))) ?_)) | ((with_reducible show Option.bind (xP _ _ _ _ _ _ (.int _)) _ = _); (first | refine c_pi (by first | omega | assumption) (by first | rfl | assumption) (by rfl) (by rfl) (xPok_int (by decide) (by rfl)) ?_)) | ((with_reducible show Option.bind (xWi _ _ _ _) _ = _); (first | refine c_wi (by first | omega | assumption) (by first | rfl | assumption) (by first | rfl | assumption) (by with_reducible rfl) (by first | omega | ((conv => rhs; whnf); first | omega | (show _ < OfNat.ofNat (α := Nat) _; omega))) (by first | omega | ((conv => lhs; whnf); first | omega | (show OfNat.ofNat (α := Nat) _ < _; omega))) ?_)) | ((with_reducible show Option.bind (xWl _ _ _ _) _ = _); (first | refine c_wl (by first | omega | assumption) (by first | rfl | assumption) (by with_reducible rfl) (by first | omega | ((conv => rhs; whnf); first | omega | (show _ < OfNat.ofNat (α := Nat) _; omega))) (by first | omega | ((conv => lhs; whnf); first | omega | (show OfNat.ofNat (α := Nat) _ < _; omega))) ?_)) | ((with_reducible show Option.bind (xRz _ _) _ = _); (first | refine c_rz (by first | omega | assumption) (by first | rfl | assumption) (by first | assumption | rfl) ?_)) | ((with_reducible show Option.bind (xGl _ _ _ _) _ = _); (first | refine c_gl (by first | omega | assumption) (by first | rfl | assumption) (by rfl) (by rfl) ?_ | refine c_gw (by first | omega | assumption) (by first | rfl | assumption) (by rfl) (by rfl) ?_)) | (with_reducible refine c_nz ?_) | ((with_reducible refine c_ift ?_ ?_); (focus (first | assumption | omega | (simp (disch := omega) only [n_lit, nI_add, pk_mul, pk_sub, n_div, sub_dm, Int32.toInt_toInt64, nI_toInt, sI_ne, sI_eq, sI_2, sL_1, sL_ne, sL_eq, sL_3, sR_1, sR_2, sR_ne, sR_eq, aI_ne, aI_eq, aI_2, aL_1, aL_ne, aL_eq, aL_3, Nat.add_zero, Nat.zero_add, Nat.reduceAdd, Nat.reduceMul, Nat.reduceSub, Nat.mul_zero, Nat.zero_mul, nI_ltI, nI_leI, nI_eq, bz_0, bz_1, t_0, decide_eq_false_iff_not, decide_eq_true_eq, Bool.and_eq_true, Bool.and_eq_false_imp, Bool.not_eq_true, Bool.not_eq_false, eq_self, not_true_eq_false, not_false_eq_true, reduceCtorEq, x1]; (try omega); done) | fail))) | ((with_reducible refine c_iff ?_ ?_); (focus (first | assumption | omega | (simp (disch := omega) only [n_lit, nI_add, pk_mul, pk_sub, n_div, sub_dm, Int32.toInt_toInt64, nI_toInt, sI_ne, sI_eq, sI_2, sL_1, sL_ne, sL_eq, sL_3, sR_1, sR_2, sR_ne, sR_eq, aI_ne, aI_eq, aI_2, aL_1, aL_ne, aL_eq, aL_3, Nat.add_zero, Nat.zero_add, Nat.reduceAdd, Nat.reduceMul, Nat.reduceSub, Nat.mul_zero, Nat.zero_mul, nI_ltI, nI_leI, nI_eq, bz_0, bz_1, t_0, decide_eq_false_iff_not, decide_eq_true_eq, Bool.and_eq_true, Bool.and_eq_false_imp, Bool.not_eq_true, Bool.not_eq_false, eq_self, not_true_eq_false, not_false_eq_true, reduceCtorEq, x1]; (try omega); done) | fail))) | simp (disch := omega) only [n_lit, nI_add, pk_mul, pk_sub, n_div, sub_dm, Int32.toInt_toInt64, nI_toInt, sI_ne, sI_eq, sI_2, sL_1, sL_ne, sL_eq, sL_3, sR_1, sR_2, sR_ne, sR_eq, aI_ne, aI_eq, aI_2, aL_1, aL_ne, aL_eq, aL_3, Nat.add_zero, Nat.zero_add, Nat.reduceAdd, Nat.reduceMul, Nat.reduceSub, Nat.mul_zero, Nat.zero_mul, x1])
    try rfl
  · have e : rdQ T L = rdS T L (L + 1) 0 := if_neg z
    rw [e]
    obtain ⟨m', k1, k2, k3⟩ := mread_loop (S := S) (W := W) (H := H) (n := n) (L + 1) 0 (sI m 90 23 (nI 0)) [] X0 (by omega) (Nat.zero_le _) (by omega) L0 (Nat.zero_le _)
    rw [List.nil_append] at k2
    refine ⟨m', w_X13_readsSettings S _ _ _ ?_, k2, fr_tr F0 k3⟩
    refine c_pi (by omega) (by rfl) (by rfl) (by rfl) (xPok_int (by decide) (by rfl)) ?_
    exact k1
theorem rdQ_all (hL : L ≤ 80) : ∀ a ∈ (rdQ T L).1, a.1 < 10 ∧ 0 ≤ a.2 ∧ a.2 ≤ 999 := by
  unfold rdQ
  split
  · intro a h; cases h
  · exact (rdS_len (T := T) (L := L) (L + 1) 0 (Nat.zero_le _)).2.2
theorem rdQ_len2 (hL : L ≤ 80) : (rdQ T L).1.length < 80 := by
  unfold rdQ
  split
  · exact (by decide : 0 < 80)
  · have := (rdS_len (T := T) (L := L) (L + 1) 0 (Nat.zero_le _)).1
    omega
def mgP (a j : Nat) : Bool := rsP a j || (mcP a j || (a == 90 && (j == 13 || j == 2)))
theorem mconf_ok {Z : ((Nat → Nat) × Nat × (Nat → Nat))} (X : txM m T L) (O : cfO Z) (C : cfX m 90 16 98 99 Z) (h : (rdQ T L).2 = none) : ∃ m', xM S mX13_configure [.ref 90] (E W H n m) = some (.inl (some (.int (nI (rdQ T L).1.length))), E W H n m', 0, 0) ∧ cfX m' 90 16 98 99 ((rdQ T L).1.foldl ntS Z) ∧ m'.1 90 13 = nI 0 ∧ m'.1 90 2 = nI 0 ∧ fr mgP m m' := by
  have hL := X.2.1.1
  have F0 : fr (fun a j => a == 90 && j == 2) m (sI m 90 2 (nI 0)) := fr_sI fr_rf (by rfl)
  obtain ⟨m1, k1, k2, k3⟩ := mreads_s (S := S) (W := W) (H := H) (n := n) (txM_fr X F0 (fun a j q => by simp; omega))
  have Q := k2 h
  rw [h] at k1
  have k1 : xM S mX13_readsSettings [.ref 90] (E W H n (sI m 90 2 (nI 0))) = some (.inl (some (.int (-1))), E W H n m1, 0, 0) := k1
  obtain ⟨c1, c2, c3⟩ := C
  have C1 : cfX m1 90 16 98 99 Z := ⟨fun i hi => by rw [fr_i k3 98 i rfl, sI_ne (by omega)]; exact c1 i hi, by rw [fr_i k3 90 16 rfl, sI_ne (by omega)]; exact c2, fun i hi => by rw [fr_i k3 99 i rfl, sI_ne (by omega)]; exact c3 i hi⟩
  obtain ⟨m2, l1, l2, l3, l4⟩ := mconf_loop (S := S) (W := W) (H := H) (n := n) (rdQ_all hL) (rdQ_len2 hL) O C1 Q
  have ng : (-1 : Int32) < nI 0 := by decide
  refine ⟨m2, w_X13_configure S _ _ _ ?_, l2, l3, ?_, fr_tr (fr_tr (fr_mono F0 (fun a j w => ?_)) (fr_mono k3 (fun a j w => ?_))) (fr_mono l4 (fun a j w => ?_))⟩
  · refine c_pi (by omega) (by rfl) (by rfl) (by rfl) (xPok_int (by decide) (by rfl)) ?_
    refine c_ob (by omega) (by rfl) ?_
    refine c_qI k1 ?_
    refine c_ift ng ?_
    exact l1
  · rw [fr_i l4 90 2 rfl, fr_i k3 90 2 rfl, sI_eq ⟨rfl, rfl⟩]
  · unfold mgP at w
    simp only [Bool.or_eq_false_iff, Bool.and_eq_false_iff, beq_eq_false_iff_ne, ne_eq] at w ⊢
    omega
  · unfold mgP at w
    rw [Bool.or_eq_false_iff] at w
    exact w.1
  · unfold mgP at w
    simp only [Bool.or_eq_false_iff, Bool.and_eq_false_iff, beq_eq_false_iff_ne, ne_eq] at w ⊢
    exact ⟨w.2.1, by omega⟩
theorem mconf_err (X : txM m T L) {x : Nat} (h : (rdQ T L).2 = some x) : ∃ m', xM S mX13_configure [.ref 90] (E W H n m) = some (.inl (some (.int (-1 - nI x))), E W H n m', 0, 0) ∧ m'.1 90 2 = nI 0 ∧ fr mgP m m' := by
  have hL := X.2.1.1
  have F0 : fr (fun a j => a == 90 && j == 2) m (sI m 90 2 (nI 0)) := fr_sI fr_rf (by rfl)
  obtain ⟨m1, k1, k2, k3⟩ := mreads_s (S := S) (W := W) (H := H) (n := n) (txM_fr X F0 (fun a j q => by simp; omega))
  have hx : x < 1000 := by
    have h := h
    unfold rdQ at h
    split at h
    · cases h
    · have := rdS_err (L + 1) 0 x (Nat.zero_le _) h
      omega
  rw [h] at k1
  have k1 : xM S mX13_readsSettings [.ref 90] (E W H n (sI m 90 2 (nI 0))) = some (.inl (some (.int (nI x))), E W H n m1, 0, 0) := k1
  have nn : ¬ nI x < nI 0 := fun q => by have := (nI_ltI (by omega) (by omega)).mp q; omega
  refine ⟨m1, w_X13_configure S _ _ _ ?_, ?_, fr_tr (fr_mono F0 (fun a j w => ?_)) (fr_mono k3 (fun a j w => ?_))⟩
  · refine c_pi (by omega) (by rfl) (by rfl) (by rfl) (xPok_int (by decide) (by rfl)) ?_
    refine c_ob (by omega) (by rfl) ?_
    refine c_qI k1 ?_
    refine c_iff nn ?_
    rfl
  · rw [fr_i k3 90 2 rfl, sI_eq ⟨rfl, rfl⟩]
  · unfold mgP at w
    simp only [Bool.or_eq_false_iff, Bool.and_eq_false_iff, beq_eq_false_iff_ne, ne_eq] at w ⊢
    omega
  · unfold mgP at w
    rw [Bool.or_eq_false_iff] at w
    exact w.1
end MD

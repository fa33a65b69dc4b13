/-! THE CLASS' HISTORY -/
theorem floorMod_s (S : xS) (h : xH) {a d : Nat} (ha : a < 2 ^ 31) (h0 : 0 < d) (hd : d < 2 ^ 31) : xM S mJ9_floorMod_7cf53 [.int (nI a), .int (nI d)] h = some (.inl (some (.int (nI (a % d)))), h, 0, 0) := by
  refine w_J9_floorMod_7cf53 S _ _ h _ ?_
  rw [if_neg (nI_ne0 h0 hd), pk_rem ha h0 hd]
  show (if 0 ≤ nI a ^^^ nI d then _ else _) = _
  rw [nx_xor, if_pos (nI_pos' (Nat.xor_lt_two_pow ha hd))]
def hsY (m : mM) (W H : Nat) (l : hL) (c : Nat) : Prop := c < 8 ∧ m.1 10 2 = nI c ∧ m.1 10 3 = nI l.length ∧ l.length ≤ 8 ∧ (∀ s, s < 8 → okP W H (m.2.1 (14 + 2 * s))) ∧ ∀ i q, l[i]? = some q → m.1 12 ((c + i) % 8) = nI q.1 ∧ q.1 < 4 ∧ m.2.1 (14 + 2 * ((c + i) % 8)) = q.2 ∧ okP W H q.2
def hsC (m : mM) (W H : Nat) (l : hL) : Prop := ∃ c, hsY m W H l c
def hsP (a j : Nat) : Bool := a == 12 || ((decide (14 ≤ a) && decide (a < 30)) || (a == 10 && (j == 2 || j == 3)))
section HS
variable {S : xS} {W H n : Nat} {m : mM} {l : hL} {c a : Nat}
theorem slotAt_s (h1 : m.1 10 2 = nI c) (hc : c < 8) {i : Nat} (hi : i < 100) : xM S mX3_slotAt [.ref 10, .int (nI i)] (E W H n m) = some (.inl (some (.int (nI ((c + i) % 8)))), E W H n m, 0, 0) := by
  refine w_X3_slotAt S _ _ _ _ ?_
  repeat (first | (with_reducible refine c_let ?_) | ((with_reducible refine c_ob ?_ ?_ ?_); (focus (first | omega | assumption)); (focus (first | rfl | assumption))) | ((with_reducible show Option.bind (xGr _ _ _ _) _ = _); (first | refine c_gr (by first | omega | assumption) (by first | rfl | assumption) (by rfl) (by rfl) ?_)) | ((with_reducible show Option.bind (xGi _ _ _ _) _ = _); (first | refine c_gi (by first | omega | assumption) (by first | rfl | assumption) (by rfl) (by rfl) ?_ | refine c_gW (by first | omega | assumption) (by first | rfl | assumption) (by rfl) (by rfl) ?_ | refine c_gH (by first | omega | assumption) (by first | rfl | assumption) (by rfl) (by rfl) ?_ | refine c_gA (by first | omega | assumption) (by first | rfl | assumption) (by rfl) (by rfl) ?_ | refine c_gb (by first | omega | assumption) (by first | rfl | assumption) (by rfl) (by rfl) ?_)) | ((with_reducible show Option.bind (xRi _ _ _ _) _ = _); (first | refine c_ri (by first | omega | assumption) (by first | rfl | assumption) (by first | rfl | assumption) (by with_reducible rfl) (by first | omega | ((conv => rhs; whnf); first | omega | (show _ < OfNat.ofNat (α := Nat) _; omega))) (by first | omega | ((conv => lhs; whnf); first | omega | (show OfNat.ofNat (α := Nat) _ < _; omega))) (by decide) ?_)) | ((with_reducible show Option.bind (xRl _ _ _) _ = _); (first | refine c_rl (by first | omega | assumption) (by first | rfl | assumption) (by with_reducible rfl) (by first | omega | ((conv => rhs; whnf); first | omega | (show _ < OfNat.ofNat (α := Nat) _; omega))) (by first | omega | ((conv => lhs; whnf); first | omega | (show OfNat.ofNat (α := Nat) _ < _; omega))) ?_)) | ((with_reducible show Option.bind (xP _ _ _ _ _ _ (.int _)) _ = _); (first | refine c_pi (by first | omega | assumption) (by first | rfl | assumption) (by rfl) (by rfl) (xPok_int (by decide) (by rfl)) ?_)) | ((with_reducible show Option.bind (xWi _ _ _ _) _ = _); (first | refine c_wi (by first | omega | assumption) (by first | rfl | assumption) (by first | rfl | assumption) (by with_reducible rfl) (by first | omega | ((conv => rhs; whnf); first | omega | (show _ < OfNat.ofNat (α := Nat) _; omega))) (by first | omega | ((conv => lhs; whnf); first | omega | (show OfNat.ofNat (α := Nat) _ < _; omega))) ?_)) | ((with_reducible show Option.bind (xWl _ _ _ _) _ = _); (first | refine c_wl (by first | omega | assumption) (by first | rfl | assumption) (by with_reducible rfl) (by first | omega | ((conv => rhs; whnf); first | omega | (show _ < OfNat.ofNat (α := Nat) _; omega))) (by first | omega | ((conv => lhs; whnf); first | omega | (show OfNat.ofNat (α := Nat) _ < _; omega))) ?_)) | ((with_reducible show Option.bind (xRz _ _) _ = _); (first | refine c_rz (by first | omega | assumption) (by first | rfl | assumption) (by first | assumption | rfl) ?_)) | ((with_reducible show Option.bind (xGl _ _ _ _) _ = _); (first | refine c_gl (by first | omega | assumption) (by first | rfl | assumption) (by rfl) (by rfl) ?_ | refine c_gw (by first | omega | assumption) (by first | rfl | assumption) (by rfl) (by rfl) ?_)) | ((with_reducible show xqI (xM _ mJ9_floorMod_7cf53 _ _) _ _ = _); (first | refine c_qI (floorMod_s S _ (by omega) (by decide) (by decide)) ?_)) | (with_reducible refine c_nz ?_) | ((with_reducible refine c_ift ?_ ?_); (focus (first | assumption | omega | (simp (disch := omega) only [n_lit, nI_add, pk_mul, pk_sub, n_div, sub_dm, Int32.toInt_toInt64, nI_toInt, sI_ne, sI_eq, sI_2, sL_1, sL_ne, sL_eq, sL_3, sR_1, sR_2, sR_ne, sR_eq, aI_ne, aI_eq, aI_2, aL_1, aL_ne, aL_eq, aL_3, Nat.add_zero, Nat.zero_add, Nat.reduceAdd, Nat.reduceMul, Nat.reduceSub, Nat.mul_zero, Nat.zero_mul, nI_ltI, nI_leI, nI_eq, bz_0, bz_1, t_0, decide_eq_false_iff_not, decide_eq_true_eq, Bool.and_eq_true, Bool.and_eq_false_imp, Bool.not_eq_true, Bool.not_eq_false, h1]; (try omega); done) | fail))) | ((with_reducible refine c_iff ?_ ?_); (focus (first | assumption | omega | (simp (disch := omega) only [n_lit, nI_add, pk_mul, pk_sub, n_div, sub_dm, Int32.toInt_toInt64, nI_toInt, sI_ne, sI_eq, sI_2, sL_1, sL_ne, sL_eq, sL_3, sR_1, sR_2, sR_ne, sR_eq, aI_ne, aI_eq, aI_2, aL_1, aL_ne, aL_eq, aL_3, Nat.add_zero, Nat.zero_add, Nat.reduceAdd, Nat.reduceMul, Nat.reduceSub, Nat.mul_zero, Nat.zero_mul, nI_ltI, nI_leI, nI_eq, bz_0, bz_1, t_0, decide_eq_false_iff_not, decide_eq_true_eq, Bool.and_eq_true, Bool.and_eq_false_imp, Bool.not_eq_true, Bool.not_eq_false, h1]; (try omega); done) | fail))) | simp (disch := omega) only [n_lit, nI_add, pk_mul, pk_sub, n_div, sub_dm, Int32.toInt_toInt64, nI_toInt, sI_ne, sI_eq, sI_2, sL_1, sL_ne, sL_eq, sL_3, sR_1, sR_2, sR_ne, sR_eq, aI_ne, aI_eq, aI_2, aL_1, aL_ne, aL_eq, aL_3, Nat.add_zero, Nat.zero_add, Nat.reduceAdd, Nat.reduceMul, Nat.reduceSub, Nat.mul_zero, Nat.zero_mul, h1])
  try rfl
/-- the front taken away -/
theorem hsY_pop (Y : hsY m W H l c) (h8 : l.length = 8) : hsY (sI (sI m 10 2 (nI ((c + 1) % 8))) 10 3 (nI 7)) W H l.tail ((c + 1) % 8) := by
  obtain ⟨h1, h2, h3, h4, h5, h6⟩ := Y
  refine ⟨Nat.mod_lt _ (by decide), ?_, ?_, ?_, h5, fun i q hq => ?_⟩
  · rw [sI_ne (by omega), sI_eq ⟨rfl, rfl⟩]
  · rw [sI_eq ⟨rfl, rfl⟩, List.length_tail, h8]
  · rw [List.length_tail]; omega
  · rw [List.getElem?_tail] at hq
    have := h6 (i + 1) q hq
    rw [show ((c + 1) % 8 + i) % 8 = (c + (i + 1)) % 8 by omega, sI_ne (by omega), sI_ne (by omega)]
    exact this
/-- one more at the end -/
theorem hsY_push (Y : hsY m W H l c) (h8 : l.length < 8) {p : Nat} (hp : p < 4) {f : Nat → Int64} (o : okP W H f) : hsY (sI (aL (sI m 12 ((c + l.length) % 8) (nI p)) (14 + 2 * ((c + l.length) % 8)) f) 10 3 (nI (l.length + 1))) W H (l ++ [(p, f)]) c := by
  obtain ⟨h1, h2, h3, h4, h5, h6⟩ := Y
  refine ⟨h1, ?_, ?_, ?_, fun s hs => ?_, fun i q hq => ?_⟩
  · rw [sI_ne (by omega), aL_1, sI_ne (by omega)]; exact h2
  · rw [sI_eq ⟨rfl, rfl⟩, List.length_append]; rfl
  · rw [List.length_append]; show l.length + 1 ≤ 8; omega
  · rw [sI_2, aL_2]
    by_cases e : 14 + 2 * s = 14 + 2 * ((c + l.length) % 8)
    · rw [if_pos e]; exact o
    · rw [if_neg e]; exact h5 s hs
  · by_cases e : i < l.length
    · rw [List.getElem?_append_left e] at hq
      obtain ⟨q1, q2, q3, q4⟩ := h6 i q hq
      refine ⟨?_, q2, ?_, q4⟩
      · rw [sI_ne (by omega), aL_1, sI_ne (by omega)]; exact q1
      · rw [sI_2, aL_2, if_neg (by omega)]; exact q3
    · have ei : i = l.length := by
        have := (List.getElem?_eq_some_iff.mp hq).1
        rw [List.length_append] at this
        simp only [List.length_cons, List.length_nil] at this
        omega
      subst ei
      rw [List.getElem?_concat_length] at hq
      cases hq
      refine ⟨?_, hp, ?_, o⟩
      · rw [sI_ne (by omega), aL_1, sI_eq ⟨rfl, rfl⟩]
      · rw [sI_2, aL_2, if_pos rfl]
theorem keep_s (hW : W ≤ 64) (hH : H ≤ 64) (X : hsC m W H l) {p : Nat} (hp : p < 4) (I : imA a) (oa : okP W H (m.2.1 (a + 1))) (ha : a < 10) : ∃ m' s, s < 8 ∧ xM S mX3_keep [.ref 10, .int (nI p), .ref a] (E W H n m) = some (.inl (some (.ref (13 + 2 * s))), E W H n m', 0, 0) ∧ hsC m' W H (hsN l (p, m.2.1 (a + 1))) ∧ m'.2.1 (14 + 2 * s) = m.2.1 (a + 1) ∧ fr hsP m m' := by
  obtain ⟨c, Y⟩ := X
  obtain ⟨h1, h2, h3, h4, h5, h6⟩ := Y
  have Y : hsY m W H l c := ⟨h1, h2, h3, h4, h5, h6⟩
  have er : ∀ (m : mM) s, s < 8 → eR m 11 s = some (13 + 2 * s) := fun m s hs => by
    show (if s < 8 then some (13 + 2 * s) else none) = _
    rw [if_pos hs]
  have fh : ∀ s, s < 8 → ∀ y, hsP (14 + 2 * s) y = true := fun s hs y => by
    unfold hsP
    rw [decide_eq_true (show 14 ≤ 14 + 2 * s by omega), decide_eq_true (show 14 + 2 * s < 30 by omega)]
    simp
  by_cases e8 : l.length = 8
  · generalize es : ((c + 1) % 8 + 7) % 8 = s0
    have hs : s0 < 8 := by omega
    have Z := hsY_push (hsY_pop Y e8) (by rw [List.length_tail]; omega) hp oa
    rw [List.length_tail, e8, show 8 - 1 = 7 from rfl, es, show 7 + 1 = 8 from rfl] at Z
    rw [e8] at h3
    have c8 : (c + 1) % 8 < 8 := Nat.mod_lt _ (by decide)
    refine ⟨_, s0, hs, w_X3_keep S _ _ _ _ _ ?_, ⟨_, by unfold hsN; rw [if_pos e8]; exact Z⟩, ?_, ?_⟩
    · repeat (first | (with_reducible refine c_let ?_) | ((with_reducible refine c_ob ?_ ?_ ?_); (focus (first | omega | assumption)); (focus (first | rfl | assumption))) | ((with_reducible show Option.bind (xGr _ _ _ _) _ = _); (first | refine c_gr (by first | omega | assumption) (by first | rfl | assumption) (by rfl) (by rfl) ?_)) | ((with_reducible show Option.bind (xGi _ _ _ _) _ = _); (first | refine c_gi (by first | omega | assumption) (by first | rfl | assumption) (by rfl) (by rfl) ?_ | refine c_gW (by first | omega | assumption) (by first | rfl | assumption) (by rfl) (by rfl) ?_ | refine c_gH (by first | omega | assumption) (by first | rfl | assumption) (by rfl) (by rfl) ?_ | refine c_gA (by first | omega | assumption) (by first | rfl | assumption) (by rfl) (by rfl) ?_ | refine c_gb (by first | omega | assumption) (by first | rfl | assumption) (by rfl) (by rfl) ?_)) | ((with_reducible show Option.bind (xRi _ _ _ _) _ = _); (first | refine c_ri (by first | omega | assumption) (by first | rfl | assumption) (by first | rfl | assumption) (by with_reducible rfl) (by first | omega | ((conv => rhs; whnf); first | omega | (show _ < OfNat.ofNat (α := Nat) _; omega))) (by first | omega | ((conv => lhs; whnf); first | omega | (show OfNat.ofNat (α := Nat) _ < _; omega))) (by decide) ?_)) | ((with_reducible show Option.bind (xRl _ _ _) _ = _); (first | refine c_rl (by first | omega | assumption) (by first | rfl | assumption) (by with_reducible rfl) (by first | omega | ((conv => rhs; whnf); first | omega | (show _ < OfNat.ofNat (α := Nat) _; omega))) (by first | omega | ((conv => lhs; whnf); first | omega | (show OfNat.ofNat (α := Nat) _ < _; omega))) ?_)) | ((with_reducible show Option.bind (xP _ _ _ _ _ _ (.int _)) _ = _); (first | refine c_pi (by first | omega | assumption) (by first | rfl | assumption) (by rfl) (by rfl) (xPok_int (by decide) (by rfl)) ?_)) | ((with_reducible show Option.bind (xWi _ _ _ _) _ = _); (first | refine c_wi (by first | omega | assumption) (by first | rfl | assumption) (by first | rfl | assumption) (by with_reducible rfl) (by first | omega | ((conv => rhs; whnf); first | omega | (show _ < OfNat.ofNat (α := Nat) _; omega))) (by first | omega | ((conv => lhs; whnf); first | omega | (show OfNat.ofNat (α := Nat) _ < _; omega))) ?_)) | ((with_reducible show Option.bind (xWl _ _ _ _) _ = _); (first | refine c_wl (by first | omega | assumption) (by first | rfl | assumption) (by with_reducible rfl) (by first | omega | ((conv => rhs; whnf); first | omega | (show _ < OfNat.ofNat (α := Nat) _; omega))) (by first | omega | ((conv => lhs; whnf); first | omega | (show OfNat.ofNat (α := Nat) _ < _; omega))) ?_)) | ((with_reducible show Option.bind (xRz _ _) _ = _); (first | refine c_rz (by first | omega | assumption) (by first | rfl | assumption) (by first | assumption | rfl) ?_)) | ((with_reducible show Option.bind (xGl _ _ _ _) _ = _); (first | refine c_gl (by first | omega | assumption) (by first | rfl | assumption) (by rfl) (by rfl) ?_ | refine c_gw (by first | omega | assumption) (by first | rfl | assumption) (by rfl) (by rfl) ?_)) | ((with_reducible show Option.bind (xRr _ _ _) _ = _); (first | refine c_rr (by first | omega | assumption) (by first | rfl | assumption) (by decide) (by with_reducible rfl) (by first | omega | ((conv => rhs; whnf); first | omega | (show _ < OfNat.ofNat (α := Nat) _; omega))) (by first | omega | ((conv => lhs; whnf); first | omega | (show OfNat.ofNat (α := Nat) _ < _; omega))) (er _ _ hs) ?_)) | ((with_reducible show xqI (xM _ mX3_slotAt _ _) _ _ = _); (first | refine c_qI (slotAt_s h2 h1 (by decide)) ?_)) | ((with_reducible show xqI (xM _ mX3_slotAt _ _) _ _ = _); (first | refine c_qI (slotAt_s (m := sI (sI m 10 2 (nI ((c + 1) % 8))) 10 3 (nI 7)) (sI_eq ⟨rfl, rfl⟩) c8 (by decide)) ?_)) | ((with_reducible show xqV (xM _ mX4_takeFrom _ _) _ _ = _); (first | refine c_qV (takeFrom_E hW hH (im_st s0 hs) I (by omega) (h5 s0 hs) oa) ?_)) | (with_reducible refine c_nz ?_) | ((with_reducible refine c_ift ?_ ?_); (focus (first | assumption | omega | (simp (disch := omega) only [n_lit, nI_add, pk_mul, pk_sub, n_div, sub_dm, Int32.toInt_toInt64, nI_toInt, sI_ne, sI_eq, sI_2, sL_1, sL_ne, sL_eq, sL_3, sR_1, sR_2, sR_ne, sR_eq, aI_ne, aI_eq, aI_2, aL_1, aL_ne, aL_eq, aL_3, Nat.add_zero, Nat.zero_add, Nat.reduceAdd, Nat.reduceMul, Nat.reduceSub, Nat.mul_zero, Nat.zero_mul, nI_ltI, nI_leI, nI_eq, bz_0, bz_1, t_0, decide_eq_false_iff_not, decide_eq_true_eq, Bool.and_eq_true, Bool.and_eq_false_imp, Bool.not_eq_true, Bool.not_eq_false, h3, es]; (try omega); done) | fail))) | ((with_reducible refine c_iff ?_ ?_); (focus (first | assumption | omega | (simp (disch := omega) only [n_lit, nI_add, pk_mul, pk_sub, n_div, sub_dm, Int32.toInt_toInt64, nI_toInt, sI_ne, sI_eq, sI_2, sL_1, sL_ne, sL_eq, sL_3, sR_1, sR_2, sR_ne, sR_eq, aI_ne, aI_eq, aI_2, aL_1, aL_ne, aL_eq, aL_3, Nat.add_zero, Nat.zero_add, Nat.reduceAdd, Nat.reduceMul, Nat.reduceSub, Nat.mul_zero, Nat.zero_mul, nI_ltI, nI_leI, nI_eq, bz_0, bz_1, t_0, decide_eq_false_iff_not, decide_eq_true_eq, Bool.and_eq_true, Bool.and_eq_false_imp, Bool.not_eq_true, Bool.not_eq_false, h3, es]; (try omega); done) | fail))) | simp (disch := omega) only [n_lit, nI_add, pk_mul, pk_sub, n_div, sub_dm, Int32.toInt_toInt64, nI_toInt, sI_ne, sI_eq, sI_2, sL_1, sL_ne, sL_eq, sL_3, sR_1, sR_2, sR_ne, sR_eq, aI_ne, aI_eq, aI_2, aL_1, aL_ne, aL_eq, aL_3, Nat.add_zero, Nat.zero_add, Nat.reduceAdd, Nat.reduceMul, Nat.reduceSub, Nat.mul_zero, Nat.zero_mul, h3, es])
      sorry
    · sorry
    · sorry
  · sorry
end HS

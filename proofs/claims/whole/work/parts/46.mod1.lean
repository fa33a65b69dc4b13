/-! THE MODEL'S PAGES AND THEIR PAST -/
theorem sI_aI (m : mM) (b i : Nat) (f : Nat → Int32) (v : Int32) : sI (aI m b f) b i v = aI m b (upd f i v) := by
  rw [← aI_upd, aI_aI, aI_1, if_pos rfl]
theorem sI_aI_ne (m : mM) {b c : Nat} (i : Nat) (f : Nat → Int32) (v : Int32) (h : c ≠ b) : sI (aI m b f) c i v = aI (sI m c i v) b f := mM_ext (fun x y => by
  rw [sI_1, aI_1, aI_1]
  by_cases q : x = b
  · subst q
    rw [if_pos rfl, if_pos rfl, if_neg (fun w => h w.1.symm)]
  · rw [if_neg q, if_neg q, sI_1]) (fun _ _ => rfl) (fun _ _ => rfl)
theorem sI_fill (m : mM) (b k : Nat) (f g : Nat → Int32) : sI (aI m b (fa_fill g f k)) b k (g k) = aI m b (fa_fill g f (k + 1)) := by rw [sI_aI, fa_fill_succ]
theorem sI_put (m : mM) (b a k : Nat) (f g : Nat → Int32) : sI (aI m b (fb_put f g a k)) b (a + k) (g k) = aI m b (fb_put f g a (k + 1)) := by rw [sI_aI, fb_put_succ]
abbrev hL : Type := List (Nat × (Nat → Int64))
def hsN (l : hL) (q : Nat × (Nat → Int64)) : hL := (if l.length = 8 then l.tail else l) ++ [q]
theorem hsN_le {l : hL} (h : l.length ≤ 8) (q : Nat × (Nat → Int64)) : (hsN l q).length ≤ 8 := by
  unfold hsN
  rw [List.length_append]
  split
  · rw [List.length_tail]; simp; omega
  · simp; omega
def pgS (R : Nat → Nat → Int64) (p : Nat) (g : Nat → Int64) : Nat → Nat → Int64 := fun q => if q = p then g else R q
theorem pgS_p (R : Nat → Nat → Int64) (p : Nat) (g : Nat → Int64) : pgS R p g p = g := if_pos rfl
theorem pgS_n (R : Nat → Nat → Int64) {p q : Nat} (g : Nat → Int64) (h : q ≠ p) : pgS R p g q = R q := if_neg h
/-- how many pixels differ -/
def dfP (f g : Nat → Int64) : Nat := fb_ct (fun i => px f i != px g i) 4096
def inkM (m : mM) (R : Nat → Nat → Int64) : Prop := ∀ k, k < 16384 → m.1 91 k = bz (px (R (k / 4096)) (k % 4096))
def paM (m : mM) (l : hL) : Prop := m.1 90 6 = nI l.length ∧ l.length ≤ 8 ∧ (∀ k, k < 32768 → m.1 92 k = 0 ∨ m.1 92 k = 1) ∧ ∀ i q, l[i]? = some q → m.1 93 i = nI q.1 ∧ q.1 < 4 ∧ ∀ k, k < 4096 → m.1 92 (4096 * i + k) = bz (px q.2 k)
/-- a picture of the model -/
def piM (m : mM) (b : Nat) (f : Nat → Int64) : Prop := ∀ k, k < 4096 → m.1 b k = bz (px f k)
section MP
variable {S : xS} {W H n : Nat} {m : mM} {R : Nat → Nat → Int64} {l : hL}
theorem ink_at (A : inkM m R) {p k : Nat} (hp : p < 4) (hk : k < 4096) : m.1 91 (4096 * p + k) = bz (px (R p) k) := by
  rw [A _ (by omega), show (4096 * p + k) / 4096 = p by omega, show (4096 * p + k) % 4096 = k by omega]
theorem ink_01 (A : inkM m R) : ∀ k, k < 16384 → m.1 91 k = 0 ∨ m.1 91 k = 1 := fun k hk => by rw [A k hk]; exact bz_01 _
theorem takes_m {p : Nat} (hp : p < 4) (h01 : ∀ k, k < 16384 → m.1 91 k = 0 ∨ m.1 91 k = 1) : xM S mX13_takes [.ref 90, .int (nI p)] (E W H n m) = some (.inl none, E W H n (aI m 94 (fa_fill (fun k => m.1 91 (4096 * p + k)) (m.1 94) 4096)), 0, 0) := by
  refine w_X13_takes S _ _ _ _ ?_
  have key := x_for (R := some (.inl none, E W H n (aI m 94 (fa_fill (fun k => m.1 91 (4096 * p + k)) (m.1 94) 4096)), 0, 0)) 4096 (D := fun k s => xden S mX13_takes 2 [(0, .ref 90), (1, .int (nI p)), (2, .int (nI k))] [] (E W H n s)) (M := fun k => aI m 94 (fa_fill (fun k => m.1 91 (4096 * p + k)) (m.1 94) k)) (fun k hk ih => ?_) ?_
  · dsimp only at key
    rw [fa_fill_0, aI_self m 94 rfl] at key
    exact key
  · dsimp only at ih ⊢
    refine w_X13_takes_2 S _ _ _ _ _ ?_
    repeat (first | refine c_let ?_ | refine c_ob (by first | omega | assumption) (by first | rfl | assumption) ?_ | refine c_gr (by first | omega | assumption) (by first | rfl | assumption) (by rfl) (by rfl) ?_ | refine c_gi (by first | omega | assumption) (by first | rfl | assumption) (by rfl) (by rfl) ?_ | refine c_gW (by first | omega | assumption) (by first | rfl | assumption) (by rfl) (by rfl) ?_ | refine c_gH (by first | omega | assumption) (by first | rfl | assumption) (by rfl) (by rfl) ?_ | refine c_ri (by first | omega | assumption) (by first | rfl | assumption) (by first | rfl | assumption) (by with_reducible rfl) (by first | omega | ((conv => rhs; whnf); omega)) (by first | omega | ((conv => lhs; whnf); omega)) (by decide) ?_ | refine c_rl (by first | omega | assumption) (by first | rfl | assumption) (by with_reducible rfl) (by first | omega | ((conv => rhs; whnf); omega)) (by first | omega | ((conv => lhs; whnf); omega)) ?_ | refine c_pi (by first | omega | assumption) (by first | rfl | assumption) (by rfl) (by rfl) (xPok_int (by decide) rfl) ?_ | refine c_wi (by first | omega | assumption) (by first | rfl | assumption) (by first | rfl | assumption) (by with_reducible rfl) (by first | omega | ((conv => rhs; whnf); omega)) (by first | omega | ((conv => lhs; whnf); omega)) ?_ | refine c_wl (by first | omega | assumption) (by first | rfl | assumption) (by with_reducible rfl) (by first | omega | ((conv => rhs; whnf); omega)) (by first | omega | ((conv => lhs; whnf); omega)) ?_ | refine c_rz (by first | omega | assumption) (by first | rfl | assumption) (by first | assumption | rfl) ?_ | refine c_wz (by first | omega | assumption) (by first | rfl | assumption) (by first | rfl | assumption) (by with_reducible rfl) (by first | omega | ((conv => rhs; whnf); omega)) (by first | omega | ((conv => lhs; whnf); omega)) ( h01 (4096 * p + k) (by omega)) ?_ | refine c_gA (by first | omega | assumption) (by first | rfl | assumption) (by rfl) (by rfl) ?_ | refine c_gw (by first | omega | assumption) (by first | rfl | assumption) (by rfl) (by rfl) ?_ | refine c_gl (by first | omega | assumption) (by first | rfl | assumption) (by rfl) (by rfl) ?_ | refine c_nz ?_ | refine c_ift (by (first | assumption | ((try simp (disch := omega) only [n_lit, nI_add, pk_mul, pk_sub, n_div, sub_dm, Int32.toInt_toInt64, nI_toInt, sI_ne, sI_eq, sI_2, sL_1, sL_ne, sL_eq, sL_3, sR_1, sR_2, sR_ne, sR_eq, aI_ne, aI_eq, aI_2, aL_1, aL_ne, aL_eq, aL_3, Nat.add_zero, Nat.zero_add, Nat.reduceAdd, Nat.reduceMul, Nat.reduceSub, Nat.mul_zero, Nat.zero_mul, nI_ltI, nI_leI, nI_eq, bz_0, bz_1, t_0, decide_eq_false_iff_not, decide_eq_true_eq, Bool.and_eq_true, Bool.and_eq_false_imp, Bool.not_eq_true, Bool.not_eq_false]) <;> omega))) ?_ | refine c_iff (by (first | assumption | ((try simp (disch := omega) only [n_lit, nI_add, pk_mul, pk_sub, n_div, sub_dm, Int32.toInt_toInt64, nI_toInt, sI_ne, sI_eq, sI_2, sL_1, sL_ne, sL_eq, sL_3, sR_1, sR_2, sR_ne, sR_eq, aI_ne, aI_eq, aI_2, aL_1, aL_ne, aL_eq, aL_3, Nat.add_zero, Nat.zero_add, Nat.reduceAdd, Nat.reduceMul, Nat.reduceSub, Nat.mul_zero, Nat.zero_mul, nI_ltI, nI_leI, nI_eq, bz_0, bz_1, t_0, decide_eq_false_iff_not, decide_eq_true_eq, Bool.and_eq_true, Bool.and_eq_false_imp, Bool.not_eq_true, Bool.not_eq_false]) <;> omega))) ?_ | simp (disch := omega) only [n_lit, nI_add, pk_mul, pk_sub, n_div, sub_dm, Int32.toInt_toInt64, nI_toInt, sI_ne, sI_eq, sI_2, sL_1, sL_ne, sL_eq, sL_3, sR_1, sR_2, sR_ne, sR_eq, aI_ne, aI_eq, aI_2, aL_1, aL_ne, aL_eq, aL_3, Nat.add_zero, Nat.zero_add, Nat.reduceAdd, Nat.reduceMul, Nat.reduceSub, Nat.mul_zero, Nat.zero_mul])
    rw [← sI_fill] at ih
    exact ih
  · dsimp only
    refine w_X13_takes_2 S _ _ _ _ _ ?_
    repeat (first | refine c_let ?_ | refine c_ob (by first | omega | assumption) (by first | rfl | assumption) ?_ | refine c_gr (by first | omega | assumption) (by first | rfl | assumption) (by rfl) (by rfl) ?_ | refine c_gi (by first | omega | assumption) (by first | rfl | assumption) (by rfl) (by rfl) ?_ | refine c_gW (by first | omega | assumption) (by first | rfl | assumption) (by rfl) (by rfl) ?_ | refine c_gH (by first | omega | assumption) (by first | rfl | assumption) (by rfl) (by rfl) ?_ | refine c_ri (by first | omega | assumption) (by first | rfl | assumption) (by first | rfl | assumption) (by with_reducible rfl) (by first | omega | ((conv => rhs; whnf); omega)) (by first | omega | ((conv => lhs; whnf); omega)) (by decide) ?_ | refine c_rl (by first | omega | assumption) (by first | rfl | assumption) (by with_reducible rfl) (by first | omega | ((conv => rhs; whnf); omega)) (by first | omega | ((conv => lhs; whnf); omega)) ?_ | refine c_pi (by first | omega | assumption) (by first | rfl | assumption) (by rfl) (by rfl) (xPok_int (by decide) rfl) ?_ | refine c_wi (by first | omega | assumption) (by first | rfl | assumption) (by first | rfl | assumption) (by with_reducible rfl) (by first | omega | ((conv => rhs; whnf); omega)) (by first | omega | ((conv => lhs; whnf); omega)) ?_ | refine c_wl (by first | omega | assumption) (by first | rfl | assumption) (by with_reducible rfl) (by first | omega | ((conv => rhs; whnf); omega)) (by first | omega | ((conv => lhs; whnf); omega)) ?_ | refine c_rz (by first | omega | assumption) (by first | rfl | assumption) (by first | assumption | rfl) ?_ | refine c_gA (by first | omega | assumption) (by first | rfl | assumption) (by rfl) (by rfl) ?_ | refine c_gw (by first | omega | assumption) (by first | rfl | assumption) (by rfl) (by rfl) ?_ | refine c_gl (by first | omega | assumption) (by first | rfl | assumption) (by rfl) (by rfl) ?_ | refine c_nz ?_ | refine c_ift (by (first | assumption | ((try simp (disch := omega) only [n_lit, nI_add, pk_mul, pk_sub, n_div, sub_dm, Int32.toInt_toInt64, nI_toInt, sI_ne, sI_eq, sI_2, sL_1, sL_ne, sL_eq, sL_3, sR_1, sR_2, sR_ne, sR_eq, aI_ne, aI_eq, aI_2, aL_1, aL_ne, aL_eq, aL_3, Nat.add_zero, Nat.zero_add, Nat.reduceAdd, Nat.reduceMul, Nat.reduceSub, Nat.mul_zero, Nat.zero_mul, nI_ltI, nI_leI, nI_eq, bz_0, bz_1, t_0, decide_eq_false_iff_not, decide_eq_true_eq, Bool.and_eq_true, Bool.and_eq_false_imp, Bool.not_eq_true, Bool.not_eq_false]) <;> omega))) ?_ | refine c_iff (by (first | assumption | ((try simp (disch := omega) only [n_lit, nI_add, pk_mul, pk_sub, n_div, sub_dm, Int32.toInt_toInt64, nI_toInt, sI_ne, sI_eq, sI_2, sL_1, sL_ne, sL_eq, sL_3, sR_1, sR_2, sR_ne, sR_eq, aI_ne, aI_eq, aI_2, aL_1, aL_ne, aL_eq, aL_3, Nat.add_zero, Nat.zero_add, Nat.reduceAdd, Nat.reduceMul, Nat.reduceSub, Nat.mul_zero, Nat.zero_mul, nI_ltI, nI_leI, nI_eq, bz_0, bz_1, t_0, decide_eq_false_iff_not, decide_eq_true_eq, Bool.and_eq_true, Bool.and_eq_false_imp, Bool.not_eq_true, Bool.not_eq_false]) <;> omega))) ?_ | simp (disch := omega) only [n_lit, nI_add, pk_mul, pk_sub, n_div, sub_dm, Int32.toInt_toInt64, nI_toInt, sI_ne, sI_eq, sI_2, sL_1, sL_ne, sL_eq, sL_3, sR_1, sR_2, sR_ne, sR_eq, aI_ne, aI_eq, aI_2, aL_1, aL_ne, aL_eq, aL_3, Nat.add_zero, Nat.zero_add, Nat.reduceAdd, Nat.reduceMul, Nat.reduceSub, Nat.mul_zero, Nat.zero_mul])
    rfl
theorem takes_s (A : inkM m R) {p : Nat} (hp : p < 4) : ∃ m', xM S mX13_takes [.ref 90, .int (nI p)] (E W H n m) = some (.inl none, E W H n m', 0, 0) ∧ piM m' 94 (R p) ∧ fr (fun a _ => a == 94) m m' := by
  refine ⟨_, takes_m hp (ink_01 A), fun k hk => ?_, fr_aI fr_rf (fun _ => rfl)⟩
  rw [aI_1, if_pos rfl, fa_fill_in hk, ink_at A hp hk]
/-- the history made one shorter -/
theorem edit_shift {p : Nat} (hp : p < 4) (h6 : m.1 90 6 = nI 8) (h01 : ∀ k, k < 32768 → m.1 92 k = 0 ∨ m.1 92 k = 1) {R' : Option xO} (K : xden S mX13_edits 82 [(0, .ref 90), (1, .int (nI p)), (2, .int 0), (3, .int 0)] [] (E W H n (sI (aI (aI m 92 (fa_fill (fun k => m.1 92 (k + 4096)) (m.1 92) 28672)) 93 (fa_fill (fun k => m.1 93 (k + 1)) (m.1 93) 7)) 90 6 (nI 7))) = R') : xden S mX13_edits 11 [(0, .ref 90), (1, .int (nI p)), (2, .int 0)] [] (E W H n m) = R' := by
  have key := x_for (R := R') 28672 (D := fun k s => xden S mX13_edits 11 [(0, .ref 90), (1, .int (nI p)), (2, .int (nI k))] [] (E W H n s)) (M := fun k => aI m 92 (fa_fill (fun k => m.1 92 (k + 4096)) (m.1 92) k)) (fun k hk ih => ?_) ?_
  · dsimp only at key
    rw [fa_fill_0, aI_self m 92 rfl] at key
    exact key
  · dsimp only at ih ⊢
    cases ih
    refine w_X13_edits_11 S _ _ _ _ _ ?_
    sorry
  · dsimp only
    sorry
end MP

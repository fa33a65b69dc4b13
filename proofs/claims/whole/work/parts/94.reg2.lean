/-! REGISTRATION: what a shift costs; the best of those offered: the class -/
theorem rwA_z {H : Nat} {f : Nat → Int64} (hH : H ≤ 64) {z : Int} (h1 : -1000 ≤ z) (h2 : z ≤ 1000) : rwA H f (zI z) = if 0 ≤ z ∧ z < H then f z.toNat else 0 := by
  unfold rwA
  by_cases c : z < 0
  · rw [if_pos ((i_lt0 _).mpr (by rw [zI_t (by omega) (by omega)]; exact c)), if_neg (by omega)]
  · rw [if_neg (fun q => by have := (i_lt0 _).mp q; rw [zI_t (by omega) (by omega)] at this; omega)]
    have e : zI z = nI z.toNat := by rw [← zI_n (by omega)]; congr 1; omega
    rw [e]
    by_cases d : z < H
    · rw [if_neg (fun q => by have := (nI_leI (by omega) (by omega)).mp q; omega), nI_clamp (by omega), if_pos (show 0 ≤ z ∧ z < H by omega)]
    · rw [if_pos ((nI_leI (by omega) (by omega)).mpr (by omega)), if_neg (show ¬ (0 ≤ z ∧ z < H) by omega)]
/-- the mismatch, row by row -/
def mmR (W H : Nat) (O T : Nat → Int64) (dx dy : Int) (k : Nat) : Nat := pc (O k ^^^ (mvd (if 0 ≤ (k : Int) + dy ∧ (k : Int) + dy < H then T ((k : Int) + dy).toNat else 0) (-dx) &&& wh W))
theorem mm_rows {W H : Nat} (hW : W ≤ 64) (hH : H ≤ 64) {O T : Nat → Int64} (oO : okP W H O) (oT : okP W H T) (dx dy : Int) : mm W H O T dx dy = fb_sm (mmR W H O T dx dy) H := by
  have z2 : ∀ y, H ≤ y → fb_ct (fun x => mmP W H O T dx dy (64 * y + x)) 64 = 0 := fun y hy => fb_ct_zero.mpr fun k hk => by
    unfold mmP
    rw [decide_eq_false (show ¬ ((64 * y + k) % 64 < W ∧ (64 * y + k) / 64 < H) by omega), Bool.false_and]
  have e := ct_rows (mmP W H O T dx dy) 64
  have s := sm_mid (g := fun y => fb_ct (fun x => mmP W H O T dx dy (64 * y + x)) 64) (t := 0) (u := H) (N := 64) (Nat.zero_le H) hH (fun y hy => absurd hy (Nat.not_lt_zero y)) z2
  show fb_ct (mmP W H O T dx dy) (64 * 64) = _
  rw [e, s, Nat.sub_zero]
  refine fb_sm_cong fun k hk => ?_
  (try dsimp only)
  unfold mmR pc
  refine fb_ct_cong fun i hi => ?_
  unfold mmP
  rw [lb_xor, lb_and_wh, lb_mvd _ _ hi, show (64 * (0 + k) + i) % 64 = i by omega, show (64 * (0 + k) + i) / 64 = k by omega, show 64 * (0 + k) + i = 64 * k + i by omega, px_xy O k hi]
  by_cases c : i < W
  · rw [decide_eq_true (show i < W ∧ k < H from ⟨c, hk⟩), Bool.true_and, decide_eq_true c, Bool.and_true]
    have e2 : atP W H T ((i : Int) + dx) ((k : Int) + dy) = (decide (0 ≤ (i : Int) - -dx) && lb (if 0 ≤ (k : Int) + dy ∧ (k : Int) + dy < H then T ((k : Int) + dy).toNat else 0) ((i : Int) - -dx).toNat) := by
      unfold atP onP
      rw [show (i : Int) - -dx = (i : Int) + dx by omega]
      by_cases d : 0 ≤ (k : Int) + dy ∧ (k : Int) + dy < H
      · rw [if_pos d]
        by_cases g : 0 ≤ (i : Int) + dx
        · by_cases g2 : (i : Int) + dx < W
          · rw [decide_eq_true (show 0 ≤ (i : Int) + dx ∧ (i : Int) + dx < W ∧ 0 ≤ (k : Int) + dy ∧ (k : Int) + dy < H from ⟨g, g2, d.1, d.2⟩), decide_eq_true g]
          · rw [decide_eq_false (show ¬ (0 ≤ (i : Int) + dx ∧ (i : Int) + dx < W ∧ 0 ≤ (k : Int) + dy ∧ (k : Int) + dy < H) from fun q => g2 q.2.1), decide_eq_true g, Bool.false_and, Bool.true_and]
            cases hb : lb (T ((k : Int) + dy).toNat) ((i : Int) + dx).toNat
            · rfl
            · have := (oT _ _ hb).1
              omega
        · rw [decide_eq_false (show ¬ (0 ≤ (i : Int) + dx ∧ (i : Int) + dx < W ∧ 0 ≤ (k : Int) + dy ∧ (k : Int) + dy < H) from fun q => g q.1), decide_eq_false g]
      · rw [if_neg d, lb_0, Bool.and_false, decide_eq_false (show ¬ (0 ≤ (i : Int) + dx ∧ (i : Int) + dx < W ∧ 0 ≤ (k : Int) + dy ∧ (k : Int) + dy < H) from fun q => d q.2.2), Bool.false_and]
    rw [e2]
  · rw [decide_eq_false (show ¬ (i < W ∧ k < H) from fun q => c q.1), Bool.false_and, decide_eq_false c, Bool.and_false]
    cases hb : lb (O k) i
    · rfl
    · exact absurd (oO _ _ hb).1 c
theorem mm_le (W H : Nat) (O T : Nat → Int64) (dx dy : Int) : mm W H O T dx dy ≤ 4096 := fb_ct_le _ _
def rowC (W H : Nat) (O T : Nat → Int64) (a b : Int) (j i : Nat) : Nat := ((cc O i j : Int) - ccZ W H T (i + a) (j + b)).natAbs
theorem rowC_le (W H : Nat) (O T : Nat → Int64) (a b : Int) (j i : Nat) : rowC W H O T a b j i ≤ 256 := by
  have h1 := cc_le O i j
  have h2 : ccZ W H T (i + a) (j + b) ≤ 256 := by
    unfold ccZ
    split
    · exact cc_le _ _ _
    · omega
  unfold rowC
  omega
theorem cost_le {W H : Nat} (hW : W ≤ 64) (hH : H ≤ 64) (O T : Nat → Int64) (a b : Int) : ∀ j i, j < coC H → i ≤ coC W → fb_sm (fun j => fb_sm (rowC W H O T a b j) (coC W)) j + fb_sm (rowC W H O T a b j) i ≤ 65536 := fun j i hj hi => by
  have c1 := coC_le hW
  have c2 := coC_le hH
  have h1 : fb_sm (fun j => fb_sm (rowC W H O T a b j) (coC W)) j ≤ j * 4096 := fb_sm_bound fun k _ => Nat.le_trans (fb_sm_bound (c := 256) fun q _ => rowC_le _ _ _ _ _ _ _ _) (by omega)
  have h2 : fb_sm (rowC W H O T a b j) i ≤ i * 256 := fb_sm_bound fun q _ => rowC_le _ _ _ _ _ _ _ _
  omega
theorem cost_lt {W H : Nat} (hW : W ≤ 64) (hH : H ≤ 64) (O T : Nat → Int64) (a b : Int) : cost W H O T a b ≤ 65536 := by
  have c1 := coC_le hW
  have c2 := coC_le hH
  have h1 : cost W H O T a b ≤ coC H * 4096 := fb_sm_bound (f := fun j => fb_sm (rowC W H O T a b j) (coC W)) fun k _ => Nat.le_trans (fb_sm_bound (c := 256) fun q _ => rowC_le _ _ _ _ _ _ _ _) (by omega)
  omega
/-- the best of those offered so far -/
def boI (m : mM) (c : Int → Int → Nat) (G : Int → Int → Prop) : Prop := ((∀ x y, ¬ G x y) ∧ m.1 82 13 = nI 1000000) ∨ ∃ a b, bs (key c) G a b ∧ m.1 82 11 = zI a ∧ m.1 82 12 = zI b ∧ m.1 82 13 = nI (c a b)
def ofP (a j : Nat) : Bool := a == 82 && (j == 11 || (j == 12 || j == 13))
section RH
variable {S : xS} {W H n : Nat} {m : mM} {O T : Nat → Int64}
theorem costOf_s (hW8 : 8 ≤ W) (hW : W ≤ 64) (hH : H ≤ 64) (eO : m.2.1 73 = O) (oO : okP W H O) (eT : m.2.1 88 = T) (oT : okP W H T) {x y : Int} (x1 : -100 ≤ x) (x2 : x ≤ 100) (y1 : -100 ≤ y) (y2 : y ≤ 100) : xM S mX8_costOf [.ref 82, .ref 72, .int (zI x), .int (zI y)] (E W H n m) = some (.inl (some (.int (nI (mm W H O T x y)))), E W H n m, 0, 0) := by
  have I72 := im_82.1
  have I87 := im_82.2.2.2.2.2.2.1
  rw [mm_rows hW hH oO oT]
  refine w_X8_costOf S _ _ _ _ _ _ ?_
  refine c_gW (by omega) (by rfl) (by rfl) (by rfl) ?_
  refine c_qJ (below_s _ (by omega)) ?_
  refine x_fo (m := m) H (fun k s => xden S mX8_costOf 15 [(0, .ref 82), (1, .ref 72), (2, .int (zI x)), (3, .int (zI y)), (4, .long (wh W)), (6, .int (nI (fb_sm (mmR W H O T x y) k))), (7, .int (nI k))] [] (E W H n s)) (fun _ => m) rfl (fun k hk ih => ?_) ?_
  · (try dsimp only at ih ⊢)
    rw [fb_sm_succ] at ih
    have ek : nI k + zI y = zI ((k : Int) + y) := by rw [← zI_n (by omega), zI_add]
    have rd := rowAt_g (S := S) (n := n) (m := m) hW hH I87 (zI ((k : Int) + y))
    rw [rwA_z hH (by omega) (by omega), eT] at rd
    have mv := moved_s S (E W H n m) (if 0 ≤ (k : Int) + y ∧ (k : Int) + y < H then T ((k : Int) + y).toNat else 0) (zI (-x))
    rw [zI_t (by omega) (by omega)] at mv
    have r2 := rowAt_E (S := S) (n := n) (m := m) hW hH I72 hk
    rw [eO] at r2
    refine w_X8_costOf_15 S _ _ _ _ _ _ _ _ _ ?_
    refine c_gH (by omega) (by rfl) (by rfl) (by rfl) ?_
    refine c_iff (fun q => by have := (nI_leI (by omega) (by omega)).mp q; omega) ?_
    refine c_gr (by omega) (by rfl) (by rfl) (by rfl) ?_
    refine c_ob (by omega) (by rfl) ?_
    rw [ek]
    refine c_qJ rd ?_
    rw [zI_neg (by omega) (by omega)]
    refine c_qJ mv ?_
    refine c_let ?_
    refine c_ob (by omega) (by rfl) ?_
    refine c_qJ r2 ?_
    refine c_qI (bitCount_s S _ _) ?_
    repeat (first | (with_reducible refine c_let ?_) | ((with_reducible refine c_ob ?_ ?_ ?_); (focus (first | omega | assumption)); (focus (first | rfl | assumption))) | ((with_reducible show Option.bind (xGr _ _ _ _) _ = _); (first | refine c_gr (by first | omega | assumption) (by first | rfl | assumption) (by rfl) (by rfl) ?_)) | ((with_reducible show Option.bind (xGi _ _ _ _) _ = _); (first | refine c_gi (by first | omega | assumption) (by first | rfl | assumption) (by rfl) (by rfl) ?_ | refine c_gW (by first | omega | assumption) (by first | rfl | assumption) (by rfl) (by rfl) ?_ | refine c_gH (by first | omega | assumption) (by first | rfl | assumption) (by rfl) (by rfl) ?_ | refine c_gA (by first | omega | assumption) (by first | rfl | assumption) (by rfl) (by rfl) ?_ | refine c_gb (by first | omega | assumption) (by first | rfl | assumption) (by rfl) (by rfl) ?_)) | ((with_reducible show Option.bind (xRi _ _ _ _) _ = _); (first | refine c_ri (by first | omega | assumption) (by first | rfl | assumption) (by first | rfl | assumption) (by with_reducible rfl) (by first | omega | ((conv => rhs; whnf); first | omega | (show _ < OfNat.ofNat (α := Nat) _; omega))) (by first | omega | ((conv => lhs; whnf); first | omega | (show OfNat.ofNat (α := Nat) _ < _; omega))) (by decide) ?_)) | ((with_reducible show Option.bind (xRl _ _ _) _ = _); (first | refine c_rl (by first | omega | assumption) (by first | rfl | assumption) (by with_reducible rfl) (by first | omega | ((conv => rhs; whnf); first | omega | (show _ < OfNat.ofNat (α := Nat) _; omega))) (by first | omega | ((conv => lhs; whnf); first | omega | (show OfNat.ofNat (α := Nat) _ < _; omega))) ?_)) | ((with_reducible show Option.bind (xP _ _ _ _ _ _ (.int _)) _ = _); (first | refine c_pi (by first | omega | assumption) (by first | rfl | assumption) (by rfl) (by rfl) (xPok_int (by decide) (by rfl)) ?_)) | ((with_reducible show Option.bind (xWi _ _ _ _) _ = _); (first | refine c_wi (by first | omega | assumption) (by first | rfl | assumption) (by first | rfl | assumption) (by with_reducible rfl) (by first | omega | ((conv => rhs; whnf); first | omega | (show _ < OfNat.ofNat (α := Nat) _; omega))) (by first | omega | ((conv => lhs; whnf); first | omega | (show OfNat.ofNat (α := Nat) _ < _; omega))) ?_)) | ((with_reducible show Option.bind (xWl _ _ _ _) _ = _); (first | refine c_wl (by first | omega | assumption) (by first | rfl | assumption) (by with_reducible rfl) (by first | omega | ((conv => rhs; whnf); first | omega | (show _ < OfNat.ofNat (α := Nat) _; omega))) (by first | omega | ((conv => lhs; whnf); first | omega | (show OfNat.ofNat (α := Nat) _ < _; omega))) ?_)) | ((with_reducible show Option.bind (xRz _ _) _ = _); (first | refine c_rz (by first | omega | assumption) (by first | rfl | assumption) (by first | assumption | rfl) ?_)) | ((with_reducible show Option.bind (xGl _ _ _ _) _ = _); (first | refine c_gl (by first | omega | assumption) (by first | rfl | assumption) (by rfl) (by rfl) ?_ | refine c_gw (by first | omega | assumption) (by first | rfl | assumption) (by rfl) (by rfl) ?_)) | (with_reducible refine c_nz ?_) | ((with_reducible refine c_ift ?_ ?_); (focus (first | assumption | omega | (simp (disch := omega) only [n_lit, nI_add, pk_mul, pk_sub, n_div, sub_dm, Int32.toInt_toInt64, nI_toInt, sI_ne, sI_eq, sI_2, sL_1, sL_ne, sL_eq, sL_3, sR_1, sR_2, sR_ne, sR_eq, aI_ne, aI_eq, aI_2, aL_1, aL_ne, aL_eq, aL_3, Nat.add_zero, Nat.zero_add, Nat.reduceAdd, Nat.reduceMul, Nat.reduceSub, Nat.mul_zero, Nat.zero_mul, nI_ltI, nI_leI, nI_eq, bz_0, bz_1, t_0, decide_eq_false_iff_not, decide_eq_true_eq, Bool.and_eq_true, Bool.and_eq_false_imp, Bool.not_eq_true, Bool.not_eq_false, eq_self, not_true_eq_false, not_false_eq_true, reduceCtorEq]; (try omega); done) | fail))) | ((with_reducible refine c_iff ?_ ?_); (focus (first | assumption | omega | (simp (disch := omega) only [n_lit, nI_add, pk_mul, pk_sub, n_div, sub_dm, Int32.toInt_toInt64, nI_toInt, sI_ne, sI_eq, sI_2, sL_1, sL_ne, sL_eq, sL_3, sR_1, sR_2, sR_ne, sR_eq, aI_ne, aI_eq, aI_2, aL_1, aL_ne, aL_eq, aL_3, Nat.add_zero, Nat.zero_add, Nat.reduceAdd, Nat.reduceMul, Nat.reduceSub, Nat.mul_zero, Nat.zero_mul, nI_ltI, nI_leI, nI_eq, bz_0, bz_1, t_0, decide_eq_false_iff_not, decide_eq_true_eq, Bool.and_eq_true, Bool.and_eq_false_imp, Bool.not_eq_true, Bool.not_eq_false, eq_self, not_true_eq_false, not_false_eq_true, reduceCtorEq]; (try omega); done) | fail))) | simp (disch := omega) only [n_lit, nI_add, pk_mul, pk_sub, n_div, sub_dm, Int32.toInt_toInt64, nI_toInt, sI_ne, sI_eq, sI_2, sL_1, sL_ne, sL_eq, sL_3, sR_1, sR_2, sR_ne, sR_eq, aI_ne, aI_eq, aI_2, aL_1, aL_ne, aL_eq, aL_3, Nat.add_zero, Nat.zero_add, Nat.reduceAdd, Nat.reduceMul, Nat.reduceSub, Nat.mul_zero, Nat.zero_mul])
    exact ih
  · (try dsimp only)
    refine w_X8_costOf_15 S _ _ _ _ _ _ _ _ _ ?_
    refine c_gH (by omega) (by rfl) (by rfl) (by rfl) ?_
    refine c_ift ((nI_leI (by omega) (by omega)).mpr (Nat.le_refl _)) ?_
    rfl
theorem countAt_s {c k : Nat} (hc : c = 83 ∨ c = 84) (hk : k < 256) : xM S mX8_countAt [.ref c, .int (nI k)] (E W H n m) = some (.inl (some (.int (m.1 c k))), E W H n m, 0, 0) := by
  have hkc : eK c = (1, 256) := by rcases hc with rfl | rfl <;> rfl
  have hcc : eCc c = false := by rcases hc with rfl | rfl <;> rfl
  have hl : 256 = eL H c := by rcases hc with rfl | rfl <;> rfl
  refine w_X8_countAt S _ _ _ _ ?_
  repeat (first | (with_reducible refine c_let ?_) | ((with_reducible refine c_ob ?_ ?_ ?_); (focus (first | omega | assumption)); (focus (first | rfl | assumption))) | ((with_reducible show Option.bind (xGr _ _ _ _) _ = _); (first | refine c_gr (by first | omega | assumption) (by first | rfl | assumption) (by rfl) (by rfl) ?_)) | ((with_reducible show Option.bind (xGi _ _ _ _) _ = _); (first | refine c_gi (by first | omega | assumption) (by first | rfl | assumption) (by rfl) (by rfl) ?_ | refine c_gW (by first | omega | assumption) (by first | rfl | assumption) (by rfl) (by rfl) ?_ | refine c_gH (by first | omega | assumption) (by first | rfl | assumption) (by rfl) (by rfl) ?_ | refine c_gA (by first | omega | assumption) (by first | rfl | assumption) (by rfl) (by rfl) ?_ | refine c_gb (by first | omega | assumption) (by first | rfl | assumption) (by rfl) (by rfl) ?_)) | ((with_reducible show Option.bind (xRi _ _ _ _) _ = _); (first | refine c_ri (by first | omega | assumption) (by first | rfl | assumption) (by first | rfl | assumption) (by with_reducible rfl) (by first | omega | ((conv => rhs; whnf); first | omega | (show _ < OfNat.ofNat (α := Nat) _; omega))) (by first | omega | ((conv => lhs; whnf); first | omega | (show OfNat.ofNat (α := Nat) _ < _; omega))) (by decide) ?_)) | ((with_reducible show Option.bind (xRl _ _ _) _ = _); (first | refine c_rl (by first | omega | assumption) (by first | rfl | assumption) (by with_reducible rfl) (by first | omega | ((conv => rhs; whnf); first | omega | (show _ < OfNat.ofNat (α := Nat) _; omega))) (by first | omega | ((conv => lhs; whnf); first | omega | (show OfNat.ofNat (α := Nat) _ < _; omega))) ?_)) | ((with_reducible show Option.bind (xP _ _ _ _ _ _ (.int _)) _ = _); (first | refine c_pi (by first | omega | assumption) (by first | rfl | assumption) (by rfl) (by rfl) (xPok_int (by decide) (by rfl)) ?_)) | ((with_reducible show Option.bind (xWi _ _ _ _) _ = _); (first | refine c_wi (by first | omega | assumption) (by first | rfl | assumption) (by first | rfl | assumption) (by with_reducible rfl) (by first | omega | ((conv => rhs; whnf); first | omega | (show _ < OfNat.ofNat (α := Nat) _; omega))) (by first | omega | ((conv => lhs; whnf); first | omega | (show OfNat.ofNat (α := Nat) _ < _; omega))) ?_)) | ((with_reducible show Option.bind (xWl _ _ _ _) _ = _); (first | refine c_wl (by first | omega | assumption) (by first | rfl | assumption) (by with_reducible rfl) (by first | omega | ((conv => rhs; whnf); first | omega | (show _ < OfNat.ofNat (α := Nat) _; omega))) (by first | omega | ((conv => lhs; whnf); first | omega | (show OfNat.ofNat (α := Nat) _ < _; omega))) ?_)) | ((with_reducible show Option.bind (xRz _ _) _ = _); (first | refine c_rz (by first | omega | assumption) (by first | rfl | assumption) (by first | assumption | rfl) ?_)) | ((with_reducible show Option.bind (xGl _ _ _ _) _ = _); (first | refine c_gl (by first | omega | assumption) (by first | rfl | assumption) (by rfl) (by rfl) ?_ | refine c_gw (by first | omega | assumption) (by first | rfl | assumption) (by rfl) (by rfl) ?_)) | (with_reducible refine c_nz ?_) | ((with_reducible refine c_ift ?_ ?_); (focus (first | assumption | omega | (simp (disch := omega) only [n_lit, nI_add, pk_mul, pk_sub, n_div, sub_dm, Int32.toInt_toInt64, nI_toInt, sI_ne, sI_eq, sI_2, sL_1, sL_ne, sL_eq, sL_3, sR_1, sR_2, sR_ne, sR_eq, aI_ne, aI_eq, aI_2, aL_1, aL_ne, aL_eq, aL_3, Nat.add_zero, Nat.zero_add, Nat.reduceAdd, Nat.reduceMul, Nat.reduceSub, Nat.mul_zero, Nat.zero_mul, nI_ltI, nI_leI, nI_eq, bz_0, bz_1, t_0, decide_eq_false_iff_not, decide_eq_true_eq, Bool.and_eq_true, Bool.and_eq_false_imp, Bool.not_eq_true, Bool.not_eq_false, eq_self, not_true_eq_false, not_false_eq_true, reduceCtorEq]; (try omega); done) | fail))) | ((with_reducible refine c_iff ?_ ?_); (focus (first | assumption | omega | (simp (disch := omega) only [n_lit, nI_add, pk_mul, pk_sub, n_div, sub_dm, Int32.toInt_toInt64, nI_toInt, sI_ne, sI_eq, sI_2, sL_1, sL_ne, sL_eq, sL_3, sR_1, sR_2, sR_ne, sR_eq, aI_ne, aI_eq, aI_2, aL_1, aL_ne, aL_eq, aL_3, Nat.add_zero, Nat.zero_add, Nat.reduceAdd, Nat.reduceMul, Nat.reduceSub, Nat.mul_zero, Nat.zero_mul, nI_ltI, nI_leI, nI_eq, bz_0, bz_1, t_0, decide_eq_false_iff_not, decide_eq_true_eq, Bool.and_eq_true, Bool.and_eq_false_imp, Bool.not_eq_true, Bool.not_eq_false, eq_self, not_true_eq_false, not_false_eq_true, reduceCtorEq]; (try omega); done) | fail))) | simp (disch := omega) only [n_lit, nI_add, pk_mul, pk_sub, n_div, sub_dm, Int32.toInt_toInt64, nI_toInt, sI_ne, sI_eq, sI_2, sL_1, sL_ne, sL_eq, sL_3, sR_1, sR_2, sR_ne, sR_eq, aI_ne, aI_eq, aI_2, aL_1, aL_ne, aL_eq, aL_3, Nat.add_zero, Nat.zero_add, Nat.reduceAdd, Nat.reduceMul, Nat.reduceSub, Nat.mul_zero, Nat.zero_mul])
  try rfl
theorem coarseCost_s (hW8 : 8 ≤ W) (hW : W ≤ 64) (hH8 : 8 ≤ H) (hH : H ≤ 64) (C1 : clC m W H 83 O) (C2 : clC m W H 84 T) {a b : Int} (a1 : -100 ≤ a) (a2 : a ≤ 100) (b1 : -100 ≤ b) (b2 : b ≤ 100) : xM S mX8_coarseCost [.ref 82, .int (zI a), .int (zI b)] (E W H n m) = some (.inl (some (.int (nI (cost W H O T a b)))), E W H n m, 0, 0) := by
  have c1 := coC_le hW
  have c2 := coC_le hH
  rw [show cost W H O T a b = fb_sm (fun j => fb_sm (rowC W H O T a b j) (coC W)) (coC H) from rfl]
  refine w_X8_coarseCost S _ _ _ _ _ ?_
  refine c_ob (by omega) (by rfl) ?_
  refine c_qI (cellC_s hW) ?_
  refine c_ob (by omega) (by rfl) ?_
  refine c_qI (cellR_s hH) ?_
  refine x_fo (m := m) (coC H) (fun j s => xden S mX8_coarseCost 17 [(0, .ref 82), (1, .int (zI a)), (2, .int (zI b)), (3, .int (nI (coC W))), (4, .int (nI (coC H))), (5, .int (nI (fb_sm (fun j => fb_sm (rowC W H O T a b j) (coC W)) j))), (6, .int (nI j))] [] (E W H n s)) (fun _ => m) rfl (fun j hj ih => ?_) ?_
  · (try dsimp only at ih ⊢)
    rw [fb_sm_succ] at ih
    have ej : nI j + zI b = zI ((j : Int) + b) := by rw [← zI_n (by omega), zI_add]
    have inner : xden S mX8_coarseCost 50 [(0, .ref 82), (1, .int (zI a)), (2, .int (zI b)), (3, .int (nI (coC W))), (4, .int (nI (coC H))), (5, .int (nI (fb_sm (fun j => fb_sm (rowC W H O T a b j) (coC W)) j))), (6, .int (nI j)), (7, .int (bz (decide (0 ≤ (j : Int) + b ∧ (j : Int) + b < coC H)))), (8, .int (nI 0))] [] (E W H n m) = some (.inl (some (.int (nI (fb_sm (fun j => fb_sm (rowC W H O T a b j) (coC W)) (coC H))))), E W H n m, 0, 0) := by
      refine x_fo (m := m) (coC W) (fun i s => xden S mX8_coarseCost 50 [(0, .ref 82), (1, .int (zI a)), (2, .int (zI b)), (3, .int (nI (coC W))), (4, .int (nI (coC H))), (5, .int (nI (fb_sm (fun j => fb_sm (rowC W H O T a b j) (coC W)) j + fb_sm (rowC W H O T a b j) i))), (6, .int (nI j)), (7, .int (bz (decide (0 ≤ (j : Int) + b ∧ (j : Int) + b < coC H)))), (8, .int (nI i))] [] (E W H n s)) (fun _ => m) rfl (fun i hi jh => ?_) ?_
      · (try dsimp only at jh ⊢)
        rw [fb_sm_succ] at jh
        have bd := cost_le hW hH O T a b j i hj (by omega)
        have rl := rowC_le W H O T a b j i
        have lt := cell_lt hW hH hj hi
        have at1 := countAt_s (S := S) (W := W) (H := H) (n := n) (m := m) (Or.inl rfl) lt
        rw [C1 j i hj hi] at at1
        have cl := cc_le O i j
        have ix : nI j * nI (coC W) + nI i = nI (j * coC W + i) := by rw [pk_mul, nI_add]
        have ei : nI i + zI a = zI ((i : Int) + a) := by rw [← zI_n (by omega), zI_add]
        have ex : nI (fb_sm (fun j => fb_sm (rowC W H O T a b j) (coC W)) j) = nI (fb_sm (fun j => fb_sm (rowC W H O T a b j) (coC W)) j) := rfl
        generalize fb_sm (fun j => fb_sm (rowC W H O T a b j) (coC W)) j = s0 at *
        generalize fb_sm (rowC W H O T a b j) i = s1 at *
        -- where there is no such cell
        have zero : ccZ W H T (i + a) (j + b) = 0 → ((xGr (E W H n m) 82 8 4).bind fun v2 => xqI (xM S mX8_countAt [.ref v2, .int ((nI j * nI (coC W)) + nI i)] (E W H n m)) xth fun v4 h3 => xqI (xM S mJ9_abs_0f7a4 [.int (v4 - (0 : Int32))] h3) xth fun v6 h5 => xlet (nI (s0 + s1) + v6) fun v7 => xlet (nI i + (1 : Int32)) fun v8 => (xden S mX8_coarseCost 50 [(0, .ref 82), (1, .int (zI a)), (2, .int (zI b)), (3, .int (nI (coC W))), (4, .int (nI (coC H))), (5, .int v7), (6, .int (nI j)), (7, .int (bz (decide (0 ≤ (j : Int) + b ∧ (j : Int) + b < coC H)))), (8, .int v8)] [] h5)) = some (.inl (some (.int (nI (fb_sm (fun j => fb_sm (rowC W H O T a b j) (coC W)) (coC H))))), E W H n m, 0, 0) := fun z => by
          have er : rowC W H O T a b j i = cc O i j := by unfold rowC; rw [z]; omega
          rw [er] at jh
          have e0 : nI (cc O i j) - (0 : Int32) = nI (cc O i j) := by rw [show (0 : Int32) = nI 0 from rfl, pk_sub (Nat.zero_le _), Nat.sub_zero]
          have ab := abs_n S (E W H n m) (x := nI (cc O i j)) (by rw [nI_toInt (by omega)]; omega)
          rw [nI_toInt (by omega), Int.natAbs_natCast] at ab
          refine c_gr (by omega) (by rfl) (by rfl) (by rfl) ?_
          rw [ix]
          refine c_qI at1 ?_
          rw [e0]
          refine c_qI ab ?_
          refine c_let ?_
          refine c_let ?_
          rw [nI_add, show (1 : Int32) = nI 1 from rfl, nI_add, Nat.add_assoc]
          exact jh
        refine w_X8_coarseCost_50 S _ _ _ _ _ _ _ _ _ _ _ ?_
        refine c_iff (fun q => by have := (nI_leI (by omega) (by omega)).mp q; omega) ?_
        by_cases cj : 0 ≤ (j : Int) + b ∧ (j : Int) + b < coC H
        · rw [decide_eq_true cj] at *
          refine c_iff (by decide) ?_
          rw [ei]
          by_cases d1 : (i : Int) + a < 0
          · refine c_ift ((i_lt0 _).mpr (by rw [zI_t (by omega) (by omega)]; exact d1)) ?_
            exact zero (by unfold ccZ; rw [if_neg (by omega)])
          · refine c_iff (fun q => by have := (i_lt0 _).mp q; rw [zI_t (by omega) (by omega)] at this; omega) ?_
            by_cases d2 : (coC W : Int) ≤ (i : Int) + a
            · refine c_ift ?_ ?_
              · rw [← zI_n (by omega)]
                exact (zI_le (by omega) (by omega) (by omega) (by omega)).mpr d2
              · exact zero (by unfold ccZ; unfold coC at d2; rw [if_neg (by omega)])
            · refine c_iff (fun q => by
                rw [← zI_n (by omega)] at q
                exact d2 ((zI_le (by omega) (by omega) (by omega) (by omega)).mp q)) ?_
              obtain ⟨jj, ejj⟩ : ∃ jj : Nat, (j : Int) + b = jj := ⟨((j : Int) + b).toNat, by omega⟩
              obtain ⟨ii, eii⟩ : ∃ ii : Nat, (i : Int) + a = ii := ⟨((i : Int) + a).toNat, by omega⟩
              have ljj : jj < coC H := by omega
              have lii : ii < coC W := by omega
              have lt2 := cell_lt hW hH ljj lii
              have at2 := countAt_s (S := S) (W := W) (H := H) (n := n) (m := m) (Or.inr rfl) lt2
              rw [C2 jj ii ljj lii] at at2
              have z : ccZ W H T (i + a) (j + b) = cc T ii jj := by
                unfold ccZ
                unfold coC at ljj lii
                rw [ejj, eii, if_pos (by omega)]
                rfl
              have cl2 := cc_le T ii jj
              have ix2 : (nI j + zI b) * nI (coC W) + nI i + zI a = nI (jj * coC W + ii) := by
                rw [ej, ejj, zI_n (by omega), pk_mul, nI_add, ← zI_n (show jj * coC W + i < 2147483648 by
                  have : jj * coC W ≤ jj * coC W + ii := Nat.le_add_right _ _
                  omega), zI_add, ← zI_n (by omega)]
                congr 1
                omega
              have er : rowC W H O T a b j i = ((cc O i j : Int) - cc T ii jj).natAbs := by unfold rowC; rw [z]
              rw [er] at jh
              have ab := abs_n S (E W H n m) (x := nI (cc O i j) - nI (cc T ii jj)) (by rw [pk_sub_toInt (by omega) (by omega)]; omega)
              rw [pk_sub_toInt (by omega) (by omega)] at ab
              refine c_gr (by omega) (by rfl) (by rfl) (by rfl) ?_
              rw [ix2]
              refine c_qI at2 ?_
              refine c_gr (by omega) (by rfl) (by rfl) (by rfl) ?_
              rw [ix]
              refine c_qI at1 ?_
              refine c_qI ab ?_
              refine c_let ?_
              refine c_let ?_
              rw [nI_add, show (1 : Int32) = nI 1 from rfl, nI_add, Nat.add_assoc]
              exact jh
        · rw [decide_eq_false cj] at *
          refine c_ift (by decide) ?_
          exact zero (by unfold ccZ; unfold coC at cj; rw [if_neg (by omega)])
      · (try dsimp only)
        refine w_X8_coarseCost_50 S _ _ _ _ _ _ _ _ _ _ _ ?_
        refine c_ift ((nI_leI (by omega) (by omega)).mpr (Nat.le_refl _)) ?_
        repeat (first | (with_reducible refine c_let ?_) | ((with_reducible refine c_ob ?_ ?_ ?_); (focus (first | omega | assumption)); (focus (first | rfl | assumption))) | ((with_reducible show Option.bind (xGr _ _ _ _) _ = _); (first | refine c_gr (by first | omega | assumption) (by first | rfl | assumption) (by rfl) (by rfl) ?_)) | ((with_reducible show Option.bind (xGi _ _ _ _) _ = _); (first | refine c_gi (by first | omega | assumption) (by first | rfl | assumption) (by rfl) (by rfl) ?_ | refine c_gW (by first | omega | assumption) (by first | rfl | assumption) (by rfl) (by rfl) ?_ | refine c_gH (by first | omega | assumption) (by first | rfl | assumption) (by rfl) (by rfl) ?_ | refine c_gA (by first | omega | assumption) (by first | rfl | assumption) (by rfl) (by rfl) ?_ | refine c_gb (by first | omega | assumption) (by first | rfl | assumption) (by rfl) (by rfl) ?_)) | ((with_reducible show Option.bind (xRi _ _ _ _) _ = _); (first | refine c_ri (by first | omega | assumption) (by first | rfl | assumption) (by first | rfl | assumption) (by with_reducible rfl) (by first | omega | ((conv => rhs; whnf); first | omega | (show _ < OfNat.ofNat (α := Nat) _; omega))) (by first | omega | ((conv => lhs; whnf); first | omega | (show OfNat.ofNat (α := Nat) _ < _; omega))) (by decide) ?_)) | ((with_reducible show Option.bind (xRl _ _ _) _ = _); (first | refine c_rl (by first | omega | assumption) (by first | rfl | assumption) (by with_reducible rfl) (by first | omega | ((conv => rhs; whnf); first | omega | (show _ < OfNat.ofNat (α := Nat) _; omega))) (by first | omega | ((conv => lhs; whnf); first | omega | (show OfNat.ofNat (α := Nat) _ < _; omega))) ?_)) | ((with_reducible show Option.bind (xP _ _ _ _ _ _ (.int _)) _ = _); (first | refine c_pi (by first | omega | assumption) (by first | rfl | assumption) (by rfl) (by rfl) (xPok_int (by decide) (by rfl)) ?_)) | ((with_reducible show Option.bind (xWi _ _ _ _) _ = _); (first | refine c_wi (by first | omega | assumption) (by first | rfl | assumption) (by first | rfl | assumption) (by with_reducible rfl) (by first | omega | ((conv => rhs; whnf); first | omega | (show _ < OfNat.ofNat (α := Nat) _; omega))) (by first | omega | ((conv => lhs; whnf); first | omega | (show OfNat.ofNat (α := Nat) _ < _; omega))) ?_)) | ((with_reducible show Option.bind (xWl _ _ _ _) _ = _); (first | refine c_wl (by first | omega | assumption) (by first | rfl | assumption) (by with_reducible rfl) (by first | omega | ((conv => rhs; whnf); first | omega | (show _ < OfNat.ofNat (α := Nat) _; omega))) (by first | omega | ((conv => lhs; whnf); first | omega | (show OfNat.ofNat (α := Nat) _ < _; omega))) ?_)) | ((with_reducible show Option.bind (xRz _ _) _ = _); (first | refine c_rz (by first | omega | assumption) (by first | rfl | assumption) (by first | assumption | rfl) ?_)) | ((with_reducible show Option.bind (xGl _ _ _ _) _ = _); (first | refine c_gl (by first | omega | assumption) (by first | rfl | assumption) (by rfl) (by rfl) ?_ | refine c_gw (by first | omega | assumption) (by first | rfl | assumption) (by rfl) (by rfl) ?_)) | (with_reducible refine c_nz ?_) | ((with_reducible refine c_ift ?_ ?_); (focus (first | assumption | omega | (simp (disch := omega) only [n_lit, nI_add, pk_mul, pk_sub, n_div, sub_dm, Int32.toInt_toInt64, nI_toInt, sI_ne, sI_eq, sI_2, sL_1, sL_ne, sL_eq, sL_3, sR_1, sR_2, sR_ne, sR_eq, aI_ne, aI_eq, aI_2, aL_1, aL_ne, aL_eq, aL_3, Nat.add_zero, Nat.zero_add, Nat.reduceAdd, Nat.reduceMul, Nat.reduceSub, Nat.mul_zero, Nat.zero_mul, nI_ltI, nI_leI, nI_eq, bz_0, bz_1, t_0, decide_eq_false_iff_not, decide_eq_true_eq, Bool.and_eq_true, Bool.and_eq_false_imp, Bool.not_eq_true, Bool.not_eq_false, eq_self, not_true_eq_false, not_false_eq_true, reduceCtorEq]; (try omega); done) | fail))) | ((with_reducible refine c_iff ?_ ?_); (focus (first | assumption | omega | (simp (disch := omega) only [n_lit, nI_add, pk_mul, pk_sub, n_div, sub_dm, Int32.toInt_toInt64, nI_toInt, sI_ne, sI_eq, sI_2, sL_1, sL_ne, sL_eq, sL_3, sR_1, sR_2, sR_ne, sR_eq, aI_ne, aI_eq, aI_2, aL_1, aL_ne, aL_eq, aL_3, Nat.add_zero, Nat.zero_add, Nat.reduceAdd, Nat.reduceMul, Nat.reduceSub, Nat.mul_zero, Nat.zero_mul, nI_ltI, nI_leI, nI_eq, bz_0, bz_1, t_0, decide_eq_false_iff_not, decide_eq_true_eq, Bool.and_eq_true, Bool.and_eq_false_imp, Bool.not_eq_true, Bool.not_eq_false, eq_self, not_true_eq_false, not_false_eq_true, reduceCtorEq]; (try omega); done) | fail))) | simp (disch := omega) only [n_lit, nI_add, pk_mul, pk_sub, n_div, sub_dm, Int32.toInt_toInt64, nI_toInt, sI_ne, sI_eq, sI_2, sL_1, sL_ne, sL_eq, sL_3, sR_1, sR_2, sR_ne, sR_eq, aI_ne, aI_eq, aI_2, aL_1, aL_ne, aL_eq, aL_3, Nat.add_zero, Nat.zero_add, Nat.reduceAdd, Nat.reduceMul, Nat.reduceSub, Nat.mul_zero, Nat.zero_mul])
        exact ih
    refine w_X8_coarseCost_17 S _ _ _ _ _ _ _ _ _ ?_
    refine c_iff (fun q => by have := (nI_leI (by omega) (by omega)).mp q; omega) ?_
    rw [ej]
    by_cases d1 : (j : Int) + b < 0
    · rw [decide_eq_false (show ¬ (0 ≤ (j : Int) + b ∧ (j : Int) + b < coC H) by omega)] at inner
      refine c_ift ((i_lt0 _).mpr (by rw [zI_t (by omega) (by omega)]; exact d1)) ?_
      exact inner
    · refine c_iff (fun q => by have := (i_lt0 _).mp q; rw [zI_t (by omega) (by omega)] at this; omega) ?_
      by_cases d2 : (coC H : Int) ≤ (j : Int) + b
      · rw [decide_eq_false (show ¬ (0 ≤ (j : Int) + b ∧ (j : Int) + b < coC H) by omega)] at inner
        refine c_ift ?_ ?_
        · rw [← zI_n (by omega)]
          exact (zI_le (by omega) (by omega) (by omega) (by omega)).mpr d2
        · exact inner
      · rw [decide_eq_true (show 0 ≤ (j : Int) + b ∧ (j : Int) + b < coC H by omega)] at inner
        refine c_iff (fun q => by
          rw [← zI_n (by omega)] at q
          exact d2 ((zI_le (by omega) (by omega) (by omega) (by omega)).mp q)) ?_
        exact inner
  · (try dsimp only)
    refine w_X8_coarseCost_17 S _ _ _ _ _ _ _ _ _ ?_
    refine c_ift ((nI_leI (by omega) (by omega)).mpr (Nat.le_refl _)) ?_
    rfl
/-- a shift is offered -/
theorem offer_s {c : Int → Int → Nat} {G G' : Int → Int → Prop} {u v : Int} (B : boI m c G) (e : ∀ x y, G' x y ↔ G x y ∨ x = u ∧ y = v) (hb : ∀ x y, G x y → (-31 ≤ x ∧ x ≤ 31 ∧ -31 ≤ y ∧ y ≤ 31) ∧ (y < v ∨ y = v ∧ x < u)) (hu : -31 ≤ u ∧ u ≤ 31 ∧ -31 ≤ v ∧ v ≤ 31) (hc : ∀ x y, c x y ≤ 65536) : ∃ m', xM S mX8_offer [.ref 82, .int (zI u), .int (zI v), .int (nI (c u v))] (E W H n m) = some (.inl none, E W H n m', 0, 0) ∧ boI m' c G' ∧ fr ofP m m' := by
  have cu := hc u v
  have F : fr ofP m (sI (sI (sI m 82 11 (zI u)) 82 12 (zI v)) 82 13 (nI (c u v))) := fr_sI (fr_sI (fr_sI fr_rf (by rfl)) (by rfl)) (by rfl)
  have N : bs (key c) G' u v → boI (sI (sI (sI m 82 11 (zI u)) 82 12 (zI v)) 82 13 (nI (c u v))) c G' := fun h => Or.inr ⟨u, v, h, by rw [sI_ne (by omega), sI_ne (by omega), sI_eq ⟨rfl, rfl⟩], by rw [sI_ne (by omega), sI_eq ⟨rfl, rfl⟩], sI_eq ⟨rfl, rfl⟩⟩
  rcases B with ⟨h1, h2⟩ | ⟨a, b, h1, h2, h3, h4⟩
  · have lt : nI (c u v) < nI 1000000 := (nI_ltI (by omega) (by omega)).mpr (by omega)
    refine ⟨_, w_X8_offer S _ _ _ _ _ _ ?_, N (bs_first e h1), F⟩
    repeat (first | (with_reducible refine c_let ?_) | ((with_reducible refine c_ob ?_ ?_ ?_); (focus (first | omega | assumption)); (focus (first | rfl | assumption))) | ((with_reducible show Option.bind (xGr _ _ _ _) _ = _); (first | refine c_gr (by first | omega | assumption) (by first | rfl | assumption) (by rfl) (by rfl) ?_)) | ((with_reducible show Option.bind (xGi _ _ _ _) _ = _); (first | refine c_gi (by first | omega | assumption) (by first | rfl | assumption) (by rfl) (by rfl) ?_ | refine c_gW (by first | omega | assumption) (by first | rfl | assumption) (by rfl) (by rfl) ?_ | refine c_gH (by first | omega | assumption) (by first | rfl | assumption) (by rfl) (by rfl) ?_ | refine c_gA (by first | omega | assumption) (by first | rfl | assumption) (by rfl) (by rfl) ?_ | refine c_gb (by first | omega | assumption) (by first | rfl | assumption) (by rfl) (by rfl) ?_)) | ((with_reducible show Option.bind (xRi _ _ _ _) _ = _); (first | refine c_ri (by first | omega | assumption) (by first | rfl | assumption) (by first | rfl | assumption) (by with_reducible rfl) (by first | omega | ((conv => rhs; whnf); first | omega | (show _ < OfNat.ofNat (α := Nat) _; omega))) (by first | omega | ((conv => lhs; whnf); first | omega | (show OfNat.ofNat (α := Nat) _ < _; omega))) (by decide) ?_)) | ((with_reducible show Option.bind (xRl _ _ _) _ = _); (first | refine c_rl (by first | omega | assumption) (by first | rfl | assumption) (by with_reducible rfl) (by first | omega | ((conv => rhs; whnf); first | omega | (show _ < OfNat.ofNat (α := Nat) _; omega))) (by first | omega | ((conv => lhs; whnf); first | omega | (show OfNat.ofNat (α := Nat) _ < _; omega))) ?_)) | ((with_reducible show Option.bind (xP _ _ _ _ _ _ (.int _)) _ = _); (first | refine c_pi (by first | omega | assumption) (by first | rfl | assumption) (by rfl) (by rfl) (xPok_int (by decide) (by rfl)) ?_)) | ((with_reducible show Option.bind (xWi _ _ _ _) _ = _); (first | refine c_wi (by first | omega | assumption) (by first | rfl | assumption) (by first | rfl | assumption) (by with_reducible rfl) (by first | omega | ((conv => rhs; whnf); first | omega | (show _ < OfNat.ofNat (α := Nat) _; omega))) (by first | omega | ((conv => lhs; whnf); first | omega | (show OfNat.ofNat (α := Nat) _ < _; omega))) ?_)) | ((with_reducible show Option.bind (xWl _ _ _ _) _ = _); (first | refine c_wl (by first | omega | assumption) (by first | rfl | assumption) (by with_reducible rfl) (by first | omega | ((conv => rhs; whnf); first | omega | (show _ < OfNat.ofNat (α := Nat) _; omega))) (by first | omega | ((conv => lhs; whnf); first | omega | (show OfNat.ofNat (α := Nat) _ < _; omega))) ?_)) | ((with_reducible show Option.bind (xRz _ _) _ = _); (first | refine c_rz (by first | omega | assumption) (by first | rfl | assumption) (by first | assumption | rfl) ?_)) | ((with_reducible show Option.bind (xGl _ _ _ _) _ = _); (first | refine c_gl (by first | omega | assumption) (by first | rfl | assumption) (by rfl) (by rfl) ?_ | refine c_gw (by first | omega | assumption) (by first | rfl | assumption) (by rfl) (by rfl) ?_)) | (with_reducible refine c_nz ?_) | ((with_reducible refine c_ift ?_ ?_); (focus (first | assumption | omega | (simp (disch := omega) only [n_lit, nI_add, pk_mul, pk_sub, n_div, sub_dm, Int32.toInt_toInt64, nI_toInt, sI_ne, sI_eq, sI_2, sL_1, sL_ne, sL_eq, sL_3, sR_1, sR_2, sR_ne, sR_eq, aI_ne, aI_eq, aI_2, aL_1, aL_ne, aL_eq, aL_3, Nat.add_zero, Nat.zero_add, Nat.reduceAdd, Nat.reduceMul, Nat.reduceSub, Nat.mul_zero, Nat.zero_mul, nI_ltI, nI_leI, nI_eq, bz_0, bz_1, t_0, decide_eq_false_iff_not, decide_eq_true_eq, Bool.and_eq_true, Bool.and_eq_false_imp, Bool.not_eq_true, Bool.not_eq_false, eq_self, not_true_eq_false, not_false_eq_true, reduceCtorEq, h2]; (try omega); done) | fail))) | ((with_reducible refine c_iff ?_ ?_); (focus (first | assumption | omega | (simp (disch := omega) only [n_lit, nI_add, pk_mul, pk_sub, n_div, sub_dm, Int32.toInt_toInt64, nI_toInt, sI_ne, sI_eq, sI_2, sL_1, sL_ne, sL_eq, sL_3, sR_1, sR_2, sR_ne, sR_eq, aI_ne, aI_eq, aI_2, aL_1, aL_ne, aL_eq, aL_3, Nat.add_zero, Nat.zero_add, Nat.reduceAdd, Nat.reduceMul, Nat.reduceSub, Nat.mul_zero, Nat.zero_mul, nI_ltI, nI_leI, nI_eq, bz_0, bz_1, t_0, decide_eq_false_iff_not, decide_eq_true_eq, Bool.and_eq_true, Bool.and_eq_false_imp, Bool.not_eq_true, Bool.not_eq_false, eq_self, not_true_eq_false, not_false_eq_true, reduceCtorEq, h2]; (try omega); done) | fail))) | simp (disch := omega) only [n_lit, nI_add, pk_mul, pk_sub, n_div, sub_dm, Int32.toInt_toInt64, nI_toInt, sI_ne, sI_eq, sI_2, sL_1, sL_ne, sL_eq, sL_3, sR_1, sR_2, sR_ne, sR_eq, aI_ne, aI_eq, aI_2, aL_1, aL_ne, aL_eq, aL_3, Nat.add_zero, Nat.zero_add, Nat.reduceAdd, Nat.reduceMul, Nat.reduceSub, Nat.mul_zero, Nat.zero_mul, h2])
    try rfl
  · have ca := hc a b
    obtain ⟨g1, g2⟩ := hb a b h1.1
    have kl := key_lt (c := c) hu g1
    have kn := bs_new e h1
    by_cases d : c u v < c a b
    · have lt : nI (c u v) < nI (c a b) := (nI_ltI (by omega) (by omega)).mpr d
      refine ⟨_, w_X8_offer S _ _ _ _ _ _ ?_, N (kn.1 (kl.mpr (Or.inl d))), F⟩
      repeat (first | (with_reducible refine c_let ?_) | ((with_reducible refine c_ob ?_ ?_ ?_); (focus (first | omega | assumption)); (focus (first | rfl | assumption))) | ((with_reducible show Option.bind (xGr _ _ _ _) _ = _); (first | refine c_gr (by first | omega | assumption) (by first | rfl | assumption) (by rfl) (by rfl) ?_)) | ((with_reducible show Option.bind (xGi _ _ _ _) _ = _); (first | refine c_gi (by first | omega | assumption) (by first | rfl | assumption) (by rfl) (by rfl) ?_ | refine c_gW (by first | omega | assumption) (by first | rfl | assumption) (by rfl) (by rfl) ?_ | refine c_gH (by first | omega | assumption) (by first | rfl | assumption) (by rfl) (by rfl) ?_ | refine c_gA (by first | omega | assumption) (by first | rfl | assumption) (by rfl) (by rfl) ?_ | refine c_gb (by first | omega | assumption) (by first | rfl | assumption) (by rfl) (by rfl) ?_)) | ((with_reducible show Option.bind (xRi _ _ _ _) _ = _); (first | refine c_ri (by first | omega | assumption) (by first | rfl | assumption) (by first | rfl | assumption) (by with_reducible rfl) (by first | omega | ((conv => rhs; whnf); first | omega | (show _ < OfNat.ofNat (α := Nat) _; omega))) (by first | omega | ((conv => lhs; whnf); first | omega | (show OfNat.ofNat (α := Nat) _ < _; omega))) (by decide) ?_)) | ((with_reducible show Option.bind (xRl _ _ _) _ = _); (first | refine c_rl (by first | omega | assumption) (by first | rfl | assumption) (by with_reducible rfl) (by first | omega | ((conv => rhs; whnf); first | omega | (show _ < OfNat.ofNat (α := Nat) _; omega))) (by first | omega | ((conv => lhs; whnf); first | omega | (show OfNat.ofNat (α := Nat) _ < _; omega))) ?_)) | ((with_reducible show Option.bind (xP _ _ _ _ _ _ (.int _)) _ = _); (first | refine c_pi (by first | omega | assumption) (by first | rfl | assumption) (by rfl) (by rfl) (xPok_int (by decide) (by rfl)) ?_)) | ((with_reducible show Option.bind (xWi _ _ _ _) _ = _); (first | refine c_wi (by first | omega | assumption) (by first | rfl | assumption) (by first | rfl | assumption) (by with_reducible rfl) (by first | omega | ((conv => rhs; whnf); first | omega | (show _ < OfNat.ofNat (α := Nat) _; omega))) (by first | omega | ((conv => lhs; whnf); first | omega | (show OfNat.ofNat (α := Nat) _ < _; omega))) ?_)) | ((with_reducible show Option.bind (xWl _ _ _ _) _ = _); (first | refine c_wl (by first | omega | assumption) (by first | rfl | assumption) (by with_reducible rfl) (by first | omega | ((conv => rhs; whnf); first | omega | (show _ < OfNat.ofNat (α := Nat) _; omega))) (by first | omega | ((conv => lhs; whnf); first | omega | (show OfNat.ofNat (α := Nat) _ < _; omega))) ?_)) | ((with_reducible show Option.bind (xRz _ _) _ = _); (first | refine c_rz (by first | omega | assumption) (by first | rfl | assumption) (by first | assumption | rfl) ?_)) | ((with_reducible show Option.bind (xGl _ _ _ _) _ = _); (first | refine c_gl (by first | omega | assumption) (by first | rfl | assumption) (by rfl) (by rfl) ?_ | refine c_gw (by first | omega | assumption) (by first | rfl | assumption) (by rfl) (by rfl) ?_)) | (with_reducible refine c_nz ?_) | ((with_reducible refine c_ift ?_ ?_); (focus (first | assumption | omega | (simp (disch := omega) only [n_lit, nI_add, pk_mul, pk_sub, n_div, sub_dm, Int32.toInt_toInt64, nI_toInt, sI_ne, sI_eq, sI_2, sL_1, sL_ne, sL_eq, sL_3, sR_1, sR_2, sR_ne, sR_eq, aI_ne, aI_eq, aI_2, aL_1, aL_ne, aL_eq, aL_3, Nat.add_zero, Nat.zero_add, Nat.reduceAdd, Nat.reduceMul, Nat.reduceSub, Nat.mul_zero, Nat.zero_mul, nI_ltI, nI_leI, nI_eq, bz_0, bz_1, t_0, decide_eq_false_iff_not, decide_eq_true_eq, Bool.and_eq_true, Bool.and_eq_false_imp, Bool.not_eq_true, Bool.not_eq_false, eq_self, not_true_eq_false, not_false_eq_true, reduceCtorEq, h4]; (try omega); done) | fail))) | ((with_reducible refine c_iff ?_ ?_); (focus (first | assumption | omega | (simp (disch := omega) only [n_lit, nI_add, pk_mul, pk_sub, n_div, sub_dm, Int32.toInt_toInt64, nI_toInt, sI_ne, sI_eq, sI_2, sL_1, sL_ne, sL_eq, sL_3, sR_1, sR_2, sR_ne, sR_eq, aI_ne, aI_eq, aI_2, aL_1, aL_ne, aL_eq, aL_3, Nat.add_zero, Nat.zero_add, Nat.reduceAdd, Nat.reduceMul, Nat.reduceSub, Nat.mul_zero, Nat.zero_mul, nI_ltI, nI_leI, nI_eq, bz_0, bz_1, t_0, decide_eq_false_iff_not, decide_eq_true_eq, Bool.and_eq_true, Bool.and_eq_false_imp, Bool.not_eq_true, Bool.not_eq_false, eq_self, not_true_eq_false, not_false_eq_true, reduceCtorEq, h4]; (try omega); done) | fail))) | simp (disch := omega) only [n_lit, nI_add, pk_mul, pk_sub, n_div, sub_dm, Int32.toInt_toInt64, nI_toInt, sI_ne, sI_eq, sI_2, sL_1, sL_ne, sL_eq, sL_3, sR_1, sR_2, sR_ne, sR_eq, aI_ne, aI_eq, aI_2, aL_1, aL_ne, aL_eq, aL_3, Nat.add_zero, Nat.zero_add, Nat.reduceAdd, Nat.reduceMul, Nat.reduceSub, Nat.mul_zero, Nat.zero_mul, h4])
      try rfl
    · have nl : ¬ nI (c u v) < nI (c a b) := fun q => d ((nI_ltI (by omega) (by omega)).mp q)
      have stay : ¬ (c u v = c a b ∧ u.natAbs + v.natAbs < a.natAbs + b.natAbs) → boI m c G' := fun w => Or.inr ⟨a, b, kn.2 (by
        rcases Int.lt_or_le (key c u v) (key c a b) with q | q
        · rcases kl.mp q with q | ⟨q1, q2 | ⟨q3, q4⟩⟩
          · exact absurd q d
          · exact absurd ⟨q1, q2⟩ w
          · omega
        · exact q), h2, h3, h4⟩
      have au := abs_n S (E W H n m) (x := zI u) (by rw [zI_t (by omega) (by omega)]; omega)
      have av := abs_n S (E W H n m) (x := zI v) (by rw [zI_t (by omega) (by omega)]; omega)
      have aa := abs_n S (E W H n m) (x := zI a) (by rw [zI_t (by omega) (by omega)]; omega)
      have ab := abs_n S (E W H n m) (x := zI b) (by rw [zI_t (by omega) (by omega)]; omega)
      rw [zI_t (by omega) (by omega)] at au av aa ab
      by_cases q : c u v = c a b
      · have ne : ¬ ¬ nI (c u v) = nI (c a b) := fun w => w (by rw [q])
        by_cases r : u.natAbs + v.natAbs < a.natAbs + b.natAbs
        · have lt : ¬ nI (a.natAbs + b.natAbs) ≤ nI (u.natAbs + v.natAbs) := fun w => by have := (nI_leI (by omega) (by omega)).mp w; omega
          refine ⟨_, w_X8_offer S _ _ _ _ _ _ ?_, N (kn.1 (kl.mpr (Or.inr ⟨q, Or.inl r⟩))), F⟩
          repeat (first | (with_reducible refine c_let ?_) | ((with_reducible refine c_ob ?_ ?_ ?_); (focus (first | omega | assumption)); (focus (first | rfl | assumption))) | ((with_reducible show Option.bind (xGr _ _ _ _) _ = _); (first | refine c_gr (by first | omega | assumption) (by first | rfl | assumption) (by rfl) (by rfl) ?_)) | ((with_reducible show Option.bind (xGi _ _ _ _) _ = _); (first | refine c_gi (by first | omega | assumption) (by first | rfl | assumption) (by rfl) (by rfl) ?_ | refine c_gW (by first | omega | assumption) (by first | rfl | assumption) (by rfl) (by rfl) ?_ | refine c_gH (by first | omega | assumption) (by first | rfl | assumption) (by rfl) (by rfl) ?_ | refine c_gA (by first | omega | assumption) (by first | rfl | assumption) (by rfl) (by rfl) ?_ | refine c_gb (by first | omega | assumption) (by first | rfl | assumption) (by rfl) (by rfl) ?_)) | ((with_reducible show Option.bind (xRi _ _ _ _) _ = _); (first | refine c_ri (by first | omega | assumption) (by first | rfl | assumption) (by first | rfl | assumption) (by with_reducible rfl) (by first | omega | ((conv => rhs; whnf); first | omega | (show _ < OfNat.ofNat (α := Nat) _; omega))) (by first | omega | ((conv => lhs; whnf); first | omega | (show OfNat.ofNat (α := Nat) _ < _; omega))) (by decide) ?_)) | ((with_reducible show Option.bind (xRl _ _ _) _ = _); (first | refine c_rl (by first | omega | assumption) (by first | rfl | assumption) (by with_reducible rfl) (by first | omega | ((conv => rhs; whnf); first | omega | (show _ < OfNat.ofNat (α := Nat) _; omega))) (by first | omega | ((conv => lhs; whnf); first | omega | (show OfNat.ofNat (α := Nat) _ < _; omega))) ?_)) | ((with_reducible show Option.bind (xP _ _ _ _ _ _ (.int _)) _ = _); (first | refine c_pi (by first | omega | assumption) (by first | rfl | assumption) (by rfl) (by rfl) (xPok_int (by decide) (by rfl)) ?_)) | ((with_reducible show Option.bind (xWi _ _ _ _) _ = _); (first | refine c_wi (by first | omega | assumption) (by first | rfl | assumption) (by first | rfl | assumption) (by with_reducible rfl) (by first | omega | ((conv => rhs; whnf); first | omega | (show _ < OfNat.ofNat (α := Nat) _; omega))) (by first | omega | ((conv => lhs; whnf); first | omega | (show OfNat.ofNat (α := Nat) _ < _; omega))) ?_)) | ((with_reducible show Option.bind (xWl _ _ _ _) _ = _); (first | refine c_wl (by first | omega | assumption) (by first | rfl | assumption) (by with_reducible rfl) (by first | omega | ((conv => rhs; whnf); first | omega | (show _ < OfNat.ofNat (α := Nat) _; omega))) (by first | omega | ((conv => lhs; whnf); first | omega | (show OfNat.ofNat (α := Nat) _ < _; omega))) ?_)) | ((with_reducible show Option.bind (xRz _ _) _ = _); (first | refine c_rz (by first | omega | assumption) (by first | rfl | assumption) (by first | assumption | rfl) ?_)) | ((with_reducible show Option.bind (xGl _ _ _ _) _ = _); (first | refine c_gl (by first | omega | assumption) (by first | rfl | assumption) (by rfl) (by rfl) ?_ | refine c_gw (by first | omega | assumption) (by first | rfl | assumption) (by rfl) (by rfl) ?_)) | (with_reducible refine c_qI (au) ?_) | (with_reducible refine c_qI (av) ?_) | (with_reducible refine c_qI (aa) ?_) | (with_reducible refine c_qI (ab) ?_) | (with_reducible refine c_nz ?_) | ((with_reducible refine c_ift ?_ ?_); (focus (first | assumption | omega | (simp (disch := omega) only [n_lit, nI_add, pk_mul, pk_sub, n_div, sub_dm, Int32.toInt_toInt64, nI_toInt, sI_ne, sI_eq, sI_2, sL_1, sL_ne, sL_eq, sL_3, sR_1, sR_2, sR_ne, sR_eq, aI_ne, aI_eq, aI_2, aL_1, aL_ne, aL_eq, aL_3, Nat.add_zero, Nat.zero_add, Nat.reduceAdd, Nat.reduceMul, Nat.reduceSub, Nat.mul_zero, Nat.zero_mul, nI_ltI, nI_leI, nI_eq, bz_0, bz_1, t_0, decide_eq_false_iff_not, decide_eq_true_eq, Bool.and_eq_true, Bool.and_eq_false_imp, Bool.not_eq_true, Bool.not_eq_false, eq_self, not_true_eq_false, not_false_eq_true, reduceCtorEq, h4, h2, h3]; (try omega); done) | fail))) | ((with_reducible refine c_iff ?_ ?_); (focus (first | assumption | omega | (simp (disch := omega) only [n_lit, nI_add, pk_mul, pk_sub, n_div, sub_dm, Int32.toInt_toInt64, nI_toInt, sI_ne, sI_eq, sI_2, sL_1, sL_ne, sL_eq, sL_3, sR_1, sR_2, sR_ne, sR_eq, aI_ne, aI_eq, aI_2, aL_1, aL_ne, aL_eq, aL_3, Nat.add_zero, Nat.zero_add, Nat.reduceAdd, Nat.reduceMul, Nat.reduceSub, Nat.mul_zero, Nat.zero_mul, nI_ltI, nI_leI, nI_eq, bz_0, bz_1, t_0, decide_eq_false_iff_not, decide_eq_true_eq, Bool.and_eq_true, Bool.and_eq_false_imp, Bool.not_eq_true, Bool.not_eq_false, eq_self, not_true_eq_false, not_false_eq_true, reduceCtorEq, h4, h2, h3]; (try omega); done) | fail))) | simp (disch := omega) only [n_lit, nI_add, pk_mul, pk_sub, n_div, sub_dm, Int32.toInt_toInt64, nI_toInt, sI_ne, sI_eq, sI_2, sL_1, sL_ne, sL_eq, sL_3, sR_1, sR_2, sR_ne, sR_eq, aI_ne, aI_eq, aI_2, aL_1, aL_ne, aL_eq, aL_3, Nat.add_zero, Nat.zero_add, Nat.reduceAdd, Nat.reduceMul, Nat.reduceSub, Nat.mul_zero, Nat.zero_mul, h4, h2, h3])
          try rfl
        · have lt : nI (a.natAbs + b.natAbs) ≤ nI (u.natAbs + v.natAbs) := (nI_leI (by omega) (by omega)).mpr (by omega)
          refine ⟨_, w_X8_offer S _ _ _ _ _ _ ?_, stay (fun w => r w.2), fr_rf⟩
          repeat (first | (with_reducible refine c_let ?_) | ((with_reducible refine c_ob ?_ ?_ ?_); (focus (first | omega | assumption)); (focus (first | rfl | assumption))) | ((with_reducible show Option.bind (xGr _ _ _ _) _ = _); (first | refine c_gr (by first | omega | assumption) (by first | rfl | assumption) (by rfl) (by rfl) ?_)) | ((with_reducible show Option.bind (xGi _ _ _ _) _ = _); (first | refine c_gi (by first | omega | assumption) (by first | rfl | assumption) (by rfl) (by rfl) ?_ | refine c_gW (by first | omega | assumption) (by first | rfl | assumption) (by rfl) (by rfl) ?_ | refine c_gH (by first | omega | assumption) (by first | rfl | assumption) (by rfl) (by rfl) ?_ | refine c_gA (by first | omega | assumption) (by first | rfl | assumption) (by rfl) (by rfl) ?_ | refine c_gb (by first | omega | assumption) (by first | rfl | assumption) (by rfl) (by rfl) ?_)) | ((with_reducible show Option.bind (xRi _ _ _ _) _ = _); (first | refine c_ri (by first | omega | assumption) (by first | rfl | assumption) (by first | rfl | assumption) (by with_reducible rfl) (by first | omega | ((conv => rhs; whnf); first | omega | (show _ < OfNat.ofNat (α := Nat) _; omega))) (by first | omega | ((conv => lhs; whnf); first | omega | (show OfNat.ofNat (α := Nat) _ < _; omega))) (by decide) ?_)) | ((with_reducible show Option.bind (xRl _ _ _) _ = _); (first | refine c_rl (by first | omega | assumption) (by first | rfl | assumption) (by with_reducible rfl) (by first | omega | ((conv => rhs; whnf); first | omega | (show _ < OfNat.ofNat (α := Nat) _; omega))) (by first | omega | ((conv => lhs; whnf); first | omega | (show OfNat.ofNat (α := Nat) _ < _; omega))) ?_)) | ((with_reducible show Option.bind (xP _ _ _ _ _ _ (.int _)) _ = _); (first | refine c_pi (by first | omega | assumption) (by first | rfl | assumption) (by rfl) (by rfl) (xPok_int (by decide) (by rfl)) ?_)) | ((with_reducible show Option.bind (xWi _ _ _ _) _ = _); (first | refine c_wi (by first | omega | assumption) (by first | rfl | assumption) (by first | rfl | assumption) (by with_reducible rfl) (by first | omega | ((conv => rhs; whnf); first | omega | (show _ < OfNat.ofNat (α := Nat) _; omega))) (by first | omega | ((conv => lhs; whnf); first | omega | (show OfNat.ofNat (α := Nat) _ < _; omega))) ?_)) | ((with_reducible show Option.bind (xWl _ _ _ _) _ = _); (first | refine c_wl (by first | omega | assumption) (by first | rfl | assumption) (by with_reducible rfl) (by first | omega | ((conv => rhs; whnf); first | omega | (show _ < OfNat.ofNat (α := Nat) _; omega))) (by first | omega | ((conv => lhs; whnf); first | omega | (show OfNat.ofNat (α := Nat) _ < _; omega))) ?_)) | ((with_reducible show Option.bind (xRz _ _) _ = _); (first | refine c_rz (by first | omega | assumption) (by first | rfl | assumption) (by first | assumption | rfl) ?_)) | ((with_reducible show Option.bind (xGl _ _ _ _) _ = _); (first | refine c_gl (by first | omega | assumption) (by first | rfl | assumption) (by rfl) (by rfl) ?_ | refine c_gw (by first | omega | assumption) (by first | rfl | assumption) (by rfl) (by rfl) ?_)) | (with_reducible refine c_qI (au) ?_) | (with_reducible refine c_qI (av) ?_) | (with_reducible refine c_qI (aa) ?_) | (with_reducible refine c_qI (ab) ?_) | (with_reducible refine c_nz ?_) | ((with_reducible refine c_ift ?_ ?_); (focus (first | assumption | omega | (simp (disch := omega) only [n_lit, nI_add, pk_mul, pk_sub, n_div, sub_dm, Int32.toInt_toInt64, nI_toInt, sI_ne, sI_eq, sI_2, sL_1, sL_ne, sL_eq, sL_3, sR_1, sR_2, sR_ne, sR_eq, aI_ne, aI_eq, aI_2, aL_1, aL_ne, aL_eq, aL_3, Nat.add_zero, Nat.zero_add, Nat.reduceAdd, Nat.reduceMul, Nat.reduceSub, Nat.mul_zero, Nat.zero_mul, nI_ltI, nI_leI, nI_eq, bz_0, bz_1, t_0, decide_eq_false_iff_not, decide_eq_true_eq, Bool.and_eq_true, Bool.and_eq_false_imp, Bool.not_eq_true, Bool.not_eq_false, eq_self, not_true_eq_false, not_false_eq_true, reduceCtorEq, h4, h2, h3]; (try omega); done) | fail))) | ((with_reducible refine c_iff ?_ ?_); (focus (first | assumption | omega | (simp (disch := omega) only [n_lit, nI_add, pk_mul, pk_sub, n_div, sub_dm, Int32.toInt_toInt64, nI_toInt, sI_ne, sI_eq, sI_2, sL_1, sL_ne, sL_eq, sL_3, sR_1, sR_2, sR_ne, sR_eq, aI_ne, aI_eq, aI_2, aL_1, aL_ne, aL_eq, aL_3, Nat.add_zero, Nat.zero_add, Nat.reduceAdd, Nat.reduceMul, Nat.reduceSub, Nat.mul_zero, Nat.zero_mul, nI_ltI, nI_leI, nI_eq, bz_0, bz_1, t_0, decide_eq_false_iff_not, decide_eq_true_eq, Bool.and_eq_true, Bool.and_eq_false_imp, Bool.not_eq_true, Bool.not_eq_false, eq_self, not_true_eq_false, not_false_eq_true, reduceCtorEq, h4, h2, h3]; (try omega); done) | fail))) | simp (disch := omega) only [n_lit, nI_add, pk_mul, pk_sub, n_div, sub_dm, Int32.toInt_toInt64, nI_toInt, sI_ne, sI_eq, sI_2, sL_1, sL_ne, sL_eq, sL_3, sR_1, sR_2, sR_ne, sR_eq, aI_ne, aI_eq, aI_2, aL_1, aL_ne, aL_eq, aL_3, Nat.add_zero, Nat.zero_add, Nat.reduceAdd, Nat.reduceMul, Nat.reduceSub, Nat.mul_zero, Nat.zero_mul, h4, h2, h3])
          try rfl
      · have ne : ¬ nI (c u v) = nI (c a b) := fun w => q ((nI_eq (by omega) (by omega)).mp w)
        refine ⟨_, w_X8_offer S _ _ _ _ _ _ ?_, stay (fun w => q w.1), fr_rf⟩
        repeat (first | (with_reducible refine c_let ?_) | ((with_reducible refine c_ob ?_ ?_ ?_); (focus (first | omega | assumption)); (focus (first | rfl | assumption))) | ((with_reducible show Option.bind (xGr _ _ _ _) _ = _); (first | refine c_gr (by first | omega | assumption) (by first | rfl | assumption) (by rfl) (by rfl) ?_)) | ((with_reducible show Option.bind (xGi _ _ _ _) _ = _); (first | refine c_gi (by first | omega | assumption) (by first | rfl | assumption) (by rfl) (by rfl) ?_ | refine c_gW (by first | omega | assumption) (by first | rfl | assumption) (by rfl) (by rfl) ?_ | refine c_gH (by first | omega | assumption) (by first | rfl | assumption) (by rfl) (by rfl) ?_ | refine c_gA (by first | omega | assumption) (by first | rfl | assumption) (by rfl) (by rfl) ?_ | refine c_gb (by first | omega | assumption) (by first | rfl | assumption) (by rfl) (by rfl) ?_)) | ((with_reducible show Option.bind (xRi _ _ _ _) _ = _); (first | refine c_ri (by first | omega | assumption) (by first | rfl | assumption) (by first | rfl | assumption) (by with_reducible rfl) (by first | omega | ((conv => rhs; whnf); first | omega | (show _ < OfNat.ofNat (α := Nat) _; omega))) (by first | omega | ((conv => lhs; whnf); first | omega | (show OfNat.ofNat (α := Nat) _ < _; omega))) (by decide) ?_)) | ((with_reducible show Option.bind (xRl _ _ _) _ = _); (first | refine c_rl (by first | omega | assumption) (by first | rfl | assumption) (by with_reducible rfl) (by first | omega | ((conv => rhs; whnf); first | omega | (show _ < OfNat.ofNat (α := Nat) _; omega))) (by first | omega | ((conv => lhs; whnf); first | omega | (show OfNat.ofNat (α := Nat) _ < _; omega))) ?_)) | ((with_reducible show Option.bind (xP _ _ _ _ _ _ (.int _)) _ = _); (first | refine c_pi (by first | omega | assumption) (by first | rfl | assumption) (by rfl) (by rfl) (xPok_int (by decide) (by rfl)) ?_)) | ((with_reducible show Option.bind (xWi _ _ _ _) _ = _); (first | refine c_wi (by first | omega | assumption) (by first | rfl | assumption) (by first | rfl | assumption) (by with_reducible rfl) (by first | omega | ((conv => rhs; whnf); first | omega | (show _ < OfNat.ofNat (α := Nat) _; omega))) (by first | omega | ((conv => lhs; whnf); first | omega | (show OfNat.ofNat (α := Nat) _ < _; omega))) ?_)) | ((with_reducible show Option.bind (xWl _ _ _ _) _ = _); (first | refine c_wl (by first | omega | assumption) (by first | rfl | assumption) (by with_reducible rfl) (by first | omega | ((conv => rhs; whnf); first | omega | (show _ < OfNat.ofNat (α := Nat) _; omega))) (by first | omega | ((conv => lhs; whnf); first | omega | (show OfNat.ofNat (α := Nat) _ < _; omega))) ?_)) | ((with_reducible show Option.bind (xRz _ _) _ = _); (first | refine c_rz (by first | omega | assumption) (by first | rfl | assumption) (by first | assumption | rfl) ?_)) | ((with_reducible show Option.bind (xGl _ _ _ _) _ = _); (first | refine c_gl (by first | omega | assumption) (by first | rfl | assumption) (by rfl) (by rfl) ?_ | refine c_gw (by first | omega | assumption) (by first | rfl | assumption) (by rfl) (by rfl) ?_)) | (with_reducible refine c_nz ?_) | ((with_reducible refine c_ift ?_ ?_); (focus (first | assumption | omega | (simp (disch := omega) only [n_lit, nI_add, pk_mul, pk_sub, n_div, sub_dm, Int32.toInt_toInt64, nI_toInt, sI_ne, sI_eq, sI_2, sL_1, sL_ne, sL_eq, sL_3, sR_1, sR_2, sR_ne, sR_eq, aI_ne, aI_eq, aI_2, aL_1, aL_ne, aL_eq, aL_3, Nat.add_zero, Nat.zero_add, Nat.reduceAdd, Nat.reduceMul, Nat.reduceSub, Nat.mul_zero, Nat.zero_mul, nI_ltI, nI_leI, nI_eq, bz_0, bz_1, t_0, decide_eq_false_iff_not, decide_eq_true_eq, Bool.and_eq_true, Bool.and_eq_false_imp, Bool.not_eq_true, Bool.not_eq_false, eq_self, not_true_eq_false, not_false_eq_true, reduceCtorEq, h4]; (try omega); done) | fail))) | ((with_reducible refine c_iff ?_ ?_); (focus (first | assumption | omega | (simp (disch := omega) only [n_lit, nI_add, pk_mul, pk_sub, n_div, sub_dm, Int32.toInt_toInt64, nI_toInt, sI_ne, sI_eq, sI_2, sL_1, sL_ne, sL_eq, sL_3, sR_1, sR_2, sR_ne, sR_eq, aI_ne, aI_eq, aI_2, aL_1, aL_ne, aL_eq, aL_3, Nat.add_zero, Nat.zero_add, Nat.reduceAdd, Nat.reduceMul, Nat.reduceSub, Nat.mul_zero, Nat.zero_mul, nI_ltI, nI_leI, nI_eq, bz_0, bz_1, t_0, decide_eq_false_iff_not, decide_eq_true_eq, Bool.and_eq_true, Bool.and_eq_false_imp, Bool.not_eq_true, Bool.not_eq_false, eq_self, not_true_eq_false, not_false_eq_true, reduceCtorEq, h4]; (try omega); done) | fail))) | simp (disch := omega) only [n_lit, nI_add, pk_mul, pk_sub, n_div, sub_dm, Int32.toInt_toInt64, nI_toInt, sI_ne, sI_eq, sI_2, sL_1, sL_ne, sL_eq, sL_3, sR_1, sR_2, sR_ne, sR_eq, aI_ne, aI_eq, aI_2, aL_1, aL_ne, aL_eq, aL_3, Nat.add_zero, Nat.zero_add, Nat.reduceAdd, Nat.reduceMul, Nat.reduceSub, Nat.mul_zero, Nat.zero_mul, h4])
        try rfl
end RH

/-! THE DESCRIPTION OF THE SETTINGS: both sides; the settings' ranges -/
/-- every value in its range -/
def cfR (Z : ((Nat → Nat) × Nat × (Nat → Nat))) : Prop := ∀ s, s < 10 → lstN s ≤ Z.1 s ∧ Z.1 s ≤ mstN s
theorem w_rng : ∀ s, s < 10 → isW s = true → lstN s = 0 ∧ mstN s = 1 := by decide +kernel
theorem vlT_rng {T : Nat → Nat} {L s i e : Nat} (hs : s < 10) (h : 0 ≤ vlT T L s i e) : (lstN s : Int) ≤ vlT T L s i e ∧ vlT T L s i e ≤ mstN s := by
  unfold vlT at h ⊢
  split at h
  · rename_i w
    obtain ⟨a, b⟩ := w_rng s hs w
    rw [if_pos w, a, b]
    split at h
    · rename_i c; rw [if_pos c]; decide
    · rename_i c
      rw [if_neg c]
      split at h
      · rename_i d; rw [if_pos d]; decide
      · exact absurd h (by decide)
  · rename_i w
    rw [if_neg w]
    split at h
    · exact absurd h (by decide)
    · rename_i c
      rw [if_neg c]
      split at h
      · exact absurd h (by decide)
      · rename_i d
        rw [if_neg d]
        omega
theorem rdS_rng {T : Nat → Nat} {L : Nat} : ∀ (f i : Nat), ∀ q ∈ (rdS T L f i).1, q.1 < 10 ∧ 0 ≤ q.2 ∧ (lstN q.1 : Int) ≤ q.2 ∧ q.2 ≤ mstN q.1 := by
  intro f
  induction f with
  | zero => intro i q hq; exact (nomatch hq)
  | succ f ih =>
    intro i
    unfold rdS
    (try dsimp only)
    split
    · intro q hq; exact (nomatch hq)
    · rename_i hs
      have hsl := stg_le (T := T) (i := i) (e := en (tS T L) L i)
      split
      · intro q hq; exact (nomatch hq)
      · split
        · intro q hq; exact (nomatch hq)
        · rename_i hv
          have h0 : stg T i (en (tS T L) L i) < 10 := by omega
          generalize stg T i (en (tS T L) L i) = s0 at *
          have h1 : 0 ≤ vlT T L s0 (en (tS T L) L i + 1) (en (tB T L) L (en (tS T L) L i + 1)) := by omega
          have h9 := vlT_rng h0 h1
          generalize vlT T L s0 (en (tS T L) L i + 1) (en (tB T L) L (en (tS T L) L i + 1)) = v0 at *
          have one : ∀ q ∈ [(s0, v0)], q.1 < 10 ∧ 0 ≤ q.2 ∧ (lstN q.1 : Int) ≤ q.2 ∧ q.2 ≤ mstN q.1 := fun q hq => by
            rw [List.mem_singleton] at hq
            rw [hq]
            exact ⟨h0, h1, h9⟩
          split
          · exact one
          · split
            · exact one
            · intro q hq
              rcases List.mem_cons.mp hq with rfl | hq
              · exact one _ (List.mem_singleton.mpr rfl)
              · exact ih _ q hq
theorem cfR_nt {Z : ((Nat → Nat) × Nat × (Nat → Nat))} (R : cfR Z) {q : Nat × Int} (h0 : 0 ≤ q.2) (h1 : (lstN q.1 : Int) ≤ q.2) (h2 : q.2 ≤ mstN q.1) : cfR (ntS Z q) := fun s hs => by
  show lstN s ≤ (if s = q.1 then q.2.toNat else Z.1 s) ∧ (if s = q.1 then q.2.toNat else Z.1 s) ≤ mstN s
  by_cases c : s = q.1
  · rw [if_pos c, c]; omega
  · rw [if_neg c]; exact R s hs
theorem cfR_fold : ∀ (l : List (Nat × Int)) (Z : ((Nat → Nat) × Nat × (Nat → Nat))), cfR Z → (∀ q ∈ l, 0 ≤ q.2 ∧ (lstN q.1 : Int) ≤ q.2 ∧ q.2 ≤ mstN q.1) → cfR (l.foldl ntS Z)
  | [], _, R, _ => R
  | q :: l, Z, R, h => cfR_fold l (ntS Z q) (cfR_nt R (h q (List.mem_cons_self)).1 (h q (List.mem_cons_self)).2.1 (h q (List.mem_cons_self)).2.2) (fun p hp => h p (List.mem_cons_of_mem _ hp))
theorem cfR_rd {T : Nat → Nat} {L : Nat} {Z : ((Nat → Nat) × Nat × (Nat → Nat))} (R : cfR Z) : cfR ((rdQ T L).1.foldl ntS Z) := by
  refine cfR_fold _ _ R fun q hq => ?_
  unfold rdQ at hq
  split at hq
  · exact (nomatch hq)
  · exact (rdS_rng _ _ q hq).2
/-- what is told -/
def cfW (Z : ((Nat → Nat) × Nat × (Nat → Nat))) (s : Nat) : List Int32 := if isW s then (if Z.1 s = 0 then xSB (zwW s - 20) else xSB (owW s - 20)) else nmT (Z.1 s : Int)
def cfOne (Z : ((Nat → Nat) × Nat × (Nat → Nat))) (s : Nat) : List Int32 := xSB (nmW s - 20) ++ [nI 61] ++ cfW Z s
def cfTx (Z : ((Nat → Nat) × Nat × (Nat → Nat))) : Nat → List Int32
  | 0 => []
  | k + 1 => cfTx Z k ++ (if k = 0 then [] else [nI 59]) ++ cfOne Z (Z.2.2 k)
theorem cfW_len : ∀ s, s < 10 → (xSB (nmW s - 20)).length ≤ 7 ∧ (xSB (zwW s - 20)).length ≤ 8 ∧ (xSB (owW s - 20)).length ≤ 8 ∧ xCk s 2 110 = some (owW s) ∧ xCk s 2 107 = some (zwW s) ∧ wdL 100 nSt nLn s = xSB (nmW s - 20) ∧ nLn s ≤ 7 := by decide +kernel
def fwN (s : Nat) : Nat := if s = 6 then 0 else if s = 7 then 2 else 4
theorem cfW_wd : ∀ s, s < 10 → isW s = true → ∀ v, v < 2 → fwN s + v < 6 ∧ vLn (fwN s + v) ≤ 8 ∧ wdL 101 vSt vLn (fwN s + v) = (if v = 0 then xSB (zwW s - 20) else xSB (owW s - 20)) := by decide +kernel
theorem cfOne_len (Z : ((Nat → Nat) × Nat × (Nat → Nat))) {s : Nat} (hs : s < 10) : (cfOne Z s).length ≤ 16 ∧ (cfW Z s).length ≤ 8 := by
  obtain ⟨a, b, c, _⟩ := cfW_len s hs
  have h2 : (cfW Z s).length ≤ 8 := by
    unfold cfW
    split
    · split
      · exact b
      · exact c
    · exact nmT_len _
  refine ⟨?_, h2⟩
  unfold cfOne
  rw [List.length_append, List.length_append]
  show _ + 1 + _ ≤ 16
  omega
theorem cfTx_len (Z : ((Nat → Nat) × Nat × (Nat → Nat))) : ∀ k, (∀ i, i < k → Z.2.2 i < 10) → (cfTx Z k).length ≤ 17 * k := by
  intro k
  induction k with
  | zero => intro _; exact Nat.le_refl 0
  | succ k ih =>
    intro h
    have h1 := ih (fun i hi => h i (by omega))
    have h2 := (cfOne_len Z (h k (by omega))).1
    show (cfTx Z k ++ (if k = 0 then [] else [nI 59]) ++ cfOne Z (Z.2.2 k)).length ≤ _
    rw [List.length_append, List.length_append]
    by_cases c : k = 0
    · rw [if_pos c]; show _ + 0 + _ ≤ _; omega
    · rw [if_neg c]; show _ + 1 + _ ≤ _; omega
section CC
variable {S : xS} {W H n : Nat} {m : mM} {i : Nat} {l : List Int32} {Z : ((Nat → Nat) × Nat × (Nat → Nat))}
theorem valueOf_E (C : cfX m 34 2 35 36 Z) {s : Nat} (hs : s < 10) : xM S mX2_valueOf [.ref 34, .retAddr s] (E W H n m) = some (.inl (some (.int (nI (Z.1 s)))), E W H n m, 0, 0) := by
  obtain ⟨a1, a2, a3, a4, a5, a6, _⟩ := st_all s hs
  have c1 := C.1 s hs
  have z10 : 10 = eL H 35 := rfl
  refine w_X2_valueOf S _ _ _ _ ?_
  rw [a6, Option.bind_some]
  repeat (first | (with_reducible refine c_let ?_) | ((with_reducible refine c_ob ?_ ?_ ?_); (focus (first | omega | assumption)); (focus (first | rfl | assumption))) | ((with_reducible show Option.bind (xGr _ _ _ _) _ = _); (first | refine c_gr (by first | omega | assumption) (by first | rfl | assumption) (by rfl) (by rfl) ?_)) | ((with_reducible show Option.bind (xGi _ _ _ _) _ = _); (first | refine c_gi (by first | omega | assumption) (by first | rfl | assumption) (by rfl) (by rfl) ?_ | refine c_gW (by first | omega | assumption) (by first | rfl | assumption) (by rfl) (by rfl) ?_ | refine c_gH (by first | omega | assumption) (by first | rfl | assumption) (by rfl) (by rfl) ?_ | refine c_gA (by first | omega | assumption) (by first | rfl | assumption) (by rfl) (by rfl) ?_ | refine c_gb (by first | omega | assumption) (by first | rfl | assumption) (by rfl) (by rfl) ?_)) | ((with_reducible show Option.bind (xRi _ _ _ _) _ = _); (first | refine c_ri (by first | omega | assumption) (by first | rfl | assumption) (by first | rfl | assumption) (by with_reducible rfl) (by first | omega | ((conv => rhs; whnf); first | omega | (show _ < OfNat.ofNat (α := Nat) _; omega))) (by first | omega | ((conv => lhs; whnf); first | omega | (show OfNat.ofNat (α := Nat) _ < _; omega))) (by decide) ?_)) | ((with_reducible show Option.bind (xRl _ _ _) _ = _); (first | refine c_rl (by first | omega | assumption) (by first | rfl | assumption) (by with_reducible rfl) (by first | omega | ((conv => rhs; whnf); first | omega | (show _ < OfNat.ofNat (α := Nat) _; omega))) (by first | omega | ((conv => lhs; whnf); first | omega | (show OfNat.ofNat (α := Nat) _ < _; omega))) ?_)) | ((with_reducible show Option.bind (xP _ _ _ _ _ _ (.int _)) _ = _); (first | refine c_pi (by first | omega | assumption) (by first | rfl | assumption) (by rfl) (by rfl) (xPok_int (by decide) (by rfl)) ?_)) | ((with_reducible show Option.bind (xWi _ _ _ _) _ = _); (first | refine c_wi (by first | omega | assumption) (by first | rfl | assumption) (by first | rfl | assumption) (by with_reducible rfl) (by first | omega | ((conv => rhs; whnf); first | omega | (show _ < OfNat.ofNat (α := Nat) _; omega))) (by first | omega | ((conv => lhs; whnf); first | omega | (show OfNat.ofNat (α := Nat) _ < _; omega))) ?_)) | ((with_reducible show Option.bind (xWl _ _ _ _) _ = _); (first | refine c_wl (by first | omega | assumption) (by first | rfl | assumption) (by with_reducible rfl) (by first | omega | ((conv => rhs; whnf); first | omega | (show _ < OfNat.ofNat (α := Nat) _; omega))) (by first | omega | ((conv => lhs; whnf); first | omega | (show OfNat.ofNat (α := Nat) _ < _; omega))) ?_)) | ((with_reducible show Option.bind (xRz _ _) _ = _); (first | refine c_rz (by first | omega | assumption) (by first | rfl | assumption) (by first | assumption | rfl) ?_)) | ((with_reducible show Option.bind (xGl _ _ _ _) _ = _); (first | refine c_gl (by first | omega | assumption) (by first | rfl | assumption) (by rfl) (by rfl) ?_ | refine c_gw (by first | omega | assumption) (by first | rfl | assumption) (by rfl) (by rfl) ?_)) | (with_reducible refine c_nz ?_) | ((with_reducible refine c_ift ?_ ?_); (focus (first | assumption | omega | (simp (disch := omega) only [n_lit, nI_add, pk_mul, pk_sub, n_div, sub_dm, Int32.toInt_toInt64, nI_toInt, sI_ne, sI_eq, sI_2, sL_1, sL_ne, sL_eq, sL_3, sR_1, sR_2, sR_ne, sR_eq, aI_ne, aI_eq, aI_2, aL_1, aL_ne, aL_eq, aL_3, Nat.add_zero, Nat.zero_add, Nat.reduceAdd, Nat.reduceMul, Nat.reduceSub, Nat.mul_zero, Nat.zero_mul, nI_ltI, nI_leI, nI_eq, bz_0, bz_1, t_0, decide_eq_false_iff_not, decide_eq_true_eq, Bool.and_eq_true, Bool.and_eq_false_imp, Bool.not_eq_true, Bool.not_eq_false, eq_self, not_true_eq_false, not_false_eq_true, reduceCtorEq, c1]; (try omega); done) | fail))) | ((with_reducible refine c_iff ?_ ?_); (focus (first | assumption | omega | (simp (disch := omega) only [n_lit, nI_add, pk_mul, pk_sub, n_div, sub_dm, Int32.toInt_toInt64, nI_toInt, sI_ne, sI_eq, sI_2, sL_1, sL_ne, sL_eq, sL_3, sR_1, sR_2, sR_ne, sR_eq, aI_ne, aI_eq, aI_2, aL_1, aL_ne, aL_eq, aL_3, Nat.add_zero, Nat.zero_add, Nat.reduceAdd, Nat.reduceMul, Nat.reduceSub, Nat.mul_zero, Nat.zero_mul, nI_ltI, nI_leI, nI_eq, bz_0, bz_1, t_0, decide_eq_false_iff_not, decide_eq_true_eq, Bool.and_eq_true, Bool.and_eq_false_imp, Bool.not_eq_true, Bool.not_eq_false, eq_self, not_true_eq_false, not_false_eq_true, reduceCtorEq, c1]; (try omega); done) | fail))) | simp (disch := omega) only [n_lit, nI_add, pk_mul, pk_sub, n_div, sub_dm, Int32.toInt_toInt64, nI_toInt, sI_ne, sI_eq, sI_2, sL_1, sL_ne, sL_eq, sL_3, sR_1, sR_2, sR_ne, sR_eq, aI_ne, aI_eq, aI_2, aL_1, aL_ne, aL_eq, aL_3, Nat.add_zero, Nat.zero_add, Nat.reduceAdd, Nat.reduceMul, Nat.reduceSub, Nat.mul_zero, Nat.zero_mul, c1])
  try rfl
theorem cfX_pr {m' : mM} (C : cfX m 34 2 35 36 Z) (F : fr prP m m') : cfX m' 34 2 35 36 Z := ⟨fun i hi => by rw [fr_i F 35 i rfl]; exact C.1 i hi, by rw [fr_i F 34 2 rfl]; exact C.2.1, fun i hi => by rw [fr_i F 36 i rfl]; exact C.2.2 i hi⟩
theorem describeOne_s (C : cfX m 34 2 35 36 Z) (O : cfO Z) (I : prI m i l) (hi : i < 2147483648) (hl : l.length < 10000) {s : Nat} (hs : s < 10) : ∃ m', xM S mX2_describeOne [.ref 34, .retAddr s, .ref 89] (E W H n m) = some (.inl none, E W H n m', 0, 0) ∧ prI m' i (l ++ cfOne Z s) ∧ fr prP m m' := by
  obtain ⟨a1, a2, a3, a4, a5, a6, a7, a8, a9, a10, a11, a12, _⟩ := st_all s hs
  obtain ⟨b1, b2, b3, b4, b5, _⟩ := cfW_len s hs
  obtain ⟨d1, d2, d3, d4⟩ := nmW_len s hs
  have hv := O.2.1 s hs
  have vo := valueOf_E (S := S) (W := W) (H := H) (n := n) C hs
  obtain ⟨m1, k1, k2, k3⟩ := write_s (S := S) (W := W) (H := H) (n := n) I hi d3 d4 (by omega)
  obtain ⟨m2, j1, j2, j3⟩ := put_s (S := S) (W := W) (H := H) (n := n) k2 hi (by rw [List.length_append]; omega) (nI 61)
  have hw := hasWords_s (S := S) hs (E W H n m2)
  have l2 : (l ++ xSB (nmW s - 20) ++ [nI 61]).length < 20000 := by
    rw [List.length_append, List.length_append]
    show _ + _ + 1 < _
    omega
  have start : ∀ {o' : xO}, (if bz (isW s) = 0 then (if xOb (E W H n m2) 89 6 = true then xqV (xM S mX6_writeNumber [.ref 89, .int (nI (Z.1 s))] (E W H n m2)) xth fun h15 => some (.inl none, h15, 0, 0) else none) else (if ¬ nI (Z.1 s) = 0 then ((xCk s 2 110).bind fun v17 => if xOb (E W H n m2) 89 6 = true then xqV (xM S mX6_write [.ref 89, .retAddr v17] (E W H n m2)) xth fun h19 => some (.inl none, h19, 0, 0) else none) else ((xCk s 2 107).bind fun v21 => if xOb (E W H n m2) 89 6 = true then xqV (xM S mX6_write [.ref 89, .retAddr v21] (E W H n m2)) xth fun h23 => some (.inl none, h23, 0, 0) else none))) = some o' → xM S mX2_describeOne [.ref 34, .retAddr s, .ref 89] (E W H n m) = some o' := fun {o'} ho => by
    refine w_X2_describeOne S _ _ _ _ _ ?_
    refine c_ob (by omega) (by rfl) ?_
    refine c_qI vo ?_
    rw [a7, Option.bind_some]
    refine c_ob (by omega) (by rfl) ?_
    refine c_qV k1 ?_
    refine c_ob (by omega) (by rfl) ?_
    refine c_qV j1 ?_
    refine c_ift a1 ?_
    refine c_qI hw ?_
    exact ho
  have eo : l ++ cfOne Z s = l ++ xSB (nmW s - 20) ++ [nI 61] ++ cfW Z s := by unfold cfOne; rw [← List.append_assoc, ← List.append_assoc]
  rw [eo]
  unfold cfW
  cases w : isW s
  · rw [w] at start
    rw [if_neg (show ¬ false = true by decide)]
    obtain ⟨m3, g1, g2, g3⟩ := writeNumber_s (S := S) (W := W) (H := H) (n := n) j2 hi (by omega) (x := nI (Z.1 s)) (z := (Z.1 s : Int)) (nI_toInt (by omega)) (by omega) (by omega)
    refine ⟨m3, start ?_, g2, fr_tr k3 (fr_tr j3 g3)⟩
    refine c_ift (by decide) ?_
    refine c_ob (by omega) (by rfl) ?_
    refine c_qV g1 ?_
    rfl
  · rw [w] at start
    rw [if_pos rfl]
    by_cases z : Z.1 s = 0
    · obtain ⟨m3, g1, g2, g3⟩ := write_s (S := S) (W := W) (H := H) (n := n) j2 hi a8 a9 (by omega)
      rw [if_pos z]
      refine ⟨m3, start ?_, g2, fr_tr k3 (fr_tr j3 g3)⟩
      refine c_iff (by decide) ?_
      refine c_iff (fun q => q (by rw [z]; rfl)) ?_
      rw [b5, Option.bind_some]
      refine c_ob (by omega) (by rfl) ?_
      refine c_qV g1 ?_
      rfl
    · obtain ⟨m3, g1, g2, g3⟩ := write_s (S := S) (W := W) (H := H) (n := n) j2 hi a10 a11 (by omega)
      rw [if_neg z]
      refine ⟨m3, start ?_, g2, fr_tr k3 (fr_tr j3 g3)⟩
      refine c_iff (by decide) ?_
      refine c_ift (fun q => z ((nI_eq (b := 0) (by omega) (by decide)).mp q)) ?_
      rw [b4, Option.bind_some]
      refine c_ob (by omega) (by rfl) ?_
      refine c_qV g1 ?_
      rfl
theorem describe_s (C : cfX m 34 2 35 36 Z) (O : cfO Z) (I : prI m i []) (hi : i < 2147483648) : ∃ m', xM S mX2_describe [.ref 34, .ref 89] (E W H n m) = some (.inl none, E W H n m', 0, 0) ∧ prI m' i (cfTx Z Z.2.1) ∧ fr prP m m' := by
  have g10 := O.1
  have z10 : 10 = eL H 36 := rfl
  have L := x_sg (σ := mM) (τ := mM) (D := fun k s => xden S mX2_describe 2 [(0, .ref 34), (1, .ref 89), (2, .int (nI k))] [] (E W H n s)) (Inv := fun k s => prI s i (cfTx Z k) ∧ fr prP m s)
    (F := fun s => some (.inl none, E W H n s, 0, 0)) (Post := fun s => prI s i (cfTx Z Z.2.1) ∧ fr prP m s) Z.2.1 (fun k hk s hs => ?_) (fun s hs => ?_) m ⟨I, fr_rf⟩
  · obtain ⟨m', k1, k2⟩ := L
    exact ⟨m', w_X2_describe S _ _ _ _ (k2 _ rfl), k1.1, k1.2⟩
  · left
    obtain ⟨h1, h2⟩ := hs
    have C1 := cfX_pr C h2
    have c2 := C1.2.1
    have c3 := C1.2.2 k hk
    have hs10 := O.2.2.1 k hk
    have hl := cfTx_len Z k (fun i hi => O.2.2.1 i (by omega))
    have xi : xin (nI (Z.2.2 k)) 10 = true := xin_nI hs10 (by decide)
    have xc : (nI (Z.2.2 k)).toNatClampNeg = Z.2.2 k := nI_clamp (by omega)
    by_cases c : k = 0
    · obtain ⟨m1, k1, k2, k3⟩ := describeOne_s (S := S) (W := W) (H := H) (n := n) C1 O h1 hi (by omega) hs10
      refine ⟨m1, ⟨?_, fr_tr h2 k3⟩, fun o ho => w_X2_describe_2 S _ _ _ _ _ ?_⟩
      · show prI m1 i (cfTx Z k ++ (if k = 0 then [] else [nI 59]) ++ cfOne Z (Z.2.2 k))
        rw [if_pos c, List.append_nil]
        exact k2
      · repeat (first | (with_reducible refine c_let ?_) | ((with_reducible refine c_ob ?_ ?_ ?_); (focus (first | omega | assumption)); (focus (first | rfl | assumption))) | ((with_reducible show Option.bind (xGr _ _ _ _) _ = _); (first | refine c_gr (by first | omega | assumption) (by first | rfl | assumption) (by rfl) (by rfl) ?_)) | ((with_reducible show Option.bind (xGi _ _ _ _) _ = _); (first | refine c_gi (by first | omega | assumption) (by first | rfl | assumption) (by rfl) (by rfl) ?_ | refine c_gW (by first | omega | assumption) (by first | rfl | assumption) (by rfl) (by rfl) ?_ | refine c_gH (by first | omega | assumption) (by first | rfl | assumption) (by rfl) (by rfl) ?_ | refine c_gA (by first | omega | assumption) (by first | rfl | assumption) (by rfl) (by rfl) ?_ | refine c_gb (by first | omega | assumption) (by first | rfl | assumption) (by rfl) (by rfl) ?_)) | ((with_reducible show Option.bind (xRi _ _ _ _) _ = _); (first | refine c_ri (by first | omega | assumption) (by first | rfl | assumption) (by first | rfl | assumption) (by with_reducible rfl) (by first | omega | ((conv => rhs; whnf); first | omega | (show _ < OfNat.ofNat (α := Nat) _; omega))) (by first | omega | ((conv => lhs; whnf); first | omega | (show OfNat.ofNat (α := Nat) _ < _; omega))) (by decide) ?_)) | ((with_reducible show Option.bind (xRl _ _ _) _ = _); (first | refine c_rl (by first | omega | assumption) (by first | rfl | assumption) (by with_reducible rfl) (by first | omega | ((conv => rhs; whnf); first | omega | (show _ < OfNat.ofNat (α := Nat) _; omega))) (by first | omega | ((conv => lhs; whnf); first | omega | (show OfNat.ofNat (α := Nat) _ < _; omega))) ?_)) | ((with_reducible show Option.bind (xP _ _ _ _ _ _ (.int _)) _ = _); (first | refine c_pi (by first | omega | assumption) (by first | rfl | assumption) (by rfl) (by rfl) (xPok_int (by decide) (by rfl)) ?_)) | ((with_reducible show Option.bind (xWi _ _ _ _) _ = _); (first | refine c_wi (by first | omega | assumption) (by first | rfl | assumption) (by first | rfl | assumption) (by with_reducible rfl) (by first | omega | ((conv => rhs; whnf); first | omega | (show _ < OfNat.ofNat (α := Nat) _; omega))) (by first | omega | ((conv => lhs; whnf); first | omega | (show OfNat.ofNat (α := Nat) _ < _; omega))) ?_)) | ((with_reducible show Option.bind (xWl _ _ _ _) _ = _); (first | refine c_wl (by first | omega | assumption) (by first | rfl | assumption) (by with_reducible rfl) (by first | omega | ((conv => rhs; whnf); first | omega | (show _ < OfNat.ofNat (α := Nat) _; omega))) (by first | omega | ((conv => lhs; whnf); first | omega | (show OfNat.ofNat (α := Nat) _ < _; omega))) ?_)) | ((with_reducible show Option.bind (xRz _ _) _ = _); (first | refine c_rz (by first | omega | assumption) (by first | rfl | assumption) (by first | assumption | rfl) ?_)) | ((with_reducible show Option.bind (xGl _ _ _ _) _ = _); (first | refine c_gl (by first | omega | assumption) (by first | rfl | assumption) (by rfl) (by rfl) ?_ | refine c_gw (by first | omega | assumption) (by first | rfl | assumption) (by rfl) (by rfl) ?_)) | (with_reducible refine c_nz ?_) | ((with_reducible refine c_ift ?_ ?_); (focus (first | assumption | omega | (simp (disch := omega) only [n_lit, nI_add, pk_mul, pk_sub, n_div, sub_dm, Int32.toInt_toInt64, nI_toInt, sI_ne, sI_eq, sI_2, sL_1, sL_ne, sL_eq, sL_3, sR_1, sR_2, sR_ne, sR_eq, aI_ne, aI_eq, aI_2, aL_1, aL_ne, aL_eq, aL_3, Nat.add_zero, Nat.zero_add, Nat.reduceAdd, Nat.reduceMul, Nat.reduceSub, Nat.mul_zero, Nat.zero_mul, nI_ltI, nI_leI, nI_eq, bz_0, bz_1, t_0, decide_eq_false_iff_not, decide_eq_true_eq, Bool.and_eq_true, Bool.and_eq_false_imp, Bool.not_eq_true, Bool.not_eq_false, eq_self, not_true_eq_false, not_false_eq_true, reduceCtorEq, c2, c3]; (try omega); done) | fail))) | ((with_reducible refine c_iff ?_ ?_); (focus (first | assumption | omega | (simp (disch := omega) only [n_lit, nI_add, pk_mul, pk_sub, n_div, sub_dm, Int32.toInt_toInt64, nI_toInt, sI_ne, sI_eq, sI_2, sL_1, sL_ne, sL_eq, sL_3, sR_1, sR_2, sR_ne, sR_eq, aI_ne, aI_eq, aI_2, aL_1, aL_ne, aL_eq, aL_3, Nat.add_zero, Nat.zero_add, Nat.reduceAdd, Nat.reduceMul, Nat.reduceSub, Nat.mul_zero, Nat.zero_mul, nI_ltI, nI_leI, nI_eq, bz_0, bz_1, t_0, decide_eq_false_iff_not, decide_eq_true_eq, Bool.and_eq_true, Bool.and_eq_false_imp, Bool.not_eq_true, Bool.not_eq_false, eq_self, not_true_eq_false, not_false_eq_true, reduceCtorEq, c2, c3]; (try omega); done) | fail))) | simp (disch := omega) only [n_lit, nI_add, pk_mul, pk_sub, n_div, sub_dm, Int32.toInt_toInt64, nI_toInt, sI_ne, sI_eq, sI_2, sL_1, sL_ne, sL_eq, sL_3, sR_1, sR_2, sR_ne, sR_eq, aI_ne, aI_eq, aI_2, aL_1, aL_ne, aL_eq, aL_3, Nat.add_zero, Nat.zero_add, Nat.reduceAdd, Nat.reduceMul, Nat.reduceSub, Nat.mul_zero, Nat.zero_mul, c2, c3])
        rw [xc]
        refine c_qV k1 ?_
        repeat (first | (with_reducible refine c_let ?_) | ((with_reducible refine c_ob ?_ ?_ ?_); (focus (first | omega | assumption)); (focus (first | rfl | assumption))) | ((with_reducible show Option.bind (xGr _ _ _ _) _ = _); (first | refine c_gr (by first | omega | assumption) (by first | rfl | assumption) (by rfl) (by rfl) ?_)) | ((with_reducible show Option.bind (xGi _ _ _ _) _ = _); (first | refine c_gi (by first | omega | assumption) (by first | rfl | assumption) (by rfl) (by rfl) ?_ | refine c_gW (by first | omega | assumption) (by first | rfl | assumption) (by rfl) (by rfl) ?_ | refine c_gH (by first | omega | assumption) (by first | rfl | assumption) (by rfl) (by rfl) ?_ | refine c_gA (by first | omega | assumption) (by first | rfl | assumption) (by rfl) (by rfl) ?_ | refine c_gb (by first | omega | assumption) (by first | rfl | assumption) (by rfl) (by rfl) ?_)) | ((with_reducible show Option.bind (xRi _ _ _ _) _ = _); (first | refine c_ri (by first | omega | assumption) (by first | rfl | assumption) (by first | rfl | assumption) (by with_reducible rfl) (by first | omega | ((conv => rhs; whnf); first | omega | (show _ < OfNat.ofNat (α := Nat) _; omega))) (by first | omega | ((conv => lhs; whnf); first | omega | (show OfNat.ofNat (α := Nat) _ < _; omega))) (by decide) ?_)) | ((with_reducible show Option.bind (xRl _ _ _) _ = _); (first | refine c_rl (by first | omega | assumption) (by first | rfl | assumption) (by with_reducible rfl) (by first | omega | ((conv => rhs; whnf); first | omega | (show _ < OfNat.ofNat (α := Nat) _; omega))) (by first | omega | ((conv => lhs; whnf); first | omega | (show OfNat.ofNat (α := Nat) _ < _; omega))) ?_)) | ((with_reducible show Option.bind (xP _ _ _ _ _ _ (.int _)) _ = _); (first | refine c_pi (by first | omega | assumption) (by first | rfl | assumption) (by rfl) (by rfl) (xPok_int (by decide) (by rfl)) ?_)) | ((with_reducible show Option.bind (xWi _ _ _ _) _ = _); (first | refine c_wi (by first | omega | assumption) (by first | rfl | assumption) (by first | rfl | assumption) (by with_reducible rfl) (by first | omega | ((conv => rhs; whnf); first | omega | (show _ < OfNat.ofNat (α := Nat) _; omega))) (by first | omega | ((conv => lhs; whnf); first | omega | (show OfNat.ofNat (α := Nat) _ < _; omega))) ?_)) | ((with_reducible show Option.bind (xWl _ _ _ _) _ = _); (first | refine c_wl (by first | omega | assumption) (by first | rfl | assumption) (by with_reducible rfl) (by first | omega | ((conv => rhs; whnf); first | omega | (show _ < OfNat.ofNat (α := Nat) _; omega))) (by first | omega | ((conv => lhs; whnf); first | omega | (show OfNat.ofNat (α := Nat) _ < _; omega))) ?_)) | ((with_reducible show Option.bind (xRz _ _) _ = _); (first | refine c_rz (by first | omega | assumption) (by first | rfl | assumption) (by first | assumption | rfl) ?_)) | ((with_reducible show Option.bind (xGl _ _ _ _) _ = _); (first | refine c_gl (by first | omega | assumption) (by first | rfl | assumption) (by rfl) (by rfl) ?_ | refine c_gw (by first | omega | assumption) (by first | rfl | assumption) (by rfl) (by rfl) ?_)) | (with_reducible refine c_nz ?_) | ((with_reducible refine c_ift ?_ ?_); (focus (first | assumption | omega | (simp (disch := omega) only [n_lit, nI_add, pk_mul, pk_sub, n_div, sub_dm, Int32.toInt_toInt64, nI_toInt, sI_ne, sI_eq, sI_2, sL_1, sL_ne, sL_eq, sL_3, sR_1, sR_2, sR_ne, sR_eq, aI_ne, aI_eq, aI_2, aL_1, aL_ne, aL_eq, aL_3, Nat.add_zero, Nat.zero_add, Nat.reduceAdd, Nat.reduceMul, Nat.reduceSub, Nat.mul_zero, Nat.zero_mul, nI_ltI, nI_leI, nI_eq, bz_0, bz_1, t_0, decide_eq_false_iff_not, decide_eq_true_eq, Bool.and_eq_true, Bool.and_eq_false_imp, Bool.not_eq_true, Bool.not_eq_false, eq_self, not_true_eq_false, not_false_eq_true, reduceCtorEq]; (try omega); done) | fail))) | ((with_reducible refine c_iff ?_ ?_); (focus (first | assumption | omega | (simp (disch := omega) only [n_lit, nI_add, pk_mul, pk_sub, n_div, sub_dm, Int32.toInt_toInt64, nI_toInt, sI_ne, sI_eq, sI_2, sL_1, sL_ne, sL_eq, sL_3, sR_1, sR_2, sR_ne, sR_eq, aI_ne, aI_eq, aI_2, aL_1, aL_ne, aL_eq, aL_3, Nat.add_zero, Nat.zero_add, Nat.reduceAdd, Nat.reduceMul, Nat.reduceSub, Nat.mul_zero, Nat.zero_mul, nI_ltI, nI_leI, nI_eq, bz_0, bz_1, t_0, decide_eq_false_iff_not, decide_eq_true_eq, Bool.and_eq_true, Bool.and_eq_false_imp, Bool.not_eq_true, Bool.not_eq_false, eq_self, not_true_eq_false, not_false_eq_true, reduceCtorEq]; (try omega); done) | fail))) | simp (disch := omega) only [n_lit, nI_add, pk_mul, pk_sub, n_div, sub_dm, Int32.toInt_toInt64, nI_toInt, sI_ne, sI_eq, sI_2, sL_1, sL_ne, sL_eq, sL_3, sR_1, sR_2, sR_ne, sR_eq, aI_ne, aI_eq, aI_2, aL_1, aL_ne, aL_eq, aL_3, Nat.add_zero, Nat.zero_add, Nat.reduceAdd, Nat.reduceMul, Nat.reduceSub, Nat.mul_zero, Nat.zero_mul])
        exact ho
    · obtain ⟨m0, j1, j2, j3⟩ := put_s (S := S) (W := W) (H := H) (n := n) h1 hi (by omega) (nI 59)
      obtain ⟨m1, k1, k2, k3⟩ := describeOne_s (S := S) (W := W) (H := H) (n := n) (cfX_pr C1 j3) O j2 hi (by rw [List.length_append]; show _ + 1 < _; omega) hs10
      refine ⟨m1, ⟨?_, fr_tr h2 (fr_tr j3 k3)⟩, fun o ho => w_X2_describe_2 S _ _ _ _ _ ?_⟩
      · show prI m1 i (cfTx Z k ++ (if k = 0 then [] else [nI 59]) ++ cfOne Z (Z.2.2 k))
        rw [if_neg c]
        exact k2
      · repeat (first | (with_reducible refine c_let ?_) | ((with_reducible refine c_ob ?_ ?_ ?_); (focus (first | omega | assumption)); (focus (first | rfl | assumption))) | ((with_reducible show Option.bind (xGr _ _ _ _) _ = _); (first | refine c_gr (by first | omega | assumption) (by first | rfl | assumption) (by rfl) (by rfl) ?_)) | ((with_reducible show Option.bind (xGi _ _ _ _) _ = _); (first | refine c_gi (by first | omega | assumption) (by first | rfl | assumption) (by rfl) (by rfl) ?_ | refine c_gW (by first | omega | assumption) (by first | rfl | assumption) (by rfl) (by rfl) ?_ | refine c_gH (by first | omega | assumption) (by first | rfl | assumption) (by rfl) (by rfl) ?_ | refine c_gA (by first | omega | assumption) (by first | rfl | assumption) (by rfl) (by rfl) ?_ | refine c_gb (by first | omega | assumption) (by first | rfl | assumption) (by rfl) (by rfl) ?_)) | ((with_reducible show Option.bind (xRi _ _ _ _) _ = _); (first | refine c_ri (by first | omega | assumption) (by first | rfl | assumption) (by first | rfl | assumption) (by with_reducible rfl) (by first | omega | ((conv => rhs; whnf); first | omega | (show _ < OfNat.ofNat (α := Nat) _; omega))) (by first | omega | ((conv => lhs; whnf); first | omega | (show OfNat.ofNat (α := Nat) _ < _; omega))) (by decide) ?_)) | ((with_reducible show Option.bind (xRl _ _ _) _ = _); (first | refine c_rl (by first | omega | assumption) (by first | rfl | assumption) (by with_reducible rfl) (by first | omega | ((conv => rhs; whnf); first | omega | (show _ < OfNat.ofNat (α := Nat) _; omega))) (by first | omega | ((conv => lhs; whnf); first | omega | (show OfNat.ofNat (α := Nat) _ < _; omega))) ?_)) | ((with_reducible show Option.bind (xP _ _ _ _ _ _ (.int _)) _ = _); (first | refine c_pi (by first | omega | assumption) (by first | rfl | assumption) (by rfl) (by rfl) (xPok_int (by decide) (by rfl)) ?_)) | ((with_reducible show Option.bind (xWi _ _ _ _) _ = _); (first | refine c_wi (by first | omega | assumption) (by first | rfl | assumption) (by first | rfl | assumption) (by with_reducible rfl) (by first | omega | ((conv => rhs; whnf); first | omega | (show _ < OfNat.ofNat (α := Nat) _; omega))) (by first | omega | ((conv => lhs; whnf); first | omega | (show OfNat.ofNat (α := Nat) _ < _; omega))) ?_)) | ((with_reducible show Option.bind (xWl _ _ _ _) _ = _); (first | refine c_wl (by first | omega | assumption) (by first | rfl | assumption) (by with_reducible rfl) (by first | omega | ((conv => rhs; whnf); first | omega | (show _ < OfNat.ofNat (α := Nat) _; omega))) (by first | omega | ((conv => lhs; whnf); first | omega | (show OfNat.ofNat (α := Nat) _ < _; omega))) ?_)) | ((with_reducible show Option.bind (xRz _ _) _ = _); (first | refine c_rz (by first | omega | assumption) (by first | rfl | assumption) (by first | assumption | rfl) ?_)) | ((with_reducible show Option.bind (xGl _ _ _ _) _ = _); (first | refine c_gl (by first | omega | assumption) (by first | rfl | assumption) (by rfl) (by rfl) ?_ | refine c_gw (by first | omega | assumption) (by first | rfl | assumption) (by rfl) (by rfl) ?_)) | (with_reducible refine c_qV (j1) ?_) | (with_reducible refine c_nz ?_) | ((with_reducible refine c_ift ?_ ?_); (focus (first | assumption | omega | (simp (disch := omega) only [n_lit, nI_add, pk_mul, pk_sub, n_div, sub_dm, Int32.toInt_toInt64, nI_toInt, sI_ne, sI_eq, sI_2, sL_1, sL_ne, sL_eq, sL_3, sR_1, sR_2, sR_ne, sR_eq, aI_ne, aI_eq, aI_2, aL_1, aL_ne, aL_eq, aL_3, Nat.add_zero, Nat.zero_add, Nat.reduceAdd, Nat.reduceMul, Nat.reduceSub, Nat.mul_zero, Nat.zero_mul, nI_ltI, nI_leI, nI_eq, bz_0, bz_1, t_0, decide_eq_false_iff_not, decide_eq_true_eq, Bool.and_eq_true, Bool.and_eq_false_imp, Bool.not_eq_true, Bool.not_eq_false, eq_self, not_true_eq_false, not_false_eq_true, reduceCtorEq, c2, c3]; (try omega); done) | fail))) | ((with_reducible refine c_iff ?_ ?_); (focus (first | assumption | omega | (simp (disch := omega) only [n_lit, nI_add, pk_mul, pk_sub, n_div, sub_dm, Int32.toInt_toInt64, nI_toInt, sI_ne, sI_eq, sI_2, sL_1, sL_ne, sL_eq, sL_3, sR_1, sR_2, sR_ne, sR_eq, aI_ne, aI_eq, aI_2, aL_1, aL_ne, aL_eq, aL_3, Nat.add_zero, Nat.zero_add, Nat.reduceAdd, Nat.reduceMul, Nat.reduceSub, Nat.mul_zero, Nat.zero_mul, nI_ltI, nI_leI, nI_eq, bz_0, bz_1, t_0, decide_eq_false_iff_not, decide_eq_true_eq, Bool.and_eq_true, Bool.and_eq_false_imp, Bool.not_eq_true, Bool.not_eq_false, eq_self, not_true_eq_false, not_false_eq_true, reduceCtorEq, c2, c3]; (try omega); done) | fail))) | simp (disch := omega) only [n_lit, nI_add, pk_mul, pk_sub, n_div, sub_dm, Int32.toInt_toInt64, nI_toInt, sI_ne, sI_eq, sI_2, sL_1, sL_ne, sL_eq, sL_3, sR_1, sR_2, sR_ne, sR_eq, aI_ne, aI_eq, aI_2, aL_1, aL_ne, aL_eq, aL_3, Nat.add_zero, Nat.zero_add, Nat.reduceAdd, Nat.reduceMul, Nat.reduceSub, Nat.mul_zero, Nat.zero_mul, c2, c3])
        rw [xc]
        refine c_qV k1 ?_
        repeat (first | (with_reducible refine c_let ?_) | ((with_reducible refine c_ob ?_ ?_ ?_); (focus (first | omega | assumption)); (focus (first | rfl | assumption))) | ((with_reducible show Option.bind (xGr _ _ _ _) _ = _); (first | refine c_gr (by first | omega | assumption) (by first | rfl | assumption) (by rfl) (by rfl) ?_)) | ((with_reducible show Option.bind (xGi _ _ _ _) _ = _); (first | refine c_gi (by first | omega | assumption) (by first | rfl | assumption) (by rfl) (by rfl) ?_ | refine c_gW (by first | omega | assumption) (by first | rfl | assumption) (by rfl) (by rfl) ?_ | refine c_gH (by first | omega | assumption) (by first | rfl | assumption) (by rfl) (by rfl) ?_ | refine c_gA (by first | omega | assumption) (by first | rfl | assumption) (by rfl) (by rfl) ?_ | refine c_gb (by first | omega | assumption) (by first | rfl | assumption) (by rfl) (by rfl) ?_)) | ((with_reducible show Option.bind (xRi _ _ _ _) _ = _); (first | refine c_ri (by first | omega | assumption) (by first | rfl | assumption) (by first | rfl | assumption) (by with_reducible rfl) (by first | omega | ((conv => rhs; whnf); first | omega | (show _ < OfNat.ofNat (α := Nat) _; omega))) (by first | omega | ((conv => lhs; whnf); first | omega | (show OfNat.ofNat (α := Nat) _ < _; omega))) (by decide) ?_)) | ((with_reducible show Option.bind (xRl _ _ _) _ = _); (first | refine c_rl (by first | omega | assumption) (by first | rfl | assumption) (by with_reducible rfl) (by first | omega | ((conv => rhs; whnf); first | omega | (show _ < OfNat.ofNat (α := Nat) _; omega))) (by first | omega | ((conv => lhs; whnf); first | omega | (show OfNat.ofNat (α := Nat) _ < _; omega))) ?_)) | ((with_reducible show Option.bind (xP _ _ _ _ _ _ (.int _)) _ = _); (first | refine c_pi (by first | omega | assumption) (by first | rfl | assumption) (by rfl) (by rfl) (xPok_int (by decide) (by rfl)) ?_)) | ((with_reducible show Option.bind (xWi _ _ _ _) _ = _); (first | refine c_wi (by first | omega | assumption) (by first | rfl | assumption) (by first | rfl | assumption) (by with_reducible rfl) (by first | omega | ((conv => rhs; whnf); first | omega | (show _ < OfNat.ofNat (α := Nat) _; omega))) (by first | omega | ((conv => lhs; whnf); first | omega | (show OfNat.ofNat (α := Nat) _ < _; omega))) ?_)) | ((with_reducible show Option.bind (xWl _ _ _ _) _ = _); (first | refine c_wl (by first | omega | assumption) (by first | rfl | assumption) (by with_reducible rfl) (by first | omega | ((conv => rhs; whnf); first | omega | (show _ < OfNat.ofNat (α := Nat) _; omega))) (by first | omega | ((conv => lhs; whnf); first | omega | (show OfNat.ofNat (α := Nat) _ < _; omega))) ?_)) | ((with_reducible show Option.bind (xRz _ _) _ = _); (first | refine c_rz (by first | omega | assumption) (by first | rfl | assumption) (by first | assumption | rfl) ?_)) | ((with_reducible show Option.bind (xGl _ _ _ _) _ = _); (first | refine c_gl (by first | omega | assumption) (by first | rfl | assumption) (by rfl) (by rfl) ?_ | refine c_gw (by first | omega | assumption) (by first | rfl | assumption) (by rfl) (by rfl) ?_)) | (with_reducible refine c_nz ?_) | ((with_reducible refine c_ift ?_ ?_); (focus (first | assumption | omega | (simp (disch := omega) only [n_lit, nI_add, pk_mul, pk_sub, n_div, sub_dm, Int32.toInt_toInt64, nI_toInt, sI_ne, sI_eq, sI_2, sL_1, sL_ne, sL_eq, sL_3, sR_1, sR_2, sR_ne, sR_eq, aI_ne, aI_eq, aI_2, aL_1, aL_ne, aL_eq, aL_3, Nat.add_zero, Nat.zero_add, Nat.reduceAdd, Nat.reduceMul, Nat.reduceSub, Nat.mul_zero, Nat.zero_mul, nI_ltI, nI_leI, nI_eq, bz_0, bz_1, t_0, decide_eq_false_iff_not, decide_eq_true_eq, Bool.and_eq_true, Bool.and_eq_false_imp, Bool.not_eq_true, Bool.not_eq_false, eq_self, not_true_eq_false, not_false_eq_true, reduceCtorEq]; (try omega); done) | fail))) | ((with_reducible refine c_iff ?_ ?_); (focus (first | assumption | omega | (simp (disch := omega) only [n_lit, nI_add, pk_mul, pk_sub, n_div, sub_dm, Int32.toInt_toInt64, nI_toInt, sI_ne, sI_eq, sI_2, sL_1, sL_ne, sL_eq, sL_3, sR_1, sR_2, sR_ne, sR_eq, aI_ne, aI_eq, aI_2, aL_1, aL_ne, aL_eq, aL_3, Nat.add_zero, Nat.zero_add, Nat.reduceAdd, Nat.reduceMul, Nat.reduceSub, Nat.mul_zero, Nat.zero_mul, nI_ltI, nI_leI, nI_eq, bz_0, bz_1, t_0, decide_eq_false_iff_not, decide_eq_true_eq, Bool.and_eq_true, Bool.and_eq_false_imp, Bool.not_eq_true, Bool.not_eq_false, eq_self, not_true_eq_false, not_false_eq_true, reduceCtorEq]; (try omega); done) | fail))) | simp (disch := omega) only [n_lit, nI_add, pk_mul, pk_sub, n_div, sub_dm, Int32.toInt_toInt64, nI_toInt, sI_ne, sI_eq, sI_2, sL_1, sL_ne, sL_eq, sL_3, sR_1, sR_2, sR_ne, sR_eq, aI_ne, aI_eq, aI_2, aL_1, aL_ne, aL_eq, aL_3, Nat.add_zero, Nat.zero_add, Nat.reduceAdd, Nat.reduceMul, Nat.reduceSub, Nat.mul_zero, Nat.zero_mul])
        exact ho
  · obtain ⟨h1, h2⟩ := hs
    have c2 := (cfX_pr C h2).2.1
    refine ⟨s, ⟨h1, h2⟩, fun o ho => w_X2_describe_2 S _ _ _ _ _ ?_⟩
    repeat (first | (with_reducible refine c_let ?_) | ((with_reducible refine c_ob ?_ ?_ ?_); (focus (first | omega | assumption)); (focus (first | rfl | assumption))) | ((with_reducible show Option.bind (xGr _ _ _ _) _ = _); (first | refine c_gr (by first | omega | assumption) (by first | rfl | assumption) (by rfl) (by rfl) ?_)) | ((with_reducible show Option.bind (xGi _ _ _ _) _ = _); (first | refine c_gi (by first | omega | assumption) (by first | rfl | assumption) (by rfl) (by rfl) ?_ | refine c_gW (by first | omega | assumption) (by first | rfl | assumption) (by rfl) (by rfl) ?_ | refine c_gH (by first | omega | assumption) (by first | rfl | assumption) (by rfl) (by rfl) ?_ | refine c_gA (by first | omega | assumption) (by first | rfl | assumption) (by rfl) (by rfl) ?_ | refine c_gb (by first | omega | assumption) (by first | rfl | assumption) (by rfl) (by rfl) ?_)) | ((with_reducible show Option.bind (xRi _ _ _ _) _ = _); (first | refine c_ri (by first | omega | assumption) (by first | rfl | assumption) (by first | rfl | assumption) (by with_reducible rfl) (by first | omega | ((conv => rhs; whnf); first | omega | (show _ < OfNat.ofNat (α := Nat) _; omega))) (by first | omega | ((conv => lhs; whnf); first | omega | (show OfNat.ofNat (α := Nat) _ < _; omega))) (by decide) ?_)) | ((with_reducible show Option.bind (xRl _ _ _) _ = _); (first | refine c_rl (by first | omega | assumption) (by first | rfl | assumption) (by with_reducible rfl) (by first | omega | ((conv => rhs; whnf); first | omega | (show _ < OfNat.ofNat (α := Nat) _; omega))) (by first | omega | ((conv => lhs; whnf); first | omega | (show OfNat.ofNat (α := Nat) _ < _; omega))) ?_)) | ((with_reducible show Option.bind (xP _ _ _ _ _ _ (.int _)) _ = _); (first | refine c_pi (by first | omega | assumption) (by first | rfl | assumption) (by rfl) (by rfl) (xPok_int (by decide) (by rfl)) ?_)) | ((with_reducible show Option.bind (xWi _ _ _ _) _ = _); (first | refine c_wi (by first | omega | assumption) (by first | rfl | assumption) (by first | rfl | assumption) (by with_reducible rfl) (by first | omega | ((conv => rhs; whnf); first | omega | (show _ < OfNat.ofNat (α := Nat) _; omega))) (by first | omega | ((conv => lhs; whnf); first | omega | (show OfNat.ofNat (α := Nat) _ < _; omega))) ?_)) | ((with_reducible show Option.bind (xWl _ _ _ _) _ = _); (first | refine c_wl (by first | omega | assumption) (by first | rfl | assumption) (by with_reducible rfl) (by first | omega | ((conv => rhs; whnf); first | omega | (show _ < OfNat.ofNat (α := Nat) _; omega))) (by first | omega | ((conv => lhs; whnf); first | omega | (show OfNat.ofNat (α := Nat) _ < _; omega))) ?_)) | ((with_reducible show Option.bind (xRz _ _) _ = _); (first | refine c_rz (by first | omega | assumption) (by first | rfl | assumption) (by first | assumption | rfl) ?_)) | ((with_reducible show Option.bind (xGl _ _ _ _) _ = _); (first | refine c_gl (by first | omega | assumption) (by first | rfl | assumption) (by rfl) (by rfl) ?_ | refine c_gw (by first | omega | assumption) (by first | rfl | assumption) (by rfl) (by rfl) ?_)) | (with_reducible refine c_nz ?_) | ((with_reducible refine c_ift ?_ ?_); (focus (first | assumption | omega | (simp (disch := omega) only [n_lit, nI_add, pk_mul, pk_sub, n_div, sub_dm, Int32.toInt_toInt64, nI_toInt, sI_ne, sI_eq, sI_2, sL_1, sL_ne, sL_eq, sL_3, sR_1, sR_2, sR_ne, sR_eq, aI_ne, aI_eq, aI_2, aL_1, aL_ne, aL_eq, aL_3, Nat.add_zero, Nat.zero_add, Nat.reduceAdd, Nat.reduceMul, Nat.reduceSub, Nat.mul_zero, Nat.zero_mul, nI_ltI, nI_leI, nI_eq, bz_0, bz_1, t_0, decide_eq_false_iff_not, decide_eq_true_eq, Bool.and_eq_true, Bool.and_eq_false_imp, Bool.not_eq_true, Bool.not_eq_false, eq_self, not_true_eq_false, not_false_eq_true, reduceCtorEq, c2]; (try omega); done) | fail))) | ((with_reducible refine c_iff ?_ ?_); (focus (first | assumption | omega | (simp (disch := omega) only [n_lit, nI_add, pk_mul, pk_sub, n_div, sub_dm, Int32.toInt_toInt64, nI_toInt, sI_ne, sI_eq, sI_2, sL_1, sL_ne, sL_eq, sL_3, sR_1, sR_2, sR_ne, sR_eq, aI_ne, aI_eq, aI_2, aL_1, aL_ne, aL_eq, aL_3, Nat.add_zero, Nat.zero_add, Nat.reduceAdd, Nat.reduceMul, Nat.reduceSub, Nat.mul_zero, Nat.zero_mul, nI_ltI, nI_leI, nI_eq, bz_0, bz_1, t_0, decide_eq_false_iff_not, decide_eq_true_eq, Bool.and_eq_true, Bool.and_eq_false_imp, Bool.not_eq_true, Bool.not_eq_false, eq_self, not_true_eq_false, not_false_eq_true, reduceCtorEq, c2]; (try omega); done) | fail))) | simp (disch := omega) only [n_lit, nI_add, pk_mul, pk_sub, n_div, sub_dm, Int32.toInt_toInt64, nI_toInt, sI_ne, sI_eq, sI_2, sL_1, sL_ne, sL_eq, sL_3, sR_1, sR_2, sR_ne, sR_eq, aI_ne, aI_eq, aI_2, aL_1, aL_ne, aL_eq, aL_3, Nat.add_zero, Nat.zero_add, Nat.reduceAdd, Nat.reduceMul, Nat.reduceSub, Nat.mul_zero, Nat.zero_mul, c2])
    exact ho
theorem cconfChar_in (C : cfX m 34 2 35 36 Z) (O : cfO Z) (hi : i < 2147483648) : ∃ m', xM S mX12_configChar [.ref 0, .int (nI i)] (E W H n m) = some (.inl (some (.int ((cfTx Z Z.2.1).getD i (-1)))), E W H n m', 0, 0) ∧ fr prP m m' := by
  obtain ⟨m1, k1, k2, k3⟩ := seek_s (S := S) (W := W) (H := H) (n := n) (m := m) i
  obtain ⟨m2, j1, j2, j3⟩ := describe_s (S := S) (W := W) (H := H) (n := n) (cfX_pr C k3) O k2 hi
  have fo := found_s (S := S) (W := W) (H := H) (n := n) j2
  refine ⟨m2, w_X12_configChar S _ _ _ _ ?_, fr_tr k3 j3⟩
  refine c_ift ((i_le0 _).mpr (by rw [nI_toInt hi]; omega)) ?_
  refine c_gr (by omega) (by rfl) (by rfl) (by rfl) ?_
  refine c_ob (by omega) (by rfl) ?_
  refine c_qV k1 ?_
  refine c_gr (by omega) (by rfl) (by rfl) (by rfl) ?_
  refine c_gr (by omega) (by rfl) (by rfl) (by rfl) ?_
  refine c_ob (by omega) (by rfl) ?_
  refine c_qV j1 ?_
  refine c_gr (by omega) (by rfl) (by rfl) (by rfl) ?_
  refine c_ob (by omega) (by rfl) ?_
  refine c_qI fo ?_
  rfl
theorem cconfChar_out {x : Int32} (h : ¬ 0 ≤ x.toInt) : xM S mX12_configChar [.ref 0, .int x] (E W H n m) = some (.inr sIO, E W H n m, 1, 6) := by
  refine w_X12_configChar S _ _ _ _ ?_
  refine c_iff (fun q => h ((i_le0 x).mp q)) ?_
  rfl
/-! the model -/
def cfM (m : mM) (Z : ((Nat → Nat) × Nat × (Nat → Nat))) : Prop := cfX m 90 16 98 99 Z
theorem cfM_ou {b : Nat} {m' : mM} (C : cfM m Z) (F : fr (ouP b) m m') : cfM m' Z := ⟨fun i hi => by rw [fr_i F 98 i rfl]; exact C.1 i hi, by rw [fr_i F 90 16 rfl]; exact C.2.1, fun i hi => by rw [fr_i F 99 i rfl]; exact C.2.2 i hi⟩
theorem fw_w {s : Nat} (hs : s < 10) (w : isW s = true) (h : xH) : xM S mX13_firstWord [.int (nI s)] h = some (.inl (some (.int (nI (fwN s)))), h, 0, 0) := by
  refine w_X13_firstWord S _ _ _ ?_
  unfold isW at w
  unfold fwN
  rw [Bool.or_eq_true, Bool.or_eq_true, beq_iff_eq, beq_iff_eq, beq_iff_eq] at w
  rcases w with rfl | rfl | rfl
  · refine c_iff (fun q => q rfl) ?_
    rfl
  · refine c_ift (by decide) ?_
    refine c_iff (fun q => q rfl) ?_
    rfl
  · refine c_ift (by decide) ?_
    refine c_ift (by decide) ?_
    refine c_iff (fun q => q rfl) ?_
    rfl
theorem fw_n {s : Nat} (hs : s < 10) (w : isW s = false) (h : xH) : xM S mX13_firstWord [.int (nI s)] h = some (.inl (some (.int (-1))), h, 0, 0) := by
  have s6 : ¬ s = 6 ∧ ¬ s = 7 ∧ ¬ s = 9 := by
    unfold isW at w
    rw [Bool.or_eq_false_iff, Bool.or_eq_false_iff, beq_eq_false_iff_ne, beq_eq_false_iff_ne, beq_eq_false_iff_ne] at w
    exact ⟨w.1, w.2.1, w.2.2⟩
  refine w_X13_firstWord S _ _ _ ?_
  refine c_ift (fun q => s6.1 ((nI_eq (b := 6) (by omega) (by decide)).mp q)) ?_
  refine c_ift (fun q => s6.2.1 ((nI_eq (b := 7) (by omega) (by decide)).mp q)) ?_
  refine c_ift (fun q => s6.2.2 ((nI_eq (b := 9) (by omega) (by decide)).mp q)) ?_
  rfl
/-- one setting told: from its name on -/
theorem mdescOne_s {s k : Nat} {a b : Int32} (C : cfM m Z) (O : cfO Z) (R : cfR Z) (I : ouI m 20000 l) (hl : l.length < 10000) (hk : k < Z.2.1) (hs : Z.2.2 k = s) (h10 : s < 10) : ∃ m', ouI m' 20000 (l ++ cfOne Z s) ∧ fr (ouP 20000) m m' ∧ ∀ {o' : xO}, xden S mX13_configChar 32 [(0, .ref 90), (1, .int a), (2, .int b), (3, .int (20000 : Int32)), (4, .int (nI (k + 1)))] [] (E W H n m') = some o' → ((xGr (E W H n m) 90 12 17).bind fun v7 => (xGr (E W H n m) 90 12 15).bind fun v8 => (xRi (E W H n m) 0 v8 (nI k)).bind fun v9 => if xOb (E W H n m) 90 12 = true then xqV (xM S mX13_tellsWord [.ref 90, .ref v7, .int v9] (E W H n m)) xth fun h11 => if xOb h11 90 12 = true then xqV (xM S mX13_tells [.ref 90, .int (61 : Int32)] h11) xth fun h14 => (xGr h14 90 12 15).bind fun v16 => (xRi h14 0 v16 (nI k)).bind fun v17 => xqI (xM S mX13_firstWord [.int v17] h14) xth fun v19 h18 => if v19 < 0 then ((xGr h18 90 12 14).bind fun v20 => (xGr h18 90 12 15).bind fun v21 => (xRi h18 0 v21 (nI k)).bind fun v22 => (xRi h18 0 v20 v22).bind fun v23 => if xOb h18 90 12 = true then xqV (xM S mX13_tellsNumber [.ref 90, .int v23] h18) xth fun h25 => xlet ((nI k) + (1 : Int32)) fun v27 => (xden S mX13_configChar 32 [(0, .ref 90), (1, .int a), (2, .int b), (3, .int (20000 : Int32)), (4, .int v27)] [] h25) else none) else ((xGr h18 90 12 18).bind fun v28 => (xGr h18 90 12 14).bind fun v29 => (xGr h18 90 12 15).bind fun v30 => (xRi h18 0 v30 (nI k)).bind fun v31 => (xRi h18 0 v29 v31).bind fun v32 => if xOb h18 90 12 = true then xqV (xM S mX13_tellsWord [.ref 90, .ref v28, .int (v19 + v32)] h18) xth fun h34 => xlet ((nI k) + (1 : Int32)) fun v36 => (xden S mX13_configChar 32 [(0, .ref 90), (1, .int a), (2, .int b), (3, .int (20000 : Int32)), (4, .int v36)] [] h34) else none) else none else none) = some o' := by
  obtain ⟨b1, b2, b3, b4, b5, b6, b7⟩ := cfW_len s h10
  have g10 := O.1
  have hv := O.2.1 s h10
  have z99 : 10 = eL H 99 := rfl
  have z98 : 10 = eL H 98 := rfl
  have e0 := C.2.2 k hk
  rw [hs] at e0
  obtain ⟨m1, k1, k2, k3⟩ := tellsWord_s (S := S) (W := W) (H := H) (n := n) (m := m) (wdT_n H) h10 I (by omega)
  rw [b6] at k2
  obtain ⟨m2, j1, j2, j3⟩ := tells_s (S := S) (W := W) (H := H) (n := n) k2 (by rw [List.length_append]; omega) (nI 61)
  have C2 := cfM_ou (cfM_ou C k3) j3
  have e2 := C2.2.2 k hk
  rw [hs] at e2
  have ev := C2.1 s h10
  have l2 : (l ++ xSB (nmW s - 20) ++ [nI 61]).length < 15000 := by
    rw [List.length_append, List.length_append]
    show _ + _ + 1 < _
    omega
  have eo : l ++ cfOne Z s = l ++ xSB (nmW s - 20) ++ [nI 61] ++ cfW Z s := by unfold cfOne; rw [← List.append_assoc, ← List.append_assoc]
  rw [eo]
  unfold cfW
  cases w : isW s
  · rw [if_neg (show ¬ false = true by decide)]
    have fw := fw_n (S := S) h10 w (E W H n m2)
    obtain ⟨m3, g1, g2, g3⟩ := tellsNumber_s (S := S) (W := W) (H := H) (n := n) j2 (by omega) (x := nI (Z.1 s)) (z := (Z.1 s : Int)) (nI_toInt (by omega)) (by omega) (by omega)
    refine ⟨m3, g2, fr_tr k3 (fr_tr j3 g3), fun {o'} ho => ?_⟩
    have q1 : (-1 : Int32) < nI 0 := by decide
    repeat (first | (with_reducible refine c_let ?_) | ((with_reducible refine c_ob ?_ ?_ ?_); (focus (first | omega | assumption)); (focus (first | rfl | assumption))) | ((with_reducible show Option.bind (xGr _ _ _ _) _ = _); (first | refine c_gr (by first | omega | assumption) (by first | rfl | assumption) (by rfl) (by rfl) ?_)) | ((with_reducible show Option.bind (xGi _ _ _ _) _ = _); (first | refine c_gi (by first | omega | assumption) (by first | rfl | assumption) (by rfl) (by rfl) ?_ | refine c_gW (by first | omega | assumption) (by first | rfl | assumption) (by rfl) (by rfl) ?_ | refine c_gH (by first | omega | assumption) (by first | rfl | assumption) (by rfl) (by rfl) ?_ | refine c_gA (by first | omega | assumption) (by first | rfl | assumption) (by rfl) (by rfl) ?_ | refine c_gb (by first | omega | assumption) (by first | rfl | assumption) (by rfl) (by rfl) ?_)) | ((with_reducible show Option.bind (xRi _ _ _ _) _ = _); (first | refine c_ri (by first | omega | assumption) (by first | rfl | assumption) (by first | rfl | assumption) (by with_reducible rfl) (by first | omega | ((conv => rhs; whnf); first | omega | (show _ < OfNat.ofNat (α := Nat) _; omega))) (by first | omega | ((conv => lhs; whnf); first | omega | (show OfNat.ofNat (α := Nat) _ < _; omega))) (by decide) ?_)) | ((with_reducible show Option.bind (xRl _ _ _) _ = _); (first | refine c_rl (by first | omega | assumption) (by first | rfl | assumption) (by with_reducible rfl) (by first | omega | ((conv => rhs; whnf); first | omega | (show _ < OfNat.ofNat (α := Nat) _; omega))) (by first | omega | ((conv => lhs; whnf); first | omega | (show OfNat.ofNat (α := Nat) _ < _; omega))) ?_)) | ((with_reducible show Option.bind (xP _ _ _ _ _ _ (.int _)) _ = _); (first | refine c_pi (by first | omega | assumption) (by first | rfl | assumption) (by rfl) (by rfl) (xPok_int (by decide) (by rfl)) ?_)) | ((with_reducible show Option.bind (xWi _ _ _ _) _ = _); (first | refine c_wi (by first | omega | assumption) (by first | rfl | assumption) (by first | rfl | assumption) (by with_reducible rfl) (by first | omega | ((conv => rhs; whnf); first | omega | (show _ < OfNat.ofNat (α := Nat) _; omega))) (by first | omega | ((conv => lhs; whnf); first | omega | (show OfNat.ofNat (α := Nat) _ < _; omega))) ?_)) | ((with_reducible show Option.bind (xWl _ _ _ _) _ = _); (first | refine c_wl (by first | omega | assumption) (by first | rfl | assumption) (by with_reducible rfl) (by first | omega | ((conv => rhs; whnf); first | omega | (show _ < OfNat.ofNat (α := Nat) _; omega))) (by first | omega | ((conv => lhs; whnf); first | omega | (show OfNat.ofNat (α := Nat) _ < _; omega))) ?_)) | ((with_reducible show Option.bind (xRz _ _) _ = _); (first | refine c_rz (by first | omega | assumption) (by first | rfl | assumption) (by first | assumption | rfl) ?_)) | ((with_reducible show Option.bind (xGl _ _ _ _) _ = _); (first | refine c_gl (by first | omega | assumption) (by first | rfl | assumption) (by rfl) (by rfl) ?_ | refine c_gw (by first | omega | assumption) (by first | rfl | assumption) (by rfl) (by rfl) ?_)) | (with_reducible refine c_qV (k1) ?_) | (with_reducible refine c_qV (j1) ?_) | (with_reducible refine c_qI (fw) ?_) | (with_reducible refine c_qV (g1) ?_) | (with_reducible refine c_nz ?_) | ((with_reducible refine c_ift ?_ ?_); (focus exact q1)) | ((with_reducible refine c_ift ?_ ?_); (focus (first | assumption | omega | (simp (disch := omega) only [n_lit, nI_add, pk_mul, pk_sub, n_div, sub_dm, Int32.toInt_toInt64, nI_toInt, sI_ne, sI_eq, sI_2, sL_1, sL_ne, sL_eq, sL_3, sR_1, sR_2, sR_ne, sR_eq, aI_ne, aI_eq, aI_2, aL_1, aL_ne, aL_eq, aL_3, Nat.add_zero, Nat.zero_add, Nat.reduceAdd, Nat.reduceMul, Nat.reduceSub, Nat.mul_zero, Nat.zero_mul, nI_ltI, nI_leI, nI_eq, bz_0, bz_1, t_0, decide_eq_false_iff_not, decide_eq_true_eq, Bool.and_eq_true, Bool.and_eq_false_imp, Bool.not_eq_true, Bool.not_eq_false, eq_self, not_true_eq_false, not_false_eq_true, reduceCtorEq, e0, e2, ev]; (try omega); done) | fail))) | ((with_reducible refine c_iff ?_ ?_); (focus (first | assumption | omega | (simp (disch := omega) only [n_lit, nI_add, pk_mul, pk_sub, n_div, sub_dm, Int32.toInt_toInt64, nI_toInt, sI_ne, sI_eq, sI_2, sL_1, sL_ne, sL_eq, sL_3, sR_1, sR_2, sR_ne, sR_eq, aI_ne, aI_eq, aI_2, aL_1, aL_ne, aL_eq, aL_3, Nat.add_zero, Nat.zero_add, Nat.reduceAdd, Nat.reduceMul, Nat.reduceSub, Nat.mul_zero, Nat.zero_mul, nI_ltI, nI_leI, nI_eq, bz_0, bz_1, t_0, decide_eq_false_iff_not, decide_eq_true_eq, Bool.and_eq_true, Bool.and_eq_false_imp, Bool.not_eq_true, Bool.not_eq_false, eq_self, not_true_eq_false, not_false_eq_true, reduceCtorEq, e0, e2, ev]; (try omega); done) | fail))) | simp (disch := omega) only [n_lit, nI_add, pk_mul, pk_sub, n_div, sub_dm, Int32.toInt_toInt64, nI_toInt, sI_ne, sI_eq, sI_2, sL_1, sL_ne, sL_eq, sL_3, sR_1, sR_2, sR_ne, sR_eq, aI_ne, aI_eq, aI_2, aL_1, aL_ne, aL_eq, aL_3, Nat.add_zero, Nat.zero_add, Nat.reduceAdd, Nat.reduceMul, Nat.reduceSub, Nat.mul_zero, Nat.zero_mul, e0, e2, ev])
    exact ho
  · rw [if_pos rfl]
    have fw := fw_w (S := S) h10 w (E W H n m2)
    obtain ⟨r0, r1⟩ := w_rng s h10 w
    have rv := R s h10
    rw [r0, r1] at rv
    obtain ⟨w1, w2, w3⟩ := cfW_wd s h10 w (Z.1 s) (by omega)
    obtain ⟨m3, g1, g2, g3⟩ := tellsWord_s (S := S) (W := W) (H := H) (n := n) (m := m2) (wdT_v H) w1 j2 (by omega)
    rw [w3] at g2
    refine ⟨m3, g2, fr_tr k3 (fr_tr j3 g3), fun {o'} ho => ?_⟩
    repeat (first | (with_reducible refine c_let ?_) | ((with_reducible refine c_ob ?_ ?_ ?_); (focus (first | omega | assumption)); (focus (first | rfl | assumption))) | ((with_reducible show Option.bind (xGr _ _ _ _) _ = _); (first | refine c_gr (by first | omega | assumption) (by first | rfl | assumption) (by rfl) (by rfl) ?_)) | ((with_reducible show Option.bind (xGi _ _ _ _) _ = _); (first | refine c_gi (by first | omega | assumption) (by first | rfl | assumption) (by rfl) (by rfl) ?_ | refine c_gW (by first | omega | assumption) (by first | rfl | assumption) (by rfl) (by rfl) ?_ | refine c_gH (by first | omega | assumption) (by first | rfl | assumption) (by rfl) (by rfl) ?_ | refine c_gA (by first | omega | assumption) (by first | rfl | assumption) (by rfl) (by rfl) ?_ | refine c_gb (by first | omega | assumption) (by first | rfl | assumption) (by rfl) (by rfl) ?_)) | ((with_reducible show Option.bind (xRi _ _ _ _) _ = _); (first | refine c_ri (by first | omega | assumption) (by first | rfl | assumption) (by first | rfl | assumption) (by with_reducible rfl) (by first | omega | ((conv => rhs; whnf); first | omega | (show _ < OfNat.ofNat (α := Nat) _; omega))) (by first | omega | ((conv => lhs; whnf); first | omega | (show OfNat.ofNat (α := Nat) _ < _; omega))) (by decide) ?_)) | ((with_reducible show Option.bind (xRl _ _ _) _ = _); (first | refine c_rl (by first | omega | assumption) (by first | rfl | assumption) (by with_reducible rfl) (by first | omega | ((conv => rhs; whnf); first | omega | (show _ < OfNat.ofNat (α := Nat) _; omega))) (by first | omega | ((conv => lhs; whnf); first | omega | (show OfNat.ofNat (α := Nat) _ < _; omega))) ?_)) | ((with_reducible show Option.bind (xP _ _ _ _ _ _ (.int _)) _ = _); (first | refine c_pi (by first | omega | assumption) (by first | rfl | assumption) (by rfl) (by rfl) (xPok_int (by decide) (by rfl)) ?_)) | ((with_reducible show Option.bind (xWi _ _ _ _) _ = _); (first | refine c_wi (by first | omega | assumption) (by first | rfl | assumption) (by first | rfl | assumption) (by with_reducible rfl) (by first | omega | ((conv => rhs; whnf); first | omega | (show _ < OfNat.ofNat (α := Nat) _; omega))) (by first | omega | ((conv => lhs; whnf); first | omega | (show OfNat.ofNat (α := Nat) _ < _; omega))) ?_)) | ((with_reducible show Option.bind (xWl _ _ _ _) _ = _); (first | refine c_wl (by first | omega | assumption) (by first | rfl | assumption) (by with_reducible rfl) (by first | omega | ((conv => rhs; whnf); first | omega | (show _ < OfNat.ofNat (α := Nat) _; omega))) (by first | omega | ((conv => lhs; whnf); first | omega | (show OfNat.ofNat (α := Nat) _ < _; omega))) ?_)) | ((with_reducible show Option.bind (xRz _ _) _ = _); (first | refine c_rz (by first | omega | assumption) (by first | rfl | assumption) (by first | assumption | rfl) ?_)) | ((with_reducible show Option.bind (xGl _ _ _ _) _ = _); (first | refine c_gl (by first | omega | assumption) (by first | rfl | assumption) (by rfl) (by rfl) ?_ | refine c_gw (by first | omega | assumption) (by first | rfl | assumption) (by rfl) (by rfl) ?_)) | (with_reducible refine c_qV (k1) ?_) | (with_reducible refine c_qV (j1) ?_) | (with_reducible refine c_qI (fw) ?_) | (with_reducible refine c_qV (g1) ?_) | (with_reducible refine c_nz ?_) | ((with_reducible refine c_ift ?_ ?_); (focus (first | assumption | omega | (simp (disch := omega) only [n_lit, nI_add, pk_mul, pk_sub, n_div, sub_dm, Int32.toInt_toInt64, nI_toInt, sI_ne, sI_eq, sI_2, sL_1, sL_ne, sL_eq, sL_3, sR_1, sR_2, sR_ne, sR_eq, aI_ne, aI_eq, aI_2, aL_1, aL_ne, aL_eq, aL_3, Nat.add_zero, Nat.zero_add, Nat.reduceAdd, Nat.reduceMul, Nat.reduceSub, Nat.mul_zero, Nat.zero_mul, nI_ltI, nI_leI, nI_eq, bz_0, bz_1, t_0, decide_eq_false_iff_not, decide_eq_true_eq, Bool.and_eq_true, Bool.and_eq_false_imp, Bool.not_eq_true, Bool.not_eq_false, eq_self, not_true_eq_false, not_false_eq_true, reduceCtorEq, e0, e2, ev]; (try omega); done) | fail))) | ((with_reducible refine c_iff ?_ ?_); (focus (first | assumption | omega | (simp (disch := omega) only [n_lit, nI_add, pk_mul, pk_sub, n_div, sub_dm, Int32.toInt_toInt64, nI_toInt, sI_ne, sI_eq, sI_2, sL_1, sL_ne, sL_eq, sL_3, sR_1, sR_2, sR_ne, sR_eq, aI_ne, aI_eq, aI_2, aL_1, aL_ne, aL_eq, aL_3, Nat.add_zero, Nat.zero_add, Nat.reduceAdd, Nat.reduceMul, Nat.reduceSub, Nat.mul_zero, Nat.zero_mul, nI_ltI, nI_leI, nI_eq, bz_0, bz_1, t_0, decide_eq_false_iff_not, decide_eq_true_eq, Bool.and_eq_true, Bool.and_eq_false_imp, Bool.not_eq_true, Bool.not_eq_false, eq_self, not_true_eq_false, not_false_eq_true, reduceCtorEq, e0, e2, ev]; (try omega); done) | fail))) | simp (disch := omega) only [n_lit, nI_add, pk_mul, pk_sub, n_div, sub_dm, Int32.toInt_toInt64, nI_toInt, sI_ne, sI_eq, sI_2, sL_1, sL_ne, sL_eq, sL_3, sR_1, sR_2, sR_ne, sR_eq, aI_ne, aI_eq, aI_2, aL_1, aL_ne, aL_eq, aL_3, Nat.add_zero, Nat.zero_add, Nat.reduceAdd, Nat.reduceMul, Nat.reduceSub, Nat.mul_zero, Nat.zero_mul, e0, e2, ev])
    exact ho
def ccP (a j : Nat) : Bool := (a == 106 && decide (20000 ≤ j)) || (a == 90 && (j == 2 || j == 25))
theorem mconfChar_in (C : cfM m Z) (O : cfO Z) (R : cfR Z) (hi : i < 2147483648) : ∃ m', xM S mX13_configChar [.ref 90, .int (nI i)] (E W H n m) = some (.inl (some (.int ((cfTx Z Z.2.1).getD i (-1)))), E W H n m', 0, 0) ∧ m'.1 90 2 = nI 0 ∧ m'.1 90 25 = m.1 90 25 ∧ fr ccP m m' := by
  have g10 := O.1
  have z106 : 40000 = eL H 106 := rfl
  generalize hm1 : sI (sI m 90 2 (nI 0)) 90 25 (nI 20000) = m1
  have F1 : fr (fun a j => a == 90 && (j == 2 || j == 25)) m m1 := by rw [← hm1]; exact fr_sI (fr_sI fr_rf (by rfl)) (by rfl)
  have C1 : cfM m1 Z := ⟨fun i hi => by rw [fr_i F1 98 i rfl]; exact C.1 i hi, by rw [fr_i F1 90 16 rfl]; exact C.2.1, fun i hi => by rw [fr_i F1 99 i rfl]; exact C.2.2 i hi⟩
  have I1 : ouI m1 20000 [] := ⟨by rw [← hm1, sI_eq ⟨rfl, rfl⟩]; rfl, fun i hi => absurd hi (Nat.not_lt_zero i)⟩
  have L := x_sg (σ := mM) (τ := mM) (D := fun k s => xden S mX13_configChar 32 [(0, .ref 90), (1, .int (nI i)), (2, .int (m.1 90 25)), (3, .int (20000 : Int32)), (4, .int (nI k))] [] (E W H n s)) (Inv := fun k s => ouI s 20000 (cfTx Z k) ∧ fr (ouP 20000) m1 s)
    (F := fun s => some (.inl (some (.int ((cfTx Z Z.2.1).getD i (-1)))), E W H n (sI s 90 25 (m.1 90 25)), 0, 0)) (Post := fun s => fr (ouP 20000) m1 s) Z.2.1 (fun k hk s hs => ?_) (fun s hs => ?_) m1 ⟨I1, fr_rf⟩
  · obtain ⟨m', k1, k2⟩ := L
    have k2 := k2 _ rfl
    refine ⟨sI m' 90 25 (m.1 90 25), ?_, by rw [sI_ne (by omega), fr_i k1 90 2 rfl, ← hm1, sI_ne (by omega), sI_eq ⟨rfl, rfl⟩], sI_eq ⟨rfl, rfl⟩, fr_sI (fr_tr (fr_mono F1 (fun a j w => ?_)) (fr_mono k1 (fun a j w => ?_))) (by rfl)⟩
    · refine w_X13_configChar S _ _ _ _ ?_
      refine c_pi (by omega) (by rfl) (by rfl) (by rfl) (xPok_int (by decide) (by rfl)) ?_
      refine c_ift ((i_le0 _).mpr (by rw [nI_toInt hi]; omega)) ?_
      refine c_gi (by omega) (by rfl) (by rfl) (by rfl) ?_
      rw [sI_ne (by omega)]
      refine c_pi (by omega) (by rfl) (by rfl) (by rfl) (xPok_int (by decide) (by rfl)) ?_
      rw [← hm1] at k2
      exact k2
    · unfold ccP at w
      exact (Bool.or_eq_false_iff.mp w).2
    · unfold ccP at w
      unfold ouP
      simp only [Bool.or_eq_false_iff, Bool.and_eq_false_iff, decide_eq_false_iff_not, beq_eq_false_iff_ne, ne_eq] at w ⊢
      omega
  · left
    obtain ⟨h1, h2⟩ := hs
    have C2 := cfM_ou C1 h2
    have c2 := C2.2.1
    have hs10 := O.2.2.1 k hk
    have hl := cfTx_len Z k (fun i hi => O.2.2.1 i (by omega))
    by_cases c : k = 0
    · obtain ⟨m2, k1, k2, k3⟩ := mdescOne_s (S := S) (W := W) (H := H) (n := n) (a := nI i) (b := m.1 90 25) C2 O R h1 (by omega) hk rfl hs10
      refine ⟨m2, ⟨?_, fr_tr h2 k2⟩, fun o ho => w_X13_configChar_32 S _ _ _ _ _ _ _ ?_⟩
      · show ouI m2 20000 (cfTx Z k ++ (if k = 0 then [] else [nI 59]) ++ cfOne Z (Z.2.2 k))
        rw [if_pos c, List.append_nil]
        exact k1
      · refine c_gi (by omega) (by rfl) (by rfl) (by rfl) ?_
        rw [c2]
        refine c_iff (fun q => by have := (nI_leI (by omega) (by omega)).mp q; omega) ?_
        refine c_ift ((nI_leI (b := 0) (by omega) (by omega)).mpr (by omega)) ?_
        exact k3 ho
    · obtain ⟨m0, j1, j2, j3⟩ := tells_s (S := S) (W := W) (H := H) (n := n) h1 (by omega) (nI 59)
      obtain ⟨m2, k1, k2, k3⟩ := mdescOne_s (S := S) (W := W) (H := H) (n := n) (a := nI i) (b := m.1 90 25) (cfM_ou C2 j3) O R j2 (by rw [List.length_append]; show _ + 1 < _; omega) hk rfl hs10
      refine ⟨m2, ⟨?_, fr_tr h2 (fr_tr j3 k2)⟩, fun o ho => w_X13_configChar_32 S _ _ _ _ _ _ _ ?_⟩
      · show ouI m2 20000 (cfTx Z k ++ (if k = 0 then [] else [nI 59]) ++ cfOne Z (Z.2.2 k))
        rw [if_neg c]
        exact k1
      · refine c_gi (by omega) (by rfl) (by rfl) (by rfl) ?_
        rw [c2]
        refine c_iff (fun q => by have := (nI_leI (by omega) (by omega)).mp q; omega) ?_
        refine c_iff (fun q => by have := (nI_leI (b := 0) (by omega) (by omega)).mp q; omega) ?_
        refine c_ob (by omega) (by rfl) ?_
        refine c_qV j1 ?_
        exact k3 ho
  · obtain ⟨h1, h2⟩ := hs
    have c2 := (cfM_ou C1 h2).2.1
    obtain ⟨o1, o2⟩ := h1
    have hl := cfTx_len Z Z.2.1 (fun i hi => O.2.2.1 i hi)
    refine ⟨s, h2, fun o ho => w_X13_configChar_32 S _ _ _ _ _ _ _ ?_⟩
    refine c_gi (by omega) (by rfl) (by rfl) (by rfl) ?_
    rw [c2]
    refine c_ift ((nI_leI (by omega) (by omega)).mpr (Nat.le_refl _)) ?_
    refine c_gi (by omega) (by rfl) (by rfl) (by rfl) ?_
    rw [o1]
    refine c_let ?_
    refine c_pi (by omega) (by rfl) (by rfl) (by rfl) (xPok_int (by decide) (by rfl)) ?_
    rw [show nI (20000 + (cfTx Z Z.2.1).length) - (20000 : Int32) = nI (cfTx Z Z.2.1).length by rw [show (20000 : Int32) = nI 20000 from rfl, pk_sub (by omega), Nat.add_sub_cancel_left]]
    by_cases e : (cfTx Z Z.2.1).length ≤ i
    · rw [getD_big e] at ho
      refine c_ift ((nI_leI (by omega) (by omega)).mpr e) ?_
      exact ho
    · have t := o2 i (by omega)
      rw [getD_in (by omega) (-1) 0] at ho
      refine c_iff (fun q => e ((nI_leI (by omega) (by omega)).mp q)) ?_
      refine c_gr (by omega) (by rfl) (by rfl) (by rfl) ?_
      refine c_ri (i := 20000 + i) (by omega) (by rfl) (by rfl) (nI_add 20000 i) (by first | omega | ((conv => rhs; whnf); first | omega | (show _ < OfNat.ofNat (α := Nat) _; omega))) (by first | omega | ((conv => lhs; whnf); first | omega | (show OfNat.ofNat (α := Nat) _ < _; omega))) (by decide) ?_
      rw [sI_ne (by omega), t]
      exact ho
theorem mconfChar_out {x : Int32} (h : ¬ 0 ≤ x.toInt) : xM S mX13_configChar [.ref 90, .int x] (E W H n m) = some (.inl (some (.int 0)), E W H n (sI m 90 2 (nI 1)), 0, 0) := by
  have nx : ¬ 0 ≤ x := fun q => h ((i_le0 x).mp q)
  refine w_X13_configChar S _ _ _ _ ?_
  refine c_pi (by omega) (by rfl) (by rfl) (by rfl) (xPok_int (by decide) (by rfl)) ?_
  refine c_iff nx ?_
  refine c_ob (by omega) (by rfl) ?_
  refine c_qI (fails_s (nI 1)) ?_
  rw [sI_sI]
end CC

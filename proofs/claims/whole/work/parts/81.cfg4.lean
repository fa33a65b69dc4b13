/-! SETTINGS: the class reads a text whole, and configures -/
theorem va10 (f g : Nat → Int32) (i : Nat) : va_cpy f g 0 0 10 i = if i < 10 then f i else g i := by
  unfold va_cpy
  by_cases c : i < 10
  · rw [if_pos c, if_pos ⟨Nat.zero_le _, by omega⟩, Nat.zero_add, Nat.sub_zero]
  · rw [if_neg c, if_neg (fun q => c (by omega))]
def rdR (q : List (Nat × Int) × Option Nat) (cnt : Nat) : Int32 := match q.2 with
  | none => nI (cnt + q.1.length - 1)
  | some x => -1 - nI x
theorem cd_eq {T : Nat → Nat} {L : Nat} (o : txO T L) {j c : Nat} (hc : c < 1000) : cdA T L j = nI c ↔ j < L ∧ T j = c := by
  unfold cdA
  by_cases h : j < L
  · have := o.2 j h
    rw [if_pos h, nI_eq (by omega) (by omega)]
    exact ⟨fun q => ⟨h, q⟩, fun q => q.2⟩
  · rw [if_neg h]
    refine ⟨fun q => ?_, fun q => absurd q.1 h⟩
    have := congrArg Int32.toInt q
    rw [nI_toInt (by omega), show (-1 : Int32).toInt = -1 from by decide] at this
    omega
theorem m2_m1 {j : Nat} (hj : j < 1000) : (-2 : Int32) - nI j = -1 - nI (j + 1) := by
  rw [fa_eq, Int32.toInt_sub, Int32.toInt_sub, nI_toInt (by omega), nI_toInt (by omega), show (-2 : Int32).toInt = -2 from by decide, show (-1 : Int32).toInt = -1 from by decide, fb_bmod (by omega) (by omega), fb_bmod (by omega) (by omega)]
  omega
section RS
variable {S : xS} {W H n : Nat} {T : Nat → Nat} {L : Nat}
theorem c_cp10 {F : xH → Option xO} {R : Option xO} {m : mM} {a b : Nat} {X : Int32} (ha : a < 147) (hka : eK a = (1, 10)) (hca : eCc a = false) (hb : b < 147) (hkb : eK b = (1, 10)) (hcb : eCc b = false) (hX : X = nI 0) {Q : Int32} (hQ : Q = nI 10) (K : F (E W H n (aI m b (va_cpy (m.1 a) (m.1 b) 0 0 10))) = R) : (xCp (E W H n m) a X b X Q).bind F = R := by
  have la : eL H a = 10 := by unfold eL; rw [hka]; rfl
  have lb : eL H b = 10 := by unfold eL; rw [hkb]; rfl
  exact c_cp (sp := 0) (dp := 0) (q := 10) (by omega) hka hca (by omega) hkb hcb hX hX hQ (by omega) (by omega) (by omega) (by omega) K
theorem apply_s {m : mM} {Z : ((Nat → Nat) × Nat × (Nat → Nat))} (O : cfO Z) (X : cfX m 34 5 37 38 Z) : ∃ m', xM S mX2_applyRead [.ref 34] (E W H n m) = some (.inl none, E W H n m', 0, 0) ∧ cfX m' 34 2 35 36 Z ∧ fr (fun a j => a == 35 || (a == 36 || (a == 34 && j == 2))) m m' := by
  obtain ⟨x1, x2, x3⟩ := X
  have o1 := O.1
  refine ⟨sI (aI (aI m 35 (va_cpy (m.1 37) (m.1 35) 0 0 10)) 36 (va_cpy ((aI m 35 (va_cpy (m.1 37) (m.1 35) 0 0 10)).1 38) ((aI m 35 (va_cpy (m.1 37) (m.1 35) 0 0 10)).1 36) 0 0 10)) 34 2 (nI Z.2.1), w_X2_applyRead S _ _ _ ?_, ⟨fun i hi => ?_, sI_eq ⟨rfl, rfl⟩, fun i hi => ?_⟩, fr_sI (fr_aI (fr_aI fr_rf (fun y => rfl)) (fun y => rfl)) (by rfl)⟩
  · repeat (first | (with_reducible refine c_let ?_) | ((with_reducible refine c_ob ?_ ?_ ?_); (focus (first | omega | assumption)); (focus (first | rfl | assumption))) | ((with_reducible show Option.bind (xGr _ _ _ _) _ = _); (first | refine c_gr (by first | omega | assumption) (by first | rfl | assumption) (by rfl) (by rfl) ?_)) | ((with_reducible show Option.bind (xGi _ _ _ _) _ = _); (first | refine c_gi (by first | omega | assumption) (by first | rfl | assumption) (by rfl) (by rfl) ?_ | refine c_gW (by first | omega | assumption) (by first | rfl | assumption) (by rfl) (by rfl) ?_ | refine c_gH (by first | omega | assumption) (by first | rfl | assumption) (by rfl) (by rfl) ?_ | refine c_gA (by first | omega | assumption) (by first | rfl | assumption) (by rfl) (by rfl) ?_ | refine c_gb (by first | omega | assumption) (by first | rfl | assumption) (by rfl) (by rfl) ?_)) | ((with_reducible show Option.bind (xRi _ _ _ _) _ = _); (first | refine c_ri (by first | omega | assumption) (by first | rfl | assumption) (by first | rfl | assumption) (by with_reducible rfl) (by first | omega | ((conv => rhs; whnf); first | omega | (show _ < OfNat.ofNat (α := Nat) _; omega))) (by first | omega | ((conv => lhs; whnf); first | omega | (show OfNat.ofNat (α := Nat) _ < _; omega))) (by decide) ?_)) | ((with_reducible show Option.bind (xRl _ _ _) _ = _); (first | refine c_rl (by first | omega | assumption) (by first | rfl | assumption) (by with_reducible rfl) (by first | omega | ((conv => rhs; whnf); first | omega | (show _ < OfNat.ofNat (α := Nat) _; omega))) (by first | omega | ((conv => lhs; whnf); first | omega | (show OfNat.ofNat (α := Nat) _ < _; omega))) ?_)) | ((with_reducible show Option.bind (xP _ _ _ _ _ _ (.int _)) _ = _); (first | refine c_pi (by first | omega | assumption) (by first | rfl | assumption) (by rfl) (by rfl) (xPok_int (by decide) (by rfl)) ?_)) | ((with_reducible show Option.bind (xWi _ _ _ _) _ = _); (first | refine c_wi (by first | omega | assumption) (by first | rfl | assumption) (by first | rfl | assumption) (by with_reducible rfl) (by first | omega | ((conv => rhs; whnf); first | omega | (show _ < OfNat.ofNat (α := Nat) _; omega))) (by first | omega | ((conv => lhs; whnf); first | omega | (show OfNat.ofNat (α := Nat) _ < _; omega))) ?_)) | ((with_reducible show Option.bind (xWl _ _ _ _) _ = _); (first | refine c_wl (by first | omega | assumption) (by first | rfl | assumption) (by with_reducible rfl) (by first | omega | ((conv => rhs; whnf); first | omega | (show _ < OfNat.ofNat (α := Nat) _; omega))) (by first | omega | ((conv => lhs; whnf); first | omega | (show OfNat.ofNat (α := Nat) _ < _; omega))) ?_)) | ((with_reducible show Option.bind (xRz _ _) _ = _); (first | refine c_rz (by first | omega | assumption) (by first | rfl | assumption) (by first | assumption | rfl) ?_)) | ((with_reducible show Option.bind (xGl _ _ _ _) _ = _); (first | refine c_gl (by first | omega | assumption) (by first | rfl | assumption) (by rfl) (by rfl) ?_ | refine c_gw (by first | omega | assumption) (by first | rfl | assumption) (by rfl) (by rfl) ?_)) | (with_reducible refine c_nz ?_) | ((with_reducible refine c_ift ?_ ?_); (focus (first | assumption | omega | (simp (disch := omega) only [n_lit, nI_add, pk_mul, pk_sub, n_div, sub_dm, Int32.toInt_toInt64, nI_toInt, sI_ne, sI_eq, sI_2, sL_1, sL_ne, sL_eq, sL_3, sR_1, sR_2, sR_ne, sR_eq, aI_ne, aI_eq, aI_2, aL_1, aL_ne, aL_eq, aL_3, Nat.add_zero, Nat.zero_add, Nat.reduceAdd, Nat.reduceMul, Nat.reduceSub, Nat.mul_zero, Nat.zero_mul, nI_ltI, nI_leI, nI_eq, bz_0, bz_1, t_0, decide_eq_false_iff_not, decide_eq_true_eq, Bool.and_eq_true, Bool.and_eq_false_imp, Bool.not_eq_true, Bool.not_eq_false, eq_self, not_true_eq_false, not_false_eq_true, reduceCtorEq]; (try omega); done) | fail))) | ((with_reducible refine c_iff ?_ ?_); (focus (first | assumption | omega | (simp (disch := omega) only [n_lit, nI_add, pk_mul, pk_sub, n_div, sub_dm, Int32.toInt_toInt64, nI_toInt, sI_ne, sI_eq, sI_2, sL_1, sL_ne, sL_eq, sL_3, sR_1, sR_2, sR_ne, sR_eq, aI_ne, aI_eq, aI_2, aL_1, aL_ne, aL_eq, aL_3, Nat.add_zero, Nat.zero_add, Nat.reduceAdd, Nat.reduceMul, Nat.reduceSub, Nat.mul_zero, Nat.zero_mul, nI_ltI, nI_leI, nI_eq, bz_0, bz_1, t_0, decide_eq_false_iff_not, decide_eq_true_eq, Bool.and_eq_true, Bool.and_eq_false_imp, Bool.not_eq_true, Bool.not_eq_false, eq_self, not_true_eq_false, not_false_eq_true, reduceCtorEq]; (try omega); done) | fail))) | simp (disch := omega) only [n_lit, nI_add, pk_mul, pk_sub, n_div, sub_dm, Int32.toInt_toInt64, nI_toInt, sI_ne, sI_eq, sI_2, sL_1, sL_ne, sL_eq, sL_3, sR_1, sR_2, sR_ne, sR_eq, aI_ne, aI_eq, aI_2, aL_1, aL_ne, aL_eq, aL_3, Nat.add_zero, Nat.zero_add, Nat.reduceAdd, Nat.reduceMul, Nat.reduceSub, Nat.mul_zero, Nat.zero_mul])
    refine c_cp10 (by decide) rfl rfl (by decide) rfl rfl rfl rfl ?_
    refine c_gr (by omega) (by rfl) (by rfl) (by rfl) ?_
    refine c_gr (by omega) (by rfl) (by rfl) (by rfl) ?_
    refine c_cp10 (by decide) rfl rfl (by decide) rfl rfl rfl rfl ?_
    repeat (first | (with_reducible refine c_let ?_) | ((with_reducible refine c_ob ?_ ?_ ?_); (focus (first | omega | assumption)); (focus (first | rfl | assumption))) | ((with_reducible show Option.bind (xGr _ _ _ _) _ = _); (first | refine c_gr (by first | omega | assumption) (by first | rfl | assumption) (by rfl) (by rfl) ?_)) | ((with_reducible show Option.bind (xGi _ _ _ _) _ = _); (first | refine c_gi (by first | omega | assumption) (by first | rfl | assumption) (by rfl) (by rfl) ?_ | refine c_gW (by first | omega | assumption) (by first | rfl | assumption) (by rfl) (by rfl) ?_ | refine c_gH (by first | omega | assumption) (by first | rfl | assumption) (by rfl) (by rfl) ?_ | refine c_gA (by first | omega | assumption) (by first | rfl | assumption) (by rfl) (by rfl) ?_ | refine c_gb (by first | omega | assumption) (by first | rfl | assumption) (by rfl) (by rfl) ?_)) | ((with_reducible show Option.bind (xRi _ _ _ _) _ = _); (first | refine c_ri (by first | omega | assumption) (by first | rfl | assumption) (by first | rfl | assumption) (by with_reducible rfl) (by first | omega | ((conv => rhs; whnf); first | omega | (show _ < OfNat.ofNat (α := Nat) _; omega))) (by first | omega | ((conv => lhs; whnf); first | omega | (show OfNat.ofNat (α := Nat) _ < _; omega))) (by decide) ?_)) | ((with_reducible show Option.bind (xRl _ _ _) _ = _); (first | refine c_rl (by first | omega | assumption) (by first | rfl | assumption) (by with_reducible rfl) (by first | omega | ((conv => rhs; whnf); first | omega | (show _ < OfNat.ofNat (α := Nat) _; omega))) (by first | omega | ((conv => lhs; whnf); first | omega | (show OfNat.ofNat (α := Nat) _ < _; omega))) ?_)) | ((with_reducible show Option.bind (xP _ _ _ _ _ _ (.int _)) _ = _); (first | refine c_pi (by first | omega | assumption) (by first | rfl | assumption) (by rfl) (by rfl) (xPok_int (by decide) (by rfl)) ?_)) | ((with_reducible show Option.bind (xWi _ _ _ _) _ = _); (first | refine c_wi (by first | omega | assumption) (by first | rfl | assumption) (by first | rfl | assumption) (by with_reducible rfl) (by first | omega | ((conv => rhs; whnf); first | omega | (show _ < OfNat.ofNat (α := Nat) _; omega))) (by first | omega | ((conv => lhs; whnf); first | omega | (show OfNat.ofNat (α := Nat) _ < _; omega))) ?_)) | ((with_reducible show Option.bind (xWl _ _ _ _) _ = _); (first | refine c_wl (by first | omega | assumption) (by first | rfl | assumption) (by with_reducible rfl) (by first | omega | ((conv => rhs; whnf); first | omega | (show _ < OfNat.ofNat (α := Nat) _; omega))) (by first | omega | ((conv => lhs; whnf); first | omega | (show OfNat.ofNat (α := Nat) _ < _; omega))) ?_)) | ((with_reducible show Option.bind (xRz _ _) _ = _); (first | refine c_rz (by first | omega | assumption) (by first | rfl | assumption) (by first | assumption | rfl) ?_)) | ((with_reducible show Option.bind (xGl _ _ _ _) _ = _); (first | refine c_gl (by first | omega | assumption) (by first | rfl | assumption) (by rfl) (by rfl) ?_ | refine c_gw (by first | omega | assumption) (by first | rfl | assumption) (by rfl) (by rfl) ?_)) | (with_reducible refine c_nz ?_) | ((with_reducible refine c_ift ?_ ?_); (focus (first | assumption | omega | (simp (disch := omega) only [n_lit, nI_add, pk_mul, pk_sub, n_div, sub_dm, Int32.toInt_toInt64, nI_toInt, sI_ne, sI_eq, sI_2, sL_1, sL_ne, sL_eq, sL_3, sR_1, sR_2, sR_ne, sR_eq, aI_ne, aI_eq, aI_2, aL_1, aL_ne, aL_eq, aL_3, Nat.add_zero, Nat.zero_add, Nat.reduceAdd, Nat.reduceMul, Nat.reduceSub, Nat.mul_zero, Nat.zero_mul, nI_ltI, nI_leI, nI_eq, bz_0, bz_1, t_0, decide_eq_false_iff_not, decide_eq_true_eq, Bool.and_eq_true, Bool.and_eq_false_imp, Bool.not_eq_true, Bool.not_eq_false, eq_self, not_true_eq_false, not_false_eq_true, reduceCtorEq, x2]; (try omega); done) | fail))) | ((with_reducible refine c_iff ?_ ?_); (focus (first | assumption | omega | (simp (disch := omega) only [n_lit, nI_add, pk_mul, pk_sub, n_div, sub_dm, Int32.toInt_toInt64, nI_toInt, sI_ne, sI_eq, sI_2, sL_1, sL_ne, sL_eq, sL_3, sR_1, sR_2, sR_ne, sR_eq, aI_ne, aI_eq, aI_2, aL_1, aL_ne, aL_eq, aL_3, Nat.add_zero, Nat.zero_add, Nat.reduceAdd, Nat.reduceMul, Nat.reduceSub, Nat.mul_zero, Nat.zero_mul, nI_ltI, nI_leI, nI_eq, bz_0, bz_1, t_0, decide_eq_false_iff_not, decide_eq_true_eq, Bool.and_eq_true, Bool.and_eq_false_imp, Bool.not_eq_true, Bool.not_eq_false, eq_self, not_true_eq_false, not_false_eq_true, reduceCtorEq, x2]; (try omega); done) | fail))) | simp (disch := omega) only [n_lit, nI_add, pk_mul, pk_sub, n_div, sub_dm, Int32.toInt_toInt64, nI_toInt, sI_ne, sI_eq, sI_2, sL_1, sL_ne, sL_eq, sL_3, sR_1, sR_2, sR_ne, sR_eq, aI_ne, aI_eq, aI_2, aL_1, aL_ne, aL_eq, aL_3, Nat.add_zero, Nat.zero_add, Nat.reduceAdd, Nat.reduceMul, Nat.reduceSub, Nat.mul_zero, Nat.zero_mul, x2])
    try rfl
  · rw [sI_ne (by omega), aI_ne (by omega), aI_eq rfl, va10, if_pos hi]; exact x1 i hi
  · rw [sI_ne (by omega), aI_eq rfl, va10, if_pos (by omega), aI_ne (by omega)]; exact x3 i hi
theorem read_loop : ∀ f i cnt (m : mM) (Z : ((Nat → Nat) × Nat × (Nat → Nat))), txC m T L → i ≤ L → L < i + f → 3 * cnt ≤ i + 3 → 1 ≤ cnt → cfO Z → cfX m 34 5 37 38 Z → ∃ m', xden S mX2_read 58 [(0, .ref 34), (1, .ref 32), (2, .int (nI L)), (3, .int (nI i)), (4, .int (nI cnt))] [] (E W H n m) = some (.inl (some (.int (rdR (rdS T L f i) cnt))), E W H n m', 0, 0) ∧ cfX m' 34 5 37 38 ((rdS T L f i).1.foldl ntS Z) ∧ cfO ((rdS T L f i).1.foldl ntS Z) ∧ fr nxP m m' := by
  intro f
  induction f with
  | zero => intro i cnt m Z X h1 h2; omega
  | succ f ih =>
    intro i cnt m Z X h1 h2 h3 h4 O C
    have o := X.2.1
    have hL := o.1
    have ep : rdS T L (f + 1) i = if stg T i (en (tS T L) L i) = 10 then ([], some i)
      else if ¬ (en (tS T L) L i < L ∧ T (en (tS T L) L i) = 61) then ([], some (en (tS T L) L i))
      else if vlT T L (stg T i (en (tS T L) L i)) (en (tS T L) L i + 1) (en (tB T L) L (en (tS T L) L i + 1)) < 0 then ([], some (en (tS T L) L i + 1))
      else if L ≤ en (tB T L) L (en (tS T L) L i + 1) then ([(stg T i (en (tS T L) L i), vlT T L (stg T i (en (tS T L) L i)) (en (tS T L) L i + 1) (en (tB T L) L (en (tS T L) L i + 1)))], none)
      else if ¬ T (en (tB T L) L (en (tS T L) L i + 1)) = 59 then ([(stg T i (en (tS T L) L i), vlT T L (stg T i (en (tS T L) L i)) (en (tS T L) L i + 1) (en (tB T L) L (en (tS T L) L i + 1)))], some (en (tB T L) L (en (tS T L) L i + 1)))
      else ((stg T i (en (tS T L) L i), vlT T L (stg T i (en (tS T L) L i)) (en (tS T L) L i + 1) (en (tB T L) L (en (tS T L) L i + 1))) :: (rdS T L f (en (tB T L) L (en (tS T L) L i + 1) + 1)).1, (rdS T L f (en (tB T L) L (en (tS T L) L i + 1) + 1)).2) := rfl
    rw [ep]
    clear ep
    have c80 : ¬ nI 80 < nI cnt := fun q => by
      have := (nI_ltI (by omega) (by omega)).mp q
      omega
    have ed := endOfLetters_s (S := S) (W := W) (H := H) (n := n) X h1
    have ge : i ≤ en (tS T L) L i := en_ge
    have le : en (tS T L) L i ≤ L := en_le h1
    have sl := stg_le (T := T) (i := i) (e := en (tS T L) L i)
    have lg := stg_long (T := T) (i := i) (e := en (tS T L) L i)
    generalize en (tS T L) L i = j at *
    have sn := settingNamed_s (S := S) (W := W) (H := H) (n := n) X ge le
    generalize stg T i j = s at *
    by_cases c0 : s = 10
    · rw [if_pos c0] at sn ⊢
      refine ⟨m, w_X2_read_58 S _ _ _ _ _ _ _ ?_, C, O, fr_rf⟩
      refine c_iff c80 ?_
      refine c_ob (by omega) (by rfl) ?_
      refine c_qI ed ?_
      refine c_qM0 sn ?_
      rfl
    · rw [if_neg c0] at sn ⊢
      have s10 : s < 10 := by omega
      have lg := lg c0
      obtain ⟨a1, a2, a3, a4, a5, a6, _⟩ := st_all s s10
      have s998 : ¬ s = 998 := by omega
      have cj := codeAt_s (S := S) (W := W) (H := H) (n := n) X (i := j) (by omega)
      by_cases c1 : j < L ∧ T j = 61
      · rw [if_neg (show ¬ ¬ (j < L ∧ T j = 61) from fun q => q c1)]
        have q1 := (cd_eq o (by decide)).mpr c1
        have eb := endOfBoth_s (S := S) (W := W) (H := H) (n := n) X (i := j + 1) (by omega)
        have ge2 : j + 1 ≤ en (tB T L) L (j + 1) := en_ge
        have le2 : en (tB T L) L (j + 1) ≤ L := en_le (by omega)
        generalize en (tB T L) L (j + 1) = k at *
        have vi := valueIn_s (S := S) (W := W) (H := H) (n := n) X s10 ge2 le2
        have v9 := vlT_le (T := T) (L := L) (s := s) (i := j + 1) (e := k)
        unfold vlI at vi
        generalize vlT T L s (j + 1) k = v at *
        by_cases c2 : v < 0
        · rw [if_pos c2] at vi ⊢
          refine ⟨m, w_X2_read_58 S _ _ _ _ _ _ _ ?_, C, O, fr_rf⟩
          have q2 : ¬ nI 0 ≤ (-1 : Int32) := by decide
          refine c_iff c80 ?_
          refine c_ob (by omega) (by rfl) ?_
          refine c_qI ed ?_
          refine c_qM sn ?_
          refine c_iff s998 ?_
          repeat (first | (with_reducible refine c_let ?_) | ((with_reducible refine c_ob ?_ ?_ ?_); (focus (first | omega | assumption)); (focus (first | rfl | assumption))) | ((with_reducible show Option.bind (xGr _ _ _ _) _ = _); (first | refine c_gr (by first | omega | assumption) (by first | rfl | assumption) (by rfl) (by rfl) ?_)) | ((with_reducible show Option.bind (xGi _ _ _ _) _ = _); (first | refine c_gi (by first | omega | assumption) (by first | rfl | assumption) (by rfl) (by rfl) ?_ | refine c_gW (by first | omega | assumption) (by first | rfl | assumption) (by rfl) (by rfl) ?_ | refine c_gH (by first | omega | assumption) (by first | rfl | assumption) (by rfl) (by rfl) ?_ | refine c_gA (by first | omega | assumption) (by first | rfl | assumption) (by rfl) (by rfl) ?_ | refine c_gb (by first | omega | assumption) (by first | rfl | assumption) (by rfl) (by rfl) ?_)) | ((with_reducible show Option.bind (xRi _ _ _ _) _ = _); (first | refine c_ri (by first | omega | assumption) (by first | rfl | assumption) (by first | rfl | assumption) (by with_reducible rfl) (by first | omega | ((conv => rhs; whnf); first | omega | (show _ < OfNat.ofNat (α := Nat) _; omega))) (by first | omega | ((conv => lhs; whnf); first | omega | (show OfNat.ofNat (α := Nat) _ < _; omega))) (by decide) ?_)) | ((with_reducible show Option.bind (xRl _ _ _) _ = _); (first | refine c_rl (by first | omega | assumption) (by first | rfl | assumption) (by with_reducible rfl) (by first | omega | ((conv => rhs; whnf); first | omega | (show _ < OfNat.ofNat (α := Nat) _; omega))) (by first | omega | ((conv => lhs; whnf); first | omega | (show OfNat.ofNat (α := Nat) _ < _; omega))) ?_)) | ((with_reducible show Option.bind (xP _ _ _ _ _ _ (.int _)) _ = _); (first | refine c_pi (by first | omega | assumption) (by first | rfl | assumption) (by rfl) (by rfl) (xPok_int (by decide) (by rfl)) ?_)) | ((with_reducible show Option.bind (xWi _ _ _ _) _ = _); (first | refine c_wi (by first | omega | assumption) (by first | rfl | assumption) (by first | rfl | assumption) (by with_reducible rfl) (by first | omega | ((conv => rhs; whnf); first | omega | (show _ < OfNat.ofNat (α := Nat) _; omega))) (by first | omega | ((conv => lhs; whnf); first | omega | (show OfNat.ofNat (α := Nat) _ < _; omega))) ?_)) | ((with_reducible show Option.bind (xWl _ _ _ _) _ = _); (first | refine c_wl (by first | omega | assumption) (by first | rfl | assumption) (by with_reducible rfl) (by first | omega | ((conv => rhs; whnf); first | omega | (show _ < OfNat.ofNat (α := Nat) _; omega))) (by first | omega | ((conv => lhs; whnf); first | omega | (show OfNat.ofNat (α := Nat) _ < _; omega))) ?_)) | ((with_reducible show Option.bind (xRz _ _) _ = _); (first | refine c_rz (by first | omega | assumption) (by first | rfl | assumption) (by first | assumption | rfl) ?_)) | ((with_reducible show Option.bind (xGl _ _ _ _) _ = _); (first | refine c_gl (by first | omega | assumption) (by first | rfl | assumption) (by rfl) (by rfl) ?_ | refine c_gw (by first | omega | assumption) (by first | rfl | assumption) (by rfl) (by rfl) ?_)) | (with_reducible refine c_qI (cj) ?_) | (with_reducible refine c_qI (eb) ?_) | (with_reducible refine c_nz ?_) | ((with_reducible refine c_ift ?_ ?_); (focus (first | assumption | omega | (simp (disch := omega) only [n_lit, nI_add, pk_mul, pk_sub, n_div, sub_dm, Int32.toInt_toInt64, nI_toInt, sI_ne, sI_eq, sI_2, sL_1, sL_ne, sL_eq, sL_3, sR_1, sR_2, sR_ne, sR_eq, aI_ne, aI_eq, aI_2, aL_1, aL_ne, aL_eq, aL_3, Nat.add_zero, Nat.zero_add, Nat.reduceAdd, Nat.reduceMul, Nat.reduceSub, Nat.mul_zero, Nat.zero_mul, nI_ltI, nI_leI, nI_eq, bz_0, bz_1, t_0, decide_eq_false_iff_not, decide_eq_true_eq, Bool.and_eq_true, Bool.and_eq_false_imp, Bool.not_eq_true, Bool.not_eq_false, eq_self, not_true_eq_false, not_false_eq_true, reduceCtorEq]; (try omega); done) | fail))) | ((with_reducible refine c_iff ?_ ?_); (focus (first | assumption | omega | (simp (disch := omega) only [n_lit, nI_add, pk_mul, pk_sub, n_div, sub_dm, Int32.toInt_toInt64, nI_toInt, sI_ne, sI_eq, sI_2, sL_1, sL_ne, sL_eq, sL_3, sR_1, sR_2, sR_ne, sR_eq, aI_ne, aI_eq, aI_2, aL_1, aL_ne, aL_eq, aL_3, Nat.add_zero, Nat.zero_add, Nat.reduceAdd, Nat.reduceMul, Nat.reduceSub, Nat.mul_zero, Nat.zero_mul, nI_ltI, nI_leI, nI_eq, bz_0, bz_1, t_0, decide_eq_false_iff_not, decide_eq_true_eq, Bool.and_eq_true, Bool.and_eq_false_imp, Bool.not_eq_true, Bool.not_eq_false, eq_self, not_true_eq_false, not_false_eq_true, reduceCtorEq]; (try omega); done) | fail))) | simp (disch := omega) only [n_lit, nI_add, pk_mul, pk_sub, n_div, sub_dm, Int32.toInt_toInt64, nI_toInt, sI_ne, sI_eq, sI_2, sL_1, sL_ne, sL_eq, sL_3, sR_1, sR_2, sR_ne, sR_eq, aI_ne, aI_eq, aI_2, aL_1, aL_ne, aL_eq, aL_3, Nat.add_zero, Nat.zero_add, Nat.reduceAdd, Nat.reduceMul, Nat.reduceSub, Nat.mul_zero, Nat.zero_mul])
          refine c_qI vi ?_
          refine c_iff q2 ?_
          have e21 := m2_m1 (j := j) (by omega)
          exact congrArg (fun x => some ((Sum.inl (some (Value.int x)), E W H n m, 0, 0) : xO)) e21
        · rw [if_neg c2] at vi ⊢
          have q2 : nI 0 ≤ nI v.toNat := (nI_leI (by omega) (by omega)).mpr (Nat.zero_le _)
          obtain ⟨m1, n1, n2, n3⟩ := note_s (S := S) (W := W) (H := H) (n := n) O C s10 (v := v) (by omega)
          have O1 := cfO_nt O (q := (s, v)) s10 (by show 0 ≤ v; omega) v9
          have X1 : txC m1 T L := ⟨by rw [fr_i n3 32 1 rfl]; exact X.1, X.2.1, fun i hi => by rw [fr_i n3 33 i rfl]; exact X.2.2 i hi⟩
          have ck := codeAt_s (S := S) (W := W) (H := H) (n := n) X1 (i := k) (by omega)
          have to : ∀ {o' : xO}, (if nI k < nI L then (if xOb (E W H n m1) 32 10 = true then xqI (xM S mX11_codeAt [.ref 32, .int (nI k)] (E W H n m1)) xth fun v21 h20 => if v21 = nI 59 then (xlet (nI (k + 1)) fun v22 => xlet (nI (cnt + 1)) fun v23 => (xden S mX2_read 58 [(0, .ref 34), (1, .ref 32), (2, .int (nI L)), (3, .int v22), (4, .int v23)] [] h20)) else (some (.inl (some (.int ((-1 : Int32) - nI k))), h20, 0, 0)) else none) else (some (.inl (some (.int (nI cnt))), E W H n m1, 0, 0))) = some o' → xden S mX2_read 58 [(0, .ref 34), (1, .ref 32), (2, .int (nI L)), (3, .int (nI i)), (4, .int (nI cnt))] [] (E W H n m) = some o' := fun {o'} ho => by
            refine w_X2_read_58 S _ _ _ _ _ _ _ ?_
            refine c_iff c80 ?_
            refine c_ob (by omega) (by rfl) ?_
            refine c_qI ed ?_
            refine c_qM sn ?_
            refine c_iff s998 ?_
            repeat (first | (with_reducible refine c_let ?_) | ((with_reducible refine c_ob ?_ ?_ ?_); (focus (first | omega | assumption)); (focus (first | rfl | assumption))) | ((with_reducible show Option.bind (xGr _ _ _ _) _ = _); (first | refine c_gr (by first | omega | assumption) (by first | rfl | assumption) (by rfl) (by rfl) ?_)) | ((with_reducible show Option.bind (xGi _ _ _ _) _ = _); (first | refine c_gi (by first | omega | assumption) (by first | rfl | assumption) (by rfl) (by rfl) ?_ | refine c_gW (by first | omega | assumption) (by first | rfl | assumption) (by rfl) (by rfl) ?_ | refine c_gH (by first | omega | assumption) (by first | rfl | assumption) (by rfl) (by rfl) ?_ | refine c_gA (by first | omega | assumption) (by first | rfl | assumption) (by rfl) (by rfl) ?_ | refine c_gb (by first | omega | assumption) (by first | rfl | assumption) (by rfl) (by rfl) ?_)) | ((with_reducible show Option.bind (xRi _ _ _ _) _ = _); (first | refine c_ri (by first | omega | assumption) (by first | rfl | assumption) (by first | rfl | assumption) (by with_reducible rfl) (by first | omega | ((conv => rhs; whnf); first | omega | (show _ < OfNat.ofNat (α := Nat) _; omega))) (by first | omega | ((conv => lhs; whnf); first | omega | (show OfNat.ofNat (α := Nat) _ < _; omega))) (by decide) ?_)) | ((with_reducible show Option.bind (xRl _ _ _) _ = _); (first | refine c_rl (by first | omega | assumption) (by first | rfl | assumption) (by with_reducible rfl) (by first | omega | ((conv => rhs; whnf); first | omega | (show _ < OfNat.ofNat (α := Nat) _; omega))) (by first | omega | ((conv => lhs; whnf); first | omega | (show OfNat.ofNat (α := Nat) _ < _; omega))) ?_)) | ((with_reducible show Option.bind (xP _ _ _ _ _ _ (.int _)) _ = _); (first | refine c_pi (by first | omega | assumption) (by first | rfl | assumption) (by rfl) (by rfl) (xPok_int (by decide) (by rfl)) ?_)) | ((with_reducible show Option.bind (xWi _ _ _ _) _ = _); (first | refine c_wi (by first | omega | assumption) (by first | rfl | assumption) (by first | rfl | assumption) (by with_reducible rfl) (by first | omega | ((conv => rhs; whnf); first | omega | (show _ < OfNat.ofNat (α := Nat) _; omega))) (by first | omega | ((conv => lhs; whnf); first | omega | (show OfNat.ofNat (α := Nat) _ < _; omega))) ?_)) | ((with_reducible show Option.bind (xWl _ _ _ _) _ = _); (first | refine c_wl (by first | omega | assumption) (by first | rfl | assumption) (by with_reducible rfl) (by first | omega | ((conv => rhs; whnf); first | omega | (show _ < OfNat.ofNat (α := Nat) _; omega))) (by first | omega | ((conv => lhs; whnf); first | omega | (show OfNat.ofNat (α := Nat) _ < _; omega))) ?_)) | ((with_reducible show Option.bind (xRz _ _) _ = _); (first | refine c_rz (by first | omega | assumption) (by first | rfl | assumption) (by first | assumption | rfl) ?_)) | ((with_reducible show Option.bind (xGl _ _ _ _) _ = _); (first | refine c_gl (by first | omega | assumption) (by first | rfl | assumption) (by rfl) (by rfl) ?_ | refine c_gw (by first | omega | assumption) (by first | rfl | assumption) (by rfl) (by rfl) ?_)) | (with_reducible refine c_qI (cj) ?_) | (with_reducible refine c_qI (eb) ?_) | (with_reducible refine c_nz ?_) | ((with_reducible refine c_ift ?_ ?_); (focus (first | assumption | omega | (simp (disch := omega) only [n_lit, nI_add, pk_mul, pk_sub, n_div, sub_dm, Int32.toInt_toInt64, nI_toInt, sI_ne, sI_eq, sI_2, sL_1, sL_ne, sL_eq, sL_3, sR_1, sR_2, sR_ne, sR_eq, aI_ne, aI_eq, aI_2, aL_1, aL_ne, aL_eq, aL_3, Nat.add_zero, Nat.zero_add, Nat.reduceAdd, Nat.reduceMul, Nat.reduceSub, Nat.mul_zero, Nat.zero_mul, nI_ltI, nI_leI, nI_eq, bz_0, bz_1, t_0, decide_eq_false_iff_not, decide_eq_true_eq, Bool.and_eq_true, Bool.and_eq_false_imp, Bool.not_eq_true, Bool.not_eq_false, eq_self, not_true_eq_false, not_false_eq_true, reduceCtorEq]; (try omega); done) | fail))) | ((with_reducible refine c_iff ?_ ?_); (focus (first | assumption | omega | (simp (disch := omega) only [n_lit, nI_add, pk_mul, pk_sub, n_div, sub_dm, Int32.toInt_toInt64, nI_toInt, sI_ne, sI_eq, sI_2, sL_1, sL_ne, sL_eq, sL_3, sR_1, sR_2, sR_ne, sR_eq, aI_ne, aI_eq, aI_2, aL_1, aL_ne, aL_eq, aL_3, Nat.add_zero, Nat.zero_add, Nat.reduceAdd, Nat.reduceMul, Nat.reduceSub, Nat.mul_zero, Nat.zero_mul, nI_ltI, nI_leI, nI_eq, bz_0, bz_1, t_0, decide_eq_false_iff_not, decide_eq_true_eq, Bool.and_eq_true, Bool.and_eq_false_imp, Bool.not_eq_true, Bool.not_eq_false, eq_self, not_true_eq_false, not_false_eq_true, reduceCtorEq]; (try omega); done) | fail))) | simp (disch := omega) only [n_lit, nI_add, pk_mul, pk_sub, n_div, sub_dm, Int32.toInt_toInt64, nI_toInt, sI_ne, sI_eq, sI_2, sL_1, sL_ne, sL_eq, sL_3, sR_1, sR_2, sR_ne, sR_eq, aI_ne, aI_eq, aI_2, aL_1, aL_ne, aL_eq, aL_3, Nat.add_zero, Nat.zero_add, Nat.reduceAdd, Nat.reduceMul, Nat.reduceSub, Nat.mul_zero, Nat.zero_mul])
            refine c_qI vi ?_
            refine c_ift q2 ?_
            rw [a6, Option.bind_some]
            refine c_ob (by omega) (by rfl) ?_
            refine c_qV n1 ?_
            exact ho
          by_cases c3 : L ≤ k
          · rw [if_pos c3]
            refine ⟨m1, to ?_, n2, O1, n3⟩
            rw [if_neg (fun q => by have := (nI_ltI (by omega) (by omega)).mp q; omega)]
            rfl
          · rw [if_neg c3]
            have c3' : nI k < nI L := (nI_ltI (by omega) (by omega)).mpr (by omega)
            by_cases c4 : T k = 59
            · rw [if_neg (show ¬ ¬ T k = 59 from fun q => q c4)]
              have q4 := (cd_eq o (j := k) (c := 59) (by decide)).mpr ⟨by omega, c4⟩
              obtain ⟨m2, k1, k2, k3, k4⟩ := ih (k + 1) (cnt + 1) m1 _ X1 (by omega) (by omega) (by omega) (by omega) O1 n2
              refine ⟨m2, to ?_, k2, k3, fr_tr n3 k4⟩
              refine c_ift c3' ?_
              refine c_ob (by omega) (by rfl) ?_
              refine c_qI ck ?_
              refine c_ift q4 ?_
              refine c_let ?_
              refine c_let ?_
              rw [k1]
              congr 5
              unfold rdR
              (try dsimp only)
              cases (rdS T L f (k + 1)).2 with
              | some x => rfl
              | none =>
                (try dsimp only)
                rw [List.length_cons, show cnt + 1 + (rdS T L f (k + 1)).1.length - 1 = cnt + ((rdS T L f (k + 1)).1.length + 1) - 1 by omega]
            · rw [if_pos c4]
              have q4 : ¬ cdA T L k = nI 59 := fun q => c4 ((cd_eq o (by decide)).mp q).2
              refine ⟨m1, to ?_, n2, O1, n3⟩
              refine c_ift c3' ?_
              refine c_ob (by omega) (by rfl) ?_
              refine c_qI ck ?_
              refine c_iff q4 ?_
              rfl
      · rw [if_pos c1]
        have q1 : ¬ cdA T L j = nI 61 := fun q => c1 ((cd_eq o (by decide)).mp q)
        refine ⟨m, w_X2_read_58 S _ _ _ _ _ _ _ ?_, C, O, fr_rf⟩
        refine c_iff c80 ?_
        refine c_ob (by omega) (by rfl) ?_
        refine c_qI ed ?_
        refine c_qM sn ?_
        refine c_iff s998 ?_
        refine c_ob (by omega) (by rfl) ?_
        refine c_qI cj ?_
        refine c_iff q1 ?_
        rfl
end RS

/-! DIFFERENCES: what is compared; the class -/
/-- ink of a picture within a reach of a pixel -/
def nrP (W H : Nat) (f : Nat → Int64) (far : Nat) (j i : Nat) : Prop := ∃ y x : Int, (j : Int) - far ≤ y ∧ y ≤ j + far ∧ (i : Int) - far ≤ x ∧ x ≤ i + far ∧ atP W H f x y = true
noncomputable def nrB (W H : Nat) (f : Nat → Int64) (far : Nat) (j i : Nat) : Bool := pB (nrP W H f far j i)
/-- is a pixel in a mask -/
noncomputable def mkdB (c : Nat) (K : Nat → Nat → Int32) (k : Nat) : Bool := pB (∃ q, q < c ∧ wnF (K q 0) (K q 1) (K q 2) (K q 3) k = true)
/-- the pixels of one picture that the other lacks -/
noncomputable def msF (W H : Nat) (O A : Nat → Int64) (far c : Nat) (K : Nat → Nat → Int32) (j i : Nat) : Bool := (lb (O j) i && !nrB W H A far j i) && !mkdB c K (64 * j + i)
theorem atP_nn {W H : Nat} {f : Nat → Int64} (o : okP W H f) {y x : Int} : atP W H f x y = true ↔ 0 ≤ y ∧ 0 ≤ x ∧ lb (f y.toNat) x.toNat = true := by
  unfold atP onP
  rw [Bool.and_eq_true, decide_eq_true_eq]
  refine ⟨fun h => ⟨h.1.2.2.1, h.1.1, h.2⟩, fun h => ⟨?_, h.2.2⟩⟩
  have := o _ _ h.2.2
  omega
section DF
variable {S : xS} {W H n : Nat} {m : mM} {a b c : Nat} {f : Nat → Int64}
theorem dl_or (v : Int64) : v ||| ((v <<< ((1 : Int32).toInt64 &&& 63)) ||| ((v.toUInt64 >>> ((1 : Int32).toInt64.toUInt64 &&& Int64.toUInt64 63)).toInt64)) = dl v := by
  unfold dl
  apply lb_ext
  intro i _
  rw [lb_or, lb_or, lb_or, lb_or, Bool.or_assoc]
/-- widened k times -/
theorem widen_s (h : xH) {N : Int64} {far : Nat} (hf : far ≤ 2) : ∃ v, xden S mX4_inkAround 33 [(2, .int (nI far)), (3, .long N), (5, .int (nI 0))] [] h = some (.inl (some (.long v)), h, 0, 0) ∧ ∀ i, i < 64 → (lb v i = true ↔ ∃ x, x ≤ i + far ∧ i ≤ x + far ∧ lb N x = true) := by
  have L := x_sg (σ := Int64) (τ := Int64) (D := fun k v => xden S mX4_inkAround 33 [(2, .int (nI far)), (3, .long v), (5, .int (nI k))] [] h) (Inv := fun k v => ∀ i, i < 64 → (lb v i = true ↔ ∃ x, x ≤ i + k ∧ i ≤ x + k ∧ lb N x = true))
    (F := fun v => some (.inl (some (.long v)), h, 0, 0)) (Post := fun v => ∀ i, i < 64 → (lb v i = true ↔ ∃ x, x ≤ i + far ∧ i ≤ x + far ∧ lb N x = true)) far (fun k hk v hv => ?_) (fun v hv => ?_) N (fun i hi => ⟨fun q => ⟨i, Nat.le_refl _, Nat.le_refl _, q⟩, fun ⟨x, h1, h2, h3⟩ => by rw [show i = x by omega]; exact h3⟩)
  · obtain ⟨v, h1, h2⟩ := L
    exact ⟨v, h2 _ rfl, h1⟩
  · left
    refine ⟨dl v, fun i hi => ?_, fun o ho => w_X4_inkAround_33 S _ _ _ _ _ ?_⟩
    · rw [lb_dl v hi]
      constructor
      · rintro (q | ⟨q1, q2⟩ | q)
        · obtain ⟨x, h1, h2, h3⟩ := (hv i hi).mp q
          exact ⟨x, by omega, by omega, h3⟩
        · obtain ⟨x, h1, h2, h3⟩ := (hv (i - 1) (by omega)).mp q2
          exact ⟨x, by omega, by omega, h3⟩
        · obtain ⟨x, h1, h2, h3⟩ := (hv (i + 1) (lb_lt q)).mp q
          exact ⟨x, by omega, by omega, h3⟩
      · rintro ⟨x, h1, h2, h3⟩
        have hx := lb_lt h3
        rcases Nat.lt_trichotomy x i with q | q | q
        · exact Or.inr (Or.inl ⟨by omega, (hv (i - 1) (by omega)).mpr ⟨x, by omega, by omega, h3⟩⟩)
        · exact Or.inl ((hv i hi).mpr ⟨x, by omega, by omega, h3⟩)
        · exact Or.inr (Or.inr ((hv (i + 1) (by omega)).mpr ⟨x, by omega, by omega, h3⟩))
    · refine c_iff (fun q => by have := (nI_leI (by omega) (by omega)).mp q; omega) ?_
      refine c_let ?_
      refine c_let ?_
      rw [dl_or, show (1 : Int32) = nI 1 from rfl, nI_add]
      exact ho
  · refine ⟨v, hv, fun o ho => w_X4_inkAround_33 S _ _ _ _ _ ?_⟩
    refine c_ift ((nI_leI (by omega) (by omega)).mpr (Nat.le_refl _)) ?_
    exact ho
theorem inkAround_s (hW : W ≤ 64) (hH : H ≤ 64) (I : imA b) (ef : m.2.1 (b + 1) = f) (o : okP W H f) {j far : Nat} (hj : j < 64) (hf : far ≤ 2) : ∃ v, xM S mX4_inkAround [.ref b, .int (nI j), .int (nI far)] (E W H n m) = some (.inl (some (.long v)), E W H n m, 0, 0) ∧ ∀ i, i < 64 → (lb v i = true ↔ nrP W H f far j i) := by
  have I1 := I.1
  have I3 := I.2.2
  have L := x_sg (σ := Int64) (τ := Int64) (D := fun k v => xden S mX4_inkAround 7 [(0, .ref b), (1, .int (nI j)), (2, .int (nI far)), (3, .long v), (5, .int (zI ((j : Int) - far + k)))] [] (E W H n m)) (Inv := fun k v => ∀ i, i < 64 → (lb v i = true ↔ ∃ q : Int, (j : Int) - far ≤ q ∧ q < (j : Int) - far + k ∧ 0 ≤ q ∧ lb (f q.toNat) i = true))
    (F := fun v => some (.inl (some (.long v)), E W H n m, 0, 0)) (Post := fun v => ∀ i, i < 64 → (lb v i = true ↔ nrP W H f far j i)) (2 * far + 1) (fun k hk v hv => ?_) (fun v hv => ?_) 0 (fun i hi => ⟨fun q => (by rw [lb_0] at q; cases q), fun ⟨q, h1, h2, h3, h4⟩ => by omega⟩)
  · obtain ⟨v, h1, h2⟩ := L
    have h2 := h2 _ rfl
    rw [show (j : Int) - far + ((0 : Nat) : Int) = (j : Int) - far by omega] at h2
    refine ⟨v, w_X4_inkAround S _ _ _ _ _ ?_, h1⟩
    refine c_let ?_
    rw [← zI_n (show j < 2147483648 by omega), ← zI_n (show far < 2147483648 by omega), zI_sub (by omega) (by omega) (by omega) (by omega), zI_n (by omega), zI_n (by omega)]
    exact h2
  · left
    have rd := rowAt_g (S := S) (n := n) (m := m) hW hH I (zI ((j : Int) - far + k))
    rw [rwA_z hH (by omega) (by omega), ef] at rd
    refine ⟨v ||| (if 0 ≤ (j : Int) - far + k ∧ (j : Int) - far + k < H then f ((j : Int) - far + k).toNat else 0), fun i hi => ?_, fun o' ho => w_X4_inkAround_7 S _ _ _ _ _ _ _ ?_⟩
    · rw [lb_or, Bool.or_eq_true, hv i hi]
      constructor
      · rintro (⟨q, h1, h2, h3, h4⟩ | h)
        · exact ⟨q, h1, by omega, h3, h4⟩
        · by_cases c : 0 ≤ (j : Int) - far + k ∧ (j : Int) - far + k < H
          · rw [if_pos c] at h
            exact ⟨_, by omega, by omega, c.1, h⟩
          · rw [if_neg c, lb_0] at h
            cases h
      · rintro ⟨q, h1, h2, h3, h4⟩
        by_cases c : q < (j : Int) - far + k
        · exact Or.inl ⟨q, h1, c, h3, h4⟩
        · right
          have e : q = (j : Int) - far + k := by omega
          have := (o _ _ h4).2
          rw [if_pos (by omega), ← e]
          exact h4
    · have es : nI j + nI far = zI ((j : Int) + far) := by
        rw [nI_add, ← zI_n (by omega)]
        congr 1
      rw [es]
      refine c_iff (fun q => by have := (zI_lt (by omega) (by omega) (by omega) (by omega)).mp q; omega) ?_
      refine c_ob (by omega) I1 ?_
      refine c_qJ rd ?_
      refine c_let ?_
      refine c_let ?_
      rw [show (1 : Int32) = nI 1 from rfl, zI_1, show (j : Int) - far + (k : Int) + 1 = (j : Int) - far + ((k + 1 : Nat) : Int) by omega]
      exact ho
  · obtain ⟨w, g1, g2⟩ := widen_s (S := S) (E W H n m) (N := v) hf
    refine ⟨w, fun i hi => ?_, fun o' ho => w_X4_inkAround_7 S _ _ _ _ _ _ _ ?_⟩
    · rw [g2 i hi]
      constructor
      · rintro ⟨x, h1, h2, h3⟩
        obtain ⟨q, q1, q2, q3, q4⟩ := (hv x (lb_lt h3)).mp h3
        exact ⟨q, x, q1, by omega, by omega, by omega, (atP_nn o).mpr ⟨q3, by omega, by rw [Int.toNat_natCast]; exact q4⟩⟩
      · rintro ⟨y, x, h1, h2, h3, h4, h5⟩
        obtain ⟨q1, q2, q3⟩ := (atP_nn o).mp h5
        exact ⟨x.toNat, by omega, by omega, (hv _ (lb_lt q3)).mpr ⟨y, h1, by omega, q1, q3⟩⟩
    · have es : nI j + nI far = zI ((j : Int) + far) := by
        rw [nI_add, ← zI_n (by omega)]
        congr 1
      rw [es]
      refine c_ift ((zI_lt (by omega) (by omega) (by omega) (by omega)).mpr (by omega)) ?_
      cases ho
      exact g1
theorem drawUnmatched_s (hW : W ≤ 64) (hH : H ≤ 64) (I : imA a) (J : imA b) (K : imA c) (n1 : b ≠ a) (n2 : c ≠ a) (oa : okP W H (m.2.1 (a + 1))) {O A : Nat → Int64} (eO : m.2.1 (b + 1) = O) (eA : m.2.1 (c + 1) = A) (oA : okP W H A) {far : Nat} (hf : far ≤ 2) {G : Nat → Int64} (hG : gB W H (fun j i => lb (O j) i && !nrB W H A far j i) G) : xM S mX4_drawUnmatched [.ref a, .ref b, .ref c, .int (nI far)] (E W H n m) = some (.inl none, E W H n (aL m (a + 1) G), 0, 0) := by
  have I3 := I.2.2
  have J3 := J.2.2
  have K3 := K.2.2
  have I1 := I.1
  have J1 := J.1
  have K1 := K.1
  refine w_X4_drawUnmatched S _ _ _ _ _ _ ?_
  refine x_fo H (fun k s => xden S mX4_drawUnmatched 3 [(0, .ref a), (1, .ref b), (2, .ref c), (3, .int (nI far)), (4, .int (nI k))] [] (E W H n s)) (fun k => aL m (a + 1) (fa_fill G (m.2.1 (a + 1)) k)) (by (try dsimp only); rw [fa_fill_0, aL_self m _ rfl]) (fun k hk ih => ?_) ?_
  · (try dsimp only at ih ⊢)
    rw [← sL_aL] at ih
    have rb : (aL m (a + 1) (fa_fill G (m.2.1 (a + 1)) k)).2.1 (b + 1) = O := by rw [aL_ne (by omega)]; exact eO
    have rc' : (aL m (a + 1) (fa_fill G (m.2.1 (a + 1)) k)).2.1 (c + 1) = A := by rw [aL_ne (by omega)]; exact eA
    have rd := rowAt_E (S := S) (n := n) (m := aL m (a + 1) (fa_fill G (m.2.1 (a + 1)) k)) hW hH J hk
    rw [rb] at rd
    obtain ⟨v, v1, v2⟩ := inkAround_s (S := S) (n := n) (m := aL m (a + 1) (fa_fill G (m.2.1 (a + 1)) k)) hW hH K rc' oA (j := k) (by omega) hf
    have row : (O k &&& (v ^^^ (-1))) &&& wh W = G k := lb_ext fun i hi => by
      rw [lb_and_wh, lb_andn]
      by_cases d : i < W
      · rw [decide_eq_true d, Bool.and_true, hG.2 k i hk d]
        congr 2
        unfold nrB
        cases hv : lb v i
        · exact (pB_no.mpr (fun q => by rw [(v2 i hi).mpr q] at hv; cases hv)).symm
        · exact (pB_iff.mpr ((v2 i hi).mp hv)).symm
      · rw [decide_eq_false d, Bool.and_false]
        cases hb : lb (G k) i
        · rfl
        · exact absurd (hG.1 _ _ hb).1 d
    refine w_X4_drawUnmatched_3 S _ _ _ _ _ _ _ ?_
    repeat (first | (with_reducible refine c_let ?_) | ((with_reducible refine c_ob ?_ ?_ ?_); (focus (first | omega | assumption)); (focus (first | rfl | assumption))) | ((with_reducible show Option.bind (xGr _ _ _ _) _ = _); (first | refine c_gr (by first | omega | assumption) (by first | rfl | assumption) (by rfl) (by rfl) ?_)) | ((with_reducible show Option.bind (xGi _ _ _ _) _ = _); (first | refine c_gi (by first | omega | assumption) (by first | rfl | assumption) (by rfl) (by rfl) ?_ | refine c_gW (by first | omega | assumption) (by first | rfl | assumption) (by rfl) (by rfl) ?_ | refine c_gH (by first | omega | assumption) (by first | rfl | assumption) (by rfl) (by rfl) ?_ | refine c_gA (by first | omega | assumption) (by first | rfl | assumption) (by rfl) (by rfl) ?_ | refine c_gb (by first | omega | assumption) (by first | rfl | assumption) (by rfl) (by rfl) ?_)) | ((with_reducible show Option.bind (xRi _ _ _ _) _ = _); (first | refine c_ri (by first | omega | assumption) (by first | rfl | assumption) (by first | rfl | assumption) (by with_reducible rfl) (by first | omega | ((conv => rhs; whnf); first | omega | (show _ < OfNat.ofNat (α := Nat) _; omega))) (by first | omega | ((conv => lhs; whnf); first | omega | (show OfNat.ofNat (α := Nat) _ < _; omega))) (by decide) ?_)) | ((with_reducible show Option.bind (xRl _ _ _) _ = _); (first | refine c_rl (by first | omega | assumption) (by first | rfl | assumption) (by with_reducible rfl) (by first | omega | ((conv => rhs; whnf); first | omega | (show _ < OfNat.ofNat (α := Nat) _; omega))) (by first | omega | ((conv => lhs; whnf); first | omega | (show OfNat.ofNat (α := Nat) _ < _; omega))) ?_)) | ((with_reducible show Option.bind (xP _ _ _ _ _ _ (.int _)) _ = _); (first | refine c_pi (by first | omega | assumption) (by first | rfl | assumption) (by rfl) (by rfl) (xPok_int (by decide) (by rfl)) ?_)) | ((with_reducible show Option.bind (xWi _ _ _ _) _ = _); (first | refine c_wi (by first | omega | assumption) (by first | rfl | assumption) (by first | rfl | assumption) (by with_reducible rfl) (by first | omega | ((conv => rhs; whnf); first | omega | (show _ < OfNat.ofNat (α := Nat) _; omega))) (by first | omega | ((conv => lhs; whnf); first | omega | (show OfNat.ofNat (α := Nat) _ < _; omega))) ?_)) | ((with_reducible show Option.bind (xWl _ _ _ _) _ = _); (first | refine c_wl (by first | omega | assumption) (by first | rfl | assumption) (by with_reducible rfl) (by first | omega | ((conv => rhs; whnf); first | omega | (show _ < OfNat.ofNat (α := Nat) _; omega))) (by first | omega | ((conv => lhs; whnf); first | omega | (show OfNat.ofNat (α := Nat) _ < _; omega))) ?_)) | ((with_reducible show Option.bind (xRz _ _) _ = _); (first | refine c_rz (by first | omega | assumption) (by first | rfl | assumption) (by first | assumption | rfl) ?_)) | ((with_reducible show Option.bind (xGl _ _ _ _) _ = _); (first | refine c_gl (by first | omega | assumption) (by first | rfl | assumption) (by rfl) (by rfl) ?_ | refine c_gw (by first | omega | assumption) (by first | rfl | assumption) (by rfl) (by rfl) ?_)) | (with_reducible refine c_qJ (rd) ?_) | (with_reducible refine c_qJ (v1) ?_) | ((with_reducible show xqV (xM _ mX4_putRow _ _) _ _ = _); (first | refine c_qV (putRow_E hW hH I hk _) ?_)) | (with_reducible refine c_nz ?_) | ((with_reducible refine c_ift ?_ ?_); (focus (first | assumption | omega | (simp (disch := omega) only [n_lit, nI_add, pk_mul, pk_sub, n_div, sub_dm, Int32.toInt_toInt64, nI_toInt, sI_ne, sI_eq, sI_2, sL_1, sL_ne, sL_eq, sL_3, sR_1, sR_2, sR_ne, sR_eq, aI_ne, aI_eq, aI_2, aL_1, aL_ne, aL_eq, aL_3, Nat.add_zero, Nat.zero_add, Nat.reduceAdd, Nat.reduceMul, Nat.reduceSub, Nat.mul_zero, Nat.zero_mul, nI_ltI, nI_leI, nI_eq, bz_0, bz_1, t_0, decide_eq_false_iff_not, decide_eq_true_eq, Bool.and_eq_true, Bool.and_eq_false_imp, Bool.not_eq_true, Bool.not_eq_false, eq_self, not_true_eq_false, not_false_eq_true, reduceCtorEq]; (try omega); done) | fail))) | ((with_reducible refine c_iff ?_ ?_); (focus (first | assumption | omega | (simp (disch := omega) only [n_lit, nI_add, pk_mul, pk_sub, n_div, sub_dm, Int32.toInt_toInt64, nI_toInt, sI_ne, sI_eq, sI_2, sL_1, sL_ne, sL_eq, sL_3, sR_1, sR_2, sR_ne, sR_eq, aI_ne, aI_eq, aI_2, aL_1, aL_ne, aL_eq, aL_3, Nat.add_zero, Nat.zero_add, Nat.reduceAdd, Nat.reduceMul, Nat.reduceSub, Nat.mul_zero, Nat.zero_mul, nI_ltI, nI_leI, nI_eq, bz_0, bz_1, t_0, decide_eq_false_iff_not, decide_eq_true_eq, Bool.and_eq_true, Bool.and_eq_false_imp, Bool.not_eq_true, Bool.not_eq_false, eq_self, not_true_eq_false, not_false_eq_true, reduceCtorEq]; (try omega); done) | fail))) | simp (disch := omega) only [n_lit, nI_add, pk_mul, pk_sub, n_div, sub_dm, Int32.toInt_toInt64, nI_toInt, sI_ne, sI_eq, sI_2, sL_1, sL_ne, sL_eq, sL_3, sR_1, sR_2, sR_ne, sR_eq, aI_ne, aI_eq, aI_2, aL_1, aL_ne, aL_eq, aL_3, Nat.add_zero, Nat.zero_add, Nat.reduceAdd, Nat.reduceMul, Nat.reduceSub, Nat.mul_zero, Nat.zero_mul])
    rw [row]
    exact ih
  · (try dsimp only)
    rw [fillG hG.1 oa]
    refine w_X4_drawUnmatched_3 S _ _ _ _ _ _ _ ?_
    repeat (first | (with_reducible refine c_let ?_) | ((with_reducible refine c_ob ?_ ?_ ?_); (focus (first | omega | assumption)); (focus (first | rfl | assumption))) | ((with_reducible show Option.bind (xGr _ _ _ _) _ = _); (first | refine c_gr (by first | omega | assumption) (by first | rfl | assumption) (by rfl) (by rfl) ?_)) | ((with_reducible show Option.bind (xGi _ _ _ _) _ = _); (first | refine c_gi (by first | omega | assumption) (by first | rfl | assumption) (by rfl) (by rfl) ?_ | refine c_gW (by first | omega | assumption) (by first | rfl | assumption) (by rfl) (by rfl) ?_ | refine c_gH (by first | omega | assumption) (by first | rfl | assumption) (by rfl) (by rfl) ?_ | refine c_gA (by first | omega | assumption) (by first | rfl | assumption) (by rfl) (by rfl) ?_ | refine c_gb (by first | omega | assumption) (by first | rfl | assumption) (by rfl) (by rfl) ?_)) | ((with_reducible show Option.bind (xRi _ _ _ _) _ = _); (first | refine c_ri (by first | omega | assumption) (by first | rfl | assumption) (by first | rfl | assumption) (by with_reducible rfl) (by first | omega | ((conv => rhs; whnf); first | omega | (show _ < OfNat.ofNat (α := Nat) _; omega))) (by first | omega | ((conv => lhs; whnf); first | omega | (show OfNat.ofNat (α := Nat) _ < _; omega))) (by decide) ?_)) | ((with_reducible show Option.bind (xRl _ _ _) _ = _); (first | refine c_rl (by first | omega | assumption) (by first | rfl | assumption) (by with_reducible rfl) (by first | omega | ((conv => rhs; whnf); first | omega | (show _ < OfNat.ofNat (α := Nat) _; omega))) (by first | omega | ((conv => lhs; whnf); first | omega | (show OfNat.ofNat (α := Nat) _ < _; omega))) ?_)) | ((with_reducible show Option.bind (xP _ _ _ _ _ _ (.int _)) _ = _); (first | refine c_pi (by first | omega | assumption) (by first | rfl | assumption) (by rfl) (by rfl) (xPok_int (by decide) (by rfl)) ?_)) | ((with_reducible show Option.bind (xWi _ _ _ _) _ = _); (first | refine c_wi (by first | omega | assumption) (by first | rfl | assumption) (by first | rfl | assumption) (by with_reducible rfl) (by first | omega | ((conv => rhs; whnf); first | omega | (show _ < OfNat.ofNat (α := Nat) _; omega))) (by first | omega | ((conv => lhs; whnf); first | omega | (show OfNat.ofNat (α := Nat) _ < _; omega))) ?_)) | ((with_reducible show Option.bind (xWl _ _ _ _) _ = _); (first | refine c_wl (by first | omega | assumption) (by first | rfl | assumption) (by with_reducible rfl) (by first | omega | ((conv => rhs; whnf); first | omega | (show _ < OfNat.ofNat (α := Nat) _; omega))) (by first | omega | ((conv => lhs; whnf); first | omega | (show OfNat.ofNat (α := Nat) _ < _; omega))) ?_)) | ((with_reducible show Option.bind (xRz _ _) _ = _); (first | refine c_rz (by first | omega | assumption) (by first | rfl | assumption) (by first | assumption | rfl) ?_)) | ((with_reducible show Option.bind (xGl _ _ _ _) _ = _); (first | refine c_gl (by first | omega | assumption) (by first | rfl | assumption) (by rfl) (by rfl) ?_ | refine c_gw (by first | omega | assumption) (by first | rfl | assumption) (by rfl) (by rfl) ?_)) | (with_reducible refine c_nz ?_) | ((with_reducible refine c_ift ?_ ?_); (focus (first | assumption | omega | (simp (disch := omega) only [n_lit, nI_add, pk_mul, pk_sub, n_div, sub_dm, Int32.toInt_toInt64, nI_toInt, sI_ne, sI_eq, sI_2, sL_1, sL_ne, sL_eq, sL_3, sR_1, sR_2, sR_ne, sR_eq, aI_ne, aI_eq, aI_2, aL_1, aL_ne, aL_eq, aL_3, Nat.add_zero, Nat.zero_add, Nat.reduceAdd, Nat.reduceMul, Nat.reduceSub, Nat.mul_zero, Nat.zero_mul, nI_ltI, nI_leI, nI_eq, bz_0, bz_1, t_0, decide_eq_false_iff_not, decide_eq_true_eq, Bool.and_eq_true, Bool.and_eq_false_imp, Bool.not_eq_true, Bool.not_eq_false, eq_self, not_true_eq_false, not_false_eq_true, reduceCtorEq]; (try omega); done) | fail))) | ((with_reducible refine c_iff ?_ ?_); (focus (first | assumption | omega | (simp (disch := omega) only [n_lit, nI_add, pk_mul, pk_sub, n_div, sub_dm, Int32.toInt_toInt64, nI_toInt, sI_ne, sI_eq, sI_2, sL_1, sL_ne, sL_eq, sL_3, sR_1, sR_2, sR_ne, sR_eq, aI_ne, aI_eq, aI_2, aL_1, aL_ne, aL_eq, aL_3, Nat.add_zero, Nat.zero_add, Nat.reduceAdd, Nat.reduceMul, Nat.reduceSub, Nat.mul_zero, Nat.zero_mul, nI_ltI, nI_leI, nI_eq, bz_0, bz_1, t_0, decide_eq_false_iff_not, decide_eq_true_eq, Bool.and_eq_true, Bool.and_eq_false_imp, Bool.not_eq_true, Bool.not_eq_false, eq_self, not_true_eq_false, not_false_eq_true, reduceCtorEq]; (try omega); done) | fail))) | simp (disch := omega) only [n_lit, nI_add, pk_mul, pk_sub, n_div, sub_dm, Int32.toInt_toInt64, nI_toInt, sI_ne, sI_eq, sI_2, sL_1, sL_ne, sL_eq, sL_3, sR_1, sR_2, sR_ne, sR_eq, aI_ne, aI_eq, aI_2, aL_1, aL_ne, aL_eq, aL_3, Nat.add_zero, Nat.zero_add, Nat.reduceAdd, Nat.reduceMul, Nat.reduceSub, Nat.mul_zero, Nat.zero_mul])
    try rfl
/-- the pixels outside every mask -/
theorem watch_s (hW8 : 8 ≤ W) (hW : W ≤ 64) (hH8 : 8 ≤ H) (hH : H ≤ 64) {q : Nat} {K : Nat → Nat → Int32} (C : mkC m q K) (oW : okP W H (m.2.1 47)) {o : xO} (hk : ∀ w, gB W H (fun j i => !mkdB q K (64 * j + i)) w → xden S mX12_compare 20 [(0, .ref 0), (1, .int (nI q))] [] (E W H n (aL m 47 w)) = some o) : xM S mX12_compare [.ref 0] (E W H n m) = some o := by
  have I46 : imA 46 := im_82.2.2.2.2.2.2.2
  obtain ⟨c1, c2, c3⟩ := C
  have p0 := paint_s (S := S) (n := n) hW hH I46 oW (nI 0).toInt64 (nI 0).toInt64 (nI W) (nI H) true
  generalize hw0 : ptR (m.2.1 (46 + 1)) (spA W (nI 0).toInt64 (nI W)) (min (nI 0).toInt64.toInt.toNat H) (min ((nI 0).toInt64 + (nI H).toInt64).toInt.toNat H) true = w0 at p0
  have g0 : gB W H (fun _ _ => true) w0 := by
    rw [← hw0]
    refine ⟨ok_paint oW _ _ _ _ (Nat.min_le_right _ _) true, fun j i hj hi => ?_⟩
    rw [px_paint hW (nI 0) (nI 0) (nI W) (nI H) true hi hj, nI_toInt (by decide), nI_toInt (by omega), nI_toInt (by omega), if_pos (by omega)]
  have key : ∀ k, k ≤ q → ∀ w, gB W H (fun j i => !mkdB k K (64 * j + i)) w → xden S mX12_compare 20 [(0, .ref 0), (1, .int (nI k))] [] (E W H n (aL m 47 w)) = some o := by
    intro k hkq
    refine x_down (P := fun k => ∀ w, gB W H (fun j i => !mkdB k K (64 * j + i)) w → xden S mX12_compare 20 [(0, .ref 0), (1, .int (nI k))] [] (E W H n (aL m 47 w)) = some o) q (fun k hk2 ih w gw => ?_) hk k hkq
    have er : eR (aL m 47 w) 39 k = some (40 + k) := by
      show (if k < 6 then some (40 + k) else none) = _
      rw [if_pos (by omega)]
    have hk' : eK (40 + k) = (1, 4) := by
      have : ∀ c, c < 6 → eK (40 + c) = (1, 4) := by decide
      exact this k (by omega)
    have hcc : eCc (40 + k) = false := by
      have : ∀ c, c < 6 → eCc (40 + c) = false := by decide
      exact this k (by omega)
    have hl : eL H (40 + k) = 4 := by unfold eL; rw [hk']; rfl
    have e0 := c3 k hk2 0 (by decide)
    have e1 := c3 k hk2 1 (by decide)
    have e2 := c3 k hk2 2 (by decide)
    have e3 := c3 k hk2 3 (by decide)
    have p1 := paint_s (S := S) (n := n) (m := aL m 47 w) hW hH I46 (by rw [aL_eq rfl]; exact gw.1) (K k 0).toInt64 (K k 1).toInt64 (K k 2) (K k 3) false
    rw [aL_eq rfl, aL_aL] at p1
    have nx := ih (ptR w (spA W (K k 0).toInt64 (K k 2)) (min (K k 1).toInt64.toInt.toNat H) (min ((K k 1).toInt64 + (K k 3).toInt64).toInt.toNat H) false) (by
      refine ⟨ok_paint gw.1 _ _ _ _ (Nat.min_le_right _ _) false, fun j i hj hi => ?_⟩
      rw [px_paint hW (K k 0) (K k 1) (K k 2) (K k 3) false hi hj, gw.2 j i hj hi]
      have ew : wnF (K k 0) (K k 1) (K k 2) (K k 3) (64 * j + i) = decide ((K k 0).toInt ≤ i ∧ (i : Int) < (K k 0).toInt + (K k 2).toInt ∧ (K k 1).toInt ≤ j ∧ (j : Int) < (K k 1).toInt + (K k 3).toInt) := by
        unfold wnF
        rw [show (64 * j + i) % 64 = i by omega, show (64 * j + i) / 64 = j by omega]
      show _ = !mkdB (k + 1) K (64 * j + i)
      by_cases d : (K k 0).toInt ≤ i ∧ (i : Int) < (K k 0).toInt + (K k 2).toInt ∧ (K k 1).toInt ≤ j ∧ (j : Int) < (K k 1).toInt + (K k 3).toInt
      · rw [if_pos d]
        rw [decide_eq_true d] at ew
        have e9 : mkdB (k + 1) K (64 * j + i) = true := pB_iff.mpr ⟨k, Nat.lt_succ_self k, ew⟩
        rw [e9]
        rfl
      · rw [if_neg d]
        rw [decide_eq_false d] at ew
        have e9 : mkdB k K (64 * j + i) = mkdB (k + 1) K (64 * j + i) := pB_cong ⟨fun ⟨z, h1, h2⟩ => ⟨z, by omega, h2⟩, fun ⟨z, h1, h2⟩ => ⟨z, (by
          rcases Nat.lt_succ_iff_lt_or_eq.mp h1 with h | h
          · exact h
          · subst h
            rw [ew] at h2
            cases h2), h2⟩⟩
        rw [← e9])
    refine w_X12_compare_20 S _ _ _ _ ?_
    refine c_gi (by omega) (by rfl) (by rfl) (by rfl) ?_
    rw [aL_1, c1]
    refine c_iff (fun z => by have := (nI_leI (by omega) (by omega)).mp z; omega) ?_
    refine c_gr (by omega) (by rfl) (by rfl) (by rfl) ?_
    refine c_rr (i := k) (by omega) (by rfl) (by decide) (by rfl) (by show k < 6; omega) (by first | omega | ((conv => lhs; whnf); first | omega | (show OfNat.ofNat (α := Nat) _ < _; omega))) er ?_
    refine c_gr (by omega) (by rfl) (by rfl) (by rfl) ?_
    refine c_ri (i := 0) (by omega) hk' hcc (by rfl) (by rw [hl]; decide) (by rw [hl]; decide) (by decide) ?_
    refine c_ri (i := 1) (by omega) hk' hcc (by rfl) (by rw [hl]; decide) (by rw [hl]; decide) (by decide) ?_
    refine c_ri (i := 2) (by omega) hk' hcc (by rfl) (by rw [hl]; decide) (by rw [hl]; decide) (by decide) ?_
    refine c_ri (i := 3) (by omega) hk' hcc (by rfl) (by rw [hl]; decide) (by rw [hl]; decide) (by decide) ?_
    rw [aL_1, e0, e1, e2, e3]
    refine c_ob (by omega) (by rfl) ?_
    refine c_qV p1 ?_
    refine c_let ?_
    rw [show (1 : Int32) = nI 1 from rfl, nI_add]
    exact nx
  refine w_X12_compare S _ _ _ ?_
  refine c_gr (by omega) (by rfl) (by rfl) (by rfl) ?_
  refine c_gW (by omega) (by rfl) (by rfl) (by rfl) ?_
  refine c_gH (by omega) (by rfl) (by rfl) (by rfl) ?_
  refine c_ob (by omega) (by rfl) ?_
  refine c_qV p0 ?_
  exact key 0 (Nat.zero_le _) w0 ⟨g0.1, fun j i hj hi => by
    rw [g0.2 j i hj hi]
    show true = !mkdB 0 K (64 * j + i)
    have e9 : mkdB 0 K (64 * j + i) = false := pB_no.mpr (fun ⟨z, h1, _⟩ => absurd h1 (Nat.not_lt_zero z))
    rw [e9]
    rfl⟩
end DF

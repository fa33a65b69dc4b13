/-! REGIONS FORMED: all of them, by the class -/
def mkW (W H : Nat) (F : Nat → Nat → Bool) : Nat → Int64 := fun y => if y < H then rwB (F y) W else 0
theorem mkW_B {W H : Nat} (hW : W ≤ 64) (F : Nat → Nat → Bool) : gB W H F (mkW W H F) := by
  refine ⟨fun y x q => ?_, fun y x hy hx => ?_⟩
  · unfold mkW at q
    by_cases c : y < H
    · rw [if_pos c, lb_rwB _ (lb_lt q) W hW, Bool.and_eq_true, decide_eq_true_eq] at q
      exact ⟨q.1, c⟩
    · rw [if_neg c, lb_0] at q
      cases q
  · unfold mkW
    rw [if_pos hy, lb_rwB _ (by omega) W hW, decide_eq_true hx, Bool.true_and]
/-- a region as the class keeps it -/
def rgD (m : mM) (q : Nat) (F G : Nat → Int64) : Prop := ptX m (147 + 5 * q + 1) F ∧ ptX m (147 + 5 * q + 3) G ∧ m.2.2 (147 + 5 * q + 1) 8 = none ∧ m.2.2 (147 + 5 * q + 3) 8 = none ∧ rgX m (147 + 5 * q) (fun y => F y ||| G y) ∧ m.2.2 70 q = some (147 + 5 * q)
def foP (a _j : Nat) : Bool := decide (147 ≤ a) || (a == 69 || a == 70)
def fsP (r a j : Nat) : Bool := decide (147 + 5 * r ≤ a) || ((a == 70 && j == r) || (a == 69 && j == r))
theorem rgX_fr {m m' : mM} {R : Nat} {F : Nat → Int64} {K : Nat → Nat → Bool} (X : rgX m R F) (Q : fr K m m') (h : ∀ j, K R j = false) : rgX m' R F := by
  obtain ⟨l, t, r, b, q1, q2, q3, q4, q5, q6, q7⟩ := X
  exact ⟨l, t, r, b, q1, q2, q3, by rw [fr_i Q R 2 (h 2)]; exact q4, by rw [fr_i Q R 3 (h 3)]; exact q5, by rw [fr_i Q R 4 (h 4)]; exact q6, by rw [fr_i Q R 5 (h 5)]; exact q7⟩
theorem rgD_fr {m m' : mM} {q : Nat} {F G : Nat → Int64} {K : Nat → Nat → Bool} (X : rgD m q F G) (Q : fr K m m') (h : ∀ a j, 147 + 5 * q ≤ a → a < 152 + 5 * q → K a j = false) (h70 : K 70 q = false) : rgD m' q F G := by
  obtain ⟨x1, x2, x3, x4, x5, x6⟩ := X
  refine ⟨ptX_fr x1 Q (fun j _ _ => h _ j (by omega) (by omega)) (fun j => h _ j (by omega) (by omega)), ptX_fr x2 Q (fun j _ _ => h _ j (by omega) (by omega)) (fun j => h _ j (by omega) (by omega)), by rw [fr_r Q _ 8 (h _ 8 (by omega) (by omega))]; exact x3, by rw [fr_r Q _ 8 (h _ 8 (by omega) (by omega))]; exact x4, rgX_fr x5 Q (fun j => h _ j (by omega) (by omega)), by rw [fr_r Q 70 q h70]; exact x6⟩
theorem fs_lo {r a j : Nat} (h : a < 147) (h1 : a ≠ 70) (h2 : a ≠ 69) : fsP r a j = false := by
  unfold fsP
  rw [decide_eq_false (by omega), beq_eq_false_iff_ne.mpr h1, beq_eq_false_iff_ne.mpr h2]
  rfl
theorem fs_cl {r i a j : Nat} (hi : 1 ≤ i) (h : fsP r a j = false) : clQ (147 + 5 * r + i) a j = false := by
  unfold fsP at h
  rw [Bool.or_eq_false_iff, decide_eq_false_iff_not] at h
  unfold clQ
  rw [beq_eq_false_iff_ne.mpr (show a ≠ 147 + 5 * r + i + 1 by omega), beq_eq_false_iff_ne.mpr (show a ≠ 147 + 5 * r + i by omega)]
  rfl
theorem fs_rg {r a j : Nat} (h : fsP r a j = false) : rgsP (147 + 5 * r) a j = false := by
  unfold fsP at h
  rw [Bool.or_eq_false_iff, decide_eq_false_iff_not] at h
  unfold rgsP rgP ptP
  rw [beq_eq_false_iff_ne.mpr (show a ≠ 147 + 5 * r by omega), beq_eq_false_iff_ne.mpr (show a ≠ 147 + 5 * r + 1 by omega), beq_eq_false_iff_ne.mpr (show a ≠ 147 + 5 * r + 1 + 1 by omega), beq_eq_false_iff_ne.mpr (show a ≠ 147 + 5 * r + 3 by omega), beq_eq_false_iff_ne.mpr (show a ≠ 147 + 5 * r + 3 + 1 by omega)]
  rfl
section FA
variable {S : xS} {W H n : Nat} {m : mM} {B c rr : Nat} {P : Nat → Bool} {Ms Ad : Nat → Int64}
/-- what the region is formed from -/
def fmS (m : mM) (W H B c rr : Nat) (P : Nat → Bool) (Ms Ad : Nat → Int64) (N : Nat) : Prop := m.2.1 79 = Ms ∧ m.2.1 81 = Ad ∧ m.1 64 8 = nI B ∧ m.1 64 9 = nI c ∧ m.1 64 10 = nI rr ∧ (∀ b, b < c * rr → m.1 66 b = labV P (phi c b)) ∧ m.1 64 17 = nI N
theorem fmS_fr {m' : mM} {N : Nat} {K : Nat → Nat → Bool} (X : fmS m W H B c rr P Ms Ad N) (Q : fr K m m') (h : ∀ a j, a < 147 → a ≠ 70 → a ≠ 69 → K a j = false) : fmS m' W H B c rr P Ms Ad N := by
  obtain ⟨x1, x2, x3, x4, x5, x6, x7⟩ := X
  exact ⟨by rw [fr_L Q 79 (fun j => h 79 j (by decide) (by decide) (by decide))]; exact x1, by rw [fr_L Q 81 (fun j => h 81 j (by decide) (by decide) (by decide))]; exact x2, by rw [fr_i Q 64 8 (h 64 8 (by decide) (by decide) (by decide))]; exact x3, by rw [fr_i Q 64 9 (h 64 9 (by decide) (by decide) (by decide))]; exact x4, by rw [fr_i Q 64 10 (h 64 10 (by decide) (by decide) (by decide))]; exact x5, fun b hb => by rw [fr_i Q 66 b (h 66 b (by decide) (by decide) (by decide))]; exact x6 b hb, by rw [fr_i Q 64 17 (h 64 17 (by decide) (by decide) (by decide))]; exact x7⟩
noncomputable def frest (S : xS) (r : Nat) (R : Nat) (h5 : xH) : Option xO := (xGr h5 R 7 0).bind fun v8 => (xGr h5 64 1 5).bind fun v9 => if xOb h5 64 1 = true then xqV (xM S mX1_collect [.ref 64, .ref v8, .ref v9, .int (nI r)] h5) xth fun h11 => (xGr h11 R 7 1).bind fun v13 => (xGr h11 64 1 6).bind fun v14 => if xOb h11 64 1 = true then xqV (xM S mX1_collect [.ref 64, .ref v13, .ref v14, .int (nI r)] h11) xth fun h16 => if xOb h16 R 7 = true then xqV (xM S mX7_settle [.ref R] h16) xth fun h19 => (xGr h19 64 1 16).bind fun v21 => (xWr h19 v21 (nI r) R).bind fun h22 => xlet (nI r + (1 : Int32)) fun v23 => (xden S mX1_formRegions 2 [(0, .ref 64), (1, .int v23)] [] h22) else none else none else none
theorem form1 (hW8 : 8 ≤ W) (hW : W ≤ 64) (hH8 : 8 ≤ H) (hH : H ≤ 64) (hB : 4 ≤ B) (hB2 : B ≤ 16) (ec : c = coB W B) (er : rr = coB H B) (c1 : 1 ≤ c) (c2 : c ≤ 16) (r1 : 1 ≤ rr) (r2 : rr ≤ 16) (oM : okP W H Ms) (oA : okP W H Ad) {N : Nat} (X : fmS m W H B c rr P Ms Ad N) {r : Nat} (hr : r < n) (hr2 : r < 256) (ne : ctP (mkW W H (rgF Ms P B r)) ≠ 0 ∨ ctP (mkW W H (rgF Ad P B r)) ≠ 0) : ∃ m', rgD m' r (mkW W H (rgF Ms P B r)) (mkW W H (rgF Ad P B r)) ∧ m'.2.2 69 = m.2.2 69 ∧ fr (fsP r) m m' ∧ ∀ {o : xO}, xden S mX1_formRegions 2 [(0, .ref 64), (1, .int (nI (r + 1)))] [] (E W H n m') = some o → frest S r (147 + 5 * r) (E W H n m) = some o := by
  have gM := mkW_B (H := H) hW (rgF Ms P B r)
  have gA := mkW_B (H := H) hW (rgF Ad P B r)
  generalize mkW W H (rgF Ms P B r) = F at *
  generalize mkW W H (rgF Ad P B r) = G at *
  have k0 : eK (147 + 5 * r) = (0, 7) := eK_q (i := 0) (by decide)
  have A : ptA (147 + 5 * r + 1) n := ⟨eK_q (by decide), eK_q (i := 2) (by decide), by omega⟩
  have B' : ptA (147 + 5 * r + 3) n := ⟨eK_q (by decide), eK_q (i := 4) (by decide), by omega⟩
  have I78 := im_82.2.2.2.1
  have I80 := im_82.2.2.2.2.1
  have z70 : 256 = eL H 70 := rfl
  obtain ⟨x1, x2, x3, x4, x5, x6, x7⟩ := X
  have X : fmS m W H B c rr P Ms Ad N := ⟨x1, x2, x3, x4, x5, x6, x7⟩
  obtain ⟨m1, j1, j2, j3, j4⟩ := collect_s (S := S) (n := n) hW8 hW hH8 hH hB hB2 ec er c1 c2 r1 r2 A (by omega) I78 x1 oM x3 x4 x5 x6 (r := r) (by omega) gM
  have Q1 : fr (fsP r) m m1 := fr_mono j4 (fun a j w => fs_cl (by decide) w)
  obtain ⟨y1, y2, y3, y4, y5, y6, y7⟩ := fmS_fr X Q1 (fun a j h1 h2 h3 => fs_lo h1 h2 h3)
  obtain ⟨m2, g1, g2, g3, g4⟩ := collect_s (S := S) (n := n) (m := m1) hW8 hW hH8 hH hB hB2 ec er c1 c2 r1 r2 B' (by omega) I80 y2 oA y3 y4 y5 y6 (r := r) (by omega) gA
  have Q2 : fr (fsP r) m m2 := fr_tr Q1 (fr_mono g4 (fun a j w => fs_cl (by decide) w))
  have off3 : ∀ i j, i = 1 ∨ i = 2 → clQ (147 + 5 * r + 3) (147 + 5 * r + i) j = false := fun i j hi => by
    unfold clQ
    rw [beq_eq_false_iff_ne.mpr (show 147 + 5 * r + i ≠ 147 + 5 * r + 3 + 1 by omega), beq_eq_false_iff_ne.mpr (show 147 + 5 * r + i ≠ 147 + 5 * r + 3 by omega)]
    rfl
  obtain ⟨m3, s1, s2, s3, s4, s5⟩ := rsettle_s (S := S) (n := n) (m := m2) hr gM.1 gA.1 hH (fun y hy => by
    rw [fr_l g4 (147 + 5 * r + 2) y (off3 2 y (Or.inr rfl))]
    exact j2 y hy) (fun y hy => g2 y hy) ne
  have Q3 : fr (fsP r) m m3 := fr_tr Q2 (fr_mono s5 (fun a j w => fs_rg w))
  have rg8 : ∀ i, i = 1 ∨ i = 3 → rgsP (147 + 5 * r) (147 + 5 * r + i) 8 = false := fun i hi => by
    unfold rgsP rgP ptP
    rcases hi with rfl | rfl
    · rw [beq_eq_false_iff_ne.mpr (show 147 + 5 * r + 1 ≠ 147 + 5 * r by omega), beq_eq_false_iff_ne.mpr (show 147 + 5 * r + 1 ≠ 147 + 5 * r + 1 + 1 by omega), beq_eq_false_iff_ne.mpr (show 147 + 5 * r + 1 ≠ 147 + 5 * r + 3 + 1 by omega), beq_eq_false_iff_ne.mpr (show 147 + 5 * r + 1 ≠ 147 + 5 * r + 3 by omega)]
      simp
    · rw [beq_eq_false_iff_ne.mpr (show 147 + 5 * r + 3 ≠ 147 + 5 * r by omega), beq_eq_false_iff_ne.mpr (show 147 + 5 * r + 3 ≠ 147 + 5 * r + 1 + 1 by omega), beq_eq_false_iff_ne.mpr (show 147 + 5 * r + 3 ≠ 147 + 5 * r + 3 + 1 by omega), beq_eq_false_iff_ne.mpr (show 147 + 5 * r + 3 ≠ 147 + 5 * r + 1 by omega)]
      simp
  have e69 : m3.2.2 69 = m.2.2 69 := by
    rw [fr_R s5 69 (fun y => by unfold rgsP rgP ptP; rw [beq_eq_false_iff_ne.mpr (show 69 ≠ 147 + 5 * r by omega), beq_eq_false_iff_ne.mpr (show 69 ≠ 147 + 5 * r + 1 by omega), beq_eq_false_iff_ne.mpr (show 69 ≠ 147 + 5 * r + 1 + 1 by omega), beq_eq_false_iff_ne.mpr (show 69 ≠ 147 + 5 * r + 3 by omega), beq_eq_false_iff_ne.mpr (show 69 ≠ 147 + 5 * r + 3 + 1 by omega)]; rfl), fr_R g4 69 (fun y => by unfold clQ; rw [beq_eq_false_iff_ne.mpr (show 69 ≠ 147 + 5 * r + 3 by omega), beq_eq_false_iff_ne.mpr (show 69 ≠ 147 + 5 * r + 3 + 1 by omega)]; rfl), fr_R j4 69 (fun y => by unfold clQ; rw [beq_eq_false_iff_ne.mpr (show 69 ≠ 147 + 5 * r + 1 by omega), beq_eq_false_iff_ne.mpr (show 69 ≠ 147 + 5 * r + 1 + 1 by omega)]; rfl)]
  have K70 : fr (fun a _ => a == 70) m3 (sR m3 70 r (some (147 + 5 * r))) := fr_sR fr_rf (by rfl)
  refine ⟨sR m3 70 r (some (147 + 5 * r)), ⟨ptX_fr s2 K70 (fun j _ _ => beq_eq_false_iff_ne.mpr (by omega)) (fun j => beq_eq_false_iff_ne.mpr (by omega)), ptX_fr s3 K70 (fun j _ _ => beq_eq_false_iff_ne.mpr (by omega)) (fun j => beq_eq_false_iff_ne.mpr (by omega)), ?_, ?_, rgX_fr s4 K70 (fun j => beq_eq_false_iff_ne.mpr (by omega)), sR_eq ⟨rfl, rfl⟩⟩, ?_, fr_sR Q3 ?_, fun {o} ho => ?_⟩
  · rw [sR_ne (by omega), fr_r s5 _ 8 (rg8 1 (Or.inl rfl)), fr_r g4 (147 + 5 * r + 1) 8 (off3 1 8 (Or.inl rfl))]
    exact j3
  · rw [sR_ne (by omega), fr_r s5 _ 8 (rg8 3 (Or.inr rfl))]
    exact g3
  · funext y
    rw [sR_ne (by omega), e69]
  · unfold fsP
    simp
  · unfold frest
    refine c_gr (by omega) k0 (by rfl) (by rfl) ?_
    refine c_gr (by omega) (by rfl) (by rfl) (by rfl) ?_
    refine c_ob (by omega) (by rfl) ?_
    refine c_qV j1 ?_
    refine c_gr (by omega) k0 (by rfl) (by rfl) ?_
    refine c_gr (by omega) (by rfl) (by rfl) (by rfl) ?_
    refine c_ob (by omega) (by rfl) ?_
    refine c_qV g1 ?_
    refine c_ob (by omega) k0 ?_
    refine c_qV s1 ?_
    refine c_gr (by omega) (by rfl) (by rfl) (by rfl) ?_
    refine c_wr (i := r) (ci := 7) (by omega) (by rfl) (by decide) (by rfl) (by rfl) (by first | omega | ((conv => rhs; whnf); first | omega | (show _ < OfNat.ofNat (α := Nat) _; omega))) (by first | omega | ((conv => lhs; whnf); first | omega | (show OfNat.ofNat (α := Nat) _ < _; omega))) (by omega) k0 (by rfl) ?_
    refine c_let ?_
    rw [show (1 : Int32) = nI 1 from rfl, nI_add]
    exact ho
theorem formAll (hW8 : 8 ≤ W) (hW : W ≤ 64) (hH8 : 8 ≤ H) (hH : H ≤ 64) (hB : 4 ≤ B) (hB2 : B ≤ 16) (ec : c = coB W B) (er : rr = coB H B) (c1 : 1 ≤ c) (c2 : c ≤ 16) (r1 : 1 ≤ rr) (r2 : rr ≤ 16) (oM : okP W H Ms) (oA : okP W H Ad) {N : Nat} (hN : N ≤ 256) (ne : ∀ r, r < N → ctP (mkW W H (rgF Ms P B r)) ≠ 0 ∨ ctP (mkW W H (rgF Ad P B r)) ≠ 0) : ∀ (d r n : Nat) (m : mM), r + d = N → r ≤ n → fdI m n → fmS m W H B c rr P Ms Ad N → (∀ q, q < r → rgD m q (mkW W H (rgF Ms P B q)) (mkW W H (rgF Ad P B q))) → ∃ m', xden S mX1_formRegions 2 [(0, .ref 64), (1, .int (nI r))] [] (E W H n m) = some (.inl none, E W H (max n N) m', 5 * (max n N - n), 159 * (max n N - n)) ∧ (∀ q, q < N → rgD m' q (mkW W H (rgF Ms P B q)) (mkW W H (rgF Ad P B q))) ∧ fdI m' (max n N) ∧ fr foP m m' := by
  have z70 : 256 = eL 0 70 := rfl
  have fo_fs : ∀ r a j, foP a j = false → fsP r a j = false := fun r a j w => by
    unfold foP at w
    rw [Bool.or_eq_false_iff, Bool.or_eq_false_iff, decide_eq_false_iff_not, beq_eq_false_iff_ne, beq_eq_false_iff_ne] at w
    exact fs_lo (by omega) w.2.2 w.2.1
  intro d
  induction d with
  | zero =>
    intro r n m e hr X Y Z
    have en : max n N = n := by omega
    rw [en, Nat.sub_self]
    refine ⟨m, w_X1_formRegions_2 S _ _ _ _ ?_, fun q hq => Z q (by omega), X, fr_rf⟩
    refine c_gi (by omega) (by rfl) (by rfl) (by rfl) ?_
    rw [Y.2.2.2.2.2.2]
    refine c_ift ((nI_leI (by omega) (by omega)).mpr (by omega)) ?_
    rfl
  | succ d ih =>
    intro r n m e hr X Y Z
    have start : ∀ {R n' : Nat} {m1 : mM} {v : Option Value ⊕ String} {h2 : xH} {a b a' b' : Nat}, xM S mX1_find [.ref 64, .int (nI r)] (E W H n m) = some (.inl (some (.ref R)), E W H n' m1, a, b) → frest S r R (E W H n' m1) = some (v, h2, a', b') → xden S mX1_formRegions 2 [(0, .ref 64), (1, .int (nI r))] [] (E W H n m) = some (v, h2, a' + a, b' + b) := fun {R n' m1 v h2 a b a' b'} h1 h2 => by
      refine w_X1_formRegions_2 S _ _ _ _ ?_
      refine c_gi (by omega) (by rfl) (by rfl) (by rfl) ?_
      rw [Y.2.2.2.2.2.2]
      refine c_iff (fun w => by have := (nI_leI (by omega) (by omega)).mp w; omega) ?_
      refine c_gr (by omega) (by rfl) (by rfl) (by rfl) ?_
      refine c_rz (by omega) (by rfl) (show 256 = eL H 70 from rfl) ?_
      refine c_iff (fun w => by have := (nI_leI (by omega) (by omega)).mp w; omega) ?_
      refine c_ob (by omega) (by rfl) ?_
      exact k_N h1 h2
    rcases Nat.lt_or_eq_of_le hr with lt | eq
    · obtain ⟨m1, j1, j2, j3, j4⟩ := form1 (S := S) (n := n) (m := m) hW8 hW hH8 hH hB hB2 ec er c1 c2 r1 r2 oM oA Y lt (by omega) (ne r (by omega))
      obtain ⟨m2, g1, g2, g3, g4⟩ := ih (r + 1) n m1 (by omega) (by omega) ⟨X.1, fun q hq => by rw [j2]; exact X.2.1 q hq, fun q h1 h2 => by rw [j2]; exact X.2.2 q h1 h2⟩ (fmS_fr Y j3 (fun a j h1 h2 h3 => fs_lo h1 h2 h3)) (fun q hq => by
        by_cases eq : q = r
        · rw [eq]; exact j1
        · exact rgD_fr (Z q (by omega)) j3 (fun a j h1 h2 => by unfold fsP; rw [decide_eq_false (by omega), beq_eq_false_iff_ne.mpr (show a ≠ 70 by omega), beq_eq_false_iff_ne.mpr (show a ≠ 69 by omega)]; rfl) (by unfold fsP; rw [decide_eq_false (by omega), beq_eq_false_iff_ne.mpr (show q ≠ r from eq)]; rfl))
      exact ⟨m2, start (find_old X lt) (j4 g1), g2, g3, fr_tr (fr_mono j3 (fo_fs r)) g4⟩
    · subst eq
      have hn : r < 256 := by omega
      have fn := find_new (S := S) (W := W) (H := H) X hn
      generalize hz : sR (zR m r) 69 r (some (147 + 5 * r)) = mz at fn
      have old : ∀ a, a < 147 + 5 * r → mz.1 a = m.1 a ∧ mz.2.1 a = m.2.1 a ∧ ∀ j, ¬ (a = 69 ∧ j = r) → mz.2.2 a j = m.2.2 a j := fun a ha => by
        obtain ⟨z1, z2, z3⟩ := zR_old (m := m) (n := r) ha
        rw [← hz, sR_1, sR_2]
        exact ⟨z1, z2, fun j hj => by rw [sR_ne hj, z3]⟩
      have Qz : fr (fsP r) m mz := fun a j w => by
        unfold fsP at w
        rw [Bool.or_eq_false_iff, Bool.or_eq_false_iff, decide_eq_false_iff_not, Bool.and_eq_false_iff, Bool.and_eq_false_iff, beq_eq_false_iff_ne, beq_eq_false_iff_ne, beq_eq_false_iff_ne] at w
        obtain ⟨z1, z2, z3⟩ := old a (by omega)
        exact ⟨by rw [z1], by rw [z2], z3 j (by omega)⟩
      have Xz : fdI mz (r + 1) := by
        refine ⟨by omega, fun q hq => ?_, fun q h1 h2 => ?_⟩
        · by_cases eq : q = r
          · rw [eq, ← hz, sR_eq ⟨rfl, rfl⟩]
          · rw [(old 69 (by omega)).2.2 q (by omega)]
            exact X.2.1 q (by omega)
        · rw [(old 69 (by omega)).2.2 q (by omega)]
          exact X.2.2 q (by omega) h2
      have Yz := fmS_fr Y Qz (fun a j h1 h2 h3 => fs_lo h1 h2 h3)
      have keepQ : ∀ q, q < r → (∀ a j, 147 + 5 * q ≤ a → a < 152 + 5 * q → fsP r a j = false) ∧ fsP r 70 q = false := fun q hq => ⟨fun a j h1 h2 => by unfold fsP; rw [decide_eq_false (by omega), beq_eq_false_iff_ne.mpr (show a ≠ 70 by omega), beq_eq_false_iff_ne.mpr (show a ≠ 69 by omega)]; rfl, by unfold fsP; rw [decide_eq_false (by omega), beq_eq_false_iff_ne.mpr (show q ≠ r by omega)]; rfl⟩
      obtain ⟨m1, j1, j2, j3, j4⟩ := form1 (S := S) (n := r + 1) (m := mz) hW8 hW hH8 hH hB hB2 ec er c1 c2 r1 r2 oM oA Yz (Nat.lt_succ_self r) (by omega) (ne r (by omega))
      obtain ⟨m2, g1, g2, g3, g4⟩ := ih (r + 1) (r + 1) m1 (by omega) (Nat.le_refl _) ⟨Xz.1, fun q hq => by rw [j2]; exact Xz.2.1 q hq, fun q h1 h2 => by rw [j2]; exact Xz.2.2 q h1 h2⟩ (fmS_fr Yz j3 (fun a j h1 h2 h3 => fs_lo h1 h2 h3)) (fun q hq => by
        by_cases eq : q = r
        · rw [eq]; exact j1
        · exact rgD_fr (rgD_fr (Z q (by omega)) Qz (keepQ q (by omega)).1 (keepQ q (by omega)).2) j3 (keepQ q (by omega)).1 (keepQ q (by omega)).2)
      have go := start fn (j4 g1)
      have eN : max r N = max (r + 1) N := by omega
      rw [eN]
      refine ⟨m2, ?_, g2, g3, fr_tr (fr_mono Qz (fo_fs r)) (fr_tr (fr_mono j3 (fo_fs r)) g4)⟩
      rw [show 5 * (max (r + 1) N - r) = 5 * (max (r + 1) N - (r + 1)) + 5 by omega, show 159 * (max (r + 1) N - r) = 159 * (max (r + 1) N - (r + 1)) + 159 by omega]
      exact go
theorem formRegions_s (hW8 : 8 ≤ W) (hW : W ≤ 64) (hH8 : 8 ≤ H) (hH : H ≤ 64) (hB : 4 ≤ B) (hB2 : B ≤ 16) (ec : c = coB W B) (er : rr = coB H B) (c1 : 1 ≤ c) (c2 : c ≤ 16) (r1 : 1 ≤ rr) (r2 : rr ≤ 16) (oM : okP W H Ms) (oA : okP W H Ad) {N : Nat} (hN : N ≤ 256) (ne : ∀ r, r < N → ctP (mkW W H (rgF Ms P B r)) ≠ 0 ∨ ctP (mkW W H (rgF Ad P B r)) ≠ 0) (X : fdI m n) (Y : fmS m W H B c rr P Ms Ad N) : ∃ m', xM S mX1_formRegions [.ref 64] (E W H n m) = some (.inl none, E W H (max n N) m', 5 * (max n N - n), 159 * (max n N - n)) ∧ (∀ q, q < N → rgD m' q (mkW W H (rgF Ms P B q)) (mkW W H (rgF Ad P B q))) ∧ fdI m' (max n N) ∧ fr foP m m' := by
  obtain ⟨m', k1, k2⟩ := formAll (S := S) hW8 hW hH8 hH hB hB2 ec er c1 c2 r1 r2 oM oA hN ne N 0 n m (by omega) (Nat.zero_le _) X Y (fun q hq => absurd hq (Nat.not_lt_zero q))
  exact ⟨m', w_X1_formRegions S _ _ _ k1, k2⟩
end FA

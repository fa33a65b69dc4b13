/-! REGIONS FORMED: the class collects the pixels of each -/
/-- is a pixel in a block of a region -/
noncomputable def rgB (P : Nat → Bool) (B r k : Nat) : Bool := P (blk B k) && decide (lbN P (blk B k) = r)
noncomputable def rgF (f : Nat → Int64) (P : Nat → Bool) (B r j i : Nat) : Bool := lb (f j) i && rgB P B r (64 * j + i)
theorem blk_xy {B : Nat} {j i : Nat} (hi : i < 64) : blk B (64 * j + i) = 16 * (j / B) + i / B := by
  unfold blk
  rw [show (64 * j + i) / 64 = j by omega, show (64 * j + i) % 64 = i by omega]
theorem labV_is {P : Nat → Bool} {k r : Nat} (hk : k < 256) (hr : r ≤ 256) : labV P k = nI r ↔ P k = true ∧ lbN P k = r := by
  unfold labV
  by_cases p : P k = true
  · obtain ⟨_, _, _, _, _, ll⟩ := lbN_lt hk p
    have := nS_256 P
    rw [if_pos p, nI_eq (by omega) (by omega)]
    exact ⟨fun h => ⟨p, h⟩, fun h => h.2⟩
  · rw [if_neg p]
    refine ⟨fun h => ?_, fun h => absurd h.1 p⟩
    have := congrArg Int32.toInt h
    rw [nI_toInt (by omega), show (-1 : Int32).toInt = -1 from by decide] at this
    omega
section FR
variable {S : xS} {W H n : Nat} {m : mM} {p a B c rr : Nat} {f : Nat → Int64} {P : Nat → Bool}
theorem begin_p (I : ptA p n) : xM S mX5_begin [.ref p] (E W H n m) = some (.inl none, E W H n (sR (aL m (p + 1) (fa_fill (fun _ => 0) (m.2.1 (p + 1)) 64)) p 8 none), 0, 0) := by
  obtain ⟨I1, I2, I3⟩ := I
  have l64 : 64 = eL H (p + 1) := (eL_pt ⟨I1, I2, I3⟩).symm
  refine w_X5_begin S _ _ _ ?_
  refine x_fo 64 (fun k s => xden S mX5_begin 2 [(0, .ref p), (1, .int (nI k))] [] (E W H n s)) (fun k => aL m (p + 1) (fa_fill (fun _ => 0) (m.2.1 (p + 1)) k)) (by (try dsimp only); rw [fa_fill_0, aL_self m _ rfl]) (fun k hk ih => ?_) ?_
  · (try dsimp only at ih ⊢)
    rw [← sL_aL] at ih
    refine w_X5_begin_2 S _ _ _ _ ?_
    refine c_gr (by omega) I1 (by rfl) (by rfl) ?_
    refine c_rz I3 I2 l64 ?_
    refine c_iff (fun q => by have := (nI_leI (a := 64) (by omega) (by omega)).mp q; omega) ?_
    refine c_gr (by omega) I1 (by rfl) (by rfl) ?_
    refine c_wl (i := k) I3 I2 (by rfl) (by rw [← l64]; exact hk) (by rw [← l64]; decide) ?_
    refine c_let ?_
    rw [show (1 : Int32) = nI 1 from rfl, nI_add]
    exact ih
  · (try dsimp only)
    refine w_X5_begin_2 S _ _ _ _ ?_
    refine c_gr (by omega) I1 (by rfl) (by rfl) ?_
    refine c_rz I3 I2 l64 ?_
    refine c_ift (by decide) ?_
    refine c_pn (by omega) I1 (by rfl) (by rfl) (xPok_null (by decide) (by rfl)) ?_
    rfl
theorem takeRow_s (I : ptA p n) {y : Nat} (hy : y < 64) (v : Int64) : xM S mX5_takeRow [.ref p, .int (nI y), .long v] (E W H n m) = some (.inl none, E W H n (sL m (p + 1) y v), 0, 0) := by
  obtain ⟨I1, I2, I3⟩ := I
  have l64 : 64 = eL H (p + 1) := (eL_pt ⟨I1, I2, I3⟩).symm
  refine w_X5_takeRow S _ _ _ _ _ ?_
  refine c_iff (nI_pos (by omega)) ?_
  refine c_gr (by omega) I1 (by rfl) (by rfl) ?_
  refine c_rz I3 I2 l64 ?_
  refine c_iff (fun q => by have := (nI_leI (a := 64) (by omega) (by omega)).mp q; omega) ?_
  refine c_gr (by omega) I1 (by rfl) (by rfl) ?_
  refine c_wl (i := y) I3 I2 (by rfl) (by rw [← l64]; exact hy) (by rw [← l64]; decide) ?_
  rfl
theorem spanOf_s (hB : 4 ≤ B) (hB2 : B ≤ 16) (c1 : 1 ≤ c) (c2 : c ≤ 16) (r2 : rr ≤ 16) (e8 : m.1 64 8 = nI B) (e9 : m.1 64 9 = nI c) (e66 : ∀ b, b < c * rr → m.1 66 b = labV P (phi c b)) {r j : Nat} (hr : r ≤ 256) (hj : j < rr) : ∃ v, xM S mX1_spanOf [.ref 64, .int (nI r), .int (nI j)] (E W H n m) = some (.inl (some (.long v)), E W H n m, 0, 0) ∧ ∀ i, i < 64 → (lb v i = true ↔ i / B < c ∧ P (16 * j + i / B) = true ∧ lbN P (16 * j + i / B) = r) := by
  have ar : c * rr ≤ 16 * 16 := Nat.mul_le_mul c2 r2
  have z66 : 256 = eL H 66 := rfl
  have L := x_sg (σ := Int64) (τ := Int64) (D := fun k v => xden S mX1_spanOf 5 [(0, .ref 64), (1, .int (nI r)), (2, .int (nI j)), (3, .long v), (5, .int (nI k))] [] (E W H n m)) (Inv := fun k v => ∀ i, i < 64 → (lb v i = true ↔ i / B < k ∧ P (16 * j + i / B) = true ∧ lbN P (16 * j + i / B) = r))
    (F := fun v => some (.inl (some (.long v)), E W H n m, 0, 0)) (Post := fun v => ∀ i, i < 64 → (lb v i = true ↔ i / B < c ∧ P (16 * j + i / B) = true ∧ lbN P (16 * j + i / B) = r)) c (fun k hk v hv => ?_) (fun v hv => ?_) 0 (fun i hi => by rw [lb_0]; exact ⟨fun h => (by cases h), fun h => absurd h.1 (Nat.not_lt_zero _)⟩)
  · obtain ⟨v, h1, h2⟩ := L
    exact ⟨v, w_X1_spanOf S _ _ _ _ _ (h2 _ rfl), h1⟩
  · left
    have bl : j * c + k < c * rr := by
      have : (j + 1) * c ≤ rr * c := Nat.mul_le_mul_right c (by omega)
      rw [Nat.succ_mul] at this
      rw [Nat.mul_comm c rr]
      omega
    have el := e66 _ bl
    rw [(phi_at c2 hk).1] at el
    have li := labV_is (P := P) (k := 16 * j + k) (by omega) hr
    have to : ∀ {o : xO}, (if ¬ labV P (16 * j + k) = nI r then (xlet (nI k + (1 : Int32)) fun v9 => (xden S mX1_spanOf 5 [(0, .ref 64), (1, .int (nI r)), (2, .int (nI j)), (3, .long v), (5, .int v9)] [] (E W H n m))) else ((xGi (E W H n m) 64 1 8).bind fun v10 => xqJ (xM S mX4_below [.int v10] (E W H n m)) xth fun v12 h11 => (xGi h11 64 1 8).bind fun v13 => xqJ (xM S mX4_moved [.long v12, .int (nI k * v13)] h11) xth fun v15 h14 => xlet (v ||| v15) fun v16 => xlet (nI k + (1 : Int32)) fun v17 => (xden S mX1_spanOf 5 [(0, .ref 64), (1, .int (nI r)), (2, .int (nI j)), (3, .long v16), (5, .int v17)] [] h14))) = some o → xden S mX1_spanOf 5 [(0, .ref 64), (1, .int (nI r)), (2, .int (nI j)), (3, .long v), (5, .int (nI k))] [] (E W H n m) = some o := fun {o} ho => by
      refine w_X1_spanOf_5 S _ _ _ _ _ _ _ ?_
      refine c_gi (by omega) (by rfl) (by rfl) (by rfl) ?_
      rw [e9]
      refine c_iff (fun q => by have := (nI_leI (by omega) (by omega)).mp q; omega) ?_
      refine c_gi (by omega) (by rfl) (by rfl) (by rfl) ?_
      rw [e9]
      refine c_let ?_
      rw [pk_mul, nI_add]
      refine c_gr (by omega) (by rfl) (by rfl) (by rfl) ?_
      refine c_rz (by omega) (by rfl) z66 ?_
      refine c_iff (fun q => by have := (nI_leI (a := 256) (by omega) (by omega)).mp q; omega) ?_
      refine c_gr (by omega) (by rfl) (by rfl) (by rfl) ?_
      refine c_ri (i := j * c + k) (by omega) (by rfl) (by rfl) (by rfl) (by first | omega | ((conv => rhs; whnf); first | omega | (show _ < OfNat.ofNat (α := Nat) _; omega))) (by first | omega | ((conv => lhs; whnf); first | omega | (show OfNat.ofNat (α := Nat) _ < _; omega))) (by decide) ?_
      rw [el]
      exact ho
    have kB : k * B ≤ 15 * 16 := Nat.mul_le_mul (by omega) hB2
    by_cases q : labV P (16 * j + k) = nI r
    · have mv := moved_s S (E W H n m) (wh B) (nI (k * B))
      rw [nI_toInt (by omega)] at mv
      refine ⟨v ||| mvd (wh B) ((k * B : Nat) : Int), fun i hi => ?_, fun o ho => to ?_⟩
      · rw [lb_or, Bool.or_eq_true, hv i hi, lb_mvd _ _ hi, lb_wh]
        have dk := dv_iff (a := i) (B := B) (c := k) (by omega)
        have bits : (decide (0 ≤ (i : Int) - ((k * B : Nat) : Int)) && (decide (((i : Int) - ((k * B : Nat) : Int)).toNat < 64) && decide (((i : Int) - ((k * B : Nat) : Int)).toNat < B))) = true ↔ i / B = k := by
          rw [Bool.and_eq_true, Bool.and_eq_true, decide_eq_true_eq, decide_eq_true_eq, decide_eq_true_eq, dk]
          generalize k * B = kb at *
          omega
        rw [bits]
        constructor
        · rintro (h | h)
          · exact ⟨by omega, h.2⟩
          · rw [h]
            exact ⟨by omega, li.mp q⟩
        · intro h
          by_cases e : i / B = k
          · exact Or.inr e
          · exact Or.inl ⟨by omega, h.2⟩
      · refine c_iff (fun w => w q) ?_
        refine c_gi (by omega) (by rfl) (by rfl) (by rfl) ?_
        rw [e8]
        refine c_qJ (below_s _ (by omega)) ?_
        refine c_gi (by omega) (by rfl) (by rfl) (by rfl) ?_
        rw [e8, pk_mul]
        refine c_qJ mv ?_
        refine c_let ?_
        refine c_let ?_
        rw [show (1 : Int32) = nI 1 from rfl, nI_add]
        exact ho
    · refine ⟨v, fun i hi => ?_, fun o ho => to ?_⟩
      · rw [hv i hi]
        refine ⟨fun h => ⟨by omega, h.2⟩, fun h => ⟨?_, h.2⟩⟩
        by_cases e : i / B = k
        · rw [e] at h
          exact absurd (li.mpr h.2) q
        · omega
      · refine c_ift q ?_
        refine c_let ?_
        rw [show (1 : Int32) = nI 1 from rfl, nI_add]
        exact ho
  · refine ⟨v, hv, fun o ho => w_X1_spanOf_5 S _ _ _ _ _ _ _ ?_⟩
    refine c_gi (by omega) (by rfl) (by rfl) (by rfl) ?_
    rw [e9]
    refine c_ift ((nI_leI (by omega) (by omega)).mpr (Nat.le_refl _)) ?_
    exact ho
def clQ (p a j : Nat) : Bool := a == p + 1 || (a == p && j == 8)
theorem collect_s (hW8 : 8 ≤ W) (hW : W ≤ 64) (hH8 : 8 ≤ H) (hH : H ≤ 64) (hB : 4 ≤ B) (hB2 : B ≤ 16) (ec : c = coB W B) (er : rr = coB H B) (c1 : 1 ≤ c) (c2 : c ≤ 16) (r1 : 1 ≤ rr) (r2 : rr ≤ 16) (I : ptA p n) (hp : 147 ≤ p) (J : imA a) (ea : m.2.1 (a + 1) = f) (o : okP W H f) (e8 : m.1 64 8 = nI B) (e9 : m.1 64 9 = nI c) (e10 : m.1 64 10 = nI rr) (e66 : ∀ b, b < c * rr → m.1 66 b = labV P (phi c b)) {r : Nat} (hr : r ≤ 256) {F : Nat → Int64} (hF : gB W H (rgF f P B r) F) : ∃ m', xM S mX1_collect [.ref 64, .ref p, .ref a, .int (nI r)] (E W H n m) = some (.inl none, E W H n m', 0, 0) ∧ (∀ y, y < 64 → m'.2.1 (p + 1) y = F y) ∧ m'.2.2 p 8 = none ∧ fr (clQ p) m m' := by
  obtain ⟨I1, I2, I3⟩ := I
  have I : ptA p n := ⟨I1, I2, I3⟩
  have J1 := J.1
  have J3 := J.2.2
  generalize h1 : sR (aL m (p + 1) (fa_fill (fun _ => 0) (m.2.1 (p + 1)) 64)) p 8 none = m1
  have cs : ∀ y, clQ p (p + 1) y = true := fun y => by unfold clQ; rw [beq_self_eq_true]; rfl
  have c8 : clQ p p 8 = true := by unfold clQ; rw [beq_self_eq_true]; simp
  have lo : ∀ a j, a < 147 → clQ p a j = false := fun a j h => by
    unfold clQ
    rw [beq_eq_false_iff_ne.mpr (show a ≠ p + 1 by omega), beq_eq_false_iff_ne.mpr (show a ≠ p by omega)]
    rfl
  have F1 : fr (clQ p) m m1 := by rw [← h1]; exact fr_sR (fr_aL fr_rf cs) c8
  have row : ∀ y, y < 64 → ∀ v, (∀ i, i < 64 → (lb v i = true ↔ i / B < c ∧ P (16 * (y / B) + i / B) = true ∧ lbN P (16 * (y / B) + i / B) = r)) → f y &&& v = F y := fun y hy v hv => lb_ext fun i hi => by
    rw [lb_and]
    by_cases w : i < W ∧ y < H
    · rw [hF.2 y i w.2 w.1]
      unfold rgF rgB
      rw [blk_xy hi]
      congr 1
      have ic : i / B < c := by rw [ec]; exact coB_x (by omega) w.1
      cases hb : lb v i
      · cases hp' : P (16 * (y / B) + i / B)
        · rfl
        · by_cases hl : lbN P (16 * (y / B) + i / B) = r
          · rw [(hv i hi).mpr ⟨ic, hp', hl⟩] at hb; cases hb
          · rw [decide_eq_false hl]; rfl
      · obtain ⟨_, q1, q2⟩ := (hv i hi).mp hb
        rw [q1, decide_eq_true q2]; rfl
    · have z1 : lb (f y) i = false := by
        cases h : lb (f y) i
        · rfl
        · exact absurd (o _ _ h) w
      have z2 : lb (F y) i = false := by
        cases h : lb (F y) i
        · rfl
        · exact absurd (hF.1 _ _ h) w
      rw [z1, z2, Bool.false_and]
  have L := x_sg (σ := mM) (τ := mM) (D := fun j s => xden S mX1_collect 7 [(0, .ref 64), (1, .ref p), (2, .ref a), (3, .int (nI r)), (4, .int (nI j))] [] (E W H n s)) (Inv := fun j s => (∀ y, y < 64 → s.2.1 (p + 1) y = if y < j * B then F y else 0) ∧ s.2.2 p 8 = none ∧ fr (clQ p) m s)
    (F := fun s => some (.inl none, E W H n s, 0, 0)) (Post := fun s => (∀ y, y < 64 → s.2.1 (p + 1) y = F y) ∧ s.2.2 p 8 = none ∧ fr (clQ p) m s) rr (fun j hj s hs => ?_) (fun s hs => ?_) m1 ⟨fun y hy => by rw [Nat.zero_mul, if_neg (Nat.not_lt_zero y), ← h1, sR_2, aL_eq rfl, fa_fill_in hy], by rw [← h1, sR_eq ⟨rfl, rfl⟩], F1⟩
  · obtain ⟨m', k1, k2⟩ := L
    refine ⟨m', w_X1_collect S _ _ _ _ _ _ ?_, k1.1, k1.2.1, k1.2.2⟩
    refine c_ob (by omega) I1 ?_
    refine c_qV (begin_p I) ?_
    rw [h1]
    exact k2 _ rfl
  · left
    obtain ⟨g1, g2, g3⟩ := hs
    have s8 : s.1 64 8 = nI B := by rw [fr_i g3 64 8 (lo _ _ (by decide))]; exact e8
    have s9 : s.1 64 9 = nI c := by rw [fr_i g3 64 9 (lo _ _ (by decide))]; exact e9
    have s10 : s.1 64 10 = nI rr := by rw [fr_i g3 64 10 (lo _ _ (by decide))]; exact e10
    have sf : s.2.1 (a + 1) = f := by rw [fr_L g3 (a + 1) (fun _ => lo _ _ (by omega))]; exact ea
    obtain ⟨v, v1, v2⟩ := spanOf_s (S := S) (W := W) (H := H) (n := n) (m := s) (P := P) hB hB2 c1 c2 r2 s8 s9 (fun b hb => by rw [fr_i g3 66 b (lo _ _ (by decide))]; exact e66 b hb) hr hj
    have jB : j * B + B = (j + 1) * B := (Nat.succ_mul j B).symm
    have jb2 : j * B ≤ 15 * 16 := Nat.mul_le_mul (by omega) hB2
    have jH : j * B < H := coB_lt (by omega) (by rw [← er]; exact hj)
    have inr : ∀ y, j * B ≤ y → y < j * B + B → y / B = j := fun y y1 y2 => (dv_iff (by omega)).mpr ⟨y1, y2⟩
    have start : ∀ {o : xO}, xden S mX1_collect 34 [(0, .ref 64), (1, .ref p), (2, .ref a), (3, .int (nI r)), (4, .int (nI j)), (5, .long v), (7, .int (nI (j * B)))] [] (E W H n s) = some o → xden S mX1_collect 7 [(0, .ref 64), (1, .ref p), (2, .ref a), (3, .int (nI r)), (4, .int (nI j))] [] (E W H n s) = some o := fun {o} ho => by
      refine w_X1_collect_7 S _ _ _ _ _ _ _ ?_
      refine c_gi (by omega) (by rfl) (by rfl) (by rfl) ?_
      rw [s10]
      refine c_iff (fun q => by have := (nI_leI (by omega) (by omega)).mp q; omega) ?_
      refine c_ob (by omega) (by rfl) ?_
      refine c_qJ v1 ?_
      refine c_gi (by omega) (by rfl) (by rfl) (by rfl) ?_
      refine c_let ?_
      rw [s8, pk_mul]
      exact ho
    by_cases z : v = 0
    · refine ⟨s, ⟨fun y hy => ?_, g2, g3⟩, fun o' ho => start ?_⟩
      · rw [g1 y hy]
        by_cases c1' : y < j * B
        · rw [if_pos c1', if_pos (by omega)]
        · rw [if_neg c1']
          by_cases c2' : y < (j + 1) * B
          · rw [if_pos c2', ← row y hy v (by rw [inr y (by omega) (by omega)]; exact v2), z]
            exact (lb_ext fun i _ => by rw [lb_and, lb_0, Bool.and_false]).symm
          · rw [if_neg c2']
      · refine w_X1_collect_34 S _ _ _ _ _ _ _ _ _ ?_
        refine c_ift ((lc_0 v).mpr z) ?_
        refine c_let ?_
        rw [show (1 : Int32) = nI 1 from rfl, nI_add]
        exact ho
    · have L2 := x_sg (σ := mM) (τ := mM) (D := fun k s => xden S mX1_collect 34 [(0, .ref 64), (1, .ref p), (2, .ref a), (3, .int (nI r)), (4, .int (nI j)), (5, .long v), (7, .int (nI (j * B + k)))] [] (E W H n s)) (Inv := fun k s => (∀ y, y < 64 → s.2.1 (p + 1) y = if y < j * B + k then F y else 0) ∧ s.2.2 p 8 = none ∧ fr (clQ p) m s)
        (F := fun s => xden S mX1_collect 7 [(0, .ref 64), (1, .ref p), (2, .ref a), (3, .int (nI r)), (4, .int (nI (j + 1)))] [] (E W H n s)) (Post := fun s => (∀ y, y < 64 → s.2.1 (p + 1) y = if y < (j + 1) * B then F y else 0) ∧ s.2.2 p 8 = none ∧ fr (clQ p) m s) (min H ((j + 1) * B) - j * B) (fun k hk e he => ?_) (fun e he => ?_) s ⟨fun y hy => by rw [Nat.add_zero]; exact g1 y hy, g2, g3⟩
      · obtain ⟨e, q1, q2⟩ := L2
        refine ⟨e, q1, fun o' ho => start ?_⟩
        have q2 := q2 o' ho
        rw [Nat.add_zero] at q2
        exact q2
      · left
        obtain ⟨h2, h3, h4⟩ := he
        have yH : j * B + k < H := by omega
        have rd := rowAt_E (S := S) (n := n) (m := e) hW hH J yH
        rw [show e.2.1 (a + 1) = f by rw [fr_L h4 (a + 1) (fun _ => lo _ _ (by omega))]; exact ea] at rd
        have w8 : e.1 64 8 = nI B := by rw [fr_i h4 64 8 (lo _ _ (by decide))]; exact e8
        have tr := takeRow_s (S := S) (W := W) (H := H) (m := e) I (y := j * B + k) (by omega) (f (j * B + k) &&& v)
        rw [row (j * B + k) (by omega) v (by rw [inr _ (by omega) (by omega)]; exact v2)] at tr
        refine ⟨sL e (p + 1) (j * B + k) (F (j * B + k)), ⟨fun y hy => ?_, by rw [sL_3]; exact h3, fr_sL h4 (cs _)⟩, fun o' ho => w_X1_collect_34 S _ _ _ _ _ _ _ _ _ ?_⟩
        · by_cases e1 : y = j * B + k
          · rw [e1, sL_eq ⟨rfl, rfl⟩, if_pos (by omega)]
          · rw [sL_ne (fun w => e1 w.2), h2 y hy]
            by_cases c1' : y < j * B + k
            · rw [if_pos c1', if_pos (by omega)]
            · rw [if_neg c1', if_neg (by omega)]
        · refine c_iff (fun w => z ((lc_0 v).mp w)) ?_
          refine c_gH (by omega) (by rfl) (by rfl) (by rfl) ?_
          refine c_iff (fun w => by have := (nI_leI (by omega) (by omega)).mp w; omega) ?_
          refine c_gi (by omega) (by rfl) (by rfl) (by rfl) ?_
          rw [w8, show (1 : Int32) = nI 1 from rfl, nI_add, pk_mul]
          refine c_iff (fun w => by have := (nI_leI (by omega) (by omega)).mp w; omega) ?_
          refine c_ob (by omega) J1 ?_
          refine c_qJ rd ?_
          refine c_ob (by omega) I1 ?_
          rw [row (j * B + k) (by omega) v (by rw [inr _ (by omega) (by omega)]; exact v2)]
          refine c_qV tr ?_
          refine c_let ?_
          rw [nI_add, Nat.add_assoc]
          exact ho
      · obtain ⟨h2, h3, h4⟩ := he
        have w8 : e.1 64 8 = nI B := by rw [fr_i h4 64 8 (lo _ _ (by decide))]; exact e8
        have top : j * B + (min H ((j + 1) * B) - j * B) = min H ((j + 1) * B) := by omega
        rw [top] at h2 ⊢
        refine ⟨e, ⟨fun y hy => ?_, h3, h4⟩, fun o' ho => w_X1_collect_34 S _ _ _ _ _ _ _ _ _ ?_⟩
        · rw [h2 y hy]
          by_cases c1' : y < min H ((j + 1) * B)
          · rw [if_pos c1', if_pos (by omega)]
          · rw [if_neg c1']
            by_cases c2' : y < (j + 1) * B
            · rw [if_pos c2', okP_out hF.1 (by omega)]
            · rw [if_neg c2']
        · refine c_iff (fun w => z ((lc_0 v).mp w)) ?_
          refine c_gH (by omega) (by rfl) (by rfl) (by rfl) ?_
          by_cases c1' : H ≤ (j + 1) * B
          · refine c_ift ((nI_leI (by omega) (by omega)).mpr (by omega)) ?_
            refine c_let ?_
            rw [show (1 : Int32) = nI 1 from rfl, nI_add]
            exact ho
          · refine c_iff (fun w => by have := (nI_leI (by omega) (by omega)).mp w; omega) ?_
            refine c_gi (by omega) (by rfl) (by rfl) (by rfl) ?_
            rw [w8, show (1 : Int32) = nI 1 from rfl, nI_add, pk_mul]
            refine c_ift ((nI_leI (by omega) (by omega)).mpr (by omega)) ?_
            refine c_let ?_
            exact ho
  · obtain ⟨g1, g2, g3⟩ := hs
    have s10 : s.1 64 10 = nI rr := by rw [fr_i g3 64 10 (lo _ _ (by decide))]; exact e10
    refine ⟨s, ⟨fun y hy => ?_, g2, g3⟩, fun o' ho => w_X1_collect_7 S _ _ _ _ _ _ _ ?_⟩
    · rw [g1 y hy]
      by_cases c1' : y < rr * B
      · rw [if_pos c1']
      · rw [if_neg c1', okP_out hF.1]
        rcases Nat.lt_or_ge y H with w | w
        · have := coB_x (B := B) (by omega) w
          rw [← er] at this
          have := (Nat.div_lt_iff_lt_mul (x := y) (y := rr) (show 0 < B by omega)).mp this
          omega
        · exact w
    · refine c_gi (by omega) (by rfl) (by rfl) (by rfl) ?_
      rw [s10]
      refine c_ift ((nI_leI (by omega) (by omega)).mpr (Nat.le_refl _)) ?_
      exact ho
end FR

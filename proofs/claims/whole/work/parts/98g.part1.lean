/-! PARTS: boxes and shapes; a part settles -/
/-- the smallest rectangle around the pixels -/
def isBox (f : Nat → Int64) (l t r b : Nat) : Prop := (∀ y x, lb (f y) x = true → l ≤ x ∧ x ≤ r ∧ t ≤ y ∧ y ≤ b) ∧ (∃ y, lb (f y) l = true) ∧ (∃ y, lb (f y) r = true) ∧ (∃ x, lb (f t) x = true) ∧ ∃ x, lb (f b) x = true
theorem isBox_one {f : Nat → Int64} {l t r b l' t' r' b' : Nat} (h : isBox f l t r b) (g : isBox f l' t' r' b') : l = l' ∧ t = t' ∧ r = r' ∧ b = b' := by
  obtain ⟨h1, ⟨_, h2⟩, ⟨_, h3⟩, ⟨_, h4⟩, ⟨_, h5⟩⟩ := h
  obtain ⟨g1, ⟨_, g2⟩, ⟨_, g3⟩, ⟨_, g4⟩, ⟨_, g5⟩⟩ := g
  have a2 := g1 _ _ h2
  have a3 := g1 _ _ h3
  have a4 := g1 _ _ h4
  have a5 := g1 _ _ h5
  have b2 := h1 _ _ g2
  have b3 := h1 _ _ g3
  have b4 := h1 _ _ g4
  have b5 := h1 _ _ g5
  omega
/-- how many pixels -/
def ctP (f : Nat → Int64) : Nat := fb_ct (px f) 4096
theorem ctP_le (f : Nat → Int64) : ctP f ≤ 4096 := fb_ct_le _ _
theorem ctP_0 {f : Nat → Int64} : ctP f = 0 ↔ ∀ y, y < 64 → f y = 0 := by
  unfold ctP
  rw [fb_ct_zero]
  refine ⟨fun h y hy => lb_ext fun i hi => ?_, fun h k hk => ?_⟩
  · have := h (64 * y + i) (by omega)
    rw [px_xy f y hi] at this
    rw [this, lb_0]
  · unfold px
    rw [h _ (by omega), lb_0]
/-- the shape of the pixels: from the corner of the box on -/
def shR (f : Nat → Int64) (l t b k : Nat) : Int64 := if t + k ≤ b then mvd (f (t + k)) (-(l : Int)) else 0
theorem lb_shR {f : Nat → Int64} {l t b k i : Nat} (hi : i < 64) : lb (shR f l t b k) i = (decide (t + k ≤ b) && lb (f (t + k)) (l + i)) := by
  unfold shR
  by_cases c : t + k ≤ b
  · rw [if_pos c, decide_eq_true c, Bool.true_and, lb_mvd _ _ hi, decide_eq_true (by omega), Bool.true_and, show ((i : Int) - -(l : Int)).toNat = l + i by omega]
  · rw [if_neg c, lb_0, decide_eq_false c, Bool.false_and]
/-- a part of a region, or a stamp, among the cells -/
def ptA (p n : Nat) : Prop := eK p = (0, 5) ∧ eK (p + 1) = (2, 64) ∧ p + 1 < 147 + 5 * n
theorem eL_pt {p n H : Nat} (I : ptA p n) : eL H (p + 1) = 64 := by unfold eL; rw [I.2.1]; rfl
def ptP (p a j : Nat) : Bool := a == p + 1 || (a == p && (decide (2 ≤ j) && decide (j ≤ 6)))
/-- the part in the memory: its pixels; where it has any, its box and its shape -/
def ptX (m : mM) (p : Nat) (f : Nat → Int64) : Prop := m.1 p 6 = nI (ctP f) ∧ (ctP f ≠ 0 → ∃ l t r b, isBox f l t r b ∧ r < 64 ∧ b < 64 ∧ m.1 p 2 = nI l ∧ m.1 p 3 = nI t ∧ m.1 p 4 = nI (r + 1 - l) ∧ m.1 p 5 = nI (b + 1 - t) ∧ ∀ k, k < 64 → m.2.1 (p + 1) k = shR f l t b k)
section PT
variable {S : xS} {W H n : Nat} {m : mM} {p : Nat} {f : Nat → Int64}
theorem lc_0 (x : Int64) : lg_cmp x (0 : Int64) = 0 ↔ x = 0 := lg_cmp_eq x 0
theorem bit_nz {v : Int64} {k : Nat} (hk : k < 64) : (lg_cmp (((v.toUInt64 >>> ((nI k).toInt64.toUInt64 &&& Int64.toUInt64 63)).toInt64) &&& (1 : Int64)) (0 : Int64) = 0) ↔ lb v k = false := by
  rw [lb_bit1 k hk v, lc_0]
  cases lb v k
  · rw [if_neg (by decide)]
    exact ⟨fun _ => rfl, fun _ => rfl⟩
  · rw [if_pos rfl]
    exact ⟨fun h => absurd h (by decide), fun h => by cases h⟩
theorem lowestBit_s (h : xH) {v : Int64} {l : Nat} (hl : lb v l = true) (mn : ∀ i, i < l → lb v i = false) : xM S mX5_lowestBit [.long v] h = some (.inl (some (.int (nI l))), h, 0, 0) := by
  have l64 := lb_lt hl
  have nz : ¬ v = 0 := fun e => by rw [e, lb_0] at hl; cases hl
  refine w_X5_lowestBit S _ _ _ ?_
  refine x_fo (m := ((fun _ _ => 0, fun _ _ => 0, fun _ _ => none) : mM)) l (fun k _ => xden S mX5_lowestBit 2 [(0, .long v), (2, .int (nI k))] [] h) (fun _ => ((fun _ _ => 0, fun _ _ => 0, fun _ _ => none) : mM)) rfl (fun k hk ih => ?_) ?_
  · (try dsimp only at ih ⊢)
    refine w_X5_lowestBit_2 S _ _ _ _ ?_
    refine c_iff (fun q => by have := (nI_leI (a := 64) (by omega) (by omega)).mp q; omega) ?_
    refine c_iff (fun q => q ((bit_nz (by omega)).mpr (mn k hk))) ?_
    refine c_let ?_
    rw [show (1 : Int32) = nI 1 from rfl, nI_add]
    exact ih
  · (try dsimp only)
    refine w_X5_lowestBit_2 S _ _ _ _ ?_
    refine c_iff (fun q => by have := (nI_leI (a := 64) (by omega) (by omega)).mp q; omega) ?_
    refine c_ift (fun q => by rw [(bit_nz l64).mp q] at hl; cases hl) ?_
    refine c_ift (fun q => nz ((lc_0 v).mp q)) ?_
    rfl
theorem lowestBit_0 (h : xH) : xM S mX5_lowestBit [.long 0] h = some (.inl (some (.int (nI 0))), h, 0, 0) := by
  refine w_X5_lowestBit S _ _ _ ?_
  refine x_fo (m := ((fun _ _ => 0, fun _ _ => 0, fun _ _ => none) : mM)) 64 (fun k _ => xden S mX5_lowestBit 2 [(0, .long 0), (2, .int (nI k))] [] h) (fun _ => ((fun _ _ => 0, fun _ _ => 0, fun _ _ => none) : mM)) rfl (fun k hk ih => ?_) ?_
  · (try dsimp only at ih ⊢)
    refine w_X5_lowestBit_2 S _ _ _ _ ?_
    refine c_iff (fun q => by have := (nI_leI (a := 64) (by omega) (by omega)).mp q; omega) ?_
    refine c_iff (fun q => q ((bit_nz (by omega)).mpr (lb_0 k))) ?_
    refine c_let ?_
    rw [show (1 : Int32) = nI 1 from rfl, nI_add]
    exact ih
  · (try dsimp only)
    refine w_X5_lowestBit_2 S _ _ _ _ ?_
    refine c_ift (by decide) ?_
    refine c_iff (fun q => q ((lc_0 0).mpr rfl)) ?_
    rfl
theorem highest_s (h : xH) {v : Int64} {u : Nat} (hu : u ≤ 64) (top : u = 0 ∨ lb v (u - 1) = true) (mx : ∀ i, u ≤ i → i < 64 → lb v i = false) : xM S mX5_bitsUpToHighest [.long v] h = some (.inl (some (.int (nI u))), h, 0, 0) := by
  refine w_X5_bitsUpToHighest S _ _ _ ?_
  refine x_fo (m := ((fun _ _ => 0, fun _ _ => 0, fun _ _ => none) : mM)) (64 - u) (fun k _ => xden S mX5_bitsUpToHighest 3 [(0, .long v), (2, .int (nI (64 - k)))] [] h) (fun _ => ((fun _ _ => 0, fun _ _ => 0, fun _ _ => none) : mM)) rfl (fun k hk ih => ?_) ?_
  · (try dsimp only at ih ⊢)
    have e1 : nI (64 - k) - (1 : Int32) = nI (64 - k - 1) := by rw [show (1 : Int32) = nI 1 from rfl, pk_sub (by omega)]
    have e2 : nI (64 - k) + (-1 : Int32) = nI (64 - (k + 1)) := by
      rw [← zI_n (by omega), show (-1 : Int32) = zI (-1) from rfl, zI_add, ← zI_n (by omega)]
      congr 1
      omega
    refine w_X5_bitsUpToHighest_3 S _ _ _ _ ?_
    refine c_iff (fun q => by have := (nI_leI (b := 0) (by omega) (by omega)).mp q; omega) ?_
    rw [e1]
    refine c_iff (fun q => q ((bit_nz (by omega)).mpr (mx (64 - k - 1) (by omega) (by omega)))) ?_
    refine c_let ?_
    rw [e2]
    exact ih
  · (try dsimp only)
    rw [show 64 - (64 - u) = u by omega]
    refine w_X5_bitsUpToHighest_3 S _ _ _ _ ?_
    rcases top with e | e
    · rw [e]
      refine c_ift (by decide) ?_
      rfl
    · by_cases z : u = 0
      · rw [z]
        refine c_ift (by decide) ?_
        rfl
      · have e1 : nI u - (1 : Int32) = nI (u - 1) := by rw [show (1 : Int32) = nI 1 from rfl, pk_sub (by omega)]
        refine c_iff (fun q => by have := (nI_leI (b := 0) (by omega) (by omega)).mp q; omega) ?_
        rw [e1]
        refine c_ift (fun q => by rw [(bit_nz (by omega)).mp q] at e; cases e) ?_
        rfl
theorem shapeRow_s (I : ptA p n) {k : Nat} (hk : k < 64) : xM S mX5_shapeRow [.ref p, .int (nI k)] (E W H n m) = some (.inl (some (.long (m.2.1 (p + 1) k))), E W H n m, 0, 0) := by
  obtain ⟨I1, I2, I3⟩ := I
  have l64 : 64 = eL H (p + 1) := (eL_pt ⟨I1, I2, I3⟩).symm
  refine w_X5_shapeRow S _ _ _ _ ?_
  refine c_iff (nI_pos (by omega)) ?_
  refine c_gr (by omega) I1 (by rfl) (by rfl) ?_
  refine c_rz I3 I2 l64 ?_
  refine c_iff (fun q => by have := (nI_leI (a := 64) (by omega) (by omega)).mp q; omega) ?_
  refine c_gr (by omega) I1 (by rfl) (by rfl) ?_
  refine c_rl (i := k) I3 I2 (by rfl) (by rw [← l64]; exact hk) (by rw [← l64]; decide) ?_
  rfl
theorem shapeRow_hi (I : ptA p n) {k : Nat} (hk : 64 ≤ k) (hk2 : k < 100000) : xM S mX5_shapeRow [.ref p, .int (nI k)] (E W H n m) = some (.inl (some (.long 0)), E W H n m, 0, 0) := by
  obtain ⟨I1, I2, I3⟩ := I
  have l64 : 64 = eL H (p + 1) := (eL_pt ⟨I1, I2, I3⟩).symm
  refine w_X5_shapeRow S _ _ _ _ ?_
  refine c_iff (nI_pos (by omega)) ?_
  refine c_gr (by omega) I1 (by rfl) (by rfl) ?_
  refine c_rz I3 I2 l64 ?_
  refine c_ift ((nI_leI (a := 64) (by omega) (by omega)).mpr hk) ?_
  rfl
theorem pc_0 {v : Int64} : pc v = 0 ↔ v = 0 := by
  unfold pc
  rw [fb_ct_zero, lb_zero_iff]
/-- the rows read so far: what is known of them -/
def stI (m0 m : mM) (p : Nat) (f : Nat → Int64) (k : Nat) (cols : Int64) (bot : Int32) : Prop := (∀ y, y < 64 → m.2.1 (p + 1) y = f y) ∧ m.1 p 6 = nI (fb_sm (fun y => pc (f y)) k) ∧ (∀ i, i < 64 → (lb cols i = true ↔ ∃ y, y < k ∧ lb (f y) i = true)) ∧ (((∀ y, y < k → f y = 0) ∧ m.1 p 3 = nI 0 ∧ bot = -1) ∨ ∃ t b, t ≤ b ∧ b < k ∧ ¬ f t = 0 ∧ (∀ y, y < t → f y = 0) ∧ ¬ f b = 0 ∧ (∀ y, b < y → y < k → f y = 0) ∧ m.1 p 3 = nI t ∧ bot = nI b) ∧ fr (ptP p) m0 m
theorem shape141 (I : ptA p n) {l t hh : Nat} (e2 : m.1 p 2 = nI l) (e3 : m.1 p 3 = nI t) (e5 : m.1 p 5 = nI hh) (hl : l < 64) (th : t + hh ≤ 64) (ef : ∀ y, y < 64 → m.2.1 (p + 1) y = f y) : xden S mX5_settle 141 [(0, .ref p), (4, .int (nI 0))] [] (E W H n m) = some (.inl none, E W H n (aL m (p + 1) (fa_fill (fun k => if k < hh then mvd (f (t + k)) (-(l : Int)) else 0) (m.2.1 (p + 1)) 64)), 0, 0) := by
  obtain ⟨I1, I2, I3⟩ := I
  have I : ptA p n := ⟨I1, I2, I3⟩
  have l64 : 64 = eL H (p + 1) := (eL_pt I).symm
  refine x_fo 64 (fun k s => xden S mX5_settle 141 [(0, .ref p), (4, .int (nI k))] [] (E W H n s)) (fun k => aL m (p + 1) (fa_fill (fun k => if k < hh then mvd (f (t + k)) (-(l : Int)) else 0) (m.2.1 (p + 1)) k)) (by (try dsimp only); rw [fa_fill_0, aL_self m _ rfl]) (fun k hk ih => ?_) ?_
  · (try dsimp only at ih ⊢)
    rw [← sL_aL] at ih
    generalize he : aL m (p + 1) (fa_fill (fun k => if k < hh then mvd (f (t + k)) (-(l : Int)) else 0) (m.2.1 (p + 1)) k) = e at *
    have q2 : e.1 p 2 = nI l := by rw [← he, aL_1]; exact e2
    have q3 : e.1 p 3 = nI t := by rw [← he, aL_1]; exact e3
    have q5 : e.1 p 5 = nI hh := by rw [← he, aL_1]; exact e5
    refine w_X5_settle_141 S _ _ _ _ ?_
    refine c_gr (by omega) I1 (by rfl) (by rfl) ?_
    refine c_rz I3 I2 l64 ?_
    refine c_iff (fun q => by have := (nI_leI (a := 64) (by omega) (by omega)).mp q; omega) ?_
    refine c_gr (by omega) I1 (by rfl) (by rfl) ?_
    refine c_gi (by omega) I1 (by rfl) (by rfl) ?_
    rw [q5]
    by_cases c : k < hh
    · rw [if_pos c] at ih
      have rd : e.2.1 (p + 1) (t + k) = f (t + k) := by rw [← he, aL_eq rfl, fa_fill_out (by omega)]; exact ef _ (by omega)
      have sr := shapeRow_s (S := S) (W := W) (H := H) (m := e) I (k := t + k) (by omega)
      rw [rd] at sr
      have mv := moved_s S (E W H n e) (f (t + k)) (zI (-(l : Int)))
      rw [zI_t (by omega) (by omega)] at mv
      refine c_iff (fun q => by have := (nI_leI (by omega) (by omega)).mp q; omega) ?_
      refine c_gi (by omega) I1 (by rfl) (by rfl) ?_
      rw [q3, nI_add]
      refine c_ob (by omega) I1 ?_
      refine c_qJ sr ?_
      refine c_gi (by omega) I1 (by rfl) (by rfl) ?_
      rw [q2, ← zI_n (show l < 2147483648 by omega), zI_neg (by omega) (by omega)]
      refine c_qJ mv ?_
      refine c_wl (i := k) I3 I2 (by rfl) (by rw [← l64]; exact hk) (by rw [← l64]; decide) ?_
      refine c_let ?_
      rw [show (1 : Int32) = nI 1 from rfl, nI_add]
      exact ih
    · rw [if_neg c] at ih
      refine c_ift ((nI_leI (by omega) (by omega)).mpr (by omega)) ?_
      refine c_wl (i := k) I3 I2 (by rfl) (by rw [← l64]; exact hk) (by rw [← l64]; decide) ?_
      refine c_let ?_
      rw [show (1 : Int32) = nI 1 from rfl, nI_add]
      exact ih
  · (try dsimp only)
    refine w_X5_settle_141 S _ _ _ _ ?_
    refine c_gr (by omega) I1 (by rfl) (by rfl) ?_
    refine c_rz I3 I2 l64 ?_
    refine c_ift (by decide) ?_
    rfl
theorem pt_t {j : Nat} (h1 : 2 ≤ j) (h2 : j ≤ 6) : ptP p p j = true := by
  unfold ptP
  rw [decide_eq_true h1, decide_eq_true h2, beq_self_eq_true]
  simp
theorem pt_s (j : Nat) : ptP p (p + 1) j = true := by
  unfold ptP
  rw [beq_self_eq_true]
  rfl
theorem settle_s (I : ptA p n) (ef : ∀ y, y < 64 → m.2.1 (p + 1) y = f y) (f0 : ∀ y, 64 ≤ y → f y = 0) : ∃ m', xM S mX5_settle [.ref p] (E W H n m) = some (.inl none, E W H n m', 0, 0) ∧ ptX m' p f ∧ fr (ptP p) m m' := by
  obtain ⟨I1, I2, I3⟩ := I
  have I : ptA p n := ⟨I1, I2, I3⟩
  have l64 : 64 = eL H (p + 1) := (eL_pt I).symm
  have sum64 : fb_sm (fun y => pc (f y)) 64 = ctP f := (ct_px f).symm
  have smb : ∀ k, k ≤ 64 → fb_sm (fun y => pc (f y)) k ≤ k * 64 := fun k _ => fb_sm_bound fun y _ => pc_le _
  generalize h1 : sI (sI m p 6 (nI 0)) p 3 (nI 0) = m1
  have F1 : fr (ptP p) m m1 := by rw [← h1]; exact fr_sI (fr_sI fr_rf (pt_t (by decide) (by decide))) (pt_t (by decide) (by decide))
  have S0 : stI m m1 p f 0 0 (-1) := ⟨fun y hy => by rw [← h1]; exact ef y hy, by rw [← h1, sI_ne (by omega), sI_eq ⟨rfl, rfl⟩]; rfl, fun i _ => by rw [lb_0]; exact ⟨fun h => (by cases h), fun ⟨y, h, _⟩ => absurd h (Nat.not_lt_zero y)⟩, Or.inl ⟨fun y h => absurd h (Nat.not_lt_zero y), by rw [← h1, sI_eq ⟨rfl, rfl⟩], rfl⟩, F1⟩
  have L := x_sg (σ := mM × Int64 × Int32) (τ := mM) (D := fun k s => xden S mX5_settle 17 [(0, .ref p), (1, .long s.2.1), (3, .int s.2.2), (4, .int (nI k))] [] (E W H n s.1)) (Inv := fun k s => stI m s.1 p f k s.2.1 s.2.2)
    (F := fun s => some (.inl none, E W H n s, 0, 0)) (Post := fun s => ptX s p f ∧ fr (ptP p) m s) 64 (fun k hk s hs => ?_) (fun s hs => ?_) (m1, 0, -1) S0
  · obtain ⟨m', k1, k2⟩ := L
    refine ⟨m', w_X5_settle S _ _ _ ?_, k1.1, k1.2⟩
    have k2 := k2 _ rfl
    rw [← h1] at k2
    refine c_pi (by omega) I1 (by rfl) (by rfl) (xPok_int (by decide) (by rfl)) ?_
    refine c_pi (by omega) I1 (by rfl) (by rfl) (xPok_int (by decide) (by rfl)) ?_
    exact k2
  · left
    obtain ⟨s, cols, bot⟩ := s
    obtain ⟨g1, g2, g3, g4, g5⟩ := hs
    (try dsimp only at g1 g2 g3 g4 g5 ⊢)
    have gk := g1 k hk
    have sb := smb k (by omega)
    have pl := pc_le (f k)
    by_cases z : f k = 0
    · refine ⟨(s, cols, bot), ⟨g1, by rw [fb_sm_succ, z, show pc 0 = 0 from pc_0.mpr rfl, Nat.add_zero]; exact g2, fun i hi => ?_, ?_, g5⟩, fun o ho => w_X5_settle_17 S _ _ _ _ _ _ ?_⟩
      · rw [g3 i hi]
        refine ⟨fun ⟨y, y1, y2⟩ => ⟨y, by omega, y2⟩, fun ⟨y, y1, y2⟩ => ⟨y, ?_, y2⟩⟩
        by_cases e : y = k
        · rw [e, z, lb_0] at y2; cases y2
        · omega
      · rcases g4 with ⟨q1, q2⟩ | ⟨t, b, q1, q2, q3, q4, q5, q6, q7⟩
        · refine Or.inl ⟨fun y hy => ?_, q2⟩
          by_cases e : y = k
          · rw [e]; exact z
          · exact q1 y (by omega)
        · refine Or.inr ⟨t, b, q1, by omega, q3, q4, q5, fun y y1 y2 => ?_, q7⟩
          by_cases e : y = k
          · rw [e]; exact z
          · exact q6 y y1 (by omega)
      · (try dsimp only)
        refine c_gr (by omega) I1 (by rfl) (by rfl) ?_
        refine c_rz I3 I2 l64 ?_
        refine c_iff (fun q => by have := (nI_leI (a := 64) (by omega) (by omega)).mp q; omega) ?_
        refine c_gr (by omega) I1 (by rfl) (by rfl) ?_
        refine c_rl (i := k) I3 I2 (by rfl) (by rw [← l64]; exact hk) (by rw [← l64]; decide) ?_
        rw [gk]
        refine c_ift ((lc_0 _).mpr z) ?_
        refine c_let ?_
        rw [show (1 : Int32) = nI 1 from rfl, nI_add]
        exact ho
    · have cols' : ∀ i, i < 64 → (lb (cols ||| f k) i = true ↔ ∃ y, y < k + 1 ∧ lb (f y) i = true) := fun i hi => by
        rw [lb_or, Bool.or_eq_true, g3 i hi]
        refine ⟨?_, ?_⟩
        · rintro (⟨y, y1, y2⟩ | h)
          · exact ⟨y, by omega, y2⟩
          · exact ⟨k, by omega, h⟩
        · rintro ⟨y, y1, y2⟩
          by_cases e : y = k
          · rw [e] at y2; exact Or.inr y2
          · exact Or.inl ⟨y, by omega, y2⟩
      -- the row's own steps, behind the top
      have tail : ∀ (t : Nat) {o : xO}, xden S mX5_settle 17 [(0, .ref p), (1, .long (cols ||| f k)), (3, .int (nI k)), (4, .int (nI (k + 1)))] [] (E W H n (sI (sI s p 3 (nI t)) p 6 (nI (fb_sm (fun y => pc (f y)) (k + 1))))) = some o → ((xGr (E W H n (sI s p 3 (nI t))) p 5 1).bind fun v19 => (xRl (E W H n (sI s p 3 (nI t))) v19 (nI k)).bind fun v20 => xlet (cols ||| v20) fun v21 => (xGi (E W H n (sI s p 3 (nI t))) p 5 6).bind fun v22 => (xGr (E W H n (sI s p 3 (nI t))) p 5 1).bind fun v23 => (xRl (E W H n (sI s p 3 (nI t))) v23 (nI k)).bind fun v24 => xqI (xM S mJ13_bitCount_95d88 [.long v24] (E W H n (sI s p 3 (nI t)))) xth fun v26 h25 => (xP false 5 h25 p 5 6 (.int (v22 + v26))).bind fun h27 => xlet (nI k + (1 : Int32)) fun v28 => (xden S mX5_settle 17 [(0, .ref p), (1, .long v21), (3, .int (nI k)), (4, .int v28)] [] h27)) = some o := fun t {o} ho => by
        rw [fb_sm_succ] at ho
        refine c_gr (by omega) I1 (by rfl) (by rfl) ?_
        refine c_rl (i := k) I3 I2 (by rfl) (by rw [← l64]; exact hk) (by rw [← l64]; decide) ?_
        refine c_let ?_
        refine c_gi (by omega) I1 (by rfl) (by rfl) ?_
        refine c_gr (by omega) I1 (by rfl) (by rfl) ?_
        refine c_rl (i := k) I3 I2 (by rfl) (by rw [← l64]; exact hk) (by rw [← l64]; decide) ?_
        rw [sI_2, gk, sI_ne (by omega), g2]
        refine c_qI (bitCount_s S _ _) ?_
        rw [nI_add]
        refine c_pi (by omega) I1 (by rfl) (by rfl) (xPok_int (by decide) (by rfl)) ?_
        refine c_let ?_
        rw [show (1 : Int32) = nI 1 from rfl, nI_add]
        exact ho
      have nxt : ∀ t, (((∀ y, y < k → f y = 0) ∧ t = k) ∨ ∃ b, t ≤ b ∧ b < k ∧ ¬ f t = 0 ∧ (∀ y, y < t → f y = 0)) → stI m (sI (sI s p 3 (nI t)) p 6 (nI (fb_sm (fun y => pc (f y)) (k + 1)))) p f (k + 1) (cols ||| f k) (nI k) := fun t ht => by
        refine ⟨g1, sI_eq ⟨rfl, rfl⟩, cols', Or.inr ⟨t, k, ?_, by omega, ?_, ?_, z, fun y y1 y2 => by omega, by rw [sI_ne (by omega), sI_eq ⟨rfl, rfl⟩], rfl⟩, fr_sI (fr_sI g5 (pt_t (by decide) (by decide))) (pt_t (by decide) (by decide))⟩
        · rcases ht with ⟨_, e⟩ | ⟨b, q1, q2, _⟩ <;> omega
        · rcases ht with ⟨_, e⟩ | ⟨b, _, _, q3, _⟩
          · rw [e]; exact z
          · exact q3
        · rcases ht with ⟨q, e⟩ | ⟨b, _, _, _, q4⟩
          · rw [e]; exact q
          · exact q4
      have head : ∀ {o : xO}, (if ¬ nI (fb_sm (fun y => pc (f y)) k) = 0 then ((xGi (E W H n s) p 5 3).bind fun v17 => (xP false 5 (E W H n s) p 5 3 (.int v17)).bind fun h18 => (xGr h18 p 5 1).bind fun v19 => (xRl h18 v19 (nI k)).bind fun v20 => xlet (cols ||| v20) fun v21 => (xGi h18 p 5 6).bind fun v22 => (xGr h18 p 5 1).bind fun v23 => (xRl h18 v23 (nI k)).bind fun v24 => xqI (xM S mJ13_bitCount_95d88 [.long v24] h18) xth fun v26 h25 => (xP false 5 h25 p 5 6 (.int (v22 + v26))).bind fun h27 => xlet (nI k + (1 : Int32)) fun v28 => (xden S mX5_settle 17 [(0, .ref p), (1, .long v21), (3, .int (nI k)), (4, .int v28)] [] h27)) else ((xP false 5 (E W H n s) p 5 3 (.int (nI k))).bind fun h29 => (xGr h29 p 5 1).bind fun v30 => (xRl h29 v30 (nI k)).bind fun v31 => xlet (cols ||| v31) fun v32 => (xGi h29 p 5 6).bind fun v33 => (xGr h29 p 5 1).bind fun v34 => (xRl h29 v34 (nI k)).bind fun v35 => xqI (xM S mJ13_bitCount_95d88 [.long v35] h29) xth fun v37 h36 => (xP false 5 h36 p 5 6 (.int (v33 + v37))).bind fun h38 => xlet (nI k + (1 : Int32)) fun v39 => (xden S mX5_settle 17 [(0, .ref p), (1, .long v32), (3, .int (nI k)), (4, .int v39)] [] h38))) = some o → xden S mX5_settle 17 [(0, .ref p), (1, .long cols), (3, .int bot), (4, .int (nI k))] [] (E W H n s) = some o := fun {o} ho => by
        refine w_X5_settle_17 S _ _ _ _ _ _ ?_
        refine c_gr (by omega) I1 (by rfl) (by rfl) ?_
        refine c_rz I3 I2 l64 ?_
        refine c_iff (fun q => by have := (nI_leI (a := 64) (by omega) (by omega)).mp q; omega) ?_
        refine c_gr (by omega) I1 (by rfl) (by rfl) ?_
        refine c_rl (i := k) I3 I2 (by rfl) (by rw [← l64]; exact hk) (by rw [← l64]; decide) ?_
        rw [gk]
        refine c_iff (fun q => z ((lc_0 _).mp q)) ?_
        refine c_gi (by omega) I1 (by rfl) (by rfl) ?_
        rw [g2]
        exact ho
      rcases g4 with ⟨q1, q2, q3⟩ | ⟨t, b, q1, q2, q3, q4, q5, q6, q7, q8⟩
      · have s0 : fb_sm (fun y => pc (f y)) k = 0 := by
          have : fb_sm (fun y => pc (f y)) k ≤ k * 0 := fb_sm_bound fun y hy => by
            (try dsimp only)
            rw [q1 y hy, show pc 0 = 0 from pc_0.mpr rfl]
            exact Nat.le_refl 0
          omega
        refine ⟨(sI (sI s p 3 (nI k)) p 6 (nI (fb_sm (fun y => pc (f y)) (k + 1))), cols ||| f k, nI k), nxt k (Or.inl ⟨q1, rfl⟩), fun o ho => head ?_⟩
        refine c_iff (fun q => q (by rw [s0]; rfl)) ?_
        refine c_pi (by omega) I1 (by rfl) (by rfl) (xPok_int (by decide) (by rfl)) ?_
        exact tail k ho
      · have sp : fb_sm (fun y => pc (f y)) k ≠ 0 := fun e => q3 (pc_0.mp (fb_sm_zero e t (by omega)))
        refine ⟨(sI (sI s p 3 (nI t)) p 6 (nI (fb_sm (fun y => pc (f y)) (k + 1))), cols ||| f k, nI k), nxt t (Or.inr ⟨b, q1, q2, q3, q4⟩), fun o ho => head ?_⟩
        refine c_ift (fun q => sp ((nI_eq (b := 0) (by omega) (by decide)).mp q)) ?_
        refine c_gi (by omega) I1 (by rfl) (by rfl) ?_
        rw [q7]
        refine c_pi (by omega) I1 (by rfl) (by rfl) (xPok_int (by decide) (by rfl)) ?_
        exact tail t ho
  · obtain ⟨s, cols, bot⟩ := s
    obtain ⟨g1, g2, g3, g4, g5⟩ := hs
    (try dsimp only at g1 g2 g3 g4 g5 ⊢)
    rw [sum64] at g2
    -- the box' columns
    have fin : ∀ (l u t hh : Nat), l ≤ u → u ≤ 64 → l < 64 → t + hh ≤ 64 → (∀ h, xM S mX5_lowestBit [.long cols] h = some (.inl (some (.int (nI l))), h, 0, 0)) → (∀ h, xM S mX5_bitsUpToHighest [.long cols] h = some (.inl (some (.int (nI u))), h, 0, 0)) → s.1 p 3 = nI t → ((¬ 0 ≤ bot ∧ hh = 0) ∨ (0 ≤ bot ∧ bot - nI t + (1 : Int32) = nI hh)) → xden S mX5_settle 17 [(0, .ref p), (1, .long cols), (3, .int bot), (4, .int (nI 64))] [] (E W H n s) = some (.inl none, E W H n (aL (sI (sI (sI s p 2 (nI l)) p 4 (nI (u - l))) p 5 (nI hh)) (p + 1) (fa_fill (fun k => if k < hh then mvd (f (t + k)) (-(l : Int)) else 0) (s.2.1 (p + 1)) 64)), 0, 0) := fun l u t hh lu u64 l64' th lo hi e3 eb => by
      have fin := shape141 (S := S) (W := W) (H := H) (n := n) (m := sI (sI (sI s p 2 (nI l)) p 4 (nI (u - l))) p 5 (nI hh)) (f := f) I (l := l) (t := t) (hh := hh) (by rw [sI_ne (by omega), sI_ne (by omega), sI_eq ⟨rfl, rfl⟩]) (by rw [sI_ne (by omega), sI_ne (by omega), sI_ne (by omega)]; exact e3) (sI_eq ⟨rfl, rfl⟩) l64' th g1
      refine w_X5_settle_17 S _ _ _ _ _ _ ?_
      refine c_gr (by omega) I1 (by rfl) (by rfl) ?_
      refine c_rz I3 I2 l64 ?_
      refine c_ift (by decide) ?_
      refine c_qI (lo _) ?_
      refine c_pi (by omega) I1 (by rfl) (by rfl) (xPok_int (by decide) (by rfl)) ?_
      refine c_qI (hi _) ?_
      refine c_gi (by omega) I1 (by rfl) (by rfl) ?_
      rw [sI_eq ⟨rfl, rfl⟩, pk_sub lu]
      refine c_pi (by omega) I1 (by rfl) (by rfl) (xPok_int (by decide) (by rfl)) ?_
      rcases eb with ⟨b1, b2⟩ | ⟨b1, b2⟩
      · refine c_iff b1 ?_
        rw [b2] at fin ⊢
        refine c_pi (by omega) I1 (by rfl) (by rfl) (xPok_int (by decide) (by rfl)) ?_
        exact fin
      · refine c_ift b1 ?_
        refine c_gi (by omega) I1 (by rfl) (by rfl) ?_
        rw [sI_ne (by omega), sI_ne (by omega), e3, b2]
        refine c_pi (by omega) I1 (by rfl) (by rfl) (xPok_int (by decide) (by rfl)) ?_
        exact fin
    have frm : ∀ (a b c : Int32) (G : Nat → Int64), fr (ptP p) m (aL (sI (sI (sI s p 2 a) p 4 b) p 5 c) (p + 1) G) := fun a b c G => fr_aL (fr_sI (fr_sI (fr_sI g5 (pt_t (by decide) (by decide))) (pt_t (by decide) (by decide))) (pt_t (by decide) (by decide))) pt_s
    have six : ∀ (a b c : Int32) (G : Nat → Int64), (aL (sI (sI (sI s p 2 a) p 4 b) p 5 c) (p + 1) G).1 p 6 = nI (ctP f) := fun a b c G => by rw [aL_1, sI_ne (by omega), sI_ne (by omega), sI_ne (by omega)]; exact g2
    rcases g4 with ⟨q1, q2, q3⟩ | ⟨t, b, q1, q2, q3, q4, q5, q6, q7, q8⟩
    · have c0 : cols = 0 := lb_ext fun i hi => by
        rw [lb_0]
        cases h : lb cols i
        · rfl
        · obtain ⟨y, y1, y2⟩ := (g3 i hi).mp h
          rw [q1 y y1, lb_0] at y2
          cases y2
      have ct0 : ctP f = 0 := ctP_0.mpr q1
      refine ⟨aL (sI (sI (sI s p 2 (nI 0)) p 4 (nI (0 - 0))) p 5 (nI 0)) (p + 1) (fa_fill (fun k => if k < 0 then mvd (f (0 + k)) (-((0 : Nat) : Int)) else 0) (s.2.1 (p + 1)) 64), ⟨⟨six (nI 0) (nI (0 - 0)) (nI 0) _, fun h => absurd ct0 h⟩, frm _ _ _ _⟩, fun o ho => ?_⟩
      · exact (fin 0 0 0 0 (Nat.le_refl _) (by decide) (by decide) (by decide) (fun h => by rw [c0]; exact lowestBit_0 h) (fun h => by rw [c0]; exact highest_s h (by decide) (Or.inl rfl) (fun i _ _ => lb_0 i)) q2 (Or.inl ⟨by rw [q3]; decide, rfl⟩)).trans ho
    · -- some column has ink
      obtain ⟨x0, x1, x2⟩ := lb_nz q3
      have cx : lb cols x0 = true := (g3 x0 x1).mpr ⟨t, by omega, x2⟩
      have le1 := fa_first_le (fun x => lb cols x) 64
      obtain ⟨l, el⟩ : ∃ l, l = fa_first (fun x => lb cols x) 64 := ⟨_, rfl⟩
      have ll : l < 64 := by
        rcases Nat.lt_or_ge l 64 with w | w
        · exact w
        · have := fa_first_no (fun x => lb cols x) 64 x0 (by omega)
          rw [cx] at this
          cases this
      have l1 : lb cols l = true := by
        have := fa_first_yes (fun x => lb cols x) 64 (by omega)
        rw [← el] at this
        exact this
      have l2 : ∀ i, i < l → lb cols i = false := fun i hi => fa_first_no (fun x => lb cols x) 64 i (by omega)
      have le2 := fa_first_le (fun d => lb cols (63 - d)) 64
      obtain ⟨d, ed⟩ : ∃ d, d = fa_first (fun d => lb cols (63 - d)) 64 := ⟨_, rfl⟩
      have dl : d < 64 := by
        rcases Nat.lt_or_ge d 64 with w | w
        · exact w
        · have := fa_first_no (fun d => lb cols (63 - d)) 64 (63 - x0) (by omega)
          (try dsimp only at this)
          rw [show 63 - (63 - x0) = x0 by omega, cx] at this
          cases this
      have d1 : lb cols (63 - d) = true := by
        have := fa_first_yes (fun d => lb cols (63 - d)) 64 (by omega)
        rw [← ed] at this
        exact this
      have d2 : ∀ i, 64 - d ≤ i → i < 64 → lb cols i = false := fun i i1 i2 => by
        have := fa_first_no (fun d => lb cols (63 - d)) 64 (63 - i) (by omega)
        (try dsimp only at this)
        rw [show 63 - (63 - i) = i by omega] at this
        exact this
      have lr : l ≤ 63 - d := by
        rcases Nat.lt_or_ge (63 - d) l with w | w
        · have := l2 _ w
          rw [d1] at this
          cases this
        · exact w
      have bx : isBox f l t (63 - d) b := by
        refine ⟨fun y x h => ?_, ?_, ?_, ?_, ?_⟩
        · have hy : y < 64 := by
            rcases Nat.lt_or_ge y 64 with w | w
            · exact w
            · rw [f0 y w, lb_0] at h; cases h
          have hx := lb_lt h
          have cxx : lb cols x = true := (g3 x hx).mpr ⟨y, hy, h⟩
          refine ⟨?_, ?_, ?_, ?_⟩
          · rcases Nat.lt_or_ge x l with w | w
            · rw [l2 x w] at cxx; cases cxx
            · exact w
          · rcases Nat.lt_or_ge (63 - d) x with w | w
            · rw [d2 x (by omega) hx] at cxx; cases cxx
            · exact w
          · rcases Nat.lt_or_ge y t with w | w
            · rw [q4 y w, lb_0] at h; cases h
            · exact w
          · rcases Nat.lt_or_ge b y with w | w
            · rw [q6 y w hy, lb_0] at h; cases h
            · exact w
        · obtain ⟨y, _, y2⟩ := (g3 l ll).mp l1
          exact ⟨y, y2⟩
        · obtain ⟨y, _, y2⟩ := (g3 (63 - d) (by omega)).mp d1
          exact ⟨y, y2⟩
        · obtain ⟨x, _, h⟩ := lb_nz q3
          exact ⟨x, h⟩
        · obtain ⟨x, _, h⟩ := lb_nz q5
          exact ⟨x, h⟩
      refine ⟨aL (sI (sI (sI s p 2 (nI l)) p 4 (nI (64 - d - l))) p 5 (nI (b + 1 - t))) (p + 1) (fa_fill (fun k => if k < b + 1 - t then mvd (f (t + k)) (-(l : Int)) else 0) (s.2.1 (p + 1)) 64), ⟨⟨six (nI l) (nI (64 - d - l)) (nI (b + 1 - t)) _, fun _ => ⟨l, t, 63 - d, b, bx, by omega, by omega, ?_, ?_, ?_, ?_, fun k hk => ?_⟩⟩, frm _ _ _ _⟩, fun o ho => ?_⟩
      · rw [aL_1, sI_ne (by omega), sI_ne (by omega), sI_eq ⟨rfl, rfl⟩]
      · rw [aL_1, sI_ne (by omega), sI_ne (by omega), sI_ne (by omega)]; exact q7
      · rw [aL_1, sI_ne (by omega), sI_eq ⟨rfl, rfl⟩]
        congr 1
        omega
      · rw [aL_1, sI_eq ⟨rfl, rfl⟩]
      · rw [aL_eq rfl, fa_fill_in hk]
        unfold shR
        by_cases c : t + k ≤ b
        · rw [if_pos c, if_pos (by omega)]
        · rw [if_neg c, if_neg (by omega)]
      · exact (fin l (64 - d) t (b + 1 - t) (by omega) (by omega) ll (by omega) (fun h => lowestBit_s h l1 l2) (fun h => highest_s h (by omega) (Or.inr (by rw [show 64 - d - 1 = 63 - d by omega]; exact d1)) d2) q7 (Or.inr ⟨by rw [q8]; exact nI_pos' (by omega), by rw [q8, pk_sub q1, show (1 : Int32) = nI 1 from rfl, nI_add]; congr 1; omega⟩)).trans ho
end PT

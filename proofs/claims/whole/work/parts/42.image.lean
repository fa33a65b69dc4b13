/-! AN IMAGE IN THE CELLS: the object at a, its rows at b; W columns, H rows, row y is f y -/
def imX (h : xH) (a b W H : Nat) (f : Nat → Int64) : Prop := xG h a 4 0 = some (.int (nI W)) ∧ xG h a 4 1 = some (.int (nI H)) ∧ xG h a 4 2 = some (.long (wh W)) ∧ xG h a 4 3 = some (.ref b) ∧ xB h b = some (1, H, .inr (.inl f)) ∧ W ≤ 64 ∧ H ≤ 64
abbrev lA (n : Nat) (f : Nat → Int64) : xAr := (1, n, .inr (.inl f))
section IMG
variable {S : xS} {h : xH} {a b W H a' b' W' H' a2 b2 a3 b3 : Nat} {f f' f2 f3 g : Nat → Int64}
theorem imX_ob (I : imX h a b W H f) : xOb h a 4 = true := xOb_of I.1
/-- the image itself written -/
theorem imX_put (I : imX h a b W H f) (g : Nat → Int64) : imX (xA h b (lA H g)) a b W H g := by
  obtain ⟨h1, h2, h3, h4, h5, h6⟩ := I
  refine ⟨by rw [xG_A]; exact h1, by rw [xG_A]; exact h2, by rw [xG_A]; exact h3, by rw [xG_A]; exact h4, by rw [xB_A, if_pos rfl, h5]; rfl, h6⟩
/-- another array written -/
theorem imX_ne (I : imX h a b W H f) {b' : Nat} (e : xAr) (q : b ≠ b') : imX (xA h b' e) a b W H f := by
  obtain ⟨h1, h2, h3, h4, h5, h6⟩ := I
  refine ⟨by rw [xG_A]; exact h1, by rw [xG_A]; exact h2, by rw [xG_A]; exact h3, by rw [xG_A]; exact h4, by rw [xB_A, if_neg q]; exact h5, h6⟩
/-- a field of another object written -/
theorem imX_S (I : imX h a b W H f) {a' j : Nat} (v : Value) (q : a ≠ a') : imX (xU h a' j v) a b W H f := by
  obtain ⟨h1, h2, h3, h4, h5, h6⟩ := I
  refine ⟨?_, ?_, ?_, ?_, by rw [xB_S]; exact h5, h6⟩
  · rw [xG_S, if_neg (fun w => q w.1)]; exact h1
  · rw [xG_S, if_neg (fun w => q w.1)]; exact h2
  · rw [xG_S, if_neg (fun w => q w.1)]; exact h3
  · rw [xG_S, if_neg (fun w => q w.1)]; exact h4
/-- a row read, wherever -/
def rwA (H : Nat) (f : Nat → Int64) (y : Int32) : Int64 := if y < 0 then 0 else if nI H ≤ y then 0 else f y.toNatClampNeg
theorem rwA_n {y : Nat} (hy : y < 2 ^ 31) (hH : H < 2 ^ 31) : rwA H f (nI y) = if y < H then f y else 0 := by
  unfold rwA
  rw [if_neg (nI_pos hy)]
  by_cases q : y < H
  · rw [if_neg (nI_ge q hH), if_pos q, nI_clamp hy]
  · rw [if_pos (nI_le (by omega) hy), if_neg q]
theorem rwA_in {y : Nat} (hy : y < H) (hH : H < 2 ^ 31) : rwA H f (nI y) = f y := by rw [rwA_n (by omega) hH, if_pos hy]
theorem rowAt_s (I : imX h a b W H f) (y : Int32) : xM S mX4_rowAt [.ref a, .int y] h = some (.inl (some (.long (rwA H f y))), h, 0, 0) := by
  obtain ⟨h1, h2, h3, h4, h5, h6, h7⟩ := I
  refine w_X4_rowAt S a y h _ ?_
  unfold rwA
  by_cases c : y < 0
  · rw [if_pos c, if_pos c]
  · try rw [if_neg c]
    try rw [if_neg c]
    try rw [xGr_of h4]
    try rw [Option.bind_some]
    try rw [xRz_of h5]
    try rw [Option.bind_some]
    show (if nI H ≤ y then _ else _) = _
    by_cases d : nI H ≤ y
    · rw [if_pos d, if_pos d]
    · obtain ⟨j, hj, rfl⟩ := nI_of c
      have hjH : j < H := by
        rcases Nat.lt_or_ge j H with q | q
        · exact q
        · exact absurd (nI_le q hj) d
      try rw [if_neg d]
      try rw [if_neg d]
      try rw [xGr_of h4]
      try rw [Option.bind_some]
      try rw [xRl_of h5 (by omega) hjH]
      try rw [Option.bind_some]
      try rw [nI_clamp hj]
/-- a row put, wherever -/
def puA (W H : Nat) (f : Nat → Int64) (y : Int32) (v : Int64) : Nat → Int64 := if y < 0 then f else if nI H ≤ y then f else vp_updL f y.toNatClampNeg (v &&& wh W)
theorem puA_in {y : Nat} {v : Int64} (hy : y < H) (hH : H < 2 ^ 31) : puA W H f (nI y) v = vp_updL f y (v &&& wh W) := by
  unfold puA
  rw [if_neg (nI_pos (by omega)), if_neg (nI_ge hy hH), nI_clamp (by omega)]
theorem putRow_s (I : imX h a b W H f) (y : Int32) (v : Int64) : xM S mX4_putRow [.ref a, .int y, .long v] h = some (.inl none, xA h b (lA H (puA W H f y v)), 0, 0) := by
  obtain ⟨h1, h2, h3, h4, h5, h6, h7⟩ := I
  refine w_X4_putRow S a y v h _ ?_
  unfold puA
  by_cases c : y < 0
  · rw [if_pos c, if_pos c, xA_same h5]
  · try rw [if_neg c]
    try rw [if_neg c]
    try rw [xGr_of h4]
    try rw [Option.bind_some]
    try rw [xRz_of h5]
    try rw [Option.bind_some]
    show (if nI H ≤ y then _ else _) = _
    by_cases d : nI H ≤ y
    · rw [if_pos d, if_pos d, xA_same h5]
    · obtain ⟨j, hj, rfl⟩ := nI_of c
      have hjH : j < H := by
        rcases Nat.lt_or_ge j H with q | q
        · exact q
        · exact absurd (nI_le q hj) d
      try rw [if_neg d]
      try rw [if_neg d]
      try rw [xGr_of h4]
      try rw [Option.bind_some]
      try rw [xGl_of h3]
      try rw [Option.bind_some]
      try rw [xWl_of h5 (by omega) hjH]
      try rw [Option.bind_some]
      try rw [nI_clamp hj]
/-! rows filled one by one -/
theorem fill_s (G f : Nat → Int64) (k : Nat) : vp_updL (fa_fill G f k) k (G k) = fa_fill G f (k + 1) := by
  funext j
  unfold vp_updL fa_fill
  by_cases c : j = k
  · subst c; rw [if_pos rfl, if_pos (by omega)]
  · rw [if_neg c]
    by_cases d : j < k
    · rw [if_pos d, if_pos (by omega)]
    · rw [if_neg d, if_neg (by omega)]
theorem fill_p {G f : Nat → Int64} {k : Nat} (hk : k < H) (hH : H ≤ 64) {v : Int64} (hv : v &&& wh W = G k) : puA W H (fa_fill G f k) (nI k) v = fa_fill G f (k + 1) := by
  rw [puA_in hk (by omega), hv, fill_s]
theorem below_s (h : xH) {n : Nat} (hn : n < 2 ^ 31) : xM S mX4_below [.int (nI n)] h = some (.inl (some (.long (wh n))), h, 0, 0) := by
  refine w_X4_below S _ h _ ?_
  by_cases c : n = 0
  · subst c; rw [if_neg (by decide), wh_0]
  · rw [if_pos (show (0 : Int32) < nI n from nI_lt (a := 0) (by omega) hn)]
    by_cases d : n < 64
    · rw [if_pos (show nI n < (64 : Int32) from nI_lt (b := 64) d (by decide)), wh_shl n d]
    · rw [if_neg (show ¬ nI n < (64 : Int32) from nI_nlt (b := 64) (by omega) hn), wh_64 (by omega)]
theorem clipped_s (h : xH) (x : Int64) {n : Nat} (hn : n < 2 ^ 31) : xM S mX4_clipped [.long x, .int (nI n)] h = some (.inl (some (.int (nI (min x.toInt.toNat n)))), h, 0, 0) := by
  refine w_X4_clipped S x _ h _ ?_
  rw [nI_l hn]
  simp only [lg_cmp_ge, lg_cmp_le]
  have h0 : (0 : Int64).toInt = 0 := rfl
  by_cases c : (0 : Int64) ≤ x
  · rw [if_pos c]
    have c' := Int64.le_iff_toInt_le.mp c
    rw [h0] at c'
    by_cases d : x ≤ lN n
    · rw [if_pos d]
      have d' := Int64.le_iff_toInt_le.mp d
      rw [lN_toInt hn] at d'
      have e : x = lN x.toInt.toNat := by
        apply Int64.toInt_inj.mp
        rw [lN_toInt (by omega)]
        omega
      rw [show min x.toInt.toNat n = x.toInt.toNat by omega]
      conv => lhs; rw [e]
      rw [lN_i]
    · rw [if_neg d]
      have d' : ¬ x.toInt ≤ (lN n).toInt := fun q => d (Int64.le_iff_toInt_le.mpr q)
      rw [lN_toInt hn] at d'
      rw [show min x.toInt.toNat n = n by omega]
  · rw [if_neg c]
    have c' : ¬ (0 : Int64).toInt ≤ x.toInt := fun q => c (Int64.le_iff_toInt_le.mpr q)
    rw [h0] at c'
    rw [show min x.toInt.toNat n = 0 by omega]
    rfl
/-- the columns from x, w of them -/
def spA (W : Nat) (x : Int64) (w : Int32) : Int64 := wh (min (x + w.toInt64).toInt.toNat W) &&& (wh (min x.toInt.toNat W) ^^^ (-1))
theorem span_s (I : imX h a b W H f) (x : Int64) (w : Int32) : xM S mX4_span [.ref a, .long x, .int w] h = some (.inl (some (.long (spA W x w))), h, 0, 0) := by
  obtain ⟨h1, h2, h3, h4, h5, h6, h7⟩ := I
  refine w_X4_span S a x w h _ ?_
  try rw [xGi_of h1]
  try rw [Option.bind_some]
  try rw [clipped_s h _ (by omega)]
  try rw [xqI_s]
  try rw [below_s h (by omega)]
  try rw [xqJ_s]
  try rw [xGi_of h1]
  try rw [Option.bind_some]
  try rw [clipped_s h _ (by omega)]
  try rw [xqI_s]
  try rw [below_s h (by omega)]
  try rw [xqJ_s]
  rfl
theorem lb_spA (W : Nat) (x : Int64) (w : Int32) (i : Nat) : lb (spA W x w) i = (decide (i < 64) && decide (i < W) && decide (x.toInt ≤ i) && decide ((i : Int) < (x + w.toInt64).toInt)) := by
  unfold spA
  rw [lb_andn, lb_wh, lb_wh]
  rcases Nat.lt_or_ge i 64 with q | q
  · rw [decide_eq_true q, Bool.true_and, Bool.true_and, Bool.true_and]
    by_cases c1 : i < W
    · by_cases c2 : x.toInt ≤ i
      · rw [decide_eq_true c1, decide_eq_true c2, show decide (i < min x.toInt.toNat W) = false from decide_eq_false (by omega)]
        simp only [Bool.not_false, Bool.and_true, Bool.true_and]
        exact decide_eq_decide.mpr (by omega)
      · rw [decide_eq_true c1, decide_eq_false c2, show decide (i < min x.toInt.toNat W) = true from decide_eq_true (by omega)]
        simp
    · rw [decide_eq_false c1, show decide (i < min (x + w.toInt64).toInt.toNat W) = false from decide_eq_false (by omega)]
      simp
  · rw [decide_eq_false (by omega)]
    rfl
theorem takeFrom_s (I : imX h a b W H f) (J : imX h a' b' W' H f') (q : b' ≠ b) : xM S mX4_takeFrom [.ref a, .ref a'] h = some (.inl none, xA h b (lA H (fa_fill (fun y => f' y &&& wh W) f H)), 0, 0) := by
  refine w_X4_takeFrom S a a' h _ ?_
  have key : ∀ k, k ≤ H → xden S mX4_takeFrom 2 [(0, .ref a), (1, .ref a'), (2, .int (nI k))] [] (xA h b (lA H (fa_fill (fun y => f' y &&& wh W) f k))) = some (.inl none, xA h b (lA H (fa_fill (fun y => f' y &&& wh W) f H)), 0, 0) := by
    refine x_down H (fun k hk ih => ?_) ?_
    · have I1 := imX_put I (fa_fill (fun y => f' y &&& wh W) f k)
      have J1 := imX_ne J (lA H (fa_fill (fun y => f' y &&& wh W) f k)) q
      have hH := I.2.2.2.2.2.2
      refine w_X4_takeFrom_2 S _ _ _ _ _ ?_
      try rw [xGi_of I1.2.1]
      try rw [Option.bind_some]
      try rw [if_neg (nI_ge hk (by omega))]
      try rw [if_pos (imX_ob J1)]
      try rw [rowAt_s J1]
      try rw [xqJ_s]
      try rw [if_pos (imX_ob I1)]
      try rw [putRow_s I1]
      try rw [xqV_s]
      try rw [xA_A]
      try rw [rwA_in hk (by omega)]
      try rw [fill_p hk hH rfl]
      show xden _ _ _ [_, _, (2, .int (nI k + nI 1))] _ _ = _
      rw [nI_add]
      exact ih
    · have I1 := imX_put I (fa_fill (fun y => f' y &&& wh W) f H)
      refine w_X4_takeFrom_2 S _ _ _ _ _ ?_
      try rw [xGi_of I1.2.1]
      try rw [Option.bind_some]
      try rw [if_pos (Int32.le_refl _)]
  have k0 := key 0 (Nat.zero_le _)
  rw [fa_fill_0, xA_same I.2.2.2.2.1] at k0
  exact k0
/-- how many pixels differ in the first k rows -/
def dfA (f f' : Nat → Int64) (k : Nat) : Nat := fb_sm (fun y => pc (f y ^^^ f' y)) k
theorem dfA_le (f f' : Nat → Int64) (k : Nat) : dfA f f' k ≤ k * 64 := fb_sm_bound fun y _ => pc_le _
theorem differences_s (I : imX h a b W H f) (J : imX h a' b' W' H f') : xM S mX4_differences [.ref a, .ref a'] h = some (.inl (some (.int (nI (dfA f f' H)))), h, 0, 0) := by
  refine w_X4_differences S a a' h _ ?_
  have hH := I.2.2.2.2.2.2
  have key : ∀ k, k ≤ H → xden S mX4_differences 4 [(0, .ref a), (1, .ref a'), (2, .int (nI (dfA f f' k))), (3, .int (nI k))] [] h = some (.inl (some (.int (nI (dfA f f' H)))), h, 0, 0) := by
    refine x_down H (fun k hk ih => ?_) ?_
    · refine w_X4_differences_4 S _ _ _ _ _ _ ?_
      try rw [xGi_of I.2.1]
      try rw [Option.bind_some]
      try rw [if_neg (nI_ge hk (by omega))]
      try rw [if_pos (imX_ob I)]
      try rw [rowAt_s I]
      try rw [xqJ_s]
      try rw [if_pos (imX_ob J)]
      try rw [rowAt_s J]
      try rw [xqJ_s]
      try rw [bitCount_s]
      try rw [xqI_s]
      try rw [rwA_in hk (by omega)]
      try rw [rwA_in hk (by omega)]
      show xden _ _ _ [_, _, (2, .int (nI _ + nI _)), (3, .int (nI k + nI 1))] _ _ = _
      rw [nI_add, nI_add]
      exact ih
    · refine w_X4_differences_4 S _ _ _ _ _ _ ?_
      try rw [xGi_of I.2.1]
      try rw [Option.bind_some]
      try rw [if_pos (Int32.le_refl _)]
  exact key 0 (Nat.zero_le _)
end IMG

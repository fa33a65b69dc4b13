/-! THE CLASS' OBJECT, ITS PAGES; ROWS READ AND SET: the class' side -/
def scR : List (Nat × Nat) := [(2, 1), (3, 10), (4, 29), (5, 32), (6, 34), (7, 39), (9, 46), (10, 48), (11, 64), (13, 89)]
def scX (h : xH) (W H : Nat) : Prop := xG h 0 11 0 = some (.int (nI W)) ∧ xG h 0 11 1 = some (.int (nI H)) ∧ (∀ p ∈ scR, xG h 0 11 p.1 = some (.ref p.2)) ∧ (∃ F, xB h 1 = some (4, 4, .inr (.inr (.inr (.inr F)))) ∧ ∀ p, p < 4 → F p = some (2 + 2 * p)) ∧ 8 ≤ W ∧ W ≤ 64 ∧ 8 ≤ H ∧ H ≤ 64
def pgX (h : xH) (W H : Nat) (R : Nat → Nat → Int64) : Prop := ∀ p, p < 4 → imX h (2 + 2 * p) (3 + 2 * p) W H (R p) ∧ okP W H (R p)
def sIO : String := "java/lang/IndexOutOfBoundsException"
def sIA : String := "java/lang/IllegalArgumentException"
def sIS : String := "java/lang/IllegalStateException"
section CL
variable {S : xS} {h h' : xH} {W H : Nat} {l : List (Nat × (Nat → Int64))} {R : Nat → Nat → Int64}
theorem scX_fr {Q : Nat → Nat → Prop} {P : Nat → Prop} (F : xfr Q P h h') (X : scX h W H) (q : ∀ j, Q 0 j → j = 8 ∨ j = 12) (q1 : ¬ P 1) : scX h' W H := by
  obtain ⟨h1, h2, h3, ⟨G, h4, h5⟩, h6⟩ := X
  have hn : ∀ j, j ≠ 8 → j ≠ 12 → ¬ Q 0 j := fun j j1 j2 w => by rcases q j w with e | e; exact j1 e; exact j2 e
  have hr : ∀ p ∈ scR, p.1 ≠ 8 ∧ p.1 ≠ 12 := by decide
  exact ⟨xfr_G F h1 (hn 0 (by decide) (by decide)), xfr_G F h2 (hn 1 (by decide) (by decide)), fun p hp => xfr_G F (h3 p hp) (hn _ (hr p hp).1 (hr p hp).2), ⟨G, xfr_B F h4 q1, h5⟩, h6⟩
theorem scX_ob (X : scX h W H) : xOb h 0 11 = true := xOb_of X.1
theorem scX_r (X : scX h W H) {j b : Nat} (hp : (j, b) ∈ scR) : xGr h 0 11 j = some b := xGr_of (X.2.2.1 _ hp)
theorem sg_2 (X : scX h W H) : xGr h 0 11 2 = some 1 := scX_r X (j := 2) (b := 1) (by decide)
theorem sg_3 (X : scX h W H) : xGr h 0 11 3 = some 10 := scX_r X (j := 3) (b := 10) (by decide)
theorem sg_4 (X : scX h W H) : xGr h 0 11 4 = some 29 := scX_r X (j := 4) (b := 29) (by decide)
theorem sg_5 (X : scX h W H) : xGr h 0 11 5 = some 32 := scX_r X (j := 5) (b := 32) (by decide)
theorem sg_6 (X : scX h W H) : xGr h 0 11 6 = some 34 := scX_r X (j := 6) (b := 34) (by decide)
theorem sg_7 (X : scX h W H) : xGr h 0 11 7 = some 39 := scX_r X (j := 7) (b := 39) (by decide)
theorem sg_9 (X : scX h W H) : xGr h 0 11 9 = some 46 := scX_r X (j := 9) (b := 46) (by decide)
theorem sg_10 (X : scX h W H) : xGr h 0 11 10 = some 48 := scX_r X (j := 10) (b := 48) (by decide)
theorem sg_11 (X : scX h W H) : xGr h 0 11 11 = some 64 := scX_r X (j := 11) (b := 64) (by decide)
theorem sg_13 (X : scX h W H) : xGr h 0 11 13 = some 89 := scX_r X (j := 13) (b := 89) (by decide)
theorem pgX_fr {Q : Nat → Nat → Prop} {P : Nat → Prop} (F : xfr Q P h h') (X : pgX h W H R) (q : ∀ a j, 2 ≤ a → a < 10 → ¬ Q a j) (q1 : ∀ a, 2 ≤ a → a < 10 → ¬ P a) : pgX h' W H R := fun p hp => ⟨imX_fr F (X p hp).1 (fun j => q _ j (by omega) (by omega)) (q1 _ (by omega) (by omega)), (X p hp).2⟩
theorem pageAt_in (X : scX h W H) {p : Nat} (hp : p < 4) : xM S mX12_pageAt [.ref 0, .int (nI p)] h = some (.inl (some (.ref (2 + 2 * p))), h, 0, 0) := by
  obtain ⟨h1, h2, h3, ⟨G, h4, h5⟩, h6⟩ := X
  refine w_X12_pageAt S _ _ _ _ ?_
  try rw [if_neg (nI_pos (by omega))]
  try rw [xGr_of (h3 (2, 1) (by decide))]
  try rw [Option.bind_some]
  try rw [xRz_of h4]
  try rw [Option.bind_some]
  show (if nI p < nI 4 then _ else _) = _
  try rw [if_pos (nI_lt hp (by decide))]
  try rw [xGr_of (h3 (2, 1) (by decide))]
  try rw [Option.bind_some]
  try rw [xRr_of h4 (by decide) (by decide) hp (h5 p hp)]
  try rw [Option.bind_some]
theorem pageAt_out (X : scX h W H) {p : Int32} (v : ¬ (0 ≤ p ∧ p ≤ 3)) : xM S mX12_pageAt [.ref 0, .int p] h = some (.inr sIO, h, 1, 6) := by
  obtain ⟨h1, h2, h3, ⟨G, h4, h5⟩, h6⟩ := X
  refine w_X12_pageAt S _ _ _ _ ?_
  by_cases c : p < 0
  · rw [if_pos c]; rfl
  · try rw [if_neg c]
    try rw [xGr_of (h3 (2, 1) (by decide))]
    try rw [Option.bind_some]
    try rw [xRz_of h4]
    try rw [Option.bind_some]
    show (if p < nI 4 then _ else _) = _
    rw [if_neg (fun q => v ?_)]
    · rfl
    · obtain ⟨j, hj, rfl⟩ := nI_of c
      have := (nI_ltI hj (by decide)).mp q
      exact ⟨nI_pos' (by omega), nI_le (b := 3) (by omega) (by decide)⟩
theorem requireRow_in (X : scX h W H) {y : Nat} (hy : y < H) : xM S mX12_requireRow [.ref 0, .int (nI y)] h = some (.inl none, h, 0, 0) := by
  obtain ⟨h1, h2, h3, h4, h5, h6, h7, h8⟩ := X
  refine w_X12_requireRow S _ _ _ _ ?_
  try rw [if_neg (nI_pos (by omega))]
  try rw [xGi_of h2]
  try rw [Option.bind_some]
  try rw [if_pos (nI_lt hy (by omega))]
theorem requireRow_out (X : scX h W H) {y : Int32} (v : ¬ (0 ≤ y ∧ y ≤ nI H - 1)) : xM S mX12_requireRow [.ref 0, .int y] h = some (.inr sIO, h, 1, 6) := by
  obtain ⟨h1, h2, h3, h4, h5, h6, h7, h8⟩ := X
  refine w_X12_requireRow S _ _ _ _ ?_
  by_cases c : y < 0
  · rw [if_pos c]; rfl
  · try rw [if_neg c]
    try rw [xGi_of h2]
    try rw [Option.bind_some]
    try rw [if_neg (fun q => v ?_)]
    · rfl
    · obtain ⟨j, hj, rfl⟩ := nI_of c
      have := (nI_ltI hj (by omega)).mp q
      rw [nI_m1 (by omega)]
      exact ⟨nI_pos' (by omega), nI_le (by omega) (by omega)⟩
theorem crow_in (X : scX h W H) (G : pgX h W H R) {p y : Nat} (hp : p < 4) (hy : y < H) : xM S mX12_row [.ref 0, .int (nI p), .int (nI y)] h = some (.inl (some (.long (R p y))), h, 0, 0) := by
  have I := (G p hp).1
  refine w_X12_row S _ _ _ _ _ ?_
  rw [if_pos (scX_ob X), pageAt_in X hp, xqR_s, if_pos (scX_ob X), requireRow_in X hy, xqV_s, if_pos (imX_ob I), rowAt_s I, xqJ_s, rwA_in hy (by have := X.2.2.2.2.2.2.2; omega)]
theorem crow_out (X : scX h W H) {p y : Int32} (v : ¬ pyV H p y) : xM S mX12_row [.ref 0, .int p, .int y] h = some (.inr sIO, h, 1, 6) := by
  refine w_X12_row S _ _ _ _ _ ?_
  rw [if_pos (scX_ob X)]
  by_cases c : 0 ≤ p ∧ p ≤ 3
  · obtain ⟨p', hp, rfl⟩ := (isPage_iff p).mp c
    rw [pageAt_in X hp, xqR_s, if_pos (scX_ob X), requireRow_out X (fun q => v ⟨c, q⟩), xqV_e, xadd_th]
  · rw [pageAt_out X c, xqR_e, xadd_th]
/-- as many pixels by rows as by pixels -/
theorem dfA_P {f g : Nat → Int64} (hH : H ≤ 64) (of : okP W H f) (og : okP W H g) : dfA g f H = dfP f g 4096 := by
  have rows : ∀ n, fb_ct (fun i => px f i != px g i) (64 * n) = fb_sm (fun y => pc (g y ^^^ f y)) n := by
    intro n
    induction n with
    | zero => rfl
    | succ n ih =>
      rw [show 64 * (n + 1) = 64 * n + 64 by omega, fb_ct_split, ih, fb_sm_succ]
      congr 1
      refine fb_ct_cong fun x hx => ?_
      show (px f (64 * n + x) != px g (64 * n + x)) = lb (g n ^^^ f n) x
      unfold px
      rw [show (64 * n + x) / 64 = n by omega, show (64 * n + x) % 64 = x by omega, lb_xor]
      cases lb (f n) x <;> cases lb (g n) x <;> rfl
  show fb_sm _ H = fb_ct _ (64 * 64)
  rw [rows 64, show 64 = H + (64 - H) by omega, fb_sm_split]
  have z : fb_sm (fun k => pc (g (H + k) ^^^ f (H + k))) (64 - H) = 0 := by
    have : ∀ k, k < 64 - H → pc (g (H + k) ^^^ f (H + k)) = 0 := by
      intro k _
      rw [okP_out og (by omega), okP_out of (by omega)]
      decide
    rw [fb_sm_cong this, fb_sm_const, Nat.mul_zero]
  rw [z, Nat.add_zero]
  rfl
/-- what an edit may change in the class -/
def clQ (a _j : Nat) : Prop := a = 10
def clP (b : Nat) : Prop := 3 ≤ b ∧ b < 29
/-- the pages and the history after an edit of page p to g -/
def cdA (h h' : xH) (W H : Nat) (R : Nat → Nat → Int64) (l : List (Nat × (Nat → Int64))) (p : Nat) (g : Nat → Int64) : Prop := pgX h' W H (pgS R p g) ∧ hsX h' W H (hsN l (p, R p)) ∧ xfr clQ clP h h'
/-- from the state kept to the page drawn -/
theorem cdA_of {h1 : xH} (G : pgX h W H R) (F : xfr (fun z _ => z = 10) (fun z => 10 ≤ z ∧ z < 29) h h1) {p : Nat} (hp : p < 4) {g : Nat → Int64} (og : okP W H g) (K : hsX h1 W H (hsN l (p, R p))) : cdA h (xA h1 (3 + 2 * p) (lA H g)) W H R l p g := by
  have G1 : pgX h1 W H R := pgX_fr F G (fun a j q1 q2 q => by omega) (fun a q1 q2 q => by omega)
  refine ⟨fun q hq => ?_, hsX_fr (Q := fun _ _ => False) (P := fun b => b = 3 + 2 * p) (xfr_A (by exact rfl) _) K (fun _ _ _ _ q => q) (fun z q1 q2 q => by omega), xfr_tr (xfr_mono F (fun a j q => q) (fun b q => ⟨by omega, q.2⟩)) (xfr_A (by unfold clP; omega) _)⟩
  unfold pgS
  by_cases e : q = p
  · subst e
    rw [if_pos rfl]
    exact ⟨imX_put (G1 q hq).1 g, og⟩
  · rw [if_neg e]
    exact ⟨imX_ne (G1 q hq).1 _ (by omega), (G1 q hq).2⟩
theorem csetRow_in (X : scX h W H) (G : pgX h W H R) (K : hsX h W H l) {p y : Nat} (hp : p < 4) (hy : y < H) (v : Int64) : ∃ h', xM S mX12_setRow [.ref 0, .int (nI p), .int (nI y), .long v] h = some (.inl (some (.int (nI (dfP (R p) (rwS W (R p) y v) 4096)))), h', 0, 0) ∧ cdA h h' W H R l p (rwS W (R p) y v) := by
  have hH : H ≤ 64 := X.2.2.2.2.2.2.2
  obtain ⟨I, o⟩ := G p hp
  have og := rwS_ok o hy v
  obtain ⟨h1, s, hs, k1, k2, k3, k4⟩ := keep_s (S := S) K hp I o (fun s hs => by omega) (by omega) (by omega)
  have X1 : scX h1 W H := scX_fr k4 X (fun j q => by omega) (by omega)
  have I1 : imX h1 (2 + 2 * p) (3 + 2 * p) W H (R p) := imX_fr k4 I (fun j q => by omega) (by omega)
  have D := cdA_of G k4 hp og k2
  have I2 : imX (xA h1 (3 + 2 * p) (lA H (rwS W (R p) y v))) (2 + 2 * p) (3 + 2 * p) W H (rwS W (R p) y v) := imX_put I1 _
  have J2 : imX (xA h1 (3 + 2 * p) (lA H (rwS W (R p) y v))) (13 + 2 * s) (14 + 2 * s) W H (R p) := imX_ne k3 _ (by omega)
  refine ⟨_, w_X12_setRow S _ _ _ _ _ _ ?_, D⟩
  have hob : xOb h 10 3 = true := by
    obtain ⟨c, pf, q, -⟩ := K
    exact xOb_of q
  try rw [if_pos (scX_ob X)]
  try rw [pageAt_in X hp]
  try rw [xqR_s]
  try rw [if_pos (scX_ob X)]
  try rw [requireRow_in X hy]
  try rw [xqV_s]
  try simp only [sg_2 X, sg_3 X, sg_4 X, sg_5 X, sg_6 X, sg_7 X, sg_9 X, sg_10 X, sg_11 X, sg_13 X, Option.bind_some]
  try rw [if_pos hob]
  try rw [k1]
  try rw [xqR_s]
  try rw [if_pos (imX_ob I1)]
  try rw [putRow_s I1]
  try rw [xqV_s]
  try rw [puA_in hy (by omega)]
  show (if xOb (xA h1 (3 + 2 * p) (lA H (rwS W (R p) y v))) _ _ = true then _ else _) = _
  rw [if_pos (imX_ob I2), differences_s I2 J2, xqI_s, dfA_P hH o og]
theorem csetRow_out (X : scX h W H) {p y : Int32} (v : Int64) (pv : ¬ pyV H p y) : xM S mX12_setRow [.ref 0, .int p, .int y, .long v] h = some (.inr sIO, h, 1, 6) := by
  refine w_X12_setRow S _ _ _ _ _ _ ?_
  rw [if_pos (scX_ob X)]
  by_cases c : 0 ≤ p ∧ p ≤ 3
  · obtain ⟨p', hp, rfl⟩ := (isPage_iff p).mp c
    rw [pageAt_in X hp, xqR_s, if_pos (scX_ob X), requireRow_out X (fun q => pv ⟨c, q⟩), xqV_e, xadd_th]
  · rw [pageAt_out X c, xqR_e, xadd_th]
end CL

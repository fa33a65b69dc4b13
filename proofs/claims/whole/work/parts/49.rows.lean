/-! ROWS READ AND SET: the model's side -/
section RW
variable {S : xS} {h : xH} {W H : Nat} {l : List (Nat × (Nat → Int64))} {R : Nat → Nat → Int64}
/-- a page and a row of it -/
def pyV (H : Nat) (p y : Int32) : Prop := (0 ≤ p ∧ p ≤ 3) ∧ 0 ≤ y ∧ y ≤ nI H - 1
theorem pyV_n {p y : Int32} (hH : 8 ≤ H ∧ H ≤ 64) (v : pyV H p y) : ∃ p' y', p' < 4 ∧ y' < H ∧ p = nI p' ∧ y = nI y' := by
  obtain ⟨v1, v2, v3⟩ := v
  obtain ⟨p', hp, rfl⟩ := (isPage_iff p).mp v1
  have h3 : ¬ y < 0 := by
    rw [Int32.lt_iff_toInt_lt]
    rw [Int32.le_iff_toInt_le] at v2
    omega
  obtain ⟨y', hy, rfl⟩ := nI_of h3
  rw [nI_m1 (by omega)] at v3
  have := (nI_leI hy (by omega)).mp v3
  exact ⟨p', y', hp, by omega, rfl, rfl⟩
theorem pyV_of {p y : Nat} (hp : p < 4) (hy : y < H) (hH : H ≤ 64) : pyV H (nI p) (nI y) := ⟨(isPage_iff _).mpr ⟨p, hp, rfl⟩, nI_pos' (by omega), by rw [nI_m1 (by omega)]; exact nI_le (by omega) (by omega)⟩
/-- the answer noted -/
abbrev th0 (h : xH) (t : Int32) : xH := xU h 90 2 (.int t)
theorem th_q (X : moX h W H) (t : Int32) : moX (th0 h t) W H := moX_S X _ (Or.inr (by decide))
theorem inY_s (X : moX h W H) (y : Int32) : ∀ h' : xH, xM S mX13_in [.long y.toInt64, .long (0 : Int64), .long (nI H - (1 : Int32)).toInt64] h' = some (.inl (some (.int (bz (decide (0 ≤ y ∧ y ≤ nI H - 1))))), h', 0, 0) := fun h' => inI_s h' y 0 (nI H - 1)
theorem mrow_in (X : moX h W H) (A : aI h 91 2 16384 (inkF R)) {p y : Nat} (hp : p < 4) (hy : y < H) (o : okP W H (R p)) : xM S mX13_row [.ref 90, .int (nI p), .int (nI y)] h = some (.inl (some (.long (R p y))), th0 h 0, 0, 0) := by
  have hH : H ≤ 64 := X.2.2.2.2.2.2.2
  have v := pyV_of hp hy hH
  refine w_X13_row S _ _ _ _ _ ?_
  try rw [moX_pi X (by decide) (by decide) rfl]
  try rw [Option.bind_some]
  try rw [if_pos (moX_ob (th_q X 0))]
  try rw [isPage_s]
  try rw [xqI_s]
  try rw [decide_eq_true v.1]
  try rw [bz_t]
  try rw [if_neg (by decide)]
  try rw [xGi_of (th_q X 0).2.1]
  try rw [Option.bind_some]
  try rw [inY_s X]
  try rw [xqI_s]
  try rw [decide_eq_true v.2]
  try rw [bz_t]
  try rw [if_pos (by decide)]
  try rw [if_pos (moX_ob (th_q X 0))]
  try rw [rowOf_s (th_q X 0) (aI_S A _ _ _) hp (by omega) o]
  try rw [xqJ_s]
theorem mrow_out (X : moX h W H) {p y : Int32} (v : ¬ pyV H p y) : xM S mX13_row [.ref 90, .int p, .int y] h = some (.inl (some (.long 0)), th0 h 1, 0, 0) := by
  have F := fails_s (S := S) (th_q X 0) 1
  have e : xU (th0 h 0) 90 2 (.int 1) = th0 h 1 := xS_S _ _ _ _ _
  rw [e] at F
  refine w_X13_row S _ _ _ _ _ ?_
  try rw [moX_pi X (by decide) (by decide) rfl]
  try rw [Option.bind_some]
  try rw [if_pos (moX_ob (th_q X 0))]
  try rw [isPage_s]
  try rw [xqI_s]
  by_cases c : 0 ≤ p ∧ p ≤ 3
  · try rw [decide_eq_true c]
    try rw [bz_t]
    try rw [if_neg (by decide)]
    try rw [xGi_of (th_q X 0).2.1]
    try rw [Option.bind_some]
    try rw [inY_s X]
    try rw [xqI_s]
    try rw [decide_eq_false (fun q => v ⟨c, q⟩)]
    try rw [bz_f]
    try rw [if_neg (by decide)]
    try rw [if_pos (moX_ob (th_q X 0))]
    try rw [F]
    try rw [xqI_s]
    rfl
  · rw [decide_eq_false c, bz_f, if_pos rfl, if_pos (moX_ob (th_q X 0)), F, xqI_s]
    rfl
theorem lb_sbit (k : Nat) (hk : k < 64) (x : Int64) : ((x >>> ((nI k).toInt64 &&& 63)) &&& 1) = if lb x k then 1 else 0 := by
  apply lb_ext
  intro i hi
  rw [lb_and]
  have h1 : lb 1 i = decide (i = 0) := by
    have : ∀ i, i < 64 → lb 1 i = decide (i = 0) := by decide +kernel
    exact this i hi
  rw [h1]
  by_cases c : i = 0
  · subst c
    have e : lb (x >>> ((nI k).toInt64 &&& 63)) 0 = lb x k := by
      rw [wb_c k hk]
      unfold lb
      rw [Int64.toBitVec_shiftRight, wb_tb, wb_sm k hk, BitVec.sshiftRight_eq', BitVec.toNat_ofNat, Nat.mod_eq_of_lt (by omega), BitVec.getLsbD_sshiftRight]
      simp [hk]
    rw [e]
    cases lb x k <;> simp [h1, lb_0]
  · rw [decide_eq_false c, Bool.and_false]
    cases lb x k
    · simp [lb_0]
    · rw [if_pos rfl, h1, decide_eq_false c]
/-- the picture with a row set -/
def rwS (W : Nat) (f : Nat → Int64) (y : Nat) (v : Int64) : Nat → Int64 := vp_updL f y (v &&& wh W)
theorem rwS_ok {f : Nat → Int64} (o : okP W H f) {y : Nat} (hy : y < H) (v : Int64) : okP W H (rwS W f y v) := by
  intro j x q
  unfold rwS vp_updL at q
  by_cases c : j = y
  · rw [if_pos c, lb_and_wh] at q
    simp only [Bool.and_eq_true, decide_eq_true_eq] at q
    exact ⟨q.2, by omega⟩
  · rw [if_neg c] at q
    exact o j x q
theorem paX_fr {Q : Nat → Nat → Prop} {P : Nat → Prop} {h' : xH} (F : xfr Q P h h') (X : paX h l) (q : ¬ Q 90 6) (q2 : ¬ P 92) (q3 : ¬ P 93) : paX h' l := by
  obtain ⟨h6, h8, pg, pa, E, C, r⟩ := X
  exact ⟨xfr_G F h6 q, h8, pg, pa, aI_fr F E q3, aI_fr F C q2, r⟩
/-- what an edit may change in the model -/
def mdQ (a j : Nat) : Prop := a = 90 ∧ (j = 2 ∨ j = 6)
def mdP (b : Nat) : Prop := 91 ≤ b ∧ b ≤ 94
theorem mdQ_mo : ∀ j, mdQ 90 j → j ∈ moM := fun j q => by rcases q.2 with rfl | rfl <;> decide
/-- the pages, the past, the answer, after an edit of page p to g -/
def mdA (h h' : xH) (R : Nat → Nat → Int64) (l : List (Nat × (Nat → Int64))) (p : Nat) (g : Nat → Int64) : Prop := aI h' 91 2 16384 (inkF (pgS R p g)) ∧ paX h' (hsN l (p, R p)) ∧ xG h' 90 12 2 = some (.int 0) ∧ (∃ G, aI h' 94 2 4096 G) ∧ xfr mdQ mdP h h'
/-- from a next picture to the edit's end -/
theorem edit_end (X : moX h W H) (A : aI h 91 2 16384 (inkF R)) (P : paX h l) {s : xH} (F : xfr mdQ (fun z => z = 94) (th0 h 0) s) (F6 : xG s 90 12 6 = xG h 90 12 6) (F2 : xG s 90 12 2 = some (.int 0)) {g : Nat → Int64} (B : aI s 94 2 4096 (fun k => bz (px g k))) {p : Nat} (hp : p < 4) : ∃ h', xM S mX13_edits [.ref 90, .int (nI p)] s = some (.inl (some (.int (nI (dfP (R p) g 4096)))), h', 0, 0) ∧ mdA h h' R l p g := by
  have X1 := moX_fr F (th_q X 0) mdQ_mo
  have A1 : aI s 91 2 16384 (inkF R) := aI_fr F (aI_S A _ _ _) (by decide)
  have P1 : paX s l := by
    obtain ⟨h6, h8, pg, pa, E, C, r⟩ := P
    exact ⟨F6.trans h6, h8, pg, pa, aI_fr F (aI_S E _ _ _) (by decide), aI_fr F (aI_S C _ _ _) (by decide), r⟩
  obtain ⟨h', g1, g2, g3, g4⟩ := edits_s (S := S) X1 A1 P1 B hp
  refine ⟨h', g1, g2, g3, xfr_G g4 F2 (fun q => by have := q.2; omega), ⟨_, aI_fr g4 B (by unfold edP; omega)⟩, ?_⟩
  refine xfr_tr (xfr_tr (xfr_S (by exact ⟨rfl, Or.inl rfl⟩) _) (xfr_mono F (fun _ _ q => q) (fun b q => by subst q; exact ⟨by decide, by decide⟩))) (xfr_mono g4 (fun a j q => ⟨q.1, Or.inr q.2⟩) (fun b q => ⟨q.1, Nat.le_succ_of_le q.2⟩))
theorem msetRow_in (X : moX h W H) (A : aI h 91 2 16384 (inkF R)) (P : paX h l) (B0 : ∃ g, aI h 94 2 4096 g) {p y : Nat} (hp : p < 4) (hy : y < H) (v : Int64) (o : okP W H (R p)) : ∃ h', xM S mX13_setRow [.ref 90, .int (nI p), .int (nI y), .long v] h = some (.inl (some (.int (nI (dfP (R p) (rwS W (R p) y v) 4096)))), h', 0, 0) ∧ mdA h h' R l p (rwS W (R p) y v) := by
  have hW : W ≤ 64 := X.2.2.2.2.2.1
  have hH : H ≤ 64 := X.2.2.2.2.2.2.2
  have pv := pyV_of hp hy hH
  obtain ⟨g0, B0⟩ := B0
  obtain ⟨h1, t1, t2, t3⟩ := takes_s (S := S) (th_q X 0) (aI_S A 90 2 (.int 0)) (aI_S B0 90 2 (.int 0)) (fun k _ => inkF_01 _ _) hp
  have t2' : aI h1 94 2 4096 (fun k => bz (px (R p) k)) := aI_cong t2 (fun k hk => inkF_at hk)
  have L := x_loop (σ := xH) (D := fun k s => xden S mX13_setRow 43 [(0, .ref 90), (1, .int (nI p)), (2, .int (nI y)), (3, .long v), (5, .int (nI k))] [] s)
    (Inv := fun k s => aI s 94 2 4096 (fun i => if i / 64 = y ∧ i % 64 < k then bz (lb v (i % 64)) else bz (px (R p) i)) ∧ xfr (fun _ _ => False) (fun z => z = 94) (th0 h 0) s)
    (Post := fun o => o.1 = .inl (some (.int (nI (dfP (R p) (rwS W (R p) y v) 4096)))) ∧ o.2.2 = (0, 0) ∧ mdA h o.2.1 R l p (rwS W (R p) y v)) W
    (fun k hk s hs => ?_) (fun s hs => ?_) h1 ⟨aI_cong t2' (fun i _ => by rw [if_neg (fun q => Nat.not_lt_zero _ q.2)]), t3⟩
  · obtain ⟨⟨r, h', c, d⟩, q1, q2, q3, q4⟩ := L
    cases q2
    cases q3
    refine ⟨h', w_X13_setRow S _ _ _ _ _ _ ?_, q4⟩
    try rw [moX_pi X (by decide) (by decide) rfl]
    try rw [Option.bind_some]
    try rw [if_pos (moX_ob (th_q X 0))]
    try rw [isPage_s]
    try rw [xqI_s]
    try rw [decide_eq_true pv.1]
    try rw [bz_t]
    try rw [if_neg (by decide)]
    try rw [xGi_of (th_q X 0).2.1]
    try rw [Option.bind_some]
    try rw [inY_s X]
    try rw [xqI_s]
    try rw [decide_eq_true pv.2]
    try rw [bz_t]
    try rw [if_pos (by decide)]
    try rw [if_pos (moX_ob (th_q X 0))]
    try rw [t1]
    try rw [xqV_s]
    exact q1
  · obtain ⟨b1, b2⟩ := hs
    have X1 := moX_fr b2 (th_q X 0) (fun j q => q.elim)
    obtain ⟨e, w1, w2⟩ := aI_wz b1 (by decide) (i := 64 * y + k) (by omega) (bz_01 (lb v k))
    refine ⟨xA s 94 e, ⟨aI_cong w2 (fun i hi => ?_), xfr_tr b2 (xfr_A (by exact rfl) _)⟩, fun o ho => w_X13_setRow_43 S _ _ _ _ _ _ _ ?_⟩
    · unfold upd
      by_cases c : i = 64 * y + k
      · subst c
        rw [if_pos rfl, if_pos ⟨by omega, by omega⟩, show (64 * y + k) % 64 = k by omega]
      · rw [if_neg c]
        show (if i / 64 = y ∧ i % 64 < k then _ else _) = _
        by_cases d : i / 64 = y ∧ i % 64 < k
        · rw [if_pos d, if_pos ⟨d.1, by omega⟩]
        · rw [if_neg d, if_neg (fun q => d ⟨q.1, by omega⟩)]
    · try rw [xGi_of X1.1]
      try rw [Option.bind_some]
      try rw [if_neg (nI_ge hk (by omega))]
      try simp only [mg_3 X1, mg_4 X1, mg_5 X1, mg_7 X1, mg_8 X1, mg_9 X1, mg_12 X1, mg_14 X1, mg_15 X1, mg_17 X1, mg_18 X1, mg_19 X1, mg_20 X1, mg_21 X1, mg_22 X1, mg_24 X1, mg_26 X1, mg_27 X1, mg_28 X1, mg_29 X1, mg_31 X1, mg_32 X1, mg_33 X1, mg_36 X1, mg_37 X1, mg_38 X1, mg_39 X1, mg_40 X1, mg_46 X1, mg_47 X1, mg_52 X1, mg_53 X1, mg_57 X1, mg_58 X1, mg_60 X1, mg_61 X1, mg_62 X1, mg_63 X1, mg_64 X1, mg_65 X1, mg_66 X1, mg_67 X1, mg_68 X1, mg_69 X1, mg_70 X1, mg_71 X1, mg_72 X1, mg_73 X1, mg_74 X1, mg_75 X1, mg_76 X1, mg_77 X1, mg_78 X1, mg_80 X1, mg_81 X1, Option.bind_some]
      try rw [lb_sbit k (by omega)]
      try rw [show (64 : Int32) = nI 64 from rfl]
      try rw [pk_mul]
      try rw [nI_add]
      try rw [show (1 : Int32) = nI 1 from rfl]
      try rw [nI_add]
      cases c : lb v k
      · rw [c] at w1
        rw [if_pos (by decide)]
        show ((xWz s 94 (nI (64 * y + k)) (bz false)).bind _) = _
        try rw [w1]
        try rw [Option.bind_some]
        exact ho
      · rw [c] at w1
        rw [if_neg (by decide)]
        show ((xWz s 94 (nI (64 * y + k)) (bz true)).bind _) = _
        try rw [w1]
        try rw [Option.bind_some]
        exact ho
  · obtain ⟨b1, b2⟩ := hs
    have X1 := moX_fr b2 (th_q X 0) (fun j q => q.elim)
    have B1 : aI s 94 2 4096 (fun k => bz (px (rwS W (R p) y v) k)) := aI_cong b1 (fun i hi => by
      unfold px rwS vp_updL
      by_cases c : i / 64 = y
      · rw [if_pos c, lb_and_wh]
        by_cases d : i % 64 < W
        · rw [if_pos ⟨c, d⟩, decide_eq_true d, Bool.and_true]
        · rw [if_neg (fun q => d q.2), decide_eq_false d, Bool.and_false]
          cases hb : lb (R p (i / 64)) (i % 64)
          · rfl
          · exact absurd (o _ _ hb).1 d
      · rw [if_neg c, if_neg (fun q => c q.1)])
    have e2 : xG s 90 12 2 = some (.int 0) := xfr_G b2 (by
      obtain ⟨v0, hv⟩ := X.2.2.2.1 2 (by decide)
      rw [xG_S, if_pos ⟨rfl, rfl⟩, hv]; rfl) (fun q => q)
    have e6 : xG s 90 12 6 = xG h 90 12 6 := by
      have := xfr_G b2 (a := 90) (c := 12) (j := 6) (v := .int (nI l.length)) (by rw [xG_S, if_neg (by decide)]; exact P.1) (fun q => q)
      rw [this, P.1]
    obtain ⟨h', q1, q2⟩ := edit_end (S := S) X A P (xfr_mono b2 (fun _ _ q => q.elim) (fun _ q => q)) e6 e2 B1 hp
    refine ⟨(.inl (some (.int (nI (dfP (R p) (rwS W (R p) y v) 4096)))), h', 0, 0), w_X13_setRow_43 S _ _ _ _ _ _ _ ?_, rfl, rfl, q2⟩
    try rw [xGi_of X1.1]
    try rw [Option.bind_some]
    try rw [if_pos (Int32.le_refl _)]
    try rw [if_pos (moX_ob X1)]
    try rw [q1]
    try rw [xqI_s]
theorem msetRow_out (X : moX h W H) {p y : Int32} (v : Int64) (pv : ¬ pyV H p y) : xM S mX13_setRow [.ref 90, .int p, .int y, .long v] h = some (.inl (some (.int 0)), th0 h 1, 0, 0) := by
  have F := fails_s (S := S) (th_q X 0) 1
  have e : xU (th0 h 0) 90 2 (.int 1) = th0 h 1 := xS_S _ _ _ _ _
  rw [e] at F
  refine w_X13_setRow S _ _ _ _ _ _ ?_
  try rw [moX_pi X (by decide) (by decide) rfl]
  try rw [Option.bind_some]
  try rw [if_pos (moX_ob (th_q X 0))]
  try rw [isPage_s]
  try rw [xqI_s]
  by_cases c : 0 ≤ p ∧ p ≤ 3
  · try rw [decide_eq_true c]
    try rw [bz_t]
    try rw [if_neg (by decide)]
    try rw [xGi_of (th_q X 0).2.1]
    try rw [Option.bind_some]
    try rw [inY_s X]
    try rw [xqI_s]
    try rw [decide_eq_false (fun q => pv ⟨c, q⟩)]
    try rw [bz_f]
    try rw [if_neg (by decide)]
    try rw [if_pos (moX_ob (th_q X 0))]
    try rw [F]
    try rw [xqI_s]
  · rw [decide_eq_false c, bz_f, if_pos rfl, if_pos (moX_ob (th_q X 0)), F, xqI_s]
end RW

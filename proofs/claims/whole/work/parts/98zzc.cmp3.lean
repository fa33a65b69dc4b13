/-! COMPARE: the class examines -/
theorem cfR_all {Z : ((Nat → Nat) × Nat × (Nat → Nat))} (R : cfR Z) : (4 ≤ Z.1 0 ∧ Z.1 0 ≤ 16) ∧ Z.1 1 ≤ 256 ∧ Z.1 2 ≤ 2 ∧ Z.1 3 ≤ 9 ∧ Z.1 4 ≤ 16 ∧ Z.1 5 ≤ 2 ∧ Z.1 6 ≤ 1 ∧ Z.1 7 ≤ 1 ∧ (1 ≤ Z.1 8 ∧ Z.1 8 ≤ 99) ∧ Z.1 9 ≤ 1 := ⟨R 0 (by omega), (R 1 (by omega)).2, (R 2 (by omega)).2, (R 3 (by omega)).2, (R 4 (by omega)).2, (R 5 (by omega)).2, (R 6 (by omega)).2, (R 7 (by omega)).2, R 8 (by omega), (R 9 (by omega)).2⟩
theorem chO_rng {W H : Nat} {O C : Nat → Int64} {r sk u : Nat} (hr : r ≤ 16) (hsk : sk ≤ 2) {t : Bool} {k c : Nat} {dx dy : Int} (h : chO W H O C r (trP sk u 0) t k c dx dy) : (-16 ≤ dx ∧ dx ≤ 16 ∧ -16 ≤ dy ∧ dy ≤ 16) ∧ k ≤ 4 ∧ c ≤ 4096 := by
  obtain ⟨h1, h2, _⟩ := h
  have hc := tryP_c h2
  obtain ⟨T, g1, ⟨ca, cb, b1, b2⟩, g3⟩ := h2
  have i := b2.1
  unfold inF inR at i
  unfold trP at h1
  exact ⟨by omega, by omega, hc⟩
theorem alg_cp {W H : Nat} (T : Nat → Int64) {dx dy : Int} (h : -16 ≤ dx ∧ dx ≤ 16 ∧ -16 ≤ dy ∧ dy ≤ 16) : copyF W H T (-zI dx) (-zI dy) = algF W H T dx dy := by
  funext j i
  unfold copyF algF
  rw [zI_neg (by omega) (by omega), zI_neg (by omega) (by omega), zI_t (by omega) (by omega), zI_t (by omega) (by omega), show (i : Int) - -dx = i + dx by omega, show (j : Int) - -dy = j + dy by omega]
def e1P (a _j : Nat) : Bool := a == 77 || (a == 79 || (a == 81 || (a == 82 || (a == 83 || (a == 84 || (a == 86 || a == 88))))))
theorem e1P_n {a j : Nat} (h : a ≠ 77 ∧ a ≠ 79 ∧ a ≠ 81 ∧ a ≠ 82 ∧ a ≠ 83 ∧ a ≠ 84 ∧ a ≠ 86 ∧ a ≠ 88) : e1P a j = false := by
  obtain ⟨h1, h2, h3, h4, h5, h6, h7, h8⟩ := h
  unfold e1P
  rw [beq_eq_false_iff_ne.mpr h1, beq_eq_false_iff_ne.mpr h2, beq_eq_false_iff_ne.mpr h3, beq_eq_false_iff_ne.mpr h4, beq_eq_false_iff_ne.mpr h5, beq_eq_false_iff_ne.mpr h6, beq_eq_false_iff_ne.mpr h7, beq_eq_false_iff_ne.mpr h8]
  rfl
theorem sr_e1 (a j : Nat) (w : e1P a j = false) : srP a j = false := by
  unfold e1P at w
  unfold srP
  simp at w ⊢
  omega
def tlP (a j : Nat) : Bool := decide (147 ≤ a) || (a == 69 || (a == 70 || (a == 71 || (a == 64 && j == 19))))
theorem tlP_n {a j : Nat} (h : a < 147) (h1 : a ≠ 69) (h2 : a ≠ 70) (h3 : a ≠ 71) (h4 : a = 64 → j ≠ 19) : tlP a j = false := by
  unfold tlP
  simp
  omega
theorem fo_tl (a j : Nat) (w : tlP a j = false) : foP a j = false := by
  unfold tlP at w
  unfold foP
  simp at w ⊢
  omega
theorem sr_tl (a j : Nat) (w : tlP a j = false) : srQ a j = false := by
  unfold tlP at w
  unfold srQ
  simp at w ⊢
  omega
theorem cp_tl (a j : Nat) (w : tlP a j = false) : cpP a j = false := by
  unfold tlP at w
  unfold cpP
  simp at w ⊢
  omega
theorem ll_tl (a j : Nat) (w : tlP a j = false) : llP a j = false := by
  unfold tlP at w
  unfold llP
  simp at w ⊢
  omega
section CP3
variable {S : xS} {W H n : Nat} {m : mM}
/-- the registration, the aligned page and the differences -/
theorem exam1 (hW8 : 8 ≤ W) (hW : W ≤ 64) (hH8 : 8 ≤ H) (hH : H ≤ 64) {R : Nat → Nat → Int64} {Z : ((Nat → Nat) × Nat × (Nat → Nat))} (CR : cfR Z) (CX : cfX m 34 2 35 36 Z) {c : Nat} {K : Nat → Nat → Int32} {O C : Nat → Int64} (eO : m.2.1 73 = O) (oO : okP W H O) (eC : m.2.1 75 = C) (oC : okP W H C) (dO : desB (R 0) (Z.1 3 : Nat) O) (dC : desB (R 1) (Z.1 3 : Nat) C) {w : Nat → Int64} (e47 : m.2.1 47 = w) (gw : gB W H (fun j i => !mkdB c K (64 * j + i)) w) (o77 : okP W H (m.2.1 77)) (o79 : okP W H (m.2.1 79)) (o81 : okP W H (m.2.1 81)) (o86 : okP W H (m.2.1 86)) (o88 : okP W H (m.2.1 88)) : ∃ m' T Al Ms Ad t k cc dx dy, cmS W H R Z c K O C T Al Ms Ad t k cc dx dy ∧ m'.2.1 88 = T ∧ m'.2.1 77 = Al ∧ m'.2.1 79 = Ms ∧ m'.2.1 81 = Ad ∧ (m'.1 82 6 = zI dx ∧ m'.1 82 7 = zI dy ∧ m'.1 82 8 = zI (skw k) ∧ m'.1 82 9 = bz t ∧ m'.1 82 10 = nI cc) ∧ okP W H (m'.2.1 86) ∧ fr e1P m m' ∧ ∀ {oo : xO}, (if xOb (E W H n m') 34 2 = true then xqI (xM S mX2_valueOf [.ref 34, .retAddr 0] (E W H n m')) xth fun v39 h38 => if xOb h38 64 1 = true then xqV (xM S mX1_measureBlocks [.ref 64, .int v39] h38) xth fun h41 => if xOb h41 34 2 = true then xqI (xM S mX2_valueOf [.ref 34, .retAddr 1] h41) xth fun v45 h44 => (xGr h44 64 1 12).bind fun v46 => if xOb h44 64 1 = true then xqI (xM S mX1_group [.ref 64, .int v45, .ref v46] h44) xth fun v49 h48 => (xP false 1 h48 64 1 17 (.int v49)).bind fun h50 => if xOb h50 64 1 = true then xqV (xM S mX1_formRegions [.ref 64] h50) xth fun h52 => if xOb h52 34 2 = true then xqI (xM S mX2_valueOf [.ref 34, .retAddr 7] h52) xth fun v56 h55 => if ¬ v56 = (1 : Int32) then (if xOb h55 64 1 = true then xqV (xM S mX1_sortRegions [.ref 64, .int (0 : Int32)] h55) xth fun h58 => if xOb h58 34 2 = true then xqI (xM S mX2_valueOf [.ref 34, .retAddr 8] h58) xth fun v62 h61 => if xOb h61 64 1 = true then xqV (xM S mX1_pairParts [.ref 64, .int v62] h61) xth fun h64 => if xOb h64 34 2 = true then xqI (xM S mX2_valueOf [.ref 34, .retAddr 9] h64) xth fun v68 h67 => if ¬ v68 = (1 : Int32) then (if xOb h67 64 1 = true then xqV (xM S mX1_listChanges [.ref 64, .int (0 : Int32), .ref 48] h67) xth fun h70 => some (.inl none, h70, 0, 0) else none) else (if xOb h67 64 1 = true then xqV (xM S mX1_listChanges [.ref 64, .int (1 : Int32), .ref 48] h67) xth fun h73 => some (.inl none, h73, 0, 0) else none) else none else none else none else none) else (if xOb h55 64 1 = true then xqV (xM S mX1_sortRegions [.ref 64, .int (1 : Int32)] h55) xth fun h76 => if xOb h76 34 2 = true then xqI (xM S mX2_valueOf [.ref 34, .retAddr 8] h76) xth fun v80 h79 => if xOb h79 64 1 = true then xqV (xM S mX1_pairParts [.ref 64, .int v80] h79) xth fun h82 => if xOb h82 34 2 = true then xqI (xM S mX2_valueOf [.ref 34, .retAddr 9] h82) xth fun v86 h85 => if ¬ v86 = (1 : Int32) then (if xOb h85 64 1 = true then xqV (xM S mX1_listChanges [.ref 64, .int (0 : Int32), .ref 48] h85) xth fun h88 => some (.inl none, h88, 0, 0) else none) else (if xOb h85 64 1 = true then xqV (xM S mX1_listChanges [.ref 64, .int (1 : Int32), .ref 48] h85) xth fun h91 => some (.inl none, h91, 0, 0) else none) else none else none else none else none) else none else none else none else none else none else none) = some oo → xM S mX1_examine [.ref 64, .ref 46, .ref 34, .ref 48] (E W H n m) = some oo := by
  obtain ⟨_, _, z2, _, z4, z5, z6, _, _, _⟩ := cfR_all CR
  obtain ⟨tm, etm⟩ : ∃ tm : Bool, Z.1 6 = tm.toNat := by
    rcases (show Z.1 6 = 0 ∨ Z.1 6 = 1 by omega) with q | q
    · exact ⟨false, q⟩
    · exact ⟨true, q⟩
  obtain ⟨m1, t, k, cc, dx, dy, s1, s2, s3, s4, s5, s6, s7, s8, s9, s10⟩ := search_s (S := S) (n := n) hW8 hW hH8 hH eO oO eC oC o86 o88 z4 z5 tm
  obtain ⟨rg, k4, c4⟩ := chO_rng z4 z5 s2
  have sr_n : ∀ {a j : Nat}, a ≠ 82 → a ≠ 83 → a ≠ 84 → a ≠ 86 → a ≠ 88 → srP a j = false := fun h1 h2 h3 h4 h5 => by
    unfold srP
    simp
    omega
  generalize eT : m1.2.1 88 = T at s8
  have oT : okP W H T := s8.1
  have F1 : fr e1P m m1 := fr_mono s10 sr_e1
  obtain ⟨Al, gA⟩ : ∃ Al, Al = mvR W H T (-zI dx) (-zI dy) := ⟨_, rfl⟩
  have bA : gB W H (algF W H T dx dy) Al := by rw [← alg_cp T rg, gA]; exact mvR_B hW oT _ _
  have d1 := drawMoved_s (S := S) (n := n) (m := m1) hW hH im76 im87 (by omega) (show okP W H (m1.2.1 77) by rw [fr_L s10 77 (fun _ => sr_n (by omega) (by omega) (by omega) (by omega) (by omega))]; exact o77) (-zI dx) (-zI dy) (G := Al) bA.1 (fun y hy => by
    rw [show m1.2.1 (87 + 1) = T from eT, gA]
    unfold mvR
    by_cases c : 0 ≤ (y : Int) - (-zI dy).toInt ∧ (y : Int) - (-zI dy).toInt < H
    · rw [if_pos ⟨c.1, c.2, hy⟩, if_pos c]
    · rw [if_neg (fun q => c ⟨q.1, q.2.1⟩), if_neg c])
  obtain ⟨m2, e2⟩ : ∃ m2, m2 = aL m1 77 Al := ⟨_, rfl⟩
  rw [show aL m1 (76 + 1) Al = m2 from e2.symm] at d1
  have F2 : fr e1P m m2 := by rw [e2]; exact fr_aL F1 (fun _ => by rfl)
  have q77 : m2.2.1 77 = Al := by rw [e2]; exact aL_eq rfl
  have q73 : m2.2.1 73 = O := (fr_L F2 73 (fun _ => by rfl)).trans eO
  have q47 : m2.2.1 47 = w := (fr_L F2 47 (fun _ => by rfl)).trans e47
  have q79 : m2.2.1 79 = m.2.1 79 := by rw [e2, aL_ne (by omega)]; exact fr_L s10 79 (fun _ => sr_n (by omega) (by omega) (by omega) (by omega) (by omega))
  have q81 : m2.2.1 81 = m.2.1 81 := by rw [e2, aL_ne (by omega)]; exact fr_L s10 81 (fun _ => sr_n (by omega) (by omega) (by omega) (by omega) (by omega))
  have q88 : m2.2.1 88 = T := by rw [e2, aL_ne (by omega)]; exact eT
  have q86 : m2.2.1 86 = m1.2.1 86 := by rw [e2, aL_ne (by omega)]
  have q82 : m2.1 82 = m1.1 82 := by rw [e2]; rfl
  have un : ∀ {f g : Nat → Int64} {far : Nat} {G : Nat → Int64}, gB W H (fun j i => lb (f j) i && !nrB W H g far j i) G → gB W H (msF W H f g far c K) (fun y => G y &&& w y) := fun {f g far G} hG => ⟨fun y x h => by
      rw [lb_and, Bool.and_eq_true] at h
      exact hG.1 y x h.1, fun y x hy hx => by
      rw [lb_and, hG.2 y x hy hx, gw.2 y x hy hx]
      rfl⟩
  obtain ⟨G1, g1⟩ := gB_ex H hW (fun j i => lb (O j) i && !nrB W H Al (Z.1 2) j i)
  obtain ⟨G2, g2⟩ := gB_ex H hW (fun j i => lb (Al j) i && !nrB W H O (Z.1 2) j i)
  have b1 := un g1
  have b2 := un g2
  generalize hMs : (fun y => G1 y &&& w y) = Ms at b1
  generalize hAd : (fun y => G2 y &&& w y) = Ad at b2
  have u1 := drawUnmatched_s (S := S) (n := n) (m := m2) hW hH im78 im72 im76 (by omega) (by omega) (show okP W H (m2.2.1 79) by rw [q79]; exact o79) q73 q77 bA.1 z2 g1
  have k1 := keepOnly_s (S := S) (n := n) (m := aL m2 79 G1) hW hH im78 im46 (by omega) (show okP W H ((aL m2 79 G1).2.1 79) by rw [aL_eq rfl]; exact g1.1)
  rw [show aL (aL m2 79 G1) (78 + 1) (fun y => (aL m2 79 G1).2.1 (78 + 1) y &&& (aL m2 79 G1).2.1 (46 + 1) y) = aL m2 79 Ms from by
    show aL (aL m2 79 G1) 79 (fun y => (aL m2 79 G1).2.1 79 y &&& (aL m2 79 G1).2.1 47 y) = _
    rw [aL_eq rfl, aL_ne (by omega), q47, hMs, aL_aL]] at k1
  obtain ⟨m4, e4⟩ : ∃ m4, m4 = aL m2 79 Ms := ⟨_, rfl⟩
  rw [← e4] at k1
  have F4 : fr e1P m m4 := by rw [e4]; exact fr_aL F2 (fun _ => by rfl)
  have u2 := drawUnmatched_s (S := S) (n := n) (m := m4) hW hH im80 im76 im72 (by omega) (by omega) (show okP W H (m4.2.1 81) by rw [e4, aL_ne (by omega), q81]; exact o81) (O := Al) (A := O) (by rw [e4, aL_ne (by omega)]; exact q77) (by rw [e4, aL_ne (by omega)]; exact q73) oO z2 g2
  have k2 := keepOnly_s (S := S) (n := n) (m := aL m4 81 G2) hW hH im80 im46 (by omega) (show okP W H ((aL m4 81 G2).2.1 81) by rw [aL_eq rfl]; exact g2.1)
  rw [show aL (aL m4 81 G2) (80 + 1) (fun y => (aL m4 81 G2).2.1 (80 + 1) y &&& (aL m4 81 G2).2.1 (46 + 1) y) = aL m4 81 Ad from by
    show aL (aL m4 81 G2) 81 (fun y => (aL m4 81 G2).2.1 81 y &&& (aL m4 81 G2).2.1 47 y) = _
    rw [aL_eq rfl, aL_ne (show ¬ 47 = 81 by omega), show m4.2.1 47 = w by rw [e4, aL_ne (by omega)]; exact q47, hAd, aL_aL]] at k2
  obtain ⟨m5, e5⟩ : ∃ m5, m5 = aL m4 81 Ad := ⟨_, rfl⟩
  rw [← e5] at k2
  have F5 : fr e1P m m5 := by rw [e5]; exact fr_aL F4 (fun _ => by rfl)
  have cx : ∀ {s : mM}, fr e1P m s → cfX s 34 2 35 36 Z := fun {s} F => ⟨fun i hi => (fr_i F 35 i rfl).trans (CX.1 i hi), (fr_i F 34 2 rfl).trans CX.2.1, fun i hi => (fr_i F 36 i rfl).trans (CX.2.2 i hi)⟩
  have v4 := valueOf_E (S := S) (W := W) (H := H) (n := n) CX (s := 4) (by omega)
  have v5 := valueOf_E (S := S) (W := W) (H := H) (n := n) CX (s := 5) (by omega)
  have v6 := valueOf_E (S := S) (W := W) (H := H) (n := n) CX (s := 6) (by omega)
  have v2 := valueOf_E (S := S) (W := W) (H := H) (n := n) (cx F2) (s := 2) (by omega)
  rw [etm] at v6
  refine ⟨m5, T, Al, Ms, Ad, t, k, cc, dx, dy, ⟨oO, oC, dO, dC, ?_, s8, bA, b1, b2⟩, ?_, ?_, ?_, ?_, ?_, ?_, F5, fun {oo} hoo => w_X1_examine S _ _ _ _ _ _ ?_⟩
  · rw [etm]; exact s2
  · rw [e5, aL_ne (by omega), e4, aL_ne (by omega)]; exact q88
  · rw [e5, aL_ne (by omega), e4, aL_ne (by omega)]; exact q77
  · rw [e5, aL_ne (by omega), e4]; exact aL_eq rfl
  · rw [e5]; exact aL_eq rfl
  · rw [e5, aL_1, e4, aL_1, q82]; exact ⟨s3, s4, s5, s6, s7⟩
  · rw [e5, aL_ne (by omega), e4, aL_ne (by omega), q86]; exact s9
  · have e82 : m1.1 82 6 = zI dx := s3
    have e83 : m1.1 82 7 = zI dy := s4
    refine c_gr (by omega) (by rfl) (by rfl) (by rfl) ?_
    refine c_gr (by omega) (by rfl) (by rfl) (by rfl) ?_
    refine c_gr (by omega) (by rfl) (by rfl) (by rfl) ?_
    refine c_ob (by omega) (by rfl) ?_
    refine c_qI v4 ?_
    refine c_ob (by omega) (by rfl) ?_
    refine c_qI v5 ?_
    refine c_ob (by omega) (by rfl) ?_
    refine c_qI v6 ?_
    have rest : xden S mX1_examine 42 [(0, .ref 64), (1, .ref 46), (2, .ref 34), (3, .ref 48)] [.int (bz tm), .int (nI (Z.1 5)), .int (nI (Z.1 4)), .ref 74, .ref 72, .ref 82] (E W H n m) = some oo := by
      refine w_X1_examine_42 S _ _ _ _ _ _ _ _ _ _ _ _ ?_
      refine c_ob (by omega) (by rfl) ?_
      refine c_qV s1 ?_
      refine c_gr (by omega) (by rfl) (by rfl) (by rfl) ?_
      refine c_gr (by omega) (by rfl) (by rfl) (by rfl) ?_
      refine c_gr (by omega) (by rfl) (by rfl) (by rfl) ?_
      refine c_gr (by omega) (by rfl) (by rfl) (by rfl) ?_
      refine c_gi (by omega) (by rfl) (by rfl) (by rfl) ?_
      rw [show m1.1 (64 + 18) 6 = zI dx from e82]
      refine c_gr (by omega) (by rfl) (by rfl) (by rfl) ?_
      refine c_gi (by omega) (by rfl) (by rfl) (by rfl) ?_
      rw [show m1.1 (64 + 18) 7 = zI dy from e83]
      refine c_ob (by omega) (by rfl) ?_
      refine c_qV d1 ?_
      refine c_ob (by omega) (by rfl) ?_
      refine c_qI v2 ?_
      refine c_gr (by omega) (by rfl) (by rfl) (by rfl) ?_
      refine c_gr (by omega) (by rfl) (by rfl) (by rfl) ?_
      refine c_gr (by omega) (by rfl) (by rfl) (by rfl) ?_
      refine c_ob (by omega) (by rfl) ?_
      refine c_qV u1 ?_
      refine c_gr (by omega) (by rfl) (by rfl) (by rfl) ?_
      refine c_ob (by omega) (by rfl) ?_
      refine c_qV k1 ?_
      refine c_gr (by omega) (by rfl) (by rfl) (by rfl) ?_
      refine c_gr (by omega) (by rfl) (by rfl) (by rfl) ?_
      refine c_gr (by omega) (by rfl) (by rfl) (by rfl) ?_
      refine c_ob (by omega) (by rfl) ?_
      refine c_qV u2 ?_
      refine c_gr (by omega) (by rfl) (by rfl) (by rfl) ?_
      refine c_ob (by omega) (by rfl) ?_
      refine c_qV k2 ?_
      exact hoo
    cases tm
    · refine c_ift (by decide) ?_
      exact rest
    · refine c_iff (by decide) ?_
      exact rest
end CP3

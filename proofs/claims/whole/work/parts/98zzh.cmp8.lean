/-! COMPARE: the model's regions, parts, changes, report -/
section CM8
variable {S : xS} {W H n : Nat} {m : mM}
theorem mregs (hW8 : 8 ≤ W) (hW : W ≤ 64) (hH8 : 8 ≤ H) (hH : H ≤ 64) {Z : ((Nat → Nat) × Nat × (Nat → Nat))} (CR : cfR Z) (cf : ∀ i, i < 10 → m.1 98 i = nI (Z.1 i)) {Ms Ad : Nat → Int64} (oM : okP W H Ms) (oA : okP W H Ad) (PM : piM m 121 Ms) (PA : piM m 122 Ad) (X : blM m W H (Z.1 0) (blN Ms Ad (Z.1 0))) {od : Bool} (h7 : Z.1 7 = od.toNat) : ∃ m', xM S mX13_findsRegions [.ref 90] (E W H n m) = some (.inl none, E W H n m', 0, 0) ∧ (∀ k, k < 256 → m'.1 124 k = labV (qP W H Ms Ad (Z.1 0) (Z.1 1)) k) ∧ m'.1 90 59 = nI (qN W H Ms Ad (Z.1 0) (Z.1 1)) ∧ mbZ m' (qN W H Ms Ad (Z.1 0) (Z.1 1)) (qL W H Ms Ad (Z.1 0) (Z.1 1)) (qT W H Ms Ad (Z.1 0) (Z.1 1)) (qR W H Ms Ad (Z.1 0) (Z.1 1)) (qB W H Ms Ad (Z.1 0) (Z.1 1)) ∧ (∀ i, i < qN W H Ms Ad (Z.1 0) (Z.1 1) → m'.1 129 i = nI (qO W H Ms Ad (Z.1 0) (Z.1 1) od i) ∧ m'.1 130 (qO W H Ms Ad (Z.1 0) (Z.1 1) od i) = nI i) ∧ fr (fun a j => spP a j || ((a == 90 && j == 59) || (rbP a j || orP a j))) m m' := by
  obtain ⟨⟨hB, hB2⟩, z1, _⟩ := cfR_all CR
  have e1 : m.1 98 1 = nI (Z.1 1) := cf 1 (by omega)
  have e7 : m.1 98 7 = bz od := by rw [cf 7 (by omega), h7]; cases od <;> rfl
  clear cf CR h7
  generalize Z.1 0 = B at *
  generalize Z.1 1 = noise at *
  obtain ⟨c1, c2⟩ := coB_le hW8 hW hB hB2
  obtain ⟨r1, r2⟩ := coB_le hH8 hH hB hB2
  have N128 := qN_le W H Ms Ad B noise
  have hP : ∀ k, k < 256 → qP W H Ms Ad B noise k = chB (coB W B) (coB H B) (blN Ms Ad B) noise k := fun _ _ => rfl
  obtain ⟨s1, a1, a2, a3⟩ := joins_s (S := S) (W := W) (H := H) (n := n) c1 c2 r1 r2 X.2.1 X.2.2.1 X.2.2.2 (blN_le Ms Ad B) z1
  have a1' : xM S mX13_joins [.ref 90, .int (nI noise)] (E W H n m) = some (.inl (some (.int (nI (qN W H Ms Ad B noise)))), E W H n s1, 0, 0) := a1
  have a2' : ∀ k, k < 256 → s1.1 124 k = labV (qP W H Ms Ad B noise) k := a2
  obtain ⟨s2, e2⟩ : ∃ s2, s2 = sI s1 90 59 (nI (qN W H Ms Ad B noise)) := ⟨_, rfl⟩
  have i2 : ∀ a j, a ≠ 124 → a ≠ 131 → (a = 90 → j ≠ 59) → s2.1 a j = m.1 a j := fun a j h1 h2 h3 => by
    rw [e2, sI_ne (by omega)]
    exact fr_i a3 a j (spP_n h1 h2)
  have s59 : s2.1 90 59 = nI (qN W H Ms Ad B noise) := by rw [e2]; exact sI_eq ⟨rfl, rfl⟩
  obtain ⟨s3, b1, b2, b3⟩ := mboxes_s (S := S) (W := W) (H := H) (n := n) (m := s2) hB hB2 ((i2 90 54 (by omega) (by omega) (by omega)).trans X.1) (fun k hk => (i2 121 k (by omega) (by omega) (by omega)).trans (PM k hk)) (fun k hk => (i2 122 k (by omega) (by omega) (by omega)).trans (PA k hk)) (P := qP W H Ms Ad B noise) (fun k hk => by rw [e2, sI_ne (by omega)]; exact a2' k hk) (N := qN W H Ms Ad B noise) rfl s59
  have bx : ∀ q, q < qN W H Ms Ad B noise → (s3.1 125 q = nI (qL W H Ms Ad B noise q) ∧ s3.1 126 q = nI (qT W H Ms Ad B noise q) ∧ s3.1 127 q = nI (qR W H Ms Ad B noise q) ∧ s3.1 128 q = nI (qB W H Ms Ad B noise q)) ∧ qL W H Ms Ad B noise q < 64 ∧ qT W H Ms Ad B noise q < 64 ∧ qR W H Ms Ad B noise q < 64 ∧ qB W H Ms Ad B noise q < 64 := fun q hq => by
    obtain ⟨l, t, r, b, g1, g2, g3, g4, g5⟩ := b1 q hq
    obtain ⟨l', t', r', b', rfl, rfl, rfl, rfl, k1, k2, k3⟩ := bxS_box (F := rgU W H Ms Ad (qP W H Ms Ad B noise) B q) (fun k _ => (rgU_px hW oM oA _ B q k).symm) (fun y hy => okP_out (rgU_ok hW _ B q) (by omega)) g1 (reg_ne hW oM oA hP hq).2
    obtain ⟨h1, h2, h3, h4⟩ := qX_box (W := W) (H := H) (Ms := Ms) (Ad := Ad) (B := B) (noise := noise) (q := q) k1
    obtain ⟨u1, u2⟩ := isBox_le k1
    rw [h1, h2, h3, h4]
    rw [zI_n (by omega)] at g2 g3 g4 g5
    exact ⟨⟨g2, g3, g4, g5⟩, by omega, by omega, k2, k3⟩
  obtain ⟨s4, d1, d2, d3⟩ := ordersRegions_s (S := S) (W := W) (H := H) (n := n) (m := s3) (N := qN W H Ms Ad B noise) (by omega) (fun q hq => (bx q hq).1) (fun q hq => (bx q hq).2) ((fr_i b2 98 7 (rbP_n (by omega))).trans ((i2 98 7 (by omega) (by omega) (by omega)).trans e7)) ((fr_i b2 90 59 (rbP_n (by omega))).trans s59)
  refine ⟨s4, w_X13_findsRegions S _ _ _ ?_, fun k hk => ?_, ?_, fun q hq => ?_, d2, ?_⟩
  · refine c_gr (by omega) (by rfl) (by rfl) (by rfl) ?_
    refine c_ri (i := 1) (by omega) (by rfl) (by rfl) (by rfl) (by first | omega | ((conv => rhs; whnf); first | omega | (show _ < OfNat.ofNat (α := Nat) _; omega))) (by first | omega | ((conv => lhs; whnf); first | omega | (show OfNat.ofNat (α := Nat) _ < _; omega))) (by decide) ?_
    rw [show m.1 (90 + 8) 1 = nI noise from e1]
    refine c_ob (by omega) (by rfl) ?_
    refine c_qI a1' ?_
    refine c_pi (by omega) (by rfl) (by rfl) (by rfl) (xPok_int (by decide) (by rfl)) ?_
    rw [← e2]
    refine b3 ?_
    exact c_qV d1 rfl
  · rw [fr_i d3 124 k (orP_m (by omega)), fr_i b2 124 k (rbP_n (by omega)), e2, sI_ne (by omega)]
    exact a2' k hk
  · exact (fr_i d3 90 59 (orP_m (by omega))).trans ((fr_i b2 90 59 (rbP_n (by omega))).trans s59)
  · obtain ⟨g1, g2, g3, g4⟩ := (bx q hq).1
    exact ⟨(fr_i d3 125 q (orP_m (by omega))).trans g1, (fr_i d3 126 q (orP_m (by omega))).trans g2, (fr_i d3 127 q (orP_m (by omega))).trans g3, (fr_i d3 128 q (orP_m (by omega))).trans g4⟩
  · refine fr_tr (m' := s3) (fr_tr (m' := s2) ?_ (fr_mono b2 (fun a j w => ?_))) (fr_mono d3 (fun a j w => ?_))
    · rw [e2]
      exact fr_sI (fr_mono a3 (fun a j w => (Bool.or_eq_false_iff.mp w).1)) (by rfl)
    · exact (Bool.or_eq_false_iff.mp (Bool.or_eq_false_iff.mp (Bool.or_eq_false_iff.mp w).2).2).1
    · exact (Bool.or_eq_false_iff.mp (Bool.or_eq_false_iff.mp (Bool.or_eq_false_iff.mp w).2).2).2
theorem mcompare_s (hW8 : 8 ≤ W) (hW : W ≤ 64) (hH8 : 8 ≤ H) (hH : H ≤ 64) {R : Nat → Nat → Int64} (A : inkM m R) (oR : ∀ p, p < 4 → okP W H (R p)) {Z : ((Nat → Nat) × Nat × (Nat → Nat))} (CR : cfR Z) (CX : cfM m Z) {c : Nat} (c6 : c ≤ 6) {K : Nat → Nat → Int32} (MK : mkM m c K) {St : stT} {cnt : Nat} (TS : mstM m cnt St) {O C T Al Ms Ad : Nat → Int64} {t : Bool} {k cc : Nat} {dx dy : Int} (X : cmS W H R Z c K O C T Al Ms Ad t k cc dx dy) {od hd : Bool} (h7 : Z.1 7 = od.toNat) (h9 : Z.1 9 = hd.toNat) : ∃ m', xM S mX13_compare [.ref 90] (E W H n m) = some (.inl (some (.int (m'.1 90 79))), E W H n m', 0, 0) ∧ m'.1 90 35 = 1 ∧ m'.1 90 2 = 0 ∧ cmM m' W H O T Al Ms Ad (Z.1 0) (Z.1 1) (Z.1 8) od hd St cnt dx dy (skw k) t cc ∧ fr mcmP m m' := by
  have c7 := TS.2.1
  obtain ⟨oT, oAl, oM, oA⟩ := cmS_ok X
  obtain ⟨m4, p114, p118, p117, p121, p122, X4, ⟨e41, e42, e43, e44, e45⟩, e2, F4, run⟩ := mcmp1 (S := S) (n := n) hW8 hW hH8 hH A oR CR CX c6 MK X
  have oO := X.1
  obtain ⟨⟨hB, hB2⟩, z1, _, _, z4, z5, _, _, ⟨l1, l2⟩, _⟩ := cfR_all CR
  obtain ⟨rg, k4, _⟩ := chO_rng z4 z5 X.2.2.2.2.1
  obtain ⟨sk1, sk2⟩ := skw_rng k4
  have cf : ∀ {s : mM}, fr mcmP m s → ∀ i, i < 10 → s.1 98 i = nI (Z.1 i) := fun F i hi => (fr_i F 98 i (mcmP_n (by omega))).trans (CX.1 i hi)
  obtain ⟨m5, a1, a2, a3, a4, a5, a6⟩ := mregs (S := S) (n := n) hW8 hW hH8 hH CR (cf F4) oM oA p121 p122 X4 h7
  have n5 : ∀ {a j : Nat}, a ≠ 124 → a ≠ 131 → (a = 90 → j ≠ 59) → (a < 125 ∨ 130 < a) → a ≠ 132 → a ≠ 133 → (fun a j => spP a j || ((a == 90 && j == 59) || (rbP a j || orP a j))) a j = false := fun {a j} h1 h2 h3 h4 h5 h6 => by
    show (_ || (_ || (_ || _))) = false
    rw [spP_n h1 h2, rbP_n (by omega), orP_m (by omega)]
    by_cases c : a = 90
    · rw [beq_eq_false_iff_ne.mpr (h3 c), Bool.and_false]; rfl
    · rw [beq_eq_false_iff_ne.mpr c]; rfl
  have F5 : fr mcmP m m5 := fr_tr F4 (fr_mono a6 (mc_in (fun a j h => by unfold spP rbP orP at h; simp at h; exact mcmP_y (by omega))))
  have w0 := cf F5 8 (by omega)
  have w9 : m5.1 98 9 = bz hd := by rw [cf F5 9 (by omega), h9]; cases hd <;> rfl
  clear cf CR CX MK h7 h9 z4 z5 X
  generalize Z.1 0 = B at *
  generalize Z.1 1 = noise at *
  generalize Z.1 8 = lst at *
  have N128 := qN_le W H Ms Ad B noise
  -- the parts
  have e130 : ∀ q, q < qN W H Ms Ad B noise → m5.1 130 q = nI (qM W H Ms Ad B noise od q) := fun q hq => by
    obtain ⟨g1, g2⟩ := qO_M W H Ms Ad B noise od q hq
    have := (a5 _ g1).2
    rw [g2] at this
    exact this
  obtain ⟨m6, b1, b2, b3, b4⟩ := findsParts_s (S := S) (n := n) (m := m5) hW8 hW hH8 hH hB hB2 oM oA (N := qN W H Ms Ad B noise) (P := qP W H Ms Ad B noise) rfl (qM_O W H Ms Ad B noise od) (qO_M W H Ms Ad B noise od) ((fr_i a6 90 54 (n5 (by omega) (by omega) (by omega) (by omega) (by omega) (by omega))).trans X4.1) (fun k hk => (fr_i a6 121 k (n5 (by omega) (by omega) (by omega) (by omega) (by omega) (by omega))).trans (p121 k hk)) (fun k hk => (fr_i a6 122 k (n5 (by omega) (by omega) (by omega) (by omega) (by omega) (by omega))).trans (p122 k hk)) a3 a2 e130
  have F6 : fr mcmP m m6 := fr_tr F5 (fr_mono b4 (mc_in (fun a j h => by unfold pmP at h; simp at h; exact mcmP_y (by omega))))
  have K6 : ptK m6 (qN W H Ms Ad B noise) (qF W H Ms Ad B noise od) := fun p hp => ⟨(b3 p hp).1.1, fun ne => ptM_B (b3 p hp).1 ne (fun y hy => okP_out (PFm_ok hW Ms Ad (qP W H Ms Ad B noise) B (qO W H Ms Ad B noise od) p) (by omega))⟩
  have j6 : ∀ a j, (a < 134 ∨ 140 < a) → m6.1 a j = m5.1 a j := fun a j h => fr_i b4 a j (pmP_n h)
  have q6 : ∀ b f, (b = 114 ∨ b = 117 ∨ b = 118) → piM m4 b f → piM m6 b f := fun b f hb h k hk => (j6 b k (by omega)).trans ((fr_i a6 b k (n5 (by omega) (by omega) (by omega) (by omega) (by omega) (by omega))).trans (h k hk))
  -- the changes
  obtain ⟨m7, d1, d2, d3⟩ := findsChanges_s (S := S) (n := n) (m := m6) hW8 hW hH8 hH hB hB2 oM oA (N := qN W H Ms Ad B noise) (P := qP W H Ms Ad B noise) rfl (qM_O W H Ms Ad B noise od) (qO_M W H Ms Ad B noise od) b2 (mstM_fr TS F6 (fun a j h => mcmP_n (by omega))) K6 (q6 114 O (by omega) p114) oO (q6 117 Al (by omega) p117) oAl (hd := hd) ((j6 98 9 (by omega)).trans w9) ((j6 90 59 (by omega)).trans a3) l1 l2 ((j6 98 8 (by omega)).trans w0) (fun p hp => (b3 p hp).2)
  have F7 : fr mcmP m m7 := fr_tr F6 (fr_mono d3 (mc_in (fun a j h => by unfold lcP at h; simp at h; exact mcmP_y (by omega))))
  have j7 : ∀ a j, (a < 140 ∨ 144 < a) → (a = 90 → j ≠ 79) → m7.1 a j = m6.1 a j := fun a j h h2 => fr_i d3 a j (lcP_n h h2)
  have i7 : ∀ j, j ≠ 79 → j ≠ 59 → m7.1 90 j = m4.1 90 j := fun j h1 h2 => (j7 90 j (by omega) (by omega)).trans ((j6 90 j (by omega)).trans (fr_i a6 90 j (n5 (by omega) (by omega) (by omega) (by omega) (by omega) (by omega))))
  have O7 : ofI m7 B (qP W H Ms Ad B noise) Ms Ad (qM W H Ms Ad B noise od) := ofI_fr b2 d3 (fun a j h => lcP_n (by omega) (by omega))
  have K7 := ptK_fr K6 d3 (fun a j h1 h2 => lcP_n (by omega) (by omega))
  -- the report
  obtain ⟨m8, u1, u2, u3⟩ := reports_s (S := S) (n := n) (m := m7) hW8 hW hH8 hH hB hB2 oM oA (N := qN W H Ms Ad B noise) (P := qP W H Ms Ad B noise) rfl (qM_O W H Ms Ad B noise od) (qO_M W H Ms Ad B noise od) O7 (mstM_fr TS F7 (fun a j h => mcmP_n (by omega))) K7 (fun i j h => by obtain ⟨h1, h2, _⟩ := prL_lt _ i j h; exact ⟨h1, h2⟩) d2 (dx := dx) (dy := dy) (sk := skw k) (tu := t) (by omega) (by omega) (by omega) (by omega) (by omega) (by omega) ((i7 41 (by omega) (by omega)).trans e41) ((i7 42 (by omega) (by omega)).trans e42) ((i7 43 (by omega) (by omega)).trans e43) ((i7 44 (by omega) (by omega)).trans e44)
  have F8 : fr mcmP m m8 := fr_tr F7 (fr_mono u3 (mc_in (fun a j h => by unfold ouP at h; simp at h; exact mcmP_y (by omega))))
  have j8 : ∀ a j, a ≠ 106 → (a = 90 → j ≠ 25) → m8.1 a j = m7.1 a j := fun a j h h2 => fr_i u3 a j (ouP_n h h2)
  obtain ⟨m9, e9⟩ : ∃ m9, m9 = sI m8 90 35 1 := ⟨_, rfl⟩
  have F9 : fr mcmP m m9 := by rw [e9]; exact fr_sI F8 (mcmP_y (by omega))
  have j9 : ∀ a j, (a = 90 → j ≠ 35) → m9.1 a j = m8.1 a j := fun a j h => by rw [e9, sI_ne (by omega)]
  have q7 : ∀ a j, a ≠ 106 → (a < 140 ∨ 144 < a) → (a = 90 → j ≠ 25 ∧ j ≠ 35 ∧ j ≠ 79) → m9.1 a j = m6.1 a j := fun a j h1 h2 h3 => (j9 a j (by omega)).trans ((j8 a j h1 (by omega)).trans (j7 a j h2 (by omega)))
  have q4 : ∀ j, j ≠ 25 → j ≠ 35 → j ≠ 79 → j ≠ 59 → m9.1 90 j = m4.1 90 j := fun j h1 h2 h3 h4 => (j9 90 j (by omega)).trans ((j8 90 j (by omega) (by omega)).trans (i7 j h3 h4))
  refine ⟨m9, run ?_, by rw [e9]; exact sI_eq ⟨rfl, rfl⟩, (q4 2 (by omega) (by omega) (by omega) (by omega)).trans e2, ⟨fun k hk => (q7 114 k (by omega) (by omega) (by omega)).trans (q6 114 O (by omega) p114 k hk), fun k hk => (q7 118 k (by omega) (by omega) (by omega)).trans (q6 118 T (by omega) p118 k hk), ⟨(q4 54 (by omega) (by omega) (by omega) (by omega)).trans X4.1, (q4 55 (by omega) (by omega) (by omega) (by omega)).trans X4.2.1, (q4 56 (by omega) (by omega) (by omega) (by omega)).trans X4.2.2.1, fun j i hj hi => (q7 123 _ (by omega) (by omega) (by omega)).trans ((j6 123 _ (by omega)).trans ((fr_i a6 123 _ (n5 (by omega) (by omega) (by omega) (by omega) (by omega) (by omega))).trans (X4.2.2.2 j i hj hi)))⟩, ?_, ?_, ⟨(q4 41 (by omega) (by omega) (by omega) (by omega)).trans e41, (q4 42 (by omega) (by omega) (by omega) (by omega)).trans e42, (q4 43 (by omega) (by omega) (by omega) (by omega)).trans e43, (q4 44 (by omega) (by omega) (by omega) (by omega)).trans e44, (q4 45 (by omega) (by omega) (by omega) (by omega)).trans e45⟩, fun q hq => ?_, fun i hi => ?_, fun p hp => ?_, ⟨?_, fun q hq y => ?_⟩, ⟨?_, fun i hi => ?_⟩⟩, F9⟩
  · refine c_ob (by omega) (by rfl) ?_
    refine c_qV a1 ?_
    refine c_ob (by omega) (by rfl) ?_
    refine c_qV b1 ?_
    refine c_ob (by omega) (by rfl) ?_
    refine c_qV d1 ?_
    refine c_ob (by omega) (by rfl) ?_
    refine c_qV u1 ?_
    refine c_pi (by omega) (by rfl) (by rfl) (by rfl) (xPok_bool (by decide) (by rfl) (Or.inr rfl)) ?_
    rw [← e9]
    refine c_gi (by omega) (by rfl) (by rfl) (by rfl) ?_
    rfl
  · have Q : fr (fun a j => ouP 0 a j || (a == 90 && j == 35)) m7 m9 := by rw [e9]; exact fr_sI (fr_mono u3 (fun a j w => (Bool.or_eq_false_iff.mp w).1)) (by rfl)
    exact ofI_fr O7 Q (fun a j h => by
      show (_ || (_ && _)) = false
      rw [ouP_n (by omega) (by omega)]
      by_cases c : a = 90
      · rw [beq_eq_false_iff_ne.mpr (show j ≠ 35 by omega), Bool.and_false]; rfl
      · rw [beq_eq_false_iff_ne.mpr c]; rfl)
  · exact (q7 90 59 (by omega) (by omega) (by omega)).trans ((j6 90 59 (by omega)).trans a3)
  · obtain ⟨g1, g2, g3, g4⟩ := a4 q hq
    exact ⟨(q7 125 q (by omega) (by omega) (by omega)).trans ((j6 125 q (by omega)).trans g1), (q7 126 q (by omega) (by omega) (by omega)).trans ((j6 126 q (by omega)).trans g2), (q7 127 q (by omega) (by omega) (by omega)).trans ((j6 127 q (by omega)).trans g3), (q7 128 q (by omega) (by omega) (by omega)).trans ((j6 128 q (by omega)).trans g4)⟩
  · exact (q7 129 i (by omega) (by omega) (by omega)).trans ((j6 129 i (by omega)).trans (a5 i hi).1)
  · have z : ∀ a, 135 ≤ a → a ≤ 139 → m9.1 a p = m7.1 a p := fun a h1 h2 => (j9 a p (by omega)).trans (j8 a p (by omega) (by omega))
    exact ⟨(z 135 (by omega) (by omega)).trans (K7 p hp).1, fun ne => ptB_fr ((K7 p hp).2 ne) (fun a h1 h2 => z a (by omega) h2)⟩
  · exact (j9 90 79 (by omega)).trans ((j8 90 79 (by omega) (by omega)).trans d2.1)
  · obtain ⟨g1, g2, g3⟩ := d2.2 q hq y
    exact ⟨(j9 141 _ (by omega)).trans ((j8 141 _ (by omega) (by omega)).trans g1), (j9 142 _ (by omega)).trans ((j8 142 _ (by omega) (by omega)).trans g2), (j9 143 _ (by omega)).trans ((j8 143 _ (by omega) (by omega)).trans g3)⟩
  · exact (j9 90 25 (by omega)).trans u2.1
  · exact (j9 106 _ (by omega)).trans (u2.2 i hi)
end CM8

/-! COMPARE: the model -/
def mcmP (a j : Nat) : Bool := decide ((a = 95 ∨ a = 96 ∨ a = 106 ∨ (114 ≤ a ∧ a ≤ 144)) ∨ (a = 90 ∧ (j = 2 ∨ j = 10 ∨ j = 11 ∨ j = 25 ∨ j = 35 ∨ (41 ≤ j ∧ j ≤ 51) ∨ (54 ≤ j ∧ j ≤ 59) ∨ j = 79)))
theorem mcmP_n {a j : Nat} (h : ¬ ((a = 95 ∨ a = 96 ∨ a = 106 ∨ (114 ≤ a ∧ a ≤ 144)) ∨ (a = 90 ∧ (j = 2 ∨ j = 10 ∨ j = 11 ∨ j = 25 ∨ j = 35 ∨ (41 ≤ j ∧ j ≤ 51) ∨ (54 ≤ j ∧ j ≤ 59) ∨ j = 79)))) : mcmP a j = false := decide_eq_false h
theorem mcmP_y {a j : Nat} (h : (a = 95 ∨ a = 96 ∨ a = 106 ∨ (114 ≤ a ∧ a ≤ 144)) ∨ (a = 90 ∧ (j = 2 ∨ j = 10 ∨ j = 11 ∨ j = 25 ∨ j = 35 ∨ (41 ≤ j ∧ j ≤ 51) ∨ (54 ≤ j ∧ j ≤ 59) ∨ j = 79))) : mcmP a j = true := decide_eq_true h
theorem mc_in {K : Nat → Nat → Bool} (h : ∀ a j, K a j = true → mcmP a j = true) : ∀ a j, mcmP a j = false → K a j = false := fun a j w => by
  cases e : K a j
  · rfl
  · rw [h a j e] at w
    cases w
theorem clP_n {b a j : Nat} (h : a ≠ b) (h1 : a ≠ 95) (h2 : a ≠ 96) (h3 : a = 90 → j ≠ 10 ∧ j ≠ 11) : clP b a j = false := by
  unfold clP
  simp
  omega
theorem mtP_n {a j : Nat} (h : a < 116 ∨ 120 < a) (h3 : a = 90 → j < 41 ∨ 51 < j) : mtP a j = false := by
  unfold mtP
  simp
  omega
theorem fdP_n {a j : Nat} (h : a < 121 ∨ 123 < a) (h3 : a = 90 → j < 54 ∨ 56 < j) : fdP a j = false := by
  unfold fdP
  simp
  omega
theorem spP_n {a j : Nat} (h1 : a ≠ 124) (h2 : a ≠ 131) : spP a j = false := by unfold spP; rw [beq_eq_false_iff_ne.mpr h1, beq_eq_false_iff_ne.mpr h2]; rfl
theorem rbP_n {a j : Nat} (h : a < 125 ∨ 128 < a) : rbP a j = false := by
  unfold rbP
  simp
  omega
theorem orP_m {a j : Nat} (h : a ≠ 129 ∧ a ≠ 130 ∧ a ≠ 132 ∧ a ≠ 133) : orP a j = false := by
  unfold orP
  simp
  omega
theorem pmP_n {a j : Nat} (h : a < 134 ∨ 140 < a) : pmP a j = false := by
  unfold pmP
  simp
  omega
theorem rgU_ok {W H : Nat} {Ms Ad : Nat → Int64} (hW : W ≤ 64) (P : Nat → Bool) (B r : Nat) : okP W H (rgU W H Ms Ad P B r) := fun y x h => by
  unfold rgU at h
  rw [lb_or, Bool.or_eq_true] at h
  rcases h with h | h
  · exact (mkW_B hW _).1 y x h
  · exact (mkW_B hW _).1 y x h
section CM7
variable {S : xS} {W H n : Nat} {m : mM}
theorem mcopy_loop {R : Nat → Nat → Int64} (A : inkM m R) : ∃ s, piM s 114 (R 0) ∧ piM s 115 (R 1) ∧ fr (fun a _ => a == 114 || a == 115) m s ∧ xle (xden S mX13_compare 7 [(0, .ref 90), (1, .int (nI 4096))] [] (E W H n s)) (xden S mX13_compare 7 [(0, .ref 90), (1, .int (nI 0))] [] (E W H n m)) := by
  have L := x_sg (σ := mM) (τ := mM) (D := fun k s => xden S mX13_compare 7 [(0, .ref 90), (1, .int (nI k))] [] (E W H n s)) (Inv := fun k s => (∀ j, j < k → s.1 114 j = bz (px (R 0) j) ∧ s.1 115 j = bz (px (R 1) j)) ∧ fr (fun a _ => a == 114 || a == 115) m s)
    (F := fun s => xden S mX13_compare 7 [(0, .ref 90), (1, .int (nI 4096))] [] (E W H n s)) (Post := fun s => piM s 114 (R 0) ∧ piM s 115 (R 1) ∧ fr (fun a _ => a == 114 || a == 115) m s) 4096 (fun k hk s hs => Or.inl ?_) (fun s hs => ⟨s, ⟨fun j hj => (hs.1 j hj).1, fun j hj => (hs.1 j hj).2, hs.2⟩, fun oo ho => ho⟩) m ⟨fun j hj => absurd hj (Nat.not_lt_zero j), fr_rf⟩
  · obtain ⟨s, ⟨h1, h2, h3⟩, h4⟩ := L
    exact ⟨s, h1, h2, h3, h4⟩
  · obtain ⟨h1, h2⟩ := hs
    have v0 := ink_at A (p := 0) (by omega) hk
    have v1 := ink_at A (p := 1) (by omega) hk
    rw [show 4096 * 0 + k = k by omega] at v0
    rw [show 4096 * 1 + k = 4096 + k by omega] at v1
    refine ⟨sI (sI s 114 k (bz (px (R 0) k))) 115 k (bz (px (R 1) k)), ⟨fun j hj => ?_, fr_sI (fr_sI h2 (by rfl)) (by rfl)⟩, fun oo ho => w_X13_compare_7 S _ _ _ _ ?_⟩
    · by_cases c : j = k
      · subst c
        rw [sI_ne (by omega), sI_eq ⟨rfl, rfl⟩, sI_eq ⟨rfl, rfl⟩]
        exact ⟨rfl, rfl⟩
      · rw [sI_ne (by omega), sI_ne (by omega), sI_ne (by omega), sI_ne (by omega)]
        exact h1 j (by omega)
    · have f91 : ∀ j, s.1 91 j = m.1 91 j := fun j => fr_i h2 91 j rfl
      refine c_iff (fun w => by have := (nI_leI (a := 4096) (by omega) (by omega)).mp w; omega) ?_
      refine c_gr (by omega) (by rfl) (by rfl) (by rfl) ?_
      refine c_gr (by omega) (by rfl) (by rfl) (by rfl) ?_
      refine c_ri (i := k) (by omega) (by rfl) (by rfl) rfl (by first | omega | ((conv => rhs; whnf); first | omega | (show _ < OfNat.ofNat (α := Nat) _; omega))) (by first | omega | ((conv => lhs; whnf); first | omega | (show OfNat.ofNat (α := Nat) _ < _; omega))) (by decide) ?_
      rw [show s.1 (90 + 1) k = bz (px (R 0) k) from (f91 k).trans v0]
      refine c_wz (i := k) (by omega) (by rfl) (by rfl) rfl (by first | omega | ((conv => rhs; whnf); first | omega | (show _ < OfNat.ofNat (α := Nat) _; omega))) (by first | omega | ((conv => lhs; whnf); first | omega | (show OfNat.ofNat (α := Nat) _ < _; omega))) (bz_01 _) ?_
      refine c_gr (by omega) (by rfl) (by rfl) (by rfl) ?_
      refine c_gr (by omega) (by rfl) (by rfl) (by rfl) ?_
      rw [show (4096 : Int32) + nI k = nI (4096 + k) from nI_add 4096 k]
      refine c_ri (i := 4096 + k) (by omega) (by rfl) (by rfl) rfl (by first | omega | ((conv => rhs; whnf); first | omega | (show _ < OfNat.ofNat (α := Nat) _; omega))) (by first | omega | ((conv => lhs; whnf); first | omega | (show OfNat.ofNat (α := Nat) _ < _; omega))) (by decide) ?_
      rw [sI_ne (by omega), show s.1 (90 + 1) (4096 + k) = bz (px (R 1) k) from (f91 _).trans v1]
      refine c_wz (i := k) (by omega) (by rfl) (by rfl) rfl (by first | omega | ((conv => rhs; whnf); first | omega | (show _ < OfNat.ofNat (α := Nat) _; omega))) (by first | omega | ((conv => lhs; whnf); first | omega | (show OfNat.ofNat (α := Nat) _ < _; omega))) (bz_01 _) ?_
      refine c_let ?_
      rw [nI_suc]
      exact ho
/-- up to the differences -/
theorem mcmp1 (hW8 : 8 ≤ W) (hW : W ≤ 64) (hH8 : 8 ≤ H) (hH : H ≤ 64) {R : Nat → Nat → Int64} (A : inkM m R) (oR : ∀ p, p < 4 → okP W H (R p)) {Z : ((Nat → Nat) × Nat × (Nat → Nat))} (CR : cfR Z) (CX : cfM m Z) {c : Nat} (c6 : c ≤ 6) {K : Nat → Nat → Int32} (MK : mkM m c K) {O C T Al Ms Ad : Nat → Int64} {t : Bool} {k cc : Nat} {dx dy : Int} (X : cmS W H R Z c K O C T Al Ms Ad t k cc dx dy) : ∃ m', piM m' 114 O ∧ piM m' 118 T ∧ piM m' 117 Al ∧ piM m' 121 Ms ∧ piM m' 122 Ad ∧ blM m' W H (Z.1 0) (blN Ms Ad (Z.1 0)) ∧ (m'.1 90 41 = zI dx ∧ m'.1 90 42 = zI dy ∧ m'.1 90 43 = zI (skw k) ∧ m'.1 90 44 = bz t ∧ m'.1 90 45 = nI cc) ∧ m'.1 90 2 = 0 ∧ fr mcmP m m' ∧ ∀ {oo : xO}, (if xOb (E W H n m') 90 12 = true then xqV (xM S mX13_findsRegions [.ref 90] (E W H n m')) xth fun h20 => if xOb h20 90 12 = true then xqV (xM S mX13_findsParts [.ref 90] h20) xth fun h23 => if xOb h23 90 12 = true then xqV (xM S mX13_findsChanges [.ref 90] h23) xth fun h26 => if xOb h26 90 12 = true then xqV (xM S mX13_reports [.ref 90] h26) xth fun h29 => (xP false 12 h29 90 12 35 (.int (1 : Int32))).bind fun h31 => (xGi h31 90 12 79).bind fun v32 => some (.inl (some (.int v32)), h31, 0, 0) else none else none else none else none) = some oo → xM S mX13_compare [.ref 90] (E W H n m) = some oo := by
  obtain ⟨⟨hB, hB2⟩, z1, z2, z3, z4, z5, z6, z7, z8, z9⟩ := cfR_all CR
  obtain ⟨tm, etm⟩ : ∃ tm : Bool, Z.1 6 = tm.toNat := by
    rcases (show Z.1 6 = 0 ∨ Z.1 6 = 1 by omega) with q | q
    · exact ⟨false, q⟩
    · exact ⟨true, q⟩
  obtain ⟨oO, oC, dO, dC, xc, xT, xA, xM, xD⟩ := X
  have tI : (nI (Z.1 3)).toInt = ((Z.1 3 : Nat) : Int) := nI_toInt (by omega)
  have Q0 := th_fr (m := m) (v := 0)
  obtain ⟨s0, a1, a2, a3, a4⟩ := mcopy_loop (S := S) (W := W) (H := H) (n := n) (inkM_fr A Q0 (fun j => thP_n (by omega)))
  have F0 : fr mcmP m s0 := fr_tr (fr_mono Q0 (mc_in (fun a j h => by unfold thP at h; simp at h; exact mcmP_y (by omega)))) (fr_mono a3 (mc_in (fun a j h => by simp at h; exact mcmP_y (by omega))))
  have cf : ∀ {s : mM}, fr mcmP m s → ∀ i, i < 10 → s.1 98 i = nI (Z.1 i) := fun F i hi => (fr_i F 98 i (mcmP_n (by omega))).trans (CX.1 i hi)
  -- the cleaned pages
  obtain ⟨s1, b1, b2, _, b4⟩ := cleans_s (S := S) (n := n) (m := s0) (b := 114) (P := px (R 0)) hW8 hW hH8 hH (by omega) rfl rfl (by omega) (by omega) (by omega) a1 (fun j h => px_ok (oR 0 (by omega)) h) (nI (Z.1 3))
  have in_cl : ∀ b, (b = 114 ∨ b = 115) → ∀ a j, mcmP a j = false → clP b a j = false := fun b hb => mc_in (fun a j h => by unfold clP at h; simp at h; exact mcmP_y (by omega))
  have F1 : fr mcmP m s1 := fr_tr F0 (fr_mono b4 (in_cl 114 (Or.inl rfl)))
  have P1 : piM s1 114 O := fun j hj => by rw [b2 j hj, dO j, tI]
  have P1' : piM s1 115 (R 1) := piM_fr a2 b4 (fun j => clP_n (by omega) (by omega) (by omega) (by omega))
  obtain ⟨s2, d1, d2, _, d4⟩ := cleans_s (S := S) (n := n) (m := s1) (b := 115) (P := px (R 1)) hW8 hW hH8 hH (by omega) rfl rfl (by omega) (by omega) (by omega) P1' (fun j h => px_ok (oR 1 (by omega)) h) (nI (Z.1 3))
  have F2 : fr mcmP m s2 := fr_tr F1 (fr_mono d4 (in_cl 115 (Or.inr rfl)))
  have P2 : piM s2 115 C := fun j hj => by rw [d2 j hj, dC j, tI]
  have P2' : piM s2 114 O := piM_fr P1 d4 (fun j => clP_n (by omega) (by omega) (by omega) (by omega))
  -- the registration
  obtain ⟨s3, t', k', cc', dx', dy', T', Al', e1, e2, e3, e4, e5, e6, e7, e8, e9, e10, e11, e12⟩ := registers_s (S := S) (n := n) (m := s2) hW8 hW hH8 hH P2' P2 oC z4 z5 tm (cf F2 4 (by omega)) (cf F2 5 (by omega)) (by rw [cf F2 6 (by omega), etm])
  rw [etm] at xc
  obtain ⟨r1, r2, r3, r4, r5⟩ := chO_one (by omega) e2 xc
  subst r1 r2 r3 r4 r5
  have eT := isT_one e8 xT
  subst eT
  have eA := gB_one e10 xA
  subst eA
  have F3 : fr mcmP m s3 := fr_tr F2 (fr_mono e12 (mc_in (fun a j h => by unfold mtP at h; simp at h; exact mcmP_y (by omega))))
  have P3 : piM s3 114 O := piM_fr P2' e12 (fun j => mtP_n (by omega) (by omega))
  -- the differences
  have MK3 : mkM s3 c K := ⟨(fr_i F3 90 30 (mcmP_n (by omega))).trans MK.1, fun i hi => by
    obtain ⟨g1, g2, g3, g4⟩ := MK.2 i hi
    exact ⟨(fr_i F3 107 i (mcmP_n (by omega))).trans g1, (fr_i F3 108 i (mcmP_n (by omega))).trans g2, (fr_i F3 109 i (mcmP_n (by omega))).trans g3, (fr_i F3 110 i (mcmP_n (by omega))).trans g4⟩⟩
  obtain ⟨s4, g1, g2, g3, g4, g5⟩ := finds_s (S := S) (n := n) (m := s3) hW8 hW hH8 hH hB hB2 (cf F3 0 (by omega)) P3 oO e11 xA.1 z2 (cf F3 2 (by omega)) MK3 c6 xM xD
  have F4 : fr mcmP m s4 := fr_tr F3 (fr_mono g5 (mc_in (fun a j h => by unfold fdP at h; simp at h; exact mcmP_y (by omega))))
  have z98 : 10 = eL H 98 := rfl
  refine ⟨s4, piM_fr P3 g5 (fun j => fdP_n (by omega) (by omega)), piM_fr e9 g5 (fun j => fdP_n (by omega) (by omega)), piM_fr e11 g5 (fun j => fdP_n (by omega) (by omega)), g2, g3, g4, ⟨(fr_i g5 90 41 (fdP_n (by omega) (by omega))).trans e3, (fr_i g5 90 42 (fdP_n (by omega) (by omega))).trans e4, (fr_i g5 90 43 (fdP_n (by omega) (by omega))).trans e5, (fr_i g5 90 44 (fdP_n (by omega) (by omega))).trans e6, (fr_i g5 90 45 (fdP_n (by omega) (by omega))).trans e7⟩, ?_, F4, fun {oo} hoo => w_X13_compare S _ _ _ ?_⟩
  · rw [fr_i g5 90 2 (fdP_n (by omega) (by omega)), fr_i e12 90 2 (mtP_n (by omega) (by omega)), fr_i d4 90 2 (clP_n (by omega) (by omega) (by omega) (by omega)), fr_i b4 90 2 (clP_n (by omega) (by omega) (by omega) (by omega)), fr_i a3 90 2 rfl]
    exact sI_eq ⟨rfl, rfl⟩
  · refine c_pi (by omega) (by rfl) (by rfl) (by rfl) (xPok_int (by decide) (by rfl)) ?_
    refine a4 _ ?_
    refine w_X13_compare_7 S _ _ _ _ ?_
    refine c_ift (by decide) ?_
    refine c_gr (by omega) (by rfl) (by rfl) (by rfl) ?_
    refine c_gr (by omega) (by rfl) (by rfl) (by rfl) ?_
    refine c_ri (i := 3) (by omega) (by rfl) (by rfl) (by rfl) (by first | omega | ((conv => rhs; whnf); first | omega | (show _ < OfNat.ofNat (α := Nat) _; omega))) (by first | omega | ((conv => lhs; whnf); first | omega | (show OfNat.ofNat (α := Nat) _ < _; omega))) (by decide) ?_
    rw [show s0.1 (90 + 8) 3 = nI (Z.1 3) from cf F0 3 (by omega)]
    refine c_ob (by omega) (by rfl) ?_
    refine c_qI b1 ?_
    refine c_gr (by omega) (by rfl) (by rfl) (by rfl) ?_
    refine c_gr (by omega) (by rfl) (by rfl) (by rfl) ?_
    refine c_ri (i := 3) (by omega) (by rfl) (by rfl) (by rfl) (by first | omega | ((conv => rhs; whnf); first | omega | (show _ < OfNat.ofNat (α := Nat) _; omega))) (by first | omega | ((conv => lhs; whnf); first | omega | (show OfNat.ofNat (α := Nat) _ < _; omega))) (by decide) ?_
    rw [show s1.1 (90 + 8) 3 = nI (Z.1 3) from cf F1 3 (by omega)]
    refine c_ob (by omega) (by rfl) ?_
    refine c_qI d1 ?_
    refine c_ob (by omega) (by rfl) ?_
    refine c_qV e1 ?_
    refine c_ob (by omega) (by rfl) ?_
    refine c_qV g1 ?_
    exact hoo
end CM7

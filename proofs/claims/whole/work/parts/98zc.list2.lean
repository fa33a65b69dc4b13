/-! CHANGES: the model finds them -/
section LF
variable {S : xS} {W H n N : Nat} {m : mM} {B : Nat} {P : Nat → Bool} {Ms Ad : Nat → Int64} {o nb : Nat → Nat} {St : stT} {cnt : Nat} {O A : Nat → Int64}
theorem mstM_fr {m' : mM} {K : Nat → Nat → Bool} (T : mstM m cnt St) (Q : fr K m m') (h : ∀ a j, (111 ≤ a ∧ a ≤ 113) ∨ (a = 90 ∧ j = 34) → K a j = false) : mstM m' cnt St := by
  obtain ⟨t1, t2, t3⟩ := T
  refine ⟨(fr_i Q _ _ (h _ _ (Or.inr ⟨rfl, rfl⟩))).trans t1, t2, fun i hi => ?_⟩
  obtain ⟨u1, u2, u3, u4⟩ := t3 i hi
  exact ⟨u1, (fr_i Q _ _ (h _ _ (Or.inl (by omega)))).trans u2, (fr_i Q _ _ (h _ _ (Or.inl (by omega)))).trans u3, fun k hk => (fr_i Q _ _ (h _ _ (Or.inl (by omega)))).trans (u4 k hk)⟩
theorem findsChanges_s (hW8 : 8 ≤ W) (hW : W ≤ 64) (hH8 : 8 ≤ H) (hH : H ≤ 64) (hB : 4 ≤ B) (hB2 : B ≤ 16) (oM : okP W H Ms) (oA : okP W H Ad) (hN : N = nS ba P 256) (ho : ∀ i, i < N → nb (o i) = i) (hnb : ∀ q, q < N → nb q < N ∧ o (nb q) = q) (X : ofI m B P Ms Ad nb) (T : mstM m cnt St) (K : ptK m N (PFm W H Ms Ad P B o)) (PO : piM m 114 O) (oO : okP W H O) (PA : piM m 117 A) (oAl : okP W H A) {hd : Bool} (e9 : m.1 98 9 = bz hd) (e59 : m.1 90 59 = nI N) {lst : Nat} (l1 : 1 ≤ lst) (l2 : lst ≤ 99) (e8 : m.1 98 8 = nI lst) (e140 : ∀ p, p < 2 * N → m.1 140 p = 0) : ∃ m', xM S mX13_findsChanges [.ref 90] (E W H n m) = some (.inl none, E W H n m', 0, 0) ∧ liM m' (PFm W H Ms Ad P B o) (prL (PFm W H Ms Ad P B o) N lst N) hd St cnt O A (2 * N) ∧ fr lcP m m' := by
  have N256 : N ≤ 256 := by rw [hN]; exact nS_256 P
  obtain ⟨m1, j1, j2, j3, j4⟩ := pairs_s (S := S) (n := n) hW8 hW hH8 hH hB hB2 oM oA hN ho hnb X K e59 l1 l2 e8 e140
  have Q1 : fr lcP m m1 := fr_mono j4 (fun a j w => by
    unfold lcP at w
    unfold prPm
    rw [Bool.or_eq_false_iff, Bool.or_eq_false_iff, Bool.or_eq_false_iff, Bool.or_eq_false_iff, Bool.or_eq_false_iff] at w
    rw [w.1, w.2.2.2.2.1]
    rfl)
  generalize eL : prL (PFm W H Ms Ad P B o) N lst N = Lp at *
  have hL : ∀ i j, Lp.2 i = some j → j < N := fun i j h => by rw [← eL] at h; exact (prL_lt N i j h).1
  have Q2 : fr lcP m (sI m1 90 79 (nI 0)) := fr_sI Q1 (by rfl)
  have L := x_sg (σ := mM) (τ := mM) (D := fun p s => xden S mX13_findsChanges 11 [(0, .ref 90), (1, .int (nI p))] [] (E W H n s)) (Inv := fun p s => liM s (PFm W H Ms Ad P B o) Lp hd St cnt O A p ∧ fr lcP m s ∧ ∀ k, s.1 140 k = m1.1 140 k ∧ s.1 144 k = m1.1 144 k)
    (F := fun s => some (.inl none, E W H n s, 0, 0)) (Post := fun s => liM s (PFm W H Ms Ad P B o) Lp hd St cnt O A (2 * N) ∧ fr lcP m s) (2 * N) (fun p hp s hs => ?_) (fun s hs => ?_) (sI m1 90 79 (nI 0)) ⟨⟨by rw [sI_eq ⟨rfl, rfl⟩]; rfl, fun q hq => absurd hq (Nat.not_lt_zero q)⟩, Q2, fun k => ⟨sI_ne (by omega), sI_ne (by omega)⟩⟩
  · obtain ⟨m', ⟨g1, g2⟩, g3⟩ := L
    refine ⟨m', w_X13_findsChanges S _ _ _ ?_, g1, g2⟩
    refine c_ob (by omega) (by rfl) ?_
    refine c_qV j1 ?_
    refine c_pi (by omega) (by rfl) (by rfl) (by rfl) (xPok_int (by decide) (by rfl)) ?_
    exact g3 _ rfl
  · left
    obtain ⟨h1, h2, h3⟩ := hs
    have rm : nI p - nI p / (2 : Int32) * (2 : Int32) = nI (p % 2) := pk_rem (by omega) (by decide) (by decide)
    have K' := ptK_fr K h2 (fun a j q1 q2 => lcP_n (by omega) (by omega))
    have ctp := ctP_le (PFm W H Ms Ad P B o p)
    have skip : liB (PFm W H Ms Ad P B o) Lp hd St cnt p = false → liM s (PFm W H Ms Ad P B o) Lp hd St cnt O A (p + 1) := fun y => ⟨by rw [fb_ct_succ, y]; exact h1.1, fun q hq yq => by
      by_cases e : q = p
      · rw [e, y] at yq; cases yq
      · exact h1.2 q (by omega) yq⟩
    have row : ∀ {oo : xO}, (ctP (PFm W H Ms Ad P B o p) = 0 → xden S mX13_findsChanges 11 [(0, .ref 90), (1, .int (nI (p + 1)))] [] (E W H n s) = some oo) → (ctP (PFm W H Ms Ad P B o p) ≠ 0 → p % 2 = 1 → Lp.1 (p / 2) = true → xden S mX13_findsChanges 11 [(0, .ref 90), (1, .int (nI (p + 1)))] [] (E W H n s) = some oo) → (ctP (PFm W H Ms Ad P B o p) ≠ 0 → (decide (p % 2 = 0) || !Lp.1 (p / 2)) = true → xqV (xM S mX13_lists [.ref 90, .int (nI p), .int (pvI (tgO Lp p))] (E W H n s)) xth (fun h6 => xden S mX13_findsChanges 11 [(0, .ref 90), (1, .int (nI (p + 1)))] [] h6) = some oo) → xden S mX13_findsChanges 11 [(0, .ref 90), (1, .int (nI p))] [] (E W H n s) = some oo := fun {oo} q1 q2 q3 => by
      refine w_X13_findsChanges_11 S _ _ _ _ ?_
      refine c_gi (by omega) (by rfl) (by rfl) (by rfl) ?_
      rw [fr_i h2 90 59 (lcP_n (by omega) (by decide)), e59, show (2 : Int32) * nI N = nI (2 * N) from pk_mul 2 N]
      refine c_iff (fun w => by have := (nI_leI (by omega) (by omega)).mp w; omega) ?_
      refine c_gr (by omega) (by rfl) (by rfl) (by rfl) ?_
      refine c_ri (i := p) (by omega) (by rfl) (by rfl) (by rfl) (by first | omega | ((conv => rhs; whnf); first | omega | (show _ < OfNat.ofNat (α := Nat) _; omega))) (by first | omega | ((conv => lhs; whnf); first | omega | (show OfNat.ofNat (α := Nat) _ < _; omega))) (by decide) ?_
      rw [show s.1 (90 + 45) p = _ from (K' p hp).1, rm, nI_suc]
      by_cases c0 : ctP (PFm W H Ms Ad P B o p) = 0
      · refine c_ift ((nI_leI (b := 0) (by omega) (by omega)).mpr (by omega)) ?_
        exact c_let (q1 c0)
      · refine c_iff (fun w => by have := (nI_leI (b := 0) (by omega) (by omega)).mp w; omega) ?_
        by_cases od : p % 2 = 1
        · rw [od]
          refine c_iff (by decide) ?_
          refine c_gr (by omega) (by rfl) (by rfl) (by rfl) ?_
          refine c_ri (i := p) (by omega) (by rfl) (by rfl) (by rfl) (by first | omega | ((conv => rhs; whnf); first | omega | (show _ < OfNat.ofNat (α := Nat) _; omega))) (by first | omega | ((conv => lhs; whnf); first | omega | (show OfNat.ofNat (α := Nat) _ < _; omega))) (by decide) ?_
          have e := j3 (p / 2) (by omega)
          rw [show 2 * (p / 2) + 1 = p by omega, ← (h3 p).1] at e
          rw [show s.1 (90 + 50) p = _ from e]
          cases ht : Lp.1 (p / 2)
          · refine c_iff (fun w => w (by decide)) ?_
            refine c_ift (by decide) ?_
            have := q3 c0 (by rw [ht]; exact Bool.or_true _)
            rw [show tgO Lp p = none from if_neg (by omega)] at this
            exact c_ob (by omega) (by rfl) this
          · refine c_ift (by decide) ?_
            exact c_let (q2 c0 od ht)
        · have ev : p % 2 = 0 := by omega
          rw [ev]
          refine c_ift (by decide) ?_
          refine c_iff (by decide) ?_
          refine c_gr (by omega) (by rfl) (by rfl) (by rfl) ?_
          refine c_ri (i := p) (by omega) (by rfl) (by rfl) (by rfl) (by first | omega | ((conv => rhs; whnf); first | omega | (show _ < OfNat.ofNat (α := Nat) _; omega))) (by first | omega | ((conv => lhs; whnf); first | omega | (show OfNat.ofNat (α := Nat) _ < _; omega))) (by decide) ?_
          have e := j2 (p / 2) (by omega)
          rw [show 2 * (p / 2) = p by omega, ← (h3 p).2] at e
          have := q3 c0 (by rw [decide_eq_true ev]; rfl)
          rw [show tgO Lp p = Lp.2 (p / 2) from if_pos ev] at this
          rw [show s.1 (90 + 54) p = _ from e]
          exact c_ob (by omega) (by rfl) this
    by_cases c0 : ctP (PFm W H Ms Ad P B o p) = 0
    · refine ⟨s, ⟨skip (by unfold liB; rw [decide_eq_false (fun w => w c0)]; rfl), h2, h3⟩, fun oo ho => row (fun _ => ho) (fun w => absurd c0 w) (fun w => absurd c0 w)⟩
    · by_cases tk : (decide (p % 2 = 0) || !Lp.1 (p / 2)) = true
      · obtain ⟨m2, k1, k2, k3⟩ := lists_s (S := S) (n := n) (m := s) hW8 hW hH8 hH hB hB2 oM oA hN ho hnb (ofI_fr X h2 (fun a j h => lcP_n (by omega) (by omega))) (mstM_fr T h2 (fun a j h => lcP_n (by omega) (by omega))) K' (piM_fr PO h2 (fun j => lcP_n (by omega) (by omega))) oO (piM_fr PA h2 (fun j => lcP_n (by omega) (by omega))) oAl (by rw [fr_i h2 98 9 (lcP_n (by omega) (by omega))]; exact e9) hL hp c0 tk h1
        refine ⟨m2, ⟨k2, fr_tr h2 (fr_mono k3 li_lc), fun k => ⟨(fr_i k3 140 k rfl).trans (h3 k).1, (fr_i k3 144 k rfl).trans (h3 k).2⟩⟩, fun oo ho => row (fun w => absurd w c0) (fun _ od w => ?_) (fun _ _ => c_qV k1 ho)⟩
        rw [decide_eq_false (by omega), w] at tk
        cases tk
      · refine ⟨s, ⟨skip (by
          unfold liB
          rw [Bool.eq_false_iff.mpr tk, Bool.and_false]
          rfl), h2, h3⟩, fun oo ho => row (fun _ => ho) (fun _ _ _ => ho) (fun _ w => absurd w tk)⟩
  · refine ⟨s, ⟨hs.1, hs.2.1⟩, fun oo ho => w_X13_findsChanges_11 S _ _ _ _ ?_⟩
    refine c_gi (by omega) (by rfl) (by rfl) (by rfl) ?_
    rw [fr_i hs.2.1 90 59 (lcP_n (by omega) (by decide)), e59, show (2 : Int32) * nI N = nI (2 * N) from pk_mul 2 N]
    refine c_ift ((nI_leI (by omega) (by omega)).mpr (Nat.le_refl _)) ?_
    exact ho
end LF

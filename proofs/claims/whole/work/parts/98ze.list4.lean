/-! CHANGES: the class lists all -/
section LA
variable {S : xS} {W H n N : Nat} {m : mM} {o : Nat → Nat} {PF : Nat → Nat → Int64} {St : stT} {cnt : Nat} {O A : Nat → Int64}
theorem listChanges_s (hW : W ≤ 64) (hH8 : 8 ≤ H) (hH : H ≤ 64) (hN : N ≤ 256) (hn : N ≤ n) (ho : ∀ i, i < N → o i < N) (oi : ∀ i j, i < N → j < N → o i = o j → i = j) (X : rgO m N o PF) (oF : ∀ p, okP W H (PF p)) (T : cstM m cnt St) (eO : m.2.1 73 = O) (eA : m.2.1 77 = A) (e17 : m.1 64 17 = nI N) (hd : Bool) {L : (Nat → Bool) × (Nat → Option Nat)} (J : paI m N o L) : ∃ m', xM S mX1_listChanges [.ref 64, .int (bz hd), .ref 48] (E W H n m) = some (.inl none, E W H n m', 0, 0) ∧ liC m' o PF L hd St cnt O A (2 * N) ∧ fr llP m m' := by
  have Q0 : fr llP m (sI m 64 19 (nI 0)) := fr_sI fr_rf (by rfl)
  have Lp := x_sg (σ := mM) (τ := mM) (D := fun r s => xden S mX1_listChanges 7 [(0, .ref 64), (1, .int (bz hd)), (2, .ref 48), (3, .int (nI r))] [] (E W H n s)) (Inv := fun r s => liC s o PF L hd St cnt O A (2 * r) ∧ fr llP m s)
    (F := fun s => some (.inl none, E W H n s, 0, 0)) (Post := fun s => liC s o PF L hd St cnt O A (2 * N) ∧ fr llP m s) N (fun r hr s hs => ?_) (fun s hs => ?_) (sI m 64 19 (nI 0)) ⟨⟨by rw [sI_eq ⟨rfl, rfl⟩]; rfl, fun q hq => absurd hq (Nat.not_lt_zero q)⟩, Q0⟩
  · obtain ⟨m', g1, g2⟩ := Lp
    refine ⟨m', w_X1_listChanges S _ _ _ _ _ ?_, g1⟩
    refine c_pi (by omega) (by rfl) (by rfl) (by rfl) (xPok_int (by decide) (by rfl)) ?_
    exact g2 _ rfl
  · left
    obtain ⟨h1, h2⟩ := hs
    have oR := ho r hr
    have full : ∀ {s : mM}, fr llP m s → rgO s N o PF ∧ cstM s cnt St ∧ s.2.1 73 = O ∧ s.2.1 77 = A ∧ s.1 64 17 = nI N := fun {s} Q => ⟨rgO_ll X Q, cstM_fr T Q (fun a j q1 q2 => llP_lo (by omega) (by omega) (by omega)), (fr_L Q 73 (fun y => llP_lo (by decide) (by decide) (fun w => by cases w))).trans eO, (fr_L Q 77 (fun y => llP_lo (by decide) (by decide) (fun w => by cases w))).trans eA, (fr_i Q 64 17 (llP_lo (by decide) (by decide) (by decide))).trans e17⟩
    obtain ⟨f1, f2, f3, f4, f5⟩ := full h2
    have p1 : pcl o (2 * r) = 147 + 5 * o r + 1 := by rw [pcl_e (by omega), show 2 * r / 2 = r by omega]
    have p2 : pcl o (2 * r + 1) = 147 + 5 * o r + 3 := by rw [pcl_o (by omega), show (2 * r + 1) / 2 = r by omega]
    obtain ⟨s1, j1, j2, j3⟩ := list_s (S := S) (W := W) (n := n) hW hH8 hH hN hn ho oi f1 oF f2 f3 f4 (p := 2 * r) (by omega) (by rw [decide_eq_true (by omega)]; rfl) (by
      rw [p1, fr_r h2 _ _ (llP_j (by omega) (by decide) (by decide)), J.1 r hr]
      unfold tgO
      rw [if_pos (by omega), show 2 * r / 2 = r by omega]
      cases L.2 r <;> rfl) h1
    rw [if_neg (by omega), p1] at j1
    have Q1 := fr_tr h2 j3
    obtain ⟨g1, g2, g3, g4, g5⟩ := full Q1
    have pn := J.2 r hr
    rw [← fr_r Q1 (147 + 5 * o r + 3) 8 (llP_j (by omega) (by decide) (by decide))] at pn
    have kA : eK (147 + 5 * o r + 3) = (0, 5) := eK_reg (o r) 3 (by decide)
    have start : ∀ {oo : xO}, (s1.2.2 (147 + 5 * o r + 3) 8 = none → xqV (xM S mX1_list [.ref 64, .ref (147 + 5 * o r + 3), .int (bz hd), .ref 48, .ref 76] (E W H n s1)) xth (fun h15 => xden S mX1_listChanges 7 [(0, .ref 64), (1, .int (bz hd)), (2, .ref 48), (3, .int (nI (r + 1)))] [] h15) = some oo) → ((s1.2.2 (147 + 5 * o r + 3) 8).isSome = true → xden S mX1_listChanges 7 [(0, .ref 64), (1, .int (bz hd)), (2, .ref 48), (3, .int (nI (r + 1)))] [] (E W H n s1) = some oo) → xden S mX1_listChanges 7 [(0, .ref 64), (1, .int (bz hd)), (2, .ref 48), (3, .int (nI r))] [] (E W H n s) = some oo := fun {oo} q1 q2 => by
      refine w_X1_listChanges_7 S _ _ _ _ _ _ ?_
      refine c_gi (by omega) (by rfl) (by rfl) (by rfl) ?_
      rw [f5]
      refine c_iff (fun w => by have := (nI_leI (by omega) (by omega)).mp w; omega) ?_
      refine c_gr (by omega) (by rfl) (by rfl) (by rfl) ?_
      refine c_rr (i := r) (by omega) (by rfl) (by decide) (by rfl) (by first | omega | ((conv => rhs; whnf); first | omega | (show _ < OfNat.ofNat (α := Nat) _; omega))) (by first | omega | ((conv => lhs; whnf); first | omega | (show OfNat.ofNat (α := Nat) _ < _; omega))) (f1 r hr).1 ?_
      refine c_gr (o := 1) (by omega) (eK_R _) (by rfl) (by rfl) ?_
      refine c_gr (by omega) (by rfl) (by rfl) (by rfl) ?_
      refine c_ob (by omega) (by rfl) ?_
      refine c_qV j1 ?_
      refine c_gr (by omega) (by rfl) (by rfl) (by rfl) ?_
      refine c_rr (i := r) (by omega) (by rfl) (by decide) (by rfl) (by first | omega | ((conv => rhs; whnf); first | omega | (show _ < OfNat.ofNat (α := Nat) _; omega))) (by first | omega | ((conv => lhs; whnf); first | omega | (show OfNat.ofNat (α := Nat) _ < _; omega))) (g1 r hr).1 ?_
      refine c_gr (o := 3) (by omega) (eK_R _) (by rfl) (by rfl) ?_
      refine c_gn (by omega) kA (by rfl) (by rfl) ?_
      cases hp : s1.2.2 (147 + 5 * o r + 3) 8 with
      | none =>
        refine c_on0 rfl ?_
        refine c_gr (by omega) (by rfl) (by rfl) (by rfl) ?_
        refine c_ob (by omega) (by rfl) ?_
        have := q1 hp
        rw [← nI_suc] at this
        exact this
      | some x =>
        refine c_on1 rfl ?_
        refine c_let ?_
        rw [nI_suc]
        exact q2 (by rw [hp]; rfl)
    cases ht : L.1 r
    · rw [ht] at pn
      have hp : s1.2.2 (147 + 5 * o r + 3) 8 = none := by
        cases h : s1.2.2 (147 + 5 * o r + 3) 8
        · rfl
        · rw [h] at pn; cases pn
      obtain ⟨s2, k1, k2, k3⟩ := list_s (S := S) (W := W) (n := n) hW hH8 hH hN hn ho oi g1 oF g2 g3 g4 (p := 2 * r + 1) (by omega) (by rw [show (2 * r + 1) / 2 = r by omega, ht]; exact Bool.or_true _) (by
        rw [p2, hp]
        unfold tgO
        rw [if_neg (by omega)]) j2
      rw [if_pos (by omega), p2] at k1
      refine ⟨s2, ⟨k2, fr_tr Q1 k3⟩, fun oo ho => start (fun _ => c_qV k1 ho) (fun w => by rw [hp] at w; cases w)⟩
    · rw [ht] at pn
      have y : liB PF L hd St cnt (2 * r + 1) = false := by
        unfold liB
        rw [decide_eq_false (show ¬ (2 * r + 1) % 2 = 0 by omega), show (2 * r + 1) / 2 = r by omega, ht]
        cases decide (ctP (PF (2 * r + 1)) ≠ 0) <;> rfl
      refine ⟨s1, ⟨⟨by rw [show 2 * (r + 1) = 2 * r + 1 + 1 by omega, fb_ct_succ, y]; exact j2.1, fun q hq yq => ?_⟩, Q1⟩, fun oo ho => start (fun w => by rw [w] at pn; cases pn) (fun _ => ho)⟩
      by_cases e : q = 2 * r + 1
      · rw [e, y] at yq; cases yq
      · exact j2.2 q (by omega) yq
  · refine ⟨s, hs, fun oo ho => w_X1_listChanges_7 S _ _ _ _ _ _ ?_⟩
    refine c_gi (by omega) (by rfl) (by rfl) (by rfl) ?_
    rw [fr_i hs.2 64 17 (llP_lo (by decide) (by decide) (by decide)), e17]
    refine c_ift ((nI_leI (by omega) (by omega)).mpr (Nat.le_refl _)) ?_
    exact ho
end LA

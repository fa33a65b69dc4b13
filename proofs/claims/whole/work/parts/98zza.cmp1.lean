/-! COMPARE: what a comparison works out; the class cleans -/
def clnP (a j : Nat) : Bool := bP0 a j || (a == 73 || a == 75)
theorem im72 : imA 72 := ⟨rfl, rfl, by decide⟩
theorem im74 : imA 74 := ⟨rfl, rfl, by decide⟩
theorem im76 : imA 76 := ⟨rfl, rfl, by decide⟩
theorem im78 : imA 78 := ⟨rfl, rfl, by decide⟩
theorem im80 : imA 80 := ⟨rfl, rfl, by decide⟩
theorem im87 : imA 87 := ⟨rfl, rfl, by decide⟩
theorem im46 : imA 46 := ⟨rfl, rfl, by decide⟩
theorem bP0_n {a j : Nat} (h : a < 29 ∨ 31 < a) : bP0 a j = false := by
  unfold bP0
  rw [beq_eq_false_iff_ne.mpr (show a ≠ 30 by omega), beq_eq_false_iff_ne.mpr (show a ≠ 31 by omega), beq_eq_false_iff_ne.mpr (show a ≠ 29 by omega)]
  rfl
theorem clnP_n {a j : Nat} (h : a < 29 ∨ 31 < a) (h2 : a ≠ 73) (h3 : a ≠ 75) : clnP a j = false := by
  unfold clnP
  rw [bP0_n h, beq_eq_false_iff_ne.mpr h2, beq_eq_false_iff_ne.mpr h3]
  rfl
section CP1
variable {S : xS} {W H n : Nat} {m : mM}
theorem clean_s (hW : W ≤ 64) (hH8 : 8 ≤ H) (hH : H ≤ 64) {R : Nat → Nat → Int64} (G : pgC m W H R) {Z : ((Nat → Nat) × Nat × (Nat → Nat))} (C : cfX m 34 2 35 36 Z) (z3 : Z.1 3 < 1000) (K : bkO m W H) (o73 : okP W H (m.2.1 73)) (o75 : okP W H (m.2.1 75)) : ∃ m' O D, xM S mX1_clean [.ref 64, .ref 2, .ref 4, .ref 29, .ref 34] (E W H n m) = some (.inl none, E W H n m', 0, 0) ∧ m'.2.1 73 = O ∧ m'.2.1 75 = D ∧ okP W H O ∧ okP W H D ∧ desB (R 0) (Z.1 3 : Nat) O ∧ desB (R 1) (Z.1 3 : Nat) D ∧ bkO m' W H ∧ fr clnP m m' := by
  obtain ⟨e0, ok0⟩ := G 0 (by omega)
  obtain ⟨e1, ok1⟩ := G 1 (by omega)
  have e0' : m.2.1 3 = R 0 := e0
  have e1' : m.2.1 5 = R 1 := e1
  have tI : (nI (Z.1 3)).toInt = ((Z.1 3 : Nat) : Int) := nI_toInt (by omega)
  have t1 := takeFrom_E (S := S) (n := n) (m := m) hW hH im72 (im_pg 0 (by omega)) (by omega) o73 (show okP W H (m.2.1 3) by rw [e0']; exact ok0)
  rw [show m.2.1 (2 + 2 * 0 + 1) = R 0 from e0] at t1
  have K1 : bkO (aL m 73 (R 0)) W H := by
    unfold bkO
    rw [aL_ne (by omega), aL_ne (by omega)]
    exact K
  obtain ⟨m2, O, s1, s2, s3, s4, s5, s6⟩ := strip_s (S := S) (n := n) (m := aL m 73 (R 0)) hW hH8 hH im72 (aL_eq rfl) ok0 (by omega) (by omega) K1 (nI (Z.1 3))
  have F2 : fr clnP m m2 := fr_tr (fr_aL fr_rf (fun _ => rfl)) (fr_mono s6 (fun a j w => by
    unfold clnP at w
    obtain ⟨w1, w2⟩ := Bool.or_eq_false_iff.mp w
    show (_ || _) = false
    rw [w1, (Bool.or_eq_false_iff.mp w2).1]; rfl))
  have q75 : m2.2.1 75 = m.2.1 75 := by
    rw [fr_L s6 75 (fun y => by show (_ || _) = false; rw [bP0_n (by omega)]; rfl), aL_ne (by omega)]
  have q5 : m2.2.1 5 = R 1 := (fr_L F2 5 (fun y => clnP_n (by omega) (by omega) (by omega))).trans e1'
  have t2 := takeFrom_E (S := S) (n := n) (m := m2) hW hH im74 (im_pg 1 (by omega)) (by omega) (show okP W H (m2.2.1 75) by rw [q75]; exact o75) (show okP W H (m2.2.1 5) by rw [q5]; exact ok1)
  rw [show m2.2.1 (2 + 2 * 1 + 1) = R 1 from q5] at t2
  have K3 : bkO (aL m2 75 (R 1)) W H := by
    unfold bkO
    rw [aL_ne (by omega), aL_ne (by omega)]
    exact s2
  obtain ⟨m4, D, r1, r2, r3, r4, r5, r6⟩ := strip_s (S := S) (n := n) (m := aL m2 75 (R 1)) hW hH8 hH im74 (aL_eq rfl) ok1 (by omega) (by omega) K3 (nI (Z.1 3))
  have F4 : fr clnP m m4 := fr_tr F2 (fr_tr (fr_aL fr_rf (fun _ => rfl)) (fr_mono r6 (fun a j w => by
    unfold clnP at w
    obtain ⟨w1, w2⟩ := Bool.or_eq_false_iff.mp w
    show (_ || _) = false
    rw [w1, (Bool.or_eq_false_iff.mp w2).2]; rfl)))
  have v1 := valueOf_E (S := S) (W := W) (H := H) (n := n) C (s := 3) (by omega)
  refine ⟨m4, O, D, w_X1_clean S _ _ _ _ _ _ _ ?_, ?_, r3, s4, r4, ?_, ?_, r2, F4⟩
  · refine c_ob (by omega) (by rfl) ?_
    refine c_qI v1 ?_
    refine c_gr (by omega) (by rfl) (by rfl) (by rfl) ?_
    refine c_ob (by omega) (by rfl) ?_
    refine c_qV t1 ?_
    refine c_gr (by omega) (by rfl) (by rfl) (by rfl) ?_
    refine c_ob (by omega) (by rfl) ?_
    refine c_qI s1 ?_
    refine c_gr (by omega) (by rfl) (by rfl) (by rfl) ?_
    refine c_ob (by omega) (by rfl) ?_
    refine c_qV t2 ?_
    refine c_gr (by omega) (by rfl) (by rfl) (by rfl) ?_
    refine c_ob (by omega) (by rfl) ?_
    exact c_qI r1 rfl
  · rw [fr_L r6 73 (fun y => by show (_ || _) = false; rw [bP0_n (by omega)]; rfl), aL_ne (by omega)]
    exact s3
  · rw [tI] at s5; exact s5
  · rw [tI] at r5; exact r5
end CP1

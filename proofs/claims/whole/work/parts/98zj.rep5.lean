/-! REPORT: the model tells of a change -/
def phS (n : Nat) : Nat := [0, 7, 14, 22, 30, 39, 46, 53, 58, 65, 72, 77, 85].getD n 85
def phN (n : Nat) : Nat := [6, 6, 7, 7, 8, 6, 6, 4, 6, 6, 4, 7].getD n 0
theorem wdT_p (H : Nat) : wdT H 145 12 phS phN := ⟨by decide, rfl, rfl, rfl, rfl, by decide, by decide +kernel, by decide +kernel⟩
theorem ph_w : wdL 145 phS phN 0 = xSB 21 ∧ wdL 145 phS phN 1 = xSB 23 ∧ wdL 145 phS phN 2 = xSB 24 ∧ wdL 145 phS phN 3 = xSB 25 ∧ wdL 145 phS phN 4 = xSB 32 ∧ wdL 145 phS phN 5 = xSB 31 ∧ wdL 145 phS phN 6 = xSB 27 ∧ wdL 145 phS phN 7 = xSB 33 ∧ wdL 145 phS phN 8 = xSB 34 ∧ wdL 145 phS phN 9 = xSB 28 ∧ wdL 145 phS phN 10 = xSB 30 ∧ wdL 145 phS phN 11 = xSB 36 := by decide +kernel
theorem phN_le : ∀ q, q < 12 → phN q ≤ 8 := by decide
section MR
variable {S : xS} {W H n N : Nat} {m : mM} {B : Nat} {P : Nat → Bool} {Ms Ad : Nat → Int64} {o nb : Nat → Nat} {St : stT} {cnt : Nat} {l : List Int32}
/-- the end of a line -/
theorem mrep107 (hW8 : 8 ≤ W) (hW : W ≤ 64) (hH8 : 8 ≤ H) (hH : H ≤ 64) (hB : 4 ≤ B) (hB2 : B ≤ 16) (oM : okP W H Ms) (oA : okP W H Ad) (hN : N = nS ba P 256) (ho : ∀ i, i < N → nb (o i) = i) (hnb : ∀ q, q < N → nb q < N ∧ o (nb q) = q) (X : ofI m B P Ms Ad nb) (T : mstM m cnt St) {p : Nat} (hp : p < 2 * N) (Xp : ptB m p (PFm W H Ms Ad P B o p)) (R : ouI m 0 l) (hl : l.length < 39000) : ∃ m', xden S mX13_reportsOne 107 [(0, .ref 90), (1, .int (nI p))] [] (E W H n m) = some (.inl none, E W H n m', 0, 0) ∧ ouI m' 0 (l ++ rpE (PFm W H Ms Ad P B o p) (stNo St cnt (PFm W H Ms Ad P B o p))) ∧ fr (ouP 0) m m' := by
  obtain ⟨_, _, _, _, _, _, _, _, _, _, _, _, _, h34, h35, h36⟩ := xSB_len
  obtain ⟨_, _, _, _, _, _, _, _, w8, _, _, w11⟩ := ph_w
  have N256 : N ≤ 256 := by rw [hN]; exact nS_256 P
  have D := wdT_p H
  have frK : ∀ a j, a ≠ 106 → (a = 90 → j ≠ 25) → ouP 0 a j = false := fun a j h1 h2 => by
    unfold ouP
    rw [beq_eq_false_iff_ne.mpr h1]
    by_cases e : a = 90
    · rw [beq_eq_false_iff_ne.mpr (h2 e), Bool.and_false]; rfl
    · rw [beq_eq_false_iff_ne.mpr e]; rfl
  obtain ⟨m1, k1, k2, k3⟩ := tellsWord_s (S := S) (W := W) (H := H) (n := n) D (q := 8) (by decide) R (by show 0 + _ + 6 < _; omega)
  rw [w8] at k2
  have X1 := ofI_fr X k3 (fun a j h => frK a j (by omega) (by omega))
  have T1 := mstM_fr T k3 (fun a j h => frK a j (by omega) (by omega))
  have Xp1 := ptB_fr Xp (fun a h1 h2 => fr_i k3 a p (frK a p (by omega) (by omega)))
  have sz : 1 ≤ wd (PFm W H Ms Ad P B o p) ∧ wd (PFm W H Ms Ad P B o p) ≤ 64 ∧ 1 ≤ ht (PFm W H Ms Ad P B o p) ∧ ht (PFm W H Ms Ad P B o p) ≤ 64 := by
    obtain ⟨lf, t, r, b, h1, h2, h3, _⟩ := Xp
    obtain ⟨a1, a2, a3, a4, _⟩ := box_wh h1 h2 h3
    exact ⟨a1, a2, a3, a4⟩
  have w1 := widthOf_s (S := S) (W := W) (H := H) (n := n) (by omega) Xp1
  have e1 := heightOf_s (S := S) (W := W) (H := H) (n := n) (by omega) Xp1
  obtain ⟨m2, j1, j2, j3⟩ := tellsTwo_s (S := S) (W := W) (H := H) (n := n) k2 (by rw [List.length_append, h34]; omega) (x := nI (wd (PFm W H Ms Ad P B o p))) (y := nI (ht (PFm W H Ms Ad P B o p))) (p := (wd (PFm W H Ms Ad P B o p) : Int)) (q := (ht (PFm W H Ms Ad P B o p) : Int)) (nI 120) (nI_toInt (by omega)) (nI_toInt (by omega)) (by omega) (by omega) (by omega) (by omega)
  have Q2 := fr_tr k3 j3
  have X2 := ofI_fr X Q2 (fun a j h => frK a j (by omega) (by omega))
  have T2 := mstM_fr T Q2 (fun a j h => frK a j (by omega) (by omega))
  have Xp2 := ptB_fr Xp (fun a h1 h2 => fr_i Q2 a p (frK a p (by omega) (by omega)))
  have sf := stampFor_s (S := S) (W := W) (H := H) (n := n) hW8 hW hH8 hH hB hB2 oM oA hN ho hnb X2 T2 hp Xp2
  generalize PFm W H Ms Ad P B o p = F at *
  have wl := nmT_len (wd F : Int)
  have hll := nmT_len (ht F : Int)
  obtain ⟨s1, s2⟩ := stNo_rng St cnt F
  have c7 := T.2.1
  have l2 : (l ++ xSB 34 ++ nmT (wd F : Int) ++ [nI 120] ++ nmT (ht F : Int)).length ≤ l.length + 23 := by
    rw [List.length_append, List.length_append, List.length_append, List.length_append, h34]
    show _ + 6 + _ + 1 + _ ≤ _
    omega
  generalize stNo St cnt F = st at *
  have start : ∀ {oo : xO}, (if zI st < 0 then (if xOb (E W H n m2) 90 12 = true then xqV (xM S mX13_tells [.ref 90, .int (10 : Int32)] (E W H n m2)) xth fun h18 => some (.inl none, h18, 0, 0) else none) else ((xGr (E W H n m2) 90 12 81).bind fun v20 => if xOb (E W H n m2) 90 12 = true then xqV (xM S mX13_tellsWord [.ref 90, .ref v20, .int (11 : Int32)] (E W H n m2)) xth fun h22 => if xOb h22 90 12 = true then xqV (xM S mX13_tellsNumber [.ref 90, .int (zI st)] h22) xth fun h25 => if xOb h25 90 12 = true then xqV (xM S mX13_tells [.ref 90, .int (10 : Int32)] h25) xth fun h28 => some (.inl none, h28, 0, 0) else none else none else none)) = some oo → xden S mX13_reportsOne 107 [(0, .ref 90), (1, .int (nI p))] [] (E W H n m) = some oo := fun {oo} hoo => by
    refine w_X13_reportsOne_107 S _ _ _ _ ?_
    refine c_gr (by omega) (by rfl) (by rfl) (by rfl) ?_
    refine c_ob (by omega) (by rfl) ?_
    refine c_qV k1 ?_
    refine c_ob (by omega) (by rfl) ?_
    refine c_qI w1 ?_
    refine c_ob (by omega) (by rfl) ?_
    refine c_qI e1 ?_
    refine c_ob (by omega) (by rfl) ?_
    refine c_qV j1 ?_
    refine c_ob (by omega) (by rfl) ?_
    exact c_qI sf hoo
  by_cases z : 0 ≤ st
  · obtain ⟨m3, f1, f2, f3⟩ := tellsWord_s (S := S) (W := W) (H := H) (n := n) D (q := 11) (by decide) j2 (by show 0 + _ + 7 < _; omega)
    rw [w11] at f2
    have nl := nmT_len st
    obtain ⟨m4, q1, q2, q3⟩ := tellsNumber_s (S := S) (W := W) (H := H) (n := n) f2 (by rw [List.length_append, h36]; omega) (x := zI st) (z := st) (zI_t (by omega) (by omega)) (by omega) (by omega)
    obtain ⟨m5, r1, r2, r3⟩ := tells_s (S := S) (W := W) (H := H) (n := n) q2 (by rw [List.length_append, List.length_append, h36]; omega) (nI 10)
    refine ⟨m5, start ?_, ?_, fr_tr Q2 (fr_tr f3 (fr_tr q3 r3))⟩
    · refine c_iff (fun w => by
        have := (zI_lt (b := 0) (by omega) (by omega) (by omega) (by omega)).mp w
        omega) ?_
      refine c_gr (by omega) (by rfl) (by rfl) (by rfl) ?_
      refine c_ob (by omega) (by rfl) ?_
      refine c_qV f1 ?_
      refine c_ob (by omega) (by rfl) ?_
      refine c_qV q1 ?_
      refine c_ob (by omega) (by rfl) ?_
      refine c_qV r1 ?_
      rfl
    · unfold rpE
      rw [if_pos z]
      simp only [List.append_assoc] at r2 ⊢
      exact r2
  · obtain ⟨m5, r1, r2, r3⟩ := tells_s (S := S) (W := W) (H := H) (n := n) j2 (by omega) (nI 10)
    refine ⟨m5, start ?_, ?_, fr_tr Q2 r3⟩
    · refine c_ift ((zI_lt (b := 0) (by omega) (by omega) (by omega) (by omega)).mpr (by omega)) ?_
      refine c_ob (by omega) (by rfl) ?_
      refine c_qV r1 ?_
      rfl
    · unfold rpE
      rw [if_neg z]
      simp only [List.append_assoc, List.nil_append] at r2 ⊢
      exact r2
end MR

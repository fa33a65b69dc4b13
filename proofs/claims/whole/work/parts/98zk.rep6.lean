/-! REPORT: the model's lines -/
theorem ouP_n {a j : Nat} (h1 : a ≠ 106) (h2 : a = 90 → j ≠ 25) : ouP 0 a j = false := by
  unfold ouP
  rw [beq_eq_false_iff_ne.mpr h1]
  by_cases e : a = 90
  · rw [beq_eq_false_iff_ne.mpr (h2 e), Bool.and_false]; rfl
  · rw [beq_eq_false_iff_ne.mpr e]; rfl
section MO2
variable {S : xS} {W H n N : Nat} {m : mM} {B : Nat} {P : Nat → Bool} {Ms Ad : Nat → Int64} {o nb : Nat → Nat} {St : stT} {cnt : Nat} {l : List Int32} {L : (Nat → Bool) × (Nat → Option Nat)}
theorem mrepOne_s (hW8 : 8 ≤ W) (hW : W ≤ 64) (hH8 : 8 ≤ H) (hH : H ≤ 64) (hB : 4 ≤ B) (hB2 : B ≤ 16) (oM : okP W H Ms) (oA : okP W H Ad) (hN : N = nS ba P 256) (ho : ∀ i, i < N → nb (o i) = i) (hnb : ∀ q, q < N → nb q < N ∧ o (nb q) = q) (X : ofI m B P Ms Ad nb) (T : mstM m cnt St) (K : ptK m N (PFm W H Ms Ad P B o)) {p : Nat} (hp : p < 2 * N) (ne : ctP (PFm W H Ms Ad P B o p) ≠ 0) (hj : ∀ j, tgO L p = some j → j < N ∧ ctP (PFm W H Ms Ad P B o (2 * j + 1)) ≠ 0) (R : ouI m 0 l) (hl : l.length < 38000) : ∃ m', xM S mX13_reportsOne [.ref 90, .int (nI p), .int (pvI (tgO L p))] (E W H n m) = some (.inl none, E W H n m', 0, 0) ∧ ouI m' 0 (l ++ rpL (PFm W H Ms Ad P B o) L St cnt p) ∧ fr (ouP 0) m m' := by
  obtain ⟨_, _, _, _, _, _, h27, h28, h29, h30, h31, h32, h33, _, _, _⟩ := xSB_len
  obtain ⟨_, _, _, _, w4, w5, w6, w7, _, w9, w10, _⟩ := ph_w
  have N256 : N ≤ 256 := by rw [hN]; exact nS_256 P
  have D := wdT_p H
  have rm : nI p - nI p / (2 : Int32) * (2 : Int32) = nI (p % 2) := pk_rem (by omega) (by decide) (by decide)
  -- the end of a line
  have fin : ∀ {m1 : mM} {hd : List Int32}, fr (ouP 0) m m1 → ouI m1 0 (l ++ hd) → hd.length ≤ 90 → rpH (PFm W H Ms Ad P B o) L p = hd → ∃ m', xden S mX13_reportsOne 107 [(0, .ref 90), (1, .int (nI p))] [] (E W H n m1) = some (.inl none, E W H n m', 0, 0) ∧ ouI m' 0 (l ++ rpL (PFm W H Ms Ad P B o) L St cnt p) ∧ fr (ouP 0) m m' := fun {m1 hd} Q R1 hl1 eh => by
    obtain ⟨m', k1, k2, k3⟩ := mrep107 (S := S) (n := n) hW8 hW hH8 hH hB hB2 oM oA hN ho hnb (ofI_fr X Q (fun a j h => ouP_n (by omega) (by omega))) (mstM_fr T Q (fun a j h => ouP_n (by omega) (by omega))) hp (ptB_fr ((K p hp).2 ne) (fun a h1 h2 => fr_i Q a p (ouP_n (by omega) (by omega)))) R1 (by rw [List.length_append]; omega)
    refine ⟨m', k1, ?_, fr_tr Q k3⟩
    unfold rpL
    rw [eh, ← List.append_assoc]
    exact k2
  obtain ⟨cp, Xp⟩ := K p hp
  obtain ⟨lf, t, r, b, h1, h2, h3, h4, h5, h6, h7⟩ := Xp ne
  obtain ⟨z1, z2⟩ := isBox_le h1
  have ct := ctP_le (PFm W H Ms Ad P B o p)
  have cl := nmT_len (ctP (PFm W H Ms Ad P B o p) : Int)
  have bl := rpB_len (PFm W H Ms Ad P B o p)
  -- word, number, word, corner
  have head : ∀ q1 q2, q1 < 12 → q2 < 12 → ∃ m1, ouI m1 0 (l ++ (wdL 145 phS phN q1 ++ nmT (ctP (PFm W H Ms Ad P B o p) : Int) ++ wdL 145 phS phN q2 ++ rpB (PFm W H Ms Ad P B o p))) ∧ fr (ouP 0) m m1 ∧ ∀ {oo : xO} {x2 : Int32}, (if x2 < 0 then xden S mX13_reportsOne 107 [(0, .ref 90), (1, .int (nI p))] [] (E W H n m1) else ((xGr (E W H n m1) 90 12 81).bind fun v11 => if xOb (E W H n m1) 90 12 = true then xqV (xM S mX13_tellsWord [.ref 90, .ref v11, .int (10 : Int32)] (E W H n m1)) xth fun h13 => (xGr h13 90 12 71).bind fun v15 => (xRi h13 0 v15 x2).bind fun v16 => (xGr h13 90 12 72).bind fun v17 => (xRi h13 0 v17 x2).bind fun v18 => if xOb h13 90 12 = true then xqV (xM S mX13_tellsTwo [.ref 90, .int v16, .int (44 : Int32), .int v18] h13) xth fun h20 => (xden S mX13_reportsOne 107 [(0, .ref 90), (1, .int (nI p))] [] h20) else none else none)) = some oo → (if xOb (E W H n m) 90 12 = true then xqV (xM S mX13_tellsWord [.ref 90, .ref 145, .int (nI q1)] (E W H n m)) xth fun h3 => (xGr h3 90 12 70).bind fun v5 => (xRi h3 0 v5 (nI p)).bind fun v6 => if xOb h3 90 12 = true then xqV (xM S mX13_tellsNumber [.ref 90, .int v6] h3) xth fun h8 => (xGr h8 90 12 81).bind fun v10 => (xden S mX13_reportsOne 54 [(0, .ref 90), (1, .int (nI p)), (2, .int x2)] [.int (nI q2), .ref v10, .ref 90] h8) else none else none) = some oo := fun q1 q2 hq1 hq2 => by
    have p1 := phN_le q1 hq1
    have p2 := phN_le q2 hq2
    obtain ⟨m1, k1, k2, k3⟩ := tellsWord_s (S := S) (W := W) (H := H) (n := n) D hq1 R (by omega)
    have wl1 : (wdL 145 phS phN q1).length = phN q1 := by unfold wdL; rw [List.length_map, List.length_range]
    have wl2 : (wdL 145 phS phN q2).length = phN q2 := by unfold wdL; rw [List.length_map, List.length_range]
    obtain ⟨m2, j1, j2, j3⟩ := tellsNumber_s (S := S) (W := W) (H := H) (n := n) k2 (by rw [List.length_append, wl1]; omega) (x := nI (ctP (PFm W H Ms Ad P B o p))) (z := (ctP (PFm W H Ms Ad P B o p) : Int)) (nI_toInt (by omega)) (by omega) (by omega)
    have Q2 := fr_tr k3 j3
    obtain ⟨m3, f1, f2, f3⟩ := tellsWord_s (S := S) (W := W) (H := H) (n := n) D hq2 j2 (by rw [List.length_append, List.length_append, wl1]; omega)
    have Q3 := fr_tr Q2 f3
    obtain ⟨m4, g1, g2, g3⟩ := tellsTwo_s (S := S) (W := W) (H := H) (n := n) f2 (by rw [List.length_append, List.length_append, List.length_append, wl1, wl2]; omega) (x := nI lf) (y := nI t) (p := (lf : Int)) (q := (t : Int)) (nI 44) (nI_toInt (by omega)) (nI_toInt (by omega)) (by omega) (by omega) (by omega) (by omega)
    refine ⟨m4, ?_, fr_tr Q3 g3, fun {oo x2} hoo => ?_⟩
    · rw [rpB_b h1]
      simp only [List.append_assoc] at g2 ⊢
      exact g2
    · refine c_ob (by omega) (by rfl) ?_
      refine c_qV k1 ?_
      refine c_gr (by omega) (by rfl) (by rfl) (by rfl) ?_
      refine c_ri (i := p) (by omega) (by rfl) (by rfl) (by rfl) (by first | omega | ((conv => rhs; whnf); first | omega | (show _ < OfNat.ofNat (α := Nat) _; omega))) (by first | omega | ((conv => lhs; whnf); first | omega | (show OfNat.ofNat (α := Nat) _ < _; omega))) (by decide) ?_
      rw [show m1.1 (90 + 45) p = nI (ctP (PFm W H Ms Ad P B o p)) from (fr_i k3 135 p (ouP_n (by omega) (by omega))).trans cp]
      refine c_ob (by omega) (by rfl) ?_
      refine c_qV j1 ?_
      refine c_gr (by omega) (by rfl) (by rfl) (by rfl) ?_
      refine w_X13_reportsOne_54 S _ _ _ _ _ _ _ _ ?_
      refine c_ob (by omega) (by rfl) ?_
      refine c_qV f1 ?_
      refine c_gr (by omega) (by rfl) (by rfl) (by rfl) ?_
      refine c_ri (i := p) (by omega) (by rfl) (by rfl) (by rfl) (by first | omega | ((conv => rhs; whnf); first | omega | (show _ < OfNat.ofNat (α := Nat) _; omega))) (by first | omega | ((conv => lhs; whnf); first | omega | (show OfNat.ofNat (α := Nat) _ < _; omega))) (by decide) ?_
      refine c_gr (by omega) (by rfl) (by rfl) (by rfl) ?_
      refine c_ri (i := p) (by omega) (by rfl) (by rfl) (by rfl) (by first | omega | ((conv => rhs; whnf); first | omega | (show _ < OfNat.ofNat (α := Nat) _; omega))) (by first | omega | ((conv => lhs; whnf); first | omega | (show OfNat.ofNat (α := Nat) _ < _; omega))) (by decide) ?_
      rw [show m3.1 (90 + 46) p = nI lf from (fr_i Q3 136 p (ouP_n (by omega) (by omega))).trans h4, show m3.1 (90 + 47) p = nI t from (fr_i Q3 137 p (ouP_n (by omega) (by omega))).trans h5]
      refine c_ob (by omega) (by rfl) ?_
      exact c_qV g1 hoo
  cases htg : tgO L p with
  | none =>
    have neg : pvI none < (0 : Int32) := show (-1 : Int32) < 0 by decide
    by_cases od : p % 2 = 1
    · obtain ⟨m1, k1, k2, k3⟩ := head 5 7 (by decide) (by decide)
      rw [w5, w7] at k1
      obtain ⟨m', f1, f2, f3⟩ := fin k2 k1 (by
        rw [List.length_append, List.length_append, List.length_append, h31, h33]
        omega) (by unfold rpH; rw [htg, if_pos od])
      refine ⟨m', w_X13_reportsOne S _ _ _ _ _ ?_, f2, f3⟩
      refine c_gr (by omega) (by rfl) (by rfl) (by rfl) ?_
      refine c_ift neg ?_
      rw [rm, od]
      refine c_ift (by decide) ?_
      have := k3 (x2 := pvI none) (c_ift neg f1)
      simp only [if_pos neg]
      exact this
    · obtain ⟨m1, k1, k2, k3⟩ := head 4 7 (by decide) (by decide)
      rw [w4, w7] at k1
      obtain ⟨m', f1, f2, f3⟩ := fin k2 k1 (by
        rw [List.length_append, List.length_append, List.length_append, h32, h33]
        omega) (by unfold rpH; rw [htg, if_neg od])
      refine ⟨m', w_X13_reportsOne S _ _ _ _ _ ?_, f2, f3⟩
      refine c_gr (by omega) (by rfl) (by rfl) (by rfl) ?_
      refine c_ift neg ?_
      rw [rm, show p % 2 = 0 by omega]
      refine c_iff (by decide) ?_
      have := k3 (x2 := pvI none) (c_ift neg f1)
      simp only [if_pos neg]
      exact this
  | some j =>
    obtain ⟨jN, nej⟩ := hj j htg
    have pos : ¬ pvI (some j) < (0 : Int32) := nI_pos (by omega)
    obtain ⟨cq, Xq⟩ := K (2 * j + 1) (by omega)
    obtain ⟨lj, tj, rj, bj, g1, g2, g3, g4, g5, g6, g7⟩ := Xq nej
    obtain ⟨y1, y2⟩ := isBox_le g1
    have bl2 := rpB_len (PFm W H Ms Ad P B o (2 * j + 1))
    obtain ⟨m1, k1, k2, k3⟩ := head 6 9 (by decide) (by decide)
    rw [w6, w9] at k1
    have l1 : (l ++ (xSB 27 ++ nmT (ctP (PFm W H Ms Ad P B o p) : Int) ++ xSB 28 ++ rpB (PFm W H Ms Ad P B o p))).length ≤ l.length + 40 := by
      rw [List.length_append, List.length_append, List.length_append, List.length_append, h27, h28]
      omega
    obtain ⟨m2, j1, j2, j3⟩ := tellsWord_s (S := S) (W := W) (H := H) (n := n) D (q := 10) (by decide) k1 (by show 0 + _ + 4 < _; omega)
    rw [w10] at j2
    have Q2 := fr_tr k2 j3
    obtain ⟨m3, q1, q2, q3⟩ := tellsTwo_s (S := S) (W := W) (H := H) (n := n) j2 (by rw [List.length_append, h30]; omega) (x := nI lj) (y := nI tj) (p := (lj : Int)) (q := (tj : Int)) (nI 44) (nI_toInt (by omega)) (nI_toInt (by omega)) (by omega) (by omega) (by omega) (by omega)
    obtain ⟨m', v1, v2, v3⟩ := fin (hd := xSB 27 ++ nmT (ctP (PFm W H Ms Ad P B o p) : Int) ++ xSB 28 ++ rpB (PFm W H Ms Ad P B o p) ++ xSB 30 ++ rpB (PFm W H Ms Ad P B o (2 * j + 1))) (fr_tr Q2 q3) (by
        rw [rpB_b g1]
        simp only [List.append_assoc] at q2 ⊢
        exact q2) (by
        rw [List.length_append, List.length_append, List.length_append, List.length_append, List.length_append, h27, h28, h30]
        omega) (by unfold rpH; rw [htg])
    refine ⟨m', w_X13_reportsOne S _ _ _ _ _ ?_, v2, v3⟩
    refine c_gr (by omega) (by rfl) (by rfl) (by rfl) ?_
    refine c_iff pos ?_
    have := k3 (x2 := pvI (some j)) (oo := (.inl none, E W H n m', 0, 0)) (by
      refine c_iff pos ?_
      refine c_gr (by omega) (by rfl) (by rfl) (by rfl) ?_
      refine c_ob (by omega) (by rfl) ?_
      refine c_qV j1 ?_
      refine c_gr (by omega) (by rfl) (by rfl) (by rfl) ?_
      refine c_ri (i := 2 * j + 1) (by omega) (by rfl) (by rfl) (by rfl) (by first | omega | ((conv => rhs; whnf); first | omega | (show _ < OfNat.ofNat (α := Nat) _; omega))) (by first | omega | ((conv => lhs; whnf); first | omega | (show OfNat.ofNat (α := Nat) _ < _; omega))) (by decide) ?_
      refine c_gr (by omega) (by rfl) (by rfl) (by rfl) ?_
      refine c_ri (i := 2 * j + 1) (by omega) (by rfl) (by rfl) (by rfl) (by first | omega | ((conv => rhs; whnf); first | omega | (show _ < OfNat.ofNat (α := Nat) _; omega))) (by first | omega | ((conv => lhs; whnf); first | omega | (show OfNat.ofNat (α := Nat) _ < _; omega))) (by decide) ?_
      rw [show m2.1 (90 + 46) (2 * j + 1) = nI lj from (fr_i Q2 136 _ (ouP_n (by omega) (by omega))).trans g4, show m2.1 (90 + 47) (2 * j + 1) = nI tj from (fr_i Q2 137 _ (ouP_n (by omega) (by omega))).trans g5]
      refine c_ob (by omega) (by rfl) ?_
      exact c_qV q1 v1)
    simp only [if_neg pos]
    exact this
end MO2

/-! REPORT: the class tells of a change -/
theorem rpB_b {F : Nat → Int64} {l t r b : Nat} (h : isBox F l t r b) : rpB F = nmT (l : Int) ++ [nI 44] ++ nmT (t : Int) := by unfold rpB; rw [bxC_eq h]
section RQ
variable {S : xS} {W H n N : Nat} {m : mM} {i : Nat} {l : List Int32} {F : Nat → Int64} {p : Nat}
theorem rep_hd (I : ptA p n) (hp : p + 1 ≠ 89) (hp2 : p ≠ 89) (X : ptX m p F) (ne : ctP F ≠ 0) (R : prI m i l) (hi : i < 2147483648) (hl : l.length < 90000) {w w2 : Nat} (w0 : 20 ≤ w) (w1 : w < 77) (w3 : (xSB (w - 20)).length ≤ 8) (v0 : 20 ≤ w2) (v1 : w2 < 77) (v3 : (xSB (w2 - 20)).length ≤ 8) : ∃ m', prI m' i (l ++ (xSB (w - 20) ++ nmT (ctP F : Int) ++ xSB (w2 - 20) ++ rpB F)) ∧ fr prP m m' ∧ ∀ {oo : xO} {G : xH → Option xO}, G (E W H n m') = some oo → (if xOb (E W H n m) 89 6 = true then xqV (xM S mX6_write [.ref 89, .retAddr w] (E W H n m)) xth fun h4 => (xGi h4 p 5 6).bind fun v6 => if xOb h4 89 6 = true then xqV (xM S mX6_writeNumber [.ref 89, .int v6] h4) xth fun h8 => if xOb h8 89 6 = true then xqV (xM S mX6_write [.ref 89, .retAddr w2] h8) xth fun h11 => (xGi h11 p 5 2).bind fun v13 => (xGi h11 p 5 3).bind fun v14 => if xOb h11 89 6 = true then xqV (xM S mX6_writePair [.ref 89, .int v13, .retAddr 49, .int v14] h11) xth G else none else none else none else none) = some oo := by
  obtain ⟨i1, i2, i3⟩ := id I
  obtain ⟨Y, lf, t, r, b, g1, g2, g3, g4, g5⟩ := ptX_psh X ne
  obtain ⟨a1, a2, a3, a4, a5, a6⟩ := box_wh g1 g2 g3
  have ct := ctP_le F
  have h29 := xSB_len.2.2.2.2.2.2.2.2.1
  have cl := nmT_len (ctP F : Int)
  have fp : ∀ {m' : mM}, fr prP m m' → ∀ j, m'.1 p j = m.1 p j := fun {m'} Q j => fr_i Q p j (by unfold prP; exact beq_eq_false_iff_ne.mpr hp2)
  obtain ⟨m1, k1, k2, k3⟩ := write_s (S := S) (W := W) (H := H) (n := n) R hi w0 w1 (by omega)
  obtain ⟨m2, j1, j2, j3⟩ := writeNumber_s (S := S) (W := W) (H := H) (n := n) k2 hi (by rw [List.length_append]; omega) (x := nI (ctP F)) (z := (ctP F : Int)) (nI_toInt (by omega)) (by omega) (by omega)
  obtain ⟨m3, f1, f2, f3⟩ := write_s (S := S) (W := W) (H := H) (n := n) j2 hi v0 v1 (by rw [List.length_append, List.length_append]; omega)
  obtain ⟨m4, q1, q2, q3⟩ := writePair_s (S := S) (W := W) (H := H) (n := n) (w := 49) f2 hi (by decide) (by decide) (by
    rw [show 49 - 20 = 29 from rfl, h29, List.length_append, List.length_append, List.length_append]
    show _ + 1 + 30 < _
    omega) (x := nI lf) (y := nI t) (a := (lf : Int)) (b := (t : Int)) (nI_toInt (by omega)) (nI_toInt (by omega)) (by omega) (by omega) (by omega) (by omega)
  have Q2 := fr_tr k3 j3
  have Q3 := fr_tr Q2 f3
  refine ⟨m4, ?_, fr_tr Q3 q3, fun {oo G} ho => ?_⟩
  · rw [show 49 - 20 = 29 from rfl, h29] at q2
    rw [rpB_b g1]
    simp only [List.append_assoc] at q2 ⊢
    exact q2
  · refine c_ob (by omega) (by rfl) ?_
    refine c_qV k1 ?_
    refine c_gi (by omega) i1 (by rfl) (by rfl) ?_
    rw [fp k3, Y.2.2.1]
    refine c_ob (by omega) (by rfl) ?_
    refine c_qV j1 ?_
    refine c_ob (by omega) (by rfl) ?_
    refine c_qV f1 ?_
    refine c_gi (by omega) i1 (by rfl) (by rfl) ?_
    refine c_gi (by omega) i1 (by rfl) (by rfl) ?_
    rw [fp Q3, fp Q3, g4, g5]
    refine c_ob (by omega) (by rfl) ?_
    exact c_qV q1 ho
theorem partReport_s {o : Nat → Nat} {PF : Nat → Nat → Int64} {L : (Nat → Bool) × (Nat → Option Nat)} {St : stT} {cnt : Nat} (c7 : cnt ≤ 7) (I : ptA (pcl o p) n) (X : ptX m (pcl o p) (PF p)) (ne : ctP (PF p) ≠ 0) (hpn : m.2.2 (pcl o p) 8 = (tgO L p).map (fun j => 147 + 5 * o j + 3)) (hj : ∀ j, tgO L p = some j → o j < n ∧ ptX m (147 + 5 * o j + 3) (PF (2 * j + 1)) ∧ ctP (PF (2 * j + 1)) ≠ 0) (e10 : m.1 (pcl o p) 10 = zI (stNo St cnt (PF p))) (R : prI m i l) (hi : i < 2147483648) (hl : l.length < 80000) : ∃ m', xM S mX5_report [.ref (pcl o p), .ref 89] (E W H n m) = some (.inl none, E W H n m', 0, 0) ∧ prI m' i (l ++ rpL PF L St cnt p) ∧ fr prP m m' := by
  obtain ⟨_, _, _, _, _, _, h27, h28, h29, h30, h31, h32, h33, _, _, _⟩ := xSB_len
  obtain ⟨i1, i2, i3⟩ := id I
  have g147 : 147 ≤ pcl o p := by unfold pcl; omega
  obtain ⟨s1, s2⟩ := stNo_rng St cnt (PF p)
  have bl := rpB_len (PF p)
  have cl := nmT_len (ctP (PF p) : Int)
  -- the end of the line
  have fin : ∀ {m1 : mM} {hd : List Int32}, fr prP m m1 → prI m1 i (l ++ hd) → hd.length ≤ 80 → rpH PF L p = hd → ∃ m', xden S mX5_report 112 [(0, .ref (pcl o p)), (1, .ref 89)] [] (E W H n m1) = some (.inl none, E W H n m', 0, 0) ∧ prI m' i (l ++ rpL PF L St cnt p) ∧ fr prP m m' := fun {m1 hd} Q R1 hl1 eh => by
    obtain ⟨m', k1, k2, k3⟩ := report112 (S := S) (W := W) (H := H) I (by omega) (by omega) (ptX_pr X (by omega) (by omega) Q) ne s1 (by omega) (by rw [fr_i Q _ _ (by unfold prP; exact beq_eq_false_iff_ne.mpr (by omega))]; exact e10) R1 hi (by rw [List.length_append]; omega)
    refine ⟨m', k1, ?_, fr_tr Q k3⟩
    unfold rpL
    rw [eh, ← List.append_assoc]
    exact k2
  cases ht : tgO L p with
  | none =>
    rw [ht] at hpn
    by_cases od : p % 2 = 1
    · obtain ⟨m1, k1, k2, k3⟩ := rep_hd (S := S) (W := W) (H := H) I (by omega) (by omega) X ne R hi (by omega) (w := 51) (w2 := 53) (by decide) (by decide) (by rw [show 51 - 20 = 31 from rfl, h31]; decide) (by decide) (by decide) (by rw [show 53 - 20 = 33 from rfl, h33]; decide)
      obtain ⟨m', f1, f2, f3⟩ := fin k2 k1 (by
        rw [List.length_append, List.length_append, List.length_append, show 51 - 20 = 31 from rfl, show 53 - 20 = 33 from rfl, h31, h33]
        omega) (by unfold rpH; rw [ht, if_pos od])
      refine ⟨m', w_X5_report S _ _ _ _ ?_, f2, f3⟩
      refine c_gn (by omega) i1 (by rfl) (by rfl) ?_
      refine c_on0 hpn ?_
      refine c_gb (by omega) i1 (by rfl) (by rfl) ?_
      rw [if_pos (show (pcl o p - 147) % 5 = 3 ∧ 147 ≤ pcl o p by rw [pcl_o od]; omega)]
      refine c_iff (by decide) ?_
      exact k3 f1
    · obtain ⟨m1, k1, k2, k3⟩ := rep_hd (S := S) (W := W) (H := H) I (by omega) (by omega) X ne R hi (by omega) (w := 52) (w2 := 53) (by decide) (by decide) (by rw [show 52 - 20 = 32 from rfl, h32]; decide) (by decide) (by decide) (by rw [show 53 - 20 = 33 from rfl, h33]; decide)
      obtain ⟨m', f1, f2, f3⟩ := fin k2 k1 (by
        rw [List.length_append, List.length_append, List.length_append, show 52 - 20 = 32 from rfl, show 53 - 20 = 33 from rfl, h32, h33]
        omega) (by unfold rpH; rw [ht, if_neg od])
      refine ⟨m', w_X5_report S _ _ _ _ ?_, f2, f3⟩
      refine c_gn (by omega) i1 (by rfl) (by rfl) ?_
      refine c_on0 hpn ?_
      refine c_gb (by omega) i1 (by rfl) (by rfl) ?_
      rw [if_neg (show ¬ ((pcl o p - 147) % 5 = 3 ∧ 147 ≤ pcl o p) by rw [pcl_e (by omega)]; omega)]
      refine c_ift rfl ?_
      exact k3 f1
  | some j =>
    rw [ht] at hpn
    obtain ⟨oj, Xj, nej⟩ := hj j ht
    have Ij := (ptA_rg (q := o j) (n := n) oj).2
    obtain ⟨Yj, lj, tj, rj, bj, f1, f2, f3, f4, f5⟩ := ptX_psh Xj nej
    have bl2 := rpB_len (PF (2 * j + 1))
    obtain ⟨m1, k1, k2, k3⟩ := rep_hd (S := S) (W := W) (H := H) I (by omega) (by omega) X ne R hi (by omega) (w := 47) (w2 := 48) (by decide) (by decide) (by rw [show 47 - 20 = 27 from rfl, h27]; decide) (by decide) (by decide) (by rw [show 48 - 20 = 28 from rfl, h28]; decide)
    rw [show 47 - 20 = 27 from rfl, show 48 - 20 = 28 from rfl] at k1
    have l1 : (l ++ (xSB 27 ++ nmT (ctP (PF p) : Int) ++ xSB 28 ++ rpB (PF p))).length ≤ l.length + 40 := by
      rw [List.length_append, List.length_append, List.length_append, List.length_append, h27, h28]
      omega
    obtain ⟨m2, j1, j2, j3⟩ := write_s (S := S) (W := W) (H := H) (n := n) (w := 50) k1 hi (by decide) (by decide) (by rw [show 50 - 20 = 30 from rfl, h30]; omega)
    obtain ⟨m3, q1, q2, q3⟩ := writePair_s (S := S) (W := W) (H := H) (n := n) (w := 49) j2 hi (by decide) (by decide) (by
      rw [show 49 - 20 = 29 from rfl, h29, List.length_append, show 50 - 20 = 30 from rfl, h30]
      show _ + 1 + 30 < _
      omega) (x := nI lj) (y := nI tj) (a := (lj : Int)) (b := (tj : Int)) (nI_toInt (by have := isBox_le f1; omega)) (nI_toInt (by have := isBox_le f1; omega)) (by omega) (by have := isBox_le f1; omega) (by omega) (by have := isBox_le f1; omega)
    have Q2 := fr_tr k2 j3
    have fj : ∀ a, m2.1 (147 + 5 * o j + 3) a = m.1 (147 + 5 * o j + 3) a := fun a => fr_i Q2 _ _ (by unfold prP; exact beq_eq_false_iff_ne.mpr (by omega))
    obtain ⟨m', z1, z2, z3⟩ := fin (hd := xSB 27 ++ nmT (ctP (PF p) : Int) ++ xSB 28 ++ rpB (PF p) ++ xSB 30 ++ rpB (PF (2 * j + 1))) (fr_tr Q2 q3) (by
        rw [show 49 - 20 = 29 from rfl, h29, show 50 - 20 = 30 from rfl] at q2
        rw [rpB_b f1]
        simp only [List.append_assoc] at q2 ⊢
        exact q2) (by
        rw [List.length_append, List.length_append, List.length_append, List.length_append, List.length_append, h27, h28, h30]
        omega) (by unfold rpH; rw [ht])
    refine ⟨m', w_X5_report S _ _ _ _ ?_, z2, z3⟩
    refine c_gn (by omega) i1 (by rfl) (by rfl) ?_
    refine c_on1 (r := 147 + 5 * o j + 3) hpn ?_
    refine k3 ?_
    refine c_ob (by omega) (by rfl) ?_
    refine c_qV j1 ?_
    refine c_gi (by omega) Ij.1 (by rfl) (by rfl) ?_
    refine c_gi (by omega) Ij.1 (by rfl) (by rfl) ?_
    rw [fj, fj, f4, f5]
    refine c_ob (by omega) (by rfl) ?_
    exact c_qV q1 z1
end RQ

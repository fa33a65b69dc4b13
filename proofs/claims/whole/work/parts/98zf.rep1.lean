/-! REPORT: what is told of a change; the class tells it -/
noncomputable def rpB (F : Nat → Int64) : List Int32 := nmT ((bxC F).1 : Int) ++ [nI 44] ++ nmT ((bxC F).2.1 : Int)
noncomputable def rpH (PF : Nat → Nat → Int64) (L : (Nat → Bool) × (Nat → Option Nat)) (p : Nat) : List Int32 := match tgO L p with
  | none => xSB (if p % 2 = 1 then 31 else 32) ++ nmT (ctP (PF p) : Int) ++ xSB 33 ++ rpB (PF p)
  | some j => xSB 27 ++ nmT (ctP (PF p) : Int) ++ xSB 28 ++ rpB (PF p) ++ xSB 30 ++ rpB (PF (2 * j + 1))
noncomputable def rpE (F : Nat → Int64) (st : Int) : List Int32 := xSB 34 ++ (nmT (wd F : Int) ++ [nI 120] ++ nmT (ht F : Int)) ++ (if 0 ≤ st then xSB 36 ++ nmT st else []) ++ [nI 10]
noncomputable def rpL (PF : Nat → Nat → Int64) (L : (Nat → Bool) × (Nat → Option Nat)) (St : stT) (cnt p : Nat) : List Int32 := rpH PF L p ++ rpE (PF p) (stNo St cnt (PF p))
theorem xSB_len : (xSB 21).length = 6 ∧ (xSB 22) = [nI 44] ∧ (xSB 23).length = 6 ∧ (xSB 24).length = 7 ∧ (xSB 25).length = 7 ∧ (xSB 26) = xSB 25 ++ [nI 115] ∧ (xSB 27).length = 6 ∧ (xSB 28).length = 6 ∧ (xSB 29) = [nI 44] ∧ (xSB 30).length = 4 ∧ (xSB 31).length = 6 ∧ (xSB 32).length = 8 ∧ (xSB 33).length = 4 ∧ (xSB 34).length = 6 ∧ (xSB 35) = [nI 120] ∧ (xSB 36).length = 7 := by decide +kernel
theorem rpB_len (F : Nat → Int64) : (rpB F).length ≤ 17 := by
  unfold rpB
  rw [List.length_append, List.length_append]
  have h1 := nmT_len ((bxC F).1 : Int)
  have h2 := nmT_len ((bxC F).2.1 : Int)
  show _ + 1 + _ ≤ 17
  omega
theorem rpE_len (F : Nat → Int64) (st : Int) : (rpE F st).length ≤ 39 := by
  obtain ⟨_, _, _, _, _, _, _, _, _, _, _, _, _, h34, _, h36⟩ := xSB_len
  have h1 := nmT_len (wd F : Int)
  have h2 := nmT_len (ht F : Int)
  have h3 := nmT_len st
  unfold rpE
  rw [List.length_append, List.length_append, List.length_append, List.length_append, List.length_append, h34]
  show 6 + (_ + 1 + _) + _ + 1 ≤ 39
  split
  · rw [List.length_append, h36]; omega
  · show 6 + _ + 0 + 1 ≤ 39
    omega
theorem rpL_len (PF : Nat → Nat → Int64) (L : (Nat → Bool) × (Nat → Option Nat)) (St : stT) (cnt p : Nat) : (rpL PF L St cnt p).length ≤ 110 := by
  obtain ⟨_, _, _, _, _, _, h27, h28, _, h30, h31, h32, h33, _, _, _⟩ := xSB_len
  have e := rpE_len (PF p) (stNo St cnt (PF p))
  have b := rpB_len (PF p)
  have c := nmT_len (ctP (PF p) : Int)
  have hh : (rpH PF L p).length ≤ 71 := by
    unfold rpH
    cases tgO L p with
    | none =>
      (try dsimp only)
      rw [List.length_append, List.length_append, List.length_append, h33]
      split
      · rw [h31]; omega
      · rw [h32]; omega
    | some j =>
      have b2 := rpB_len (PF (2 * j + 1))
      (try dsimp only)
      rw [List.length_append, List.length_append, List.length_append, List.length_append, List.length_append, h27, h28, h30]
      omega
  unfold rpL
  rw [List.length_append]
  omega
section RP
variable {S : xS} {W H n N : Nat} {m : mM} {i : Nat} {l : List Int32} {F : Nat → Int64} {p : Nat}
/-- a part's frame under the probe -/
theorem ptX_pr {m' : mM} (X : ptX m p F) (hp : p + 1 ≠ 89) (hp2 : p ≠ 89) (Q : fr prP m m') : ptX m' p F := ptX_fr X Q (fun j _ _ => by unfold prP; exact beq_eq_false_iff_ne.mpr hp2) (fun j => by unfold prP; exact beq_eq_false_iff_ne.mpr hp)
theorem report112 (I : ptA p n) (hp : p + 1 ≠ 89) (hp2 : p ≠ 89) (X : ptX m p F) (ne : ctP F ≠ 0) {st : Int} (s1 : -1 ≤ st) (s2 : st ≤ 100) (e10 : m.1 p 10 = zI st) (R : prI m i l) (hi : i < 2147483648) (hl : l.length < 100000) : ∃ m', xden S mX5_report 112 [(0, .ref p), (1, .ref 89)] [] (E W H n m) = some (.inl none, E W H n m', 0, 0) ∧ prI m' i (l ++ rpE F st) ∧ fr prP m m' := by
  obtain ⟨_, _, _, _, _, _, _, _, _, _, _, _, _, h34, h35, h36⟩ := xSB_len
  obtain ⟨i1, i2, i3⟩ := id I
  obtain ⟨Y, lf, t, r, b, g1, g2, g3, g4, g5⟩ := ptX_psh X ne
  obtain ⟨a1, a2, a3, a4, a5, a6⟩ := box_wh g1 g2 g3
  have wl := nmT_len (wd F : Int)
  have hll := nmT_len (ht F : Int)
  have fp : ∀ {m' : mM}, fr prP m m' → ∀ j, m'.1 p j = m.1 p j := fun {m'} Q j => fr_i Q p j (by unfold prP; exact beq_eq_false_iff_ne.mpr hp2)
  obtain ⟨m1, k1, k2, k3⟩ := write_s (S := S) (W := W) (H := H) (n := n) (w := 54) R hi (by decide) (by decide) (by rw [show 54 - 20 = 34 from rfl, h34]; omega)
  obtain ⟨m2, j1, j2, j3⟩ := writePair_s (S := S) (W := W) (H := H) (n := n) (w := 55) k2 hi (by decide) (by decide) (by rw [List.length_append, show 54 - 20 = 34 from rfl, show 55 - 20 = 35 from rfl, h34, h35]; show _ + 6 + 1 + 30 < _; omega) (x := nI (wd F)) (y := nI (ht F)) (a := (wd F : Int)) (b := (ht F : Int)) (nI_toInt (by omega)) (nI_toInt (by omega)) (by omega) (by omega) (by omega) (by omega)
  have Q2 := fr_tr k3 j3
  rw [show 54 - 20 = 34 from rfl, show 55 - 20 = 35 from rfl, h35] at j2
  have l2 : (l ++ xSB 34 ++ nmT (wd F : Int) ++ [nI 120] ++ nmT (ht F : Int)).length < 200000 := by
    rw [List.length_append, List.length_append, List.length_append, List.length_append, h34]
    show _ + 6 + _ + 1 + _ < _
    omega
  have start : ∀ {oo : xO}, (if zI st < 0 then (if xOb (E W H n m2) 89 6 = true then xqV (xM S mX6_put [.ref 89, .int (10 : Int32)] (E W H n m2)) xth fun h11 => some (.inl none, h11, 0, 0) else none) else (if xOb (E W H n m2) 89 6 = true then xqV (xM S mX6_write [.ref 89, .retAddr 56] (E W H n m2)) xth fun h14 => (xGi h14 p 5 10).bind fun v16 => if xOb h14 89 6 = true then xqV (xM S mX6_writeNumber [.ref 89, .int v16] h14) xth fun h18 => if xOb h18 89 6 = true then xqV (xM S mX6_put [.ref 89, .int (10 : Int32)] h18) xth fun h21 => some (.inl none, h21, 0, 0) else none else none else none)) = some oo → xden S mX5_report 112 [(0, .ref p), (1, .ref 89)] [] (E W H n m) = some oo := fun {oo} ho => by
    refine w_X5_report_112 S _ _ _ _ ?_
    refine c_ob (by omega) (by rfl) ?_
    refine c_qV k1 ?_
    refine c_gi (by omega) i1 (by rfl) (by rfl) ?_
    refine c_gi (by omega) i1 (by rfl) (by rfl) ?_
    rw [fp k3, fp k3, Y.1, Y.2.1]
    refine c_ob (by omega) (by rfl) ?_
    refine c_qV j1 ?_
    refine c_gi (by omega) i1 (by rfl) (by rfl) ?_
    rw [fp Q2, e10]
    exact ho
  by_cases z : 0 ≤ st
  · obtain ⟨m3, f1, f2, f3⟩ := write_s (S := S) (W := W) (H := H) (n := n) (w := 56) j2 hi (by decide) (by decide) (by rw [show 56 - 20 = 36 from rfl, h36]; omega)
    have nl := nmT_len st
    obtain ⟨m4, q1, q2, q3⟩ := writeNumber_s (S := S) (W := W) (H := H) (n := n) f2 hi (by rw [List.length_append, show 56 - 20 = 36 from rfl, h36]; omega) (x := zI st) (z := st) (zI_t (by omega) (by omega)) (by omega) (by omega)
    obtain ⟨m5, r1, r2, r3⟩ := put_s (S := S) (W := W) (H := H) (n := n) q2 hi (by rw [List.length_append, List.length_append, show 56 - 20 = 36 from rfl, h36]; omega) (nI 10)
    refine ⟨m5, start ?_, ?_, fr_tr Q2 (fr_tr f3 (fr_tr q3 r3))⟩
    · refine c_iff (fun w => by
        have := (zI_lt (b := 0) (by omega) (by omega) (by omega) (by omega)).mp w
        omega) ?_
      refine c_ob (by omega) (by rfl) ?_
      refine c_qV f1 ?_
      refine c_gi (by omega) i1 (by rfl) (by rfl) ?_
      rw [fp (fr_tr Q2 f3), e10]
      refine c_ob (by omega) (by rfl) ?_
      refine c_qV q1 ?_
      refine c_ob (by omega) (by rfl) ?_
      refine c_qV r1 ?_
      rfl
    · unfold rpE
      rw [if_pos z]
      rw [show 56 - 20 = 36 from rfl] at r2
      simp only [List.append_assoc] at r2 ⊢
      exact r2
  · obtain ⟨m5, r1, r2, r3⟩ := put_s (S := S) (W := W) (H := H) (n := n) j2 hi (by omega) (nI 10)
    refine ⟨m5, start ?_, ?_, fr_tr Q2 r3⟩
    · refine c_ift ((zI_lt (b := 0) (by omega) (by omega) (by omega) (by omega)).mpr (by omega)) ?_
      refine c_ob (by omega) (by rfl) ?_
      refine c_qV r1 ?_
      rfl
    · unfold rpE
      rw [if_neg z]
      simp only [List.append_assoc, List.nil_append] at r2 ⊢
      exact r2
end RP

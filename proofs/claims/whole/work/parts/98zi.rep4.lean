/-! REPORT: the class tells the whole -/
section RD
variable {S : xS} {W H n N : Nat} {m : mM} {i : Nat} {o : Nat → Nat} {PF : Nat → Nat → Int64} {St : stT} {cnt : Nat} {O A : Nat → Int64} {L : (Nat → Bool) × (Nat → Option Nat)} {hd : Bool}
theorem creport_s (hN : N ≤ 128) (hn : N ≤ n) (c7 : cnt ≤ 7) (ho : ∀ i, i < N → o i < N) (X : rgO m N o PF) (J : paI m N o L) (hL : ∀ i j, L.2 i = some j → j < N ∧ ctP (PF (2 * j + 1)) = ctP (PF (2 * i))) (I : liC m o PF L hd St cnt O A (2 * N)) (hi : i < 2147483648) {dx dy sk : Int} {tu : Bool} (d1 : -100 ≤ dx) (d2 : dx ≤ 100) (d3 : -100 ≤ dy) (d4 : dy ≤ 100) (d5 : -100 ≤ sk) (d6 : sk ≤ 100) (e6 : m.1 82 6 = zI dx) (e7 : m.1 82 7 = zI dy) (e8 : m.1 82 8 = zI sk) (e9 : m.1 82 9 = bz tu) (R : prI m i []) : ∃ m', xM S mX1_report [.ref 64, .ref 89] (E W H n m) = some (.inl none, E W H n m', 0, 0) ∧ prI m' i (hdT dx dy sk tu (fb_ct (liB PF L hd St cnt) (2 * N)) ++ rpAll PF L hd St cnt (2 * N)) ∧ fr prP m m' := by
  obtain ⟨h21, h22, h23, h24, h25, h26, _⟩ := xSB_len
  have h26l : (xSB 26).length = 8 := by rw [h26, List.length_append, h25]; rfl
  have i1 := I.1
  have cle := fb_ct_le (liB PF L hd St cnt) (2 * N)
  have la := nmT_len dx
  have lb' := nmT_len dy
  have lc := nmT_len sk
  generalize eC : fb_ct (liB PF L hd St cnt) (2 * N) = C at *
  have ld := nmT_len (C : Int)
  have f89 : ∀ {a j : Nat}, a ≠ 89 → prP a j = false := fun h => by unfold prP; exact beq_eq_false_iff_ne.mpr h
  -- the rest, after the lines
  have rest : ∀ {s : mM} {t : List Int32}, fr prP m s → prI s i t → t.length ≤ 80 → ∃ m', xden S mX1_report 106 [(0, .ref 64), (1, .ref 89), (2, .int (0 : Int32))] [] (E W H n s) = some (.inl none, E W H n m', 0, 0) ∧ prI m' i (t ++ rpAll PF L hd St cnt (2 * N)) ∧ fr prP m m' := fun {s t} Q Rs lt => by
    have Xs : rgO s N o PF := fun i hi => by
      obtain ⟨x1, x2, x3⟩ := X i hi
      exact ⟨(fr_r Q _ _ (f89 (by decide))).trans x1, ptX_pr x2 (by omega) (by omega) Q, ptX_pr x3 (by omega) (by omega) Q⟩
    have Js : paI s N o L := ⟨fun i hi => (fr_r Q _ _ (f89 (by omega))).trans (J.1 i hi), fun j hj => by rw [fr_r Q _ _ (f89 (by omega))]; exact J.2 j hj⟩
    have Is : liC s o PF L hd St cnt O A (2 * N) := ⟨by rw [fr_i Q _ _ (f89 (by decide)), eC]; exact i1, fun q hq y => by
      obtain ⟨w1, w2, w3⟩ := I.2 q hq y
      have g147 : 147 ≤ pcl o q := by unfold pcl; omega
      exact ⟨(fr_r Q _ _ (f89 (by decide))).trans w1, (fr_i Q _ _ (f89 (by omega))).trans w2, (fr_i Q _ _ (f89 (by omega))).trans w3⟩⟩
    obtain ⟨m', k1, k2, k3⟩ := lines_s (S := S) (W := W) (H := H) hN hn c7 ho Xs Js hL Is hi lt Rs
    exact ⟨m', k1, k2, fr_tr Q k3⟩
  have tail : ∀ {s : mM} {t : List Int32}, fr prP m s → prI s i t → t.length ≤ 60 → ∃ m', (if xOb (E W H n s) 89 6 = true then xqV (xM S mX6_put [.ref 89, .int (10 : Int32)] (E W H n s)) xth fun h22 => (xGi h22 64 1 19).bind fun v24 => if xOb h22 89 6 = true then xqV (xM S mX6_writeNumber [.ref 89, .int v24] h22) xth fun h26 => (xGi h26 64 1 19).bind fun v28 => if ¬ v28 = (1 : Int32) then (if xOb h26 89 6 = true then xqV (xM S mX6_write [.ref 89, .retAddr 46] h26) xth fun h30 => if xOb h30 89 6 = true then xqV (xM S mX6_put [.ref 89, .int (10 : Int32)] h30) xth fun h33 => (xden S mX1_report 106 [(0, .ref 64), (1, .ref 89), (2, .int (0 : Int32))] [] h33) else none else none) else (if xOb h26 89 6 = true then xqV (xM S mX6_write [.ref 89, .retAddr 45] h26) xth fun h36 => if xOb h36 89 6 = true then xqV (xM S mX6_put [.ref 89, .int (10 : Int32)] h36) xth fun h39 => (xden S mX1_report 106 [(0, .ref 64), (1, .ref 89), (2, .int (0 : Int32))] [] h39) else none else none) else none else none) = some (.inl none, E W H n m', 0, 0) ∧ prI m' i (t ++ ([nI 10] ++ nmT (C : Int) ++ (if C = 1 then xSB 25 else xSB 26) ++ [nI 10]) ++ rpAll PF L hd St cnt (2 * N)) ∧ fr prP m m' := fun {s t} Q Rs lt => by
    obtain ⟨m1, k1, k2, k3⟩ := put_s (S := S) (W := W) (H := H) (n := n) Rs hi (by omega) (nI 10)
    have Q1 := fr_tr Q k3
    have l1 : (t ++ [nI 10]).length = t.length + 1 := List.length_append
    obtain ⟨m2, j1, j2, j3⟩ := writeNumber_s (S := S) (W := W) (H := H) (n := n) k2 hi (by omega) (x := nI C) (z := (C : Int)) (nI_toInt (by omega)) (by omega) (by omega)
    have Q2 := fr_tr Q1 j3
    have l2 : (t ++ [nI 10] ++ nmT (C : Int)).length ≤ 69 := by rw [List.length_append]; omega
    have c1 : m1.1 64 19 = nI C := (fr_i Q1 _ _ (f89 (by decide))).trans i1
    have c2 : m2.1 64 19 = nI C := (fr_i Q2 _ _ (f89 (by decide))).trans i1
    by_cases one : C = 1
    · obtain ⟨m3, q1, q2, q3⟩ := write_s (S := S) (W := W) (H := H) (n := n) (w := 45) j2 hi (by decide) (by decide) (by rw [show 45 - 20 = 25 from rfl, h25]; omega)
      rw [show 45 - 20 = 25 from rfl] at q2
      have l3 : (t ++ [nI 10] ++ nmT (C : Int) ++ xSB 25).length ≤ 76 := by rw [List.length_append, h25]; omega
      obtain ⟨m4, r1, r2, r3⟩ := put_s (S := S) (W := W) (H := H) (n := n) q2 hi (by omega) (nI 10)
      obtain ⟨m5, v1, v2, v3⟩ := rest (fr_tr Q2 (fr_tr q3 r3)) r2 (by rw [List.length_append]; show _ + 1 ≤ 80; omega)
      refine ⟨m5, ?_, ?_, v3⟩
      · refine c_ob (by omega) (by rfl) ?_
        refine c_qV k1 ?_
        refine c_gi (by omega) (by rfl) (by rfl) (by rfl) ?_
        rw [c1]
        refine c_ob (by omega) (by rfl) ?_
        refine c_qV j1 ?_
        refine c_gi (by omega) (by rfl) (by rfl) (by rfl) ?_
        rw [c2]
        refine c_iff (fun w => w (by rw [one]; rfl)) ?_
        refine c_ob (by omega) (by rfl) ?_
        refine c_qV q1 ?_
        refine c_ob (by omega) (by rfl) ?_
        exact c_qV r1 v1
      · rw [if_pos one]
        simp only [List.append_assoc] at v2 ⊢
        exact v2
    · obtain ⟨m3, q1, q2, q3⟩ := write_s (S := S) (W := W) (H := H) (n := n) (w := 46) j2 hi (by decide) (by decide) (by rw [show 46 - 20 = 26 from rfl, h26l]; omega)
      rw [show 46 - 20 = 26 from rfl] at q2
      have l3 : (t ++ [nI 10] ++ nmT (C : Int) ++ xSB 26).length ≤ 77 := by rw [List.length_append, h26l]; omega
      obtain ⟨m4, r1, r2, r3⟩ := put_s (S := S) (W := W) (H := H) (n := n) q2 hi (by omega) (nI 10)
      obtain ⟨m5, v1, v2, v3⟩ := rest (fr_tr Q2 (fr_tr q3 r3)) r2 (by rw [List.length_append]; show _ + 1 ≤ 80; omega)
      refine ⟨m5, ?_, ?_, v3⟩
      · refine c_ob (by omega) (by rfl) ?_
        refine c_qV k1 ?_
        refine c_gi (by omega) (by rfl) (by rfl) (by rfl) ?_
        rw [c1]
        refine c_ob (by omega) (by rfl) ?_
        refine c_qV j1 ?_
        refine c_gi (by omega) (by rfl) (by rfl) (by rfl) ?_
        rw [c2]
        refine c_ift (fun w => one ((nI_eq (b := 1) (by omega) (by omega)).mp w)) ?_
        refine c_ob (by omega) (by rfl) ?_
        refine c_qV q1 ?_
        refine c_ob (by omega) (by rfl) ?_
        exact c_qV r1 v1
      · rw [if_neg one]
        simp only [List.append_assoc] at v2 ⊢
        exact v2
  obtain ⟨m1, k1, k2, k3⟩ := write_s (S := S) (W := W) (H := H) (n := n) (w := 41) R hi (by decide) (by decide) (by rw [show 41 - 20 = 21 from rfl, h21]; decide)
  rw [show 41 - 20 = 21 from rfl, List.nil_append] at k2
  obtain ⟨m2, j1, j2, j3⟩ := writePair_s (S := S) (W := W) (H := H) (n := n) (w := 42) k2 hi (by decide) (by decide) (by rw [show 42 - 20 = 22 from rfl, h21, h22]; decide) (x := zI dx) (y := zI dy) (a := dx) (b := dy) (zI_t (by omega) (by omega)) (zI_t (by omega) (by omega)) (by omega) (by omega) (by omega) (by omega)
  rw [show 42 - 20 = 22 from rfl, h22] at j2
  have Q2 := fr_tr k3 j3
  have l2 : (xSB 21 ++ nmT dx ++ [nI 44] ++ nmT dy).length ≤ 23 := by
    rw [List.length_append, List.length_append, List.length_append, h21]
    show 6 + _ + 1 + _ ≤ 23
    omega
  obtain ⟨m3, q1, q2, q3⟩ := write_s (S := S) (W := W) (H := H) (n := n) (w := 43) j2 hi (by decide) (by decide) (by rw [show 43 - 20 = 23 from rfl, h23]; omega)
  rw [show 43 - 20 = 23 from rfl] at q2
  have Q3 := fr_tr Q2 q3
  have l3 : (xSB 21 ++ nmT dx ++ [nI 44] ++ nmT dy ++ xSB 23).length ≤ 29 := by rw [List.length_append, h23]; omega
  obtain ⟨m4, r1, r2, r3⟩ := writeNumber_s (S := S) (W := W) (H := H) (n := n) q2 hi (by omega) (x := zI sk) (z := sk) (zI_t (by omega) (by omega)) (by omega) (by omega)
  have Q4 := fr_tr Q3 r3
  have l4 : (xSB 21 ++ nmT dx ++ [nI 44] ++ nmT dy ++ xSB 23 ++ nmT sk).length ≤ 37 := by rw [List.length_append]; omega
  have start : ∀ {oo : xO} {G : Option xO} {G2 : Option xO}, (tu = false → G = some oo) → (tu = true → G2 = some oo) → (if bz tu = 0 then G else G2) = some oo := fun {oo G G2} h1 h2 => by
    cases hc : tu
    · exact c_ift rfl (h1 hc)
    · exact c_iff (by decide) (h2 hc)
  cases htu : tu
  · obtain ⟨m5, v1, v2, v3⟩ := tail Q4 r2 (by omega)
    refine ⟨m5, w_X1_report S _ _ _ _ ?_, ?_, v3⟩
    · refine c_ob (by omega) (by rfl) ?_
      refine c_qV k1 ?_
      refine c_gr (by omega) (by rfl) (by rfl) (by rfl) ?_
      refine c_gi (by omega) (by rfl) (by rfl) (by rfl) ?_
      refine c_gr (by omega) (by rfl) (by rfl) (by rfl) ?_
      refine c_gi (by omega) (by rfl) (by rfl) (by rfl) ?_
      rw [show m1.1 (64 + 18) 6 = zI dx from (fr_i k3 82 6 (f89 (by decide))).trans e6, show m1.1 (64 + 18) 7 = zI dy from (fr_i k3 82 7 (f89 (by decide))).trans e7]
      refine c_ob (by omega) (by rfl) ?_
      refine c_qV j1 ?_
      refine c_ob (by omega) (by rfl) ?_
      refine c_qV q1 ?_
      refine c_gr (by omega) (by rfl) (by rfl) (by rfl) ?_
      refine c_gi (by omega) (by rfl) (by rfl) (by rfl) ?_
      rw [show m3.1 (64 + 18) 8 = zI sk from (fr_i Q3 82 8 (f89 (by decide))).trans e8]
      refine c_ob (by omega) (by rfl) ?_
      refine c_qV r1 ?_
      refine c_gr (by omega) (by rfl) (by rfl) (by rfl) ?_
      refine c_gi (by omega) (by rfl) (by rfl) (by rfl) ?_
      rw [show m4.1 (64 + 18) 9 = bz tu from (fr_i Q4 82 9 (f89 (by decide))).trans e9, htu]
      exact c_ift rfl v1
    · unfold hdT
      rw [if_neg Bool.false_ne_true]
      simp only [List.append_assoc, List.nil_append] at v2 ⊢
      exact v2
  · obtain ⟨m6, u1, u2, u3⟩ := write_s (S := S) (W := W) (H := H) (n := n) (w := 44) r2 hi (by decide) (by decide) (by rw [show 44 - 20 = 24 from rfl, h24]; omega)
    rw [show 44 - 20 = 24 from rfl] at u2
    obtain ⟨m5, v1, v2, v3⟩ := tail (fr_tr Q4 u3) u2 (by rw [List.length_append, h24]; omega)
    refine ⟨m5, w_X1_report S _ _ _ _ ?_, ?_, v3⟩
    · refine c_ob (by omega) (by rfl) ?_
      refine c_qV k1 ?_
      refine c_gr (by omega) (by rfl) (by rfl) (by rfl) ?_
      refine c_gi (by omega) (by rfl) (by rfl) (by rfl) ?_
      refine c_gr (by omega) (by rfl) (by rfl) (by rfl) ?_
      refine c_gi (by omega) (by rfl) (by rfl) (by rfl) ?_
      rw [show m1.1 (64 + 18) 6 = zI dx from (fr_i k3 82 6 (f89 (by decide))).trans e6, show m1.1 (64 + 18) 7 = zI dy from (fr_i k3 82 7 (f89 (by decide))).trans e7]
      refine c_ob (by omega) (by rfl) ?_
      refine c_qV j1 ?_
      refine c_ob (by omega) (by rfl) ?_
      refine c_qV q1 ?_
      refine c_gr (by omega) (by rfl) (by rfl) (by rfl) ?_
      refine c_gi (by omega) (by rfl) (by rfl) (by rfl) ?_
      rw [show m3.1 (64 + 18) 8 = zI sk from (fr_i Q3 82 8 (f89 (by decide))).trans e8]
      refine c_ob (by omega) (by rfl) ?_
      refine c_qV r1 ?_
      refine c_gr (by omega) (by rfl) (by rfl) (by rfl) ?_
      refine c_gi (by omega) (by rfl) (by rfl) (by rfl) ?_
      rw [show m4.1 (64 + 18) 9 = bz tu from (fr_i Q4 82 9 (f89 (by decide))).trans e9, htu]
      refine c_iff (by decide) ?_
      refine c_ob (by omega) (by rfl) ?_
      exact c_qV u1 v1
    · unfold hdT
      rw [if_pos rfl]
      simp only [List.append_assoc] at v2 ⊢
      exact v2
end RD

/-! REPORT: the model tells the whole -/
section MW
variable {S : xS} {W H n N : Nat} {m : mM} {B : Nat} {P : Nat → Bool} {Ms Ad : Nat → Int64} {o nb : Nat → Nat} {St : stT} {cnt : Nat} {L : (Nat → Bool) × (Nat → Option Nat)} {hd : Bool} {O A : Nat → Int64}
theorem mlist_s (hW8 : 8 ≤ W) (hW : W ≤ 64) (hH8 : 8 ≤ H) (hH : H ≤ 64) (hB : 4 ≤ B) (hB2 : B ≤ 16) (oM : okP W H Ms) (oA : okP W H Ad) (hN : N = nS ba P 256) (ho : ∀ i, i < N → nb (o i) = i) (hnb : ∀ q, q < N → nb q < N ∧ o (nb q) = q) (X : ofI m B P Ms Ad nb) (T : mstM m cnt St) (K : ptK m N (PFm W H Ms Ad P B o)) (hL : ∀ i j, L.2 i = some j → j < N ∧ ctP (PFm W H Ms Ad P B o (2 * j + 1)) = ctP (PFm W H Ms Ad P B o (2 * i))) (I : liM m (PFm W H Ms Ad P B o) L hd St cnt O A (2 * N)) {Tx : List Int32} (hT : Tx.length ≤ 80) (R : ouI m 0 Tx) : ∃ m', xden S mX13_reports 106 [(0, .ref 90), (1, .int (nI 0))] [] (E W H n m) = some (.inl none, E W H n m', 0, 0) ∧ ouI m' 0 (Tx ++ rpAll (PFm W H Ms Ad P B o) L hd St cnt (2 * N)) ∧ fr (ouP 0) m m' := by
  have N128 : N ≤ 128 := by rw [hN]; exact nS_128 P
  obtain ⟨i1, i2⟩ := I
  have cle := fb_ct_le (liB (PFm W H Ms Ad P B o) L hd St cnt) (2 * N)
  have Lp := x_sg (σ := mM) (τ := mM) (D := fun c s => xden S mX13_reports 106 [(0, .ref 90), (1, .int (nI c))] [] (E W H n s)) (Inv := fun c s => fr (ouP 0) m s ∧ ∃ p, p ≤ 2 * N ∧ fb_ct (liB (PFm W H Ms Ad P B o) L hd St cnt) p = c ∧ ouI s 0 (Tx ++ rpAll (PFm W H Ms Ad P B o) L hd St cnt p))
    (F := fun s => some (.inl none, E W H n s, 0, 0)) (Post := fun s => fr (ouP 0) m s ∧ ouI s 0 (Tx ++ rpAll (PFm W H Ms Ad P B o) L hd St cnt (2 * N))) (fb_ct (liB (PFm W H Ms Ad P B o) L hd St cnt) (2 * N)) (fun c hc s hs => ?_) (fun s hs => ?_) m ⟨fr_rf, 0, Nat.zero_le _, rfl, by show ouI m 0 (Tx ++ []); rw [List.append_nil]; exact R⟩
  · obtain ⟨m', ⟨g1, g2⟩, g3⟩ := Lp
    exact ⟨m', g3 _ rfl, g2, g1⟩
  · left
    obtain ⟨h1, p0, h2, h3, h4⟩ := hs
    obtain ⟨p, q1, q2, q3⟩ := fb_ct_kth hc
    rw [rpAll_eq (q := p) (by rw [h3, q3])] at h4
    obtain ⟨r1, r2, r3⟩ := i2 p q1 q2
    rw [q3] at r1 r2
    have y := q2
    unfold liB at y
    rw [Bool.and_eq_true, Bool.and_eq_true, decide_eq_true_eq] at y
    have len := rpAll_len (PF := PFm W H Ms Ad P B o) (L := L) (hd := hd) (St := St) (cnt := cnt) p
    obtain ⟨s', k1, k2, k3⟩ := mrepOne_s (S := S) (n := n) (m := s) (L := L) hW8 hW hH8 hH hB hB2 oM oA hN ho hnb (ofI_fr X h1 (fun a j h => ouP_n (by omega) (by omega))) (mstM_fr T h1 (fun a j h => ouP_n (by omega) (by omega))) (ptK_fr K h1 (fun a j u1 u2 => ouP_n (by omega) (by omega))) q1 y.1.1 (fun j hj => by
        have e : L.2 (p / 2) = some j ∧ p % 2 = 0 := by
          unfold tgO at hj
          split at hj
          · rename_i w
            exact ⟨hj, w⟩
          · cases hj
        obtain ⟨v1, v2⟩ := hL _ _ e.1
        refine ⟨v1, ?_⟩
        rw [v2, show 2 * (p / 2) = p by omega]
        exact y.1.1) h4 (by rw [List.length_append]; omega)
    refine ⟨s', ⟨fr_tr h1 k3, p + 1, by omega, by rw [fb_ct_succ, q2, q3]; rfl, ?_⟩, fun oo hoo => w_X13_reports_106 S _ _ _ _ ?_⟩
    · show ouI s' 0 (Tx ++ (rpAll (PFm W H Ms Ad P B o) L hd St cnt p ++ (if liB (PFm W H Ms Ad P B o) L hd St cnt p = true then rpL (PFm W H Ms Ad P B o) L St cnt p else [])))
      rw [if_pos q2, ← List.append_assoc]
      exact k2
    · refine c_gi (by omega) (by rfl) (by rfl) (by rfl) ?_
      rw [fr_i h1 90 79 (ouP_n (by omega) (by omega)), i1]
      refine c_iff (fun w => by have := (nI_leI (by omega) (by omega)).mp w; omega) ?_
      refine c_gr (by omega) (by rfl) (by rfl) (by rfl) ?_
      refine c_ri (i := c) (by omega) (by rfl) (by rfl) (by rfl) (by first | omega | ((conv => rhs; whnf); first | omega | (show _ < OfNat.ofNat (α := Nat) _; omega))) (by first | omega | ((conv => lhs; whnf); first | omega | (show OfNat.ofNat (α := Nat) _ < _; omega))) (by decide) ?_
      refine c_gr (by omega) (by rfl) (by rfl) (by rfl) ?_
      refine c_ri (i := c) (by omega) (by rfl) (by rfl) (by rfl) (by first | omega | ((conv => rhs; whnf); first | omega | (show _ < OfNat.ofNat (α := Nat) _; omega))) (by first | omega | ((conv => lhs; whnf); first | omega | (show OfNat.ofNat (α := Nat) _ < _; omega))) (by decide) ?_
      rw [show s.1 (90 + 51) c = nI p from (fr_i h1 141 c (ouP_n (by omega) (by omega))).trans r1, show s.1 (90 + 52) c = pvI (tgO L p) from (fr_i h1 142 c (ouP_n (by omega) (by omega))).trans r2]
      refine c_ob (by omega) (by rfl) ?_
      refine c_qV k1 ?_
      refine c_let ?_
      rw [nI_suc]
      exact hoo
  · obtain ⟨h1, p0, h2, h3, h4⟩ := hs
    refine ⟨s, ⟨h1, by rw [← rpAll_eq h3]; exact h4⟩, fun oo hoo => w_X13_reports_106 S _ _ _ _ ?_⟩
    refine c_gi (by omega) (by rfl) (by rfl) (by rfl) ?_
    rw [fr_i h1 90 79 (ouP_n (by omega) (by omega)), i1]
    refine c_ift ((nI_leI (by omega) (by omega)).mpr (Nat.le_refl _)) ?_
    exact hoo
theorem reports_s (hW8 : 8 ≤ W) (hW : W ≤ 64) (hH8 : 8 ≤ H) (hH : H ≤ 64) (hB : 4 ≤ B) (hB2 : B ≤ 16) (oM : okP W H Ms) (oA : okP W H Ad) (hN : N = nS ba P 256) (ho : ∀ i, i < N → nb (o i) = i) (hnb : ∀ q, q < N → nb q < N ∧ o (nb q) = q) (X : ofI m B P Ms Ad nb) (T : mstM m cnt St) (K : ptK m N (PFm W H Ms Ad P B o)) (hL : ∀ i j, L.2 i = some j → j < N ∧ ctP (PFm W H Ms Ad P B o (2 * j + 1)) = ctP (PFm W H Ms Ad P B o (2 * i))) (I : liM m (PFm W H Ms Ad P B o) L hd St cnt O A (2 * N)) {dx dy sk : Int} {tu : Bool} (d1 : -100 ≤ dx) (d2 : dx ≤ 100) (d3 : -100 ≤ dy) (d4 : dy ≤ 100) (d5 : -100 ≤ sk) (d6 : sk ≤ 100) (e41 : m.1 90 41 = zI dx) (e42 : m.1 90 42 = zI dy) (e43 : m.1 90 43 = zI sk) (e44 : m.1 90 44 = bz tu) : ∃ m', xM S mX13_reports [.ref 90] (E W H n m) = some (.inl none, E W H n m', 0, 0) ∧ ouI m' 0 (hdT dx dy sk tu (fb_ct (liB (PFm W H Ms Ad P B o) L hd St cnt) (2 * N)) ++ rpAll (PFm W H Ms Ad P B o) L hd St cnt (2 * N)) ∧ fr (ouP 0) m m' := by
  obtain ⟨h21, h22, h23, h24, h25, h26, _⟩ := xSB_len
  obtain ⟨w0, w1, w2, w3, _⟩ := ph_w
  have N128 : N ≤ 128 := by rw [hN]; exact nS_128 P
  have D := wdT_p H
  have i1 := I.1
  have cle := fb_ct_le (liB (PFm W H Ms Ad P B o) L hd St cnt) (2 * N)
  have la := nmT_len dx
  have lb' := nmT_len dy
  have lc := nmT_len sk
  generalize eC : fb_ct (liB (PFm W H Ms Ad P B o) L hd St cnt) (2 * N) = C at *
  have ld := nmT_len (C : Int)
  have rest : ∀ {s : mM} {t : List Int32}, fr (ouP 0) m s → ouI s 0 t → t.length ≤ 80 → ∃ m', xden S mX13_reports 106 [(0, .ref 90), (1, .int (0 : Int32))] [] (E W H n s) = some (.inl none, E W H n m', 0, 0) ∧ ouI m' 0 (t ++ rpAll (PFm W H Ms Ad P B o) L hd St cnt (2 * N)) ∧ fr (ouP 0) m m' := fun {s t} Q Rs lt => by
    have Is : liM s (PFm W H Ms Ad P B o) L hd St cnt O A (2 * N) := ⟨by rw [fr_i Q _ _ (ouP_n (by omega) (by omega)), eC]; exact i1, fun q hq y => by
      obtain ⟨v1, v2, v3⟩ := I.2 q hq y
      exact ⟨(fr_i Q _ _ (ouP_n (by omega) (by omega))).trans v1, (fr_i Q _ _ (ouP_n (by omega) (by omega))).trans v2, (fr_i Q _ _ (ouP_n (by omega) (by omega))).trans v3⟩⟩
    obtain ⟨m', k1, k2, k3⟩ := mlist_s (S := S) (n := n) (m := s) hW8 hW hH8 hH hB hB2 oM oA hN ho hnb (ofI_fr X Q (fun a j h => ouP_n (by omega) (by omega))) (mstM_fr T Q (fun a j h => ouP_n (by omega) (by omega))) (ptK_fr K Q (fun a j u1 u2 => ouP_n (by omega) (by omega))) hL Is lt Rs
    exact ⟨m', k1, k2, fr_tr Q k3⟩
  have tail : ∀ {s : mM} {t : List Int32}, fr (ouP 0) m s → ouI s 0 t → t.length ≤ 60 → ∃ m', (if xOb (E W H n s) 90 12 = true then xqV (xM S mX13_tells [.ref 90, .int (10 : Int32)] (E W H n s)) xth fun h21 => (xGi h21 90 12 79).bind fun v23 => if xOb h21 90 12 = true then xqV (xM S mX13_tellsNumber [.ref 90, .int v23] h21) xth fun h25 => (xGr h25 90 12 81).bind fun v27 => if xOb h25 90 12 = true then xqV (xM S mX13_tellsWord [.ref 90, .ref v27, .int (3 : Int32)] h25) xth fun h29 => (xGi h29 90 12 79).bind fun v31 => if v31 = (1 : Int32) then (if xOb h29 90 12 = true then xqV (xM S mX13_tells [.ref 90, .int (10 : Int32)] h29) xth fun h33 => (xden S mX13_reports 106 [(0, .ref 90), (1, .int (0 : Int32))] [] h33) else none) else (if xOb h29 90 12 = true then xqV (xM S mX13_tells [.ref 90, .int (115 : Int32)] h29) xth fun h36 => if xOb h36 90 12 = true then xqV (xM S mX13_tells [.ref 90, .int (10 : Int32)] h36) xth fun h39 => (xden S mX13_reports 106 [(0, .ref 90), (1, .int (0 : Int32))] [] h39) else none else none) else none else none else none) = some (.inl none, E W H n m', 0, 0) ∧ ouI m' 0 (t ++ ([nI 10] ++ nmT (C : Int) ++ (if C = 1 then xSB 25 else xSB 26) ++ [nI 10]) ++ rpAll (PFm W H Ms Ad P B o) L hd St cnt (2 * N)) ∧ fr (ouP 0) m m' := fun {s t} Q Rs lt => by
    obtain ⟨m1, k1, k2, k3⟩ := tells_s (S := S) (W := W) (H := H) (n := n) Rs (by omega) (nI 10)
    have Q1 := fr_tr Q k3
    have l1 : (t ++ [nI 10]).length = t.length + 1 := List.length_append
    obtain ⟨m2, j1, j2, j3⟩ := tellsNumber_s (S := S) (W := W) (H := H) (n := n) k2 (by omega) (x := nI C) (z := (C : Int)) (nI_toInt (by omega)) (by omega) (by omega)
    have Q2 := fr_tr Q1 j3
    have l2 : (t ++ [nI 10] ++ nmT (C : Int)).length ≤ 69 := by rw [List.length_append]; omega
    obtain ⟨m3, q1, q2, q3⟩ := tellsWord_s (S := S) (W := W) (H := H) (n := n) D (q := 3) (by decide) j2 (by show 0 + _ + 7 < _; omega)
    rw [w3] at q2
    have Q3 := fr_tr Q2 q3
    have l3 : (t ++ [nI 10] ++ nmT (C : Int) ++ xSB 25).length ≤ 76 := by rw [List.length_append, h25]; omega
    have c1 : m1.1 90 79 = nI C := (fr_i Q1 _ _ (ouP_n (by omega) (by omega))).trans i1
    have c2 : m3.1 90 79 = nI C := (fr_i Q3 _ _ (ouP_n (by omega) (by omega))).trans i1
    by_cases one : C = 1
    · obtain ⟨m4, r1, r2, r3⟩ := tells_s (S := S) (W := W) (H := H) (n := n) q2 (by omega) (nI 10)
      obtain ⟨m5, v1, v2, v3⟩ := rest (fr_tr Q3 r3) r2 (by rw [List.length_append]; show _ + 1 ≤ 80; omega)
      refine ⟨m5, ?_, ?_, v3⟩
      · refine c_ob (by omega) (by rfl) ?_
        refine c_qV k1 ?_
        refine c_gi (by omega) (by rfl) (by rfl) (by rfl) ?_
        rw [c1]
        refine c_ob (by omega) (by rfl) ?_
        refine c_qV j1 ?_
        refine c_gr (by omega) (by rfl) (by rfl) (by rfl) ?_
        refine c_ob (by omega) (by rfl) ?_
        refine c_qV q1 ?_
        refine c_gi (by omega) (by rfl) (by rfl) (by rfl) ?_
        rw [c2]
        refine c_ift (by rw [one]; rfl) ?_
        refine c_ob (by omega) (by rfl) ?_
        exact c_qV r1 v1
      · rw [if_pos one]
        simp only [List.append_assoc] at v2 ⊢
        exact v2
    · obtain ⟨m4, u1, u2, u3⟩ := tells_s (S := S) (W := W) (H := H) (n := n) q2 (by omega) (nI 115)
      have l4 : (t ++ [nI 10] ++ nmT (C : Int) ++ xSB 25 ++ [nI 115]).length ≤ 77 := by rw [List.length_append]; show _ + 1 ≤ 77; omega
      obtain ⟨m6, r1, r2, r3⟩ := tells_s (S := S) (W := W) (H := H) (n := n) u2 (by omega) (nI 10)
      obtain ⟨m5, v1, v2, v3⟩ := rest (fr_tr Q3 (fr_tr u3 r3)) r2 (by rw [List.length_append]; show _ + 1 ≤ 80; omega)
      refine ⟨m5, ?_, ?_, v3⟩
      · refine c_ob (by omega) (by rfl) ?_
        refine c_qV k1 ?_
        refine c_gi (by omega) (by rfl) (by rfl) (by rfl) ?_
        rw [c1]
        refine c_ob (by omega) (by rfl) ?_
        refine c_qV j1 ?_
        refine c_gr (by omega) (by rfl) (by rfl) (by rfl) ?_
        refine c_ob (by omega) (by rfl) ?_
        refine c_qV q1 ?_
        refine c_gi (by omega) (by rfl) (by rfl) (by rfl) ?_
        rw [c2]
        refine c_iff (fun w => one ((nI_eq (b := 1) (by omega) (by omega)).mp w)) ?_
        refine c_ob (by omega) (by rfl) ?_
        refine c_qV u1 ?_
        refine c_ob (by omega) (by rfl) ?_
        exact c_qV r1 v1
      · rw [if_neg one, h26]
        simp only [List.append_assoc] at v2 ⊢
        exact v2
  have Q0 : fr (ouP 0) m (sI m 90 25 (nI 0)) := fr_sI fr_rf (by rfl)
  have R0 : ouI (sI m 90 25 (nI 0)) 0 [] := ⟨by rw [sI_eq ⟨rfl, rfl⟩]; rfl, fun i hi => absurd hi (Nat.not_lt_zero i)⟩
  obtain ⟨m1, k1, k2, k3⟩ := tellsWord_s (S := S) (W := W) (H := H) (n := n) D (q := 0) (by decide) R0 (by decide)
  rw [w0, List.nil_append] at k2
  have Q1 := fr_tr Q0 k3
  obtain ⟨m2, j1, j2, j3⟩ := tellsTwo_s (S := S) (W := W) (H := H) (n := n) k2 (by rw [h21]; decide) (x := zI dx) (y := zI dy) (p := dx) (q := dy) (nI 44) (zI_t (by omega) (by omega)) (zI_t (by omega) (by omega)) (by omega) (by omega) (by omega) (by omega)
  have Q2 := fr_tr Q1 j3
  have l2 : (xSB 21 ++ nmT dx ++ [nI 44] ++ nmT dy).length ≤ 23 := by
    rw [List.length_append, List.length_append, List.length_append, h21]
    show 6 + _ + 1 + _ ≤ 23
    omega
  obtain ⟨m3, q1, q2, q3⟩ := tellsWord_s (S := S) (W := W) (H := H) (n := n) D (q := 1) (by decide) j2 (by show 0 + _ + 6 < _; omega)
  rw [w1] at q2
  have Q3 := fr_tr Q2 q3
  have l3 : (xSB 21 ++ nmT dx ++ [nI 44] ++ nmT dy ++ xSB 23).length ≤ 29 := by rw [List.length_append, h23]; omega
  obtain ⟨m4, r1, r2, r3⟩ := tellsNumber_s (S := S) (W := W) (H := H) (n := n) q2 (by omega) (x := zI sk) (z := sk) (zI_t (by omega) (by omega)) (by omega) (by omega)
  have Q4 := fr_tr Q3 r3
  have l4 : (xSB 21 ++ nmT dx ++ [nI 44] ++ nmT dy ++ xSB 23 ++ nmT sk).length ≤ 37 := by rw [List.length_append]; omega
  have start : ∀ {oo : xO}, (if bz tu = 0 then _ else _) = some oo → xM S mX13_reports [.ref 90] (E W H n m) = some oo := fun {oo} hoo => by
    refine w_X13_reports S _ _ _ ?_
    refine c_pi (by omega) (by rfl) (by rfl) (by rfl) (xPok_int (by decide) (by rfl)) ?_
    refine c_gr (by omega) (by rfl) (by rfl) (by rfl) ?_
    refine c_ob (by omega) (by rfl) ?_
    refine c_qV k1 ?_
    refine c_gi (by omega) (by rfl) (by rfl) (by rfl) ?_
    refine c_gi (by omega) (by rfl) (by rfl) (by rfl) ?_
    rw [fr_i Q1 90 41 (ouP_n (by omega) (by omega)), fr_i Q1 90 42 (ouP_n (by omega) (by omega)), e41, e42]
    refine c_ob (by omega) (by rfl) ?_
    refine c_qV j1 ?_
    refine c_gr (by omega) (by rfl) (by rfl) (by rfl) ?_
    refine c_ob (by omega) (by rfl) ?_
    refine c_qV q1 ?_
    refine c_gi (by omega) (by rfl) (by rfl) (by rfl) ?_
    rw [fr_i Q3 90 43 (ouP_n (by omega) (by omega)), e43]
    refine c_ob (by omega) (by rfl) ?_
    refine c_qV r1 ?_
    refine c_gi (by omega) (by rfl) (by rfl) (by rfl) ?_
    rw [fr_i Q4 90 44 (ouP_n (by omega) (by omega)), e44]
    exact hoo
  cases htu : tu
  · obtain ⟨m5, v1, v2, v3⟩ := tail Q4 r2 (by omega)
    rw [htu] at start
    refine ⟨m5, start (c_ift rfl v1), ?_, v3⟩
    unfold hdT
    rw [if_neg Bool.false_ne_true]
    simp only [List.append_assoc, List.nil_append] at v2 ⊢
    exact v2
  · obtain ⟨m6, u1, u2, u3⟩ := tellsWord_s (S := S) (W := W) (H := H) (n := n) D (q := 2) (by decide) r2 (by show 0 + _ + 7 < _; omega)
    rw [w2] at u2
    obtain ⟨m5, v1, v2, v3⟩ := tail (fr_tr Q4 u3) u2 (by rw [List.length_append, h24]; omega)
    rw [htu] at start
    refine ⟨m5, start (c_iff (by decide) ?_), ?_, v3⟩
    · refine c_gr (by omega) (by rfl) (by rfl) (by rfl) ?_
      refine c_ob (by omega) (by rfl) ?_
      exact c_qV u1 v1
    · unfold hdT
      rw [if_pos rfl]
      simp only [List.append_assoc] at v2 ⊢
      exact v2
end MW

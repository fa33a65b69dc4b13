/-! THE LAW: each of its cases comes to the next call -/
abbrev lwL (i : Nat) : xL := [(0, .retAddr 11), (1, .ref 0), (2, .ref 90), (3, .ref 146), (4, .int (nI i))]
/-- a case of the law at a state of both sides: it comes to the next call at such a state -/
def LwS (S : xS) (W H pc i n : Nat) (m : mM) : Prop := ∃ m' n' c s, Rep W H n' m' ∧ n ≤ n' ∧ c ≤ 1 + 5 * (n' - n) ∧ s ≤ 6 + 159 * (n' - n) ∧ ∀ {v : Option Value ⊕ String} {h2 : xH} {c2 s2 : Nat}, xden S mL_law 3482 (lwL i) [] (E W H n' m') = some (v, h2, c2, s2) → xden S mL_law pc (lwL i) [] (E W H n m) = some (v, h2, c2 + c, s2 + s)
section LS1
variable {S : xS} {W H n : Nat} {m m2 : mM}
theorem c_rs {L : Nat} {xs : Nat → Int32} {F : Int32 → Option xO} {R : Option xO} {j : Nat} {x : Int32} (hx : x = nI j) (h : j < L) (hL : L ≤ 3586) (K : F (xs j) = R) : (xRs (L, xs) x).bind F = R := by
  subst hx
  have e : xRs (L, xs) (nI j) = some (xs j) := by
    unfold xRs
    (try dsimp only)
    rw [if_pos (xin_nI h (by omega)), nI_clamp (by omega)]
  rw [e]
  exact K
theorem thrown_s : xM S mX13_thrown [.ref 90] (E W H n m) = some (.inl (some (.int (m.1 90 2))), E W H n m, 0, 0) := by
  refine w_X13_thrown S _ _ _ ?_
  refine c_gi (by omega) (by rfl) (by rfl) (by rfl) ?_
  rfl
theorem tail_I {k b : Int32} {R2 : Option xO} {al : xL} {o : xO} (h2 : R2 = some (.inl (some (.int b)), E W H n m2, 0, 0)) (ht : m2.1 90 2 = k) (hv : k = 0 → m2.2.1 146 0 = b.toInt64) (K : xden S mL_law 3482 al [] (E W H n m2) = some o) : (xqI R2 xth fun v9 h8 => if xOb h8 90 12 = true then xqI (xM S mX13_thrown [.ref 90] h8) xth fun v12 h11 => if v12 = k then (if ¬ k = 0 then (xden S mL_law 3482 al [] h11) else ((xRl h11 146 (0 : Int32)).bind fun v13 => if (lg_cmp v13 (v9.toInt64)) = 0 then (xden S mL_law 3482 al [] h11) else (some (.inl (some (.int (0 : Int32))), h11, 0, 0)))) else (some (.inl (some (.int (0 : Int32))), h11, 0, 0)) else none) = some o := by
  refine c_qI h2 ?_
  refine c_ob (by omega) (by rfl) ?_
  refine c_qI thrown_s ?_
  rw [ht]
  refine c_ift rfl ?_
  by_cases c : k = 0
  · refine c_iff (fun w => w c) ?_
    refine c_rl (i := 0) (by omega) (by rfl) rfl (by first | omega | ((conv => rhs; whnf); first | omega | (show _ < OfNat.ofNat (α := Nat) _; omega))) (by first | omega | ((conv => lhs; whnf); first | omega | (show OfNat.ofNat (α := Nat) _ < _; omega))) ?_
    refine c_ift ((lg_cmp_0 _ _).mpr (hv c)) ?_
    exact K
  · exact c_ift c K
theorem tail_J {k : Int32} {b : Int64} {R2 : Option xO} {al : xL} {o : xO} (h2 : R2 = some (.inl (some (.long b)), E W H n m2, 0, 0)) (ht : m2.1 90 2 = k) (hv : k = 0 → m2.2.1 146 0 = b) (K : xden S mL_law 3482 al [] (E W H n m2) = some o) : (xqJ R2 xth fun v9 h8 => if xOb h8 90 12 = true then xqI (xM S mX13_thrown [.ref 90] h8) xth fun v12 h11 => if v12 = k then (if ¬ k = 0 then (xden S mL_law 3482 al [] h11) else ((xRl h11 146 (0 : Int32)).bind fun v13 => if (lg_cmp v13 v9) = 0 then (xden S mL_law 3482 al [] h11) else (some (.inl (some (.int (0 : Int32))), h11, 0, 0)))) else (some (.inl (some (.int (0 : Int32))), h11, 0, 0)) else none) = some o := by
  refine c_qJ h2 ?_
  refine c_ob (by omega) (by rfl) ?_
  refine c_qI thrown_s ?_
  rw [ht]
  refine c_ift rfl ?_
  by_cases c : k = 0
  · refine c_iff (fun w => w c) ?_
    refine c_rl (i := 0) (by omega) (by rfl) rfl (by first | omega | ((conv => rhs; whnf); first | omega | (show _ < OfNat.ofNat (α := Nat) _; omega))) (by first | omega | ((conv => lhs; whnf); first | omega | (show OfNat.ofNat (α := Nat) _ < _; omega))) ?_
    refine c_ift ((lg_cmp_0 _ _).mpr (hv c)) ?_
    exact K
  · exact c_ift c K
theorem tail_Z {k b : Int32} (b01 : b = 0 ∨ b = 1) {R2 : Option xO} {al : xL} {o : xO} (h2 : R2 = some (.inl (some (.int b)), E W H n m2, 0, 0)) (ht : m2.1 90 2 = k) (hv : k = 0 → m2.2.1 146 0 = b.toInt64) (K : xden S mL_law 3482 al [] (E W H n m2) = some o) : (xqI R2 xth fun v5 h4 => if xOb h4 90 12 = true then xqI (xM S mX13_thrown [.ref 90] h4) xth fun v8 h7 => if v8 = k then (if ¬ k = 0 then (xden S mL_law 3482 al [] h7) else ((xRl h7 146 (0 : Int32)).bind fun v9 => if v5 = 0 then (if (lg_cmp v9 (0 : Int64)) = 0 then (xden S mL_law 3482 al [] h7) else (some (.inl (some (.int (0 : Int32))), h7, 0, 0))) else (if (lg_cmp v9 (1 : Int64)) = 0 then (xden S mL_law 3482 al [] h7) else (some (.inl (some (.int (0 : Int32))), h7, 0, 0))))) else (some (.inl (some (.int (0 : Int32))), h7, 0, 0)) else none) = some o := by
  refine c_qI h2 ?_
  refine c_ob (by omega) (by rfl) ?_
  refine c_qI thrown_s ?_
  rw [ht]
  refine c_ift rfl ?_
  by_cases c : k = 0
  · refine c_iff (fun w => w c) ?_
    refine c_rl (i := 0) (by omega) (by rfl) rfl (by first | omega | ((conv => rhs; whnf); first | omega | (show _ < OfNat.ofNat (α := Nat) _; omega))) (by first | omega | ((conv => lhs; whnf); first | omega | (show OfNat.ofNat (α := Nat) _ < _; omega))) ?_
    have e := hv c
    rcases b01 with rfl | rfl
    · refine c_ift rfl ?_
      refine c_ift ((lg_cmp_0 _ _).mpr e) ?_
      exact K
    · refine c_iff (by decide) ?_
      refine c_ift ((lg_cmp_0 _ _).mpr e) ?_
      exact K
  · exact c_ift c K
end LS1
section LS2
variable {L : Nat} {xs : Nat → Int32} {W H n i : Nat} {m : mM}
theorem LS_row (hW8 : 8 ≤ W) (hW : W ≤ 64) (hH8 : 8 ≤ H) (hH : H ≤ 64) (hL : L ≤ 3586) (hi : i + 6 < L) (X : Rep W H n m) : LwS (L, xs) W H 292 i n m := by
  obtain ⟨m1, n', c, s, k, b, m2, hc, hm, ht, hv, X2, h1, h2, h3⟩ := AG_row (S := (L, xs)) hW8 hW hH8 hH X (xs (i + 1)) (xs (i + 2))
  refine ⟨m2, n', c, s, X2, h1, h2, h3, fun {v h' c2 s2} K => ?_⟩
  refine w_L_law_292 (L, xs) _ _ _ _ _ _ ?_
  refine c_rs (nI_add i 1) (by omega) hL ?_
  refine c_rs (nI_add i 2) (by omega) hL ?_
  refine k_I hc ?_
  refine c_rs (nI_add i 1) (by omega) hL ?_
  refine c_rs (nI_add i 2) (by omega) hL ?_
  refine c_ob (by omega) (by rfl) ?_
  exact tail_J hm ht hv K
theorem LS_setRow (hW8 : 8 ≤ W) (hW : W ≤ 64) (hH8 : 8 ≤ H) (hH : H ≤ 64) (hL : L ≤ 3586) (hi : i + 6 < L) (X : Rep W H n m) : LwS (L, xs) W H 359 i n m := by
  obtain ⟨m1, n', c, s, k, b, m2, hc, hm, ht, hv, X2, h1, h2, h3⟩ := AG_setRow (S := (L, xs)) hW8 hW hH8 hH X (xs (i + 1)) (xs (i + 2)) (((xs (i + 3)).toInt64 <<< ((32 : Int32).toInt64 &&& 63)) ||| ((xs (i + 4)).toInt64 &&& (4294967295 : Int64)))
  refine ⟨m2, n', c, s, X2, h1, h2, h3, fun {v h' c2 s2} K => ?_⟩
  refine w_L_law_359 (L, xs) _ _ _ _ _ _ ?_
  refine c_rs (nI_add i 1) (by omega) hL ?_
  refine c_rs (nI_add i 2) (by omega) hL ?_
  refine c_rs (nI_add i 3) (by omega) hL ?_
  refine c_rs (nI_add i 4) (by omega) hL ?_
  refine k_I hc ?_
  refine c_rs (nI_add i 1) (by omega) hL ?_
  refine c_rs (nI_add i 2) (by omega) hL ?_
  refine c_rs (nI_add i 3) (by omega) hL ?_
  refine c_rs (nI_add i 4) (by omega) hL ?_
  refine c_ob (by omega) (by rfl) ?_
  exact tail_I hm ht hv K
theorem LS_fill (hW8 : 8 ≤ W) (hW : W ≤ 64) (hH8 : 8 ≤ H) (hH : H ≤ 64) (hL : L ≤ 3586) (hi : i + 6 < L) (X : Rep W H n m) : LwS (L, xs) W H 471 i n m := by
  obtain ⟨m1, n', c, s, k, b, m2, hc, hm, ht, hv, X2, h1, h2, h3⟩ := AG_fill (S := (L, xs)) hW8 hW hH8 hH X (xs (i + 1)) (xs (i + 2)) (xs (i + 3)) (xs (i + 4)) (xs (i + 5)) (!decide (xs (i + 6) = 0))
  refine ⟨m2, n', c, s, X2, h1, h2, h3, fun {v h' c2 s2} K => ?_⟩
  refine w_L_law_471 (L, xs) _ _ _ _ _ _ ?_
  refine c_rs (nI_add i 1) (by omega) hL ?_
  refine c_rs (nI_add i 2) (by omega) hL ?_
  refine c_rs (nI_add i 3) (by omega) hL ?_
  refine c_rs (nI_add i 4) (by omega) hL ?_
  refine c_rs (nI_add i 5) (by omega) hL ?_
  refine c_rs (nI_add i 6) (by omega) hL ?_
  by_cases z : xs (i + 6) = 0
  · rw [decide_eq_true z] at hc hm
    refine c_ift z ?_
    refine k_I hc ?_
    refine c_rs (nI_add i 1) (by omega) hL ?_
    refine c_rs (nI_add i 2) (by omega) hL ?_
    refine c_rs (nI_add i 3) (by omega) hL ?_
    refine c_rs (nI_add i 4) (by omega) hL ?_
    refine c_rs (nI_add i 5) (by omega) hL ?_
    refine c_rs (nI_add i 6) (by omega) hL ?_
    refine c_ift z ?_
    refine c_ob (by omega) (by rfl) ?_
    exact tail_I hm ht hv K
  · rw [decide_eq_false z] at hc hm
    refine c_iff z ?_
    refine k_I hc ?_
    refine c_rs (nI_add i 1) (by omega) hL ?_
    refine c_rs (nI_add i 2) (by omega) hL ?_
    refine c_rs (nI_add i 3) (by omega) hL ?_
    refine c_rs (nI_add i 4) (by omega) hL ?_
    refine c_rs (nI_add i 5) (by omega) hL ?_
    refine c_rs (nI_add i 6) (by omega) hL ?_
    refine c_iff z ?_
    refine c_ob (by omega) (by rfl) ?_
    exact tail_I hm ht hv K
theorem LS_copy (hW8 : 8 ≤ W) (hW : W ≤ 64) (hH8 : 8 ≤ H) (hH : H ≤ 64) (hL : L ≤ 3586) (hi : i + 6 < L) (X : Rep W H n m) : LwS (L, xs) W H 605 i n m := by
  obtain ⟨m1, n', c, s, k, b, m2, hc, hm, ht, hv, X2, h1, h2, h3⟩ := AG_copy (S := (L, xs)) hW8 hW hH8 hH X (xs (i + 1)) (xs (i + 2)) (xs (i + 3)) (xs (i + 4))
  refine ⟨m2, n', c, s, X2, h1, h2, h3, fun {v h' c2 s2} K => ?_⟩
  refine w_L_law_605 (L, xs) _ _ _ _ _ _ ?_
  refine c_rs (nI_add i 1) (by omega) hL ?_
  refine c_rs (nI_add i 2) (by omega) hL ?_
  refine c_rs (nI_add i 3) (by omega) hL ?_
  refine c_rs (nI_add i 4) (by omega) hL ?_
  refine k_I hc ?_
  refine c_rs (nI_add i 1) (by omega) hL ?_
  refine c_rs (nI_add i 2) (by omega) hL ?_
  refine c_rs (nI_add i 3) (by omega) hL ?_
  refine c_rs (nI_add i 4) (by omega) hL ?_
  refine c_ob (by omega) (by rfl) ?_
  exact tail_I hm ht hv K
theorem LS_merge (hW8 : 8 ≤ W) (hW : W ≤ 64) (hH8 : 8 ≤ H) (hH : H ≤ 64) (hL : L ≤ 3586) (hi : i + 6 < L) (X : Rep W H n m) : LwS (L, xs) W H 697 i n m := by
  obtain ⟨m1, n', c, s, k, b, m2, hc, hm, ht, hv, X2, h1, h2, h3⟩ := AG_merge (S := (L, xs)) hW8 hW hH8 hH X (xs (i + 1))
  refine ⟨m2, n', c, s, X2, h1, h2, h3, fun {v h' c2 s2} K => ?_⟩
  refine w_L_law_697 (L, xs) _ _ _ _ _ _ ?_
  refine c_rs (nI_add i 1) (by omega) hL ?_
  refine k_I hc ?_
  refine c_rs (nI_add i 1) (by omega) hL ?_
  refine c_ob (by omega) (by rfl) ?_
  exact tail_I hm ht hv K
theorem LS_flip (hW8 : 8 ≤ W) (hW : W ≤ 64) (hH8 : 8 ≤ H) (hH : H ≤ 64) (hL : L ≤ 3586) (hi : i + 6 < L) (X : Rep W H n m) : LwS (L, xs) W H 753 i n m := by
  obtain ⟨m1, n', c, s, k, b, m2, hc, hm, ht, hv, X2, h1, h2, h3⟩ := AG_flip (S := (L, xs)) hW8 hW hH8 hH X (xs (i + 1)) (xs (i + 2))
  refine ⟨m2, n', c, s, X2, h1, h2, h3, fun {v h' c2 s2} K => ?_⟩
  refine w_L_law_753 (L, xs) _ _ _ _ _ _ ?_
  refine c_rs (nI_add i 1) (by omega) hL ?_
  refine c_rs (nI_add i 2) (by omega) hL ?_
  refine k_I hc ?_
  refine c_rs (nI_add i 1) (by omega) hL ?_
  refine c_rs (nI_add i 2) (by omega) hL ?_
  refine c_ob (by omega) (by rfl) ?_
  exact tail_I hm ht hv K
theorem LS_despeckle (hW8 : 8 ≤ W) (hW : W ≤ 64) (hH8 : 8 ≤ H) (hH : H ≤ 64) (hL : L ≤ 3586) (hi : i + 6 < L) (X : Rep W H n m) : LwS (L, xs) W H 821 i n m := by
  obtain ⟨m1, n', c, s, k, b, m2, hc, hm, ht, hv, X2, h1, h2, h3⟩ := AG_despeckle (S := (L, xs)) hW8 hW hH8 hH X (xs (i + 1)) (xs (i + 2))
  refine ⟨m2, n', c, s, X2, h1, h2, h3, fun {v h' c2 s2} K => ?_⟩
  refine w_L_law_821 (L, xs) _ _ _ _ _ _ ?_
  refine c_rs (nI_add i 1) (by omega) hL ?_
  refine c_rs (nI_add i 2) (by omega) hL ?_
  refine k_I hc ?_
  refine c_rs (nI_add i 1) (by omega) hL ?_
  refine c_rs (nI_add i 2) (by omega) hL ?_
  refine c_ob (by omega) (by rfl) ?_
  exact tail_I hm ht hv K
theorem LS_paste (hW8 : 8 ≤ W) (hW : W ≤ 64) (hH8 : 8 ≤ H) (hH : H ≤ 64) (hL : L ≤ 3586) (hi : i + 6 < L) (X : Rep W H n m) : LwS (L, xs) W H 889 i n m := by
  obtain ⟨m1, n', c, s, k, b, m2, hc, hm, ht, hv, X2, h1, h2, h3⟩ := AG_paste (S := (L, xs)) hW8 hW hH8 hH X (xs (i + 1)) (xs (i + 2)) (xs (i + 3))
  refine ⟨m2, n', c, s, X2, h1, h2, h3, fun {v h' c2 s2} K => ?_⟩
  refine w_L_law_889 (L, xs) _ _ _ _ _ _ ?_
  refine c_rs (nI_add i 1) (by omega) hL ?_
  refine c_rs (nI_add i 2) (by omega) hL ?_
  refine c_rs (nI_add i 3) (by omega) hL ?_
  refine k_I hc ?_
  refine c_rs (nI_add i 1) (by omega) hL ?_
  refine c_rs (nI_add i 2) (by omega) hL ?_
  refine c_rs (nI_add i 3) (by omega) hL ?_
  refine c_ob (by omega) (by rfl) ?_
  exact tail_I hm ht hv K
theorem LS_components (hW8 : 8 ≤ W) (hW : W ≤ 64) (hH8 : 8 ≤ H) (hH : H ≤ 64) (hL : L ≤ 3586) (hi : i + 6 < L) (X : Rep W H n m) : LwS (L, xs) W H 969 i n m := by
  obtain ⟨m1, n', c, s, k, b, m2, hc, hm, ht, hv, X2, h1, h2, h3⟩ := AG_components (S := (L, xs)) hW8 hW hH8 hH X (xs (i + 1))
  refine ⟨m2, n', c, s, X2, h1, h2, h3, fun {v h' c2 s2} K => ?_⟩
  refine w_L_law_969 (L, xs) _ _ _ _ _ _ ?_
  refine c_rs (nI_add i 1) (by omega) hL ?_
  refine k_I hc ?_
  refine c_rs (nI_add i 1) (by omega) hL ?_
  refine c_ob (by omega) (by rfl) ?_
  exact tail_I hm ht hv K
theorem LS_lines (hW8 : 8 ≤ W) (hW : W ≤ 64) (hH8 : 8 ≤ H) (hH : H ≤ 64) (hL : L ≤ 3586) (hi : i + 6 < L) (X : Rep W H n m) : LwS (L, xs) W H 1025 i n m := by
  obtain ⟨m1, n', c, s, k, b, m2, hc, hm, ht, hv, X2, h1, h2, h3⟩ := AG_lines (S := (L, xs)) hW8 hW hH8 hH X (xs (i + 1))
  refine ⟨m2, n', c, s, X2, h1, h2, h3, fun {v h' c2 s2} K => ?_⟩
  refine w_L_law_1025 (L, xs) _ _ _ _ _ _ ?_
  refine c_rs (nI_add i 1) (by omega) hL ?_
  refine k_I hc ?_
  refine c_rs (nI_add i 1) (by omega) hL ?_
  refine c_ob (by omega) (by rfl) ?_
  exact tail_I hm ht hv K
theorem LS_lineTop (hW8 : 8 ≤ W) (hW : W ≤ 64) (hH8 : 8 ≤ H) (hH : H ≤ 64) (hL : L ≤ 3586) (hi : i + 6 < L) (X : Rep W H n m) : LwS (L, xs) W H 1081 i n m := by
  obtain ⟨m1, n', c, s, k, b, m2, hc, hm, ht, hv, X2, h1, h2, h3⟩ := AG_lineTop (S := (L, xs)) hW8 hW hH8 hH X (xs (i + 1)) (xs (i + 2))
  refine ⟨m2, n', c, s, X2, h1, h2, h3, fun {v h' c2 s2} K => ?_⟩
  refine w_L_law_1081 (L, xs) _ _ _ _ _ _ ?_
  refine c_rs (nI_add i 1) (by omega) hL ?_
  refine c_rs (nI_add i 2) (by omega) hL ?_
  refine k_I hc ?_
  refine c_rs (nI_add i 1) (by omega) hL ?_
  refine c_rs (nI_add i 2) (by omega) hL ?_
  refine c_ob (by omega) (by rfl) ?_
  exact tail_I hm ht hv K
theorem LS_lineBottom (hW8 : 8 ≤ W) (hW : W ≤ 64) (hH8 : 8 ≤ H) (hH : H ≤ 64) (hL : L ≤ 3586) (hi : i + 6 < L) (X : Rep W H n m) : LwS (L, xs) W H 1149 i n m := by
  obtain ⟨m1, n', c, s, k, b, m2, hc, hm, ht, hv, X2, h1, h2, h3⟩ := AG_lineBottom (S := (L, xs)) hW8 hW hH8 hH X (xs (i + 1)) (xs (i + 2))
  refine ⟨m2, n', c, s, X2, h1, h2, h3, fun {v h' c2 s2} K => ?_⟩
  refine w_L_law_1149 (L, xs) _ _ _ _ _ _ ?_
  refine c_rs (nI_add i 1) (by omega) hL ?_
  refine c_rs (nI_add i 2) (by omega) hL ?_
  refine k_I hc ?_
  refine c_rs (nI_add i 1) (by omega) hL ?_
  refine c_rs (nI_add i 2) (by omega) hL ?_
  refine c_ob (by omega) (by rfl) ?_
  exact tail_I hm ht hv K
theorem LS_words (hW8 : 8 ≤ W) (hW : W ≤ 64) (hH8 : 8 ≤ H) (hH : H ≤ 64) (hL : L ≤ 3586) (hi : i + 6 < L) (X : Rep W H n m) : LwS (L, xs) W H 1217 i n m := by
  obtain ⟨m1, n', c, s, k, b, m2, hc, hm, ht, hv, X2, h1, h2, h3⟩ := AG_words (S := (L, xs)) hW8 hW hH8 hH X (xs (i + 1)) (xs (i + 2)) (xs (i + 3))
  refine ⟨m2, n', c, s, X2, h1, h2, h3, fun {v h' c2 s2} K => ?_⟩
  refine w_L_law_1217 (L, xs) _ _ _ _ _ _ ?_
  refine c_rs (nI_add i 1) (by omega) hL ?_
  refine c_rs (nI_add i 2) (by omega) hL ?_
  refine c_rs (nI_add i 3) (by omega) hL ?_
  refine k_I hc ?_
  refine c_rs (nI_add i 1) (by omega) hL ?_
  refine c_rs (nI_add i 2) (by omega) hL ?_
  refine c_rs (nI_add i 3) (by omega) hL ?_
  refine c_ob (by omega) (by rfl) ?_
  exact tail_I hm ht hv K
theorem LS_ink (hW8 : 8 ≤ W) (hW : W ≤ 64) (hH8 : 8 ≤ H) (hH : H ≤ 64) (hL : L ≤ 3586) (hi : i + 6 < L) (X : Rep W H n m) : LwS (L, xs) W H 1297 i n m := by
  obtain ⟨m1, n', c, s, k, b, m2, hc, hm, ht, hv, X2, h1, h2, h3⟩ := AG_ink (S := (L, xs)) hW8 hW hH8 hH X (xs (i + 1)) (xs (i + 2)) (xs (i + 3)) (xs (i + 4)) (xs (i + 5))
  refine ⟨m2, n', c, s, X2, h1, h2, h3, fun {v h' c2 s2} K => ?_⟩
  refine w_L_law_1297 (L, xs) _ _ _ _ _ _ ?_
  refine c_rs (nI_add i 1) (by omega) hL ?_
  refine c_rs (nI_add i 2) (by omega) hL ?_
  refine c_rs (nI_add i 3) (by omega) hL ?_
  refine c_rs (nI_add i 4) (by omega) hL ?_
  refine c_rs (nI_add i 5) (by omega) hL ?_
  refine k_I hc ?_
  refine c_rs (nI_add i 1) (by omega) hL ?_
  refine c_rs (nI_add i 2) (by omega) hL ?_
  refine c_rs (nI_add i 3) (by omega) hL ?_
  refine c_rs (nI_add i 4) (by omega) hL ?_
  refine c_rs (nI_add i 5) (by omega) hL ?_
  refine c_ob (by omega) (by rfl) ?_
  exact tail_I hm ht hv K
theorem LS_fingerprint (hW8 : 8 ≤ W) (hW : W ≤ 64) (hH8 : 8 ≤ H) (hH : H ≤ 64) (hL : L ≤ 3586) (hi : i + 6 < L) (X : Rep W H n m) : LwS (L, xs) W H 1401 i n m := by
  obtain ⟨m1, n', c, s, k, b, m2, hc, hm, ht, hv, X2, h1, h2, h3⟩ := AG_fingerprint (S := (L, xs)) hW8 hW hH8 hH X (xs (i + 1))
  refine ⟨m2, n', c, s, X2, h1, h2, h3, fun {v h' c2 s2} K => ?_⟩
  refine w_L_law_1401 (L, xs) _ _ _ _ _ _ ?_
  refine c_rs (nI_add i 1) (by omega) hL ?_
  refine k_I hc ?_
  refine c_rs (nI_add i 1) (by omega) hL ?_
  refine c_ob (by omega) (by rfl) ?_
  exact tail_J hm ht hv K
theorem LS_undo (hW8 : 8 ≤ W) (hW : W ≤ 64) (hH8 : 8 ≤ H) (hH : H ≤ 64) (hL : L ≤ 3586) (hi : i + 6 < L) (X : Rep W H n m) : LwS (L, xs) W H 1456 i n m := by
  obtain ⟨m1, n', c, s, k, b, m2, hc, hm, ht, hv, X2, h1, h2, h3⟩ := AG_undo (S := (L, xs)) hW hH X
  refine ⟨m2, n', c, s, X2, h1, h2, h3, fun {v h' c2 s2} K => ?_⟩
  refine w_L_law_1456 (L, xs) _ _ _ _ _ _ ?_
  refine k_I hc ?_
  refine c_ob (by omega) (by rfl) ?_
  exact tail_I hm ht hv K
theorem LS_type (hW8 : 8 ≤ W) (hW : W ≤ 64) (hH8 : 8 ≤ H) (hH : H ≤ 64) (hL : L ≤ 3586) (hi : i + 6 < L) (X : Rep W H n m) : LwS (L, xs) W H 1500 i n m := by
  obtain ⟨m1, n', c, s, k, b, m2, hc, hm, ht, hv, X2, h1, h2, h3⟩ := AG_type (S := (L, xs)) hW hH X (xs (i + 1))
  refine ⟨m2, n', c, s, X2, h1, h2, h3, fun {v h' c2 s2} K => ?_⟩
  refine w_L_law_1500 (L, xs) _ _ _ _ _ _ ?_
  refine c_rs (nI_add i 1) (by omega) hL ?_
  refine k_I hc ?_
  refine c_rs (nI_add i 1) (by omega) hL ?_
  refine c_ob (by omega) (by rfl) ?_
  exact tail_I hm ht hv K
theorem LS_clearText (hW8 : 8 ≤ W) (hW : W ≤ 64) (hH8 : 8 ≤ H) (hH : H ≤ 64) (hL : L ≤ 3586) (hi : i + 6 < L) (X : Rep W H n m) : LwS (L, xs) W H 1556 i n m := by
  obtain ⟨m1, n', c, s, b, m2, hc, hm, X2, h1, h2, h3⟩ := AG_clearText (S := (L, xs)) hW hH X
  refine ⟨m2, n', c, s, X2, h1, h2, h3, fun {v h' c2 s2} K => ?_⟩
  refine w_L_law_1556 (L, xs) _ _ _ _ _ _ ?_
  refine c_ob (by omega) (by rfl) ?_
  refine k_I hc ?_
  refine c_ob (by omega) (by rfl) ?_
  refine c_qI hm ?_
  exact c_ift rfl K
theorem LS_configure (hW8 : 8 ≤ W) (hW : W ≤ 64) (hH8 : 8 ≤ H) (hH : H ≤ 64) (hL : L ≤ 3586) (hi : i + 6 < L) (X : Rep W H n m) : LwS (L, xs) W H 1569 i n m := by
  obtain ⟨m1, n', c, s, b, m2, hc, hm, X2, h1, h2, h3⟩ := AG_configure (S := (L, xs)) hW hH X
  refine ⟨m2, n', c, s, X2, h1, h2, h3, fun {v h' c2 s2} K => ?_⟩
  refine w_L_law_1569 (L, xs) _ _ _ _ _ _ ?_
  refine c_ob (by omega) (by rfl) ?_
  refine k_I hc ?_
  refine c_ob (by omega) (by rfl) ?_
  refine c_qI hm ?_
  exact c_ift rfl K
theorem LS_setting (hW8 : 8 ≤ W) (hW : W ≤ 64) (hH8 : 8 ≤ H) (hH : H ≤ 64) (hL : L ≤ 3586) (hi : i + 6 < L) (X : Rep W H n m) : LwS (L, xs) W H 1582 i n m := by
  obtain ⟨m1, n', c, s, k, b, m2, hc, hm, ht, hv, X2, h1, h2, h3⟩ := AG_setting (S := (L, xs)) hW hH X (xs (i + 1))
  refine ⟨m2, n', c, s, X2, h1, h2, h3, fun {v h' c2 s2} K => ?_⟩
  refine w_L_law_1582 (L, xs) _ _ _ _ _ _ ?_
  refine c_rs (nI_add i 1) (by omega) hL ?_
  refine k_I hc ?_
  refine c_rs (nI_add i 1) (by omega) hL ?_
  refine c_ob (by omega) (by rfl) ?_
  exact tail_I hm ht hv K
theorem LS_configChar (hW8 : 8 ≤ W) (hW : W ≤ 64) (hH8 : 8 ≤ H) (hH : H ≤ 64) (hL : L ≤ 3586) (hi : i + 6 < L) (X : Rep W H n m) : LwS (L, xs) W H 1638 i n m := by
  obtain ⟨m1, n', c, s, k, b, m2, hc, hm, ht, hv, X2, h1, h2, h3⟩ := AG_configChar (S := (L, xs)) hW hH X (xs (i + 1))
  refine ⟨m2, n', c, s, X2, h1, h2, h3, fun {v h' c2 s2} K => ?_⟩
  refine w_L_law_1638 (L, xs) _ _ _ _ _ _ ?_
  refine c_rs (nI_add i 1) (by omega) hL ?_
  refine k_I hc ?_
  refine c_rs (nI_add i 1) (by omega) hL ?_
  refine c_ob (by omega) (by rfl) ?_
  exact tail_I hm ht hv K
theorem LS_addMask (hW8 : 8 ≤ W) (hW : W ≤ 64) (hH8 : 8 ≤ H) (hH : H ≤ 64) (hL : L ≤ 3586) (hi : i + 6 < L) (X : Rep W H n m) : LwS (L, xs) W H 1694 i n m := by
  obtain ⟨m1, n', c, s, k, b, m2, hc, hm, ht, hv, X2, h1, h2, h3⟩ := AG_addMask (S := (L, xs)) hW hH X (xs (i + 1)) (xs (i + 2)) (xs (i + 3)) (xs (i + 4))
  refine ⟨m2, n', c, s, X2, h1, h2, h3, fun {v h' c2 s2} K => ?_⟩
  refine w_L_law_1694 (L, xs) _ _ _ _ _ _ ?_
  refine c_rs (nI_add i 1) (by omega) hL ?_
  refine c_rs (nI_add i 2) (by omega) hL ?_
  refine c_rs (nI_add i 3) (by omega) hL ?_
  refine c_rs (nI_add i 4) (by omega) hL ?_
  refine k_I hc ?_
  refine c_rs (nI_add i 1) (by omega) hL ?_
  refine c_rs (nI_add i 2) (by omega) hL ?_
  refine c_rs (nI_add i 3) (by omega) hL ?_
  refine c_rs (nI_add i 4) (by omega) hL ?_
  refine c_ob (by omega) (by rfl) ?_
  exact tail_I hm ht hv K
theorem LS_removeMask (hW8 : 8 ≤ W) (hW : W ≤ 64) (hH8 : 8 ≤ H) (hH : H ≤ 64) (hL : L ≤ 3586) (hi : i + 6 < L) (X : Rep W H n m) : LwS (L, xs) W H 1786 i n m := by
  obtain ⟨m1, n', c, s, k, b, m2, hc, hm, ht, hv, X2, h1, h2, h3⟩ := AG_removeMask (S := (L, xs)) hW hH X (xs (i + 1))
  refine ⟨m2, n', c, s, X2, h1, h2, h3, fun {v h' c2 s2} K => ?_⟩
  refine w_L_law_1786 (L, xs) _ _ _ _ _ _ ?_
  refine c_rs (nI_add i 1) (by omega) hL ?_
  refine k_I hc ?_
  refine c_rs (nI_add i 1) (by omega) hL ?_
  refine c_ob (by omega) (by rfl) ?_
  exact tail_I hm ht hv K
theorem LS_compare (hW8 : 8 ≤ W) (hW : W ≤ 64) (hH8 : 8 ≤ H) (hH : H ≤ 64) (hL : L ≤ 3586) (hi : i + 6 < L) (X : Rep W H n m) : LwS (L, xs) W H 1842 i n m := by
  obtain ⟨m1, n', c, s, b, m2, hc, hm, X2, h1, h2, h3⟩ := AG_compare (S := (L, xs)) hW8 hW hH8 hH X
  refine ⟨m2, n', c, s, X2, h1, h2, h3, fun {v h' c2 s2} K => ?_⟩
  refine w_L_law_1842 (L, xs) _ _ _ _ _ _ ?_
  refine c_ob (by omega) (by rfl) ?_
  refine k_I hc ?_
  refine c_ob (by omega) (by rfl) ?_
  refine c_qI hm ?_
  exact c_ift rfl K
theorem LS_shiftX (hW8 : 8 ≤ W) (hW : W ≤ 64) (hH8 : 8 ≤ H) (hH : H ≤ 64) (hL : L ≤ 3586) (hi : i + 6 < L) (X : Rep W H n m) : LwS (L, xs) W H 1855 i n m := by
  obtain ⟨m1, n', c, s, k, b, m2, hc, hm, ht, hv, X2, h1, h2, h3⟩ := AG_shiftX (S := (L, xs)) hW8 hW hH8 hH X
  refine ⟨m2, n', c, s, X2, h1, h2, h3, fun {v h' c2 s2} K => ?_⟩
  refine w_L_law_1855 (L, xs) _ _ _ _ _ _ ?_
  refine k_I hc ?_
  refine c_ob (by omega) (by rfl) ?_
  exact tail_I hm ht hv K
theorem LS_shiftY (hW8 : 8 ≤ W) (hW : W ≤ 64) (hH8 : 8 ≤ H) (hH : H ≤ 64) (hL : L ≤ 3586) (hi : i + 6 < L) (X : Rep W H n m) : LwS (L, xs) W H 1899 i n m := by
  obtain ⟨m1, n', c, s, k, b, m2, hc, hm, ht, hv, X2, h1, h2, h3⟩ := AG_shiftY (S := (L, xs)) hW8 hW hH8 hH X
  refine ⟨m2, n', c, s, X2, h1, h2, h3, fun {v h' c2 s2} K => ?_⟩
  refine w_L_law_1899 (L, xs) _ _ _ _ _ _ ?_
  refine k_I hc ?_
  refine c_ob (by omega) (by rfl) ?_
  exact tail_I hm ht hv K
theorem LS_skew (hW8 : 8 ≤ W) (hW : W ≤ 64) (hH8 : 8 ≤ H) (hH : H ≤ 64) (hL : L ≤ 3586) (hi : i + 6 < L) (X : Rep W H n m) : LwS (L, xs) W H 1943 i n m := by
  obtain ⟨m1, n', c, s, k, b, m2, hc, hm, ht, hv, X2, h1, h2, h3⟩ := AG_skew (S := (L, xs)) hW8 hW hH8 hH X
  refine ⟨m2, n', c, s, X2, h1, h2, h3, fun {v h' c2 s2} K => ?_⟩
  refine w_L_law_1943 (L, xs) _ _ _ _ _ _ ?_
  refine k_I hc ?_
  refine c_ob (by omega) (by rfl) ?_
  exact tail_I hm ht hv K
theorem LS_turned (hW8 : 8 ≤ W) (hW : W ≤ 64) (hH8 : 8 ≤ H) (hH : H ≤ 64) (hL : L ≤ 3586) (hi : i + 6 < L) (X : Rep W H n m) : LwS (L, xs) W H 1987 i n m := by
  obtain ⟨m1, n', c, s, k, b, m2, b01, hc, hm, ht, hv, X2, h1, h2, h3⟩ := AG_turned (S := (L, xs)) hW8 hW hH8 hH X
  refine ⟨m2, n', c, s, X2, h1, h2, h3, fun {v h' c2 s2} K => ?_⟩
  refine w_L_law_1987 (L, xs) _ _ _ _ _ _ ?_
  refine k_I hc ?_
  refine c_ob (by omega) (by rfl) ?_
  exact tail_Z b01 hm ht hv K
theorem LS_mismatch (hW8 : 8 ≤ W) (hW : W ≤ 64) (hH8 : 8 ≤ H) (hH : H ≤ 64) (hL : L ≤ 3586) (hi : i + 6 < L) (X : Rep W H n m) : LwS (L, xs) W H 2038 i n m := by
  obtain ⟨m1, n', c, s, k, b, m2, hc, hm, ht, hv, X2, h1, h2, h3⟩ := AG_mismatch (S := (L, xs)) hW8 hW hH8 hH X
  refine ⟨m2, n', c, s, X2, h1, h2, h3, fun {v h' c2 s2} K => ?_⟩
  refine w_L_law_2038 (L, xs) _ _ _ _ _ _ ?_
  refine k_I hc ?_
  refine c_ob (by omega) (by rfl) ?_
  exact tail_I hm ht hv K
theorem LS_similarity (hW8 : 8 ≤ W) (hW : W ≤ 64) (hH8 : 8 ≤ H) (hH : H ≤ 64) (hL : L ≤ 3586) (hi : i + 6 < L) (X : Rep W H n m) : LwS (L, xs) W H 2082 i n m := by
  obtain ⟨m1, n', c, s, k, b, m2, hc, hm, ht, hv, X2, h1, h2, h3⟩ := AG_similarity (S := (L, xs)) hW8 hW hH8 hH X
  refine ⟨m2, n', c, s, X2, h1, h2, h3, fun {v h' c2 s2} K => ?_⟩
  refine w_L_law_2082 (L, xs) _ _ _ _ _ _ ?_
  refine k_I hc ?_
  refine c_ob (by omega) (by rfl) ?_
  exact tail_I hm ht hv K
theorem LS_mismatchAt (hW8 : 8 ≤ W) (hW : W ≤ 64) (hH8 : 8 ≤ H) (hH : H ≤ 64) (hL : L ≤ 3586) (hi : i + 6 < L) (X : Rep W H n m) : LwS (L, xs) W H 2126 i n m := by
  obtain ⟨m1, n', c, s, k, b, m2, hc, hm, ht, hv, X2, h1, h2, h3⟩ := AG_mismatchAt (S := (L, xs)) hW8 hW hH8 hH X (xs (i + 1)) (xs (i + 2))
  refine ⟨m2, n', c, s, X2, h1, h2, h3, fun {v h' c2 s2} K => ?_⟩
  refine w_L_law_2126 (L, xs) _ _ _ _ _ _ ?_
  refine c_rs (nI_add i 1) (by omega) hL ?_
  refine c_rs (nI_add i 2) (by omega) hL ?_
  refine k_I hc ?_
  refine c_rs (nI_add i 1) (by omega) hL ?_
  refine c_rs (nI_add i 2) (by omega) hL ?_
  refine c_ob (by omega) (by rfl) ?_
  exact tail_I hm ht hv K
theorem LS_blockDifference (hW8 : 8 ≤ W) (hW : W ≤ 64) (hH8 : 8 ≤ H) (hH : H ≤ 64) (hL : L ≤ 3586) (hi : i + 6 < L) (X : Rep W H n m) : LwS (L, xs) W H 2194 i n m := by
  obtain ⟨m1, n', c, s, k, b, m2, hc, hm, ht, hv, X2, h1, h2, h3⟩ := AG_blockDifference (S := (L, xs)) hW8 hW hH8 hH X (xs (i + 1)) (xs (i + 2))
  refine ⟨m2, n', c, s, X2, h1, h2, h3, fun {v h' c2 s2} K => ?_⟩
  refine w_L_law_2194 (L, xs) _ _ _ _ _ _ ?_
  refine c_rs (nI_add i 1) (by omega) hL ?_
  refine c_rs (nI_add i 2) (by omega) hL ?_
  refine k_I hc ?_
  refine c_rs (nI_add i 1) (by omega) hL ?_
  refine c_rs (nI_add i 2) (by omega) hL ?_
  refine c_ob (by omega) (by rfl) ?_
  exact tail_I hm ht hv K
theorem LS_regions (hW8 : 8 ≤ W) (hW : W ≤ 64) (hH8 : 8 ≤ H) (hH : H ≤ 64) (hL : L ≤ 3586) (hi : i + 6 < L) (X : Rep W H n m) : LwS (L, xs) W H 2262 i n m := by
  obtain ⟨m1, n', c, s, k, b, m2, hc, hm, ht, hv, X2, h1, h2, h3⟩ := AG_regions (S := (L, xs)) hW8 hW hH8 hH X
  refine ⟨m2, n', c, s, X2, h1, h2, h3, fun {v h' c2 s2} K => ?_⟩
  refine w_L_law_2262 (L, xs) _ _ _ _ _ _ ?_
  refine k_I hc ?_
  refine c_ob (by omega) (by rfl) ?_
  exact tail_I hm ht hv K
theorem LS_regionAt (hW8 : 8 ≤ W) (hW : W ≤ 64) (hH8 : 8 ≤ H) (hH : H ≤ 64) (hL : L ≤ 3586) (hi : i + 6 < L) (X : Rep W H n m) : LwS (L, xs) W H 2306 i n m := by
  obtain ⟨m1, n', c, s, k, b, m2, hc, hm, ht, hv, X2, h1, h2, h3⟩ := AG_regionAt (S := (L, xs)) hW8 hW hH8 hH X (xs (i + 1)) (xs (i + 2))
  refine ⟨m2, n', c, s, X2, h1, h2, h3, fun {v h' c2 s2} K => ?_⟩
  refine w_L_law_2306 (L, xs) _ _ _ _ _ _ ?_
  refine c_rs (nI_add i 1) (by omega) hL ?_
  refine c_rs (nI_add i 2) (by omega) hL ?_
  refine k_I hc ?_
  refine c_rs (nI_add i 1) (by omega) hL ?_
  refine c_rs (nI_add i 2) (by omega) hL ?_
  refine c_ob (by omega) (by rfl) ?_
  exact tail_I hm ht hv K
theorem LS_regionLeft (hW8 : 8 ≤ W) (hW : W ≤ 64) (hH8 : 8 ≤ H) (hH : H ≤ 64) (hL : L ≤ 3586) (hi : i + 6 < L) (X : Rep W H n m) : LwS (L, xs) W H 2374 i n m := by
  obtain ⟨m1, n', c, s, k, b, m2, hc, hm, ht, hv, X2, h1, h2, h3⟩ := AG_regionLeft (S := (L, xs)) hW8 hW hH8 hH X (xs (i + 1))
  refine ⟨m2, n', c, s, X2, h1, h2, h3, fun {v h' c2 s2} K => ?_⟩
  refine w_L_law_2374 (L, xs) _ _ _ _ _ _ ?_
  refine c_rs (nI_add i 1) (by omega) hL ?_
  refine k_I hc ?_
  refine c_rs (nI_add i 1) (by omega) hL ?_
  refine c_ob (by omega) (by rfl) ?_
  exact tail_I hm ht hv K
theorem LS_regionTop (hW8 : 8 ≤ W) (hW : W ≤ 64) (hH8 : 8 ≤ H) (hH : H ≤ 64) (hL : L ≤ 3586) (hi : i + 6 < L) (X : Rep W H n m) : LwS (L, xs) W H 2430 i n m := by
  obtain ⟨m1, n', c, s, k, b, m2, hc, hm, ht, hv, X2, h1, h2, h3⟩ := AG_regionTop (S := (L, xs)) hW8 hW hH8 hH X (xs (i + 1))
  refine ⟨m2, n', c, s, X2, h1, h2, h3, fun {v h' c2 s2} K => ?_⟩
  refine w_L_law_2430 (L, xs) _ _ _ _ _ _ ?_
  refine c_rs (nI_add i 1) (by omega) hL ?_
  refine k_I hc ?_
  refine c_rs (nI_add i 1) (by omega) hL ?_
  refine c_ob (by omega) (by rfl) ?_
  exact tail_I hm ht hv K
theorem LS_regionRight (hW8 : 8 ≤ W) (hW : W ≤ 64) (hH8 : 8 ≤ H) (hH : H ≤ 64) (hL : L ≤ 3586) (hi : i + 6 < L) (X : Rep W H n m) : LwS (L, xs) W H 2486 i n m := by
  obtain ⟨m1, n', c, s, k, b, m2, hc, hm, ht, hv, X2, h1, h2, h3⟩ := AG_regionRight (S := (L, xs)) hW8 hW hH8 hH X (xs (i + 1))
  refine ⟨m2, n', c, s, X2, h1, h2, h3, fun {v h' c2 s2} K => ?_⟩
  refine w_L_law_2486 (L, xs) _ _ _ _ _ _ ?_
  refine c_rs (nI_add i 1) (by omega) hL ?_
  refine k_I hc ?_
  refine c_rs (nI_add i 1) (by omega) hL ?_
  refine c_ob (by omega) (by rfl) ?_
  exact tail_I hm ht hv K
theorem LS_regionBottom (hW8 : 8 ≤ W) (hW : W ≤ 64) (hH8 : 8 ≤ H) (hH : H ≤ 64) (hL : L ≤ 3586) (hi : i + 6 < L) (X : Rep W H n m) : LwS (L, xs) W H 2542 i n m := by
  obtain ⟨m1, n', c, s, k, b, m2, hc, hm, ht, hv, X2, h1, h2, h3⟩ := AG_regionBottom (S := (L, xs)) hW8 hW hH8 hH X (xs (i + 1))
  refine ⟨m2, n', c, s, X2, h1, h2, h3, fun {v h' c2 s2} K => ?_⟩
  refine w_L_law_2542 (L, xs) _ _ _ _ _ _ ?_
  refine c_rs (nI_add i 1) (by omega) hL ?_
  refine k_I hc ?_
  refine c_rs (nI_add i 1) (by omega) hL ?_
  refine c_ob (by omega) (by rfl) ?_
  exact tail_I hm ht hv K
theorem LS_missingPixels (hW8 : 8 ≤ W) (hW : W ≤ 64) (hH8 : 8 ≤ H) (hH : H ≤ 64) (hL : L ≤ 3586) (hi : i + 6 < L) (X : Rep W H n m) : LwS (L, xs) W H 2598 i n m := by
  obtain ⟨m1, n', c, s, k, b, m2, hc, hm, ht, hv, X2, h1, h2, h3⟩ := AG_missingPixels (S := (L, xs)) hW8 hW hH8 hH X (xs (i + 1))
  refine ⟨m2, n', c, s, X2, h1, h2, h3, fun {v h' c2 s2} K => ?_⟩
  refine w_L_law_2598 (L, xs) _ _ _ _ _ _ ?_
  refine c_rs (nI_add i 1) (by omega) hL ?_
  refine k_I hc ?_
  refine c_rs (nI_add i 1) (by omega) hL ?_
  refine c_ob (by omega) (by rfl) ?_
  exact tail_I hm ht hv K
theorem LS_addedPixels (hW8 : 8 ≤ W) (hW : W ≤ 64) (hH8 : 8 ≤ H) (hH : H ≤ 64) (hL : L ≤ 3586) (hi : i + 6 < L) (X : Rep W H n m) : LwS (L, xs) W H 2654 i n m := by
  obtain ⟨m1, n', c, s, k, b, m2, hc, hm, ht, hv, X2, h1, h2, h3⟩ := AG_addedPixels (S := (L, xs)) hW8 hW hH8 hH X (xs (i + 1))
  refine ⟨m2, n', c, s, X2, h1, h2, h3, fun {v h' c2 s2} K => ?_⟩
  refine w_L_law_2654 (L, xs) _ _ _ _ _ _ ?_
  refine c_rs (nI_add i 1) (by omega) hL ?_
  refine k_I hc ?_
  refine c_rs (nI_add i 1) (by omega) hL ?_
  refine c_ob (by omega) (by rfl) ?_
  exact tail_I hm ht hv K
theorem LS_changes (hW8 : 8 ≤ W) (hW : W ≤ 64) (hH8 : 8 ≤ H) (hH : H ≤ 64) (hL : L ≤ 3586) (hi : i + 6 < L) (X : Rep W H n m) : LwS (L, xs) W H 2710 i n m := by
  obtain ⟨m1, n', c, s, k, b, m2, hc, hm, ht, hv, X2, h1, h2, h3⟩ := AG_changes (S := (L, xs)) hW8 hW hH8 hH X
  refine ⟨m2, n', c, s, X2, h1, h2, h3, fun {v h' c2 s2} K => ?_⟩
  refine w_L_law_2710 (L, xs) _ _ _ _ _ _ ?_
  refine k_I hc ?_
  refine c_ob (by omega) (by rfl) ?_
  exact tail_I hm ht hv K
theorem LS_changeKind (hW8 : 8 ≤ W) (hW : W ≤ 64) (hH8 : 8 ≤ H) (hH : H ≤ 64) (hL : L ≤ 3586) (hi : i + 6 < L) (X : Rep W H n m) : LwS (L, xs) W H 2754 i n m := by
  obtain ⟨m1, n', c, s, k, b, m2, hc, hm, ht, hv, X2, h1, h2, h3⟩ := AG_changeKind (S := (L, xs)) hW8 hW hH8 hH X (xs (i + 1))
  refine ⟨m2, n', c, s, X2, h1, h2, h3, fun {v h' c2 s2} K => ?_⟩
  refine w_L_law_2754 (L, xs) _ _ _ _ _ _ ?_
  refine c_rs (nI_add i 1) (by omega) hL ?_
  refine k_I hc ?_
  refine c_rs (nI_add i 1) (by omega) hL ?_
  refine c_ob (by omega) (by rfl) ?_
  exact tail_I hm ht hv K
theorem LS_changeRegion (hW8 : 8 ≤ W) (hW : W ≤ 64) (hH8 : 8 ≤ H) (hH : H ≤ 64) (hL : L ≤ 3586) (hi : i + 6 < L) (X : Rep W H n m) : LwS (L, xs) W H 2810 i n m := by
  obtain ⟨m1, n', c, s, k, b, m2, hc, hm, ht, hv, X2, h1, h2, h3⟩ := AG_changeRegion (S := (L, xs)) hW8 hW hH8 hH X (xs (i + 1))
  refine ⟨m2, n', c, s, X2, h1, h2, h3, fun {v h' c2 s2} K => ?_⟩
  refine w_L_law_2810 (L, xs) _ _ _ _ _ _ ?_
  refine c_rs (nI_add i 1) (by omega) hL ?_
  refine k_I hc ?_
  refine c_rs (nI_add i 1) (by omega) hL ?_
  refine c_ob (by omega) (by rfl) ?_
  exact tail_I hm ht hv K
theorem LS_changeTarget (hW8 : 8 ≤ W) (hW : W ≤ 64) (hH8 : 8 ≤ H) (hH : H ≤ 64) (hL : L ≤ 3586) (hi : i + 6 < L) (X : Rep W H n m) : LwS (L, xs) W H 2866 i n m := by
  obtain ⟨m1, n', c, s, k, b, m2, hc, hm, ht, hv, X2, h1, h2, h3⟩ := AG_changeTarget (S := (L, xs)) hW8 hW hH8 hH X (xs (i + 1))
  refine ⟨m2, n', c, s, X2, h1, h2, h3, fun {v h' c2 s2} K => ?_⟩
  refine w_L_law_2866 (L, xs) _ _ _ _ _ _ ?_
  refine c_rs (nI_add i 1) (by omega) hL ?_
  refine k_I hc ?_
  refine c_rs (nI_add i 1) (by omega) hL ?_
  refine c_ob (by omega) (by rfl) ?_
  exact tail_I hm ht hv K
theorem LS_moveX (hW8 : 8 ≤ W) (hW : W ≤ 64) (hH8 : 8 ≤ H) (hH : H ≤ 64) (hL : L ≤ 3586) (hi : i + 6 < L) (X : Rep W H n m) : LwS (L, xs) W H 2922 i n m := by
  obtain ⟨m1, n', c, s, k, b, m2, hc, hm, ht, hv, X2, h1, h2, h3⟩ := AG_moveX (S := (L, xs)) hW8 hW hH8 hH X (xs (i + 1))
  refine ⟨m2, n', c, s, X2, h1, h2, h3, fun {v h' c2 s2} K => ?_⟩
  refine w_L_law_2922 (L, xs) _ _ _ _ _ _ ?_
  refine c_rs (nI_add i 1) (by omega) hL ?_
  refine k_I hc ?_
  refine c_rs (nI_add i 1) (by omega) hL ?_
  refine c_ob (by omega) (by rfl) ?_
  exact tail_I hm ht hv K
theorem LS_moveY (hW8 : 8 ≤ W) (hW : W ≤ 64) (hH8 : 8 ≤ H) (hH : H ≤ 64) (hL : L ≤ 3586) (hi : i + 6 < L) (X : Rep W H n m) : LwS (L, xs) W H 2978 i n m := by
  obtain ⟨m1, n', c, s, k, b, m2, hc, hm, ht, hv, X2, h1, h2, h3⟩ := AG_moveY (S := (L, xs)) hW8 hW hH8 hH X (xs (i + 1))
  refine ⟨m2, n', c, s, X2, h1, h2, h3, fun {v h' c2 s2} K => ?_⟩
  refine w_L_law_2978 (L, xs) _ _ _ _ _ _ ?_
  refine c_rs (nI_add i 1) (by omega) hL ?_
  refine k_I hc ?_
  refine c_rs (nI_add i 1) (by omega) hL ?_
  refine c_ob (by omega) (by rfl) ?_
  exact tail_I hm ht hv K
theorem LS_changePixels (hW8 : 8 ≤ W) (hW : W ≤ 64) (hH8 : 8 ≤ H) (hH : H ≤ 64) (hL : L ≤ 3586) (hi : i + 6 < L) (X : Rep W H n m) : LwS (L, xs) W H 3034 i n m := by
  obtain ⟨m1, n', c, s, k, b, m2, hc, hm, ht, hv, X2, h1, h2, h3⟩ := AG_changePixels (S := (L, xs)) hW8 hW hH8 hH X (xs (i + 1))
  refine ⟨m2, n', c, s, X2, h1, h2, h3, fun {v h' c2 s2} K => ?_⟩
  refine w_L_law_3034 (L, xs) _ _ _ _ _ _ ?_
  refine c_rs (nI_add i 1) (by omega) hL ?_
  refine k_I hc ?_
  refine c_rs (nI_add i 1) (by omega) hL ?_
  refine c_ob (by omega) (by rfl) ?_
  exact tail_I hm ht hv K
theorem LS_changeLine (hW8 : 8 ≤ W) (hW : W ≤ 64) (hH8 : 8 ≤ H) (hH : H ≤ 64) (hL : L ≤ 3586) (hi : i + 6 < L) (X : Rep W H n m) : LwS (L, xs) W H 3090 i n m := by
  obtain ⟨m1, n', c, s, k, b, m2, hc, hm, ht, hv, X2, h1, h2, h3⟩ := AG_changeLine (S := (L, xs)) hW8 hW hH8 hH X (xs (i + 1))
  refine ⟨m2, n', c, s, X2, h1, h2, h3, fun {v h' c2 s2} K => ?_⟩
  refine w_L_law_3090 (L, xs) _ _ _ _ _ _ ?_
  refine c_rs (nI_add i 1) (by omega) hL ?_
  refine k_I hc ?_
  refine c_rs (nI_add i 1) (by omega) hL ?_
  refine c_ob (by omega) (by rfl) ?_
  exact tail_I hm ht hv K
theorem LS_reportChar (hW8 : 8 ≤ W) (hW : W ≤ 64) (hH8 : 8 ≤ H) (hH : H ≤ 64) (hL : L ≤ 3586) (hi : i + 6 < L) (X : Rep W H n m) : LwS (L, xs) W H 3146 i n m := by
  obtain ⟨m1, n', c, s, k, b, m2, hc, hm, ht, hv, X2, h1, h2, h3⟩ := AG_reportChar (S := (L, xs)) hW8 hW hH8 hH X (xs (i + 1))
  refine ⟨m2, n', c, s, X2, h1, h2, h3, fun {v h' c2 s2} K => ?_⟩
  refine w_L_law_3146 (L, xs) _ _ _ _ _ _ ?_
  refine c_rs (nI_add i 1) (by omega) hL ?_
  refine k_I hc ?_
  refine c_rs (nI_add i 1) (by omega) hL ?_
  refine c_ob (by omega) (by rfl) ?_
  exact tail_I hm ht hv K
theorem LS_learn (hW8 : 8 ≤ W) (hW : W ≤ 64) (hH8 : 8 ≤ H) (hH : H ≤ 64) (hL : L ≤ 3586) (hi : i + 6 < L) (X : Rep W H n m) : LwS (L, xs) W H 3202 i n m := by
  obtain ⟨m1, n', c, s, k, b, m2, hc, hm, ht, hv, X2, h1, h2, h3⟩ := AG_learn (S := (L, xs)) hW8 hW hH8 hH X (xs (i + 1))
  refine ⟨m2, n', c, s, X2, h1, h2, h3, fun {v h' c2 s2} K => ?_⟩
  refine w_L_law_3202 (L, xs) _ _ _ _ _ _ ?_
  refine c_rs (nI_add i 1) (by omega) hL ?_
  refine k_I hc ?_
  refine c_rs (nI_add i 1) (by omega) hL ?_
  refine c_ob (by omega) (by rfl) ?_
  exact tail_I hm ht hv K
theorem LS_stampOf (hW8 : 8 ≤ W) (hW : W ≤ 64) (hH8 : 8 ≤ H) (hH : H ≤ 64) (hL : L ≤ 3586) (hi : i + 6 < L) (X : Rep W H n m) : LwS (L, xs) W H 3258 i n m := by
  obtain ⟨m1, n', c, s, k, b, m2, hc, hm, ht, hv, X2, h1, h2, h3⟩ := AG_stampOf (S := (L, xs)) hW8 hW hH8 hH X (xs (i + 1))
  refine ⟨m2, n', c, s, X2, h1, h2, h3, fun {v h' c2 s2} K => ?_⟩
  refine w_L_law_3258 (L, xs) _ _ _ _ _ _ ?_
  refine c_rs (nI_add i 1) (by omega) hL ?_
  refine k_I hc ?_
  refine c_rs (nI_add i 1) (by omega) hL ?_
  refine c_ob (by omega) (by rfl) ?_
  exact tail_I hm ht hv K
theorem LS_forgetStamp (hW8 : 8 ≤ W) (hW : W ≤ 64) (hH8 : 8 ≤ H) (hH : H ≤ 64) (hL : L ≤ 3586) (hi : i + 6 < L) (X : Rep W H n m) : LwS (L, xs) W H 3314 i n m := by
  obtain ⟨m1, n', c, s, k, b, m2, hc, hm, ht, hv, X2, h1, h2, h3⟩ := AG_forgetStamp (S := (L, xs)) hW hH X (xs (i + 1))
  refine ⟨m2, n', c, s, X2, h1, h2, h3, fun {v h' c2 s2} K => ?_⟩
  refine w_L_law_3314 (L, xs) _ _ _ _ _ _ ?_
  refine c_rs (nI_add i 1) (by omega) hL ?_
  refine k_I hc ?_
  refine c_rs (nI_add i 1) (by omega) hL ?_
  refine c_ob (by omega) (by rfl) ?_
  exact tail_I hm ht hv K
theorem LS_accept (hW8 : 8 ≤ W) (hW : W ≤ 64) (hH8 : 8 ≤ H) (hH : H ≤ 64) (hL : L ≤ 3586) (hi : i + 6 < L) (X : Rep W H n m) : LwS (L, xs) W H 3370 i n m := by
  obtain ⟨m1, n', c, s, k, b, m2, hc, hm, ht, hv, X2, h1, h2, h3⟩ := AG_accept (S := (L, xs)) hW8 hW hH8 hH X (xs (i + 1))
  refine ⟨m2, n', c, s, X2, h1, h2, h3, fun {v h' c2 s2} K => ?_⟩
  refine w_L_law_3370 (L, xs) _ _ _ _ _ _ ?_
  refine c_rs (nI_add i 1) (by omega) hL ?_
  refine k_I hc ?_
  refine c_rs (nI_add i 1) (by omega) hL ?_
  refine c_ob (by omega) (by rfl) ?_
  exact tail_I hm ht hv K
theorem LS_leastNoise (hW8 : 8 ≤ W) (hW : W ≤ 64) (hH8 : 8 ≤ H) (hH : H ≤ 64) (hL : L ≤ 3586) (hi : i + 6 < L) (X : Rep W H n m) : LwS (L, xs) W H 3426 i n m := by
  obtain ⟨m1, n', c, s, k, b, m2, hc, hm, ht, hv, X2, h1, h2, h3⟩ := AG_leastNoise (S := (L, xs)) hW8 hW hH8 hH X (xs (i + 1))
  refine ⟨m2, n', c, s, X2, h1, h2, h3, fun {v h' c2 s2} K => ?_⟩
  refine w_L_law_3426 (L, xs) _ _ _ _ _ _ ?_
  refine c_rs (nI_add i 1) (by omega) hL ?_
  refine k_I hc ?_
  refine c_rs (nI_add i 1) (by omega) hL ?_
  refine c_ob (by omega) (by rfl) ?_
  exact tail_I hm ht hv K
theorem LS_none (X : Rep W H n m) : LwS (L, xs) W H 3482 i n m := ⟨m, n, 0, 0, X, Nat.le_refl n, by omega, by omega, fun K => K⟩
end LS2

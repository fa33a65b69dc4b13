/-! LEARN: the model -/
def mlP (a j : Nat) : Bool := a == 111 || (a == 112 || (a == 113 || (a == 90 && (j == 2 || j == 34))))
theorem mlP_n {a j : Nat} (h1 : a < 111 ∨ 113 < a) (h2 : a = 90 → j ≠ 2 ∧ j ≠ 34) : mlP a j = false := by
  unfold mlP
  rw [beq_eq_false_iff_ne.mpr (show a ≠ 111 by omega), beq_eq_false_iff_ne.mpr (show a ≠ 112 by omega), beq_eq_false_iff_ne.mpr (show a ≠ 113 by omega)]
  by_cases e : a = 90
  · have := h2 e
    rw [beq_eq_false_iff_ne.mpr this.1, beq_eq_false_iff_ne.mpr this.2]
    simp
  · rw [beq_eq_false_iff_ne.mpr e]; rfl
section MLE
variable {S : xS} {W H n N : Nat} {m : mM} {B : Nat} {P : Nat → Bool} {Ms Ad : Nat → Int64} {o nb : Nat → Nat} {St : stT} {cnt : Nat} {F : Nat → Int64}
theorem mlearn_head (e : m.1 90 35 = 1) {c : Nat} (hc : c ≤ 256) (e79 : m.1 90 79 = nI c) (x : Int32) {R : Option xO} (K : (if ¬ bz (decide (0 ≤ x.toInt ∧ x.toInt < c)) = 0 then (xGr (E W H n (sI m 90 2 0)) 90 12 76).bind fun v9 => (xRi (E W H n (sI m 90 2 0)) 0 v9 x).bind fun v10 => if xOb (E W H n (sI m 90 2 0)) 90 12 = true then xqI (xM S mX13_stampFor [.ref 90, .int v10] (E W H n (sI m 90 2 0))) xth fun v13 h12 => if v13 < 0 then ((xGi h12 90 12 34).bind fun v14 => if ¬ v14 = (7 : Int32) then ((xGr h12 90 12 32).bind fun v15 => (xGi h12 90 12 34).bind fun v16 => if xOb h12 90 12 = true then xqI (xM S mX13_widthOf [.ref 90, .int v10] h12) xth fun v19 h18 => (xWi h18 v15 v16 v19).bind fun h20 => (xGr h20 90 12 33).bind fun v21 => (xGi h20 90 12 34).bind fun v22 => if xOb h20 90 12 = true then xqI (xM S mX13_heightOf [.ref 90, .int v10] h20) xth fun v25 h24 => (xWi h24 v21 v22 v25).bind fun h26 => (xden S mX13_learn 99 [(0, .ref 90), (2, .int v10), (4, .int (0 : Int32))] [] h26) else none else none) else (if xOb h12 90 12 = true then xqI (xM S mX13_fails [.ref 90, .int (2 : Int32)] h12) xth fun v29 h28 => some (.inl (some (.int v29)), h28, 0, 0) else none)) else (some (.inl (some (.int v13)), h12, 0, 0)) else none else (if xOb (E W H n (sI m 90 2 0)) 90 12 = true then xqI (xM S mX13_fails [.ref 90, .int (1 : Int32)] (E W H n (sI m 90 2 0))) xth fun v32 h31 => some (.inl (some (.int v32)), h31, 0, 0) else none)) = R) {r : xO} (hR : R = some r) : xM S mX13_learn [.ref 90, .int x] (E W H n m) = some r := by
  subst hR
  have sb : (nI c - (1 : Int32)).toInt = (c : Int) - 1 := by
    rw [← zI_n (by omega), show (1 : Int32) = zI 1 from rfl, zI_sub (by omega) (by omega) (by omega) (by omega), zI_t (by omega) (by omega)]
  have i1 := in_s S (E W H n (sI m 90 2 0)) x.toInt64 0 (nI c - (1 : Int32)).toInt64
  rw [Int32.toInt_toInt64, Int32.toInt_toInt64, sb, show (0 : Int64).toInt = 0 from rfl, decide_eq_decide.mpr (show (0 ≤ x.toInt ∧ x.toInt ≤ (c : Int) - 1) ↔ (0 ≤ x.toInt ∧ x.toInt < c) by omega)] at i1
  refine w_X13_learn S _ _ _ _ ?_
  refine c_pi (by omega) (by rfl) (by rfl) (by rfl) (xPok_int (by decide) (by rfl)) ?_
  refine c_gi (by omega) (by rfl) (by rfl) (by rfl) ?_
  rw [sI_ne (by omega), e]
  refine c_iff (by decide) ?_
  refine c_gi (by omega) (by rfl) (by rfl) (by rfl) ?_
  rw [sI_ne (by omega), e79]
  refine c_qI i1 ?_
  exact K
theorem mlearn_out (e : m.1 90 35 = 1) {c : Nat} (hc : c ≤ 256) (e79 : m.1 90 79 = nI c) {x : Int32} (h : ¬ (0 ≤ x.toInt ∧ x.toInt < c)) : xM S mX13_learn [.ref 90, .int x] (E W H n m) = some (.inl (some (.int 0)), E W H n (sI m 90 2 1), 0, 0) := by
  have f := fails_s (S := S) (W := W) (H := H) (n := n) (m := sI m 90 2 0) 1
  rw [sI_sI] at f
  refine mlearn_head e hc e79 x ?_ rfl
  rw [decide_eq_false h]
  refine c_iff (fun w => w rfl) ?_
  refine c_ob (by omega) (by rfl) ?_
  exact c_qI f rfl
theorem mlearn_no (e : m.1 90 35 = 0) (x : Int32) : xM S mX13_learn [.ref 90, .int x] (E W H n m) = some (.inl (some (.int 0)), E W H n (sI m 90 2 1), 0, 0) := by
  have f := fails_s (S := S) (W := W) (H := H) (n := n) (m := sI m 90 2 0) 1
  rw [sI_sI] at f
  refine w_X13_learn S _ _ _ _ ?_
  refine c_pi (by omega) (by rfl) (by rfl) (by rfl) (xPok_int (by decide) (by rfl)) ?_
  refine c_gi (by omega) (by rfl) (by rfl) (by rfl) ?_
  rw [sI_ne (by omega), e]
  refine c_ift rfl ?_
  refine c_ob (by omega) (by rfl) ?_
  exact c_qI f rfl
theorem mlearn_known (hW8 : 8 ≤ W) (hW : W ≤ 64) (hH8 : 8 ≤ H) (hH : H ≤ 64) (hB : 4 ≤ B) (hB2 : B ≤ 16) (oM : okP W H Ms) (oA : okP W H Ad) (hN : N = nS ba P 256) (ho : ∀ i, i < N → nb (o i) = i) (hnb : ∀ q, q < N → nb q < N ∧ o (nb q) = q) (e : m.1 90 35 = 1) {c i p : Nat} (hc : c ≤ 256) (e79 : m.1 90 79 = nI c) (hi : i < c) (er : m.1 141 i = nI p) (X : ofI m B P Ms Ad nb) (T : mstM m cnt St) (hp : p < 2 * N) (Xp : ptB m p (PFm W H Ms Ad P B o p)) (y : 0 ≤ stNo St cnt (PFm W H Ms Ad P B o p)) : xM S mX13_learn [.ref 90, .int (nI i)] (E W H n m) = some (.inl (some (.int (zI (stNo St cnt (PFm W H Ms Ad P B o p))))), E W H n (sI m 90 2 0), 0, 0) := by
  have c7 := T.2.1
  have rg := stNo_rng St cnt (PFm W H Ms Ad P B o p)
  have Q := th_fr (m := m) (v := 0)
  have k := stampFor_s (S := S) (n := n) hW8 hW hH8 hH hB hB2 oM oA hN ho hnb (ofI_fr X Q (fun a j h => thP_n (by omega))) (mstM_fr T Q (fun a j h => thP_n (by omega))) hp (ptB_fr Xp (fun a h1 h2 => fr_i Q a p (thP_n (by omega))))
  refine mlearn_head e hc e79 (nI i) ?_ rfl
  rw [decide_eq_true (by rw [nI_toInt (by omega)]; omega)]
  refine c_ift (by decide) ?_
  refine c_gr (by omega) (by rfl) (by rfl) (by rfl) ?_
  refine c_ri (i := i) (by omega) (by rfl) (by rfl) (by rfl) (by first | omega | ((conv => rhs; whnf); first | omega | (show _ < OfNat.ofNat (α := Nat) _; omega))) (by first | omega | ((conv => lhs; whnf); first | omega | (show OfNat.ofNat (α := Nat) _ < _; omega))) (by decide) ?_
  rw [sI_ne (by omega), show m.1 (90 + 51) i = nI p from er]
  refine c_ob (by omega) (by rfl) ?_
  refine c_qI k ?_
  exact c_iff (zI_nn y (by omega)) rfl
theorem mlearn_full (hW8 : 8 ≤ W) (hW : W ≤ 64) (hH8 : 8 ≤ H) (hH : H ≤ 64) (hB : 4 ≤ B) (hB2 : B ≤ 16) (oM : okP W H Ms) (oA : okP W H Ad) (hN : N = nS ba P 256) (ho : ∀ i, i < N → nb (o i) = i) (hnb : ∀ q, q < N → nb q < N ∧ o (nb q) = q) (e : m.1 90 35 = 1) {c i p : Nat} (hc : c ≤ 256) (e79 : m.1 90 79 = nI c) (hi : i < c) (er : m.1 141 i = nI p) (X : ofI m B P Ms Ad nb) (T : mstM m cnt St) (hp : p < 2 * N) (Xp : ptB m p (PFm W H Ms Ad P B o p)) (no : stNo St cnt (PFm W H Ms Ad P B o p) = -1) (fu : 7 ≤ cnt) : xM S mX13_learn [.ref 90, .int (nI i)] (E W H n m) = some (.inl (some (.int 0)), E W H n (sI m 90 2 2), 0, 0) := by
  have c7 := T.2.1
  have Q := th_fr (m := m) (v := 0)
  have k := stampFor_s (S := S) (n := n) hW8 hW hH8 hH hB hB2 oM oA hN ho hnb (ofI_fr X Q (fun a j h => thP_n (by omega))) (mstM_fr T Q (fun a j h => thP_n (by omega))) hp (ptB_fr Xp (fun a h1 h2 => fr_i Q a p (thP_n (by omega))))
  have f := fails_s (S := S) (W := W) (H := H) (n := n) (m := sI m 90 2 0) 2
  rw [sI_sI] at f
  refine mlearn_head e hc e79 (nI i) ?_ rfl
  rw [decide_eq_true (by rw [nI_toInt (by omega)]; omega)]
  refine c_ift (by decide) ?_
  refine c_gr (by omega) (by rfl) (by rfl) (by rfl) ?_
  refine c_ri (i := i) (by omega) (by rfl) (by rfl) (by rfl) (by first | omega | ((conv => rhs; whnf); first | omega | (show _ < OfNat.ofNat (α := Nat) _; omega))) (by first | omega | ((conv => lhs; whnf); first | omega | (show OfNat.ofNat (α := Nat) _ < _; omega))) (by decide) ?_
  rw [sI_ne (by omega), show m.1 (90 + 51) i = nI p from er]
  refine c_ob (by omega) (by rfl) ?_
  refine c_qI k ?_
  rw [no]
  refine c_ift zI_m1 ?_
  refine c_gi (by omega) (by rfl) (by rfl) (by rfl) ?_
  rw [sI_ne (by omega), T.1, show cnt = 7 by omega]
  refine c_iff (fun w => w rfl) ?_
  refine c_ob (by omega) (by rfl) ?_
  exact c_qI f rfl
theorem mlearn_loop (hW8 : 8 ≤ W) (hW : W ≤ 64) (hH8 : 8 ≤ H) (hH : H ≤ 64) (hB : 4 ≤ B) (hB2 : B ≤ 16) (oM : okP W H Ms) (oA : okP W H Ad) (hN : N = nS ba P 256) (ho : ∀ i, i < N → nb (o i) = i) (hnb : ∀ q, q < N → nb q < N ∧ o (nb q) = q) {p : Nat} (X : ofI m B P Ms Ad nb) (hp : p < 2 * N) (Xp : ptB m p (PFm W H Ms Ad P B o p)) (e34 : m.1 90 34 = nI cnt) (lt : cnt < 7) : xden S mX13_learn 99 [(0, .ref 90), (2, .int (nI p)), (4, .int (nI 0))] [] (E W H n m) = some (.inl (some (.int (nI cnt))), E W H n (sI (aI m 111 (fb_put (m.1 111) (fun k => bz (px (sh (PFm W H Ms Ad P B o p)) k)) (4096 * cnt) 4096)) 90 34 (nI (cnt + 1))), 0, 0) := by
  have N256 : N ≤ 256 := by rw [hN]; exact nS_256 P
  have Xp0 := Xp
  obtain ⟨l, t, r, b, g1, g2, g3, g4, g5, _, _⟩ := Xp
  obtain ⟨z1, z2⟩ := isBox_le g1
  obtain ⟨a1, a2, a3, a4, a5, a6⟩ := box_wh g1 g2 g3
  generalize hg : (fun k => bz (px (sh (PFm W H Ms Ad P B o p)) k)) = g
  have gv : ∀ k, g k = bz (px (sh (PFm W H Ms Ad P B o p)) k) := fun k => by rw [← hg]
  refine x_fo 4096 (fun k s => xden S mX13_learn 99 [(0, .ref 90), (2, .int (nI p)), (4, .int (nI k))] [] (E W H n s)) (fun k => aI m 111 (fb_put (m.1 111) g (4096 * cnt) k)) (by rw [fb_put_0]; exact aI_self m 111 rfl) (fun k hk K => ?_) ?_
  · -- a pixel
    have x64 : k % 64 < 64 := Nat.mod_lt _ (by omega)
    have y64 : k / 64 < 64 := by omega
    have e1 : nI k - nI k / (64 : Int32) * (64 : Int32) = nI (k % 64) := pk_rem (by omega) (by decide) (by decide)
    have e2 : nI k / (64 : Int32) = nI (k / 64) := n_div (by omega) (by decide) (by decide)
    have F1 : fr (fun a _ => a == 111) m (aI m 111 (fb_put (m.1 111) g (4096 * cnt) k)) := fr_aI fr_rf (fun _ => rfl)
    have n111 : ∀ {a : Nat}, a ≠ 111 → (a == 111) = false := fun h => beq_eq_false_iff_ne.mpr h
    have X1 := ofI_fr X F1 (fun a j h => n111 (by omega))
    have Xp1 := ptB_fr Xp0 (fun a h1 h2 => fr_i F1 a p (n111 (by omega)))
    have wk := widthOf_s (S := S) (W := W) (H := H) (n := n) (show p < 512 by omega) Xp1
    have hk' := heightOf_s (S := S) (W := W) (H := H) (n := n) (show p < 512 by omega) Xp1
    have s34 : (aI m 111 (fb_put (m.1 111) g (4096 * cnt) k)).1 90 34 = nI cnt := (fr_i F1 90 34 (n111 (by omega))).trans e34
    have ix : (4096 : Int32) * nI cnt + nI k = nI (4096 * cnt + k) := by rw [show (4096 : Int32) * nI cnt = nI (4096 * cnt) from pk_mul 4096 cnt, nI_add]
    -- a write and the next
    have go : ∀ {v : Bool}, px (sh (PFm W H Ms Ad P B o p)) k = v → ((xWz (E W H n (aI m 111 (fb_put (m.1 111) g (4096 * cnt) k))) 111 (nI (4096 * cnt + k)) (bz v)).bind fun h3 => xlet (nI k + (1 : Int32)) fun v4 => (xden S mX13_learn 99 [(0, .ref 90), (2, .int (nI p)), (4, .int v4)] [] h3)) = some (.inl (some (.int (nI cnt))), E W H n (sI (aI m 111 (fb_put (m.1 111) g (4096 * cnt) 4096)) 90 34 (nI (cnt + 1))), 0, 0) := fun {v} hv => by
      refine c_wz (i := 4096 * cnt + k) (by omega) (by rfl) (by rfl) rfl (by first | omega | ((conv => rhs; whnf); first | omega | (show _ < OfNat.ofNat (α := Nat) _; omega))) (by first | omega | ((conv => lhs; whnf); first | omega | (show OfNat.ofNat (α := Nat) _ < _; omega))) (bz_01 v) ?_
      refine c_let ?_
      rw [nI_suc, show bz v = g k by rw [gv, hv], sI_put]
      exact K
    have z0 : px (sh (PFm W H Ms Ad P B o p)) k = false → xden S mX13_learn 146 [(0, .ref 90), (2, .int (nI p)), (4, .int (nI k)), (5, .int (nI (k % 64))), (6, .int (nI (k / 64)))] [.int (0 : Int32)] (E W H n (aI m 111 (fb_put (m.1 111) g (4096 * cnt) k))) = some (.inl (some (.int (nI cnt))), E W H n (sI (aI m 111 (fb_put (m.1 111) g (4096 * cnt) 4096)) 90 34 (nI (cnt + 1))), 0, 0) := fun h => by
      refine w_X13_learn_146 S _ _ _ _ _ _ _ _ ?_
      refine c_gr (by omega) (by rfl) (by rfl) (by rfl) ?_
      refine c_gi (by omega) (by rfl) (by rfl) (by rfl) ?_
      rw [s34, ix]
      refine c_ift rfl ?_
      exact go h
    refine w_X13_learn_99 S _ _ _ _ _ ?_
    refine c_iff (fun w => by have := (nI_leI (a := 4096) (by omega) (by omega)).mp w; omega) ?_
    refine c_let ?_
    refine c_let ?_
    rw [e1, e2]
    refine c_ob (by omega) (by rfl) ?_
    refine c_qI wk ?_
    by_cases cx : k % 64 < wd (PFm W H Ms Ad P B o p)
    · refine c_iff (fun w => by have := (nI_leI (by omega) (by omega)).mp w; omega) ?_
      refine c_ob (by omega) (by rfl) ?_
      refine c_qI hk' ?_
      by_cases cy : k / 64 < ht (PFm W H Ms Ad P B o p)
      · refine c_iff (fun w => by have := (nI_leI (by omega) (by omega)).mp w; omega) ?_
        have io := isOf_s (S := S) (n := n) hW8 hW hH8 hH hB hB2 oM oA hN ho hnb X1 hp (k := 64 * (t + k / 64) + (l + k % 64)) (by omega)
        have pv : px (PFm W H Ms Ad P B o p) (64 * (t + k / 64) + (l + k % 64)) = px (sh (PFm W H Ms Ad P B o p)) k := by
          rw [px_xy _ _ (by omega)]
          unfold px
          rw [lb_sh g1 g2 g3 x64, decide_eq_true (by omega), Bool.true_and]
        rw [pv] at io
        refine w_X13_learn_146 S _ _ _ _ _ _ _ _ ?_
        refine c_gr (by omega) (by rfl) (by rfl) (by rfl) ?_
        refine c_gi (by omega) (by rfl) (by rfl) (by rfl) ?_
        rw [s34, ix]
        refine c_iff (by decide) ?_
        refine c_gr (by omega) (by rfl) (by rfl) (by rfl) ?_
        refine c_ri (i := p) (by omega) (by rfl) (by rfl) (by rfl) (by first | omega | ((conv => rhs; whnf); first | omega | (show _ < OfNat.ofNat (α := Nat) _; omega))) (by first | omega | ((conv => lhs; whnf); first | omega | (show OfNat.ofNat (α := Nat) _ < _; omega))) (by decide) ?_
        refine c_gr (by omega) (by rfl) (by rfl) (by rfl) ?_
        refine c_ri (i := p) (by omega) (by rfl) (by rfl) (by rfl) (by first | omega | ((conv => rhs; whnf); first | omega | (show _ < OfNat.ofNat (α := Nat) _; omega))) (by first | omega | ((conv => lhs; whnf); first | omega | (show OfNat.ofNat (α := Nat) _ < _; omega))) (by decide) ?_
        rw [show (aI m 111 (fb_put (m.1 111) g (4096 * cnt) k)).1 (90 + 47) p = nI t from (fr_i F1 137 p (n111 (by omega))).trans g5, show (aI m 111 (fb_put (m.1 111) g (4096 * cnt) k)).1 (90 + 46) p = nI l from (fr_i F1 136 p (n111 (by omega))).trans g4]
        rw [nI_add, show (64 : Int32) * nI (t + k / 64) = nI (64 * (t + k / 64)) from pk_mul 64 (t + k / 64), nI_add, nI_add, Nat.add_assoc]
        refine c_ob (by omega) (by rfl) ?_
        refine c_qI io ?_
        cases hv : px (sh (PFm W H Ms Ad P B o p)) k
        · refine c_ift rfl ?_
          exact go (v := false) hv
        · refine c_iff (by decide) ?_
          exact go (v := true) hv
      · refine c_ift ((nI_leI (by omega) (by omega)).mpr (by omega)) ?_
        refine z0 ?_
        cases hv : px (sh (PFm W H Ms Ad P B o p)) k
        · rfl
        · have := (sh_in g1 g2 g3 hv).2
          omega
    · refine c_ift ((nI_leI (by omega) (by omega)).mpr (by omega)) ?_
      refine z0 ?_
      cases hv : px (sh (PFm W H Ms Ad P B o p)) k
      · rfl
      · have := (sh_in g1 g2 g3 hv).1
        omega
  · -- the end
    have F1 : fr (fun a _ => a == 111) m (aI m 111 (fb_put (m.1 111) g (4096 * cnt) 4096)) := fr_aI fr_rf (fun _ => rfl)
    have s34 : (aI m 111 (fb_put (m.1 111) g (4096 * cnt) 4096)).1 90 34 = nI cnt := (fr_i F1 90 34 rfl).trans e34
    refine w_X13_learn_99 S _ _ _ _ _ ?_
    refine c_ift (by decide) ?_
    refine c_gi (by omega) (by rfl) (by rfl) (by rfl) ?_
    rw [s34, nI_suc]
    refine c_pi (by omega) (by rfl) (by rfl) (by rfl) (xPok_int (by decide) (by rfl)) ?_
    refine c_gi (by omega) (by rfl) (by rfl) (by rfl) ?_
    rw [sI_eq ⟨rfl, rfl⟩, show nI (cnt + 1) - (1 : Int32) = nI cnt from pk_sub (a := cnt + 1) (b := 1) (by omega)]
theorem mlearn_new (hW8 : 8 ≤ W) (hW : W ≤ 64) (hH8 : 8 ≤ H) (hH : H ≤ 64) (hB : 4 ≤ B) (hB2 : B ≤ 16) (oM : okP W H Ms) (oA : okP W H Ad) (hN : N = nS ba P 256) (ho : ∀ i, i < N → nb (o i) = i) (hnb : ∀ q, q < N → nb q < N ∧ o (nb q) = q) (e : m.1 90 35 = 1) {c i p : Nat} (hc : c ≤ 256) (e79 : m.1 90 79 = nI c) (hi : i < c) (er : m.1 141 i = nI p) (X : ofI m B P Ms Ad nb) (T : mstM m cnt St) (hp : p < 2 * N) (Xp : ptB m p (PFm W H Ms Ad P B o p)) (no : stNo St cnt (PFm W H Ms Ad P B o p) = -1) (lt : cnt < 7) : ∃ m', xM S mX13_learn [.ref 90, .int (nI i)] (E W H n m) = some (.inl (some (.int (nI cnt))), E W H n m', 0, 0) ∧ mstM m' (cnt + 1) (stA St cnt (PFm W H Ms Ad P B o p)) ∧ m'.1 90 2 = 0 ∧ fr mlP m m' := by
  have N256 : N ≤ 256 := by rw [hN]; exact nS_256 P
  have Q := th_fr (m := m) (v := 0)
  have X1 := ofI_fr X Q (fun a j h => thP_n (by omega))
  have Xp1 := ptB_fr Xp (fun a h1 h2 => fr_i Q a p (thP_n (by omega)))
  have k := stampFor_s (S := S) (n := n) hW8 hW hH8 hH hB hB2 oM oA hN ho hnb X1 (mstM_fr T Q (fun a j h => thP_n (by omega))) hp Xp1
  obtain ⟨t1, c7, t2⟩ := T
  obtain ⟨l, t, r, b, g1, g2, g3, _, _, _, _⟩ := id Xp
  obtain ⟨_, a2, _, a4, _, _⟩ := box_wh g1 g2 g3
  have wk := widthOf_s (S := S) (W := W) (H := H) (n := n) (show p < 512 by omega) Xp1
  generalize hF : PFm W H Ms Ad P B o p = F at *
  -- the two numbers
  have e2 : ∃ m2, m2 = sI (sI m 90 2 0) 112 cnt (nI (wd F)) := ⟨_, rfl⟩
  obtain ⟨m2, e2⟩ := e2
  have Q2 : fr (fun a j => thP a j || a == 112) m m2 := by rw [e2]; exact fr_sI (fr_mono Q (fun a j w => (Bool.or_eq_false_iff.mp w).1)) (by simp)
  have n2 : ∀ {a j : Nat}, a ≠ 112 → (a = 90 → j ≠ 2) → (fun a j => thP a j || a == 112) a j = false := fun h1 h2 => by show (_ || _) = false; rw [thP_n h2, beq_eq_false_iff_ne.mpr h1]; rfl
  have Xp2 := ptB_fr Xp (fun a h1 h2 => fr_i Q2 a p (n2 (by omega) (by omega)))
  have hk := heightOf_s (S := S) (W := W) (H := H) (n := n) (show p < 512 by omega) Xp2
  have e3 : ∃ m3, m3 = sI m2 113 cnt (nI (ht F)) := ⟨_, rfl⟩
  obtain ⟨m3, e3⟩ := e3
  have Q3 : fr (fun a j => thP a j || (a == 112 || a == 113)) m m3 := by
    rw [e3]
    exact fr_sI (fr_mono Q2 (fun a j w => by
      obtain ⟨w1, w2⟩ := Bool.or_eq_false_iff.mp w
      show (_ || _) = false
      rw [w1, (Bool.or_eq_false_iff.mp w2).1]; rfl)) (by simp)
  have n3 : ∀ {a j : Nat}, a ≠ 112 → a ≠ 113 → (a = 90 → j ≠ 2) → (fun a j => thP a j || (a == 112 || a == 113)) a j = false := fun h1 h2 h3 => by show (_ || (_ || _)) = false; rw [thP_n h3, beq_eq_false_iff_ne.mpr h1, beq_eq_false_iff_ne.mpr h2]; rfl
  have s34 : m3.1 90 34 = nI cnt := (fr_i Q3 90 34 (n3 (by omega) (by omega) (by omega))).trans t1
  have lp := mlearn_loop (S := S) (n := n) (m := m3) hW8 hW hH8 hH hB hB2 oM oA hN ho hnb (ofI_fr X Q3 (fun a j h => n3 (by omega) (by omega) (by omega))) hp (by rw [hF]; exact ptB_fr Xp (fun a h1 h2 => fr_i Q3 a p (n3 (by omega) (by omega) (by omega)))) s34 lt
  rw [hF] at lp
  refine ⟨sI (aI m3 111 (fb_put (m3.1 111) (fun k => bz (px (sh F) k)) (4096 * cnt) 4096)) 90 34 (nI (cnt + 1)), ?_, ⟨sI_eq ⟨rfl, rfl⟩, by omega, fun i hi => ?_⟩, ?_, fun a j w => ?_⟩
  · refine mlearn_head e hc e79 (nI i) ?_ rfl
    rw [decide_eq_true (by rw [nI_toInt (by omega)]; omega)]
    refine c_ift (by decide) ?_
    refine c_gr (by omega) (by rfl) (by rfl) (by rfl) ?_
    refine c_ri (i := i) (by omega) (by rfl) (by rfl) (by rfl) (by first | omega | ((conv => rhs; whnf); first | omega | (show _ < OfNat.ofNat (α := Nat) _; omega))) (by first | omega | ((conv => lhs; whnf); first | omega | (show OfNat.ofNat (α := Nat) _ < _; omega))) (by decide) ?_
    rw [sI_ne (by omega), show m.1 (90 + 51) i = nI p from er]
    refine c_ob (by omega) (by rfl) ?_
    refine c_qI k ?_
    rw [no]
    refine c_ift zI_m1 ?_
    refine c_gi (by omega) (by rfl) (by rfl) (by rfl) ?_
    rw [sI_ne (by omega), t1]
    refine c_ift (fun w => by have := (nI_eq (b := 7) (by omega) (by omega)).mp w; omega) ?_
    refine c_gr (by omega) (by rfl) (by rfl) (by rfl) ?_
    refine c_gi (by omega) (by rfl) (by rfl) (by rfl) ?_
    rw [sI_ne (by omega), t1]
    refine c_ob (by omega) (by rfl) ?_
    refine c_qI wk ?_
    refine c_wi (i := cnt) (by omega) (by rfl) (by rfl) rfl (by first | omega | ((conv => rhs; whnf); first | omega | (show _ < OfNat.ofNat (α := Nat) _; omega))) (by first | omega | ((conv => lhs; whnf); first | omega | (show OfNat.ofNat (α := Nat) _ < _; omega))) ?_
    rw [show sI (sI m 90 2 0) (90 + 22) cnt (nI (wd F)) = m2 from e2.symm]
    refine c_gr (by omega) (by rfl) (by rfl) (by rfl) ?_
    refine c_gi (by omega) (by rfl) (by rfl) (by rfl) ?_
    rw [show m2.1 90 34 = nI cnt from (fr_i Q2 90 34 (n2 (by omega) (by omega))).trans t1]
    refine c_ob (by omega) (by rfl) ?_
    refine c_qI hk ?_
    refine c_wi (i := cnt) (by omega) (by rfl) (by rfl) rfl (by first | omega | ((conv => rhs; whnf); first | omega | (show _ < OfNat.ofNat (α := Nat) _; omega))) (by first | omega | ((conv => lhs; whnf); first | omega | (show OfNat.ofNat (α := Nat) _ < _; omega))) ?_
    rw [show sI m2 (90 + 23) cnt (nI (ht F)) = m3 from e3.symm]
    exact lp
  · have q112 : ∀ j, (sI (aI m3 111 (fb_put (m3.1 111) (fun k => bz (px (sh F) k)) (4096 * cnt) 4096)) 90 34 (nI (cnt + 1))).1 112 j = if j = cnt then nI (wd F) else m.1 112 j := fun j => by
      rw [sI_ne (by omega), aI_ne (by omega), e3, sI_ne (by omega), e2]
      by_cases c : j = cnt
      · rw [if_pos c, sI_eq ⟨rfl, c⟩]
      · rw [if_neg c, sI_ne (by omega), sI_ne (by omega)]
    have q113 : ∀ j, (sI (aI m3 111 (fb_put (m3.1 111) (fun k => bz (px (sh F) k)) (4096 * cnt) 4096)) 90 34 (nI (cnt + 1))).1 113 j = if j = cnt then nI (ht F) else m.1 113 j := fun j => by
      rw [sI_ne (by omega), aI_ne (by omega), e3]
      by_cases c : j = cnt
      · rw [if_pos c, sI_eq ⟨rfl, c⟩]
      · rw [if_neg c, sI_ne (by omega), e2, sI_ne (by omega), sI_ne (by omega)]
    rw [q112, q113]
    by_cases ic : i = cnt
    · subst ic
      rw [if_pos rfl, if_pos rfl]
      refine ⟨by unfold stOk; rw [stA_e]; exact ⟨a2, a4, fun y x q => sh_in g1 g2 g3 q⟩, by rw [stA_e], by rw [stA_e], fun k hk => ?_⟩
      rw [stA_e]
      rw [sI_ne (by omega), aI_eq rfl, fb_put_in (by omega) (by omega), show 4096 * i + k - 4096 * i = k by omega]
    · have en : stA St cnt F i = St i := stA_n (by omega)
      rw [if_neg ic, if_neg ic]
      obtain ⟨z1, z2, z3, z4⟩ := t2 i (by omega)
      refine ⟨stOk_c en z1, by rw [en]; exact z2, by rw [en]; exact z3, fun k hk => ?_⟩
      rw [en]
      rw [sI_ne (by omega), aI_eq rfl, fb_put_out (by omega), e3, sI_ne (by omega), e2, sI_ne (by omega), sI_ne (by omega)]
      exact z4 k hk
  · rw [sI_ne (by omega), aI_ne (by omega), e3, sI_ne (by omega), e2, sI_ne (by omega), sI_eq ⟨rfl, rfl⟩]
  · unfold mlP at w
    simp only [Bool.or_eq_false_iff, Bool.and_eq_false_iff, beq_eq_false_iff_ne] at w
    obtain ⟨w1, w2, w3, w4⟩ := w
    have z : ∀ {x : Nat → Nat → Int32}, True := fun {x} => trivial
    refine ⟨?_, by rw [sI_2, aI_2, e3, sI_2, e2, sI_2, sI_2], by rw [sI_2, aI_2, e3, sI_2, e2, sI_2, sI_2]⟩
    rw [sI_ne (by omega), aI_ne (by omega), e3, sI_ne (by omega), e2, sI_ne (by omega), sI_ne (by omega)]
end MLE

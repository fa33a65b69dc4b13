/-! LEARN: a stamp more -/
def tsP (q a j : Nat) : Bool := a == q + 1 || (a == q && (j == 4 || (j == 5 || j == 6)))
def csP (a _j : Nat) : Bool := decide (48 ≤ a) && decide (a ≤ 63)
theorem csP_n {a j : Nat} (h : a < 48 ∨ 63 < a) : csP a j = false := by
  unfold csP
  rcases h with h | h
  · rw [decide_eq_false (show ¬ 48 ≤ a by omega)]; rfl
  · rw [decide_eq_false (show ¬ a ≤ 63 by omega), Bool.and_false]
theorem tsP_n {q a j : Nat} (h : a ≠ q + 1) (h2 : a = q → j < 4 ∨ 6 < j) : tsP q a j = false := by
  unfold tsP
  rw [beq_eq_false_iff_ne.mpr h]
  by_cases e : a = q
  · have := h2 e
    rw [beq_eq_false_iff_ne.mpr (show j ≠ 4 by omega), beq_eq_false_iff_ne.mpr (show j ≠ 5 by omega), beq_eq_false_iff_ne.mpr (show j ≠ 6 by omega)]
    simp
  · rw [beq_eq_false_iff_ne.mpr e]; rfl
theorem va64 (f g : Nat → Int64) {i : Nat} (h : i < 64) : va_cpy f g 0 0 64 i = f i := by
  unfold va_cpy
  rw [if_pos ⟨Nat.zero_le _, by omega⟩, Nat.zero_add, Nat.sub_zero]
noncomputable def stA (St : stT) (cnt : Nat) (F : Nat → Int64) : stT := fun i => if i = cnt then (wd F, ht F, sh F) else St i
theorem stA_n {St : stT} {cnt i : Nat} {F : Nat → Int64} (h : i < cnt) : stA St cnt F i = St i := if_neg (by omega)
theorem stA_e {St : stT} {cnt : Nat} {F : Nat → Int64} : stA St cnt F cnt = (wd F, ht F, sh F) := if_pos rfl
theorem stOk_c {St St' : stT} {i j : Nat} (h : St' j = St i) (o : stOk St i) : stOk St' j := by
  unfold stOk
  rw [h]
  exact o
theorem pshM_fr {m m' : mM} {p w h c : Nat} {R : Nat → Int64} {K : Nat → Nat → Bool} (X : pshM m p w h c R) (Q : fr K m m') (h1 : ∀ j, 4 ≤ j → j ≤ 6 → K p j = false) (h2 : ∀ j, K (p + 1) j = false) : pshM m' p w h c R := by
  obtain ⟨x1, x2, x3, x4⟩ := X
  exact ⟨(fr_i Q _ _ (h1 4 (by omega) (by omega))).trans x1, (fr_i Q _ _ (h1 5 (by omega) (by omega))).trans x2, (fr_i Q _ _ (h1 6 (by omega) (by omega))).trans x3, fun k hk => (fr_l Q _ _ (h2 k)).trans (x4 k hk)⟩
section LE
variable {S : xS} {W H n N : Nat} {m : mM} {B : Nat} {P : Nat → Bool} {Ms Ad : Nat → Int64} {o nb : Nat → Nat} {St : stT} {cnt : Nat} {F : Nat → Int64}
theorem takeShape_s {q p : Nat} (I : ptA q n) (J : ptA p n) {w h c : Nat} {R : Nat → Int64} (X : pshM m p w h c R) : ∃ m', xM S mX5_takeShape [.ref q, .ref p] (E W H n m) = some (.inl none, E W H n m', 0, 0) ∧ pshM m' q w h c R ∧ fr (tsP q) m m' := by
  obtain ⟨x1, x2, x3, x4⟩ := X
  have i2 := I.2.2
  have j2 := J.2.2
  have lq : eL H (q + 1) = 64 := by unfold eL; rw [I.2.1]; rfl
  have lp : eL H (p + 1) = 64 := by unfold eL; rw [J.2.1]; rfl
  refine ⟨aL (sI (sI (sI m q 4 (nI w)) q 5 (nI h)) q 6 (nI c)) (q + 1) (va_cpy (m.2.1 (p + 1)) (m.2.1 (q + 1)) 0 0 64), w_X5_takeShape S _ _ _ _ ?_, ⟨?_, ?_, ?_, fun k hk => ?_⟩, ?_⟩
  · refine c_gi (by omega) J.1 (by rfl) (by rfl) ?_
    rw [x1]
    refine c_pi (by omega) I.1 (by rfl) (by rfl) (xPok_int (by decide) (by rfl)) ?_
    refine c_gi (by omega) J.1 (by rfl) (by rfl) ?_
    rw [sI_ne (by omega), x2]
    refine c_pi (by omega) I.1 (by rfl) (by rfl) (xPok_int (by decide) (by rfl)) ?_
    refine c_gi (by omega) J.1 (by rfl) (by rfl) ?_
    rw [sI_ne (by omega), sI_ne (by omega), x3]
    refine c_pi (by omega) I.1 (by rfl) (by rfl) (xPok_int (by decide) (by rfl)) ?_
    refine c_gr (o := 1) (by omega) J.1 (by rfl) (by rfl) ?_
    refine c_gr (o := 1) (by omega) I.1 (by rfl) (by rfl) ?_
    refine c_cpL (sp := 0) (dp := 0) (q := 64) (by omega) J.2.1 (by omega) I.2.1 rfl rfl rfl (by omega) (by omega) (by omega) (by omega) ?_
    rfl
  · show (sI (sI (sI m q 4 (nI w)) q 5 (nI h)) q 6 (nI c)).1 q 4 = _
    rw [sI_ne (by omega), sI_ne (by omega), sI_eq ⟨rfl, rfl⟩]
  · show (sI (sI (sI m q 4 (nI w)) q 5 (nI h)) q 6 (nI c)).1 q 5 = _
    rw [sI_ne (by omega), sI_eq ⟨rfl, rfl⟩]
  · show (sI (sI (sI m q 4 (nI w)) q 5 (nI h)) q 6 (nI c)).1 q 6 = _
    rw [sI_eq ⟨rfl, rfl⟩]
  · rw [aL_eq rfl, va64 _ _ hk]
    exact x4 k hk
  · exact fr_aL (fr_sI (fr_sI (fr_sI fr_rf (by simp [tsP])) (by simp [tsP])) (by simp [tsP])) (fun y => by simp [tsP])
theorem isFull_s (T : cstM m cnt St) : xM S mX10_isFull [.ref 48] (E W H n m) = some (.inl (some (.int (bz (decide (7 ≤ cnt))))), E W H n m, 0, 0) := by
  have c7 := T.2.1
  refine w_X10_isFull S _ _ _ ?_
  refine c_gi (by omega) (by rfl) (by rfl) (by rfl) ?_
  rw [T.1]
  by_cases c : 7 ≤ cnt
  · rw [decide_eq_true c]
    exact c_iff (fun w => by have := (nI_ltI (b := 7) (by omega) (by omega)).mp w; omega) rfl
  · rw [decide_eq_false c]
    exact c_ift ((nI_ltI (b := 7) (by omega) (by omega)).mpr (by omega)) rfl
theorem zI_m1 : zI (-1) < 0 := by decide
theorem zI_nn {v : Int} (h : 0 ≤ v) (h2 : v ≤ 1000) : ¬ zI v < 0 := fun w => by
  have := (zI_lt (b := 0) (by omega) (by omega) (by omega) (by omega)).mp w
  omega
theorem clearn_known (e : m.1 0 12 = 1) {c i p : Nat} (hc : c ≤ 256) (e19 : m.1 64 19 = nI c) (hi : i < c) (er : m.2.2 71 i = some p) (T : cstM m cnt St) (J : ptA p n) (X : ptX m p F) (ne : ctP F ≠ 0) (y : 0 ≤ stNo St cnt F) : xM S mX12_learn [.ref 0, .int (nI i)] (E W H n m) = some (.inl (some (.int (zI (stNo St cnt F)))), E W H n m, 0, 0) := by
  have c7 := T.2.1
  have rg := stNo_rng St cnt F
  refine w_X12_learn S _ _ _ _ ?_
  refine c_gi (by omega) (by rfl) (by rfl) (by rfl) ?_
  rw [e]
  refine c_ift (by decide) ?_
  refine c_ob (by omega) (by rfl) ?_
  refine c_qR (changeOf_in e hc e19 hi er) ?_
  refine c_gr (by omega) (by rfl) (by rfl) (by rfl) ?_
  refine c_ob (by omega) (by rfl) ?_
  refine c_qI (stampNo_s T J X ne) ?_
  exact c_iff (zI_nn y (by omega)) rfl
theorem clearn_full (e : m.1 0 12 = 1) {c i p : Nat} (hc : c ≤ 256) (e19 : m.1 64 19 = nI c) (hi : i < c) (er : m.2.2 71 i = some p) (T : cstM m cnt St) (J : ptA p n) (X : ptX m p F) (ne : ctP F ≠ 0) (no : stNo St cnt F = -1) (fu : 7 ≤ cnt) : xM S mX12_learn [.ref 0, .int (nI i)] (E W H n m) = some (.inr sIS, E W H n m, 1, 6) := by
  refine w_X12_learn S _ _ _ _ ?_
  refine c_gi (by omega) (by rfl) (by rfl) (by rfl) ?_
  rw [e]
  refine c_ift (by decide) ?_
  refine c_ob (by omega) (by rfl) ?_
  refine c_qR (changeOf_in e hc e19 hi er) ?_
  refine c_gr (by omega) (by rfl) (by rfl) (by rfl) ?_
  refine c_ob (by omega) (by rfl) ?_
  refine c_qI (stampNo_s T J X ne) ?_
  rw [no]
  refine c_ift zI_m1 ?_
  refine c_gr (by omega) (by rfl) (by rfl) (by rfl) ?_
  refine c_ob (by omega) (by rfl) ?_
  refine c_qI (isFull_s T) ?_
  rw [decide_eq_true fu]
  exact c_iff (by decide) rfl
theorem clearn_new (e : m.1 0 12 = 1) {c i p : Nat} (hc : c ≤ 256) (e19 : m.1 64 19 = nI c) (hi : i < c) (er : m.2.2 71 i = some p) (T : cstM m cnt St) (J : ptA p n) (X : ptX m p F) (ne : ctP F ≠ 0) (no : stNo St cnt F = -1) (lt : cnt < 7) : ∃ m', xM S mX12_learn [.ref 0, .int (nI i)] (E W H n m) = some (.inl (some (.int (nI cnt))), E W H n m', 0, 0) ∧ cstM m' (cnt + 1) (stA St cnt F) ∧ fr csP m m' := by
  obtain ⟨Y, l, t, r, b, g1, g2, g3, _, _⟩ := ptX_psh X ne
  obtain ⟨_, a2, _, a4, _, _⟩ := box_wh g1 g2 g3
  have T0 := T
  obtain ⟨t1, c7, kc, t2, t3, t4⟩ := T
  obtain ⟨k7, ek⟩ := t2 cnt lt
  have I := ptA_st n k7
  obtain ⟨m1, k1, k2, k3⟩ := takeShape_s (S := S) (W := W) (H := H) I J Y
  have c1 : m1.1 48 1 = nI cnt := (fr_i k3 48 1 (tsP_n (by omega) (by omega))).trans t1
  have Q : fr (fun a j => tsP (50 + 2 * kc cnt) a j || (a == 48 && j == 1)) m (sI m1 48 1 (nI (cnt + 1))) := fr_sI (fr_mono k3 (fun a j w => (Bool.or_eq_false_iff.mp w).1)) (by simp)
  have Qn : ∀ {a j : Nat}, a ≠ 48 → a ≠ 50 + 2 * kc cnt → a ≠ 50 + 2 * kc cnt + 1 → (tsP (50 + 2 * kc cnt) a j || (a == 48 && j == 1)) = false := fun h1 h2 h3 => by
    rw [tsP_n h3 (fun w => absurd w h2), beq_eq_false_iff_ne.mpr h1]; rfl
  have add : xM S mX10_add [.ref 48, .ref p] (E W H n m) = some (.inl (some (.int (nI cnt))), E W H n (sI m1 48 1 (nI (cnt + 1))), 0, 0) := by
    refine w_X10_add S _ _ _ _ ?_
    refine c_ob (by omega) (by rfl) ?_
    refine c_qI (isFull_s T0) ?_
    rw [decide_eq_false (by omega)]
    refine c_ift rfl ?_
    refine c_gr (by omega) (by rfl) (by rfl) (by rfl) ?_
    refine c_gi (by omega) (by rfl) (by rfl) (by rfl) ?_
    rw [t1]
    refine c_rr (i := cnt) (by omega) (by rfl) (by decide) (by rfl) (by first | omega | ((conv => rhs; whnf); first | omega | (show _ < OfNat.ofNat (α := Nat) _; omega))) (by first | omega | ((conv => lhs; whnf); first | omega | (show OfNat.ofNat (α := Nat) _ < _; omega))) ek ?_
    refine c_ob (by have := I.2.2; omega) I.1 ?_
    refine c_qV k1 ?_
    refine c_gi (by omega) (by rfl) (by rfl) (by rfl) ?_
    rw [c1, nI_suc]
    refine c_pi (by omega) (by rfl) (by rfl) (by rfl) (xPok_int (by decide) (by rfl)) ?_
    refine c_gi (by omega) (by rfl) (by rfl) (by rfl) ?_
    rw [sI_eq ⟨rfl, rfl⟩, show nI (cnt + 1) - (1 : Int32) = nI cnt from pk_sub (a := cnt + 1) (b := 1) (by omega)]
  refine ⟨sI m1 48 1 (nI (cnt + 1)), w_X12_learn S _ _ _ _ ?_, ⟨sI_eq ⟨rfl, rfl⟩, by omega, kc, fun i hi => ⟨(t2 i hi).1, (fr_r Q 49 i (Qn (by omega) (by omega) (by omega))).trans (t2 i hi).2⟩, t3, fun i hi => ?_⟩, fun a j w => ?_⟩
  · refine c_gi (by omega) (by rfl) (by rfl) (by rfl) ?_
    rw [e]
    refine c_ift (by decide) ?_
    refine c_ob (by omega) (by rfl) ?_
    refine c_qR (changeOf_in e hc e19 hi er) ?_
    refine c_gr (by omega) (by rfl) (by rfl) (by rfl) ?_
    refine c_ob (by omega) (by rfl) ?_
    refine c_qI (stampNo_s T0 J X ne) ?_
    rw [no]
    refine c_ift zI_m1 ?_
    refine c_gr (by omega) (by rfl) (by rfl) (by rfl) ?_
    refine c_ob (by omega) (by rfl) ?_
    refine c_qI (isFull_s T0) ?_
    rw [decide_eq_false (by omega)]
    refine c_ift rfl ?_
    refine c_gr (by omega) (by rfl) (by rfl) (by rfl) ?_
    refine c_ob (by omega) (by rfl) ?_
    exact c_qI add rfl
  · by_cases ic : i = cnt
    · subst ic
      refine ⟨by unfold stOk; rw [stA_e]; exact ⟨a2, a4, fun y x q => sh_in g1 g2 g3 q⟩, ?_⟩
      rw [stA_e]
      show pshM _ _ (wd F) (ht F) (ctP (sh F)) (sh F)
      rw [ctP_sh g1 g2 g3]
      exact pshM_fr k2 (fr_sI (P := fun a _ => a == 48) fr_rf (by rfl)) (fun j _ _ => beq_eq_false_iff_ne.mpr (by omega)) (fun j => beq_eq_false_iff_ne.mpr (by omega))
    · have il : i < cnt := by omega
      obtain ⟨z1, z2⟩ := t4 i il
      have d := t3 i cnt il lt
      refine ⟨stOk_c (stA_n il) z1, ?_⟩
      rw [stA_n il]
      refine (pshM_fr z2 Q (fun j _ _ => Qn (by omega) (by omega) (by omega)) (fun j => Qn (by omega) (by omega) (by omega)))
  · have d : a < 48 ∨ 63 < a := by
      unfold csP at w
      rcases Bool.and_eq_false_iff.mp w with w | w
      · have := of_decide_eq_false w; omega
      · have := of_decide_eq_false w; omega
    exact Q a j (Qn (by omega) (by omega) (by omega))
theorem clearn_out (e : m.1 0 12 = 1) {c : Nat} (hc : c ≤ 256) (ef : m.1 64 19 = nI c) {x : Int32} (h : ¬ (0 ≤ x.toInt ∧ x.toInt < c)) : xM S mX12_learn [.ref 0, .int x] (E W H n m) = some (.inr sIO, E W H n m, 1, 6) := by
  refine w_X12_learn S _ _ _ _ ?_
  refine c_gi (by omega) (by rfl) (by rfl) (by rfl) ?_
  rw [e]
  refine c_ift (by decide) ?_
  refine c_ob (by omega) (by rfl) ?_
  rw [changeOf_out e hc ef h]
  rfl
theorem clearn_no (e : m.1 0 12 = 0) (x : Int32) : xM S mX12_learn [.ref 0, .int x] (E W H n m) = some (.inr sIO, E W H n m, 1, 6) := by
  refine w_X12_learn S _ _ _ _ ?_
  refine c_gi (by omega) (by rfl) (by rfl) (by rfl) ?_
  rw [e]
  exact c_iff (fun w => w rfl) rfl
end LE

/-! FORGETSTAMP -/
def stD (St : stT) (i : Nat) : stT := fun k => if i ≤ k then St (k + 1) else St k
def sgF (i cnt j : Nat) : Nat := if i ≤ j ∧ j + 1 < cnt then j + 1 else if j + 1 = cnt then i else j
def sgK (i k j : Nat) : Nat := if i ≤ j ∧ j < k then j + 1 else j
theorem sgF_lt {i cnt j : Nat} (hi : i < cnt) (hc : cnt ≤ 7) (hj : j < 7) : sgF i cnt j < 7 := by
  unfold sgF
  by_cases c : i ≤ j ∧ j + 1 < cnt
  · rw [if_pos c]; omega
  · rw [if_neg c]
    by_cases d : j + 1 = cnt
    · rw [if_pos d]; omega
    · rw [if_neg d]; exact hj
theorem sgF_ne {i cnt a b : Nat} (hi : i < cnt) (h : a < b) : sgF i cnt a ≠ sgF i cnt b := by
  unfold sgF
  by_cases c : i ≤ a ∧ a + 1 < cnt
  · rw [if_pos c]
    by_cases c2 : i ≤ b ∧ b + 1 < cnt
    · rw [if_pos c2]; omega
    · rw [if_neg c2]
      by_cases d : b + 1 = cnt
      · rw [if_pos d]; omega
      · rw [if_neg d]; omega
  · rw [if_neg c]
    by_cases d : a + 1 = cnt
    · rw [if_pos d]
      rw [if_neg (show ¬ (i ≤ b ∧ b + 1 < cnt) by omega), if_neg (show ¬ b + 1 = cnt by omega)]
      omega
    · rw [if_neg d]
      by_cases c2 : i ≤ b ∧ b + 1 < cnt
      · rw [if_pos c2]; omega
      · rw [if_neg c2]
        by_cases d2 : b + 1 = cnt
        · rw [if_pos d2]; omega
        · rw [if_neg d2]; omega
def fgP (a j : Nat) : Bool := a == 49 || (a == 48 && j == 1)
theorem fgP_n {a j : Nat} (h : a ≠ 49) (h2 : a = 48 → j ≠ 1) : fgP a j = false := by
  unfold fgP
  rw [beq_eq_false_iff_ne.mpr h]
  by_cases e : a = 48
  · rw [beq_eq_false_iff_ne.mpr (h2 e), Bool.and_false]; rfl
  · rw [beq_eq_false_iff_ne.mpr e]; rfl
section FG
variable {S : xS} {W H n : Nat} {m : mM} {St : stT} {cnt : Nat}
theorem drop_s {kc : Nat → Nat} (t1 : m.1 48 1 = nI cnt) (c7 : cnt ≤ 7) (t2 : ∀ j, j < 7 → kc j < 7 ∧ m.2.2 49 j = some (50 + 2 * kc j)) {i : Nat} (hi : i < cnt) : ∃ m', xM S mX10_drop [.ref 48, .int (nI i)] (E W H n m) = some (.inl (some (.int (nI (cnt - 1)))), E W H n m', 0, 0) ∧ m'.1 48 1 = nI (cnt - 1) ∧ (∀ j, j < 7 → m'.2.2 49 j = some (50 + 2 * kc (sgF i cnt j))) ∧ fr fgP m m' := by
  have a49 : ∀ {a : Nat}, a ≠ 49 → (a == 49) = false := fun h => beq_eq_false_iff_ne.mpr h
  have L := x_sg (σ := mM) (τ := mM) (D := fun t s => xden S mX10_drop 21 [(0, .ref 48), (2, .ref (50 + 2 * kc i)), (3, .int (nI (i + t)))] [] (E W H n s)) (Inv := fun t s => (∀ j, j < 7 → s.2.2 49 j = some (50 + 2 * kc (sgK i (i + t) j))) ∧ fr (fun a _ => a == 49) m s)
    (F := fun s => some (.inl (some (.int (nI (cnt - 1)))), E W H n s, 0, 0)) (Post := fun s => s.1 48 1 = nI (cnt - 1) ∧ (∀ j, j < 7 → s.2.2 49 j = some (50 + 2 * kc (sgF i cnt j))) ∧ fr fgP m s) (cnt - 1 - i) (fun t ht s hs => Or.inl ?_) (fun s hs => ?_) m ⟨fun j hj => by rw [(t2 j hj).2, show sgK i (i + 0) j = j from if_neg (by omega)], fr_rf⟩
  · obtain ⟨m', k1, k2⟩ := L
    refine ⟨m', w_X10_drop S _ _ _ _ ?_, k1⟩
    refine c_iff (nI_pos (by omega)) ?_
    refine c_gi (by omega) (by rfl) (by rfl) (by rfl) ?_
    rw [t1]
    refine c_iff (fun w => by have := (nI_leI (by omega) (by omega)).mp w; omega) ?_
    refine c_gr (by omega) (by rfl) (by rfl) (by rfl) ?_
    refine c_rr (i := i) (by omega) (by rfl) (by decide) (by rfl) (by first | omega | ((conv => rhs; whnf); first | omega | (show _ < OfNat.ofNat (α := Nat) _; omega))) (by first | omega | ((conv => lhs; whnf); first | omega | (show OfNat.ofNat (α := Nat) _ < _; omega))) (t2 i (by omega)).2 ?_
    exact k2 _ rfl
  · obtain ⟨h1, h2⟩ := hs
    refine ⟨sR s 49 (i + t) (some (50 + 2 * kc (i + t + 1))), ⟨fun j hj => ?_, fr_sR h2 (by rfl)⟩, fun oo ho => w_X10_drop_21 S _ _ _ _ _ ?_⟩
    · by_cases c : j = i + t
      · rw [sR_eq ⟨rfl, c⟩, c, show sgK i (i + (t + 1)) (i + t) = i + t + 1 from if_pos (by omega)]
      · rw [sR_ne (by omega), h1 j hj]
        unfold sgK
        by_cases d : i ≤ j ∧ j < i + t
        · rw [if_pos d, if_pos (by omega)]
        · rw [if_neg d, if_neg (by omega)]
    · have er : s.2.2 49 (i + t + 1) = some (50 + 2 * kc (i + t + 1)) := by rw [h1 _ (by omega), show sgK i (i + t) (i + t + 1) = i + t + 1 from if_neg (by omega)]
      have kk := (t2 (i + t + 1) (by omega)).1
      refine c_gi (by omega) (by rfl) (by rfl) (by rfl) ?_
      rw [fr_i h2 48 1 (a49 (by omega)), t1, nI_suc]
      refine c_iff (fun w => by have := (nI_leI (by omega) (by omega)).mp w; omega) ?_
      refine c_gr (by omega) (by rfl) (by rfl) (by rfl) ?_
      refine c_gr (by omega) (by rfl) (by rfl) (by rfl) ?_
      refine c_rr (i := i + t + 1) (by omega) (by rfl) (by decide) (by rfl) (by first | omega | ((conv => rhs; whnf); first | omega | (show _ < OfNat.ofNat (α := Nat) _; omega))) (by first | omega | ((conv => lhs; whnf); first | omega | (show OfNat.ofNat (α := Nat) _ < _; omega))) er ?_
      refine c_wr (i := i + t) (ci := 5) (by omega) (by rfl) (by decide) (by rfl) rfl (by first | omega | ((conv => rhs; whnf); first | omega | (show _ < OfNat.ofNat (α := Nat) _; omega))) (by first | omega | ((conv => lhs; whnf); first | omega | (show OfNat.ofNat (α := Nat) _ < _; omega))) (by omega) (ptA_st n kk).1 (by rfl) ?_
      refine c_let ?_
      exact ho
  · obtain ⟨h1, h2⟩ := hs
    have kk := (t2 i (by omega)).1
    have it : i + (cnt - 1 - i) = cnt - 1 := by omega
    refine ⟨sR (sI s 48 1 (nI (cnt - 1))) 49 (cnt - 1) (some (50 + 2 * kc i)), ⟨?_, fun j hj => ?_, fr_sR (fr_sI (fr_mono h2 (fun a j w => (Bool.or_eq_false_iff.mp w).1)) (by rfl)) (by rfl)⟩, fun oo ho => w_X10_drop_21 S _ _ _ _ _ ?_⟩
    · rw [sR_1, sI_eq ⟨rfl, rfl⟩]
    · by_cases c : j + 1 = cnt
      · rw [sR_eq ⟨rfl, by omega⟩, show sgF i cnt j = i by unfold sgF; rw [if_neg (by omega), if_pos c]]
      · rw [sR_ne (by omega)]
        show s.2.2 49 j = _
        rw [h1 j hj, it]
        unfold sgK sgF
        by_cases d : i ≤ j ∧ j < cnt - 1
        · rw [if_pos d, if_pos (by omega)]
        · rw [if_neg d, if_neg (by omega), if_neg c]
    · refine c_gi (by omega) (by rfl) (by rfl) (by rfl) ?_
      rw [fr_i h2 48 1 (a49 (by omega)), t1, nI_suc]
      refine c_ift ((nI_leI (by omega) (by omega)).mpr (by omega)) ?_
      refine c_gi (by omega) (by rfl) (by rfl) (by rfl) ?_
      rw [fr_i h2 48 1 (a49 (by omega)), t1, show nI cnt - (1 : Int32) = nI (cnt - 1) from pk_sub (a := cnt) (b := 1) (by omega)]
      refine c_pi (by omega) (by rfl) (by rfl) (by rfl) (xPok_int (by decide) (by rfl)) ?_
      refine c_gr (by omega) (by rfl) (by rfl) (by rfl) ?_
      refine c_gi (by omega) (by rfl) (by rfl) (by rfl) ?_
      rw [sI_eq ⟨rfl, rfl⟩]
      refine c_wr (i := cnt - 1) (ci := 5) (by omega) (by rfl) (by decide) (by rfl) rfl (by first | omega | ((conv => rhs; whnf); first | omega | (show _ < OfNat.ofNat (α := Nat) _; omega))) (by first | omega | ((conv => lhs; whnf); first | omega | (show OfNat.ofNat (α := Nat) _ < _; omega))) (by omega) (ptA_st n kk).1 (by rfl) ?_
      refine c_gi (by omega) (by rfl) (by rfl) (by rfl) ?_
      rw [sR_1, sI_eq ⟨rfl, rfl⟩]
      exact ho
theorem cforget_in (T : cstM m cnt St) {i : Nat} (hi : i < cnt) : ∃ m', xM S mX12_forgetStamp [.ref 0, .int (nI i)] (E W H n m) = some (.inl (some (.int (nI (cnt - 1)))), E W H n m', 0, 0) ∧ cstM m' (cnt - 1) (stD St i) ∧ fr fgP m m' := by
  obtain ⟨t1, c7, kc, t2, t3, t4⟩ := T
  obtain ⟨m', k1, k2, k3, k4⟩ := drop_s (S := S) (W := W) (H := H) (n := n) t1 c7 t2 hi
  have inj : ∀ a b, a < 7 → b < 7 → a ≠ b → kc a ≠ kc b := fun a b ha hb ne => by
    rcases Nat.lt_or_ge a b with h | h
    · exact t3 a b h hb
    · exact fun q => t3 b a (by omega) ha q.symm
  refine ⟨m', w_X12_forgetStamp S _ _ _ _ ?_, ⟨k2, by omega, fun j => kc (sgF i cnt j), fun j hj => ⟨(t2 _ (sgF_lt hi c7 hj)).1, k3 j hj⟩, fun a b h hb => inj _ _ (sgF_lt hi c7 (by omega)) (sgF_lt hi c7 hb) (sgF_ne hi h), fun j hj => ?_⟩, k4⟩
  · refine c_iff (nI_pos (by omega)) ?_
    refine c_gr (by omega) (by rfl) (by rfl) (by rfl) ?_
    refine c_gi (by omega) (by rfl) (by rfl) (by rfl) ?_
    rw [show m.1 (0 + 48) 1 = nI cnt from t1]
    refine c_ift ((nI_ltI (by omega) (by omega)).mpr hi) ?_
    refine c_gr (by omega) (by rfl) (by rfl) (by rfl) ?_
    refine c_ob (by omega) (by rfl) ?_
    exact c_qI k1 rfl
  · have e : sgF i cnt j = if i ≤ j then j + 1 else j := by
      unfold sgF
      by_cases c : i ≤ j
      · rw [if_pos (by omega), if_pos c]
      · rw [if_neg (by omega), if_neg (by omega), if_neg c]
    have e2 : stD St i j = St (sgF i cnt j) := by
      rw [e]
      unfold stD
      by_cases c : i ≤ j
      · rw [if_pos c, if_pos c]
      · rw [if_neg c, if_neg c]
    have lt : sgF i cnt j < cnt := by
      rw [e]
      by_cases c : i ≤ j
      · rw [if_pos c]; omega
      · rw [if_neg c]; omega
    obtain ⟨z1, z2⟩ := t4 _ lt
    have kk := (t2 (sgF i cnt j) (by omega)).1
    refine ⟨stOk_c e2 z1, ?_⟩
    rw [e2]
    exact (pshM_fr z2 k4 (fun j _ _ => fgP_n (by omega) (by omega)) (fun j => fgP_n (by omega) (by omega)))
theorem cforget_out (T : cstM m cnt St) {x : Int32} (h : ¬ (0 ≤ x.toInt ∧ x.toInt < cnt)) : xM S mX12_forgetStamp [.ref 0, .int x] (E W H n m) = some (.inr sIO, E W H n m, 1, 6) := by
  obtain ⟨t1, c7, _⟩ := T
  refine w_X12_forgetStamp S _ _ _ _ ?_
  by_cases a1 : x.toInt < 0
  · exact c_ift ((i_lt0 x).mpr a1) rfl
  refine c_iff (fun w => a1 ((i_lt0 x).mp w)) ?_
  refine c_gr (by omega) (by rfl) (by rfl) (by rfl) ?_
  refine c_gi (by omega) (by rfl) (by rfl) (by rfl) ?_
  rw [show m.1 (0 + 48) 1 = nI cnt from t1]
  exact c_iff (fun w => by rw [fa_lt, nI_toInt (by omega)] at w; omega) rfl
-- the model
theorem mforget_copy {q : Nat} (hq : q + 1 < 7) (h01 : ∀ k, k < 4096 → m.1 111 (4096 * (q + 1) + k) = 0 ∨ m.1 111 (4096 * (q + 1) + k) = 1) {R : xO} (K : xden S mX13_forgetStamp 39 [(0, .ref 90), (2, .int (nI (q + 1)))] [] (E W H n (aI m 111 (fb_put (m.1 111) (fun k => m.1 111 (4096 * (q + 1) + k)) (4096 * q) 4096))) = some R) : xden S mX13_forgetStamp 77 [(0, .ref 90), (2, .int (nI q)), (3, .int (nI 0))] [] (E W H n m) = some R := by
  generalize hg : (fun k => m.1 111 (4096 * (q + 1) + k)) = g at K
  have gv : ∀ k, g k = m.1 111 (4096 * (q + 1) + k) := fun k => by rw [← hg]
  refine x_fo 4096 (fun k s => xden S mX13_forgetStamp 77 [(0, .ref 90), (2, .int (nI q)), (3, .int (nI k))] [] (E W H n s)) (fun k => aI m 111 (fb_put (m.1 111) g (4096 * q) k)) (by rw [fb_put_0]; exact aI_self m 111 rfl) (fun k hk K => ?_) ?_
  · refine w_X13_forgetStamp_77 S _ _ _ _ _ ?_
    refine c_iff (fun w => by have := (nI_leI (a := 4096) (by omega) (by omega)).mp w; omega) ?_
    refine c_gr (by omega) (by rfl) (by rfl) (by rfl) ?_
    refine c_gr (by omega) (by rfl) (by rfl) (by rfl) ?_
    rw [nI_suc, show (4096 : Int32) * nI (q + 1) = nI (4096 * (q + 1)) from pk_mul 4096 (q + 1), nI_add, show (4096 : Int32) * nI q = nI (4096 * q) from pk_mul 4096 q, nI_add]
    refine c_ri (i := 4096 * (q + 1) + k) (by omega) (by rfl) (by rfl) (by rfl) (by first | omega | ((conv => rhs; whnf); first | omega | (show _ < OfNat.ofNat (α := Nat) _; omega))) (by first | omega | ((conv => lhs; whnf); first | omega | (show OfNat.ofNat (α := Nat) _ < _; omega))) (by decide) ?_
    rw [show (aI m 111 (fb_put (m.1 111) g (4096 * q) k)).1 (90 + 21) (4096 * (q + 1) + k) = g k from by rw [aI_eq rfl, fb_put_out (by omega), gv]]
    refine c_wz (i := 4096 * q + k) (by omega) (by rfl) (by rfl) rfl (by first | omega | ((conv => rhs; whnf); first | omega | (show _ < OfNat.ofNat (α := Nat) _; omega))) (by first | omega | ((conv => lhs; whnf); first | omega | (show OfNat.ofNat (α := Nat) _ < _; omega))) (by rw [gv]; exact h01 k hk) ?_
    refine c_let ?_
    rw [nI_suc, show sI (aI m 111 (fb_put (m.1 111) g (4096 * q) k)) (90 + 21) (4096 * q + k) (g k) = aI m 111 (fb_put (m.1 111) g (4096 * q) (k + 1)) from sI_put m 111 (4096 * q) k (m.1 111) g]
    exact K
  · refine w_X13_forgetStamp_77 S _ _ _ _ _ ?_
    refine c_ift (by decide) ?_
    refine c_let ?_
    rw [nI_suc]
    exact K
def mfI (m s : mM) (i cnt t : Nat) : Prop := s.1 90 34 = nI (cnt - 1) ∧ s.1 90 2 = 0 ∧ (∀ j, j < 7 → s.1 112 j = m.1 112 (sgK i (i + t) j) ∧ s.1 113 j = m.1 113 (sgK i (i + t) j)) ∧ (∀ j k, j < 7 → k < 4096 → s.1 111 (4096 * j + k) = m.1 111 (4096 * sgK i (i + t) j + k)) ∧ fr mlP m s
theorem mforget_loop (T : mstM m cnt St) {i : Nat} (hi : i < cnt) {s0 : mM} (I0 : mfI m s0 i cnt 0) : ∃ m', xden S mX13_forgetStamp 39 [(0, .ref 90), (2, .int (nI i))] [] (E W H n s0) = some (.inl (some (.int (nI (cnt - 1)))), E W H n m', 0, 0) ∧ mfI m m' i cnt (cnt - 1 - i) := by
  obtain ⟨t1, c7, t2⟩ := T
  have L := x_sg (σ := mM) (τ := mM) (D := fun t s => xden S mX13_forgetStamp 39 [(0, .ref 90), (2, .int (nI (i + t)))] [] (E W H n s)) (Inv := fun t s => mfI m s i cnt t)
    (F := fun s => some (.inl (some (.int (nI (cnt - 1)))), E W H n s, 0, 0)) (Post := fun s => mfI m s i cnt (cnt - 1 - i)) (cnt - 1 - i) (fun t ht s hs => Or.inl ?_) (fun s hs => ⟨s, hs, fun oo ho => w_X13_forgetStamp_39 S _ _ _ _ ?_⟩) s0 I0
  · obtain ⟨m', k1, k2⟩ := L
    exact ⟨m', k2 _ rfl, k1⟩
  · obtain ⟨h1, h2, h3, h4, h5⟩ := hs
    generalize hq : i + t = q at *
    have qc : q + 1 < cnt := by omega
    have k1 : sgK i q (q + 1) = q + 1 := if_neg (by omega)
    have v2 : s.1 112 (q + 1) = m.1 112 (q + 1) := by rw [(h3 (q + 1) (by omega)).1, k1]
    have v3 : s.1 113 (q + 1) = m.1 113 (q + 1) := by rw [(h3 (q + 1) (by omega)).2, k1]
    have v1 : ∀ k, k < 4096 → s.1 111 (4096 * (q + 1) + k) = m.1 111 (4096 * (q + 1) + k) := fun k hk => by rw [h4 (q + 1) k (by omega) hk, k1]
    obtain ⟨s1, e1⟩ : ∃ s1, s1 = sI s 112 q (m.1 112 (q + 1)) := ⟨_, rfl⟩
    obtain ⟨s2, e2⟩ : ∃ s2, s2 = sI s1 113 q (m.1 113 (q + 1)) := ⟨_, rfl⟩
    have c111 : s2.1 111 = s.1 111 := by rw [e2, e1]; funext k; rw [sI_ne (by omega), sI_ne (by omega)]
    obtain ⟨s3, e3⟩ : ∃ s3, s3 = aI s2 111 (fb_put (s2.1 111) (fun k => s2.1 111 (4096 * (q + 1) + k)) (4096 * q) 4096) := ⟨_, rfl⟩
    have sg : ∀ j, sgK i (q + 1) j = if j = q then q + 1 else sgK i q j := fun j => by
      unfold sgK
      by_cases c : j = q
      · rw [if_pos c, if_pos (by omega), c]
      · rw [if_neg c]
        by_cases d : i ≤ j ∧ j < q
        · rw [if_pos d, if_pos (by omega)]
        · rw [if_neg d, if_neg (by omega)]
    refine ⟨s3, ⟨?_, ?_, fun j hj => ⟨?_, ?_⟩, fun j k hj hk => ?_, ?_⟩, fun oo ho => w_X13_forgetStamp_39 S _ _ _ _ ?_⟩
    · rw [e3, aI_ne (by omega), e2, sI_ne (by omega), e1, sI_ne (by omega)]; exact h1
    · rw [e3, aI_ne (by omega), e2, sI_ne (by omega), e1, sI_ne (by omega)]; exact h2
    · rw [show i + (t + 1) = q + 1 by omega, sg, e3, aI_ne (by omega), e2, sI_ne (by omega), e1]
      by_cases c : j = q
      · rw [if_pos c, sI_eq ⟨rfl, c⟩]
      · rw [if_neg c, sI_ne (by omega)]; exact (h3 j hj).1
    · rw [show i + (t + 1) = q + 1 by omega, sg, e3, aI_ne (by omega), e2]
      by_cases c : j = q
      · rw [if_pos c, sI_eq ⟨rfl, c⟩]
      · rw [if_neg c, sI_ne (by omega), e1, sI_ne (by omega)]; exact (h3 j hj).2
    · rw [show i + (t + 1) = q + 1 by omega, sg, e3, aI_eq rfl, c111]
      by_cases c : j = q
      · rw [if_pos c, c, fb_put_in (by omega) (by omega), show 4096 * q + k - 4096 * q = k by omega]
        exact v1 k hk
      · rw [if_neg c, fb_put_out (by omega)]; exact h4 j k hj hk
    · rw [e3]
      refine fr_aI ?_ (fun _ => rfl)
      rw [e2]
      refine fr_sI ?_ (by rfl)
      rw [e1]
      exact fr_sI h5 (by rfl)
    · refine c_gi (by omega) (by rfl) (by rfl) (by rfl) ?_
      rw [h1]
      refine c_iff (fun w => by have := (nI_leI (by omega) (by omega)).mp w; omega) ?_
      refine c_gr (by omega) (by rfl) (by rfl) (by rfl) ?_
      refine c_gr (by omega) (by rfl) (by rfl) (by rfl) ?_
      rw [nI_suc]
      refine c_ri (i := q + 1) (by omega) (by rfl) (by rfl) (by rfl) (by first | omega | ((conv => rhs; whnf); first | omega | (show _ < OfNat.ofNat (α := Nat) _; omega))) (by first | omega | ((conv => lhs; whnf); first | omega | (show OfNat.ofNat (α := Nat) _ < _; omega))) (by decide) ?_
      rw [show s.1 (90 + 22) (q + 1) = m.1 112 (q + 1) from v2]
      refine c_wi (i := q) (by omega) (by rfl) (by rfl) rfl (by first | omega | ((conv => rhs; whnf); first | omega | (show _ < OfNat.ofNat (α := Nat) _; omega))) (by first | omega | ((conv => lhs; whnf); first | omega | (show OfNat.ofNat (α := Nat) _ < _; omega))) ?_
      rw [show sI s (90 + 22) q (m.1 112 (q + 1)) = s1 from e1.symm]
      refine c_gr (by omega) (by rfl) (by rfl) (by rfl) ?_
      refine c_gr (by omega) (by rfl) (by rfl) (by rfl) ?_
      refine c_ri (i := q + 1) (by omega) (by rfl) (by rfl) (by rfl) (by first | omega | ((conv => rhs; whnf); first | omega | (show _ < OfNat.ofNat (α := Nat) _; omega))) (by first | omega | ((conv => lhs; whnf); first | omega | (show OfNat.ofNat (α := Nat) _ < _; omega))) (by decide) ?_
      rw [show s1.1 (90 + 23) (q + 1) = m.1 113 (q + 1) from by rw [e1, sI_ne (by omega)]; exact v3]
      refine c_wi (i := q) (by omega) (by rfl) (by rfl) rfl (by first | omega | ((conv => rhs; whnf); first | omega | (show _ < OfNat.ofNat (α := Nat) _; omega))) (by first | omega | ((conv => lhs; whnf); first | omega | (show OfNat.ofNat (α := Nat) _ < _; omega))) ?_
      rw [show sI s1 (90 + 23) q (m.1 113 (q + 1)) = s2 from e2.symm]
      refine mforget_copy (by omega) (fun k hk => ?_) ?_
      · rw [c111, v1 k hk, (t2 (q + 1) qc).2.2.2 k hk]
        exact bz_01 _
      · rw [← e3]
        rw [show i + (t + 1) = q + 1 by omega] at ho
        exact ho
  · refine c_gi (by omega) (by rfl) (by rfl) (by rfl) ?_
    rw [hs.1]
    refine c_ift ((nI_leI (by omega) (by omega)).mpr (by omega)) ?_
    refine c_gi (by omega) (by rfl) (by rfl) (by rfl) ?_
    rw [hs.1]
    exact ho
theorem mforget_in (T : mstM m cnt St) {i : Nat} (hi : i < cnt) : ∃ m', xM S mX13_forgetStamp [.ref 90, .int (nI i)] (E W H n m) = some (.inl (some (.int (nI (cnt - 1)))), E W H n m', 0, 0) ∧ mstM m' (cnt - 1) (stD St i) ∧ m'.1 90 2 = 0 ∧ fr mlP m m' := by
  have T0 := T
  obtain ⟨t1, c7, t2⟩ := T
  have i1 := in_s S (E W H n (sI m 90 2 0)) (nI i).toInt64 0 (nI cnt - (1 : Int32)).toInt64
  rw [Int32.toInt_toInt64, Int32.toInt_toInt64, show nI cnt - (1 : Int32) = nI (cnt - 1) from pk_sub (a := cnt) (b := 1) (by omega), nI_toInt (by omega), nI_toInt (by omega), show (0 : Int64).toInt = 0 from rfl, decide_eq_true (by omega)] at i1
  have I0 : mfI m (sI (sI m 90 2 0) 90 34 (nI (cnt - 1))) i cnt 0 := by
    have k0 : ∀ j, sgK i (i + 0) j = j := fun j => if_neg (by omega)
    refine ⟨sI_eq ⟨rfl, rfl⟩, by rw [sI_ne (by omega), sI_eq ⟨rfl, rfl⟩], fun j hj => ⟨?_, ?_⟩, fun j k hj hk => ?_, fr_sI (fr_sI fr_rf (by rfl)) (by rfl)⟩
    · rw [k0, sI_ne (by omega), sI_ne (by omega)]
    · rw [k0, sI_ne (by omega), sI_ne (by omega)]
    · rw [k0, sI_ne (by omega), sI_ne (by omega)]
  obtain ⟨m', k1, h1, h2, h3, h4, h5⟩ := mforget_loop (S := S) (W := W) (H := H) (n := n) T0 hi I0
  refine ⟨m', w_X13_forgetStamp S _ _ _ _ ?_, ⟨h1, by omega, fun j hj => ?_⟩, h2, h5⟩
  · refine c_pi (by omega) (by rfl) (by rfl) (by rfl) (xPok_int (by decide) (by rfl)) ?_
    refine c_gi (by omega) (by rfl) (by rfl) (by rfl) ?_
    rw [sI_ne (by omega), t1, show nI cnt - (1 : Int32) = nI (cnt - 1) from pk_sub (a := cnt) (b := 1) (by omega)]
    refine c_qI i1 ?_
    refine c_ift (by decide) ?_
    refine c_gi (by omega) (by rfl) (by rfl) (by rfl) ?_
    rw [sI_ne (by omega), t1, show nI cnt - (1 : Int32) = nI (cnt - 1) from pk_sub (a := cnt) (b := 1) (by omega)]
    refine c_pi (by omega) (by rfl) (by rfl) (by rfl) (xPok_int (by decide) (by rfl)) ?_
    exact k1
  · have e : sgK i (i + (cnt - 1 - i)) j = if i ≤ j then j + 1 else j := by
      unfold sgK
      by_cases c : i ≤ j
      · rw [if_pos (by omega), if_pos c]
      · rw [if_neg (by omega), if_neg c]
    have e2 : stD St i j = St (sgK i (i + (cnt - 1 - i)) j) := by
      rw [e]
      unfold stD
      by_cases c : i ≤ j
      · rw [if_pos c, if_pos c]
      · rw [if_neg c, if_neg c]
    have lt : sgK i (i + (cnt - 1 - i)) j < cnt := by
      rw [e]
      by_cases c : i ≤ j
      · rw [if_pos c]; omega
      · rw [if_neg c]; omega
    obtain ⟨z1, z2, z3, z4⟩ := t2 _ lt
    exact ⟨stOk_c e2 z1, by rw [e2]; exact (h3 j (by omega)).1.trans z2, by rw [e2]; exact (h3 j (by omega)).2.trans z3, fun k hk => by rw [e2]; exact (h4 j k (by omega) hk).trans (z4 k hk)⟩
theorem mforget_out (T : mstM m cnt St) {x : Int32} (h : ¬ (0 ≤ x.toInt ∧ x.toInt < cnt)) : xM S mX13_forgetStamp [.ref 90, .int x] (E W H n m) = some (.inl (some (.int 0)), E W H n (sI m 90 2 1), 0, 0) := by
  obtain ⟨t1, c7, _⟩ := T
  have sb : (nI cnt - (1 : Int32)).toInt = (cnt : Int) - 1 := by
    rw [← zI_n (by omega), show (1 : Int32) = zI 1 from rfl, zI_sub (by omega) (by omega) (by omega) (by omega), zI_t (by omega) (by omega)]
  have i1 := in_s S (E W H n (sI m 90 2 0)) x.toInt64 0 (nI cnt - (1 : Int32)).toInt64
  rw [Int32.toInt_toInt64, Int32.toInt_toInt64, sb, show (0 : Int64).toInt = 0 from rfl, decide_eq_false (by omega)] at i1
  have f := fails_s (S := S) (W := W) (H := H) (n := n) (m := sI m 90 2 0) 1
  rw [sI_sI] at f
  refine w_X13_forgetStamp S _ _ _ _ ?_
  refine c_pi (by omega) (by rfl) (by rfl) (by rfl) (xPok_int (by decide) (by rfl)) ?_
  refine c_gi (by omega) (by rfl) (by rfl) (by rfl) ?_
  rw [sI_ne (by omega), t1]
  refine c_qI i1 ?_
  refine c_iff (fun w => w rfl) ?_
  refine c_ob (by omega) (by rfl) ?_
  exact c_qI f rfl
end FG

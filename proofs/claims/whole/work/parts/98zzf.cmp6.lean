/-! COMPARE: the class -/
def imgC (m : mM) (W H : Nat) : Prop := okP W H (m.2.1 47) ∧ okP W H (m.2.1 73) ∧ okP W H (m.2.1 75) ∧ okP W H (m.2.1 77) ∧ okP W H (m.2.1 79) ∧ okP W H (m.2.1 81) ∧ okP W H (m.2.1 86) ∧ okP W H (m.2.1 88)
def ccmP (a j : Nat) : Bool := a == 47 || (clnP a j || (e1P a j || (e2P a j || (a == 0 && j == 12))))
theorem ccmP_n {a j : Nat} (h : a < 29 ∨ 31 < a) (h2 : a < 64 ∨ 89 ≤ a) (h3 : a < 147) (h4 : a ≠ 47) (h5 : a = 0 → j ≠ 12) : ccmP a j = false := by
  unfold ccmP
  rw [beq_eq_false_iff_ne.mpr h4, clnP_n h (by omega) (by omega), e1P_n (by omega), e2P_n (by omega) h3]
  by_cases c : a = 0
  · rw [beq_eq_false_iff_ne.mpr (h5 c), Bool.and_false]; rfl
  · rw [beq_eq_false_iff_ne.mpr c]; rfl
theorem ccmP_f {a j : Nat} (w : ccmP a j = false) : (a == 47) = false ∧ clnP a j = false ∧ e1P a j = false ∧ e2P a j = false ∧ (a == 0 && j == 12) = false := by
  unfold ccmP at w
  simp only [Bool.or_eq_false_iff] at w
  exact w
section CP6
variable {S : xS} {W H n : Nat} {m : mM}
theorem ccompare_s (hW8 : 8 ≤ W) (hW : W ≤ 64) (hH8 : 8 ≤ H) (hH : H ≤ 64) {R : Nat → Nat → Int64} (G : pgC m W H R) {Z : ((Nat → Nat) × Nat × (Nat → Nat))} (CR : cfR Z) (CX : cfX m 34 2 35 36 Z) (BK : bkO m W H) {c : Nat} {K : Nat → Nat → Int32} (MK : mkC m c K) (IM : imgC m W H) {St : stT} {cnt : Nat} (TS : cstM m cnt St) (FD : fdI m n) {od hd : Bool} (h7 : Z.1 7 = od.toNat) (h9 : Z.1 9 = hd.toNat) : ∃ m' O C T Al Ms Ad t k cc dx dy, cmS W H R Z c K O C T Al Ms Ad t k cc dx dy ∧ xM S mX12_compare [.ref 0] (E W H n m) = some (.inl (some (.int (m'.1 64 19))), E W H (max n (qN W H Ms Ad (Z.1 0) (Z.1 1))) m', 5 * (max n (qN W H Ms Ad (Z.1 0) (Z.1 1)) - n), 159 * (max n (qN W H Ms Ad (Z.1 0) (Z.1 1)) - n)) ∧ m'.1 0 12 = 1 ∧ cmC m' W H (max n (qN W H Ms Ad (Z.1 0) (Z.1 1))) O T Al Ms Ad (Z.1 0) (Z.1 1) (Z.1 8) od hd St cnt dx dy (skw k) t cc ∧ bkO m' W H ∧ imgC m' W H ∧ fdI m' (max n (qN W H Ms Ad (Z.1 0) (Z.1 1))) ∧ fr ccmP m m' := by
  obtain ⟨i47, i73, i75, i77, i79, i81, i86, i88⟩ := IM
  obtain ⟨w, gw⟩ := gB_ex H hW (fun j i => !mkdB c K (64 * j + i))
  obtain ⟨m1, e1⟩ : ∃ m1, m1 = aL m 47 w := ⟨_, rfl⟩
  have F1 : fr (fun a _ => a == 47) m m1 := by rw [e1]; exact fr_aL fr_rf (fun _ => rfl)
  have n47 : ∀ {a : Nat}, a ≠ 47 → (a == 47) = false := fun h => beq_eq_false_iff_ne.mpr h
  have o1 : ∀ x, x ≠ 47 → m1.2.1 x = m.2.1 x := fun x h => fr_L F1 x (fun _ => n47 h)
  have i1 : ∀ a j, m1.1 a j = m.1 a j := fun a j => by rw [e1]; rfl
  have G1 : pgC m1 W H R := fun p hp => by rw [o1 _ (by omega)]; exact G p hp
  have CX1 : cfX m1 34 2 35 36 Z := ⟨fun i hi => (i1 _ _).trans (CX.1 i hi), (i1 _ _).trans CX.2.1, fun i hi => (i1 _ _).trans (CX.2.2 i hi)⟩
  have BK1 : bkO m1 W H := by unfold bkO; rw [o1 _ (by omega), o1 _ (by omega)]; exact BK
  obtain ⟨_, _, _, z3, _⟩ := cfR_all CR
  obtain ⟨m2, O, C, k1, k2, k3, k4, k5, k6, k7, k8, k9⟩ := clean_s (S := S) (n := n) hW hH8 hH G1 CX1 (by omega) BK1 (by rw [o1 _ (by omega)]; exact i73) (by rw [o1 _ (by omega)]; exact i75)
  have q2 : ∀ x, (x < 29 ∨ 31 < x) → x ≠ 73 → x ≠ 75 → m2.2.1 x = m1.2.1 x := fun x h h2 h3 => fr_L k9 x (fun _ => clnP_n h h2 h3)
  have CX2 : cfX m2 34 2 35 36 Z := ⟨fun i hi => (fr_i k9 _ _ (clnP_n (by omega) (by omega) (by omega))).trans (CX1.1 i hi), (fr_i k9 _ _ (clnP_n (by omega) (by omega) (by omega))).trans CX1.2.1, fun i hi => (fr_i k9 _ _ (clnP_n (by omega) (by omega) (by omega))).trans (CX1.2.2 i hi)⟩
  have w2 : m2.2.1 47 = w := (q2 47 (by omega) (by omega) (by omega)).trans (by rw [e1]; exact aL_eq rfl)
  have ok2 : ∀ x, 76 ≤ x → okP W H (m.2.1 x) → okP W H (m2.2.1 x) := fun x h h2 => by rw [q2 x (by omega) (by omega) (by omega), o1 x (by omega)]; exact h2
  obtain ⟨m3, T, Al, Ms, Ad, t, k, cc, dx, dy, X, e88, e77, e79, e81, e82, o86, F3, run⟩ := exam1 (S := S) (n := n) (m := m2) hW8 hW hH8 hH CR CX2 k2 k4 k3 k5 k6 k7 w2 gw (ok2 77 (by omega) i77) (ok2 79 (by omega) i79) (ok2 81 (by omega) i81) (ok2 86 (by omega) i86) (ok2 88 (by omega) i88)
  obtain ⟨oT, oAl, oM, oA⟩ := cmS_ok X
  have CX3 : cfX m3 34 2 35 36 Z := ⟨fun i hi => (fr_i F3 35 i rfl).trans (CX2.1 i hi), (fr_i F3 34 2 rfl).trans CX2.2.1, fun i hi => (fr_i F3 36 i rfl).trans (CX2.2.2 i hi)⟩
  have dj := cmS_dj hW k4 oAl X.2.2.2.2.2.2.2.1 X.2.2.2.2.2.2.2.2
  have F13 : fr ccmP m m3 := fr_tr (fr_mono F1 (fun a j w => (ccmP_f w).1)) (fr_tr (fr_mono k9 (fun a j w => (ccmP_f w).2.1)) (fr_mono F3 (fun a j w => (ccmP_f w).2.2.1)))
  have TS3 := cstM_fr TS F13 (fun a j h1 h2 => ccmP_n (by omega) (by omega) (by omega) (by omega) (by omega))
  have r69 : ∀ r, m3.2.2 69 r = m.2.2 69 r := fun r => (fr_r F3 69 r rfl).trans ((fr_r k9 69 r (clnP_n (by omega) (by omega) (by omega))).trans (fr_r F1 69 r rfl))
  have FD3 : fdI m3 n := ⟨FD.1, fun r hr => (r69 r).trans (FD.2.1 r hr), fun r h1 h2 => (r69 r).trans (FD.2.2 r h1 h2)⟩
  obtain ⟨m4, x1, x2, x3, x4⟩ := exam2 (S := S) (n := n) (m := m3) hW8 hW hH8 hH CR CX3 ((fr_L F3 73 (fun _ => rfl)).trans k2) e88 e77 e79 e81 oM oA dj e82 TS3 FD3 h7 h9
  have r4 := run x4
  have F4 : fr ccmP m m4 := fr_tr F13 (fr_mono x3 (fun a j w => (ccmP_f w).2.2.2.1))
  obtain ⟨m5, e5⟩ : ∃ m5, m5 = sI m4 0 12 1 := ⟨_, rfl⟩
  have F5 : fr ccmP m m5 := by rw [e5]; exact fr_sI F4 (by rfl)
  have F45 : fr (fun a j => a == 0 && j == 12) m4 m5 := by rw [e5]; exact fr_sI fr_rf (by rfl)
  have n0 : ∀ {a j : Nat}, a ≠ 0 → (fun a j => a == 0 && j == 12) a j = false := fun h => by
    show (_ && _) = false
    rw [beq_eq_false_iff_ne.mpr h]; rfl
  have l5 : ∀ x, m5.2.1 x = m4.2.1 x := fun x => by rw [e5]; rfl
  have l4 : ∀ x, 71 < x → x < 147 → m5.2.1 x = m3.2.1 x := fun x h1 h2 => (l5 x).trans (fr_L x3 x (fun _ => e2P_n (Or.inr h1) h2))
  have l3 : ∀ x, (x < 64) → m5.2.1 x = m2.2.1 x := fun x h1 => (l5 x).trans ((fr_L x3 x (fun _ => e2P_n (Or.inl h1) (by omega))).trans (fr_L F3 x (fun _ => e1P_n (by omega))))
  refine ⟨m5, O, C, T, Al, Ms, Ad, t, k, cc, dx, dy, X, ?_, ?_, cmC_fr x1 F45 (fun a j w => n0 (by omega)), ?_, ⟨?_, ?_, ?_, ?_, ?_, ?_, ?_, ?_⟩, ⟨x2.1, fun r hr => ?_, fun r h1 h2 => ?_⟩, F5⟩
  · refine watch_s hW8 hW hH8 hH MK i47 (fun w' gw' => ?_)
    rw [gB_one gw' gw, ← e1]
    have c8 : m1.1 0 8 = nI c := (i1 0 8).trans MK.1
    have v19 : m5.1 64 19 = m4.1 64 19 := by rw [e5, sI_ne (by omega)]
    rw [v19]
    refine w_X12_compare_20 S _ _ _ _ ?_
    refine c_gi (by omega) (by rfl) (by rfl) (by rfl) ?_
    rw [c8]
    refine c_ift ((nI_leI (by have := MK.2.1; omega) (by have := MK.2.1; omega)).mpr (Nat.le_refl _)) ?_
    refine c_gr (by omega) (by rfl) (by rfl) (by rfl) ?_
    refine c_gr (by omega) (by rfl) (by rfl) (by rfl) ?_
    refine c_rr (i := 0) (r := 2) (by omega) (by rfl) (by decide) (by rfl) (by first | omega | ((conv => rhs; whnf); first | omega | (show _ < OfNat.ofNat (α := Nat) _; omega))) (by first | omega | ((conv => lhs; whnf); first | omega | (show OfNat.ofNat (α := Nat) _ < _; omega))) (by rfl) ?_
    refine c_gr (by omega) (by rfl) (by rfl) (by rfl) ?_
    refine c_rr (i := 1) (r := 4) (by omega) (by rfl) (by decide) (by rfl) (by first | omega | ((conv => rhs; whnf); first | omega | (show _ < OfNat.ofNat (α := Nat) _; omega))) (by first | omega | ((conv => lhs; whnf); first | omega | (show OfNat.ofNat (α := Nat) _ < _; omega))) (by rfl) ?_
    refine c_gr (by omega) (by rfl) (by rfl) (by rfl) ?_
    refine c_gr (by omega) (by rfl) (by rfl) (by rfl) ?_
    refine c_ob (by omega) (by rfl) ?_
    refine c_qV k1 ?_
    refine c_gr (by omega) (by rfl) (by rfl) (by rfl) ?_
    refine c_gr (by omega) (by rfl) (by rfl) (by rfl) ?_
    refine c_gr (by omega) (by rfl) (by rfl) (by rfl) ?_
    refine c_gr (by omega) (by rfl) (by rfl) (by rfl) ?_
    refine c_ob (by omega) (by rfl) ?_
    rw [Nat.zero_add, Nat.zero_add] at r4
    have fin : ∀ {n' c s : Nat}, xM S mX1_examine [.ref 64, .ref 46, .ref 34, .ref 48] (E W H n m2) = some (.inl none, E W H n' m4, c, s) → xqV (xM S mX1_examine [.ref 64, .ref 46, .ref 34, .ref 48] (E W H n m2)) xth (fun h17 => (xP false 11 h17 0 11 12 (.int (1 : Int32))).bind fun h19 => (xGr h19 0 11 11).bind fun v20 => (xGi h19 v20 1 19).bind fun v21 => some (.inl (some (.int v21)), h19, 0, 0)) = some (.inl (some (.int (m4.1 64 19))), E W H n' m5, 0 + c, 0 + s) := fun {n' c s} hr => by
      refine k_V hr ?_
      refine c_pi (by omega) (by rfl) (by rfl) (by rfl) (xPok_bool (by decide) (by rfl) (Or.inr rfl)) ?_
      refine c_gr (by omega) (by rfl) (by rfl) (by rfl) ?_
      refine c_gi (by omega) (by rfl) (by rfl) (by rfl) ?_
      rw [← e5]
      show some (.inl (some (.int (m5.1 64 19))), E W H n' m5, 0, 0) = (some (.inl (some (.int (m4.1 64 19))), E W H n' m5, 0, 0) : Option xO)
      rw [v19]
    have fin2 := fin r4
    rw [Nat.zero_add, Nat.zero_add] at fin2
    exact fin2
  · rw [e5]; exact sI_eq ⟨rfl, rfl⟩
  · unfold bkO
    rw [l3 30 (by omega), l3 31 (by omega)]
    exact k8
  · rw [l3 47 (by omega), w2]; exact gw.1
  · rw [l4 73 (by omega) (by omega), fr_L F3 73 (fun _ => rfl), k2]; exact k4
  · rw [l4 75 (by omega) (by omega), fr_L F3 75 (fun _ => rfl), k3]; exact k5
  · rw [l4 77 (by omega) (by omega), e77]; exact oAl
  · rw [l4 79 (by omega) (by omega), e79]; exact oM
  · rw [l4 81 (by omega) (by omega), e81]; exact oA
  · rw [l4 86 (by omega) (by omega)]; exact o86
  · rw [l4 88 (by omega) (by omega), e88]; exact oT
  · exact (fr_r F45 69 r (n0 (by omega))).trans (x2.2.1 r hr)
  · exact (fr_r F45 69 r (n0 (by omega))).trans (x2.2.2 r h1 h2)
end CP6

/-! AGREEMENT: paste, undo, text, settings, masks -/
section AG3
variable {S : xS} {W H n : Nat} {m m1 m2 : mM}
theorem CM_md2 (hW : W ≤ 64) (hH : H ≤ 64) (X : CM W H n m) (Q : fr (fun a _ => decide (90 ≤ a) && decide (a < 146)) m m2) (q : ∀ a j, mdE a j = false → m2.1 a j = m.1 a j) : CM W H n m2 := by
  have qn : ∀ {a j : Nat}, cmQ a j → mdE a j = false := fun w => decide_eq_false (by unfold cmQ at w; omega)
  have cn : ∀ {a : Nat}, (a < 90 ∨ 146 ≤ a) → (decide (90 ≤ a) && decide (a < 146)) = false := fun h => by
    rcases h with h | h
    · rw [decide_eq_false (by omega)]; rfl
    · rw [decide_eq_false (show ¬ _ < 146 by omega), Bool.and_false]
  rcases X with ⟨x1, x2, x3⟩ | ⟨x1, x2, O, T, Al, Ms, Ad, B, noise, lst, od, hd, St, cnt, dx, dy, sk, tu, cc, k, c, mm⟩
  · exact Or.inl ⟨(fr_i Q 0 12 (cn (by omega))).trans x1, (q 90 35 (qn (by unfold cmQ; omega))).trans x2, (q 90 44 (qn (by unfold cmQ; omega))).trans x3⟩
  · have Q2 : fr mdE m (m2.1, m.2) := fun a j w => ⟨q a j w, rfl, rfl⟩
    have y : cmM (m2.1, m.2) W H O T Al Ms Ad B noise lst od hd St cnt dx dy sk tu cc := cmM_fr hW hH k.2.2.2.2.2.2.2.2.1 mm Q2 (fun a j w => qn (by unfold cmQ; omega))
    exact Or.inr ⟨(fr_i Q 0 12 (cn (by omega))).trans x1, (q 90 35 (qn (by unfold cmQ; omega))).trans x2, O, T, Al, Ms, Ad, B, noise, lst, od, hd, St, cnt, dx, dy, sk, tu, cc, k, cmC_fr c Q (fun a j w => cn (by omega)), y⟩
/-- an answer, and a state that both sides come to; of the model's cells the ints alone are held -/
theorem AG_st2 (hW : W ≤ 64) (hH : H ≤ 64) {rc : Option xO} {rm : xH → Option xO} {R : Nat → Nat → Int64} {l : hL} {T : Nat → Nat} {L : Nat} {Z : ((Nat → Nat) × Nat × (Nat → Nat))} {c : Nat} {K : Nat → Nat → Int32} {cnt : Nat} {St : stT} {v : Int32} (XC : RC W H n m1 R l T L Z c K cnt St) (XO : cfO Z) (XR : cfR Z) (CX : CM W H n m) (Q1 : fr clE m m1) (hc : rc = some (.inl (some (.int 0)), E W H n (sL m1 146 0 v.toInt64), 0, 0)) (hm : rm (E W H n (sL m1 146 0 v.toInt64)) = some (.inl (some (.int v)), E W H n m2, 0, 0)) (XM : RM m2 R l T L Z c K cnt St) (t0 : m2.1 90 2 = 0) (Q : fr (fun a _ => decide (90 ≤ a) && decide (a < 146)) (sL m1 146 0 v.toInt64) m2) (q : ∀ a j, mdE a j = false → m2.1 a j = m1.1 a j) : AG W H n m rc rm := by
  have cn : ∀ {a : Nat}, (a < 90 ∨ 146 ≤ a) → (decide (90 ≤ a) && decide (a < 146)) = false := fun h => by
    rcases h with h | h
    · rw [decide_eq_false (by omega)]; rfl
    · rw [decide_eq_false (show ¬ _ < 146 by omega), Bool.and_false]
  exact ⟨_, n, 0, 0, 0, v, m2, hc, hm, t0, fun _ => (fr_l Q 146 0 (cn (by omega))).trans (sL_eq ⟨rfl, rfl⟩), ⟨R, l, T, L, Z, c, K, cnt, St, RC_fr (RC_law XC) Q (fun a j h => cn (by omega)), XM, XO, XR, CM_md2 hW hH (CM_law hW hH (CM_cl hW hH CX Q1)) Q q⟩, Nat.le_refl n, by omega, by omega⟩
theorem AG_paste (hW8 : 8 ≤ W) (hW : W ≤ 64) (hH8 : 8 ≤ H) (hH : H ≤ 64) (X : Rep W H n m) (p x y : Int32) : AG W H n m (xM S mL_paste [.ref 0, .int p, .int x, .int y, .ref 146] (E W H n m)) (fun e => xM S mX13_paste [.ref 90, .int p, .int x, .int y] e) := by
  obtain ⟨R, l, T, L, Z, c, K, cnt, St, C, M, XO, XR, CX⟩ := id X
  by_cases v : 0 ≤ p.toInt ∧ p.toInt ≤ 3
  · obtain ⟨pk, hp, rfl⟩ := page_of v
    cases he : peT T L (L + 1) 0 with
    | some e => exact AG_ok hW hH X (W_paste (cpaste_err C.2.2.2.1 hp he x y)) (mpaste_err (RM_law M).2.2.1 hp he x y)
    | none =>
      obtain ⟨m1, g, c1, c2, c3, c4, c5, c6⟩ := cpaste_in (S := S) (n := n) hW hH C.1 C.2.1 C.2.2.2.1 hp he x y
      have Q1 : fr clE m m1 := fr_mono c6 (cl_in (fun a j h => by unfold cdP hsP at h; simp at h; exact clE_y (by omega)))
      have M1 : RM (sL m1 146 0 (nI (dfP (R pk) g)).toInt64) R l T L Z c K cnt St := RM_law (RM_cl M Q1)
      obtain ⟨m2, d1, d2, d3, d4, d5⟩ := mpaste_in (S := S) (n := n) (m := sL m1 146 0 (nI (dfP (R pk) g)).toInt64) hW8 hW hH8 hH M1.1 M1.2.1 M1.2.2.1 hp (C.1 pk hp).2 he x y c2
      obtain ⟨x1, x2, x3, x4, x5, x6, x7, x8, x9⟩ := C
      obtain ⟨z1, z2, z3, z4, z5, z6⟩ := RM_fr M1 (th_fr (v := 0)) (fun a j h => thP_n (by omega))
      have bn : ∀ {a j : Nat}, (a < 3 ∨ 30 ≤ a) → (a = 32 → j ≠ 1) → (fun a j => cdP a j || (a == 32 && j == 1)) a j = false := fun {a j} h h2 => by
        show (_ || (_ && _)) = false
        rw [cdP_n h]
        by_cases e : a = 32
        · rw [beq_eq_false_iff_ne.mpr (h2 e), Bool.and_false]; rfl
        · rw [beq_eq_false_iff_ne.mpr e]; rfl
      have y : ∀ {a j : Nat}, (a < 91 ∨ 94 < a) → (a = 90 → j ≠ 6 ∧ j ≠ 13) → mpP a j = false := fun {a j} h h2 => by
        unfold mpP
        rw [mdP_n h (by omega)]
        by_cases e : a = 90
        · rw [beq_eq_false_iff_ne.mpr (h2 e).2, Bool.and_false]; rfl
        · rw [beq_eq_false_iff_ne.mpr e]; rfl
      have Q2 : fr mdE (sL m1 146 0 (nI (dfP (R pk) g)).toInt64) m2 := fr_tr (th_md (k := 0)) (fr_mono d5 (md_in (fun a j h => by unfold mpP mdP edP at h; simp at h; exact mdE_y (by omega))))
      exact AG_st hW hH ⟨c3, c4, bkO_fr x3 c6 (fun a j _ _ => bn (by omega) (by omega)), c5, cfX_fr x5 c6 (bn (by omega) (by omega)) (fun j => bn (by omega) (by omega)) (fun j => bn (by omega) (by omega)), mkC_fr x6 c6 (bn (by omega) (by omega)) (fun a j _ _ => bn (by omega) (by omega)), cstM_fr x7 c6 (fun a j _ _ => bn (by omega) (by omega)), imgC_fr x8 c6 (fun a j _ => bn (by omega) (by omega)), fdI_fr x9 c6 (fun j => bn (by omega) (by omega))⟩ XO XR CX Q1 (W_paste c1) d1 ⟨d2, d3, ⟨d4, c5.2.1, fun i hi => absurd hi (Nat.not_lt_zero i)⟩, cfX_fr z4 d5 (y (by omega) (by omega)) (fun j => y (by omega) (by omega)) (fun j => y (by omega) (by omega)), mkM_fr z5 d5 (y (by omega) (by omega)) (fun a j _ _ => y (by omega) (by omega)), mstM_fr z6 d5 (fun a j q => y (by omega) (by omega))⟩ ((fr_i d5 90 2 (y (by omega) (by omega))).trans (sI_eq ⟨rfl, rfl⟩)) Q2
  · exact AG_ex hW hH X (by decide) (W_paste_sIO (cpaste_np v)) (mpaste_np v)
theorem AG_undo (hW : W ≤ 64) (hH : H ≤ 64) (X : Rep W H n m) : AG W H n m (xM S mL_undo [.ref 0, .ref 146] (E W H n m)) (fun e => xM S mX13_undo [.ref 90] e) := by
  obtain ⟨R, l, T, L, Z, c, K, cnt, St, C, M, XO, XR, CX⟩ := id X
  rcases List.eq_nil_or_concat l with rfl | ⟨l', ⟨p, f⟩, rfl⟩
  · exact AG_ex hW hH X (by decide) (W_undo_sIS (cundo_none C.2.1)) (mundo_none M.2.1)
  · rw [List.concat_eq_append] at C M
    have hp : p < 4 := by
      obtain ⟨_, _, _, h⟩ := M.2.1
      exact (h l'.length (p, f) (by rw [List.getElem?_append_right (Nat.le_refl _), Nat.sub_self]; rfl)).2.1
    obtain ⟨m1, c1, c2, c3, c4⟩ := cundo_some (S := S) (n := n) hW hH C.1 hp C.2.1
    have Q1 : fr clE m m1 := fr_mono c4 cd_cl
    have M1 : RM (sL m1 146 0 (nI l'.length).toInt64) R (l' ++ [(p, f)]) T L Z c K cnt St := RM_law (RM_cl M Q1)
    obtain ⟨m2, d1, d2, d3, d4, d5⟩ := mundo_some (S := S) (W := W) (H := H) (n := n) M1.1 M1.2.1
    obtain ⟨x1, x2, x3, x4, x5, x6, x7, x8, x9⟩ := C
    obtain ⟨z1, z2, z3, z4, z5, z6⟩ := M1
    have y : ∀ {a j : Nat}, a ≠ 91 → (a = 90 → j ≠ 2 ∧ j ≠ 6) → (fun a j => a == 91 || (a == 90 && (j == 2 || j == 6))) a j = false := fun {a j} h h2 => by
      show (_ || (_ && (_ || _))) = false
      rw [beq_eq_false_iff_ne.mpr h]
      by_cases e : a = 90
      · rw [beq_eq_false_iff_ne.mpr (h2 e).1, beq_eq_false_iff_ne.mpr (h2 e).2]; simp
      · rw [beq_eq_false_iff_ne.mpr e]; rfl
    exact AG_st hW hH ⟨c2, c3, bkO_fr x3 c4 (fun a j _ _ => cdP_n (by omega)), txC_fr x4 c4 (fun a j _ _ => cdP_n (by omega)), cfX_fr x5 c4 (cdP_n (by omega)) (fun j => cdP_n (by omega)) (fun j => cdP_n (by omega)), mkC_fr x6 c4 (cdP_n (by omega)) (fun a j _ _ => cdP_n (by omega)), cstM_fr x7 c4 (fun a j _ _ => cdP_n (by omega)), imgC_fr x8 c4 (fun a j _ => cdP_n (by omega)), fdI_fr x9 c4 (fun j => cdP_n (by omega))⟩ XO XR CX Q1 (W_undo c1) d1 ⟨d2, d3, txM_fr z3 d5 (fun a j q => y (by omega) (by omega)), cfX_fr z4 d5 (y (by omega) (by omega)) (fun j => y (by omega) (by omega)) (fun j => y (by omega) (by omega)), mkM_fr z5 d5 (y (by omega) (by omega)) (fun a j _ _ => y (by omega) (by omega)), mstM_fr z6 d5 (fun a j q => y (by omega) (by omega))⟩ d4 (fr_mono d5 (md_in (fun a j h => by simp at h; exact mdE_y (by omega))))
theorem AG_type (hW : W ≤ 64) (hH : H ≤ 64) (X : Rep W H n m) (q : Int32) : AG W H n m (xM S mL_type [.ref 0, .int q, .ref 146] (E W H n m)) (fun e => xM S mX13_type [.ref 90, .int q] e) := by
  obtain ⟨R, l, T, L, Z, c, K, cnt, St, C, M, XO, XR, CX⟩ := id X
  by_cases v : 32 ≤ q.toInt ∧ q.toInt ≤ 126
  · obtain ⟨k, k1, k2, rfl⟩ : ∃ k, 32 ≤ k ∧ k ≤ 126 ∧ q = nI k := ⟨q.toInt.toNat, by omega, by omega, n_of (by omega)⟩
    have L80 := C.2.2.2.1.2.1.1
    by_cases f : L < 80
    · obtain ⟨m1, c1, c2, c3⟩ := ctype_in (S := S) (W := W) (H := H) (n := n) C.2.2.2.1 k1 k2 f
      have Q1 : fr clE m m1 := fr_mono c3 (cl_in (fun a j h => by simp at h; exact clE_y (by omega)))
      have M1 : RM (sL m1 146 0 (nI (L + 1)).toInt64) R l T L Z c K cnt St := RM_law (RM_cl M Q1)
      obtain ⟨m2, d1, d2, d3, d4⟩ := mtype_in (S := S) (W := W) (H := H) (n := n) M1.2.2.1 k1 k2 f
      obtain ⟨x1, x2, x3, x4, x5, x6, x7, x8, x9⟩ := C
      obtain ⟨z1, z2, z3, z4, z5, z6⟩ := M1
      have bn : ∀ {a j : Nat}, a ≠ 33 → a ≠ 32 → (fun a j => a == 33 || (a == 32 && j == 1)) a j = false := fun {a j} h h2 => by
        show (_ || (_ && _)) = false
        rw [beq_eq_false_iff_ne.mpr h, beq_eq_false_iff_ne.mpr h2]; rfl
      have y : ∀ {a j : Nat}, a ≠ 97 → (a = 90 → j ≠ 2 ∧ j ≠ 13) → (fun a j => a == 97 || (a == 90 && (j == 2 || j == 13))) a j = false := fun {a j} h h2 => by
        show (_ || (_ && (_ || _))) = false
        rw [beq_eq_false_iff_ne.mpr h]
        by_cases e : a = 90
        · rw [beq_eq_false_iff_ne.mpr (h2 e).1, beq_eq_false_iff_ne.mpr (h2 e).2]; simp
        · rw [beq_eq_false_iff_ne.mpr e]; rfl
      exact AG_st hW hH ⟨pgC_fr x1 c3 (fun a j _ _ => bn (by omega) (by omega)), hsC_fr x2 c3 (fun a j _ _ => bn (by omega) (by omega)), bkO_fr x3 c3 (fun a j _ _ => bn (by omega) (by omega)), c2, cfX_fr x5 c3 (bn (by omega) (by omega)) (fun j => bn (by omega) (by omega)) (fun j => bn (by omega) (by omega)), mkC_fr x6 c3 (bn (by omega) (by omega)) (fun a j _ _ => bn (by omega) (by omega)), cstM_fr x7 c3 (fun a j _ _ => bn (by omega) (by omega)), imgC_fr x8 c3 (fun a j _ => bn (by omega) (by omega)), fdI_fr x9 c3 (fun j => bn (by omega) (by omega))⟩ XO XR CX Q1 (W_type c1) d1 ⟨inkM_fr z1 d4 (fun j => y (by omega) (by omega)), paM_fr z2 d4 (fun a j q => y (by omega) (by omega)), d2, cfX_fr z4 d4 (y (by omega) (by omega)) (fun j => y (by omega) (by omega)) (fun j => y (by omega) (by omega)), mkM_fr z5 d4 (y (by omega) (by omega)) (fun a j _ _ => y (by omega) (by omega)), mstM_fr z6 d4 (fun a j q => y (by omega) (by omega))⟩ d3 (fr_mono d4 (md_in (fun a j h => by simp at h; exact mdE_y (by omega))))
    · exact AG_ex hW hH X (by decide) (W_type_sIS (ctype_full C.2.2.2.1 k1 k2 (by omega))) (mtype_full M.2.2.1 k1 k2 (by omega))
  · exact AG_ex hW hH X (by decide) (W_type_sIA (ctype_out v)) (mtype_out v)
theorem AG_setting (hW : W ≤ 64) (hH : H ≤ 64) (X : Rep W H n m) (q : Int32) : AG W H n m (xM S mL_setting [.ref 0, .int q, .ref 146] (E W H n m)) (fun e => xM S mX13_setting [.ref 90, .int q] e) := by
  obtain ⟨R, l, T, L, Z, c, K, cnt, St, C, M, XO, XR, CX⟩ := id X
  by_cases v : 0 ≤ q.toInt ∧ q.toInt ≤ 9
  · obtain ⟨k, k1, rfl⟩ : ∃ k, k < 10 ∧ q = nI k := ⟨q.toInt.toNat, by omega, n_of (by omega)⟩
    exact AG_ok hW hH X (W_setting (csetting_in C.2.2.2.2.1 k1)) (msetting_in (RM_law M).2.2.2.1 k1)
  · exact AG_ex hW hH X (by decide) (W_setting_sIO (csetting_out v)) (msetting_out v)
theorem AG_configChar (hW : W ≤ 64) (hH : H ≤ 64) (X : Rep W H n m) (q : Int32) : AG W H n m (xM S mL_configChar [.ref 0, .int q, .ref 146] (E W H n m)) (fun e => xM S mX13_configChar [.ref 90, .int q] e) := by
  obtain ⟨R, l, T, L, Z, c, K, cnt, St, C, M, XO, XR, CX⟩ := id X
  by_cases v : 0 ≤ q.toInt
  · have rg := fb_rng q
    obtain ⟨k, k1, rfl⟩ : ∃ k, k < 2147483648 ∧ q = nI k := ⟨q.toInt.toNat, by omega, n_of v⟩
    obtain ⟨m1, c1, c2⟩ := cconfChar_in (S := S) (W := W) (H := H) (n := n) C.2.2.2.2.1 XO k1
    have Q1 : fr clE m m1 := fr_mono c2 (cl_in (fun a j h => by unfold prP at h; simp at h; exact clE_y (by omega)))
    have M1 : RM (sL m1 146 0 ((cfTx Z Z.2.1).getD k (-1)).toInt64) R l T L Z c K cnt St := RM_law (RM_cl M Q1)
    obtain ⟨m2, d1, d2, d3, d4⟩ := mconfChar_in (S := S) (W := W) (H := H) (n := n) M1.2.2.2.1 XO XR k1
    have cc : ∀ {a j : Nat}, (a = 106 → j < 20000) → (a = 90 → j ≠ 2 ∧ j ≠ 25) → ccP a j = false := fun {a j} h h2 => by
      unfold ccP
      simp
      omega
    obtain ⟨x1, x2, x3, x4, x5, x6, x7, x8, x9⟩ := C
    obtain ⟨z1, z2, z3, z4, z5, z6⟩ := M1
    have pn : ∀ {a j : Nat}, a ≠ 89 → prP a j = false := fun h => prP_n h
    refine AG_st2 hW hH ⟨pgC_fr x1 c2 (fun a j _ _ => pn (by omega)), hsC_fr x2 c2 (fun a j _ _ => pn (by omega)), bkO_fr x3 c2 (fun a j _ _ => pn (by omega)), txC_fr x4 c2 (fun a j _ _ => pn (by omega)), cfX_fr x5 c2 (pn (by omega)) (fun j => pn (by omega)) (fun j => pn (by omega)), mkC_fr x6 c2 (pn (by omega)) (fun a j _ _ => pn (by omega)), cstM_fr x7 c2 (fun a j _ _ => pn (by omega)), imgC_fr x8 c2 (fun a j _ => pn (by omega)), fdI_fr x9 c2 (fun j => pn (by omega))⟩ XO XR CX Q1 (W_configChar c1) d1 ⟨inkM_fr z1 d4 (fun j => cc (by omega) (by omega)), paM_fr z2 d4 (fun a j q => cc (by omega) (by omega)), txM_fr z3 d4 (fun a j q => cc (by omega) (by omega)), cfX_fr z4 d4 (cc (by omega) (by omega)) (fun j => cc (by omega) (by omega)) (fun j => cc (by omega) (by omega)), mkM_fr z5 d4 (cc (by omega) (by omega)) (fun a j _ _ => cc (by omega) (by omega)), mstM_fr z6 d4 (fun a j q => cc (by omega) (by omega))⟩ d2 (fr_mono d4 (fun a j w => cc (by
        intro e
        rw [e] at w
        cases w) (by
        intro e
        rw [e] at w
        cases w))) (fun a j w => ?_)
    by_cases e : a = 90 ∧ j = 25
    · rw [e.1, e.2]; exact d3
    · have w2 := of_decide_eq_false w
      exact fr_i d4 a j (cc (by omega) (by omega))
  · exact AG_ex hW hH X (by decide) (W_configChar_sIO (cconfChar_out v)) (mconfChar_out v)
end AG3

/-! AGREEMENT: lines, words, undo, paste, despeckle -/
section AG2
variable {S : xS} {W H n : Nat} {m : mM}
theorem AG_components (hW8 : 8 ≤ W) (hW : W ≤ 64) (hH8 : 8 ≤ H) (hH : H ≤ 64) (X : Rep W H n m) (p : Int32) : AG W H n m (xM S mL_components [.ref 0, .int p, .ref 146] (E W H n m)) (fun e => xM S mX13_components [.ref 90, .int p] e) := by
  obtain ⟨R, l, T, L, Z, c, K, cnt, St, C, M, XO, XR, CX⟩ := id X
  by_cases v : 0 ≤ p.toInt ∧ p.toInt ≤ 3
  · obtain ⟨pk, hp, rfl⟩ := page_of v
    obtain ⟨m1, c1, c2, c3⟩ := ccomp_in (S := S) (n := n) hW hH8 hH C.1 C.2.2.1 hp
    have Q1 : fr clE m m1 := fr_mono c3 (cl_in (fun a j h => by unfold bP0 at h; simp at h; exact clE_y (by omega)))
    obtain ⟨m2, d1, d2⟩ := mcomp_in (S := S) (n := n) (m := sL m1 146 0 (nI (nS nb (px (R pk)) 4096)).toInt64) hW8 hW hH8 hH (RM_law (RM_cl M Q1)).1 hp (C.1 pk hp).2
    obtain ⟨x1, x2, x3, x4, x5, x6, x7, x8, x9⟩ := C
    have bn : ∀ {a j : Nat}, (a < 29 ∨ 31 < a) → bP0 a j = false := fun h => bP0_n h
    have y : ∀ {a j : Nat}, (91 ≤ a ∧ a ≤ 113) ∨ (a = 90 ∧ (j = 6 ∨ j = 13 ∨ j = 16 ∨ j = 30 ∨ j = 34)) → a ≠ 94 → a ≠ 95 → a ≠ 96 → clP 94 a j = false := fun h h1 h2 h3 => clP_n h1 h2 h3 (by omega)
    have Q0 : RM (sI (sL m1 146 0 (nI (nS nb (px (R pk)) 4096)).toInt64) 90 2 0) R l T L Z c K cnt St := RM_fr (RM_law (RM_cl M Q1)) (th_fr (v := 0)) (fun a j h => thP_n (by omega))
    obtain ⟨z1, z2, z3, z4, z5, z6⟩ := Q0
    have Q2 : fr mdE (sL m1 146 0 (nI (nS nb (px (R pk)) 4096)).toInt64) m2 := fr_tr (th_md (k := 0)) (fr_mono d2 (md_in (fun a j h => by unfold clP at h; simp at h; exact mdE_y (by omega))))
    exact AG_st hW hH ⟨pgC_fr x1 c3 (fun a j _ _ => bn (by omega)), hsC_fr x2 c3 (fun a j _ _ => bn (by omega)), c2, txC_fr x4 c3 (fun a j _ _ => bn (by omega)), cfX_fr x5 c3 (bn (by omega)) (fun j => bn (by omega)) (fun j => bn (by omega)), mkC_fr x6 c3 (bn (by omega)) (fun a j _ _ => bn (by omega)), cstM_fr x7 c3 (fun a j _ _ => bn (by omega)), imgC_fr x8 c3 (fun a j _ => bn (by omega)), fdI_fr x9 c3 (fun j => bn (by omega))⟩ XO XR CX Q1 (W_components c1) d1 ⟨inkM_fr z1 d2 (fun j => y (by omega) (by omega) (by omega) (by omega)), paM_fr z2 d2 (fun a j q => y (by omega) (by omega) (by omega) (by omega)), txM_fr z3 d2 (fun a j q => y (by omega) (by omega) (by omega) (by omega)), cfX_fr z4 d2 (y (by omega) (by omega) (by omega) (by omega)) (fun j => y (by omega) (by omega) (by omega) (by omega)) (fun j => y (by omega) (by omega) (by omega) (by omega)), mkM_fr z5 d2 (y (by omega) (by omega) (by omega) (by omega)) (fun a j _ _ => y (by omega) (by omega) (by omega) (by omega)), mstM_fr z6 d2 (fun a j q => y (by omega) (by omega) (by omega) (by omega))⟩ ((fr_i d2 90 2 (clP_n (by omega) (by omega) (by omega) (by omega))).trans (sI_eq ⟨rfl, rfl⟩)) Q2
  · exact AG_ex hW hH X (by decide) (W_components_sIO (ccomponents_np v)) (mcomponents_np v)
theorem AG_lines (hW8 : 8 ≤ W) (hW : W ≤ 64) (hH8 : 8 ≤ H) (hH : H ≤ 64) (X : Rep W H n m) (p : Int32) : AG W H n m (xM S mL_lines [.ref 0, .int p, .ref 146] (E W H n m)) (fun e => xM S mX13_lines [.ref 90, .int p] e) := by
  obtain ⟨R, l, T, L, Z, c, K, cnt, St, C, M, XO, XR, CX⟩ := id X
  by_cases v : 0 ≤ p.toInt ∧ p.toInt ≤ 3
  · obtain ⟨pk, hp, rfl⟩ := page_of v
    exact AG_ok hW hH X (W_lines (clines_in hW hH8 hH C.1 hp)) (mlines_in hW8 hW hH8 hH (RM_law M).1 hp (C.1 pk hp).2)
  · exact AG_ex hW hH X (by decide) (W_lines_sIO (clines_np v)) (mlines_np v)
theorem AG_fingerprint (hW8 : 8 ≤ W) (hW : W ≤ 64) (hH8 : 8 ≤ H) (hH : H ≤ 64) (X : Rep W H n m) (p : Int32) : AGJ W H n m (xM S mL_fingerprint [.ref 0, .int p, .ref 146] (E W H n m)) (fun e => xM S mX13_fingerprint [.ref 90, .int p] e) := by
  obtain ⟨R, l, T, L, Z, c, K, cnt, St, C, M, XO, XR, CX⟩ := id X
  by_cases v : 0 ≤ p.toInt ∧ p.toInt ≤ 3
  · obtain ⟨pk, hp, rfl⟩ := page_of v
    exact AGJ_ok hW hH X (W_fingerprint (cfp_in hW hH8 hH C.1 hp)) (mfp_in hW hH8 hH (RM_law M).1 hp (C.1 pk hp).2)
  · exact AGJ_ex hW hH X (by decide) (W_fingerprint_sIO (cfingerprint_np v)) (mfingerprint_np v)
theorem AG_ink (hW8 : 8 ≤ W) (hW : W ≤ 64) (hH8 : 8 ≤ H) (hH : H ≤ 64) (X : Rep W H n m) (p x y w h : Int32) : AG W H n m (xM S mL_ink [.ref 0, .int p, .int x, .int y, .int w, .int h, .ref 146] (E W H n m)) (fun e => xM S mX13_ink [.ref 90, .int p, .int x, .int y, .int w, .int h] e) := by
  obtain ⟨R, l, T, L, Z, c, K, cnt, St, C, M, XO, XR, CX⟩ := id X
  by_cases v : 0 ≤ p.toInt ∧ p.toInt ≤ 3
  · obtain ⟨pk, hp, rfl⟩ := page_of v
    by_cases u : 0 ≤ w.toInt ∧ 0 ≤ h.toInt
    · exact AG_ok hW hH X (W_ink (cink_in hW hH8 hH C.1 hp u.1 u.2)) (mink_in (RM_law M).1 hp u.1 u.2)
    · exact AG_ex hW hH X (by decide) (W_ink_sIA (cink_np2 hp u)) (mink_np2 hp u)
  · exact AG_ex hW hH X (by decide) (W_ink_sIO (cink_np v)) (mink_np v)
theorem AG_lineTop (hW8 : 8 ≤ W) (hW : W ≤ 64) (hH8 : 8 ≤ H) (hH : H ≤ 64) (X : Rep W H n m) (p ln : Int32) : AG W H n m (xM S mL_lineTop [.ref 0, .int p, .int ln, .ref 146] (E W H n m)) (fun e => xM S mX13_lineTop [.ref 90, .int p, .int ln] e) := by
  obtain ⟨R, l, T, L, Z, c, K, cnt, St, C, M, XO, XR, CX⟩ := id X
  by_cases v : 0 ≤ p.toInt ∧ p.toInt ≤ 3
  · obtain ⟨pk, hp, rfl⟩ := page_of v
    obtain ⟨r, c1, c2⟩ := clineTop_in (S := S) (n := n) hW hH C.1 hp ln
    by_cases e : r = -1
    · rw [if_pos e] at c2
      obtain ⟨r2, d1, d2⟩ := mlineTop_in (S := S) (n := n) hW8 hW hH8 hH M.1 hp (C.1 pk hp).2 ln
      rw [if_pos ((tpQ_one hH d1 c1).trans e)] at d2
      exact AG_ex hW hH X (by decide) (W_lineTop_sIO c2) d2
    · rw [if_neg e] at c2
      obtain ⟨r2, d1, d2⟩ := mlineTop_in (S := S) (n := n) (m := sL m 146 0 r.toInt64) hW8 hW hH8 hH (RM_law M).1 hp (C.1 pk hp).2 ln
      have e2 := tpQ_one hH d1 c1
      subst e2
      rw [if_neg e] at d2
      exact AG_ok hW hH X (W_lineTop c2) d2
  · exact AG_ex hW hH X (by decide) (W_lineTop_sIO (clineTop_np v)) (mlineTop_np v)
theorem AG_lineBottom (hW8 : 8 ≤ W) (hW : W ≤ 64) (hH8 : 8 ≤ H) (hH : H ≤ 64) (X : Rep W H n m) (p ln : Int32) : AG W H n m (xM S mL_lineBottom [.ref 0, .int p, .int ln, .ref 146] (E W H n m)) (fun e => xM S mX13_lineBottom [.ref 90, .int p, .int ln] e) := by
  obtain ⟨R, l, T, L, Z, c, K, cnt, St, C, M, XO, XR, CX⟩ := id X
  by_cases v : 0 ≤ p.toInt ∧ p.toInt ≤ 3
  · obtain ⟨pk, hp, rfl⟩ := page_of v
    have no : ∀ {t b : Nat}, tpQ (R pk) H ln (nI t) → btQ (R pk) H t b → ¬ tpQ (R pk) H ln (-1) := fun {t b} q bt w => nI_nm1 (by have := bt.1; have := bt.2.1; omega) (tpQ_one hH q w)
    rcases clineBottom_in (S := S) (n := n) hW hH C.1 hp ln with ⟨c1, c2⟩ | ⟨t, b, c1, c3, c2⟩
    · rcases mlineBottom_in (S := S) (n := n) hW8 hW hH8 hH M.1 hp (C.1 pk hp).2 ln with ⟨d1, d2⟩ | ⟨t, b, d1, d3, d2⟩
      · exact AG_ex hW hH X (by decide) (W_lineBottom_sIO c2) d2
      · exact absurd c1 (no d1 d3)
    · rcases mlineBottom_in (S := S) (n := n) (m := sL m 146 0 (nI b).toInt64) hW8 hW hH8 hH (RM_law M).1 hp (C.1 pk hp).2 ln with ⟨d1, d2⟩ | ⟨t', b', d1, d3, d2⟩
      · exact absurd d1 (no c1 c3)
      · have et : t' = t := (nI_eq (by have := d3.1; have := d3.2.1; omega) (by have := c3.1; have := c3.2.1; omega)).mp (tpQ_one hH d1 c1)
        subst et
        have eb := btQ_one d3 c3
        subst eb
        exact AG_ok hW hH X (W_lineBottom c2) d2
  · exact AG_ex hW hH X (by decide) (W_lineBottom_sIO (clineBottom_np v)) (mlineBottom_np v)
theorem AG_words (hW8 : 8 ≤ W) (hW : W ≤ 64) (hH8 : 8 ≤ H) (hH : H ≤ 64) (X : Rep W H n m) (p ln g : Int32) : AG W H n m (xM S mL_words [.ref 0, .int p, .int ln, .int g, .ref 146] (E W H n m)) (fun e => xM S mX13_words [.ref 90, .int p, .int ln, .int g] e) := by
  obtain ⟨R, l, T, L, Z, c, K, cnt, St, C, M, XO, XR, CX⟩ := id X
  by_cases v : 0 ≤ p.toInt ∧ p.toInt ≤ 3
  · obtain ⟨pk, hp, rfl⟩ := page_of v
    have no : ∀ {t b : Nat}, tpQ (R pk) H ln (nI t) → btQ (R pk) H t b → ¬ tpQ (R pk) H ln (-1) := fun {t b} q bt w => nI_nm1 (by have := bt.1; have := bt.2.1; omega) (tpQ_one hH q w)
    rcases cwords_in (S := S) (n := n) hW hH C.1 hp ln g with ⟨c1, c2⟩ | ⟨c1, cg, c2⟩ | ⟨t, b, c1, c3, cg, c2⟩
    · rcases mwords_in (S := S) (n := n) hW8 hW hH8 hH M.1 hp (C.1 pk hp).2 ln g with ⟨d1, d2⟩ | ⟨d1, dg, d2⟩ | ⟨t, b, d1, d3, dg, d2⟩
      · exact AG_ex hW hH X (by decide) (W_words_sIO c2) d2
      · exact absurd c1 d1
      · exact absurd c1 (no d1 d3)
    · rcases mwords_in (S := S) (n := n) hW8 hW hH8 hH M.1 hp (C.1 pk hp).2 ln g with ⟨d1, d2⟩ | ⟨d1, dg, d2⟩ | ⟨t, b, d1, d3, dg, d2⟩
      · exact absurd d1 c1
      · exact AG_ex hW hH X (by decide) (W_words_sIA c2) d2
      · exact absurd dg cg
    · rcases mwords_in (S := S) (n := n) (m := sL m 146 0 (nI (wdC (R pk) W t b g.toInt.toNat)).toInt64) hW8 hW hH8 hH (RM_law M).1 hp (C.1 pk hp).2 ln g with ⟨d1, d2⟩ | ⟨d1, dg, d2⟩ | ⟨t', b', d1, d3, dg, d2⟩
      · exact absurd d1 (no c1 c3)
      · exact absurd cg dg
      · have et : t' = t := (nI_eq (by have := d3.1; have := d3.2.1; omega) (by have := c3.1; have := c3.2.1; omega)).mp (tpQ_one hH d1 c1)
        subst et
        have eb := btQ_one d3 c3
        subst eb
        exact AG_ok hW hH X (W_words c2) d2
  · exact AG_ex hW hH X (by decide) (W_words_sIO (cwords_np v)) (mwords_np v)
theorem AG_despeckle (hW8 : 8 ≤ W) (hW : W ≤ 64) (hH8 : 8 ≤ H) (hH : H ≤ 64) (X : Rep W H n m) (p k : Int32) : AG W H n m (xM S mL_despeckle [.ref 0, .int p, .int k, .ref 146] (E W H n m)) (fun e => xM S mX13_despeckle [.ref 90, .int p, .int k] e) := by
  obtain ⟨R, l, T, L, Z, c, K, cnt, St, C, M, XO, XR, CX⟩ := id X
  by_cases v : 0 ≤ p.toInt ∧ p.toInt ≤ 3
  · obtain ⟨pk, hp, rfl⟩ := page_of v
    by_cases u : 0 ≤ k.toInt ∧ k.toInt ≤ 64
    · obtain ⟨m1, g, c1, c2, c3, c4, c5, c6, c7⟩ := cdesp_in (S := S) (n := n) hW hH8 hH C.1 C.2.1 C.2.2.1 hp u.1 u.2
      have Q1 : fr clE m m1 := fr_mono c7 (cl_in (fun a j h => by unfold cdP hsP bP0 at h; simp at h; exact clE_y (by omega)))
      obtain ⟨m2, d1, d2, d3, d4⟩ := mdesp_in (S := S) (n := n) (m := sL m1 146 0 (nI (gone (px (R pk)) k.toInt 4096)).toInt64) hW8 hW hH8 hH (RM_law (RM_cl M Q1)).1 (RM_law (RM_cl M Q1)).2.1 hp (C.1 pk hp).2 u.1 u.2 c3
      obtain ⟨x1, x2, x3, x4, x5, x6, x7, x8, x9⟩ := C
      have bn : ∀ {a j : Nat}, (a < 3 ∨ 32 ≤ a) → (fun a j => cdP a j || bP0 a j) a j = false := fun h => by show (_ || _) = false; rw [cdP_n (by omega), bP0_n (by omega)]; rfl
      have y : ∀ {a j : Nat}, (a < 91 ∨ 96 < a) → (a = 90 → j ≠ 6 ∧ j ≠ 10 ∧ j ≠ 11) → (fun a j => mdP a j || clP 94 a j) a j = false := fun h h2 => by show (_ || _) = false; rw [mdP_n (by omega) (by omega), clP_n (by omega) (by omega) (by omega) (by omega)]; rfl
      obtain ⟨z1, z2, z3, z4, z5, z6⟩ : RM (sI (sL m1 146 0 (nI (gone (px (R pk)) k.toInt 4096)).toInt64) 90 2 0) R l T L Z c K cnt St := RM_fr (RM_law (RM_cl M Q1)) (th_fr (v := 0)) (fun a j h => thP_n (by omega))
      have Q2 : fr mdE (sL m1 146 0 (nI (gone (px (R pk)) k.toInt 4096)).toInt64) m2 := fr_tr (th_md (k := 0)) (fr_mono d4 (md_in (fun a j h => by unfold mdP edP clP at h; simp at h; exact mdE_y (by omega))))
      exact AG_st hW hH ⟨c5, c6, c4, txC_fr x4 c7 (fun a j _ _ => bn (by omega)), cfX_fr x5 c7 (bn (by omega)) (fun j => bn (by omega)) (fun j => bn (by omega)), mkC_fr x6 c7 (bn (by omega)) (fun a j _ _ => bn (by omega)), cstM_fr x7 c7 (fun a j _ _ => bn (by omega)), imgC_fr x8 c7 (fun a j _ => bn (by omega)), fdI_fr x9 c7 (fun j => bn (by omega))⟩ XO XR CX Q1 (W_despeckle c1) d1 ⟨d2, d3, txM_fr z3 d4 (fun a j q => y (by omega) (by omega)), cfX_fr z4 d4 (y (by omega) (by omega)) (fun j => y (by omega) (by omega)) (fun j => y (by omega) (by omega)), mkM_fr z5 d4 (y (by omega) (by omega)) (fun a j _ _ => y (by omega) (by omega)), mstM_fr z6 d4 (fun a j q => y (by omega) (by omega))⟩ ((fr_i d4 90 2 (y (by omega) (by omega))).trans (sI_eq ⟨rfl, rfl⟩)) Q2
    · exact AG_ex hW hH X (by decide) (W_despeckle_sIA (cdesp_nk hp u)) (mdesp_nk hp u)
  · exact AG_ex hW hH X (by decide) (W_despeckle_sIO (cdespeckle_np v)) (mdespeckle_np v)
end AG2

/-! AGREEMENT: masks, stamps, report, noise, accepting; calls without a wrapper; comparing -/
/-- both sides of a call that the law makes without a wrapper -/
def AGD (W H n : Nat) (m : mM) (rc : Option xO) (rm : xH → Option xO) : Prop := ∃ m1 n' c s v m2, rc = some (.inl (some (.int v)), E W H n' m1, c, s) ∧ rm (E W H n' m1) = some (.inl (some (.int v)), E W H n' m2, 0, 0) ∧ Rep W H n' m2 ∧ n ≤ n' ∧ c ≤ 1 + 5 * (n' - n) ∧ s ≤ 6 + 159 * (n' - n)
section AG5
variable {S : xS} {W H n : Nat} {m m1 : mM} {R : Nat → Nat → Int64} {l : hL} {T : Nat → Nat} {L : Nat} {Z : ((Nat → Nat) × Nat × (Nat → Nat))} {c : Nat} {K : Nat → Nat → Int32} {cnt : Nat} {St : stT} {P : Nat → Nat → Bool}
theorem RC_mk (C : RC W H n m R l T L Z c K cnt St) (Q : fr P m m1) (h : ∀ a j, a < 90 → ¬ (40 ≤ a ∧ a < 46) → ¬ (a = 0 ∧ j = 8) → P a j = false) {c' : Nat} {K' : Nat → Nat → Int32} (y : mkC m1 c' K') : RC W H n m1 R l T L Z c' K' cnt St := by
  obtain ⟨x1, x2, x3, x4, x5, x6, x7, x8, x9⟩ := C
  exact ⟨pgC_fr x1 Q (fun a j _ _ => h a j (by omega) (by omega) (by omega)), hsC_fr x2 Q (fun a j _ _ => h a j (by omega) (by omega) (by omega)), bkO_fr x3 Q (fun a j _ _ => h a j (by omega) (by omega) (by omega)), txC_fr x4 Q (fun a j _ _ => h a j (by omega) (by omega) (by omega)), cfX_fr x5 Q (h _ _ (by omega) (by omega) (by omega)) (fun j => h _ _ (by omega) (by omega) (by omega)) (fun j => h _ _ (by omega) (by omega) (by omega)), y, cstM_fr x7 Q (fun a j _ _ => h a j (by omega) (by omega) (by omega)), imgC_fr x8 Q (fun a j _ => h a j (by omega) (by omega) (by omega)), fdI_fr x9 Q (fun j => h _ _ (by omega) (by omega) (by omega))⟩
theorem RC_sp (C : RC W H n m R l T L Z c K cnt St) (Q : fr P m m1) (h : ∀ a j, a < 90 → ¬ (48 ≤ a ∧ a ≤ 63) → P a j = false) {cnt' : Nat} {St' : stT} (y : cstM m1 cnt' St') : RC W H n m1 R l T L Z c K cnt' St' := by
  obtain ⟨x1, x2, x3, x4, x5, x6, x7, x8, x9⟩ := C
  exact ⟨pgC_fr x1 Q (fun a j _ _ => h a j (by omega) (by omega)), hsC_fr x2 Q (fun a j _ _ => h a j (by omega) (by omega)), bkO_fr x3 Q (fun a j _ _ => h a j (by omega) (by omega)), txC_fr x4 Q (fun a j _ _ => h a j (by omega) (by omega)), cfX_fr x5 Q (h _ _ (by omega) (by omega)) (fun j => h _ _ (by omega) (by omega)) (fun j => h _ _ (by omega) (by omega)), mkC_fr x6 Q (h _ _ (by omega) (by omega)) (fun a j _ _ => h a j (by omega) (by omega)), y, imgC_fr x8 Q (fun a j _ => h a j (by omega) (by omega)), fdI_fr x9 Q (fun j => h _ _ (by omega) (by omega))⟩
theorem RC_tx (C : RC W H n m R l T L Z c K cnt St) (Q : fr P m m1) (h : ∀ a j, a < 90 → ¬ (32 ≤ a ∧ a ≤ 38) → P a j = false) {T' : Nat → Nat} {L' : Nat} {Z' : ((Nat → Nat) × Nat × (Nat → Nat))} (y : txC m1 T' L') (z : cfX m1 34 2 35 36 Z') : RC W H n m1 R l T' L' Z' c K cnt St := by
  obtain ⟨x1, x2, x3, x4, x5, x6, x7, x8, x9⟩ := C
  exact ⟨pgC_fr x1 Q (fun a j _ _ => h a j (by omega) (by omega)), hsC_fr x2 Q (fun a j _ _ => h a j (by omega) (by omega)), bkO_fr x3 Q (fun a j _ _ => h a j (by omega) (by omega)), y, z, mkC_fr x6 Q (h _ _ (by omega) (by omega)) (fun a j _ _ => h a j (by omega) (by omega)), cstM_fr x7 Q (fun a j _ _ => h a j (by omega) (by omega)), imgC_fr x8 Q (fun a j _ => h a j (by omega) (by omega)), fdI_fr x9 Q (fun j => h _ _ (by omega) (by omega))⟩
theorem RM_mk (M : RM m R l T L Z c K cnt St) (Q : fr P m m1) (h : ∀ a j, (91 ≤ a ∧ a ≤ 113 ∧ ¬ (107 ≤ a ∧ a ≤ 110)) ∨ (a = 90 ∧ (j = 6 ∨ j = 13 ∨ j = 16 ∨ j = 34)) → P a j = false) {c' : Nat} {K' : Nat → Nat → Int32} (y : mkM m1 c' K') : RM m1 R l T L Z c' K' cnt St := by
  obtain ⟨x1, x2, x3, x4, x5, x6⟩ := M
  exact ⟨inkM_fr x1 Q (fun j => h _ _ (by omega)), paM_fr x2 Q (fun a j w => h a j (by omega)), txM_fr x3 Q (fun a j w => h a j (by omega)), cfX_fr x4 Q (h _ _ (by omega)) (fun j => h _ _ (by omega)) (fun j => h _ _ (by omega)), y, mstM_fr x6 Q (fun a j w => h a j (by omega))⟩
theorem RM_sp (M : RM m R l T L Z c K cnt St) (Q : fr P m m1) (h : ∀ a j, (91 ≤ a ∧ a ≤ 110) ∨ (a = 90 ∧ (j = 6 ∨ j = 13 ∨ j = 16 ∨ j = 30)) → P a j = false) {cnt' : Nat} {St' : stT} (y : mstM m1 cnt' St') : RM m1 R l T L Z c K cnt' St' := by
  obtain ⟨x1, x2, x3, x4, x5, x6⟩ := M
  exact ⟨inkM_fr x1 Q (fun j => h _ _ (by omega)), paM_fr x2 Q (fun a j w => h a j (by omega)), txM_fr x3 Q (fun a j w => h a j (by omega)), cfX_fr x4 Q (h _ _ (by omega)) (fun j => h _ _ (by omega)) (fun j => h _ _ (by omega)), mkM_fr x5 Q (h _ _ (by omega)) (fun a j _ _ => h a j (by omega)), y⟩
theorem RM_tx (M : RM m R l T L Z c K cnt St) (Q : fr P m m1) (h : ∀ a j, (91 ≤ a ∧ a ≤ 113 ∧ a ≠ 97 ∧ a ≠ 98 ∧ a ≠ 99 ∧ a ≠ 104 ∧ a ≠ 105) ∨ (a = 90 ∧ (j = 6 ∨ j = 30 ∨ j = 34)) → P a j = false) {T' : Nat → Nat} {L' : Nat} {Z' : ((Nat → Nat) × Nat × (Nat → Nat))} (y : txM m1 T' L') (z : cfM m1 Z') : RM m1 R l T' L' Z' c K cnt St := by
  obtain ⟨x1, x2, x3, x4, x5, x6⟩ := M
  exact ⟨inkM_fr x1 Q (fun j => h _ _ (by omega)), paM_fr x2 Q (fun a j w => h a j (by omega)), y, z, mkM_fr x5 Q (h _ _ (by omega)) (fun a j _ _ => h a j (by omega)), mstM_fr x6 Q (fun a j w => h a j (by omega))⟩
theorem RC_fr2 (C : RC W H n m R l T L Z c K cnt St) (Q : fr P m m1) (h : ∀ a j, a < 90 → a ≠ 67 → a ≠ 68 → a ≠ 89 → P a j = false) : RC W H n m1 R l T L Z c K cnt St := by
  obtain ⟨x1, x2, x3, x4, x5, x6, x7, x8, x9⟩ := C
  have g : ∀ a j, (a < 67 ∨ (69 ≤ a ∧ a ≤ 88)) → P a j = false := fun a j w => h a j (by omega) (by omega) (by omega) (by omega)
  exact ⟨pgC_fr x1 Q (fun a j _ _ => g a j (by omega)), hsC_fr x2 Q (fun a j _ _ => g a j (by omega)), bkO_fr x3 Q (fun a j _ _ => g a j (by omega)), txC_fr x4 Q (fun a j _ _ => g a j (by omega)), cfX_fr x5 Q (g _ _ (by omega)) (fun j => g _ _ (by omega)) (fun j => g _ _ (by omega)), mkC_fr x6 Q (g _ _ (by omega)) (fun a j _ _ => g a j (by omega)), cstM_fr x7 Q (fun a j _ _ => g a j (by omega)), imgC_fr x8 Q (fun a j _ => g a j (by omega)), fdI_fr x9 Q (fun j => g _ _ (by omega))⟩
theorem RM_fr2 (M : RM m R l T L Z c K cnt St) (Q : fr P m m1) (h : ∀ a j, ((91 ≤ a ∧ a ≤ 93) ∨ (97 ≤ a ∧ a ≤ 99) ∨ (107 ≤ a ∧ a ≤ 113)) ∨ (a = 90 ∧ (j = 6 ∨ j = 13 ∨ j = 16 ∨ j = 30 ∨ j = 34)) → P a j = false) : RM m1 R l T L Z c K cnt St := by
  obtain ⟨x1, x2, x3, x4, x5, x6⟩ := M
  exact ⟨inkM_fr x1 Q (fun j => h _ _ (by omega)), paM_fr x2 Q (fun a j w => h a j (by omega)), txM_fr x3 Q (fun a j w => h a j (by omega)), cfX_fr x4 Q (h _ _ (by omega)) (fun j => h _ _ (by omega)) (fun j => h _ _ (by omega)), mkM_fr x5 Q (h _ _ (by omega)) (fun a j _ _ => h a j (by omega)), mstM_fr x6 Q (fun a j w => h a j (by omega))⟩
theorem mkc_n {a j : Nat} (h : a < 40 ∨ 46 ≤ a) (h2 : a = 0 → j ≠ 8) : ((decide (40 ≤ a) && decide (a < 46)) || (a == 0 && j == 8)) = false := by
  simp
  omega
theorem mkm_n {a j : Nat} (h : a < 107 ∨ 111 ≤ a) (h2 : a = 90 → j ≠ 30 ∧ j ≠ 2) : ((decide (107 ≤ a) && decide (a < 111)) || (a == 90 && (j == 30 || j == 2))) = false := by
  simp
  omega
theorem AG_addMask (hW : W ≤ 64) (hH : H ≤ 64) (X : Rep W H n m) (x y w h : Int32) : AG W H n m (xM S mL_addMask [.ref 0, .int x, .int y, .int w, .int h, .ref 146] (E W H n m)) (fun e => xM S mX13_addMask [.ref 90, .int x, .int y, .int w, .int h] e) := by
  obtain ⟨R, l, T, L, Z, c, K, cnt, St, C, M, XO, XR, CX⟩ := id X
  by_cases v : inM x w W ∧ inM y h H
  · have c6 := C.2.2.2.2.2.1.2.1
    by_cases f : c < 6
    · obtain ⟨m1, c1, c2, c3⟩ := caddMask_in (S := S) (n := n) hW hH C.2.2.2.2.2.1 f v.1 v.2
      have Q1 : fr clE m m1 := fr_mono c3 (cl_in (fun a j h => by simp at h; exact clE_y (by omega)))
      have M1 : RM (sL m1 146 0 (nI (c + 1)).toInt64) R l T L Z c K cnt St := RM_law (RM_cl M Q1)
      obtain ⟨m2, d1, d2, d3, d4⟩ := maddMask_in (S := S) (n := n) hW hH M1.2.2.2.2.1 f v.1 v.2
      exact AG_st hW hH (RC_mk C c3 (fun a j h1 h2 h3 => mkc_n (by omega) (by omega)) c2) XO XR CX Q1 (W_addMask c1) d1 (RM_mk M1 d4 (fun a j h => mkm_n (by omega) (by omega)) d2) d3 (fr_mono d4 (md_in (fun a j h => by simp at h; exact mdE_y (by omega))))
    · exact AG_ex hW hH X (by decide) (W_addMask_sIS (caddMask_full hW hH C.2.2.2.2.2.1 (by omega) v.1 v.2)) (maddMask_full hW hH M.2.2.2.2.1 (by omega) v.1 v.2)
  · exact AG_ex hW hH X (by decide) (W_addMask_sIA (caddMask_out hW hH v)) (maddMask_out hW hH v)
theorem AG_removeMask (hW : W ≤ 64) (hH : H ≤ 64) (X : Rep W H n m) (x : Int32) : AG W H n m (xM S mL_removeMask [.ref 0, .int x, .ref 146] (E W H n m)) (fun e => xM S mX13_removeMask [.ref 90, .int x] e) := by
  obtain ⟨R, l, T, L, Z, c, K, cnt, St, C, M, XO, XR, CX⟩ := id X
  have c6 := C.2.2.2.2.2.1.2.1
  by_cases v : 0 ≤ x.toInt ∧ x.toInt < c
  · obtain ⟨i, hi, rfl⟩ : ∃ i, i < c ∧ x = nI i := ⟨x.toInt.toNat, by omega, n_of v.1⟩
    obtain ⟨m1, c1, c2, c3⟩ := cremove_in (S := S) (W := W) (H := H) (n := n) C.2.2.2.2.2.1 hi
    have Q1 : fr clE m m1 := fr_mono c3 (cl_in (fun a j h => by simp at h; exact clE_y (by omega)))
    have M1 : RM (sL m1 146 0 (nI (c - 1)).toInt64) R l T L Z c K cnt St := RM_law (RM_cl M Q1)
    obtain ⟨m2, d1, d2, d3, d4⟩ := mremove_in (S := S) (W := W) (H := H) (n := n) c6 M1.2.2.2.2.1 hi
    exact AG_st hW hH (RC_mk C c3 (fun a j h1 h2 h3 => mkc_n (by omega) (by omega)) c2) XO XR CX Q1 (W_removeMask c1) d1 (RM_mk M1 d4 (fun a j h => mkm_n (by omega) (by omega)) d2) d3 (fr_mono d4 (md_in (fun a j h => by simp at h; exact mdE_y (by omega))))
  · exact AG_ex hW hH X (by decide) (W_removeMask_sIO (cremove_out C.2.2.2.2.2.1 v)) (mremove_out c6 M.2.2.2.2.1 v)
theorem AG_forgetStamp (hW : W ≤ 64) (hH : H ≤ 64) (X : Rep W H n m) (x : Int32) : AG W H n m (xM S mL_forgetStamp [.ref 0, .int x, .ref 146] (E W H n m)) (fun e => xM S mX13_forgetStamp [.ref 90, .int x] e) := by
  obtain ⟨R, l, T, L, Z, c, K, cnt, St, C, M, XO, XR, CX⟩ := id X
  by_cases v : 0 ≤ x.toInt ∧ x.toInt < cnt
  · obtain ⟨i, hi, rfl⟩ : ∃ i, i < cnt ∧ x = nI i := ⟨x.toInt.toNat, by omega, n_of v.1⟩
    obtain ⟨m1, c1, c2, c3⟩ := cforget_in (S := S) (W := W) (H := H) (n := n) C.2.2.2.2.2.2.1 hi
    have Q1 : fr clE m m1 := fr_mono c3 (cl_in (fun a j h => by unfold fgP at h; simp at h; exact clE_y (by omega)))
    have M1 : RM (sL m1 146 0 (nI (cnt - 1)).toInt64) R l T L Z c K cnt St := RM_law (RM_cl M Q1)
    obtain ⟨m2, d1, d2, d3, d4⟩ := mforget_in (S := S) (W := W) (H := H) (n := n) M1.2.2.2.2.2 hi
    exact AG_st hW hH (RC_sp C c3 (fun a j h1 h2 => fgP_n (by omega) (by omega)) c2) XO XR CX Q1 (W_forgetStamp c1) d1 (RM_sp M1 d4 (fun a j h => mlP_n (by omega) (by omega)) d2) d3 (fr_mono d4 (md_in (fun a j h => by unfold mlP at h; simp at h; exact mdE_y (by omega))))
  · exact AG_ex hW hH X (by decide) (W_forgetStamp_sIO (cforget_out C.2.2.2.2.2.2.1 v)) (mforget_out M.2.2.2.2.2 v)
theorem AG_reportChar (hW8 : 8 ≤ W) (hW : W ≤ 64) (hH8 : 8 ≤ H) (hH : H ≤ 64) (X : Rep W H n m) (x : Int32) : AG W H n m (xM S mL_reportChar [.ref 0, .int x, .ref 146] (E W H n m)) (fun e => xM S mX13_reportChar [.ref 90, .int x] e) := by
  obtain ⟨R, l, Tx, L, Z, mc, K, cn, Sn, C, M, XO, XR, CX⟩ := id X
  rcases id CX with ⟨x1, x2, x3⟩ | ⟨x1, x2, O, T, Al, Ms, Ad, B, noise, lst, od, hd, St, cnt, dx, dy, sk, tu, cc, k, c, mm⟩
  · exact AG_ex hW hH X (by decide) (W_reportChar_sIS (creportChar_no x1 x)) (mreportChar_no x2 x)
  · by_cases v : 0 ≤ x.toInt
    · have rg := fb_rng x
      obtain ⟨i, hi, rfl⟩ : ∃ i, i < 2147483648 ∧ x = nI i := ⟨x.toInt.toNat, by omega, n_of v⟩
      have N128 := qN_le W H Ms Ad B noise
      obtain ⟨_, _, _, _, _, _, _, ⟨l1, l2⟩, c7, ⟨d1, d2⟩, ⟨d3, d4⟩, d5, d6⟩ := k
      obtain ⟨m1, c1, c2⟩ := creportChar_in (S := S) (W := W) (H := H) (n := n) x1 N128 c.1 c7 (qO_lt W H Ms Ad B noise od) c.2.2.2.2.2.2.2.2.2.1 c.2.2.2.2.2.2.2.2.2.2.1 (fun i j h => by obtain ⟨h1, h2, _⟩ := prL_lt _ i j h; exact ⟨h1, h2⟩) c.2.2.2.2.2.2.2.2.2.2.2 hi d1 d2 d3 d4 d5 d6 c.2.2.2.2.2.2.1.1 c.2.2.2.2.2.2.1.2.1 c.2.2.2.2.2.2.1.2.2.1 c.2.2.2.2.2.2.1.2.2.2.1
      have Q1 : fr clE m m1 := fr_mono c2 (cl_in (fun a j h => by unfold prP at h; simp at h; exact clE_y (by omega)))
      have tl := rpAll_len2 (W := W) (PF := qF W H Ms Ad B noise od) (L := qA W H Ms Ad B noise od lst) (hd := hd) (St := St) hH (fun p => PFm_ok hW Ms Ad (qP W H Ms Ad B noise) B (qO W H Ms Ad B noise od) p) c7 (2 * qN W H Ms Ad B noise)
      have hl := hdT_len dx dy sk tu (fb_ct (liB (qF W H Ms Ad B noise od) (qA W H Ms Ad B noise od lst) hd St cnt) (2 * qN W H Ms Ad B noise))
      have o1 : ouI m1 0 (hdT dx dy sk tu (fb_ct (liB (qF W H Ms Ad B noise od) (qA W H Ms Ad B noise od lst) hd St cnt) (2 * qN W H Ms Ad B noise)) ++ rpAll (qF W H Ms Ad B noise od) (qA W H Ms Ad B noise od lst) hd St cnt (2 * qN W H Ms Ad B noise)) := ⟨(fr_i c2 90 25 (prP_n (by omega))).trans mm.2.2.2.2.2.2.2.2.2.2.1, fun i hi => (fr_i c2 106 _ (prP_n (by omega))).trans (mm.2.2.2.2.2.2.2.2.2.2.2 i hi)⟩
      have h2 : ∀ w : Int64, _ := fun w => mreportChar_in (S := S) (W := W) (H := H) (n := n) (m := sL m1 146 0 w) ((fr_i c2 90 35 (prP_n (by omega))).trans x2) o1 (by rw [List.length_append]; omega) hi
      exact AG_st hW hH (RC_fr2 C c2 (fun a j _ _ _ h => prP_n h)) XO XR CX Q1 (W_reportChar c1) (h2 _) (RM_fr (RM_law (RM_cl M Q1)) (th_fr (v := 0)) (fun a j h => thP_n (by omega))) (sI_eq ⟨rfl, rfl⟩) th_md
    · exact AG_ex hW hH X (by decide) (W_reportChar_sIO (creportChar_out x1 v)) (mreportChar_out x2 v)
end AG5

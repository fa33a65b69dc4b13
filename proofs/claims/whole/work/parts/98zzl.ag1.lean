/-! AGREEMENT: edits of pages -/
theorem cdP_n {a j : Nat} (h : a < 3 ∨ 30 ≤ a) : cdP a j = false := by
  unfold cdP hsP
  simp
  omega
theorem cd_cl (a j : Nat) (w : clE a j = false) : cdP a j = false := cl_in (fun a j h => by unfold cdP hsP at h; simp at h; exact clE_y (by omega)) a j w
theorem mdP_md (a j : Nat) (w : mdE a j = false) : mdP a j = false := md_in (fun a j h => by unfold mdP edP at h; simp at h; exact mdE_y (by omega)) a j w
theorem mdP_n {a j : Nat} (h : a < 91 ∨ 94 < a) (h2 : a = 90 → j ≠ 6) : mdP a j = false := by
  unfold mdP edP
  simp
  omega
section AG1
variable {W H n : Nat} {m m1 m2 : mM} {R : Nat → Nat → Int64} {l : hL} {T : Nat → Nat} {L : Nat} {Z : ((Nat → Nat) × Nat × (Nat → Nat))} {c : Nat} {K : Nat → Nat → Int32} {cnt : Nat} {St : stT}
theorem RC_edit (C : RC W H n m R l T L Z c K cnt St) {p : Nat} {g : Nat → Int64} (A : ceA m m1 W H R l p g) : RC W H n m1 (pgS R p g) (hsN l (p, R p)) T L Z c K cnt St ∧ fr clE m m1 := by
  obtain ⟨x1, x2, x3, x4, x5, x6, x7, x8, x9⟩ := C
  obtain ⟨a1, a2, Q⟩ := A
  exact ⟨⟨a1, a2, bkO_fr x3 Q (fun a j _ _ => cdP_n (by omega)), txC_fr x4 Q (fun a j _ _ => cdP_n (by omega)), cfX_fr x5 Q (cdP_n (by omega)) (fun j => cdP_n (by omega)) (fun j => cdP_n (by omega)), mkC_fr x6 Q (cdP_n (by omega)) (fun a j _ _ => cdP_n (by omega)), cstM_fr x7 Q (fun a j _ _ => cdP_n (by omega)), imgC_fr x8 Q (fun a j _ => cdP_n (by omega)), fdI_fr x9 Q (fun j => cdP_n (by omega))⟩, fr_mono Q cd_cl⟩
theorem RM_edit (M : RM m R l T L Z c K cnt St) {p : Nat} {g : Nat → Int64} (A : mdA (sI m 90 2 0) m2 R l p g) : RM m2 (pgS R p g) (hsN l (p, R p)) T L Z c K cnt St ∧ m2.1 90 2 = 0 ∧ fr mdE m m2 := by
  obtain ⟨a1, a2, Q⟩ := A
  obtain ⟨x1, x2, x3, x4, x5, x6⟩ := RM_fr M (th_fr (v := 0)) (fun a j h => thP_n (by omega))
  exact ⟨⟨a1, a2, txM_fr x3 Q (fun a j w => mdP_n (by omega) (by omega)), cfX_fr x4 Q (mdP_n (by omega) (by omega)) (fun j => mdP_n (by omega) (by omega)) (fun j => mdP_n (by omega) (by omega)), mkM_fr x5 Q (mdP_n (by omega) (by omega)) (fun a j _ _ => mdP_n (by omega) (by omega)), mstM_fr x6 Q (fun a j w => mdP_n (by omega) (by omega))⟩, (fr_i Q 90 2 (mdP_n (by omega) (by omega))).trans (sI_eq ⟨rfl, rfl⟩), fr_tr th_md (fr_mono Q mdP_md)⟩
theorem AG_edit (hW : W ≤ 64) (hH : H ≤ 64) {rc : Option xO} {rm : xH → Option xO} (C : RC W H n m R l T L Z c K cnt St) (M : RM m R l T L Z c K cnt St) (XO : cfO Z) (XR : cfR Z) (CX : CM W H n m) {p : Nat} {g : Nat → Int64} (A : ceA m m1 W H R l p g) {v : Int32} (hc : rc = some (.inl (some (.int 0)), E W H n (sL m1 146 0 v.toInt64), 0, 0)) (hm : ∀ w : Int64, RM (sL m1 146 0 w) R l T L Z c K cnt St → ∃ m2, rm (E W H n (sL m1 146 0 w)) = some (.inl (some (.int v)), E W H n m2, 0, 0) ∧ mdA (sI (sL m1 146 0 w) 90 2 0) m2 R l p g) : AG W H n m rc rm := by
  obtain ⟨c1, c2⟩ := RC_edit C A
  have M1 : RM (sL m1 146 0 v.toInt64) R l T L Z c K cnt St := RM_law (RM_cl M c2)
  obtain ⟨m2, d1, d2⟩ := hm v.toInt64 M1
  obtain ⟨e1, e2, e3⟩ := RM_edit M1 d2
  exact AG_st hW hH c1 XO XR CX c2 hc d1 e1 e2 e3
end AG1
section AG1b
variable {S : xS} {W H n : Nat} {m : mM}
theorem AG_row (hW8 : 8 ≤ W) (hW : W ≤ 64) (hH8 : 8 ≤ H) (hH : H ≤ 64) (X : Rep W H n m) (p y : Int32) : AGJ W H n m (xM S mL_row [.ref 0, .int p, .int y, .ref 146] (E W H n m)) (fun h => xM S mX13_row [.ref 90, .int p, .int y] h) := by
  obtain ⟨R, l, T, L, Z, c, K, cnt, St, C, M, XO, XR, CX⟩ := id X
  by_cases v : (0 ≤ p.toInt ∧ p.toInt ≤ 3) ∧ 0 ≤ y.toInt ∧ y.toInt < H
  · obtain ⟨pk, hp, rfl⟩ := page_of v.1
    obtain ⟨yk, hy, rfl⟩ : ∃ k, k < H ∧ y = nI k := ⟨y.toInt.toNat, by omega, n_of v.2.1⟩
    exact AGJ_ok hW hH X (W_row (crow_in hW hH C.1 hp hy)) (mrow_in hW hH8 hH (RM_law M).1 hp hy (C.1 pk hp).2)
  · exact AGJ_ex hW hH X (by decide) (W_row_sIO (crow_out hH v)) (mrow_out hH8 hH v)
theorem AG_setRow (hW8 : 8 ≤ W) (hW : W ≤ 64) (hH8 : 8 ≤ H) (hH : H ≤ 64) (X : Rep W H n m) (p y : Int32) (b : Int64) : AG W H n m (xM S mL_setRow [.ref 0, .int p, .int y, .long b, .ref 146] (E W H n m)) (fun h => xM S mX13_setRow [.ref 90, .int p, .int y, .long b] h) := by
  obtain ⟨R, l, T, L, Z, c, K, cnt, St, C, M, XO, XR, CX⟩ := id X
  by_cases v : (0 ≤ p.toInt ∧ p.toInt ≤ 3) ∧ 0 ≤ y.toInt ∧ y.toInt < H
  · obtain ⟨pk, hp, rfl⟩ := page_of v.1
    obtain ⟨yk, hy, rfl⟩ : ∃ k, k < H ∧ y = nI k := ⟨y.toInt.toNat, by omega, n_of v.2.1⟩
    obtain ⟨m1, c1, c2⟩ := csetRow_in (S := S) (n := n) hW hH C.1 C.2.1 hp hy b
    exact AG_edit hW hH C M XO XR CX c2 (W_setRow c1) (fun w N => msetRow_in hW8 hW hH8 hH N.1 N.2.1 hp hy (C.1 pk hp).2 b)
  · exact AG_ex hW hH X (by decide) (W_setRow_sIO (csetRow_out hH v b)) (msetRow_out hH8 hH v b)
theorem AG_fill (hW8 : 8 ≤ W) (hW : W ≤ 64) (hH8 : 8 ≤ H) (hH : H ≤ 64) (X : Rep W H n m) (p x y w h : Int32) (b : Bool) : AG W H n m (xM S mL_fill [.ref 0, .int p, .int x, .int y, .int w, .int h, .int (bz b), .ref 146] (E W H n m)) (fun e => xM S mX13_fill [.ref 90, .int p, .int x, .int y, .int w, .int h, .int (bz b)] e) := by
  obtain ⟨R, l, T, L, Z, c, K, cnt, St, C, M, XO, XR, CX⟩ := id X
  by_cases v : 0 ≤ p.toInt ∧ p.toInt ≤ 3
  · obtain ⟨pk, hp, rfl⟩ := page_of v
    by_cases u : 0 ≤ w.toInt ∧ 0 ≤ h.toInt
    · obtain ⟨g, m1, c0, c1, c2⟩ := cfill_in (S := S) (n := n) hW8 hW hH C.1 C.2.1 hp (x := x) (y := y) u.1 u.2 b
      exact AG_edit hW hH C M XO XR CX c2 (W_fill c1) (fun w N => mfill_in hW8 hW hH8 hH N.1 N.2.1 hp (C.1 pk hp).2 u.1 u.2 b c0)
    · exact AG_ex hW hH X (by decide) (W_fill_sIA (cfill_np2 hp u)) (mfill_np2 hp u)
  · exact AG_ex hW hH X (by decide) (W_fill_sIO (cfill_np v)) (mfill_np v)
theorem AG_copy (hW8 : 8 ≤ W) (hW : W ≤ 64) (hH8 : 8 ≤ H) (hH : H ≤ 64) (X : Rep W H n m) (q p dx dy : Int32) : AG W H n m (xM S mL_copy [.ref 0, .int q, .int p, .int dx, .int dy, .ref 146] (E W H n m)) (fun e => xM S mX13_copy [.ref 90, .int q, .int p, .int dx, .int dy] e) := by
  obtain ⟨R, l, T, L, Z, c, K, cnt, St, C, M, XO, XR, CX⟩ := id X
  by_cases v : (0 ≤ q.toInt ∧ q.toInt ≤ 3) ∧ 0 ≤ p.toInt ∧ p.toInt ≤ 3
  · obtain ⟨pk, hp, rfl⟩ := page_of v.2
    obtain ⟨qk, hq, rfl⟩ := page_of v.1
    obtain ⟨g, m1, c0, c1, c2⟩ := ccopy_in (S := S) (n := n) hW hH C.1 C.2.1 hp hq dx dy
    exact AG_edit hW hH C M XO XR CX c2 (W_copy c1) (fun w N => mcopy_in hW8 hW hH8 hH N.1 N.2.1 hp hq dx dy c0)
  · exact AG_ex hW hH X (by decide) (W_copy_sIO (ccopy_np v)) (mcopy_np v)
theorem AG_merge (hW8 : 8 ≤ W) (hW : W ≤ 64) (hH8 : 8 ≤ H) (hH : H ≤ 64) (X : Rep W H n m) (p : Int32) : AG W H n m (xM S mL_merge [.ref 0, .int p, .ref 146] (E W H n m)) (fun e => xM S mX13_merge [.ref 90, .int p] e) := by
  obtain ⟨R, l, T, L, Z, c, K, cnt, St, C, M, XO, XR, CX⟩ := id X
  by_cases v : 0 ≤ p.toInt ∧ p.toInt ≤ 3
  · obtain ⟨pk, hp, rfl⟩ := page_of v
    obtain ⟨g, m1, c0, c1, c2⟩ := cmerge_in (S := S) (n := n) hW hH C.1 C.2.1 hp
    exact AG_edit hW hH C M XO XR CX c2 (W_merge c1) (fun w N => mmerge_in N.1 N.2.1 hp (fun p h => (C.1 p h).2) c0)
  · exact AG_ex hW hH X (by decide) (W_merge_sIO (cmerge_np v)) (mmerge_np v)
theorem AG_flip (hW8 : 8 ≤ W) (hW : W ≤ 64) (hH8 : 8 ≤ H) (hH : H ≤ 64) (X : Rep W H n m) (p k : Int32) : AG W H n m (xM S mL_flip [.ref 0, .int p, .int k, .ref 146] (E W H n m)) (fun e => xM S mX13_flip [.ref 90, .int p, .int k] e) := by
  obtain ⟨R, l, T, L, Z, c, K, cnt, St, C, M, XO, XR, CX⟩ := id X
  by_cases v : 0 ≤ p.toInt ∧ p.toInt ≤ 3
  · obtain ⟨pk, hp, rfl⟩ := page_of v
    by_cases u : 0 ≤ k.toInt ∧ k.toInt ≤ 2
    · obtain ⟨kk, hk, rfl⟩ : ∃ q, q < 3 ∧ k = nI q := ⟨k.toInt.toNat, by omega, n_of u.1⟩
      obtain ⟨g, c0⟩ := gB_ex H hW (flipF W H (R pk) kk)
      obtain ⟨m1, c1, c2⟩ := cflip_in (S := S) (n := n) hW hH C.1 C.2.1 hp hk c0
      exact AG_edit hW hH C M XO XR CX c2 (W_flip c1) (fun w N => mflip_in hW8 hW hH8 hH N.1 N.2.1 hp hk c0)
    · exact AG_ex hW hH X (by decide) (W_flip_sIA (cflip_nk hp u)) (mflip_nk hp u)
  · exact AG_ex hW hH X (by decide) (W_flip_sIO (cflip_np v)) (mflip_np v)
end AG1b

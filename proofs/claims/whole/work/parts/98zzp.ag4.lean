/-! AGREEMENT: what a comparison tells -/
theorem ptX_bx {m : mM} {p : Nat} {F : Nat → Int64} (X : ptX m p F) (ne : ctP F ≠ 0) : m.1 p 2 = nI (bxC F).1 ∧ m.1 p 3 = nI (bxC F).2.1 := by
  obtain ⟨_, l, t, r, b, h1, _, _, h2, h3⟩ := ptX_psh X ne
  rw [bxC_eq h1]
  exact ⟨h2, h3⟩
theorem ptB_bx {m : mM} {p : Nat} {F : Nat → Int64} (X : ptB m p F) : m.1 136 p = nI (bxC F).1 ∧ m.1 137 p = nI (bxC F).2.1 := by
  obtain ⟨l, t, r, b, h1, _, _, h2, h3, _, _⟩ := X
  rw [bxC_eq h1]
  exact ⟨h2, h3⟩
section CHG
variable {m : mM} {W H n : Nat} {O T Al Ms Ad : Nat → Int64} {B noise lst : Nat} {od hd : Bool} {St : stT} {cnt : Nat} {dx dy sk : Int} {tu : Bool} {cc : Nat}
noncomputable def qC (W H : Nat) (Ms Ad : Nat → Int64) (B noise lst : Nat) (od hd : Bool) (St : stT) (cnt : Nat) : Nat := fb_ct (liB (qF W H Ms Ad B noise od) (qA W H Ms Ad B noise od lst) hd St cnt) (2 * qN W H Ms Ad B noise)
theorem qC_le : qC W H Ms Ad B noise lst od hd St cnt ≤ 256 := by
  have := qN_le W H Ms Ad B noise
  have h : qC W H Ms Ad B noise lst od hd St cnt ≤ 2 * qN W H Ms Ad B noise := fb_ct_le _ _
  omega
theorem chg (c : cmC m W H n O T Al Ms Ad B noise lst od hd St cnt dx dy sk tu cc) (mm : cmM m W H O T Al Ms Ad B noise lst od hd St cnt dx dy sk tu cc) {i : Nat} (hi : i < qC W H Ms Ad B noise lst od hd St cnt) : ∃ q t, q < 2 * qN W H Ms Ad B noise ∧ (m.2.2 71 i = some (pcl (qO W H Ms Ad B noise od) q) ∧ ptA (pcl (qO W H Ms Ad B noise od) q) n ∧ ptX m (pcl (qO W H Ms Ad B noise od) q) (qF W H Ms Ad B noise od q) ∧ ctP (qF W H Ms Ad B noise od q) ≠ 0 ∧ m.2.2 (pcl (qO W H Ms Ad B noise od) q) 8 = t.map (fun j => 147 + 5 * qO W H Ms Ad B noise od j + 3) ∧ m.1 (pcl (qO W H Ms Ad B noise od) q) 7 = nI (q / 2) ∧ m.1 (pcl (qO W H Ms Ad B noise od) q) 9 = lnV O Al (qF W H Ms Ad B noise od) q) ∧ (∀ j, t = some j → j < qN W H Ms Ad B noise ∧ ctP (qF W H Ms Ad B noise od (2 * j + 1)) ≠ 0 ∧ qO W H Ms Ad B noise od j < n ∧ ptX m (147 + 5 * qO W H Ms Ad B noise od j + 3) (qF W H Ms Ad B noise od (2 * j + 1)) ∧ m.1 (147 + 5 * qO W H Ms Ad B noise od j + 3) 7 = nI j ∧ ptB m (2 * j + 1) (qF W H Ms Ad B noise od (2 * j + 1))) ∧ m.1 141 i = nI q ∧ m.1 142 i = pvI t ∧ m.1 143 i = lnV O Al (qF W H Ms Ad B noise od) q ∧ m.1 135 q = nI (ctP (qF W H Ms Ad B noise od q)) ∧ ptB m q (qF W H Ms Ad B noise od q) := by
  obtain ⟨hn, _, _, _, _, _, _, _, x9, x10, x11, x12⟩ := c
  obtain ⟨_, _, _, _, _, _, _, _, y9, y10, _⟩ := mm
  obtain ⟨q, q1, q2, q3⟩ := fb_ct_kth hi
  obtain ⟨r1, r2, r3⟩ := x12.2 q q1 q2
  obtain ⟨s1, s2, s3⟩ := y10.2 q q1 q2
  rw [q3] at r1 s1 s2 s3
  have y := q2
  unfold liB at y
  rw [Bool.and_eq_true, Bool.and_eq_true, decide_eq_true_eq] at y
  have oR := qO_lt W H Ms Ad B noise od (q / 2) (by omega)
  have hL : ∀ i j, (qA W H Ms Ad B noise od lst).2 i = some j → j < qN W H Ms Ad B noise ∧ ctP (qF W H Ms Ad B noise od (2 * j + 1)) = ctP (qF W H Ms Ad B noise od (2 * i)) := fun i j h => by
    obtain ⟨h1, h2, _⟩ := prL_lt _ i j h
    exact ⟨h1, h2⟩
  refine ⟨q, tgO (qA W H Ms Ad B noise od lst) q, q1, ⟨r1, pcl_A (by omega), rgO_p x10 q1, y.1.1, ?_, ?_, r2⟩, fun j hj => ?_, s1, s2, s3, (y9 q q1).1, (y9 q q1).2 y.1.1⟩
  · rcases Nat.mod_two_eq_zero_or_one q with w | w
    · rw [pcl_e w, x11.1 _ (by omega)]
      unfold tgO
      rw [if_pos w]
    · have y2 := y.1.2
      rw [decide_eq_false (by omega), Bool.false_or, Bool.not_eq_true'] at y2
      have j2 := x11.2 (q / 2) (by omega)
      rw [y2] at j2
      rw [pcl_o w]
      unfold tgO
      rw [if_neg (by omega)]
      cases hr : m.2.2 (147 + 5 * qO W H Ms Ad B noise od (q / 2) + 3) 8 with
      | none => rfl
      | some x => rw [hr] at j2; cases j2
  · obtain ⟨_, g1, g2⟩ := x9 (q / 2) (by omega)
    rcases Nat.mod_two_eq_zero_or_one q with w | w
    · rw [pcl_e w]; exact g1
    · rw [pcl_o w]; exact g2
  · have e : (qA W H Ms Ad B noise od lst).2 (q / 2) = some j ∧ q % 2 = 0 := by
      unfold tgO at hj
      split at hj
      · rename_i w
        exact ⟨hj, w⟩
      · cases hj
    obtain ⟨v1, v2⟩ := hL _ _ e.1
    have oj := qO_lt W H Ms Ad B noise od j v1
    have ne : ctP (qF W H Ms Ad B noise od (2 * j + 1)) ≠ 0 := by
      rw [v2, show 2 * (q / 2) = q by omega]
      exact y.1.1
    exact ⟨v1, ne, by omega, (x10 j v1).2.2, (x9 j v1).2.2, (y9 (2 * j + 1) (by omega)).2 ne⟩
end CHG
section AG4
variable {S : xS} {W H n : Nat} {m : mM}
theorem AG_shiftX (hW8 : 8 ≤ W) (hW : W ≤ 64) (hH8 : 8 ≤ H) (hH : H ≤ 64) (X : Rep W H n m) : AG W H n m (xM S mL_shiftX [.ref 0, .ref 146] (E W H n m)) (fun e => xM S mX13_shiftX [.ref 90] e) := by
  obtain ⟨R, l, Tx, L, Z, mc, K, cn, Sn, C, M, XO, XR, CX⟩ := id X
  rcases CX with ⟨x1, x2, x3⟩ | ⟨x1, x2, O, T, Al, Ms, Ad, B, noise, lst, od, hd, St, cnt, dx, dy, sk, tu, cc, k, c, mm⟩
  · exact AG_ex hW hH X (by decide) (W_shiftX_sIS (cshiftX_no x1)) (mshiftX_no x2)
  · have h := cshiftX_in (S := S) (W := W) (H := H) (n := n) x1
    rw [c.2.2.2.2.2.2.1.1] at h
    have h2 : ∀ v : Int64, xM S mX13_shiftX [.ref 90] (E W H n (sL m 146 0 v)) = some (.inl (some (.int (m.1 90 41))), E W H n (sI (sL m 146 0 v) 90 2 0), 0, 0) := fun v => mshiftX_in (m := sL m 146 0 v) x2
    rw [mm.2.2.2.2.2.1.1] at h2
    exact AG_ok hW hH X (W_shiftX h) (h2 _)
theorem AG_shiftY (hW8 : 8 ≤ W) (hW : W ≤ 64) (hH8 : 8 ≤ H) (hH : H ≤ 64) (X : Rep W H n m) : AG W H n m (xM S mL_shiftY [.ref 0, .ref 146] (E W H n m)) (fun e => xM S mX13_shiftY [.ref 90] e) := by
  obtain ⟨R, l, Tx, L, Z, mc, K, cn, Sn, C, M, XO, XR, CX⟩ := id X
  rcases CX with ⟨x1, x2, x3⟩ | ⟨x1, x2, O, T, Al, Ms, Ad, B, noise, lst, od, hd, St, cnt, dx, dy, sk, tu, cc, k, c, mm⟩
  · exact AG_ex hW hH X (by decide) (W_shiftY_sIS (cshiftY_no x1)) (mshiftY_no x2)
  · have h := cshiftY_in (S := S) (W := W) (H := H) (n := n) x1
    rw [c.2.2.2.2.2.2.1.2.1] at h
    have h2 : ∀ v : Int64, xM S mX13_shiftY [.ref 90] (E W H n (sL m 146 0 v)) = some (.inl (some (.int (m.1 90 42))), E W H n (sI (sL m 146 0 v) 90 2 0), 0, 0) := fun v => mshiftY_in (m := sL m 146 0 v) x2
    rw [mm.2.2.2.2.2.1.2.1] at h2
    exact AG_ok hW hH X (W_shiftY h) (h2 _)
theorem AG_skew (hW8 : 8 ≤ W) (hW : W ≤ 64) (hH8 : 8 ≤ H) (hH : H ≤ 64) (X : Rep W H n m) : AG W H n m (xM S mL_skew [.ref 0, .ref 146] (E W H n m)) (fun e => xM S mX13_skew [.ref 90] e) := by
  obtain ⟨R, l, Tx, L, Z, mc, K, cn, Sn, C, M, XO, XR, CX⟩ := id X
  rcases CX with ⟨x1, x2, x3⟩ | ⟨x1, x2, O, T, Al, Ms, Ad, B, noise, lst, od, hd, St, cnt, dx, dy, sk, tu, cc, k, c, mm⟩
  · exact AG_ex hW hH X (by decide) (W_skew_sIS (cskew_no x1)) (mskew_no x2)
  · have h := cskew_in (S := S) (W := W) (H := H) (n := n) x1
    rw [c.2.2.2.2.2.2.1.2.2.1] at h
    have h2 : ∀ v : Int64, xM S mX13_skew [.ref 90] (E W H n (sL m 146 0 v)) = some (.inl (some (.int (m.1 90 43))), E W H n (sI (sL m 146 0 v) 90 2 0), 0, 0) := fun v => mskew_in (m := sL m 146 0 v) x2
    rw [mm.2.2.2.2.2.1.2.2.1] at h2
    exact AG_ok hW hH X (W_skew h) (h2 _)
theorem AG_mismatch (hW8 : 8 ≤ W) (hW : W ≤ 64) (hH8 : 8 ≤ H) (hH : H ≤ 64) (X : Rep W H n m) : AG W H n m (xM S mL_mismatch [.ref 0, .ref 146] (E W H n m)) (fun e => xM S mX13_mismatch [.ref 90] e) := by
  obtain ⟨R, l, Tx, L, Z, mc, K, cn, Sn, C, M, XO, XR, CX⟩ := id X
  rcases CX with ⟨x1, x2, x3⟩ | ⟨x1, x2, O, T, Al, Ms, Ad, B, noise, lst, od, hd, St, cnt, dx, dy, sk, tu, cc, k, c, mm⟩
  · exact AG_ex hW hH X (by decide) (W_mismatch_sIS (cmismatch_no x1)) (mmismatch_no x2)
  · have h := cmismatch_in (S := S) (W := W) (H := H) (n := n) x1
    rw [c.2.2.2.2.2.2.1.2.2.2.2] at h
    have h2 : ∀ v : Int64, xM S mX13_mismatch [.ref 90] (E W H n (sL m 146 0 v)) = some (.inl (some (.int (m.1 90 45))), E W H n (sI (sL m 146 0 v) 90 2 0), 0, 0) := fun v => mmismatch_in (m := sL m 146 0 v) x2
    rw [mm.2.2.2.2.2.1.2.2.2.2] at h2
    exact AG_ok hW hH X (W_mismatch h) (h2 _)
theorem AG_regions (hW8 : 8 ≤ W) (hW : W ≤ 64) (hH8 : 8 ≤ H) (hH : H ≤ 64) (X : Rep W H n m) : AG W H n m (xM S mL_regions [.ref 0, .ref 146] (E W H n m)) (fun e => xM S mX13_regions [.ref 90] e) := by
  obtain ⟨R, l, Tx, L, Z, mc, K, cn, Sn, C, M, XO, XR, CX⟩ := id X
  rcases CX with ⟨x1, x2, x3⟩ | ⟨x1, x2, O, T, Al, Ms, Ad, B, noise, lst, od, hd, St, cnt, dx, dy, sk, tu, cc, k, c, mm⟩
  · exact AG_ex hW hH X (by decide) (W_regions_sIS (cregions_no x1)) (mregions_no x2)
  · have h := cregions_in (S := S) (W := W) (H := H) (n := n) x1
    rw [c.2.2.2.2.2.1] at h
    have h2 : ∀ v : Int64, xM S mX13_regions [.ref 90] (E W H n (sL m 146 0 v)) = some (.inl (some (.int (m.1 90 59))), E W H n (sI (sL m 146 0 v) 90 2 0), 0, 0) := fun v => mregions_in (m := sL m 146 0 v) x2
    rw [mm.2.2.2.2.1] at h2
    exact AG_ok hW hH X (W_regions h) (h2 _)
theorem AG_changes (hW8 : 8 ≤ W) (hW : W ≤ 64) (hH8 : 8 ≤ H) (hH : H ≤ 64) (X : Rep W H n m) : AG W H n m (xM S mL_changes [.ref 0, .ref 146] (E W H n m)) (fun e => xM S mX13_changes [.ref 90] e) := by
  obtain ⟨R, l, Tx, L, Z, mc, K, cn, Sn, C, M, XO, XR, CX⟩ := id X
  rcases CX with ⟨x1, x2, x3⟩ | ⟨x1, x2, O, T, Al, Ms, Ad, B, noise, lst, od, hd, St, cnt, dx, dy, sk, tu, cc, k, c, mm⟩
  · exact AG_ex hW hH X (by decide) (W_changes_sIS (cchanges_no x1)) (mchanges_no x2)
  · have h := cchanges_in (S := S) (W := W) (H := H) (n := n) x1
    rw [c.2.2.2.2.2.2.2.2.2.2.2.1] at h
    have h2 : ∀ v : Int64, xM S mX13_changes [.ref 90] (E W H n (sL m 146 0 v)) = some (.inl (some (.int (m.1 90 79))), E W H n (sI (sL m 146 0 v) 90 2 0), 0, 0) := fun v => mchanges_in (m := sL m 146 0 v) x2
    rw [mm.2.2.2.2.2.2.2.2.2.1.1] at h2
    exact AG_ok hW hH X (W_changes h) (h2 _)
theorem AG_turned (hW8 : 8 ≤ W) (hW : W ≤ 64) (hH8 : 8 ≤ H) (hH : H ≤ 64) (X : Rep W H n m) : ∃ m1 n' c s k b m2, (b = 0 ∨ b = 1) ∧ xM S mL_turned [.ref 0, .ref 146] (E W H n m) = some (.inl (some (.int k)), E W H n' m1, c, s) ∧ xM S mX13_turned [.ref 90] (E W H n' m1) = some (.inl (some (.int b)), E W H n' m2, 0, 0) ∧ m2.1 90 2 = k ∧ (k = 0 → m2.2.1 146 0 = b.toInt64) ∧ Rep W H n' m2 ∧ n ≤ n' ∧ c ≤ 1 + 5 * (n' - n) ∧ s ≤ 6 + 159 * (n' - n) := by
  obtain ⟨R, l, Tx, L, Z, mc, K, cn, Sn, C, M, XO, XR, CX⟩ := id X
  rcases CX with ⟨x1, x2, x3⟩ | ⟨x1, x2, O, T, Al, Ms, Ad, B, noise, lst, od, hd, St, cnt, dx, dy, sk, tu, cc, k, c, mm⟩
  · exact ⟨_, n, 1, 6, 1, 0, _, Or.inl rfl, W_turned_sIS (cturned_no x1), mturned_no x2 x3, sI_eq ⟨rfl, rfl⟩, fun w => absurd w (by decide), Rep_th hW hH X, Nat.le_refl n, by omega, by omega⟩
  · exact ⟨_, n, 0, 0, 0, bz tu, _, bz_01 tu, W_turned (cturned_in x1 c.2.2.2.2.2.2.1.2.2.2.1), mturned_in (m := sL m 146 0 (bz tu).toInt64) x2 mm.2.2.2.2.2.1.2.2.2.1, sI_eq ⟨rfl, rfl⟩, fun _ => law_v th_md, Rep_th hW hH (Rep_law hW hH X), Nat.le_refl n, by omega, by omega⟩
theorem AG_similarity (hW8 : 8 ≤ W) (hW : W ≤ 64) (hH8 : 8 ≤ H) (hH : H ≤ 64) (X : Rep W H n m) : AG W H n m (xM S mL_similarity [.ref 0, .ref 146] (E W H n m)) (fun e => xM S mX13_similarity [.ref 90] e) := by
  obtain ⟨R, l, Tx, L, Z, mc, K, cn, Sn, C, M, XO, XR, CX⟩ := id X
  rcases CX with ⟨x1, x2, x3⟩ | ⟨x1, x2, O, T, Al, Ms, Ad, B, noise, lst, od, hd, St, cnt, dx, dy, sk, tu, cc, k, c, mm⟩
  · exact AG_ex hW hH X (by decide) (W_similarity_sIS (csimilarity_no x1)) (msimilarity_no hW8 hW hH8 hH x2)
  · have h := csimilarity_in (S := S) (n := n) hW8 hW hH8 hH x1
    rw [c.2.2.2.2.2.2.1.2.2.2.2] at h
    have h2 : ∀ v : Int64, xM S mX13_similarity [.ref 90] (E W H n (sL m 146 0 v)) = some (.inl (some (.int (((nI (W * H) - m.1 90 45) * (1000 : Int32)) / nI (W * H)))), E W H n (sI (sL m 146 0 v) 90 2 0), 0, 0) := fun v => msimilarity_in (m := sL m 146 0 v) hW8 hW hH8 hH x2
    rw [mm.2.2.2.2.2.1.2.2.2.2] at h2
    exact AG_ok hW hH X (W_similarity h) (h2 _)
theorem AG_mismatchAt (hW8 : 8 ≤ W) (hW : W ≤ 64) (hH8 : 8 ≤ H) (hH : H ≤ 64) (X : Rep W H n m) (x y : Int32) : AG W H n m (xM S mL_mismatchAt [.ref 0, .int x, .int y, .ref 146] (E W H n m)) (fun e => xM S mX13_mismatchAt [.ref 90, .int x, .int y] e) := by
  obtain ⟨R, l, Tx, L, Z, mc, K, cn, Sn, C, M, XO, XR, CX⟩ := id X
  rcases CX with ⟨x1, x2, x3⟩ | ⟨x1, x2, O, T, Al, Ms, Ad, B, noise, lst, od, hd, St, cnt, dx, dy, sk, tu, cc, k, c, mm⟩
  · exact AG_ex hW hH X (by decide) (W_mismatchAt_sIS (cmismatchAt_no x1 x y)) (mmismatchAt_no x2 x y)
  · by_cases v : shOk x y
    · exact AG_ok hW hH X (W_mismatchAt (cmismatchAt_in hW8 hW hH x1 c.2.1 k.2.1 c.2.2.1 k.2.2.1 v)) (mmismatchAt_in (m := sL m 146 0 _) hW8 hW hH8 hH x2 mm.1 mm.2.1 v)
    · exact AG_ex hW hH X (by decide) (W_mismatchAt_sIA (cmismatchAt_out x1 v)) (mmismatchAt_out x2 v)
theorem AG_blockDifference (hW8 : 8 ≤ W) (hW : W ≤ 64) (hH8 : 8 ≤ H) (hH : H ≤ 64) (X : Rep W H n m) (x y : Int32) : AG W H n m (xM S mL_blockDifference [.ref 0, .int x, .int y, .ref 146] (E W H n m)) (fun e => xM S mX13_blockDifference [.ref 90, .int x, .int y] e) := by
  obtain ⟨R, l, Tx, L, Z, mc, K, cn, Sn, C, M, XO, XR, CX⟩ := id X
  rcases CX with ⟨x1, x2, x3⟩ | ⟨x1, x2, O, T, Al, Ms, Ad, B, noise, lst, od, hd, St, cnt, dx, dy, sk, tu, cc, k, c, mm⟩
  · exact AG_ex hW hH X (by decide) (W_blockDifference_sIS (cblockDiff_no x1 x y)) (mblockDiff_no x2 x y)
  · by_cases v : 0 ≤ x.toInt ∧ x.toInt < coB W B ∧ 0 ≤ y.toInt ∧ y.toInt < coB H B
    · obtain ⟨i, hi, rfl⟩ : ∃ i, i < coB W B ∧ x = nI i := ⟨x.toInt.toNat, by omega, n_of v.1⟩
      obtain ⟨j, hj, rfl⟩ : ∃ i, i < coB H B ∧ y = nI i := ⟨y.toInt.toNat, by omega, n_of v.2.2.1⟩
      exact AG_ok hW hH X (W_blockDifference (cblockDiff_in hW8 hW hH8 hH k.1.1 k.1.2 x1 c.2.2.2.1 hi hj)) (mblockDiff_in (m := sL m 146 0 _) hW8 hW hH8 hH k.1.1 k.1.2 x2 mm.2.2.1 hi hj)
    · exact AG_ex hW hH X (by decide) (W_blockDifference_sIO (cblockDiff_out hW8 hW hH8 hH k.1.1 k.1.2 x1 c.2.2.2.1 v)) (mblockDiff_out hW8 hW hH8 hH k.1.1 k.1.2 x2 mm.2.2.1 v)
theorem AG_regionAt (hW8 : 8 ≤ W) (hW : W ≤ 64) (hH8 : 8 ≤ H) (hH : H ≤ 64) (X : Rep W H n m) (x y : Int32) : AG W H n m (xM S mL_regionAt [.ref 0, .int x, .int y, .ref 146] (E W H n m)) (fun e => xM S mX13_regionAt [.ref 90, .int x, .int y] e) := by
  obtain ⟨R, l, Tx, L, Z, mc, K, cn, Sn, C, M, XO, XR, CX⟩ := id X
  rcases CX with ⟨x1, x2, x3⟩ | ⟨x1, x2, O, T, Al, Ms, Ad, B, noise, lst, od, hd, St, cnt, dx, dy, sk, tu, cc, k, c, mm⟩
  · exact AG_ex hW hH X (by decide) (W_regionAt_sIS (cregionAt_no x1 x y)) (mregionAt_no x2 x y)
  · by_cases v : 0 ≤ x.toInt ∧ x.toInt < W ∧ 0 ≤ y.toInt ∧ y.toInt < H
    · obtain ⟨i, hi, rfl⟩ : ∃ i, i < W ∧ x = nI i := ⟨x.toInt.toNat, by omega, n_of v.1⟩
      obtain ⟨j, hj, rfl⟩ : ∃ i, i < H ∧ y = nI i := ⟨y.toInt.toNat, by omega, n_of v.2.2.1⟩
      have en : ∀ q, q < qN W H Ms Ad B noise → m.1 (147 + 5 * q) 6 = nI (qM W H Ms Ad B noise od q) := fun q hq => by
        obtain ⟨g1, g2⟩ := qO_M W H Ms Ad B noise od q hq
        have := (c.2.2.2.2.2.2.2.2.1 _ g1).1
        rw [g2] at this
        exact this
      exact AG_ok hW hH X (W_regionAt (cregionAt_in hW8 hW hH8 hH k.1.1 k.1.2 x1 c.2.2.2.1.1 c.2.2.2.1.2.1 c.2.2.2.2.1 C.2.2.2.2.2.2.2.2 rfl c.1 en hi hj)) (mregionAt_in (m := sL m 146 0 _) hW8 hW hH8 hH k.1.1 k.1.2 x2 mm.2.2.2.1 hi hj)
    · exact AG_ex hW hH X (by decide) (W_regionAt_sIO (cregionAt_out hW hH x1 v)) (mregionAt_out hW8 hW hH8 hH x2 v)
theorem AG_regionLeft (hW8 : 8 ≤ W) (hW : W ≤ 64) (hH8 : 8 ≤ H) (hH : H ≤ 64) (X : Rep W H n m) (x : Int32) : AG W H n m (xM S mL_regionLeft [.ref 0, .int x, .ref 146] (E W H n m)) (fun e => xM S mX13_regionLeft [.ref 90, .int x] e) := by
  obtain ⟨R, l, Tx, L, Z, mc, K, cn, Sn, C, M, XO, XR, CX⟩ := id X
  rcases CX with ⟨x1, x2, x3⟩ | ⟨x1, x2, O, T, Al, Ms, Ad, B, noise, lst, od, hd, St, cnt, dx, dy, sk, tu, cc, k, c, mm⟩
  · exact AG_ex hW hH X (by decide) (W_regionLeft_sIS (cregionLeft_no x1 x)) (mregionLeft_no x2 x)
  · have N128 := qN_le W H Ms Ad B noise
    by_cases v : 0 ≤ x.toInt ∧ x.toInt < qN W H Ms Ad B noise
    · obtain ⟨i, hi, rfl⟩ : ∃ i, i < qN W H Ms Ad B noise ∧ x = nI i := ⟨x.toInt.toNat, by omega, n_of v.1⟩
      have oi := qO_lt W H Ms Ad B noise od i hi
      have hn := c.1
      have h := cregionLeft_in (S := S) (W := W) (H := H) (n := n) x1 (by omega) c.2.2.2.2.2.1 hi (c.2.2.2.2.2.2.2.2.2.1 i hi).1 (by omega)
      rw [(c.2.2.2.2.2.2.2.1 _ oi).1] at h
      have h2 : ∀ w : Int64, xM S mX13_regionLeft [.ref 90, .int (nI i)] (E W H n (sL m 146 0 w)) = some (.inl (some (.int (m.1 125 (qO W H Ms Ad B noise od i)))), E W H n (sI (sL m 146 0 w) 90 2 0), 0, 0) := fun w => mregionLeft_in (m := sL m 146 0 w) x2 (by omega) mm.2.2.2.2.1 hi (mm.2.2.2.2.2.2.2.1 i hi) oi
      rw [(mm.2.2.2.2.2.2.1 _ oi).1] at h2
      exact AG_ok hW hH X (W_regionLeft h) (h2 _)
    · exact AG_ex hW hH X (by decide) (W_regionLeft_sIO (cregionLeft_out x1 (by omega) c.2.2.2.2.2.1 v)) (mregionLeft_out x2 (by omega) mm.2.2.2.2.1 v)
theorem AG_regionTop (hW8 : 8 ≤ W) (hW : W ≤ 64) (hH8 : 8 ≤ H) (hH : H ≤ 64) (X : Rep W H n m) (x : Int32) : AG W H n m (xM S mL_regionTop [.ref 0, .int x, .ref 146] (E W H n m)) (fun e => xM S mX13_regionTop [.ref 90, .int x] e) := by
  obtain ⟨R, l, Tx, L, Z, mc, K, cn, Sn, C, M, XO, XR, CX⟩ := id X
  rcases CX with ⟨x1, x2, x3⟩ | ⟨x1, x2, O, T, Al, Ms, Ad, B, noise, lst, od, hd, St, cnt, dx, dy, sk, tu, cc, k, c, mm⟩
  · exact AG_ex hW hH X (by decide) (W_regionTop_sIS (cregionTop_no x1 x)) (mregionTop_no x2 x)
  · have N128 := qN_le W H Ms Ad B noise
    by_cases v : 0 ≤ x.toInt ∧ x.toInt < qN W H Ms Ad B noise
    · obtain ⟨i, hi, rfl⟩ : ∃ i, i < qN W H Ms Ad B noise ∧ x = nI i := ⟨x.toInt.toNat, by omega, n_of v.1⟩
      have oi := qO_lt W H Ms Ad B noise od i hi
      have hn := c.1
      have h := cregionTop_in (S := S) (W := W) (H := H) (n := n) x1 (by omega) c.2.2.2.2.2.1 hi (c.2.2.2.2.2.2.2.2.2.1 i hi).1 (by omega)
      rw [(c.2.2.2.2.2.2.2.1 _ oi).2.1] at h
      have h2 : ∀ w : Int64, xM S mX13_regionTop [.ref 90, .int (nI i)] (E W H n (sL m 146 0 w)) = some (.inl (some (.int (m.1 126 (qO W H Ms Ad B noise od i)))), E W H n (sI (sL m 146 0 w) 90 2 0), 0, 0) := fun w => mregionTop_in (m := sL m 146 0 w) x2 (by omega) mm.2.2.2.2.1 hi (mm.2.2.2.2.2.2.2.1 i hi) oi
      rw [(mm.2.2.2.2.2.2.1 _ oi).2.1] at h2
      exact AG_ok hW hH X (W_regionTop h) (h2 _)
    · exact AG_ex hW hH X (by decide) (W_regionTop_sIO (cregionTop_out x1 (by omega) c.2.2.2.2.2.1 v)) (mregionTop_out x2 (by omega) mm.2.2.2.2.1 v)
theorem AG_regionRight (hW8 : 8 ≤ W) (hW : W ≤ 64) (hH8 : 8 ≤ H) (hH : H ≤ 64) (X : Rep W H n m) (x : Int32) : AG W H n m (xM S mL_regionRight [.ref 0, .int x, .ref 146] (E W H n m)) (fun e => xM S mX13_regionRight [.ref 90, .int x] e) := by
  obtain ⟨R, l, Tx, L, Z, mc, K, cn, Sn, C, M, XO, XR, CX⟩ := id X
  rcases CX with ⟨x1, x2, x3⟩ | ⟨x1, x2, O, T, Al, Ms, Ad, B, noise, lst, od, hd, St, cnt, dx, dy, sk, tu, cc, k, c, mm⟩
  · exact AG_ex hW hH X (by decide) (W_regionRight_sIS (cregionRight_no x1 x)) (mregionRight_no x2 x)
  · have N128 := qN_le W H Ms Ad B noise
    by_cases v : 0 ≤ x.toInt ∧ x.toInt < qN W H Ms Ad B noise
    · obtain ⟨i, hi, rfl⟩ : ∃ i, i < qN W H Ms Ad B noise ∧ x = nI i := ⟨x.toInt.toNat, by omega, n_of v.1⟩
      have oi := qO_lt W H Ms Ad B noise od i hi
      have hn := c.1
      have h := cregionRight_in (S := S) (W := W) (H := H) (n := n) x1 (by omega) c.2.2.2.2.2.1 hi (c.2.2.2.2.2.2.2.2.2.1 i hi).1 (by omega)
      rw [(c.2.2.2.2.2.2.2.1 _ oi).2.2.1] at h
      have h2 : ∀ w : Int64, xM S mX13_regionRight [.ref 90, .int (nI i)] (E W H n (sL m 146 0 w)) = some (.inl (some (.int (m.1 127 (qO W H Ms Ad B noise od i)))), E W H n (sI (sL m 146 0 w) 90 2 0), 0, 0) := fun w => mregionRight_in (m := sL m 146 0 w) x2 (by omega) mm.2.2.2.2.1 hi (mm.2.2.2.2.2.2.2.1 i hi) oi
      rw [(mm.2.2.2.2.2.2.1 _ oi).2.2.1] at h2
      exact AG_ok hW hH X (W_regionRight h) (h2 _)
    · exact AG_ex hW hH X (by decide) (W_regionRight_sIO (cregionRight_out x1 (by omega) c.2.2.2.2.2.1 v)) (mregionRight_out x2 (by omega) mm.2.2.2.2.1 v)
theorem AG_regionBottom (hW8 : 8 ≤ W) (hW : W ≤ 64) (hH8 : 8 ≤ H) (hH : H ≤ 64) (X : Rep W H n m) (x : Int32) : AG W H n m (xM S mL_regionBottom [.ref 0, .int x, .ref 146] (E W H n m)) (fun e => xM S mX13_regionBottom [.ref 90, .int x] e) := by
  obtain ⟨R, l, Tx, L, Z, mc, K, cn, Sn, C, M, XO, XR, CX⟩ := id X
  rcases CX with ⟨x1, x2, x3⟩ | ⟨x1, x2, O, T, Al, Ms, Ad, B, noise, lst, od, hd, St, cnt, dx, dy, sk, tu, cc, k, c, mm⟩
  · exact AG_ex hW hH X (by decide) (W_regionBottom_sIS (cregionBottom_no x1 x)) (mregionBottom_no x2 x)
  · have N128 := qN_le W H Ms Ad B noise
    by_cases v : 0 ≤ x.toInt ∧ x.toInt < qN W H Ms Ad B noise
    · obtain ⟨i, hi, rfl⟩ : ∃ i, i < qN W H Ms Ad B noise ∧ x = nI i := ⟨x.toInt.toNat, by omega, n_of v.1⟩
      have oi := qO_lt W H Ms Ad B noise od i hi
      have hn := c.1
      have h := cregionBottom_in (S := S) (W := W) (H := H) (n := n) x1 (by omega) c.2.2.2.2.2.1 hi (c.2.2.2.2.2.2.2.2.2.1 i hi).1 (by omega)
      rw [(c.2.2.2.2.2.2.2.1 _ oi).2.2.2] at h
      have h2 : ∀ w : Int64, xM S mX13_regionBottom [.ref 90, .int (nI i)] (E W H n (sL m 146 0 w)) = some (.inl (some (.int (m.1 128 (qO W H Ms Ad B noise od i)))), E W H n (sI (sL m 146 0 w) 90 2 0), 0, 0) := fun w => mregionBottom_in (m := sL m 146 0 w) x2 (by omega) mm.2.2.2.2.1 hi (mm.2.2.2.2.2.2.2.1 i hi) oi
      rw [(mm.2.2.2.2.2.2.1 _ oi).2.2.2] at h2
      exact AG_ok hW hH X (W_regionBottom h) (h2 _)
    · exact AG_ex hW hH X (by decide) (W_regionBottom_sIO (cregionBottom_out x1 (by omega) c.2.2.2.2.2.1 v)) (mregionBottom_out x2 (by omega) mm.2.2.2.2.1 v)
theorem AG_missingPixels (hW8 : 8 ≤ W) (hW : W ≤ 64) (hH8 : 8 ≤ H) (hH : H ≤ 64) (X : Rep W H n m) (x : Int32) : AG W H n m (xM S mL_missingPixels [.ref 0, .int x, .ref 146] (E W H n m)) (fun e => xM S mX13_missingPixels [.ref 90, .int x] e) := by
  obtain ⟨R, l, Tx, L, Z, mc, K, cn, Sn, C, M, XO, XR, CX⟩ := id X
  rcases CX with ⟨x1, x2, x3⟩ | ⟨x1, x2, O, T, Al, Ms, Ad, B, noise, lst, od, hd, St, cnt, dx, dy, sk, tu, cc, k, c, mm⟩
  · exact AG_ex hW hH X (by decide) (W_missingPixels_sIS (cmissingPixels_no x1 x)) (mmissingPixels_no x2 x)
  · have N128 := qN_le W H Ms Ad B noise
    by_cases v : 0 ≤ x.toInt ∧ x.toInt < qN W H Ms Ad B noise
    · obtain ⟨i, hi, rfl⟩ : ∃ i, i < qN W H Ms Ad B noise ∧ x = nI i := ⟨x.toInt.toNat, by omega, n_of v.1⟩
      have oi := qO_lt W H Ms Ad B noise od i hi
      have hn := c.1
      have rg := c.2.2.2.2.2.2.2.2.2.1 i hi
      have h := cmissingPixels_in (S := S) (W := W) (H := H) (n := n) x1 (by omega) c.2.2.2.2.2.1 hi rg.1 (by omega)
      rw [rg.2.1.1] at h
      have h2 : ∀ w : Int64, xM S mX13_missingPixels [.ref 90, .int (nI i)] (E W H n (sL m 146 0 w)) = some (.inl (some (.int (m.1 135 (2 * i)))), E W H n (sI (sL m 146 0 w) 90 2 0), 0, 0) := fun w => mmissingPixels_in (m := sL m 146 0 w) x2 (by omega) mm.2.2.2.2.1 hi
      rw [(mm.2.2.2.2.2.2.2.2.1 (2 * i) (by omega)).1] at h2
      exact AG_ok hW hH X (W_missingPixels h) (h2 _)
    · exact AG_ex hW hH X (by decide) (W_missingPixels_sIO (cmissingPixels_out x1 (by omega) c.2.2.2.2.2.1 v)) (mmissingPixels_out x2 (by omega) mm.2.2.2.2.1 v)
theorem AG_addedPixels (hW8 : 8 ≤ W) (hW : W ≤ 64) (hH8 : 8 ≤ H) (hH : H ≤ 64) (X : Rep W H n m) (x : Int32) : AG W H n m (xM S mL_addedPixels [.ref 0, .int x, .ref 146] (E W H n m)) (fun e => xM S mX13_addedPixels [.ref 90, .int x] e) := by
  obtain ⟨R, l, Tx, L, Z, mc, K, cn, Sn, C, M, XO, XR, CX⟩ := id X
  rcases CX with ⟨x1, x2, x3⟩ | ⟨x1, x2, O, T, Al, Ms, Ad, B, noise, lst, od, hd, St, cnt, dx, dy, sk, tu, cc, k, c, mm⟩
  · exact AG_ex hW hH X (by decide) (W_addedPixels_sIS (caddedPixels_no x1 x)) (maddedPixels_no x2 x)
  · have N128 := qN_le W H Ms Ad B noise
    by_cases v : 0 ≤ x.toInt ∧ x.toInt < qN W H Ms Ad B noise
    · obtain ⟨i, hi, rfl⟩ : ∃ i, i < qN W H Ms Ad B noise ∧ x = nI i := ⟨x.toInt.toNat, by omega, n_of v.1⟩
      have oi := qO_lt W H Ms Ad B noise od i hi
      have hn := c.1
      have rg := c.2.2.2.2.2.2.2.2.2.1 i hi
      have h := caddedPixels_in (S := S) (W := W) (H := H) (n := n) x1 (by omega) c.2.2.2.2.2.1 hi rg.1 (by omega)
      rw [rg.2.2.1] at h
      have h2 : ∀ w : Int64, xM S mX13_addedPixels [.ref 90, .int (nI i)] (E W H n (sL m 146 0 w)) = some (.inl (some (.int (m.1 135 (2 * i + 1)))), E W H n (sI (sL m 146 0 w) 90 2 0), 0, 0) := fun w => maddedPixels_in (m := sL m 146 0 w) x2 (by omega) mm.2.2.2.2.1 hi
      rw [(mm.2.2.2.2.2.2.2.2.1 (2 * i + 1) (by omega)).1] at h2
      exact AG_ok hW hH X (W_addedPixels h) (h2 _)
    · exact AG_ex hW hH X (by decide) (W_addedPixels_sIO (caddedPixels_out x1 (by omega) c.2.2.2.2.2.1 v)) (maddedPixels_out x2 (by omega) mm.2.2.2.2.1 v)
theorem AG_changeKind (hW8 : 8 ≤ W) (hW : W ≤ 64) (hH8 : 8 ≤ H) (hH : H ≤ 64) (X : Rep W H n m) (x : Int32) : AG W H n m (xM S mL_changeKind [.ref 0, .int x, .ref 146] (E W H n m)) (fun e => xM S mX13_changeKind [.ref 90, .int x] e) := by
  obtain ⟨R, l, Tx, L, Z, mc, K, cn, Sn, C, M, XO, XR, CX⟩ := id X
  rcases CX with ⟨x1, x2, x3⟩ | ⟨x1, x2, O, T, Al, Ms, Ad, B, noise, lst, od, hd, St, cnt, dx, dy, sk, tu, cc, k, c, mm⟩
  · exact AG_ex hW hH X (by decide) (W_changeKind_sIS (cchangeKind_no x1 x)) (mchangeKind_no x2 x)
  · have N128 := qN_le W H Ms Ad B noise
    have e19 : m.1 64 19 = nI (qC W H Ms Ad B noise lst od hd St cnt) := c.2.2.2.2.2.2.2.2.2.2.2.1
    have e79 : m.1 90 79 = nI (qC W H Ms Ad B noise lst od hd St cnt) := mm.2.2.2.2.2.2.2.2.2.1.1
    have c256 : qC W H Ms Ad B noise lst od hd St cnt ≤ 256 := qC_le
    by_cases v : 0 ≤ x.toInt ∧ x.toInt < qC W H Ms Ad B noise lst od hd St cnt
    · obtain ⟨i, hi, rfl⟩ : ∃ i, i < qC W H Ms Ad B noise lst od hd St cnt ∧ x = nI i := ⟨x.toInt.toNat, by omega, n_of v.1⟩
      obtain ⟨q, t, q1, ⟨f1, f2, f3, f4, f5, f6, f7⟩, ft, g1, g2, g3, g4, g5⟩ := chg c mm hi
      exact AG_ok hW hH X (W_changeKind (cchangeKind_in x1 c256 e19 hi f1 f2 f5)) (mchangeKind_in (m := sL m 146 0 _) x2 c256 e79 hi g1 (by omega) (fun j hj => by have := (ft j hj).1; omega) g2)
    · exact AG_ex hW hH X (by decide) (W_changeKind_sIO (cchangeKind_out x1 c256 e19 v)) (mchangeKind_out x2 c256 e79 v)
theorem AG_changeRegion (hW8 : 8 ≤ W) (hW : W ≤ 64) (hH8 : 8 ≤ H) (hH : H ≤ 64) (X : Rep W H n m) (x : Int32) : AG W H n m (xM S mL_changeRegion [.ref 0, .int x, .ref 146] (E W H n m)) (fun e => xM S mX13_changeRegion [.ref 90, .int x] e) := by
  obtain ⟨R, l, Tx, L, Z, mc, K, cn, Sn, C, M, XO, XR, CX⟩ := id X
  rcases CX with ⟨x1, x2, x3⟩ | ⟨x1, x2, O, T, Al, Ms, Ad, B, noise, lst, od, hd, St, cnt, dx, dy, sk, tu, cc, k, c, mm⟩
  · exact AG_ex hW hH X (by decide) (W_changeRegion_sIS (cchangeRegion_no x1 x)) (mchangeRegion_no x2 x)
  · have N128 := qN_le W H Ms Ad B noise
    have e19 : m.1 64 19 = nI (qC W H Ms Ad B noise lst od hd St cnt) := c.2.2.2.2.2.2.2.2.2.2.2.1
    have e79 : m.1 90 79 = nI (qC W H Ms Ad B noise lst od hd St cnt) := mm.2.2.2.2.2.2.2.2.2.1.1
    have c256 : qC W H Ms Ad B noise lst od hd St cnt ≤ 256 := qC_le
    by_cases v : 0 ≤ x.toInt ∧ x.toInt < qC W H Ms Ad B noise lst od hd St cnt
    · obtain ⟨i, hi, rfl⟩ : ∃ i, i < qC W H Ms Ad B noise lst od hd St cnt ∧ x = nI i := ⟨x.toInt.toNat, by omega, n_of v.1⟩
      obtain ⟨q, t, q1, ⟨f1, f2, f3, f4, f5, f6, f7⟩, ft, g1, g2, g3, g4, g5⟩ := chg c mm hi
      have h := cchangeRegion_in (S := S) (W := W) (H := H) (n := n) x1 c256 e19 hi f1 f2
      rw [f6] at h
      exact AG_ok hW hH X (W_changeRegion h) (mchangeRegion_in (m := sL m 146 0 _) x2 c256 e79 hi g1 (by omega))
    · exact AG_ex hW hH X (by decide) (W_changeRegion_sIO (cchangeRegion_out x1 c256 e19 v)) (mchangeRegion_out x2 c256 e79 v)
theorem AG_changeTarget (hW8 : 8 ≤ W) (hW : W ≤ 64) (hH8 : 8 ≤ H) (hH : H ≤ 64) (X : Rep W H n m) (x : Int32) : AG W H n m (xM S mL_changeTarget [.ref 0, .int x, .ref 146] (E W H n m)) (fun e => xM S mX13_changeTarget [.ref 90, .int x] e) := by
  obtain ⟨R, l, Tx, L, Z, mc, K, cn, Sn, C, M, XO, XR, CX⟩ := id X
  rcases CX with ⟨x1, x2, x3⟩ | ⟨x1, x2, O, T, Al, Ms, Ad, B, noise, lst, od, hd, St, cnt, dx, dy, sk, tu, cc, k, c, mm⟩
  · exact AG_ex hW hH X (by decide) (W_changeTarget_sIS (cchangeTarget_no x1 x)) (mchangeTarget_no x2 x)
  · have N128 := qN_le W H Ms Ad B noise
    have e19 : m.1 64 19 = nI (qC W H Ms Ad B noise lst od hd St cnt) := c.2.2.2.2.2.2.2.2.2.2.2.1
    have e79 : m.1 90 79 = nI (qC W H Ms Ad B noise lst od hd St cnt) := mm.2.2.2.2.2.2.2.2.2.1.1
    have c256 : qC W H Ms Ad B noise lst od hd St cnt ≤ 256 := qC_le
    by_cases v : 0 ≤ x.toInt ∧ x.toInt < qC W H Ms Ad B noise lst od hd St cnt
    · obtain ⟨i, hi, rfl⟩ : ∃ i, i < qC W H Ms Ad B noise lst od hd St cnt ∧ x = nI i := ⟨x.toInt.toNat, by omega, n_of v.1⟩
      obtain ⟨q, t, q1, ⟨f1, f2, f3, f4, f5, f6, f7⟩, ft, g1, g2, g3, g4, g5⟩ := chg c mm hi
      exact AG_ok hW hH X (W_changeTarget (cchangeTarget_in x1 c256 e19 hi f1 f2 f5 (fun j hj => ⟨(ft j hj).2.2.1, (ft j hj).2.2.2.2.1⟩))) (mchangeTarget_in (m := sL m 146 0 _) x2 c256 e79 hi (fun j hj => by have := (ft j hj).1; omega) g2)
    · exact AG_ex hW hH X (by decide) (W_changeTarget_sIO (cchangeTarget_out x1 c256 e19 v)) (mchangeTarget_out x2 c256 e79 v)
theorem AG_moveX (hW8 : 8 ≤ W) (hW : W ≤ 64) (hH8 : 8 ≤ H) (hH : H ≤ 64) (X : Rep W H n m) (x : Int32) : AG W H n m (xM S mL_moveX [.ref 0, .int x, .ref 146] (E W H n m)) (fun e => xM S mX13_moveX [.ref 90, .int x] e) := by
  obtain ⟨R, l, Tx, L, Z, mc, K, cn, Sn, C, M, XO, XR, CX⟩ := id X
  rcases CX with ⟨x1, x2, x3⟩ | ⟨x1, x2, O, T, Al, Ms, Ad, B, noise, lst, od, hd, St, cnt, dx, dy, sk, tu, cc, k, c, mm⟩
  · exact AG_ex hW hH X (by decide) (W_moveX_sIS (cmoveX_no x1 x)) (mmoveX_no x2 x)
  · have N128 := qN_le W H Ms Ad B noise
    have e19 : m.1 64 19 = nI (qC W H Ms Ad B noise lst od hd St cnt) := c.2.2.2.2.2.2.2.2.2.2.2.1
    have e79 : m.1 90 79 = nI (qC W H Ms Ad B noise lst od hd St cnt) := mm.2.2.2.2.2.2.2.2.2.1.1
    have c256 : qC W H Ms Ad B noise lst od hd St cnt ≤ 256 := qC_le
    by_cases v : 0 ≤ x.toInt ∧ x.toInt < qC W H Ms Ad B noise lst od hd St cnt
    · obtain ⟨i, hi, rfl⟩ : ∃ i, i < qC W H Ms Ad B noise lst od hd St cnt ∧ x = nI i := ⟨x.toInt.toNat, by omega, n_of v.1⟩
      obtain ⟨q, t, q1, ⟨f1, f2, f3, f4, f5, f6, f7⟩, ft, g1, g2, g3, g4, g5⟩ := chg c mm hi
      exact AG_ok hW hH X (W_moveX (cmoveX_in x1 c256 e19 hi f1 f2 f5 (f := fun p => nI (bxC (qF W H Ms Ad B noise od p)).1) (ptX_bx f3 f4).1 (fun j hj => ⟨(ft j hj).2.2.1, (ptX_bx (ft j hj).2.2.2.1 (ft j hj).2.1).1⟩))) (mmoveX_in (m := sL m 146 0 _) x2 c256 e79 hi g1 (by omega) (fun j hj => by have := (ft j hj).1; omega) g2 (f := fun p => nI (bxC (qF W H Ms Ad B noise od p)).1) (ptB_bx g5).1 (fun j hj => (ptB_bx (ft j hj).2.2.2.2.2).1))
    · exact AG_ex hW hH X (by decide) (W_moveX_sIO (cmoveX_out x1 c256 e19 v)) (mmoveX_out x2 c256 e79 v)
theorem AG_moveY (hW8 : 8 ≤ W) (hW : W ≤ 64) (hH8 : 8 ≤ H) (hH : H ≤ 64) (X : Rep W H n m) (x : Int32) : AG W H n m (xM S mL_moveY [.ref 0, .int x, .ref 146] (E W H n m)) (fun e => xM S mX13_moveY [.ref 90, .int x] e) := by
  obtain ⟨R, l, Tx, L, Z, mc, K, cn, Sn, C, M, XO, XR, CX⟩ := id X
  rcases CX with ⟨x1, x2, x3⟩ | ⟨x1, x2, O, T, Al, Ms, Ad, B, noise, lst, od, hd, St, cnt, dx, dy, sk, tu, cc, k, c, mm⟩
  · exact AG_ex hW hH X (by decide) (W_moveY_sIS (cmoveY_no x1 x)) (mmoveY_no x2 x)
  · have N128 := qN_le W H Ms Ad B noise
    have e19 : m.1 64 19 = nI (qC W H Ms Ad B noise lst od hd St cnt) := c.2.2.2.2.2.2.2.2.2.2.2.1
    have e79 : m.1 90 79 = nI (qC W H Ms Ad B noise lst od hd St cnt) := mm.2.2.2.2.2.2.2.2.2.1.1
    have c256 : qC W H Ms Ad B noise lst od hd St cnt ≤ 256 := qC_le
    by_cases v : 0 ≤ x.toInt ∧ x.toInt < qC W H Ms Ad B noise lst od hd St cnt
    · obtain ⟨i, hi, rfl⟩ : ∃ i, i < qC W H Ms Ad B noise lst od hd St cnt ∧ x = nI i := ⟨x.toInt.toNat, by omega, n_of v.1⟩
      obtain ⟨q, t, q1, ⟨f1, f2, f3, f4, f5, f6, f7⟩, ft, g1, g2, g3, g4, g5⟩ := chg c mm hi
      exact AG_ok hW hH X (W_moveY (cmoveY_in x1 c256 e19 hi f1 f2 f5 (f := fun p => nI (bxC (qF W H Ms Ad B noise od p)).2.1) (ptX_bx f3 f4).2 (fun j hj => ⟨(ft j hj).2.2.1, (ptX_bx (ft j hj).2.2.2.1 (ft j hj).2.1).2⟩))) (mmoveY_in (m := sL m 146 0 _) x2 c256 e79 hi g1 (by omega) (fun j hj => by have := (ft j hj).1; omega) g2 (f := fun p => nI (bxC (qF W H Ms Ad B noise od p)).2.1) (ptB_bx g5).2 (fun j hj => (ptB_bx (ft j hj).2.2.2.2.2).2))
    · exact AG_ex hW hH X (by decide) (W_moveY_sIO (cmoveY_out x1 c256 e19 v)) (mmoveY_out x2 c256 e79 v)
theorem AG_changePixels (hW8 : 8 ≤ W) (hW : W ≤ 64) (hH8 : 8 ≤ H) (hH : H ≤ 64) (X : Rep W H n m) (x : Int32) : AG W H n m (xM S mL_changePixels [.ref 0, .int x, .ref 146] (E W H n m)) (fun e => xM S mX13_changePixels [.ref 90, .int x] e) := by
  obtain ⟨R, l, Tx, L, Z, mc, K, cn, Sn, C, M, XO, XR, CX⟩ := id X
  rcases CX with ⟨x1, x2, x3⟩ | ⟨x1, x2, O, T, Al, Ms, Ad, B, noise, lst, od, hd, St, cnt, dx, dy, sk, tu, cc, k, c, mm⟩
  · exact AG_ex hW hH X (by decide) (W_changePixels_sIS (cchangePixels_no x1 x)) (mchangePixels_no x2 x)
  · have N128 := qN_le W H Ms Ad B noise
    have e19 : m.1 64 19 = nI (qC W H Ms Ad B noise lst od hd St cnt) := c.2.2.2.2.2.2.2.2.2.2.2.1
    have e79 : m.1 90 79 = nI (qC W H Ms Ad B noise lst od hd St cnt) := mm.2.2.2.2.2.2.2.2.2.1.1
    have c256 : qC W H Ms Ad B noise lst od hd St cnt ≤ 256 := qC_le
    by_cases v : 0 ≤ x.toInt ∧ x.toInt < qC W H Ms Ad B noise lst od hd St cnt
    · obtain ⟨i, hi, rfl⟩ : ∃ i, i < qC W H Ms Ad B noise lst od hd St cnt ∧ x = nI i := ⟨x.toInt.toNat, by omega, n_of v.1⟩
      obtain ⟨q, t, q1, ⟨f1, f2, f3, f4, f5, f6, f7⟩, ft, g1, g2, g3, g4, g5⟩ := chg c mm hi
      have h := cchangePixels_in (S := S) (W := W) (H := H) (n := n) x1 c256 e19 hi f1 f2
      rw [f3.1] at h
      have h2 : ∀ w : Int64, xM S mX13_changePixels [.ref 90, .int (nI i)] (E W H n (sL m 146 0 w)) = some (.inl (some (.int (m.1 135 q))), E W H n (sI (sL m 146 0 w) 90 2 0), 0, 0) := fun w => mchangePixels_in (m := sL m 146 0 w) x2 c256 e79 hi g1 (by omega)
      rw [g4] at h2
      exact AG_ok hW hH X (W_changePixels h) (h2 _)
    · exact AG_ex hW hH X (by decide) (W_changePixels_sIO (cchangePixels_out x1 c256 e19 v)) (mchangePixels_out x2 c256 e79 v)
theorem AG_changeLine (hW8 : 8 ≤ W) (hW : W ≤ 64) (hH8 : 8 ≤ H) (hH : H ≤ 64) (X : Rep W H n m) (x : Int32) : AG W H n m (xM S mL_changeLine [.ref 0, .int x, .ref 146] (E W H n m)) (fun e => xM S mX13_changeLine [.ref 90, .int x] e) := by
  obtain ⟨R, l, Tx, L, Z, mc, K, cn, Sn, C, M, XO, XR, CX⟩ := id X
  rcases CX with ⟨x1, x2, x3⟩ | ⟨x1, x2, O, T, Al, Ms, Ad, B, noise, lst, od, hd, St, cnt, dx, dy, sk, tu, cc, k, c, mm⟩
  · exact AG_ex hW hH X (by decide) (W_changeLine_sIS (cchangeLine_no x1 x)) (mchangeLine_no x2 x)
  · have N128 := qN_le W H Ms Ad B noise
    have e19 : m.1 64 19 = nI (qC W H Ms Ad B noise lst od hd St cnt) := c.2.2.2.2.2.2.2.2.2.2.2.1
    have e79 : m.1 90 79 = nI (qC W H Ms Ad B noise lst od hd St cnt) := mm.2.2.2.2.2.2.2.2.2.1.1
    have c256 : qC W H Ms Ad B noise lst od hd St cnt ≤ 256 := qC_le
    by_cases v : 0 ≤ x.toInt ∧ x.toInt < qC W H Ms Ad B noise lst od hd St cnt
    · obtain ⟨i, hi, rfl⟩ : ∃ i, i < qC W H Ms Ad B noise lst od hd St cnt ∧ x = nI i := ⟨x.toInt.toNat, by omega, n_of v.1⟩
      obtain ⟨q, t, q1, ⟨f1, f2, f3, f4, f5, f6, f7⟩, ft, g1, g2, g3, g4, g5⟩ := chg c mm hi
      have h := cchangeLine_in (S := S) (W := W) (H := H) (n := n) x1 c256 e19 hi f1 f2
      rw [f7] at h
      have h2 : ∀ w : Int64, xM S mX13_changeLine [.ref 90, .int (nI i)] (E W H n (sL m 146 0 w)) = some (.inl (some (.int (m.1 143 i))), E W H n (sI (sL m 146 0 w) 90 2 0), 0, 0) := fun w => mchangeLine_in (m := sL m 146 0 w) x2 c256 e79 hi
      rw [g3] at h2
      exact AG_ok hW hH X (W_changeLine h) (h2 _)
    · exact AG_ex hW hH X (by decide) (W_changeLine_sIO (cchangeLine_out x1 c256 e19 v)) (mchangeLine_out x2 c256 e79 v)
theorem AG_stampOf (hW8 : 8 ≤ W) (hW : W ≤ 64) (hH8 : 8 ≤ H) (hH : H ≤ 64) (X : Rep W H n m) (x : Int32) : AG W H n m (xM S mL_stampOf [.ref 0, .int x, .ref 146] (E W H n m)) (fun e => xM S mX13_stampOf [.ref 90, .int x] e) := by
  obtain ⟨R, l, Tx, L, Z, mc, K, cn, Sn, C, M, XO, XR, CX⟩ := id X
  rcases CX with ⟨x1, x2, x3⟩ | ⟨x1, x2, O, T, Al, Ms, Ad, B, noise, lst, od, hd, St, cnt, dx, dy, sk, tu, cc, k, c, mm⟩
  · exact AG_ex hW hH X (by decide) (W_stampOf_sIS (cstampOf_no x1 x)) (mstampOf_no x2 x)
  · have N128 := qN_le W H Ms Ad B noise
    have e19 : m.1 64 19 = nI (qC W H Ms Ad B noise lst od hd St cnt) := c.2.2.2.2.2.2.2.2.2.2.2.1
    have e79 : m.1 90 79 = nI (qC W H Ms Ad B noise lst od hd St cnt) := mm.2.2.2.2.2.2.2.2.2.1.1
    have c256 : qC W H Ms Ad B noise lst od hd St cnt ≤ 256 := qC_le
    by_cases v : 0 ≤ x.toInt ∧ x.toInt < qC W H Ms Ad B noise lst od hd St cnt
    · obtain ⟨i, hi, rfl⟩ : ∃ i, i < qC W H Ms Ad B noise lst od hd St cnt ∧ x = nI i := ⟨x.toInt.toNat, by omega, n_of v.1⟩
      obtain ⟨q, t, q1, ⟨f1, f2, f3, f4, f5, f6, f7⟩, ft, g1, g2, g3, g4, g5⟩ := chg c mm hi
      exact AG_ok hW hH X (W_stampOf (cstampOf_in x1 c256 e19 hi f1 C.2.2.2.2.2.2.1 f2 f3 f4)) (mstampOf_in (m := sL m 146 0 _) hW8 hW hH8 hH k.1.1 k.1.2 k.2.2.2.2.1 k.2.2.2.2.2.1 (N := qN W H Ms Ad B noise) (P := qP W H Ms Ad B noise) rfl (qM_O W H Ms Ad B noise od) (qO_M W H Ms Ad B noise od) x2 c256 e79 hi g1 mm.2.2.2.1 (RM_law M).2.2.2.2.2 q1 g5)
    · exact AG_ex hW hH X (by decide) (W_stampOf_sIO (cstampOf_out x1 c256 e19 v)) (mstampOf_out x2 c256 e79 v)
end AG4

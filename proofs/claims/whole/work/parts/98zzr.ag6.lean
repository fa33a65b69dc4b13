/-! AGREEMENT: learn, accept, leastNoise; text and settings; comparing -/
section AG6
variable {S : xS} {W H n : Nat} {m : mM}
theorem AG_leastNoise (hW8 : 8 ≤ W) (hW : W ≤ 64) (hH8 : 8 ≤ H) (hH : H ≤ 64) (X : Rep W H n m) (x : Int32) : AG W H n m (xM S mL_leastNoise [.ref 0, .int x, .ref 146] (E W H n m)) (fun e => xM S mX13_leastNoise [.ref 90, .int x] e) := by
  obtain ⟨R, l, Tx, L, Z, mc, K, cn, Sn, C, M, XO, XR, CX⟩ := id X
  rcases id CX with ⟨x1, x2, x3⟩ | ⟨x1, x2, O, T, Al, Ms, Ad, B, noise, lst, od, hd, St, cnt, dx, dy, sk, tu, cc, k, c, mm⟩
  · exact AG_ex hW hH X (by decide) (W_leastNoise_sIS (cleastNoise_no x1 x)) (mleastNoise_no x2 x)
  · by_cases v : 0 ≤ x.toInt
    · have rg := fb_rng x
      obtain ⟨i, hi, rfl⟩ : ∃ i, i < 2147483648 ∧ x = nI i := ⟨x.toInt.toNat, by omega, n_of v⟩
      obtain ⟨m1, c1, c2⟩ := cleastNoise_in (S := S) (n := n) hW8 hW hH8 hH k.1.1 k.1.2 x1 c.2.2.2.1 (blN_le Ms Ad B) hi
      have kn : ∀ {a j : Nat}, a ≠ 67 → a ≠ 68 → mkP 67 a j = false := fun h1 h2 => by
        unfold mkP
        rw [beq_eq_false_iff_ne.mpr h1, beq_eq_false_iff_ne.mpr h2]; rfl
      have Q1 : fr clE m m1 := fr_mono c2 (cl_in (fun a j h => by unfold mkP at h; simp at h; exact clE_y (by omega)))
      have M1 : RM (sL m1 146 0 (nI (lnN (ngN W H B (blN Ms Ad B)) i)).toInt64) R l Tx L Z mc K cn Sn := RM_law (RM_cl M Q1)
      obtain ⟨y1, y2, y3, y4⟩ := mm.2.2.1
      have B1 : blM (sL m1 146 0 (nI (lnN (ngN W H B (blN Ms Ad B)) i)).toInt64) W H B (blN Ms Ad B) := ⟨(fr_i c2 90 54 (kn (by omega) (by omega))).trans y1, (fr_i c2 90 55 (kn (by omega) (by omega))).trans y2, (fr_i c2 90 56 (kn (by omega) (by omega))).trans y3, fun j i hj hi => (fr_i c2 123 _ (kn (by omega) (by omega))).trans (y4 j i hj hi)⟩
      obtain ⟨m2, d1, d2, d3⟩ := mleastNoise_in (S := S) (n := n) (m := sL m1 146 0 (nI (lnN (ngN W H B (blN Ms Ad B)) i)).toInt64) hW8 hW hH8 hH k.1.1 k.1.2 ((fr_i c2 90 35 (kn (by omega) (by omega))).trans x2) B1 (blN_le Ms Ad B) hi
      have ln : ∀ {a j : Nat}, a ≠ 124 → a ≠ 131 → (a = 90 → j ≠ 2) → lnP a j = false := fun h1 h2 h3 => by
        unfold lnP
        simp
        omega
      exact AG_st hW hH (RC_fr2 C c2 (fun a j _ h1 h2 _ => kn h1 h2)) XO XR CX Q1 (W_leastNoise c1) d1 (RM_fr M1 d3 (fun a j h => ln (by omega) (by omega) (by omega))) d2 (fr_mono d3 (md_in (fun a j h => by unfold lnP at h; simp at h; exact mdE_y (by omega))))
    · exact AG_ex hW hH X (by decide) (W_leastNoise_sIA (cleastNoise_out x1 v)) (mleastNoise_out x2 v)
theorem AG_accept (hW8 : 8 ≤ W) (hW : W ≤ 64) (hH8 : 8 ≤ H) (hH : H ≤ 64) (X : Rep W H n m) (x : Int32) : AG W H n m (xM S mL_accept [.ref 0, .int x, .ref 146] (E W H n m)) (fun e => xM S mX13_accept [.ref 90, .int x] e) := by
  obtain ⟨R, l, Tx, L, Z, mc, K, cn, Sn, C, M, XO, XR, CX⟩ := id X
  rcases id CX with ⟨x1, x2, x3⟩ | ⟨x1, x2, O, T, Al, Ms, Ad, B, noise, lst, od, hd, St, cnt, dx, dy, sk, tu, cc, k, c, mm⟩
  · exact AG_ex hW hH X (by decide) (W_accept_sIS (caccept_no x1 x)) (maccept_no x2 x)
  · have N128 := qN_le W H Ms Ad B noise
    have e19 : m.1 64 19 = nI (qC W H Ms Ad B noise lst od hd St cnt) := c.2.2.2.2.2.2.2.2.2.2.2.1
    have e79 : m.1 90 79 = nI (qC W H Ms Ad B noise lst od hd St cnt) := mm.2.2.2.2.2.2.2.2.2.1.1
    have c256 : qC W H Ms Ad B noise lst od hd St cnt ≤ 256 := qC_le
    by_cases v : 0 ≤ x.toInt ∧ x.toInt < qC W H Ms Ad B noise lst od hd St cnt
    · obtain ⟨i, hi, rfl⟩ : ∃ i, i < qC W H Ms Ad B noise lst od hd St cnt ∧ x = nI i := ⟨x.toInt.toNat, by omega, n_of v.1⟩
      obtain ⟨q, t, q1, ⟨f1, f2, f3, f4, f5, f6, f7⟩, ft, g1, g2, g3, g4, g5⟩ := chg c mm hi
      obtain ⟨m1, c1, c2⟩ := caccept_in (S := S) (n := n) hW hH C.1 C.2.1 x1 c256 e19 hi f1 f2 (fun p => PFm_ok hW Ms Ad (qP W H Ms Ad B noise) B (qO W H Ms Ad B noise od) p) f3 f4 f5 (fun j hj => ⟨(ft j hj).2.2.1, (ft j hj).2.2.2.1, (ft j hj).2.1⟩)
      have Q := c2.2.2
      exact AG_edit hW hH C M XO XR CX c2 (W_accept c1) (fun w N => maccept_in (m := sL m1 146 0 w) hW8 hW hH8 hH k.1.1 k.1.2 k.2.2.2.2.1 k.2.2.2.2.2.1 (N := qN W H Ms Ad B noise) (P := qP W H Ms Ad B noise) rfl (qM_O W H Ms Ad B noise od) (qO_M W H Ms Ad B noise od) ((fr_i Q 90 35 (cdP_n (by omega))).trans x2) c256 ((fr_i Q 90 79 (cdP_n (by omega))).trans e79) hi ((fr_i Q 141 i (cdP_n (by omega))).trans g1) q1 ((fr_i Q 142 i (cdP_n (by omega))).trans g2) (fun j hj => (ft j hj).1) (show ofI m1 B (qP W H Ms Ad B noise) Ms Ad (qM W H Ms Ad B noise od) from ofI_fr mm.2.2.2.1 Q (fun a j h => cdP_n (by omega))) N.1 N.2.1)
    · exact AG_ex hW hH X (by decide) (W_accept_sIO (caccept_out x1 c256 e19 v)) (maccept_out x2 c256 e79 v)
theorem AG_learn (hW8 : 8 ≤ W) (hW : W ≤ 64) (hH8 : 8 ≤ H) (hH : H ≤ 64) (X : Rep W H n m) (x : Int32) : AG W H n m (xM S mL_learn [.ref 0, .int x, .ref 146] (E W H n m)) (fun e => xM S mX13_learn [.ref 90, .int x] e) := by
  obtain ⟨R, l, Tx, L, Z, mc, K, cn, Sn, C, M, XO, XR, CX⟩ := id X
  rcases id CX with ⟨x1, x2, x3⟩ | ⟨x1, x2, O, T, Al, Ms, Ad, B, noise, lst, od, hd, St, cnt, dx, dy, sk, tu, cc, k, c, mm⟩
  · exact AG_ex hW hH X (by decide) (W_learn_sIO (clearn_no x1 x)) (mlearn_no x2 x)
  · have N128 := qN_le W H Ms Ad B noise
    have e19 : m.1 64 19 = nI (qC W H Ms Ad B noise lst od hd St cnt) := c.2.2.2.2.2.2.2.2.2.2.2.1
    have e79 : m.1 90 79 = nI (qC W H Ms Ad B noise lst od hd St cnt) := mm.2.2.2.2.2.2.2.2.2.1.1
    have c256 : qC W H Ms Ad B noise lst od hd St cnt ≤ 256 := qC_le
    by_cases v : 0 ≤ x.toInt ∧ x.toInt < qC W H Ms Ad B noise lst od hd St cnt
    · obtain ⟨i, hi, rfl⟩ : ∃ i, i < qC W H Ms Ad B noise lst od hd St cnt ∧ x = nI i := ⟨x.toInt.toNat, by omega, n_of v.1⟩
      obtain ⟨q, t, q1, ⟨f1, f2, f3, f4, f5, f6, f7⟩, ft, g1, g2, g3, g4, g5⟩ := chg c mm hi
      have CT := C.2.2.2.2.2.2.1
      have MT := M.2.2.2.2.2
      have rg := stNo_rng Sn cn (qF W H Ms Ad B noise od q)
      by_cases y : 0 ≤ stNo Sn cn (qF W H Ms Ad B noise od q)
      · exact AG_ok hW hH X (W_learn (clearn_known x1 c256 e19 hi f1 CT f2 f3 f4 y)) (mlearn_known (m := sL m 146 0 _) hW8 hW hH8 hH k.1.1 k.1.2 k.2.2.2.2.1 k.2.2.2.2.2.1 (N := qN W H Ms Ad B noise) (P := qP W H Ms Ad B noise) rfl (qM_O W H Ms Ad B noise od) (qO_M W H Ms Ad B noise od) x2 c256 e79 hi g1 mm.2.2.2.1 MT q1 g5 y)
      · have no : stNo Sn cn (qF W H Ms Ad B noise od q) = -1 := by omega
        by_cases lt : cn < 7
        · obtain ⟨m1, c1, c2, c3⟩ := clearn_new (S := S) (W := W) (H := H) (n := n) x1 c256 e19 hi f1 CT f2 f3 f4 no lt
          have Q1 : fr clE m m1 := fr_mono c3 (cl_in (fun a j h => by unfold csP at h; simp at h; exact clE_y (by omega)))
          have M1 : RM (sL m1 146 0 (nI cn).toInt64) R l Tx L Z mc K cn Sn := RM_law (RM_cl M Q1)
          obtain ⟨m2, d1, d2, d3, d4⟩ := mlearn_new (S := S) (n := n) (m := sL m1 146 0 (nI cn).toInt64) hW8 hW hH8 hH k.1.1 k.1.2 k.2.2.2.2.1 k.2.2.2.2.2.1 (N := qN W H Ms Ad B noise) (P := qP W H Ms Ad B noise) rfl (qM_O W H Ms Ad B noise od) (qO_M W H Ms Ad B noise od) ((fr_i c3 90 35 (csP_n (by omega))).trans x2) c256 ((fr_i c3 90 79 (csP_n (by omega))).trans e79) hi ((fr_i c3 141 i (csP_n (by omega))).trans g1) (show ofI m1 B (qP W H Ms Ad B noise) Ms Ad (qM W H Ms Ad B noise od) from ofI_fr mm.2.2.2.1 c3 (fun a j h => csP_n (by omega))) M1.2.2.2.2.2 q1 (show ptB m1 q (qF W H Ms Ad B noise od q) from ptB_fr g5 (fun a h1 h2 => fr_i c3 a q (csP_n (by omega)))) no lt
          exact AG_st hW hH (RC_sp C c3 (fun a j h1 h2 => csP_n (by omega)) c2) XO XR CX Q1 (W_learn c1) d1 (RM_sp M1 d4 (fun a j h => mlP_n (by omega) (by omega)) d2) d3 (fr_mono d4 (md_in (fun a j h => by unfold mlP at h; simp at h; exact mdE_y (by omega))))
        · exact AG_ex hW hH X (by decide) (W_learn_sIS (clearn_full x1 c256 e19 hi f1 CT f2 f3 f4 no (by omega))) (mlearn_full hW8 hW hH8 hH k.1.1 k.1.2 k.2.2.2.2.1 k.2.2.2.2.2.1 (N := qN W H Ms Ad B noise) (P := qP W H Ms Ad B noise) rfl (qM_O W H Ms Ad B noise od) (qO_M W H Ms Ad B noise od) x2 c256 e79 hi g1 mm.2.2.2.1 MT q1 g5 no (by omega))
    · exact AG_ex hW hH X (by decide) (W_learn_sIO (clearn_out x1 c256 e19 v)) (mlearn_out x2 c256 e79 v)
theorem AG_clearText (hW : W ≤ 64) (hH : H ≤ 64) (X : Rep W H n m) : AGD W H n m (xM S mX12_clearText [.ref 0] (E W H n m)) (fun e => xM S mX13_clearText [.ref 90] e) := by
  obtain ⟨R, l, T, L, Z, c, K, cnt, St, C, M, XO, XR, CX⟩ := id X
  have F1 : fr (fun a j => a == 32 && j == 1) m (sI m 32 1 (nI 0)) := fr_sI fr_rf (by rfl)
  have Q1 : fr clE m (sI m 32 1 (nI 0)) := fr_mono F1 (cl_in (fun a j h => by simp at h; exact clE_y (by omega)))
  have bn : ∀ {a j : Nat}, a ≠ 32 → (a == 32 && j == 1) = false := fun h => by rw [beq_eq_false_iff_ne.mpr h]; rfl
  have M1 : RM (sI m 32 1 (nI 0)) R l T L Z c K cnt St := RM_cl M Q1
  have F2 : fr (fun a j => a == 90 && (j == 2 || j == 13)) (sI m 32 1 (nI 0)) (sI (sI (sI m 32 1 (nI 0)) 90 2 (nI 0)) 90 13 (nI 0)) := fr_sI (fr_sI fr_rf (by rfl)) (by rfl)
  have Q2 : fr mdE (sI m 32 1 (nI 0)) (sI (sI (sI m 32 1 (nI 0)) 90 2 (nI 0)) 90 13 (nI 0)) := fr_mono F2 (md_in (fun a j h => by simp at h; exact mdE_y (by omega)))
  have y : ∀ {a j : Nat}, (a = 90 → j ≠ 2 ∧ j ≠ 13) → (a == 90 && (j == 2 || j == 13)) = false := fun h => by
    simp
    omega
  have t0 : txO T 0 := ⟨by omega, fun i hi => absurd hi (Nat.not_lt_zero i)⟩
  refine ⟨_, n, 0, 0, nI L, _, cclearText_s C.2.2.2.1, mclear_s M1.2.2.1, ⟨R, l, T, 0, Z, c, K, cnt, St, RC_md (RC_tx C F1 (fun a j h1 h2 => bn (by omega)) ⟨sI_eq ⟨rfl, rfl⟩, t0, fun i hi => absurd hi (Nat.not_lt_zero i)⟩ (cfX_fr C.2.2.2.2.1 F1 (by rfl) (fun _ => by rfl) (fun _ => by rfl))) Q2, RM_tx M1 F2 (fun a j h => y (by omega)) ⟨sI_eq ⟨rfl, rfl⟩, t0, fun i hi => absurd hi (Nat.not_lt_zero i)⟩ (cfX_fr M1.2.2.2.1 F2 (y (by omega)) (fun _ => y (by omega)) (fun _ => y (by omega))), XO, XR, CM_md hW hH (CM_cl hW hH CX Q1) Q2⟩, Nat.le_refl n, by omega, by omega⟩
theorem mconf_err2 {T : Nat → Nat} {L : Nat} (X : txM m T L) {x : Nat} (h : (rdQ T L).2 = some x) : ∃ m', xM S mX13_configure [.ref 90] (E W H n m) = some (.inl (some (.int (-1 - nI x))), E W H n m', 0, 0) ∧ fr (fun a j => rsP a j || (a == 90 && j == 2)) m m' := by
  have hL := X.2.1.1
  have F0 : fr (fun a j => a == 90 && j == 2) m (sI m 90 2 (nI 0)) := fr_sI fr_rf (by rfl)
  obtain ⟨m1, k1, k2, k3⟩ := mreads_s (S := S) (W := W) (H := H) (n := n) (txM_fr X F0 (fun a j q => by simp; omega))
  have hx : x < 1000 := by
    have h := h
    unfold rdQ at h
    split at h
    · cases h
    · have := rdS_err (L + 1) 0 x (Nat.zero_le _) h
      omega
  rw [h] at k1
  have k1 : xM S mX13_readsSettings [.ref 90] (E W H n (sI m 90 2 (nI 0))) = some (.inl (some (.int (nI x))), E W H n m1, 0, 0) := k1
  have nn : ¬ nI x < nI 0 := fun q => by have := (nI_ltI (by omega) (by omega)).mp q; omega
  refine ⟨m1, w_X13_configure S _ _ _ ?_, fr_tr (fr_mono F0 (fun a j w => (Bool.or_eq_false_iff.mp w).2)) (fr_mono k3 (fun a j w => (Bool.or_eq_false_iff.mp w).1))⟩
  refine c_pi (by omega) (by rfl) (by rfl) (by rfl) (xPok_int (by decide) (by rfl)) ?_
  refine c_ob (by omega) (by rfl) ?_
  refine c_qI k1 ?_
  refine c_iff nn ?_
  rfl
theorem AG_configure (hW : W ≤ 64) (hH : H ≤ 64) (X : Rep W H n m) : AGD W H n m (xM S mX12_configure [.ref 0] (E W H n m)) (fun e => xM S mX13_configure [.ref 90] e) := by
  obtain ⟨R, l, T, L, Z, c, K, cnt, St, C, M, XO, XR, CX⟩ := id X
  cases h : (rdQ T L).2 with
  | none =>
    obtain ⟨m1, c1, c2, c3, c4, c5⟩ := cconf_ok (S := S) (W := W) (H := H) (n := n) C.2.2.2.1 XO C.2.2.2.2.1 h
    have Q1 : fr clE m m1 := fr_mono c5 (cl_in (fun a j h => by unfold cfP at h; simp at h; exact clE_y (by omega)))
    have cn' : ∀ {a j : Nat}, (a < 32 ∨ 38 < a) → cfP a j = false := fun h => by
      unfold cfP
      simp
      omega
    have M1 := RM_cl M Q1
    obtain ⟨m2, d1, d2, d3, d4, d5⟩ := mconf_ok (S := S) (W := W) (H := H) (n := n) M1.2.2.1 XO M1.2.2.2.1 h
    have Q2 : fr mdE m1 m2 := fr_mono d5 (md_in (fun a j h => by unfold mgP rsP mcP at h; simp at h; exact mdE_y (by omega)))
    have mn : ∀ {a j : Nat}, ¬ (a = 104 ∨ a = 105 ∨ a = 98 ∨ a = 99) → (a = 90 → j ≠ 23 ∧ j ≠ 16 ∧ j ≠ 13 ∧ j ≠ 2) → mgP a j = false := fun h1 h2 => by
      unfold mgP rsP mcP
      simp
      omega
    exact ⟨m1, n, 0, 0, _, m2, c1, d1, ⟨R, l, T, 0, _, c, K, cnt, St, RC_md (RC_tx C c5 (fun a j h1 h2 => cn' (by omega)) c4 c2) Q2, RM_tx M1 d5 (fun a j h => mn (by omega) (by omega)) ⟨d3, c4.2.1, fun i hi => absurd hi (Nat.not_lt_zero i)⟩ d2, c3, cfR_rd XR, CM_md hW hH (CM_cl hW hH CX Q1) Q2⟩, Nat.le_refl n, by omega, by omega⟩
  | some x =>
    obtain ⟨m1, c1, c2⟩ := cconf_err (S := S) (W := W) (H := H) (n := n) C.2.2.2.1 XO C.2.2.2.2.1 h
    have Q1 : fr clE m m1 := fr_mono c2 (cl_in (fun a j h => by unfold nxP at h; simp at h; exact clE_y (by omega)))
    have nn : ∀ {a j : Nat}, a ≠ 37 → a ≠ 38 → (a = 34 → j ≠ 5) → nxP a j = false := fun h1 h2 h3 => by
      unfold nxP
      simp
      omega
    have M1 := RM_cl M Q1
    obtain ⟨m2, d1, d2⟩ := mconf_err2 (S := S) (W := W) (H := H) (n := n) M1.2.2.1 h
    have Q2 : fr mdE m1 m2 := fr_mono d2 (md_in (fun a j h => by unfold rsP at h; simp at h; exact mdE_y (by omega)))
    have mn : ∀ {a j : Nat}, a ≠ 104 → a ≠ 105 → (a = 90 → j ≠ 23 ∧ j ≠ 2) → (rsP a j || (a == 90 && j == 2)) = false := fun h1 h2 h3 => by
      unfold rsP
      simp
      omega
    exact ⟨m1, n, 0, 0, _, m2, c1, d1, ⟨R, l, T, L, Z, c, K, cnt, St, RC_md (RC_tx C c2 (fun a j h1 h2 => nn (by omega) (by omega) (by omega)) (txC_fr C.2.2.2.1 c2 (fun a j _ _ => nn (by omega) (by omega) (by omega))) (cfX_fr C.2.2.2.2.1 c2 (nn (by omega) (by omega) (by omega)) (fun _ => nn (by omega) (by omega) (by omega)) (fun _ => nn (by omega) (by omega) (by omega)))) Q2, RM_tx M1 d2 (fun a j h => mn (by omega) (by omega) (by omega)) (txM_fr M1.2.2.1 d2 (fun a j q => mn (by omega) (by omega) (by omega))) (cfX_fr M1.2.2.2.1 d2 (mn (by omega) (by omega) (by omega)) (fun _ => mn (by omega) (by omega) (by omega)) (fun _ => mn (by omega) (by omega) (by omega))), XO, XR, CM_md hW hH (CM_cl hW hH CX Q1) Q2⟩, Nat.le_refl n, by omega, by omega⟩
theorem AG_compare (hW8 : 8 ≤ W) (hW : W ≤ 64) (hH8 : 8 ≤ H) (hH : H ≤ 64) (X : Rep W H n m) : AGD W H n m (xM S mX12_compare [.ref 0] (E W H n m)) (fun e => xM S mX13_compare [.ref 90] e) := by
  obtain ⟨R, l, T0, L, Z, mc, K, cn, Sn, C, M, XO, XR, CX⟩ := id X
  obtain ⟨⟨zB, zB2⟩, z1, z2, z3, z4, z5, z6, z7, z8, z9⟩ := cfR_all XR
  obtain ⟨od, h7⟩ : ∃ od : Bool, Z.1 7 = od.toNat := by
    rcases (show Z.1 7 = 0 ∨ Z.1 7 = 1 by omega) with q | q
    · exact ⟨false, q⟩
    · exact ⟨true, q⟩
  obtain ⟨hd, h9⟩ : ∃ hd : Bool, Z.1 9 = hd.toNat := by
    rcases (show Z.1 9 = 0 ∨ Z.1 9 = 1 by omega) with q | q
    · exact ⟨false, q⟩
    · exact ⟨true, q⟩
  obtain ⟨g1, g2, g3, g4, g5, g6, g7, g8, g9⟩ := C
  obtain ⟨m1, O, D, T, Al, Ms, Ad, t, k, cc, dx, dy, X1, c1, c2, c3, c4, c5, c6, c7⟩ := ccompare_s (S := S) (n := n) hW8 hW hH8 hH g1 XR g5 g3 g6 g8 g7 g9 h7 h9
  have hn : n ≤ max n (qN W H Ms Ad (Z.1 0) (Z.1 1)) := Nat.le_max_left _ _
  have cn' : ∀ {a j : Nat}, (a < 29 ∨ 31 < a) → (a < 64 ∨ 89 ≤ a) → a < 147 → a ≠ 47 → (a = 0 → j ≠ 12) → ccmP a j = false := fun h1 h2 h3 h4 h5 => ccmP_n h1 h2 h3 h4 h5
  have M1 : RM m1 R l T0 L Z mc K cn Sn := RM_fr M c7 (fun a j h => cn' (by omega) (by omega) (by omega) (by omega) (by omega))
  obtain ⟨oT, oAl, oM, oA⟩ := cmS_ok X1
  obtain ⟨rg, k4, _⟩ := chO_rng z4 z5 X1.2.2.2.2.1
  obtain ⟨sk1, sk2⟩ := skw_rng k4
  obtain ⟨m2, d1, d2, d3, d4, d5⟩ := mcompare_s (S := S) (n := max n (qN W H Ms Ad (Z.1 0) (Z.1 1))) (m := m1) hW8 hW hH8 hH M1.1 (fun p hp => (g1 p hp).2) XR M1.2.2.2.1 g6.2.1 M1.2.2.2.2.1 M1.2.2.2.2.2 X1 h7 h9
  have mn : ∀ {a j : Nat}, ¬ ((a = 95 ∨ a = 96 ∨ a = 106 ∨ (114 ≤ a ∧ a ≤ 144)) ∨ (a = 90 ∧ (j = 2 ∨ j = 10 ∨ j = 11 ∨ j = 25 ∨ j = 35 ∨ (41 ≤ j ∧ j ≤ 51) ∨ (54 ≤ j ∧ j ≤ 59) ∨ j = 79))) → mcmP a j = false := fun h => mcmP_n h
  have ev : m2.1 90 79 = m1.1 64 19 := d4.2.2.2.2.2.2.2.2.2.1.1.trans c3.2.2.2.2.2.2.2.2.2.2.2.1.symm
  rw [ev] at d1
  refine ⟨m1, _, _, _, _, m2, c1, d1, ⟨R, l, T0, L, Z, mc, K, cn, Sn, RC_fr (P := mcmP) (m := m1) ⟨pgC_fr g1 c7 (fun a j _ _ => cn' (by omega) (by omega) (by omega) (by omega) (by omega)), hsC_fr g2 c7 (fun a j _ _ => cn' (by omega) (by omega) (by omega) (by omega) (by omega)), c4, txC_fr g4 c7 (fun a j _ _ => cn' (by omega) (by omega) (by omega) (by omega) (by omega)), cfX_fr g5 c7 (cn' (by omega) (by omega) (by omega) (by omega) (by omega)) (fun j => cn' (by omega) (by omega) (by omega) (by omega) (by omega)) (fun j => cn' (by omega) (by omega) (by omega) (by omega) (by omega)), mkC_fr g6 c7 (cn' (by omega) (by omega) (by omega) (by omega) (by omega)) (fun a j _ _ => cn' (by omega) (by omega) (by omega) (by omega) (by omega)), cstM_fr g7 c7 (fun a j _ _ => cn' (by omega) (by omega) (by omega) (by omega) (by omega)), c5, c6⟩ d5 (fun a j h => mn (by omega)), RM_fr2 M1 d5 (fun a j h => mn (by omega)), XO, XR, Or.inr ⟨(fr_i d5 0 12 (mn (by omega))).trans c2, d2, O, T, Al, Ms, Ad, Z.1 0, Z.1 1, Z.1 8, od, hd, Sn, cn, dx, dy, skw k, t, cc, ⟨⟨zB, zB2⟩, X1.1, oT, oAl, oM, oA, z1, z8, g7.2.1, by omega, by omega, by omega⟩, cmC_fr c3 d5 (fun a j h => mn (by omega)), d4⟩⟩, hn, by omega, by omega⟩
end AG6

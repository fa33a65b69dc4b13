/-! CHANGES: the class lists them -/
def pcl (o : Nat → Nat) (p : Nat) : Nat := 147 + 5 * o (p / 2) + (if p % 2 = 0 then 1 else 3)
theorem pcl_e {o : Nat → Nat} {p : Nat} (h : p % 2 = 0) : pcl o p = 147 + 5 * o (p / 2) + 1 := by unfold pcl; rw [if_pos h]
theorem pcl_o {o : Nat → Nat} {p : Nat} (h : p % 2 = 1) : pcl o p = 147 + 5 * o (p / 2) + 3 := by unfold pcl; rw [if_neg (by omega)]
def llP (a j : Nat) : Bool := a == 71 || ((a == 64 && j == 19) || ((decide (147 ≤ a) && ((a - 147) % 5 == 1 || (a - 147) % 5 == 3)) && (j == 9 || j == 10)))
theorem llP_y (o : Nat → Nat) (p : Nat) {j : Nat} (h : j = 9 ∨ j = 10) : llP (pcl o p) j = true := by
  have e : (decide (147 ≤ pcl o p) && ((pcl o p - 147) % 5 == 1 || (pcl o p - 147) % 5 == 3)) = true := by
    rcases Nat.mod_two_eq_zero_or_one p with q | q
    · rw [pcl_e q, decide_eq_true (by omega), show (147 + 5 * o (p / 2) + 1 - 147) % 5 = 1 by omega]; rfl
    · rw [pcl_o q, decide_eq_true (by omega), show (147 + 5 * o (p / 2) + 3 - 147) % 5 = 3 by omega]; rfl
  unfold llP
  rw [e]
  rcases h with rfl | rfl <;> simp
theorem llP_lo {a j : Nat} (h : a < 147) (h2 : a ≠ 71) (h3 : a = 64 → j ≠ 19) : llP a j = false := by
  unfold llP
  rw [beq_eq_false_iff_ne.mpr h2, decide_eq_false (show ¬ 147 ≤ a by omega)]
  by_cases e : a = 64
  · rw [beq_eq_false_iff_ne.mpr (h3 e), Bool.and_false]; rfl
  · rw [beq_eq_false_iff_ne.mpr e]; rfl
theorem llP_j {a j : Nat} (h : 147 ≤ a) (h2 : j ≠ 9) (h3 : j ≠ 10) : llP a j = false := by
  unfold llP
  rw [beq_eq_false_iff_ne.mpr (show a ≠ 71 by omega), beq_eq_false_iff_ne.mpr (show a ≠ 64 by omega), beq_eq_false_iff_ne.mpr h2, beq_eq_false_iff_ne.mpr h3, Bool.or_false, Bool.and_false]
  rfl
theorem llP_m {a j : Nat} (h : 147 ≤ a) (h1 : (a - 147) % 5 ≠ 1) (h2 : (a - 147) % 5 ≠ 3) : llP a j = false := by
  unfold llP
  rw [beq_eq_false_iff_ne.mpr (show a ≠ 71 by omega), beq_eq_false_iff_ne.mpr (show a ≠ 64 by omega), beq_eq_false_iff_ne.mpr h1, beq_eq_false_iff_ne.mpr h2, Bool.or_false, Bool.and_false]
  rfl
/-- what the class holds of the listed parts before p -/
def liC (s : mM) (o : Nat → Nat) (PF : Nat → Nat → Int64) (L : (Nat → Bool) × (Nat → Option Nat)) (hd : Bool) (St : stT) (cnt : Nat) (O A : Nat → Int64) (p : Nat) : Prop := s.1 64 19 = nI (fb_ct (liB PF L hd St cnt) p) ∧ ∀ q, q < p → liB PF L hd St cnt q = true → s.2.2 71 (fb_ct (liB PF L hd St cnt) q) = some (pcl o q) ∧ s.1 (pcl o q) 9 = lnV O A PF q ∧ s.1 (pcl o q) 10 = zI (stNo St cnt (PF q))
section LC
variable {S : xS} {W H n N : Nat} {m : mM} {o : Nat → Nat} {PF : Nat → Nat → Int64} {St : stT} {cnt : Nat} {O A : Nat → Int64}
theorem rgO_p (X : rgO m N o PF) {p : Nat} (hp : p < 2 * N) : ptX m (pcl o p) (PF p) := by
  obtain ⟨h1, h2, h3⟩ := X (p / 2) (by omega)
  rcases Nat.mod_two_eq_zero_or_one p with q | q
  · rw [pcl_e q]
    rw [show 2 * (p / 2) = p by omega] at h2
    exact h2
  · rw [pcl_o q]
    rw [show 2 * (p / 2) + 1 = p by omega] at h3
    exact h3
theorem pcl_A {p : Nat} (h : o (p / 2) < n) : ptA (pcl o p) n := by
  obtain ⟨h1, h2⟩ := ptA_rg h
  rcases Nat.mod_two_eq_zero_or_one p with q | q
  · rw [pcl_e q]; exact h1
  · rw [pcl_o q]; exact h2
theorem pcl_one (oi : ∀ i j, i < N → j < N → o i = o j → i = j) {p q : Nat} (hp : p < 2 * N) (hq : q < 2 * N) (e : pcl o p = pcl o q) : p = q := by
  have f : p % 2 = q % 2 ∧ o (p / 2) = o (q / 2) := by
    unfold pcl at e
    split at e <;> split at e <;> omega
  have := oi _ _ (by omega) (by omega) f.2
  omega
theorem rgO_ll {m' : mM} (X : rgO m N o PF) (Q : fr llP m m') : rgO m' N o PF := fun i hi => by
  obtain ⟨h1, h2, h3⟩ := X i hi
  exact ⟨(fr_r Q _ _ (llP_lo (by decide) (by decide) (fun w => by cases w))).trans h1, ptX_fr h2 Q (fun j _ _ => llP_j (by omega) (by omega) (by omega)) (fun j => llP_m (by omega) (by omega) (by omega)), ptX_fr h3 Q (fun j _ _ => llP_j (by omega) (by omega) (by omega)) (fun j => llP_m (by omega) (by omega) (by omega))⟩
theorem cstM_fr {m' : mM} {K : Nat → Nat → Bool} (T : cstM m cnt St) (Q : fr K m m') (h : ∀ a j, 48 ≤ a → a ≤ 63 → K a j = false) : cstM m' cnt St := by
  obtain ⟨t1, t2, kc, t3, t4, t5⟩ := T
  refine ⟨(fr_i Q _ _ (h _ _ (by decide) (by decide))).trans t1, t2, kc, fun i hi => ⟨(t3 i hi).1, (fr_r Q _ _ (h _ _ (by decide) (by decide))).trans (t3 i hi).2⟩, t4, fun i hi => ?_⟩
  obtain ⟨u1, u2, u3, u4, u5⟩ := t5 i hi
  have k7 := (t3 i (by omega)).1
  exact ⟨u1, (fr_i Q _ _ (h _ _ (by omega) (by omega))).trans u2, (fr_i Q _ _ (h _ _ (by omega) (by omega))).trans u3, (fr_i Q _ _ (h _ _ (by omega) (by omega))).trans u4, fun k hk => (fr_l Q _ _ (h _ _ (by omega) (by omega))).trans (u5 k hk)⟩
theorem list_s (hW : W ≤ 64) (hH8 : 8 ≤ H) (hH : H ≤ 64) (hN : N ≤ 256) (hn : N ≤ n) (ho : ∀ i, i < N → o i < N) (oi : ∀ i j, i < N → j < N → o i = o j → i = j) (X : rgO m N o PF) (oF : ∀ p, okP W H (PF p)) (T : cstM m cnt St) (eO : m.2.1 73 = O) (eA : m.2.1 77 = A) {hd : Bool} {L : (Nat → Bool) × (Nat → Option Nat)} {p : Nat} (hp : p < 2 * N) (tp : (decide (p % 2 = 0) || !L.1 (p / 2)) = true) (hpn : (m.2.2 (pcl o p) 8).isNone = (tgO L p).isNone) (I : liC m o PF L hd St cnt O A p) : ∃ m', xM S mX1_list [.ref 64, .ref (pcl o p), .int (bz hd), .ref 48, .ref (if p % 2 = 1 then 76 else 72)] (E W H n m) = some (.inl none, E W H n m', 0, 0) ∧ liC m' o PF L hd St cnt O A (p + 1) ∧ fr llP m m' := by
  have Xp := rgO_p X hp
  have IA := pcl_A (o := o) (n := n) (p := p) (by have := ho (p / 2) (by omega); omega)
  obtain ⟨k0, k1, k2⟩ := id IA
  have ctp := ctP_le (PF p)
  obtain ⟨i1, i2⟩ := I
  have cle := fb_ct_le (liB PF L hd St cnt) p
  have g147 : 147 ≤ pcl o p := by unfold pcl; omega
  by_cases c0 : ctP (PF p) = 0
  · have y : liB PF L hd St cnt p = false := by unfold liB; rw [decide_eq_false (fun w => w c0)]; rfl
    refine ⟨m, w_X1_list S _ _ _ _ _ _ _ ?_, ⟨by rw [fb_ct_succ, y]; exact i1, fun q hq yq => ?_⟩, fr_rf⟩
    · refine c_gi (by omega) k0 (by rfl) (by rfl) ?_
      rw [Xp.1, c0]
      exact c_ift rfl rfl
    · by_cases e : q = p
      · rw [e, y] at yq; cases yq
      · exact i2 q (by omega) yq
  · have sn := stampNo_s (S := S) (W := W) (H := H) T IA Xp c0
    obtain ⟨Y, l, t, r, b, g1, g2, g3, g4, g5⟩ := ptX_psh Xp c0
    have tH : t < H := by
      obtain ⟨x, q⟩ := g1.2.2.2.1
      exact (oF p _ _ q).2
    have et : (bxC (PF p)).2.1 = t := by rw [bxC_eq g1]
    obtain ⟨s1, s2⟩ := stNo_rng St cnt (PF p)
    have c7 := T.2.1
    generalize eC : fb_ct (liB PF L hd St cnt) p = C at *
    have Q1 : fr llP m (sI m (pcl o p) 10 (zI (stNo St cnt (PF p)))) := fr_sI fr_rf (llP_y o p (Or.inr rfl))
    have Q2 : fr llP m (sI (sI m (pcl o p) 10 (zI (stNo St cnt (PF p)))) (pcl o p) 9 (lnV O A PF p)) := fr_sI Q1 (llP_y o p (Or.inl rfl))
    -- up to the line
    have upto : ∀ {oo : xO}, (if bz hd = 0 then ((xGr (E W H n (sI (sI m (pcl o p) 10 (zI (stNo St cnt (PF p)))) (pcl o p) 9 (lnV O A PF p))) 64 1 18).bind fun v14 => (xGi (E W H n (sI (sI m (pcl o p) 10 (zI (stNo St cnt (PF p)))) (pcl o p) 9 (lnV O A PF p))) 64 1 19).bind fun v15 => (xWr (E W H n (sI (sI m (pcl o p) 10 (zI (stNo St cnt (PF p)))) (pcl o p) 9 (lnV O A PF p))) v14 v15 (pcl o p)).bind fun h16 => (xGi h16 64 1 19).bind fun v17 => (xP false 1 h16 64 1 19 (.int (v17 + (1 : Int32)))).bind fun h18 => some (.inl none, h18, 0, 0)) else ((xGn (E W H n (sI (sI m (pcl o p) 10 (zI (stNo St cnt (PF p)))) (pcl o p) 9 (lnV O A PF p))) (pcl o p) 5 8).bind (xon ((xGi (E W H n (sI (sI m (pcl o p) 10 (zI (stNo St cnt (PF p)))) (pcl o p) 9 (lnV O A PF p))) (pcl o p) 5 10).bind fun v20 => if v20 < 0 then ((xGr (E W H n (sI (sI m (pcl o p) 10 (zI (stNo St cnt (PF p)))) (pcl o p) 9 (lnV O A PF p))) 64 1 18).bind fun v21 => (xGi (E W H n (sI (sI m (pcl o p) 10 (zI (stNo St cnt (PF p)))) (pcl o p) 9 (lnV O A PF p))) 64 1 19).bind fun v22 => (xWr (E W H n (sI (sI m (pcl o p) 10 (zI (stNo St cnt (PF p)))) (pcl o p) 9 (lnV O A PF p))) v21 v22 (pcl o p)).bind fun h23 => (xGi h23 64 1 19).bind fun v24 => (xP false 1 h23 64 1 19 (.int (v24 + (1 : Int32)))).bind fun h25 => some (.inl none, h25, 0, 0)) else (some (.inl none, E W H n (sI (sI m (pcl o p) 10 (zI (stNo St cnt (PF p)))) (pcl o p) 9 (lnV O A PF p)), 0, 0))) (fun v19 => (xGr (E W H n (sI (sI m (pcl o p) 10 (zI (stNo St cnt (PF p)))) (pcl o p) 9 (lnV O A PF p))) 64 1 18).bind fun v26 => (xGi (E W H n (sI (sI m (pcl o p) 10 (zI (stNo St cnt (PF p)))) (pcl o p) 9 (lnV O A PF p))) 64 1 19).bind fun v27 => (xWr (E W H n (sI (sI m (pcl o p) 10 (zI (stNo St cnt (PF p)))) (pcl o p) 9 (lnV O A PF p))) v26 v27 (pcl o p)).bind fun h28 => (xGi h28 64 1 19).bind fun v29 => (xP false 1 h28 64 1 19 (.int (v29 + (1 : Int32)))).bind fun h30 => some (.inl none, h30, 0, 0))))) = some oo → xM S mX1_list [.ref 64, .ref (pcl o p), .int (bz hd), .ref 48, .ref (if p % 2 = 1 then 76 else 72)] (E W H n m) = some oo := fun {oo} ho => by
      refine w_X1_list S _ _ _ _ _ _ _ ?_
      refine c_gi (by omega) k0 (by rfl) (by rfl) ?_
      rw [Xp.1]
      refine c_iff (fun w => c0 ((nI_eq (b := 0) (by omega) (by omega)).mp w)) ?_
      refine c_gi (by omega) (by rfl) (by rfl) (by rfl) ?_
      refine c_gr (by omega) (by rfl) (by rfl) (by rfl) ?_
      refine c_rz (by omega) (by rfl) (show 512 = eL H 71 from rfl) ?_
      rw [i1]
      refine c_ift ((nI_ltI (by omega) (by omega)).mpr (by omega)) ?_
      refine c_ob (by omega) (by rfl) ?_
      refine c_qI sn ?_
      refine c_pi (by omega) k0 (by rfl) (by rfl) (xPok_int (by decide) (by rfl)) ?_
      refine c_gi (by omega) k0 (by rfl) (by rfl) ?_
      rw [sI_ne (by omega), g5]
      by_cases od : p % 2 = 1
      · have lu := linesUpTo_s (S := S) (n := n) (W := W) (H := H) (m := sI m (pcl o p) 10 (zI (stNo St cnt (PF p)))) (a := 76) (f := A) hW hH im_82.2.2.1 (by rw [sI_2]; exact eA) (z := t) (by omega)
        rw [if_pos od]
        refine c_ob (by omega) (by rfl) ?_
        refine c_qI lu ?_
        rw [show nI (lnC A (min (t + 1) H)) - 1 = lnV O A PF p by unfold lnV; rw [if_pos od, et, show min (t + 1) H = t + 1 by omega]]
        refine c_pi (by omega) k0 (by rfl) (by rfl) (xPok_int (by decide) (by rfl)) ?_
        exact ho
      · have lu := linesUpTo_s (S := S) (n := n) (W := W) (H := H) (m := sI m (pcl o p) 10 (zI (stNo St cnt (PF p)))) (a := 72) (f := O) hW hH im_82.1 (by rw [sI_2]; exact eO) (z := t) (by omega)
        rw [if_neg od]
        refine c_ob (by omega) (by rfl) ?_
        refine c_qI lu ?_
        rw [show nI (lnC O (min (t + 1) H)) - 1 = lnV O A PF p by unfold lnV; rw [if_neg od, et, show min (t + 1) H = t + 1 by omega]]
        refine c_pi (by omega) k0 (by rfl) (by rfl) (xPok_int (by decide) (by rfl)) ?_
        exact ho
    -- a listed one
    have fin : ∀ {v : Nat → Int32 → Option xO}, True → liB PF L hd St cnt p = true → ∃ m' : mM, ((xGr (E W H n (sI (sI m (pcl o p) 10 (zI (stNo St cnt (PF p)))) (pcl o p) 9 (lnV O A PF p))) 64 1 18).bind fun v14 => (xGi (E W H n (sI (sI m (pcl o p) 10 (zI (stNo St cnt (PF p)))) (pcl o p) 9 (lnV O A PF p))) 64 1 19).bind fun v15 => (xWr (E W H n (sI (sI m (pcl o p) 10 (zI (stNo St cnt (PF p)))) (pcl o p) 9 (lnV O A PF p))) v14 v15 (pcl o p)).bind fun h16 => (xGi h16 64 1 19).bind fun v17 => (xP false 1 h16 64 1 19 (.int (v17 + (1 : Int32)))).bind fun h18 => (some (.inl none, h18, 0, 0) : Option xO)) = (some (.inl none, E W H n m', 0, 0) : Option xO) ∧ liC m' o PF L hd St cnt O A (p + 1) ∧ fr llP m m' := fun {v} _ y => by
      refine ⟨sI (sR (sI (sI m (pcl o p) 10 (zI (stNo St cnt (PF p)))) (pcl o p) 9 (lnV O A PF p)) 71 C (some (pcl o p))) 64 19 (nI (C + 1)), ?_, ⟨?_, fun q hq yq => ?_⟩, fr_sI (fr_sR Q2 (by rfl)) (by rfl)⟩
      · refine c_gr (by omega) (by rfl) (by rfl) (by rfl) ?_
        refine c_gi (by omega) (by rfl) (by rfl) (by rfl) ?_
        rw [sI_ne (by omega), sI_ne (by omega), i1]
        refine c_wr (i := C) (ci := 5) (by omega) (by rfl) (by decide) (by rfl) (by rfl) (by first | omega | ((conv => rhs; whnf); first | omega | (show _ < OfNat.ofNat (α := Nat) _; omega))) (by first | omega | ((conv => lhs; whnf); first | omega | (show OfNat.ofNat (α := Nat) _ < _; omega))) (by omega) k0 (by rfl) ?_
        refine c_gi (by omega) (by rfl) (by rfl) (by rfl) ?_
        rw [sR_1, sI_ne (by omega), sI_ne (by omega), i1, nI_suc]
        refine c_pi (by omega) (by rfl) (by rfl) (by rfl) (xPok_int (by decide) (by rfl)) ?_
        rfl
      · rw [sI_eq ⟨rfl, rfl⟩, fb_ct_succ, y, eC]
        rfl
      · by_cases e : q = p
        · rw [e, eC]
          refine ⟨?_, ?_, ?_⟩
          · rw [sI_2, sR_eq ⟨rfl, rfl⟩]
          · rw [sI_ne (by omega), sR_1, sI_eq ⟨rfl, rfl⟩]
          · rw [sI_ne (by omega), sR_1, sI_ne (by omega), sI_eq ⟨rfl, rfl⟩]
        · have lt : fb_ct (liB PF L hd St cnt) q < C := by
            have := fb_ct_mono (liB PF L hd St cnt) (m := q + 1) (n := p) (by omega)
            rw [fb_ct_succ, yq, if_pos rfl] at this
            omega
          have ne : pcl o q ≠ pcl o p := fun w => e (pcl_one oi (by omega) hp w)
          have gq : 147 ≤ pcl o q := by unfold pcl; omega
          obtain ⟨w1, w2, w3⟩ := i2 q (by omega) yq
          refine ⟨?_, ?_, ?_⟩
          · rw [sI_2, sR_ne (by omega), sI_2, sI_2]; exact w1
          · rw [sI_ne (by omega), sR_1, sI_ne (fun w => ne w.1), sI_ne (fun w => ne w.1)]; exact w2
          · rw [sI_ne (by omega), sR_1, sI_ne (fun w => ne w.1), sI_ne (fun w => ne w.1)]; exact w3
    cases hhd : hd
    · have y : liB PF L hd St cnt p = true := by
        unfold liB
        rw [decide_eq_true c0, tp, hhd]
        rfl
      obtain ⟨m', f1, f2, f3⟩ := fin (v := fun _ _ => none) trivial y
      rw [hhd] at f2 upto
      exact ⟨m', upto (c_ift rfl f1), f2, f3⟩
    · cases htg : tgO L p with
      | some j =>
        have y : liB PF L hd St cnt p = true := by
          unfold liB
          rw [decide_eq_true c0, tp, htg]
          cases hd <;> rfl
        obtain ⟨m', f1, f2, f3⟩ := fin (v := fun _ _ => none) trivial y
        rw [hhd] at f2 upto
        refine ⟨m', upto (c_iff (by decide) ?_), f2, f3⟩
        refine c_gn (by omega) k0 (by rfl) (by rfl) ?_
        rw [sI_2, sI_2]
        rw [htg] at hpn
        cases hr : m.2.2 (pcl o p) 8 with
        | none => rw [hr] at hpn; cases hpn
        | some r => exact c_on1 rfl f1
      | none =>
        rw [htg] at hpn
        have hr : m.2.2 (pcl o p) 8 = none := Option.isNone_iff_eq_none.mp hpn
        by_cases z : 0 ≤ stNo St cnt (PF p)
        · have y : liB PF L hd St cnt p = false := by
            unfold liB
            rw [hhd, htg, decide_eq_true z]
            exact Bool.and_false _
          rw [hhd] at y i2 eC upto
          refine ⟨_, upto (c_iff (by decide) ?_), ⟨?_, fun q hq yq => ?_⟩, Q2⟩
          · refine c_gn (by omega) k0 (by rfl) (by rfl) ?_
            rw [sI_2, sI_2]
            refine c_on0 hr ?_
            refine c_gi (by omega) k0 (by rfl) (by rfl) ?_
            rw [sI_ne (by omega), sI_eq ⟨rfl, rfl⟩]
            refine c_iff (fun w => by
              have := (zI_lt (b := 0) (by omega) (by omega) (by omega) (by omega)).mp w
              omega) ?_
            rfl
          · rw [sI_ne (by omega), sI_ne (by omega), fb_ct_succ, y, eC]
            exact i1
          · by_cases e : q = p
            · rw [e, y] at yq; cases yq
            · have ne : pcl o q ≠ pcl o p := fun w => e (pcl_one oi (by omega) hp w)
              obtain ⟨w1, w2, w3⟩ := i2 q (by omega) yq
              refine ⟨?_, ?_, ?_⟩
              · rw [sI_2, sI_2]; exact w1
              · rw [sI_ne (fun w => ne w.1), sI_ne (fun w => ne w.1)]; exact w2
              · rw [sI_ne (fun w => ne w.1), sI_ne (fun w => ne w.1)]; exact w3
        · have y : liB PF L hd St cnt p = true := by
            unfold liB
            rw [decide_eq_true c0, tp, decide_eq_false z, Bool.and_false]
            rfl
          obtain ⟨m', f1, f2, f3⟩ := fin (v := fun _ _ => none) trivial y
          rw [hhd] at f2 upto
          refine ⟨m', upto (c_iff (by decide) ?_), f2, f3⟩
          refine c_gn (by omega) k0 (by rfl) (by rfl) ?_
          rw [sI_2, sI_2]
          refine c_on0 hr ?_
          refine c_gi (by omega) k0 (by rfl) (by rfl) ?_
          rw [sI_ne (by omega), sI_eq ⟨rfl, rfl⟩]
          exact c_ift ((zI_lt (b := 0) (by omega) (by omega) (by omega) (by omega)).mpr (by omega)) f1
end LC

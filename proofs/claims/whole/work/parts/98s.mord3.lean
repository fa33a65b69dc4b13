/-! ORDER: the model's whole ordering -/
section OS
variable {S : xS} {W H n N : Nat} {m : mM} {L T R B : Nat → Nat} {c : Bool}
theorem ordersRegions_s (hN : N ≤ 256) (X : mbZ m N L T R B) (hb : ∀ q, q < N → L q < 64 ∧ T q < 64 ∧ R q < 64 ∧ B q < 64) (ec : m.1 98 7 = bz c) (e59 : m.1 90 59 = nI N) : ∃ m', xM S mX13_ordersRegions [.ref 90] (E W H n m) = some (.inl none, E W H n m', 0, 0) ∧ (∀ i, i < N → m'.1 129 i = nI (o2 (kf c L T) (kf c T L) (kf c R B) N i) ∧ m'.1 130 (o2 (kf c L T) (kf c T L) (kf c R B) N i) = nI i) ∧ fr orP m m' := by
  generalize ek1 : kf c L T = k1
  generalize ek2 : kf c T L = k2
  generalize eke : kf c R B = ke
  have b1 : ∀ q, q < N → k1 q < 64 ∧ k2 q < 64 ∧ ke q < 64 := fun q hq => by
    obtain ⟨h1, h2, h3, h4⟩ := hb q hq
    rw [← ek1, ← ek2, ← eke]
    unfold kf
    cases c
    · exact ⟨h2, h1, h4⟩
    · exact ⟨h1, h2, h3⟩
  have b2 : ∀ q, q < N → kf c L T q < 64 ∧ kf c T L q < 64 := fun q hq => by
    rw [ek1, ek2]
    exact ⟨(b1 q hq).1, (b1 q hq).2.1⟩
  have inj1 := G1_inj (k1 := k1) (k2 := k2) hN
  have inj2 := G2_inj (k1 := k1) (k2 := k2) (ke := ke) hN
  obtain ⟨p1, p2⟩ := o1_s (k1 := k1) (k2 := k2) hN
  have ec' : ∀ {s : mM}, fr orP m s → s.1 98 7 = bz c := fun {s} Q => by rw [fr_i Q 98 7 rfl]; exact ec
  have e59' : ∀ {s : mM}, fr orP m s → s.1 90 59 = nI N := fun {s} Q => by rw [fr_i Q 90 59 rfl]; exact e59
  -- none taken
  have L1 := x_sg (σ := mM) (τ := mM) (D := fun r s => xden S mX13_ordersRegions 2 [(0, .ref 90), (1, .int (nI r))] [] (E W H n s)) (Inv := fun r s => fr orP m s ∧ ∀ i, i < r → s.1 133 i = 0)
    (F := fun s => xden S mX13_ordersRegions 29 [(0, .ref 90), (1, .int (-1 : Int32)), (2, .int (-1 : Int32)), (3, .int (0 : Int32))] [] (E W H n s)) (Post := fun s => fr orP m s ∧ ∀ i, i < N → s.1 133 i = 0) N (fun r hr s hs => ?_) (fun s hs => ?_) m ⟨fr_rf, fun q hq => absurd hq (Nat.not_lt_zero q)⟩
  · obtain ⟨m1, ⟨g1, g2⟩, g3⟩ := L1
    -- the first choice
    have L2 := x_sg (σ := mM) (τ := mM) (D := fun r s => xden S mX13_ordersRegions 29 [(0, .ref 90), (1, .int (zI (bS k1 k2 ke N r).1)), (2, .int (zI (bS k1 k2 ke N r).2)), (3, .int (nI r))] [] (E W H n s)) (Inv := fun r s => fr orP m s ∧ (∀ q, q < N → s.1 133 q = bz (decide (po (G1 k1 k2) N q < r))) ∧ ∀ i, i < r → s.1 132 (o1 k1 k2 N i) = nI (bd k1 k2 ke N i))
      (F := fun s => xden S mX13_ordersRegions 103 [(0, .ref 90), (1, .int (zI (bS k1 k2 ke N N).1)), (3, .int (0 : Int32))] [] (E W H n s)) (Post := fun s => fr orP m s ∧ ∀ q, q < N → s.1 132 q = nI (bdR k1 k2 ke N q)) N (fun r hr s hs => ?_) (fun s hs => ?_) m1 ⟨g1, fun q hq => by rw [g2 q hq, decide_eq_false (Nat.not_lt_zero _)]; rfl, fun q hq => absurd hq (Nat.not_lt_zero q)⟩
    · obtain ⟨m2, ⟨f1, f2⟩, f3⟩ := L2
      -- again none taken
      have L3 := x_sg (σ := mM) (τ := mM) (D := fun r s => xden S mX13_ordersRegions 103 [(0, .ref 90), (1, .int (zI (bS k1 k2 ke N N).1)), (3, .int (nI r))] [] (E W H n s)) (Inv := fun r s => fr orP m s ∧ (∀ q, q < N → s.1 132 q = nI (bdR k1 k2 ke N q)) ∧ ∀ i, i < r → s.1 133 i = 0)
        (F := fun s => xden S mX13_ordersRegions 129 [(0, .ref 90), (1, .int (zI (bS k1 k2 ke N N).1)), (3, .int (0 : Int32)), (4, .int (0 : Int32))] [] (E W H n s)) (Post := fun s => fr orP m s ∧ (∀ q, q < N → s.1 132 q = nI (bdR k1 k2 ke N q)) ∧ ∀ i, i < N → s.1 133 i = 0) N (fun r hr s hs => ?_) (fun s hs => ?_) m2 ⟨f1, f2, fun q hq => absurd hq (Nat.not_lt_zero q)⟩
      · obtain ⟨m3, ⟨i1, i2, i3⟩, i4⟩ := L3
        rcases Nat.eq_zero_or_pos N with z | z
        · refine ⟨m3, w_X13_ordersRegions S _ _ _ (g3 _ (f3 _ (i4 _ ?_))), fun i hi => by omega, i1⟩
          refine w_X13_ordersRegions_129 S _ _ _ _ _ _ ?_
          rw [z]
          exact c_ift (show (-1 : Int32) < 0 by decide) rfl
        · have el : (bS k1 k2 ke N N).1 = (bd k1 k2 ke N (N - 1) : Int) := by
            have := bd_z (k1 := k1) (k2 := k2) (ke := ke) (N := N) (N - 1)
            rw [show N - 1 + 1 = N by omega] at this
            exact this
          have bl := bd_le (k1 := k1) (k2 := k2) (ke := ke) (N := N) (N - 1)
          have I0 : orI m m3 N 0 k1 k2 ke := ⟨i1, fun q hq => by rw [i3 q hq, decide_eq_false (Nat.not_lt_zero _)]; rfl, i2, fun i hi => absurd hi (Nat.not_lt_zero i)⟩
          have inv0 : ∀ q, q < N → 0 ≤ po (G2 k1 k2 ke N) N q → 0 ≤ bdR k1 k2 ke N q := fun q _ _ => Nat.zero_le _
          obtain ⟨v, v1, v2⟩ := leastRegion_s (S := S) (W := W) (H := H) (n := n) (m := m3) (mbZ_fr X i1) (ec' i1) hN b2 (e59' i1) (tk := fun q => decide (po (G2 k1 k2 ke N) N q < 0)) I0.2.1 true (b := 0) (bR := bdR k1 k2 ke N) (fun _ => ⟨by omega, fun q hq => ⟨i2 q hq, by have := bdR_le (k1 := k1) (k2 := k2) (ke := ke) hN hq; omega⟩⟩)
          rw [ek1, ek2] at v1
          have ev := pick2 hN (fun q hq => ⟨(b1 q hq).1, (b1 q hq).2.1⟩) (Nat.zero_le N) inv0 v1
          obtain ⟨m4, j1, j2⟩ := or143 (S := S) (W := W) (H := H) (n := n) (ke := ke) hN X b2 ec e59 ek1 ek2 (l := bd k1 k2 ke N (N - 1)) (fun q hq => bdR_le hN hq) (by omega) _ 0 0 m3 (Nat.le_refl _) (Nat.zero_le _) (Nat.zero_le _) I0 inv0
          refine ⟨m4, w_X13_ordersRegions S _ _ _ (g3 _ (f3 _ (i4 _ ?_))), fun i hi => j1.2.2.2 i hi, j1.1⟩
          rw [el, zI_n (by omega)]
          refine w_X13_ordersRegions_129 S _ _ _ _ _ _ ?_
          refine c_iff (nI_pos (by omega)) ?_
          refine c_ob (by omega) (by rfl) ?_
          refine c_qI v2 ?_
          rw [ev]
          exact j2
      · left
        obtain ⟨h1, h2, h3⟩ := hs
        refine ⟨sI s 133 r 0, ⟨fr_sI h1 (by rfl), fun q hq => by rw [sI_ne (by omega)]; exact h2 q hq, fun i hi => ?_⟩, fun o ho => w_X13_ordersRegions_103 S _ _ _ _ _ ?_⟩
        · by_cases e : i = r
          · rw [e, sI_eq ⟨rfl, rfl⟩]
          · rw [sI_ne (fun w => e w.2)]
            exact h3 i (by omega)
        · refine c_gi (by omega) (by rfl) (by rfl) (by rfl) ?_
          rw [e59' h1]
          refine c_iff (fun w => by have := (nI_leI (by omega) (by omega)).mp w; omega) ?_
          refine c_gr (by omega) (by rfl) (by rfl) (by rfl) ?_
          refine c_wz (i := r) (by omega) (by rfl) (by rfl) (by rfl) (by first | omega | ((conv => rhs; whnf); first | omega | (show _ < OfNat.ofNat (α := Nat) _; omega))) (by first | omega | ((conv => lhs; whnf); first | omega | (show OfNat.ofNat (α := Nat) _ < _; omega))) (Or.inl rfl) ?_
          refine c_let ?_
          rw [nI_suc]
          exact ho
      · refine ⟨s, hs, fun o ho => w_X13_ordersRegions_103 S _ _ _ _ _ ?_⟩
        refine c_gi (by omega) (by rfl) (by rfl) (by rfl) ?_
        rw [e59' hs.1]
        refine c_ift ((nI_leI (by omega) (by omega)).mpr (Nat.le_refl _)) ?_
        exact ho
    · left
      obtain ⟨h1, h2, h3⟩ := hs
      have pr := p1 r hr
      obtain ⟨c1, c2, c3⟩ := b1 _ pr
      have bz1 := bd_z (k1 := k1) (k2 := k2) (ke := ke) (N := N) r
      have ble := bd_le (k1 := k1) (k2 := k2) (ke := ke) (N := N) r
      have rng := bnd_rng (f := fun i => (k1 (o1 k1 k2 N i) : Int)) (e := fun i => (ke (o1 k1 k2 N i) : Int)) r
      have es := bnd_s (fun i => (k1 (o1 k1 k2 N i) : Int)) (fun i => (ke (o1 k1 k2 N i) : Int)) r
      change -1 ≤ (bS k1 k2 ke N r).1 ∧ (bS k1 k2 ke N r).1 < r ∧ (0 < r → 0 ≤ (bS k1 k2 ke N r).1) at rng
      change bS k1 k2 ke N (r + 1) = if (bS k1 k2 ke N r).2 < (k1 (o1 k1 k2 N r) : Int) ∨ r = 0 then ((bS k1 k2 ke N r).1 + 1, (ke (o1 k1 k2 N r) : Int)) else ((bS k1 k2 ke N r).1, max (bS k1 k2 ke N r).2 (ke (o1 k1 k2 N r) : Int)) at es
      have r2 := bnd_2 (f := fun i => (k1 (o1 k1 k2 N i) : Int)) (e := fun i => (ke (o1 k1 k2 N i) : Int)) (M := 64) (N := N) (fun k hk => by have := (b1 _ (p1 k hk)).2.2; (try dsimp only); omega) (by decide) r (by omega)
      change -1 ≤ (bS k1 k2 ke N r).2 ∧ (bS k1 k2 ke N r).2 ≤ 64 at r2
      have e0 : r = 0 → (bS k1 k2 ke N r).1 = -1 := fun w => by rw [w]; rfl
      generalize eb : bS k1 k2 ke N r = b at *
      generalize eb' : bS k1 k2 ke N (r + 1) = b' at *
      have Q1 : fr orP m (sI s 133 (o1 k1 k2 N r) 1) := fr_sI h1 (by rfl)
      have Q2 : fr orP m (sI (sI s 133 (o1 k1 k2 N r) 1) 132 (o1 k1 k2 N r) (nI (bd k1 k2 ke N r))) := fr_sI Q1 (by rfl)
      refine ⟨sI (sI s 133 (o1 k1 k2 N r) 1) 132 (o1 k1 k2 N r) (nI (bd k1 k2 ke N r)), ⟨Q2, fun q hq => ?_, fun i hi => ?_⟩, fun o ho => w_X13_ordersRegions_29 S _ _ _ _ _ _ ?_⟩
      · rw [sI_ne (by omega)]
        by_cases e : q = o1 k1 k2 N r
        · rw [e, sI_eq ⟨rfl, rfl⟩, show po (G1 k1 k2) N (o1 k1 k2 N r) = r from po_o inj1 hr, decide_eq_true (Nat.lt_succ_self r)]
          rfl
        · rw [sI_ne (fun w => e w.2), h2 q hq]
          have ne : po (G1 k1 k2) N q ≠ r := fun w => e (by rw [← w]; exact (po_s inj1 hq).2.symm)
          have : decide (po (G1 k1 k2) N q < r) = decide (po (G1 k1 k2) N q < r + 1) := by
            by_cases u : po (G1 k1 k2) N q < r
            · rw [decide_eq_true u, decide_eq_true (by omega)]
            · rw [decide_eq_false u, decide_eq_false (by omega)]
          rw [this]
      · by_cases e : i = r
        · rw [e, sI_eq ⟨rfl, rfl⟩]
        · have ne : o1 k1 k2 N i ≠ o1 k1 k2 N r := fun w => e (oG_inj inj1 (by omega) hr w)
          rw [sI_ne (fun w => ne w.2), sI_ne (by omega)]
          exact h3 i (by omega)
      · obtain ⟨v, v1, v2⟩ := leastRegion_s (S := S) (W := W) (H := H) (n := n) (m := s) (mbZ_fr X h1) (ec' h1) hN b2 (e59' h1) (tk := fun q => decide (po (G1 k1 k2) N q < r)) h2 false (b := 0) (bR := fun _ => 0) (fun w => by cases w)
        rw [ek1, ek2] at v1
        have ev := pick1 (X := fun _ => decide (0 = 0)) inj1 hr v1
        change v = (o1 k1 k2 N r : Int) at ev
        rw [ev, zI_n (by omega)] at v2
        have fk := firstKey_s (S := S) (W := W) (H := H) (n := n) (mbZ_fr X Q1) (ec' Q1) hN pr
        have ek := endKey_s (S := S) (W := W) (H := H) (n := n) (mbZ_fr X Q1) (ec' Q1) hN pr
        rw [ek1] at fk
        rw [eke] at ek
        refine c_gi (by omega) (by rfl) (by rfl) (by rfl) ?_
        rw [e59' h1]
        refine c_iff (fun w => by have := (nI_leI (by omega) (by omega)).mp w; omega) ?_
        refine c_ob (by omega) (by rfl) ?_
        refine c_qI v2 ?_
        refine c_gr (by omega) (by rfl) (by rfl) (by rfl) ?_
        refine c_wz (i := o1 k1 k2 N r) (by omega) (by rfl) (by rfl) (by rfl) (by first | omega | ((conv => rhs; whnf); first | omega | (show _ < OfNat.ofNat (α := Nat) _; omega))) (by first | omega | ((conv => lhs; whnf); first | omega | (show OfNat.ofNat (α := Nat) _ < _; omega))) (Or.inr rfl) ?_
        -- a new band
        have new : (bd k1 k2 ke N r : Int) = b.1 + 1 → b' = (b.1 + 1, (ke (o1 k1 k2 N r) : Int)) → (xlet (zI b.1 + (1 : Int32)) fun v30 => if xOb (E W H n (sI s 133 (o1 k1 k2 N r) 1)) 90 12 = true then xqI (xM S mX13_endKey [.ref 90, .int (nI (o1 k1 k2 N r))] (E W H n (sI s 133 (o1 k1 k2 N r) 1))) xth fun v33 h32 => if xOb h32 90 12 = true then xqI (xM S mX13_endKey [.ref 90, .int (nI (o1 k1 k2 N r))] h32) xth fun v36 h35 => xqI (xM S mX13_greater [.int v33, .int v36] h35) xth fun v38 h37 => (xGr h37 90 12 67).bind fun v39 => (xWi h37 v39 (nI (o1 k1 k2 N r)) v30).bind fun h40 => xlet (nI r + (1 : Int32)) fun v41 => (xden S mX13_ordersRegions 29 [(0, .ref 90), (1, .int v30), (2, .int v38), (3, .int v41)] [] h40) else none else none) = some o := fun d1 d2 => by
          rw [d2] at ho
          refine c_let ?_
          have e1 : zI b.1 + (1 : Int32) = nI (bd k1 k2 ke N r) := by rw [show (1 : Int32) = nI 1 from rfl, zI_1, ← d1, zI_n (by omega)]
          rw [e1]
          refine c_ob (by omega) (by rfl) ?_
          refine c_qI ek ?_
          refine c_ob (by omega) (by rfl) ?_
          refine c_qI ek ?_
          rw [← zI_n (show ke (o1 k1 k2 N r) < 2147483648 by omega)]
          refine c_qI (greater_z S _ (by omega) (by omega) (by omega) (by omega)) ?_
          refine c_gr (by omega) (by rfl) (by rfl) (by rfl) ?_
          refine c_wi (i := o1 k1 k2 N r) (by omega) (by rfl) (by rfl) (by rfl) (by first | omega | ((conv => rhs; whnf); first | omega | (show _ < OfNat.ofNat (α := Nat) _; omega))) (by first | omega | ((conv => lhs; whnf); first | omega | (show OfNat.ofNat (α := Nat) _ < _; omega))) ?_
          refine c_let ?_
          rw [nI_suc, show max (ke (o1 k1 k2 N r) : Int) (ke (o1 k1 k2 N r) : Int) = (ke (o1 k1 k2 N r) : Int) by omega]
          change xden S mX13_ordersRegions 29 [(0, .ref 90), (1, .int (zI (b.1 + 1))), (2, .int (zI (ke (o1 k1 k2 N r) : Int))), (3, .int (nI (r + 1)))] [] _ = some o at ho
          rw [← d1, zI_n (show bd k1 k2 ke N r < 2147483648 by omega)] at ho
          exact ho
        rcases Nat.eq_zero_or_pos r with z | z
        · have eb1 := e0 z
          rw [if_pos (Or.inr z)] at es
          refine c_ift (by rw [eb1]; decide) ?_
          exact new (by rw [← bz1, es]) es
        · refine c_iff (by
            rw [show (0 : Int32) = zI 0 from rfl, zI_lt (by omega) (by omega) (by omega) (by omega)]
            have := rng.2.2 z
            omega) ?_
          refine c_ob (by omega) (by rfl) ?_
          refine c_qI fk ?_
          by_cases cs : b.2 < (k1 (o1 k1 k2 N r) : Int)
          · rw [if_pos (Or.inl cs)] at es
            refine c_iff (by rw [← zI_n (by omega), zI_le (by omega) (by omega) (by omega) (by omega)]; omega) ?_
            exact new (by rw [← bz1, es]) es
          · rw [if_neg (fun w => w.elim cs (by omega))] at es
            rw [es] at ho bz1
            change b.1 = (bd k1 k2 ke N r : Int) at bz1
            refine c_ift (by rw [← zI_n (by omega), zI_le (by omega) (by omega) (by omega) (by omega)]; omega) ?_
            refine c_ob (by omega) (by rfl) ?_
            refine c_qI ek ?_
            rw [← zI_n (show ke (o1 k1 k2 N r) < 2147483648 by omega)]
            refine c_qI (greater_z S _ (by omega) (by omega) (by omega) (by omega)) ?_
            refine c_gr (by omega) (by rfl) (by rfl) (by rfl) ?_
            refine c_wi (i := o1 k1 k2 N r) (by omega) (by rfl) (by rfl) (by rfl) (by first | omega | ((conv => rhs; whnf); first | omega | (show _ < OfNat.ofNat (α := Nat) _; omega))) (by first | omega | ((conv => lhs; whnf); first | omega | (show OfNat.ofNat (α := Nat) _ < _; omega))) ?_
            refine c_let ?_
            rw [nI_suc]
            change xden S mX13_ordersRegions 29 [(0, .ref 90), (1, .int (zI b.1)), (2, .int (zI (max b.2 (ke (o1 k1 k2 N r) : Int)))), (3, .int (nI (r + 1)))] [] _ = some o at ho
            rw [bz1, zI_n (by omega)] at ho ⊢
            exact ho
    · refine ⟨s, ⟨hs.1, fun q hq => ?_⟩, fun o ho => w_X13_ordersRegions_29 S _ _ _ _ _ _ ?_⟩
      · obtain ⟨i, hi, e⟩ := oG_onto inj1 hq
        have := hs.2.2 i hi
        rw [← bdR_o1 hN hi] at this
        have e' : o1 k1 k2 N i = q := e
        rw [e'] at this
        exact this
      · refine c_gi (by omega) (by rfl) (by rfl) (by rfl) ?_
        rw [e59' hs.1]
        refine c_ift ((nI_leI (by omega) (by omega)).mpr (Nat.le_refl _)) ?_
        exact ho
  · left
    obtain ⟨h1, h3⟩ := hs
    refine ⟨sI s 133 r 0, ⟨fr_sI h1 (by rfl), fun i hi => ?_⟩, fun o ho => w_X13_ordersRegions_2 S _ _ _ _ ?_⟩
    · by_cases e : i = r
      · rw [e, sI_eq ⟨rfl, rfl⟩]
      · rw [sI_ne (fun w => e w.2)]
        exact h3 i (by omega)
    · refine c_gi (by omega) (by rfl) (by rfl) (by rfl) ?_
      rw [e59' h1]
      refine c_iff (fun w => by have := (nI_leI (by omega) (by omega)).mp w; omega) ?_
      refine c_gr (by omega) (by rfl) (by rfl) (by rfl) ?_
      refine c_wz (i := r) (by omega) (by rfl) (by rfl) (by rfl) (by first | omega | ((conv => rhs; whnf); first | omega | (show _ < OfNat.ofNat (α := Nat) _; omega))) (by first | omega | ((conv => lhs; whnf); first | omega | (show OfNat.ofNat (α := Nat) _ < _; omega))) (Or.inl rfl) ?_
      refine c_let ?_
      rw [nI_suc]
      exact ho
  · refine ⟨s, hs, fun o ho => w_X13_ordersRegions_2 S _ _ _ _ ?_⟩
    refine c_gi (by omega) (by rfl) (by rfl) (by rfl) ?_
    rw [e59' hs.1]
    refine c_ift ((nI_leI (by omega) (by omega)).mpr (Nat.le_refl _)) ?_
    exact ho
end OS

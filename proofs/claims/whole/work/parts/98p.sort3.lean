/-! ORDER: the class's regions in their order, with their numbers -/
theorem bnd_s (f e : Nat → Int) (k : Nat) : bnd f e (k + 1) = if (bnd f e k).2 < f k ∨ k = 0 then ((bnd f e k).1 + 1, e k) else ((bnd f e k).1, max (bnd f e k).2 (e k)) := rfl
theorem bnd_2 {f e : Nat → Int} {M : Int} {N : Nat} (he : ∀ k, k < N → -1 ≤ e k ∧ e k ≤ M) (hM : -1 ≤ M) : ∀ k, k ≤ N → -1 ≤ (bnd f e k).2 ∧ (bnd f e k).2 ≤ M := by
  intro k
  induction k with
  | zero => exact fun _ => ⟨Int.le_refl _, hM⟩
  | succ k ih =>
    intro hk
    have ih := ih (by omega)
    have := he k (by omega)
    rw [bnd_s]
    split
    · exact this
    · show -1 ≤ max (bnd f e k).2 (e k) ∧ max (bnd f e k).2 (e k) ≤ M
      omega
section SQ
variable {S : xS} {W H n N : Nat} {m : mM} {L T R B : Nat → Nat}
theorem sortRegions_s (hN : N ≤ 256) (hn : N ≤ n) (X : rgZ m N L T R B) (hb : ∀ q, q < N → L q < 64 ∧ T q < 64 ∧ R q < 64 ∧ B q < 64) (e17 : m.1 64 17 = nI N) (eo : ∀ i, i < N → m.2.2 70 i = some (147 + 5 * i)) (c : Bool) : ∃ m', xM S mX1_sortRegions [.ref 64, .int (bz c)] (E W H n m) = some (.inl none, E W H n m', 0, 0) ∧ (∀ i, i < N → m'.2.2 70 i = some (147 + 5 * o2 (kf c L T) (kf c T L) (kf c R B) N i) ∧ m'.1 (147 + 5 * o2 (kf c L T) (kf c T L) (kf c R B) N i) 6 = nI i ∧ m'.1 (147 + 5 * o2 (kf c L T) (kf c T L) (kf c R B) N i + 1) 7 = nI i ∧ m'.1 (147 + 5 * o2 (kf c L T) (kf c T L) (kf c R B) N i + 3) 7 = nI i) ∧ fr srQ m m' := by
  generalize ek1 : kf c L T = k1
  generalize ek2 : kf c T L = k2
  generalize eke : kf c R B = ke
  have st1 : ∀ {s : mM}, fr srQ m s → ∀ {q : Nat}, q < N → xM S mX7_start [.ref (147 + 5 * q), .int (bz c)] (E W H n s) = some (.inl (some (.int (nI (k1 q)))), E W H n s, 0, 0) := fun {s} Q {q} hq => by
    rw [← ek1]
    exact start_s (rgZ_fr X Q) hn hq c
  have st2 : ∀ {s : mM}, fr srQ m s → ∀ {q : Nat}, q < N → xM S mX7_start [.ref (147 + 5 * q), .int (bz !c)] (E W H n s) = some (.inl (some (.int (nI (k2 q)))), E W H n s, 0, 0) := fun {s} Q {q} hq => by
    rw [← ek2, show kf c T L = kf (!c) L T by cases c <;> rfl]
    exact start_s (rgZ_fr X Q) hn hq (!c)
  have st3 : ∀ {s : mM}, fr srQ m s → ∀ {q : Nat}, q < N → xM S mX7_end [.ref (147 + 5 * q), .int (bz c)] (E W H n s) = some (.inl (some (.int (nI (ke q)))), E W H n s, 0, 0) := fun {s} Q {q} hq => by
    rw [← eke]
    exact end_s (rgZ_fr X Q) hn hq c
  have b1 : ∀ q, q < N → k1 q < 64 ∧ k2 q < 64 ∧ ke q < 64 := fun q hq => by
    obtain ⟨h1, h2, h3, h4⟩ := hb q hq
    rw [← ek1, ← ek2, ← eke]
    unfold kf
    cases c
    · exact ⟨h2, h1, h4⟩
    · exact ⟨h1, h2, h3⟩
  have bc : ∀ {o : xO} {A A' : Option xO}, (c = true → A = some o) → (c = false → A' = some o) → (if ¬ bz c = 0 then A else A') = some o := fun {o A A'} h1 h2 => by
    cases hc : c
    · exact c_iff (fun w => w (by decide)) (h2 hc)
    · exact c_ift (by decide) (h1 hc)
  -- the first keys
  have L1 := x_sg (σ := mM) (τ := mM) (D := fun r s => xden S mX1_sortRegions 2 [(0, .ref 64), (1, .int (bz c)), (2, .int (nI r))] [] (E W H n s)) (Inv := fun r s => fr srQ m s ∧ (∀ i, i < N → s.2.2 70 i = some (147 + 5 * i)) ∧ ∀ q, q < r → s.2.1 (147 + 5 * q) 8 = lk (k1 q * 64 + k2 q))
    (F := fun s => xqV (xM S mX1_sortByKey [.ref 64] (E W H n s)) xth fun h3 => (xden S mX1_sortRegions 63 [(0, .ref 64), (1, .int (bz c)), (2, .int (-1 : Int32)), (3, .int (-1 : Int32)), (4, .int (0 : Int32))] [] h3)) (Post := fun s => fr srQ m s ∧ (∀ i, i < N → s.2.2 70 i = some (147 + 5 * i)) ∧ ∀ q, q < N → s.2.1 (147 + 5 * q) 8 = lk (k1 q * 64 + k2 q)) N (fun r hr s hs => ?_) (fun s hs => ?_) m ⟨fr_rf, eo, fun q hq => absurd hq (Nat.not_lt_zero q)⟩
  · obtain ⟨m1, ⟨g1, g2, g3⟩, g4⟩ := L1
    obtain ⟨q', m2, j1, j2, j3, j4, j5⟩ := sortByKey_s (S := S) (W := W) (H := H) (Key := fun q => k1 q * 64 + k2 q) hN hn (fun q hq => by have := b1 q hq; (try dsimp only); omega) (m := m1) (by rw [fr_i g1 64 17 (srQ_lo (by decide) (by decide))]; exact e17) (q := fun i => i) (fun i hi => hi) (fun i j hi hj _ => hi) g2 g3
    have eq1 := oG_one (G1_inj (k1 := k1) (k2 := k2) hN) j2 j4
    have Q2 := fr_tr g1 (fr_mono j5 so_sr)
    have key2 : ∀ q, q < N → m2.2.1 (147 + 5 * q) 8 = m1.2.1 (147 + 5 * q) 8 := fun q hq => fr_l j5 _ _ (by unfold soP; rw [beq_eq_false_iff_ne]; omega)
    obtain ⟨p1, p2⟩ := o1_s (k1 := k1) (k2 := k2) hN
    -- the second keys
    have L2 := x_sg (σ := mM) (τ := mM) (D := fun r s => xden S mX1_sortRegions 63 [(0, .ref 64), (1, .int (bz c)), (2, .int (zI (bS k1 k2 ke N r).1)), (3, .int (zI (bS k1 k2 ke N r).2)), (4, .int (nI r))] [] (E W H n s)) (Inv := fun r s => fr srQ m s ∧ (∀ i, i < N → s.2.2 70 i = some (147 + 5 * o1 k1 k2 N i)) ∧ ∀ i, i < r → s.2.1 (147 + 5 * o1 k1 k2 N i) 8 = lk ((bd k1 k2 ke N i * 64 + k2 (o1 k1 k2 N i)) * 64 + k1 (o1 k1 k2 N i)))
      (F := fun s => xqV (xM S mX1_sortByKey [.ref 64] (E W H n s)) xth fun h3 => (xden S mX1_sortRegions 169 [(0, .ref 64), (4, .int (0 : Int32))] [] h3)) (Post := fun s => fr srQ m s ∧ (∀ i, i < N → s.2.2 70 i = some (147 + 5 * o1 k1 k2 N i)) ∧ ∀ i, i < N → s.2.1 (147 + 5 * o1 k1 k2 N i) 8 = lk ((bd k1 k2 ke N i * 64 + k2 (o1 k1 k2 N i)) * 64 + k1 (o1 k1 k2 N i))) N (fun r hr s hs => ?_) (fun s hs => ?_) m2 ⟨Q2, fun i hi => by rw [j3 i hi, eq1 i hi]; rfl, fun q hq => absurd hq (Nat.not_lt_zero q)⟩
    · obtain ⟨m3, ⟨f1, f2, f3⟩, f4⟩ := L2
      have kk : ∀ q, q < N → bdR k1 k2 ke N q ≤ 256 := fun q hq => Nat.le_trans (bdR_le hN hq) (Nat.le_trans (bd_le _) (by omega))
      obtain ⟨q2, m4, i1, i2, i3, i4, i5⟩ := sortByKey_s (S := S) (W := W) (H := H) (Key := fun q => (bdR k1 k2 ke N q * 64 + k2 q) * 64 + k1 q) hN hn (fun q hq => by have := b1 q hq; have := kk q hq; (try dsimp only); omega) (m := m3) (by rw [fr_i f1 64 17 (srQ_lo (by decide) (by decide))]; exact e17) (q := o1 k1 k2 N) p1 (fun i j hi hj e => by
        have := p2 i j hi hj
        have e2 : (bdR k1 k2 ke N (o1 k1 k2 N i) * 64 + k2 (o1 k1 k2 N i)) * 64 + k1 (o1 k1 k2 N i) = (bdR k1 k2 ke N (o1 k1 k2 N j) * 64 + k2 (o1 k1 k2 N j)) * 64 + k1 (o1 k1 k2 N j) := e
        have a1 := b1 _ (p1 i (by omega))
        have a2 := b1 _ (p1 j hj)
        unfold G1 at this
        omega) f2 (fun q hq => by
        obtain ⟨i, hi, ei⟩ := oG_onto (G1_inj (k1 := k1) (k2 := k2) hN) hq
        have := f3 i hi
        rw [← bdR_o1 hN hi] at this
        have ei' : o1 k1 k2 N i = q := ei
        rw [ei'] at this
        exact this)
      have eq2 := oG_one (G2_inj (k1 := k1) (k2 := k2) (ke := ke) hN) i2 i4
      have Q4 := fr_tr f1 (fr_mono i5 so_sr)
      obtain ⟨u1, u2⟩ := o2_s (k1 := k1) (k2 := k2) (ke := ke) hN
      -- the numbers
      have L3 := x_sg (σ := mM) (τ := mM) (D := fun r s => xden S mX1_sortRegions 169 [(0, .ref 64), (4, .int (nI r))] [] (E W H n s)) (Inv := fun r s => fr srQ m s ∧ (∀ i, i < N → s.2.2 70 i = some (147 + 5 * o2 k1 k2 ke N i)) ∧ ∀ i, i < r → s.1 (147 + 5 * o2 k1 k2 ke N i) 6 = nI i ∧ s.1 (147 + 5 * o2 k1 k2 ke N i + 1) 7 = nI i ∧ s.1 (147 + 5 * o2 k1 k2 ke N i + 3) 7 = nI i)
        (F := fun s => some (.inl none, E W H n s, 0, 0)) (Post := fun s => fr srQ m s ∧ (∀ i, i < N → s.2.2 70 i = some (147 + 5 * o2 k1 k2 ke N i)) ∧ ∀ i, i < N → s.1 (147 + 5 * o2 k1 k2 ke N i) 6 = nI i ∧ s.1 (147 + 5 * o2 k1 k2 ke N i + 1) 7 = nI i ∧ s.1 (147 + 5 * o2 k1 k2 ke N i + 3) 7 = nI i) N (fun r hr s hs => ?_) (fun s hs => ?_) m4 ⟨Q4, fun i hi => by rw [i3 i hi, eq2 i hi]; rfl, fun q hq => absurd hq (Nat.not_lt_zero q)⟩
      · obtain ⟨m5, ⟨v1, v2, v3⟩, v4⟩ := L3
        refine ⟨m5, w_X1_sortRegions S _ _ _ _ (g4 _ ?_), fun i hi => ⟨v2 i hi, v3 i hi⟩, v1⟩
        refine c_qV j1 ?_
        have e1 : (zI (bS k1 k2 ke N 0).1) = (-1 : Int32) := rfl
        have e2 : (zI (bS k1 k2 ke N 0).2) = (-1 : Int32) := rfl
        exact f4 _ (c_qV i1 (v4 _ rfl))
      · left
        obtain ⟨h1, h2, h3⟩ := hs
        refine ⟨sI (sI (sI s (147 + 5 * o2 k1 k2 ke N r) 6 (nI r)) (147 + 5 * o2 k1 k2 ke N r + 1) 7 (nI r)) (147 + 5 * o2 k1 k2 ke N r + 3) 7 (nI r), ⟨fr_sI (fr_sI (fr_sI h1 (srQ_k _).2.1) (srQ_k _).2.2.1) (srQ_k _).2.2.2, fun i hi => by rw [sI_2, sI_2, sI_2]; exact h2 i hi, fun i hi => ?_⟩, fun o ho => w_X1_sortRegions_169 S _ _ _ _ ?_⟩
        · by_cases e : i = r
          · rw [e]
            refine ⟨?_, ?_, ?_⟩
            · rw [sI_ne (by omega), sI_ne (by omega), sI_eq ⟨rfl, rfl⟩]
            · rw [sI_ne (by omega), sI_eq ⟨rfl, rfl⟩]
            · rw [sI_eq ⟨rfl, rfl⟩]
          · have ne : o2 k1 k2 ke N i ≠ o2 k1 k2 ke N r := fun w => e (oG_inj (G2_inj hN) (by omega) hr w)
            obtain ⟨w1, w2, w3⟩ := h3 i (by omega)
            refine ⟨?_, ?_, ?_⟩ <;> rw [sI_ne (by omega), sI_ne (by omega), sI_ne (by omega)] <;> assumption
        · refine c_gi (by omega) (by rfl) (by rfl) (by rfl) ?_
          rw [fr_i h1 64 17 (srQ_lo (by decide) (by decide)), e17]
          refine c_iff (fun w => by have := (nI_leI (by omega) (by omega)).mp w; omega) ?_
          refine c_gr (by omega) (by rfl) (by rfl) (by rfl) ?_
          refine c_rr (i := r) (by omega) (by rfl) (by decide) (by rfl) (by first | omega | ((conv => rhs; whnf); first | omega | (show _ < OfNat.ofNat (α := Nat) _; omega))) (by first | omega | ((conv => lhs; whnf); first | omega | (show OfNat.ofNat (α := Nat) _ < _; omega))) (h2 r hr) ?_
          have := u1 r hr
          refine c_ob (by omega) (eK_R _) ?_
          refine c_qV (takeNumber_s hn this) ?_
          refine c_let ?_
          rw [show (1 : Int32) = nI 1 from rfl, nI_add]
          exact ho
      · obtain ⟨h1, h2, h3⟩ := hs
        refine ⟨s, ⟨h1, h2, h3⟩, fun o ho => w_X1_sortRegions_169 S _ _ _ _ ?_⟩
        refine c_gi (by omega) (by rfl) (by rfl) (by rfl) ?_
        rw [fr_i h1 64 17 (srQ_lo (by decide) (by decide)), e17]
        refine c_ift ((nI_leI (by omega) (by omega)).mpr (Nat.le_refl _)) ?_
        exact ho
    · left
      obtain ⟨h1, h2, h3⟩ := hs
      have pr := p1 r hr
      obtain ⟨c1, c2, c3⟩ := b1 _ pr
      have bz1 := bd_z (k1 := k1) (k2 := k2) (ke := ke) (N := N) r
      have ble := bd_le (k1 := k1) (k2 := k2) (ke := ke) (N := N) r
      have rng := bnd_rng (f := fun i => (k1 (o1 k1 k2 N i) : Int)) (e := fun i => (ke (o1 k1 k2 N i) : Int)) r
      have es := bnd_s (fun i => (k1 (o1 k1 k2 N i) : Int)) (fun i => (ke (o1 k1 k2 N i) : Int)) r
      change -1 ≤ (bS k1 k2 ke N r).1 ∧ (bS k1 k2 ke N r).1 < r ∧ (0 < r → 0 ≤ (bS k1 k2 ke N r).1) at rng
      change bS k1 k2 ke N (r + 1) = if (bS k1 k2 ke N r).2 < (k1 (o1 k1 k2 N r) : Int) ∨ r = 0 then ((bS k1 k2 ke N r).1 + 1, (ke (o1 k1 k2 N r) : Int)) else ((bS k1 k2 ke N r).1, max (bS k1 k2 ke N r).2 (ke (o1 k1 k2 N r) : Int)) at es
      have r2 := bnd_2 (f := fun i => (k1 (o1 k1 k2 N i) : Int)) (e := fun i => (ke (o1 k1 k2 N i) : Int)) (M := 64) (N := N) (fun k hk => by have := (b1 _ (p1 k hk)).2.2; (try dsimp only); omega) (by decide) r (by omega)
      change -1 ≤ (bS k1 k2 ke N r).2 ∧ (bS k1 k2 ke N r).2 ≤ 64 at r2
      have e0 : r = 0 → (bS k1 k2 ke N r).2 = -1 := fun w => by rw [w]; rfl
      generalize eb : bS k1 k2 ke N r = b at *
      generalize eb' : bS k1 k2 ke N (r + 1) = b' at *
      refine ⟨sL s (147 + 5 * o1 k1 k2 N r) 8 (lk ((bd k1 k2 ke N r * 64 + k2 (o1 k1 k2 N r)) * 64 + k1 (o1 k1 k2 N r))), ⟨fr_sL h1 (srQ_k _).1, fun i hi => by rw [sL_3]; exact h2 i hi, fun i hi => ?_⟩, fun o ho => w_X1_sortRegions_63 S _ _ _ _ _ _ _ ?_⟩
      · by_cases e : i = r
        · rw [e, sL_eq ⟨rfl, rfl⟩]
        · have ne : o1 k1 k2 N i ≠ o1 k1 k2 N r := fun w => e (oG_inj (G1_inj hN) (by omega) hr w)
          rw [sL_ne (fun w => ne (by omega))]
          exact h3 i (by omega)
      · have s1 := st1 h1 pr
        have s2 := st2 h1 pr
        have s3 := st3 h1 pr
        refine c_gi (by omega) (by rfl) (by rfl) (by rfl) ?_
        rw [fr_i h1 64 17 (srQ_lo (by decide) (by decide)), e17]
        refine c_iff (fun w => by have := (nI_leI (by omega) (by omega)).mp w; omega) ?_
        refine c_gr (by omega) (by rfl) (by rfl) (by rfl) ?_
        refine c_rr (i := r) (by omega) (by rfl) (by decide) (by rfl) (by first | omega | ((conv => rhs; whnf); first | omega | (show _ < OfNat.ofNat (α := Nat) _; omega))) (by first | omega | ((conv => lhs; whnf); first | omega | (show OfNat.ofNat (α := Nat) _ < _; omega))) (h2 r hr) ?_
        refine c_ob (by omega) (eK_R _) ?_
        refine c_qI s1 ?_
        have ek : ∀ {d : Nat}, d = bd k1 k2 ke N r → ((nI d).toInt64 * (64 : Int64) + (nI (k2 (o1 k1 k2 N r))).toInt64) * (64 : Int64) + (nI (k1 (o1 k1 k2 N r))).toInt64 = lk ((bd k1 k2 ke N r * 64 + k2 (o1 k1 k2 N r)) * 64 + k1 (o1 k1 k2 N r)) := fun {d} hd => by
          rw [hd]
          show (lk (bd k1 k2 ke N r) * (64 : Int64) + lk (k2 (o1 k1 k2 N r))) * (64 : Int64) + lk (k1 (o1 k1 k2 N r)) = _
          rw [lk_64 (by omega), lk_add (by omega), lk_64 (by omega), lk_add (by omega)]
        by_cases cs : b.2 < (k1 (o1 k1 k2 N r) : Int)
        · rw [if_pos (Or.inl cs)] at es
          rw [es] at ho bz1
          change b.1 + 1 = (bd k1 k2 ke N r : Int) at bz1
          refine c_ift (by rw [← zI_n (by omega), zI_lt (by omega) (by omega) (by omega) (by omega)]; exact cs) ?_
          refine c_let ?_
          have ev : zI b.1 + (1 : Int32) = nI (bd k1 k2 ke N r) := by rw [show (1 : Int32) = nI 1 from rfl, zI_1, bz1, zI_n (by omega)]
          rw [ev]
          refine c_ob (by omega) (eK_R _) ?_
          refine c_qI s3 ?_
          refine c_ob (by omega) (eK_R _) ?_
          refine c_qI s3 ?_
          refine c_qI (max_n S _ (by omega) (by omega)) ?_
          rw [Nat.max_self]
          have ho' : xden S mX1_sortRegions 63 [(0, .ref 64), (1, .int (bz c)), (2, .int (nI (bd k1 k2 ke N r))), (3, .int (nI (ke (o1 k1 k2 N r)))), (4, .int (nI (r + 1)))] [] (E W H n (sL s (147 + 5 * o1 k1 k2 N r) 8 (lk ((bd k1 k2 ke N r * 64 + k2 (o1 k1 k2 N r)) * 64 + k1 (o1 k1 k2 N r))))) = some o := by
            rw [← zI_n (show bd k1 k2 ke N r < 2147483648 by omega), ← bz1, ← zI_n (show ke (o1 k1 k2 N r) < 2147483648 by omega)]
            exact ho
          refine bc (fun hc => ?_) (fun hc => ?_) <;> rw [hc] at s2
          all_goals refine c_ob (by omega) (eK_R _) ?_
          all_goals refine c_qI s2 ?_
          all_goals refine c_ob (by omega) (eK_R _) ?_
          all_goals refine c_qI s1 ?_
          all_goals rw [ek rfl]
          all_goals refine c_pl (by omega) (eK_R _) (by rfl) (by rfl) (xPok_long (by decide) (by rfl)) ?_
          all_goals refine c_let ?_
          all_goals rw [show (1 : Int32) = nI 1 from rfl, nI_add]
          all_goals exact ho'
        · have r0 : r ≠ 0 := fun w => by have := e0 w; omega
          rw [if_neg (fun w => w.elim cs r0)] at es
          rw [es] at ho bz1
          change b.1 = (bd k1 k2 ke N r : Int) at bz1
          refine c_iff (by rw [← zI_n (by omega), zI_lt (by omega) (by omega) (by omega) (by omega)]; exact cs) ?_
          refine c_ift (fun w => r0 (by have := (nI_eq (a := r) (b := 0) (by omega) (by omega)).mp w; exact this)) ?_
          refine c_ob (by omega) (eK_R _) ?_
          refine c_qI s3 ?_
          rw [← zI_n (show ke (o1 k1 k2 N r) < 2147483648 by omega)]
          refine c_qI (max_z S _ (by omega) (by omega) (by omega) (by omega)) ?_
          have ho' : xden S mX1_sortRegions 63 [(0, .ref 64), (1, .int (bz c)), (2, .int (nI (bd k1 k2 ke N r))), (3, .int (zI (max b.2 (ke (o1 k1 k2 N r) : Int)))), (4, .int (nI (r + 1)))] [] (E W H n (sL s (147 + 5 * o1 k1 k2 N r) 8 (lk ((bd k1 k2 ke N r * 64 + k2 (o1 k1 k2 N r)) * 64 + k1 (o1 k1 k2 N r))))) = some o := by
            rw [← zI_n (show bd k1 k2 ke N r < 2147483648 by omega), ← bz1]
            exact ho
          rw [show zI b.1 = nI (bd k1 k2 ke N r) by rw [bz1, zI_n (by omega)]]
          refine bc (fun hc => ?_) (fun hc => ?_) <;> rw [hc] at s2
          all_goals refine c_ob (by omega) (eK_R _) ?_
          all_goals refine c_qI s2 ?_
          all_goals refine c_ob (by omega) (eK_R _) ?_
          all_goals refine c_qI s1 ?_
          all_goals rw [ek rfl]
          all_goals refine c_pl (by omega) (eK_R _) (by rfl) (by rfl) (xPok_long (by decide) (by rfl)) ?_
          all_goals refine c_let ?_
          all_goals rw [show (1 : Int32) = nI 1 from rfl, nI_add]
          all_goals exact ho'
    · obtain ⟨h1, h2, h3⟩ := hs
      refine ⟨s, ⟨h1, h2, h3⟩, fun o ho => w_X1_sortRegions_63 S _ _ _ _ _ _ _ ?_⟩
      refine c_gi (by omega) (by rfl) (by rfl) (by rfl) ?_
      rw [fr_i h1 64 17 (srQ_lo (by decide) (by decide)), e17]
      refine c_ift ((nI_leI (by omega) (by omega)).mpr (Nat.le_refl _)) ?_
      refine c_ob (by omega) (by rfl) ?_
      exact ho
  · left
    obtain ⟨h1, h2, h3⟩ := hs
    obtain ⟨c1, c2, c3⟩ := b1 _ hr
    have Q' : fr srQ m (sL s (147 + 5 * r) 8 (lk (k1 r * 64 + k2 r))) := fr_sL h1 (srQ_k _).1
    refine ⟨sL s (147 + 5 * r) 8 (lk (k1 r * 64 + k2 r)), ⟨Q', fun i hi => by rw [sL_3]; exact h2 i hi, fun i hi => ?_⟩, fun o ho => w_X1_sortRegions_2 S _ _ _ _ _ ?_⟩
    · by_cases e : i = r
      · rw [e, sL_eq ⟨rfl, rfl⟩]
      · rw [sL_ne (by omega)]
        exact h3 i (by omega)
    · have s1 := st1 h1 hr
      have s2 := st2 h1 hr
      have ek : (nI (k1 r)).toInt64 * (64 : Int64) + (nI (k2 r)).toInt64 = lk (k1 r * 64 + k2 r) := by
        show lk (k1 r) * (64 : Int64) + lk (k2 r) = _
        rw [lk_64 (by omega), lk_add (by omega)]
      refine c_gi (by omega) (by rfl) (by rfl) (by rfl) ?_
      rw [fr_i h1 64 17 (srQ_lo (by decide) (by decide)), e17]
      refine c_iff (fun w => by have := (nI_leI (by omega) (by omega)).mp w; omega) ?_
      refine c_gr (by omega) (by rfl) (by rfl) (by rfl) ?_
      refine c_rr (i := r) (by omega) (by rfl) (by decide) (by rfl) (by first | omega | ((conv => rhs; whnf); first | omega | (show _ < OfNat.ofNat (α := Nat) _; omega))) (by first | omega | ((conv => lhs; whnf); first | omega | (show OfNat.ofNat (α := Nat) _ < _; omega))) (h2 r hr) ?_
      refine c_ob (by omega) (eK_R _) ?_
      refine c_qI s1 ?_
      refine bc (fun hc => ?_) (fun hc => ?_) <;> rw [hc] at s2
      all_goals refine c_ob (by omega) (eK_R _) ?_
      all_goals refine c_qI s2 ?_
      all_goals rw [ek]
      all_goals refine c_pl (by omega) (eK_R _) (by rfl) (by rfl) (xPok_long (by decide) (by rfl)) ?_
      all_goals refine c_let ?_
      all_goals rw [show (1 : Int32) = nI 1 from rfl, nI_add]
      all_goals exact ho
  · obtain ⟨h1, h2, h3⟩ := hs
    refine ⟨s, ⟨h1, h2, h3⟩, fun o ho => w_X1_sortRegions_2 S _ _ _ _ _ ?_⟩
    refine c_gi (by omega) (by rfl) (by rfl) (by rfl) ?_
    rw [fr_i h1 64 17 (srQ_lo (by decide) (by decide)), e17]
    refine c_ift ((nI_leI (by omega) (by omega)).mpr (Nat.le_refl _)) ?_
    refine c_ob (by omega) (by rfl) ?_
    exact ho
end SQ

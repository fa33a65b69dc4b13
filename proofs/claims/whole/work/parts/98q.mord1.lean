/-! ORDER: the model's least region -/
def mbZ (m : mM) (N : Nat) (L T R B : Nat → Nat) : Prop := ∀ q, q < N → m.1 125 q = nI (L q) ∧ m.1 126 q = nI (T q) ∧ m.1 127 q = nI (R q) ∧ m.1 128 q = nI (B q)
/-- the best among those seen -/
def bstV (cand : Nat → Bool) (K : Nat → Nat) (k : Nat) (v : Int) : Prop := (v = -1 ∧ ∀ q, q < k → cand q = false) ∨ ∃ p : Nat, v = p ∧ p < k ∧ cand p = true ∧ ∀ q, q < k → cand q = true → K p ≤ K q
theorem bstV_0 (cand : Nat → Bool) (K : Nat → Nat) : bstV cand K 0 (-1) := Or.inl ⟨rfl, fun q h => absurd h (Nat.not_lt_zero q)⟩
theorem bstV_no {cand : Nat → Bool} {K : Nat → Nat} {k : Nat} {v : Int} (h : bstV cand K k v) (n : cand k = false) : bstV cand K (k + 1) v := by
  rcases h with ⟨h1, h2⟩ | ⟨p, h1, h2, h3, h4⟩
  · exact Or.inl ⟨h1, fun q hq => by
      by_cases e : q = k
      · rw [e]; exact n
      · exact h2 q (by omega)⟩
  · exact Or.inr ⟨p, h1, by omega, h3, fun q hq c => by
      by_cases e : q = k
      · rw [e, n] at c; cases c
      · exact h4 q (by omega) c⟩
theorem bstV_new {cand : Nat → Bool} {K : Nat → Nat} {k : Nat} {v : Int} (h : bstV cand K k v) (y : cand k = true) (b : v = -1 ∨ ∃ p : Nat, v = p ∧ K k < K p) : bstV cand K (k + 1) k := by
  refine Or.inr ⟨k, rfl, Nat.lt_succ_self k, y, fun q hq c => ?_⟩
  by_cases e : q = k
  · rw [e]; exact Nat.le_refl _
  · rcases h with ⟨h1, h2⟩ | ⟨p, h1, h2, h3, h4⟩
    · rw [h2 q (by omega)] at c; cases c
    · rcases b with b | ⟨p', b1, b2⟩
      · omega
      · have : p = p' := by omega
        rw [← this] at b2
        have := h4 q (by omega) c
        omega
theorem bstV_old {cand : Nat → Bool} {K : Nat → Nat} {k : Nat} {v : Int} (h : bstV cand K k v) {p : Nat} (e : v = p) (b : K p ≤ K k) : bstV cand K (k + 1) v := by
  rcases h with ⟨h1, h2⟩ | ⟨p', h1, h2, h3, h4⟩
  · omega
  · have ep : p' = p := by omega
    refine Or.inr ⟨p', h1, by omega, h3, fun q hq c => ?_⟩
    by_cases e2 : q = k
    · rw [e2, ep]; exact b
    · exact h4 q (by omega) c
section LR
variable {S : xS} {W H n N : Nat} {m : mM} {L T R B : Nat → Nat} {c : Bool}
theorem nI_suc (k : Nat) : nI k + (1 : Int32) = nI (k + 1) := nI_add k 1
theorem bzc {A A' : Option xO} {o : xO} {z : Int32} (ez : z = bz c) (h1 : c = true → A = some o) (h2 : c = false → A' = some o) : (if ¬ z = 0 then A else A') = some o := by
  rw [ez]
  cases hc : c
  · exact c_iff (fun w => w (by decide)) (h2 hc)
  · exact c_ift (by decide) (h1 hc)
theorem firstKey_s (X : mbZ m N L T R B) (ec : m.1 98 7 = bz c) (hN : N ≤ 256) {q : Nat} (hq : q < N) : xM S mX13_firstKey [.ref 90, .int (nI q)] (E W H n m) = some (.inl (some (.int (nI (kf c L T q)))), E W H n m, 0, 0) := by
  obtain ⟨h1, h2, h3, h4⟩ := X q hq
  refine w_X13_firstKey S _ _ _ _ ?_
  refine c_gr (by omega) (by rfl) (by rfl) (by rfl) ?_
  refine c_ri (i := 7) (by omega) (by rfl) (by rfl) (by rfl) (by first | omega | ((conv => rhs; whnf); first | omega | (show _ < OfNat.ofNat (α := Nat) _; omega))) (by first | omega | ((conv => lhs; whnf); first | omega | (show OfNat.ofNat (α := Nat) _ < _; omega))) (by decide) ?_
  refine bzc (show m.1 (90 + 8) 7 = bz c from ec) (fun hc => ?_) (fun hc => ?_) <;> rw [hc]
  · refine c_gr (by omega) (by rfl) (by rfl) (by rfl) ?_
    refine c_ri (i := q) (by omega) (by rfl) (by rfl) (by rfl) (by first | omega | ((conv => rhs; whnf); first | omega | (show _ < OfNat.ofNat (α := Nat) _; omega))) (by first | omega | ((conv => lhs; whnf); first | omega | (show OfNat.ofNat (α := Nat) _ < _; omega))) (by decide) ?_
    rw [show m.1 (90 + 35) q = _ from h1]
    rfl
  · refine c_gr (by omega) (by rfl) (by rfl) (by rfl) ?_
    refine c_ri (i := q) (by omega) (by rfl) (by rfl) (by rfl) (by first | omega | ((conv => rhs; whnf); first | omega | (show _ < OfNat.ofNat (α := Nat) _; omega))) (by first | omega | ((conv => lhs; whnf); first | omega | (show OfNat.ofNat (α := Nat) _ < _; omega))) (by decide) ?_
    rw [show m.1 (90 + 36) q = _ from h2]
    rfl
theorem secondKey_s (X : mbZ m N L T R B) (ec : m.1 98 7 = bz c) (hN : N ≤ 256) {q : Nat} (hq : q < N) : xM S mX13_secondKey [.ref 90, .int (nI q)] (E W H n m) = some (.inl (some (.int (nI (kf c T L q)))), E W H n m, 0, 0) := by
  obtain ⟨h1, h2, h3, h4⟩ := X q hq
  refine w_X13_secondKey S _ _ _ _ ?_
  refine c_gr (by omega) (by rfl) (by rfl) (by rfl) ?_
  refine c_ri (i := 7) (by omega) (by rfl) (by rfl) (by rfl) (by first | omega | ((conv => rhs; whnf); first | omega | (show _ < OfNat.ofNat (α := Nat) _; omega))) (by first | omega | ((conv => lhs; whnf); first | omega | (show OfNat.ofNat (α := Nat) _ < _; omega))) (by decide) ?_
  refine bzc (show m.1 (90 + 8) 7 = bz c from ec) (fun hc => ?_) (fun hc => ?_) <;> rw [hc]
  · refine c_gr (by omega) (by rfl) (by rfl) (by rfl) ?_
    refine c_ri (i := q) (by omega) (by rfl) (by rfl) (by rfl) (by first | omega | ((conv => rhs; whnf); first | omega | (show _ < OfNat.ofNat (α := Nat) _; omega))) (by first | omega | ((conv => lhs; whnf); first | omega | (show OfNat.ofNat (α := Nat) _ < _; omega))) (by decide) ?_
    rw [show m.1 (90 + 36) q = _ from h2]
    rfl
  · refine c_gr (by omega) (by rfl) (by rfl) (by rfl) ?_
    refine c_ri (i := q) (by omega) (by rfl) (by rfl) (by rfl) (by first | omega | ((conv => rhs; whnf); first | omega | (show _ < OfNat.ofNat (α := Nat) _; omega))) (by first | omega | ((conv => lhs; whnf); first | omega | (show OfNat.ofNat (α := Nat) _ < _; omega))) (by decide) ?_
    rw [show m.1 (90 + 35) q = _ from h1]
    rfl
theorem endKey_s (X : mbZ m N L T R B) (ec : m.1 98 7 = bz c) (hN : N ≤ 256) {q : Nat} (hq : q < N) : xM S mX13_endKey [.ref 90, .int (nI q)] (E W H n m) = some (.inl (some (.int (nI (kf c R B q)))), E W H n m, 0, 0) := by
  obtain ⟨h1, h2, h3, h4⟩ := X q hq
  refine w_X13_endKey S _ _ _ _ ?_
  refine c_gr (by omega) (by rfl) (by rfl) (by rfl) ?_
  refine c_ri (i := 7) (by omega) (by rfl) (by rfl) (by rfl) (by first | omega | ((conv => rhs; whnf); first | omega | (show _ < OfNat.ofNat (α := Nat) _; omega))) (by first | omega | ((conv => lhs; whnf); first | omega | (show OfNat.ofNat (α := Nat) _ < _; omega))) (by decide) ?_
  refine bzc (show m.1 (90 + 8) 7 = bz c from ec) (fun hc => ?_) (fun hc => ?_) <;> rw [hc]
  · refine c_gr (by omega) (by rfl) (by rfl) (by rfl) ?_
    refine c_ri (i := q) (by omega) (by rfl) (by rfl) (by rfl) (by first | omega | ((conv => rhs; whnf); first | omega | (show _ < OfNat.ofNat (α := Nat) _; omega))) (by first | omega | ((conv => lhs; whnf); first | omega | (show OfNat.ofNat (α := Nat) _ < _; omega))) (by decide) ?_
    rw [show m.1 (90 + 37) q = _ from h3]
    rfl
  · refine c_gr (by omega) (by rfl) (by rfl) (by rfl) ?_
    refine c_ri (i := q) (by omega) (by rfl) (by rfl) (by rfl) (by first | omega | ((conv => rhs; whnf); first | omega | (show _ < OfNat.ofNat (α := Nat) _; omega))) (by first | omega | ((conv => lhs; whnf); first | omega | (show OfNat.ofNat (α := Nat) _ < _; omega))) (by decide) ?_
    rw [show m.1 (90 + 38) q = _ from h4]
    rfl
/-- two keys and a number compared -/
theorem ahead_e {S : xS} {h : xH} {a b x y u v : Nat} (ha : a < 256) (hb : b < 256) (hx : x < 64) (hy : y < 64) (hu : u < 64) (hv : v < 64) : xden S mX13_isAhead 74 [(1, .int (nI a)), (2, .int (nI b)), (4, .int (nI x)), (5, .int (nI y)), (6, .int (nI u))] [.int (nI v)] h = some (.inl (some (.int (bz (decide ((x * 64 + u) * 256 + a < (y * 64 + v) * 256 + b))))), h, 0, 0) := by
  refine w_X13_isAhead_74 S _ _ _ _ _ _ _ _ ?_
  by_cases c1 : x < y
  · rw [decide_eq_true (by omega)]
    exact c_ift ((nI_ltI (by omega) (by omega)).mpr c1) rfl
  · refine c_iff (fun w => c1 ((nI_ltI (by omega) (by omega)).mp w)) ?_
    by_cases c2 : x = y
    · refine c_iff (fun w => w (by rw [c2])) ?_
      by_cases c3 : u < v
      · rw [decide_eq_true (by omega)]
        exact c_ift ((nI_ltI (by omega) (by omega)).mpr c3) rfl
      · refine c_iff (fun w => c3 ((nI_ltI (by omega) (by omega)).mp w)) ?_
        by_cases c4 : u = v
        · refine c_iff (fun w => w (by rw [c4])) ?_
          by_cases c5 : b ≤ a
          · rw [decide_eq_false (by omega)]
            exact c_ift ((nI_leI (by omega) (by omega)).mpr c5) rfl
          · rw [decide_eq_true (by omega)]
            exact c_iff (fun w => c5 ((nI_leI (by omega) (by omega)).mp w)) rfl
        · rw [decide_eq_false (by omega)]
          exact c_ift (fun w => c4 ((nI_eq (by omega) (by omega)).mp w)) rfl
    · rw [decide_eq_false (by omega)]
      exact c_ift (fun w => c2 ((nI_eq (by omega) (by omega)).mp w)) rfl
theorem isAhead_s (X : mbZ m N L T R B) (ec : m.1 98 7 = bz c) (hN : N ≤ 256) (hb : ∀ q, q < N → kf c L T q < 64 ∧ kf c T L q < 64) {a b : Nat} (ha : a < N) (hb' : b < N) (z : Bool) : xM S mX13_isAhead [.ref 90, .int (nI a), .int (nI b), .int (bz z)] (E W H n m) = some (.inl (some (.int (bz (decide (if z then G1 (kf c T L) (kf c L T) a < G1 (kf c T L) (kf c L T) b else G1 (kf c L T) (kf c T L) a < G1 (kf c L T) (kf c T L) b))))), E W H n m, 0, 0) := by
  have f1 := firstKey_s (S := S) (W := W) (H := H) (n := n) X ec hN ha
  have f2 := firstKey_s (S := S) (W := W) (H := H) (n := n) X ec hN hb'
  have s1 := secondKey_s (S := S) (W := W) (H := H) (n := n) X ec hN ha
  have s2 := secondKey_s (S := S) (W := W) (H := H) (n := n) X ec hN hb'
  obtain ⟨a1, a2⟩ := hb a ha
  obtain ⟨b1, b2⟩ := hb b hb'
  refine w_X13_isAhead S _ _ _ _ _ _ ?_
  cases z
  · refine c_ift (by decide) ?_
    refine c_ob (by omega) (by rfl) ?_
    refine c_qI f1 ?_
    refine c_ift (by decide) ?_
    refine c_ob (by omega) (by rfl) ?_
    refine c_qI f2 ?_
    refine c_ift (by decide) ?_
    refine c_ob (by omega) (by rfl) ?_
    refine c_qI s1 ?_
    refine w_X13_isAhead_55 S _ _ _ _ _ _ _ _ _ ?_
    refine c_ift (by decide) ?_
    refine c_ob (by omega) (by rfl) ?_
    refine c_qI s2 ?_
    exact ahead_e (by omega) (by omega) a1 b1 a2 b2
  · refine c_iff (by decide) ?_
    refine c_ob (by omega) (by rfl) ?_
    refine c_qI s1 ?_
    refine c_iff (by decide) ?_
    refine c_ob (by omega) (by rfl) ?_
    refine c_qI s2 ?_
    refine c_iff (by decide) ?_
    refine c_ob (by omega) (by rfl) ?_
    refine c_qI f1 ?_
    refine w_X13_isAhead_55 S _ _ _ _ _ _ _ _ _ ?_
    refine c_iff (by decide) ?_
    refine c_ob (by omega) (by rfl) ?_
    refine c_qI f2 ?_
    exact ahead_e (by omega) (by omega) a2 b2 a1 b1
/-- the least region of those not taken, or of those of a band -/
theorem leastRegion_s (X : mbZ m N L T R B) (ec : m.1 98 7 = bz c) (hN : N ≤ 256) (hb : ∀ q, q < N → kf c L T q < 64 ∧ kf c T L q < 64) (e59 : m.1 90 59 = nI N) {tk : Nat → Bool} (et : ∀ q, q < N → m.1 133 q = bz (tk q)) (z : Bool) {b : Nat} {bR : Nat → Nat} (hz : z = true → b ≤ 256 ∧ ∀ q, q < N → m.1 132 q = nI (bR q) ∧ bR q ≤ 256) : ∃ v : Int, bstV (fun q => !tk q && (!z || decide (bR q = b))) (if z then G1 (kf c T L) (kf c L T) else G1 (kf c L T) (kf c T L)) N v ∧ xM S mX13_leastRegion [.ref 90, .int (if z then nI b else -1)] (E W H n m) = some (.inl (some (.int (zI v))), E W H n m, 0, 0) := by
  have L := x_sg (σ := Int) (τ := Int) (D := fun q v => xden S mX13_leastRegion 4 [(0, .ref 90), (1, .int (if z then nI b else -1)), (2, .int (zI v)), (3, .int (nI q))] [] (E W H n m)) (Inv := fun q v => bstV (fun q => !tk q && (!z || decide (bR q = b))) (if z then G1 (kf c T L) (kf c L T) else G1 (kf c L T) (kf c T L)) q v)
    (F := fun v => some (.inl (some (.int (zI v))), E W H n m, 0, 0)) (Post := fun v => bstV (fun q => !tk q && (!z || decide (bR q = b))) (if z then G1 (kf c T L) (kf c L T) else G1 (kf c L T) (kf c T L)) N v) N (fun q hq v hv => ?_) (fun v hv => ⟨v, hv, fun o ho => w_X13_leastRegion_4 S _ _ _ _ _ _ ?_⟩) (-1) (bstV_0 _ _)
  · obtain ⟨v, g1, g2⟩ := L
    exact ⟨v, g1, w_X13_leastRegion S _ _ _ _ (g2 _ rfl)⟩
  · left
    have neg : bstV (fun q => !tk q && (!z || decide (bR q = b))) (if z then G1 (kf c T L) (kf c L T) else G1 (kf c L T) (kf c T L)) (q + 1) v → ∀ {o : xO}, xden S mX13_leastRegion 4 [(0, .ref 90), (1, .int (if z then nI b else -1)), (2, .int (zI v)), (3, .int (nI (q + 1)))] [] (E W H n m) = some o → xden S mX13_leastRegion 40 [(0, .ref 90), (1, .int (if z then nI b else -1)), (2, .int (zI v)), (3, .int (nI q))] [.int 0] (E W H n m) = some o := fun _ {o} ho => by
      refine w_X13_leastRegion_40 S _ _ _ _ _ _ _ ?_
      refine c_ift rfl ?_
      refine c_let ?_
      rw [nI_suc]
      exact ho
    have start : ∀ {o : xO}, (∀ b', (tk q = true → b' = false) → (tk q = false → b' = (!z || decide (bR q = b))) → xden S mX13_leastRegion 40 [(0, .ref 90), (1, .int (if z then nI b else -1)), (2, .int (zI v)), (3, .int (nI q))] [.int (bz b')] (E W H n m) = some o) → xden S mX13_leastRegion 4 [(0, .ref 90), (1, .int (if z then nI b else -1)), (2, .int (zI v)), (3, .int (nI q))] [] (E W H n m) = some o := fun {o} ho => by
      refine w_X13_leastRegion_4 S _ _ _ _ _ _ ?_
      refine c_gi (by omega) (by rfl) (by rfl) (by rfl) ?_
      rw [e59]
      refine c_iff (fun w => by have := (nI_leI (by omega) (by omega)).mp w; omega) ?_
      refine c_gr (by omega) (by rfl) (by rfl) (by rfl) ?_
      refine c_ri (i := q) (by omega) (by rfl) (by rfl) (by rfl) (by first | omega | ((conv => rhs; whnf); first | omega | (show _ < OfNat.ofNat (α := Nat) _; omega))) (by first | omega | ((conv => lhs; whnf); first | omega | (show OfNat.ofNat (α := Nat) _ < _; omega))) (by decide) ?_
      rw [show m.1 (90 + 43) q = _ from et q hq]
      cases ht : tk q
      · refine c_iff (fun w => w (by decide)) ?_
        cases hz' : z
        · refine c_ift (show (-1 : Int32) < 0 by decide) ?_
          have := ho true (fun w => by rw [ht] at w; cases w) (fun _ => by rw [hz']; rfl)
          rw [hz'] at this
          exact this
        · obtain ⟨q1, q2⟩ := hz hz'
          obtain ⟨q3, q4⟩ := q2 q hq
          refine c_iff (show ¬ nI b < nI 0 from fun w => by have := (nI_ltI (by omega) (by omega)).mp w; omega) ?_
          refine c_gr (by omega) (by rfl) (by rfl) (by rfl) ?_
          refine c_ri (i := q) (by omega) (by rfl) (by rfl) (by rfl) (by first | omega | ((conv => rhs; whnf); first | omega | (show _ < OfNat.ofNat (α := Nat) _; omega))) (by first | omega | ((conv => lhs; whnf); first | omega | (show OfNat.ofNat (α := Nat) _ < _; omega))) (by decide) ?_
          rw [show m.1 (90 + 42) q = _ from q3]
          by_cases e : bR q = b
          · refine c_iff (fun w => w (by rw [e]; rfl)) ?_
            have := ho true (fun w => by rw [ht] at w; cases w) (fun _ => by rw [decide_eq_true e, Bool.or_true])
            rw [hz'] at this
            exact this
          · refine c_ift (fun w => e ((nI_eq (by omega) (by omega)).mp w)) ?_
            have := ho false (fun _ => rfl) (fun _ => by rw [hz', decide_eq_false e]; rfl)
            rw [hz'] at this
            exact this
      · refine c_ift (by decide) ?_
        exact ho false (fun _ => rfl) (fun w => by rw [ht] at w; cases w)
    by_cases y : (!tk q && (!z || decide (bR q = b))) = true
    · have ht : tk q = false := by
        rw [Bool.and_eq_true, Bool.not_eq_true'] at y
        exact y.1
      have hy : (!z || decide (bR q = b)) = true := by
        rw [Bool.and_eq_true] at y
        exact y.2
      have pick : ∀ {o : xO}, xden S mX13_leastRegion 40 [(0, .ref 90), (1, .int (if z then nI b else -1)), (2, .int (zI v)), (3, .int (nI q))] [.int 1] (E W H n m) = some o → xden S mX13_leastRegion 4 [(0, .ref 90), (1, .int (if z then nI b else -1)), (2, .int (zI v)), (3, .int (nI q))] [] (E W H n m) = some o := fun {o} ho => start (fun b' _ h2 => by
        rw [h2 ht, hy]
        exact ho)
      rcases hv with hv' | ⟨p, hp⟩
      · refine ⟨q, bstV_new (Or.inl hv') y (Or.inl hv'.1), fun o ho => pick ?_⟩
        refine w_X13_leastRegion_40 S _ _ _ _ _ _ _ ?_
        refine c_iff (by decide) ?_
        rw [hv'.1]
        refine c_ift (by decide) ?_
        refine c_let ?_
        rw [nI_suc]
        rw [zI_n (by omega)] at ho
        exact ho
      · obtain ⟨p1, p2, p3, p4⟩ := hp
        have ah := isAhead_s (S := S) (W := W) (H := H) (n := n) X ec hN hb (a := q) (b := p) hq (by omega) z
        have ev : zI v = nI p := by rw [p1, zI_n (by omega)]
        have tail : ∀ {A A' : Option xO} {o : xO}, (z = true → A' = some o) → (z = false → A = some o) → (if (if z then nI b else -1) < (0 : Int32) then A else A') = some o := fun {A A' o} h1 h2 => by
          cases hz' : z
          · exact c_ift (show (-1 : Int32) < 0 by decide) (h2 hz')
          · have := (hz hz').1
            exact c_iff (show ¬ nI b < nI 0 from fun w => by have := (nI_ltI (by omega) (by omega)).mp w; omega) (h1 hz')
        by_cases lt : (if z then G1 (kf c T L) (kf c L T) q < G1 (kf c T L) (kf c L T) p else G1 (kf c L T) (kf c T L) q < G1 (kf c L T) (kf c T L) p)
        · have lt' : (if z then G1 (kf c T L) (kf c L T) else G1 (kf c L T) (kf c T L)) q < (if z then G1 (kf c T L) (kf c L T) else G1 (kf c L T) (kf c T L)) p := by
            cases hz' : z <;> rw [hz'] at lt <;> exact lt
          refine ⟨q, bstV_new (Or.inr ⟨p, p1, p2, p3, p4⟩) y (Or.inr ⟨p, p1, lt'⟩), fun o ho => pick ?_⟩
          rw [zI_n (by omega)] at ho
          rw [decide_eq_true lt] at ah
          refine w_X13_leastRegion_40 S _ _ _ _ _ _ _ ?_
          refine c_iff (by decide) ?_
          rw [ev]
          refine c_iff (nI_pos (by omega)) ?_
          refine tail (fun hz' => ?_) (fun hz' => ?_) <;> rw [hz'] at ah
          all_goals refine c_ob (by omega) (by rfl) ?_
          all_goals refine c_qI ah ?_
          all_goals refine c_iff (by decide) ?_
          all_goals refine c_let ?_
          all_goals rw [nI_suc]
          all_goals exact ho
        · have le' : (if z then G1 (kf c T L) (kf c L T) else G1 (kf c L T) (kf c T L)) p ≤ (if z then G1 (kf c T L) (kf c L T) else G1 (kf c L T) (kf c T L)) q := by
            cases hz' : z <;> rw [hz'] at lt <;> exact Nat.le_of_not_lt lt
          refine ⟨v, bstV_old (Or.inr ⟨p, p1, p2, p3, p4⟩) p1 le', fun o ho => pick ?_⟩
          rw [decide_eq_false lt] at ah
          refine w_X13_leastRegion_40 S _ _ _ _ _ _ _ ?_
          refine c_iff (by decide) ?_
          rw [ev] at ho ⊢
          refine c_iff (nI_pos (by omega)) ?_
          refine tail (fun hz' => ?_) (fun hz' => ?_) <;> rw [hz'] at ah
          all_goals refine c_ob (by omega) (by rfl) ?_
          all_goals refine c_qI ah ?_
          all_goals refine c_ift (by decide) ?_
          all_goals refine c_let ?_
          all_goals rw [nI_suc]
          all_goals exact ho
    · have y' : (!tk q && (!z || decide (bR q = b))) = false := Bool.eq_false_iff.mpr y
      refine ⟨v, bstV_no hv y', fun o ho => start (fun b' h1 h2 => ?_)⟩
      have eb : b' = false := by
        cases ht : tk q
        · rw [h2 ht, ← y', ht]; rfl
        · exact h1 ht
      rw [eb]
      exact neg (bstV_no hv y') ho
  · refine c_gi (by omega) (by rfl) (by rfl) (by rfl) ?_
    rw [e59]
    refine c_ift ((nI_leI (by omega) (by omega)).mpr (Nat.le_refl _)) ?_
    exact ho
end LR

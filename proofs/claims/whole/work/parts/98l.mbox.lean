/-! REGIONS: the model's boxes -/
/-- the box of the pixels before k -/
def bxS (Q : Nat → Bool) (k : Nat) (l t r b : Int) : Prop := (∀ q, q < k → Q q = true → l ≤ ((q % 64 : Nat) : Int) ∧ ((q % 64 : Nat) : Int) ≤ r ∧ t ≤ ((q / 64 : Nat) : Int) ∧ ((q / 64 : Nat) : Int) ≤ b) ∧ ((l = 64 ∧ t = 64 ∧ r = -1 ∧ b = -1 ∧ ∀ q, q < k → Q q = false) ∨ ((∃ q, q < k ∧ Q q = true ∧ l = ((q % 64 : Nat) : Int)) ∧ (∃ q, q < k ∧ Q q = true ∧ t = ((q / 64 : Nat) : Int)) ∧ (∃ q, q < k ∧ Q q = true ∧ r = ((q % 64 : Nat) : Int)) ∧ ∃ q, q < k ∧ Q q = true ∧ b = ((q / 64 : Nat) : Int)))
theorem bxS_0 (Q : Nat → Bool) : bxS Q 0 64 64 (-1) (-1) := ⟨fun q h => absurd h (Nat.not_lt_zero q), Or.inl ⟨rfl, rfl, rfl, rfl, fun q h => absurd h (Nat.not_lt_zero q)⟩⟩
theorem bxS_no {Q : Nat → Bool} {k : Nat} {l t r b : Int} (h : bxS Q k l t r b) (n : Q k = false) : bxS Q (k + 1) l t r b := by
  have le : ∀ q, q < k + 1 → Q q = true → q < k := fun q h1 h2 => by
    by_cases e : q = k
    · rw [e, n] at h2; cases h2
    · omega
  obtain ⟨h1, h2⟩ := h
  refine ⟨fun q hq p => h1 q (le q hq p) p, ?_⟩
  rcases h2 with ⟨a, b, c, d, e⟩ | ⟨⟨q1, a1, a2, a3⟩, ⟨q2, b1, b2, b3⟩, ⟨q3, c1, c2, c3⟩, ⟨q4, d1, d2, d3⟩⟩
  · exact Or.inl ⟨a, b, c, d, fun q hq => by
      by_cases e2 : q = k
      · rw [e2]; exact n
      · exact e q (by omega)⟩
  · exact Or.inr ⟨⟨q1, by omega, a2, a3⟩, ⟨q2, by omega, b2, b3⟩, ⟨q3, by omega, c2, c3⟩, ⟨q4, by omega, d2, d3⟩⟩
theorem bxS_yes {Q : Nat → Bool} {k : Nat} (hk : k < 4096) {l t r b : Int} (h : bxS Q k l t r b) (y : Q k = true) : bxS Q (k + 1) (min l ((k % 64 : Nat) : Int)) (min t ((k / 64 : Nat) : Int)) (max r ((k % 64 : Nat) : Int)) (max b ((k / 64 : Nat) : Int)) := by
  obtain ⟨h1, h2⟩ := h
  have new : k < k + 1 := Nat.lt_succ_self k
  refine ⟨fun q hq p => ?_, Or.inr ?_⟩
  · by_cases e : q = k
    · rw [e]; omega
    · have := h1 q (by omega) p
      omega
  · rcases h2 with ⟨a, b', c, d, e⟩ | ⟨⟨q1, a1, a2, a3⟩, ⟨q2, b1, b2, b3⟩, ⟨q3, c1, c2, c3⟩, ⟨q4, d1, d2, d3⟩⟩
    · exact ⟨⟨k, new, y, by omega⟩, ⟨k, new, y, by omega⟩, ⟨k, new, y, by omega⟩, ⟨k, new, y, by omega⟩⟩
    · refine ⟨?_, ?_, ?_, ?_⟩
      · rcases Int.le_total l ((k % 64 : Nat) : Int) with w | w
        · exact ⟨q1, by omega, a2, by omega⟩
        · exact ⟨k, new, y, by omega⟩
      · rcases Int.le_total t ((k / 64 : Nat) : Int) with w | w
        · exact ⟨q2, by omega, b2, by omega⟩
        · exact ⟨k, new, y, by omega⟩
      · rcases Int.le_total ((k % 64 : Nat) : Int) r with w | w
        · exact ⟨q3, by omega, c2, by omega⟩
        · exact ⟨k, new, y, by omega⟩
      · rcases Int.le_total ((k / 64 : Nat) : Int) b with w | w
        · exact ⟨q4, by omega, d2, by omega⟩
        · exact ⟨k, new, y, by omega⟩
theorem bxS_rng {Q : Nat → Bool} {k : Nat} (hk : k ≤ 4096) {l t r b : Int} (h : bxS Q k l t r b) : 0 ≤ l ∧ l ≤ 64 ∧ 0 ≤ t ∧ t ≤ 64 ∧ -1 ≤ r ∧ r < 64 ∧ -1 ≤ b ∧ b < 64 := by
  rcases h.2 with ⟨a, b', c, d, e⟩ | ⟨⟨q1, a1, a2, a3⟩, ⟨q2, b1, b2, b3⟩, ⟨q3, c1, c2, c3⟩, ⟨q4, d1, d2, d3⟩⟩ <;> omega
/-- at the end it is the box -/
theorem bxS_box {F : Nat → Int64} {Q : Nat → Bool} (e : ∀ q, q < 4096 → Q q = px F q) (f0 : ∀ y, 64 ≤ y → F y = 0) {l t r b : Int} (h : bxS Q 4096 l t r b) (ne : ctP F ≠ 0) : ∃ l' t' r' b' : Nat, l = l' ∧ t = t' ∧ r = r' ∧ b = b' ∧ isBox F l' t' r' b' ∧ r' < 64 ∧ b' < 64 := by
  obtain ⟨h1, h2⟩ := h
  rcases h2 with ⟨_, _, _, _, z⟩ | ⟨⟨q1, a1, a2, a3⟩, ⟨q2, b1, b2, b3⟩, ⟨q3, c1, c2, c3⟩, ⟨q4, d1, d2, d3⟩⟩
  · exact absurd (fb_ct_zero.mpr (fun k hk => by rw [← e k hk]; exact z k hk)) ne
  · rw [e _ a1] at a2
    rw [e _ b1] at b2
    rw [e _ c1] at c2
    rw [e _ d1] at d2
    refine ⟨q1 % 64, q2 / 64, q3 % 64, q4 / 64, a3, b3, c3, d3, ⟨fun y x p => ?_, ⟨q1 / 64, a2⟩, ⟨q3 / 64, c2⟩, ⟨q2 % 64, b2⟩, ⟨q4 % 64, d2⟩⟩, by omega, by omega⟩
    have hx := lb_lt p
    have hy : y < 64 := by
      rcases Nat.lt_or_ge y 64 with w | w
      · exact w
      · rw [f0 y w, lb_0] at p; cases p
    have := h1 (64 * y + x) (by omega) (by rw [e _ (by omega), px_xy F y hx]; exact p)
    rw [show (64 * y + x) % 64 = x by omega, show (64 * y + x) / 64 = y by omega] at this
    omega
theorem lesser_z (S : xS) (h : xH) {x y : Int} (h1 : -1000000000 ≤ x) (h2 : x ≤ 1000000000) (h3 : -1000000000 ≤ y) (h4 : y ≤ 1000000000) : xM S mX13_lesser [.int (zI x), .int (zI y)] h = some (.inl (some (.int (zI (min x y)))), h, 0, 0) := by
  refine w_X13_lesser S _ _ _ _ ?_
  by_cases c : y ≤ x
  · refine c_ift ((zI_le (by omega) (by omega) (by omega) (by omega)).mpr c) ?_
    rw [show min x y = y by omega]
  · refine c_iff (fun q => c ((zI_le (by omega) (by omega) (by omega) (by omega)).mp q)) ?_
    rw [show min x y = x by omega]
theorem greater_z (S : xS) (h : xH) {x y : Int} (h1 : -1000000000 ≤ x) (h2 : x ≤ 1000000000) (h3 : -1000000000 ≤ y) (h4 : y ≤ 1000000000) : xM S mX13_greater [.int (zI x), .int (zI y)] h = some (.inl (some (.int (zI (max x y)))), h, 0, 0) := by
  refine w_X13_greater S _ _ _ _ ?_
  by_cases c : x ≤ y
  · refine c_ift ((zI_le (by omega) (by omega) (by omega) (by omega)).mpr c) ?_
    rw [show max x y = y by omega]
  · refine c_iff (fun q => c ((zI_le (by omega) (by omega) (by omega) (by omega)).mp q)) ?_
    rw [show max x y = x by omega]
/-- the four arrays that hold boxes -/
def bxM (m : mM) (a i : Nat) (Q : Nat → Bool) (k : Nat) : Prop := ∃ l t r b, bxS Q k l t r b ∧ m.1 a i = zI l ∧ m.1 (a + 1) i = zI t ∧ m.1 (a + 2) i = zI r ∧ m.1 (a + 3) i = zI b
noncomputable def rgQ (Ms Ad : Nat → Int64) (P : Nat → Bool) (B r k : Nat) : Bool := (px Ms k || px Ad k) && rgB P B r k
def rbP (a _j : Nat) : Bool := decide (125 ≤ a) && decide (a ≤ 128)
section MB
variable {S : xS} {W H n : Nat} {m : mM} {B : Nat} {P : Nat → Bool} {Ms Ad : Nat → Int64}
/-- a pixel of a region: its box grows -/
theorem mb101 {r k : Nat} (hk : k < 4096) (hr : r < 256) {Q : Nat → Bool} (X : bxM m 125 r Q k) (y : Q k = true) : ∃ m', bxM m' 125 r Q (k + 1) ∧ (∀ r', r' ≠ r → ∀ a, 125 ≤ a → a ≤ 128 → m'.1 a r' = m.1 a r') ∧ fr rbP m m' ∧ ∀ {o : xO}, xden S mX13_findsRegions 62 [(0, .ref 90), (1, .int (nI (k + 1)))] [] (E W H n m') = some o → xden S mX13_findsRegions 101 [(0, .ref 90), (1, .int (nI k))] [.int (nI r)] (E W H n m) = some o := by
  obtain ⟨l, t, rr, b, h1, h2, h3, h4, h5⟩ := X
  have g := bxS_rng (by omega) h1
  have nat64 : nI k - nI k / (64 : Int32) * (64 : Int32) = zI ((k % 64 : Nat) : Int) := by rw [zI_n (by omega)]; exact pk_rem (by omega) (by decide) (by decide)
  have div64 : nI k / (64 : Int32) = zI ((k / 64 : Nat) : Int) := by rw [zI_n (by omega)]; exact n_div (by omega) (by decide) (by decide)
  have z5 : 256 = eL H 125 := rfl
  have z6 : 256 = eL H 126 := rfl
  have z7 : 256 = eL H 127 := rfl
  have z8 : 256 = eL H 128 := rfl
  refine ⟨sI (sI (sI (sI m 125 r (zI (min l ((k % 64 : Nat) : Int)))) 127 r (zI (max rr ((k % 64 : Nat) : Int)))) 126 r (zI (min t ((k / 64 : Nat) : Int)))) 128 r (zI (max b ((k / 64 : Nat) : Int))), ⟨_, _, _, _, bxS_yes hk h1 y, ?_, ?_, ?_, ?_⟩, fun r' hr' a a1 a2 => ?_, fr_sI (fr_sI (fr_sI (fr_sI fr_rf (by rfl)) (by rfl)) (by rfl)) (by rfl), fun {o} ho => w_X13_findsRegions_101 S _ _ _ _ _ ?_⟩
  · rw [sI_ne (by omega), sI_ne (by omega), sI_ne (by omega), sI_eq ⟨rfl, rfl⟩]
  · rw [sI_ne (by omega), sI_eq ⟨rfl, rfl⟩]
  · rw [sI_ne (by omega), sI_ne (by omega), sI_eq ⟨rfl, rfl⟩]
  · rw [sI_eq ⟨rfl, rfl⟩]
  · rw [sI_ne (fun w => hr' w.2), sI_ne (fun w => hr' w.2), sI_ne (fun w => hr' w.2), sI_ne (fun w => hr' w.2)]
  · refine c_iff (nI_pos (by omega)) ?_
    refine c_gr (by omega) (by rfl) (by rfl) (by rfl) ?_
    refine c_gr (by omega) (by rfl) (by rfl) (by rfl) ?_
    refine c_ri (i := r) (by omega) (by rfl) (by rfl) (by rfl) (by first | omega | ((conv => rhs; whnf); first | omega | (show _ < OfNat.ofNat (α := Nat) _; omega))) (by first | omega | ((conv => lhs; whnf); first | omega | (show OfNat.ofNat (α := Nat) _ < _; omega))) (by decide) ?_
    rw [nat64, div64, show m.1 (90 + 35) r = zI l from h2]
    refine c_qI (lesser_z S _ (by omega) (by omega) (by omega) (by omega)) ?_
    refine c_wi (i := r) (by omega) (by rfl) (by rfl) (by rfl) (by first | omega | ((conv => rhs; whnf); first | omega | (show _ < OfNat.ofNat (α := Nat) _; omega))) (by first | omega | ((conv => lhs; whnf); first | omega | (show OfNat.ofNat (α := Nat) _ < _; omega))) ?_
    refine c_gr (by omega) (by rfl) (by rfl) (by rfl) ?_
    refine c_gr (by omega) (by rfl) (by rfl) (by rfl) ?_
    refine c_ri (i := r) (by omega) (by rfl) (by rfl) (by rfl) (by first | omega | ((conv => rhs; whnf); first | omega | (show _ < OfNat.ofNat (α := Nat) _; omega))) (by first | omega | ((conv => lhs; whnf); first | omega | (show OfNat.ofNat (α := Nat) _ < _; omega))) (by decide) ?_
    rw [sI_ne (by omega), show m.1 (90 + 37) r = zI rr from h4]
    refine c_qI (greater_z S _ (by omega) (by omega) (by omega) (by omega)) ?_
    refine c_wi (i := r) (by omega) (by rfl) (by rfl) (by rfl) (by first | omega | ((conv => rhs; whnf); first | omega | (show _ < OfNat.ofNat (α := Nat) _; omega))) (by first | omega | ((conv => lhs; whnf); first | omega | (show OfNat.ofNat (α := Nat) _ < _; omega))) ?_
    refine c_gr (by omega) (by rfl) (by rfl) (by rfl) ?_
    refine c_gr (by omega) (by rfl) (by rfl) (by rfl) ?_
    refine c_ri (i := r) (by omega) (by rfl) (by rfl) (by rfl) (by first | omega | ((conv => rhs; whnf); first | omega | (show _ < OfNat.ofNat (α := Nat) _; omega))) (by first | omega | ((conv => lhs; whnf); first | omega | (show OfNat.ofNat (α := Nat) _ < _; omega))) (by decide) ?_
    rw [sI_ne (by omega), sI_ne (by omega), show m.1 (90 + 36) r = zI t from h3]
    refine c_qI (lesser_z S _ (by omega) (by omega) (by omega) (by omega)) ?_
    refine c_wi (i := r) (by omega) (by rfl) (by rfl) (by rfl) (by first | omega | ((conv => rhs; whnf); first | omega | (show _ < OfNat.ofNat (α := Nat) _; omega))) (by first | omega | ((conv => lhs; whnf); first | omega | (show OfNat.ofNat (α := Nat) _ < _; omega))) ?_
    refine c_gr (by omega) (by rfl) (by rfl) (by rfl) ?_
    refine c_gr (by omega) (by rfl) (by rfl) (by rfl) ?_
    refine c_ri (i := r) (by omega) (by rfl) (by rfl) (by rfl) (by first | omega | ((conv => rhs; whnf); first | omega | (show _ < OfNat.ofNat (α := Nat) _; omega))) (by first | omega | ((conv => lhs; whnf); first | omega | (show OfNat.ofNat (α := Nat) _ < _; omega))) (by decide) ?_
    rw [sI_ne (by omega), sI_ne (by omega), sI_ne (by omega), show m.1 (90 + 38) r = zI b from h5]
    refine c_qI (greater_z S _ (by omega) (by omega) (by omega) (by omega)) ?_
    refine c_wi (i := r) (by omega) (by rfl) (by rfl) (by rfl) (by first | omega | ((conv => rhs; whnf); first | omega | (show _ < OfNat.ofNat (α := Nat) _; omega))) (by first | omega | ((conv => lhs; whnf); first | omega | (show OfNat.ofNat (α := Nat) _ < _; omega))) ?_
    refine c_let ?_
    rw [show (1 : Int32) = nI 1 from rfl, nI_add]
    exact ho
theorem mboxes_s (hB : 4 ≤ B) (hB2 : B ≤ 16) (e54 : m.1 90 54 = nI B) (PM : piM m 121 Ms) (PA : piM m 122 Ad) (e124 : ∀ k, k < 256 → m.1 124 k = labV P k) {N : Nat} (hN : N = nS ba P 256) (e59 : m.1 90 59 = nI N) : ∃ m', (∀ r, r < N → bxM m' 125 r (rgQ Ms Ad P B r) 4096) ∧ fr rbP m m' ∧ ∀ {o : xO}, xqV (xM S mX13_ordersRegions [.ref 90] (E W H n m')) xth (fun h2 => some (.inl none, h2, 0, 0)) = some o → xden S mX13_findsRegions 16 [(0, .ref 90), (1, .int (nI 0))] [] (E W H n m) = some o := by
  have N256 : N ≤ 256 := by rw [hN]; exact nS_256 P
  -- the boxes begin empty
  have L0 := x_sg (σ := mM) (τ := mM) (D := fun r s => xden S mX13_findsRegions 16 [(0, .ref 90), (1, .int (nI r))] [] (E W H n s)) (Inv := fun r s => (∀ q, q < r → bxM s 125 q (rgQ Ms Ad P B q) 0) ∧ fr rbP m s)
    (F := fun s => xden S mX13_findsRegions 62 [(0, .ref 90), (1, .int (nI 0))] [] (E W H n s)) (Post := fun s => (∀ q, q < N → bxM s 125 q (rgQ Ms Ad P B q) 0) ∧ fr rbP m s) N (fun r hr s hs => ?_) (fun s hs => ?_) m ⟨fun q hq => absurd hq (Nat.not_lt_zero q), fr_rf⟩
  · obtain ⟨m0, ⟨g1, g2⟩, g3⟩ := L0
    have L := x_sg (σ := mM) (τ := mM) (D := fun k s => xden S mX13_findsRegions 62 [(0, .ref 90), (1, .int (nI k))] [] (E W H n s)) (Inv := fun k s => (∀ q, q < N → bxM s 125 q (rgQ Ms Ad P B q) k) ∧ fr rbP m s)
      (F := fun s => xqV (xM S mX13_ordersRegions [.ref 90] (E W H n s)) xth (fun h2 => some (.inl none, h2, 0, 0))) (Post := fun s => (∀ q, q < N → bxM s 125 q (rgQ Ms Ad P B q) 4096) ∧ fr rbP m s) 4096 (fun k hk s hs => ?_) (fun s hs => ?_) m0 ⟨g1, g2⟩
    · obtain ⟨m', ⟨k1, k2⟩, k3⟩ := L
      exact ⟨m', k1, k2, fun {o} ho => g3 o (k3 o ho)⟩
    · left
      obtain ⟨h1, h2⟩ := hs
      have am := PM k hk
      have aa := PA k hk
      rw [← fr_i h2 121 k rfl] at am
      rw [← fr_i h2 122 k rfl] at aa
      have bl := (blk_lt hB hk).1
      have al := e124 _ bl
      rw [← fr_i h2 124 _ rfl] at al
      have bo := blockOf_s (S := S) (W := W) (H := H) (n := n) (m := s) hB hB2 (by rw [fr_i h2 90 54 rfl]; exact e54) hk
      -- none of any region
      have none' : (∀ q, q < N → rgQ Ms Ad P B q k = false) → ∀ q, q < N → bxM s 125 q (rgQ Ms Ad P B q) (k + 1) := fun z q hq => by
        obtain ⟨l, t, r, b, w1, w2⟩ := h1 q hq
        exact ⟨l, t, r, b, bxS_no w1 (z q hq), w2⟩
      have neg : ∀ {o : xO}, xden S mX13_findsRegions 62 [(0, .ref 90), (1, .int (nI (k + 1)))] [] (E W H n s) = some o → xden S mX13_findsRegions 101 [(0, .ref 90), (1, .int (nI k))] [.int (-1)] (E W H n s) = some o := fun {o} ho => by
        refine w_X13_findsRegions_101 S _ _ _ _ _ ?_
        refine c_ift (by decide) ?_
        refine c_let ?_
        rw [show (1 : Int32) = nI 1 from rfl, nI_add]
        exact ho
      by_cases d : (px Ms k || px Ad k) = true
      · -- to the row of the region
        have go : ∀ {o : xO}, xden S mX13_findsRegions 101 [(0, .ref 90), (1, .int (nI k))] [.int (labV P (blk B k))] (E W H n s) = some o → xden S mX13_findsRegions 62 [(0, .ref 90), (1, .int (nI k))] [] (E W H n s) = some o := fun {o} ho => by
          refine w_X13_findsRegions_62 S _ _ _ _ ?_
          refine c_iff (fun w => by have := (nI_leI (a := 4096) (by omega) (by omega)).mp w; omega) ?_
          refine c_gr (by omega) (by rfl) (by rfl) (by rfl) ?_
          refine c_ri (i := k) (by omega) (by rfl) (by rfl) (by rfl) (by first | omega | ((conv => rhs; whnf); first | omega | (show _ < OfNat.ofNat (α := Nat) _; omega))) (by first | omega | ((conv => lhs; whnf); first | omega | (show OfNat.ofNat (α := Nat) _ < _; omega))) (by decide) ?_
          rw [show s.1 (90 + 31) k = bz (px Ms k) from am]
          cases pm : px Ms k
          · refine c_iff (fun w => w (by decide)) ?_
            refine c_gr (by omega) (by rfl) (by rfl) (by rfl) ?_
            refine c_ri (i := k) (by omega) (by rfl) (by rfl) (by rfl) (by first | omega | ((conv => rhs; whnf); first | omega | (show _ < OfNat.ofNat (α := Nat) _; omega))) (by first | omega | ((conv => lhs; whnf); first | omega | (show OfNat.ofNat (α := Nat) _ < _; omega))) (by decide) ?_
            rw [show s.1 (90 + 32) k = bz (px Ad k) from aa]
            rw [pm, Bool.false_or] at d
            rw [d]
            refine c_iff (by decide) ?_
            refine c_gr (by omega) (by rfl) (by rfl) (by rfl) ?_
            refine c_ob (by omega) (by rfl) ?_
            refine c_qI bo ?_
            refine c_ri (i := blk B k) (by omega) (by rfl) (by rfl) (by rfl) (by first | omega | ((conv => rhs; whnf); first | omega | (show _ < OfNat.ofNat (α := Nat) _; omega))) (by first | omega | ((conv => lhs; whnf); first | omega | (show OfNat.ofNat (α := Nat) _ < _; omega))) (by decide) ?_
            rw [show s.1 (90 + 34) (blk B k) = labV P (blk B k) from al]
            exact ho
          · refine c_ift (by decide) ?_
            refine c_gr (by omega) (by rfl) (by rfl) (by rfl) ?_
            refine c_ob (by omega) (by rfl) ?_
            refine c_qI bo ?_
            refine c_ri (i := blk B k) (by omega) (by rfl) (by rfl) (by rfl) (by first | omega | ((conv => rhs; whnf); first | omega | (show _ < OfNat.ofNat (α := Nat) _; omega))) (by first | omega | ((conv => lhs; whnf); first | omega | (show OfNat.ofNat (α := Nat) _ < _; omega))) (by decide) ?_
            rw [show s.1 (90 + 34) (blk B k) = labV P (blk B k) from al]
            exact ho
        by_cases p : P (blk B k) = true
        · obtain ⟨_, _, _, _, _, ll⟩ := lbN_lt bl p
          rw [← hN] at ll
          have y : rgQ Ms Ad P B (lbN P (blk B k)) k = true := by unfold rgQ rgB; rw [d, p, decide_eq_true rfl]; rfl
          obtain ⟨m1, j1, j2, j3, j4⟩ := mb101 (S := S) (W := W) (H := H) (n := n) hk (by omega) (h1 _ ll) y
          refine ⟨m1, ⟨fun q hq => ?_, fr_tr h2 j3⟩, fun o ho => go ?_⟩
          · by_cases e : q = lbN P (blk B k)
            · rw [e]; exact j1
            · obtain ⟨l, t, r, b, w1, w2, w3, w4, w5⟩ := h1 q hq
              exact ⟨l, t, r, b, bxS_no w1 (by unfold rgQ rgB; rw [decide_eq_false (fun w => e w.symm), Bool.and_false, Bool.and_false]), by rw [j2 q e 125 (by decide) (by decide)]; exact w2, by rw [j2 q e (125 + 1) (by decide) (by decide)]; exact w3, by rw [j2 q e (125 + 2) (by decide) (by decide)]; exact w4, by rw [j2 q e (125 + 3) (by decide) (by decide)]; exact w5⟩
          · have e : labV P (blk B k) = nI (lbN P (blk B k)) := if_pos p
            rw [e]
            exact j4 ho
        · refine ⟨s, ⟨none' (fun q _ => by
            have p' : P (blk B k) = false := by
              cases h : P (blk B k)
              · rfl
              · exact absurd h p
            unfold rgQ rgB
            rw [p', Bool.false_and, Bool.and_false]), h2⟩, fun o ho => go ?_⟩
          have e : labV P (blk B k) = -1 := if_neg p
          rw [e]
          exact neg ho
      · have d' : (px Ms k || px Ad k) = false := by
          cases h : (px Ms k || px Ad k)
          · rfl
          · exact absurd h d
        rw [Bool.or_eq_false_iff] at d'
        refine ⟨s, ⟨none' (fun q _ => by unfold rgQ; rw [d'.1, d'.2]; rfl), h2⟩, fun o ho => w_X13_findsRegions_62 S _ _ _ _ ?_⟩
        refine c_iff (fun w => by have := (nI_leI (a := 4096) (by omega) (by omega)).mp w; omega) ?_
        refine c_gr (by omega) (by rfl) (by rfl) (by rfl) ?_
        refine c_ri (i := k) (by omega) (by rfl) (by rfl) (by rfl) (by first | omega | ((conv => rhs; whnf); first | omega | (show _ < OfNat.ofNat (α := Nat) _; omega))) (by first | omega | ((conv => lhs; whnf); first | omega | (show OfNat.ofNat (α := Nat) _ < _; omega))) (by decide) ?_
        rw [show s.1 (90 + 31) k = bz (px Ms k) from am, d'.1]
        refine c_iff (fun w => w (by decide)) ?_
        refine c_gr (by omega) (by rfl) (by rfl) (by rfl) ?_
        refine c_ri (i := k) (by omega) (by rfl) (by rfl) (by rfl) (by first | omega | ((conv => rhs; whnf); first | omega | (show _ < OfNat.ofNat (α := Nat) _; omega))) (by first | omega | ((conv => lhs; whnf); first | omega | (show OfNat.ofNat (α := Nat) _ < _; omega))) (by decide) ?_
        rw [show s.1 (90 + 32) k = bz (px Ad k) from aa, d'.2]
        refine c_ift (by decide) ?_
        exact neg ho
    · refine ⟨s, hs, fun o ho => w_X13_findsRegions_62 S _ _ _ _ ?_⟩
      refine c_ift (by decide) ?_
      refine c_ob (by omega) (by rfl) ?_
      exact ho
  · left
    obtain ⟨h1, h2⟩ := hs
    refine ⟨sI (sI (sI (sI s 125 r (zI 64)) 126 r (zI 64)) 127 r (zI (-1))) 128 r (zI (-1)), ⟨fun q hq => ?_, fr_sI (fr_sI (fr_sI (fr_sI h2 (by rfl)) (by rfl)) (by rfl)) (by rfl)⟩, fun o ho => w_X13_findsRegions_16 S _ _ _ _ ?_⟩
    · by_cases e : q = r
      · rw [e]
        refine ⟨64, 64, -1, -1, bxS_0 _, ?_, ?_, ?_, ?_⟩
        · rw [sI_ne (by omega), sI_ne (by omega), sI_ne (by omega), sI_eq ⟨rfl, rfl⟩]
        · rw [sI_ne (by omega), sI_ne (by omega), sI_eq ⟨rfl, rfl⟩]
        · rw [sI_ne (by omega), sI_eq ⟨rfl, rfl⟩]
        · rw [sI_eq ⟨rfl, rfl⟩]
      · obtain ⟨l, t, rr, b, w1, w2, w3, w4, w5⟩ := h1 q (by omega)
        refine ⟨l, t, rr, b, w1, ?_, ?_, ?_, ?_⟩ <;> rw [sI_ne (fun w => e w.2), sI_ne (fun w => e w.2), sI_ne (fun w => e w.2), sI_ne (fun w => e w.2)] <;> assumption
    · refine c_gi (by omega) (by rfl) (by rfl) (by rfl) ?_
      rw [fr_i h2 90 59 rfl, e59]
      refine c_iff (fun w => by have := (nI_leI (by omega) (by omega)).mp w; omega) ?_
      refine c_gr (by omega) (by rfl) (by rfl) (by rfl) ?_
      refine c_wi (i := r) (by omega) (by rfl) (by rfl) (by rfl) (by first | omega | ((conv => rhs; whnf); first | omega | (show _ < OfNat.ofNat (α := Nat) _; omega))) (by first | omega | ((conv => lhs; whnf); first | omega | (show OfNat.ofNat (α := Nat) _ < _; omega))) ?_
      refine c_gr (by omega) (by rfl) (by rfl) (by rfl) ?_
      refine c_wi (i := r) (by omega) (by rfl) (by rfl) (by rfl) (by first | omega | ((conv => rhs; whnf); first | omega | (show _ < OfNat.ofNat (α := Nat) _; omega))) (by first | omega | ((conv => lhs; whnf); first | omega | (show OfNat.ofNat (α := Nat) _ < _; omega))) ?_
      refine c_gr (by omega) (by rfl) (by rfl) (by rfl) ?_
      refine c_wi (i := r) (by omega) (by rfl) (by rfl) (by rfl) (by first | omega | ((conv => rhs; whnf); first | omega | (show _ < OfNat.ofNat (α := Nat) _; omega))) (by first | omega | ((conv => lhs; whnf); first | omega | (show OfNat.ofNat (α := Nat) _ < _; omega))) ?_
      refine c_gr (by omega) (by rfl) (by rfl) (by rfl) ?_
      refine c_wi (i := r) (by omega) (by rfl) (by rfl) (by rfl) (by first | omega | ((conv => rhs; whnf); first | omega | (show _ < OfNat.ofNat (α := Nat) _; omega))) (by first | omega | ((conv => lhs; whnf); first | omega | (show OfNat.ofNat (α := Nat) _ < _; omega))) ?_
      refine c_let ?_
      rw [show (1 : Int32) = nI 1 from rfl, nI_add]
      exact ho
  · obtain ⟨h1, h2⟩ := hs
    refine ⟨s, ⟨h1, h2⟩, fun o ho => w_X13_findsRegions_16 S _ _ _ _ ?_⟩
    refine c_gi (by omega) (by rfl) (by rfl) (by rfl) ?_
    rw [fr_i h2 90 59 rfl, e59]
    refine c_ift ((nI_leI (by omega) (by omega)).mpr (Nat.le_refl _)) ?_
    exact ho
end MB

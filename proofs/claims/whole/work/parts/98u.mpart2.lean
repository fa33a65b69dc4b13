/-! PARTS: the model finds its parts -/
def pmP (a _j : Nat) : Bool := decide (134 ≤ a) && decide (a ≤ 140)
def pmQ (p a j : Nat) : Bool := (decide (135 ≤ a) && decide (a ≤ 140)) && j == p
theorem pm_q (p a j : Nat) (h : pmP a j = false) : pmQ p a j = false := by
  unfold pmP at h
  unfold pmQ
  rw [Bool.and_eq_false_iff, decide_eq_false_iff_not, decide_eq_false_iff_not] at h
  rcases h with h | h
  · rw [decide_eq_false (show ¬ 135 ≤ a by omega)]; rfl
  · rw [decide_eq_false (show ¬ a ≤ 140 by omega), Bool.and_false]; rfl
theorem pmQ_y (p : Nat) {a : Nat} (h1 : 135 ≤ a) (h2 : a ≤ 140) : pmQ p a p = true := by
  unfold pmQ
  rw [decide_eq_true h1, decide_eq_true h2, beq_self_eq_true]
  rfl
theorem pmQ_n {p q : Nat} (a : Nat) (h : q ≠ p) : pmQ p a q = false := by
  unfold pmQ
  rw [beq_eq_false_iff_ne.mpr h, Bool.and_false]
theorem pmQ_a {p a : Nat} (j : Nat) (h : a < 135 ∨ 140 < a) : pmQ p a j = false := by
  unfold pmQ
  rcases h with h | h
  · rw [decide_eq_false (show ¬ 135 ≤ a by omega)]; rfl
  · rw [decide_eq_false (show ¬ a ≤ 140 by omega), Bool.and_false]; rfl
/-- what is known of a part -/
def ptM (m : mM) (p : Nat) (F : Nat → Int64) : Prop := m.1 135 p = nI (ctP F) ∧ bxM m 136 p (px F) 4096
theorem ptM_fr {m m' : mM} {p : Nat} {F : Nat → Int64} (X : ptM m p F) (e : ∀ a, 135 ≤ a → a ≤ 139 → m'.1 a p = m.1 a p) : ptM m' p F := by
  obtain ⟨h1, l, t, r, b, h2, h3, h4, h5, h6⟩ := X
  exact ⟨(e 135 (by decide) (by decide)).trans h1, l, t, r, b, h2, (e 136 (by decide) (by decide)).trans h3, (e 137 (by decide) (by decide)).trans h4, (e 138 (by decide) (by decide)).trans h5, (e 139 (by decide) (by decide)).trans h6⟩
section PB
variable {S : xS} {W H n N : Nat} {m : mM} {B : Nat} {P : Nat → Bool} {Ms Ad : Nat → Int64} {o nb : Nat → Nat}
theorem fp103 (hW8 : 8 ≤ W) (hW : W ≤ 64) (hH8 : 8 ≤ H) (hH : H ≤ 64) (hB : 4 ≤ B) (hB2 : B ≤ 16) (oM : okP W H Ms) (oA : okP W H Ad) (hN : N = nS ba P 256) (ho : ∀ i, i < N → nb (o i) = i) (hnb : ∀ q, q < N → nb q < N ∧ o (nb q) = q) (X : ofI m B P Ms Ad nb) {p : Nat} (hp : p < 2 * N) (e135 : m.1 135 p = 0) (eb : bxM m 136 p (px (PFm W H Ms Ad P B o p)) 0) : ∃ m', ptM m' p (PFm W H Ms Ad P B o p) ∧ m'.1 140 p = m.1 140 p ∧ fr (pmQ p) m m' ∧ ∀ {oo : xO}, xden S mX13_findsParts 47 [(0, .ref 90), (1, .int (nI (p + 1)))] [] (E W H n m') = some oo → xden S mX13_findsParts 103 [(0, .ref 90), (1, .int (nI p)), (2, .int (nI 0))] [] (E W H n m) = some oo := by
  have N256 : N ≤ 256 := by rw [hN]; exact nS_256 P
  have z : 512 = eL H 135 := rfl
  have L := x_sg (σ := mM) (τ := mM) (D := fun k s => xden S mX13_findsParts 103 [(0, .ref 90), (1, .int (nI p)), (2, .int (nI k))] [] (E W H n s)) (Inv := fun k s => s.1 135 p = nI (fb_ct (px (PFm W H Ms Ad P B o p)) k) ∧ bxM s 136 p (px (PFm W H Ms Ad P B o p)) k ∧ s.1 140 p = m.1 140 p ∧ fr (pmQ p) m s)
    (F := fun s => xden S mX13_findsParts 47 [(0, .ref 90), (1, .int (nI (p + 1)))] [] (E W H n s)) (Post := fun s => ptM s p (PFm W H Ms Ad P B o p) ∧ s.1 140 p = m.1 140 p ∧ fr (pmQ p) m s) 4096 (fun k hk s hs => ?_) (fun s hs => ?_) m ⟨e135, eb, rfl, fr_rf⟩
  · obtain ⟨m', ⟨g1, g2, g3⟩, g4⟩ := L
    exact ⟨m', g1, g2, g3, fun {oo} ho => g4 oo ho⟩
  · left
    obtain ⟨h1, h2, h4, h3⟩ := hs
    have io := isOf_s (S := S) (W := W) (H := H) (n := n) (m := s) hW8 hW hH8 hH hB hB2 oM oA hN ho hnb (ofI_fr X h3 (fun a j h => pmQ_a j (by omega))) hp hk
    by_cases y : px (PFm W H Ms Ad P B o p) k = true
    · obtain ⟨l, t, r, b, w1, w2, w3, w4, w5⟩ := h2
      have g := bxS_rng (by omega) w1
      have cle := fb_ct_le (px (PFm W H Ms Ad P B o p)) k
      have nat64 : nI k - nI k / (64 : Int32) * (64 : Int32) = zI ((k % 64 : Nat) : Int) := by rw [zI_n (by omega)]; exact pk_rem (by omega) (by decide) (by decide)
      have div64 : nI k / (64 : Int32) = zI ((k / 64 : Nat) : Int) := by rw [zI_n (by omega)]; exact n_div (by omega) (by decide) (by decide)
      have zz : 512 = eL H 136 ∧ 512 = eL H 137 ∧ 512 = eL H 138 ∧ 512 = eL H 139 := ⟨rfl, rfl, rfl, rfl⟩
      refine ⟨sI (sI (sI (sI (sI s 135 p (nI (fb_ct (px (PFm W H Ms Ad P B o p)) k + 1))) 136 p (zI (min l ((k % 64 : Nat) : Int)))) 137 p (zI (min t ((k / 64 : Nat) : Int)))) 138 p (zI (max r ((k % 64 : Nat) : Int)))) 139 p (zI (max b ((k / 64 : Nat) : Int))), ⟨?_, ⟨_, _, _, _, bxS_yes hk w1 y, ?_, ?_, ?_, ?_⟩, ?_, ?_⟩, fun oo ho => w_X13_findsParts_103 S _ _ _ _ _ ?_⟩
      · rw [sI_ne (by omega), sI_ne (by omega), sI_ne (by omega), sI_ne (by omega), sI_eq ⟨rfl, rfl⟩, fb_ct_succ, y]
        rfl
      · rw [sI_ne (by omega), sI_ne (by omega), sI_ne (by omega), sI_eq ⟨rfl, rfl⟩]
      · rw [sI_ne (by omega), sI_ne (by omega), sI_eq ⟨rfl, rfl⟩]
      · rw [sI_ne (by omega), sI_eq ⟨rfl, rfl⟩]
      · rw [sI_eq ⟨rfl, rfl⟩]
      · rw [sI_ne (by omega), sI_ne (by omega), sI_ne (by omega), sI_ne (by omega), sI_ne (by omega)]
        exact h4
      · exact fr_sI (fr_sI (fr_sI (fr_sI (fr_sI h3 (pmQ_y p (by decide) (by decide))) (pmQ_y p (by decide) (by decide))) (pmQ_y p (by decide) (by decide))) (pmQ_y p (by decide) (by decide))) (pmQ_y p (by decide) (by decide))
      · refine c_iff (fun w => by have := (nI_leI (a := 4096) (by omega) (by omega)).mp w; omega) ?_
        refine c_ob (by omega) (by rfl) ?_
        refine c_qI io ?_
        rw [y]
        refine c_iff (by decide) ?_
        refine c_gr (by omega) (by rfl) (by rfl) (by rfl) ?_
        refine c_ri (i := p) (by omega) (by rfl) (by rfl) (by rfl) (by first | omega | ((conv => rhs; whnf); first | omega | (show _ < OfNat.ofNat (α := Nat) _; omega))) (by first | omega | ((conv => lhs; whnf); first | omega | (show OfNat.ofNat (α := Nat) _ < _; omega))) (by decide) ?_
        rw [show s.1 (90 + 45) p = _ from h1, nI_suc]
        refine c_wi (i := p) (by omega) (by rfl) (by rfl) (by rfl) (by first | omega | ((conv => rhs; whnf); first | omega | (show _ < OfNat.ofNat (α := Nat) _; omega))) (by first | omega | ((conv => lhs; whnf); first | omega | (show OfNat.ofNat (α := Nat) _ < _; omega))) ?_
        refine c_gr (by omega) (by rfl) (by rfl) (by rfl) ?_
        refine c_gr (by omega) (by rfl) (by rfl) (by rfl) ?_
        refine c_ri (i := p) (by omega) (by rfl) (by rfl) (by rfl) (by first | omega | ((conv => rhs; whnf); first | omega | (show _ < OfNat.ofNat (α := Nat) _; omega))) (by first | omega | ((conv => lhs; whnf); first | omega | (show OfNat.ofNat (α := Nat) _ < _; omega))) (by decide) ?_
        rw [nat64, div64, sI_ne (by omega), show s.1 (90 + 46) p = zI l from w2]
        refine c_qI (lesser_z S _ (by omega) (by omega) (by omega) (by omega)) ?_
        refine c_wi (i := p) (by omega) (by rfl) (by rfl) (by rfl) (by first | omega | ((conv => rhs; whnf); first | omega | (show _ < OfNat.ofNat (α := Nat) _; omega))) (by first | omega | ((conv => lhs; whnf); first | omega | (show OfNat.ofNat (α := Nat) _ < _; omega))) ?_
        refine c_gr (by omega) (by rfl) (by rfl) (by rfl) ?_
        refine c_gr (by omega) (by rfl) (by rfl) (by rfl) ?_
        refine c_ri (i := p) (by omega) (by rfl) (by rfl) (by rfl) (by first | omega | ((conv => rhs; whnf); first | omega | (show _ < OfNat.ofNat (α := Nat) _; omega))) (by first | omega | ((conv => lhs; whnf); first | omega | (show OfNat.ofNat (α := Nat) _ < _; omega))) (by decide) ?_
        rw [sI_ne (by omega), sI_ne (by omega), show s.1 (90 + 47) p = zI t from w3]
        refine c_qI (lesser_z S _ (by omega) (by omega) (by omega) (by omega)) ?_
        refine c_wi (i := p) (by omega) (by rfl) (by rfl) (by rfl) (by first | omega | ((conv => rhs; whnf); first | omega | (show _ < OfNat.ofNat (α := Nat) _; omega))) (by first | omega | ((conv => lhs; whnf); first | omega | (show OfNat.ofNat (α := Nat) _ < _; omega))) ?_
        refine c_gr (by omega) (by rfl) (by rfl) (by rfl) ?_
        refine c_gr (by omega) (by rfl) (by rfl) (by rfl) ?_
        refine c_ri (i := p) (by omega) (by rfl) (by rfl) (by rfl) (by first | omega | ((conv => rhs; whnf); first | omega | (show _ < OfNat.ofNat (α := Nat) _; omega))) (by first | omega | ((conv => lhs; whnf); first | omega | (show OfNat.ofNat (α := Nat) _ < _; omega))) (by decide) ?_
        rw [sI_ne (by omega), sI_ne (by omega), sI_ne (by omega), show s.1 (90 + 48) p = zI r from w4]
        refine c_qI (greater_z S _ (by omega) (by omega) (by omega) (by omega)) ?_
        refine c_wi (i := p) (by omega) (by rfl) (by rfl) (by rfl) (by first | omega | ((conv => rhs; whnf); first | omega | (show _ < OfNat.ofNat (α := Nat) _; omega))) (by first | omega | ((conv => lhs; whnf); first | omega | (show OfNat.ofNat (α := Nat) _ < _; omega))) ?_
        refine c_gr (by omega) (by rfl) (by rfl) (by rfl) ?_
        refine c_gr (by omega) (by rfl) (by rfl) (by rfl) ?_
        refine c_ri (i := p) (by omega) (by rfl) (by rfl) (by rfl) (by first | omega | ((conv => rhs; whnf); first | omega | (show _ < OfNat.ofNat (α := Nat) _; omega))) (by first | omega | ((conv => lhs; whnf); first | omega | (show OfNat.ofNat (α := Nat) _ < _; omega))) (by decide) ?_
        rw [sI_ne (by omega), sI_ne (by omega), sI_ne (by omega), sI_ne (by omega), show s.1 (90 + 49) p = zI b from w5]
        refine c_qI (greater_z S _ (by omega) (by omega) (by omega) (by omega)) ?_
        refine c_wi (i := p) (by omega) (by rfl) (by rfl) (by rfl) (by first | omega | ((conv => rhs; whnf); first | omega | (show _ < OfNat.ofNat (α := Nat) _; omega))) (by first | omega | ((conv => lhs; whnf); first | omega | (show OfNat.ofNat (α := Nat) _ < _; omega))) ?_
        refine c_let ?_
        rw [nI_suc]
        exact ho
    · have y' : px (PFm W H Ms Ad P B o p) k = false := Bool.eq_false_iff.mpr y
      obtain ⟨l, t, r, b, w1, w2⟩ := h2
      refine ⟨s, ⟨by rw [fb_ct_succ, y']; exact h1, ⟨l, t, r, b, bxS_no w1 y', w2⟩, h4, h3⟩, fun oo ho => w_X13_findsParts_103 S _ _ _ _ _ ?_⟩
      refine c_iff (fun w => by have := (nI_leI (a := 4096) (by omega) (by omega)).mp w; omega) ?_
      refine c_ob (by omega) (by rfl) ?_
      refine c_qI io ?_
      rw [y']
      refine c_ift (by decide) ?_
      refine c_let ?_
      rw [nI_suc]
      exact ho
  · obtain ⟨h1, h2, h4, h3⟩ := hs
    refine ⟨s, ⟨⟨h1, h2⟩, h4, h3⟩, fun oo ho => w_X13_findsParts_103 S _ _ _ _ _ ?_⟩
    refine c_ift (by decide) ?_
    refine c_let ?_
    rw [nI_suc]
    exact ho
theorem findsParts_s (hW8 : 8 ≤ W) (hW : W ≤ 64) (hH8 : 8 ≤ H) (hH : H ≤ 64) (hB : 4 ≤ B) (hB2 : B ≤ 16) (oM : okP W H Ms) (oA : okP W H Ad) (hN : N = nS ba P 256) (ho : ∀ i, i < N → nb (o i) = i) (hnb : ∀ q, q < N → nb q < N ∧ o (nb q) = q) (e54 : m.1 90 54 = nI B) (PM : piM m 121 Ms) (PA : piM m 122 Ad) (e59 : m.1 90 59 = nI N) (e124 : ∀ k, k < 256 → m.1 124 k = labV P k) (e130 : ∀ q, q < N → m.1 130 q = nI (nb q)) : ∃ m', xM S mX13_findsParts [.ref 90] (E W H n m) = some (.inl none, E W H n m', 0, 0) ∧ ofI m' B P Ms Ad nb ∧ (∀ p, p < 2 * N → ptM m' p (PFm W H Ms Ad P B o p) ∧ m'.1 140 p = 0) ∧ fr pmP m m' := by
  have N256 : N ≤ 256 := by rw [hN]; exact nS_256 P
  -- the numbers of the blocks
  have L1 := x_sg (σ := mM) (τ := mM) (D := fun k s => xden S mX13_findsParts 2 [(0, .ref 90), (1, .int (nI k))] [] (E W H n s)) (Inv := fun k s => (∀ b, b < k → s.1 134 b = if P b = true then nI (nb (lbN P b)) else -1) ∧ fr pmP m s)
    (F := fun s => xden S mX13_findsParts 47 [(0, .ref 90), (1, .int (nI 0))] [] (E W H n s)) (Post := fun s => ofI s B P Ms Ad nb ∧ fr pmP m s) 256 (fun k hk s hs => ?_) (fun s hs => ?_) m ⟨fun b hb => absurd hb (Nat.not_lt_zero b), fr_rf⟩
  · obtain ⟨m1, ⟨g1, g2⟩, g3⟩ := L1
    have L2 := x_sg (σ := mM) (τ := mM) (D := fun p s => xden S mX13_findsParts 47 [(0, .ref 90), (1, .int (nI p))] [] (E W H n s)) (Inv := fun p s => ofI s B P Ms Ad nb ∧ (∀ q, q < p → ptM s q (PFm W H Ms Ad P B o q) ∧ s.1 140 q = 0) ∧ fr pmP m s)
      (F := fun s => some (.inl none, E W H n s, 0, 0)) (Post := fun s => ofI s B P Ms Ad nb ∧ (∀ q, q < 2 * N → ptM s q (PFm W H Ms Ad P B o q) ∧ s.1 140 q = 0) ∧ fr pmP m s) (2 * N) (fun p hp s hs => ?_) (fun s hs => ?_) m1 ⟨g1, fun q hq => absurd hq (Nat.not_lt_zero q), g2⟩
    · obtain ⟨m2, ⟨k1, k2, k3⟩, k4⟩ := L2
      exact ⟨m2, w_X13_findsParts S _ _ _ (g3 _ (k4 _ rfl)), k1, k2, k3⟩
    · left
      obtain ⟨h1, h2, h3⟩ := hs
      have Q : fr (pmQ p) s (sI (sI (sI (sI (sI (sI s 135 p 0) 136 p (zI 64)) 137 p (zI 64)) 138 p (zI (-1))) 139 p (zI (-1))) 140 p 0) := fr_sI (fr_sI (fr_sI (fr_sI (fr_sI (fr_sI fr_rf (pmQ_y p (by decide) (by decide))) (pmQ_y p (by decide) (by decide))) (pmQ_y p (by decide) (by decide))) (pmQ_y p (by decide) (by decide))) (pmQ_y p (by decide) (by decide))) (pmQ_y p (by decide) (by decide))
      obtain ⟨m2, j1, j2, j3, j4⟩ := fp103 (S := S) (n := n) hW8 hW hH8 hH hB hB2 oM oA hN ho hnb (ofI_fr h1 Q (fun a j h => pmQ_a j (by omega))) hp (by rw [sI_ne (by omega), sI_ne (by omega), sI_ne (by omega), sI_ne (by omega), sI_ne (by omega), sI_eq ⟨rfl, rfl⟩]) ⟨64, 64, -1, -1, bxS_0 _, by rw [sI_ne (by omega), sI_ne (by omega), sI_ne (by omega), sI_ne (by omega), sI_eq ⟨rfl, rfl⟩], by rw [sI_ne (by omega), sI_ne (by omega), sI_ne (by omega), sI_eq ⟨rfl, rfl⟩], by rw [sI_ne (by omega), sI_ne (by omega), sI_eq ⟨rfl, rfl⟩], by rw [sI_ne (by omega), sI_eq ⟨rfl, rfl⟩]⟩
      have Q2 := fr_tr Q j3
      refine ⟨m2, ⟨ofI_fr h1 Q2 (fun a j h => pmQ_a j (by omega)), fun q hq => ?_, fr_tr h3 (fr_mono Q2 (fun a j w => pm_q p a j w))⟩, fun oo ho => w_X13_findsParts_47 S _ _ _ _ ?_⟩
      · by_cases e : q = p
        · rw [e]
          exact ⟨j1, by rw [j2, sI_eq ⟨rfl, rfl⟩]⟩
        · obtain ⟨w1, w2⟩ := h2 q (by omega)
          exact ⟨ptM_fr w1 (fun a _ _ => fr_i Q2 a q (pmQ_n a e)), (fr_i Q2 140 q (pmQ_n 140 e)).trans w2⟩
      · refine c_gi (by omega) (by rfl) (by rfl) (by rfl) ?_
        rw [fr_i h3 90 59 rfl, e59, show (2 : Int32) * nI N = nI (2 * N) from pk_mul 2 N]
        refine c_iff (fun w => by have := (nI_leI (by omega) (by omega)).mp w; omega) ?_
        refine c_gr (by omega) (by rfl) (by rfl) (by rfl) ?_
        refine c_wi (i := p) (by omega) (by rfl) (by rfl) (by rfl) (by first | omega | ((conv => rhs; whnf); first | omega | (show _ < OfNat.ofNat (α := Nat) _; omega))) (by first | omega | ((conv => lhs; whnf); first | omega | (show OfNat.ofNat (α := Nat) _ < _; omega))) ?_
        refine c_gr (by omega) (by rfl) (by rfl) (by rfl) ?_
        refine c_wi (i := p) (by omega) (by rfl) (by rfl) (by rfl) (by first | omega | ((conv => rhs; whnf); first | omega | (show _ < OfNat.ofNat (α := Nat) _; omega))) (by first | omega | ((conv => lhs; whnf); first | omega | (show OfNat.ofNat (α := Nat) _ < _; omega))) ?_
        refine c_gr (by omega) (by rfl) (by rfl) (by rfl) ?_
        refine c_wi (i := p) (by omega) (by rfl) (by rfl) (by rfl) (by first | omega | ((conv => rhs; whnf); first | omega | (show _ < OfNat.ofNat (α := Nat) _; omega))) (by first | omega | ((conv => lhs; whnf); first | omega | (show OfNat.ofNat (α := Nat) _ < _; omega))) ?_
        refine c_gr (by omega) (by rfl) (by rfl) (by rfl) ?_
        refine c_wi (i := p) (by omega) (by rfl) (by rfl) (by rfl) (by first | omega | ((conv => rhs; whnf); first | omega | (show _ < OfNat.ofNat (α := Nat) _; omega))) (by first | omega | ((conv => lhs; whnf); first | omega | (show OfNat.ofNat (α := Nat) _ < _; omega))) ?_
        refine c_gr (by omega) (by rfl) (by rfl) (by rfl) ?_
        refine c_wi (i := p) (by omega) (by rfl) (by rfl) (by rfl) (by first | omega | ((conv => rhs; whnf); first | omega | (show _ < OfNat.ofNat (α := Nat) _; omega))) (by first | omega | ((conv => lhs; whnf); first | omega | (show OfNat.ofNat (α := Nat) _ < _; omega))) ?_
        refine c_gr (by omega) (by rfl) (by rfl) (by rfl) ?_
        refine c_wz (i := p) (by omega) (by rfl) (by rfl) (by rfl) (by first | omega | ((conv => rhs; whnf); first | omega | (show _ < OfNat.ofNat (α := Nat) _; omega))) (by first | omega | ((conv => lhs; whnf); first | omega | (show OfNat.ofNat (α := Nat) _ < _; omega))) (Or.inl rfl) ?_
        exact j4 ho
    · refine ⟨s, hs, fun oo ho => w_X13_findsParts_47 S _ _ _ _ ?_⟩
      refine c_gi (by omega) (by rfl) (by rfl) (by rfl) ?_
      rw [fr_i hs.2.2 90 59 rfl, e59, show (2 : Int32) * nI N = nI (2 * N) from pk_mul 2 N]
      refine c_ift ((nI_leI (by omega) (by omega)).mpr (Nat.le_refl _)) ?_
      exact ho
  · left
    obtain ⟨h1, h2⟩ := hs
    have e := e124 k hk
    rw [← fr_i h2 124 k rfl] at e
    refine ⟨sI s 134 k (if P k = true then nI (nb (lbN P k)) else -1), ⟨fun b hb => ?_, fr_sI h2 (by rfl)⟩, fun oo ho => w_X13_findsParts_2 S _ _ _ _ ?_⟩
    · by_cases eq : b = k
      · rw [eq, sI_eq ⟨rfl, rfl⟩]
      · rw [sI_ne (fun w => eq w.2)]
        exact h1 b (by omega)
    · refine c_iff (fun w => by have := (nI_leI (a := 256) (by omega) (by omega)).mp w; omega) ?_
      refine c_gr (by omega) (by rfl) (by rfl) (by rfl) ?_
      refine c_gr (by omega) (by rfl) (by rfl) (by rfl) ?_
      refine c_ri (i := k) (by omega) (by rfl) (by rfl) (by rfl) (by first | omega | ((conv => rhs; whnf); first | omega | (show _ < OfNat.ofNat (α := Nat) _; omega))) (by first | omega | ((conv => lhs; whnf); first | omega | (show OfNat.ofNat (α := Nat) _ < _; omega))) (by decide) ?_
      rw [show s.1 (90 + 34) k = _ from e]
      by_cases pb : P k = true
      · obtain ⟨_, _, _, _, _, ll⟩ := lbN_lt hk pb
        rw [← hN] at ll
        have e2 : labV P k = nI (lbN P k) := if_pos pb
        rw [e2]
        refine c_ift (show (0 : Int32) ≤ nI (lbN P k) from (nI_leI (a := 0) (by omega) (by omega)).mpr (Nat.zero_le _)) ?_
        refine c_gr (by omega) (by rfl) (by rfl) (by rfl) ?_
        refine c_gr (by omega) (by rfl) (by rfl) (by rfl) ?_
        refine c_ri (i := k) (by omega) (by rfl) (by rfl) (by rfl) (by first | omega | ((conv => rhs; whnf); first | omega | (show _ < OfNat.ofNat (α := Nat) _; omega))) (by first | omega | ((conv => lhs; whnf); first | omega | (show OfNat.ofNat (α := Nat) _ < _; omega))) (by decide) ?_
        rw [show s.1 (90 + 34) k = _ from e, e2]
        refine c_ri (i := lbN P k) (by omega) (by rfl) (by rfl) (by rfl) (by first | omega | ((conv => rhs; whnf); first | omega | (show _ < OfNat.ofNat (α := Nat) _; omega))) (by first | omega | ((conv => lhs; whnf); first | omega | (show OfNat.ofNat (α := Nat) _ < _; omega))) (by decide) ?_
        rw [show s.1 (90 + 40) (lbN P k) = nI (nb (lbN P k)) from (fr_i h2 130 _ rfl).trans (e130 _ ll)]
        refine c_wi (i := k) (by omega) (by rfl) (by rfl) (by rfl) (by first | omega | ((conv => rhs; whnf); first | omega | (show _ < OfNat.ofNat (α := Nat) _; omega))) (by first | omega | ((conv => lhs; whnf); first | omega | (show OfNat.ofNat (α := Nat) _ < _; omega))) ?_
        refine c_let ?_
        rw [nI_suc]
        rw [if_pos pb] at ho
        exact ho
      · have e2 : labV P k = -1 := if_neg pb
        rw [e2]
        refine c_iff (by decide) ?_
        refine c_wi (i := k) (by omega) (by rfl) (by rfl) (by rfl) (by first | omega | ((conv => rhs; whnf); first | omega | (show _ < OfNat.ofNat (α := Nat) _; omega))) (by first | omega | ((conv => lhs; whnf); first | omega | (show OfNat.ofNat (α := Nat) _ < _; omega))) ?_
        refine c_let ?_
        rw [nI_suc]
        rw [if_neg pb] at ho
        exact ho
  · obtain ⟨h1, h2⟩ := hs
    refine ⟨s, ⟨⟨(fr_i h2 90 54 rfl).trans e54, fun k hk => (fr_i h2 121 k rfl).trans (PM k hk), fun k hk => (fr_i h2 122 k rfl).trans (PA k hk), h1⟩, h2⟩, fun oo ho => w_X13_findsParts_2 S _ _ _ _ ?_⟩
    refine c_ift (by decide) ?_
    exact ho
end PB

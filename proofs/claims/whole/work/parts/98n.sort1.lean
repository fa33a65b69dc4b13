/-! ORDER: the class sorts by a key -/
def lk (k : Nat) : Int64 := (nI k).toInt64
theorem lk_t {k : Nat} (h : k < 2147483648) : (lk k).toInt = k := by unfold lk; rw [Int32.toInt_toInt64, nI_toInt h]
theorem lk_add {a b : Nat} (h : a + b < 2147483648) : lk a + lk b = lk (a + b) := Int64.toInt_inj.mp (by
  rw [lk_t h]
  unfold lk
  rw [add64, nI_toInt (by omega), nI_toInt (by omega)]
  omega)
theorem lk_64 {a : Nat} (h : a < 10000000) : lk a * (64 : Int64) = lk (a * 64) := Int64.toInt_inj.mp (by
  rw [lk_t (by omega), Int64.toInt_mul, lk_t (by omega), show (64 : Int64).toInt = 64 from rfl]
  generalize e : (a : Int) * 64 = z
  have : 0 ≤ z ∧ z < 1000000000 := by omega
  have e2 : ((a * 64 : Nat) : Int) = z := by omega
  rw [e2]
  exact Int.bmod_eq_of_le (by omega) (by omega))
theorem nI_dec {p : Nat} (h : 1 ≤ p) (h2 : p < 2147483648) : nI p + (-1) = nI (p - 1) := by
  rw [← zI_n h2, show (-1 : Int32) = zI (-1) from rfl, zI_add, ← zI_n (by omega), show (p : Int) + -1 = ((p - 1 : Nat) : Int) by omega]
/-- an element moved down from r to p -/
def mvI (p r i : Nat) : Nat := if i < p then i else if i = p then r else if i ≤ r then i - 1 else i
theorem mvI_lt {p r i j : Nat} (h : p ≤ r) (hj : i < j) : mvI p r i < mvI p r j ∨ (i = p ∧ mvI p r i = r ∧ p ≤ mvI p r j ∧ mvI p r j < r) := by
  unfold mvI
  (repeat' split) <;> omega
theorem mvI_N {p r i N : Nat} (h : p ≤ r) (hr : r < N) (hi : i < N) : mvI p r i < N := by
  unfold mvI
  (repeat' split) <;> omega
theorem mvI_r {p r i : Nat} (h : p ≤ r) (hi : i ≤ r) : mvI p r i ≤ r ∧ (mvI p r i = r → i = p) := by
  unfold mvI
  (repeat' split) <;> omega
theorem mvI_p {p r i : Nat} (hi : i < p) : mvI p r i = i := if_pos hi
theorem mvI_dec {p r i : Nat} (hp : 0 < p) (h : p ≤ r) (hi : i ≠ p - 1) : mvI (p - 1) r i = if i = p then p - 1 else mvI p r i := by
  unfold mvI
  (repeat' split) <;> omega
section SK
variable {S : xS} {W H n N : Nat} {Key : Nat → Nat}
def soP (a _j : Nat) : Bool := a == 70
theorem eK_R (q : Nat) : eK (147 + 5 * q) = (0, 7) := eK_reg q 0 (by decide)
/-- the inner loop -/
theorem sk_in (hN : N ≤ 256) (hn : N ≤ n) (hK : ∀ q, q < N → Key q < 2147483648) {a : Nat → Nat} (ha : ∀ i, i < N → a i < N) {r : Nat} (hr : r < N) : ∀ (p : Nat) (s : mM), p ≤ r → (∀ i, i < N → i ≠ p → s.2.2 70 i = some (147 + 5 * a (mvI p r i))) → (∀ i, p ≤ i → i < r → Key (a r) < Key (a i)) → (∀ q, q < N → s.2.1 (147 + 5 * q) 8 = lk (Key q)) → ∃ p' s', p' ≤ r ∧ (∀ i, i < N → s'.2.2 70 i = some (147 + 5 * a (mvI p' r i))) ∧ (∀ i, p' ≤ i → i < r → Key (a r) < Key (a i)) ∧ (p' = 0 ∨ Key (a (p' - 1)) ≤ Key (a r)) ∧ fr soP s s' ∧ ∀ {o : xO}, xden S mX1_sortByKey 2 [(0, .ref 64), (1, .int (nI (r + 1)))] [] (E W H n s') = some o → xden S mX1_sortByKey 19 [(0, .ref 64), (1, .int (nI r)), (2, .ref (147 + 5 * a r)), (3, .int (nI p))] [] (E W H n s) = some o := by
  intro p
  have ar := ha r hr
  induction p with
  | zero =>
    intro s hp h1 h2 h3
    refine ⟨0, sR s 70 0 (some (147 + 5 * a r)), hp, fun i hi => ?_, h2, Or.inl rfl, fr_sR fr_rf (by rfl), fun {o} ho => w_X1_sortByKey_19 S _ _ _ _ _ _ ?_⟩
    · by_cases e : i = 0
      · rw [e, sR_eq ⟨rfl, rfl⟩, show mvI 0 r 0 = r by unfold mvI; rw [if_neg (by omega), if_pos rfl]]
      · rw [sR_ne (fun w => e w.2)]
        exact h1 i hi e
    · refine c_ift (by decide) ?_
      refine c_gr (by omega) (by rfl) (by rfl) (by rfl) ?_
      refine c_wr (i := 0) (ci := 7) (by omega) (by rfl) (by decide) (by rfl) (by rfl) (by first | omega | ((conv => rhs; whnf); first | omega | (show _ < OfNat.ofNat (α := Nat) _; omega))) (by first | omega | ((conv => lhs; whnf); first | omega | (show OfNat.ofNat (α := Nat) _ < _; omega))) (by omega) (eK_R _) (by rfl) ?_
      refine c_let ?_
      rw [show (1 : Int32) = nI 1 from rfl, nI_add]
      exact ho
  | succ p ih =>
    intro s hp h1 h2 h3
    have ap := ha p (by omega)
    have e0 : s.2.2 70 p = some (147 + 5 * a p) := by
      have := h1 p (by omega) (by omega)
      rw [mvI_p (by omega)] at this
      exact this
    by_cases c : Key (a p) ≤ Key (a r)
    · refine ⟨p + 1, sR s 70 (p + 1) (some (147 + 5 * a r)), hp, fun i hi => ?_, h2, Or.inr c, fr_sR fr_rf (by rfl), fun {o} ho => w_X1_sortByKey_19 S _ _ _ _ _ _ ?_⟩
      · by_cases e : i = p + 1
        · rw [e, sR_eq ⟨rfl, rfl⟩, show mvI (p + 1) r (p + 1) = r by unfold mvI; rw [if_neg (by omega), if_pos rfl]]
        · rw [sR_ne (fun w => e w.2)]
          exact h1 i hi e
      · refine c_iff (fun w => by have := (nI_leI (b := 0) (by omega) (by omega)).mp w; omega) ?_
        refine c_gr (by omega) (by rfl) (by rfl) (by rfl) ?_
        rw [show (1 : Int32) = nI 1 from rfl, pk_sub (by omega), show p + 1 - 1 = p from rfl]
        refine c_rr (i := p) (by omega) (by rfl) (by decide) (by rfl) (by first | omega | ((conv => rhs; whnf); first | omega | (show _ < OfNat.ofNat (α := Nat) _; omega))) (by first | omega | ((conv => lhs; whnf); first | omega | (show OfNat.ofNat (α := Nat) _ < _; omega))) e0 ?_
        refine c_gl (by omega) (eK_R _) (by rfl) (by rfl) ?_
        refine c_gl (by omega) (eK_R _) (by rfl) (by rfl) ?_
        refine c_ift ((lc_le _ _).mpr (by rw [h3 _ ap, h3 _ ar, lk_t (hK _ ap), lk_t (hK _ ar)]; omega)) ?_
        refine c_gr (by omega) (by rfl) (by rfl) (by rfl) ?_
        refine c_wr (i := p + 1) (ci := 7) (by omega) (by rfl) (by decide) (by rfl) (by rfl) (by first | omega | ((conv => rhs; whnf); first | omega | (show _ < OfNat.ofNat (α := Nat) _; omega))) (by first | omega | ((conv => lhs; whnf); first | omega | (show OfNat.ofNat (α := Nat) _ < _; omega))) (by omega) (eK_R _) (by rfl) ?_
        refine c_let ?_
        rw [nI_add]
        exact ho
    · obtain ⟨p', s', j1, j2, j3, j4, j5, j6⟩ := ih (sR s 70 (p + 1) (some (147 + 5 * a p))) (by omega) (fun i hi e => by
          rw [show mvI p r i = if i = p + 1 then p else mvI (p + 1) r i from mvI_dec (p := p + 1) (by omega) hp e]
          by_cases e2 : i = p + 1
          · rw [e2, sR_eq ⟨rfl, rfl⟩, if_pos rfl]
          · rw [sR_ne (fun w => e2 w.2), if_neg e2]
            exact h1 i hi e2) (fun i q1 q2 => by
          by_cases e : i = p
          · rw [e]; omega
          · exact h2 i (by omega) q2) (fun q hq => by rw [sR_2]; exact h3 q hq)
      refine ⟨p', s', j1, j2, j3, j4, fr_tr (fr_sR fr_rf (by rfl)) j5, fun {o} ho => w_X1_sortByKey_19 S _ _ _ _ _ _ ?_⟩
      refine c_iff (fun w => by have := (nI_leI (b := 0) (by omega) (by omega)).mp w; omega) ?_
      refine c_gr (by omega) (by rfl) (by rfl) (by rfl) ?_
      rw [show (1 : Int32) = nI 1 from rfl, pk_sub (by omega), show p + 1 - 1 = p from rfl]
      refine c_rr (i := p) (by omega) (by rfl) (by decide) (by rfl) (by first | omega | ((conv => rhs; whnf); first | omega | (show _ < OfNat.ofNat (α := Nat) _; omega))) (by first | omega | ((conv => lhs; whnf); first | omega | (show OfNat.ofNat (α := Nat) _ < _; omega))) e0 ?_
      refine c_gl (by omega) (eK_R _) (by rfl) (by rfl) ?_
      refine c_gl (by omega) (eK_R _) (by rfl) (by rfl) ?_
      refine c_iff (fun w => by
        have := (lc_le _ _).mp w
        rw [h3 _ ap, h3 _ ar, lk_t (hK _ ap), lk_t (hK _ ar)] at this
        omega) ?_
      refine c_gr (by omega) (by rfl) (by rfl) (by rfl) ?_
      refine c_gr (by omega) (by rfl) (by rfl) (by rfl) ?_
      refine c_rr (i := p) (by omega) (by rfl) (by decide) (by rfl) (by first | omega | ((conv => rhs; whnf); first | omega | (show _ < OfNat.ofNat (α := Nat) _; omega))) (by first | omega | ((conv => lhs; whnf); first | omega | (show OfNat.ofNat (α := Nat) _ < _; omega))) e0 ?_
      refine c_wr (i := p + 1) (ci := 7) (by omega) (by rfl) (by decide) (by rfl) (by rfl) (by first | omega | ((conv => rhs; whnf); first | omega | (show _ < OfNat.ofNat (α := Nat) _; omega))) (by first | omega | ((conv => lhs; whnf); first | omega | (show OfNat.ofNat (α := Nat) _ < _; omega))) (by omega) (eK_R _) (by rfl) ?_
      refine c_let ?_
      rw [show -nI 1 = (-1 : Int32) from rfl, nI_dec (by omega) (by omega), show p + 1 - 1 = p from rfl]
      exact j6 ho
theorem sortByKey_s (hN : N ≤ 256) (hn : N ≤ n) (hK : ∀ q, q < N → Key q < 2147483648) {m : mM} (e17 : m.1 64 17 = nI N) {q : Nat → Nat} (hq : ∀ i, i < N → q i < N) (hT : ∀ i j, i < j → j < N → Key (q i) = Key (q j) → q i < q j) (eo : ∀ i, i < N → m.2.2 70 i = some (147 + 5 * q i)) (ek : ∀ q, q < N → m.2.1 (147 + 5 * q) 8 = lk (Key q)) : ∃ (q' : Nat → Nat) (m' : mM), xM S mX1_sortByKey [.ref 64] (E W H n m) = some (.inl none, E W H n m', 0, 0) ∧ (∀ i, i < N → q' i < N) ∧ (∀ i, i < N → m'.2.2 70 i = some (147 + 5 * q' i)) ∧ (∀ i j, i < j → j < N → Key (q' i) * 256 + q' i < Key (q' j) * 256 + q' j) ∧ fr soP m m' := by
  have fin : ∀ {s : mM} {a : Nat → Nat}, (∀ i, i < N → a i < N) → (∀ i j, i < j → j < N → Key (a i) = Key (a j) → a i < a j) → (∀ i j, i < j → j < N → Key (a i) ≤ Key (a j)) → ∀ i j, i < j → j < N → Key (a i) * 256 + a i < Key (a j) * 256 + a j := fun {s a} h1 h2 h3 i j hi hj => by
    have a1 := h1 i (by omega)
    have a2 := h1 j hj
    have a3 := h3 i j hi hj
    by_cases e : Key (a i) = Key (a j)
    · have := h2 i j hi hj e
      omega
    · omega
  have L := x_sg (σ := mM) (τ := mM) (D := fun r s => xden S mX1_sortByKey 2 [(0, .ref 64), (1, .int (nI (r + 1)))] [] (E W H n s)) (Inv := fun r s => fr soP m s ∧ ∃ a : Nat → Nat, (∀ i, i < N → a i < N) ∧ (∀ i, i < N → s.2.2 70 i = some (147 + 5 * a i)) ∧ (∀ i j, i < j → j < N → Key (a i) = Key (a j) → a i < a j) ∧ ∀ i j, i < j → j < r + 1 → Key (a i) ≤ Key (a j))
    (F := fun s => some (.inl none, E W H n s, 0, 0)) (Post := fun s => fr soP m s ∧ ∃ a : Nat → Nat, (∀ i, i < N → a i < N) ∧ (∀ i, i < N → s.2.2 70 i = some (147 + 5 * a i)) ∧ (∀ i j, i < j → j < N → Key (a i) = Key (a j) → a i < a j) ∧ ∀ i j, i < j → j < N → Key (a i) ≤ Key (a j)) (N - 1) (fun r hr s hs => ?_) (fun s hs => ?_) m ⟨fr_rf, q, hq, eo, hT, fun i j h1 h2 => by omega⟩
  · obtain ⟨m', ⟨g1, a, g2, g3, g4, g5⟩, g6⟩ := L
    exact ⟨a, m', w_X1_sortByKey S _ _ _ (g6 _ rfl), g2, g3, fin (s := m') g2 g4 g5, g1⟩
  · left
    obtain ⟨h1, a, h2, h3, h4, h5⟩ := hs
    obtain ⟨p', s', j1, j2, j3, j4, j5, j6⟩ := sk_in (S := S) (W := W) (H := H) (n := n) hN hn hK h2 (r := r + 1) (by omega) (r + 1) s (Nat.le_refl _) (fun i hi e => by
      have e2 : mvI (r + 1) (r + 1) i = i := by
        unfold mvI
        (repeat' split) <;> omega
      rw [e2]
      exact h3 i hi) (fun i q1 q2 => by omega) (fun q hq => by rw [fr_l h1 _ _ (by unfold soP; rw [beq_eq_false_iff_ne]; omega)]; exact ek q hq)
    refine ⟨s', ⟨fr_tr h1 j5, fun i => a (mvI p' (r + 1) i), fun i hi => h2 _ (mvI_N j1 (by omega) hi), j2, fun i j q1 q2 e => ?_, fun i j q1 q2 => ?_⟩, fun o ho => w_X1_sortByKey_2 S _ _ _ _ ?_⟩
    · rcases mvI_lt j1 q1 with w | ⟨w1, w2, w3, w4⟩
      · exact h4 _ _ w (mvI_N j1 (by omega) q2) e
      · have := j3 _ w3 w4
        have e' : Key (a (mvI p' (r + 1) i)) = Key (a (mvI p' (r + 1) j)) := e
        rw [w2] at e'
        omega
    · rcases mvI_lt j1 q1 with w | ⟨w1, w2, w3, w4⟩
      · obtain ⟨v1, v2⟩ := mvI_r (p := p') (r := r + 1) (i := j) j1 (by omega)
        rcases Nat.lt_or_eq_of_le v1 with v | v
        · exact h5 _ _ w v
        · have ej := v2 v
          show Key (a (mvI p' (r + 1) i)) ≤ Key (a (mvI p' (r + 1) j))
          rw [v, mvI_p (by omega)]
          rcases j4 with z | z
          · omega
          · rcases Nat.lt_or_eq_of_le (show i ≤ p' - 1 by omega) with u | u
            · exact Nat.le_trans (h5 i (p' - 1) u (by omega)) z
            · rw [u]; exact z
      · have := j3 _ w3 w4
        show Key (a (mvI p' (r + 1) i)) ≤ Key (a (mvI p' (r + 1) j))
        rw [w2]
        omega
    · refine c_gi (by omega) (by rfl) (by rfl) (by rfl) ?_
      rw [fr_i h1 64 17 rfl, e17]
      refine c_iff (fun w => by have := (nI_leI (by omega) (by omega)).mp w; omega) ?_
      refine c_gr (by omega) (by rfl) (by rfl) (by rfl) ?_
      refine c_rr (i := r + 1) (by omega) (by rfl) (by decide) (by rfl) (by first | omega | ((conv => rhs; whnf); first | omega | (show _ < OfNat.ofNat (α := Nat) _; omega))) (by first | omega | ((conv => lhs; whnf); first | omega | (show OfNat.ofNat (α := Nat) _ < _; omega))) (h3 (r + 1) (by omega)) ?_
      exact j6 ho
  · obtain ⟨h1, a, h2, h3, h4, h5⟩ := hs
    refine ⟨s, ⟨h1, a, h2, h3, h4, fun i j q1 q2 => h5 i j q1 (by omega)⟩, fun o ho => w_X1_sortByKey_2 S _ _ _ _ ?_⟩
    refine c_gi (by omega) (by rfl) (by rfl) (by rfl) ?_
    rw [fr_i h1 64 17 rfl, e17]
    refine c_ift ((nI_leI (by omega) (by omega)).mpr (by omega)) ?_
    exact ho
end SK

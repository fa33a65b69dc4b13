/-! PAIRS: the model pairs parts -/
theorem first_is {p : Nat → Bool} {n i : Nat} (hi : i < n) (no : ∀ k, k < i → p k = false) (y : p i = true) : fa_first p n = i := by
  have le := fa_first_le p n
  rcases Nat.lt_trichotomy (fa_first p n) i with q | q | q
  · have := fa_first_yes p n (by omega)
    rw [no _ q] at this
    cases this
  · exact q
  · have := fa_first_no p n i q
    rw [y] at this
    cases this
theorem first_out {p : Nat → Bool} {n : Nat} (no : ∀ k, k < n → p k = false) : fa_first p n = n := by
  have le := fa_first_le p n
  rcases Nat.lt_or_ge (fa_first p n) n with q | q
  · have := fa_first_yes p n q
    rw [no _ q] at this
    cases this
  · omega
def alP (PF : Nat → Nat → Int64) (i j : Nat) : Prop := ctP (PF (2 * j + 1)) = ctP (PF (2 * i)) ∧ sameS (PF (2 * j + 1)) (PF (2 * i))
noncomputable def prJ (PF : Nat → Nat → Int64) (N : Nat) (tk : Nat → Bool) (i : Nat) : Nat := fa_first (fun j => !tk j && pB (alP PF i j)) N
/-- who is paired with whom, when the first are done -/
noncomputable def prL (PF : Nat → Nat → Int64) (N lst : Nat) : Nat → (Nat → Bool) × (Nat → Option Nat)
  | 0 => (fun _ => false, fun _ => none)
  | i + 1 => if lst ≤ ctP (PF (2 * i)) ∧ prJ PF N (prL PF N lst i).1 i < N then (fun j => if j = prJ PF N (prL PF N lst i).1 i then true else (prL PF N lst i).1 j, fun i' => if i' = i then some (prJ PF N (prL PF N lst i).1 i) else (prL PF N lst i).2 i') else prL PF N lst i
def pvI (o : Option Nat) : Int32 := match o with
  | none => -1
  | some j => nI (2 * j + 1)
/-- what the memory holds of all parts -/
def ptK (m : mM) (N : Nat) (PF : Nat → Nat → Int64) : Prop := ∀ p, p < 2 * N → m.1 135 p = nI (ctP (PF p)) ∧ (ctP (PF p) ≠ 0 → ptB m p (PF p))
def prPm (a _j : Nat) : Bool := a == 140 || a == 144
theorem ptK_fr {m m' : mM} {N : Nat} {PF : Nat → Nat → Int64} {K : Nat → Nat → Bool} (X : ptK m N PF) (Q : fr K m m') (h : ∀ a j, 135 ≤ a → a ≤ 139 → K a j = false) : ptK m' N PF := fun p hp => ⟨(fr_i Q _ _ (h _ _ (by decide) (by decide))).trans (X p hp).1, fun ne => ptB_fr ((X p hp).2 ne) (fun a h1 h2 => fr_i Q _ _ (h _ _ (by omega) h2))⟩
theorem prL_none {PF : Nat → Nat → Int64} {N lst : Nat} : ∀ i i', i ≤ i' → (prL PF N lst i).2 i' = none := fun i => by
  induction i with
  | zero => exact fun i' _ => rfl
  | succ i ih =>
    intro i' h
    unfold prL
    split
    · show (if i' = i then _ else _) = none
      rw [if_neg (by omega)]
      exact ih i' (by omega)
    · exact ih i' (by omega)
theorem prL_lt {PF : Nat → Nat → Int64} {N lst : Nat} : ∀ i i' j, (prL PF N lst i).2 i' = some j → j < N ∧ ctP (PF (2 * j + 1)) = ctP (PF (2 * i')) ∧ sameS (PF (2 * j + 1)) (PF (2 * i')) ∧ lst ≤ ctP (PF (2 * i')) := fun i => by
  induction i with
  | zero => intro i' j h; cases h
  | succ i ih =>
    intro i' j h
    unfold prL at h
    split at h
    · rename_i c
      have h' : (if i' = i then some (prJ PF N (prL PF N lst i).1 i) else (prL PF N lst i).2 i') = some j := h
      by_cases e : i' = i
      · rw [if_pos e] at h'
        cases h'
        have y := fa_first_yes (fun j => !(prL PF N lst i).1 j && pB (alP PF i j)) N c.2
        rw [Bool.and_eq_true, pB_iff] at y
        rw [e]
        exact ⟨c.2, y.2.1, y.2.2, c.1⟩
      · rw [if_neg e] at h'
        exact ih i' j h'
    · exact ih i' j h
section PR
variable {S : xS} {W H n N : Nat} {m : mM} {B : Nat} {P : Nat → Bool} {Ms Ad : Nat → Int64} {o nb : Nat → Nat}
theorem pairs_s (hW8 : 8 ≤ W) (hW : W ≤ 64) (hH8 : 8 ≤ H) (hH : H ≤ 64) (hB : 4 ≤ B) (hB2 : B ≤ 16) (oM : okP W H Ms) (oA : okP W H Ad) (hN : N = nS ba P 256) (ho : ∀ i, i < N → nb (o i) = i) (hnb : ∀ q, q < N → nb q < N ∧ o (nb q) = q) (X : ofI m B P Ms Ad nb) (K : ptK m N (PFm W H Ms Ad P B o)) (e59 : m.1 90 59 = nI N) {lst : Nat} (l1 : 1 ≤ lst) (l2 : lst ≤ 99) (e8 : m.1 98 8 = nI lst) (e140 : ∀ p, p < 2 * N → m.1 140 p = 0) : ∃ m', xM S mX13_pairs [.ref 90] (E W H n m) = some (.inl none, E W H n m', 0, 0) ∧ (∀ i, i < N → m'.1 144 (2 * i) = pvI ((prL (PFm W H Ms Ad P B o) N lst N).2 i)) ∧ (∀ j, j < N → m'.1 140 (2 * j + 1) = bz ((prL (PFm W H Ms Ad P B o) N lst N).1 j)) ∧ fr prPm m m' := by
  have N256 : N ≤ 256 := by rw [hN]; exact nS_256 P
  have alike : ∀ {s : mM}, fr prPm m s → ∀ {p q : Nat}, p < 2 * N → q < 2 * N → ctP (PFm W H Ms Ad P B o p) ≠ 0 → ctP (PFm W H Ms Ad P B o q) ≠ 0 → xM S mX13_areAlike [.ref 90, .int (nI p), .int (nI q)] (E W H n s) = some (.inl (some (.int (bz (pB (ctP (PFm W H Ms Ad P B o p) = ctP (PFm W H Ms Ad P B o q) ∧ sameS (PFm W H Ms Ad P B o p) (PFm W H Ms Ad P B o q)))))), E W H n s, 0, 0) := fun {s} Q {p q} hp hq np nq => by
    have K' := ptK_fr K Q (fun a j h1 h2 => by unfold prPm; rw [beq_eq_false_iff_ne.mpr (by omega), beq_eq_false_iff_ne.mpr (by omega)]; rfl)
    exact areAlike_s hW8 hW hH8 hH hB hB2 oM oA hN ho hnb (ofI_fr X Q (fun a j h => by unfold prPm; rw [beq_eq_false_iff_ne.mpr (by omega), beq_eq_false_iff_ne.mpr (by omega)]; rfl)) hp hq ((K' p hp).2 np) ((K' q hq).2 nq) (K' p hp).1 (K' q hq).1
  generalize ePF : PFm W H Ms Ad P B o = PF at *
  have L := x_sg (σ := mM) (τ := mM) (D := fun i s => xden S mX13_pairs 2 [(0, .ref 90), (1, .int (nI (2 * i)))] [] (E W H n s)) (Inv := fun i s => fr prPm m s ∧ (∀ i', i' < i → s.1 144 (2 * i') = pvI ((prL PF N lst i).2 i')) ∧ ∀ j, j < N → s.1 140 (2 * j + 1) = bz ((prL PF N lst i).1 j))
    (F := fun s => some (.inl none, E W H n s, 0, 0)) (Post := fun s => fr prPm m s ∧ (∀ i', i' < N → s.1 144 (2 * i') = pvI ((prL PF N lst N).2 i')) ∧ ∀ j, j < N → s.1 140 (2 * j + 1) = bz ((prL PF N lst N).1 j)) N (fun i hi s hs => ?_) (fun s hs => ?_) m ⟨fr_rf, fun i' h => absurd h (Nat.not_lt_zero i'), fun j hj => e140 _ (by omega)⟩
  · obtain ⟨m', ⟨g1, g2, g3⟩, g4⟩ := L
    exact ⟨m', w_X13_pairs S _ _ _ (g4 _ rfl), g2, g3, g1⟩
  · left
    obtain ⟨h1, h2, h3⟩ := hs
    have cti := ctP_le (PF (2 * i))
    have Q1 : fr prPm m (sI s 144 (2 * i) (-1)) := fr_sI h1 (by rfl)
    have kp := K (2 * i) (by omega)
    have start : ∀ {oo : xO}, xden S mX13_pairs 21 [(0, .ref 90), (1, .int (nI (2 * i))), (2, .int (nI (2 * 0 + 1)))] [] (E W H n (sI s 144 (2 * i) (-1))) = some oo → xden S mX13_pairs 2 [(0, .ref 90), (1, .int (nI (2 * i)))] [] (E W H n s) = some oo := fun {oo} ho => by
      refine w_X13_pairs_2 S _ _ _ _ ?_
      refine c_gi (by omega) (by rfl) (by rfl) (by rfl) ?_
      rw [fr_i h1 90 59 rfl, e59, show (2 : Int32) * nI N = nI (2 * N) from pk_mul 2 N]
      refine c_iff (fun w => by have := (nI_leI (by omega) (by omega)).mp w; omega) ?_
      refine c_gr (by omega) (by rfl) (by rfl) (by rfl) ?_
      refine c_wi (i := 2 * i) (by omega) (by rfl) (by rfl) (by rfl) (by first | omega | ((conv => rhs; whnf); first | omega | (show _ < OfNat.ofNat (α := Nat) _; omega))) (by first | omega | ((conv => lhs; whnf); first | omega | (show OfNat.ofNat (α := Nat) _ < _; omega))) ?_
      exact ho
    have e2i : nI (2 * i) + (2 : Int32) = nI (2 * (i + 1)) := by rw [show (2 : Int32) = nI 2 from rfl, nI_add]; rfl
    -- one place of the inner loop
    have row : ∀ {j : Nat}, j < N → ∀ {oo : xO}, (ctP (PF (2 * i)) < lst → xden S mX13_pairs 2 [(0, .ref 90), (1, .int (nI (2 * (i + 1))))] [] (E W H n (sI s 144 (2 * i) (-1))) = some oo) → (lst ≤ ctP (PF (2 * i)) → ((prL PF N lst i).1 j = true ∨ ¬ alP PF i j) → xden S mX13_pairs 21 [(0, .ref 90), (1, .int (nI (2 * i))), (2, .int (nI (2 * (j + 1) + 1)))] [] (E W H n (sI s 144 (2 * i) (-1))) = some oo) → (lst ≤ ctP (PF (2 * i)) → (prL PF N lst i).1 j = false → alP PF i j → xden S mX13_pairs 21 [(0, .ref 90), (1, .int (nI (2 * i))), (2, .int (nI (2 * (j + 1) + 1)))] [] (E W H n (sI (sI (sI s 144 (2 * i) (-1)) 144 (2 * i) (nI (2 * j + 1))) 140 (2 * j + 1) 1)) = some oo) → xden S mX13_pairs 21 [(0, .ref 90), (1, .int (nI (2 * i))), (2, .int (nI (2 * j + 1)))] [] (E W H n (sI s 144 (2 * i) (-1))) = some oo := fun {j} hj {oo} q1 q2 q3 => by
      have kq := K (2 * j + 1) (by omega)
      have ctj := ctP_le (PF (2 * j + 1))
      have e2j : nI (2 * j + 1) + (2 : Int32) = nI (2 * (j + 1) + 1) := by rw [show (2 : Int32) = nI 2 from rfl, nI_add]; rfl
      refine w_X13_pairs_21 S _ _ _ _ _ ?_
      refine c_gi (by omega) (by rfl) (by rfl) (by rfl) ?_
      rw [fr_i Q1 90 59 rfl, e59, show (2 : Int32) * nI N = nI (2 * N) from pk_mul 2 N]
      refine c_iff (fun w => by have := (nI_leI (by omega) (by omega)).mp w; omega) ?_
      refine c_gr (by omega) (by rfl) (by rfl) (by rfl) ?_
      refine c_ri (i := 2 * i) (by omega) (by rfl) (by rfl) (by rfl) (by first | omega | ((conv => rhs; whnf); first | omega | (show _ < OfNat.ofNat (α := Nat) _; omega))) (by first | omega | ((conv => lhs; whnf); first | omega | (show OfNat.ofNat (α := Nat) _ < _; omega))) (by decide) ?_
      rw [show (sI s 144 (2 * i) (-1)).1 (90 + 54) (2 * i) = -1 from sI_eq ⟨rfl, rfl⟩]
      refine c_iff (by decide) ?_
      refine c_gr (by omega) (by rfl) (by rfl) (by rfl) ?_
      refine c_ri (i := 2 * i) (by omega) (by rfl) (by rfl) (by rfl) (by first | omega | ((conv => rhs; whnf); first | omega | (show _ < OfNat.ofNat (α := Nat) _; omega))) (by first | omega | ((conv => lhs; whnf); first | omega | (show OfNat.ofNat (α := Nat) _ < _; omega))) (by decide) ?_
      rw [show (sI s 144 (2 * i) (-1)).1 (90 + 45) (2 * i) = nI (ctP (PF (2 * i))) from (fr_i Q1 135 _ rfl).trans kp.1]
      rw [e2i]
      by_cases c0 : ctP (PF (2 * i)) = 0
      · refine c_ift ((nI_leI (b := 0) (by omega) (by omega)).mpr (by omega)) ?_
        exact c_let (q1 (by omega))
      · refine c_iff (fun w => by have := (nI_leI (b := 0) (by omega) (by omega)).mp w; omega) ?_
        refine c_gr (by omega) (by rfl) (by rfl) (by rfl) ?_
        refine c_ri (i := 2 * i) (by omega) (by rfl) (by rfl) (by rfl) (by first | omega | ((conv => rhs; whnf); first | omega | (show _ < OfNat.ofNat (α := Nat) _; omega))) (by first | omega | ((conv => lhs; whnf); first | omega | (show OfNat.ofNat (α := Nat) _ < _; omega))) (by decide) ?_
        rw [show (sI s 144 (2 * i) (-1)).1 (90 + 45) (2 * i) = nI (ctP (PF (2 * i))) from (fr_i Q1 135 _ rfl).trans kp.1]
        refine c_gr (by omega) (by rfl) (by rfl) (by rfl) ?_
        refine c_ri (i := 8) (by omega) (by rfl) (by rfl) (by rfl) (by first | omega | ((conv => rhs; whnf); first | omega | (show _ < OfNat.ofNat (α := Nat) _; omega))) (by first | omega | ((conv => lhs; whnf); first | omega | (show OfNat.ofNat (α := Nat) _ < _; omega))) (by decide) ?_
        rw [show (sI s 144 (2 * i) (-1)).1 (90 + 8) 8 = nI lst from (fr_i Q1 98 _ rfl).trans e8]
        by_cases c1 : ctP (PF (2 * i)) < lst
        · refine c_ift ((nI_ltI (by omega) (by omega)).mpr c1) ?_
          exact c_let (q1 c1)
        · refine c_iff (fun w => c1 ((nI_ltI (by omega) (by omega)).mp w)) ?_
          refine c_gr (by omega) (by rfl) (by rfl) (by rfl) ?_
          refine c_ri (i := 2 * j + 1) (by omega) (by rfl) (by rfl) (by rfl) (by first | omega | ((conv => rhs; whnf); first | omega | (show _ < OfNat.ofNat (α := Nat) _; omega))) (by first | omega | ((conv => lhs; whnf); first | omega | (show OfNat.ofNat (α := Nat) _ < _; omega))) (by decide) ?_
          rw [show (sI s 144 (2 * i) (-1)).1 (90 + 50) (2 * j + 1) = bz ((prL PF N lst i).1 j) from (sI_ne (by omega)).trans (h3 j hj), e2j]
          cases ht : (prL PF N lst i).1 j
          · refine c_iff (fun w => w (by decide)) ?_
            refine c_gr (by omega) (by rfl) (by rfl) (by rfl) ?_
            refine c_ri (i := 2 * j + 1) (by omega) (by rfl) (by rfl) (by rfl) (by first | omega | ((conv => rhs; whnf); first | omega | (show _ < OfNat.ofNat (α := Nat) _; omega))) (by first | omega | ((conv => lhs; whnf); first | omega | (show OfNat.ofNat (α := Nat) _ < _; omega))) (by decide) ?_
            rw [show (sI s 144 (2 * i) (-1)).1 (90 + 45) (2 * j + 1) = nI (ctP (PF (2 * j + 1))) from (fr_i Q1 135 _ rfl).trans kq.1]
            by_cases c2 : ctP (PF (2 * j + 1)) = 0
            · refine c_ift ((nI_leI (b := 0) (by omega) (by omega)).mpr (by omega)) ?_
              exact c_let (q2 (by omega) (Or.inr (fun w => by have := w.1; omega)))
            · refine c_iff (fun w => by have := (nI_leI (b := 0) (by omega) (by omega)).mp w; omega) ?_
              refine c_ob (by omega) (by rfl) ?_
              refine c_qI (alike Q1 (by omega) (by omega) c0 c2) ?_
              have sy : (ctP (PF (2 * i)) = ctP (PF (2 * j + 1)) ∧ sameS (PF (2 * i)) (PF (2 * j + 1))) ↔ alP PF i j := ⟨fun w => ⟨w.1.symm, w.2.1.symm, w.2.2.1.symm, fun k hk => (w.2.2.2 k hk).symm⟩, fun w => ⟨w.1.symm, w.2.1.symm, w.2.2.1.symm, fun k hk => (w.2.2.2 k hk).symm⟩⟩
              rw [pB_cong sy]
              by_cases y : alP PF i j
              · rw [pB_iff.mpr y]
                refine c_iff (by decide) ?_
                refine c_gr (by omega) (by rfl) (by rfl) (by rfl) ?_
                refine c_wi (i := 2 * i) (by omega) (by rfl) (by rfl) (by rfl) (by first | omega | ((conv => rhs; whnf); first | omega | (show _ < OfNat.ofNat (α := Nat) _; omega))) (by first | omega | ((conv => lhs; whnf); first | omega | (show OfNat.ofNat (α := Nat) _ < _; omega))) ?_
                refine c_gr (by omega) (by rfl) (by rfl) (by rfl) ?_
                refine c_wz (i := 2 * j + 1) (by omega) (by rfl) (by rfl) (by rfl) (by first | omega | ((conv => rhs; whnf); first | omega | (show _ < OfNat.ofNat (α := Nat) _; omega))) (by first | omega | ((conv => lhs; whnf); first | omega | (show OfNat.ofNat (α := Nat) _ < _; omega))) (Or.inr rfl) ?_
                exact c_let (q3 (by omega) ht y)
              · rw [pB_no.mpr y]
                refine c_ift (by decide) ?_
                exact c_let (q2 (by omega) (Or.inr y))
          · refine c_ift (by decide) ?_
            exact c_let (q2 (by omega) (Or.inl ht))
    by_cases c : lst ≤ ctP (PF (2 * i))
    · have L := x_sg (σ := Unit) (τ := mM) (D := fun j _ => xden S mX13_pairs 21 [(0, .ref 90), (1, .int (nI (2 * i))), (2, .int (nI (2 * j + 1)))] [] (E W H n (sI s 144 (2 * i) (-1)))) (Inv := fun j _ => ∀ j', j' < j → (!(prL PF N lst i).1 j' && pB (alP PF i j')) = false)
        (F := fun s' => xden S mX13_pairs 2 [(0, .ref 90), (1, .int (nI (2 * (i + 1))))] [] (E W H n s')) (Post := fun s' => fr prPm m s' ∧ (∀ i', i' < i + 1 → s'.1 144 (2 * i') = pvI ((prL PF N lst (i + 1)).2 i')) ∧ ∀ j, j < N → s'.1 140 (2 * j + 1) = bz ((prL PF N lst (i + 1)).1 j)) N (fun j hj _ hs => ?_) (fun _ hs => ?_) () (fun j' h => absurd h (Nat.not_lt_zero j'))
      · obtain ⟨s', g1, g2⟩ := L
        exact ⟨s', g1, fun oo ho => start (g2 _ ho)⟩
      · by_cases hit : (prL PF N lst i).1 j = false ∧ alP PF i j
        · right
          obtain ⟨t1, t2⟩ := hit
          have ej : prJ PF N (prL PF N lst i).1 i = j := first_is hj hs (by rw [t1, pB_iff.mpr t2]; rfl)
          have Q2 : fr prPm m (sI (sI (sI s 144 (2 * i) (-1)) 144 (2 * i) (nI (2 * j + 1))) 140 (2 * j + 1) 1) := fr_sI (fr_sI Q1 (by rfl)) (by rfl)
          have ep : prL PF N lst (i + 1) = (fun j' => if j' = j then true else (prL PF N lst i).1 j', fun i' => if i' = i then some j else (prL PF N lst i).2 i') := by
            rw [← ej]
            exact if_pos ⟨c, by rw [ej]; exact hj⟩
          refine ⟨sI (sI (sI s 144 (2 * i) (-1)) 144 (2 * i) (nI (2 * j + 1))) 140 (2 * j + 1) 1, ⟨Q2, fun i' hi' => ?_, fun j' hj' => ?_⟩, fun oo ho => row hj (fun w => by omega) (fun _ w => ?_) (fun _ _ _ => ?_)⟩
          · rw [ep]
            show _ = pvI (if i' = i then some j else (prL PF N lst i).2 i')
            rw [sI_ne (by omega)]
            by_cases e : i' = i
            · rw [e, sI_eq ⟨rfl, rfl⟩, if_pos rfl]
              rfl
            · rw [if_neg e, sI_ne (by omega), sI_ne (by omega)]
              exact h2 i' (by omega)
          · rw [ep]
            show _ = bz (if j' = j then true else (prL PF N lst i).1 j')
            by_cases e : j' = j
            · rw [e, sI_eq ⟨rfl, rfl⟩, if_pos rfl]
              rfl
            · rw [if_neg e, sI_ne (by omega), sI_ne (by omega), sI_ne (by omega)]
              exact h3 j' hj'
          · rcases w with w | w
            · rw [t1] at w; cases w
            · exact absurd t2 w
          · -- the loop ends
            refine w_X13_pairs_21 S _ _ _ _ _ ?_
            refine c_gi (by omega) (by rfl) (by rfl) (by rfl) ?_
            rw [fr_i Q2 90 59 rfl, e59, show (2 : Int32) * nI N = nI (2 * N) from pk_mul 2 N, e2i]
            by_cases c3 : 2 * N ≤ 2 * (j + 1) + 1
            · refine c_ift ((nI_leI (by omega) (by omega)).mpr c3) ?_
              exact c_let ho
            · refine c_iff (fun w => c3 ((nI_leI (by omega) (by omega)).mp w)) ?_
              refine c_gr (by omega) (by rfl) (by rfl) (by rfl) ?_
              refine c_ri (i := 2 * i) (by omega) (by rfl) (by rfl) (by rfl) (by first | omega | ((conv => rhs; whnf); first | omega | (show _ < OfNat.ofNat (α := Nat) _; omega))) (by first | omega | ((conv => lhs; whnf); first | omega | (show OfNat.ofNat (α := Nat) _ < _; omega))) (by decide) ?_
              rw [sI_ne (by omega), show (sI (sI s 144 (2 * i) (-1)) 144 (2 * i) (nI (2 * j + 1))).1 (90 + 54) (2 * i) = nI (2 * j + 1) from sI_eq ⟨rfl, rfl⟩]
              refine c_ift (show (0 : Int32) ≤ nI (2 * j + 1) from (nI_leI (a := 0) (by omega) (by omega)).mpr (Nat.zero_le _)) ?_
              exact c_let ho
        · left
          have f : (!(prL PF N lst i).1 j && pB (alP PF i j)) = false := by
            cases ht : (prL PF N lst i).1 j
            · rw [pB_no.mpr (fun w => hit ⟨ht, w⟩)]; rfl
            · rfl
          refine ⟨(), fun j' hj' => ?_, fun oo ho => row hj (fun w => by omega) (fun _ _ => ho) (fun _ w1 w2 => absurd ⟨w1, w2⟩ hit)⟩
          by_cases e : j' = j
          · rw [e]; exact f
          · exact hs j' (by omega)
      · have ej : prJ PF N (prL PF N lst i).1 i = N := first_out hs
        have ep : prL PF N lst (i + 1) = prL PF N lst i := if_neg (fun w => by have := w.2; omega)
        refine ⟨sI s 144 (2 * i) (-1), ⟨Q1, fun i' hi' => ?_, fun j hj => ?_⟩, fun oo ho => w_X13_pairs_21 S _ _ _ _ _ ?_⟩
        · rw [ep]
          by_cases e : i' = i
          · rw [e, sI_eq ⟨rfl, rfl⟩, prL_none i i (Nat.le_refl _)]
            rfl
          · rw [sI_ne (by omega)]
            exact h2 i' (by omega)
        · rw [ep, sI_ne (by omega)]
          exact h3 j hj
        · refine c_gi (by omega) (by rfl) (by rfl) (by rfl) ?_
          rw [fr_i Q1 90 59 rfl, e59, show (2 : Int32) * nI N = nI (2 * N) from pk_mul 2 N, e2i]
          refine c_ift ((nI_leI (by omega) (by omega)).mpr (by omega)) ?_
          exact c_let ho
    · have ep : prL PF N lst (i + 1) = prL PF N lst i := if_neg (fun w => c w.1)
      refine ⟨sI s 144 (2 * i) (-1), ⟨Q1, fun i' hi' => ?_, fun j hj => ?_⟩, fun oo ho => start (row (j := 0) (by omega) (fun _ => ho) (fun w => absurd w c) (fun w => absurd w c))⟩
      · rw [ep]
        by_cases e : i' = i
        · rw [e, sI_eq ⟨rfl, rfl⟩, prL_none i i (Nat.le_refl _)]
          rfl
        · rw [sI_ne (by omega)]
          exact h2 i' (by omega)
      · rw [ep, sI_ne (by omega)]
        exact h3 j hj
  · refine ⟨s, hs, fun oo ho => w_X13_pairs_2 S _ _ _ _ ?_⟩
    refine c_gi (by omega) (by rfl) (by rfl) (by rfl) ?_
    rw [fr_i hs.1 90 59 rfl, e59, show (2 : Int32) * nI N = nI (2 * N) from pk_mul 2 N]
    refine c_ift ((nI_leI (by omega) (by omega)).mpr (Nat.le_refl _)) ?_
    exact ho
end PR

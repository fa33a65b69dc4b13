/-! PAIRS: the class pairs parts -/
def cpP (a j : Nat) : Bool := (decide (147 ≤ a) && ((a - 147) % 5 == 1 || (a - 147) % 5 == 3)) && j == 8
theorem cpP_y (q : Nat) : cpP (147 + 5 * q + 1) 8 = true ∧ cpP (147 + 5 * q + 3) 8 = true := by
  unfold cpP
  constructor
  · rw [decide_eq_true (by omega), show (147 + 5 * q + 1 - 147) % 5 = 1 by omega]; rfl
  · rw [decide_eq_true (by omega), show (147 + 5 * q + 3 - 147) % 5 = 3 by omega]; rfl
theorem cpP_lo {a j : Nat} (h : a < 147) : cpP a j = false := by unfold cpP; rw [decide_eq_false (by omega)]; rfl
theorem cpP_j {a j : Nat} (h : j ≠ 8) : cpP a j = false := by unfold cpP; rw [beq_eq_false_iff_ne.mpr h, Bool.and_false]
theorem cpP_m {a j : Nat} (h : (a - 147) % 5 ≠ 1) (h2 : (a - 147) % 5 ≠ 3) : cpP a j = false := by unfold cpP; rw [beq_eq_false_iff_ne.mpr h, beq_eq_false_iff_ne.mpr h2, Bool.or_false, Bool.and_false]; rfl
theorem ptA_rg {q n : Nat} (h : q < n) : ptA (147 + 5 * q + 1) n ∧ ptA (147 + 5 * q + 3) n := ⟨⟨eK_reg q 1 (by decide), eK_reg q 2 (by decide), by omega⟩, ⟨eK_reg q 3 (by decide), eK_reg q 4 (by decide), by omega⟩⟩
/-- the regions in their order, with their parts -/
def rgO (m : mM) (N : Nat) (o : Nat → Nat) (PF : Nat → Nat → Int64) : Prop := ∀ i, i < N → m.2.2 70 i = some (147 + 5 * o i) ∧ ptX m (147 + 5 * o i + 1) (PF (2 * i)) ∧ ptX m (147 + 5 * o i + 3) (PF (2 * i + 1))
theorem rgO_fr {m m' : mM} {N : Nat} {o : Nat → Nat} {PF : Nat → Nat → Int64} (X : rgO m N o PF) (Q : fr cpP m m') : rgO m' N o PF := fun i hi => by
  obtain ⟨h1, h2, h3⟩ := X i hi
  exact ⟨(fr_r Q _ _ (cpP_lo (by decide))).trans h1, ptX_fr h2 Q (fun j _ _ => cpP_j (by omega)) (fun j => cpP_m (by omega) (by omega)), ptX_fr h3 Q (fun j _ _ => cpP_j (by omega)) (fun j => cpP_m (by omega) (by omega))⟩
/-- who is paired, in the memory -/
def paI (s : mM) (N : Nat) (o : Nat → Nat) (L : (Nat → Bool) × (Nat → Option Nat)) : Prop := (∀ i, i < N → s.2.2 (147 + 5 * o i + 1) 8 = (L.2 i).map (fun j => 147 + 5 * o j + 3)) ∧ ∀ j, j < N → (s.2.2 (147 + 5 * o j + 3) 8).isSome = L.1 j
section PC
variable {S : xS} {W H n N : Nat} {m : mM} {o : Nat → Nat} {PF : Nat → Nat → Int64}
theorem pair_s (hN : N ≤ 256) (hn : N ≤ n) (ho : ∀ i, i < N → o i < N) (oi : ∀ i j, i < N → j < N → o i = o j → i = j) (X : rgO m N o PF) (e17 : m.1 64 17 = nI N) {lst : Nat} (l1 : 1 ≤ lst) {s : mM} (Q : fr cpP m s) {i : Nat} (hi : i < N) (J : paI s N o (prL PF N lst i)) (c : lst ≤ ctP (PF (2 * i))) : ∃ s', xM S mX1_pair [.ref 64, .ref (147 + 5 * o i + 1)] (E W H n s) = some (.inl none, E W H n s', 0, 0) ∧ paI s' N o (prL PF N lst (i + 1)) ∧ fr cpP m s' := by
  obtain ⟨h2, h3⟩ := J
  have X' := rgO_fr X Q
  obtain ⟨xi1, xi2, xi3⟩ := X' i hi
  have oI := ho i hi
  have IR := (ptA_rg (q := o i) (n := n) (by omega)).1
  obtain ⟨Yi, li, ti, ri, bi, g1, g2, g3, _, _⟩ := ptX_psh xi2 (by omega)
  obtain ⟨a1, a2, a3, a4, a5, a6⟩ := box_wh g1 g2 g3
  have cti := ctP_le (PF (2 * i))
  have L := x_sg (σ := Unit) (τ := mM) (D := fun j _ => xden S mX1_pair 2 [(0, .ref 64), (1, .ref (147 + 5 * o i + 1)), (2, .int (nI j))] [] (E W H n s)) (Inv := fun j _ => ∀ j', j' < j → (!(prL PF N lst i).1 j' && pB (alP PF i j')) = false)
    (F := fun s' => some (.inl none, E W H n s', 0, 0)) (Post := fun s' => paI s' N o (prL PF N lst (i + 1)) ∧ fr cpP m s') N (fun j hj _ hs => ?_) (fun _ hs => ?_) () (fun j' h => absurd h (Nat.not_lt_zero j'))
  · obtain ⟨s', g1, g2⟩ := L
    exact ⟨s', w_X1_pair S _ _ _ _ (g2 _ rfl), g1⟩
  · obtain ⟨xj1, xj2, xj3⟩ := X' j hj
    have oJ := ho j hj
    have IA := (ptA_rg (q := o j) (n := n) (by omega)).2
    have kA : eK (147 + 5 * o j + 3) = (0, 5) := IA.1
    -- what the two shapes give
    have hsh : xM S mX5_hasShapeOf [.ref (147 + 5 * o j + 3), .ref (147 + 5 * o i + 1)] (E W H n s) = some (.inl (some (.int (bz (pB (alP PF i j))))), E W H n s, 0, 0) := by
      by_cases e : ctP (PF (2 * j + 1)) = ctP (PF (2 * i))
      · obtain ⟨Yj, lj, tj, rj, bj, f1, f2, f3, _, _⟩ := ptX_psh xj3 (by omega)
        obtain ⟨d1, d2, d3, d4, d5, d6⟩ := box_wh f1 f2 f3
        have := hasShapeOf_s (S := S) (W := W) (H := H) IA IR Yj Yi d2 a2 d4 a4 (ctP_le _) (ctP_le _)
        rw [pB_cong (show (wd (PF (2 * j + 1)) = wd (PF (2 * i)) ∧ ht (PF (2 * j + 1)) = ht (PF (2 * i)) ∧ ctP (PF (2 * j + 1)) = ctP (PF (2 * i)) ∧ ∀ k, k < ht (PF (2 * j + 1)) → sh (PF (2 * j + 1)) k = sh (PF (2 * i)) k) ↔ alP PF i j from ⟨fun w => ⟨w.2.2.1, w.1, w.2.1, fun k hk => by
            by_cases u : k < ht (PF (2 * j + 1))
            · exact w.2.2.2 k u
            · refine lb_ext fun x hx => ?_
              cases e1 : lb (sh (PF (2 * j + 1)) k) x
              · cases e2 : lb (sh (PF (2 * i)) k) x
                · rfl
                · have := sh_in g1 g2 g3 e2
                  omega
              · have := sh_in f1 f2 f3 e1
                omega⟩, fun w => ⟨w.2.1, w.2.2.1, w.1, fun k hk => w.2.2.2 k (by omega)⟩⟩)] at this
        exact this
      · rw [pB_no.mpr (fun w => e w.1)]
        exact hasShapeOf_ne IA IR (fun w => by
          rw [xj3.1, xi2.1] at w
          exact e ((nI_eq (by have := ctP_le (PF (2 * j + 1)); omega) (by omega)).mp w))
    have start : ∀ {oo : xO}, (s.2.2 (147 + 5 * o j + 3) 8 = none → (if bz (pB (alP PF i j)) = 0 then (xlet (nI j + (1 : Int32)) fun v9 => (xden S mX1_pair 2 [(0, .ref 64), (1, .ref (147 + 5 * o i + 1)), (2, .int v9)] [] (E W H n s))) else ((xP false 1 (E W H n s) (147 + 5 * o i + 1) 5 8 (.ref (147 + 5 * o j + 3))).bind fun h10 => (xP false 1 h10 (147 + 5 * o j + 3) 5 8 (.ref (147 + 5 * o i + 1))).bind fun h11 => some (.inl none, h11, 0, 0))) = some oo) → ((s.2.2 (147 + 5 * o j + 3) 8).isSome = true → xden S mX1_pair 2 [(0, .ref 64), (1, .ref (147 + 5 * o i + 1)), (2, .int (nI (j + 1)))] [] (E W H n s) = some oo) → xden S mX1_pair 2 [(0, .ref 64), (1, .ref (147 + 5 * o i + 1)), (2, .int (nI j))] [] (E W H n s) = some oo := fun {oo} q1 q2 => by
      refine w_X1_pair_2 S _ _ _ _ _ ?_
      refine c_gi (by omega) (by rfl) (by rfl) (by rfl) ?_
      rw [fr_i Q 64 17 (cpP_lo (by decide)), e17]
      refine c_iff (fun w => by have := (nI_leI (by omega) (by omega)).mp w; omega) ?_
      refine c_gr (by omega) (by rfl) (by rfl) (by rfl) ?_
      refine c_rr (i := j) (by omega) (by rfl) (by decide) (by rfl) (by first | omega | ((conv => rhs; whnf); first | omega | (show _ < OfNat.ofNat (α := Nat) _; omega))) (by first | omega | ((conv => lhs; whnf); first | omega | (show OfNat.ofNat (α := Nat) _ < _; omega))) xj1 ?_
      refine c_gr (o := 3) (by omega) (eK_R _) (by rfl) (by rfl) ?_
      refine c_gn (by omega) kA (by rfl) (by rfl) ?_
      cases hp : s.2.2 (147 + 5 * o j + 3) 8 with
      | none =>
        refine c_on0 rfl ?_
        refine c_ob (by omega) kA ?_
        refine c_qI hsh ?_
        exact q1 hp
      | some r =>
        refine c_on1 rfl ?_
        refine c_let ?_
        rw [nI_suc]
        exact q2 (by rw [hp]; rfl)
    by_cases hit : (prL PF N lst i).1 j = false ∧ alP PF i j
    · right
      obtain ⟨t1, t2⟩ := hit
      have ej : prJ PF N (prL PF N lst i).1 i = j := first_is hj hs (by rw [t1, pB_iff.mpr t2]; rfl)
      have ep : prL PF N lst (i + 1) = (fun j' => if j' = j then true else (prL PF N lst i).1 j', fun i' => if i' = i then some j else (prL PF N lst i).2 i') := by
        rw [← ej]
        exact if_pos ⟨c, by rw [ej]; exact hj⟩
      refine ⟨sR (sR s (147 + 5 * o i + 1) 8 (some (147 + 5 * o j + 3))) (147 + 5 * o j + 3) 8 (some (147 + 5 * o i + 1)), ⟨⟨fun i' hi' => ?_, fun j' hj' => ?_⟩, fr_sR (fr_sR Q (cpP_y _).1) (cpP_y _).2⟩, fun oo ho => start (fun hn0 => ?_) (fun w => ?_)⟩
      · rw [ep]
        show _ = (if i' = i then some j else (prL PF N lst i).2 i').map _
        rw [sR_ne (by omega)]
        by_cases e : i' = i
        · rw [e, sR_eq ⟨rfl, rfl⟩, if_pos rfl]
          rfl
        · have ne : o i' ≠ o i := fun w => e (oi i' i hi' hi w)
          rw [if_neg e, sR_ne (by omega)]
          exact h2 i' hi'
      · rw [ep]
        show _ = (if j' = j then true else (prL PF N lst i).1 j')
        by_cases e : j' = j
        · rw [e, sR_eq ⟨rfl, rfl⟩, if_pos rfl]
          rfl
        · have ne : o j' ≠ o j := fun w => e (oi j' j hj' hj w)
          rw [if_neg e, sR_ne (by omega), sR_ne (by omega)]
          exact h3 j' hj'
      · rw [pB_iff.mpr t2]
        refine c_iff (by decide) ?_
        refine c_pr (by omega) IR.1 (by rfl) (by rfl) (xPok_ref (by decide) (by rfl)) ?_
        refine c_pr (by omega) kA (by rfl) (by rfl) (xPok_ref (by decide) (by rfl)) ?_
        exact ho
      · rw [h3 j hj, t1] at w
        cases w
    · left
      have f : (!(prL PF N lst i).1 j && pB (alP PF i j)) = false := by
        cases ht : (prL PF N lst i).1 j
        · rw [pB_no.mpr (fun w => hit ⟨ht, w⟩)]; rfl
        · rfl
      refine ⟨(), fun j' hj' => ?_, fun oo ho => start (fun w => ?_) (fun _ => ho)⟩
      · by_cases e : j' = j
        · rw [e]; exact f
        · exact hs j' (by omega)
      · have ht := h3 j hj
        rw [w] at ht
        rw [pB_no.mpr (fun w => hit ⟨ht.symm, w⟩)]
        refine c_ift (by decide) ?_
        refine c_let ?_
        rw [nI_suc]
        exact ho
  · have ej : prJ PF N (prL PF N lst i).1 i = N := first_out hs
    have ep : prL PF N lst (i + 1) = prL PF N lst i := if_neg (fun w => by have := w.2; omega)
    refine ⟨s, ⟨by rw [ep]; exact ⟨h2, h3⟩, Q⟩, fun oo ho => w_X1_pair_2 S _ _ _ _ _ ?_⟩
    refine c_gi (by omega) (by rfl) (by rfl) (by rfl) ?_
    rw [fr_i Q 64 17 (cpP_lo (by decide)), e17]
    refine c_ift ((nI_leI (by omega) (by omega)).mpr (Nat.le_refl _)) ?_
    exact ho
theorem pairParts_s (hN : N ≤ 256) (hn : N ≤ n) (ho : ∀ i, i < N → o i < N) (oi : ∀ i j, i < N → j < N → o i = o j → i = j) (X : rgO m N o PF) (e17 : m.1 64 17 = nI N) {lst : Nat} (l1 : 1 ≤ lst) (l2 : lst ≤ 99) (np : ∀ i, i < N → m.2.2 (147 + 5 * o i + 1) 8 = none ∧ m.2.2 (147 + 5 * o i + 3) 8 = none) : ∃ m', xM S mX1_pairParts [.ref 64, .int (nI lst)] (E W H n m) = some (.inl none, E W H n m', 0, 0) ∧ paI m' N o (prL PF N lst N) ∧ fr cpP m m' := by
  have L := x_sg (σ := mM) (τ := mM) (D := fun i s => xden S mX1_pairParts 2 [(0, .ref 64), (1, .int (nI lst)), (2, .int (nI i))] [] (E W H n s)) (Inv := fun i s => paI s N o (prL PF N lst i) ∧ fr cpP m s)
    (F := fun s => some (.inl none, E W H n s, 0, 0)) (Post := fun s => paI s N o (prL PF N lst N) ∧ fr cpP m s) N (fun i hi s hs => ?_) (fun s hs => ?_) m ⟨⟨fun i hi => (np i hi).1, fun j hj => by rw [(np j hj).2]; rfl⟩, fr_rf⟩
  · obtain ⟨m', g1, g2⟩ := L
    exact ⟨m', w_X1_pairParts S _ _ _ _ (g2 _ rfl), g1⟩
  · left
    obtain ⟨h1, h2⟩ := hs
    obtain ⟨x1, x2, x3⟩ := rgO_fr X h2 i hi
    have oI := ho i hi
    have IR := (ptA_rg (q := o i) (n := n) (by omega)).1
    have cti := ctP_le (PF (2 * i))
    have start : ∀ {oo : xO}, (if nI (ctP (PF (2 * i))) < nI lst then (xlet (nI i + (1 : Int32)) fun v6 => (xden S mX1_pairParts 2 [(0, .ref 64), (1, .int (nI lst)), (2, .int v6)] [] (E W H n s))) else (if xOb (E W H n s) 64 1 = true then xqV (xM S mX1_pair [.ref 64, .ref (147 + 5 * o i + 1)] (E W H n s)) xth fun h8 => xlet (nI i + (1 : Int32)) fun v10 => (xden S mX1_pairParts 2 [(0, .ref 64), (1, .int (nI lst)), (2, .int v10)] [] h8) else none)) = some oo → xden S mX1_pairParts 2 [(0, .ref 64), (1, .int (nI lst)), (2, .int (nI i))] [] (E W H n s) = some oo := fun {oo} ho => by
      refine w_X1_pairParts_2 S _ _ _ _ _ ?_
      refine c_gi (by omega) (by rfl) (by rfl) (by rfl) ?_
      rw [fr_i h2 64 17 (cpP_lo (by decide)), e17]
      refine c_iff (fun w => by have := (nI_leI (by omega) (by omega)).mp w; omega) ?_
      refine c_gr (by omega) (by rfl) (by rfl) (by rfl) ?_
      refine c_rr (i := i) (by omega) (by rfl) (by decide) (by rfl) (by first | omega | ((conv => rhs; whnf); first | omega | (show _ < OfNat.ofNat (α := Nat) _; omega))) (by first | omega | ((conv => lhs; whnf); first | omega | (show OfNat.ofNat (α := Nat) _ < _; omega))) x1 ?_
      refine c_gr (o := 1) (by omega) (eK_R _) (by rfl) (by rfl) ?_
      refine c_gi (by omega) IR.1 (by rfl) (by rfl) ?_
      rw [x2.1]
      exact ho
    by_cases c : lst ≤ ctP (PF (2 * i))
    · obtain ⟨s', j1, j2, j3⟩ := pair_s (S := S) (W := W) (H := H) hN hn ho oi X e17 l1 h2 hi h1 c
      refine ⟨s', ⟨j2, j3⟩, fun oo ho => start ?_⟩
      refine c_iff (fun w => by have := (nI_ltI (by omega) (by omega)).mp w; omega) ?_
      refine c_ob (by omega) (by rfl) ?_
      refine c_qV j1 ?_
      refine c_let ?_
      rw [nI_suc]
      exact ho
    · have ep : prL PF N lst (i + 1) = prL PF N lst i := if_neg (fun w => c w.1)
      refine ⟨s, ⟨by rw [ep]; exact h1, h2⟩, fun oo ho => start ?_⟩
      refine c_ift ((nI_ltI (by omega) (by omega)).mpr (by omega)) ?_
      refine c_let ?_
      rw [nI_suc]
      exact ho
  · refine ⟨s, hs, fun oo ho => w_X1_pairParts_2 S _ _ _ _ _ ?_⟩
    refine c_gi (by omega) (by rfl) (by rfl) (by rfl) ?_
    rw [fr_i hs.2 64 17 (cpP_lo (by decide)), e17]
    refine c_ift ((nI_leI (by omega) (by omega)).mpr (Nat.le_refl _)) ?_
    exact ho
end PC

/-! STAMPS: both sides find the stamp of a part -/
/-- a stamp: its width, height, rows -/
abbrev stT := Nat → Nat × Nat × (Nat → Int64)
def stOk (St : stT) (i : Nat) : Prop := (St i).1 ≤ 64 ∧ (St i).2.1 ≤ 64 ∧ ∀ y x, lb ((St i).2.2 y) x = true → x < (St i).1 ∧ y < (St i).2.1
def stE (St : stT) (i : Nat) (F : Nat → Int64) : Prop := (St i).1 = wd F ∧ (St i).2.1 = ht F ∧ ∀ k, k < 64 → (St i).2.2 k = sh F k
noncomputable def stN (St : stT) (cnt : Nat) (F : Nat → Int64) : Nat := fa_first (fun i => pB (stE St i F)) cnt
noncomputable def stNo (St : stT) (cnt : Nat) (F : Nat → Int64) : Int := if stN St cnt F < cnt then (stN St cnt F : Int) else -1
theorem stNo_at {St : stT} {cnt : Nat} {F : Nat → Int64} {i : Nat} (hi : i < cnt) (no : ∀ k, k < i → ¬ stE St k F) (y : stE St i F) : stNo St cnt F = (i : Int) := by
  have e : stN St cnt F = i := by
    unfold stN
    have le := fa_first_le (fun i => pB (stE St i F)) cnt
    rcases Nat.lt_trichotomy (fa_first (fun i => pB (stE St i F)) cnt) i with q | q | q
    · have := fa_first_yes (fun i => pB (stE St i F)) cnt (by omega)
      exact absurd (pB_iff.mp this) (no _ q)
    · exact q
    · have := fa_first_no (fun i => pB (stE St i F)) cnt i q
      exact absurd y (pB_no.mp this)
  unfold stNo
  rw [e, if_pos hi]
theorem stNo_no {St : stT} {cnt : Nat} {F : Nat → Int64} (no : ∀ k, k < cnt → ¬ stE St k F) : stNo St cnt F = -1 := by
  unfold stNo
  rw [if_neg (fun w => by
    have := fa_first_yes (fun i => pB (stE St i F)) cnt w
    exact no _ w (pB_iff.mp this))]
/-- the model's stamps -/
def mstM (m : mM) (cnt : Nat) (St : stT) : Prop := m.1 90 34 = nI cnt ∧ cnt ≤ 7 ∧ ∀ i, i < cnt → stOk St i ∧ m.1 112 i = nI (St i).1 ∧ m.1 113 i = nI (St i).2.1 ∧ ∀ k, k < 4096 → m.1 111 (4096 * i + k) = bz (px (St i).2.2 k)
section ST
variable {S : xS} {W H n N : Nat} {m : mM} {B : Nat} {P : Nat → Bool} {Ms Ad : Nat → Int64} {o nb : Nat → Nat} {St : stT} {cnt : Nat}
theorem stampFor_s (hW8 : 8 ≤ W) (hW : W ≤ 64) (hH8 : 8 ≤ H) (hH : H ≤ 64) (hB : 4 ≤ B) (hB2 : B ≤ 16) (oM : okP W H Ms) (oA : okP W H Ad) (hN : N = nS ba P 256) (ho : ∀ i, i < N → nb (o i) = i) (hnb : ∀ q, q < N → nb q < N ∧ o (nb q) = q) (X : ofI m B P Ms Ad nb) (T : mstM m cnt St) {p : Nat} (hp : p < 2 * N) (Xp : ptB m p (PFm W H Ms Ad P B o p)) : xM S mX13_stampFor [.ref 90, .int (nI p)] (E W H n m) = some (.inl (some (.int (zI (stNo St cnt (PFm W H Ms Ad P B o p))))), E W H n m, 0, 0) := by
  have N256 : N ≤ 256 := by rw [hN]; exact nS_256 P
  have io1 : ∀ k, k < 4096 → _ := fun k hk => isOf_s (S := S) (W := W) (H := H) (n := n) (m := m) hW8 hW hH8 hH hB hB2 oM oA hN ho hnb X hp (k := k) hk
  generalize eF : PFm W H Ms Ad P B o p = F at *
  obtain ⟨e34, c7, T⟩ := T
  have w1 := widthOf_s (S := S) (W := W) (H := H) (n := n) (by omega) Xp
  have e1 := heightOf_s (S := S) (W := W) (H := H) (n := n) (by omega) Xp
  obtain ⟨l, t, r, b, h1, h2, h3, h4, h5, h6, h7⟩ := Xp
  obtain ⟨a1, a2, a3, a4, a5, a6⟩ := box_wh h1 h2 h3
  have L := x_sg (σ := Unit) (τ := Unit) (D := fun i _ => xden S mX13_stampFor 2 [(0, .ref 90), (1, .int (nI p)), (2, .int (nI i))] [] (E W H n m)) (Inv := fun i _ => ∀ k, k < i → ¬ stE St k F)
    (F := fun _ => some (.inl (some (.int (zI (stNo St cnt F)))), E W H n m, 0, 0)) (Post := fun _ => True) cnt (fun i hi s hs => ?_) (fun s hs => ⟨(), trivial, fun oo ho => w_X13_stampFor_2 S _ _ _ _ _ ?_⟩) () (fun k hk => absurd hk (Nat.not_lt_zero k))
  · obtain ⟨_, _, g⟩ := L
    exact w_X13_stampFor S _ _ _ _ (g _ rfl)
  · obtain ⟨ok, t1, t2, t3⟩ := T i hi
    obtain ⟨k1, k2, k3⟩ := ok
    -- the next stamp
    have no : ¬ stE St i F → ∀ {oo : xO}, xden S mX13_stampFor 2 [(0, .ref 90), (1, .int (nI p)), (2, .int (nI (i + 1)))] [] (E W H n m) = some oo → xden S mX13_stampFor 47 [(0, .ref 90), (1, .int (nI p)), (2, .int (nI i)), (3, .int (0 : Int32)), (4, .int (0 : Int32))] [] (E W H n m) = some oo := fun _ {oo} ho => by
      refine w_X13_stampFor_47 S _ _ _ _ _ _ _ ?_
      refine c_ob (by omega) (by rfl) ?_
      refine c_qI e1 ?_
      refine c_iff (fun w => by have := (nI_leI (b := 0) (by omega) (by omega)).mp w; omega) ?_
      refine c_ift rfl ?_
      refine c_ift rfl ?_
      refine c_let ?_
      rw [nI_suc]
      exact ho
    have start : ∀ {oo : xO}, ((St i).1 ≠ wd F ∨ (St i).2.1 ≠ ht F → xden S mX13_stampFor 47 [(0, .ref 90), (1, .int (nI p)), (2, .int (nI i)), (3, .int (0 : Int32)), (4, .int (0 : Int32))] [] (E W H n m) = some oo) → ((St i).1 = wd F ∧ (St i).2.1 = ht F → xden S mX13_stampFor 47 [(0, .ref 90), (1, .int (nI p)), (2, .int (nI i)), (3, .int (1 : Int32)), (4, .int (0 : Int32))] [] (E W H n m) = some oo) → xden S mX13_stampFor 2 [(0, .ref 90), (1, .int (nI p)), (2, .int (nI i))] [] (E W H n m) = some oo := fun {oo} q1 q2 => by
      refine w_X13_stampFor_2 S _ _ _ _ _ ?_
      refine c_gi (by omega) (by rfl) (by rfl) (by rfl) ?_
      rw [e34]
      refine c_iff (fun w => by have := (nI_leI (by omega) (by omega)).mp w; omega) ?_
      refine c_gr (by omega) (by rfl) (by rfl) (by rfl) ?_
      refine c_ri (i := i) (by omega) (by rfl) (by rfl) (by rfl) (by first | omega | ((conv => rhs; whnf); first | omega | (show _ < OfNat.ofNat (α := Nat) _; omega))) (by first | omega | ((conv => lhs; whnf); first | omega | (show OfNat.ofNat (α := Nat) _ < _; omega))) (by decide) ?_
      rw [show m.1 (90 + 22) i = _ from t1]
      refine c_ob (by omega) (by rfl) ?_
      refine c_qI w1 ?_
      by_cases u1 : (St i).1 = wd F
      · refine c_iff (fun w => w (by rw [u1])) ?_
        refine c_gr (by omega) (by rfl) (by rfl) (by rfl) ?_
        refine c_ri (i := i) (by omega) (by rfl) (by rfl) (by rfl) (by first | omega | ((conv => rhs; whnf); first | omega | (show _ < OfNat.ofNat (α := Nat) _; omega))) (by first | omega | ((conv => lhs; whnf); first | omega | (show OfNat.ofNat (α := Nat) _ < _; omega))) (by decide) ?_
        rw [show m.1 (90 + 23) i = _ from t2]
        refine c_ob (by omega) (by rfl) ?_
        refine c_qI e1 ?_
        by_cases u2 : (St i).2.1 = ht F
        · refine c_iff (fun w => w (by rw [u2])) ?_
          exact q2 ⟨u1, u2⟩
        · refine c_ift (fun w => u2 ((nI_eq (by omega) (by omega)).mp w)) ?_
          exact q1 (Or.inr u2)
      · refine c_ift (fun w => u1 ((nI_eq (by omega) (by omega)).mp w)) ?_
        exact q1 (Or.inl u1)
    by_cases u : (St i).1 = wd F ∧ (St i).2.1 = ht F
    · obtain ⟨u1, u2⟩ := u
      have inF : ∀ y x, lb (sh F y) x = true → x < wd F ∧ y < ht F := fun y x q => sh_in h1 h2 h3 q
      have inS : ∀ y x, lb ((St i).2.2 y) x = true → x < wd F ∧ y < ht F := fun y x q => by rw [← u1, ← u2]; exact k3 y x q
      have L := all_l (A := fun f y => xden S mX13_stampFor 47 [(0, .ref 90), (1, .int (nI p)), (2, .int (nI i)), (3, .int (bz f)), (4, .int (nI y))] [] (E W H n m)) (Bx := fun f y x => xden S mX13_stampFor 64 [(0, .ref 90), (1, .int (nI p)), (2, .int (nI i)), (3, .int (bz f)), (4, .int (nI y)), (5, .int (nI x))] [] (E W H n m)) (R := fun f => if f = true then some (.inl (some (.int (nI i))), E W H n m, 0, 0) else xden S mX13_stampFor 2 [(0, .ref 90), (1, .int (nI p)), (2, .int (nI (i + 1)))] [] (E W H n m)) (h := ht F) (w := wd F) (E := fun y x => lb ((St i).2.2 y) x == lb (sh F y) x) (fun f oo ho => ?_) (fun y hy oo ho => ?_) (fun y hy oo ho => ?_) (fun f y hy oo ho => ?_) (fun y x hy hx oo ho => ?_) (fun y x hy hx oo ho => ?_)
      · have eq : (∀ y, y < ht F → ∀ x, x < wd F → (lb ((St i).2.2 y) x == lb (sh F y) x) = true) ↔ stE St i F := ⟨fun w => ⟨u1, u2, (rows_eq a4 inS inF).mp w⟩, fun w => (rows_eq a4 inS inF).mpr w.2.2⟩
        rw [pB_cong eq] at L
        by_cases y : stE St i F
        · rw [pB_iff.mpr y, if_pos rfl] at L
          right
          refine ⟨(), trivial, fun oo ho => start (fun w => ?_) (fun _ => L _ ?_)⟩
          · rcases w with w | w
            · exact absurd u1 w
            · exact absurd u2 w
          · rw [stNo_at hi hs y, zI_n (by omega)] at ho
            exact ho
        · rw [pB_no.mpr y, if_neg Bool.false_ne_true] at L
          left
          refine ⟨(), fun k hk => ?_, fun oo ho => start (fun w => ?_) (fun _ => L _ ho)⟩
          · by_cases ek : k = i
            · rw [ek]; exact y
            · exact hs k (by omega)
          · rcases w with w | w
            · exact absurd u1 w
            · exact absurd u2 w
      · refine w_X13_stampFor_47 S _ _ _ _ _ _ _ ?_
        refine c_ob (by omega) (by rfl) ?_
        refine c_qI e1 ?_
        refine c_ift ((nI_leI (by omega) (by omega)).mpr (Nat.le_refl _)) ?_
        cases f
        · refine c_ift rfl ?_
          refine c_let ?_
          rw [nI_suc]
          exact ho
        · refine c_iff (by decide) ?_
          exact ho
      · refine w_X13_stampFor_47 S _ _ _ _ _ _ _ ?_
        refine c_ob (by omega) (by rfl) ?_
        refine c_qI e1 ?_
        refine c_iff (fun w => by have := (nI_leI (by omega) (by omega)).mp w; omega) ?_
        refine c_ift rfl ?_
        refine c_ift rfl ?_
        refine c_let ?_
        rw [nI_suc]
        exact ho
      · refine w_X13_stampFor_47 S _ _ _ _ _ _ _ ?_
        refine c_ob (by omega) (by rfl) ?_
        refine c_qI e1 ?_
        refine c_iff (fun w => by have := (nI_leI (by omega) (by omega)).mp w; omega) ?_
        exact c_iff (by decide) ho
      · refine w_X13_stampFor_64 S _ _ _ _ _ _ _ _ ?_
        refine c_ob (by omega) (by rfl) ?_
        refine c_qI w1 ?_
        refine c_ift ((nI_leI (by omega) (by omega)).mpr (Nat.le_refl _)) ?_
        refine c_let ?_
        rw [nI_suc]
        exact ho
      · refine w_X13_stampFor_64 S _ _ _ _ _ _ _ _ ?_
        refine c_ob (by omega) (by rfl) ?_
        refine c_qI w1 ?_
        refine c_iff (fun w => by have := (nI_leI (by omega) (by omega)).mp w; omega) ?_
        refine c_ift rfl ?_
        refine c_let ?_
        rw [nI_suc]
        exact ho
      · have ix1 : (((64 : Int32) * (nI t + nI y)) + nI l) + nI x = nI (64 * (t + y) + (l + x)) := by
          rw [nI_add, show (64 : Int32) * nI (t + y) = nI (64 * (t + y)) from pk_mul 64 _, nI_add, nI_add, Nat.add_assoc]
        have ix2 : (((4096 : Int32) * nI i) + ((64 : Int32) * nI y)) + nI x = nI (4096 * i + (64 * y + x)) := by
          rw [show (4096 : Int32) * nI i = nI (4096 * i) from pk_mul 4096 _, show (64 : Int32) * nI y = nI (64 * y) from pk_mul 64 _, nI_add, nI_add, Nat.add_assoc]
        have p1 := io1 (64 * (t + y) + (l + x)) (by omega)
        rw [px_xy F (t + y) (by omega)] at p1
        have q1 := lb_sh h1 h2 h3 (y := y) (x := x) (by omega)
        rw [decide_eq_true (by omega), Bool.true_and] at q1
        rw [← q1] at p1
        have p2 := t3 (64 * y + x) (by omega)
        rw [px_xy _ y (by omega)] at p2
        have zz : 28672 = eL H 111 := rfl
        (try dsimp only at ho)
        refine w_X13_stampFor_64 S _ _ _ _ _ _ _ _ ?_
        refine c_ob (by omega) (by rfl) ?_
        refine c_qI w1 ?_
        refine c_iff (fun w => by have := (nI_leI (by omega) (by omega)).mp w; omega) ?_
        refine c_iff (by decide) ?_
        refine c_gr (by omega) (by rfl) (by rfl) (by rfl) ?_
        rw [ix2]
        refine c_ri (i := 4096 * i + (64 * y + x)) (by omega) (by rfl) (by rfl) (by rfl) (by show 4096 * i + (64 * y + x) < eL H 111; omega) (by show eL H 111 < 2 ^ 31; omega) (by decide) ?_
        rw [show m.1 (90 + 21) (4096 * i + (64 * y + x)) = _ from p2]
        refine c_gr (by omega) (by rfl) (by rfl) (by rfl) ?_
        refine c_ri (i := p) (by omega) (by rfl) (by rfl) (by rfl) (by first | omega | ((conv => rhs; whnf); first | omega | (show _ < OfNat.ofNat (α := Nat) _; omega))) (by first | omega | ((conv => lhs; whnf); first | omega | (show OfNat.ofNat (α := Nat) _ < _; omega))) (by decide) ?_
        refine c_gr (by omega) (by rfl) (by rfl) (by rfl) ?_
        refine c_ri (i := p) (by omega) (by rfl) (by rfl) (by rfl) (by first | omega | ((conv => rhs; whnf); first | omega | (show _ < OfNat.ofNat (α := Nat) _; omega))) (by first | omega | ((conv => lhs; whnf); first | omega | (show OfNat.ofNat (α := Nat) _ < _; omega))) (by decide) ?_
        rw [show m.1 (90 + 47) p = _ from h5, show m.1 (90 + 46) p = _ from h4, ix1]
        refine c_ob (by omega) (by rfl) ?_
        refine c_qI p1 ?_
        by_cases e : lb ((St i).2.2 y) x = lb (sh F y) x
        · rw [e, beq_self_eq_true] at ho
          rw [e]
          refine c_iff (fun w => w rfl) ?_
          refine c_let ?_
          rw [nI_suc]
          exact ho
        · rw [beq_eq_false_iff_ne.mpr e] at ho
          refine c_ift (fun w => e (bz_inj.mp w)) ?_
          refine c_let ?_
          rw [nI_suc]
          exact ho
    · left
      have ns : ¬ stE St i F := fun w => u ⟨w.1, w.2.1⟩
      refine ⟨(), fun k hk => ?_, fun oo ho => start (fun _ => no ns ho) (fun w => absurd w u)⟩
      by_cases ek : k = i
      · rw [ek]; exact ns
      · exact hs k (by omega)
  · rw [stNo_no hs] at ho
    refine c_gi (by omega) (by rfl) (by rfl) (by rfl) ?_
    rw [e34]
    refine c_ift ((nI_leI (by omega) (by omega)).mpr (Nat.le_refl _)) ?_
    exact ho
end ST

/-! PARTS: the model compares shapes -/
def ptB (m : mM) (p : Nat) (F : Nat → Int64) : Prop := ∃ l t r b : Nat, isBox F l t r b ∧ r < 64 ∧ b < 64 ∧ m.1 136 p = nI l ∧ m.1 137 p = nI t ∧ m.1 138 p = nI r ∧ m.1 139 p = nI b
theorem ptM_B {m : mM} {p : Nat} {F : Nat → Int64} (X : ptM m p F) (ne : ctP F ≠ 0) (f0 : ∀ y, 64 ≤ y → F y = 0) : ptB m p F := by
  obtain ⟨_, l, t, r, b, h1, h2, h3, h4, h5⟩ := X
  obtain ⟨l', t', r', b', rfl, rfl, rfl, rfl, g1, g2, g3⟩ := bxS_box (fun q _ => rfl) f0 h1 ne
  obtain ⟨a1, a2⟩ := isBox_le g1
  exact ⟨l', t', r', b', g1, g2, g3, by rw [← zI_n (by omega)]; exact h2, by rw [← zI_n (by omega)]; exact h3, by rw [← zI_n (by omega)]; exact h4, by rw [← zI_n (by omega)]; exact h5⟩
theorem ptB_fr {m m' : mM} {p : Nat} {F : Nat → Int64} (X : ptB m p F) (e : ∀ a, 136 ≤ a → a ≤ 139 → m'.1 a p = m.1 a p) : ptB m' p F := by
  obtain ⟨l, t, r, b, h1, h2, h3, h4, h5, h6, h7⟩ := X
  exact ⟨l, t, r, b, h1, h2, h3, (e 136 (by decide) (by decide)).trans h4, (e 137 (by decide) (by decide)).trans h5, (e 138 (by decide) (by decide)).trans h6, (e 139 (by decide) (by decide)).trans h7⟩
/-- the same shape -/
def sameS (F G : Nat → Int64) : Prop := wd F = wd G ∧ ht F = ht G ∧ ∀ k, k < 64 → sh F k = sh G k
theorem box_wh {F : Nat → Int64} {l t r b : Nat} (h : isBox F l t r b) (hr : r < 64) (hb : b < 64) : 1 ≤ wd F ∧ wd F ≤ 64 ∧ 1 ≤ ht F ∧ ht F ≤ 64 ∧ l + wd F = r + 1 ∧ t + ht F = b + 1 := by
  obtain ⟨a1, a2⟩ := isBox_le h
  rw [wd_b h, ht_b h]
  omega
theorem rows_eq {R R' : Nat → Int64} {w h : Nat} (hh : h ≤ 64) (h1 : ∀ y x, lb (R y) x = true → x < w ∧ y < h) (h2 : ∀ y x, lb (R' y) x = true → x < w ∧ y < h) : (∀ y, y < h → ∀ x, x < w → (lb (R y) x == lb (R' y) x) = true) ↔ ∀ k, k < 64 → R k = R' k := by
  refine ⟨fun q k hk => lb_ext fun i hi => ?_, fun q y hy x hx => ?_⟩
  · by_cases c : i < w ∧ k < h
    · exact eq_of_beq (q k c.2 i c.1)
    · cases e1 : lb (R k) i
      · cases e2 : lb (R' k) i
        · rfl
        · exact absurd (h2 _ _ e2) c
      · exact absurd (h1 _ _ e1) c
  · rw [q y (by omega)]
    exact beq_self_eq_true _
section AL
variable {S : xS} {W H n N : Nat} {m : mM} {B : Nat} {P : Nat → Bool} {Ms Ad : Nat → Int64} {o nb : Nat → Nat}
theorem widthOf_s {p : Nat} {F : Nat → Int64} (hp : p < 512) (X : ptB m p F) : xM S mX13_widthOf [.ref 90, .int (nI p)] (E W H n m) = some (.inl (some (.int (nI (wd F)))), E W H n m, 0, 0) := by
  obtain ⟨l, t, r, b, h1, h2, h3, h4, h5, h6, h7⟩ := X
  obtain ⟨a1, a2⟩ := isBox_le h1
  refine w_X13_widthOf S _ _ _ _ ?_
  refine c_gr (by omega) (by rfl) (by rfl) (by rfl) ?_
  refine c_ri (i := p) (by omega) (by rfl) (by rfl) (by rfl) (by first | omega | ((conv => rhs; whnf); first | omega | (show _ < OfNat.ofNat (α := Nat) _; omega))) (by first | omega | ((conv => lhs; whnf); first | omega | (show OfNat.ofNat (α := Nat) _ < _; omega))) (by decide) ?_
  refine c_gr (by omega) (by rfl) (by rfl) (by rfl) ?_
  refine c_ri (i := p) (by omega) (by rfl) (by rfl) (by rfl) (by first | omega | ((conv => rhs; whnf); first | omega | (show _ < OfNat.ofNat (α := Nat) _; omega))) (by first | omega | ((conv => lhs; whnf); first | omega | (show OfNat.ofNat (α := Nat) _ < _; omega))) (by decide) ?_
  rw [show m.1 (90 + 48) p = _ from h6, show m.1 (90 + 46) p = _ from h4, pk_sub a1, nI_suc, wd_b h1, show r - l + 1 = r + 1 - l by omega]
theorem heightOf_s {p : Nat} {F : Nat → Int64} (hp : p < 512) (X : ptB m p F) : xM S mX13_heightOf [.ref 90, .int (nI p)] (E W H n m) = some (.inl (some (.int (nI (ht F)))), E W H n m, 0, 0) := by
  obtain ⟨l, t, r, b, h1, h2, h3, h4, h5, h6, h7⟩ := X
  obtain ⟨a1, a2⟩ := isBox_le h1
  refine w_X13_heightOf S _ _ _ _ ?_
  refine c_gr (by omega) (by rfl) (by rfl) (by rfl) ?_
  refine c_ri (i := p) (by omega) (by rfl) (by rfl) (by rfl) (by first | omega | ((conv => rhs; whnf); first | omega | (show _ < OfNat.ofNat (α := Nat) _; omega))) (by first | omega | ((conv => lhs; whnf); first | omega | (show OfNat.ofNat (α := Nat) _ < _; omega))) (by decide) ?_
  refine c_gr (by omega) (by rfl) (by rfl) (by rfl) ?_
  refine c_ri (i := p) (by omega) (by rfl) (by rfl) (by rfl) (by first | omega | ((conv => rhs; whnf); first | omega | (show _ < OfNat.ofNat (α := Nat) _; omega))) (by first | omega | ((conv => lhs; whnf); first | omega | (show OfNat.ofNat (α := Nat) _ < _; omega))) (by decide) ?_
  rw [show m.1 (90 + 49) p = _ from h7, show m.1 (90 + 47) p = _ from h5, pk_sub a2, nI_suc, ht_b h1, show b - t + 1 = b + 1 - t by omega]
theorem areAlike_s (hW8 : 8 ≤ W) (hW : W ≤ 64) (hH8 : 8 ≤ H) (hH : H ≤ 64) (hB : 4 ≤ B) (hB2 : B ≤ 16) (oM : okP W H Ms) (oA : okP W H Ad) (hN : N = nS ba P 256) (ho : ∀ i, i < N → nb (o i) = i) (hnb : ∀ q, q < N → nb q < N ∧ o (nb q) = q) (X : ofI m B P Ms Ad nb) {p q : Nat} (hp : p < 2 * N) (hq : q < 2 * N) (Xp : ptB m p (PFm W H Ms Ad P B o p)) (Xq : ptB m q (PFm W H Ms Ad P B o q)) (cp : m.1 135 p = nI (ctP (PFm W H Ms Ad P B o p))) (cq : m.1 135 q = nI (ctP (PFm W H Ms Ad P B o q))) : xM S mX13_areAlike [.ref 90, .int (nI p), .int (nI q)] (E W H n m) = some (.inl (some (.int (bz (pB (ctP (PFm W H Ms Ad P B o p) = ctP (PFm W H Ms Ad P B o q) ∧ sameS (PFm W H Ms Ad P B o p) (PFm W H Ms Ad P B o q)))))), E W H n m, 0, 0) := by
  have N256 : N ≤ 256 := by rw [hN]; exact nS_256 P
  have io1 : ∀ k, k < 4096 → _ := fun k hk => isOf_s (S := S) (W := W) (H := H) (n := n) (m := m) hW8 hW hH8 hH hB hB2 oM oA hN ho hnb X hp (k := k) hk
  have io2 : ∀ k, k < 4096 → _ := fun k hk => isOf_s (S := S) (W := W) (H := H) (n := n) (m := m) hW8 hW hH8 hH hB hB2 oM oA hN ho hnb X hq (k := k) hk
  generalize eF : PFm W H Ms Ad P B o p = F at *
  generalize eG : PFm W H Ms Ad P B o q = G at *
  have cF := ctP_le F
  have cG := ctP_le G
  have w1 := widthOf_s (S := S) (W := W) (H := H) (n := n) (by omega) Xp
  have w2 := widthOf_s (S := S) (W := W) (H := H) (n := n) (by omega) Xq
  have e1 := heightOf_s (S := S) (W := W) (H := H) (n := n) (by omega) Xp
  have e2 := heightOf_s (S := S) (W := W) (H := H) (n := n) (by omega) Xq
  obtain ⟨l, t, r, b, h1, h2, h3, h4, h5, h6, h7⟩ := Xp
  obtain ⟨l', t', r', b', g1, g2, g3, g4, g5, g6, g7⟩ := Xq
  obtain ⟨a1, a2, a3, a4, a5, a6⟩ := box_wh h1 h2 h3
  obtain ⟨d1, d2, d3, d4, d5, d6⟩ := box_wh g1 g2 g3
  have no : ∀ {Q : Prop}, ¬ Q → xden S mX13_areAlike 50 [(0, .ref 90), (1, .int (nI p)), (2, .int (nI q)), (3, .int (0 : Int32)), (4, .int (0 : Int32))] [] (E W H n m) = some (.inl (some (.int (bz (pB Q)))), E W H n m, 0, 0) := fun {Q} h => by
    rw [pB_no.mpr h]
    refine w_X13_areAlike_50 S _ _ _ _ _ _ _ ?_
    refine c_ob (by omega) (by rfl) ?_
    refine c_qI e1 ?_
    refine c_iff (fun w => by have := (nI_leI (b := 0) (by omega) (by omega)).mp w; omega) ?_
    refine c_ift rfl ?_
    exact c_ift (by decide) rfl
  refine w_X13_areAlike S _ _ _ _ _ ?_
  refine c_gr (by omega) (by rfl) (by rfl) (by rfl) ?_
  refine c_ri (i := p) (by omega) (by rfl) (by rfl) (by rfl) (by first | omega | ((conv => rhs; whnf); first | omega | (show _ < OfNat.ofNat (α := Nat) _; omega))) (by first | omega | ((conv => lhs; whnf); first | omega | (show OfNat.ofNat (α := Nat) _ < _; omega))) (by decide) ?_
  refine c_gr (by omega) (by rfl) (by rfl) (by rfl) ?_
  refine c_ri (i := q) (by omega) (by rfl) (by rfl) (by rfl) (by first | omega | ((conv => rhs; whnf); first | omega | (show _ < OfNat.ofNat (α := Nat) _; omega))) (by first | omega | ((conv => lhs; whnf); first | omega | (show OfNat.ofNat (α := Nat) _ < _; omega))) (by decide) ?_
  rw [show m.1 (90 + 45) p = _ from cp, show m.1 (90 + 45) q = _ from cq]
  by_cases t1 : ctP F = ctP G
  · refine c_iff (fun w => w (by rw [t1])) ?_
    refine c_ob (by omega) (by rfl) ?_
    refine c_qI w1 ?_
    refine c_ob (by omega) (by rfl) ?_
    refine c_qI w2 ?_
    by_cases t2 : wd F = wd G
    · refine c_iff (fun w => w (by rw [t2])) ?_
      refine c_ob (by omega) (by rfl) ?_
      refine c_qI e1 ?_
      refine c_ob (by omega) (by rfl) ?_
      refine c_qI e2 ?_
      by_cases t3 : ht F = ht G
      · refine c_iff (fun w => w (by rw [t3])) ?_
        have inF : ∀ y x, lb (sh F y) x = true → x < wd F ∧ y < ht F := fun y x q => sh_in h1 h2 h3 q
        have inG : ∀ y x, lb (sh G y) x = true → x < wd F ∧ y < ht F := fun y x q => by rw [t2, t3]; exact sh_in g1 g2 g3 q
        have L := all_l (A := fun f y => xden S mX13_areAlike 50 [(0, .ref 90), (1, .int (nI p)), (2, .int (nI q)), (3, .int (bz f)), (4, .int (nI y))] [] (E W H n m)) (Bx := fun f y x => xden S mX13_areAlike 67 [(0, .ref 90), (1, .int (nI p)), (2, .int (nI q)), (3, .int (bz f)), (4, .int (nI y)), (5, .int (nI x))] [] (E W H n m)) (R := fun f => some (.inl (some (.int (bz f))), E W H n m, 0, 0)) (h := ht F) (w := wd F) (E := fun y x => lb (sh F y) x == lb (sh G y) x) (fun f oo ho => ?_) (fun y hy oo ho => ?_) (fun y hy oo ho => ?_) (fun f y hy oo ho => ?_) (fun y x hy hx oo ho => ?_) (fun y x hy hx oo ho => ?_)
        · rw [pB_cong (show (ctP F = ctP G ∧ sameS F G) ↔ (∀ y, y < ht F → ∀ x, x < wd F → (lb (sh F y) x == lb (sh G y) x) = true) from ⟨fun w => (rows_eq a4 inF inG).mpr w.2.2.2, fun w => ⟨t1, t2, t3, (rows_eq a4 inF inG).mp w⟩⟩)]
          exact L _ rfl
        · refine w_X13_areAlike_50 S _ _ _ _ _ _ _ ?_
          refine c_ob (by omega) (by rfl) ?_
          refine c_qI e1 ?_
          refine c_ift ((nI_leI (by omega) (by omega)).mpr (Nat.le_refl _)) ?_
          exact c_ift (nar_bz f) ho
        · refine w_X13_areAlike_50 S _ _ _ _ _ _ _ ?_
          refine c_ob (by omega) (by rfl) ?_
          refine c_qI e1 ?_
          refine c_iff (fun w => by have := (nI_leI (by omega) (by omega)).mp w; omega) ?_
          refine c_ift rfl ?_
          exact c_ift (nar_bz false) ho
        · refine w_X13_areAlike_50 S _ _ _ _ _ _ _ ?_
          refine c_ob (by omega) (by rfl) ?_
          refine c_qI e1 ?_
          refine c_iff (fun w => by have := (nI_leI (by omega) (by omega)).mp w; omega) ?_
          exact c_iff (by decide) ho
        · refine w_X13_areAlike_67 S _ _ _ _ _ _ _ _ ?_
          refine c_ob (by omega) (by rfl) ?_
          refine c_qI w1 ?_
          refine c_ift ((nI_leI (by omega) (by omega)).mpr (Nat.le_refl _)) ?_
          refine c_let ?_
          rw [nI_suc]
          exact ho
        · refine w_X13_areAlike_67 S _ _ _ _ _ _ _ _ ?_
          refine c_ob (by omega) (by rfl) ?_
          refine c_qI w1 ?_
          refine c_iff (fun w => by have := (nI_leI (by omega) (by omega)).mp w; omega) ?_
          refine c_ift rfl ?_
          refine c_let ?_
          rw [nI_suc]
          exact ho
        · have ix1 : (((64 : Int32) * (nI t + nI y)) + nI l) + nI x = nI (64 * (t + y) + (l + x)) := by
            rw [nI_add, show (64 : Int32) * nI (t + y) = nI (64 * (t + y)) from pk_mul 64 _, nI_add, nI_add, Nat.add_assoc]
          have ix2 : (((64 : Int32) * (nI t' + nI y)) + nI l') + nI x = nI (64 * (t' + y) + (l' + x)) := by
            rw [nI_add, show (64 : Int32) * nI (t' + y) = nI (64 * (t' + y)) from pk_mul 64 _, nI_add, nI_add, Nat.add_assoc]
          have p1 := io1 (64 * (t + y) + (l + x)) (by omega)
          have p2 := io2 (64 * (t' + y) + (l' + x)) (by omega)
          rw [px_xy F (t + y) (by omega)] at p1
          rw [px_xy G (t' + y) (by omega)] at p2
          have q1 := lb_sh h1 h2 h3 (y := y) (x := x) (by omega)
          have q2 := lb_sh g1 g2 g3 (y := y) (x := x) (by omega)
          rw [decide_eq_true (by omega), Bool.true_and] at q1 q2
          rw [← q1] at p1
          rw [← q2] at p2
          (try dsimp only at ho)
          refine w_X13_areAlike_67 S _ _ _ _ _ _ _ _ ?_
          refine c_ob (by omega) (by rfl) ?_
          refine c_qI w1 ?_
          refine c_iff (fun w => by have := (nI_leI (by omega) (by omega)).mp w; omega) ?_
          refine c_iff (by decide) ?_
          refine c_gr (by omega) (by rfl) (by rfl) (by rfl) ?_
          refine c_ri (i := p) (by omega) (by rfl) (by rfl) (by rfl) (by first | omega | ((conv => rhs; whnf); first | omega | (show _ < OfNat.ofNat (α := Nat) _; omega))) (by first | omega | ((conv => lhs; whnf); first | omega | (show OfNat.ofNat (α := Nat) _ < _; omega))) (by decide) ?_
          refine c_gr (by omega) (by rfl) (by rfl) (by rfl) ?_
          refine c_ri (i := p) (by omega) (by rfl) (by rfl) (by rfl) (by first | omega | ((conv => rhs; whnf); first | omega | (show _ < OfNat.ofNat (α := Nat) _; omega))) (by first | omega | ((conv => lhs; whnf); first | omega | (show OfNat.ofNat (α := Nat) _ < _; omega))) (by decide) ?_
          rw [show m.1 (90 + 47) p = _ from h5, show m.1 (90 + 46) p = _ from h4, ix1]
          refine c_ob (by omega) (by rfl) ?_
          refine c_qI p1 ?_
          refine c_gr (by omega) (by rfl) (by rfl) (by rfl) ?_
          refine c_ri (i := q) (by omega) (by rfl) (by rfl) (by rfl) (by first | omega | ((conv => rhs; whnf); first | omega | (show _ < OfNat.ofNat (α := Nat) _; omega))) (by first | omega | ((conv => lhs; whnf); first | omega | (show OfNat.ofNat (α := Nat) _ < _; omega))) (by decide) ?_
          refine c_gr (by omega) (by rfl) (by rfl) (by rfl) ?_
          refine c_ri (i := q) (by omega) (by rfl) (by rfl) (by rfl) (by first | omega | ((conv => rhs; whnf); first | omega | (show _ < OfNat.ofNat (α := Nat) _; omega))) (by first | omega | ((conv => lhs; whnf); first | omega | (show OfNat.ofNat (α := Nat) _ < _; omega))) (by decide) ?_
          rw [show m.1 (90 + 47) q = _ from g5, show m.1 (90 + 46) q = _ from g4, ix2]
          refine c_ob (by omega) (by rfl) ?_
          refine c_qI p2 ?_
          by_cases e : lb (sh F y) x = lb (sh G y) x
          · rw [e] at ho ⊢
            rw [beq_self_eq_true] at ho
            refine c_iff (fun w => w rfl) ?_
            refine c_let ?_
            rw [nI_suc]
            exact ho
          · rw [beq_eq_false_iff_ne.mpr e] at ho
            refine c_ift (fun w => e (bz_inj.mp w)) ?_
            refine c_let ?_
            rw [nI_suc]
            exact ho
      · refine c_ift (fun w => t3 ((nI_eq (by omega) (by omega)).mp w)) ?_
        exact no (fun w => t3 w.2.2.1)
    · refine c_ift (fun w => t2 ((nI_eq (by omega) (by omega)).mp w)) ?_
      exact no (fun w => t2 w.2.1)
  · refine c_ift (fun w => t1 ((nI_eq (by omega) (by omega)).mp w)) ?_
    exact no (fun w => t1 w.1)
end AL

/-! ACCEPT: the model -/
def n94 (m1 s : mM) (p0 p1 : Nat → Bool) (k : Nat) : Prop := (∀ x, x < 4096 → s.1 94 x = bz (if x < k then p1 x else p0 x)) ∧ fr (fun a _ => a == 94) m1 s
theorem n94_s {m1 s : mM} {p0 p1 : Nat → Bool} {k : Nat} (h : n94 m1 s p0 p1 k) : n94 m1 (sI s 94 k (bz (p1 k))) p0 p1 (k + 1) := ⟨fun x hx => by
  by_cases c : x = k
  · rw [sI_eq ⟨rfl, c⟩, if_pos (by omega), c]
  · rw [sI_ne (by omega), h.1 x hx]
    by_cases d : x < k
    · rw [if_pos d, if_pos (by omega)]
    · rw [if_neg d, if_neg (by omega)], fr_sI h.2 (by rfl)⟩
theorem n94_0 {m1 : mM} {p0 p1 : Nat → Bool} (h : ∀ x, x < 4096 → m1.1 94 x = bz (p0 x)) : n94 m1 m1 p0 p1 0 := ⟨fun x hx => by rw [h x hx, if_neg (by omega)], fr_rf⟩
theorem px_acF (f F : Nat → Int64) (bk : Bool) (k : Nat) : px (acF f F bk) k = if px F k = true then bk else px f k := by
  unfold px
  rw [lb_acF f F bk _ (Nat.mod_lt _ (by omega))]
theorem f94_md {x y : mM} (h : fr (fun a _ => a == 94) x y) : fr mdP x y := fr_mono h (fun a j w => by
  unfold mdP at w
  rw [Bool.or_eq_false_iff] at w
  exact w.2)
section AM
variable {S : xS} {W H n N : Nat} {m : mM} {B : Nat} {P : Nat → Bool} {Ms Ad : Nat → Int64} {o nb : Nat → Nat}
theorem macc36 (hW8 : 8 ≤ W) (hW : W ≤ 64) (hH8 : 8 ≤ H) (hH : H ≤ 64) (hB : 4 ≤ B) (hB2 : B ≤ 16) (oM : okP W H Ms) (oA : okP W H Ad) (hN : N = nS ba P 256) (ho : ∀ i, i < N → nb (o i) = i) (hnb : ∀ q, q < N → nb q < N ∧ o (nb q) = q) (X : ofI m B P Ms Ad nb) {q : Nat} (hq : q < 2 * N) {f : Nat → Int64} (h0 : ∀ x, x < 4096 → m.1 94 x = bz (px f x)) (z : Int32) : ∃ s, n94 m s (px f) (px (acF f (PFm W H Ms Ad P B o q) (q % 2 == 1))) 4096 ∧ xle (xden S mX13_accept 92 [(0, .ref 90), (3, .int z), (4, .int (nI 0))] [] (E W H n s)) (xden S mX13_accept 36 [(0, .ref 90), (2, .int (nI q)), (3, .int z), (4, .int (nI 0))] [] (E W H n m)) := by
  have N256 : N ≤ 256 := by rw [hN]; exact nS_256 P
  have rm : nI q - nI q / (2 : Int32) * (2 : Int32) = nI (q % 2) := pk_rem (by omega) (by decide) (by decide)
  refine x_sg (σ := mM) (τ := mM) (D := fun k s => xden S mX13_accept 36 [(0, .ref 90), (2, .int (nI q)), (3, .int z), (4, .int (nI k))] [] (E W H n s)) (Inv := fun k s => n94 m s (px f) (px (acF f (PFm W H Ms Ad P B o q) (q % 2 == 1))) k)
    (F := fun s => xden S mX13_accept 92 [(0, .ref 90), (3, .int z), (4, .int (nI 0))] [] (E W H n s)) (Post := fun s => n94 m s (px f) (px (acF f (PFm W H Ms Ad P B o q) (q % 2 == 1))) 4096) 4096 (fun k hk s hs => Or.inl ⟨_, n94_s hs, fun oo hoo => w_X13_accept_36 S _ _ _ _ _ _ ?_⟩) (fun s hs => ⟨s, hs, fun oo hoo => w_X13_accept_36 S _ _ _ _ _ _ ?_⟩) m (n94_0 h0)
  · have n4 : ∀ {a : Nat}, a ≠ 94 → (a == 94) = false := fun h => beq_eq_false_iff_ne.mpr h
    have io := isOf_s (S := S) (n := n) hW8 hW hH8 hH hB hB2 oM oA hN ho hnb (ofI_fr X hs.2 (fun a j h => n4 (by omega))) hq hk
    have v := hs.1 k hk
    rw [if_neg (by omega)] at v
    refine c_iff (fun w => by have := (nI_leI (a := 4096) (by omega) (by omega)).mp w; omega) ?_
    refine c_gr (by omega) (by rfl) (by rfl) (by rfl) ?_
    refine c_ob (by omega) (by rfl) ?_
    refine c_qI io ?_
    rw [px_acF] at hoo
    cases c : px (PFm W H Ms Ad P B o q) k
    · rw [c, if_neg Bool.false_ne_true] at hoo
      refine c_ift rfl ?_
      refine c_gr (by omega) (by rfl) (by rfl) (by rfl) ?_
      refine c_ri (i := k) (by omega) (by rfl) (by rfl) rfl (by first | omega | ((conv => rhs; whnf); first | omega | (show _ < OfNat.ofNat (α := Nat) _; omega))) (by first | omega | ((conv => lhs; whnf); first | omega | (show OfNat.ofNat (α := Nat) _ < _; omega))) (by decide) ?_
      rw [show s.1 (90 + 4) k = bz (px f k) from v]
      refine c_wz (i := k) (by omega) (by rfl) (by rfl) rfl (by first | omega | ((conv => rhs; whnf); first | omega | (show _ < OfNat.ofNat (α := Nat) _; omega))) (by first | omega | ((conv => lhs; whnf); first | omega | (show OfNat.ofNat (α := Nat) _ < _; omega))) (bz_01 _) ?_
      refine c_let ?_
      rw [nI_suc]
      exact hoo
    · rw [c, if_pos rfl] at hoo
      refine c_iff (by decide) ?_
      rw [rm]
      by_cases od : q % 2 = 1
      · rw [od] at hoo ⊢
        refine c_iff (fun w => w rfl) ?_
        refine c_wz (i := k) (by omega) (by rfl) (by rfl) rfl (by first | omega | ((conv => rhs; whnf); first | omega | (show _ < OfNat.ofNat (α := Nat) _; omega))) (by first | omega | ((conv => lhs; whnf); first | omega | (show OfNat.ofNat (α := Nat) _ < _; omega))) (Or.inr rfl) ?_
        refine c_let ?_
        rw [nI_suc]
        exact hoo
      · rw [show q % 2 = 0 by omega] at hoo ⊢
        refine c_ift (by decide) ?_
        refine c_wz (i := k) (by omega) (by rfl) (by rfl) rfl (by first | omega | ((conv => rhs; whnf); first | omega | (show _ < OfNat.ofNat (α := Nat) _; omega))) (by first | omega | ((conv => lhs; whnf); first | omega | (show OfNat.ofNat (α := Nat) _ < _; omega))) (Or.inl rfl) ?_
        refine c_let ?_
        rw [nI_suc]
        exact hoo
  · exact c_ift (by decide) hoo
theorem macc92 (hW8 : 8 ≤ W) (hW : W ≤ 64) (hH8 : 8 ≤ H) (hH : H ≤ 64) (hB : 4 ≤ B) (hB2 : B ≤ 16) (oM : okP W H Ms) (oA : okP W H Ad) (hN : N = nS ba P 256) (ho : ∀ i, i < N → nb (o i) = i) (hnb : ∀ q, q < N → nb q < N ∧ o (nb q) = q) (X : ofI m B P Ms Ad nb) {j : Nat} (hj : j < N) {R : Nat → Nat → Int64} {l : hL} (A : inkM m R) (Pa : paM m l) {g : Nat → Int64} (h0 : ∀ x, x < 4096 → m.1 94 x = bz (px g x)) : ∃ m', xden S mX13_accept 92 [(0, .ref 90), (3, .int (nI (2 * j + 1))), (4, .int (nI 0))] [] (E W H n m) = some (.inl (some (.int (nI (dfP (R 0) (acF g (PFm W H Ms Ad P B o (2 * j + 1)) true))))), E W H n m', 0, 0) ∧ mdA m m' R l 0 (acF g (PFm W H Ms Ad P B o (2 * j + 1)) true) := by
  have N256 : N ≤ 256 := by rw [hN]; exact nS_256 P
  generalize hG : acF g (PFm W H Ms Ad P B o (2 * j + 1)) true = G
  have L := x_sg (σ := mM) (τ := mM) (D := fun k s => xden S mX13_accept 92 [(0, .ref 90), (3, .int (nI (2 * j + 1))), (4, .int (nI k))] [] (E W H n s)) (Inv := fun k s => n94 m s (px g) (px G) k)
    (F := fun s => some (.inl (some (.int (nI (dfP (R 0) G)))), E W H n s, 0, 0)) (Post := fun s => mdA m s R l 0 G) 4096 (fun k hk s hs => Or.inl ⟨_, n94_s hs, fun oo hoo => w_X13_accept_92 S _ _ _ _ _ ?_⟩) (fun s hs => ?_) m (n94_0 h0)
  · obtain ⟨m', k1, k2⟩ := L
    exact ⟨m', k2 _ rfl, k1⟩
  · have n4 : ∀ {a : Nat}, a ≠ 94 → (a == 94) = false := fun h => beq_eq_false_iff_ne.mpr h
    have io := isOf_s (S := S) (n := n) hW8 hW hH8 hH hB hB2 oM oA hN ho hnb (ofI_fr X hs.2 (fun a j h => n4 (by omega))) (p := 2 * j + 1) (by omega) hk
    have v := hs.1 k hk
    rw [if_neg (by omega)] at v
    rw [← hG, px_acF] at hoo
    refine c_iff (fun w => by have := (nI_leI (a := 4096) (by omega) (by omega)).mp w; omega) ?_
    refine c_iff (nI_pos (by omega)) ?_
    refine c_gr (by omega) (by rfl) (by rfl) (by rfl) ?_
    refine c_gr (by omega) (by rfl) (by rfl) (by rfl) ?_
    refine c_ri (i := k) (by omega) (by rfl) (by rfl) rfl (by first | omega | ((conv => rhs; whnf); first | omega | (show _ < OfNat.ofNat (α := Nat) _; omega))) (by first | omega | ((conv => lhs; whnf); first | omega | (show OfNat.ofNat (α := Nat) _ < _; omega))) (by decide) ?_
    rw [show s.1 (90 + 4) k = bz (px g k) from v]
    cases c : px g k
    · rw [c] at hoo
      refine c_iff (fun w => w rfl) ?_
      refine c_ob (by omega) (by rfl) ?_
      refine c_qI io ?_
      cases d : px (PFm W H Ms Ad P B o (2 * j + 1)) k
      · rw [d, if_neg Bool.false_ne_true] at hoo
        refine c_ift rfl ?_
        refine c_wz (i := k) (by omega) (by rfl) (by rfl) rfl (by first | omega | ((conv => rhs; whnf); first | omega | (show _ < OfNat.ofNat (α := Nat) _; omega))) (by first | omega | ((conv => lhs; whnf); first | omega | (show OfNat.ofNat (α := Nat) _ < _; omega))) (Or.inl rfl) ?_
        refine c_let ?_
        rw [nI_suc]
        exact hoo
      · rw [d, if_pos rfl] at hoo
        refine c_iff (by decide) ?_
        refine c_wz (i := k) (by omega) (by rfl) (by rfl) rfl (by first | omega | ((conv => rhs; whnf); first | omega | (show _ < OfNat.ofNat (α := Nat) _; omega))) (by first | omega | ((conv => lhs; whnf); first | omega | (show OfNat.ofNat (α := Nat) _ < _; omega))) (Or.inr rfl) ?_
        refine c_let ?_
        rw [nI_suc]
        exact hoo
    · rw [c, show (if px (PFm W H Ms Ad P B o (2 * j + 1)) k = true then true else true) = true from by cases px (PFm W H Ms Ad P B o (2 * j + 1)) k <;> rfl] at hoo
      refine c_ift (by decide) ?_
      refine c_wz (i := k) (by omega) (by rfl) (by rfl) rfl (by first | omega | ((conv => rhs; whnf); first | omega | (show _ < OfNat.ofNat (α := Nat) _; omega))) (by first | omega | ((conv => lhs; whnf); first | omega | (show OfNat.ofNat (α := Nat) _ < _; omega))) (Or.inr rfl) ?_
      refine c_let ?_
      rw [nI_suc]
      exact hoo
  · have pi : piM s 94 G := fun k hk => by rw [hs.1 k hk, if_pos hk]
    obtain ⟨m', k1, k2, k3, k4⟩ := edits_s (S := S) (W := W) (H := H) (n := n) (inkM_fr A hs.2 (fun _ => rfl)) (paM_fr Pa hs.2 (fun a j q => beq_eq_false_iff_ne.mpr (by omega))) (g := G) pi (p := 0) (by omega)
    refine ⟨m', ⟨k2, k3, fr_tr (f94_md hs.2) (fr_mono k4 ed_md)⟩, fun oo hoo => w_X13_accept_92 S _ _ _ _ _ ?_⟩
    refine c_ift (by decide) ?_
    refine c_ob (by omega) (by rfl) ?_
    exact c_qI k1 hoo
theorem maccept_in (hW8 : 8 ≤ W) (hW : W ≤ 64) (hH8 : 8 ≤ H) (hH : H ≤ 64) (hB : 4 ≤ B) (hB2 : B ≤ 16) (oM : okP W H Ms) (oA : okP W H Ad) (hN : N = nS ba P 256) (ho : ∀ i, i < N → nb (o i) = i) (hnb : ∀ q, q < N → nb q < N ∧ o (nb q) = q) (e : m.1 90 35 = 1) {c i q : Nat} (hc : c ≤ 256) (e79 : m.1 90 79 = nI c) (hi : i < c) (er : m.1 141 i = nI q) (hq : q < 2 * N) {t : Option Nat} (et : m.1 142 i = pvI t) (ht : ∀ j, t = some j → j < N) (X : ofI m B P Ms Ad nb) {R : Nat → Nat → Int64} {l : hL} (A : inkM m R) (Pa : paM m l) : ∃ m', xM S mX13_accept [.ref 90, .int (nI i)] (E W H n m) = some (.inl (some (.int (nI (dfP (R 0) (acG (PFm W H Ms Ad P B o) t q (R 0)))))), E W H n m', 0, 0) ∧ mdA (sI m 90 2 0) m' R l 0 (acG (PFm W H Ms Ad P B o) t q (R 0)) := by
  have N256 : N ≤ 256 := by rw [hN]; exact nS_256 P
  have n4 : ∀ {a : Nat}, a ≠ 94 → (a == 94) = false := fun h => beq_eq_false_iff_ne.mpr h
  obtain ⟨m1, k1, k2, k3⟩ := takes_s (S := S) (W := W) (H := H) (n := n) (mA1 A 0) (p := 0) (by omega)
  have X1 := ofI_fr (ofI_fr X (th_fr (v := 0)) (fun a j h => thP_n (by omega))) k3 (fun a j h => n4 (by omega))
  have A1 : inkM m1 R := inkM_fr (mA1 A 0) k3 (fun _ => rfl)
  have P1 : paM m1 l := paM_fr (mP1 Pa 0) k3 (fun a j q => beq_eq_false_iff_ne.mpr (by omega))
  obtain ⟨s, j1, j2⟩ := macc36 (S := S) (n := n) hW8 hW hH8 hH hB hB2 oM oA hN ho hnb X1 hq (f := R 0) k2 (pvI t)
  generalize hg : acF (R 0) (PFm W H Ms Ad P B o q) (q % 2 == 1) = g at *
  have A2 : inkM s R := inkM_fr A1 j1.2 (fun _ => rfl)
  have P2 : paM s l := paM_fr P1 j1.2 (fun a j q => beq_eq_false_iff_ne.mpr (by omega))
  have pi : piM s 94 g := fun k hk => by rw [j1.1 k hk, if_pos hk]
  have Q : fr mdP (sI m 90 2 0) s := fr_tr (f94_md k3) (f94_md j1.2)
  have start : ∀ {oo : xO}, xden S mX13_accept 92 [(0, .ref 90), (3, .int (pvI t)), (4, .int (nI 0))] [] (E W H n s) = some oo → xM S mX13_accept [.ref 90, .int (nI i)] (E W H n m) = some oo := fun {oo} hoo => by
    refine w_X13_accept S _ _ _ _ ?_
    refine c_gi (by omega) (by rfl) (by rfl) (by rfl) ?_
    rw [e79]
    refine c_ob (by omega) (by rfl) ?_
    refine c_qI (lacks_in e (by omega) (by rw [nI_toInt (by omega)]; omega)) ?_
    refine c_ift rfl ?_
    refine c_ob (by omega) (by rfl) ?_
    refine c_qV k1 ?_
    refine c_gr (by omega) (by rfl) (by rfl) (by rfl) ?_
    refine c_ri (i := i) (by omega) (by rfl) (by rfl) rfl (by first | omega | ((conv => rhs; whnf); first | omega | (show _ < OfNat.ofNat (α := Nat) _; omega))) (by first | omega | ((conv => lhs; whnf); first | omega | (show OfNat.ofNat (α := Nat) _ < _; omega))) (by decide) ?_
    refine c_gr (by omega) (by rfl) (by rfl) (by rfl) ?_
    refine c_ri (i := i) (by omega) (by rfl) (by rfl) rfl (by first | omega | ((conv => rhs; whnf); first | omega | (show _ < OfNat.ofNat (α := Nat) _; omega))) (by first | omega | ((conv => lhs; whnf); first | omega | (show OfNat.ofNat (α := Nat) _ < _; omega))) (by decide) ?_
    rw [show m1.1 (90 + 51) i = nI q from (fr_i k3 141 i (n4 (by omega))).trans ((sI_ne (by omega)).trans er), show m1.1 (90 + 52) i = pvI t from (fr_i k3 142 i (n4 (by omega))).trans ((sI_ne (by omega)).trans et)]
    exact j2 _ hoo
  cases t with
  | none =>
    obtain ⟨m', q1, q2, q3, q4⟩ := edits_s (S := S) (W := W) (H := H) (n := n) A2 P2 (g := g) pi (p := 0) (by omega)
    refine ⟨m', start ?_, ?_⟩
    · refine w_X13_accept_92 S _ _ _ _ _ ?_
      refine c_iff (by decide) ?_
      refine c_ift (show (-1 : Int32) < 0 by decide) ?_
      refine c_ob (by omega) (by rfl) ?_
      rw [show acG (PFm W H Ms Ad P B o) none q (R 0) = g from hg]
      exact c_qI q1 rfl
    · rw [show acG (PFm W H Ms Ad P B o) none q (R 0) = g from hg]
      exact ⟨q2, q3, fr_tr Q (fr_mono q4 ed_md)⟩
  | some j =>
    obtain ⟨m', q1, q2, q3, q4⟩ := macc92 (S := S) (n := n) hW8 hW hH8 hH hB hB2 oM oA hN ho hnb (ofI_fr X1 j1.2 (fun a j h => n4 (by omega))) (ht j rfl) A2 P2 pi
    rw [show acG (PFm W H Ms Ad P B o) (some j) q (R 0) = acF g (PFm W H Ms Ad P B o (2 * j + 1)) true from by rw [← hg]; rfl]
    exact ⟨m', start q1, q2, q3, fr_tr Q q4⟩
end AM

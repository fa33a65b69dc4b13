/-! ACCEPT: the class -/
def acF (f F : Nat → Int64) (bk : Bool) : Nat → Int64 := fun y => if bk then f y ||| F y else f y &&& (F y ^^^ (-1))
def acG (PF : Nat → Nat → Int64) (t : Option Nat) (q : Nat) (f : Nat → Int64) : Nat → Int64 := match t with
  | none => acF f (PF q) (q % 2 == 1)
  | some j => acF (acF f (PF q) (q % 2 == 1)) (PF (2 * j + 1)) true
theorem lb_acF (f F : Nat → Int64) (bk : Bool) (y : Nat) {i : Nat} (hi : i < 64) : lb (acF f F bk y) i = if lb (F y) i = true then bk else lb (f y) i := by
  unfold acF
  cases bk
  · show lb (f y &&& (F y ^^^ (-1))) i = _
    rw [lb_and, lb_not _ hi]
    cases lb (F y) i <;> simp
  · show lb (f y ||| F y) i = _
    rw [lb_or]
    cases lb (F y) i <;> simp
theorem acF_ok {W H : Nat} (hW : W ≤ 64) {f F : Nat → Int64} (of : okP W H f) (oF : okP W H F) (bk : Bool) : okP W H (acF f F bk) := fun y x h => by
  have hx : x < 64 := lb_lt h
  rw [lb_acF f F bk y hx] at h
  by_cases c : lb (F y) x = true
  · exact oF y x c
  · rw [if_neg c] at h
    exact of y x h
theorem acF_0 {f F : Nat → Int64} {bk : Bool} {y : Nat} (h : F y = 0) : acF f F bk y = f y := lb_ext (fun i hi => by rw [lb_acF f F bk y hi, h, lb_0]; rfl)
theorem sL_put (m : mM) (b a k : Nat) (f g : Nat → Int64) : sL (aL m b (fb_put f g a k)) b (a + k) (g k) = aL m b (fb_put f g a (k + 1)) := by
  rw [← aL_upd, aL_eq rfl, put_L, aL_aL]
theorem mvd_back {F : Nat → Int64} {l t r b : Nat} (h : isBox F l t r b) (hr : r < 64) (y : Nat) : mvd (mvd (F y) (-(l : Int))) (l : Int) = F y := lb_ext (fun i hi => by
  have le := (isBox_le h).1
  rw [lb_mvd _ _ hi]
  by_cases c : l ≤ i
  · rw [decide_eq_true (by omega), Bool.true_and, lb_mvd _ _ (by omega), decide_eq_true (by omega), Bool.true_and, show (((((i : Int) - (l : Int)).toNat : Nat) : Int) - -(l : Int)).toNat = i by omega]
  · rw [decide_eq_false (by omega), Bool.false_and]
    cases e : lb (F y) i
    · rfl
    · have := (h.1 y i e).1
      omega)
section AC
variable {S : xS} {W H n : Nat} {m : mM} {F : Nat → Int64}
theorem stampPart_s (hW : W ≤ 64) (hH : H ≤ 64) {a p : Nat} (I : imA a) (ha : a < 10) (J : ptA p n) (hp : 147 ≤ p) (X : ptX m p F) (ne : ctP F ≠ 0) (oF : okP W H F) {f : Nat → Int64} (ef : m.2.1 (a + 1) = f) (of : okP W H f) {bk : Bool} (hb : (if (p - 147) % 5 = 3 ∧ 147 ≤ p then (1 : Int32) else 0) = bz bk) : xM S mX4_stampPart [.ref a, .ref p] (E W H n m) = some (.inl none, E W H n (aL m (a + 1) (acF f F bk)), 0, 0) := by
  obtain ⟨_, x2⟩ := X
  obtain ⟨l, t, r, b, g1, g2, g3, g4, g5, g6, g7, g8⟩ := x2 ne
  obtain ⟨z1, z2⟩ := isBox_le g1
  have bH : b < H := by
    obtain ⟨x, hx⟩ := g1.2.2.2.2
    exact (oF _ _ hx).2
  have j2 := J.2.2
  have i2 := I.2.2
  have oG := acF_ok hW of oF bk
  have fin : fb_put f (fun k => acF f F bk (t + k)) t (b + 1 - t) = acF f F bk := funext fun y => by
    by_cases c : t ≤ y ∧ y < t + (b + 1 - t)
    · rw [fb_put_in c.1 c.2, show t + (y - t) = y by omega]
    · rw [fb_put_out (by omega)]
      refine (acF_0 (lb_ext fun i hi => ?_)).symm
      rw [lb_0]
      cases e : lb (F y) i
      · rfl
      · have := g1.1 y i e
        omega
  refine w_X4_stampPart S _ _ _ _ ?_
  refine x_fo (b + 1 - t) (fun k s => xden S mX4_stampPart 2 [(0, .ref a), (1, .ref p), (2, .int (nI k))] [] (E W H n s)) (fun k => aL m (a + 1) (fb_put f (fun k => acF f F bk (t + k)) t k)) (by rw [fb_put_0]; exact aL_self m _ ef) (fun k hk K => ?_) ?_
  · have ap : p + 1 ≠ a + 1 := by omega
    generalize hs : aL m (a + 1) (fb_put f (fun k => acF f F bk (t + k)) t k) = s
    have s1 : ∀ x j, s.1 x j = m.1 x j := fun x j => by rw [← hs]; rfl
    have sr : s.2.1 (p + 1) k = shR F l t b k := by rw [← hs, aL_ne ap]; exact g8 k (by omega)
    have sy : s.2.1 (a + 1) (t + k) = f (t + k) := by rw [← hs, aL_eq rfl, fb_put_out (by omega)]
    have k1 := shapeRow_s (S := S) (W := W) (H := H) (m := s) J (k := k) (by omega)
    rw [sr] at k1
    have k2 := moved_s S (E W H n s) (shR F l t b k) (nI l)
    rw [nI_toInt (by omega), show mvd (shR F l t b k) (l : Int) = F (t + k) from by
      unfold shR
      rw [if_pos (by omega)]
      exact mvd_back g1 g2 _] at k2
    have k3 := rowAt_E (S := S) (n := n) (m := s) hW hH I (y := t + k) (by omega)
    rw [sy] at k3
    have nx : ∀ v : Int64, v = acF f F bk (t + k) → xM S mX4_putRow [.ref a, .int (nI (t + k)), .long v] (E W H n s) = some (.inl none, E W H n (aL m (a + 1) (fb_put f (fun k => acF f F bk (t + k)) t (k + 1))), 0, 0) := fun v hv => by
      have k4 := putRow_E (S := S) (n := n) (m := s) hW hH I (y := t + k) (by omega) v
      rw [hv, okP_row oG, ← hs] at k4
      rw [hv, ← hs, ← sL_put]
      exact k4
    refine w_X4_stampPart_2 S _ _ _ _ _ ?_
    refine c_gi (by omega) J.1 (by rfl) (by rfl) ?_
    rw [s1, g7]
    refine c_iff (fun w => by have := (nI_leI (by omega) (by omega)).mp w; omega) ?_
    refine c_ob (by omega) J.1 ?_
    refine c_qJ k1 ?_
    refine c_gi (by omega) J.1 (by rfl) (by rfl) ?_
    rw [s1, g4]
    refine c_qJ k2 ?_
    refine c_gi (by omega) J.1 (by rfl) (by rfl) ?_
    rw [s1, g5]
    refine c_let ?_
    rw [nI_add]
    refine c_gb (by omega) J.1 (by rfl) (by rfl) ?_
    rw [hb]
    cases bk
    · refine c_ift rfl ?_
      refine c_ob (by omega) I.1 ?_
      refine c_qJ k3 ?_
      refine c_ob (by omega) I.1 ?_
      refine c_qV (nx _ rfl) ?_
      refine c_let ?_
      rw [nI_suc]
      exact K
    · refine c_iff (by decide) ?_
      refine c_ob (by omega) I.1 ?_
      refine c_qJ k3 ?_
      refine c_ob (by omega) I.1 ?_
      refine c_qV (nx _ rfl) ?_
      refine c_let ?_
      rw [nI_suc]
      exact K
  · rw [fin]
    refine w_X4_stampPart_2 S _ _ _ _ _ ?_
    refine c_gi (by omega) J.1 (by rfl) (by rfl) ?_
    rw [show (aL m (a + 1) (acF f F bk)).1 p 5 = nI (b + 1 - t) from g7]
    exact c_ift ((nI_leI (by omega) (by omega)).mpr (by omega)) rfl
theorem bk_pcl (o : Nat → Nat) (q : Nat) : (if (pcl o q - 147) % 5 = 3 ∧ 147 ≤ pcl o q then (1 : Int32) else 0) = bz (q % 2 == 1) := by
  by_cases od : q % 2 = 1
  · rw [if_pos (show (pcl o q - 147) % 5 = 3 ∧ 147 ≤ pcl o q by rw [pcl_o od]; omega), od]
    rfl
  · rw [if_neg (show ¬ ((pcl o q - 147) % 5 = 3 ∧ 147 ≤ pcl o q) by rw [pcl_e (by omega)]; omega), show q % 2 = 0 by omega]
    rfl
theorem caccept_in (hW : W ≤ 64) (hH : H ≤ 64) {R : Nat → Nat → Int64} {l : hL} (G : pgC m W H R) (K : hsC m W H l) (e : m.1 0 12 = 1) {c i q : Nat} {o : Nat → Nat} (hc : c ≤ 256) (e19 : m.1 64 19 = nI c) (hi : i < c) (er : m.2.2 71 i = some (pcl o q)) (I : ptA (pcl o q) n) {PF : Nat → Nat → Int64} (oF : ∀ p, okP W H (PF p)) (X : ptX m (pcl o q) (PF q)) (ne : ctP (PF q) ≠ 0) {t : Option Nat} (hp : m.2.2 (pcl o q) 8 = t.map (fun j => 147 + 5 * o j + 3)) (hj : ∀ j, t = some j → o j < n ∧ ptX m (147 + 5 * o j + 3) (PF (2 * j + 1)) ∧ ctP (PF (2 * j + 1)) ≠ 0) : ∃ m', xM S mX12_accept [.ref 0, .int (nI i)] (E W H n m) = some (.inl (some (.int (nI (dfP (R 0) (acG PF t q (R 0)))))), E W H n m', 0, 0) ∧ ceA m m' W H R l 0 (acG PF t q (R 0)) := by
  have p147 : 147 ≤ pcl o q := by unfold pcl; omega
  have o0 := (G 0 (by omega)).2
  obtain ⟨m1, s, hs, Is, k1, k2, k3, k4⟩ := edit_c (S := S) (n := n) hW hH G K (p := 0) (by omega)
  have FA : fr (fun a _ => decide (a < 30)) m m1 := fun a j w => by
    have a30 : ¬ a < 30 := of_decide_eq_false w
    have z := (k4 (R 0) o0).1.2.2 a j (by unfold cdP hsP; simp; omega)
    refine ⟨z.1, ?_, z.2.2⟩
    have z2 := z.2.1
    rw [aL_ne (by omega)] at z2
    exact z2
  have n30 : ∀ {a : Nat}, 30 ≤ a → (decide (a < 30)) = false := fun h => decide_eq_false (by omega)
  have X1 := ptX_fr X FA (fun j _ _ => n30 (by omega)) (fun j => n30 (by omega))
  have e3 : m1.2.1 3 = R 0 := k2 0 (by omega)
  have st := stampPart_s (S := S) (a := 2) hW hH (im_pg 0 (by omega)) (by omega) I p147 X1 ne (oF q) e3 o0 (bk_pcl o q)
  have o1 := acF_ok hW o0 (oF q) (q % 2 == 1)
  cases t with
  | none =>
    obtain ⟨j1, j2⟩ := k4 (acG PF none q (R 0)) o1
    refine ⟨_, w_X12_accept S _ _ _ _ ?_, j1⟩
    refine c_ob (by omega) (by rfl) ?_
    refine c_qR (changeOf_in e hc e19 hi er) ?_
    refine c_gr (by omega) (by rfl) (by rfl) (by rfl) ?_
    refine c_rr (i := 0) (r := 2) (by omega) (by rfl) (by decide) (by rfl) (by first | omega | ((conv => rhs; whnf); first | omega | (show _ < OfNat.ofNat (α := Nat) _; omega))) (by first | omega | ((conv => lhs; whnf); first | omega | (show OfNat.ofNat (α := Nat) _ < _; omega))) (by rfl) ?_
    refine c_gr (by omega) (by rfl) (by rfl) (by rfl) ?_
    refine c_ob (by omega) (by rfl) ?_
    refine c_qR k1 ?_
    refine c_ob (by omega) (by rfl) ?_
    refine c_qV st ?_
    refine c_gn (by have := I.2.2; omega) I.1 (by rfl) (by rfl) ?_
    refine c_on0 ((fr_r FA _ _ (n30 (by omega))).trans hp) ?_
    refine c_ob (by omega) (by rfl) ?_
    exact c_qI j2 rfl
  | some j =>
    obtain ⟨oj, Xj, nej⟩ := hj j rfl
    have Ij := (ptA_rg (q := o j) (n := n) oj).2
    obtain ⟨j1, j2⟩ := k4 (acG PF (some j) q (R 0)) (acF_ok hW o1 (oF _) true)
    have F3 : fr (fun a _ => a == 3) m1 (aL m1 3 (acF (R 0) (PF q) (q % 2 == 1))) := fr_aL fr_rf (fun _ => rfl)
    have n3 : ∀ {a : Nat}, a ≠ 3 → (a == 3) = false := fun h => beq_eq_false_iff_ne.mpr h
    have X2 := ptX_fr (ptX_fr Xj FA (fun j _ _ => n30 (by omega)) (fun j => n30 (by omega))) F3 (fun j _ _ => n3 (by omega)) (fun j => n3 (by omega))
    have st2 := stampPart_s (S := S) (a := 2) hW hH (im_pg 0 (by omega)) (by omega) Ij (by omega) X2 nej (oF _) (aL_eq rfl) o1 (bk := true) (if_pos (by omega))
    rw [show (2 + 1 : Nat) = 3 from rfl, aL_aL] at st2
    refine ⟨_, w_X12_accept S _ _ _ _ ?_, j1⟩
    refine c_ob (by omega) (by rfl) ?_
    refine c_qR (changeOf_in e hc e19 hi er) ?_
    refine c_gr (by omega) (by rfl) (by rfl) (by rfl) ?_
    refine c_rr (i := 0) (r := 2) (by omega) (by rfl) (by decide) (by rfl) (by first | omega | ((conv => rhs; whnf); first | omega | (show _ < OfNat.ofNat (α := Nat) _; omega))) (by first | omega | ((conv => lhs; whnf); first | omega | (show OfNat.ofNat (α := Nat) _ < _; omega))) (by rfl) ?_
    refine c_gr (by omega) (by rfl) (by rfl) (by rfl) ?_
    refine c_ob (by omega) (by rfl) ?_
    refine c_qR k1 ?_
    refine c_ob (by omega) (by rfl) ?_
    refine c_qV st ?_
    have hp' : (aL m1 (2 + 1) (acF (R 0) (PF q) (q % 2 == 1))).2.2 (pcl o q) 8 = some (147 + 5 * o j + 3) := (fr_r FA _ _ (n30 (by omega))).trans hp
    refine c_gn (by have := I.2.2; omega) I.1 (by rfl) (by rfl) ?_
    refine c_on1 (r := 147 + 5 * o j + 3) hp' ?_
    refine c_gm (by have := I.2.2; omega) I.1 (by rfl) (by rfl) hp' ?_
    refine c_ob (by omega) (by rfl) ?_
    refine c_qV st2 ?_
    refine c_ob (by omega) (by rfl) ?_
    exact c_qI j2 rfl
end AC

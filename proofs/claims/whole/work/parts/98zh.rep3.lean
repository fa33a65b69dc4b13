/-! REPORT: the whole text; the class tells it -/
noncomputable def rpAll (PF : Nat → Nat → Int64) (L : (Nat → Bool) × (Nat → Option Nat)) (hd : Bool) (St : stT) (cnt : Nat) : Nat → List Int32
  | 0 => []
  | p + 1 => rpAll PF L hd St cnt p ++ (if liB PF L hd St cnt p = true then rpL PF L St cnt p else [])
def hdT (dx dy sk : Int) (tu : Bool) (c : Nat) : List Int32 := xSB 21 ++ (nmT dx ++ [nI 44] ++ nmT dy) ++ xSB 23 ++ nmT sk ++ (if tu = true then xSB 24 else []) ++ [nI 10] ++ nmT (c : Int) ++ (if c = 1 then xSB 25 else xSB 26) ++ [nI 10]
theorem hdT_len (dx dy sk : Int) (tu : Bool) (c : Nat) : (hdT dx dy sk tu c).length ≤ 80 := by
  obtain ⟨h21, _, h23, h24, h25, h26, _⟩ := xSB_len
  have e26 : (xSB 26).length = 8 := by rw [h26, List.length_append, h25]; rfl
  have a := nmT_len dx
  have b := nmT_len dy
  have d := nmT_len sk
  have e := nmT_len (c : Int)
  unfold hdT
  simp only [List.length_append]
  have t : (if tu = true then xSB 24 else []).length ≤ 7 := by
    split
    · omega
    · exact Nat.zero_le _
  have u : (if c = 1 then xSB 25 else xSB 26).length ≤ 8 := by split <;> omega
  rw [h21, h23]
  show 6 + (_ + 1 + _) + 6 + _ + _ + 1 + _ + _ + 1 ≤ 80
  omega
section RA
variable {PF : Nat → Nat → Int64} {L : (Nat → Bool) × (Nat → Option Nat)} {hd : Bool} {St : stT} {cnt : Nat}
theorem rpAll_len : ∀ p, (rpAll PF L hd St cnt p).length ≤ 110 * p := fun p => by
  induction p with
  | zero => exact Nat.le_refl _
  | succ p ih =>
    unfold rpAll
    rw [List.length_append]
    split
    · have := rpL_len PF L St cnt p
      omega
    · show _ + 0 ≤ _
      omega
theorem rpAll_up : ∀ d p, fb_ct (liB PF L hd St cnt) (p + d) = fb_ct (liB PF L hd St cnt) p → rpAll PF L hd St cnt (p + d) = rpAll PF L hd St cnt p := fun d => by
  induction d with
  | zero => exact fun _ _ => rfl
  | succ d ih =>
    intro p h
    have m1 := fb_ct_mono (liB PF L hd St cnt) (m := p) (n := p + d) (by omega)
    rw [show p + (d + 1) = p + d + 1 by omega, fb_ct_succ] at h
    have f : liB PF L hd St cnt (p + d) = false := by
      cases hb : liB PF L hd St cnt (p + d)
      · rfl
      · rw [hb, if_pos rfl] at h
        omega
    rw [f] at h
    rw [show p + (d + 1) = p + d + 1 by omega]
    show rpAll PF L hd St cnt (p + d) ++ (if liB PF L hd St cnt (p + d) = true then _ else []) = _
    rw [f, if_neg Bool.false_ne_true, List.append_nil]
    exact ih p (by omega)
theorem rpAll_eq {p q : Nat} (h : fb_ct (liB PF L hd St cnt) p = fb_ct (liB PF L hd St cnt) q) : rpAll PF L hd St cnt p = rpAll PF L hd St cnt q := by
  rcases Nat.le_total p q with w | w
  · obtain ⟨d, rfl⟩ : ∃ d, q = p + d := ⟨q - p, by omega⟩
    exact (rpAll_up d p h.symm).symm
  · obtain ⟨d, rfl⟩ : ∃ d, p = q + d := ⟨p - q, by omega⟩
    exact rpAll_up d q h
end RA
section RC
variable {S : xS} {W H n N : Nat} {m : mM} {i : Nat} {o : Nat → Nat} {PF : Nat → Nat → Int64} {St : stT} {cnt : Nat} {O A : Nat → Int64} {L : (Nat → Bool) × (Nat → Option Nat)} {hd : Bool}
theorem lines_s (hN : N ≤ 128) (hn : N ≤ n) (c7 : cnt ≤ 7) (ho : ∀ i, i < N → o i < N) (X : rgO m N o PF) (J : paI m N o L) (hL : ∀ i j, L.2 i = some j → j < N ∧ ctP (PF (2 * j + 1)) = ctP (PF (2 * i))) (I : liC m o PF L hd St cnt O A (2 * N)) (hi : i < 2147483648) {T : List Int32} (hT : T.length ≤ 80) (R : prI m i T) : ∃ m', xden S mX1_report 106 [(0, .ref 64), (1, .ref 89), (2, .int (nI 0))] [] (E W H n m) = some (.inl none, E W H n m', 0, 0) ∧ prI m' i (T ++ rpAll PF L hd St cnt (2 * N)) ∧ fr prP m m' := by
  obtain ⟨i1, i2⟩ := I
  have cle := fb_ct_le (liB PF L hd St cnt) (2 * N)
  have Lp := x_sg (σ := mM) (τ := mM) (D := fun c s => xden S mX1_report 106 [(0, .ref 64), (1, .ref 89), (2, .int (nI c))] [] (E W H n s)) (Inv := fun c s => fr prP m s ∧ ∃ p, p ≤ 2 * N ∧ fb_ct (liB PF L hd St cnt) p = c ∧ prI s i (T ++ rpAll PF L hd St cnt p))
    (F := fun s => some (.inl none, E W H n s, 0, 0)) (Post := fun s => fr prP m s ∧ prI s i (T ++ rpAll PF L hd St cnt (2 * N))) (fb_ct (liB PF L hd St cnt) (2 * N)) (fun c hc s hs => ?_) (fun s hs => ?_) m ⟨fr_rf, 0, Nat.zero_le _, rfl, by show prI m i (T ++ []); rw [List.append_nil]; exact R⟩
  · obtain ⟨m', ⟨g1, g2⟩, g3⟩ := Lp
    exact ⟨m', g3 _ rfl, g2, g1⟩
  · left
    obtain ⟨h1, p0, h2, h3, h4⟩ := hs
    obtain ⟨p, q1, q2, q3⟩ := fb_ct_kth hc
    rw [rpAll_eq (q := p) (by rw [h3, q3])] at h4
    obtain ⟨r1, r2, r3⟩ := i2 p q1 q2
    rw [q3] at r1
    have y := q2
    unfold liB at y
    rw [Bool.and_eq_true, Bool.and_eq_true, decide_eq_true_eq] at y
    have oR := ho (p / 2) (by omega)
    have g147 : 147 ≤ pcl o p := by unfold pcl; omega
    have f89 : ∀ {a j : Nat}, a ≠ 89 → prP a j = false := fun h => by unfold prP; exact beq_eq_false_iff_ne.mpr h
    have Xs : rgO s N o PF := fun i hi => by
      obtain ⟨x1, x2, x3⟩ := X i hi
      exact ⟨(fr_r h1 _ _ (f89 (by decide))).trans x1, ptX_pr x2 (by omega) (by omega) h1, ptX_pr x3 (by omega) (by omega) h1⟩
    have len := rpAll_len (PF := PF) (L := L) (hd := hd) (St := St) (cnt := cnt) p
    obtain ⟨s', k1, k2, k3⟩ := partReport_s (S := S) (W := W) (H := H) (n := n) (m := s) (o := o) (PF := PF) (L := L) (p := p) c7 (pcl_A (by omega)) (rgO_p Xs q1) y.1.1 (by
        rw [fr_r h1 _ _ (f89 (by omega))]
        rcases Nat.mod_two_eq_zero_or_one p with w | w
        · rw [pcl_e w, J.1 _ (by omega)]
          unfold tgO
          rw [if_pos w]
        · have y2 := y.1.2
          rw [decide_eq_false (by omega), Bool.false_or, Bool.not_eq_true'] at y2
          have j2 := J.2 (p / 2) (by omega)
          rw [y2] at j2
          rw [pcl_o w]
          unfold tgO
          rw [if_neg (by omega)]
          cases hr : m.2.2 (147 + 5 * o (p / 2) + 3) 8 with
          | none => rfl
          | some x => rw [hr] at j2; cases j2) (fun j hj => by
        have e : L.2 (p / 2) = some j ∧ p % 2 = 0 := by
          unfold tgO at hj
          split at hj
          · rename_i w
            exact ⟨hj, w⟩
          · cases hj
        obtain ⟨v1, v2⟩ := hL _ _ e.1
        have oj := ho j v1
        refine ⟨by omega, (Xs j v1).2.2, ?_⟩
        rw [v2, show 2 * (p / 2) = p by omega]
        exact y.1.1) (by rw [fr_i h1 _ _ (f89 (by omega))]; exact r3) h4 hi (by rw [List.length_append]; omega)
    refine ⟨s', ⟨fr_tr h1 k3, p + 1, by omega, by rw [fb_ct_succ, q2, q3]; rfl, ?_⟩, fun oo hoo => w_X1_report_106 S _ _ _ _ _ ?_⟩
    · show prI s' i (T ++ (rpAll PF L hd St cnt p ++ (if liB PF L hd St cnt p = true then rpL PF L St cnt p else [])))
      rw [if_pos q2, ← List.append_assoc]
      exact k2
    · refine c_gi (by omega) (by rfl) (by rfl) (by rfl) ?_
      rw [fr_i h1 64 19 rfl, i1]
      refine c_iff (fun w => by have := (nI_leI (by omega) (by omega)).mp w; omega) ?_
      refine c_gr (by omega) (by rfl) (by rfl) (by rfl) ?_
      refine c_rz (by omega) (by rfl) (show 512 = eL H 71 from rfl) ?_
      refine c_iff (fun w => by have := (nI_leI (by omega) (by omega)).mp w; omega) ?_
      refine c_gr (by omega) (by rfl) (by rfl) (by rfl) ?_
      refine c_rr (i := c) (by omega) (by rfl) (by decide) (by rfl) (by first | omega | ((conv => rhs; whnf); first | omega | (show _ < OfNat.ofNat (α := Nat) _; omega))) (by first | omega | ((conv => lhs; whnf); first | omega | (show OfNat.ofNat (α := Nat) _ < _; omega))) ((fr_r h1 71 c rfl).trans r1) ?_
      have IA := pcl_A (o := o) (n := n) (p := p) (by omega)
      refine c_ob (by have := IA.2.2; omega) IA.1 ?_
      refine c_qV k1 ?_
      refine c_let ?_
      rw [nI_suc]
      exact hoo
  · obtain ⟨h1, p0, h2, h3, h4⟩ := hs
    refine ⟨s, ⟨h1, by rw [← rpAll_eq h3]; exact h4⟩, fun oo hoo => w_X1_report_106 S _ _ _ _ _ ?_⟩
    refine c_gi (by omega) (by rfl) (by rfl) (by rfl) ?_
    rw [fr_i h1 64 19 rfl, i1]
    refine c_ift ((nI_leI (by omega) (by omega)).mpr (Nat.le_refl _)) ?_
    exact hoo
end RC

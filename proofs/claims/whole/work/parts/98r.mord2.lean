/-! ORDER: the model's regions in their order -/
noncomputable def po (G : Nat → Nat) (N q : Nat) : Nat := fa_first (fun i => decide (oG G N i = q)) N
theorem po_s {G : Nat → Nat} {N : Nat} (inj : ∀ a b, a < N → b < N → G a = G b → a = b) {q : Nat} (hq : q < N) : po G N q < N ∧ oG G N (po G N q) = q := by
  obtain ⟨i, hi, e⟩ := oG_onto inj hq
  have lt : fa_first (fun i => decide (oG G N i = q)) N < N := by
    rcases Nat.lt_or_ge (fa_first (fun i => decide (oG G N i = q)) N) N with w | w
    · exact w
    · have := fa_first_no (fun i => decide (oG G N i = q)) N i (by omega)
      exact absurd ((decide_eq_true e).symm.trans this) (by decide)
  exact ⟨lt, of_decide_eq_true (fa_first_yes (fun i => decide (oG G N i = q)) N lt)⟩
theorem po_o {G : Nat → Nat} {N : Nat} (inj : ∀ a b, a < N → b < N → G a = G b → a = b) {i : Nat} (hi : i < N) : po G N (oG G N i) = i := by
  obtain ⟨h1, h2⟩ := po_s inj ((oG_s inj).1 i hi)
  exact oG_inj inj h1 hi h2
theorem po_le {G : Nat → Nat} {N : Nat} (inj : ∀ a b, a < N → b < N → G a = G b → a = b) {r q : Nat} (hq : q < N) (h : r ≤ po G N q) : G (oG G N r) ≤ G q := by
  obtain ⟨h1, h2⟩ := po_s inj hq
  rcases Nat.lt_or_eq_of_le h with w | w
  · have := (oG_s inj).2 r _ w h1
    rw [h2] at this
    omega
  · rw [w, h2]
    exact Nat.le_refl _
theorem pick1 {G : Nat → Nat} {N : Nat} (inj : ∀ a b, a < N → b < N → G a = G b → a = b) {r : Nat} (hr : r < N) {v : Int} {X : Nat → Bool} (h : bstV (fun q => !decide (po G N q < r) && (!false || X q)) G N v) : v = oG G N r := by
  have cr : (!decide (po G N (oG G N r) < r) && (!false || X (oG G N r))) = true := by rw [po_o inj hr, decide_eq_false (Nat.lt_irrefl r)]; rfl
  have lr := (oG_s inj).1 r hr
  rcases h with ⟨h1, h2⟩ | ⟨p, h1, h2, h3, h4⟩
  · exact absurd (cr.symm.trans (h2 _ lr)) (by decide)
  · have c := h4 _ lr cr
    have h3' : (!decide (po G N p < r)) = true := (Bool.and_eq_true _ _ ▸ h3 : _ ∧ _).1
    rw [Bool.not_eq_true', decide_eq_false_iff_not] at h3'
    have := po_le inj h2 (r := r) (by omega)
    rw [h1, inj _ _ h2 lr (by omega)]
section OR
variable {S : xS} {W H n N : Nat} {m : mM} {L T R B : Nat → Nat} {c : Bool} {k1 k2 ke : Nat → Nat}
theorem pick2 (hN : N ≤ 256) (hb : ∀ q, q < N → k1 q < 64 ∧ k2 q < 64) {r b : Nat} (hr : r ≤ N) (inv : ∀ q, q < N → r ≤ po (G2 k1 k2 ke N) N q → b ≤ bdR k1 k2 ke N q) {v : Int} (h : bstV (fun q => !decide (po (G2 k1 k2 ke N) N q < r) && (!true || decide (bdR k1 k2 ke N q = b))) (G1 k2 k1) N v) : v = if r < N ∧ bdR k1 k2 ke N (o2 k1 k2 ke N r) = b then (o2 k1 k2 ke N r : Int) else -1 := by
  have inj := G2_inj (k1 := k1) (k2 := k2) (ke := ke) hN
  have cr : r < N → bdR k1 k2 ke N (o2 k1 k2 ke N r) = b → (!decide (po (G2 k1 k2 ke N) N (o2 k1 k2 ke N r) < r) && (!true || decide (bdR k1 k2 ke N (o2 k1 k2 ke N r) = b))) = true := fun h1 h2 => by
    rw [decide_eq_true h2, show po (G2 k1 k2 ke N) N (o2 k1 k2 ke N r) = r from po_o inj h1, decide_eq_false (Nat.lt_irrefl r)]
    rfl
  rcases h with ⟨h1, h2⟩ | ⟨p, h1, h2, h3, h4⟩
  · rw [h1, if_neg (fun w => by
      have := h2 _ ((oG_s inj).1 r w.1)
      exact absurd ((cr w.1 w.2).symm.trans this) (by decide))]
  · have h3' : (!decide (po (G2 k1 k2 ke N) N p < r)) = true ∧ (!true || decide (bdR k1 k2 ke N p = b)) = true := (Bool.and_eq_true _ _ ▸ h3 : _ ∧ _)
    obtain ⟨q1, q2⟩ := h3'
    rw [Bool.not_eq_true', decide_eq_false_iff_not] at q1
    rw [Bool.not_true, Bool.false_or, decide_eq_true_eq] at q2
    have pl := (po_s inj h2).1
    have hr' : r < N := by omega
    have lr := (oG_s inj).1 r hr'
    change o2 k1 k2 ke N r < N at lr
    have le := po_le inj h2 (r := r) (by omega)
    change G2 k1 k2 ke N (o2 k1 k2 ke N r) ≤ G2 k1 k2 ke N p at le
    have bo := inv _ lr (by rw [show po (G2 k1 k2 ke N) N (o2 k1 k2 ke N r) = r from po_o inj hr']; exact Nat.le_refl _)
    obtain ⟨a1, a2⟩ := hb _ lr
    obtain ⟨a3, a4⟩ := hb _ h2
    have e : bdR k1 k2 ke N (o2 k1 k2 ke N r) = b := by
      unfold G2 at le
      omega
    have c := h4 _ lr (cr hr' e)
    have : G2 k1 k2 ke N p = G2 k1 k2 ke N (o2 k1 k2 ke N r) := by
      unfold G1 at c
      unfold G2 at le ⊢
      omega
    rw [if_pos ⟨hr', e⟩, h1, inj _ _ h2 lr this]
def orP (a _j : Nat) : Bool := a == 129 || (a == 130 || (a == 132 || a == 133))
theorem orP_n {a j : Nat} (h1 : a ≠ 129) (h2 : a ≠ 130) (h3 : a ≠ 132) (h4 : a ≠ 133) : orP a j = false := by
  unfold orP
  rw [beq_eq_false_iff_ne.mpr h1, beq_eq_false_iff_ne.mpr h2, beq_eq_false_iff_ne.mpr h3, beq_eq_false_iff_ne.mpr h4]
  rfl
theorem mbZ_fr {m' : mM} (X : mbZ m N L T R B) (Q : fr orP m m') : mbZ m' N L T R B := fun q hq => by
  obtain ⟨h1, h2, h3, h4⟩ := X q hq
  exact ⟨(fr_i Q _ _ (by rfl)).trans h1, (fr_i Q _ _ (by rfl)).trans h2, (fr_i Q _ _ (by rfl)).trans h3, (fr_i Q _ _ (by rfl)).trans h4⟩
/-- the second choice -/
def orI (m s : mM) (N r : Nat) (k1 k2 ke : Nat → Nat) : Prop := fr orP m s ∧ (∀ q, q < N → s.1 133 q = bz (decide (po (G2 k1 k2 ke N) N q < r))) ∧ (∀ q, q < N → s.1 132 q = nI (bdR k1 k2 ke N q)) ∧ ∀ i, i < r → s.1 129 i = nI (o2 k1 k2 ke N i) ∧ s.1 130 (o2 k1 k2 ke N i) = nI i
theorem or143 (hN : N ≤ 256) (X : mbZ m N L T R B) (hb : ∀ q, q < N → kf c L T q < 64 ∧ kf c T L q < 64) (ec : m.1 98 7 = bz c) (e59 : m.1 90 59 = nI N) (ek1 : kf c L T = k1) (ek2 : kf c T L = k2) {l : Nat} (hl : ∀ q, q < N → bdR k1 k2 ke N q ≤ l) (hl2 : l ≤ 256) : ∀ (d r b : Nat) (s : mM), (l + 1 - b) + (N - r) ≤ d → b ≤ l → r ≤ N → orI m s N r k1 k2 ke → (∀ q, q < N → r ≤ po (G2 k1 k2 ke N) N q → b ≤ bdR k1 k2 ke N q) → ∃ s', orI m s' N N k1 k2 ke ∧ xden S mX13_ordersRegions 143 [(0, .ref 90), (1, .int (nI l)), (3, .int (nI r)), (4, .int (nI b)), (5, .int (zI (if r < N ∧ bdR k1 k2 ke N (o2 k1 k2 ke N r) = b then (o2 k1 k2 ke N r : Int) else -1)))] [] (E W H n s) = some (.inl none, E W H n s', 0, 0) := by
  have inj := G2_inj (k1 := k1) (k2 := k2) (ke := ke) hN
  -- the next choice
  have next : ∀ {s : mM} {r b : Nat}, r ≤ N → b ≤ l → orI m s N r k1 k2 ke → (∀ q, q < N → r ≤ po (G2 k1 k2 ke N) N q → b ≤ bdR k1 k2 ke N q) → xM S mX13_leastRegion [.ref 90, .int (nI b)] (E W H n s) = some (.inl (some (.int (zI (if r < N ∧ bdR k1 k2 ke N (o2 k1 k2 ke N r) = b then (o2 k1 k2 ke N r : Int) else -1)))), E W H n s, 0, 0) := fun {s r b} hr hbl I inv => by
    obtain ⟨v, v1, v2⟩ := leastRegion_s (S := S) (W := W) (H := H) (n := n) (m := s) (mbZ_fr X I.1) (by rw [fr_i I.1 98 7 rfl]; exact ec) hN hb (by rw [fr_i I.1 90 59 rfl]; exact e59) (tk := fun q => decide (po (G2 k1 k2 ke N) N q < r)) I.2.1 true (b := b) (bR := bdR k1 k2 ke N) (fun _ => ⟨by omega, fun q hq => ⟨I.2.2.1 q hq, by have := hl q hq; omega⟩⟩)
    rw [ek1, ek2] at v1
    have := pick2 hN (fun q hq => by have := hb q hq; rw [ek1, ek2] at this; exact this) hr inv v1
    rw [← this]
    exact v2
  intro d
  induction d with
  | zero => intro r b s h1 h2; omega
  | succ d ih =>
    intro r b s hd hbl hr I inv
    by_cases t : r < N ∧ bdR k1 k2 ke N (o2 k1 k2 ke N r) = b
    · obtain ⟨t1, t2⟩ := t
      have lr := (oG_s inj).1 r t1
      change o2 k1 k2 ke N r < N at lr
      have I' : orI m (sI (sI (sI s 133 (o2 k1 k2 ke N r) 1) 129 r (nI (o2 k1 k2 ke N r))) 130 (o2 k1 k2 ke N r) (nI r)) N (r + 1) k1 k2 ke := by
        obtain ⟨i1, i2, i3, i4⟩ := I
        refine ⟨fr_sI (fr_sI (fr_sI i1 (by rfl)) (by rfl)) (by rfl), fun q hq => ?_, fun q hq => ?_, fun i hi => ?_⟩
        · rw [sI_ne (by omega), sI_ne (by omega)]
          by_cases e : q = o2 k1 k2 ke N r
          · rw [e, sI_eq ⟨rfl, rfl⟩, show po (G2 k1 k2 ke N) N (o2 k1 k2 ke N r) = r from po_o inj t1, decide_eq_true (Nat.lt_succ_self r)]
            rfl
          · rw [sI_ne (fun w => e w.2), i2 q hq]
            have ne : po (G2 k1 k2 ke N) N q ≠ r := fun w => e (by rw [← w]; exact (po_s inj hq).2.symm)
            have : decide (po (G2 k1 k2 ke N) N q < r) = decide (po (G2 k1 k2 ke N) N q < r + 1) := by
              by_cases u : po (G2 k1 k2 ke N) N q < r
              · rw [decide_eq_true u, decide_eq_true (by omega)]
              · rw [decide_eq_false u, decide_eq_false (by omega)]
            rw [this]
        · rw [sI_ne (by omega), sI_ne (by omega), sI_ne (by omega)]
          exact i3 q hq
        · by_cases e : i = r
          · rw [e]
            refine ⟨?_, ?_⟩
            · rw [sI_ne (by omega), sI_eq ⟨rfl, rfl⟩]
            · rw [sI_eq ⟨rfl, rfl⟩]
          · have ne : o2 k1 k2 ke N i ≠ o2 k1 k2 ke N r := fun w => e (oG_inj inj (by omega) t1 w)
            obtain ⟨w1, w2⟩ := i4 i (by omega)
            refine ⟨?_, ?_⟩
            · rw [sI_ne (by omega), sI_ne (by omega), sI_ne (by omega)]; exact w1
            · rw [sI_ne (by omega), sI_ne (by omega), sI_ne (by omega)]; exact w2
      have inv' : ∀ q, q < N → r + 1 ≤ po (G2 k1 k2 ke N) N q → b ≤ bdR k1 k2 ke N q := fun q hq h => inv q hq (by omega)
      obtain ⟨s', j1, j2⟩ := ih (r + 1) b _ (by omega) hbl (by omega) I' inv'
      refine ⟨s', j1, w_X13_ordersRegions_143 S _ _ _ _ _ _ _ ?_⟩
      rw [if_pos (show r < N ∧ bdR k1 k2 ke N (o2 k1 k2 ke N r) = b from ⟨t1, t2⟩), zI_n (k := o2 k1 k2 ke N r) (by omega)]
      refine c_iff (nI_pos (by omega)) ?_
      refine c_gr (by omega) (by rfl) (by rfl) (by rfl) ?_
      refine c_wz (i := o2 k1 k2 ke N r) (by omega) (by rfl) (by rfl) (by rfl) (by first | omega | ((conv => rhs; whnf); first | omega | (show _ < OfNat.ofNat (α := Nat) _; omega))) (by first | omega | ((conv => lhs; whnf); first | omega | (show OfNat.ofNat (α := Nat) _ < _; omega))) (Or.inr rfl) ?_
      refine c_gr (by omega) (by rfl) (by rfl) (by rfl) ?_
      refine c_wi (i := r) (by omega) (by rfl) (by rfl) (by rfl) (by first | omega | ((conv => rhs; whnf); first | omega | (show _ < OfNat.ofNat (α := Nat) _; omega))) (by first | omega | ((conv => lhs; whnf); first | omega | (show OfNat.ofNat (α := Nat) _ < _; omega))) ?_
      refine c_gr (by omega) (by rfl) (by rfl) (by rfl) ?_
      refine c_wi (i := o2 k1 k2 ke N r) (by omega) (by rfl) (by rfl) (by rfl) (by first | omega | ((conv => rhs; whnf); first | omega | (show _ < OfNat.ofNat (α := Nat) _; omega))) (by first | omega | ((conv => lhs; whnf); first | omega | (show OfNat.ofNat (α := Nat) _ < _; omega))) ?_
      refine c_let ?_
      rw [nI_suc]
      refine c_ob (by omega) (by rfl) ?_
      refine c_qI (next (by omega) hbl I' inv') ?_
      exact j2
    · have more : ∀ q, q < N → r ≤ po (G2 k1 k2 ke N) N q → b + 1 ≤ bdR k1 k2 ke N q := fun q hq h => by
        obtain ⟨p1, p2⟩ := po_s inj hq
        have hr' : r < N := by omega
        have lr := (oG_s inj).1 r hr'
        change o2 k1 k2 ke N r < N at lr
        have b0 := inv _ lr (by rw [show po (G2 k1 k2 ke N) N (o2 k1 k2 ke N r) = r from po_o inj hr']; exact Nat.le_refl _)
        have le := po_le inj hq (r := r) h
        change G2 k1 k2 ke N (o2 k1 k2 ke N r) ≤ G2 k1 k2 ke N q at le
        obtain ⟨a1, a2⟩ := hb _ lr
        obtain ⟨a3, a4⟩ := hb _ hq
        rw [ek1] at a1 a3
        rw [ek2] at a2 a4
        have ne : bdR k1 k2 ke N (o2 k1 k2 ke N r) ≠ b := fun w => t ⟨hr', w⟩
        unfold G2 at le
        omega
      have row : ∀ {o : xO}, xden S mX13_ordersRegions 129 [(0, .ref 90), (1, .int (nI l)), (3, .int (nI r)), (4, .int (nI (b + 1)))] [] (E W H n s) = some o → xden S mX13_ordersRegions 143 [(0, .ref 90), (1, .int (nI l)), (3, .int (nI r)), (4, .int (nI b)), (5, .int (zI (if r < N ∧ bdR k1 k2 ke N (o2 k1 k2 ke N r) = b then (o2 k1 k2 ke N r : Int) else -1)))] [] (E W H n s) = some o := fun {o} ho => by
        refine w_X13_ordersRegions_143 S _ _ _ _ _ _ _ ?_
        rw [if_neg t]
        refine c_ift (by decide) ?_
        refine c_let ?_
        rw [nI_suc]
        exact ho
      by_cases lst : l < b + 1
      · have rN : r = N := by
          rcases Nat.lt_or_ge r N with w | w
          · have lr := (oG_s inj).1 r w
            change o2 k1 k2 ke N r < N at lr
            have := more _ lr (by rw [show po (G2 k1 k2 ke N) N (o2 k1 k2 ke N r) = r from po_o inj w]; exact Nat.le_refl _)
            have := hl _ lr
            omega
          · omega
        refine ⟨s, by rw [rN] at I; exact I, row ?_⟩
        refine w_X13_ordersRegions_129 S _ _ _ _ _ _ ?_
        exact c_ift ((nI_ltI (by omega) (by omega)).mpr lst) rfl
      · obtain ⟨s', j1, j2⟩ := ih r (b + 1) s (by omega) (by omega) hr I more
        refine ⟨s', j1, row ?_⟩
        refine w_X13_ordersRegions_129 S _ _ _ _ _ _ ?_
        refine c_iff (fun w => lst ((nI_ltI (by omega) (by omega)).mp w)) ?_
        refine c_ob (by omega) (by rfl) ?_
        exact c_qI (next hr (by omega) I more) j2
end OR

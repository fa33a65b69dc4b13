/-! CHANGES: the model lists them -/
theorem PFm_ok {W H : Nat} (hW : W ≤ 64) (Ms Ad : Nat → Int64) (P : Nat → Bool) (B : Nat) (o : Nat → Nat) (p : Nat) : okP W H (PFm W H Ms Ad P B o p) := by
  unfold PFm
  split
  · exact (mkW_B hW _).1
  · exact (mkW_B hW _).1
def tgO (L : (Nat → Bool) × (Nat → Option Nat)) (p : Nat) : Option Nat := if p % 2 = 0 then L.2 (p / 2) else none
/-- whether a part is listed -/
noncomputable def liB (PF : Nat → Nat → Int64) (L : (Nat → Bool) × (Nat → Option Nat)) (hd : Bool) (St : stT) (cnt p : Nat) : Bool := decide (ctP (PF p) ≠ 0) && (decide (p % 2 = 0) || !L.1 (p / 2)) && !(hd && (tgO L p).isNone && decide (0 ≤ stNo St cnt (PF p)))
/-- the line of a part -/
noncomputable def lnV (O A : Nat → Int64) (PF : Nat → Nat → Int64) (p : Nat) : Int32 := nI (lnC (if p % 2 = 1 then A else O) ((bxC (PF p)).2.1 + 1)) - 1
def lcP (a j : Nat) : Bool := a == 140 || (a == 141 || (a == 142 || (a == 143 || (a == 144 || (a == 90 && j == 79)))))
theorem lcP_n {a j : Nat} (h : a < 140 ∨ 144 < a) (h2 : a = 90 → j ≠ 79) : lcP a j = false := by
  unfold lcP
  rw [beq_eq_false_iff_ne.mpr (show a ≠ 140 by omega), beq_eq_false_iff_ne.mpr (show a ≠ 141 by omega), beq_eq_false_iff_ne.mpr (show a ≠ 142 by omega), beq_eq_false_iff_ne.mpr (show a ≠ 143 by omega), beq_eq_false_iff_ne.mpr (show a ≠ 144 by omega)]
  by_cases e : a = 90
  · rw [beq_eq_false_iff_ne.mpr (h2 e), Bool.and_false]; rfl
  · rw [beq_eq_false_iff_ne.mpr e]; rfl
def liP (a j : Nat) : Bool := a == 141 || (a == 142 || (a == 143 || (a == 90 && j == 79)))
theorem li_lc (a j : Nat) (h : lcP a j = false) : liP a j = false := by
  unfold lcP at h
  rw [Bool.or_eq_false_iff, Bool.or_eq_false_iff, Bool.or_eq_false_iff, Bool.or_eq_false_iff, Bool.or_eq_false_iff] at h
  unfold liP
  rw [h.2.1, h.2.2.1, h.2.2.2.1, h.2.2.2.2.2]
  rfl
theorem stNo_rng (St : stT) (cnt : Nat) (F : Nat → Int64) : -1 ≤ stNo St cnt F ∧ stNo St cnt F ≤ cnt := by
  unfold stNo
  split <;> omega
/-- what the model holds of the listed parts before p -/
def liM (s : mM) (PF : Nat → Nat → Int64) (L : (Nat → Bool) × (Nat → Option Nat)) (hd : Bool) (St : stT) (cnt : Nat) (O A : Nat → Int64) (p : Nat) : Prop := s.1 90 79 = nI (fb_ct (liB PF L hd St cnt) p) ∧ ∀ q, q < p → liB PF L hd St cnt q = true → s.1 141 (fb_ct (liB PF L hd St cnt) q) = nI q ∧ s.1 142 (fb_ct (liB PF L hd St cnt) q) = pvI (tgO L q) ∧ s.1 143 (fb_ct (liB PF L hd St cnt) q) = lnV O A PF q
section LM
variable {S : xS} {W H n N : Nat} {m : mM} {B : Nat} {P : Nat → Bool} {Ms Ad : Nat → Int64} {o nb : Nat → Nat} {St : stT} {cnt : Nat} {O A : Nat → Int64}
theorem lists_s (hW8 : 8 ≤ W) (hW : W ≤ 64) (hH8 : 8 ≤ H) (hH : H ≤ 64) (hB : 4 ≤ B) (hB2 : B ≤ 16) (oM : okP W H Ms) (oA : okP W H Ad) (hN : N = nS ba P 256) (ho : ∀ i, i < N → nb (o i) = i) (hnb : ∀ q, q < N → nb q < N ∧ o (nb q) = q) (X : ofI m B P Ms Ad nb) (T : mstM m cnt St) (K : ptK m N (PFm W H Ms Ad P B o)) (PO : piM m 114 O) (oO : okP W H O) (PA : piM m 117 A) (oAl : okP W H A) {hd : Bool} (e9 : m.1 98 9 = bz hd) {L : (Nat → Bool) × (Nat → Option Nat)} (hL : ∀ i j, L.2 i = some j → j < N) {p : Nat} (hp : p < 2 * N) (ne : ctP (PFm W H Ms Ad P B o p) ≠ 0) (tp : (decide (p % 2 = 0) || !L.1 (p / 2)) = true) (I : liM m (PFm W H Ms Ad P B o) L hd St cnt O A p) : ∃ m', xM S mX13_lists [.ref 90, .int (nI p), .int (pvI (tgO L p))] (E W H n m) = some (.inl none, E W H n m', 0, 0) ∧ liM m' (PFm W H Ms Ad P B o) L hd St cnt O A (p + 1) ∧ fr liP m m' := by
  have N256 : N ≤ 256 := by rw [hN]; exact nS_256 P
  have Xp := (K p hp).2 ne
  have sf := stampFor_s (S := S) (W := W) (H := H) (n := n) hW8 hW hH8 hH hB hB2 oM oA hN ho hnb X T hp Xp
  have oF := PFm_ok (H := H) hW Ms Ad P B o p
  generalize ePF : PFm W H Ms Ad P B o = PF at *
  obtain ⟨l, t, r, b, h1, h2, h3, h4, h5, h6, h7⟩ := Xp
  have tH : t < H := by
    obtain ⟨x, q⟩ := h1.2.2.2.1
    exact (oF _ _ q).2
  have et : (bxC (PF p)).2.1 = t := by rw [bxC_eq h1]
  obtain ⟨i1, i2⟩ := I
  have cle := fb_ct_le (liB PF L hd St cnt) p
  obtain ⟨s1, s2⟩ := stNo_rng St cnt (PF p)
  have c7 := T.2.1
  have bO : bfM m H 114 4096 0 O := ⟨by omega, by rfl, by rfl, by rfl, by omega, by omega, fun k hk => by rw [Nat.zero_add]; exact PO k hk⟩
  have bA : bfM m H 117 4096 0 A := ⟨by omega, by rfl, by rfl, by rfl, by omega, by omega, fun k hk => by rw [Nat.zero_add]; exact PA k hk⟩
  generalize eC : fb_ct (liB PF L hd St cnt) p = C at *
  -- listed
  have go : liB PF L hd St cnt p = true → ∃ m', xden S mX13_lists 24 [(0, .ref 90), (1, .int (nI p)), (2, .int (pvI (tgO L p)))] [] (E W H n m) = some (.inl none, E W H n m', 0, 0) ∧ liM m' PF L hd St cnt O A (p + 1) ∧ fr liP m m' := fun y => by
    have rm : nI p - nI p / (2 : Int32) * (2 : Int32) = nI (p % 2) := pk_rem (by omega) (by decide) (by decide)
    have Q2 : fr liP m (sI (sI m 141 C (nI p)) 142 C (pvI (tgO L p))) := fr_sI (fr_sI fr_rf (by rfl)) (by rfl)
    have Q3 : fr liP m (sI (sI (sI (sI m 141 C (nI p)) 142 C (pvI (tgO L p))) 143 C (lnV O A PF p)) 90 79 (nI (C + 1))) := fr_sI (fr_sI Q2 (by rfl)) (by rfl)
    have bO2 : bfM (sI (sI m 141 C (nI p)) 142 C (pvI (tgO L p))) H 114 4096 0 O := ⟨by omega, by rfl, by rfl, by rfl, by omega, by omega, fun k hk => by rw [Nat.zero_add, sI_ne (by omega), sI_ne (by omega)]; exact PO k hk⟩
    have bA2 : bfM (sI (sI m 141 C (nI p)) 142 C (pvI (tgO L p))) H 117 4096 0 A := ⟨by omega, by rfl, by rfl, by rfl, by omega, by omega, fun k hk => by rw [Nat.zero_add, sI_ne (by omega), sI_ne (by omega)]; exact PA k hk⟩
    have lO := linesTo_s (S := S) (n := n) hW8 hW hH8 hH bO2 oO (z := t) (by omega)
    have lA := linesTo_s (S := S) (n := n) hW8 hW hH8 hH bA2 oAl (z := t) (by omega)
    refine ⟨sI (sI (sI (sI m 141 C (nI p)) 142 C (pvI (tgO L p))) 143 C (lnV O A PF p)) 90 79 (nI (C + 1)), w_X13_lists_24 S _ _ _ _ _ ?_, ⟨?_, fun q hq yq => ?_⟩, Q3⟩
    · refine c_gr (by omega) (by rfl) (by rfl) (by rfl) ?_
      refine c_gi (by omega) (by rfl) (by rfl) (by rfl) ?_
      rw [i1]
      refine c_wi (i := C) (by omega) (by rfl) (by rfl) (by rfl) (by first | omega | ((conv => rhs; whnf); first | omega | (show _ < OfNat.ofNat (α := Nat) _; omega))) (by first | omega | ((conv => lhs; whnf); first | omega | (show OfNat.ofNat (α := Nat) _ < _; omega))) ?_
      refine c_gr (by omega) (by rfl) (by rfl) (by rfl) ?_
      refine c_gi (by omega) (by rfl) (by rfl) (by rfl) ?_
      rw [sI_ne (by omega), i1]
      refine c_wi (i := C) (by omega) (by rfl) (by rfl) (by rfl) (by first | omega | ((conv => rhs; whnf); first | omega | (show _ < OfNat.ofNat (α := Nat) _; omega))) (by first | omega | ((conv => lhs; whnf); first | omega | (show OfNat.ofNat (α := Nat) _ < _; omega))) ?_
      refine c_gr (by omega) (by rfl) (by rfl) (by rfl) ?_
      refine c_gi (by omega) (by rfl) (by rfl) (by rfl) ?_
      rw [sI_ne (by omega), sI_ne (by omega), i1, rm]
      by_cases od : p % 2 = 1
      · rw [od]
        refine c_ift (by decide) ?_
        refine c_gr (by omega) (by rfl) (by rfl) (by rfl) ?_
        refine c_gr (by omega) (by rfl) (by rfl) (by rfl) ?_
        refine c_ri (i := p) (by omega) (by rfl) (by rfl) (by rfl) (by first | omega | ((conv => rhs; whnf); first | omega | (show _ < OfNat.ofNat (α := Nat) _; omega))) (by first | omega | ((conv => lhs; whnf); first | omega | (show OfNat.ofNat (α := Nat) _ < _; omega))) (by decide) ?_
        rw [sI_ne (by omega), sI_ne (by omega), show m.1 (90 + 47) p = _ from h5]
        refine c_ob (by omega) (by rfl) ?_
        refine c_qI lA ?_
        refine c_wi (i := C) (by omega) (by rfl) (by rfl) (by rfl) (by first | omega | ((conv => rhs; whnf); first | omega | (show _ < OfNat.ofNat (α := Nat) _; omega))) (by first | omega | ((conv => lhs; whnf); first | omega | (show OfNat.ofNat (α := Nat) _ < _; omega))) ?_
        refine c_gi (by omega) (by rfl) (by rfl) (by rfl) ?_
        rw [sI_ne (by omega), sI_ne (by omega), sI_ne (by omega), i1, nI_suc]
        refine c_pi (by omega) (by rfl) (by rfl) (by rfl) (xPok_int (by decide) (by rfl)) ?_
        unfold lnV
        rw [if_pos od, et]
      · rw [show p % 2 = 0 by omega]
        refine c_iff (by decide) ?_
        refine c_gr (by omega) (by rfl) (by rfl) (by rfl) ?_
        refine c_gr (by omega) (by rfl) (by rfl) (by rfl) ?_
        refine c_ri (i := p) (by omega) (by rfl) (by rfl) (by rfl) (by first | omega | ((conv => rhs; whnf); first | omega | (show _ < OfNat.ofNat (α := Nat) _; omega))) (by first | omega | ((conv => lhs; whnf); first | omega | (show OfNat.ofNat (α := Nat) _ < _; omega))) (by decide) ?_
        rw [sI_ne (by omega), sI_ne (by omega), show m.1 (90 + 47) p = _ from h5]
        refine c_ob (by omega) (by rfl) ?_
        refine c_qI lO ?_
        refine c_wi (i := C) (by omega) (by rfl) (by rfl) (by rfl) (by first | omega | ((conv => rhs; whnf); first | omega | (show _ < OfNat.ofNat (α := Nat) _; omega))) (by first | omega | ((conv => lhs; whnf); first | omega | (show OfNat.ofNat (α := Nat) _ < _; omega))) ?_
        refine c_gi (by omega) (by rfl) (by rfl) (by rfl) ?_
        rw [sI_ne (by omega), sI_ne (by omega), sI_ne (by omega), i1, nI_suc]
        refine c_pi (by omega) (by rfl) (by rfl) (by rfl) (xPok_int (by decide) (by rfl)) ?_
        unfold lnV
        rw [if_neg od, et]
    · rw [sI_eq ⟨rfl, rfl⟩, fb_ct_succ, y, eC]
      rfl
    · by_cases e : q = p
      · rw [e, eC]
        refine ⟨?_, ?_, ?_⟩
        · rw [sI_ne (by omega), sI_ne (by omega), sI_ne (by omega), sI_eq ⟨rfl, rfl⟩]
        · rw [sI_ne (by omega), sI_ne (by omega), sI_eq ⟨rfl, rfl⟩]
        · rw [sI_ne (by omega), sI_eq ⟨rfl, rfl⟩]
      · have lt : fb_ct (liB PF L hd St cnt) q < C := by
          have := fb_ct_mono (liB PF L hd St cnt) (m := q + 1) (n := p) (by omega)
          rw [fb_ct_succ, yq, if_pos rfl] at this
          omega
        obtain ⟨w1, w2, w3⟩ := i2 q (by omega) yq
        refine ⟨?_, ?_, ?_⟩ <;> rw [sI_ne (by omega), sI_ne (by omega), sI_ne (by omega), sI_ne (by omega)] <;> assumption
  cases htg : tgO L p with
  | some j =>
    have jN : j < N := by
      unfold tgO at htg
      split at htg
      · exact hL _ _ htg
      · cases htg
    have y : liB PF L hd St cnt p = true := by
      unfold liB
      rw [decide_eq_true ne, tp, htg]
      cases hd <;> rfl
    obtain ⟨m', g1, g2, g3⟩ := go y
    rw [htg] at g1
    refine ⟨m', w_X13_lists S _ _ _ _ _ ?_, g2, g3⟩
    refine c_ift (show (0 : Int32) ≤ nI (2 * j + 1) from (nI_leI (a := 0) (by omega) (by omega)).mpr (Nat.zero_le _)) ?_
    exact g1
  | none =>
    have neg : ∀ {F1 F2 : Option xO} {oo : xO}, F2 = some oo → (if (0 : Int32) ≤ pvI none then F1 else F2) = some oo := fun {F1 F2 oo} h => c_iff (show ¬ (0 : Int32) ≤ -1 by decide) h
    cases hhd : hd
    · have y : liB PF L hd St cnt p = true := by
        unfold liB
        rw [decide_eq_true ne, tp, hhd]
        rfl
      obtain ⟨m', g1, g2, g3⟩ := go y
      rw [htg] at g1
      rw [hhd] at g2
      refine ⟨m', w_X13_lists S _ _ _ _ _ ?_, g2, g3⟩
      refine neg ?_
      refine c_gr (by omega) (by rfl) (by rfl) (by rfl) ?_
      refine c_ri (i := 9) (by omega) (by rfl) (by rfl) (by rfl) (by first | omega | ((conv => rhs; whnf); first | omega | (show _ < OfNat.ofNat (α := Nat) _; omega))) (by first | omega | ((conv => lhs; whnf); first | omega | (show OfNat.ofNat (α := Nat) _ < _; omega))) (by decide) ?_
      rw [show m.1 (90 + 8) 9 = _ from e9, hhd]
      exact c_ift (by decide) g1
    · by_cases z : 0 ≤ stNo St cnt (PF p)
      · have y : liB PF L hd St cnt p = false := by
          unfold liB
          rw [hhd, htg, decide_eq_true z]
          exact Bool.and_false _
        rw [hhd] at y i2 eC
        refine ⟨m, w_X13_lists S _ _ _ _ _ ?_, ⟨by rw [fb_ct_succ, y, eC]; exact i1, fun q hq yq => ?_⟩, fr_rf⟩
        · refine neg ?_
          refine c_gr (by omega) (by rfl) (by rfl) (by rfl) ?_
          refine c_ri (i := 9) (by omega) (by rfl) (by rfl) (by rfl) (by first | omega | ((conv => rhs; whnf); first | omega | (show _ < OfNat.ofNat (α := Nat) _; omega))) (by first | omega | ((conv => lhs; whnf); first | omega | (show OfNat.ofNat (α := Nat) _ < _; omega))) (by decide) ?_
          rw [show m.1 (90 + 8) 9 = _ from e9, hhd]
          refine c_iff (fun w => w (by decide)) ?_
          refine c_ob (by omega) (by rfl) ?_
          refine c_qI sf ?_
          exact c_iff (fun w => by
            have := (zI_lt (b := 0) (by omega) (by omega) (by omega) (by omega)).mp w
            omega) rfl
        · by_cases e : q = p
          · rw [e, y] at yq; cases yq
          · exact i2 q (by omega) yq
      · have y : liB PF L hd St cnt p = true := by
          unfold liB
          rw [decide_eq_true ne, tp, decide_eq_false z, Bool.and_false]
          rfl
        obtain ⟨m', g1, g2, g3⟩ := go y
        rw [htg] at g1
        rw [hhd] at g2
        refine ⟨m', w_X13_lists S _ _ _ _ _ ?_, g2, g3⟩
        refine neg ?_
        refine c_gr (by omega) (by rfl) (by rfl) (by rfl) ?_
        refine c_ri (i := 9) (by omega) (by rfl) (by rfl) (by rfl) (by first | omega | ((conv => rhs; whnf); first | omega | (show _ < OfNat.ofNat (α := Nat) _; omega))) (by first | omega | ((conv => lhs; whnf); first | omega | (show OfNat.ofNat (α := Nat) _ < _; omega))) (by decide) ?_
        rw [show m.1 (90 + 8) 9 = _ from e9, hhd]
        refine c_iff (fun w => w (by decide)) ?_
        refine c_ob (by omega) (by rfl) ?_
        refine c_qI sf ?_
        exact c_ift ((zI_lt (b := 0) (by omega) (by omega) (by omega) (by omega)).mpr (by omega)) g1
end LM

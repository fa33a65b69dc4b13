/-! AGREEMENT of a call: what is asked of both sides -/
def clE (a j : Nat) : Bool := decide ((1 ≤ a ∧ a ≤ 46) ∨ (48 ≤ a ∧ a ≤ 63) ∨ a = 67 ∨ a = 68 ∨ a = 89 ∨ a = 146 ∨ (a = 0 ∧ j = 8))
def mdE (a j : Nat) : Bool := decide (a = 124 ∨ a = 131 ∨ (91 ≤ a ∧ a ≤ 113 ∧ (a = 106 → 20000 ≤ j)) ∨ (a = 90 ∧ (j < 25 ∨ j = 30 ∨ j = 34)))
theorem cl_in {P : Nat → Nat → Bool} (h : ∀ a j, P a j = true → clE a j = true) : ∀ a j, clE a j = false → P a j = false := fun a j w => by
  cases e : P a j
  · rfl
  · rw [h a j e] at w; cases w
theorem md_in {P : Nat → Nat → Bool} (h : ∀ a j, P a j = true → mdE a j = true) : ∀ a j, mdE a j = false → P a j = false := fun a j w => by
  cases e : P a j
  · rfl
  · rw [h a j e] at w; cases w
theorem clE_y {a j : Nat} (h : (1 ≤ a ∧ a ≤ 46) ∨ (48 ≤ a ∧ a ≤ 63) ∨ a = 67 ∨ a = 68 ∨ a = 89 ∨ a = 146 ∨ (a = 0 ∧ j = 8)) : clE a j = true := decide_eq_true h
theorem mdE_y {a j : Nat} (h : a = 124 ∨ a = 131 ∨ (91 ≤ a ∧ a ≤ 113 ∧ (a = 106 → 20000 ≤ j)) ∨ (a = 90 ∧ (j < 25 ∨ j = 30 ∨ j = 34))) : mdE a j = true := decide_eq_true h
section AG0
variable {W H n : Nat} {m m1 m2 : mM} {R : Nat → Nat → Int64} {l : hL} {T : Nat → Nat} {L : Nat} {Z : ((Nat → Nat) × Nat × (Nat → Nat))} {c : Nat} {K : Nat → Nat → Int32} {cnt : Nat} {St : stT}
def lawP (a j : Nat) : Bool := a == 146 && j == 0
theorem law_fr {v : Int64} : fr lawP m (sL m 146 0 v) := fr_sL fr_rf (by rfl)
theorem CM_cl (hW : W ≤ 64) (hH : H ≤ 64) (X : CM W H n m) (Q : fr clE m m1) : CM W H n m1 := CM_fr hW hH X Q (fun a j w => decide_eq_false (by unfold cmQ at w; omega))
theorem CM_md (hW : W ≤ 64) (hH : H ≤ 64) (X : CM W H n m) (Q : fr mdE m m1) : CM W H n m1 := CM_fr hW hH X Q (fun a j w => decide_eq_false (by unfold cmQ at w; omega))
theorem CM_law (hW : W ≤ 64) (hH : H ≤ 64) (X : CM W H n m) {v : Int64} : CM W H n (sL m 146 0 v) := CM_cl hW hH X (fr_mono law_fr (cl_in (fun a j h => by unfold lawP at h; simp at h; exact clE_y (by omega))))
theorem RC_law (X : RC W H n m R l T L Z c K cnt St) {v : Int64} : RC W H n (sL m 146 0 v) R l T L Z c K cnt St := RC_fr X law_fr (fun a j h => by unfold lawP; rw [beq_eq_false_iff_ne.mpr (show a ≠ 146 by omega)]; rfl)
theorem RC_md (X : RC W H n m R l T L Z c K cnt St) (Q : fr mdE m m1) : RC W H n m1 R l T L Z c K cnt St := RC_fr X Q (fun a j h => decide_eq_false (by omega))
theorem RM_cl (X : RM m R l T L Z c K cnt St) (Q : fr clE m m1) : RM m1 R l T L Z c K cnt St := RM_fr X Q (fun a j h => decide_eq_false (by omega))
theorem RM_law (X : RM m R l T L Z c K cnt St) {v : Int64} : RM (sL m 146 0 v) R l T L Z c K cnt St := X
theorem law_v {v : Int64} (Q : fr mdE (sL m 146 0 v) m2) : m2.2.1 146 0 = v := (fr_l Q 146 0 (decide_eq_false (by omega))).trans (sL_eq ⟨rfl, rfl⟩)
/-- both sides of a call whose answer is an int: the class within the law's wrapper, then the model, which notes what it throws -/
def AG (W H n : Nat) (m : mM) (rc : Option xO) (rm : xH → Option xO) : Prop := ∃ m1 n' c s k b m2, rc = some (.inl (some (.int k)), E W H n' m1, c, s) ∧ rm (E W H n' m1) = some (.inl (some (.int b)), E W H n' m2, 0, 0) ∧ m2.1 90 2 = k ∧ (k = 0 → m2.2.1 146 0 = b.toInt64) ∧ Rep W H n' m2 ∧ n ≤ n' ∧ c ≤ 1 + 5 * (n' - n) ∧ s ≤ 6 + 159 * (n' - n)
def AGJ (W H n : Nat) (m : mM) (rc : Option xO) (rm : xH → Option xO) : Prop := ∃ m1 n' c s k b m2, rc = some (.inl (some (.int k)), E W H n' m1, c, s) ∧ rm (E W H n' m1) = some (.inl (some (.long b)), E W H n' m2, 0, 0) ∧ m2.1 90 2 = k ∧ (k = 0 → m2.2.1 146 0 = b) ∧ Rep W H n' m2 ∧ n ≤ n' ∧ c ≤ 1 + 5 * (n' - n) ∧ s ≤ 6 + 159 * (n' - n)
variable {rc : Option xO} {rm : xH → Option xO}
theorem th_md {k : Int32} : fr mdE m (sI m 90 2 k) := fr_sI fr_rf (mdE_y (by omega))
theorem Rep_ro (hW : W ≤ 64) (hH : H ≤ 64) (X : Rep W H n m) (Q : fr mdE m m1) (h : ∀ a j, (91 ≤ a ∧ a ≤ 113) ∨ (a = 90 ∧ (j = 6 ∨ j = 13 ∨ j = 16 ∨ j = 30 ∨ j = 34)) → m1.1 a j = m.1 a j) : Rep W H n m1 := by
  obtain ⟨R, l, T, L, Z, c, K, cnt, St, x1, x2, x3, x4, x5⟩ := X
  have Q2 : fr (fun a j => !decide ((91 ≤ a ∧ a ≤ 113) ∨ (a = 90 ∧ (j = 6 ∨ j = 13 ∨ j = 16 ∨ j = 30 ∨ j = 34)))) m (m1.1, m.2) := fun a j w => by
    have w2 : (91 ≤ a ∧ a ≤ 113) ∨ (a = 90 ∧ (j = 6 ∨ j = 13 ∨ j = 16 ∨ j = 30 ∨ j = 34)) := by
      by_cases q : (91 ≤ a ∧ a ≤ 113) ∨ (a = 90 ∧ (j = 6 ∨ j = 13 ∨ j = 16 ∨ j = 30 ∨ j = 34))
      · exact q
      · have w3 : (!decide ((91 ≤ a ∧ a ≤ 113) ∨ (a = 90 ∧ (j = 6 ∨ j = 13 ∨ j = 16 ∨ j = 30 ∨ j = 34)))) = false := w
        rw [decide_eq_false q] at w3
        cases w3
    exact ⟨h a j w2, rfl, rfl⟩
  have y2 : RM (m1.1, m.2) R l T L Z c K cnt St := RM_fr x2 Q2 (fun a j w => by show (!decide _) = false; rw [decide_eq_true w]; rfl)
  exact ⟨R, l, T, L, Z, c, K, cnt, St, RC_md x1 Q, y2, x3, x4, CM_md hW hH x5 Q⟩
theorem Rep_law (hW : W ≤ 64) (hH : H ≤ 64) (X : Rep W H n m) {v : Int64} : Rep W H n (sL m 146 0 v) := by
  obtain ⟨R, l, T, L, Z, c, K, cnt, St, x1, x2, x3, x4, x5⟩ := X
  exact ⟨R, l, T, L, Z, c, K, cnt, St, RC_law x1, RM_law x2, x3, x4, CM_law hW hH x5⟩
theorem Rep_th (hW : W ≤ 64) (hH : H ≤ 64) (X : Rep W H n m) {k : Int32} : Rep W H n (sI m 90 2 k) := Rep_ro hW hH X th_md (fun a j h => sI_ne (by omega))
/-- an answer: neither side's state changes -/
theorem AG_ok (hW : W ≤ 64) (hH : H ≤ 64) (X : Rep W H n m) {v : Int32} (hc : rc = some (.inl (some (.int 0)), E W H n (sL m 146 0 v.toInt64), 0, 0)) (hm : rm (E W H n (sL m 146 0 v.toInt64)) = some (.inl (some (.int v)), E W H n (sI (sL m 146 0 v.toInt64) 90 2 0), 0, 0)) : AG W H n m rc rm := ⟨_, n, 0, 0, 0, v, _, hc, hm, sI_eq ⟨rfl, rfl⟩, fun _ => law_v th_md, Rep_th hW hH (Rep_law hW hH X), Nat.le_refl n, by omega, by omega⟩
theorem AGJ_ok (hW : W ≤ 64) (hH : H ≤ 64) (X : Rep W H n m) {v : Int64} (hc : rc = some (.inl (some (.int 0)), E W H n (sL m 146 0 v), 0, 0)) (hm : rm (E W H n (sL m 146 0 v)) = some (.inl (some (.long v)), E W H n (sI (sL m 146 0 v) 90 2 0), 0, 0)) : AGJ W H n m rc rm := ⟨_, n, 0, 0, 0, v, _, hc, hm, sI_eq ⟨rfl, rfl⟩, fun _ => law_v th_md, Rep_th hW hH (Rep_law hW hH X), Nat.le_refl n, by omega, by omega⟩
/-- a throw -/
theorem AG_ex (hW : W ≤ 64) (hH : H ≤ 64) (X : Rep W H n m) {k v : Int32} (hk : k ≠ 0) (hc : rc = some (.inl (some (.int k)), E W H n m, 1, 6)) (hm : rm (E W H n m) = some (.inl (some (.int v)), E W H n (sI m 90 2 k), 0, 0)) : AG W H n m rc rm := ⟨_, n, 1, 6, k, v, _, hc, hm, sI_eq ⟨rfl, rfl⟩, fun w => absurd w hk, Rep_th hW hH X, Nat.le_refl n, by omega, by omega⟩
theorem AGJ_ex (hW : W ≤ 64) (hH : H ≤ 64) (X : Rep W H n m) {k : Int32} {v : Int64} (hk : k ≠ 0) (hc : rc = some (.inl (some (.int k)), E W H n m, 1, 6)) (hm : rm (E W H n m) = some (.inl (some (.long v)), E W H n (sI m 90 2 k), 0, 0)) : AGJ W H n m rc rm := ⟨_, n, 1, 6, k, v, _, hc, hm, sI_eq ⟨rfl, rfl⟩, fun w => absurd w hk, Rep_th hW hH X, Nat.le_refl n, by omega, by omega⟩
/-- an answer, and a state that both sides come to -/
theorem AG_st (hW : W ≤ 64) (hH : H ≤ 64) {v : Int32} (XC : RC W H n m1 R l T L Z c K cnt St) (XO : cfO Z) (XR : cfR Z) (CX : CM W H n m) (Q1 : fr clE m m1) (hc : rc = some (.inl (some (.int 0)), E W H n (sL m1 146 0 v.toInt64), 0, 0)) (hm : rm (E W H n (sL m1 146 0 v.toInt64)) = some (.inl (some (.int v)), E W H n m2, 0, 0)) (XM : RM m2 R l T L Z c K cnt St) (t0 : m2.1 90 2 = 0) (Q2 : fr mdE (sL m1 146 0 v.toInt64) m2) : AG W H n m rc rm := ⟨_, n, 0, 0, 0, v, m2, hc, hm, t0, fun _ => law_v Q2, ⟨R, l, T, L, Z, c, K, cnt, St, RC_md (RC_law XC) Q2, XM, XO, XR, CM_md hW hH (CM_law hW hH (CM_cl hW hH CX Q1)) Q2⟩, Nat.le_refl n, by omega, by omega⟩
end AG0

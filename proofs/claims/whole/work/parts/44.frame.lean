/-! WHAT A CALL LEAVES AS IT WAS: all but the fields of Q and the arrays of P -/
def xfr (Q : Nat → Nat → Prop) (P : Nat → Prop) (h h' : xH) : Prop := h.length ≤ h'.length ∧ (∀ a c j, a < h.length → ¬ Q a j → xG h' a c j = xG h a c j) ∧ (∀ b, b < h.length → ¬ P b → xB h' b = xB h b) ∧ (∀ a c, xOb h a c = true → xOb h' a c = true) ∧ ∀ a c j v, xG h a c j = some v → ∃ w, xG h' a c j = some w
section FR
variable {S : xS} {Q Q' : Nat → Nat → Prop} {P P' : Nat → Prop} {h h' h2 : xH}
theorem xfr_rf : xfr Q P h h := ⟨Nat.le_refl _, fun _ _ _ _ _ => rfl, fun _ _ _ => rfl, fun _ _ q => q, fun _ _ _ v q => ⟨v, q⟩⟩
theorem xfr_tr (F : xfr Q P h h') (G : xfr Q P h' h2) : xfr Q P h h2 := ⟨Nat.le_trans F.1 G.1, fun a c j ha q => (G.2.1 a c j (Nat.lt_of_lt_of_le ha F.1) q).trans (F.2.1 a c j ha q), fun b hb q => (G.2.2.1 b (Nat.lt_of_lt_of_le hb F.1) q).trans (F.2.2.1 b hb q), fun a c q => G.2.2.2.1 a c (F.2.2.2.1 a c q), fun a c j v q => by obtain ⟨w, e⟩ := F.2.2.2.2 a c j v q; exact G.2.2.2.2 a c j w e⟩
theorem xfr_mono (F : xfr Q P h h') (q : ∀ a j, Q a j → Q' a j) (p : ∀ a, P a → P' a) : xfr Q' P' h h' := ⟨F.1, fun a c j ha w => F.2.1 a c j ha (fun z => w (q a j z)), fun b hb w => F.2.2.1 b hb (fun z => w (p b z)), F.2.2.2⟩
theorem xfr_A {b : Nat} (hb : P b) (e : xAr) : xfr Q P h (xA h b e) := ⟨by rw [xA_len]; exact Nat.le_refl _, fun a c j _ _ => xG_A _ _ _ _ _ _, fun b' _ q => by
  rw [xB_A, if_neg]
  intro w
  subst w
  exact q hb, fun a c q => by rw [xOb_A]; exact q, fun a c j v q => ⟨v, by rw [xG_A]; exact q⟩⟩
theorem xfr_S {a j : Nat} (ha : Q a j) (v : Value) : xfr Q P h (xU h a j v) := ⟨by rw [xS_len]; exact Nat.le_refl _, fun a' c j' _ q => by
  rw [xG_S, if_neg]
  rintro ⟨w1, w2⟩
  subst w1 w2
  exact q ha, fun b' _ q => xB_S _ _ _ _ _, fun a c q => by rw [xOb_S]; exact q, fun a' c j' v0 q => by
  rw [xG_S]
  by_cases w : a' = a ∧ j' = j
  · rw [if_pos w, q]; exact ⟨_, rfl⟩
  · rw [if_neg w]; exact ⟨v0, q⟩⟩
theorem xfr_G (F : xfr Q P h h') {a c j : Nat} {v : Value} (e : xG h a c j = some v) (q : ¬ Q a j) : xG h' a c j = some v := (F.2.1 a c j (xG_lt e) q).trans e
theorem xfr_B (F : xfr Q P h h') {b : Nat} {e : xAr} (hb : xB h b = some e) (q : ¬ P b) : xB h' b = some e := (F.2.2.1 b (xB_lt hb) q).trans hb
theorem imX_fr (F : xfr Q P h h') {a b W H : Nat} {f : Nat → Int64} (I : imX h a b W H f) (qa : ∀ j, ¬ Q a j) (qb : ¬ P b) : imX h' a b W H f := ⟨xfr_G F I.1 (qa _), xfr_G F I.2.1 (qa _), xfr_G F I.2.2.1 (qa _), xfr_G F I.2.2.2.1 (qa _), xfr_B F I.2.2.2.2.1 qb, I.2.2.2.2.2⟩
theorem aI_fr (F : xfr Q P h h') {b k n : Nat} {g : Nat → Int32} (A : aI h b k n g) (q : ¬ P b) : aI h' b k n g := by
  obtain ⟨f, h1, h2⟩ := A
  exact ⟨f, xfr_B F h1 q, h2⟩
theorem moX_fr (F : xfr Q P h h') {W H : Nat} (X : moX h W H) (q : ∀ j, Q 90 j → j ∈ moM) : moX h' W H := by
  have hn : ∀ j, j ∉ moM → ¬ Q 90 j := fun j hj w => hj (q j w)
  have hr : ∀ p ∈ moR, p.1 ∉ moM := by decide
  exact ⟨xfr_G F X.1 (hn 0 (by decide)), xfr_G F X.2.1 (hn 1 (by decide)), fun p hp => xfr_G F (X.2.2.1 p hp) (hn _ (hr p hp)), fun j hj => by obtain ⟨v, hv⟩ := X.2.2.2.1 j hj; exact F.2.2.2.2 _ _ _ _ hv, X.2.2.2.2⟩
end FR
/-- a picture within its page -/
def okP (W H : Nat) (f : Nat → Int64) : Prop := ∀ y x, lb (f y) x = true → x < W ∧ y < H
theorem okP_row {W H : Nat} {f : Nat → Int64} (o : okP W H f) (y : Nat) : f y &&& wh W = f y := by
  apply lb_ext
  intro i hi
  rw [lb_and_wh]
  cases hb : lb (f y) i
  · rfl
  · rw [decide_eq_true (o y i hb).1]; rfl
theorem okP_out {W H : Nat} {f : Nat → Int64} (o : okP W H f) {y : Nat} (hy : H ≤ y) : f y = 0 := by
  rw [lb_zero_iff]
  intro i _
  cases hb : lb (f y) i
  · rfl
  · exact absurd (o y i hb).2 (by omega)
theorem okP_0 (W H : Nat) : okP W H (fun _ => 0) := fun y x q => by rw [lb_0] at q; cases q
/-- a picture filled row by row, within its page -/
theorem okP_fill {W H : Nat} {G f : Nat → Int64} (of : okP W H f) : okP W H (fa_fill (fun y => G y &&& wh W) f H) := by
  intro y x q
  unfold fa_fill at q
  by_cases c : y < H
  · rw [if_pos c, lb_and_wh] at q
    simp only [Bool.and_eq_true, decide_eq_true_eq] at q
    exact ⟨q.2, c⟩
  · rw [if_neg c] at q
    exact of y x q
theorem fill_ok {W H : Nat} {G f : Nat → Int64} (oG : okP W H G) (of : okP W H f) : fa_fill (fun y => G y &&& wh W) f H = G := by
  funext y
  unfold fa_fill
  by_cases c : y < H
  · rw [if_pos c]
    exact okP_row oG y
  · rw [if_neg c, okP_out of (by omega), okP_out oG (by omega)]
theorem px_ok {W H : Nat} {f : Nat → Int64} (o : okP W H f) {k : Nat} (q : px f k = true) : k % 64 < W ∧ k / 64 < H := o _ _ q
theorem floorMod_s (S : xS) (h : xH) {a d : Nat} (ha : a < 2 ^ 31) (h0 : 0 < d) (hd : d < 2 ^ 31) : xM S mJ9_floorMod_7cf53 [.int (nI a), .int (nI d)] h = some (.inl (some (.int (nI (a % d)))), h, 0, 0) := by
  refine w_J9_floorMod_7cf53 S _ _ h _ ?_
  rw [if_neg (nI_ne0 h0 hd), pk_rem ha h0 hd]
  show (if 0 ≤ nI a ^^^ nI d then _ else _) = _
  rw [nx_xor, if_pos (nI_pos' (Nat.xor_lt_two_pow ha hd))]

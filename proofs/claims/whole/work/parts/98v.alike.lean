/-! PARTS: shapes compared -/
/-- two loops, one in the other, that ask whether all is so -/
theorem all_l {A : Bool → Nat → Option xO} {Bx : Bool → Nat → Nat → Option xO} {R : Bool → Option xO} {h w : Nat} {E : Nat → Nat → Bool} (hA1 : ∀ f, xle (R f) (A f h)) (hA2 : ∀ y, y < h → xle (R false) (A false y)) (hA3 : ∀ y, y < h → xle (Bx true y 0) (A true y)) (hB1 : ∀ f y, y < h → xle (A f (y + 1)) (Bx f y w)) (hB2 : ∀ y x, y < h → x < w → xle (A false (y + 1)) (Bx false y x)) (hB3 : ∀ y x, y < h → x < w → xle (Bx (E y x) y (x + 1)) (Bx true y x)) : xle (R (pB (∀ y, y < h → ∀ x, x < w → E y x = true))) (A true 0) := by
  have af : ∀ y, y ≤ h → xle (R false) (A false y) := fun y hy => by
    rcases Nat.lt_or_ge y h with q | q
    · exact hA2 y q
    · rw [show y = h by omega]
      exact hA1 false
  have outer : ∀ d y, y + d = h → xle (R (pB (∀ y', y ≤ y' → y' < h → ∀ x, x < w → E y' x = true))) (A true y) := fun d => by
    induction d with
    | zero =>
      intro y e
      rw [pB_iff.mpr (fun y' h1 h2 => by omega)]
      rw [show y = h by omega]
      exact hA1 true
    | succ d ih =>
      intro y e
      have nx := ih (y + 1) (by omega)
      have inner : ∀ c x, x + c = w → xle (R (pB ((∀ x', x ≤ x' → x' < w → E y x' = true) ∧ ∀ y', y + 1 ≤ y' → y' < h → ∀ x, x < w → E y' x = true))) (Bx true y x) := fun c => by
        induction c with
        | zero =>
          intro x ex
          have ex' : x = w := by omega
          rw [ex']
          refine x_tr ?_ (hB1 true y (by omega))
          rw [pB_cong (show ((∀ x', w ≤ x' → x' < w → E y x' = true) ∧ ∀ y', y + 1 ≤ y' → y' < h → ∀ x, x < w → E y' x = true) ↔ (∀ y', y + 1 ≤ y' → y' < h → ∀ x, x < w → E y' x = true) from ⟨fun q => q.2, fun q => ⟨fun x' h1 h2 => by omega, q⟩⟩)]
          exact nx
        | succ c ih2 =>
          intro x ex
          refine x_tr ?_ (hB3 y x (by omega) (by omega))
          cases he : E y x
          · rw [pB_no.mpr (fun q => by
              have := q.1 x (Nat.le_refl _) (by omega)
              rw [he] at this
              cases this)]
            refine x_tr (af (y + 1) (by omega)) ?_
            rcases Nat.lt_or_ge (x + 1) w with q | q
            · exact hB2 y (x + 1) (by omega) q
            · rw [show x + 1 = w by omega]
              exact hB1 false y (by omega)
          · rw [pB_cong (show ((∀ x', x ≤ x' → x' < w → E y x' = true) ∧ ∀ y', y + 1 ≤ y' → y' < h → ∀ x, x < w → E y' x = true) ↔ ((∀ x', x + 1 ≤ x' → x' < w → E y x' = true) ∧ ∀ y', y + 1 ≤ y' → y' < h → ∀ x, x < w → E y' x = true) from ⟨fun q => ⟨fun x' h1 h2 => q.1 x' (by omega) h2, q.2⟩, fun q => ⟨fun x' h1 h2 => by
              by_cases ee : x' = x
              · rw [ee]; exact he
              · exact q.1 x' (by omega) h2, q.2⟩⟩)]
            exact ih2 (x + 1) (by omega)
      refine x_tr ?_ (hA3 y (by omega))
      rw [pB_cong (show (∀ y', y ≤ y' → y' < h → ∀ x, x < w → E y' x = true) ↔ ((∀ x', 0 ≤ x' → x' < w → E y x' = true) ∧ ∀ y', y + 1 ≤ y' → y' < h → ∀ x, x < w → E y' x = true) from ⟨fun q => ⟨fun x' _ h2 => q y (Nat.le_refl _) (by omega) x' h2, fun y' h1 h2 => q y' (by omega) h2⟩, fun q y' h1 h2 x hx => by
        by_cases ee : y' = y
        · rw [ee]; exact q.1 x (Nat.zero_le _) hx
        · exact q.2 y' (by omega) h2 x hx⟩)]
      exact inner w 0 (Nat.zero_add w)
  have := outer h 0 (Nat.zero_add h)
  rw [pB_cong (show (∀ y, y < h → ∀ x, x < w → E y x = true) ↔ (∀ y', 0 ≤ y' → y' < h → ∀ x, x < w → E y' x = true) from ⟨fun q y' _ h2 => q y' h2, fun q y' h2 => q y' (Nat.zero_le _) h2⟩)]
  exact this
/-- the shape of pixels: its width, height, rows -/
noncomputable def wd (F : Nat → Int64) : Nat := (bxC F).2.2.1 + 1 - (bxC F).1
noncomputable def ht (F : Nat → Int64) : Nat := (bxC F).2.2.2 + 1 - (bxC F).2.1
noncomputable def sh (F : Nat → Int64) (k : Nat) : Int64 := if k < 64 then shR F (bxC F).1 (bxC F).2.1 (bxC F).2.2.2 k else 0
section SH
variable {F : Nat → Int64} {l t r b : Nat}
theorem wd_b (h : isBox F l t r b) : wd F = r + 1 - l := by unfold wd; rw [bxC_eq h]
theorem ht_b (h : isBox F l t r b) : ht F = b + 1 - t := by unfold ht; rw [bxC_eq h]
theorem sh_b (h : isBox F l t r b) {k : Nat} (hk : k < 64) : sh F k = shR F l t b k := by unfold sh; rw [if_pos hk, bxC_eq h]
theorem lb_sh (h : isBox F l t r b) (hr : r < 64) (hb : b < 64) {y x : Nat} (hx : x < 64) : lb (sh F y) x = (decide (t + y ≤ b) && lb (F (t + y)) (l + x)) := by
  by_cases hy : y < 64
  · rw [sh_b h hy, lb_shR hx]
  · unfold sh
    rw [if_neg hy, lb_0, decide_eq_false (by omega), Bool.false_and]
/-- within its width and its height -/
theorem sh_in (h : isBox F l t r b) (hr : r < 64) (hb : b < 64) {y x : Nat} (q : lb (sh F y) x = true) : x < wd F ∧ y < ht F := by
  have hx := lb_lt q
  rw [lb_sh h hr hb hx, Bool.and_eq_true, decide_eq_true_eq] at q
  have := h.1 _ _ q.2
  rw [wd_b h, ht_b h]
  omega
/-- a shape has as many pixels -/
theorem ctP_sh (h : isBox F l t r b) (hr : r < 64) (hb : b < 64) : ctP (sh F) = ctP F := by
  obtain ⟨_, e2, _, _, _⟩ := id h
  have lr : l ≤ r := by obtain ⟨y, q⟩ := h.2.1; exact (h.1 _ _ q).2.1
  have tb : t ≤ b := by obtain ⟨x, q⟩ := h.2.2.2.1; exact (h.1 _ _ q).2.2.2
  have key : ∀ k, px (sh F) k = px F (64 * t + l + k) := fun k => by
    unfold px
    rw [lb_sh h hr hb (by omega)]
    by_cases c : k % 64 + l < 64
    · rw [show (64 * t + l + k) / 64 = t + k / 64 by omega, show (64 * t + l + k) % 64 = l + k % 64 by omega]
      by_cases d : t + k / 64 ≤ b
      · rw [decide_eq_true d, Bool.true_and]
      · rw [decide_eq_false d, Bool.false_and]
        cases q : lb (F (t + k / 64)) (l + k % 64)
        · rfl
        · have := h.1 _ _ q
          omega
    · have z : lb (F ((64 * t + l + k) / 64)) ((64 * t + l + k) % 64) = false := by
        cases q : lb (F ((64 * t + l + k) / 64)) ((64 * t + l + k) % 64)
        · rfl
        · have := h.1 _ _ q
          omega
      rw [z]
      cases q : lb (F (t + k / 64)) (l + k % 64)
      · exact Bool.and_false _
      · have := h.1 _ _ q
        omega
  have s1 := fb_ct_split (px F) (64 * t + l) (4096 - (64 * t + l))
  have s2 := fb_ct_split (px (sh F)) (4096 - (64 * t + l)) (64 * t + l)
  rw [show 64 * t + l + (4096 - (64 * t + l)) = 4096 by omega] at s1
  rw [show 4096 - (64 * t + l) + (64 * t + l) = 4096 by omega] at s2
  have z1 : fb_ct (px F) (64 * t + l) = 0 := fb_ct_zero.mpr (fun k hk => by
    cases q : px F k
    · rfl
    · have := h.1 _ _ q
      omega)
  have z2 : fb_ct (fun k => px (sh F) (4096 - (64 * t + l) + k)) (64 * t + l) = 0 := fb_ct_zero.mpr (fun k hk => by
    (try dsimp only)
    rw [key]
    cases q : px F (64 * t + l + (4096 - (64 * t + l) + k))
    · rfl
    · have := h.1 _ _ q
      omega)
  have e : fb_ct (px (sh F)) (4096 - (64 * t + l)) = fb_ct (fun k => px F (64 * t + l + k)) (4096 - (64 * t + l)) := fb_ct_cong (fun k _ => key k)
  unfold ctP
  omega
end SH

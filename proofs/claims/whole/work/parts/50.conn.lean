/-! CONNECTED SETS, THEIR FIRST ELEMENTS, THEIR SIZES -/
noncomputable def pB (p : Prop) : Bool := by classical exact decide p
theorem pB_iff {p : Prop} : pB p = true ↔ p := by
  classical
  unfold pB
  exact decide_eq_true_iff
theorem pB_no {p : Prop} : pB p = false ↔ ¬ p := by
  constructor
  · intro h q
    rw [pB_iff.mpr q] at h
    cases h
  · intro h
    cases hb : pB p
    · rfl
    · exact absurd (pB_iff.mp hb) h
theorem pB_cong {p q : Prop} (h : p ↔ q) : pB p = pB q := by rw [propext h]
def cn (A : Nat → Nat → Prop) (P : Nat → Bool) (k j : Nat) : Prop := ∀ C : Nat → Prop, C k → (∀ i j, C i → A i j → P j = true → C j) → C j
section CN
variable {A : Nat → Nat → Prop} {P Q : Nat → Bool} {i j k t N : Nat}
theorem cn_rf : cn A P k k := fun C h _ => h
theorem cn_st (h : cn A P k i) (a : A i j) (p : P j = true) : cn A P k j := fun C c s => s i j (h C c s) a p
theorem cn_tr (h : cn A P k i) (g : cn A P i j) : cn A P k j := fun C c s => g C (h C c s) s
theorem cn_P (hk : P k = true) (h : cn A P k j) : P j = true := h (fun i => P i = true) hk (fun _ _ _ _ p => p)
theorem cn_sy (sy : ∀ i j, A i j → A j i) (hk : P k = true) (h : cn A P k j) : cn A P j k := (h (fun i => P i = true ∧ cn A P i k) ⟨hk, cn_rf⟩ (fun i j c a p => ⟨p, cn_tr (cn_st cn_rf (sy _ _ a) c.1) c.2⟩)).2
theorem cn_mono (h : ∀ i, P i = true → Q i = true) (c : cn A P k j) : cn A Q k j := fun C a s => c C a (fun i j ci aa p => s i j ci aa (h j p))
theorem cn_res (h : ∀ i, Q i = true → P i = true) (hc : ∀ i j, Q i = true → A i j → P j = true → Q j = true) (hk : Q k = true) : cn A Q k j ↔ cn A P k j := ⟨cn_mono h, fun c => (c (fun i => Q i = true ∧ cn A Q k i) ⟨hk, cn_rf⟩ (fun i j ci a p => ⟨hc i j ci.1 a p, cn_st ci.2 a (hc i j ci.1 a p)⟩)).2⟩
/-- connected with one before t -/
def vs (A : Nat → Nat → Prop) (P : Nat → Bool) (t j : Nat) : Prop := ∃ s, s < t ∧ P s = true ∧ cn A P s j
theorem vs_P (h : vs A P t j) : P j = true := by obtain ⟨s, _, p, c⟩ := h; exact cn_P p c
theorem vs_0 : ¬ vs A P 0 j := fun ⟨s, h, _⟩ => absurd h (Nat.not_lt_zero s)
theorem vs_cn (h : vs A P t i) (c : cn A P i j) : vs A P t j := by obtain ⟨s, h1, p, c1⟩ := h; exact ⟨s, h1, p, cn_tr c1 c⟩
theorem vs_st (h : vs A P t i) (a : A i j) (p : P j = true) : vs A P t j := vs_cn h (cn_st cn_rf a p)
theorem vs_bk (sy : ∀ i j, A i j → A j i) (h : vs A P t j) (pi : P i = true) (c : cn A P i j) : vs A P t i := vs_cn h (cn_sy sy pi c)
theorem vs_le {u : Nat} (h : vs A P t j) (q : t ≤ u) : vs A P u j := by obtain ⟨s, h1, r⟩ := h; exact ⟨s, Nat.lt_of_lt_of_le h1 q, r⟩
theorem vs_self (h : i < t) (p : P i = true) : vs A P t i := ⟨i, h, p, cn_rf⟩
theorem vs_no (p : P t = false) : vs A P (t + 1) j ↔ vs A P t j := by
  constructor
  · rintro ⟨s, h, q, c⟩
    refine ⟨s, ?_, q, c⟩
    rcases Nat.lt_succ_iff_lt_or_eq.mp h with h | rfl
    · exact h
    · rw [p] at q; cases q
  · exact fun h => vs_le h (Nat.le_succ t)
theorem vs_old (h : vs A P t t) : vs A P (t + 1) j ↔ vs A P t j := by
  constructor
  · rintro ⟨s, hs, q, c⟩
    rcases Nat.lt_succ_iff_lt_or_eq.mp hs with hs | rfl
    · exact ⟨s, hs, q, c⟩
    · exact vs_cn h c
  · exact fun h => vs_le h (Nat.le_succ t)
theorem vs_new (p : P t = true) : vs A P (t + 1) j ↔ vs A P t j ∨ cn A P t j := by
  constructor
  · rintro ⟨s, hs, q, c⟩
    rcases Nat.lt_succ_iff_lt_or_eq.mp hs with hs | rfl
    · exact Or.inl ⟨s, hs, q, c⟩
    · exact Or.inr c
  · rintro (h | c)
    · exact vs_le h (Nat.le_succ t)
    · exact ⟨t, Nat.lt_succ_self t, p, c⟩
/-- none new between -/
theorem vs_skip {u : Nat} (h : t ≤ u) (q : ∀ s, t ≤ s → s < u → P s = true → vs A P t s) : vs A P u j ↔ vs A P t j := by
  constructor
  · rintro ⟨s, hs, p, c⟩
    by_cases r : s < t
    · exact ⟨s, r, p, c⟩
    · exact vs_cn (q s (by omega) hs p) c
  · exact fun w => vs_le w h
/-- the first of its set -/
noncomputable def sd (A : Nat → Nat → Prop) (P : Nat → Bool) (k : Nat) : Bool := pB (P k = true ∧ ¬ vs A P k k)
theorem sd_iff : sd A P k = true ↔ P k = true ∧ ¬ vs A P k k := pB_iff
/-- how many sets begin before t -/
noncomputable def nS (A : Nat → Nat → Prop) (P : Nat → Bool) (t : Nat) : Nat := fb_ct (sd A P) t
theorem nS_s (t : Nat) : nS A P (t + 1) = nS A P t + (if sd A P t = true then 1 else 0) := rfl
theorem nS_yes (p : P t = true) (v : ¬ vs A P t t) : nS A P (t + 1) = nS A P t + 1 := by rw [nS_s, if_pos (sd_iff.mpr ⟨p, v⟩)]
theorem nS_no (h : P t = false ∨ vs A P t t) : nS A P (t + 1) = nS A P t := by
  rw [nS_s, if_neg]
  · rfl
  · rw [sd_iff]
    rintro ⟨h1, h2⟩
    rcases h with h | h
    · rw [h] at h1; cases h1
    · exact h2 h
theorem nS_skip {u : Nat} (h : t ≤ u) (q : ∀ s, t ≤ s → s < u → P s = true → vs A P t s) : nS A P u = nS A P t := by
  obtain ⟨d, rfl⟩ : ∃ d, u = t + d := ⟨u - t, by omega⟩
  unfold nS
  rw [fb_ct_split, (fb_ct_zero (p := fun k => sd A P (t + k)) (n := d)).mpr, Nat.add_zero]
  intro k hk
  cases hb : sd A P (t + k)
  · rfl
  · obtain ⟨h1, h2⟩ := sd_iff.mp hb
    exact absurd (vs_le (q (t + k) (by omega) (by omega) h1) (by omega)) h2
theorem nS_le (t : Nat) : nS A P t ≤ fb_ct P t := fb_ct_sub fun k _ h => (sd_iff.mp h).1
theorem nS_mono {u : Nat} (h : t ≤ u) : nS A P t ≤ nS A P u := fb_ct_mono _ h
/-- the size of a set -/
noncomputable def cs (A : Nat → Nat → Prop) (P : Nat → Bool) (N k : Nat) : Nat := fb_ct (fun j => pB (cn A P k j)) N
theorem cs_cong (sy : ∀ i j, A i j → A j i) (hk : P k = true) (c : cn A P k j) : cs A P N j = cs A P N k := by
  unfold cs
  refine fb_ct_cong fun i _ => pB_cong ⟨fun q => cn_tr c q, fun q => cn_tr (cn_sy sy hk c) q⟩
theorem cs_pos (h : k < N) : 0 < cs A P N k := fb_ct_pos.mpr ⟨k, h, pB_iff.mpr cn_rf⟩
theorem cs_le : cs A P N k ≤ N := fb_ct_le _ _
/-- the first of the set of one -/
theorem sd_ex (sy : ∀ i j, A i j → A j i) (hk : P k = true) : ∃ s, s ≤ k ∧ sd A P s = true ∧ cn A P s k := by
  induction k using Nat.strongRecOn with
  | _ k ih =>
    by_cases v : vs A P k k
    · obtain ⟨s, h1, p, c⟩ := v
      obtain ⟨r, h2, h3, h4⟩ := ih s h1 p
      exact ⟨r, by omega, h3, cn_tr h4 c⟩
    · exact ⟨k, Nat.le_refl k, sd_iff.mpr ⟨hk, v⟩, cn_rf⟩
theorem sd_one (sy : ∀ i j, A i j → A j i) {s r : Nat} (hs : sd A P s = true) (hr : sd A P r = true) (cs : cn A P s k) (cr : cn A P r k) : s = r := by
  obtain ⟨p1, v1⟩ := sd_iff.mp hs
  obtain ⟨p2, v2⟩ := sd_iff.mp hr
  rcases Nat.lt_trichotomy s r with h | h | h
  · exact absurd ⟨s, h, p1, cn_tr cs (cn_sy sy p2 cr)⟩ v2
  · exact h
  · exact absurd ⟨r, h, p2, cn_tr cr (cn_sy sy p1 cs)⟩ v1
end CN
/-- neighbours in a picture -/
def nb (i j : Nat) : Prop := i % 64 ≤ j % 64 + 1 ∧ j % 64 ≤ i % 64 + 1 ∧ i / 64 ≤ j / 64 + 1 ∧ j / 64 ≤ i / 64 + 1
theorem nb_sy : ∀ i j, nb i j → nb j i := fun _ _ h => ⟨h.2.1, h.1, h.2.2.2, h.2.2.1⟩
/-- how many pixels a picture may have -/
theorem ct_area {P : Nat → Bool} {W H : Nat} (hW : W ≤ 64) (hH : H ≤ 64) (h : ∀ k, P k = true → k % 64 < W ∧ k / 64 < H) : fb_ct P 4096 ≤ W * H := by
  have row : ∀ y, fb_ct (fun x => P (64 * y + x)) 64 ≤ W := by
    intro y
    have e : fb_ct (fun x => P (64 * y + x)) (W + (64 - W)) = fb_ct (fun x => P (64 * y + x)) W + fb_ct (fun x => P (64 * y + (W + x))) (64 - W) := fb_ct_split _ _ _
    rw [show W + (64 - W) = 64 by omega] at e
    rw [e, (fb_ct_zero (p := fun x => P (64 * y + (W + x))) (n := 64 - W)).mpr, Nat.add_zero]
    · exact fb_ct_le _ _
    · intro x hx
      cases hb : P (64 * y + (W + x))
      · rfl
      · have := (h _ hb).1
        omega
  have rows : ∀ n, fb_ct P (64 * n) ≤ W * n := by
    intro n
    induction n with
    | zero => exact Nat.le_refl 0
    | succ n ih =>
      rw [show 64 * (n + 1) = 64 * n + 64 by omega, fb_ct_split, Nat.mul_succ]
      exact Nat.add_le_add ih (row n)
  have e : fb_ct P (64 * H + (4096 - 64 * H)) = fb_ct P (64 * H) + fb_ct (fun k => P (64 * H + k)) (4096 - 64 * H) := fb_ct_split _ _ _
  rw [show 64 * H + (4096 - 64 * H) = 4096 by omega] at e
  rw [e, (fb_ct_zero (p := fun k => P (64 * H + k)) (n := 4096 - 64 * H)).mpr, Nat.add_zero]
  · exact rows H
  · intro k hk
    cases hb : P (64 * H + k)
    · rfl
    · have := (h _ hb).2
      omega

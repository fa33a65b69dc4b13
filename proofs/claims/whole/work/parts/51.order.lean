/-! ORDERS, RUNS OF SIGNS, BEST ONES -/
/-- two sequences without repetition, over the same elements, both in order, are the same -/
theorem so_one {n : Nat} {o o' : Nat → Nat} {lt : Nat → Nat → Prop} (as : ∀ a b, lt a b → lt b a → False) (h1 : ∀ i, i < n → o i < n) (h2 : ∀ i j, i < j → j < n → lt (o i) (o j)) (g1 : ∀ i, i < n → o' i < n) (g2 : ∀ i j, i < j → j < n → lt (o' i) (o' j)) : ∀ i, i < n → o i = o' i := by
  have ir : ∀ a, ¬ lt a a := fun a h => as a a h h
  have inj : ∀ i j, i < j → j < n → o i ≠ o j := fun i j q r e => ir _ (e ▸ h2 i j q r)
  have inj' : ∀ i j, i < j → j < n → o' i ≠ o' j := fun i j q r e => ir _ (e ▸ g2 i j q r)
  intro i
  induction i using Nat.strongRecOn with
  | _ i ih =>
    intro hi
    obtain ⟨a, ha, ea⟩ := fb_onto h1 inj (g1 i hi)
    obtain ⟨b, hb, eb⟩ := fb_onto g1 inj' (h1 i hi)
    rcases Nat.lt_trichotomy a i with q | q | q
    · exact absurd ((ih a q ha).symm.trans ea) (inj' a i q hi)
    · rw [← ea, q]
    · rcases Nat.lt_trichotomy b i with r | r | r
      · exact absurd ((ih b r hb).trans eb) (inj b i r hi)
      · rw [← eb, r]
      · exact absurd (as _ _ (h2 i a q ha) (by rw [ea, ← eb]; exact g2 i b r hb)) (fun f => f)
/-- where a run of signs from a place on ends -/
def en (p : Nat → Bool) (L i : Nat) : Nat := i + fa_first (fun d => !p (i + d)) (L - i)
section EN
variable {p : Nat → Bool} {L i j : Nat}
theorem en_ge : i ≤ en p L i := Nat.le_add_right _ _
theorem en_le (h : i ≤ L) : en p L i ≤ L := by
  have := fa_first_le (fun d => !p (i + d)) (L - i)
  unfold en
  omega
theorem en_all (h1 : i ≤ j) (h2 : j < en p L i) : p j = true := by
  unfold en at h2
  have := fa_first_no (fun d => !p (i + d)) (L - i) (j - i) (by omega)
  rw [show i + (j - i) = j by omega] at this
  simpa using this
theorem en_stop (h : i ≤ L) (hL : p L = false) : p (en p L i) = false := by
  rcases Nat.lt_or_ge (fa_first (fun d => !p (i + d)) (L - i)) (L - i) with q | q
  · have := fa_first_yes (fun d => !p (i + d)) (L - i) q
    unfold en
    simpa using this
  · have e : en p L i = L := by
      have := fa_first_le (fun d => !p (i + d)) (L - i)
      unfold en
      omega
    rw [e]
    exact hL
theorem en_on (h : i ≤ L) (hL : p L = false) (h2 : j ≤ en p L i) (h3 : p j = true) : j + 1 ≤ en p L i := by
  rcases Nat.lt_or_ge j (en p L i) with q | q
  · exact q
  · rw [show j = en p L i by omega, en_stop h hL] at h3
    cases h3
theorem en_off (h1 : i ≤ j) (h2 : j ≤ en p L i) (h3 : p j = false) : j = en p L i := by
  rcases Nat.lt_or_ge j (en p L i) with q | q
  · rw [en_all h1 q] at h3
    cases h3
  · omega
theorem en_cong {q : Nat → Bool} (h : ∀ k, i ≤ k → k < L → p k = q k) : en p L i = en q L i := by
  unfold en
  congr 1
  have : ∀ n, n ≤ L - i → fa_first (fun d => !p (i + d)) n = fa_first (fun d => !q (i + d)) n := by
    intro n
    induction n with
    | zero => intro _; rfl
    | succ n ih =>
      intro hn
      have e := ih (by omega)
      have l1 := fa_first_le (fun d => !p (i + d)) (n + 1)
      rcases Nat.lt_trichotomy (fa_first (fun d => !p (i + d)) (n + 1)) (fa_first (fun d => !q (i + d)) (n + 1)) with c | c | c
      · have a := fa_first_yes (fun d => !p (i + d)) (n + 1) (by have := fa_first_le (fun d => !q (i + d)) (n + 1); omega)
        have b := fa_first_no (fun d => !q (i + d)) (n + 1) _ c
        (try dsimp only at a b)
        rw [h _ (by omega) (by have := fa_first_le (fun d => !q (i + d)) (n + 1); omega), b] at a
        cases a
      · exact c
      · have a := fa_first_yes (fun d => !q (i + d)) (n + 1) (by omega)
        have b := fa_first_no (fun d => !p (i + d)) (n + 1) _ c
        (try dsimp only at a b)
        rw [← h _ (by omega) (by omega), b] at a
        cases a
  exact this _ (Nat.le_refl _)
end EN
/-- the best of those seen so far: a key, without ties -/
def bs (K : Int → Int → Int) (G : Int → Int → Prop) (a b : Int) : Prop := G a b ∧ ∀ x y, G x y → K a b ≤ K x y
theorem bs_one {K : Int → Int → Int} {G : Int → Int → Prop} (inj : ∀ a b x y, G a b → G x y → K a b = K x y → a = x ∧ b = y) {a b x y : Int} (h : bs K G a b) (g : bs K G x y) : a = x ∧ b = y := inj a b x y h.1 g.1 (Int.le_antisymm (h.2 x y g.1) (g.2 a b h.1))
theorem bs_cong {K : Int → Int → Int} {G G' : Int → Int → Prop} (e : ∀ x y, G x y ↔ G' x y) {a b : Int} (h : bs K G a b) : bs K G' a b := ⟨(e a b).mp h.1, fun x y q => h.2 x y ((e x y).mpr q)⟩
/-- one more is offered -/
theorem bs_new {K : Int → Int → Int} {G G' : Int → Int → Prop} {u v : Int} (e : ∀ x y, G' x y ↔ G x y ∨ x = u ∧ y = v) {a b : Int} (h : bs K G a b) : (K u v < K a b → bs K G' u v) ∧ (K a b ≤ K u v → bs K G' a b) := by
  refine ⟨fun q => ⟨(e u v).mpr (Or.inr ⟨rfl, rfl⟩), fun x y w => ?_⟩, fun q => ⟨(e a b).mpr (Or.inl h.1), fun x y w => ?_⟩⟩
  · rcases (e x y).mp w with w | ⟨rfl, rfl⟩
    · have := h.2 x y w
      omega
    · exact Int.le_refl _
  · rcases (e x y).mp w with w | ⟨rfl, rfl⟩
    · exact h.2 x y w
    · exact q
theorem bs_first {K : Int → Int → Int} {G G' : Int → Int → Prop} {u v : Int} (e : ∀ x y, G' x y ↔ G x y ∨ x = u ∧ y = v) (h : ∀ x y, ¬ G x y) : bs K G' u v := by
  refine ⟨(e u v).mpr (Or.inr ⟨rfl, rfl⟩), fun x y w => ?_⟩
  rcases (e x y).mp w with w | ⟨rfl, rfl⟩
  · exact absurd w (h x y)
  · exact Int.le_refl _
/-- bands: the number of the latest, and its end -/
def bnd (f e : Nat → Int) : Nat → Int × Int
  | 0 => (-1, -1)
  | k + 1 => if (bnd f e k).2 < f k ∨ k = 0 then ((bnd f e k).1 + 1, e k) else ((bnd f e k).1, max (bnd f e k).2 (e k))
theorem bnd_rng {f e : Nat → Int} : ∀ k : Nat, -1 ≤ (bnd f e k).1 ∧ (bnd f e k).1 < k ∧ (0 < k → 0 ≤ (bnd f e k).1) := by
  intro k
  induction k with
  | zero => exact ⟨Int.le_refl _, by show (-1 : Int) < ((0 : Nat) : Int); decide, fun h => absurd h (by decide)⟩
  | succ k ih =>
    obtain ⟨h1, h2, h3⟩ := ih
    unfold bnd
    split
    · exact ⟨by show -1 ≤ (bnd f e k).1 + 1; omega, by show (bnd f e k).1 + 1 < ((k + 1 : Nat) : Int); omega, fun _ => by show 0 ≤ (bnd f e k).1 + 1; omega⟩
    · rename_i q
      have : 0 < k := by omega
      exact ⟨h1, by show (bnd f e k).1 < ((k + 1 : Nat) : Int); omega, fun _ => h3 this⟩

/-! A TEXT READ AS SETTINGS -/
/-- the names of the settings among the Strings; their words -/
def nmW (n : Nat) : Nat := [68, 69, 67, 60, 62, 63, 64, 70, 73, 74].getD n 60
def zwW (n : Nat) : Nat := ((xSv 5 n).bind xVk).getD 60
def owW (n : Nat) : Nat := ((xSv 6 n).bind xVk).getD 60
def lstN (n : Nat) : Nat := [4, 0, 0, 0, 0, 0, 0, 0, 1, 0].getD n 0
def mstN (n : Nat) : Nat := [16, 256, 2, 9, 16, 2, 1, 1, 99, 1].getD n 0
def isW (n : Nat) : Bool := n == 6 || (n == 7 || n == 9)
/-- which setting's name stands there; 10: none -/
def stg (T : Nat → Nat) (i e : Nat) : Nat := fa_first (fun n => mtW T (nmW n) i e) 10
/-- the value that stands there; below 0: it may not be -/
def vlT (T : Nat → Nat) (L s i e : Nat) : Int :=
  if isW s then (if mtW T (zwW s) i e then 0 else if mtW T (owW s) i e then 1 else -1)
  else if e ≤ i ∨ i + 3 < e ∨ en (tD T L) L i < e then -1
  else if nmb T i (e - i) < lstN s ∨ mstN s < nmb T i (e - i) then -1 else (nmb T i (e - i) : Int)
/-- the settings that are read, and the place of the error -/
def rdS (T : Nat → Nat) (L : Nat) : Nat → Nat → List (Nat × Int) × Option Nat
  | 0, i => ([], some i)
  | f + 1, i =>
    let j := en (tS T L) L i
    let s := stg T i j
    let k := en (tB T L) L (j + 1)
    let v := vlT T L s (j + 1) k
    if s = 10 then ([], some i)
    else if ¬ (j < L ∧ T j = 61) then ([], some j)
    else if v < 0 then ([], some (j + 1))
    else if L ≤ k then ([(s, v)], none)
    else if ¬ T k = 59 then ([(s, v)], some k)
    else ((s, v) :: (rdS T L f (k + 1)).1, (rdS T L f (k + 1)).2)
section PR
variable {T : Nat → Nat} {L : Nat}
theorem stg_le {i e : Nat} : stg T i e ≤ 10 := fa_first_le _ _
theorem stg_is {i e : Nat} (h : stg T i e ≠ 10) : mtW T (nmW (stg T i e)) i e = true := by
  have hl := stg_le (T := T) (i := i) (e := e)
  generalize hs : stg T i e = s at *
  have h1 : fa_first (fun n => mtW T (nmW n) i e) 10 < 10 := by
    have : fa_first (fun n => mtW T (nmW n) i e) 10 = s := hs
    omega
  have h2 := fa_first_yes (fun n => mtW T (nmW n) i e) 10 h1
  have h3 : fa_first (fun n => mtW T (nmW n) i e) 10 = s := hs
  rw [h3] at h2
  exact h2
theorem nmW_len : ∀ n, n < 10 → 4 ≤ (xSB (nmW n - 20)).length ∧ (xSB (nmW n - 20)).length ≤ 7 ∧ 20 ≤ nmW n ∧ nmW n < 77 := by decide +kernel
theorem mtW_len {w i e : Nat} (h : mtW T w i e = true) : e = i + (xSB (w - 20)).length := by
  unfold mtW at h
  rw [Bool.and_eq_true, decide_eq_true_iff] at h
  exact h.1
theorem stg_long {i e : Nat} (h : stg T i e ≠ 10) : i + 4 ≤ e := by
  have a := mtW_len (stg_is h)
  have b := nmW_len (stg T i e) (by have := stg_le (T := T) (i := i) (e := e); omega)
  omega
theorem vlT_le {s i e : Nat} : vlT T L s i e ≤ 999 := by
  unfold vlT
  split
  · split
    · decide
    · split <;> decide
  · split
    · decide
    · rename_i h1
      split
      · decide
      · have : nmb T i (e - i) < 10 ^ (e - i) := nmb_le _ (fun j hj => by
          have := en_all (p := tD T L) (L := L) (i := i) (j := i + j) (by omega) (by omega)
          exact (of_decide_eq_true this).2.2)
        have h2 : 10 ^ (e - i) ≤ 10 ^ 3 := Nat.pow_le_pow_right (by decide) (by omega)
        omega
/-- the settings that are read are few, and each is one of the ten -/
theorem rdS_len : ∀ (f i : Nat), i ≤ L → 3 * (rdS T L f i).1.length + i ≤ L + 3 ∧ ((rdS T L f i).1 ≠ [] → 3 * (rdS T L f i).1.length + i ≤ L) ∧ ∀ q ∈ (rdS T L f i).1, q.1 < 10 ∧ 0 ≤ q.2 ∧ q.2 ≤ 999 := by
  intro f
  induction f with
  | zero => intro i hi; exact ⟨by show 3 * 0 + i ≤ _; omega, fun h => absurd rfl h, fun q hq => (nomatch hq)⟩
  | succ f ih =>
    intro i hi
    unfold rdS
    (try dsimp only)
    split
    · exact ⟨by show 3 * 0 + i ≤ _; omega, fun h => absurd rfl h, fun q hq => (nomatch hq)⟩
    · rename_i hs
      have hl := stg_long hs
      have hsl := stg_le (T := T) (i := i) (e := en (tS T L) L i)
      split
      · exact ⟨by show 3 * 0 + i ≤ _; omega, fun h => absurd rfl h, fun q hq => (nomatch hq)⟩
      · rename_i hj
        have hj : en (tS T L) L i < L := by
          rw [Classical.not_not] at hj
          exact hj.1
        have hk : en (tS T L) L i + 1 ≤ en (tB T L) L (en (tS T L) L i + 1) := en_ge
        have hk2 : en (tB T L) L (en (tS T L) L i + 1) ≤ L := en_le (by omega)
        split
        · exact ⟨by show 3 * 0 + i ≤ _; omega, fun h => absurd rfl h, fun q hq => (nomatch hq)⟩
        · rename_i hv
          have h0 : stg T i (en (tS T L) L i) < 10 := by omega
          generalize stg T i (en (tS T L) L i) = s0 at *
          have h1 : 0 ≤ vlT T L s0 (en (tS T L) L i + 1) (en (tB T L) L (en (tS T L) L i + 1)) := by omega
          have h9 := vlT_le (T := T) (L := L) (s := s0) (i := en (tS T L) L i + 1) (e := en (tB T L) L (en (tS T L) L i + 1))
          generalize vlT T L s0 (en (tS T L) L i + 1) (en (tB T L) L (en (tS T L) L i + 1)) = v0 at *
          have one : ∀ q ∈ [(s0, v0)], q.1 < 10 ∧ 0 ≤ q.2 ∧ q.2 ≤ 999 := fun q hq => by
            rw [List.mem_singleton] at hq
            rw [hq]
            exact ⟨h0, h1, h9⟩
          split
          · exact ⟨by show 3 * 1 + i ≤ _; omega, fun _ => by show 3 * 1 + i ≤ _; omega, one⟩
          · split
            · exact ⟨by show 3 * 1 + i ≤ _; omega, fun _ => by show 3 * 1 + i ≤ _; omega, one⟩
            · obtain ⟨h1, h2, h3⟩ := ih (en (tB T L) L (en (tS T L) L i + 1) + 1) (by omega)
              have hlen : 3 * ((rdS T L f (en (tB T L) L (en (tS T L) L i + 1) + 1)).1.length + 1) + i ≤ L := by
                by_cases e : (rdS T L f (en (tB T L) L (en (tS T L) L i + 1) + 1)).1 = []
                · rw [e]; show 3 * (0 + 1) + i ≤ L; omega
                · have := h2 e; omega
              refine ⟨by rw [List.length_cons]; omega, fun _ => by rw [List.length_cons]; exact hlen, fun q hq => ?_⟩
              rcases List.mem_cons.mp hq with rfl | hq
              · exact one _ (List.mem_singleton.mpr rfl)
              · exact h3 q hq
end PR

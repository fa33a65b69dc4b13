/-! AN EDIT OF THE MODEL, WHOLE; ITS ROWS READ AND SET -/
section ED2
variable {S : xS} {h : xH} {W H : Nat} {l : List (Nat × (Nat → Int64))} {R : Nat → Nat → Int64}
/-- a page become another picture -/
def pgS (R : Nat → Nat → Int64) (p : Nat) (g : Nat → Int64) : Nat → Nat → Int64 := fun q => if q = p then g else R q
theorem inkF_01 (R : Nat → Nat → Int64) (k : Nat) : inkF R k = 0 ∨ inkF R k = 1 := bz_01 _
theorem inkF_at {p k : Nat} (hk : k < 4096) : inkF R (4096 * p + k) = bz (px (R p) k) := by
  unfold inkF
  rw [show (4096 * p + k) / 4096 = p by omega, show (4096 * p + k) % 4096 = k by omega]
theorem inkF_put (p : Nat) (g : Nat → Int64) (i : Nat) : fb_put (inkF R) (fun k => bz (px g k)) (4096 * p) 4096 i = inkF (pgS R p g) i := by
  unfold fb_put
  by_cases c : 4096 * p ≤ i ∧ i < 4096 * p + 4096
  · rw [if_pos c]
    unfold inkF pgS
    rw [show i / 4096 = p by omega, if_pos rfl, show i % 4096 = i - 4096 * p by omega]
  · rw [if_neg c]
    unfold inkF pgS
    rw [if_neg (show ¬ i / 4096 = p by omega)]
theorem dfP_ct (p : Nat) (g : Nat → Int64) : fb_ct (fun i => decide (inkF R (4096 * p + i) ≠ bz (px g i))) 4096 = dfP (R p) g 4096 := by
  refine fb_ct_cong fun k hk => ?_
  rw [inkF_at hk]
  cases px (R p) k <;> cases px g k <;> decide
theorem paX_push {h' : xH} {n p : Nat} (hn : l.length = n) (hn8 : n < 8) (hp : p < 4) {pg pa : Nat → Int32} (hpa : ∀ k, k < 32768 → pa k = 0 ∨ pa k = 1) (hl : ∀ i q, l[i]? = some q → pg i = nI q.1 ∧ q.1 < 4 ∧ ∀ k, k < 4096 → pa (4096 * i + k) = bz (px q.2 k))
    (h6 : xG h' 90 12 6 = some (.int (nI (n + 1)))) (E : aI h' 93 0 8 (upd pg n (nI p))) (C : aI h' 92 2 32768 (fb_put pa (fun i => inkF R (4096 * p + i)) (4096 * n) 4096)) : paX h' (l ++ [(p, R p)]) := by
  refine ⟨?_, ?_, _, _, E, C, fun k hk => ?_, fun i q hq => ?_⟩
  · rw [h6, List.length_append, hn]; rfl
  · rw [List.length_append, hn]; show n + 1 ≤ 8; omega
  · unfold fb_put
    split
    · exact inkF_01 _ _
    · exact hpa k hk
  · by_cases e : i < l.length
    · rw [List.getElem?_append_left e] at hq
      obtain ⟨g1, g2, g3⟩ := hl i q hq
      refine ⟨?_, g2, fun k hk => ?_⟩
      · unfold upd
        rw [if_neg (by omega)]
        exact g1
      · rw [fb_put_out (by omega)]
        exact g3 k hk
    · have ei : i = l.length := by
        have := (List.getElem?_eq_some_iff.mp hq).1
        rw [List.length_append] at this
        simp only [List.length_cons, List.length_nil] at this
        omega
      subst ei
      rw [List.getElem?_concat_length] at hq
      cases hq
      refine ⟨?_, hp, fun k hk => ?_⟩
      · unfold upd
        rw [if_pos hn]
      · rw [hn, fb_put_in (by omega) (by omega), show 4096 * n + k - 4096 * n = k by omega, inkF_at hk]
theorem edits_s (X : moX h W H) (A : aI h 91 2 16384 (inkF R)) (P : paX h l) {g : Nat → Int64} (B : aI h 94 2 4096 (fun k => bz (px g k))) {p : Nat} (hp : p < 4) : ∃ h', xM S mX13_edits [.ref 90, .int (nI p)] h = some (.inl (some (.int (nI (dfP (R p) g 4096)))), h', 0, 0) ∧ aI h' 91 2 16384 (inkF (pgS R p g)) ∧ paX h' (hsN l (p, R p)) ∧ xfr edQ edP h h' := by
  obtain ⟨h6, h8, pg, pa, E, C, hpa, hl⟩ := P
  by_cases e8 : l.length = 8
  · have h6' : xG h 90 12 6 = some (.int 8) := by rw [h6, e8]; rfl
    have hlt : l.tail.length = 7 := by rw [List.length_tail, e8]
    obtain ⟨h1, g1, g2, g3, g4, g5⟩ := edit_shift (S := S) (p := p) X h6' C E hpa
    have X1 := moX_fr g5 X edQ_mo
    have A1 := aI_fr g5 A (by decide)
    have B1 := aI_fr g5 B (by decide)
    have hpa1 : ∀ k, k < 32768 → fa_fill (fun i => pa (i + 4096)) pa 28672 k = 0 ∨ fa_fill (fun i => pa (i + 4096)) pa 28672 k = 1 := by
      intro k hk
      unfold fa_fill
      split
      · exact hpa _ (by omega)
      · exact hpa k hk
    obtain ⟨h', k1, k2, k3, k4, k5, k6⟩ := edit_loop (S := S) X1 (show 7 < 8 by decide) hp g4 A1 B1 g2 g3 (fun k _ => inkF_01 _ _) (fun k _ => bz_01 _)
    refine ⟨h', w_X13_edits S _ _ _ _ ?_, aI_cong k2 (fun i _ => inkF_put p g i), ?_, xfr_tr (xfr_mono g5 (fun _ _ q => q) (fun b q => by rcases q with rfl | rfl <;> exact ⟨by decide, by decide⟩)) k6⟩
    · try rw [xGi_of h6']
      try rw [Option.bind_some]
      try rw [if_neg (by decide)]
      have := g1 _ k1
      rw [dfP_ct] at this
      exact this
    · unfold hsN
      rw [if_pos e8]
      refine paX_push hlt (by decide) hp hpa1 (fun i q hq => ?_) k5 k4 k3
      rw [List.getElem?_tail] at hq
      have hi : i + 1 < 8 := by
        have := (List.getElem?_eq_some_iff.mp hq).1
        omega
      obtain ⟨q1, q2, q3⟩ := hl (i + 1) q hq
      refine ⟨by rw [fa_fill_in (by omega)]; exact q1, q2, fun k hk => ?_⟩
      rw [fa_fill_in (by omega), show 4096 * i + k + 4096 = 4096 * (i + 1) + k by omega]
      exact q3 k hk
  · obtain ⟨h', g1, g2, g3, g4, g5, g6⟩ := edit_loop (S := S) X (show l.length < 8 by omega) hp h6 A B C E (fun k _ => inkF_01 _ _) (fun k _ => bz_01 _)
    refine ⟨h', w_X13_edits S _ _ _ _ ?_, aI_cong g2 (fun i _ => inkF_put p g i), ?_, g6⟩
    · try rw [xGi_of h6]
      try rw [Option.bind_some]
      try rw [if_pos (show ¬ nI l.length = (8 : Int32) from fun q => e8 ((nI_eq (by omega) (by decide)).mp (show nI l.length = nI 8 from q)))]
      try rw [g1]
      try rw [dfP_ct]
    · unfold hsN
      rw [if_neg e8]
      exact paX_push rfl (by omega) hp hpa hl g5 g4 g3
end ED2

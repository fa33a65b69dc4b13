/-! AN EDIT OF THE MODEL -/
section ED
variable {S : xS} {h : xH} {W H : Nat} {l : List (Nat × (Nat → Int64))}
def edQ (a j : Nat) : Prop := a = 90 ∧ j = 6
def edP (b : Nat) : Prop := 91 ≤ b ∧ b ≤ 93
theorem edQ_mo : ∀ j, edQ 90 j → j ∈ moM := fun j q => by rw [q.2]; decide
/-- in how many of the first k pixels two pictures differ -/
def dfP (f g : Nat → Int64) (k : Nat) : Nat := fb_ct (fun i => px f i != px g i) k
/-- the fields and arrays that an edit reads, fields of ints aside -/
theorem edit_loop (X : moX h W H) {n p : Nat} (hn : n < 8) (hp : p < 4) {F0 N pa : Nat → Int32} {pg : Nat → Int32} (h6 : xG h 90 12 6 = some (.int (nI n))) (A : aI h 91 2 16384 F0) (B : aI h 94 2 4096 N) (C : aI h 92 2 32768 pa) (E : aI h 93 0 8 pg) (hF : ∀ k, k < 16384 → F0 k = 0 ∨ F0 k = 1) (hN : ∀ k, k < 4096 → N k = 0 ∨ N k = 1) :
    ∃ h', xden S mX13_edits 82 [(0, .ref 90), (1, .int (nI p)), (2, .int 0), (3, .int 0)] [] h = some (.inl (some (.int (nI (fb_ct (fun i => decide (F0 (4096 * p + i) ≠ N i)) 4096)))), h', 0, 0) ∧ aI h' 91 2 16384 (fb_put F0 N (4096 * p) 4096) ∧ aI h' 92 2 32768 (fb_put pa (fun i => F0 (4096 * p + i)) (4096 * n) 4096) ∧ aI h' 93 0 8 (upd pg n (nI p)) ∧ xG h' 90 12 6 = some (.int (nI (n + 1))) ∧ xfr edQ edP h h' := by
  have L := x_loop (σ := Nat × xH) (D := fun k s => xden S mX13_edits 82 [(0, .ref 90), (1, .int (nI p)), (2, .int (nI s.1)), (3, .int (nI k))] [] s.2)
    (Inv := fun k s => s.1 = fb_ct (fun i => decide (F0 (4096 * p + i) ≠ N i)) k ∧ aI s.2 91 2 16384 (fb_put F0 N (4096 * p) k) ∧ aI s.2 92 2 32768 (fb_put pa (fun i => F0 (4096 * p + i)) (4096 * n) k) ∧ xfr edQ edP h s.2 ∧ xG s.2 90 12 6 = some (.int (nI n)) ∧ aI s.2 93 0 8 pg)
    (Post := fun o => o.1 = .inl (some (.int (nI (fb_ct (fun i => decide (F0 (4096 * p + i) ≠ N i)) 4096)))) ∧ o.2.2 = (0, 0) ∧ aI o.2.1 91 2 16384 (fb_put F0 N (4096 * p) 4096) ∧ aI o.2.1 92 2 32768 (fb_put pa (fun i => F0 (4096 * p + i)) (4096 * n) 4096) ∧ aI o.2.1 93 0 8 (upd pg n (nI p)) ∧ xG o.2.1 90 12 6 = some (.int (nI (n + 1))) ∧ xfr edQ edP h o.2.1) 4096
    (fun k hk s hs => ?_) (fun s hs => ?_) (0, h) ⟨rfl, by rw [fb_put_0]; exact A, by rw [fb_put_0]; exact C, xfr_rf, h6, E⟩
  · obtain ⟨⟨r, h', c, d⟩, g1, g2, g3, g4, g5, g6, g7, g8⟩ := L
    cases g2
    cases g3
    exact ⟨h', g1, g4, g5, g6, g7, g8⟩
  · obtain ⟨cnt, s⟩ := s
    obtain ⟨q1, q2, q3, q4, q5, q6⟩ := hs
    dsimp only at q1 q2 q3 q4 q5 q6
    have X1 := moX_fr q4 X edQ_mo
    have hr1 : fb_put F0 N (4096 * p) k (4096 * p + k) = F0 (4096 * p + k) := fb_put_out (by omega)
    obtain ⟨e1, w1, w2⟩ := aI_wz q3 (by decide) (i := 4096 * n + k) (by omega) (hF (4096 * p + k) (by omega))
    rw [show upd (fb_put pa (fun i => F0 (4096 * p + i)) (4096 * n) k) (4096 * n + k) (F0 (4096 * p + k)) = fb_put pa (fun i => F0 (4096 * p + i)) (4096 * n) (k + 1) from fb_put_succ pa (fun i => F0 (4096 * p + i)) (4096 * n) k] at w2
    have X2 := moX_A X1 92 e1
    have A2 := aI_A (b' := 92) q2 e1 (by decide)
    have B2 := aI_A (b' := 92) (aI_fr q4 B (by unfold edP; omega)) e1 (by decide)
    obtain ⟨e2, v1, v2⟩ := aI_wz A2 (by decide) (i := 4096 * p + k) (by omega) (hN k hk)
    rw [fb_put_succ] at v2
    refine ⟨(fb_ct (fun i => decide (F0 (4096 * p + i) ≠ N i)) (k + 1), xA (xA s 92 e1) 91 e2), ⟨rfl, v2, aI_A w2 _ (by decide), xfr_tr (xfr_tr q4 (xfr_A (by unfold edP; omega) _)) (xfr_A (by unfold edP; omega) _), by rw [xG_A, xG_A]; exact q5, aI_A (aI_A q6 _ (by decide)) _ (by decide)⟩, fun o ho => w_X13_edits_82 S _ _ _ _ _ _ ?_⟩
    dsimp only at ho ⊢
    rw [if_neg (show ¬ (4096 : Int32) ≤ nI k from nI_ge (b := 4096) hk (by decide)), moX_r X1 (by decide), Option.bind_some, xGi_of q5, Option.bind_some, moX_r X1 (by decide), Option.bind_some, show (4096 : Int32) = nI 4096 from rfl, pk_mul, nI_add, aI_rd q2 (by decide) (by omega), Option.bind_some, hr1, pk_mul, nI_add, w1, Option.bind_some, moX_r X2 (by decide), Option.bind_some, aI_rd A2 (by decide) (by omega), Option.bind_some, hr1, moX_r X2 (by decide), Option.bind_some, aI_rd B2 (by decide) hk, Option.bind_some, show (1 : Int32) = nI 1 from rfl, show (0 : Int32) = nI 0 from rfl]
    rw [fb_ct_succ] at ho
    by_cases c : F0 (4096 * p + k) = N k
    · rw [if_neg (fun q => q c)]
      rw [decide_eq_false (fun q => q c), if_neg (by decide)] at ho
      show ((xGr (xA s 92 e1) 90 12 3).bind _) = _
      rw [moX_r X2 (by decide), Option.bind_some, moX_r X2 (by decide), Option.bind_some, aI_rd B2 (by decide) hk, Option.bind_some, v1, Option.bind_some]
      show xden S mX13_edits 82 [(0, .ref 90), (1, .int (nI p)), (2, .int (nI cnt + nI 0)), (3, .int (nI k + nI 1))] [] _ = _
      rw [nI_add, nI_add, q1]
      exact ho
    · rw [if_pos c]
      rw [decide_eq_true c, if_pos rfl] at ho
      show ((xGr (xA s 92 e1) 90 12 3).bind _) = _
      rw [moX_r X2 (by decide), Option.bind_some, moX_r X2 (by decide), Option.bind_some, aI_rd B2 (by decide) hk, Option.bind_some, v1, Option.bind_some]
      show xden S mX13_edits 82 [(0, .ref 90), (1, .int (nI p)), (2, .int (nI cnt + nI 1)), (3, .int (nI k + nI 1))] [] _ = _
      rw [nI_add, nI_add, q1]
      exact ho
  · obtain ⟨cnt, s⟩ := s
    obtain ⟨q1, q2, q3, q4, q5, q6⟩ := hs
    dsimp only at q1 q2 q3 q4 q5 q6
    have X1 := moX_fr q4 X edQ_mo
    obtain ⟨e1, w1, w2⟩ := aI_wi q6 (by decide) hn (nI p)
    have X2 := moX_A X1 93 e1
    have q5' : xG (xA s 93 e1) 90 12 6 = some (.int (nI n)) := by rw [xG_A]; exact q5
    refine ⟨(.inl (some (.int (nI cnt))), xS (xA s 93 e1) 90 6 (.int (nI (n + 1))), 0, 0), w_X13_edits_82 S _ _ _ _ _ _ ?_, by rw [q1], rfl, aI_S (aI_A q2 _ (by decide)) _ _ _, aI_S (aI_A q3 _ (by decide)) _ _ _, aI_S w2 _ _ _, by show xG (xS _ 90 6 _) 90 12 6 = _; rw [xG_S, if_pos ⟨rfl, rfl⟩, q5']; rfl, xfr_tr (xfr_tr q4 (xfr_A (by unfold edP; omega) _)) (xfr_S (by exact ⟨rfl, rfl⟩) _)⟩
    dsimp only
    rw [if_pos (Int32.le_refl _), moX_r X1 (by decide), Option.bind_some, xGi_of q5, Option.bind_some, w1, Option.bind_some, xGi_of q5', Option.bind_some, show (1 : Int32) = nI 1 from rfl, nI_add, moX_pi X2 (by decide) (by decide) rfl, Option.bind_some]
/-- the oldest state goes -/
theorem edit_shift (X : moX h W H) {p : Nat} {pa pg : Nat → Int32} (h6 : xG h 90 12 6 = some (.int 8)) (C : aI h 92 2 32768 pa) (E : aI h 93 0 8 pg) (hpa : ∀ k, k < 32768 → pa k = 0 ∨ pa k = 1) :
    ∃ h', (∀ o, xden S mX13_edits 82 [(0, .ref 90), (1, .int (nI p)), (2, .int 0), (3, .int 0)] [] h' = some o → xden S mX13_edits 11 [(0, .ref 90), (1, .int (nI p)), (2, .int 0)] [] h = some o) ∧ aI h' 92 2 32768 (fa_fill (fun i => pa (i + 4096)) pa 28672) ∧ aI h' 93 0 8 (fa_fill (fun i => pg (i + 1)) pg 7) ∧ xG h' 90 12 6 = some (.int (nI 7)) ∧ xfr edQ (fun b => b = 92 ∨ b = 93) h h' := by
  have L2 : ∀ s, aI s 93 0 8 pg → xG s 90 12 6 = some (.int 8) → moX s W H → ∃ h', (∀ o, xden S mX13_edits 82 [(0, .ref 90), (1, .int (nI p)), (2, .int 0), (3, .int 0)] [] h' = some o → xden S mX13_edits 42 [(0, .ref 90), (1, .int (nI p)), (2, .int 0)] [] s = some o) ∧ aI h' 93 0 8 (fa_fill (fun i => pg (i + 1)) pg 7) ∧ xG h' 90 12 6 = some (.int (nI 7)) ∧ xfr edQ (fun b => b = 93) s h' := by
    intro s0 E0 h60 X0
    have key : ∀ k, k ≤ 7 → ∀ s, aI s 93 0 8 (fa_fill (fun i => pg (i + 1)) pg k) ∧ xfr edQ (fun b => b = 93) s0 s ∧ xG s 90 12 6 = some (.int 8) → ∃ h', (∀ o, xden S mX13_edits 82 [(0, .ref 90), (1, .int (nI p)), (2, .int 0), (3, .int 0)] [] h' = some o → xden S mX13_edits 42 [(0, .ref 90), (1, .int (nI p)), (2, .int (nI k))] [] s = some o) ∧ aI h' 93 0 8 (fa_fill (fun i => pg (i + 1)) pg 7) ∧ xG h' 90 12 6 = some (.int (nI 7)) ∧ xfr edQ (fun b => b = 93) s0 h' := by
      refine x_down 7 (fun k hk ih s hs => ?_) (fun s hs => ?_)
      · obtain ⟨q1, q2, q3⟩ := hs
        have X1 := moX_fr q2 X0 edQ_mo
        have hrd : fa_fill (fun i => pg (i + 1)) pg k (k + 1) = pg (k + 1) := fa_fill_out (by omega)
        obtain ⟨e, w1, w2⟩ := aI_wi q1 (by decide) (i := k) (by omega) (pg (k + 1))
        rw [show upd (fa_fill (fun i => pg (i + 1)) pg k) k (pg (k + 1)) = fa_fill (fun i => pg (i + 1)) pg (k + 1) from fa_fill_succ (fun i => pg (i + 1)) pg k] at w2
        obtain ⟨h', g1, g2⟩ := ih (xA s 93 e) ⟨w2, xfr_tr q2 (xfr_A (by exact rfl) _), by rw [xG_A]; exact q3⟩
        refine ⟨h', fun o ho => w_X13_edits_42 S _ _ _ _ _ ?_, g2⟩
        have := g1 o ho
        rw [if_neg (show ¬ (7 : Int32) ≤ nI k from nI_ge (b := 7) hk (by decide)), moX_r X1 (by decide), Option.bind_some, moX_r X1 (by decide), Option.bind_some, show (1 : Int32) = nI 1 from rfl, nI_add, aI_rd q1 (by decide) (by omega), Option.bind_some, hrd, w1, Option.bind_some]
        exact this
      · obtain ⟨q1, q2, q3⟩ := hs
        have X1 := moX_fr q2 X0 edQ_mo
        refine ⟨xS s 90 6 (.int (nI 7)), fun o ho => w_X13_edits_42 S _ _ _ _ _ ?_, aI_S q1 _ _ _, by rw [xG_S, if_pos ⟨rfl, rfl⟩, q3]; rfl, xfr_tr q2 (xfr_S (by exact ⟨rfl, rfl⟩) _)⟩
        rw [if_pos (Int32.le_refl _), xGi_of q3, Option.bind_some, show (8 : Int32) - 1 = nI 7 from by decide, moX_pi X1 (by decide) (by decide) rfl, Option.bind_some]
        exact ho
    exact key 0 (by omega) s0 ⟨by rw [fa_fill_0]; exact E0, xfr_rf, h60⟩
  have key : ∀ k, k ≤ 28672 → ∀ s, aI s 92 2 32768 (fa_fill (fun i => pa (i + 4096)) pa k) ∧ xfr edQ (fun b => b = 92) h s ∧ xG s 90 12 6 = some (.int 8) → ∃ h', (∀ o, xden S mX13_edits 82 [(0, .ref 90), (1, .int (nI p)), (2, .int 0), (3, .int 0)] [] h' = some o → xden S mX13_edits 11 [(0, .ref 90), (1, .int (nI p)), (2, .int (nI k))] [] s = some o) ∧ aI h' 92 2 32768 (fa_fill (fun i => pa (i + 4096)) pa 28672) ∧ aI h' 93 0 8 (fa_fill (fun i => pg (i + 1)) pg 7) ∧ xG h' 90 12 6 = some (.int (nI 7)) ∧ xfr edQ (fun b => b = 92 ∨ b = 93) h h' := by
    refine x_down 28672 (fun k hk ih s hs => ?_) (fun s hs => ?_)
    · obtain ⟨q1, q2, q3⟩ := hs
      have X1 := moX_fr q2 X edQ_mo
      have hrd : fa_fill (fun i => pa (i + 4096)) pa k (k + 4096) = pa (k + 4096) := fa_fill_out (by omega)
      obtain ⟨e, w1, w2⟩ := aI_wz q1 (by decide) (i := k) (by omega) (hpa (k + 4096) (by omega))
      rw [show upd (fa_fill (fun i => pa (i + 4096)) pa k) k (pa (k + 4096)) = fa_fill (fun i => pa (i + 4096)) pa (k + 1) from fa_fill_succ (fun i => pa (i + 4096)) pa k] at w2
      obtain ⟨h', g1, g2⟩ := ih (xA s 92 e) ⟨w2, xfr_tr q2 (xfr_A (by exact rfl) _), by rw [xG_A]; exact q3⟩
      refine ⟨h', fun o ho => w_X13_edits_11 S _ _ _ _ _ ?_, g2⟩
      have := g1 o ho
      rw [if_neg (show ¬ (28672 : Int32) ≤ nI k from nI_ge (b := 28672) hk (by decide)), moX_r X1 (by decide), Option.bind_some, moX_r X1 (by decide), Option.bind_some, show (4096 : Int32) = nI 4096 from rfl, nI_add, aI_rd q1 (by decide) (by omega), Option.bind_some, hrd, w1, Option.bind_some]
      exact this
    · obtain ⟨q1, q2, q3⟩ := hs
      have X1 := moX_fr q2 X edQ_mo
      obtain ⟨h', g1, g2, g3, g4⟩ := L2 s (aI_fr q2 E (by decide)) q3 X1
      refine ⟨h', fun o ho => w_X13_edits_11 S _ _ _ _ _ ?_, aI_fr g4 q1 (by decide), g2, g3, xfr_tr (xfr_mono q2 (fun _ _ q => q) (fun b q => Or.inl q)) (xfr_mono g4 (fun _ _ q => q) (fun b q => Or.inr q))⟩
      rw [if_pos (Int32.le_refl _)]
      exact g1 o ho
  exact key 0 (by omega) h ⟨by rw [fa_fill_0]; exact C, xfr_rf, h6⟩
end ED

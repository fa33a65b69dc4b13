/-! LOOPS; THE MODEL'S PAGES AND PAST -/
theorem x_loop {σ : Type} {D : Nat → σ → Option xO} {Inv : Nat → σ → Prop} {Post : xO → Prop} (n : Nat) (step : ∀ k, k < n → ∀ s, Inv k s → ∃ s', Inv (k + 1) s' ∧ ∀ o, D (k + 1) s' = some o → D k s = some o) (base : ∀ s, Inv n s → ∃ o, D n s = some o ∧ Post o) : ∀ s, Inv 0 s → ∃ o, D 0 s = some o ∧ Post o := by
  have key : ∀ k, k ≤ n → ∀ s, Inv k s → ∃ o, D k s = some o ∧ Post o := by
    refine x_down n (fun k hk ih s hs => ?_) base
    obtain ⟨s', h1, h2⟩ := step k hk s hs
    obtain ⟨o, h3, h4⟩ := ih s' h1
    exact ⟨o, h2 o h3, h4⟩
  exact key 0 (Nat.zero_le n)
/-- a loop that goes on while something shrinks -/
theorem x_while {σ : Type} {D : σ → Option xO} {Inv : σ → Prop} {Post : xO → Prop} (m : σ → Nat) (step : ∀ s, Inv s → (∃ s', Inv s' ∧ m s' < m s ∧ ∀ o, D s' = some o → D s = some o) ∨ ∃ o, D s = some o ∧ Post o) : ∀ s, Inv s → ∃ o, D s = some o ∧ Post o := by
  have key : ∀ n s, m s < n → Inv s → ∃ o, D s = some o ∧ Post o := by
    intro n
    induction n with
    | zero => intro s hs _; omega
    | succ n ih =>
      intro s hs hi
      rcases step s hi with ⟨s', h1, h2, h3⟩ | h
      · obtain ⟨o, h4, h5⟩ := ih s' (by omega) h1
        exact ⟨o, h3 o h4, h5⟩
      · exact h
  exact fun s hs => key (m s + 1) s (Nat.lt_succ_self _) hs
section MP
variable {S : xS} {h : xH} {W H : Nat}
/-- the model's pages -/
def inkF (R : Nat → Nat → Int64) (k : Nat) : Int32 := bz (px (R (k / 4096)) (k % 4096))
/-- the past: as many states, their pages, their pictures -/
def paX (h : xH) (l : List (Nat × (Nat → Int64))) : Prop := xG h 90 12 6 = some (.int (nI l.length)) ∧ l.length ≤ 8 ∧ ∃ pg pa, aI h 93 0 8 pg ∧ aI h 92 2 32768 pa ∧ (∀ k, k < 32768 → pa k = 0 ∨ pa k = 1) ∧ ∀ i q, l[i]? = some q → pg i = nI q.1 ∧ q.1 < 4 ∧ ∀ k, k < 4096 → pa (4096 * i + k) = bz (px q.2 k)
theorem takes_s (X : moX h W H) {F g : Nat → Int32} (A : aI h 91 2 16384 F) (B : aI h 94 2 4096 g) (h01 : ∀ k, k < 16384 → F k = 0 ∨ F k = 1) {p : Nat} (hp : p < 4) : ∃ h', xM S mX13_takes [.ref 90, .int (nI p)] h = some (.inl none, h', 0, 0) ∧ aI h' 94 2 4096 (fun k => F (4096 * p + k)) ∧ xfr (fun _ _ => False) (fun z => z = 94) h h' := by
  have L := x_loop (σ := xH) (D := fun k s => xden S mX13_takes 2 [(0, .ref 90), (1, .int (nI p)), (2, .int (nI k))] [] s) (Inv := fun k s => aI s 94 2 4096 (fa_fill (fun k => F (4096 * p + k)) g k) ∧ xfr (fun _ _ => False) (fun z => z = 94) h s) (Post := fun o => o.1 = .inl none ∧ aI o.2.1 94 2 4096 (fun k => F (4096 * p + k)) ∧ xfr (fun _ _ => False) (fun z => z = 94) h o.2.1 ∧ o.2.2 = (0, 0)) 4096
    (fun k hk s hs => ?_) (fun s hs => ?_) h ⟨by rw [fa_fill_0]; exact B, xfr_rf⟩
  · obtain ⟨⟨r, h', c, d⟩, h1, h2, h3, h4, h5⟩ := L
    cases h2
    cases h5
    exact ⟨h', w_X13_takes S _ _ _ _ h1, h3, h4⟩
  · obtain ⟨h1, h2⟩ := hs
    have X1 := moX_fr h2 X (fun j q => q.elim)
    have A1 := aI_fr h2 A (by decide)
    obtain ⟨e, w1, w2⟩ := aI_wz h1 (by decide) hk (h01 (4096 * p + k) (by omega))
    refine ⟨xA s 94 e, ⟨?_, xfr_tr h2 (xfr_A (by exact rfl) _)⟩, fun o ho => w_X13_takes_2 S _ _ _ _ _ ?_⟩
    · rw [fa_fill_succ] at w2
      exact w2
    · try rw [if_neg (show ¬ (4096 : Int32) ≤ nI k from nI_ge (b := 4096) hk (by decide))]
      try simp only [mg_3 X1, mg_4 X1, mg_5 X1, mg_7 X1, mg_8 X1, mg_9 X1, mg_12 X1, mg_14 X1, mg_15 X1, mg_17 X1, mg_18 X1, mg_19 X1, mg_20 X1, mg_21 X1, mg_22 X1, mg_24 X1, mg_26 X1, mg_27 X1, mg_28 X1, mg_29 X1, mg_31 X1, mg_32 X1, mg_33 X1, mg_36 X1, mg_37 X1, mg_38 X1, mg_39 X1, mg_40 X1, mg_46 X1, mg_47 X1, mg_52 X1, mg_53 X1, mg_57 X1, mg_58 X1, mg_60 X1, mg_61 X1, mg_62 X1, mg_63 X1, mg_64 X1, mg_65 X1, mg_66 X1, mg_67 X1, mg_68 X1, mg_69 X1, mg_70 X1, mg_71 X1, mg_72 X1, mg_73 X1, mg_74 X1, mg_75 X1, mg_76 X1, mg_77 X1, mg_78 X1, mg_80 X1, mg_81 X1, Option.bind_some]
      try simp only [mg_3 X1, mg_4 X1, mg_5 X1, mg_7 X1, mg_8 X1, mg_9 X1, mg_12 X1, mg_14 X1, mg_15 X1, mg_17 X1, mg_18 X1, mg_19 X1, mg_20 X1, mg_21 X1, mg_22 X1, mg_24 X1, mg_26 X1, mg_27 X1, mg_28 X1, mg_29 X1, mg_31 X1, mg_32 X1, mg_33 X1, mg_36 X1, mg_37 X1, mg_38 X1, mg_39 X1, mg_40 X1, mg_46 X1, mg_47 X1, mg_52 X1, mg_53 X1, mg_57 X1, mg_58 X1, mg_60 X1, mg_61 X1, mg_62 X1, mg_63 X1, mg_64 X1, mg_65 X1, mg_66 X1, mg_67 X1, mg_68 X1, mg_69 X1, mg_70 X1, mg_71 X1, mg_72 X1, mg_73 X1, mg_74 X1, mg_75 X1, mg_76 X1, mg_77 X1, mg_78 X1, mg_80 X1, mg_81 X1, Option.bind_some]
      try rw [show (4096 : Int32) = nI 4096 from rfl]
      try rw [pk_mul]
      try rw [nI_add]
      try rw [aI_rd A1 (by decide) (by omega)]
      try rw [Option.bind_some]
      try rw [w1]
      try rw [Option.bind_some]
      try rw [show (1 : Int32) = nI 1 from rfl]
      try rw [nI_add]
      exact ho
  · obtain ⟨h1, h2⟩ := hs
    refine ⟨(.inl none, s, 0, 0), w_X13_takes_2 S _ _ _ _ _ ?_, rfl, aI_cong h1 (fun i hi => fa_fill_in hi), h2, rfl⟩
    rw [if_pos (show (4096 : Int32) ≤ nI 4096 from Int32.le_refl _)]
/-- a row, out of the model's pages -/
theorem rowOf_s (X : moX h W H) {R : Nat → Nat → Int64} (A : aI h 91 2 16384 (inkF R)) {p y : Nat} (hp : p < 4) (hy : y < 64) (o : okP W H (R p)) : xM S mX13_rowOf [.ref 90, .int (nI p), .int (nI y)] h = some (.inl (some (.long (R p y))), h, 0, 0) := by
  obtain ⟨h1, h2, h3, h4, h5, h6, h7, h8⟩ := X
  have X : moX h W H := ⟨h1, h2, h3, h4, h5, h6, h7, h8⟩
  have L := x_loop (σ := Int64) (D := fun k v => xden S mX13_rowOf 5 [(0, .ref 90), (1, .int (nI p)), (2, .int (nI y)), (3, .long v), (5, .int (nI k))] [] h) (Inv := fun k v => ∀ i, i < 64 → lb v i = (decide (i < k) && lb (R p y) i)) (Post := fun o => o = (.inl (some (.long (R p y))), h, 0, 0)) W
    (fun k hk v hv => ?_) (fun v hv => ?_) 0 (fun i _ => by rw [lb_0, decide_eq_false (Nat.not_lt_zero i)]; rfl)
  · obtain ⟨o', g1, g2⟩ := L
    rw [g2] at g1
    exact w_X13_rowOf S _ _ _ _ _ g1
  · have hix : inkF R (4096 * p + 64 * y + k) = bz (lb (R p y) k) := by
      unfold inkF px
      rw [show (4096 * p + 64 * y + k) / 4096 = p by omega, show (4096 * p + 64 * y + k) % 4096 = 64 * y + k by omega, show (64 * y + k) / 64 = y by omega, show (64 * y + k) % 64 = k by omega]
    refine ⟨v ||| (if lb (R p y) k then (1 : Int64) <<< ((nI k).toInt64 &&& 63) else 0), fun i hi => ?_, fun o ho => w_X13_rowOf_5 S _ _ _ _ _ _ _ ?_⟩
    · rw [lb_or, hv i hi]
      by_cases c : lb (R p y) k = true
      · rw [if_pos c, lb_shl k (by omega) 1 hi]
        have h1i : lb 1 (i - k) = decide (i - k = 0) := by
          have : ∀ i, i < 64 → lb 1 i = decide (i = 0) := by decide +kernel
          exact this _ (by omega)
        rw [h1i]
        by_cases e : i = k
        · subst e
          rw [c]
          simp
        · by_cases e2 : i < k
          · rw [decide_eq_true e2, decide_eq_false (show ¬ k ≤ i by omega), decide_eq_true (show i < k + 1 by omega)]
            simp
          · rw [decide_eq_false e2, decide_eq_false (show ¬ i - k = 0 by omega), decide_eq_false (show ¬ i < k + 1 by omega)]
            simp
      · rw [if_neg c, lb_0]
        by_cases e : i = k
        · subst e
          have c' : lb (R p y) i = false := by simpa using c
          rw [c']
          simp
        · rw [Bool.or_false]
          congr 1
          exact decide_eq_decide.mpr (by omega)
    · try rw [xGi_of h1]
      try rw [Option.bind_some]
      try rw [if_neg (nI_ge hk (by omega))]
      try simp only [mg_3 X, mg_4 X, mg_5 X, mg_7 X, mg_8 X, mg_9 X, mg_12 X, mg_14 X, mg_15 X, mg_17 X, mg_18 X, mg_19 X, mg_20 X, mg_21 X, mg_22 X, mg_24 X, mg_26 X, mg_27 X, mg_28 X, mg_29 X, mg_31 X, mg_32 X, mg_33 X, mg_36 X, mg_37 X, mg_38 X, mg_39 X, mg_40 X, mg_46 X, mg_47 X, mg_52 X, mg_53 X, mg_57 X, mg_58 X, mg_60 X, mg_61 X, mg_62 X, mg_63 X, mg_64 X, mg_65 X, mg_66 X, mg_67 X, mg_68 X, mg_69 X, mg_70 X, mg_71 X, mg_72 X, mg_73 X, mg_74 X, mg_75 X, mg_76 X, mg_77 X, mg_78 X, mg_80 X, mg_81 X, Option.bind_some]
      try rw [show (4096 : Int32) = nI 4096 from rfl]
      try rw [show (64 : Int32) = nI 64 from rfl]
      try rw [pk_mul]
      try rw [pk_mul]
      try rw [nI_add]
      try rw [nI_add]
      try rw [aI_rd A (by decide) (by omega)]
      try rw [Option.bind_some]
      try rw [hix]
      try rw [nI_1]
      by_cases c : lb (R p y) k = true
      · rw [c, bz_t, if_neg (by decide)]
        rw [if_pos c] at ho
        exact ho
      · have c' : lb (R p y) k = false := by simpa using c
        rw [c', bz_f, if_pos rfl]
        rw [if_neg c] at ho
        exact ho
  · have e : v = R p y := by
      apply lb_ext
      intro i hi
      rw [hv i hi]
      cases hb : lb (R p y) i
      · rw [Bool.and_false]
      · rw [decide_eq_true (o y i hb).1]; rfl
    refine ⟨_, w_X13_rowOf_5 S _ _ _ _ _ _ _ ?_, rfl⟩
    try rw [xGi_of h1]
    try rw [Option.bind_some]
    try rw [if_pos (Int32.le_refl _)]
    try rw [e]
end MP

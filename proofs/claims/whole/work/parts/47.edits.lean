/-! AN EDIT OF THE MODEL -/
section ED
variable {S : xS} {h : xH} {W H : Nat} {l : List (Nat × (Nat → Int64))}
def edQ (a j : Nat) : Prop := a = 90 ∧ j = 6
def edP (b : Nat) : Prop := 91 ≤ b ∧ b ≤ 93
theorem edQ_mo : ∀ j, edQ 90 j → j ∈ moM := fun j q => by rw [q.2]; decide
/-- in how many of the first k pixels two pictures differ -/
def dfP (f g : Nat → Int64) (k : Nat) : Nat := fb_ct (fun i => px f i != px g i) k
/-- the fields and arrays that an edit reads, fields of ints aside -/
theorem edit_loop (X : moX h W H) {n p : Nat} (hn : n < 8) (hp : p < 4) {F0 N pa : Nat → Int32} {pg : Nat → Int32} (h6 : xG h 90 12 6 = some (.int (nI n))) (A : aI h 91 2 16384 F0) (B : aI h 94 2 4096 N) (C : aI h 92 2 32768 pa) (E : aI h 93 0 8 pg) (hF : ∀ k, k < 16384 → F0 k = 0 ∨ F0 k = 1) (hN : ∀ k, k < 4096 → N k = 0 ∨ N k = 1) :
    ∃ h', xden S mX13_edits 82 [(0, .ref 90), (1, .int (nI p)), (2, .int 0), (3, .int 0)] [] h = some (.inl (some (.int (nI (fb_ct (fun i => decide (F0 (4096 * p + i) ≠ N i)) 4096)))), h', 0, 0) ∧ aI h' 91 2 16384 (fb_put F0 N (4096 * p) 4096) ∧ aI h' 92 2 32768 (fb_put pa (fun i => F0 (4096 * p + i)) (4096 * n) 4096) ∧ aI h' 93 0 8 (upd pg n (nI p)) ∧ xG h' 90 12 6 = some (.int (nI (n + 1))) ∧ xfr edQ edP h h' := by
  have L := x_loop (σ := Nat × xH) (D := fun k s => xden S mX13_edits 82 [(0, .ref 90), (1, .int (nI p)), (2, .int (nI s.1)), (3, .int (nI k))] [] s.2)
    (Inv := fun k s => s.1 = fb_ct (fun i => decide (F0 (4096 * p + i) ≠ N i)) k ∧ aI s.2 91 2 16384 (fb_put F0 N (4096 * p) k) ∧ aI s.2 92 2 32768 (fb_put pa (fun i => F0 (4096 * p + i)) (4096 * n) k) ∧ xfr edQ edP h s.2 ∧ xG s.2 90 12 6 = some (.int (nI n)) ∧ aI s.2 93 0 8 pg)
    (Post := fun o => o.1 = .inl (some (.int (nI (fb_ct (fun i => decide (F0 (4096 * p + i) ≠ N i)) 4096)))) ∧ o.2.2 = (0, 0) ∧ aI o.2.1 91 2 16384 (fb_put F0 N (4096 * p) 4096) ∧ aI o.2.1 92 2 32768 (fb_put pa (fun i => F0 (4096 * p + i)) (4096 * n) 4096) ∧ aI o.2.1 93 0 8 (upd pg n (nI p)) ∧ xG o.2.1 90 12 6 = some (.int (nI (n + 1))) ∧ xfr edQ edP h o.2.1) 4096
    (fun k hk s hs => ?_) (fun s hs => ?_) (0, h) ⟨rfl, by rw [fb_put_0]; exact A, by rw [fb_put_0]; exact C, xfr_rf, h6, E⟩
  · obtain ⟨⟨r, h', c, d⟩, g1, g2, g3, g4, g5, g6, g7, g8⟩ := L
    cases g2
    cases g3
    exact ⟨h', g1, g4, g5, g6, g7, g8⟩
  · obtain ⟨cnt, s⟩ := s
    obtain ⟨q1, q2, q3, q4, q5, q6⟩ := hs
    dsimp only at q1 q2 q3 q4 q5 q6
    have X1 := moX_fr q4 X edQ_mo
    have hr1 : fb_put F0 N (4096 * p) k (4096 * p + k) = F0 (4096 * p + k) := fb_put_out (by omega)
    obtain ⟨e1, w1, w2⟩ := aI_wz q3 (by decide) (i := 4096 * n + k) (by omega) (hF (4096 * p + k) (by omega))
    rw [show upd (fb_put pa (fun i => F0 (4096 * p + i)) (4096 * n) k) (4096 * n + k) (F0 (4096 * p + k)) = fb_put pa (fun i => F0 (4096 * p + i)) (4096 * n) (k + 1) from fb_put_succ pa (fun i => F0 (4096 * p + i)) (4096 * n) k] at w2
    have X2 := moX_A X1 92 e1
    have A2 := aI_A (b' := 92) q2 e1 (by decide)
    have B2 := aI_A (b' := 92) (aI_fr q4 B (by unfold edP; omega)) e1 (by decide)
    obtain ⟨e2, v1, v2⟩ := aI_wz A2 (by decide) (i := 4096 * p + k) (by omega) (hN k hk)
    rw [fb_put_succ] at v2
    refine ⟨(fb_ct (fun i => decide (F0 (4096 * p + i) ≠ N i)) (k + 1), xA (xA s 92 e1) 91 e2), ⟨rfl, v2, aI_A w2 _ (by decide), xfr_tr (xfr_tr q4 (xfr_A (by unfold edP; omega) _)) (xfr_A (by unfold edP; omega) _), by rw [xG_A, xG_A]; exact q5, aI_A (aI_A q6 _ (by decide)) _ (by decide)⟩, fun o ho => w_X13_edits_82 S _ _ _ _ _ _ ?_⟩
    dsimp only at ho ⊢
    try rw [if_neg (show ¬ (4096 : Int32) ≤ nI k from nI_ge (b := 4096) hk (by decide))]
    try simp only [mg_3 X1, mg_4 X1, mg_5 X1, mg_7 X1, mg_8 X1, mg_9 X1, mg_12 X1, mg_14 X1, mg_15 X1, mg_17 X1, mg_18 X1, mg_19 X1, mg_20 X1, mg_21 X1, mg_22 X1, mg_24 X1, mg_26 X1, mg_27 X1, mg_28 X1, mg_29 X1, mg_31 X1, mg_32 X1, mg_33 X1, mg_36 X1, mg_37 X1, mg_38 X1, mg_39 X1, mg_40 X1, mg_46 X1, mg_47 X1, mg_52 X1, mg_53 X1, mg_57 X1, mg_58 X1, mg_60 X1, mg_61 X1, mg_62 X1, mg_63 X1, mg_64 X1, mg_65 X1, mg_66 X1, mg_67 X1, mg_68 X1, mg_69 X1, mg_70 X1, mg_71 X1, mg_72 X1, mg_73 X1, mg_74 X1, mg_75 X1, mg_76 X1, mg_77 X1, mg_78 X1, mg_80 X1, mg_81 X1, Option.bind_some]
    try rw [xGi_of q5]
    try rw [Option.bind_some]
    try simp only [mg_3 X1, mg_4 X1, mg_5 X1, mg_7 X1, mg_8 X1, mg_9 X1, mg_12 X1, mg_14 X1, mg_15 X1, mg_17 X1, mg_18 X1, mg_19 X1, mg_20 X1, mg_21 X1, mg_22 X1, mg_24 X1, mg_26 X1, mg_27 X1, mg_28 X1, mg_29 X1, mg_31 X1, mg_32 X1, mg_33 X1, mg_36 X1, mg_37 X1, mg_38 X1, mg_39 X1, mg_40 X1, mg_46 X1, mg_47 X1, mg_52 X1, mg_53 X1, mg_57 X1, mg_58 X1, mg_60 X1, mg_61 X1, mg_62 X1, mg_63 X1, mg_64 X1, mg_65 X1, mg_66 X1, mg_67 X1, mg_68 X1, mg_69 X1, mg_70 X1, mg_71 X1, mg_72 X1, mg_73 X1, mg_74 X1, mg_75 X1, mg_76 X1, mg_77 X1, mg_78 X1, mg_80 X1, mg_81 X1, Option.bind_some]
    try rw [show (4096 : Int32) = nI 4096 from rfl]
    try rw [pk_mul]
    try rw [nI_add]
    try rw [aI_rd q2 (by decide) (by omega)]
    try rw [Option.bind_some]
    try rw [hr1]
    try rw [pk_mul]
    try rw [nI_add]
    try rw [w1]
    try rw [Option.bind_some]
    try simp only [mg_3 X2, mg_4 X2, mg_5 X2, mg_7 X2, mg_8 X2, mg_9 X2, mg_12 X2, mg_14 X2, mg_15 X2, mg_17 X2, mg_18 X2, mg_19 X2, mg_20 X2, mg_21 X2, mg_22 X2, mg_24 X2, mg_26 X2, mg_27 X2, mg_28 X2, mg_29 X2, mg_31 X2, mg_32 X2, mg_33 X2, mg_36 X2, mg_37 X2, mg_38 X2, mg_39 X2, mg_40 X2, mg_46 X2, mg_47 X2, mg_52 X2, mg_53 X2, mg_57 X2, mg_58 X2, mg_60 X2, mg_61 X2, mg_62 X2, mg_63 X2, mg_64 X2, mg_65 X2, mg_66 X2, mg_67 X2, mg_68 X2, mg_69 X2, mg_70 X2, mg_71 X2, mg_72 X2, mg_73 X2, mg_74 X2, mg_75 X2, mg_76 X2, mg_77 X2, mg_78 X2, mg_80 X2, mg_81 X2, Option.bind_some]
    try rw [aI_rd A2 (by decide) (by omega)]
    try rw [Option.bind_some]
    try rw [hr1]
    try simp only [mg_3 X2, mg_4 X2, mg_5 X2, mg_7 X2, mg_8 X2, mg_9 X2, mg_12 X2, mg_14 X2, mg_15 X2, mg_17 X2, mg_18 X2, mg_19 X2, mg_20 X2, mg_21 X2, mg_22 X2, mg_24 X2, mg_26 X2, mg_27 X2, mg_28 X2, mg_29 X2, mg_31 X2, mg_32 X2, mg_33 X2, mg_36 X2, mg_37 X2, mg_38 X2, mg_39 X2, mg_40 X2, mg_46 X2, mg_47 X2, mg_52 X2, mg_53 X2, mg_57 X2, mg_58 X2, mg_60 X2, mg_61 X2, mg_62 X2, mg_63 X2, mg_64 X2, mg_65 X2, mg_66 X2, mg_67 X2, mg_68 X2, mg_69 X2, mg_70 X2, mg_71 X2, mg_72 X2, mg_73 X2, mg_74 X2, mg_75 X2, mg_76 X2, mg_77 X2, mg_78 X2, mg_80 X2, mg_81 X2, Option.bind_some]
    try rw [aI_rd B2 (by decide) hk]
    try rw [Option.bind_some]
    try rw [show (1 : Int32) = nI 1 from rfl]
    try rw [show (0 : Int32) = nI 0 from rfl]
    rw [fb_ct_succ] at ho
    by_cases c : F0 (4096 * p + k) = N k
    · rw [if_neg (fun q => q c)]
      rw [decide_eq_false (fun q => q c), if_neg (by decide)] at ho
      try simp only [xlet]
      try rw [Option.bind_some]
      try rw [v1]
      try rw [Option.bind_some]
      try simp only [nI_add]
      try rw [q1]
      exact ho
    · rw [if_pos c]
      rw [decide_eq_true c, if_pos rfl] at ho
      try simp only [xlet]
      try rw [Option.bind_some]
      try rw [v1]
      try rw [Option.bind_some]
      try simp only [nI_add]
      try rw [q1]
      exact ho
  · obtain ⟨cnt, s⟩ := s
    obtain ⟨q1, q2, q3, q4, q5, q6⟩ := hs
    dsimp only at q1 q2 q3 q4 q5 q6
    have X1 := moX_fr q4 X edQ_mo
    obtain ⟨e1, w1, w2⟩ := aI_wi q6 (by decide) hn (nI p)
    have X2 := moX_A X1 93 e1
    have q5' : xG (xA s 93 e1) 90 12 6 = some (.int (nI n)) := by rw [xG_A]; exact q5
    refine ⟨(.inl (some (.int (nI cnt))), xU (xA s 93 e1) 90 6 (.int (nI (n + 1))), 0, 0), w_X13_edits_82 S _ _ _ _ _ _ ?_, by rw [q1], rfl, aI_S (aI_A q2 _ (by decide)) _ _ _, aI_S (aI_A q3 _ (by decide)) _ _ _, aI_S w2 _ _ _, by show xG (xU _ 90 6 _) 90 12 6 = _; rw [xG_S, if_pos ⟨rfl, rfl⟩, q5']; rfl, xfr_tr (xfr_tr q4 (xfr_A (by unfold edP; omega) _)) (xfr_S (by exact ⟨rfl, rfl⟩) _)⟩
    dsimp only
    try rw [if_pos (show (4096 : Int32) ≤ nI 4096 from Int32.le_refl _)]
    try simp only [mg_3 X1, mg_4 X1, mg_5 X1, mg_7 X1, mg_8 X1, mg_9 X1, mg_12 X1, mg_14 X1, mg_15 X1, mg_17 X1, mg_18 X1, mg_19 X1, mg_20 X1, mg_21 X1, mg_22 X1, mg_24 X1, mg_26 X1, mg_27 X1, mg_28 X1, mg_29 X1, mg_31 X1, mg_32 X1, mg_33 X1, mg_36 X1, mg_37 X1, mg_38 X1, mg_39 X1, mg_40 X1, mg_46 X1, mg_47 X1, mg_52 X1, mg_53 X1, mg_57 X1, mg_58 X1, mg_60 X1, mg_61 X1, mg_62 X1, mg_63 X1, mg_64 X1, mg_65 X1, mg_66 X1, mg_67 X1, mg_68 X1, mg_69 X1, mg_70 X1, mg_71 X1, mg_72 X1, mg_73 X1, mg_74 X1, mg_75 X1, mg_76 X1, mg_77 X1, mg_78 X1, mg_80 X1, mg_81 X1, Option.bind_some]
    try rw [xGi_of q5]
    try rw [Option.bind_some]
    try rw [w1]
    try rw [Option.bind_some]
    try rw [xGi_of q5']
    try rw [Option.bind_some]
    try rw [show (1 : Int32) = nI 1 from rfl]
    try rw [nI_add]
    try rw [moX_pi X2 (by decide) (by decide) rfl]
    try rw [Option.bind_some]
/-- the oldest state goes -/
theorem edit_shift (X : moX h W H) {p : Nat} {pa pg : Nat → Int32} (h6 : xG h 90 12 6 = some (.int 8)) (C : aI h 92 2 32768 pa) (E : aI h 93 0 8 pg) (hpa : ∀ k, k < 32768 → pa k = 0 ∨ pa k = 1) :
    ∃ h', (∀ o, xden S mX13_edits 82 [(0, .ref 90), (1, .int (nI p)), (2, .int 0), (3, .int 0)] [] h' = some o → xden S mX13_edits 11 [(0, .ref 90), (1, .int (nI p)), (2, .int 0)] [] h = some o) ∧ aI h' 92 2 32768 (fa_fill (fun i => pa (i + 4096)) pa 28672) ∧ aI h' 93 0 8 (fa_fill (fun i => pg (i + 1)) pg 7) ∧ xG h' 90 12 6 = some (.int (nI 7)) ∧ xfr edQ (fun b => b = 92 ∨ b = 93) h h' := by
  have L2 : ∀ s, aI s 93 0 8 pg → xG s 90 12 6 = some (.int 8) → moX s W H → ∃ h', (∀ o, xden S mX13_edits 82 [(0, .ref 90), (1, .int (nI p)), (2, .int 0), (3, .int 0)] [] h' = some o → xden S mX13_edits 42 [(0, .ref 90), (1, .int (nI p)), (2, .int 0)] [] s = some o) ∧ aI h' 93 0 8 (fa_fill (fun i => pg (i + 1)) pg 7) ∧ xG h' 90 12 6 = some (.int (nI 7)) ∧ xfr edQ (fun b => b = 93) s h' := by
    intro s0 E0 h60 X0
    have key : ∀ k, k ≤ 7 → ∀ s, aI s 93 0 8 (fa_fill (fun i => pg (i + 1)) pg k) ∧ xfr edQ (fun b => b = 93) s0 s ∧ xG s 90 12 6 = some (.int 8) → ∃ h', (∀ o, xden S mX13_edits 82 [(0, .ref 90), (1, .int (nI p)), (2, .int 0), (3, .int 0)] [] h' = some o → xden S mX13_edits 42 [(0, .ref 90), (1, .int (nI p)), (2, .int (nI k))] [] s = some o) ∧ aI h' 93 0 8 (fa_fill (fun i => pg (i + 1)) pg 7) ∧ xG h' 90 12 6 = some (.int (nI 7)) ∧ xfr edQ (fun b => b = 93) s0 h' := by
      refine x_down 7 (fun k hk ih s hs => ?_) (fun s hs => ?_)
      · obtain ⟨q1, q2, q3⟩ := hs
        have X1 := moX_fr q2 X0 edQ_mo
        have hrd : fa_fill (fun i => pg (i + 1)) pg k (k + 1) = pg (k + 1) := fa_fill_out (by omega)
        obtain ⟨e, w1, w2⟩ := aI_wi q1 (by decide) (i := k) (by omega) (pg (k + 1))
        rw [show upd (fa_fill (fun i => pg (i + 1)) pg k) k (pg (k + 1)) = fa_fill (fun i => pg (i + 1)) pg (k + 1) from fa_fill_succ (fun i => pg (i + 1)) pg k] at w2
        obtain ⟨h', g1, g2⟩ := ih (xA s 93 e) ⟨w2, xfr_tr q2 (xfr_A (by exact rfl) _), by rw [xG_A]; exact q3⟩
        refine ⟨h', fun o ho => w_X13_edits_42 S _ _ _ _ _ ?_, g2⟩
        have := g1 o ho
        try rw [if_neg (show ¬ (7 : Int32) ≤ nI k from nI_ge (b := 7) hk (by decide))]
        try simp only [mg_3 X1, mg_4 X1, mg_5 X1, mg_7 X1, mg_8 X1, mg_9 X1, mg_12 X1, mg_14 X1, mg_15 X1, mg_17 X1, mg_18 X1, mg_19 X1, mg_20 X1, mg_21 X1, mg_22 X1, mg_24 X1, mg_26 X1, mg_27 X1, mg_28 X1, mg_29 X1, mg_31 X1, mg_32 X1, mg_33 X1, mg_36 X1, mg_37 X1, mg_38 X1, mg_39 X1, mg_40 X1, mg_46 X1, mg_47 X1, mg_52 X1, mg_53 X1, mg_57 X1, mg_58 X1, mg_60 X1, mg_61 X1, mg_62 X1, mg_63 X1, mg_64 X1, mg_65 X1, mg_66 X1, mg_67 X1, mg_68 X1, mg_69 X1, mg_70 X1, mg_71 X1, mg_72 X1, mg_73 X1, mg_74 X1, mg_75 X1, mg_76 X1, mg_77 X1, mg_78 X1, mg_80 X1, mg_81 X1, Option.bind_some]
        try simp only [mg_3 X1, mg_4 X1, mg_5 X1, mg_7 X1, mg_8 X1, mg_9 X1, mg_12 X1, mg_14 X1, mg_15 X1, mg_17 X1, mg_18 X1, mg_19 X1, mg_20 X1, mg_21 X1, mg_22 X1, mg_24 X1, mg_26 X1, mg_27 X1, mg_28 X1, mg_29 X1, mg_31 X1, mg_32 X1, mg_33 X1, mg_36 X1, mg_37 X1, mg_38 X1, mg_39 X1, mg_40 X1, mg_46 X1, mg_47 X1, mg_52 X1, mg_53 X1, mg_57 X1, mg_58 X1, mg_60 X1, mg_61 X1, mg_62 X1, mg_63 X1, mg_64 X1, mg_65 X1, mg_66 X1, mg_67 X1, mg_68 X1, mg_69 X1, mg_70 X1, mg_71 X1, mg_72 X1, mg_73 X1, mg_74 X1, mg_75 X1, mg_76 X1, mg_77 X1, mg_78 X1, mg_80 X1, mg_81 X1, Option.bind_some]
        try rw [show (1 : Int32) = nI 1 from rfl]
        try rw [nI_add]
        try rw [aI_rd q1 (by decide) (by omega)]
        try rw [Option.bind_some]
        try rw [hrd]
        try rw [w1]
        try rw [Option.bind_some]
        try simp only [xlet]
        try rw [nI_1]
        try rw [nI_add]
        exact this
      · obtain ⟨q1, q2, q3⟩ := hs
        have X1 := moX_fr q2 X0 edQ_mo
        refine ⟨xU s 90 6 (.int (nI 7)), fun o ho => w_X13_edits_42 S _ _ _ _ _ ?_, aI_S q1 _ _ _, by rw [xG_S, if_pos ⟨rfl, rfl⟩, q3]; rfl, xfr_tr q2 (xfr_S (by exact ⟨rfl, rfl⟩) _)⟩
        try rw [if_pos (show (7 : Int32) ≤ nI 7 from Int32.le_refl _)]
        try rw [xGi_of q3]
        try rw [Option.bind_some]
        try rw [show (8 : Int32) - 1 = nI 7 from by decide]
        try rw [moX_pi X1 (by decide) (by decide) rfl]
        try rw [Option.bind_some]
        exact ho
    exact key 0 (by omega) s0 ⟨by rw [fa_fill_0]; exact E0, xfr_rf, h60⟩
  have key : ∀ k, k ≤ 28672 → ∀ s, aI s 92 2 32768 (fa_fill (fun i => pa (i + 4096)) pa k) ∧ xfr edQ (fun b => b = 92) h s ∧ xG s 90 12 6 = some (.int 8) → ∃ h', (∀ o, xden S mX13_edits 82 [(0, .ref 90), (1, .int (nI p)), (2, .int 0), (3, .int 0)] [] h' = some o → xden S mX13_edits 11 [(0, .ref 90), (1, .int (nI p)), (2, .int (nI k))] [] s = some o) ∧ aI h' 92 2 32768 (fa_fill (fun i => pa (i + 4096)) pa 28672) ∧ aI h' 93 0 8 (fa_fill (fun i => pg (i + 1)) pg 7) ∧ xG h' 90 12 6 = some (.int (nI 7)) ∧ xfr edQ (fun b => b = 92 ∨ b = 93) h h' := by
    refine x_down 28672 (fun k hk ih s hs => ?_) (fun s hs => ?_)
    · obtain ⟨q1, q2, q3⟩ := hs
      have X1 := moX_fr q2 X edQ_mo
      have hrd : fa_fill (fun i => pa (i + 4096)) pa k (k + 4096) = pa (k + 4096) := fa_fill_out (by omega)
      obtain ⟨e, w1, w2⟩ := aI_wz q1 (by decide) (i := k) (by omega) (hpa (k + 4096) (by omega))
      rw [show upd (fa_fill (fun i => pa (i + 4096)) pa k) k (pa (k + 4096)) = fa_fill (fun i => pa (i + 4096)) pa (k + 1) from fa_fill_succ (fun i => pa (i + 4096)) pa k] at w2
      obtain ⟨h', g1, g2⟩ := ih (xA s 92 e) ⟨w2, xfr_tr q2 (xfr_A (by exact rfl) _), by rw [xG_A]; exact q3⟩
      refine ⟨h', fun o ho => w_X13_edits_11 S _ _ _ _ _ ?_, g2⟩
      have := g1 o ho
      try rw [if_neg (show ¬ (28672 : Int32) ≤ nI k from nI_ge (b := 28672) hk (by decide))]
      try simp only [mg_3 X1, mg_4 X1, mg_5 X1, mg_7 X1, mg_8 X1, mg_9 X1, mg_12 X1, mg_14 X1, mg_15 X1, mg_17 X1, mg_18 X1, mg_19 X1, mg_20 X1, mg_21 X1, mg_22 X1, mg_24 X1, mg_26 X1, mg_27 X1, mg_28 X1, mg_29 X1, mg_31 X1, mg_32 X1, mg_33 X1, mg_36 X1, mg_37 X1, mg_38 X1, mg_39 X1, mg_40 X1, mg_46 X1, mg_47 X1, mg_52 X1, mg_53 X1, mg_57 X1, mg_58 X1, mg_60 X1, mg_61 X1, mg_62 X1, mg_63 X1, mg_64 X1, mg_65 X1, mg_66 X1, mg_67 X1, mg_68 X1, mg_69 X1, mg_70 X1, mg_71 X1, mg_72 X1, mg_73 X1, mg_74 X1, mg_75 X1, mg_76 X1, mg_77 X1, mg_78 X1, mg_80 X1, mg_81 X1, Option.bind_some]
      try simp only [mg_3 X1, mg_4 X1, mg_5 X1, mg_7 X1, mg_8 X1, mg_9 X1, mg_12 X1, mg_14 X1, mg_15 X1, mg_17 X1, mg_18 X1, mg_19 X1, mg_20 X1, mg_21 X1, mg_22 X1, mg_24 X1, mg_26 X1, mg_27 X1, mg_28 X1, mg_29 X1, mg_31 X1, mg_32 X1, mg_33 X1, mg_36 X1, mg_37 X1, mg_38 X1, mg_39 X1, mg_40 X1, mg_46 X1, mg_47 X1, mg_52 X1, mg_53 X1, mg_57 X1, mg_58 X1, mg_60 X1, mg_61 X1, mg_62 X1, mg_63 X1, mg_64 X1, mg_65 X1, mg_66 X1, mg_67 X1, mg_68 X1, mg_69 X1, mg_70 X1, mg_71 X1, mg_72 X1, mg_73 X1, mg_74 X1, mg_75 X1, mg_76 X1, mg_77 X1, mg_78 X1, mg_80 X1, mg_81 X1, Option.bind_some]
      try rw [show (4096 : Int32) = nI 4096 from rfl]
      try rw [nI_add]
      try rw [aI_rd q1 (by decide) (by omega)]
      try rw [Option.bind_some]
      try rw [hrd]
      try rw [w1]
      try rw [Option.bind_some]
      try simp only [xlet]
      try rw [nI_1]
      exact this
    · obtain ⟨q1, q2, q3⟩ := hs
      have X1 := moX_fr q2 X edQ_mo
      obtain ⟨h', g1, g2, g3, g4⟩ := L2 s (aI_fr q2 E (by decide)) q3 X1
      refine ⟨h', fun o ho => w_X13_edits_11 S _ _ _ _ _ ?_, aI_fr g4 q1 (by decide), g2, g3, xfr_tr (xfr_mono q2 (fun _ _ q => q) (fun b q => Or.inl q)) (xfr_mono g4 (fun _ _ q => q) (fun b q => Or.inr q))⟩
      rw [if_pos (show (28672 : Int32) ≤ nI 28672 from Int32.le_refl _)]
      exact g1 o ho
  exact key 0 (by omega) h ⟨by rw [fa_fill_0]; exact C, xfr_rf, h6⟩
end ED

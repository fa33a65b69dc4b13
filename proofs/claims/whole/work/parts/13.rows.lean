/-! REASONING ABOUT THE ABSTRACT RUN: xR: from this point of a frame the run comes to an end with Q (result, cells, how many cells and slots came) -/
abbrev xQ : Type := (Option Value ⊕ String) → xH → Nat → Nat → Prop
def xR (S : xS) (m : xMd) (pc : Nat) (al : xL) (st : List Value) (h : xH) (Q : xQ) : Prop := ∃ f o, xrun S f m pc al st h = some o ∧ Q o.1 o.2.1 o.2.2.1 o.2.2.2
theorem xrun_mono {S : xS} : ∀ (f : Nat) {m : xMd} {pc : Nat} {al : xL} {st : List Value} {h : xH} {o : xO}, xrun S f m pc al st h = some o → xrun S (f + 1) m pc al st h = some o := by
  intro f
  induction f with
  | zero => intro m pc al st h o hr; simp [xrun] at hr
  | succ f ih =>
    intro m pc al st h o hr
    rw [xrun]
    unfold xrun at hr
    split at hr
    · cases hr
    · rename_i pc1 al1 st1 h1 dc ds hstep
      try rw [hstep]
      obtain ⟨o1, ho1, e0⟩ := Option.map_eq_some_iff.mp hr
      try dsimp only
      rw [ih ho1, Option.map_some, e0]
    · rename_i y as rest hstep
      try rw [hstep]
      try dsimp only
      split at hr
      · rename_i hq
        rw [if_pos hq]
        split at hr
        · cases hr
        · rename_i v h' c1 s1 hrun
          rw [ih hrun]
          try dsimp only
          obtain ⟨o1, ho1, e0⟩ := Option.map_eq_some_iff.mp hr
          rw [ih ho1, Option.map_some, e0]
        · rename_i E h' c1 s1 hrun
          rw [ih hrun]
          try dsimp only
          split at hr
          · cases hr
          · rename_i hni
            rw [if_neg hni]
            split at hr
            · cases hr
            · rename_i t hhan
              try rw [hhan]
              try dsimp only
              obtain ⟨o1, ho1, e0⟩ := Option.map_eq_some_iff.mp hr
              rw [ih ho1, Option.map_some, e0]
            · rename_i hhan
              try rw [hhan]
              exact hr
      · cases hr
    · rename_i v hstep
      try rw [hstep]
      exact hr
    · rename_i E hstep
      try rw [hstep]
      exact hr
theorem xrun_le {S : xS} {f g : Nat} {m : xMd} {pc : Nat} {al : xL} {st : List Value} {h : xH} {o : xO} (hr : xrun S f m pc al st h = some o) (hg : f ≤ g) : xrun S g m pc al st h = some o := by
  induction g with
  | zero => rw [show f = 0 by omega] at hr; exact hr
  | succ g ih =>
    by_cases c : f = g + 1
    · rw [← c]; exact hr
    · exact xrun_mono g (ih (by omega))
section XR
variable {S : xS} {m : xMd} {pc : Nat} {al : xL} {st : List Value} {h : xH} {Q : xQ}
theorem r_step {pc1 : Nat} {al1 : xL} {st1 : List Value} {h1 : xH} {dc ds : Nat} (hs : xstep S m pc al st h = some (.inl ((pc1, al1, st1, h1), dc, ds))) (k : xR S m pc1 al1 st1 h1 (fun r h c s => Q r h (c + dc) (s + ds))) : xR S m pc al st h Q := by
  obtain ⟨f, o, h1, h2⟩ := k
  refine ⟨f + 1, (o.1, o.2.1, o.2.2.1 + dc, o.2.2.2 + ds), ?_, h2⟩
  rw [xrun, hs]
  try dsimp only
  rw [h1]
  rfl
theorem r_imp {Q' : xQ} (k : xR S m pc al st h Q) (hq : ∀ r h c s, Q r h c s → Q' r h c s) : xR S m pc al st h Q' := by
  obtain ⟨f, o, h1, h2⟩ := k
  exact ⟨f, o, h1, hq _ _ _ _ h2⟩
theorem r_pure {i : Instr} {n : Nat} {st1 : List Value} (d : decode m.2.1 pc = .ok (i, n)) (hc : xcat i = 0) (hp : xpure i n st = some st1) (k : xR S m (pc + n) al st1 h Q) : xR S m pc al st h Q := by
  refine r_step (dc := 0) (ds := 0) (pc1 := pc + n) (al1 := al) (st1 := st1) (h1 := h) ?_ k
  unfold xstep
  rw [d]
  try dsimp only
  rw [hc]
  try dsimp only
  rw [hp]
  rfl
theorem r_loc {i : Instr} {n : Nat} {al1 : xL} {st1 : List Value} (d : decode m.2.1 pc = .ok (i, n)) (hc : xcat i = 1) (hp : xloc m.2.2.1 i n al st = some (al1, st1)) (k : xR S m (pc + n) al1 st1 h Q) : xR S m pc al st h Q := by
  refine r_step (dc := 0) (ds := 0) (pc1 := pc + n) (al1 := al1) (st1 := st1) (h1 := h) ?_ k
  unfold xstep
  rw [d]
  try dsimp only
  rw [hc]
  try dsimp only
  rw [hp]
  rfl
theorem r_br {i : Instr} {n t : Nat} {st1 : List Value} (d : decode m.2.1 pc = .ok (i, n)) (hc : xcat i = 2) (hp : xbr i n pc st = some (t, st1)) (k : xR S m t al st1 h Q) : xR S m pc al st h Q := by
  refine r_step (dc := 0) (ds := 0) (pc1 := t) (al1 := al) (st1 := st1) (h1 := h) ?_ k
  unfold xstep
  rw [d]
  try dsimp only
  rw [hc]
  try dsimp only
  rw [hp]
  rfl
theorem r_rd {i : Instr} {n : Nat} {st1 : List Value} (d : decode m.2.1 pc = .ok (i, n)) (hc : xcat i = 3) (hp : xrd S m.2.2.2.2.2.1 i n st h = some st1) (k : xR S m (pc + n) al st1 h Q) : xR S m pc al st h Q := by
  refine r_step (dc := 0) (ds := 0) (pc1 := pc + n) (al1 := al) (st1 := st1) (h1 := h) ?_ k
  unfold xstep
  rw [d]
  try dsimp only
  rw [hc]
  try dsimp only
  rw [hp]
  rfl
theorem r_wr {i : Instr} {n : Nat} {st1 : List Value} {h1 : xH} {dc ds : Nat} (d : decode m.2.1 pc = .ok (i, n)) (hc : xcat i = 3) (hr : xrd S m.2.2.2.2.2.1 i n st h = none) (hp : xwr (decide (m.1.name = "<init>")) m.2.2.2.2.2.1 i n st h = some (st1, h1, dc, ds)) (k : xR S m (pc + n) al st1 h1 (fun r h c s => Q r h (c + dc) (s + ds))) : xR S m pc al st h Q := by
  refine r_step (dc := dc) (ds := ds) (pc1 := pc + n) (al1 := al) (st1 := st1) (h1 := h1) ?_ k
  unfold xstep
  rw [d]
  try dsimp only
  rw [hc]
  try dsimp only
  rw [hr, hp]
  rfl
theorem r_call {i : Instr} {n : Nat} {y : xMd} {as rest : List Value} (d : decode m.2.1 pc = .ok (i, n)) (hc : xcat i = 4) (ho : xObI m.2.2.2.2.2.1 i = false) (hy : xCpy m.2.2.2.2.2.1 i = false) (hp : xcall m.2.2.2.2.2.1 i n st h = some (y, as, rest)) (hn : (lg_sl as).length ≤ y.2.2.1 ∧ y.2.2.2.2.2.2.1 + 1 ≤ m.2.2.2.2.2.2.1 ∧ 8 + (y.2.2.1 + 11) + y.2.2.2.2.2.2.2.1 ≤ m.2.2.2.2.2.2.2.1)
    (k : xR S y 0 (lv_args 0 as) [] h (fun r h' c s => ∃ v, r = .inl v ∧ xR S m (pc + 3) al (v.toList ++ rest) h' (fun r2 h2 c2 s2 => Q r2 h2 (c2 + c) (s2 + s)))) : xR S m pc al st h Q := by
  obtain ⟨f, o, h1, v, e0, f2, o2, h2, h3⟩ := k
  obtain ⟨r, h', c1, s1⟩ := o
  dsimp only at e0 h2 h3
  subst e0
  refine ⟨max f f2 + 1, (o2.1, o2.2.1, o2.2.2.1 + c1, o2.2.2.2 + s1), ?_, h3⟩
  have hst : xstep S m pc al st h = some (.inr (.inl (y, as, rest))) := by
    unfold xstep
    rw [d]
    try dsimp only
    rw [hc]
    try dsimp only
    rw [ho, hy, hp]
    simp
  rw [xrun, hst]
  try dsimp only
  rw [if_pos hn, xrun_le h1 (Nat.le_max_left _ _)]
  try dsimp only
  rw [xrun_le h2 (Nat.le_max_right _ _)]
  rfl
theorem r_end {i : Instr} {n : Nat} {v : Option Value} (d : decode m.2.1 pc = .ok (i, n)) (hc : xcat i = 5) (hp : xend m.2.2.2.1 i n st = some v) (k : Q (.inl v) h 0 0) : xR S m pc al st h Q := by
  refine ⟨1, (.inl v, h, 0, 0), ?_, k⟩
  have hst : xstep S m pc al st h = some (.inr (.inr (.inl v))) := by
    unfold xstep
    rw [d]
    try dsimp only
    rw [hc]
    try dsimp only
    rw [hp]
    rfl
  rw [xrun, hst]
end XR

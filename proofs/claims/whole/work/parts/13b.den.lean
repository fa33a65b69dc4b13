/-! THE DENOTATION OF A POINT OF A METHOD: the end that a run comes to. xle T E: what T says, E says. A row for each kind of instruction; wp.py writes with them, for each method, its own rows (w_..): the method as an expression. -/
noncomputable def xden (S : xS) (m : xMd) (pc : Nat) (al : xL) (st : List Value) (h : xH) : Option xO := by
  classical exact if w : ∃ o, ∃ f, xrun S f m pc al st h = some o then some w.choose else none
def xle (T E : Option xO) : Prop := ∀ o, T = some o → E = some o
def xadd (c s : Nat) (x : Option xO) : Option xO := x.map (fun o => (o.1, o.2.1, o.2.2.1 + c, o.2.2.2 + s))
theorem xadd_00 (x : Option xO) : xadd 0 0 x = x := by cases x <;> rfl
theorem xadd_some (c s : Nat) (o : xO) : xadd c s (some o) = some (o.1, o.2.1, o.2.2.1 + c, o.2.2.2 + s) := rfl
theorem xadd_none (c s : Nat) : xadd c s none = none := rfl
theorem xden_iff {S : xS} {m : xMd} {pc : Nat} {al : xL} {st : List Value} {h : xH} {o : xO} : xden S m pc al st h = some o ↔ ∃ f, xrun S f m pc al st h = some o := by
  unfold xden
  constructor
  · intro q
    split at q
    · rename_i w
      cases q
      exact w.choose_spec
    · cases q
  · intro q
    rw [dif_pos ⟨o, q⟩]
    have w : ∃ o, ∃ f, xrun S f m pc al st h = some o := ⟨o, q⟩
    obtain ⟨f, hf⟩ := w.choose_spec
    obtain ⟨g, hg⟩ := q
    have h1 := xrun_le hf (Nat.le_max_left f g)
    have h2 := xrun_le hg (Nat.le_max_right f g)
    rw [h1] at h2
    exact h2
/-- a method at its arguments -/
noncomputable def xM (S : xS) (y : xMd) (as : List Value) (h : xH) : Option xO := xden S y 0 (lv_args 0 as) [] h
def xSub : xL → xL → Prop
  | [], _ => True
  | q :: t, al => al.lookup q.1 = some q.2 ∧ xSub t al
def xlet {α : Type} (x : α) (T : α → Option xO) : Option xO := T x
/-- heap words -/
def xG (h : xH) (a c j : Nat) : Option Value := match h[a]? with | some (.inr (ci, fs)) => if ci = c then fs[j]? else none | _ => none
def xGi (h : xH) (a c j : Nat) : Option Int32 := match xG h a c j with | some (.int x) => some x | _ => none
def xGl (h : xH) (a c j : Nat) : Option Int64 := match xG h a c j with | some (.long x) => some x | _ => none
def xGr (h : xH) (a c j : Nat) : Option Nat := match xG h a c j with | some (.ref x) => some x | _ => none
def xGn (h : xH) (a c j : Nat) : Option (Option Nat) := match xG h a c j with | some (.ref x) => some (some x) | some .null => some none | _ => none
def xon (T0 : Option xO) (T1 : Nat → Option xO) (q : Option Nat) : Option xO := match q with | none => T0 | some a => T1 a
def xVi (v : Value) : Option Int32 := match v with | .int x => some x | _ => none
def xVk (v : Value) : Option Nat := match v with | .retAddr x => some x | _ => none
def xCi (a k x : Nat) : Option Int32 := (xCF a k x).bind xVi
def xCk (a k x : Nat) : Option Nat := (xCF a k x).bind xVk
def xRi (h : xH) (k b : Nat) (j : Int32) : Option Int32 := match h[b]? with | some (.inl (t, m, .inl f)) => if t = k ∧ xin j m = true then some (f j.toNatClampNeg) else none | _ => none
def xRl (h : xH) (b : Nat) (j : Int32) : Option Int64 := match h[b]? with | some (.inl (t, m, .inr (.inl f))) => if t = 1 ∧ xin j m = true then some (f j.toNatClampNeg) else none | _ => none
def xRn (h : xH) (b : Nat) (j : Int32) : Option (Option Nat) := match h[b]? with | some (.inl (t, m, .inr (.inr (.inr (.inr f))))) => if 4 ≤ t ∧ xin j m = true then some (f j.toNatClampNeg) else none | _ => none
def xRr (h : xH) (b : Nat) (j : Int32) : Option Nat := (xRn h b j).bind id
def xRz (h : xH) (b : Nat) : Option Int32 := match h[b]? with | some (.inl (_, m, _)) => some (Int32.ofNat m) | _ => none
def xRs (S : xS) (j : Int32) : Option Int32 := if xin j S.1 = true then some (S.2 j.toNatClampNeg) else none
def xRb (a : Nat) (j : Int32) : Option Int32 := match xCB a with | some (m, f) => if xin j m = true then some (f j.toNatClampNeg) else none | _ => none
def xRbz (a : Nat) : Option Int32 := match xCB a with | some (m, _) => some (Int32.ofNat m) | _ => none
def xP (ini : Bool) (k : Nat) (h : xH) (a c j : Nat) (v : Value) : Option xH := match h[a]? with | some (.inr (ci, fs)) => if ci = c ∧ j < fs.length ∧ xPok ini k c j v = true then some (h.set a (.inr (ci, fs.set j v))) else none | _ => none
def xWi (h : xH) (b : Nat) (j v : Int32) : Option xH := match h[b]? with | some (.inl (0, m, .inl f)) => if xin j m = true then some (h.set b (.inl (0, m, .inl (upd f j.toNatClampNeg v)))) else none | _ => none
def xWz (h : xH) (b : Nat) (j v : Int32) : Option xH := match h[b]? with | some (.inl (2, m, .inl f)) => if xin j m = true ∧ (v = 0 ∨ v = 1) then some (h.set b (.inl (2, m, .inl (upd f j.toNatClampNeg v)))) else none | _ => none
def xWc (h : xH) (b : Nat) (j v : Int32) : Option xH := match h[b]? with | some (.inl (3, m, .inl f)) => if xin j m = true then some (h.set b (.inl (3, m, .inl (upd f j.toNatClampNeg (vp_nar .char v))))) else none | _ => none
def xWl (h : xH) (b : Nat) (j : Int32) (v : Int64) : Option xH := match h[b]? with | some (.inl (1, m, .inr (.inl f))) => if xin j m = true then some (h.set b (.inl (1, m, .inr (.inl (vp_updL f j.toNatClampNeg v))))) else none | _ => none
def xWr (h : xH) (b : Nat) (j : Int32) (v : Nat) : Option xH := match h[b]?, h[v]? with
  | some (.inl (t, m, .inr (.inr (.inr (.inr f))))), some (.inr (ci, _)) => if xin j m = true ∧ xElm t = some ci then some (h.set b (.inl (t, m, .inr (.inr (.inr (.inr (va_up f j.toNatClampNeg (some v)))))))) else none
  | _, _ => none
def xNa (k : Nat) (f : (Nat → Int32) ⊕ (Nat → Int64) ⊕ (Nat → UInt32) ⊕ (Nat → UInt64) ⊕ (Nat → Option Nat)) (m : Int32) (h : xH) (T : Nat → xH → Option xO) : Option xO := if ¬ m < 0 ∧ m.toNatClampNeg ≤ 60000 then xadd 1 m.toNatClampNeg (T h.length (h ++ [.inl (k, m.toNatClampNeg, f)])) else none
def xNo (c : Nat) (h : xH) (T : Nat → xH → Option xO) : Option xO := xadd 1 (xDef c).length (T h.length (h ++ [.inr (c, xDef c)]))
def xNm2 (m b : Int32) (h : xH) (T : Nat → xH → Option xO) : Option xO := if ¬ m < 0 ∧ m.toNatClampNeg ≤ 60000 ∧ ¬ b < 0 ∧ b.toNatClampNeg ≤ 60000 then
  xadd (1 + m.toNatClampNeg) (m.toNatClampNeg + m.toNatClampNeg * b.toNatClampNeg) (T h.length (h ++ [.inl (7, m.toNatClampNeg, .inr (.inr (.inr (.inr (fun j => if j < m.toNatClampNeg then some (h.length + 1 + j) else none)))))] ++ List.replicate m.toNatClampNeg (.inl (0, b.toNatClampNeg, .inl (fun _ => 0))))) else none
def xOb (h : xH) (a c : Nat) : Bool := match h[a]? with | some (.inr (ci, _)) => ci == c | _ => false
def xCp (h : xH) (a : Nat) (sp : Int32) (b : Nat) (dp q : Int32) : Option xH := match h[a]?, h[b]? with
  | some (.inl (t, m0, .inl f)), some (.inl (u, m1, .inl g)) => if t = 0 ∧ u = 0 ∧ ¬ sp < 0 ∧ ¬ dp < 0 ∧ ¬ q < 0 ∧ sp.toNatClampNeg + q.toNatClampNeg ≤ m0 ∧ dp.toNatClampNeg + q.toNatClampNeg ≤ m1 then some (h.set b (.inl (0, m1, .inl (va_cpy f g sp.toNatClampNeg dp.toNatClampNeg q.toNatClampNeg)))) else none
  | some (.inl (t, m0, .inr (.inl f))), some (.inl (u, m1, .inr (.inl g))) => if t = 1 ∧ u = 1 ∧ ¬ sp < 0 ∧ ¬ dp < 0 ∧ ¬ q < 0 ∧ sp.toNatClampNeg + q.toNatClampNeg ≤ m0 ∧ dp.toNatClampNeg + q.toNatClampNeg ≤ m1 then some (h.set b (.inl (1, m1, .inr (.inl (va_cpy f g sp.toNatClampNeg dp.toNatClampNeg q.toNatClampNeg))))) else none
  | _, _ => none
def xth (E : String) (h : xH) : Option xO := some (.inr E, h, 0, 0)
/-- what follows a call: of an int, a long, a reference, a reference or null, a constant, nothing -/
def xqI (o : Option xO) (E : String → xH → Option xO) (T : Int32 → xH → Option xO) : Option xO := match o with | some (.inl (some (.int x)), h, c, s) => xadd c s (T x h) | some (.inr e, h, c, s) => xadd c s (E e h) | _ => none
def xqJ (o : Option xO) (E : String → xH → Option xO) (T : Int64 → xH → Option xO) : Option xO := match o with | some (.inl (some (.long x)), h, c, s) => xadd c s (T x h) | some (.inr e, h, c, s) => xadd c s (E e h) | _ => none
def xqR (o : Option xO) (E : String → xH → Option xO) (T : Nat → xH → Option xO) : Option xO := match o with | some (.inl (some (.ref x)), h, c, s) => xadd c s (T x h) | some (.inr e, h, c, s) => xadd c s (E e h) | _ => none
def xqN (o : Option xO) (E : String → xH → Option xO) (T0 : xH → Option xO) (T : Nat → xH → Option xO) : Option xO := match o with | some (.inl (some (.ref x)), h, c, s) => xadd c s (T x h) | some (.inl (some .null), h, c, s) => xadd c s (T0 h) | some (.inr e, h, c, s) => xadd c s (E e h) | _ => none
def xqK (o : Option xO) (E : String → xH → Option xO) (T : Nat → xH → Option xO) : Option xO := match o with | some (.inl (some (.retAddr x)), h, c, s) => xadd c s (T x h) | some (.inr e, h, c, s) => xadd c s (E e h) | _ => none
def xqV (o : Option xO) (E : String → xH → Option xO) (T : xH → Option xO) : Option xO := match o with | some (.inl none, h, c, s) => xadd c s (T h) | some (.inr e, h, c, s) => xadd c s (E e h) | _ => none
def xqC (o : Option xO) (T : xH → Option xO) : Option xO := match o with | some (.inl none, h, c, s) => xadd c s (T h) | _ => none
noncomputable def xhE (S : xS) (m : xMd) (pc : Nat) (al : xL) (e : String) (h : xH) : Option xO := match xhan m.2.2.2.2.2.1 m.2.2.2.2.1 pc e with | none => none | some (some t) => xden S m t al [.retAddr 999] h | some none => some (.inr e, h, 0, 0)
def xVok (y : xMd) : Bool := decide (y.2.2.2.2.2.2.2.2 = false ∧ y.1.name ≠ "<init>" ∧ y.2.2.2.2.1.isEmpty = true)
def xSok (y : xMd) : Bool := decide (y.2.2.2.2.2.2.2.2 = true ∧ y.1.name ≠ "<init>")
def xIok (y : xMd) : Bool := decide (y.2.2.2.2.2.2.2.2 = false ∧ y.1.name = "<init>" ∧ y.2.2.2.2.1.isEmpty = true ∧ y.2.2.2.1.isNone = true)
def xNk (y m : xMd) : Bool := decide (y.2.2.2.2.2.2.1 + 1 ≤ m.2.2.2.2.2.2.1 ∧ 8 + (y.2.2.1 + 11) + y.2.2.2.2.2.2.2.1 ≤ m.2.2.2.2.2.2.2.1)
section XDEN
variable {S : xS} {m : xMd} {pc : Nat} {al : xL} {st : List Value} {h : xH} {T : Option xO}
theorem l_stepc {pc1 : Nat} {al1 : xL} {st1 : List Value} {h1 : xH} {dc ds : Nat} (hs : xstep S m pc al st h = some (.inl ((pc1, al1, st1, h1), dc, ds))) (k : xle T (xden S m pc1 al1 st1 h1)) : xle (xadd dc ds T) (xden S m pc al st h) := by
  intro o hT
  obtain ⟨o1, e1, e2⟩ := Option.map_eq_some_iff.mp hT
  obtain ⟨f, hf⟩ := xden_iff.mp (k o1 e1)
  refine xden_iff.mpr ⟨f + 1, ?_⟩
  rw [xrun, hs]
  try dsimp only
  rw [hf, ← e2]
  rfl
theorem l_step {pc1 : Nat} {al1 : xL} {st1 : List Value} {h1 : xH} (hs : xstep S m pc al st h = some (.inl ((pc1, al1, st1, h1), 0, 0))) (k : xle T (xden S m pc1 al1 st1 h1)) : xle T (xden S m pc al st h) := by
  have := l_stepc hs k
  rw [xadd_00] at this
  exact this
theorem l_none {E : Option xO} : xle none E := fun o h => by cases h
theorem l_refl {E : Option xO} : xle E E := fun o h => h
theorem l_let {α : Type} {x : α} {F : α → Option xO} {E : Option xO} (k : xle (F x) E) : xle (xlet x F) E := k
theorem l_leti {x : Int32} {F : Int32 → Option xO} {G : Int32 → Option xO} (k : ∀ v, xle (F v) (G v)) : xle (xlet x F) (G x) := k x
theorem l_bind {α : Type} {g : Option α} {F : α → Option xO} {E : Option xO} (k : ∀ v, g = some v → xle (F v) E) : xle (g.bind F) E := by
  intro o hT
  obtain ⟨v, e1, e2⟩ := Option.bind_eq_some_iff.mp hT
  exact k v e1 o e2
theorem l_if {c : Prop} [Decidable c] {T1 T2 E : Option xO} (k1 : c → xle T1 E) (k2 : ¬ c → xle T2 E) : xle (if c then T1 else T2) E := by
  by_cases q : c
  · rw [if_pos q]; exact k1 q
  · rw [if_neg q]; exact k2 q
theorem l_pure {i : Instr} {n : Nat} {st1 : List Value} (d : decode m.2.1 pc = .ok (i, n)) (hc : xcat i = 0) (hp : xpure i n st = some st1) (k : xle T (xden S m (pc + n) al st1 h)) : xle T (xden S m pc al st h) := by
  refine l_step (pc1 := pc + n) (al1 := al) (st1 := st1) (h1 := h) ?_ k
  unfold xstep
  rw [d]
  try dsimp only
  rw [hc]
  try dsimp only
  rw [hp]
  rfl
theorem l_loc {i : Instr} {n : Nat} {al1 : xL} {st1 : List Value} (d : decode m.2.1 pc = .ok (i, n)) (hc : xcat i = 1) (hp : xloc m.2.2.1 i n al st = some (al1, st1)) (k : xle T (xden S m (pc + n) al1 st1 h)) : xle T (xden S m pc al st h) := by
  refine l_step (pc1 := pc + n) (al1 := al1) (st1 := st1) (h1 := h) ?_ k
  unfold xstep
  rw [d]
  try dsimp only
  rw [hc]
  try dsimp only
  rw [hp]
  rfl
theorem l_br {i : Instr} {n t : Nat} {st1 : List Value} (d : decode m.2.1 pc = .ok (i, n)) (hc : xcat i = 2) (hp : xbr i n pc st = some (t, st1)) (k : xle T (xden S m t al st1 h)) : xle T (xden S m pc al st h) := by
  refine l_step (pc1 := t) (al1 := al) (st1 := st1) (h1 := h) ?_ k
  unfold xstep
  rw [d]
  try dsimp only
  rw [hc]
  try dsimp only
  rw [hp]
  rfl
theorem l_rd {i : Instr} {n : Nat} {st1 : List Value} (d : decode m.2.1 pc = .ok (i, n)) (hc : xcat i = 3) (hp : xrd S m.2.2.2.2.2.1 i n st h = some st1) (k : xle T (xden S m (pc + n) al st1 h)) : xle T (xden S m pc al st h) := by
  refine l_step (pc1 := pc + n) (al1 := al) (st1 := st1) (h1 := h) ?_ k
  unfold xstep
  rw [d]
  try dsimp only
  rw [hc]
  try dsimp only
  rw [hp]
  rfl
theorem l_wr {i : Instr} {n : Nat} {st1 : List Value} {h1 : xH} {dc ds : Nat} (d : decode m.2.1 pc = .ok (i, n)) (hc : xcat i = 3) (hr : xrd S m.2.2.2.2.2.1 i n st h = none) (hp : xwr (decide (m.1.name = "<init>")) m.2.2.2.2.2.1 i n st h = some (st1, h1, dc, ds)) (k : xle T (xden S m (pc + n) al st1 h1)) : xle (xadd dc ds T) (xden S m pc al st h) := by
  refine l_stepc (pc1 := pc + n) (al1 := al) (st1 := st1) (h1 := h1) ?_ k
  unfold xstep
  rw [d]
  try dsimp only
  rw [hc]
  try dsimp only
  rw [hr, hp]
  rfl
theorem l_end {i : Instr} {n : Nat} {v : Option Value} (d : decode m.2.1 pc = .ok (i, n)) (hc : xcat i = 5) (hp : xend m.2.2.2.1 i n st = some v) : xle (some (.inl v, h, 0, 0)) (xden S m pc al st h) := by
  intro o e
  cases e
  refine xden_iff.mpr ⟨1, ?_⟩
  have hst : xstep S m pc al st h = some (.inr (.inr (.inl v))) := by
    unfold xstep
    rw [d]
    try dsimp only
    rw [hc]
    try dsimp only
    rw [hp]
    rfl
  rw [xrun, hst]
theorem l_new {c x : Nat} {F : Nat → xH → Option xO} (d : decode m.2.1 pc = .ok (.new x, 3)) (hx : xCls m.2.2.2.2.2.1 x = some c) (k : ∀ a h1, a = h.length → h1 = h ++ [.inr (c, xDef c)] → xle (F a h1) (xden S m (pc + 3) al (.ref a :: st) h1)) : xle (xNo c h F) (xden S m pc al st h) := by
  refine l_stepc (pc1 := pc + 3) (al1 := al) (st1 := .ref h.length :: st) (h1 := h ++ [.inr (c, xDef c)]) ?_ (k _ _ rfl rfl)
  unfold xstep
  rw [d]
  dsimp only [xcat]
  rw [hx]
  rfl
theorem l_throw {x : Nat} {E : String} (d : decode m.2.1 pc = .ok (.new x, 3)) (hx : xCls m.2.2.2.2.2.1 x = none) (hm : decide (6 ≤ m.2.2.2.2.2.2.1 ∧ 90 ≤ m.2.2.2.2.2.2.2.1 ∧ m.2.2.2.2.1.isEmpty = true) = true) (ht : xthr m.2.1 m.2.2.2.2.2.1 pc st = some E) : xle (some (.inr E, h, 1, 6)) (xden S m pc al st h) := by
  intro o e
  cases e
  refine xden_iff.mpr ⟨1, ?_⟩
  have hst : xstep S m pc al st h = some (.inr (.inr (.inr E))) := by
    unfold xstep
    rw [d]
    dsimp only [xcat]
    rw [hx, ht]
    try dsimp only
    rw [if_pos (of_decide_eq_true hm)]
    rfl
  rw [xrun, hst]
theorem l_ieq {o : Int} {t : Nat} {x : Int32} {T1 T2 : Option xO} (d : decode m.2.1 pc = .ok (.ifCond .eq o, 3)) (ht : xtg pc o = some t) (k1 : xle T1 (xden S m t al st h)) (k2 : xle T2 (xden S m (pc + 3) al st h)) : xle (if x = 0 then T1 else T2) (xden S m pc al (.int x :: st) h) := by
  refine l_if (fun q => l_br d rfl ?_ k1) (fun q => l_br d rfl ?_ k2)
  · show (if 3 = 3 then (xtg pc o).bind (fun t => if x = 0 then some (t, st) else some (pc + 3, st)) else none) = _
    rw [if_pos rfl, ht]
    show (if x = 0 then some (t, st) else some (pc + 3, st)) = _
    rw [if_pos q]
  · show (if 3 = 3 then (xtg pc o).bind (fun t => if x = 0 then some (t, st) else some (pc + 3, st)) else none) = _
    rw [if_pos rfl, ht]
    show (if x = 0 then some (t, st) else some (pc + 3, st)) = _
    rw [if_neg q]
theorem l_ine {o : Int} {t : Nat} {x : Int32} {T1 T2 : Option xO} (d : decode m.2.1 pc = .ok (.ifCond .ne o, 3)) (ht : xtg pc o = some t) (k1 : xle T1 (xden S m t al st h)) (k2 : xle T2 (xden S m (pc + 3) al st h)) : xle (if ¬ x = 0 then T1 else T2) (xden S m pc al (.int x :: st) h) := by
  refine l_if (fun q => l_br d rfl ?_ k1) (fun q => l_br d rfl ?_ k2)
  · show (if 3 = 3 then (xtg pc o).bind (fun t => if ¬ x = 0 then some (t, st) else some (pc + 3, st)) else none) = _
    rw [if_pos rfl, ht]
    show (if ¬ x = 0 then some (t, st) else some (pc + 3, st)) = _
    rw [if_pos q]
  · show (if 3 = 3 then (xtg pc o).bind (fun t => if ¬ x = 0 then some (t, st) else some (pc + 3, st)) else none) = _
    rw [if_pos rfl, ht]
    show (if ¬ x = 0 then some (t, st) else some (pc + 3, st)) = _
    rw [if_neg q]
theorem l_ilt {o : Int} {t : Nat} {x : Int32} {T1 T2 : Option xO} (d : decode m.2.1 pc = .ok (.ifCond .lt o, 3)) (ht : xtg pc o = some t) (k1 : xle T1 (xden S m t al st h)) (k2 : xle T2 (xden S m (pc + 3) al st h)) : xle (if x < 0 then T1 else T2) (xden S m pc al (.int x :: st) h) := by
  refine l_if (fun q => l_br d rfl ?_ k1) (fun q => l_br d rfl ?_ k2)
  · show (if 3 = 3 then (xtg pc o).bind (fun t => if x < 0 then some (t, st) else some (pc + 3, st)) else none) = _
    rw [if_pos rfl, ht]
    show (if x < 0 then some (t, st) else some (pc + 3, st)) = _
    rw [if_pos q]
  · show (if 3 = 3 then (xtg pc o).bind (fun t => if x < 0 then some (t, st) else some (pc + 3, st)) else none) = _
    rw [if_pos rfl, ht]
    show (if x < 0 then some (t, st) else some (pc + 3, st)) = _
    rw [if_neg q]
theorem l_ige {o : Int} {t : Nat} {x : Int32} {T1 T2 : Option xO} (d : decode m.2.1 pc = .ok (.ifCond .ge o, 3)) (ht : xtg pc o = some t) (k1 : xle T1 (xden S m t al st h)) (k2 : xle T2 (xden S m (pc + 3) al st h)) : xle (if 0 ≤ x then T1 else T2) (xden S m pc al (.int x :: st) h) := by
  refine l_if (fun q => l_br d rfl ?_ k1) (fun q => l_br d rfl ?_ k2)
  · show (if 3 = 3 then (xtg pc o).bind (fun t => if 0 ≤ x then some (t, st) else some (pc + 3, st)) else none) = _
    rw [if_pos rfl, ht]
    show (if 0 ≤ x then some (t, st) else some (pc + 3, st)) = _
    rw [if_pos q]
  · show (if 3 = 3 then (xtg pc o).bind (fun t => if 0 ≤ x then some (t, st) else some (pc + 3, st)) else none) = _
    rw [if_pos rfl, ht]
    show (if 0 ≤ x then some (t, st) else some (pc + 3, st)) = _
    rw [if_neg q]
theorem l_igt {o : Int} {t : Nat} {x : Int32} {T1 T2 : Option xO} (d : decode m.2.1 pc = .ok (.ifCond .gt o, 3)) (ht : xtg pc o = some t) (k1 : xle T1 (xden S m t al st h)) (k2 : xle T2 (xden S m (pc + 3) al st h)) : xle (if 0 < x then T1 else T2) (xden S m pc al (.int x :: st) h) := by
  refine l_if (fun q => l_br d rfl ?_ k1) (fun q => l_br d rfl ?_ k2)
  · show (if 3 = 3 then (xtg pc o).bind (fun t => if 0 < x then some (t, st) else some (pc + 3, st)) else none) = _
    rw [if_pos rfl, ht]
    show (if 0 < x then some (t, st) else some (pc + 3, st)) = _
    rw [if_pos q]
  · show (if 3 = 3 then (xtg pc o).bind (fun t => if 0 < x then some (t, st) else some (pc + 3, st)) else none) = _
    rw [if_pos rfl, ht]
    show (if 0 < x then some (t, st) else some (pc + 3, st)) = _
    rw [if_neg q]
theorem l_ile {o : Int} {t : Nat} {x : Int32} {T1 T2 : Option xO} (d : decode m.2.1 pc = .ok (.ifCond .le o, 3)) (ht : xtg pc o = some t) (k1 : xle T1 (xden S m t al st h)) (k2 : xle T2 (xden S m (pc + 3) al st h)) : xle (if x ≤ 0 then T1 else T2) (xden S m pc al (.int x :: st) h) := by
  refine l_if (fun q => l_br d rfl ?_ k1) (fun q => l_br d rfl ?_ k2)
  · show (if 3 = 3 then (xtg pc o).bind (fun t => if x ≤ 0 then some (t, st) else some (pc + 3, st)) else none) = _
    rw [if_pos rfl, ht]
    show (if x ≤ 0 then some (t, st) else some (pc + 3, st)) = _
    rw [if_pos q]
  · show (if 3 = 3 then (xtg pc o).bind (fun t => if x ≤ 0 then some (t, st) else some (pc + 3, st)) else none) = _
    rw [if_pos rfl, ht]
    show (if x ≤ 0 then some (t, st) else some (pc + 3, st)) = _
    rw [if_neg q]
theorem l_ceq {o : Int} {t : Nat} {x y : Int32} {T1 T2 : Option xO} (d : decode m.2.1 pc = .ok (.if_icmp .eq o, 3)) (ht : xtg pc o = some t) (k1 : xle T1 (xden S m t al st h)) (k2 : xle T2 (xden S m (pc + 3) al st h)) : xle (if x = y then T1 else T2) (xden S m pc al (.int y :: .int x :: st) h) := by
  refine l_if (fun q => l_br d rfl ?_ k1) (fun q => l_br d rfl ?_ k2)
  · show (if 3 = 3 then (xtg pc o).bind (fun t => if x = y then some (t, st) else some (pc + 3, st)) else none) = _
    rw [if_pos rfl, ht]
    show (if x = y then some (t, st) else some (pc + 3, st)) = _
    rw [if_pos q]
  · show (if 3 = 3 then (xtg pc o).bind (fun t => if x = y then some (t, st) else some (pc + 3, st)) else none) = _
    rw [if_pos rfl, ht]
    show (if x = y then some (t, st) else some (pc + 3, st)) = _
    rw [if_neg q]
theorem l_cne {o : Int} {t : Nat} {x y : Int32} {T1 T2 : Option xO} (d : decode m.2.1 pc = .ok (.if_icmp .ne o, 3)) (ht : xtg pc o = some t) (k1 : xle T1 (xden S m t al st h)) (k2 : xle T2 (xden S m (pc + 3) al st h)) : xle (if ¬ x = y then T1 else T2) (xden S m pc al (.int y :: .int x :: st) h) := by
  refine l_if (fun q => l_br d rfl ?_ k1) (fun q => l_br d rfl ?_ k2)
  · show (if 3 = 3 then (xtg pc o).bind (fun t => if ¬ x = y then some (t, st) else some (pc + 3, st)) else none) = _
    rw [if_pos rfl, ht]
    show (if ¬ x = y then some (t, st) else some (pc + 3, st)) = _
    rw [if_pos q]
  · show (if 3 = 3 then (xtg pc o).bind (fun t => if ¬ x = y then some (t, st) else some (pc + 3, st)) else none) = _
    rw [if_pos rfl, ht]
    show (if ¬ x = y then some (t, st) else some (pc + 3, st)) = _
    rw [if_neg q]
theorem l_clt {o : Int} {t : Nat} {x y : Int32} {T1 T2 : Option xO} (d : decode m.2.1 pc = .ok (.if_icmp .lt o, 3)) (ht : xtg pc o = some t) (k1 : xle T1 (xden S m t al st h)) (k2 : xle T2 (xden S m (pc + 3) al st h)) : xle (if x < y then T1 else T2) (xden S m pc al (.int y :: .int x :: st) h) := by
  refine l_if (fun q => l_br d rfl ?_ k1) (fun q => l_br d rfl ?_ k2)
  · show (if 3 = 3 then (xtg pc o).bind (fun t => if x < y then some (t, st) else some (pc + 3, st)) else none) = _
    rw [if_pos rfl, ht]
    show (if x < y then some (t, st) else some (pc + 3, st)) = _
    rw [if_pos q]
  · show (if 3 = 3 then (xtg pc o).bind (fun t => if x < y then some (t, st) else some (pc + 3, st)) else none) = _
    rw [if_pos rfl, ht]
    show (if x < y then some (t, st) else some (pc + 3, st)) = _
    rw [if_neg q]
theorem l_cge {o : Int} {t : Nat} {x y : Int32} {T1 T2 : Option xO} (d : decode m.2.1 pc = .ok (.if_icmp .ge o, 3)) (ht : xtg pc o = some t) (k1 : xle T1 (xden S m t al st h)) (k2 : xle T2 (xden S m (pc + 3) al st h)) : xle (if y ≤ x then T1 else T2) (xden S m pc al (.int y :: .int x :: st) h) := by
  refine l_if (fun q => l_br d rfl ?_ k1) (fun q => l_br d rfl ?_ k2)
  · show (if 3 = 3 then (xtg pc o).bind (fun t => if y ≤ x then some (t, st) else some (pc + 3, st)) else none) = _
    rw [if_pos rfl, ht]
    show (if y ≤ x then some (t, st) else some (pc + 3, st)) = _
    rw [if_pos q]
  · show (if 3 = 3 then (xtg pc o).bind (fun t => if y ≤ x then some (t, st) else some (pc + 3, st)) else none) = _
    rw [if_pos rfl, ht]
    show (if y ≤ x then some (t, st) else some (pc + 3, st)) = _
    rw [if_neg q]
theorem l_cgt {o : Int} {t : Nat} {x y : Int32} {T1 T2 : Option xO} (d : decode m.2.1 pc = .ok (.if_icmp .gt o, 3)) (ht : xtg pc o = some t) (k1 : xle T1 (xden S m t al st h)) (k2 : xle T2 (xden S m (pc + 3) al st h)) : xle (if y < x then T1 else T2) (xden S m pc al (.int y :: .int x :: st) h) := by
  refine l_if (fun q => l_br d rfl ?_ k1) (fun q => l_br d rfl ?_ k2)
  · show (if 3 = 3 then (xtg pc o).bind (fun t => if y < x then some (t, st) else some (pc + 3, st)) else none) = _
    rw [if_pos rfl, ht]
    show (if y < x then some (t, st) else some (pc + 3, st)) = _
    rw [if_pos q]
  · show (if 3 = 3 then (xtg pc o).bind (fun t => if y < x then some (t, st) else some (pc + 3, st)) else none) = _
    rw [if_pos rfl, ht]
    show (if y < x then some (t, st) else some (pc + 3, st)) = _
    rw [if_neg q]
theorem l_cle {o : Int} {t : Nat} {x y : Int32} {T1 T2 : Option xO} (d : decode m.2.1 pc = .ok (.if_icmp .le o, 3)) (ht : xtg pc o = some t) (k1 : xle T1 (xden S m t al st h)) (k2 : xle T2 (xden S m (pc + 3) al st h)) : xle (if x ≤ y then T1 else T2) (xden S m pc al (.int y :: .int x :: st) h) := by
  refine l_if (fun q => l_br d rfl ?_ k1) (fun q => l_br d rfl ?_ k2)
  · show (if 3 = 3 then (xtg pc o).bind (fun t => if x ≤ y then some (t, st) else some (pc + 3, st)) else none) = _
    rw [if_pos rfl, ht]
    show (if x ≤ y then some (t, st) else some (pc + 3, st)) = _
    rw [if_pos q]
  · show (if 3 = 3 then (xtg pc o).bind (fun t => if x ≤ y then some (t, st) else some (pc + 3, st)) else none) = _
    rw [if_pos rfl, ht]
    show (if x ≤ y then some (t, st) else some (pc + 3, st)) = _
    rw [if_neg q]
theorem l_goto {o : Int} {t : Nat} (d : decode m.2.1 pc = .ok (.goto o, 3)) (ht : xtg pc o = some t) (k : xle T (xden S m t al st h)) : xle T (xden S m pc al st h) := by
  refine l_br d rfl ?_ k
  show (if 3 = 3 then (xtg pc o).map (fun t => (t, st)) else none) = _
  rw [if_pos rfl, ht]
  rfl
theorem l_nullN {o : Int} {t : Nat} (d : decode m.2.1 pc = .ok (.ifnull o, 3)) (ht : xtg pc o = some t) (k : xle T (xden S m t al st h)) : xle T (xden S m pc al (.null :: st) h) := by
  refine l_br d rfl ?_ k
  show (if 3 = 3 then (xtg pc o).map (fun t => (t, st)) else none) = _
  rw [if_pos rfl, ht]
  rfl
theorem l_nullR {o : Int} {a : Nat} (d : decode m.2.1 pc = .ok (.ifnull o, 3)) (k : xle T (xden S m (pc + 3) al st h)) : xle T (xden S m pc al (.ref a :: st) h) := l_br d rfl rfl k
theorem l_nnulN {o : Int} (d : decode m.2.1 pc = .ok (.ifnonnull o, 3)) (k : xle T (xden S m (pc + 3) al st h)) : xle T (xden S m pc al (.null :: st) h) := l_br d rfl rfl k
theorem l_nnulR {o : Int} {t a : Nat} (d : decode m.2.1 pc = .ok (.ifnonnull o, 3)) (ht : xtg pc o = some t) (k : xle T (xden S m t al st h)) : xle T (xden S m pc al (.ref a :: st) h) := by
  refine l_br d rfl ?_ k
  show (if 3 = 3 then (xtg pc o).map (fun t => (t, st)) else none) = _
  rw [if_pos rfl, ht]
  rfl
theorem l_div {x y : Int32} (d : decode m.2.1 pc = .ok (.idiv, 1)) (k : xle T (xden S m (pc + 1) al (.int (x / y) :: st) h)) : xle (if y = 0 then none else T) (xden S m pc al (.int y :: .int x :: st) h) := by
  refine l_if (fun q => l_none) (fun q => l_pure d rfl ?_ k)
  show (if y = 0 then none else some (.int (x / y) :: st)) = _
  rw [if_neg q]
theorem l_rem {x y : Int32} (d : decode m.2.1 pc = .ok (.irem, 1)) (k : xle T (xden S m (pc + 1) al (.int (x - x / y * y) :: st) h)) : xle (if y = 0 then none else T) (xden S m pc al (.int y :: .int x :: st) h) := by
  refine l_if (fun q => l_none) (fun q => l_pure d rfl ?_ k)
  show (if y = 0 then none else some (.int (x - x / y * y) :: st)) = _
  rw [if_neg q]
theorem l_ic {k : Int} {v : Int32} (d : decode m.2.1 pc = .ok (.iconst k, 1)) (hv : Int32.ofInt k = v) (w : xle T (xden S m (pc + 1) al (.int v :: st) h)) : xle T (xden S m pc al st h) := by
  subst hv
  exact l_pure d rfl rfl w
theorem l_bi {k : Int} {v : Int32} (d : decode m.2.1 pc = .ok (.bipush k, 2)) (hv : (Int8.ofInt k).toInt32 = v) (w : xle T (xden S m (pc + 2) al (.int v :: st) h)) : xle T (xden S m pc al st h) := by
  subst hv
  exact l_pure d rfl rfl w
theorem l_si {k : Int} {v : Int32} (d : decode m.2.1 pc = .ok (.sipush k, 3)) (hv : (Int16.ofInt k).toInt32 = v) (w : xle T (xden S m (pc + 3) al (.int v :: st) h)) : xle T (xden S m pc al st h) := by
  subst hv
  exact l_pure d rfl rfl w
theorem l_iinc {k : Nat} {dd : Int} {v x y : Int32} {al1 : xL} (d : decode m.2.1 pc = .ok (.iinc k dd, 3)) (hl : al.lookup k = some (.int x)) (hv : Int32.ofInt dd = v) (hk : Nat.blt k m.2.2.1 = true) (hy : x + v = y) (ha : xst1 al k (.int y) = al1) (w : xle T (xden S m (pc + 3) al1 st h)) : xle T (xden S m pc al st h) := by
  subst hv hy ha
  refine l_loc d rfl ?_ w
  show (match al.lookup k with | some (.int x) => if k < m.2.2.1 then some (xst1 al k (.int (x + Int32.ofInt dd)), st) else none | _ => none) = _
  rw [hl]
  show (if k < m.2.2.1 then some (xst1 al k (.int (x + Int32.ofInt dd)), st) else none) = _
  rw [if_pos (Nat.blt_eq.mp hk)]
theorem l_rdx {α : Type} {g : Option α} {F : α → Option xO} {i : Instr} {n : Nat} {V : α → List Value} (d : decode m.2.1 pc = .ok (i, n)) (hc : xcat i = 3) (hp : ∀ v, g = some v → xrd S m.2.2.2.2.2.1 i n st h = some (V v)) (k : ∀ v, xle (F v) (xden S m (pc + n) al (V v) h)) : xle (g.bind F) (xden S m pc al st h) := l_bind fun v e => l_rd d hc (hp v e) (k v)
theorem l_wrx {g : Option xH} {F : xH → Option xO} {i : Instr} {n : Nat} {st1 : List Value} (d : decode m.2.1 pc = .ok (i, n)) (hc : xcat i = 3) (hr : xrd S m.2.2.2.2.2.1 i n st h = none) (hp : ∀ v, g = some v → xwr (decide (m.1.name = "<init>")) m.2.2.2.2.2.1 i n st h = some (st1, v, 0, 0)) (k : ∀ v, xle (F v) (xden S m (pc + n) al st1 v)) : xle (g.bind F) (xden S m pc al st h) := l_bind fun v e => by
  have := l_wr d hc hr (hp v e) (k v)
  rw [xadd_00] at this
  exact this
theorem xG_eq {a c j : Nat} {v : Value} (e : xG h a c j = some v) : ∃ fs, h[a]? = some (.inr (c, fs)) ∧ fs[j]? = some v := by
  unfold xG at e
  split at e
  · rename_i ci fs ha
    split at e
    · rename_i q; subst q; exact ⟨fs, ha, e⟩
    · cases e
  · cases e
theorem xGrd {x a c j : Nat} {v : Value} {k : Nat} (hf : xFld k x = some (c, j)) (e : xG h a c j = some v) : xrd S k (.getfield x) 3 (.ref a :: st) h = some (v :: st) := by
  obtain ⟨fs, h1, h2⟩ := xG_eq e
  show (match h[a]?, xFld k x with
    | some (.inr (ci, fs)), some (cj, j) => if ci = cj then (fs[j]?).map (fun v => v :: st) else none
    | _, _ => none) = _
  rw [h1, hf]
  show (if c = c then (fs[j]?).map (fun v => v :: st) else none) = _
  rw [if_pos rfl, h2]
  rfl
theorem xGi_eq {a c j : Nat} {v : Int32} (e : xGi h a c j = some v) : xG h a c j = some (.int v) := by
  unfold xGi at e; split at e
  · rename_i q; cases e; exact q
  · cases e
theorem xGl_eq {a c j : Nat} {v : Int64} (e : xGl h a c j = some v) : xG h a c j = some (.long v) := by
  unfold xGl at e; split at e
  · rename_i q; cases e; exact q
  · cases e
theorem xGr_eq {a c j : Nat} {v : Nat} (e : xGr h a c j = some v) : xG h a c j = some (.ref v) := by
  unfold xGr at e; split at e
  · rename_i q; cases e; exact q
  · cases e
theorem xGn_eq {a c j : Nat} {v : Option Nat} (e : xGn h a c j = some v) : xG h a c j = some (xrf v) := by
  unfold xGn at e; split at e
  · rename_i q; cases e; exact q
  · rename_i q; cases e; exact q
  · cases e
theorem l_gi {x a c j : Nat} {F : Int32 → Option xO} (d : decode m.2.1 pc = .ok (.getfield x, 3)) (hf : xFld m.2.2.2.2.2.1 x = some (c, j)) (k : ∀ v, xle (F v) (xden S m (pc + 3) al (.int v :: st) h)) : xle ((xGi h a c j).bind F) (xden S m pc al (.ref a :: st) h) := l_rdx d rfl (fun v e => xGrd hf (xGi_eq e)) k
theorem l_gl {x a c j : Nat} {F : Int64 → Option xO} (d : decode m.2.1 pc = .ok (.getfield x, 3)) (hf : xFld m.2.2.2.2.2.1 x = some (c, j)) (k : ∀ v, xle (F v) (xden S m (pc + 3) al (.long v :: st) h)) : xle ((xGl h a c j).bind F) (xden S m pc al (.ref a :: st) h) := l_rdx d rfl (fun v e => xGrd hf (xGl_eq e)) k
theorem l_gr {x a c j : Nat} {F : Nat → Option xO} (d : decode m.2.1 pc = .ok (.getfield x, 3)) (hf : xFld m.2.2.2.2.2.1 x = some (c, j)) (k : ∀ v, xle (F v) (xden S m (pc + 3) al (.ref v :: st) h)) : xle ((xGr h a c j).bind F) (xden S m pc al (.ref a :: st) h) := l_rdx d rfl (fun v e => xGrd hf (xGr_eq e)) k
theorem l_gn {x a c j : Nat} {T0 : Option xO} {F : Nat → Option xO} (d : decode m.2.1 pc = .ok (.getfield x, 3)) (hf : xFld m.2.2.2.2.2.1 x = some (c, j)) (k0 : xle T0 (xden S m (pc + 3) al (.null :: st) h)) (k : ∀ v, xle (F v) (xden S m (pc + 3) al (.ref v :: st) h)) : xle ((xGn h a c j).bind (xon T0 F)) (xden S m pc al (.ref a :: st) h) := l_rdx d rfl (fun v e => xGrd hf (xGn_eq e)) (fun v => by cases v; exact k0; exact k _)
theorem l_ki {x a : Nat} {F : Int32 → Option xO} (d : decode m.2.1 pc = .ok (.getfield x, 3)) (k : ∀ v, xle (F v) (xden S m (pc + 3) al (.int v :: st) h)) : xle ((xCi a m.2.2.2.2.2.1 x).bind F) (xden S m pc al (.retAddr a :: st) h) := l_rdx d rfl (fun v e => by
  obtain ⟨w, e1, e2⟩ := Option.bind_eq_some_iff.mp e
  show (xCF a m.2.2.2.2.2.1 x).map (fun v => v :: st) = _
  rw [e1]
  cases w <;> first | (cases e2; rfl) | cases e2) k
theorem l_kk {x a : Nat} {F : Nat → Option xO} (d : decode m.2.1 pc = .ok (.getfield x, 3)) (k : ∀ v, xle (F v) (xden S m (pc + 3) al (.retAddr v :: st) h)) : xle ((xCk a m.2.2.2.2.2.1 x).bind F) (xden S m pc al (.retAddr a :: st) h) := l_rdx d rfl (fun v e => by
  obtain ⟨w, e1, e2⟩ := Option.bind_eq_some_iff.mp e
  show (xCF a m.2.2.2.2.2.1 x).map (fun v => v :: st) = _
  rw [e1]
  cases w <;> first | (cases e2; rfl) | cases e2) k
theorem xRi_eq {k b : Nat} {j v : Int32} (e : xRi h k b j = some v) : ∃ mm f, h[b]? = some (.inl (k, mm, .inl f)) ∧ xin j mm = true ∧ f j.toNatClampNeg = v := by
  unfold xRi at e; split at e
  · rename_i t mm f ha
    split at e
    · rename_i q; obtain ⟨q1, q2⟩ := q; subst q1; cases e; exact ⟨mm, f, ha, q2, rfl⟩
    · cases e
  · cases e
theorem l_ri {b : Nat} {j : Int32} {F : Int32 → Option xO} (d : decode m.2.1 pc = .ok (.iaload, 1)) (k : ∀ v, xle (F v) (xden S m (pc + 1) al (.int v :: st) h)) : xle ((xRi h 0 b j).bind F) (xden S m pc al (.int j :: .ref b :: st) h) := l_rdx d rfl (fun v e => by
  obtain ⟨mm, f, h1, h2, h3⟩ := xRi_eq e
  show (match h[b]? with
    | some (.inl (0, m, .inl f)) => if xin j m = true then some (Value.int (f j.toNatClampNeg) :: st) else none
    | _ => none) = _
  rw [h1]
  show (if xin j mm = true then some (Value.int (f j.toNatClampNeg) :: st) else none) = _
  rw [if_pos h2, h3]) k
theorem l_rz {b : Nat} {j : Int32} {F : Int32 → Option xO} (d : decode m.2.1 pc = .ok (.baload, 1)) (k : ∀ v, xle (F v) (xden S m (pc + 1) al (.int v :: st) h)) : xle ((xRi h 2 b j).bind F) (xden S m pc al (.int j :: .ref b :: st) h) := l_rdx d rfl (fun v e => by
  obtain ⟨mm, f, h1, h2, h3⟩ := xRi_eq e
  show (match h[b]? with
    | some (.inl (2, m, .inl f)) => if xin j m = true then some (Value.int (f j.toNatClampNeg) :: st) else none
    | _ => none) = _
  rw [h1]
  show (if xin j mm = true then some (Value.int (f j.toNatClampNeg) :: st) else none) = _
  rw [if_pos h2, h3]) k
theorem l_rc {b : Nat} {j : Int32} {F : Int32 → Option xO} (d : decode m.2.1 pc = .ok (.caload, 1)) (k : ∀ v, xle (F v) (xden S m (pc + 1) al (.int v :: st) h)) : xle ((xRi h 3 b j).bind F) (xden S m pc al (.int j :: .ref b :: st) h) := l_rdx d rfl (fun v e => by
  obtain ⟨mm, f, h1, h2, h3⟩ := xRi_eq e
  show (match h[b]? with
    | some (.inl (3, m, .inl f)) => if xin j m = true then some (Value.int (f j.toNatClampNeg) :: st) else none
    | _ => none) = _
  rw [h1]
  show (if xin j mm = true then some (Value.int (f j.toNatClampNeg) :: st) else none) = _
  rw [if_pos h2, h3]) k
theorem l_rl {b : Nat} {j : Int32} {F : Int64 → Option xO} (d : decode m.2.1 pc = .ok (.laload, 1)) (k : ∀ v, xle (F v) (xden S m (pc + 1) al (.long v :: st) h)) : xle ((xRl h b j).bind F) (xden S m pc al (.int j :: .ref b :: st) h) := l_rdx d rfl (fun v e => by
  unfold xRl at e
  show (match h[b]? with
    | some (.inl (1, m, .inr (.inl f))) => if xin j m = true then some (Value.long (f j.toNatClampNeg) :: st) else none
    | _ => none) = _
  split at e
  · rename_i t mm f ha
    split at e
    · rename_i q; obtain ⟨q1, q2⟩ := q; subst q1; cases e
      rw [ha]
      show (if xin j mm = true then some (Value.long (f j.toNatClampNeg) :: st) else none) = _
      rw [if_pos q2]
    · cases e
  · cases e) k
theorem xRn_rd {b : Nat} {j : Int32} {v : Option Nat} {k : Nat} (e : xRn h b j = some v) : xrd S k .aaload 1 (.int j :: .ref b :: st) h = some (xrf v :: st) := by
  unfold xRn at e
  show (match h[b]? with
    | some (.inl (t, m, .inr (.inr (.inr (.inr f))))) => if 4 ≤ t ∧ xin j m = true then some (xrf (f j.toNatClampNeg) :: st) else none
    | _ => none) = _
  split at e
  · rename_i t mm f ha
    split at e
    · rename_i q; cases e
      try rw [ha]
      show (if 4 ≤ t ∧ xin j mm = true then some (xrf (f j.toNatClampNeg) :: st) else none) = _
      rw [if_pos q]
    · cases e
  · cases e
theorem l_rr {b : Nat} {j : Int32} {F : Nat → Option xO} (d : decode m.2.1 pc = .ok (.aaload, 1)) (k : ∀ v, xle (F v) (xden S m (pc + 1) al (.ref v :: st) h)) : xle ((xRr h b j).bind F) (xden S m pc al (.int j :: .ref b :: st) h) := l_rdx d rfl (fun v e => by
  obtain ⟨w, e1, e2⟩ := Option.bind_eq_some_iff.mp e
  have e2 : w = some v := e2
  subst e2
  exact xRn_rd e1) k
theorem l_rn {b : Nat} {j : Int32} {T0 : Option xO} {F : Nat → Option xO} (d : decode m.2.1 pc = .ok (.aaload, 1)) (k0 : xle T0 (xden S m (pc + 1) al (.null :: st) h)) (k : ∀ v, xle (F v) (xden S m (pc + 1) al (.ref v :: st) h)) : xle ((xRn h b j).bind (xon T0 F)) (xden S m pc al (.int j :: .ref b :: st) h) := l_rdx d rfl (fun v e => xRn_rd e) (fun v => by cases v; exact k0; exact k _)
theorem l_ln {b : Nat} {F : Int32 → Option xO} (d : decode m.2.1 pc = .ok (.arraylength, 1)) (k : ∀ v, xle (F v) (xden S m (pc + 1) al (.int v :: st) h)) : xle ((xRz h b).bind F) (xden S m pc al (.ref b :: st) h) := l_rdx d rfl (fun v e => by
  unfold xRz at e
  show (match h[b]? with
    | some (.inl (_, m, _)) => some (Value.int (Int32.ofNat m) :: st)
    | _ => none) = _
  split at e
  · rename_i ha; cases e; first | rfl | rw [ha]
  · cases e) k
theorem l_rs {j : Int32} {F : Int32 → Option xO} (d : decode m.2.1 pc = .ok (.iaload, 1)) (k : ∀ v, xle (F v) (xden S m (pc + 1) al (.int v :: st) h)) : xle ((xRs S j).bind F) (xden S m pc al (.int j :: .retAddr 11 :: st) h) := l_rdx d rfl (fun v e => by
  unfold xRs at e
  show (if xin j S.1 = true then some (Value.int (S.2 j.toNatClampNeg) :: st) else none) = _
  split at e
  · rename_i q; cases e; rw [if_pos q]
  · cases e) k
theorem l_rb {a : Nat} {j : Int32} {F : Int32 → Option xO} (d : decode m.2.1 pc = .ok (.baload, 1)) (k : ∀ v, xle (F v) (xden S m (pc + 1) al (.int v :: st) h)) : xle ((xRb a j).bind F) (xden S m pc al (.int j :: .retAddr a :: st) h) := l_rdx d rfl (fun v e => by
  unfold xRb at e
  show (match xCB a with
    | some (m, f) => if xin j m = true then some (Value.int (f j.toNatClampNeg) :: st) else none
    | _ => none) = _
  split at e
  · rename_i mm f ha
    split at e
    · rename_i q; cases e; try rw [ha]
      show (if xin j mm = true then _ else none) = _; rw [if_pos q]
    · cases e
  · cases e) k
theorem xrd_lnk {a : Nat} {v : Int32} {k : Nat} (e : xRbz a = some v) : xrd S k .arraylength 1 (.retAddr a :: st) h = some (.int v :: st) := by
  unfold xRbz at e
  split at e
  · rename_i mm f ha
    cases e
    have h120 : 120 ≤ a := by
      unfold xCB at ha
      split at ha
      · assumption
      · cases ha
    unfold xrd
    split <;> first | (exfalso; omega) | skip
    all_goals try (simp_all; done)
    all_goals (rename_i q1 q2 q3; try cases q1; try cases q3)
    all_goals simp_all
  · cases e
theorem l_lb {a : Nat} {F : Int32 → Option xO} (d : decode m.2.1 pc = .ok (.arraylength, 1)) (k : ∀ v, xle (F v) (xden S m (pc + 1) al (.int v :: st) h)) : xle ((xRbz a).bind F) (xden S m pc al (.retAddr a :: st) h) := l_rdx d rfl (fun v e => xrd_lnk e) k
theorem l_ls {F : Option xO} (d : decode m.2.1 pc = .ok (.arraylength, 1)) (k : xle F (xden S m (pc + 1) al (.int (Int32.ofNat S.1) :: st) h)) : xle F (xden S m pc al (.retAddr 11 :: st) h) := l_rd d rfl rfl k
theorem l_rt {j : Int32} {F : Option xO} (d : decode m.2.1 pc = .ok (.aaload, 1)) (k : xle F (xden S m (pc + 1) al (.retAddr j.toNatClampNeg :: st) h)) : xle (if xin j 10 = true then F else none) (xden S m pc al (.int j :: .retAddr 10 :: st) h) := by
  refine l_if (fun q => l_rd d rfl ?_ k) (fun q => l_none)
  show (if xin j 10 = true then some (.retAddr j.toNatClampNeg :: st) else none) = _
  rw [if_pos q]
theorem l_pf {x a c j : Nat} {v : Value} {F : xH → Option xO} {ini : Bool} (d : decode m.2.1 pc = .ok (.putfield x, 3)) (hf : xFld m.2.2.2.2.2.1 x = some (c, j)) (hi : decide (m.1.name = "<init>") = ini) (k : ∀ h1, xle (F h1) (xden S m (pc + 3) al st h1)) : xle ((xP ini m.2.2.2.2.2.1 h a c j v).bind F) (xden S m pc al (v :: .ref a :: st) h) := by
  refine l_wrx d rfl rfl (fun h1 e => ?_) k
  rw [hi]
  show (match h[a]?, xFld m.2.2.2.2.2.1 x with
    | some (.inr (ci, fs)), some (cj, j) => if ci = cj ∧ j < fs.length ∧ xPok ini m.2.2.2.2.2.1 ci j v = true then some (st, h.set a (.inr (ci, fs.set j v)), 0, 0) else none
    | _, _ => none) = _
  unfold xP at e
  rw [hf]
  split at e
  · rename_i ci fs ha
    split at e
    · rename_i q; cases e; rw [ha]
      show (if ci = c ∧ j < fs.length ∧ xPok ini m.2.2.2.2.2.1 ci j v = true then _ else none) = _
      rw [if_pos ⟨q.1, q.2.1, by rw [q.1]; exact q.2.2⟩]
    · cases e
  · cases e
theorem l_wi {b : Nat} {j v : Int32} {F : xH → Option xO} (d : decode m.2.1 pc = .ok (.iastore, 1)) (k : ∀ h1, xle (F h1) (xden S m (pc + 1) al st h1)) : xle ((xWi h b j v).bind F) (xden S m pc al (.int v :: .int j :: .ref b :: st) h) := by
  refine l_wrx d rfl rfl (fun h1 e => ?_) k
  show (match h[b]? with
    | some (.inl (0, m, .inl f)) => if xin j m = true then some (st, h.set b (.inl (0, m, .inl (upd f j.toNatClampNeg v))), 0, 0) else none
    | _ => none) = _
  unfold xWi at e
  split at e
  · rename_i mm f ha
    split at e
    · rename_i q; cases e; try rw [ha]
      show (if xin j mm = true then _ else none) = _
      rw [if_pos q]
    · cases e
  · cases e
theorem l_wz {b : Nat} {j v : Int32} {F : xH → Option xO} (d : decode m.2.1 pc = .ok (.bastore, 1)) (k : ∀ h1, xle (F h1) (xden S m (pc + 1) al st h1)) : xle ((xWz h b j v).bind F) (xden S m pc al (.int v :: .int j :: .ref b :: st) h) := by
  refine l_wrx d rfl rfl (fun h1 e => ?_) k
  show (match h[b]? with
    | some (.inl (2, m, .inl f)) => if xin j m = true ∧ (v = 0 ∨ v = 1) then some (st, h.set b (.inl (2, m, .inl (upd f j.toNatClampNeg v))), 0, 0) else none
    | _ => none) = _
  unfold xWz at e
  split at e
  · rename_i mm f ha
    split at e
    · rename_i q; cases e; try rw [ha]
      show (if xin j mm = true ∧ (v = 0 ∨ v = 1) then _ else none) = _
      rw [if_pos q]
    · cases e
  · cases e
theorem l_wc {b : Nat} {j v : Int32} {F : xH → Option xO} (d : decode m.2.1 pc = .ok (.castore, 1)) (k : ∀ h1, xle (F h1) (xden S m (pc + 1) al st h1)) : xle ((xWc h b j v).bind F) (xden S m pc al (.int v :: .int j :: .ref b :: st) h) := by
  refine l_wrx d rfl rfl (fun h1 e => ?_) k
  show (match h[b]? with
    | some (.inl (3, m, .inl f)) => if xin j m = true then some (st, h.set b (.inl (3, m, .inl (upd f j.toNatClampNeg (vp_nar .char v)))), 0, 0) else none
    | _ => none) = _
  unfold xWc at e
  split at e
  · rename_i mm f ha
    split at e
    · rename_i q; cases e; try rw [ha]
      show (if xin j mm = true then _ else none) = _
      rw [if_pos q]
    · cases e
  · cases e
theorem l_wl {b : Nat} {j : Int32} {v : Int64} {F : xH → Option xO} (d : decode m.2.1 pc = .ok (.lastore, 1)) (k : ∀ h1, xle (F h1) (xden S m (pc + 1) al st h1)) : xle ((xWl h b j v).bind F) (xden S m pc al (.long v :: .int j :: .ref b :: st) h) := by
  refine l_wrx d rfl rfl (fun h1 e => ?_) k
  show (match h[b]? with
    | some (.inl (1, m, .inr (.inl f))) => if xin j m = true then some (st, h.set b (.inl (1, m, .inr (.inl (vp_updL f j.toNatClampNeg v)))), 0, 0) else none
    | _ => none) = _
  unfold xWl at e
  split at e
  · rename_i mm f ha
    split at e
    · rename_i q; cases e; try rw [ha]
      show (if xin j mm = true then _ else none) = _
      rw [if_pos q]
    · cases e
  · cases e
theorem l_wa {b : Nat} {j : Int32} {v : Nat} {F : xH → Option xO} (d : decode m.2.1 pc = .ok (.aastore, 1)) (k : ∀ h1, xle (F h1) (xden S m (pc + 1) al st h1)) : xle ((xWr h b j v).bind F) (xden S m pc al (.ref v :: .int j :: .ref b :: st) h) := by
  refine l_wrx d rfl rfl (fun h1 e => ?_) k
  show (match h[b]?, h[v]? with
    | some (.inl (t, m, .inr (.inr (.inr (.inr f))))), some (.inr (ci, _)) => if xin j m = true ∧ xElm t = some ci then some (st, h.set b (.inl (t, m, .inr (.inr (.inr (.inr (va_up f j.toNatClampNeg (some v))))))), 0, 0) else none
    | _, _ => none) = _
  unfold xWr at e
  split at e
  · rename_i t mm f ci fs ha hv
    split at e
    · rename_i q; cases e; try rw [ha, hv]
      show (if xin j mm = true ∧ xElm t = some ci then _ else none) = _
      rw [if_pos q]
    · cases e
  · cases e
theorem l_ni {n : Int32} {F : Nat → xH → Option xO} (d : decode m.2.1 pc = .ok (.newarray .int, 2)) (k : ∀ a h1, xle (F a h1) (xden S m (pc + 2) al (.ref a :: st) h1)) : xle (xNa 0 (.inl (fun _ => 0)) n h F) (xden S m pc al (.int n :: st) h) := by
  refine l_if (fun q => l_wr d rfl rfl ?_ (k _ _)) (fun q => l_none)
  show (if ¬ n < 0 ∧ n.toNatClampNeg ≤ 60000 then some (.ref h.length :: st, h ++ [.inl (0, n.toNatClampNeg, .inl (fun _ => 0))], 1, n.toNatClampNeg) else none) = _
  rw [if_pos q]
theorem l_nl {n : Int32} {F : Nat → xH → Option xO} (d : decode m.2.1 pc = .ok (.newarray .long, 2)) (k : ∀ a h1, xle (F a h1) (xden S m (pc + 2) al (.ref a :: st) h1)) : xle (xNa 1 (.inr (.inl (fun _ => 0))) n h F) (xden S m pc al (.int n :: st) h) := by
  refine l_if (fun q => l_wr d rfl rfl ?_ (k _ _)) (fun q => l_none)
  show (if ¬ n < 0 ∧ n.toNatClampNeg ≤ 60000 then some (.ref h.length :: st, h ++ [.inl (1, n.toNatClampNeg, .inr (.inl (fun _ => 0)))], 1, n.toNatClampNeg) else none) = _
  rw [if_pos q]
theorem l_nz {n : Int32} {F : Nat → xH → Option xO} (d : decode m.2.1 pc = .ok (.newarray .boolean, 2)) (k : ∀ a h1, xle (F a h1) (xden S m (pc + 2) al (.ref a :: st) h1)) : xle (xNa 2 (.inl (fun _ => 0)) n h F) (xden S m pc al (.int n :: st) h) := by
  refine l_if (fun q => l_wr d rfl rfl ?_ (k _ _)) (fun q => l_none)
  show (if ¬ n < 0 ∧ n.toNatClampNeg ≤ 60000 then some (.ref h.length :: st, h ++ [.inl (2, n.toNatClampNeg, .inl (fun _ => 0))], 1, n.toNatClampNeg) else none) = _
  rw [if_pos q]
theorem l_nc {n : Int32} {F : Nat → xH → Option xO} (d : decode m.2.1 pc = .ok (.newarray .char, 2)) (k : ∀ a h1, xle (F a h1) (xden S m (pc + 2) al (.ref a :: st) h1)) : xle (xNa 3 (.inl (fun _ => 0)) n h F) (xden S m pc al (.int n :: st) h) := by
  refine l_if (fun q => l_wr d rfl rfl ?_ (k _ _)) (fun q => l_none)
  show (if ¬ n < 0 ∧ n.toNatClampNeg ≤ 60000 then some (.ref h.length :: st, h ++ [.inl (3, n.toNatClampNeg, .inl (fun _ => 0))], 1, n.toNatClampNeg) else none) = _
  rw [if_pos q]
theorem l_na {n : Int32} {x t : Nat} {F : Nat → xH → Option xO} (d : decode m.2.1 pc = .ok (.anewarray x, 3)) (hx : xAnr m.2.2.2.2.2.1 x = some t) (k : ∀ a h1, xle (F a h1) (xden S m (pc + 3) al (.ref a :: st) h1)) : xle (xNa t (.inr (.inr (.inr (.inr (fun _ => none))))) n h F) (xden S m pc al (.int n :: st) h) := by
  refine l_if (fun q => l_wr d rfl rfl ?_ (k _ _)) (fun q => l_none)
  show (match xAnr m.2.2.2.2.2.1 x with
    | some t => if ¬ n < 0 ∧ n.toNatClampNeg ≤ 60000 then some (Value.ref h.length :: st, h ++ [(.inl (t, n.toNatClampNeg, .inr (.inr (.inr (.inr (fun _ => none))))) : xE)], 1, n.toNatClampNeg) else none
    | _ => none) = _
  rw [hx]
  show (if ¬ n < 0 ∧ n.toNatClampNeg ≤ 60000 then _ else none) = _
  rw [if_pos q]
theorem l_nm {n b : Int32} {x : Nat} {F : Nat → xH → Option xO} (d : decode m.2.1 pc = .ok (.multianewarray x 2, 4)) (hx : xMna m.2.2.2.2.2.1 x = true) (k : ∀ a h1, xle (F a h1) (xden S m (pc + 4) al (.ref a :: st) h1)) : xle (xNm2 n b h F) (xden S m pc al (.int b :: .int n :: st) h) := by
  refine l_if (fun q => l_wr d rfl rfl ?_ (k _ _)) (fun q => l_none)
  show (if xMna m.2.2.2.2.2.1 x = true ∧ ¬ n < 0 ∧ n.toNatClampNeg ≤ 60000 ∧ ¬ b < 0 ∧ b.toNatClampNeg ≤ 60000 then _ else none) = _
  rw [if_pos ⟨hx, q⟩]
theorem l_obi {a x : Nat} {F : Option xO} (d : decode m.2.1 pc = .ok (.invokespecial x, 3)) (hx : xObI m.2.2.2.2.2.1 (.invokespecial x) = true) (hm : decide (1 ≤ m.2.2.2.2.2.2.1 ∧ 20 ≤ m.2.2.2.2.2.2.2.1) = true) (hs : Nat.ble (st.map fun v => v.category).sum 8 = true) (k : xle F (xden S m (pc + 3) al st h)) : xle (if a < h.length then F else none) (xden S m pc al (.ref a :: st) h) := by
  refine l_if (fun q => l_step (pc1 := pc + 3) (al1 := al) (st1 := st) (h1 := h) ?_ k) (fun q => l_none)
  unfold xstep
  rw [d]
  show (if xObI m.2.2.2.2.2.1 (.invokespecial x) = true ∧ 3 = 3 then (if 1 ≤ m.2.2.2.2.2.2.1 ∧ 20 ≤ m.2.2.2.2.2.2.2.1 ∧ (st.map fun v => v.category).sum ≤ 8 then (h[a]?).map (fun _ => (.inl ((pc + 3, al, st, h), 0, 0) : (xF × Nat × Nat) ⊕ ((xMd × List Value × List Value) ⊕ (Option Value ⊕ String)))) else none) else _) = _
  have hm := of_decide_eq_true hm
  rw [if_pos ⟨hx, rfl⟩, if_pos ⟨hm.1, hm.2, Nat.le_of_ble_eq_true hs⟩, List.getElem?_eq_getElem q]
  rfl
theorem l_cpy {a b x : Nat} {sp dp q : Int32} {F : xH → Option xO} (d : decode m.2.1 pc = .ok (.invokestatic x, 3)) (ho : xObI m.2.2.2.2.2.1 (.invokestatic x) = false) (hx : xCpy m.2.2.2.2.2.1 (.invokestatic x) = true) (hm : decide (1 ≤ m.2.2.2.2.2.2.1 ∧ 26 ≤ m.2.2.2.2.2.2.2.1) = true) (hs : Nat.ble (st.map fun v => v.category).sum 8 = true) (k : ∀ h1, xle (F h1) (xden S m (pc + 3) al st h1)) : xle ((xCp h a sp b dp q).bind F) (xden S m pc al (.int q :: .int dp :: .ref b :: .int sp :: .ref a :: st) h) := by
  refine l_bind fun h1 e => l_step (pc1 := pc + 3) (al1 := al) (st1 := st) (h1 := h1) ?_ (k h1)
  have hm := of_decide_eq_true hm
  have hs := Nat.le_of_ble_eq_true hs
  unfold xstep
  rw [d]
  try dsimp only
  rw [show xcat (.invokestatic x) = 4 from rfl]
  try dsimp only
  rw [ho, hx]
  rw [if_neg (by simp), if_pos ⟨rfl, rfl⟩]
  unfold xCp at e
  split at e
  · rename_i t m0 f u m1 g ha hb
    split at e
    · rename_i w; cases e
      rw [ha, hb]
      try dsimp only
      rw [if_pos ⟨w.1, w.2.1, w.2.2.1, w.2.2.2.1, w.2.2.2.2.1, w.2.2.2.2.2.1, w.2.2.2.2.2.2, hs, hm.1, hm.2⟩]
      try rfl
    · cases e
  · rename_i t m0 f u m1 g ha hb
    split at e
    · rename_i w; cases e
      rw [ha, hb]
      try dsimp only
      rw [if_pos ⟨w.1, w.2.1, w.2.2.1, w.2.2.2.1, w.2.2.2.2.1, w.2.2.2.2.2.1, w.2.2.2.2.2.2, hs, hm.1, hm.2⟩]
      try rfl
    · cases e
  · cases e
/-- a call, whatever comes of it -/
theorem l_call {i : Instr} {y : xMd} {as rest : List Value} {G : xO → Option xO} (d : decode m.2.1 pc = .ok (i, 3)) (hc : xcat i = 4) (ho : xObI m.2.2.2.2.2.1 i = false) (hy : xCpy m.2.2.2.2.2.1 i = false) (hp : xcall m.2.2.2.2.2.1 i 3 st h = some (y, as, rest)) (h1 : Nat.ble (lg_sl as).length y.2.2.1 = true) (hn : xNk y m = true)
    (k : ∀ o, xle (G o) (xadd o.2.2.1 o.2.2.2 (match o.1 with | .inl v => xden S m (pc + 3) al (v.toList ++ rest) o.2.1 | .inr E => if y.1.name = "<init>" then none else xhE S m pc al E o.2.1))) : xle ((xM S y as h).bind G) (xden S m pc al st h) := by
  refine l_bind fun o e => ?_
  intro o2 e2
  have e3 := k o o2 e2
  obtain ⟨f, hf⟩ := xden_iff.mp e
  have hst : xstep S m pc al st h = some (.inr (.inl (y, as, rest))) := by
    unfold xstep
    rw [d]
    try dsimp only
    rw [hc]
    try dsimp only
    rw [ho, hy, hp]
    simp
  have hq : (lg_sl as).length ≤ y.2.2.1 ∧ y.2.2.2.2.2.2.1 + 1 ≤ m.2.2.2.2.2.2.1 ∧ 8 + (y.2.2.1 + 11) + y.2.2.2.2.2.2.2.1 ≤ m.2.2.2.2.2.2.2.1 := ⟨Nat.le_of_ble_eq_true h1, of_decide_eq_true hn⟩
  obtain ⟨r, h', c1, s1⟩ := o
  cases r with
  | inl v =>
    obtain ⟨o3, e4, e5⟩ := Option.map_eq_some_iff.mp e3
    obtain ⟨g, hg⟩ := xden_iff.mp e4
    refine xden_iff.mpr ⟨max f g + 1, ?_⟩
    rw [xrun, hst]
    try dsimp only
    rw [if_pos hq, xrun_le hf (Nat.le_max_left _ _)]
    try dsimp only
    rw [xrun_le hg (Nat.le_max_right _ _), ← e5]
    rfl
  | inr E =>
    dsimp only at e3
    by_cases ci : y.1.name = "<init>"
    · rw [if_pos ci] at e3; cases e3
    rw [if_neg ci] at e3
    obtain ⟨o3, e4, e5⟩ := Option.map_eq_some_iff.mp e3
    unfold xhE at e4
    split at e4
    · cases e4
    · rename_i t ht
      obtain ⟨g, hg⟩ := xden_iff.mp e4
      refine xden_iff.mpr ⟨max f g + 1, ?_⟩
      rw [xrun, hst]
      try dsimp only
      rw [if_pos hq, xrun_le hf (Nat.le_max_left _ _)]
      try dsimp only
      rw [if_neg ci, ht]
      try dsimp only
      rw [xrun_le hg (Nat.le_max_right _ _), ← e5]
      rfl
    · rename_i ht
      cases e4
      refine xden_iff.mpr ⟨f + 1, ?_⟩
      rw [xrun, hst]
      try dsimp only
      rw [if_pos hq, hf]
      try dsimp only
      rw [if_neg ci, ht, ← e5]
      simp
theorem xhE_none (hh : m.2.2.2.2.1 = []) (e : String) (h : xH) : xhE S m pc al e h = xth e h := by
  unfold xhE
  rw [hh]
  rfl
theorem xadd_le {c s : Nat} {A B : Option xO} (k : xle A B) : xle (xadd c s A) (xadd c s B) := by
  intro o e
  obtain ⟨o1, e1, e2⟩ := Option.map_eq_some_iff.mp e
  unfold xadd
  rw [k o1 e1]
  exact congrArg some e2
theorem l_cI {i : Instr} {y : xMd} {as rest : List Value} {E : String → xH → Option xO} {F : Int32 → xH → Option xO} (d : decode m.2.1 pc = .ok (i, 3)) (hc : xcat i = 4) (ho : xObI m.2.2.2.2.2.1 i = false) (hy : xCpy m.2.2.2.2.2.1 i = false) (hp : xcall m.2.2.2.2.2.1 i 3 st h = some (y, as, rest)) (h1 : Nat.ble (lg_sl as).length y.2.2.1 = true) (hn : xNk y m = true) (hi : (y.1.name == "<init>") = false) (hE : xhE S m pc al = E)
    (k : ∀ x h', xle (F x h') (xden S m (pc + 3) al (.int x :: rest) h')) : xle (xqI (xM S y as h) E F) (xden S m pc al st h) := by
  have e0 : xqI (xM S y as h) E F = (xM S y as h).bind (fun o => xqI (some o) E F) := by cases xM S y as h <;> rfl
  rw [e0]
  subst hE
  refine l_call d hc ho hy hp h1 hn fun o => ?_
  have hi : ¬ y.1.name = "<init>" := by simpa using hi
  obtain ⟨r, h', c1, s1⟩ := o
  rcases r with v | e
  · rcases v with _ | v
    · exact l_none
    · cases v <;> first | exact l_none | exact xadd_le (k _ _)
  · show xle (xadd c1 s1 (xhE S m pc al e h')) (xadd c1 s1 (if y.1.name = "<init>" then none else xhE S m pc al e h'))
    rw [if_neg hi]
    exact l_refl
theorem l_cJ {i : Instr} {y : xMd} {as rest : List Value} {E : String → xH → Option xO} {F : Int64 → xH → Option xO} (d : decode m.2.1 pc = .ok (i, 3)) (hc : xcat i = 4) (ho : xObI m.2.2.2.2.2.1 i = false) (hy : xCpy m.2.2.2.2.2.1 i = false) (hp : xcall m.2.2.2.2.2.1 i 3 st h = some (y, as, rest)) (h1 : Nat.ble (lg_sl as).length y.2.2.1 = true) (hn : xNk y m = true) (hi : (y.1.name == "<init>") = false) (hE : xhE S m pc al = E)
    (k : ∀ x h', xle (F x h') (xden S m (pc + 3) al (.long x :: rest) h')) : xle (xqJ (xM S y as h) E F) (xden S m pc al st h) := by
  have e0 : xqJ (xM S y as h) E F = (xM S y as h).bind (fun o => xqJ (some o) E F) := by cases xM S y as h <;> rfl
  rw [e0]
  subst hE
  refine l_call d hc ho hy hp h1 hn fun o => ?_
  have hi : ¬ y.1.name = "<init>" := by simpa using hi
  obtain ⟨r, h', c1, s1⟩ := o
  rcases r with v | e
  · rcases v with _ | v
    · exact l_none
    · cases v <;> first | exact l_none | exact xadd_le (k _ _)
  · show xle (xadd c1 s1 (xhE S m pc al e h')) (xadd c1 s1 (if y.1.name = "<init>" then none else xhE S m pc al e h'))
    rw [if_neg hi]
    exact l_refl
theorem l_cR {i : Instr} {y : xMd} {as rest : List Value} {E : String → xH → Option xO} {F : Nat → xH → Option xO} (d : decode m.2.1 pc = .ok (i, 3)) (hc : xcat i = 4) (ho : xObI m.2.2.2.2.2.1 i = false) (hy : xCpy m.2.2.2.2.2.1 i = false) (hp : xcall m.2.2.2.2.2.1 i 3 st h = some (y, as, rest)) (h1 : Nat.ble (lg_sl as).length y.2.2.1 = true) (hn : xNk y m = true) (hi : (y.1.name == "<init>") = false) (hE : xhE S m pc al = E)
    (k : ∀ x h', xle (F x h') (xden S m (pc + 3) al (.ref x :: rest) h')) : xle (xqR (xM S y as h) E F) (xden S m pc al st h) := by
  have e0 : xqR (xM S y as h) E F = (xM S y as h).bind (fun o => xqR (some o) E F) := by cases xM S y as h <;> rfl
  rw [e0]
  subst hE
  refine l_call d hc ho hy hp h1 hn fun o => ?_
  have hi : ¬ y.1.name = "<init>" := by simpa using hi
  obtain ⟨r, h', c1, s1⟩ := o
  rcases r with v | e
  · rcases v with _ | v
    · exact l_none
    · cases v <;> first | exact l_none | exact xadd_le (k _ _)
  · show xle (xadd c1 s1 (xhE S m pc al e h')) (xadd c1 s1 (if y.1.name = "<init>" then none else xhE S m pc al e h'))
    rw [if_neg hi]
    exact l_refl
theorem l_cK {i : Instr} {y : xMd} {as rest : List Value} {E : String → xH → Option xO} {F : Nat → xH → Option xO} (d : decode m.2.1 pc = .ok (i, 3)) (hc : xcat i = 4) (ho : xObI m.2.2.2.2.2.1 i = false) (hy : xCpy m.2.2.2.2.2.1 i = false) (hp : xcall m.2.2.2.2.2.1 i 3 st h = some (y, as, rest)) (h1 : Nat.ble (lg_sl as).length y.2.2.1 = true) (hn : xNk y m = true) (hi : (y.1.name == "<init>") = false) (hE : xhE S m pc al = E)
    (k : ∀ x h', xle (F x h') (xden S m (pc + 3) al (.retAddr x :: rest) h')) : xle (xqK (xM S y as h) E F) (xden S m pc al st h) := by
  have e0 : xqK (xM S y as h) E F = (xM S y as h).bind (fun o => xqK (some o) E F) := by cases xM S y as h <;> rfl
  rw [e0]
  subst hE
  refine l_call d hc ho hy hp h1 hn fun o => ?_
  have hi : ¬ y.1.name = "<init>" := by simpa using hi
  obtain ⟨r, h', c1, s1⟩ := o
  rcases r with v | e
  · rcases v with _ | v
    · exact l_none
    · cases v <;> first | exact l_none | exact xadd_le (k _ _)
  · show xle (xadd c1 s1 (xhE S m pc al e h')) (xadd c1 s1 (if y.1.name = "<init>" then none else xhE S m pc al e h'))
    rw [if_neg hi]
    exact l_refl
theorem l_cN {i : Instr} {y : xMd} {as rest : List Value} {E : String → xH → Option xO} {T0 : xH → Option xO} {F : Nat → xH → Option xO} (d : decode m.2.1 pc = .ok (i, 3)) (hc : xcat i = 4) (ho : xObI m.2.2.2.2.2.1 i = false) (hy : xCpy m.2.2.2.2.2.1 i = false) (hp : xcall m.2.2.2.2.2.1 i 3 st h = some (y, as, rest)) (h1 : Nat.ble (lg_sl as).length y.2.2.1 = true) (hn : xNk y m = true) (hi : (y.1.name == "<init>") = false) (hE : xhE S m pc al = E)
    (k0 : ∀ h', xle (T0 h') (xden S m (pc + 3) al (.null :: rest) h')) (k : ∀ x h', xle (F x h') (xden S m (pc + 3) al (.ref x :: rest) h')) : xle (xqN (xM S y as h) E T0 F) (xden S m pc al st h) := by
  have e0 : xqN (xM S y as h) E T0 F = (xM S y as h).bind (fun o => xqN (some o) E T0 F) := by cases xM S y as h <;> rfl
  rw [e0]
  subst hE
  refine l_call d hc ho hy hp h1 hn fun o => ?_
  have hi : ¬ y.1.name = "<init>" := by simpa using hi
  obtain ⟨r, h', c1, s1⟩ := o
  rcases r with v | e
  · rcases v with _ | v
    · exact l_none
    · cases v <;> first | exact l_none | exact xadd_le (k _ _) | exact xadd_le (k0 _)
  · show xle (xadd c1 s1 (xhE S m pc al e h')) (xadd c1 s1 (if y.1.name = "<init>" then none else xhE S m pc al e h'))
    rw [if_neg hi]
    exact l_refl
theorem l_cV {i : Instr} {y : xMd} {as rest : List Value} {E : String → xH → Option xO} {F : xH → Option xO} (d : decode m.2.1 pc = .ok (i, 3)) (hc : xcat i = 4) (ho : xObI m.2.2.2.2.2.1 i = false) (hy : xCpy m.2.2.2.2.2.1 i = false) (hp : xcall m.2.2.2.2.2.1 i 3 st h = some (y, as, rest)) (h1 : Nat.ble (lg_sl as).length y.2.2.1 = true) (hn : xNk y m = true) (hi : (y.1.name == "<init>") = false) (hE : xhE S m pc al = E)
    (k : ∀ h', xle (F h') (xden S m (pc + 3) al rest h')) : xle (xqV (xM S y as h) E F) (xden S m pc al st h) := by
  have e0 : xqV (xM S y as h) E F = (xM S y as h).bind (fun o => xqV (some o) E F) := by cases xM S y as h <;> rfl
  rw [e0]
  subst hE
  refine l_call d hc ho hy hp h1 hn fun o => ?_
  have hi : ¬ y.1.name = "<init>" := by simpa using hi
  obtain ⟨r, h', c1, s1⟩ := o
  rcases r with v | e
  · rcases v with _ | v
    · exact xadd_le (k _)
    · exact l_none
  · show xle (xadd c1 s1 (xhE S m pc al e h')) (xadd c1 s1 (if y.1.name = "<init>" then none else xhE S m pc al e h'))
    rw [if_neg hi]
    exact l_refl
theorem l_cC {i : Instr} {y : xMd} {as rest : List Value} {F : xH → Option xO} (d : decode m.2.1 pc = .ok (i, 3)) (hc : xcat i = 4) (ho : xObI m.2.2.2.2.2.1 i = false) (hy : xCpy m.2.2.2.2.2.1 i = false) (hp : xcall m.2.2.2.2.2.1 i 3 st h = some (y, as, rest)) (h1 : Nat.ble (lg_sl as).length y.2.2.1 = true) (hn : xNk y m = true)
    (k : ∀ h', xle (F h') (xden S m (pc + 3) al rest h')) : xle (xqC (xM S y as h) F) (xden S m pc al st h) := by
  have e0 : xqC (xM S y as h) F = (xM S y as h).bind (fun o => xqC (some o) F) := by cases xM S y as h <;> rfl
  rw [e0]
  refine l_call d hc ho hy hp h1 hn fun o => ?_
  obtain ⟨r, h', c1, s1⟩ := o
  rcases r with v | e
  · rcases v with _ | v
    · exact xadd_le (k _)
    · exact l_none
  · exact l_none
/-- what a call is: static, of an object, of a constant, of a constructor -/
theorem l_xs {k x na : Nat} {y : xMd} (hx : xCal k x = some (y, na)) (hy : xSok y = true) (hl : Nat.ble na st.length = true) (hs : Nat.ble ((st.drop na).map fun v => v.category).sum 8 = true) : xcall k (.invokestatic x) 3 st h = some (y, (st.take na).reverse, st.drop na) := by
  show (match xCal k x with
    | some (y, na) => if y.2.2.2.2.2.2.2.2 = true ∧ na ≤ st.length ∧ ((st.drop na).map fun v : Value => v.category).sum ≤ 8 then some (y, (st.take na).reverse, st.drop na) else none
    | none => none) = _
  rw [hx]
  show (if _ then _ else _) = _
  rw [if_pos ⟨(of_decide_eq_true hy).1, Nat.le_of_ble_eq_true hl, Nat.le_of_ble_eq_true hs⟩]
theorem l_xv {k x na a : Nat} {y : xMd} {rest : List Value} (hx : xCal k x = some (y, na)) (hy : xVok y = true) (hd : st.drop na = .ref a :: rest) (hl : Nat.ble na st.length = true) (hs : Nat.ble (rest.map fun v => v.category).sum 8 = true) (ho : xOb h a y.2.2.2.2.2.1 = true) : xcall k (.invokevirtual x) 3 st h = some (y, .ref a :: (st.take na).reverse, rest) := by
  unfold xOb at ho
  split at ho
  · rename_i ci fs ha
    have ho : ci = y.2.2.2.2.2.1 := by simpa using ho
    have hy := of_decide_eq_true hy
    simp only [xcall, hx, hd, ha]
    rw [if_pos ⟨hy.1, hy.2.1, hy.2.2, ho, Nat.le_of_ble_eq_true hl, Nat.le_of_ble_eq_true hs⟩]
  · cases ho
theorem l_xk {k x na a : Nat} {y : xMd} {rest : List Value} (hx : xCal k x = some (y, na)) (hy : xVok y = true) (hd : st.drop na = .retAddr a :: rest) (hl : Nat.ble na st.length = true) (hs : Nat.ble (rest.map fun v => v.category).sum 8 = true) (ho : xCcl a = some y.2.2.2.2.2.1) : xcall k (.invokevirtual x) 3 st h = some (y, .retAddr a :: (st.take na).reverse, rest) := by
  have hy := of_decide_eq_true hy
  simp only [xcall, hx, hd]
  rw [if_pos ⟨hy.1, hy.2.1, hy.2.2, ho, Nat.le_of_ble_eq_true hl, Nat.le_of_ble_eq_true hs⟩]
theorem l_xi {k x na a : Nat} {y : xMd} {rest : List Value} (hx : xCal k x = some (y, na)) (hy : xIok y = true) (hd : st.drop na = .ref a :: rest) (hl : Nat.ble na st.length = true) (hs : Nat.ble (rest.map fun v => v.category).sum 8 = true) : xcall k (.invokespecial x) 3 st h = some (y, .ref a :: (st.take na).reverse, rest) := by
  have hy := of_decide_eq_true hy
  simp only [xcall, hx, hd]
  rw [if_pos ⟨hy.1, hy.2.1, hy.2.2.1, hy.2.2.2, Nat.le_of_ble_eq_true hl, Nat.le_of_ble_eq_true hs⟩]
theorem l_ob {a c : Nat} {F : Option xO} {E : Option xO} (k : xOb h a c = true → xle F E) : xle (if xOb h a c = true then F else none) E := l_if k fun _ => l_none
theorem l_cl {a c : Nat} {F : Option xO} {E : Option xO} (k : xCcl a = some c → xle F E) : xle (if xCcl a = some c then F else none) E := l_if k fun _ => l_none
end XDEN
/-! LOCALS: more of them known, the same end -/
def xnd (al : xL) : Prop := (al.map Prod.fst).Nodup
def xsb (al al' : xL) : Prop := xnd al ∧ ∀ k v, al.lookup k = some v → al'.lookup k = some v
theorem xlk_filter {p : Nat × Value → Bool} {k : Nat} {w : Value} : ∀ {al : xL}, al.lookup k = some w → p (k, w) = true → (al.filter p).lookup k = some w
  | [], h, _ => by cases h
  | (a, b) :: t, h, hp => by
    by_cases c : k = a
    · subst c
      rw [List.lookup_cons_self] at h
      cases h
      rw [List.filter_cons_of_pos hp, List.lookup_cons_self]
    · have c' : (k == a) = false := by simpa using c
      rw [List.lookup_cons, c'] at h
      have ih := xlk_filter h hp
      by_cases q : p (a, b) = true
      · rw [List.filter_cons_of_pos q, List.lookup_cons, c']; exact ih
      · rw [List.filter_cons_of_neg q]; exact ih
theorem xlk_mem {k : Nat} {w : Value} : ∀ {al : xL}, al.lookup k = some w → k ∈ al.map Prod.fst
  | [], h => by cases h
  | (a, b) :: t, h => by
    by_cases c : k = a
    · subst c; exact List.mem_cons_self
    · have c' : (k == a) = false := by simpa using c
      rw [List.lookup_cons, c'] at h
      exact List.mem_cons_of_mem _ (xlk_mem h)
theorem xlk_unf {p : Nat × Value → Bool} {k : Nat} {w : Value} : ∀ {al : xL}, xnd al → (al.filter p).lookup k = some w → al.lookup k = some w ∧ p (k, w) = true
  | [], _, h => by cases h
  | (a, b) :: t, hn, h => by
    have hn1 : a ∉ t.map Prod.fst ∧ xnd t := List.nodup_cons.mp hn
    by_cases q : p (a, b) = true
    · rw [List.filter_cons_of_pos q] at h
      by_cases c : k = a
      · subst c
        rw [List.lookup_cons_self] at h ⊢
        cases h
        exact ⟨rfl, q⟩
      · have c' : (k == a) = false := by simpa using c
        rw [List.lookup_cons, c'] at h ⊢
        exact xlk_unf hn1.2 h
    · rw [List.filter_cons_of_neg q] at h
      have ih := xlk_unf hn1.2 h
      have c : k ≠ a := fun c => hn1.1 (c ▸ xlk_mem ih.1)
      have c' : (k == a) = false := by simpa using c
      rw [List.lookup_cons, c']
      exact ih
theorem xsb_st {p : Nat × Value → Bool} {al al' : xL} {i : Nat} {v : Value} (hp : ∀ w, p (i, w) = false) (hb : xsb al al') : xsb ((i, v) :: al.filter p) ((i, v) :: al'.filter p) := by
  refine ⟨?_, fun k w h => ?_⟩
  · refine List.nodup_cons.mpr ⟨fun hm => ?_, List.Sublist.nodup (List.Sublist.map _ List.filter_sublist) hb.1⟩
    obtain ⟨q, h1, h2⟩ := List.mem_map.mp hm
    have h3 := (List.mem_filter.mp h1).2
    obtain ⟨q1, q2⟩ := q
    dsimp only at h2
    subst h2
    rw [hp] at h3
    cases h3
  · by_cases c : k = i
    · subst c
      rw [List.lookup_cons_self] at h ⊢
      exact h
    · have c' : (k == i) = false := by simpa using c
      rw [List.lookup_cons, c'] at h ⊢
      obtain ⟨h1, h2⟩ := xlk_unf hb.1 h
      exact xlk_filter (hb.2 _ _ h1) h2
theorem xsb_1 {al al' : xL} {i : Nat} {v : Value} (hb : xsb al al') : xsb (xst1 al i v) (xst1 al' i v) := xsb_st (fun w => by simp) hb
theorem xsb_2 {al al' : xL} {i : Nat} {v : Value} (hb : xsb al al') : xsb (xst2 al i v) (xst2 al' i v) := xsb_st (fun w => by simp) hb
theorem xloc_sb {nL : Nat} {i : Instr} {n : Nat} {al al' al1 : xL} {st st1 : List Value} (hb : xsb al al') (h : xloc nL i n al st = some (al1, st1)) : ∃ al1', xloc nL i n al' st = some (al1', st1) ∧ xsb al1 al1' := by
  unfold xloc at h
  split at h
  · split at h
    · rename_i hl; cases h; exact ⟨al', by simp only [xloc, hb.2 _ _ hl], hb⟩
    · cases h
  · split at h
    · rename_i hl; cases h; exact ⟨al', by simp only [xloc, hb.2 _ _ hl], hb⟩
    · cases h
  · split at h
    · rename_i hl; cases h; exact ⟨al', by simp only [xloc, hb.2 _ _ hl], hb⟩
    · cases h
  · split at h
    · rename_i hl; cases h; exact ⟨al', by simp only [xloc, hb.2 _ _ hl], hb⟩
    · cases h
  · split at h
    · rename_i hl; cases h; exact ⟨al', by simp only [xloc, hb.2 _ _ hl], hb⟩
    · rename_i hl; cases h; exact ⟨al', by simp only [xloc, hb.2 _ _ hl], hb⟩
    · rename_i hl; cases h; exact ⟨al', by simp only [xloc, hb.2 _ _ hl], hb⟩
    · cases h
  · split at h
    · rename_i hl; cases h; exact ⟨al', by simp only [xloc, hb.2 _ _ hl], hb⟩
    · rename_i hl; cases h; exact ⟨al', by simp only [xloc, hb.2 _ _ hl], hb⟩
    · rename_i hl; cases h; exact ⟨al', by simp only [xloc, hb.2 _ _ hl], hb⟩
    · cases h
  · split at h
    · rename_i hq; cases h; exact ⟨_, by simp only [xloc]; rw [if_pos hq], xsb_1 hb⟩
    · cases h
  · split at h
    · rename_i hq; cases h; exact ⟨_, by simp only [xloc]; rw [if_pos hq], xsb_1 hb⟩
    · cases h
  · split at h
    · rename_i hq; cases h; exact ⟨_, by simp only [xloc]; rw [if_pos hq], xsb_2 hb⟩
    · cases h
  · split at h
    · rename_i hq; cases h; exact ⟨_, by simp only [xloc]; rw [if_pos hq], xsb_2 hb⟩
    · cases h
  · split at h
    · rename_i hq; cases h; exact ⟨_, by simp only [xloc]; rw [if_pos hq], xsb_1 hb⟩
    · cases h
  · split at h
    · rename_i hq; cases h; exact ⟨_, by simp only [xloc]; rw [if_pos hq], xsb_1 hb⟩
    · cases h
  · split at h
    · rename_i hq; cases h; exact ⟨_, by simp only [xloc]; rw [if_pos hq], xsb_1 hb⟩
    · cases h
  · split at h
    · rename_i hq; cases h; exact ⟨_, by simp only [xloc]; rw [if_pos hq], xsb_1 hb⟩
    · cases h
  · split at h
    · rename_i hq; cases h; exact ⟨_, by simp only [xloc]; rw [if_pos hq], xsb_1 hb⟩
    · cases h
  · split at h
    · rename_i hq; cases h; exact ⟨_, by simp only [xloc]; rw [if_pos hq], xsb_1 hb⟩
    · cases h
  · split at h
    · rename_i hl
      split at h
      · rename_i hq; cases h; exact ⟨_, by simp only [xloc, hb.2 _ _ hl]; rw [if_pos hq], xsb_1 hb⟩
      · cases h
    · cases h
  · cases h
theorem xstep_sb {S : xS} {m : xMd} {pc pc1 : Nat} {al al' al1 : xL} {st st1 : List Value} {h h1 : xH} {dc ds : Nat} (hb : xsb al al') (hs : xstep S m pc al st h = some (.inl ((pc1, al1, st1, h1), dc, ds))) : ∃ al1', xstep S m pc al' st h = some (.inl ((pc1, al1', st1, h1), dc, ds)) ∧ xsb al1 al1' := by
  unfold xstep at hs ⊢
  split at hs
  · cases hs
  · rename_i i n d
    try rw [d]
    try dsimp only
    split at hs
    · rename_i hc
      try rw [hc]
      try dsimp only
      obtain ⟨s, e1, e2⟩ := Option.map_eq_some_iff.mp hs
      cases e2
      exact ⟨al', by rw [e1]; rfl, hb⟩
    · rename_i hc
      try rw [hc]
      try dsimp only
      obtain ⟨⟨a1, s1⟩, e1, e2⟩ := Option.map_eq_some_iff.mp hs
      cases e2
      obtain ⟨al1', h3, h4⟩ := xloc_sb hb e1
      exact ⟨al1', by rw [h3]; rfl, h4⟩
    · rename_i hc
      try rw [hc]
      try dsimp only
      obtain ⟨s, e1, e2⟩ := Option.map_eq_some_iff.mp hs
      cases e2
      exact ⟨al', by rw [e1]; rfl, hb⟩
    · rename_i hc
      try rw [hc]
      try dsimp only
      split at hs
      · rename_i s e1
        cases hs
        exact ⟨al', by first | rfl | rw [e1], hb⟩
      · rename_i e1
        try rw [e1]
        try dsimp only
        obtain ⟨s, e2, e3⟩ := Option.map_eq_some_iff.mp hs
        cases e3
        exact ⟨al', by rw [e2]; rfl, hb⟩
    · rename_i hc
      try rw [hc]
      try dsimp only
      split at hs
      · rename_i q
        rw [if_pos q]
        split at hs
        · rename_i a rest
          try dsimp only
          split at hs
          · rename_i q2
            rw [if_pos q2]
            obtain ⟨s, e2, e3⟩ := Option.map_eq_some_iff.mp hs
            cases e3
            exact ⟨al', by rw [e2]; rfl, hb⟩
          · cases hs
        · cases hs
      · rename_i q
        rw [if_neg q]
        split at hs
        · rename_i q
          rw [if_pos q]
          split at hs
          · try dsimp only
            split at hs
            · rename_i ha hb'
              try rw [ha, hb']
              try dsimp only
              split at hs
              · rename_i q3
                rw [if_pos q3]
                cases hs
                exact ⟨al', rfl, hb⟩
              · cases hs
            · rename_i ha hb'
              try rw [ha, hb']
              try dsimp only
              split at hs
              · rename_i q3
                rw [if_pos q3]
                cases hs
                exact ⟨al', rfl, hb⟩
              · cases hs
            · cases hs
          · cases hs
        · obtain ⟨s, e2, e3⟩ := Option.map_eq_some_iff.mp hs
          cases e3
    · obtain ⟨s, e2, e3⟩ := Option.map_eq_some_iff.mp hs
      cases e3
    · rename_i hc
      try rw [hc]
      try dsimp only
      split at hs
      · try dsimp only
        split at hs
        · rename_i ci e1
          try rw [e1]
          try dsimp only
          split at hs
          · rename_i q
            rw [if_pos q]
            cases hs
            exact ⟨al', rfl, hb⟩
          · cases hs
        · split at hs
          · obtain ⟨s, e2, e3⟩ := Option.map_eq_some_iff.mp hs
            cases e3
          · cases hs
      · cases hs
    · cases hs
theorem xstep_sr {S : xS} {m : xMd} {pc : Nat} {al al' : xL} {st : List Value} {h : xH} {r : (xMd × List Value × List Value) ⊕ (Option Value ⊕ String)} (hs : xstep S m pc al st h = some (.inr r)) : xstep S m pc al' st h = some (.inr r) := by
  unfold xstep at hs ⊢
  split at hs
  · cases hs
  · rename_i i n d
    try rw [d]
    try dsimp only
    split at hs
    · obtain ⟨s, e2, e3⟩ := Option.map_eq_some_iff.mp hs
      cases e3
    · obtain ⟨s, e2, e3⟩ := Option.map_eq_some_iff.mp hs
      cases e3
    · obtain ⟨s, e2, e3⟩ := Option.map_eq_some_iff.mp hs
      cases e3
    · split at hs
      · cases hs
      · obtain ⟨s, e2, e3⟩ := Option.map_eq_some_iff.mp hs
        cases e3
    · rename_i hc
      try rw [hc]
      try dsimp only
      split at hs
      · split at hs
        · split at hs
          · obtain ⟨s, e2, e3⟩ := Option.map_eq_some_iff.mp hs
            cases e3
          · cases hs
        · cases hs
      · rename_i q
        rw [if_neg q]
        split at hs
        · split at hs
          · split at hs
            · split at hs <;> cases hs
            · split at hs <;> cases hs
            · cases hs
          · cases hs
        · rename_i q2
          rw [if_neg q2]
          obtain ⟨s, e2, e3⟩ := Option.map_eq_some_iff.mp hs
          rw [e2]
          exact congrArg some e3
    · rename_i hc
      try rw [hc]
      try dsimp only
      obtain ⟨s, e2, e3⟩ := Option.map_eq_some_iff.mp hs
      rw [e2]
      exact congrArg some e3
    · rename_i hc
      try rw [hc]
      try dsimp only
      split at hs
      · try dsimp only
        split at hs
        · split at hs <;> cases hs
        · rename_i e1
          try rw [e1]
          try dsimp only
          split at hs
          · rename_i q
            rw [if_pos q]
            obtain ⟨s, e2, e3⟩ := Option.map_eq_some_iff.mp hs
            rw [e2]
            exact congrArg some e3
          · cases hs
      · cases hs
    · cases hs
theorem xrun_sb {S : xS} : ∀ (f : Nat) {m : xMd} {pc : Nat} {al al' : xL} {st : List Value} {h : xH} {o : xO}, xsb al al' → xrun S f m pc al st h = some o → xrun S f m pc al' st h = some o := by
  intro f
  induction f with
  | zero => intro m pc al al' st h o hb hr; simp [xrun] at hr
  | succ f ih =>
    intro m pc al al' st h o hb hr
    rw [xrun]
    unfold xrun at hr
    split at hr
    · cases hr
    · rename_i pc1 al1 st1 h1 dc ds hstep
      obtain ⟨al1', h3, h4⟩ := xstep_sb hb hstep
      rw [h3]
      try dsimp only
      obtain ⟨o1, ho1, e0⟩ := Option.map_eq_some_iff.mp hr
      rw [ih h4 ho1, Option.map_some, e0]
    · rename_i y as rest hstep
      rw [xstep_sr hstep]
      try dsimp only
      split at hr
      · rename_i hq
        rw [if_pos hq]
        split at hr
        · cases hr
        · rename_i v h' c1 s1 hrun
          try rw [hrun]
          try dsimp only
          obtain ⟨o1, ho1, e0⟩ := Option.map_eq_some_iff.mp hr
          rw [ih hb ho1, Option.map_some, e0]
        · rename_i E h' c1 s1 hrun
          try rw [hrun]
          try dsimp only
          split at hr
          · cases hr
          · rename_i hni
            rw [if_neg hni]
            split at hr
            · cases hr
            · rename_i t hhan
              try rw [hhan]
              try dsimp only
              obtain ⟨o1, ho1, e0⟩ := Option.map_eq_some_iff.mp hr
              rw [ih hb ho1, Option.map_some, e0]
            · rename_i hhan
              try rw [hhan]
              exact hr
      · cases hr
    · rename_i v hstep
      rw [xstep_sr hstep]
      exact hr
    · rename_i E hstep
      rw [xstep_sr hstep]
      exact hr
def xndb : List Nat → Bool
  | [] => true
  | a :: t => !t.contains a && xndb t
theorem xndb_nd : ∀ {l : List Nat}, xndb l = true → l.Nodup
  | [], _ => List.nodup_nil
  | a :: t, h => by
    have h : (!t.contains a) = true ∧ xndb t = true := by simpa [xndb] using h
    exact List.nodup_cons.mpr ⟨by simpa using h.1, xndb_nd h.2⟩
theorem xSub_lk {al' : xL} : ∀ {al : xL}, xSub al al' → ∀ k v, al.lookup k = some v → al'.lookup k = some v
  | [], _, k, v, h => by cases h
  | (a, b) :: t, hs, k, v, h => by
    by_cases c : k = a
    · subst c
      rw [List.lookup_cons_self] at h
      cases h
      exact hs.1
    · have c' : (k == a) = false := by simpa using c
      rw [List.lookup_cons, c'] at h
      exact xSub_lk hs.2 k v h
/-- fewer locals known -/
theorem l_al {S : xS} {m : xMd} {pc : Nat} {al al' : xL} {st : List Value} {h : xH} (hn : xndb (al'.map Prod.fst) = true) (hs : xSub al' al) : xle (xden S m pc al' st h) (xden S m pc al st h) := by
  intro o e
  obtain ⟨f, hf⟩ := xden_iff.mp e
  exact xden_iff.mpr ⟨f, xrun_sb f ⟨xndb_nd hn, xSub_lk hs⟩ hf⟩

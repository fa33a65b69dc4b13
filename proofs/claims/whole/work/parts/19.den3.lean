/-! fields of constants -/
theorem l_kj {S : xS} {m : xMd} {pc : Nat} {al : xL} {st : List Value} {h : xH} {x a k : Nat} {F : Int32 → Option xO} (d : decode m.2.1 pc = .ok (.getfield x, 3)) (hk : m.2.2.2.2.2.1 = k) (w : ∀ v, xle (F v) (xden S m (pc + 3) al (.int v :: st) h)) : xle ((xCi a k x).bind F) (xden S m pc al (.retAddr a :: st) h) := by
  subst hk
  exact l_ki d w
theorem l_kl {S : xS} {m : xMd} {pc : Nat} {al : xL} {st : List Value} {h : xH} {x a k : Nat} {F : Nat → Option xO} (d : decode m.2.1 pc = .ok (.getfield x, 3)) (hk : m.2.2.2.2.2.1 = k) (w : ∀ v, xle (F v) (xden S m (pc + 3) al (.retAddr v :: st) h)) : xle ((xCk a k x).bind F) (xden S m pc al (.retAddr a :: st) h) := by
  subst hk
  exact l_kk d w
theorem l_aretk {S : xS} {m : xMd} {pc : Nat} {al : xL} {h : xH} {a : Nat} (d : decode m.2.1 pc = .ok (.areturn, 1)) (hr : xRob m.2.2.2.1 = true) : xle (if a = 998 then none else some (.inl (some (.retAddr a)), h, 0, 0)) (xden S m pc al [.retAddr a] h) := by
  refine l_if (fun _ => l_none) (fun q => l_end d rfl ?_)
  show (if xRob m.2.2.2.1 = true ∧ a ≠ 998 then some (some (Value.retAddr a)) else none) = _
  rw [if_pos ⟨hr, q⟩]
/-- what follows a call of a constant or null -/
def xqM (o : Option xO) (E : String → xH → Option xO) (T0 : xH → Option xO) (T : Nat → xH → Option xO) : Option xO := match o with | some (.inl (some (.retAddr x)), h, c, s) => xadd c s (T x h) | some (.inl (some .null), h, c, s) => xadd c s (T0 h) | some (.inr e, h, c, s) => xadd c s (E e h) | _ => none
theorem l_cM {S : xS} {m : xMd} {pc : Nat} {al : xL} {st : List Value} {h : xH} {i : Instr} {y : xMd} {as rest : List Value} {E : String → xH → Option xO} {T0 : xH → Option xO} {F : Nat → xH → Option xO} (d : decode m.2.1 pc = .ok (i, 3)) (hc : xcat i = 4) (ho : xObI m.2.2.2.2.2.1 i = false) (hy : xCpy m.2.2.2.2.2.1 i = false) (hp : xcall m.2.2.2.2.2.1 i 3 st h = some (y, as, rest)) (h1 : Nat.ble (lg_sl as).length y.2.2.1 = true) (hn : xNk y m = true) (hi : (y.1.name == "<init>") = false) (hE : xhE S m pc al = E)
    (k0 : ∀ h', xle (T0 h') (xden S m (pc + 3) al (.null :: rest) h')) (k : ∀ x h', xle (F x h') (xden S m (pc + 3) al (.retAddr x :: rest) h')) : xle (xqM (xM S y as h) E T0 F) (xden S m pc al st h) := by
  have e0 : xqM (xM S y as h) E T0 F = (xM S y as h).bind (fun o => xqM (some o) E T0 F) := by cases xM S y as h <;> rfl
  rw [e0]
  subst hE
  refine l_call d hc ho hy hp h1 hn fun o => ?_
  have hi : ¬ y.1.name = "<init>" := by simpa using hi
  obtain ⟨r, h', c1, s1⟩ := o
  rcases r with v | e
  · rcases v with _ | v
    · exact l_none
    · cases v <;> first | exact l_none | exact xadd_le (k _ _) | exact xadd_le (k0 _)
  · show xle (xadd c1 s1 (xhE S m pc al e h')) (xadd c1 s1 (if y.1.name = "<init>" then none else xhE S m pc al e h'))
    rw [if_neg hi]
    exact l_refl
theorem l_nullK {S : xS} {m : xMd} {pc : Nat} {al : xL} {st : List Value} {h : xH} {T : Option xO} {o : Int} {a : Nat} (d : decode m.2.1 pc = .ok (.ifnull o, 3)) (k : xle T (xden S m (pc + 3) al st h)) : xle (if a = 998 then none else T) (xden S m pc al (.retAddr a :: st) h) := by
  refine l_if (fun _ => l_none) (fun q => l_br d rfl ?_ k)
  show (if 3 = 3 ∧ a ≠ 998 then some (pc + 3, st) else none) = _
  rw [if_pos ⟨rfl, q⟩]
theorem l_nnulK {S : xS} {m : xMd} {pc : Nat} {al : xL} {st : List Value} {h : xH} {T : Option xO} {o : Int} {t a : Nat} (d : decode m.2.1 pc = .ok (.ifnonnull o, 3)) (ht : xtg pc o = some t) (k : xle T (xden S m t al st h)) : xle (if a = 998 then none else T) (xden S m pc al (.retAddr a :: st) h) := by
  refine l_if (fun _ => l_none) (fun q => l_br d rfl ?_ k)
  show (if 3 = 3 ∧ a ≠ 998 then (xtg pc o).map (fun t => (t, st)) else none) = _
  rw [if_pos ⟨rfl, q⟩, ht]
  rfl

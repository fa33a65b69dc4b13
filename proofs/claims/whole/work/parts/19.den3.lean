/-! fields of constants -/
theorem l_kj {S : xS} {m : xMd} {pc : Nat} {al : xL} {st : List Value} {h : xH} {x a k : Nat} {F : Int32 → Option xO} (d : decode m.2.1 pc = .ok (.getfield x, 3)) (hk : m.2.2.2.2.2.1 = k) (w : ∀ v, xle (F v) (xden S m (pc + 3) al (.int v :: st) h)) : xle ((xCi a k x).bind F) (xden S m pc al (.retAddr a :: st) h) := by
  subst hk
  exact l_ki d w
theorem l_kl {S : xS} {m : xMd} {pc : Nat} {al : xL} {st : List Value} {h : xH} {x a k : Nat} {F : Nat → Option xO} (d : decode m.2.1 pc = .ok (.getfield x, 3)) (hk : m.2.2.2.2.2.1 = k) (w : ∀ v, xle (F v) (xden S m (pc + 3) al (.retAddr v :: st) h)) : xle ((xCk a k x).bind F) (xden S m pc al (.retAddr a :: st) h) := by
  subst hk
  exact l_kk d w
theorem l_aretk {S : xS} {m : xMd} {pc : Nat} {al : xL} {h : xH} {a : Nat} (d : decode m.2.1 pc = .ok (.areturn, 1)) (hr : xRob m.2.2.2.1 = true) : xle (if a = 998 then none else some (.inl (some (.retAddr a)), h, 0, 0)) (xden S m pc al [.retAddr a] h) := by
  refine l_if (fun _ => l_none) (fun q => l_end d rfl ?_)
  show (if xRob m.2.2.2.1 = true ∧ a ≠ 998 then some (some (Value.retAddr a)) else none) = _
  rw [if_pos ⟨hr, q⟩]

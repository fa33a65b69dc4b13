/-! fields of constants -/
theorem l_kj {S : xS} {m : xMd} {pc : Nat} {al : xL} {st : List Value} {h : xH} {x a k : Nat} {F : Int32 → Option xO} (d : decode m.2.1 pc = .ok (.getfield x, 3)) (hk : m.2.2.2.2.2.1 = k) (w : ∀ v, xle (F v) (xden S m (pc + 3) al (.int v :: st) h)) : xle ((xCi a k x).bind F) (xden S m pc al (.retAddr a :: st) h) := by
  subst hk
  exact l_ki d w
theorem l_kl {S : xS} {m : xMd} {pc : Nat} {al : xL} {st : List Value} {h : xH} {x a k : Nat} {F : Nat → Option xO} (d : decode m.2.1 pc = .ok (.getfield x, 3)) (hk : m.2.2.2.2.2.1 = k) (w : ∀ v, xle (F v) (xden S m (pc + 3) al (.retAddr v :: st) h)) : xle ((xCk a k x).bind F) (xden S m pc al (.retAddr a :: st) h) := by
  subst hk
  exact l_kk d w

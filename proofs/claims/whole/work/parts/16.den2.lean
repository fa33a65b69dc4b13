/-! MORE ROWS OF THE DENOTATION -/
section XDEN2
variable {S : xS} {m : xMd} {pc : Nat} {al : xL} {st : List Value} {h : xH} {T : Option xO}
theorem l_isl {i : Instr} {n : Nat} {e : Int32} {F : Int32 → Option xO} {al1 : Int32 → xL} (d : decode m.2.1 pc = .ok (i, n)) (hc : xcat i = 1) (hp : ∀ y, xloc m.2.2.1 i n al (.int y :: st) = some (al1 y, st)) (w : ∀ y, xle (F y) (xden S m (pc + n) (al1 y) st h)) : xle (xlet e F) (xden S m pc al (.int e :: st) h) := l_loc d hc (hp e) (w e)
theorem l_lsl {i : Instr} {n : Nat} {e : Int64} {F : Int64 → Option xO} {al1 : Int64 → xL} (d : decode m.2.1 pc = .ok (i, n)) (hc : xcat i = 1) (hp : ∀ y, xloc m.2.2.1 i n al (.long y :: st) = some (al1 y, st)) (w : ∀ y, xle (F y) (xden S m (pc + n) (al1 y) st h)) : xle (xlet e F) (xden S m pc al (.long e :: st) h) := l_loc d hc (hp e) (w e)
theorem l_incl {k : Nat} {dd : Int} {v x : Int32} {F : Int32 → Option xO} {al1 : Int32 → xL} (d : decode m.2.1 pc = .ok (.iinc k dd, 3)) (hl : al.lookup k = some (.int x)) (hv : Int32.ofInt dd = v) (hk : Nat.blt k m.2.2.1 = true) (ha : ∀ y, xst1 al k (.int y) = al1 y) (w : ∀ y, xle (F y) (xden S m (pc + 3) (al1 y) st h)) : xle (xlet (x + v) F) (xden S m pc al st h) := l_iinc d hl hv hk rfl (ha _) (w _)
theorem l_lc0 (d : decode m.2.1 pc = .ok (.lconst 0, 1)) (w : xle T (xden S m (pc + 1) al (.long 0 :: st) h)) : xle T (xden S m pc al st h) := l_pure d rfl rfl w
theorem l_lc1 (d : decode m.2.1 pc = .ok (.lconst 1, 1)) (w : xle T (xden S m (pc + 1) al (.long 1 :: st) h)) : xle T (xden S m pc al st h) := l_pure d rfl rfl w
theorem l_divn {x y : Int32} (d : decode m.2.1 pc = .ok (.idiv, 1)) (hy : ¬ y = 0) (k : xle T (xden S m (pc + 1) al (.int (x / y) :: st) h)) : xle T (xden S m pc al (.int y :: .int x :: st) h) := by
  have := l_div d k
  rw [if_neg hy] at this
  exact this
theorem l_remn {x y : Int32} (d : decode m.2.1 pc = .ok (.irem, 1)) (hy : ¬ y = 0) (k : xle T (xden S m (pc + 1) al (.int (x - x / y * y) :: st) h)) : xle T (xden S m pc al (.int y :: .int x :: st) h) := by
  have := l_rem d k
  rw [if_neg hy] at this
  exact this
theorem l_thr {x s jc r : Nat} {E : String} (d : decode m.2.1 pc = .ok (.new x, 3)) (d2 : decode m.2.1 (pc + 3) = .ok (.dup, 1)) (d3 : decode m.2.1 (pc + 4) = .ok (.ldc s, 2)) (d4 : decode m.2.1 (pc + 6) = .ok (.invokespecial jc, 3)) (d5 : decode m.2.1 (pc + 9) = .ok (.athrow, 1)) (hx : xCls m.2.2.2.2.2.1 x = none) (hm : decide (6 ≤ m.2.2.2.2.2.2.1 ∧ 90 ≤ m.2.2.2.2.2.2.2.1 ∧ m.2.2.2.2.1.isEmpty = true) = true) (hE : xThr m.2.2.2.2.2.1 x = some (E, jc)) (hs : xLdc m.2.2.2.2.2.1 s = some (.retAddr r)) (hc : Nat.ble (st.map fun v => v.category).sum 8 = true) : xle (some (.inr E, h, 1, 6)) (xden S m pc al st h) := by
  refine l_throw d hx hm ?_
  simp only [xthr, d, d2, d3, hE, hs, d4, d5]
  rw [if_pos ⟨trivial, Nat.le_of_ble_eq_true hc⟩]
theorem l_thw {x s jc r : Nat} {E : String} (d : decode m.2.1 pc = .ok (.new x, 3)) (d2 : decode m.2.1 (pc + 3) = .ok (.dup, 1)) (d3 : decode m.2.1 (pc + 4) = .ok (.ldc_w s, 3)) (d4 : decode m.2.1 (pc + 7) = .ok (.invokespecial jc, 3)) (d5 : decode m.2.1 (pc + 10) = .ok (.athrow, 1)) (hx : xCls m.2.2.2.2.2.1 x = none) (hm : decide (6 ≤ m.2.2.2.2.2.2.1 ∧ 90 ≤ m.2.2.2.2.2.2.2.1 ∧ m.2.2.2.2.1.isEmpty = true) = true) (hE : xThr m.2.2.2.2.2.1 x = some (E, jc)) (hs : xLdc m.2.2.2.2.2.1 s = some (.retAddr r)) (hc : Nat.ble (st.map fun v => v.category).sum 8 = true) : xle (some (.inr E, h, 1, 6)) (xden S m pc al st h) := by
  refine l_throw d hx hm ?_
  simp only [xthr, d, d2, d3, hE, hs, d4, d5]
  rw [if_pos ⟨trivial, Nat.le_of_ble_eq_true hc⟩]
theorem l_iretn {v : Int32} {t : FieldType} (d : decode m.2.1 pc = .ok (.ireturn, 1)) (ht : m.2.2.2.1 = some t) (hn : narrow t (.int v) = .int v) : xle (some (.inl (some (.int v)), h, 0, 0)) (xden S m pc al [.int v] h) := by
  refine l_end d rfl ?_
  rw [ht]
  show (if narrow t (.int v) = .int v then some (some (Value.int v)) else none) = _
  rw [if_pos hn]
theorem l_iret {v : Int32} {t : FieldType} (d : decode m.2.1 pc = .ok (.ireturn, 1)) (ht : m.2.2.2.1 = some t) : xle (if narrow t (.int v) = .int v then some (.inl (some (.int v)), h, 0, 0) else none) (xden S m pc al [.int v] h) := l_if (fun q => l_iretn d ht q) (fun _ => l_none)
theorem xhE_th (hh : m.2.2.2.2.1 = []) : xhE S m pc al = xth := funext fun e => funext fun h => xhE_none hh e h
end XDEN2

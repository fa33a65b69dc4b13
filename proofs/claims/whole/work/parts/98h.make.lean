/-! A REGION MADE; the regions found -/
section QC
variable {R o : Option xO} {h' h2 : xH} {X : String → xH → Option xO} {c s c2 s2 : Nat} {v : Option Value ⊕ String}
theorem k_V {T : xH → Option xO} (hc : o = some (.inl none, h', c, s)) (K : T h' = some (v, h2, c2, s2)) : xqV o X T = some (v, h2, c2 + c, s2 + s) := by rw [hc]; show xadd c s (T h') = _; rw [K]; rfl
theorem k_C {T : xH → Option xO} (hc : o = some (.inl none, h', c, s)) (K : T h' = some (v, h2, c2, s2)) : xqC o T = some (v, h2, c2 + c, s2 + s) := by rw [hc]; show xadd c s (T h') = _; rw [K]; rfl
theorem k_N {x : Nat} {T0 : xH → Option xO} {T : Nat → xH → Option xO} (hc : o = some (.inl (some (.ref x)), h', c, s)) (K : T x h' = some (v, h2, c2, s2)) : xqN o X T0 T = some (v, h2, c2 + c, s2 + s) := by rw [hc]; show xadd c s (T x h') = _; rw [K]; rfl
theorem k_I {x : Int32} {T : Int32 → xH → Option xO} (hc : o = some (.inl (some (.int x)), h', c, s)) (K : T x h' = some (v, h2, c2, s2)) : xqI o X T = some (v, h2, c2 + c, s2 + s) := by rw [hc]; show xadd c s (T x h') = _; rw [K]; rfl
end QC
theorem set_mid {α : Type} (g : List α) (a b : α) (t : List α) : (g ++ a :: t).set g.length b = g ++ b :: t := by
  induction g with
  | nil => rfl
  | cons x g ih => exact congrArg (x :: ·) ih
theorem get_mid {α : Type} (g : List α) (a : α) (t : List α) : (g ++ a :: t)[g.length]? = some a := by
  induction g with
  | nil => rfl
  | cons x g ih => exact ih
/-- a field of a cell in the midst of a list written -/
theorem p_mid {g t : xH} {a ci j k : Nat} {fs : List Value} {v : Value} {ini : Bool} (ha : a = g.length) (hj : j < fs.length) (hp : xPok ini k ci j v = true) : xP ini k (g ++ .inr (ci, fs) :: t) a ci j v = some (g ++ .inr (ci, fs.set j v) :: t) := by
  subst ha
  unfold xP
  rw [get_mid]
  (try dsimp only)
  rw [if_pos ⟨rfl, hj, hp⟩, set_mid]
/-- a part made: two cells -/
theorem part_init (S : xS) (g : xH) {x : Int32} (hx : x = 0 ∨ x = 1) : xM S mX5_init [.ref g.length, .int x] (g ++ [.inr (5, xDef 5)]) = some (.inl none, g ++ [.inr (5, [.int x, .ref (g.length + 1), .int 0, .int 0, .int 0, .int 0, .int 0, .int 0, .null, .int 0, .int 0]), .inl (1, 64, .inr (.inl (fun _ => 0)))], 1, 64) := by
  refine w_X5_init S _ _ _ _ ?_
  have l1 : (g ++ [(.inr (5, xDef 5) : xE)]).length = g.length + 1 := List.length_append
  refine c_ift (by rw [l1]; omega) ?_
  unfold xNa
  refine c_ift ⟨by decide, by decide⟩ ?_
  rw [l1, List.append_assoc]
  show xadd 1 64 ((xP true 5 (g ++ .inr (5, xDef 5) :: [.inl (1, 64, .inr (.inl (fun _ => 0)))]) g.length 5 1 (.ref (g.length + 1))).bind _) = _
  rw [p_mid rfl (by decide) (xPok_ref (by decide) (by rfl)), Option.bind_some, p_mid rfl (by rw [List.length_set]; decide) (xPok_bool (by decide) (by rfl) hx), Option.bind_some]
  rfl
/-- the memory with a region's cells new -/
def zR (m : mM) (n : Nat) : mM := (fun a j => if 147 + 5 * n ≤ a then 0 else m.1 a j, fun a j => if 147 + 5 * n ≤ a then 0 else m.2.1 a j, fun a j => if 147 + 5 * n ≤ a then none else m.2.2 a j)
theorem eK_reg (n i : Nat) (hi : i < 5) : eK (147 + 5 * n + i) = [(0, 7), (0, 5), (2, 64), (0, 5), (2, 64)].getD i (0, 0) := by
  unfold eK
  rw [if_neg (by omega), show (147 + 5 * n + i - 147) % 5 = i by omega]
  rcases (show i = 0 ∨ i = 1 ∨ i = 2 ∨ i = 3 ∨ i = 4 by omega) with rfl | rfl | rfl | rfl | rfl <;> rfl
section MK
variable {S : xS} {W H n : Nat} {m : mM}
theorem zR_old {a : Nat} (h : a < 147 + 5 * n) : (zR m n).1 a = m.1 a ∧ (zR m n).2.1 a = m.2.1 a ∧ (zR m n).2.2 a = m.2.2 a := ⟨funext fun j => if_neg (by omega), funext fun j => if_neg (by omega), funext fun j => if_neg (by omega)⟩
theorem zR_i {a : Nat} (h : 147 + 5 * n ≤ a) (j : Nat) : (zR m n).1 a j = 0 := if_pos h
theorem zR_l {a : Nat} (h : 147 + 5 * n ≤ a) (j : Nat) : (zR m n).2.1 a j = 0 := if_pos h
theorem zR_r {a : Nat} (h : 147 + 5 * n ≤ a) (j : Nat) : (zR m n).2.2 a j = none := if_pos h
theorem eX_reg : eX W H (zR m n) (147 + 5 * n) = .inr (7, [.ref (147 + 5 * n + 1), .ref (147 + 5 * n + 3), .int 0, .int 0, .int 0, .int 0, .int 0, .int 0, .long 0]) := by
  have hk : eK (147 + 5 * n) = (0, 7) := eK_reg n 0 (by decide)
  rw [eX_o hk]
  show (Sum.inr (7, [eFV W H (zR m n) (147 + 5 * n) 7 0, eFV W H (zR m n) (147 + 5 * n) 7 1, eFV W H (zR m n) (147 + 5 * n) 7 2, eFV W H (zR m n) (147 + 5 * n) 7 3, eFV W H (zR m n) (147 + 5 * n) 7 4, eFV W H (zR m n) (147 + 5 * n) 7 5, eFV W H (zR m n) (147 + 5 * n) 7 6, eFV W H (zR m n) (147 + 5 * n) 7 7, eFV W H (zR m n) (147 + 5 * n) 7 8]) : xE) = _
  rw [eFV_7 (j := 0) (o := 1) rfl, eFV_7 (j := 1) (o := 3) rfl, eFV_0 (j := 2) rfl, eFV_0 (j := 3) rfl, eFV_0 (j := 4) rfl, eFV_0 (j := 5) rfl, eFV_0 (j := 6) rfl, eFV_0 (j := 7) rfl, eFV_1 (j := 8) rfl]
  simp only [zR_i (Nat.le_refl _), zR_l (Nat.le_refl _)]
theorem eX_prt {i : Nat} (hi : i = 1 ∨ i = 3) : eX W H (zR m n) (147 + 5 * n + i) = .inr (5, [.int (if i = 3 then 1 else 0), .ref (147 + 5 * n + i + 1), .int 0, .int 0, .int 0, .int 0, .int 0, .int 0, .null, .int 0, .int 0]) := by
  have hk : eK (147 + 5 * n + i) = (0, 5) := by rcases hi with rfl | rfl <;> exact eK_reg n _ (by decide)
  have ge : 147 + 5 * n ≤ 147 + 5 * n + i := Nat.le_add_right _ _
  rw [eX_o hk]
  generalize ea : 147 + 5 * n + i = a at *
  show (Sum.inr (5, [eFV W H (zR m n) a 5 0, eFV W H (zR m n) a 5 1, eFV W H (zR m n) a 5 2, eFV W H (zR m n) a 5 3, eFV W H (zR m n) a 5 4, eFV W H (zR m n) a 5 5, eFV W H (zR m n) a 5 6, eFV W H (zR m n) a 5 7, eFV W H (zR m n) a 5 8, eFV W H (zR m n) a 5 9, eFV W H (zR m n) a 5 10]) : xE) = _
  rw [eFV_8 (j := 0) rfl, eFV_7 (j := 1) (o := 1) rfl, eFV_0 (j := 2) rfl, eFV_0 (j := 3) rfl, eFV_0 (j := 4) rfl, eFV_0 (j := 5) rfl, eFV_0 (j := 6) rfl, eFV_0 (j := 7) rfl, eFV_2 (j := 8) rfl, eFV_0 (j := 9) rfl, eFV_0 (j := 10) rfl]
  simp only [zR_i ge, zR_r ge]
  have e : ((a - 147) % 5 = 3 ∧ 147 ≤ a) ↔ i = 3 := by omega
  by_cases c : i = 3
  · rw [if_pos (e.mpr c), if_pos c]; rfl
  · rw [if_neg (fun w => c (e.mp w)), if_neg c]; rfl
theorem eX_shp {i : Nat} (hi : i = 2 ∨ i = 4) : eX W H (zR m n) (147 + 5 * n + i) = .inl (1, 64, .inr (.inl (fun _ => 0))) := by
  have hk : eK (147 + 5 * n + i) = (2, 64) := by rcases hi with rfl | rfl <;> exact eK_reg n _ (by decide)
  have ge : 147 + 5 * n ≤ 147 + 5 * n + i := Nat.le_add_right _ _
  rw [eX_a (k := 1) hk]
  have el : eL H (147 + 5 * n + i) = 64 := by unfold eL; rw [hk]; rfl
  have ea : (zR m n).2.1 (147 + 5 * n + i) = fun _ => 0 := funext fun j => zR_l ge j
  rw [el, eA_1, ea]
/-- the heap with a region's five cells more -/
theorem E_reg : E W H (n + 1) (zR m n) = E W H n m ++ [.inr (7, [.ref (147 + 5 * n + 1), .ref (147 + 5 * n + 3), .int 0, .int 0, .int 0, .int 0, .int 0, .int 0, .long 0]), .inr (5, [.int 0, .ref (147 + 5 * n + 1 + 1), .int 0, .int 0, .int 0, .int 0, .int 0, .int 0, .null, .int 0, .int 0]), .inl (1, 64, .inr (.inl (fun _ => 0))), .inr (5, [.int 1, .ref (147 + 5 * n + 3 + 1), .int 0, .int 0, .int 0, .int 0, .int 0, .int 0, .null, .int 0, .int 0]), .inl (1, 64, .inr (.inl (fun _ => 0)))] := by
  refine (E_ext (by rw [List.length_append, E_len]; show 147 + 5 * n + 5 = _; omega) fun i hi => ?_).symm
  by_cases c : i < 147 + 5 * n
  · obtain ⟨z1, z2, z3⟩ := zR_old (m := m) c
    rw [List.getElem?_append_left (by rw [E_len]; exact c), E_at c, eX_cong z1.symm z2.symm z3.symm]
  · rw [List.getElem?_append_right (by rw [E_len]; omega), E_len]
    rcases (show i = 147 + 5 * n ∨ i = 147 + 5 * n + 1 ∨ i = 147 + 5 * n + 2 ∨ i = 147 + 5 * n + 3 ∨ i = 147 + 5 * n + 4 by omega) with rfl | rfl | rfl | rfl | rfl
    · rw [eX_reg, Nat.sub_self]; rfl
    · rw [eX_prt (Or.inl rfl), show 147 + 5 * n + 1 - (147 + 5 * n) = 1 by omega, if_neg (by decide)]; rfl
    · rw [eX_shp (Or.inl rfl), show 147 + 5 * n + 2 - (147 + 5 * n) = 2 by omega]; rfl
    · rw [eX_prt (Or.inr rfl), show 147 + 5 * n + 3 - (147 + 5 * n) = 3 by omega, if_pos rfl]; rfl
    · rw [eX_shp (Or.inr rfl), show 147 + 5 * n + 4 - (147 + 5 * n) = 4 by omega]; rfl
theorem region_init : xM S mX7_init [.ref (147 + 5 * n)] (E W H n m ++ [.inr (7, xDef 7)]) = some (.inl none, E W H (n + 1) (zR m n), 4, 150) := by
  have l0 : (E W H n m).length = 147 + 5 * n := E_len
  rw [E_reg]
  generalize E W H n m = g at *
  rw [← l0]
  refine w_X7_init S _ _ _ ?_
  have l1 : (g ++ [(.inr (7, xDef 7) : xE)]).length = g.length + 1 := List.length_append
  refine c_ift (by rw [l1]; omega) ?_
  have p1 := part_init S (g ++ [(.inr (7, xDef 7) : xE)]) (x := 0) (Or.inl rfl)
  unfold xNo
  rw [l1] at p1 ⊢
  rw [show (xDef 5).length = 11 from rfl]
  show xadd 1 11 (xqC _ _) = _
  rw [p1]
  show xadd 1 11 (xadd 1 64 ((xP true 7 _ g.length 7 0 (.ref (g.length + 1))).bind _)) = _
  rw [List.append_assoc]
  show xadd 1 11 (xadd 1 64 ((xP true 7 (g ++ .inr (7, xDef 7) :: [.inr (5, [.int 0, .ref (g.length + 1 + 1), .int 0, .int 0, .int 0, .int 0, .int 0, .int 0, .null, .int 0, .int 0]), .inl (1, 64, .inr (.inl (fun _ => 0)))]) g.length 7 0 (.ref (g.length + 1))).bind _)) = _
  rw [p_mid rfl (by decide) (xPok_ref (by decide) (by rfl)), Option.bind_some]
  obtain ⟨g3, e3⟩ : ∃ g3 : xH, g3 = g ++ .inr (7, (xDef 7).set 0 (.ref (g.length + 1))) :: [.inr (5, [.int 0, .ref (g.length + 1 + 1), .int 0, .int 0, .int 0, .int 0, .int 0, .int 0, .null, .int 0, .int 0]), .inl (1, 64, .inr (.inl (fun _ => 0)))] := ⟨_, rfl⟩
  rw [← e3]
  have l3 : g3.length = g.length + 3 := by rw [e3, List.length_append]; rfl
  have p2 := part_init S g3 (x := 1) (Or.inr rfl)
  rw [l3] at p2 ⊢
  show xadd 1 11 (xadd 1 64 (xadd 1 11 (xqC _ _))) = _
  rw [p2]
  show xadd 1 11 (xadd 1 64 (xadd 1 11 (xadd 1 64 ((xP true 7 _ g.length 7 1 (.ref (g.length + 3))).bind _)))) = _
  rw [e3, List.append_assoc]
  show xadd 1 11 (xadd 1 64 (xadd 1 11 (xadd 1 64 ((xP true 7 (g ++ .inr (7, (xDef 7).set 0 (.ref (g.length + 1))) :: [.inr (5, [.int 0, .ref (g.length + 1 + 1), .int 0, .int 0, .int 0, .int 0, .int 0, .int 0, .null, .int 0, .int 0]), .inl (1, 64, .inr (.inl (fun _ => 0))), .inr (5, [.int 1, .ref (g.length + 3 + 1), .int 0, .int 0, .int 0, .int 0, .int 0, .int 0, .null, .int 0, .int 0]), .inl (1, 64, .inr (.inl (fun _ => 0)))]) g.length 7 1 (.ref (g.length + 3))).bind _)))) = _
  rw [p_mid rfl (by rw [List.length_set]; decide) (xPok_ref (by decide) (by rfl)), Option.bind_some]
  rfl
/-- which regions were made -/
def fdI (m : mM) (n : Nat) : Prop := n ≤ 256 ∧ (∀ r, r < n → m.2.2 69 r = some (147 + 5 * r)) ∧ ∀ r, n ≤ r → r < 256 → m.2.2 69 r = none
theorem find_old (X : fdI m n) {r : Nat} (hr : r < n) : xM S mX1_find [.ref 64, .int (nI r)] (E W H n m) = some (.inl (some (.ref (147 + 5 * r))), E W H n m, 0, 0) := by
  obtain ⟨x1, x2, x3⟩ := X
  have z69 : 256 = eL H 69 := rfl
  have er : eR m 69 r = some (147 + 5 * r) := x2 r hr
  refine w_X1_find S _ _ _ _ ?_
  refine c_iff (nI_pos (by omega)) ?_
  refine c_gr (by omega) (by rfl) (by rfl) (by rfl) ?_
  refine c_rz (by omega) (by rfl) z69 ?_
  refine c_ift ((nI_ltI (b := 256) (by omega) (by omega)).mpr (by omega)) ?_
  refine c_gr (by omega) (by rfl) (by rfl) (by rfl) ?_
  refine c_rn (i := r) (by omega) (by rfl) (by decide) (by rfl) (by first | omega | ((conv => rhs; whnf); first | omega | (show _ < OfNat.ofNat (α := Nat) _; omega))) (by first | omega | ((conv => lhs; whnf); first | omega | (show OfNat.ofNat (α := Nat) _ < _; omega))) ?_
  refine c_on1 er ?_
  refine c_gr (by omega) (by rfl) (by rfl) (by rfl) ?_
  refine c_rr (i := r) (by omega) (by rfl) (by decide) (by rfl) (by first | omega | ((conv => rhs; whnf); first | omega | (show _ < OfNat.ofNat (α := Nat) _; omega))) (by first | omega | ((conv => lhs; whnf); first | omega | (show OfNat.ofNat (α := Nat) _ < _; omega))) er ?_
  rfl
theorem find_neg : xM S mX1_find [.ref 64, .int (-1)] (E W H n m) = some (.inl (some .null), E W H n m, 0, 0) := by
  refine w_X1_find S _ _ _ _ ?_
  refine c_ift (by decide) ?_
  rfl
theorem find_new (X : fdI m n) (hn : n < 256) : xM S mX1_find [.ref 64, .int (nI n)] (E W H n m) = some (.inl (some (.ref (147 + 5 * n))), E W H (n + 1) (sR (zR m n) 69 n (some (147 + 5 * n))), 5, 159) := by
  obtain ⟨x1, x2, x3⟩ := X
  have z69 : 256 = eL H 69 := rfl
  have er : eR m 69 n = none := x3 n (Nat.le_refl n) hn
  have hk : eK (147 + 5 * n) = (0, 7) := eK_reg n 0 (by decide)
  refine w_X1_find S _ _ _ _ ?_
  refine c_iff (nI_pos (by omega)) ?_
  refine c_gr (by omega) (by rfl) (by rfl) (by rfl) ?_
  refine c_rz (by omega) (by rfl) z69 ?_
  refine c_ift ((nI_ltI (b := 256) (by omega) (by omega)).mpr (by omega)) ?_
  refine c_gr (by omega) (by rfl) (by rfl) (by rfl) ?_
  refine c_rn (i := n) (by omega) (by rfl) (by decide) (by rfl) (by first | omega | ((conv => rhs; whnf); first | omega | (show _ < OfNat.ofNat (α := Nat) _; omega))) (by first | omega | ((conv => lhs; whnf); first | omega | (show OfNat.ofNat (α := Nat) _ < _; omega))) ?_
  refine c_on0 er ?_
  refine c_gr (by omega) (by rfl) (by rfl) (by rfl) ?_
  unfold xNo
  rw [E_len]
  have K : xqC (xM S mX7_init [.ref (147 + 5 * n)] (E W H n m ++ [.inr (7, xDef 7)])) (fun h8 => (xWr h8 (64 + 5) (nI n) (147 + 5 * n)).bind fun h9 => (xGr h9 64 1 15).bind fun v10 => (xRr h9 v10 (nI n)).bind fun v11 => some (.inl (some (.ref v11)), h9, 0, 0)) = some (.inl (some (.ref (147 + 5 * n))), E W H (n + 1) (sR (zR m n) 69 n (some (147 + 5 * n))), 0 + 4, 0 + 150) := by
    refine k_C region_init ?_
    refine c_wr (i := n) (ci := 7) (by omega) (by rfl) (by decide) (by rfl) (by rfl) (by first | omega | ((conv => rhs; whnf); first | omega | (show _ < OfNat.ofNat (α := Nat) _; omega))) (by first | omega | ((conv => lhs; whnf); first | omega | (show OfNat.ofNat (α := Nat) _ < _; omega))) (by omega) hk (by rfl) ?_
    refine c_gr (by omega) (by rfl) (by rfl) (by rfl) ?_
    refine c_rr (i := n) (r := 147 + 5 * n) (by omega) (by rfl) (by decide) (by rfl) (by first | omega | ((conv => rhs; whnf); first | omega | (show _ < OfNat.ofNat (α := Nat) _; omega))) (by first | omega | ((conv => lhs; whnf); first | omega | (show OfNat.ofNat (α := Nat) _ < _; omega))) (by show (sR (zR m n) 69 n (some (147 + 5 * n))).2.2 69 n = _; exact sR_eq ⟨rfl, rfl⟩) ?_
    rfl
  show xadd 1 9 (xqC _ _) = _
  rw [K]
  rfl
end MK

/-! STAMPS: the class compares shapes -/
/-- a part's shape in the memory -/
def pshM (m : mM) (p w h c : Nat) (R : Nat → Int64) : Prop := m.1 p 4 = nI w ∧ m.1 p 5 = nI h ∧ m.1 p 6 = nI c ∧ ∀ k, k < 64 → m.2.1 (p + 1) k = R k
theorem ptX_psh {m : mM} {p : Nat} {F : Nat → Int64} (X : ptX m p F) (ne : ctP F ≠ 0) : pshM m p (wd F) (ht F) (ctP F) (sh F) ∧ ∃ l t r b, isBox F l t r b ∧ r < 64 ∧ b < 64 ∧ m.1 p 2 = nI l ∧ m.1 p 3 = nI t := by
  obtain ⟨h1, h2⟩ := X
  obtain ⟨l, t, r, b, g1, g2, g3, g4, g5, g6, g7, g8⟩ := h2 ne
  exact ⟨⟨by rw [wd_b g1]; exact g6, by rw [ht_b g1]; exact g7, h1, fun k hk => by rw [sh_b g1 hk]; exact g8 k hk⟩, l, t, r, b, g1, g2, g3, g4, g5⟩
/-- the class's stamps -/
def cstM (m : mM) (cnt : Nat) (St : stT) : Prop := m.1 48 1 = nI cnt ∧ cnt ≤ 7 ∧ ∃ kc : Nat → Nat, (∀ i, i < 7 → kc i < 7 ∧ m.2.2 49 i = some (50 + 2 * kc i)) ∧ (∀ i j, i < j → j < 7 → kc i ≠ kc j) ∧ ∀ i, i < cnt → stOk St i ∧ pshM m (50 + 2 * kc i) (St i).1 (St i).2.1 (ctP (St i).2.2) (St i).2.2
theorem ptA_st (n : Nat) {k : Nat} (h : k < 7) : ptA (50 + 2 * k) n := by
  rcases (show k = 0 ∨ k = 1 ∨ k = 2 ∨ k = 3 ∨ k = 4 ∨ k = 5 ∨ k = 6 by omega) with rfl | rfl | rfl | rfl | rfl | rfl | rfl <;> exact ⟨by rfl, by rfl, by omega⟩
section HS
variable {S : xS} {W H n : Nat} {m : mM} {p q : Nat}
theorem hasShapeOf_ne (I : ptA p n) (J : ptA q n) (ne : m.1 p 6 ≠ m.1 q 6) : xM S mX5_hasShapeOf [.ref p, .ref q] (E W H n m) = some (.inl (some (.int 0)), E W H n m, 0, 0) := by
  obtain ⟨i1, i2, i3⟩ := I
  obtain ⟨j1, j2, j3⟩ := J
  refine w_X5_hasShapeOf S _ _ _ _ ?_
  refine c_gi (by omega) i1 (by rfl) (by rfl) ?_
  refine c_gi (by omega) j1 (by rfl) (by rfl) ?_
  by_cases c1 : m.1 p 4 = m.1 q 4
  · refine c_iff (fun w => w c1) ?_
    refine c_gi (by omega) i1 (by rfl) (by rfl) ?_
    refine c_gi (by omega) j1 (by rfl) (by rfl) ?_
    by_cases c2 : m.1 p 5 = m.1 q 5
    · refine c_iff (fun w => w c2) ?_
      refine c_gi (by omega) i1 (by rfl) (by rfl) ?_
      refine c_gi (by omega) j1 (by rfl) (by rfl) ?_
      exact c_iff ne rfl
    · exact c_ift c2 rfl
  · exact c_ift c1 rfl
theorem hasShapeOf_s (I : ptA p n) (J : ptA q n) {w h c w' h' c' : Nat} {R R' : Nat → Int64} (X : pshM m p w h c R) (Y : pshM m q w' h' c' R') (b1 : w ≤ 64) (b2 : w' ≤ 64) (b3 : h ≤ 64) (b4 : h' ≤ 64) (b5 : c ≤ 4096) (b6 : c' ≤ 4096) : xM S mX5_hasShapeOf [.ref p, .ref q] (E W H n m) = some (.inl (some (.int (bz (pB (w = w' ∧ h = h' ∧ c = c' ∧ ∀ k, k < h → R k = R' k))))), E W H n m, 0, 0) := by
  have I' := I
  have J' := J
  obtain ⟨i1, i2, i3⟩ := I
  obtain ⟨j1, j2, j3⟩ := J
  obtain ⟨x1, x2, x3, x4⟩ := X
  obtain ⟨y1, y2, y3, y4⟩ := Y
  refine w_X5_hasShapeOf S _ _ _ _ ?_
  refine c_gi (by omega) i1 (by rfl) (by rfl) ?_
  refine c_gi (by omega) j1 (by rfl) (by rfl) ?_
  rw [x1, y1]
  by_cases c1 : w = w'
  · refine c_iff (fun w => w (by rw [c1])) ?_
    refine c_gi (by omega) i1 (by rfl) (by rfl) ?_
    refine c_gi (by omega) j1 (by rfl) (by rfl) ?_
    rw [x2, y2]
    by_cases c2 : h = h'
    · refine c_iff (fun w => w (by rw [c2])) ?_
      refine c_gi (by omega) i1 (by rfl) (by rfl) ?_
      refine c_gi (by omega) j1 (by rfl) (by rfl) ?_
      rw [x3, y3]
      by_cases c3 : c = c'
      · refine c_ift (by rw [c3]) ?_
        have L := x_sg (σ := Unit) (τ := Bool) (D := fun k _ => xden S mX5_hasShapeOf 37 [(0, .ref p), (1, .ref q), (2, .int (nI k))] [] (E W H n m)) (Inv := fun k _ => ∀ j, j < k → R j = R' j) (F := fun b => some (.inl (some (.int (bz b))), E W H n m, 0, 0)) (Post := fun b => b = pB (w = w' ∧ h = h' ∧ c = c' ∧ ∀ k, k < h → R k = R' k)) h (fun k hk s hs => ?_) (fun s hs => ?_) () (fun j hj => absurd hj (Nat.not_lt_zero j))
        · obtain ⟨b, g1, g2⟩ := L
          rw [← g1]
          exact g2 _ rfl
        · have r1 := shapeRow_s (S := S) (W := W) (H := H) (m := m) I' (k := k) (by omega)
          have r2 := shapeRow_s (S := S) (W := W) (H := H) (m := m) J' (k := k) (by omega)
          rw [x4 k (by omega)] at r1
          rw [y4 k (by omega)] at r2
          by_cases e : R k = R' k
          · left
            refine ⟨(), fun j hj => ?_, fun oo ho => w_X5_hasShapeOf_37 S _ _ _ _ _ ?_⟩
            · by_cases ej : j = k
              · rw [ej]; exact e
              · exact hs j (by omega)
            · refine c_gi (by omega) i1 (by rfl) (by rfl) ?_
              rw [x2]
              refine c_iff (fun w => by have := (nI_leI (by omega) (by omega)).mp w; omega) ?_
              refine c_ob (by omega) i1 ?_
              refine c_qJ r1 ?_
              refine c_ob (by omega) j1 ?_
              refine c_qJ r2 ?_
              refine c_ift ((lg_cmp_0 _ _).mpr e) ?_
              refine c_let ?_
              rw [nI_suc]
              exact ho
          · right
            refine ⟨false, (pB_no.mpr (fun w => e (w.2.2.2 k hk))).symm, fun oo ho => w_X5_hasShapeOf_37 S _ _ _ _ _ ?_⟩
            refine c_gi (by omega) i1 (by rfl) (by rfl) ?_
            rw [x2]
            refine c_iff (fun w => by have := (nI_leI (by omega) (by omega)).mp w; omega) ?_
            refine c_ob (by omega) i1 ?_
            refine c_qJ r1 ?_
            refine c_ob (by omega) j1 ?_
            refine c_qJ r2 ?_
            exact c_iff (fun w => e ((lg_cmp_0 _ _).mp w)) ho
        · refine ⟨true, (pB_iff.mpr ⟨c1, c2, c3, hs⟩).symm, fun oo ho => w_X5_hasShapeOf_37 S _ _ _ _ _ ?_⟩
          refine c_gi (by omega) i1 (by rfl) (by rfl) ?_
          rw [x2]
          exact c_ift ((nI_leI (by omega) (by omega)).mpr (Nat.le_refl _)) ho
      · rw [pB_no.mpr (fun w => c3 w.2.2.1)]
        exact c_iff (fun w => c3 ((nI_eq (by omega) (by omega)).mp w)) rfl
    · rw [pB_no.mpr (fun w => c2 w.2.1)]
      exact c_ift (fun w => c2 ((nI_eq (by omega) (by omega)).mp w)) rfl
  · rw [pB_no.mpr (fun w => c1 w.1)]
    exact c_ift (fun w => c1 ((nI_eq (by omega) (by omega)).mp w)) rfl
theorem ctP_rows {R R' : Nat → Int64} (h : ∀ k, k < 64 → R k = R' k) : ctP R = ctP R' := fb_ct_cong (fun k hk => by unfold px; rw [h _ (by omega)])
theorem stampNo_s {cnt : Nat} {St : stT} (T : cstM m cnt St) (J : ptA q n) {F : Nat → Int64} (X : ptX m q F) (ne : ctP F ≠ 0) : xM S mX10_numberOf [.ref 48, .ref q] (E W H n m) = some (.inl (some (.int (zI (stNo St cnt F)))), E W H n m, 0, 0) := by
  obtain ⟨Y, l, t, r, b, g1, g2, g3, _, _⟩ := ptX_psh X ne
  obtain ⟨a1, a2, a3, a4, a5, a6⟩ := box_wh g1 g2 g3
  obtain ⟨t1, c7, kc, t2, t3, t4⟩ := T
  have L := x_sg (σ := Unit) (τ := Unit) (D := fun i _ => xden S mX10_numberOf 2 [(0, .ref 48), (1, .ref q), (2, .int (nI i))] [] (E W H n m)) (Inv := fun i _ => ∀ k, k < i → ¬ stE St k F)
    (F := fun _ => some (.inl (some (.int (zI (stNo St cnt F)))), E W H n m, 0, 0)) (Post := fun _ => True) cnt (fun i hi s hs => ?_) (fun s hs => ⟨(), trivial, fun oo ho => w_X10_numberOf_2 S _ _ _ _ _ ?_⟩) () (fun k hk => absurd hk (Nat.not_lt_zero k))
  · obtain ⟨_, _, g⟩ := L
    exact w_X10_numberOf S _ _ _ _ (g _ rfl)
  · obtain ⟨k7, er⟩ := t2 i (by omega)
    obtain ⟨⟨k1, k2, k3⟩, ps⟩ := t4 i hi
    have I := ptA_st n k7
    have hs' := hasShapeOf_s (S := S) (W := W) (H := H) I J ps Y k1 a2 k2 a4 (ctP_le _) (ctP_le _)
    have eq : ((St i).1 = wd F ∧ (St i).2.1 = ht F ∧ ctP (St i).2.2 = ctP F ∧ ∀ k, k < (St i).2.1 → (St i).2.2 k = sh F k) ↔ stE St i F := by
      refine ⟨fun w => ⟨w.1, w.2.1, fun k hk => ?_⟩, fun w => ⟨w.1, w.2.1, ?_, fun k hk => w.2.2 k (by omega)⟩⟩
      · by_cases c : k < (St i).2.1
        · exact w.2.2.2 k c
        · refine lb_ext fun x hx => ?_
          cases e1 : lb ((St i).2.2 k) x
          · cases e2 : lb (sh F k) x
            · rfl
            · have := sh_in g1 g2 g3 e2
              omega
          · have := k3 _ _ e1
            omega
      · rw [ctP_rows w.2.2, ctP_sh g1 g2 g3]
    rw [pB_cong eq] at hs'
    have start : ∀ {oo : xO}, (if bz (pB (stE St i F)) = 0 then (xlet (nI i + (1 : Int32)) fun v7 => (xden S mX10_numberOf 2 [(0, .ref 48), (1, .ref q), (2, .int v7)] [] (E W H n m))) else (some (.inl (some (.int (nI i))), E W H n m, 0, 0))) = some oo → xden S mX10_numberOf 2 [(0, .ref 48), (1, .ref q), (2, .int (nI i))] [] (E W H n m) = some oo := fun {oo} ho => by
      refine w_X10_numberOf_2 S _ _ _ _ _ ?_
      refine c_gi (by omega) (by rfl) (by rfl) (by rfl) ?_
      rw [t1]
      refine c_iff (fun w => by have := (nI_leI (by omega) (by omega)).mp w; omega) ?_
      refine c_gr (by omega) (by rfl) (by rfl) (by rfl) ?_
      refine c_rr (i := i) (by omega) (by rfl) (by decide) (by rfl) (by first | omega | ((conv => rhs; whnf); first | omega | (show _ < OfNat.ofNat (α := Nat) _; omega))) (by first | omega | ((conv => lhs; whnf); first | omega | (show OfNat.ofNat (α := Nat) _ < _; omega))) er ?_
      refine c_ob (by have := I.2.2; omega) I.1 ?_
      exact c_qI hs' ho
    by_cases y : stE St i F
    · right
      refine ⟨(), trivial, fun oo ho => start ?_⟩
      rw [pB_iff.mpr y]
      rw [stNo_at hi hs y, zI_n (by omega)] at ho
      exact c_iff (by decide) ho
    · left
      refine ⟨(), fun k hk => ?_, fun oo ho => start ?_⟩
      · by_cases ek : k = i
        · rw [ek]; exact y
        · exact hs k (by omega)
      · rw [pB_no.mpr y]
        refine c_ift rfl ?_
        refine c_let ?_
        rw [nI_suc]
        exact ho
  · rw [stNo_no hs] at ho
    refine c_gi (by omega) (by rfl) (by rfl) (by rfl) ?_
    rw [t1]
    refine c_ift ((nI_leI (by omega) (by omega)).mpr (Nat.le_refl _)) ?_
    exact ho
end HS

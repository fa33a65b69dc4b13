/-! REGISTRATION: the model's search -/
theorem m_new {c : Int → Int → Nat} {G G' : Int → Int → Prop} {u v a b : Int} (h : bs (key c) G a b) (e : ∀ x y, G' x y ↔ G x y ∨ x = u ∧ y = v) (hb : ∀ x y, G x y → (-31 ≤ x ∧ x ≤ 31 ∧ -31 ≤ y ∧ y ≤ 31) ∧ (x.natAbs + y.natAbs < u.natAbs + v.natAbs ∨ x.natAbs + y.natAbs = u.natAbs + v.natAbs ∧ (y < v ∨ y = v ∧ x < u))) (hu : -31 ≤ u ∧ u ≤ 31 ∧ -31 ≤ v ∧ v ≤ 31) : (c u v < c a b → bs (key c) G' u v) ∧ (c a b ≤ c u v → bs (key c) G' a b) := by
  obtain ⟨g1, g2⟩ := hb a b h.1
  have kl := key_lt (c := c) hu g1
  have kn := bs_new e h
  refine ⟨fun d => kn.1 (kl.mpr (Or.inl d)), fun d => kn.2 ?_⟩
  rcases Int.lt_or_le (key c u v) (key c a b) with q | q
  · rcases kl.mp q with q | ⟨q1, q2 | ⟨q3, q4⟩⟩ <;> omega
  · exact q
def boM (m : mM) (f : Nat) (c : Int → Int → Nat) (G : Int → Int → Prop) (x : Int32) : Prop := ((∀ x y, ¬ G x y) ∧ x = -1) ∨ ∃ a b, bs (key c) G a b ∧ m.1 90 f = zI a ∧ m.1 90 (f + 1) = zI b ∧ x = nI (c a b)
theorem boM_cong {m : mM} {f : Nat} {c : Int → Int → Nat} {G G' : Int → Int → Prop} {x : Int32} (e : ∀ x y, G x y ↔ G' x y) (h : boM m f c G x) : boM m f c G' x := by
  rcases h with ⟨h1, h2⟩ | ⟨a, b, h1, h2⟩
  · exact Or.inl ⟨fun x y q => h1 x y ((e x y).mpr q), h2⟩
  · exact Or.inr ⟨a, b, bs_cong e h1, h2⟩
theorem m_offer {m : mM} {f : Nat} {c : Int → Int → Nat} {G G' : Int → Int → Prop} {z : Int32} {u v : Int} (B : boM m f c G z) (e : ∀ x y, G' x y ↔ G x y ∨ x = u ∧ y = v) (hb : ∀ x y, G x y → (-31 ≤ x ∧ x ≤ 31 ∧ -31 ≤ y ∧ y ≤ 31) ∧ (x.natAbs + y.natAbs < u.natAbs + v.natAbs ∨ x.natAbs + y.natAbs = u.natAbs + v.natAbs ∧ (y < v ∨ y = v ∧ x < u))) (hu : -31 ≤ u ∧ u ≤ 31 ∧ -31 ≤ v ∧ v ≤ 31) (hc : ∀ x y, c x y ≤ 65536) : (boM m f c G' z ∧ ¬ z < 0 ∧ z ≤ nI (c u v)) ∨ (boM (sI (sI m 90 f (zI u)) 90 (f + 1) (zI v)) f c G' (nI (c u v)) ∧ (z < 0 ∨ (¬ z < 0 ∧ ¬ z ≤ nI (c u v)))) := by
  have cu := hc u v
  have N : bs (key c) G' u v → boM (sI (sI m 90 f (zI u)) 90 (f + 1) (zI v)) f c G' (nI (c u v)) := fun h => Or.inr ⟨u, v, h, by rw [sI_ne (by omega), sI_eq ⟨rfl, rfl⟩], sI_eq ⟨rfl, rfl⟩, rfl⟩
  rcases B with ⟨h1, h2⟩ | ⟨a, b, h1, h2, h3, h4⟩
  · right
    exact ⟨N (bs_first e h1), Or.inl (by rw [h2]; decide)⟩
  · have ca := hc a b
    have mn := m_new h1 e hb hu
    have nz : ¬ z < 0 := by rw [h4]; exact nI_pos (by omega)
    by_cases d : c u v < c a b
    · right
      refine ⟨N (mn.1 d), Or.inr ⟨nz, fun q => ?_⟩⟩
      rw [h4] at q
      have := (nI_leI (by omega) (by omega)).mp q
      omega
    · left
      refine ⟨Or.inr ⟨a, b, mn.2 (by omega), h2, h3, h4⟩, nz, ?_⟩
      rw [h4]
      exact (nI_leI (by omega) (by omega)).mpr (by omega)
def msP (f a j : Nat) : Bool := a == 90 && (j == f || j == f + 1)
def scP (a j : Nat) : Bool := a == 119 || (a == 120 || (a == 90 && (j == 48 || j == 49)))
section MS
variable {S : xS} {W H n : Nat} {m : mM} {O T C : Nat → Int64}
theorem seeksCoarse_s (hW8 : 8 ≤ W) (hW : W ≤ 64) (hH8 : 8 ≤ H) (hH : H ≤ 64) (A : piM m 114 O) (B : piM m 116 T) {R : Nat} (hR : R ≤ 16) (e98 : m.1 98 4 = nI R) : ∃ m' a b, xM S mX13_seeksCoarse [.ref 90] (E W H n m) = some (.inl none, E W H n m', 0, 0) ∧ bs (key (cost W H O T)) (inR ((R : Int) / 4)) a b ∧ m'.1 90 48 = zI a ∧ m'.1 90 49 = zI b ∧ fr scP m m' := by
  obtain ⟨m1, k1, k2, k3⟩ := countsCells_s (S := S) (W := W) (H := H) (n := n) (Or.inl rfl) (Or.inl rfl) A
  obtain ⟨m2, j1, j2, j3⟩ := countsCells_s (S := S) (W := W) (H := H) (n := n) (Or.inr rfl) (Or.inr rfl) (piM_fr B k3 (fun _ => rfl))
  have C1 : mcl m2 119 O := mcl_fr k2 j3 (fun _ => rfl)
  have z98 : 10 = eL H 98 := rfl
  have ev : m2.1 98 4 = nI R := by rw [fr_i j3 98 4 rfl, fr_i k3 98 4 rfl]; exact e98
  obtain ⟨r, er⟩ : ∃ r, r = R / 4 := ⟨_, rfl⟩
  have hr : r ≤ 4 := by omega
  have d4 : nI R / (4 : Int32) = nI r := by rw [er]; exact n_div (by omega) (by decide) (by decide)
  have nr : -(nI r) = zI (-(r : Int)) := by rw [← zI_n (by omega), zI_neg (by omega) (by omega)]
  have pf : ∀ (s : mM) (u v : Int32), fr (msP 48) m2 s → fr (msP 48) m2 (sI (sI s 90 48 u) 90 (48 + 1) v) := fun s u v F => fr_sI (fr_sI F (by rfl)) (by rfl)
  have L := x_sg (σ := mM × Int32) (τ := mM) (D := fun q s => xden S mX13_seeksCoarse 37 [(0, .ref 90), (1, .int (nI r)), (2, .int s.2), (3, .int (nI q))] [] (E W H n s.1)) (Inv := fun q s => boM s.1 48 (cost W H O T) (fun x y => inR r x y ∧ x.natAbs + y.natAbs < q) s.2 ∧ fr (msP 48) m2 s.1)
    (F := fun s => some (.inl none, E W H n s, 0, 0)) (Post := fun s => (∃ a b, bs (key (cost W H O T)) (inR r) a b ∧ s.1 90 48 = zI a ∧ s.1 90 49 = zI b) ∧ fr (msP 48) m2 s) (2 * r + 1) (fun q hq s hs => ?_) (fun s hs => ?_) (m2, -1) ⟨Or.inl ⟨fun x y q => by omega, rfl⟩, fr_rf⟩
  · obtain ⟨m', ⟨⟨a, b, g1, g2, g3⟩, g4⟩, g5⟩ := L
    refine ⟨m', a, b, ?_, by rw [show (R : Int) / 4 = (r : Int) by omega]; exact g1, g2, g3, ?_⟩
    · have g5 := g5 _ rfl
      refine w_X13_seeksCoarse S _ _ _ ?_
      refine c_gr (by omega) (by rfl) (by rfl) (by rfl) ?_
      refine c_gr (by omega) (by rfl) (by rfl) (by rfl) ?_
      refine c_ob (by omega) (by rfl) ?_
      refine c_qV k1 ?_
      refine c_gr (by omega) (by rfl) (by rfl) (by rfl) ?_
      refine c_gr (by omega) (by rfl) (by rfl) (by rfl) ?_
      refine c_ob (by omega) (by rfl) ?_
      refine c_qV j1 ?_
      refine c_gr (by omega) (by rfl) (by rfl) (by rfl) ?_
      refine c_ri (i := 4) (by omega) (by rfl) (by rfl) (by rfl) (by first | omega | ((conv => rhs; whnf); first | omega | (show _ < OfNat.ofNat (α := Nat) _; omega))) (by first | omega | ((conv => lhs; whnf); first | omega | (show OfNat.ofNat (α := Nat) _ < _; omega))) (by decide) ?_
      refine c_let ?_
      rw [ev, d4]
      exact g5
    · refine fr_tr (fr_mono k3 (fun a j w => ?_)) (fr_tr (fr_mono j3 (fun a j w => ?_)) (fr_mono g4 (fun a j w => ?_)))
      · unfold scP at w; exact (Bool.or_eq_false_iff.mp w).1
      · unfold scP at w; exact (Bool.or_eq_false_iff.mp (Bool.or_eq_false_iff.mp w).2).1
      · unfold scP at w; exact (Bool.or_eq_false_iff.mp (Bool.or_eq_false_iff.mp w).2).2
  · left
    have L2 := x_sg (σ := mM × Int32) (τ := mM × Int32) (D := fun k s => xden S mX13_seeksCoarse 48 [(0, .ref 90), (1, .int (nI r)), (2, .int s.2), (3, .int (nI q)), (4, .int (zI (-(r : Int) + k)))] [] (E W H n s.1)) (Inv := fun k s => boM s.1 48 (cost W H O T) (fun x y => inR r x y ∧ (x.natAbs + y.natAbs < q ∨ x.natAbs + y.natAbs = q ∧ y < -(r : Int) + k)) s.2 ∧ fr (msP 48) m2 s.1)
      (F := fun s => xden S mX13_seeksCoarse 37 [(0, .ref 90), (1, .int (nI r)), (2, .int s.2), (3, .int (nI (q + 1)))] [] (E W H n s.1)) (Post := fun s => boM s.1 48 (cost W H O T) (fun x y => inR r x y ∧ x.natAbs + y.natAbs < q + 1) s.2 ∧ fr (msP 48) m2 s.1) (2 * r + 1) (fun k hk e he => ?_) (fun e he => ?_) s ⟨boM_cong (fun x y => by unfold inR; omega) hs.1, hs.2⟩
    · obtain ⟨e, g1, g2⟩ := L2
      refine ⟨e, g1, fun o ho => ?_⟩
      have g2 := g2 o ho
      rw [show -(r : Int) + ((0 : Nat) : Int) = -(r : Int) by omega] at g2
      refine w_X13_seeksCoarse_37 S _ _ _ _ _ _ ?_
      refine c_iff (fun w => by
        rw [show (2 : Int32) = nI 2 from rfl, pk_mul] at w
        have := (nI_ltI (by omega) (by omega)).mp w
        omega) ?_
      refine c_let ?_
      rw [nr]
      exact g2
    · left
      have L3 := x_sg (σ := mM × Int32) (τ := mM × Int32) (D := fun i s => xden S mX13_seeksCoarse 58 [(0, .ref 90), (1, .int (nI r)), (2, .int s.2), (3, .int (nI q)), (4, .int (zI (-(r : Int) + k))), (5, .int (zI (-(r : Int) + i)))] [] (E W H n s.1)) (Inv := fun i s => boM s.1 48 (cost W H O T) (fun x y => inR r x y ∧ (x.natAbs + y.natAbs < q ∨ x.natAbs + y.natAbs = q ∧ (y < -(r : Int) + k ∨ y = -(r : Int) + k ∧ x < -(r : Int) + i))) s.2 ∧ fr (msP 48) m2 s.1)
        (F := fun s => xden S mX13_seeksCoarse 48 [(0, .ref 90), (1, .int (nI r)), (2, .int s.2), (3, .int (nI q)), (4, .int (zI (-(r : Int) + ((k + 1 : Nat) : Int))))] [] (E W H n s.1)) (Post := fun s => boM s.1 48 (cost W H O T) (fun x y => inR r x y ∧ (x.natAbs + y.natAbs < q ∨ x.natAbs + y.natAbs = q ∧ y < -(r : Int) + ((k + 1 : Nat) : Int))) s.2 ∧ fr (msP 48) m2 s.1) (2 * r + 1) (fun i hi g hg => ?_) (fun g hg => ?_) e ⟨boM_cong (fun x y => by unfold inR; omega) he.1, he.2⟩
      · obtain ⟨e1, g1, g2⟩ := L3
        refine ⟨e1, g1, fun o ho => ?_⟩
        have g2 := g2 o ho
        rw [show -(r : Int) + ((0 : Nat) : Int) = -(r : Int) by omega] at g2
        refine w_X13_seeksCoarse_48 S _ _ _ _ _ _ _ ?_
        refine c_iff (fun w => by
          rw [← zI_n (by omega)] at w
          have := (zI_lt (by omega) (by omega) (by omega) (by omega)).mp w
          omega) ?_
        refine c_let ?_
        rw [nr]
        exact g2
      · left
        have s1 := size_z S (E W H n g.1) (z := -(r : Int) + i) (by omega) (by omega)
        have s2 := size_z S (E W H n g.1) (z := -(r : Int) + k) (by omega) (by omega)
        have nxt : zI (-(r : Int) + i) + (1 : Int32) = zI (-(r : Int) + ((i + 1 : Nat) : Int)) := by
          rw [show (1 : Int32) = nI 1 from rfl, zI_1]
          congr 1
          omega
        have row : ∀ {o : xO}, (if ¬ nI (-(r : Int) + i).natAbs + nI (-(r : Int) + k).natAbs = nI q then (xden S mX13_seeksCoarse 58 [(0, .ref 90), (1, .int (nI r)), (2, .int g.2), (3, .int (nI q)), (4, .int (zI (-(r : Int) + k))), (5, .int (zI (-(r : Int) + ((i + 1 : Nat) : Int))))] [] (E W H n g.1)) else (if xOb (E W H n g.1) 90 12 = true then xqI (xM S mX13_coarseCost [.ref 90, .int (zI (-(r : Int) + i)), .int (zI (-(r : Int) + k))] (E W H n g.1)) xth fun v9 h8 => if g.2 < 0 then ((xP false 12 h8 90 12 48 (.int (zI (-(r : Int) + i)))).bind fun h10 => (xP false 12 h10 90 12 49 (.int (zI (-(r : Int) + k)))).bind fun h11 => xlet (zI (-(r : Int) + i) + (1 : Int32)) fun v12 => (xden S mX13_seeksCoarse 58 [(0, .ref 90), (1, .int (nI r)), (2, .int v9), (3, .int (nI q)), (4, .int (zI (-(r : Int) + k))), (5, .int v12)] [] h11)) else (if g.2 ≤ v9 then (xlet (zI (-(r : Int) + i) + (1 : Int32)) fun v13 => (xden S mX13_seeksCoarse 58 [(0, .ref 90), (1, .int (nI r)), (2, .int g.2), (3, .int (nI q)), (4, .int (zI (-(r : Int) + k))), (5, .int v13)] [] h8)) else ((xP false 12 h8 90 12 48 (.int (zI (-(r : Int) + i)))).bind fun h14 => (xP false 12 h14 90 12 49 (.int (zI (-(r : Int) + k)))).bind fun h15 => xlet (zI (-(r : Int) + i) + (1 : Int32)) fun v16 => (xden S mX13_seeksCoarse 58 [(0, .ref 90), (1, .int (nI r)), (2, .int v9), (3, .int (nI q)), (4, .int (zI (-(r : Int) + k))), (5, .int v16)] [] h15))) else none)) = some o → xden S mX13_seeksCoarse 58 [(0, .ref 90), (1, .int (nI r)), (2, .int g.2), (3, .int (nI q)), (4, .int (zI (-(r : Int) + k))), (5, .int (zI (-(r : Int) + i)))] [] (E W H n g.1) = some o := fun {o} ho => by
          refine w_X13_seeksCoarse_58 S _ _ _ _ _ _ _ _ ?_
          refine c_iff (fun w => by
            rw [← zI_n (by omega)] at w
            have := (zI_lt (by omega) (by omega) (by omega) (by omega)).mp w
            omega) ?_
          refine c_qI s1 ?_
          refine c_qI s2 ?_
          rw [← nxt] at ho
          exact ho
        by_cases cs : (-(r : Int) + i).natAbs + (-(r : Int) + k).natAbs = q
        · have cc := mcoarse_s (S := S) (n := n) (m := g.1) hW8 hW hH8 hH (mcl_fr C1 hg.2 (fun _ => rfl)) (mcl_fr j2 hg.2 (fun _ => rfl)) (a := -(r : Int) + i) (b := -(r : Int) + k) (by omega) (by omega) (by omega) (by omega)
          rcases m_offer (u := -(r : Int) + i) (v := -(r : Int) + k) (G' := fun x y => inR r x y ∧ (x.natAbs + y.natAbs < q ∨ x.natAbs + y.natAbs = q ∧ (y < -(r : Int) + k ∨ y = -(r : Int) + k ∧ x < -(r : Int) + ((i + 1 : Nat) : Int)))) hg.1 (fun x y => by unfold inR; (try dsimp only); omega) (fun x y w => by unfold inR at w; (try dsimp only at w); omega) (by omega) (fun x y => cost_lt hW hH _ _ _ _) with ⟨w1, w2, w3⟩ | ⟨w1, w2⟩
          · refine ⟨g, ⟨w1, hg.2⟩, fun o ho => row ?_⟩
            refine c_iff (fun w => w (by rw [nI_add, cs])) ?_
            refine c_ob (by omega) (by rfl) ?_
            refine c_qI cc ?_
            refine c_iff w2 ?_
            refine c_ift w3 ?_
            refine c_let ?_
            rw [nxt]
            exact ho
          · refine ⟨(sI (sI g.1 90 48 (zI (-(r : Int) + i))) 90 (48 + 1) (zI (-(r : Int) + k)), nI (cost W H O T (-(r : Int) + i) (-(r : Int) + k))), ⟨w1, pf _ _ _ hg.2⟩, fun o ho => row ?_⟩
            refine c_iff (fun w => w (by rw [nI_add, cs])) ?_
            refine c_ob (by omega) (by rfl) ?_
            refine c_qI cc ?_
            rcases w2 with w2 | ⟨w2, w3⟩
            · refine c_ift w2 ?_
              refine c_pi (by omega) (by rfl) (by rfl) (by rfl) (xPok_int (by decide) (by rfl)) ?_
              refine c_pi (by omega) (by rfl) (by rfl) (by rfl) (xPok_int (by decide) (by rfl)) ?_
              refine c_let ?_
              rw [nxt]
              exact ho
            · refine c_iff w2 ?_
              refine c_iff w3 ?_
              refine c_pi (by omega) (by rfl) (by rfl) (by rfl) (xPok_int (by decide) (by rfl)) ?_
              refine c_pi (by omega) (by rfl) (by rfl) (by rfl) (xPok_int (by decide) (by rfl)) ?_
              refine c_let ?_
              rw [nxt]
              exact ho
        · refine ⟨g, ⟨boM_cong (fun x y => by unfold inR; omega) hg.1, hg.2⟩, fun o ho => row ?_⟩
          refine c_ift (fun w => cs (by
            rw [nI_add] at w
            exact (nI_eq (by omega) (by omega)).mp w)) ?_
          exact ho
      · refine ⟨g, ⟨boM_cong (fun x y => by unfold inR; omega) hg.1, hg.2⟩, fun o ho => w_X13_seeksCoarse_58 S _ _ _ _ _ _ _ _ ?_⟩
        refine c_ift ?_ ?_
        · rw [← zI_n (by omega)]
          exact (zI_lt (by omega) (by omega) (by omega) (by omega)).mpr (by omega)
        · refine c_let ?_
          rw [show (1 : Int32) = nI 1 from rfl, zI_1, show -(r : Int) + (k : Int) + 1 = -(r : Int) + ((k + 1 : Nat) : Int) by omega]
          exact ho
    · refine ⟨e, ⟨boM_cong (fun x y => by unfold inR; omega) he.1, he.2⟩, fun o ho => w_X13_seeksCoarse_48 S _ _ _ _ _ _ _ ?_⟩
      refine c_ift ?_ ?_
      · rw [← zI_n (by omega)]
        exact (zI_lt (by omega) (by omega) (by omega) (by omega)).mpr (by omega)
      · refine c_let ?_
        rw [show (1 : Int32) = nI 1 from rfl, nI_add]
        exact ho
  · refine ⟨s.1, ⟨?_, hs.2⟩, fun o ho => w_X13_seeksCoarse_37 S _ _ _ _ _ _ ?_⟩
    · rcases hs.1 with ⟨q1, _⟩ | ⟨a, b, q1, q2, q3, _⟩
      · exact absurd (show inR r 0 0 ∧ (0 : Int).natAbs + (0 : Int).natAbs < 2 * r + 1 by unfold inR; omega) (q1 0 0)
      · exact ⟨a, b, bs_cong (fun x y => by unfold inR; omega) q1, q2, q3⟩
    · refine c_ift ?_ ?_
      · rw [show (2 : Int32) = nI 2 from rfl, pk_mul]
        exact (nI_ltI (by omega) (by omega)).mpr (by omega)
      · exact ho
theorem seeksFine_s (hW8 : 8 ≤ W) (hW : W ≤ 64) (hH8 : 8 ≤ H) (hH : H ≤ 64) (A : piM m 114 O) (B : piM m 116 T) {R : Nat} (hR : R ≤ 16) (e98 : m.1 98 4 = nI R) {a b : Int} (ab : inR ((R : Int) / 4) a b) (ea : m.1 90 48 = zI a) (eb : m.1 90 49 = zI b) : ∃ m' dx dy, xM S mX13_seeksFine [.ref 90] (E W H n m) = some (.inl (some (.int (nI (mm W H O T dx dy)))), E W H n m', 0, 0) ∧ bs (key (mm W H O T)) (inF R a b) dx dy ∧ m'.1 90 50 = zI dx ∧ m'.1 90 51 = zI dy ∧ fr (msP 50) m m' := by
  unfold inR at ab
  have z98 : 10 = eL H 98 := rfl
  have pf : ∀ (s : mM) (u v : Int32), fr (msP 50) m s → fr (msP 50) m (sI (sI s 90 50 u) 90 (50 + 1) v) := fun s u v F => fr_sI (fr_sI F (by rfl)) (by rfl)
  have s4 : ∀ z : Int, -100 ≤ z → z ≤ 100 → (4 : Int32) * zI z - (3 : Int32) = zI (4 * z - 3) := fun z h1 h2 => by
    rw [show (4 : Int32) = zI 4 from rfl, show (3 : Int32) = zI 3 from rfl, zI_mul (by omega) (by omega) (by omega) (by omega) (by omega) (by omega), zI_sub (by omega) (by omega) (by omega) (by omega)]
  have a4 : ∀ z : Int, -100 ≤ z → z ≤ 100 → (4 : Int32) * zI z + (3 : Int32) = zI (4 * z + 3) := fun z h1 h2 => by
    rw [show (4 : Int32) = zI 4 from rfl, show (3 : Int32) = zI 3 from rfl, zI_mul (by omega) (by omega) (by omega) (by omega) (by omega) (by omega), zI_add]
  have L := x_sg (σ := mM × Int32) (τ := mM × Int × Int) (D := fun q s => xden S mX13_seeksFine 11 [(0, .ref 90), (1, .int (nI R)), (2, .int s.2), (3, .int (nI q))] [] (E W H n s.1)) (Inv := fun q s => boM s.1 50 (mm W H O T) (fun x y => inF R a b x y ∧ x.natAbs + y.natAbs < q) s.2 ∧ fr (msP 50) m s.1)
    (F := fun s => some (.inl (some (.int (nI (mm W H O T s.2.1 s.2.2)))), E W H n s.1, 0, 0)) (Post := fun s => (bs (key (mm W H O T)) (inF R a b) s.2.1 s.2.2 ∧ s.1.1 90 50 = zI s.2.1 ∧ s.1.1 90 51 = zI s.2.2) ∧ fr (msP 50) m s.1) (2 * R + 1) (fun q hq s hs => ?_) (fun s hs => ?_) (m, -1) ⟨Or.inl ⟨fun x y q => by omega, rfl⟩, fr_rf⟩
  · obtain ⟨⟨m', dx, dy⟩, ⟨⟨g1, g2, g3⟩, g4⟩, g5⟩ := L
    refine ⟨m', dx, dy, ?_, g1, g2, g3, g4⟩
    have g5 := g5 _ rfl
    refine w_X13_seeksFine S _ _ _ ?_
    refine c_gr (by omega) (by rfl) (by rfl) (by rfl) ?_
    refine c_ri (i := 4) (by omega) (by rfl) (by rfl) (by rfl) (by first | omega | ((conv => rhs; whnf); first | omega | (show _ < OfNat.ofNat (α := Nat) _; omega))) (by first | omega | ((conv => lhs; whnf); first | omega | (show OfNat.ofNat (α := Nat) _ < _; omega))) (by decide) ?_
    rw [e98]
    exact g5
  · left
    have L2 := x_sg (σ := mM × Int32) (τ := mM × Int32) (D := fun k s => xden S mX13_seeksFine 28 [(0, .ref 90), (1, .int (nI R)), (2, .int s.2), (3, .int (nI q)), (4, .int (zI (4 * b - 3 + k)))] [] (E W H n s.1)) (Inv := fun k s => boM s.1 50 (mm W H O T) (fun x y => inF R a b x y ∧ (x.natAbs + y.natAbs < q ∨ x.natAbs + y.natAbs = q ∧ y < 4 * b - 3 + k)) s.2 ∧ fr (msP 50) m s.1)
      (F := fun s => xden S mX13_seeksFine 11 [(0, .ref 90), (1, .int (nI R)), (2, .int s.2), (3, .int (nI (q + 1)))] [] (E W H n s.1)) (Post := fun s => boM s.1 50 (mm W H O T) (fun x y => inF R a b x y ∧ x.natAbs + y.natAbs < q + 1) s.2 ∧ fr (msP 50) m s.1) 7 (fun k hk e he => ?_) (fun e he => ?_) s ⟨boM_cong (fun x y => by unfold inF inR; omega) hs.1, hs.2⟩
    · obtain ⟨e, g1, g2⟩ := L2
      refine ⟨e, g1, fun o ho => ?_⟩
      have g2 := g2 o ho
      have eb' : s.1.1 90 49 = zI b := by rw [fr_i hs.2 90 49 rfl]; exact eb
      rw [show 4 * b - 3 + ((0 : Nat) : Int) = 4 * b - 3 by omega] at g2
      refine w_X13_seeksFine_11 S _ _ _ _ _ _ ?_
      refine c_iff (fun w => by
        rw [show (2 : Int32) = nI 2 from rfl, pk_mul] at w
        have := (nI_ltI (by omega) (by omega)).mp w
        omega) ?_
      refine c_gi (by omega) (by rfl) (by rfl) (by rfl) ?_
      refine c_let ?_
      rw [eb', s4 b (by omega) (by omega)]
      exact g2
    · left
      have eb' : e.1.1 90 49 = zI b := by rw [fr_i he.2 90 49 rfl]; exact eb
      have ea' : e.1.1 90 48 = zI a := by rw [fr_i he.2 90 48 rfl]; exact ea
      have L3 := x_sg (σ := mM × Int32) (τ := mM × Int32) (D := fun i s => xden S mX13_seeksFine 51 [(0, .ref 90), (1, .int (nI R)), (2, .int s.2), (3, .int (nI q)), (4, .int (zI (4 * b - 3 + k))), (5, .int (zI (4 * a - 3 + i)))] [] (E W H n s.1)) (Inv := fun i s => boM s.1 50 (mm W H O T) (fun x y => inF R a b x y ∧ (x.natAbs + y.natAbs < q ∨ x.natAbs + y.natAbs = q ∧ (y < 4 * b - 3 + k ∨ y = 4 * b - 3 + k ∧ x < 4 * a - 3 + i))) s.2 ∧ fr (msP 50) m s.1)
        (F := fun s => xden S mX13_seeksFine 28 [(0, .ref 90), (1, .int (nI R)), (2, .int s.2), (3, .int (nI q)), (4, .int (zI (4 * b - 3 + ((k + 1 : Nat) : Int))))] [] (E W H n s.1)) (Post := fun s => boM s.1 50 (mm W H O T) (fun x y => inF R a b x y ∧ (x.natAbs + y.natAbs < q ∨ x.natAbs + y.natAbs = q ∧ y < 4 * b - 3 + ((k + 1 : Nat) : Int))) s.2 ∧ fr (msP 50) m s.1) 7 (fun i hi g hg => ?_) (fun g hg => ?_) e ⟨boM_cong (fun x y => by unfold inF inR; omega) he.1, he.2⟩
      · obtain ⟨e1, g1, g2⟩ := L3
        refine ⟨e1, g1, fun o ho => ?_⟩
        have g2 := g2 o ho
        rw [show 4 * a - 3 + ((0 : Nat) : Int) = 4 * a - 3 by omega] at g2
        refine w_X13_seeksFine_28 S _ _ _ _ _ _ _ ?_
        refine c_gi (by omega) (by rfl) (by rfl) (by rfl) ?_
        rw [eb', a4 b (by omega) (by omega)]
        refine c_iff (fun w => by
          have := (zI_lt (by omega) (by omega) (by omega) (by omega)).mp w
          omega) ?_
        refine c_gi (by omega) (by rfl) (by rfl) (by rfl) ?_
        refine c_let ?_
        rw [ea', s4 a (by omega) (by omega)]
        exact g2
      · left
        obtain ⟨u, eu⟩ : ∃ u, u = 4 * a - 3 + (i : Int) := ⟨_, rfl⟩
        obtain ⟨v, ev⟩ : ∃ v, v = 4 * b - 3 + (k : Int) := ⟨_, rfl⟩
        have ga' : g.1.1 90 48 = zI a := by rw [fr_i hg.2 90 48 rfl]; exact ea
        have s1 := size_z S (E W H n g.1) (z := u) (by omega) (by omega)
        have s2 := size_z S (E W H n g.1) (z := v) (by omega) (by omega)
        have nxt : zI u + (1 : Int32) = zI (4 * a - 3 + ((i + 1 : Nat) : Int)) := by
          rw [show (1 : Int32) = nI 1 from rfl, zI_1]
          congr 1
          omega
        rw [← eu, ← ev]
        rw [← eu, ← ev] at hg
        have go : ∀ {o : xO}, xden S mX13_seeksFine 51 [(0, .ref 90), (1, .int (nI R)), (2, .int g.2), (3, .int (nI q)), (4, .int (zI v)), (5, .int (zI (4 * a - 3 + ((i + 1 : Nat) : Int))))] [] (E W H n g.1) = some o → ¬ (u.natAbs ≤ R ∧ v.natAbs ≤ R ∧ u.natAbs + v.natAbs = q) → xden S mX13_seeksFine 51 [(0, .ref 90), (1, .int (nI R)), (2, .int g.2), (3, .int (nI q)), (4, .int (zI v)), (5, .int (zI u))] [] (E W H n g.1) = some o := fun {o} ho c => by
          rw [← nxt] at ho
          refine w_X13_seeksFine_51 S _ _ _ _ _ _ _ _ ?_
          refine c_gi (by omega) (by rfl) (by rfl) (by rfl) ?_
          rw [ga', a4 a (by omega) (by omega)]
          refine c_iff (fun w => by
            have := (zI_lt (by omega) (by omega) (by omega) (by omega)).mp w
            omega) ?_
          refine c_qI s1 ?_
          by_cases c1 : u.natAbs ≤ R
          · refine c_iff (fun w => by have := (nI_ltI (by omega) (by omega)).mp w; omega) ?_
            refine c_qI s2 ?_
            by_cases c2 : v.natAbs ≤ R
            · refine c_iff (fun w => by have := (nI_ltI (by omega) (by omega)).mp w; omega) ?_
              refine c_qI s1 ?_
              refine c_qI s2 ?_
              refine c_ift (fun w => by
                rw [nI_add] at w
                have := (nI_eq (by omega) (by omega)).mp w
                exact c ⟨c1, c2, this⟩) ?_
              exact ho
            · refine c_ift ((nI_ltI (by omega) (by omega)).mpr (by omega)) ?_
              exact ho
          · refine c_ift ((nI_ltI (by omega) (by omega)).mpr (by omega)) ?_
            exact ho
        by_cases cs : u.natAbs ≤ R ∧ v.natAbs ≤ R ∧ u.natAbs + v.natAbs = q
        · have df := differ_s (S := S) (n := n) (m := g.1) hW8 hW hH8 hH (piM_fr A hg.2 (fun _ => rfl)) (Or.inl rfl) (piM_fr B hg.2 (fun _ => rfl)) (x := u) (y := v) (by omega) (by omega) (by omega) (by omega)
          have row : ∀ {o : xO}, (if g.2 < 0 then ((xP false 12 (E W H n g.1) 90 12 50 (.int (zI u))).bind fun h18 => (xP false 12 h18 90 12 51 (.int (zI v))).bind fun h19 => xlet (zI u + (1 : Int32)) fun v20 => (xden S mX13_seeksFine 51 [(0, .ref 90), (1, .int (nI R)), (2, .int (nI (mm W H O T u v))), (3, .int (nI q)), (4, .int (zI v)), (5, .int v20)] [] h19)) else (if g.2 ≤ nI (mm W H O T u v) then (xlet (zI u + (1 : Int32)) fun v21 => (xden S mX13_seeksFine 51 [(0, .ref 90), (1, .int (nI R)), (2, .int g.2), (3, .int (nI q)), (4, .int (zI v)), (5, .int v21)] [] (E W H n g.1))) else ((xP false 12 (E W H n g.1) 90 12 50 (.int (zI u))).bind fun h22 => (xP false 12 h22 90 12 51 (.int (zI v))).bind fun h23 => xlet (zI u + (1 : Int32)) fun v24 => (xden S mX13_seeksFine 51 [(0, .ref 90), (1, .int (nI R)), (2, .int (nI (mm W H O T u v))), (3, .int (nI q)), (4, .int (zI v)), (5, .int v24)] [] h23)))) = some o → xden S mX13_seeksFine 51 [(0, .ref 90), (1, .int (nI R)), (2, .int g.2), (3, .int (nI q)), (4, .int (zI v)), (5, .int (zI u))] [] (E W H n g.1) = some o := fun {o} ho => by
            refine w_X13_seeksFine_51 S _ _ _ _ _ _ _ _ ?_
            refine c_gi (by omega) (by rfl) (by rfl) (by rfl) ?_
            rw [ga', a4 a (by omega) (by omega)]
            refine c_iff (fun w => by
              have := (zI_lt (by omega) (by omega) (by omega) (by omega)).mp w
              omega) ?_
            refine c_qI s1 ?_
            refine c_iff (fun w => by have := (nI_ltI (by omega) (by omega)).mp w; omega) ?_
            refine c_qI s2 ?_
            refine c_iff (fun w => by have := (nI_ltI (by omega) (by omega)).mp w; omega) ?_
            refine c_qI s1 ?_
            refine c_qI s2 ?_
            refine c_iff (fun w => w (by rw [nI_add, cs.2.2])) ?_
            refine c_gr (by omega) (by rfl) (by rfl) (by rfl) ?_
            refine c_ob (by omega) (by rfl) ?_
            refine c_qI df ?_
            exact ho
          rcases m_offer (u := u) (v := v) (G' := fun x y => inF R a b x y ∧ (x.natAbs + y.natAbs < q ∨ x.natAbs + y.natAbs = q ∧ (y < v ∨ y = v ∧ x < 4 * a - 3 + ((i + 1 : Nat) : Int)))) hg.1 (fun x y => by unfold inF inR; (try dsimp only); omega) (fun x y w => by unfold inF inR at w; (try dsimp only at w); omega) (by omega) (fun x y => Nat.le_trans (mm_le _ _ _ _ _ _) (by decide)) with ⟨w1, w2, w3⟩ | ⟨w1, w2⟩
          · refine ⟨g, ⟨w1, hg.2⟩, fun o ho => row ?_⟩
            refine c_iff w2 ?_
            refine c_ift w3 ?_
            refine c_let ?_
            rw [nxt]
            exact ho
          · refine ⟨(sI (sI g.1 90 50 (zI u)) 90 (50 + 1) (zI v), nI (mm W H O T u v)), ⟨w1, pf _ _ _ hg.2⟩, fun o ho => row ?_⟩
            rcases w2 with w2 | ⟨w2, w3⟩
            · refine c_ift w2 ?_
              refine c_pi (by omega) (by rfl) (by rfl) (by rfl) (xPok_int (by decide) (by rfl)) ?_
              refine c_pi (by omega) (by rfl) (by rfl) (by rfl) (xPok_int (by decide) (by rfl)) ?_
              refine c_let ?_
              rw [nxt]
              exact ho
            · refine c_iff w2 ?_
              refine c_iff w3 ?_
              refine c_pi (by omega) (by rfl) (by rfl) (by rfl) (xPok_int (by decide) (by rfl)) ?_
              refine c_pi (by omega) (by rfl) (by rfl) (by rfl) (xPok_int (by decide) (by rfl)) ?_
              refine c_let ?_
              rw [nxt]
              exact ho
        · refine ⟨g, ⟨boM_cong (fun x y => by unfold inF inR; omega) hg.1, hg.2⟩, fun o ho => go ho cs⟩
      · have ga' : g.1.1 90 48 = zI a := by rw [fr_i hg.2 90 48 rfl]; exact ea
        refine ⟨g, ⟨boM_cong (fun x y => by unfold inF inR; omega) hg.1, hg.2⟩, fun o ho => w_X13_seeksFine_51 S _ _ _ _ _ _ _ _ ?_⟩
        refine c_gi (by omega) (by rfl) (by rfl) (by rfl) ?_
        rw [ga', a4 a (by omega) (by omega)]
        refine c_ift ((zI_lt (by omega) (by omega) (by omega) (by omega)).mpr (by omega)) ?_
        refine c_let ?_
        rw [show (1 : Int32) = nI 1 from rfl, zI_1, show 4 * b - 3 + (k : Int) + 1 = 4 * b - 3 + ((k + 1 : Nat) : Int) by omega]
        exact ho
    · have eb' : e.1.1 90 49 = zI b := by rw [fr_i he.2 90 49 rfl]; exact eb
      refine ⟨e, ⟨boM_cong (fun x y => by unfold inF inR; omega) he.1, he.2⟩, fun o ho => w_X13_seeksFine_28 S _ _ _ _ _ _ _ ?_⟩
      refine c_gi (by omega) (by rfl) (by rfl) (by rfl) ?_
      rw [eb', a4 b (by omega) (by omega)]
      refine c_ift ((zI_lt (by omega) (by omega) (by omega) (by omega)).mpr (by omega)) ?_
      refine c_let ?_
      rw [show (1 : Int32) = nI 1 from rfl, nI_add]
      exact ho
  · rcases hs.1 with ⟨q1, _⟩ | ⟨x, y, q1, q2, q3, q4⟩
    · exact absurd (show inF R a b (4 * a) (4 * b) ∧ (4 * a).natAbs + (4 * b).natAbs < 2 * R + 1 by unfold inF inR; omega) (q1 _ _)
    · refine ⟨(s.1, x, y), ⟨⟨bs_cong (fun x y => by unfold inF inR; omega) q1, q2, q3⟩, hs.2⟩, fun o ho => w_X13_seeksFine_11 S _ _ _ _ _ _ ?_⟩
      refine c_ift ?_ ?_
      · rw [show (2 : Int32) = nI 2 from rfl, pk_mul]
        exact (nI_ltI (by omega) (by omega)).mpr (by omega)
      · rw [q4]
        exact ho
end MS

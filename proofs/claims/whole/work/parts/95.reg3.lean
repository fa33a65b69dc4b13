/-! REGISTRATION: both stages, and the choice: the class -/
theorem zI_sub {a b : Int} (h1 : -1000000000 ≤ a) (h2 : a ≤ 1000000000) (h3 : -1000000000 ≤ b) (h4 : b ≤ 1000000000) : zI a - zI b = zI (a - b) := by
  rw [fa_eq, fb_subI (by rw [zI_t (by omega) (by omega), zI_t (by omega) (by omega)]; omega) (by rw [zI_t (by omega) (by omega), zI_t (by omega) (by omega)]; omega), zI_t (by omega) (by omega), zI_t (by omega) (by omega), zI_t (by omega) (by omega)]
theorem max_z (S : xS) (h : xH) {x y : Int} (h1 : -1000000000 ≤ x) (h2 : x ≤ 1000000000) (h3 : -1000000000 ≤ y) (h4 : y ≤ 1000000000) : xM S mJ9_max_7cf53 [.int (zI x), .int (zI y)] h = some (.inl (some (.int (zI (max x y)))), h, 0, 0) := by
  rw [max_s]
  by_cases c : y ≤ x
  · rw [if_pos ((zI_le (by omega) (by omega) (by omega) (by omega)).mpr c), show max x y = x by omega]
  · rw [if_neg (fun q => c ((zI_le (by omega) (by omega) (by omega) (by omega)).mp q)), show max x y = y by omega]
theorem min_z (S : xS) (h : xH) {x y : Int} (h1 : -1000000000 ≤ x) (h2 : x ≤ 1000000000) (h3 : -1000000000 ≤ y) (h4 : y ≤ 1000000000) : xM S mJ9_min_7cf53 [.int (zI x), .int (zI y)] h = some (.inl (some (.int (zI (min x y)))), h, 0, 0) := by
  rw [min_s]
  by_cases c : x ≤ y
  · rw [if_pos ((zI_le (by omega) (by omega) (by omega) (by omega)).mpr c), show min x y = x by omega]
  · rw [if_neg (fun q => c ((zI_le (by omega) (by omega) (by omega) (by omega)).mp q)), show min x y = y by omega]
theorem boI_cong {m : mM} {c : Int → Int → Nat} {G G' : Int → Int → Prop} (e : ∀ x y, G x y ↔ G' x y) (h : boI m c G) : boI m c G' := by
  rcases h with ⟨h1, h2⟩ | ⟨a, b, h1, h2⟩
  · exact Or.inl ⟨fun x y q => h1 x y ((e x y).mpr q), h2⟩
  · exact Or.inr ⟨a, b, bs_cong e h1, h2⟩
/-! the choice among all tries -/
def bef (t : Bool) (k : Nat) (u : Bool) (q : Nat) : Prop := (t = false ∧ u = true) ∨ (t = u ∧ k < q)
def chO (W H : Nat) (O C : Nat → Int64) (r : Int) (P : Bool → Nat → Prop) (t : Bool) (k c : Nat) (dx dy : Int) : Prop := P t k ∧ tryP W H O C r t k c dx dy ∧ ∀ t' k' c' dx' dy', P t' k' → tryP W H O C r t' k' c' dx' dy' → c ≤ c' ∧ (bef t' k' t k → c < c')
theorem bef_or {t u : Bool} {k q : Nat} (h : ¬ (t = u ∧ k = q)) : bef t k u q ∨ bef u q t k := by
  unfold bef
  cases t <;> cases u <;> simp at h ⊢ <;> omega
theorem bef_as {t u : Bool} {k q : Nat} (h : bef t k u q) (g : bef u q t k) : False := by
  unfold bef at h g
  cases t <;> cases u <;> simp at h g <;> omega
theorem chO_one {W H : Nat} {O C : Nat → Int64} {r : Int} (hr : 0 ≤ r ∧ r ≤ 16) {P : Bool → Nat → Prop} {t u : Bool} {k q c d : Nat} {dx dy ex ey : Int} (h : chO W H O C r P t k c dx dy) (g : chO W H O C r P u q d ex ey) : t = u ∧ k = q ∧ c = d ∧ dx = ex ∧ dy = ey := by
  by_cases e : t = u ∧ k = q
  · obtain ⟨rfl, rfl⟩ := e
    exact ⟨rfl, rfl, tryP_one hr h.2.1 g.2.1⟩
  · have a := h.2.2 _ _ _ _ _ g.1 g.2.1
    have b := g.2.2 _ _ _ _ _ h.1 h.2.1
    rcases bef_or e with x | x
    · have := b.2 x; omega
    · have := a.2 x; omega
theorem chO_new {W H : Nat} {O C : Nat → Int64} {r : Int} (hr : 0 ≤ r ∧ r ≤ 16) {P P' : Bool → Nat → Prop} {t u : Bool} {k q c d : Nat} {dx dy ex ey : Int} (h : chO W H O C r P t k c dx dy) (e : ∀ t k, P' t k ↔ P t k ∨ t = u ∧ k = q) (hb : ∀ t k, P t k → bef t k u q) (g : tryP W H O C r u q d ex ey) : (d < c → chO W H O C r P' u q d ex ey) ∧ (c ≤ d → chO W H O C r P' t k c dx dy) := by
  obtain ⟨h1, h2, h3⟩ := h
  refine ⟨fun lt => ⟨(e u q).mpr (Or.inr ⟨rfl, rfl⟩), g, fun t' k' c' dx' dy' p' g' => ?_⟩, fun le => ⟨(e t k).mpr (Or.inl h1), h2, fun t' k' c' dx' dy' p' g' => ?_⟩⟩
  · rcases (e t' k').mp p' with p | ⟨rfl, rfl⟩
    · have := (h3 _ _ _ _ _ p g').1
      exact ⟨by omega, fun _ => by omega⟩
    · have := (tryP_one hr g g').1
      exact ⟨by omega, fun b => absurd b (fun b => bef_as b b)⟩
  · rcases (e t' k').mp p' with p | ⟨rfl, rfl⟩
    · exact h3 _ _ _ _ _ p g'
    · have := (tryP_one hr g g').1
      exact ⟨by omega, fun b => absurd b (fun b => bef_as b (hb _ _ h1))⟩
theorem chO_first {W H : Nat} {O C : Nat → Int64} {r : Int} (hr : 0 ≤ r ∧ r ≤ 16) {P P' : Bool → Nat → Prop} {u : Bool} {q d : Nat} {ex ey : Int} (h : ∀ t k, ¬ P t k) (e : ∀ t k, P' t k ↔ P t k ∨ t = u ∧ k = q) (g : tryP W H O C r u q d ex ey) : chO W H O C r P' u q d ex ey := by
  refine ⟨(e u q).mpr (Or.inr ⟨rfl, rfl⟩), g, fun t' k' c' dx' dy' p' g' => ?_⟩
  rcases (e t' k').mp p' with p | ⟨rfl, rfl⟩
  · exact absurd p (h _ _)
  · have := (tryP_one hr g g').1
    exact ⟨by omega, fun b => absurd b (fun b => bef_as b b)⟩
theorem chO_cong {W H : Nat} {O C : Nat → Int64} {r : Int} {P P' : Bool → Nat → Prop} {t : Bool} {k c : Nat} {dx dy : Int} (e : ∀ t k, P t k ↔ P' t k) (h : chO W H O C r P t k c dx dy) : chO W H O C r P' t k c dx dy := ⟨(e _ _).mp h.1, h.2.1, fun t' k' c' dx' dy' p => h.2.2 t' k' c' dx' dy' ((e _ _).mpr p)⟩
/-- the choice so far, in the class -/
def chI (m : mM) (W H : Nat) (O C : Nat → Int64) (r : Int) (P : Bool → Nat → Prop) : Prop := ((∀ t k, ¬ P t k) ∧ m.1 82 10 = nI 1000000) ∨ ∃ t k c dx dy, chO W H O C r P t k c dx dy ∧ m.1 82 6 = zI dx ∧ m.1 82 7 = zI dy ∧ m.1 82 8 = zI (skw k) ∧ m.1 82 9 = bz t ∧ m.1 82 10 = nI c
/-- the tries: all before turn u; of turn u those before q -/
def trP (sk : Nat) (u q : Nat) (t : Bool) (k : Nat) : Prop := k ≤ 2 * sk ∧ (t.toNat < u ∨ t.toNat = u ∧ k < q)
theorem skw_all : ∀ k, k < 5 → ((¬ (nI k &&& 1 : Int32) = 1 ∧ nI k / 2 = zI (skw k)) ∨ ((nI k &&& 1 : Int32) = 1 ∧ (-(nI k + 1)) / 2 = zI (skw k))) ∧ -2 ≤ skw k ∧ skw k ≤ 2 := by decide +kernel
theorem tryP_c {W H : Nat} {O C : Nat → Int64} {r : Int} {t : Bool} {k c : Nat} {dx dy : Int} (h : tryP W H O C r t k c dx dy) : c ≤ 4096 := by
  obtain ⟨T, _, _, e⟩ := h
  rw [e]
  exact mm_le _ _ _ _ _ _
section RI
variable {S : xS} {W H n : Nat} {m : mM} {O T C : Nat → Int64}
theorem clC_fr {m' : mM} {c : Nat} {P : Nat → Nat → Bool} {f : Nat → Int64} (h : clC m W H c f) (F : fr P m m') (q : ∀ j, P c j = false) : clC m' W H c f := fun j i hj hi => by rw [fr_i F c _ (q _)]; exact h j i hj hi
theorem findCoarse_s (hW8 : 8 ≤ W) (hW : W ≤ 64) (hH8 : 8 ≤ H) (hH : H ≤ 64) (C1 : clC m W H 83 O) (C2 : clC m W H 84 T) {r : Nat} (hr : r ≤ 4) : ∃ m' a b, xM S mX8_findCoarse [.ref 82, .int (nI r)] (E W H n m) = some (.inl none, E W H n m', 0, 0) ∧ bs (key (cost W H O T)) (inR r) a b ∧ m'.1 82 11 = zI a ∧ m'.1 82 12 = zI b ∧ fr ofP m m' := by
  have nr : -(nI r) = zI (-(r : Int)) := by rw [← zI_n (by omega), zI_neg (by omega) (by omega)]
  have L := x_sg (σ := mM) (τ := mM) (D := fun k s => xden S mX8_findCoarse 9 [(0, .ref 82), (1, .int (nI r)), (2, .int (zI (-(r : Int) + k)))] [] (E W H n s)) (Inv := fun k s => boI s (cost W H O T) (fun x y => -(r : Int) ≤ x ∧ x ≤ r ∧ -(r : Int) ≤ y ∧ y < -(r : Int) + k) ∧ fr ofP m s)
    (F := fun s => some (.inl none, E W H n s, 0, 0)) (Post := fun s => boI s (cost W H O T) (inR r) ∧ fr ofP m s) (2 * r + 1) (fun k hk s hs => ?_) (fun s hs => ?_) (sI m 82 13 (nI 1000000)) ⟨Or.inl ⟨fun x y q => by omega, sI_eq ⟨rfl, rfl⟩⟩, fr_sI fr_rf (by rfl)⟩
  · obtain ⟨m', ⟨k1, k2⟩, k3⟩ := L
    rcases k1 with ⟨e1, _⟩ | ⟨a, b, e1, e2, e3, e4⟩
    · exact absurd (show inR r 0 0 by unfold inR; omega) (e1 0 0)
    · refine ⟨m', a, b, ?_, e1, e2, e3, k2⟩
      refine w_X8_findCoarse S _ _ _ _ ?_
      refine c_pi (by omega) (by rfl) (by rfl) (by rfl) (xPok_int (by decide) (by rfl)) ?_
      refine c_let ?_
      rw [nr]
      have k3 := k3 _ rfl
      rw [show -(r : Int) + ((0 : Nat) : Int) = -(r : Int) by omega] at k3
      exact k3
  · left
    have L2 := x_sg (σ := mM) (τ := mM) (D := fun i s => xden S mX8_findCoarse 17 [(0, .ref 82), (1, .int (nI r)), (2, .int (zI (-(r : Int) + k))), (3, .int (zI (-(r : Int) + i)))] [] (E W H n s)) (Inv := fun i s => boI s (cost W H O T) (fun x y => -(r : Int) ≤ x ∧ x ≤ r ∧ -(r : Int) ≤ y ∧ (y < -(r : Int) + k ∨ y = -(r : Int) + k ∧ x < -(r : Int) + i)) ∧ fr ofP m s)
      (F := fun s => xden S mX8_findCoarse 9 [(0, .ref 82), (1, .int (nI r)), (2, .int (zI (-(r : Int) + ((k + 1 : Nat) : Int))))] [] (E W H n s)) (Post := fun s => boI s (cost W H O T) (fun x y => -(r : Int) ≤ x ∧ x ≤ r ∧ -(r : Int) ≤ y ∧ y < -(r : Int) + ((k + 1 : Nat) : Int)) ∧ fr ofP m s) (2 * r + 1) (fun i hi e he => ?_) (fun e he => ?_) s ⟨boI_cong (fun x y => by omega) hs.1, hs.2⟩
    · obtain ⟨e, k1, k2⟩ := L2
      refine ⟨e, k1, fun o ho => ?_⟩
      have k2 := k2 o ho
      rw [show -(r : Int) + ((0 : Nat) : Int) = -(r : Int) by omega] at k2
      refine w_X8_findCoarse_9 S _ _ _ _ _ ?_
      refine c_iff (fun q => by
        rw [← zI_n (by omega)] at q
        have := (zI_lt (by omega) (by omega) (by omega) (by omega)).mp q
        omega) ?_
      refine c_let ?_
      rw [nr]
      exact k2
    · left
      have cs := coarseCost_s (S := S) (n := n) hW8 hW hH8 hH (clC_fr C1 he.2 (fun _ => rfl)) (clC_fr C2 he.2 (fun _ => rfl)) (a := -(r : Int) + i) (b := -(r : Int) + k) (by omega) (by omega) (by omega) (by omega)
      obtain ⟨e1, f1, f2, f3⟩ := offer_s (S := S) (W := W) (H := H) (n := n) (u := -(r : Int) + i) (v := -(r : Int) + k) he.1 (G' := fun x y => -(r : Int) ≤ x ∧ x ≤ r ∧ -(r : Int) ≤ y ∧ (y < -(r : Int) + k ∨ y = -(r : Int) + k ∧ x < -(r : Int) + ((i + 1 : Nat) : Int))) (fun x y => by (try dsimp only); omega) (fun x y q => by (try dsimp only at q); omega) (by omega) (fun x y => cost_lt hW hH _ _ _ _)
      refine ⟨e1, ⟨f2, fr_tr he.2 f3⟩, fun o ho => w_X8_findCoarse_17 S _ _ _ _ _ _ ?_⟩
      refine c_iff (fun q => by
        rw [← zI_n (by omega)] at q
        have := (zI_lt (by omega) (by omega) (by omega) (by omega)).mp q
        omega) ?_
      refine c_ob (by omega) (by rfl) ?_
      refine c_qI cs ?_
      refine c_ob (by omega) (by rfl) ?_
      refine c_qV f1 ?_
      refine c_let ?_
      rw [show (1 : Int32) = nI 1 from rfl, zI_1, show -(r : Int) + (i : Int) + 1 = -(r : Int) + ((i + 1 : Nat) : Int) by omega]
      exact ho
    · refine ⟨e, ⟨boI_cong (fun x y => by omega) he.1, he.2⟩, fun o ho => w_X8_findCoarse_17 S _ _ _ _ _ _ ?_⟩
      refine c_ift ?_ ?_
      · rw [← zI_n (by omega)]
        exact (zI_lt (by omega) (by omega) (by omega) (by omega)).mpr (by omega)
      · refine c_let ?_
        rw [show (1 : Int32) = nI 1 from rfl, zI_1, show -(r : Int) + (k : Int) + 1 = -(r : Int) + ((k + 1 : Nat) : Int) by omega]
        exact ho
  · refine ⟨s, ⟨boI_cong (fun x y => by unfold inR; omega) hs.1, hs.2⟩, fun o ho => w_X8_findCoarse_9 S _ _ _ _ _ ?_⟩
    refine c_ift ?_ ?_
    · rw [← zI_n (by omega)]
      exact (zI_lt (by omega) (by omega) (by omega) (by omega)).mpr (by omega)
    · exact ho
theorem findFine_s (hW8 : 8 ≤ W) (hW : W ≤ 64) (hH : H ≤ 64) (eO : m.2.1 73 = O) (oO : okP W H O) (eT : m.2.1 88 = T) (oT : okP W H T) {r : Nat} (hr : r ≤ 16) {a b : Int} (ab : inR ((r : Int) / 4) a b) : ∃ m' dx dy, xM S mX8_findFine [.ref 82, .ref 72, .int (zI (4 * a)), .int (zI (4 * b)), .int (nI r)] (E W H n m) = some (.inl none, E W H n m', 0, 0) ∧ bs (key (mm W H O T)) (inF r a b) dx dy ∧ m'.1 82 11 = zI dx ∧ m'.1 82 12 = zI dy ∧ m'.1 82 13 = nI (mm W H O T dx dy) ∧ fr ofP m m' := by
  unfold inR at ab
  have nr : -(nI r) = zI (-(r : Int)) := by rw [← zI_n (by omega), zI_neg (by omega) (by omega)]
  have er : nI r = zI (r : Int) := (zI_n (by omega)).symm
  have s4 : ∀ z : Int, -100 ≤ z → z ≤ 100 → zI z - (4 : Int32) + (1 : Int32) = zI (z - 3) := fun z h1 h2 => by
    rw [show (4 : Int32) = zI 4 from rfl, show (1 : Int32) = zI 1 from rfl, zI_sub (by omega) (by omega) (by omega) (by omega), zI_add]
    congr 1
    omega
  have a4 : ∀ z : Int, -100 ≤ z → z ≤ 100 → zI z + (4 : Int32) - (1 : Int32) = zI (z + 3) := fun z h1 h2 => by
    rw [show (4 : Int32) = zI 4 from rfl, show (1 : Int32) = zI 1 from rfl, zI_add, zI_sub (by omega) (by omega) (by omega) (by omega)]
    congr 1
    omega
  obtain ⟨sx, esx⟩ : ∃ z, z = max (-(r : Int)) (4 * a - 3) := ⟨_, rfl⟩
  obtain ⟨ex, eex⟩ : ∃ z, z = min (r : Int) (4 * a + 3) := ⟨_, rfl⟩
  obtain ⟨sy, esy⟩ : ∃ z, z = max (-(r : Int)) (4 * b - 3) := ⟨_, rfl⟩
  obtain ⟨ey, eey⟩ : ∃ z, z = min (r : Int) (4 * b + 3) := ⟨_, rfl⟩
  have m1 := max_z S (E W H n m) (x := -(r : Int)) (y := 4 * a - 3) (by omega) (by omega) (by omega) (by omega)
  have m2 := min_z S (E W H n m) (x := (r : Int)) (y := 4 * a + 3) (by omega) (by omega) (by omega) (by omega)
  have m3 := max_z S (E W H n m) (x := -(r : Int)) (y := 4 * b - 3) (by omega) (by omega) (by omega) (by omega)
  have m4 := min_z S (E W H n m) (x := (r : Int)) (y := 4 * b + 3) (by omega) (by omega) (by omega) (by omega)
  rw [← esx] at m1
  rw [← eex] at m2
  rw [← esy] at m3
  rw [← eey] at m4
  have L := x_sg (σ := mM) (τ := mM) (D := fun k s => xden S mX8_findFine 60 [(0, .ref 82), (1, .ref 72), (5, .int (zI sx)), (6, .int (zI ex)), (8, .int (zI ey)), (9, .int (zI (sy + k)))] [] (E W H n s)) (Inv := fun k s => boI s (mm W H O T) (fun x y => sx ≤ x ∧ x ≤ ex ∧ sy ≤ y ∧ y < sy + k) ∧ fr ofP m s)
    (F := fun s => some (.inl none, E W H n s, 0, 0)) (Post := fun s => boI s (mm W H O T) (inF r a b) ∧ fr ofP m s) (ey - sy + 1).toNat (fun k hk s hs => ?_) (fun s hs => ?_) (sI m 82 13 (nI 1000000)) ⟨Or.inl ⟨fun x y q => by omega, sI_eq ⟨rfl, rfl⟩⟩, fr_sI fr_rf (by rfl)⟩
  · obtain ⟨m', ⟨k1, k2⟩, k3⟩ := L
    rcases k1 with ⟨e1, _⟩ | ⟨x, y, e1, e2, e3, e4⟩
    · exact absurd (show inF r a b (4 * a) (4 * b) by unfold inF inR; omega) (e1 _ _)
    · refine ⟨m', x, y, ?_, e1, e2, e3, e4, k2⟩
      refine w_X8_findFine S _ _ _ _ _ _ _ ?_
      rw [nr, s4 (4 * a) (by omega) (by omega), a4 (4 * a) (by omega) (by omega), s4 (4 * b) (by omega) (by omega), a4 (4 * b) (by omega) (by omega)]
      refine c_qI m1 ?_
      rw [er]
      refine c_qI m2 ?_
      refine c_qI m3 ?_
      refine c_qI m4 ?_
      refine c_pi (by omega) (by rfl) (by rfl) (by rfl) (xPok_int (by decide) (by rfl)) ?_
      have k3 := k3 _ rfl
      rw [show sy + ((0 : Nat) : Int) = sy by omega] at k3
      exact k3
  · left
    have L2 := x_sg (σ := mM) (τ := mM) (D := fun i s => xden S mX8_findFine 71 [(0, .ref 82), (1, .ref 72), (5, .int (zI sx)), (6, .int (zI ex)), (8, .int (zI ey)), (9, .int (zI (sy + k))), (10, .int (zI (sx + i)))] [] (E W H n s)) (Inv := fun i s => boI s (mm W H O T) (fun x y => sx ≤ x ∧ x ≤ ex ∧ sy ≤ y ∧ (y < sy + k ∨ y = sy + k ∧ x < sx + i)) ∧ fr ofP m s)
      (F := fun s => xden S mX8_findFine 60 [(0, .ref 82), (1, .ref 72), (5, .int (zI sx)), (6, .int (zI ex)), (8, .int (zI ey)), (9, .int (zI (sy + ((k + 1 : Nat) : Int))))] [] (E W H n s)) (Post := fun s => boI s (mm W H O T) (fun x y => sx ≤ x ∧ x ≤ ex ∧ sy ≤ y ∧ y < sy + ((k + 1 : Nat) : Int)) ∧ fr ofP m s) (ex - sx + 1).toNat (fun i hi e he => ?_) (fun e he => ?_) s ⟨boI_cong (fun x y => by omega) hs.1, hs.2⟩
    · obtain ⟨e, k1, k2⟩ := L2
      refine ⟨e, k1, fun o ho => ?_⟩
      have k2 := k2 o ho
      rw [show sx + ((0 : Nat) : Int) = sx by omega] at k2
      refine w_X8_findFine_60 S _ _ _ _ _ _ _ _ ?_
      refine c_iff (fun q => by
        have := (zI_lt (by omega) (by omega) (by omega) (by omega)).mp q
        omega) ?_
      exact k2
    · left
      have cs := costOf_s (S := S) (n := n) (m := e) hW8 hW hH (by rw [← eO]; exact fr_L he.2 73 (fun _ => rfl)) oO (by rw [← eT]; exact fr_L he.2 88 (fun _ => rfl)) oT (x := sx + i) (y := sy + k) (by omega) (by omega) (by omega) (by omega)
      obtain ⟨e1, f1, f2, f3⟩ := offer_s (S := S) (W := W) (H := H) (n := n) (u := sx + i) (v := sy + k) he.1 (G' := fun x y => sx ≤ x ∧ x ≤ ex ∧ sy ≤ y ∧ (y < sy + k ∨ y = sy + k ∧ x < sx + ((i + 1 : Nat) : Int))) (fun x y => by (try dsimp only); omega) (fun x y q => by (try dsimp only at q); omega) (by omega) (fun x y => Nat.le_trans (mm_le _ _ _ _ _ _) (by decide))
      refine ⟨e1, ⟨f2, fr_tr he.2 f3⟩, fun o ho => w_X8_findFine_71 S _ _ _ _ _ _ _ _ _ ?_⟩
      refine c_iff (fun q => by
        have := (zI_lt (by omega) (by omega) (by omega) (by omega)).mp q
        omega) ?_
      refine c_ob (by omega) (by rfl) ?_
      refine c_qI cs ?_
      refine c_ob (by omega) (by rfl) ?_
      refine c_qV f1 ?_
      refine c_let ?_
      rw [show (1 : Int32) = nI 1 from rfl, zI_1, show sx + (i : Int) + 1 = sx + ((i + 1 : Nat) : Int) by omega]
      exact ho
    · refine ⟨e, ⟨boI_cong (fun x y => by omega) he.1, he.2⟩, fun o ho => w_X8_findFine_71 S _ _ _ _ _ _ _ _ _ ?_⟩
      refine c_ift ((zI_lt (by omega) (by omega) (by omega) (by omega)).mpr (by omega)) ?_
      refine c_let ?_
      rw [show (1 : Int32) = nI 1 from rfl, zI_1, show sy + (k : Int) + 1 = sy + ((k + 1 : Nat) : Int) by omega]
      exact ho
  · refine ⟨s, ⟨boI_cong (fun x y => by unfold inF inR; omega) hs.1, hs.2⟩, fun o ho => w_X8_findFine_60 S _ _ _ _ _ _ _ _ ?_⟩
    refine c_ift ((zI_lt (by omega) (by omega) (by omega) (by omega)).mpr (by omega)) ?_
    exact ho
/-- what one try of the class changes -/
def tcP (a _j : Nat) : Bool := a == 82 || (a == 84 || (a == 86 || a == 88))
theorem of_tc : ∀ a j, tcP a j = false → ofP a j = false := fun a j w => by
  unfold tcP at w
  unfold ofP
  rw [Bool.or_eq_false_iff] at w
  rw [w.1]
  rfl
theorem lk_tc : ∀ a j, tcP a j = false → lkP a j = false := fun a j w => by
  unfold tcP at w
  unfold lkP
  rw [Bool.or_eq_false_iff, Bool.or_eq_false_iff] at w
  exact w.2.2
theorem c84_tc : ∀ a j, tcP a j = false → (fun (b _j : Nat) => b == 84) a j = false := fun a j w => by
  unfold tcP at w
  rw [Bool.or_eq_false_iff, Bool.or_eq_false_iff] at w
  exact w.2.1
theorem try_s (hW8 : 8 ≤ W) (hW : W ≤ 64) (hH8 : 8 ≤ H) (hH : H ≤ 64) (eO : m.2.1 73 = O) (oO : okP W H O) (eC : m.2.1 75 = C) (oC : okP W H C) (o86 : okP W H (m.2.1 86)) (o88 : okP W H (m.2.1 88)) (C1 : clC m W H 83 O) {r sk : Nat} (hr : r ≤ 16) (hsk : sk ≤ 2) {x5 : Int32} (t : Bool) {k : Nat} (hk : k ≤ 2 * sk) (B : chI m W H O C r (trP sk t.toNat k)) :
    ∃ m', okP W H (m'.2.1 86) ∧ okP W H (m'.2.1 88) ∧ chI m' W H O C r (trP sk t.toNat (k + 1)) ∧ fr tcP m m' ∧ ∀ {o : xO}, xden S mX8_search 36 [(0, .ref 82), (1, .ref 72), (2, .ref 74), (3, .int (nI r)), (4, .int (nI sk)), (5, .int x5), (6, .int (nI t.toNat)), (7, .int (nI (k + 1)))] [] (E W H n m') = some o → xden S mX8_search 82 [(0, .ref 82), (1, .ref 72), (2, .ref 74), (3, .int (nI r)), (4, .int (nI sk)), (5, .int x5), (6, .int (nI t.toNat)), (7, .int (nI k)), (8, .int (zI (skw k)))] [.int (bz t), .ref 74, .ref 82] (E W H n m) = some o := by
  obtain ⟨_, s1, s2⟩ := skw_all k (by omega)
  obtain ⟨m1, k1, k2, k3, k4⟩ := look_s (S := S) (n := n) hW8 hW hH8 hH eC oC o86 o88 t s1 s2
  obtain ⟨T, eT⟩ : ∃ T, m1.2.1 88 = T := ⟨_, rfl⟩
  rw [eT] at k2
  have I87 := im_82.2.2.2.2.2.2.1
  obtain ⟨m2, j1, j2, j3⟩ := countCells_s (S := S) (n := n) hW8 hW hH8 hH I87 eT k2.1 (Or.inr rfl)
  have F2 : fr tcP m m2 := fr_tr (fr_mono k4 lk_tc) (fr_mono j3 c84_tc)
  obtain ⟨m3, a, b, g1, g2, g3, g4, g5⟩ := findCoarse_s (S := S) (n := n) hW8 hW hH8 hH (clC_fr C1 F2 (fun _ => rfl)) j2 (r := r / 4) (by omega)
  have F3 : fr tcP m m3 := fr_tr F2 (fr_mono g5 of_tc)
  have g2' : bs (key (cost W H O T)) (inR ((r : Int) / 4)) a b := g2
  have eT3 : m3.2.1 88 = T := by rw [fr_L g5 88 (fun _ => rfl), fr_L j3 88 (fun _ => rfl)]; exact eT
  have ab := g2'.1
  obtain ⟨m4, dx, dy, f1, f2, f3, f4, f5, f6⟩ := findFine_s (S := S) (n := n) hW8 hW hH (by rw [← eO]; exact fr_L F3 73 (fun _ => rfl)) oO eT3 k2.1 hr ab
  have F4 : fr tcP m m4 := fr_tr F3 (fr_mono f6 of_tc)
  have TR : tryP W H O C r t k (mm W H O T dx dy) dx dy := ⟨T, k2, ⟨a, b, g2', f2⟩, rfl⟩
  have cm := mm_le W H O T dx dy
  have ok86 : okP W H (m4.2.1 86) := by rw [fr_L f6 86 (fun _ => rfl), fr_L g5 86 (fun _ => rfl), fr_L j3 86 (fun _ => rfl)]; exact k3
  have ok88 : okP W H (m4.2.1 88) := by rw [fr_L f6 88 (fun _ => rfl), eT3]; exact k2.1
  have m2a : m4.1 82 6 = m.1 82 6 ∧ m4.1 82 7 = m.1 82 7 ∧ m4.1 82 8 = m.1 82 8 ∧ m4.1 82 9 = m.1 82 9 ∧ m4.1 82 10 = m.1 82 10 := by
    refine ⟨?_, ?_, ?_, ?_, ?_⟩ <;> rw [fr_i f6 82 _ rfl, fr_i g5 82 _ rfl, fr_i j3 82 _ rfl, fr_i k4 82 _ rfl]
  obtain ⟨q6, q7, q8, q9, q10⟩ := m2a
  have eP : ∀ t' k', trP sk t.toNat (k + 1) t' k' ↔ trP sk t.toNat k t' k' ∨ t' = t ∧ k' = k := fun t' k' => by
    unfold trP
    cases t <;> cases t' <;> simp <;> omega
  have hb : ∀ t' k', trP sk t.toNat k t' k' → bef t' k' t k := fun t' k' => by
    unfold trP bef
    cases t <;> cases t' <;> simp <;> omega
  have hr' : (0 : Int) ≤ r ∧ (r : Int) ≤ 16 := by omega
  have d4 : nI r / (4 : Int32) = nI (r / 4) := n_div (by omega) (by decide) (by decide)
  unfold inR at ab
  have e4 : ∀ z : Int, -100 ≤ z → z ≤ 100 → (4 : Int32) * zI z = zI (4 * z) := fun z h1 h2 => by
    rw [show (4 : Int32) = zI 4 from rfl, zI_mul (by omega) (by omega) (by omega) (by omega) (by omega) (by omega)]
  have start : ∀ {o : xO}, ((xGi (E W H n m4) 82 8 13).bind fun v17 => (xGi (E W H n m4) 82 8 10).bind fun v18 => if v18 ≤ v17 then (xlet (nI k + (1 : Int32)) fun v19 => (xden S mX8_search 36 [(0, .ref 82), (1, .ref 72), (2, .ref 74), (3, .int (nI r)), (4, .int (nI sk)), (5, .int x5), (6, .int (nI t.toNat)), (7, .int v19)] [] (E W H n m4))) else ((xGi (E W H n m4) 82 8 11).bind fun v20 => (xP false 8 (E W H n m4) 82 8 6 (.int v20)).bind fun h21 => (xGi h21 82 8 12).bind fun v22 => (xP false 8 h21 82 8 7 (.int v22)).bind fun h23 => (xP false 8 h23 82 8 8 (.int (zI (skw k)))).bind fun h24 => if ¬ nI t.toNat = (1 : Int32) then ((xP false 8 h24 82 8 9 (.int (0 : Int32))).bind fun h25 => (xGi h25 82 8 13).bind fun v26 => (xP false 8 h25 82 8 10 (.int v26)).bind fun h27 => xlet (nI k + (1 : Int32)) fun v28 => (xden S mX8_search 36 [(0, .ref 82), (1, .ref 72), (2, .ref 74), (3, .int (nI r)), (4, .int (nI sk)), (5, .int x5), (6, .int (nI t.toNat)), (7, .int v28)] [] h27)) else ((xP false 8 h24 82 8 9 (.int (1 : Int32))).bind fun h29 => (xGi h29 82 8 13).bind fun v30 => (xP false 8 h29 82 8 10 (.int v30)).bind fun h31 => xlet (nI k + (1 : Int32)) fun v32 => (xden S mX8_search 36 [(0, .ref 82), (1, .ref 72), (2, .ref 74), (3, .int (nI r)), (4, .int (nI sk)), (5, .int x5), (6, .int (nI t.toNat)), (7, .int v32)] [] h31)))) = some o → xden S mX8_search 82 [(0, .ref 82), (1, .ref 72), (2, .ref 74), (3, .int (nI r)), (4, .int (nI sk)), (5, .int x5), (6, .int (nI t.toNat)), (7, .int (nI k)), (8, .int (zI (skw k)))] [.int (bz t), .ref 74, .ref 82] (E W H n m) = some o := fun {o} ho => by
    refine w_X8_search_82 S _ _ _ _ _ _ _ _ _ _ _ _ _ _ ?_
    refine c_ob (by omega) (by rfl) ?_
    refine c_qV k1 ?_
    refine c_gr (by omega) (by rfl) (by rfl) (by rfl) ?_
    refine c_gr (by omega) (by rfl) (by rfl) (by rfl) ?_
    refine c_ob (by omega) (by rfl) ?_
    refine c_qV j1 ?_
    refine c_ob (by omega) (by rfl) ?_
    rw [d4]
    refine c_qV g1 ?_
    refine c_gi (by omega) (by rfl) (by rfl) (by rfl) ?_
    refine c_gi (by omega) (by rfl) (by rfl) (by rfl) ?_
    refine c_ob (by omega) (by rfl) ?_
    rw [g3, g4, e4 a (by omega) (by omega), e4 b (by omega) (by omega)]
    refine c_qV f1 ?_
    exact ho
  have new : (∀ {z : Int32}, m4.1 82 10 = z → nI (mm W H O T dx dy) < z → chO W H O C r (trP sk t.toNat (k + 1)) t k (mm W H O T dx dy) dx dy → ∃ m', okP W H (m'.2.1 86) ∧ okP W H (m'.2.1 88) ∧ chI m' W H O C r (trP sk t.toNat (k + 1)) ∧ fr tcP m m' ∧ ∀ {o : xO}, xden S mX8_search 36 [(0, .ref 82), (1, .ref 72), (2, .ref 74), (3, .int (nI r)), (4, .int (nI sk)), (5, .int x5), (6, .int (nI t.toNat)), (7, .int (nI (k + 1)))] [] (E W H n m') = some o → xden S mX8_search 82 [(0, .ref 82), (1, .ref 72), (2, .ref 74), (3, .int (nI r)), (4, .int (nI sk)), (5, .int x5), (6, .int (nI t.toNat)), (7, .int (nI k)), (8, .int (zI (skw k)))] [.int (bz t), .ref 74, .ref 82] (E W H n m) = some o) := fun {z} hz lt CH => by
    refine ⟨sI (sI (sI (sI (sI m4 82 6 (zI dx)) 82 7 (zI dy)) 82 8 (zI (skw k))) 82 9 (bz t)) 82 10 (nI (mm W H O T dx dy)), ok86, ok88, Or.inr ⟨t, k, _, dx, dy, CH, ?_, ?_, ?_, ?_, ?_⟩, fr_sI (fr_sI (fr_sI (fr_sI (fr_sI F4 (by rfl)) (by rfl)) (by rfl)) (by rfl)) (by rfl), fun {o} ho => start ?_⟩
    · rw [sI_ne (by omega), sI_ne (by omega), sI_ne (by omega), sI_ne (by omega), sI_eq ⟨rfl, rfl⟩]
    · rw [sI_ne (by omega), sI_ne (by omega), sI_ne (by omega), sI_eq ⟨rfl, rfl⟩]
    · rw [sI_ne (by omega), sI_ne (by omega), sI_eq ⟨rfl, rfl⟩]
    · rw [sI_ne (by omega), sI_eq ⟨rfl, rfl⟩]
    · rw [sI_eq ⟨rfl, rfl⟩]
    · have nlt : ¬ z ≤ nI (mm W H O T dx dy) := fun q => by
        have := (fa_le _ _).mp q
        have := (fa_lt _ _).mp lt
        omega
      refine c_gi (by omega) (by rfl) (by rfl) (by rfl) ?_
      refine c_gi (by omega) (by rfl) (by rfl) (by rfl) ?_
      rw [f5, hz]
      refine c_iff nlt ?_
      cases t
      · have q1 : ¬ nI (Bool.toNat false) = (1 : Int32) := by decide
        repeat (first | (with_reducible refine c_let ?_) | ((with_reducible refine c_ob ?_ ?_ ?_); (focus (first | omega | assumption)); (focus (first | rfl | assumption))) | ((with_reducible show Option.bind (xGr _ _ _ _) _ = _); (first | refine c_gr (by first | omega | assumption) (by first | rfl | assumption) (by rfl) (by rfl) ?_)) | ((with_reducible show Option.bind (xGi _ _ _ _) _ = _); (first | refine c_gi (by first | omega | assumption) (by first | rfl | assumption) (by rfl) (by rfl) ?_ | refine c_gW (by first | omega | assumption) (by first | rfl | assumption) (by rfl) (by rfl) ?_ | refine c_gH (by first | omega | assumption) (by first | rfl | assumption) (by rfl) (by rfl) ?_ | refine c_gA (by first | omega | assumption) (by first | rfl | assumption) (by rfl) (by rfl) ?_ | refine c_gb (by first | omega | assumption) (by first | rfl | assumption) (by rfl) (by rfl) ?_)) | ((with_reducible show Option.bind (xRi _ _ _ _) _ = _); (first | refine c_ri (by first | omega | assumption) (by first | rfl | assumption) (by first | rfl | assumption) (by with_reducible rfl) (by first | omega | ((conv => rhs; whnf); first | omega | (show _ < OfNat.ofNat (α := Nat) _; omega))) (by first | omega | ((conv => lhs; whnf); first | omega | (show OfNat.ofNat (α := Nat) _ < _; omega))) (by decide) ?_)) | ((with_reducible show Option.bind (xRl _ _ _) _ = _); (first | refine c_rl (by first | omega | assumption) (by first | rfl | assumption) (by with_reducible rfl) (by first | omega | ((conv => rhs; whnf); first | omega | (show _ < OfNat.ofNat (α := Nat) _; omega))) (by first | omega | ((conv => lhs; whnf); first | omega | (show OfNat.ofNat (α := Nat) _ < _; omega))) ?_)) | ((with_reducible show Option.bind (xP _ _ _ _ _ _ (.int _)) _ = _); (first | refine c_pi (by first | omega | assumption) (by first | rfl | assumption) (by rfl) (by rfl) (xPok_bool (by decide) (by rfl) (Or.inl rfl)) ?_ | refine c_pi (by first | omega | assumption) (by first | rfl | assumption) (by rfl) (by rfl) (xPok_int (by decide) (by rfl)) ?_)) | ((with_reducible show Option.bind (xWi _ _ _ _) _ = _); (first | refine c_wi (by first | omega | assumption) (by first | rfl | assumption) (by first | rfl | assumption) (by with_reducible rfl) (by first | omega | ((conv => rhs; whnf); first | omega | (show _ < OfNat.ofNat (α := Nat) _; omega))) (by first | omega | ((conv => lhs; whnf); first | omega | (show OfNat.ofNat (α := Nat) _ < _; omega))) ?_)) | ((with_reducible show Option.bind (xWl _ _ _ _) _ = _); (first | refine c_wl (by first | omega | assumption) (by first | rfl | assumption) (by with_reducible rfl) (by first | omega | ((conv => rhs; whnf); first | omega | (show _ < OfNat.ofNat (α := Nat) _; omega))) (by first | omega | ((conv => lhs; whnf); first | omega | (show OfNat.ofNat (α := Nat) _ < _; omega))) ?_)) | ((with_reducible show Option.bind (xRz _ _) _ = _); (first | refine c_rz (by first | omega | assumption) (by first | rfl | assumption) (by first | assumption | rfl) ?_)) | ((with_reducible show Option.bind (xGl _ _ _ _) _ = _); (first | refine c_gl (by first | omega | assumption) (by first | rfl | assumption) (by rfl) (by rfl) ?_ | refine c_gw (by first | omega | assumption) (by first | rfl | assumption) (by rfl) (by rfl) ?_)) | (with_reducible refine c_nz ?_) | ((with_reducible refine c_ift ?_ ?_); (focus exact q1)) | ((with_reducible refine c_ift ?_ ?_); (focus (first | assumption | omega | (simp (disch := omega) only [n_lit, nI_add, pk_mul, pk_sub, n_div, sub_dm, Int32.toInt_toInt64, nI_toInt, sI_ne, sI_eq, sI_2, sL_1, sL_ne, sL_eq, sL_3, sR_1, sR_2, sR_ne, sR_eq, aI_ne, aI_eq, aI_2, aL_1, aL_ne, aL_eq, aL_3, Nat.add_zero, Nat.zero_add, Nat.reduceAdd, Nat.reduceMul, Nat.reduceSub, Nat.mul_zero, Nat.zero_mul, nI_ltI, nI_leI, nI_eq, bz_0, bz_1, t_0, decide_eq_false_iff_not, decide_eq_true_eq, Bool.and_eq_true, Bool.and_eq_false_imp, Bool.not_eq_true, Bool.not_eq_false, eq_self, not_true_eq_false, not_false_eq_true, reduceCtorEq, f3, f4, f5]; (try omega); done) | fail))) | ((with_reducible refine c_iff ?_ ?_); (focus (first | assumption | omega | (simp (disch := omega) only [n_lit, nI_add, pk_mul, pk_sub, n_div, sub_dm, Int32.toInt_toInt64, nI_toInt, sI_ne, sI_eq, sI_2, sL_1, sL_ne, sL_eq, sL_3, sR_1, sR_2, sR_ne, sR_eq, aI_ne, aI_eq, aI_2, aL_1, aL_ne, aL_eq, aL_3, Nat.add_zero, Nat.zero_add, Nat.reduceAdd, Nat.reduceMul, Nat.reduceSub, Nat.mul_zero, Nat.zero_mul, nI_ltI, nI_leI, nI_eq, bz_0, bz_1, t_0, decide_eq_false_iff_not, decide_eq_true_eq, Bool.and_eq_true, Bool.and_eq_false_imp, Bool.not_eq_true, Bool.not_eq_false, eq_self, not_true_eq_false, not_false_eq_true, reduceCtorEq, f3, f4, f5]; (try omega); done) | fail))) | simp (disch := omega) only [n_lit, nI_add, pk_mul, pk_sub, n_div, sub_dm, Int32.toInt_toInt64, nI_toInt, sI_ne, sI_eq, sI_2, sL_1, sL_ne, sL_eq, sL_3, sR_1, sR_2, sR_ne, sR_eq, aI_ne, aI_eq, aI_2, aL_1, aL_ne, aL_eq, aL_3, Nat.add_zero, Nat.zero_add, Nat.reduceAdd, Nat.reduceMul, Nat.reduceSub, Nat.mul_zero, Nat.zero_mul, f3, f4, f5])
        exact ho
      · have q1 : ¬ ¬ nI (Bool.toNat true) = (1 : Int32) := by decide
        repeat (first | (with_reducible refine c_let ?_) | ((with_reducible refine c_ob ?_ ?_ ?_); (focus (first | omega | assumption)); (focus (first | rfl | assumption))) | ((with_reducible show Option.bind (xGr _ _ _ _) _ = _); (first | refine c_gr (by first | omega | assumption) (by first | rfl | assumption) (by rfl) (by rfl) ?_)) | ((with_reducible show Option.bind (xGi _ _ _ _) _ = _); (first | refine c_gi (by first | omega | assumption) (by first | rfl | assumption) (by rfl) (by rfl) ?_ | refine c_gW (by first | omega | assumption) (by first | rfl | assumption) (by rfl) (by rfl) ?_ | refine c_gH (by first | omega | assumption) (by first | rfl | assumption) (by rfl) (by rfl) ?_ | refine c_gA (by first | omega | assumption) (by first | rfl | assumption) (by rfl) (by rfl) ?_ | refine c_gb (by first | omega | assumption) (by first | rfl | assumption) (by rfl) (by rfl) ?_)) | ((with_reducible show Option.bind (xRi _ _ _ _) _ = _); (first | refine c_ri (by first | omega | assumption) (by first | rfl | assumption) (by first | rfl | assumption) (by with_reducible rfl) (by first | omega | ((conv => rhs; whnf); first | omega | (show _ < OfNat.ofNat (α := Nat) _; omega))) (by first | omega | ((conv => lhs; whnf); first | omega | (show OfNat.ofNat (α := Nat) _ < _; omega))) (by decide) ?_)) | ((with_reducible show Option.bind (xRl _ _ _) _ = _); (first | refine c_rl (by first | omega | assumption) (by first | rfl | assumption) (by with_reducible rfl) (by first | omega | ((conv => rhs; whnf); first | omega | (show _ < OfNat.ofNat (α := Nat) _; omega))) (by first | omega | ((conv => lhs; whnf); first | omega | (show OfNat.ofNat (α := Nat) _ < _; omega))) ?_)) | ((with_reducible show Option.bind (xP _ _ _ _ _ _ (.int _)) _ = _); (first | refine c_pi (by first | omega | assumption) (by first | rfl | assumption) (by rfl) (by rfl) (xPok_bool (by decide) (by rfl) (Or.inr rfl)) ?_ | refine c_pi (by first | omega | assumption) (by first | rfl | assumption) (by rfl) (by rfl) (xPok_int (by decide) (by rfl)) ?_)) | ((with_reducible show Option.bind (xWi _ _ _ _) _ = _); (first | refine c_wi (by first | omega | assumption) (by first | rfl | assumption) (by first | rfl | assumption) (by with_reducible rfl) (by first | omega | ((conv => rhs; whnf); first | omega | (show _ < OfNat.ofNat (α := Nat) _; omega))) (by first | omega | ((conv => lhs; whnf); first | omega | (show OfNat.ofNat (α := Nat) _ < _; omega))) ?_)) | ((with_reducible show Option.bind (xWl _ _ _ _) _ = _); (first | refine c_wl (by first | omega | assumption) (by first | rfl | assumption) (by with_reducible rfl) (by first | omega | ((conv => rhs; whnf); first | omega | (show _ < OfNat.ofNat (α := Nat) _; omega))) (by first | omega | ((conv => lhs; whnf); first | omega | (show OfNat.ofNat (α := Nat) _ < _; omega))) ?_)) | ((with_reducible show Option.bind (xRz _ _) _ = _); (first | refine c_rz (by first | omega | assumption) (by first | rfl | assumption) (by first | assumption | rfl) ?_)) | ((with_reducible show Option.bind (xGl _ _ _ _) _ = _); (first | refine c_gl (by first | omega | assumption) (by first | rfl | assumption) (by rfl) (by rfl) ?_ | refine c_gw (by first | omega | assumption) (by first | rfl | assumption) (by rfl) (by rfl) ?_)) | (with_reducible refine c_nz ?_) | ((with_reducible refine c_iff ?_ ?_); (focus exact q1)) | ((with_reducible refine c_ift ?_ ?_); (focus (first | assumption | omega | (simp (disch := omega) only [n_lit, nI_add, pk_mul, pk_sub, n_div, sub_dm, Int32.toInt_toInt64, nI_toInt, sI_ne, sI_eq, sI_2, sL_1, sL_ne, sL_eq, sL_3, sR_1, sR_2, sR_ne, sR_eq, aI_ne, aI_eq, aI_2, aL_1, aL_ne, aL_eq, aL_3, Nat.add_zero, Nat.zero_add, Nat.reduceAdd, Nat.reduceMul, Nat.reduceSub, Nat.mul_zero, Nat.zero_mul, nI_ltI, nI_leI, nI_eq, bz_0, bz_1, t_0, decide_eq_false_iff_not, decide_eq_true_eq, Bool.and_eq_true, Bool.and_eq_false_imp, Bool.not_eq_true, Bool.not_eq_false, eq_self, not_true_eq_false, not_false_eq_true, reduceCtorEq, f3, f4, f5]; (try omega); done) | fail))) | ((with_reducible refine c_iff ?_ ?_); (focus (first | assumption | omega | (simp (disch := omega) only [n_lit, nI_add, pk_mul, pk_sub, n_div, sub_dm, Int32.toInt_toInt64, nI_toInt, sI_ne, sI_eq, sI_2, sL_1, sL_ne, sL_eq, sL_3, sR_1, sR_2, sR_ne, sR_eq, aI_ne, aI_eq, aI_2, aL_1, aL_ne, aL_eq, aL_3, Nat.add_zero, Nat.zero_add, Nat.reduceAdd, Nat.reduceMul, Nat.reduceSub, Nat.mul_zero, Nat.zero_mul, nI_ltI, nI_leI, nI_eq, bz_0, bz_1, t_0, decide_eq_false_iff_not, decide_eq_true_eq, Bool.and_eq_true, Bool.and_eq_false_imp, Bool.not_eq_true, Bool.not_eq_false, eq_self, not_true_eq_false, not_false_eq_true, reduceCtorEq, f3, f4, f5]; (try omega); done) | fail))) | simp (disch := omega) only [n_lit, nI_add, pk_mul, pk_sub, n_div, sub_dm, Int32.toInt_toInt64, nI_toInt, sI_ne, sI_eq, sI_2, sL_1, sL_ne, sL_eq, sL_3, sR_1, sR_2, sR_ne, sR_eq, aI_ne, aI_eq, aI_2, aL_1, aL_ne, aL_eq, aL_3, Nat.add_zero, Nat.zero_add, Nat.reduceAdd, Nat.reduceMul, Nat.reduceSub, Nat.mul_zero, Nat.zero_mul, f3, f4, f5])
        exact ho
  rcases B with ⟨h1, h2⟩ | ⟨t0, k0, c0, x0, y0, h1, h2, h3, h4, h5, h6⟩
  · exact new (q10.trans h2) ((nI_ltI (by omega) (by omega)).mpr (by omega)) (chO_first hr' h1 eP TR)
  · have cn := chO_new hr' h1 eP hb TR
    have c0l := tryP_c h1.2.1
    by_cases d : mm W H O T dx dy < c0
    · exact new (q10.trans h6) ((nI_ltI (by omega) (by omega)).mpr d) (cn.1 d)
    · refine ⟨m4, ok86, ok88, Or.inr ⟨t0, k0, c0, x0, y0, cn.2 (by omega), by rw [q6]; exact h2, by rw [q7]; exact h3, by rw [q8]; exact h4, by rw [q9]; exact h5, by rw [q10]; exact h6⟩, F4, fun {o} ho => start ?_⟩
      refine c_gi (by omega) (by rfl) (by rfl) (by rfl) ?_
      refine c_gi (by omega) (by rfl) (by rfl) (by rfl) ?_
      rw [f5, q10, h6]
      refine c_ift ((nI_leI (by omega) (by omega)).mpr (by omega)) ?_
      refine c_let ?_
      rw [show (1 : Int32) = nI 1 from rfl, nI_add]
      exact ho
def srP (a _j : Nat) : Bool := a == 82 || (a == 83 || (a == 84 || (a == 86 || a == 88)))
theorem search_s (hW8 : 8 ≤ W) (hW : W ≤ 64) (hH8 : 8 ≤ H) (hH : H ≤ 64) (eO : m.2.1 73 = O) (oO : okP W H O) (eC : m.2.1 75 = C) (oC : okP W H C) (o86 : okP W H (m.2.1 86)) (o88 : okP W H (m.2.1 88)) {r sk : Nat} (hr : r ≤ 16) (hsk : sk ≤ 2) (tm : Bool) : ∃ m' t k c dx dy, xM S mX8_search [.ref 82, .ref 72, .ref 74, .int (nI r), .int (nI sk), .int (bz tm)] (E W H n m) = some (.inl none, E W H n m', 0, 0) ∧ chO W H O C r (trP sk (tm.toNat + 1) 0) t k c dx dy ∧ m'.1 82 6 = zI dx ∧ m'.1 82 7 = zI dy ∧ m'.1 82 8 = zI (skw k) ∧ m'.1 82 9 = bz t ∧ m'.1 82 10 = nI c ∧ isT W H C t (skw k) (m'.2.1 88) ∧ okP W H (m'.2.1 86) ∧ fr srP m m' := by
  have I72 := im_82.1
  obtain ⟨m1, k1, k2, k3⟩ := countCells_s (S := S) (n := n) hW8 hW hH8 hH I72 eO oO (Or.inl rfl)
  have sr83 : ∀ a j, srP a j = false → (fun (b _j : Nat) => b == 83) a j = false := fun a j w => by
    unfold srP at w
    rw [Bool.or_eq_false_iff, Bool.or_eq_false_iff] at w
    exact w.2.1
  have srtc : ∀ a j, srP a j = false → tcP a j = false := fun a j w => by
    unfold srP at w
    unfold tcP
    rw [Bool.or_eq_false_iff, Bool.or_eq_false_iff] at w
    rw [w.1, w.2.2]
    rfl
  generalize hm2 : sI m1 82 10 (nI 1000000) = m2
  have F12 : fr tcP m1 m2 := by rw [← hm2]; exact fr_sI fr_rf (by rfl)
  have F2 : fr srP m m2 := fr_tr (fr_mono k3 sr83) (fr_mono F12 srtc)
  have C2 : clC m2 W H 83 O := clC_fr k2 F12 (fun _ => rfl)
  have e2 : m2.2 = m1.2 := by rw [← hm2]; exact sI_2 _ _ _ _
  have ok86 : okP W H (m2.2.1 86) := by rw [e2, fr_L k3 86 (fun _ => rfl)]; exact o86
  have ok88 : okP W H (m2.2.1 88) := by rw [e2, fr_L k3 88 (fun _ => rfl)]; exact o88
  have eO2 : m2.2.1 73 = O := by rw [fr_L F2 73 (fun _ => rfl)]; exact eO
  have eC2 : m2.2.1 75 = C := by rw [fr_L F2 75 (fun _ => rfl)]; exact eC
  have ch0 : chI m2 W H O C r (trP sk 0 0) := Or.inl ⟨fun t k q => by unfold trP at q; omega, by rw [← hm2]; exact sI_eq ⟨rfl, rfl⟩⟩
  have tm2 : tm.toNat ≤ 1 := Bool.toNat_le tm
  have L := x_sg (σ := mM) (τ := mM) (D := fun u s => xden S mX8_search 18 [(0, .ref 82), (1, .ref 72), (2, .ref 74), (3, .int (nI r)), (4, .int (nI sk)), (5, .int (bz tm)), (6, .int (nI u))] [] (E W H n s)) (Inv := fun u s => okP W H (s.2.1 86) ∧ okP W H (s.2.1 88) ∧ chI s W H O C r (trP sk u 0) ∧ fr tcP m2 s)
    (F := fun s => some (.inl none, E W H n s, 0, 0)) (Post := fun s => ∃ t k c dx dy, chO W H O C r (trP sk (tm.toNat + 1) 0) t k c dx dy ∧ s.1 82 6 = zI dx ∧ s.1 82 7 = zI dy ∧ s.1 82 8 = zI (skw k) ∧ s.1 82 9 = bz t ∧ s.1 82 10 = nI c ∧ isT W H C t (skw k) (s.2.1 88) ∧ okP W H (s.2.1 86) ∧ fr tcP m2 s) (tm.toNat + 1) (fun u hu s hs => ?_) (fun s hs => ?_) m2 ⟨ok86, ok88, ch0, fr_rf⟩
  · obtain ⟨m', ⟨t, k, c, dx, dy, g1, g2, g3, g4, g5, g6, g7, g8, g9⟩, j2⟩ := L
    refine ⟨m', t, k, c, dx, dy, ?_, g1, g2, g3, g4, g5, g6, g7, g8, fr_tr F2 (fr_mono g9 srtc)⟩
    refine w_X8_search S _ _ _ _ _ _ _ _ ?_
    refine c_gr (by omega) (by rfl) (by rfl) (by rfl) ?_
    refine c_ob (by omega) (by rfl) ?_
    refine c_qV k1 ?_
    refine c_pi (by omega) (by rfl) (by rfl) (by rfl) (xPok_int (by decide) (by rfl)) ?_
    have j2 := j2 _ rfl
    rw [← hm2] at j2
    exact j2
  · left
    obtain ⟨t, ht⟩ : ∃ t : Bool, t.toNat = u := by
      rcases (show u = 0 ∨ u = 1 by omega) with q | q
      · exact ⟨false, q.symm⟩
      · exact ⟨true, q.symm⟩
    have L2 := x_sg (σ := mM) (τ := mM) (D := fun k s => xden S mX8_search 36 [(0, .ref 82), (1, .ref 72), (2, .ref 74), (3, .int (nI r)), (4, .int (nI sk)), (5, .int (bz tm)), (6, .int (nI t.toNat)), (7, .int (nI k))] [] (E W H n s)) (Inv := fun k s => okP W H (s.2.1 86) ∧ okP W H (s.2.1 88) ∧ chI s W H O C r (trP sk t.toNat k) ∧ fr tcP m2 s)
      (F := fun s => xden S mX8_search 18 [(0, .ref 82), (1, .ref 72), (2, .ref 74), (3, .int (nI r)), (4, .int (nI sk)), (5, .int (bz tm)), (6, .int (nI (u + 1)))] [] (E W H n s)) (Post := fun s => okP W H (s.2.1 86) ∧ okP W H (s.2.1 88) ∧ chI s W H O C r (trP sk (u + 1) 0) ∧ fr tcP m2 s) (2 * sk + 1) (fun k hk e he => ?_) (fun e he => ?_) s (by rw [ht]; exact hs)
    · obtain ⟨e, g1, g2⟩ := L2
      refine ⟨e, g1, fun o ho => ?_⟩
      have g2 := g2 o ho
      rw [ht] at g2
      refine w_X8_search_18 S _ _ _ _ _ _ _ _ _ ?_
      cases tm
      · refine c_ift (by decide) ?_
        refine c_iff (fun q => by have := (nI_ltI (a := 0) (by omega) (by omega)).mp q; have : u < 0 + 1 := hu; omega) ?_
        exact g2
      · refine c_iff (by decide) ?_
        refine c_iff (fun q => by have := (nI_ltI (a := 1) (by omega) (by omega)).mp q; omega) ?_
        exact g2
    · left
      obtain ⟨h1, h2, h3, h4⟩ := he
      obtain ⟨e1, g1, g2, g3, g4, g5⟩ := try_s (S := S) (n := n) (m := e) hW8 hW hH8 hH (by rw [fr_L h4 73 (fun _ => rfl)]; exact eO2) oO (by rw [fr_L h4 75 (fun _ => rfl)]; exact eC2) oC h1 h2 (clC_fr C2 h4 (fun _ => rfl)) hr hsk (x5 := bz tm) t (k := k) (by omega) h3
      refine ⟨e1, ⟨g1, g2, g3, fr_tr h4 g4⟩, fun o ho => ?_⟩
      have g5 := g5 ho
      refine w_X8_search_36 S _ _ _ _ _ _ _ _ _ _ ?_
      have lt : ¬ (2 : Int32) * nI sk < nI k := fun q => by
        rw [show (2 : Int32) = nI 2 from rfl, pk_mul] at q
        have := (nI_ltI (by omega) (by omega)).mp q
        omega
      refine c_iff lt ?_
      rcases (skw_all k (by omega)).1 with ⟨w1, w2⟩ | ⟨w1, w2⟩
      · refine c_ift w1 ?_
        refine c_let ?_
        rw [show nI k / (2 : Int32) = zI (skw k) from w2]
        cases t
        · refine c_ift (by decide) ?_
          exact g5
        · refine c_iff (by decide) ?_
          exact g5
      · refine c_iff (fun q => q w1) ?_
        refine c_let ?_
        rw [show -(nI k + (1 : Int32)) / (2 : Int32) = zI (skw k) from w2]
        cases t
        · refine c_ift (by decide) ?_
          exact g5
        · refine c_iff (by decide) ?_
          exact g5
    · obtain ⟨h1, h2, h3, h4⟩ := he
      have eqP : ∀ t' k', trP sk t.toNat (2 * sk + 1) t' k' ↔ trP sk (u + 1) 0 t' k' := fun t' k' => by unfold trP; omega
      refine ⟨e, ⟨h1, h2, ?_, h4⟩, fun o ho => w_X8_search_36 S _ _ _ _ _ _ _ _ _ _ ?_⟩
      · rcases h3 with ⟨q1, q2⟩ | ⟨t0, k0, c0, x0, y0, q1, q2⟩
        · exact Or.inl ⟨fun t' k' q => q1 t' k' ((eqP t' k').mpr q), q2⟩
        · exact Or.inr ⟨t0, k0, c0, x0, y0, chO_cong eqP q1, q2⟩
      · have lt : (2 : Int32) * nI sk < nI (2 * sk + 1) := by
          rw [show (2 : Int32) = nI 2 from rfl, pk_mul]
          exact (nI_ltI (by omega) (by omega)).mpr (by omega)
        refine c_ift lt ?_
        refine c_let ?_
        rw [show (1 : Int32) = nI 1 from rfl, nI_add, ht]
        exact ho
  · obtain ⟨h1, h2, h3, h4⟩ := hs
    rcases h3 with ⟨q1, _⟩ | ⟨t, k, c, dx, dy, q1, q2, q3, q4, q5, q6⟩
    · exact absurd (show trP sk (tm.toNat + 1) 0 false 0 from ⟨Nat.zero_le _, Or.inl (Nat.succ_pos _)⟩) (q1 _ _)
    · have kl := q1.1.1
      obtain ⟨_, s1, s2⟩ := skw_all k (by omega)
      obtain ⟨e, g1, g2, g3, g4⟩ := look_s (S := S) (n := n) (m := s) hW8 hW hH8 hH (by rw [fr_L h4 75 (fun _ => rfl)]; exact eC2) oC h1 h2 t s1 s2
      refine ⟨e, ⟨t, k, c, dx, dy, q1, by rw [fr_i g4 82 6 rfl]; exact q2, by rw [fr_i g4 82 7 rfl]; exact q3, by rw [fr_i g4 82 8 rfl]; exact q4, by rw [fr_i g4 82 9 rfl]; exact q5, by rw [fr_i g4 82 10 rfl]; exact q6, g2, g3, fr_tr h4 (fr_mono g4 lk_tc)⟩, fun o ho => ?_⟩
      have fin : ((xGi (E W H n s) 82 8 9).bind fun v6 => (xGi (E W H n s) 82 8 8).bind fun v7 => if xOb (E W H n s) 82 8 = true then xqV (xM S mX8_look [.ref 82, .ref 74, .int v6, .int v7] (E W H n s)) xth fun h9 => some (.inl none, h9, 0, 0) else none) = some o := by
        refine c_gi (by omega) (by rfl) (by rfl) (by rfl) ?_
        refine c_gi (by omega) (by rfl) (by rfl) (by rfl) ?_
        rw [q5, q4]
        refine c_ob (by omega) (by rfl) ?_
        refine c_qV g1 ?_
        exact ho
      refine w_X8_search_18 S _ _ _ _ _ _ _ _ _ ?_
      cases tm
      · refine c_ift (by decide) ?_
        refine c_ift (by decide) ?_
        exact fin
      · refine c_iff (by decide) ?_
        refine c_ift (by decide) ?_
        exact fin
end RI

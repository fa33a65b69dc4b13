/-! REGIONS: blocks that are connected; the model joins them -/
/-- blocks that share a side -/
def ba (i j : Nat) : Prop := (i % 16 = j % 16 ∧ (i / 16 = j / 16 + 1 ∨ j / 16 = i / 16 + 1)) ∨ (i / 16 = j / 16 ∧ (i % 16 = j % 16 + 1 ∨ j % 16 = i % 16 + 1))
theorem ba_sy : ∀ i j, ba i j → ba j i := fun i j h => by unfold ba at h ⊢; omega
/-- changed blocks -/
def chB (c r : Nat) (D : Nat → Nat → Nat) (noise k : Nat) : Bool := decide (k % 16 < c ∧ k / 16 < r ∧ noise < D (k % 16) (k / 16))
/-- the region of a block, as found -/
noncomputable def lbN (P : Nat → Bool) (k : Nat) : Nat := nS ba P (fa_first (fun s => sd ba P s && pB (cn ba P s k)) 256)
noncomputable def labV (P : Nat → Bool) (k : Nat) : Int32 := if P k = true then nI (lbN P k) else -1
theorem lbN_of {P : Nat → Bool} {s k : Nat} (hs : sd ba P s = true) (c : cn ba P s k) (h : s < 256) : lbN P k = nS ba P s := by
  unfold lbN
  have y : (fun s => sd ba P s && pB (cn ba P s k)) s = true := by
    (try dsimp only)
    rw [hs, pB_iff.mpr c]
    rfl
  have le := fa_first_le (fun s => sd ba P s && pB (cn ba P s k)) 256
  have lt : fa_first (fun s => sd ba P s && pB (cn ba P s k)) 256 < 256 := by
    rcases Nat.lt_or_ge (fa_first (fun s => sd ba P s && pB (cn ba P s k)) 256) 256 with q | q
    · exact q
    · exact absurd ((fa_first_no (fun s => sd ba P s && pB (cn ba P s k)) 256 s (by omega)).symm.trans y) Bool.false_ne_true
  have z := fa_first_yes (fun s => sd ba P s && pB (cn ba P s k)) 256 lt
  (try dsimp only at z)
  rw [Bool.and_eq_true, pB_iff] at z
  rw [sd_one ba_sy z.1 hs z.2 c]
theorem lbN_lt {P : Nat → Bool} {k : Nat} (hk : k < 256) (h : P k = true) : ∃ s, s ≤ k ∧ sd ba P s = true ∧ cn ba P s k ∧ lbN P k = nS ba P s ∧ lbN P k < nS ba P 256 := by
  obtain ⟨s, h1, h2, h3⟩ := sd_ex ba_sy (k := k) h
  have e := lbN_of h2 h3 (by omega)
  refine ⟨s, h1, h2, h3, e, ?_⟩
  rw [e]
  have := nS_s (A := ba) (P := P) s
  rw [if_pos h2] at this
  have := nS_mono (A := ba) (P := P) (t := s + 1) (u := 256) (by omega)
  omega
theorem nS_256 (P : Nat → Bool) : nS ba P 256 ≤ 256 := Nat.le_trans (nS_le 256) (fb_ct_le _ _)
section JO
variable {S : xS} {W H n : Nat} {m : mM} {B : Nat} {D : Nat → Nat → Nat} {noise n0 b : Nat} {P : Nat → Bool}
theorem isBlock_s {c r : Nat} (hc : m.1 90 55 = nI c) (hr : m.1 90 56 = nI r) (c1 : 1 ≤ c) (c2 : c ≤ 16) (r1 : 1 ≤ r) (r2 : r ≤ 16) {x y : Int} (x1 : -100 ≤ x) (x2 : x ≤ 100) (y1 : -100 ≤ y) (y2 : y ≤ 100) : xM S mX13_isBlock [.ref 90, .int (zI x), .int (zI y)] (E W H n m) = some (.inl (some (.int (bz (decide (0 ≤ x ∧ x < c ∧ 0 ≤ y ∧ y < r))))), E W H n m, 0, 0) := by
  have i1 := in_s S (E W H n m) (zI x).toInt64 0 (nI c - (1 : Int32)).toInt64
  have i2 := in_s S (E W H n m) (zI y).toInt64 0 (nI r - (1 : Int32)).toInt64
  rw [Int32.toInt_toInt64, Int32.toInt_toInt64, zI_t (by omega) (by omega), t_0, show (1 : Int32) = nI 1 from rfl, pk_sub (by omega), nI_toInt (by omega)] at i1 i2
  refine w_X13_isBlock S _ _ _ _ _ ?_
  refine c_gi (by omega) (by rfl) (by rfl) (by rfl) ?_
  rw [hc, show (1 : Int32) = nI 1 from rfl, pk_sub (by omega)]
  refine c_qI i1 ?_
  by_cases d1 : 0 ≤ x ∧ x ≤ ((c - 1 : Nat) : Int)
  · rw [decide_eq_true d1]
    refine c_iff (by decide) ?_
    refine c_gi (by omega) (by rfl) (by rfl) (by rfl) ?_
    rw [hr, pk_sub (by omega)]
    refine c_qI i2 ?_
    by_cases d2 : 0 ≤ y ∧ y ≤ ((r - 1 : Nat) : Int)
    · rw [decide_eq_true d2, decide_eq_true (show 0 ≤ x ∧ x < c ∧ 0 ≤ y ∧ y < r by omega)]
      refine c_iff (by decide) ?_
      rfl
    · rw [decide_eq_false d2, decide_eq_false (show ¬ (0 ≤ x ∧ x < c ∧ 0 ≤ y ∧ y < r) by omega)]
      refine c_ift (by decide) ?_
      rfl
  · rw [decide_eq_false d1, decide_eq_false (show ¬ (0 ≤ x ∧ x < c ∧ 0 ≤ y ∧ y < r) by omega)]
    refine c_ift (by decide) ?_
    rfl
/-- the memory while a region spreads -/
def spP (a _j : Nat) : Bool := a == 124 || a == 131
def spI (m0 s : mM) (P : Nat → Bool) (b n0 hi : Nat) (pl : Nat → Nat) : Prop := (∀ j, j < 256 → s.1 124 j = if ∃ a, a < hi ∧ pl a = j then nI n0 else m0.1 124 j) ∧ (∀ a, a < hi → s.1 131 a = nI (pl a) ∧ pl a < 256 ∧ cn ba P b (pl a)) ∧ (∀ a a', a < a' → a' < hi → pl a ≠ pl a') ∧ 0 < hi ∧ pl 0 = b ∧ fr spP m0 s
theorem spI_le {m0 s : mM} {hi : Nat} {pl : Nat → Nat} (J : spI m0 s P b n0 hi pl) : hi ≤ 256 := fb_holes 256 hi pl (fun i h => (J.2.1 i h).2.1) (fun i j h1 h2 => J.2.2.1 i j h1 h2)
theorem sp_look {c r : Nat} (c1 : 1 ≤ c) (c2 : c ≤ 16) (r1 : 1 ≤ r) (r2 : r ≤ 16) {m0 : mM} (hP : ∀ k, k < 256 → P k = chB c r D noise k) (hP2 : ∀ k, P k = true → k < 256) (e55 : m0.1 90 55 = nI c) (e56 : m0.1 90 56 = nI r) (e123 : ∀ j i, j < 16 → i < 16 → m0.1 123 (16 * j + i) = nI (D i j)) (hD : ∀ i j, D i j ≤ 4096) (hn : noise ≤ 256) (hn0 : n0 ≤ 256) (hV : ∀ j, cn ba P b j → m0.1 124 j = -1) (hb : P b = true) {hi : Nat} {pl : Nat → Nat} (J : spI m0 m P b n0 hi pl) {q d : Nat} (hq : q < hi) {x y : Int} (x1 : -1 ≤ x) (x2 : x ≤ 16) (y1 : -1 ≤ y) (y2 : y ≤ 16) (ad : ∀ k : Nat, 0 ≤ x → x < 16 → 0 ≤ y → y < 16 → (k : Int) = 16 * y + x → ba (pl q) k) {z0 z1 : Int32} (ez : z1 + z0 = zI y) :
    ∃ m' hi' pl', spI m0 m' P b n0 hi' pl' ∧ hi ≤ hi' ∧ (∀ a, a < hi → pl' a = pl a) ∧ (∀ k : Nat, 0 ≤ x → x < 16 → 0 ≤ y → y < 16 → (k : Int) = 16 * y + x → P k = true → ∃ a, a < hi' ∧ pl' a = k) ∧ ∀ {o : xO}, xden S mX13_spreads 30 [(0, .ref 90), (2, .int (nI n0)), (3, .int (nI noise)), (4, .int (nI hi')), (5, .int (nI q)), (6, .int (nI (d + 1)))] [] (E W H n m') = some o → xden S mX13_spreads 100 [(0, .ref 90), (2, .int (nI n0)), (3, .int (nI noise)), (4, .int (nI hi)), (5, .int (nI q)), (6, .int (nI d)), (7, .int (zI x))] [.int z0, .int z1] (E W H n m) = some o := by
  obtain ⟨g1, g2, g3, g4, g5, g6⟩ := J
  have J : spI m0 m P b n0 hi pl := ⟨g1, g2, g3, g4, g5, g6⟩
  have h256 := spI_le J
  have z123 : 256 = eL H 123 := rfl
  have z124 : 256 = eL H 124 := rfl
  have z131 : 256 = eL H 131 := rfl
  have ib := isBlock_s (S := S) (W := W) (H := H) (n := n) (m := m) (c := c) (r := r) (by rw [fr_i g6 90 55 rfl]; exact e55) (by rw [fr_i g6 90 56 rfl]; exact e56) c1 c2 r1 r2 (x := x) (y := y) (by omega) (by omega) (by omega) (by omega)
  have nx : ∀ {o : xO}, xden S mX13_spreads 30 [(0, .ref 90), (2, .int (nI n0)), (3, .int (nI noise)), (4, .int (nI hi)), (5, .int (nI q)), (6, .int (nI (d + 1)))] [] (E W H n m) = some o → (xlet (nI d + (1 : Int32)) fun v5 => (xden S mX13_spreads 30 [(0, .ref 90), (2, .int (nI n0)), (3, .int (nI noise)), (4, .int (nI hi)), (5, .int (nI q)), (6, .int v5)] [] (E W H n m))) = some o := fun {o} ho => by
    refine c_let ?_
    rw [show (1 : Int32) = nI 1 from rfl, nI_add]
    exact ho
  by_cases ins : 0 ≤ x ∧ x < c ∧ 0 ≤ y ∧ y < r
  · obtain ⟨k, ek⟩ : ∃ k : Nat, (k : Int) = 16 * y + x := ⟨(16 * y + x).toNat, by omega⟩
    have hk : k < 256 := by omega
    have kx : k % 16 = x.toNat := by omega
    have ky : k / 16 = y.toNat := by omega
    have adk := ad k (by omega) (by omega) (by omega) (by omega) ek
    have eD := e123 (k / 16) (k % 16) (by omega) (by omega)
    rw [show 16 * (k / 16) + k % 16 = k by omega] at eD
    have ix : (16 : Int32) * zI y + zI x = nI k := by
      rw [show (16 : Int32) = zI 16 from rfl, zI_mul (by omega) (by omega) (by omega) (by omega) (by omega) (by omega), zI_add, ← zI_n (by omega)]
      congr 1
      omega
    have hPk := hP k hk
    unfold chB at hPk
    have hDk := hD (k % 16) (k / 16)
    rw [decide_eq_true ins] at ib
    have row : ∀ {o : xO}, ((xRi (E W H n m) 0 123 (nI k)).bind fun v7 => if v7 ≤ nI noise then (xlet (nI d + (1 : Int32)) fun v8 => (xden S mX13_spreads 30 [(0, .ref 90), (2, .int (nI n0)), (3, .int (nI noise)), (4, .int (nI hi)), (5, .int (nI q)), (6, .int v8)] [] (E W H n m))) else ((xGr (E W H n m) 90 12 58).bind fun v9 => (xRi (E W H n m) 0 v9 (nI k)).bind fun v10 => if 0 ≤ v10 then (xlet (nI d + (1 : Int32)) fun v11 => (xden S mX13_spreads 30 [(0, .ref 90), (2, .int (nI n0)), (3, .int (nI noise)), (4, .int (nI hi)), (5, .int (nI q)), (6, .int v11)] [] (E W H n m))) else ((xGr (E W H n m) 90 12 58).bind fun v12 => (xWi (E W H n m) v12 (nI k) (nI n0)).bind fun h13 => (xGr h13 90 12 66).bind fun v14 => (xWi h13 v14 (nI hi) (nI k)).bind fun h15 => xlet (nI hi + (1 : Int32)) fun v16 => xlet (nI d + (1 : Int32)) fun v17 => (xden S mX13_spreads 30 [(0, .ref 90), (2, .int (nI n0)), (3, .int (nI noise)), (4, .int v16), (5, .int (nI q)), (6, .int v17)] [] h15)))) = some o → xden S mX13_spreads 100 [(0, .ref 90), (2, .int (nI n0)), (3, .int (nI noise)), (4, .int (nI hi)), (5, .int (nI q)), (6, .int (nI d)), (7, .int (zI x))] [.int z0, .int z1] (E W H n m) = some o := fun {o} ho => by
      refine w_X13_spreads_100 S _ _ _ _ _ _ _ _ _ _ _ ?_
      refine c_let ?_
      rw [ez]
      refine c_ob (by omega) (by rfl) ?_
      refine c_qI ib ?_
      refine c_iff (by decide) ?_
      refine c_gr (by omega) (by rfl) (by rfl) (by rfl) ?_
      rw [ix]
      exact ho
    have rD : m.1 123 k = nI (D (k % 16) (k / 16)) := by rw [fr_i g6 123 k rfl]; exact eD
    by_cases dn : noise < D (k % 16) (k / 16)
    · have Pk : P k = true := by rw [hPk]; exact decide_eq_true (by omega)
      have ck : cn ba P b k := cn_st (g2 q hq).2.2 adk Pk
      have notle : ¬ nI (D (k % 16) (k / 16)) ≤ nI noise := fun w => by have := (nI_leI (by omega) (by omega)).mp w; omega
      by_cases inp : ∃ a, a < hi ∧ pl a = k
      · have v := g1 k hk
        rw [if_pos inp] at v
        refine ⟨m, hi, pl, J, Nat.le_refl _, fun a _ => rfl, fun k' _ _ _ _ e' _ => by rw [show k' = k by omega]; exact inp, fun {o} ho => row ?_⟩
        refine c_ri (i := k) (by omega) (by rfl) (by rfl) (by rfl) (by first | omega | ((conv => rhs; whnf); first | omega | (show _ < OfNat.ofNat (α := Nat) _; omega))) (by first | omega | ((conv => lhs; whnf); first | omega | (show OfNat.ofNat (α := Nat) _ < _; omega))) (by decide) ?_
        rw [rD]
        refine c_iff notle ?_
        refine c_gr (by omega) (by rfl) (by rfl) (by rfl) ?_
        refine c_ri (i := k) (by omega) (by rfl) (by rfl) (by rfl) (by first | omega | ((conv => rhs; whnf); first | omega | (show _ < OfNat.ofNat (α := Nat) _; omega))) (by first | omega | ((conv => lhs; whnf); first | omega | (show OfNat.ofNat (α := Nat) _ < _; omega))) (by decide) ?_
        rw [v]
        refine c_ift (nI_pos' (by omega)) ?_
        exact nx ho
      · have v := g1 k hk
        rw [if_neg inp, hV k ck] at v
        have fits : hi < 256 := by
          have := fb_holes 256 (hi + 1) (fun a => if a = hi then k else pl a) (fun a ha => by
            by_cases e : a = hi
            · (try dsimp only); rw [if_pos e]; exact hk
            · (try dsimp only); rw [if_neg e]; exact (g2 a (by omega)).2.1) (fun a a' h1 h2 => by
            (try dsimp only)
            rw [if_neg (show ¬ a = hi by omega)]
            by_cases e : a' = hi
            · rw [if_pos e]; exact fun w => inp ⟨a, by omega, w⟩
            · rw [if_neg e]; exact g3 a a' h1 (by omega))
          omega
        refine ⟨sI (sI m 124 k (nI n0)) 131 hi (nI k), hi + 1, fun a => if a = hi then k else pl a, ⟨fun j hj => ?_, fun a ha => ?_, fun a a' h1 h2 => ?_, by omega, ?_, fr_sI (fr_sI g6 (by rfl)) (by rfl)⟩, by omega, fun a ha => if_neg (by omega), fun k' _ _ _ _ e' _ => ⟨hi, by omega, by (try dsimp only); rw [if_pos rfl]; omega⟩, fun {o} ho => row ?_⟩
        · rw [sI_ne (by omega)]
          by_cases e : j = k
          · rw [e, sI_eq ⟨rfl, rfl⟩, if_pos ⟨hi, by omega, if_pos rfl⟩]
          · rw [sI_ne (fun w => e w.2), g1 j hj]
            by_cases e2 : ∃ a, a < hi ∧ pl a = j
            · obtain ⟨a, a1, a2⟩ := e2
              rw [if_pos ⟨a, a1, a2⟩, if_pos ⟨a, by omega, by (try dsimp only); rw [if_neg (by omega)]; exact a2⟩]
            · rw [if_neg e2, if_neg (fun ⟨a, a1, a2⟩ => by
                (try dsimp only at a2)
                by_cases e3 : a = hi
                · rw [if_pos e3] at a2; exact e a2.symm
                · rw [if_neg e3] at a2; exact e2 ⟨a, by omega, a2⟩)]
        · by_cases e : a = hi
          · rw [e]
            (try dsimp only)
            rw [if_pos rfl, sI_eq ⟨rfl, rfl⟩]
            exact ⟨rfl, hk, ck⟩
          · (try dsimp only)
            rw [if_neg e, sI_ne (fun w => e w.2), sI_ne (by omega)]
            exact g2 a (by omega)
        · (try dsimp only)
          rw [if_neg (show ¬ a = hi by omega)]
          by_cases e : a' = hi
          · rw [if_pos e]; exact fun w => inp ⟨a, by omega, w⟩
          · rw [if_neg e]; exact g3 a a' h1 (by omega)
        · (try dsimp only)
          rw [if_neg (by omega)]
          exact g5
        · refine c_ri (i := k) (by omega) (by rfl) (by rfl) (by rfl) (by first | omega | ((conv => rhs; whnf); first | omega | (show _ < OfNat.ofNat (α := Nat) _; omega))) (by first | omega | ((conv => lhs; whnf); first | omega | (show OfNat.ofNat (α := Nat) _ < _; omega))) (by decide) ?_
          rw [rD]
          refine c_iff notle ?_
          refine c_gr (by omega) (by rfl) (by rfl) (by rfl) ?_
          refine c_ri (i := k) (by omega) (by rfl) (by rfl) (by rfl) (by first | omega | ((conv => rhs; whnf); first | omega | (show _ < OfNat.ofNat (α := Nat) _; omega))) (by first | omega | ((conv => lhs; whnf); first | omega | (show OfNat.ofNat (α := Nat) _ < _; omega))) (by decide) ?_
          rw [v]
          refine c_iff (by decide) ?_
          refine c_gr (by omega) (by rfl) (by rfl) (by rfl) ?_
          refine c_wi (i := k) (by omega) (by rfl) (by rfl) (by rfl) (by first | omega | ((conv => rhs; whnf); first | omega | (show _ < OfNat.ofNat (α := Nat) _; omega))) (by first | omega | ((conv => lhs; whnf); first | omega | (show OfNat.ofNat (α := Nat) _ < _; omega))) ?_
          refine c_gr (by omega) (by rfl) (by rfl) (by rfl) ?_
          refine c_wi (i := hi) (by omega) (by rfl) (by rfl) (by rfl) (by first | omega | ((conv => rhs; whnf); first | omega | (show _ < OfNat.ofNat (α := Nat) _; omega))) (by first | omega | ((conv => lhs; whnf); first | omega | (show OfNat.ofNat (α := Nat) _ < _; omega))) ?_
          refine c_let ?_
          refine c_let ?_
          rw [show (1 : Int32) = nI 1 from rfl, nI_add, nI_add]
          exact ho
    · have Pk : P k = false := by rw [hPk]; exact decide_eq_false (by omega)
      refine ⟨m, hi, pl, J, Nat.le_refl _, fun a _ => rfl, fun k' _ _ _ _ e' p' => (by rw [show k' = k by omega, Pk] at p'; cases p'), fun {o} ho => row ?_⟩
      refine c_ri (i := k) (by omega) (by rfl) (by rfl) (by rfl) (by first | omega | ((conv => rhs; whnf); first | omega | (show _ < OfNat.ofNat (α := Nat) _; omega))) (by first | omega | ((conv => lhs; whnf); first | omega | (show OfNat.ofNat (α := Nat) _ < _; omega))) (by decide) ?_
      rw [rD]
      refine c_ift ((nI_leI (by omega) (by omega)).mpr (by omega)) ?_
      exact nx ho
  · rw [decide_eq_false ins] at ib
    refine ⟨m, hi, pl, J, Nat.le_refl _, fun a _ => rfl, fun k x0 xl y0 yl e' p' => ?_, fun {o} ho => w_X13_spreads_100 S _ _ _ _ _ _ _ _ _ _ _ ?_⟩
    · rw [hP k (by omega)] at p'
      have := of_decide_eq_true p'
      omega
    · refine c_let ?_
      rw [ez]
      refine c_ob (by omega) (by rfl) ?_
      refine c_qI ib ?_
      refine c_ift (by decide) ?_
      exact nx ho
theorem spreads_s {c r : Nat} (c1 : 1 ≤ c) (c2 : c ≤ 16) (r1 : 1 ≤ r) (r2 : r ≤ 16) (hP : ∀ k, k < 256 → P k = chB c r D noise k) (hP2 : ∀ k, P k = true → k < 256) (e55 : m.1 90 55 = nI c) (e56 : m.1 90 56 = nI r) (e123 : ∀ j i, j < 16 → i < 16 → m.1 123 (16 * j + i) = nI (D i j)) (hD : ∀ i j, D i j ≤ 4096) (hn : noise ≤ 256) (hn0 : n0 ≤ 256) (hV : ∀ j, cn ba P b j → m.1 124 j = -1) (hb : P b = true) :
    ∃ m', xM S mX13_spreads [.ref 90, .int (nI b), .int (nI n0), .int (nI noise)] (E W H n m) = some (.inl none, E W H n m', 0, 0) ∧ (∀ j, j < 256 → m'.1 124 j = if pB (cn ba P b j) = true then nI n0 else m.1 124 j) ∧ fr spP m m' := by
  have b256 := hP2 b hb
  have z124 : 256 = eL H 124 := rfl
  have z131 : 256 = eL H 131 := rfl
  have J0 : spI m (sI (sI m 124 b (nI n0)) 131 0 (nI b)) P b n0 1 (fun _ => b) := by
    refine ⟨fun j hj => ?_, fun a ha => ⟨by rw [sI_eq ⟨rfl, by omega⟩], b256, cn_rf⟩, fun a a' h1 h2 => by omega, by decide, rfl, fr_sI (fr_sI fr_rf (by rfl)) (by rfl)⟩
    rw [sI_ne (by omega)]
    by_cases e : j = b
    · rw [e, sI_eq ⟨rfl, rfl⟩, if_pos ⟨0, by decide, rfl⟩]
    · rw [sI_ne (fun w => e w.2), if_neg (fun ⟨a, _, w⟩ => e w.symm)]
  have L := x_sw (σ := mM × Nat × (Nat → Nat) × Nat) (τ := mM) (D := fun s => xden S mX13_spreads 20 [(0, .ref 90), (2, .int (nI n0)), (3, .int (nI noise)), (4, .int (nI s.2.1)), (5, .int (nI s.2.2.2))] [] (E W H n s.1)) (Inv := fun s => spI m s.1 P b n0 s.2.1 s.2.2.1 ∧ s.2.2.2 ≤ s.2.1 ∧ ∀ a, a < s.2.2.2 → ∀ k, ba (s.2.2.1 a) k → P k = true → ∃ a', a' < s.2.1 ∧ s.2.2.1 a' = k)
    (F := fun s => some (.inl none, E W H n s, 0, 0)) (Post := fun s => (∀ j, j < 256 → s.1 124 j = if pB (cn ba P b j) = true then nI n0 else m.1 124 j) ∧ fr spP m s) (fun s => 256 - s.2.2.2) (fun s hs => ?_) ((sI (sI m 124 b (nI n0)) 131 0 (nI b)), 1, (fun _ => b), 0) ⟨J0, Nat.zero_le _, fun a ha => absurd ha (Nat.not_lt_zero a)⟩
  · obtain ⟨m', k1, k2⟩ := L
    refine ⟨m', w_X13_spreads S _ _ _ _ _ _ ?_, k1.1, k1.2⟩
    have k2 := k2 _ rfl
    refine c_gr (by omega) (by rfl) (by rfl) (by rfl) ?_
    refine c_wi (i := b) (by omega) (by rfl) (by rfl) (by rfl) (by first | omega | ((conv => rhs; whnf); first | omega | (show _ < OfNat.ofNat (α := Nat) _; omega))) (by first | omega | ((conv => lhs; whnf); first | omega | (show OfNat.ofNat (α := Nat) _ < _; omega))) ?_
    refine c_gr (by omega) (by rfl) (by rfl) (by rfl) ?_
    refine c_wi (i := 0) (by omega) (by rfl) (by rfl) (by rfl) (by first | omega | ((conv => rhs; whnf); first | omega | (show _ < OfNat.ofNat (α := Nat) _; omega))) (by first | omega | ((conv => lhs; whnf); first | omega | (show OfNat.ofNat (α := Nat) _ < _; omega))) ?_
    exact k2
  · obtain ⟨s, hi, pl, q⟩ := s
    obtain ⟨J, le, cl⟩ := hs
    (try dsimp only at J le cl ⊢)
    have h256 := spI_le J
    by_cases e : q = hi
    · right
      obtain ⟨g1, g2, g3, g4, g5, g6⟩ := J
      refine ⟨s, ⟨fun j hj => ?_, g6⟩, fun o ho => w_X13_spreads_20 S _ _ _ _ _ _ _ ?_⟩
      · rw [g1 j hj]
        have iff : (∃ a, a < hi ∧ pl a = j) ↔ pB (cn ba P b j) = true := by
          rw [pB_iff]
          refine ⟨fun ⟨a, a1, a2⟩ => by rw [← a2]; exact (g2 a a1).2.2, fun w => w (fun j => ∃ a, a < hi ∧ pl a = j) ⟨0, g4, g5⟩ (fun i j ⟨a, a1, a2⟩ ad p => cl a (by omega) j (by rw [a2]; exact ad) p)⟩
        by_cases w : ∃ a, a < hi ∧ pl a = j
        · rw [if_pos w, if_pos (iff.mp w)]
        · rw [if_neg w, if_neg (fun v => w (iff.mpr v))]
      · refine c_ift ((nI_leI (by omega) (by omega)).mpr (by omega)) ?_
        exact ho
    · left
      have hq : q < hi := by omega
      have pq := (J.2.1 q hq).2.1
      -- the four neighbours
      obtain ⟨k, ek⟩ : ∃ k, k = pl q := ⟨_, rfl⟩
      have en : ∀ {s' : mM} {hi' : Nat} {pl' : Nat → Nat}, spI m s' P b n0 hi' pl' → hi ≤ hi' → pl' q = k → s'.1 131 q = nI k := fun {s' hi' pl'} J' le' e' => by
        rw [(J'.2.1 q (by omega)).1, e']
      obtain ⟨s1, hi1, pl1, J1, le1, ag1, in1, nx1⟩ := sp_look (S := S) (W := W) (H := H) (n := n) c1 c2 r1 r2 hP hP2 e55 e56 e123 hD hn hn0 hV hb J hq (d := 0) (x := ((k % 16 : Nat) : Int) + 1) (y := ((k / 16 : Nat) : Int)) (by omega) (by omega) (by omega) (by omega) (fun k' _ _ _ _ e' => by rw [← ek]; unfold ba; omega) (z0 := 0) (z1 := nI (k / 16)) (by rw [← zI_n (by omega), show (0 : Int32) = zI 0 from rfl, zI_add, Int.add_zero])
      obtain ⟨s2, hi2, pl2, J2, le2, ag2, in2, nx2⟩ := sp_look (S := S) (W := W) (H := H) (n := n) c1 c2 r1 r2 hP hP2 e55 e56 e123 hD hn hn0 hV hb J1 (q := q) (by omega) (d := 1) (x := ((k % 16 : Nat) : Int) - 1) (y := ((k / 16 : Nat) : Int)) (by omega) (by omega) (by omega) (by omega) (fun k' _ _ _ _ e' => by rw [ag1 q hq, ← ek]; unfold ba; omega) (z0 := 0) (z1 := nI (k / 16)) (by rw [← zI_n (by omega), show (0 : Int32) = zI 0 from rfl, zI_add, Int.add_zero])
      obtain ⟨s3, hi3, pl3, J3, le3, ag3, in3, nx3⟩ := sp_look (S := S) (W := W) (H := H) (n := n) c1 c2 r1 r2 hP hP2 e55 e56 e123 hD hn hn0 hV hb J2 (q := q) (by omega) (d := 2) (x := ((k % 16 : Nat) : Int)) (y := ((k / 16 : Nat) : Int) + 1) (by omega) (by omega) (by omega) (by omega) (fun k' _ _ _ _ e' => by rw [ag2 q (by omega), ag1 q hq, ← ek]; unfold ba; omega) (z0 := 1) (z1 := nI (k / 16)) (by rw [← zI_n (by omega), show (1 : Int32) = zI 1 from rfl, zI_add])
      obtain ⟨s4, hi4, pl4, J4, le4, ag4, in4, nx4⟩ := sp_look (S := S) (W := W) (H := H) (n := n) c1 c2 r1 r2 hP hP2 e55 e56 e123 hD hn hn0 hV hb J3 (q := q) (by omega) (d := 3) (x := ((k % 16 : Nat) : Int)) (y := ((k / 16 : Nat) : Int) - 1) (by omega) (by omega) (by omega) (by omega) (fun k' _ _ _ _ e' => by rw [ag3 q (by omega), ag2 q (by omega), ag1 q hq, ← ek]; unfold ba; omega) (z0 := -1) (z1 := nI (k / 16)) (by rw [← zI_n (by omega), show (-1 : Int32) = zI (-1) from rfl, zI_add]; congr 1)
      have keep1 : ∀ a, a < hi1 → pl4 a = pl1 a := fun a ha => by rw [ag4 a (by omega), ag3 a (by omega), ag2 a ha]
      have keep2 : ∀ a, a < hi2 → pl4 a = pl2 a := fun a ha => by rw [ag4 a (by omega), ag3 a ha]
      have keep0 : ∀ a, a < hi → pl4 a = pl a := fun a ha => by rw [keep1 a (by omega), ag1 a ha]
      have l4 := spI_le J4
      refine ⟨(s4, hi4, pl4, q + 1), ⟨J4, by (try dsimp only); omega, fun a ha k' ad p => ?_⟩, by (try dsimp only); omega, fun o ho => ?_⟩
      · (try dsimp only at ha ad ⊢)
        rw [keep0 a (by omega)] at ad
        have k256 := hP2 k' p
        by_cases e2 : a = q
        · rw [e2, ← ek] at ad
          unfold ba at ad
          have cases4 : ((k' : Int) = 16 * ((k / 16 : Nat) : Int) + (((k % 16 : Nat) : Int) + 1) ∧ ((k % 16 : Nat) : Int) + 1 < 16) ∨ ((k' : Int) = 16 * ((k / 16 : Nat) : Int) + (((k % 16 : Nat) : Int) - 1) ∧ 0 ≤ ((k % 16 : Nat) : Int) - 1) ∨ (k' : Int) = 16 * (((k / 16 : Nat) : Int) + 1) + ((k % 16 : Nat) : Int) ∨ ((k' : Int) = 16 * (((k / 16 : Nat) : Int) - 1) + ((k % 16 : Nat) : Int) ∧ 0 ≤ ((k / 16 : Nat) : Int) - 1) := by omega
          rcases cases4 with w | w | w | w
          · obtain ⟨a', a1, a2⟩ := in1 k' (by omega) (by omega) (by omega) (by omega) w.1 p
            exact ⟨a', by omega, by rw [keep1 a' a1]; exact a2⟩
          · obtain ⟨a', a1, a2⟩ := in2 k' (by omega) (by omega) (by omega) (by omega) w.1 p
            exact ⟨a', by omega, by rw [keep2 a' a1]; exact a2⟩
          · obtain ⟨a', a1, a2⟩ := in3 k' (by omega) (by omega) (by omega) (by omega) w p
            exact ⟨a', by omega, by rw [ag4 a' a1]; exact a2⟩
          · obtain ⟨a', a1, a2⟩ := in4 k' (by omega) (by omega) (by omega) (by omega) w.1 p
            exact ⟨a', a1, a2⟩
        · obtain ⟨a', a1, a2⟩ := cl a (by omega) k' ad p
          exact ⟨a', by omega, by rw [keep0 a' a1]; exact a2⟩
      · have rm : nI k - nI k / (16 : Int32) * (16 : Int32) = nI (k % 16) := pk_rem (by omega) (by decide) (by decide)
        have dv : nI k / (16 : Int32) = nI (k / 16) := n_div (by omega) (by decide) (by decide)
        have p1 : nI (k % 16) + (1 : Int32) = zI (((k % 16 : Nat) : Int) + 1) := by rw [← zI_n (by omega), show (1 : Int32) = zI 1 from rfl, zI_add]
        have p2 : nI (k % 16) + (-1 : Int32) = zI (((k % 16 : Nat) : Int) - 1) := by rw [← zI_n (by omega), show (-1 : Int32) = zI (-1) from rfl, zI_add]; congr 1
        have p0 : nI (k % 16) + (0 : Int32) = zI ((k % 16 : Nat) : Int) := by rw [← zI_n (by omega), show (0 : Int32) = zI 0 from rfl, zI_add, Int.add_zero]
        have e0 := en J (Nat.le_refl _) ek.symm
        have e1 := en J1 le1 (by rw [ag1 q hq]; exact ek.symm)
        have e2 := en J2 (by omega) (by rw [ag2 q (by omega), ag1 q hq]; exact ek.symm)
        have e3 := en J3 (by omega) (by rw [ag3 q (by omega), ag2 q (by omega), ag1 q hq]; exact ek.symm)
        have q256 : q < eL H 131 := by rw [← z131]; omega
        have d4 : xden S mX13_spreads 30 [(0, .ref 90), (2, .int (nI n0)), (3, .int (nI noise)), (4, .int (nI hi4)), (5, .int (nI q)), (6, .int (nI 4))] [] (E W H n s4) = some o := by
          refine w_X13_spreads_30 S _ _ _ _ _ _ _ _ ?_
          refine c_ift (by decide) ?_
          refine c_let ?_
          rw [show (1 : Int32) = nI 1 from rfl, nI_add]
          exact ho
        have d3 : xden S mX13_spreads 30 [(0, .ref 90), (2, .int (nI n0)), (3, .int (nI noise)), (4, .int (nI hi3)), (5, .int (nI q)), (6, .int (nI 3))] [] (E W H n s3) = some o := by
          refine w_X13_spreads_30 S _ _ _ _ _ _ _ _ ?_
          refine c_iff (by decide) ?_
          refine c_gr (by omega) (by rfl) (by rfl) (by rfl) ?_
          refine c_ri (i := q) (by omega) (by rfl) (by rfl) (by rfl) q256 (by first | omega | ((conv => lhs; whnf); first | omega | (show OfNat.ofNat (α := Nat) _ < _; omega))) (by decide) ?_
          rw [e3]
          refine c_ift (by decide) ?_
          refine c_ift (by decide) ?_
          refine c_let ?_
          refine c_gr (by omega) (by rfl) (by rfl) (by rfl) ?_
          refine c_ri (i := q) (by omega) (by rfl) (by rfl) (by rfl) q256 (by first | omega | ((conv => lhs; whnf); first | omega | (show OfNat.ofNat (α := Nat) _ < _; omega))) (by decide) ?_
          rw [e3, rm, dv, p0]
          refine c_ift (by decide) ?_
          refine c_iff (fun w => w (by decide)) ?_
          exact nx4 d4
        have d2 : xden S mX13_spreads 30 [(0, .ref 90), (2, .int (nI n0)), (3, .int (nI noise)), (4, .int (nI hi2)), (5, .int (nI q)), (6, .int (nI 2))] [] (E W H n s2) = some o := by
          refine w_X13_spreads_30 S _ _ _ _ _ _ _ _ ?_
          refine c_iff (by decide) ?_
          refine c_gr (by omega) (by rfl) (by rfl) (by rfl) ?_
          refine c_ri (i := q) (by omega) (by rfl) (by rfl) (by rfl) q256 (by first | omega | ((conv => lhs; whnf); first | omega | (show OfNat.ofNat (α := Nat) _ < _; omega))) (by decide) ?_
          rw [e2]
          refine c_ift (by decide) ?_
          refine c_ift (by decide) ?_
          refine c_let ?_
          refine c_gr (by omega) (by rfl) (by rfl) (by rfl) ?_
          refine c_ri (i := q) (by omega) (by rfl) (by rfl) (by rfl) q256 (by first | omega | ((conv => lhs; whnf); first | omega | (show OfNat.ofNat (α := Nat) _ < _; omega))) (by decide) ?_
          rw [e2, rm, dv, p0]
          refine c_iff (fun w => w (by decide)) ?_
          exact nx3 d3
        have d1 : xden S mX13_spreads 30 [(0, .ref 90), (2, .int (nI n0)), (3, .int (nI noise)), (4, .int (nI hi1)), (5, .int (nI q)), (6, .int (nI 1))] [] (E W H n s1) = some o := by
          refine w_X13_spreads_30 S _ _ _ _ _ _ _ _ ?_
          refine c_iff (by decide) ?_
          refine c_gr (by omega) (by rfl) (by rfl) (by rfl) ?_
          refine c_ri (i := q) (by omega) (by rfl) (by rfl) (by rfl) q256 (by first | omega | ((conv => lhs; whnf); first | omega | (show OfNat.ofNat (α := Nat) _ < _; omega))) (by decide) ?_
          rw [e1]
          refine c_ift (by decide) ?_
          refine c_iff (fun w => w (by decide)) ?_
          refine c_let ?_
          refine c_gr (by omega) (by rfl) (by rfl) (by rfl) ?_
          refine c_ri (i := q) (by omega) (by rfl) (by rfl) (by rfl) q256 (by first | omega | ((conv => lhs; whnf); first | omega | (show OfNat.ofNat (α := Nat) _ < _; omega))) (by decide) ?_
          rw [e1, rm, dv, p2]
          refine c_ift (by decide) ?_
          refine c_ift (by decide) ?_
          exact nx2 d2
        have d0 : xden S mX13_spreads 30 [(0, .ref 90), (2, .int (nI n0)), (3, .int (nI noise)), (4, .int (nI hi)), (5, .int (nI q)), (6, .int (nI 0))] [] (E W H n s) = some o := by
          refine w_X13_spreads_30 S _ _ _ _ _ _ _ _ ?_
          refine c_iff (by decide) ?_
          refine c_gr (by omega) (by rfl) (by rfl) (by rfl) ?_
          refine c_ri (i := q) (by omega) (by rfl) (by rfl) (by rfl) q256 (by first | omega | ((conv => lhs; whnf); first | omega | (show OfNat.ofNat (α := Nat) _ < _; omega))) (by decide) ?_
          rw [e0]
          refine c_iff (fun w => w (by decide)) ?_
          refine c_let ?_
          refine c_gr (by omega) (by rfl) (by rfl) (by rfl) ?_
          refine c_ri (i := q) (by omega) (by rfl) (by rfl) (by rfl) q256 (by first | omega | ((conv => lhs; whnf); first | omega | (show OfNat.ofNat (α := Nat) _ < _; omega))) (by decide) ?_
          rw [e0, rm, dv, p1]
          refine c_ift (by decide) ?_
          refine c_ift (by decide) ?_
          exact nx1 d1
        refine w_X13_spreads_20 S _ _ _ _ _ _ _ ?_
        refine c_iff (fun w => by have := (nI_leI (by omega) (by omega)).mp w; omega) ?_
        exact d0
theorem joins_s {c r : Nat} (c1 : 1 ≤ c) (c2 : c ≤ 16) (r1 : 1 ≤ r) (r2 : r ≤ 16) (e55 : m.1 90 55 = nI c) (e56 : m.1 90 56 = nI r) (e123 : ∀ j i, j < 16 → i < 16 → m.1 123 (16 * j + i) = nI (D i j)) (hD : ∀ i j, D i j ≤ 4096) (hn : noise ≤ 256) : ∃ m', xM S mX13_joins [.ref 90, .int (nI noise)] (E W H n m) = some (.inl (some (.int (nI (nS ba (chB c r D noise) 256)))), E W H n m', 0, 0) ∧ (∀ k, k < 256 → m'.1 124 k = labV (chB c r D noise) k) ∧ fr spP m m' := by
  obtain ⟨P, eP⟩ : ∃ P, P = chB c r D noise := ⟨_, rfl⟩
  have hP : ∀ k, k < 256 → P k = chB c r D noise k := fun k _ => by rw [eP]
  have hP2 : ∀ k, P k = true → k < 256 := fun k h => by
    rw [eP] at h
    have := of_decide_eq_true h
    omega
  rw [← eP]
  have z124 : 256 = eL H 124 := rfl
  have z123 : 256 = eL H 123 := rfl
  generalize h1 : aI m 124 (fa_fill (fun _ => (-1 : Int32)) (m.1 124) 256) = m1
  have F1 : fr spP m m1 := by rw [← h1]; exact fr_aI fr_rf (fun _ => rfl)
  have L := x_sg (σ := mM) (τ := mM) (D := fun t s => xden S mX13_joins 26 [(0, .ref 90), (1, .int (nI noise)), (2, .int (nI (nS ba P t))), (3, .int (nI t))] [] (E W H n s)) (Inv := fun t s => (∀ k, k < 256 → s.1 124 k = if pB (vs ba P t k) = true then labV P k else -1) ∧ fr spP m s)
    (F := fun s => some (.inl (some (.int (nI (nS ba P 256)))), E W H n s, 0, 0)) (Post := fun s => (∀ k, k < 256 → s.1 124 k = labV P k) ∧ fr spP m s) 256 (fun t ht s hs => ?_) (fun s hs => ?_) m1 ⟨fun k hk => by rw [← h1, aI_eq rfl, fa_fill_in hk, if_neg (fun w => vs_0 (pB_iff.mp w))], F1⟩
  · obtain ⟨m', k1, k2⟩ := L
    refine ⟨m', w_X13_joins S _ _ _ _ ?_, k1.1, k1.2⟩
    have k2 := k2 _ rfl
    refine x_fo 256 (fun k e => xden S mX13_joins 4 [(0, .ref 90), (1, .int (nI noise)), (2, .int (nI 0)), (3, .int (nI k))] [] (E W H n e)) (fun k => aI m 124 (fa_fill (fun _ => (-1 : Int32)) (m.1 124) k)) (by (try dsimp only); rw [fa_fill_0, aI_self m _ rfl]) (fun k hk ih => ?_) ?_
    · (try dsimp only at ih ⊢)
      rw [← sI_fill] at ih
      refine w_X13_joins_4 S _ _ _ _ _ _ ?_
      refine c_iff (fun w => by have := (nI_leI (a := 256) (by omega) (by omega)).mp w; omega) ?_
      refine c_gr (by omega) (by rfl) (by rfl) (by rfl) ?_
      refine c_wi (i := k) (by omega) (by rfl) (by rfl) (by rfl) (by first | omega | ((conv => rhs; whnf); first | omega | (show _ < OfNat.ofNat (α := Nat) _; omega))) (by first | omega | ((conv => lhs; whnf); first | omega | (show OfNat.ofNat (α := Nat) _ < _; omega))) ?_
      refine c_let ?_
      rw [show (1 : Int32) = nI 1 from rfl, nI_add]
      exact ih
    · (try dsimp only)
      rw [h1]
      refine w_X13_joins_4 S _ _ _ _ _ _ ?_
      refine c_ift (by decide) ?_
      exact k2
  · left
    obtain ⟨g1, g2⟩ := hs
    have nb := nS_256 P
    have nm := nS_mono (A := ba) (P := P) (t := t) (u := 256) (by omega)
    have rm : nI t - nI t / (16 : Int32) * (16 : Int32) = nI (t % 16) := pk_rem (by omega) (by decide) (by decide)
    have dv : nI t / (16 : Int32) = nI (t / 16) := n_div (by omega) (by decide) (by decide)
    have ib := isBlock_s (S := S) (W := W) (H := H) (n := n) (m := s) (c := c) (r := r) (by rw [fr_i g2 90 55 rfl]; exact e55) (by rw [fr_i g2 90 56 rfl]; exact e56) c1 c2 r1 r2 (x := ((t % 16 : Nat) : Int)) (y := ((t / 16 : Nat) : Int)) (by omega) (by omega) (by omega) (by omega)
    rw [zI_n (by omega), zI_n (by omega)] at ib
    have eD := e123 (t / 16) (t % 16) (by omega) (by omega)
    rw [show 16 * (t / 16) + t % 16 = t by omega] at eD
    have rD : s.1 123 t = nI (D (t % 16) (t / 16)) := by rw [fr_i g2 123 t rfl]; exact eD
    have hDt := hD (t % 16) (t / 16)
    have Pt := hP t ht
    unfold chB at Pt
    have old : (P t = false ∨ vs ba P t t) → (∀ k, k < 256 → s.1 124 k = if pB (vs ba P (t + 1) k) = true then labV P k else -1) ∧ nS ba P (t + 1) = nS ba P t := fun w => ⟨fun k hk => by
      rw [g1 k hk]
      have : vs ba P (t + 1) k ↔ vs ba P t k := by
        rcases w with w | w
        · exact vs_no w
        · exact vs_old w
      rw [pB_cong this], nS_no w⟩
    by_cases c0 : 0 ≤ ((t % 16 : Nat) : Int) ∧ ((t % 16 : Nat) : Int) < c ∧ 0 ≤ ((t / 16 : Nat) : Int) ∧ ((t / 16 : Nat) : Int) < r
    · rw [decide_eq_true c0] at ib
      by_cases c3 : noise < D (t % 16) (t / 16)
      · have Pt : P t = true := by rw [Pt]; exact decide_eq_true (by omega)
        have gt := g1 t ht
        by_cases v : vs ba P t t
        · obtain ⟨o1, o2⟩ := old (Or.inr v)
          rw [if_pos (pB_iff.mpr v)] at gt
          unfold labV at gt
          rw [if_pos Pt] at gt
          obtain ⟨_, _, _, _, _, ll⟩ := lbN_lt ht Pt
          refine ⟨s, ⟨o1, g2⟩, fun o ho => w_X13_joins_26 S _ _ _ _ _ _ ?_⟩
          rw [o2] at ho
          refine c_iff (fun w => by have := (nI_leI (a := 256) (by omega) (by omega)).mp w; omega) ?_
          refine c_ob (by omega) (by rfl) ?_
          rw [rm, dv]
          refine c_qI ib ?_
          refine c_iff (by decide) ?_
          refine c_gr (by omega) (by rfl) (by rfl) (by rfl) ?_
          refine c_ri (i := t) (by omega) (by rfl) (by rfl) (by rfl) (by first | omega | ((conv => rhs; whnf); first | omega | (show _ < OfNat.ofNat (α := Nat) _; omega))) (by first | omega | ((conv => lhs; whnf); first | omega | (show OfNat.ofNat (α := Nat) _ < _; omega))) (by decide) ?_
          rw [rD]
          refine c_iff (fun w => by have := (nI_leI (by omega) (by omega)).mp w; omega) ?_
          refine c_gr (by omega) (by rfl) (by rfl) (by rfl) ?_
          refine c_ri (i := t) (by omega) (by rfl) (by rfl) (by rfl) (by first | omega | ((conv => rhs; whnf); first | omega | (show _ < OfNat.ofNat (α := Nat) _; omega))) (by first | omega | ((conv => lhs; whnf); first | omega | (show OfNat.ofNat (α := Nat) _ < _; omega))) (by decide) ?_
          rw [gt]
          refine c_ift (nI_pos' (by omega)) ?_
          refine c_let ?_
          rw [show (1 : Int32) = nI 1 from rfl, nI_add]
          exact ho
        · rw [if_neg (fun w => v (pB_iff.mp w))] at gt
          have sdt : sd ba P t = true := sd_iff.mpr ⟨Pt, v⟩
          have ny := nS_yes Pt v
          obtain ⟨s1, j1, j2, j3⟩ := spreads_s (S := S) (W := W) (H := H) (n := n) (m := s) (b := t) (n0 := nS ba P t) c1 c2 r1 r2 hP hP2 (by rw [fr_i g2 90 55 rfl]; exact e55) (by rw [fr_i g2 90 56 rfl]; exact e56) (fun j i hj hi => by rw [fr_i g2 123 _ rfl]; exact e123 j i hj hi) hD hn (by omega) (fun j cj => by
            have j256 := hP2 j (cn_P Pt cj)
            rw [g1 j j256, if_neg (fun w => v (vs_bk ba_sy (pB_iff.mp w) Pt cj))]) Pt
          refine ⟨s1, ⟨fun k hk => ?_, fr_tr g2 j3⟩, fun o ho => w_X13_joins_26 S _ _ _ _ _ _ ?_⟩
          · rw [j2 k hk, g1 k hk]
            by_cases ck : cn ba P t k
            · rw [if_pos (pB_iff.mpr ck), if_pos (pB_iff.mpr ((vs_new Pt).mpr (Or.inr ck)))]
              unfold labV
              rw [if_pos (cn_P Pt ck), lbN_of sdt ck ht]
            · rw [if_neg (fun w => ck (pB_iff.mp w))]
              rw [pB_cong (p := vs ba P (t + 1) k) (q := vs ba P t k) ⟨fun w => ((vs_new Pt).mp w).resolve_right ck, fun w => (vs_new Pt).mpr (Or.inl w)⟩]
          · rw [ny] at ho
            refine c_iff (fun w => by have := (nI_leI (a := 256) (by omega) (by omega)).mp w; omega) ?_
            refine c_ob (by omega) (by rfl) ?_
            rw [rm, dv]
            refine c_qI ib ?_
            refine c_iff (by decide) ?_
            refine c_gr (by omega) (by rfl) (by rfl) (by rfl) ?_
            refine c_ri (i := t) (by omega) (by rfl) (by rfl) (by rfl) (by first | omega | ((conv => rhs; whnf); first | omega | (show _ < OfNat.ofNat (α := Nat) _; omega))) (by first | omega | ((conv => lhs; whnf); first | omega | (show OfNat.ofNat (α := Nat) _ < _; omega))) (by decide) ?_
            rw [rD]
            refine c_iff (fun w => by have := (nI_leI (by omega) (by omega)).mp w; omega) ?_
            refine c_gr (by omega) (by rfl) (by rfl) (by rfl) ?_
            refine c_ri (i := t) (by omega) (by rfl) (by rfl) (by rfl) (by first | omega | ((conv => rhs; whnf); first | omega | (show _ < OfNat.ofNat (α := Nat) _; omega))) (by first | omega | ((conv => lhs; whnf); first | omega | (show OfNat.ofNat (α := Nat) _ < _; omega))) (by decide) ?_
            rw [gt]
            refine c_iff (by decide) ?_
            refine c_ob (by omega) (by rfl) ?_
            refine c_qV j1 ?_
            refine c_let ?_
            refine c_let ?_
            rw [show (1 : Int32) = nI 1 from rfl, nI_add, nI_add]
            exact ho
      · have Pt : P t = false := by rw [Pt]; exact decide_eq_false (by omega)
        obtain ⟨o1, o2⟩ := old (Or.inl Pt)
        refine ⟨s, ⟨o1, g2⟩, fun o ho => w_X13_joins_26 S _ _ _ _ _ _ ?_⟩
        rw [o2] at ho
        refine c_iff (fun w => by have := (nI_leI (a := 256) (by omega) (by omega)).mp w; omega) ?_
        refine c_ob (by omega) (by rfl) ?_
        rw [rm, dv]
        refine c_qI ib ?_
        refine c_iff (by decide) ?_
        refine c_gr (by omega) (by rfl) (by rfl) (by rfl) ?_
        refine c_ri (i := t) (by omega) (by rfl) (by rfl) (by rfl) (by first | omega | ((conv => rhs; whnf); first | omega | (show _ < OfNat.ofNat (α := Nat) _; omega))) (by first | omega | ((conv => lhs; whnf); first | omega | (show OfNat.ofNat (α := Nat) _ < _; omega))) (by decide) ?_
        rw [rD]
        refine c_ift ((nI_leI (by omega) (by omega)).mpr (by omega)) ?_
        refine c_let ?_
        rw [show (1 : Int32) = nI 1 from rfl, nI_add]
        exact ho
    · rw [decide_eq_false c0] at ib
      have Pt : P t = false := by rw [Pt]; exact decide_eq_false (by omega)
      obtain ⟨o1, o2⟩ := old (Or.inl Pt)
      refine ⟨s, ⟨o1, g2⟩, fun o ho => w_X13_joins_26 S _ _ _ _ _ _ ?_⟩
      rw [o2] at ho
      refine c_iff (fun w => by have := (nI_leI (a := 256) (by omega) (by omega)).mp w; omega) ?_
      refine c_ob (by omega) (by rfl) ?_
      rw [rm, dv]
      refine c_qI ib ?_
      refine c_ift (by decide) ?_
      refine c_let ?_
      rw [show (1 : Int32) = nI 1 from rfl, nI_add]
      exact ho
  · obtain ⟨g1, g2⟩ := hs
    refine ⟨s, ⟨fun k hk => ?_, g2⟩, fun o ho => w_X13_joins_26 S _ _ _ _ _ _ ?_⟩
    · rw [g1 k hk]
      by_cases p : P k = true
      · rw [if_pos (pB_iff.mpr (vs_self hk p))]
      · unfold labV
        rw [if_neg p]
        by_cases v : pB (vs ba P 256 k) = true
        · rw [if_pos v]
        · rw [if_neg v]
    · refine c_ift (by decide) ?_
      exact ho
end JO

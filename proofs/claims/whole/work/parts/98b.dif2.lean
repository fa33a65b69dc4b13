/-! BLOCKS: the class measures them -/
def coB (W B : Nat) : Nat := (W + B - 1) / B
/-- how many pixels of a block differ -/
def blN (Ms Ad : Nat → Int64) (B i j : Nat) : Nat := fb_ct (fun k => (px Ms k || px Ad k) && decide (k % 64 / B = i ∧ k / 64 / B = j)) 4096
theorem blN_le (Ms Ad : Nat → Int64) (B i j : Nat) : blN Ms Ad B i j ≤ 4096 := fb_ct_le _ _
theorem dv_iff {a B c : Nat} (hB : 0 < B) : a / B = c ↔ c * B ≤ a ∧ a < c * B + B := by
  have h1 := Nat.le_div_iff_mul_le (x := c) (y := a) hB
  have h2 := Nat.div_lt_iff_lt_mul (x := a) (y := c + 1) hB
  rw [Nat.succ_mul] at h2
  generalize a / B = q at *
  generalize c * B = p at *
  omega
theorem coB_le {W B : Nat} (hW8 : 8 ≤ W) (hW : W ≤ 64) (hB : 4 ≤ B) (hB2 : B ≤ 16) : 1 ≤ coB W B ∧ coB W B ≤ 16 := by
  unfold coB
  refine ⟨(Nat.le_div_iff_mul_le (by omega)).mpr (by omega), ?_⟩
  have : (W + B - 1) / B ≤ (64 + B - 1) / B := Nat.div_le_div_right (by omega)
  refine Nat.le_trans this ?_
  refine Nat.lt_succ_iff.mp ((Nat.div_lt_iff_lt_mul (by omega)).mpr ?_)
  omega
theorem coB_in {W B x : Nat} (hB : 0 < B) : x / B < coB W B ↔ x / B * B < W := by
  unfold coB
  have h1 := Nat.le_div_iff_mul_le (x := x / B + 1) (y := W + B - 1) hB
  rw [Nat.succ_mul] at h1
  generalize x / B * B = p at *
  generalize (W + B - 1) / B = q at *
  generalize x / B = r at *
  omega
theorem coB_x {W B x : Nat} (hB : 0 < B) (hx : x < W) : x / B < coB W B := (coB_in hB).mpr (Nat.lt_of_le_of_lt (Nat.div_mul_le_self x B) hx)
theorem coB_lt {W B i : Nat} (hB : 0 < B) (hi : i < coB W B) : i * B < W := by
  have := (coB_in (W := W) (x := i * B) hB).mp (by rw [Nat.mul_div_cancel _ hB]; exact hi)
  rw [Nat.mul_div_cancel _ hB] at this
  exact this
theorem inkN_bl (f : Nat → Int64) {B i j : Nat} (hB : 4 ≤ B) (hB2 : B ≤ 16) (hi : i < 16) (hj : j < 16) : inkN f (nI (i * B)) (nI (j * B)) (nI B) (nI B) = fb_ct (fun k => px f k && decide (k % 64 / B = i ∧ k / 64 / B = j)) 4096 := by
  have h1 : i * B ≤ 15 * 16 := Nat.mul_le_mul (by omega) hB2
  have h2 : j * B ≤ 15 * 16 := Nat.mul_le_mul (by omega) hB2
  unfold inkN
  refine fb_ct_cong fun k _ => ?_
  congr 1
  unfold wnF
  rw [nI_toInt (by omega), nI_toInt (by omega), nI_toInt (by omega)]
  refine decide_eq_decide.mpr ?_
  rw [dv_iff (by omega), dv_iff (by omega)]
  generalize i * B = p at *
  generalize j * B = q at *
  omega
theorem blN_two {Ms Ad : Nat → Int64} (dj : ∀ k, ¬ (px Ms k = true ∧ px Ad k = true)) {B i j : Nat} (hB : 4 ≤ B) (hB2 : B ≤ 16) (hi : i < 16) (hj : j < 16) : inkN Ms (nI (i * B)) (nI (j * B)) (nI B) (nI B) + inkN Ad (nI (i * B)) (nI (j * B)) (nI B) (nI B) = blN Ms Ad B i j := by
  rw [inkN_bl Ms hB hB2 hi hj, inkN_bl Ad hB hB2 hi hj, ← fb_ct_or (fun k _ q => by
    rw [Bool.and_eq_true, Bool.and_eq_true] at q
    exact dj k ⟨q.1.1, q.2.1⟩)]
  unfold blN
  refine fb_ct_cong fun k _ => ?_
  cases px Ms k <;> cases px Ad k <;> cases decide (k % 64 / B = i ∧ k / 64 / B = j) <;> rfl
/-- the class' blocks -/
def blC (m : mM) (W H B : Nat) (D : Nat → Nat → Nat) : Prop := m.1 64 8 = nI B ∧ m.1 64 9 = nI (coB W B) ∧ m.1 64 10 = nI (coB H B) ∧ ∀ b, b < coB W B * coB H B → m.1 65 b = nI (D (b % coB W B) (b / coB W B))
section BL
variable {S : xS} {W H n : Nat} {m : mM} {Ms Ad : Nat → Int64} {B : Nat} {D : Nat → Nat → Nat}
theorem blockCount_s (hW8 : 8 ≤ W) (hW : W ≤ 64) (hH8 : 8 ≤ H) (hH : H ≤ 64) (hB : 4 ≤ B) (hB2 : B ≤ 16) (c9 : m.1 64 9 = nI (coB W B)) (c10 : m.1 64 10 = nI (coB H B)) : xM S mX1_blockCount [.ref 64] (E W H n m) = some (.inl (some (.int (nI (coB W B * coB H B)))), E W H n m, 0, 0) := by
  have h1 := (coB_le hW8 hW hB hB2).2
  have h2 := (coB_le hH8 hH hB hB2).2
  have h3 : coB W B * coB H B ≤ 16 * 16 := Nat.mul_le_mul h1 h2
  have mn := min_n S (E W H n m) (x := 256) (y := coB W B * coB H B) (by omega) (by omega)
  rw [show min 256 (coB W B * coB H B) = coB W B * coB H B by omega] at mn
  refine w_X1_blockCount S _ _ _ ?_
  refine c_gi (by omega) (by rfl) (by rfl) (by rfl) ?_
  refine c_gi (by omega) (by rfl) (by rfl) (by rfl) ?_
  rw [c9, c10, pk_mul]
  refine c_qI mn ?_
  rfl
def mbP (a j : Nat) : Bool := a == 65 || (a == 64 && (j == 8 || (j == 9 || j == 10)))
theorem measure_s (hW8 : 8 ≤ W) (hW : W ≤ 64) (hH8 : 8 ≤ H) (hH : H ≤ 64) (hB : 4 ≤ B) (hB2 : B ≤ 16) (e79 : m.2.1 79 = Ms) (e81 : m.2.1 81 = Ad) (oM : okP W H Ms) (oA : okP W H Ad) (dj : ∀ k, ¬ (px Ms k = true ∧ px Ad k = true)) : ∃ m', xM S mX1_measureBlocks [.ref 64, .int (nI B)] (E W H n m) = some (.inl none, E W H n m', 0, 0) ∧ blC m' W H B (blN Ms Ad B) ∧ fr mbP m m' := by
  have I78 := im_82.2.2.2.1
  have I80 := im_82.2.2.2.2.1
  obtain ⟨w1, w2⟩ := coB_le hW8 hW hB hB2
  obtain ⟨u1, u2⟩ := coB_le hH8 hH hB hB2
  have ar : coB W B * coB H B ≤ 16 * 16 := Nat.mul_le_mul w2 u2
  have z65 : 256 = eL H 65 := rfl
  have mx := max_n S (E W H n m) (x := 4) (y := B) (by omega) (by omega)
  rw [show max 4 B = B by omega] at mx
  generalize h1 : sI (sI (sI m 64 8 (nI B)) 64 9 (nI (coB W B))) 64 10 (nI (coB H B)) = m1
  have F1 : fr mbP m m1 := by rw [← h1]; exact fr_sI (fr_sI (fr_sI fr_rf (by rfl)) (by rfl)) (by rfl)
  have f8 : m1.1 64 8 = nI B := by rw [← h1, sI_ne (by omega), sI_ne (by omega), sI_eq ⟨rfl, rfl⟩]
  have f9 : m1.1 64 9 = nI (coB W B) := by rw [← h1, sI_ne (by omega), sI_eq ⟨rfl, rfl⟩]
  have f10 : m1.1 64 10 = nI (coB H B) := by rw [← h1, sI_eq ⟨rfl, rfl⟩]
  have L := x_sg (σ := mM) (τ := mM) (D := fun b s => xden S mX1_measureBlocks 51 [(0, .ref 64), (2, .int (nI b))] [] (E W H n s)) (Inv := fun b s => (∀ q, q < b → s.1 65 q = nI (blN Ms Ad B (q % coB W B) (q / coB W B))) ∧ fr (fun a _ => a == 65) m1 s)
    (F := fun s => some (.inl none, E W H n s, 0, 0)) (Post := fun s => blC s W H B (blN Ms Ad B) ∧ fr mbP m s) (coB W B * coB H B) (fun b hb s hs => ?_) (fun s hs => ?_) m1 ⟨fun q hq => absurd hq (Nat.not_lt_zero q), fr_rf⟩
  · obtain ⟨m', k1, k2⟩ := L
    refine ⟨m', w_X1_measureBlocks S _ _ _ _ ?_, k1.1, k1.2⟩
    have k2 := k2 _ rfl
    rw [← h1] at k2
    refine c_qI mx ?_
    refine c_pi (by omega) (by rfl) (by rfl) (by rfl) (xPok_int (by decide) (by rfl)) ?_
    refine c_gW (by omega) (by rfl) (by rfl) (by rfl) ?_
    refine c_gi (by omega) (by rfl) (by rfl) (by rfl) ?_
    refine c_gi (by omega) (by rfl) (by rfl) (by rfl) ?_
    rw [sI_eq ⟨rfl, rfl⟩]
    refine c_iff (fun q => by have := (nI_eq (b := 0) (by omega) (by omega)).mp q; omega) ?_
    rw [nI_add, show (1 : Int32) = nI 1 from rfl, pk_sub (by omega), n_div (by omega) (by omega) (by omega)]
    refine c_pi (by omega) (by rfl) (by rfl) (by rfl) (xPok_int (by decide) (by rfl)) ?_
    refine c_gH (by omega) (by rfl) (by rfl) (by rfl) ?_
    refine c_gi (by omega) (by rfl) (by rfl) (by rfl) ?_
    refine c_gi (by omega) (by rfl) (by rfl) (by rfl) ?_
    rw [sI_ne (by omega), sI_eq ⟨rfl, rfl⟩]
    refine c_iff (fun q => by have := (nI_eq (b := 0) (by omega) (by omega)).mp q; omega) ?_
    rw [nI_add, pk_sub (by omega), n_div (by omega) (by omega) (by omega)]
    refine c_pi (by omega) (by rfl) (by rfl) (by rfl) (xPok_int (by decide) (by rfl)) ?_
    exact k2
  · left
    obtain ⟨h1', h2⟩ := hs
    have s8 : s.1 64 8 = nI B := by rw [fr_i h2 64 8 rfl]; exact f8
    have s9 : s.1 64 9 = nI (coB W B) := by rw [fr_i h2 64 9 rfl]; exact f9
    have s10 : s.1 64 10 = nI (coB H B) := by rw [fr_i h2 64 10 rfl]; exact f10
    have e79' : s.2.1 79 = Ms := by rw [fr_L h2 79 (fun _ => rfl), fr_L F1 79 (fun _ => rfl)]; exact e79
    have e81' : s.2.1 81 = Ad := by rw [fr_L h2 81 (fun _ => rfl), fr_L F1 81 (fun _ => rfl)]; exact e81
    have bc := blockCount_s (S := S) (n := n) hW8 hW hH8 hH hB hB2 s9 s10
    have mc := max_n S (E W H n s) (x := 1) (y := coB W B) (by omega) (by omega)
    rw [show max 1 (coB W B) = coB W B by omega] at mc
    have hi : b % coB W B < coB W B := Nat.mod_lt _ (by omega)
    have hj : b / coB W B < coB H B := (Nat.div_lt_iff_lt_mul (by omega)).mpr (by rw [Nat.mul_comm]; exact hb)
    have rm : nI b - nI b / nI (coB W B) * nI (coB W B) = nI (b % coB W B) := pk_rem (by omega) (by omega) (by omega)
    have dv : nI b / nI (coB W B) = nI (b / coB W B) := n_div (by omega) (by omega) (by omega)
    have iw := inkWithin_E (S := S) (n := n) (m := s) hW hH8 hH I78 e79' oM (x := nI (b % coB W B * B)) (y := nI (b / coB W B * B)) (w := nI B) (h := nI B) (by rw [nI_toInt (by omega)]; omega)
    have jw := inkWithin_E (S := S) (n := n) (m := s) hW hH8 hH I80 e81' oA (x := nI (b % coB W B * B)) (y := nI (b / coB W B * B)) (w := nI B) (h := nI B) (by rw [nI_toInt (by omega)]; omega)
    have tw := blN_two dj hB hB2 (i := b % coB W B) (j := b / coB W B) (by omega) (by omega)
    refine ⟨sI s 65 b (nI (blN Ms Ad B (b % coB W B) (b / coB W B))), ⟨fun q hq => ?_, fr_sI h2 (by rfl)⟩, fun o ho => w_X1_measureBlocks_51 S _ _ _ _ ?_⟩
    · by_cases e : q = b
      · rw [e, sI_eq ⟨rfl, rfl⟩]
      · rw [sI_ne (fun w => e w.2)]
        exact h1' q (by omega)
    · refine c_ob (by omega) (by rfl) ?_
      refine c_qI bc ?_
      refine c_iff (fun q => by have := (nI_leI (by omega) (by omega)).mp q; omega) ?_
      refine c_gi (by omega) (by rfl) (by rfl) (by rfl) ?_
      rw [s9]
      refine c_qI mc ?_
      refine c_iff (fun q => by have := (nI_eq (b := 0) (by omega) (by omega)).mp q; omega) ?_
      refine c_gi (by omega) (by rfl) (by rfl) (by rfl) ?_
      refine c_let ?_
      refine c_gi (by omega) (by rfl) (by rfl) (by rfl) ?_
      rw [s9]
      refine c_qI mc ?_
      refine c_iff (fun q => by have := (nI_eq (b := 0) (by omega) (by omega)).mp q; omega) ?_
      refine c_gi (by omega) (by rfl) (by rfl) (by rfl) ?_
      refine c_let ?_
      rw [rm, dv, s8, pk_mul, pk_mul]
      refine c_gr (by omega) (by rfl) (by rfl) (by rfl) ?_
      refine c_gr (by omega) (by rfl) (by rfl) (by rfl) ?_
      refine c_gi (by omega) (by rfl) (by rfl) (by rfl) ?_
      refine c_gi (by omega) (by rfl) (by rfl) (by rfl) ?_
      rw [s8]
      refine c_ob (by omega) (by rfl) ?_
      refine c_qI iw ?_
      refine c_gr (by omega) (by rfl) (by rfl) (by rfl) ?_
      refine c_gi (by omega) (by rfl) (by rfl) (by rfl) ?_
      refine c_gi (by omega) (by rfl) (by rfl) (by rfl) ?_
      rw [s8]
      refine c_ob (by omega) (by rfl) ?_
      refine c_qI jw ?_
      rw [nI_add, tw]
      refine c_wi (i := b) (by omega) (by rfl) (by rfl) (by rfl) (by first | omega | ((conv => rhs; whnf); first | omega | (show _ < OfNat.ofNat (α := Nat) _; omega))) (by first | omega | ((conv => lhs; whnf); first | omega | (show OfNat.ofNat (α := Nat) _ < _; omega))) ?_
      refine c_let ?_
      rw [show (1 : Int32) = nI 1 from rfl, nI_add]
      exact ho
  · obtain ⟨h1', h2⟩ := hs
    have s9 : s.1 64 9 = nI (coB W B) := by rw [fr_i h2 64 9 rfl]; exact f9
    have s10 : s.1 64 10 = nI (coB H B) := by rw [fr_i h2 64 10 rfl]; exact f10
    have bc := blockCount_s (S := S) (n := n) hW8 hW hH8 hH hB hB2 s9 s10
    refine ⟨s, ⟨⟨by rw [fr_i h2 64 8 rfl]; exact f8, s9, s10, h1'⟩, fr_tr F1 (fr_mono h2 (fun a j w => ?_))⟩, fun o ho => w_X1_measureBlocks_51 S _ _ _ _ ?_⟩
    · unfold mbP at w
      exact (Bool.or_eq_false_iff.mp w).1
    · refine c_ob (by omega) (by rfl) ?_
      refine c_qI bc ?_
      refine c_ift ((nI_leI (by omega) (by omega)).mpr (Nat.le_refl _)) ?_
      exact ho
end BL
/-! DIFFERENCES: the model -/
section MD
variable {S : xS} {W H n : Nat} {m : mM} {f O A : Nat → Int64} {c : Nat} {K : Nat → Nat → Int32}
theorem or_step (p q : Prop) : (pB p || pB q) = pB (p ∨ q) := by
  by_cases hp : p
  · rw [pB_iff.mpr hp, pB_iff.mpr (Or.inl hp), Bool.true_or]
  · rw [pB_no.mpr hp, Bool.false_or]
    exact pB_cong ⟨Or.inr, fun h => h.resolve_left hp⟩
theorem isNear_s (hW8 : 8 ≤ W) (hW : W ≤ 64) (hH8 : 8 ≤ H) (hH : H ≤ 64) {b : Nat} (hb : b = 114 ∨ b = 117) (P : piM m b f) {far : Nat} (hf : far ≤ 2) (e98 : m.1 98 2 = nI far) {k : Nat} (hk : k < 4096) : xM S mX13_isNear [.ref 90, .ref b, .int (nI k)] (E W H n m) = some (.inl (some (.int (bz (nrB W H f far (k / 64) (k % 64))))), E W H n m, 0, 0) := by
  have hkb : eK b = (3, 4096) := by rcases hb with rfl | rfl <;> rfl
  have hcb : eCc b = false := by rcases hb with rfl | rfl <;> rfl
  have hlb : 4096 = eL H b := by rcases hb with rfl | rfl <;> rfl
  have z98 : 10 = eL H 98 := rfl
  have nat64 : nI k - nI k / (64 : Int32) * (64 : Int32) = nI (k % 64) := pk_rem (by omega) (by decide) (by decide)
  have div64 : nI k / (64 : Int32) = nI (k / 64) := n_div (by omega) (by decide) (by decide)
  obtain ⟨j, ej⟩ : ∃ j, j = k / 64 := ⟨_, rfl⟩
  obtain ⟨i, ei⟩ : ∃ i, i = k % 64 := ⟨_, rfl⟩
  rw [← ei] at nat64 ⊢
  rw [← ej] at div64 ⊢
  have sj : nI j - nI far = zI ((j : Int) - far) := by rw [← zI_n (show j < 2147483648 by omega), ← zI_n (show far < 2147483648 by omega), zI_sub (by omega) (by omega) (by omega) (by omega)]
  have si : nI i - nI far = zI ((i : Int) - far) := by rw [← zI_n (show i < 2147483648 by omega), ← zI_n (show far < 2147483648 by omega), zI_sub (by omega) (by omega) (by omega) (by omega)]
  have aj : nI j + nI far = zI ((j : Int) + far) := by rw [← zI_n (show j < 2147483648 by omega), ← zI_n (show far < 2147483648 by omega), zI_add]
  have ai : nI i + nI far = zI ((i : Int) + far) := by rw [← zI_n (show i < 2147483648 by omega), ← zI_n (show far < 2147483648 by omega), zI_add]
  have L := x_sg (σ := Bool) (τ := Bool) (D := fun q g => xden S mX13_isNear 18 [(0, .ref 90), (1, .ref b), (2, .int (nI k)), (3, .int (nI far)), (4, .int (bz g)), (5, .int (zI ((j : Int) - far + q)))] [] (E W H n m)) (Inv := fun q g => g = pB (∃ y x : Int, (j : Int) - far ≤ y ∧ y < (j : Int) - far + q ∧ (i : Int) - far ≤ x ∧ x ≤ i + far ∧ atP W H f x y = true))
    (F := fun g => some (.inl (some (.int (bz g))), E W H n m, 0, 0)) (Post := fun g => g = nrB W H f far j i) (2 * far + 1) (fun q hq g hg => ?_) (fun g hg => ?_) false (pB_no.mpr (fun ⟨y, x, h1, h2, _⟩ => by omega)).symm
  · obtain ⟨g, h1, h2⟩ := L
    have h2 := h2 _ rfl
    rw [show (j : Int) - far + ((0 : Nat) : Int) = (j : Int) - far by omega] at h2
    rw [← h1]
    refine w_X13_isNear S _ _ _ _ _ ?_
    refine c_gr (by omega) (by rfl) (by rfl) (by rfl) ?_
    refine c_ri (i := 2) (by omega) (by rfl) (by rfl) (by rfl) (by first | omega | ((conv => rhs; whnf); first | omega | (show _ < OfNat.ofNat (α := Nat) _; omega))) (by first | omega | ((conv => lhs; whnf); first | omega | (show OfNat.ofNat (α := Nat) _ < _; omega))) (by decide) ?_
    refine c_let ?_
    rw [e98, div64, sj]
    exact h2
  · left
    have L2 := x_sg (σ := Bool) (τ := Bool) (D := fun p g => xden S mX13_isNear 37 [(0, .ref 90), (1, .ref b), (2, .int (nI k)), (3, .int (nI far)), (4, .int (bz g)), (5, .int (zI ((j : Int) - far + q))), (6, .int (zI ((i : Int) - far + p)))] [] (E W H n m)) (Inv := fun p g => g = pB (∃ y x : Int, (j : Int) - far ≤ y ∧ (i : Int) - far ≤ x ∧ x ≤ i + far ∧ (y < (j : Int) - far + q ∨ y = (j : Int) - far + q ∧ x < (i : Int) - far + p) ∧ atP W H f x y = true))
      (F := fun g => xden S mX13_isNear 18 [(0, .ref 90), (1, .ref b), (2, .int (nI k)), (3, .int (nI far)), (4, .int (bz g)), (5, .int (zI ((j : Int) - far + ((q + 1 : Nat) : Int))))] [] (E W H n m)) (Post := fun g => g = pB (∃ y x : Int, (j : Int) - far ≤ y ∧ y < (j : Int) - far + ((q + 1 : Nat) : Int) ∧ (i : Int) - far ≤ x ∧ x ≤ i + far ∧ atP W H f x y = true)) (2 * far + 1) (fun p hp g hg => ?_) (fun g hg => ?_) g (by
        rw [hg]
        refine pB_cong ⟨fun ⟨y, x, h1, h2, h3, h4, h5⟩ => ⟨y, x, h1, h3, h4, Or.inl h2, h5⟩, fun ⟨y, x, h1, h3, h4, h2, h5⟩ => ⟨y, x, h1, by omega, h3, h4, h5⟩⟩)
    · obtain ⟨g', h1, h2⟩ := L2
      refine ⟨g', h1, fun o ho => ?_⟩
      have h2 := h2 o ho
      rw [show (i : Int) - far + ((0 : Nat) : Int) = (i : Int) - far by omega] at h2
      refine w_X13_isNear_18 S _ _ _ _ _ _ _ _ ?_
      rw [nat64, div64, aj]
      refine c_iff (fun w => by have := (zI_lt (by omega) (by omega) (by omega) (by omega)).mp w; omega) ?_
      refine c_let ?_
      rw [si]
      exact h2
    · left
      obtain ⟨y0, ey⟩ : ∃ y0, y0 = (j : Int) - far + q := ⟨_, rfl⟩
      obtain ⟨x0, ex⟩ : ∃ x0, x0 = (i : Int) - far + p := ⟨_, rfl⟩
      have nx : zI x0 + (1 : Int32) = zI ((i : Int) - far + ((p + 1 : Nat) : Int)) := by
        rw [show (1 : Int32) = nI 1 from rfl, zI_1]
        congr 1
        omega
      have on := isOn_s (S := S) (n := n) (m := m) hW8 hW hH8 hH (zI x0).toInt64 (zI y0).toInt64
      rw [Int32.toInt_toInt64, Int32.toInt_toInt64, zI_t (by omega) (by omega), zI_t (by omega) (by omega)] at on
      rw [← ex, ← ey]
      rw [← ex, ← ey] at hg
      refine ⟨g || atP W H f x0 y0, ?_, fun o ho => w_X13_isNear_37 S _ _ _ _ _ _ _ _ _ ?_⟩
      · rw [hg]
        have e1 : atP W H f x0 y0 = pB (atP W H f x0 y0 = true) := by
          cases hh : atP W H f x0 y0
          · exact (pB_no.mpr (by decide)).symm
          · exact (pB_iff.mpr rfl).symm
        rw [e1, or_step]
        refine pB_cong ⟨?_, ?_⟩
        · rintro (⟨y, x, h1, h2, h3, h4, h5⟩ | h)
          · exact ⟨y, x, h1, h2, h3, by omega, h5⟩
          · exact ⟨y0, x0, by omega, by omega, by omega, by omega, h⟩
        · rintro ⟨y, x, h1, h2, h3, h4, h5⟩
          by_cases d : y = y0 ∧ x = x0
          · obtain ⟨rfl, rfl⟩ := d
            exact Or.inr h5
          · exact Or.inl ⟨y, x, h1, h2, h3, by omega, h5⟩
      · rw [nat64, ai]
        refine c_iff (fun w => by have := (zI_lt (by omega) (by omega) (by omega) (by omega)).mp w; omega) ?_
        cases g
        · rw [Bool.false_or] at ho
          refine c_iff (by decide) ?_
          refine c_ob (by omega) (by rfl) ?_
          refine c_qI on ?_
          unfold atP at ho
          cases d : onP W H x0 y0
          · rw [d, Bool.false_and] at ho
            refine c_ift (by decide) ?_
            refine c_let ?_
            rw [nx]
            exact ho
          · rw [d, Bool.true_and] at ho
            have w := of_decide_eq_true d
            have ix : (64 : Int32) * zI y0 + zI x0 = nI (64 * y0.toNat + x0.toNat) := by
              rw [show (64 : Int32) = zI 64 from rfl, zI_mul (by omega) (by omega) (by omega) (by omega) (by omega) (by omega), zI_add, ← zI_n (by omega)]
              congr 1
              omega
            have ea := P (64 * y0.toNat + x0.toNat) (by omega)
            rw [px_xy f _ (by omega)] at ea
            refine c_iff (by decide) ?_
            rw [ix]
            refine c_ri (i := 64 * y0.toNat + x0.toNat) (by omega) hkb hcb (by rfl) (by rw [← hlb]; omega) (by rw [← hlb]; decide) (by decide) ?_
            rw [ea]
            cases v : lb (f y0.toNat) x0.toNat
            · rw [v] at ho
              refine c_ift (by decide) ?_
              refine c_let ?_
              rw [nx]
              exact ho
            · rw [v] at ho
              refine c_iff (by decide) ?_
              refine c_let ?_
              rw [nx]
              exact ho
        · rw [Bool.true_or] at ho
          refine c_ift (by decide) ?_
          refine c_let ?_
          rw [nx]
          exact ho
    · refine ⟨g, ?_, fun o ho => w_X13_isNear_37 S _ _ _ _ _ _ _ _ _ ?_⟩
      · rw [hg]
        refine pB_cong ⟨fun ⟨y, x, h1, h3, h4, h2, h5⟩ => ⟨y, x, h1, by omega, h3, h4, h5⟩, fun ⟨y, x, h1, h2, h3, h4, h5⟩ => ⟨y, x, h1, h3, h4, by omega, h5⟩⟩
      · rw [nat64, ai]
        refine c_ift ((zI_lt (by omega) (by omega) (by omega) (by omega)).mpr (by omega)) ?_
        refine c_let ?_
        rw [show (1 : Int32) = nI 1 from rfl, zI_1, show (j : Int) - far + (q : Int) + 1 = (j : Int) - far + ((q + 1 : Nat) : Int) by omega]
        exact ho
  · refine ⟨g, ?_, fun o ho => w_X13_isNear_18 S _ _ _ _ _ _ _ _ ?_⟩
    · rw [hg]
      unfold nrB nrP
      refine pB_cong ⟨fun ⟨y, x, h1, h2, h3, h4, h5⟩ => ⟨y, x, h1, by omega, h3, h4, h5⟩, fun ⟨y, x, h1, h2, h3, h4, h5⟩ => ⟨y, x, h1, by omega, h3, h4, h5⟩⟩
    · rw [div64, aj]
      refine c_ift ((zI_lt (by omega) (by omega) (by omega) (by omega)).mpr (by omega)) ?_
      refine c_nz ?_
      exact ho
theorem isMasked_s (C : mkM m c K) (hc : c ≤ 6) {k : Nat} (hk : k < 4096) : xM S mX13_isMasked [.ref 90, .int (nI k)] (E W H n m) = some (.inl (some (.int (bz (mkdB c K k)))), E W H n m, 0, 0) := by
  obtain ⟨c1, c2⟩ := C
  have z0 : 6 = eL H 107 := rfl
  have z1 : 6 = eL H 108 := rfl
  have z2 : 6 = eL H 109 := rfl
  have z3 : 6 = eL H 110 := rfl
  have L := x_sg (σ := Bool) (τ := Bool) (D := fun q g => xden S mX13_isMasked 4 [(0, .ref 90), (1, .int (nI k)), (2, .int (bz g)), (3, .int (nI q))] [] (E W H n m)) (Inv := fun q g => g = mkdB q K k)
    (F := fun g => some (.inl (some (.int (bz g))), E W H n m, 0, 0)) (Post := fun g => g = mkdB c K k) c (fun q hq g hg => ?_) (fun g hg => ?_) false (pB_no.mpr (fun ⟨z, h1, _⟩ => absurd h1 (Nat.not_lt_zero z))).symm
  · obtain ⟨g, h1, h2⟩ := L
    rw [← h1]
    exact w_X13_isMasked S _ _ _ _ (h2 _ rfl)
  · left
    obtain ⟨e0, e1, e2, e3⟩ := c2 q hq
    have wi := isWithin_s S (E W H n m) hk (K q 0) (K q 1) (K q 2) (K q 3)
    have nx : mkdB (q + 1) K k = (g || wnF (K q 0) (K q 1) (K q 2) (K q 3) k) := by
      rw [hg]
      have e9 : wnF (K q 0) (K q 1) (K q 2) (K q 3) k = pB (wnF (K q 0) (K q 1) (K q 2) (K q 3) k = true) := by
        cases hh : wnF (K q 0) (K q 1) (K q 2) (K q 3) k
        · exact (pB_no.mpr (by decide)).symm
        · exact (pB_iff.mpr rfl).symm
      rw [e9]
      unfold mkdB
      rw [or_step]
      refine pB_cong ⟨?_, ?_⟩
      · rintro ⟨z, h1, h2⟩
        rcases Nat.lt_succ_iff_lt_or_eq.mp h1 with h | h
        · exact Or.inl ⟨z, h, h2⟩
        · subst h; exact Or.inr h2
      · rintro (⟨z, h1, h2⟩ | h)
        · exact ⟨z, by omega, h2⟩
        · exact ⟨q, Nat.lt_succ_self q, h⟩
    refine ⟨_, nx.symm, fun o ho => w_X13_isMasked_4 S _ _ _ _ _ _ ?_⟩
    refine c_gi (by omega) (by rfl) (by rfl) (by rfl) ?_
    rw [c1]
    refine c_iff (fun w => by have := (nI_leI (by omega) (by omega)).mp w; omega) ?_
    cases g
    · rw [Bool.false_or, show wnF (K q 0) (K q 1) (K q 2) (K q 3) k = decide ((K q 0).toInt ≤ (k % 64 : Nat) ∧ ((k % 64 : Nat) : Int) < (K q 0).toInt + (K q 2).toInt ∧ (K q 1).toInt ≤ (k / 64 : Nat) ∧ ((k / 64 : Nat) : Int) < (K q 1).toInt + (K q 3).toInt) from rfl] at ho
      refine c_iff (by decide) ?_
      refine c_gr (by omega) (by rfl) (by rfl) (by rfl) ?_
      refine c_ri (i := q) (by omega) (by rfl) (by rfl) (by rfl) (by first | omega | ((conv => rhs; whnf); first | omega | (show _ < OfNat.ofNat (α := Nat) _; omega))) (by first | omega | ((conv => lhs; whnf); first | omega | (show OfNat.ofNat (α := Nat) _ < _; omega))) (by decide) ?_
      refine c_gr (by omega) (by rfl) (by rfl) (by rfl) ?_
      refine c_ri (i := q) (by omega) (by rfl) (by rfl) (by rfl) (by first | omega | ((conv => rhs; whnf); first | omega | (show _ < OfNat.ofNat (α := Nat) _; omega))) (by first | omega | ((conv => lhs; whnf); first | omega | (show OfNat.ofNat (α := Nat) _ < _; omega))) (by decide) ?_
      refine c_gr (by omega) (by rfl) (by rfl) (by rfl) ?_
      refine c_ri (i := q) (by omega) (by rfl) (by rfl) (by rfl) (by first | omega | ((conv => rhs; whnf); first | omega | (show _ < OfNat.ofNat (α := Nat) _; omega))) (by first | omega | ((conv => lhs; whnf); first | omega | (show OfNat.ofNat (α := Nat) _ < _; omega))) (by decide) ?_
      refine c_gr (by omega) (by rfl) (by rfl) (by rfl) ?_
      refine c_ri (i := q) (by omega) (by rfl) (by rfl) (by rfl) (by first | omega | ((conv => rhs; whnf); first | omega | (show _ < OfNat.ofNat (α := Nat) _; omega))) (by first | omega | ((conv => lhs; whnf); first | omega | (show OfNat.ofNat (α := Nat) _ < _; omega))) (by decide) ?_
      rw [e0, e1, e2, e3]
      refine c_qI wi ?_
      cases d : decide ((K q 0).toInt ≤ (k % 64 : Nat) ∧ ((k % 64 : Nat) : Int) < (K q 0).toInt + (K q 2).toInt ∧ (K q 1).toInt ≤ (k / 64 : Nat) ∧ ((k / 64 : Nat) : Int) < (K q 1).toInt + (K q 3).toInt)
      · rw [d] at ho
        refine c_ift (by decide) ?_
        refine c_let ?_
        rw [show (1 : Int32) = nI 1 from rfl, nI_add]
        exact ho
      · rw [d] at ho
        refine c_iff (by decide) ?_
        refine c_let ?_
        rw [show (1 : Int32) = nI 1 from rfl, nI_add]
        exact ho
    · rw [Bool.true_or] at ho
      refine c_ift (by decide) ?_
      refine c_let ?_
      rw [show nI q + (1 : Int32) = nI (q + 1) from nI_add q 1]
      exact ho
  · refine ⟨g, hg, fun o ho => w_X13_isMasked_4 S _ _ _ _ _ _ ?_⟩
    refine c_gi (by omega) (by rfl) (by rfl) (by rfl) ?_
    rw [c1]
    refine c_ift ((nI_leI (by omega) (by omega)).mpr (Nat.le_refl _)) ?_
    refine c_nz ?_
    exact ho
end MD

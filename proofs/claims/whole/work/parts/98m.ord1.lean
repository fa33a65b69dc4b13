/-! ORDER: regions have pixels; the order of a key; bands -/
theorem reg_seed {P : Nat → Bool} {r : Nat} (h : r < nS ba P 256) : ∃ s, s < 256 ∧ P s = true ∧ lbN P s = r := by
  obtain ⟨s, h1, h2, h3⟩ := fb_ct_kth (show r < fb_ct (sd ba P) 256 from h)
  exact ⟨s, h1, (sd_iff.mp h2).1, (lbN_of h2 cn_rf h1).trans h3⟩
theorem reg_px {Ms Ad : Nat → Int64} {B c rr noise : Nat} {P : Nat → Bool} (hP : ∀ k, k < 256 → P k = chB c rr (blN Ms Ad B) noise k) {r : Nat} (h : r < nS ba P 256) : ∃ k, k < 4096 ∧ rgQ Ms Ad P B r k = true := by
  obtain ⟨s, h1, h2, h3⟩ := reg_seed h
  have c := hP s h1
  rw [h2] at c
  have c := of_decide_eq_true c.symm
  obtain ⟨k, k1, k2⟩ := fb_ct_pos.mp (show 0 < fb_ct (fun k => (px Ms k || px Ad k) && decide (k % 64 / B = s % 16 ∧ k / 64 / B = s / 16)) 4096 from Nat.lt_of_le_of_lt (Nat.zero_le _) c.2.2)
  rw [Bool.and_eq_true, decide_eq_true_eq] at k2
  have e : blk B k = s := by
    unfold blk
    rw [k2.2.1, k2.2.2]
    omega
  refine ⟨k, k1, ?_⟩
  unfold rgQ rgB
  rw [k2.1, e, h2, decide_eq_true h3]
  rfl
theorem rgF_px {W H : Nat} {f : Nat → Int64} (hW : W ≤ 64) (o : okP W H f) (P : Nat → Bool) (B r : Nat) {k : Nat} : px (mkW W H (rgF f P B r)) k = (px f k && rgB P B r k) := by
  have g := mkW_B (W := W) (H := H) hW (rgF f P B r)
  by_cases c : k % 64 < W ∧ k / 64 < H
  · rw [gB_on g c]
    unfold rgF px
    rw [show 64 * (k / 64) + k % 64 = k by omega]
  · rw [gB_off g c, px_off o c]
    rfl
/-- the pixels of a region, of both sides -/
noncomputable def rgU (W H : Nat) (Ms Ad : Nat → Int64) (P : Nat → Bool) (B r : Nat) : Nat → Int64 := fun y => mkW W H (rgF Ms P B r) y ||| mkW W H (rgF Ad P B r) y
theorem rgU_px {W H : Nat} {Ms Ad : Nat → Int64} (hW : W ≤ 64) (oM : okP W H Ms) (oA : okP W H Ad) (P : Nat → Bool) (B r : Nat) (k : Nat) : px (rgU W H Ms Ad P B r) k = rgQ Ms Ad P B r k := by
  have e1 := rgF_px hW oM P B r (k := k)
  have e2 := rgF_px hW oA P B r (k := k)
  unfold px at e1 e2
  unfold rgU rgQ px
  show lb (mkW W H (rgF Ms P B r) (k / 64) ||| mkW W H (rgF Ad P B r) (k / 64)) (k % 64) = _
  rw [lb_or, e1, e2]
  cases lb (Ms (k / 64)) (k % 64) <;> cases lb (Ad (k / 64)) (k % 64) <;> cases rgB P B r k <;> rfl
theorem reg_ne {W H : Nat} {Ms Ad : Nat → Int64} (hW : W ≤ 64) (oM : okP W H Ms) (oA : okP W H Ad) {B c rr noise : Nat} {P : Nat → Bool} (hP : ∀ k, k < 256 → P k = chB c rr (blN Ms Ad B) noise k) {r : Nat} (h : r < nS ba P 256) : (ctP (mkW W H (rgF Ms P B r)) ≠ 0 ∨ ctP (mkW W H (rgF Ad P B r)) ≠ 0) ∧ ctP (rgU W H Ms Ad P B r) ≠ 0 := by
  obtain ⟨k, k1, k2⟩ := reg_px hP h
  refine ⟨?_, fun z => by
    have := fb_ct_zero.mp z k k1
    rw [rgU_px hW oM oA, k2] at this
    cases this⟩
  unfold rgQ at k2
  rw [Bool.and_eq_true, Bool.or_eq_true] at k2
  rcases k2.1 with p | p
  · left
    intro z
    have := fb_ct_zero.mp z k k1
    rw [rgF_px hW oM, p, k2.2] at this
    cases this
  · right
    intro z
    have := fb_ct_zero.mp z k k1
    rw [rgF_px hW oA, p, k2.2] at this
    cases this
theorem nS_128 (P : Nat → Bool) : nS ba P 256 ≤ 128 := by
  have key : ∀ q, fb_ct (sd ba P) (2 * q) ≤ q := fun q => by
    induction q with
    | zero => exact Nat.le_refl _
    | succ q ih =>
      rw [show 2 * (q + 1) = 2 * q + 1 + 1 by omega, fb_ct_succ, fb_ct_succ]
      by_cases h : sd ba P (2 * q) = true
      · rw [if_pos h, if_neg (fun g => by
          obtain ⟨p1, _⟩ := sd_iff.mp h
          obtain ⟨p2, v⟩ := sd_iff.mp g
          exact v ⟨2 * q, by omega, p1, cn_st cn_rf (show ba (2 * q) (2 * q + 1) by unfold ba; omega) p2⟩)]
        omega
      · rw [if_neg h]
        have : (if sd ba P (2 * q + 1) = true then 1 else 0) ≤ 1 := by split <;> omega
        omega
  exact key 128
/-- the box of rows -/
noncomputable def bxC (F : Nat → Int64) : Nat × Nat × Nat × Nat := by classical exact if h : ∃ b : Nat × Nat × Nat × Nat, isBox F b.1 b.2.1 b.2.2.1 b.2.2.2 then Classical.choose h else (0, 0, 0, 0)
theorem bxC_eq {F : Nat → Int64} {l t r b : Nat} (h : isBox F l t r b) : bxC F = (l, t, r, b) := by
  have ex : ∃ b : Nat × Nat × Nat × Nat, isBox F b.1 b.2.1 b.2.2.1 b.2.2.2 := ⟨(l, t, r, b), h⟩
  have e : bxC F = Classical.choose ex := by
    unfold bxC
    exact dif_pos ex
  have g := Classical.choose_spec ex
  obtain ⟨q1, q2, q3, q4⟩ := isBox_one g h
  rw [e]
  exact Prod.ext q1 (Prod.ext q2 (Prod.ext q3 q4))
/-- the one order by a key -/
theorem ord_ex {G : Nat → Nat} {N : Nat} (inj : ∀ a b, a < N → b < N → G a = G b → a = b) : ∃ o : Nat → Nat, (∀ i, i < N → o i < N) ∧ ∀ i j, i < j → j < N → G (o i) < G (o j) := by
  have rl : ∀ a b, a < N → b < N → G a < G b → fb_ct (fun q => decide (G q < G a)) N < fb_ct (fun q => decide (G q < G b)) N := fun a b ha hb h => fb_ct_lt (k := a) (fun i _ p => decide_eq_true (Nat.lt_trans (of_decide_eq_true p) h)) ha (decide_eq_false (Nat.lt_irrefl _)) (decide_eq_true h)
  have rN : ∀ a, a < N → fb_ct (fun q => decide (G q < G a)) N < N := fun a ha => Nat.lt_of_lt_of_le (fb_ct_lt (q := fun _ => true) (k := a) (fun i _ _ => rfl) ha (decide_eq_false (Nat.lt_irrefl _)) rfl) (fb_ct_le _ _)
  have ri : ∀ i j, i < j → j < N → fb_ct (fun q => decide (G q < G i)) N ≠ fb_ct (fun q => decide (G q < G j)) N := fun i j h1 h2 e => by
    rcases Nat.lt_trichotomy (G i) (G j) with q | q | q
    · have := rl i j (by omega) h2 q
      omega
    · have := inj i j (by omega) h2 q
      omega
    · have := rl j i h2 (by omega) q
      omega
  have on : ∀ y, y < N → ∃ i, i < N ∧ fb_ct (fun q => decide (G q < G i)) N = y := fun y hy => fb_onto rN ri hy
  classical
  have ex : ∀ y, ∃ i, y < N → i < N ∧ fb_ct (fun q => decide (G q < G i)) N = y := fun y => by
    by_cases hy : y < N
    · obtain ⟨i, h⟩ := on y hy
      exact ⟨i, fun _ => h⟩
    · exact ⟨0, fun h => absurd h hy⟩
  refine ⟨fun y => Classical.choose (ex y), fun i hi => (Classical.choose_spec (ex i) hi).1, fun i j h1 h2 => ?_⟩
  obtain ⟨a1, a2⟩ := Classical.choose_spec (ex i) (by omega)
  obtain ⟨b1, b2⟩ := Classical.choose_spec (ex j) h2
  show G (Classical.choose (ex i)) < G (Classical.choose (ex j))
  rcases Nat.lt_trichotomy (G (Classical.choose (ex i))) (G (Classical.choose (ex j))) with q | q | q
  · exact q
  · have := inj _ _ a1 b1 q
    rw [this] at a2
    omega
  · have := rl _ _ b1 a1 q
    omega
noncomputable def oG (G : Nat → Nat) (N : Nat) : Nat → Nat := by classical exact if h : ∃ o : Nat → Nat, (∀ i, i < N → o i < N) ∧ ∀ i j, i < j → j < N → G (o i) < G (o j) then Classical.choose h else id
theorem oG_s {G : Nat → Nat} {N : Nat} (inj : ∀ a b, a < N → b < N → G a = G b → a = b) : (∀ i, i < N → oG G N i < N) ∧ ∀ i j, i < j → j < N → G (oG G N i) < G (oG G N j) := by
  have e : oG G N = Classical.choose (ord_ex inj) := by
    unfold oG
    exact dif_pos (ord_ex inj)
  rw [e]
  exact Classical.choose_spec (ord_ex inj)
theorem oG_one {G : Nat → Nat} {N : Nat} (inj : ∀ a b, a < N → b < N → G a = G b → a = b) {o : Nat → Nat} (h1 : ∀ i, i < N → o i < N) (h2 : ∀ i j, i < j → j < N → G (o i) < G (o j)) : ∀ i, i < N → o i = oG G N i := so_one (lt := fun a b => G a < G b) (fun a b q r => by omega) h1 h2 (oG_s inj).1 (oG_s inj).2
theorem oG_inj {G : Nat → Nat} {N : Nat} (inj : ∀ a b, a < N → b < N → G a = G b → a = b) {i j : Nat} (hi : i < N) (hj : j < N) (e : oG G N i = oG G N j) : i = j := by
  rcases Nat.lt_trichotomy i j with q | q | q
  · have := (oG_s inj).2 i j q hj
    rw [e] at this
    omega
  · exact q
  · have := (oG_s inj).2 j i q hi
    rw [e] at this
    omega
theorem oG_onto {G : Nat → Nat} {N : Nat} (inj : ∀ a b, a < N → b < N → G a = G b → a = b) {y : Nat} (hy : y < N) : ∃ i, i < N ∧ oG G N i = y := fb_onto (oG_s inj).1 (fun i j h1 h2 e => by
  have := oG_inj inj (by omega) h2 e
  omega) hy
/-- the two orders of regions -/
def G1 (k1 k2 : Nat → Nat) (a : Nat) : Nat := (k1 a * 64 + k2 a) * 256 + a
theorem G1_inj {k1 k2 : Nat → Nat} {N : Nat} (hN : N ≤ 256) : ∀ a b, a < N → b < N → G1 k1 k2 a = G1 k1 k2 b → a = b := fun a b ha hb e => by
  unfold G1 at e
  omega
noncomputable def o1 (k1 k2 : Nat → Nat) (N : Nat) : Nat → Nat := oG (G1 k1 k2) N
noncomputable def bS (k1 k2 ke : Nat → Nat) (N : Nat) : Nat → Int × Int := bnd (fun i => (k1 (o1 k1 k2 N i) : Int)) (fun i => (ke (o1 k1 k2 N i) : Int))
noncomputable def bd (k1 k2 ke : Nat → Nat) (N i : Nat) : Nat := (bS k1 k2 ke N (i + 1)).1.toNat
noncomputable def bdR (k1 k2 ke : Nat → Nat) (N a : Nat) : Nat := bd k1 k2 ke N (fa_first (fun i => decide (o1 k1 k2 N i = a)) N)
noncomputable def G2 (k1 k2 ke : Nat → Nat) (N a : Nat) : Nat := ((bdR k1 k2 ke N a * 64 + k2 a) * 64 + k1 a) * 256 + a
theorem G2_inj {k1 k2 ke : Nat → Nat} {N : Nat} (hN : N ≤ 256) : ∀ a b, a < N → b < N → G2 k1 k2 ke N a = G2 k1 k2 ke N b → a = b := fun a b ha hb e => by
  unfold G2 at e
  omega
noncomputable def o2 (k1 k2 ke : Nat → Nat) (N : Nat) : Nat → Nat := oG (G2 k1 k2 ke N) N
section BD
variable {k1 k2 ke : Nat → Nat} {N : Nat}
theorem bd_z (i : Nat) : (bS k1 k2 ke N (i + 1)).1 = (bd k1 k2 ke N i : Int) := by
  have := (bnd_rng (f := fun i => (k1 (o1 k1 k2 N i) : Int)) (e := fun i => (ke (o1 k1 k2 N i) : Int)) (i + 1)).2.2 (Nat.succ_pos i)
  unfold bd bS
  omega
theorem bd_le (i : Nat) : bd k1 k2 ke N i ≤ i := by
  have := (bnd_rng (f := fun i => (k1 (o1 k1 k2 N i) : Int)) (e := fun i => (ke (o1 k1 k2 N i) : Int)) (i + 1)).2.1
  unfold bd bS
  omega
theorem bd_0 : bd k1 k2 ke N 0 = 0 := by
  have := bd_le (k1 := k1) (k2 := k2) (ke := ke) (N := N) 0
  omega
theorem bd_mono {i j : Nat} (h : i ≤ j) : bd k1 k2 ke N i ≤ bd k1 k2 ke N j := by
  obtain ⟨d, rfl⟩ : ∃ d, j = i + d := ⟨j - i, by omega⟩
  clear h
  induction d with
  | zero => exact Nat.le_refl _
  | succ d ih =>
    refine Nat.le_trans ih ?_
    have e1 := bd_z (k1 := k1) (k2 := k2) (ke := ke) (N := N) (i + d)
    have e2 := bd_z (k1 := k1) (k2 := k2) (ke := ke) (N := N) (i + (d + 1))
    have st : (bS k1 k2 ke N (i + d + 1)).1 ≤ (bS k1 k2 ke N (i + d + 1 + 1)).1 := by
      show _ ≤ (bnd _ _ (i + d + 1 + 1)).1
      unfold bnd
      split
      · show (bS k1 k2 ke N (i + d + 1)).1 ≤ (bS k1 k2 ke N (i + d + 1)).1 + 1
        omega
      · exact Int.le_refl _
    rw [show i + (d + 1) + 1 = i + d + 1 + 1 by omega] at e2
    omega
theorem o1_s (hN : N ≤ 256) : (∀ i, i < N → o1 k1 k2 N i < N) ∧ ∀ i j, i < j → j < N → G1 k1 k2 (o1 k1 k2 N i) < G1 k1 k2 (o1 k1 k2 N j) := oG_s (G1_inj hN)
theorem o2_s (hN : N ≤ 256) : (∀ i, i < N → o2 k1 k2 ke N i < N) ∧ ∀ i j, i < j → j < N → G2 k1 k2 ke N (o2 k1 k2 ke N i) < G2 k1 k2 ke N (o2 k1 k2 ke N j) := oG_s (G2_inj hN)
theorem bdR_o1 (hN : N ≤ 256) {i : Nat} (hi : i < N) : bdR k1 k2 ke N (o1 k1 k2 N i) = bd k1 k2 ke N i := by
  unfold bdR
  have y : (fun j => decide (o1 k1 k2 N j = o1 k1 k2 N i)) i = true := decide_eq_true rfl
  have lt : fa_first (fun j => decide (o1 k1 k2 N j = o1 k1 k2 N i)) N < N := by
    rcases Nat.lt_or_ge (fa_first (fun j => decide (o1 k1 k2 N j = o1 k1 k2 N i)) N) N with q | q
    · exact q
    · have := fa_first_no (fun j => decide (o1 k1 k2 N j = o1 k1 k2 N i)) N i (by omega)
      exact absurd (y.symm.trans this) (by decide)
  have z := of_decide_eq_true (fa_first_yes (fun j => decide (o1 k1 k2 N j = o1 k1 k2 N i)) N lt)
  rw [oG_inj (G1_inj hN) lt hi z]
theorem bdR_le (hN : N ≤ 256) {a : Nat} (ha : a < N) : bdR k1 k2 ke N a ≤ bd k1 k2 ke N (N - 1) := by
  obtain ⟨i, hi, rfl⟩ := oG_onto (G1_inj (k1 := k1) (k2 := k2) hN) ha
  show bdR k1 k2 ke N (o1 k1 k2 N i) ≤ _
  rw [bdR_o1 hN hi]
  exact bd_mono (by omega)
end BD

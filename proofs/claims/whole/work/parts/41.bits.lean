/-! LONGS BY THEIR BITS -/
def lb (v : Int64) (i : Nat) : Bool := v.toBitVec.getLsbD i
theorem lb_ext {x y : Int64} (h : ∀ i, i < 64 → lb x i = lb y i) : x = y := Int64.toBitVec_inj.mp (BitVec.eq_of_getLsbD_eq (fun i hi => h i hi))
theorem lb_or (x y : Int64) (i : Nat) : lb (x ||| y) i = (lb x i || lb y i) := by unfold lb; rw [Int64.toBitVec_or, BitVec.getLsbD_or]
theorem lb_and (x y : Int64) (i : Nat) : lb (x &&& y) i = (lb x i && lb y i) := by unfold lb; rw [Int64.toBitVec_and, BitVec.getLsbD_and]
theorem lb_xor (x y : Int64) (i : Nat) : lb (x ^^^ y) i = (lb x i ^^ lb y i) := by unfold lb; rw [Int64.toBitVec_xor, BitVec.getLsbD_xor]
theorem lb_big {x : Int64} {i : Nat} (h : 64 ≤ i) : lb x i = false := BitVec.getLsbD_of_ge _ _ h
theorem lb_0 (i : Nat) : lb 0 i = false := BitVec.getLsbD_zero
theorem lb_m1 : ∀ i, i < 64 → lb (-1) i = true := by decide +kernel
theorem lb_lt {x : Int64} {i : Nat} (h : lb x i = true) : i < 64 := by
  rcases Nat.lt_or_ge i 64 with q | q
  · exact q
  · rw [lb_big q] at h; cases h
theorem lb_not (x : Int64) {i : Nat} (hi : i < 64) : lb (x ^^^ (-1)) i = !lb x i := by rw [lb_xor, lb_m1 i hi]; cases lb x i <;> rfl
theorem lb_andn (x y : Int64) (i : Nat) : lb (x &&& (y ^^^ (-1))) i = (lb x i && !lb y i) := by
  rw [lb_and]
  rcases Nat.lt_or_ge i 64 with h | h
  · rw [lb_not y h]
  · rw [lb_big (x := x) h]; rfl
theorem lb_lN (n i : Nat) : lb (lN n) i = (decide (i < 64) && n.testBit i) := by
  unfold lb
  rw [wb_tb, BitVec.getLsbD_ofNat]
theorem lb_shl (k : Nat) (hk : k < 64) (x : Int64) {i : Nat} (hi : i < 64) : lb (x <<< ((nI k).toInt64 &&& 63)) i = (decide (k ≤ i) && lb x (i - k)) := by
  rw [wb_c k hk]
  unfold lb
  rw [Int64.toBitVec_shiftLeft, wb_tb, wb_sm k hk, BitVec.shiftLeft_eq', BitVec.toNat_ofNat, Nat.mod_eq_of_lt (by omega), BitVec.getLsbD_shiftLeft]
  rcases Nat.lt_or_ge i k with h | h
  · simp [h, Nat.not_le.mpr h]
  · simp [hi, h, Nat.not_lt.mpr h]
theorem lb_ushr (k : Nat) (hk : k < 64) (x : Int64) (i : Nat) : lb ((x.toUInt64 >>> ((nI k).toInt64.toUInt64 &&& Int64.toUInt64 63)).toInt64) i = lb x (k + i) := by
  rw [wb_cu k hk]
  have e : (x.toUInt64 >>> UInt64.ofNat k).toInt64.toBitVec = x.toBitVec >>> k := by
    apply BitVec.eq_of_toNat_eq
    show (x.toUInt64 >>> UInt64.ofNat k).toNat = _
    rw [UInt64.toNat_shiftRight, u_tn (by omega), Nat.mod_eq_of_lt hk, BitVec.toNat_ushiftRight]
    rfl
  unfold lb
  rw [e, BitVec.getLsbD_ushiftRight]
theorem lb_bit1 (k : Nat) (hk : k < 64) (x : Int64) : (((x.toUInt64 >>> ((nI k).toInt64.toUInt64 &&& Int64.toUInt64 63)).toInt64) &&& 1) = if lb x k then 1 else 0 := by
  apply lb_ext
  intro i hi
  rw [lb_and, lb_ushr k hk]
  have h1 : lb 1 i = decide (i = 0) := by
    have : ∀ i, i < 64 → lb 1 i = decide (i = 0) := by decide +kernel
    exact this i hi
  rw [h1]
  by_cases c : i = 0
  · subst c
    rw [Nat.add_zero]
    cases lb x k <;> simp [h1, lb_0]
  · rw [decide_eq_false c, Bool.and_false]
    cases lb x k
    · simp [lb_0]
    · rw [if_pos rfl, h1, decide_eq_false c]
/-- the bits 0 to n - 1 -/
def wh (n : Nat) : Int64 := lN (2 ^ n - 1)
theorem lb_wh (n i : Nat) : lb (wh n) i = (decide (i < 64) && decide (i < n)) := by
  unfold wh
  rw [lb_lN, Nat.testBit_two_pow_sub_one]
theorem wh_0 : wh 0 = 0 := by decide
theorem wh_64 {n : Nat} (h : 64 ≤ n) : wh n = -1 := by
  apply lb_ext
  intro i hi
  rw [lb_wh, lb_m1 i hi, decide_eq_true hi, decide_eq_true (by omega)]
  rfl
theorem wh_shl (n : Nat) (hn : n < 64) : ((1 : Int64) <<< ((nI n).toInt64 &&& 63)) - 1 = wh n := by
  have h := wb_shl 1 hn
  rw [show (1 : Int64) = lN 1 from rfl, h, Nat.one_mul]
  unfold wh
  exact lN_sub (Nat.one_le_two_pow)
theorem lb_and_wh (x : Int64) (n i : Nat) : lb (x &&& wh n) i = (lb x i && decide (i < n)) := by
  rw [lb_and, lb_wh]
  rcases Nat.lt_or_ge i 64 with h | h
  · rw [decide_eq_true h, Bool.true_and]
  · rw [lb_big (x := x) h]; rfl
/-- a long is zero when no bit is set -/
theorem lb_zero_iff (x : Int64) : x = 0 ↔ ∀ i, i < 64 → lb x i = false := ⟨fun h i _ => by rw [h]; exact lb_0 i, fun h => lb_ext fun i hi => by rw [h i hi, lb_0]⟩
theorem lb_nz {x : Int64} (h : x ≠ 0) : ∃ i, i < 64 ∧ lb x i = true := by
  refine Classical.byContradiction fun q => h ((lb_zero_iff x).mpr fun i hi => ?_)
  cases hb : lb x i
  · rfl
  · exact absurd ⟨i, hi, hb⟩ q
/-! how many bits -/
def pc (x : Int64) : Nat := fb_ct (lb x) 64
theorem pc_le (x : Int64) : pc x ≤ 64 := fb_ct_le _ _
/-- a number's bits in a byte -/
def pb (r : Nat) : Nat := fb_ct (fun i => r.testBit i) 8
/-- the bytes' numbers of bits, as bytes -/
def ps : Nat → Nat → Nat
  | 0, _ => 0
  | n + 1, a => pb (a % 256) + 256 * ps n (a / 256)
/-- a byte n times -/
def rp (c : Nat) : Nat → Nat
  | 0 => 0
  | n + 1 => c + 256 * rp c n
theorem rp_lt {c : Nat} (hc : c < 256) : ∀ n, rp c n < 256 ^ n
  | 0 => by simp [rp]
  | n + 1 => by
    have ih := rp_lt hc n
    rw [rp, Nat.pow_succ]
    omega
theorem and_split (a b c d : Nat) (hb : b < 256) (hd : d < 256) : (b + 256 * a) &&& (d + 256 * c) = (b &&& d) + 256 * (a &&& c) := by
  apply Nat.eq_of_testBit_eq
  intro i
  have e : ∀ (u v : Nat), u < 256 → (u + 256 * v).testBit i = if i < 8 then u.testBit i else v.testBit (i - 8) := by
    intro u v hu
    rw [Nat.add_comm, show 256 * v = 2 ^ 8 * v from rfl, Nat.testBit_two_pow_mul_add _ (by omega : u < 2 ^ 8)]
  rw [Nat.testBit_and, e b a hb, e d c hd, e (b &&& d) (a &&& c) (Nat.lt_of_le_of_lt Nat.and_le_left hb)]
  split
  · rw [Nat.testBit_and]
  · rw [Nat.testBit_and]
theorem pb_1 : ∀ r, r < 256 → ∀ s, s < 2 → (r / 2 + 128 * s) &&& 85 = (r / 2) &&& 85 := by decide +kernel
theorem pb_2 : ∀ r, r < 256 → (r / 2) &&& 85 ≤ r := by decide +kernel
def q1 (r : Nat) : Nat := r - ((r / 2) &&& 85)
theorem pb_3 : ∀ r, r < 256 → ∀ s, s < 4 → (q1 r / 4 + 64 * s) &&& 51 = (q1 r / 4) &&& 51 := by decide +kernel
def q2 (r : Nat) : Nat := (q1 r &&& 51) + ((q1 r / 4) &&& 51)
theorem pb_4 : ∀ r, r < 256 → q2 r < 256 ∧ q1 r < 256 ∧ q2 r / 16 + q2 r % 16 < 16 := by decide +kernel
theorem pb_5 : ∀ r, r < 256 → ∀ s, s < 16 → (q2 r + q2 r / 16 + 16 * s) % 256 &&& 15 = pb r := by decide +kernel
theorem pb_6 : ∀ r, r < 256 → q2 r % 16 ≤ 4 ∧ pb r ≤ 8 := by decide +kernel
theorem pb_7 : ∀ r, r < 256 → ∀ s, s < 5 → q2 r + q2 r / 16 + 16 * s < 256 ∧ (q2 r + q2 r / 16 + 16 * s) &&& 15 = pb r := by decide +kernel
def A1 (n a : Nat) : Nat := a - ((a / 2) &&& rp 85 n)
def A2 (n b : Nat) : Nat := (b &&& rp 51 n) + ((b / 4) &&& rp 51 n)
def A3 (n c : Nat) : Nat := (c + c / 16) &&& rp 15 n
theorem A1_s {n r q : Nat} (hr : r < 256) : A1 (n + 1) (r + 256 * q) = q1 r + 256 * A1 n q := by
  unfold A1 q1
  have e : (r + 256 * q) / 2 = (r / 2 + 128 * (q % 2)) + 256 * (q / 2) := by omega
  rw [e, rp, and_split _ _ _ _ (by omega) (by decide), pb_1 r hr _ (by omega)]
  have h1 := pb_2 r hr
  have h2 : (q / 2) &&& rp 85 n ≤ q / 2 := Nat.and_le_left
  omega
theorem A2_s {n r q : Nat} (hr : r < 256) : A2 (n + 1) (q1 r + 256 * q) = q2 r + 256 * A2 n q := by
  unfold A2 q2
  have h0 := (pb_4 r hr).2.1
  have e : (q1 r + 256 * q) / 4 = (q1 r / 4 + 64 * (q % 4)) + 256 * (q / 4) := by omega
  rw [e, rp, and_split _ _ _ _ h0 (by decide), and_split _ _ _ _ (by omega) (by decide), pb_3 r hr _ (by omega)]
  omega
theorem A3_s {n r q : Nat} (hr : r < 256) (hq : q % 16 ≤ 4) : A3 (n + 1) (q2 r + 256 * q) = pb r + 256 * A3 n q := by
  unfold A3
  have h0 := pb_7 r hr (q % 16) (by omega)
  have e : q2 r + 256 * q + (q2 r + 256 * q) / 16 = (q2 r + q2 r / 16 + 16 * (q % 16)) + 256 * (q + q / 16) := by omega
  rw [e, rp, and_split _ _ _ _ h0.1 (by decide), h0.2]
theorem A_all : ∀ (n a : Nat), a < 256 ^ n → A3 n (A2 n (A1 n a)) = ps n a ∧ A2 n (A1 n a) % 16 ≤ 4
  | 0, a, h => by
    have : a = 0 := by simpa using h
    subst this
    decide
  | n + 1, a, h => by
    have hr : a % 256 < 256 := Nat.mod_lt _ (by decide)
    have hq : a / 256 < 256 ^ n := by
      rw [Nat.pow_succ] at h
      omega
    obtain ⟨ih1, ih2⟩ := A_all n (a / 256) hq
    have e : a = a % 256 + 256 * (a / 256) := by omega
    have e1 : A1 (n + 1) a = q1 (a % 256) + 256 * A1 n (a / 256) := by
      conv => lhs; rw [e]
      exact A1_s hr
    rw [e1, A2_s hr, A3_s hr ih2, ih1]
    refine ⟨rfl, ?_⟩
    have := (pb_6 _ hr).1
    omega
/-- the numbers of bits of n bytes, all in all -/
def pt : Nat → Nat → Nat
  | 0, _ => 0
  | n + 1, a => pb (a % 256) + pt n (a / 256)
theorem pt_ct : ∀ (n a : Nat), fb_ct (fun i => a.testBit i) (8 * n) = pt n a
  | 0, a => rfl
  | n + 1, a => by
    rw [show 8 * (n + 1) = 8 + 8 * n by omega, fb_ct_split, pt, ← pt_ct n (a / 256)]
    congr 1
    · refine fb_ct_cong fun k hk => ?_
      rw [show (256 : Nat) = 2 ^ 8 from rfl, Nat.testBit_mod_two_pow, decide_eq_true hk]
      rfl
    · refine fb_ct_cong fun k _ => ?_
      rw [show (256 : Nat) = 2 ^ 8 from rfl, Nat.testBit_div_two_pow, Nat.add_comm]
theorem pc_lN {a : Nat} : pc (lN a) = pt 8 a := by
  rw [← pt_ct 8 a]
  exact fb_ct_cong fun k hk => by rw [lb_lN, decide_eq_true hk]; rfl
theorem ps_fold {a : Nat} (ha : a < 2 ^ 64) : ∃ x, ps 8 a = x ∧ x < 2 ^ 60 ∧ ((x + x / 256 + (x + x / 256) / 65536 + (x + x / 256 + (x + x / 256) / 65536) / 4294967296) % 128 = pt 8 a) := by
  refine ⟨_, rfl, ?_, ?_⟩
  · simp only [ps]
    have := fun r => (pb_6 (r % 256) (Nat.mod_lt _ (by decide))).2
    have h0 := this a
    have h1 := this (a / 256)
    have h2 := this (a / 256 / 256)
    have h3 := this (a / 256 / 256 / 256)
    have h4 := this (a / 256 / 256 / 256 / 256)
    have h5 := this (a / 256 / 256 / 256 / 256 / 256)
    have h6 := this (a / 256 / 256 / 256 / 256 / 256 / 256)
    have h7 := this (a / 256 / 256 / 256 / 256 / 256 / 256 / 256)
    omega
  · simp only [ps, pt]
    have := fun r => (pb_6 (r % 256) (Nat.mod_lt _ (by decide))).2
    have h0 := this a
    have h1 := this (a / 256)
    have h2 := this (a / 256 / 256)
    have h3 := this (a / 256 / 256 / 256)
    have h4 := this (a / 256 / 256 / 256 / 256)
    have h5 := this (a / 256 / 256 / 256 / 256 / 256)
    have h6 := this (a / 256 / 256 / 256 / 256 / 256 / 256)
    have h7 := this (a / 256 / 256 / 256 / 256 / 256 / 256 / 256)
    generalize pb (a % 256) = p0 at *
    generalize pb (a / 256 % 256) = p1 at *
    generalize pb (a / 256 / 256 % 256) = p2 at *
    generalize pb (a / 256 / 256 / 256 % 256) = p3 at *
    generalize pb (a / 256 / 256 / 256 / 256 % 256) = p4 at *
    generalize pb (a / 256 / 256 / 256 / 256 / 256 % 256) = p5 at *
    generalize pb (a / 256 / 256 / 256 / 256 / 256 / 256 % 256) = p6 at *
    generalize pb (a / 256 / 256 / 256 / 256 / 256 / 256 / 256 % 256) = p7 at *
    clear this ha
    have e1 : (p0 + 256 * (p1 + 256 * (p2 + 256 * (p3 + 256 * (p4 + 256 * (p5 + 256 * (p6 + 256 * (p7 + 256 * 0)))))))) / 256 = p1 + 256 * (p2 + 256 * (p3 + 256 * (p4 + 256 * (p5 + 256 * (p6 + 256 * p7))))) := by omega
    rw [e1]
    have e2 : (p0 + 256 * (p1 + 256 * (p2 + 256 * (p3 + 256 * (p4 + 256 * (p5 + 256 * (p6 + 256 * (p7 + 256 * 0))))))) + (p1 + 256 * (p2 + 256 * (p3 + 256 * (p4 + 256 * (p5 + 256 * (p6 + 256 * p7))))))) = (p0 + p1) + 256 * (p1 + p2) + 65536 * ((p2 + p3) + 256 * ((p3 + p4) + 256 * ((p4 + p5) + 256 * ((p5 + p6) + 256 * ((p6 + p7) + 256 * p7))))) := by omega
    rw [e2]
    generalize hX : (p2 + p3) + 256 * ((p3 + p4) + 256 * ((p4 + p5) + 256 * ((p5 + p6) + 256 * ((p6 + p7) + 256 * p7)))) = X
    have e3 : (p0 + p1 + 256 * (p1 + p2) + 65536 * X) / 65536 = X := by omega
    rw [e3]
    have e4 : p0 + p1 + 256 * (p1 + p2) + 65536 * X + X = (p0 + p1 + p2 + p3) + 256 * (p1 + p2 + p3 + p4) + 65536 * ((p2 + p3 + p4 + p5) + 256 * (p3 + p4 + p5 + p6)) + 4294967296 * ((p4 + p5 + p6 + p7) + 256 * ((p5 + p6 + p7) + 256 * ((p6 + p7) + 256 * p7))) := by omega
    rw [e4]
    clear e1 e2 e3 e4 hX X
    generalize hB : p1 + p2 + p3 + p4 = B
    generalize hC : p2 + p3 + p4 + p5 + 256 * (p3 + p4 + p5 + p6) = C
    generalize hZ : p5 + p6 + p7 + 256 * (p6 + p7 + 256 * p7) = Z
    have hL : p0 + p1 + p2 + p3 + 256 * B + 65536 * C < 4294967296 := by omega
    have e5 : (p0 + p1 + p2 + p3 + 256 * B + 65536 * C + 4294967296 * (p4 + p5 + p6 + p7 + 256 * Z)) / 4294967296 = p4 + p5 + p6 + p7 + 256 * Z := by omega
    rw [e5]
    clear e5 hL hB hC hZ
    omega
/-- Long.bitCount -/
theorem bitCount_s (S : xS) (v : Int64) (h : xH) : xM S mJ13_bitCount_95d88 [.long v] h = some (.inl (some (.int (nI (pc v)))), h, 0, 0) := by
  refine w_J13_bitCount_95d88 S v h _ ?_
  obtain ⟨a, ha, rfl⟩ := wb_of v
  have c1 : (6148914691236517205 : Int64) = lN (rp 85 8) := by decide
  have c2 : (3689348814741910323 : Int64) = lN (rp 51 8) := by decide
  have c3 : (1085102592571150095 : Int64) = lN (rp 15 8) := by decide
  have l1 : rp 85 8 < 2 ^ 64 := by decide
  have l2 : rp 51 8 < 2 ^ 64 := by decide
  have l3 : rp 15 8 < 2 ^ 64 := by decide
  simp only [xlet, c1, c2, c3, show (1 : Int32) = nI 1 from rfl, show (2 : Int32) = nI 2 from rfl, show (4 : Int32) = nI 4 from rfl, show (8 : Int32) = nI 8 from rfl, show (16 : Int32) = nI 16 from rfl, show (32 : Int32) = nI 32 from rfl]
  obtain ⟨hA, -⟩ := A_all 8 a (by omega)
  obtain ⟨x, hx, hx60, hxt⟩ := ps_fold ha
  have b1 : (a / 2 ^ 1) &&& rp 85 8 ≤ a := Nat.le_trans Nat.and_le_left (Nat.div_le_self _ _)
  have s1 : lN a - lN ((a / 2 ^ 1) &&& rp 85 8) = lN (A1 8 a) := lN_sub b1
  have k1 : A1 8 a < 2 ^ 64 := by unfold A1; omega
  have s2 : lN (A1 8 a &&& rp 51 8) + lN ((A1 8 a / 2 ^ 2) &&& rp 51 8) = lN (A2 8 (A1 8 a)) := lN_add _ _
  have k2 : A2 8 (A1 8 a) < 2 ^ 63 := by
    unfold A2
    have q1 : A1 8 a &&& rp 51 8 ≤ rp 51 8 := Nat.and_le_right
    have q2 : (A1 8 a / 4) &&& rp 51 8 ≤ rp 51 8 := Nat.and_le_right
    have q3 : rp 51 8 < 2 ^ 62 := by decide
    omega
  rw [wb_shr ha (by decide), wb_and (by omega) l1, s1, wb_shr k1 (by decide), wb_and k1 l2, wb_and (by omega) l2, s2, wb_shr (by omega) (by decide), lN_add, wb_and (by omega) l3]
  have s3 : (A2 8 (A1 8 a) + A2 8 (A1 8 a) / 2 ^ 4) &&& rp 15 8 = x := by rw [← hx, ← hA]; rfl
  rw [s3, wb_shr (by omega) (by decide), lN_add, wb_shr (by omega) (by decide), lN_add, wb_shr (by omega) (by decide), lN_add, lN_i, show (127 : Int32) = nI (2 ^ 7 - 1) from rfl, fa_mask, pc_lN, ← hxt]

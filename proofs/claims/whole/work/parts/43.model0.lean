/-! THE MODEL'S OBJECT AND ITS LEAVES -/
def bz (b : Bool) : Int32 := if b then 1 else 0
theorem bz_t : bz true = 1 := rfl
theorem bz_f : bz false = 0 := rfl
theorem bz_01 (b : Bool) : bz b = 0 ∨ bz b = 1 := by cases b; exact Or.inl rfl; exact Or.inr rfl
theorem bz_eq0 {b : Bool} : bz b = 0 ↔ b = false := by cases b <;> decide
theorem bz_ne0 {b : Bool} : ¬ bz b = 0 ↔ b = true := by cases b <;> decide
theorem bz_inj {a b : Bool} : bz a = bz b ↔ a = b := by cases a <;> cases b <;> decide
theorem nar_bz (b : Bool) : narrow .boolean (.int (bz b)) = .int (bz b) := by cases b <;> decide
theorem xPok_int {ini : Bool} {k c j : Nat} {x : Int32} (hs : (decide (j < xNf c) && (!(xTT c j).2.2.2 || (ini && k == c))) = true) (ht : xTy c j = .int) : xPok ini k c j (.int x) = true := by
  unfold xPok
  rw [hs, ht]
  have h1 : narrow .int (.int x) = .int x := rfl
  have h2 : fits .int (.int x) = true := rfl
  show (true && (decide (narrow .int (.int x) = .int x) && fits .int (.int x))) = true
  rw [h1, h2]
  simp
/-- pixel k of a picture of rows -/
def px (f : Nat → Int64) (k : Nat) : Bool := lb (f (k / 64)) (k % 64)
/-- the fields of the model that never change: field, place -/
def moR : List (Nat × Nat) := [(3, 91), (4, 92), (5, 93), (7, 94), (8, 95), (9, 96), (12, 97), (14, 98), (15, 99), (17, 100), (18, 101), (19, 102), (20, 103), (21, 104), (22, 105), (24, 106), (26, 107), (27, 108), (28, 109), (29, 110), (31, 111), (32, 112), (33, 113), (36, 114), (37, 115), (38, 116), (39, 117), (40, 118), (46, 119), (47, 120), (52, 121), (53, 122), (57, 123), (58, 124), (60, 125), (61, 126), (62, 127), (63, 128), (64, 129), (65, 130), (66, 131), (67, 132), (68, 133), (69, 134), (70, 135), (71, 136), (72, 137), (73, 138), (74, 139), (75, 140), (76, 141), (77, 142), (78, 143), (80, 144), (81, 145)]
def moM : List Nat := [2, 6, 10, 11, 13, 16, 23, 25, 30, 34, 35, 41, 42, 43, 44, 45, 48, 49, 50, 51, 54, 55, 56, 59, 79]
def moX (h : xH) (W H : Nat) : Prop := xG h 90 12 0 = some (.int (nI W)) ∧ xG h 90 12 1 = some (.int (nI H)) ∧ (∀ p ∈ moR, xG h 90 12 p.1 = some (.ref p.2)) ∧ (∀ j ∈ moM, ∃ v, xG h 90 12 j = some v) ∧ 8 ≤ W ∧ W ≤ 64 ∧ 8 ≤ H ∧ H ≤ 64
section MO
variable {S : xS} {h : xH} {W H : Nat}
theorem moX_A (X : moX h W H) (b : Nat) (e : xAr) : moX (xA h b e) W H := by
  obtain ⟨h1, h2, h3, h4, h5⟩ := X
  exact ⟨by rw [xG_A]; exact h1, by rw [xG_A]; exact h2, fun p hp => by rw [xG_A]; exact h3 p hp, fun j hj => by rw [xG_A]; exact h4 j hj, h5⟩
theorem moX_S (X : moX h W H) {a j : Nat} (v : Value) (q : a ≠ 90 ∨ j ∈ moM) : moX (xU h a j v) W H := by
  obtain ⟨h1, h2, h3, h4, h5⟩ := X
  have hn : ∀ j', j' ∉ moM → xG (xU h a j v) 90 12 j' = xG h 90 12 j' := by
    intro j' hj'
    rw [xG_S, if_neg]
    rintro ⟨e1, e2⟩
    rcases q with q | q
    · exact q e1.symm
    · exact hj' (e2 ▸ q)
  refine ⟨by rw [hn 0 (by decide)]; exact h1, by rw [hn 1 (by decide)]; exact h2, fun p hp => ?_, fun j' hj => ?_, h5⟩
  · have : ∀ p ∈ moR, p.1 ∉ moM := by decide
    rw [hn _ (this p hp)]
    exact h3 p hp
  · obtain ⟨v0, hv⟩ := h4 j' hj
    rw [xG_S]
    by_cases c : 90 = a ∧ j' = j
    · rw [if_pos c, hv]; exact ⟨_, rfl⟩
    · rw [if_neg c]; exact ⟨v0, hv⟩
theorem moX_ob (X : moX h W H) : xOb h 90 12 = true := xOb_of X.1
theorem moX_r (X : moX h W H) {j b : Nat} (hp : (j, b) ∈ moR) : xGr h 90 12 j = some b := xGr_of (X.2.2.1 _ hp)
theorem mg_3 (X : moX h W H) : xGr h 90 12 3 = some 91 := moX_r X (j := 3) (b := 91) (by decide)
theorem mg_4 (X : moX h W H) : xGr h 90 12 4 = some 92 := moX_r X (j := 4) (b := 92) (by decide)
theorem mg_5 (X : moX h W H) : xGr h 90 12 5 = some 93 := moX_r X (j := 5) (b := 93) (by decide)
theorem mg_7 (X : moX h W H) : xGr h 90 12 7 = some 94 := moX_r X (j := 7) (b := 94) (by decide)
theorem mg_8 (X : moX h W H) : xGr h 90 12 8 = some 95 := moX_r X (j := 8) (b := 95) (by decide)
theorem mg_9 (X : moX h W H) : xGr h 90 12 9 = some 96 := moX_r X (j := 9) (b := 96) (by decide)
theorem mg_12 (X : moX h W H) : xGr h 90 12 12 = some 97 := moX_r X (j := 12) (b := 97) (by decide)
theorem mg_14 (X : moX h W H) : xGr h 90 12 14 = some 98 := moX_r X (j := 14) (b := 98) (by decide)
theorem mg_15 (X : moX h W H) : xGr h 90 12 15 = some 99 := moX_r X (j := 15) (b := 99) (by decide)
theorem mg_17 (X : moX h W H) : xGr h 90 12 17 = some 100 := moX_r X (j := 17) (b := 100) (by decide)
theorem mg_18 (X : moX h W H) : xGr h 90 12 18 = some 101 := moX_r X (j := 18) (b := 101) (by decide)
theorem mg_19 (X : moX h W H) : xGr h 90 12 19 = some 102 := moX_r X (j := 19) (b := 102) (by decide)
theorem mg_20 (X : moX h W H) : xGr h 90 12 20 = some 103 := moX_r X (j := 20) (b := 103) (by decide)
theorem mg_21 (X : moX h W H) : xGr h 90 12 21 = some 104 := moX_r X (j := 21) (b := 104) (by decide)
theorem mg_22 (X : moX h W H) : xGr h 90 12 22 = some 105 := moX_r X (j := 22) (b := 105) (by decide)
theorem mg_24 (X : moX h W H) : xGr h 90 12 24 = some 106 := moX_r X (j := 24) (b := 106) (by decide)
theorem mg_26 (X : moX h W H) : xGr h 90 12 26 = some 107 := moX_r X (j := 26) (b := 107) (by decide)
theorem mg_27 (X : moX h W H) : xGr h 90 12 27 = some 108 := moX_r X (j := 27) (b := 108) (by decide)
theorem mg_28 (X : moX h W H) : xGr h 90 12 28 = some 109 := moX_r X (j := 28) (b := 109) (by decide)
theorem mg_29 (X : moX h W H) : xGr h 90 12 29 = some 110 := moX_r X (j := 29) (b := 110) (by decide)
theorem mg_31 (X : moX h W H) : xGr h 90 12 31 = some 111 := moX_r X (j := 31) (b := 111) (by decide)
theorem mg_32 (X : moX h W H) : xGr h 90 12 32 = some 112 := moX_r X (j := 32) (b := 112) (by decide)
theorem mg_33 (X : moX h W H) : xGr h 90 12 33 = some 113 := moX_r X (j := 33) (b := 113) (by decide)
theorem mg_36 (X : moX h W H) : xGr h 90 12 36 = some 114 := moX_r X (j := 36) (b := 114) (by decide)
theorem mg_37 (X : moX h W H) : xGr h 90 12 37 = some 115 := moX_r X (j := 37) (b := 115) (by decide)
theorem mg_38 (X : moX h W H) : xGr h 90 12 38 = some 116 := moX_r X (j := 38) (b := 116) (by decide)
theorem mg_39 (X : moX h W H) : xGr h 90 12 39 = some 117 := moX_r X (j := 39) (b := 117) (by decide)
theorem mg_40 (X : moX h W H) : xGr h 90 12 40 = some 118 := moX_r X (j := 40) (b := 118) (by decide)
theorem mg_46 (X : moX h W H) : xGr h 90 12 46 = some 119 := moX_r X (j := 46) (b := 119) (by decide)
theorem mg_47 (X : moX h W H) : xGr h 90 12 47 = some 120 := moX_r X (j := 47) (b := 120) (by decide)
theorem mg_52 (X : moX h W H) : xGr h 90 12 52 = some 121 := moX_r X (j := 52) (b := 121) (by decide)
theorem mg_53 (X : moX h W H) : xGr h 90 12 53 = some 122 := moX_r X (j := 53) (b := 122) (by decide)
theorem mg_57 (X : moX h W H) : xGr h 90 12 57 = some 123 := moX_r X (j := 57) (b := 123) (by decide)
theorem mg_58 (X : moX h W H) : xGr h 90 12 58 = some 124 := moX_r X (j := 58) (b := 124) (by decide)
theorem mg_60 (X : moX h W H) : xGr h 90 12 60 = some 125 := moX_r X (j := 60) (b := 125) (by decide)
theorem mg_61 (X : moX h W H) : xGr h 90 12 61 = some 126 := moX_r X (j := 61) (b := 126) (by decide)
theorem mg_62 (X : moX h W H) : xGr h 90 12 62 = some 127 := moX_r X (j := 62) (b := 127) (by decide)
theorem mg_63 (X : moX h W H) : xGr h 90 12 63 = some 128 := moX_r X (j := 63) (b := 128) (by decide)
theorem mg_64 (X : moX h W H) : xGr h 90 12 64 = some 129 := moX_r X (j := 64) (b := 129) (by decide)
theorem mg_65 (X : moX h W H) : xGr h 90 12 65 = some 130 := moX_r X (j := 65) (b := 130) (by decide)
theorem mg_66 (X : moX h W H) : xGr h 90 12 66 = some 131 := moX_r X (j := 66) (b := 131) (by decide)
theorem mg_67 (X : moX h W H) : xGr h 90 12 67 = some 132 := moX_r X (j := 67) (b := 132) (by decide)
theorem mg_68 (X : moX h W H) : xGr h 90 12 68 = some 133 := moX_r X (j := 68) (b := 133) (by decide)
theorem mg_69 (X : moX h W H) : xGr h 90 12 69 = some 134 := moX_r X (j := 69) (b := 134) (by decide)
theorem mg_70 (X : moX h W H) : xGr h 90 12 70 = some 135 := moX_r X (j := 70) (b := 135) (by decide)
theorem mg_71 (X : moX h W H) : xGr h 90 12 71 = some 136 := moX_r X (j := 71) (b := 136) (by decide)
theorem mg_72 (X : moX h W H) : xGr h 90 12 72 = some 137 := moX_r X (j := 72) (b := 137) (by decide)
theorem mg_73 (X : moX h W H) : xGr h 90 12 73 = some 138 := moX_r X (j := 73) (b := 138) (by decide)
theorem mg_74 (X : moX h W H) : xGr h 90 12 74 = some 139 := moX_r X (j := 74) (b := 139) (by decide)
theorem mg_75 (X : moX h W H) : xGr h 90 12 75 = some 140 := moX_r X (j := 75) (b := 140) (by decide)
theorem mg_76 (X : moX h W H) : xGr h 90 12 76 = some 141 := moX_r X (j := 76) (b := 141) (by decide)
theorem mg_77 (X : moX h W H) : xGr h 90 12 77 = some 142 := moX_r X (j := 77) (b := 142) (by decide)
theorem mg_78 (X : moX h W H) : xGr h 90 12 78 = some 143 := moX_r X (j := 78) (b := 143) (by decide)
theorem mg_80 (X : moX h W H) : xGr h 90 12 80 = some 144 := moX_r X (j := 80) (b := 144) (by decide)
theorem mg_81 (X : moX h W H) : xGr h 90 12 81 = some 145 := moX_r X (j := 81) (b := 145) (by decide)
/-- a field of ints written -/
theorem moX_pi (X : moX h W H) {j : Nat} (hj : j ∈ moM) (hs : (decide (j < xNf 12) && (!(xTT 12 j).2.2.2 || (false && 12 == 12))) = true) (ht : xTy 12 j = .int) (x : Int32) : xP false 12 h 90 12 j (.int x) = some (xU h 90 j (.int x)) := by
  obtain ⟨v0, hv⟩ := X.2.2.2.1 j hj
  exact xP_of hv (xPok_int hs ht)
theorem in_s (h : xH) (a b c : Int64) : xM S mX13_in [.long a, .long b, .long c] h = some (.inl (some (.int (bz (decide (b ≤ a ∧ a ≤ c))))), h, 0, 0) := by
  refine w_X13_in S a b c h _ ?_
  simp only [lg_cmp_lt, lg_cmp_gt]
  by_cases q1 : a < b
  · rw [if_pos q1, decide_eq_false]
    · rfl
    · rintro ⟨q2, -⟩
      rw [Int64.lt_iff_toInt_lt] at q1
      rw [Int64.le_iff_toInt_le] at q2
      omega
  · rw [if_neg q1]
    have q1' : b ≤ a := by
      rw [Int64.lt_iff_toInt_lt] at q1
      rw [Int64.le_iff_toInt_le]
      omega
    by_cases q2 : c < a
    · rw [if_pos q2, decide_eq_false]
      · rfl
      · rintro ⟨-, q3⟩
        rw [Int64.lt_iff_toInt_lt] at q2
        rw [Int64.le_iff_toInt_le] at q3
        omega
    · rw [if_neg q2, decide_eq_true]
      · rfl
      · refine ⟨q1', ?_⟩
        rw [Int64.lt_iff_toInt_lt] at q2
        rw [Int64.le_iff_toInt_le]
        omega
theorem inI_s (h : xH) (a b c : Int32) : xM S mX13_in [.long a.toInt64, .long b.toInt64, .long c.toInt64] h = some (.inl (some (.int (bz (decide (b ≤ a ∧ a ≤ c))))), h, 0, 0) := by
  rw [in_s]
  simp only [fa_wide_le]
theorem isPage_s (h : xH) (m : Nat) (p : Int32) : xM S mX13_isPage [.ref m, .int p] h = some (.inl (some (.int (bz (decide (0 ≤ p ∧ p ≤ 3))))), h, 0, 0) := by
  refine w_X13_isPage S m p h _ ?_
  have := inI_s (S := S) h p 0 3
  rw [show (0 : Int64) = (0 : Int32).toInt64 from rfl, show (3 : Int64) = (3 : Int32).toInt64 from rfl, this, xqI_s, if_pos (nar_bz _)]
/-- a page's number -/
theorem isPage_iff (p : Int32) : (0 ≤ p ∧ p ≤ 3) ↔ ∃ k, k < 4 ∧ p = nI k := by
  constructor
  · rintro ⟨h1, h2⟩
    have h3 : ¬ p < 0 := by
      rw [Int32.lt_iff_toInt_lt]
      rw [Int32.le_iff_toInt_le] at h1
      omega
    obtain ⟨j, hj, rfl⟩ := nI_of h3
    refine ⟨j, ?_, rfl⟩
    have := (nI_leI hj (by decide : 3 < 2 ^ 31)).mp h2
    omega
  · rintro ⟨k, hk, rfl⟩
    exact ⟨nI_pos' (by omega), nI_le (b := 3) (by omega) (by decide)⟩
theorem fails_s (X : moX h W H) (x : Int32) : xM S mX13_fails [.ref 90, .int x] h = some (.inl (some (.int 0)), xU h 90 2 (.int x), 0, 0) := by
  refine w_X13_fails S 90 x h _ ?_
  try rw [moX_pi X (by decide) (by decide) rfl]
  try rw [Option.bind_some]
theorem nI_m1 {n : Nat} (h : 0 < n) : nI n - 1 = nI (n - 1) := pk_sub (b := 1) h
theorem isOn_s (X : moX h W H) (x y : Int64) : xM S mX13_isOn [.ref 90, .long x, .long y] h = some (.inl (some (.int (bz (decide (0 ≤ x.toInt ∧ x.toInt < W ∧ 0 ≤ y.toInt ∧ y.toInt < H))))), h, 0, 0) := by
  obtain ⟨h1, h2, h3, h4, h5, h6, h7, h8⟩ := X
  have e : ∀ (z : Int64) (n : Nat), 8 ≤ n → n ≤ 64 → ((0 : Int64) ≤ z ∧ z ≤ (nI n - 1).toInt64 ↔ 0 ≤ z.toInt ∧ z.toInt < n) := by
    intro z n hn hn2
    rw [nI_m1 (by omega), nI_l (by omega), Int64.le_iff_toInt_le, Int64.le_iff_toInt_le, lN_toInt (by omega)]
    show 0 ≤ z.toInt ∧ _ ↔ _
    omega
  refine w_X13_isOn S 90 x y h _ ?_
  try rw [xGi_of h1]
  try rw [Option.bind_some]
  try rw [in_s]
  try rw [xqI_s]
  by_cases c : 0 ≤ x.toInt ∧ x.toInt < W
  · try rw [decide_eq_true ((e x W h5 h6).mpr c)]
    try rw [bz_t]
    try rw [if_neg (by decide)]
    try rw [xGi_of h2]
    try rw [Option.bind_some]
    try rw [in_s]
    try rw [xqI_s]
    by_cases d : 0 ≤ y.toInt ∧ y.toInt < H
    · rw [decide_eq_true ((e y H h7 h8).mpr d), bz_t, if_neg (by decide), decide_eq_true ⟨c.1, c.2, d⟩]
      rfl
    · rw [decide_eq_false (fun q => d ((e y H h7 h8).mp q)), bz_f, if_pos rfl, decide_eq_false (fun q => d q.2.2)]
      rfl
  · rw [decide_eq_false (fun q => c ((e x W h5 h6).mp q)), bz_f, if_pos rfl, decide_eq_false (fun q => c ⟨q.1, q.2.1⟩)]
    rfl
/-- an array of ints whose places below n are those of g -/
def aI (h : xH) (b k n : Nat) (g : Nat → Int32) : Prop := ∃ f, xB h b = some (k, n, .inl f) ∧ ∀ i, i < n → f i = g i
theorem aI_S {b k n : Nat} {g : Nat → Int32} (A : aI h b k n g) (a j : Nat) (v : Value) : aI (xU h a j v) b k n g := by
  obtain ⟨f, h1, h2⟩ := A
  exact ⟨f, by rw [xB_S]; exact h1, h2⟩
theorem aI_A {b k n : Nat} {g : Nat → Int32} (A : aI h b k n g) {b' : Nat} (e : xAr) (q : b ≠ b') : aI (xA h b' e) b k n g := by
  obtain ⟨f, h1, h2⟩ := A
  exact ⟨f, by rw [xB_A, if_neg q]; exact h1, h2⟩
theorem aI_rd {b k n : Nat} {g : Nat → Int32} (A : aI h b k n g) (hn : n < 2 ^ 31) {i : Nat} (hi : i < n) : xRi h k b (nI i) = some (g i) := by
  obtain ⟨f, h1, h2⟩ := A
  rw [xRi_of h1 hn hi, h2 i hi]
theorem aI_wz {b n : Nat} {g : Nat → Int32} (A : aI h b 2 n g) (hn : n < 2 ^ 31) {i : Nat} (hi : i < n) {v : Int32} (hv : v = 0 ∨ v = 1) : ∃ e, xWz h b (nI i) v = some (xA h b e) ∧ aI (xA h b e) b 2 n (upd g i v) := by
  obtain ⟨f, h1, h2⟩ := A
  refine ⟨_, xWz_of h1 hn hi hv, upd f i v, by rw [xB_A, if_pos rfl, h1]; rfl, fun j hj => ?_⟩
  unfold upd
  split
  · rfl
  · exact h2 j hj
theorem aI_wi {b n : Nat} {g : Nat → Int32} (A : aI h b 0 n g) (hn : n < 2 ^ 31) {i : Nat} (hi : i < n) (v : Int32) : ∃ e, xWi h b (nI i) v = some (xA h b e) ∧ aI (xA h b e) b 0 n (upd g i v) := by
  obtain ⟨f, h1, h2⟩ := A
  refine ⟨_, xWi_of h1 hn hi v, upd f i v, by rw [xB_A, if_pos rfl, h1]; rfl, fun j hj => ?_⟩
  unfold upd
  split
  · rfl
  · exact h2 j hj
theorem aI_cong {b k n : Nat} {g g' : Nat → Int32} (A : aI h b k n g) (q : ∀ i, i < n → g i = g' i) : aI h b k n g' := by
  obtain ⟨f, h1, h2⟩ := A
  exact ⟨f, h1, fun i hi => (h2 i hi).trans (q i hi)⟩
end MO

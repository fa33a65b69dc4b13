/-! DIFFERENCES: the model finds them, block by block -/
def blM (m : mM) (W H B : Nat) (D : Nat → Nat → Nat) : Prop := m.1 90 54 = nI B ∧ m.1 90 55 = nI (coB W B) ∧ m.1 90 56 = nI (coB H B) ∧ ∀ j i, j < 16 → i < 16 → m.1 123 (16 * j + i) = nI (D i j)
def blk (B k : Nat) : Nat := 16 * (k / 64 / B) + k % 64 / B
theorem blk_lt {B k : Nat} (hB : 4 ≤ B) (hk : k < 4096) : blk B k < 256 ∧ k / 64 / B < 16 ∧ k % 64 / B < 16 := by
  have h1 : k / 64 / B < 16 := (Nat.div_lt_iff_lt_mul (by omega)).mpr (by omega)
  have h2 : k % 64 / B < 16 := (Nat.div_lt_iff_lt_mul (by omega)).mpr (by omega)
  unfold blk
  omega
section FD
variable {S : xS} {W H n : Nat} {m : mM} {O A Ms Ad : Nat → Int64} {c B : Nat} {K : Nat → Nat → Int32}
theorem blockOf_s (hB : 4 ≤ B) (hB2 : B ≤ 16) (e54 : m.1 90 54 = nI B) {k : Nat} (hk : k < 4096) : xM S mX13_blockOf [.ref 90, .int (nI k)] (E W H n m) = some (.inl (some (.int (nI (blk B k)))), E W H n m, 0, 0) := by
  have nat64 : nI k - nI k / (64 : Int32) * (64 : Int32) = nI (k % 64) := pk_rem (by omega) (by decide) (by decide)
  have div64 : nI k / (64 : Int32) = nI (k / 64) := n_div (by omega) (by decide) (by decide)
  refine w_X13_blockOf S _ _ _ _ ?_
  refine c_gi (by omega) (by rfl) (by rfl) (by rfl) ?_
  rw [e54]
  refine c_iff (fun q => by have := (nI_eq (b := 0) (by omega) (by omega)).mp q; omega) ?_
  refine c_gi (by omega) (by rfl) (by rfl) (by rfl) ?_
  rw [e54]
  refine c_iff (fun q => by have := (nI_eq (b := 0) (by omega) (by omega)).mp q; omega) ?_
  rw [nat64, div64, n_div (by omega) (by omega) (by omega), n_div (by omega) (by omega) (by omega), show (16 : Int32) = nI 16 from rfl, pk_mul, nI_add]
  rfl
def stF (s : mM) (k b v : Nat) (p q : Bool) : mM := if (p || q) = true then sI (sI (sI s 121 k (bz p)) 122 k (bz q)) 123 b (nI (v + 1)) else sI (sI s 121 k (bz p)) 122 k (bz q)
theorem fd183 (hB : 4 ≤ B) (hB2 : B ≤ 16) (e54 : m.1 90 54 = nI B) {k v : Nat} (hk : k < 4096) (hv : v < 5000) (e123 : m.1 123 (blk B k) = nI v) (p q : Bool) {o : xO} (ho : xden S mX13_findsDifferences 74 [(0, .ref 90), (1, .int (nI (k + 1)))] [] (E W H n (stF m k (blk B k) v p q)) = some o) : xden S mX13_findsDifferences 183 [(0, .ref 90), (1, .int (nI k))] [.int (bz q), .int (nI k), .ref 122] (E W H n (sI m 121 k (bz p))) = some o := by
  have z121 : 4096 = eL H 121 := rfl
  have z122 : 4096 = eL H 122 := rfl
  have z123 : 256 = eL H 123 := rfl
  have bl := (blk_lt hB hk).1
  have bo := blockOf_s (S := S) (W := W) (H := H) (n := n) (m := sI (sI m 121 k (bz p)) 122 k (bz q)) hB hB2 (by rw [sI_ne (by omega), sI_ne (by omega)]; exact e54) hk
  have to202 : (p || q) = true → xden S mX13_findsDifferences 202 [(0, .ref 90), (1, .int (nI k))] [] (E W H n (sI (sI m 121 k (bz p)) 122 k (bz q))) = some o := fun pq => by
    unfold stF at ho
    rw [if_pos pq] at ho
    refine w_X13_findsDifferences_202 S _ _ _ _ ?_
    refine c_gr (by omega) (by rfl) (by rfl) (by rfl) ?_
    refine c_ob (by omega) (by rfl) ?_
    refine c_qI bo ?_
    refine c_ri (i := blk B k) (by omega) (by rfl) (by rfl) (by rfl) (by first | omega | ((conv => rhs; whnf); first | omega | (show _ < OfNat.ofNat (α := Nat) _; omega))) (by first | omega | ((conv => lhs; whnf); first | omega | (show OfNat.ofNat (α := Nat) _ < _; omega))) (by decide) ?_
    rw [sI_ne (by omega), sI_ne (by omega), e123, show (1 : Int32) = nI 1 from rfl, nI_add]
    refine c_wi (i := blk B k) (by omega) (by rfl) (by rfl) (by rfl) (by first | omega | ((conv => rhs; whnf); first | omega | (show _ < OfNat.ofNat (α := Nat) _; omega))) (by first | omega | ((conv => lhs; whnf); first | omega | (show OfNat.ofNat (α := Nat) _ < _; omega))) ?_
    refine c_let ?_
    rw [nI_add]
    exact ho
  refine w_X13_findsDifferences_183 S _ _ _ _ _ _ _ ?_
  refine c_wz (i := k) (by omega) (by rfl) (by rfl) (by rfl) (by first | omega | ((conv => rhs; whnf); first | omega | (show _ < OfNat.ofNat (α := Nat) _; omega))) (by first | omega | ((conv => lhs; whnf); first | omega | (show OfNat.ofNat (α := Nat) _ < _; omega))) (bz_01 q) ?_
  refine c_gr (by omega) (by rfl) (by rfl) (by rfl) ?_
  refine c_ri (i := k) (by omega) (by rfl) (by rfl) (by rfl) (by first | omega | ((conv => rhs; whnf); first | omega | (show _ < OfNat.ofNat (α := Nat) _; omega))) (by first | omega | ((conv => lhs; whnf); first | omega | (show OfNat.ofNat (α := Nat) _ < _; omega))) (by decide) ?_
  rw [sI_ne (by omega), sI_eq ⟨rfl, rfl⟩]
  cases p
  · refine c_iff (fun w => w (by decide)) ?_
    refine c_gr (by omega) (by rfl) (by rfl) (by rfl) ?_
    refine c_ri (i := k) (by omega) (by rfl) (by rfl) (by rfl) (by first | omega | ((conv => rhs; whnf); first | omega | (show _ < OfNat.ofNat (α := Nat) _; omega))) (by first | omega | ((conv => lhs; whnf); first | omega | (show OfNat.ofNat (α := Nat) _ < _; omega))) (by decide) ?_
    rw [sI_eq ⟨rfl, rfl⟩]
    cases q
    · unfold stF at ho
      rw [if_neg (by decide)] at ho
      refine c_ift (by decide) ?_
      refine c_let ?_
      rw [show (1 : Int32) = nI 1 from rfl, nI_add]
      exact ho
    · refine c_iff (by decide) ?_
      exact to202 rfl
  · refine c_ift (by decide) ?_
    exact to202 (Bool.true_or q)
theorem fd147 (hW8 : 8 ≤ W) (hW : W ≤ 64) (hH8 : 8 ≤ H) (hH : H ≤ 64) (hB : 4 ≤ B) (hB2 : B ≤ 16) (e54 : m.1 90 54 = nI B) (PO : piM m 114 O) (PA : piM m 117 A) {far : Nat} (hf : far ≤ 2) (e98 : m.1 98 2 = nI far) {k v : Nat} (hk : k < 4096) (hv : v < 5000) (e123 : m.1 123 (blk B k) = nI v) (p may : Bool) {o : xO} (ho : xden S mX13_findsDifferences 74 [(0, .ref 90), (1, .int (nI (k + 1)))] [] (E W H n (stF m k (blk B k) v p ((may && px A k) && !nrB W H O far (k / 64) (k % 64)))) = some o) : xden S mX13_findsDifferences 147 [(0, .ref 90), (1, .int (nI k)), (2, .int (bz may))] [.int (bz p), .int (nI k), .ref 121] (E W H n m) = some o := by
  have z121 : 4096 = eL H 121 := rfl
  have z117 : 4096 = eL H 117 := rfl
  have PO' : piM (sI m 121 k (bz p)) 114 O := fun j hj => by rw [sI_ne (by omega)]; exact PO j hj
  have nr := isNear_s (S := S) (n := n) (m := sI m 121 k (bz p)) hW8 hW hH8 hH (Or.inl rfl) PO' hf (by rw [sI_ne (by omega)]; exact e98) hk
  refine w_X13_findsDifferences_147 S _ _ _ _ _ _ _ _ ?_
  refine c_wz (i := k) (by omega) (by rfl) (by rfl) (by rfl) (by first | omega | ((conv => rhs; whnf); first | omega | (show _ < OfNat.ofNat (α := Nat) _; omega))) (by first | omega | ((conv => lhs; whnf); first | omega | (show OfNat.ofNat (α := Nat) _ < _; omega))) (bz_01 p) ?_
  refine c_gr (by omega) (by rfl) (by rfl) (by rfl) ?_
  cases may
  · rw [Bool.false_and, Bool.false_and] at ho
    refine c_ift (by decide) ?_
    exact fd183 hB hB2 e54 hk hv e123 p false ho
  · rw [Bool.true_and] at ho
    refine c_iff (by decide) ?_
    refine c_gr (by omega) (by rfl) (by rfl) (by rfl) ?_
    refine c_ri (i := k) (by omega) (by rfl) (by rfl) (by rfl) (by first | omega | ((conv => rhs; whnf); first | omega | (show _ < OfNat.ofNat (α := Nat) _; omega))) (by first | omega | ((conv => lhs; whnf); first | omega | (show OfNat.ofNat (α := Nat) _ < _; omega))) (by decide) ?_
    rw [sI_ne (by omega), PA k hk]
    cases a : px A k
    · rw [a, Bool.false_and] at ho
      refine c_ift (by decide) ?_
      exact fd183 hB hB2 e54 hk hv e123 p false ho
    · rw [a, Bool.true_and] at ho
      refine c_iff (by decide) ?_
      refine c_gr (by omega) (by rfl) (by rfl) (by rfl) ?_
      refine c_ob (by omega) (by rfl) ?_
      refine c_qI nr ?_
      cases d : nrB W H O far (k / 64) (k % 64)
      · rw [d] at ho
        refine c_iff (fun w => w (by decide)) ?_
        exact fd183 hB hB2 e54 hk hv e123 p true ho
      · rw [d] at ho
        refine c_ift (by decide) ?_
        exact fd183 hB hB2 e54 hk hv e123 p false ho
theorem fd74 (hW8 : 8 ≤ W) (hW : W ≤ 64) (hH8 : 8 ≤ H) (hH : H ≤ 64) (hB : 4 ≤ B) (hB2 : B ≤ 16) (e54 : m.1 90 54 = nI B) (PO : piM m 114 O) (PA : piM m 117 A) {far : Nat} (hf : far ≤ 2) (e98 : m.1 98 2 = nI far) (C : mkM m c K) (hc : c ≤ 6) {k v : Nat} (hk : k < 4096) (hv : v < 5000) (e123 : m.1 123 (blk B k) = nI v) {may p q : Bool} (em : may = (decide (k % 64 < W ∧ k / 64 < H) && !mkdB c K k)) (ep : p = ((may && px O k) && !nrB W H A far (k / 64) (k % 64))) (eq : q = ((may && px A k) && !nrB W H O far (k / 64) (k % 64))) {o : xO} (ho : xden S mX13_findsDifferences 74 [(0, .ref 90), (1, .int (nI (k + 1)))] [] (E W H n (stF m k (blk B k) v p q)) = some o) : xden S mX13_findsDifferences 74 [(0, .ref 90), (1, .int (nI k))] [] (E W H n m) = some o := by
  have z114 : 4096 = eL H 114 := rfl
  have nat64 : nI k - nI k / (64 : Int32) * (64 : Int32) = nI (k % 64) := pk_rem (by omega) (by decide) (by decide)
  have div64 : nI k / (64 : Int32) = nI (k / 64) := n_div (by omega) (by decide) (by decide)
  have on := isOn_s (S := S) (n := n) (m := m) hW8 hW hH8 hH (nI (k % 64)).toInt64 (nI (k / 64)).toInt64
  rw [Int32.toInt_toInt64, Int32.toInt_toInt64, nI_toInt (by omega), nI_toInt (by omega), onP_k] at on
  have mk := isMasked_s (S := S) (W := W) (H := H) (n := n) C hc hk
  have nr := isNear_s (S := S) (n := n) (m := m) hW8 hW hH8 hH (Or.inr rfl) PA hf e98 hk
  rw [eq] at ho
  have no : may = false → p = false → xden S mX13_findsDifferences 147 [(0, .ref 90), (1, .int (nI k)), (2, .int (bz false))] [.int (bz false), .int (nI k), .ref 121] (E W H n m) = some o := fun h1 h2 => by
    rw [h1, h2] at ho
    exact fd147 hW8 hW hH8 hH hB hB2 e54 PO PA hf e98 hk hv e123 false false ho
  have yes : may = true → ∀ b, p = b → xden S mX13_findsDifferences 147 [(0, .ref 90), (1, .int (nI k)), (2, .int (bz true))] [.int (bz b), .int (nI k), .ref 121] (E W H n m) = some o := fun h1 b h2 => by
    rw [h1, h2] at ho
    exact fd147 hW8 hW hH8 hH hB hB2 e54 PO PA hf e98 hk hv e123 b true ho
  refine w_X13_findsDifferences_74 S _ _ _ _ ?_
  refine c_iff (fun w => by have := (nI_leI (a := 4096) (by omega) (by omega)).mp w; omega) ?_
  rw [nat64, div64]
  refine c_ob (by omega) (by rfl) ?_
  refine c_qI on ?_
  cases d : decide (k % 64 < W ∧ k / 64 < H)
  · rw [d, Bool.false_and] at em
    rw [em, Bool.false_and, Bool.false_and] at ep
    refine c_ift (by decide) ?_
    refine c_gr (by omega) (by rfl) (by rfl) (by rfl) ?_
    refine c_ift (by decide) ?_
    exact no em ep
  · rw [d, Bool.true_and] at em
    refine c_iff (by decide) ?_
    refine c_ob (by omega) (by rfl) ?_
    refine c_qI mk ?_
    cases e : mkdB c K k
    · rw [e] at em
      rw [em, Bool.not_false, Bool.true_and] at ep
      refine c_iff (fun w => w (by decide)) ?_
      refine c_gr (by omega) (by rfl) (by rfl) (by rfl) ?_
      refine c_iff (by decide) ?_
      refine c_gr (by omega) (by rfl) (by rfl) (by rfl) ?_
      refine c_ri (i := k) (by omega) (by rfl) (by rfl) (by rfl) (by first | omega | ((conv => rhs; whnf); first | omega | (show _ < OfNat.ofNat (α := Nat) _; omega))) (by first | omega | ((conv => lhs; whnf); first | omega | (show OfNat.ofNat (α := Nat) _ < _; omega))) (by decide) ?_
      rw [PO k hk]
      cases a : px O k
      · rw [a, Bool.false_and] at ep
        refine c_ift (by decide) ?_
        exact yes em false ep
      · rw [a, Bool.true_and] at ep
        refine c_iff (by decide) ?_
        refine c_gr (by omega) (by rfl) (by rfl) (by rfl) ?_
        refine c_ob (by omega) (by rfl) ?_
        refine c_qI nr ?_
        cases g : nrB W H A far (k / 64) (k % 64)
        · rw [g] at ep
          refine c_iff (fun w => w (by decide)) ?_
          exact yes em true ep
        · rw [g] at ep
          refine c_ift (by decide) ?_
          exact yes em false ep
    · rw [e] at em
      rw [em, Bool.not_true, Bool.false_and, Bool.false_and] at ep
      refine c_ift (by decide) ?_
      refine c_gr (by omega) (by rfl) (by rfl) (by rfl) ?_
      refine c_ift (by decide) ?_
      exact no em ep
def fdP (a j : Nat) : Bool := a == 121 || (a == 122 || (a == 123 || (a == 90 && (j == 54 || (j == 55 || j == 56)))))
def fdQ (a _j : Nat) : Bool := a == 121 || (a == 122 || a == 123)
theorem finds_s (hW8 : 8 ≤ W) (hW : W ≤ 64) (hH8 : 8 ≤ H) (hH : H ≤ 64) (hB : 4 ≤ B) (hB2 : B ≤ 16) (e0 : m.1 98 0 = nI B) (PO : piM m 114 O) (oO : okP W H O) (PA : piM m 117 A) (oA : okP W H A) {far : Nat} (hf : far ≤ 2) (e98 : m.1 98 2 = nI far) (C : mkM m c K) (hc : c ≤ 6) (hM : gB W H (msF W H O A far c K) Ms) (hA : gB W H (msF W H A O far c K) Ad) : ∃ m', xM S mX13_findsDifferences [.ref 90] (E W H n m) = some (.inl none, E W H n m', 0, 0) ∧ piM m' 121 Ms ∧ piM m' 122 Ad ∧ blM m' W H B (blN Ms Ad B) ∧ fr fdP m m' := by
  have z98 : 10 = eL H 98 := rfl
  have z123 : 256 = eL H 123 := rfl
  obtain ⟨w1, w2⟩ := coB_le hW8 hW hB hB2
  obtain ⟨u1, u2⟩ := coB_le hH8 hH hB hB2
  generalize h1 : sI (sI (sI m 90 54 (nI B)) 90 55 (nI (coB W B))) 90 56 (nI (coB H B)) = m1
  generalize h2 : aI m1 123 (fa_fill (fun _ => nI 0) (m1.1 123) 256) = m2
  have F1 : fr fdP m m1 := by rw [← h1]; exact fr_sI (fr_sI (fr_sI fr_rf (by rfl)) (by rfl)) (by rfl)
  have F2 : fr fdP m m2 := by rw [← h2]; exact fr_aI F1 (fun _ => rfl)
  have q54 : m2.1 90 54 = nI B := by rw [← h2, aI_ne (by decide), ← h1, sI_ne (by omega), sI_ne (by omega), sI_eq ⟨rfl, rfl⟩]
  have q55 : m2.1 90 55 = nI (coB W B) := by rw [← h2, aI_ne (by decide), ← h1, sI_ne (by omega), sI_eq ⟨rfl, rfl⟩]
  have q56 : m2.1 90 56 = nI (coB H B) := by rw [← h2, aI_ne (by decide), ← h1, sI_eq ⟨rfl, rfl⟩]
  have PO2 : piM m2 114 O := piM_fr PO F2 (fun _ => rfl)
  have PA2 : piM m2 117 A := piM_fr PA F2 (fun _ => rfl)
  have C2 : mkM m2 c K := ⟨by rw [fr_i F2 90 30 rfl]; exact C.1, fun i hi => by rw [fr_i F2 107 i rfl, fr_i F2 108 i rfl, fr_i F2 109 i rfl, fr_i F2 110 i rfl]; exact C.2 i hi⟩
  have e982 : m2.1 98 2 = nI far := by rw [fr_i F2 98 2 rfl]; exact e98
  have L := x_sg (σ := mM) (τ := mM) (D := fun k s => xden S mX13_findsDifferences 74 [(0, .ref 90), (1, .int (nI k))] [] (E W H n s)) (Inv := fun k s => (∀ j, j < k → s.1 121 j = bz (px Ms j) ∧ s.1 122 j = bz (px Ad j)) ∧ (∀ b, b < 256 → s.1 123 b = nI (fb_ct (fun i => (px Ms i || px Ad i) && decide (blk B i = b)) k)) ∧ fr fdQ m2 s)
    (F := fun s => some (.inl none, E W H n s, 0, 0)) (Post := fun s => piM s 121 Ms ∧ piM s 122 Ad ∧ (∀ j i, j < 16 → i < 16 → s.1 123 (16 * j + i) = nI (blN Ms Ad B i j)) ∧ fr fdQ m2 s) 4096 (fun k hk s hs => ?_) (fun s hs => ?_) m2 ⟨fun j hj => absurd hj (Nat.not_lt_zero j), fun b hb => by rw [← h2, aI_eq rfl, fa_fill_in hb]; rfl, fr_rf⟩
  · obtain ⟨m', ⟨k1, k2, k3, k4⟩, k5⟩ := L
    have k5 := k5 _ rfl
    refine ⟨m', w_X13_findsDifferences S _ _ _ ?_, k1, k2, ⟨by rw [fr_i k4 90 54 rfl]; exact q54, by rw [fr_i k4 90 55 rfl]; exact q55, by rw [fr_i k4 90 56 rfl]; exact q56, k3⟩, fr_tr F2 (fr_mono k4 (fun a j w => ?_))⟩
    · refine c_gr (by omega) (by rfl) (by rfl) (by rfl) ?_
      refine c_ri (i := 0) (by omega) (by rfl) (by rfl) (by rfl) (by first | omega | ((conv => rhs; whnf); first | omega | (show _ < OfNat.ofNat (α := Nat) _; omega))) (by first | omega | ((conv => lhs; whnf); first | omega | (show OfNat.ofNat (α := Nat) _ < _; omega))) (by decide) ?_
      rw [e0]
      refine c_pi (by omega) (by rfl) (by rfl) (by rfl) (xPok_int (by decide) (by rfl)) ?_
      refine c_gW (by omega) (by rfl) (by rfl) (by rfl) ?_
      refine c_gi (by omega) (by rfl) (by rfl) (by rfl) ?_
      refine c_gi (by omega) (by rfl) (by rfl) (by rfl) ?_
      rw [sI_eq ⟨rfl, rfl⟩]
      refine c_iff (fun q => by have := (nI_eq (b := 0) (by omega) (by omega)).mp q; omega) ?_
      rw [nI_add, show (1 : Int32) = nI 1 from rfl, pk_sub (by omega), n_div (by omega) (by omega) (by omega)]
      refine c_pi (by omega) (by rfl) (by rfl) (by rfl) (xPok_int (by decide) (by rfl)) ?_
      refine c_gH (by omega) (by rfl) (by rfl) (by rfl) ?_
      refine c_gi (by omega) (by rfl) (by rfl) (by rfl) ?_
      refine c_gi (by omega) (by rfl) (by rfl) (by rfl) ?_
      rw [sI_ne (by omega), sI_eq ⟨rfl, rfl⟩]
      refine c_iff (fun q => by have := (nI_eq (b := 0) (by omega) (by omega)).mp q; omega) ?_
      rw [nI_add, pk_sub (by omega), n_div (by omega) (by omega) (by omega)]
      refine c_pi (by omega) (by rfl) (by rfl) (by rfl) (xPok_int (by decide) (by rfl)) ?_
      refine x_fo 256 (fun k e => xden S mX13_findsDifferences 52 [(0, .ref 90), (1, .int (nI k))] [] (E W H n e)) (fun k => aI m1 123 (fa_fill (fun _ => nI 0) (m1.1 123) k)) (by (try dsimp only); rw [fa_fill_0, aI_self m1 _ rfl]; exact h1.symm) (fun k hk ih => ?_) ?_
      · (try dsimp only at ih ⊢)
        rw [← sI_fill] at ih
        refine w_X13_findsDifferences_52 S _ _ _ _ ?_
        repeat (first | (with_reducible refine c_let ?_) | ((with_reducible refine c_ob ?_ ?_ ?_); (focus (first | omega | assumption)); (focus (first | rfl | assumption))) | ((with_reducible show Option.bind (xGr _ _ _ _) _ = _); (first | refine c_gr (by first | omega | assumption) (by first | rfl | assumption) (by rfl) (by rfl) ?_)) | ((with_reducible show Option.bind (xGi _ _ _ _) _ = _); (first | refine c_gi (by first | omega | assumption) (by first | rfl | assumption) (by rfl) (by rfl) ?_ | refine c_gW (by first | omega | assumption) (by first | rfl | assumption) (by rfl) (by rfl) ?_ | refine c_gH (by first | omega | assumption) (by first | rfl | assumption) (by rfl) (by rfl) ?_ | refine c_gA (by first | omega | assumption) (by first | rfl | assumption) (by rfl) (by rfl) ?_ | refine c_gb (by first | omega | assumption) (by first | rfl | assumption) (by rfl) (by rfl) ?_)) | ((with_reducible show Option.bind (xRi _ _ _ _) _ = _); (first | refine c_ri (by first | omega | assumption) (by first | rfl | assumption) (by first | rfl | assumption) (by with_reducible rfl) (by first | omega | ((conv => rhs; whnf); first | omega | (show _ < OfNat.ofNat (α := Nat) _; omega))) (by first | omega | ((conv => lhs; whnf); first | omega | (show OfNat.ofNat (α := Nat) _ < _; omega))) (by decide) ?_)) | ((with_reducible show Option.bind (xRl _ _ _) _ = _); (first | refine c_rl (by first | omega | assumption) (by first | rfl | assumption) (by with_reducible rfl) (by first | omega | ((conv => rhs; whnf); first | omega | (show _ < OfNat.ofNat (α := Nat) _; omega))) (by first | omega | ((conv => lhs; whnf); first | omega | (show OfNat.ofNat (α := Nat) _ < _; omega))) ?_)) | ((with_reducible show Option.bind (xP _ _ _ _ _ _ (.int _)) _ = _); (first | refine c_pi (by first | omega | assumption) (by first | rfl | assumption) (by rfl) (by rfl) (xPok_int (by decide) (by rfl)) ?_)) | ((with_reducible show Option.bind (xWi _ _ _ _) _ = _); (first | refine c_wi (by first | omega | assumption) (by first | rfl | assumption) (by first | rfl | assumption) (by with_reducible rfl) (by first | omega | ((conv => rhs; whnf); first | omega | (show _ < OfNat.ofNat (α := Nat) _; omega))) (by first | omega | ((conv => lhs; whnf); first | omega | (show OfNat.ofNat (α := Nat) _ < _; omega))) ?_)) | ((with_reducible show Option.bind (xWl _ _ _ _) _ = _); (first | refine c_wl (by first | omega | assumption) (by first | rfl | assumption) (by with_reducible rfl) (by first | omega | ((conv => rhs; whnf); first | omega | (show _ < OfNat.ofNat (α := Nat) _; omega))) (by first | omega | ((conv => lhs; whnf); first | omega | (show OfNat.ofNat (α := Nat) _ < _; omega))) ?_)) | ((with_reducible show Option.bind (xRz _ _) _ = _); (first | refine c_rz (by first | omega | assumption) (by first | rfl | assumption) (by first | assumption | rfl) ?_)) | ((with_reducible show Option.bind (xGl _ _ _ _) _ = _); (first | refine c_gl (by first | omega | assumption) (by first | rfl | assumption) (by rfl) (by rfl) ?_ | refine c_gw (by first | omega | assumption) (by first | rfl | assumption) (by rfl) (by rfl) ?_)) | (with_reducible refine c_nz ?_) | ((with_reducible refine c_ift ?_ ?_); (focus (first | assumption | omega | (simp (disch := omega) only [n_lit, nI_add, pk_mul, pk_sub, n_div, sub_dm, Int32.toInt_toInt64, nI_toInt, sI_ne, sI_eq, sI_2, sL_1, sL_ne, sL_eq, sL_3, sR_1, sR_2, sR_ne, sR_eq, aI_ne, aI_eq, aI_2, aL_1, aL_ne, aL_eq, aL_3, Nat.add_zero, Nat.zero_add, Nat.reduceAdd, Nat.reduceMul, Nat.reduceSub, Nat.mul_zero, Nat.zero_mul, nI_ltI, nI_leI, nI_eq, bz_0, bz_1, t_0, decide_eq_false_iff_not, decide_eq_true_eq, Bool.and_eq_true, Bool.and_eq_false_imp, Bool.not_eq_true, Bool.not_eq_false, eq_self, not_true_eq_false, not_false_eq_true, reduceCtorEq]; (try omega); done) | fail))) | ((with_reducible refine c_iff ?_ ?_); (focus (first | assumption | omega | (simp (disch := omega) only [n_lit, nI_add, pk_mul, pk_sub, n_div, sub_dm, Int32.toInt_toInt64, nI_toInt, sI_ne, sI_eq, sI_2, sL_1, sL_ne, sL_eq, sL_3, sR_1, sR_2, sR_ne, sR_eq, aI_ne, aI_eq, aI_2, aL_1, aL_ne, aL_eq, aL_3, Nat.add_zero, Nat.zero_add, Nat.reduceAdd, Nat.reduceMul, Nat.reduceSub, Nat.mul_zero, Nat.zero_mul, nI_ltI, nI_leI, nI_eq, bz_0, bz_1, t_0, decide_eq_false_iff_not, decide_eq_true_eq, Bool.and_eq_true, Bool.and_eq_false_imp, Bool.not_eq_true, Bool.not_eq_false, eq_self, not_true_eq_false, not_false_eq_true, reduceCtorEq]; (try omega); done) | fail))) | simp (disch := omega) only [n_lit, nI_add, pk_mul, pk_sub, n_div, sub_dm, Int32.toInt_toInt64, nI_toInt, sI_ne, sI_eq, sI_2, sL_1, sL_ne, sL_eq, sL_3, sR_1, sR_2, sR_ne, sR_eq, aI_ne, aI_eq, aI_2, aL_1, aL_ne, aL_eq, aL_3, Nat.add_zero, Nat.zero_add, Nat.reduceAdd, Nat.reduceMul, Nat.reduceSub, Nat.mul_zero, Nat.zero_mul])
        exact ih
      · (try dsimp only)
        rw [h2]
        refine w_X13_findsDifferences_52 S _ _ _ _ ?_
        repeat (first | (with_reducible refine c_let ?_) | ((with_reducible refine c_ob ?_ ?_ ?_); (focus (first | omega | assumption)); (focus (first | rfl | assumption))) | ((with_reducible show Option.bind (xGr _ _ _ _) _ = _); (first | refine c_gr (by first | omega | assumption) (by first | rfl | assumption) (by rfl) (by rfl) ?_)) | ((with_reducible show Option.bind (xGi _ _ _ _) _ = _); (first | refine c_gi (by first | omega | assumption) (by first | rfl | assumption) (by rfl) (by rfl) ?_ | refine c_gW (by first | omega | assumption) (by first | rfl | assumption) (by rfl) (by rfl) ?_ | refine c_gH (by first | omega | assumption) (by first | rfl | assumption) (by rfl) (by rfl) ?_ | refine c_gA (by first | omega | assumption) (by first | rfl | assumption) (by rfl) (by rfl) ?_ | refine c_gb (by first | omega | assumption) (by first | rfl | assumption) (by rfl) (by rfl) ?_)) | ((with_reducible show Option.bind (xRi _ _ _ _) _ = _); (first | refine c_ri (by first | omega | assumption) (by first | rfl | assumption) (by first | rfl | assumption) (by with_reducible rfl) (by first | omega | ((conv => rhs; whnf); first | omega | (show _ < OfNat.ofNat (α := Nat) _; omega))) (by first | omega | ((conv => lhs; whnf); first | omega | (show OfNat.ofNat (α := Nat) _ < _; omega))) (by decide) ?_)) | ((with_reducible show Option.bind (xRl _ _ _) _ = _); (first | refine c_rl (by first | omega | assumption) (by first | rfl | assumption) (by with_reducible rfl) (by first | omega | ((conv => rhs; whnf); first | omega | (show _ < OfNat.ofNat (α := Nat) _; omega))) (by first | omega | ((conv => lhs; whnf); first | omega | (show OfNat.ofNat (α := Nat) _ < _; omega))) ?_)) | ((with_reducible show Option.bind (xP _ _ _ _ _ _ (.int _)) _ = _); (first | refine c_pi (by first | omega | assumption) (by first | rfl | assumption) (by rfl) (by rfl) (xPok_int (by decide) (by rfl)) ?_)) | ((with_reducible show Option.bind (xWi _ _ _ _) _ = _); (first | refine c_wi (by first | omega | assumption) (by first | rfl | assumption) (by first | rfl | assumption) (by with_reducible rfl) (by first | omega | ((conv => rhs; whnf); first | omega | (show _ < OfNat.ofNat (α := Nat) _; omega))) (by first | omega | ((conv => lhs; whnf); first | omega | (show OfNat.ofNat (α := Nat) _ < _; omega))) ?_)) | ((with_reducible show Option.bind (xWl _ _ _ _) _ = _); (first | refine c_wl (by first | omega | assumption) (by first | rfl | assumption) (by with_reducible rfl) (by first | omega | ((conv => rhs; whnf); first | omega | (show _ < OfNat.ofNat (α := Nat) _; omega))) (by first | omega | ((conv => lhs; whnf); first | omega | (show OfNat.ofNat (α := Nat) _ < _; omega))) ?_)) | ((with_reducible show Option.bind (xRz _ _) _ = _); (first | refine c_rz (by first | omega | assumption) (by first | rfl | assumption) (by first | assumption | rfl) ?_)) | ((with_reducible show Option.bind (xGl _ _ _ _) _ = _); (first | refine c_gl (by first | omega | assumption) (by first | rfl | assumption) (by rfl) (by rfl) ?_ | refine c_gw (by first | omega | assumption) (by first | rfl | assumption) (by rfl) (by rfl) ?_)) | (with_reducible refine c_nz ?_) | ((with_reducible refine c_ift ?_ ?_); (focus (first | assumption | omega | (simp (disch := omega) only [n_lit, nI_add, pk_mul, pk_sub, n_div, sub_dm, Int32.toInt_toInt64, nI_toInt, sI_ne, sI_eq, sI_2, sL_1, sL_ne, sL_eq, sL_3, sR_1, sR_2, sR_ne, sR_eq, aI_ne, aI_eq, aI_2, aL_1, aL_ne, aL_eq, aL_3, Nat.add_zero, Nat.zero_add, Nat.reduceAdd, Nat.reduceMul, Nat.reduceSub, Nat.mul_zero, Nat.zero_mul, nI_ltI, nI_leI, nI_eq, bz_0, bz_1, t_0, decide_eq_false_iff_not, decide_eq_true_eq, Bool.and_eq_true, Bool.and_eq_false_imp, Bool.not_eq_true, Bool.not_eq_false, eq_self, not_true_eq_false, not_false_eq_true, reduceCtorEq]; (try omega); done) | fail))) | ((with_reducible refine c_iff ?_ ?_); (focus (first | assumption | omega | (simp (disch := omega) only [n_lit, nI_add, pk_mul, pk_sub, n_div, sub_dm, Int32.toInt_toInt64, nI_toInt, sI_ne, sI_eq, sI_2, sL_1, sL_ne, sL_eq, sL_3, sR_1, sR_2, sR_ne, sR_eq, aI_ne, aI_eq, aI_2, aL_1, aL_ne, aL_eq, aL_3, Nat.add_zero, Nat.zero_add, Nat.reduceAdd, Nat.reduceMul, Nat.reduceSub, Nat.mul_zero, Nat.zero_mul, nI_ltI, nI_leI, nI_eq, bz_0, bz_1, t_0, decide_eq_false_iff_not, decide_eq_true_eq, Bool.and_eq_true, Bool.and_eq_false_imp, Bool.not_eq_true, Bool.not_eq_false, eq_self, not_true_eq_false, not_false_eq_true, reduceCtorEq]; (try omega); done) | fail))) | simp (disch := omega) only [n_lit, nI_add, pk_mul, pk_sub, n_div, sub_dm, Int32.toInt_toInt64, nI_toInt, sI_ne, sI_eq, sI_2, sL_1, sL_ne, sL_eq, sL_3, sR_1, sR_2, sR_ne, sR_eq, aI_ne, aI_eq, aI_2, aL_1, aL_ne, aL_eq, aL_3, Nat.add_zero, Nat.zero_add, Nat.reduceAdd, Nat.reduceMul, Nat.reduceSub, Nat.mul_zero, Nat.zero_mul])
        exact k5
    · unfold fdP at w
      unfold fdQ
      simp only [Bool.or_eq_false_iff] at w ⊢
      exact ⟨w.1, w.2.1, w.2.2.1⟩
  · left
    obtain ⟨g1, g2, g3⟩ := hs
    have bl := (blk_lt hB hk).1
    have bd := fb_ct_le (fun i => (px Ms i || px Ad i) && decide (blk B i = blk B k)) k
    have C3 : mkM s c K := ⟨by rw [fr_i g3 90 30 rfl]; exact C2.1, fun i hi => by rw [fr_i g3 107 i rfl, fr_i g3 108 i rfl, fr_i g3 109 i rfl, fr_i g3 110 i rfl]; exact C2.2 i hi⟩
    have pxm : ∀ {X Y Z : Nat → Int64}, okP W H X → gB W H (msF W H X Y far c K) Z → px Z k = (((decide (k % 64 < W ∧ k / 64 < H) && !mkdB c K k) && px X k) && !nrB W H Y far (k / 64) (k % 64)) := fun {X Y Z} oX gZ => by
      by_cases d : k % 64 < W ∧ k / 64 < H
      · rw [gB_on gZ d, decide_eq_true d, Bool.true_and]
        unfold msF
        rw [show 64 * (k / 64) + k % 64 = k by omega]
        show ((px X k && _) && _) = _
        cases px X k <;> cases mkdB c K k <;> cases nrB W H Y far (k / 64) (k % 64) <;> rfl
      · rw [gB_off gZ d, decide_eq_false d, Bool.false_and, Bool.false_and, Bool.false_and]
    have em := pxm oO hM
    have ea := pxm oA hA
    refine ⟨stF s k (blk B k) (fb_ct (fun i => (px Ms i || px Ad i) && decide (blk B i = blk B k)) k) (px Ms k) (px Ad k), ⟨fun j hj => ?_, fun b hb => ?_, ?_⟩, fun o ho => fd74 hW8 hW hH8 hH hB hB2 (by rw [fr_i g3 90 54 rfl]; exact q54) (piM_fr PO2 g3 (fun _ => rfl)) (piM_fr PA2 g3 (fun _ => rfl)) hf (by rw [fr_i g3 98 2 rfl]; exact e982) C3 hc hk (by omega) (g2 _ bl) rfl em ea ho⟩
    · have : ∀ (z : mM), (z = sI (sI s 121 k (bz (px Ms k))) 122 k (bz (px Ad k)) ∨ ∃ b v, z = sI (sI (sI s 121 k (bz (px Ms k))) 122 k (bz (px Ad k))) 123 b v) → z.1 121 j = bz (px Ms j) ∧ z.1 122 j = bz (px Ad j) := by
        have base : (sI (sI s 121 k (bz (px Ms k))) 122 k (bz (px Ad k))).1 121 j = bz (px Ms j) ∧ (sI (sI s 121 k (bz (px Ms k))) 122 k (bz (px Ad k))).1 122 j = bz (px Ad j) := by
          by_cases e : j = k
          · rw [e]
            exact ⟨by rw [sI_ne (by omega), sI_eq ⟨rfl, rfl⟩], by rw [sI_eq ⟨rfl, rfl⟩]⟩
          · have := g1 j (by omega)
            exact ⟨by rw [sI_ne (by omega), sI_ne (by omega)]; exact this.1, by rw [sI_ne (by omega), sI_ne (by omega)]; exact this.2⟩
        rintro z (rfl | ⟨b, v, rfl⟩)
        · exact base
        · rw [sI_ne (show ¬ (121 = 123 ∧ j = b) by omega), sI_ne (show ¬ (122 = 123 ∧ j = b) by omega)]
          exact base
      refine this _ ?_
      unfold stF
      by_cases pq : (px Ms k || px Ad k) = true
      · rw [if_pos pq]; exact Or.inr ⟨_, _, rfl⟩
      · rw [if_neg pq]; exact Or.inl rfl
    · rw [fb_ct_succ]
      unfold stF
      by_cases pq : (px Ms k || px Ad k) = true
      · rw [if_pos pq, pq, Bool.true_and]
        by_cases e : b = blk B k
        · rw [e, sI_eq ⟨rfl, rfl⟩, decide_eq_true rfl, if_pos rfl]
        · rw [sI_ne (fun w => e w.2), sI_ne (by omega), sI_ne (by omega), g2 b hb, decide_eq_false (fun w => e w.symm), if_neg (by decide), Nat.add_zero]
      · rw [if_neg pq, sI_ne (by omega), sI_ne (by omega), g2 b hb]
        have pq' : (px Ms k || px Ad k) = false := by
          cases h : (px Ms k || px Ad k)
          · rfl
          · exact absurd h pq
        rw [pq', Bool.false_and, if_neg (by decide), Nat.add_zero]
    · unfold stF
      by_cases pq : (px Ms k || px Ad k) = true
      · rw [if_pos pq]
        exact fr_sI (fr_sI (fr_sI g3 (by rfl)) (by rfl)) (by rfl)
      · rw [if_neg pq]
        exact fr_sI (fr_sI g3 (by rfl)) (by rfl)
  · obtain ⟨g1, g2, g3⟩ := hs
    refine ⟨s, ⟨fun k hk => (g1 k hk).1, fun k hk => (g1 k hk).2, fun j i hj hi => ?_, g3⟩, fun o ho => w_X13_findsDifferences_74 S _ _ _ _ ?_⟩
    · rw [g2 _ (by omega)]
      refine congrArg nI ?_
      unfold blN
      refine fb_ct_cong fun k hk => ?_
      congr 1
      have := blk_lt hB hk
      unfold blk at this ⊢
      generalize k / 64 / B = p at *
      generalize k % 64 / B = q at *
      exact decide_eq_decide.mpr (by omega)
    · repeat (first | (with_reducible refine c_let ?_) | ((with_reducible refine c_ob ?_ ?_ ?_); (focus (first | omega | assumption)); (focus (first | rfl | assumption))) | ((with_reducible show Option.bind (xGr _ _ _ _) _ = _); (first | refine c_gr (by first | omega | assumption) (by first | rfl | assumption) (by rfl) (by rfl) ?_)) | ((with_reducible show Option.bind (xGi _ _ _ _) _ = _); (first | refine c_gi (by first | omega | assumption) (by first | rfl | assumption) (by rfl) (by rfl) ?_ | refine c_gW (by first | omega | assumption) (by first | rfl | assumption) (by rfl) (by rfl) ?_ | refine c_gH (by first | omega | assumption) (by first | rfl | assumption) (by rfl) (by rfl) ?_ | refine c_gA (by first | omega | assumption) (by first | rfl | assumption) (by rfl) (by rfl) ?_ | refine c_gb (by first | omega | assumption) (by first | rfl | assumption) (by rfl) (by rfl) ?_)) | ((with_reducible show Option.bind (xRi _ _ _ _) _ = _); (first | refine c_ri (by first | omega | assumption) (by first | rfl | assumption) (by first | rfl | assumption) (by with_reducible rfl) (by first | omega | ((conv => rhs; whnf); first | omega | (show _ < OfNat.ofNat (α := Nat) _; omega))) (by first | omega | ((conv => lhs; whnf); first | omega | (show OfNat.ofNat (α := Nat) _ < _; omega))) (by decide) ?_)) | ((with_reducible show Option.bind (xRl _ _ _) _ = _); (first | refine c_rl (by first | omega | assumption) (by first | rfl | assumption) (by with_reducible rfl) (by first | omega | ((conv => rhs; whnf); first | omega | (show _ < OfNat.ofNat (α := Nat) _; omega))) (by first | omega | ((conv => lhs; whnf); first | omega | (show OfNat.ofNat (α := Nat) _ < _; omega))) ?_)) | ((with_reducible show Option.bind (xP _ _ _ _ _ _ (.int _)) _ = _); (first | refine c_pi (by first | omega | assumption) (by first | rfl | assumption) (by rfl) (by rfl) (xPok_int (by decide) (by rfl)) ?_)) | ((with_reducible show Option.bind (xWi _ _ _ _) _ = _); (first | refine c_wi (by first | omega | assumption) (by first | rfl | assumption) (by first | rfl | assumption) (by with_reducible rfl) (by first | omega | ((conv => rhs; whnf); first | omega | (show _ < OfNat.ofNat (α := Nat) _; omega))) (by first | omega | ((conv => lhs; whnf); first | omega | (show OfNat.ofNat (α := Nat) _ < _; omega))) ?_)) | ((with_reducible show Option.bind (xWl _ _ _ _) _ = _); (first | refine c_wl (by first | omega | assumption) (by first | rfl | assumption) (by with_reducible rfl) (by first | omega | ((conv => rhs; whnf); first | omega | (show _ < OfNat.ofNat (α := Nat) _; omega))) (by first | omega | ((conv => lhs; whnf); first | omega | (show OfNat.ofNat (α := Nat) _ < _; omega))) ?_)) | ((with_reducible show Option.bind (xRz _ _) _ = _); (first | refine c_rz (by first | omega | assumption) (by first | rfl | assumption) (by first | assumption | rfl) ?_)) | ((with_reducible show Option.bind (xGl _ _ _ _) _ = _); (first | refine c_gl (by first | omega | assumption) (by first | rfl | assumption) (by rfl) (by rfl) ?_ | refine c_gw (by first | omega | assumption) (by first | rfl | assumption) (by rfl) (by rfl) ?_)) | (with_reducible refine c_nz ?_) | ((with_reducible refine c_ift ?_ ?_); (focus (first | assumption | omega | (simp (disch := omega) only [n_lit, nI_add, pk_mul, pk_sub, n_div, sub_dm, Int32.toInt_toInt64, nI_toInt, sI_ne, sI_eq, sI_2, sL_1, sL_ne, sL_eq, sL_3, sR_1, sR_2, sR_ne, sR_eq, aI_ne, aI_eq, aI_2, aL_1, aL_ne, aL_eq, aL_3, Nat.add_zero, Nat.zero_add, Nat.reduceAdd, Nat.reduceMul, Nat.reduceSub, Nat.mul_zero, Nat.zero_mul, nI_ltI, nI_leI, nI_eq, bz_0, bz_1, t_0, decide_eq_false_iff_not, decide_eq_true_eq, Bool.and_eq_true, Bool.and_eq_false_imp, Bool.not_eq_true, Bool.not_eq_false, eq_self, not_true_eq_false, not_false_eq_true, reduceCtorEq]; (try omega); done) | fail))) | ((with_reducible refine c_iff ?_ ?_); (focus (first | assumption | omega | (simp (disch := omega) only [n_lit, nI_add, pk_mul, pk_sub, n_div, sub_dm, Int32.toInt_toInt64, nI_toInt, sI_ne, sI_eq, sI_2, sL_1, sL_ne, sL_eq, sL_3, sR_1, sR_2, sR_ne, sR_eq, aI_ne, aI_eq, aI_2, aL_1, aL_ne, aL_eq, aL_3, Nat.add_zero, Nat.zero_add, Nat.reduceAdd, Nat.reduceMul, Nat.reduceSub, Nat.mul_zero, Nat.zero_mul, nI_ltI, nI_leI, nI_eq, bz_0, bz_1, t_0, decide_eq_false_iff_not, decide_eq_true_eq, Bool.and_eq_true, Bool.and_eq_false_imp, Bool.not_eq_true, Bool.not_eq_false, eq_self, not_true_eq_false, not_false_eq_true, reduceCtorEq]; (try omega); done) | fail))) | simp (disch := omega) only [n_lit, nI_add, pk_mul, pk_sub, n_div, sub_dm, Int32.toInt_toInt64, nI_toInt, sI_ne, sI_eq, sI_2, sL_1, sL_ne, sL_eq, sL_3, sR_1, sR_2, sR_ne, sR_eq, aI_ne, aI_eq, aI_2, aL_1, aL_ne, aL_eq, aL_3, Nat.add_zero, Nat.zero_add, Nat.reduceAdd, Nat.reduceMul, Nat.reduceSub, Nat.mul_zero, Nat.zero_mul])
      exact ho
end FD

/-! PARTS: the model's parts -/
noncomputable def PFm (W H : Nat) (Ms Ad : Nat → Int64) (P : Nat → Bool) (B : Nat) (o : Nat → Nat) (p : Nat) : Nat → Int64 := if p % 2 = 1 then mkW W H (rgF Ad P B (o (p / 2))) else mkW W H (rgF Ms P B (o (p / 2)))
/-- what a part's pixels are read from -/
def ofI (m : mM) (B : Nat) (P : Nat → Bool) (Ms Ad : Nat → Int64) (nb : Nat → Nat) : Prop := m.1 90 54 = nI B ∧ piM m 121 Ms ∧ piM m 122 Ad ∧ ∀ b, b < 256 → m.1 134 b = if P b = true then nI (nb (lbN P b)) else -1
theorem ofI_fr {m m' : mM} {B : Nat} {P : Nat → Bool} {Ms Ad : Nat → Int64} {nb : Nat → Nat} {K : Nat → Nat → Bool} (X : ofI m B P Ms Ad nb) (Q : fr K m m') (h : ∀ a j, a = 121 ∨ a = 122 ∨ a = 134 ∨ a = 90 ∧ j = 54 → K a j = false) : ofI m' B P Ms Ad nb := by
  obtain ⟨h1, h2, h3, h4⟩ := X
  exact ⟨(fr_i Q _ _ (h _ _ (Or.inr (Or.inr (Or.inr ⟨rfl, rfl⟩))))).trans h1, fun k hk => (fr_i Q _ _ (h _ _ (Or.inl rfl))).trans (h2 k hk), fun k hk => (fr_i Q _ _ (h _ _ (Or.inr (Or.inl rfl)))).trans (h3 k hk), fun b hb => (fr_i Q _ _ (h _ _ (Or.inr (Or.inr (Or.inl rfl))))).trans (h4 b hb)⟩
section PA
variable {S : xS} {W H n N : Nat} {m : mM} {B : Nat} {P : Nat → Bool} {Ms Ad : Nat → Int64} {o nb : Nat → Nat}
theorem isOf_s (hW8 : 8 ≤ W) (hW : W ≤ 64) (hH8 : 8 ≤ H) (hH : H ≤ 64) (hB : 4 ≤ B) (hB2 : B ≤ 16) (oM : okP W H Ms) (oA : okP W H Ad) (hN : N = nS ba P 256) (ho : ∀ i, i < N → nb (o i) = i) (hnb : ∀ q, q < N → nb q < N ∧ o (nb q) = q) (X : ofI m B P Ms Ad nb) {p k : Nat} (hp : p < 2 * N) (hk : k < 4096) : xM S mX13_isOf [.ref 90, .int (nI p), .int (nI k)] (E W H n m) = some (.inl (some (.int (bz (px (PFm W H Ms Ad P B o p) k)))), E W H n m, 0, 0) := by
  have N256 : N ≤ 256 := by rw [hN]; exact nS_256 P
  have nat64 : nI k - nI k / (64 : Int32) * (64 : Int32) = nI (k % 64) := pk_rem (by omega) (by decide) (by decide)
  have div64 : nI k / (64 : Int32) = nI (k / 64) := n_div (by omega) (by decide) (by decide)
  have rm : nI p - nI p / (2 : Int32) * (2 : Int32) = nI (p % 2) := pk_rem (by omega) (by decide) (by decide)
  have dv : nI p / (2 : Int32) = nI (p / 2) := n_div (by omega) (by decide) (by decide)
  obtain ⟨e54, PM, PA, e134⟩ := X
  have bo := blockOf_s (S := S) (W := W) (H := H) (n := n) (m := m) hB hB2 e54 hk
  have bl := (blk_lt hB hk).1
  have rb := e134 _ bl
  have epf : px (PFm W H Ms Ad P B o p) k = (px (if p % 2 = 1 then Ad else Ms) k && rgB P B (o (p / 2)) k) := by
    unfold PFm
    by_cases c : p % 2 = 1
    · rw [if_pos c, if_pos c]; exact rgF_px hW oA P B _
    · rw [if_neg c, if_neg c]; exact rgF_px hW oM P B _
  have ion := isOn_s (S := S) (m := m) (n := n) hW8 hW hH8 hH (nI (k % 64)).toInt64 (nI (k / 64)).toInt64
  rw [Int32.toInt_toInt64, Int32.toInt_toInt64, nI_toInt (by omega), nI_toInt (by omega)] at ion
  refine w_X13_isOf S _ _ _ _ _ ?_
  rw [nat64, div64, rm, dv]
  refine c_ob (by omega) (by rfl) ?_
  refine c_qI ion ?_
  by_cases c : k % 64 < W ∧ k / 64 < H
  · rw [show onP W H ((k % 64 : Nat) : Int) ((k / 64 : Nat) : Int) = true from decide_eq_true (by omega)]
    refine c_iff (by decide) ?_
    -- the block
    have fin : ∀ {A : Nat → Option xO}, True → (∀ {v : Int32}, v = m.1 134 (blk B k) → (if ¬ v = nI (p / 2) then (some (.inl (some (.int (0 : Int32))), E W H n m, 0, 0) : Option xO) else some (.inl (some (.int (1 : Int32))), E W H n m, 0, 0)) = some (.inl (some (.int (bz (rgB P B (o (p / 2)) k)))), E W H n m, 0, 0)) := fun {A} _ {v} ev => by
      rw [ev, rb]
      unfold rgB
      by_cases pb : P (blk B k) = true
      · obtain ⟨_, _, _, _, _, ll⟩ := lbN_lt bl pb
        rw [← hN] at ll
        rw [if_pos pb, pb, Bool.true_and]
        obtain ⟨q1, q2⟩ := hnb _ ll
        by_cases e : nb (lbN P (blk B k)) = p / 2
        · rw [e, decide_eq_true (show lbN P (blk B k) = o (p / 2) by rw [← e, q2])]
          exact c_iff (fun w => w rfl) rfl
        · rw [decide_eq_false (fun w => e (by rw [w]; exact ho _ (by omega)))]
          exact c_ift (fun w => e ((nI_eq (by omega) (by omega)).mp w)) rfl
      · have pb' : P (blk B k) = false := Bool.eq_false_iff.mpr pb
        rw [if_neg pb, pb', Bool.false_and]
        refine c_ift (fun w => ?_) rfl
        have w2 := congrArg Int32.toInt w
        rw [nI_toInt (by omega)] at w2
        rw [show (-1 : Int32).toInt = -1 from rfl] at w2
        omega
    by_cases od : p % 2 = 1
    · rw [if_pos od] at epf
      rw [od]
      refine c_ift (by decide) ?_
      refine c_gr (by omega) (by rfl) (by rfl) (by rfl) ?_
      refine c_ri (i := k) (by omega) (by rfl) (by rfl) (by rfl) (by first | omega | ((conv => rhs; whnf); first | omega | (show _ < OfNat.ofNat (α := Nat) _; omega))) (by first | omega | ((conv => lhs; whnf); first | omega | (show OfNat.ofNat (α := Nat) _ < _; omega))) (by decide) ?_
      rw [show m.1 (90 + 32) k = _ from PA k hk, epf]
      cases px Ad k
      · refine c_ift (by decide) ?_
        rfl
      · refine c_iff (by decide) ?_
        refine c_gr (by omega) (by rfl) (by rfl) (by rfl) ?_
        refine c_ob (by omega) (by rfl) ?_
        refine c_qI bo ?_
        refine c_ri (i := blk B k) (by omega) (by rfl) (by rfl) (by rfl) (by first | omega | ((conv => rhs; whnf); first | omega | (show _ < OfNat.ofNat (α := Nat) _; omega))) (by first | omega | ((conv => lhs; whnf); first | omega | (show OfNat.ofNat (α := Nat) _ < _; omega))) (by decide) ?_
        rw [Bool.true_and]
        exact fin (A := fun _ => none) trivial rfl
    · rw [if_neg od] at epf
      rw [show p % 2 = 0 by omega]
      refine c_iff (by decide) ?_
      refine c_gr (by omega) (by rfl) (by rfl) (by rfl) ?_
      refine c_ri (i := k) (by omega) (by rfl) (by rfl) (by rfl) (by first | omega | ((conv => rhs; whnf); first | omega | (show _ < OfNat.ofNat (α := Nat) _; omega))) (by first | omega | ((conv => lhs; whnf); first | omega | (show OfNat.ofNat (α := Nat) _ < _; omega))) (by decide) ?_
      rw [show m.1 (90 + 31) k = _ from PM k hk, epf]
      cases px Ms k
      · refine c_ift (by decide) ?_
        rfl
      · refine c_iff (by decide) ?_
        refine c_gr (by omega) (by rfl) (by rfl) (by rfl) ?_
        refine c_ob (by omega) (by rfl) ?_
        refine c_qI bo ?_
        refine c_ri (i := blk B k) (by omega) (by rfl) (by rfl) (by rfl) (by first | omega | ((conv => rhs; whnf); first | omega | (show _ < OfNat.ofNat (α := Nat) _; omega))) (by first | omega | ((conv => lhs; whnf); first | omega | (show OfNat.ofNat (α := Nat) _ < _; omega))) (by decide) ?_
        rw [Bool.true_and]
        exact fin (A := fun _ => none) trivial rfl
  · rw [show onP W H ((k % 64 : Nat) : Int) ((k / 64 : Nat) : Int) = false from decide_eq_false (by omega)]
    refine c_ift (by decide) ?_
    have z : px (if p % 2 = 1 then Ad else Ms) k = false := by
      by_cases od : p % 2 = 1
      · rw [if_pos od]; exact px_off oA c
      · rw [if_neg od]; exact px_off oM c
    rw [epf, z]
    rfl
end PA

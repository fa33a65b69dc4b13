/-! GETTERS: kind, target, move of a change -/
section GL
variable {S : xS} {W H n : Nat} {m : mM}
def tgV (t : Option Nat) : Int32 := match t with
  | none => -1
  | some j => nI j
def mvV (t : Option Nat) (f : Nat → Int32) (q : Nat) : Int32 := match t with
  | none => 0
  | some j => f (2 * j + 1) - f q
def kdV (t : Option Nat) (q : Nat) : Int32 := match t with
  | none => nI (1 + q % 2)
  | some _ => 3
theorem ckind_s {o : Nat → Nat} {q : Nat} (I : ptA (pcl o q) n) {t : Option Nat} (hp : m.2.2 (pcl o q) 8 = t.map (fun j => 147 + 5 * o j + 3)) : xM S mX5_kind [.ref (pcl o q)] (E W H n m) = some (.inl (some (.int (kdV t q))), E W H n m, 0, 0) := by
  have i1 := I.1
  have i2 := I.2.2
  refine w_X5_kind S _ _ _ ?_
  refine c_gn (by omega) i1 (by rfl) (by rfl) ?_
  cases t with
  | none =>
    refine c_on0 hp ?_
    refine c_gb (by omega) i1 (by rfl) (by rfl) ?_
    by_cases od : q % 2 = 1
    · rw [if_pos (show (pcl o q - 147) % 5 = 3 ∧ 147 ≤ pcl o q by rw [pcl_o od]; omega)]
      refine c_iff (by decide) ?_
      rw [show kdV none q = nI 2 by unfold kdV; rw [od]]
      rfl
    · rw [if_neg (show ¬ ((pcl o q - 147) % 5 = 3 ∧ 147 ≤ pcl o q) by rw [pcl_e (by omega)]; omega)]
      refine c_ift rfl ?_
      rw [show kdV none q = nI 1 by unfold kdV; rw [show q % 2 = 0 by omega]]
      rfl
  | some r => exact c_on1 (r := 147 + 5 * o r + 3) hp rfl
theorem cchangeKind_in (e : m.1 0 12 = 1) {c i q : Nat} {o : Nat → Nat} (hc : c ≤ 256) (e19 : m.1 64 19 = nI c) (hi : i < c) (er : m.2.2 71 i = some (pcl o q)) (I : ptA (pcl o q) n) {t : Option Nat} (hp : m.2.2 (pcl o q) 8 = t.map (fun j => 147 + 5 * o j + 3)) : xM S mX12_changeKind [.ref 0, .int (nI i)] (E W H n m) = some (.inl (some (.int (kdV t q))), E W H n m, 0, 0) := by
  refine w_X12_changeKind S _ _ _ _ ?_
  refine c_ob (by omega) (by rfl) ?_
  refine c_qR (changeOf_in e hc e19 hi er) ?_
  refine c_ob (by have := I.2.2; omega) I.1 ?_
  exact c_qI (ckind_s I hp) rfl
theorem mchangeKind_in (e : m.1 90 35 = 1) {c i q : Nat} (hc : c ≤ 256) (e79 : m.1 90 79 = nI c) (hi : i < c) (er : m.1 141 i = nI q) (hq : q < 512) {t : Option Nat} (ht : ∀ j, t = some j → j < 256) (et : m.1 142 i = pvI t) : xM S mX13_changeKind [.ref 90, .int (nI i)] (E W H n m) = some (.inl (some (.int (kdV t q))), E W H n (sI m 90 2 0), 0, 0) := by
  refine w_X13_changeKind S _ _ _ _ ?_
  refine c_gi (by omega) (by rfl) (by rfl) (by rfl) ?_
  rw [e79]
  refine c_ob (by omega) (by rfl) ?_
  refine c_qI (lacks_in e (by omega) (by rw [nI_toInt (by omega)]; omega)) ?_
  refine c_ift rfl ?_
  refine c_gr (by omega) (by rfl) (by rfl) (by rfl) ?_
  refine c_ri (i := i) (by omega) (by rfl) (by rfl) (by rfl) (by first | omega | ((conv => rhs; whnf); first | omega | (show _ < OfNat.ofNat (α := Nat) _; omega))) (by first | omega | ((conv => lhs; whnf); first | omega | (show OfNat.ofNat (α := Nat) _ < _; omega))) (by decide) ?_
  rw [sI_ne (by omega), show m.1 (90 + 52) i = pvI t from et]
  cases t with
  | none =>
    refine c_ift (show (-1 : Int32) < 0 by decide) ?_
    refine c_gr (by omega) (by rfl) (by rfl) (by rfl) ?_
    refine c_ri (i := i) (by omega) (by rfl) (by rfl) (by rfl) (by first | omega | ((conv => rhs; whnf); first | omega | (show _ < OfNat.ofNat (α := Nat) _; omega))) (by first | omega | ((conv => lhs; whnf); first | omega | (show OfNat.ofNat (α := Nat) _ < _; omega))) (by decide) ?_
    rw [sI_ne (by omega), show m.1 (90 + 51) i = nI q from er, show nI q - nI q / (2 : Int32) * (2 : Int32) = nI (q % 2) from pk_rem (by omega) (by decide) (by decide), show (1 : Int32) + nI (q % 2) = nI (1 + q % 2) from nI_add 1 (q % 2)]
    rfl
  | some j =>
    have := ht j rfl
    exact c_iff (show ¬ nI (2 * j + 1) < 0 from nI_pos (by omega)) rfl
theorem cchangeTarget_in (e : m.1 0 12 = 1) {c i q : Nat} {o : Nat → Nat} (hc : c ≤ 256) (e19 : m.1 64 19 = nI c) (hi : i < c) (er : m.2.2 71 i = some (pcl o q)) (I : ptA (pcl o q) n) {t : Option Nat} (hp : m.2.2 (pcl o q) 8 = t.map (fun j => 147 + 5 * o j + 3)) (hj : ∀ j, t = some j → o j < n ∧ m.1 (147 + 5 * o j + 3) 7 = nI j) : xM S mX12_changeTarget [.ref 0, .int (nI i)] (E W H n m) = some (.inl (some (.int (tgV t))), E W H n m, 0, 0) := by
  have i1 := I.1
  have i2 := I.2.2
  refine w_X12_changeTarget S _ _ _ _ ?_
  refine c_ob (by omega) (by rfl) ?_
  refine c_qR (changeOf_in e hc e19 hi er) ?_
  refine c_gn (by omega) i1 (by rfl) (by rfl) ?_
  cases t with
  | none => exact c_on0 hp rfl
  | some j =>
    obtain ⟨h1, h2⟩ := hj j rfl
    refine c_on1 (r := 147 + 5 * o j + 3) hp ?_
    refine c_gi (by omega) (ptA_rg h1).2.1 (by rfl) (by rfl) ?_
    rw [h2]
    rfl
theorem mchangeTarget_in (e : m.1 90 35 = 1) {c i : Nat} (hc : c ≤ 256) (e79 : m.1 90 79 = nI c) (hi : i < c) {t : Option Nat} (ht : ∀ j, t = some j → j < 256) (et : m.1 142 i = pvI t) : xM S mX13_changeTarget [.ref 90, .int (nI i)] (E W H n m) = some (.inl (some (.int (tgV t))), E W H n (sI m 90 2 0), 0, 0) := by
  refine w_X13_changeTarget S _ _ _ _ ?_
  refine c_gi (by omega) (by rfl) (by rfl) (by rfl) ?_
  rw [e79]
  refine c_ob (by omega) (by rfl) ?_
  refine c_qI (lacks_in e (by omega) (by rw [nI_toInt (by omega)]; omega)) ?_
  refine c_ift rfl ?_
  refine c_gr (by omega) (by rfl) (by rfl) (by rfl) ?_
  refine c_ri (i := i) (by omega) (by rfl) (by rfl) (by rfl) (by first | omega | ((conv => rhs; whnf); first | omega | (show _ < OfNat.ofNat (α := Nat) _; omega))) (by first | omega | ((conv => lhs; whnf); first | omega | (show OfNat.ofNat (α := Nat) _ < _; omega))) (by decide) ?_
  rw [sI_ne (by omega), show m.1 (90 + 52) i = pvI t from et]
  cases t with
  | none => exact c_ift (show (-1 : Int32) < 0 by decide) rfl
  | some j =>
    have := ht j rfl
    refine c_iff (show ¬ nI (2 * j + 1) < 0 from nI_pos (by omega)) ?_
    refine c_gr (by omega) (by rfl) (by rfl) (by rfl) ?_
    refine c_ri (i := i) (by omega) (by rfl) (by rfl) (by rfl) (by first | omega | ((conv => rhs; whnf); first | omega | (show _ < OfNat.ofNat (α := Nat) _; omega))) (by first | omega | ((conv => lhs; whnf); first | omega | (show OfNat.ofNat (α := Nat) _ < _; omega))) (by decide) ?_
    rw [sI_ne (by omega), show m.1 (90 + 52) i = nI (2 * j + 1) from et, show nI (2 * j + 1) / (2 : Int32) = nI ((2 * j + 1) / 2) from n_div (by omega) (by decide) (by decide), show (2 * j + 1) / 2 = j by omega]
    rfl
theorem cmoveX_in (e : m.1 0 12 = 1) {c i q : Nat} {o : Nat → Nat} (hc : c ≤ 256) (e19 : m.1 64 19 = nI c) (hi : i < c) (er : m.2.2 71 i = some (pcl o q)) (I : ptA (pcl o q) n) {t : Option Nat} (hp : m.2.2 (pcl o q) 8 = t.map (fun j => 147 + 5 * o j + 3)) {f : Nat → Int32} (hq : m.1 (pcl o q) 2 = f q) (hj : ∀ j, t = some j → o j < n ∧ m.1 (147 + 5 * o j + 3) 2 = f (2 * j + 1)) : xM S mX12_moveX [.ref 0, .int (nI i)] (E W H n m) = some (.inl (some (.int (mvV t f q))), E W H n m, 0, 0) := by
  have i1 := I.1
  have i2 := I.2.2
  refine w_X12_moveX S _ _ _ _ ?_
  refine c_ob (by omega) (by rfl) ?_
  refine c_qR (changeOf_in e hc e19 hi er) ?_
  refine c_gn (by omega) i1 (by rfl) (by rfl) ?_
  cases t with
  | none => exact c_on0 hp rfl
  | some j =>
    obtain ⟨h1, h2⟩ := hj j rfl
    refine c_on1 (r := 147 + 5 * o j + 3) hp ?_
    refine c_gi (by omega) (ptA_rg h1).2.1 (by rfl) (by rfl) ?_
    refine c_gi (by omega) i1 (by rfl) (by rfl) ?_
    rw [h2, hq]
    rfl
theorem mmoveX_in (e : m.1 90 35 = 1) {c i q : Nat} (hc : c ≤ 256) (e79 : m.1 90 79 = nI c) (hi : i < c) (er : m.1 141 i = nI q) (hq : q < 512) {t : Option Nat} (ht : ∀ j, t = some j → j < 256) (et : m.1 142 i = pvI t) {f : Nat → Int32} (fq : m.1 136 q = f q) (fj : ∀ j, t = some j → m.1 136 (2 * j + 1) = f (2 * j + 1)) : xM S mX13_moveX [.ref 90, .int (nI i)] (E W H n m) = some (.inl (some (.int (mvV t f q))), E W H n (sI m 90 2 0), 0, 0) := by
  refine w_X13_moveX S _ _ _ _ ?_
  refine c_gi (by omega) (by rfl) (by rfl) (by rfl) ?_
  rw [e79]
  refine c_ob (by omega) (by rfl) ?_
  refine c_qI (lacks_in e (by omega) (by rw [nI_toInt (by omega)]; omega)) ?_
  refine c_iff (fun w => w rfl) ?_
  refine c_gr (by omega) (by rfl) (by rfl) (by rfl) ?_
  refine c_ri (i := i) (by omega) (by rfl) (by rfl) (by rfl) (by first | omega | ((conv => rhs; whnf); first | omega | (show _ < OfNat.ofNat (α := Nat) _; omega))) (by first | omega | ((conv => lhs; whnf); first | omega | (show OfNat.ofNat (α := Nat) _ < _; omega))) (by decide) ?_
  rw [sI_ne (by omega), show m.1 (90 + 52) i = pvI t from et]
  cases t with
  | none => exact c_iff (show ¬ (0 : Int32) ≤ -1 by decide) rfl
  | some j =>
    have := ht j rfl
    refine c_ift (show nI 0 ≤ nI (2 * j + 1) from (nI_leI (by omega) (by omega)).mpr (by omega)) ?_
    refine c_gr (by omega) (by rfl) (by rfl) (by rfl) ?_
    refine c_gr (by omega) (by rfl) (by rfl) (by rfl) ?_
    refine c_ri (i := i) (by omega) (by rfl) (by rfl) (by rfl) (by first | omega | ((conv => rhs; whnf); first | omega | (show _ < OfNat.ofNat (α := Nat) _; omega))) (by first | omega | ((conv => lhs; whnf); first | omega | (show OfNat.ofNat (α := Nat) _ < _; omega))) (by decide) ?_
    rw [sI_ne (by omega), show m.1 (90 + 52) i = nI (2 * j + 1) from et]
    refine c_ri (i := 2 * j + 1) (by omega) (by rfl) (by rfl) (by rfl) (by first | omega | ((conv => rhs; whnf); first | omega | (show _ < OfNat.ofNat (α := Nat) _; omega))) (by first | omega | ((conv => lhs; whnf); first | omega | (show OfNat.ofNat (α := Nat) _ < _; omega))) (by decide) ?_
    refine c_gr (by omega) (by rfl) (by rfl) (by rfl) ?_
    refine c_gr (by omega) (by rfl) (by rfl) (by rfl) ?_
    refine c_ri (i := i) (by omega) (by rfl) (by rfl) (by rfl) (by first | omega | ((conv => rhs; whnf); first | omega | (show _ < OfNat.ofNat (α := Nat) _; omega))) (by first | omega | ((conv => lhs; whnf); first | omega | (show OfNat.ofNat (α := Nat) _ < _; omega))) (by decide) ?_
    rw [sI_ne (by omega), sI_ne (by omega), show m.1 (90 + 51) i = nI q from er, show m.1 (90 + 46) (2 * j + 1) = f (2 * j + 1) from fj j rfl]
    refine c_ri (i := q) (by omega) (by rfl) (by rfl) (by rfl) (by first | omega | ((conv => rhs; whnf); first | omega | (show _ < OfNat.ofNat (α := Nat) _; omega))) (by first | omega | ((conv => lhs; whnf); first | omega | (show OfNat.ofNat (α := Nat) _ < _; omega))) (by decide) ?_
    rw [sI_ne (by omega), show m.1 (90 + 46) q = f q from fq]
    rfl
theorem cmoveY_in (e : m.1 0 12 = 1) {c i q : Nat} {o : Nat → Nat} (hc : c ≤ 256) (e19 : m.1 64 19 = nI c) (hi : i < c) (er : m.2.2 71 i = some (pcl o q)) (I : ptA (pcl o q) n) {t : Option Nat} (hp : m.2.2 (pcl o q) 8 = t.map (fun j => 147 + 5 * o j + 3)) {f : Nat → Int32} (hq : m.1 (pcl o q) 3 = f q) (hj : ∀ j, t = some j → o j < n ∧ m.1 (147 + 5 * o j + 3) 3 = f (2 * j + 1)) : xM S mX12_moveY [.ref 0, .int (nI i)] (E W H n m) = some (.inl (some (.int (mvV t f q))), E W H n m, 0, 0) := by
  have i1 := I.1
  have i2 := I.2.2
  refine w_X12_moveY S _ _ _ _ ?_
  refine c_ob (by omega) (by rfl) ?_
  refine c_qR (changeOf_in e hc e19 hi er) ?_
  refine c_gn (by omega) i1 (by rfl) (by rfl) ?_
  cases t with
  | none => exact c_on0 hp rfl
  | some j =>
    obtain ⟨h1, h2⟩ := hj j rfl
    refine c_on1 (r := 147 + 5 * o j + 3) hp ?_
    refine c_gi (by omega) (ptA_rg h1).2.1 (by rfl) (by rfl) ?_
    refine c_gi (by omega) i1 (by rfl) (by rfl) ?_
    rw [h2, hq]
    rfl
theorem mmoveY_in (e : m.1 90 35 = 1) {c i q : Nat} (hc : c ≤ 256) (e79 : m.1 90 79 = nI c) (hi : i < c) (er : m.1 141 i = nI q) (hq : q < 512) {t : Option Nat} (ht : ∀ j, t = some j → j < 256) (et : m.1 142 i = pvI t) {f : Nat → Int32} (fq : m.1 137 q = f q) (fj : ∀ j, t = some j → m.1 137 (2 * j + 1) = f (2 * j + 1)) : xM S mX13_moveY [.ref 90, .int (nI i)] (E W H n m) = some (.inl (some (.int (mvV t f q))), E W H n (sI m 90 2 0), 0, 0) := by
  refine w_X13_moveY S _ _ _ _ ?_
  refine c_gi (by omega) (by rfl) (by rfl) (by rfl) ?_
  rw [e79]
  refine c_ob (by omega) (by rfl) ?_
  refine c_qI (lacks_in e (by omega) (by rw [nI_toInt (by omega)]; omega)) ?_
  refine c_iff (fun w => w rfl) ?_
  refine c_gr (by omega) (by rfl) (by rfl) (by rfl) ?_
  refine c_ri (i := i) (by omega) (by rfl) (by rfl) (by rfl) (by first | omega | ((conv => rhs; whnf); first | omega | (show _ < OfNat.ofNat (α := Nat) _; omega))) (by first | omega | ((conv => lhs; whnf); first | omega | (show OfNat.ofNat (α := Nat) _ < _; omega))) (by decide) ?_
  rw [sI_ne (by omega), show m.1 (90 + 52) i = pvI t from et]
  cases t with
  | none => exact c_iff (show ¬ (0 : Int32) ≤ -1 by decide) rfl
  | some j =>
    have := ht j rfl
    refine c_ift (show nI 0 ≤ nI (2 * j + 1) from (nI_leI (by omega) (by omega)).mpr (by omega)) ?_
    refine c_gr (by omega) (by rfl) (by rfl) (by rfl) ?_
    refine c_gr (by omega) (by rfl) (by rfl) (by rfl) ?_
    refine c_ri (i := i) (by omega) (by rfl) (by rfl) (by rfl) (by first | omega | ((conv => rhs; whnf); first | omega | (show _ < OfNat.ofNat (α := Nat) _; omega))) (by first | omega | ((conv => lhs; whnf); first | omega | (show OfNat.ofNat (α := Nat) _ < _; omega))) (by decide) ?_
    rw [sI_ne (by omega), show m.1 (90 + 52) i = nI (2 * j + 1) from et]
    refine c_ri (i := 2 * j + 1) (by omega) (by rfl) (by rfl) (by rfl) (by first | omega | ((conv => rhs; whnf); first | omega | (show _ < OfNat.ofNat (α := Nat) _; omega))) (by first | omega | ((conv => lhs; whnf); first | omega | (show OfNat.ofNat (α := Nat) _ < _; omega))) (by decide) ?_
    refine c_gr (by omega) (by rfl) (by rfl) (by rfl) ?_
    refine c_gr (by omega) (by rfl) (by rfl) (by rfl) ?_
    refine c_ri (i := i) (by omega) (by rfl) (by rfl) (by rfl) (by first | omega | ((conv => rhs; whnf); first | omega | (show _ < OfNat.ofNat (α := Nat) _; omega))) (by first | omega | ((conv => lhs; whnf); first | omega | (show OfNat.ofNat (α := Nat) _ < _; omega))) (by decide) ?_
    rw [sI_ne (by omega), sI_ne (by omega), show m.1 (90 + 51) i = nI q from er, show m.1 (90 + 47) (2 * j + 1) = f (2 * j + 1) from fj j rfl]
    refine c_ri (i := q) (by omega) (by rfl) (by rfl) (by rfl) (by first | omega | ((conv => rhs; whnf); first | omega | (show _ < OfNat.ofNat (α := Nat) _; omega))) (by first | omega | ((conv => lhs; whnf); first | omega | (show OfNat.ofNat (α := Nat) _ < _; omega))) (by decide) ?_
    rw [sI_ne (by omega), show m.1 (90 + 47) q = f q from fq]
    rfl
theorem cchangeKind_no (e : m.1 0 12 = 0) (x : Int32) : xM S mX12_changeKind [.ref 0, .int x] (E W H n m) = some (.inr sIS, E W H n m, 1, 6) := by
  refine w_X12_changeKind S _ _ _ _ ?_
  refine c_ob (by omega) (by rfl) ?_
  rw [changeOf_no e]
  rfl
theorem cchangeKind_out (e : m.1 0 12 = 1) {c : Nat} (hc : c ≤ 256) (ef : m.1 64 19 = nI c) {x : Int32} (h : ¬ (0 ≤ x.toInt ∧ x.toInt < c)) : xM S mX12_changeKind [.ref 0, .int x] (E W H n m) = some (.inr sIO, E W H n m, 1, 6) := by
  refine w_X12_changeKind S _ _ _ _ ?_
  refine c_ob (by omega) (by rfl) ?_
  rw [changeOf_out e hc ef h]
  rfl
theorem mchangeKind_no (e : m.1 90 35 = 0) (x : Int32) : xM S mX13_changeKind [.ref 90, .int x] (E W H n m) = some (.inl (some (.int 0)), E W H n (sI m 90 2 1), 0, 0) := by
  refine w_X13_changeKind S _ _ _ _ ?_
  refine c_gi (by omega) (by rfl) (by rfl) (by rfl) ?_
  refine c_ob (by omega) (by rfl) ?_
  refine c_qI (lacks_no e _ _) ?_
  exact c_iff (by decide) rfl
theorem mchangeKind_out (e : m.1 90 35 = 1) {c : Nat} (hc : c ≤ 256) (ef : m.1 90 79 = nI c) {x : Int32} (h : ¬ (0 ≤ x.toInt ∧ x.toInt < c)) : xM S mX13_changeKind [.ref 90, .int x] (E W H n m) = some (.inl (some (.int 0)), E W H n (sI m 90 2 2), 0, 0) := by
  refine w_X13_changeKind S _ _ _ _ ?_
  refine c_gi (by omega) (by rfl) (by rfl) (by rfl) ?_
  rw [ef]
  refine c_ob (by omega) (by rfl) ?_
  refine c_qI (lacks_out e (by omega) h) ?_
  exact c_iff (by decide) rfl
theorem cchangeTarget_no (e : m.1 0 12 = 0) (x : Int32) : xM S mX12_changeTarget [.ref 0, .int x] (E W H n m) = some (.inr sIS, E W H n m, 1, 6) := by
  refine w_X12_changeTarget S _ _ _ _ ?_
  refine c_ob (by omega) (by rfl) ?_
  rw [changeOf_no e]
  rfl
theorem cchangeTarget_out (e : m.1 0 12 = 1) {c : Nat} (hc : c ≤ 256) (ef : m.1 64 19 = nI c) {x : Int32} (h : ¬ (0 ≤ x.toInt ∧ x.toInt < c)) : xM S mX12_changeTarget [.ref 0, .int x] (E W H n m) = some (.inr sIO, E W H n m, 1, 6) := by
  refine w_X12_changeTarget S _ _ _ _ ?_
  refine c_ob (by omega) (by rfl) ?_
  rw [changeOf_out e hc ef h]
  rfl
theorem mchangeTarget_no (e : m.1 90 35 = 0) (x : Int32) : xM S mX13_changeTarget [.ref 90, .int x] (E W H n m) = some (.inl (some (.int 0)), E W H n (sI m 90 2 1), 0, 0) := by
  refine w_X13_changeTarget S _ _ _ _ ?_
  refine c_gi (by omega) (by rfl) (by rfl) (by rfl) ?_
  refine c_ob (by omega) (by rfl) ?_
  refine c_qI (lacks_no e _ _) ?_
  exact c_iff (by decide) rfl
theorem mchangeTarget_out (e : m.1 90 35 = 1) {c : Nat} (hc : c ≤ 256) (ef : m.1 90 79 = nI c) {x : Int32} (h : ¬ (0 ≤ x.toInt ∧ x.toInt < c)) : xM S mX13_changeTarget [.ref 90, .int x] (E W H n m) = some (.inl (some (.int 0)), E W H n (sI m 90 2 2), 0, 0) := by
  refine w_X13_changeTarget S _ _ _ _ ?_
  refine c_gi (by omega) (by rfl) (by rfl) (by rfl) ?_
  rw [ef]
  refine c_ob (by omega) (by rfl) ?_
  refine c_qI (lacks_out e (by omega) h) ?_
  exact c_iff (by decide) rfl
theorem cmoveX_no (e : m.1 0 12 = 0) (x : Int32) : xM S mX12_moveX [.ref 0, .int x] (E W H n m) = some (.inr sIS, E W H n m, 1, 6) := by
  refine w_X12_moveX S _ _ _ _ ?_
  refine c_ob (by omega) (by rfl) ?_
  rw [changeOf_no e]
  rfl
theorem cmoveX_out (e : m.1 0 12 = 1) {c : Nat} (hc : c ≤ 256) (ef : m.1 64 19 = nI c) {x : Int32} (h : ¬ (0 ≤ x.toInt ∧ x.toInt < c)) : xM S mX12_moveX [.ref 0, .int x] (E W H n m) = some (.inr sIO, E W H n m, 1, 6) := by
  refine w_X12_moveX S _ _ _ _ ?_
  refine c_ob (by omega) (by rfl) ?_
  rw [changeOf_out e hc ef h]
  rfl
theorem mmoveX_no (e : m.1 90 35 = 0) (x : Int32) : xM S mX13_moveX [.ref 90, .int x] (E W H n m) = some (.inl (some (.int 0)), E W H n (sI m 90 2 1), 0, 0) := by
  refine w_X13_moveX S _ _ _ _ ?_
  refine c_gi (by omega) (by rfl) (by rfl) (by rfl) ?_
  refine c_ob (by omega) (by rfl) ?_
  refine c_qI (lacks_no e _ _) ?_
  exact c_ift (by decide) rfl
theorem mmoveX_out (e : m.1 90 35 = 1) {c : Nat} (hc : c ≤ 256) (ef : m.1 90 79 = nI c) {x : Int32} (h : ¬ (0 ≤ x.toInt ∧ x.toInt < c)) : xM S mX13_moveX [.ref 90, .int x] (E W H n m) = some (.inl (some (.int 0)), E W H n (sI m 90 2 2), 0, 0) := by
  refine w_X13_moveX S _ _ _ _ ?_
  refine c_gi (by omega) (by rfl) (by rfl) (by rfl) ?_
  rw [ef]
  refine c_ob (by omega) (by rfl) ?_
  refine c_qI (lacks_out e (by omega) h) ?_
  exact c_ift (by decide) rfl
theorem cmoveY_no (e : m.1 0 12 = 0) (x : Int32) : xM S mX12_moveY [.ref 0, .int x] (E W H n m) = some (.inr sIS, E W H n m, 1, 6) := by
  refine w_X12_moveY S _ _ _ _ ?_
  refine c_ob (by omega) (by rfl) ?_
  rw [changeOf_no e]
  rfl
theorem cmoveY_out (e : m.1 0 12 = 1) {c : Nat} (hc : c ≤ 256) (ef : m.1 64 19 = nI c) {x : Int32} (h : ¬ (0 ≤ x.toInt ∧ x.toInt < c)) : xM S mX12_moveY [.ref 0, .int x] (E W H n m) = some (.inr sIO, E W H n m, 1, 6) := by
  refine w_X12_moveY S _ _ _ _ ?_
  refine c_ob (by omega) (by rfl) ?_
  rw [changeOf_out e hc ef h]
  rfl
theorem mmoveY_no (e : m.1 90 35 = 0) (x : Int32) : xM S mX13_moveY [.ref 90, .int x] (E W H n m) = some (.inl (some (.int 0)), E W H n (sI m 90 2 1), 0, 0) := by
  refine w_X13_moveY S _ _ _ _ ?_
  refine c_gi (by omega) (by rfl) (by rfl) (by rfl) ?_
  refine c_ob (by omega) (by rfl) ?_
  refine c_qI (lacks_no e _ _) ?_
  exact c_ift (by decide) rfl
theorem mmoveY_out (e : m.1 90 35 = 1) {c : Nat} (hc : c ≤ 256) (ef : m.1 90 79 = nI c) {x : Int32} (h : ¬ (0 ≤ x.toInt ∧ x.toInt < c)) : xM S mX13_moveY [.ref 90, .int x] (E W H n m) = some (.inl (some (.int 0)), E W H n (sI m 90 2 2), 0, 0) := by
  refine w_X13_moveY S _ _ _ _ ?_
  refine c_gi (by omega) (by rfl) (by rfl) (by rfl) ?_
  rw [ef]
  refine c_ob (by omega) (by rfl) ?_
  refine c_qI (lacks_out e (by omega) h) ?_
  exact c_ift (by decide) rfl
theorem cstampOf_no (e : m.1 0 12 = 0) (x : Int32) : xM S mX12_stampOf [.ref 0, .int x] (E W H n m) = some (.inr sIS, E W H n m, 1, 6) := by
  refine w_X12_stampOf S _ _ _ _ ?_
  refine c_gr (by omega) (by rfl) (by rfl) (by rfl) ?_
  refine c_ob (by omega) (by rfl) ?_
  rw [changeOf_no e]
  rfl
theorem cstampOf_out (e : m.1 0 12 = 1) {c : Nat} (hc : c ≤ 256) (ef : m.1 64 19 = nI c) {x : Int32} (h : ¬ (0 ≤ x.toInt ∧ x.toInt < c)) : xM S mX12_stampOf [.ref 0, .int x] (E W H n m) = some (.inr sIO, E W H n m, 1, 6) := by
  refine w_X12_stampOf S _ _ _ _ ?_
  refine c_gr (by omega) (by rfl) (by rfl) (by rfl) ?_
  refine c_ob (by omega) (by rfl) ?_
  rw [changeOf_out e hc ef h]
  rfl
theorem mstampOf_no (e : m.1 90 35 = 0) (x : Int32) : xM S mX13_stampOf [.ref 90, .int x] (E W H n m) = some (.inl (some (.int 0)), E W H n (sI m 90 2 1), 0, 0) := by
  refine w_X13_stampOf S _ _ _ _ ?_
  refine c_gi (by omega) (by rfl) (by rfl) (by rfl) ?_
  refine c_ob (by omega) (by rfl) ?_
  refine c_qI (lacks_no e _ _) ?_
  exact c_iff (by decide) rfl
theorem mstampOf_out (e : m.1 90 35 = 1) {c : Nat} (hc : c ≤ 256) (ef : m.1 90 79 = nI c) {x : Int32} (h : ¬ (0 ≤ x.toInt ∧ x.toInt < c)) : xM S mX13_stampOf [.ref 90, .int x] (E W H n m) = some (.inl (some (.int 0)), E W H n (sI m 90 2 2), 0, 0) := by
  refine w_X13_stampOf S _ _ _ _ ?_
  refine c_gi (by omega) (by rfl) (by rfl) (by rfl) ?_
  rw [ef]
  refine c_ob (by omega) (by rfl) ?_
  refine c_qI (lacks_out e (by omega) h) ?_
  exact c_iff (by decide) rfl
theorem caccept_no (e : m.1 0 12 = 0) (x : Int32) : xM S mX12_accept [.ref 0, .int x] (E W H n m) = some (.inr sIS, E W H n m, 1, 6) := by
  refine w_X12_accept S _ _ _ _ ?_
  refine c_ob (by omega) (by rfl) ?_
  rw [changeOf_no e]
  rfl
theorem caccept_out (e : m.1 0 12 = 1) {c : Nat} (hc : c ≤ 256) (ef : m.1 64 19 = nI c) {x : Int32} (h : ¬ (0 ≤ x.toInt ∧ x.toInt < c)) : xM S mX12_accept [.ref 0, .int x] (E W H n m) = some (.inr sIO, E W H n m, 1, 6) := by
  refine w_X12_accept S _ _ _ _ ?_
  refine c_ob (by omega) (by rfl) ?_
  rw [changeOf_out e hc ef h]
  rfl
theorem maccept_no (e : m.1 90 35 = 0) (x : Int32) : xM S mX13_accept [.ref 90, .int x] (E W H n m) = some (.inl (some (.int 0)), E W H n (sI m 90 2 1), 0, 0) := by
  refine w_X13_accept S _ _ _ _ ?_
  refine c_gi (by omega) (by rfl) (by rfl) (by rfl) ?_
  refine c_ob (by omega) (by rfl) ?_
  refine c_qI (lacks_no e _ _) ?_
  exact c_iff (by decide) rfl
theorem maccept_out (e : m.1 90 35 = 1) {c : Nat} (hc : c ≤ 256) (ef : m.1 90 79 = nI c) {x : Int32} (h : ¬ (0 ≤ x.toInt ∧ x.toInt < c)) : xM S mX13_accept [.ref 90, .int x] (E W H n m) = some (.inl (some (.int 0)), E W H n (sI m 90 2 2), 0, 0) := by
  refine w_X13_accept S _ _ _ _ ?_
  refine c_gi (by omega) (by rfl) (by rfl) (by rfl) ?_
  rw [ef]
  refine c_ob (by omega) (by rfl) ?_
  refine c_qI (lacks_out e (by omega) h) ?_
  exact c_iff (by decide) rfl
end GL

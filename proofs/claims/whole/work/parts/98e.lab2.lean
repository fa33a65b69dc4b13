/-! REGIONS: the class joins its blocks -/
/-- the model's number of a block of the class -/
def phi (c b : Nat) : Nat := 16 * (b / c) + b % c
theorem phi_m {c b : Nat} (c1 : 1 ≤ c) (c2 : c ≤ 16) : phi c b % 16 = b % c ∧ phi c b / 16 = b / c := by
  have : b % c < c := Nat.mod_lt _ (by omega)
  unfold phi
  omega
theorem phi_at {c q r : Nat} (c2 : c ≤ 16) (hr : r < c) : phi c (q * c + r) = 16 * q + r ∧ (q * c + r) / c = q ∧ (q * c + r) % c = r := by
  have e1 : (q * c + r) / c = q := by rw [Nat.mul_comm, Nat.mul_add_div (by omega), Nat.div_eq_of_lt hr]; rfl
  have e2 : (q * c + r) % c = r := by rw [Nat.mul_comm, Nat.mul_add_mod, Nat.mod_eq_of_lt hr]
  exact ⟨by unfold phi; rw [e1, e2], e1, e2⟩
theorem phi_lt {c b b' : Nat} (c1 : 1 ≤ c) (c2 : c ≤ 16) (h : b < b') : phi c b < phi c b' := by
  have d := Nat.div_le_div_right (c := c) (Nat.le_of_lt h)
  have m1 : b % c < c := Nat.mod_lt _ (by omega)
  have e1 := Nat.div_add_mod b c
  have e2 := Nat.div_add_mod b' c
  unfold phi
  rcases Nat.lt_or_eq_of_le d with q | q
  · omega
  · rw [q] at e1 ⊢
    omega
theorem phi_one {c b b' : Nat} (c1 : 1 ≤ c) (c2 : c ≤ 16) (h : phi c b = phi c b') : b = b' := by
  rcases Nat.lt_trichotomy b b' with q | q | q
  · have := phi_lt c1 c2 q; omega
  · exact q
  · have := phi_lt c1 c2 q; omega
theorem phi_256 {c r b : Nat} (c1 : 1 ≤ c) (c2 : c ≤ 16) (r2 : r ≤ 16) (h : b < c * r) : phi c b < 256 ∧ b / c < r ∧ b % c < c := by
  have h1 : b / c < r := (Nat.div_lt_iff_lt_mul (by omega)).mpr (by rw [Nat.mul_comm]; exact h)
  have h2 : b % c < c := Nat.mod_lt _ (by omega)
  unfold phi
  omega
/-- a changed block of the model has its number in the class -/
theorem phi_onto {c r : Nat} {D : Nat → Nat → Nat} {noise k : Nat} (c1 : 1 ≤ c) (c2 : c ≤ 16) (h : chB c r D noise k = true) : ∃ b, b < c * r ∧ phi c b = k := by
  have h := of_decide_eq_true h
  refine ⟨k / 16 * c + k % 16, ?_, ?_⟩
  · have : (k / 16 + 1) * c ≤ r * c := Nat.mul_le_mul_right c (by omega)
    rw [Nat.succ_mul] at this
    rw [Nat.mul_comm c r]
    omega
  · rw [(phi_at c2 h.1).1]
    omega
section CG
variable {S : xS} {W H n : Nat} {m : mM} {B c r : Nat} {D : Nat → Nat → Nat} {noise n0 b0 lc : Nat} {P : Nat → Bool}
def mkP (lc a _j : Nat) : Bool := a == lc || a == 68
/-- the memory while a region is marked -/
def mkI (m0 s : mM) (P : Nat → Bool) (lc c N b0 n0 cnt turn : Nat) (wq : Nat → Nat) (Lab : Nat → Bool) : Prop := (∀ b, b < N → s.1 lc b = if Lab b = true then nI n0 else m0.1 lc b) ∧ (∀ a, a < cnt → s.1 68 a = nI (wq a) ∧ wq a < N ∧ Lab (wq a) = true) ∧ (∀ a a', a < a' → a' < cnt → wq a ≠ wq a') ∧ (∀ b, Lab b = true → b < N ∧ cn ba P (phi c b0) (phi c b)) ∧ turn + cnt = fb_ct Lab N ∧ fr (mkP lc) m0 s
/-- all whose neighbours are marked too, but one -/
def mkC2 (P : Nat → Bool) (c N cnt : Nat) (wq : Nat → Nat) (Lab : Nat → Bool) (ex : Nat) : Prop := ∀ b, Lab b = true → b ≠ ex → (∀ a, a < cnt → wq a ≠ b) → ∀ b', b' < N → ba (phi c b) (phi c b') → P (phi c b') = true → Lab b' = true
theorem join_s (hl : lc = 66 ∨ lc = 67) (hW8 : 8 ≤ W) (hW : W ≤ 64) (hH8 : 8 ≤ H) (hH : H ≤ 64) (hB : 4 ≤ B) (hB2 : B ≤ 16) (ec : c = coB W B) (er : r = coB H B) (c1 : 1 ≤ c) (c2 : c ≤ 16) (r1 : 1 ≤ r) (r2 : r ≤ 16) {m0 : mM} (eP : P = chB c r D noise) (e9 : m0.1 64 9 = nI c) (e10 : m0.1 64 10 = nI r) (e65 : ∀ b, b < c * r → m0.1 65 b = nI (D (b % c) (b / c))) (hD : ∀ i j, D i j ≤ 4096) (hn : noise ≤ 256) (hn0 : n0 ≤ 256) (hV : ∀ b, b < c * r → cn ba P (phi c b0) (phi c b) → m0.1 lc b = -1) {cnt turn : Nat} {wq : Nat → Nat} {Lab : Nat → Bool} (J : mkI m0 m P lc c (c * r) b0 n0 cnt turn wq Lab) (hc : cnt < 256) {ex : Nat} (X : mkC2 P c (c * r) cnt wq Lab ex) {x y : Int} (x1 : 0 ≤ x) (x2 : x < c) (y1 : -1 ≤ y) (y2 : y ≤ r) (ad : ∀ k : Nat, (k : Int) = y * c + x → cn ba P (phi c b0) (phi c k) ∨ P (phi c k) = false) :
    ∃ m' cnt' wq' Lab', xM S mX1_join [.ref 64, .int (zI (y * c + x)), .int (nI n0), .int (nI noise), .ref lc, .int (nI cnt)] (E W H n m) = some (.inl (some (.int (nI cnt'))), E W H n m', 0, 0) ∧ mkI m0 m' P lc c (c * r) b0 n0 cnt' turn wq' Lab' ∧ mkC2 P c (c * r) cnt' wq' Lab' ex ∧ (∀ b, Lab b = true → Lab' b = true) ∧ ∀ k : Nat, (k : Int) = y * c + x → k < c * r → P (phi c k) = true → Lab' k = true := by
  obtain ⟨g1, g2, g3, g4, g5, g6⟩ := J
  have J : mkI m0 m P lc c (c * r) b0 n0 cnt turn wq Lab := ⟨g1, g2, g3, g4, g5, g6⟩
  have ar : c * r ≤ 16 * 16 := Nat.mul_le_mul c2 r2
  have hkl : eK lc = (1, 256) := by rcases hl with rfl | rfl <;> rfl
  have hcl : eCc lc = false := by rcases hl with rfl | rfl <;> rfl
  have zl : 256 = eL H lc := by rcases hl with rfl | rfl <;> rfl
  have z65 : 256 = eL H 65 := rfl
  have z68 : 256 = eL H 68 := rfl
  have l64 : mkP lc 64 9 = false ∧ mkP lc 64 10 = false ∧ ∀ j, mkP lc 65 j = false := by rcases hl with rfl | rfl <;> exact ⟨rfl, rfl, fun _ => rfl⟩
  have f9 : m.1 64 9 = nI c := by rw [fr_i g6 64 9 l64.1]; exact e9
  have f10 : m.1 64 10 = nI r := by rw [fr_i g6 64 10 l64.2.1]; exact e10
  have bc := blockCount_s (S := S) (n := n) (m := m) hW8 hW hH8 hH hB hB2 (by rw [← ec]; exact f9) (by rw [← er]; exact f10)
  rw [← ec, ← er] at bc
  have stay : ∀ (no : ∀ k : Nat, (k : Int) = y * c + x → k < c * r → P (phi c k) = true → Lab k = true), xM S mX1_join [.ref 64, .int (zI (y * c + x)), .int (nI n0), .int (nI noise), .ref lc, .int (nI cnt)] (E W H n m) = some (.inl (some (.int (nI cnt))), E W H n m, 0, 0) → ∃ m' cnt' wq' Lab', xM S mX1_join [.ref 64, .int (zI (y * c + x)), .int (nI n0), .int (nI noise), .ref lc, .int (nI cnt)] (E W H n m) = some (.inl (some (.int (nI cnt'))), E W H n m', 0, 0) ∧ mkI m0 m' P lc c (c * r) b0 n0 cnt' turn wq' Lab' ∧ mkC2 P c (c * r) cnt' wq' Lab' ex ∧ (∀ b, Lab b = true → Lab' b = true) ∧ ∀ k : Nat, (k : Int) = y * c + x → k < c * r → P (phi c k) = true → Lab' k = true := fun no run => ⟨m, cnt, wq, Lab, run, J, X, fun b h => h, no⟩
  have yc : y * c ≤ 16 * 16 ∧ -16 ≤ y * c := by
    have h1 : y * c ≤ 16 * c := Int.mul_le_mul_of_nonneg_right (by omega) (by omega)
    have h2 : -1 * (c : Int) ≤ y * c := Int.mul_le_mul_of_nonneg_right y1 (by omega)
    omega
  by_cases lo : y < 0
  · have neg : y * c + x < 0 := by
      have : y * c ≤ -1 * (c : Int) := Int.mul_le_mul_of_nonneg_right (by omega) (by omega)
      omega
    refine stay (fun k e _ _ => by omega) (w_X1_join S _ _ _ _ _ _ _ _ ?_)
    refine c_ift ((i_lt0 _).mpr (by rw [zI_t (by omega) (by omega)]; exact neg)) ?_
    rfl
  · have nn : 0 ≤ y * c := Int.mul_nonneg (by omega) (by omega)
    obtain ⟨k, ek⟩ : ∃ k : Nat, (k : Int) = y * c + x := ⟨(y * c + x).toNat, by omega⟩
    have ekz : zI (y * c + x) = nI k := by rw [← ek, zI_n (by omega)]
    rw [ekz]
    rw [ekz] at stay
    have notneg : ¬ nI k < 0 := nI_pos (by omega)
    by_cases hi : c * r ≤ k
    · refine stay (fun k' e h _ => by omega) (w_X1_join S _ _ _ _ _ _ _ _ ?_)
      refine c_iff notneg ?_
      refine c_ob (by omega) (by rfl) ?_
      refine c_qI bc ?_
      refine c_ift ((nI_leI (by omega) (by omega)).mpr hi) ?_
      rfl
    · have hk : k < c * r := by omega
      have eD := e65 k hk
      have gk := g1 k hk
      have hDk := hD (k % c) (k / c)
      obtain ⟨p256, pr, pcl⟩ := phi_256 c1 c2 r2 hk
      obtain ⟨pm1, pm2⟩ := phi_m (b := k) c1 c2
      have Pk : P (phi c k) = decide (noise < D (k % c) (k / c)) := by
        rw [eP]
        unfold chB
        rw [pm1, pm2]
        exact decide_eq_decide.mpr (by omega)
      have to : ∀ {o : xO}, ((xRi (E W H n m) 0 lc (nI k)).bind fun v6 => if 0 ≤ v6 then (some (.inl (some (.int (nI cnt))), (E W H n m), 0, 0)) else ((xGr (E W H n m) 64 1 11).bind fun v7 => (xRi (E W H n m) 0 v7 (nI k)).bind fun v8 => if nI noise < v8 then ((xWi (E W H n m) lc (nI k) (nI n0)).bind fun h9 => (xGr h9 64 1 14).bind fun v10 => (xWi h9 v10 (nI cnt) (nI k)).bind fun h11 => some (.inl (some (.int (nI cnt + (1 : Int32)))), h11, 0, 0)) else (some (.inl (some (.int (nI cnt))), (E W H n m), 0, 0)))) = some o → xM S mX1_join [.ref 64, .int (nI k), .int (nI n0), .int (nI noise), .ref lc, .int (nI cnt)] (E W H n m) = some o := fun {o} ho => by
        refine w_X1_join S _ _ _ _ _ _ _ _ ?_
        refine c_iff notneg ?_
        refine c_ob (by omega) (by rfl) ?_
        refine c_qI bc ?_
        refine c_iff (fun w => by have := (nI_leI (by omega) (by omega)).mp w; omega) ?_
        refine c_iff (nI_pos (by omega)) ?_
        refine c_gr (by omega) (by rfl) (by rfl) (by rfl) ?_
        refine c_rz (by omega) (by rfl) z68 ?_
        refine c_ift ((nI_ltI (by omega) (by omega)).mpr hc) ?_
        exact ho
      have rl : ∀ {F : Int32 → Option xO} {R : Option xO}, F (m.1 lc k) = R → (xRi (E W H n m) 0 lc (nI k)).bind F = R := fun {F R} h => c_ri (i := k) (by rcases hl with rfl | rfl <;> omega) hkl hcl (by rfl) (by rw [← zl]; omega) (by rw [← zl]; decide) (by decide) h
      have r65 : m.1 65 k = nI (D (k % c) (k / c)) := by rw [fr_i g6 65 k (l64.2.2 k)]; exact eD
      by_cases lab : Lab k = true
      · rw [if_pos lab] at gk
        refine stay (fun k' e _ _ => by rw [show k' = k by omega]; exact lab) (to (rl ?_))
        rw [gk]
        refine c_ift (nI_pos' (by omega)) ?_
        rfl
      · rw [if_neg lab] at gk
        by_cases dn : noise < D (k % c) (k / c)
        · rw [decide_eq_true dn] at Pk
          have ck : cn ba P (phi c b0) (phi c k) := by
            rcases ad k ek with w | w
            · exact w
            · rw [w] at Pk; cases Pk
          rw [hV k hk ck] at gk
          have labf : Lab k = false := by
            cases h : Lab k
            · rfl
            · exact absurd h lab
          refine ⟨sI (sI m lc k (nI n0)) 68 cnt (nI k), cnt + 1, fun a => if a = cnt then k else wq a, fun b => if b = k then true else Lab b, to (rl ?_), ⟨fun b hb => ?_, fun a ha => ?_, fun a a' h1 h2 => ?_, fun b h => ?_, ?_, fr_sI (fr_sI g6 (by unfold mkP; rw [beq_self_eq_true, Bool.true_or])) (by unfold mkP; rw [show (68 == 68) = true from rfl, Bool.or_true])⟩, fun b h1 h2 h3 b' h4 h5 h6 => ?_, fun b h => by
            (try dsimp only)
            by_cases e : b = k
            · rw [if_pos e]
            · rw [if_neg e]; exact h, fun k' e _ _ => by (try dsimp only); rw [if_pos (show k' = k by omega)]⟩
          · rw [gk]
            refine c_iff (by decide) ?_
            refine c_gr (by omega) (by rfl) (by rfl) (by rfl) ?_
            refine c_ri (i := k) (by omega) (by rfl) (by rfl) (by rfl) (by first | omega | ((conv => rhs; whnf); first | omega | (show _ < OfNat.ofNat (α := Nat) _; omega))) (by first | omega | ((conv => lhs; whnf); first | omega | (show OfNat.ofNat (α := Nat) _ < _; omega))) (by decide) ?_
            rw [r65]
            refine c_ift ((nI_ltI (by omega) (by omega)).mpr dn) ?_
            refine c_wi (i := k) (by rcases hl with rfl | rfl <;> omega) hkl hcl (by rfl) (by rw [← zl]; omega) (by rw [← zl]; decide) ?_
            refine c_gr (by omega) (by rfl) (by rfl) (by rfl) ?_
            refine c_wi (i := cnt) (by omega) (by rfl) (by rfl) (by rfl) (by first | omega | ((conv => rhs; whnf); first | omega | (show _ < OfNat.ofNat (α := Nat) _; omega))) (by first | omega | ((conv => lhs; whnf); first | omega | (show OfNat.ofNat (α := Nat) _ < _; omega))) ?_
            rw [show (1 : Int32) = nI 1 from rfl, nI_add]
          · have nl : ¬ (lc = 68 ∧ b = cnt) := by rcases hl with rfl | rfl <;> omega
            rw [sI_ne nl]
            by_cases e : b = k
            · rw [e, sI_eq ⟨rfl, rfl⟩]
              exact (if_pos (if_pos rfl)).symm
            · rw [sI_ne (fun w => e w.2)]
              refine (g1 b hb).trans ?_
              by_cases l : Lab b = true
              · rw [if_pos l]
                exact (if_pos ((if_neg e).trans l)).symm
              · rw [if_neg l]
                exact (if_neg (fun w => l ((if_neg e).symm.trans w))).symm
          · have nl : ∀ z, ¬ (68 = lc ∧ z = k) := fun z => by rcases hl with rfl | rfl <;> omega
            (try dsimp only)
            by_cases e : a = cnt
            · rw [e, if_pos rfl, sI_eq ⟨rfl, rfl⟩]
              exact ⟨rfl, hk, if_pos rfl⟩
            · rw [if_neg e, sI_ne (fun w => e w.2), sI_ne (nl a)]
              obtain ⟨q1, q2, q3⟩ := g2 a (by omega)
              refine ⟨q1, q2, ?_⟩
              by_cases e2 : wq a = k
              · rw [if_pos e2]
              · rw [if_neg e2]; exact q3
          · (try dsimp only)
            rw [if_neg (show ¬ a = cnt by omega)]
            by_cases e : a' = cnt
            · rw [if_pos e]
              intro w
              have := (g2 a (by omega)).2.2
              rw [w] at this
              exact lab this
            · rw [if_neg e]; exact g3 a a' h1 (by omega)
          · (try dsimp only at h)
            by_cases e : b = k
            · rw [e]; exact ⟨hk, ck⟩
            · rw [if_neg e] at h; exact g4 b h
          · have := fb_ct_upd Lab true hk
            rw [labf, if_neg (by decide), if_pos rfl] at this
            omega
          · (try dsimp only at h1 h3 ⊢)
            by_cases e : b = k
            · exact absurd (show (if cnt = cnt then k else wq cnt) = b by rw [if_pos rfl]; exact e.symm) (h3 cnt (by omega))
            · rw [if_neg e] at h1
              have := X b h1 h2 (fun a ha w => h3 a (by omega) (by rw [if_neg (by omega)]; exact w)) b' h4 h5 h6
              by_cases e' : b' = k
              · rw [if_pos e']
              · rw [if_neg e']; exact this
        · rw [decide_eq_false dn] at Pk
          refine stay (fun k' e _ p => by rw [show k' = k by omega, Pk] at p; cases p) (to (rl ?_))
          by_cases nn : 0 ≤ m.1 lc k
          · refine c_ift nn ?_
            rfl
          · refine c_iff nn ?_
            refine c_gr (by omega) (by rfl) (by rfl) (by rfl) ?_
            refine c_ri (i := k) (by omega) (by rfl) (by rfl) (by rfl) (by first | omega | ((conv => rhs; whnf); first | omega | (show _ < OfNat.ofNat (α := Nat) _; omega))) (by first | omega | ((conv => lhs; whnf); first | omega | (show OfNat.ofNat (α := Nat) _ < _; omega))) (by decide) ?_
            rw [r65]
            refine c_iff (fun w => dn ((nI_ltI (by omega) (by omega)).mp w)) ?_
            rfl
end CG

/-! REGIONS: the class groups its blocks; the least noise -/
section CH
variable {S : xS} {W H n : Nat} {m : mM} {B c r : Nat} {D : Nat → Nat → Nat} {noise n0 b0 lc : Nat} {P : Nat → Bool}
theorem mark_s (hl : lc = 66 ∨ lc = 67) (hW8 : 8 ≤ W) (hW : W ≤ 64) (hH8 : 8 ≤ H) (hH : H ≤ 64) (hB : 4 ≤ B) (hB2 : B ≤ 16) (ec : c = coB W B) (er : r = coB H B) (c1 : 1 ≤ c) (c2 : c ≤ 16) (r1 : 1 ≤ r) (r2 : r ≤ 16) (eP : P = chB c r D noise) (e9 : m.1 64 9 = nI c) (e10 : m.1 64 10 = nI r) (e65 : ∀ b, b < c * r → m.1 65 b = nI (D (b % c) (b / c))) (hD : ∀ i j, D i j ≤ 4096) (hn : noise ≤ 256) (hn0 : n0 ≤ 256) (hb : b0 < c * r) (hPb : P (phi c b0) = true) (hV : ∀ b, b < c * r → cn ba P (phi c b0) (phi c b) → m.1 lc b = -1) :
    ∃ m', xM S mX1_mark [.ref 64, .int (nI b0), .int (nI n0), .int (nI noise), .ref lc] (E W H n m) = some (.inl none, E W H n m', 0, 0) ∧ (∀ b, b < c * r → m'.1 lc b = if pB (cn ba P (phi c b0) (phi c b)) = true then nI n0 else m.1 lc b) ∧ fr (mkP lc) m m' := by
  have ar : c * r ≤ 16 * 16 := Nat.mul_le_mul c2 r2
  have z68 : 256 = eL H 68 := rfl
  obtain ⟨p256, pr, pcl⟩ := phi_256 c1 c2 r2 hb
  have J0 : mkI m m P lc c (c * r) b0 n0 0 0 (fun _ => 0) (fun _ => false) := ⟨fun b _ => (if_neg Bool.false_ne_true).symm, fun a ha => absurd ha (Nat.not_lt_zero a), fun a a' _ h => absurd h (Nat.not_lt_zero a'), fun b h => (by cases h), by rw [fb_ct_zero.mpr (fun _ _ => rfl)], fr_rf⟩
  have X0 : mkC2 P c (c * r) 0 (fun _ => 0) (fun _ => false) (c * r) := fun b h => by cases h
  have b0e : (b0 : Int) = ((b0 / c : Nat) : Int) * c + ((b0 % c : Nat) : Int) := by
    have := Nat.div_add_mod b0 c
    rw [Nat.mul_comm] at this
    rw [← Int.natCast_mul]
    omega
  obtain ⟨m1, cnt1, wq1, Lab1, k1, k2, k3, k4, k5⟩ := join_s (S := S) (n := n) hl hW8 hW hH8 hH hB hB2 ec er c1 c2 r1 r2 eP e9 e10 e65 hD hn hn0 hV J0 (by decide) X0 (x := ((b0 % c : Nat) : Int)) (y := ((b0 / c : Nat) : Int)) (Int.natCast_nonneg _) (Int.ofNat_lt.mpr pcl) (Int.le_trans (by decide) (Int.natCast_nonneg _)) (Int.ofNat_le.mpr (Nat.le_of_lt pr)) (fun k e => by
    rw [← b0e] at e
    rw [show k = b0 by omega]
    exact Or.inl cn_rf)
  rw [← b0e, zI_n (by omega)] at k1
  have k5 := k5 b0 b0e hb hPb
  have L := x_sw (σ := mM × Nat × Nat × (Nat → Nat) × (Nat → Bool)) (τ := mM) (D := fun s => xden S mX1_mark 15 [(0, .ref 64), (2, .int (nI n0)), (3, .int (nI noise)), (4, .ref lc), (5, .int (nI s.2.1)), (6, .int (nI s.2.2.1))] [] (E W H n s.1)) (Inv := fun s => mkI m s.1 P lc c (c * r) b0 n0 s.2.1 s.2.2.1 s.2.2.2.1 s.2.2.2.2 ∧ mkC2 P c (c * r) s.2.1 s.2.2.2.1 s.2.2.2.2 (c * r) ∧ s.2.2.2.2 b0 = true)
    (F := fun s => some (.inl none, E W H n s, 0, 0)) (Post := fun s => (∀ b, b < c * r → s.1 lc b = if pB (cn ba P (phi c b0) (phi c b)) = true then nI n0 else m.1 lc b) ∧ fr (mkP lc) m s) (fun s => 257 - s.2.2.1) (fun s hs => ?_) (m1, cnt1, 0, wq1, Lab1) ⟨k2, k3, k5⟩
  · obtain ⟨m', g1, g2⟩ := L
    refine ⟨m', w_X1_mark S _ _ _ _ _ _ _ ?_, g1.1, g1.2⟩
    refine c_ob (by omega) (by rfl) ?_
    refine c_qI k1 ?_
    exact g2 _ rfl
  · obtain ⟨s, cnt, turn, wq, Lab⟩ := s
    obtain ⟨J, X, L0⟩ := hs
    (try dsimp only at J X L0 ⊢)
    obtain ⟨g1, g2, g3, g4, g5, g6⟩ := J
    have ctl := fb_ct_le Lab (c * r)
    by_cases e : cnt = 0
    · right
      refine ⟨s, ⟨fun b hb' => ?_, g6⟩, fun o ho => w_X1_mark_15 S _ _ _ _ _ _ _ _ ?_⟩
      · rw [g1 b hb']
        have iff : Lab b = true ↔ pB (cn ba P (phi c b0) (phi c b)) = true := by
          rw [pB_iff]
          refine ⟨fun h => (g4 b h).2, fun w => ?_⟩
          obtain ⟨b', h1, h2, h3⟩ := w (fun k => ∃ b', b' < c * r ∧ phi c b' = k ∧ Lab b' = true) ⟨b0, hb, rfl, L0⟩ (fun i j ⟨bi, h1, h2, h3⟩ ad p => by
            have pj := p
            rw [eP] at pj
            obtain ⟨bj, j1, j2⟩ := phi_onto c1 c2 pj
            refine ⟨bj, j1, j2, X bi h3 (by omega) (fun a ha => by omega) bj j1 (by rw [h2, j2]; exact ad) (by rw [j2]; exact p)⟩)
          rw [← phi_one c1 c2 h2]
          exact h3
        by_cases w : Lab b = true
        · rw [if_pos w, if_pos (iff.mp w)]
        · rw [if_neg w, if_neg (fun v => w (iff.mpr v))]
      · rw [e]
        refine c_ift (by decide) ?_
        exact ho
    · left
      obtain ⟨q, eq⟩ : ∃ q, cnt = q + 1 := ⟨cnt - 1, by omega⟩
      subst eq
      obtain ⟨k, ek⟩ : ∃ k, k = wq q := ⟨_, rfl⟩
      obtain ⟨w1, w2, w3⟩ := g2 q (by omega)
      rw [← ek] at w1 w2 w3
      have ck := (g4 k w3).2
      have Pk : P (phi c k) = true := cn_P hPb ck
      obtain ⟨kp, kr, kc⟩ := phi_256 c1 c2 r2 w2
      obtain ⟨pm1, pm2⟩ := phi_m (b := k) c1 c2
      have kd : k = k / c * c + k % c := by
        have := Nat.div_add_mod k c
        rw [Nat.mul_comm] at this
        exact this.symm
      have kz : (k : Int) = ((k / c : Nat) : Int) * c + ((k % c : Nat) : Int) := by
        rw [← Int.natCast_mul]
        omega
      have Ja : mkI m s P lc c (c * r) b0 n0 q (turn + 1) wq Lab := ⟨g1, fun a ha => g2 a (by omega), fun a a' h1 h2 => g3 a a' h1 (by omega), g4, by omega, g6⟩
      have Xa : mkC2 P c (c * r) q wq Lab k := fun b h1 h2 h3 b' h4 h5 h6 => X b h1 (by have := (g4 b h1).1; omega) (fun a ha w => by
        by_cases e2 : a = q
        · rw [e2, ← ek] at w; exact h2 w.symm
        · exact h3 a (by omega) w) b' h4 h5 h6
      have nb : ∀ {k' : Nat}, ba (phi c k) (phi c k') → cn ba P (phi c b0) (phi c k') ∨ P (phi c k') = false := fun {k'} h => by
        cases hp : P (phi c k')
        · exact Or.inr rfl
        · exact Or.inl (cn_st ck h hp)
      -- the four neighbours
      have L : ∃ m' cnt' wq' Lab', mkI m m' P lc c (c * r) b0 n0 cnt' (turn + 1) wq' Lab' ∧ mkC2 P c (c * r) cnt' wq' Lab' k ∧ (∀ b, Lab b = true → Lab' b = true) ∧ (∀ k' : Nat, 0 < k % c → k' = k - 1 → P (phi c k') = true → Lab' k' = true) ∧ ((0 < k % c → xM S mX1_join [.ref 64, .int (nI k - (1 : Int32)), .int (nI n0), .int (nI noise), .ref lc, .int (nI q)] (E W H n s) = some (.inl (some (.int (nI cnt'))), E W H n m', 0, 0)) ∧ (¬ 0 < k % c → m' = s ∧ cnt' = q)) := by
        by_cases d : 0 < k % c
        · obtain ⟨m2, cnt2, wq2, Lab2, j1, j2, j3, j4, j5⟩ := join_s (S := S) (n := n) hl hW8 hW hH8 hH hB hB2 ec er c1 c2 r1 r2 eP e9 e10 e65 hD hn hn0 hV Ja (by omega) Xa (x := ((k % c : Nat) : Int) - 1) (y := ((k / c : Nat) : Int)) (by omega) (by omega) (by omega) (by omega) (fun k' e' => by
            have ek' : k' = k / c * c + (k % c - 1) := by
              rw [← Int.natCast_mul] at e'
              omega
            have ph := phi_at (c := c) (q := k / c) (r := k % c - 1) c2 (by omega)
            rw [← ek'] at ph
            refine nb ?_
            unfold ba
            rw [pm1, pm2, ph.1]
            omega)
          have ez : zI (((k / c : Nat) : Int) * c + (((k % c : Nat) : Int) - 1)) = nI k - (1 : Int32) := by
            rw [show ((k / c : Nat) : Int) * c + (((k % c : Nat) : Int) - 1) = (k : Int) - 1 by rw [kz]; omega, show (1 : Int32) = zI 1 from rfl, ← zI_n (show k < 2147483648 by omega), zI_sub (by omega) (by omega) (by omega) (by omega)]
          rw [ez] at j1
          exact ⟨m2, cnt2, wq2, Lab2, j2, j3, j4, fun k' _ e' p => j5 k' (by rw [show ((k / c : Nat) : Int) * c + (((k % c : Nat) : Int) - 1) = (k : Int) - 1 by rw [kz]; omega]; omega) (by omega) p, fun _ => j1, fun h => absurd d h⟩
        · exact ⟨s, q, wq, Lab, Ja, Xa, fun b h => h, fun k' h => absurd h d, fun h => absurd h d, fun _ => ⟨rfl, rfl⟩⟩
      obtain ⟨mL, cL, wL, LL, La, Lb, Lc, Ld, Le, Lf⟩ := L
      have R : ∃ m' cnt' wq' Lab', mkI m m' P lc c (c * r) b0 n0 cnt' (turn + 1) wq' Lab' ∧ mkC2 P c (c * r) cnt' wq' Lab' k ∧ (∀ b, LL b = true → Lab' b = true) ∧ (∀ k' : Nat, k % c + 1 < c → k' = k + 1 → k' < c * r → P (phi c k') = true → Lab' k' = true) ∧ ((k % c + 1 < c → xM S mX1_join [.ref 64, .int (nI k + (1 : Int32)), .int (nI n0), .int (nI noise), .ref lc, .int (nI cL)] (E W H n mL) = some (.inl (some (.int (nI cnt'))), E W H n m', 0, 0)) ∧ (¬ k % c + 1 < c → m' = mL ∧ cnt' = cL)) := by
        have ctl2 := fb_ct_le LL (c * r)
        have sum2 := La.2.2.2.2.1
        by_cases d : k % c + 1 < c
        · obtain ⟨m2, cnt2, wq2, Lab2, j1, j2, j3, j4, j5⟩ := join_s (S := S) (n := n) hl hW8 hW hH8 hH hB hB2 ec er c1 c2 r1 r2 eP e9 e10 e65 hD hn hn0 hV La (by omega) Lb (x := ((k % c : Nat) : Int) + 1) (y := ((k / c : Nat) : Int)) (by omega) (by omega) (by omega) (by omega) (fun k' e' => by
            have ek' : k' = k / c * c + (k % c + 1) := by
              rw [← Int.natCast_mul] at e'
              omega
            have ph := phi_at (c := c) (q := k / c) (r := k % c + 1) c2 (by omega)
            rw [← ek'] at ph
            refine nb ?_
            unfold ba
            rw [pm1, pm2, ph.1]
            omega)
          have ez : zI (((k / c : Nat) : Int) * c + (((k % c : Nat) : Int) + 1)) = nI k + (1 : Int32) := by
            rw [show ((k / c : Nat) : Int) * c + (((k % c : Nat) : Int) + 1) = (k : Int) + 1 by rw [kz]; omega, show (1 : Int32) = zI 1 from rfl, ← zI_n (show k < 2147483648 by omega), zI_add]
          rw [ez] at j1
          exact ⟨m2, cnt2, wq2, Lab2, j2, j3, j4, fun k' _ e' h p => j5 k' (by rw [show ((k / c : Nat) : Int) * c + (((k % c : Nat) : Int) + 1) = (k : Int) + 1 by rw [kz]; omega]; omega) h p, fun _ => j1, fun h => absurd d h⟩
        · exact ⟨mL, cL, wL, LL, La, Lb, fun b h => h, fun k' h => absurd h d, fun h => absurd h d, fun _ => ⟨rfl, rfl⟩⟩
      obtain ⟨mR, cR, wR, LR, Ra, Rb, Rc, Rd, Re, Rf⟩ := R
      have ctR := fb_ct_le LR (c * r)
      have sumR := Ra.2.2.2.2.1
      obtain ⟨mU, cU, wU, LU, u1, u2, u3, u4, u5⟩ := join_s (S := S) (n := n) hl hW8 hW hH8 hH hB hB2 ec er c1 c2 r1 r2 eP e9 e10 e65 hD hn hn0 hV Ra (by omega) Rb (x := ((k % c : Nat) : Int)) (y := ((k / c : Nat) : Int) - 1) (by omega) (by omega) (by omega) (by omega) (fun k' e' => by
        rw [Int.sub_mul, Int.one_mul] at e'
        have q1 : 1 ≤ k / c := by
          rcases Nat.eq_zero_or_pos (k / c) with z | z
          · rw [z] at e'
            omega
          · exact z
        obtain ⟨z, ez⟩ : ∃ z, k / c = z + 1 := ⟨k / c - 1, by omega⟩
        have ek' : k' = z * c + k % c := by
          rw [ez, ← Int.natCast_mul, Nat.succ_mul] at e'
          omega
        have ph := phi_at (c := c) (q := z) (r := k % c) c2 (by omega)
        rw [← ek'] at ph
        refine nb ?_
        unfold ba
        rw [pm1, pm2, ph.1]
        omega)
      have ezU : zI ((((k / c : Nat) : Int) - 1) * c + ((k % c : Nat) : Int)) = nI k - nI c := by
        rw [show (((k / c : Nat) : Int) - 1) * c + ((k % c : Nat) : Int) = (k : Int) - c by rw [Int.sub_mul, Int.one_mul, kz]; omega, ← zI_n (show k < 2147483648 by omega), ← zI_n (show c < 2147483648 by omega), zI_sub (by omega) (by omega) (by omega) (by omega)]
      rw [ezU] at u1
      have ctU := fb_ct_le LU (c * r)
      have sumU := u2.2.2.2.2.1
      obtain ⟨mD, cD, wD, LD, d1, d2, d3, d4, d5⟩ := join_s (S := S) (n := n) hl hW8 hW hH8 hH hB hB2 ec er c1 c2 r1 r2 eP e9 e10 e65 hD hn hn0 hV u2 (by omega) u3 (x := ((k % c : Nat) : Int)) (y := ((k / c : Nat) : Int) + 1) (by omega) (by omega) (by omega) (by omega) (fun k' e' => by
        have ek' : k' = (k / c + 1) * c + k % c := by
          rw [Int.add_mul, Int.one_mul, ← Int.natCast_mul] at e'
          rw [Nat.succ_mul]
          omega
        have ph := phi_at (c := c) (q := k / c + 1) (r := k % c) c2 (by omega)
        rw [← ek'] at ph
        refine nb ?_
        unfold ba
        rw [pm1, pm2, ph.1]
        omega)
      have ezD : zI ((((k / c : Nat) : Int) + 1) * c + ((k % c : Nat) : Int)) = nI k + nI c := by
        rw [show (((k / c : Nat) : Int) + 1) * c + ((k % c : Nat) : Int) = (k : Int) + c by rw [Int.add_mul, Int.one_mul, kz]; omega, ← zI_n (show k < 2147483648 by omega), ← zI_n (show c < 2147483648 by omega), zI_add]
      rw [ezD] at d1
      have ctD := fb_ct_le LD (c * r)
      have sumD := d2.2.2.2.2.1
      refine ⟨(mD, cD, turn + 1, wD, LD), ⟨d2, fun b h1 h2 h3 b' h4 h5 h6 => ?_, d4 _ (u4 _ (Rc _ (Lc _ L0)))⟩, by (try dsimp only); omega, fun o ho => ?_⟩
      · by_cases e2 : b = k
        · subst e2
          obtain ⟨bm1, bm2⟩ := phi_m (b := b') c1 c2
          have bd : b' = b' / c * c + b' % c := by
            have := Nat.div_add_mod b' c
            rw [Nat.mul_comm] at this
            exact this.symm
          unfold ba at h5
          rw [pm1, pm2, bm1, bm2] at h5
          rcases h5 with ⟨q1, q2 | q2⟩ | ⟨q1, q2 | q2⟩
          · refine d4 _ (u5 b' ?_ h4 h6)
            rw [q2, Nat.succ_mul] at kd
            rw [show (((b / c : Nat) : Int) - 1) * c + ((b % c : Nat) : Int) = (b : Int) - c by rw [Int.sub_mul, Int.one_mul, kz]; omega]
            omega
          · refine d5 b' ?_ h4 h6
            rw [q2, Nat.succ_mul] at bd
            rw [show (((b / c : Nat) : Int) + 1) * c + ((b % c : Nat) : Int) = (b : Int) + c by rw [Int.add_mul, Int.one_mul, kz]; omega]
            omega
          · refine d4 _ (u4 _ (Rc _ (Ld b' (by omega) ?_ h6)))
            rw [← q1] at bd
            omega
          · refine d4 _ (u4 _ (Rd b' (by have := Nat.mod_lt b' (show 0 < c by omega); omega) ?_ h4 h6))
            rw [← q1] at bd
            omega
        · exact d3 b h1 e2 h3 b' h4 h5 h6
      · have rm : nI k - nI k / nI c * nI c = nI (k % c) := pk_rem (by omega) (by omega) (by omega)
        have mc := max_n S (E W H n s) (x := 1) (y := c) (by omega) (by omega)
        rw [show max 1 c = c by omega] at mc
        have l9 : ∀ {s' : mM}, fr (mkP lc) m s' → s'.1 64 9 = nI c := fun {s'} F => by
          rw [fr_i F 64 9 (by rcases hl with rfl | rfl <;> rfl)]
          exact e9
        have s9 := l9 g6
        have L9 := l9 La.2.2.2.2.2
        have R9 := l9 Ra.2.2.2.2.2
        have U9 := l9 u2.2.2.2.2.2
        have t1 : nI (turn + 1) = nI turn + (1 : Int32) := by rw [show (1 : Int32) = nI 1 from rfl, nI_add]
        have fin : ((xGi (E W H n mR) 64 1 9).bind fun v33 => if xOb (E W H n mR) 64 1 = true then xqI (xM S mX1_join [.ref 64, .int (nI k - v33), .int (nI n0), .int (nI noise), .ref lc, .int (nI cR)] (E W H n mR)) xth fun v37 h36 => (xGi h36 64 1 9).bind fun v38 => if xOb h36 64 1 = true then xqI (xM S mX1_join [.ref 64, .int (nI k + v38), .int (nI n0), .int (nI noise), .ref lc, .int v37] h36) xth fun v41 h40 => xlet (nI turn + (1 : Int32)) fun v42 => (xden S mX1_mark 15 [(0, .ref 64), (2, .int (nI n0)), (3, .int (nI noise)), (4, .ref lc), (5, .int v41), (6, .int v42)] [] h40) else none else none) = some o := by
          refine c_gi (by omega) (by rfl) (by rfl) (by rfl) ?_
          rw [R9]
          refine c_ob (by omega) (by rfl) ?_
          refine c_qI u1 ?_
          refine c_gi (by omega) (by rfl) (by rfl) (by rfl) ?_
          rw [U9]
          refine c_ob (by omega) (by rfl) ?_
          refine c_qI d1 ?_
          refine c_let ?_
          rw [← t1]
          exact ho
        have dec : nI (q + 1) + (-1 : Int32) = nI q := by
          rw [← zI_n (show q + 1 < 2147483648 by omega), show (-1 : Int32) = zI (-1) from rfl, zI_add, ← zI_n (by omega)]
          congr 1
          omega
        refine w_X1_mark_15 S _ _ _ _ _ _ _ _ ?_
        refine c_iff (fun w => by have := (nI_leI (b := 0) (by omega) (by omega)).mp w; omega) ?_
        refine c_iff (fun w => by have := (nI_leI (a := 256) (by omega) (by omega)).mp w; omega) ?_
        refine c_let ?_
        refine c_gr (by omega) (by rfl) (by rfl) (by rfl) ?_
        rw [dec]
        refine c_ri (i := q) (by omega) (by rfl) (by rfl) (by rfl) (by first | omega | ((conv => rhs; whnf); first | omega | (show _ < OfNat.ofNat (α := Nat) _; omega))) (by first | omega | ((conv => lhs; whnf); first | omega | (show OfNat.ofNat (α := Nat) _ < _; omega))) (by decide) ?_
        refine c_gi (by omega) (by rfl) (by rfl) (by rfl) ?_
        rw [w1, s9]
        refine c_qI mc ?_
        refine c_iff (fun w => by have := (nI_eq (b := 0) (by omega) (by omega)).mp w; omega) ?_
        refine c_let ?_
        rw [rm]
        by_cases dl : 0 < k % c
        · have Le := Le dl
          refine c_iff (fun w => by have := (nI_leI (b := 0) (by omega) (by omega)).mp w; omega) ?_
          refine c_ob (by omega) (by rfl) ?_
          refine c_qI Le ?_
          refine c_gi (by omega) (by rfl) (by rfl) (by rfl) ?_
          rw [L9, show (1 : Int32) = nI 1 from rfl, nI_add]
          by_cases dr : k % c + 1 < c
          · have Re := Re dr
            refine c_iff (fun w => by have := (nI_leI (by omega) (by omega)).mp w; omega) ?_
            refine c_ob (by omega) (by rfl) ?_
            refine c_qI Re ?_
            exact fin
          · obtain ⟨rfl, rfl⟩ := Rf dr
            refine c_ift ((nI_leI (by omega) (by omega)).mpr (by omega)) ?_
            exact fin
        · obtain ⟨rfl, rfl⟩ := Lf dl
          refine c_ift ((nI_leI (b := 0) (by omega) (by omega)).mpr (by omega)) ?_
          refine c_gi (by omega) (by rfl) (by rfl) (by rfl) ?_
          rw [L9, show (1 : Int32) = nI 1 from rfl, nI_add]
          by_cases dr : k % c + 1 < c
          · have Re := Re dr
            refine c_iff (fun w => by have := (nI_leI (by omega) (by omega)).mp w; omega) ?_
            refine c_ob (by omega) (by rfl) ?_
            refine c_qI Re ?_
            exact fin
          · obtain ⟨rfl, rfl⟩ := Rf dr
            refine c_ift ((nI_leI (by omega) (by omega)).mpr (by omega)) ?_
            exact fin
theorem group_s (hl : lc = 66 ∨ lc = 67) (hW8 : 8 ≤ W) (hW : W ≤ 64) (hH8 : 8 ≤ H) (hH : H ≤ 64) (hB : 4 ≤ B) (hB2 : B ≤ 16) (X : blC m W H B D) (hD : ∀ i j, D i j ≤ 4096) (hn : noise ≤ 256) :
    ∃ m', xM S mX1_group [.ref 64, .int (nI noise), .ref lc] (E W H n m) = some (.inl (some (.int (nI (nS ba (chB (coB W B) (coB H B) D noise) 256)))), E W H n m', 0, 0) ∧ (∀ b, b < coB W B * coB H B → m'.1 lc b = labV (chB (coB W B) (coB H B) D noise) (phi (coB W B) b)) ∧ fr (mkP lc) m m' := by
  obtain ⟨x8, x9, x10, x65⟩ := X
  obtain ⟨c1, c2⟩ := coB_le hW8 hW hB hB2
  obtain ⟨r1, r2⟩ := coB_le hH8 hH hB hB2
  generalize ec : coB W B = c at *
  generalize er : coB H B = r at *
  obtain ⟨P, eP⟩ : ∃ P, P = chB c r D noise := ⟨_, rfl⟩
  rw [← eP]
  have ar : c * r ≤ 16 * 16 := Nat.mul_le_mul c2 r2
  have hkl : eK lc = (1, 256) := by rcases hl with rfl | rfl <;> rfl
  have hcl : eCc lc = false := by rcases hl with rfl | rfl <;> rfl
  have zl : 256 = eL H lc := by rcases hl with rfl | rfl <;> rfl
  have z65 : 256 = eL H 65 := rfl
  have lcn : lc < 147 + 5 * n := by rcases hl with rfl | rfl <;> omega
  have pl : ∀ y, mkP lc lc y = true := fun y => by unfold mkP; rw [beq_self_eq_true, Bool.true_or]
  have p64 : mkP lc 64 9 = false ∧ mkP lc 64 10 = false ∧ ∀ j, mkP lc 65 j = false := by rcases hl with rfl | rfl <;> exact ⟨rfl, rfl, fun _ => rfl⟩
  have nb256 := nS_256 P
  have ph0 : phi c 0 = 0 := by unfold phi; rw [Nat.zero_div, Nat.zero_mod]
  -- between two blocks of the class there is none
  have gap : ∀ b, b < c * r → ∀ s, phi c b + 1 ≤ s → s < phi c (b + 1) → P s = true → False := fun b _ s h1 h2 h3 => by
    rw [eP] at h3
    obtain ⟨b', _, e'⟩ := phi_onto c1 c2 h3
    rcases Nat.lt_trichotomy b' b with q | q | q
    · have := phi_lt c1 c2 q; omega
    · rw [q] at e'; omega
    · rcases Nat.lt_or_eq_of_le (show b + 1 ≤ b' from q) with q2 | q2
      · have := phi_lt c1 c2 q2; omega
      · rw [← q2] at e'; omega
  generalize h1 : aI m lc (fa_fill (fun _ => (-1 : Int32)) (m.1 lc) (c * r)) = m1
  have F1 : fr (mkP lc) m m1 := by rw [← h1]; exact fr_aI fr_rf pl
  have bc : xM S mX1_blockCount [.ref 64] (E W H n m) = some (.inl (some (.int (nI (c * r)))), E W H n m, 0, 0) := by
    have := blockCount_s (S := S) (n := n) (m := m) hW8 hW hH8 hH hB hB2 (by rw [ec]; exact x9) (by rw [er]; exact x10)
    rw [ec, er] at this
    exact this
  have L := x_sg (σ := mM) (τ := mM) (D := fun b s => xden S mX1_group 31 [(0, .ref 64), (1, .int (nI noise)), (2, .ref lc), (3, .int (nI (c * r))), (4, .int (nI (nS ba P (phi c b)))), (5, .int (nI b))] [] (E W H n s)) (Inv := fun b s => (∀ b', b' < c * r → s.1 lc b' = if pB (vs ba P (phi c b) (phi c b')) = true then labV P (phi c b') else -1) ∧ fr (mkP lc) m s)
    (F := fun s => some (.inl (some (.int (nI (nS ba P 256)))), E W H n s, 0, 0)) (Post := fun s => (∀ b, b < c * r → s.1 lc b = labV P (phi c b)) ∧ fr (mkP lc) m s) (c * r) (fun b hb s hs => ?_) (fun s hs => ?_) m1 ⟨fun b hb => by rw [← h1, aI_eq rfl, fa_fill_in hb, ph0, if_neg (fun w => vs_0 (pB_iff.mp w))], F1⟩
  · obtain ⟨m', k1, k2⟩ := L
    refine ⟨m', w_X1_group S _ _ _ _ _ ?_, k1.1, k1.2⟩
    have k2 := k2 _ rfl
    rw [ph0] at k2
    refine c_ob (by omega) (by rfl) ?_
    refine c_qI bc ?_
    refine x_fo (c * r) (fun k e => xden S mX1_group 8 [(0, .ref 64), (1, .int (nI noise)), (2, .ref lc), (3, .int (nI (c * r))), (4, .int (nI k))] [] (E W H n e)) (fun k => aI m lc (fa_fill (fun _ => (-1 : Int32)) (m.1 lc) k)) (by (try dsimp only); rw [fa_fill_0, aI_self m _ rfl]) (fun k hk ih => ?_) ?_
    · (try dsimp only at ih ⊢)
      rw [← sI_fill] at ih
      refine w_X1_group_8 S _ _ _ _ _ _ _ ?_
      refine c_iff (fun w => by have := (nI_leI (by omega) (by omega)).mp w; omega) ?_
      refine c_wi (i := k) lcn hkl hcl (by rfl) (by rw [← zl]; omega) (by rw [← zl]; decide) ?_
      refine c_let ?_
      rw [show (1 : Int32) = nI 1 from rfl, nI_add]
      exact ih
    · (try dsimp only)
      rw [h1]
      refine w_X1_group_8 S _ _ _ _ _ _ _ ?_
      refine c_ift ((nI_leI (by omega) (by omega)).mpr (Nat.le_refl _)) ?_
      exact k2
  · left
    obtain ⟨g1, g2⟩ := hs
    obtain ⟨p256, pr, pcl⟩ := phi_256 c1 c2 r2 hb
    obtain ⟨pm1, pm2⟩ := phi_m (b := b) c1 c2
    have up := phi_lt c1 c2 (show b < b + 1 from Nat.lt_succ_self b)
    have nm := nS_mono (A := ba) (P := P) (t := phi c b) (u := 256) (by omega)
    have skV : ∀ k, vs ba P (phi c (b + 1)) k ↔ vs ba P (phi c b + 1) k := fun k => vs_skip (by omega) (fun s h1 h2 h3 => absurd h3 (fun h3 => gap b hb s h1 h2 h3))
    have skN : nS ba P (phi c (b + 1)) = nS ba P (phi c b + 1) := nS_skip (by omega) (fun s h1 h2 h3 => absurd h3 (fun h3 => gap b hb s h1 h2 h3))
    have gb := g1 b hb
    have eD := x65 b hb
    have hDb := hD (b % c) (b / c)
    have rD : s.1 65 b = nI (D (b % c) (b / c)) := by rw [fr_i g2 65 b (p64.2.2 b)]; exact eD
    have Pb : P (phi c b) = decide (noise < D (b % c) (b / c)) := by
      rw [eP]
      unfold chB
      rw [pm1, pm2]
      exact decide_eq_decide.mpr (by omega)
    have old : (P (phi c b) = false ∨ vs ba P (phi c b) (phi c b)) → (∀ b', b' < c * r → s.1 lc b' = if pB (vs ba P (phi c (b + 1)) (phi c b')) = true then labV P (phi c b') else -1) ∧ nS ba P (phi c (b + 1)) = nS ba P (phi c b) := fun w => ⟨fun b' hb' => by
      rw [g1 b' hb']
      have : vs ba P (phi c (b + 1)) (phi c b') ↔ vs ba P (phi c b) (phi c b') := by
        rw [skV]
        rcases w with w | w
        · exact vs_no w
        · exact vs_old w
      rw [pB_cong this], by rw [skN, nS_no w]⟩
    have rl : ∀ {F : Int32 → Option xO} {R : Option xO}, F (s.1 lc b) = R → (xRi (E W H n s) 0 lc (nI b)).bind F = R := fun {F R} h => c_ri (i := b) lcn hkl hcl (by rfl) (by rw [← zl]; omega) (by rw [← zl]; decide) (by decide) h
    have inc : nI b + (1 : Int32) = nI (b + 1) := nI_add b 1
    by_cases v : vs ba P (phi c b) (phi c b)
    · obtain ⟨o1, o2⟩ := old (Or.inr v)
      have pv := vs_P v
      rw [if_pos (pB_iff.mpr v)] at gb
      unfold labV at gb
      rw [if_pos pv] at gb
      obtain ⟨_, _, _, _, _, ll⟩ := lbN_lt p256 pv
      refine ⟨s, ⟨o1, g2⟩, fun o ho => w_X1_group_31 S _ _ _ _ _ _ _ _ ?_⟩
      rw [o2] at ho
      refine c_iff (fun w => by have := (nI_leI (by omega) (by omega)).mp w; omega) ?_
      refine rl ?_
      rw [gb]
      refine c_ift (nI_pos' (by omega)) ?_
      refine c_let ?_
      rw [inc]
      exact ho
    · rw [if_neg (fun w => v (pB_iff.mp w))] at gb
      by_cases dn : noise < D (b % c) (b / c)
      · rw [decide_eq_true dn] at Pb
        have sdt : sd ba P (phi c b) = true := sd_iff.mpr ⟨Pb, v⟩
        have ny := nS_yes Pb v
        obtain ⟨s1, j1, j2, j3⟩ := mark_s (S := S) (n := n) (m := s) (b0 := b) (n0 := nS ba P (phi c b)) hl hW8 hW hH8 hH hB hB2 ec.symm er.symm c1 c2 r1 r2 eP (by rw [fr_i g2 64 9 p64.1]; exact x9) (by rw [fr_i g2 64 10 p64.2.1]; exact x10) (fun b' hb' => by rw [fr_i g2 65 b' (p64.2.2 b')]; exact x65 b' hb') hD hn (by omega) hb Pb (fun b' hb' cb => by
          rw [g1 b' hb', if_neg (fun w => v (vs_bk ba_sy (pB_iff.mp w) Pb cb))])
        refine ⟨s1, ⟨fun b' hb' => ?_, fr_tr g2 j3⟩, fun o ho => w_X1_group_31 S _ _ _ _ _ _ _ _ ?_⟩
        · rw [j2 b' hb', g1 b' hb']
          by_cases ck : cn ba P (phi c b) (phi c b')
          · rw [if_pos (pB_iff.mpr ck), if_pos (pB_iff.mpr ((skV _).mpr ((vs_new Pb).mpr (Or.inr ck))))]
            unfold labV
            rw [if_pos (cn_P Pb ck), lbN_of sdt ck p256]
          · rw [if_neg (fun w => ck (pB_iff.mp w))]
            rw [pB_cong (p := vs ba P (phi c (b + 1)) (phi c b')) (q := vs ba P (phi c b) (phi c b')) ⟨fun w => ((vs_new Pb).mp ((skV _).mp w)).resolve_right ck, fun w => (skV _).mpr ((vs_new Pb).mpr (Or.inl w))⟩]
        · rw [skN, ny] at ho
          refine c_iff (fun w => by have := (nI_leI (by omega) (by omega)).mp w; omega) ?_
          refine rl ?_
          rw [gb]
          refine c_iff (by decide) ?_
          refine c_gr (by omega) (by rfl) (by rfl) (by rfl) ?_
          refine c_ri (i := b) (by omega) (by rfl) (by rfl) (by rfl) (by first | omega | ((conv => rhs; whnf); first | omega | (show _ < OfNat.ofNat (α := Nat) _; omega))) (by first | omega | ((conv => lhs; whnf); first | omega | (show OfNat.ofNat (α := Nat) _ < _; omega))) (by decide) ?_
          rw [rD]
          refine c_iff (fun w => by have := (nI_leI (by omega) (by omega)).mp w; omega) ?_
          refine c_ob (by omega) (by rfl) ?_
          refine c_qV j1 ?_
          refine c_let ?_
          refine c_let ?_
          rw [inc, show nI (nS ba P (phi c b)) + (1 : Int32) = nI (nS ba P (phi c b) + 1) from nI_add _ 1]
          exact ho
      · rw [decide_eq_false dn] at Pb
        obtain ⟨o1, o2⟩ := old (Or.inl Pb)
        refine ⟨s, ⟨o1, g2⟩, fun o ho => w_X1_group_31 S _ _ _ _ _ _ _ _ ?_⟩
        rw [o2] at ho
        refine c_iff (fun w => by have := (nI_leI (by omega) (by omega)).mp w; omega) ?_
        refine rl ?_
        rw [gb]
        refine c_iff (by decide) ?_
        refine c_gr (by omega) (by rfl) (by rfl) (by rfl) ?_
        refine c_ri (i := b) (by omega) (by rfl) (by rfl) (by rfl) (by first | omega | ((conv => rhs; whnf); first | omega | (show _ < OfNat.ofNat (α := Nat) _; omega))) (by first | omega | ((conv => lhs; whnf); first | omega | (show OfNat.ofNat (α := Nat) _ < _; omega))) (by decide) ?_
        rw [rD]
        refine c_ift ((nI_leI (by omega) (by omega)).mpr (by omega)) ?_
        refine c_let ?_
        rw [inc]
        exact ho
  · obtain ⟨g1, g2⟩ := hs
    have phN : phi c (c * r) = 16 * r := by
      unfold phi
      rw [Nat.mul_div_cancel_left r (by omega), Nat.mul_mod_right]
      rfl
    have eN : nS ba P 256 = nS ba P (phi c (c * r)) := nS_skip (by omega) (fun s h1 h2 h3 => by
      rw [eP] at h3
      have := of_decide_eq_true h3
      omega)
    refine ⟨s, ⟨fun b hb => ?_, g2⟩, fun o ho => w_X1_group_31 S _ _ _ _ _ _ _ _ ?_⟩
    · rw [g1 b hb]
      by_cases p : P (phi c b) = true
      · rw [if_pos (pB_iff.mpr (vs_self (phi_lt c1 c2 hb) p))]
      · unfold labV
        rw [if_neg p]
        by_cases v : pB (vs ba P (phi c (c * r)) (phi c b)) = true
        · rw [if_pos v]
        · rw [if_neg v]
    · refine c_ift ((nI_leI (by omega) (by omega)).mpr (Nat.le_refl _)) ?_
      rw [← eN]
      exact ho
/-- the least noise that leaves few regions -/
def lnN (G : Nat → Nat) (most : Nat) : Nat := fa_first (fun q => decide (G q ≤ most)) 256
noncomputable def ngN (W H B : Nat) (D : Nat → Nat → Nat) (q : Nat) : Nat := nS ba (chB (coB W B) (coB H B) D q) 256
theorem noiseFor_s (hW8 : 8 ≤ W) (hW : W ≤ 64) (hH8 : 8 ≤ H) (hH : H ≤ 64) (hB : 4 ≤ B) (hB2 : B ≤ 16) (X : blC m W H B D) (hD : ∀ i j, D i j ≤ 4096) {most : Nat} (hm : most < 2147483648) : ∃ m', xM S mX1_noiseFor [.ref 64, .int (nI most)] (E W H n m) = some (.inl (some (.int (nI (lnN (ngN W H B D) most)))), E W H n m', 0, 0) ∧ fr (mkP 67) m m' := by
  have L := x_sg (σ := mM) (τ := mM) (D := fun q s => xden S mX1_noiseFor 2 [(0, .ref 64), (1, .int (nI most)), (2, .int (nI q))] [] (E W H n s)) (Inv := fun q s => (∀ q', q' < q → ¬ ngN W H B D q' ≤ most) ∧ fr (mkP 67) m s)
    (F := fun s => some (.inl (some (.int (nI (lnN (ngN W H B D) most)))), E W H n s, 0, 0)) (Post := fun s => fr (mkP 67) m s) 256 (fun q hq s hs => ?_) (fun s hs => ?_) m ⟨fun q h => absurd h (Nat.not_lt_zero q), fr_rf⟩
  · obtain ⟨m', k1, k2⟩ := L
    exact ⟨m', w_X1_noiseFor S _ _ _ _ (k2 _ rfl), k1⟩
  · obtain ⟨g1, g2⟩ := hs
    have X' : blC s W H B D := ⟨by rw [fr_i g2 64 8 rfl]; exact X.1, by rw [fr_i g2 64 9 rfl]; exact X.2.1, by rw [fr_i g2 64 10 rfl]; exact X.2.2.1, fun b hb => by rw [fr_i g2 65 b rfl]; exact X.2.2.2 b hb⟩
    obtain ⟨s1, j1, j2, j3⟩ := group_s (S := S) (n := n) (m := s) (Or.inr rfl) hW8 hW hH8 hH hB hB2 X' hD (noise := q) (by omega)
    have gl : ngN W H B D q ≤ 256 := nS_256 _
    by_cases c : ngN W H B D q ≤ most
    · right
      have e : lnN (ngN W H B D) most = q := by
        unfold lnN
        have le := fa_first_le (fun q => decide (ngN W H B D q ≤ most)) 256
        rcases Nat.lt_trichotomy (fa_first (fun q => decide (ngN W H B D q ≤ most)) 256) q with w | w | w
        · have := fa_first_yes (fun q => decide (ngN W H B D q ≤ most)) 256 (by omega)
          exact absurd (of_decide_eq_true this) (g1 _ w)
        · exact w
        · have := fa_first_no (fun q => decide (ngN W H B D q ≤ most)) 256 q w
          exact absurd c (of_decide_eq_false this)
      refine ⟨s1, fr_tr g2 j3, fun o ho => w_X1_noiseFor_2 S _ _ _ _ _ ?_⟩
      rw [e] at ho
      refine c_iff (fun w => by have := (nI_leI (a := 256) (by omega) (by omega)).mp w; omega) ?_
      refine c_gr (by omega) (by rfl) (by rfl) (by rfl) ?_
      refine c_ob (by omega) (by rfl) ?_
      refine c_qI j1 ?_
      refine c_ift ((nI_leI (Nat.lt_of_le_of_lt gl (by decide)) (by omega)).mpr c) ?_
      exact ho
    · left
      refine ⟨s1, ⟨fun q' h => ?_, fr_tr g2 j3⟩, fun o ho => w_X1_noiseFor_2 S _ _ _ _ _ ?_⟩
      · rcases Nat.lt_succ_iff_lt_or_eq.mp h with w | w
        · exact g1 q' w
        · subst w; exact c
      · refine c_iff (fun w => by have := (nI_leI (a := 256) (by omega) (by omega)).mp w; omega) ?_
        refine c_gr (by omega) (by rfl) (by rfl) (by rfl) ?_
        refine c_ob (by omega) (by rfl) ?_
        refine c_qI j1 ?_
        refine c_iff (fun w => c ((nI_leI (Nat.lt_of_le_of_lt gl (by decide)) (by omega)).mp w)) ?_
        refine c_let ?_
        rw [show (1 : Int32) = nI 1 from rfl, nI_add]
        exact ho
  · obtain ⟨g1, g2⟩ := hs
    have e : lnN (ngN W H B D) most = 256 := by
      unfold lnN
      have le := fa_first_le (fun q => decide (ngN W H B D q ≤ most)) 256
      rcases Nat.lt_or_ge (fa_first (fun q => decide (ngN W H B D q ≤ most)) 256) 256 with w | w
      · have := fa_first_yes (fun q => decide (ngN W H B D q ≤ most)) 256 w
        exact absurd (of_decide_eq_true this) (g1 _ w)
      · omega
    refine ⟨s, g2, fun o ho => w_X1_noiseFor_2 S _ _ _ _ _ ?_⟩
    rw [e] at ho
    refine c_ift (by decide) ?_
    exact ho
end CH

/-! COMPARE: the class forms, sorts, pairs and lists -/
def e2P (a _j : Nat) : Bool := (decide (64 ≤ a) && decide (a ≤ 71)) || decide (147 ≤ a)
theorem e2P_n {a j : Nat} (h : a < 64 ∨ 71 < a) (h2 : a < 147) : e2P a j = false := by
  unfold e2P
  simp
  omega
theorem e2P_f {a j : Nat} (w : e2P a j = false) : (a < 64 ∨ 71 < a) ∧ a < 147 := by
  unfold e2P at w
  simp at w
  omega
theorem e2_tl (a j : Nat) (w : e2P a j = false) : tlP a j = false := by
  obtain ⟨w1, w2⟩ := e2P_f w
  exact tlP_n w2 (by omega) (by omega) (by omega) (by omega)
theorem sq_1 (q j : Nat) (h : j ≠ 7) : srQ (147 + 5 * q + 1) j = false ∧ srQ (147 + 5 * q + 3) j = false := by
  have e1 : (147 + 5 * q + 1 - 147) % 5 = 1 := by omega
  have e3 : (147 + 5 * q + 3 - 147) % 5 = 3 := by omega
  unfold srQ
  rw [e1, e3, beq_eq_false_iff_ne.mpr (show 147 + 5 * q + 1 ≠ 70 by omega), beq_eq_false_iff_ne.mpr (show 147 + 5 * q + 3 ≠ 70 by omega), beq_eq_false_iff_ne.mpr h]
  simp
theorem sq_2 (q j : Nat) : srQ (147 + 5 * q + 1 + 1) j = false ∧ srQ (147 + 5 * q + 3 + 1) j = false := by
  have e1 : (147 + 5 * q + 1 + 1 - 147) % 5 = 2 := by omega
  have e3 : (147 + 5 * q + 3 + 1 - 147) % 5 = 4 := by omega
  unfold srQ
  rw [e1, e3, beq_eq_false_iff_ne.mpr (show 147 + 5 * q + 1 + 1 ≠ 70 by omega), beq_eq_false_iff_ne.mpr (show 147 + 5 * q + 3 + 1 ≠ 70 by omega)]
  simp
theorem sq_0 (q j : Nat) (h : j ≤ 5) : srQ (147 + 5 * q) j = false := by
  have e0 : (147 + 5 * q - 147) % 5 = 0 := by omega
  unfold srQ
  rw [e0, beq_eq_false_iff_ne.mpr (show 147 + 5 * q ≠ 70 by omega), beq_eq_false_iff_ne.mpr (show j ≠ 6 by omega), beq_eq_false_iff_ne.mpr (show j ≠ 8 by omega)]
  simp
theorem qF_e (W H : Nat) (Ms Ad : Nat → Int64) (B noise : Nat) (od : Bool) (i : Nat) : qF W H Ms Ad B noise od (2 * i) = mkW W H (rgF Ms (qP W H Ms Ad B noise) B (qO W H Ms Ad B noise od i)) := by
  unfold qF PFm
  rw [if_neg (by omega), show 2 * i / 2 = i by omega]
theorem qF_o (W H : Nat) (Ms Ad : Nat → Int64) (B noise : Nat) (od : Bool) (i : Nat) : qF W H Ms Ad B noise od (2 * i + 1) = mkW W H (rgF Ad (qP W H Ms Ad B noise) B (qO W H Ms Ad B noise od i)) := by
  unfold qF PFm
  rw [if_pos (by omega), show (2 * i + 1) / 2 = i by omega]
section CP4
variable {S : xS} {W H n : Nat} {m : mM}
theorem exam2 (hW8 : 8 ≤ W) (hW : W ≤ 64) (hH8 : 8 ≤ H) (hH : H ≤ 64) {Z : ((Nat → Nat) × Nat × (Nat → Nat))} (CR : cfR Z) (CX : cfX m 34 2 35 36 Z) {O T Al Ms Ad : Nat → Int64} {dx dy sk : Int} {tu : Bool} {cc : Nat} (e73 : m.2.1 73 = O) (e88 : m.2.1 88 = T) (e77 : m.2.1 77 = Al) (e79 : m.2.1 79 = Ms) (e81 : m.2.1 81 = Ad) (oM : okP W H Ms) (oA : okP W H Ad) (dj : ∀ k, ¬ (px Ms k = true ∧ px Ad k = true)) (e82 : m.1 82 6 = zI dx ∧ m.1 82 7 = zI dy ∧ m.1 82 8 = zI sk ∧ m.1 82 9 = bz tu ∧ m.1 82 10 = nI cc) {St : stT} {cnt : Nat} (TS : cstM m cnt St) (FD : fdI m n) {od hd : Bool} (h7 : Z.1 7 = od.toNat) (h9 : Z.1 9 = hd.toNat) : ∃ m', cmC m' W H (max n (qN W H Ms Ad (Z.1 0) (Z.1 1))) O T Al Ms Ad (Z.1 0) (Z.1 1) (Z.1 8) od hd St cnt dx dy sk tu cc ∧ fdI m' (max n (qN W H Ms Ad (Z.1 0) (Z.1 1))) ∧ fr e2P m m' ∧ (if xOb (E W H n m) 34 2 = true then xqI (xM S mX2_valueOf [.ref 34, .retAddr 0] (E W H n m)) xth fun v39 h38 => if xOb h38 64 1 = true then xqV (xM S mX1_measureBlocks [.ref 64, .int v39] h38) xth fun h41 => if xOb h41 34 2 = true then xqI (xM S mX2_valueOf [.ref 34, .retAddr 1] h41) xth fun v45 h44 => (xGr h44 64 1 12).bind fun v46 => if xOb h44 64 1 = true then xqI (xM S mX1_group [.ref 64, .int v45, .ref v46] h44) xth fun v49 h48 => (xP false 1 h48 64 1 17 (.int v49)).bind fun h50 => if xOb h50 64 1 = true then xqV (xM S mX1_formRegions [.ref 64] h50) xth fun h52 => if xOb h52 34 2 = true then xqI (xM S mX2_valueOf [.ref 34, .retAddr 7] h52) xth fun v56 h55 => if ¬ v56 = (1 : Int32) then (if xOb h55 64 1 = true then xqV (xM S mX1_sortRegions [.ref 64, .int (0 : Int32)] h55) xth fun h58 => if xOb h58 34 2 = true then xqI (xM S mX2_valueOf [.ref 34, .retAddr 8] h58) xth fun v62 h61 => if xOb h61 64 1 = true then xqV (xM S mX1_pairParts [.ref 64, .int v62] h61) xth fun h64 => if xOb h64 34 2 = true then xqI (xM S mX2_valueOf [.ref 34, .retAddr 9] h64) xth fun v68 h67 => if ¬ v68 = (1 : Int32) then (if xOb h67 64 1 = true then xqV (xM S mX1_listChanges [.ref 64, .int (0 : Int32), .ref 48] h67) xth fun h70 => some (.inl none, h70, 0, 0) else none) else (if xOb h67 64 1 = true then xqV (xM S mX1_listChanges [.ref 64, .int (1 : Int32), .ref 48] h67) xth fun h73 => some (.inl none, h73, 0, 0) else none) else none else none else none else none) else (if xOb h55 64 1 = true then xqV (xM S mX1_sortRegions [.ref 64, .int (1 : Int32)] h55) xth fun h76 => if xOb h76 34 2 = true then xqI (xM S mX2_valueOf [.ref 34, .retAddr 8] h76) xth fun v80 h79 => if xOb h79 64 1 = true then xqV (xM S mX1_pairParts [.ref 64, .int v80] h79) xth fun h82 => if xOb h82 34 2 = true then xqI (xM S mX2_valueOf [.ref 34, .retAddr 9] h82) xth fun v86 h85 => if ¬ v86 = (1 : Int32) then (if xOb h85 64 1 = true then xqV (xM S mX1_listChanges [.ref 64, .int (0 : Int32), .ref 48] h85) xth fun h88 => some (.inl none, h88, 0, 0) else none) else (if xOb h85 64 1 = true then xqV (xM S mX1_listChanges [.ref 64, .int (1 : Int32), .ref 48] h85) xth fun h91 => some (.inl none, h91, 0, 0) else none) else none else none else none else none) else none else none else none else none else none else none) = some (.inl none, E W H (max n (qN W H Ms Ad (Z.1 0) (Z.1 1))) m', 0 + 5 * (max n (qN W H Ms Ad (Z.1 0) (Z.1 1)) - n), 0 + 159 * (max n (qN W H Ms Ad (Z.1 0) (Z.1 1)) - n)) := by
  obtain ⟨⟨hB, hB2⟩, z1, _, _, _, _, _, _, ⟨l1, l2⟩, _⟩ := cfR_all CR
  have v0 := valueOf_E (S := S) (W := W) (H := H) (n := n) CX (s := 0) (by omega)
  have cx : ∀ {s : mM}, fr e2P m s → cfX s 34 2 35 36 Z := fun {s} F => ⟨fun i hi => (fr_i F 35 i rfl).trans (CX.1 i hi), (fr_i F 34 2 rfl).trans CX.2.1, fun i hi => (fr_i F 36 i rfl).trans (CX.2.2 i hi)⟩
  have v1' : ∀ {s : mM}, fr e2P m s → xM S mX2_valueOf [.ref 34, .retAddr 1] (E W H n s) = some (.inl (some (.int (nI (Z.1 1)))), E W H n s, 0, 0) := fun F => valueOf_E (cx F) (s := 1) (by omega)
  have v7' : ∀ {n : Nat} {s : mM}, fr e2P m s → xM S mX2_valueOf [.ref 34, .retAddr 7] (E W H n s) = some (.inl (some (.int (nI (Z.1 7)))), E W H n s, 0, 0) := fun F => valueOf_E (cx F) (s := 7) (by omega)
  have v8' : ∀ {n : Nat} {s : mM}, fr e2P m s → xM S mX2_valueOf [.ref 34, .retAddr 8] (E W H n s) = some (.inl (some (.int (nI (Z.1 8)))), E W H n s, 0, 0) := fun F => valueOf_E (cx F) (s := 8) (by omega)
  have v9' : ∀ {n : Nat} {s : mM}, fr e2P m s → xM S mX2_valueOf [.ref 34, .retAddr 9] (E W H n s) = some (.inl (some (.int (nI (Z.1 9)))), E W H n s, 0, 0) := fun F => valueOf_E (cx F) (s := 9) (by omega)
  clear cx
  rw [h7] at v7'
  rw [h9] at v9'
  clear CX CR h7 h9
  generalize Z.1 0 = B at *
  generalize Z.1 1 = noise at *
  generalize Z.1 8 = lst at *
  obtain ⟨c1, c2⟩ := coB_le hW8 hW hB hB2
  obtain ⟨r1, r2⟩ := coB_le hH8 hH hB hB2
  have N128 := qN_le W H Ms Ad B noise
  have hP : ∀ k, k < 256 → qP W H Ms Ad B noise k = chB (coB W B) (coB H B) (blN Ms Ad B) noise k := fun _ _ => rfl
  -- the blocks
  obtain ⟨m6, a1, a2, a3⟩ := measure_s (S := S) (n := n) hW8 hW hH8 hH hB hB2 e79 e81 oM oA dj
  have mb_n : ∀ {a j : Nat}, a ≠ 65 → (a = 64 → j ≠ 8 ∧ j ≠ 9 ∧ j ≠ 10) → mbP a j = false := fun h1 h2 => by
    unfold mbP
    simp
    omega
  have F6 : fr e2P m m6 := fr_mono a3 (fun a j w => by obtain ⟨w1, _⟩ := e2P_f w; exact mb_n (by omega) (by omega))
  -- the groups
  obtain ⟨m7, b1, b2, b3⟩ := group_s (S := S) (n := n) (m := m6) (Or.inl rfl) hW8 hW hH8 hH hB hB2 a2 (blN_le Ms Ad B) z1
  have mk_n : ∀ {a j : Nat}, a ≠ 66 → a ≠ 68 → mkP 66 a j = false := fun h1 h2 => by
    unfold mkP
    simp
    omega
  have F7 : fr e2P m m7 := fr_tr F6 (fr_mono b3 (fun a j w => by obtain ⟨w1, _⟩ := e2P_f w; exact mk_n (by omega) (by omega)))
  have b1' : xM S mX1_group [.ref 64, .int (nI noise), .ref 66] (E W H n m6) = some (.inl (some (.int (nI (qN W H Ms Ad B noise)))), E W H n m7, 0, 0) := b1
  have b2' : ∀ b, b < coB W B * coB H B → m7.1 66 b = labV (qP W H Ms Ad B noise) (phi (coB W B) b) := b2
  obtain ⟨m8, e8⟩ : ∃ m8, m8 = sI m7 64 17 (nI (qN W H Ms Ad B noise)) := ⟨_, rfl⟩
  have F8 : fr e2P m m8 := by rw [e8]; exact fr_sI F7 (by rfl)
  have i8 : ∀ a j, (a = 64 → j ≠ 17) → m8.1 a j = m7.1 a j := fun a j h => by rw [e8, sI_ne (by omega)]
  have x64 : ∀ j, j ≠ 17 → m8.1 64 j = m6.1 64 j := fun j h => (i8 64 j (fun _ => h)).trans (fr_i b3 64 j (mk_n (by omega) (by omega)))
  have X8 : blC m8 W H B (blN Ms Ad B) := ⟨(x64 8 (by omega)).trans a2.1, (x64 9 (by omega)).trans a2.2.1, (x64 10 (by omega)).trans a2.2.2.1, fun b hb => (i8 65 b (by omega)).trans ((fr_i b3 65 b (mk_n (by omega) (by omega))).trans (a2.2.2.2 b hb))⟩
  have lab8 : ∀ b, b < coB W B * coB H B → m8.1 66 b = labV (qP W H Ms Ad B noise) (phi (coB W B) b) := fun b hb => (i8 66 b (by omega)).trans (b2' b hb)
  have s17 : m8.1 64 17 = nI (qN W H Ms Ad B noise) := by rw [e8]; exact sI_eq ⟨rfl, rfl⟩
  -- the regions
  have fd8 : fdI m8 n := ⟨FD.1, fun r hr => by
    rw [e8, sI_2]
    exact (fr_r b3 69 r (mk_n (by omega) (by omega))).trans ((fr_r a3 69 r (mb_n (by omega) (by omega))).trans (FD.2.1 r hr)), fun r h1 h2 => by
    rw [e8, sI_2]
    exact (fr_r b3 69 r (mk_n (by omega) (by omega))).trans ((fr_r a3 69 r (mb_n (by omega) (by omega))).trans (FD.2.2 r h1 h2))⟩
  obtain ⟨m9, p1, p2, p3, p4⟩ := formRegions_s (S := S) (m := m8) (P := qP W H Ms Ad B noise) hW8 hW hH8 hH hB hB2 rfl rfl c1 c2 r1 r2 oM oA (N := qN W H Ms Ad B noise) (by omega) (fun r hr => (reg_ne hW oM oA hP hr).1) fd8 ⟨(fr_L F8 79 (fun _ => rfl)).trans e79, (fr_L F8 81 (fun _ => rfl)).trans e81, X8.1, X8.2.1, X8.2.2.1, lab8, s17⟩
  have hn' : qN W H Ms Ad B noise ≤ max n (qN W H Ms Ad B noise) := Nat.le_max_right _ _
  generalize max n (qN W H Ms Ad B noise) = n' at *
  have T9 : fr tlP m8 m9 := fr_mono p4 fo_tl
  have F9 : fr e2P m m9 := fr_tr F8 (fr_mono T9 e2_tl)
  have bx9 : ∀ q, q < qN W H Ms Ad B noise → (m9.1 (147 + 5 * q) 2 = nI (qL W H Ms Ad B noise q) ∧ m9.1 (147 + 5 * q) 3 = nI (qT W H Ms Ad B noise q) ∧ m9.1 (147 + 5 * q) 4 = nI (qR W H Ms Ad B noise q) ∧ m9.1 (147 + 5 * q) 5 = nI (qB W H Ms Ad B noise q)) ∧ qL W H Ms Ad B noise q < 64 ∧ qT W H Ms Ad B noise q < 64 ∧ qR W H Ms Ad B noise q < 64 ∧ qB W H Ms Ad B noise q < 64 := fun q hq => by
    obtain ⟨_, _, _, _, ⟨l, t, r, b, g1, g2, g3, g4, g5, g6, g7⟩, _⟩ := p2 q hq
    obtain ⟨h1, h2, h3, h4⟩ := qX_box (W := W) (H := H) (Ms := Ms) (Ad := Ad) (B := B) (noise := noise) (q := q) g1
    obtain ⟨k1, k2⟩ := isBox_le g1
    rw [h1, h2, h3, h4]
    exact ⟨⟨g4, g5, g6, g7⟩, by omega, by omega, g2, g3⟩
  -- their order
  obtain ⟨m10, j1, j2, j3⟩ := sortRegions_s (S := S) (W := W) (H := H) (n := n') (m := m9) (N := qN W H Ms Ad B noise) (by omega) hn' (fun q hq => (bx9 q hq).1) (fun q hq => (bx9 q hq).2) ((fr_i T9 64 17 rfl).trans s17) (fun i hi => (p2 i hi).2.2.2.2.2) od
  have j2' : ∀ i, i < qN W H Ms Ad B noise → m10.2.2 70 i = some (147 + 5 * qO W H Ms Ad B noise od i) ∧ m10.1 (147 + 5 * qO W H Ms Ad B noise od i) 6 = nI i ∧ m10.1 (147 + 5 * qO W H Ms Ad B noise od i + 1) 7 = nI i ∧ m10.1 (147 + 5 * qO W H Ms Ad B noise od i + 3) 7 = nI i := j2
  have T10 : fr tlP m8 m10 := fr_tr T9 (fr_mono j3 sr_tl)
  have F10 : fr e2P m m10 := fr_tr F8 (fr_mono T10 e2_tl)
  have rg10 : rgO m10 (qN W H Ms Ad B noise) (qO W H Ms Ad B noise od) (qF W H Ms Ad B noise od) := fun i hi => by
    obtain ⟨x1, x2, _⟩ := p2 _ (qO_lt W H Ms Ad B noise od i hi)
    rw [qF_e, qF_o]
    exact ⟨(j2' i hi).1, ptX_fr x1 j3 (fun j _ _ => (sq_1 _ j (by omega)).1) (fun j => (sq_2 _ j).1), ptX_fr x2 j3 (fun j _ _ => (sq_1 _ j (by omega)).2) (fun j => (sq_2 _ j).2)⟩
  have np10 : ∀ i, i < qN W H Ms Ad B noise → m10.2.2 (147 + 5 * qO W H Ms Ad B noise od i + 1) 8 = none ∧ m10.2.2 (147 + 5 * qO W H Ms Ad B noise od i + 3) 8 = none := fun i hi => by
    obtain ⟨_, _, x3, x4, _⟩ := p2 _ (qO_lt W H Ms Ad B noise od i hi)
    exact ⟨(fr_r j3 _ _ (sq_1 _ 8 (by omega)).1).trans x3, (fr_r j3 _ _ (sq_1 _ 8 (by omega)).2).trans x4⟩
  -- the pairs
  obtain ⟨m11, u1, u2, u3⟩ := pairParts_s (S := S) (W := W) (H := H) (n := n') (m := m10) (by omega) hn' (qO_lt W H Ms Ad B noise od) (qO_inj W H Ms Ad B noise od) rg10 ((fr_i T10 64 17 rfl).trans s17) l1 l2 np10
  have T11 : fr tlP m8 m11 := fr_tr T10 (fr_mono u3 cp_tl)
  have F11 : fr e2P m m11 := fr_tr F8 (fr_mono T11 e2_tl)
  -- the list
  obtain ⟨m12, w1, w2, w3⟩ := listChanges_s (S := S) (n := n') (m := m11) hW hH8 hH (by omega) hn' (qO_lt W H Ms Ad B noise od) (qO_inj W H Ms Ad B noise od) (rgO_fr rg10 u3) (fun p => PFm_ok hW Ms Ad (qP W H Ms Ad B noise) B (qO W H Ms Ad B noise od) p) (cstM_fr TS F11 (fun a j h1 h2 => e2P_n (by omega) (by omega))) ((fr_L F11 73 (fun _ => rfl)).trans e73) ((fr_L F11 77 (fun _ => rfl)).trans e77) ((fr_i T11 64 17 rfl).trans s17) hd u2
  have T12 : fr tlP m8 m12 := fr_tr T11 (fr_mono w3 ll_tl)
  have F12 : fr e2P m m12 := fr_tr F8 (fr_mono T12 e2_tl)
  refine ⟨m12, ⟨hn', (fr_L F12 73 (fun _ => rfl)).trans e73, (fr_L F12 88 (fun _ => rfl)).trans e88, ⟨(fr_i T12 64 8 rfl).trans X8.1, (fr_i T12 64 9 rfl).trans X8.2.1, (fr_i T12 64 10 rfl).trans X8.2.2.1, fun b hb => (fr_i T12 65 b rfl).trans (X8.2.2.2 b hb)⟩, fun b hb => (fr_i T12 66 b rfl).trans (lab8 b hb), (fr_i T12 64 17 rfl).trans s17, ⟨(fr_i F12 82 6 rfl).trans e82.1, (fr_i F12 82 7 rfl).trans e82.2.1, (fr_i F12 82 8 rfl).trans e82.2.2.1, (fr_i F12 82 9 rfl).trans e82.2.2.2.1, (fr_i F12 82 10 rfl).trans e82.2.2.2.2⟩, fun q hq => ?_, fun i hi => ?_, rgO_ll (rgO_fr rg10 u3) w3, ⟨fun i hi => ?_, fun j hj => ?_⟩, w2⟩, ⟨p3.1, fun r hr => ?_, fun r h1 h2 => ?_⟩, F12, ?_⟩
  · have z : ∀ j, j ≤ 5 → m12.1 (147 + 5 * q) j = m9.1 (147 + 5 * q) j := fun j hj => (fr_i w3 _ _ (llP_j (by omega) (by omega) (by omega))).trans ((fr_i u3 _ _ (cpP_j (by omega))).trans (fr_i j3 _ _ (sq_0 q j hj)))
    obtain ⟨⟨g1, g2, g3, g4⟩, _⟩ := bx9 q hq
    exact ⟨(z 2 (by omega)).trans g1, (z 3 (by omega)).trans g2, (z 4 (by omega)).trans g3, (z 5 (by omega)).trans g4⟩
  · have z : ∀ a j, 147 ≤ a → j ≤ 7 → m12.1 a j = m10.1 a j := fun a j ha hj => (fr_i w3 _ _ (llP_j ha (by omega) (by omega))).trans (fr_i u3 _ _ (cpP_j (by omega)))
    obtain ⟨_, g1, g2, g3⟩ := j2' i hi
    exact ⟨(z _ _ (by omega) (by omega)).trans g1, (z _ _ (by omega) (by omega)).trans g2, (z _ _ (by omega) (by omega)).trans g3⟩
  · exact (fr_r w3 _ _ (llP_j (by omega) (by omega) (by omega))).trans (u2.1 i hi)
  · rw [fr_r w3 _ _ (llP_j (by omega) (by omega) (by omega))]
    exact u2.2 j hj
  · exact (fr_r w3 69 r rfl).trans ((fr_r u3 69 r rfl).trans ((fr_r j3 69 r rfl).trans (p3.2.1 r hr)))
  · exact (fr_r w3 69 r rfl).trans ((fr_r u3 69 r rfl).trans ((fr_r j3 69 r rfl).trans (p3.2.2 r h1 h2)))
  · refine c_ob (by omega) (by rfl) ?_
    refine c_qI v0 ?_
    refine c_ob (by omega) (by rfl) ?_
    refine c_qV a1 ?_
    refine c_ob (by omega) (by rfl) ?_
    refine c_qI (v1' F6) ?_
    refine c_gr (by omega) (by rfl) (by rfl) (by rfl) ?_
    refine c_ob (by omega) (by rfl) ?_
    refine c_qI b1' ?_
    refine c_pi (by omega) (by rfl) (by rfl) (by rfl) (xPok_int (by decide) (by rfl)) ?_
    rw [← e8]
    refine c_ob (by omega) (by rfl) ?_
    refine k_V p1 ?_
    refine c_ob (by omega) (by rfl) ?_
    refine c_qI (v7' F9) ?_
    clear a1 b1 b1' p1 v0 v1' T9 T10 T11 T12
    cases od
    · refine c_ift (by decide) ?_
      refine c_ob (by omega) (by rfl) ?_
      refine c_qV j1 ?_
      refine c_ob (by omega) (by rfl) ?_
      refine c_qI (v8' F10) ?_
      refine c_ob (by omega) (by rfl) ?_
      refine c_qV u1 ?_
      refine c_ob (by omega) (by rfl) ?_
      refine c_qI (v9' F11) ?_
      cases hd
      · refine c_ift (by decide) ?_
        refine c_ob (by omega) (by rfl) ?_
        exact c_qV w1 rfl
      · refine c_iff (by decide) ?_
        refine c_ob (by omega) (by rfl) ?_
        exact c_qV w1 rfl
    · refine c_iff (by decide) ?_
      refine c_ob (by omega) (by rfl) ?_
      refine c_qV j1 ?_
      refine c_ob (by omega) (by rfl) ?_
      refine c_qI (v8' F10) ?_
      refine c_ob (by omega) (by rfl) ?_
      refine c_qV u1 ?_
      refine c_ob (by omega) (by rfl) ?_
      refine c_qI (v9' F11) ?_
      cases hd
      · refine c_ift (by decide) ?_
        refine c_ob (by omega) (by rfl) ?_
        exact c_qV w1 rfl
      · refine c_iff (by decide) ?_
        refine c_ob (by omega) (by rfl) ?_
        exact c_qV w1 rfl
end CP4

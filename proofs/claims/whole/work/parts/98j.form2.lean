/-! REGIONS FORMED: each settles -/
theorem isBox_or {F G : Nat → Int64} {l t r b l' t' r' b' : Nat} (h : isBox F l t r b) (g : isBox G l' t' r' b') : isBox (fun y => F y ||| G y) (min l l') (min t t') (max r r') (max b b') := by
  obtain ⟨h1, ⟨a2, h2⟩, ⟨a3, h3⟩, ⟨a4, h4⟩, ⟨a5, h5⟩⟩ := h
  obtain ⟨g1, ⟨c2, g2⟩, ⟨c3, g3⟩, ⟨c4, g4⟩, ⟨c5, g5⟩⟩ := g
  refine ⟨fun y x q => ?_, ?_, ?_, ?_, ?_⟩
  · rw [lb_or, Bool.or_eq_true] at q
    rcases q with q | q
    · have := h1 y x q; omega
    · have := g1 y x q; omega
  · rcases Nat.le_total l l' with w | w
    · exact ⟨a2, by (try dsimp only); rw [show min l l' = l by omega, lb_or, h2]; rfl⟩
    · exact ⟨c2, by (try dsimp only); rw [show min l l' = l' by omega, lb_or, g2, Bool.or_true]⟩
  · rcases Nat.le_total r r' with w | w
    · exact ⟨c3, by (try dsimp only); rw [show max r r' = r' by omega, lb_or, g3, Bool.or_true]⟩
    · exact ⟨a3, by (try dsimp only); rw [show max r r' = r by omega, lb_or, h3]; rfl⟩
  · rcases Nat.le_total t t' with w | w
    · exact ⟨a4, by (try dsimp only); rw [show min t t' = t by omega, lb_or, h4]; rfl⟩
    · exact ⟨c4, by (try dsimp only); rw [show min t t' = t' by omega, lb_or, g4, Bool.or_true]⟩
  · rcases Nat.le_total b b' with w | w
    · exact ⟨c5, by (try dsimp only); rw [show max b b' = b' by omega, lb_or, g5, Bool.or_true]⟩
    · exact ⟨a5, by (try dsimp only); rw [show max b b' = b by omega, lb_or, h5]; rfl⟩
theorem isBox_cong {F G : Nat → Int64} {l t r b : Nat} (e : ∀ y x, lb (F y) x = lb (G y) x) (h : isBox F l t r b) : isBox G l t r b := by
  obtain ⟨h1, ⟨a2, h2⟩, ⟨a3, h3⟩, ⟨a4, h4⟩, ⟨a5, h5⟩⟩ := h
  exact ⟨fun y x q => h1 y x (by rw [e]; exact q), ⟨a2, by rw [← e]; exact h2⟩, ⟨a3, by rw [← e]; exact h3⟩, ⟨a4, by rw [← e]; exact h4⟩, ⟨a5, by rw [← e]; exact h5⟩⟩
/-- the region's box in the memory -/
def rgX (m : mM) (R : Nat) (F : Nat → Int64) : Prop := ∃ l t r b, isBox F l t r b ∧ r < 64 ∧ b < 64 ∧ m.1 R 2 = nI l ∧ m.1 R 3 = nI t ∧ m.1 R 4 = nI r ∧ m.1 R 5 = nI b
def rgP (R a j : Nat) : Bool := a == R && (decide (2 ≤ j) && decide (j ≤ 5))
theorem rgP_t {R j : Nat} (h1 : 2 ≤ j) (h2 : j ≤ 5) : rgP R R j = true := by
  unfold rgP
  rw [decide_eq_true h1, decide_eq_true h2, beq_self_eq_true]
  rfl
section FS
variable {S : xS} {W H n : Nat} {m : mM} {q : Nat} {F G : Nat → Int64}
theorem eK_q {i : Nat} (hi : i < 5) : eK (147 + 5 * q + i) = [(0, 7), (0, 5), (2, 64), (0, 5), (2, 64)].getD i (0, 0) := eK_reg q i hi
theorem settle57 {R a b : Nat} (hR : R < 147 + 5 * n) (kR : eK R = (0, 7)) (A : ptA a n) (B : ptA b n) (na : a ≠ R) (nb : b ≠ R) {l t r u l' t' r' u' : Nat} (a2 : m.1 a 2 = nI l) (a3 : m.1 a 3 = nI t) (a4 : m.1 a 4 = nI (r + 1 - l)) (a5 : m.1 a 5 = nI (u + 1 - t)) (b2 : m.1 b 2 = nI l') (b3 : m.1 b 3 = nI t') (b4 : m.1 b 4 = nI (r' + 1 - l')) (b5 : m.1 b 5 = nI (u' + 1 - t')) (h1 : l ≤ r) (h2 : t ≤ u) (h3 : l' ≤ r') (h4 : t' ≤ u') (h5 : r < 64) (h6 : u < 64) (h7 : r' < 64) (h8 : u' < 64) : xden S mX7_settle 57 [(0, .ref R), (1, .ref a)] [.ref b] (E W H n m) = some (.inl none, E W H n (sI (sI (sI (sI m R 2 (nI (min l l'))) R 3 (nI (min t t'))) R 4 (nI (max r r'))) R 5 (nI (max u u'))), 0, 0) := by
  have ka := A.1
  have kb := B.1
  have a3' := A.2.2
  have b3' := B.2.2
  refine w_X7_settle_57 S _ _ _ _ _ ?_
  refine c_gi (by omega) ka (by rfl) (by rfl) ?_
  refine c_gi (by omega) kb (by rfl) (by rfl) ?_
  rw [a2, b2]
  refine c_qI (min_n S _ (by omega) (by omega)) ?_
  refine c_pi hR kR (by rfl) (by rfl) (xPok_int (by decide) (by rfl)) ?_
  refine c_gi (by omega) ka (by rfl) (by rfl) ?_
  refine c_gi (by omega) kb (by rfl) (by rfl) ?_
  rw [sI_ne (fun w => na w.1), sI_ne (fun w => nb w.1), a3, b3]
  refine c_qI (min_n S _ (by omega) (by omega)) ?_
  refine c_pi hR kR (by rfl) (by rfl) (xPok_int (by decide) (by rfl)) ?_
  refine c_gi (by omega) ka (by rfl) (by rfl) ?_
  refine c_gi (by omega) ka (by rfl) (by rfl) ?_
  refine c_gi (by omega) kb (by rfl) (by rfl) ?_
  refine c_gi (by omega) kb (by rfl) (by rfl) ?_
  rw [sI_ne (fun w => na w.1), sI_ne (fun w => na w.1), sI_ne (fun w => na w.1), sI_ne (fun w => na w.1), sI_ne (fun w => nb w.1), sI_ne (fun w => nb w.1), sI_ne (fun w => nb w.1), sI_ne (fun w => nb w.1), a2, a4, b2, b4, nI_add, nI_add]
  refine c_qI (max_n S _ (by omega) (by omega)) ?_
  rw [show nI (max (l + (r + 1 - l)) (l' + (r' + 1 - l'))) - (1 : Int32) = nI (max r r') by rw [show (1 : Int32) = nI 1 from rfl, pk_sub (by omega)]; congr 1; omega]
  refine c_pi hR kR (by rfl) (by rfl) (xPok_int (by decide) (by rfl)) ?_
  refine c_gi (by omega) ka (by rfl) (by rfl) ?_
  refine c_gi (by omega) ka (by rfl) (by rfl) ?_
  refine c_gi (by omega) kb (by rfl) (by rfl) ?_
  refine c_gi (by omega) kb (by rfl) (by rfl) ?_
  rw [sI_ne (fun w => na w.1), sI_ne (fun w => na w.1), sI_ne (fun w => na w.1), sI_ne (fun w => na w.1), sI_ne (fun w => na w.1), sI_ne (fun w => na w.1), sI_ne (fun w => nb w.1), sI_ne (fun w => nb w.1), sI_ne (fun w => nb w.1), sI_ne (fun w => nb w.1), sI_ne (fun w => nb w.1), sI_ne (fun w => nb w.1), a3, a5, b3, b5, nI_add, nI_add]
  refine c_qI (max_n S _ (by omega) (by omega)) ?_
  rw [show nI (max (t + (u + 1 - t)) (t' + (u' + 1 - t'))) - (1 : Int32) = nI (max u u') by rw [show (1 : Int32) = nI 1 from rfl, pk_sub (by omega)]; congr 1; omega]
  refine c_pi hR kR (by rfl) (by rfl) (xPok_int (by decide) (by rfl)) ?_
  rfl
def rgsP (R a j : Nat) : Bool := rgP R a j || (ptP (R + 1) a j || ptP (R + 3) a j)
theorem ptX_fr {m' : mM} {p : Nat} {K : Nat → Nat → Bool} (X : ptX m p F) (Q : fr K m m') (h1 : ∀ j, 2 ≤ j → j ≤ 6 → K p j = false) (h2 : ∀ j, K (p + 1) j = false) : ptX m' p F := by
  refine ⟨by rw [fr_i Q p 6 (h1 6 (by decide) (by decide))]; exact X.1, fun z => ?_⟩
  obtain ⟨l, t, r, b, q1, q2, q3, q4, q5, q6, q7, q8⟩ := X.2 z
  exact ⟨l, t, r, b, q1, q2, q3, by rw [fr_i Q p 2 (h1 2 (by decide) (by decide))]; exact q4, by rw [fr_i Q p 3 (h1 3 (by decide) (by decide))]; exact q5, by rw [fr_i Q p 4 (h1 4 (by decide) (by decide))]; exact q6, by rw [fr_i Q p 5 (h1 5 (by decide) (by decide))]; exact q7, fun k hk => by rw [fr_l Q (p + 1) k (h2 k)]; exact q8 k hk⟩
theorem isBox_le {l t r b : Nat} (h : isBox F l t r b) : l ≤ r ∧ t ≤ b := by
  obtain ⟨h1, ⟨_, h2⟩, ⟨_, h3⟩, ⟨_, h4⟩, _⟩ := h
  have := h1 _ _ h2
  have := h1 _ _ h4
  omega
theorem rsettle_s (hq : q < n) (oF : okP W H F) (oG : okP W H G) (hH : H ≤ 64) (eF : ∀ y, y < 64 → m.2.1 (147 + 5 * q + 2) y = F y) (eG : ∀ y, y < 64 → m.2.1 (147 + 5 * q + 4) y = G y) (ne : ctP F ≠ 0 ∨ ctP G ≠ 0) : ∃ m', xM S mX7_settle [.ref (147 + 5 * q)] (E W H n m) = some (.inl none, E W H n m', 0, 0) ∧ ptX m' (147 + 5 * q + 1) F ∧ ptX m' (147 + 5 * q + 3) G ∧ rgX m' (147 + 5 * q) (fun y => F y ||| G y) ∧ fr (rgsP (147 + 5 * q)) m m' := by
  have k0 : eK (147 + 5 * q) = (0, 7) := eK_q (i := 0) (by decide)
  have A : ptA (147 + 5 * q + 1) n := ⟨eK_q (by decide), eK_q (i := 2) (by decide), by omega⟩
  have B : ptA (147 + 5 * q + 3) n := ⟨eK_q (by decide), eK_q (i := 4) (by decide), by omega⟩
  obtain ⟨m1, j1, j2, j3⟩ := settle_s (S := S) (W := W) (H := H) (m := m) A (f := F) eF (fun y hy => okP_out oF (by omega))
  obtain ⟨m2, g1, g2, g3⟩ := settle_s (S := S) (W := W) (H := H) (m := m1) B (f := G) (fun y hy => by
    rw [fr_l j3 (147 + 5 * q + 3 + 1) y (by unfold ptP; rw [beq_eq_false_iff_ne.mpr (show 147 + 5 * q + 3 + 1 ≠ 147 + 5 * q + 1 + 1 by omega), beq_eq_false_iff_ne.mpr (show 147 + 5 * q + 3 + 1 ≠ 147 + 5 * q + 1 by omega)]; rfl)]
    exact eG y hy) (fun y hy => okP_out oG (by omega))
  generalize hR : 147 + 5 * q = R at *
  have X2 : ptX m2 (R + 1) F := ptX_fr j2 g3 (fun j _ _ => by unfold ptP; rw [beq_eq_false_iff_ne.mpr (show R + 1 ≠ R + 3 + 1 by omega), beq_eq_false_iff_ne.mpr (show R + 1 ≠ R + 3 by omega)]; rfl) (fun j => by unfold ptP; rw [beq_eq_false_iff_ne.mpr (show R + 1 + 1 ≠ R + 3 + 1 by omega), beq_eq_false_iff_ne.mpr (show R + 1 + 1 ≠ R + 3 by omega)]; rfl)
  have F2 : fr (rgsP R) m m2 := fr_tr (fr_mono j3 (fun a j w => by unfold rgsP at w; exact (Bool.or_eq_false_iff.mp (Bool.or_eq_false_iff.mp w).2).1)) (fr_mono g3 (fun a j w => by unfold rgsP at w; exact (Bool.or_eq_false_iff.mp (Bool.or_eq_false_iff.mp w).2).2))
  have cF := ctP_le F
  have cG := ctP_le G
  have x6 := X2.1
  have y6 := g2.1
  have rsR : ∀ j, 2 ≤ j → j ≤ 5 → rgsP R R j = true := fun j h1 h2 => by unfold rgsP; rw [rgP_t h1 h2]; rfl
  have fin : ∀ (a b : Int32) (c d : Int32), fr (rgsP R) m (sI (sI (sI (sI m2 R 2 a) R 3 b) R 4 c) R 5 d) := fun a b c d => fr_sI (fr_sI (fr_sI (fr_sI F2 (rsR _ (by decide) (by decide))) (rsR _ (by decide) (by decide))) (rsR _ (by decide) (by decide))) (rsR _ (by decide) (by decide))
  have keep : ∀ (a b : Int32) (c d : Int32), fr (rgP R) m2 (sI (sI (sI (sI m2 R 2 a) R 3 b) R 4 c) R 5 d) := fun a b c d => fr_sI (fr_sI (fr_sI (fr_sI fr_rf (rgP_t (by decide) (by decide))) (rgP_t (by decide) (by decide))) (rgP_t (by decide) (by decide))) (rgP_t (by decide) (by decide))
  have off : ∀ i, 0 < i → ∀ j, rgP R (R + i) j = false := fun i hi j => by unfold rgP; rw [beq_eq_false_iff_ne.mpr (show R + i ≠ R by omega)]; rfl
  have out : ∀ {l t r u : Nat} {o : Option xO}, isBox (fun y => F y ||| G y) l t r u → r < 64 → u < 64 → o = some (.inl none, E W H n (sI (sI (sI (sI m2 R 2 (nI l)) R 3 (nI t)) R 4 (nI r)) R 5 (nI u)), 0, 0) → ∃ m', o = some (.inl none, E W H n m', 0, 0) ∧ ptX m' (R + 1) F ∧ ptX m' (R + 3) G ∧ rgX m' R (fun y => F y ||| G y) ∧ fr (rgsP R) m m' := fun {l t r u o} bx hr hu ho => ⟨_, ho, ptX_fr X2 (keep _ _ _ _) (fun j _ _ => off 1 (by decide) j) (fun j => off 2 (by decide) j), ptX_fr g2 (keep _ _ _ _) (fun j _ _ => off 3 (by decide) j) (fun j => off 4 (by decide) j), ⟨l, t, r, u, bx, hr, hu, by rw [sI_ne (by omega), sI_ne (by omega), sI_ne (by omega), sI_eq ⟨rfl, rfl⟩], by rw [sI_ne (by omega), sI_ne (by omega), sI_eq ⟨rfl, rfl⟩], by rw [sI_ne (by omega), sI_eq ⟨rfl, rfl⟩], by rw [sI_eq ⟨rfl, rfl⟩]⟩, fin _ _ _ _⟩
  have A3 := A.2.2
  have B3 := B.2.2
  -- the row, up to the choice
  have row : ∀ {o : xO}, ((xGr (E W H n m2) R 7 0).bind fun v9 => (xGi (E W H n m2) v9 5 6).bind fun v10 => if v10 ≤ 0 then ((xGr (E W H n m2) R 7 1).bind fun v11 => (xGr (E W H n m2) R 7 1).bind fun v12 => (xGi (E W H n m2) v12 5 6).bind fun v13 => if v13 ≤ 0 then ((xGr (E W H n m2) R 7 0).bind fun v14 => (xden S mX7_settle 57 [(0, .ref R), (1, .ref v11)] [.ref v14] (E W H n m2))) else ((xGr (E W H n m2) R 7 1).bind fun v15 => (xden S mX7_settle 57 [(0, .ref R), (1, .ref v11)] [.ref v15] (E W H n m2)))) else ((xGr (E W H n m2) R 7 0).bind fun v16 => (xGr (E W H n m2) R 7 1).bind fun v17 => (xGi (E W H n m2) v17 5 6).bind fun v18 => if v18 ≤ 0 then ((xGr (E W H n m2) R 7 0).bind fun v19 => (xden S mX7_settle 57 [(0, .ref R), (1, .ref v16)] [.ref v19] (E W H n m2))) else ((xGr (E W H n m2) R 7 1).bind fun v20 => (xden S mX7_settle 57 [(0, .ref R), (1, .ref v16)] [.ref v20] (E W H n m2))))) = some o → xM S mX7_settle [.ref R] (E W H n m) = some o := fun {o} ho => by
    refine w_X7_settle S _ _ _ ?_
    refine c_gr (by omega) k0 (by rfl) (by rfl) ?_
    refine c_ob (by omega) A.1 ?_
    refine c_qV j1 ?_
    refine c_gr (by omega) k0 (by rfl) (by rfl) ?_
    refine c_ob (by omega) B.1 ?_
    refine c_qV g1 ?_
    exact ho
  by_cases zF : ctP F = 0
  · have zG : ctP G ≠ 0 := ne.resolve_left (fun w => w zF)
    obtain ⟨l, t, r, b, q1, q2, q3, q4, q5, q6, q7, q8⟩ := g2.2 zG
    obtain ⟨w1, w2⟩ := isBox_le q1
    have F0 : ∀ y, F y = 0 := fun y => by
      rcases Nat.lt_or_ge y 64 with h | h
      · exact ctP_0.mp zF y h
      · exact okP_out oF (by omega)
    have s57 := settle57 (S := S) (W := W) (H := H) (n := n) (m := m2) (R := R) (a := R + 3) (b := R + 3) (by omega) k0 B B (by omega) (by omega) q4 q5 q6 q7 q4 q5 q6 q7 w1 w2 w1 w2 q2 q3 q2 q3
    rw [Nat.min_self, Nat.min_self, Nat.max_self, Nat.max_self] at s57
    refine out (isBox_cong (fun y x => by (try dsimp only); rw [lb_or, F0 y, lb_0, Bool.false_or]) q1) q2 q3 (row ?_)
    refine c_gr (by omega) k0 (by rfl) (by rfl) ?_
    refine c_gi (by omega) A.1 (by rfl) (by rfl) ?_
    rw [x6, zF]
    refine c_ift (by decide) ?_
    refine c_gr (by omega) k0 (by rfl) (by rfl) ?_
    refine c_gr (by omega) k0 (by rfl) (by rfl) ?_
    refine c_gi (by omega) B.1 (by rfl) (by rfl) ?_
    rw [y6]
    refine c_iff (fun w => by have := (nI_leI (b := 0) (by omega) (by omega)).mp w; omega) ?_
    refine c_gr (by omega) k0 (by rfl) (by rfl) ?_
    exact s57
  · obtain ⟨l, t, r, b, q1, q2, q3, q4, q5, q6, q7, q8⟩ := X2.2 zF
    obtain ⟨w1, w2⟩ := isBox_le q1
    have notle : ¬ nI (ctP F) ≤ 0 := fun w => by have := (nI_leI (b := 0) (by omega) (by omega)).mp w; omega
    by_cases zG : ctP G = 0
    · have G0 : ∀ y, G y = 0 := fun y => by
        rcases Nat.lt_or_ge y 64 with h | h
        · exact ctP_0.mp zG y h
        · exact okP_out oG (by omega)
      have s57 := settle57 (S := S) (W := W) (H := H) (n := n) (m := m2) (R := R) (a := R + 1) (b := R + 1) (by omega) k0 A A (by omega) (by omega) q4 q5 q6 q7 q4 q5 q6 q7 w1 w2 w1 w2 q2 q3 q2 q3
      rw [Nat.min_self, Nat.min_self, Nat.max_self, Nat.max_self] at s57
      refine out (isBox_cong (fun y x => by (try dsimp only); rw [lb_or, G0 y, lb_0, Bool.or_false]) q1) q2 q3 (row ?_)
      refine c_gr (by omega) k0 (by rfl) (by rfl) ?_
      refine c_gi (by omega) A.1 (by rfl) (by rfl) ?_
      rw [x6]
      refine c_iff notle ?_
      refine c_gr (by omega) k0 (by rfl) (by rfl) ?_
      refine c_gr (by omega) k0 (by rfl) (by rfl) ?_
      refine c_gi (by omega) B.1 (by rfl) (by rfl) ?_
      rw [y6, zG]
      refine c_ift (by decide) ?_
      refine c_gr (by omega) k0 (by rfl) (by rfl) ?_
      exact s57
    · obtain ⟨l', t', r', b', p1, p2, p3, p4, p5, p6, p7, p8⟩ := g2.2 zG
      obtain ⟨v1, v2⟩ := isBox_le p1
      have s57 := settle57 (S := S) (W := W) (H := H) (n := n) (m := m2) (R := R) (a := R + 1) (b := R + 3) (by omega) k0 A B (by omega) (by omega) q4 q5 q6 q7 p4 p5 p6 p7 w1 w2 v1 v2 q2 q3 p2 p3
      refine out (isBox_or q1 p1) (by omega) (by omega) (row ?_)
      refine c_gr (by omega) k0 (by rfl) (by rfl) ?_
      refine c_gi (by omega) A.1 (by rfl) (by rfl) ?_
      rw [x6]
      refine c_iff notle ?_
      refine c_gr (by omega) k0 (by rfl) (by rfl) ?_
      refine c_gr (by omega) k0 (by rfl) (by rfl) ?_
      refine c_gi (by omega) B.1 (by rfl) (by rfl) ?_
      rw [y6]
      refine c_iff (fun w => by have := (nI_leI (b := 0) (by omega) (by omega)).mp w; omega) ?_
      refine c_gr (by omega) k0 (by rfl) (by rfl) ?_
      exact s57
end FS

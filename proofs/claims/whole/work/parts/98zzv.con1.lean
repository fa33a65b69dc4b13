/-! CONSTRUCTORS of the class, at its own cells -/
def dfL : List Int32 := [8, 2, 1, 0, 8, 0, 0, 0, 4, 0]
/-- the memory at the start -/
def m0 : mM := (fun a => if a = 35 then tkF dfL 10 else if a = 98 then tkF dfL 10 else if a = 64 then (fun j => if j = 8 then 8 else 0) else fun _ => 0, fun _ _ => 0, fun a => if a = 49 then rkF 50 7 else fun _ => none)
abbrev G0 (W H : Nat) : Nat → xE := eX W H m0
def clN (x : Int32) : Nat := (max 8 (min 64 x.toInt)).toNat
theorem clN_b (x : Int32) : 8 ≤ clN x ∧ clN x ≤ 64 := by unfold clN; omega
theorem clN_x {x : Int32} (h1 : 8 ≤ x.toInt) (h2 : x.toInt ≤ 64) : x = nI (clN x) := by
  have e : ((clN x : Nat) : Int) = x.toInt := by unfold clN; omega
  rw [← zI_n (by have := clN_b x; omega), e, zI_of]
theorem clN_c (x : Int32) : (if (if (64 : Int32) ≤ x then (64 : Int32) else x) ≤ 8 then (8 : Int32) else (if (64 : Int32) ≤ x then (64 : Int32) else x)) = nI (clN x) := by
  by_cases a : (64 : Int32) ≤ x
  · rw [if_pos a, if_neg (by decide)]
    rw [fa_le] at a
    have a : (64 : Int) ≤ x.toInt := a
    rw [show clN x = 64 by unfold clN; omega]
    rfl
  · rw [if_neg a]
    rw [fa_le] at a
    have a : ¬ (64 : Int) ≤ x.toInt := a
    by_cases b : x ≤ 8
    · rw [if_pos b]
      rw [fa_le] at b
      have b : x.toInt ≤ (8 : Int) := b
      rw [show clN x = 8 by unfold clN; omega]
      rfl
    · rw [if_neg b]
      rw [fa_le] at b
      have b : ¬ x.toInt ≤ (8 : Int) := b
      exact clN_x (by omega) (by omega)
theorem clN_m (x : Int32) : ((8 : Int32) ≤ x ∧ x ≤ 64 ∧ x = nI (clN x)) ∨ ((8 : Int32) ≤ x ∧ ¬ x ≤ 64 ∧ (64 : Int32) = nI (clN x)) ∨ (¬ (8 : Int32) ≤ x ∧ (8 : Int32) = nI (clN x)) := by
  by_cases a : (8 : Int32) ≤ x
  · have a2 : (8 : Int) ≤ x.toInt := by rw [fa_le] at a; exact a
    by_cases b : x ≤ 64
    · have b2 : x.toInt ≤ (64 : Int) := by rw [fa_le] at b; exact b
      exact Or.inl ⟨a, b, clN_x a2 b2⟩
    · have b2 : ¬ x.toInt ≤ (64 : Int) := by rw [fa_le] at b; exact b
      refine Or.inr (Or.inl ⟨a, b, ?_⟩)
      rw [show clN x = 64 by unfold clN; omega]
      rfl
  · have a2 : ¬ (8 : Int) ≤ x.toInt := by rw [fa_le] at a; exact a
    refine Or.inr (Or.inr ⟨a, ?_⟩)
    rw [show clN x = 8 by unfold clN; omega]
    rfl
section MFt
variable {k : Nat} {F : Nat → xE} {R : Option xO} {v : Option Value ⊕ String} {h2 : xH} {c2 s2 : Nat}
theorem f_pw {G : xH → Option xO} {a ci j kk : Nat} {fs : List Value} {w w' : Value} (hv : w = w') (ha : a < k) (hj : Nat.blt j fs.length = true) (hp : xPok true kk ci j w = true) (K : G (MF k (Fu F a (.inr (ci, fs.set j w')))) = R) : (xP true kk (MF k (Fu F a (.inr (ci, fs)))) a ci j w).bind G = R := f_p ha hj hp (by rw [hv]; exact K)
theorem MF_ap1 {x : xE} (h : F k = x) : MF k F ++ [x] = MF (k + 1) F := by rw [MF_app, Fu_same h]
theorem MF_ap {x : xE} {r : xH} (h : F k = x) : MF k F ++ x :: r = MF (k + 1) F ++ r := by rw [← MF_ap1 h, List.append_assoc, List.singleton_append]
theorem f_nm {T : Nat → xH → Option xO} (hx : F k = .inl (7, 6, .inr (.inr (.inr (.inr (fun j => if j < 6 then some (k + 1 + j) else none)))))) (hy : ∀ j, j < 6 → F (k + 1 + j) = .inl (0, 4, .inl (fun _ => 0))) (K : T k (MF (k + 1 + 6) F) = some (v, h2, c2, s2)) : xNm2 (6 : Int32) (4 : Int32) (MF k F) T = some (v, h2, c2 + (1 + 6), s2 + (6 + 6 * 4)) := by
  unfold xNm2
  rw [if_pos (by decide), show (6 : Int32).toNatClampNeg = 6 from rfl, show (4 : Int32).toNatClampNeg = 4 from rfl, MF_len, MF_ap1 hx]
  have e : MF (k + 1) F ++ List.replicate 6 (.inl (0, 4, .inl (fun _ => 0))) = MF (k + 1 + 6) F := by
    show MF (k + 1) F ++ (_ :: _ :: _ :: _ :: _ :: _ :: []) = _
    rw [MF_ap (hy 0 (by decide)), MF_ap (hy 1 (by decide)), MF_ap (hy 2 (by decide)), MF_ap (hy 3 (by decide)), MF_ap (hy 4 (by decide)), MF_ap (hy 5 (by decide)), List.append_nil]
  rw [e, K]
  rfl
end MFt
section INC
variable {S : xS} {W H k : Nat} {F : Nat → xE} {v : Option Value ⊕ String} {h2 : xH} {c2 s2 : Nat}
def imF (W H : Nat) (F : Nat → xE) (k : Nat) : Prop := F k = .inr (4, [.int (nI W), .int (nI H), .long (wh W), .ref (k + 1)]) ∧ F (k + 1) = .inl (1, H, .inr (.inl (fun _ => 0)))
theorem imF_n {a : Nat} {x : xE} (q : imF W H F k) (h1 : k ≠ a) (h2 : k + 1 ≠ a) : imF W H (Fu F a x) k := ⟨(Fu_n h1).trans q.1, (Fu_n h2).trans q.2⟩
theorem img_i (hW : W ≤ 64) (hH : H ≤ 64) (q : imF W H F k) : xM S mX4_init [.ref k, .int (nI W), .int (nI H)] (MF (k + 1) (Fu F k (.inr (4, xDef 4)))) = some (.inl none, MF (k + 2) F, 1, H) := by
  have e := img_init (S := S) hW hH q.1 q.2
  rw [Nat.zero_add, Nat.zero_add] at e
  exact e
theorem f_img (hW : W ≤ 64) (hH : H ≤ 64) (q : imF W H F k) {T : Nat → xH → Option xO} (K : T k (MF (k + 2) F) = some (v, h2, c2, s2)) : xNo 4 (MF k F) (fun a h1 => xqC (xM S mX4_init [.ref a, .int (nI W), .int (nI H)] h1) fun h3 => T a h3) = some (v, h2, c2 + 1 + 1, s2 + H + 4) := f_no (k_C (img_i hW hH q) K)

theorem blb_i (hW : W ≤ 64) (hH : H ≤ 64) (hF : ∀ i, 29 ≤ i → i < 32 → F i = G0 W H i) : xM S mX0_init [.ref 29, .int (nI W), .int (nI H)] (MF 30 (Fu F 29 (.inr (0, xDef 0)))) = some (.inl none, MF 32 F, 2, 0 + H + H) := by
  refine w_X0_init S _ _ _ _ _ ?_
  refine c_ift (by rw [MF_len]; decide) ?_
  refine f_p (by decide) rfl (xPok_int (by decide) (by rfl)) ?_
  refine f_p (by decide) rfl (xPok_int (by decide) (by rfl)) ?_
  refine f_nx rfl (by omega) ((Fu_n (by decide)).trans ((hF 30 (by decide) (by decide)).trans rfl)) ?_
  refine f_p (by decide) rfl (xPok_ref (by decide) (by rfl)) ?_
  refine f_nx rfl (by omega) ((Fu_n (by decide)).trans ((hF 31 (by decide) (by decide)).trans rfl)) ?_
  refine f_p (by decide) rfl (xPok_ref (by decide) (by rfl)) ?_
  rw [pk_mul]
  exact f_ret ((hF 29 (by decide) (by decide)).trans rfl)
theorem txt_i (hF : ∀ i, 32 ≤ i → i < 34 → F i = G0 W H i) : xM S mX11_init [.ref 32] (MF 33 (Fu F 32 (.inr (10, xDef 10)))) = some (.inl none, MF 34 F, 1, 80) := by
  refine w_X11_init S _ _ _ ?_
  refine c_ift (by rw [MF_len]; decide) ?_
  refine f_nx (q := 80) rfl (by decide) ((Fu_n (by decide)).trans ((hF 33 (by decide) (by decide)).trans rfl)) ?_
  refine f_p (by decide) rfl (xPok_ref (by decide) (by rfl)) ?_
  exact f_ret ((hF 32 (by decide) (by decide)).trans rfl)
theorem xCi28 : ∀ s, s < 10 → xCi s 2 28 = some (dfL.getD s 0) := by decide +kernel
theorem cfg_l (h0 : F 34 = .inr (2, [.ref 35, .ref 36, .int 0, .ref 37, .ref 38, .int 0])) : ∀ i, i ≤ 10 → xden S mX2_init 46 [(0, .ref 34), (1, .int (nI i))] [] (MF 39 (Fu F 35 (.inl (0, 10, .inl (tkF dfL i))))) = some (.inl none, MF 39 (Fu F 35 (.inl (0, 10, .inl (tkF dfL 10)))), 0, 0) := x_down 10 (fun i hi K => by
  refine w_X2_init_46 S _ _ _ _ ?_
  refine c_iff (fun w => by have := (nI_leI (a := 10) (by omega) (by omega)).mp w; omega) ?_
  refine f_gr (by decide) ((Fu_n (by decide)).trans h0) rfl ?_
  refine c_ift (xin_nI hi (by omega)) ?_
  rw [nI_clamp (by omega), xCi28 i hi, Option.bind_some]
  refine f_wi rfl (by decide) hi (by omega) (tkF_s dfL i rfl) ?_
  refine c_let ?_
  rw [nI_suc]
  exact K) (by
  refine w_X2_init_46 S _ _ _ _ ?_
  exact c_ift (by decide) rfl)
theorem cfg_i (hF : ∀ i, 34 ≤ i → i < 39 → F i = G0 W H i) : xM S mX2_init [.ref 34] (MF 35 (Fu F 34 (.inr (2, xDef 2)))) = some (.inl none, MF 39 F, 4, 40) := by
  have e0 : F 34 = .inr (2, [.ref 35, .ref 36, .int 0, .ref 37, .ref 38, .int 0]) := (hF 34 (by decide) (by decide)).trans rfl
  have e1 : F 35 = .inl (0, 10, .inl (tkF dfL 10)) := (hF 35 (by decide) (by decide)).trans rfl
  have L := cfg_l (S := S) e0 0 (by omega)
  rw [Fu_same e1, ← tkF_0] at L
  refine w_X2_init S _ _ _ ?_
  refine c_ift (by rw [MF_len]; decide) ?_
  refine f_na (q := 10) rfl (by decide) ?_
  refine f_q (by decide) (by decide) rfl (xPok_ref (by decide) (by rfl)) ?_
  refine f_nx (q := 10) rfl (by decide) ((Fu_n (by decide)).trans ((Fu_n (by decide)).trans ((hF 36 (by decide) (by decide)).trans rfl))) ?_
  refine f_q (by decide) (by decide) rfl (xPok_ref (by decide) (by rfl)) ?_
  refine f_nx (q := 10) rfl (by decide) ((Fu_n (by decide)).trans ((Fu_n (by decide)).trans ((hF 37 (by decide) (by decide)).trans rfl))) ?_
  refine f_q (by decide) (by decide) rfl (xPok_ref (by decide) (by rfl)) ?_
  refine f_nx (q := 10) rfl (by decide) ((Fu_n (by decide)).trans ((Fu_n (by decide)).trans ((hF 38 (by decide) (by decide)).trans rfl))) ?_
  refine f_q (by decide) (by decide) rfl (xPok_ref (by decide) (by rfl)) ?_
  have e : ∀ y, Fu (Fu F 34 (.inr (2, ((((xDef 2).set 0 (.ref 35)).set 1 (.ref 36)).set 3 (.ref 37)).set 4 (.ref 38)))) 35 y = Fu F 35 y := fun y => congrArg (fun z => Fu z 35 y) (Fu_same e0)
  exact (congrArg (fun x => xden S mX2_init 46 [(0, .ref 34), (1, .int (0 : Int32))] [] (MF 39 x)) (e _)).trans L
theorem prt_i (q : F k = .inr (5, [.int 0, .ref (k + 1), .int 0, .int 0, .int 0, .int 0, .int 0, .int 0, .null, .int 0, .int 0]) ∧ F (k + 1) = .inl (1, 64, .inr (.inl (fun _ => 0)))) : xM S mX5_init [.ref k, .int (0 : Int32)] (MF (k + 1) (Fu F k (.inr (5, xDef 5)))) = some (.inl none, MF (k + 2) F, 1, 64) := prt_init (Or.inl rfl) q.1 q.2
def ptF (F : Nat → xE) (k : Nat) : Prop := F k = .inr (5, [.int 0, .ref (k + 1), .int 0, .int 0, .int 0, .int 0, .int 0, .int 0, .null, .int 0, .int 0]) ∧ F (k + 1) = .inl (1, 64, .inr (.inl (fun _ => 0)))
theorem ptF_n {a : Nat} {x : xE} (q : ptF F k) (h1 : k ≠ a) (h2 : k + 1 ≠ a) : ptF (Fu F a x) k := ⟨(Fu_n h1).trans q.1, (Fu_n h2).trans q.2⟩
theorem stp_l {o : List Value} (ho : o[0]? = some (.ref 49)) (im : ∀ j, j < 7 → ptF F (50 + 2 * j)) : ∀ i, i ≤ 7 → xden S mX10_init 15 [(0, .ref 48), (1, .int (nI i))] [] (MF (50 + 2 * i) (Fu (Fu F 48 (.inr (9, o))) 49 (.inl (5, 7, .inr (.inr (.inr (.inr (rkF 50 i)))))))) = some (.inl none, MF 64 (Fu (Fu F 48 (.inr (9, o))) 49 (.inl (5, 7, .inr (.inr (.inr (.inr (rkF 50 7))))))), (7 - i) * 2, (7 - i) * 75) := x_down 7 (fun i hi K => by
  refine w_X10_init_15 S _ _ _ _ ?_
  refine c_iff (fun w => by have := (nI_leI (a := 7) (by omega) (by omega)).mp w; omega) ?_
  refine f_gr (by omega) (by rw [Fu_n (by omega), Fu_e]) ho ?_
  rw [show (7 - i) * 2 = (7 - (i + 1)) * 2 + 1 + 1 by omega, show (7 - i) * 75 = (7 - (i + 1)) * 75 + 64 + 11 by omega]
  refine f_no ?_
  refine k_C (prt_i (ptF_n (ptF_n (im i hi) (by omega) (by omega)) (by omega) (by omega))) ?_
  refine f_wr rfl (by omega) (by omega) (gs := [.int 0, .ref (50 + 2 * i + 1), .int 0, .int 0, .int 0, .int 0, .int 0, .int 0, .null, .int 0, .int 0]) (by rw [Fu_n (by omega), Fu_n (by omega)]; exact (im i hi).1) (by rfl) hi (by omega) (rkF_s 50 i) ?_
  refine c_let ?_
  rw [nI_suc]
  exact K) (by
  refine w_X10_init_15 S _ _ _ _ ?_
  exact c_ift (by decide) rfl)
theorem stp_i (hF : ∀ i, 48 ≤ i → i < 64 → F i = G0 W H i) : xM S mX10_init [.ref 48] (MF 49 (Fu F 48 (.inr (9, xDef 9)))) = some (.inl none, MF 64 F, (7 - 0) * 2 + 1, (7 - 0) * 75 + 7) := by
  have e0 : F 48 = .inr (9, [.ref 49, .int 0]) := (hF 48 (by decide) (by decide)).trans rfl
  have e1 : F 49 = .inl (5, 7, .inr (.inr (.inr (.inr (rkF 50 7))))) := (hF 49 (by decide) (by decide)).trans rfl
  have im : ∀ j, j < 7 → ptF F (50 + 2 * j) := fun j hj => by
    have q : ∀ j, j < 7 → ptF (G0 W H) (50 + 2 * j) := fun j hj => by
      rcases (show j = 0 ∨ j = 1 ∨ j = 2 ∨ j = 3 ∨ j = 4 ∨ j = 5 ∨ j = 6 by omega) with rfl | rfl | rfl | rfl | rfl | rfl | rfl <;> exact ⟨rfl, rfl⟩
    exact ⟨(hF _ (by omega) (by omega)).trans (q j hj).1, (hF _ (by omega) (by omega)).trans (q j hj).2⟩
  have L := stp_l (S := S) (F := F) (o := [.ref 49, .int 0]) rfl im 0 (by omega)
  rw [Fu_same e0, Fu_same e1, ← rkF_0] at L
  refine w_X10_init S _ _ _ ?_
  refine c_ift (by rw [MF_len]; decide) ?_
  refine f_na (q := 7) rfl (by decide) ?_
  refine f_q (by decide) (by decide) rfl (xPok_ref (by decide) (by rfl)) ?_
  have e : ∀ y, Fu (Fu F 48 (.inr (9, (xDef 9).set 0 (.ref 49)))) 49 y = Fu F 49 y := fun y => congrArg (fun z => Fu z 49 y) (Fu_same e0)
  exact (congrArg (fun x => xden S mX10_init 15 [(0, .ref 48), (1, .int (0 : Int32))] [] (MF 50 x)) (e _)).trans L
theorem imF_of {a : Nat} (h1 : F a = G0 W H a) (h2 : F (a + 1) = G0 W H (a + 1)) (q : imF W H (G0 W H) a) : imF W H F a := ⟨h1.trans q.1, h2.trans q.2⟩
theorem imF_0 (W H : Nat) : imF W H (G0 W H) 2 ∧ imF W H (G0 W H) 4 ∧ imF W H (G0 W H) 6 ∧ imF W H (G0 W H) 8 ∧ imF W H (G0 W H) 46 ∧ imF W H (G0 W H) 72 ∧ imF W H (G0 W H) 74 ∧ imF W H (G0 W H) 76 ∧ imF W H (G0 W H) 78 ∧ imF W H (G0 W H) 80 ∧ imF W H (G0 W H) 85 ∧ imF W H (G0 W H) 87 := by
  refine ⟨?_, ?_, ?_, ?_, ?_, ?_, ?_, ?_, ?_, ?_, ?_, ?_⟩ <;> exact ⟨rfl, rfl⟩
theorem reg_i (hW : W ≤ 64) (hH : H ≤ 64) (hF : ∀ i, 82 ≤ i → i < 89 → F i = G0 W H i) : xM S mX8_init [.ref 82, .int (nI W), .int (nI H)] (MF 83 (Fu F 82 (.inr (8, xDef 8)))) = some (.inl none, MF 89 F, 6, 0 + H + 4 + H + 4 + 256 + 256) := by
  obtain ⟨_, _, _, _, _, _, _, _, _, _, q85, q87⟩ := imF_0 W H
  refine w_X8_init S _ _ _ _ _ ?_
  refine c_ift (by rw [MF_len]; decide) ?_
  refine f_nx (q := 256) rfl (by decide) ((Fu_n (by decide)).trans ((hF 83 (by decide) (by decide)).trans rfl)) ?_
  refine f_p (by decide) rfl (xPok_ref (by decide) (by rfl)) ?_
  refine f_nx (q := 256) rfl (by decide) ((Fu_n (by decide)).trans ((hF 84 (by decide) (by decide)).trans rfl)) ?_
  refine f_p (by decide) rfl (xPok_ref (by decide) (by rfl)) ?_
  refine f_p (by decide) rfl (xPok_int (by decide) (by rfl)) ?_
  refine f_p (by decide) rfl (xPok_int (by decide) (by rfl)) ?_
  refine f_img hW hH (imF_n (imF_of (hF _ (by decide) (by decide)) (hF _ (by decide) (by decide)) q85) (by decide) (by decide)) ?_
  refine f_p (by decide) rfl (xPok_ref (by decide) (by rfl)) ?_
  refine f_img hW hH (imF_n (imF_of (hF _ (by decide) (by decide)) (hF _ (by decide) (by decide)) q87) (by decide) (by decide)) ?_
  refine f_p (by decide) rfl (xPok_ref (by decide) (by rfl)) ?_
  exact f_ret ((hF 82 (by decide) (by decide)).trans rfl)
theorem cmp_i (hW : W ≤ 64) (hH : H ≤ 64) (hF : ∀ i, 64 ≤ i → i < 89 → F i = G0 W H i) : xM S mX1_init [.ref 64, .int (nI W), .int (nI H)] (MF 65 (Fu F 64 (.inr (1, xDef 1)))) = some (.inl none, MF 89 F, 24, 0 + (0 + H + 4 + H + 4 + 256 + 256) + 14 + H + 4 + H + 4 + H + 4 + H + 4 + H + 4 + 512 + 256 + 256 + 256 + 256 + 256 + 256) := by
  obtain ⟨_, _, _, _, _, q72, q74, q76, q78, q80, _, _⟩ := imF_0 W H
  refine w_X1_init S _ _ _ _ _ ?_
  refine c_ift (by rw [MF_len]; decide) ?_
  refine f_nx (q := 256) rfl (by decide) ((Fu_n (by decide)).trans ((hF 65 (by decide) (by decide)).trans rfl)) ?_
  refine f_p (by decide) rfl (xPok_ref (by decide) (by rfl)) ?_
  refine f_nx (q := 256) rfl (by decide) ((Fu_n (by decide)).trans ((hF 66 (by decide) (by decide)).trans rfl)) ?_
  refine f_p (by decide) rfl (xPok_ref (by decide) (by rfl)) ?_
  refine f_nx (q := 256) rfl (by decide) ((Fu_n (by decide)).trans ((hF 67 (by decide) (by decide)).trans rfl)) ?_
  refine f_p (by decide) rfl (xPok_ref (by decide) (by rfl)) ?_
  refine f_nx (q := 256) rfl (by decide) ((Fu_n (by decide)).trans ((hF 68 (by decide) (by decide)).trans rfl)) ?_
  refine f_p (by decide) rfl (xPok_ref (by decide) (by rfl)) ?_
  refine f_nx (q := 256) rfl (by decide) ((Fu_n (by decide)).trans ((hF 69 (by decide) (by decide)).trans rfl)) ?_
  refine f_p (by decide) rfl (xPok_ref (by decide) (by rfl)) ?_
  refine w_X1_init_50 S _ _ _ _ _ ?_
  refine f_nx (q := 256) rfl (by decide) ((Fu_n (by decide)).trans ((hF 70 (by decide) (by decide)).trans rfl)) ?_
  refine f_p (by decide) rfl (xPok_ref (by decide) (by rfl)) ?_
  refine f_nx (q := 512) rfl (by decide) ((Fu_n (by decide)).trans ((hF 71 (by decide) (by decide)).trans rfl)) ?_
  refine f_p (by decide) rfl (xPok_ref (by decide) (by rfl)) ?_
  refine f_p (by decide) rfl (xPok_int (by decide) (by rfl)) ?_
  refine f_p (by decide) rfl (xPok_int (by decide) (by rfl)) ?_
  refine f_img hW hH (imF_n (imF_of (hF _ (by decide) (by decide)) (hF _ (by decide) (by decide)) q72) (by decide) (by decide)) ?_
  refine f_p (by decide) rfl (xPok_ref (by decide) (by rfl)) ?_
  refine w_X1_init_93 S _ _ _ _ _ ?_
  refine f_img hW hH (imF_n (imF_of (hF _ (by decide) (by decide)) (hF _ (by decide) (by decide)) q74) (by decide) (by decide)) ?_
  refine f_p (by decide) rfl (xPok_ref (by decide) (by rfl)) ?_
  refine f_img hW hH (imF_n (imF_of (hF _ (by decide) (by decide)) (hF _ (by decide) (by decide)) q76) (by decide) (by decide)) ?_
  refine f_p (by decide) rfl (xPok_ref (by decide) (by rfl)) ?_
  refine f_img hW hH (imF_n (imF_of (hF _ (by decide) (by decide)) (hF _ (by decide) (by decide)) q78) (by decide) (by decide)) ?_
  refine f_p (by decide) rfl (xPok_ref (by decide) (by rfl)) ?_
  refine w_X1_init_132 S _ _ _ _ _ ?_
  refine f_img hW hH (imF_n (imF_of (hF _ (by decide) (by decide)) (hF _ (by decide) (by decide)) q80) (by decide) (by decide)) ?_
  refine f_p (by decide) rfl (xPok_ref (by decide) (by rfl)) ?_
  refine f_no ?_
  refine k_C (reg_i hW hH (fun i h1 h2 => (Fu_n (by omega)).trans (hF i (by omega) (by omega)))) ?_
  refine f_p (by decide) rfl (xPok_ref (by decide) (by rfl)) ?_
  refine f_p (by decide) rfl (xPok_int (by decide) (by rfl)) ?_
  exact f_ret ((hF 64 (by decide) (by decide)).trans rfl)
end INC

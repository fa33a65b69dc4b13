/-! CONSTRUCTORS: the whole class -/
section INC2
variable {S : xS} {W H : Nat} {v : Option Value ⊕ String} {h2 : xH} {c2 s2 : Nat}
theorem x12_l (hW : W ≤ 64) (hH : H ≤ 64) {F : Nat → xE} {o : List Value} (o0 : o[0]? = some (.int (nI W))) (o1 : o[1]? = some (.int (nI H))) (o2 : o[2]? = some (.ref 1)) (im : ∀ j, j < 4 → imF W H F (2 + 2 * j)) (K0 : xden S mX12_init 44 [(0, .ref 0), (3, .int (nI 4))] [] (MF 10 (Fu (Fu F 0 (.inr (11, o))) 1 (.inl (4, 4, .inr (.inr (.inr (.inr (rkF 2 4)))))))) = some (v, h2, c2, s2)) : ∀ i, i ≤ 4 → xden S mX12_init 44 [(0, .ref 0), (3, .int (nI i))] [] (MF (2 + 2 * i) (Fu (Fu F 0 (.inr (11, o))) 1 (.inl (4, 4, .inr (.inr (.inr (.inr (rkF 2 i)))))))) = some (v, h2, c2 + (4 - i) * 2, s2 + (4 - i) * (4 + H)) := x_down 4 (fun i hi K => by
  refine w_X12_init_44 S _ _ _ _ ?_
  refine c_iff (fun w => by have := (nI_leI (a := 4) (by omega) (by omega)).mp w; omega) ?_
  refine f_gr (by omega) (by rw [Fu_n (by omega), Fu_e]) o2 ?_
  rw [show c2 + (4 - i) * 2 = c2 + (4 - (i + 1)) * 2 + 1 + 1 by omega, show s2 + (4 - i) * (4 + H) = s2 + (4 - (i + 1)) * (4 + H) + H + 4 by
    obtain ⟨r, hr⟩ : ∃ r, 4 - i = r + 1 := ⟨4 - i - 1, by omega⟩
    rw [show 4 - (i + 1) = r by omega, hr, Nat.succ_mul]
    omega]
  refine f_no ?_
  refine f_gi (by omega) (by rw [Fu_n (by omega), Fu_n (by omega), Fu_e]) o0 ?_
  refine f_gi (by omega) (by rw [Fu_n (by omega), Fu_n (by omega), Fu_e]) o1 ?_
  refine k_C (img_i hW hH (imF_n (imF_n (im i hi) (by omega) (by omega)) (by omega) (by omega))) ?_
  refine f_wr rfl (by omega) (by omega) (gs := [.int (nI W), .int (nI H), .long (wh W), .ref (2 + 2 * i + 1)]) (by rw [Fu_n (by omega), Fu_n (by omega)]; exact (im i hi).1) (by rfl) hi (by omega) (rkF_s 2 i) ?_
  refine c_let ?_
  rw [nI_suc]
  exact K) (by rw [Nat.sub_self, Nat.zero_mul, Nat.zero_mul]; exact K0)
theorem prb_i {F : Nat → xE} (h : F 89 = .inr (6, xDef 6)) : xM S mX6_init [.ref 89] (MF 90 (Fu F 89 (.inr (6, xDef 6)))) = some (.inl none, MF 90 F, 0, 0) := by
  refine w_X6_init S _ _ _ ?_
  refine c_ift (by rw [MF_len]; decide) ?_
  exact f_ret h
/-- the fields of the class's object while it is made -/
def o12 (W H : Nat) : Nat → List Value
  | 0 => [.int (nI W), .int (nI H), .ref 1, .null, .null, .null, .null, .null, .int 0, .null, .null, .null, .int 0, .null]
  | 1 => [.int (nI W), .int (nI H), .ref 1, .ref 10, .null, .null, .null, .null, .int 0, .null, .null, .null, .int 0, .null]
  | 2 => [.int (nI W), .int (nI H), .ref 1, .ref 10, .ref 29, .ref 32, .ref 34, .ref 39, .int 0, .null, .null, .null, .int 0, .null]
  | 3 => [.int (nI W), .int (nI H), .ref 1, .ref 10, .ref 29, .ref 32, .ref 34, .ref 39, .int 0, .ref 46, .ref 48, .ref 64, .int 0, .null]
  | _ => [.int (nI W), .int (nI H), .ref 1, .ref 10, .ref 29, .ref 32, .ref 34, .ref 39, .int 0, .ref 46, .ref 48, .ref 64, .int 0, .ref 89]
theorem hG0 (o : xE) (i : Nat) (h : 1 ≤ i) : Fu (G0 W H) 0 o i = G0 W H i := Fu_n (by omega)
theorem x12_196 : xden S mX12_init 196 [(0, .ref 0)] [] (MF 89 (Fu (G0 W H) 0 (.inr (11, o12 W H 3)))) = some (.inl none, MF 90 (G0 W H), 0 + 0 + 1, 0 + 0 + 3) := by
  refine w_X12_init_196 S _ _ _ ?_
  refine f_no ?_
  refine k_C (prb_i ((Fu_n (by decide)).trans rfl)) ?_
  refine f_p (by decide) rfl (xPok_ref (by decide) (by rfl)) ?_
  exact f_ret rfl
theorem x12_147 (hW : W ≤ 64) (hH : H ≤ 64) : xden S mX12_init 147 [(0, .ref 0)] [] (MF 46 (Fu (G0 W H) 0 (.inr (11, o12 W H 2)))) = some (.inl none, MF 90 (G0 W H), 0 + 0 + 1 + 24 + 1 + ((7 - 0) * 2 + 1) + 1 + 1 + 1, 0 + 0 + 3 + (0 + (0 + H + 4 + H + 4 + 256 + 256) + 14 + H + 4 + H + 4 + H + 4 + H + 4 + H + 4 + 512 + 256 + 256 + 256 + 256 + 256 + 256) + 20 + ((7 - 0) * 75 + 7) + 2 + H + 4) := by
  obtain ⟨_, _, _, _, q46, _⟩ := imF_0 W H
  refine w_X12_init_147 S _ _ _ ?_
  refine f_no ?_
  refine f_gi (by decide) ((Fu_n (by decide)).trans Fu_e) rfl ?_
  refine f_gi (by decide) ((Fu_n (by decide)).trans Fu_e) rfl ?_
  refine k_C (img_i hW hH (imF_n q46 (by decide) (by decide))) ?_
  refine f_p (by decide) rfl (xPok_ref (by decide) (by rfl)) ?_
  refine f_no ?_
  refine k_C (stp_i (W := W) (H := H) (fun i h1 _ => hG0 _ i (by omega))) ?_
  refine f_p (by decide) rfl (xPok_ref (by decide) (by rfl)) ?_
  refine f_no ?_
  refine f_gi (by decide) ((Fu_n (by decide)).trans Fu_e) rfl ?_
  refine f_gi (by decide) ((Fu_n (by decide)).trans Fu_e) rfl ?_
  refine k_C (cmp_i hW hH (fun i h1 _ => hG0 _ i (by omega))) ?_
  refine f_p (by decide) rfl (xPok_ref (by decide) (by rfl)) ?_
  exact x12_196
theorem x12_95 (hW : W ≤ 64) (hH : H ≤ 64) {c3 s3 : Nat} (K : xden S mX12_init 147 [(0, .ref 0)] [] (MF 46 (Fu (G0 W H) 0 (.inr (11, o12 W H 2)))) = some (v, h2, c3, s3)) : xden S mX12_init 95 [(0, .ref 0)] [] (MF 29 (Fu (G0 W H) 0 (.inr (11, o12 W H 1)))) = some (v, h2, c3 + (1 + 6) + 4 + 1 + 1 + 1 + 2 + 1, s3 + (6 + 6 * 4) + 40 + 6 + 80 + 2 + (0 + H + H) + 6) := by
  refine w_X12_init_95 S _ _ _ ?_
  refine f_no ?_
  refine f_gi (by decide) ((Fu_n (by decide)).trans Fu_e) rfl ?_
  refine f_gi (by decide) ((Fu_n (by decide)).trans Fu_e) rfl ?_
  refine k_C (c := 2) (s := 0 + H + H) (blb_i hW hH (F := Fu (G0 W H) 0 (.inr (11, o12 W H 1))) (fun i h1 _ => hG0 _ i (by omega))) ?_
  refine f_p (by decide) rfl (xPok_ref (by decide) (by rfl)) ?_
  refine f_no ?_
  refine k_C (c := 1) (s := 80) (txt_i (W := W) (H := H) (fun i h1 _ => hG0 _ i (by omega))) ?_
  refine f_p (by decide) rfl (xPok_ref (by decide) (by rfl)) ?_
  refine f_no ?_
  refine k_C (c := 4) (s := 40) (cfg_i (W := W) (H := H) (fun i h1 _ => hG0 _ i (by omega))) ?_
  refine f_p (by decide) rfl (xPok_ref (by decide) (by rfl)) ?_
  refine f_nm (k := 39) ((Fu_n (by decide)).trans rfl) (fun j hj => (Fu_n (by omega)).trans ?_) ?_
  · rcases (show j = 0 ∨ j = 1 ∨ j = 2 ∨ j = 3 ∨ j = 4 ∨ j = 5 by omega) with rfl | rfl | rfl | rfl | rfl | rfl <;> rfl
  refine f_p (by decide) rfl (xPok_ref (by decide) (by rfl)) ?_
  exact K
theorem x12_44 (hW : W ≤ 64) (hH : H ≤ 64) {c3 s3 : Nat} (K : xden S mX12_init 95 [(0, .ref 0)] [] (MF 29 (Fu (G0 W H) 0 (.inr (11, o12 W H 1)))) = some (v, h2, c3, s3)) : xden S mX12_init 44 [(0, .ref 0), (3, .int (nI 4))] [] (MF 10 (Fu (G0 W H) 0 (.inr (11, o12 W H 0)))) = some (v, h2, c3 + ((8 - 0) * 2 + 1 + 1) + 1, s3 + ((8 - 0) * (4 + H) + 8 + 8) + 4) := by
  refine w_X12_init_44 S _ _ _ _ ?_
  refine c_ift (by decide) ?_
  refine f_no ?_
  refine f_gi (by decide) ((Fu_n (by decide)).trans Fu_e) rfl ?_
  refine f_gi (by decide) ((Fu_n (by decide)).trans Fu_e) rfl ?_
  refine k_C (hist_init (k := 10) hW hH ((Fu_n (by decide)).trans rfl) ((Fu_n (by decide)).trans rfl) ((Fu_n (by decide)).trans rfl) (fun j hj => ⟨(Fu_n (by omega)).trans ?_, (Fu_n (by omega)).trans ?_⟩)) ?_
  · rcases (show j = 0 ∨ j = 1 ∨ j = 2 ∨ j = 3 ∨ j = 4 ∨ j = 5 ∨ j = 6 ∨ j = 7 by omega) with rfl | rfl | rfl | rfl | rfl | rfl | rfl | rfl <;> rfl
  · rcases (show j = 0 ∨ j = 1 ∨ j = 2 ∨ j = 3 ∨ j = 4 ∨ j = 5 ∨ j = 6 ∨ j = 7 by omega) with rfl | rfl | rfl | rfl | rfl | rfl | rfl | rfl <;> rfl
  refine f_p (by decide) rfl (xPok_ref (by decide) (by rfl)) ?_
  exact K
theorem x12_a {x y : Int32} (eW : (if (if (64 : Int32) ≤ x then (64 : Int32) else x) ≤ 8 then (8 : Int32) else (if (64 : Int32) ≤ x then (64 : Int32) else x)) = nI W) (eH : (if (if (64 : Int32) ≤ y then (64 : Int32) else y) ≤ 8 then (8 : Int32) else (if (64 : Int32) ≤ y then (64 : Int32) else y)) = nI H) (K : xden S mX12_init 44 [(0, .ref 0), (3, .int (nI 0))] [] (MF 2 (Fu (Fu (G0 W H) 0 (.inr (11, o12 W H 0))) 1 (.inl (4, 4, .inr (.inr (.inr (.inr (fun _ => none)))))))) = some (v, h2, c2, s2)) : xM S mX12_init [.ref 0, .int x, .int y] (MF 1 (Fu (G0 W H) 0 (.inr (11, xDef 11)))) = some (v, h2, c2 + 1, s2 + 4) := by
  refine w_X12_init S _ _ _ _ _ ?_
  refine c_ift (by rw [MF_len]; decide) ?_
  refine c_qI (min_s S _ _ _) ?_
  refine c_qI (max_s S _ _ _) ?_
  refine f_pw (congrArg Value.int eW) (by decide) rfl (xPok_int (by decide) (by rfl)) ?_
  refine c_qI (min_s S _ _ _) ?_
  refine c_qI (max_s S _ _ _) ?_
  refine f_pw (congrArg Value.int eH) (by decide) rfl (xPok_int (by decide) (by rfl)) ?_
  refine f_na (q := 4) rfl (by decide) ?_
  refine f_q (by decide) (by decide) rfl (xPok_ref (by decide) (by rfl)) ?_
  refine w_X12_init_42 S _ _ _ ?_
  exact K
theorem x12_i {x y : Int32} (hW : W ≤ 64) (hH : H ≤ 64) (eW : (if (if (64 : Int32) ≤ x then (64 : Int32) else x) ≤ 8 then (8 : Int32) else (if (64 : Int32) ≤ x then (64 : Int32) else x)) = nI W) (eH : (if (if (64 : Int32) ≤ y then (64 : Int32) else y) ≤ 8 then (8 : Int32) else (if (64 : Int32) ≤ y then (64 : Int32) else y)) = nI H) : ∃ c s, xM S mX12_init [.ref 0, .int x, .int y] (MF 1 (Fu (G0 W H) 0 (.inr (11, xDef 11)))) = some (.inl none, MF 90 (G0 W H), c, s) ∧ c ≤ 200 ∧ s ≤ 10000 := by
  obtain ⟨q2, q4, q6, q8, _⟩ := imF_0 W H
  have im : ∀ j, j < 4 → imF W H (G0 W H) (2 + 2 * j) := fun j hj => by
    rcases (show j = 0 ∨ j = 1 ∨ j = 2 ∨ j = 3 by omega) with rfl | rfl | rfl | rfl
    · exact q2
    · exact q4
    · exact q6
    · exact q8
  have k1 := x12_44 hW hH (x12_95 hW hH (x12_147 (S := S) hW hH))
  have e : Fu (Fu (G0 W H) 0 (.inr (11, o12 W H 0))) 1 (.inl (4, 4, .inr (.inr (.inr (.inr (rkF 2 4)))))) = Fu (G0 W H) 0 (.inr (11, o12 W H 0)) := Fu_same ((Fu_n (by decide)).trans rfl)
  rw [← e] at k1
  have k2 := x12_l hW hH rfl rfl rfl im k1 0 (by omega)
  rw [← rkF_0] at k2
  refine ⟨_, _, x12_a eW eH k2, ?_, ?_⟩
  · simp only [Nat.sub_zero]
    omega
  · simp only [Nat.sub_zero]
    omega
end INC2

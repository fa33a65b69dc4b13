/-! THE START: both sides stand for one state; the law from its first instruction -/
theorem df_n : ∀ i, i < 10 → tkF dfL 10 i = nI ([8, 2, 1, 0, 8, 0, 0, 0, 4, 0].getD i 0) := by decide
theorem Rep0 (W H : Nat) : Rep W H 0 m0 := by
  have no : ∀ {i : Nat} {P : Prop}, i < 0 → P := fun h => absurd h (Nat.not_lt_zero _)
  refine ⟨fun _ _ => 0, [], fun _ => 0, 0, (fun i => [8, 2, 1, 0, 8, 0, 0, 0, 4, 0].getD i 0, 0, fun _ => 0), 0, fun _ _ => 0, 0, fun _ => (0, 0, fun _ => 0), ⟨?_, ?_, ?_, ?_, ?_, ?_, ?_, ?_, ?_⟩, ⟨?_, ?_, ?_, ?_, ?_, ?_⟩, ?_, ?_, Or.inl ⟨rfl, rfl, rfl⟩⟩
  · exact fun p hp => ⟨rfl, okP_0 W H⟩
  · exact ⟨0, by decide, rfl, rfl, by decide, fun s hs => okP_0 W H, fun i q h => by simp at h⟩
  · exact ⟨okP_0 W H, fun y hy => rfl⟩
  · exact ⟨rfl, ⟨by decide, fun i hi => no hi⟩, fun i hi => no hi⟩
  · exact ⟨fun i hi => df_n i hi, rfl, fun i hi => no hi⟩
  · exact ⟨rfl, by decide, fun i hi => no hi⟩
  · exact ⟨rfl, by decide, fun i => i, fun i hi => ⟨hi, if_pos hi⟩, fun i j h _ => Nat.ne_of_lt h, fun i hi => no hi⟩
  · exact ⟨okP_0 W H, okP_0 W H, okP_0 W H, okP_0 W H, okP_0 W H, okP_0 W H, okP_0 W H, okP_0 W H⟩
  · exact ⟨by decide, fun r hr => no hr, fun r _ _ => rfl⟩
  · exact fun k _ => by
      show (0 : Int32) = bz (lb 0 _)
      rw [lb_0]
      rfl
  · exact ⟨rfl, by decide, fun k _ => Or.inl rfl, fun i q h => by simp at h⟩
  · exact ⟨rfl, ⟨by decide, fun i hi => no hi⟩, fun i hi => no hi⟩
  · exact ⟨fun i hi => df_n i hi, rfl, fun i hi => no hi⟩
  · exact ⟨rfl, fun i hi => no hi⟩
  · exact ⟨rfl, by decide, fun i hi => no hi⟩
  · exact ⟨by decide, by decide, fun i hi => no hi, fun i j _ hj => no hj⟩
  · exact show ∀ s, s < 10 → lstN s ≤ [8, 2, 1, 0, 8, 0, 0, 0, 4, 0].getD s 0 ∧ [8, 2, 1, 0, 8, 0, 0, 0, 4, 0].getD s 0 ≤ mstN s by decide
section ST0
variable {L : Nat} {xs : Nat → Int32} {W H : Nat}
def cvL (L : Nat) (xs : Nat → Int32) (j : Nat) : Int32 := if L ≤ j then 0 else xs j
theorem cell_v (hL : L ≤ 3586) {j : Nat} (hj : j < 2) {x : Int32} (hx : x = nI j) (h : xH) : xM (L, xs) mL_cell [.retAddr 11, .int x] h = some (.inl (some (.int (cvL L xs j))), h, 0, 0) := by
  subst hx
  refine w_L_cell (L, xs) _ _ _ ?_
  unfold cvL
  by_cases c : L ≤ j
  · rw [if_pos c]
    exact c_ift ((nI_leI (by omega) (by omega)).mpr c) rfl
  · rw [if_neg c]
    refine c_iff (fun w => c ((nI_leI (by omega) (by omega)).mp w)) ?_
    exact c_rs rfl (by omega) hL rfl
theorem law_a (hL : L ≤ 3586) {v : Option Value ⊕ String} {h2 : xH} {c2 s2 ca sa cb sb : Nat} (e1 : xM (L, xs) mX12_init [.ref 0, .int (cvL L xs 0), .int (cvL L xs 1)] (MF 1 (Fu (G0 W H) 0 (.inr (11, xDef 11)))) = some (.inl none, MF 90 (G0 W H), ca, sa)) (e2 : xM (L, xs) mX13_init [.ref 90, .int (cvL L xs 0), .int (cvL L xs 1)] (MF 91 (Fu (G0 W H) 90 (.inr (12, xDef 12)))) = some (.inl none, MF 146 (G0 W H), cb, sb)) (K : xden (L, xs) mL_law 43 (lwL 2) [] (MF 147 (G0 W H)) = some (v, h2, c2, s2)) : xM (L, xs) mL_law [.retAddr 11] (MF 0 (G0 W H)) = some (v, h2, c2 + 1 + cb + 1 + ca + 1, s2 + 1 + sb + 82 + sa + 14) := by
  refine w_L_law (L, xs) _ _ ?_
  refine f_no ?_
  refine c_qI (cell_v hL (j := 0) (by decide) rfl _) ?_
  refine c_qI (cell_v hL (j := 1) (by decide) rfl _) ?_
  refine k_C e1 ?_
  refine f_no ?_
  refine c_qI (cell_v hL (j := 0) (by decide) rfl _) ?_
  refine c_qI (cell_v hL (j := 1) (by decide) rfl _) ?_
  refine k_C e2 ?_
  refine f_nx (q := 1) rfl (by decide) (by rfl) ?_
  exact K
theorem law_all (hL : L ≤ 3586) : ∃ h c s, xM (L, xs) mL_law [.retAddr 11] [] = some (.inl (some (.int 1)), h, c, s) ∧ c ≤ 601024 ∧ s ≤ 7293000 := by
  obtain ⟨w8, w64⟩ := clN_b (cvL L xs 0)
  obtain ⟨h8, h64⟩ := clN_b (cvL L xs 1)
  obtain ⟨ca, sa, e1, a1, a2⟩ := x12_i (S := (L, xs)) w64 h64 (clN_c (cvL L xs 0)) (clN_c (cvL L xs 1))
  obtain ⟨cb, sb, e2, b1, b2⟩ := mdl_i (S := (L, xs)) (clN_m (cvL L xs 0)) (clN_m (cvL L xs 1))
  obtain ⟨h', c, s, e, g1, g2⟩ := law_loop (xs := xs) w8 w64 h8 h64 hL L 2 0 m0 (by omega) (by omega) (Rep0 _ _)
  exact ⟨h', _, _, law_a hL e1 e2 e, by omega, by omega⟩
end ST0

/-! CONSTRUCTORS: the whole model -/
section INM2
variable {S : xS} {W H : Nat} {x y : Int32}
theorem MF_cong {k : Nat} {F F' : Nat → xE} (h : ∀ i, i < k → F i = F' i) : MF k F = MF k F' := List.map_congr_left (fun i hi => h i (List.mem_range.mp hi))
theorem u98 : upd (upd (upd (upd (upd (fun _ => 0) 0 8) 1 2) 2 1) 4 8) 8 4 = tkF dfL 10 := funext fun j => by
  have e : ∀ j, j < 10 → upd (upd (upd (upd (upd (fun _ => 0) 0 8) 1 2) 2 1) 4 8) 8 4 j = tkF dfL 10 j := by decide
  by_cases c : j < 10
  · exact e j c
  · unfold tkF upd
    rw [if_neg c, if_neg (by omega), if_neg (by omega), if_neg (by omega), if_neg (by omega), if_neg (by omega)]
def flE (W H : Nat) : List Value := (List.range 82).map (eFV W H m0 90 12)
theorem G90 : G0 W H 90 = .inr (12, flE W H) := rfl
theorem fl14 : (flE W H)[14]? = some (.ref 98) := rfl
theorem mi_1702 : xden S mX13_init 1702 [(0, .ref 90)] [] (MF 146 (Fu (G0 W H) 98 (.inl (0, 10, .inl (upd (upd (upd (upd (fun _ => 0) 0 8) 1 2) 2 1) 4 8))))) = some (.inl none, MF 146 (G0 W H), 0, 0) := by
  refine w_X13_init_1702 S _ _ _ ?_
  refine f_gr (by decide) ((Fu_n (by decide)).trans G90) fl14 ?_
  refine f_wix (q := 10) (i := 8) rfl (by decide) (by decide) (by decide) (by rw [u98]; rfl) ?_
  rfl
theorem mi_1672 : xden S mX13_init 1672 [(0, .ref 90)] [] (MF 146 (Fu (G0 W H) 98 z98)) = some (.inl none, MF 146 (G0 W H), 0, 0) := by
  unfold z98
  refine w_X13_init_1672 S _ _ _ ?_
  refine f_gr (by decide) ((Fu_n (by decide)).trans G90) fl14 ?_
  refine f_wi (q := 10) (i := 0) rfl (by decide) (by decide) (by decide) rfl ?_
  refine f_gr (by decide) ((Fu_n (by decide)).trans G90) fl14 ?_
  refine f_wi (q := 10) (i := 1) rfl (by decide) (by decide) (by decide) rfl ?_
  refine f_gr (by decide) ((Fu_n (by decide)).trans G90) fl14 ?_
  refine f_wi (q := 10) (i := 2) rfl (by decide) (by decide) (by decide) rfl ?_
  refine f_gr (by decide) ((Fu_n (by decide)).trans G90) fl14 ?_
  refine f_wi (q := 10) (i := 4) rfl (by decide) (by decide) (by decide) rfl ?_
  exact mi_1702
theorem fl90 : (((fl 54).set 81 (.ref 145)).set 0 (.int (nI W))).set 1 (.int (nI H)) = flE W H := rfl
theorem mi_t : xden S mX13_init 1672 [(0, .ref 90)] [] (MF 146 (Fu (Fu (G0 W H) 98 z98) 90 (.inr (12, (((fl 54).set 81 (.ref 145)).set 0 (.int (nI W))).set 1 (.int (nI H)))))) = some (.inl none, MF 146 (G0 W H), 0, 0) := by
  rw [fl90, Fu_same ((Fu_n (by decide)).trans G90)]
  exact mi_1672
theorem mi_1615 (eW : ((8 : Int32) ≤ x ∧ x ≤ 64 ∧ x = nI W) ∨ ((8 : Int32) ≤ x ∧ ¬ x ≤ 64 ∧ (64 : Int32) = nI W) ∨ (¬ (8 : Int32) ≤ x ∧ (8 : Int32) = nI W)) (eH : ((8 : Int32) ≤ y ∧ y ≤ 64 ∧ y = nI H) ∨ ((8 : Int32) ≤ y ∧ ¬ y ≤ 64 ∧ (64 : Int32) = nI H) ∨ (¬ (8 : Int32) ≤ y ∧ (8 : Int32) = nI H)) : xden S mX13_init 1615 [(0, .ref 90), (1, .int x), (2, .int y)] [.ref 145, .ref 90] (MF 146 (Fu (Fu (G0 W H) 98 z98) 90 (.inr (12, fl 54)))) = some (.inl none, MF 146 (G0 W H), 0, 0) := by
  have l0 : ∀ q, Nat.blt 81 (fl q).length = true := fun q => (congrArg (Nat.blt 81) (fl_len q)).trans rfl
  have l1 : ∀ q a, Nat.blt 0 ((fl q).set 81 a).length = true := fun q a => (congrArg (Nat.blt 0) (List.length_set.trans (fl_len q))).trans rfl
  have l2 : ∀ q a b, Nat.blt 1 (((fl q).set 81 a).set 0 b).length = true := fun q a b => (congrArg (Nat.blt 1) (List.length_set.trans (List.length_set.trans (fl_len q)))).trans rfl
  refine w_X13_init_1615 S _ _ _ _ _ _ _ ?_
  refine f_p (by decide) (l0 _) (xPok_ref (by decide) (by rfl)) ?_
  rcases eW with ⟨a1, a2, a3⟩ | ⟨a1, a2, a3⟩ | ⟨a1, a3⟩
  · refine c_ift a1 ?_
    refine c_ift a2 ?_
    refine f_pw (congrArg Value.int a3) (by decide) (l1 _ _) (xPok_int (by decide) (by rfl)) ?_
    rcases eH with ⟨b1, b2, b3⟩ | ⟨b1, b2, b3⟩ | ⟨b1, b3⟩
    · refine c_ift b1 ?_
      refine c_ift b2 ?_
      refine f_pw (congrArg Value.int b3) (by decide) (l2 _ _ _) (xPok_int (by decide) (by rfl)) ?_
      exact mi_t
    · refine c_ift b1 ?_
      refine c_iff b2 ?_
      refine f_pw (congrArg Value.int b3) (by decide) (l2 _ _ _) (xPok_int (by decide) (by rfl)) ?_
      exact mi_t
    · refine c_iff b1 ?_
      refine f_pw (congrArg Value.int b3) (by decide) (l2 _ _ _) (xPok_int (by decide) (by rfl)) ?_
      exact mi_t
  · refine c_ift a1 ?_
    refine c_iff a2 ?_
    refine f_pw (congrArg Value.int a3) (by decide) (l1 _ _) (xPok_int (by decide) (by rfl)) ?_
    rcases eH with ⟨b1, b2, b3⟩ | ⟨b1, b2, b3⟩ | ⟨b1, b3⟩
    · refine c_ift b1 ?_
      refine c_ift b2 ?_
      refine f_pw (congrArg Value.int b3) (by decide) (l2 _ _ _) (xPok_int (by decide) (by rfl)) ?_
      exact mi_t
    · refine c_ift b1 ?_
      refine c_iff b2 ?_
      refine f_pw (congrArg Value.int b3) (by decide) (l2 _ _ _) (xPok_int (by decide) (by rfl)) ?_
      exact mi_t
    · refine c_iff b1 ?_
      refine f_pw (congrArg Value.int b3) (by decide) (l2 _ _ _) (xPok_int (by decide) (by rfl)) ?_
      exact mi_t
  · refine c_iff a1 ?_
    refine f_pw (congrArg Value.int a3) (by decide) (l1 _ _) (xPok_int (by decide) (by rfl)) ?_
    rcases eH with ⟨b1, b2, b3⟩ | ⟨b1, b2, b3⟩ | ⟨b1, b3⟩
    · refine c_ift b1 ?_
      refine c_ift b2 ?_
      refine f_pw (congrArg Value.int b3) (by decide) (l2 _ _ _) (xPok_int (by decide) (by rfl)) ?_
      exact mi_t
    · refine c_ift b1 ?_
      refine c_iff b2 ?_
      refine f_pw (congrArg Value.int b3) (by decide) (l2 _ _ _) (xPok_int (by decide) (by rfl)) ?_
      exact mi_t
    · refine c_iff b1 ?_
      refine f_pw (congrArg Value.int b3) (by decide) (l2 _ _ _) (xPok_int (by decide) (by rfl)) ?_
      exact mi_t
theorem mdl_i (eW : ((8 : Int32) ≤ x ∧ x ≤ 64 ∧ x = nI W) ∨ ((8 : Int32) ≤ x ∧ ¬ x ≤ 64 ∧ (64 : Int32) = nI W) ∨ (¬ (8 : Int32) ≤ x ∧ (8 : Int32) = nI W)) (eH : ((8 : Int32) ≤ y ∧ y ≤ 64 ∧ y = nI H) ∨ ((8 : Int32) ≤ y ∧ ¬ y ≤ 64 ∧ (64 : Int32) = nI H) ∨ (¬ (8 : Int32) ≤ y ∧ (8 : Int32) = nI H)) : ∃ c s, xM S mX13_init [.ref 90, .int x, .int y] (MF 91 (Fu (G0 W H) 90 (.inr (12, xDef 12)))) = some (.inl none, MF 146 (G0 W H), c, s) ∧ c ≤ 60 ∧ s ≤ 400000 := by
  have e : MF 91 (Fu (G0 W H) 90 (.inr (12, xDef 12))) = MF 91 (Fu (Fu (G0 W H) 98 z98) 90 (.inr (12, fl 0))) := MF_cong (fun i hi => by
    by_cases c : i = 90
    · rw [c, Fu_e, Fu_e]; rfl
    · rw [Fu_n c, Fu_n c, Fu_n (by omega)])
  rw [e]
  exact ⟨_, _, (mi_init (mi_47 (mi_90 (mi_115 (mi_145 (mi_175 (mi_205 (mi_235 (mi_265 (mi_295 (mi_325 (mi_355 (mi_385 (mi_415 (mi_445 (mi_474 (mi_501 (mi_531 (mi_561 (mi_591 (mi_621 (mi_649 (mi_670 (mi_698 (mi_722 (mi_754 (mi_794 (mi_836 (mi_881 (mi_926 (mi_971 (mi_1016 (mi_1061 (mi_1106 (mi_1136 (mi_1165 (mi_1195 (mi_1225 (mi_1255 (mi_1285 (mi_1315 (mi_1345 (mi_1375 (mi_1405 (mi_1435 (mi_1465 (mi_1495 (mi_1525 (mi_1555 (mi_1585 (mi_1615 eW eH))))))))))))))))))))))))))))))))))))))))))))))))))), by omega, by omega⟩
end INM2

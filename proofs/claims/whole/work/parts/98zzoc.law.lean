set_option maxRecDepth 16000 in
theorem w_L_law (S : xS)  (h : xH) : xle (xNo 11 h fun a1 h2 => xqI (xM S mL_cell [.retAddr 11, .int (0 : Int32)] h2) xth fun v4 h3 => xqI (xM S mL_cell [.retAddr 11, .int (1 : Int32)] h3) xth fun v6 h5 => xqC (xM S mX12_init [.ref a1, .int v4, .int v6] h5) fun h7 => xNo 12 h7 fun a8 h9 => xqI (xM S mL_cell [.retAddr 11, .int (0 : Int32)] h9) xth fun v11 h10 => xqI (xM S mL_cell [.retAddr 11, .int (1 : Int32)] h10) xth fun v13 h12 => xqC (xM S mX13_init [.ref a8, .int v11, .int v13] h12) fun h14 => xNa 1 (.inr (.inl (fun _ => 0))) (1 : Int32) h14 fun a15 h16 => (xden S mL_law 43 [(0, .retAddr 11), (1, .ref a1), (2, .ref a8), (3, .ref a15), (4, .int (2 : Int32))] [] h16)) (xM S mL_law [.retAddr 11] h) := by
  show xle _ (xden S mL_law 0 [(0, .retAddr 11)] [] h)
  refine l_new (c := 11) dL_law_0 rfl (fun a1 h2 _ _ => ?_)
  refine l_pure dL_law_3 rfl rfl ?_
  refine l_loc dL_law_4 rfl rfl ?_
  refine l_ic dL_law_5 kI_0 ?_
  refine l_cI dL_law_6 rfl rfl rfl (l_xs cl_14_179 ko_mL_cell rfl rfl) rfl rfl nm_mL_cell (xhE_th rfl) (fun v4 h3 => ?_)
  refine l_loc dL_law_9 rfl rfl ?_
  refine l_ic dL_law_10 kI_1 ?_
  refine l_cI dL_law_11 rfl rfl rfl (l_xs cl_14_179 ko_mL_cell rfl rfl) rfl rfl nm_mL_cell (xhE_th rfl) (fun v6 h5 => ?_)
  refine l_cC dL_law_14 rfl rfl rfl (l_xi cl_14_185 ko_mX12_init rfl rfl rfl) rfl rfl (fun h7 => ?_)
  refine l_loc (al1 := [(1, .ref a1), (0, .retAddr 11)]) dL_law_17 rfl rfl ?_
  refine l_new (c := 12) dL_law_18 rfl (fun a8 h9 _ _ => ?_)
  refine l_pure dL_law_21 rfl rfl ?_
  refine l_loc dL_law_22 rfl rfl ?_
  refine l_ic dL_law_23 kI_0 ?_
  refine l_cI dL_law_24 rfl rfl rfl (l_xs cl_14_179 ko_mL_cell rfl rfl) rfl rfl nm_mL_cell (xhE_th rfl) (fun v11 h10 => ?_)
  refine l_loc dL_law_27 rfl rfl ?_
  refine l_ic dL_law_28 kI_1 ?_
  refine l_cI dL_law_29 rfl rfl rfl (l_xs cl_14_179 ko_mL_cell rfl rfl) rfl rfl nm_mL_cell (xhE_th rfl) (fun v13 h12 => ?_)
  refine l_cC dL_law_32 rfl rfl rfl (l_xi cl_14_190 ko_mX13_init rfl rfl rfl) rfl rfl (fun h14 => ?_)
  refine l_loc (al1 := [(2, .ref a8), (1, .ref a1), (0, .retAddr 11)]) dL_law_35 rfl rfl ?_
  refine l_ic dL_law_36 kI_1 ?_
  refine l_nl dL_law_37 (fun a15 h16 => ?_)
  refine l_loc (al1 := [(3, .ref a15), (2, .ref a8), (1, .ref a1), (0, .retAddr 11)]) dL_law_39 rfl rfl ?_
  refine l_ic dL_law_40 kI_2 ?_
  refine l_loc (al1 := [(4, .int (2 : Int32)), (3, .ref a15), (2, .ref a8), (1, .ref a1), (0, .retAddr 11)]) dL_law_41 rfl rfl ?_
  exact l_al rfl ⟨rfl, rfl, rfl, rfl, rfl, trivial⟩
set_option maxRecDepth 16000 in
theorem w_L_law_43 (S : xS) (x1 : Nat) (x2 : Nat) (x3 : Nat) (x4 : Int32) (h : xH) : xle (if ((Int32.ofNat S.1) - (7 : Int32)) < x4 then (some (.inl (some (.int (1 : Int32))), h, 0, 0)) else ((xRs S x4).bind fun v2 => xlet (v2 &&& (63 : Int32)) fun v3 => if v3 = (0 : Int32) then (xden S mL_law 292 [(0, .retAddr 11), (1, .ref x1), (2, .ref x2), (3, .ref x3), (4, .int x4)] [] h) else if v3 = (1 : Int32) then (xden S mL_law 359 [(0, .retAddr 11), (1, .ref x1), (2, .ref x2), (3, .ref x3), (4, .int x4)] [] h) else if v3 = (2 : Int32) then (xden S mL_law 471 [(0, .retAddr 11), (1, .ref x1), (2, .ref x2), (3, .ref x3), (4, .int x4)] [] h) else if v3 = (3 : Int32) then (xden S mL_law 605 [(0, .retAddr 11), (1, .ref x1), (2, .ref x2), (3, .ref x3), (4, .int x4)] [] h) else if v3 = (4 : Int32) then (xden S mL_law 697 [(0, .retAddr 11), (1, .ref x1), (2, .ref x2), (3, .ref x3), (4, .int x4)] [] h) else if v3 = (5 : Int32) then (xden S mL_law 753 [(0, .retAddr 11), (1, .ref x1), (2, .ref x2), (3, .ref x3), (4, .int x4)] [] h) else if v3 = (6 : Int32) then (xden S mL_law 821 [(0, .retAddr 11), (1, .ref x1), (2, .ref x2), (3, .ref x3), (4, .int x4)] [] h) else if v3 = (7 : Int32) then (xden S mL_law 889 [(0, .retAddr 11), (1, .ref x1), (2, .ref x2), (3, .ref x3), (4, .int x4)] [] h) else if v3 = (8 : Int32) then (xden S mL_law 969 [(0, .retAddr 11), (1, .ref x1), (2, .ref x2), (3, .ref x3), (4, .int x4)] [] h) else if v3 = (9 : Int32) then (xden S mL_law 1025 [(0, .retAddr 11), (1, .ref x1), (2, .ref x2), (3, .ref x3), (4, .int x4)] [] h) else if v3 = (10 : Int32) then (xden S mL_law 1081 [(0, .retAddr 11), (1, .ref x1), (2, .ref x2), (3, .ref x3), (4, .int x4)] [] h) else if v3 = (11 : Int32) then (xden S mL_law 1149 [(0, .retAddr 11), (1, .ref x1), (2, .ref x2), (3, .ref x3), (4, .int x4)] [] h) else if v3 = (12 : Int32) then (xden S mL_law 1217 [(0, .retAddr 11), (1, .ref x1), (2, .ref x2), (3, .ref x3), (4, .int x4)] [] h) else if v3 = (13 : Int32) then (xden S mL_law 1297 [(0, .retAddr 11), (1, .ref x1), (2, .ref x2), (3, .ref x3), (4, .int x4)] [] h) else if v3 = (14 : Int32) then (xden S mL_law 1401 [(0, .retAddr 11), (1, .ref x1), (2, .ref x2), (3, .ref x3), (4, .int x4)] [] h) else if v3 = (15 : Int32) then (xden S mL_law 1456 [(0, .retAddr 11), (1, .ref x1), (2, .ref x2), (3, .ref x3), (4, .int x4)] [] h) else if v3 = (16 : Int32) then (xden S mL_law 1500 [(0, .retAddr 11), (1, .ref x1), (2, .ref x2), (3, .ref x3), (4, .int x4)] [] h) else if v3 = (17 : Int32) then (xden S mL_law 1556 [(0, .retAddr 11), (1, .ref x1), (2, .ref x2), (3, .ref x3), (4, .int x4)] [] h) else if v3 = (18 : Int32) then (xden S mL_law 1569 [(0, .retAddr 11), (1, .ref x1), (2, .ref x2), (3, .ref x3), (4, .int x4)] [] h) else if v3 = (19 : Int32) then (xden S mL_law 1582 [(0, .retAddr 11), (1, .ref x1), (2, .ref x2), (3, .ref x3), (4, .int x4)] [] h) else if v3 = (20 : Int32) then (xden S mL_law 1638 [(0, .retAddr 11), (1, .ref x1), (2, .ref x2), (3, .ref x3), (4, .int x4)] [] h) else if v3 = (21 : Int32) then (xden S mL_law 1694 [(0, .retAddr 11), (1, .ref x1), (2, .ref x2), (3, .ref x3), (4, .int x4)] [] h) else if v3 = (22 : Int32) then (xden S mL_law 1786 [(0, .retAddr 11), (1, .ref x1), (2, .ref x2), (3, .ref x3), (4, .int x4)] [] h) else if v3 = (23 : Int32) then (xden S mL_law 1842 [(0, .retAddr 11), (1, .ref x1), (2, .ref x2), (3, .ref x3), (4, .int x4)] [] h) else if v3 = (24 : Int32) then (xden S mL_law 1855 [(0, .retAddr 11), (1, .ref x1), (2, .ref x2), (3, .ref x3), (4, .int x4)] [] h) else if v3 = (25 : Int32) then (xden S mL_law 1899 [(0, .retAddr 11), (1, .ref x1), (2, .ref x2), (3, .ref x3), (4, .int x4)] [] h) else if v3 = (26 : Int32) then (xden S mL_law 1943 [(0, .retAddr 11), (1, .ref x1), (2, .ref x2), (3, .ref x3), (4, .int x4)] [] h) else if v3 = (27 : Int32) then (xden S mL_law 1987 [(0, .retAddr 11), (1, .ref x1), (2, .ref x2), (3, .ref x3), (4, .int x4)] [] h) else if v3 = (28 : Int32) then (xden S mL_law 2038 [(0, .retAddr 11), (1, .ref x1), (2, .ref x2), (3, .ref x3), (4, .int x4)] [] h) else if v3 = (29 : Int32) then (xden S mL_law 2082 [(0, .retAddr 11), (1, .ref x1), (2, .ref x2), (3, .ref x3), (4, .int x4)] [] h) else if v3 = (30 : Int32) then (xden S mL_law 2126 [(0, .retAddr 11), (1, .ref x1), (2, .ref x2), (3, .ref x3), (4, .int x4)] [] h) else if v3 = (31 : Int32) then (xden S mL_law 2194 [(0, .retAddr 11), (1, .ref x1), (2, .ref x2), (3, .ref x3), (4, .int x4)] [] h) else if v3 = (32 : Int32) then (xden S mL_law 2262 [(0, .retAddr 11), (1, .ref x1), (2, .ref x2), (3, .ref x3), (4, .int x4)] [] h) else if v3 = (33 : Int32) then (xden S mL_law 2306 [(0, .retAddr 11), (1, .ref x1), (2, .ref x2), (3, .ref x3), (4, .int x4)] [] h) else if v3 = (34 : Int32) then (xden S mL_law 2374 [(0, .retAddr 11), (1, .ref x1), (2, .ref x2), (3, .ref x3), (4, .int x4)] [] h) else if v3 = (35 : Int32) then (xden S mL_law 2430 [(0, .retAddr 11), (1, .ref x1), (2, .ref x2), (3, .ref x3), (4, .int x4)] [] h) else if v3 = (36 : Int32) then (xden S mL_law 2486 [(0, .retAddr 11), (1, .ref x1), (2, .ref x2), (3, .ref x3), (4, .int x4)] [] h) else if v3 = (37 : Int32) then (xden S mL_law 2542 [(0, .retAddr 11), (1, .ref x1), (2, .ref x2), (3, .ref x3), (4, .int x4)] [] h) else if v3 = (38 : Int32) then (xden S mL_law 2598 [(0, .retAddr 11), (1, .ref x1), (2, .ref x2), (3, .ref x3), (4, .int x4)] [] h) else if v3 = (39 : Int32) then (xden S mL_law 2654 [(0, .retAddr 11), (1, .ref x1), (2, .ref x2), (3, .ref x3), (4, .int x4)] [] h) else if v3 = (40 : Int32) then (xden S mL_law 2710 [(0, .retAddr 11), (1, .ref x1), (2, .ref x2), (3, .ref x3), (4, .int x4)] [] h) else if v3 = (41 : Int32) then (xden S mL_law 2754 [(0, .retAddr 11), (1, .ref x1), (2, .ref x2), (3, .ref x3), (4, .int x4)] [] h) else if v3 = (42 : Int32) then (xden S mL_law 2810 [(0, .retAddr 11), (1, .ref x1), (2, .ref x2), (3, .ref x3), (4, .int x4)] [] h) else if v3 = (43 : Int32) then (xden S mL_law 2866 [(0, .retAddr 11), (1, .ref x1), (2, .ref x2), (3, .ref x3), (4, .int x4)] [] h) else if v3 = (44 : Int32) then (xden S mL_law 2922 [(0, .retAddr 11), (1, .ref x1), (2, .ref x2), (3, .ref x3), (4, .int x4)] [] h) else if v3 = (45 : Int32) then (xden S mL_law 2978 [(0, .retAddr 11), (1, .ref x1), (2, .ref x2), (3, .ref x3), (4, .int x4)] [] h) else if v3 = (46 : Int32) then (xden S mL_law 3034 [(0, .retAddr 11), (1, .ref x1), (2, .ref x2), (3, .ref x3), (4, .int x4)] [] h) else if v3 = (47 : Int32) then (xden S mL_law 3090 [(0, .retAddr 11), (1, .ref x1), (2, .ref x2), (3, .ref x3), (4, .int x4)] [] h) else if v3 = (48 : Int32) then (xden S mL_law 3146 [(0, .retAddr 11), (1, .ref x1), (2, .ref x2), (3, .ref x3), (4, .int x4)] [] h) else if v3 = (49 : Int32) then (xden S mL_law 3202 [(0, .retAddr 11), (1, .ref x1), (2, .ref x2), (3, .ref x3), (4, .int x4)] [] h) else if v3 = (50 : Int32) then (xden S mL_law 3258 [(0, .retAddr 11), (1, .ref x1), (2, .ref x2), (3, .ref x3), (4, .int x4)] [] h) else if v3 = (51 : Int32) then (xden S mL_law 3314 [(0, .retAddr 11), (1, .ref x1), (2, .ref x2), (3, .ref x3), (4, .int x4)] [] h) else if v3 = (52 : Int32) then (xden S mL_law 3370 [(0, .retAddr 11), (1, .ref x1), (2, .ref x2), (3, .ref x3), (4, .int x4)] [] h) else if v3 = (53 : Int32) then (xden S mL_law 3426 [(0, .retAddr 11), (1, .ref x1), (2, .ref x2), (3, .ref x3), (4, .int x4)] [] h) else (xden S mL_law 3482 [(0, .retAddr 11), (1, .ref x1), (2, .ref x2), (3, .ref x3), (4, .int x4)] [] h))) (xden S mL_law 43 [(0, .retAddr 11), (1, .ref x1), (2, .ref x2), (3, .ref x3), (4, .int x4)] [] h) := by
  refine l_loc dL_law_43 rfl rfl ?_
  refine l_loc dL_law_45 rfl rfl ?_
  refine l_ls dL_law_46 ?_
  refine l_bi dL_law_47 kB_7 ?_
  refine l_pure dL_law_49 rfl rfl ?_
  refine l_cgt (t := 3488) dL_law_50 rfl ?_ ?_
  · refine l_ic dL_law_3488 kI_1 ?_
    exact l_iretn dL_law_3489 rfl (by decide)
  · refine l_loc dL_law_53 rfl rfl ?_
    refine l_loc dL_law_54 rfl rfl ?_
    refine l_rs dL_law_56 (fun v2 => ?_)
    refine l_bi dL_law_57 kB_63 ?_
    refine l_pure dL_law_59 rfl rfl ?_
    refine l_swl (fun v3 => ?_)
    refine l_swc (fun e0 => ?_) (fun n0 => ?_)
    · rw [e0]
      refine l_br (t := 292) (st1 := []) dL_law_60 rfl rfl ?_
      exact l_al rfl ⟨rfl, rfl, rfl, rfl, rfl, trivial⟩
    refine l_swc (fun e1 => ?_) (fun n1 => ?_)
    · rw [e1]
      refine l_br (t := 359) (st1 := []) dL_law_60 rfl rfl ?_
      exact l_al rfl ⟨rfl, rfl, rfl, rfl, rfl, trivial⟩
    refine l_swc (fun e2 => ?_) (fun n2 => ?_)
    · rw [e2]
      refine l_br (t := 471) (st1 := []) dL_law_60 rfl rfl ?_
      exact l_al rfl ⟨rfl, rfl, rfl, rfl, rfl, trivial⟩
    refine l_swc (fun e3 => ?_) (fun n3 => ?_)
    · rw [e3]
      refine l_br (t := 605) (st1 := []) dL_law_60 rfl rfl ?_
      exact l_al rfl ⟨rfl, rfl, rfl, rfl, rfl, trivial⟩
    refine l_swc (fun e4 => ?_) (fun n4 => ?_)
    · rw [e4]
      refine l_br (t := 697) (st1 := []) dL_law_60 rfl rfl ?_
      exact l_al rfl ⟨rfl, rfl, rfl, rfl, rfl, trivial⟩
    refine l_swc (fun e5 => ?_) (fun n5 => ?_)
    · rw [e5]
      refine l_br (t := 753) (st1 := []) dL_law_60 rfl rfl ?_
      exact l_al rfl ⟨rfl, rfl, rfl, rfl, rfl, trivial⟩
    refine l_swc (fun e6 => ?_) (fun n6 => ?_)
    · rw [e6]
      refine l_br (t := 821) (st1 := []) dL_law_60 rfl rfl ?_
      exact l_al rfl ⟨rfl, rfl, rfl, rfl, rfl, trivial⟩
    refine l_swc (fun e7 => ?_) (fun n7 => ?_)
    · rw [e7]
      refine l_br (t := 889) (st1 := []) dL_law_60 rfl rfl ?_
      exact l_al rfl ⟨rfl, rfl, rfl, rfl, rfl, trivial⟩
    refine l_swc (fun e8 => ?_) (fun n8 => ?_)
    · rw [e8]
      refine l_br (t := 969) (st1 := []) dL_law_60 rfl rfl ?_
      exact l_al rfl ⟨rfl, rfl, rfl, rfl, rfl, trivial⟩
    refine l_swc (fun e9 => ?_) (fun n9 => ?_)
    · rw [e9]
      refine l_br (t := 1025) (st1 := []) dL_law_60 rfl rfl ?_
      exact l_al rfl ⟨rfl, rfl, rfl, rfl, rfl, trivial⟩
    refine l_swc (fun e10 => ?_) (fun n10 => ?_)
    · rw [e10]
      refine l_br (t := 1081) (st1 := []) dL_law_60 rfl rfl ?_
      exact l_al rfl ⟨rfl, rfl, rfl, rfl, rfl, trivial⟩
    refine l_swc (fun e11 => ?_) (fun n11 => ?_)
    · rw [e11]
      refine l_br (t := 1149) (st1 := []) dL_law_60 rfl rfl ?_
      exact l_al rfl ⟨rfl, rfl, rfl, rfl, rfl, trivial⟩
    refine l_swc (fun e12 => ?_) (fun n12 => ?_)
    · rw [e12]
      refine l_br (t := 1217) (st1 := []) dL_law_60 rfl rfl ?_
      exact l_al rfl ⟨rfl, rfl, rfl, rfl, rfl, trivial⟩
    refine l_swc (fun e13 => ?_) (fun n13 => ?_)
    · rw [e13]
      refine l_br (t := 1297) (st1 := []) dL_law_60 rfl rfl ?_
      exact l_al rfl ⟨rfl, rfl, rfl, rfl, rfl, trivial⟩
    refine l_swc (fun e14 => ?_) (fun n14 => ?_)
    · rw [e14]
      refine l_br (t := 1401) (st1 := []) dL_law_60 rfl rfl ?_
      exact l_al rfl ⟨rfl, rfl, rfl, rfl, rfl, trivial⟩
    refine l_swc (fun e15 => ?_) (fun n15 => ?_)
    · rw [e15]
      refine l_br (t := 1456) (st1 := []) dL_law_60 rfl rfl ?_
      exact l_al rfl ⟨rfl, rfl, rfl, rfl, rfl, trivial⟩
    refine l_swc (fun e16 => ?_) (fun n16 => ?_)
    · rw [e16]
      refine l_br (t := 1500) (st1 := []) dL_law_60 rfl rfl ?_
      exact l_al rfl ⟨rfl, rfl, rfl, rfl, rfl, trivial⟩
    refine l_swc (fun e17 => ?_) (fun n17 => ?_)
    · rw [e17]
      refine l_br (t := 1556) (st1 := []) dL_law_60 rfl rfl ?_
      exact l_al rfl ⟨rfl, rfl, rfl, rfl, rfl, trivial⟩
    refine l_swc (fun e18 => ?_) (fun n18 => ?_)
    · rw [e18]
      refine l_br (t := 1569) (st1 := []) dL_law_60 rfl rfl ?_
      exact l_al rfl ⟨rfl, rfl, rfl, rfl, rfl, trivial⟩
    refine l_swc (fun e19 => ?_) (fun n19 => ?_)
    · rw [e19]
      refine l_br (t := 1582) (st1 := []) dL_law_60 rfl rfl ?_
      exact l_al rfl ⟨rfl, rfl, rfl, rfl, rfl, trivial⟩
    refine l_swc (fun e20 => ?_) (fun n20 => ?_)
    · rw [e20]
      refine l_br (t := 1638) (st1 := []) dL_law_60 rfl rfl ?_
      exact l_al rfl ⟨rfl, rfl, rfl, rfl, rfl, trivial⟩
    refine l_swc (fun e21 => ?_) (fun n21 => ?_)
    · rw [e21]
      refine l_br (t := 1694) (st1 := []) dL_law_60 rfl rfl ?_
      exact l_al rfl ⟨rfl, rfl, rfl, rfl, rfl, trivial⟩
    refine l_swc (fun e22 => ?_) (fun n22 => ?_)
    · rw [e22]
      refine l_br (t := 1786) (st1 := []) dL_law_60 rfl rfl ?_
      exact l_al rfl ⟨rfl, rfl, rfl, rfl, rfl, trivial⟩
    refine l_swc (fun e23 => ?_) (fun n23 => ?_)
    · rw [e23]
      refine l_br (t := 1842) (st1 := []) dL_law_60 rfl rfl ?_
      exact l_al rfl ⟨rfl, rfl, rfl, rfl, rfl, trivial⟩
    refine l_swc (fun e24 => ?_) (fun n24 => ?_)
    · rw [e24]
      refine l_br (t := 1855) (st1 := []) dL_law_60 rfl rfl ?_
      exact l_al rfl ⟨rfl, rfl, rfl, rfl, rfl, trivial⟩
    refine l_swc (fun e25 => ?_) (fun n25 => ?_)
    · rw [e25]
      refine l_br (t := 1899) (st1 := []) dL_law_60 rfl rfl ?_
      exact l_al rfl ⟨rfl, rfl, rfl, rfl, rfl, trivial⟩
    refine l_swc (fun e26 => ?_) (fun n26 => ?_)
    · rw [e26]
      refine l_br (t := 1943) (st1 := []) dL_law_60 rfl rfl ?_
      exact l_al rfl ⟨rfl, rfl, rfl, rfl, rfl, trivial⟩
    refine l_swc (fun e27 => ?_) (fun n27 => ?_)
    · rw [e27]
      refine l_br (t := 1987) (st1 := []) dL_law_60 rfl rfl ?_
      exact l_al rfl ⟨rfl, rfl, rfl, rfl, rfl, trivial⟩
    refine l_swc (fun e28 => ?_) (fun n28 => ?_)
    · rw [e28]
      refine l_br (t := 2038) (st1 := []) dL_law_60 rfl rfl ?_
      exact l_al rfl ⟨rfl, rfl, rfl, rfl, rfl, trivial⟩
    refine l_swc (fun e29 => ?_) (fun n29 => ?_)
    · rw [e29]
      refine l_br (t := 2082) (st1 := []) dL_law_60 rfl rfl ?_
      exact l_al rfl ⟨rfl, rfl, rfl, rfl, rfl, trivial⟩
    refine l_swc (fun e30 => ?_) (fun n30 => ?_)
    · rw [e30]
      refine l_br (t := 2126) (st1 := []) dL_law_60 rfl rfl ?_
      exact l_al rfl ⟨rfl, rfl, rfl, rfl, rfl, trivial⟩
    refine l_swc (fun e31 => ?_) (fun n31 => ?_)
    · rw [e31]
      refine l_br (t := 2194) (st1 := []) dL_law_60 rfl rfl ?_
      exact l_al rfl ⟨rfl, rfl, rfl, rfl, rfl, trivial⟩
    refine l_swc (fun e32 => ?_) (fun n32 => ?_)
    · rw [e32]
      refine l_br (t := 2262) (st1 := []) dL_law_60 rfl rfl ?_
      exact l_al rfl ⟨rfl, rfl, rfl, rfl, rfl, trivial⟩
    refine l_swc (fun e33 => ?_) (fun n33 => ?_)
    · rw [e33]
      refine l_br (t := 2306) (st1 := []) dL_law_60 rfl rfl ?_
      exact l_al rfl ⟨rfl, rfl, rfl, rfl, rfl, trivial⟩
    refine l_swc (fun e34 => ?_) (fun n34 => ?_)
    · rw [e34]
      refine l_br (t := 2374) (st1 := []) dL_law_60 rfl rfl ?_
      exact l_al rfl ⟨rfl, rfl, rfl, rfl, rfl, trivial⟩
    refine l_swc (fun e35 => ?_) (fun n35 => ?_)
    · rw [e35]
      refine l_br (t := 2430) (st1 := []) dL_law_60 rfl rfl ?_
      exact l_al rfl ⟨rfl, rfl, rfl, rfl, rfl, trivial⟩
    refine l_swc (fun e36 => ?_) (fun n36 => ?_)
    · rw [e36]
      refine l_br (t := 2486) (st1 := []) dL_law_60 rfl rfl ?_
      exact l_al rfl ⟨rfl, rfl, rfl, rfl, rfl, trivial⟩
    refine l_swc (fun e37 => ?_) (fun n37 => ?_)
    · rw [e37]
      refine l_br (t := 2542) (st1 := []) dL_law_60 rfl rfl ?_
      exact l_al rfl ⟨rfl, rfl, rfl, rfl, rfl, trivial⟩
    refine l_swc (fun e38 => ?_) (fun n38 => ?_)
    · rw [e38]
      refine l_br (t := 2598) (st1 := []) dL_law_60 rfl rfl ?_
      exact l_al rfl ⟨rfl, rfl, rfl, rfl, rfl, trivial⟩
    refine l_swc (fun e39 => ?_) (fun n39 => ?_)
    · rw [e39]
      refine l_br (t := 2654) (st1 := []) dL_law_60 rfl rfl ?_
      exact l_al rfl ⟨rfl, rfl, rfl, rfl, rfl, trivial⟩
    refine l_swc (fun e40 => ?_) (fun n40 => ?_)
    · rw [e40]
      refine l_br (t := 2710) (st1 := []) dL_law_60 rfl rfl ?_
      exact l_al rfl ⟨rfl, rfl, rfl, rfl, rfl, trivial⟩
    refine l_swc (fun e41 => ?_) (fun n41 => ?_)
    · rw [e41]
      refine l_br (t := 2754) (st1 := []) dL_law_60 rfl rfl ?_
      exact l_al rfl ⟨rfl, rfl, rfl, rfl, rfl, trivial⟩
    refine l_swc (fun e42 => ?_) (fun n42 => ?_)
    · rw [e42]
      refine l_br (t := 2810) (st1 := []) dL_law_60 rfl rfl ?_
      exact l_al rfl ⟨rfl, rfl, rfl, rfl, rfl, trivial⟩
    refine l_swc (fun e43 => ?_) (fun n43 => ?_)
    · rw [e43]
      refine l_br (t := 2866) (st1 := []) dL_law_60 rfl rfl ?_
      exact l_al rfl ⟨rfl, rfl, rfl, rfl, rfl, trivial⟩
    refine l_swc (fun e44 => ?_) (fun n44 => ?_)
    · rw [e44]
      refine l_br (t := 2922) (st1 := []) dL_law_60 rfl rfl ?_
      exact l_al rfl ⟨rfl, rfl, rfl, rfl, rfl, trivial⟩
    refine l_swc (fun e45 => ?_) (fun n45 => ?_)
    · rw [e45]
      refine l_br (t := 2978) (st1 := []) dL_law_60 rfl rfl ?_
      exact l_al rfl ⟨rfl, rfl, rfl, rfl, rfl, trivial⟩
    refine l_swc (fun e46 => ?_) (fun n46 => ?_)
    · rw [e46]
      refine l_br (t := 3034) (st1 := []) dL_law_60 rfl rfl ?_
      exact l_al rfl ⟨rfl, rfl, rfl, rfl, rfl, trivial⟩
    refine l_swc (fun e47 => ?_) (fun n47 => ?_)
    · rw [e47]
      refine l_br (t := 3090) (st1 := []) dL_law_60 rfl rfl ?_
      exact l_al rfl ⟨rfl, rfl, rfl, rfl, rfl, trivial⟩
    refine l_swc (fun e48 => ?_) (fun n48 => ?_)
    · rw [e48]
      refine l_br (t := 3146) (st1 := []) dL_law_60 rfl rfl ?_
      exact l_al rfl ⟨rfl, rfl, rfl, rfl, rfl, trivial⟩
    refine l_swc (fun e49 => ?_) (fun n49 => ?_)
    · rw [e49]
      refine l_br (t := 3202) (st1 := []) dL_law_60 rfl rfl ?_
      exact l_al rfl ⟨rfl, rfl, rfl, rfl, rfl, trivial⟩
    refine l_swc (fun e50 => ?_) (fun n50 => ?_)
    · rw [e50]
      refine l_br (t := 3258) (st1 := []) dL_law_60 rfl rfl ?_
      exact l_al rfl ⟨rfl, rfl, rfl, rfl, rfl, trivial⟩
    refine l_swc (fun e51 => ?_) (fun n51 => ?_)
    · rw [e51]
      refine l_br (t := 3314) (st1 := []) dL_law_60 rfl rfl ?_
      exact l_al rfl ⟨rfl, rfl, rfl, rfl, rfl, trivial⟩
    refine l_swc (fun e52 => ?_) (fun n52 => ?_)
    · rw [e52]
      refine l_br (t := 3370) (st1 := []) dL_law_60 rfl rfl ?_
      exact l_al rfl ⟨rfl, rfl, rfl, rfl, rfl, trivial⟩
    refine l_swc (fun e53 => ?_) (fun n53 => ?_)
    · rw [e53]
      refine l_br (t := 3426) (st1 := []) dL_law_60 rfl rfl ?_
      exact l_al rfl ⟨rfl, rfl, rfl, rfl, rfl, trivial⟩
    refine l_swd (hi := 53) (t := 3482) dL_law_60 rfl rfl (by rfl) (lg_sw54 n0 n1 n2 n3 n4 n5 n6 n7 n8 n9 n10 n11 n12 n13 n14 n15 n16 n17 n18 n19 n20 n21 n22 n23 n24 n25 n26 n27 n28 n29 n30 n31 n32 n33 n34 n35 n36 n37 n38 n39 n40 n41 n42 n43 n44 n45 n46 n47 n48 n49 n50 n51 n52 n53) ?_
    exact l_al rfl ⟨rfl, rfl, rfl, rfl, rfl, trivial⟩
set_option maxRecDepth 16000 in
theorem w_L_law_292 (S : xS) (x1 : Nat) (x2 : Nat) (x3 : Nat) (x4 : Int32) (h : xH) : xle ((xRs S (x4 + (1 : Int32))).bind fun v1 => (xRs S (x4 + (2 : Int32))).bind fun v2 => xqI (xM S mL_row [.ref x1, .int v1, .int v2, .ref x3] h) xth fun v4 h3 => (xRs S (x4 + (1 : Int32))).bind fun v5 => (xRs S (x4 + (2 : Int32))).bind fun v6 => if xOb h3 x2 12 = true then xqJ (xM S mX13_row [.ref x2, .int v5, .int v6] h3) xth fun v9 h8 => if xOb h8 x2 12 = true then xqI (xM S mX13_thrown [.ref x2] h8) xth fun v12 h11 => if v12 = v4 then (if ¬ v4 = 0 then (xden S mL_law 3482 [(0, .retAddr 11), (1, .ref x1), (2, .ref x2), (3, .ref x3), (4, .int x4)] [] h11) else ((xRl h11 x3 (0 : Int32)).bind fun v13 => if (lg_cmp v13 v9) = 0 then (xden S mL_law 3482 [(0, .retAddr 11), (1, .ref x1), (2, .ref x2), (3, .ref x3), (4, .int x4)] [] h11) else (some (.inl (some (.int (0 : Int32))), h11, 0, 0)))) else (some (.inl (some (.int (0 : Int32))), h11, 0, 0)) else none else none) (xden S mL_law 292 [(0, .retAddr 11), (1, .ref x1), (2, .ref x2), (3, .ref x3), (4, .int x4)] [] h) := by
  refine l_loc dL_law_292 rfl rfl ?_
  refine l_loc dL_law_293 rfl rfl ?_
  refine l_loc dL_law_294 rfl rfl ?_
  refine l_ic dL_law_296 kI_1 ?_
  refine l_pure dL_law_297 rfl rfl ?_
  refine l_rs dL_law_298 (fun v1 => ?_)
  refine l_loc dL_law_299 rfl rfl ?_
  refine l_loc dL_law_300 rfl rfl ?_
  refine l_ic dL_law_302 kI_2 ?_
  refine l_pure dL_law_303 rfl rfl ?_
  refine l_rs dL_law_304 (fun v2 => ?_)
  refine l_loc dL_law_305 rfl rfl ?_
  refine l_cI dL_law_306 rfl rfl rfl (l_xs cl_14_191 ko_mL_row rfl rfl) rfl rfl nm_mL_row (xhE_th rfl) (fun v4 h3 => ?_)
  refine l_loc (al1 := [(5, .int v4), (0, .retAddr 11), (1, .ref x1), (2, .ref x2), (3, .ref x3), (4, .int x4)]) dL_law_309 rfl rfl ?_
  refine l_loc dL_law_311 rfl rfl ?_
  refine l_loc dL_law_312 rfl rfl ?_
  refine l_loc dL_law_313 rfl rfl ?_
  refine l_ic dL_law_315 kI_1 ?_
  refine l_pure dL_law_316 rfl rfl ?_
  refine l_rs dL_law_317 (fun v5 => ?_)
  refine l_loc dL_law_318 rfl rfl ?_
  refine l_loc dL_law_319 rfl rfl ?_
  refine l_ic dL_law_321 kI_2 ?_
  refine l_pure dL_law_322 rfl rfl ?_
  refine l_rs dL_law_323 (fun v6 => ?_)
  refine l_ob fun q7 => ?_
  refine l_cJ dL_law_324 rfl rfl rfl (l_xv cl_14_194 ko_mX13_row rfl rfl rfl q7) rfl rfl nm_mX13_row (xhE_th rfl) (fun v9 h8 => ?_)
  refine l_loc (al1 := [(6, .long v9), (5, .int v4), (0, .retAddr 11), (1, .ref x1), (2, .ref x2), (3, .ref x3), (4, .int x4)]) dL_law_327 rfl rfl ?_
  refine l_loc dL_law_329 rfl rfl ?_
  refine l_ob fun q10 => ?_
  refine l_cI dL_law_330 rfl rfl rfl (l_xv cl_14_195 ko_mX13_thrown rfl rfl rfl q10) rfl rfl nm_mX13_thrown (xhE_th rfl) (fun v12 h11 => ?_)
  refine l_loc dL_law_333 rfl rfl ?_
  refine l_ceq (t := 340) dL_law_335 rfl ?_ ?_
  · refine l_loc dL_law_340 rfl rfl ?_
    refine l_ine (t := 356) dL_law_342 rfl ?_ ?_
    · refine l_goto (t := 3482) dL_law_356 rfl ?_
      exact l_al rfl ⟨rfl, rfl, rfl, rfl, rfl, trivial⟩
    · refine l_loc dL_law_345 rfl rfl ?_
      refine l_ic dL_law_346 kI_0 ?_
      refine l_rl dL_law_347 (fun v13 => ?_)
      refine l_loc dL_law_348 rfl rfl ?_
      refine l_pure dL_law_350 rfl rfl ?_
      refine l_ieq (t := 356) dL_law_351 rfl ?_ ?_
      · refine l_goto (t := 3482) dL_law_356 rfl ?_
        exact l_al rfl ⟨rfl, rfl, rfl, rfl, rfl, trivial⟩
      · refine l_ic dL_law_354 kI_0 ?_
        exact l_iretn dL_law_355 rfl (by decide)
  · refine l_ic dL_law_338 kI_0 ?_
    exact l_iretn dL_law_339 rfl (by decide)
set_option maxRecDepth 16000 in
theorem w_L_law_359 (S : xS) (x1 : Nat) (x2 : Nat) (x3 : Nat) (x4 : Int32) (h : xH) : xle ((xRs S (x4 + (1 : Int32))).bind fun v1 => (xRs S (x4 + (2 : Int32))).bind fun v2 => (xRs S (x4 + (3 : Int32))).bind fun v3 => (xRs S (x4 + (4 : Int32))).bind fun v4 => xqI (xM S mL_setRow [.ref x1, .int v1, .int v2, .long (((v3.toInt64) <<< ((32 : Int32).toInt64 &&& 63)) ||| ((v4.toInt64) &&& (4294967295 : Int64))), .ref x3] h) xth fun v6 h5 => (xRs S (x4 + (1 : Int32))).bind fun v7 => (xRs S (x4 + (2 : Int32))).bind fun v8 => (xRs S (x4 + (3 : Int32))).bind fun v9 => (xRs S (x4 + (4 : Int32))).bind fun v10 => if xOb h5 x2 12 = true then xqI (xM S mX13_setRow [.ref x2, .int v7, .int v8, .long (((v9.toInt64) <<< ((32 : Int32).toInt64 &&& 63)) ||| ((v10.toInt64) &&& (4294967295 : Int64)))] h5) xth fun v13 h12 => if xOb h12 x2 12 = true then xqI (xM S mX13_thrown [.ref x2] h12) xth fun v16 h15 => if v16 = v6 then (if ¬ v6 = 0 then (xden S mL_law 3482 [(0, .retAddr 11), (1, .ref x1), (2, .ref x2), (3, .ref x3), (4, .int x4)] [] h15) else ((xRl h15 x3 (0 : Int32)).bind fun v17 => if (lg_cmp v17 (v13.toInt64)) = 0 then (xden S mL_law 3482 [(0, .retAddr 11), (1, .ref x1), (2, .ref x2), (3, .ref x3), (4, .int x4)] [] h15) else (some (.inl (some (.int (0 : Int32))), h15, 0, 0)))) else (some (.inl (some (.int (0 : Int32))), h15, 0, 0)) else none else none) (xden S mL_law 359 [(0, .retAddr 11), (1, .ref x1), (2, .ref x2), (3, .ref x3), (4, .int x4)] [] h) := by
  refine l_loc dL_law_359 rfl rfl ?_
  refine l_loc dL_law_360 rfl rfl ?_
  refine l_loc dL_law_361 rfl rfl ?_
  refine l_ic dL_law_363 kI_1 ?_
  refine l_pure dL_law_364 rfl rfl ?_
  refine l_rs dL_law_365 (fun v1 => ?_)
  refine l_loc dL_law_366 rfl rfl ?_
  refine l_loc dL_law_367 rfl rfl ?_
  refine l_ic dL_law_369 kI_2 ?_
  refine l_pure dL_law_370 rfl rfl ?_
  refine l_rs dL_law_371 (fun v2 => ?_)
  refine l_loc dL_law_372 rfl rfl ?_
  refine l_loc dL_law_373 rfl rfl ?_
  refine l_ic dL_law_375 kI_3 ?_
  refine l_pure dL_law_376 rfl rfl ?_
  refine l_rs dL_law_377 (fun v3 => ?_)
  refine l_pure dL_law_378 rfl rfl ?_
  refine l_bi dL_law_379 kB_32 ?_
  refine l_pure dL_law_381 rfl rfl ?_
  refine l_loc dL_law_382 rfl rfl ?_
  refine l_loc dL_law_383 rfl rfl ?_
  refine l_ic dL_law_385 kI_4 ?_
  refine l_pure dL_law_386 rfl rfl ?_
  refine l_rs dL_law_387 (fun v4 => ?_)
  refine l_pure dL_law_388 rfl rfl ?_
  refine l_rd (st1 := [.long (4294967295 : Int64), .long (v4.toInt64), .long ((v3.toInt64) <<< ((32 : Int32).toInt64 &&& 63)), .int v2, .int v1, .ref x1]) dL_law_389 rfl rfl ?_
  refine l_pure dL_law_392 rfl rfl ?_
  refine l_pure dL_law_393 rfl rfl ?_
  refine l_loc dL_law_394 rfl rfl ?_
  refine l_cI dL_law_395 rfl rfl rfl (l_xs cl_14_200 ko_mL_setRow rfl rfl) rfl rfl nm_mL_setRow (xhE_th rfl) (fun v6 h5 => ?_)
  refine l_loc (al1 := [(5, .int v6), (0, .retAddr 11), (1, .ref x1), (2, .ref x2), (3, .ref x3), (4, .int x4)]) dL_law_398 rfl rfl ?_
  refine l_loc dL_law_400 rfl rfl ?_
  refine l_loc dL_law_401 rfl rfl ?_
  refine l_loc dL_law_402 rfl rfl ?_
  refine l_ic dL_law_404 kI_1 ?_
  refine l_pure dL_law_405 rfl rfl ?_
  refine l_rs dL_law_406 (fun v7 => ?_)
  refine l_loc dL_law_407 rfl rfl ?_
  refine l_loc dL_law_408 rfl rfl ?_
  refine l_ic dL_law_410 kI_2 ?_
  refine l_pure dL_law_411 rfl rfl ?_
  refine l_rs dL_law_412 (fun v8 => ?_)
  refine l_loc dL_law_413 rfl rfl ?_
  refine l_loc dL_law_414 rfl rfl ?_
  refine l_ic dL_law_416 kI_3 ?_
  refine l_pure dL_law_417 rfl rfl ?_
  refine l_rs dL_law_418 (fun v9 => ?_)
  refine l_pure dL_law_419 rfl rfl ?_
  refine l_bi dL_law_420 kB_32 ?_
  refine l_pure dL_law_422 rfl rfl ?_
  refine l_loc dL_law_423 rfl rfl ?_
  refine l_loc dL_law_424 rfl rfl ?_
  refine l_ic dL_law_426 kI_4 ?_
  refine l_pure dL_law_427 rfl rfl ?_
  refine l_rs dL_law_428 (fun v10 => ?_)
  refine l_pure dL_law_429 rfl rfl ?_
  refine l_rd (st1 := [.long (4294967295 : Int64), .long (v10.toInt64), .long ((v9.toInt64) <<< ((32 : Int32).toInt64 &&& 63)), .int v8, .int v7, .ref x2]) dL_law_430 rfl rfl ?_
  refine l_pure dL_law_433 rfl rfl ?_
  refine l_pure dL_law_434 rfl rfl ?_
  refine l_ob fun q11 => ?_
  refine l_cI dL_law_435 rfl rfl rfl (l_xv cl_14_203 ko_mX13_setRow rfl rfl rfl q11) rfl rfl nm_mX13_setRow (xhE_th rfl) (fun v13 h12 => ?_)
  refine l_loc (al1 := [(6, .int v13), (5, .int v6), (0, .retAddr 11), (1, .ref x1), (2, .ref x2), (3, .ref x3), (4, .int x4)]) dL_law_438 rfl rfl ?_
  refine l_loc dL_law_440 rfl rfl ?_
  refine l_ob fun q14 => ?_
  refine l_cI dL_law_441 rfl rfl rfl (l_xv cl_14_195 ko_mX13_thrown rfl rfl rfl q14) rfl rfl nm_mX13_thrown (xhE_th rfl) (fun v16 h15 => ?_)
  refine l_loc dL_law_444 rfl rfl ?_
  refine l_ceq (t := 451) dL_law_446 rfl ?_ ?_
  · refine l_loc dL_law_451 rfl rfl ?_
    refine l_ine (t := 468) dL_law_453 rfl ?_ ?_
    · refine l_goto (t := 3482) dL_law_468 rfl ?_
      exact l_al rfl ⟨rfl, rfl, rfl, rfl, rfl, trivial⟩
    · refine l_loc dL_law_456 rfl rfl ?_
      refine l_ic dL_law_457 kI_0 ?_
      refine l_rl dL_law_458 (fun v17 => ?_)
      refine l_loc dL_law_459 rfl rfl ?_
      refine l_pure dL_law_461 rfl rfl ?_
      refine l_pure dL_law_462 rfl rfl ?_
      refine l_ieq (t := 468) dL_law_463 rfl ?_ ?_
      · refine l_goto (t := 3482) dL_law_468 rfl ?_
        exact l_al rfl ⟨rfl, rfl, rfl, rfl, rfl, trivial⟩
      · refine l_ic dL_law_466 kI_0 ?_
        exact l_iretn dL_law_467 rfl (by decide)
  · refine l_ic dL_law_449 kI_0 ?_
    exact l_iretn dL_law_450 rfl (by decide)
set_option maxRecDepth 16000 in
theorem w_L_law_471 (S : xS) (x1 : Nat) (x2 : Nat) (x3 : Nat) (x4 : Int32) (h : xH) : xle ((xRs S (x4 + (1 : Int32))).bind fun v1 => (xRs S (x4 + (2 : Int32))).bind fun v2 => (xRs S (x4 + (3 : Int32))).bind fun v3 => (xRs S (x4 + (4 : Int32))).bind fun v4 => (xRs S (x4 + (5 : Int32))).bind fun v5 => (xRs S (x4 + (6 : Int32))).bind fun v6 => if v6 = 0 then (xqI (xM S mL_fill [.ref x1, .int v1, .int v2, .int v3, .int v4, .int v5, .int (0 : Int32), .ref x3] h) xth fun v8 h7 => (xRs S (x4 + (1 : Int32))).bind fun v9 => (xRs S (x4 + (2 : Int32))).bind fun v10 => (xRs S (x4 + (3 : Int32))).bind fun v11 => (xRs S (x4 + (4 : Int32))).bind fun v12 => (xRs S (x4 + (5 : Int32))).bind fun v13 => (xRs S (x4 + (6 : Int32))).bind fun v14 => if v14 = 0 then (if xOb h7 x2 12 = true then xqI (xM S mX13_fill [.ref x2, .int v9, .int v10, .int v11, .int v12, .int v13, .int (0 : Int32)] h7) xth fun v17 h16 => if xOb h16 x2 12 = true then xqI (xM S mX13_thrown [.ref x2] h16) xth fun v20 h19 => if v20 = v8 then (if ¬ v8 = 0 then (xden S mL_law 3482 [(0, .retAddr 11), (1, .ref x1), (2, .ref x2), (3, .ref x3), (4, .int x4)] [] h19) else ((xRl h19 x3 (0 : Int32)).bind fun v21 => if (lg_cmp v21 (v17.toInt64)) = 0 then (xden S mL_law 3482 [(0, .retAddr 11), (1, .ref x1), (2, .ref x2), (3, .ref x3), (4, .int x4)] [] h19) else (some (.inl (some (.int (0 : Int32))), h19, 0, 0)))) else (some (.inl (some (.int (0 : Int32))), h19, 0, 0)) else none else none) else (if xOb h7 x2 12 = true then xqI (xM S mX13_fill [.ref x2, .int v9, .int v10, .int v11, .int v12, .int v13, .int (1 : Int32)] h7) xth fun v24 h23 => if xOb h23 x2 12 = true then xqI (xM S mX13_thrown [.ref x2] h23) xth fun v27 h26 => if v27 = v8 then (if ¬ v8 = 0 then (xden S mL_law 3482 [(0, .retAddr 11), (1, .ref x1), (2, .ref x2), (3, .ref x3), (4, .int x4)] [] h26) else ((xRl h26 x3 (0 : Int32)).bind fun v28 => if (lg_cmp v28 (v24.toInt64)) = 0 then (xden S mL_law 3482 [(0, .retAddr 11), (1, .ref x1), (2, .ref x2), (3, .ref x3), (4, .int x4)] [] h26) else (some (.inl (some (.int (0 : Int32))), h26, 0, 0)))) else (some (.inl (some (.int (0 : Int32))), h26, 0, 0)) else none else none)) else (xqI (xM S mL_fill [.ref x1, .int v1, .int v2, .int v3, .int v4, .int v5, .int (1 : Int32), .ref x3] h) xth fun v30 h29 => (xRs S (x4 + (1 : Int32))).bind fun v31 => (xRs S (x4 + (2 : Int32))).bind fun v32 => (xRs S (x4 + (3 : Int32))).bind fun v33 => (xRs S (x4 + (4 : Int32))).bind fun v34 => (xRs S (x4 + (5 : Int32))).bind fun v35 => (xRs S (x4 + (6 : Int32))).bind fun v36 => if v36 = 0 then (if xOb h29 x2 12 = true then xqI (xM S mX13_fill [.ref x2, .int v31, .int v32, .int v33, .int v34, .int v35, .int (0 : Int32)] h29) xth fun v39 h38 => if xOb h38 x2 12 = true then xqI (xM S mX13_thrown [.ref x2] h38) xth fun v42 h41 => if v42 = v30 then (if ¬ v30 = 0 then (xden S mL_law 3482 [(0, .retAddr 11), (1, .ref x1), (2, .ref x2), (3, .ref x3), (4, .int x4)] [] h41) else ((xRl h41 x3 (0 : Int32)).bind fun v43 => if (lg_cmp v43 (v39.toInt64)) = 0 then (xden S mL_law 3482 [(0, .retAddr 11), (1, .ref x1), (2, .ref x2), (3, .ref x3), (4, .int x4)] [] h41) else (some (.inl (some (.int (0 : Int32))), h41, 0, 0)))) else (some (.inl (some (.int (0 : Int32))), h41, 0, 0)) else none else none) else (if xOb h29 x2 12 = true then xqI (xM S mX13_fill [.ref x2, .int v31, .int v32, .int v33, .int v34, .int v35, .int (1 : Int32)] h29) xth fun v46 h45 => if xOb h45 x2 12 = true then xqI (xM S mX13_thrown [.ref x2] h45) xth fun v49 h48 => if v49 = v30 then (if ¬ v30 = 0 then (xden S mL_law 3482 [(0, .retAddr 11), (1, .ref x1), (2, .ref x2), (3, .ref x3), (4, .int x4)] [] h48) else ((xRl h48 x3 (0 : Int32)).bind fun v50 => if (lg_cmp v50 (v46.toInt64)) = 0 then (xden S mL_law 3482 [(0, .retAddr 11), (1, .ref x1), (2, .ref x2), (3, .ref x3), (4, .int x4)] [] h48) else (some (.inl (some (.int (0 : Int32))), h48, 0, 0)))) else (some (.inl (some (.int (0 : Int32))), h48, 0, 0)) else none else none))) (xden S mL_law 471 [(0, .retAddr 11), (1, .ref x1), (2, .ref x2), (3, .ref x3), (4, .int x4)] [] h) := by
  refine l_loc dL_law_471 rfl rfl ?_
  refine l_loc dL_law_472 rfl rfl ?_
  refine l_loc dL_law_473 rfl rfl ?_
  refine l_ic dL_law_475 kI_1 ?_
  refine l_pure dL_law_476 rfl rfl ?_
  refine l_rs dL_law_477 (fun v1 => ?_)
  refine l_loc dL_law_478 rfl rfl ?_
  refine l_loc dL_law_479 rfl rfl ?_
  refine l_ic dL_law_481 kI_2 ?_
  refine l_pure dL_law_482 rfl rfl ?_
  refine l_rs dL_law_483 (fun v2 => ?_)
  refine l_loc dL_law_484 rfl rfl ?_
  refine l_loc dL_law_485 rfl rfl ?_
  refine l_ic dL_law_487 kI_3 ?_
  refine l_pure dL_law_488 rfl rfl ?_
  refine l_rs dL_law_489 (fun v3 => ?_)
  refine l_loc dL_law_490 rfl rfl ?_
  refine l_loc dL_law_491 rfl rfl ?_
  refine l_ic dL_law_493 kI_4 ?_
  refine l_pure dL_law_494 rfl rfl ?_
  refine l_rs dL_law_495 (fun v4 => ?_)
  refine l_loc dL_law_496 rfl rfl ?_
  refine l_loc dL_law_497 rfl rfl ?_
  refine l_ic dL_law_499 kI_5 ?_
  refine l_pure dL_law_500 rfl rfl ?_
  refine l_rs dL_law_501 (fun v5 => ?_)
  refine l_loc dL_law_502 rfl rfl ?_
  refine l_loc dL_law_503 rfl rfl ?_
  refine l_bi dL_law_505 kB_6 ?_
  refine l_pure dL_law_507 rfl rfl ?_
  refine l_rs dL_law_508 (fun v6 => ?_)
  refine l_ieq (t := 516) dL_law_509 rfl ?_ ?_
  · refine l_ic dL_law_516 kI_0 ?_
    refine l_loc dL_law_517 rfl rfl ?_
    refine l_cI dL_law_518 rfl rfl rfl (l_xs cl_14_204 ko_mL_fill rfl rfl) rfl rfl nm_mL_fill (xhE_th rfl) (fun v8 h7 => ?_)
    refine l_loc (al1 := [(5, .int v8), (0, .retAddr 11), (1, .ref x1), (2, .ref x2), (3, .ref x3), (4, .int x4)]) dL_law_521 rfl rfl ?_
    refine l_loc dL_law_523 rfl rfl ?_
    refine l_loc dL_law_524 rfl rfl ?_
    refine l_loc dL_law_525 rfl rfl ?_
    refine l_ic dL_law_527 kI_1 ?_
    refine l_pure dL_law_528 rfl rfl ?_
    refine l_rs dL_law_529 (fun v9 => ?_)
    refine l_loc dL_law_530 rfl rfl ?_
    refine l_loc dL_law_531 rfl rfl ?_
    refine l_ic dL_law_533 kI_2 ?_
    refine l_pure dL_law_534 rfl rfl ?_
    refine l_rs dL_law_535 (fun v10 => ?_)
    refine l_loc dL_law_536 rfl rfl ?_
    refine l_loc dL_law_537 rfl rfl ?_
    refine l_ic dL_law_539 kI_3 ?_
    refine l_pure dL_law_540 rfl rfl ?_
    refine l_rs dL_law_541 (fun v11 => ?_)
    refine l_loc dL_law_542 rfl rfl ?_
    refine l_loc dL_law_543 rfl rfl ?_
    refine l_ic dL_law_545 kI_4 ?_
    refine l_pure dL_law_546 rfl rfl ?_
    refine l_rs dL_law_547 (fun v12 => ?_)
    refine l_loc dL_law_548 rfl rfl ?_
    refine l_loc dL_law_549 rfl rfl ?_
    refine l_ic dL_law_551 kI_5 ?_
    refine l_pure dL_law_552 rfl rfl ?_
    refine l_rs dL_law_553 (fun v13 => ?_)
    refine l_loc dL_law_554 rfl rfl ?_
    refine l_loc dL_law_555 rfl rfl ?_
    refine l_bi dL_law_557 kB_6 ?_
    refine l_pure dL_law_559 rfl rfl ?_
    refine l_rs dL_law_560 (fun v14 => ?_)
    refine l_ieq (t := 568) dL_law_561 rfl ?_ ?_
    · refine l_ic dL_law_568 kI_0 ?_
      refine l_ob fun q15 => ?_
      refine l_cI dL_law_569 rfl rfl rfl (l_xv cl_14_207 ko_mX13_fill rfl rfl rfl q15) rfl rfl nm_mX13_fill (xhE_th rfl) (fun v17 h16 => ?_)
      refine l_loc (al1 := [(6, .int v17), (5, .int v8), (0, .retAddr 11), (1, .ref x1), (2, .ref x2), (3, .ref x3), (4, .int x4)]) dL_law_572 rfl rfl ?_
      refine l_loc dL_law_574 rfl rfl ?_
      refine l_ob fun q18 => ?_
      refine l_cI dL_law_575 rfl rfl rfl (l_xv cl_14_195 ko_mX13_thrown rfl rfl rfl q18) rfl rfl nm_mX13_thrown (xhE_th rfl) (fun v20 h19 => ?_)
      refine l_loc dL_law_578 rfl rfl ?_
      refine l_ceq (t := 585) dL_law_580 rfl ?_ ?_
      · refine l_loc dL_law_585 rfl rfl ?_
        refine l_ine (t := 602) dL_law_587 rfl ?_ ?_
        · refine l_goto (t := 3482) dL_law_602 rfl ?_
          exact l_al rfl ⟨rfl, rfl, rfl, rfl, rfl, trivial⟩
        · refine l_loc dL_law_590 rfl rfl ?_
          refine l_ic dL_law_591 kI_0 ?_
          refine l_rl dL_law_592 (fun v21 => ?_)
          refine l_loc dL_law_593 rfl rfl ?_
          refine l_pure dL_law_595 rfl rfl ?_
          refine l_pure dL_law_596 rfl rfl ?_
          refine l_ieq (t := 602) dL_law_597 rfl ?_ ?_
          · refine l_goto (t := 3482) dL_law_602 rfl ?_
            exact l_al rfl ⟨rfl, rfl, rfl, rfl, rfl, trivial⟩
          · refine l_ic dL_law_600 kI_0 ?_
            exact l_iretn dL_law_601 rfl (by decide)
      · refine l_ic dL_law_583 kI_0 ?_
        exact l_iretn dL_law_584 rfl (by decide)
    · refine l_ic dL_law_564 kI_1 ?_
      refine l_goto (t := 569) dL_law_565 rfl ?_
      refine l_ob fun q22 => ?_
      refine l_cI dL_law_569 rfl rfl rfl (l_xv cl_14_207 ko_mX13_fill rfl rfl rfl q22) rfl rfl nm_mX13_fill (xhE_th rfl) (fun v24 h23 => ?_)
      refine l_loc (al1 := [(6, .int v24), (5, .int v8), (0, .retAddr 11), (1, .ref x1), (2, .ref x2), (3, .ref x3), (4, .int x4)]) dL_law_572 rfl rfl ?_
      refine l_loc dL_law_574 rfl rfl ?_
      refine l_ob fun q25 => ?_
      refine l_cI dL_law_575 rfl rfl rfl (l_xv cl_14_195 ko_mX13_thrown rfl rfl rfl q25) rfl rfl nm_mX13_thrown (xhE_th rfl) (fun v27 h26 => ?_)
      refine l_loc dL_law_578 rfl rfl ?_
      refine l_ceq (t := 585) dL_law_580 rfl ?_ ?_
      · refine l_loc dL_law_585 rfl rfl ?_
        refine l_ine (t := 602) dL_law_587 rfl ?_ ?_
        · refine l_goto (t := 3482) dL_law_602 rfl ?_
          exact l_al rfl ⟨rfl, rfl, rfl, rfl, rfl, trivial⟩
        · refine l_loc dL_law_590 rfl rfl ?_
          refine l_ic dL_law_591 kI_0 ?_
          refine l_rl dL_law_592 (fun v28 => ?_)
          refine l_loc dL_law_593 rfl rfl ?_
          refine l_pure dL_law_595 rfl rfl ?_
          refine l_pure dL_law_596 rfl rfl ?_
          refine l_ieq (t := 602) dL_law_597 rfl ?_ ?_
          · refine l_goto (t := 3482) dL_law_602 rfl ?_
            exact l_al rfl ⟨rfl, rfl, rfl, rfl, rfl, trivial⟩
          · refine l_ic dL_law_600 kI_0 ?_
            exact l_iretn dL_law_601 rfl (by decide)
      · refine l_ic dL_law_583 kI_0 ?_
        exact l_iretn dL_law_584 rfl (by decide)
  · refine l_ic dL_law_512 kI_1 ?_
    refine l_goto (t := 517) dL_law_513 rfl ?_
    refine l_loc dL_law_517 rfl rfl ?_
    refine l_cI dL_law_518 rfl rfl rfl (l_xs cl_14_204 ko_mL_fill rfl rfl) rfl rfl nm_mL_fill (xhE_th rfl) (fun v30 h29 => ?_)
    refine l_loc (al1 := [(5, .int v30), (0, .retAddr 11), (1, .ref x1), (2, .ref x2), (3, .ref x3), (4, .int x4)]) dL_law_521 rfl rfl ?_
    refine l_loc dL_law_523 rfl rfl ?_
    refine l_loc dL_law_524 rfl rfl ?_
    refine l_loc dL_law_525 rfl rfl ?_
    refine l_ic dL_law_527 kI_1 ?_
    refine l_pure dL_law_528 rfl rfl ?_
    refine l_rs dL_law_529 (fun v31 => ?_)
    refine l_loc dL_law_530 rfl rfl ?_
    refine l_loc dL_law_531 rfl rfl ?_
    refine l_ic dL_law_533 kI_2 ?_
    refine l_pure dL_law_534 rfl rfl ?_
    refine l_rs dL_law_535 (fun v32 => ?_)
    refine l_loc dL_law_536 rfl rfl ?_
    refine l_loc dL_law_537 rfl rfl ?_
    refine l_ic dL_law_539 kI_3 ?_
    refine l_pure dL_law_540 rfl rfl ?_
    refine l_rs dL_law_541 (fun v33 => ?_)
    refine l_loc dL_law_542 rfl rfl ?_
    refine l_loc dL_law_543 rfl rfl ?_
    refine l_ic dL_law_545 kI_4 ?_
    refine l_pure dL_law_546 rfl rfl ?_
    refine l_rs dL_law_547 (fun v34 => ?_)
    refine l_loc dL_law_548 rfl rfl ?_
    refine l_loc dL_law_549 rfl rfl ?_
    refine l_ic dL_law_551 kI_5 ?_
    refine l_pure dL_law_552 rfl rfl ?_
    refine l_rs dL_law_553 (fun v35 => ?_)
    refine l_loc dL_law_554 rfl rfl ?_
    refine l_loc dL_law_555 rfl rfl ?_
    refine l_bi dL_law_557 kB_6 ?_
    refine l_pure dL_law_559 rfl rfl ?_
    refine l_rs dL_law_560 (fun v36 => ?_)
    refine l_ieq (t := 568) dL_law_561 rfl ?_ ?_
    · refine l_ic dL_law_568 kI_0 ?_
      refine l_ob fun q37 => ?_
      refine l_cI dL_law_569 rfl rfl rfl (l_xv cl_14_207 ko_mX13_fill rfl rfl rfl q37) rfl rfl nm_mX13_fill (xhE_th rfl) (fun v39 h38 => ?_)
      refine l_loc (al1 := [(6, .int v39), (5, .int v30), (0, .retAddr 11), (1, .ref x1), (2, .ref x2), (3, .ref x3), (4, .int x4)]) dL_law_572 rfl rfl ?_
      refine l_loc dL_law_574 rfl rfl ?_
      refine l_ob fun q40 => ?_
      refine l_cI dL_law_575 rfl rfl rfl (l_xv cl_14_195 ko_mX13_thrown rfl rfl rfl q40) rfl rfl nm_mX13_thrown (xhE_th rfl) (fun v42 h41 => ?_)
      refine l_loc dL_law_578 rfl rfl ?_
      refine l_ceq (t := 585) dL_law_580 rfl ?_ ?_
      · refine l_loc dL_law_585 rfl rfl ?_
        refine l_ine (t := 602) dL_law_587 rfl ?_ ?_
        · refine l_goto (t := 3482) dL_law_602 rfl ?_
          exact l_al rfl ⟨rfl, rfl, rfl, rfl, rfl, trivial⟩
        · refine l_loc dL_law_590 rfl rfl ?_
          refine l_ic dL_law_591 kI_0 ?_
          refine l_rl dL_law_592 (fun v43 => ?_)
          refine l_loc dL_law_593 rfl rfl ?_
          refine l_pure dL_law_595 rfl rfl ?_
          refine l_pure dL_law_596 rfl rfl ?_
          refine l_ieq (t := 602) dL_law_597 rfl ?_ ?_
          · refine l_goto (t := 3482) dL_law_602 rfl ?_
            exact l_al rfl ⟨rfl, rfl, rfl, rfl, rfl, trivial⟩
          · refine l_ic dL_law_600 kI_0 ?_
            exact l_iretn dL_law_601 rfl (by decide)
      · refine l_ic dL_law_583 kI_0 ?_
        exact l_iretn dL_law_584 rfl (by decide)
    · refine l_ic dL_law_564 kI_1 ?_
      refine l_goto (t := 569) dL_law_565 rfl ?_
      refine l_ob fun q44 => ?_
      refine l_cI dL_law_569 rfl rfl rfl (l_xv cl_14_207 ko_mX13_fill rfl rfl rfl q44) rfl rfl nm_mX13_fill (xhE_th rfl) (fun v46 h45 => ?_)
      refine l_loc (al1 := [(6, .int v46), (5, .int v30), (0, .retAddr 11), (1, .ref x1), (2, .ref x2), (3, .ref x3), (4, .int x4)]) dL_law_572 rfl rfl ?_
      refine l_loc dL_law_574 rfl rfl ?_
      refine l_ob fun q47 => ?_
      refine l_cI dL_law_575 rfl rfl rfl (l_xv cl_14_195 ko_mX13_thrown rfl rfl rfl q47) rfl rfl nm_mX13_thrown (xhE_th rfl) (fun v49 h48 => ?_)
      refine l_loc dL_law_578 rfl rfl ?_
      refine l_ceq (t := 585) dL_law_580 rfl ?_ ?_
      · refine l_loc dL_law_585 rfl rfl ?_
        refine l_ine (t := 602) dL_law_587 rfl ?_ ?_
        · refine l_goto (t := 3482) dL_law_602 rfl ?_
          exact l_al rfl ⟨rfl, rfl, rfl, rfl, rfl, trivial⟩
        · refine l_loc dL_law_590 rfl rfl ?_
          refine l_ic dL_law_591 kI_0 ?_
          refine l_rl dL_law_592 (fun v50 => ?_)
          refine l_loc dL_law_593 rfl rfl ?_
          refine l_pure dL_law_595 rfl rfl ?_
          refine l_pure dL_law_596 rfl rfl ?_
          refine l_ieq (t := 602) dL_law_597 rfl ?_ ?_
          · refine l_goto (t := 3482) dL_law_602 rfl ?_
            exact l_al rfl ⟨rfl, rfl, rfl, rfl, rfl, trivial⟩
          · refine l_ic dL_law_600 kI_0 ?_
            exact l_iretn dL_law_601 rfl (by decide)
      · refine l_ic dL_law_583 kI_0 ?_
        exact l_iretn dL_law_584 rfl (by decide)
set_option maxRecDepth 16000 in
theorem w_L_law_605 (S : xS) (x1 : Nat) (x2 : Nat) (x3 : Nat) (x4 : Int32) (h : xH) : xle ((xRs S (x4 + (1 : Int32))).bind fun v1 => (xRs S (x4 + (2 : Int32))).bind fun v2 => (xRs S (x4 + (3 : Int32))).bind fun v3 => (xRs S (x4 + (4 : Int32))).bind fun v4 => xqI (xM S mL_copy [.ref x1, .int v1, .int v2, .int v3, .int v4, .ref x3] h) xth fun v6 h5 => (xRs S (x4 + (1 : Int32))).bind fun v7 => (xRs S (x4 + (2 : Int32))).bind fun v8 => (xRs S (x4 + (3 : Int32))).bind fun v9 => (xRs S (x4 + (4 : Int32))).bind fun v10 => if xOb h5 x2 12 = true then xqI (xM S mX13_copy [.ref x2, .int v7, .int v8, .int v9, .int v10] h5) xth fun v13 h12 => if xOb h12 x2 12 = true then xqI (xM S mX13_thrown [.ref x2] h12) xth fun v16 h15 => if v16 = v6 then (if ¬ v6 = 0 then (xden S mL_law 3482 [(0, .retAddr 11), (1, .ref x1), (2, .ref x2), (3, .ref x3), (4, .int x4)] [] h15) else ((xRl h15 x3 (0 : Int32)).bind fun v17 => if (lg_cmp v17 (v13.toInt64)) = 0 then (xden S mL_law 3482 [(0, .retAddr 11), (1, .ref x1), (2, .ref x2), (3, .ref x3), (4, .int x4)] [] h15) else (some (.inl (some (.int (0 : Int32))), h15, 0, 0)))) else (some (.inl (some (.int (0 : Int32))), h15, 0, 0)) else none else none) (xden S mL_law 605 [(0, .retAddr 11), (1, .ref x1), (2, .ref x2), (3, .ref x3), (4, .int x4)] [] h) := by
  refine l_loc dL_law_605 rfl rfl ?_
  refine l_loc dL_law_606 rfl rfl ?_
  refine l_loc dL_law_607 rfl rfl ?_
  refine l_ic dL_law_609 kI_1 ?_
  refine l_pure dL_law_610 rfl rfl ?_
  refine l_rs dL_law_611 (fun v1 => ?_)
  refine l_loc dL_law_612 rfl rfl ?_
  refine l_loc dL_law_613 rfl rfl ?_
  refine l_ic dL_law_615 kI_2 ?_
  refine l_pure dL_law_616 rfl rfl ?_
  refine l_rs dL_law_617 (fun v2 => ?_)
  refine l_loc dL_law_618 rfl rfl ?_
  refine l_loc dL_law_619 rfl rfl ?_
  refine l_ic dL_law_621 kI_3 ?_
  refine l_pure dL_law_622 rfl rfl ?_
  refine l_rs dL_law_623 (fun v3 => ?_)
  refine l_loc dL_law_624 rfl rfl ?_
  refine l_loc dL_law_625 rfl rfl ?_
  refine l_ic dL_law_627 kI_4 ?_
  refine l_pure dL_law_628 rfl rfl ?_
  refine l_rs dL_law_629 (fun v4 => ?_)
  refine l_loc dL_law_630 rfl rfl ?_
  refine l_cI dL_law_631 rfl rfl rfl (l_xs cl_14_208 ko_mL_copy rfl rfl) rfl rfl nm_mL_copy (xhE_th rfl) (fun v6 h5 => ?_)
  refine l_loc (al1 := [(5, .int v6), (0, .retAddr 11), (1, .ref x1), (2, .ref x2), (3, .ref x3), (4, .int x4)]) dL_law_634 rfl rfl ?_
  refine l_loc dL_law_636 rfl rfl ?_
  refine l_loc dL_law_637 rfl rfl ?_
  refine l_loc dL_law_638 rfl rfl ?_
  refine l_ic dL_law_640 kI_1 ?_
  refine l_pure dL_law_641 rfl rfl ?_
  refine l_rs dL_law_642 (fun v7 => ?_)
  refine l_loc dL_law_643 rfl rfl ?_
  refine l_loc dL_law_644 rfl rfl ?_
  refine l_ic dL_law_646 kI_2 ?_
  refine l_pure dL_law_647 rfl rfl ?_
  refine l_rs dL_law_648 (fun v8 => ?_)
  refine l_loc dL_law_649 rfl rfl ?_
  refine l_loc dL_law_650 rfl rfl ?_
  refine l_ic dL_law_652 kI_3 ?_
  refine l_pure dL_law_653 rfl rfl ?_
  refine l_rs dL_law_654 (fun v9 => ?_)
  refine l_loc dL_law_655 rfl rfl ?_
  refine l_loc dL_law_656 rfl rfl ?_
  refine l_ic dL_law_658 kI_4 ?_
  refine l_pure dL_law_659 rfl rfl ?_
  refine l_rs dL_law_660 (fun v10 => ?_)
  refine l_ob fun q11 => ?_
  refine l_cI dL_law_661 rfl rfl rfl (l_xv cl_14_211 ko_mX13_copy rfl rfl rfl q11) rfl rfl nm_mX13_copy (xhE_th rfl) (fun v13 h12 => ?_)
  refine l_loc (al1 := [(6, .int v13), (5, .int v6), (0, .retAddr 11), (1, .ref x1), (2, .ref x2), (3, .ref x3), (4, .int x4)]) dL_law_664 rfl rfl ?_
  refine l_loc dL_law_666 rfl rfl ?_
  refine l_ob fun q14 => ?_
  refine l_cI dL_law_667 rfl rfl rfl (l_xv cl_14_195 ko_mX13_thrown rfl rfl rfl q14) rfl rfl nm_mX13_thrown (xhE_th rfl) (fun v16 h15 => ?_)
  refine l_loc dL_law_670 rfl rfl ?_
  refine l_ceq (t := 677) dL_law_672 rfl ?_ ?_
  · refine l_loc dL_law_677 rfl rfl ?_
    refine l_ine (t := 694) dL_law_679 rfl ?_ ?_
    · refine l_goto (t := 3482) dL_law_694 rfl ?_
      exact l_al rfl ⟨rfl, rfl, rfl, rfl, rfl, trivial⟩
    · refine l_loc dL_law_682 rfl rfl ?_
      refine l_ic dL_law_683 kI_0 ?_
      refine l_rl dL_law_684 (fun v17 => ?_)
      refine l_loc dL_law_685 rfl rfl ?_
      refine l_pure dL_law_687 rfl rfl ?_
      refine l_pure dL_law_688 rfl rfl ?_
      refine l_ieq (t := 694) dL_law_689 rfl ?_ ?_
      · refine l_goto (t := 3482) dL_law_694 rfl ?_
        exact l_al rfl ⟨rfl, rfl, rfl, rfl, rfl, trivial⟩
      · refine l_ic dL_law_692 kI_0 ?_
        exact l_iretn dL_law_693 rfl (by decide)
  · refine l_ic dL_law_675 kI_0 ?_
    exact l_iretn dL_law_676 rfl (by decide)
set_option maxRecDepth 16000 in
theorem w_L_law_697 (S : xS) (x1 : Nat) (x2 : Nat) (x3 : Nat) (x4 : Int32) (h : xH) : xle ((xRs S (x4 + (1 : Int32))).bind fun v1 => xqI (xM S mL_merge [.ref x1, .int v1, .ref x3] h) xth fun v3 h2 => (xRs S (x4 + (1 : Int32))).bind fun v4 => if xOb h2 x2 12 = true then xqI (xM S mX13_merge [.ref x2, .int v4] h2) xth fun v7 h6 => if xOb h6 x2 12 = true then xqI (xM S mX13_thrown [.ref x2] h6) xth fun v10 h9 => if v10 = v3 then (if ¬ v3 = 0 then (xden S mL_law 3482 [(0, .retAddr 11), (1, .ref x1), (2, .ref x2), (3, .ref x3), (4, .int x4)] [] h9) else ((xRl h9 x3 (0 : Int32)).bind fun v11 => if (lg_cmp v11 (v7.toInt64)) = 0 then (xden S mL_law 3482 [(0, .retAddr 11), (1, .ref x1), (2, .ref x2), (3, .ref x3), (4, .int x4)] [] h9) else (some (.inl (some (.int (0 : Int32))), h9, 0, 0)))) else (some (.inl (some (.int (0 : Int32))), h9, 0, 0)) else none else none) (xden S mL_law 697 [(0, .retAddr 11), (1, .ref x1), (2, .ref x2), (3, .ref x3), (4, .int x4)] [] h) := by
  refine l_loc dL_law_697 rfl rfl ?_
  refine l_loc dL_law_698 rfl rfl ?_
  refine l_loc dL_law_699 rfl rfl ?_
  refine l_ic dL_law_701 kI_1 ?_
  refine l_pure dL_law_702 rfl rfl ?_
  refine l_rs dL_law_703 (fun v1 => ?_)
  refine l_loc dL_law_704 rfl rfl ?_
  refine l_cI dL_law_705 rfl rfl rfl (l_xs cl_14_212 ko_mL_merge rfl rfl) rfl rfl nm_mL_merge (xhE_th rfl) (fun v3 h2 => ?_)
  refine l_loc (al1 := [(5, .int v3), (0, .retAddr 11), (1, .ref x1), (2, .ref x2), (3, .ref x3), (4, .int x4)]) dL_law_708 rfl rfl ?_
  refine l_loc dL_law_710 rfl rfl ?_
  refine l_loc dL_law_711 rfl rfl ?_
  refine l_loc dL_law_712 rfl rfl ?_
  refine l_ic dL_law_714 kI_1 ?_
  refine l_pure dL_law_715 rfl rfl ?_
  refine l_rs dL_law_716 (fun v4 => ?_)
  refine l_ob fun q5 => ?_
  refine l_cI dL_law_717 rfl rfl rfl (l_xv cl_14_215 ko_mX13_merge rfl rfl rfl q5) rfl rfl nm_mX13_merge (xhE_th rfl) (fun v7 h6 => ?_)
  refine l_loc (al1 := [(6, .int v7), (5, .int v3), (0, .retAddr 11), (1, .ref x1), (2, .ref x2), (3, .ref x3), (4, .int x4)]) dL_law_720 rfl rfl ?_
  refine l_loc dL_law_722 rfl rfl ?_
  refine l_ob fun q8 => ?_
  refine l_cI dL_law_723 rfl rfl rfl (l_xv cl_14_195 ko_mX13_thrown rfl rfl rfl q8) rfl rfl nm_mX13_thrown (xhE_th rfl) (fun v10 h9 => ?_)
  refine l_loc dL_law_726 rfl rfl ?_
  refine l_ceq (t := 733) dL_law_728 rfl ?_ ?_
  · refine l_loc dL_law_733 rfl rfl ?_
    refine l_ine (t := 750) dL_law_735 rfl ?_ ?_
    · refine l_goto (t := 3482) dL_law_750 rfl ?_
      exact l_al rfl ⟨rfl, rfl, rfl, rfl, rfl, trivial⟩
    · refine l_loc dL_law_738 rfl rfl ?_
      refine l_ic dL_law_739 kI_0 ?_
      refine l_rl dL_law_740 (fun v11 => ?_)
      refine l_loc dL_law_741 rfl rfl ?_
      refine l_pure dL_law_743 rfl rfl ?_
      refine l_pure dL_law_744 rfl rfl ?_
      refine l_ieq (t := 750) dL_law_745 rfl ?_ ?_
      · refine l_goto (t := 3482) dL_law_750 rfl ?_
        exact l_al rfl ⟨rfl, rfl, rfl, rfl, rfl, trivial⟩
      · refine l_ic dL_law_748 kI_0 ?_
        exact l_iretn dL_law_749 rfl (by decide)
  · refine l_ic dL_law_731 kI_0 ?_
    exact l_iretn dL_law_732 rfl (by decide)
set_option maxRecDepth 16000 in
theorem w_L_law_753 (S : xS) (x1 : Nat) (x2 : Nat) (x3 : Nat) (x4 : Int32) (h : xH) : xle ((xRs S (x4 + (1 : Int32))).bind fun v1 => (xRs S (x4 + (2 : Int32))).bind fun v2 => xqI (xM S mL_flip [.ref x1, .int v1, .int v2, .ref x3] h) xth fun v4 h3 => (xRs S (x4 + (1 : Int32))).bind fun v5 => (xRs S (x4 + (2 : Int32))).bind fun v6 => if xOb h3 x2 12 = true then xqI (xM S mX13_flip [.ref x2, .int v5, .int v6] h3) xth fun v9 h8 => if xOb h8 x2 12 = true then xqI (xM S mX13_thrown [.ref x2] h8) xth fun v12 h11 => if v12 = v4 then (if ¬ v4 = 0 then (xden S mL_law 3482 [(0, .retAddr 11), (1, .ref x1), (2, .ref x2), (3, .ref x3), (4, .int x4)] [] h11) else ((xRl h11 x3 (0 : Int32)).bind fun v13 => if (lg_cmp v13 (v9.toInt64)) = 0 then (xden S mL_law 3482 [(0, .retAddr 11), (1, .ref x1), (2, .ref x2), (3, .ref x3), (4, .int x4)] [] h11) else (some (.inl (some (.int (0 : Int32))), h11, 0, 0)))) else (some (.inl (some (.int (0 : Int32))), h11, 0, 0)) else none else none) (xden S mL_law 753 [(0, .retAddr 11), (1, .ref x1), (2, .ref x2), (3, .ref x3), (4, .int x4)] [] h) := by
  refine l_loc dL_law_753 rfl rfl ?_
  refine l_loc dL_law_754 rfl rfl ?_
  refine l_loc dL_law_755 rfl rfl ?_
  refine l_ic dL_law_757 kI_1 ?_
  refine l_pure dL_law_758 rfl rfl ?_
  refine l_rs dL_law_759 (fun v1 => ?_)
  refine l_loc dL_law_760 rfl rfl ?_
  refine l_loc dL_law_761 rfl rfl ?_
  refine l_ic dL_law_763 kI_2 ?_
  refine l_pure dL_law_764 rfl rfl ?_
  refine l_rs dL_law_765 (fun v2 => ?_)
  refine l_loc dL_law_766 rfl rfl ?_
  refine l_cI dL_law_767 rfl rfl rfl (l_xs cl_14_216 ko_mL_flip rfl rfl) rfl rfl nm_mL_flip (xhE_th rfl) (fun v4 h3 => ?_)
  refine l_loc (al1 := [(5, .int v4), (0, .retAddr 11), (1, .ref x1), (2, .ref x2), (3, .ref x3), (4, .int x4)]) dL_law_770 rfl rfl ?_
  refine l_loc dL_law_772 rfl rfl ?_
  refine l_loc dL_law_773 rfl rfl ?_
  refine l_loc dL_law_774 rfl rfl ?_
  refine l_ic dL_law_776 kI_1 ?_
  refine l_pure dL_law_777 rfl rfl ?_
  refine l_rs dL_law_778 (fun v5 => ?_)
  refine l_loc dL_law_779 rfl rfl ?_
  refine l_loc dL_law_780 rfl rfl ?_
  refine l_ic dL_law_782 kI_2 ?_
  refine l_pure dL_law_783 rfl rfl ?_
  refine l_rs dL_law_784 (fun v6 => ?_)
  refine l_ob fun q7 => ?_
  refine l_cI dL_law_785 rfl rfl rfl (l_xv cl_14_218 ko_mX13_flip rfl rfl rfl q7) rfl rfl nm_mX13_flip (xhE_th rfl) (fun v9 h8 => ?_)
  refine l_loc (al1 := [(6, .int v9), (5, .int v4), (0, .retAddr 11), (1, .ref x1), (2, .ref x2), (3, .ref x3), (4, .int x4)]) dL_law_788 rfl rfl ?_
  refine l_loc dL_law_790 rfl rfl ?_
  refine l_ob fun q10 => ?_
  refine l_cI dL_law_791 rfl rfl rfl (l_xv cl_14_195 ko_mX13_thrown rfl rfl rfl q10) rfl rfl nm_mX13_thrown (xhE_th rfl) (fun v12 h11 => ?_)
  refine l_loc dL_law_794 rfl rfl ?_
  refine l_ceq (t := 801) dL_law_796 rfl ?_ ?_
  · refine l_loc dL_law_801 rfl rfl ?_
    refine l_ine (t := 818) dL_law_803 rfl ?_ ?_
    · refine l_goto (t := 3482) dL_law_818 rfl ?_
      exact l_al rfl ⟨rfl, rfl, rfl, rfl, rfl, trivial⟩
    · refine l_loc dL_law_806 rfl rfl ?_
      refine l_ic dL_law_807 kI_0 ?_
      refine l_rl dL_law_808 (fun v13 => ?_)
      refine l_loc dL_law_809 rfl rfl ?_
      refine l_pure dL_law_811 rfl rfl ?_
      refine l_pure dL_law_812 rfl rfl ?_
      refine l_ieq (t := 818) dL_law_813 rfl ?_ ?_
      · refine l_goto (t := 3482) dL_law_818 rfl ?_
        exact l_al rfl ⟨rfl, rfl, rfl, rfl, rfl, trivial⟩
      · refine l_ic dL_law_816 kI_0 ?_
        exact l_iretn dL_law_817 rfl (by decide)
  · refine l_ic dL_law_799 kI_0 ?_
    exact l_iretn dL_law_800 rfl (by decide)

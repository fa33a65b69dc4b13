/-! ROWS OF METHODS, by program (wip/whole/wp.py, wpemit.py): each method as an expression -/
set_option maxRecDepth 16000 in
theorem w_X10_init (S : xS) (x0 : Nat) (h : xH) : xle (if x0 < h.length then xNa 5 (.inr (.inr (.inr (.inr (fun _ => none))))) (7 : Int32) h fun a1 h2 => (xP true 9 h2 x0 9 0 (.ref a1)).bind fun h3 => (xden S mX10_init 15 [(0, .ref x0), (1, .int (0 : Int32))] [] h3) else none) (xM S mX10_init [.ref x0] h) := by
  show xle _ (xden S mX10_init 0 [(0, .ref x0)] [] h)
  refine l_loc dX10_init_0 rfl rfl ?_
  refine l_obi dX10_init_1 rfl rfl rfl ?_
  refine l_loc dX10_init_4 rfl rfl ?_
  refine l_bi dX10_init_5 kB_7 ?_
  refine l_na (t := 5) dX10_init_7 rfl (fun a1 h2 => ?_)
  refine l_pf dX10_init_10 fl_9_11 (ini := true) nm_mX10_init (fun h3 => ?_)
  refine l_ic dX10_init_13 kI_0 ?_
  refine l_loc (al1 := [(1, .int (0 : Int32)), (0, .ref x0)]) dX10_init_14 rfl rfl ?_
  exact l_al rfl ⟨rfl, rfl, trivial⟩
set_option maxRecDepth 16000 in
theorem w_X10_init_15 (S : xS) (x0 : Nat) (x1 : Int32) (h : xH) : xle (if (7 : Int32) ≤ x1 then (some (.inl none, h, 0, 0)) else ((xGr h x0 9 0).bind fun v1 => xNo 5 h fun a2 h3 => xqC (xM S mX5_init [.ref a2, .int (0 : Int32)] h3) fun h4 => (xWr h4 v1 x1 a2).bind fun h5 => xlet (x1 + (1 : Int32)) fun v6 => (xden S mX10_init 15 [(0, .ref x0), (1, .int v6)] [] h5))) (xden S mX10_init 15 [(0, .ref x0), (1, .int x1)] [] h) := by
  refine l_loc dX10_init_15 rfl rfl ?_
  refine l_bi dX10_init_16 kB_7 ?_
  refine l_cge (t := 41) dX10_init_18 rfl ?_ ?_
  · exact l_end dX10_init_41 rfl rfl
  · refine l_loc dX10_init_21 rfl rfl ?_
    refine l_gr dX10_init_22 fl_9_11 (fun v1 => ?_)
    refine l_loc dX10_init_25 rfl rfl ?_
    refine l_new (c := 5) dX10_init_26 rfl (fun a2 h3 _ _ => ?_)
    refine l_pure dX10_init_29 rfl rfl ?_
    refine l_ic dX10_init_30 kI_0 ?_
    refine l_cC dX10_init_31 rfl rfl rfl (l_xi cl_9_17 ko_mX5_init rfl rfl rfl) rfl rfl (fun h4 => ?_)
    refine l_wa dX10_init_34 (fun h5 => ?_)
    refine l_incl (al1 := fun v6 => [(1, .int v6), (0, .ref x0)]) dX10_init_35 rfl kI_1 rfl (fun _ => rfl) (fun v6 => ?_)
    refine l_goto (t := 15) dX10_init_38 rfl ?_
    exact l_al rfl ⟨rfl, rfl, trivial⟩
set_option maxRecDepth 16000 in
theorem w_X5_init (S : xS) (x0 : Nat) (x1 : Int32) (h : xH) : xle (if x0 < h.length then xNa 1 (.inr (.inl (fun _ => 0))) (64 : Int32) h fun a1 h2 => (xP true 5 h2 x0 5 1 (.ref a1)).bind fun h3 => (xP true 5 h3 x0 5 0 (.int x1)).bind fun h4 => some (.inl none, h4, 0, 0) else none) (xM S mX5_init [.ref x0, .int x1] h) := by
  show xle _ (xden S mX5_init 0 [(0, .ref x0), (1, .int x1)] [] h)
  refine l_loc dX5_init_0 rfl rfl ?_
  refine l_obi dX5_init_1 rfl rfl rfl ?_
  refine l_loc dX5_init_4 rfl rfl ?_
  refine l_bi dX5_init_5 kB_64 ?_
  refine l_nl dX5_init_7 (fun a1 h2 => ?_)
  refine l_pf dX5_init_9 fl_5_9 (ini := true) nm_mX5_init (fun h3 => ?_)
  refine l_loc dX5_init_12 rfl rfl ?_
  refine l_loc dX5_init_13 rfl rfl ?_
  refine l_pf dX5_init_14 fl_5_15 (ini := true) nm_mX5_init (fun h4 => ?_)
  exact l_end dX5_init_17 rfl rfl
set_option maxRecDepth 16000 in
theorem w_X8_init (S : xS) (x0 : Nat) (x1 : Int32) (x2 : Int32) (h : xH) : xle (if x0 < h.length then xNa 0 (.inl (fun _ => 0)) (256 : Int32) h fun a1 h2 => (xP true 8 h2 x0 8 4 (.ref a1)).bind fun h3 => xNa 0 (.inl (fun _ => 0)) (256 : Int32) h3 fun a4 h5 => (xP true 8 h5 x0 8 5 (.ref a4)).bind fun h6 => (xP true 8 h6 x0 8 0 (.int x1)).bind fun h7 => (xP true 8 h7 x0 8 1 (.int x2)).bind fun h8 => xNo 4 h8 fun a9 h10 => xqC (xM S mX4_init [.ref a9, .int x1, .int x2] h10) fun h11 => (xP true 8 h11 x0 8 2 (.ref a9)).bind fun h12 => xNo 4 h12 fun a13 h14 => xqC (xM S mX4_init [.ref a13, .int x1, .int x2] h14) fun h15 => (xP true 8 h15 x0 8 3 (.ref a13)).bind fun h16 => some (.inl none, h16, 0, 0) else none) (xM S mX8_init [.ref x0, .int x1, .int x2] h) := by
  show xle _ (xden S mX8_init 0 [(0, .ref x0), (1, .int x1), (2, .int x2)] [] h)
  refine l_loc dX8_init_0 rfl rfl ?_
  refine l_obi dX8_init_1 rfl rfl rfl ?_
  refine l_loc dX8_init_4 rfl rfl ?_
  refine l_si dX8_init_5 kS_256 ?_
  refine l_ni dX8_init_8 (fun a1 h2 => ?_)
  refine l_pf dX8_init_10 fl_8_9 (ini := true) nm_mX8_init (fun h3 => ?_)
  refine l_loc dX8_init_13 rfl rfl ?_
  refine l_si dX8_init_14 kS_256 ?_
  refine l_ni dX8_init_17 (fun a4 h5 => ?_)
  refine l_pf dX8_init_19 fl_8_15 (ini := true) nm_mX8_init (fun h6 => ?_)
  refine l_loc dX8_init_22 rfl rfl ?_
  refine l_loc dX8_init_23 rfl rfl ?_
  refine l_pf dX8_init_24 fl_8_18 (ini := true) nm_mX8_init (fun h7 => ?_)
  refine l_loc dX8_init_27 rfl rfl ?_
  refine l_loc dX8_init_28 rfl rfl ?_
  refine l_pf dX8_init_29 fl_8_22 (ini := true) nm_mX8_init (fun h8 => ?_)
  refine l_loc dX8_init_32 rfl rfl ?_
  refine l_new (c := 4) dX8_init_33 rfl (fun a9 h10 _ _ => ?_)
  refine l_pure dX8_init_36 rfl rfl ?_
  refine l_loc dX8_init_37 rfl rfl ?_
  refine l_loc dX8_init_38 rfl rfl ?_
  refine l_cC dX8_init_39 rfl rfl rfl (l_xi cl_8_27 ko_mX4_init rfl rfl rfl) rfl rfl (fun h11 => ?_)
  refine l_pf dX8_init_42 fl_8_30 (ini := true) nm_mX8_init (fun h12 => ?_)
  refine l_loc dX8_init_45 rfl rfl ?_
  refine l_new (c := 4) dX8_init_46 rfl (fun a13 h14 _ _ => ?_)
  refine l_pure dX8_init_49 rfl rfl ?_
  refine l_loc dX8_init_50 rfl rfl ?_
  refine l_loc dX8_init_51 rfl rfl ?_
  refine l_cC dX8_init_52 rfl rfl rfl (l_xi cl_8_27 ko_mX4_init rfl rfl rfl) rfl rfl (fun h15 => ?_)
  refine l_pf dX8_init_55 fl_8_34 (ini := true) nm_mX8_init (fun h16 => ?_)
  exact l_end dX8_init_58 rfl rfl
set_option maxRecDepth 16000 in
theorem w_X8_search (S : xS) (x0 : Nat) (x1 : Nat) (x2 : Nat) (x3 : Int32) (x4 : Int32) (x5 : Int32) (h : xH) : xle ((xGr h x0 8 4).bind fun v1 => if xOb h x0 8 = true then xqV (xM S mX8_countCells [.ref x0, .ref x1, .ref v1] h) xth fun h3 => (xP false 8 h3 x0 8 10 (.int (1000000 : Int32))).bind fun h5 => (xden S mX8_search 18 [(0, .ref x0), (1, .ref x1), (2, .ref x2), (3, .int x3), (4, .int x4), (5, .int x5), (6, .int (0 : Int32))] [] h5) else none) (xM S mX8_search [.ref x0, .ref x1, .ref x2, .int x3, .int x4, .int x5] h) := by
  show xle _ (xden S mX8_search 0 [(0, .ref x0), (1, .ref x1), (2, .ref x2), (3, .int x3), (4, .int x4), (5, .int x5)] [] h)
  refine l_loc dX8_search_0 rfl rfl ?_
  refine l_loc dX8_search_1 rfl rfl ?_
  refine l_loc dX8_search_2 rfl rfl ?_
  refine l_gr dX8_search_3 fl_8_9 (fun v1 => ?_)
  refine l_ob fun q2 => ?_
  refine l_cV dX8_search_6 rfl rfl rfl (l_xv cl_8_37 ko_mX8_countCells rfl rfl rfl q2) rfl rfl nm_mX8_countCells (xhE_th rfl) (fun h3 => ?_)
  refine l_loc dX8_search_9 rfl rfl ?_
  refine l_rd (st1 := [.int (1000000 : Int32), .ref x0]) dX8_search_10 rfl rfl ?_
  refine l_pf dX8_search_12 fl_8_42 (ini := false) nm_mX8_search (fun h5 => ?_)
  refine l_ic dX8_search_15 kI_0 ?_
  refine l_loc (al1 := [(6, .int (0 : Int32)), (0, .ref x0), (1, .ref x1), (2, .ref x2), (3, .int x3), (4, .int x4), (5, .int x5)]) dX8_search_16 rfl rfl ?_
  exact l_al rfl ⟨rfl, rfl, rfl, rfl, rfl, rfl, rfl, trivial⟩
set_option maxRecDepth 16000 in
theorem w_X8_search_18 (S : xS) (x0 : Nat) (x1 : Nat) (x2 : Nat) (x3 : Int32) (x4 : Int32) (x5 : Int32) (x6 : Int32) (h : xH) : xle (if x5 = 0 then (if (0 : Int32) < x6 then ((xGi h x0 8 9).bind fun v1 => (xGi h x0 8 8).bind fun v2 => if xOb h x0 8 = true then xqV (xM S mX8_look [.ref x0, .ref x2, .int v1, .int v2] h) xth fun h4 => some (.inl none, h4, 0, 0) else none) else (xden S mX8_search 36 [(0, .ref x0), (1, .ref x1), (2, .ref x2), (3, .int x3), (4, .int x4), (5, .int x5), (6, .int x6), (7, .int (0 : Int32))] [] h)) else (if (1 : Int32) < x6 then ((xGi h x0 8 9).bind fun v6 => (xGi h x0 8 8).bind fun v7 => if xOb h x0 8 = true then xqV (xM S mX8_look [.ref x0, .ref x2, .int v6, .int v7] h) xth fun h9 => some (.inl none, h9, 0, 0) else none) else (xden S mX8_search 36 [(0, .ref x0), (1, .ref x1), (2, .ref x2), (3, .int x3), (4, .int x4), (5, .int x5), (6, .int x6), (7, .int (0 : Int32))] [] h))) (xden S mX8_search 18 [(0, .ref x0), (1, .ref x1), (2, .ref x2), (3, .int x3), (4, .int x4), (5, .int x5), (6, .int x6)] [] h) := by
  refine l_loc dX8_search_18 rfl rfl ?_
  refine l_loc dX8_search_20 rfl rfl ?_
  refine l_ieq (t := 29) dX8_search_22 rfl ?_ ?_
  · refine l_ic dX8_search_29 kI_0 ?_
    refine l_cgt (t := 192) dX8_search_30 rfl ?_ ?_
    · refine l_loc dX8_search_192 rfl rfl ?_
      refine l_loc dX8_search_193 rfl rfl ?_
      refine l_loc dX8_search_194 rfl rfl ?_
      refine l_gi dX8_search_195 fl_8_75 (fun v1 => ?_)
      refine l_loc dX8_search_198 rfl rfl ?_
      refine l_gi dX8_search_199 fl_8_72 (fun v2 => ?_)
      refine l_ob fun q3 => ?_
      refine l_cV dX8_search_202 rfl rfl rfl (l_xv cl_8_45 ko_mX8_look rfl rfl rfl q3) rfl rfl nm_mX8_look (xhE_th rfl) (fun h4 => ?_)
      exact l_end dX8_search_205 rfl rfl
    · refine l_ic dX8_search_33 kI_0 ?_
      refine l_loc (al1 := [(7, .int (0 : Int32)), (0, .ref x0), (1, .ref x1), (2, .ref x2), (3, .int x3), (4, .int x4), (5, .int x5), (6, .int x6)]) dX8_search_34 rfl rfl ?_
      exact l_al rfl ⟨rfl, rfl, rfl, rfl, rfl, rfl, rfl, rfl, trivial⟩
  · refine l_ic dX8_search_25 kI_1 ?_
    refine l_goto (t := 30) dX8_search_26 rfl ?_
    refine l_cgt (t := 192) dX8_search_30 rfl ?_ ?_
    · refine l_loc dX8_search_192 rfl rfl ?_
      refine l_loc dX8_search_193 rfl rfl ?_
      refine l_loc dX8_search_194 rfl rfl ?_
      refine l_gi dX8_search_195 fl_8_75 (fun v6 => ?_)
      refine l_loc dX8_search_198 rfl rfl ?_
      refine l_gi dX8_search_199 fl_8_72 (fun v7 => ?_)
      refine l_ob fun q8 => ?_
      refine l_cV dX8_search_202 rfl rfl rfl (l_xv cl_8_45 ko_mX8_look rfl rfl rfl q8) rfl rfl nm_mX8_look (xhE_th rfl) (fun h9 => ?_)
      exact l_end dX8_search_205 rfl rfl
    · refine l_ic dX8_search_33 kI_0 ?_
      refine l_loc (al1 := [(7, .int (0 : Int32)), (0, .ref x0), (1, .ref x1), (2, .ref x2), (3, .int x3), (4, .int x4), (5, .int x5), (6, .int x6)]) dX8_search_34 rfl rfl ?_
      exact l_al rfl ⟨rfl, rfl, rfl, rfl, rfl, rfl, rfl, rfl, trivial⟩
set_option maxRecDepth 16000 in
theorem w_X8_search_36 (S : xS) (x0 : Nat) (x1 : Nat) (x2 : Nat) (x3 : Int32) (x4 : Int32) (x5 : Int32) (x6 : Int32) (x7 : Int32) (h : xH) : xle (if ((2 : Int32) * x4) < x7 then (xlet (x6 + (1 : Int32)) fun v1 => (xden S mX8_search 18 [(0, .ref x0), (1, .ref x1), (2, .ref x2), (3, .int x3), (4, .int x4), (5, .int x5), (6, .int v1)] [] h)) else (if ¬ (x7 &&& (1 : Int32)) = (1 : Int32) then (xlet (x7 / (2 : Int32)) fun v2 => if ¬ x6 = (1 : Int32) then (xden S mX8_search 82 [(0, .ref x0), (1, .ref x1), (2, .ref x2), (3, .int x3), (4, .int x4), (5, .int x5), (6, .int x6), (7, .int x7), (8, .int v2)] [.int (0 : Int32), .ref x2, .ref x0] h) else (xden S mX8_search 82 [(0, .ref x0), (1, .ref x1), (2, .ref x2), (3, .int x3), (4, .int x4), (5, .int x5), (6, .int x6), (7, .int x7), (8, .int v2)] [.int (1 : Int32), .ref x2, .ref x0] h)) else (xlet ((-(x7 + (1 : Int32))) / (2 : Int32)) fun v3 => if ¬ x6 = (1 : Int32) then (xden S mX8_search 82 [(0, .ref x0), (1, .ref x1), (2, .ref x2), (3, .int x3), (4, .int x4), (5, .int x5), (6, .int x6), (7, .int x7), (8, .int v3)] [.int (0 : Int32), .ref x2, .ref x0] h) else (xden S mX8_search 82 [(0, .ref x0), (1, .ref x1), (2, .ref x2), (3, .int x3), (4, .int x4), (5, .int x5), (6, .int x6), (7, .int x7), (8, .int v3)] [.int (1 : Int32), .ref x2, .ref x0] h)))) (xden S mX8_search 36 [(0, .ref x0), (1, .ref x1), (2, .ref x2), (3, .int x3), (4, .int x4), (5, .int x5), (6, .int x6), (7, .int x7)] [] h) := by
  refine l_loc dX8_search_36 rfl rfl ?_
  refine l_ic dX8_search_38 kI_2 ?_
  refine l_loc dX8_search_39 rfl rfl ?_
  refine l_pure dX8_search_41 rfl rfl ?_
  refine l_cgt (t := 186) dX8_search_42 rfl ?_ ?_
  · refine l_incl (al1 := fun v1 => [(6, .int v1), (0, .ref x0), (1, .ref x1), (2, .ref x2), (3, .int x3), (4, .int x4), (5, .int x5), (7, .int x7)]) dX8_search_186 rfl kI_1 rfl (fun _ => rfl) (fun v1 => ?_)
    refine l_goto (t := 18) dX8_search_189 rfl ?_
    exact l_al rfl ⟨rfl, rfl, rfl, rfl, rfl, rfl, rfl, trivial⟩
  · refine l_loc dX8_search_45 rfl rfl ?_
    refine l_ic dX8_search_47 kI_1 ?_
    refine l_pure dX8_search_48 rfl rfl ?_
    refine l_ic dX8_search_49 kI_1 ?_
    refine l_cne (t := 63) dX8_search_50 rfl ?_ ?_
    · refine l_loc dX8_search_63 rfl rfl ?_
      refine l_ic dX8_search_65 kI_2 ?_
      refine l_divn dX8_search_66 (by decide) ?_
      refine l_isl (al1 := fun v2 => [(8, .int v2), (0, .ref x0), (1, .ref x1), (2, .ref x2), (3, .int x3), (4, .int x4), (5, .int x5), (6, .int x6), (7, .int x7)]) dX8_search_67 rfl (fun _ => rfl) (fun v2 => ?_)
      refine l_loc dX8_search_69 rfl rfl ?_
      refine l_loc dX8_search_70 rfl rfl ?_
      refine l_loc dX8_search_71 rfl rfl ?_
      refine l_ic dX8_search_73 kI_1 ?_
      refine l_cne (t := 81) dX8_search_74 rfl ?_ ?_
      · refine l_ic dX8_search_81 kI_0 ?_
        exact l_al rfl ⟨rfl, rfl, rfl, rfl, rfl, rfl, rfl, rfl, rfl, trivial⟩
      · refine l_ic dX8_search_77 kI_1 ?_
        refine l_goto (t := 82) dX8_search_78 rfl ?_
        exact l_al rfl ⟨rfl, rfl, rfl, rfl, rfl, rfl, rfl, rfl, rfl, trivial⟩
    · refine l_loc dX8_search_53 rfl rfl ?_
      refine l_ic dX8_search_55 kI_1 ?_
      refine l_pure dX8_search_56 rfl rfl ?_
      refine l_pure dX8_search_57 rfl rfl ?_
      refine l_ic dX8_search_58 kI_2 ?_
      refine l_divn dX8_search_59 (by decide) ?_
      refine l_goto (t := 67) dX8_search_60 rfl ?_
      refine l_isl (al1 := fun v3 => [(8, .int v3), (0, .ref x0), (1, .ref x1), (2, .ref x2), (3, .int x3), (4, .int x4), (5, .int x5), (6, .int x6), (7, .int x7)]) dX8_search_67 rfl (fun _ => rfl) (fun v3 => ?_)
      refine l_loc dX8_search_69 rfl rfl ?_
      refine l_loc dX8_search_70 rfl rfl ?_
      refine l_loc dX8_search_71 rfl rfl ?_
      refine l_ic dX8_search_73 kI_1 ?_
      refine l_cne (t := 81) dX8_search_74 rfl ?_ ?_
      · refine l_ic dX8_search_81 kI_0 ?_
        exact l_al rfl ⟨rfl, rfl, rfl, rfl, rfl, rfl, rfl, rfl, rfl, trivial⟩
      · refine l_ic dX8_search_77 kI_1 ?_
        refine l_goto (t := 82) dX8_search_78 rfl ?_
        exact l_al rfl ⟨rfl, rfl, rfl, rfl, rfl, rfl, rfl, rfl, rfl, trivial⟩
set_option maxRecDepth 16000 in
theorem w_X8_search_82 (S : xS) (x0 : Nat) (x1 : Nat) (x2 : Nat) (x3 : Int32) (x4 : Int32) (x5 : Int32) (x6 : Int32) (x7 : Int32) (x8 : Int32) (z0 : Int32) (z1 : Nat) (z2 : Nat) (h : xH) : xle (if xOb h z2 8 = true then xqV (xM S mX8_look [.ref z2, .ref z1, .int z0, .int x8] h) xth fun h2 => (xGr h2 x0 8 3).bind fun v4 => (xGr h2 x0 8 5).bind fun v5 => if xOb h2 x0 8 = true then xqV (xM S mX8_countCells [.ref x0, .ref v4, .ref v5] h2) xth fun h7 => if xOb h7 x0 8 = true then xqV (xM S mX8_findCoarse [.ref x0, .int (x3 / (4 : Int32))] h7) xth fun h10 => (xGi h10 x0 8 11).bind fun v12 => (xGi h10 x0 8 12).bind fun v13 => if xOb h10 x0 8 = true then xqV (xM S mX8_findFine [.ref x0, .ref x1, .int ((4 : Int32) * v12), .int ((4 : Int32) * v13), .int x3] h10) xth fun h15 => (xGi h15 x0 8 13).bind fun v17 => (xGi h15 x0 8 10).bind fun v18 => if v18 ≤ v17 then (xlet (x7 + (1 : Int32)) fun v19 => (xden S mX8_search 36 [(0, .ref x0), (1, .ref x1), (2, .ref x2), (3, .int x3), (4, .int x4), (5, .int x5), (6, .int x6), (7, .int v19)] [] h15)) else ((xGi h15 x0 8 11).bind fun v20 => (xP false 8 h15 x0 8 6 (.int v20)).bind fun h21 => (xGi h21 x0 8 12).bind fun v22 => (xP false 8 h21 x0 8 7 (.int v22)).bind fun h23 => (xP false 8 h23 x0 8 8 (.int x8)).bind fun h24 => if ¬ x6 = (1 : Int32) then ((xP false 8 h24 x0 8 9 (.int (0 : Int32))).bind fun h25 => (xGi h25 x0 8 13).bind fun v26 => (xP false 8 h25 x0 8 10 (.int v26)).bind fun h27 => xlet (x7 + (1 : Int32)) fun v28 => (xden S mX8_search 36 [(0, .ref x0), (1, .ref x1), (2, .ref x2), (3, .int x3), (4, .int x4), (5, .int x5), (6, .int x6), (7, .int v28)] [] h27)) else ((xP false 8 h24 x0 8 9 (.int (1 : Int32))).bind fun h29 => (xGi h29 x0 8 13).bind fun v30 => (xP false 8 h29 x0 8 10 (.int v30)).bind fun h31 => xlet (x7 + (1 : Int32)) fun v32 => (xden S mX8_search 36 [(0, .ref x0), (1, .ref x1), (2, .ref x2), (3, .int x3), (4, .int x4), (5, .int x5), (6, .int x6), (7, .int v32)] [] h31))) else none else none else none else none) (xden S mX8_search 82 [(0, .ref x0), (1, .ref x1), (2, .ref x2), (3, .int x3), (4, .int x4), (5, .int x5), (6, .int x6), (7, .int x7), (8, .int x8)] [.int z0, .ref z1, .ref z2] h) := by
  refine l_loc dX8_search_82 rfl rfl ?_
  refine l_ob fun q1 => ?_
  refine l_cV dX8_search_84 rfl rfl rfl (l_xv cl_8_45 ko_mX8_look rfl rfl rfl q1) rfl rfl nm_mX8_look (xhE_th rfl) (fun h2 => ?_)
  refine l_loc dX8_search_87 rfl rfl ?_
  refine l_loc dX8_search_88 rfl rfl ?_
  refine l_gr dX8_search_89 fl_8_34 (fun v4 => ?_)
  refine l_loc dX8_search_92 rfl rfl ?_
  refine l_gr dX8_search_93 fl_8_15 (fun v5 => ?_)
  refine l_ob fun q6 => ?_
  refine l_cV dX8_search_96 rfl rfl rfl (l_xv cl_8_37 ko_mX8_countCells rfl rfl rfl q6) rfl rfl nm_mX8_countCells (xhE_th rfl) (fun h7 => ?_)
  refine l_loc dX8_search_99 rfl rfl ?_
  refine l_loc dX8_search_100 rfl rfl ?_
  refine l_ic dX8_search_101 kI_4 ?_
  refine l_divn dX8_search_102 (by decide) ?_
  refine l_ob fun q9 => ?_
  refine l_cV dX8_search_103 rfl rfl rfl (l_xv cl_8_49 ko_mX8_findCoarse rfl rfl rfl q9) rfl rfl nm_mX8_findCoarse (xhE_th rfl) (fun h10 => ?_)
  refine l_loc dX8_search_106 rfl rfl ?_
  refine l_loc dX8_search_107 rfl rfl ?_
  refine l_ic dX8_search_108 kI_4 ?_
  refine l_loc dX8_search_109 rfl rfl ?_
  refine l_gi dX8_search_110 fl_8_53 (fun v12 => ?_)
  refine l_pure dX8_search_113 rfl rfl ?_
  refine l_ic dX8_search_114 kI_4 ?_
  refine l_loc dX8_search_115 rfl rfl ?_
  refine l_gi dX8_search_116 fl_8_56 (fun v13 => ?_)
  refine l_pure dX8_search_119 rfl rfl ?_
  refine l_loc dX8_search_120 rfl rfl ?_
  refine l_ob fun q14 => ?_
  refine l_cV dX8_search_121 rfl rfl rfl (l_xv cl_8_59 ko_mX8_findFine rfl rfl rfl q14) rfl rfl nm_mX8_findFine (xhE_th rfl) (fun h15 => ?_)
  refine l_loc dX8_search_124 rfl rfl ?_
  refine l_gi dX8_search_125 fl_8_63 (fun v17 => ?_)
  refine l_loc dX8_search_128 rfl rfl ?_
  refine l_gi dX8_search_129 fl_8_42 (fun v18 => ?_)
  refine l_cge (t := 180) dX8_search_132 rfl ?_ ?_
  · refine l_incl (al1 := fun v19 => [(7, .int v19), (0, .ref x0), (1, .ref x1), (2, .ref x2), (3, .int x3), (4, .int x4), (5, .int x5), (6, .int x6), (8, .int x8)]) dX8_search_180 rfl kI_1 rfl (fun _ => rfl) (fun v19 => ?_)
    refine l_goto (t := 36) dX8_search_183 rfl ?_
    exact l_al rfl ⟨rfl, rfl, rfl, rfl, rfl, rfl, rfl, rfl, trivial⟩
  · refine l_loc dX8_search_135 rfl rfl ?_
    refine l_loc dX8_search_136 rfl rfl ?_
    refine l_gi dX8_search_137 fl_8_53 (fun v20 => ?_)
    refine l_pf dX8_search_140 fl_8_66 (ini := false) nm_mX8_search (fun h21 => ?_)
    refine l_loc dX8_search_143 rfl rfl ?_
    refine l_loc dX8_search_144 rfl rfl ?_
    refine l_gi dX8_search_145 fl_8_56 (fun v22 => ?_)
    refine l_pf dX8_search_148 fl_8_69 (ini := false) nm_mX8_search (fun h23 => ?_)
    refine l_loc dX8_search_151 rfl rfl ?_
    refine l_loc dX8_search_152 rfl rfl ?_
    refine l_pf dX8_search_154 fl_8_72 (ini := false) nm_mX8_search (fun h24 => ?_)
    refine l_loc dX8_search_157 rfl rfl ?_
    refine l_loc dX8_search_158 rfl rfl ?_
    refine l_ic dX8_search_160 kI_1 ?_
    refine l_cne (t := 168) dX8_search_161 rfl ?_ ?_
    · refine l_ic dX8_search_168 kI_0 ?_
      refine l_pf dX8_search_169 fl_8_75 (ini := false) nm_mX8_search (fun h25 => ?_)
      refine l_loc dX8_search_172 rfl rfl ?_
      refine l_loc dX8_search_173 rfl rfl ?_
      refine l_gi dX8_search_174 fl_8_63 (fun v26 => ?_)
      refine l_pf dX8_search_177 fl_8_42 (ini := false) nm_mX8_search (fun h27 => ?_)
      refine l_incl (al1 := fun v28 => [(7, .int v28), (0, .ref x0), (1, .ref x1), (2, .ref x2), (3, .int x3), (4, .int x4), (5, .int x5), (6, .int x6), (8, .int x8)]) dX8_search_180 rfl kI_1 rfl (fun _ => rfl) (fun v28 => ?_)
      refine l_goto (t := 36) dX8_search_183 rfl ?_
      exact l_al rfl ⟨rfl, rfl, rfl, rfl, rfl, rfl, rfl, rfl, trivial⟩
    · refine l_ic dX8_search_164 kI_1 ?_
      refine l_goto (t := 169) dX8_search_165 rfl ?_
      refine l_pf dX8_search_169 fl_8_75 (ini := false) nm_mX8_search (fun h29 => ?_)
      refine l_loc dX8_search_172 rfl rfl ?_
      refine l_loc dX8_search_173 rfl rfl ?_
      refine l_gi dX8_search_174 fl_8_63 (fun v30 => ?_)
      refine l_pf dX8_search_177 fl_8_42 (ini := false) nm_mX8_search (fun h31 => ?_)
      refine l_incl (al1 := fun v32 => [(7, .int v32), (0, .ref x0), (1, .ref x1), (2, .ref x2), (3, .int x3), (4, .int x4), (5, .int x5), (6, .int x6), (8, .int x8)]) dX8_search_180 rfl kI_1 rfl (fun _ => rfl) (fun v32 => ?_)
      refine l_goto (t := 36) dX8_search_183 rfl ?_
      exact l_al rfl ⟨rfl, rfl, rfl, rfl, rfl, rfl, rfl, rfl, trivial⟩
set_option maxRecDepth 16000 in
theorem w_X8_countCells (S : xS) (x0 : Nat) (x1 : Nat) (x2 : Nat) (h : xH) : xle (if xOb h x0 8 = true then xqI (xM S mX8_cellColumns [.ref x0] h) xth fun v3 h2 => (xden S mX8_countCells 8 [(0, .ref x0), (1, .ref x1), (2, .ref x2), (3, .int v3), (4, .int (0 : Int32))] [] h2) else none) (xM S mX8_countCells [.ref x0, .ref x1, .ref x2] h) := by
  show xle _ (xden S mX8_countCells 0 [(0, .ref x0), (1, .ref x1), (2, .ref x2)] [] h)
  refine l_loc dX8_countCells_0 rfl rfl ?_
  refine l_ob fun q1 => ?_
  refine l_cI dX8_countCells_1 rfl rfl rfl (l_xv cl_8_105 ko_mX8_cellColumns rfl rfl rfl q1) rfl rfl nm_mX8_cellColumns (xhE_th rfl) (fun v3 h2 => ?_)
  refine l_loc (al1 := [(3, .int v3), (0, .ref x0), (1, .ref x1), (2, .ref x2)]) dX8_countCells_4 rfl rfl ?_
  refine l_ic dX8_countCells_5 kI_0 ?_
  refine l_loc (al1 := [(4, .int (0 : Int32)), (3, .int v3), (0, .ref x0), (1, .ref x1), (2, .ref x2)]) dX8_countCells_6 rfl rfl ?_
  exact l_al rfl ⟨rfl, rfl, rfl, rfl, rfl, trivial⟩
set_option maxRecDepth 16000 in
theorem w_X8_countCells_8 (S : xS) (x0 : Nat) (x1 : Nat) (x2 : Nat) (x3 : Int32) (x4 : Int32) (h : xH) : xle (if xOb h x0 8 = true then xqI (xM S mX8_cellRows [.ref x0] h) xth fun v3 h2 => if v3 ≤ x4 then (some (.inl none, h2, 0, 0)) else (xden S mX8_countCells 20 [(0, .ref x0), (1, .ref x1), (2, .ref x2), (3, .int x3), (4, .int x4), (5, .int (0 : Int32))] [] h2) else none) (xden S mX8_countCells 8 [(0, .ref x0), (1, .ref x1), (2, .ref x2), (3, .int x3), (4, .int x4)] [] h) := by
  refine l_loc dX8_countCells_8 rfl rfl ?_
  refine l_loc dX8_countCells_10 rfl rfl ?_
  refine l_ob fun q1 => ?_
  refine l_cI dX8_countCells_11 rfl rfl rfl (l_xv cl_8_109 ko_mX8_cellRows rfl rfl rfl q1) rfl rfl nm_mX8_cellRows (xhE_th rfl) (fun v3 h2 => ?_)
  refine l_cge (t := 74) dX8_countCells_14 rfl ?_ ?_
  · exact l_end dX8_countCells_74 rfl rfl
  · refine l_ic dX8_countCells_17 kI_0 ?_
    refine l_loc (al1 := [(5, .int (0 : Int32)), (0, .ref x0), (1, .ref x1), (2, .ref x2), (3, .int x3), (4, .int x4)]) dX8_countCells_18 rfl rfl ?_
    exact l_al rfl ⟨rfl, rfl, rfl, rfl, rfl, rfl, trivial⟩
set_option maxRecDepth 16000 in
theorem w_X8_countCells_20 (S : xS) (x0 : Nat) (x1 : Nat) (x2 : Nat) (x3 : Int32) (x4 : Int32) (x5 : Int32) (h : xH) : xle (if x3 ≤ x5 then (xlet (x4 + (1 : Int32)) fun v1 => (xden S mX8_countCells 8 [(0, .ref x0), (1, .ref x1), (2, .ref x2), (3, .int x3), (4, .int v1)] [] h)) else (xlet ((x4 * x3) + x5) fun v2 => (xRz h x2).bind fun v3 => if v3 ≤ v2 then (xlet (x5 + (1 : Int32)) fun v4 => (xden S mX8_countCells 20 [(0, .ref x0), (1, .ref x1), (2, .ref x2), (3, .int x3), (4, .int x4), (5, .int v4)] [] h)) else (if xOb h x1 4 = true then xqI (xM S mX4_inkWithin [.ref x1, .long ((4 : Int32) * x5).toInt64, .long ((4 : Int32) * x4).toInt64, .int (4 : Int32), .int (4 : Int32)] h) xth fun v7 h6 => (xWi h6 x2 v2 v7).bind fun h8 => xlet (x5 + (1 : Int32)) fun v9 => (xden S mX8_countCells 20 [(0, .ref x0), (1, .ref x1), (2, .ref x2), (3, .int x3), (4, .int x4), (5, .int v9)] [] h8) else none))) (xden S mX8_countCells 20 [(0, .ref x0), (1, .ref x1), (2, .ref x2), (3, .int x3), (4, .int x4), (5, .int x5)] [] h) := by
  refine l_loc dX8_countCells_20 rfl rfl ?_
  refine l_loc dX8_countCells_22 rfl rfl ?_
  refine l_cge (t := 68) dX8_countCells_23 rfl ?_ ?_
  · refine l_incl (al1 := fun v1 => [(4, .int v1), (0, .ref x0), (1, .ref x1), (2, .ref x2), (3, .int x3), (5, .int x5)]) dX8_countCells_68 rfl kI_1 rfl (fun _ => rfl) (fun v1 => ?_)
    refine l_goto (t := 8) dX8_countCells_71 rfl ?_
    exact l_al rfl ⟨rfl, rfl, rfl, rfl, rfl, trivial⟩
  · refine l_loc dX8_countCells_26 rfl rfl ?_
    refine l_loc dX8_countCells_28 rfl rfl ?_
    refine l_pure dX8_countCells_29 rfl rfl ?_
    refine l_loc dX8_countCells_30 rfl rfl ?_
    refine l_pure dX8_countCells_32 rfl rfl ?_
    refine l_isl (al1 := fun v2 => [(6, .int v2), (0, .ref x0), (1, .ref x1), (2, .ref x2), (3, .int x3), (4, .int x4), (5, .int x5)]) dX8_countCells_33 rfl (fun _ => rfl) (fun v2 => ?_)
    refine l_loc dX8_countCells_35 rfl rfl ?_
    refine l_loc dX8_countCells_37 rfl rfl ?_
    refine l_ln dX8_countCells_38 (fun v3 => ?_)
    refine l_cge (t := 62) dX8_countCells_39 rfl ?_ ?_
    · refine l_incl (al1 := fun v4 => [(5, .int v4), (6, .int v2), (0, .ref x0), (1, .ref x1), (2, .ref x2), (3, .int x3), (4, .int x4)]) dX8_countCells_62 rfl kI_1 rfl (fun _ => rfl) (fun v4 => ?_)
      refine l_goto (t := 20) dX8_countCells_65 rfl ?_
      exact l_al rfl ⟨rfl, rfl, rfl, rfl, rfl, rfl, trivial⟩
    · refine l_loc dX8_countCells_42 rfl rfl ?_
      refine l_loc dX8_countCells_43 rfl rfl ?_
      refine l_loc dX8_countCells_45 rfl rfl ?_
      refine l_ic dX8_countCells_46 kI_4 ?_
      refine l_loc dX8_countCells_47 rfl rfl ?_
      refine l_pure dX8_countCells_49 rfl rfl ?_
      refine l_pure dX8_countCells_50 rfl rfl ?_
      refine l_ic dX8_countCells_51 kI_4 ?_
      refine l_loc dX8_countCells_52 rfl rfl ?_
      refine l_pure dX8_countCells_54 rfl rfl ?_
      refine l_pure dX8_countCells_55 rfl rfl ?_
      refine l_ic dX8_countCells_56 kI_4 ?_
      refine l_ic dX8_countCells_57 kI_4 ?_
      refine l_ob fun q5 => ?_
      refine l_cI dX8_countCells_58 rfl rfl rfl (l_xv cl_8_112 ko_mX4_inkWithin rfl rfl rfl q5) rfl rfl nm_mX4_inkWithin (xhE_th rfl) (fun v7 h6 => ?_)
      refine l_wi dX8_countCells_61 (fun h8 => ?_)
      refine l_incl (al1 := fun v9 => [(5, .int v9), (6, .int v2), (0, .ref x0), (1, .ref x1), (2, .ref x2), (3, .int x3), (4, .int x4)]) dX8_countCells_62 rfl kI_1 rfl (fun _ => rfl) (fun v9 => ?_)
      refine l_goto (t := 20) dX8_countCells_65 rfl ?_
      exact l_al rfl ⟨rfl, rfl, rfl, rfl, rfl, rfl, trivial⟩
set_option maxRecDepth 16000 in
theorem w_X8_cellColumns (S : xS) (x0 : Nat) (h : xH) : xle ((xGi h x0 8 0).bind fun v1 => some (.inl (some (.int (((v1 + (4 : Int32)) - (1 : Int32)) / (4 : Int32)))), h, 0, 0)) (xM S mX8_cellColumns [.ref x0] h) := by
  show xle _ (xden S mX8_cellColumns 0 [(0, .ref x0)] [] h)
  refine l_loc dX8_cellColumns_0 rfl rfl ?_
  refine l_gi dX8_cellColumns_1 fl_8_18 (fun v1 => ?_)
  refine l_ic dX8_cellColumns_4 kI_4 ?_
  refine l_pure dX8_cellColumns_5 rfl rfl ?_
  refine l_ic dX8_cellColumns_6 kI_1 ?_
  refine l_pure dX8_cellColumns_7 rfl rfl ?_
  refine l_ic dX8_cellColumns_8 kI_4 ?_
  refine l_divn dX8_cellColumns_9 (by decide) ?_
  exact l_iretn dX8_cellColumns_10 rfl (by rfl)
set_option maxRecDepth 16000 in
theorem w_X8_cellRows (S : xS) (x0 : Nat) (h : xH) : xle ((xGi h x0 8 1).bind fun v1 => some (.inl (some (.int (((v1 + (4 : Int32)) - (1 : Int32)) / (4 : Int32)))), h, 0, 0)) (xM S mX8_cellRows [.ref x0] h) := by
  show xle _ (xden S mX8_cellRows 0 [(0, .ref x0)] [] h)
  refine l_loc dX8_cellRows_0 rfl rfl ?_
  refine l_gi dX8_cellRows_1 fl_8_22 (fun v1 => ?_)
  refine l_ic dX8_cellRows_4 kI_4 ?_
  refine l_pure dX8_cellRows_5 rfl rfl ?_
  refine l_ic dX8_cellRows_6 kI_1 ?_
  refine l_pure dX8_cellRows_7 rfl rfl ?_
  refine l_ic dX8_cellRows_8 kI_4 ?_
  refine l_divn dX8_cellRows_9 (by decide) ?_
  exact l_iretn dX8_cellRows_10 rfl (by rfl)
set_option maxRecDepth 16000 in
theorem w_X8_look (S : xS) (x0 : Nat) (x1 : Nat) (x2 : Int32) (x3 : Int32) (h : xH) : xle (if x2 = 0 then ((xGr h x0 8 2).bind fun v1 => if xOb h v1 4 = true then xqV (xM S mX4_takeFrom [.ref v1, .ref x1] h) xth fun h3 => (xden S mX8_look 28 [(0, .ref x0), (3, .int x3), (4, .int (0 : Int32))] [] h3) else none) else ((xGr h x0 8 2).bind fun v5 => if xOb h v5 4 = true then xqV (xM S mX4_drawFlipped [.ref v5, .ref x1, .int (1 : Int32), .int (1 : Int32)] h) xth fun h7 => (xden S mX8_look 28 [(0, .ref x0), (3, .int x3), (4, .int (0 : Int32))] [] h7) else none)) (xM S mX8_look [.ref x0, .ref x1, .int x2, .int x3] h) := by
  show xle _ (xden S mX8_look 0 [(0, .ref x0), (1, .ref x1), (2, .int x2), (3, .int x3)] [] h)
  refine l_loc dX8_look_0 rfl rfl ?_
  refine l_ieq (t := 17) dX8_look_1 rfl ?_ ?_
  · refine l_loc dX8_look_17 rfl rfl ?_
    refine l_gr dX8_look_18 fl_8_30 (fun v1 => ?_)
    refine l_loc dX8_look_21 rfl rfl ?_
    refine l_ob fun q2 => ?_
    refine l_cV dX8_look_22 rfl rfl rfl (l_xv cl_8_83 ko_mX4_takeFrom rfl rfl rfl q2) rfl rfl nm_mX4_takeFrom (xhE_th rfl) (fun h3 => ?_)
    refine l_ic dX8_look_25 kI_0 ?_
    refine l_loc (al1 := [(4, .int (0 : Int32)), (0, .ref x0), (1, .ref x1), (2, .int x2), (3, .int x3)]) dX8_look_26 rfl rfl ?_
    exact l_al rfl ⟨rfl, rfl, rfl, trivial⟩
  · refine l_loc dX8_look_4 rfl rfl ?_
    refine l_gr dX8_look_5 fl_8_30 (fun v5 => ?_)
    refine l_loc dX8_look_8 rfl rfl ?_
    refine l_ic dX8_look_9 kI_1 ?_
    refine l_ic dX8_look_10 kI_1 ?_
    refine l_ob fun q6 => ?_
    refine l_cV dX8_look_11 rfl rfl rfl (l_xv cl_8_79 ko_mX4_drawFlipped rfl rfl rfl q6) rfl rfl nm_mX4_drawFlipped (xhE_th rfl) (fun h7 => ?_)
    refine l_goto (t := 25) dX8_look_14 rfl ?_
    refine l_ic dX8_look_25 kI_0 ?_
    refine l_loc (al1 := [(4, .int (0 : Int32)), (0, .ref x0), (1, .ref x1), (2, .int x2), (3, .int x3)]) dX8_look_26 rfl rfl ?_
    exact l_al rfl ⟨rfl, rfl, rfl, trivial⟩
set_option maxRecDepth 16000 in
theorem w_X8_look_28 (S : xS) (x0 : Nat) (x3 : Int32) (x4 : Int32) (h : xH) : xle ((xGi h x0 8 1).bind fun v1 => if v1 ≤ x4 then (some (.inl none, h, 0, 0)) else ((xGr h x0 8 3).bind fun v2 => (xGr h x0 8 2).bind fun v3 => if xOb h v3 4 = true then xqJ (xM S mX4_rowAt [.ref v3, .int x4] h) xth fun v6 h5 => xqI (xM S mJ9_floorDiv_7cf53 [.int (x3 * x4), .int (16 : Int32)] h5) xth fun v8 h7 => xqJ (xM S mX4_moved [.long v6, .int (-v8)] h7) xth fun v10 h9 => if xOb h9 v2 4 = true then xqV (xM S mX4_putRow [.ref v2, .int x4, .long v10] h9) xth fun h12 => xlet (x4 + (1 : Int32)) fun v14 => (xden S mX8_look 28 [(0, .ref x0), (3, .int x3), (4, .int v14)] [] h12) else none else none)) (xden S mX8_look 28 [(0, .ref x0), (3, .int x3), (4, .int x4)] [] h) := by
  refine l_loc dX8_look_28 rfl rfl ?_
  refine l_loc dX8_look_30 rfl rfl ?_
  refine l_gi dX8_look_31 fl_8_22 (fun v1 => ?_)
  refine l_cge (t := 74) dX8_look_34 rfl ?_ ?_
  · exact l_end dX8_look_74 rfl rfl
  · refine l_loc dX8_look_37 rfl rfl ?_
    refine l_gr dX8_look_38 fl_8_34 (fun v2 => ?_)
    refine l_loc dX8_look_41 rfl rfl ?_
    refine l_loc dX8_look_43 rfl rfl ?_
    refine l_gr dX8_look_44 fl_8_30 (fun v3 => ?_)
    refine l_loc dX8_look_47 rfl rfl ?_
    refine l_ob fun q4 => ?_
    refine l_cJ dX8_look_49 rfl rfl rfl (l_xv cl_8_87 ko_mX4_rowAt rfl rfl rfl q4) rfl rfl nm_mX4_rowAt (xhE_th rfl) (fun v6 h5 => ?_)
    refine l_loc dX8_look_52 rfl rfl ?_
    refine l_loc dX8_look_53 rfl rfl ?_
    refine l_pure dX8_look_55 rfl rfl ?_
    refine l_bi dX8_look_56 kB_16 ?_
    refine l_cI dX8_look_58 rfl rfl rfl (l_xs cl_8_91 ko_mJ9_floorDiv_7cf53 rfl rfl) rfl rfl nm_mJ9_floorDiv_7cf53 (xhE_th rfl) (fun v8 h7 => ?_)
    refine l_pure dX8_look_61 rfl rfl ?_
    refine l_cJ dX8_look_62 rfl rfl rfl (l_xs cl_8_97 ko_mX4_moved rfl rfl) rfl rfl nm_mX4_moved (xhE_th rfl) (fun v10 h9 => ?_)
    refine l_ob fun q11 => ?_
    refine l_cV dX8_look_65 rfl rfl rfl (l_xv cl_8_101 ko_mX4_putRow rfl rfl rfl q11) rfl rfl nm_mX4_putRow (xhE_th rfl) (fun h12 => ?_)
    refine l_incl (al1 := fun v14 => [(4, .int v14), (0, .ref x0), (3, .int x3)]) dX8_look_68 rfl kI_1 rfl (fun _ => rfl) (fun v14 => ?_)
    refine l_goto (t := 28) dX8_look_71 rfl ?_
    exact l_al rfl ⟨rfl, rfl, rfl, trivial⟩
set_option maxRecDepth 16000 in
theorem w_X8_findCoarse (S : xS) (x0 : Nat) (x1 : Int32) (h : xH) : xle ((xP false 8 h x0 8 13 (.int (1000000 : Int32))).bind fun h1 => xlet (-x1) fun v2 => (xden S mX8_findCoarse 9 [(0, .ref x0), (1, .int x1), (2, .int v2)] [] h1)) (xM S mX8_findCoarse [.ref x0, .int x1] h) := by
  show xle _ (xden S mX8_findCoarse 0 [(0, .ref x0), (1, .int x1)] [] h)
  refine l_loc dX8_findCoarse_0 rfl rfl ?_
  refine l_rd (st1 := [.int (1000000 : Int32), .ref x0]) dX8_findCoarse_1 rfl rfl ?_
  refine l_pf dX8_findCoarse_3 fl_8_63 (ini := false) nm_mX8_findCoarse (fun h1 => ?_)
  refine l_loc dX8_findCoarse_6 rfl rfl ?_
  refine l_pure dX8_findCoarse_7 rfl rfl ?_
  refine l_isl (al1 := fun v2 => [(2, .int v2), (0, .ref x0), (1, .int x1)]) dX8_findCoarse_8 rfl (fun _ => rfl) (fun v2 => ?_)
  exact l_al rfl ⟨rfl, rfl, rfl, trivial⟩
set_option maxRecDepth 16000 in
theorem w_X8_findCoarse_9 (S : xS) (x0 : Nat) (x1 : Int32) (x2 : Int32) (h : xH) : xle (if x1 < x2 then (some (.inl none, h, 0, 0)) else (xlet (-x1) fun v1 => (xden S mX8_findCoarse 17 [(0, .ref x0), (1, .int x1), (2, .int x2), (3, .int v1)] [] h))) (xden S mX8_findCoarse 9 [(0, .ref x0), (1, .int x1), (2, .int x2)] [] h) := by
  refine l_loc dX8_findCoarse_9 rfl rfl ?_
  refine l_loc dX8_findCoarse_10 rfl rfl ?_
  refine l_cgt (t := 46) dX8_findCoarse_11 rfl ?_ ?_
  · exact l_end dX8_findCoarse_46 rfl rfl
  · refine l_loc dX8_findCoarse_14 rfl rfl ?_
    refine l_pure dX8_findCoarse_15 rfl rfl ?_
    refine l_isl (al1 := fun v1 => [(3, .int v1), (0, .ref x0), (1, .int x1), (2, .int x2)]) dX8_findCoarse_16 rfl (fun _ => rfl) (fun v1 => ?_)
    exact l_al rfl ⟨rfl, rfl, rfl, rfl, trivial⟩
set_option maxRecDepth 16000 in
theorem w_X8_findCoarse_17 (S : xS) (x0 : Nat) (x1 : Int32) (x2 : Int32) (x3 : Int32) (h : xH) : xle (if x1 < x3 then (xlet (x2 + (1 : Int32)) fun v1 => (xden S mX8_findCoarse 9 [(0, .ref x0), (1, .int x1), (2, .int v1)] [] h)) else (if xOb h x0 8 = true then xqI (xM S mX8_coarseCost [.ref x0, .int x3, .int x2] h) xth fun v4 h3 => if xOb h3 x0 8 = true then xqV (xM S mX8_offer [.ref x0, .int x3, .int x2, .int v4] h3) xth fun h6 => xlet (x3 + (1 : Int32)) fun v8 => (xden S mX8_findCoarse 17 [(0, .ref x0), (1, .int x1), (2, .int x2), (3, .int v8)] [] h6) else none else none)) (xden S mX8_findCoarse 17 [(0, .ref x0), (1, .int x1), (2, .int x2), (3, .int x3)] [] h) := by
  refine l_loc dX8_findCoarse_17 rfl rfl ?_
  refine l_loc dX8_findCoarse_18 rfl rfl ?_
  refine l_cgt (t := 40) dX8_findCoarse_19 rfl ?_ ?_
  · refine l_incl (al1 := fun v1 => [(2, .int v1), (0, .ref x0), (1, .int x1), (3, .int x3)]) dX8_findCoarse_40 rfl kI_1 rfl (fun _ => rfl) (fun v1 => ?_)
    refine l_goto (t := 9) dX8_findCoarse_43 rfl ?_
    exact l_al rfl ⟨rfl, rfl, rfl, trivial⟩
  · refine l_loc dX8_findCoarse_22 rfl rfl ?_
    refine l_loc dX8_findCoarse_23 rfl rfl ?_
    refine l_loc dX8_findCoarse_24 rfl rfl ?_
    refine l_loc dX8_findCoarse_25 rfl rfl ?_
    refine l_loc dX8_findCoarse_26 rfl rfl ?_
    refine l_loc dX8_findCoarse_27 rfl rfl ?_
    refine l_ob fun q2 => ?_
    refine l_cI dX8_findCoarse_28 rfl rfl rfl (l_xv cl_8_116 ko_mX8_coarseCost rfl rfl rfl q2) rfl rfl nm_mX8_coarseCost (xhE_th rfl) (fun v4 h3 => ?_)
    refine l_ob fun q5 => ?_
    refine l_cV dX8_findCoarse_31 rfl rfl rfl (l_xv cl_8_119 ko_mX8_offer rfl rfl rfl q5) rfl rfl nm_mX8_offer (xhE_th rfl) (fun h6 => ?_)
    refine l_incl (al1 := fun v8 => [(3, .int v8), (0, .ref x0), (1, .int x1), (2, .int x2)]) dX8_findCoarse_34 rfl kI_1 rfl (fun _ => rfl) (fun v8 => ?_)
    refine l_goto (t := 17) dX8_findCoarse_37 rfl ?_
    exact l_al rfl ⟨rfl, rfl, rfl, rfl, trivial⟩
set_option maxRecDepth 16000 in
theorem w_X8_coarseCost (S : xS) (x0 : Nat) (x1 : Int32) (x2 : Int32) (h : xH) : xle (if xOb h x0 8 = true then xqI (xM S mX8_cellColumns [.ref x0] h) xth fun v3 h2 => if xOb h2 x0 8 = true then xqI (xM S mX8_cellRows [.ref x0] h2) xth fun v6 h5 => (xden S mX8_coarseCost 17 [(0, .ref x0), (1, .int x1), (2, .int x2), (3, .int v3), (4, .int v6), (5, .int (0 : Int32)), (6, .int (0 : Int32))] [] h5) else none else none) (xM S mX8_coarseCost [.ref x0, .int x1, .int x2] h) := by
  show xle _ (xden S mX8_coarseCost 0 [(0, .ref x0), (1, .int x1), (2, .int x2)] [] h)
  refine l_loc dX8_coarseCost_0 rfl rfl ?_
  refine l_ob fun q1 => ?_
  refine l_cI dX8_coarseCost_1 rfl rfl rfl (l_xv cl_8_105 ko_mX8_cellColumns rfl rfl rfl q1) rfl rfl nm_mX8_cellColumns (xhE_th rfl) (fun v3 h2 => ?_)
  refine l_loc (al1 := [(3, .int v3), (0, .ref x0), (1, .int x1), (2, .int x2)]) dX8_coarseCost_4 rfl rfl ?_
  refine l_loc dX8_coarseCost_5 rfl rfl ?_
  refine l_ob fun q4 => ?_
  refine l_cI dX8_coarseCost_6 rfl rfl rfl (l_xv cl_8_109 ko_mX8_cellRows rfl rfl rfl q4) rfl rfl nm_mX8_cellRows (xhE_th rfl) (fun v6 h5 => ?_)
  refine l_loc (al1 := [(4, .int v6), (3, .int v3), (0, .ref x0), (1, .int x1), (2, .int x2)]) dX8_coarseCost_9 rfl rfl ?_
  refine l_ic dX8_coarseCost_11 kI_0 ?_
  refine l_loc (al1 := [(5, .int (0 : Int32)), (4, .int v6), (3, .int v3), (0, .ref x0), (1, .int x1), (2, .int x2)]) dX8_coarseCost_12 rfl rfl ?_
  refine l_ic dX8_coarseCost_14 kI_0 ?_
  refine l_loc (al1 := [(6, .int (0 : Int32)), (5, .int (0 : Int32)), (4, .int v6), (3, .int v3), (0, .ref x0), (1, .int x1), (2, .int x2)]) dX8_coarseCost_15 rfl rfl ?_
  exact l_al rfl ⟨rfl, rfl, rfl, rfl, rfl, rfl, rfl, trivial⟩
set_option maxRecDepth 16000 in
theorem w_X8_coarseCost_17 (S : xS) (x0 : Nat) (x1 : Int32) (x2 : Int32) (x3 : Int32) (x4 : Int32) (x5 : Int32) (x6 : Int32) (h : xH) : xle (if x4 ≤ x6 then (some (.inl (some (.int x5)), h, 0, 0)) else (if (x6 + x2) < 0 then (xden S mX8_coarseCost 50 [(0, .ref x0), (1, .int x1), (2, .int x2), (3, .int x3), (4, .int x4), (5, .int x5), (6, .int x6), (7, .int (0 : Int32)), (8, .int (0 : Int32))] [] h) else (if x4 ≤ (x6 + x2) then (xden S mX8_coarseCost 50 [(0, .ref x0), (1, .int x1), (2, .int x2), (3, .int x3), (4, .int x4), (5, .int x5), (6, .int x6), (7, .int (0 : Int32)), (8, .int (0 : Int32))] [] h) else (xden S mX8_coarseCost 50 [(0, .ref x0), (1, .int x1), (2, .int x2), (3, .int x3), (4, .int x4), (5, .int x5), (6, .int x6), (7, .int (1 : Int32)), (8, .int (0 : Int32))] [] h)))) (xden S mX8_coarseCost 17 [(0, .ref x0), (1, .int x1), (2, .int x2), (3, .int x3), (4, .int x4), (5, .int x5), (6, .int x6)] [] h) := by
  refine l_loc dX8_coarseCost_17 rfl rfl ?_
  refine l_loc dX8_coarseCost_19 rfl rfl ?_
  refine l_cge (t := 137) dX8_coarseCost_21 rfl ?_ ?_
  · refine l_loc dX8_coarseCost_137 rfl rfl ?_
    exact l_iretn dX8_coarseCost_139 rfl (by rfl)
  · refine l_loc dX8_coarseCost_24 rfl rfl ?_
    refine l_loc dX8_coarseCost_26 rfl rfl ?_
    refine l_pure dX8_coarseCost_27 rfl rfl ?_
    refine l_ilt (t := 44) dX8_coarseCost_28 rfl ?_ ?_
    · refine l_ic dX8_coarseCost_44 kI_0 ?_
      refine l_loc (al1 := [(7, .int (0 : Int32)), (0, .ref x0), (1, .int x1), (2, .int x2), (3, .int x3), (4, .int x4), (5, .int x5), (6, .int x6)]) dX8_coarseCost_45 rfl rfl ?_
      refine l_ic dX8_coarseCost_47 kI_0 ?_
      refine l_loc (al1 := [(8, .int (0 : Int32)), (7, .int (0 : Int32)), (0, .ref x0), (1, .int x1), (2, .int x2), (3, .int x3), (4, .int x4), (5, .int x5), (6, .int x6)]) dX8_coarseCost_48 rfl rfl ?_
      exact l_al rfl ⟨rfl, rfl, rfl, rfl, rfl, rfl, rfl, rfl, rfl, trivial⟩
    · refine l_loc dX8_coarseCost_31 rfl rfl ?_
      refine l_loc dX8_coarseCost_33 rfl rfl ?_
      refine l_pure dX8_coarseCost_34 rfl rfl ?_
      refine l_loc dX8_coarseCost_35 rfl rfl ?_
      refine l_cge (t := 44) dX8_coarseCost_37 rfl ?_ ?_
      · refine l_ic dX8_coarseCost_44 kI_0 ?_
        refine l_loc (al1 := [(7, .int (0 : Int32)), (0, .ref x0), (1, .int x1), (2, .int x2), (3, .int x3), (4, .int x4), (5, .int x5), (6, .int x6)]) dX8_coarseCost_45 rfl rfl ?_
        refine l_ic dX8_coarseCost_47 kI_0 ?_
        refine l_loc (al1 := [(8, .int (0 : Int32)), (7, .int (0 : Int32)), (0, .ref x0), (1, .int x1), (2, .int x2), (3, .int x3), (4, .int x4), (5, .int x5), (6, .int x6)]) dX8_coarseCost_48 rfl rfl ?_
        exact l_al rfl ⟨rfl, rfl, rfl, rfl, rfl, rfl, rfl, rfl, rfl, trivial⟩
      · refine l_ic dX8_coarseCost_40 kI_1 ?_
        refine l_goto (t := 45) dX8_coarseCost_41 rfl ?_
        refine l_loc (al1 := [(7, .int (1 : Int32)), (0, .ref x0), (1, .int x1), (2, .int x2), (3, .int x3), (4, .int x4), (5, .int x5), (6, .int x6)]) dX8_coarseCost_45 rfl rfl ?_
        refine l_ic dX8_coarseCost_47 kI_0 ?_
        refine l_loc (al1 := [(8, .int (0 : Int32)), (7, .int (1 : Int32)), (0, .ref x0), (1, .int x1), (2, .int x2), (3, .int x3), (4, .int x4), (5, .int x5), (6, .int x6)]) dX8_coarseCost_48 rfl rfl ?_
        exact l_al rfl ⟨rfl, rfl, rfl, rfl, rfl, rfl, rfl, rfl, rfl, trivial⟩
set_option maxRecDepth 16000 in
theorem w_X8_coarseCost_50 (S : xS) (x0 : Nat) (x1 : Int32) (x2 : Int32) (x3 : Int32) (x4 : Int32) (x5 : Int32) (x6 : Int32) (x7 : Int32) (x8 : Int32) (h : xH) : xle (if x3 ≤ x8 then (xlet (x6 + (1 : Int32)) fun v1 => (xden S mX8_coarseCost 17 [(0, .ref x0), (1, .int x1), (2, .int x2), (3, .int x3), (4, .int x4), (5, .int x5), (6, .int v1)] [] h)) else (if x7 = 0 then ((xGr h x0 8 4).bind fun v2 => xqI (xM S mX8_countAt [.ref v2, .int ((x6 * x3) + x8)] h) xth fun v4 h3 => xqI (xM S mJ9_abs_0f7a4 [.int (v4 - (0 : Int32))] h3) xth fun v6 h5 => xlet (x5 + v6) fun v7 => xlet (x8 + (1 : Int32)) fun v8 => (xden S mX8_coarseCost 50 [(0, .ref x0), (1, .int x1), (2, .int x2), (3, .int x3), (4, .int x4), (5, .int v7), (6, .int x6), (7, .int x7), (8, .int v8)] [] h5)) else (if (x8 + x1) < 0 then ((xGr h x0 8 4).bind fun v9 => xqI (xM S mX8_countAt [.ref v9, .int ((x6 * x3) + x8)] h) xth fun v11 h10 => xqI (xM S mJ9_abs_0f7a4 [.int (v11 - (0 : Int32))] h10) xth fun v13 h12 => xlet (x5 + v13) fun v14 => xlet (x8 + (1 : Int32)) fun v15 => (xden S mX8_coarseCost 50 [(0, .ref x0), (1, .int x1), (2, .int x2), (3, .int x3), (4, .int x4), (5, .int v14), (6, .int x6), (7, .int x7), (8, .int v15)] [] h12)) else (if x3 ≤ (x8 + x1) then ((xGr h x0 8 4).bind fun v16 => xqI (xM S mX8_countAt [.ref v16, .int ((x6 * x3) + x8)] h) xth fun v18 h17 => xqI (xM S mJ9_abs_0f7a4 [.int (v18 - (0 : Int32))] h17) xth fun v20 h19 => xlet (x5 + v20) fun v21 => xlet (x8 + (1 : Int32)) fun v22 => (xden S mX8_coarseCost 50 [(0, .ref x0), (1, .int x1), (2, .int x2), (3, .int x3), (4, .int x4), (5, .int v21), (6, .int x6), (7, .int x7), (8, .int v22)] [] h19)) else ((xGr h x0 8 5).bind fun v23 => xqI (xM S mX8_countAt [.ref v23, .int ((((x6 + x2) * x3) + x8) + x1)] h) xth fun v25 h24 => (xGr h24 x0 8 4).bind fun v26 => xqI (xM S mX8_countAt [.ref v26, .int ((x6 * x3) + x8)] h24) xth fun v28 h27 => xqI (xM S mJ9_abs_0f7a4 [.int (v28 - v25)] h27) xth fun v30 h29 => xlet (x5 + v30) fun v31 => xlet (x8 + (1 : Int32)) fun v32 => (xden S mX8_coarseCost 50 [(0, .ref x0), (1, .int x1), (2, .int x2), (3, .int x3), (4, .int x4), (5, .int v31), (6, .int x6), (7, .int x7), (8, .int v32)] [] h29)))))) (xden S mX8_coarseCost 50 [(0, .ref x0), (1, .int x1), (2, .int x2), (3, .int x3), (4, .int x4), (5, .int x5), (6, .int x6), (7, .int x7), (8, .int x8)] [] h) := by
  refine l_loc dX8_coarseCost_50 rfl rfl ?_
  refine l_loc dX8_coarseCost_52 rfl rfl ?_
  refine l_cge (t := 131) dX8_coarseCost_53 rfl ?_ ?_
  · refine l_incl (al1 := fun v1 => [(6, .int v1), (0, .ref x0), (1, .int x1), (2, .int x2), (3, .int x3), (4, .int x4), (5, .int x5), (7, .int x7), (8, .int x8)]) dX8_coarseCost_131 rfl kI_1 rfl (fun _ => rfl) (fun v1 => ?_)
    refine l_goto (t := 17) dX8_coarseCost_134 rfl ?_
    exact l_al rfl ⟨rfl, rfl, rfl, rfl, rfl, rfl, rfl, trivial⟩
  · refine l_loc dX8_coarseCost_56 rfl rfl ?_
    refine l_ieq (t := 97) dX8_coarseCost_58 rfl ?_ ?_
    · refine l_ic dX8_coarseCost_97 kI_0 ?_
      refine l_loc (al1 := [(9, .int (0 : Int32)), (0, .ref x0), (1, .int x1), (2, .int x2), (3, .int x3), (4, .int x4), (5, .int x5), (6, .int x6), (7, .int x7), (8, .int x8)]) dX8_coarseCost_98 rfl rfl ?_
      refine l_loc dX8_coarseCost_100 rfl rfl ?_
      refine l_loc dX8_coarseCost_102 rfl rfl ?_
      refine l_gr dX8_coarseCost_103 fl_8_9 (fun v2 => ?_)
      refine l_loc dX8_coarseCost_106 rfl rfl ?_
      refine l_loc dX8_coarseCost_108 rfl rfl ?_
      refine l_pure dX8_coarseCost_109 rfl rfl ?_
      refine l_loc dX8_coarseCost_110 rfl rfl ?_
      refine l_pure dX8_coarseCost_112 rfl rfl ?_
      refine l_cI dX8_coarseCost_113 rfl rfl rfl (l_xs cl_8_137 ko_mX8_countAt rfl rfl) rfl rfl nm_mX8_countAt (xhE_th rfl) (fun v4 h3 => ?_)
      refine l_loc dX8_coarseCost_116 rfl rfl ?_
      refine l_pure dX8_coarseCost_118 rfl rfl ?_
      refine l_cI dX8_coarseCost_119 rfl rfl rfl (l_xs cl_8_133 ko_mJ9_abs_0f7a4 rfl rfl) rfl rfl nm_mJ9_abs_0f7a4 (xhE_th rfl) (fun v6 h5 => ?_)
      refine l_pure dX8_coarseCost_122 rfl rfl ?_
      refine l_isl (al1 := fun v7 => [(5, .int v7), (9, .int (0 : Int32)), (0, .ref x0), (1, .int x1), (2, .int x2), (3, .int x3), (4, .int x4), (6, .int x6), (7, .int x7), (8, .int x8)]) dX8_coarseCost_123 rfl (fun _ => rfl) (fun v7 => ?_)
      refine l_incl (al1 := fun v8 => [(8, .int v8), (5, .int v7), (9, .int (0 : Int32)), (0, .ref x0), (1, .int x1), (2, .int x2), (3, .int x3), (4, .int x4), (6, .int x6), (7, .int x7)]) dX8_coarseCost_125 rfl kI_1 rfl (fun _ => rfl) (fun v8 => ?_)
      refine l_goto (t := 50) dX8_coarseCost_128 rfl ?_
      exact l_al rfl ⟨rfl, rfl, rfl, rfl, rfl, rfl, rfl, rfl, rfl, trivial⟩
    · refine l_loc dX8_coarseCost_61 rfl rfl ?_
      refine l_loc dX8_coarseCost_63 rfl rfl ?_
      refine l_pure dX8_coarseCost_64 rfl rfl ?_
      refine l_ilt (t := 97) dX8_coarseCost_65 rfl ?_ ?_
      · refine l_ic dX8_coarseCost_97 kI_0 ?_
        refine l_loc (al1 := [(9, .int (0 : Int32)), (0, .ref x0), (1, .int x1), (2, .int x2), (3, .int x3), (4, .int x4), (5, .int x5), (6, .int x6), (7, .int x7), (8, .int x8)]) dX8_coarseCost_98 rfl rfl ?_
        refine l_loc dX8_coarseCost_100 rfl rfl ?_
        refine l_loc dX8_coarseCost_102 rfl rfl ?_
        refine l_gr dX8_coarseCost_103 fl_8_9 (fun v9 => ?_)
        refine l_loc dX8_coarseCost_106 rfl rfl ?_
        refine l_loc dX8_coarseCost_108 rfl rfl ?_
        refine l_pure dX8_coarseCost_109 rfl rfl ?_
        refine l_loc dX8_coarseCost_110 rfl rfl ?_
        refine l_pure dX8_coarseCost_112 rfl rfl ?_
        refine l_cI dX8_coarseCost_113 rfl rfl rfl (l_xs cl_8_137 ko_mX8_countAt rfl rfl) rfl rfl nm_mX8_countAt (xhE_th rfl) (fun v11 h10 => ?_)
        refine l_loc dX8_coarseCost_116 rfl rfl ?_
        refine l_pure dX8_coarseCost_118 rfl rfl ?_
        refine l_cI dX8_coarseCost_119 rfl rfl rfl (l_xs cl_8_133 ko_mJ9_abs_0f7a4 rfl rfl) rfl rfl nm_mJ9_abs_0f7a4 (xhE_th rfl) (fun v13 h12 => ?_)
        refine l_pure dX8_coarseCost_122 rfl rfl ?_
        refine l_isl (al1 := fun v14 => [(5, .int v14), (9, .int (0 : Int32)), (0, .ref x0), (1, .int x1), (2, .int x2), (3, .int x3), (4, .int x4), (6, .int x6), (7, .int x7), (8, .int x8)]) dX8_coarseCost_123 rfl (fun _ => rfl) (fun v14 => ?_)
        refine l_incl (al1 := fun v15 => [(8, .int v15), (5, .int v14), (9, .int (0 : Int32)), (0, .ref x0), (1, .int x1), (2, .int x2), (3, .int x3), (4, .int x4), (6, .int x6), (7, .int x7)]) dX8_coarseCost_125 rfl kI_1 rfl (fun _ => rfl) (fun v15 => ?_)
        refine l_goto (t := 50) dX8_coarseCost_128 rfl ?_
        exact l_al rfl ⟨rfl, rfl, rfl, rfl, rfl, rfl, rfl, rfl, rfl, trivial⟩
      · refine l_loc dX8_coarseCost_68 rfl rfl ?_
        refine l_loc dX8_coarseCost_70 rfl rfl ?_
        refine l_pure dX8_coarseCost_71 rfl rfl ?_
        refine l_loc dX8_coarseCost_72 rfl rfl ?_
        refine l_cge (t := 97) dX8_coarseCost_73 rfl ?_ ?_
        · refine l_ic dX8_coarseCost_97 kI_0 ?_
          refine l_loc (al1 := [(9, .int (0 : Int32)), (0, .ref x0), (1, .int x1), (2, .int x2), (3, .int x3), (4, .int x4), (5, .int x5), (6, .int x6), (7, .int x7), (8, .int x8)]) dX8_coarseCost_98 rfl rfl ?_
          refine l_loc dX8_coarseCost_100 rfl rfl ?_
          refine l_loc dX8_coarseCost_102 rfl rfl ?_
          refine l_gr dX8_coarseCost_103 fl_8_9 (fun v16 => ?_)
          refine l_loc dX8_coarseCost_106 rfl rfl ?_
          refine l_loc dX8_coarseCost_108 rfl rfl ?_
          refine l_pure dX8_coarseCost_109 rfl rfl ?_
          refine l_loc dX8_coarseCost_110 rfl rfl ?_
          refine l_pure dX8_coarseCost_112 rfl rfl ?_
          refine l_cI dX8_coarseCost_113 rfl rfl rfl (l_xs cl_8_137 ko_mX8_countAt rfl rfl) rfl rfl nm_mX8_countAt (xhE_th rfl) (fun v18 h17 => ?_)
          refine l_loc dX8_coarseCost_116 rfl rfl ?_
          refine l_pure dX8_coarseCost_118 rfl rfl ?_
          refine l_cI dX8_coarseCost_119 rfl rfl rfl (l_xs cl_8_133 ko_mJ9_abs_0f7a4 rfl rfl) rfl rfl nm_mJ9_abs_0f7a4 (xhE_th rfl) (fun v20 h19 => ?_)
          refine l_pure dX8_coarseCost_122 rfl rfl ?_
          refine l_isl (al1 := fun v21 => [(5, .int v21), (9, .int (0 : Int32)), (0, .ref x0), (1, .int x1), (2, .int x2), (3, .int x3), (4, .int x4), (6, .int x6), (7, .int x7), (8, .int x8)]) dX8_coarseCost_123 rfl (fun _ => rfl) (fun v21 => ?_)
          refine l_incl (al1 := fun v22 => [(8, .int v22), (5, .int v21), (9, .int (0 : Int32)), (0, .ref x0), (1, .int x1), (2, .int x2), (3, .int x3), (4, .int x4), (6, .int x6), (7, .int x7)]) dX8_coarseCost_125 rfl kI_1 rfl (fun _ => rfl) (fun v22 => ?_)
          refine l_goto (t := 50) dX8_coarseCost_128 rfl ?_
          exact l_al rfl ⟨rfl, rfl, rfl, rfl, rfl, rfl, rfl, rfl, rfl, trivial⟩
        · refine l_loc dX8_coarseCost_76 rfl rfl ?_
          refine l_gr dX8_coarseCost_77 fl_8_15 (fun v23 => ?_)
          refine l_loc dX8_coarseCost_80 rfl rfl ?_
          refine l_loc dX8_coarseCost_82 rfl rfl ?_
          refine l_pure dX8_coarseCost_83 rfl rfl ?_
          refine l_loc dX8_coarseCost_84 rfl rfl ?_
          refine l_pure dX8_coarseCost_85 rfl rfl ?_
          refine l_loc dX8_coarseCost_86 rfl rfl ?_
          refine l_pure dX8_coarseCost_88 rfl rfl ?_
          refine l_loc dX8_coarseCost_89 rfl rfl ?_
          refine l_pure dX8_coarseCost_90 rfl rfl ?_
          refine l_cI dX8_coarseCost_91 rfl rfl rfl (l_xs cl_8_137 ko_mX8_countAt rfl rfl) rfl rfl nm_mX8_countAt (xhE_th rfl) (fun v25 h24 => ?_)
          refine l_goto (t := 98) dX8_coarseCost_94 rfl ?_
          refine l_loc (al1 := [(9, .int v25), (0, .ref x0), (1, .int x1), (2, .int x2), (3, .int x3), (4, .int x4), (5, .int x5), (6, .int x6), (7, .int x7), (8, .int x8)]) dX8_coarseCost_98 rfl rfl ?_
          refine l_loc dX8_coarseCost_100 rfl rfl ?_
          refine l_loc dX8_coarseCost_102 rfl rfl ?_
          refine l_gr dX8_coarseCost_103 fl_8_9 (fun v26 => ?_)
          refine l_loc dX8_coarseCost_106 rfl rfl ?_
          refine l_loc dX8_coarseCost_108 rfl rfl ?_
          refine l_pure dX8_coarseCost_109 rfl rfl ?_
          refine l_loc dX8_coarseCost_110 rfl rfl ?_
          refine l_pure dX8_coarseCost_112 rfl rfl ?_
          refine l_cI dX8_coarseCost_113 rfl rfl rfl (l_xs cl_8_137 ko_mX8_countAt rfl rfl) rfl rfl nm_mX8_countAt (xhE_th rfl) (fun v28 h27 => ?_)
          refine l_loc dX8_coarseCost_116 rfl rfl ?_
          refine l_pure dX8_coarseCost_118 rfl rfl ?_
          refine l_cI dX8_coarseCost_119 rfl rfl rfl (l_xs cl_8_133 ko_mJ9_abs_0f7a4 rfl rfl) rfl rfl nm_mJ9_abs_0f7a4 (xhE_th rfl) (fun v30 h29 => ?_)
          refine l_pure dX8_coarseCost_122 rfl rfl ?_
          refine l_isl (al1 := fun v31 => [(5, .int v31), (9, .int v25), (0, .ref x0), (1, .int x1), (2, .int x2), (3, .int x3), (4, .int x4), (6, .int x6), (7, .int x7), (8, .int x8)]) dX8_coarseCost_123 rfl (fun _ => rfl) (fun v31 => ?_)
          refine l_incl (al1 := fun v32 => [(8, .int v32), (5, .int v31), (9, .int v25), (0, .ref x0), (1, .int x1), (2, .int x2), (3, .int x3), (4, .int x4), (6, .int x6), (7, .int x7)]) dX8_coarseCost_125 rfl kI_1 rfl (fun _ => rfl) (fun v32 => ?_)
          refine l_goto (t := 50) dX8_coarseCost_128 rfl ?_
          exact l_al rfl ⟨rfl, rfl, rfl, rfl, rfl, rfl, rfl, rfl, rfl, trivial⟩
set_option maxRecDepth 16000 in
theorem w_X8_countAt (S : xS) (x0 : Nat) (x1 : Int32) (h : xH) : xle (if x1 < 0 then (some (.inl (some (.int (0 : Int32))), h, 0, 0)) else ((xRz h x0).bind fun v1 => if v1 ≤ x1 then (some (.inl (some (.int (0 : Int32))), h, 0, 0)) else ((xRi h 0 x0 x1).bind fun v2 => some (.inl (some (.int v2)), h, 0, 0)))) (xM S mX8_countAt [.ref x0, .int x1] h) := by
  show xle _ (xden S mX8_countAt 0 [(0, .ref x0), (1, .int x1)] [] h)
  refine l_loc dX8_countAt_0 rfl rfl ?_
  refine l_ilt (t := 16) dX8_countAt_1 rfl ?_ ?_
  · refine l_ic dX8_countAt_16 kI_0 ?_
    exact l_iretn dX8_countAt_17 rfl (by rfl)
  · refine l_loc dX8_countAt_4 rfl rfl ?_
    refine l_loc dX8_countAt_5 rfl rfl ?_
    refine l_ln dX8_countAt_6 (fun v1 => ?_)
    refine l_cge (t := 16) dX8_countAt_7 rfl ?_ ?_
    · refine l_ic dX8_countAt_16 kI_0 ?_
      exact l_iretn dX8_countAt_17 rfl (by rfl)
    · refine l_loc dX8_countAt_10 rfl rfl ?_
      refine l_loc dX8_countAt_11 rfl rfl ?_
      refine l_ri dX8_countAt_12 (fun v2 => ?_)
      refine l_goto (t := 17) dX8_countAt_13 rfl ?_
      exact l_iretn dX8_countAt_17 rfl (by rfl)
set_option maxRecDepth 16000 in
theorem w_X8_offer (S : xS) (x0 : Nat) (x1 : Int32) (x2 : Int32) (x3 : Int32) (h : xH) : xle ((xGi h x0 8 13).bind fun v1 => if x3 < v1 then ((xP false 8 h x0 8 11 (.int x1)).bind fun h2 => (xP false 8 h2 x0 8 12 (.int x2)).bind fun h3 => (xP false 8 h3 x0 8 13 (.int x3)).bind fun h4 => some (.inl none, h4, 0, 0)) else ((xGi h x0 8 13).bind fun v5 => if ¬ x3 = v5 then (some (.inl none, h, 0, 0)) else (xqI (xM S mJ9_abs_0f7a4 [.int x1] h) xth fun v7 h6 => xqI (xM S mJ9_abs_0f7a4 [.int x2] h6) xth fun v9 h8 => (xGi h8 x0 8 11).bind fun v10 => xqI (xM S mJ9_abs_0f7a4 [.int v10] h8) xth fun v12 h11 => (xGi h11 x0 8 12).bind fun v13 => xqI (xM S mJ9_abs_0f7a4 [.int v13] h11) xth fun v15 h14 => if (v12 + v15) ≤ (v7 + v9) then (some (.inl none, h14, 0, 0)) else ((xP false 8 h14 x0 8 11 (.int x1)).bind fun h16 => (xP false 8 h16 x0 8 12 (.int x2)).bind fun h17 => (xP false 8 h17 x0 8 13 (.int x3)).bind fun h18 => some (.inl none, h18, 0, 0))))) (xM S mX8_offer [.ref x0, .int x1, .int x2, .int x3] h) := by
  show xle _ (xden S mX8_offer 0 [(0, .ref x0), (1, .int x1), (2, .int x2), (3, .int x3)] [] h)
  refine l_loc dX8_offer_0 rfl rfl ?_
  refine l_loc dX8_offer_1 rfl rfl ?_
  refine l_gi dX8_offer_2 fl_8_63 (fun v1 => ?_)
  refine l_clt (t := 43) dX8_offer_5 rfl ?_ ?_
  · refine l_loc dX8_offer_43 rfl rfl ?_
    refine l_loc dX8_offer_44 rfl rfl ?_
    refine l_pf dX8_offer_45 fl_8_53 (ini := false) nm_mX8_offer (fun h2 => ?_)
    refine l_loc dX8_offer_48 rfl rfl ?_
    refine l_loc dX8_offer_49 rfl rfl ?_
    refine l_pf dX8_offer_50 fl_8_56 (ini := false) nm_mX8_offer (fun h3 => ?_)
    refine l_loc dX8_offer_53 rfl rfl ?_
    refine l_loc dX8_offer_54 rfl rfl ?_
    refine l_pf dX8_offer_55 fl_8_63 (ini := false) nm_mX8_offer (fun h4 => ?_)
    exact l_end dX8_offer_58 rfl rfl
  · refine l_loc dX8_offer_8 rfl rfl ?_
    refine l_loc dX8_offer_9 rfl rfl ?_
    refine l_gi dX8_offer_10 fl_8_63 (fun v5 => ?_)
    refine l_cne (t := 58) dX8_offer_13 rfl ?_ ?_
    · exact l_end dX8_offer_58 rfl rfl
    · refine l_loc dX8_offer_16 rfl rfl ?_
      refine l_cI dX8_offer_17 rfl rfl rfl (l_xs cl_8_133 ko_mJ9_abs_0f7a4 rfl rfl) rfl rfl nm_mJ9_abs_0f7a4 (xhE_th rfl) (fun v7 h6 => ?_)
      refine l_loc dX8_offer_20 rfl rfl ?_
      refine l_cI dX8_offer_21 rfl rfl rfl (l_xs cl_8_133 ko_mJ9_abs_0f7a4 rfl rfl) rfl rfl nm_mJ9_abs_0f7a4 (xhE_th rfl) (fun v9 h8 => ?_)
      refine l_pure dX8_offer_24 rfl rfl ?_
      refine l_loc dX8_offer_25 rfl rfl ?_
      refine l_gi dX8_offer_26 fl_8_53 (fun v10 => ?_)
      refine l_cI dX8_offer_29 rfl rfl rfl (l_xs cl_8_133 ko_mJ9_abs_0f7a4 rfl rfl) rfl rfl nm_mJ9_abs_0f7a4 (xhE_th rfl) (fun v12 h11 => ?_)
      refine l_loc dX8_offer_32 rfl rfl ?_
      refine l_gi dX8_offer_33 fl_8_56 (fun v13 => ?_)
      refine l_cI dX8_offer_36 rfl rfl rfl (l_xs cl_8_133 ko_mJ9_abs_0f7a4 rfl rfl) rfl rfl nm_mJ9_abs_0f7a4 (xhE_th rfl) (fun v15 h14 => ?_)
      refine l_pure dX8_offer_39 rfl rfl ?_
      refine l_cge (t := 58) dX8_offer_40 rfl ?_ ?_
      · exact l_end dX8_offer_58 rfl rfl
      · refine l_loc dX8_offer_43 rfl rfl ?_
        refine l_loc dX8_offer_44 rfl rfl ?_
        refine l_pf dX8_offer_45 fl_8_53 (ini := false) nm_mX8_offer (fun h16 => ?_)
        refine l_loc dX8_offer_48 rfl rfl ?_
        refine l_loc dX8_offer_49 rfl rfl ?_
        refine l_pf dX8_offer_50 fl_8_56 (ini := false) nm_mX8_offer (fun h17 => ?_)
        refine l_loc dX8_offer_53 rfl rfl ?_
        refine l_loc dX8_offer_54 rfl rfl ?_
        refine l_pf dX8_offer_55 fl_8_63 (ini := false) nm_mX8_offer (fun h18 => ?_)
        exact l_end dX8_offer_58 rfl rfl
set_option maxRecDepth 16000 in
theorem w_X8_findFine (S : xS) (x0 : Nat) (x1 : Nat) (x2 : Int32) (x3 : Int32) (x4 : Int32) (h : xH) : xle (xqI (xM S mJ9_max_7cf53 [.int (-x4), .int ((x2 - (4 : Int32)) + (1 : Int32))] h) xth fun v2 h1 => xqI (xM S mJ9_min_7cf53 [.int x4, .int ((x2 + (4 : Int32)) - (1 : Int32))] h1) xth fun v4 h3 => xqI (xM S mJ9_max_7cf53 [.int (-x4), .int ((x3 - (4 : Int32)) + (1 : Int32))] h3) xth fun v6 h5 => xqI (xM S mJ9_min_7cf53 [.int x4, .int ((x3 + (4 : Int32)) - (1 : Int32))] h5) xth fun v8 h7 => (xP false 8 h7 x0 8 13 (.int (1000000 : Int32))).bind fun h9 => (xden S mX8_findFine 60 [(0, .ref x0), (1, .ref x1), (5, .int v2), (6, .int v4), (8, .int v8), (9, .int v6)] [] h9)) (xM S mX8_findFine [.ref x0, .ref x1, .int x2, .int x3, .int x4] h) := by
  show xle _ (xden S mX8_findFine 0 [(0, .ref x0), (1, .ref x1), (2, .int x2), (3, .int x3), (4, .int x4)] [] h)
  refine l_loc dX8_findFine_0 rfl rfl ?_
  refine l_pure dX8_findFine_2 rfl rfl ?_
  refine l_loc dX8_findFine_3 rfl rfl ?_
  refine l_ic dX8_findFine_4 kI_4 ?_
  refine l_pure dX8_findFine_5 rfl rfl ?_
  refine l_ic dX8_findFine_6 kI_1 ?_
  refine l_pure dX8_findFine_7 rfl rfl ?_
  refine l_cI dX8_findFine_8 rfl rfl rfl (l_xs cl_8_123 ko_mJ9_max_7cf53 rfl rfl) rfl rfl nm_mJ9_max_7cf53 (xhE_th rfl) (fun v2 h1 => ?_)
  refine l_loc (al1 := [(5, .int v2), (0, .ref x0), (1, .ref x1), (2, .int x2), (3, .int x3), (4, .int x4)]) dX8_findFine_11 rfl rfl ?_
  refine l_loc dX8_findFine_13 rfl rfl ?_
  refine l_loc dX8_findFine_15 rfl rfl ?_
  refine l_ic dX8_findFine_16 kI_4 ?_
  refine l_pure dX8_findFine_17 rfl rfl ?_
  refine l_ic dX8_findFine_18 kI_1 ?_
  refine l_pure dX8_findFine_19 rfl rfl ?_
  refine l_cI dX8_findFine_20 rfl rfl rfl (l_xs cl_8_126 ko_mJ9_min_7cf53 rfl rfl) rfl rfl nm_mJ9_min_7cf53 (xhE_th rfl) (fun v4 h3 => ?_)
  refine l_loc (al1 := [(6, .int v4), (5, .int v2), (0, .ref x0), (1, .ref x1), (2, .int x2), (3, .int x3), (4, .int x4)]) dX8_findFine_23 rfl rfl ?_
  refine l_loc dX8_findFine_25 rfl rfl ?_
  refine l_pure dX8_findFine_27 rfl rfl ?_
  refine l_loc dX8_findFine_28 rfl rfl ?_
  refine l_ic dX8_findFine_29 kI_4 ?_
  refine l_pure dX8_findFine_30 rfl rfl ?_
  refine l_ic dX8_findFine_31 kI_1 ?_
  refine l_pure dX8_findFine_32 rfl rfl ?_
  refine l_cI dX8_findFine_33 rfl rfl rfl (l_xs cl_8_123 ko_mJ9_max_7cf53 rfl rfl) rfl rfl nm_mJ9_max_7cf53 (xhE_th rfl) (fun v6 h5 => ?_)
  refine l_loc (al1 := [(7, .int v6), (6, .int v4), (5, .int v2), (0, .ref x0), (1, .ref x1), (2, .int x2), (3, .int x3), (4, .int x4)]) dX8_findFine_36 rfl rfl ?_
  refine l_loc dX8_findFine_38 rfl rfl ?_
  refine l_loc dX8_findFine_40 rfl rfl ?_
  refine l_ic dX8_findFine_41 kI_4 ?_
  refine l_pure dX8_findFine_42 rfl rfl ?_
  refine l_ic dX8_findFine_43 kI_1 ?_
  refine l_pure dX8_findFine_44 rfl rfl ?_
  refine l_cI dX8_findFine_45 rfl rfl rfl (l_xs cl_8_126 ko_mJ9_min_7cf53 rfl rfl) rfl rfl nm_mJ9_min_7cf53 (xhE_th rfl) (fun v8 h7 => ?_)
  refine l_loc (al1 := [(8, .int v8), (7, .int v6), (6, .int v4), (5, .int v2), (0, .ref x0), (1, .ref x1), (2, .int x2), (3, .int x3), (4, .int x4)]) dX8_findFine_48 rfl rfl ?_
  refine l_loc dX8_findFine_50 rfl rfl ?_
  refine l_rd (st1 := [.int (1000000 : Int32), .ref x0]) dX8_findFine_51 rfl rfl ?_
  refine l_pf dX8_findFine_53 fl_8_63 (ini := false) nm_mX8_findFine (fun h9 => ?_)
  refine l_loc dX8_findFine_56 rfl rfl ?_
  refine l_loc (al1 := [(9, .int v6), (8, .int v8), (7, .int v6), (6, .int v4), (5, .int v2), (0, .ref x0), (1, .ref x1), (2, .int x2), (3, .int x3), (4, .int x4)]) dX8_findFine_58 rfl rfl ?_
  exact l_al rfl ⟨rfl, rfl, rfl, rfl, rfl, rfl, trivial⟩
set_option maxRecDepth 16000 in
theorem w_X8_findFine_60 (S : xS) (x0 : Nat) (x1 : Nat) (x5 : Int32) (x6 : Int32) (x8 : Int32) (x9 : Int32) (h : xH) : xle (if x8 < x9 then (some (.inl none, h, 0, 0)) else (xden S mX8_findFine 71 [(0, .ref x0), (1, .ref x1), (5, .int x5), (6, .int x6), (8, .int x8), (9, .int x9), (10, .int x5)] [] h)) (xden S mX8_findFine 60 [(0, .ref x0), (1, .ref x1), (5, .int x5), (6, .int x6), (8, .int x8), (9, .int x9)] [] h) := by
  refine l_loc dX8_findFine_60 rfl rfl ?_
  refine l_loc dX8_findFine_62 rfl rfl ?_
  refine l_cgt (t := 107) dX8_findFine_64 rfl ?_ ?_
  · exact l_end dX8_findFine_107 rfl rfl
  · refine l_loc dX8_findFine_67 rfl rfl ?_
    refine l_loc (al1 := [(10, .int x5), (0, .ref x0), (1, .ref x1), (5, .int x5), (6, .int x6), (8, .int x8), (9, .int x9)]) dX8_findFine_69 rfl rfl ?_
    exact l_al rfl ⟨rfl, rfl, rfl, rfl, rfl, rfl, rfl, trivial⟩
set_option maxRecDepth 16000 in
theorem w_X8_findFine_71 (S : xS) (x0 : Nat) (x1 : Nat) (x5 : Int32) (x6 : Int32) (x8 : Int32) (x9 : Int32) (x10 : Int32) (h : xH) : xle (if x6 < x10 then (xlet (x9 + (1 : Int32)) fun v1 => (xden S mX8_findFine 60 [(0, .ref x0), (1, .ref x1), (5, .int x5), (6, .int x6), (8, .int x8), (9, .int v1)] [] h)) else (if xOb h x0 8 = true then xqI (xM S mX8_costOf [.ref x0, .ref x1, .int x10, .int x9] h) xth fun v4 h3 => if xOb h3 x0 8 = true then xqV (xM S mX8_offer [.ref x0, .int x10, .int x9, .int v4] h3) xth fun h6 => xlet (x10 + (1 : Int32)) fun v8 => (xden S mX8_findFine 71 [(0, .ref x0), (1, .ref x1), (5, .int x5), (6, .int x6), (8, .int x8), (9, .int x9), (10, .int v8)] [] h6) else none else none)) (xden S mX8_findFine 71 [(0, .ref x0), (1, .ref x1), (5, .int x5), (6, .int x6), (8, .int x8), (9, .int x9), (10, .int x10)] [] h) := by
  refine l_loc dX8_findFine_71 rfl rfl ?_
  refine l_loc dX8_findFine_73 rfl rfl ?_
  refine l_cgt (t := 101) dX8_findFine_75 rfl ?_ ?_
  · refine l_incl (al1 := fun v1 => [(9, .int v1), (0, .ref x0), (1, .ref x1), (5, .int x5), (6, .int x6), (8, .int x8), (10, .int x10)]) dX8_findFine_101 rfl kI_1 rfl (fun _ => rfl) (fun v1 => ?_)
    refine l_goto (t := 60) dX8_findFine_104 rfl ?_
    exact l_al rfl ⟨rfl, rfl, rfl, rfl, rfl, rfl, trivial⟩
  · refine l_loc dX8_findFine_78 rfl rfl ?_
    refine l_loc dX8_findFine_79 rfl rfl ?_
    refine l_loc dX8_findFine_81 rfl rfl ?_
    refine l_loc dX8_findFine_83 rfl rfl ?_
    refine l_loc dX8_findFine_84 rfl rfl ?_
    refine l_loc dX8_findFine_85 rfl rfl ?_
    refine l_loc dX8_findFine_87 rfl rfl ?_
    refine l_ob fun q2 => ?_
    refine l_cI dX8_findFine_89 rfl rfl rfl (l_xv cl_8_129 ko_mX8_costOf rfl rfl rfl q2) rfl rfl nm_mX8_costOf (xhE_th rfl) (fun v4 h3 => ?_)
    refine l_ob fun q5 => ?_
    refine l_cV dX8_findFine_92 rfl rfl rfl (l_xv cl_8_119 ko_mX8_offer rfl rfl rfl q5) rfl rfl nm_mX8_offer (xhE_th rfl) (fun h6 => ?_)
    refine l_incl (al1 := fun v8 => [(10, .int v8), (0, .ref x0), (1, .ref x1), (5, .int x5), (6, .int x6), (8, .int x8), (9, .int x9)]) dX8_findFine_95 rfl kI_1 rfl (fun _ => rfl) (fun v8 => ?_)
    refine l_goto (t := 71) dX8_findFine_98 rfl ?_
    exact l_al rfl ⟨rfl, rfl, rfl, rfl, rfl, rfl, rfl, trivial⟩
set_option maxRecDepth 16000 in
theorem w_X8_costOf (S : xS) (x0 : Nat) (x1 : Nat) (x2 : Int32) (x3 : Int32) (h : xH) : xle ((xGi h x0 8 0).bind fun v1 => xqJ (xM S mX4_below [.int v1] h) xth fun v3 h2 => (xden S mX8_costOf 15 [(0, .ref x0), (1, .ref x1), (2, .int x2), (3, .int x3), (4, .long v3), (6, .int (0 : Int32)), (7, .int (0 : Int32))] [] h2)) (xM S mX8_costOf [.ref x0, .ref x1, .int x2, .int x3] h) := by
  show xle _ (xden S mX8_costOf 0 [(0, .ref x0), (1, .ref x1), (2, .int x2), (3, .int x3)] [] h)
  refine l_loc dX8_costOf_0 rfl rfl ?_
  refine l_gi dX8_costOf_1 fl_8_18 (fun v1 => ?_)
  refine l_cJ dX8_costOf_4 rfl rfl rfl (l_xs cl_8_141 ko_mX4_below rfl rfl) rfl rfl nm_mX4_below (xhE_th rfl) (fun v3 h2 => ?_)
  refine l_loc (al1 := [(4, .long v3), (0, .ref x0), (1, .ref x1), (2, .int x2), (3, .int x3)]) dX8_costOf_7 rfl rfl ?_
  refine l_ic dX8_costOf_9 kI_0 ?_
  refine l_loc (al1 := [(6, .int (0 : Int32)), (4, .long v3), (0, .ref x0), (1, .ref x1), (2, .int x2), (3, .int x3)]) dX8_costOf_10 rfl rfl ?_
  refine l_ic dX8_costOf_12 kI_0 ?_
  refine l_loc (al1 := [(7, .int (0 : Int32)), (6, .int (0 : Int32)), (4, .long v3), (0, .ref x0), (1, .ref x1), (2, .int x2), (3, .int x3)]) dX8_costOf_13 rfl rfl ?_
  exact l_al rfl ⟨rfl, rfl, rfl, rfl, rfl, rfl, rfl, trivial⟩
set_option maxRecDepth 16000 in
theorem w_X8_costOf_15 (S : xS) (x0 : Nat) (x1 : Nat) (x2 : Int32) (x3 : Int32) (x4 : Int64) (x6 : Int32) (x7 : Int32) (h : xH) : xle ((xGi h x0 8 1).bind fun v1 => if v1 ≤ x7 then (some (.inl (some (.int x6)), h, 0, 0)) else ((xGr h x0 8 3).bind fun v2 => if xOb h v2 4 = true then xqJ (xM S mX4_rowAt [.ref v2, .int (x7 + x3)] h) xth fun v5 h4 => xqJ (xM S mX4_moved [.long v5, .int (-x2)] h4) xth fun v7 h6 => xlet (v7 &&& x4) fun v8 => if xOb h6 x1 4 = true then xqJ (xM S mX4_rowAt [.ref x1, .int x7] h6) xth fun v11 h10 => xqI (xM S mJ13_bitCount_95d88 [.long (v11 ^^^ v8)] h10) xth fun v13 h12 => xlet (x6 + v13) fun v14 => xlet (x7 + (1 : Int32)) fun v15 => (xden S mX8_costOf 15 [(0, .ref x0), (1, .ref x1), (2, .int x2), (3, .int x3), (4, .long x4), (6, .int v14), (7, .int v15)] [] h12) else none else none)) (xden S mX8_costOf 15 [(0, .ref x0), (1, .ref x1), (2, .int x2), (3, .int x3), (4, .long x4), (6, .int x6), (7, .int x7)] [] h) := by
  refine l_loc dX8_costOf_15 rfl rfl ?_
  refine l_loc dX8_costOf_17 rfl rfl ?_
  refine l_gi dX8_costOf_18 fl_8_22 (fun v1 => ?_)
  refine l_cge (t := 68) dX8_costOf_21 rfl ?_ ?_
  · refine l_loc dX8_costOf_68 rfl rfl ?_
    exact l_iretn dX8_costOf_70 rfl (by rfl)
  · refine l_loc dX8_costOf_24 rfl rfl ?_
    refine l_gr dX8_costOf_25 fl_8_34 (fun v2 => ?_)
    refine l_loc dX8_costOf_28 rfl rfl ?_
    refine l_loc dX8_costOf_30 rfl rfl ?_
    refine l_pure dX8_costOf_31 rfl rfl ?_
    refine l_ob fun q3 => ?_
    refine l_cJ dX8_costOf_32 rfl rfl rfl (l_xv cl_8_87 ko_mX4_rowAt rfl rfl rfl q3) rfl rfl nm_mX4_rowAt (xhE_th rfl) (fun v5 h4 => ?_)
    refine l_loc dX8_costOf_35 rfl rfl ?_
    refine l_pure dX8_costOf_36 rfl rfl ?_
    refine l_cJ dX8_costOf_37 rfl rfl rfl (l_xs cl_8_97 ko_mX4_moved rfl rfl) rfl rfl nm_mX4_moved (xhE_th rfl) (fun v7 h6 => ?_)
    refine l_loc dX8_costOf_40 rfl rfl ?_
    refine l_pure dX8_costOf_42 rfl rfl ?_
    refine l_lsl (al1 := fun v8 => [(8, .long v8), (0, .ref x0), (1, .ref x1), (2, .int x2), (3, .int x3), (4, .long x4), (6, .int x6), (7, .int x7)]) dX8_costOf_43 rfl (fun _ => rfl) (fun v8 => ?_)
    refine l_loc dX8_costOf_45 rfl rfl ?_
    refine l_loc dX8_costOf_47 rfl rfl ?_
    refine l_loc dX8_costOf_48 rfl rfl ?_
    refine l_ob fun q9 => ?_
    refine l_cJ dX8_costOf_50 rfl rfl rfl (l_xv cl_8_87 ko_mX4_rowAt rfl rfl rfl q9) rfl rfl nm_mX4_rowAt (xhE_th rfl) (fun v11 h10 => ?_)
    refine l_loc dX8_costOf_53 rfl rfl ?_
    refine l_pure dX8_costOf_55 rfl rfl ?_
    refine l_cI dX8_costOf_56 rfl rfl rfl (l_xs cl_8_144 ko_mJ13_bitCount_95d88 rfl rfl) rfl rfl nm_mJ13_bitCount_95d88 (xhE_th rfl) (fun v13 h12 => ?_)
    refine l_pure dX8_costOf_59 rfl rfl ?_
    refine l_isl (al1 := fun v14 => [(6, .int v14), (8, .long v8), (0, .ref x0), (1, .ref x1), (2, .int x2), (3, .int x3), (4, .long x4), (7, .int x7)]) dX8_costOf_60 rfl (fun _ => rfl) (fun v14 => ?_)
    refine l_incl (al1 := fun v15 => [(7, .int v15), (6, .int v14), (8, .long v8), (0, .ref x0), (1, .ref x1), (2, .int x2), (3, .int x3), (4, .long x4)]) dX8_costOf_62 rfl kI_1 rfl (fun _ => rfl) (fun v15 => ?_)
    refine l_goto (t := 15) dX8_costOf_65 rfl ?_
    exact l_al rfl ⟨rfl, rfl, rfl, rfl, rfl, rfl, rfl, trivial⟩
set_option maxRecDepth 16000 in
theorem w_X7_init (S : xS) (x0 : Nat) (h : xH) : xle (if x0 < h.length then xNo 5 h fun a1 h2 => xqC (xM S mX5_init [.ref a1, .int (0 : Int32)] h2) fun h3 => (xP true 7 h3 x0 7 0 (.ref a1)).bind fun h4 => xNo 5 h4 fun a5 h6 => xqC (xM S mX5_init [.ref a5, .int (1 : Int32)] h6) fun h7 => (xP true 7 h7 x0 7 1 (.ref a5)).bind fun h8 => some (.inl none, h8, 0, 0) else none) (xM S mX7_init [.ref x0] h) := by
  show xle _ (xden S mX7_init 0 [(0, .ref x0)] [] h)
  refine l_loc dX7_init_0 rfl rfl ?_
  refine l_obi dX7_init_1 rfl rfl rfl ?_
  refine l_loc dX7_init_4 rfl rfl ?_
  refine l_new (c := 5) dX7_init_5 rfl (fun a1 h2 _ _ => ?_)
  refine l_pure dX7_init_8 rfl rfl ?_
  refine l_ic dX7_init_9 kI_0 ?_
  refine l_cC dX7_init_10 rfl rfl rfl (l_xi cl_7_9 ko_mX5_init rfl rfl rfl) rfl rfl (fun h3 => ?_)
  refine l_pf dX7_init_13 fl_7_12 (ini := true) nm_mX7_init (fun h4 => ?_)
  refine l_loc dX7_init_16 rfl rfl ?_
  refine l_new (c := 5) dX7_init_17 rfl (fun a5 h6 _ _ => ?_)
  refine l_pure dX7_init_20 rfl rfl ?_
  refine l_ic dX7_init_21 kI_1 ?_
  refine l_cC dX7_init_22 rfl rfl rfl (l_xi cl_7_9 ko_mX5_init rfl rfl rfl) rfl rfl (fun h7 => ?_)
  refine l_pf dX7_init_25 fl_7_18 (ini := true) nm_mX7_init (fun h8 => ?_)
  exact l_end dX7_init_28 rfl rfl
theorem w_X5_begin (S : xS) (x0 : Nat) (h : xH) : xle (xden S mX5_begin 2 [(0, .ref x0), (1, .int (0 : Int32))] [] h) (xM S mX5_begin [.ref x0] h) := by
  show xle _ (xden S mX5_begin 0 [(0, .ref x0)] [] h)
  refine l_ic dX5_begin_0 kI_0 ?_
  refine l_loc (al1 := [(1, .int (0 : Int32)), (0, .ref x0)]) dX5_begin_1 rfl rfl ?_
  exact l_al rfl ⟨rfl, rfl, trivial⟩
set_option maxRecDepth 16000 in
theorem w_X5_begin_2 (S : xS) (x0 : Nat) (x1 : Int32) (h : xH) : xle ((xGr h x0 5 1).bind fun v1 => (xRz h v1).bind fun v2 => if v2 ≤ x1 then ((xP false 5 h x0 5 8 (.null)).bind fun h3 => some (.inl none, h3, 0, 0)) else ((xGr h x0 5 1).bind fun v4 => (xWl h v4 x1 (0 : Int64)).bind fun h5 => xlet (x1 + (1 : Int32)) fun v6 => (xden S mX5_begin 2 [(0, .ref x0), (1, .int v6)] [] h5))) (xden S mX5_begin 2 [(0, .ref x0), (1, .int x1)] [] h) := by
  refine l_loc dX5_begin_2 rfl rfl ?_
  refine l_loc dX5_begin_3 rfl rfl ?_
  refine l_gr dX5_begin_4 fl_5_9 (fun v1 => ?_)
  refine l_ln dX5_begin_7 (fun v2 => ?_)
  refine l_cge (t := 24) dX5_begin_8 rfl ?_ ?_
  · refine l_loc dX5_begin_24 rfl rfl ?_
    refine l_pure dX5_begin_25 rfl rfl ?_
    refine l_pf dX5_begin_26 fl_5_19 (ini := false) nm_mX5_begin (fun h3 => ?_)
    exact l_end dX5_begin_29 rfl rfl
  · refine l_loc dX5_begin_11 rfl rfl ?_
    refine l_gr dX5_begin_12 fl_5_9 (fun v4 => ?_)
    refine l_loc dX5_begin_15 rfl rfl ?_
    refine l_lc0 dX5_begin_16 ?_
    refine l_wl dX5_begin_17 (fun h5 => ?_)
    refine l_incl (al1 := fun v6 => [(1, .int v6), (0, .ref x0)]) dX5_begin_18 rfl kI_1 rfl (fun _ => rfl) (fun v6 => ?_)
    refine l_goto (t := 2) dX5_begin_21 rfl ?_
    exact l_al rfl ⟨rfl, rfl, trivial⟩
set_option maxRecDepth 16000 in
theorem w_X5_takeRow (S : xS) (x0 : Nat) (x1 : Int32) (x2 : Int64) (h : xH) : xle (if x1 < 0 then (some (.inl none, h, 0, 0)) else ((xGr h x0 5 1).bind fun v1 => (xRz h v1).bind fun v2 => if v2 ≤ x1 then (some (.inl none, h, 0, 0)) else ((xGr h x0 5 1).bind fun v3 => (xWl h v3 x1 x2).bind fun h4 => some (.inl none, h4, 0, 0)))) (xM S mX5_takeRow [.ref x0, .int x1, .long x2] h) := by
  show xle _ (xden S mX5_takeRow 0 [(0, .ref x0), (1, .int x1), (2, .long x2)] [] h)
  refine l_loc dX5_takeRow_0 rfl rfl ?_
  refine l_ilt (t := 20) dX5_takeRow_1 rfl ?_ ?_
  · exact l_end dX5_takeRow_20 rfl rfl
  · refine l_loc dX5_takeRow_4 rfl rfl ?_
    refine l_loc dX5_takeRow_5 rfl rfl ?_
    refine l_gr dX5_takeRow_6 fl_5_9 (fun v1 => ?_)
    refine l_ln dX5_takeRow_9 (fun v2 => ?_)
    refine l_cge (t := 20) dX5_takeRow_10 rfl ?_ ?_
    · exact l_end dX5_takeRow_20 rfl rfl
    · refine l_loc dX5_takeRow_13 rfl rfl ?_
      refine l_gr dX5_takeRow_14 fl_5_9 (fun v3 => ?_)
      refine l_loc dX5_takeRow_17 rfl rfl ?_
      refine l_loc dX5_takeRow_18 rfl rfl ?_
      refine l_wl dX5_takeRow_19 (fun h4 => ?_)
      exact l_end dX5_takeRow_20 rfl rfl
set_option maxRecDepth 16000 in
theorem w_X7_settle (S : xS) (x0 : Nat) (h : xH) : xle ((xGr h x0 7 0).bind fun v1 => if xOb h v1 5 = true then xqV (xM S mX5_settle [.ref v1] h) xth fun h3 => (xGr h3 x0 7 1).bind fun v5 => if xOb h3 v5 5 = true then xqV (xM S mX5_settle [.ref v5] h3) xth fun h7 => (xGr h7 x0 7 0).bind fun v9 => (xGi h7 v9 5 6).bind fun v10 => if v10 ≤ 0 then ((xGr h7 x0 7 1).bind fun v11 => (xGr h7 x0 7 1).bind fun v12 => (xGi h7 v12 5 6).bind fun v13 => if v13 ≤ 0 then ((xGr h7 x0 7 0).bind fun v14 => (xden S mX7_settle 57 [(0, .ref x0), (1, .ref v11)] [.ref v14] h7)) else ((xGr h7 x0 7 1).bind fun v15 => (xden S mX7_settle 57 [(0, .ref x0), (1, .ref v11)] [.ref v15] h7))) else ((xGr h7 x0 7 0).bind fun v16 => (xGr h7 x0 7 1).bind fun v17 => (xGi h7 v17 5 6).bind fun v18 => if v18 ≤ 0 then ((xGr h7 x0 7 0).bind fun v19 => (xden S mX7_settle 57 [(0, .ref x0), (1, .ref v16)] [.ref v19] h7)) else ((xGr h7 x0 7 1).bind fun v20 => (xden S mX7_settle 57 [(0, .ref x0), (1, .ref v16)] [.ref v20] h7))) else none else none) (xM S mX7_settle [.ref x0] h) := by
  show xle _ (xden S mX7_settle 0 [(0, .ref x0)] [] h)
  refine l_loc dX7_settle_0 rfl rfl ?_
  refine l_gr dX7_settle_1 fl_7_12 (fun v1 => ?_)
  refine l_ob fun q2 => ?_
  refine l_cV dX7_settle_4 rfl rfl rfl (l_xv cl_7_21 ko_mX5_settle rfl rfl rfl q2) rfl rfl nm_mX5_settle (xhE_th rfl) (fun h3 => ?_)
  refine l_loc dX7_settle_7 rfl rfl ?_
  refine l_gr dX7_settle_8 fl_7_18 (fun v5 => ?_)
  refine l_ob fun q6 => ?_
  refine l_cV dX7_settle_11 rfl rfl rfl (l_xv cl_7_21 ko_mX5_settle rfl rfl rfl q6) rfl rfl nm_mX5_settle (xhE_th rfl) (fun h7 => ?_)
  refine l_loc dX7_settle_14 rfl rfl ?_
  refine l_gr dX7_settle_15 fl_7_12 (fun v9 => ?_)
  refine l_gi dX7_settle_18 fl_7_24 (fun v10 => ?_)
  refine l_ile (t := 31) dX7_settle_21 rfl ?_ ?_
  · refine l_loc dX7_settle_31 rfl rfl ?_
    refine l_gr dX7_settle_32 fl_7_18 (fun v11 => ?_)
    refine l_loc (al1 := [(1, .ref v11), (0, .ref x0)]) dX7_settle_35 rfl rfl ?_
    refine l_loc dX7_settle_36 rfl rfl ?_
    refine l_gr dX7_settle_37 fl_7_18 (fun v12 => ?_)
    refine l_gi dX7_settle_40 fl_7_24 (fun v13 => ?_)
    refine l_ile (t := 53) dX7_settle_43 rfl ?_ ?_
    · refine l_loc dX7_settle_53 rfl rfl ?_
      refine l_gr dX7_settle_54 fl_7_12 (fun v14 => ?_)
      exact l_al rfl ⟨rfl, rfl, trivial⟩
    · refine l_loc dX7_settle_46 rfl rfl ?_
      refine l_gr dX7_settle_47 fl_7_18 (fun v15 => ?_)
      refine l_goto (t := 57) dX7_settle_50 rfl ?_
      exact l_al rfl ⟨rfl, rfl, trivial⟩
  · refine l_loc dX7_settle_24 rfl rfl ?_
    refine l_gr dX7_settle_25 fl_7_12 (fun v16 => ?_)
    refine l_goto (t := 35) dX7_settle_28 rfl ?_
    refine l_loc (al1 := [(1, .ref v16), (0, .ref x0)]) dX7_settle_35 rfl rfl ?_
    refine l_loc dX7_settle_36 rfl rfl ?_
    refine l_gr dX7_settle_37 fl_7_18 (fun v17 => ?_)
    refine l_gi dX7_settle_40 fl_7_24 (fun v18 => ?_)
    refine l_ile (t := 53) dX7_settle_43 rfl ?_ ?_
    · refine l_loc dX7_settle_53 rfl rfl ?_
      refine l_gr dX7_settle_54 fl_7_12 (fun v19 => ?_)
      exact l_al rfl ⟨rfl, rfl, trivial⟩
    · refine l_loc dX7_settle_46 rfl rfl ?_
      refine l_gr dX7_settle_47 fl_7_18 (fun v20 => ?_)
      refine l_goto (t := 57) dX7_settle_50 rfl ?_
      exact l_al rfl ⟨rfl, rfl, trivial⟩
set_option maxRecDepth 16000 in
theorem w_X7_settle_57 (S : xS) (x0 : Nat) (x1 : Nat) (z0 : Nat) (h : xH) : xle ((xGi h x1 5 2).bind fun v1 => (xGi h z0 5 2).bind fun v2 => xqI (xM S mJ9_min_7cf53 [.int v1, .int v2] h) xth fun v4 h3 => (xP false 7 h3 x0 7 2 (.int v4)).bind fun h5 => (xGi h5 x1 5 3).bind fun v6 => (xGi h5 z0 5 3).bind fun v7 => xqI (xM S mJ9_min_7cf53 [.int v6, .int v7] h5) xth fun v9 h8 => (xP false 7 h8 x0 7 3 (.int v9)).bind fun h10 => (xGi h10 x1 5 2).bind fun v11 => (xGi h10 x1 5 4).bind fun v12 => (xGi h10 z0 5 2).bind fun v13 => (xGi h10 z0 5 4).bind fun v14 => xqI (xM S mJ9_max_7cf53 [.int (v11 + v12), .int (v13 + v14)] h10) xth fun v16 h15 => (xP false 7 h15 x0 7 4 (.int (v16 - (1 : Int32)))).bind fun h17 => (xGi h17 x1 5 3).bind fun v18 => (xGi h17 x1 5 5).bind fun v19 => (xGi h17 z0 5 3).bind fun v20 => (xGi h17 z0 5 5).bind fun v21 => xqI (xM S mJ9_max_7cf53 [.int (v18 + v19), .int (v20 + v21)] h17) xth fun v23 h22 => (xP false 7 h22 x0 7 5 (.int (v23 - (1 : Int32)))).bind fun h24 => some (.inl none, h24, 0, 0)) (xden S mX7_settle 57 [(0, .ref x0), (1, .ref x1)] [.ref z0] h) := by
  refine l_loc (al1 := [(2, .ref z0), (0, .ref x0), (1, .ref x1)]) dX7_settle_57 rfl rfl ?_
  refine l_loc dX7_settle_58 rfl rfl ?_
  refine l_loc dX7_settle_59 rfl rfl ?_
  refine l_gi dX7_settle_60 fl_7_28 (fun v1 => ?_)
  refine l_loc dX7_settle_63 rfl rfl ?_
  refine l_gi dX7_settle_64 fl_7_28 (fun v2 => ?_)
  refine l_cI dX7_settle_67 rfl rfl rfl (l_xs cl_7_31 ko_mJ9_min_7cf53 rfl rfl) rfl rfl nm_mJ9_min_7cf53 (xhE_th rfl) (fun v4 h3 => ?_)
  refine l_pf dX7_settle_70 fl_7_37 (ini := false) nm_mX7_settle (fun h5 => ?_)
  refine l_loc dX7_settle_73 rfl rfl ?_
  refine l_loc dX7_settle_74 rfl rfl ?_
  refine l_gi dX7_settle_75 fl_7_38 (fun v6 => ?_)
  refine l_loc dX7_settle_78 rfl rfl ?_
  refine l_gi dX7_settle_79 fl_7_38 (fun v7 => ?_)
  refine l_cI dX7_settle_82 rfl rfl rfl (l_xs cl_7_31 ko_mJ9_min_7cf53 rfl rfl) rfl rfl nm_mJ9_min_7cf53 (xhE_th rfl) (fun v9 h8 => ?_)
  refine l_pf dX7_settle_85 fl_7_41 (ini := false) nm_mX7_settle (fun h10 => ?_)
  refine l_loc dX7_settle_88 rfl rfl ?_
  refine l_loc dX7_settle_89 rfl rfl ?_
  refine l_gi dX7_settle_90 fl_7_28 (fun v11 => ?_)
  refine l_loc dX7_settle_93 rfl rfl ?_
  refine l_gi dX7_settle_94 fl_7_42 (fun v12 => ?_)
  refine l_pure dX7_settle_97 rfl rfl ?_
  refine l_loc dX7_settle_98 rfl rfl ?_
  refine l_gi dX7_settle_99 fl_7_28 (fun v13 => ?_)
  refine l_loc dX7_settle_102 rfl rfl ?_
  refine l_gi dX7_settle_103 fl_7_42 (fun v14 => ?_)
  refine l_pure dX7_settle_106 rfl rfl ?_
  refine l_cI dX7_settle_107 rfl rfl rfl (l_xs cl_7_45 ko_mJ9_max_7cf53 rfl rfl) rfl rfl nm_mJ9_max_7cf53 (xhE_th rfl) (fun v16 h15 => ?_)
  refine l_ic dX7_settle_110 kI_1 ?_
  refine l_pure dX7_settle_111 rfl rfl ?_
  refine l_pf dX7_settle_112 fl_7_48 (ini := false) nm_mX7_settle (fun h17 => ?_)
  refine l_loc dX7_settle_115 rfl rfl ?_
  refine l_loc dX7_settle_116 rfl rfl ?_
  refine l_gi dX7_settle_117 fl_7_38 (fun v18 => ?_)
  refine l_loc dX7_settle_120 rfl rfl ?_
  refine l_gi dX7_settle_121 fl_7_51 (fun v19 => ?_)
  refine l_pure dX7_settle_124 rfl rfl ?_
  refine l_loc dX7_settle_125 rfl rfl ?_
  refine l_gi dX7_settle_126 fl_7_38 (fun v20 => ?_)
  refine l_loc dX7_settle_129 rfl rfl ?_
  refine l_gi dX7_settle_130 fl_7_51 (fun v21 => ?_)
  refine l_pure dX7_settle_133 rfl rfl ?_
  refine l_cI dX7_settle_134 rfl rfl rfl (l_xs cl_7_45 ko_mJ9_max_7cf53 rfl rfl) rfl rfl nm_mJ9_max_7cf53 (xhE_th rfl) (fun v23 h22 => ?_)
  refine l_ic dX7_settle_137 kI_1 ?_
  refine l_pure dX7_settle_138 rfl rfl ?_
  refine l_pf dX7_settle_139 fl_7_54 (ini := false) nm_mX7_settle (fun h24 => ?_)
  exact l_end dX7_settle_142 rfl rfl
set_option maxRecDepth 16000 in
theorem w_X5_settle (S : xS) (x0 : Nat) (h : xH) : xle ((xP false 5 h x0 5 6 (.int (0 : Int32))).bind fun h1 => (xP false 5 h1 x0 5 3 (.int (0 : Int32))).bind fun h2 => (xden S mX5_settle 17 [(0, .ref x0), (1, .long (0 : Int64)), (3, .int (-1 : Int32)), (4, .int (0 : Int32))] [] h2)) (xM S mX5_settle [.ref x0] h) := by
  show xle _ (xden S mX5_settle 0 [(0, .ref x0)] [] h)
  refine l_lc0 dX5_settle_0 ?_
  refine l_loc (al1 := [(1, .long (0 : Int64)), (0, .ref x0)]) dX5_settle_1 rfl rfl ?_
  refine l_ic dX5_settle_2 kI_m1 ?_
  refine l_loc (al1 := [(3, .int (-1 : Int32)), (1, .long (0 : Int64)), (0, .ref x0)]) dX5_settle_3 rfl rfl ?_
  refine l_loc dX5_settle_4 rfl rfl ?_
  refine l_ic dX5_settle_5 kI_0 ?_
  refine l_pf dX5_settle_6 fl_5_23 (ini := false) nm_mX5_settle (fun h1 => ?_)
  refine l_loc dX5_settle_9 rfl rfl ?_
  refine l_ic dX5_settle_10 kI_0 ?_
  refine l_pf dX5_settle_11 fl_5_27 (ini := false) nm_mX5_settle (fun h2 => ?_)
  refine l_ic dX5_settle_14 kI_0 ?_
  refine l_loc (al1 := [(4, .int (0 : Int32)), (3, .int (-1 : Int32)), (1, .long (0 : Int64)), (0, .ref x0)]) dX5_settle_15 rfl rfl ?_
  exact l_al rfl ⟨rfl, rfl, rfl, rfl, trivial⟩
set_option maxRecDepth 16000 in
theorem w_X5_settle_17 (S : xS) (x0 : Nat) (x1 : Int64) (x3 : Int32) (x4 : Int32) (h : xH) : xle ((xGr h x0 5 1).bind fun v1 => (xRz h v1).bind fun v2 => if v2 ≤ x4 then (xqI (xM S mX5_lowestBit [.long x1] h) xth fun v4 h3 => (xP false 5 h3 x0 5 2 (.int v4)).bind fun h5 => xqI (xM S mX5_bitsUpToHighest [.long x1] h5) xth fun v7 h6 => (xGi h6 x0 5 2).bind fun v8 => (xP false 5 h6 x0 5 4 (.int (v7 - v8))).bind fun h9 => if 0 ≤ x3 then ((xGi h9 x0 5 3).bind fun v10 => (xP false 5 h9 x0 5 5 (.int ((x3 - v10) + (1 : Int32)))).bind fun h11 => (xden S mX5_settle 141 [(0, .ref x0), (4, .int (0 : Int32))] [] h11)) else ((xP false 5 h9 x0 5 5 (.int (0 : Int32))).bind fun h12 => (xden S mX5_settle 141 [(0, .ref x0), (4, .int (0 : Int32))] [] h12))) else ((xGr h x0 5 1).bind fun v13 => (xRl h v13 x4).bind fun v14 => if (lg_cmp v14 (0 : Int64)) = 0 then (xlet (x4 + (1 : Int32)) fun v15 => (xden S mX5_settle 17 [(0, .ref x0), (1, .long x1), (3, .int x3), (4, .int v15)] [] h)) else ((xGi h x0 5 6).bind fun v16 => if ¬ v16 = 0 then ((xGi h x0 5 3).bind fun v17 => (xP false 5 h x0 5 3 (.int v17)).bind fun h18 => (xGr h18 x0 5 1).bind fun v19 => (xRl h18 v19 x4).bind fun v20 => xlet (x1 ||| v20) fun v21 => (xGi h18 x0 5 6).bind fun v22 => (xGr h18 x0 5 1).bind fun v23 => (xRl h18 v23 x4).bind fun v24 => xqI (xM S mJ13_bitCount_95d88 [.long v24] h18) xth fun v26 h25 => (xP false 5 h25 x0 5 6 (.int (v22 + v26))).bind fun h27 => xlet (x4 + (1 : Int32)) fun v28 => (xden S mX5_settle 17 [(0, .ref x0), (1, .long v21), (3, .int x4), (4, .int v28)] [] h27)) else ((xP false 5 h x0 5 3 (.int x4)).bind fun h29 => (xGr h29 x0 5 1).bind fun v30 => (xRl h29 v30 x4).bind fun v31 => xlet (x1 ||| v31) fun v32 => (xGi h29 x0 5 6).bind fun v33 => (xGr h29 x0 5 1).bind fun v34 => (xRl h29 v34 x4).bind fun v35 => xqI (xM S mJ13_bitCount_95d88 [.long v35] h29) xth fun v37 h36 => (xP false 5 h36 x0 5 6 (.int (v33 + v37))).bind fun h38 => xlet (x4 + (1 : Int32)) fun v39 => (xden S mX5_settle 17 [(0, .ref x0), (1, .long v32), (3, .int x4), (4, .int v39)] [] h38))))) (xden S mX5_settle 17 [(0, .ref x0), (1, .long x1), (3, .int x3), (4, .int x4)] [] h) := by
  refine l_loc dX5_settle_17 rfl rfl ?_
  refine l_loc dX5_settle_19 rfl rfl ?_
  refine l_gr dX5_settle_20 fl_5_9 (fun v1 => ?_)
  refine l_ln dX5_settle_23 (fun v2 => ?_)
  refine l_cge (t := 97) dX5_settle_24 rfl ?_ ?_
  · refine l_loc dX5_settle_97 rfl rfl ?_
    refine l_loc dX5_settle_98 rfl rfl ?_
    refine l_cI dX5_settle_99 rfl rfl rfl (l_xs cl_5_36 ko_mX5_lowestBit rfl rfl) rfl rfl nm_mX5_lowestBit (xhE_th rfl) (fun v4 h3 => ?_)
    refine l_pf dX5_settle_102 fl_5_39 (ini := false) nm_mX5_settle (fun h5 => ?_)
    refine l_loc dX5_settle_105 rfl rfl ?_
    refine l_loc dX5_settle_106 rfl rfl ?_
    refine l_cI dX5_settle_107 rfl rfl rfl (l_xs cl_5_42 ko_mX5_bitsUpToHighest rfl rfl) rfl rfl nm_mX5_bitsUpToHighest (xhE_th rfl) (fun v7 h6 => ?_)
    refine l_loc dX5_settle_110 rfl rfl ?_
    refine l_gi dX5_settle_111 fl_5_39 (fun v8 => ?_)
    refine l_pure dX5_settle_114 rfl rfl ?_
    refine l_pf dX5_settle_115 fl_5_45 (ini := false) nm_mX5_settle (fun h9 => ?_)
    refine l_loc dX5_settle_118 rfl rfl ?_
    refine l_loc dX5_settle_119 rfl rfl ?_
    refine l_ige (t := 127) dX5_settle_120 rfl ?_ ?_
    · refine l_loc dX5_settle_127 rfl rfl ?_
      refine l_loc dX5_settle_128 rfl rfl ?_
      refine l_gi dX5_settle_129 fl_5_27 (fun v10 => ?_)
      refine l_pure dX5_settle_132 rfl rfl ?_
      refine l_ic dX5_settle_133 kI_1 ?_
      refine l_pure dX5_settle_134 rfl rfl ?_
      refine l_pf dX5_settle_135 fl_5_48 (ini := false) nm_mX5_settle (fun h11 => ?_)
      refine l_ic dX5_settle_138 kI_0 ?_
      refine l_loc (al1 := [(4, .int (0 : Int32)), (0, .ref x0), (1, .long x1), (3, .int x3)]) dX5_settle_139 rfl rfl ?_
      exact l_al rfl ⟨rfl, rfl, trivial⟩
    · refine l_ic dX5_settle_123 kI_0 ?_
      refine l_goto (t := 135) dX5_settle_124 rfl ?_
      refine l_pf dX5_settle_135 fl_5_48 (ini := false) nm_mX5_settle (fun h12 => ?_)
      refine l_ic dX5_settle_138 kI_0 ?_
      refine l_loc (al1 := [(4, .int (0 : Int32)), (0, .ref x0), (1, .long x1), (3, .int x3)]) dX5_settle_139 rfl rfl ?_
      exact l_al rfl ⟨rfl, rfl, trivial⟩
  · refine l_loc dX5_settle_27 rfl rfl ?_
    refine l_gr dX5_settle_28 fl_5_9 (fun v13 => ?_)
    refine l_loc dX5_settle_31 rfl rfl ?_
    refine l_rl dX5_settle_33 (fun v14 => ?_)
    refine l_lc0 dX5_settle_34 ?_
    refine l_pure dX5_settle_35 rfl rfl ?_
    refine l_ieq (t := 91) dX5_settle_36 rfl ?_ ?_
    · refine l_incl (al1 := fun v15 => [(4, .int v15), (0, .ref x0), (1, .long x1), (3, .int x3)]) dX5_settle_91 rfl kI_1 rfl (fun _ => rfl) (fun v15 => ?_)
      refine l_goto (t := 17) dX5_settle_94 rfl ?_
      exact l_al rfl ⟨rfl, rfl, rfl, rfl, trivial⟩
    · refine l_loc dX5_settle_39 rfl rfl ?_
      refine l_loc dX5_settle_40 rfl rfl ?_
      refine l_gi dX5_settle_41 fl_5_23 (fun v16 => ?_)
      refine l_ine (t := 52) dX5_settle_44 rfl ?_ ?_
      · refine l_loc dX5_settle_52 rfl rfl ?_
        refine l_gi dX5_settle_53 fl_5_27 (fun v17 => ?_)
        refine l_pf dX5_settle_56 fl_5_27 (ini := false) nm_mX5_settle (fun h18 => ?_)
        refine l_loc dX5_settle_59 rfl rfl ?_
        refine l_loc (al1 := [(3, .int x4), (0, .ref x0), (1, .long x1), (4, .int x4)]) dX5_settle_61 rfl rfl ?_
        refine l_loc dX5_settle_62 rfl rfl ?_
        refine l_loc dX5_settle_63 rfl rfl ?_
        refine l_gr dX5_settle_64 fl_5_9 (fun v19 => ?_)
        refine l_loc dX5_settle_67 rfl rfl ?_
        refine l_rl dX5_settle_69 (fun v20 => ?_)
        refine l_pure dX5_settle_70 rfl rfl ?_
        refine l_lsl (al1 := fun v21 => [(1, .long v21), (3, .int x4), (0, .ref x0), (4, .int x4)]) dX5_settle_71 rfl (fun _ => rfl) (fun v21 => ?_)
        refine l_loc dX5_settle_72 rfl rfl ?_
        refine l_pure dX5_settle_73 rfl rfl ?_
        refine l_gi dX5_settle_74 fl_5_23 (fun v22 => ?_)
        refine l_loc dX5_settle_77 rfl rfl ?_
        refine l_gr dX5_settle_78 fl_5_9 (fun v23 => ?_)
        refine l_loc dX5_settle_81 rfl rfl ?_
        refine l_rl dX5_settle_83 (fun v24 => ?_)
        refine l_cI dX5_settle_84 rfl rfl rfl (l_xs cl_5_30 ko_mJ13_bitCount_95d88 rfl rfl) rfl rfl nm_mJ13_bitCount_95d88 (xhE_th rfl) (fun v26 h25 => ?_)
        refine l_pure dX5_settle_87 rfl rfl ?_
        refine l_pf dX5_settle_88 fl_5_23 (ini := false) nm_mX5_settle (fun h27 => ?_)
        refine l_incl (al1 := fun v28 => [(4, .int v28), (1, .long v21), (3, .int x4), (0, .ref x0)]) dX5_settle_91 rfl kI_1 rfl (fun _ => rfl) (fun v28 => ?_)
        refine l_goto (t := 17) dX5_settle_94 rfl ?_
        exact l_al rfl ⟨rfl, rfl, rfl, rfl, trivial⟩
      · refine l_loc dX5_settle_47 rfl rfl ?_
        refine l_goto (t := 56) dX5_settle_49 rfl ?_
        refine l_pf dX5_settle_56 fl_5_27 (ini := false) nm_mX5_settle (fun h29 => ?_)
        refine l_loc dX5_settle_59 rfl rfl ?_
        refine l_loc (al1 := [(3, .int x4), (0, .ref x0), (1, .long x1), (4, .int x4)]) dX5_settle_61 rfl rfl ?_
        refine l_loc dX5_settle_62 rfl rfl ?_
        refine l_loc dX5_settle_63 rfl rfl ?_
        refine l_gr dX5_settle_64 fl_5_9 (fun v30 => ?_)
        refine l_loc dX5_settle_67 rfl rfl ?_
        refine l_rl dX5_settle_69 (fun v31 => ?_)
        refine l_pure dX5_settle_70 rfl rfl ?_
        refine l_lsl (al1 := fun v32 => [(1, .long v32), (3, .int x4), (0, .ref x0), (4, .int x4)]) dX5_settle_71 rfl (fun _ => rfl) (fun v32 => ?_)
        refine l_loc dX5_settle_72 rfl rfl ?_
        refine l_pure dX5_settle_73 rfl rfl ?_
        refine l_gi dX5_settle_74 fl_5_23 (fun v33 => ?_)
        refine l_loc dX5_settle_77 rfl rfl ?_
        refine l_gr dX5_settle_78 fl_5_9 (fun v34 => ?_)
        refine l_loc dX5_settle_81 rfl rfl ?_
        refine l_rl dX5_settle_83 (fun v35 => ?_)
        refine l_cI dX5_settle_84 rfl rfl rfl (l_xs cl_5_30 ko_mJ13_bitCount_95d88 rfl rfl) rfl rfl nm_mJ13_bitCount_95d88 (xhE_th rfl) (fun v37 h36 => ?_)
        refine l_pure dX5_settle_87 rfl rfl ?_
        refine l_pf dX5_settle_88 fl_5_23 (ini := false) nm_mX5_settle (fun h38 => ?_)
        refine l_incl (al1 := fun v39 => [(4, .int v39), (1, .long v32), (3, .int x4), (0, .ref x0)]) dX5_settle_91 rfl kI_1 rfl (fun _ => rfl) (fun v39 => ?_)
        refine l_goto (t := 17) dX5_settle_94 rfl ?_
        exact l_al rfl ⟨rfl, rfl, rfl, rfl, trivial⟩
set_option maxRecDepth 16000 in
theorem w_X5_settle_141 (S : xS) (x0 : Nat) (x4 : Int32) (h : xH) : xle ((xGr h x0 5 1).bind fun v1 => (xRz h v1).bind fun v2 => if v2 ≤ x4 then (some (.inl none, h, 0, 0)) else ((xGr h x0 5 1).bind fun v3 => (xGi h x0 5 5).bind fun v4 => if v4 ≤ x4 then ((xWl h v3 x4 (0 : Int64)).bind fun h5 => xlet (x4 + (1 : Int32)) fun v6 => (xden S mX5_settle 141 [(0, .ref x0), (4, .int v6)] [] h5)) else ((xGi h x0 5 3).bind fun v7 => if xOb h x0 5 = true then xqJ (xM S mX5_shapeRow [.ref x0, .int (v7 + x4)] h) xth fun v10 h9 => (xGi h9 x0 5 2).bind fun v11 => xqJ (xM S mX4_moved [.long v10, .int (-v11)] h9) xth fun v13 h12 => (xWl h12 v3 x4 v13).bind fun h14 => xlet (x4 + (1 : Int32)) fun v15 => (xden S mX5_settle 141 [(0, .ref x0), (4, .int v15)] [] h14) else none))) (xden S mX5_settle 141 [(0, .ref x0), (4, .int x4)] [] h) := by
  refine l_loc dX5_settle_141 rfl rfl ?_
  refine l_loc dX5_settle_143 rfl rfl ?_
  refine l_gr dX5_settle_144 fl_5_9 (fun v1 => ?_)
  refine l_ln dX5_settle_147 (fun v2 => ?_)
  refine l_cge (t := 196) dX5_settle_148 rfl ?_ ?_
  · exact l_end dX5_settle_196 rfl rfl
  · refine l_loc dX5_settle_151 rfl rfl ?_
    refine l_gr dX5_settle_152 fl_5_9 (fun v3 => ?_)
    refine l_loc dX5_settle_155 rfl rfl ?_
    refine l_loc dX5_settle_157 rfl rfl ?_
    refine l_loc dX5_settle_159 rfl rfl ?_
    refine l_gi dX5_settle_160 fl_5_48 (fun v4 => ?_)
    refine l_cge (t := 188) dX5_settle_163 rfl ?_ ?_
    · refine l_lc0 dX5_settle_188 ?_
      refine l_wl dX5_settle_189 (fun h5 => ?_)
      refine l_incl (al1 := fun v6 => [(4, .int v6), (0, .ref x0)]) dX5_settle_190 rfl kI_1 rfl (fun _ => rfl) (fun v6 => ?_)
      refine l_goto (t := 141) dX5_settle_193 rfl ?_
      exact l_al rfl ⟨rfl, rfl, trivial⟩
    · refine l_loc dX5_settle_166 rfl rfl ?_
      refine l_loc dX5_settle_167 rfl rfl ?_
      refine l_gi dX5_settle_168 fl_5_27 (fun v7 => ?_)
      refine l_loc dX5_settle_171 rfl rfl ?_
      refine l_pure dX5_settle_173 rfl rfl ?_
      refine l_ob fun q8 => ?_
      refine l_cJ dX5_settle_174 rfl rfl rfl (l_xv cl_5_51 ko_mX5_shapeRow rfl rfl rfl q8) rfl rfl nm_mX5_shapeRow (xhE_th rfl) (fun v10 h9 => ?_)
      refine l_loc dX5_settle_177 rfl rfl ?_
      refine l_gi dX5_settle_178 fl_5_39 (fun v11 => ?_)
      refine l_pure dX5_settle_181 rfl rfl ?_
      refine l_cJ dX5_settle_182 rfl rfl rfl (l_xs cl_5_55 ko_mX4_moved rfl rfl) rfl rfl nm_mX4_moved (xhE_th rfl) (fun v13 h12 => ?_)
      refine l_goto (t := 189) dX5_settle_185 rfl ?_
      refine l_wl dX5_settle_189 (fun h14 => ?_)
      refine l_incl (al1 := fun v15 => [(4, .int v15), (0, .ref x0)]) dX5_settle_190 rfl kI_1 rfl (fun _ => rfl) (fun v15 => ?_)
      refine l_goto (t := 141) dX5_settle_193 rfl ?_
      exact l_al rfl ⟨rfl, rfl, trivial⟩
theorem w_X5_lowestBit (S : xS) (x0 : Int64) (h : xH) : xle (xden S mX5_lowestBit 2 [(0, .long x0), (2, .int (0 : Int32))] [] h) (xM S mX5_lowestBit [.long x0] h) := by
  show xle _ (xden S mX5_lowestBit 0 [(0, .long x0)] [] h)
  refine l_ic dX5_lowestBit_0 kI_0 ?_
  refine l_loc (al1 := [(2, .int (0 : Int32)), (0, .long x0)]) dX5_lowestBit_1 rfl rfl ?_
  exact l_al rfl ⟨rfl, rfl, trivial⟩
set_option maxRecDepth 16000 in
theorem w_X5_lowestBit_2 (S : xS) (x0 : Int64) (x2 : Int32) (h : xH) : xle (if (64 : Int32) ≤ x2 then (if ¬ (lg_cmp x0 (0 : Int64)) = 0 then (some (.inl (some (.int x2)), h, 0, 0)) else (some (.inl (some (.int (0 : Int32))), h, 0, 0))) else (if ¬ (lg_cmp (((x0.toUInt64 >>> (x2.toInt64.toUInt64 &&& Int64.toUInt64 63)).toInt64) &&& (1 : Int64)) (0 : Int64)) = 0 then (if ¬ (lg_cmp x0 (0 : Int64)) = 0 then (some (.inl (some (.int x2)), h, 0, 0)) else (some (.inl (some (.int (0 : Int32))), h, 0, 0))) else (xlet (x2 + (1 : Int32)) fun v1 => (xden S mX5_lowestBit 2 [(0, .long x0), (2, .int v1)] [] h)))) (xden S mX5_lowestBit 2 [(0, .long x0), (2, .int x2)] [] h) := by
  refine l_loc dX5_lowestBit_2 rfl rfl ?_
  refine l_bi dX5_lowestBit_3 kB_64 ?_
  refine l_cge (t := 24) dX5_lowestBit_5 rfl ?_ ?_
  · refine l_loc dX5_lowestBit_24 rfl rfl ?_
    refine l_lc0 dX5_lowestBit_25 ?_
    refine l_pure dX5_lowestBit_26 rfl rfl ?_
    refine l_ine (t := 34) dX5_lowestBit_27 rfl ?_ ?_
    · refine l_loc dX5_lowestBit_34 rfl rfl ?_
      exact l_iretn dX5_lowestBit_35 rfl (by rfl)
    · refine l_ic dX5_lowestBit_30 kI_0 ?_
      refine l_goto (t := 35) dX5_lowestBit_31 rfl ?_
      exact l_iretn dX5_lowestBit_35 rfl (by rfl)
  · refine l_loc dX5_lowestBit_8 rfl rfl ?_
    refine l_loc dX5_lowestBit_9 rfl rfl ?_
    refine l_pure dX5_lowestBit_10 rfl rfl ?_
    refine l_lc1 dX5_lowestBit_11 ?_
    refine l_pure dX5_lowestBit_12 rfl rfl ?_
    refine l_lc0 dX5_lowestBit_13 ?_
    refine l_pure dX5_lowestBit_14 rfl rfl ?_
    refine l_ine (t := 24) dX5_lowestBit_15 rfl ?_ ?_
    · refine l_loc dX5_lowestBit_24 rfl rfl ?_
      refine l_lc0 dX5_lowestBit_25 ?_
      refine l_pure dX5_lowestBit_26 rfl rfl ?_
      refine l_ine (t := 34) dX5_lowestBit_27 rfl ?_ ?_
      · refine l_loc dX5_lowestBit_34 rfl rfl ?_
        exact l_iretn dX5_lowestBit_35 rfl (by rfl)
      · refine l_ic dX5_lowestBit_30 kI_0 ?_
        refine l_goto (t := 35) dX5_lowestBit_31 rfl ?_
        exact l_iretn dX5_lowestBit_35 rfl (by rfl)
    · refine l_incl (al1 := fun v1 => [(2, .int v1), (0, .long x0)]) dX5_lowestBit_18 rfl kI_1 rfl (fun _ => rfl) (fun v1 => ?_)
      refine l_goto (t := 2) dX5_lowestBit_21 rfl ?_
      exact l_al rfl ⟨rfl, rfl, trivial⟩
theorem w_X5_bitsUpToHighest (S : xS) (x0 : Int64) (h : xH) : xle (xden S mX5_bitsUpToHighest 3 [(0, .long x0), (2, .int (64 : Int32))] [] h) (xM S mX5_bitsUpToHighest [.long x0] h) := by
  show xle _ (xden S mX5_bitsUpToHighest 0 [(0, .long x0)] [] h)
  refine l_bi dX5_bitsUpToHighest_0 kB_64 ?_
  refine l_loc (al1 := [(2, .int (64 : Int32)), (0, .long x0)]) dX5_bitsUpToHighest_2 rfl rfl ?_
  exact l_al rfl ⟨rfl, rfl, trivial⟩
set_option maxRecDepth 16000 in
theorem w_X5_bitsUpToHighest_3 (S : xS) (x0 : Int64) (x2 : Int32) (h : xH) : xle (if x2 ≤ 0 then (some (.inl (some (.int x2)), h, 0, 0)) else (if ¬ (lg_cmp (((x0.toUInt64 >>> ((x2 - (1 : Int32)).toInt64.toUInt64 &&& Int64.toUInt64 63)).toInt64) &&& (1 : Int64)) (0 : Int64)) = 0 then (some (.inl (some (.int x2)), h, 0, 0)) else (xlet (x2 + (-1 : Int32)) fun v1 => (xden S mX5_bitsUpToHighest 3 [(0, .long x0), (2, .int v1)] [] h)))) (xden S mX5_bitsUpToHighest 3 [(0, .long x0), (2, .int x2)] [] h) := by
  refine l_loc dX5_bitsUpToHighest_3 rfl rfl ?_
  refine l_ile (t := 25) dX5_bitsUpToHighest_4 rfl ?_ ?_
  · refine l_loc dX5_bitsUpToHighest_25 rfl rfl ?_
    exact l_iretn dX5_bitsUpToHighest_26 rfl (by rfl)
  · refine l_loc dX5_bitsUpToHighest_7 rfl rfl ?_
    refine l_loc dX5_bitsUpToHighest_8 rfl rfl ?_
    refine l_ic dX5_bitsUpToHighest_9 kI_1 ?_
    refine l_pure dX5_bitsUpToHighest_10 rfl rfl ?_
    refine l_pure dX5_bitsUpToHighest_11 rfl rfl ?_
    refine l_lc1 dX5_bitsUpToHighest_12 ?_
    refine l_pure dX5_bitsUpToHighest_13 rfl rfl ?_
    refine l_lc0 dX5_bitsUpToHighest_14 ?_
    refine l_pure dX5_bitsUpToHighest_15 rfl rfl ?_
    refine l_ine (t := 25) dX5_bitsUpToHighest_16 rfl ?_ ?_
    · refine l_loc dX5_bitsUpToHighest_25 rfl rfl ?_
      exact l_iretn dX5_bitsUpToHighest_26 rfl (by rfl)
    · refine l_incl (al1 := fun v1 => [(2, .int v1), (0, .long x0)]) dX5_bitsUpToHighest_19 rfl kI_m1 rfl (fun _ => rfl) (fun v1 => ?_)
      refine l_goto (t := 3) dX5_bitsUpToHighest_22 rfl ?_
      exact l_al rfl ⟨rfl, rfl, trivial⟩
set_option maxRecDepth 16000 in
theorem w_X5_shapeRow (S : xS) (x0 : Nat) (x1 : Int32) (h : xH) : xle (if x1 < 0 then (some (.inl (some (.long (0 : Int64))), h, 0, 0)) else ((xGr h x0 5 1).bind fun v1 => (xRz h v1).bind fun v2 => if v2 ≤ x1 then (some (.inl (some (.long (0 : Int64))), h, 0, 0)) else ((xGr h x0 5 1).bind fun v3 => (xRl h v3 x1).bind fun v4 => some (.inl (some (.long v4)), h, 0, 0)))) (xM S mX5_shapeRow [.ref x0, .int x1] h) := by
  show xle _ (xden S mX5_shapeRow 0 [(0, .ref x0), (1, .int x1)] [] h)
  refine l_loc dX5_shapeRow_0 rfl rfl ?_
  refine l_ilt (t := 22) dX5_shapeRow_1 rfl ?_ ?_
  · refine l_lc0 dX5_shapeRow_22 ?_
    exact l_end dX5_shapeRow_23 rfl rfl
  · refine l_loc dX5_shapeRow_4 rfl rfl ?_
    refine l_loc dX5_shapeRow_5 rfl rfl ?_
    refine l_gr dX5_shapeRow_6 fl_5_9 (fun v1 => ?_)
    refine l_ln dX5_shapeRow_9 (fun v2 => ?_)
    refine l_cge (t := 22) dX5_shapeRow_10 rfl ?_ ?_
    · refine l_lc0 dX5_shapeRow_22 ?_
      exact l_end dX5_shapeRow_23 rfl rfl
    · refine l_loc dX5_shapeRow_13 rfl rfl ?_
      refine l_gr dX5_shapeRow_14 fl_5_9 (fun v3 => ?_)
      refine l_loc dX5_shapeRow_17 rfl rfl ?_
      refine l_rl dX5_shapeRow_18 (fun v4 => ?_)
      refine l_goto (t := 23) dX5_shapeRow_19 rfl ?_
      exact l_end dX5_shapeRow_23 rfl rfl
set_option maxRecDepth 16000 in
theorem w_X7_start (S : xS) (x0 : Nat) (x1 : Int32) (h : xH) : xle (if x1 = 0 then ((xGi h x0 7 3).bind fun v1 => some (.inl (some (.int v1)), h, 0, 0)) else ((xGi h x0 7 2).bind fun v2 => some (.inl (some (.int v2)), h, 0, 0))) (xM S mX7_start [.ref x0, .int x1] h) := by
  show xle _ (xden S mX7_start 0 [(0, .ref x0), (1, .int x1)] [] h)
  refine l_loc dX7_start_0 rfl rfl ?_
  refine l_ieq (t := 11) dX7_start_1 rfl ?_ ?_
  · refine l_loc dX7_start_11 rfl rfl ?_
    refine l_gi dX7_start_12 fl_7_41 (fun v1 => ?_)
    exact l_iretn dX7_start_15 rfl (by rfl)
  · refine l_loc dX7_start_4 rfl rfl ?_
    refine l_gi dX7_start_5 fl_7_37 (fun v2 => ?_)
    refine l_goto (t := 15) dX7_start_8 rfl ?_
    exact l_iretn dX7_start_15 rfl (by rfl)
set_option maxRecDepth 16000 in
theorem w_X7_end (S : xS) (x0 : Nat) (x1 : Int32) (h : xH) : xle (if x1 = 0 then ((xGi h x0 7 5).bind fun v1 => some (.inl (some (.int v1)), h, 0, 0)) else ((xGi h x0 7 4).bind fun v2 => some (.inl (some (.int v2)), h, 0, 0))) (xM S mX7_end [.ref x0, .int x1] h) := by
  show xle _ (xden S mX7_end 0 [(0, .ref x0), (1, .int x1)] [] h)
  refine l_loc dX7_end_0 rfl rfl ?_
  refine l_ieq (t := 11) dX7_end_1 rfl ?_ ?_
  · refine l_loc dX7_end_11 rfl rfl ?_
    refine l_gi dX7_end_12 fl_7_54 (fun v1 => ?_)
    exact l_iretn dX7_end_15 rfl (by rfl)
  · refine l_loc dX7_end_4 rfl rfl ?_
    refine l_gi dX7_end_5 fl_7_48 (fun v2 => ?_)
    refine l_goto (t := 15) dX7_end_8 rfl ?_
    exact l_iretn dX7_end_15 rfl (by rfl)
set_option maxRecDepth 16000 in
theorem w_X7_takeNumber (S : xS) (x0 : Nat) (x1 : Int32) (h : xH) : xle ((xP false 7 h x0 7 6 (.int x1)).bind fun h1 => (xGr h1 x0 7 0).bind fun v2 => (xP false 7 h1 v2 5 7 (.int x1)).bind fun h3 => (xGr h3 x0 7 1).bind fun v4 => (xP false 7 h3 v4 5 7 (.int x1)).bind fun h5 => some (.inl none, h5, 0, 0)) (xM S mX7_takeNumber [.ref x0, .int x1] h) := by
  show xle _ (xden S mX7_takeNumber 0 [(0, .ref x0), (1, .int x1)] [] h)
  refine l_loc dX7_takeNumber_0 rfl rfl ?_
  refine l_loc dX7_takeNumber_1 rfl rfl ?_
  refine l_pf dX7_takeNumber_2 fl_7_57 (ini := false) nm_mX7_takeNumber (fun h1 => ?_)
  refine l_loc dX7_takeNumber_5 rfl rfl ?_
  refine l_gr dX7_takeNumber_6 fl_7_12 (fun v2 => ?_)
  refine l_loc dX7_takeNumber_9 rfl rfl ?_
  refine l_pf dX7_takeNumber_10 fl_7_60 (ini := false) nm_mX7_takeNumber (fun h3 => ?_)
  refine l_loc dX7_takeNumber_13 rfl rfl ?_
  refine l_gr dX7_takeNumber_14 fl_7_18 (fun v4 => ?_)
  refine l_loc dX7_takeNumber_17 rfl rfl ?_
  refine l_pf dX7_takeNumber_18 fl_7_60 (ini := false) nm_mX7_takeNumber (fun h5 => ?_)
  exact l_end dX7_takeNumber_21 rfl rfl
set_option maxRecDepth 16000 in
theorem w_X5_hasShapeOf (S : xS) (x0 : Nat) (x1 : Nat) (h : xH) : xle ((xGi h x0 5 4).bind fun v1 => (xGi h x1 5 4).bind fun v2 => if ¬ v1 = v2 then (some (.inl (some (.int (0 : Int32))), h, 0, 0)) else ((xGi h x0 5 5).bind fun v3 => (xGi h x1 5 5).bind fun v4 => if ¬ v3 = v4 then (some (.inl (some (.int (0 : Int32))), h, 0, 0)) else ((xGi h x0 5 6).bind fun v5 => (xGi h x1 5 6).bind fun v6 => if v5 = v6 then (xden S mX5_hasShapeOf 37 [(0, .ref x0), (1, .ref x1), (2, .int (0 : Int32))] [] h) else (some (.inl (some (.int (0 : Int32))), h, 0, 0))))) (xM S mX5_hasShapeOf [.ref x0, .ref x1] h) := by
  show xle _ (xden S mX5_hasShapeOf 0 [(0, .ref x0), (1, .ref x1)] [] h)
  refine l_loc dX5_hasShapeOf_0 rfl rfl ?_
  refine l_gi dX5_hasShapeOf_1 fl_5_45 (fun v1 => ?_)
  refine l_loc dX5_hasShapeOf_4 rfl rfl ?_
  refine l_gi dX5_hasShapeOf_5 fl_5_45 (fun v2 => ?_)
  refine l_cne (t := 33) dX5_hasShapeOf_8 rfl ?_ ?_
  · refine l_ic dX5_hasShapeOf_33 kI_0 ?_
    exact l_iretn dX5_hasShapeOf_34 rfl (by decide)
  · refine l_loc dX5_hasShapeOf_11 rfl rfl ?_
    refine l_gi dX5_hasShapeOf_12 fl_5_48 (fun v3 => ?_)
    refine l_loc dX5_hasShapeOf_15 rfl rfl ?_
    refine l_gi dX5_hasShapeOf_16 fl_5_48 (fun v4 => ?_)
    refine l_cne (t := 33) dX5_hasShapeOf_19 rfl ?_ ?_
    · refine l_ic dX5_hasShapeOf_33 kI_0 ?_
      exact l_iretn dX5_hasShapeOf_34 rfl (by decide)
    · refine l_loc dX5_hasShapeOf_22 rfl rfl ?_
      refine l_gi dX5_hasShapeOf_23 fl_5_23 (fun v5 => ?_)
      refine l_loc dX5_hasShapeOf_26 rfl rfl ?_
      refine l_gi dX5_hasShapeOf_27 fl_5_23 (fun v6 => ?_)
      refine l_ceq (t := 35) dX5_hasShapeOf_30 rfl ?_ ?_
      · refine l_ic dX5_hasShapeOf_35 kI_0 ?_
        refine l_loc (al1 := [(2, .int (0 : Int32)), (0, .ref x0), (1, .ref x1)]) dX5_hasShapeOf_36 rfl rfl ?_
        exact l_al rfl ⟨rfl, rfl, rfl, trivial⟩
      · refine l_ic dX5_hasShapeOf_33 kI_0 ?_
        exact l_iretn dX5_hasShapeOf_34 rfl (by decide)
set_option maxRecDepth 16000 in
theorem w_X5_hasShapeOf_37 (S : xS) (x0 : Nat) (x1 : Nat) (x2 : Int32) (h : xH) : xle ((xGi h x0 5 5).bind fun v1 => if v1 ≤ x2 then (some (.inl (some (.int (1 : Int32))), h, 0, 0)) else (if xOb h x0 5 = true then xqJ (xM S mX5_shapeRow [.ref x0, .int x2] h) xth fun v4 h3 => if xOb h3 x1 5 = true then xqJ (xM S mX5_shapeRow [.ref x1, .int x2] h3) xth fun v7 h6 => if (lg_cmp v4 v7) = 0 then (xlet (x2 + (1 : Int32)) fun v8 => (xden S mX5_hasShapeOf 37 [(0, .ref x0), (1, .ref x1), (2, .int v8)] [] h6)) else (some (.inl (some (.int (0 : Int32))), h6, 0, 0)) else none else none)) (xden S mX5_hasShapeOf 37 [(0, .ref x0), (1, .ref x1), (2, .int x2)] [] h) := by
  refine l_loc dX5_hasShapeOf_37 rfl rfl ?_
  refine l_loc dX5_hasShapeOf_38 rfl rfl ?_
  refine l_gi dX5_hasShapeOf_39 fl_5_48 (fun v1 => ?_)
  refine l_cge (t := 67) dX5_hasShapeOf_42 rfl ?_ ?_
  · refine l_ic dX5_hasShapeOf_67 kI_1 ?_
    exact l_iretn dX5_hasShapeOf_68 rfl (by decide)
  · refine l_loc dX5_hasShapeOf_45 rfl rfl ?_
    refine l_loc dX5_hasShapeOf_46 rfl rfl ?_
    refine l_ob fun q2 => ?_
    refine l_cJ dX5_hasShapeOf_47 rfl rfl rfl (l_xv cl_5_51 ko_mX5_shapeRow rfl rfl rfl q2) rfl rfl nm_mX5_shapeRow (xhE_th rfl) (fun v4 h3 => ?_)
    refine l_loc dX5_hasShapeOf_50 rfl rfl ?_
    refine l_loc dX5_hasShapeOf_51 rfl rfl ?_
    refine l_ob fun q5 => ?_
    refine l_cJ dX5_hasShapeOf_52 rfl rfl rfl (l_xv cl_5_51 ko_mX5_shapeRow rfl rfl rfl q5) rfl rfl nm_mX5_shapeRow (xhE_th rfl) (fun v7 h6 => ?_)
    refine l_pure dX5_hasShapeOf_55 rfl rfl ?_
    refine l_ieq (t := 61) dX5_hasShapeOf_56 rfl ?_ ?_
    · refine l_incl (al1 := fun v8 => [(2, .int v8), (0, .ref x0), (1, .ref x1)]) dX5_hasShapeOf_61 rfl kI_1 rfl (fun _ => rfl) (fun v8 => ?_)
      refine l_goto (t := 37) dX5_hasShapeOf_64 rfl ?_
      exact l_al rfl ⟨rfl, rfl, rfl, trivial⟩
    · refine l_ic dX5_hasShapeOf_59 kI_0 ?_
      exact l_iretn dX5_hasShapeOf_60 rfl (by decide)
theorem w_X10_numberOf (S : xS) (x0 : Nat) (x1 : Nat) (h : xH) : xle (xden S mX10_numberOf 2 [(0, .ref x0), (1, .ref x1), (2, .int (0 : Int32))] [] h) (xM S mX10_numberOf [.ref x0, .ref x1] h) := by
  show xle _ (xden S mX10_numberOf 0 [(0, .ref x0), (1, .ref x1)] [] h)
  refine l_ic dX10_numberOf_0 kI_0 ?_
  refine l_loc (al1 := [(2, .int (0 : Int32)), (0, .ref x0), (1, .ref x1)]) dX10_numberOf_1 rfl rfl ?_
  exact l_al rfl ⟨rfl, rfl, rfl, trivial⟩
set_option maxRecDepth 16000 in
theorem w_X10_numberOf_2 (S : xS) (x0 : Nat) (x1 : Nat) (x2 : Int32) (h : xH) : xle ((xGi h x0 9 1).bind fun v1 => if v1 ≤ x2 then (some (.inl (some (.int (-1 : Int32))), h, 0, 0)) else ((xGr h x0 9 0).bind fun v2 => (xRr h v2 x2).bind fun v3 => if xOb h v3 5 = true then xqI (xM S mX5_hasShapeOf [.ref v3, .ref x1] h) xth fun v6 h5 => if v6 = 0 then (xlet (x2 + (1 : Int32)) fun v7 => (xden S mX10_numberOf 2 [(0, .ref x0), (1, .ref x1), (2, .int v7)] [] h5)) else (some (.inl (some (.int x2)), h5, 0, 0)) else none)) (xden S mX10_numberOf 2 [(0, .ref x0), (1, .ref x1), (2, .int x2)] [] h) := by
  refine l_loc dX10_numberOf_2 rfl rfl ?_
  refine l_loc dX10_numberOf_3 rfl rfl ?_
  refine l_gi dX10_numberOf_4 fl_9_20 (fun v1 => ?_)
  refine l_cge (t := 31) dX10_numberOf_7 rfl ?_ ?_
  · refine l_ic dX10_numberOf_31 kI_m1 ?_
    exact l_iretn dX10_numberOf_32 rfl (by rfl)
  · refine l_loc dX10_numberOf_10 rfl rfl ?_
    refine l_gr dX10_numberOf_11 fl_9_11 (fun v2 => ?_)
    refine l_loc dX10_numberOf_14 rfl rfl ?_
    refine l_rr dX10_numberOf_15 (fun v3 => ?_)
    refine l_loc dX10_numberOf_16 rfl rfl ?_
    refine l_ob fun q4 => ?_
    refine l_cI dX10_numberOf_17 rfl rfl rfl (l_xv cl_9_24 ko_mX5_hasShapeOf rfl rfl rfl q4) rfl rfl nm_mX5_hasShapeOf (xhE_th rfl) (fun v6 h5 => ?_)
    refine l_ieq (t := 25) dX10_numberOf_20 rfl ?_ ?_
    · refine l_incl (al1 := fun v7 => [(2, .int v7), (0, .ref x0), (1, .ref x1)]) dX10_numberOf_25 rfl kI_1 rfl (fun _ => rfl) (fun v7 => ?_)
      refine l_goto (t := 2) dX10_numberOf_28 rfl ?_
      exact l_al rfl ⟨rfl, rfl, rfl, trivial⟩
    · refine l_loc dX10_numberOf_23 rfl rfl ?_
      exact l_iretn dX10_numberOf_24 rfl (by rfl)
set_option maxRecDepth 16000 in
theorem w_X5_kind (S : xS) (x0 : Nat) (h : xH) : xle ((xGn h x0 5 8).bind (xon ((xGi h x0 5 0).bind fun v2 => if v2 = 0 then (some (.inl (some (.int (1 : Int32))), h, 0, 0)) else (some (.inl (some (.int (2 : Int32))), h, 0, 0))) (fun v1 => some (.inl (some (.int (3 : Int32))), h, 0, 0)))) (xM S mX5_kind [.ref x0] h) := by
  show xle _ (xden S mX5_kind 0 [(0, .ref x0)] [] h)
  refine l_loc dX5_kind_0 rfl rfl ?_
  refine l_gn dX5_kind_1 fl_5_19 ?_ (fun v1 => ?_)
  · refine l_nullN (t := 9) dX5_kind_4 rfl ?_
    refine l_loc dX5_kind_9 rfl rfl ?_
    refine l_gi dX5_kind_10 fl_5_15 (fun v2 => ?_)
    refine l_ieq (t := 20) dX5_kind_13 rfl ?_ ?_
    · refine l_ic dX5_kind_20 kI_1 ?_
      exact l_iretn dX5_kind_21 rfl (by rfl)
    · refine l_ic dX5_kind_16 kI_2 ?_
      refine l_goto (t := 21) dX5_kind_17 rfl ?_
      exact l_iretn dX5_kind_21 rfl (by rfl)
  · refine l_nullR dX5_kind_4 ?_
    refine l_ic dX5_kind_7 kI_3 ?_
    exact l_iretn dX5_kind_8 rfl (by rfl)
set_option maxRecDepth 16000 in
theorem w_X5_report (S : xS) (x0 : Nat) (x1 : Nat) (h : xH) : xle ((xGn h x0 5 8).bind (xon ((xGi h x0 5 0).bind fun v2 => if v2 = 0 then (if xOb h x1 6 = true then xqV (xM S mX6_write [.ref x1, .retAddr 52] h) xth fun h4 => (xGi h4 x0 5 6).bind fun v6 => if xOb h4 x1 6 = true then xqV (xM S mX6_writeNumber [.ref x1, .int v6] h4) xth fun h8 => if xOb h8 x1 6 = true then xqV (xM S mX6_write [.ref x1, .retAddr 53] h8) xth fun h11 => (xGi h11 x0 5 2).bind fun v13 => (xGi h11 x0 5 3).bind fun v14 => if xOb h11 x1 6 = true then xqV (xM S mX6_writePair [.ref x1, .int v13, .retAddr 49, .int v14] h11) xth fun h16 => (xden S mX5_report 112 [(0, .ref x0), (1, .ref x1)] [] h16) else none else none else none else none) else (if xOb h x1 6 = true then xqV (xM S mX6_write [.ref x1, .retAddr 51] h) xth fun h19 => (xGi h19 x0 5 6).bind fun v21 => if xOb h19 x1 6 = true then xqV (xM S mX6_writeNumber [.ref x1, .int v21] h19) xth fun h23 => if xOb h23 x1 6 = true then xqV (xM S mX6_write [.ref x1, .retAddr 53] h23) xth fun h26 => (xGi h26 x0 5 2).bind fun v28 => (xGi h26 x0 5 3).bind fun v29 => if xOb h26 x1 6 = true then xqV (xM S mX6_writePair [.ref x1, .int v28, .retAddr 49, .int v29] h26) xth fun h31 => (xden S mX5_report 112 [(0, .ref x0), (1, .ref x1)] [] h31) else none else none else none else none)) (fun v1 => if xOb h x1 6 = true then xqV (xM S mX6_write [.ref x1, .retAddr 47] h) xth fun h34 => (xGi h34 x0 5 6).bind fun v36 => if xOb h34 x1 6 = true then xqV (xM S mX6_writeNumber [.ref x1, .int v36] h34) xth fun h38 => if xOb h38 x1 6 = true then xqV (xM S mX6_write [.ref x1, .retAddr 48] h38) xth fun h41 => (xGi h41 x0 5 2).bind fun v43 => (xGi h41 x0 5 3).bind fun v44 => if xOb h41 x1 6 = true then xqV (xM S mX6_writePair [.ref x1, .int v43, .retAddr 49, .int v44] h41) xth fun h46 => if xOb h46 x1 6 = true then xqV (xM S mX6_write [.ref x1, .retAddr 50] h46) xth fun h49 => (xGi h49 v1 5 2).bind fun v51 => (xGi h49 v1 5 3).bind fun v52 => if xOb h49 x1 6 = true then xqV (xM S mX6_writePair [.ref x1, .int v51, .retAddr 49, .int v52] h49) xth fun h54 => (xden S mX5_report 112 [(0, .ref x0), (1, .ref x1)] [] h54) else none else none else none else none else none else none))) (xM S mX5_report [.ref x0, .ref x1] h) := by
  show xle _ (xden S mX5_report 0 [(0, .ref x0), (1, .ref x1)] [] h)
  refine l_loc dX5_report_0 rfl rfl ?_
  refine l_gn dX5_report_1 fl_5_19 ?_ (fun v1 => ?_)
  · refine l_loc (al1 := [(2, .null), (0, .ref x0), (1, .ref x1)]) dX5_report_4 rfl rfl ?_
    refine l_loc dX5_report_5 rfl rfl ?_
    refine l_nullN (t := 66) dX5_report_6 rfl ?_
    refine l_loc dX5_report_66 rfl rfl ?_
    refine l_loc dX5_report_67 rfl rfl ?_
    refine l_gi dX5_report_68 fl_5_15 (fun v2 => ?_)
    refine l_ieq (t := 79) dX5_report_71 rfl ?_ ?_
    · refine l_rd (st1 := [.retAddr 52, .ref x1]) dX5_report_79 rfl rfl ?_
      refine l_ob fun q3 => ?_
      refine l_cV dX5_report_81 rfl rfl rfl (l_xv cl_5_69 ko_mX6_write rfl rfl rfl q3) rfl rfl nm_mX6_write (xhE_th rfl) (fun h4 => ?_)
      refine l_loc dX5_report_84 rfl rfl ?_
      refine l_loc dX5_report_85 rfl rfl ?_
      refine l_gi dX5_report_86 fl_5_23 (fun v6 => ?_)
      refine l_ob fun q7 => ?_
      refine l_cV dX5_report_89 rfl rfl rfl (l_xv cl_5_75 ko_mX6_writeNumber rfl rfl rfl q7) rfl rfl nm_mX6_writeNumber (xhE_th rfl) (fun h8 => ?_)
      refine l_loc dX5_report_92 rfl rfl ?_
      refine l_rd (st1 := [.retAddr 53, .ref x1]) dX5_report_93 rfl rfl ?_
      refine l_ob fun q10 => ?_
      refine l_cV dX5_report_95 rfl rfl rfl (l_xv cl_5_69 ko_mX6_write rfl rfl rfl q10) rfl rfl nm_mX6_write (xhE_th rfl) (fun h11 => ?_)
      refine l_loc dX5_report_98 rfl rfl ?_
      refine l_loc dX5_report_99 rfl rfl ?_
      refine l_gi dX5_report_100 fl_5_39 (fun v13 => ?_)
      refine l_rd (st1 := [.retAddr 49, .int v13, .ref x1]) dX5_report_103 rfl rfl ?_
      refine l_loc dX5_report_105 rfl rfl ?_
      refine l_gi dX5_report_106 fl_5_27 (fun v14 => ?_)
      refine l_ob fun q15 => ?_
      refine l_cV dX5_report_109 rfl rfl rfl (l_xv cl_5_83 ko_mX6_writePair rfl rfl rfl q15) rfl rfl nm_mX6_writePair (xhE_th rfl) (fun h16 => ?_)
      exact l_al rfl ⟨rfl, rfl, trivial⟩
    · refine l_rd (st1 := [.retAddr 51, .ref x1]) dX5_report_74 rfl rfl ?_
      refine l_goto (t := 81) dX5_report_76 rfl ?_
      refine l_ob fun q18 => ?_
      refine l_cV dX5_report_81 rfl rfl rfl (l_xv cl_5_69 ko_mX6_write rfl rfl rfl q18) rfl rfl nm_mX6_write (xhE_th rfl) (fun h19 => ?_)
      refine l_loc dX5_report_84 rfl rfl ?_
      refine l_loc dX5_report_85 rfl rfl ?_
      refine l_gi dX5_report_86 fl_5_23 (fun v21 => ?_)
      refine l_ob fun q22 => ?_
      refine l_cV dX5_report_89 rfl rfl rfl (l_xv cl_5_75 ko_mX6_writeNumber rfl rfl rfl q22) rfl rfl nm_mX6_writeNumber (xhE_th rfl) (fun h23 => ?_)
      refine l_loc dX5_report_92 rfl rfl ?_
      refine l_rd (st1 := [.retAddr 53, .ref x1]) dX5_report_93 rfl rfl ?_
      refine l_ob fun q25 => ?_
      refine l_cV dX5_report_95 rfl rfl rfl (l_xv cl_5_69 ko_mX6_write rfl rfl rfl q25) rfl rfl nm_mX6_write (xhE_th rfl) (fun h26 => ?_)
      refine l_loc dX5_report_98 rfl rfl ?_
      refine l_loc dX5_report_99 rfl rfl ?_
      refine l_gi dX5_report_100 fl_5_39 (fun v28 => ?_)
      refine l_rd (st1 := [.retAddr 49, .int v28, .ref x1]) dX5_report_103 rfl rfl ?_
      refine l_loc dX5_report_105 rfl rfl ?_
      refine l_gi dX5_report_106 fl_5_27 (fun v29 => ?_)
      refine l_ob fun q30 => ?_
      refine l_cV dX5_report_109 rfl rfl rfl (l_xv cl_5_83 ko_mX6_writePair rfl rfl rfl q30) rfl rfl nm_mX6_writePair (xhE_th rfl) (fun h31 => ?_)
      exact l_al rfl ⟨rfl, rfl, trivial⟩
  · refine l_loc (al1 := [(2, .ref v1), (0, .ref x0), (1, .ref x1)]) dX5_report_4 rfl rfl ?_
    refine l_loc dX5_report_5 rfl rfl ?_
    refine l_nullR dX5_report_6 ?_
    refine l_loc dX5_report_9 rfl rfl ?_
    refine l_rd (st1 := [.retAddr 47, .ref x1]) dX5_report_10 rfl rfl ?_
    refine l_ob fun q33 => ?_
    refine l_cV dX5_report_12 rfl rfl rfl (l_xv cl_5_69 ko_mX6_write rfl rfl rfl q33) rfl rfl nm_mX6_write (xhE_th rfl) (fun h34 => ?_)
    refine l_loc dX5_report_15 rfl rfl ?_
    refine l_loc dX5_report_16 rfl rfl ?_
    refine l_gi dX5_report_17 fl_5_23 (fun v36 => ?_)
    refine l_ob fun q37 => ?_
    refine l_cV dX5_report_20 rfl rfl rfl (l_xv cl_5_75 ko_mX6_writeNumber rfl rfl rfl q37) rfl rfl nm_mX6_writeNumber (xhE_th rfl) (fun h38 => ?_)
    refine l_loc dX5_report_23 rfl rfl ?_
    refine l_rd (st1 := [.retAddr 48, .ref x1]) dX5_report_24 rfl rfl ?_
    refine l_ob fun q40 => ?_
    refine l_cV dX5_report_26 rfl rfl rfl (l_xv cl_5_69 ko_mX6_write rfl rfl rfl q40) rfl rfl nm_mX6_write (xhE_th rfl) (fun h41 => ?_)
    refine l_loc dX5_report_29 rfl rfl ?_
    refine l_loc dX5_report_30 rfl rfl ?_
    refine l_gi dX5_report_31 fl_5_39 (fun v43 => ?_)
    refine l_rd (st1 := [.retAddr 49, .int v43, .ref x1]) dX5_report_34 rfl rfl ?_
    refine l_loc dX5_report_36 rfl rfl ?_
    refine l_gi dX5_report_37 fl_5_27 (fun v44 => ?_)
    refine l_ob fun q45 => ?_
    refine l_cV dX5_report_40 rfl rfl rfl (l_xv cl_5_83 ko_mX6_writePair rfl rfl rfl q45) rfl rfl nm_mX6_writePair (xhE_th rfl) (fun h46 => ?_)
    refine l_loc dX5_report_43 rfl rfl ?_
    refine l_rd (st1 := [.retAddr 50, .ref x1]) dX5_report_44 rfl rfl ?_
    refine l_ob fun q48 => ?_
    refine l_cV dX5_report_46 rfl rfl rfl (l_xv cl_5_69 ko_mX6_write rfl rfl rfl q48) rfl rfl nm_mX6_write (xhE_th rfl) (fun h49 => ?_)
    refine l_loc dX5_report_49 rfl rfl ?_
    refine l_loc dX5_report_50 rfl rfl ?_
    refine l_gi dX5_report_51 fl_5_39 (fun v51 => ?_)
    refine l_rd (st1 := [.retAddr 49, .int v51, .ref x1]) dX5_report_54 rfl rfl ?_
    refine l_loc dX5_report_56 rfl rfl ?_
    refine l_gi dX5_report_57 fl_5_27 (fun v52 => ?_)
    refine l_ob fun q53 => ?_
    refine l_cV dX5_report_60 rfl rfl rfl (l_xv cl_5_83 ko_mX6_writePair rfl rfl rfl q53) rfl rfl nm_mX6_writePair (xhE_th rfl) (fun h54 => ?_)
    refine l_goto (t := 112) dX5_report_63 rfl ?_
    exact l_al rfl ⟨rfl, rfl, trivial⟩
set_option maxRecDepth 16000 in
theorem w_X5_report_112 (S : xS) (x0 : Nat) (x1 : Nat) (h : xH) : xle (if xOb h x1 6 = true then xqV (xM S mX6_write [.ref x1, .retAddr 54] h) xth fun h2 => (xGi h2 x0 5 4).bind fun v4 => (xGi h2 x0 5 5).bind fun v5 => if xOb h2 x1 6 = true then xqV (xM S mX6_writePair [.ref x1, .int v4, .retAddr 55, .int v5] h2) xth fun h7 => (xGi h7 x0 5 10).bind fun v9 => if v9 < 0 then (if xOb h7 x1 6 = true then xqV (xM S mX6_put [.ref x1, .int (10 : Int32)] h7) xth fun h11 => some (.inl none, h11, 0, 0) else none) else (if xOb h7 x1 6 = true then xqV (xM S mX6_write [.ref x1, .retAddr 56] h7) xth fun h14 => (xGi h14 x0 5 10).bind fun v16 => if xOb h14 x1 6 = true then xqV (xM S mX6_writeNumber [.ref x1, .int v16] h14) xth fun h18 => if xOb h18 x1 6 = true then xqV (xM S mX6_put [.ref x1, .int (10 : Int32)] h18) xth fun h21 => some (.inl none, h21, 0, 0) else none else none else none) else none else none) (xden S mX5_report 112 [(0, .ref x0), (1, .ref x1)] [] h) := by
  refine l_loc dX5_report_112 rfl rfl ?_
  refine l_rd (st1 := [.retAddr 54, .ref x1]) dX5_report_113 rfl rfl ?_
  refine l_ob fun q1 => ?_
  refine l_cV dX5_report_115 rfl rfl rfl (l_xv cl_5_69 ko_mX6_write rfl rfl rfl q1) rfl rfl nm_mX6_write (xhE_th rfl) (fun h2 => ?_)
  refine l_loc dX5_report_118 rfl rfl ?_
  refine l_loc dX5_report_119 rfl rfl ?_
  refine l_gi dX5_report_120 fl_5_45 (fun v4 => ?_)
  refine l_rd (st1 := [.retAddr 55, .int v4, .ref x1]) dX5_report_123 rfl rfl ?_
  refine l_loc dX5_report_125 rfl rfl ?_
  refine l_gi dX5_report_126 fl_5_48 (fun v5 => ?_)
  refine l_ob fun q6 => ?_
  refine l_cV dX5_report_129 rfl rfl rfl (l_xv cl_5_83 ko_mX6_writePair rfl rfl rfl q6) rfl rfl nm_mX6_writePair (xhE_th rfl) (fun h7 => ?_)
  refine l_loc dX5_report_132 rfl rfl ?_
  refine l_gi dX5_report_133 fl_5_99 (fun v9 => ?_)
  refine l_ilt (t := 153) dX5_report_136 rfl ?_ ?_
  · refine l_loc dX5_report_153 rfl rfl ?_
    refine l_bi dX5_report_154 kB_10 ?_
    refine l_ob fun q10 => ?_
    refine l_cV dX5_report_156 rfl rfl rfl (l_xv cl_5_104 ko_mX6_put rfl rfl rfl q10) rfl rfl nm_mX6_put (xhE_th rfl) (fun h11 => ?_)
    exact l_end dX5_report_159 rfl rfl
  · refine l_loc dX5_report_139 rfl rfl ?_
    refine l_rd (st1 := [.retAddr 56, .ref x1]) dX5_report_140 rfl rfl ?_
    refine l_ob fun q13 => ?_
    refine l_cV dX5_report_142 rfl rfl rfl (l_xv cl_5_69 ko_mX6_write rfl rfl rfl q13) rfl rfl nm_mX6_write (xhE_th rfl) (fun h14 => ?_)
    refine l_loc dX5_report_145 rfl rfl ?_
    refine l_loc dX5_report_146 rfl rfl ?_
    refine l_gi dX5_report_147 fl_5_99 (fun v16 => ?_)
    refine l_ob fun q17 => ?_
    refine l_cV dX5_report_150 rfl rfl rfl (l_xv cl_5_75 ko_mX6_writeNumber rfl rfl rfl q17) rfl rfl nm_mX6_writeNumber (xhE_th rfl) (fun h18 => ?_)
    refine l_loc dX5_report_153 rfl rfl ?_
    refine l_bi dX5_report_154 kB_10 ?_
    refine l_ob fun q20 => ?_
    refine l_cV dX5_report_156 rfl rfl rfl (l_xv cl_5_104 ko_mX6_put rfl rfl rfl q20) rfl rfl nm_mX6_put (xhE_th rfl) (fun h21 => ?_)
    exact l_end dX5_report_159 rfl rfl
set_option maxRecDepth 16000 in
theorem w_X10_isFull (S : xS) (x0 : Nat) (h : xH) : xle ((xGi h x0 9 1).bind fun v1 => if v1 < (7 : Int32) then (some (.inl (some (.int (0 : Int32))), h, 0, 0)) else (some (.inl (some (.int (1 : Int32))), h, 0, 0))) (xM S mX10_isFull [.ref x0] h) := by
  show xle _ (xden S mX10_isFull 0 [(0, .ref x0)] [] h)
  refine l_loc dX10_isFull_0 rfl rfl ?_
  refine l_gi dX10_isFull_1 fl_9_20 (fun v1 => ?_)
  refine l_bi dX10_isFull_4 kB_7 ?_
  refine l_clt (t := 13) dX10_isFull_6 rfl ?_ ?_
  · refine l_ic dX10_isFull_13 kI_0 ?_
    exact l_iretn dX10_isFull_14 rfl (by decide)
  · refine l_ic dX10_isFull_9 kI_1 ?_
    refine l_goto (t := 14) dX10_isFull_10 rfl ?_
    exact l_iretn dX10_isFull_14 rfl (by decide)
set_option maxRecDepth 16000 in
theorem w_X10_add (S : xS) (x0 : Nat) (x1 : Nat) (h : xH) : xle (if xOb h x0 9 = true then xqI (xM S mX10_isFull [.ref x0] h) xth fun v3 h2 => if v3 = 0 then ((xGr h2 x0 9 0).bind fun v4 => (xGi h2 x0 9 1).bind fun v5 => (xRr h2 v4 v5).bind fun v6 => if xOb h2 v6 5 = true then xqV (xM S mX5_takeShape [.ref v6, .ref x1] h2) xth fun h8 => (xGi h8 x0 9 1).bind fun v10 => (xP false 9 h8 x0 9 1 (.int (v10 + (1 : Int32)))).bind fun h11 => (xGi h11 x0 9 1).bind fun v12 => some (.inl (some (.int (v12 - (1 : Int32)))), h11, 0, 0) else none) else (some (.inl (some (.int (-1 : Int32))), h2, 0, 0)) else none) (xM S mX10_add [.ref x0, .ref x1] h) := by
  show xle _ (xden S mX10_add 0 [(0, .ref x0), (1, .ref x1)] [] h)
  refine l_loc dX10_add_0 rfl rfl ?_
  refine l_ob fun q1 => ?_
  refine l_cI dX10_add_1 rfl rfl rfl (l_xv cl_9_28 ko_mX10_isFull rfl rfl rfl q1) rfl rfl nm_mX10_isFull (xhE_th rfl) (fun v3 h2 => ?_)
  refine l_ieq (t := 9) dX10_add_4 rfl ?_ ?_
  · refine l_loc dX10_add_9 rfl rfl ?_
    refine l_gr dX10_add_10 fl_9_11 (fun v4 => ?_)
    refine l_loc dX10_add_13 rfl rfl ?_
    refine l_gi dX10_add_14 fl_9_20 (fun v5 => ?_)
    refine l_rr dX10_add_17 (fun v6 => ?_)
    refine l_loc dX10_add_18 rfl rfl ?_
    refine l_ob fun q7 => ?_
    refine l_cV dX10_add_19 rfl rfl rfl (l_xv cl_9_32 ko_mX5_takeShape rfl rfl rfl q7) rfl rfl nm_mX5_takeShape (xhE_th rfl) (fun h8 => ?_)
    refine l_loc dX10_add_22 rfl rfl ?_
    refine l_pure dX10_add_23 rfl rfl ?_
    refine l_gi dX10_add_24 fl_9_20 (fun v10 => ?_)
    refine l_ic dX10_add_27 kI_1 ?_
    refine l_pure dX10_add_28 rfl rfl ?_
    refine l_pf dX10_add_29 fl_9_20 (ini := false) nm_mX10_add (fun h11 => ?_)
    refine l_loc dX10_add_32 rfl rfl ?_
    refine l_gi dX10_add_33 fl_9_20 (fun v12 => ?_)
    refine l_ic dX10_add_36 kI_1 ?_
    refine l_pure dX10_add_37 rfl rfl ?_
    exact l_iretn dX10_add_38 rfl (by rfl)
  · refine l_ic dX10_add_7 kI_m1 ?_
    exact l_iretn dX10_add_8 rfl (by rfl)
set_option maxRecDepth 16000 in
theorem w_X5_takeShape (S : xS) (x0 : Nat) (x1 : Nat) (h : xH) : xle ((xGi h x1 5 4).bind fun v1 => (xP false 5 h x0 5 4 (.int v1)).bind fun h2 => (xGi h2 x1 5 5).bind fun v3 => (xP false 5 h2 x0 5 5 (.int v3)).bind fun h4 => (xGi h4 x1 5 6).bind fun v5 => (xP false 5 h4 x0 5 6 (.int v5)).bind fun h6 => (xGr h6 x1 5 1).bind fun v7 => (xGr h6 x0 5 1).bind fun v8 => (xCp h6 v7 (0 : Int32) v8 (0 : Int32) (64 : Int32)).bind fun h9 => some (.inl none, h9, 0, 0)) (xM S mX5_takeShape [.ref x0, .ref x1] h) := by
  show xle _ (xden S mX5_takeShape 0 [(0, .ref x0), (1, .ref x1)] [] h)
  refine l_loc dX5_takeShape_0 rfl rfl ?_
  refine l_loc dX5_takeShape_1 rfl rfl ?_
  refine l_gi dX5_takeShape_2 fl_5_45 (fun v1 => ?_)
  refine l_pf dX5_takeShape_5 fl_5_45 (ini := false) nm_mX5_takeShape (fun h2 => ?_)
  refine l_loc dX5_takeShape_8 rfl rfl ?_
  refine l_loc dX5_takeShape_9 rfl rfl ?_
  refine l_gi dX5_takeShape_10 fl_5_48 (fun v3 => ?_)
  refine l_pf dX5_takeShape_13 fl_5_48 (ini := false) nm_mX5_takeShape (fun h4 => ?_)
  refine l_loc dX5_takeShape_16 rfl rfl ?_
  refine l_loc dX5_takeShape_17 rfl rfl ?_
  refine l_gi dX5_takeShape_18 fl_5_23 (fun v5 => ?_)
  refine l_pf dX5_takeShape_21 fl_5_23 (ini := false) nm_mX5_takeShape (fun h6 => ?_)
  refine l_loc dX5_takeShape_24 rfl rfl ?_
  refine l_gr dX5_takeShape_25 fl_5_9 (fun v7 => ?_)
  refine l_ic dX5_takeShape_28 kI_0 ?_
  refine l_loc dX5_takeShape_29 rfl rfl ?_
  refine l_gr dX5_takeShape_30 fl_5_9 (fun v8 => ?_)
  refine l_ic dX5_takeShape_33 kI_0 ?_
  refine l_bi dX5_takeShape_34 kB_64 ?_
  refine l_cpy dX5_takeShape_36 rfl rfl rfl rfl (fun h9 => ?_)
  exact l_end dX5_takeShape_39 rfl rfl
set_option maxRecDepth 16000 in
theorem w_X10_drop (S : xS) (x0 : Nat) (x1 : Int32) (h : xH) : xle (if x1 < 0 then ((xGi h x0 9 1).bind fun v1 => some (.inl (some (.int v1)), h, 0, 0)) else ((xGi h x0 9 1).bind fun v2 => if v2 ≤ x1 then ((xGi h x0 9 1).bind fun v3 => some (.inl (some (.int v3)), h, 0, 0)) else ((xGr h x0 9 0).bind fun v4 => (xRr h v4 x1).bind fun v5 => (xden S mX10_drop 21 [(0, .ref x0), (2, .ref v5), (3, .int x1)] [] h)))) (xM S mX10_drop [.ref x0, .int x1] h) := by
  show xle _ (xden S mX10_drop 0 [(0, .ref x0), (1, .int x1)] [] h)
  refine l_loc dX10_drop_0 rfl rfl ?_
  refine l_ilt (t := 71) dX10_drop_1 rfl ?_ ?_
  · refine l_loc dX10_drop_71 rfl rfl ?_
    refine l_gi dX10_drop_72 fl_9_20 (fun v1 => ?_)
    exact l_iretn dX10_drop_75 rfl (by rfl)
  · refine l_loc dX10_drop_4 rfl rfl ?_
    refine l_loc dX10_drop_5 rfl rfl ?_
    refine l_gi dX10_drop_6 fl_9_20 (fun v2 => ?_)
    refine l_cge (t := 71) dX10_drop_9 rfl ?_ ?_
    · refine l_loc dX10_drop_71 rfl rfl ?_
      refine l_gi dX10_drop_72 fl_9_20 (fun v3 => ?_)
      exact l_iretn dX10_drop_75 rfl (by rfl)
    · refine l_loc dX10_drop_12 rfl rfl ?_
      refine l_gr dX10_drop_13 fl_9_11 (fun v4 => ?_)
      refine l_loc dX10_drop_16 rfl rfl ?_
      refine l_rr dX10_drop_17 (fun v5 => ?_)
      refine l_loc (al1 := [(2, .ref v5), (0, .ref x0), (1, .int x1)]) dX10_drop_18 rfl rfl ?_
      refine l_loc dX10_drop_19 rfl rfl ?_
      refine l_loc (al1 := [(3, .int x1), (2, .ref v5), (0, .ref x0), (1, .int x1)]) dX10_drop_20 rfl rfl ?_
      exact l_al rfl ⟨rfl, rfl, rfl, trivial⟩
set_option maxRecDepth 16000 in
theorem w_X10_drop_21 (S : xS) (x0 : Nat) (x2 : Nat) (x3 : Int32) (h : xH) : xle ((xGi h x0 9 1).bind fun v1 => if v1 ≤ (x3 + (1 : Int32)) then ((xGi h x0 9 1).bind fun v2 => (xP false 9 h x0 9 1 (.int (v2 - (1 : Int32)))).bind fun h3 => (xGr h3 x0 9 0).bind fun v4 => (xGi h3 x0 9 1).bind fun v5 => (xWr h3 v4 v5 x2).bind fun h6 => (xGi h6 x0 9 1).bind fun v7 => some (.inl (some (.int v7)), h6, 0, 0)) else ((xGr h x0 9 0).bind fun v8 => (xGr h x0 9 0).bind fun v9 => (xRr h v9 (x3 + (1 : Int32))).bind fun v10 => (xWr h v8 x3 v10).bind fun h11 => xlet (x3 + (1 : Int32)) fun v12 => (xden S mX10_drop 21 [(0, .ref x0), (2, .ref x2), (3, .int v12)] [] h11))) (xden S mX10_drop 21 [(0, .ref x0), (2, .ref x2), (3, .int x3)] [] h) := by
  refine l_loc dX10_drop_21 rfl rfl ?_
  refine l_ic dX10_drop_22 kI_1 ?_
  refine l_pure dX10_drop_23 rfl rfl ?_
  refine l_loc dX10_drop_24 rfl rfl ?_
  refine l_gi dX10_drop_25 fl_9_20 (fun v1 => ?_)
  refine l_cge (t := 51) dX10_drop_28 rfl ?_ ?_
  · refine l_loc dX10_drop_51 rfl rfl ?_
    refine l_pure dX10_drop_52 rfl rfl ?_
    refine l_gi dX10_drop_53 fl_9_20 (fun v2 => ?_)
    refine l_ic dX10_drop_56 kI_1 ?_
    refine l_pure dX10_drop_57 rfl rfl ?_
    refine l_pf dX10_drop_58 fl_9_20 (ini := false) nm_mX10_drop (fun h3 => ?_)
    refine l_loc dX10_drop_61 rfl rfl ?_
    refine l_gr dX10_drop_62 fl_9_11 (fun v4 => ?_)
    refine l_loc dX10_drop_65 rfl rfl ?_
    refine l_gi dX10_drop_66 fl_9_20 (fun v5 => ?_)
    refine l_loc dX10_drop_69 rfl rfl ?_
    refine l_wa dX10_drop_70 (fun h6 => ?_)
    refine l_loc dX10_drop_71 rfl rfl ?_
    refine l_gi dX10_drop_72 fl_9_20 (fun v7 => ?_)
    exact l_iretn dX10_drop_75 rfl (by rfl)
  · refine l_loc dX10_drop_31 rfl rfl ?_
    refine l_gr dX10_drop_32 fl_9_11 (fun v8 => ?_)
    refine l_loc dX10_drop_35 rfl rfl ?_
    refine l_loc dX10_drop_36 rfl rfl ?_
    refine l_gr dX10_drop_37 fl_9_11 (fun v9 => ?_)
    refine l_loc dX10_drop_40 rfl rfl ?_
    refine l_ic dX10_drop_41 kI_1 ?_
    refine l_pure dX10_drop_42 rfl rfl ?_
    refine l_rr dX10_drop_43 (fun v10 => ?_)
    refine l_wa dX10_drop_44 (fun h11 => ?_)
    refine l_incl (al1 := fun v12 => [(3, .int v12), (0, .ref x0), (2, .ref x2)]) dX10_drop_45 rfl kI_1 rfl (fun _ => rfl) (fun v12 => ?_)
    refine l_goto (t := 21) dX10_drop_48 rfl ?_
    exact l_al rfl ⟨rfl, rfl, rfl, trivial⟩

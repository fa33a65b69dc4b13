/-! ROWS OF METHODS, by program (wip/whole/wp.py, wpemit.py): each method as an expression -/
set_option maxRecDepth 16000 in
theorem w_X1_init (S : xS) (x0 : Nat) (x1 : Int32) (x2 : Int32) (h : xH) : xle (if x0 < h.length then xNa 0 (.inl (fun _ => 0)) (256 : Int32) h fun a1 h2 => (xP true 1 h2 x0 1 11 (.ref a1)).bind fun h3 => xNa 0 (.inl (fun _ => 0)) (256 : Int32) h3 fun a4 h5 => (xP true 1 h5 x0 1 12 (.ref a4)).bind fun h6 => xNa 0 (.inl (fun _ => 0)) (256 : Int32) h6 fun a7 h8 => (xP true 1 h8 x0 1 13 (.ref a7)).bind fun h9 => xNa 0 (.inl (fun _ => 0)) (256 : Int32) h9 fun a10 h11 => (xP true 1 h11 x0 1 14 (.ref a10)).bind fun h12 => xNa 6 (.inr (.inr (.inr (.inr (fun _ => none))))) (256 : Int32) h12 fun a13 h14 => (xP true 1 h14 x0 1 15 (.ref a13)).bind fun h15 => (xden S mX1_init 50 [(0, .ref x0), (1, .int x1), (2, .int x2)] [] h15) else none) (xM S mX1_init [.ref x0, .int x1, .int x2] h) := by
  show xle _ (xden S mX1_init 0 [(0, .ref x0), (1, .int x1), (2, .int x2)] [] h)
  refine l_loc dX1_init_0 rfl rfl ?_
  refine l_obi dX1_init_1 rfl rfl rfl ?_
  refine l_loc dX1_init_4 rfl rfl ?_
  refine l_si dX1_init_5 kS_256 ?_
  refine l_ni dX1_init_8 (fun a1 h2 => ?_)
  refine l_pf dX1_init_10 fl_1_9 (ini := true) nm_mX1_init (fun h3 => ?_)
  refine l_loc dX1_init_13 rfl rfl ?_
  refine l_si dX1_init_14 kS_256 ?_
  refine l_ni dX1_init_17 (fun a4 h5 => ?_)
  refine l_pf dX1_init_19 fl_1_15 (ini := true) nm_mX1_init (fun h6 => ?_)
  refine l_loc dX1_init_22 rfl rfl ?_
  refine l_si dX1_init_23 kS_256 ?_
  refine l_ni dX1_init_26 (fun a7 h8 => ?_)
  refine l_pf dX1_init_28 fl_1_18 (ini := true) nm_mX1_init (fun h9 => ?_)
  refine l_loc dX1_init_31 rfl rfl ?_
  refine l_si dX1_init_32 kS_256 ?_
  refine l_ni dX1_init_35 (fun a10 h11 => ?_)
  refine l_pf dX1_init_37 fl_1_21 (ini := true) nm_mX1_init (fun h12 => ?_)
  refine l_loc dX1_init_40 rfl rfl ?_
  refine l_si dX1_init_41 kS_256 ?_
  refine l_na (t := 6) dX1_init_44 rfl (fun a13 h14 => ?_)
  refine l_pf dX1_init_47 fl_1_26 (ini := true) nm_mX1_init (fun h15 => ?_)
  exact l_al rfl ⟨rfl, rfl, rfl, trivial⟩
set_option maxRecDepth 16000 in
theorem w_X1_init_50 (S : xS) (x0 : Nat) (x1 : Int32) (x2 : Int32) (h : xH) : xle (xNa 6 (.inr (.inr (.inr (.inr (fun _ => none))))) (256 : Int32) h fun a1 h2 => (xP true 1 h2 x0 1 16 (.ref a1)).bind fun h3 => xNa 5 (.inr (.inr (.inr (.inr (fun _ => none))))) (512 : Int32) h3 fun a4 h5 => (xP true 1 h5 x0 1 18 (.ref a4)).bind fun h6 => (xP true 1 h6 x0 1 0 (.int x1)).bind fun h7 => (xP true 1 h7 x0 1 1 (.int x2)).bind fun h8 => xNo 4 h8 fun a9 h10 => xqC (xM S mX4_init [.ref a9, .int x1, .int x2] h10) fun h11 => (xP true 1 h11 x0 1 2 (.ref a9)).bind fun h12 => (xden S mX1_init 93 [(0, .ref x0), (1, .int x1), (2, .int x2)] [] h12)) (xden S mX1_init 50 [(0, .ref x0), (1, .int x1), (2, .int x2)] [] h) := by
  refine l_loc dX1_init_50 rfl rfl ?_
  refine l_si dX1_init_51 kS_256 ?_
  refine l_na (t := 6) dX1_init_54 rfl (fun a1 h2 => ?_)
  refine l_pf dX1_init_57 fl_1_30 (ini := true) nm_mX1_init (fun h3 => ?_)
  refine l_loc dX1_init_60 rfl rfl ?_
  refine l_si dX1_init_61 kS_512 ?_
  refine l_na (t := 5) dX1_init_64 rfl (fun a4 h5 => ?_)
  refine l_pf dX1_init_67 fl_1_35 (ini := true) nm_mX1_init (fun h6 => ?_)
  refine l_loc dX1_init_70 rfl rfl ?_
  refine l_loc dX1_init_71 rfl rfl ?_
  refine l_pf dX1_init_72 fl_1_39 (ini := true) nm_mX1_init (fun h7 => ?_)
  refine l_loc dX1_init_75 rfl rfl ?_
  refine l_loc dX1_init_76 rfl rfl ?_
  refine l_pf dX1_init_77 fl_1_43 (ini := true) nm_mX1_init (fun h8 => ?_)
  refine l_loc dX1_init_80 rfl rfl ?_
  refine l_new (c := 4) dX1_init_81 rfl (fun a9 h10 _ _ => ?_)
  refine l_pure dX1_init_84 rfl rfl ?_
  refine l_loc dX1_init_85 rfl rfl ?_
  refine l_loc dX1_init_86 rfl rfl ?_
  refine l_cC dX1_init_87 rfl rfl rfl (l_xi cl_1_48 ko_mX4_init rfl rfl rfl) rfl rfl (fun h11 => ?_)
  refine l_pf dX1_init_90 fl_1_51 (ini := true) nm_mX1_init (fun h12 => ?_)
  exact l_al rfl ⟨rfl, rfl, rfl, trivial⟩
set_option maxRecDepth 16000 in
theorem w_X1_init_93 (S : xS) (x0 : Nat) (x1 : Int32) (x2 : Int32) (h : xH) : xle (xNo 4 h fun a1 h2 => xqC (xM S mX4_init [.ref a1, .int x1, .int x2] h2) fun h3 => (xP true 1 h3 x0 1 3 (.ref a1)).bind fun h4 => xNo 4 h4 fun a5 h6 => xqC (xM S mX4_init [.ref a5, .int x1, .int x2] h6) fun h7 => (xP true 1 h7 x0 1 4 (.ref a5)).bind fun h8 => xNo 4 h8 fun a9 h10 => xqC (xM S mX4_init [.ref a9, .int x1, .int x2] h10) fun h11 => (xP true 1 h11 x0 1 5 (.ref a9)).bind fun h12 => (xden S mX1_init 132 [(0, .ref x0), (1, .int x1), (2, .int x2)] [] h12)) (xden S mX1_init 93 [(0, .ref x0), (1, .int x1), (2, .int x2)] [] h) := by
  refine l_loc dX1_init_93 rfl rfl ?_
  refine l_new (c := 4) dX1_init_94 rfl (fun a1 h2 _ _ => ?_)
  refine l_pure dX1_init_97 rfl rfl ?_
  refine l_loc dX1_init_98 rfl rfl ?_
  refine l_loc dX1_init_99 rfl rfl ?_
  refine l_cC dX1_init_100 rfl rfl rfl (l_xi cl_1_48 ko_mX4_init rfl rfl rfl) rfl rfl (fun h3 => ?_)
  refine l_pf dX1_init_103 fl_1_55 (ini := true) nm_mX1_init (fun h4 => ?_)
  refine l_loc dX1_init_106 rfl rfl ?_
  refine l_new (c := 4) dX1_init_107 rfl (fun a5 h6 _ _ => ?_)
  refine l_pure dX1_init_110 rfl rfl ?_
  refine l_loc dX1_init_111 rfl rfl ?_
  refine l_loc dX1_init_112 rfl rfl ?_
  refine l_cC dX1_init_113 rfl rfl rfl (l_xi cl_1_48 ko_mX4_init rfl rfl rfl) rfl rfl (fun h7 => ?_)
  refine l_pf dX1_init_116 fl_1_58 (ini := true) nm_mX1_init (fun h8 => ?_)
  refine l_loc dX1_init_119 rfl rfl ?_
  refine l_new (c := 4) dX1_init_120 rfl (fun a9 h10 _ _ => ?_)
  refine l_pure dX1_init_123 rfl rfl ?_
  refine l_loc dX1_init_124 rfl rfl ?_
  refine l_loc dX1_init_125 rfl rfl ?_
  refine l_cC dX1_init_126 rfl rfl rfl (l_xi cl_1_48 ko_mX4_init rfl rfl rfl) rfl rfl (fun h11 => ?_)
  refine l_pf dX1_init_129 fl_1_61 (ini := true) nm_mX1_init (fun h12 => ?_)
  exact l_al rfl ⟨rfl, rfl, rfl, trivial⟩
set_option maxRecDepth 16000 in
theorem w_X1_init_132 (S : xS) (x0 : Nat) (x1 : Int32) (x2 : Int32) (h : xH) : xle (xNo 4 h fun a1 h2 => xqC (xM S mX4_init [.ref a1, .int x1, .int x2] h2) fun h3 => (xP true 1 h3 x0 1 6 (.ref a1)).bind fun h4 => xNo 8 h4 fun a5 h6 => xqC (xM S mX8_init [.ref a5, .int x1, .int x2] h6) fun h7 => (xP true 1 h7 x0 1 7 (.ref a5)).bind fun h8 => (xP true 1 h8 x0 1 8 (.int (8 : Int32))).bind fun h9 => some (.inl none, h9, 0, 0)) (xden S mX1_init 132 [(0, .ref x0), (1, .int x1), (2, .int x2)] [] h) := by
  refine l_loc dX1_init_132 rfl rfl ?_
  refine l_new (c := 4) dX1_init_133 rfl (fun a1 h2 _ _ => ?_)
  refine l_pure dX1_init_136 rfl rfl ?_
  refine l_loc dX1_init_137 rfl rfl ?_
  refine l_loc dX1_init_138 rfl rfl ?_
  refine l_cC dX1_init_139 rfl rfl rfl (l_xi cl_1_48 ko_mX4_init rfl rfl rfl) rfl rfl (fun h3 => ?_)
  refine l_pf dX1_init_142 fl_1_64 (ini := true) nm_mX1_init (fun h4 => ?_)
  refine l_loc dX1_init_145 rfl rfl ?_
  refine l_new (c := 8) dX1_init_146 rfl (fun a5 h6 _ _ => ?_)
  refine l_pure dX1_init_149 rfl rfl ?_
  refine l_loc dX1_init_150 rfl rfl ?_
  refine l_loc dX1_init_151 rfl rfl ?_
  refine l_cC dX1_init_152 rfl rfl rfl (l_xi cl_1_69 ko_mX8_init rfl rfl rfl) rfl rfl (fun h7 => ?_)
  refine l_pf dX1_init_155 fl_1_70 (ini := true) nm_mX1_init (fun h8 => ?_)
  refine l_loc dX1_init_158 rfl rfl ?_
  refine l_bi dX1_init_159 kB_8 ?_
  refine l_pf dX1_init_161 fl_1_74 (ini := true) nm_mX1_init (fun h9 => ?_)
  exact l_end dX1_init_164 rfl rfl
set_option maxRecDepth 16000 in
theorem w_X1_clean (S : xS) (x0 : Nat) (x1 : Nat) (x2 : Nat) (x3 : Nat) (x4 : Nat) (h : xH) : xle (if xOb h x4 2 = true then xqI (xM S mX2_valueOf [.ref x4, .retAddr 3] h) xth fun v3 h2 => (xGr h2 x0 1 2).bind fun v4 => if xOb h2 v4 4 = true then xqV (xM S mX4_takeFrom [.ref v4, .ref x1] h2) xth fun h6 => (xGr h6 x0 1 2).bind fun v8 => if xOb h6 x3 0 = true then xqI (xM S mX0_strip [.ref x3, .ref v8, .int v3] h6) xth fun v11 h10 => (xGr h10 x0 1 3).bind fun v12 => if xOb h10 v12 4 = true then xqV (xM S mX4_takeFrom [.ref v12, .ref x2] h10) xth fun h14 => (xGr h14 x0 1 3).bind fun v16 => if xOb h14 x3 0 = true then xqI (xM S mX0_strip [.ref x3, .ref v16, .int v3] h14) xth fun v19 h18 => some (.inl none, h18, 0, 0) else none else none else none else none else none) (xM S mX1_clean [.ref x0, .ref x1, .ref x2, .ref x3, .ref x4] h) := by
  show xle _ (xden S mX1_clean 0 [(0, .ref x0), (1, .ref x1), (2, .ref x2), (3, .ref x3), (4, .ref x4)] [] h)
  refine l_loc dX1_clean_0 rfl rfl ?_
  refine l_rd (st1 := [.retAddr 3, .ref x4]) dX1_clean_2 rfl rfl ?_
  refine l_ob fun q1 => ?_
  refine l_cI dX1_clean_5 rfl rfl rfl (l_xv cl_1_83 ko_mX2_valueOf rfl rfl rfl q1) rfl rfl nm_mX2_valueOf (xhE_th rfl) (fun v3 h2 => ?_)
  refine l_loc (al1 := [(5, .int v3), (0, .ref x0), (1, .ref x1), (2, .ref x2), (3, .ref x3), (4, .ref x4)]) dX1_clean_8 rfl rfl ?_
  refine l_loc dX1_clean_10 rfl rfl ?_
  refine l_gr dX1_clean_11 fl_1_51 (fun v4 => ?_)
  refine l_loc dX1_clean_14 rfl rfl ?_
  refine l_ob fun q5 => ?_
  refine l_cV dX1_clean_15 rfl rfl rfl (l_xv cl_1_89 ko_mX4_takeFrom rfl rfl rfl q5) rfl rfl nm_mX4_takeFrom (xhE_th rfl) (fun h6 => ?_)
  refine l_loc dX1_clean_18 rfl rfl ?_
  refine l_loc dX1_clean_19 rfl rfl ?_
  refine l_gr dX1_clean_20 fl_1_51 (fun v8 => ?_)
  refine l_loc dX1_clean_23 rfl rfl ?_
  refine l_ob fun q9 => ?_
  refine l_cI dX1_clean_25 rfl rfl rfl (l_xv cl_1_93 ko_mX0_strip rfl rfl rfl q9) rfl rfl nm_mX0_strip (xhE_th rfl) (fun v11 h10 => ?_)
  refine l_pure dX1_clean_28 rfl rfl ?_
  refine l_loc dX1_clean_29 rfl rfl ?_
  refine l_gr dX1_clean_30 fl_1_55 (fun v12 => ?_)
  refine l_loc dX1_clean_33 rfl rfl ?_
  refine l_ob fun q13 => ?_
  refine l_cV dX1_clean_34 rfl rfl rfl (l_xv cl_1_89 ko_mX4_takeFrom rfl rfl rfl q13) rfl rfl nm_mX4_takeFrom (xhE_th rfl) (fun h14 => ?_)
  refine l_loc dX1_clean_37 rfl rfl ?_
  refine l_loc dX1_clean_38 rfl rfl ?_
  refine l_gr dX1_clean_39 fl_1_55 (fun v16 => ?_)
  refine l_loc dX1_clean_42 rfl rfl ?_
  refine l_ob fun q17 => ?_
  refine l_cI dX1_clean_44 rfl rfl rfl (l_xv cl_1_93 ko_mX0_strip rfl rfl rfl q17) rfl rfl nm_mX0_strip (xhE_th rfl) (fun v19 h18 => ?_)
  refine l_pure dX1_clean_47 rfl rfl ?_
  exact l_end dX1_clean_48 rfl rfl
set_option maxRecDepth 16000 in
theorem w_X1_examine (S : xS) (x0 : Nat) (x1 : Nat) (x2 : Nat) (x3 : Nat) (h : xH) : xle ((xGr h x0 1 7).bind fun v1 => (xGr h x0 1 2).bind fun v2 => (xGr h x0 1 3).bind fun v3 => if xOb h x2 2 = true then xqI (xM S mX2_valueOf [.ref x2, .retAddr 4] h) xth fun v6 h5 => if xOb h5 x2 2 = true then xqI (xM S mX2_valueOf [.ref x2, .retAddr 5] h5) xth fun v9 h8 => if xOb h8 x2 2 = true then xqI (xM S mX2_valueOf [.ref x2, .retAddr 6] h8) xth fun v12 h11 => if ¬ v12 = (1 : Int32) then (xden S mX1_examine 42 [(0, .ref x0), (1, .ref x1), (2, .ref x2), (3, .ref x3)] [.int (0 : Int32), .int v9, .int v6, .ref v3, .ref v2, .ref v1] h11) else (xden S mX1_examine 42 [(0, .ref x0), (1, .ref x1), (2, .ref x2), (3, .ref x3)] [.int (1 : Int32), .int v9, .int v6, .ref v3, .ref v2, .ref v1] h11) else none else none else none) (xM S mX1_examine [.ref x0, .ref x1, .ref x2, .ref x3] h) := by
  show xle _ (xden S mX1_examine 0 [(0, .ref x0), (1, .ref x1), (2, .ref x2), (3, .ref x3)] [] h)
  refine l_loc dX1_examine_0 rfl rfl ?_
  refine l_gr dX1_examine_1 fl_1_70 (fun v1 => ?_)
  refine l_loc dX1_examine_4 rfl rfl ?_
  refine l_gr dX1_examine_5 fl_1_51 (fun v2 => ?_)
  refine l_loc dX1_examine_8 rfl rfl ?_
  refine l_gr dX1_examine_9 fl_1_55 (fun v3 => ?_)
  refine l_loc dX1_examine_12 rfl rfl ?_
  refine l_rd (st1 := [.retAddr 4, .ref x2, .ref v3, .ref v2, .ref v1]) dX1_examine_13 rfl rfl ?_
  refine l_ob fun q4 => ?_
  refine l_cI dX1_examine_16 rfl rfl rfl (l_xv cl_1_83 ko_mX2_valueOf rfl rfl rfl q4) rfl rfl nm_mX2_valueOf (xhE_th rfl) (fun v6 h5 => ?_)
  refine l_loc dX1_examine_19 rfl rfl ?_
  refine l_rd (st1 := [.retAddr 5, .ref x2, .int v6, .ref v3, .ref v2, .ref v1]) dX1_examine_20 rfl rfl ?_
  refine l_ob fun q7 => ?_
  refine l_cI dX1_examine_23 rfl rfl rfl (l_xv cl_1_83 ko_mX2_valueOf rfl rfl rfl q7) rfl rfl nm_mX2_valueOf (xhE_th rfl) (fun v9 h8 => ?_)
  refine l_loc dX1_examine_26 rfl rfl ?_
  refine l_rd (st1 := [.retAddr 6, .ref x2, .int v9, .int v6, .ref v3, .ref v2, .ref v1]) dX1_examine_27 rfl rfl ?_
  refine l_ob fun q10 => ?_
  refine l_cI dX1_examine_30 rfl rfl rfl (l_xv cl_1_83 ko_mX2_valueOf rfl rfl rfl q10) rfl rfl nm_mX2_valueOf (xhE_th rfl) (fun v12 h11 => ?_)
  refine l_ic dX1_examine_33 kI_1 ?_
  refine l_cne (t := 41) dX1_examine_34 rfl ?_ ?_
  · refine l_ic dX1_examine_41 kI_0 ?_
    exact l_al rfl ⟨rfl, rfl, rfl, rfl, trivial⟩
  · refine l_ic dX1_examine_37 kI_1 ?_
    refine l_goto (t := 42) dX1_examine_38 rfl ?_
    exact l_al rfl ⟨rfl, rfl, rfl, rfl, trivial⟩
set_option maxRecDepth 16000 in
theorem w_X1_examine_42 (S : xS) (x0 : Nat) (x1 : Nat) (x2 : Nat) (x3 : Nat) (z0 : Int32) (z1 : Int32) (z2 : Int32) (z3 : Nat) (z4 : Nat) (z5 : Nat) (h : xH) : xle (if xOb h z5 8 = true then xqV (xM S mX8_search [.ref z5, .ref z4, .ref z3, .int z2, .int z1, .int z0] h) xth fun h2 => (xGr h2 x0 1 4).bind fun v4 => (xGr h2 x0 1 7).bind fun v5 => (xGr h2 v5 8 3).bind fun v6 => (xGr h2 x0 1 7).bind fun v7 => (xGi h2 v7 8 6).bind fun v8 => (xGr h2 x0 1 7).bind fun v9 => (xGi h2 v9 8 7).bind fun v10 => if xOb h2 v4 4 = true then xqV (xM S mX4_drawMoved [.ref v4, .ref v6, .int (-v8), .int (-v10)] h2) xth fun h12 => if xOb h12 x2 2 = true then xqI (xM S mX2_valueOf [.ref x2, .retAddr 2] h12) xth fun v16 h15 => (xGr h15 x0 1 5).bind fun v17 => (xGr h15 x0 1 2).bind fun v18 => (xGr h15 x0 1 4).bind fun v19 => if xOb h15 v17 4 = true then xqV (xM S mX4_drawUnmatched [.ref v17, .ref v18, .ref v19, .int v16] h15) xth fun h21 => (xGr h21 x0 1 5).bind fun v23 => if xOb h21 v23 4 = true then xqV (xM S mX4_keepOnly [.ref v23, .ref x1] h21) xth fun h25 => (xGr h25 x0 1 6).bind fun v27 => (xGr h25 x0 1 4).bind fun v28 => (xGr h25 x0 1 2).bind fun v29 => if xOb h25 v27 4 = true then xqV (xM S mX4_drawUnmatched [.ref v27, .ref v28, .ref v29, .int v16] h25) xth fun h31 => (xGr h31 x0 1 6).bind fun v33 => if xOb h31 v33 4 = true then xqV (xM S mX4_keepOnly [.ref v33, .ref x1] h31) xth fun h35 => if xOb h35 x2 2 = true then xqI (xM S mX2_valueOf [.ref x2, .retAddr 0] h35) xth fun v39 h38 => if xOb h38 x0 1 = true then xqV (xM S mX1_measureBlocks [.ref x0, .int v39] h38) xth fun h41 => if xOb h41 x2 2 = true then xqI (xM S mX2_valueOf [.ref x2, .retAddr 1] h41) xth fun v45 h44 => (xGr h44 x0 1 12).bind fun v46 => if xOb h44 x0 1 = true then xqI (xM S mX1_group [.ref x0, .int v45, .ref v46] h44) xth fun v49 h48 => (xP false 1 h48 x0 1 17 (.int v49)).bind fun h50 => if xOb h50 x0 1 = true then xqV (xM S mX1_formRegions [.ref x0] h50) xth fun h52 => if xOb h52 x2 2 = true then xqI (xM S mX2_valueOf [.ref x2, .retAddr 7] h52) xth fun v56 h55 => if ¬ v56 = (1 : Int32) then (if xOb h55 x0 1 = true then xqV (xM S mX1_sortRegions [.ref x0, .int (0 : Int32)] h55) xth fun h58 => if xOb h58 x2 2 = true then xqI (xM S mX2_valueOf [.ref x2, .retAddr 8] h58) xth fun v62 h61 => if xOb h61 x0 1 = true then xqV (xM S mX1_pairParts [.ref x0, .int v62] h61) xth fun h64 => if xOb h64 x2 2 = true then xqI (xM S mX2_valueOf [.ref x2, .retAddr 9] h64) xth fun v68 h67 => if ¬ v68 = (1 : Int32) then (if xOb h67 x0 1 = true then xqV (xM S mX1_listChanges [.ref x0, .int (0 : Int32), .ref x3] h67) xth fun h70 => some (.inl none, h70, 0, 0) else none) else (if xOb h67 x0 1 = true then xqV (xM S mX1_listChanges [.ref x0, .int (1 : Int32), .ref x3] h67) xth fun h73 => some (.inl none, h73, 0, 0) else none) else none else none else none else none) else (if xOb h55 x0 1 = true then xqV (xM S mX1_sortRegions [.ref x0, .int (1 : Int32)] h55) xth fun h76 => if xOb h76 x2 2 = true then xqI (xM S mX2_valueOf [.ref x2, .retAddr 8] h76) xth fun v80 h79 => if xOb h79 x0 1 = true then xqV (xM S mX1_pairParts [.ref x0, .int v80] h79) xth fun h82 => if xOb h82 x2 2 = true then xqI (xM S mX2_valueOf [.ref x2, .retAddr 9] h82) xth fun v86 h85 => if ¬ v86 = (1 : Int32) then (if xOb h85 x0 1 = true then xqV (xM S mX1_listChanges [.ref x0, .int (0 : Int32), .ref x3] h85) xth fun h88 => some (.inl none, h88, 0, 0) else none) else (if xOb h85 x0 1 = true then xqV (xM S mX1_listChanges [.ref x0, .int (1 : Int32), .ref x3] h85) xth fun h91 => some (.inl none, h91, 0, 0) else none) else none else none else none else none) else none else none else none else none else none else none else none else none else none else none else none else none else none) (xden S mX1_examine 42 [(0, .ref x0), (1, .ref x1), (2, .ref x2), (3, .ref x3)] [.int z0, .int z1, .int z2, .ref z3, .ref z4, .ref z5] h) := by
  refine l_ob fun q1 => ?_
  refine l_cV dX1_examine_42 rfl rfl rfl (l_xv cl_1_108 ko_mX8_search rfl rfl rfl q1) rfl rfl nm_mX8_search (xhE_th rfl) (fun h2 => ?_)
  refine l_loc dX1_examine_45 rfl rfl ?_
  refine l_gr dX1_examine_46 fl_1_58 (fun v4 => ?_)
  refine l_loc dX1_examine_49 rfl rfl ?_
  refine l_gr dX1_examine_50 fl_1_70 (fun v5 => ?_)
  refine l_gr dX1_examine_53 fl_1_112 (fun v6 => ?_)
  refine l_loc dX1_examine_56 rfl rfl ?_
  refine l_gr dX1_examine_57 fl_1_70 (fun v7 => ?_)
  refine l_gi dX1_examine_60 fl_1_115 (fun v8 => ?_)
  refine l_pure dX1_examine_63 rfl rfl ?_
  refine l_loc dX1_examine_64 rfl rfl ?_
  refine l_gr dX1_examine_65 fl_1_70 (fun v9 => ?_)
  refine l_gi dX1_examine_68 fl_1_118 (fun v10 => ?_)
  refine l_pure dX1_examine_71 rfl rfl ?_
  refine l_ob fun q11 => ?_
  refine l_cV dX1_examine_72 rfl rfl rfl (l_xv cl_1_121 ko_mX4_drawMoved rfl rfl rfl q11) rfl rfl nm_mX4_drawMoved (xhE_th rfl) (fun h12 => ?_)
  refine l_loc dX1_examine_75 rfl rfl ?_
  refine l_rd (st1 := [.retAddr 2, .ref x2]) dX1_examine_76 rfl rfl ?_
  refine l_ob fun q14 => ?_
  refine l_cI dX1_examine_79 rfl rfl rfl (l_xv cl_1_83 ko_mX2_valueOf rfl rfl rfl q14) rfl rfl nm_mX2_valueOf (xhE_th rfl) (fun v16 h15 => ?_)
  refine l_loc (al1 := [(4, .int v16), (0, .ref x0), (1, .ref x1), (2, .ref x2), (3, .ref x3)]) dX1_examine_82 rfl rfl ?_
  refine l_loc dX1_examine_84 rfl rfl ?_
  refine l_gr dX1_examine_85 fl_1_61 (fun v17 => ?_)
  refine l_loc dX1_examine_88 rfl rfl ?_
  refine l_gr dX1_examine_89 fl_1_51 (fun v18 => ?_)
  refine l_loc dX1_examine_92 rfl rfl ?_
  refine l_gr dX1_examine_93 fl_1_58 (fun v19 => ?_)
  refine l_loc dX1_examine_96 rfl rfl ?_
  refine l_ob fun q20 => ?_
  refine l_cV dX1_examine_98 rfl rfl rfl (l_xv cl_1_128 ko_mX4_drawUnmatched rfl rfl rfl q20) rfl rfl nm_mX4_drawUnmatched (xhE_th rfl) (fun h21 => ?_)
  refine l_loc dX1_examine_101 rfl rfl ?_
  refine l_gr dX1_examine_102 fl_1_61 (fun v23 => ?_)
  refine l_loc dX1_examine_105 rfl rfl ?_
  refine l_ob fun q24 => ?_
  refine l_cV dX1_examine_106 rfl rfl rfl (l_xv cl_1_132 ko_mX4_keepOnly rfl rfl rfl q24) rfl rfl nm_mX4_keepOnly (xhE_th rfl) (fun h25 => ?_)
  refine l_loc dX1_examine_109 rfl rfl ?_
  refine l_gr dX1_examine_110 fl_1_64 (fun v27 => ?_)
  refine l_loc dX1_examine_113 rfl rfl ?_
  refine l_gr dX1_examine_114 fl_1_58 (fun v28 => ?_)
  refine l_loc dX1_examine_117 rfl rfl ?_
  refine l_gr dX1_examine_118 fl_1_51 (fun v29 => ?_)
  refine l_loc dX1_examine_121 rfl rfl ?_
  refine l_ob fun q30 => ?_
  refine l_cV dX1_examine_123 rfl rfl rfl (l_xv cl_1_128 ko_mX4_drawUnmatched rfl rfl rfl q30) rfl rfl nm_mX4_drawUnmatched (xhE_th rfl) (fun h31 => ?_)
  refine l_loc dX1_examine_126 rfl rfl ?_
  refine l_gr dX1_examine_127 fl_1_64 (fun v33 => ?_)
  refine l_loc dX1_examine_130 rfl rfl ?_
  refine l_ob fun q34 => ?_
  refine l_cV dX1_examine_131 rfl rfl rfl (l_xv cl_1_132 ko_mX4_keepOnly rfl rfl rfl q34) rfl rfl nm_mX4_keepOnly (xhE_th rfl) (fun h35 => ?_)
  refine l_loc dX1_examine_134 rfl rfl ?_
  refine l_loc dX1_examine_135 rfl rfl ?_
  refine l_rd (st1 := [.retAddr 0, .ref x2, .ref x0]) dX1_examine_136 rfl rfl ?_
  refine l_ob fun q37 => ?_
  refine l_cI dX1_examine_139 rfl rfl rfl (l_xv cl_1_83 ko_mX2_valueOf rfl rfl rfl q37) rfl rfl nm_mX2_valueOf (xhE_th rfl) (fun v39 h38 => ?_)
  refine l_ob fun q40 => ?_
  refine l_cV dX1_examine_142 rfl rfl rfl (l_xv cl_1_138 ko_mX1_measureBlocks rfl rfl rfl q40) rfl rfl nm_mX1_measureBlocks (xhE_th rfl) (fun h41 => ?_)
  refine l_loc dX1_examine_145 rfl rfl ?_
  refine l_loc dX1_examine_146 rfl rfl ?_
  refine l_loc dX1_examine_147 rfl rfl ?_
  refine l_rd (st1 := [.retAddr 1, .ref x2, .ref x0, .ref x0]) dX1_examine_148 rfl rfl ?_
  refine l_ob fun q43 => ?_
  refine l_cI dX1_examine_151 rfl rfl rfl (l_xv cl_1_83 ko_mX2_valueOf rfl rfl rfl q43) rfl rfl nm_mX2_valueOf (xhE_th rfl) (fun v45 h44 => ?_)
  refine l_loc dX1_examine_154 rfl rfl ?_
  refine l_gr dX1_examine_155 fl_1_15 (fun v46 => ?_)
  refine l_ob fun q47 => ?_
  refine l_cI dX1_examine_158 rfl rfl rfl (l_xv cl_1_145 ko_mX1_group rfl rfl rfl q47) rfl rfl nm_mX1_group (xhE_th rfl) (fun v49 h48 => ?_)
  refine l_pf dX1_examine_161 fl_1_149 (ini := false) nm_mX1_examine (fun h50 => ?_)
  refine l_loc dX1_examine_164 rfl rfl ?_
  refine l_ob fun q51 => ?_
  refine l_cV dX1_examine_165 rfl rfl rfl (l_xv cl_1_152 ko_mX1_formRegions rfl rfl rfl q51) rfl rfl nm_mX1_formRegions (xhE_th rfl) (fun h52 => ?_)
  refine l_loc dX1_examine_168 rfl rfl ?_
  refine l_loc dX1_examine_169 rfl rfl ?_
  refine l_rd (st1 := [.retAddr 7, .ref x2, .ref x0]) dX1_examine_170 rfl rfl ?_
  refine l_ob fun q54 => ?_
  refine l_cI dX1_examine_173 rfl rfl rfl (l_xv cl_1_83 ko_mX2_valueOf rfl rfl rfl q54) rfl rfl nm_mX2_valueOf (xhE_th rfl) (fun v56 h55 => ?_)
  refine l_ic dX1_examine_176 kI_1 ?_
  refine l_cne (t := 184) dX1_examine_177 rfl ?_ ?_
  · refine l_ic dX1_examine_184 kI_0 ?_
    refine l_ob fun q57 => ?_
    refine l_cV dX1_examine_185 rfl rfl rfl (l_xv cl_1_158 ko_mX1_sortRegions rfl rfl rfl q57) rfl rfl nm_mX1_sortRegions (xhE_th rfl) (fun h58 => ?_)
    refine l_loc dX1_examine_188 rfl rfl ?_
    refine l_loc dX1_examine_189 rfl rfl ?_
    refine l_rd (st1 := [.retAddr 8, .ref x2, .ref x0]) dX1_examine_190 rfl rfl ?_
    refine l_ob fun q60 => ?_
    refine l_cI dX1_examine_193 rfl rfl rfl (l_xv cl_1_83 ko_mX2_valueOf rfl rfl rfl q60) rfl rfl nm_mX2_valueOf (xhE_th rfl) (fun v62 h61 => ?_)
    refine l_ob fun q63 => ?_
    refine l_cV dX1_examine_196 rfl rfl rfl (l_xv cl_1_165 ko_mX1_pairParts rfl rfl rfl q63) rfl rfl nm_mX1_pairParts (xhE_th rfl) (fun h64 => ?_)
    refine l_loc dX1_examine_199 rfl rfl ?_
    refine l_loc dX1_examine_200 rfl rfl ?_
    refine l_rd (st1 := [.retAddr 9, .ref x2, .ref x0]) dX1_examine_201 rfl rfl ?_
    refine l_ob fun q66 => ?_
    refine l_cI dX1_examine_204 rfl rfl rfl (l_xv cl_1_83 ko_mX2_valueOf rfl rfl rfl q66) rfl rfl nm_mX2_valueOf (xhE_th rfl) (fun v68 h67 => ?_)
    refine l_ic dX1_examine_207 kI_1 ?_
    refine l_cne (t := 215) dX1_examine_208 rfl ?_ ?_
    · refine l_ic dX1_examine_215 kI_0 ?_
      refine l_loc dX1_examine_216 rfl rfl ?_
      refine l_ob fun q69 => ?_
      refine l_cV dX1_examine_217 rfl rfl rfl (l_xv cl_1_171 ko_mX1_listChanges rfl rfl rfl q69) rfl rfl nm_mX1_listChanges (xhE_th rfl) (fun h70 => ?_)
      exact l_end dX1_examine_220 rfl rfl
    · refine l_ic dX1_examine_211 kI_1 ?_
      refine l_goto (t := 216) dX1_examine_212 rfl ?_
      refine l_loc dX1_examine_216 rfl rfl ?_
      refine l_ob fun q72 => ?_
      refine l_cV dX1_examine_217 rfl rfl rfl (l_xv cl_1_171 ko_mX1_listChanges rfl rfl rfl q72) rfl rfl nm_mX1_listChanges (xhE_th rfl) (fun h73 => ?_)
      exact l_end dX1_examine_220 rfl rfl
  · refine l_ic dX1_examine_180 kI_1 ?_
    refine l_goto (t := 185) dX1_examine_181 rfl ?_
    refine l_ob fun q75 => ?_
    refine l_cV dX1_examine_185 rfl rfl rfl (l_xv cl_1_158 ko_mX1_sortRegions rfl rfl rfl q75) rfl rfl nm_mX1_sortRegions (xhE_th rfl) (fun h76 => ?_)
    refine l_loc dX1_examine_188 rfl rfl ?_
    refine l_loc dX1_examine_189 rfl rfl ?_
    refine l_rd (st1 := [.retAddr 8, .ref x2, .ref x0]) dX1_examine_190 rfl rfl ?_
    refine l_ob fun q78 => ?_
    refine l_cI dX1_examine_193 rfl rfl rfl (l_xv cl_1_83 ko_mX2_valueOf rfl rfl rfl q78) rfl rfl nm_mX2_valueOf (xhE_th rfl) (fun v80 h79 => ?_)
    refine l_ob fun q81 => ?_
    refine l_cV dX1_examine_196 rfl rfl rfl (l_xv cl_1_165 ko_mX1_pairParts rfl rfl rfl q81) rfl rfl nm_mX1_pairParts (xhE_th rfl) (fun h82 => ?_)
    refine l_loc dX1_examine_199 rfl rfl ?_
    refine l_loc dX1_examine_200 rfl rfl ?_
    refine l_rd (st1 := [.retAddr 9, .ref x2, .ref x0]) dX1_examine_201 rfl rfl ?_
    refine l_ob fun q84 => ?_
    refine l_cI dX1_examine_204 rfl rfl rfl (l_xv cl_1_83 ko_mX2_valueOf rfl rfl rfl q84) rfl rfl nm_mX2_valueOf (xhE_th rfl) (fun v86 h85 => ?_)
    refine l_ic dX1_examine_207 kI_1 ?_
    refine l_cne (t := 215) dX1_examine_208 rfl ?_ ?_
    · refine l_ic dX1_examine_215 kI_0 ?_
      refine l_loc dX1_examine_216 rfl rfl ?_
      refine l_ob fun q87 => ?_
      refine l_cV dX1_examine_217 rfl rfl rfl (l_xv cl_1_171 ko_mX1_listChanges rfl rfl rfl q87) rfl rfl nm_mX1_listChanges (xhE_th rfl) (fun h88 => ?_)
      exact l_end dX1_examine_220 rfl rfl
    · refine l_ic dX1_examine_211 kI_1 ?_
      refine l_goto (t := 216) dX1_examine_212 rfl ?_
      refine l_loc dX1_examine_216 rfl rfl ?_
      refine l_ob fun q90 => ?_
      refine l_cV dX1_examine_217 rfl rfl rfl (l_xv cl_1_171 ko_mX1_listChanges rfl rfl rfl q90) rfl rfl nm_mX1_listChanges (xhE_th rfl) (fun h91 => ?_)
      exact l_end dX1_examine_220 rfl rfl
set_option maxRecDepth 16000 in
theorem w_X1_measureBlocks (S : xS) (x0 : Nat) (x1 : Int32) (h : xH) : xle (xqI (xM S mJ9_max_7cf53 [.int (4 : Int32), .int x1] h) xth fun v2 h1 => (xP false 1 h1 x0 1 8 (.int v2)).bind fun h3 => (xGi h3 x0 1 0).bind fun v4 => (xGi h3 x0 1 8).bind fun v5 => (xGi h3 x0 1 8).bind fun v6 => if v6 = 0 then none else (xP false 1 h3 x0 1 9 (.int (((v4 + v5) - (1 : Int32)) / v6))).bind fun h7 => (xGi h7 x0 1 1).bind fun v8 => (xGi h7 x0 1 8).bind fun v9 => (xGi h7 x0 1 8).bind fun v10 => if v10 = 0 then none else (xP false 1 h7 x0 1 10 (.int (((v8 + v9) - (1 : Int32)) / v10))).bind fun h11 => (xden S mX1_measureBlocks 51 [(0, .ref x0), (2, .int (0 : Int32))] [] h11)) (xM S mX1_measureBlocks [.ref x0, .int x1] h) := by
  show xle _ (xden S mX1_measureBlocks 0 [(0, .ref x0), (1, .int x1)] [] h)
  refine l_loc dX1_measureBlocks_0 rfl rfl ?_
  refine l_ic dX1_measureBlocks_1 kI_4 ?_
  refine l_loc dX1_measureBlocks_2 rfl rfl ?_
  refine l_cI dX1_measureBlocks_3 rfl rfl rfl (l_xs cl_1_175 ko_mJ9_max_7cf53 rfl rfl) rfl rfl nm_mJ9_max_7cf53 (xhE_th rfl) (fun v2 h1 => ?_)
  refine l_pf dX1_measureBlocks_6 fl_1_74 (ini := false) nm_mX1_measureBlocks (fun h3 => ?_)
  refine l_loc dX1_measureBlocks_9 rfl rfl ?_
  refine l_loc dX1_measureBlocks_10 rfl rfl ?_
  refine l_gi dX1_measureBlocks_11 fl_1_39 (fun v4 => ?_)
  refine l_loc dX1_measureBlocks_14 rfl rfl ?_
  refine l_gi dX1_measureBlocks_15 fl_1_74 (fun v5 => ?_)
  refine l_pure dX1_measureBlocks_18 rfl rfl ?_
  refine l_ic dX1_measureBlocks_19 kI_1 ?_
  refine l_pure dX1_measureBlocks_20 rfl rfl ?_
  refine l_loc dX1_measureBlocks_21 rfl rfl ?_
  refine l_gi dX1_measureBlocks_22 fl_1_74 (fun v6 => ?_)
  refine l_div dX1_measureBlocks_25 ?_
  refine l_pf dX1_measureBlocks_26 fl_1_181 (ini := false) nm_mX1_measureBlocks (fun h7 => ?_)
  refine l_loc dX1_measureBlocks_29 rfl rfl ?_
  refine l_loc dX1_measureBlocks_30 rfl rfl ?_
  refine l_gi dX1_measureBlocks_31 fl_1_43 (fun v8 => ?_)
  refine l_loc dX1_measureBlocks_34 rfl rfl ?_
  refine l_gi dX1_measureBlocks_35 fl_1_74 (fun v9 => ?_)
  refine l_pure dX1_measureBlocks_38 rfl rfl ?_
  refine l_ic dX1_measureBlocks_39 kI_1 ?_
  refine l_pure dX1_measureBlocks_40 rfl rfl ?_
  refine l_loc dX1_measureBlocks_41 rfl rfl ?_
  refine l_gi dX1_measureBlocks_42 fl_1_74 (fun v10 => ?_)
  refine l_div dX1_measureBlocks_45 ?_
  refine l_pf dX1_measureBlocks_46 fl_1_184 (ini := false) nm_mX1_measureBlocks (fun h11 => ?_)
  refine l_ic dX1_measureBlocks_49 kI_0 ?_
  refine l_loc (al1 := [(2, .int (0 : Int32)), (0, .ref x0), (1, .int x1)]) dX1_measureBlocks_50 rfl rfl ?_
  exact l_al rfl ⟨rfl, rfl, trivial⟩
set_option maxRecDepth 16000 in
theorem w_X1_measureBlocks_51 (S : xS) (x0 : Nat) (x2 : Int32) (h : xH) : xle (if xOb h x0 1 = true then xqI (xM S mX1_blockCount [.ref x0] h) xth fun v3 h2 => if v3 ≤ x2 then (some (.inl none, h2, 0, 0)) else ((xGi h2 x0 1 9).bind fun v4 => xqI (xM S mJ9_max_7cf53 [.int (1 : Int32), .int v4] h2) xth fun v6 h5 => if v6 = 0 then none else (xGi h5 x0 1 8).bind fun v7 => xlet ((x2 - x2 / v6 * v6) * v7) fun v8 => (xGi h5 x0 1 9).bind fun v9 => xqI (xM S mJ9_max_7cf53 [.int (1 : Int32), .int v9] h5) xth fun v11 h10 => if v11 = 0 then none else (xGi h10 x0 1 8).bind fun v12 => xlet ((x2 / v11) * v12) fun v13 => (xGr h10 x0 1 11).bind fun v14 => (xGr h10 x0 1 5).bind fun v15 => (xGi h10 x0 1 8).bind fun v16 => (xGi h10 x0 1 8).bind fun v17 => if xOb h10 v15 4 = true then xqI (xM S mX4_inkWithin [.ref v15, .long (v8.toInt64), .long (v13.toInt64), .int v16, .int v17] h10) xth fun v20 h19 => (xGr h19 x0 1 6).bind fun v21 => (xGi h19 x0 1 8).bind fun v22 => (xGi h19 x0 1 8).bind fun v23 => if xOb h19 v21 4 = true then xqI (xM S mX4_inkWithin [.ref v21, .long (v8.toInt64), .long (v13.toInt64), .int v22, .int v23] h19) xth fun v26 h25 => (xWi h25 v14 x2 (v20 + v26)).bind fun h27 => xlet (x2 + (1 : Int32)) fun v28 => (xden S mX1_measureBlocks 51 [(0, .ref x0), (2, .int v28)] [] h27) else none else none) else none) (xden S mX1_measureBlocks 51 [(0, .ref x0), (2, .int x2)] [] h) := by
  refine l_loc dX1_measureBlocks_51 rfl rfl ?_
  refine l_loc dX1_measureBlocks_52 rfl rfl ?_
  refine l_ob fun q1 => ?_
  refine l_cI dX1_measureBlocks_53 rfl rfl rfl (l_xv cl_1_187 ko_mX1_blockCount rfl rfl rfl q1) rfl rfl nm_mX1_blockCount (xhE_th rfl) (fun v3 h2 => ?_)
  refine l_cge (t := 145) dX1_measureBlocks_56 rfl ?_ ?_
  · exact l_end dX1_measureBlocks_145 rfl rfl
  · refine l_loc dX1_measureBlocks_59 rfl rfl ?_
    refine l_ic dX1_measureBlocks_60 kI_1 ?_
    refine l_loc dX1_measureBlocks_61 rfl rfl ?_
    refine l_gi dX1_measureBlocks_62 fl_1_181 (fun v4 => ?_)
    refine l_cI dX1_measureBlocks_65 rfl rfl rfl (l_xs cl_1_175 ko_mJ9_max_7cf53 rfl rfl) rfl rfl nm_mJ9_max_7cf53 (xhE_th rfl) (fun v6 h5 => ?_)
    refine l_rem dX1_measureBlocks_68 ?_
    refine l_loc dX1_measureBlocks_69 rfl rfl ?_
    refine l_gi dX1_measureBlocks_70 fl_1_74 (fun v7 => ?_)
    refine l_pure dX1_measureBlocks_73 rfl rfl ?_
    refine l_isl (al1 := fun v8 => [(3, .int v8), (0, .ref x0), (2, .int x2)]) dX1_measureBlocks_74 rfl (fun _ => rfl) (fun v8 => ?_)
    refine l_loc dX1_measureBlocks_75 rfl rfl ?_
    refine l_ic dX1_measureBlocks_76 kI_1 ?_
    refine l_loc dX1_measureBlocks_77 rfl rfl ?_
    refine l_gi dX1_measureBlocks_78 fl_1_181 (fun v9 => ?_)
    refine l_cI dX1_measureBlocks_81 rfl rfl rfl (l_xs cl_1_175 ko_mJ9_max_7cf53 rfl rfl) rfl rfl nm_mJ9_max_7cf53 (xhE_th rfl) (fun v11 h10 => ?_)
    refine l_div dX1_measureBlocks_84 ?_
    refine l_loc dX1_measureBlocks_85 rfl rfl ?_
    refine l_gi dX1_measureBlocks_86 fl_1_74 (fun v12 => ?_)
    refine l_pure dX1_measureBlocks_89 rfl rfl ?_
    refine l_isl (al1 := fun v13 => [(4, .int v13), (3, .int v8), (0, .ref x0), (2, .int x2)]) dX1_measureBlocks_90 rfl (fun _ => rfl) (fun v13 => ?_)
    refine l_loc dX1_measureBlocks_92 rfl rfl ?_
    refine l_gr dX1_measureBlocks_93 fl_1_9 (fun v14 => ?_)
    refine l_loc dX1_measureBlocks_96 rfl rfl ?_
    refine l_loc dX1_measureBlocks_97 rfl rfl ?_
    refine l_gr dX1_measureBlocks_98 fl_1_61 (fun v15 => ?_)
    refine l_loc dX1_measureBlocks_101 rfl rfl ?_
    refine l_pure dX1_measureBlocks_102 rfl rfl ?_
    refine l_loc dX1_measureBlocks_103 rfl rfl ?_
    refine l_pure dX1_measureBlocks_105 rfl rfl ?_
    refine l_loc dX1_measureBlocks_106 rfl rfl ?_
    refine l_gi dX1_measureBlocks_107 fl_1_74 (fun v16 => ?_)
    refine l_loc dX1_measureBlocks_110 rfl rfl ?_
    refine l_gi dX1_measureBlocks_111 fl_1_74 (fun v17 => ?_)
    refine l_ob fun q18 => ?_
    refine l_cI dX1_measureBlocks_114 rfl rfl rfl (l_xv cl_1_191 ko_mX4_inkWithin rfl rfl rfl q18) rfl rfl nm_mX4_inkWithin (xhE_th rfl) (fun v20 h19 => ?_)
    refine l_loc dX1_measureBlocks_117 rfl rfl ?_
    refine l_gr dX1_measureBlocks_118 fl_1_64 (fun v21 => ?_)
    refine l_loc dX1_measureBlocks_121 rfl rfl ?_
    refine l_pure dX1_measureBlocks_122 rfl rfl ?_
    refine l_loc dX1_measureBlocks_123 rfl rfl ?_
    refine l_pure dX1_measureBlocks_125 rfl rfl ?_
    refine l_loc dX1_measureBlocks_126 rfl rfl ?_
    refine l_gi dX1_measureBlocks_127 fl_1_74 (fun v22 => ?_)
    refine l_loc dX1_measureBlocks_130 rfl rfl ?_
    refine l_gi dX1_measureBlocks_131 fl_1_74 (fun v23 => ?_)
    refine l_ob fun q24 => ?_
    refine l_cI dX1_measureBlocks_134 rfl rfl rfl (l_xv cl_1_191 ko_mX4_inkWithin rfl rfl rfl q24) rfl rfl nm_mX4_inkWithin (xhE_th rfl) (fun v26 h25 => ?_)
    refine l_pure dX1_measureBlocks_137 rfl rfl ?_
    refine l_wi dX1_measureBlocks_138 (fun h27 => ?_)
    refine l_incl (al1 := fun v28 => [(2, .int v28), (4, .int v13), (3, .int v8), (0, .ref x0)]) dX1_measureBlocks_139 rfl kI_1 rfl (fun _ => rfl) (fun v28 => ?_)
    refine l_goto (t := 51) dX1_measureBlocks_142 rfl ?_
    exact l_al rfl ⟨rfl, rfl, trivial⟩
set_option maxRecDepth 16000 in
theorem w_X1_blockCount (S : xS) (x0 : Nat) (h : xH) : xle ((xGi h x0 1 9).bind fun v1 => (xGi h x0 1 10).bind fun v2 => xqI (xM S mJ9_min_7cf53 [.int (256 : Int32), .int (v1 * v2)] h) xth fun v4 h3 => some (.inl (some (.int v4)), h3, 0, 0)) (xM S mX1_blockCount [.ref x0] h) := by
  show xle _ (xden S mX1_blockCount 0 [(0, .ref x0)] [] h)
  refine l_si dX1_blockCount_0 kS_256 ?_
  refine l_loc dX1_blockCount_3 rfl rfl ?_
  refine l_gi dX1_blockCount_4 fl_1_181 (fun v1 => ?_)
  refine l_loc dX1_blockCount_7 rfl rfl ?_
  refine l_gi dX1_blockCount_8 fl_1_184 (fun v2 => ?_)
  refine l_pure dX1_blockCount_11 rfl rfl ?_
  refine l_cI dX1_blockCount_12 rfl rfl rfl (l_xs cl_1_195 ko_mJ9_min_7cf53 rfl rfl) rfl rfl nm_mJ9_min_7cf53 (xhE_th rfl) (fun v4 h3 => ?_)
  exact l_iretn dX1_blockCount_15 rfl (by rfl)
set_option maxRecDepth 16000 in
theorem w_X1_group (S : xS) (x0 : Nat) (x1 : Int32) (x2 : Nat) (h : xH) : xle (if xOb h x0 1 = true then xqI (xM S mX1_blockCount [.ref x0] h) xth fun v3 h2 => (xden S mX1_group 8 [(0, .ref x0), (1, .int x1), (2, .ref x2), (3, .int v3), (4, .int (0 : Int32))] [] h2) else none) (xM S mX1_group [.ref x0, .int x1, .ref x2] h) := by
  show xle _ (xden S mX1_group 0 [(0, .ref x0), (1, .int x1), (2, .ref x2)] [] h)
  refine l_loc dX1_group_0 rfl rfl ?_
  refine l_ob fun q1 => ?_
  refine l_cI dX1_group_1 rfl rfl rfl (l_xv cl_1_187 ko_mX1_blockCount rfl rfl rfl q1) rfl rfl nm_mX1_blockCount (xhE_th rfl) (fun v3 h2 => ?_)
  refine l_loc (al1 := [(3, .int v3), (0, .ref x0), (1, .int x1), (2, .ref x2)]) dX1_group_4 rfl rfl ?_
  refine l_ic dX1_group_5 kI_0 ?_
  refine l_loc (al1 := [(4, .int (0 : Int32)), (3, .int v3), (0, .ref x0), (1, .int x1), (2, .ref x2)]) dX1_group_6 rfl rfl ?_
  exact l_al rfl ⟨rfl, rfl, rfl, rfl, rfl, trivial⟩
set_option maxRecDepth 16000 in
theorem w_X1_group_8 (S : xS) (x0 : Nat) (x1 : Int32) (x2 : Nat) (x3 : Int32) (x4 : Int32) (h : xH) : xle (if x3 ≤ x4 then (xden S mX1_group 31 [(0, .ref x0), (1, .int x1), (2, .ref x2), (3, .int x3), (4, .int (0 : Int32)), (5, .int (0 : Int32))] [] h) else ((xWi h x2 x4 (-1 : Int32)).bind fun h1 => xlet (x4 + (1 : Int32)) fun v2 => (xden S mX1_group 8 [(0, .ref x0), (1, .int x1), (2, .ref x2), (3, .int x3), (4, .int v2)] [] h1))) (xden S mX1_group 8 [(0, .ref x0), (1, .int x1), (2, .ref x2), (3, .int x3), (4, .int x4)] [] h) := by
  refine l_loc dX1_group_8 rfl rfl ?_
  refine l_loc dX1_group_10 rfl rfl ?_
  refine l_cge (t := 25) dX1_group_11 rfl ?_ ?_
  · refine l_ic dX1_group_25 kI_0 ?_
    refine l_loc (al1 := [(4, .int (0 : Int32)), (0, .ref x0), (1, .int x1), (2, .ref x2), (3, .int x3)]) dX1_group_26 rfl rfl ?_
    refine l_ic dX1_group_28 kI_0 ?_
    refine l_loc (al1 := [(5, .int (0 : Int32)), (4, .int (0 : Int32)), (0, .ref x0), (1, .int x1), (2, .ref x2), (3, .int x3)]) dX1_group_29 rfl rfl ?_
    exact l_al rfl ⟨rfl, rfl, rfl, rfl, rfl, rfl, trivial⟩
  · refine l_loc dX1_group_14 rfl rfl ?_
    refine l_loc dX1_group_15 rfl rfl ?_
    refine l_ic dX1_group_17 kI_m1 ?_
    refine l_wi dX1_group_18 (fun h1 => ?_)
    refine l_incl (al1 := fun v2 => [(4, .int v2), (0, .ref x0), (1, .int x1), (2, .ref x2), (3, .int x3)]) dX1_group_19 rfl kI_1 rfl (fun _ => rfl) (fun v2 => ?_)
    refine l_goto (t := 8) dX1_group_22 rfl ?_
    exact l_al rfl ⟨rfl, rfl, rfl, rfl, rfl, trivial⟩
set_option maxRecDepth 16000 in
theorem w_X1_group_31 (S : xS) (x0 : Nat) (x1 : Int32) (x2 : Nat) (x3 : Int32) (x4 : Int32) (x5 : Int32) (h : xH) : xle (if x3 ≤ x5 then (some (.inl (some (.int x4)), h, 0, 0)) else ((xRi h 0 x2 x5).bind fun v1 => if 0 ≤ v1 then (xlet (x5 + (1 : Int32)) fun v2 => (xden S mX1_group 31 [(0, .ref x0), (1, .int x1), (2, .ref x2), (3, .int x3), (4, .int x4), (5, .int v2)] [] h)) else ((xGr h x0 1 11).bind fun v3 => (xRi h 0 v3 x5).bind fun v4 => if v4 ≤ x1 then (xlet (x5 + (1 : Int32)) fun v5 => (xden S mX1_group 31 [(0, .ref x0), (1, .int x1), (2, .ref x2), (3, .int x3), (4, .int x4), (5, .int v5)] [] h)) else (if xOb h x0 1 = true then xqV (xM S mX1_mark [.ref x0, .int x5, .int x4, .int x1, .ref x2] h) xth fun h7 => xlet (x4 + (1 : Int32)) fun v9 => xlet (x5 + (1 : Int32)) fun v10 => (xden S mX1_group 31 [(0, .ref x0), (1, .int x1), (2, .ref x2), (3, .int x3), (4, .int v9), (5, .int v10)] [] h7) else none)))) (xden S mX1_group 31 [(0, .ref x0), (1, .int x1), (2, .ref x2), (3, .int x3), (4, .int x4), (5, .int x5)] [] h) := by
  refine l_loc dX1_group_31 rfl rfl ?_
  refine l_loc dX1_group_33 rfl rfl ?_
  refine l_cge (t := 74) dX1_group_34 rfl ?_ ?_
  · refine l_loc dX1_group_74 rfl rfl ?_
    exact l_iretn dX1_group_76 rfl (by rfl)
  · refine l_loc dX1_group_37 rfl rfl ?_
    refine l_loc dX1_group_38 rfl rfl ?_
    refine l_ri dX1_group_40 (fun v1 => ?_)
    refine l_ige (t := 68) dX1_group_41 rfl ?_ ?_
    · refine l_incl (al1 := fun v2 => [(5, .int v2), (0, .ref x0), (1, .int x1), (2, .ref x2), (3, .int x3), (4, .int x4)]) dX1_group_68 rfl kI_1 rfl (fun _ => rfl) (fun v2 => ?_)
      refine l_goto (t := 31) dX1_group_71 rfl ?_
      exact l_al rfl ⟨rfl, rfl, rfl, rfl, rfl, rfl, trivial⟩
    · refine l_loc dX1_group_44 rfl rfl ?_
      refine l_gr dX1_group_45 fl_1_9 (fun v3 => ?_)
      refine l_loc dX1_group_48 rfl rfl ?_
      refine l_ri dX1_group_50 (fun v4 => ?_)
      refine l_loc dX1_group_51 rfl rfl ?_
      refine l_cle (t := 68) dX1_group_52 rfl ?_ ?_
      · refine l_incl (al1 := fun v5 => [(5, .int v5), (0, .ref x0), (1, .int x1), (2, .ref x2), (3, .int x3), (4, .int x4)]) dX1_group_68 rfl kI_1 rfl (fun _ => rfl) (fun v5 => ?_)
        refine l_goto (t := 31) dX1_group_71 rfl ?_
        exact l_al rfl ⟨rfl, rfl, rfl, rfl, rfl, rfl, trivial⟩
      · refine l_loc dX1_group_55 rfl rfl ?_
        refine l_loc dX1_group_56 rfl rfl ?_
        refine l_loc dX1_group_58 rfl rfl ?_
        refine l_loc dX1_group_60 rfl rfl ?_
        refine l_loc dX1_group_61 rfl rfl ?_
        refine l_ob fun q6 => ?_
        refine l_cV dX1_group_62 rfl rfl rfl (l_xv cl_1_198 ko_mX1_mark rfl rfl rfl q6) rfl rfl nm_mX1_mark (xhE_th rfl) (fun h7 => ?_)
        refine l_incl (al1 := fun v9 => [(4, .int v9), (0, .ref x0), (1, .int x1), (2, .ref x2), (3, .int x3), (5, .int x5)]) dX1_group_65 rfl kI_1 rfl (fun _ => rfl) (fun v9 => ?_)
        refine l_incl (al1 := fun v10 => [(5, .int v10), (4, .int v9), (0, .ref x0), (1, .int x1), (2, .ref x2), (3, .int x3)]) dX1_group_68 rfl kI_1 rfl (fun _ => rfl) (fun v10 => ?_)
        refine l_goto (t := 31) dX1_group_71 rfl ?_
        exact l_al rfl ⟨rfl, rfl, rfl, rfl, rfl, rfl, trivial⟩
set_option maxRecDepth 16000 in
theorem w_X1_mark (S : xS) (x0 : Nat) (x1 : Int32) (x2 : Int32) (x3 : Int32) (x4 : Nat) (h : xH) : xle (if xOb h x0 1 = true then xqI (xM S mX1_join [.ref x0, .int x1, .int x2, .int x3, .ref x4, .int (0 : Int32)] h) xth fun v3 h2 => (xden S mX1_mark 15 [(0, .ref x0), (2, .int x2), (3, .int x3), (4, .ref x4), (5, .int v3), (6, .int (0 : Int32))] [] h2) else none) (xM S mX1_mark [.ref x0, .int x1, .int x2, .int x3, .ref x4] h) := by
  show xle _ (xden S mX1_mark 0 [(0, .ref x0), (1, .int x1), (2, .int x2), (3, .int x3), (4, .ref x4)] [] h)
  refine l_loc dX1_mark_0 rfl rfl ?_
  refine l_loc dX1_mark_1 rfl rfl ?_
  refine l_loc dX1_mark_2 rfl rfl ?_
  refine l_loc dX1_mark_3 rfl rfl ?_
  refine l_loc dX1_mark_4 rfl rfl ?_
  refine l_ic dX1_mark_6 kI_0 ?_
  refine l_ob fun q1 => ?_
  refine l_cI dX1_mark_7 rfl rfl rfl (l_xv cl_1_202 ko_mX1_join rfl rfl rfl q1) rfl rfl nm_mX1_join (xhE_th rfl) (fun v3 h2 => ?_)
  refine l_loc (al1 := [(5, .int v3), (0, .ref x0), (1, .int x1), (2, .int x2), (3, .int x3), (4, .ref x4)]) dX1_mark_10 rfl rfl ?_
  refine l_ic dX1_mark_12 kI_0 ?_
  refine l_loc (al1 := [(6, .int (0 : Int32)), (5, .int v3), (0, .ref x0), (1, .int x1), (2, .int x2), (3, .int x3), (4, .ref x4)]) dX1_mark_13 rfl rfl ?_
  exact l_al rfl ⟨rfl, rfl, rfl, rfl, rfl, rfl, trivial⟩
set_option maxRecDepth 16000 in
theorem w_X1_mark_15 (S : xS) (x0 : Nat) (x2 : Int32) (x3 : Int32) (x4 : Nat) (x5 : Int32) (x6 : Int32) (h : xH) : xle (if x5 ≤ 0 then (some (.inl none, h, 0, 0)) else (if (256 : Int32) ≤ x6 then (some (.inl none, h, 0, 0)) else (xlet (x5 + (-1 : Int32)) fun v1 => (xGr h x0 1 14).bind fun v2 => (xRi h 0 v2 v1).bind fun v3 => (xGi h x0 1 9).bind fun v4 => xqI (xM S mJ9_max_7cf53 [.int (1 : Int32), .int v4] h) xth fun v6 h5 => if v6 = 0 then none else xlet (v3 - v3 / v6 * v6) fun v7 => if v7 ≤ 0 then ((xGi h5 x0 1 9).bind fun v8 => if v8 ≤ (v7 + (1 : Int32)) then ((xGi h5 x0 1 9).bind fun v9 => if xOb h5 x0 1 = true then xqI (xM S mX1_join [.ref x0, .int (v3 - v9), .int x2, .int x3, .ref x4, .int v1] h5) xth fun v12 h11 => (xGi h11 x0 1 9).bind fun v13 => if xOb h11 x0 1 = true then xqI (xM S mX1_join [.ref x0, .int (v3 + v13), .int x2, .int x3, .ref x4, .int v12] h11) xth fun v16 h15 => xlet (x6 + (1 : Int32)) fun v17 => (xden S mX1_mark 15 [(0, .ref x0), (2, .int x2), (3, .int x3), (4, .ref x4), (5, .int v16), (6, .int v17)] [] h15) else none else none) else (if xOb h5 x0 1 = true then xqI (xM S mX1_join [.ref x0, .int (v3 + (1 : Int32)), .int x2, .int x3, .ref x4, .int v1] h5) xth fun v20 h19 => (xGi h19 x0 1 9).bind fun v21 => if xOb h19 x0 1 = true then xqI (xM S mX1_join [.ref x0, .int (v3 - v21), .int x2, .int x3, .ref x4, .int v20] h19) xth fun v24 h23 => (xGi h23 x0 1 9).bind fun v25 => if xOb h23 x0 1 = true then xqI (xM S mX1_join [.ref x0, .int (v3 + v25), .int x2, .int x3, .ref x4, .int v24] h23) xth fun v28 h27 => xlet (x6 + (1 : Int32)) fun v29 => (xden S mX1_mark 15 [(0, .ref x0), (2, .int x2), (3, .int x3), (4, .ref x4), (5, .int v28), (6, .int v29)] [] h27) else none else none else none)) else (if xOb h5 x0 1 = true then xqI (xM S mX1_join [.ref x0, .int (v3 - (1 : Int32)), .int x2, .int x3, .ref x4, .int v1] h5) xth fun v32 h31 => (xGi h31 x0 1 9).bind fun v33 => if v33 ≤ (v7 + (1 : Int32)) then ((xGi h31 x0 1 9).bind fun v34 => if xOb h31 x0 1 = true then xqI (xM S mX1_join [.ref x0, .int (v3 - v34), .int x2, .int x3, .ref x4, .int v32] h31) xth fun v37 h36 => (xGi h36 x0 1 9).bind fun v38 => if xOb h36 x0 1 = true then xqI (xM S mX1_join [.ref x0, .int (v3 + v38), .int x2, .int x3, .ref x4, .int v37] h36) xth fun v41 h40 => xlet (x6 + (1 : Int32)) fun v42 => (xden S mX1_mark 15 [(0, .ref x0), (2, .int x2), (3, .int x3), (4, .ref x4), (5, .int v41), (6, .int v42)] [] h40) else none else none) else (if xOb h31 x0 1 = true then xqI (xM S mX1_join [.ref x0, .int (v3 + (1 : Int32)), .int x2, .int x3, .ref x4, .int v32] h31) xth fun v45 h44 => (xGi h44 x0 1 9).bind fun v46 => if xOb h44 x0 1 = true then xqI (xM S mX1_join [.ref x0, .int (v3 - v46), .int x2, .int x3, .ref x4, .int v45] h44) xth fun v49 h48 => (xGi h48 x0 1 9).bind fun v50 => if xOb h48 x0 1 = true then xqI (xM S mX1_join [.ref x0, .int (v3 + v50), .int x2, .int x3, .ref x4, .int v49] h48) xth fun v53 h52 => xlet (x6 + (1 : Int32)) fun v54 => (xden S mX1_mark 15 [(0, .ref x0), (2, .int x2), (3, .int x3), (4, .ref x4), (5, .int v53), (6, .int v54)] [] h52) else none else none else none) else none)))) (xden S mX1_mark 15 [(0, .ref x0), (2, .int x2), (3, .int x3), (4, .ref x4), (5, .int x5), (6, .int x6)] [] h) := by
  refine l_loc dX1_mark_15 rfl rfl ?_
  refine l_ile (t := 145) dX1_mark_17 rfl ?_ ?_
  · exact l_end dX1_mark_145 rfl rfl
  · refine l_loc dX1_mark_20 rfl rfl ?_
    refine l_si dX1_mark_22 kS_256 ?_
    refine l_cge (t := 145) dX1_mark_25 rfl ?_ ?_
    · exact l_end dX1_mark_145 rfl rfl
    · refine l_incl (al1 := fun v1 => [(5, .int v1), (0, .ref x0), (2, .int x2), (3, .int x3), (4, .ref x4), (6, .int x6)]) dX1_mark_28 rfl kI_m1 rfl (fun _ => rfl) (fun v1 => ?_)
      refine l_loc dX1_mark_31 rfl rfl ?_
      refine l_gr dX1_mark_32 fl_1_21 (fun v2 => ?_)
      refine l_loc dX1_mark_35 rfl rfl ?_
      refine l_ri dX1_mark_37 (fun v3 => ?_)
      refine l_loc (al1 := [(7, .int v3), (5, .int v1), (0, .ref x0), (2, .int x2), (3, .int x3), (4, .ref x4), (6, .int x6)]) dX1_mark_38 rfl rfl ?_
      refine l_loc dX1_mark_40 rfl rfl ?_
      refine l_ic dX1_mark_42 kI_1 ?_
      refine l_loc dX1_mark_43 rfl rfl ?_
      refine l_gi dX1_mark_44 fl_1_181 (fun v4 => ?_)
      refine l_cI dX1_mark_47 rfl rfl rfl (l_xs cl_1_175 ko_mJ9_max_7cf53 rfl rfl) rfl rfl nm_mJ9_max_7cf53 (xhE_th rfl) (fun v6 h5 => ?_)
      refine l_rem dX1_mark_50 ?_
      refine l_isl (al1 := fun v7 => [(8, .int v7), (7, .int v3), (5, .int v1), (0, .ref x0), (2, .int x2), (3, .int x3), (4, .ref x4), (6, .int x6)]) dX1_mark_51 rfl (fun _ => rfl) (fun v7 => ?_)
      refine l_loc dX1_mark_53 rfl rfl ?_
      refine l_ile (t := 74) dX1_mark_55 rfl ?_ ?_
      · refine l_loc dX1_mark_74 rfl rfl ?_
        refine l_ic dX1_mark_76 kI_1 ?_
        refine l_pure dX1_mark_77 rfl rfl ?_
        refine l_loc dX1_mark_78 rfl rfl ?_
        refine l_gi dX1_mark_79 fl_1_181 (fun v8 => ?_)
        refine l_cge (t := 101) dX1_mark_82 rfl ?_ ?_
        · refine l_loc dX1_mark_101 rfl rfl ?_
          refine l_loc dX1_mark_102 rfl rfl ?_
          refine l_loc dX1_mark_104 rfl rfl ?_
          refine l_gi dX1_mark_105 fl_1_181 (fun v9 => ?_)
          refine l_pure dX1_mark_108 rfl rfl ?_
          refine l_loc dX1_mark_109 rfl rfl ?_
          refine l_loc dX1_mark_110 rfl rfl ?_
          refine l_loc dX1_mark_111 rfl rfl ?_
          refine l_loc dX1_mark_113 rfl rfl ?_
          refine l_ob fun q10 => ?_
          refine l_cI dX1_mark_115 rfl rfl rfl (l_xv cl_1_202 ko_mX1_join rfl rfl rfl q10) rfl rfl nm_mX1_join (xhE_th rfl) (fun v12 h11 => ?_)
          refine l_loc (al1 := [(5, .int v12), (8, .int v7), (7, .int v3), (0, .ref x0), (2, .int x2), (3, .int x3), (4, .ref x4), (6, .int x6)]) dX1_mark_118 rfl rfl ?_
          refine l_loc dX1_mark_120 rfl rfl ?_
          refine l_loc dX1_mark_121 rfl rfl ?_
          refine l_loc dX1_mark_123 rfl rfl ?_
          refine l_gi dX1_mark_124 fl_1_181 (fun v13 => ?_)
          refine l_pure dX1_mark_127 rfl rfl ?_
          refine l_loc dX1_mark_128 rfl rfl ?_
          refine l_loc dX1_mark_129 rfl rfl ?_
          refine l_loc dX1_mark_130 rfl rfl ?_
          refine l_loc dX1_mark_132 rfl rfl ?_
          refine l_ob fun q14 => ?_
          refine l_cI dX1_mark_134 rfl rfl rfl (l_xv cl_1_202 ko_mX1_join rfl rfl rfl q14) rfl rfl nm_mX1_join (xhE_th rfl) (fun v16 h15 => ?_)
          refine l_loc (al1 := [(5, .int v16), (8, .int v7), (7, .int v3), (0, .ref x0), (2, .int x2), (3, .int x3), (4, .ref x4), (6, .int x6)]) dX1_mark_137 rfl rfl ?_
          refine l_incl (al1 := fun v17 => [(6, .int v17), (5, .int v16), (8, .int v7), (7, .int v3), (0, .ref x0), (2, .int x2), (3, .int x3), (4, .ref x4)]) dX1_mark_139 rfl kI_1 rfl (fun _ => rfl) (fun v17 => ?_)
          refine l_goto (t := 15) dX1_mark_142 rfl ?_
          exact l_al rfl ⟨rfl, rfl, rfl, rfl, rfl, rfl, trivial⟩
        · refine l_loc dX1_mark_85 rfl rfl ?_
          refine l_loc dX1_mark_86 rfl rfl ?_
          refine l_ic dX1_mark_88 kI_1 ?_
          refine l_pure dX1_mark_89 rfl rfl ?_
          refine l_loc dX1_mark_90 rfl rfl ?_
          refine l_loc dX1_mark_91 rfl rfl ?_
          refine l_loc dX1_mark_92 rfl rfl ?_
          refine l_loc dX1_mark_94 rfl rfl ?_
          refine l_ob fun q18 => ?_
          refine l_cI dX1_mark_96 rfl rfl rfl (l_xv cl_1_202 ko_mX1_join rfl rfl rfl q18) rfl rfl nm_mX1_join (xhE_th rfl) (fun v20 h19 => ?_)
          refine l_loc (al1 := [(5, .int v20), (8, .int v7), (7, .int v3), (0, .ref x0), (2, .int x2), (3, .int x3), (4, .ref x4), (6, .int x6)]) dX1_mark_99 rfl rfl ?_
          refine l_loc dX1_mark_101 rfl rfl ?_
          refine l_loc dX1_mark_102 rfl rfl ?_
          refine l_loc dX1_mark_104 rfl rfl ?_
          refine l_gi dX1_mark_105 fl_1_181 (fun v21 => ?_)
          refine l_pure dX1_mark_108 rfl rfl ?_
          refine l_loc dX1_mark_109 rfl rfl ?_
          refine l_loc dX1_mark_110 rfl rfl ?_
          refine l_loc dX1_mark_111 rfl rfl ?_
          refine l_loc dX1_mark_113 rfl rfl ?_
          refine l_ob fun q22 => ?_
          refine l_cI dX1_mark_115 rfl rfl rfl (l_xv cl_1_202 ko_mX1_join rfl rfl rfl q22) rfl rfl nm_mX1_join (xhE_th rfl) (fun v24 h23 => ?_)
          refine l_loc (al1 := [(5, .int v24), (8, .int v7), (7, .int v3), (0, .ref x0), (2, .int x2), (3, .int x3), (4, .ref x4), (6, .int x6)]) dX1_mark_118 rfl rfl ?_
          refine l_loc dX1_mark_120 rfl rfl ?_
          refine l_loc dX1_mark_121 rfl rfl ?_
          refine l_loc dX1_mark_123 rfl rfl ?_
          refine l_gi dX1_mark_124 fl_1_181 (fun v25 => ?_)
          refine l_pure dX1_mark_127 rfl rfl ?_
          refine l_loc dX1_mark_128 rfl rfl ?_
          refine l_loc dX1_mark_129 rfl rfl ?_
          refine l_loc dX1_mark_130 rfl rfl ?_
          refine l_loc dX1_mark_132 rfl rfl ?_
          refine l_ob fun q26 => ?_
          refine l_cI dX1_mark_134 rfl rfl rfl (l_xv cl_1_202 ko_mX1_join rfl rfl rfl q26) rfl rfl nm_mX1_join (xhE_th rfl) (fun v28 h27 => ?_)
          refine l_loc (al1 := [(5, .int v28), (8, .int v7), (7, .int v3), (0, .ref x0), (2, .int x2), (3, .int x3), (4, .ref x4), (6, .int x6)]) dX1_mark_137 rfl rfl ?_
          refine l_incl (al1 := fun v29 => [(6, .int v29), (5, .int v28), (8, .int v7), (7, .int v3), (0, .ref x0), (2, .int x2), (3, .int x3), (4, .ref x4)]) dX1_mark_139 rfl kI_1 rfl (fun _ => rfl) (fun v29 => ?_)
          refine l_goto (t := 15) dX1_mark_142 rfl ?_
          exact l_al rfl ⟨rfl, rfl, rfl, rfl, rfl, rfl, trivial⟩
      · refine l_loc dX1_mark_58 rfl rfl ?_
        refine l_loc dX1_mark_59 rfl rfl ?_
        refine l_ic dX1_mark_61 kI_1 ?_
        refine l_pure dX1_mark_62 rfl rfl ?_
        refine l_loc dX1_mark_63 rfl rfl ?_
        refine l_loc dX1_mark_64 rfl rfl ?_
        refine l_loc dX1_mark_65 rfl rfl ?_
        refine l_loc dX1_mark_67 rfl rfl ?_
        refine l_ob fun q30 => ?_
        refine l_cI dX1_mark_69 rfl rfl rfl (l_xv cl_1_202 ko_mX1_join rfl rfl rfl q30) rfl rfl nm_mX1_join (xhE_th rfl) (fun v32 h31 => ?_)
        refine l_loc (al1 := [(5, .int v32), (8, .int v7), (7, .int v3), (0, .ref x0), (2, .int x2), (3, .int x3), (4, .ref x4), (6, .int x6)]) dX1_mark_72 rfl rfl ?_
        refine l_loc dX1_mark_74 rfl rfl ?_
        refine l_ic dX1_mark_76 kI_1 ?_
        refine l_pure dX1_mark_77 rfl rfl ?_
        refine l_loc dX1_mark_78 rfl rfl ?_
        refine l_gi dX1_mark_79 fl_1_181 (fun v33 => ?_)
        refine l_cge (t := 101) dX1_mark_82 rfl ?_ ?_
        · refine l_loc dX1_mark_101 rfl rfl ?_
          refine l_loc dX1_mark_102 rfl rfl ?_
          refine l_loc dX1_mark_104 rfl rfl ?_
          refine l_gi dX1_mark_105 fl_1_181 (fun v34 => ?_)
          refine l_pure dX1_mark_108 rfl rfl ?_
          refine l_loc dX1_mark_109 rfl rfl ?_
          refine l_loc dX1_mark_110 rfl rfl ?_
          refine l_loc dX1_mark_111 rfl rfl ?_
          refine l_loc dX1_mark_113 rfl rfl ?_
          refine l_ob fun q35 => ?_
          refine l_cI dX1_mark_115 rfl rfl rfl (l_xv cl_1_202 ko_mX1_join rfl rfl rfl q35) rfl rfl nm_mX1_join (xhE_th rfl) (fun v37 h36 => ?_)
          refine l_loc (al1 := [(5, .int v37), (8, .int v7), (7, .int v3), (0, .ref x0), (2, .int x2), (3, .int x3), (4, .ref x4), (6, .int x6)]) dX1_mark_118 rfl rfl ?_
          refine l_loc dX1_mark_120 rfl rfl ?_
          refine l_loc dX1_mark_121 rfl rfl ?_
          refine l_loc dX1_mark_123 rfl rfl ?_
          refine l_gi dX1_mark_124 fl_1_181 (fun v38 => ?_)
          refine l_pure dX1_mark_127 rfl rfl ?_
          refine l_loc dX1_mark_128 rfl rfl ?_
          refine l_loc dX1_mark_129 rfl rfl ?_
          refine l_loc dX1_mark_130 rfl rfl ?_
          refine l_loc dX1_mark_132 rfl rfl ?_
          refine l_ob fun q39 => ?_
          refine l_cI dX1_mark_134 rfl rfl rfl (l_xv cl_1_202 ko_mX1_join rfl rfl rfl q39) rfl rfl nm_mX1_join (xhE_th rfl) (fun v41 h40 => ?_)
          refine l_loc (al1 := [(5, .int v41), (8, .int v7), (7, .int v3), (0, .ref x0), (2, .int x2), (3, .int x3), (4, .ref x4), (6, .int x6)]) dX1_mark_137 rfl rfl ?_
          refine l_incl (al1 := fun v42 => [(6, .int v42), (5, .int v41), (8, .int v7), (7, .int v3), (0, .ref x0), (2, .int x2), (3, .int x3), (4, .ref x4)]) dX1_mark_139 rfl kI_1 rfl (fun _ => rfl) (fun v42 => ?_)
          refine l_goto (t := 15) dX1_mark_142 rfl ?_
          exact l_al rfl ⟨rfl, rfl, rfl, rfl, rfl, rfl, trivial⟩
        · refine l_loc dX1_mark_85 rfl rfl ?_
          refine l_loc dX1_mark_86 rfl rfl ?_
          refine l_ic dX1_mark_88 kI_1 ?_
          refine l_pure dX1_mark_89 rfl rfl ?_
          refine l_loc dX1_mark_90 rfl rfl ?_
          refine l_loc dX1_mark_91 rfl rfl ?_
          refine l_loc dX1_mark_92 rfl rfl ?_
          refine l_loc dX1_mark_94 rfl rfl ?_
          refine l_ob fun q43 => ?_
          refine l_cI dX1_mark_96 rfl rfl rfl (l_xv cl_1_202 ko_mX1_join rfl rfl rfl q43) rfl rfl nm_mX1_join (xhE_th rfl) (fun v45 h44 => ?_)
          refine l_loc (al1 := [(5, .int v45), (8, .int v7), (7, .int v3), (0, .ref x0), (2, .int x2), (3, .int x3), (4, .ref x4), (6, .int x6)]) dX1_mark_99 rfl rfl ?_
          refine l_loc dX1_mark_101 rfl rfl ?_
          refine l_loc dX1_mark_102 rfl rfl ?_
          refine l_loc dX1_mark_104 rfl rfl ?_
          refine l_gi dX1_mark_105 fl_1_181 (fun v46 => ?_)
          refine l_pure dX1_mark_108 rfl rfl ?_
          refine l_loc dX1_mark_109 rfl rfl ?_
          refine l_loc dX1_mark_110 rfl rfl ?_
          refine l_loc dX1_mark_111 rfl rfl ?_
          refine l_loc dX1_mark_113 rfl rfl ?_
          refine l_ob fun q47 => ?_
          refine l_cI dX1_mark_115 rfl rfl rfl (l_xv cl_1_202 ko_mX1_join rfl rfl rfl q47) rfl rfl nm_mX1_join (xhE_th rfl) (fun v49 h48 => ?_)
          refine l_loc (al1 := [(5, .int v49), (8, .int v7), (7, .int v3), (0, .ref x0), (2, .int x2), (3, .int x3), (4, .ref x4), (6, .int x6)]) dX1_mark_118 rfl rfl ?_
          refine l_loc dX1_mark_120 rfl rfl ?_
          refine l_loc dX1_mark_121 rfl rfl ?_
          refine l_loc dX1_mark_123 rfl rfl ?_
          refine l_gi dX1_mark_124 fl_1_181 (fun v50 => ?_)
          refine l_pure dX1_mark_127 rfl rfl ?_
          refine l_loc dX1_mark_128 rfl rfl ?_
          refine l_loc dX1_mark_129 rfl rfl ?_
          refine l_loc dX1_mark_130 rfl rfl ?_
          refine l_loc dX1_mark_132 rfl rfl ?_
          refine l_ob fun q51 => ?_
          refine l_cI dX1_mark_134 rfl rfl rfl (l_xv cl_1_202 ko_mX1_join rfl rfl rfl q51) rfl rfl nm_mX1_join (xhE_th rfl) (fun v53 h52 => ?_)
          refine l_loc (al1 := [(5, .int v53), (8, .int v7), (7, .int v3), (0, .ref x0), (2, .int x2), (3, .int x3), (4, .ref x4), (6, .int x6)]) dX1_mark_137 rfl rfl ?_
          refine l_incl (al1 := fun v54 => [(6, .int v54), (5, .int v53), (8, .int v7), (7, .int v3), (0, .ref x0), (2, .int x2), (3, .int x3), (4, .ref x4)]) dX1_mark_139 rfl kI_1 rfl (fun _ => rfl) (fun v54 => ?_)
          refine l_goto (t := 15) dX1_mark_142 rfl ?_
          exact l_al rfl ⟨rfl, rfl, rfl, rfl, rfl, rfl, trivial⟩
set_option maxRecDepth 16000 in
theorem w_X1_join (S : xS) (x0 : Nat) (x1 : Int32) (x2 : Int32) (x3 : Int32) (x4 : Nat) (x5 : Int32) (h : xH) : xle (if x1 < 0 then (some (.inl (some (.int x5)), h, 0, 0)) else (if xOb h x0 1 = true then xqI (xM S mX1_blockCount [.ref x0] h) xth fun v3 h2 => if v3 ≤ x1 then (some (.inl (some (.int x5)), h2, 0, 0)) else (if x5 < 0 then (some (.inl (some (.int x5)), h2, 0, 0)) else ((xGr h2 x0 1 14).bind fun v4 => (xRz h2 v4).bind fun v5 => if x5 < v5 then ((xRi h2 0 x4 x1).bind fun v6 => if 0 ≤ v6 then (some (.inl (some (.int x5)), h2, 0, 0)) else ((xGr h2 x0 1 11).bind fun v7 => (xRi h2 0 v7 x1).bind fun v8 => if x3 < v8 then ((xWi h2 x4 x1 x2).bind fun h9 => (xGr h9 x0 1 14).bind fun v10 => (xWi h9 v10 x5 x1).bind fun h11 => some (.inl (some (.int (x5 + (1 : Int32)))), h11, 0, 0)) else (some (.inl (some (.int x5)), h2, 0, 0)))) else (some (.inl (some (.int x5)), h2, 0, 0)))) else none)) (xM S mX1_join [.ref x0, .int x1, .int x2, .int x3, .ref x4, .int x5] h) := by
  show xle _ (xden S mX1_join 0 [(0, .ref x0), (1, .int x1), (2, .int x2), (3, .int x3), (4, .ref x4), (5, .int x5)] [] h)
  refine l_loc dX1_join_0 rfl rfl ?_
  refine l_ilt (t := 27) dX1_join_1 rfl ?_ ?_
  · refine l_loc dX1_join_27 rfl rfl ?_
    exact l_iretn dX1_join_29 rfl (by rfl)
  · refine l_loc dX1_join_4 rfl rfl ?_
    refine l_loc dX1_join_5 rfl rfl ?_
    refine l_ob fun q1 => ?_
    refine l_cI dX1_join_6 rfl rfl rfl (l_xv cl_1_187 ko_mX1_blockCount rfl rfl rfl q1) rfl rfl nm_mX1_blockCount (xhE_th rfl) (fun v3 h2 => ?_)
    refine l_cge (t := 27) dX1_join_9 rfl ?_ ?_
    · refine l_loc dX1_join_27 rfl rfl ?_
      exact l_iretn dX1_join_29 rfl (by rfl)
    · refine l_loc dX1_join_12 rfl rfl ?_
      refine l_ilt (t := 27) dX1_join_14 rfl ?_ ?_
      · refine l_loc dX1_join_27 rfl rfl ?_
        exact l_iretn dX1_join_29 rfl (by rfl)
      · refine l_loc dX1_join_17 rfl rfl ?_
        refine l_loc dX1_join_19 rfl rfl ?_
        refine l_gr dX1_join_20 fl_1_21 (fun v4 => ?_)
        refine l_ln dX1_join_23 (fun v5 => ?_)
        refine l_clt (t := 30) dX1_join_24 rfl ?_ ?_
        · refine l_loc dX1_join_30 rfl rfl ?_
          refine l_loc dX1_join_32 rfl rfl ?_
          refine l_ri dX1_join_33 (fun v6 => ?_)
          refine l_ige (t := 47) dX1_join_34 rfl ?_ ?_
          · refine l_loc dX1_join_47 rfl rfl ?_
            exact l_iretn dX1_join_49 rfl (by rfl)
          · refine l_loc dX1_join_37 rfl rfl ?_
            refine l_gr dX1_join_38 fl_1_9 (fun v7 => ?_)
            refine l_loc dX1_join_41 rfl rfl ?_
            refine l_ri dX1_join_42 (fun v8 => ?_)
            refine l_loc dX1_join_43 rfl rfl ?_
            refine l_cgt (t := 50) dX1_join_44 rfl ?_ ?_
            · refine l_loc dX1_join_50 rfl rfl ?_
              refine l_loc dX1_join_52 rfl rfl ?_
              refine l_loc dX1_join_53 rfl rfl ?_
              refine l_wi dX1_join_54 (fun h9 => ?_)
              refine l_loc dX1_join_55 rfl rfl ?_
              refine l_gr dX1_join_56 fl_1_21 (fun v10 => ?_)
              refine l_loc dX1_join_59 rfl rfl ?_
              refine l_loc dX1_join_61 rfl rfl ?_
              refine l_wi dX1_join_62 (fun h11 => ?_)
              refine l_loc dX1_join_63 rfl rfl ?_
              refine l_ic dX1_join_65 kI_1 ?_
              refine l_pure dX1_join_66 rfl rfl ?_
              exact l_iretn dX1_join_67 rfl (by rfl)
            · refine l_loc dX1_join_47 rfl rfl ?_
              exact l_iretn dX1_join_49 rfl (by rfl)
        · refine l_loc dX1_join_27 rfl rfl ?_
          exact l_iretn dX1_join_29 rfl (by rfl)
theorem w_X1_formRegions (S : xS) (x0 : Nat) (h : xH) : xle (xden S mX1_formRegions 2 [(0, .ref x0), (1, .int (0 : Int32))] [] h) (xM S mX1_formRegions [.ref x0] h) := by
  show xle _ (xden S mX1_formRegions 0 [(0, .ref x0)] [] h)
  refine l_ic dX1_formRegions_0 kI_0 ?_
  refine l_loc (al1 := [(1, .int (0 : Int32)), (0, .ref x0)]) dX1_formRegions_1 rfl rfl ?_
  exact l_al rfl ⟨rfl, rfl, trivial⟩
set_option maxRecDepth 16000 in
theorem w_X1_formRegions_2 (S : xS) (x0 : Nat) (x1 : Int32) (h : xH) : xle ((xGi h x0 1 17).bind fun v1 => if v1 ≤ x1 then (some (.inl none, h, 0, 0)) else ((xGr h x0 1 16).bind fun v2 => (xRz h v2).bind fun v3 => if v3 ≤ x1 then (some (.inl none, h, 0, 0)) else (if xOb h x0 1 = true then xqN (xM S mX1_find [.ref x0, .int x1] h) xth (fun h5 => xlet (x1 + (1 : Int32)) fun v7 => (xden S mX1_formRegions 2 [(0, .ref x0), (1, .int v7)] [] h5)) (fun v6 h5 => (xGr h5 v6 7 0).bind fun v8 => (xGr h5 x0 1 5).bind fun v9 => if xOb h5 x0 1 = true then xqV (xM S mX1_collect [.ref x0, .ref v8, .ref v9, .int x1] h5) xth fun h11 => (xGr h11 v6 7 1).bind fun v13 => (xGr h11 x0 1 6).bind fun v14 => if xOb h11 x0 1 = true then xqV (xM S mX1_collect [.ref x0, .ref v13, .ref v14, .int x1] h11) xth fun h16 => if xOb h16 v6 7 = true then xqV (xM S mX7_settle [.ref v6] h16) xth fun h19 => (xGr h19 x0 1 16).bind fun v21 => (xWr h19 v21 x1 v6).bind fun h22 => xlet (x1 + (1 : Int32)) fun v23 => (xden S mX1_formRegions 2 [(0, .ref x0), (1, .int v23)] [] h22) else none else none else none) else none))) (xden S mX1_formRegions 2 [(0, .ref x0), (1, .int x1)] [] h) := by
  refine l_loc dX1_formRegions_2 rfl rfl ?_
  refine l_loc dX1_formRegions_3 rfl rfl ?_
  refine l_gi dX1_formRegions_4 fl_1_149 (fun v1 => ?_)
  refine l_cge (t := 72) dX1_formRegions_7 rfl ?_ ?_
  · exact l_end dX1_formRegions_72 rfl rfl
  · refine l_loc dX1_formRegions_10 rfl rfl ?_
    refine l_loc dX1_formRegions_11 rfl rfl ?_
    refine l_gr dX1_formRegions_12 fl_1_30 (fun v2 => ?_)
    refine l_ln dX1_formRegions_15 (fun v3 => ?_)
    refine l_cge (t := 72) dX1_formRegions_16 rfl ?_ ?_
    · exact l_end dX1_formRegions_72 rfl rfl
    · refine l_loc dX1_formRegions_19 rfl rfl ?_
      refine l_loc dX1_formRegions_20 rfl rfl ?_
      refine l_ob fun q4 => ?_
      refine l_cN dX1_formRegions_21 rfl rfl rfl (l_xv cl_1_207 ko_mX1_find rfl rfl rfl q4) rfl rfl nm_mX1_find (xhE_th rfl) (fun h5 => ?_) (fun v6 h5 => ?_)
      · refine l_loc (al1 := [(2, .null), (0, .ref x0), (1, .int x1)]) dX1_formRegions_24 rfl rfl ?_
        refine l_loc dX1_formRegions_25 rfl rfl ?_
        refine l_nullN (t := 66) dX1_formRegions_26 rfl ?_
        refine l_incl (al1 := fun v7 => [(1, .int v7), (2, .null), (0, .ref x0)]) dX1_formRegions_66 rfl kI_1 rfl (fun _ => rfl) (fun v7 => ?_)
        refine l_goto (t := 2) dX1_formRegions_69 rfl ?_
        exact l_al rfl ⟨rfl, rfl, trivial⟩
      · refine l_loc (al1 := [(2, .ref v6), (0, .ref x0), (1, .int x1)]) dX1_formRegions_24 rfl rfl ?_
        refine l_loc dX1_formRegions_25 rfl rfl ?_
        refine l_nullR dX1_formRegions_26 ?_
        refine l_loc dX1_formRegions_29 rfl rfl ?_
        refine l_loc dX1_formRegions_30 rfl rfl ?_
        refine l_gr dX1_formRegions_31 fl_1_214 (fun v8 => ?_)
        refine l_loc dX1_formRegions_34 rfl rfl ?_
        refine l_gr dX1_formRegions_35 fl_1_61 (fun v9 => ?_)
        refine l_loc dX1_formRegions_38 rfl rfl ?_
        refine l_ob fun q10 => ?_
        refine l_cV dX1_formRegions_39 rfl rfl rfl (l_xv cl_1_218 ko_mX1_collect rfl rfl rfl q10) rfl rfl nm_mX1_collect (xhE_th rfl) (fun h11 => ?_)
        refine l_loc dX1_formRegions_42 rfl rfl ?_
        refine l_loc dX1_formRegions_43 rfl rfl ?_
        refine l_gr dX1_formRegions_44 fl_1_222 (fun v13 => ?_)
        refine l_loc dX1_formRegions_47 rfl rfl ?_
        refine l_gr dX1_formRegions_48 fl_1_64 (fun v14 => ?_)
        refine l_loc dX1_formRegions_51 rfl rfl ?_
        refine l_ob fun q15 => ?_
        refine l_cV dX1_formRegions_52 rfl rfl rfl (l_xv cl_1_218 ko_mX1_collect rfl rfl rfl q15) rfl rfl nm_mX1_collect (xhE_th rfl) (fun h16 => ?_)
        refine l_loc dX1_formRegions_55 rfl rfl ?_
        refine l_ob fun q18 => ?_
        refine l_cV dX1_formRegions_56 rfl rfl rfl (l_xv cl_1_225 ko_mX7_settle rfl rfl rfl q18) rfl rfl nm_mX7_settle (xhE_th rfl) (fun h19 => ?_)
        refine l_loc dX1_formRegions_59 rfl rfl ?_
        refine l_gr dX1_formRegions_60 fl_1_30 (fun v21 => ?_)
        refine l_loc dX1_formRegions_63 rfl rfl ?_
        refine l_loc dX1_formRegions_64 rfl rfl ?_
        refine l_wa dX1_formRegions_65 (fun h22 => ?_)
        refine l_incl (al1 := fun v23 => [(1, .int v23), (2, .ref v6), (0, .ref x0)]) dX1_formRegions_66 rfl kI_1 rfl (fun _ => rfl) (fun v23 => ?_)
        refine l_goto (t := 2) dX1_formRegions_69 rfl ?_
        exact l_al rfl ⟨rfl, rfl, trivial⟩
set_option maxRecDepth 16000 in
theorem w_X1_find (S : xS) (x0 : Nat) (x1 : Int32) (h : xH) : xle (if x1 < 0 then (some (.inl (some (.null)), h, 0, 0)) else ((xGr h x0 1 15).bind fun v1 => (xRz h v1).bind fun v2 => if x1 < v2 then ((xGr h x0 1 15).bind fun v3 => (xRn h v3 x1).bind (xon ((xGr h x0 1 15).bind fun v5 => xNo 7 h fun a6 h7 => xqC (xM S mX7_init [.ref a6] h7) fun h8 => (xWr h8 v5 x1 a6).bind fun h9 => (xGr h9 x0 1 15).bind fun v10 => (xRr h9 v10 x1).bind fun v11 => some (.inl (some (.ref v11)), h9, 0, 0)) (fun v4 => (xGr h x0 1 15).bind fun v12 => (xRr h v12 x1).bind fun v13 => some (.inl (some (.ref v13)), h, 0, 0)))) else (some (.inl (some (.null)), h, 0, 0)))) (xM S mX1_find [.ref x0, .int x1] h) := by
  show xle _ (xden S mX1_find 0 [(0, .ref x0), (1, .int x1)] [] h)
  refine l_loc dX1_find_0 rfl rfl ?_
  refine l_ilt (t := 13) dX1_find_1 rfl ?_ ?_
  · refine l_pure dX1_find_13 rfl rfl ?_
    exact l_end dX1_find_14 rfl rfl
  · refine l_loc dX1_find_4 rfl rfl ?_
    refine l_loc dX1_find_5 rfl rfl ?_
    refine l_gr dX1_find_6 fl_1_26 (fun v1 => ?_)
    refine l_ln dX1_find_9 (fun v2 => ?_)
    refine l_clt (t := 15) dX1_find_10 rfl ?_ ?_
    · refine l_loc dX1_find_15 rfl rfl ?_
      refine l_gr dX1_find_16 fl_1_26 (fun v3 => ?_)
      refine l_loc dX1_find_19 rfl rfl ?_
      refine l_rn dX1_find_20 ?_ (fun v4 => ?_)
      · refine l_nnulN dX1_find_21 ?_
        refine l_loc dX1_find_24 rfl rfl ?_
        refine l_gr dX1_find_25 fl_1_26 (fun v5 => ?_)
        refine l_loc dX1_find_28 rfl rfl ?_
        refine l_new (c := 7) dX1_find_29 rfl (fun a6 h7 _ _ => ?_)
        refine l_pure dX1_find_32 rfl rfl ?_
        refine l_cC dX1_find_33 rfl rfl rfl (l_xi cl_1_206 ko_mX7_init rfl rfl rfl) rfl rfl (fun h8 => ?_)
        refine l_wa dX1_find_36 (fun h9 => ?_)
        refine l_loc dX1_find_37 rfl rfl ?_
        refine l_gr dX1_find_38 fl_1_26 (fun v10 => ?_)
        refine l_loc dX1_find_41 rfl rfl ?_
        refine l_rr dX1_find_42 (fun v11 => ?_)
        exact l_end dX1_find_43 rfl rfl
      · refine l_nnulR (t := 37) dX1_find_21 rfl ?_
        refine l_loc dX1_find_37 rfl rfl ?_
        refine l_gr dX1_find_38 fl_1_26 (fun v12 => ?_)
        refine l_loc dX1_find_41 rfl rfl ?_
        refine l_rr dX1_find_42 (fun v13 => ?_)
        exact l_end dX1_find_43 rfl rfl
    · refine l_pure dX1_find_13 rfl rfl ?_
      exact l_end dX1_find_14 rfl rfl
set_option maxRecDepth 16000 in
theorem w_X1_collect (S : xS) (x0 : Nat) (x1 : Nat) (x2 : Nat) (x3 : Int32) (h : xH) : xle (if xOb h x1 5 = true then xqV (xM S mX5_begin [.ref x1] h) xth fun h2 => (xden S mX1_collect 7 [(0, .ref x0), (1, .ref x1), (2, .ref x2), (3, .int x3), (4, .int (0 : Int32))] [] h2) else none) (xM S mX1_collect [.ref x0, .ref x1, .ref x2, .int x3] h) := by
  show xle _ (xden S mX1_collect 0 [(0, .ref x0), (1, .ref x1), (2, .ref x2), (3, .int x3)] [] h)
  refine l_loc dX1_collect_0 rfl rfl ?_
  refine l_ob fun q1 => ?_
  refine l_cV dX1_collect_1 rfl rfl rfl (l_xv cl_1_228 ko_mX5_begin rfl rfl rfl q1) rfl rfl nm_mX5_begin (xhE_th rfl) (fun h2 => ?_)
  refine l_ic dX1_collect_4 kI_0 ?_
  refine l_loc (al1 := [(4, .int (0 : Int32)), (0, .ref x0), (1, .ref x1), (2, .ref x2), (3, .int x3)]) dX1_collect_5 rfl rfl ?_
  exact l_al rfl ⟨rfl, rfl, rfl, rfl, rfl, trivial⟩
set_option maxRecDepth 16000 in
theorem w_X1_collect_7 (S : xS) (x0 : Nat) (x1 : Nat) (x2 : Nat) (x3 : Int32) (x4 : Int32) (h : xH) : xle ((xGi h x0 1 10).bind fun v1 => if v1 ≤ x4 then (some (.inl none, h, 0, 0)) else (if xOb h x0 1 = true then xqJ (xM S mX1_spanOf [.ref x0, .int x3, .int x4] h) xth fun v4 h3 => (xGi h3 x0 1 8).bind fun v5 => xlet (x4 * v5) fun v6 => (xden S mX1_collect 34 [(0, .ref x0), (1, .ref x1), (2, .ref x2), (3, .int x3), (4, .int x4), (5, .long v4), (7, .int v6)] [] h3) else none)) (xden S mX1_collect 7 [(0, .ref x0), (1, .ref x1), (2, .ref x2), (3, .int x3), (4, .int x4)] [] h) := by
  refine l_loc dX1_collect_7 rfl rfl ?_
  refine l_loc dX1_collect_9 rfl rfl ?_
  refine l_gi dX1_collect_10 fl_1_184 (fun v1 => ?_)
  refine l_cge (t := 91) dX1_collect_13 rfl ?_ ?_
  · exact l_end dX1_collect_91 rfl rfl
  · refine l_loc dX1_collect_16 rfl rfl ?_
    refine l_loc dX1_collect_17 rfl rfl ?_
    refine l_loc dX1_collect_18 rfl rfl ?_
    refine l_ob fun q2 => ?_
    refine l_cJ dX1_collect_20 rfl rfl rfl (l_xv cl_1_231 ko_mX1_spanOf rfl rfl rfl q2) rfl rfl nm_mX1_spanOf (xhE_th rfl) (fun v4 h3 => ?_)
    refine l_loc (al1 := [(5, .long v4), (0, .ref x0), (1, .ref x1), (2, .ref x2), (3, .int x3), (4, .int x4)]) dX1_collect_23 rfl rfl ?_
    refine l_loc dX1_collect_25 rfl rfl ?_
    refine l_loc dX1_collect_27 rfl rfl ?_
    refine l_gi dX1_collect_28 fl_1_74 (fun v5 => ?_)
    refine l_pure dX1_collect_31 rfl rfl ?_
    refine l_isl (al1 := fun v6 => [(7, .int v6), (5, .long v4), (0, .ref x0), (1, .ref x1), (2, .ref x2), (3, .int x3), (4, .int x4)]) dX1_collect_32 rfl (fun _ => rfl) (fun v6 => ?_)
    exact l_al rfl ⟨rfl, rfl, rfl, rfl, rfl, rfl, rfl, trivial⟩
set_option maxRecDepth 16000 in
theorem w_X1_collect_34 (S : xS) (x0 : Nat) (x1 : Nat) (x2 : Nat) (x3 : Int32) (x4 : Int32) (x5 : Int64) (x7 : Int32) (h : xH) : xle (if (lg_cmp x5 (0 : Int64)) = 0 then (xlet (x4 + (1 : Int32)) fun v1 => (xden S mX1_collect 7 [(0, .ref x0), (1, .ref x1), (2, .ref x2), (3, .int x3), (4, .int v1)] [] h)) else ((xGi h x0 1 1).bind fun v2 => if v2 ≤ x7 then (xlet (x4 + (1 : Int32)) fun v3 => (xden S mX1_collect 7 [(0, .ref x0), (1, .ref x1), (2, .ref x2), (3, .int x3), (4, .int v3)] [] h)) else ((xGi h x0 1 8).bind fun v4 => if ((x4 + (1 : Int32)) * v4) ≤ x7 then (xlet (x4 + (1 : Int32)) fun v5 => (xden S mX1_collect 7 [(0, .ref x0), (1, .ref x1), (2, .ref x2), (3, .int x3), (4, .int v5)] [] h)) else (if xOb h x2 4 = true then xqJ (xM S mX4_rowAt [.ref x2, .int x7] h) xth fun v8 h7 => if xOb h7 x1 5 = true then xqV (xM S mX5_takeRow [.ref x1, .int x7, .long (v8 &&& x5)] h7) xth fun h10 => xlet (x7 + (1 : Int32)) fun v12 => (xden S mX1_collect 34 [(0, .ref x0), (1, .ref x1), (2, .ref x2), (3, .int x3), (4, .int x4), (5, .long x5), (7, .int v12)] [] h10) else none else none)))) (xden S mX1_collect 34 [(0, .ref x0), (1, .ref x1), (2, .ref x2), (3, .int x3), (4, .int x4), (5, .long x5), (7, .int x7)] [] h) := by
  refine l_loc dX1_collect_34 rfl rfl ?_
  refine l_lc0 dX1_collect_36 ?_
  refine l_pure dX1_collect_37 rfl rfl ?_
  refine l_ieq (t := 85) dX1_collect_38 rfl ?_ ?_
  · refine l_incl (al1 := fun v1 => [(4, .int v1), (0, .ref x0), (1, .ref x1), (2, .ref x2), (3, .int x3), (5, .long x5), (7, .int x7)]) dX1_collect_85 rfl kI_1 rfl (fun _ => rfl) (fun v1 => ?_)
    refine l_goto (t := 7) dX1_collect_88 rfl ?_
    exact l_al rfl ⟨rfl, rfl, rfl, rfl, rfl, trivial⟩
  · refine l_loc dX1_collect_41 rfl rfl ?_
    refine l_loc dX1_collect_43 rfl rfl ?_
    refine l_gi dX1_collect_44 fl_1_43 (fun v2 => ?_)
    refine l_cge (t := 85) dX1_collect_47 rfl ?_ ?_
    · refine l_incl (al1 := fun v3 => [(4, .int v3), (0, .ref x0), (1, .ref x1), (2, .ref x2), (3, .int x3), (5, .long x5), (7, .int x7)]) dX1_collect_85 rfl kI_1 rfl (fun _ => rfl) (fun v3 => ?_)
      refine l_goto (t := 7) dX1_collect_88 rfl ?_
      exact l_al rfl ⟨rfl, rfl, rfl, rfl, rfl, trivial⟩
    · refine l_loc dX1_collect_50 rfl rfl ?_
      refine l_loc dX1_collect_52 rfl rfl ?_
      refine l_ic dX1_collect_54 kI_1 ?_
      refine l_pure dX1_collect_55 rfl rfl ?_
      refine l_loc dX1_collect_56 rfl rfl ?_
      refine l_gi dX1_collect_57 fl_1_74 (fun v4 => ?_)
      refine l_pure dX1_collect_60 rfl rfl ?_
      refine l_cge (t := 85) dX1_collect_61 rfl ?_ ?_
      · refine l_incl (al1 := fun v5 => [(4, .int v5), (0, .ref x0), (1, .ref x1), (2, .ref x2), (3, .int x3), (5, .long x5), (7, .int x7)]) dX1_collect_85 rfl kI_1 rfl (fun _ => rfl) (fun v5 => ?_)
        refine l_goto (t := 7) dX1_collect_88 rfl ?_
        exact l_al rfl ⟨rfl, rfl, rfl, rfl, rfl, trivial⟩
      · refine l_loc dX1_collect_64 rfl rfl ?_
        refine l_loc dX1_collect_65 rfl rfl ?_
        refine l_loc dX1_collect_67 rfl rfl ?_
        refine l_loc dX1_collect_68 rfl rfl ?_
        refine l_ob fun q6 => ?_
        refine l_cJ dX1_collect_70 rfl rfl rfl (l_xv cl_1_235 ko_mX4_rowAt rfl rfl rfl q6) rfl rfl nm_mX4_rowAt (xhE_th rfl) (fun v8 h7 => ?_)
        refine l_loc dX1_collect_73 rfl rfl ?_
        refine l_pure dX1_collect_75 rfl rfl ?_
        refine l_ob fun q9 => ?_
        refine l_cV dX1_collect_76 rfl rfl rfl (l_xv cl_1_239 ko_mX5_takeRow rfl rfl rfl q9) rfl rfl nm_mX5_takeRow (xhE_th rfl) (fun h10 => ?_)
        refine l_incl (al1 := fun v12 => [(7, .int v12), (0, .ref x0), (1, .ref x1), (2, .ref x2), (3, .int x3), (4, .int x4), (5, .long x5)]) dX1_collect_79 rfl kI_1 rfl (fun _ => rfl) (fun v12 => ?_)
        refine l_goto (t := 34) dX1_collect_82 rfl ?_
        exact l_al rfl ⟨rfl, rfl, rfl, rfl, rfl, rfl, rfl, trivial⟩
theorem w_X1_spanOf (S : xS) (x0 : Nat) (x1 : Int32) (x2 : Int32) (h : xH) : xle (xden S mX1_spanOf 5 [(0, .ref x0), (1, .int x1), (2, .int x2), (3, .long (0 : Int64)), (5, .int (0 : Int32))] [] h) (xM S mX1_spanOf [.ref x0, .int x1, .int x2] h) := by
  show xle _ (xden S mX1_spanOf 0 [(0, .ref x0), (1, .int x1), (2, .int x2)] [] h)
  refine l_lc0 dX1_spanOf_0 ?_
  refine l_loc (al1 := [(3, .long (0 : Int64)), (0, .ref x0), (1, .int x1), (2, .int x2)]) dX1_spanOf_1 rfl rfl ?_
  refine l_ic dX1_spanOf_2 kI_0 ?_
  refine l_loc (al1 := [(5, .int (0 : Int32)), (3, .long (0 : Int64)), (0, .ref x0), (1, .int x1), (2, .int x2)]) dX1_spanOf_3 rfl rfl ?_
  exact l_al rfl ⟨rfl, rfl, rfl, rfl, rfl, trivial⟩
set_option maxRecDepth 16000 in
theorem w_X1_spanOf_5 (S : xS) (x0 : Nat) (x1 : Int32) (x2 : Int32) (x3 : Int64) (x5 : Int32) (h : xH) : xle ((xGi h x0 1 9).bind fun v1 => if v1 ≤ x5 then (some (.inl (some (.long x3)), h, 0, 0)) else ((xGi h x0 1 9).bind fun v2 => xlet ((x2 * v2) + x5) fun v3 => (xGr h x0 1 12).bind fun v4 => (xRz h v4).bind fun v5 => if v5 ≤ v3 then (xlet (x5 + (1 : Int32)) fun v6 => (xden S mX1_spanOf 5 [(0, .ref x0), (1, .int x1), (2, .int x2), (3, .long x3), (5, .int v6)] [] h)) else ((xGr h x0 1 12).bind fun v7 => (xRi h 0 v7 v3).bind fun v8 => if ¬ v8 = x1 then (xlet (x5 + (1 : Int32)) fun v9 => (xden S mX1_spanOf 5 [(0, .ref x0), (1, .int x1), (2, .int x2), (3, .long x3), (5, .int v9)] [] h)) else ((xGi h x0 1 8).bind fun v10 => xqJ (xM S mX4_below [.int v10] h) xth fun v12 h11 => (xGi h11 x0 1 8).bind fun v13 => xqJ (xM S mX4_moved [.long v12, .int (x5 * v13)] h11) xth fun v15 h14 => xlet (x3 ||| v15) fun v16 => xlet (x5 + (1 : Int32)) fun v17 => (xden S mX1_spanOf 5 [(0, .ref x0), (1, .int x1), (2, .int x2), (3, .long v16), (5, .int v17)] [] h14))))) (xden S mX1_spanOf 5 [(0, .ref x0), (1, .int x1), (2, .int x2), (3, .long x3), (5, .int x5)] [] h) := by
  refine l_loc dX1_spanOf_5 rfl rfl ?_
  refine l_loc dX1_spanOf_7 rfl rfl ?_
  refine l_gi dX1_spanOf_8 fl_1_181 (fun v1 => ?_)
  refine l_cge (t := 72) dX1_spanOf_11 rfl ?_ ?_
  · refine l_loc dX1_spanOf_72 rfl rfl ?_
    exact l_end dX1_spanOf_73 rfl rfl
  · refine l_loc dX1_spanOf_14 rfl rfl ?_
    refine l_loc dX1_spanOf_15 rfl rfl ?_
    refine l_gi dX1_spanOf_16 fl_1_181 (fun v2 => ?_)
    refine l_pure dX1_spanOf_19 rfl rfl ?_
    refine l_loc dX1_spanOf_20 rfl rfl ?_
    refine l_pure dX1_spanOf_22 rfl rfl ?_
    refine l_isl (al1 := fun v3 => [(6, .int v3), (0, .ref x0), (1, .int x1), (2, .int x2), (3, .long x3), (5, .int x5)]) dX1_spanOf_23 rfl (fun _ => rfl) (fun v3 => ?_)
    refine l_loc dX1_spanOf_25 rfl rfl ?_
    refine l_loc dX1_spanOf_27 rfl rfl ?_
    refine l_gr dX1_spanOf_28 fl_1_15 (fun v4 => ?_)
    refine l_ln dX1_spanOf_31 (fun v5 => ?_)
    refine l_cge (t := 66) dX1_spanOf_32 rfl ?_ ?_
    · refine l_incl (al1 := fun v6 => [(5, .int v6), (6, .int v3), (0, .ref x0), (1, .int x1), (2, .int x2), (3, .long x3)]) dX1_spanOf_66 rfl kI_1 rfl (fun _ => rfl) (fun v6 => ?_)
      refine l_goto (t := 5) dX1_spanOf_69 rfl ?_
      exact l_al rfl ⟨rfl, rfl, rfl, rfl, rfl, trivial⟩
    · refine l_loc dX1_spanOf_35 rfl rfl ?_
      refine l_gr dX1_spanOf_36 fl_1_15 (fun v7 => ?_)
      refine l_loc dX1_spanOf_39 rfl rfl ?_
      refine l_ri dX1_spanOf_41 (fun v8 => ?_)
      refine l_loc dX1_spanOf_42 rfl rfl ?_
      refine l_cne (t := 66) dX1_spanOf_43 rfl ?_ ?_
      · refine l_incl (al1 := fun v9 => [(5, .int v9), (6, .int v3), (0, .ref x0), (1, .int x1), (2, .int x2), (3, .long x3)]) dX1_spanOf_66 rfl kI_1 rfl (fun _ => rfl) (fun v9 => ?_)
        refine l_goto (t := 5) dX1_spanOf_69 rfl ?_
        exact l_al rfl ⟨rfl, rfl, rfl, rfl, rfl, trivial⟩
      · refine l_loc dX1_spanOf_46 rfl rfl ?_
        refine l_loc dX1_spanOf_47 rfl rfl ?_
        refine l_gi dX1_spanOf_48 fl_1_74 (fun v10 => ?_)
        refine l_cJ dX1_spanOf_51 rfl rfl rfl (l_xs cl_1_243 ko_mX4_below rfl rfl) rfl rfl nm_mX4_below (xhE_th rfl) (fun v12 h11 => ?_)
        refine l_loc dX1_spanOf_54 rfl rfl ?_
        refine l_loc dX1_spanOf_56 rfl rfl ?_
        refine l_gi dX1_spanOf_57 fl_1_74 (fun v13 => ?_)
        refine l_pure dX1_spanOf_60 rfl rfl ?_
        refine l_cJ dX1_spanOf_61 rfl rfl rfl (l_xs cl_1_246 ko_mX4_moved rfl rfl) rfl rfl nm_mX4_moved (xhE_th rfl) (fun v15 h14 => ?_)
        refine l_pure dX1_spanOf_64 rfl rfl ?_
        refine l_lsl (al1 := fun v16 => [(3, .long v16), (6, .int v3), (0, .ref x0), (1, .int x1), (2, .int x2), (5, .int x5)]) dX1_spanOf_65 rfl (fun _ => rfl) (fun v16 => ?_)
        refine l_incl (al1 := fun v17 => [(5, .int v17), (3, .long v16), (6, .int v3), (0, .ref x0), (1, .int x1), (2, .int x2)]) dX1_spanOf_66 rfl kI_1 rfl (fun _ => rfl) (fun v17 => ?_)
        refine l_goto (t := 5) dX1_spanOf_69 rfl ?_
        exact l_al rfl ⟨rfl, rfl, rfl, rfl, rfl, trivial⟩
theorem w_X1_sortRegions (S : xS) (x0 : Nat) (x1 : Int32) (h : xH) : xle (xden S mX1_sortRegions 2 [(0, .ref x0), (1, .int x1), (2, .int (0 : Int32))] [] h) (xM S mX1_sortRegions [.ref x0, .int x1] h) := by
  show xle _ (xden S mX1_sortRegions 0 [(0, .ref x0), (1, .int x1)] [] h)
  refine l_ic dX1_sortRegions_0 kI_0 ?_
  refine l_loc (al1 := [(2, .int (0 : Int32)), (0, .ref x0), (1, .int x1)]) dX1_sortRegions_1 rfl rfl ?_
  exact l_al rfl ⟨rfl, rfl, rfl, trivial⟩
set_option maxRecDepth 16000 in
theorem w_X1_sortRegions_2 (S : xS) (x0 : Nat) (x1 : Int32) (x2 : Int32) (h : xH) : xle ((xGi h x0 1 17).bind fun v1 => if v1 ≤ x2 then (if xOb h x0 1 = true then xqV (xM S mX1_sortByKey [.ref x0] h) xth fun h3 => (xden S mX1_sortRegions 63 [(0, .ref x0), (1, .int x1), (2, .int (-1 : Int32)), (3, .int (-1 : Int32)), (4, .int (0 : Int32))] [] h3) else none) else ((xGr h x0 1 16).bind fun v5 => (xRr h v5 x2).bind fun v6 => if xOb h v6 7 = true then xqI (xM S mX7_start [.ref v6, .int x1] h) xth fun v9 h8 => if ¬ x1 = 0 then (if xOb h8 v6 7 = true then xqI (xM S mX7_start [.ref v6, .int (0 : Int32)] h8) xth fun v12 h11 => (xP false 1 h11 v6 7 8 (.long (((v9.toInt64) * (64 : Int64)) + (v12.toInt64)))).bind fun h13 => xlet (x2 + (1 : Int32)) fun v14 => (xden S mX1_sortRegions 2 [(0, .ref x0), (1, .int x1), (2, .int v14)] [] h13) else none) else (if xOb h8 v6 7 = true then xqI (xM S mX7_start [.ref v6, .int (1 : Int32)] h8) xth fun v17 h16 => (xP false 1 h16 v6 7 8 (.long (((v9.toInt64) * (64 : Int64)) + (v17.toInt64)))).bind fun h18 => xlet (x2 + (1 : Int32)) fun v19 => (xden S mX1_sortRegions 2 [(0, .ref x0), (1, .int x1), (2, .int v19)] [] h18) else none) else none)) (xden S mX1_sortRegions 2 [(0, .ref x0), (1, .int x1), (2, .int x2)] [] h) := by
  refine l_loc dX1_sortRegions_2 rfl rfl ?_
  refine l_loc dX1_sortRegions_3 rfl rfl ?_
  refine l_gi dX1_sortRegions_4 fl_1_149 (fun v1 => ?_)
  refine l_cge (t := 52) dX1_sortRegions_7 rfl ?_ ?_
  · refine l_loc dX1_sortRegions_52 rfl rfl ?_
    refine l_ob fun q2 => ?_
    refine l_cV dX1_sortRegions_53 rfl rfl rfl (l_xv cl_1_260 ko_mX1_sortByKey rfl rfl rfl q2) rfl rfl nm_mX1_sortByKey (xhE_th rfl) (fun h3 => ?_)
    refine l_ic dX1_sortRegions_56 kI_m1 ?_
    refine l_loc (al1 := [(2, .int (-1 : Int32)), (0, .ref x0), (1, .int x1)]) dX1_sortRegions_57 rfl rfl ?_
    refine l_ic dX1_sortRegions_58 kI_m1 ?_
    refine l_loc (al1 := [(3, .int (-1 : Int32)), (2, .int (-1 : Int32)), (0, .ref x0), (1, .int x1)]) dX1_sortRegions_59 rfl rfl ?_
    refine l_ic dX1_sortRegions_60 kI_0 ?_
    refine l_loc (al1 := [(4, .int (0 : Int32)), (3, .int (-1 : Int32)), (2, .int (-1 : Int32)), (0, .ref x0), (1, .int x1)]) dX1_sortRegions_61 rfl rfl ?_
    exact l_al rfl ⟨rfl, rfl, rfl, rfl, rfl, trivial⟩
  · refine l_loc dX1_sortRegions_10 rfl rfl ?_
    refine l_gr dX1_sortRegions_11 fl_1_30 (fun v5 => ?_)
    refine l_loc dX1_sortRegions_14 rfl rfl ?_
    refine l_rr dX1_sortRegions_15 (fun v6 => ?_)
    refine l_loc (al1 := [(3, .ref v6), (0, .ref x0), (1, .int x1), (2, .int x2)]) dX1_sortRegions_16 rfl rfl ?_
    refine l_loc dX1_sortRegions_17 rfl rfl ?_
    refine l_loc dX1_sortRegions_18 rfl rfl ?_
    refine l_loc dX1_sortRegions_19 rfl rfl ?_
    refine l_ob fun q7 => ?_
    refine l_cI dX1_sortRegions_20 rfl rfl rfl (l_xv cl_1_250 ko_mX7_start rfl rfl rfl q7) rfl rfl nm_mX7_start (xhE_th rfl) (fun v9 h8 => ?_)
    refine l_pure dX1_sortRegions_23 rfl rfl ?_
    refine l_rd (st1 := [.long (64 : Int64), .long (v9.toInt64), .ref v6]) dX1_sortRegions_24 rfl rfl ?_
    refine l_pure dX1_sortRegions_27 rfl rfl ?_
    refine l_loc dX1_sortRegions_28 rfl rfl ?_
    refine l_loc dX1_sortRegions_29 rfl rfl ?_
    refine l_ine (t := 37) dX1_sortRegions_30 rfl ?_ ?_
    · refine l_ic dX1_sortRegions_37 kI_0 ?_
      refine l_ob fun q10 => ?_
      refine l_cI dX1_sortRegions_38 rfl rfl rfl (l_xv cl_1_250 ko_mX7_start rfl rfl rfl q10) rfl rfl nm_mX7_start (xhE_th rfl) (fun v12 h11 => ?_)
      refine l_pure dX1_sortRegions_41 rfl rfl ?_
      refine l_pure dX1_sortRegions_42 rfl rfl ?_
      refine l_pf dX1_sortRegions_43 fl_1_256 (ini := false) nm_mX1_sortRegions (fun h13 => ?_)
      refine l_incl (al1 := fun v14 => [(2, .int v14), (3, .ref v6), (0, .ref x0), (1, .int x1)]) dX1_sortRegions_46 rfl kI_1 rfl (fun _ => rfl) (fun v14 => ?_)
      refine l_goto (t := 2) dX1_sortRegions_49 rfl ?_
      exact l_al rfl ⟨rfl, rfl, rfl, trivial⟩
    · refine l_ic dX1_sortRegions_33 kI_1 ?_
      refine l_goto (t := 38) dX1_sortRegions_34 rfl ?_
      refine l_ob fun q15 => ?_
      refine l_cI dX1_sortRegions_38 rfl rfl rfl (l_xv cl_1_250 ko_mX7_start rfl rfl rfl q15) rfl rfl nm_mX7_start (xhE_th rfl) (fun v17 h16 => ?_)
      refine l_pure dX1_sortRegions_41 rfl rfl ?_
      refine l_pure dX1_sortRegions_42 rfl rfl ?_
      refine l_pf dX1_sortRegions_43 fl_1_256 (ini := false) nm_mX1_sortRegions (fun h18 => ?_)
      refine l_incl (al1 := fun v19 => [(2, .int v19), (3, .ref v6), (0, .ref x0), (1, .int x1)]) dX1_sortRegions_46 rfl kI_1 rfl (fun _ => rfl) (fun v19 => ?_)
      refine l_goto (t := 2) dX1_sortRegions_49 rfl ?_
      exact l_al rfl ⟨rfl, rfl, rfl, trivial⟩
set_option maxRecDepth 16000 in
theorem w_X1_sortRegions_63 (S : xS) (x0 : Nat) (x1 : Int32) (x2 : Int32) (x3 : Int32) (x4 : Int32) (h : xH) : xle ((xGi h x0 1 17).bind fun v1 => if v1 ≤ x4 then (if xOb h x0 1 = true then xqV (xM S mX1_sortByKey [.ref x0] h) xth fun h3 => (xden S mX1_sortRegions 169 [(0, .ref x0), (4, .int (0 : Int32))] [] h3) else none) else ((xGr h x0 1 16).bind fun v5 => (xRr h v5 x4).bind fun v6 => if xOb h v6 7 = true then xqI (xM S mX7_start [.ref v6, .int x1] h) xth fun v9 h8 => if x3 < v9 then (xlet (x2 + (1 : Int32)) fun v10 => if xOb h8 v6 7 = true then xqI (xM S mX7_end [.ref v6, .int x1] h8) xth fun v13 h12 => if xOb h12 v6 7 = true then xqI (xM S mX7_end [.ref v6, .int x1] h12) xth fun v16 h15 => xqI (xM S mJ9_max_7cf53 [.int v13, .int v16] h15) xth fun v18 h17 => if ¬ x1 = 0 then (if xOb h17 v6 7 = true then xqI (xM S mX7_start [.ref v6, .int (0 : Int32)] h17) xth fun v21 h20 => if xOb h20 v6 7 = true then xqI (xM S mX7_start [.ref v6, .int x1] h20) xth fun v24 h23 => (xP false 1 h23 v6 7 8 (.long (((((v10.toInt64) * (64 : Int64)) + (v21.toInt64)) * (64 : Int64)) + (v24.toInt64)))).bind fun h25 => xlet (x4 + (1 : Int32)) fun v26 => (xden S mX1_sortRegions 63 [(0, .ref x0), (1, .int x1), (2, .int v10), (3, .int v18), (4, .int v26)] [] h25) else none else none) else (if xOb h17 v6 7 = true then xqI (xM S mX7_start [.ref v6, .int (1 : Int32)] h17) xth fun v29 h28 => if xOb h28 v6 7 = true then xqI (xM S mX7_start [.ref v6, .int x1] h28) xth fun v32 h31 => (xP false 1 h31 v6 7 8 (.long (((((v10.toInt64) * (64 : Int64)) + (v29.toInt64)) * (64 : Int64)) + (v32.toInt64)))).bind fun h33 => xlet (x4 + (1 : Int32)) fun v34 => (xden S mX1_sortRegions 63 [(0, .ref x0), (1, .int x1), (2, .int v10), (3, .int v18), (4, .int v34)] [] h33) else none else none) else none else none) else (if ¬ x4 = 0 then (if xOb h8 v6 7 = true then xqI (xM S mX7_end [.ref v6, .int x1] h8) xth fun v37 h36 => xqI (xM S mJ9_max_7cf53 [.int x3, .int v37] h36) xth fun v39 h38 => if ¬ x1 = 0 then (if xOb h38 v6 7 = true then xqI (xM S mX7_start [.ref v6, .int (0 : Int32)] h38) xth fun v42 h41 => if xOb h41 v6 7 = true then xqI (xM S mX7_start [.ref v6, .int x1] h41) xth fun v45 h44 => (xP false 1 h44 v6 7 8 (.long (((((x2.toInt64) * (64 : Int64)) + (v42.toInt64)) * (64 : Int64)) + (v45.toInt64)))).bind fun h46 => xlet (x4 + (1 : Int32)) fun v47 => (xden S mX1_sortRegions 63 [(0, .ref x0), (1, .int x1), (2, .int x2), (3, .int v39), (4, .int v47)] [] h46) else none else none) else (if xOb h38 v6 7 = true then xqI (xM S mX7_start [.ref v6, .int (1 : Int32)] h38) xth fun v50 h49 => if xOb h49 v6 7 = true then xqI (xM S mX7_start [.ref v6, .int x1] h49) xth fun v53 h52 => (xP false 1 h52 v6 7 8 (.long (((((x2.toInt64) * (64 : Int64)) + (v50.toInt64)) * (64 : Int64)) + (v53.toInt64)))).bind fun h54 => xlet (x4 + (1 : Int32)) fun v55 => (xden S mX1_sortRegions 63 [(0, .ref x0), (1, .int x1), (2, .int x2), (3, .int v39), (4, .int v55)] [] h54) else none else none) else none) else (xlet (x2 + (1 : Int32)) fun v56 => if xOb h8 v6 7 = true then xqI (xM S mX7_end [.ref v6, .int x1] h8) xth fun v59 h58 => if xOb h58 v6 7 = true then xqI (xM S mX7_end [.ref v6, .int x1] h58) xth fun v62 h61 => xqI (xM S mJ9_max_7cf53 [.int v59, .int v62] h61) xth fun v64 h63 => if ¬ x1 = 0 then (if xOb h63 v6 7 = true then xqI (xM S mX7_start [.ref v6, .int (0 : Int32)] h63) xth fun v67 h66 => if xOb h66 v6 7 = true then xqI (xM S mX7_start [.ref v6, .int x1] h66) xth fun v70 h69 => (xP false 1 h69 v6 7 8 (.long (((((v56.toInt64) * (64 : Int64)) + (v67.toInt64)) * (64 : Int64)) + (v70.toInt64)))).bind fun h71 => xlet (x4 + (1 : Int32)) fun v72 => (xden S mX1_sortRegions 63 [(0, .ref x0), (1, .int x1), (2, .int v56), (3, .int v64), (4, .int v72)] [] h71) else none else none) else (if xOb h63 v6 7 = true then xqI (xM S mX7_start [.ref v6, .int (1 : Int32)] h63) xth fun v75 h74 => if xOb h74 v6 7 = true then xqI (xM S mX7_start [.ref v6, .int x1] h74) xth fun v78 h77 => (xP false 1 h77 v6 7 8 (.long (((((v56.toInt64) * (64 : Int64)) + (v75.toInt64)) * (64 : Int64)) + (v78.toInt64)))).bind fun h79 => xlet (x4 + (1 : Int32)) fun v80 => (xden S mX1_sortRegions 63 [(0, .ref x0), (1, .int x1), (2, .int v56), (3, .int v64), (4, .int v80)] [] h79) else none else none) else none else none)) else none)) (xden S mX1_sortRegions 63 [(0, .ref x0), (1, .int x1), (2, .int x2), (3, .int x3), (4, .int x4)] [] h) := by
  refine l_loc dX1_sortRegions_63 rfl rfl ?_
  refine l_loc dX1_sortRegions_65 rfl rfl ?_
  refine l_gi dX1_sortRegions_66 fl_1_149 (fun v1 => ?_)
  refine l_cge (t := 162) dX1_sortRegions_69 rfl ?_ ?_
  · refine l_loc dX1_sortRegions_162 rfl rfl ?_
    refine l_ob fun q2 => ?_
    refine l_cV dX1_sortRegions_163 rfl rfl rfl (l_xv cl_1_260 ko_mX1_sortByKey rfl rfl rfl q2) rfl rfl nm_mX1_sortByKey (xhE_th rfl) (fun h3 => ?_)
    refine l_ic dX1_sortRegions_166 kI_0 ?_
    refine l_loc (al1 := [(4, .int (0 : Int32)), (0, .ref x0), (1, .int x1), (2, .int x2), (3, .int x3)]) dX1_sortRegions_167 rfl rfl ?_
    exact l_al rfl ⟨rfl, rfl, trivial⟩
  · refine l_loc dX1_sortRegions_72 rfl rfl ?_
    refine l_gr dX1_sortRegions_73 fl_1_30 (fun v5 => ?_)
    refine l_loc dX1_sortRegions_76 rfl rfl ?_
    refine l_rr dX1_sortRegions_78 (fun v6 => ?_)
    refine l_loc (al1 := [(5, .ref v6), (0, .ref x0), (1, .int x1), (2, .int x2), (3, .int x3), (4, .int x4)]) dX1_sortRegions_79 rfl rfl ?_
    refine l_loc dX1_sortRegions_81 rfl rfl ?_
    refine l_loc dX1_sortRegions_83 rfl rfl ?_
    refine l_ob fun q7 => ?_
    refine l_cI dX1_sortRegions_84 rfl rfl rfl (l_xv cl_1_250 ko_mX7_start rfl rfl rfl q7) rfl rfl nm_mX7_start (xhE_th rfl) (fun v9 h8 => ?_)
    refine l_loc dX1_sortRegions_87 rfl rfl ?_
    refine l_cgt (t := 96) dX1_sortRegions_88 rfl ?_ ?_
    · refine l_incl (al1 := fun v10 => [(2, .int v10), (5, .ref v6), (0, .ref x0), (1, .int x1), (3, .int x3), (4, .int x4)]) dX1_sortRegions_96 rfl kI_1 rfl (fun _ => rfl) (fun v10 => ?_)
      refine l_loc dX1_sortRegions_99 rfl rfl ?_
      refine l_loc dX1_sortRegions_101 rfl rfl ?_
      refine l_ob fun q11 => ?_
      refine l_cI dX1_sortRegions_102 rfl rfl rfl (l_xv cl_1_263 ko_mX7_end rfl rfl rfl q11) rfl rfl nm_mX7_end (xhE_th rfl) (fun v13 h12 => ?_)
      refine l_loc (al1 := [(3, .int v13), (2, .int v10), (5, .ref v6), (0, .ref x0), (1, .int x1), (4, .int x4)]) dX1_sortRegions_105 rfl rfl ?_
      refine l_loc dX1_sortRegions_106 rfl rfl ?_
      refine l_loc dX1_sortRegions_107 rfl rfl ?_
      refine l_loc dX1_sortRegions_109 rfl rfl ?_
      refine l_ob fun q14 => ?_
      refine l_cI dX1_sortRegions_110 rfl rfl rfl (l_xv cl_1_263 ko_mX7_end rfl rfl rfl q14) rfl rfl nm_mX7_end (xhE_th rfl) (fun v16 h15 => ?_)
      refine l_cI dX1_sortRegions_113 rfl rfl rfl (l_xs cl_1_175 ko_mJ9_max_7cf53 rfl rfl) rfl rfl nm_mJ9_max_7cf53 (xhE_th rfl) (fun v18 h17 => ?_)
      refine l_loc (al1 := [(3, .int v18), (2, .int v10), (5, .ref v6), (0, .ref x0), (1, .int x1), (4, .int x4)]) dX1_sortRegions_116 rfl rfl ?_
      refine l_loc dX1_sortRegions_117 rfl rfl ?_
      refine l_loc dX1_sortRegions_119 rfl rfl ?_
      refine l_pure dX1_sortRegions_120 rfl rfl ?_
      refine l_rd (st1 := [.long (64 : Int64), .long (v10.toInt64), .ref v6]) dX1_sortRegions_121 rfl rfl ?_
      refine l_pure dX1_sortRegions_124 rfl rfl ?_
      refine l_loc dX1_sortRegions_125 rfl rfl ?_
      refine l_loc dX1_sortRegions_127 rfl rfl ?_
      refine l_ine (t := 135) dX1_sortRegions_128 rfl ?_ ?_
      · refine l_ic dX1_sortRegions_135 kI_0 ?_
        refine l_ob fun q19 => ?_
        refine l_cI dX1_sortRegions_136 rfl rfl rfl (l_xv cl_1_250 ko_mX7_start rfl rfl rfl q19) rfl rfl nm_mX7_start (xhE_th rfl) (fun v21 h20 => ?_)
        refine l_pure dX1_sortRegions_139 rfl rfl ?_
        refine l_pure dX1_sortRegions_140 rfl rfl ?_
        refine l_rd (st1 := [.long (64 : Int64), .long (((v10.toInt64) * (64 : Int64)) + (v21.toInt64)), .ref v6]) dX1_sortRegions_141 rfl rfl ?_
        refine l_pure dX1_sortRegions_144 rfl rfl ?_
        refine l_loc dX1_sortRegions_145 rfl rfl ?_
        refine l_loc dX1_sortRegions_147 rfl rfl ?_
        refine l_ob fun q22 => ?_
        refine l_cI dX1_sortRegions_148 rfl rfl rfl (l_xv cl_1_250 ko_mX7_start rfl rfl rfl q22) rfl rfl nm_mX7_start (xhE_th rfl) (fun v24 h23 => ?_)
        refine l_pure dX1_sortRegions_151 rfl rfl ?_
        refine l_pure dX1_sortRegions_152 rfl rfl ?_
        refine l_pf dX1_sortRegions_153 fl_1_256 (ini := false) nm_mX1_sortRegions (fun h25 => ?_)
        refine l_incl (al1 := fun v26 => [(4, .int v26), (3, .int v18), (2, .int v10), (5, .ref v6), (0, .ref x0), (1, .int x1)]) dX1_sortRegions_156 rfl kI_1 rfl (fun _ => rfl) (fun v26 => ?_)
        refine l_goto (t := 63) dX1_sortRegions_159 rfl ?_
        exact l_al rfl ⟨rfl, rfl, rfl, rfl, rfl, trivial⟩
      · refine l_ic dX1_sortRegions_131 kI_1 ?_
        refine l_goto (t := 136) dX1_sortRegions_132 rfl ?_
        refine l_ob fun q27 => ?_
        refine l_cI dX1_sortRegions_136 rfl rfl rfl (l_xv cl_1_250 ko_mX7_start rfl rfl rfl q27) rfl rfl nm_mX7_start (xhE_th rfl) (fun v29 h28 => ?_)
        refine l_pure dX1_sortRegions_139 rfl rfl ?_
        refine l_pure dX1_sortRegions_140 rfl rfl ?_
        refine l_rd (st1 := [.long (64 : Int64), .long (((v10.toInt64) * (64 : Int64)) + (v29.toInt64)), .ref v6]) dX1_sortRegions_141 rfl rfl ?_
        refine l_pure dX1_sortRegions_144 rfl rfl ?_
        refine l_loc dX1_sortRegions_145 rfl rfl ?_
        refine l_loc dX1_sortRegions_147 rfl rfl ?_
        refine l_ob fun q30 => ?_
        refine l_cI dX1_sortRegions_148 rfl rfl rfl (l_xv cl_1_250 ko_mX7_start rfl rfl rfl q30) rfl rfl nm_mX7_start (xhE_th rfl) (fun v32 h31 => ?_)
        refine l_pure dX1_sortRegions_151 rfl rfl ?_
        refine l_pure dX1_sortRegions_152 rfl rfl ?_
        refine l_pf dX1_sortRegions_153 fl_1_256 (ini := false) nm_mX1_sortRegions (fun h33 => ?_)
        refine l_incl (al1 := fun v34 => [(4, .int v34), (3, .int v18), (2, .int v10), (5, .ref v6), (0, .ref x0), (1, .int x1)]) dX1_sortRegions_156 rfl kI_1 rfl (fun _ => rfl) (fun v34 => ?_)
        refine l_goto (t := 63) dX1_sortRegions_159 rfl ?_
        exact l_al rfl ⟨rfl, rfl, rfl, rfl, rfl, trivial⟩
    · refine l_loc dX1_sortRegions_91 rfl rfl ?_
      refine l_ine (t := 106) dX1_sortRegions_93 rfl ?_ ?_
      · refine l_loc dX1_sortRegions_106 rfl rfl ?_
        refine l_loc dX1_sortRegions_107 rfl rfl ?_
        refine l_loc dX1_sortRegions_109 rfl rfl ?_
        refine l_ob fun q35 => ?_
        refine l_cI dX1_sortRegions_110 rfl rfl rfl (l_xv cl_1_263 ko_mX7_end rfl rfl rfl q35) rfl rfl nm_mX7_end (xhE_th rfl) (fun v37 h36 => ?_)
        refine l_cI dX1_sortRegions_113 rfl rfl rfl (l_xs cl_1_175 ko_mJ9_max_7cf53 rfl rfl) rfl rfl nm_mJ9_max_7cf53 (xhE_th rfl) (fun v39 h38 => ?_)
        refine l_loc (al1 := [(3, .int v39), (5, .ref v6), (0, .ref x0), (1, .int x1), (2, .int x2), (4, .int x4)]) dX1_sortRegions_116 rfl rfl ?_
        refine l_loc dX1_sortRegions_117 rfl rfl ?_
        refine l_loc dX1_sortRegions_119 rfl rfl ?_
        refine l_pure dX1_sortRegions_120 rfl rfl ?_
        refine l_rd (st1 := [.long (64 : Int64), .long (x2.toInt64), .ref v6]) dX1_sortRegions_121 rfl rfl ?_
        refine l_pure dX1_sortRegions_124 rfl rfl ?_
        refine l_loc dX1_sortRegions_125 rfl rfl ?_
        refine l_loc dX1_sortRegions_127 rfl rfl ?_
        refine l_ine (t := 135) dX1_sortRegions_128 rfl ?_ ?_
        · refine l_ic dX1_sortRegions_135 kI_0 ?_
          refine l_ob fun q40 => ?_
          refine l_cI dX1_sortRegions_136 rfl rfl rfl (l_xv cl_1_250 ko_mX7_start rfl rfl rfl q40) rfl rfl nm_mX7_start (xhE_th rfl) (fun v42 h41 => ?_)
          refine l_pure dX1_sortRegions_139 rfl rfl ?_
          refine l_pure dX1_sortRegions_140 rfl rfl ?_
          refine l_rd (st1 := [.long (64 : Int64), .long (((x2.toInt64) * (64 : Int64)) + (v42.toInt64)), .ref v6]) dX1_sortRegions_141 rfl rfl ?_
          refine l_pure dX1_sortRegions_144 rfl rfl ?_
          refine l_loc dX1_sortRegions_145 rfl rfl ?_
          refine l_loc dX1_sortRegions_147 rfl rfl ?_
          refine l_ob fun q43 => ?_
          refine l_cI dX1_sortRegions_148 rfl rfl rfl (l_xv cl_1_250 ko_mX7_start rfl rfl rfl q43) rfl rfl nm_mX7_start (xhE_th rfl) (fun v45 h44 => ?_)
          refine l_pure dX1_sortRegions_151 rfl rfl ?_
          refine l_pure dX1_sortRegions_152 rfl rfl ?_
          refine l_pf dX1_sortRegions_153 fl_1_256 (ini := false) nm_mX1_sortRegions (fun h46 => ?_)
          refine l_incl (al1 := fun v47 => [(4, .int v47), (3, .int v39), (5, .ref v6), (0, .ref x0), (1, .int x1), (2, .int x2)]) dX1_sortRegions_156 rfl kI_1 rfl (fun _ => rfl) (fun v47 => ?_)
          refine l_goto (t := 63) dX1_sortRegions_159 rfl ?_
          exact l_al rfl ⟨rfl, rfl, rfl, rfl, rfl, trivial⟩
        · refine l_ic dX1_sortRegions_131 kI_1 ?_
          refine l_goto (t := 136) dX1_sortRegions_132 rfl ?_
          refine l_ob fun q48 => ?_
          refine l_cI dX1_sortRegions_136 rfl rfl rfl (l_xv cl_1_250 ko_mX7_start rfl rfl rfl q48) rfl rfl nm_mX7_start (xhE_th rfl) (fun v50 h49 => ?_)
          refine l_pure dX1_sortRegions_139 rfl rfl ?_
          refine l_pure dX1_sortRegions_140 rfl rfl ?_
          refine l_rd (st1 := [.long (64 : Int64), .long (((x2.toInt64) * (64 : Int64)) + (v50.toInt64)), .ref v6]) dX1_sortRegions_141 rfl rfl ?_
          refine l_pure dX1_sortRegions_144 rfl rfl ?_
          refine l_loc dX1_sortRegions_145 rfl rfl ?_
          refine l_loc dX1_sortRegions_147 rfl rfl ?_
          refine l_ob fun q51 => ?_
          refine l_cI dX1_sortRegions_148 rfl rfl rfl (l_xv cl_1_250 ko_mX7_start rfl rfl rfl q51) rfl rfl nm_mX7_start (xhE_th rfl) (fun v53 h52 => ?_)
          refine l_pure dX1_sortRegions_151 rfl rfl ?_
          refine l_pure dX1_sortRegions_152 rfl rfl ?_
          refine l_pf dX1_sortRegions_153 fl_1_256 (ini := false) nm_mX1_sortRegions (fun h54 => ?_)
          refine l_incl (al1 := fun v55 => [(4, .int v55), (3, .int v39), (5, .ref v6), (0, .ref x0), (1, .int x1), (2, .int x2)]) dX1_sortRegions_156 rfl kI_1 rfl (fun _ => rfl) (fun v55 => ?_)
          refine l_goto (t := 63) dX1_sortRegions_159 rfl ?_
          exact l_al rfl ⟨rfl, rfl, rfl, rfl, rfl, trivial⟩
      · refine l_incl (al1 := fun v56 => [(2, .int v56), (5, .ref v6), (0, .ref x0), (1, .int x1), (3, .int x3), (4, .int x4)]) dX1_sortRegions_96 rfl kI_1 rfl (fun _ => rfl) (fun v56 => ?_)
        refine l_loc dX1_sortRegions_99 rfl rfl ?_
        refine l_loc dX1_sortRegions_101 rfl rfl ?_
        refine l_ob fun q57 => ?_
        refine l_cI dX1_sortRegions_102 rfl rfl rfl (l_xv cl_1_263 ko_mX7_end rfl rfl rfl q57) rfl rfl nm_mX7_end (xhE_th rfl) (fun v59 h58 => ?_)
        refine l_loc (al1 := [(3, .int v59), (2, .int v56), (5, .ref v6), (0, .ref x0), (1, .int x1), (4, .int x4)]) dX1_sortRegions_105 rfl rfl ?_
        refine l_loc dX1_sortRegions_106 rfl rfl ?_
        refine l_loc dX1_sortRegions_107 rfl rfl ?_
        refine l_loc dX1_sortRegions_109 rfl rfl ?_
        refine l_ob fun q60 => ?_
        refine l_cI dX1_sortRegions_110 rfl rfl rfl (l_xv cl_1_263 ko_mX7_end rfl rfl rfl q60) rfl rfl nm_mX7_end (xhE_th rfl) (fun v62 h61 => ?_)
        refine l_cI dX1_sortRegions_113 rfl rfl rfl (l_xs cl_1_175 ko_mJ9_max_7cf53 rfl rfl) rfl rfl nm_mJ9_max_7cf53 (xhE_th rfl) (fun v64 h63 => ?_)
        refine l_loc (al1 := [(3, .int v64), (2, .int v56), (5, .ref v6), (0, .ref x0), (1, .int x1), (4, .int x4)]) dX1_sortRegions_116 rfl rfl ?_
        refine l_loc dX1_sortRegions_117 rfl rfl ?_
        refine l_loc dX1_sortRegions_119 rfl rfl ?_
        refine l_pure dX1_sortRegions_120 rfl rfl ?_
        refine l_rd (st1 := [.long (64 : Int64), .long (v56.toInt64), .ref v6]) dX1_sortRegions_121 rfl rfl ?_
        refine l_pure dX1_sortRegions_124 rfl rfl ?_
        refine l_loc dX1_sortRegions_125 rfl rfl ?_
        refine l_loc dX1_sortRegions_127 rfl rfl ?_
        refine l_ine (t := 135) dX1_sortRegions_128 rfl ?_ ?_
        · refine l_ic dX1_sortRegions_135 kI_0 ?_
          refine l_ob fun q65 => ?_
          refine l_cI dX1_sortRegions_136 rfl rfl rfl (l_xv cl_1_250 ko_mX7_start rfl rfl rfl q65) rfl rfl nm_mX7_start (xhE_th rfl) (fun v67 h66 => ?_)
          refine l_pure dX1_sortRegions_139 rfl rfl ?_
          refine l_pure dX1_sortRegions_140 rfl rfl ?_
          refine l_rd (st1 := [.long (64 : Int64), .long (((v56.toInt64) * (64 : Int64)) + (v67.toInt64)), .ref v6]) dX1_sortRegions_141 rfl rfl ?_
          refine l_pure dX1_sortRegions_144 rfl rfl ?_
          refine l_loc dX1_sortRegions_145 rfl rfl ?_
          refine l_loc dX1_sortRegions_147 rfl rfl ?_
          refine l_ob fun q68 => ?_
          refine l_cI dX1_sortRegions_148 rfl rfl rfl (l_xv cl_1_250 ko_mX7_start rfl rfl rfl q68) rfl rfl nm_mX7_start (xhE_th rfl) (fun v70 h69 => ?_)
          refine l_pure dX1_sortRegions_151 rfl rfl ?_
          refine l_pure dX1_sortRegions_152 rfl rfl ?_
          refine l_pf dX1_sortRegions_153 fl_1_256 (ini := false) nm_mX1_sortRegions (fun h71 => ?_)
          refine l_incl (al1 := fun v72 => [(4, .int v72), (3, .int v64), (2, .int v56), (5, .ref v6), (0, .ref x0), (1, .int x1)]) dX1_sortRegions_156 rfl kI_1 rfl (fun _ => rfl) (fun v72 => ?_)
          refine l_goto (t := 63) dX1_sortRegions_159 rfl ?_
          exact l_al rfl ⟨rfl, rfl, rfl, rfl, rfl, trivial⟩
        · refine l_ic dX1_sortRegions_131 kI_1 ?_
          refine l_goto (t := 136) dX1_sortRegions_132 rfl ?_
          refine l_ob fun q73 => ?_
          refine l_cI dX1_sortRegions_136 rfl rfl rfl (l_xv cl_1_250 ko_mX7_start rfl rfl rfl q73) rfl rfl nm_mX7_start (xhE_th rfl) (fun v75 h74 => ?_)
          refine l_pure dX1_sortRegions_139 rfl rfl ?_
          refine l_pure dX1_sortRegions_140 rfl rfl ?_
          refine l_rd (st1 := [.long (64 : Int64), .long (((v56.toInt64) * (64 : Int64)) + (v75.toInt64)), .ref v6]) dX1_sortRegions_141 rfl rfl ?_
          refine l_pure dX1_sortRegions_144 rfl rfl ?_
          refine l_loc dX1_sortRegions_145 rfl rfl ?_
          refine l_loc dX1_sortRegions_147 rfl rfl ?_
          refine l_ob fun q76 => ?_
          refine l_cI dX1_sortRegions_148 rfl rfl rfl (l_xv cl_1_250 ko_mX7_start rfl rfl rfl q76) rfl rfl nm_mX7_start (xhE_th rfl) (fun v78 h77 => ?_)
          refine l_pure dX1_sortRegions_151 rfl rfl ?_
          refine l_pure dX1_sortRegions_152 rfl rfl ?_
          refine l_pf dX1_sortRegions_153 fl_1_256 (ini := false) nm_mX1_sortRegions (fun h79 => ?_)
          refine l_incl (al1 := fun v80 => [(4, .int v80), (3, .int v64), (2, .int v56), (5, .ref v6), (0, .ref x0), (1, .int x1)]) dX1_sortRegions_156 rfl kI_1 rfl (fun _ => rfl) (fun v80 => ?_)
          refine l_goto (t := 63) dX1_sortRegions_159 rfl ?_
          exact l_al rfl ⟨rfl, rfl, rfl, rfl, rfl, trivial⟩
set_option maxRecDepth 16000 in
theorem w_X1_sortRegions_169 (S : xS) (x0 : Nat) (x4 : Int32) (h : xH) : xle ((xGi h x0 1 17).bind fun v1 => if v1 ≤ x4 then (some (.inl none, h, 0, 0)) else ((xGr h x0 1 16).bind fun v2 => (xRr h v2 x4).bind fun v3 => if xOb h v3 7 = true then xqV (xM S mX7_takeNumber [.ref v3, .int x4] h) xth fun h5 => xlet (x4 + (1 : Int32)) fun v7 => (xden S mX1_sortRegions 169 [(0, .ref x0), (4, .int v7)] [] h5) else none)) (xden S mX1_sortRegions 169 [(0, .ref x0), (4, .int x4)] [] h) := by
  refine l_loc dX1_sortRegions_169 rfl rfl ?_
  refine l_loc dX1_sortRegions_171 rfl rfl ?_
  refine l_gi dX1_sortRegions_172 fl_1_149 (fun v1 => ?_)
  refine l_cge (t := 196) dX1_sortRegions_175 rfl ?_ ?_
  · exact l_end dX1_sortRegions_196 rfl rfl
  · refine l_loc dX1_sortRegions_178 rfl rfl ?_
    refine l_gr dX1_sortRegions_179 fl_1_30 (fun v2 => ?_)
    refine l_loc dX1_sortRegions_182 rfl rfl ?_
    refine l_rr dX1_sortRegions_184 (fun v3 => ?_)
    refine l_loc dX1_sortRegions_185 rfl rfl ?_
    refine l_ob fun q4 => ?_
    refine l_cV dX1_sortRegions_187 rfl rfl rfl (l_xv cl_1_266 ko_mX7_takeNumber rfl rfl rfl q4) rfl rfl nm_mX7_takeNumber (xhE_th rfl) (fun h5 => ?_)
    refine l_incl (al1 := fun v7 => [(4, .int v7), (0, .ref x0)]) dX1_sortRegions_190 rfl kI_1 rfl (fun _ => rfl) (fun v7 => ?_)
    refine l_goto (t := 169) dX1_sortRegions_193 rfl ?_
    exact l_al rfl ⟨rfl, rfl, trivial⟩
theorem w_X1_sortByKey (S : xS) (x0 : Nat) (h : xH) : xle (xden S mX1_sortByKey 2 [(0, .ref x0), (1, .int (1 : Int32))] [] h) (xM S mX1_sortByKey [.ref x0] h) := by
  show xle _ (xden S mX1_sortByKey 0 [(0, .ref x0)] [] h)
  refine l_ic dX1_sortByKey_0 kI_1 ?_
  refine l_loc (al1 := [(1, .int (1 : Int32)), (0, .ref x0)]) dX1_sortByKey_1 rfl rfl ?_
  exact l_al rfl ⟨rfl, rfl, trivial⟩
set_option maxRecDepth 16000 in
theorem w_X1_sortByKey_2 (S : xS) (x0 : Nat) (x1 : Int32) (h : xH) : xle ((xGi h x0 1 17).bind fun v1 => if v1 ≤ x1 then (some (.inl none, h, 0, 0)) else ((xGr h x0 1 16).bind fun v2 => (xRr h v2 x1).bind fun v3 => (xden S mX1_sortByKey 19 [(0, .ref x0), (1, .int x1), (2, .ref v3), (3, .int x1)] [] h))) (xden S mX1_sortByKey 2 [(0, .ref x0), (1, .int x1)] [] h) := by
  refine l_loc dX1_sortByKey_2 rfl rfl ?_
  refine l_loc dX1_sortByKey_3 rfl rfl ?_
  refine l_gi dX1_sortByKey_4 fl_1_149 (fun v1 => ?_)
  refine l_cge (t := 75) dX1_sortByKey_7 rfl ?_ ?_
  · exact l_end dX1_sortByKey_75 rfl rfl
  · refine l_loc dX1_sortByKey_10 rfl rfl ?_
    refine l_gr dX1_sortByKey_11 fl_1_30 (fun v2 => ?_)
    refine l_loc dX1_sortByKey_14 rfl rfl ?_
    refine l_rr dX1_sortByKey_15 (fun v3 => ?_)
    refine l_loc (al1 := [(2, .ref v3), (0, .ref x0), (1, .int x1)]) dX1_sortByKey_16 rfl rfl ?_
    refine l_loc dX1_sortByKey_17 rfl rfl ?_
    refine l_loc (al1 := [(3, .int x1), (2, .ref v3), (0, .ref x0), (1, .int x1)]) dX1_sortByKey_18 rfl rfl ?_
    exact l_al rfl ⟨rfl, rfl, rfl, rfl, trivial⟩
set_option maxRecDepth 16000 in
theorem w_X1_sortByKey_19 (S : xS) (x0 : Nat) (x1 : Int32) (x2 : Nat) (x3 : Int32) (h : xH) : xle (if x3 ≤ 0 then ((xGr h x0 1 16).bind fun v1 => (xWr h v1 x3 x2).bind fun h2 => xlet (x1 + (1 : Int32)) fun v3 => (xden S mX1_sortByKey 2 [(0, .ref x0), (1, .int v3)] [] h2)) else ((xGr h x0 1 16).bind fun v4 => (xRr h v4 (x3 - (1 : Int32))).bind fun v5 => (xGl h v5 7 8).bind fun v6 => (xGl h x2 7 8).bind fun v7 => if (lg_cmp v6 v7) ≤ 0 then ((xGr h x0 1 16).bind fun v8 => (xWr h v8 x3 x2).bind fun h9 => xlet (x1 + (1 : Int32)) fun v10 => (xden S mX1_sortByKey 2 [(0, .ref x0), (1, .int v10)] [] h9)) else ((xGr h x0 1 16).bind fun v11 => (xGr h x0 1 16).bind fun v12 => (xRr h v12 (x3 - (1 : Int32))).bind fun v13 => (xWr h v11 x3 v13).bind fun h14 => xlet (x3 + (-1 : Int32)) fun v15 => (xden S mX1_sortByKey 19 [(0, .ref x0), (1, .int x1), (2, .ref x2), (3, .int v15)] [] h14)))) (xden S mX1_sortByKey 19 [(0, .ref x0), (1, .int x1), (2, .ref x2), (3, .int x3)] [] h) := by
  refine l_loc dX1_sortByKey_19 rfl rfl ?_
  refine l_ile (t := 62) dX1_sortByKey_20 rfl ?_ ?_
  · refine l_loc dX1_sortByKey_62 rfl rfl ?_
    refine l_gr dX1_sortByKey_63 fl_1_30 (fun v1 => ?_)
    refine l_loc dX1_sortByKey_66 rfl rfl ?_
    refine l_loc dX1_sortByKey_67 rfl rfl ?_
    refine l_wa dX1_sortByKey_68 (fun h2 => ?_)
    refine l_incl (al1 := fun v3 => [(1, .int v3), (0, .ref x0), (2, .ref x2), (3, .int x3)]) dX1_sortByKey_69 rfl kI_1 rfl (fun _ => rfl) (fun v3 => ?_)
    refine l_goto (t := 2) dX1_sortByKey_72 rfl ?_
    exact l_al rfl ⟨rfl, rfl, trivial⟩
  · refine l_loc dX1_sortByKey_23 rfl rfl ?_
    refine l_gr dX1_sortByKey_24 fl_1_30 (fun v4 => ?_)
    refine l_loc dX1_sortByKey_27 rfl rfl ?_
    refine l_ic dX1_sortByKey_28 kI_1 ?_
    refine l_pure dX1_sortByKey_29 rfl rfl ?_
    refine l_rr dX1_sortByKey_30 (fun v5 => ?_)
    refine l_gl dX1_sortByKey_31 fl_1_256 (fun v6 => ?_)
    refine l_loc dX1_sortByKey_34 rfl rfl ?_
    refine l_gl dX1_sortByKey_35 fl_1_256 (fun v7 => ?_)
    refine l_pure dX1_sortByKey_38 rfl rfl ?_
    refine l_ile (t := 62) dX1_sortByKey_39 rfl ?_ ?_
    · refine l_loc dX1_sortByKey_62 rfl rfl ?_
      refine l_gr dX1_sortByKey_63 fl_1_30 (fun v8 => ?_)
      refine l_loc dX1_sortByKey_66 rfl rfl ?_
      refine l_loc dX1_sortByKey_67 rfl rfl ?_
      refine l_wa dX1_sortByKey_68 (fun h9 => ?_)
      refine l_incl (al1 := fun v10 => [(1, .int v10), (0, .ref x0), (2, .ref x2), (3, .int x3)]) dX1_sortByKey_69 rfl kI_1 rfl (fun _ => rfl) (fun v10 => ?_)
      refine l_goto (t := 2) dX1_sortByKey_72 rfl ?_
      exact l_al rfl ⟨rfl, rfl, trivial⟩
    · refine l_loc dX1_sortByKey_42 rfl rfl ?_
      refine l_gr dX1_sortByKey_43 fl_1_30 (fun v11 => ?_)
      refine l_loc dX1_sortByKey_46 rfl rfl ?_
      refine l_loc dX1_sortByKey_47 rfl rfl ?_
      refine l_gr dX1_sortByKey_48 fl_1_30 (fun v12 => ?_)
      refine l_loc dX1_sortByKey_51 rfl rfl ?_
      refine l_ic dX1_sortByKey_52 kI_1 ?_
      refine l_pure dX1_sortByKey_53 rfl rfl ?_
      refine l_rr dX1_sortByKey_54 (fun v13 => ?_)
      refine l_wa dX1_sortByKey_55 (fun h14 => ?_)
      refine l_incl (al1 := fun v15 => [(3, .int v15), (0, .ref x0), (1, .int x1), (2, .ref x2)]) dX1_sortByKey_56 rfl kI_m1 rfl (fun _ => rfl) (fun v15 => ?_)
      refine l_goto (t := 19) dX1_sortByKey_59 rfl ?_
      exact l_al rfl ⟨rfl, rfl, rfl, rfl, trivial⟩
theorem w_X1_pairParts (S : xS) (x0 : Nat) (x1 : Int32) (h : xH) : xle (xden S mX1_pairParts 2 [(0, .ref x0), (1, .int x1), (2, .int (0 : Int32))] [] h) (xM S mX1_pairParts [.ref x0, .int x1] h) := by
  show xle _ (xden S mX1_pairParts 0 [(0, .ref x0), (1, .int x1)] [] h)
  refine l_ic dX1_pairParts_0 kI_0 ?_
  refine l_loc (al1 := [(2, .int (0 : Int32)), (0, .ref x0), (1, .int x1)]) dX1_pairParts_1 rfl rfl ?_
  exact l_al rfl ⟨rfl, rfl, rfl, trivial⟩
set_option maxRecDepth 16000 in
theorem w_X1_pairParts_2 (S : xS) (x0 : Nat) (x1 : Int32) (x2 : Int32) (h : xH) : xle ((xGi h x0 1 17).bind fun v1 => if v1 ≤ x2 then (some (.inl none, h, 0, 0)) else ((xGr h x0 1 16).bind fun v2 => (xRr h v2 x2).bind fun v3 => (xGr h v3 7 0).bind fun v4 => (xGi h v4 5 6).bind fun v5 => if v5 < x1 then (xlet (x2 + (1 : Int32)) fun v6 => (xden S mX1_pairParts 2 [(0, .ref x0), (1, .int x1), (2, .int v6)] [] h)) else (if xOb h x0 1 = true then xqV (xM S mX1_pair [.ref x0, .ref v4] h) xth fun h8 => xlet (x2 + (1 : Int32)) fun v10 => (xden S mX1_pairParts 2 [(0, .ref x0), (1, .int x1), (2, .int v10)] [] h8) else none))) (xden S mX1_pairParts 2 [(0, .ref x0), (1, .int x1), (2, .int x2)] [] h) := by
  refine l_loc dX1_pairParts_2 rfl rfl ?_
  refine l_loc dX1_pairParts_3 rfl rfl ?_
  refine l_gi dX1_pairParts_4 fl_1_149 (fun v1 => ?_)
  refine l_cge (t := 39) dX1_pairParts_7 rfl ?_ ?_
  · exact l_end dX1_pairParts_39 rfl rfl
  · refine l_loc dX1_pairParts_10 rfl rfl ?_
    refine l_gr dX1_pairParts_11 fl_1_30 (fun v2 => ?_)
    refine l_loc dX1_pairParts_14 rfl rfl ?_
    refine l_rr dX1_pairParts_15 (fun v3 => ?_)
    refine l_gr dX1_pairParts_16 fl_1_214 (fun v4 => ?_)
    refine l_loc (al1 := [(3, .ref v4), (0, .ref x0), (1, .int x1), (2, .int x2)]) dX1_pairParts_19 rfl rfl ?_
    refine l_loc dX1_pairParts_20 rfl rfl ?_
    refine l_gi dX1_pairParts_21 fl_1_269 (fun v5 => ?_)
    refine l_loc dX1_pairParts_24 rfl rfl ?_
    refine l_clt (t := 33) dX1_pairParts_25 rfl ?_ ?_
    · refine l_incl (al1 := fun v6 => [(2, .int v6), (3, .ref v4), (0, .ref x0), (1, .int x1)]) dX1_pairParts_33 rfl kI_1 rfl (fun _ => rfl) (fun v6 => ?_)
      refine l_goto (t := 2) dX1_pairParts_36 rfl ?_
      exact l_al rfl ⟨rfl, rfl, rfl, trivial⟩
    · refine l_loc dX1_pairParts_28 rfl rfl ?_
      refine l_loc dX1_pairParts_29 rfl rfl ?_
      refine l_ob fun q7 => ?_
      refine l_cV dX1_pairParts_30 rfl rfl rfl (l_xv cl_1_272 ko_mX1_pair rfl rfl rfl q7) rfl rfl nm_mX1_pair (xhE_th rfl) (fun h8 => ?_)
      refine l_incl (al1 := fun v10 => [(2, .int v10), (3, .ref v4), (0, .ref x0), (1, .int x1)]) dX1_pairParts_33 rfl kI_1 rfl (fun _ => rfl) (fun v10 => ?_)
      refine l_goto (t := 2) dX1_pairParts_36 rfl ?_
      exact l_al rfl ⟨rfl, rfl, rfl, trivial⟩
theorem w_X1_pair (S : xS) (x0 : Nat) (x1 : Nat) (h : xH) : xle (xden S mX1_pair 2 [(0, .ref x0), (1, .ref x1), (2, .int (0 : Int32))] [] h) (xM S mX1_pair [.ref x0, .ref x1] h) := by
  show xle _ (xden S mX1_pair 0 [(0, .ref x0), (1, .ref x1)] [] h)
  refine l_ic dX1_pair_0 kI_0 ?_
  refine l_loc (al1 := [(2, .int (0 : Int32)), (0, .ref x0), (1, .ref x1)]) dX1_pair_1 rfl rfl ?_
  exact l_al rfl ⟨rfl, rfl, rfl, trivial⟩
set_option maxRecDepth 16000 in
theorem w_X1_pair_2 (S : xS) (x0 : Nat) (x1 : Nat) (x2 : Int32) (h : xH) : xle ((xGi h x0 1 17).bind fun v1 => if v1 ≤ x2 then (some (.inl none, h, 0, 0)) else ((xGr h x0 1 16).bind fun v2 => (xRr h v2 x2).bind fun v3 => (xGr h v3 7 1).bind fun v4 => (xGn h v4 5 8).bind (xon (if xOb h v4 5 = true then xqI (xM S mX5_hasShapeOf [.ref v4, .ref x1] h) xth fun v8 h7 => if v8 = 0 then (xlet (x2 + (1 : Int32)) fun v9 => (xden S mX1_pair 2 [(0, .ref x0), (1, .ref x1), (2, .int v9)] [] h7)) else ((xP false 1 h7 x1 5 8 (.ref v4)).bind fun h10 => (xP false 1 h10 v4 5 8 (.ref x1)).bind fun h11 => some (.inl none, h11, 0, 0)) else none) (fun v5 => xlet (x2 + (1 : Int32)) fun v12 => (xden S mX1_pair 2 [(0, .ref x0), (1, .ref x1), (2, .int v12)] [] h))))) (xden S mX1_pair 2 [(0, .ref x0), (1, .ref x1), (2, .int x2)] [] h) := by
  refine l_loc dX1_pair_2 rfl rfl ?_
  refine l_loc dX1_pair_3 rfl rfl ?_
  refine l_gi dX1_pair_4 fl_1_149 (fun v1 => ?_)
  refine l_cge (t := 52) dX1_pair_7 rfl ?_ ?_
  · exact l_end dX1_pair_52 rfl rfl
  · refine l_loc dX1_pair_10 rfl rfl ?_
    refine l_gr dX1_pair_11 fl_1_30 (fun v2 => ?_)
    refine l_loc dX1_pair_14 rfl rfl ?_
    refine l_rr dX1_pair_15 (fun v3 => ?_)
    refine l_gr dX1_pair_16 fl_1_222 (fun v4 => ?_)
    refine l_loc (al1 := [(3, .ref v4), (0, .ref x0), (1, .ref x1), (2, .int x2)]) dX1_pair_19 rfl rfl ?_
    refine l_loc dX1_pair_20 rfl rfl ?_
    refine l_gn dX1_pair_21 fl_1_276 ?_ (fun v5 => ?_)
    · refine l_nnulN dX1_pair_24 ?_
      refine l_loc dX1_pair_27 rfl rfl ?_
      refine l_loc dX1_pair_28 rfl rfl ?_
      refine l_ob fun q6 => ?_
      refine l_cI dX1_pair_29 rfl rfl rfl (l_xv cl_1_279 ko_mX5_hasShapeOf rfl rfl rfl q6) rfl rfl nm_mX5_hasShapeOf (xhE_th rfl) (fun v8 h7 => ?_)
      refine l_ieq (t := 46) dX1_pair_32 rfl ?_ ?_
      · refine l_incl (al1 := fun v9 => [(2, .int v9), (3, .ref v4), (0, .ref x0), (1, .ref x1)]) dX1_pair_46 rfl kI_1 rfl (fun _ => rfl) (fun v9 => ?_)
        refine l_goto (t := 2) dX1_pair_49 rfl ?_
        exact l_al rfl ⟨rfl, rfl, rfl, trivial⟩
      · refine l_loc dX1_pair_35 rfl rfl ?_
        refine l_loc dX1_pair_36 rfl rfl ?_
        refine l_pf dX1_pair_37 fl_1_276 (ini := false) nm_mX1_pair (fun h10 => ?_)
        refine l_loc dX1_pair_40 rfl rfl ?_
        refine l_loc dX1_pair_41 rfl rfl ?_
        refine l_pf dX1_pair_42 fl_1_276 (ini := false) nm_mX1_pair (fun h11 => ?_)
        exact l_end dX1_pair_45 rfl rfl
    · refine l_nnulR (t := 46) dX1_pair_24 rfl ?_
      refine l_incl (al1 := fun v12 => [(2, .int v12), (3, .ref v4), (0, .ref x0), (1, .ref x1)]) dX1_pair_46 rfl kI_1 rfl (fun _ => rfl) (fun v12 => ?_)
      refine l_goto (t := 2) dX1_pair_49 rfl ?_
      exact l_al rfl ⟨rfl, rfl, rfl, trivial⟩
set_option maxRecDepth 16000 in
theorem w_X1_listChanges (S : xS) (x0 : Nat) (x1 : Int32) (x2 : Nat) (h : xH) : xle ((xP false 1 h x0 1 19 (.int (0 : Int32))).bind fun h1 => (xden S mX1_listChanges 7 [(0, .ref x0), (1, .int x1), (2, .ref x2), (3, .int (0 : Int32))] [] h1)) (xM S mX1_listChanges [.ref x0, .int x1, .ref x2] h) := by
  show xle _ (xden S mX1_listChanges 0 [(0, .ref x0), (1, .int x1), (2, .ref x2)] [] h)
  refine l_loc dX1_listChanges_0 rfl rfl ?_
  refine l_ic dX1_listChanges_1 kI_0 ?_
  refine l_pf dX1_listChanges_2 fl_1_283 (ini := false) nm_mX1_listChanges (fun h1 => ?_)
  refine l_ic dX1_listChanges_5 kI_0 ?_
  refine l_loc (al1 := [(3, .int (0 : Int32)), (0, .ref x0), (1, .int x1), (2, .ref x2)]) dX1_listChanges_6 rfl rfl ?_
  exact l_al rfl ⟨rfl, rfl, rfl, rfl, trivial⟩
set_option maxRecDepth 16000 in
theorem w_X1_listChanges_7 (S : xS) (x0 : Nat) (x1 : Int32) (x2 : Nat) (x3 : Int32) (h : xH) : xle ((xGi h x0 1 17).bind fun v1 => if v1 ≤ x3 then (some (.inl none, h, 0, 0)) else ((xGr h x0 1 16).bind fun v2 => (xRr h v2 x3).bind fun v3 => (xGr h v3 7 0).bind fun v4 => (xGr h x0 1 2).bind fun v5 => if xOb h x0 1 = true then xqV (xM S mX1_list [.ref x0, .ref v4, .int x1, .ref x2, .ref v5] h) xth fun h7 => (xGr h7 x0 1 16).bind fun v9 => (xRr h7 v9 x3).bind fun v10 => (xGr h7 v10 7 1).bind fun v11 => (xGn h7 v11 5 8).bind (xon ((xGr h7 x0 1 4).bind fun v13 => if xOb h7 x0 1 = true then xqV (xM S mX1_list [.ref x0, .ref v11, .int x1, .ref x2, .ref v13] h7) xth fun h15 => xlet (x3 + (1 : Int32)) fun v17 => (xden S mX1_listChanges 7 [(0, .ref x0), (1, .int x1), (2, .ref x2), (3, .int v17)] [] h15) else none) (fun v12 => xlet (x3 + (1 : Int32)) fun v18 => (xden S mX1_listChanges 7 [(0, .ref x0), (1, .int x1), (2, .ref x2), (3, .int v18)] [] h7))) else none)) (xden S mX1_listChanges 7 [(0, .ref x0), (1, .int x1), (2, .ref x2), (3, .int x3)] [] h) := by
  refine l_loc dX1_listChanges_7 rfl rfl ?_
  refine l_loc dX1_listChanges_8 rfl rfl ?_
  refine l_gi dX1_listChanges_9 fl_1_149 (fun v1 => ?_)
  refine l_cge (t := 75) dX1_listChanges_12 rfl ?_ ?_
  · exact l_end dX1_listChanges_75 rfl rfl
  · refine l_loc dX1_listChanges_15 rfl rfl ?_
    refine l_gr dX1_listChanges_16 fl_1_30 (fun v2 => ?_)
    refine l_loc dX1_listChanges_19 rfl rfl ?_
    refine l_rr dX1_listChanges_20 (fun v3 => ?_)
    refine l_gr dX1_listChanges_21 fl_1_214 (fun v4 => ?_)
    refine l_loc (al1 := [(4, .ref v4), (0, .ref x0), (1, .int x1), (2, .ref x2), (3, .int x3)]) dX1_listChanges_24 rfl rfl ?_
    refine l_loc dX1_listChanges_26 rfl rfl ?_
    refine l_loc dX1_listChanges_27 rfl rfl ?_
    refine l_loc dX1_listChanges_29 rfl rfl ?_
    refine l_loc dX1_listChanges_30 rfl rfl ?_
    refine l_loc dX1_listChanges_31 rfl rfl ?_
    refine l_gr dX1_listChanges_32 fl_1_51 (fun v5 => ?_)
    refine l_ob fun q6 => ?_
    refine l_cV dX1_listChanges_35 rfl rfl rfl (l_xv cl_1_286 ko_mX1_list rfl rfl rfl q6) rfl rfl nm_mX1_list (xhE_th rfl) (fun h7 => ?_)
    refine l_loc dX1_listChanges_38 rfl rfl ?_
    refine l_gr dX1_listChanges_39 fl_1_30 (fun v9 => ?_)
    refine l_loc dX1_listChanges_42 rfl rfl ?_
    refine l_rr dX1_listChanges_43 (fun v10 => ?_)
    refine l_gr dX1_listChanges_44 fl_1_222 (fun v11 => ?_)
    refine l_loc (al1 := [(5, .ref v11), (4, .ref v4), (0, .ref x0), (1, .int x1), (2, .ref x2), (3, .int x3)]) dX1_listChanges_47 rfl rfl ?_
    refine l_loc dX1_listChanges_49 rfl rfl ?_
    refine l_gn dX1_listChanges_51 fl_1_276 ?_ (fun v12 => ?_)
    · refine l_nnulN dX1_listChanges_54 ?_
      refine l_loc dX1_listChanges_57 rfl rfl ?_
      refine l_loc dX1_listChanges_58 rfl rfl ?_
      refine l_loc dX1_listChanges_60 rfl rfl ?_
      refine l_loc dX1_listChanges_61 rfl rfl ?_
      refine l_loc dX1_listChanges_62 rfl rfl ?_
      refine l_gr dX1_listChanges_63 fl_1_58 (fun v13 => ?_)
      refine l_ob fun q14 => ?_
      refine l_cV dX1_listChanges_66 rfl rfl rfl (l_xv cl_1_286 ko_mX1_list rfl rfl rfl q14) rfl rfl nm_mX1_list (xhE_th rfl) (fun h15 => ?_)
      refine l_incl (al1 := fun v17 => [(3, .int v17), (5, .ref v11), (4, .ref v4), (0, .ref x0), (1, .int x1), (2, .ref x2)]) dX1_listChanges_69 rfl kI_1 rfl (fun _ => rfl) (fun v17 => ?_)
      refine l_goto (t := 7) dX1_listChanges_72 rfl ?_
      exact l_al rfl ⟨rfl, rfl, rfl, rfl, trivial⟩
    · refine l_nnulR (t := 69) dX1_listChanges_54 rfl ?_
      refine l_incl (al1 := fun v18 => [(3, .int v18), (5, .ref v11), (4, .ref v4), (0, .ref x0), (1, .int x1), (2, .ref x2)]) dX1_listChanges_69 rfl kI_1 rfl (fun _ => rfl) (fun v18 => ?_)
      refine l_goto (t := 7) dX1_listChanges_72 rfl ?_
      exact l_al rfl ⟨rfl, rfl, rfl, rfl, trivial⟩
set_option maxRecDepth 16000 in
theorem w_X1_list (S : xS) (x0 : Nat) (x1 : Nat) (x2 : Int32) (x3 : Nat) (x4 : Nat) (h : xH) : xle ((xGi h x1 5 6).bind fun v1 => if v1 = 0 then (some (.inl none, h, 0, 0)) else ((xGi h x0 1 19).bind fun v2 => (xGr h x0 1 18).bind fun v3 => (xRz h v3).bind fun v4 => if v2 < v4 then (if xOb h x3 9 = true then xqI (xM S mX10_numberOf [.ref x3, .ref x1] h) xth fun v7 h6 => (xP false 1 h6 x1 5 10 (.int v7)).bind fun h8 => (xGi h8 x1 5 3).bind fun v9 => if xOb h8 x4 4 = true then xqI (xM S mX4_linesUpTo [.ref x4, .int v9] h8) xth fun v12 h11 => (xP false 1 h11 x1 5 9 (.int (v12 - (1 : Int32)))).bind fun h13 => if x2 = 0 then ((xGr h13 x0 1 18).bind fun v14 => (xGi h13 x0 1 19).bind fun v15 => (xWr h13 v14 v15 x1).bind fun h16 => (xGi h16 x0 1 19).bind fun v17 => (xP false 1 h16 x0 1 19 (.int (v17 + (1 : Int32)))).bind fun h18 => some (.inl none, h18, 0, 0)) else ((xGn h13 x1 5 8).bind (xon ((xGi h13 x1 5 10).bind fun v20 => if v20 < 0 then ((xGr h13 x0 1 18).bind fun v21 => (xGi h13 x0 1 19).bind fun v22 => (xWr h13 v21 v22 x1).bind fun h23 => (xGi h23 x0 1 19).bind fun v24 => (xP false 1 h23 x0 1 19 (.int (v24 + (1 : Int32)))).bind fun h25 => some (.inl none, h25, 0, 0)) else (some (.inl none, h13, 0, 0))) (fun v19 => (xGr h13 x0 1 18).bind fun v26 => (xGi h13 x0 1 19).bind fun v27 => (xWr h13 v26 v27 x1).bind fun h28 => (xGi h28 x0 1 19).bind fun v29 => (xP false 1 h28 x0 1 19 (.int (v29 + (1 : Int32)))).bind fun h30 => some (.inl none, h30, 0, 0)))) else none else none) else (some (.inl none, h, 0, 0)))) (xM S mX1_list [.ref x0, .ref x1, .int x2, .ref x3, .ref x4] h) := by
  show xle _ (xden S mX1_list 0 [(0, .ref x0), (1, .ref x1), (2, .int x2), (3, .ref x3), (4, .ref x4)] [] h)
  refine l_loc dX1_list_0 rfl rfl ?_
  refine l_gi dX1_list_1 fl_1_269 (fun v1 => ?_)
  refine l_ieq (t := 19) dX1_list_4 rfl ?_ ?_
  · exact l_end dX1_list_19 rfl rfl
  · refine l_loc dX1_list_7 rfl rfl ?_
    refine l_gi dX1_list_8 fl_1_283 (fun v2 => ?_)
    refine l_loc dX1_list_11 rfl rfl ?_
    refine l_gr dX1_list_12 fl_1_35 (fun v3 => ?_)
    refine l_ln dX1_list_15 (fun v4 => ?_)
    refine l_clt (t := 20) dX1_list_16 rfl ?_ ?_
    · refine l_loc dX1_list_20 rfl rfl ?_
      refine l_loc dX1_list_21 rfl rfl ?_
      refine l_loc dX1_list_22 rfl rfl ?_
      refine l_ob fun q5 => ?_
      refine l_cI dX1_list_23 rfl rfl rfl (l_xv cl_1_290 ko_mX10_numberOf rfl rfl rfl q5) rfl rfl nm_mX10_numberOf (xhE_th rfl) (fun v7 h6 => ?_)
      refine l_pf dX1_list_26 fl_1_296 (ini := false) nm_mX1_list (fun h8 => ?_)
      refine l_loc dX1_list_29 rfl rfl ?_
      refine l_loc dX1_list_30 rfl rfl ?_
      refine l_loc dX1_list_32 rfl rfl ?_
      refine l_gi dX1_list_33 fl_1_299 (fun v9 => ?_)
      refine l_ob fun q10 => ?_
      refine l_cI dX1_list_36 rfl rfl rfl (l_xv cl_1_302 ko_mX4_linesUpTo rfl rfl rfl q10) rfl rfl nm_mX4_linesUpTo (xhE_th rfl) (fun v12 h11 => ?_)
      refine l_ic dX1_list_39 kI_1 ?_
      refine l_pure dX1_list_40 rfl rfl ?_
      refine l_pf dX1_list_41 fl_1_306 (ini := false) nm_mX1_list (fun h13 => ?_)
      refine l_loc dX1_list_44 rfl rfl ?_
      refine l_ieq (t := 63) dX1_list_45 rfl ?_ ?_
      · refine l_loc dX1_list_63 rfl rfl ?_
        refine l_gr dX1_list_64 fl_1_35 (fun v14 => ?_)
        refine l_loc dX1_list_67 rfl rfl ?_
        refine l_gi dX1_list_68 fl_1_283 (fun v15 => ?_)
        refine l_loc dX1_list_71 rfl rfl ?_
        refine l_wa dX1_list_72 (fun h16 => ?_)
        refine l_loc dX1_list_73 rfl rfl ?_
        refine l_pure dX1_list_74 rfl rfl ?_
        refine l_gi dX1_list_75 fl_1_283 (fun v17 => ?_)
        refine l_ic dX1_list_78 kI_1 ?_
        refine l_pure dX1_list_79 rfl rfl ?_
        refine l_pf dX1_list_80 fl_1_283 (ini := false) nm_mX1_list (fun h18 => ?_)
        exact l_end dX1_list_83 rfl rfl
      · refine l_loc dX1_list_48 rfl rfl ?_
        refine l_gn dX1_list_49 fl_1_276 ?_ (fun v19 => ?_)
        · refine l_nnulN dX1_list_52 ?_
          refine l_loc dX1_list_55 rfl rfl ?_
          refine l_gi dX1_list_56 fl_1_296 (fun v20 => ?_)
          refine l_ilt (t := 63) dX1_list_59 rfl ?_ ?_
          · refine l_loc dX1_list_63 rfl rfl ?_
            refine l_gr dX1_list_64 fl_1_35 (fun v21 => ?_)
            refine l_loc dX1_list_67 rfl rfl ?_
            refine l_gi dX1_list_68 fl_1_283 (fun v22 => ?_)
            refine l_loc dX1_list_71 rfl rfl ?_
            refine l_wa dX1_list_72 (fun h23 => ?_)
            refine l_loc dX1_list_73 rfl rfl ?_
            refine l_pure dX1_list_74 rfl rfl ?_
            refine l_gi dX1_list_75 fl_1_283 (fun v24 => ?_)
            refine l_ic dX1_list_78 kI_1 ?_
            refine l_pure dX1_list_79 rfl rfl ?_
            refine l_pf dX1_list_80 fl_1_283 (ini := false) nm_mX1_list (fun h25 => ?_)
            exact l_end dX1_list_83 rfl rfl
          · exact l_end dX1_list_62 rfl rfl
        · refine l_nnulR (t := 63) dX1_list_52 rfl ?_
          refine l_loc dX1_list_63 rfl rfl ?_
          refine l_gr dX1_list_64 fl_1_35 (fun v26 => ?_)
          refine l_loc dX1_list_67 rfl rfl ?_
          refine l_gi dX1_list_68 fl_1_283 (fun v27 => ?_)
          refine l_loc dX1_list_71 rfl rfl ?_
          refine l_wa dX1_list_72 (fun h28 => ?_)
          refine l_loc dX1_list_73 rfl rfl ?_
          refine l_pure dX1_list_74 rfl rfl ?_
          refine l_gi dX1_list_75 fl_1_283 (fun v29 => ?_)
          refine l_ic dX1_list_78 kI_1 ?_
          refine l_pure dX1_list_79 rfl rfl ?_
          refine l_pf dX1_list_80 fl_1_283 (ini := false) nm_mX1_list (fun h30 => ?_)
          exact l_end dX1_list_83 rfl rfl
    · exact l_end dX1_list_19 rfl rfl
set_option maxRecDepth 16000 in
theorem w_X1_differenceOf (S : xS) (x0 : Nat) (x1 : Int32) (x2 : Int32) (h : xH) : xle ((xGi h x0 1 9).bind fun v1 => xlet ((x2 * v1) + x1) fun v2 => if v2 < 0 then (some (.inl (some (.int (0 : Int32))), h, 0, 0)) else ((xGr h x0 1 11).bind fun v3 => (xRz h v3).bind fun v4 => if v4 ≤ v2 then (some (.inl (some (.int (0 : Int32))), h, 0, 0)) else ((xGr h x0 1 11).bind fun v5 => (xRi h 0 v5 v2).bind fun v6 => some (.inl (some (.int v6)), h, 0, 0)))) (xM S mX1_differenceOf [.ref x0, .int x1, .int x2] h) := by
  show xle _ (xden S mX1_differenceOf 0 [(0, .ref x0), (1, .int x1), (2, .int x2)] [] h)
  refine l_loc dX1_differenceOf_0 rfl rfl ?_
  refine l_loc dX1_differenceOf_1 rfl rfl ?_
  refine l_gi dX1_differenceOf_2 fl_1_181 (fun v1 => ?_)
  refine l_pure dX1_differenceOf_5 rfl rfl ?_
  refine l_loc dX1_differenceOf_6 rfl rfl ?_
  refine l_pure dX1_differenceOf_7 rfl rfl ?_
  refine l_isl (al1 := fun v2 => [(3, .int v2), (0, .ref x0), (1, .int x1), (2, .int x2)]) dX1_differenceOf_8 rfl (fun _ => rfl) (fun v2 => ?_)
  refine l_loc dX1_differenceOf_9 rfl rfl ?_
  refine l_ilt (t := 31) dX1_differenceOf_10 rfl ?_ ?_
  · refine l_ic dX1_differenceOf_31 kI_0 ?_
    exact l_iretn dX1_differenceOf_32 rfl (by rfl)
  · refine l_loc dX1_differenceOf_13 rfl rfl ?_
    refine l_loc dX1_differenceOf_14 rfl rfl ?_
    refine l_gr dX1_differenceOf_15 fl_1_9 (fun v3 => ?_)
    refine l_ln dX1_differenceOf_18 (fun v4 => ?_)
    refine l_cge (t := 31) dX1_differenceOf_19 rfl ?_ ?_
    · refine l_ic dX1_differenceOf_31 kI_0 ?_
      exact l_iretn dX1_differenceOf_32 rfl (by rfl)
    · refine l_loc dX1_differenceOf_22 rfl rfl ?_
      refine l_gr dX1_differenceOf_23 fl_1_9 (fun v5 => ?_)
      refine l_loc dX1_differenceOf_26 rfl rfl ?_
      refine l_ri dX1_differenceOf_27 (fun v6 => ?_)
      refine l_goto (t := 32) dX1_differenceOf_28 rfl ?_
      exact l_iretn dX1_differenceOf_32 rfl (by rfl)
set_option maxRecDepth 16000 in
theorem w_X1_regionOfPixel (S : xS) (x0 : Nat) (x1 : Int32) (x2 : Int32) (h : xH) : xle ((xGi h x0 1 8).bind fun v1 => xqI (xM S mJ9_max_7cf53 [.int (1 : Int32), .int v1] h) xth fun v3 h2 => if v3 = 0 then none else (xGi h2 x0 1 9).bind fun v4 => if v3 = 0 then none else xlet (((x2 / v3) * v4) + (x1 / v3)) fun v5 => if v5 < 0 then (some (.inl (some (.int (-1 : Int32))), h2, 0, 0)) else ((xGr h2 x0 1 12).bind fun v6 => (xRz h2 v6).bind fun v7 => if v5 < v7 then ((xGr h2 x0 1 12).bind fun v8 => (xRi h2 0 v8 v5).bind fun v9 => if xOb h2 x0 1 = true then xqN (xM S mX1_find [.ref x0, .int v9] h2) xth (fun h11 => some (.inl (some (.int (-1 : Int32))), h11, 0, 0)) (fun v12 h11 => (xGi h11 v12 7 6).bind fun v13 => some (.inl (some (.int v13)), h11, 0, 0)) else none) else (some (.inl (some (.int (-1 : Int32))), h2, 0, 0)))) (xM S mX1_regionOfPixel [.ref x0, .int x1, .int x2] h) := by
  show xle _ (xden S mX1_regionOfPixel 0 [(0, .ref x0), (1, .int x1), (2, .int x2)] [] h)
  refine l_ic dX1_regionOfPixel_0 kI_1 ?_
  refine l_loc dX1_regionOfPixel_1 rfl rfl ?_
  refine l_gi dX1_regionOfPixel_2 fl_1_74 (fun v1 => ?_)
  refine l_cI dX1_regionOfPixel_5 rfl rfl rfl (l_xs cl_1_175 ko_mJ9_max_7cf53 rfl rfl) rfl rfl nm_mJ9_max_7cf53 (xhE_th rfl) (fun v3 h2 => ?_)
  refine l_loc (al1 := [(3, .int v3), (0, .ref x0), (1, .int x1), (2, .int x2)]) dX1_regionOfPixel_8 rfl rfl ?_
  refine l_loc dX1_regionOfPixel_9 rfl rfl ?_
  refine l_loc dX1_regionOfPixel_10 rfl rfl ?_
  refine l_div dX1_regionOfPixel_11 ?_
  refine l_loc dX1_regionOfPixel_12 rfl rfl ?_
  refine l_gi dX1_regionOfPixel_13 fl_1_181 (fun v4 => ?_)
  refine l_pure dX1_regionOfPixel_16 rfl rfl ?_
  refine l_loc dX1_regionOfPixel_17 rfl rfl ?_
  refine l_loc dX1_regionOfPixel_18 rfl rfl ?_
  refine l_div dX1_regionOfPixel_19 ?_
  refine l_pure dX1_regionOfPixel_20 rfl rfl ?_
  refine l_isl (al1 := fun v5 => [(4, .int v5), (3, .int v3), (0, .ref x0), (1, .int x1), (2, .int x2)]) dX1_regionOfPixel_21 rfl (fun _ => rfl) (fun v5 => ?_)
  refine l_loc dX1_regionOfPixel_23 rfl rfl ?_
  refine l_ilt (t := 38) dX1_regionOfPixel_25 rfl ?_ ?_
  · refine l_ic dX1_regionOfPixel_38 kI_m1 ?_
    exact l_iretn dX1_regionOfPixel_39 rfl (by rfl)
  · refine l_loc dX1_regionOfPixel_28 rfl rfl ?_
    refine l_loc dX1_regionOfPixel_30 rfl rfl ?_
    refine l_gr dX1_regionOfPixel_31 fl_1_15 (fun v6 => ?_)
    refine l_ln dX1_regionOfPixel_34 (fun v7 => ?_)
    refine l_clt (t := 40) dX1_regionOfPixel_35 rfl ?_ ?_
    · refine l_loc dX1_regionOfPixel_40 rfl rfl ?_
      refine l_loc dX1_regionOfPixel_41 rfl rfl ?_
      refine l_gr dX1_regionOfPixel_42 fl_1_15 (fun v8 => ?_)
      refine l_loc dX1_regionOfPixel_45 rfl rfl ?_
      refine l_ri dX1_regionOfPixel_47 (fun v9 => ?_)
      refine l_ob fun q10 => ?_
      refine l_cN dX1_regionOfPixel_48 rfl rfl rfl (l_xv cl_1_207 ko_mX1_find rfl rfl rfl q10) rfl rfl nm_mX1_find (xhE_th rfl) (fun h11 => ?_) (fun v12 h11 => ?_)
      · refine l_loc (al1 := [(5, .null), (4, .int v5), (3, .int v3), (0, .ref x0), (1, .int x1), (2, .int x2)]) dX1_regionOfPixel_51 rfl rfl ?_
        refine l_loc dX1_regionOfPixel_53 rfl rfl ?_
        refine l_nnulN dX1_regionOfPixel_55 ?_
        refine l_ic dX1_regionOfPixel_58 kI_m1 ?_
        refine l_goto (t := 67) dX1_regionOfPixel_59 rfl ?_
        exact l_iretn dX1_regionOfPixel_67 rfl (by rfl)
      · refine l_loc (al1 := [(5, .ref v12), (4, .int v5), (3, .int v3), (0, .ref x0), (1, .int x1), (2, .int x2)]) dX1_regionOfPixel_51 rfl rfl ?_
        refine l_loc dX1_regionOfPixel_53 rfl rfl ?_
        refine l_nnulR (t := 62) dX1_regionOfPixel_55 rfl ?_
        refine l_loc dX1_regionOfPixel_62 rfl rfl ?_
        refine l_gi dX1_regionOfPixel_64 fl_1_211 (fun v13 => ?_)
        exact l_iretn dX1_regionOfPixel_67 rfl (by rfl)
    · refine l_ic dX1_regionOfPixel_38 kI_m1 ?_
      exact l_iretn dX1_regionOfPixel_39 rfl (by rfl)
set_option maxRecDepth 16000 in
theorem w_X1_regionNumbered (S : xS) (x0 : Nat) (x1 : Int32) (h : xH) : xle (if x1 < 0 then (some (.inl (some (.null)), h, 0, 0)) else ((xGi h x0 1 17).bind fun v1 => if v1 ≤ x1 then (some (.inl (some (.null)), h, 0, 0)) else ((xGr h x0 1 16).bind fun v2 => (xRz h v2).bind fun v3 => if v3 ≤ x1 then (some (.inl (some (.null)), h, 0, 0)) else ((xGr h x0 1 16).bind fun v4 => (xRr h v4 x1).bind fun v5 => some (.inl (some (.ref v5)), h, 0, 0))))) (xM S mX1_regionNumbered [.ref x0, .int x1] h) := by
  show xle _ (xden S mX1_regionNumbered 0 [(0, .ref x0), (1, .int x1)] [] h)
  refine l_loc dX1_regionNumbered_0 rfl rfl ?_
  refine l_ilt (t := 30) dX1_regionNumbered_1 rfl ?_ ?_
  · refine l_pure dX1_regionNumbered_30 rfl rfl ?_
    exact l_end dX1_regionNumbered_31 rfl rfl
  · refine l_loc dX1_regionNumbered_4 rfl rfl ?_
    refine l_loc dX1_regionNumbered_5 rfl rfl ?_
    refine l_gi dX1_regionNumbered_6 fl_1_149 (fun v1 => ?_)
    refine l_cge (t := 30) dX1_regionNumbered_9 rfl ?_ ?_
    · refine l_pure dX1_regionNumbered_30 rfl rfl ?_
      exact l_end dX1_regionNumbered_31 rfl rfl
    · refine l_loc dX1_regionNumbered_12 rfl rfl ?_
      refine l_loc dX1_regionNumbered_13 rfl rfl ?_
      refine l_gr dX1_regionNumbered_14 fl_1_30 (fun v2 => ?_)
      refine l_ln dX1_regionNumbered_17 (fun v3 => ?_)
      refine l_cge (t := 30) dX1_regionNumbered_18 rfl ?_ ?_
      · refine l_pure dX1_regionNumbered_30 rfl rfl ?_
        exact l_end dX1_regionNumbered_31 rfl rfl
      · refine l_loc dX1_regionNumbered_21 rfl rfl ?_
        refine l_gr dX1_regionNumbered_22 fl_1_30 (fun v4 => ?_)
        refine l_loc dX1_regionNumbered_25 rfl rfl ?_
        refine l_rr dX1_regionNumbered_26 (fun v5 => ?_)
        refine l_goto (t := 31) dX1_regionNumbered_27 rfl ?_
        exact l_end dX1_regionNumbered_31 rfl rfl
set_option maxRecDepth 16000 in
theorem w_X1_changeNumbered (S : xS) (x0 : Nat) (x1 : Int32) (h : xH) : xle (if x1 < 0 then (some (.inl (some (.null)), h, 0, 0)) else ((xGi h x0 1 19).bind fun v1 => if v1 ≤ x1 then (some (.inl (some (.null)), h, 0, 0)) else ((xGr h x0 1 18).bind fun v2 => (xRz h v2).bind fun v3 => if v3 ≤ x1 then (some (.inl (some (.null)), h, 0, 0)) else ((xGr h x0 1 18).bind fun v4 => (xRr h v4 x1).bind fun v5 => some (.inl (some (.ref v5)), h, 0, 0))))) (xM S mX1_changeNumbered [.ref x0, .int x1] h) := by
  show xle _ (xden S mX1_changeNumbered 0 [(0, .ref x0), (1, .int x1)] [] h)
  refine l_loc dX1_changeNumbered_0 rfl rfl ?_
  refine l_ilt (t := 30) dX1_changeNumbered_1 rfl ?_ ?_
  · refine l_pure dX1_changeNumbered_30 rfl rfl ?_
    exact l_end dX1_changeNumbered_31 rfl rfl
  · refine l_loc dX1_changeNumbered_4 rfl rfl ?_
    refine l_loc dX1_changeNumbered_5 rfl rfl ?_
    refine l_gi dX1_changeNumbered_6 fl_1_283 (fun v1 => ?_)
    refine l_cge (t := 30) dX1_changeNumbered_9 rfl ?_ ?_
    · refine l_pure dX1_changeNumbered_30 rfl rfl ?_
      exact l_end dX1_changeNumbered_31 rfl rfl
    · refine l_loc dX1_changeNumbered_12 rfl rfl ?_
      refine l_loc dX1_changeNumbered_13 rfl rfl ?_
      refine l_gr dX1_changeNumbered_14 fl_1_35 (fun v2 => ?_)
      refine l_ln dX1_changeNumbered_17 (fun v3 => ?_)
      refine l_cge (t := 30) dX1_changeNumbered_18 rfl ?_ ?_
      · refine l_pure dX1_changeNumbered_30 rfl rfl ?_
        exact l_end dX1_changeNumbered_31 rfl rfl
      · refine l_loc dX1_changeNumbered_21 rfl rfl ?_
        refine l_gr dX1_changeNumbered_22 fl_1_35 (fun v4 => ?_)
        refine l_loc dX1_changeNumbered_25 rfl rfl ?_
        refine l_rr dX1_changeNumbered_26 (fun v5 => ?_)
        refine l_goto (t := 31) dX1_changeNumbered_27 rfl ?_
        exact l_end dX1_changeNumbered_31 rfl rfl
set_option maxRecDepth 16000 in
theorem w_X1_report (S : xS) (x0 : Nat) (x1 : Nat) (h : xH) : xle (if xOb h x1 6 = true then xqV (xM S mX6_write [.ref x1, .retAddr 41] h) xth fun h2 => (xGr h2 x0 1 7).bind fun v4 => (xGi h2 v4 8 6).bind fun v5 => (xGr h2 x0 1 7).bind fun v6 => (xGi h2 v6 8 7).bind fun v7 => if xOb h2 x1 6 = true then xqV (xM S mX6_writePair [.ref x1, .int v5, .retAddr 42, .int v7] h2) xth fun h9 => if xOb h9 x1 6 = true then xqV (xM S mX6_write [.ref x1, .retAddr 43] h9) xth fun h12 => (xGr h12 x0 1 7).bind fun v14 => (xGi h12 v14 8 8).bind fun v15 => if xOb h12 x1 6 = true then xqV (xM S mX6_writeNumber [.ref x1, .int v15] h12) xth fun h17 => (xGr h17 x0 1 7).bind fun v19 => (xGi h17 v19 8 9).bind fun v20 => if v20 = 0 then (if xOb h17 x1 6 = true then xqV (xM S mX6_put [.ref x1, .int (10 : Int32)] h17) xth fun h22 => (xGi h22 x0 1 19).bind fun v24 => if xOb h22 x1 6 = true then xqV (xM S mX6_writeNumber [.ref x1, .int v24] h22) xth fun h26 => (xGi h26 x0 1 19).bind fun v28 => if ¬ v28 = (1 : Int32) then (if xOb h26 x1 6 = true then xqV (xM S mX6_write [.ref x1, .retAddr 46] h26) xth fun h30 => if xOb h30 x1 6 = true then xqV (xM S mX6_put [.ref x1, .int (10 : Int32)] h30) xth fun h33 => (xden S mX1_report 106 [(0, .ref x0), (1, .ref x1), (2, .int (0 : Int32))] [] h33) else none else none) else (if xOb h26 x1 6 = true then xqV (xM S mX6_write [.ref x1, .retAddr 45] h26) xth fun h36 => if xOb h36 x1 6 = true then xqV (xM S mX6_put [.ref x1, .int (10 : Int32)] h36) xth fun h39 => (xden S mX1_report 106 [(0, .ref x0), (1, .ref x1), (2, .int (0 : Int32))] [] h39) else none else none) else none else none) else (if xOb h17 x1 6 = true then xqV (xM S mX6_write [.ref x1, .retAddr 44] h17) xth fun h42 => if xOb h42 x1 6 = true then xqV (xM S mX6_put [.ref x1, .int (10 : Int32)] h42) xth fun h45 => (xGi h45 x0 1 19).bind fun v47 => if xOb h45 x1 6 = true then xqV (xM S mX6_writeNumber [.ref x1, .int v47] h45) xth fun h49 => (xGi h49 x0 1 19).bind fun v51 => if ¬ v51 = (1 : Int32) then (if xOb h49 x1 6 = true then xqV (xM S mX6_write [.ref x1, .retAddr 46] h49) xth fun h53 => if xOb h53 x1 6 = true then xqV (xM S mX6_put [.ref x1, .int (10 : Int32)] h53) xth fun h56 => (xden S mX1_report 106 [(0, .ref x0), (1, .ref x1), (2, .int (0 : Int32))] [] h56) else none else none) else (if xOb h49 x1 6 = true then xqV (xM S mX6_write [.ref x1, .retAddr 45] h49) xth fun h59 => if xOb h59 x1 6 = true then xqV (xM S mX6_put [.ref x1, .int (10 : Int32)] h59) xth fun h62 => (xden S mX1_report 106 [(0, .ref x0), (1, .ref x1), (2, .int (0 : Int32))] [] h62) else none else none) else none else none else none) else none else none else none else none) (xM S mX1_report [.ref x0, .ref x1] h) := by
  show xle _ (xden S mX1_report 0 [(0, .ref x0), (1, .ref x1)] [] h)
  refine l_loc dX1_report_0 rfl rfl ?_
  refine l_rd (st1 := [.retAddr 41, .ref x1]) dX1_report_1 rfl rfl ?_
  refine l_ob fun q1 => ?_
  refine l_cV dX1_report_4 rfl rfl rfl (l_xv cl_1_311 ko_mX6_write rfl rfl rfl q1) rfl rfl nm_mX6_write (xhE_th rfl) (fun h2 => ?_)
  refine l_loc dX1_report_7 rfl rfl ?_
  refine l_loc dX1_report_8 rfl rfl ?_
  refine l_gr dX1_report_9 fl_1_70 (fun v4 => ?_)
  refine l_gi dX1_report_12 fl_1_115 (fun v5 => ?_)
  refine l_rd (st1 := [.retAddr 42, .int v5, .ref x1]) dX1_report_15 rfl rfl ?_
  refine l_loc dX1_report_18 rfl rfl ?_
  refine l_gr dX1_report_19 fl_1_70 (fun v6 => ?_)
  refine l_gi dX1_report_22 fl_1_118 (fun v7 => ?_)
  refine l_ob fun q8 => ?_
  refine l_cV dX1_report_25 rfl rfl rfl (l_xv cl_1_319 ko_mX6_writePair rfl rfl rfl q8) rfl rfl nm_mX6_writePair (xhE_th rfl) (fun h9 => ?_)
  refine l_loc dX1_report_28 rfl rfl ?_
  refine l_rd (st1 := [.retAddr 43, .ref x1]) dX1_report_29 rfl rfl ?_
  refine l_ob fun q11 => ?_
  refine l_cV dX1_report_32 rfl rfl rfl (l_xv cl_1_311 ko_mX6_write rfl rfl rfl q11) rfl rfl nm_mX6_write (xhE_th rfl) (fun h12 => ?_)
  refine l_loc dX1_report_35 rfl rfl ?_
  refine l_loc dX1_report_36 rfl rfl ?_
  refine l_gr dX1_report_37 fl_1_70 (fun v14 => ?_)
  refine l_gi dX1_report_40 fl_1_325 (fun v15 => ?_)
  refine l_ob fun q16 => ?_
  refine l_cV dX1_report_43 rfl rfl rfl (l_xv cl_1_328 ko_mX6_writeNumber rfl rfl rfl q16) rfl rfl nm_mX6_writeNumber (xhE_th rfl) (fun h17 => ?_)
  refine l_loc dX1_report_46 rfl rfl ?_
  refine l_gr dX1_report_47 fl_1_70 (fun v19 => ?_)
  refine l_gi dX1_report_50 fl_1_331 (fun v20 => ?_)
  refine l_ieq (t := 63) dX1_report_53 rfl ?_ ?_
  · refine l_loc dX1_report_63 rfl rfl ?_
    refine l_bi dX1_report_64 kB_10 ?_
    refine l_ob fun q21 => ?_
    refine l_cV dX1_report_66 rfl rfl rfl (l_xv cl_1_337 ko_mX6_put rfl rfl rfl q21) rfl rfl nm_mX6_put (xhE_th rfl) (fun h22 => ?_)
    refine l_loc dX1_report_69 rfl rfl ?_
    refine l_loc dX1_report_70 rfl rfl ?_
    refine l_gi dX1_report_71 fl_1_283 (fun v24 => ?_)
    refine l_ob fun q25 => ?_
    refine l_cV dX1_report_74 rfl rfl rfl (l_xv cl_1_328 ko_mX6_writeNumber rfl rfl rfl q25) rfl rfl nm_mX6_writeNumber (xhE_th rfl) (fun h26 => ?_)
    refine l_loc dX1_report_77 rfl rfl ?_
    refine l_loc dX1_report_78 rfl rfl ?_
    refine l_gi dX1_report_79 fl_1_283 (fun v28 => ?_)
    refine l_ic dX1_report_82 kI_1 ?_
    refine l_cne (t := 92) dX1_report_83 rfl ?_ ?_
    · refine l_rd (st1 := [.retAddr 46, .ref x1]) dX1_report_92 rfl rfl ?_
      refine l_ob fun q29 => ?_
      refine l_cV dX1_report_95 rfl rfl rfl (l_xv cl_1_311 ko_mX6_write rfl rfl rfl q29) rfl rfl nm_mX6_write (xhE_th rfl) (fun h30 => ?_)
      refine l_loc dX1_report_98 rfl rfl ?_
      refine l_bi dX1_report_99 kB_10 ?_
      refine l_ob fun q32 => ?_
      refine l_cV dX1_report_101 rfl rfl rfl (l_xv cl_1_337 ko_mX6_put rfl rfl rfl q32) rfl rfl nm_mX6_put (xhE_th rfl) (fun h33 => ?_)
      refine l_ic dX1_report_104 kI_0 ?_
      refine l_loc (al1 := [(2, .int (0 : Int32)), (0, .ref x0), (1, .ref x1)]) dX1_report_105 rfl rfl ?_
      exact l_al rfl ⟨rfl, rfl, rfl, trivial⟩
    · refine l_rd (st1 := [.retAddr 45, .ref x1]) dX1_report_86 rfl rfl ?_
      refine l_goto (t := 95) dX1_report_89 rfl ?_
      refine l_ob fun q35 => ?_
      refine l_cV dX1_report_95 rfl rfl rfl (l_xv cl_1_311 ko_mX6_write rfl rfl rfl q35) rfl rfl nm_mX6_write (xhE_th rfl) (fun h36 => ?_)
      refine l_loc dX1_report_98 rfl rfl ?_
      refine l_bi dX1_report_99 kB_10 ?_
      refine l_ob fun q38 => ?_
      refine l_cV dX1_report_101 rfl rfl rfl (l_xv cl_1_337 ko_mX6_put rfl rfl rfl q38) rfl rfl nm_mX6_put (xhE_th rfl) (fun h39 => ?_)
      refine l_ic dX1_report_104 kI_0 ?_
      refine l_loc (al1 := [(2, .int (0 : Int32)), (0, .ref x0), (1, .ref x1)]) dX1_report_105 rfl rfl ?_
      exact l_al rfl ⟨rfl, rfl, rfl, trivial⟩
  · refine l_loc dX1_report_56 rfl rfl ?_
    refine l_rd (st1 := [.retAddr 44, .ref x1]) dX1_report_57 rfl rfl ?_
    refine l_ob fun q41 => ?_
    refine l_cV dX1_report_60 rfl rfl rfl (l_xv cl_1_311 ko_mX6_write rfl rfl rfl q41) rfl rfl nm_mX6_write (xhE_th rfl) (fun h42 => ?_)
    refine l_loc dX1_report_63 rfl rfl ?_
    refine l_bi dX1_report_64 kB_10 ?_
    refine l_ob fun q44 => ?_
    refine l_cV dX1_report_66 rfl rfl rfl (l_xv cl_1_337 ko_mX6_put rfl rfl rfl q44) rfl rfl nm_mX6_put (xhE_th rfl) (fun h45 => ?_)
    refine l_loc dX1_report_69 rfl rfl ?_
    refine l_loc dX1_report_70 rfl rfl ?_
    refine l_gi dX1_report_71 fl_1_283 (fun v47 => ?_)
    refine l_ob fun q48 => ?_
    refine l_cV dX1_report_74 rfl rfl rfl (l_xv cl_1_328 ko_mX6_writeNumber rfl rfl rfl q48) rfl rfl nm_mX6_writeNumber (xhE_th rfl) (fun h49 => ?_)
    refine l_loc dX1_report_77 rfl rfl ?_
    refine l_loc dX1_report_78 rfl rfl ?_
    refine l_gi dX1_report_79 fl_1_283 (fun v51 => ?_)
    refine l_ic dX1_report_82 kI_1 ?_
    refine l_cne (t := 92) dX1_report_83 rfl ?_ ?_
    · refine l_rd (st1 := [.retAddr 46, .ref x1]) dX1_report_92 rfl rfl ?_
      refine l_ob fun q52 => ?_
      refine l_cV dX1_report_95 rfl rfl rfl (l_xv cl_1_311 ko_mX6_write rfl rfl rfl q52) rfl rfl nm_mX6_write (xhE_th rfl) (fun h53 => ?_)
      refine l_loc dX1_report_98 rfl rfl ?_
      refine l_bi dX1_report_99 kB_10 ?_
      refine l_ob fun q55 => ?_
      refine l_cV dX1_report_101 rfl rfl rfl (l_xv cl_1_337 ko_mX6_put rfl rfl rfl q55) rfl rfl nm_mX6_put (xhE_th rfl) (fun h56 => ?_)
      refine l_ic dX1_report_104 kI_0 ?_
      refine l_loc (al1 := [(2, .int (0 : Int32)), (0, .ref x0), (1, .ref x1)]) dX1_report_105 rfl rfl ?_
      exact l_al rfl ⟨rfl, rfl, rfl, trivial⟩
    · refine l_rd (st1 := [.retAddr 45, .ref x1]) dX1_report_86 rfl rfl ?_
      refine l_goto (t := 95) dX1_report_89 rfl ?_
      refine l_ob fun q58 => ?_
      refine l_cV dX1_report_95 rfl rfl rfl (l_xv cl_1_311 ko_mX6_write rfl rfl rfl q58) rfl rfl nm_mX6_write (xhE_th rfl) (fun h59 => ?_)
      refine l_loc dX1_report_98 rfl rfl ?_
      refine l_bi dX1_report_99 kB_10 ?_
      refine l_ob fun q61 => ?_
      refine l_cV dX1_report_101 rfl rfl rfl (l_xv cl_1_337 ko_mX6_put rfl rfl rfl q61) rfl rfl nm_mX6_put (xhE_th rfl) (fun h62 => ?_)
      refine l_ic dX1_report_104 kI_0 ?_
      refine l_loc (al1 := [(2, .int (0 : Int32)), (0, .ref x0), (1, .ref x1)]) dX1_report_105 rfl rfl ?_
      exact l_al rfl ⟨rfl, rfl, rfl, trivial⟩
set_option maxRecDepth 16000 in
theorem w_X1_report_106 (S : xS) (x0 : Nat) (x1 : Nat) (x2 : Int32) (h : xH) : xle ((xGi h x0 1 19).bind fun v1 => if v1 ≤ x2 then (some (.inl none, h, 0, 0)) else ((xGr h x0 1 18).bind fun v2 => (xRz h v2).bind fun v3 => if v3 ≤ x2 then (some (.inl none, h, 0, 0)) else ((xGr h x0 1 18).bind fun v4 => (xRr h v4 x2).bind fun v5 => if xOb h v5 5 = true then xqV (xM S mX5_report [.ref v5, .ref x1] h) xth fun h7 => xlet (x2 + (1 : Int32)) fun v9 => (xden S mX1_report 106 [(0, .ref x0), (1, .ref x1), (2, .int v9)] [] h7) else none))) (xden S mX1_report 106 [(0, .ref x0), (1, .ref x1), (2, .int x2)] [] h) := by
  refine l_loc dX1_report_106 rfl rfl ?_
  refine l_loc dX1_report_107 rfl rfl ?_
  refine l_gi dX1_report_108 fl_1_283 (fun v1 => ?_)
  refine l_cge (t := 139) dX1_report_111 rfl ?_ ?_
  · exact l_end dX1_report_139 rfl rfl
  · refine l_loc dX1_report_114 rfl rfl ?_
    refine l_loc dX1_report_115 rfl rfl ?_
    refine l_gr dX1_report_116 fl_1_35 (fun v2 => ?_)
    refine l_ln dX1_report_119 (fun v3 => ?_)
    refine l_cge (t := 139) dX1_report_120 rfl ?_ ?_
    · exact l_end dX1_report_139 rfl rfl
    · refine l_loc dX1_report_123 rfl rfl ?_
      refine l_gr dX1_report_124 fl_1_35 (fun v4 => ?_)
      refine l_loc dX1_report_127 rfl rfl ?_
      refine l_rr dX1_report_128 (fun v5 => ?_)
      refine l_loc dX1_report_129 rfl rfl ?_
      refine l_ob fun q6 => ?_
      refine l_cV dX1_report_130 rfl rfl rfl (l_xv cl_1_344 ko_mX5_report rfl rfl rfl q6) rfl rfl nm_mX5_report (xhE_th rfl) (fun h7 => ?_)
      refine l_incl (al1 := fun v9 => [(2, .int v9), (0, .ref x0), (1, .ref x1)]) dX1_report_133 rfl kI_1 rfl (fun _ => rfl) (fun v9 => ?_)
      refine l_goto (t := 106) dX1_report_136 rfl ?_
      exact l_al rfl ⟨rfl, rfl, rfl, trivial⟩
theorem w_X1_noiseFor (S : xS) (x0 : Nat) (x1 : Int32) (h : xH) : xle (xden S mX1_noiseFor 2 [(0, .ref x0), (1, .int x1), (2, .int (0 : Int32))] [] h) (xM S mX1_noiseFor [.ref x0, .int x1] h) := by
  show xle _ (xden S mX1_noiseFor 0 [(0, .ref x0), (1, .int x1)] [] h)
  refine l_ic dX1_noiseFor_0 kI_0 ?_
  refine l_loc (al1 := [(2, .int (0 : Int32)), (0, .ref x0), (1, .int x1)]) dX1_noiseFor_1 rfl rfl ?_
  exact l_al rfl ⟨rfl, rfl, rfl, trivial⟩
set_option maxRecDepth 16000 in
theorem w_X1_noiseFor_2 (S : xS) (x0 : Nat) (x1 : Int32) (x2 : Int32) (h : xH) : xle (if (256 : Int32) ≤ x2 then (some (.inl (some (.int x2)), h, 0, 0)) else ((xGr h x0 1 13).bind fun v1 => if xOb h x0 1 = true then xqI (xM S mX1_group [.ref x0, .int x2, .ref v1] h) xth fun v4 h3 => if v4 ≤ x1 then (some (.inl (some (.int x2)), h3, 0, 0)) else (xlet (x2 + (1 : Int32)) fun v5 => (xden S mX1_noiseFor 2 [(0, .ref x0), (1, .int x1), (2, .int v5)] [] h3)) else none)) (xden S mX1_noiseFor 2 [(0, .ref x0), (1, .int x1), (2, .int x2)] [] h) := by
  refine l_loc dX1_noiseFor_2 rfl rfl ?_
  refine l_si dX1_noiseFor_3 kS_256 ?_
  refine l_cge (t := 28) dX1_noiseFor_6 rfl ?_ ?_
  · refine l_loc dX1_noiseFor_28 rfl rfl ?_
    exact l_iretn dX1_noiseFor_29 rfl (by rfl)
  · refine l_loc dX1_noiseFor_9 rfl rfl ?_
    refine l_loc dX1_noiseFor_10 rfl rfl ?_
    refine l_loc dX1_noiseFor_11 rfl rfl ?_
    refine l_gr dX1_noiseFor_12 fl_1_18 (fun v1 => ?_)
    refine l_ob fun q2 => ?_
    refine l_cI dX1_noiseFor_15 rfl rfl rfl (l_xv cl_1_145 ko_mX1_group rfl rfl rfl q2) rfl rfl nm_mX1_group (xhE_th rfl) (fun v4 h3 => ?_)
    refine l_loc dX1_noiseFor_18 rfl rfl ?_
    refine l_cle (t := 28) dX1_noiseFor_19 rfl ?_ ?_
    · refine l_loc dX1_noiseFor_28 rfl rfl ?_
      exact l_iretn dX1_noiseFor_29 rfl (by rfl)
    · refine l_incl (al1 := fun v5 => [(2, .int v5), (0, .ref x0), (1, .int x1)]) dX1_noiseFor_22 rfl kI_1 rfl (fun _ => rfl) (fun v5 => ?_)
      refine l_goto (t := 2) dX1_noiseFor_25 rfl ?_
      exact l_al rfl ⟨rfl, rfl, rfl, trivial⟩

/-! ROWS OF METHODS, by program (wip/whole/wp.py, wpemit.py): each method as an expression -/
set_option maxRecDepth 16000 in
theorem w_X12_init (S : xS) (x0 : Nat) (x1 : Int32) (x2 : Int32) (h : xH) : xle (if x0 < h.length then xqI (xM S mJ9_min_7cf53 [.int (64 : Int32), .int x1] h) xth fun v2 h1 => xqI (xM S mJ9_max_7cf53 [.int (8 : Int32), .int v2] h1) xth fun v4 h3 => (xP true 11 h3 x0 11 0 (.int v4)).bind fun h5 => xqI (xM S mJ9_min_7cf53 [.int (64 : Int32), .int x2] h5) xth fun v7 h6 => xqI (xM S mJ9_max_7cf53 [.int (8 : Int32), .int v7] h6) xth fun v9 h8 => (xP true 11 h8 x0 11 1 (.int v9)).bind fun h10 => xNa 4 (.inr (.inr (.inr (.inr (fun _ => none))))) (4 : Int32) h10 fun a11 h12 => (xP true 11 h12 x0 11 2 (.ref a11)).bind fun h13 => (xden S mX12_init 42 [(0, .ref x0)] [] h13) else none) (xM S mX12_init [.ref x0, .int x1, .int x2] h) := by
  show xle _ (xden S mX12_init 0 [(0, .ref x0), (1, .int x1), (2, .int x2)] [] h)
  refine l_loc dX12_init_0 rfl rfl ?_
  refine l_obi dX12_init_1 rfl rfl rfl ?_
  refine l_loc dX12_init_4 rfl rfl ?_
  refine l_bi dX12_init_5 kB_8 ?_
  refine l_bi dX12_init_7 kB_64 ?_
  refine l_loc dX12_init_9 rfl rfl ?_
  refine l_cI dX12_init_10 rfl rfl rfl (l_xs cl_11_9 ko_mJ9_min_7cf53 rfl rfl) rfl rfl nm_mJ9_min_7cf53 (xhE_th rfl) (fun v2 h1 => ?_)
  refine l_cI dX12_init_13 rfl rfl rfl (l_xs cl_11_15 ko_mJ9_max_7cf53 rfl rfl) rfl rfl nm_mJ9_max_7cf53 (xhE_th rfl) (fun v4 h3 => ?_)
  refine l_pf dX12_init_16 fl_11_18 (ini := true) nm_mX12_init (fun h5 => ?_)
  refine l_loc dX12_init_19 rfl rfl ?_
  refine l_bi dX12_init_20 kB_8 ?_
  refine l_bi dX12_init_22 kB_64 ?_
  refine l_loc dX12_init_24 rfl rfl ?_
  refine l_cI dX12_init_25 rfl rfl rfl (l_xs cl_11_9 ko_mJ9_min_7cf53 rfl rfl) rfl rfl nm_mJ9_min_7cf53 (xhE_th rfl) (fun v7 h6 => ?_)
  refine l_cI dX12_init_28 rfl rfl rfl (l_xs cl_11_15 ko_mJ9_max_7cf53 rfl rfl) rfl rfl nm_mJ9_max_7cf53 (xhE_th rfl) (fun v9 h8 => ?_)
  refine l_pf dX12_init_31 fl_11_22 (ini := true) nm_mX12_init (fun h10 => ?_)
  refine l_loc dX12_init_34 rfl rfl ?_
  refine l_ic dX12_init_35 kI_4 ?_
  refine l_na (t := 4) dX12_init_36 rfl (fun a11 h12 => ?_)
  refine l_pf dX12_init_39 fl_11_27 (ini := true) nm_mX12_init (fun h13 => ?_)
  exact l_al rfl ⟨rfl, trivial⟩
set_option maxRecDepth 16000 in
theorem w_X12_init_42 (S : xS) (x0 : Nat) (h : xH) : xle (xden S mX12_init 44 [(0, .ref x0), (3, .int (0 : Int32))] [] h) (xden S mX12_init 42 [(0, .ref x0)] [] h) := by
  refine l_ic dX12_init_42 kI_0 ?_
  refine l_loc (al1 := [(3, .int (0 : Int32)), (0, .ref x0)]) dX12_init_43 rfl rfl ?_
  exact l_al rfl ⟨rfl, rfl, trivial⟩
set_option maxRecDepth 16000 in
theorem w_X12_init_44 (S : xS) (x0 : Nat) (x3 : Int32) (h : xH) : xle (if (4 : Int32) ≤ x3 then (xNo 3 h fun a1 h2 => (xGi h2 x0 11 0).bind fun v3 => (xGi h2 x0 11 1).bind fun v4 => xqC (xM S mX3_init [.ref a1, .int v3, .int v4] h2) fun h5 => (xP true 11 h5 x0 11 3 (.ref a1)).bind fun h6 => (xden S mX12_init 95 [(0, .ref x0)] [] h6)) else ((xGr h x0 11 2).bind fun v7 => xNo 4 h fun a8 h9 => (xGi h9 x0 11 0).bind fun v10 => (xGi h9 x0 11 1).bind fun v11 => xqC (xM S mX4_init [.ref a8, .int v10, .int v11] h9) fun h12 => (xWr h12 v7 x3 a8).bind fun h13 => xlet (x3 + (1 : Int32)) fun v14 => (xden S mX12_init 44 [(0, .ref x0), (3, .int v14)] [] h13))) (xden S mX12_init 44 [(0, .ref x0), (3, .int x3)] [] h) := by
  refine l_loc dX12_init_44 rfl rfl ?_
  refine l_ic dX12_init_45 kI_4 ?_
  refine l_cge (t := 76) dX12_init_46 rfl ?_ ?_
  · refine l_loc dX12_init_76 rfl rfl ?_
    refine l_new (c := 3) dX12_init_77 rfl (fun a1 h2 _ _ => ?_)
    refine l_pure dX12_init_80 rfl rfl ?_
    refine l_loc dX12_init_81 rfl rfl ?_
    refine l_gi dX12_init_82 fl_11_18 (fun v3 => ?_)
    refine l_loc dX12_init_85 rfl rfl ?_
    refine l_gi dX12_init_86 fl_11_22 (fun v4 => ?_)
    refine l_cC dX12_init_89 rfl rfl rfl (l_xi cl_11_36 ko_mX3_init rfl rfl rfl) rfl rfl (fun h5 => ?_)
    refine l_pf dX12_init_92 fl_11_37 (ini := true) nm_mX12_init (fun h6 => ?_)
    exact l_al rfl ⟨rfl, trivial⟩
  · refine l_loc dX12_init_49 rfl rfl ?_
    refine l_gr dX12_init_50 fl_11_27 (fun v7 => ?_)
    refine l_loc dX12_init_53 rfl rfl ?_
    refine l_new (c := 4) dX12_init_54 rfl (fun a8 h9 _ _ => ?_)
    refine l_pure dX12_init_57 rfl rfl ?_
    refine l_loc dX12_init_58 rfl rfl ?_
    refine l_gi dX12_init_59 fl_11_18 (fun v10 => ?_)
    refine l_loc dX12_init_62 rfl rfl ?_
    refine l_gi dX12_init_63 fl_11_22 (fun v11 => ?_)
    refine l_cC dX12_init_66 rfl rfl rfl (l_xi cl_11_31 ko_mX4_init rfl rfl rfl) rfl rfl (fun h12 => ?_)
    refine l_wa dX12_init_69 (fun h13 => ?_)
    refine l_incl (al1 := fun v14 => [(3, .int v14), (0, .ref x0)]) dX12_init_70 rfl kI_1 rfl (fun _ => rfl) (fun v14 => ?_)
    refine l_goto (t := 44) dX12_init_73 rfl ?_
    exact l_al rfl ⟨rfl, rfl, trivial⟩
set_option maxRecDepth 16000 in
theorem w_X12_init_95 (S : xS) (x0 : Nat) (h : xH) : xle (xNo 0 h fun a1 h2 => (xGi h2 x0 11 0).bind fun v3 => (xGi h2 x0 11 1).bind fun v4 => xqC (xM S mX0_init [.ref a1, .int v3, .int v4] h2) fun h5 => (xP true 11 h5 x0 11 4 (.ref a1)).bind fun h6 => xNo 10 h6 fun a7 h8 => xqC (xM S mX11_init [.ref a7] h8) fun h9 => (xP true 11 h9 x0 11 5 (.ref a7)).bind fun h10 => xNo 2 h10 fun a11 h12 => xqC (xM S mX2_init [.ref a11] h12) fun h13 => (xP true 11 h13 x0 11 6 (.ref a11)).bind fun h14 => xNm2 (6 : Int32) (4 : Int32) h14 fun a15 h16 => (xP true 11 h16 x0 11 7 (.ref a15)).bind fun h17 => (xden S mX12_init 147 [(0, .ref x0)] [] h17)) (xden S mX12_init 95 [(0, .ref x0)] [] h) := by
  refine l_loc dX12_init_95 rfl rfl ?_
  refine l_new (c := 0) dX12_init_96 rfl (fun a1 h2 _ _ => ?_)
  refine l_pure dX12_init_99 rfl rfl ?_
  refine l_loc dX12_init_100 rfl rfl ?_
  refine l_gi dX12_init_101 fl_11_18 (fun v3 => ?_)
  refine l_loc dX12_init_104 rfl rfl ?_
  refine l_gi dX12_init_105 fl_11_22 (fun v4 => ?_)
  refine l_cC dX12_init_108 rfl rfl rfl (l_xi cl_11_43 ko_mX0_init rfl rfl rfl) rfl rfl (fun h5 => ?_)
  refine l_pf dX12_init_111 fl_11_44 (ini := true) nm_mX12_init (fun h6 => ?_)
  refine l_loc dX12_init_114 rfl rfl ?_
  refine l_new (c := 10) dX12_init_115 rfl (fun a7 h8 _ _ => ?_)
  refine l_pure dX12_init_118 rfl rfl ?_
  refine l_cC dX12_init_119 rfl rfl rfl (l_xi cl_11_50 ko_mX11_init rfl rfl rfl) rfl rfl (fun h9 => ?_)
  refine l_pf dX12_init_122 fl_11_51 (ini := true) nm_mX12_init (fun h10 => ?_)
  refine l_loc dX12_init_125 rfl rfl ?_
  refine l_new (c := 2) dX12_init_126 rfl (fun a11 h12 _ _ => ?_)
  refine l_pure dX12_init_129 rfl rfl ?_
  refine l_cC dX12_init_130 rfl rfl rfl (l_xi cl_11_57 ko_mX2_init rfl rfl rfl) rfl rfl (fun h13 => ?_)
  refine l_pf dX12_init_133 fl_11_58 (ini := true) nm_mX12_init (fun h14 => ?_)
  refine l_loc dX12_init_136 rfl rfl ?_
  refine l_bi dX12_init_137 kB_6 ?_
  refine l_ic dX12_init_139 kI_4 ?_
  refine l_nm dX12_init_140 rfl (fun a15 h16 => ?_)
  refine l_pf dX12_init_144 fl_11_64 (ini := true) nm_mX12_init (fun h17 => ?_)
  exact l_al rfl ⟨rfl, trivial⟩
set_option maxRecDepth 16000 in
theorem w_X12_init_147 (S : xS) (x0 : Nat) (h : xH) : xle (xNo 4 h fun a1 h2 => (xGi h2 x0 11 0).bind fun v3 => (xGi h2 x0 11 1).bind fun v4 => xqC (xM S mX4_init [.ref a1, .int v3, .int v4] h2) fun h5 => (xP true 11 h5 x0 11 9 (.ref a1)).bind fun h6 => xNo 9 h6 fun a7 h8 => xqC (xM S mX10_init [.ref a7] h8) fun h9 => (xP true 11 h9 x0 11 10 (.ref a7)).bind fun h10 => xNo 1 h10 fun a11 h12 => (xGi h12 x0 11 0).bind fun v13 => (xGi h12 x0 11 1).bind fun v14 => xqC (xM S mX1_init [.ref a11, .int v13, .int v14] h12) fun h15 => (xP true 11 h15 x0 11 11 (.ref a11)).bind fun h16 => (xden S mX12_init 196 [(0, .ref x0)] [] h16)) (xden S mX12_init 147 [(0, .ref x0)] [] h) := by
  refine l_loc dX12_init_147 rfl rfl ?_
  refine l_new (c := 4) dX12_init_148 rfl (fun a1 h2 _ _ => ?_)
  refine l_pure dX12_init_151 rfl rfl ?_
  refine l_loc dX12_init_152 rfl rfl ?_
  refine l_gi dX12_init_153 fl_11_18 (fun v3 => ?_)
  refine l_loc dX12_init_156 rfl rfl ?_
  refine l_gi dX12_init_157 fl_11_22 (fun v4 => ?_)
  refine l_cC dX12_init_160 rfl rfl rfl (l_xi cl_11_31 ko_mX4_init rfl rfl rfl) rfl rfl (fun h5 => ?_)
  refine l_pf dX12_init_163 fl_11_67 (ini := true) nm_mX12_init (fun h6 => ?_)
  refine l_loc dX12_init_166 rfl rfl ?_
  refine l_new (c := 9) dX12_init_167 rfl (fun a7 h8 _ _ => ?_)
  refine l_pure dX12_init_170 rfl rfl ?_
  refine l_cC dX12_init_171 rfl rfl rfl (l_xi cl_11_73 ko_mX10_init rfl rfl rfl) rfl rfl (fun h9 => ?_)
  refine l_pf dX12_init_174 fl_11_74 (ini := true) nm_mX12_init (fun h10 => ?_)
  refine l_loc dX12_init_177 rfl rfl ?_
  refine l_new (c := 1) dX12_init_178 rfl (fun a11 h12 _ _ => ?_)
  refine l_pure dX12_init_181 rfl rfl ?_
  refine l_loc dX12_init_182 rfl rfl ?_
  refine l_gi dX12_init_183 fl_11_18 (fun v13 => ?_)
  refine l_loc dX12_init_186 rfl rfl ?_
  refine l_gi dX12_init_187 fl_11_22 (fun v14 => ?_)
  refine l_cC dX12_init_190 rfl rfl rfl (l_xi cl_11_80 ko_mX1_init rfl rfl rfl) rfl rfl (fun h15 => ?_)
  refine l_pf dX12_init_193 fl_11_81 (ini := true) nm_mX12_init (fun h16 => ?_)
  exact l_al rfl ⟨rfl, trivial⟩
set_option maxRecDepth 16000 in
theorem w_X12_init_196 (S : xS) (x0 : Nat) (h : xH) : xle (xNo 6 h fun a1 h2 => xqC (xM S mX6_init [.ref a1] h2) fun h3 => (xP true 11 h3 x0 11 13 (.ref a1)).bind fun h4 => some (.inl none, h4, 0, 0)) (xden S mX12_init 196 [(0, .ref x0)] [] h) := by
  refine l_loc dX12_init_196 rfl rfl ?_
  refine l_new (c := 6) dX12_init_197 rfl (fun a1 h2 _ _ => ?_)
  refine l_pure dX12_init_200 rfl rfl ?_
  refine l_cC dX12_init_201 rfl rfl rfl (l_xi cl_11_87 ko_mX6_init rfl rfl rfl) rfl rfl (fun h3 => ?_)
  refine l_pf dX12_init_204 fl_11_88 (ini := true) nm_mX12_init (fun h4 => ?_)
  exact l_end dX12_init_207 rfl rfl
set_option maxRecDepth 16000 in
theorem w_X12_clearText (S : xS) (x0 : Nat) (h : xH) : xle ((xGr h x0 11 5).bind fun v1 => if xOb h v1 10 = true then xqI (xM S mX11_clear [.ref v1] h) xth fun v4 h3 => some (.inl (some (.int v4)), h3, 0, 0) else none) (xM S mX12_clearText [.ref x0] h) := by
  show xle _ (xden S mX12_clearText 0 [(0, .ref x0)] [] h)
  refine l_loc dX12_clearText_0 rfl rfl ?_
  refine l_gr dX12_clearText_1 fl_11_51 (fun v1 => ?_)
  refine l_ob fun q2 => ?_
  refine l_cI dX12_clearText_4 rfl rfl rfl (l_xv cl_11_155 ko_mX11_clear rfl rfl rfl q2) rfl rfl nm_mX11_clear (xhE_th rfl) (fun v4 h3 => ?_)
  exact l_iretn dX12_clearText_7 rfl (by rfl)
set_option maxRecDepth 16000 in
theorem w_X12_configure (S : xS) (x0 : Nat) (h : xH) : xle ((xGr h x0 11 6).bind fun v1 => (xGr h x0 11 5).bind fun v2 => if xOb h v1 2 = true then xqI (xM S mX2_read [.ref v1, .ref v2] h) xth fun v5 h4 => if v5 < 0 then (some (.inl (some (.int v5)), h4, 0, 0)) else ((xGr h4 x0 11 6).bind fun v6 => if xOb h4 v6 2 = true then xqV (xM S mX2_applyRead [.ref v6] h4) xth fun h8 => (xGr h8 x0 11 5).bind fun v10 => if xOb h8 v10 10 = true then xqI (xM S mX11_clear [.ref v10] h8) xth fun v13 h12 => some (.inl (some (.int v5)), h12, 0, 0) else none else none) else none) (xM S mX12_configure [.ref x0] h) := by
  show xle _ (xden S mX12_configure 0 [(0, .ref x0)] [] h)
  refine l_loc dX12_configure_0 rfl rfl ?_
  refine l_gr dX12_configure_1 fl_11_58 (fun v1 => ?_)
  refine l_loc dX12_configure_4 rfl rfl ?_
  refine l_gr dX12_configure_5 fl_11_51 (fun v2 => ?_)
  refine l_ob fun q3 => ?_
  refine l_cI dX12_configure_8 rfl rfl rfl (l_xv cl_11_207 ko_mX2_read rfl rfl rfl q3) rfl rfl nm_mX2_read (xhE_th rfl) (fun v5 h4 => ?_)
  refine l_loc (al1 := [(1, .int v5), (0, .ref x0)]) dX12_configure_11 rfl rfl ?_
  refine l_loc dX12_configure_12 rfl rfl ?_
  refine l_ilt (t := 31) dX12_configure_13 rfl ?_ ?_
  · refine l_loc dX12_configure_31 rfl rfl ?_
    exact l_iretn dX12_configure_32 rfl (by rfl)
  · refine l_loc dX12_configure_16 rfl rfl ?_
    refine l_gr dX12_configure_17 fl_11_58 (fun v6 => ?_)
    refine l_ob fun q7 => ?_
    refine l_cV dX12_configure_20 rfl rfl rfl (l_xv cl_11_211 ko_mX2_applyRead rfl rfl rfl q7) rfl rfl nm_mX2_applyRead (xhE_th rfl) (fun h8 => ?_)
    refine l_loc dX12_configure_23 rfl rfl ?_
    refine l_gr dX12_configure_24 fl_11_51 (fun v10 => ?_)
    refine l_ob fun q11 => ?_
    refine l_cI dX12_configure_27 rfl rfl rfl (l_xv cl_11_155 ko_mX11_clear rfl rfl rfl q11) rfl rfl nm_mX11_clear (xhE_th rfl) (fun v13 h12 => ?_)
    refine l_pure dX12_configure_30 rfl rfl ?_
    refine l_loc dX12_configure_31 rfl rfl ?_
    exact l_iretn dX12_configure_32 rfl (by rfl)
set_option maxRecDepth 16000 in
theorem w_X12_compare (S : xS) (x0 : Nat) (h : xH) : xle ((xGr h x0 11 9).bind fun v1 => (xGi h x0 11 0).bind fun v2 => (xGi h x0 11 1).bind fun v3 => if xOb h v1 4 = true then xqV (xM S mX4_paint [.ref v1, .long (0 : Int64), .long (0 : Int64), .int v2, .int v3, .int (1 : Int32)] h) xth fun h5 => (xden S mX12_compare 20 [(0, .ref x0), (1, .int (0 : Int32))] [] h5) else none) (xM S mX12_compare [.ref x0] h) := by
  show xle _ (xden S mX12_compare 0 [(0, .ref x0)] [] h)
  refine l_loc dX12_compare_0 rfl rfl ?_
  refine l_gr dX12_compare_1 fl_11_67 (fun v1 => ?_)
  refine l_lc0 dX12_compare_4 ?_
  refine l_lc0 dX12_compare_5 ?_
  refine l_loc dX12_compare_6 rfl rfl ?_
  refine l_gi dX12_compare_7 fl_11_18 (fun v2 => ?_)
  refine l_loc dX12_compare_10 rfl rfl ?_
  refine l_gi dX12_compare_11 fl_11_22 (fun v3 => ?_)
  refine l_ic dX12_compare_14 kI_1 ?_
  refine l_ob fun q4 => ?_
  refine l_cV dX12_compare_15 rfl rfl rfl (l_xv cl_11_119 ko_mX4_paint rfl rfl rfl q4) rfl rfl nm_mX4_paint (xhE_th rfl) (fun h5 => ?_)
  refine l_ic dX12_compare_18 kI_0 ?_
  refine l_loc (al1 := [(1, .int (0 : Int32)), (0, .ref x0)]) dX12_compare_19 rfl rfl ?_
  exact l_al rfl ⟨rfl, rfl, trivial⟩
set_option maxRecDepth 16000 in
theorem w_X12_compare_20 (S : xS) (x0 : Nat) (x1 : Int32) (h : xH) : xle ((xGi h x0 11 8).bind fun v1 => if v1 ≤ x1 then ((xGr h x0 11 11).bind fun v2 => (xGr h x0 11 2).bind fun v3 => (xRr h v3 (0 : Int32)).bind fun v4 => (xGr h x0 11 2).bind fun v5 => (xRr h v5 (1 : Int32)).bind fun v6 => (xGr h x0 11 4).bind fun v7 => (xGr h x0 11 6).bind fun v8 => if xOb h v2 1 = true then xqV (xM S mX1_clean [.ref v2, .ref v4, .ref v6, .ref v7, .ref v8] h) xth fun h10 => (xGr h10 x0 11 11).bind fun v12 => (xGr h10 x0 11 9).bind fun v13 => (xGr h10 x0 11 6).bind fun v14 => (xGr h10 x0 11 10).bind fun v15 => if xOb h10 v12 1 = true then xqV (xM S mX1_examine [.ref v12, .ref v13, .ref v14, .ref v15] h10) xth fun h17 => (xP false 11 h17 x0 11 12 (.int (1 : Int32))).bind fun h19 => (xGr h19 x0 11 11).bind fun v20 => (xGi h19 v20 1 19).bind fun v21 => some (.inl (some (.int v21)), h19, 0, 0) else none else none) else ((xGr h x0 11 7).bind fun v22 => (xRr h v22 x1).bind fun v23 => (xGr h x0 11 9).bind fun v24 => (xRi h 0 v23 (0 : Int32)).bind fun v25 => (xRi h 0 v23 (1 : Int32)).bind fun v26 => (xRi h 0 v23 (2 : Int32)).bind fun v27 => (xRi h 0 v23 (3 : Int32)).bind fun v28 => if xOb h v24 4 = true then xqV (xM S mX4_paint [.ref v24, .long (v25.toInt64), .long (v26.toInt64), .int v27, .int v28, .int (0 : Int32)] h) xth fun h30 => xlet (x1 + (1 : Int32)) fun v32 => (xden S mX12_compare 20 [(0, .ref x0), (1, .int v32)] [] h30) else none)) (xden S mX12_compare 20 [(0, .ref x0), (1, .int x1)] [] h) := by
  refine l_loc dX12_compare_20 rfl rfl ?_
  refine l_loc dX12_compare_21 rfl rfl ?_
  refine l_gi dX12_compare_22 fl_11_245 (fun v1 => ?_)
  refine l_cge (t := 63) dX12_compare_25 rfl ?_ ?_
  · refine l_loc dX12_compare_63 rfl rfl ?_
    refine l_gr dX12_compare_64 fl_11_81 (fun v2 => ?_)
    refine l_loc dX12_compare_67 rfl rfl ?_
    refine l_gr dX12_compare_68 fl_11_27 (fun v3 => ?_)
    refine l_ic dX12_compare_71 kI_0 ?_
    refine l_rr dX12_compare_72 (fun v4 => ?_)
    refine l_loc dX12_compare_73 rfl rfl ?_
    refine l_gr dX12_compare_74 fl_11_27 (fun v5 => ?_)
    refine l_ic dX12_compare_77 kI_1 ?_
    refine l_rr dX12_compare_78 (fun v6 => ?_)
    refine l_loc dX12_compare_79 rfl rfl ?_
    refine l_gr dX12_compare_80 fl_11_44 (fun v7 => ?_)
    refine l_loc dX12_compare_83 rfl rfl ?_
    refine l_gr dX12_compare_84 fl_11_58 (fun v8 => ?_)
    refine l_ob fun q9 => ?_
    refine l_cV dX12_compare_87 rfl rfl rfl (l_xv cl_11_258 ko_mX1_clean rfl rfl rfl q9) rfl rfl nm_mX1_clean (xhE_th rfl) (fun h10 => ?_)
    refine l_loc dX12_compare_90 rfl rfl ?_
    refine l_gr dX12_compare_91 fl_11_81 (fun v12 => ?_)
    refine l_loc dX12_compare_94 rfl rfl ?_
    refine l_gr dX12_compare_95 fl_11_67 (fun v13 => ?_)
    refine l_loc dX12_compare_98 rfl rfl ?_
    refine l_gr dX12_compare_99 fl_11_58 (fun v14 => ?_)
    refine l_loc dX12_compare_102 rfl rfl ?_
    refine l_gr dX12_compare_103 fl_11_74 (fun v15 => ?_)
    refine l_ob fun q16 => ?_
    refine l_cV dX12_compare_106 rfl rfl rfl (l_xv cl_11_262 ko_mX1_examine rfl rfl rfl q16) rfl rfl nm_mX1_examine (xhE_th rfl) (fun h17 => ?_)
    refine l_loc dX12_compare_109 rfl rfl ?_
    refine l_ic dX12_compare_110 kI_1 ?_
    refine l_pf dX12_compare_111 fl_11_266 (ini := false) nm_mX12_compare (fun h19 => ?_)
    refine l_loc dX12_compare_114 rfl rfl ?_
    refine l_gr dX12_compare_115 fl_11_81 (fun v20 => ?_)
    refine l_gi dX12_compare_118 fl_11_270 (fun v21 => ?_)
    exact l_iretn dX12_compare_121 rfl (by rfl)
  · refine l_loc dX12_compare_28 rfl rfl ?_
    refine l_gr dX12_compare_29 fl_11_64 (fun v22 => ?_)
    refine l_loc dX12_compare_32 rfl rfl ?_
    refine l_rr dX12_compare_33 (fun v23 => ?_)
    refine l_loc (al1 := [(2, .ref v23), (0, .ref x0), (1, .int x1)]) dX12_compare_34 rfl rfl ?_
    refine l_loc dX12_compare_35 rfl rfl ?_
    refine l_gr dX12_compare_36 fl_11_67 (fun v24 => ?_)
    refine l_loc dX12_compare_39 rfl rfl ?_
    refine l_ic dX12_compare_40 kI_0 ?_
    refine l_ri dX12_compare_41 (fun v25 => ?_)
    refine l_pure dX12_compare_42 rfl rfl ?_
    refine l_loc dX12_compare_43 rfl rfl ?_
    refine l_ic dX12_compare_44 kI_1 ?_
    refine l_ri dX12_compare_45 (fun v26 => ?_)
    refine l_pure dX12_compare_46 rfl rfl ?_
    refine l_loc dX12_compare_47 rfl rfl ?_
    refine l_ic dX12_compare_48 kI_2 ?_
    refine l_ri dX12_compare_49 (fun v27 => ?_)
    refine l_loc dX12_compare_50 rfl rfl ?_
    refine l_ic dX12_compare_51 kI_3 ?_
    refine l_ri dX12_compare_52 (fun v28 => ?_)
    refine l_ic dX12_compare_53 kI_0 ?_
    refine l_ob fun q29 => ?_
    refine l_cV dX12_compare_54 rfl rfl rfl (l_xv cl_11_119 ko_mX4_paint rfl rfl rfl q29) rfl rfl nm_mX4_paint (xhE_th rfl) (fun h30 => ?_)
    refine l_incl (al1 := fun v32 => [(1, .int v32), (2, .ref v23), (0, .ref x0)]) dX12_compare_57 rfl kI_1 rfl (fun _ => rfl) (fun v32 => ?_)
    refine l_goto (t := 20) dX12_compare_60 rfl ?_
    exact l_al rfl ⟨rfl, rfl, trivial⟩
set_option maxRecDepth 16000 in
theorem w_X12_row (S : xS) (x0 : Nat) (x1 : Int32) (x2 : Int32) (h : xH) : xle (if xOb h x0 11 = true then xqR (xM S mX12_pageAt [.ref x0, .int x1] h) xth fun v3 h2 => if xOb h2 x0 11 = true then xqV (xM S mX12_requireRow [.ref x0, .int x2] h2) xth fun h5 => if xOb h5 v3 4 = true then xqJ (xM S mX4_rowAt [.ref v3, .int x2] h5) xth fun v9 h8 => some (.inl (some (.long v9)), h8, 0, 0) else none else none else none) (xM S mX12_row [.ref x0, .int x1, .int x2] h) := by
  show xle _ (xden S mX12_row 0 [(0, .ref x0), (1, .int x1), (2, .int x2)] [] h)
  refine l_loc dX12_row_0 rfl rfl ?_
  refine l_loc dX12_row_1 rfl rfl ?_
  refine l_ob fun q1 => ?_
  refine l_cR dX12_row_2 rfl rfl rfl (l_xv cl_11_92 ko_mX12_pageAt rfl rfl rfl q1) rfl rfl nm_mX12_pageAt (xhE_th rfl) (fun v3 h2 => ?_)
  refine l_loc (al1 := [(3, .ref v3), (0, .ref x0), (1, .int x1), (2, .int x2)]) dX12_row_5 rfl rfl ?_
  refine l_loc dX12_row_6 rfl rfl ?_
  refine l_loc dX12_row_7 rfl rfl ?_
  refine l_ob fun q4 => ?_
  refine l_cV dX12_row_8 rfl rfl rfl (l_xv cl_11_96 ko_mX12_requireRow rfl rfl rfl q4) rfl rfl nm_mX12_requireRow (xhE_th rfl) (fun h5 => ?_)
  refine l_loc dX12_row_11 rfl rfl ?_
  refine l_loc dX12_row_12 rfl rfl ?_
  refine l_ob fun q7 => ?_
  refine l_cJ dX12_row_13 rfl rfl rfl (l_xv cl_11_100 ko_mX4_rowAt rfl rfl rfl q7) rfl rfl nm_mX4_rowAt (xhE_th rfl) (fun v9 h8 => ?_)
  exact l_end dX12_row_16 rfl rfl
set_option maxRecDepth 16000 in
theorem w_X12_pageAt (S : xS) (x0 : Nat) (x1 : Int32) (h : xH) : xle (if x1 < 0 then (some (.inr "java/lang/IndexOutOfBoundsException", h, 1, 6)) else ((xGr h x0 11 2).bind fun v1 => (xRz h v1).bind fun v2 => if x1 < v2 then ((xGr h x0 11 2).bind fun v3 => (xRr h v3 x1).bind fun v4 => some (.inl (some (.ref v4)), h, 0, 0)) else (some (.inr "java/lang/IndexOutOfBoundsException", h, 1, 6)))) (xM S mX12_pageAt [.ref x0, .int x1] h) := by
  show xle _ (xden S mX12_pageAt 0 [(0, .ref x0), (1, .int x1)] [] h)
  refine l_loc dX12_pageAt_0 rfl rfl ?_
  refine l_ilt (t := 13) dX12_pageAt_1 rfl ?_ ?_
  · exact l_thw dX12_pageAt_13 dX12_pageAt_16 dX12_pageAt_17 dX12_pageAt_20 dX12_pageAt_23 rfl rfl rfl rfl rfl
  · refine l_loc dX12_pageAt_4 rfl rfl ?_
    refine l_loc dX12_pageAt_5 rfl rfl ?_
    refine l_gr dX12_pageAt_6 fl_11_27 (fun v1 => ?_)
    refine l_ln dX12_pageAt_9 (fun v2 => ?_)
    refine l_clt (t := 24) dX12_pageAt_10 rfl ?_ ?_
    · refine l_loc dX12_pageAt_24 rfl rfl ?_
      refine l_gr dX12_pageAt_25 fl_11_27 (fun v3 => ?_)
      refine l_loc dX12_pageAt_28 rfl rfl ?_
      refine l_rr dX12_pageAt_29 (fun v4 => ?_)
      exact l_end dX12_pageAt_30 rfl rfl
    · exact l_thw dX12_pageAt_13 dX12_pageAt_16 dX12_pageAt_17 dX12_pageAt_20 dX12_pageAt_23 rfl rfl rfl rfl rfl
set_option maxRecDepth 16000 in
theorem w_X12_requireRow (S : xS) (x0 : Nat) (x1 : Int32) (h : xH) : xle (if x1 < 0 then (some (.inr "java/lang/IndexOutOfBoundsException", h, 1, 6)) else ((xGi h x0 11 1).bind fun v1 => if x1 < v1 then (some (.inl none, h, 0, 0)) else (some (.inr "java/lang/IndexOutOfBoundsException", h, 1, 6)))) (xM S mX12_requireRow [.ref x0, .int x1] h) := by
  show xle _ (xden S mX12_requireRow 0 [(0, .ref x0), (1, .int x1)] [] h)
  refine l_loc dX12_requireRow_0 rfl rfl ?_
  refine l_ilt (t := 12) dX12_requireRow_1 rfl ?_ ?_
  · exact l_thw dX12_requireRow_12 dX12_requireRow_15 dX12_requireRow_16 dX12_requireRow_19 dX12_requireRow_22 rfl rfl rfl rfl rfl
  · refine l_loc dX12_requireRow_4 rfl rfl ?_
    refine l_loc dX12_requireRow_5 rfl rfl ?_
    refine l_gi dX12_requireRow_6 fl_11_22 (fun v1 => ?_)
    refine l_clt (t := 23) dX12_requireRow_9 rfl ?_ ?_
    · exact l_end dX12_requireRow_23 rfl rfl
    · exact l_thw dX12_requireRow_12 dX12_requireRow_15 dX12_requireRow_16 dX12_requireRow_19 dX12_requireRow_22 rfl rfl rfl rfl rfl
set_option maxRecDepth 16000 in
theorem w_X12_setRow (S : xS) (x0 : Nat) (x1 : Int32) (x2 : Int32) (x3 : Int64) (h : xH) : xle (if xOb h x0 11 = true then xqR (xM S mX12_pageAt [.ref x0, .int x1] h) xth fun v3 h2 => if xOb h2 x0 11 = true then xqV (xM S mX12_requireRow [.ref x0, .int x2] h2) xth fun h5 => (xGr h5 x0 11 3).bind fun v7 => if xOb h5 v7 3 = true then xqR (xM S mX3_keep [.ref v7, .int x1, .ref v3] h5) xth fun v10 h9 => if xOb h9 v3 4 = true then xqV (xM S mX4_putRow [.ref v3, .int x2, .long x3] h9) xth fun h12 => if xOb h12 v3 4 = true then xqI (xM S mX4_differences [.ref v3, .ref v10] h12) xth fun v16 h15 => some (.inl (some (.int v16)), h15, 0, 0) else none else none else none else none else none) (xM S mX12_setRow [.ref x0, .int x1, .int x2, .long x3] h) := by
  show xle _ (xden S mX12_setRow 0 [(0, .ref x0), (1, .int x1), (2, .int x2), (3, .long x3)] [] h)
  refine l_loc dX12_setRow_0 rfl rfl ?_
  refine l_loc dX12_setRow_1 rfl rfl ?_
  refine l_ob fun q1 => ?_
  refine l_cR dX12_setRow_2 rfl rfl rfl (l_xv cl_11_92 ko_mX12_pageAt rfl rfl rfl q1) rfl rfl nm_mX12_pageAt (xhE_th rfl) (fun v3 h2 => ?_)
  refine l_loc (al1 := [(5, .ref v3), (0, .ref x0), (1, .int x1), (2, .int x2), (3, .long x3)]) dX12_setRow_5 rfl rfl ?_
  refine l_loc dX12_setRow_7 rfl rfl ?_
  refine l_loc dX12_setRow_8 rfl rfl ?_
  refine l_ob fun q4 => ?_
  refine l_cV dX12_setRow_9 rfl rfl rfl (l_xv cl_11_96 ko_mX12_requireRow rfl rfl rfl q4) rfl rfl nm_mX12_requireRow (xhE_th rfl) (fun h5 => ?_)
  refine l_loc dX12_setRow_12 rfl rfl ?_
  refine l_gr dX12_setRow_13 fl_11_37 (fun v7 => ?_)
  refine l_loc dX12_setRow_16 rfl rfl ?_
  refine l_loc dX12_setRow_17 rfl rfl ?_
  refine l_ob fun q8 => ?_
  refine l_cR dX12_setRow_19 rfl rfl rfl (l_xv cl_11_104 ko_mX3_keep rfl rfl rfl q8) rfl rfl nm_mX3_keep (xhE_th rfl) (fun v10 h9 => ?_)
  refine l_loc (al1 := [(6, .ref v10), (5, .ref v3), (0, .ref x0), (1, .int x1), (2, .int x2), (3, .long x3)]) dX12_setRow_22 rfl rfl ?_
  refine l_loc dX12_setRow_24 rfl rfl ?_
  refine l_loc dX12_setRow_26 rfl rfl ?_
  refine l_loc dX12_setRow_27 rfl rfl ?_
  refine l_ob fun q11 => ?_
  refine l_cV dX12_setRow_28 rfl rfl rfl (l_xv cl_11_108 ko_mX4_putRow rfl rfl rfl q11) rfl rfl nm_mX4_putRow (xhE_th rfl) (fun h12 => ?_)
  refine l_loc dX12_setRow_31 rfl rfl ?_
  refine l_loc dX12_setRow_33 rfl rfl ?_
  refine l_ob fun q14 => ?_
  refine l_cI dX12_setRow_35 rfl rfl rfl (l_xv cl_11_112 ko_mX4_differences rfl rfl rfl q14) rfl rfl nm_mX4_differences (xhE_th rfl) (fun v16 h15 => ?_)
  exact l_iretn dX12_setRow_38 rfl (by rfl)
set_option maxRecDepth 16000 in
theorem w_X12_fill (S : xS) (x0 : Nat) (x1 : Int32) (x2 : Int32) (x3 : Int32) (x4 : Int32) (x5 : Int32) (x6 : Int32) (h : xH) : xle (if xOb h x0 11 = true then xqR (xM S mX12_pageAt [.ref x0, .int x1] h) xth fun v3 h2 => xqV (xM S mX12_requireSize [.int x4, .int x5] h2) xth fun h4 => (xGr h4 x0 11 3).bind fun v6 => if xOb h4 v6 3 = true then xqR (xM S mX3_keep [.ref v6, .int x1, .ref v3] h4) xth fun v9 h8 => if xOb h8 v3 4 = true then xqV (xM S mX4_paint [.ref v3, .long (x2.toInt64), .long (x3.toInt64), .int x4, .int x5, .int x6] h8) xth fun h11 => if xOb h11 v3 4 = true then xqI (xM S mX4_differences [.ref v3, .ref v9] h11) xth fun v15 h14 => some (.inl (some (.int v15)), h14, 0, 0) else none else none else none else none) (xM S mX12_fill [.ref x0, .int x1, .int x2, .int x3, .int x4, .int x5, .int x6] h) := by
  show xle _ (xden S mX12_fill 0 [(0, .ref x0), (1, .int x1), (2, .int x2), (3, .int x3), (4, .int x4), (5, .int x5), (6, .int x6)] [] h)
  refine l_loc dX12_fill_0 rfl rfl ?_
  refine l_loc dX12_fill_1 rfl rfl ?_
  refine l_ob fun q1 => ?_
  refine l_cR dX12_fill_2 rfl rfl rfl (l_xv cl_11_92 ko_mX12_pageAt rfl rfl rfl q1) rfl rfl nm_mX12_pageAt (xhE_th rfl) (fun v3 h2 => ?_)
  refine l_loc (al1 := [(7, .ref v3), (0, .ref x0), (1, .int x1), (2, .int x2), (3, .int x3), (4, .int x4), (5, .int x5), (6, .int x6)]) dX12_fill_5 rfl rfl ?_
  refine l_loc dX12_fill_7 rfl rfl ?_
  refine l_loc dX12_fill_9 rfl rfl ?_
  refine l_cV dX12_fill_11 rfl rfl rfl (l_xs cl_11_116 ko_mX12_requireSize rfl rfl) rfl rfl nm_mX12_requireSize (xhE_th rfl) (fun h4 => ?_)
  refine l_loc dX12_fill_14 rfl rfl ?_
  refine l_gr dX12_fill_15 fl_11_37 (fun v6 => ?_)
  refine l_loc dX12_fill_18 rfl rfl ?_
  refine l_loc dX12_fill_19 rfl rfl ?_
  refine l_ob fun q7 => ?_
  refine l_cR dX12_fill_21 rfl rfl rfl (l_xv cl_11_104 ko_mX3_keep rfl rfl rfl q7) rfl rfl nm_mX3_keep (xhE_th rfl) (fun v9 h8 => ?_)
  refine l_loc (al1 := [(8, .ref v9), (7, .ref v3), (0, .ref x0), (1, .int x1), (2, .int x2), (3, .int x3), (4, .int x4), (5, .int x5), (6, .int x6)]) dX12_fill_24 rfl rfl ?_
  refine l_loc dX12_fill_26 rfl rfl ?_
  refine l_loc dX12_fill_28 rfl rfl ?_
  refine l_pure dX12_fill_29 rfl rfl ?_
  refine l_loc dX12_fill_30 rfl rfl ?_
  refine l_pure dX12_fill_31 rfl rfl ?_
  refine l_loc dX12_fill_32 rfl rfl ?_
  refine l_loc dX12_fill_34 rfl rfl ?_
  refine l_loc dX12_fill_36 rfl rfl ?_
  refine l_ob fun q10 => ?_
  refine l_cV dX12_fill_38 rfl rfl rfl (l_xv cl_11_119 ko_mX4_paint rfl rfl rfl q10) rfl rfl nm_mX4_paint (xhE_th rfl) (fun h11 => ?_)
  refine l_loc dX12_fill_41 rfl rfl ?_
  refine l_loc dX12_fill_43 rfl rfl ?_
  refine l_ob fun q13 => ?_
  refine l_cI dX12_fill_45 rfl rfl rfl (l_xv cl_11_112 ko_mX4_differences rfl rfl rfl q13) rfl rfl nm_mX4_differences (xhE_th rfl) (fun v15 h14 => ?_)
  exact l_iretn dX12_fill_48 rfl (by rfl)
set_option maxRecDepth 16000 in
theorem w_X12_requireSize (S : xS) (x0 : Int32) (x1 : Int32) (h : xH) : xle (if x0 < 0 then (some (.inr "java/lang/IllegalArgumentException", h, 1, 6)) else (if 0 ≤ x1 then (some (.inl none, h, 0, 0)) else (some (.inr "java/lang/IllegalArgumentException", h, 1, 6)))) (xM S mX12_requireSize [.int x0, .int x1] h) := by
  show xle _ (xden S mX12_requireSize 0 [(0, .int x0), (1, .int x1)] [] h)
  refine l_loc dX12_requireSize_0 rfl rfl ?_
  refine l_ilt (t := 8) dX12_requireSize_1 rfl ?_ ?_
  · exact l_thw dX12_requireSize_8 dX12_requireSize_11 dX12_requireSize_12 dX12_requireSize_15 dX12_requireSize_18 rfl rfl rfl rfl rfl
  · refine l_loc dX12_requireSize_4 rfl rfl ?_
    refine l_ige (t := 19) dX12_requireSize_5 rfl ?_ ?_
    · exact l_end dX12_requireSize_19 rfl rfl
    · exact l_thw dX12_requireSize_8 dX12_requireSize_11 dX12_requireSize_12 dX12_requireSize_15 dX12_requireSize_18 rfl rfl rfl rfl rfl
set_option maxRecDepth 16000 in
theorem w_X12_copy (S : xS) (x0 : Nat) (x1 : Int32) (x2 : Int32) (x3 : Int32) (x4 : Int32) (h : xH) : xle (if xOb h x0 11 = true then xqR (xM S mX12_pageAt [.ref x0, .int x1] h) xth fun v3 h2 => if xOb h2 x0 11 = true then xqR (xM S mX12_pageAt [.ref x0, .int x2] h2) xth fun v6 h5 => (xGr h5 x0 11 3).bind fun v7 => if xOb h5 v7 3 = true then xqR (xM S mX3_keep [.ref v7, .int x2, .ref v6] h5) xth fun v10 h9 => if ¬ x1 = x2 then (if xOb h9 v6 4 = true then xqV (xM S mX4_drawMoved [.ref v6, .ref v3, .int x3, .int x4] h9) xth fun h12 => if xOb h12 v6 4 = true then xqI (xM S mX4_differences [.ref v6, .ref v10] h12) xth fun v16 h15 => some (.inl (some (.int v16)), h15, 0, 0) else none else none) else (if xOb h9 v6 4 = true then xqV (xM S mX4_drawMoved [.ref v6, .ref v10, .int x3, .int x4] h9) xth fun h18 => if xOb h18 v6 4 = true then xqI (xM S mX4_differences [.ref v6, .ref v10] h18) xth fun v22 h21 => some (.inl (some (.int v22)), h21, 0, 0) else none else none) else none else none else none) (xM S mX12_copy [.ref x0, .int x1, .int x2, .int x3, .int x4] h) := by
  show xle _ (xden S mX12_copy 0 [(0, .ref x0), (1, .int x1), (2, .int x2), (3, .int x3), (4, .int x4)] [] h)
  refine l_loc dX12_copy_0 rfl rfl ?_
  refine l_loc dX12_copy_1 rfl rfl ?_
  refine l_ob fun q1 => ?_
  refine l_cR dX12_copy_2 rfl rfl rfl (l_xv cl_11_92 ko_mX12_pageAt rfl rfl rfl q1) rfl rfl nm_mX12_pageAt (xhE_th rfl) (fun v3 h2 => ?_)
  refine l_loc (al1 := [(5, .ref v3), (0, .ref x0), (1, .int x1), (2, .int x2), (3, .int x3), (4, .int x4)]) dX12_copy_5 rfl rfl ?_
  refine l_loc dX12_copy_7 rfl rfl ?_
  refine l_loc dX12_copy_8 rfl rfl ?_
  refine l_ob fun q4 => ?_
  refine l_cR dX12_copy_9 rfl rfl rfl (l_xv cl_11_92 ko_mX12_pageAt rfl rfl rfl q4) rfl rfl nm_mX12_pageAt (xhE_th rfl) (fun v6 h5 => ?_)
  refine l_loc (al1 := [(6, .ref v6), (5, .ref v3), (0, .ref x0), (1, .int x1), (2, .int x2), (3, .int x3), (4, .int x4)]) dX12_copy_12 rfl rfl ?_
  refine l_loc dX12_copy_14 rfl rfl ?_
  refine l_gr dX12_copy_15 fl_11_37 (fun v7 => ?_)
  refine l_loc dX12_copy_18 rfl rfl ?_
  refine l_loc dX12_copy_19 rfl rfl ?_
  refine l_ob fun q8 => ?_
  refine l_cR dX12_copy_21 rfl rfl rfl (l_xv cl_11_104 ko_mX3_keep rfl rfl rfl q8) rfl rfl nm_mX3_keep (xhE_th rfl) (fun v10 h9 => ?_)
  refine l_loc (al1 := [(7, .ref v10), (6, .ref v6), (5, .ref v3), (0, .ref x0), (1, .int x1), (2, .int x2), (3, .int x3), (4, .int x4)]) dX12_copy_24 rfl rfl ?_
  refine l_loc dX12_copy_26 rfl rfl ?_
  refine l_loc dX12_copy_28 rfl rfl ?_
  refine l_loc dX12_copy_29 rfl rfl ?_
  refine l_cne (t := 38) dX12_copy_30 rfl ?_ ?_
  · refine l_loc dX12_copy_38 rfl rfl ?_
    refine l_loc dX12_copy_40 rfl rfl ?_
    refine l_loc dX12_copy_41 rfl rfl ?_
    refine l_ob fun q11 => ?_
    refine l_cV dX12_copy_43 rfl rfl rfl (l_xv cl_11_123 ko_mX4_drawMoved rfl rfl rfl q11) rfl rfl nm_mX4_drawMoved (xhE_th rfl) (fun h12 => ?_)
    refine l_loc dX12_copy_46 rfl rfl ?_
    refine l_loc dX12_copy_48 rfl rfl ?_
    refine l_ob fun q14 => ?_
    refine l_cI dX12_copy_50 rfl rfl rfl (l_xv cl_11_112 ko_mX4_differences rfl rfl rfl q14) rfl rfl nm_mX4_differences (xhE_th rfl) (fun v16 h15 => ?_)
    exact l_iretn dX12_copy_53 rfl (by rfl)
  · refine l_loc dX12_copy_33 rfl rfl ?_
    refine l_goto (t := 40) dX12_copy_35 rfl ?_
    refine l_loc dX12_copy_40 rfl rfl ?_
    refine l_loc dX12_copy_41 rfl rfl ?_
    refine l_ob fun q17 => ?_
    refine l_cV dX12_copy_43 rfl rfl rfl (l_xv cl_11_123 ko_mX4_drawMoved rfl rfl rfl q17) rfl rfl nm_mX4_drawMoved (xhE_th rfl) (fun h18 => ?_)
    refine l_loc dX12_copy_46 rfl rfl ?_
    refine l_loc dX12_copy_48 rfl rfl ?_
    refine l_ob fun q20 => ?_
    refine l_cI dX12_copy_50 rfl rfl rfl (l_xv cl_11_112 ko_mX4_differences rfl rfl rfl q20) rfl rfl nm_mX4_differences (xhE_th rfl) (fun v22 h21 => ?_)
    exact l_iretn dX12_copy_53 rfl (by rfl)
set_option maxRecDepth 16000 in
theorem w_X12_merge (S : xS) (x0 : Nat) (x1 : Int32) (h : xH) : xle (if xOb h x0 11 = true then xqR (xM S mX12_pageAt [.ref x0, .int x1] h) xth fun v3 h2 => (xGr h2 x0 11 3).bind fun v4 => if xOb h2 v4 3 = true then xqR (xM S mX3_keep [.ref v4, .int x1, .ref v3] h2) xth fun v7 h6 => (xGr h6 x0 11 2).bind fun v8 => (xRr h6 v8 (1 : Int32)).bind fun v9 => (xGr h6 x0 11 2).bind fun v10 => (xRr h6 v10 (2 : Int32)).bind fun v11 => (xGr h6 x0 11 2).bind fun v12 => (xRr h6 v12 (3 : Int32)).bind fun v13 => if xOb h6 v3 4 = true then xqV (xM S mX4_drawMajority [.ref v3, .ref v9, .ref v11, .ref v13] h6) xth fun h15 => if xOb h15 v3 4 = true then xqI (xM S mX4_differences [.ref v3, .ref v7] h15) xth fun v19 h18 => some (.inl (some (.int v19)), h18, 0, 0) else none else none else none else none) (xM S mX12_merge [.ref x0, .int x1] h) := by
  show xle _ (xden S mX12_merge 0 [(0, .ref x0), (1, .int x1)] [] h)
  refine l_loc dX12_merge_0 rfl rfl ?_
  refine l_loc dX12_merge_1 rfl rfl ?_
  refine l_ob fun q1 => ?_
  refine l_cR dX12_merge_2 rfl rfl rfl (l_xv cl_11_92 ko_mX12_pageAt rfl rfl rfl q1) rfl rfl nm_mX12_pageAt (xhE_th rfl) (fun v3 h2 => ?_)
  refine l_loc (al1 := [(2, .ref v3), (0, .ref x0), (1, .int x1)]) dX12_merge_5 rfl rfl ?_
  refine l_loc dX12_merge_6 rfl rfl ?_
  refine l_gr dX12_merge_7 fl_11_37 (fun v4 => ?_)
  refine l_loc dX12_merge_10 rfl rfl ?_
  refine l_loc dX12_merge_11 rfl rfl ?_
  refine l_ob fun q5 => ?_
  refine l_cR dX12_merge_12 rfl rfl rfl (l_xv cl_11_104 ko_mX3_keep rfl rfl rfl q5) rfl rfl nm_mX3_keep (xhE_th rfl) (fun v7 h6 => ?_)
  refine l_loc (al1 := [(3, .ref v7), (2, .ref v3), (0, .ref x0), (1, .int x1)]) dX12_merge_15 rfl rfl ?_
  refine l_loc dX12_merge_16 rfl rfl ?_
  refine l_loc dX12_merge_17 rfl rfl ?_
  refine l_gr dX12_merge_18 fl_11_27 (fun v8 => ?_)
  refine l_ic dX12_merge_21 kI_1 ?_
  refine l_rr dX12_merge_22 (fun v9 => ?_)
  refine l_loc dX12_merge_23 rfl rfl ?_
  refine l_gr dX12_merge_24 fl_11_27 (fun v10 => ?_)
  refine l_ic dX12_merge_27 kI_2 ?_
  refine l_rr dX12_merge_28 (fun v11 => ?_)
  refine l_loc dX12_merge_29 rfl rfl ?_
  refine l_gr dX12_merge_30 fl_11_27 (fun v12 => ?_)
  refine l_ic dX12_merge_33 kI_3 ?_
  refine l_rr dX12_merge_34 (fun v13 => ?_)
  refine l_ob fun q14 => ?_
  refine l_cV dX12_merge_35 rfl rfl rfl (l_xv cl_11_127 ko_mX4_drawMajority rfl rfl rfl q14) rfl rfl nm_mX4_drawMajority (xhE_th rfl) (fun h15 => ?_)
  refine l_loc dX12_merge_38 rfl rfl ?_
  refine l_loc dX12_merge_39 rfl rfl ?_
  refine l_ob fun q17 => ?_
  refine l_cI dX12_merge_40 rfl rfl rfl (l_xv cl_11_112 ko_mX4_differences rfl rfl rfl q17) rfl rfl nm_mX4_differences (xhE_th rfl) (fun v19 h18 => ?_)
  exact l_iretn dX12_merge_43 rfl (by rfl)
set_option maxRecDepth 16000 in
theorem w_X12_flip (S : xS) (x0 : Nat) (x1 : Int32) (x2 : Int32) (h : xH) : xle (if xOb h x0 11 = true then xqR (xM S mX12_pageAt [.ref x0, .int x1] h) xth fun v3 h2 => if x2 < 0 then (some (.inr "java/lang/IllegalArgumentException", h2, 1, 6)) else (if x2 ≤ (2 : Int32) then ((xGr h2 x0 11 3).bind fun v4 => if xOb h2 v4 3 = true then xqR (xM S mX3_keep [.ref v4, .int x1, .ref v3] h2) xth fun v7 h6 => if x2 = (1 : Int32) then (if x2 = 0 then (if xOb h6 v3 4 = true then xqV (xM S mX4_drawFlipped [.ref v3, .ref v7, .int (0 : Int32), .int (0 : Int32)] h6) xth fun h9 => if xOb h9 v3 4 = true then xqI (xM S mX4_differences [.ref v3, .ref v7] h9) xth fun v13 h12 => some (.inl (some (.int v13)), h12, 0, 0) else none else none) else (if xOb h6 v3 4 = true then xqV (xM S mX4_drawFlipped [.ref v3, .ref v7, .int (0 : Int32), .int (1 : Int32)] h6) xth fun h15 => if xOb h15 v3 4 = true then xqI (xM S mX4_differences [.ref v3, .ref v7] h15) xth fun v19 h18 => some (.inl (some (.int v19)), h18, 0, 0) else none else none)) else (if x2 = 0 then (if xOb h6 v3 4 = true then xqV (xM S mX4_drawFlipped [.ref v3, .ref v7, .int (1 : Int32), .int (0 : Int32)] h6) xth fun h21 => if xOb h21 v3 4 = true then xqI (xM S mX4_differences [.ref v3, .ref v7] h21) xth fun v25 h24 => some (.inl (some (.int v25)), h24, 0, 0) else none else none) else (if xOb h6 v3 4 = true then xqV (xM S mX4_drawFlipped [.ref v3, .ref v7, .int (1 : Int32), .int (1 : Int32)] h6) xth fun h27 => if xOb h27 v3 4 = true then xqI (xM S mX4_differences [.ref v3, .ref v7] h27) xth fun v31 h30 => some (.inl (some (.int v31)), h30, 0, 0) else none else none)) else none) else (some (.inr "java/lang/IllegalArgumentException", h2, 1, 6))) else none) (xM S mX12_flip [.ref x0, .int x1, .int x2] h) := by
  show xle _ (xden S mX12_flip 0 [(0, .ref x0), (1, .int x1), (2, .int x2)] [] h)
  refine l_loc dX12_flip_0 rfl rfl ?_
  refine l_loc dX12_flip_1 rfl rfl ?_
  refine l_ob fun q1 => ?_
  refine l_cR dX12_flip_2 rfl rfl rfl (l_xv cl_11_92 ko_mX12_pageAt rfl rfl rfl q1) rfl rfl nm_mX12_pageAt (xhE_th rfl) (fun v3 h2 => ?_)
  refine l_loc (al1 := [(3, .ref v3), (0, .ref x0), (1, .int x1), (2, .int x2)]) dX12_flip_5 rfl rfl ?_
  refine l_loc dX12_flip_6 rfl rfl ?_
  refine l_ilt (t := 15) dX12_flip_7 rfl ?_ ?_
  · exact l_thr dX12_flip_15 dX12_flip_18 dX12_flip_19 dX12_flip_21 dX12_flip_24 rfl rfl rfl rfl rfl
  · refine l_loc dX12_flip_10 rfl rfl ?_
    refine l_ic dX12_flip_11 kI_2 ?_
    refine l_cle (t := 25) dX12_flip_12 rfl ?_ ?_
    · refine l_loc dX12_flip_25 rfl rfl ?_
      refine l_gr dX12_flip_26 fl_11_37 (fun v4 => ?_)
      refine l_loc dX12_flip_29 rfl rfl ?_
      refine l_loc dX12_flip_30 rfl rfl ?_
      refine l_ob fun q5 => ?_
      refine l_cR dX12_flip_31 rfl rfl rfl (l_xv cl_11_104 ko_mX3_keep rfl rfl rfl q5) rfl rfl nm_mX3_keep (xhE_th rfl) (fun v7 h6 => ?_)
      refine l_loc (al1 := [(4, .ref v7), (3, .ref v3), (0, .ref x0), (1, .int x1), (2, .int x2)]) dX12_flip_34 rfl rfl ?_
      refine l_loc dX12_flip_36 rfl rfl ?_
      refine l_loc dX12_flip_37 rfl rfl ?_
      refine l_loc dX12_flip_39 rfl rfl ?_
      refine l_ic dX12_flip_40 kI_1 ?_
      refine l_ceq (t := 48) dX12_flip_41 rfl ?_ ?_
      · refine l_ic dX12_flip_48 kI_0 ?_
        refine l_loc dX12_flip_49 rfl rfl ?_
        refine l_ieq (t := 57) dX12_flip_50 rfl ?_ ?_
        · refine l_ic dX12_flip_57 kI_0 ?_
          refine l_ob fun q8 => ?_
          refine l_cV dX12_flip_58 rfl rfl rfl (l_xv cl_11_138 ko_mX4_drawFlipped rfl rfl rfl q8) rfl rfl nm_mX4_drawFlipped (xhE_th rfl) (fun h9 => ?_)
          refine l_loc dX12_flip_61 rfl rfl ?_
          refine l_loc dX12_flip_62 rfl rfl ?_
          refine l_ob fun q11 => ?_
          refine l_cI dX12_flip_64 rfl rfl rfl (l_xv cl_11_112 ko_mX4_differences rfl rfl rfl q11) rfl rfl nm_mX4_differences (xhE_th rfl) (fun v13 h12 => ?_)
          exact l_iretn dX12_flip_67 rfl (by rfl)
        · refine l_ic dX12_flip_53 kI_1 ?_
          refine l_goto (t := 58) dX12_flip_54 rfl ?_
          refine l_ob fun q14 => ?_
          refine l_cV dX12_flip_58 rfl rfl rfl (l_xv cl_11_138 ko_mX4_drawFlipped rfl rfl rfl q14) rfl rfl nm_mX4_drawFlipped (xhE_th rfl) (fun h15 => ?_)
          refine l_loc dX12_flip_61 rfl rfl ?_
          refine l_loc dX12_flip_62 rfl rfl ?_
          refine l_ob fun q17 => ?_
          refine l_cI dX12_flip_64 rfl rfl rfl (l_xv cl_11_112 ko_mX4_differences rfl rfl rfl q17) rfl rfl nm_mX4_differences (xhE_th rfl) (fun v19 h18 => ?_)
          exact l_iretn dX12_flip_67 rfl (by rfl)
      · refine l_ic dX12_flip_44 kI_1 ?_
        refine l_goto (t := 49) dX12_flip_45 rfl ?_
        refine l_loc dX12_flip_49 rfl rfl ?_
        refine l_ieq (t := 57) dX12_flip_50 rfl ?_ ?_
        · refine l_ic dX12_flip_57 kI_0 ?_
          refine l_ob fun q20 => ?_
          refine l_cV dX12_flip_58 rfl rfl rfl (l_xv cl_11_138 ko_mX4_drawFlipped rfl rfl rfl q20) rfl rfl nm_mX4_drawFlipped (xhE_th rfl) (fun h21 => ?_)
          refine l_loc dX12_flip_61 rfl rfl ?_
          refine l_loc dX12_flip_62 rfl rfl ?_
          refine l_ob fun q23 => ?_
          refine l_cI dX12_flip_64 rfl rfl rfl (l_xv cl_11_112 ko_mX4_differences rfl rfl rfl q23) rfl rfl nm_mX4_differences (xhE_th rfl) (fun v25 h24 => ?_)
          exact l_iretn dX12_flip_67 rfl (by rfl)
        · refine l_ic dX12_flip_53 kI_1 ?_
          refine l_goto (t := 58) dX12_flip_54 rfl ?_
          refine l_ob fun q26 => ?_
          refine l_cV dX12_flip_58 rfl rfl rfl (l_xv cl_11_138 ko_mX4_drawFlipped rfl rfl rfl q26) rfl rfl nm_mX4_drawFlipped (xhE_th rfl) (fun h27 => ?_)
          refine l_loc dX12_flip_61 rfl rfl ?_
          refine l_loc dX12_flip_62 rfl rfl ?_
          refine l_ob fun q29 => ?_
          refine l_cI dX12_flip_64 rfl rfl rfl (l_xv cl_11_112 ko_mX4_differences rfl rfl rfl q29) rfl rfl nm_mX4_differences (xhE_th rfl) (fun v31 h30 => ?_)
          exact l_iretn dX12_flip_67 rfl (by rfl)
    · exact l_thr dX12_flip_15 dX12_flip_18 dX12_flip_19 dX12_flip_21 dX12_flip_24 rfl rfl rfl rfl rfl
set_option maxRecDepth 16000 in
theorem w_X12_despeckle (S : xS) (x0 : Nat) (x1 : Int32) (x2 : Int32) (h : xH) : xle (if xOb h x0 11 = true then xqR (xM S mX12_pageAt [.ref x0, .int x1] h) xth fun v3 h2 => if x2 < 0 then (some (.inr "java/lang/IllegalArgumentException", h2, 1, 6)) else (if x2 ≤ (64 : Int32) then ((xGr h2 x0 11 3).bind fun v4 => if xOb h2 v4 3 = true then xqR (xM S mX3_keep [.ref v4, .int x1, .ref v3] h2) xth fun v7 h6 => (xGr h6 x0 11 4).bind fun v8 => if xOb h6 v8 0 = true then xqI (xM S mX0_strip [.ref v8, .ref v3, .int x2] h6) xth fun v11 h10 => some (.inl (some (.int v11)), h10, 0, 0) else none else none) else (some (.inr "java/lang/IllegalArgumentException", h2, 1, 6))) else none) (xM S mX12_despeckle [.ref x0, .int x1, .int x2] h) := by
  show xle _ (xden S mX12_despeckle 0 [(0, .ref x0), (1, .int x1), (2, .int x2)] [] h)
  refine l_loc dX12_despeckle_0 rfl rfl ?_
  refine l_loc dX12_despeckle_1 rfl rfl ?_
  refine l_ob fun q1 => ?_
  refine l_cR dX12_despeckle_2 rfl rfl rfl (l_xv cl_11_92 ko_mX12_pageAt rfl rfl rfl q1) rfl rfl nm_mX12_pageAt (xhE_th rfl) (fun v3 h2 => ?_)
  refine l_loc (al1 := [(3, .ref v3), (0, .ref x0), (1, .int x1), (2, .int x2)]) dX12_despeckle_5 rfl rfl ?_
  refine l_loc dX12_despeckle_6 rfl rfl ?_
  refine l_ilt (t := 16) dX12_despeckle_7 rfl ?_ ?_
  · exact l_thr dX12_despeckle_16 dX12_despeckle_19 dX12_despeckle_20 dX12_despeckle_22 dX12_despeckle_25 rfl rfl rfl rfl rfl
  · refine l_loc dX12_despeckle_10 rfl rfl ?_
    refine l_bi dX12_despeckle_11 kB_64 ?_
    refine l_cle (t := 26) dX12_despeckle_13 rfl ?_ ?_
    · refine l_loc dX12_despeckle_26 rfl rfl ?_
      refine l_gr dX12_despeckle_27 fl_11_37 (fun v4 => ?_)
      refine l_loc dX12_despeckle_30 rfl rfl ?_
      refine l_loc dX12_despeckle_31 rfl rfl ?_
      refine l_ob fun q5 => ?_
      refine l_cR dX12_despeckle_32 rfl rfl rfl (l_xv cl_11_104 ko_mX3_keep rfl rfl rfl q5) rfl rfl nm_mX3_keep (xhE_th rfl) (fun v7 h6 => ?_)
      refine l_pure dX12_despeckle_35 rfl rfl ?_
      refine l_loc dX12_despeckle_36 rfl rfl ?_
      refine l_gr dX12_despeckle_37 fl_11_44 (fun v8 => ?_)
      refine l_loc dX12_despeckle_40 rfl rfl ?_
      refine l_loc dX12_despeckle_41 rfl rfl ?_
      refine l_ob fun q9 => ?_
      refine l_cI dX12_despeckle_42 rfl rfl rfl (l_xv cl_11_144 ko_mX0_strip rfl rfl rfl q9) rfl rfl nm_mX0_strip (xhE_th rfl) (fun v11 h10 => ?_)
      exact l_iretn dX12_despeckle_45 rfl (by rfl)
    · exact l_thr dX12_despeckle_16 dX12_despeckle_19 dX12_despeckle_20 dX12_despeckle_22 dX12_despeckle_25 rfl rfl rfl rfl rfl
set_option maxRecDepth 16000 in
theorem w_X12_paste (S : xS) (x0 : Nat) (x1 : Int32) (x2 : Int32) (x3 : Int32) (h : xH) : xle (if xOb h x0 11 = true then xqR (xM S mX12_pageAt [.ref x0, .int x1] h) xth fun v3 h2 => (xGr h2 x0 11 5).bind fun v4 => if xOb h2 v4 10 = true then xqI (xM S mX11_patternError [.ref v4] h2) xth fun v7 h6 => if v7 < 0 then ((xGr h6 x0 11 3).bind fun v8 => if xOb h6 v8 3 = true then xqR (xM S mX3_keep [.ref v8, .int x1, .ref v3] h6) xth fun v11 h10 => (xGr h10 x0 11 5).bind fun v12 => if xOb h10 v12 10 = true then xqV (xM S mX11_drawPattern [.ref v12, .ref v3, .int x2, .int x3] h10) xth fun h14 => (xGr h14 x0 11 5).bind fun v16 => if xOb h14 v16 10 = true then xqI (xM S mX11_clear [.ref v16] h14) xth fun v19 h18 => if xOb h18 v3 4 = true then xqI (xM S mX4_differences [.ref v3, .ref v11] h18) xth fun v22 h21 => some (.inl (some (.int v22)), h21, 0, 0) else none else none else none else none) else (some (.inl (some (.int ((-1 : Int32) - v7))), h6, 0, 0)) else none else none) (xM S mX12_paste [.ref x0, .int x1, .int x2, .int x3] h) := by
  show xle _ (xden S mX12_paste 0 [(0, .ref x0), (1, .int x1), (2, .int x2), (3, .int x3)] [] h)
  refine l_loc dX12_paste_0 rfl rfl ?_
  refine l_loc dX12_paste_1 rfl rfl ?_
  refine l_ob fun q1 => ?_
  refine l_cR dX12_paste_2 rfl rfl rfl (l_xv cl_11_92 ko_mX12_pageAt rfl rfl rfl q1) rfl rfl nm_mX12_pageAt (xhE_th rfl) (fun v3 h2 => ?_)
  refine l_loc (al1 := [(4, .ref v3), (0, .ref x0), (1, .int x1), (2, .int x2), (3, .int x3)]) dX12_paste_5 rfl rfl ?_
  refine l_loc dX12_paste_7 rfl rfl ?_
  refine l_gr dX12_paste_8 fl_11_51 (fun v4 => ?_)
  refine l_ob fun q5 => ?_
  refine l_cI dX12_paste_11 rfl rfl rfl (l_xv cl_11_148 ko_mX11_patternError rfl rfl rfl q5) rfl rfl nm_mX11_patternError (xhE_th rfl) (fun v7 h6 => ?_)
  refine l_loc (al1 := [(5, .int v7), (4, .ref v3), (0, .ref x0), (1, .int x1), (2, .int x2), (3, .int x3)]) dX12_paste_14 rfl rfl ?_
  refine l_loc dX12_paste_16 rfl rfl ?_
  refine l_ilt (t := 26) dX12_paste_18 rfl ?_ ?_
  · refine l_loc dX12_paste_26 rfl rfl ?_
    refine l_gr dX12_paste_27 fl_11_37 (fun v8 => ?_)
    refine l_loc dX12_paste_30 rfl rfl ?_
    refine l_loc dX12_paste_31 rfl rfl ?_
    refine l_ob fun q9 => ?_
    refine l_cR dX12_paste_33 rfl rfl rfl (l_xv cl_11_104 ko_mX3_keep rfl rfl rfl q9) rfl rfl nm_mX3_keep (xhE_th rfl) (fun v11 h10 => ?_)
    refine l_loc (al1 := [(6, .ref v11), (5, .int v7), (4, .ref v3), (0, .ref x0), (1, .int x1), (2, .int x2), (3, .int x3)]) dX12_paste_36 rfl rfl ?_
    refine l_loc dX12_paste_38 rfl rfl ?_
    refine l_gr dX12_paste_39 fl_11_51 (fun v12 => ?_)
    refine l_loc dX12_paste_42 rfl rfl ?_
    refine l_loc dX12_paste_44 rfl rfl ?_
    refine l_loc dX12_paste_45 rfl rfl ?_
    refine l_ob fun q13 => ?_
    refine l_cV dX12_paste_46 rfl rfl rfl (l_xv cl_11_152 ko_mX11_drawPattern rfl rfl rfl q13) rfl rfl nm_mX11_drawPattern (xhE_th rfl) (fun h14 => ?_)
    refine l_loc dX12_paste_49 rfl rfl ?_
    refine l_gr dX12_paste_50 fl_11_51 (fun v16 => ?_)
    refine l_ob fun q17 => ?_
    refine l_cI dX12_paste_53 rfl rfl rfl (l_xv cl_11_155 ko_mX11_clear rfl rfl rfl q17) rfl rfl nm_mX11_clear (xhE_th rfl) (fun v19 h18 => ?_)
    refine l_pure dX12_paste_56 rfl rfl ?_
    refine l_loc dX12_paste_57 rfl rfl ?_
    refine l_loc dX12_paste_59 rfl rfl ?_
    refine l_ob fun q20 => ?_
    refine l_cI dX12_paste_61 rfl rfl rfl (l_xv cl_11_112 ko_mX4_differences rfl rfl rfl q20) rfl rfl nm_mX4_differences (xhE_th rfl) (fun v22 h21 => ?_)
    exact l_iretn dX12_paste_64 rfl (by rfl)
  · refine l_ic dX12_paste_21 kI_m1 ?_
    refine l_loc dX12_paste_22 rfl rfl ?_
    refine l_pure dX12_paste_24 rfl rfl ?_
    exact l_iretn dX12_paste_25 rfl (by rfl)
set_option maxRecDepth 16000 in
theorem w_X12_components (S : xS) (x0 : Nat) (x1 : Int32) (h : xH) : xle ((xGr h x0 11 4).bind fun v1 => if xOb h x0 11 = true then xqR (xM S mX12_pageAt [.ref x0, .int x1] h) xth fun v4 h3 => if xOb h3 v1 0 = true then xqI (xM S mX0_countIn [.ref v1, .ref v4] h3) xth fun v7 h6 => some (.inl (some (.int v7)), h6, 0, 0) else none else none) (xM S mX12_components [.ref x0, .int x1] h) := by
  show xle _ (xden S mX12_components 0 [(0, .ref x0), (1, .int x1)] [] h)
  refine l_loc dX12_components_0 rfl rfl ?_
  refine l_gr dX12_components_1 fl_11_44 (fun v1 => ?_)
  refine l_loc dX12_components_4 rfl rfl ?_
  refine l_loc dX12_components_5 rfl rfl ?_
  refine l_ob fun q2 => ?_
  refine l_cR dX12_components_6 rfl rfl rfl (l_xv cl_11_92 ko_mX12_pageAt rfl rfl rfl q2) rfl rfl nm_mX12_pageAt (xhE_th rfl) (fun v4 h3 => ?_)
  refine l_ob fun q5 => ?_
  refine l_cI dX12_components_9 rfl rfl rfl (l_xv cl_11_158 ko_mX0_countIn rfl rfl rfl q5) rfl rfl nm_mX0_countIn (xhE_th rfl) (fun v7 h6 => ?_)
  exact l_iretn dX12_components_12 rfl (by rfl)
set_option maxRecDepth 16000 in
theorem w_X12_lines (S : xS) (x0 : Nat) (x1 : Int32) (h : xH) : xle (if xOb h x0 11 = true then xqR (xM S mX12_pageAt [.ref x0, .int x1] h) xth fun v3 h2 => if xOb h2 v3 4 = true then xqI (xM S mX4_lineCount [.ref v3] h2) xth fun v6 h5 => some (.inl (some (.int v6)), h5, 0, 0) else none else none) (xM S mX12_lines [.ref x0, .int x1] h) := by
  show xle _ (xden S mX12_lines 0 [(0, .ref x0), (1, .int x1)] [] h)
  refine l_loc dX12_lines_0 rfl rfl ?_
  refine l_loc dX12_lines_1 rfl rfl ?_
  refine l_ob fun q1 => ?_
  refine l_cR dX12_lines_2 rfl rfl rfl (l_xv cl_11_92 ko_mX12_pageAt rfl rfl rfl q1) rfl rfl nm_mX12_pageAt (xhE_th rfl) (fun v3 h2 => ?_)
  refine l_ob fun q4 => ?_
  refine l_cI dX12_lines_5 rfl rfl rfl (l_xv cl_11_161 ko_mX4_lineCount rfl rfl rfl q4) rfl rfl nm_mX4_lineCount (xhE_th rfl) (fun v6 h5 => ?_)
  exact l_iretn dX12_lines_8 rfl (by rfl)
set_option maxRecDepth 16000 in
theorem w_X12_lineTop (S : xS) (x0 : Nat) (x1 : Int32) (x2 : Int32) (h : xH) : xle (if xOb h x0 11 = true then xqR (xM S mX12_pageAt [.ref x0, .int x1] h) xth fun v3 h2 => xqI (xM S mX12_topOfLine [.ref v3, .int x2] h2) xth fun v5 h4 => some (.inl (some (.int v5)), h4, 0, 0) else none) (xM S mX12_lineTop [.ref x0, .int x1, .int x2] h) := by
  show xle _ (xden S mX12_lineTop 0 [(0, .ref x0), (1, .int x1), (2, .int x2)] [] h)
  refine l_loc dX12_lineTop_0 rfl rfl ?_
  refine l_loc dX12_lineTop_1 rfl rfl ?_
  refine l_ob fun q1 => ?_
  refine l_cR dX12_lineTop_2 rfl rfl rfl (l_xv cl_11_92 ko_mX12_pageAt rfl rfl rfl q1) rfl rfl nm_mX12_pageAt (xhE_th rfl) (fun v3 h2 => ?_)
  refine l_loc dX12_lineTop_5 rfl rfl ?_
  refine l_cI dX12_lineTop_6 rfl rfl rfl (l_xs cl_11_164 ko_mX12_topOfLine rfl rfl) rfl rfl nm_mX12_topOfLine (xhE_th rfl) (fun v5 h4 => ?_)
  exact l_iretn dX12_lineTop_9 rfl (by rfl)
set_option maxRecDepth 16000 in
theorem w_X12_topOfLine (S : xS) (x0 : Nat) (x1 : Int32) (h : xH) : xle (if xOb h x0 4 = true then xqI (xM S mX4_lineStart [.ref x0, .int x1] h) xth fun v3 h2 => if 0 ≤ v3 then (some (.inl (some (.int v3)), h2, 0, 0)) else (some (.inr "java/lang/IndexOutOfBoundsException", h2, 1, 6)) else none) (xM S mX12_topOfLine [.ref x0, .int x1] h) := by
  show xle _ (xden S mX12_topOfLine 0 [(0, .ref x0), (1, .int x1)] [] h)
  refine l_loc dX12_topOfLine_0 rfl rfl ?_
  refine l_loc dX12_topOfLine_1 rfl rfl ?_
  refine l_ob fun q1 => ?_
  refine l_cI dX12_topOfLine_2 rfl rfl rfl (l_xv cl_11_410 ko_mX4_lineStart rfl rfl rfl q1) rfl rfl nm_mX4_lineStart (xhE_th rfl) (fun v3 h2 => ?_)
  refine l_loc (al1 := [(2, .int v3), (0, .ref x0), (1, .int x1)]) dX12_topOfLine_5 rfl rfl ?_
  refine l_loc dX12_topOfLine_6 rfl rfl ?_
  refine l_ige (t := 21) dX12_topOfLine_7 rfl ?_ ?_
  · refine l_loc dX12_topOfLine_21 rfl rfl ?_
    exact l_iretn dX12_topOfLine_22 rfl (by rfl)
  · exact l_thw dX12_topOfLine_10 dX12_topOfLine_13 dX12_topOfLine_14 dX12_topOfLine_17 dX12_topOfLine_20 rfl rfl rfl rfl rfl
set_option maxRecDepth 16000 in
theorem w_X12_lineBottom (S : xS) (x0 : Nat) (x1 : Int32) (x2 : Int32) (h : xH) : xle (if xOb h x0 11 = true then xqR (xM S mX12_pageAt [.ref x0, .int x1] h) xth fun v3 h2 => xqI (xM S mX12_topOfLine [.ref v3, .int x2] h2) xth fun v5 h4 => if xOb h4 v3 4 = true then xqI (xM S mX4_lineEnd [.ref v3, .int v5] h4) xth fun v8 h7 => some (.inl (some (.int v8)), h7, 0, 0) else none else none) (xM S mX12_lineBottom [.ref x0, .int x1, .int x2] h) := by
  show xle _ (xden S mX12_lineBottom 0 [(0, .ref x0), (1, .int x1), (2, .int x2)] [] h)
  refine l_loc dX12_lineBottom_0 rfl rfl ?_
  refine l_loc dX12_lineBottom_1 rfl rfl ?_
  refine l_ob fun q1 => ?_
  refine l_cR dX12_lineBottom_2 rfl rfl rfl (l_xv cl_11_92 ko_mX12_pageAt rfl rfl rfl q1) rfl rfl nm_mX12_pageAt (xhE_th rfl) (fun v3 h2 => ?_)
  refine l_loc (al1 := [(3, .ref v3), (0, .ref x0), (1, .int x1), (2, .int x2)]) dX12_lineBottom_5 rfl rfl ?_
  refine l_loc dX12_lineBottom_6 rfl rfl ?_
  refine l_loc dX12_lineBottom_7 rfl rfl ?_
  refine l_loc dX12_lineBottom_8 rfl rfl ?_
  refine l_cI dX12_lineBottom_9 rfl rfl rfl (l_xs cl_11_164 ko_mX12_topOfLine rfl rfl) rfl rfl nm_mX12_topOfLine (xhE_th rfl) (fun v5 h4 => ?_)
  refine l_ob fun q6 => ?_
  refine l_cI dX12_lineBottom_12 rfl rfl rfl (l_xv cl_11_167 ko_mX4_lineEnd rfl rfl rfl q6) rfl rfl nm_mX4_lineEnd (xhE_th rfl) (fun v8 h7 => ?_)
  exact l_iretn dX12_lineBottom_15 rfl (by rfl)
set_option maxRecDepth 16000 in
theorem w_X12_words (S : xS) (x0 : Nat) (x1 : Int32) (x2 : Int32) (x3 : Int32) (h : xH) : xle (if xOb h x0 11 = true then xqR (xM S mX12_pageAt [.ref x0, .int x1] h) xth fun v3 h2 => xqI (xM S mX12_topOfLine [.ref v3, .int x2] h2) xth fun v5 h4 => if x3 < (1 : Int32) then (some (.inr "java/lang/IllegalArgumentException", h4, 1, 6)) else (if x3 ≤ (64 : Int32) then (if xOb h4 v3 4 = true then xqI (xM S mX4_wordCount [.ref v3, .int v5, .int x3] h4) xth fun v8 h7 => some (.inl (some (.int v8)), h7, 0, 0) else none) else (some (.inr "java/lang/IllegalArgumentException", h4, 1, 6))) else none) (xM S mX12_words [.ref x0, .int x1, .int x2, .int x3] h) := by
  show xle _ (xden S mX12_words 0 [(0, .ref x0), (1, .int x1), (2, .int x2), (3, .int x3)] [] h)
  refine l_loc dX12_words_0 rfl rfl ?_
  refine l_loc dX12_words_1 rfl rfl ?_
  refine l_ob fun q1 => ?_
  refine l_cR dX12_words_2 rfl rfl rfl (l_xv cl_11_92 ko_mX12_pageAt rfl rfl rfl q1) rfl rfl nm_mX12_pageAt (xhE_th rfl) (fun v3 h2 => ?_)
  refine l_loc (al1 := [(4, .ref v3), (0, .ref x0), (1, .int x1), (2, .int x2), (3, .int x3)]) dX12_words_5 rfl rfl ?_
  refine l_loc dX12_words_7 rfl rfl ?_
  refine l_loc dX12_words_9 rfl rfl ?_
  refine l_cI dX12_words_10 rfl rfl rfl (l_xs cl_11_164 ko_mX12_topOfLine rfl rfl) rfl rfl nm_mX12_topOfLine (xhE_th rfl) (fun v5 h4 => ?_)
  refine l_loc (al1 := [(5, .int v5), (4, .ref v3), (0, .ref x0), (1, .int x1), (2, .int x2), (3, .int x3)]) dX12_words_13 rfl rfl ?_
  refine l_loc dX12_words_15 rfl rfl ?_
  refine l_ic dX12_words_16 kI_1 ?_
  refine l_clt (t := 26) dX12_words_17 rfl ?_ ?_
  · exact l_thr dX12_words_26 dX12_words_29 dX12_words_30 dX12_words_32 dX12_words_35 rfl rfl rfl rfl rfl
  · refine l_loc dX12_words_20 rfl rfl ?_
    refine l_bi dX12_words_21 kB_64 ?_
    refine l_cle (t := 36) dX12_words_23 rfl ?_ ?_
    · refine l_loc dX12_words_36 rfl rfl ?_
      refine l_loc dX12_words_38 rfl rfl ?_
      refine l_loc dX12_words_40 rfl rfl ?_
      refine l_ob fun q6 => ?_
      refine l_cI dX12_words_41 rfl rfl rfl (l_xv cl_11_173 ko_mX4_wordCount rfl rfl rfl q6) rfl rfl nm_mX4_wordCount (xhE_th rfl) (fun v8 h7 => ?_)
      exact l_iretn dX12_words_44 rfl (by rfl)
    · exact l_thr dX12_words_26 dX12_words_29 dX12_words_30 dX12_words_32 dX12_words_35 rfl rfl rfl rfl rfl
set_option maxRecDepth 16000 in
theorem w_X12_ink (S : xS) (x0 : Nat) (x1 : Int32) (x2 : Int32) (x3 : Int32) (x4 : Int32) (x5 : Int32) (h : xH) : xle (if xOb h x0 11 = true then xqR (xM S mX12_pageAt [.ref x0, .int x1] h) xth fun v3 h2 => xqV (xM S mX12_requireSize [.int x4, .int x5] h2) xth fun h4 => if xOb h4 v3 4 = true then xqI (xM S mX4_inkWithin [.ref v3, .long (x2.toInt64), .long (x3.toInt64), .int x4, .int x5] h4) xth fun v8 h7 => some (.inl (some (.int v8)), h7, 0, 0) else none else none) (xM S mX12_ink [.ref x0, .int x1, .int x2, .int x3, .int x4, .int x5] h) := by
  show xle _ (xden S mX12_ink 0 [(0, .ref x0), (1, .int x1), (2, .int x2), (3, .int x3), (4, .int x4), (5, .int x5)] [] h)
  refine l_loc dX12_ink_0 rfl rfl ?_
  refine l_loc dX12_ink_1 rfl rfl ?_
  refine l_ob fun q1 => ?_
  refine l_cR dX12_ink_2 rfl rfl rfl (l_xv cl_11_92 ko_mX12_pageAt rfl rfl rfl q1) rfl rfl nm_mX12_pageAt (xhE_th rfl) (fun v3 h2 => ?_)
  refine l_loc (al1 := [(6, .ref v3), (0, .ref x0), (1, .int x1), (2, .int x2), (3, .int x3), (4, .int x4), (5, .int x5)]) dX12_ink_5 rfl rfl ?_
  refine l_loc dX12_ink_7 rfl rfl ?_
  refine l_loc dX12_ink_9 rfl rfl ?_
  refine l_cV dX12_ink_11 rfl rfl rfl (l_xs cl_11_116 ko_mX12_requireSize rfl rfl) rfl rfl nm_mX12_requireSize (xhE_th rfl) (fun h4 => ?_)
  refine l_loc dX12_ink_14 rfl rfl ?_
  refine l_loc dX12_ink_16 rfl rfl ?_
  refine l_pure dX12_ink_17 rfl rfl ?_
  refine l_loc dX12_ink_18 rfl rfl ?_
  refine l_pure dX12_ink_19 rfl rfl ?_
  refine l_loc dX12_ink_20 rfl rfl ?_
  refine l_loc dX12_ink_22 rfl rfl ?_
  refine l_ob fun q6 => ?_
  refine l_cI dX12_ink_24 rfl rfl rfl (l_xv cl_11_176 ko_mX4_inkWithin rfl rfl rfl q6) rfl rfl nm_mX4_inkWithin (xhE_th rfl) (fun v8 h7 => ?_)
  exact l_iretn dX12_ink_27 rfl (by rfl)
set_option maxRecDepth 16000 in
theorem w_X12_fingerprint (S : xS) (x0 : Nat) (x1 : Int32) (h : xH) : xle (if xOb h x0 11 = true then xqR (xM S mX12_pageAt [.ref x0, .int x1] h) xth fun v3 h2 => (xGi h2 x0 11 0).bind fun v4 => xlet (((31 : Int64) * (17 : Int64)) + (v4.toInt64)) fun v5 => (xGi h2 x0 11 1).bind fun v6 => xlet (((31 : Int64) * v5) + (v6.toInt64)) fun v7 => (xden S mX12_fingerprint 37 [(0, .ref x0), (2, .ref v3), (3, .long v7), (5, .int (0 : Int32))] [] h2) else none) (xM S mX12_fingerprint [.ref x0, .int x1] h) := by
  show xle _ (xden S mX12_fingerprint 0 [(0, .ref x0), (1, .int x1)] [] h)
  refine l_loc dX12_fingerprint_0 rfl rfl ?_
  refine l_loc dX12_fingerprint_1 rfl rfl ?_
  refine l_ob fun q1 => ?_
  refine l_cR dX12_fingerprint_2 rfl rfl rfl (l_xv cl_11_92 ko_mX12_pageAt rfl rfl rfl q1) rfl rfl nm_mX12_pageAt (xhE_th rfl) (fun v3 h2 => ?_)
  refine l_loc (al1 := [(2, .ref v3), (0, .ref x0), (1, .int x1)]) dX12_fingerprint_5 rfl rfl ?_
  refine l_rd (st1 := [.long (17 : Int64)]) dX12_fingerprint_6 rfl rfl ?_
  refine l_loc (al1 := [(3, .long (17 : Int64)), (2, .ref v3), (0, .ref x0), (1, .int x1)]) dX12_fingerprint_9 rfl rfl ?_
  refine l_rd (st1 := [.long (31 : Int64)]) dX12_fingerprint_10 rfl rfl ?_
  refine l_loc dX12_fingerprint_13 rfl rfl ?_
  refine l_pure dX12_fingerprint_14 rfl rfl ?_
  refine l_loc dX12_fingerprint_15 rfl rfl ?_
  refine l_gi dX12_fingerprint_16 fl_11_18 (fun v4 => ?_)
  refine l_pure dX12_fingerprint_19 rfl rfl ?_
  refine l_pure dX12_fingerprint_20 rfl rfl ?_
  refine l_lsl (al1 := fun v5 => [(3, .long v5), (2, .ref v3), (0, .ref x0), (1, .int x1)]) dX12_fingerprint_21 rfl (fun _ => rfl) (fun v5 => ?_)
  refine l_rd (st1 := [.long (31 : Int64)]) dX12_fingerprint_22 rfl rfl ?_
  refine l_loc dX12_fingerprint_25 rfl rfl ?_
  refine l_pure dX12_fingerprint_26 rfl rfl ?_
  refine l_loc dX12_fingerprint_27 rfl rfl ?_
  refine l_gi dX12_fingerprint_28 fl_11_22 (fun v6 => ?_)
  refine l_pure dX12_fingerprint_31 rfl rfl ?_
  refine l_pure dX12_fingerprint_32 rfl rfl ?_
  refine l_lsl (al1 := fun v7 => [(3, .long v7), (2, .ref v3), (0, .ref x0), (1, .int x1)]) dX12_fingerprint_33 rfl (fun _ => rfl) (fun v7 => ?_)
  refine l_ic dX12_fingerprint_34 kI_0 ?_
  refine l_loc (al1 := [(5, .int (0 : Int32)), (3, .long v7), (2, .ref v3), (0, .ref x0), (1, .int x1)]) dX12_fingerprint_35 rfl rfl ?_
  exact l_al rfl ⟨rfl, rfl, rfl, rfl, trivial⟩
set_option maxRecDepth 16000 in
theorem w_X12_fingerprint_37 (S : xS) (x0 : Nat) (x2 : Nat) (x3 : Int64) (x5 : Int32) (h : xH) : xle ((xGi h x0 11 1).bind fun v1 => if v1 ≤ x5 then (some (.inl (some (.long x3)), h, 0, 0)) else (if xOb h x2 4 = true then xqJ (xM S mX4_rowAt [.ref x2, .int x5] h) xth fun v4 h3 => xlet (((31 : Int64) * x3) + v4) fun v5 => xlet (x5 + (1 : Int32)) fun v6 => (xden S mX12_fingerprint 37 [(0, .ref x0), (2, .ref x2), (3, .long v5), (5, .int v6)] [] h3) else none)) (xden S mX12_fingerprint 37 [(0, .ref x0), (2, .ref x2), (3, .long x3), (5, .int x5)] [] h) := by
  refine l_loc dX12_fingerprint_37 rfl rfl ?_
  refine l_loc dX12_fingerprint_39 rfl rfl ?_
  refine l_gi dX12_fingerprint_40 fl_11_22 (fun v1 => ?_)
  refine l_cge (t := 65) dX12_fingerprint_43 rfl ?_ ?_
  · refine l_loc dX12_fingerprint_65 rfl rfl ?_
    exact l_end dX12_fingerprint_66 rfl rfl
  · refine l_rd (st1 := [.long (31 : Int64)]) dX12_fingerprint_46 rfl rfl ?_
    refine l_loc dX12_fingerprint_49 rfl rfl ?_
    refine l_pure dX12_fingerprint_50 rfl rfl ?_
    refine l_loc dX12_fingerprint_51 rfl rfl ?_
    refine l_loc dX12_fingerprint_52 rfl rfl ?_
    refine l_ob fun q2 => ?_
    refine l_cJ dX12_fingerprint_54 rfl rfl rfl (l_xv cl_11_100 ko_mX4_rowAt rfl rfl rfl q2) rfl rfl nm_mX4_rowAt (xhE_th rfl) (fun v4 h3 => ?_)
    refine l_pure dX12_fingerprint_57 rfl rfl ?_
    refine l_lsl (al1 := fun v5 => [(3, .long v5), (0, .ref x0), (2, .ref x2), (5, .int x5)]) dX12_fingerprint_58 rfl (fun _ => rfl) (fun v5 => ?_)
    refine l_incl (al1 := fun v6 => [(5, .int v6), (3, .long v5), (0, .ref x0), (2, .ref x2)]) dX12_fingerprint_59 rfl kI_1 rfl (fun _ => rfl) (fun v6 => ?_)
    refine l_goto (t := 37) dX12_fingerprint_62 rfl ?_
    exact l_al rfl ⟨rfl, rfl, rfl, rfl, trivial⟩
set_option maxRecDepth 16000 in
theorem w_X12_undo (S : xS) (x0 : Nat) (h : xH) : xle ((xGr h x0 11 3).bind fun v1 => if xOb h v1 3 = true then xqI (xM S mX3_isBare [.ref v1] h) xth fun v4 h3 => if v4 = 0 then ((xGr h3 x0 11 3).bind fun v5 => (xGr h3 x0 11 2).bind fun v6 => if xOb h3 v5 3 = true then xqI (xM S mX3_restoreTo [.ref v5, .ref v6] h3) xth fun v9 h8 => some (.inl (some (.int v9)), h8, 0, 0) else none) else (some (.inr "java/lang/IllegalStateException", h3, 1, 6)) else none) (xM S mX12_undo [.ref x0] h) := by
  show xle _ (xden S mX12_undo 0 [(0, .ref x0)] [] h)
  refine l_loc dX12_undo_0 rfl rfl ?_
  refine l_gr dX12_undo_1 fl_11_37 (fun v1 => ?_)
  refine l_ob fun q2 => ?_
  refine l_cI dX12_undo_4 rfl rfl rfl (l_xv cl_11_184 ko_mX3_isBare rfl rfl rfl q2) rfl rfl nm_mX3_isBare (xhE_th rfl) (fun v4 h3 => ?_)
  refine l_ieq (t := 20) dX12_undo_7 rfl ?_ ?_
  · refine l_loc dX12_undo_20 rfl rfl ?_
    refine l_gr dX12_undo_21 fl_11_37 (fun v5 => ?_)
    refine l_loc dX12_undo_24 rfl rfl ?_
    refine l_gr dX12_undo_25 fl_11_27 (fun v6 => ?_)
    refine l_ob fun q7 => ?_
    refine l_cI dX12_undo_28 rfl rfl rfl (l_xv cl_11_193 ko_mX3_restoreTo rfl rfl rfl q7) rfl rfl nm_mX3_restoreTo (xhE_th rfl) (fun v9 h8 => ?_)
    exact l_iretn dX12_undo_31 rfl (by rfl)
  · exact l_thr dX12_undo_10 dX12_undo_13 dX12_undo_14 dX12_undo_16 dX12_undo_19 rfl rfl rfl rfl rfl
set_option maxRecDepth 16000 in
theorem w_X12_type (S : xS) (x0 : Nat) (x1 : Int32) (h : xH) : xle (if x1 < (32 : Int32) then (some (.inr "java/lang/IllegalArgumentException", h, 1, 6)) else (if x1 ≤ (126 : Int32) then ((xGr h x0 11 5).bind fun v1 => if xOb h v1 10 = true then xqI (xM S mX11_isFull [.ref v1] h) xth fun v4 h3 => if v4 = 0 then ((xGr h3 x0 11 5).bind fun v5 => if xOb h3 v5 10 = true then xqI (xM S mX11_add [.ref v5, .int x1] h3) xth fun v8 h7 => some (.inl (some (.int v8)), h7, 0, 0) else none) else (some (.inr "java/lang/IllegalStateException", h3, 1, 6)) else none) else (some (.inr "java/lang/IllegalArgumentException", h, 1, 6)))) (xM S mX12_type [.ref x0, .int x1] h) := by
  show xle _ (xden S mX12_type 0 [(0, .ref x0), (1, .int x1)] [] h)
  refine l_loc dX12_type_0 rfl rfl ?_
  refine l_bi dX12_type_1 kB_32 ?_
  refine l_clt (t := 12) dX12_type_3 rfl ?_ ?_
  · exact l_thr dX12_type_12 dX12_type_15 dX12_type_16 dX12_type_18 dX12_type_21 rfl rfl rfl rfl rfl
  · refine l_loc dX12_type_6 rfl rfl ?_
    refine l_bi dX12_type_7 kB_126 ?_
    refine l_cle (t := 22) dX12_type_9 rfl ?_ ?_
    · refine l_loc dX12_type_22 rfl rfl ?_
      refine l_gr dX12_type_23 fl_11_51 (fun v1 => ?_)
      refine l_ob fun q2 => ?_
      refine l_cI dX12_type_26 rfl rfl rfl (l_xv cl_11_199 ko_mX11_isFull rfl rfl rfl q2) rfl rfl nm_mX11_isFull (xhE_th rfl) (fun v4 h3 => ?_)
      refine l_ieq (t := 42) dX12_type_29 rfl ?_ ?_
      · refine l_loc dX12_type_42 rfl rfl ?_
        refine l_gr dX12_type_43 fl_11_51 (fun v5 => ?_)
        refine l_loc dX12_type_46 rfl rfl ?_
        refine l_ob fun q6 => ?_
        refine l_cI dX12_type_47 rfl rfl rfl (l_xv cl_11_204 ko_mX11_add rfl rfl rfl q6) rfl rfl nm_mX11_add (xhE_th rfl) (fun v8 h7 => ?_)
        exact l_iretn dX12_type_50 rfl (by rfl)
      · exact l_thr dX12_type_32 dX12_type_35 dX12_type_36 dX12_type_38 dX12_type_41 rfl rfl rfl rfl rfl
    · exact l_thr dX12_type_12 dX12_type_15 dX12_type_16 dX12_type_18 dX12_type_21 rfl rfl rfl rfl rfl
set_option maxRecDepth 16000 in
theorem w_X12_setting (S : xS) (x0 : Nat) (x1 : Int32) (h : xH) : xle (if x1 < 0 then (some (.inr "java/lang/IndexOutOfBoundsException", h, 1, 6)) else (if x1 < (10 : Int32) then ((xGr h x0 11 6).bind fun v2 => if xin x1 10 = true then if xOb h v2 2 = true then xqI (xM S mX2_valueOf [.ref v2, .retAddr (x1.toNatClampNeg)] h) xth fun v6 h5 => some (.inl (some (.int v6)), h5, 0, 0) else none else none) else (some (.inr "java/lang/IndexOutOfBoundsException", h, 1, 6)))) (xM S mX12_setting [.ref x0, .int x1] h) := by
  show xle _ (xden S mX12_setting 0 [(0, .ref x0), (1, .int x1)] [] h)
  refine l_loc dX12_setting_0 rfl rfl ?_
  refine l_ilt (t := 12) dX12_setting_1 rfl ?_ ?_
  · exact l_thr dX12_setting_12 dX12_setting_15 dX12_setting_16 dX12_setting_18 dX12_setting_21 rfl rfl rfl rfl rfl
  · refine l_loc dX12_setting_4 rfl rfl ?_
    refine l_rd (st1 := [.retAddr 10, .int x1]) dX12_setting_5 rfl rfl ?_
    refine l_rd (st1 := [.int (10 : Int32), .int x1]) dX12_setting_8 rfl rfl ?_
    refine l_clt (t := 22) dX12_setting_9 rfl ?_ ?_
    · refine l_loc dX12_setting_22 rfl rfl ?_
      refine l_gr dX12_setting_23 fl_11_58 (fun v2 => ?_)
      refine l_rd (st1 := [.retAddr 10, .ref v2]) dX12_setting_26 rfl rfl ?_
      refine l_loc dX12_setting_29 rfl rfl ?_
      refine l_rt dX12_setting_30 ?_
      refine l_ob fun q4 => ?_
      refine l_cI dX12_setting_31 rfl rfl rfl (l_xv cl_11_223 ko_mX2_valueOf rfl rfl rfl q4) rfl rfl nm_mX2_valueOf (xhE_th rfl) (fun v6 h5 => ?_)
      exact l_iretn dX12_setting_34 rfl (by rfl)
    · exact l_thr dX12_setting_12 dX12_setting_15 dX12_setting_16 dX12_setting_18 dX12_setting_21 rfl rfl rfl rfl rfl
set_option maxRecDepth 16000 in
theorem w_X12_configChar (S : xS) (x0 : Nat) (x1 : Int32) (h : xH) : xle (if 0 ≤ x1 then ((xGr h x0 11 13).bind fun v1 => if xOb h v1 6 = true then xqV (xM S mX6_seek [.ref v1, .int x1] h) xth fun h3 => (xGr h3 x0 11 6).bind fun v5 => (xGr h3 x0 11 13).bind fun v6 => if xOb h3 v5 2 = true then xqV (xM S mX2_describe [.ref v5, .ref v6] h3) xth fun h8 => (xGr h8 x0 11 13).bind fun v10 => if xOb h8 v10 6 = true then xqI (xM S mX6_found [.ref v10] h8) xth fun v13 h12 => some (.inl (some (.int v13)), h12, 0, 0) else none else none else none) else (some (.inr "java/lang/IndexOutOfBoundsException", h, 1, 6))) (xM S mX12_configChar [.ref x0, .int x1] h) := by
  show xle _ (xden S mX12_configChar 0 [(0, .ref x0), (1, .int x1)] [] h)
  refine l_loc dX12_configChar_0 rfl rfl ?_
  refine l_ige (t := 14) dX12_configChar_1 rfl ?_ ?_
  · refine l_loc dX12_configChar_14 rfl rfl ?_
    refine l_gr dX12_configChar_15 fl_11_88 (fun v1 => ?_)
    refine l_loc dX12_configChar_18 rfl rfl ?_
    refine l_ob fun q2 => ?_
    refine l_cV dX12_configChar_19 rfl rfl rfl (l_xv cl_11_229 ko_mX6_seek rfl rfl rfl q2) rfl rfl nm_mX6_seek (xhE_th rfl) (fun h3 => ?_)
    refine l_loc dX12_configChar_22 rfl rfl ?_
    refine l_gr dX12_configChar_23 fl_11_58 (fun v5 => ?_)
    refine l_loc dX12_configChar_26 rfl rfl ?_
    refine l_gr dX12_configChar_27 fl_11_88 (fun v6 => ?_)
    refine l_ob fun q7 => ?_
    refine l_cV dX12_configChar_30 rfl rfl rfl (l_xv cl_11_232 ko_mX2_describe rfl rfl rfl q7) rfl rfl nm_mX2_describe (xhE_th rfl) (fun h8 => ?_)
    refine l_loc dX12_configChar_33 rfl rfl ?_
    refine l_gr dX12_configChar_34 fl_11_88 (fun v10 => ?_)
    refine l_ob fun q11 => ?_
    refine l_cI dX12_configChar_37 rfl rfl rfl (l_xv cl_11_236 ko_mX6_found rfl rfl rfl q11) rfl rfl nm_mX6_found (xhE_th rfl) (fun v13 h12 => ?_)
    exact l_iretn dX12_configChar_40 rfl (by rfl)
  · exact l_thr dX12_configChar_4 dX12_configChar_7 dX12_configChar_8 dX12_configChar_10 dX12_configChar_13 rfl rfl rfl rfl rfl
set_option maxRecDepth 16000 in
theorem w_X12_addMask (S : xS) (x0 : Nat) (x1 : Int32) (x2 : Int32) (x3 : Int32) (x4 : Int32) (h : xH) : xle ((xGi h x0 11 0).bind fun v1 => xqI (xM S mX12_isWithin [.int x1, .int x3, .int v1] h) xth fun v3 h2 => if v3 = 0 then (some (.inr "java/lang/IllegalArgumentException", h2, 1, 6)) else ((xGi h2 x0 11 1).bind fun v4 => xqI (xM S mX12_isWithin [.int x2, .int x4, .int v4] h2) xth fun v6 h5 => if ¬ v6 = 0 then ((xGi h5 x0 11 8).bind fun v7 => if v7 < (6 : Int32) then ((xGr h5 x0 11 7).bind fun v8 => (xGi h5 x0 11 8).bind fun v9 => (xRr h5 v8 v9).bind fun v10 => (xWi h5 v10 (0 : Int32) x1).bind fun h11 => (xWi h11 v10 (1 : Int32) x2).bind fun h12 => (xWi h12 v10 (2 : Int32) x3).bind fun h13 => (xWi h13 v10 (3 : Int32) x4).bind fun h14 => (xGi h14 x0 11 8).bind fun v15 => (xP false 11 h14 x0 11 8 (.int (v15 + (1 : Int32)))).bind fun h16 => (xGi h16 x0 11 8).bind fun v17 => some (.inl (some (.int v17)), h16, 0, 0)) else (some (.inr "java/lang/IllegalStateException", h5, 1, 6))) else (some (.inr "java/lang/IllegalArgumentException", h5, 1, 6)))) (xM S mX12_addMask [.ref x0, .int x1, .int x2, .int x3, .int x4] h) := by
  show xle _ (xden S mX12_addMask 0 [(0, .ref x0), (1, .int x1), (2, .int x2), (3, .int x3), (4, .int x4)] [] h)
  refine l_loc dX12_addMask_0 rfl rfl ?_
  refine l_loc dX12_addMask_1 rfl rfl ?_
  refine l_loc dX12_addMask_2 rfl rfl ?_
  refine l_gi dX12_addMask_3 fl_11_18 (fun v1 => ?_)
  refine l_cI dX12_addMask_6 rfl rfl rfl (l_xs cl_11_239 ko_mX12_isWithin rfl rfl) rfl rfl nm_mX12_isWithin (xhE_th rfl) (fun v3 h2 => ?_)
  refine l_ieq (t := 25) dX12_addMask_9 rfl ?_ ?_
  · exact l_thr dX12_addMask_25 dX12_addMask_28 dX12_addMask_29 dX12_addMask_31 dX12_addMask_34 rfl rfl rfl rfl rfl
  · refine l_loc dX12_addMask_12 rfl rfl ?_
    refine l_loc dX12_addMask_13 rfl rfl ?_
    refine l_loc dX12_addMask_15 rfl rfl ?_
    refine l_gi dX12_addMask_16 fl_11_22 (fun v4 => ?_)
    refine l_cI dX12_addMask_19 rfl rfl rfl (l_xs cl_11_239 ko_mX12_isWithin rfl rfl) rfl rfl nm_mX12_isWithin (xhE_th rfl) (fun v6 h5 => ?_)
    refine l_ine (t := 35) dX12_addMask_22 rfl ?_ ?_
    · refine l_loc dX12_addMask_35 rfl rfl ?_
      refine l_gi dX12_addMask_36 fl_11_245 (fun v7 => ?_)
      refine l_bi dX12_addMask_39 kB_6 ?_
      refine l_clt (t := 54) dX12_addMask_41 rfl ?_ ?_
      · refine l_loc dX12_addMask_54 rfl rfl ?_
        refine l_gr dX12_addMask_55 fl_11_64 (fun v8 => ?_)
        refine l_loc dX12_addMask_58 rfl rfl ?_
        refine l_gi dX12_addMask_59 fl_11_245 (fun v9 => ?_)
        refine l_rr dX12_addMask_62 (fun v10 => ?_)
        refine l_loc (al1 := [(5, .ref v10), (0, .ref x0), (1, .int x1), (2, .int x2), (3, .int x3), (4, .int x4)]) dX12_addMask_63 rfl rfl ?_
        refine l_loc dX12_addMask_65 rfl rfl ?_
        refine l_ic dX12_addMask_67 kI_0 ?_
        refine l_loc dX12_addMask_68 rfl rfl ?_
        refine l_wi dX12_addMask_69 (fun h11 => ?_)
        refine l_loc dX12_addMask_70 rfl rfl ?_
        refine l_ic dX12_addMask_72 kI_1 ?_
        refine l_loc dX12_addMask_73 rfl rfl ?_
        refine l_wi dX12_addMask_74 (fun h12 => ?_)
        refine l_loc dX12_addMask_75 rfl rfl ?_
        refine l_ic dX12_addMask_77 kI_2 ?_
        refine l_loc dX12_addMask_78 rfl rfl ?_
        refine l_wi dX12_addMask_79 (fun h13 => ?_)
        refine l_loc dX12_addMask_80 rfl rfl ?_
        refine l_ic dX12_addMask_82 kI_3 ?_
        refine l_loc dX12_addMask_83 rfl rfl ?_
        refine l_wi dX12_addMask_85 (fun h14 => ?_)
        refine l_loc dX12_addMask_86 rfl rfl ?_
        refine l_pure dX12_addMask_87 rfl rfl ?_
        refine l_gi dX12_addMask_88 fl_11_245 (fun v15 => ?_)
        refine l_ic dX12_addMask_91 kI_1 ?_
        refine l_pure dX12_addMask_92 rfl rfl ?_
        refine l_pf dX12_addMask_93 fl_11_245 (ini := false) nm_mX12_addMask (fun h16 => ?_)
        refine l_loc dX12_addMask_96 rfl rfl ?_
        refine l_gi dX12_addMask_97 fl_11_245 (fun v17 => ?_)
        exact l_iretn dX12_addMask_100 rfl (by rfl)
      · exact l_thr dX12_addMask_44 dX12_addMask_47 dX12_addMask_48 dX12_addMask_50 dX12_addMask_53 rfl rfl rfl rfl rfl
    · exact l_thr dX12_addMask_25 dX12_addMask_28 dX12_addMask_29 dX12_addMask_31 dX12_addMask_34 rfl rfl rfl rfl rfl
set_option maxRecDepth 16000 in
theorem w_X12_isWithin (S : xS) (x0 : Int32) (x1 : Int32) (x2 : Int32) (h : xH) : xle (if x0 < 0 then (some (.inl (some (.int (0 : Int32))), h, 0, 0)) else (if x2 ≤ x0 then (some (.inl (some (.int (0 : Int32))), h, 0, 0)) else (if x1 < (1 : Int32) then (some (.inl (some (.int (0 : Int32))), h, 0, 0)) else (if (x2 - x0) < x1 then (some (.inl (some (.int (0 : Int32))), h, 0, 0)) else (some (.inl (some (.int (1 : Int32))), h, 0, 0)))))) (xM S mX12_isWithin [.int x0, .int x1, .int x2] h) := by
  show xle _ (xden S mX12_isWithin 0 [(0, .int x0), (1, .int x1), (2, .int x2)] [] h)
  refine l_loc dX12_isWithin_0 rfl rfl ?_
  refine l_ilt (t := 25) dX12_isWithin_1 rfl ?_ ?_
  · refine l_ic dX12_isWithin_25 kI_0 ?_
    exact l_iretn dX12_isWithin_26 rfl (by decide)
  · refine l_loc dX12_isWithin_4 rfl rfl ?_
    refine l_loc dX12_isWithin_5 rfl rfl ?_
    refine l_cge (t := 25) dX12_isWithin_6 rfl ?_ ?_
    · refine l_ic dX12_isWithin_25 kI_0 ?_
      exact l_iretn dX12_isWithin_26 rfl (by decide)
    · refine l_loc dX12_isWithin_9 rfl rfl ?_
      refine l_ic dX12_isWithin_10 kI_1 ?_
      refine l_clt (t := 25) dX12_isWithin_11 rfl ?_ ?_
      · refine l_ic dX12_isWithin_25 kI_0 ?_
        exact l_iretn dX12_isWithin_26 rfl (by decide)
      · refine l_loc dX12_isWithin_14 rfl rfl ?_
        refine l_loc dX12_isWithin_15 rfl rfl ?_
        refine l_loc dX12_isWithin_16 rfl rfl ?_
        refine l_pure dX12_isWithin_17 rfl rfl ?_
        refine l_cgt (t := 25) dX12_isWithin_18 rfl ?_ ?_
        · refine l_ic dX12_isWithin_25 kI_0 ?_
          exact l_iretn dX12_isWithin_26 rfl (by decide)
        · refine l_ic dX12_isWithin_21 kI_1 ?_
          refine l_goto (t := 26) dX12_isWithin_22 rfl ?_
          exact l_iretn dX12_isWithin_26 rfl (by decide)
set_option maxRecDepth 16000 in
theorem w_X12_removeMask (S : xS) (x0 : Nat) (x1 : Int32) (h : xH) : xle (if x1 < 0 then (some (.inr "java/lang/IndexOutOfBoundsException", h, 1, 6)) else ((xGi h x0 11 8).bind fun v1 => if x1 < v1 then (xden S mX12_removeMask 24 [(0, .ref x0), (2, .int x1)] [] h) else (some (.inr "java/lang/IndexOutOfBoundsException", h, 1, 6)))) (xM S mX12_removeMask [.ref x0, .int x1] h) := by
  show xle _ (xden S mX12_removeMask 0 [(0, .ref x0), (1, .int x1)] [] h)
  refine l_loc dX12_removeMask_0 rfl rfl ?_
  refine l_ilt (t := 12) dX12_removeMask_1 rfl ?_ ?_
  · exact l_thr dX12_removeMask_12 dX12_removeMask_15 dX12_removeMask_16 dX12_removeMask_18 dX12_removeMask_21 rfl rfl rfl rfl rfl
  · refine l_loc dX12_removeMask_4 rfl rfl ?_
    refine l_loc dX12_removeMask_5 rfl rfl ?_
    refine l_gi dX12_removeMask_6 fl_11_245 (fun v1 => ?_)
    refine l_clt (t := 22) dX12_removeMask_9 rfl ?_ ?_
    · refine l_loc dX12_removeMask_22 rfl rfl ?_
      refine l_loc (al1 := [(2, .int x1), (0, .ref x0), (1, .int x1)]) dX12_removeMask_23 rfl rfl ?_
      exact l_al rfl ⟨rfl, rfl, trivial⟩
    · exact l_thr dX12_removeMask_12 dX12_removeMask_15 dX12_removeMask_16 dX12_removeMask_18 dX12_removeMask_21 rfl rfl rfl rfl rfl
set_option maxRecDepth 16000 in
theorem w_X12_removeMask_24 (S : xS) (x0 : Nat) (x2 : Int32) (h : xH) : xle ((xGi h x0 11 8).bind fun v1 => if v1 ≤ (x2 + (1 : Int32)) then ((xGi h x0 11 8).bind fun v2 => (xP false 11 h x0 11 8 (.int (v2 - (1 : Int32)))).bind fun h3 => (xGi h3 x0 11 8).bind fun v4 => some (.inl (some (.int v4)), h3, 0, 0)) else ((xGr h x0 11 7).bind fun v5 => (xRr h v5 (x2 + (1 : Int32))).bind fun v6 => (xGr h x0 11 7).bind fun v7 => (xRr h v7 x2).bind fun v8 => (xCp h v6 (0 : Int32) v8 (0 : Int32) (4 : Int32)).bind fun h9 => xlet (x2 + (1 : Int32)) fun v10 => (xden S mX12_removeMask 24 [(0, .ref x0), (2, .int v10)] [] h9))) (xden S mX12_removeMask 24 [(0, .ref x0), (2, .int x2)] [] h) := by
  refine l_loc dX12_removeMask_24 rfl rfl ?_
  refine l_ic dX12_removeMask_25 kI_1 ?_
  refine l_pure dX12_removeMask_26 rfl rfl ?_
  refine l_loc dX12_removeMask_27 rfl rfl ?_
  refine l_gi dX12_removeMask_28 fl_11_245 (fun v1 => ?_)
  refine l_cge (t := 60) dX12_removeMask_31 rfl ?_ ?_
  · refine l_loc dX12_removeMask_60 rfl rfl ?_
    refine l_pure dX12_removeMask_61 rfl rfl ?_
    refine l_gi dX12_removeMask_62 fl_11_245 (fun v2 => ?_)
    refine l_ic dX12_removeMask_65 kI_1 ?_
    refine l_pure dX12_removeMask_66 rfl rfl ?_
    refine l_pf dX12_removeMask_67 fl_11_245 (ini := false) nm_mX12_removeMask (fun h3 => ?_)
    refine l_loc dX12_removeMask_70 rfl rfl ?_
    refine l_gi dX12_removeMask_71 fl_11_245 (fun v4 => ?_)
    exact l_iretn dX12_removeMask_74 rfl (by rfl)
  · refine l_loc dX12_removeMask_34 rfl rfl ?_
    refine l_gr dX12_removeMask_35 fl_11_64 (fun v5 => ?_)
    refine l_loc dX12_removeMask_38 rfl rfl ?_
    refine l_ic dX12_removeMask_39 kI_1 ?_
    refine l_pure dX12_removeMask_40 rfl rfl ?_
    refine l_rr dX12_removeMask_41 (fun v6 => ?_)
    refine l_ic dX12_removeMask_42 kI_0 ?_
    refine l_loc dX12_removeMask_43 rfl rfl ?_
    refine l_gr dX12_removeMask_44 fl_11_64 (fun v7 => ?_)
    refine l_loc dX12_removeMask_47 rfl rfl ?_
    refine l_rr dX12_removeMask_48 (fun v8 => ?_)
    refine l_ic dX12_removeMask_49 kI_0 ?_
    refine l_ic dX12_removeMask_50 kI_4 ?_
    refine l_cpy dX12_removeMask_51 rfl rfl rfl rfl (fun h9 => ?_)
    refine l_incl (al1 := fun v10 => [(2, .int v10), (0, .ref x0)]) dX12_removeMask_54 rfl kI_1 rfl (fun _ => rfl) (fun v10 => ?_)
    refine l_goto (t := 24) dX12_removeMask_57 rfl ?_
    exact l_al rfl ⟨rfl, rfl, trivial⟩
set_option maxRecDepth 16000 in
theorem w_X12_shiftX (S : xS) (x0 : Nat) (h : xH) : xle (if xOb h x0 11 = true then xqR (xM S mX12_registration [.ref x0] h) xth fun v3 h2 => (xGi h2 v3 8 6).bind fun v4 => some (.inl (some (.int v4)), h2, 0, 0) else none) (xM S mX12_shiftX [.ref x0] h) := by
  show xle _ (xden S mX12_shiftX 0 [(0, .ref x0)] [] h)
  refine l_loc dX12_shiftX_0 rfl rfl ?_
  refine l_ob fun q1 => ?_
  refine l_cR dX12_shiftX_1 rfl rfl rfl (l_xv cl_11_273 ko_mX12_registration rfl rfl rfl q1) rfl rfl nm_mX12_registration (xhE_th rfl) (fun v3 h2 => ?_)
  refine l_gi dX12_shiftX_4 fl_11_277 (fun v4 => ?_)
  exact l_iretn dX12_shiftX_7 rfl (by rfl)
set_option maxRecDepth 16000 in
theorem w_X12_registration (S : xS) (x0 : Nat) (h : xH) : xle (if xOb h x0 11 = true then xqV (xM S mX12_requireComparison [.ref x0] h) xth fun h2 => (xGr h2 x0 11 11).bind fun v4 => (xGr h2 v4 1 7).bind fun v5 => some (.inl (some (.ref v5)), h2, 0, 0) else none) (xM S mX12_registration [.ref x0] h) := by
  show xle _ (xden S mX12_registration 0 [(0, .ref x0)] [] h)
  refine l_loc dX12_registration_0 rfl rfl ?_
  refine l_ob fun q1 => ?_
  refine l_cV dX12_registration_1 rfl rfl rfl (l_xv cl_11_303 ko_mX12_requireComparison rfl rfl rfl q1) rfl rfl nm_mX12_requireComparison (xhE_th rfl) (fun h2 => ?_)
  refine l_loc dX12_registration_4 rfl rfl ?_
  refine l_gr dX12_registration_5 fl_11_81 (fun v4 => ?_)
  refine l_gr dX12_registration_8 fl_11_415 (fun v5 => ?_)
  exact l_end dX12_registration_11 rfl rfl
set_option maxRecDepth 16000 in
theorem w_X12_requireComparison (S : xS) (x0 : Nat) (h : xH) : xle ((xGi h x0 11 12).bind fun v1 => if ¬ v1 = 0 then (some (.inl none, h, 0, 0)) else (some (.inr "java/lang/IllegalStateException", h, 1, 6))) (xM S mX12_requireComparison [.ref x0] h) := by
  show xle _ (xden S mX12_requireComparison 0 [(0, .ref x0)] [] h)
  refine l_loc dX12_requireComparison_0 rfl rfl ?_
  refine l_gi dX12_requireComparison_1 fl_11_266 (fun v1 => ?_)
  refine l_ine (t := 18) dX12_requireComparison_4 rfl ?_ ?_
  · exact l_end dX12_requireComparison_18 rfl rfl
  · exact l_thw dX12_requireComparison_7 dX12_requireComparison_10 dX12_requireComparison_11 dX12_requireComparison_14 dX12_requireComparison_17 rfl rfl rfl rfl rfl
set_option maxRecDepth 16000 in
theorem w_X12_shiftY (S : xS) (x0 : Nat) (h : xH) : xle (if xOb h x0 11 = true then xqR (xM S mX12_registration [.ref x0] h) xth fun v3 h2 => (xGi h2 v3 8 7).bind fun v4 => some (.inl (some (.int v4)), h2, 0, 0) else none) (xM S mX12_shiftY [.ref x0] h) := by
  show xle _ (xden S mX12_shiftY 0 [(0, .ref x0)] [] h)
  refine l_loc dX12_shiftY_0 rfl rfl ?_
  refine l_ob fun q1 => ?_
  refine l_cR dX12_shiftY_1 rfl rfl rfl (l_xv cl_11_273 ko_mX12_registration rfl rfl rfl q1) rfl rfl nm_mX12_registration (xhE_th rfl) (fun v3 h2 => ?_)
  refine l_gi dX12_shiftY_4 fl_11_282 (fun v4 => ?_)
  exact l_iretn dX12_shiftY_7 rfl (by rfl)
set_option maxRecDepth 16000 in
theorem w_X12_skew (S : xS) (x0 : Nat) (h : xH) : xle (if xOb h x0 11 = true then xqR (xM S mX12_registration [.ref x0] h) xth fun v3 h2 => (xGi h2 v3 8 8).bind fun v4 => some (.inl (some (.int v4)), h2, 0, 0) else none) (xM S mX12_skew [.ref x0] h) := by
  show xle _ (xden S mX12_skew 0 [(0, .ref x0)] [] h)
  refine l_loc dX12_skew_0 rfl rfl ?_
  refine l_ob fun q1 => ?_
  refine l_cR dX12_skew_1 rfl rfl rfl (l_xv cl_11_273 ko_mX12_registration rfl rfl rfl q1) rfl rfl nm_mX12_registration (xhE_th rfl) (fun v3 h2 => ?_)
  refine l_gi dX12_skew_4 fl_11_285 (fun v4 => ?_)
  exact l_iretn dX12_skew_7 rfl (by rfl)
set_option maxRecDepth 16000 in
theorem w_X12_turned (S : xS) (x0 : Nat) (h : xH) : xle (if xOb h x0 11 = true then xqR (xM S mX12_registration [.ref x0] h) xth fun v3 h2 => (xGi h2 v3 8 9).bind fun v4 => if narrow .boolean (.int v4) = .int v4 then some (.inl (some (.int v4)), h2, 0, 0) else none else none) (xM S mX12_turned [.ref x0] h) := by
  show xle _ (xden S mX12_turned 0 [(0, .ref x0)] [] h)
  refine l_loc dX12_turned_0 rfl rfl ?_
  refine l_ob fun q1 => ?_
  refine l_cR dX12_turned_1 rfl rfl rfl (l_xv cl_11_273 ko_mX12_registration rfl rfl rfl q1) rfl rfl nm_mX12_registration (xhE_th rfl) (fun v3 h2 => ?_)
  refine l_gi dX12_turned_4 fl_11_288 (fun v4 => ?_)
  exact l_iret dX12_turned_7 rfl
set_option maxRecDepth 16000 in
theorem w_X12_mismatch (S : xS) (x0 : Nat) (h : xH) : xle (if xOb h x0 11 = true then xqR (xM S mX12_registration [.ref x0] h) xth fun v3 h2 => (xGi h2 v3 8 10).bind fun v4 => some (.inl (some (.int v4)), h2, 0, 0) else none) (xM S mX12_mismatch [.ref x0] h) := by
  show xle _ (xden S mX12_mismatch 0 [(0, .ref x0)] [] h)
  refine l_loc dX12_mismatch_0 rfl rfl ?_
  refine l_ob fun q1 => ?_
  refine l_cR dX12_mismatch_1 rfl rfl rfl (l_xv cl_11_273 ko_mX12_registration rfl rfl rfl q1) rfl rfl nm_mX12_registration (xhE_th rfl) (fun v3 h2 => ?_)
  refine l_gi dX12_mismatch_4 fl_11_291 (fun v4 => ?_)
  exact l_iretn dX12_mismatch_7 rfl (by rfl)
set_option maxRecDepth 16000 in
theorem w_X12_similarity (S : xS) (x0 : Nat) (h : xH) : xle ((xGi h x0 11 0).bind fun v1 => (xGi h x0 11 1).bind fun v2 => xlet (v1 * v2) fun v3 => if xOb h x0 11 = true then xqR (xM S mX12_registration [.ref x0] h) xth fun v6 h5 => (xGi h5 v6 8 10).bind fun v7 => xlet (v3 - v7) fun v8 => if (1 : Int32) ≤ v3 then (if v3 = 0 then none else some (.inl (some (.int ((v8 * (1000 : Int32)) / v3))), h5, 0, 0)) else (some (.inl (some (.int (0 : Int32))), h5, 0, 0)) else none) (xM S mX12_similarity [.ref x0] h) := by
  show xle _ (xden S mX12_similarity 0 [(0, .ref x0)] [] h)
  refine l_loc dX12_similarity_0 rfl rfl ?_
  refine l_gi dX12_similarity_1 fl_11_18 (fun v1 => ?_)
  refine l_loc dX12_similarity_4 rfl rfl ?_
  refine l_gi dX12_similarity_5 fl_11_22 (fun v2 => ?_)
  refine l_pure dX12_similarity_8 rfl rfl ?_
  refine l_isl (al1 := fun v3 => [(1, .int v3), (0, .ref x0)]) dX12_similarity_9 rfl (fun _ => rfl) (fun v3 => ?_)
  refine l_loc dX12_similarity_10 rfl rfl ?_
  refine l_loc dX12_similarity_11 rfl rfl ?_
  refine l_ob fun q4 => ?_
  refine l_cR dX12_similarity_12 rfl rfl rfl (l_xv cl_11_273 ko_mX12_registration rfl rfl rfl q4) rfl rfl nm_mX12_registration (xhE_th rfl) (fun v6 h5 => ?_)
  refine l_gi dX12_similarity_15 fl_11_291 (fun v7 => ?_)
  refine l_pure dX12_similarity_18 rfl rfl ?_
  refine l_isl (al1 := fun v8 => [(2, .int v8), (1, .int v3), (0, .ref x0)]) dX12_similarity_19 rfl (fun _ => rfl) (fun v8 => ?_)
  refine l_loc dX12_similarity_20 rfl rfl ?_
  refine l_ic dX12_similarity_21 kI_1 ?_
  refine l_cge (t := 29) dX12_similarity_22 rfl ?_ ?_
  · refine l_loc dX12_similarity_29 rfl rfl ?_
    refine l_si dX12_similarity_30 kS_1000 ?_
    refine l_pure dX12_similarity_33 rfl rfl ?_
    refine l_loc dX12_similarity_34 rfl rfl ?_
    refine l_div dX12_similarity_35 ?_
    exact l_iretn dX12_similarity_36 rfl (by rfl)
  · refine l_ic dX12_similarity_25 kI_0 ?_
    refine l_goto (t := 36) dX12_similarity_26 rfl ?_
    exact l_iretn dX12_similarity_36 rfl (by rfl)
set_option maxRecDepth 16000 in
theorem w_X12_mismatchAt (S : xS) (x0 : Nat) (x1 : Int32) (x2 : Int32) (h : xH) : xle (if xOb h x0 11 = true then xqR (xM S mX12_registration [.ref x0] h) xth fun v3 h2 => xqI (xM S mJ9_max_7cf53 [.int x1, .int x2] h2) xth fun v5 h4 => if (16 : Int32) < v5 then (some (.inr "java/lang/IllegalArgumentException", h4, 1, 6)) else (xqI (xM S mJ9_min_7cf53 [.int x1, .int x2] h4) xth fun v7 h6 => if (-16 : Int32) ≤ v7 then ((xGr h6 x0 11 11).bind fun v8 => (xGr h6 v8 1 2).bind fun v9 => if xOb h6 v3 8 = true then xqI (xM S mX8_costOf [.ref v3, .ref v9, .int x1, .int x2] h6) xth fun v12 h11 => some (.inl (some (.int v12)), h11, 0, 0) else none) else (some (.inr "java/lang/IllegalArgumentException", h6, 1, 6))) else none) (xM S mX12_mismatchAt [.ref x0, .int x1, .int x2] h) := by
  show xle _ (xden S mX12_mismatchAt 0 [(0, .ref x0), (1, .int x1), (2, .int x2)] [] h)
  refine l_loc dX12_mismatchAt_0 rfl rfl ?_
  refine l_ob fun q1 => ?_
  refine l_cR dX12_mismatchAt_1 rfl rfl rfl (l_xv cl_11_273 ko_mX12_registration rfl rfl rfl q1) rfl rfl nm_mX12_registration (xhE_th rfl) (fun v3 h2 => ?_)
  refine l_loc (al1 := [(3, .ref v3), (0, .ref x0), (1, .int x1), (2, .int x2)]) dX12_mismatchAt_4 rfl rfl ?_
  refine l_loc dX12_mismatchAt_5 rfl rfl ?_
  refine l_loc dX12_mismatchAt_6 rfl rfl ?_
  refine l_cI dX12_mismatchAt_7 rfl rfl rfl (l_xs cl_11_15 ko_mJ9_max_7cf53 rfl rfl) rfl rfl nm_mJ9_max_7cf53 (xhE_th rfl) (fun v5 h4 => ?_)
  refine l_bi dX12_mismatchAt_10 kB_16 ?_
  refine l_cgt (t := 25) dX12_mismatchAt_12 rfl ?_ ?_
  · exact l_thw dX12_mismatchAt_25 dX12_mismatchAt_28 dX12_mismatchAt_29 dX12_mismatchAt_32 dX12_mismatchAt_35 rfl rfl rfl rfl rfl
  · refine l_loc dX12_mismatchAt_15 rfl rfl ?_
    refine l_loc dX12_mismatchAt_16 rfl rfl ?_
    refine l_cI dX12_mismatchAt_17 rfl rfl rfl (l_xs cl_11_9 ko_mJ9_min_7cf53 rfl rfl) rfl rfl nm_mJ9_min_7cf53 (xhE_th rfl) (fun v7 h6 => ?_)
    refine l_bi dX12_mismatchAt_20 kB_m16 ?_
    refine l_cge (t := 36) dX12_mismatchAt_22 rfl ?_ ?_
    · refine l_loc dX12_mismatchAt_36 rfl rfl ?_
      refine l_loc dX12_mismatchAt_37 rfl rfl ?_
      refine l_gr dX12_mismatchAt_38 fl_11_81 (fun v8 => ?_)
      refine l_gr dX12_mismatchAt_41 fl_11_296 (fun v9 => ?_)
      refine l_loc dX12_mismatchAt_44 rfl rfl ?_
      refine l_loc dX12_mismatchAt_45 rfl rfl ?_
      refine l_ob fun q10 => ?_
      refine l_cI dX12_mismatchAt_46 rfl rfl rfl (l_xv cl_11_299 ko_mX8_costOf rfl rfl rfl q10) rfl rfl nm_mX8_costOf (xhE_th rfl) (fun v12 h11 => ?_)
      exact l_iretn dX12_mismatchAt_49 rfl (by rfl)
    · exact l_thw dX12_mismatchAt_25 dX12_mismatchAt_28 dX12_mismatchAt_29 dX12_mismatchAt_32 dX12_mismatchAt_35 rfl rfl rfl rfl rfl
set_option maxRecDepth 16000 in
theorem w_X12_blockDifference (S : xS) (x0 : Nat) (x1 : Int32) (x2 : Int32) (h : xH) : xle (if xOb h x0 11 = true then xqV (xM S mX12_requireComparison [.ref x0] h) xth fun h2 => if x1 < 0 then (some (.inr "java/lang/IndexOutOfBoundsException", h2, 1, 6)) else ((xGr h2 x0 11 11).bind fun v4 => (xGi h2 v4 1 9).bind fun v5 => if v5 ≤ x1 then (some (.inr "java/lang/IndexOutOfBoundsException", h2, 1, 6)) else (if x2 < 0 then (some (.inr "java/lang/IndexOutOfBoundsException", h2, 1, 6)) else ((xGr h2 x0 11 11).bind fun v6 => (xGi h2 v6 1 10).bind fun v7 => if x2 < v7 then ((xGr h2 x0 11 11).bind fun v8 => if xOb h2 v8 1 = true then xqI (xM S mX1_differenceOf [.ref v8, .int x1, .int x2] h2) xth fun v11 h10 => some (.inl (some (.int v11)), h10, 0, 0) else none) else (some (.inr "java/lang/IndexOutOfBoundsException", h2, 1, 6))))) else none) (xM S mX12_blockDifference [.ref x0, .int x1, .int x2] h) := by
  show xle _ (xden S mX12_blockDifference 0 [(0, .ref x0), (1, .int x1), (2, .int x2)] [] h)
  refine l_loc dX12_blockDifference_0 rfl rfl ?_
  refine l_ob fun q1 => ?_
  refine l_cV dX12_blockDifference_1 rfl rfl rfl (l_xv cl_11_303 ko_mX12_requireComparison rfl rfl rfl q1) rfl rfl nm_mX12_requireComparison (xhE_th rfl) (fun h2 => ?_)
  refine l_loc dX12_blockDifference_4 rfl rfl ?_
  refine l_ilt (t := 34) dX12_blockDifference_5 rfl ?_ ?_
  · exact l_thw dX12_blockDifference_34 dX12_blockDifference_37 dX12_blockDifference_38 dX12_blockDifference_41 dX12_blockDifference_44 rfl rfl rfl rfl rfl
  · refine l_loc dX12_blockDifference_8 rfl rfl ?_
    refine l_loc dX12_blockDifference_9 rfl rfl ?_
    refine l_gr dX12_blockDifference_10 fl_11_81 (fun v4 => ?_)
    refine l_gi dX12_blockDifference_13 fl_11_306 (fun v5 => ?_)
    refine l_cge (t := 34) dX12_blockDifference_16 rfl ?_ ?_
    · exact l_thw dX12_blockDifference_34 dX12_blockDifference_37 dX12_blockDifference_38 dX12_blockDifference_41 dX12_blockDifference_44 rfl rfl rfl rfl rfl
    · refine l_loc dX12_blockDifference_19 rfl rfl ?_
      refine l_ilt (t := 34) dX12_blockDifference_20 rfl ?_ ?_
      · exact l_thw dX12_blockDifference_34 dX12_blockDifference_37 dX12_blockDifference_38 dX12_blockDifference_41 dX12_blockDifference_44 rfl rfl rfl rfl rfl
      · refine l_loc dX12_blockDifference_23 rfl rfl ?_
        refine l_loc dX12_blockDifference_24 rfl rfl ?_
        refine l_gr dX12_blockDifference_25 fl_11_81 (fun v6 => ?_)
        refine l_gi dX12_blockDifference_28 fl_11_309 (fun v7 => ?_)
        refine l_clt (t := 45) dX12_blockDifference_31 rfl ?_ ?_
        · refine l_loc dX12_blockDifference_45 rfl rfl ?_
          refine l_gr dX12_blockDifference_46 fl_11_81 (fun v8 => ?_)
          refine l_loc dX12_blockDifference_49 rfl rfl ?_
          refine l_loc dX12_blockDifference_50 rfl rfl ?_
          refine l_ob fun q9 => ?_
          refine l_cI dX12_blockDifference_51 rfl rfl rfl (l_xv cl_11_314 ko_mX1_differenceOf rfl rfl rfl q9) rfl rfl nm_mX1_differenceOf (xhE_th rfl) (fun v11 h10 => ?_)
          exact l_iretn dX12_blockDifference_54 rfl (by rfl)
        · exact l_thw dX12_blockDifference_34 dX12_blockDifference_37 dX12_blockDifference_38 dX12_blockDifference_41 dX12_blockDifference_44 rfl rfl rfl rfl rfl
set_option maxRecDepth 16000 in
theorem w_X12_regions (S : xS) (x0 : Nat) (h : xH) : xle (if xOb h x0 11 = true then xqV (xM S mX12_requireComparison [.ref x0] h) xth fun h2 => (xGr h2 x0 11 11).bind fun v4 => (xGi h2 v4 1 17).bind fun v5 => some (.inl (some (.int v5)), h2, 0, 0) else none) (xM S mX12_regions [.ref x0] h) := by
  show xle _ (xden S mX12_regions 0 [(0, .ref x0)] [] h)
  refine l_loc dX12_regions_0 rfl rfl ?_
  refine l_ob fun q1 => ?_
  refine l_cV dX12_regions_1 rfl rfl rfl (l_xv cl_11_303 ko_mX12_requireComparison rfl rfl rfl q1) rfl rfl nm_mX12_requireComparison (xhE_th rfl) (fun h2 => ?_)
  refine l_loc dX12_regions_4 rfl rfl ?_
  refine l_gr dX12_regions_5 fl_11_81 (fun v4 => ?_)
  refine l_gi dX12_regions_8 fl_11_317 (fun v5 => ?_)
  exact l_iretn dX12_regions_11 rfl (by rfl)
set_option maxRecDepth 16000 in
theorem w_X12_regionAt (S : xS) (x0 : Nat) (x1 : Int32) (x2 : Int32) (h : xH) : xle (if xOb h x0 11 = true then xqV (xM S mX12_requireComparison [.ref x0] h) xth fun h2 => if x1 < 0 then (some (.inr "java/lang/IndexOutOfBoundsException", h2, 1, 6)) else ((xGi h2 x0 11 0).bind fun v4 => if v4 ≤ x1 then (some (.inr "java/lang/IndexOutOfBoundsException", h2, 1, 6)) else (if x2 < 0 then (some (.inr "java/lang/IndexOutOfBoundsException", h2, 1, 6)) else ((xGi h2 x0 11 1).bind fun v5 => if x2 < v5 then ((xGr h2 x0 11 11).bind fun v6 => if xOb h2 v6 1 = true then xqI (xM S mX1_regionOfPixel [.ref v6, .int x1, .int x2] h2) xth fun v9 h8 => some (.inl (some (.int v9)), h8, 0, 0) else none) else (some (.inr "java/lang/IndexOutOfBoundsException", h2, 1, 6))))) else none) (xM S mX12_regionAt [.ref x0, .int x1, .int x2] h) := by
  show xle _ (xden S mX12_regionAt 0 [(0, .ref x0), (1, .int x1), (2, .int x2)] [] h)
  refine l_loc dX12_regionAt_0 rfl rfl ?_
  refine l_ob fun q1 => ?_
  refine l_cV dX12_regionAt_1 rfl rfl rfl (l_xv cl_11_303 ko_mX12_requireComparison rfl rfl rfl q1) rfl rfl nm_mX12_requireComparison (xhE_th rfl) (fun h2 => ?_)
  refine l_loc dX12_regionAt_4 rfl rfl ?_
  refine l_ilt (t := 28) dX12_regionAt_5 rfl ?_ ?_
  · exact l_thw dX12_regionAt_28 dX12_regionAt_31 dX12_regionAt_32 dX12_regionAt_35 dX12_regionAt_38 rfl rfl rfl rfl rfl
  · refine l_loc dX12_regionAt_8 rfl rfl ?_
    refine l_loc dX12_regionAt_9 rfl rfl ?_
    refine l_gi dX12_regionAt_10 fl_11_18 (fun v4 => ?_)
    refine l_cge (t := 28) dX12_regionAt_13 rfl ?_ ?_
    · exact l_thw dX12_regionAt_28 dX12_regionAt_31 dX12_regionAt_32 dX12_regionAt_35 dX12_regionAt_38 rfl rfl rfl rfl rfl
    · refine l_loc dX12_regionAt_16 rfl rfl ?_
      refine l_ilt (t := 28) dX12_regionAt_17 rfl ?_ ?_
      · exact l_thw dX12_regionAt_28 dX12_regionAt_31 dX12_regionAt_32 dX12_regionAt_35 dX12_regionAt_38 rfl rfl rfl rfl rfl
      · refine l_loc dX12_regionAt_20 rfl rfl ?_
        refine l_loc dX12_regionAt_21 rfl rfl ?_
        refine l_gi dX12_regionAt_22 fl_11_22 (fun v5 => ?_)
        refine l_clt (t := 39) dX12_regionAt_25 rfl ?_ ?_
        · refine l_loc dX12_regionAt_39 rfl rfl ?_
          refine l_gr dX12_regionAt_40 fl_11_81 (fun v6 => ?_)
          refine l_loc dX12_regionAt_43 rfl rfl ?_
          refine l_loc dX12_regionAt_44 rfl rfl ?_
          refine l_ob fun q7 => ?_
          refine l_cI dX12_regionAt_45 rfl rfl rfl (l_xv cl_11_322 ko_mX1_regionOfPixel rfl rfl rfl q7) rfl rfl nm_mX1_regionOfPixel (xhE_th rfl) (fun v9 h8 => ?_)
          exact l_iretn dX12_regionAt_48 rfl (by rfl)
        · exact l_thw dX12_regionAt_28 dX12_regionAt_31 dX12_regionAt_32 dX12_regionAt_35 dX12_regionAt_38 rfl rfl rfl rfl rfl
set_option maxRecDepth 16000 in
theorem w_X12_regionLeft (S : xS) (x0 : Nat) (x1 : Int32) (h : xH) : xle (if xOb h x0 11 = true then xqR (xM S mX12_regionOf [.ref x0, .int x1] h) xth fun v3 h2 => (xGi h2 v3 7 2).bind fun v4 => some (.inl (some (.int v4)), h2, 0, 0) else none) (xM S mX12_regionLeft [.ref x0, .int x1] h) := by
  show xle _ (xden S mX12_regionLeft 0 [(0, .ref x0), (1, .int x1)] [] h)
  refine l_loc dX12_regionLeft_0 rfl rfl ?_
  refine l_loc dX12_regionLeft_1 rfl rfl ?_
  refine l_ob fun q1 => ?_
  refine l_cR dX12_regionLeft_2 rfl rfl rfl (l_xv cl_11_325 ko_mX12_regionOf rfl rfl rfl q1) rfl rfl nm_mX12_regionOf (xhE_th rfl) (fun v3 h2 => ?_)
  refine l_gi dX12_regionLeft_5 fl_11_329 (fun v4 => ?_)
  exact l_iretn dX12_regionLeft_8 rfl (by rfl)
set_option maxRecDepth 16000 in
theorem w_X12_regionOf (S : xS) (x0 : Nat) (x1 : Int32) (h : xH) : xle (if xOb h x0 11 = true then xqV (xM S mX12_requireComparison [.ref x0] h) xth fun h2 => (xGr h2 x0 11 11).bind fun v4 => if xOb h2 v4 1 = true then xqN (xM S mX1_regionNumbered [.ref v4, .int x1] h2) xth (fun h6 => some (.inr "java/lang/IndexOutOfBoundsException", h6, 1, 6)) (fun v7 h6 => some (.inl (some (.ref v7)), h6, 0, 0)) else none else none) (xM S mX12_regionOf [.ref x0, .int x1] h) := by
  show xle _ (xden S mX12_regionOf 0 [(0, .ref x0), (1, .int x1)] [] h)
  refine l_loc dX12_regionOf_0 rfl rfl ?_
  refine l_ob fun q1 => ?_
  refine l_cV dX12_regionOf_1 rfl rfl rfl (l_xv cl_11_303 ko_mX12_requireComparison rfl rfl rfl q1) rfl rfl nm_mX12_requireComparison (xhE_th rfl) (fun h2 => ?_)
  refine l_loc dX12_regionOf_4 rfl rfl ?_
  refine l_gr dX12_regionOf_5 fl_11_81 (fun v4 => ?_)
  refine l_loc dX12_regionOf_8 rfl rfl ?_
  refine l_ob fun q5 => ?_
  refine l_cN dX12_regionOf_9 rfl rfl rfl (l_xv cl_11_418 ko_mX1_regionNumbered rfl rfl rfl q5) rfl rfl nm_mX1_regionNumbered (xhE_th rfl) (fun h6 => ?_) (fun v7 h6 => ?_)
  · refine l_loc (al1 := [(2, .null), (0, .ref x0), (1, .int x1)]) dX12_regionOf_12 rfl rfl ?_
    refine l_loc dX12_regionOf_13 rfl rfl ?_
    refine l_nnulN dX12_regionOf_14 ?_
    exact l_thw dX12_regionOf_17 dX12_regionOf_20 dX12_regionOf_21 dX12_regionOf_24 dX12_regionOf_27 rfl rfl rfl rfl rfl
  · refine l_loc (al1 := [(2, .ref v7), (0, .ref x0), (1, .int x1)]) dX12_regionOf_12 rfl rfl ?_
    refine l_loc dX12_regionOf_13 rfl rfl ?_
    refine l_nnulR (t := 28) dX12_regionOf_14 rfl ?_
    refine l_loc dX12_regionOf_28 rfl rfl ?_
    exact l_end dX12_regionOf_29 rfl rfl
set_option maxRecDepth 16000 in
theorem w_X12_regionTop (S : xS) (x0 : Nat) (x1 : Int32) (h : xH) : xle (if xOb h x0 11 = true then xqR (xM S mX12_regionOf [.ref x0, .int x1] h) xth fun v3 h2 => (xGi h2 v3 7 3).bind fun v4 => some (.inl (some (.int v4)), h2, 0, 0) else none) (xM S mX12_regionTop [.ref x0, .int x1] h) := by
  show xle _ (xden S mX12_regionTop 0 [(0, .ref x0), (1, .int x1)] [] h)
  refine l_loc dX12_regionTop_0 rfl rfl ?_
  refine l_loc dX12_regionTop_1 rfl rfl ?_
  refine l_ob fun q1 => ?_
  refine l_cR dX12_regionTop_2 rfl rfl rfl (l_xv cl_11_325 ko_mX12_regionOf rfl rfl rfl q1) rfl rfl nm_mX12_regionOf (xhE_th rfl) (fun v3 h2 => ?_)
  refine l_gi dX12_regionTop_5 fl_11_334 (fun v4 => ?_)
  exact l_iretn dX12_regionTop_8 rfl (by rfl)
set_option maxRecDepth 16000 in
theorem w_X12_regionRight (S : xS) (x0 : Nat) (x1 : Int32) (h : xH) : xle (if xOb h x0 11 = true then xqR (xM S mX12_regionOf [.ref x0, .int x1] h) xth fun v3 h2 => (xGi h2 v3 7 4).bind fun v4 => some (.inl (some (.int v4)), h2, 0, 0) else none) (xM S mX12_regionRight [.ref x0, .int x1] h) := by
  show xle _ (xden S mX12_regionRight 0 [(0, .ref x0), (1, .int x1)] [] h)
  refine l_loc dX12_regionRight_0 rfl rfl ?_
  refine l_loc dX12_regionRight_1 rfl rfl ?_
  refine l_ob fun q1 => ?_
  refine l_cR dX12_regionRight_2 rfl rfl rfl (l_xv cl_11_325 ko_mX12_regionOf rfl rfl rfl q1) rfl rfl nm_mX12_regionOf (xhE_th rfl) (fun v3 h2 => ?_)
  refine l_gi dX12_regionRight_5 fl_11_337 (fun v4 => ?_)
  exact l_iretn dX12_regionRight_8 rfl (by rfl)
set_option maxRecDepth 16000 in
theorem w_X12_regionBottom (S : xS) (x0 : Nat) (x1 : Int32) (h : xH) : xle (if xOb h x0 11 = true then xqR (xM S mX12_regionOf [.ref x0, .int x1] h) xth fun v3 h2 => (xGi h2 v3 7 5).bind fun v4 => some (.inl (some (.int v4)), h2, 0, 0) else none) (xM S mX12_regionBottom [.ref x0, .int x1] h) := by
  show xle _ (xden S mX12_regionBottom 0 [(0, .ref x0), (1, .int x1)] [] h)
  refine l_loc dX12_regionBottom_0 rfl rfl ?_
  refine l_loc dX12_regionBottom_1 rfl rfl ?_
  refine l_ob fun q1 => ?_
  refine l_cR dX12_regionBottom_2 rfl rfl rfl (l_xv cl_11_325 ko_mX12_regionOf rfl rfl rfl q1) rfl rfl nm_mX12_regionOf (xhE_th rfl) (fun v3 h2 => ?_)
  refine l_gi dX12_regionBottom_5 fl_11_340 (fun v4 => ?_)
  exact l_iretn dX12_regionBottom_8 rfl (by rfl)
set_option maxRecDepth 16000 in
theorem w_X12_missingPixels (S : xS) (x0 : Nat) (x1 : Int32) (h : xH) : xle (if xOb h x0 11 = true then xqR (xM S mX12_regionOf [.ref x0, .int x1] h) xth fun v3 h2 => (xGr h2 v3 7 0).bind fun v4 => (xGi h2 v4 5 6).bind fun v5 => some (.inl (some (.int v5)), h2, 0, 0) else none) (xM S mX12_missingPixels [.ref x0, .int x1] h) := by
  show xle _ (xden S mX12_missingPixels 0 [(0, .ref x0), (1, .int x1)] [] h)
  refine l_loc dX12_missingPixels_0 rfl rfl ?_
  refine l_loc dX12_missingPixels_1 rfl rfl ?_
  refine l_ob fun q1 => ?_
  refine l_cR dX12_missingPixels_2 rfl rfl rfl (l_xv cl_11_325 ko_mX12_regionOf rfl rfl rfl q1) rfl rfl nm_mX12_regionOf (xhE_th rfl) (fun v3 h2 => ?_)
  refine l_gr dX12_missingPixels_5 fl_11_343 (fun v4 => ?_)
  refine l_gi dX12_missingPixels_8 fl_11_347 (fun v5 => ?_)
  exact l_iretn dX12_missingPixels_11 rfl (by rfl)
set_option maxRecDepth 16000 in
theorem w_X12_addedPixels (S : xS) (x0 : Nat) (x1 : Int32) (h : xH) : xle (if xOb h x0 11 = true then xqR (xM S mX12_regionOf [.ref x0, .int x1] h) xth fun v3 h2 => (xGr h2 v3 7 1).bind fun v4 => (xGi h2 v4 5 6).bind fun v5 => some (.inl (some (.int v5)), h2, 0, 0) else none) (xM S mX12_addedPixels [.ref x0, .int x1] h) := by
  show xle _ (xden S mX12_addedPixels 0 [(0, .ref x0), (1, .int x1)] [] h)
  refine l_loc dX12_addedPixels_0 rfl rfl ?_
  refine l_loc dX12_addedPixels_1 rfl rfl ?_
  refine l_ob fun q1 => ?_
  refine l_cR dX12_addedPixels_2 rfl rfl rfl (l_xv cl_11_325 ko_mX12_regionOf rfl rfl rfl q1) rfl rfl nm_mX12_regionOf (xhE_th rfl) (fun v3 h2 => ?_)
  refine l_gr dX12_addedPixels_5 fl_11_352 (fun v4 => ?_)
  refine l_gi dX12_addedPixels_8 fl_11_347 (fun v5 => ?_)
  exact l_iretn dX12_addedPixels_11 rfl (by rfl)
set_option maxRecDepth 16000 in
theorem w_X12_changes (S : xS) (x0 : Nat) (h : xH) : xle (if xOb h x0 11 = true then xqV (xM S mX12_requireComparison [.ref x0] h) xth fun h2 => (xGr h2 x0 11 11).bind fun v4 => (xGi h2 v4 1 19).bind fun v5 => some (.inl (some (.int v5)), h2, 0, 0) else none) (xM S mX12_changes [.ref x0] h) := by
  show xle _ (xden S mX12_changes 0 [(0, .ref x0)] [] h)
  refine l_loc dX12_changes_0 rfl rfl ?_
  refine l_ob fun q1 => ?_
  refine l_cV dX12_changes_1 rfl rfl rfl (l_xv cl_11_303 ko_mX12_requireComparison rfl rfl rfl q1) rfl rfl nm_mX12_requireComparison (xhE_th rfl) (fun h2 => ?_)
  refine l_loc dX12_changes_4 rfl rfl ?_
  refine l_gr dX12_changes_5 fl_11_81 (fun v4 => ?_)
  refine l_gi dX12_changes_8 fl_11_270 (fun v5 => ?_)
  exact l_iretn dX12_changes_11 rfl (by rfl)
set_option maxRecDepth 16000 in
theorem w_X12_changeKind (S : xS) (x0 : Nat) (x1 : Int32) (h : xH) : xle (if xOb h x0 11 = true then xqR (xM S mX12_changeOf [.ref x0, .int x1] h) xth fun v3 h2 => if xOb h2 v3 5 = true then xqI (xM S mX5_kind [.ref v3] h2) xth fun v6 h5 => some (.inl (some (.int v6)), h5, 0, 0) else none else none) (xM S mX12_changeKind [.ref x0, .int x1] h) := by
  show xle _ (xden S mX12_changeKind 0 [(0, .ref x0), (1, .int x1)] [] h)
  refine l_loc dX12_changeKind_0 rfl rfl ?_
  refine l_loc dX12_changeKind_1 rfl rfl ?_
  refine l_ob fun q1 => ?_
  refine l_cR dX12_changeKind_2 rfl rfl rfl (l_xv cl_11_355 ko_mX12_changeOf rfl rfl rfl q1) rfl rfl nm_mX12_changeOf (xhE_th rfl) (fun v3 h2 => ?_)
  refine l_ob fun q4 => ?_
  refine l_cI dX12_changeKind_5 rfl rfl rfl (l_xv cl_11_359 ko_mX5_kind rfl rfl rfl q4) rfl rfl nm_mX5_kind (xhE_th rfl) (fun v6 h5 => ?_)
  exact l_iretn dX12_changeKind_8 rfl (by rfl)
set_option maxRecDepth 16000 in
theorem w_X12_changeOf (S : xS) (x0 : Nat) (x1 : Int32) (h : xH) : xle (if xOb h x0 11 = true then xqV (xM S mX12_requireComparison [.ref x0] h) xth fun h2 => (xGr h2 x0 11 11).bind fun v4 => if xOb h2 v4 1 = true then xqN (xM S mX1_changeNumbered [.ref v4, .int x1] h2) xth (fun h6 => some (.inr "java/lang/IndexOutOfBoundsException", h6, 1, 6)) (fun v7 h6 => some (.inl (some (.ref v7)), h6, 0, 0)) else none else none) (xM S mX12_changeOf [.ref x0, .int x1] h) := by
  show xle _ (xden S mX12_changeOf 0 [(0, .ref x0), (1, .int x1)] [] h)
  refine l_loc dX12_changeOf_0 rfl rfl ?_
  refine l_ob fun q1 => ?_
  refine l_cV dX12_changeOf_1 rfl rfl rfl (l_xv cl_11_303 ko_mX12_requireComparison rfl rfl rfl q1) rfl rfl nm_mX12_requireComparison (xhE_th rfl) (fun h2 => ?_)
  refine l_loc dX12_changeOf_4 rfl rfl ?_
  refine l_gr dX12_changeOf_5 fl_11_81 (fun v4 => ?_)
  refine l_loc dX12_changeOf_8 rfl rfl ?_
  refine l_ob fun q5 => ?_
  refine l_cN dX12_changeOf_9 rfl rfl rfl (l_xv cl_11_423 ko_mX1_changeNumbered rfl rfl rfl q5) rfl rfl nm_mX1_changeNumbered (xhE_th rfl) (fun h6 => ?_) (fun v7 h6 => ?_)
  · refine l_loc (al1 := [(2, .null), (0, .ref x0), (1, .int x1)]) dX12_changeOf_12 rfl rfl ?_
    refine l_loc dX12_changeOf_13 rfl rfl ?_
    refine l_nnulN dX12_changeOf_14 ?_
    exact l_thw dX12_changeOf_17 dX12_changeOf_20 dX12_changeOf_21 dX12_changeOf_24 dX12_changeOf_27 rfl rfl rfl rfl rfl
  · refine l_loc (al1 := [(2, .ref v7), (0, .ref x0), (1, .int x1)]) dX12_changeOf_12 rfl rfl ?_
    refine l_loc dX12_changeOf_13 rfl rfl ?_
    refine l_nnulR (t := 28) dX12_changeOf_14 rfl ?_
    refine l_loc dX12_changeOf_28 rfl rfl ?_
    exact l_end dX12_changeOf_29 rfl rfl
set_option maxRecDepth 16000 in
theorem w_X12_changeRegion (S : xS) (x0 : Nat) (x1 : Int32) (h : xH) : xle (if xOb h x0 11 = true then xqR (xM S mX12_changeOf [.ref x0, .int x1] h) xth fun v3 h2 => (xGi h2 v3 5 7).bind fun v4 => some (.inl (some (.int v4)), h2, 0, 0) else none) (xM S mX12_changeRegion [.ref x0, .int x1] h) := by
  show xle _ (xden S mX12_changeRegion 0 [(0, .ref x0), (1, .int x1)] [] h)
  refine l_loc dX12_changeRegion_0 rfl rfl ?_
  refine l_loc dX12_changeRegion_1 rfl rfl ?_
  refine l_ob fun q1 => ?_
  refine l_cR dX12_changeRegion_2 rfl rfl rfl (l_xv cl_11_355 ko_mX12_changeOf rfl rfl rfl q1) rfl rfl nm_mX12_changeOf (xhE_th rfl) (fun v3 h2 => ?_)
  refine l_gi dX12_changeRegion_5 fl_11_362 (fun v4 => ?_)
  exact l_iretn dX12_changeRegion_8 rfl (by rfl)
set_option maxRecDepth 16000 in
theorem w_X12_changeTarget (S : xS) (x0 : Nat) (x1 : Int32) (h : xH) : xle (if xOb h x0 11 = true then xqR (xM S mX12_changeOf [.ref x0, .int x1] h) xth fun v3 h2 => (xGn h2 v3 5 8).bind (xon (some (.inl (some (.int (-1 : Int32))), h2, 0, 0)) (fun v4 => (xGi h2 v4 5 7).bind fun v5 => some (.inl (some (.int v5)), h2, 0, 0))) else none) (xM S mX12_changeTarget [.ref x0, .int x1] h) := by
  show xle _ (xden S mX12_changeTarget 0 [(0, .ref x0), (1, .int x1)] [] h)
  refine l_loc dX12_changeTarget_0 rfl rfl ?_
  refine l_loc dX12_changeTarget_1 rfl rfl ?_
  refine l_ob fun q1 => ?_
  refine l_cR dX12_changeTarget_2 rfl rfl rfl (l_xv cl_11_355 ko_mX12_changeOf rfl rfl rfl q1) rfl rfl nm_mX12_changeOf (xhE_th rfl) (fun v3 h2 => ?_)
  refine l_gn dX12_changeTarget_5 fl_11_365 ?_ (fun v4 => ?_)
  · refine l_loc (al1 := [(2, .null), (0, .ref x0), (1, .int x1)]) dX12_changeTarget_8 rfl rfl ?_
    refine l_loc dX12_changeTarget_9 rfl rfl ?_
    refine l_nnulN dX12_changeTarget_10 ?_
    refine l_ic dX12_changeTarget_13 kI_m1 ?_
    refine l_goto (t := 21) dX12_changeTarget_14 rfl ?_
    exact l_iretn dX12_changeTarget_21 rfl (by rfl)
  · refine l_loc (al1 := [(2, .ref v4), (0, .ref x0), (1, .int x1)]) dX12_changeTarget_8 rfl rfl ?_
    refine l_loc dX12_changeTarget_9 rfl rfl ?_
    refine l_nnulR (t := 17) dX12_changeTarget_10 rfl ?_
    refine l_loc dX12_changeTarget_17 rfl rfl ?_
    refine l_gi dX12_changeTarget_18 fl_11_362 (fun v5 => ?_)
    exact l_iretn dX12_changeTarget_21 rfl (by rfl)
set_option maxRecDepth 16000 in
theorem w_X12_moveX (S : xS) (x0 : Nat) (x1 : Int32) (h : xH) : xle (if xOb h x0 11 = true then xqR (xM S mX12_changeOf [.ref x0, .int x1] h) xth fun v3 h2 => (xGn h2 v3 5 8).bind (xon (some (.inl (some (.int (0 : Int32))), h2, 0, 0)) (fun v4 => (xGi h2 v4 5 2).bind fun v5 => (xGi h2 v3 5 2).bind fun v6 => some (.inl (some (.int (v5 - v6))), h2, 0, 0))) else none) (xM S mX12_moveX [.ref x0, .int x1] h) := by
  show xle _ (xden S mX12_moveX 0 [(0, .ref x0), (1, .int x1)] [] h)
  refine l_loc dX12_moveX_0 rfl rfl ?_
  refine l_loc dX12_moveX_1 rfl rfl ?_
  refine l_ob fun q1 => ?_
  refine l_cR dX12_moveX_2 rfl rfl rfl (l_xv cl_11_355 ko_mX12_changeOf rfl rfl rfl q1) rfl rfl nm_mX12_changeOf (xhE_th rfl) (fun v3 h2 => ?_)
  refine l_loc (al1 := [(2, .ref v3), (0, .ref x0), (1, .int x1)]) dX12_moveX_5 rfl rfl ?_
  refine l_loc dX12_moveX_6 rfl rfl ?_
  refine l_gn dX12_moveX_7 fl_11_365 ?_ (fun v4 => ?_)
  · refine l_loc (al1 := [(3, .null), (2, .ref v3), (0, .ref x0), (1, .int x1)]) dX12_moveX_10 rfl rfl ?_
    refine l_loc dX12_moveX_11 rfl rfl ?_
    refine l_nnulN dX12_moveX_12 ?_
    refine l_ic dX12_moveX_15 kI_0 ?_
    refine l_goto (t := 28) dX12_moveX_16 rfl ?_
    exact l_iretn dX12_moveX_28 rfl (by rfl)
  · refine l_loc (al1 := [(3, .ref v4), (2, .ref v3), (0, .ref x0), (1, .int x1)]) dX12_moveX_10 rfl rfl ?_
    refine l_loc dX12_moveX_11 rfl rfl ?_
    refine l_nnulR (t := 19) dX12_moveX_12 rfl ?_
    refine l_loc dX12_moveX_19 rfl rfl ?_
    refine l_gi dX12_moveX_20 fl_11_368 (fun v5 => ?_)
    refine l_loc dX12_moveX_23 rfl rfl ?_
    refine l_gi dX12_moveX_24 fl_11_368 (fun v6 => ?_)
    refine l_pure dX12_moveX_27 rfl rfl ?_
    exact l_iretn dX12_moveX_28 rfl (by rfl)
set_option maxRecDepth 16000 in
theorem w_X12_moveY (S : xS) (x0 : Nat) (x1 : Int32) (h : xH) : xle (if xOb h x0 11 = true then xqR (xM S mX12_changeOf [.ref x0, .int x1] h) xth fun v3 h2 => (xGn h2 v3 5 8).bind (xon (some (.inl (some (.int (0 : Int32))), h2, 0, 0)) (fun v4 => (xGi h2 v4 5 3).bind fun v5 => (xGi h2 v3 5 3).bind fun v6 => some (.inl (some (.int (v5 - v6))), h2, 0, 0))) else none) (xM S mX12_moveY [.ref x0, .int x1] h) := by
  show xle _ (xden S mX12_moveY 0 [(0, .ref x0), (1, .int x1)] [] h)
  refine l_loc dX12_moveY_0 rfl rfl ?_
  refine l_loc dX12_moveY_1 rfl rfl ?_
  refine l_ob fun q1 => ?_
  refine l_cR dX12_moveY_2 rfl rfl rfl (l_xv cl_11_355 ko_mX12_changeOf rfl rfl rfl q1) rfl rfl nm_mX12_changeOf (xhE_th rfl) (fun v3 h2 => ?_)
  refine l_loc (al1 := [(2, .ref v3), (0, .ref x0), (1, .int x1)]) dX12_moveY_5 rfl rfl ?_
  refine l_loc dX12_moveY_6 rfl rfl ?_
  refine l_gn dX12_moveY_7 fl_11_365 ?_ (fun v4 => ?_)
  · refine l_loc (al1 := [(3, .null), (2, .ref v3), (0, .ref x0), (1, .int x1)]) dX12_moveY_10 rfl rfl ?_
    refine l_loc dX12_moveY_11 rfl rfl ?_
    refine l_nnulN dX12_moveY_12 ?_
    refine l_ic dX12_moveY_15 kI_0 ?_
    refine l_goto (t := 28) dX12_moveY_16 rfl ?_
    exact l_iretn dX12_moveY_28 rfl (by rfl)
  · refine l_loc (al1 := [(3, .ref v4), (2, .ref v3), (0, .ref x0), (1, .int x1)]) dX12_moveY_10 rfl rfl ?_
    refine l_loc dX12_moveY_11 rfl rfl ?_
    refine l_nnulR (t := 19) dX12_moveY_12 rfl ?_
    refine l_loc dX12_moveY_19 rfl rfl ?_
    refine l_gi dX12_moveY_20 fl_11_369 (fun v5 => ?_)
    refine l_loc dX12_moveY_23 rfl rfl ?_
    refine l_gi dX12_moveY_24 fl_11_369 (fun v6 => ?_)
    refine l_pure dX12_moveY_27 rfl rfl ?_
    exact l_iretn dX12_moveY_28 rfl (by rfl)
set_option maxRecDepth 16000 in
theorem w_X12_changePixels (S : xS) (x0 : Nat) (x1 : Int32) (h : xH) : xle (if xOb h x0 11 = true then xqR (xM S mX12_changeOf [.ref x0, .int x1] h) xth fun v3 h2 => (xGi h2 v3 5 6).bind fun v4 => some (.inl (some (.int v4)), h2, 0, 0) else none) (xM S mX12_changePixels [.ref x0, .int x1] h) := by
  show xle _ (xden S mX12_changePixels 0 [(0, .ref x0), (1, .int x1)] [] h)
  refine l_loc dX12_changePixels_0 rfl rfl ?_
  refine l_loc dX12_changePixels_1 rfl rfl ?_
  refine l_ob fun q1 => ?_
  refine l_cR dX12_changePixels_2 rfl rfl rfl (l_xv cl_11_355 ko_mX12_changeOf rfl rfl rfl q1) rfl rfl nm_mX12_changeOf (xhE_th rfl) (fun v3 h2 => ?_)
  refine l_gi dX12_changePixels_5 fl_11_347 (fun v4 => ?_)
  exact l_iretn dX12_changePixels_8 rfl (by rfl)
set_option maxRecDepth 16000 in
theorem w_X12_changeLine (S : xS) (x0 : Nat) (x1 : Int32) (h : xH) : xle (if xOb h x0 11 = true then xqR (xM S mX12_changeOf [.ref x0, .int x1] h) xth fun v3 h2 => (xGi h2 v3 5 9).bind fun v4 => some (.inl (some (.int v4)), h2, 0, 0) else none) (xM S mX12_changeLine [.ref x0, .int x1] h) := by
  show xle _ (xden S mX12_changeLine 0 [(0, .ref x0), (1, .int x1)] [] h)
  refine l_loc dX12_changeLine_0 rfl rfl ?_
  refine l_loc dX12_changeLine_1 rfl rfl ?_
  refine l_ob fun q1 => ?_
  refine l_cR dX12_changeLine_2 rfl rfl rfl (l_xv cl_11_355 ko_mX12_changeOf rfl rfl rfl q1) rfl rfl nm_mX12_changeOf (xhE_th rfl) (fun v3 h2 => ?_)
  refine l_gi dX12_changeLine_5 fl_11_370 (fun v4 => ?_)
  exact l_iretn dX12_changeLine_8 rfl (by rfl)
set_option maxRecDepth 16000 in
theorem w_X12_reportChar (S : xS) (x0 : Nat) (x1 : Int32) (h : xH) : xle (if xOb h x0 11 = true then xqV (xM S mX12_requireComparison [.ref x0] h) xth fun h2 => if 0 ≤ x1 then ((xGr h2 x0 11 13).bind fun v4 => if xOb h2 v4 6 = true then xqV (xM S mX6_seek [.ref v4, .int x1] h2) xth fun h6 => (xGr h6 x0 11 11).bind fun v8 => (xGr h6 x0 11 13).bind fun v9 => if xOb h6 v8 1 = true then xqV (xM S mX1_report [.ref v8, .ref v9] h6) xth fun h11 => (xGr h11 x0 11 13).bind fun v13 => if xOb h11 v13 6 = true then xqI (xM S mX6_found [.ref v13] h11) xth fun v16 h15 => some (.inl (some (.int v16)), h15, 0, 0) else none else none else none) else (some (.inr "java/lang/IndexOutOfBoundsException", h2, 1, 6)) else none) (xM S mX12_reportChar [.ref x0, .int x1] h) := by
  show xle _ (xden S mX12_reportChar 0 [(0, .ref x0), (1, .int x1)] [] h)
  refine l_loc dX12_reportChar_0 rfl rfl ?_
  refine l_ob fun q1 => ?_
  refine l_cV dX12_reportChar_1 rfl rfl rfl (l_xv cl_11_303 ko_mX12_requireComparison rfl rfl rfl q1) rfl rfl nm_mX12_requireComparison (xhE_th rfl) (fun h2 => ?_)
  refine l_loc dX12_reportChar_4 rfl rfl ?_
  refine l_ige (t := 18) dX12_reportChar_5 rfl ?_ ?_
  · refine l_loc dX12_reportChar_18 rfl rfl ?_
    refine l_gr dX12_reportChar_19 fl_11_88 (fun v4 => ?_)
    refine l_loc dX12_reportChar_22 rfl rfl ?_
    refine l_ob fun q5 => ?_
    refine l_cV dX12_reportChar_23 rfl rfl rfl (l_xv cl_11_229 ko_mX6_seek rfl rfl rfl q5) rfl rfl nm_mX6_seek (xhE_th rfl) (fun h6 => ?_)
    refine l_loc dX12_reportChar_26 rfl rfl ?_
    refine l_gr dX12_reportChar_27 fl_11_81 (fun v8 => ?_)
    refine l_loc dX12_reportChar_30 rfl rfl ?_
    refine l_gr dX12_reportChar_31 fl_11_88 (fun v9 => ?_)
    refine l_ob fun q10 => ?_
    refine l_cV dX12_reportChar_34 rfl rfl rfl (l_xv cl_11_373 ko_mX1_report rfl rfl rfl q10) rfl rfl nm_mX1_report (xhE_th rfl) (fun h11 => ?_)
    refine l_loc dX12_reportChar_37 rfl rfl ?_
    refine l_gr dX12_reportChar_38 fl_11_88 (fun v13 => ?_)
    refine l_ob fun q14 => ?_
    refine l_cI dX12_reportChar_41 rfl rfl rfl (l_xv cl_11_236 ko_mX6_found rfl rfl rfl q14) rfl rfl nm_mX6_found (xhE_th rfl) (fun v16 h15 => ?_)
    exact l_iretn dX12_reportChar_44 rfl (by rfl)
  · exact l_thr dX12_reportChar_8 dX12_reportChar_11 dX12_reportChar_12 dX12_reportChar_14 dX12_reportChar_17 rfl rfl rfl rfl rfl
set_option maxRecDepth 16000 in
theorem w_X12_learn (S : xS) (x0 : Nat) (x1 : Int32) (h : xH) : xle ((xGi h x0 11 12).bind fun v1 => if ¬ v1 = 0 then (if xOb h x0 11 = true then xqR (xM S mX12_changeOf [.ref x0, .int x1] h) xth fun v4 h3 => (xGr h3 x0 11 10).bind fun v5 => if xOb h3 v5 9 = true then xqI (xM S mX10_numberOf [.ref v5, .ref v4] h3) xth fun v8 h7 => if v8 < 0 then ((xGr h7 x0 11 10).bind fun v9 => if xOb h7 v9 9 = true then xqI (xM S mX10_isFull [.ref v9] h7) xth fun v12 h11 => if v12 = 0 then ((xGr h11 x0 11 10).bind fun v13 => if xOb h11 v13 9 = true then xqI (xM S mX10_add [.ref v13, .ref v4] h11) xth fun v16 h15 => some (.inl (some (.int v16)), h15, 0, 0) else none) else (some (.inr "java/lang/IllegalStateException", h11, 1, 6)) else none) else (some (.inl (some (.int v8)), h7, 0, 0)) else none else none) else (some (.inr "java/lang/IndexOutOfBoundsException", h, 1, 6))) (xM S mX12_learn [.ref x0, .int x1] h) := by
  show xle _ (xden S mX12_learn 0 [(0, .ref x0), (1, .int x1)] [] h)
  refine l_loc dX12_learn_0 rfl rfl ?_
  refine l_gi dX12_learn_1 fl_11_266 (fun v1 => ?_)
  refine l_ine (t := 18) dX12_learn_4 rfl ?_ ?_
  · refine l_loc dX12_learn_18 rfl rfl ?_
    refine l_loc dX12_learn_19 rfl rfl ?_
    refine l_ob fun q2 => ?_
    refine l_cR dX12_learn_20 rfl rfl rfl (l_xv cl_11_355 ko_mX12_changeOf rfl rfl rfl q2) rfl rfl nm_mX12_changeOf (xhE_th rfl) (fun v4 h3 => ?_)
    refine l_loc (al1 := [(2, .ref v4), (0, .ref x0), (1, .int x1)]) dX12_learn_23 rfl rfl ?_
    refine l_loc dX12_learn_24 rfl rfl ?_
    refine l_gr dX12_learn_25 fl_11_74 (fun v5 => ?_)
    refine l_loc dX12_learn_28 rfl rfl ?_
    refine l_ob fun q6 => ?_
    refine l_cI dX12_learn_29 rfl rfl rfl (l_xv cl_11_378 ko_mX10_numberOf rfl rfl rfl q6) rfl rfl nm_mX10_numberOf (xhE_th rfl) (fun v8 h7 => ?_)
    refine l_loc (al1 := [(3, .int v8), (2, .ref v4), (0, .ref x0), (1, .int x1)]) dX12_learn_32 rfl rfl ?_
    refine l_loc dX12_learn_33 rfl rfl ?_
    refine l_ilt (t := 39) dX12_learn_34 rfl ?_ ?_
    · refine l_loc dX12_learn_39 rfl rfl ?_
      refine l_gr dX12_learn_40 fl_11_74 (fun v9 => ?_)
      refine l_ob fun q10 => ?_
      refine l_cI dX12_learn_43 rfl rfl rfl (l_xv cl_11_382 ko_mX10_isFull rfl rfl rfl q10) rfl rfl nm_mX10_isFull (xhE_th rfl) (fun v12 h11 => ?_)
      refine l_ieq (t := 60) dX12_learn_46 rfl ?_ ?_
      · refine l_loc dX12_learn_60 rfl rfl ?_
        refine l_gr dX12_learn_61 fl_11_74 (fun v13 => ?_)
        refine l_loc dX12_learn_64 rfl rfl ?_
        refine l_ob fun q14 => ?_
        refine l_cI dX12_learn_65 rfl rfl rfl (l_xv cl_11_385 ko_mX10_add rfl rfl rfl q14) rfl rfl nm_mX10_add (xhE_th rfl) (fun v16 h15 => ?_)
        exact l_iretn dX12_learn_68 rfl (by rfl)
      · exact l_thw dX12_learn_49 dX12_learn_52 dX12_learn_53 dX12_learn_56 dX12_learn_59 rfl rfl rfl rfl rfl
    · refine l_loc dX12_learn_37 rfl rfl ?_
      exact l_iretn dX12_learn_38 rfl (by rfl)
  · exact l_thw dX12_learn_7 dX12_learn_10 dX12_learn_11 dX12_learn_14 dX12_learn_17 rfl rfl rfl rfl rfl
set_option maxRecDepth 16000 in
theorem w_X12_stampOf (S : xS) (x0 : Nat) (x1 : Int32) (h : xH) : xle ((xGr h x0 11 10).bind fun v1 => if xOb h x0 11 = true then xqR (xM S mX12_changeOf [.ref x0, .int x1] h) xth fun v4 h3 => if xOb h3 v1 9 = true then xqI (xM S mX10_numberOf [.ref v1, .ref v4] h3) xth fun v7 h6 => some (.inl (some (.int v7)), h6, 0, 0) else none else none) (xM S mX12_stampOf [.ref x0, .int x1] h) := by
  show xle _ (xden S mX12_stampOf 0 [(0, .ref x0), (1, .int x1)] [] h)
  refine l_loc dX12_stampOf_0 rfl rfl ?_
  refine l_gr dX12_stampOf_1 fl_11_74 (fun v1 => ?_)
  refine l_loc dX12_stampOf_4 rfl rfl ?_
  refine l_loc dX12_stampOf_5 rfl rfl ?_
  refine l_ob fun q2 => ?_
  refine l_cR dX12_stampOf_6 rfl rfl rfl (l_xv cl_11_355 ko_mX12_changeOf rfl rfl rfl q2) rfl rfl nm_mX12_changeOf (xhE_th rfl) (fun v4 h3 => ?_)
  refine l_ob fun q5 => ?_
  refine l_cI dX12_stampOf_9 rfl rfl rfl (l_xv cl_11_378 ko_mX10_numberOf rfl rfl rfl q5) rfl rfl nm_mX10_numberOf (xhE_th rfl) (fun v7 h6 => ?_)
  exact l_iretn dX12_stampOf_12 rfl (by rfl)
set_option maxRecDepth 16000 in
theorem w_X12_forgetStamp (S : xS) (x0 : Nat) (x1 : Int32) (h : xH) : xle (if x1 < 0 then (some (.inr "java/lang/IndexOutOfBoundsException", h, 1, 6)) else ((xGr h x0 11 10).bind fun v1 => (xGi h v1 9 1).bind fun v2 => if x1 < v2 then ((xGr h x0 11 10).bind fun v3 => if xOb h v3 9 = true then xqI (xM S mX10_drop [.ref v3, .int x1] h) xth fun v6 h5 => some (.inl (some (.int v6)), h5, 0, 0) else none) else (some (.inr "java/lang/IndexOutOfBoundsException", h, 1, 6)))) (xM S mX12_forgetStamp [.ref x0, .int x1] h) := by
  show xle _ (xden S mX12_forgetStamp 0 [(0, .ref x0), (1, .int x1)] [] h)
  refine l_loc dX12_forgetStamp_0 rfl rfl ?_
  refine l_ilt (t := 15) dX12_forgetStamp_1 rfl ?_ ?_
  · exact l_thw dX12_forgetStamp_15 dX12_forgetStamp_18 dX12_forgetStamp_19 dX12_forgetStamp_22 dX12_forgetStamp_25 rfl rfl rfl rfl rfl
  · refine l_loc dX12_forgetStamp_4 rfl rfl ?_
    refine l_loc dX12_forgetStamp_5 rfl rfl ?_
    refine l_gr dX12_forgetStamp_6 fl_11_74 (fun v1 => ?_)
    refine l_gi dX12_forgetStamp_9 fl_11_387 (fun v2 => ?_)
    refine l_clt (t := 26) dX12_forgetStamp_12 rfl ?_ ?_
    · refine l_loc dX12_forgetStamp_26 rfl rfl ?_
      refine l_gr dX12_forgetStamp_27 fl_11_74 (fun v3 => ?_)
      refine l_loc dX12_forgetStamp_30 rfl rfl ?_
      refine l_ob fun q4 => ?_
      refine l_cI dX12_forgetStamp_31 rfl rfl rfl (l_xv cl_11_392 ko_mX10_drop rfl rfl rfl q4) rfl rfl nm_mX10_drop (xhE_th rfl) (fun v6 h5 => ?_)
      exact l_iretn dX12_forgetStamp_34 rfl (by rfl)
    · exact l_thw dX12_forgetStamp_15 dX12_forgetStamp_18 dX12_forgetStamp_19 dX12_forgetStamp_22 dX12_forgetStamp_25 rfl rfl rfl rfl rfl
set_option maxRecDepth 16000 in
theorem w_X12_accept (S : xS) (x0 : Nat) (x1 : Int32) (h : xH) : xle (if xOb h x0 11 = true then xqR (xM S mX12_changeOf [.ref x0, .int x1] h) xth fun v3 h2 => (xGr h2 x0 11 2).bind fun v4 => (xRr h2 v4 (0 : Int32)).bind fun v5 => (xGr h2 x0 11 3).bind fun v6 => if xOb h2 v6 3 = true then xqR (xM S mX3_keep [.ref v6, .int (0 : Int32), .ref v5] h2) xth fun v9 h8 => if xOb h8 v5 4 = true then xqV (xM S mX4_stampPart [.ref v5, .ref v3] h8) xth fun h11 => (xGn h11 v3 5 8).bind (xon (if xOb h11 v5 4 = true then xqI (xM S mX4_differences [.ref v5, .ref v9] h11) xth fun v16 h15 => some (.inl (some (.int v16)), h15, 0, 0) else none) (fun v13 => (xGr h11 v3 5 8).bind fun v17 => if xOb h11 v5 4 = true then xqV (xM S mX4_stampPart [.ref v5, .ref v17] h11) xth fun h19 => if xOb h19 v5 4 = true then xqI (xM S mX4_differences [.ref v5, .ref v9] h19) xth fun v23 h22 => some (.inl (some (.int v23)), h22, 0, 0) else none else none)) else none else none else none) (xM S mX12_accept [.ref x0, .int x1] h) := by
  show xle _ (xden S mX12_accept 0 [(0, .ref x0), (1, .int x1)] [] h)
  refine l_loc dX12_accept_0 rfl rfl ?_
  refine l_loc dX12_accept_1 rfl rfl ?_
  refine l_ob fun q1 => ?_
  refine l_cR dX12_accept_2 rfl rfl rfl (l_xv cl_11_355 ko_mX12_changeOf rfl rfl rfl q1) rfl rfl nm_mX12_changeOf (xhE_th rfl) (fun v3 h2 => ?_)
  refine l_loc (al1 := [(2, .ref v3), (0, .ref x0), (1, .int x1)]) dX12_accept_5 rfl rfl ?_
  refine l_loc dX12_accept_6 rfl rfl ?_
  refine l_gr dX12_accept_7 fl_11_27 (fun v4 => ?_)
  refine l_ic dX12_accept_10 kI_0 ?_
  refine l_rr dX12_accept_11 (fun v5 => ?_)
  refine l_loc (al1 := [(3, .ref v5), (2, .ref v3), (0, .ref x0), (1, .int x1)]) dX12_accept_12 rfl rfl ?_
  refine l_loc dX12_accept_13 rfl rfl ?_
  refine l_gr dX12_accept_14 fl_11_37 (fun v6 => ?_)
  refine l_ic dX12_accept_17 kI_0 ?_
  refine l_loc dX12_accept_18 rfl rfl ?_
  refine l_ob fun q7 => ?_
  refine l_cR dX12_accept_19 rfl rfl rfl (l_xv cl_11_104 ko_mX3_keep rfl rfl rfl q7) rfl rfl nm_mX3_keep (xhE_th rfl) (fun v9 h8 => ?_)
  refine l_loc (al1 := [(4, .ref v9), (3, .ref v5), (2, .ref v3), (0, .ref x0), (1, .int x1)]) dX12_accept_22 rfl rfl ?_
  refine l_loc dX12_accept_24 rfl rfl ?_
  refine l_loc dX12_accept_25 rfl rfl ?_
  refine l_ob fun q10 => ?_
  refine l_cV dX12_accept_26 rfl rfl rfl (l_xv cl_11_395 ko_mX4_stampPart rfl rfl rfl q10) rfl rfl nm_mX4_stampPart (xhE_th rfl) (fun h11 => ?_)
  refine l_loc dX12_accept_29 rfl rfl ?_
  refine l_gn dX12_accept_30 fl_11_365 ?_ (fun v13 => ?_)
  · refine l_nullN (t := 44) dX12_accept_33 rfl ?_
    refine l_loc dX12_accept_44 rfl rfl ?_
    refine l_loc dX12_accept_45 rfl rfl ?_
    refine l_ob fun q14 => ?_
    refine l_cI dX12_accept_47 rfl rfl rfl (l_xv cl_11_112 ko_mX4_differences rfl rfl rfl q14) rfl rfl nm_mX4_differences (xhE_th rfl) (fun v16 h15 => ?_)
    exact l_iretn dX12_accept_50 rfl (by rfl)
  · refine l_nullR dX12_accept_33 ?_
    refine l_loc dX12_accept_36 rfl rfl ?_
    refine l_loc dX12_accept_37 rfl rfl ?_
    refine l_gr dX12_accept_38 fl_11_365 (fun v17 => ?_)
    refine l_ob fun q18 => ?_
    refine l_cV dX12_accept_41 rfl rfl rfl (l_xv cl_11_395 ko_mX4_stampPart rfl rfl rfl q18) rfl rfl nm_mX4_stampPart (xhE_th rfl) (fun h19 => ?_)
    refine l_loc dX12_accept_44 rfl rfl ?_
    refine l_loc dX12_accept_45 rfl rfl ?_
    refine l_ob fun q21 => ?_
    refine l_cI dX12_accept_47 rfl rfl rfl (l_xv cl_11_112 ko_mX4_differences rfl rfl rfl q21) rfl rfl nm_mX4_differences (xhE_th rfl) (fun v23 h22 => ?_)
    exact l_iretn dX12_accept_50 rfl (by rfl)
set_option maxRecDepth 16000 in
theorem w_X12_leastNoise (S : xS) (x0 : Nat) (x1 : Int32) (h : xH) : xle (if xOb h x0 11 = true then xqV (xM S mX12_requireComparison [.ref x0] h) xth fun h2 => if 0 ≤ x1 then ((xGr h2 x0 11 11).bind fun v4 => if xOb h2 v4 1 = true then xqI (xM S mX1_noiseFor [.ref v4, .int x1] h2) xth fun v7 h6 => some (.inl (some (.int v7)), h6, 0, 0) else none) else (some (.inr "java/lang/IllegalArgumentException", h2, 1, 6)) else none) (xM S mX12_leastNoise [.ref x0, .int x1] h) := by
  show xle _ (xden S mX12_leastNoise 0 [(0, .ref x0), (1, .int x1)] [] h)
  refine l_loc dX12_leastNoise_0 rfl rfl ?_
  refine l_ob fun q1 => ?_
  refine l_cV dX12_leastNoise_1 rfl rfl rfl (l_xv cl_11_303 ko_mX12_requireComparison rfl rfl rfl q1) rfl rfl nm_mX12_requireComparison (xhE_th rfl) (fun h2 => ?_)
  refine l_loc dX12_leastNoise_4 rfl rfl ?_
  refine l_ige (t := 19) dX12_leastNoise_5 rfl ?_ ?_
  · refine l_loc dX12_leastNoise_19 rfl rfl ?_
    refine l_gr dX12_leastNoise_20 fl_11_81 (fun v4 => ?_)
    refine l_loc dX12_leastNoise_23 rfl rfl ?_
    refine l_ob fun q5 => ?_
    refine l_cI dX12_leastNoise_24 rfl rfl rfl (l_xv cl_11_401 ko_mX1_noiseFor rfl rfl rfl q5) rfl rfl nm_mX1_noiseFor (xhE_th rfl) (fun v7 h6 => ?_)
    exact l_iretn dX12_leastNoise_27 rfl (by rfl)
  · exact l_thw dX12_leastNoise_8 dX12_leastNoise_11 dX12_leastNoise_12 dX12_leastNoise_15 dX12_leastNoise_18 rfl rfl rfl rfl rfl

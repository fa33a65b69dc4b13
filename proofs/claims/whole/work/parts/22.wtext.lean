/-! ROWS OF METHODS, by program (wip/whole/wp.py, wpemit.py): each method as an expression -/
set_option maxRecDepth 16000 in
theorem w_X0_init (S : xS) (x0 : Nat) (x1 : Int32) (x2 : Int32) (h : xH) : xle (if x0 < h.length then (xP true 0 h x0 0 0 (.int x2)).bind fun h1 => (xP true 0 h1 x0 0 1 (.int (x1 * x2))).bind fun h2 => xNa 1 (.inr (.inl (fun _ => 0))) x2 h2 fun a3 h4 => (xP true 0 h4 x0 0 2 (.ref a3)).bind fun h5 => xNa 1 (.inr (.inl (fun _ => 0))) x2 h5 fun a6 h7 => (xP true 0 h7 x0 0 3 (.ref a6)).bind fun h8 => some (.inl none, h8, 0, 0) else none) (xM S mX0_init [.ref x0, .int x1, .int x2] h) := by
  show xle _ (xden S mX0_init 0 [(0, .ref x0), (1, .int x1), (2, .int x2)] [] h)
  refine l_loc dX0_init_0 rfl rfl ?_
  refine l_obi dX0_init_1 rfl rfl rfl ?_
  refine l_loc dX0_init_4 rfl rfl ?_
  refine l_loc dX0_init_5 rfl rfl ?_
  refine l_pf dX0_init_6 fl_0_9 (ini := true) nm_mX0_init (fun h1 => ?_)
  refine l_loc dX0_init_9 rfl rfl ?_
  refine l_loc dX0_init_10 rfl rfl ?_
  refine l_loc dX0_init_11 rfl rfl ?_
  refine l_pure dX0_init_12 rfl rfl ?_
  refine l_pf dX0_init_13 fl_0_15 (ini := true) nm_mX0_init (fun h2 => ?_)
  refine l_loc dX0_init_16 rfl rfl ?_
  refine l_loc dX0_init_17 rfl rfl ?_
  refine l_nl dX0_init_18 (fun a3 h4 => ?_)
  refine l_pf dX0_init_20 fl_0_18 (ini := true) nm_mX0_init (fun h5 => ?_)
  refine l_loc dX0_init_23 rfl rfl ?_
  refine l_loc dX0_init_24 rfl rfl ?_
  refine l_nl dX0_init_25 (fun a6 h7 => ?_)
  refine l_pf dX0_init_27 fl_0_22 (ini := true) nm_mX0_init (fun h8 => ?_)
  exact l_end dX0_init_30 rfl rfl
set_option maxRecDepth 16000 in
theorem w_X11_init (S : xS) (x0 : Nat) (h : xH) : xle (if x0 < h.length then xNa 0 (.inl (fun _ => 0)) (80 : Int32) h fun a1 h2 => (xP true 10 h2 x0 10 0 (.ref a1)).bind fun h3 => some (.inl none, h3, 0, 0) else none) (xM S mX11_init [.ref x0] h) := by
  show xle _ (xden S mX11_init 0 [(0, .ref x0)] [] h)
  refine l_loc dX11_init_0 rfl rfl ?_
  refine l_obi dX11_init_1 rfl rfl rfl ?_
  refine l_loc dX11_init_4 rfl rfl ?_
  refine l_bi dX11_init_5 kB_80 ?_
  refine l_ni dX11_init_7 (fun a1 h2 => ?_)
  refine l_pf dX11_init_9 fl_10_9 (ini := true) nm_mX11_init (fun h3 => ?_)
  exact l_end dX11_init_12 rfl rfl
set_option maxRecDepth 16000 in
theorem w_X2_init (S : xS) (x0 : Nat) (h : xH) : xle (if x0 < h.length then xNa 0 (.inl (fun _ => 0)) (10 : Int32) h fun a2 h3 => (xP true 2 h3 x0 2 0 (.ref a2)).bind fun h4 => xNa 0 (.inl (fun _ => 0)) (10 : Int32) h4 fun a6 h7 => (xP true 2 h7 x0 2 1 (.ref a6)).bind fun h8 => xNa 0 (.inl (fun _ => 0)) (10 : Int32) h8 fun a10 h11 => (xP true 2 h11 x0 2 3 (.ref a10)).bind fun h12 => xNa 0 (.inl (fun _ => 0)) (10 : Int32) h12 fun a14 h15 => (xP true 2 h15 x0 2 4 (.ref a14)).bind fun h16 => (xden S mX2_init 46 [(0, .ref x0), (1, .int (0 : Int32))] [] h16) else none) (xM S mX2_init [.ref x0] h) := by
  show xle _ (xden S mX2_init 0 [(0, .ref x0)] [] h)
  refine l_loc dX2_init_0 rfl rfl ?_
  refine l_obi dX2_init_1 rfl rfl rfl ?_
  refine l_loc dX2_init_4 rfl rfl ?_
  refine l_rd (st1 := [.retAddr 10, .ref x0]) dX2_init_5 rfl rfl ?_
  refine l_rd (st1 := [.int (10 : Int32), .ref x0]) dX2_init_8 rfl rfl ?_
  refine l_ni dX2_init_9 (fun a2 h3 => ?_)
  refine l_pf dX2_init_11 fl_2_13 (ini := true) nm_mX2_init (fun h4 => ?_)
  refine l_loc dX2_init_14 rfl rfl ?_
  refine l_rd (st1 := [.retAddr 10, .ref x0]) dX2_init_15 rfl rfl ?_
  refine l_rd (st1 := [.int (10 : Int32), .ref x0]) dX2_init_18 rfl rfl ?_
  refine l_ni dX2_init_19 (fun a6 h7 => ?_)
  refine l_pf dX2_init_21 fl_2_19 (ini := true) nm_mX2_init (fun h8 => ?_)
  refine l_loc dX2_init_24 rfl rfl ?_
  refine l_rd (st1 := [.retAddr 10, .ref x0]) dX2_init_25 rfl rfl ?_
  refine l_rd (st1 := [.int (10 : Int32), .ref x0]) dX2_init_28 rfl rfl ?_
  refine l_ni dX2_init_29 (fun a10 h11 => ?_)
  refine l_pf dX2_init_31 fl_2_22 (ini := true) nm_mX2_init (fun h12 => ?_)
  refine l_loc dX2_init_34 rfl rfl ?_
  refine l_rd (st1 := [.retAddr 10, .ref x0]) dX2_init_35 rfl rfl ?_
  refine l_rd (st1 := [.int (10 : Int32), .ref x0]) dX2_init_38 rfl rfl ?_
  refine l_ni dX2_init_39 (fun a14 h15 => ?_)
  refine l_pf dX2_init_41 fl_2_25 (ini := true) nm_mX2_init (fun h16 => ?_)
  refine l_ic dX2_init_44 kI_0 ?_
  refine l_loc (al1 := [(1, .int (0 : Int32)), (0, .ref x0)]) dX2_init_45 rfl rfl ?_
  exact l_al rfl ⟨rfl, rfl, trivial⟩
set_option maxRecDepth 16000 in
theorem w_X2_init_46 (S : xS) (x0 : Nat) (x1 : Int32) (h : xH) : xle (if (10 : Int32) ≤ x1 then (some (.inl none, h, 0, 0)) else ((xGr h x0 2 0).bind fun v2 => if xin x1 10 = true then (xCi (x1.toNatClampNeg) 2 28).bind fun v4 => (xWi h v2 x1 v4).bind fun h5 => xlet (x1 + (1 : Int32)) fun v6 => (xden S mX2_init 46 [(0, .ref x0), (1, .int v6)] [] h5) else none)) (xden S mX2_init 46 [(0, .ref x0), (1, .int x1)] [] h) := by
  refine l_loc dX2_init_46 rfl rfl ?_
  refine l_rd (st1 := [.retAddr 10, .int x1]) dX2_init_47 rfl rfl ?_
  refine l_rd (st1 := [.int (10 : Int32), .int x1]) dX2_init_50 rfl rfl ?_
  refine l_cge (t := 74) dX2_init_51 rfl ?_ ?_
  · exact l_end dX2_init_74 rfl rfl
  · refine l_loc dX2_init_54 rfl rfl ?_
    refine l_gr dX2_init_55 fl_2_13 (fun v2 => ?_)
    refine l_loc dX2_init_58 rfl rfl ?_
    refine l_rd (st1 := [.retAddr 10, .int x1, .ref v2]) dX2_init_59 rfl rfl ?_
    refine l_loc dX2_init_62 rfl rfl ?_
    refine l_rt dX2_init_63 ?_
    refine l_kj dX2_init_64 rfl (fun v4 => ?_)
    refine l_wi dX2_init_67 (fun h5 => ?_)
    refine l_incl (al1 := fun v6 => [(1, .int v6), (0, .ref x0)]) dX2_init_68 rfl kI_1 rfl (fun _ => rfl) (fun v6 => ?_)
    refine l_goto (t := 46) dX2_init_71 rfl ?_
    exact l_al rfl ⟨rfl, rfl, trivial⟩
theorem w_X6_init (S : xS) (x0 : Nat) (h : xH) : xle (if x0 < h.length then some (.inl none, h, 0, 0) else none) (xM S mX6_init [.ref x0] h) := by
  show xle _ (xden S mX6_init 0 [(0, .ref x0)] [] h)
  refine l_loc dX6_init_0 rfl rfl ?_
  refine l_obi dX6_init_1 rfl rfl rfl ?_
  exact l_end dX6_init_4 rfl rfl
set_option maxRecDepth 16000 in
theorem w_X11_clear (S : xS) (x0 : Nat) (h : xH) : xle ((xGi h x0 10 1).bind fun v1 => (xP false 10 h x0 10 1 (.int (0 : Int32))).bind fun h2 => some (.inl (some (.int v1)), h2, 0, 0)) (xM S mX11_clear [.ref x0] h) := by
  show xle _ (xden S mX11_clear 0 [(0, .ref x0)] [] h)
  refine l_loc dX11_clear_0 rfl rfl ?_
  refine l_gi dX11_clear_1 fl_10_15 (fun v1 => ?_)
  refine l_loc (al1 := [(1, .int v1), (0, .ref x0)]) dX11_clear_4 rfl rfl ?_
  refine l_loc dX11_clear_5 rfl rfl ?_
  refine l_ic dX11_clear_6 kI_0 ?_
  refine l_pf dX11_clear_7 fl_10_15 (ini := false) nm_mX11_clear (fun h2 => ?_)
  refine l_loc dX11_clear_10 rfl rfl ?_
  exact l_iretn dX11_clear_11 rfl (by rfl)
set_option maxRecDepth 16000 in
theorem w_X2_read (S : xS) (x0 : Nat) (x1 : Nat) (h : xH) : xle ((xGr h x0 2 0).bind fun v1 => (xGr h x0 2 3).bind fun v2 => (xCp h v1 (0 : Int32) v2 (0 : Int32) (10 : Int32)).bind fun h4 => (xGr h4 x0 2 1).bind fun v5 => (xGr h4 x0 2 4).bind fun v6 => (xCp h4 v5 (0 : Int32) v6 (0 : Int32) (10 : Int32)).bind fun h8 => (xGi h8 x0 2 2).bind fun v9 => (xP false 2 h8 x0 2 5 (.int v9)).bind fun h10 => if xOb h10 x1 10 = true then xqI (xM S mX11_length [.ref x1] h10) xth fun v13 h12 => if ¬ v13 = 0 then (xden S mX2_read 58 [(0, .ref x0), (1, .ref x1), (2, .int v13), (3, .int (0 : Int32)), (4, .int (1 : Int32))] [] h12) else (some (.inl (some (.int (0 : Int32))), h12, 0, 0)) else none) (xM S mX2_read [.ref x0, .ref x1] h) := by
  show xle _ (xden S mX2_read 0 [(0, .ref x0), (1, .ref x1)] [] h)
  refine l_loc dX2_read_0 rfl rfl ?_
  refine l_gr dX2_read_1 fl_2_13 (fun v1 => ?_)
  refine l_ic dX2_read_4 kI_0 ?_
  refine l_loc dX2_read_5 rfl rfl ?_
  refine l_gr dX2_read_6 fl_2_22 (fun v2 => ?_)
  refine l_ic dX2_read_9 kI_0 ?_
  refine l_rd (st1 := [.retAddr 10, .int (0 : Int32), .ref v2, .int (0 : Int32), .ref v1]) dX2_read_10 rfl rfl ?_
  refine l_rd (st1 := [.int (10 : Int32), .int (0 : Int32), .ref v2, .int (0 : Int32), .ref v1]) dX2_read_13 rfl rfl ?_
  refine l_cpy dX2_read_14 rfl rfl rfl rfl (fun h4 => ?_)
  refine l_loc dX2_read_17 rfl rfl ?_
  refine l_gr dX2_read_18 fl_2_19 (fun v5 => ?_)
  refine l_ic dX2_read_21 kI_0 ?_
  refine l_loc dX2_read_22 rfl rfl ?_
  refine l_gr dX2_read_23 fl_2_25 (fun v6 => ?_)
  refine l_ic dX2_read_26 kI_0 ?_
  refine l_rd (st1 := [.retAddr 10, .int (0 : Int32), .ref v6, .int (0 : Int32), .ref v5]) dX2_read_27 rfl rfl ?_
  refine l_rd (st1 := [.int (10 : Int32), .int (0 : Int32), .ref v6, .int (0 : Int32), .ref v5]) dX2_read_30 rfl rfl ?_
  refine l_cpy dX2_read_31 rfl rfl rfl rfl (fun h8 => ?_)
  refine l_loc dX2_read_34 rfl rfl ?_
  refine l_loc dX2_read_35 rfl rfl ?_
  refine l_gi dX2_read_36 fl_2_43 (fun v9 => ?_)
  refine l_pf dX2_read_39 fl_2_46 (ini := false) nm_mX2_read (fun h10 => ?_)
  refine l_loc dX2_read_42 rfl rfl ?_
  refine l_ob fun q11 => ?_
  refine l_cI dX2_read_43 rfl rfl rfl (l_xv cl_2_49 ko_mX11_length rfl rfl rfl q11) rfl rfl nm_mX11_length (xhE_th rfl) (fun v13 h12 => ?_)
  refine l_loc (al1 := [(2, .int v13), (0, .ref x0), (1, .ref x1)]) dX2_read_46 rfl rfl ?_
  refine l_loc dX2_read_47 rfl rfl ?_
  refine l_ine (t := 53) dX2_read_48 rfl ?_ ?_
  · refine l_ic dX2_read_53 kI_0 ?_
    refine l_loc (al1 := [(3, .int (0 : Int32)), (2, .int v13), (0, .ref x0), (1, .ref x1)]) dX2_read_54 rfl rfl ?_
    refine l_ic dX2_read_55 kI_1 ?_
    refine l_loc (al1 := [(4, .int (1 : Int32)), (3, .int (0 : Int32)), (2, .int v13), (0, .ref x0), (1, .ref x1)]) dX2_read_56 rfl rfl ?_
    exact l_al rfl ⟨rfl, rfl, rfl, rfl, rfl, trivial⟩
  · refine l_ic dX2_read_51 kI_0 ?_
    exact l_iretn dX2_read_52 rfl (by rfl)
set_option maxRecDepth 16000 in
theorem w_X2_read_58 (S : xS) (x0 : Nat) (x1 : Nat) (x2 : Int32) (x3 : Int32) (x4 : Int32) (h : xH) : xle (if (80 : Int32) < x4 then (some (.inl (some (.int ((-1 : Int32) - x3))), h, 0, 0)) else (if xOb h x1 10 = true then xqI (xM S mX11_endOfLetters [.ref x1, .int x3] h) xth fun v3 h2 => xqM (xM S mX2_settingNamed [.ref x1, .int x3, .int v3] h2) xth (fun h4 => some (.inl (some (.int ((-1 : Int32) - x3))), h4, 0, 0)) (fun v5 h4 => if v5 = 998 then none else if xOb h4 x1 10 = true then xqI (xM S mX11_codeAt [.ref x1, .int v3] h4) xth fun v8 h7 => if v8 = (61 : Int32) then (if xOb h7 x1 10 = true then xqI (xM S mX11_endOfLettersAndDigits [.ref x1, .int (v3 + (1 : Int32))] h7) xth fun v11 h10 => if xCcl v5 = some 13 then xqI (xM S mX9_valueIn [.retAddr v5, .ref x1, .int (v3 + (1 : Int32)), .int v11] h10) xth fun v14 h13 => if 0 ≤ v14 then ((xCi v5 2 34).bind fun v15 => if xOb h13 x0 2 = true then xqV (xM S mX2_note [.ref x0, .int v15, .int v14] h13) xth fun h17 => if v11 < x2 then (if xOb h17 x1 10 = true then xqI (xM S mX11_codeAt [.ref x1, .int v11] h17) xth fun v21 h20 => if v21 = (59 : Int32) then (xlet (v11 + (1 : Int32)) fun v22 => xlet (x4 + (1 : Int32)) fun v23 => (xden S mX2_read 58 [(0, .ref x0), (1, .ref x1), (2, .int x2), (3, .int v22), (4, .int v23)] [] h20)) else (some (.inl (some (.int ((-1 : Int32) - v11))), h20, 0, 0)) else none) else (some (.inl (some (.int x4)), h17, 0, 0)) else none) else (some (.inl (some (.int ((-2 : Int32) - v3))), h13, 0, 0)) else none else none) else (some (.inl (some (.int ((-1 : Int32) - v3))), h7, 0, 0)) else none) else none)) (xden S mX2_read 58 [(0, .ref x0), (1, .ref x1), (2, .int x2), (3, .int x3), (4, .int x4)] [] h) := by
  refine l_loc dX2_read_58 rfl rfl ?_
  refine l_bi dX2_read_60 kB_80 ?_
  refine l_cgt (t := 188) dX2_read_62 rfl ?_ ?_
  · refine l_ic dX2_read_188 kI_m1 ?_
    refine l_loc dX2_read_189 rfl rfl ?_
    refine l_pure dX2_read_190 rfl rfl ?_
    exact l_iretn dX2_read_191 rfl (by rfl)
  · refine l_loc dX2_read_65 rfl rfl ?_
    refine l_loc dX2_read_66 rfl rfl ?_
    refine l_ob fun q1 => ?_
    refine l_cI dX2_read_67 rfl rfl rfl (l_xv cl_2_55 ko_mX11_endOfLetters rfl rfl rfl q1) rfl rfl nm_mX11_endOfLetters (xhE_th rfl) (fun v3 h2 => ?_)
    refine l_loc (al1 := [(5, .int v3), (0, .ref x0), (1, .ref x1), (2, .int x2), (3, .int x3), (4, .int x4)]) dX2_read_70 rfl rfl ?_
    refine l_loc dX2_read_72 rfl rfl ?_
    refine l_loc dX2_read_73 rfl rfl ?_
    refine l_loc dX2_read_74 rfl rfl ?_
    refine l_cM dX2_read_76 rfl rfl rfl (l_xs cl_2_59 ko_mX2_settingNamed rfl rfl) rfl rfl nm_mX2_settingNamed (xhE_th rfl) (fun h4 => ?_) (fun v5 h4 => ?_)
    · refine l_loc (al1 := [(6, .null), (5, .int v3), (0, .ref x0), (1, .ref x1), (2, .int x2), (3, .int x3), (4, .int x4)]) dX2_read_79 rfl rfl ?_
      refine l_loc dX2_read_81 rfl rfl ?_
      refine l_nnulN dX2_read_83 ?_
      refine l_ic dX2_read_86 kI_m1 ?_
      refine l_loc dX2_read_87 rfl rfl ?_
      refine l_pure dX2_read_88 rfl rfl ?_
      exact l_iretn dX2_read_89 rfl (by rfl)
    · refine l_loc (al1 := [(6, .retAddr v5), (5, .int v3), (0, .ref x0), (1, .ref x1), (2, .int x2), (3, .int x3), (4, .int x4)]) dX2_read_79 rfl rfl ?_
      refine l_loc dX2_read_81 rfl rfl ?_
      refine l_nnulK (t := 90) dX2_read_83 rfl ?_
      refine l_loc dX2_read_90 rfl rfl ?_
      refine l_loc dX2_read_91 rfl rfl ?_
      refine l_ob fun q6 => ?_
      refine l_cI dX2_read_93 rfl rfl rfl (l_xv cl_2_63 ko_mX11_codeAt rfl rfl rfl q6) rfl rfl nm_mX11_codeAt (xhE_th rfl) (fun v8 h7 => ?_)
      refine l_bi dX2_read_96 kB_61 ?_
      refine l_ceq (t := 106) dX2_read_98 rfl ?_ ?_
      · refine l_loc dX2_read_106 rfl rfl ?_
        refine l_loc dX2_read_107 rfl rfl ?_
        refine l_ic dX2_read_109 kI_1 ?_
        refine l_pure dX2_read_110 rfl rfl ?_
        refine l_ob fun q9 => ?_
        refine l_cI dX2_read_111 rfl rfl rfl (l_xv cl_2_66 ko_mX11_endOfLettersAndDigits rfl rfl rfl q9) rfl rfl nm_mX11_endOfLettersAndDigits (xhE_th rfl) (fun v11 h10 => ?_)
        refine l_loc (al1 := [(7, .int v11), (6, .retAddr v5), (5, .int v3), (0, .ref x0), (1, .ref x1), (2, .int x2), (3, .int x3), (4, .int x4)]) dX2_read_114 rfl rfl ?_
        refine l_loc dX2_read_116 rfl rfl ?_
        refine l_loc dX2_read_118 rfl rfl ?_
        refine l_loc dX2_read_119 rfl rfl ?_
        refine l_ic dX2_read_121 kI_1 ?_
        refine l_pure dX2_read_122 rfl rfl ?_
        refine l_loc dX2_read_123 rfl rfl ?_
        refine l_cl fun q12 => ?_
        refine l_cI dX2_read_125 rfl rfl rfl (l_xk cl_2_69 ko_mX9_valueIn rfl rfl rfl q12) rfl rfl nm_mX9_valueIn (xhE_th rfl) (fun v14 h13 => ?_)
        refine l_loc (al1 := [(8, .int v14), (7, .int v11), (6, .retAddr v5), (5, .int v3), (0, .ref x0), (1, .ref x1), (2, .int x2), (3, .int x3), (4, .int x4)]) dX2_read_128 rfl rfl ?_
        refine l_loc dX2_read_130 rfl rfl ?_
        refine l_ige (t := 141) dX2_read_132 rfl ?_ ?_
        · refine l_loc dX2_read_141 rfl rfl ?_
          refine l_loc dX2_read_142 rfl rfl ?_
          refine l_kj dX2_read_144 rfl (fun v15 => ?_)
          refine l_loc dX2_read_147 rfl rfl ?_
          refine l_ob fun q16 => ?_
          refine l_cV dX2_read_149 rfl rfl rfl (l_xv cl_2_73 ko_mX2_note rfl rfl rfl q16) rfl rfl nm_mX2_note (xhE_th rfl) (fun h17 => ?_)
          refine l_loc dX2_read_152 rfl rfl ?_
          refine l_loc dX2_read_154 rfl rfl ?_
          refine l_clt (t := 161) dX2_read_155 rfl ?_ ?_
          · refine l_loc dX2_read_161 rfl rfl ?_
            refine l_loc dX2_read_162 rfl rfl ?_
            refine l_ob fun q19 => ?_
            refine l_cI dX2_read_164 rfl rfl rfl (l_xv cl_2_63 ko_mX11_codeAt rfl rfl rfl q19) rfl rfl nm_mX11_codeAt (xhE_th rfl) (fun v21 h20 => ?_)
            refine l_bi dX2_read_167 kB_59 ?_
            refine l_ceq (t := 177) dX2_read_169 rfl ?_ ?_
            · refine l_loc dX2_read_177 rfl rfl ?_
              refine l_ic dX2_read_179 kI_1 ?_
              refine l_pure dX2_read_180 rfl rfl ?_
              refine l_isl (al1 := fun v22 => [(3, .int v22), (8, .int v14), (7, .int v11), (6, .retAddr v5), (5, .int v3), (0, .ref x0), (1, .ref x1), (2, .int x2), (4, .int x4)]) dX2_read_181 rfl (fun _ => rfl) (fun v22 => ?_)
              refine l_incl (al1 := fun v23 => [(4, .int v23), (3, .int v22), (8, .int v14), (7, .int v11), (6, .retAddr v5), (5, .int v3), (0, .ref x0), (1, .ref x1), (2, .int x2)]) dX2_read_182 rfl kI_1 rfl (fun _ => rfl) (fun v23 => ?_)
              refine l_goto (t := 58) dX2_read_185 rfl ?_
              exact l_al rfl ⟨rfl, rfl, rfl, rfl, rfl, trivial⟩
            · refine l_ic dX2_read_172 kI_m1 ?_
              refine l_loc dX2_read_173 rfl rfl ?_
              refine l_pure dX2_read_175 rfl rfl ?_
              exact l_iretn dX2_read_176 rfl (by rfl)
          · refine l_loc dX2_read_158 rfl rfl ?_
            exact l_iretn dX2_read_160 rfl (by rfl)
        · refine l_bi dX2_read_135 kB_m2 ?_
          refine l_loc dX2_read_137 rfl rfl ?_
          refine l_pure dX2_read_139 rfl rfl ?_
          exact l_iretn dX2_read_140 rfl (by rfl)
      · refine l_ic dX2_read_101 kI_m1 ?_
        refine l_loc dX2_read_102 rfl rfl ?_
        refine l_pure dX2_read_104 rfl rfl ?_
        exact l_iretn dX2_read_105 rfl (by rfl)
theorem w_X11_length (S : xS) (x0 : Nat) (h : xH) : xle ((xGi h x0 10 1).bind fun v1 => some (.inl (some (.int v1)), h, 0, 0)) (xM S mX11_length [.ref x0] h) := by
  show xle _ (xden S mX11_length 0 [(0, .ref x0)] [] h)
  refine l_loc dX11_length_0 rfl rfl ?_
  refine l_gi dX11_length_1 fl_10_15 (fun v1 => ?_)
  exact l_iretn dX11_length_4 rfl (by rfl)
theorem w_X11_endOfLetters (S : xS) (x0 : Nat) (x1 : Int32) (h : xH) : xle (xden S mX11_endOfLetters 2 [(0, .ref x0), (2, .int x1)] [] h) (xM S mX11_endOfLetters [.ref x0, .int x1] h) := by
  show xle _ (xden S mX11_endOfLetters 0 [(0, .ref x0), (1, .int x1)] [] h)
  refine l_loc dX11_endOfLetters_0 rfl rfl ?_
  refine l_loc (al1 := [(2, .int x1), (0, .ref x0), (1, .int x1)]) dX11_endOfLetters_1 rfl rfl ?_
  exact l_al rfl ⟨rfl, rfl, trivial⟩
set_option maxRecDepth 16000 in
theorem w_X11_endOfLetters_2 (S : xS) (x0 : Nat) (x2 : Int32) (h : xH) : xle ((xGi h x0 10 1).bind fun v1 => if v1 ≤ x2 then (some (.inl (some (.int x2)), h, 0, 0)) else (if xOb h x0 10 = true then xqI (xM S mX11_codeAt [.ref x0, .int x2] h) xth fun v4 h3 => xqI (xM S mX11_isLetter [.int v4] h3) xth fun v6 h5 => if v6 = 0 then (some (.inl (some (.int x2)), h5, 0, 0)) else (xlet (x2 + (1 : Int32)) fun v7 => (xden S mX11_endOfLetters 2 [(0, .ref x0), (2, .int v7)] [] h5)) else none)) (xden S mX11_endOfLetters 2 [(0, .ref x0), (2, .int x2)] [] h) := by
  refine l_loc dX11_endOfLetters_2 rfl rfl ?_
  refine l_loc dX11_endOfLetters_3 rfl rfl ?_
  refine l_gi dX11_endOfLetters_4 fl_10_15 (fun v1 => ?_)
  refine l_cge (t := 27) dX11_endOfLetters_7 rfl ?_ ?_
  · refine l_loc dX11_endOfLetters_27 rfl rfl ?_
    exact l_iretn dX11_endOfLetters_28 rfl (by rfl)
  · refine l_loc dX11_endOfLetters_10 rfl rfl ?_
    refine l_loc dX11_endOfLetters_11 rfl rfl ?_
    refine l_ob fun q2 => ?_
    refine l_cI dX11_endOfLetters_12 rfl rfl rfl (l_xv cl_10_23 ko_mX11_codeAt rfl rfl rfl q2) rfl rfl nm_mX11_codeAt (xhE_th rfl) (fun v4 h3 => ?_)
    refine l_cI dX11_endOfLetters_15 rfl rfl rfl (l_xs cl_10_31 ko_mX11_isLetter rfl rfl) rfl rfl nm_mX11_isLetter (xhE_th rfl) (fun v6 h5 => ?_)
    refine l_ieq (t := 27) dX11_endOfLetters_18 rfl ?_ ?_
    · refine l_loc dX11_endOfLetters_27 rfl rfl ?_
      exact l_iretn dX11_endOfLetters_28 rfl (by rfl)
    · refine l_incl (al1 := fun v7 => [(2, .int v7), (0, .ref x0)]) dX11_endOfLetters_21 rfl kI_1 rfl (fun _ => rfl) (fun v7 => ?_)
      refine l_goto (t := 2) dX11_endOfLetters_24 rfl ?_
      exact l_al rfl ⟨rfl, rfl, trivial⟩
set_option maxRecDepth 16000 in
theorem w_X11_codeAt (S : xS) (x0 : Nat) (x1 : Int32) (h : xH) : xle (if x1 < 0 then (some (.inl (some (.int (-1 : Int32))), h, 0, 0)) else ((xGi h x0 10 1).bind fun v1 => if v1 ≤ x1 then (some (.inl (some (.int (-1 : Int32))), h, 0, 0)) else ((xGr h x0 10 0).bind fun v2 => (xRi h 0 v2 x1).bind fun v3 => some (.inl (some (.int v3)), h, 0, 0)))) (xM S mX11_codeAt [.ref x0, .int x1] h) := by
  show xle _ (xden S mX11_codeAt 0 [(0, .ref x0), (1, .int x1)] [] h)
  refine l_loc dX11_codeAt_0 rfl rfl ?_
  refine l_ilt (t := 21) dX11_codeAt_1 rfl ?_ ?_
  · refine l_ic dX11_codeAt_21 kI_m1 ?_
    exact l_iretn dX11_codeAt_22 rfl (by rfl)
  · refine l_loc dX11_codeAt_4 rfl rfl ?_
    refine l_loc dX11_codeAt_5 rfl rfl ?_
    refine l_gi dX11_codeAt_6 fl_10_15 (fun v1 => ?_)
    refine l_cge (t := 21) dX11_codeAt_9 rfl ?_ ?_
    · refine l_ic dX11_codeAt_21 kI_m1 ?_
      exact l_iretn dX11_codeAt_22 rfl (by rfl)
    · refine l_loc dX11_codeAt_12 rfl rfl ?_
      refine l_gr dX11_codeAt_13 fl_10_9 (fun v2 => ?_)
      refine l_loc dX11_codeAt_16 rfl rfl ?_
      refine l_ri dX11_codeAt_17 (fun v3 => ?_)
      refine l_goto (t := 22) dX11_codeAt_18 rfl ?_
      exact l_iretn dX11_codeAt_22 rfl (by rfl)
set_option maxRecDepth 16000 in
theorem w_X11_isLetter (S : xS) (x0 : Int32) (h : xH) : xle (if x0 < (97 : Int32) then (some (.inl (some (.int (0 : Int32))), h, 0, 0)) else (if (122 : Int32) < x0 then (some (.inl (some (.int (0 : Int32))), h, 0, 0)) else (some (.inl (some (.int (1 : Int32))), h, 0, 0)))) (xM S mX11_isLetter [.int x0] h) := by
  show xle _ (xden S mX11_isLetter 0 [(0, .int x0)] [] h)
  refine l_loc dX11_isLetter_0 rfl rfl ?_
  refine l_bi dX11_isLetter_1 kB_97 ?_
  refine l_clt (t := 16) dX11_isLetter_3 rfl ?_ ?_
  · refine l_ic dX11_isLetter_16 kI_0 ?_
    exact l_iretn dX11_isLetter_17 rfl (by decide)
  · refine l_loc dX11_isLetter_6 rfl rfl ?_
    refine l_bi dX11_isLetter_7 kB_122 ?_
    refine l_cgt (t := 16) dX11_isLetter_9 rfl ?_ ?_
    · refine l_ic dX11_isLetter_16 kI_0 ?_
      exact l_iretn dX11_isLetter_17 rfl (by decide)
    · refine l_ic dX11_isLetter_12 kI_1 ?_
      refine l_goto (t := 17) dX11_isLetter_13 rfl ?_
      exact l_iretn dX11_isLetter_17 rfl (by decide)
set_option maxRecDepth 16000 in
theorem w_X2_settingNamed (S : xS) (x0 : Nat) (x1 : Int32) (x2 : Int32) (h : xH) : xle (xden S mX2_settingNamed 11 [(0, .ref x0), (1, .int x1), (2, .int x2), (3, .retAddr 10), (4, .int (10 : Int32)), (5, .int (0 : Int32))] [] h) (xM S mX2_settingNamed [.ref x0, .int x1, .int x2] h) := by
  show xle _ (xden S mX2_settingNamed 0 [(0, .ref x0), (1, .int x1), (2, .int x2)] [] h)
  refine l_rd (st1 := [.retAddr 10]) dX2_settingNamed_0 rfl rfl ?_
  refine l_loc (al1 := [(3, .retAddr 10), (0, .ref x0), (1, .int x1), (2, .int x2)]) dX2_settingNamed_3 rfl rfl ?_
  refine l_loc dX2_settingNamed_4 rfl rfl ?_
  refine l_rd (st1 := [.int (10 : Int32)]) dX2_settingNamed_5 rfl rfl ?_
  refine l_loc (al1 := [(4, .int (10 : Int32)), (3, .retAddr 10), (0, .ref x0), (1, .int x1), (2, .int x2)]) dX2_settingNamed_6 rfl rfl ?_
  refine l_ic dX2_settingNamed_8 kI_0 ?_
  refine l_loc (al1 := [(5, .int (0 : Int32)), (4, .int (10 : Int32)), (3, .retAddr 10), (0, .ref x0), (1, .int x1), (2, .int x2)]) dX2_settingNamed_9 rfl rfl ?_
  exact l_al rfl ⟨rfl, rfl, rfl, rfl, rfl, rfl, trivial⟩
set_option maxRecDepth 16000 in
theorem w_X2_settingNamed_11 (S : xS) (x0 : Nat) (x1 : Int32) (x2 : Int32) (x4 : Int32) (x5 : Int32) (h : xH) : xle (if x4 ≤ x5 then (some (.inl (some (.null)), h, 0, 0)) else (if xin x5 10 = true then (xCk (x5.toNatClampNeg) 2 77).bind fun v2 => if xOb h x0 10 = true then xqI (xM S mX11_matches [.ref x0, .int x1, .int x2, .retAddr v2] h) xth fun v5 h4 => if v5 = 0 then (xlet (x5 + (1 : Int32)) fun v6 => (xden S mX2_settingNamed 11 [(0, .ref x0), (1, .int x1), (2, .int x2), (3, .retAddr 10), (4, .int x4), (5, .int v6)] [] h4)) else (if (x5.toNatClampNeg) = 998 then none else some (.inl (some (.retAddr (x5.toNatClampNeg))), h4, 0, 0)) else none else none)) (xden S mX2_settingNamed 11 [(0, .ref x0), (1, .int x1), (2, .int x2), (3, .retAddr 10), (4, .int x4), (5, .int x5)] [] h) := by
  refine l_loc dX2_settingNamed_11 rfl rfl ?_
  refine l_loc dX2_settingNamed_13 rfl rfl ?_
  refine l_cge (t := 47) dX2_settingNamed_15 rfl ?_ ?_
  · refine l_pure dX2_settingNamed_47 rfl rfl ?_
    exact l_end dX2_settingNamed_48 rfl rfl
  · refine l_loc dX2_settingNamed_18 rfl rfl ?_
    refine l_loc dX2_settingNamed_19 rfl rfl ?_
    refine l_rt dX2_settingNamed_21 ?_
    refine l_loc (al1 := [(6, .retAddr (x5.toNatClampNeg)), (0, .ref x0), (1, .int x1), (2, .int x2), (3, .retAddr 10), (4, .int x4), (5, .int x5)]) dX2_settingNamed_22 rfl rfl ?_
    refine l_loc dX2_settingNamed_24 rfl rfl ?_
    refine l_loc dX2_settingNamed_25 rfl rfl ?_
    refine l_loc dX2_settingNamed_26 rfl rfl ?_
    refine l_loc dX2_settingNamed_27 rfl rfl ?_
    refine l_kl dX2_settingNamed_29 rfl (fun v2 => ?_)
    refine l_ob fun q3 => ?_
    refine l_cI dX2_settingNamed_32 rfl rfl rfl (l_xv cl_2_81 ko_mX11_matches rfl rfl rfl q3) rfl rfl nm_mX11_matches (xhE_th rfl) (fun v5 h4 => ?_)
    refine l_ieq (t := 41) dX2_settingNamed_35 rfl ?_ ?_
    · refine l_incl (al1 := fun v6 => [(5, .int v6), (6, .retAddr (x5.toNatClampNeg)), (0, .ref x0), (1, .int x1), (2, .int x2), (3, .retAddr 10), (4, .int x4)]) dX2_settingNamed_41 rfl kI_1 rfl (fun _ => rfl) (fun v6 => ?_)
      refine l_goto (t := 11) dX2_settingNamed_44 rfl ?_
      exact l_al rfl ⟨rfl, rfl, rfl, rfl, rfl, rfl, trivial⟩
    · refine l_loc dX2_settingNamed_38 rfl rfl ?_
      exact l_aretk dX2_settingNamed_40 rfl
set_option maxRecDepth 16000 in
theorem w_X11_matches (S : xS) (x0 : Nat) (x1 : Int32) (x2 : Int32) (x3 : Nat) (h : xH) : xle (if xCcl x3 = some 17 then xqI (xM S mJ0_length_8abf5 [.retAddr x3] h) xth fun v3 h2 => if (x2 - x1) = v3 then (xden S mX11_matches 15 [(0, .ref x0), (1, .int x1), (3, .retAddr x3), (4, .int (0 : Int32))] [] h2) else (some (.inl (some (.int (0 : Int32))), h2, 0, 0)) else none) (xM S mX11_matches [.ref x0, .int x1, .int x2, .retAddr x3] h) := by
  show xle _ (xden S mX11_matches 0 [(0, .ref x0), (1, .int x1), (2, .int x2), (3, .retAddr x3)] [] h)
  refine l_loc dX11_matches_0 rfl rfl ?_
  refine l_loc dX11_matches_1 rfl rfl ?_
  refine l_pure dX11_matches_2 rfl rfl ?_
  refine l_loc dX11_matches_3 rfl rfl ?_
  refine l_cl fun q1 => ?_
  refine l_cI dX11_matches_4 rfl rfl rfl (l_xk cl_10_34 ko_mJ0_length_8abf5 rfl rfl rfl q1) rfl rfl nm_mJ0_length_8abf5 (xhE_th rfl) (fun v3 h2 => ?_)
  refine l_ceq (t := 12) dX11_matches_7 rfl ?_ ?_
  · refine l_ic dX11_matches_12 kI_0 ?_
    refine l_loc (al1 := [(4, .int (0 : Int32)), (0, .ref x0), (1, .int x1), (2, .int x2), (3, .retAddr x3)]) dX11_matches_13 rfl rfl ?_
    exact l_al rfl ⟨rfl, rfl, rfl, rfl, trivial⟩
  · refine l_ic dX11_matches_10 kI_0 ?_
    exact l_iretn dX11_matches_11 rfl (by decide)
set_option maxRecDepth 16000 in
theorem w_X11_matches_15 (S : xS) (x0 : Nat) (x1 : Int32) (x3 : Nat) (x4 : Int32) (h : xH) : xle (if xCcl x3 = some 17 then xqI (xM S mJ0_length_8abf5 [.retAddr x3] h) xth fun v3 h2 => if v3 ≤ x4 then (some (.inl (some (.int (1 : Int32))), h2, 0, 0)) else (if xOb h2 x0 10 = true then xqI (xM S mX11_codeAt [.ref x0, .int (x1 + x4)] h2) xth fun v6 h5 => if xCcl x3 = some 17 then xqI (xM S mJ0_charAt_5068e [.retAddr x3, .int x4] h5) xth fun v9 h8 => if v6 = v9 then (xlet (x4 + (1 : Int32)) fun v10 => (xden S mX11_matches 15 [(0, .ref x0), (1, .int x1), (3, .retAddr x3), (4, .int v10)] [] h8)) else (some (.inl (some (.int (0 : Int32))), h8, 0, 0)) else none else none) else none) (xden S mX11_matches 15 [(0, .ref x0), (1, .int x1), (3, .retAddr x3), (4, .int x4)] [] h) := by
  refine l_loc dX11_matches_15 rfl rfl ?_
  refine l_loc dX11_matches_17 rfl rfl ?_
  refine l_cl fun q1 => ?_
  refine l_cI dX11_matches_18 rfl rfl rfl (l_xk cl_10_34 ko_mJ0_length_8abf5 rfl rfl rfl q1) rfl rfl nm_mJ0_length_8abf5 (xhE_th rfl) (fun v3 h2 => ?_)
  refine l_cge (t := 49) dX11_matches_21 rfl ?_ ?_
  · refine l_ic dX11_matches_49 kI_1 ?_
    exact l_iretn dX11_matches_50 rfl (by decide)
  · refine l_loc dX11_matches_24 rfl rfl ?_
    refine l_loc dX11_matches_25 rfl rfl ?_
    refine l_loc dX11_matches_26 rfl rfl ?_
    refine l_pure dX11_matches_28 rfl rfl ?_
    refine l_ob fun q4 => ?_
    refine l_cI dX11_matches_29 rfl rfl rfl (l_xv cl_10_23 ko_mX11_codeAt rfl rfl rfl q4) rfl rfl nm_mX11_codeAt (xhE_th rfl) (fun v6 h5 => ?_)
    refine l_loc dX11_matches_32 rfl rfl ?_
    refine l_loc dX11_matches_33 rfl rfl ?_
    refine l_cl fun q7 => ?_
    refine l_cI dX11_matches_35 rfl rfl rfl (l_xk cl_10_39 ko_mJ0_charAt_5068e rfl rfl rfl q7) rfl rfl nm_mJ0_charAt_5068e (xhE_th rfl) (fun v9 h8 => ?_)
    refine l_ceq (t := 43) dX11_matches_38 rfl ?_ ?_
    · refine l_incl (al1 := fun v10 => [(4, .int v10), (0, .ref x0), (1, .int x1), (3, .retAddr x3)]) dX11_matches_43 rfl kI_1 rfl (fun _ => rfl) (fun v10 => ?_)
      refine l_goto (t := 15) dX11_matches_46 rfl ?_
      exact l_al rfl ⟨rfl, rfl, rfl, rfl, trivial⟩
    · refine l_ic dX11_matches_41 kI_0 ?_
      exact l_iretn dX11_matches_42 rfl (by decide)
theorem w_X11_endOfLettersAndDigits (S : xS) (x0 : Nat) (x1 : Int32) (h : xH) : xle (xden S mX11_endOfLettersAndDigits 2 [(0, .ref x0), (2, .int x1)] [] h) (xM S mX11_endOfLettersAndDigits [.ref x0, .int x1] h) := by
  show xle _ (xden S mX11_endOfLettersAndDigits 0 [(0, .ref x0), (1, .int x1)] [] h)
  refine l_loc dX11_endOfLettersAndDigits_0 rfl rfl ?_
  refine l_loc (al1 := [(2, .int x1), (0, .ref x0), (1, .int x1)]) dX11_endOfLettersAndDigits_1 rfl rfl ?_
  exact l_al rfl ⟨rfl, rfl, trivial⟩
set_option maxRecDepth 16000 in
theorem w_X11_endOfLettersAndDigits_2 (S : xS) (x0 : Nat) (x2 : Int32) (h : xH) : xle ((xGi h x0 10 1).bind fun v1 => if v1 ≤ x2 then (some (.inl (some (.int x2)), h, 0, 0)) else (if xOb h x0 10 = true then xqI (xM S mX11_codeAt [.ref x0, .int x2] h) xth fun v4 h3 => xqI (xM S mX11_isLetter [.int v4] h3) xth fun v6 h5 => if ¬ v6 = 0 then (xlet (x2 + (1 : Int32)) fun v7 => (xden S mX11_endOfLettersAndDigits 2 [(0, .ref x0), (2, .int v7)] [] h5)) else (if xOb h5 x0 10 = true then xqI (xM S mX11_codeAt [.ref x0, .int x2] h5) xth fun v10 h9 => xqI (xM S mX11_isDigit [.int v10] h9) xth fun v12 h11 => if v12 = 0 then (some (.inl (some (.int x2)), h11, 0, 0)) else (xlet (x2 + (1 : Int32)) fun v13 => (xden S mX11_endOfLettersAndDigits 2 [(0, .ref x0), (2, .int v13)] [] h11)) else none) else none)) (xden S mX11_endOfLettersAndDigits 2 [(0, .ref x0), (2, .int x2)] [] h) := by
  refine l_loc dX11_endOfLettersAndDigits_2 rfl rfl ?_
  refine l_loc dX11_endOfLettersAndDigits_3 rfl rfl ?_
  refine l_gi dX11_endOfLettersAndDigits_4 fl_10_15 (fun v1 => ?_)
  refine l_cge (t := 38) dX11_endOfLettersAndDigits_7 rfl ?_ ?_
  · refine l_loc dX11_endOfLettersAndDigits_38 rfl rfl ?_
    exact l_iretn dX11_endOfLettersAndDigits_39 rfl (by rfl)
  · refine l_loc dX11_endOfLettersAndDigits_10 rfl rfl ?_
    refine l_loc dX11_endOfLettersAndDigits_11 rfl rfl ?_
    refine l_ob fun q2 => ?_
    refine l_cI dX11_endOfLettersAndDigits_12 rfl rfl rfl (l_xv cl_10_23 ko_mX11_codeAt rfl rfl rfl q2) rfl rfl nm_mX11_codeAt (xhE_th rfl) (fun v4 h3 => ?_)
    refine l_cI dX11_endOfLettersAndDigits_15 rfl rfl rfl (l_xs cl_10_31 ko_mX11_isLetter rfl rfl) rfl rfl nm_mX11_isLetter (xhE_th rfl) (fun v6 h5 => ?_)
    refine l_ine (t := 32) dX11_endOfLettersAndDigits_18 rfl ?_ ?_
    · refine l_incl (al1 := fun v7 => [(2, .int v7), (0, .ref x0)]) dX11_endOfLettersAndDigits_32 rfl kI_1 rfl (fun _ => rfl) (fun v7 => ?_)
      refine l_goto (t := 2) dX11_endOfLettersAndDigits_35 rfl ?_
      exact l_al rfl ⟨rfl, rfl, trivial⟩
    · refine l_loc dX11_endOfLettersAndDigits_21 rfl rfl ?_
      refine l_loc dX11_endOfLettersAndDigits_22 rfl rfl ?_
      refine l_ob fun q8 => ?_
      refine l_cI dX11_endOfLettersAndDigits_23 rfl rfl rfl (l_xv cl_10_23 ko_mX11_codeAt rfl rfl rfl q8) rfl rfl nm_mX11_codeAt (xhE_th rfl) (fun v10 h9 => ?_)
      refine l_cI dX11_endOfLettersAndDigits_26 rfl rfl rfl (l_xs cl_10_27 ko_mX11_isDigit rfl rfl) rfl rfl nm_mX11_isDigit (xhE_th rfl) (fun v12 h11 => ?_)
      refine l_ieq (t := 38) dX11_endOfLettersAndDigits_29 rfl ?_ ?_
      · refine l_loc dX11_endOfLettersAndDigits_38 rfl rfl ?_
        exact l_iretn dX11_endOfLettersAndDigits_39 rfl (by rfl)
      · refine l_incl (al1 := fun v13 => [(2, .int v13), (0, .ref x0)]) dX11_endOfLettersAndDigits_32 rfl kI_1 rfl (fun _ => rfl) (fun v13 => ?_)
        refine l_goto (t := 2) dX11_endOfLettersAndDigits_35 rfl ?_
        exact l_al rfl ⟨rfl, rfl, trivial⟩
set_option maxRecDepth 16000 in
theorem w_X11_isDigit (S : xS) (x0 : Int32) (h : xH) : xle (if x0 < (48 : Int32) then (some (.inl (some (.int (0 : Int32))), h, 0, 0)) else (if (57 : Int32) < x0 then (some (.inl (some (.int (0 : Int32))), h, 0, 0)) else (some (.inl (some (.int (1 : Int32))), h, 0, 0)))) (xM S mX11_isDigit [.int x0] h) := by
  show xle _ (xden S mX11_isDigit 0 [(0, .int x0)] [] h)
  refine l_loc dX11_isDigit_0 rfl rfl ?_
  refine l_bi dX11_isDigit_1 kB_48 ?_
  refine l_clt (t := 16) dX11_isDigit_3 rfl ?_ ?_
  · refine l_ic dX11_isDigit_16 kI_0 ?_
    exact l_iretn dX11_isDigit_17 rfl (by decide)
  · refine l_loc dX11_isDigit_6 rfl rfl ?_
    refine l_bi dX11_isDigit_7 kB_57 ?_
    refine l_cgt (t := 16) dX11_isDigit_9 rfl ?_ ?_
    · refine l_ic dX11_isDigit_16 kI_0 ?_
      exact l_iretn dX11_isDigit_17 rfl (by decide)
    · refine l_ic dX11_isDigit_12 kI_1 ?_
      refine l_goto (t := 17) dX11_isDigit_13 rfl ?_
      exact l_iretn dX11_isDigit_17 rfl (by decide)
set_option maxRecDepth 16000 in
theorem w_X9_valueIn (S : xS) (x0 : Nat) (x1 : Nat) (x2 : Int32) (x3 : Int32) (h : xH) : xle (if xCcl x0 = some 13 then xqI (xM S mX9_hasWords [.retAddr x0] h) xth fun v3 h2 => if v3 = 0 then (if x3 ≤ x2 then (some (.inl (some (.int (-1 : Int32))), h2, 0, 0)) else (if (3 : Int32) < (x3 - x2) then (some (.inl (some (.int (-1 : Int32))), h2, 0, 0)) else (if xOb h2 x1 10 = true then xqI (xM S mX11_endOfDigits [.ref x1, .int x2] h2) xth fun v6 h5 => if x3 ≤ v6 then (if xOb h5 x1 10 = true then xqI (xM S mX11_numberOf [.ref x1, .int x2, .int x3] h5) xth fun v9 h8 => (xCi x0 13 63).bind fun v10 => if v9 < v10 then (some (.inl (some (.int (-1 : Int32))), h8, 0, 0)) else ((xCi x0 13 66).bind fun v11 => if v11 < v9 then (some (.inl (some (.int (-1 : Int32))), h8, 0, 0)) else (some (.inl (some (.int v9)), h8, 0, 0))) else none) else (some (.inl (some (.int (-1 : Int32))), h5, 0, 0)) else none))) else ((xCk x0 13 74).bind fun v12 => if xOb h2 x1 10 = true then xqI (xM S mX11_matches [.ref x1, .int x2, .int x3, .retAddr v12] h2) xth fun v15 h14 => if v15 = 0 then ((xCk x0 13 77).bind fun v16 => if xOb h14 x1 10 = true then xqI (xM S mX11_matches [.ref x1, .int x2, .int x3, .retAddr v16] h14) xth fun v19 h18 => if v19 = 0 then (some (.inl (some (.int (-1 : Int32))), h18, 0, 0)) else (some (.inl (some (.int (1 : Int32))), h18, 0, 0)) else none) else (some (.inl (some (.int (0 : Int32))), h14, 0, 0)) else none) else none) (xM S mX9_valueIn [.retAddr x0, .ref x1, .int x2, .int x3] h) := by
  show xle _ (xden S mX9_valueIn 0 [(0, .retAddr x0), (1, .ref x1), (2, .int x2), (3, .int x3)] [] h)
  refine l_loc dX9_valueIn_0 rfl rfl ?_
  refine l_cl fun q1 => ?_
  refine l_cI dX9_valueIn_1 rfl rfl rfl (l_xk cl_13_86 ko_mX9_hasWords rfl rfl rfl q1) rfl rfl nm_mX9_hasWords (xhE_th rfl) (fun v3 h2 => ?_)
  refine l_ieq (t := 41) dX9_valueIn_4 rfl ?_ ?_
  · refine l_loc dX9_valueIn_41 rfl rfl ?_
    refine l_loc dX9_valueIn_42 rfl rfl ?_
    refine l_cle (t := 62) dX9_valueIn_43 rfl ?_ ?_
    · refine l_ic dX9_valueIn_62 kI_m1 ?_
      exact l_iretn dX9_valueIn_63 rfl (by rfl)
    · refine l_loc dX9_valueIn_46 rfl rfl ?_
      refine l_loc dX9_valueIn_47 rfl rfl ?_
      refine l_pure dX9_valueIn_48 rfl rfl ?_
      refine l_ic dX9_valueIn_49 kI_3 ?_
      refine l_cgt (t := 62) dX9_valueIn_50 rfl ?_ ?_
      · refine l_ic dX9_valueIn_62 kI_m1 ?_
        exact l_iretn dX9_valueIn_63 rfl (by rfl)
      · refine l_loc dX9_valueIn_53 rfl rfl ?_
        refine l_loc dX9_valueIn_54 rfl rfl ?_
        refine l_ob fun q4 => ?_
        refine l_cI dX9_valueIn_55 rfl rfl rfl (l_xv cl_13_95 ko_mX11_endOfDigits rfl rfl rfl q4) rfl rfl nm_mX11_endOfDigits (xhE_th rfl) (fun v6 h5 => ?_)
        refine l_loc dX9_valueIn_58 rfl rfl ?_
        refine l_cge (t := 64) dX9_valueIn_59 rfl ?_ ?_
        · refine l_loc dX9_valueIn_64 rfl rfl ?_
          refine l_loc dX9_valueIn_65 rfl rfl ?_
          refine l_loc dX9_valueIn_66 rfl rfl ?_
          refine l_ob fun q7 => ?_
          refine l_cI dX9_valueIn_67 rfl rfl rfl (l_xv cl_13_99 ko_mX11_numberOf rfl rfl rfl q7) rfl rfl nm_mX11_numberOf (xhE_th rfl) (fun v9 h8 => ?_)
          refine l_loc (al1 := [(4, .int v9), (0, .retAddr x0), (1, .ref x1), (2, .int x2), (3, .int x3)]) dX9_valueIn_70 rfl rfl ?_
          refine l_loc dX9_valueIn_72 rfl rfl ?_
          refine l_loc dX9_valueIn_74 rfl rfl ?_
          refine l_kj dX9_valueIn_75 rfl (fun v10 => ?_)
          refine l_clt (t := 95) dX9_valueIn_78 rfl ?_ ?_
          · refine l_ic dX9_valueIn_95 kI_m1 ?_
            exact l_iretn dX9_valueIn_96 rfl (by rfl)
          · refine l_loc dX9_valueIn_81 rfl rfl ?_
            refine l_loc dX9_valueIn_83 rfl rfl ?_
            refine l_kj dX9_valueIn_84 rfl (fun v11 => ?_)
            refine l_cgt (t := 95) dX9_valueIn_87 rfl ?_ ?_
            · refine l_ic dX9_valueIn_95 kI_m1 ?_
              exact l_iretn dX9_valueIn_96 rfl (by rfl)
            · refine l_loc dX9_valueIn_90 rfl rfl ?_
              refine l_goto (t := 96) dX9_valueIn_92 rfl ?_
              exact l_iretn dX9_valueIn_96 rfl (by rfl)
        · refine l_ic dX9_valueIn_62 kI_m1 ?_
          exact l_iretn dX9_valueIn_63 rfl (by rfl)
  · refine l_loc dX9_valueIn_7 rfl rfl ?_
    refine l_loc dX9_valueIn_8 rfl rfl ?_
    refine l_loc dX9_valueIn_9 rfl rfl ?_
    refine l_loc dX9_valueIn_10 rfl rfl ?_
    refine l_kl dX9_valueIn_11 rfl (fun v12 => ?_)
    refine l_ob fun q13 => ?_
    refine l_cI dX9_valueIn_14 rfl rfl rfl (l_xv cl_13_89 ko_mX11_matches rfl rfl rfl q13) rfl rfl nm_mX11_matches (xhE_th rfl) (fun v15 h14 => ?_)
    refine l_ieq (t := 22) dX9_valueIn_17 rfl ?_ ?_
    · refine l_loc dX9_valueIn_22 rfl rfl ?_
      refine l_loc dX9_valueIn_23 rfl rfl ?_
      refine l_loc dX9_valueIn_24 rfl rfl ?_
      refine l_loc dX9_valueIn_25 rfl rfl ?_
      refine l_kl dX9_valueIn_26 rfl (fun v16 => ?_)
      refine l_ob fun q17 => ?_
      refine l_cI dX9_valueIn_29 rfl rfl rfl (l_xv cl_13_89 ko_mX11_matches rfl rfl rfl q17) rfl rfl nm_mX11_matches (xhE_th rfl) (fun v19 h18 => ?_)
      refine l_ieq (t := 39) dX9_valueIn_32 rfl ?_ ?_
      · refine l_ic dX9_valueIn_39 kI_m1 ?_
        exact l_iretn dX9_valueIn_40 rfl (by rfl)
      · refine l_ic dX9_valueIn_35 kI_1 ?_
        refine l_goto (t := 40) dX9_valueIn_36 rfl ?_
        exact l_iretn dX9_valueIn_40 rfl (by rfl)
    · refine l_ic dX9_valueIn_20 kI_0 ?_
      exact l_iretn dX9_valueIn_21 rfl (by rfl)
set_option maxRecDepth 16000 in
theorem w_X9_hasWords (S : xS) (x0 : Nat) (h : xH) : xle ((xCk x0 13 74).bind fun v1 => if xCcl v1 = some 17 then xqI (xM S mJ0_isEmpty_aae02 [.retAddr v1] h) xth fun v4 h3 => if ¬ v4 = 0 then (some (.inl (some (.int (0 : Int32))), h3, 0, 0)) else (some (.inl (some (.int (1 : Int32))), h3, 0, 0)) else none) (xM S mX9_hasWords [.retAddr x0] h) := by
  show xle _ (xden S mX9_hasWords 0 [(0, .retAddr x0)] [] h)
  refine l_loc dX9_hasWords_0 rfl rfl ?_
  refine l_kl dX9_hasWords_1 rfl (fun v1 => ?_)
  refine l_cl fun q2 => ?_
  refine l_cI dX9_hasWords_4 rfl rfl rfl (l_xk cl_13_80 ko_mJ0_isEmpty_aae02 rfl rfl rfl q2) rfl rfl nm_mJ0_isEmpty_aae02 (xhE_th rfl) (fun v4 h3 => ?_)
  refine l_ine (t := 14) dX9_hasWords_7 rfl ?_ ?_
  · refine l_ic dX9_hasWords_14 kI_0 ?_
    exact l_iretn dX9_hasWords_15 rfl (by decide)
  · refine l_ic dX9_hasWords_10 kI_1 ?_
    refine l_goto (t := 15) dX9_hasWords_11 rfl ?_
    exact l_iretn dX9_hasWords_15 rfl (by decide)
theorem w_X11_endOfDigits (S : xS) (x0 : Nat) (x1 : Int32) (h : xH) : xle (xden S mX11_endOfDigits 2 [(0, .ref x0), (2, .int x1)] [] h) (xM S mX11_endOfDigits [.ref x0, .int x1] h) := by
  show xle _ (xden S mX11_endOfDigits 0 [(0, .ref x0), (1, .int x1)] [] h)
  refine l_loc dX11_endOfDigits_0 rfl rfl ?_
  refine l_loc (al1 := [(2, .int x1), (0, .ref x0), (1, .int x1)]) dX11_endOfDigits_1 rfl rfl ?_
  exact l_al rfl ⟨rfl, rfl, trivial⟩
set_option maxRecDepth 16000 in
theorem w_X11_endOfDigits_2 (S : xS) (x0 : Nat) (x2 : Int32) (h : xH) : xle ((xGi h x0 10 1).bind fun v1 => if v1 ≤ x2 then (some (.inl (some (.int x2)), h, 0, 0)) else (if xOb h x0 10 = true then xqI (xM S mX11_codeAt [.ref x0, .int x2] h) xth fun v4 h3 => xqI (xM S mX11_isDigit [.int v4] h3) xth fun v6 h5 => if v6 = 0 then (some (.inl (some (.int x2)), h5, 0, 0)) else (xlet (x2 + (1 : Int32)) fun v7 => (xden S mX11_endOfDigits 2 [(0, .ref x0), (2, .int v7)] [] h5)) else none)) (xden S mX11_endOfDigits 2 [(0, .ref x0), (2, .int x2)] [] h) := by
  refine l_loc dX11_endOfDigits_2 rfl rfl ?_
  refine l_loc dX11_endOfDigits_3 rfl rfl ?_
  refine l_gi dX11_endOfDigits_4 fl_10_15 (fun v1 => ?_)
  refine l_cge (t := 27) dX11_endOfDigits_7 rfl ?_ ?_
  · refine l_loc dX11_endOfDigits_27 rfl rfl ?_
    exact l_iretn dX11_endOfDigits_28 rfl (by rfl)
  · refine l_loc dX11_endOfDigits_10 rfl rfl ?_
    refine l_loc dX11_endOfDigits_11 rfl rfl ?_
    refine l_ob fun q2 => ?_
    refine l_cI dX11_endOfDigits_12 rfl rfl rfl (l_xv cl_10_23 ko_mX11_codeAt rfl rfl rfl q2) rfl rfl nm_mX11_codeAt (xhE_th rfl) (fun v4 h3 => ?_)
    refine l_cI dX11_endOfDigits_15 rfl rfl rfl (l_xs cl_10_27 ko_mX11_isDigit rfl rfl) rfl rfl nm_mX11_isDigit (xhE_th rfl) (fun v6 h5 => ?_)
    refine l_ieq (t := 27) dX11_endOfDigits_18 rfl ?_ ?_
    · refine l_loc dX11_endOfDigits_27 rfl rfl ?_
      exact l_iretn dX11_endOfDigits_28 rfl (by rfl)
    · refine l_incl (al1 := fun v7 => [(2, .int v7), (0, .ref x0)]) dX11_endOfDigits_21 rfl kI_1 rfl (fun _ => rfl) (fun v7 => ?_)
      refine l_goto (t := 2) dX11_endOfDigits_24 rfl ?_
      exact l_al rfl ⟨rfl, rfl, trivial⟩
theorem w_X11_numberOf (S : xS) (x0 : Nat) (x1 : Int32) (x2 : Int32) (h : xH) : xle (xden S mX11_numberOf 5 [(0, .ref x0), (2, .int x2), (3, .int (0 : Int32)), (4, .int x1)] [] h) (xM S mX11_numberOf [.ref x0, .int x1, .int x2] h) := by
  show xle _ (xden S mX11_numberOf 0 [(0, .ref x0), (1, .int x1), (2, .int x2)] [] h)
  refine l_ic dX11_numberOf_0 kI_0 ?_
  refine l_loc (al1 := [(3, .int (0 : Int32)), (0, .ref x0), (1, .int x1), (2, .int x2)]) dX11_numberOf_1 rfl rfl ?_
  refine l_loc dX11_numberOf_2 rfl rfl ?_
  refine l_loc (al1 := [(4, .int x1), (3, .int (0 : Int32)), (0, .ref x0), (1, .int x1), (2, .int x2)]) dX11_numberOf_3 rfl rfl ?_
  exact l_al rfl ⟨rfl, rfl, rfl, rfl, trivial⟩
set_option maxRecDepth 16000 in
theorem w_X11_numberOf_5 (S : xS) (x0 : Nat) (x2 : Int32) (x3 : Int32) (x4 : Int32) (h : xH) : xle (if x2 ≤ x4 then (some (.inl (some (.int x3)), h, 0, 0)) else (if xOb h x0 10 = true then xqI (xM S mX11_codeAt [.ref x0, .int x4] h) xth fun v3 h2 => xlet (((x3 * (10 : Int32)) + v3) - (48 : Int32)) fun v4 => xlet (x4 + (1 : Int32)) fun v5 => (xden S mX11_numberOf 5 [(0, .ref x0), (2, .int x2), (3, .int v4), (4, .int v5)] [] h2) else none)) (xden S mX11_numberOf 5 [(0, .ref x0), (2, .int x2), (3, .int x3), (4, .int x4)] [] h) := by
  refine l_loc dX11_numberOf_5 rfl rfl ?_
  refine l_loc dX11_numberOf_7 rfl rfl ?_
  refine l_cge (t := 32) dX11_numberOf_8 rfl ?_ ?_
  · refine l_loc dX11_numberOf_32 rfl rfl ?_
    exact l_iretn dX11_numberOf_33 rfl (by rfl)
  · refine l_loc dX11_numberOf_11 rfl rfl ?_
    refine l_bi dX11_numberOf_12 kB_10 ?_
    refine l_pure dX11_numberOf_14 rfl rfl ?_
    refine l_loc dX11_numberOf_15 rfl rfl ?_
    refine l_loc dX11_numberOf_16 rfl rfl ?_
    refine l_ob fun q1 => ?_
    refine l_cI dX11_numberOf_18 rfl rfl rfl (l_xv cl_10_23 ko_mX11_codeAt rfl rfl rfl q1) rfl rfl nm_mX11_codeAt (xhE_th rfl) (fun v3 h2 => ?_)
    refine l_pure dX11_numberOf_21 rfl rfl ?_
    refine l_bi dX11_numberOf_22 kB_48 ?_
    refine l_pure dX11_numberOf_24 rfl rfl ?_
    refine l_isl (al1 := fun v4 => [(3, .int v4), (0, .ref x0), (2, .int x2), (4, .int x4)]) dX11_numberOf_25 rfl (fun _ => rfl) (fun v4 => ?_)
    refine l_incl (al1 := fun v5 => [(4, .int v5), (3, .int v4), (0, .ref x0), (2, .int x2)]) dX11_numberOf_26 rfl kI_1 rfl (fun _ => rfl) (fun v5 => ?_)
    refine l_goto (t := 5) dX11_numberOf_29 rfl ?_
    exact l_al rfl ⟨rfl, rfl, rfl, rfl, trivial⟩
set_option maxRecDepth 16000 in
theorem w_X2_note (S : xS) (x0 : Nat) (x1 : Int32) (x2 : Int32) (h : xH) : xle (if x1 < 0 then (some (.inl none, h, 0, 0)) else ((xGr h x0 2 3).bind fun v1 => (xRz h v1).bind fun v2 => if x1 < v2 then ((xGr h x0 2 3).bind fun v3 => (xWi h v3 x1 x2).bind fun h4 => (xden S mX2_note 23 [(0, .ref x0), (1, .int x1), (3, .int (0 : Int32))] [] h4)) else (some (.inl none, h, 0, 0)))) (xM S mX2_note [.ref x0, .int x1, .int x2] h) := by
  show xle _ (xden S mX2_note 0 [(0, .ref x0), (1, .int x1), (2, .int x2)] [] h)
  refine l_loc dX2_note_0 rfl rfl ?_
  refine l_ilt (t := 13) dX2_note_1 rfl ?_ ?_
  · exact l_end dX2_note_13 rfl rfl
  · refine l_loc dX2_note_4 rfl rfl ?_
    refine l_loc dX2_note_5 rfl rfl ?_
    refine l_gr dX2_note_6 fl_2_22 (fun v1 => ?_)
    refine l_ln dX2_note_9 (fun v2 => ?_)
    refine l_clt (t := 14) dX2_note_10 rfl ?_ ?_
    · refine l_loc dX2_note_14 rfl rfl ?_
      refine l_gr dX2_note_15 fl_2_22 (fun v3 => ?_)
      refine l_loc dX2_note_18 rfl rfl ?_
      refine l_loc dX2_note_19 rfl rfl ?_
      refine l_wi dX2_note_20 (fun h4 => ?_)
      refine l_ic dX2_note_21 kI_0 ?_
      refine l_loc (al1 := [(3, .int (0 : Int32)), (0, .ref x0), (1, .int x1), (2, .int x2)]) dX2_note_22 rfl rfl ?_
      exact l_al rfl ⟨rfl, rfl, rfl, trivial⟩
    · exact l_end dX2_note_13 rfl rfl
set_option maxRecDepth 16000 in
theorem w_X2_note_23 (S : xS) (x0 : Nat) (x1 : Int32) (x3 : Int32) (h : xH) : xle ((xGi h x0 2 5).bind fun v1 => if v1 ≤ x3 then ((xGi h x0 2 5).bind fun v2 => (xGr h x0 2 4).bind fun v3 => (xRz h v3).bind fun v4 => if v4 ≤ v2 then (some (.inl none, h, 0, 0)) else ((xGr h x0 2 4).bind fun v5 => (xGi h x0 2 5).bind fun v6 => (xWi h v5 v6 x1).bind fun h7 => (xGi h7 x0 2 5).bind fun v8 => (xP false 2 h7 x0 2 5 (.int (v8 + (1 : Int32)))).bind fun h9 => some (.inl none, h9, 0, 0))) else ((xGr h x0 2 4).bind fun v10 => (xRi h 0 v10 x3).bind fun v11 => if ¬ v11 = x1 then (xlet (x3 + (1 : Int32)) fun v12 => (xden S mX2_note 23 [(0, .ref x0), (1, .int x1), (3, .int v12)] [] h)) else (some (.inl none, h, 0, 0)))) (xden S mX2_note 23 [(0, .ref x0), (1, .int x1), (3, .int x3)] [] h) := by
  refine l_loc dX2_note_23 rfl rfl ?_
  refine l_loc dX2_note_24 rfl rfl ?_
  refine l_gi dX2_note_25 fl_2_46 (fun v1 => ?_)
  refine l_cge (t := 48) dX2_note_28 rfl ?_ ?_
  · refine l_loc dX2_note_48 rfl rfl ?_
    refine l_gi dX2_note_49 fl_2_46 (fun v2 => ?_)
    refine l_loc dX2_note_52 rfl rfl ?_
    refine l_gr dX2_note_53 fl_2_25 (fun v3 => ?_)
    refine l_ln dX2_note_56 (fun v4 => ?_)
    refine l_cge (t := 80) dX2_note_57 rfl ?_ ?_
    · exact l_end dX2_note_80 rfl rfl
    · refine l_loc dX2_note_60 rfl rfl ?_
      refine l_gr dX2_note_61 fl_2_25 (fun v5 => ?_)
      refine l_loc dX2_note_64 rfl rfl ?_
      refine l_gi dX2_note_65 fl_2_46 (fun v6 => ?_)
      refine l_loc dX2_note_68 rfl rfl ?_
      refine l_wi dX2_note_69 (fun h7 => ?_)
      refine l_loc dX2_note_70 rfl rfl ?_
      refine l_pure dX2_note_71 rfl rfl ?_
      refine l_gi dX2_note_72 fl_2_46 (fun v8 => ?_)
      refine l_ic dX2_note_75 kI_1 ?_
      refine l_pure dX2_note_76 rfl rfl ?_
      refine l_pf dX2_note_77 fl_2_46 (ini := false) nm_mX2_note (fun h9 => ?_)
      exact l_end dX2_note_80 rfl rfl
  · refine l_loc dX2_note_31 rfl rfl ?_
    refine l_gr dX2_note_32 fl_2_25 (fun v10 => ?_)
    refine l_loc dX2_note_35 rfl rfl ?_
    refine l_ri dX2_note_36 (fun v11 => ?_)
    refine l_loc dX2_note_37 rfl rfl ?_
    refine l_cne (t := 42) dX2_note_38 rfl ?_ ?_
    · refine l_incl (al1 := fun v12 => [(3, .int v12), (0, .ref x0), (1, .int x1)]) dX2_note_42 rfl kI_1 rfl (fun _ => rfl) (fun v12 => ?_)
      refine l_goto (t := 23) dX2_note_45 rfl ?_
      exact l_al rfl ⟨rfl, rfl, rfl, trivial⟩
    · exact l_end dX2_note_41 rfl rfl
set_option maxRecDepth 16000 in
theorem w_X2_applyRead (S : xS) (x0 : Nat) (h : xH) : xle ((xGr h x0 2 3).bind fun v1 => (xGr h x0 2 0).bind fun v2 => (xCp h v1 (0 : Int32) v2 (0 : Int32) (10 : Int32)).bind fun h4 => (xGr h4 x0 2 4).bind fun v5 => (xGr h4 x0 2 1).bind fun v6 => (xCp h4 v5 (0 : Int32) v6 (0 : Int32) (10 : Int32)).bind fun h8 => (xGi h8 x0 2 5).bind fun v9 => (xP false 2 h8 x0 2 2 (.int v9)).bind fun h10 => some (.inl none, h10, 0, 0)) (xM S mX2_applyRead [.ref x0] h) := by
  show xle _ (xden S mX2_applyRead 0 [(0, .ref x0)] [] h)
  refine l_loc dX2_applyRead_0 rfl rfl ?_
  refine l_gr dX2_applyRead_1 fl_2_22 (fun v1 => ?_)
  refine l_ic dX2_applyRead_4 kI_0 ?_
  refine l_loc dX2_applyRead_5 rfl rfl ?_
  refine l_gr dX2_applyRead_6 fl_2_13 (fun v2 => ?_)
  refine l_ic dX2_applyRead_9 kI_0 ?_
  refine l_rd (st1 := [.retAddr 10, .int (0 : Int32), .ref v2, .int (0 : Int32), .ref v1]) dX2_applyRead_10 rfl rfl ?_
  refine l_rd (st1 := [.int (10 : Int32), .int (0 : Int32), .ref v2, .int (0 : Int32), .ref v1]) dX2_applyRead_13 rfl rfl ?_
  refine l_cpy dX2_applyRead_14 rfl rfl rfl rfl (fun h4 => ?_)
  refine l_loc dX2_applyRead_17 rfl rfl ?_
  refine l_gr dX2_applyRead_18 fl_2_25 (fun v5 => ?_)
  refine l_ic dX2_applyRead_21 kI_0 ?_
  refine l_loc dX2_applyRead_22 rfl rfl ?_
  refine l_gr dX2_applyRead_23 fl_2_19 (fun v6 => ?_)
  refine l_ic dX2_applyRead_26 kI_0 ?_
  refine l_rd (st1 := [.retAddr 10, .int (0 : Int32), .ref v6, .int (0 : Int32), .ref v5]) dX2_applyRead_27 rfl rfl ?_
  refine l_rd (st1 := [.int (10 : Int32), .int (0 : Int32), .ref v6, .int (0 : Int32), .ref v5]) dX2_applyRead_30 rfl rfl ?_
  refine l_cpy dX2_applyRead_31 rfl rfl rfl rfl (fun h8 => ?_)
  refine l_loc dX2_applyRead_34 rfl rfl ?_
  refine l_loc dX2_applyRead_35 rfl rfl ?_
  refine l_gi dX2_applyRead_36 fl_2_46 (fun v9 => ?_)
  refine l_pf dX2_applyRead_39 fl_2_43 (ini := false) nm_mX2_applyRead (fun h10 => ?_)
  exact l_end dX2_applyRead_42 rfl rfl
set_option maxRecDepth 16000 in
theorem w_X2_valueOf (S : xS) (x0 : Nat) (x1 : Nat) (h : xH) : xle ((xCi x1 2 34).bind fun v1 => if v1 < 0 then (some (.inl (some (.int (0 : Int32))), h, 0, 0)) else ((xGr h x0 2 0).bind fun v2 => (xRz h v2).bind fun v3 => if v3 ≤ v1 then (some (.inl (some (.int (0 : Int32))), h, 0, 0)) else ((xGr h x0 2 0).bind fun v4 => (xRi h 0 v4 v1).bind fun v5 => some (.inl (some (.int v5)), h, 0, 0)))) (xM S mX2_valueOf [.ref x0, .retAddr x1] h) := by
  show xle _ (xden S mX2_valueOf 0 [(0, .ref x0), (1, .retAddr x1)] [] h)
  refine l_loc dX2_valueOf_0 rfl rfl ?_
  refine l_kj dX2_valueOf_1 rfl (fun v1 => ?_)
  refine l_loc (al1 := [(2, .int v1), (0, .ref x0), (1, .retAddr x1)]) dX2_valueOf_4 rfl rfl ?_
  refine l_loc dX2_valueOf_5 rfl rfl ?_
  refine l_ilt (t := 27) dX2_valueOf_6 rfl ?_ ?_
  · refine l_ic dX2_valueOf_27 kI_0 ?_
    exact l_iretn dX2_valueOf_28 rfl (by rfl)
  · refine l_loc dX2_valueOf_9 rfl rfl ?_
    refine l_loc dX2_valueOf_10 rfl rfl ?_
    refine l_gr dX2_valueOf_11 fl_2_13 (fun v2 => ?_)
    refine l_ln dX2_valueOf_14 (fun v3 => ?_)
    refine l_cge (t := 27) dX2_valueOf_15 rfl ?_ ?_
    · refine l_ic dX2_valueOf_27 kI_0 ?_
      exact l_iretn dX2_valueOf_28 rfl (by rfl)
    · refine l_loc dX2_valueOf_18 rfl rfl ?_
      refine l_gr dX2_valueOf_19 fl_2_13 (fun v4 => ?_)
      refine l_loc dX2_valueOf_22 rfl rfl ?_
      refine l_ri dX2_valueOf_23 (fun v5 => ?_)
      refine l_goto (t := 28) dX2_valueOf_24 rfl ?_
      exact l_iretn dX2_valueOf_28 rfl (by rfl)
set_option maxRecDepth 16000 in
theorem w_X0_strip (S : xS) (x0 : Nat) (x1 : Nat) (x2 : Int32) (h : xH) : xle (if xOb h x0 0 = true then xqV (xM S mX0_begin [.ref x0, .ref x1] h) xth fun h2 => (xden S mX0_strip 10 [(0, .ref x0), (1, .ref x1), (2, .int x2), (3, .int (0 : Int32)), (4, .int (0 : Int32))] [] h2) else none) (xM S mX0_strip [.ref x0, .ref x1, .int x2] h) := by
  show xle _ (xden S mX0_strip 0 [(0, .ref x0), (1, .ref x1), (2, .int x2)] [] h)
  refine l_loc dX0_strip_0 rfl rfl ?_
  refine l_loc dX0_strip_1 rfl rfl ?_
  refine l_ob fun q1 => ?_
  refine l_cV dX0_strip_2 rfl rfl rfl (l_xv cl_0_25 ko_mX0_begin rfl rfl rfl q1) rfl rfl nm_mX0_begin (xhE_th rfl) (fun h2 => ?_)
  refine l_ic dX0_strip_5 kI_0 ?_
  refine l_loc (al1 := [(3, .int (0 : Int32)), (0, .ref x0), (1, .ref x1), (2, .int x2)]) dX0_strip_6 rfl rfl ?_
  refine l_ic dX0_strip_7 kI_0 ?_
  refine l_loc (al1 := [(4, .int (0 : Int32)), (3, .int (0 : Int32)), (0, .ref x0), (1, .ref x1), (2, .int x2)]) dX0_strip_8 rfl rfl ?_
  exact l_al rfl ⟨rfl, rfl, rfl, rfl, rfl, trivial⟩
set_option maxRecDepth 16000 in
theorem w_X0_strip_10 (S : xS) (x0 : Nat) (x1 : Nat) (x2 : Int32) (x3 : Int32) (x4 : Int32) (h : xH) : xle ((xGi h x0 0 1).bind fun v1 => if v1 ≤ x4 then (some (.inl (some (.int x3)), h, 0, 0)) else (if xOb h x0 0 = true then xqI (xM S mX0_findNext [.ref x0] h) xth fun v4 h3 => if v4 = 0 then (some (.inl (some (.int x3)), h3, 0, 0)) else (xlet (x4 + (1 : Int32)) fun v5 => if xOb h3 x0 0 = true then xqI (xM S mX0_pixels [.ref x0] h3) xth fun v8 h7 => if x2 ≤ v8 then (xden S mX0_strip 10 [(0, .ref x0), (1, .ref x1), (2, .int x2), (3, .int x3), (4, .int v5)] [] h7) else (if xOb h7 x0 0 = true then xqV (xM S mX0_erase [.ref x0, .ref x1] h7) xth fun h10 => xlet (x3 + (1 : Int32)) fun v12 => (xden S mX0_strip 10 [(0, .ref x0), (1, .ref x1), (2, .int x2), (3, .int v12), (4, .int v5)] [] h10) else none) else none) else none)) (xden S mX0_strip 10 [(0, .ref x0), (1, .ref x1), (2, .int x2), (3, .int x3), (4, .int x4)] [] h) := by
  refine l_loc dX0_strip_10 rfl rfl ?_
  refine l_loc dX0_strip_12 rfl rfl ?_
  refine l_gi dX0_strip_13 fl_0_15 (fun v1 => ?_)
  refine l_cge (t := 48) dX0_strip_16 rfl ?_ ?_
  · refine l_loc dX0_strip_48 rfl rfl ?_
    exact l_iretn dX0_strip_49 rfl (by rfl)
  · refine l_loc dX0_strip_19 rfl rfl ?_
    refine l_ob fun q2 => ?_
    refine l_cI dX0_strip_20 rfl rfl rfl (l_xv cl_0_29 ko_mX0_findNext rfl rfl rfl q2) rfl rfl nm_mX0_findNext (xhE_th rfl) (fun v4 h3 => ?_)
    refine l_ieq (t := 48) dX0_strip_23 rfl ?_ ?_
    · refine l_loc dX0_strip_48 rfl rfl ?_
      exact l_iretn dX0_strip_49 rfl (by rfl)
    · refine l_incl (al1 := fun v5 => [(4, .int v5), (0, .ref x0), (1, .ref x1), (2, .int x2), (3, .int x3)]) dX0_strip_26 rfl kI_1 rfl (fun _ => rfl) (fun v5 => ?_)
      refine l_loc dX0_strip_29 rfl rfl ?_
      refine l_ob fun q6 => ?_
      refine l_cI dX0_strip_30 rfl rfl rfl (l_xv cl_0_33 ko_mX0_pixels rfl rfl rfl q6) rfl rfl nm_mX0_pixels (xhE_th rfl) (fun v8 h7 => ?_)
      refine l_loc dX0_strip_33 rfl rfl ?_
      refine l_cge (t := 10) dX0_strip_34 rfl ?_ ?_
      · exact l_al rfl ⟨rfl, rfl, rfl, rfl, rfl, trivial⟩
      · refine l_loc dX0_strip_37 rfl rfl ?_
        refine l_loc dX0_strip_38 rfl rfl ?_
        refine l_ob fun q9 => ?_
        refine l_cV dX0_strip_39 rfl rfl rfl (l_xv cl_0_37 ko_mX0_erase rfl rfl rfl q9) rfl rfl nm_mX0_erase (xhE_th rfl) (fun h10 => ?_)
        refine l_incl (al1 := fun v12 => [(3, .int v12), (4, .int v5), (0, .ref x0), (1, .ref x1), (2, .int x2)]) dX0_strip_42 rfl kI_1 rfl (fun _ => rfl) (fun v12 => ?_)
        refine l_goto (t := 10) dX0_strip_45 rfl ?_
        exact l_al rfl ⟨rfl, rfl, rfl, rfl, rfl, trivial⟩
set_option maxRecDepth 16000 in
theorem w_X0_begin (S : xS) (x0 : Nat) (x1 : Nat) (h : xH) : xle ((xP false 0 h x0 0 4 (.int (0 : Int32))).bind fun h1 => (xP false 0 h1 x0 0 5 (.int (-1 : Int32))).bind fun h2 => (xden S mX0_begin 12 [(0, .ref x0), (1, .ref x1), (2, .int (0 : Int32))] [] h2)) (xM S mX0_begin [.ref x0, .ref x1] h) := by
  show xle _ (xden S mX0_begin 0 [(0, .ref x0), (1, .ref x1)] [] h)
  refine l_loc dX0_begin_0 rfl rfl ?_
  refine l_ic dX0_begin_1 kI_0 ?_
  refine l_pf dX0_begin_2 fl_0_40 (ini := false) nm_mX0_begin (fun h1 => ?_)
  refine l_loc dX0_begin_5 rfl rfl ?_
  refine l_ic dX0_begin_6 kI_m1 ?_
  refine l_pf dX0_begin_7 fl_0_43 (ini := false) nm_mX0_begin (fun h2 => ?_)
  refine l_ic dX0_begin_10 kI_0 ?_
  refine l_loc (al1 := [(2, .int (0 : Int32)), (0, .ref x0), (1, .ref x1)]) dX0_begin_11 rfl rfl ?_
  exact l_al rfl ⟨rfl, rfl, rfl, trivial⟩
set_option maxRecDepth 16000 in
theorem w_X0_begin_12 (S : xS) (x0 : Nat) (x1 : Nat) (x2 : Int32) (h : xH) : xle ((xGi h x0 0 0).bind fun v1 => if v1 ≤ x2 then (some (.inl none, h, 0, 0)) else ((xGr h x0 0 2).bind fun v2 => if xOb h x1 4 = true then xqJ (xM S mX4_rowAt [.ref x1, .int x2] h) xth fun v5 h4 => (xWl h4 v2 x2 v5).bind fun h6 => (xGr h6 x0 0 3).bind fun v7 => (xWl h6 v7 x2 (0 : Int64)).bind fun h8 => xlet (x2 + (1 : Int32)) fun v9 => (xden S mX0_begin 12 [(0, .ref x0), (1, .ref x1), (2, .int v9)] [] h8) else none)) (xden S mX0_begin 12 [(0, .ref x0), (1, .ref x1), (2, .int x2)] [] h) := by
  refine l_loc dX0_begin_12 rfl rfl ?_
  refine l_loc dX0_begin_13 rfl rfl ?_
  refine l_gi dX0_begin_14 fl_0_9 (fun v1 => ?_)
  refine l_cge (t := 44) dX0_begin_17 rfl ?_ ?_
  · exact l_end dX0_begin_44 rfl rfl
  · refine l_loc dX0_begin_20 rfl rfl ?_
    refine l_gr dX0_begin_21 fl_0_18 (fun v2 => ?_)
    refine l_loc dX0_begin_24 rfl rfl ?_
    refine l_loc dX0_begin_25 rfl rfl ?_
    refine l_loc dX0_begin_26 rfl rfl ?_
    refine l_ob fun q3 => ?_
    refine l_cJ dX0_begin_27 rfl rfl rfl (l_xv cl_0_46 ko_mX4_rowAt rfl rfl rfl q3) rfl rfl nm_mX4_rowAt (xhE_th rfl) (fun v5 h4 => ?_)
    refine l_wl dX0_begin_30 (fun h6 => ?_)
    refine l_loc dX0_begin_31 rfl rfl ?_
    refine l_gr dX0_begin_32 fl_0_22 (fun v7 => ?_)
    refine l_loc dX0_begin_35 rfl rfl ?_
    refine l_lc0 dX0_begin_36 ?_
    refine l_wl dX0_begin_37 (fun h8 => ?_)
    refine l_incl (al1 := fun v9 => [(2, .int v9), (0, .ref x0), (1, .ref x1)]) dX0_begin_38 rfl kI_1 rfl (fun _ => rfl) (fun v9 => ?_)
    refine l_goto (t := 12) dX0_begin_41 rfl ?_
    exact l_al rfl ⟨rfl, rfl, rfl, trivial⟩
theorem w_X0_findNext (S : xS) (x0 : Nat) (h : xH) : xle ((xGi h x0 0 4).bind fun v1 => (xden S mX0_findNext 5 [(0, .ref x0), (1, .int v1)] [] h)) (xM S mX0_findNext [.ref x0] h) := by
  show xle _ (xden S mX0_findNext 0 [(0, .ref x0)] [] h)
  refine l_loc dX0_findNext_0 rfl rfl ?_
  refine l_gi dX0_findNext_1 fl_0_40 (fun v1 => ?_)
  refine l_loc (al1 := [(1, .int v1), (0, .ref x0)]) dX0_findNext_4 rfl rfl ?_
  exact l_al rfl ⟨rfl, rfl, trivial⟩
set_option maxRecDepth 16000 in
theorem w_X0_findNext_5 (S : xS) (x0 : Nat) (x1 : Int32) (h : xH) : xle ((xGi h x0 0 5).bind fun v1 => if v1 < x1 then (xden S mX0_findNext 28 [(0, .ref x0), (1, .int (0 : Int32))] [] h) else ((xGr h x0 0 3).bind fun v2 => (xWl h v2 x1 (0 : Int64)).bind fun h3 => xlet (x1 + (1 : Int32)) fun v4 => (xden S mX0_findNext 5 [(0, .ref x0), (1, .int v4)] [] h3))) (xden S mX0_findNext 5 [(0, .ref x0), (1, .int x1)] [] h) := by
  refine l_loc dX0_findNext_5 rfl rfl ?_
  refine l_loc dX0_findNext_6 rfl rfl ?_
  refine l_gi dX0_findNext_7 fl_0_43 (fun v1 => ?_)
  refine l_cgt (t := 26) dX0_findNext_10 rfl ?_ ?_
  · refine l_ic dX0_findNext_26 kI_0 ?_
    refine l_loc (al1 := [(1, .int (0 : Int32)), (0, .ref x0)]) dX0_findNext_27 rfl rfl ?_
    exact l_al rfl ⟨rfl, rfl, trivial⟩
  · refine l_loc dX0_findNext_13 rfl rfl ?_
    refine l_gr dX0_findNext_14 fl_0_22 (fun v2 => ?_)
    refine l_loc dX0_findNext_17 rfl rfl ?_
    refine l_lc0 dX0_findNext_18 ?_
    refine l_wl dX0_findNext_19 (fun h3 => ?_)
    refine l_incl (al1 := fun v4 => [(1, .int v4), (0, .ref x0)]) dX0_findNext_20 rfl kI_1 rfl (fun _ => rfl) (fun v4 => ?_)
    refine l_goto (t := 5) dX0_findNext_23 rfl ?_
    exact l_al rfl ⟨rfl, rfl, trivial⟩
set_option maxRecDepth 16000 in
theorem w_X0_findNext_28 (S : xS) (x0 : Nat) (x1 : Int32) (h : xH) : xle ((xGi h x0 0 0).bind fun v1 => if v1 ≤ x1 then ((xP false 0 h x0 0 5 (.int (-1 : Int32))).bind fun h2 => some (.inl (some (.int (0 : Int32))), h2, 0, 0)) else ((xGr h x0 0 2).bind fun v3 => (xRl h v3 x1).bind fun v4 => if (lg_cmp v4 (0 : Int64)) = 0 then (xlet (x1 + (1 : Int32)) fun v5 => (xden S mX0_findNext 28 [(0, .ref x0), (1, .int v5)] [] h)) else ((xP false 0 h x0 0 4 (.int x1)).bind fun h6 => (xP false 0 h6 x0 0 5 (.int x1)).bind fun h7 => (xGr h7 x0 0 3).bind fun v8 => (xGr h7 x0 0 2).bind fun v9 => (xRl h7 v9 x1).bind fun v10 => (xGr h7 x0 0 2).bind fun v11 => (xRl h7 v11 x1).bind fun v12 => (xWl h7 v8 x1 (v10 &&& (-v12))).bind fun h13 => if xOb h13 x0 0 = true then xqV (xM S mX0_grow [.ref x0] h13) xth fun h15 => if xOb h15 x0 0 = true then xqV (xM S mX0_close [.ref x0] h15) xth fun h18 => some (.inl (some (.int (1 : Int32))), h18, 0, 0) else none else none))) (xden S mX0_findNext 28 [(0, .ref x0), (1, .int x1)] [] h) := by
  refine l_loc dX0_findNext_28 rfl rfl ?_
  refine l_loc dX0_findNext_29 rfl rfl ?_
  refine l_gi dX0_findNext_30 fl_0_9 (fun v1 => ?_)
  refine l_cge (t := 93) dX0_findNext_33 rfl ?_ ?_
  · refine l_loc dX0_findNext_93 rfl rfl ?_
    refine l_ic dX0_findNext_94 kI_m1 ?_
    refine l_pf dX0_findNext_95 fl_0_43 (ini := false) nm_mX0_findNext (fun h2 => ?_)
    refine l_ic dX0_findNext_98 kI_0 ?_
    exact l_iretn dX0_findNext_99 rfl (by decide)
  · refine l_loc dX0_findNext_36 rfl rfl ?_
    refine l_gr dX0_findNext_37 fl_0_18 (fun v3 => ?_)
    refine l_loc dX0_findNext_40 rfl rfl ?_
    refine l_rl dX0_findNext_41 (fun v4 => ?_)
    refine l_lc0 dX0_findNext_42 ?_
    refine l_pure dX0_findNext_43 rfl rfl ?_
    refine l_ieq (t := 87) dX0_findNext_44 rfl ?_ ?_
    · refine l_incl (al1 := fun v5 => [(1, .int v5), (0, .ref x0)]) dX0_findNext_87 rfl kI_1 rfl (fun _ => rfl) (fun v5 => ?_)
      refine l_goto (t := 28) dX0_findNext_90 rfl ?_
      exact l_al rfl ⟨rfl, rfl, trivial⟩
    · refine l_loc dX0_findNext_47 rfl rfl ?_
      refine l_loc dX0_findNext_48 rfl rfl ?_
      refine l_pf dX0_findNext_49 fl_0_40 (ini := false) nm_mX0_findNext (fun h6 => ?_)
      refine l_loc dX0_findNext_52 rfl rfl ?_
      refine l_loc dX0_findNext_53 rfl rfl ?_
      refine l_pf dX0_findNext_54 fl_0_43 (ini := false) nm_mX0_findNext (fun h7 => ?_)
      refine l_loc dX0_findNext_57 rfl rfl ?_
      refine l_gr dX0_findNext_58 fl_0_22 (fun v8 => ?_)
      refine l_loc dX0_findNext_61 rfl rfl ?_
      refine l_loc dX0_findNext_62 rfl rfl ?_
      refine l_gr dX0_findNext_63 fl_0_18 (fun v9 => ?_)
      refine l_loc dX0_findNext_66 rfl rfl ?_
      refine l_rl dX0_findNext_67 (fun v10 => ?_)
      refine l_loc dX0_findNext_68 rfl rfl ?_
      refine l_gr dX0_findNext_69 fl_0_18 (fun v11 => ?_)
      refine l_loc dX0_findNext_72 rfl rfl ?_
      refine l_rl dX0_findNext_73 (fun v12 => ?_)
      refine l_pure dX0_findNext_74 rfl rfl ?_
      refine l_pure dX0_findNext_75 rfl rfl ?_
      refine l_wl dX0_findNext_76 (fun h13 => ?_)
      refine l_loc dX0_findNext_77 rfl rfl ?_
      refine l_ob fun q14 => ?_
      refine l_cV dX0_findNext_78 rfl rfl rfl (l_xv cl_0_52 ko_mX0_grow rfl rfl rfl q14) rfl rfl nm_mX0_grow (xhE_th rfl) (fun h15 => ?_)
      refine l_loc dX0_findNext_81 rfl rfl ?_
      refine l_ob fun q17 => ?_
      refine l_cV dX0_findNext_82 rfl rfl rfl (l_xv cl_0_55 ko_mX0_close rfl rfl rfl q17) rfl rfl nm_mX0_close (xhE_th rfl) (fun h18 => ?_)
      refine l_ic dX0_findNext_85 kI_1 ?_
      exact l_iretn dX0_findNext_86 rfl (by decide)
theorem w_X0_grow (S : xS) (x0 : Nat) (h : xH) : xle (xden S mX0_grow 4 [(0, .ref x0), (1, .int (1 : Int32)), (2, .int (0 : Int32))] [] h) (xM S mX0_grow [.ref x0] h) := by
  show xle _ (xden S mX0_grow 0 [(0, .ref x0)] [] h)
  refine l_ic dX0_grow_0 kI_1 ?_
  refine l_loc (al1 := [(1, .int (1 : Int32)), (0, .ref x0)]) dX0_grow_1 rfl rfl ?_
  refine l_ic dX0_grow_2 kI_0 ?_
  refine l_loc (al1 := [(2, .int (0 : Int32)), (1, .int (1 : Int32)), (0, .ref x0)]) dX0_grow_3 rfl rfl ?_
  exact l_al rfl ⟨rfl, rfl, rfl, trivial⟩
set_option maxRecDepth 16000 in
theorem w_X0_grow_4 (S : xS) (x0 : Nat) (x1 : Int32) (x2 : Int32) (h : xH) : xle (if x1 = 0 then (some (.inl none, h, 0, 0)) else ((xGi h x0 0 1).bind fun v1 => if v1 < x2 then (some (.inl none, h, 0, 0)) else ((xGi h x0 0 4).bind fun v2 => (xden S mX0_grow 23 [(0, .ref x0), (1, .int (0 : Int32)), (2, .int x2), (3, .int v2)] [] h)))) (xden S mX0_grow 4 [(0, .ref x0), (1, .int x1), (2, .int x2)] [] h) := by
  refine l_loc dX0_grow_4 rfl rfl ?_
  refine l_ieq (t := 108) dX0_grow_5 rfl ?_ ?_
  · exact l_end dX0_grow_108 rfl rfl
  · refine l_loc dX0_grow_8 rfl rfl ?_
    refine l_loc dX0_grow_9 rfl rfl ?_
    refine l_gi dX0_grow_10 fl_0_15 (fun v1 => ?_)
    refine l_cgt (t := 108) dX0_grow_13 rfl ?_ ?_
    · exact l_end dX0_grow_108 rfl rfl
    · refine l_ic dX0_grow_16 kI_0 ?_
      refine l_loc (al1 := [(1, .int (0 : Int32)), (0, .ref x0), (2, .int x2)]) dX0_grow_17 rfl rfl ?_
      refine l_loc dX0_grow_18 rfl rfl ?_
      refine l_gi dX0_grow_19 fl_0_40 (fun v2 => ?_)
      refine l_loc (al1 := [(3, .int v2), (1, .int (0 : Int32)), (0, .ref x0), (2, .int x2)]) dX0_grow_22 rfl rfl ?_
      exact l_al rfl ⟨rfl, rfl, rfl, rfl, trivial⟩
set_option maxRecDepth 16000 in
theorem w_X0_grow_23 (S : xS) (x0 : Nat) (x1 : Int32) (x2 : Int32) (x3 : Int32) (h : xH) : xle ((xGi h x0 0 0).bind fun v1 => if v1 ≤ x3 then ((xGi h x0 0 5).bind fun v2 => (xden S mX0_grow 70 [(0, .ref x0), (1, .int x1), (2, .int x2), (3, .int v2)] [] h)) else ((xGi h x0 0 5).bind fun v3 => if (v3 + (1 : Int32)) < x3 then ((xGi h x0 0 5).bind fun v4 => (xden S mX0_grow 70 [(0, .ref x0), (1, .int x1), (2, .int x2), (3, .int v4)] [] h)) else (if xOb h x0 0 = true then xqI (xM S mX0_spread [.ref x0, .int x3] h) xth fun v7 h6 => if ¬ v7 = 0 then (xlet (x3 + (1 : Int32)) fun v8 => (xden S mX0_grow 23 [(0, .ref x0), (1, .int (1 : Int32)), (2, .int x2), (3, .int v8)] [] h6)) else (if x1 = 0 then (xlet (x3 + (1 : Int32)) fun v9 => (xden S mX0_grow 23 [(0, .ref x0), (1, .int (0 : Int32)), (2, .int x2), (3, .int v9)] [] h6)) else (xlet (x3 + (1 : Int32)) fun v10 => (xden S mX0_grow 23 [(0, .ref x0), (1, .int (1 : Int32)), (2, .int x2), (3, .int v10)] [] h6))) else none))) (xden S mX0_grow 23 [(0, .ref x0), (1, .int x1), (2, .int x2), (3, .int x3)] [] h) := by
  refine l_loc dX0_grow_23 rfl rfl ?_
  refine l_loc dX0_grow_24 rfl rfl ?_
  refine l_gi dX0_grow_25 fl_0_9 (fun v1 => ?_)
  refine l_cge (t := 65) dX0_grow_28 rfl ?_ ?_
  · refine l_loc dX0_grow_65 rfl rfl ?_
    refine l_gi dX0_grow_66 fl_0_43 (fun v2 => ?_)
    refine l_loc (al1 := [(3, .int v2), (0, .ref x0), (1, .int x1), (2, .int x2)]) dX0_grow_69 rfl rfl ?_
    exact l_al rfl ⟨rfl, rfl, rfl, rfl, trivial⟩
  · refine l_loc dX0_grow_31 rfl rfl ?_
    refine l_loc dX0_grow_32 rfl rfl ?_
    refine l_gi dX0_grow_33 fl_0_43 (fun v3 => ?_)
    refine l_ic dX0_grow_36 kI_1 ?_
    refine l_pure dX0_grow_37 rfl rfl ?_
    refine l_cgt (t := 65) dX0_grow_38 rfl ?_ ?_
    · refine l_loc dX0_grow_65 rfl rfl ?_
      refine l_gi dX0_grow_66 fl_0_43 (fun v4 => ?_)
      refine l_loc (al1 := [(3, .int v4), (0, .ref x0), (1, .int x1), (2, .int x2)]) dX0_grow_69 rfl rfl ?_
      exact l_al rfl ⟨rfl, rfl, rfl, rfl, trivial⟩
    · refine l_loc dX0_grow_41 rfl rfl ?_
      refine l_loc dX0_grow_42 rfl rfl ?_
      refine l_ob fun q5 => ?_
      refine l_cI dX0_grow_43 rfl rfl rfl (l_xv cl_0_58 ko_mX0_spread rfl rfl rfl q5) rfl rfl nm_mX0_spread (xhE_th rfl) (fun v7 h6 => ?_)
      refine l_ine (t := 53) dX0_grow_46 rfl ?_ ?_
      · refine l_ic dX0_grow_53 kI_1 ?_
        refine l_goto (t := 58) dX0_grow_54 rfl ?_
        refine l_loc (al1 := [(1, .int (1 : Int32)), (0, .ref x0), (2, .int x2), (3, .int x3)]) dX0_grow_58 rfl rfl ?_
        refine l_incl (al1 := fun v8 => [(3, .int v8), (1, .int (1 : Int32)), (0, .ref x0), (2, .int x2)]) dX0_grow_59 rfl kI_1 rfl (fun _ => rfl) (fun v8 => ?_)
        refine l_goto (t := 23) dX0_grow_62 rfl ?_
        exact l_al rfl ⟨rfl, rfl, rfl, rfl, trivial⟩
      · refine l_loc dX0_grow_49 rfl rfl ?_
        refine l_ieq (t := 57) dX0_grow_50 rfl ?_ ?_
        · refine l_ic dX0_grow_57 kI_0 ?_
          refine l_loc (al1 := [(1, .int (0 : Int32)), (0, .ref x0), (2, .int x2), (3, .int x3)]) dX0_grow_58 rfl rfl ?_
          refine l_incl (al1 := fun v9 => [(3, .int v9), (1, .int (0 : Int32)), (0, .ref x0), (2, .int x2)]) dX0_grow_59 rfl kI_1 rfl (fun _ => rfl) (fun v9 => ?_)
          refine l_goto (t := 23) dX0_grow_62 rfl ?_
          exact l_al rfl ⟨rfl, rfl, rfl, rfl, trivial⟩
        · refine l_ic dX0_grow_53 kI_1 ?_
          refine l_goto (t := 58) dX0_grow_54 rfl ?_
          refine l_loc (al1 := [(1, .int (1 : Int32)), (0, .ref x0), (2, .int x2), (3, .int x3)]) dX0_grow_58 rfl rfl ?_
          refine l_incl (al1 := fun v10 => [(3, .int v10), (1, .int (1 : Int32)), (0, .ref x0), (2, .int x2)]) dX0_grow_59 rfl kI_1 rfl (fun _ => rfl) (fun v10 => ?_)
          refine l_goto (t := 23) dX0_grow_62 rfl ?_
          exact l_al rfl ⟨rfl, rfl, rfl, rfl, trivial⟩
set_option maxRecDepth 16000 in
theorem w_X0_grow_70 (S : xS) (x0 : Nat) (x1 : Int32) (x2 : Int32) (x3 : Int32) (h : xH) : xle ((xGi h x0 0 4).bind fun v1 => if x3 < v1 then (xlet (x2 + (1 : Int32)) fun v2 => (xden S mX0_grow 4 [(0, .ref x0), (1, .int x1), (2, .int v2)] [] h)) else (if xOb h x0 0 = true then xqI (xM S mX0_spread [.ref x0, .int x3] h) xth fun v5 h4 => if ¬ v5 = 0 then (xlet (x3 + (-1 : Int32)) fun v6 => (xden S mX0_grow 70 [(0, .ref x0), (1, .int (1 : Int32)), (2, .int x2), (3, .int v6)] [] h4)) else (if x1 = 0 then (xlet (x3 + (-1 : Int32)) fun v7 => (xden S mX0_grow 70 [(0, .ref x0), (1, .int (0 : Int32)), (2, .int x2), (3, .int v7)] [] h4)) else (xlet (x3 + (-1 : Int32)) fun v8 => (xden S mX0_grow 70 [(0, .ref x0), (1, .int (1 : Int32)), (2, .int x2), (3, .int v8)] [] h4))) else none)) (xden S mX0_grow 70 [(0, .ref x0), (1, .int x1), (2, .int x2), (3, .int x3)] [] h) := by
  refine l_loc dX0_grow_70 rfl rfl ?_
  refine l_loc dX0_grow_71 rfl rfl ?_
  refine l_gi dX0_grow_72 fl_0_40 (fun v1 => ?_)
  refine l_clt (t := 102) dX0_grow_75 rfl ?_ ?_
  · refine l_incl (al1 := fun v2 => [(2, .int v2), (0, .ref x0), (1, .int x1), (3, .int x3)]) dX0_grow_102 rfl kI_1 rfl (fun _ => rfl) (fun v2 => ?_)
    refine l_goto (t := 4) dX0_grow_105 rfl ?_
    exact l_al rfl ⟨rfl, rfl, rfl, trivial⟩
  · refine l_loc dX0_grow_78 rfl rfl ?_
    refine l_loc dX0_grow_79 rfl rfl ?_
    refine l_ob fun q3 => ?_
    refine l_cI dX0_grow_80 rfl rfl rfl (l_xv cl_0_58 ko_mX0_spread rfl rfl rfl q3) rfl rfl nm_mX0_spread (xhE_th rfl) (fun v5 h4 => ?_)
    refine l_ine (t := 90) dX0_grow_83 rfl ?_ ?_
    · refine l_ic dX0_grow_90 kI_1 ?_
      refine l_goto (t := 95) dX0_grow_91 rfl ?_
      refine l_loc (al1 := [(1, .int (1 : Int32)), (0, .ref x0), (2, .int x2), (3, .int x3)]) dX0_grow_95 rfl rfl ?_
      refine l_incl (al1 := fun v6 => [(3, .int v6), (1, .int (1 : Int32)), (0, .ref x0), (2, .int x2)]) dX0_grow_96 rfl kI_m1 rfl (fun _ => rfl) (fun v6 => ?_)
      refine l_goto (t := 70) dX0_grow_99 rfl ?_
      exact l_al rfl ⟨rfl, rfl, rfl, rfl, trivial⟩
    · refine l_loc dX0_grow_86 rfl rfl ?_
      refine l_ieq (t := 94) dX0_grow_87 rfl ?_ ?_
      · refine l_ic dX0_grow_94 kI_0 ?_
        refine l_loc (al1 := [(1, .int (0 : Int32)), (0, .ref x0), (2, .int x2), (3, .int x3)]) dX0_grow_95 rfl rfl ?_
        refine l_incl (al1 := fun v7 => [(3, .int v7), (1, .int (0 : Int32)), (0, .ref x0), (2, .int x2)]) dX0_grow_96 rfl kI_m1 rfl (fun _ => rfl) (fun v7 => ?_)
        refine l_goto (t := 70) dX0_grow_99 rfl ?_
        exact l_al rfl ⟨rfl, rfl, rfl, rfl, trivial⟩
      · refine l_ic dX0_grow_90 kI_1 ?_
        refine l_goto (t := 95) dX0_grow_91 rfl ?_
        refine l_loc (al1 := [(1, .int (1 : Int32)), (0, .ref x0), (2, .int x2), (3, .int x3)]) dX0_grow_95 rfl rfl ?_
        refine l_incl (al1 := fun v8 => [(3, .int v8), (1, .int (1 : Int32)), (0, .ref x0), (2, .int x2)]) dX0_grow_96 rfl kI_m1 rfl (fun _ => rfl) (fun v8 => ?_)
        refine l_goto (t := 70) dX0_grow_99 rfl ?_
        exact l_al rfl ⟨rfl, rfl, rfl, rfl, trivial⟩
set_option maxRecDepth 16000 in
theorem w_X0_spread (S : xS) (x0 : Nat) (x1 : Int32) (h : xH) : xle (if x1 < 0 then (some (.inl (some (.int (0 : Int32))), h, 0, 0)) else ((xGi h x0 0 0).bind fun v1 => if x1 < v1 then (if xOb h x0 0 = true then xqJ (xM S mX0_blobAt [.ref x0, .int (x1 - (1 : Int32))] h) xth fun v4 h3 => (xGr h3 x0 0 3).bind fun v5 => (xRl h3 v5 x1).bind fun v6 => if xOb h3 x0 0 = true then xqJ (xM S mX0_blobAt [.ref x0, .int (x1 + (1 : Int32))] h3) xth fun v9 h8 => xlet ((v4 ||| v6) ||| v9) fun v10 => (xGr h8 x0 0 2).bind fun v11 => (xRl h8 v11 x1).bind fun v12 => xqJ (xM S mX0_widened [.long v10, .long v12] h8) xth fun v14 h13 => (xGr h13 x0 0 3).bind fun v15 => (xRl h13 v15 x1).bind fun v16 => if ¬ (lg_cmp v14 v16) = 0 then ((xGr h13 x0 0 3).bind fun v17 => (xWl h13 v17 x1 v14).bind fun h18 => (xGi h18 x0 0 5).bind fun v19 => xqI (xM S mJ9_max_7cf53 [.int v19, .int x1] h18) xth fun v21 h20 => (xP false 0 h20 x0 0 5 (.int v21)).bind fun h22 => some (.inl (some (.int (1 : Int32))), h22, 0, 0)) else (some (.inl (some (.int (0 : Int32))), h13, 0, 0)) else none else none) else (some (.inl (some (.int (0 : Int32))), h, 0, 0)))) (xM S mX0_spread [.ref x0, .int x1] h) := by
  show xle _ (xden S mX0_spread 0 [(0, .ref x0), (1, .int x1)] [] h)
  refine l_loc dX0_spread_0 rfl rfl ?_
  refine l_ilt (t := 12) dX0_spread_1 rfl ?_ ?_
  · refine l_ic dX0_spread_12 kI_0 ?_
    exact l_iretn dX0_spread_13 rfl (by decide)
  · refine l_loc dX0_spread_4 rfl rfl ?_
    refine l_loc dX0_spread_5 rfl rfl ?_
    refine l_gi dX0_spread_6 fl_0_9 (fun v1 => ?_)
    refine l_clt (t := 14) dX0_spread_9 rfl ?_ ?_
    · refine l_loc dX0_spread_14 rfl rfl ?_
      refine l_loc dX0_spread_15 rfl rfl ?_
      refine l_ic dX0_spread_16 kI_1 ?_
      refine l_pure dX0_spread_17 rfl rfl ?_
      refine l_ob fun q2 => ?_
      refine l_cJ dX0_spread_18 rfl rfl rfl (l_xv cl_0_62 ko_mX0_blobAt rfl rfl rfl q2) rfl rfl nm_mX0_blobAt (xhE_th rfl) (fun v4 h3 => ?_)
      refine l_loc dX0_spread_21 rfl rfl ?_
      refine l_gr dX0_spread_22 fl_0_22 (fun v5 => ?_)
      refine l_loc dX0_spread_25 rfl rfl ?_
      refine l_rl dX0_spread_26 (fun v6 => ?_)
      refine l_pure dX0_spread_27 rfl rfl ?_
      refine l_loc dX0_spread_28 rfl rfl ?_
      refine l_loc dX0_spread_29 rfl rfl ?_
      refine l_ic dX0_spread_30 kI_1 ?_
      refine l_pure dX0_spread_31 rfl rfl ?_
      refine l_ob fun q7 => ?_
      refine l_cJ dX0_spread_32 rfl rfl rfl (l_xv cl_0_62 ko_mX0_blobAt rfl rfl rfl q7) rfl rfl nm_mX0_blobAt (xhE_th rfl) (fun v9 h8 => ?_)
      refine l_pure dX0_spread_35 rfl rfl ?_
      refine l_lsl (al1 := fun v10 => [(2, .long v10), (0, .ref x0), (1, .int x1)]) dX0_spread_36 rfl (fun _ => rfl) (fun v10 => ?_)
      refine l_loc dX0_spread_37 rfl rfl ?_
      refine l_loc dX0_spread_38 rfl rfl ?_
      refine l_gr dX0_spread_39 fl_0_18 (fun v11 => ?_)
      refine l_loc dX0_spread_42 rfl rfl ?_
      refine l_rl dX0_spread_43 (fun v12 => ?_)
      refine l_cJ dX0_spread_44 rfl rfl rfl (l_xs cl_0_65 ko_mX0_widened rfl rfl) rfl rfl nm_mX0_widened (xhE_th rfl) (fun v14 h13 => ?_)
      refine l_loc (al1 := [(4, .long v14), (2, .long v10), (0, .ref x0), (1, .int x1)]) dX0_spread_47 rfl rfl ?_
      refine l_loc dX0_spread_49 rfl rfl ?_
      refine l_loc dX0_spread_51 rfl rfl ?_
      refine l_gr dX0_spread_52 fl_0_22 (fun v15 => ?_)
      refine l_loc dX0_spread_55 rfl rfl ?_
      refine l_rl dX0_spread_56 (fun v16 => ?_)
      refine l_pure dX0_spread_57 rfl rfl ?_
      refine l_ine (t := 63) dX0_spread_58 rfl ?_ ?_
      · refine l_loc dX0_spread_63 rfl rfl ?_
        refine l_gr dX0_spread_64 fl_0_22 (fun v17 => ?_)
        refine l_loc dX0_spread_67 rfl rfl ?_
        refine l_loc dX0_spread_68 rfl rfl ?_
        refine l_wl dX0_spread_70 (fun h18 => ?_)
        refine l_loc dX0_spread_71 rfl rfl ?_
        refine l_loc dX0_spread_72 rfl rfl ?_
        refine l_gi dX0_spread_73 fl_0_43 (fun v19 => ?_)
        refine l_loc dX0_spread_76 rfl rfl ?_
        refine l_cI dX0_spread_77 rfl rfl rfl (l_xs cl_0_69 ko_mJ9_max_7cf53 rfl rfl) rfl rfl nm_mJ9_max_7cf53 (xhE_th rfl) (fun v21 h20 => ?_)
        refine l_pf dX0_spread_80 fl_0_43 (ini := false) nm_mX0_spread (fun h22 => ?_)
        refine l_ic dX0_spread_83 kI_1 ?_
        exact l_iretn dX0_spread_84 rfl (by decide)
      · refine l_ic dX0_spread_61 kI_0 ?_
        exact l_iretn dX0_spread_62 rfl (by decide)
    · refine l_ic dX0_spread_12 kI_0 ?_
      exact l_iretn dX0_spread_13 rfl (by decide)
set_option maxRecDepth 16000 in
theorem w_X0_blobAt (S : xS) (x0 : Nat) (x1 : Int32) (h : xH) : xle (if x1 < 0 then (some (.inl (some (.long (0 : Int64))), h, 0, 0)) else ((xGi h x0 0 0).bind fun v1 => if v1 ≤ x1 then (some (.inl (some (.long (0 : Int64))), h, 0, 0)) else ((xGr h x0 0 3).bind fun v2 => (xRl h v2 x1).bind fun v3 => some (.inl (some (.long v3)), h, 0, 0)))) (xM S mX0_blobAt [.ref x0, .int x1] h) := by
  show xle _ (xden S mX0_blobAt 0 [(0, .ref x0), (1, .int x1)] [] h)
  refine l_loc dX0_blobAt_0 rfl rfl ?_
  refine l_ilt (t := 21) dX0_blobAt_1 rfl ?_ ?_
  · refine l_lc0 dX0_blobAt_21 ?_
    exact l_end dX0_blobAt_22 rfl rfl
  · refine l_loc dX0_blobAt_4 rfl rfl ?_
    refine l_loc dX0_blobAt_5 rfl rfl ?_
    refine l_gi dX0_blobAt_6 fl_0_9 (fun v1 => ?_)
    refine l_cge (t := 21) dX0_blobAt_9 rfl ?_ ?_
    · refine l_lc0 dX0_blobAt_21 ?_
      exact l_end dX0_blobAt_22 rfl rfl
    · refine l_loc dX0_blobAt_12 rfl rfl ?_
      refine l_gr dX0_blobAt_13 fl_0_22 (fun v2 => ?_)
      refine l_loc dX0_blobAt_16 rfl rfl ?_
      refine l_rl dX0_blobAt_17 (fun v3 => ?_)
      refine l_goto (t := 22) dX0_blobAt_18 rfl ?_
      exact l_end dX0_blobAt_22 rfl rfl
theorem w_X0_widened (S : xS) (x0 : Int64) (x2 : Int64) (h : xH) : xle (xden S mX0_widened 6 [(2, .long x2), (4, .long x0), (6, .int (0 : Int32))] [] h) (xM S mX0_widened [.long x0, .long x2] h) := by
  show xle _ (xden S mX0_widened 0 [(0, .long x0), (2, .long x2)] [] h)
  refine l_loc dX0_widened_0 rfl rfl ?_
  refine l_loc (al1 := [(4, .long x0), (0, .long x0), (2, .long x2)]) dX0_widened_1 rfl rfl ?_
  refine l_ic dX0_widened_3 kI_0 ?_
  refine l_loc (al1 := [(6, .int (0 : Int32)), (4, .long x0), (0, .long x0), (2, .long x2)]) dX0_widened_4 rfl rfl ?_
  exact l_al rfl ⟨rfl, rfl, rfl, trivial⟩
set_option maxRecDepth 16000 in
theorem w_X0_widened_6 (S : xS) (x2 : Int64) (x4 : Int64) (x6 : Int32) (h : xH) : xle (if (64 : Int32) < x6 then (some (.inl (some (.long x4)), h, 0, 0)) else (xlet (((x4 ||| (x4 <<< ((1 : Int32).toInt64 &&& 63))) ||| ((x4.toUInt64 >>> ((1 : Int32).toInt64.toUInt64 &&& Int64.toUInt64 63)).toInt64)) &&& x2) fun v1 => if ¬ (lg_cmp v1 x4) = 0 then (xlet (x6 + (1 : Int32)) fun v2 => (xden S mX0_widened 6 [(2, .long x2), (4, .long v1), (6, .int v2)] [] h)) else (some (.inl (some (.long x4)), h, 0, 0)))) (xden S mX0_widened 6 [(2, .long x2), (4, .long x4), (6, .int x6)] [] h) := by
  refine l_loc dX0_widened_6 rfl rfl ?_
  refine l_bi dX0_widened_8 kB_64 ?_
  refine l_cgt (t := 50) dX0_widened_10 rfl ?_ ?_
  · refine l_loc dX0_widened_50 rfl rfl ?_
    exact l_end dX0_widened_52 rfl rfl
  · refine l_loc dX0_widened_13 rfl rfl ?_
    refine l_loc dX0_widened_15 rfl rfl ?_
    refine l_ic dX0_widened_17 kI_1 ?_
    refine l_pure dX0_widened_18 rfl rfl ?_
    refine l_pure dX0_widened_19 rfl rfl ?_
    refine l_loc dX0_widened_20 rfl rfl ?_
    refine l_ic dX0_widened_22 kI_1 ?_
    refine l_pure dX0_widened_23 rfl rfl ?_
    refine l_pure dX0_widened_24 rfl rfl ?_
    refine l_loc dX0_widened_25 rfl rfl ?_
    refine l_pure dX0_widened_26 rfl rfl ?_
    refine l_lsl (al1 := fun v1 => [(7, .long v1), (2, .long x2), (4, .long x4), (6, .int x6)]) dX0_widened_27 rfl (fun _ => rfl) (fun v1 => ?_)
    refine l_loc dX0_widened_29 rfl rfl ?_
    refine l_loc dX0_widened_31 rfl rfl ?_
    refine l_pure dX0_widened_33 rfl rfl ?_
    refine l_ine (t := 40) dX0_widened_34 rfl ?_ ?_
    · refine l_loc dX0_widened_40 rfl rfl ?_
      refine l_loc (al1 := [(4, .long v1), (7, .long v1), (2, .long x2), (6, .int x6)]) dX0_widened_42 rfl rfl ?_
      refine l_incl (al1 := fun v2 => [(6, .int v2), (4, .long v1), (7, .long v1), (2, .long x2)]) dX0_widened_44 rfl kI_1 rfl (fun _ => rfl) (fun v2 => ?_)
      refine l_goto (t := 6) dX0_widened_47 rfl ?_
      exact l_al rfl ⟨rfl, rfl, rfl, trivial⟩
    · refine l_goto (t := 50) dX0_widened_37 rfl ?_
      refine l_loc dX0_widened_50 rfl rfl ?_
      exact l_end dX0_widened_52 rfl rfl
theorem w_X0_close (S : xS) (x0 : Nat) (h : xH) : xle ((xGi h x0 0 4).bind fun v1 => (xden S mX0_close 5 [(0, .ref x0), (1, .int v1)] [] h)) (xM S mX0_close [.ref x0] h) := by
  show xle _ (xden S mX0_close 0 [(0, .ref x0)] [] h)
  refine l_loc dX0_close_0 rfl rfl ?_
  refine l_gi dX0_close_1 fl_0_40 (fun v1 => ?_)
  refine l_loc (al1 := [(1, .int v1), (0, .ref x0)]) dX0_close_4 rfl rfl ?_
  exact l_al rfl ⟨rfl, rfl, trivial⟩
set_option maxRecDepth 16000 in
theorem w_X0_close_5 (S : xS) (x0 : Nat) (x1 : Int32) (h : xH) : xle ((xGi h x0 0 5).bind fun v1 => if v1 < x1 then (some (.inl none, h, 0, 0)) else ((xGr h x0 0 2).bind fun v2 => (xRl h v2 x1).bind fun v3 => (xGr h x0 0 3).bind fun v4 => (xRl h v4 x1).bind fun v5 => (xWl h v2 x1 (v3 &&& (v5 ^^^ (-1 : Int64)))).bind fun h6 => xlet (x1 + (1 : Int32)) fun v7 => (xden S mX0_close 5 [(0, .ref x0), (1, .int v7)] [] h6))) (xden S mX0_close 5 [(0, .ref x0), (1, .int x1)] [] h) := by
  refine l_loc dX0_close_5 rfl rfl ?_
  refine l_loc dX0_close_6 rfl rfl ?_
  refine l_gi dX0_close_7 fl_0_43 (fun v1 => ?_)
  refine l_cgt (t := 38) dX0_close_10 rfl ?_ ?_
  · exact l_end dX0_close_38 rfl rfl
  · refine l_loc dX0_close_13 rfl rfl ?_
    refine l_gr dX0_close_14 fl_0_18 (fun v2 => ?_)
    refine l_loc dX0_close_17 rfl rfl ?_
    refine l_pure dX0_close_18 rfl rfl ?_
    refine l_rl dX0_close_19 (fun v3 => ?_)
    refine l_loc dX0_close_20 rfl rfl ?_
    refine l_gr dX0_close_21 fl_0_22 (fun v4 => ?_)
    refine l_loc dX0_close_24 rfl rfl ?_
    refine l_rl dX0_close_25 (fun v5 => ?_)
    refine l_rd (st1 := [.long (-1 : Int64), .long v5, .long v3, .int x1, .ref v2]) dX0_close_26 rfl rfl ?_
    refine l_pure dX0_close_29 rfl rfl ?_
    refine l_pure dX0_close_30 rfl rfl ?_
    refine l_wl dX0_close_31 (fun h6 => ?_)
    refine l_incl (al1 := fun v7 => [(1, .int v7), (0, .ref x0)]) dX0_close_32 rfl kI_1 rfl (fun _ => rfl) (fun v7 => ?_)
    refine l_goto (t := 5) dX0_close_35 rfl ?_
    exact l_al rfl ⟨rfl, rfl, trivial⟩
set_option maxRecDepth 16000 in
theorem w_X0_pixels (S : xS) (x0 : Nat) (h : xH) : xle ((xGi h x0 0 4).bind fun v1 => (xden S mX0_pixels 7 [(0, .ref x0), (1, .int (0 : Int32)), (2, .int v1)] [] h)) (xM S mX0_pixels [.ref x0] h) := by
  show xle _ (xden S mX0_pixels 0 [(0, .ref x0)] [] h)
  refine l_ic dX0_pixels_0 kI_0 ?_
  refine l_loc (al1 := [(1, .int (0 : Int32)), (0, .ref x0)]) dX0_pixels_1 rfl rfl ?_
  refine l_loc dX0_pixels_2 rfl rfl ?_
  refine l_gi dX0_pixels_3 fl_0_40 (fun v1 => ?_)
  refine l_loc (al1 := [(2, .int v1), (1, .int (0 : Int32)), (0, .ref x0)]) dX0_pixels_6 rfl rfl ?_
  exact l_al rfl ⟨rfl, rfl, rfl, trivial⟩
set_option maxRecDepth 16000 in
theorem w_X0_pixels_7 (S : xS) (x0 : Nat) (x1 : Int32) (x2 : Int32) (h : xH) : xle ((xGi h x0 0 5).bind fun v1 => if v1 < x2 then (some (.inl (some (.int x1)), h, 0, 0)) else ((xGr h x0 0 3).bind fun v2 => (xRl h v2 x2).bind fun v3 => xqI (xM S mJ13_bitCount_95d88 [.long v3] h) xth fun v5 h4 => xlet (x1 + v5) fun v6 => xlet (x2 + (1 : Int32)) fun v7 => (xden S mX0_pixels 7 [(0, .ref x0), (1, .int v6), (2, .int v7)] [] h4))) (xden S mX0_pixels 7 [(0, .ref x0), (1, .int x1), (2, .int x2)] [] h) := by
  refine l_loc dX0_pixels_7 rfl rfl ?_
  refine l_loc dX0_pixels_8 rfl rfl ?_
  refine l_gi dX0_pixels_9 fl_0_43 (fun v1 => ?_)
  refine l_cgt (t := 33) dX0_pixels_12 rfl ?_ ?_
  · refine l_loc dX0_pixels_33 rfl rfl ?_
    exact l_iretn dX0_pixels_34 rfl (by rfl)
  · refine l_loc dX0_pixels_15 rfl rfl ?_
    refine l_loc dX0_pixels_16 rfl rfl ?_
    refine l_gr dX0_pixels_17 fl_0_22 (fun v2 => ?_)
    refine l_loc dX0_pixels_20 rfl rfl ?_
    refine l_rl dX0_pixels_21 (fun v3 => ?_)
    refine l_cI dX0_pixels_22 rfl rfl rfl (l_xs cl_0_77 ko_mJ13_bitCount_95d88 rfl rfl) rfl rfl nm_mJ13_bitCount_95d88 (xhE_th rfl) (fun v5 h4 => ?_)
    refine l_pure dX0_pixels_25 rfl rfl ?_
    refine l_isl (al1 := fun v6 => [(1, .int v6), (0, .ref x0), (2, .int x2)]) dX0_pixels_26 rfl (fun _ => rfl) (fun v6 => ?_)
    refine l_incl (al1 := fun v7 => [(2, .int v7), (1, .int v6), (0, .ref x0)]) dX0_pixels_27 rfl kI_1 rfl (fun _ => rfl) (fun v7 => ?_)
    refine l_goto (t := 7) dX0_pixels_30 rfl ?_
    exact l_al rfl ⟨rfl, rfl, rfl, trivial⟩
theorem w_X0_erase (S : xS) (x0 : Nat) (x1 : Nat) (h : xH) : xle ((xGi h x0 0 4).bind fun v1 => (xden S mX0_erase 5 [(0, .ref x0), (1, .ref x1), (2, .int v1)] [] h)) (xM S mX0_erase [.ref x0, .ref x1] h) := by
  show xle _ (xden S mX0_erase 0 [(0, .ref x0), (1, .ref x1)] [] h)
  refine l_loc dX0_erase_0 rfl rfl ?_
  refine l_gi dX0_erase_1 fl_0_40 (fun v1 => ?_)
  refine l_loc (al1 := [(2, .int v1), (0, .ref x0), (1, .ref x1)]) dX0_erase_4 rfl rfl ?_
  exact l_al rfl ⟨rfl, rfl, rfl, trivial⟩
set_option maxRecDepth 16000 in
theorem w_X0_erase_5 (S : xS) (x0 : Nat) (x1 : Nat) (x2 : Int32) (h : xH) : xle ((xGi h x0 0 5).bind fun v1 => if v1 < x2 then (some (.inl none, h, 0, 0)) else (if xOb h x1 4 = true then xqJ (xM S mX4_rowAt [.ref x1, .int x2] h) xth fun v4 h3 => (xGr h3 x0 0 3).bind fun v5 => (xRl h3 v5 x2).bind fun v6 => if xOb h3 x1 4 = true then xqV (xM S mX4_putRow [.ref x1, .int x2, .long (v4 &&& (v6 ^^^ (-1 : Int64)))] h3) xth fun h8 => xlet (x2 + (1 : Int32)) fun v10 => (xden S mX0_erase 5 [(0, .ref x0), (1, .ref x1), (2, .int v10)] [] h8) else none else none)) (xden S mX0_erase 5 [(0, .ref x0), (1, .ref x1), (2, .int x2)] [] h) := by
  refine l_loc dX0_erase_5 rfl rfl ?_
  refine l_loc dX0_erase_6 rfl rfl ?_
  refine l_gi dX0_erase_7 fl_0_43 (fun v1 => ?_)
  refine l_cgt (t := 40) dX0_erase_10 rfl ?_ ?_
  · exact l_end dX0_erase_40 rfl rfl
  · refine l_loc dX0_erase_13 rfl rfl ?_
    refine l_loc dX0_erase_14 rfl rfl ?_
    refine l_loc dX0_erase_15 rfl rfl ?_
    refine l_loc dX0_erase_16 rfl rfl ?_
    refine l_ob fun q2 => ?_
    refine l_cJ dX0_erase_17 rfl rfl rfl (l_xv cl_0_46 ko_mX4_rowAt rfl rfl rfl q2) rfl rfl nm_mX4_rowAt (xhE_th rfl) (fun v4 h3 => ?_)
    refine l_loc dX0_erase_20 rfl rfl ?_
    refine l_gr dX0_erase_21 fl_0_22 (fun v5 => ?_)
    refine l_loc dX0_erase_24 rfl rfl ?_
    refine l_rl dX0_erase_25 (fun v6 => ?_)
    refine l_rd (st1 := [.long (-1 : Int64), .long v6, .long v4, .int x2, .ref x1]) dX0_erase_26 rfl rfl ?_
    refine l_pure dX0_erase_29 rfl rfl ?_
    refine l_pure dX0_erase_30 rfl rfl ?_
    refine l_ob fun q7 => ?_
    refine l_cV dX0_erase_31 rfl rfl rfl (l_xv cl_0_83 ko_mX4_putRow rfl rfl rfl q7) rfl rfl nm_mX4_putRow (xhE_th rfl) (fun h8 => ?_)
    refine l_incl (al1 := fun v10 => [(2, .int v10), (0, .ref x0), (1, .ref x1)]) dX0_erase_34 rfl kI_1 rfl (fun _ => rfl) (fun v10 => ?_)
    refine l_goto (t := 5) dX0_erase_37 rfl ?_
    exact l_al rfl ⟨rfl, rfl, rfl, trivial⟩
theorem w_X11_patternError (S : xS) (x0 : Nat) (h : xH) : xle (xden S mX11_patternError 4 [(0, .ref x0), (1, .int (0 : Int32)), (2, .int (0 : Int32))] [] h) (xM S mX11_patternError [.ref x0] h) := by
  show xle _ (xden S mX11_patternError 0 [(0, .ref x0)] [] h)
  refine l_ic dX11_patternError_0 kI_0 ?_
  refine l_loc (al1 := [(1, .int (0 : Int32)), (0, .ref x0)]) dX11_patternError_1 rfl rfl ?_
  refine l_ic dX11_patternError_2 kI_0 ?_
  refine l_loc (al1 := [(2, .int (0 : Int32)), (1, .int (0 : Int32)), (0, .ref x0)]) dX11_patternError_3 rfl rfl ?_
  exact l_al rfl ⟨rfl, rfl, rfl, trivial⟩
set_option maxRecDepth 16000 in
theorem w_X11_patternError_4 (S : xS) (x0 : Nat) (x1 : Int32) (x2 : Int32) (h : xH) : xle ((xGi h x0 10 1).bind fun v1 => if v1 ≤ x2 then ((xGi h x0 10 1).bind fun v2 => some (.inl (some (.int v2)), h, 0, 0)) else ((xGi h x0 10 1).bind fun v3 => if v3 ≤ x1 then ((xGi h x0 10 1).bind fun v4 => some (.inl (some (.int v4)), h, 0, 0)) else (if xOb h x0 10 = true then xqI (xM S mX11_endOfDigits [.ref x0, .int x1] h) xth fun v7 h6 => xlet (v7 - x1) fun v8 => if v8 ≤ (2 : Int32) then (if v8 ≤ 0 then (if xOb h6 x0 10 = true then xqI (xM S mX11_codeAt [.ref x0, .int v7] h6) xth fun v11 h10 => if ¬ v11 = (33 : Int32) then (if v11 = (111 : Int32) then (xlet (v7 + (1 : Int32)) fun v12 => xlet (x2 + (1 : Int32)) fun v13 => (xden S mX11_patternError 4 [(0, .ref x0), (1, .int v12), (2, .int v13)] [] h10)) else (if v11 = (98 : Int32) then (xlet (v7 + (1 : Int32)) fun v14 => xlet (x2 + (1 : Int32)) fun v15 => (xden S mX11_patternError 4 [(0, .ref x0), (1, .int v14), (2, .int v15)] [] h10)) else (if v11 = (36 : Int32) then (xlet (v7 + (1 : Int32)) fun v16 => xlet (x2 + (1 : Int32)) fun v17 => (xden S mX11_patternError 4 [(0, .ref x0), (1, .int v16), (2, .int v17)] [] h10)) else (some (.inl (some (.int v7)), h10, 0, 0))))) else (if xOb h10 x0 10 = true then xqI (xM S mX11_errorAtMark [.ref x0, .int v7, .int v8] h10) xth fun v20 h19 => some (.inl (some (.int v20)), h19, 0, 0) else none) else none) else (if xOb h6 x0 10 = true then xqI (xM S mX11_numberOf [.ref x0, .int x1, .int v7] h6) xth fun v23 h22 => xqI (xM S mX11_isCount [.int v23] h22) xth fun v25 h24 => if ¬ v25 = 0 then (if xOb h24 x0 10 = true then xqI (xM S mX11_codeAt [.ref x0, .int v7] h24) xth fun v28 h27 => if ¬ v28 = (33 : Int32) then (if v28 = (111 : Int32) then (xlet (v7 + (1 : Int32)) fun v29 => xlet (x2 + (1 : Int32)) fun v30 => (xden S mX11_patternError 4 [(0, .ref x0), (1, .int v29), (2, .int v30)] [] h27)) else (if v28 = (98 : Int32) then (xlet (v7 + (1 : Int32)) fun v31 => xlet (x2 + (1 : Int32)) fun v32 => (xden S mX11_patternError 4 [(0, .ref x0), (1, .int v31), (2, .int v32)] [] h27)) else (if v28 = (36 : Int32) then (xlet (v7 + (1 : Int32)) fun v33 => xlet (x2 + (1 : Int32)) fun v34 => (xden S mX11_patternError 4 [(0, .ref x0), (1, .int v33), (2, .int v34)] [] h27)) else (some (.inl (some (.int v7)), h27, 0, 0))))) else (if xOb h27 x0 10 = true then xqI (xM S mX11_errorAtMark [.ref x0, .int v7, .int v8] h27) xth fun v37 h36 => some (.inl (some (.int v37)), h36, 0, 0) else none) else none) else (some (.inl (some (.int x1)), h24, 0, 0)) else none)) else (some (.inl (some (.int (x1 + (2 : Int32)))), h6, 0, 0)) else none))) (xden S mX11_patternError 4 [(0, .ref x0), (1, .int x1), (2, .int x2)] [] h) := by
  refine l_loc dX11_patternError_4 rfl rfl ?_
  refine l_loc dX11_patternError_5 rfl rfl ?_
  refine l_gi dX11_patternError_6 fl_10_15 (fun v1 => ?_)
  refine l_cge (t := 115) dX11_patternError_9 rfl ?_ ?_
  · refine l_loc dX11_patternError_115 rfl rfl ?_
    refine l_gi dX11_patternError_116 fl_10_15 (fun v2 => ?_)
    exact l_iretn dX11_patternError_119 rfl (by rfl)
  · refine l_loc dX11_patternError_12 rfl rfl ?_
    refine l_loc dX11_patternError_13 rfl rfl ?_
    refine l_gi dX11_patternError_14 fl_10_15 (fun v3 => ?_)
    refine l_cge (t := 115) dX11_patternError_17 rfl ?_ ?_
    · refine l_loc dX11_patternError_115 rfl rfl ?_
      refine l_gi dX11_patternError_116 fl_10_15 (fun v4 => ?_)
      exact l_iretn dX11_patternError_119 rfl (by rfl)
    · refine l_loc dX11_patternError_20 rfl rfl ?_
      refine l_loc dX11_patternError_21 rfl rfl ?_
      refine l_ob fun q5 => ?_
      refine l_cI dX11_patternError_22 rfl rfl rfl (l_xv cl_10_43 ko_mX11_endOfDigits rfl rfl rfl q5) rfl rfl nm_mX11_endOfDigits (xhE_th rfl) (fun v7 h6 => ?_)
      refine l_loc (al1 := [(3, .int v7), (0, .ref x0), (1, .int x1), (2, .int x2)]) dX11_patternError_25 rfl rfl ?_
      refine l_loc dX11_patternError_26 rfl rfl ?_
      refine l_loc dX11_patternError_27 rfl rfl ?_
      refine l_pure dX11_patternError_28 rfl rfl ?_
      refine l_isl (al1 := fun v8 => [(4, .int v8), (3, .int v7), (0, .ref x0), (1, .int x1), (2, .int x2)]) dX11_patternError_29 rfl (fun _ => rfl) (fun v8 => ?_)
      refine l_loc dX11_patternError_31 rfl rfl ?_
      refine l_ic dX11_patternError_33 kI_2 ?_
      refine l_cle (t := 41) dX11_patternError_34 rfl ?_ ?_
      · refine l_loc dX11_patternError_41 rfl rfl ?_
        refine l_ile (t := 60) dX11_patternError_43 rfl ?_ ?_
        · refine l_loc dX11_patternError_60 rfl rfl ?_
          refine l_loc dX11_patternError_61 rfl rfl ?_
          refine l_ob fun q9 => ?_
          refine l_cI dX11_patternError_62 rfl rfl rfl (l_xv cl_10_23 ko_mX11_codeAt rfl rfl rfl q9) rfl rfl nm_mX11_codeAt (xhE_th rfl) (fun v11 h10 => ?_)
          refine l_loc (al1 := [(5, .int v11), (4, .int v8), (3, .int v7), (0, .ref x0), (1, .int x1), (2, .int x2)]) dX11_patternError_65 rfl rfl ?_
          refine l_loc dX11_patternError_67 rfl rfl ?_
          refine l_bi dX11_patternError_69 kB_33 ?_
          refine l_cne (t := 82) dX11_patternError_71 rfl ?_ ?_
          · refine l_loc dX11_patternError_82 rfl rfl ?_
            refine l_bi dX11_patternError_84 kB_111 ?_
            refine l_ceq (t := 105) dX11_patternError_86 rfl ?_ ?_
            · refine l_loc dX11_patternError_105 rfl rfl ?_
              refine l_ic dX11_patternError_106 kI_1 ?_
              refine l_pure dX11_patternError_107 rfl rfl ?_
              refine l_isl (al1 := fun v12 => [(1, .int v12), (5, .int v11), (4, .int v8), (3, .int v7), (0, .ref x0), (2, .int x2)]) dX11_patternError_108 rfl (fun _ => rfl) (fun v12 => ?_)
              refine l_incl (al1 := fun v13 => [(2, .int v13), (1, .int v12), (5, .int v11), (4, .int v8), (3, .int v7), (0, .ref x0)]) dX11_patternError_109 rfl kI_1 rfl (fun _ => rfl) (fun v13 => ?_)
              refine l_goto (t := 4) dX11_patternError_112 rfl ?_
              exact l_al rfl ⟨rfl, rfl, rfl, trivial⟩
            · refine l_loc dX11_patternError_89 rfl rfl ?_
              refine l_bi dX11_patternError_91 kB_98 ?_
              refine l_ceq (t := 105) dX11_patternError_93 rfl ?_ ?_
              · refine l_loc dX11_patternError_105 rfl rfl ?_
                refine l_ic dX11_patternError_106 kI_1 ?_
                refine l_pure dX11_patternError_107 rfl rfl ?_
                refine l_isl (al1 := fun v14 => [(1, .int v14), (5, .int v11), (4, .int v8), (3, .int v7), (0, .ref x0), (2, .int x2)]) dX11_patternError_108 rfl (fun _ => rfl) (fun v14 => ?_)
                refine l_incl (al1 := fun v15 => [(2, .int v15), (1, .int v14), (5, .int v11), (4, .int v8), (3, .int v7), (0, .ref x0)]) dX11_patternError_109 rfl kI_1 rfl (fun _ => rfl) (fun v15 => ?_)
                refine l_goto (t := 4) dX11_patternError_112 rfl ?_
                exact l_al rfl ⟨rfl, rfl, rfl, trivial⟩
              · refine l_loc dX11_patternError_96 rfl rfl ?_
                refine l_bi dX11_patternError_98 kB_36 ?_
                refine l_ceq (t := 105) dX11_patternError_100 rfl ?_ ?_
                · refine l_loc dX11_patternError_105 rfl rfl ?_
                  refine l_ic dX11_patternError_106 kI_1 ?_
                  refine l_pure dX11_patternError_107 rfl rfl ?_
                  refine l_isl (al1 := fun v16 => [(1, .int v16), (5, .int v11), (4, .int v8), (3, .int v7), (0, .ref x0), (2, .int x2)]) dX11_patternError_108 rfl (fun _ => rfl) (fun v16 => ?_)
                  refine l_incl (al1 := fun v17 => [(2, .int v17), (1, .int v16), (5, .int v11), (4, .int v8), (3, .int v7), (0, .ref x0)]) dX11_patternError_109 rfl kI_1 rfl (fun _ => rfl) (fun v17 => ?_)
                  refine l_goto (t := 4) dX11_patternError_112 rfl ?_
                  exact l_al rfl ⟨rfl, rfl, rfl, trivial⟩
                · refine l_loc dX11_patternError_103 rfl rfl ?_
                  exact l_iretn dX11_patternError_104 rfl (by rfl)
          · refine l_loc dX11_patternError_74 rfl rfl ?_
            refine l_loc dX11_patternError_75 rfl rfl ?_
            refine l_loc dX11_patternError_76 rfl rfl ?_
            refine l_ob fun q18 => ?_
            refine l_cI dX11_patternError_78 rfl rfl rfl (l_xv cl_10_53 ko_mX11_errorAtMark rfl rfl rfl q18) rfl rfl nm_mX11_errorAtMark (xhE_th rfl) (fun v20 h19 => ?_)
            exact l_iretn dX11_patternError_81 rfl (by rfl)
        · refine l_loc dX11_patternError_46 rfl rfl ?_
          refine l_loc dX11_patternError_47 rfl rfl ?_
          refine l_loc dX11_patternError_48 rfl rfl ?_
          refine l_ob fun q21 => ?_
          refine l_cI dX11_patternError_49 rfl rfl rfl (l_xv cl_10_46 ko_mX11_numberOf rfl rfl rfl q21) rfl rfl nm_mX11_numberOf (xhE_th rfl) (fun v23 h22 => ?_)
          refine l_cI dX11_patternError_52 rfl rfl rfl (l_xs cl_10_50 ko_mX11_isCount rfl rfl) rfl rfl nm_mX11_isCount (xhE_th rfl) (fun v25 h24 => ?_)
          refine l_ine (t := 60) dX11_patternError_55 rfl ?_ ?_
          · refine l_loc dX11_patternError_60 rfl rfl ?_
            refine l_loc dX11_patternError_61 rfl rfl ?_
            refine l_ob fun q26 => ?_
            refine l_cI dX11_patternError_62 rfl rfl rfl (l_xv cl_10_23 ko_mX11_codeAt rfl rfl rfl q26) rfl rfl nm_mX11_codeAt (xhE_th rfl) (fun v28 h27 => ?_)
            refine l_loc (al1 := [(5, .int v28), (4, .int v8), (3, .int v7), (0, .ref x0), (1, .int x1), (2, .int x2)]) dX11_patternError_65 rfl rfl ?_
            refine l_loc dX11_patternError_67 rfl rfl ?_
            refine l_bi dX11_patternError_69 kB_33 ?_
            refine l_cne (t := 82) dX11_patternError_71 rfl ?_ ?_
            · refine l_loc dX11_patternError_82 rfl rfl ?_
              refine l_bi dX11_patternError_84 kB_111 ?_
              refine l_ceq (t := 105) dX11_patternError_86 rfl ?_ ?_
              · refine l_loc dX11_patternError_105 rfl rfl ?_
                refine l_ic dX11_patternError_106 kI_1 ?_
                refine l_pure dX11_patternError_107 rfl rfl ?_
                refine l_isl (al1 := fun v29 => [(1, .int v29), (5, .int v28), (4, .int v8), (3, .int v7), (0, .ref x0), (2, .int x2)]) dX11_patternError_108 rfl (fun _ => rfl) (fun v29 => ?_)
                refine l_incl (al1 := fun v30 => [(2, .int v30), (1, .int v29), (5, .int v28), (4, .int v8), (3, .int v7), (0, .ref x0)]) dX11_patternError_109 rfl kI_1 rfl (fun _ => rfl) (fun v30 => ?_)
                refine l_goto (t := 4) dX11_patternError_112 rfl ?_
                exact l_al rfl ⟨rfl, rfl, rfl, trivial⟩
              · refine l_loc dX11_patternError_89 rfl rfl ?_
                refine l_bi dX11_patternError_91 kB_98 ?_
                refine l_ceq (t := 105) dX11_patternError_93 rfl ?_ ?_
                · refine l_loc dX11_patternError_105 rfl rfl ?_
                  refine l_ic dX11_patternError_106 kI_1 ?_
                  refine l_pure dX11_patternError_107 rfl rfl ?_
                  refine l_isl (al1 := fun v31 => [(1, .int v31), (5, .int v28), (4, .int v8), (3, .int v7), (0, .ref x0), (2, .int x2)]) dX11_patternError_108 rfl (fun _ => rfl) (fun v31 => ?_)
                  refine l_incl (al1 := fun v32 => [(2, .int v32), (1, .int v31), (5, .int v28), (4, .int v8), (3, .int v7), (0, .ref x0)]) dX11_patternError_109 rfl kI_1 rfl (fun _ => rfl) (fun v32 => ?_)
                  refine l_goto (t := 4) dX11_patternError_112 rfl ?_
                  exact l_al rfl ⟨rfl, rfl, rfl, trivial⟩
                · refine l_loc dX11_patternError_96 rfl rfl ?_
                  refine l_bi dX11_patternError_98 kB_36 ?_
                  refine l_ceq (t := 105) dX11_patternError_100 rfl ?_ ?_
                  · refine l_loc dX11_patternError_105 rfl rfl ?_
                    refine l_ic dX11_patternError_106 kI_1 ?_
                    refine l_pure dX11_patternError_107 rfl rfl ?_
                    refine l_isl (al1 := fun v33 => [(1, .int v33), (5, .int v28), (4, .int v8), (3, .int v7), (0, .ref x0), (2, .int x2)]) dX11_patternError_108 rfl (fun _ => rfl) (fun v33 => ?_)
                    refine l_incl (al1 := fun v34 => [(2, .int v34), (1, .int v33), (5, .int v28), (4, .int v8), (3, .int v7), (0, .ref x0)]) dX11_patternError_109 rfl kI_1 rfl (fun _ => rfl) (fun v34 => ?_)
                    refine l_goto (t := 4) dX11_patternError_112 rfl ?_
                    exact l_al rfl ⟨rfl, rfl, rfl, trivial⟩
                  · refine l_loc dX11_patternError_103 rfl rfl ?_
                    exact l_iretn dX11_patternError_104 rfl (by rfl)
            · refine l_loc dX11_patternError_74 rfl rfl ?_
              refine l_loc dX11_patternError_75 rfl rfl ?_
              refine l_loc dX11_patternError_76 rfl rfl ?_
              refine l_ob fun q35 => ?_
              refine l_cI dX11_patternError_78 rfl rfl rfl (l_xv cl_10_53 ko_mX11_errorAtMark rfl rfl rfl q35) rfl rfl nm_mX11_errorAtMark (xhE_th rfl) (fun v37 h36 => ?_)
              exact l_iretn dX11_patternError_81 rfl (by rfl)
          · refine l_loc dX11_patternError_58 rfl rfl ?_
            exact l_iretn dX11_patternError_59 rfl (by rfl)
      · refine l_loc dX11_patternError_37 rfl rfl ?_
        refine l_ic dX11_patternError_38 kI_2 ?_
        refine l_pure dX11_patternError_39 rfl rfl ?_
        exact l_iretn dX11_patternError_40 rfl (by rfl)
set_option maxRecDepth 16000 in
theorem w_X11_isCount (S : xS) (x0 : Int32) (h : xH) : xle (if x0 < (1 : Int32) then (some (.inl (some (.int (0 : Int32))), h, 0, 0)) else (if (64 : Int32) < x0 then (some (.inl (some (.int (0 : Int32))), h, 0, 0)) else (some (.inl (some (.int (1 : Int32))), h, 0, 0)))) (xM S mX11_isCount [.int x0] h) := by
  show xle _ (xden S mX11_isCount 0 [(0, .int x0)] [] h)
  refine l_loc dX11_isCount_0 rfl rfl ?_
  refine l_ic dX11_isCount_1 kI_1 ?_
  refine l_clt (t := 15) dX11_isCount_2 rfl ?_ ?_
  · refine l_ic dX11_isCount_15 kI_0 ?_
    exact l_iretn dX11_isCount_16 rfl (by decide)
  · refine l_loc dX11_isCount_5 rfl rfl ?_
    refine l_bi dX11_isCount_6 kB_64 ?_
    refine l_cgt (t := 15) dX11_isCount_8 rfl ?_ ?_
    · refine l_ic dX11_isCount_15 kI_0 ?_
      exact l_iretn dX11_isCount_16 rfl (by decide)
    · refine l_ic dX11_isCount_11 kI_1 ?_
      refine l_goto (t := 16) dX11_isCount_12 rfl ?_
      exact l_iretn dX11_isCount_16 rfl (by decide)
set_option maxRecDepth 16000 in
theorem w_X11_errorAtMark (S : xS) (x0 : Nat) (x1 : Int32) (x2 : Int32) (h : xH) : xle (if x2 ≤ 0 then ((xGi h x0 10 1).bind fun v1 => if v1 ≤ (x1 + (1 : Int32)) then (some (.inl (some (.int (-1 : Int32))), h, 0, 0)) else (some (.inl (some (.int (x1 + (1 : Int32)))), h, 0, 0))) else (some (.inl (some (.int x1)), h, 0, 0))) (xM S mX11_errorAtMark [.ref x0, .int x1, .int x2] h) := by
  show xle _ (xden S mX11_errorAtMark 0 [(0, .ref x0), (1, .int x1), (2, .int x2)] [] h)
  refine l_loc dX11_errorAtMark_0 rfl rfl ?_
  refine l_ile (t := 6) dX11_errorAtMark_1 rfl ?_ ?_
  · refine l_loc dX11_errorAtMark_6 rfl rfl ?_
    refine l_ic dX11_errorAtMark_7 kI_1 ?_
    refine l_pure dX11_errorAtMark_8 rfl rfl ?_
    refine l_loc dX11_errorAtMark_9 rfl rfl ?_
    refine l_gi dX11_errorAtMark_10 fl_10_15 (fun v1 => ?_)
    refine l_cge (t := 22) dX11_errorAtMark_13 rfl ?_ ?_
    · refine l_ic dX11_errorAtMark_22 kI_m1 ?_
      exact l_iretn dX11_errorAtMark_23 rfl (by rfl)
    · refine l_loc dX11_errorAtMark_16 rfl rfl ?_
      refine l_ic dX11_errorAtMark_17 kI_1 ?_
      refine l_pure dX11_errorAtMark_18 rfl rfl ?_
      refine l_goto (t := 23) dX11_errorAtMark_19 rfl ?_
      exact l_iretn dX11_errorAtMark_23 rfl (by rfl)
  · refine l_loc dX11_errorAtMark_4 rfl rfl ?_
    exact l_iretn dX11_errorAtMark_5 rfl (by rfl)
set_option maxRecDepth 16000 in
theorem w_X11_drawPattern (S : xS) (x0 : Nat) (x1 : Nat) (x2 : Int32) (x3 : Int32) (h : xH) : xle (xlet (x2.toInt64) fun v1 => xlet (x3.toInt64) fun v2 => (xden S mX11_drawPattern 14 [(0, .ref x0), (1, .ref x1), (2, .int x2), (4, .long v1), (6, .long v2), (8, .int (0 : Int32)), (9, .int (0 : Int32))] [] h)) (xM S mX11_drawPattern [.ref x0, .ref x1, .int x2, .int x3] h) := by
  show xle _ (xden S mX11_drawPattern 0 [(0, .ref x0), (1, .ref x1), (2, .int x2), (3, .int x3)] [] h)
  refine l_loc dX11_drawPattern_0 rfl rfl ?_
  refine l_pure dX11_drawPattern_1 rfl rfl ?_
  refine l_lsl (al1 := fun v1 => [(4, .long v1), (0, .ref x0), (1, .ref x1), (2, .int x2), (3, .int x3)]) dX11_drawPattern_2 rfl (fun _ => rfl) (fun v1 => ?_)
  refine l_loc dX11_drawPattern_4 rfl rfl ?_
  refine l_pure dX11_drawPattern_5 rfl rfl ?_
  refine l_lsl (al1 := fun v2 => [(6, .long v2), (4, .long v1), (0, .ref x0), (1, .ref x1), (2, .int x2), (3, .int x3)]) dX11_drawPattern_6 rfl (fun _ => rfl) (fun v2 => ?_)
  refine l_ic dX11_drawPattern_8 kI_0 ?_
  refine l_loc (al1 := [(8, .int (0 : Int32)), (6, .long v2), (4, .long v1), (0, .ref x0), (1, .ref x1), (2, .int x2), (3, .int x3)]) dX11_drawPattern_9 rfl rfl ?_
  refine l_ic dX11_drawPattern_11 kI_0 ?_
  refine l_loc (al1 := [(9, .int (0 : Int32)), (8, .int (0 : Int32)), (6, .long v2), (4, .long v1), (0, .ref x0), (1, .ref x1), (2, .int x2), (3, .int x3)]) dX11_drawPattern_12 rfl rfl ?_
  exact l_al rfl ⟨rfl, rfl, rfl, rfl, rfl, rfl, rfl, trivial⟩
set_option maxRecDepth 16000 in
theorem w_X11_drawPattern_14 (S : xS) (x0 : Nat) (x1 : Nat) (x2 : Int32) (x4 : Int64) (x6 : Int64) (x8 : Int32) (x9 : Int32) (h : xH) : xle ((xGi h x0 10 1).bind fun v1 => if v1 ≤ x9 then (some (.inl none, h, 0, 0)) else ((xGi h x0 10 1).bind fun v2 => if v2 ≤ x8 then (some (.inl none, h, 0, 0)) else (if xOb h x0 10 = true then xqI (xM S mX11_endOfDigits [.ref x0, .int x8] h) xth fun v5 h4 => if v5 ≤ x8 then (if xOb h4 x0 10 = true then xqI (xM S mX11_codeAt [.ref x0, .int v5] h4) xth fun v8 h7 => if ¬ v8 = (36 : Int32) then (if v8 = (111 : Int32) then (if ¬ v8 = (111 : Int32) then (xden S mX11_drawPattern 125 [(0, .ref x0), (1, .ref x1), (2, .int x2), (4, .long x4), (6, .long x6), (9, .int x9), (10, .int v5), (11, .int (1 : Int32))] [.int (0 : Int32), .int (1 : Int32), .int (1 : Int32), .long x6, .long x4, .ref x1] h7) else (xden S mX11_drawPattern 125 [(0, .ref x0), (1, .ref x1), (2, .int x2), (4, .long x4), (6, .long x6), (9, .int x9), (10, .int v5), (11, .int (1 : Int32))] [.int (1 : Int32), .int (1 : Int32), .int (1 : Int32), .long x6, .long x4, .ref x1] h7)) else (if ¬ v8 = (98 : Int32) then (xlet (v5 + (1 : Int32)) fun v9 => xlet (x9 + (1 : Int32)) fun v10 => (xden S mX11_drawPattern 14 [(0, .ref x0), (1, .ref x1), (2, .int x2), (4, .long x4), (6, .long x6), (8, .int v9), (9, .int v10)] [] h7)) else (if ¬ v8 = (111 : Int32) then (xden S mX11_drawPattern 125 [(0, .ref x0), (1, .ref x1), (2, .int x2), (4, .long x4), (6, .long x6), (9, .int x9), (10, .int v5), (11, .int (1 : Int32))] [.int (0 : Int32), .int (1 : Int32), .int (1 : Int32), .long x6, .long x4, .ref x1] h7) else (xden S mX11_drawPattern 125 [(0, .ref x0), (1, .ref x1), (2, .int x2), (4, .long x4), (6, .long x6), (9, .int x9), (10, .int v5), (11, .int (1 : Int32))] [.int (1 : Int32), .int (1 : Int32), .int (1 : Int32), .long x6, .long x4, .ref x1] h7)))) else (xlet (x2.toInt64) fun v11 => xlet (x6 + (1 : Int32).toInt64) fun v12 => xlet (v5 + (1 : Int32)) fun v13 => xlet (x9 + (1 : Int32)) fun v14 => (xden S mX11_drawPattern 14 [(0, .ref x0), (1, .ref x1), (2, .int x2), (4, .long v11), (6, .long v12), (8, .int v13), (9, .int v14)] [] h7)) else none) else (if xOb h4 x0 10 = true then xqI (xM S mX11_numberOf [.ref x0, .int x8, .int v5] h4) xth fun v17 h16 => if xOb h16 x0 10 = true then xqI (xM S mX11_codeAt [.ref x0, .int v5] h16) xth fun v20 h19 => if ¬ v20 = (36 : Int32) then (if v20 = (111 : Int32) then (if ¬ v20 = (111 : Int32) then (xden S mX11_drawPattern 125 [(0, .ref x0), (1, .ref x1), (2, .int x2), (4, .long x4), (6, .long x6), (9, .int x9), (10, .int v5), (11, .int v17)] [.int (0 : Int32), .int (1 : Int32), .int v17, .long x6, .long x4, .ref x1] h19) else (xden S mX11_drawPattern 125 [(0, .ref x0), (1, .ref x1), (2, .int x2), (4, .long x4), (6, .long x6), (9, .int x9), (10, .int v5), (11, .int v17)] [.int (1 : Int32), .int (1 : Int32), .int v17, .long x6, .long x4, .ref x1] h19)) else (if ¬ v20 = (98 : Int32) then (xlet (v5 + (1 : Int32)) fun v21 => xlet (x9 + (1 : Int32)) fun v22 => (xden S mX11_drawPattern 14 [(0, .ref x0), (1, .ref x1), (2, .int x2), (4, .long x4), (6, .long x6), (8, .int v21), (9, .int v22)] [] h19)) else (if ¬ v20 = (111 : Int32) then (xden S mX11_drawPattern 125 [(0, .ref x0), (1, .ref x1), (2, .int x2), (4, .long x4), (6, .long x6), (9, .int x9), (10, .int v5), (11, .int v17)] [.int (0 : Int32), .int (1 : Int32), .int v17, .long x6, .long x4, .ref x1] h19) else (xden S mX11_drawPattern 125 [(0, .ref x0), (1, .ref x1), (2, .int x2), (4, .long x4), (6, .long x6), (9, .int x9), (10, .int v5), (11, .int v17)] [.int (1 : Int32), .int (1 : Int32), .int v17, .long x6, .long x4, .ref x1] h19)))) else (xlet (x2.toInt64) fun v23 => xlet (x6 + (v17.toInt64)) fun v24 => xlet (v5 + (1 : Int32)) fun v25 => xlet (x9 + (1 : Int32)) fun v26 => (xden S mX11_drawPattern 14 [(0, .ref x0), (1, .ref x1), (2, .int x2), (4, .long v23), (6, .long v24), (8, .int v25), (9, .int v26)] [] h19)) else none else none) else none))) (xden S mX11_drawPattern 14 [(0, .ref x0), (1, .ref x1), (2, .int x2), (4, .long x4), (6, .long x6), (8, .int x8), (9, .int x9)] [] h) := by
  refine l_loc dX11_drawPattern_14 rfl rfl ?_
  refine l_loc dX11_drawPattern_16 rfl rfl ?_
  refine l_gi dX11_drawPattern_17 fl_10_15 (fun v1 => ?_)
  refine l_cge (t := 148) dX11_drawPattern_20 rfl ?_ ?_
  · exact l_end dX11_drawPattern_148 rfl rfl
  · refine l_loc dX11_drawPattern_23 rfl rfl ?_
    refine l_loc dX11_drawPattern_25 rfl rfl ?_
    refine l_gi dX11_drawPattern_26 fl_10_15 (fun v2 => ?_)
    refine l_cge (t := 148) dX11_drawPattern_29 rfl ?_ ?_
    · exact l_end dX11_drawPattern_148 rfl rfl
    · refine l_loc dX11_drawPattern_32 rfl rfl ?_
      refine l_loc dX11_drawPattern_33 rfl rfl ?_
      refine l_ob fun q3 => ?_
      refine l_cI dX11_drawPattern_35 rfl rfl rfl (l_xv cl_10_43 ko_mX11_endOfDigits rfl rfl rfl q3) rfl rfl nm_mX11_endOfDigits (xhE_th rfl) (fun v5 h4 => ?_)
      refine l_loc (al1 := [(10, .int v5), (0, .ref x0), (1, .ref x1), (2, .int x2), (4, .long x4), (6, .long x6), (8, .int x8), (9, .int x9)]) dX11_drawPattern_38 rfl rfl ?_
      refine l_loc dX11_drawPattern_40 rfl rfl ?_
      refine l_loc dX11_drawPattern_42 rfl rfl ?_
      refine l_cle (t := 58) dX11_drawPattern_44 rfl ?_ ?_
      · refine l_ic dX11_drawPattern_58 kI_1 ?_
        refine l_loc (al1 := [(11, .int (1 : Int32)), (10, .int v5), (0, .ref x0), (1, .ref x1), (2, .int x2), (4, .long x4), (6, .long x6), (8, .int x8), (9, .int x9)]) dX11_drawPattern_59 rfl rfl ?_
        refine l_loc dX11_drawPattern_61 rfl rfl ?_
        refine l_loc dX11_drawPattern_62 rfl rfl ?_
        refine l_ob fun q6 => ?_
        refine l_cI dX11_drawPattern_64 rfl rfl rfl (l_xv cl_10_23 ko_mX11_codeAt rfl rfl rfl q6) rfl rfl nm_mX11_codeAt (xhE_th rfl) (fun v8 h7 => ?_)
        refine l_loc (al1 := [(12, .int v8), (11, .int (1 : Int32)), (10, .int v5), (0, .ref x0), (1, .ref x1), (2, .int x2), (4, .long x4), (6, .long x6), (8, .int x8), (9, .int x9)]) dX11_drawPattern_67 rfl rfl ?_
        refine l_loc dX11_drawPattern_69 rfl rfl ?_
        refine l_bi dX11_drawPattern_71 kB_36 ?_
        refine l_cne (t := 91) dX11_drawPattern_73 rfl ?_ ?_
        · refine l_loc dX11_drawPattern_91 rfl rfl ?_
          refine l_bi dX11_drawPattern_93 kB_111 ?_
          refine l_ceq (t := 105) dX11_drawPattern_95 rfl ?_ ?_
          · refine l_loc dX11_drawPattern_105 rfl rfl ?_
            refine l_loc dX11_drawPattern_106 rfl rfl ?_
            refine l_loc dX11_drawPattern_108 rfl rfl ?_
            refine l_loc dX11_drawPattern_110 rfl rfl ?_
            refine l_ic dX11_drawPattern_112 kI_1 ?_
            refine l_loc dX11_drawPattern_113 rfl rfl ?_
            refine l_bi dX11_drawPattern_115 kB_111 ?_
            refine l_cne (t := 124) dX11_drawPattern_117 rfl ?_ ?_
            · refine l_ic dX11_drawPattern_124 kI_0 ?_
              exact l_al rfl ⟨rfl, rfl, rfl, rfl, rfl, rfl, rfl, rfl, trivial⟩
            · refine l_ic dX11_drawPattern_120 kI_1 ?_
              refine l_goto (t := 125) dX11_drawPattern_121 rfl ?_
              exact l_al rfl ⟨rfl, rfl, rfl, rfl, rfl, rfl, rfl, rfl, trivial⟩
          · refine l_loc dX11_drawPattern_98 rfl rfl ?_
            refine l_bi dX11_drawPattern_100 kB_98 ?_
            refine l_cne (t := 136) dX11_drawPattern_102 rfl ?_ ?_
            · refine l_loc dX11_drawPattern_136 rfl rfl ?_
              refine l_ic dX11_drawPattern_138 kI_1 ?_
              refine l_pure dX11_drawPattern_139 rfl rfl ?_
              refine l_isl (al1 := fun v9 => [(8, .int v9), (12, .int v8), (11, .int (1 : Int32)), (10, .int v5), (0, .ref x0), (1, .ref x1), (2, .int x2), (4, .long x4), (6, .long x6), (9, .int x9)]) dX11_drawPattern_140 rfl (fun _ => rfl) (fun v9 => ?_)
              refine l_incl (al1 := fun v10 => [(9, .int v10), (8, .int v9), (12, .int v8), (11, .int (1 : Int32)), (10, .int v5), (0, .ref x0), (1, .ref x1), (2, .int x2), (4, .long x4), (6, .long x6)]) dX11_drawPattern_142 rfl kI_1 rfl (fun _ => rfl) (fun v10 => ?_)
              refine l_goto (t := 14) dX11_drawPattern_145 rfl ?_
              exact l_al rfl ⟨rfl, rfl, rfl, rfl, rfl, rfl, rfl, trivial⟩
            · refine l_loc dX11_drawPattern_105 rfl rfl ?_
              refine l_loc dX11_drawPattern_106 rfl rfl ?_
              refine l_loc dX11_drawPattern_108 rfl rfl ?_
              refine l_loc dX11_drawPattern_110 rfl rfl ?_
              refine l_ic dX11_drawPattern_112 kI_1 ?_
              refine l_loc dX11_drawPattern_113 rfl rfl ?_
              refine l_bi dX11_drawPattern_115 kB_111 ?_
              refine l_cne (t := 124) dX11_drawPattern_117 rfl ?_ ?_
              · refine l_ic dX11_drawPattern_124 kI_0 ?_
                exact l_al rfl ⟨rfl, rfl, rfl, rfl, rfl, rfl, rfl, rfl, trivial⟩
              · refine l_ic dX11_drawPattern_120 kI_1 ?_
                refine l_goto (t := 125) dX11_drawPattern_121 rfl ?_
                exact l_al rfl ⟨rfl, rfl, rfl, rfl, rfl, rfl, rfl, rfl, trivial⟩
        · refine l_loc dX11_drawPattern_76 rfl rfl ?_
          refine l_pure dX11_drawPattern_77 rfl rfl ?_
          refine l_lsl (al1 := fun v11 => [(4, .long v11), (12, .int v8), (11, .int (1 : Int32)), (10, .int v5), (0, .ref x0), (1, .ref x1), (2, .int x2), (6, .long x6), (8, .int x8), (9, .int x9)]) dX11_drawPattern_78 rfl (fun _ => rfl) (fun v11 => ?_)
          refine l_loc dX11_drawPattern_80 rfl rfl ?_
          refine l_loc dX11_drawPattern_82 rfl rfl ?_
          refine l_pure dX11_drawPattern_84 rfl rfl ?_
          refine l_pure dX11_drawPattern_85 rfl rfl ?_
          refine l_lsl (al1 := fun v12 => [(6, .long v12), (4, .long v11), (12, .int v8), (11, .int (1 : Int32)), (10, .int v5), (0, .ref x0), (1, .ref x1), (2, .int x2), (8, .int x8), (9, .int x9)]) dX11_drawPattern_86 rfl (fun _ => rfl) (fun v12 => ?_)
          refine l_goto (t := 136) dX11_drawPattern_88 rfl ?_
          refine l_loc dX11_drawPattern_136 rfl rfl ?_
          refine l_ic dX11_drawPattern_138 kI_1 ?_
          refine l_pure dX11_drawPattern_139 rfl rfl ?_
          refine l_isl (al1 := fun v13 => [(8, .int v13), (6, .long v12), (4, .long v11), (12, .int v8), (11, .int (1 : Int32)), (10, .int v5), (0, .ref x0), (1, .ref x1), (2, .int x2), (9, .int x9)]) dX11_drawPattern_140 rfl (fun _ => rfl) (fun v13 => ?_)
          refine l_incl (al1 := fun v14 => [(9, .int v14), (8, .int v13), (6, .long v12), (4, .long v11), (12, .int v8), (11, .int (1 : Int32)), (10, .int v5), (0, .ref x0), (1, .ref x1), (2, .int x2)]) dX11_drawPattern_142 rfl kI_1 rfl (fun _ => rfl) (fun v14 => ?_)
          refine l_goto (t := 14) dX11_drawPattern_145 rfl ?_
          exact l_al rfl ⟨rfl, rfl, rfl, rfl, rfl, rfl, rfl, trivial⟩
      · refine l_loc dX11_drawPattern_47 rfl rfl ?_
        refine l_loc dX11_drawPattern_48 rfl rfl ?_
        refine l_loc dX11_drawPattern_50 rfl rfl ?_
        refine l_ob fun q15 => ?_
        refine l_cI dX11_drawPattern_52 rfl rfl rfl (l_xv cl_10_46 ko_mX11_numberOf rfl rfl rfl q15) rfl rfl nm_mX11_numberOf (xhE_th rfl) (fun v17 h16 => ?_)
        refine l_goto (t := 59) dX11_drawPattern_55 rfl ?_
        refine l_loc (al1 := [(11, .int v17), (10, .int v5), (0, .ref x0), (1, .ref x1), (2, .int x2), (4, .long x4), (6, .long x6), (8, .int x8), (9, .int x9)]) dX11_drawPattern_59 rfl rfl ?_
        refine l_loc dX11_drawPattern_61 rfl rfl ?_
        refine l_loc dX11_drawPattern_62 rfl rfl ?_
        refine l_ob fun q18 => ?_
        refine l_cI dX11_drawPattern_64 rfl rfl rfl (l_xv cl_10_23 ko_mX11_codeAt rfl rfl rfl q18) rfl rfl nm_mX11_codeAt (xhE_th rfl) (fun v20 h19 => ?_)
        refine l_loc (al1 := [(12, .int v20), (11, .int v17), (10, .int v5), (0, .ref x0), (1, .ref x1), (2, .int x2), (4, .long x4), (6, .long x6), (8, .int x8), (9, .int x9)]) dX11_drawPattern_67 rfl rfl ?_
        refine l_loc dX11_drawPattern_69 rfl rfl ?_
        refine l_bi dX11_drawPattern_71 kB_36 ?_
        refine l_cne (t := 91) dX11_drawPattern_73 rfl ?_ ?_
        · refine l_loc dX11_drawPattern_91 rfl rfl ?_
          refine l_bi dX11_drawPattern_93 kB_111 ?_
          refine l_ceq (t := 105) dX11_drawPattern_95 rfl ?_ ?_
          · refine l_loc dX11_drawPattern_105 rfl rfl ?_
            refine l_loc dX11_drawPattern_106 rfl rfl ?_
            refine l_loc dX11_drawPattern_108 rfl rfl ?_
            refine l_loc dX11_drawPattern_110 rfl rfl ?_
            refine l_ic dX11_drawPattern_112 kI_1 ?_
            refine l_loc dX11_drawPattern_113 rfl rfl ?_
            refine l_bi dX11_drawPattern_115 kB_111 ?_
            refine l_cne (t := 124) dX11_drawPattern_117 rfl ?_ ?_
            · refine l_ic dX11_drawPattern_124 kI_0 ?_
              exact l_al rfl ⟨rfl, rfl, rfl, rfl, rfl, rfl, rfl, rfl, trivial⟩
            · refine l_ic dX11_drawPattern_120 kI_1 ?_
              refine l_goto (t := 125) dX11_drawPattern_121 rfl ?_
              exact l_al rfl ⟨rfl, rfl, rfl, rfl, rfl, rfl, rfl, rfl, trivial⟩
          · refine l_loc dX11_drawPattern_98 rfl rfl ?_
            refine l_bi dX11_drawPattern_100 kB_98 ?_
            refine l_cne (t := 136) dX11_drawPattern_102 rfl ?_ ?_
            · refine l_loc dX11_drawPattern_136 rfl rfl ?_
              refine l_ic dX11_drawPattern_138 kI_1 ?_
              refine l_pure dX11_drawPattern_139 rfl rfl ?_
              refine l_isl (al1 := fun v21 => [(8, .int v21), (12, .int v20), (11, .int v17), (10, .int v5), (0, .ref x0), (1, .ref x1), (2, .int x2), (4, .long x4), (6, .long x6), (9, .int x9)]) dX11_drawPattern_140 rfl (fun _ => rfl) (fun v21 => ?_)
              refine l_incl (al1 := fun v22 => [(9, .int v22), (8, .int v21), (12, .int v20), (11, .int v17), (10, .int v5), (0, .ref x0), (1, .ref x1), (2, .int x2), (4, .long x4), (6, .long x6)]) dX11_drawPattern_142 rfl kI_1 rfl (fun _ => rfl) (fun v22 => ?_)
              refine l_goto (t := 14) dX11_drawPattern_145 rfl ?_
              exact l_al rfl ⟨rfl, rfl, rfl, rfl, rfl, rfl, rfl, trivial⟩
            · refine l_loc dX11_drawPattern_105 rfl rfl ?_
              refine l_loc dX11_drawPattern_106 rfl rfl ?_
              refine l_loc dX11_drawPattern_108 rfl rfl ?_
              refine l_loc dX11_drawPattern_110 rfl rfl ?_
              refine l_ic dX11_drawPattern_112 kI_1 ?_
              refine l_loc dX11_drawPattern_113 rfl rfl ?_
              refine l_bi dX11_drawPattern_115 kB_111 ?_
              refine l_cne (t := 124) dX11_drawPattern_117 rfl ?_ ?_
              · refine l_ic dX11_drawPattern_124 kI_0 ?_
                exact l_al rfl ⟨rfl, rfl, rfl, rfl, rfl, rfl, rfl, rfl, trivial⟩
              · refine l_ic dX11_drawPattern_120 kI_1 ?_
                refine l_goto (t := 125) dX11_drawPattern_121 rfl ?_
                exact l_al rfl ⟨rfl, rfl, rfl, rfl, rfl, rfl, rfl, rfl, trivial⟩
        · refine l_loc dX11_drawPattern_76 rfl rfl ?_
          refine l_pure dX11_drawPattern_77 rfl rfl ?_
          refine l_lsl (al1 := fun v23 => [(4, .long v23), (12, .int v20), (11, .int v17), (10, .int v5), (0, .ref x0), (1, .ref x1), (2, .int x2), (6, .long x6), (8, .int x8), (9, .int x9)]) dX11_drawPattern_78 rfl (fun _ => rfl) (fun v23 => ?_)
          refine l_loc dX11_drawPattern_80 rfl rfl ?_
          refine l_loc dX11_drawPattern_82 rfl rfl ?_
          refine l_pure dX11_drawPattern_84 rfl rfl ?_
          refine l_pure dX11_drawPattern_85 rfl rfl ?_
          refine l_lsl (al1 := fun v24 => [(6, .long v24), (4, .long v23), (12, .int v20), (11, .int v17), (10, .int v5), (0, .ref x0), (1, .ref x1), (2, .int x2), (8, .int x8), (9, .int x9)]) dX11_drawPattern_86 rfl (fun _ => rfl) (fun v24 => ?_)
          refine l_goto (t := 136) dX11_drawPattern_88 rfl ?_
          refine l_loc dX11_drawPattern_136 rfl rfl ?_
          refine l_ic dX11_drawPattern_138 kI_1 ?_
          refine l_pure dX11_drawPattern_139 rfl rfl ?_
          refine l_isl (al1 := fun v25 => [(8, .int v25), (6, .long v24), (4, .long v23), (12, .int v20), (11, .int v17), (10, .int v5), (0, .ref x0), (1, .ref x1), (2, .int x2), (9, .int x9)]) dX11_drawPattern_140 rfl (fun _ => rfl) (fun v25 => ?_)
          refine l_incl (al1 := fun v26 => [(9, .int v26), (8, .int v25), (6, .long v24), (4, .long v23), (12, .int v20), (11, .int v17), (10, .int v5), (0, .ref x0), (1, .ref x1), (2, .int x2)]) dX11_drawPattern_142 rfl kI_1 rfl (fun _ => rfl) (fun v26 => ?_)
          refine l_goto (t := 14) dX11_drawPattern_145 rfl ?_
          exact l_al rfl ⟨rfl, rfl, rfl, rfl, rfl, rfl, rfl, trivial⟩
set_option maxRecDepth 16000 in
theorem w_X11_drawPattern_125 (S : xS) (x0 : Nat) (x1 : Nat) (x2 : Int32) (x4 : Int64) (x6 : Int64) (x9 : Int32) (x10 : Int32) (x11 : Int32) (z0 : Int32) (z1 : Int32) (z2 : Int32) (z3 : Int64) (z4 : Int64) (z5 : Nat) (h : xH) : xle (if xOb h z5 4 = true then xqV (xM S mX4_paint [.ref z5, .long z4, .long z3, .int z2, .int z1, .int z0] h) xth fun h2 => xlet (x4 + (x11.toInt64)) fun v4 => xlet (x10 + (1 : Int32)) fun v5 => xlet (x9 + (1 : Int32)) fun v6 => (xden S mX11_drawPattern 14 [(0, .ref x0), (1, .ref x1), (2, .int x2), (4, .long v4), (6, .long x6), (8, .int v5), (9, .int v6)] [] h2) else none) (xden S mX11_drawPattern 125 [(0, .ref x0), (1, .ref x1), (2, .int x2), (4, .long x4), (6, .long x6), (9, .int x9), (10, .int x10), (11, .int x11)] [.int z0, .int z1, .int z2, .long z3, .long z4, .ref z5] h) := by
  refine l_ob fun q1 => ?_
  refine l_cV dX11_drawPattern_125 rfl rfl rfl (l_xv cl_10_56 ko_mX4_paint rfl rfl rfl q1) rfl rfl nm_mX4_paint (xhE_th rfl) (fun h2 => ?_)
  refine l_loc dX11_drawPattern_128 rfl rfl ?_
  refine l_loc dX11_drawPattern_130 rfl rfl ?_
  refine l_pure dX11_drawPattern_132 rfl rfl ?_
  refine l_pure dX11_drawPattern_133 rfl rfl ?_
  refine l_lsl (al1 := fun v4 => [(4, .long v4), (0, .ref x0), (1, .ref x1), (2, .int x2), (6, .long x6), (9, .int x9), (10, .int x10), (11, .int x11)]) dX11_drawPattern_134 rfl (fun _ => rfl) (fun v4 => ?_)
  refine l_loc dX11_drawPattern_136 rfl rfl ?_
  refine l_ic dX11_drawPattern_138 kI_1 ?_
  refine l_pure dX11_drawPattern_139 rfl rfl ?_
  refine l_isl (al1 := fun v5 => [(8, .int v5), (4, .long v4), (0, .ref x0), (1, .ref x1), (2, .int x2), (6, .long x6), (9, .int x9), (10, .int x10), (11, .int x11)]) dX11_drawPattern_140 rfl (fun _ => rfl) (fun v5 => ?_)
  refine l_incl (al1 := fun v6 => [(9, .int v6), (8, .int v5), (4, .long v4), (0, .ref x0), (1, .ref x1), (2, .int x2), (6, .long x6), (10, .int x10), (11, .int x11)]) dX11_drawPattern_142 rfl kI_1 rfl (fun _ => rfl) (fun v6 => ?_)
  refine l_goto (t := 14) dX11_drawPattern_145 rfl ?_
  exact l_al rfl ⟨rfl, rfl, rfl, rfl, rfl, rfl, rfl, trivial⟩
set_option maxRecDepth 16000 in
theorem w_X0_countIn (S : xS) (x0 : Nat) (x1 : Nat) (h : xH) : xle (if xOb h x0 0 = true then xqV (xM S mX0_begin [.ref x0, .ref x1] h) xth fun h2 => (xden S mX0_countIn 7 [(0, .ref x0), (2, .int (0 : Int32))] [] h2) else none) (xM S mX0_countIn [.ref x0, .ref x1] h) := by
  show xle _ (xden S mX0_countIn 0 [(0, .ref x0), (1, .ref x1)] [] h)
  refine l_loc dX0_countIn_0 rfl rfl ?_
  refine l_loc dX0_countIn_1 rfl rfl ?_
  refine l_ob fun q1 => ?_
  refine l_cV dX0_countIn_2 rfl rfl rfl (l_xv cl_0_25 ko_mX0_begin rfl rfl rfl q1) rfl rfl nm_mX0_begin (xhE_th rfl) (fun h2 => ?_)
  refine l_ic dX0_countIn_5 kI_0 ?_
  refine l_loc (al1 := [(2, .int (0 : Int32)), (0, .ref x0), (1, .ref x1)]) dX0_countIn_6 rfl rfl ?_
  exact l_al rfl ⟨rfl, rfl, trivial⟩
set_option maxRecDepth 16000 in
theorem w_X0_countIn_7 (S : xS) (x0 : Nat) (x2 : Int32) (h : xH) : xle ((xGi h x0 0 1).bind fun v1 => if v1 ≤ x2 then (some (.inl (some (.int x2)), h, 0, 0)) else (if xOb h x0 0 = true then xqI (xM S mX0_findNext [.ref x0] h) xth fun v4 h3 => if v4 = 0 then (some (.inl (some (.int x2)), h3, 0, 0)) else (xlet (x2 + (1 : Int32)) fun v5 => (xden S mX0_countIn 7 [(0, .ref x0), (2, .int v5)] [] h3)) else none)) (xden S mX0_countIn 7 [(0, .ref x0), (2, .int x2)] [] h) := by
  refine l_loc dX0_countIn_7 rfl rfl ?_
  refine l_loc dX0_countIn_8 rfl rfl ?_
  refine l_gi dX0_countIn_9 fl_0_15 (fun v1 => ?_)
  refine l_cge (t := 28) dX0_countIn_12 rfl ?_ ?_
  · refine l_loc dX0_countIn_28 rfl rfl ?_
    exact l_iretn dX0_countIn_29 rfl (by rfl)
  · refine l_loc dX0_countIn_15 rfl rfl ?_
    refine l_ob fun q2 => ?_
    refine l_cI dX0_countIn_16 rfl rfl rfl (l_xv cl_0_29 ko_mX0_findNext rfl rfl rfl q2) rfl rfl nm_mX0_findNext (xhE_th rfl) (fun v4 h3 => ?_)
    refine l_ieq (t := 28) dX0_countIn_19 rfl ?_ ?_
    · refine l_loc dX0_countIn_28 rfl rfl ?_
      exact l_iretn dX0_countIn_29 rfl (by rfl)
    · refine l_incl (al1 := fun v5 => [(2, .int v5), (0, .ref x0)]) dX0_countIn_22 rfl kI_1 rfl (fun _ => rfl) (fun v5 => ?_)
      refine l_goto (t := 7) dX0_countIn_25 rfl ?_
      exact l_al rfl ⟨rfl, rfl, trivial⟩
set_option maxRecDepth 16000 in
theorem w_X11_isFull (S : xS) (x0 : Nat) (h : xH) : xle ((xGi h x0 10 1).bind fun v1 => if v1 < (80 : Int32) then (some (.inl (some (.int (0 : Int32))), h, 0, 0)) else (some (.inl (some (.int (1 : Int32))), h, 0, 0))) (xM S mX11_isFull [.ref x0] h) := by
  show xle _ (xden S mX11_isFull 0 [(0, .ref x0)] [] h)
  refine l_loc dX11_isFull_0 rfl rfl ?_
  refine l_gi dX11_isFull_1 fl_10_15 (fun v1 => ?_)
  refine l_bi dX11_isFull_4 kB_80 ?_
  refine l_clt (t := 13) dX11_isFull_6 rfl ?_ ?_
  · refine l_ic dX11_isFull_13 kI_0 ?_
    exact l_iretn dX11_isFull_14 rfl (by decide)
  · refine l_ic dX11_isFull_9 kI_1 ?_
    refine l_goto (t := 14) dX11_isFull_10 rfl ?_
    exact l_iretn dX11_isFull_14 rfl (by decide)
set_option maxRecDepth 16000 in
theorem w_X11_add (S : xS) (x0 : Nat) (x1 : Int32) (h : xH) : xle (if xOb h x0 10 = true then xqI (xM S mX11_isFull [.ref x0] h) xth fun v3 h2 => if ¬ v3 = 0 then ((xGi h2 x0 10 1).bind fun v4 => some (.inl (some (.int v4)), h2, 0, 0)) else ((xGr h2 x0 10 0).bind fun v5 => (xGi h2 x0 10 1).bind fun v6 => (xWi h2 v5 v6 x1).bind fun h7 => (xGi h7 x0 10 1).bind fun v8 => (xP false 10 h7 x0 10 1 (.int (v8 + (1 : Int32)))).bind fun h9 => (xGi h9 x0 10 1).bind fun v10 => some (.inl (some (.int v10)), h9, 0, 0)) else none) (xM S mX11_add [.ref x0, .int x1] h) := by
  show xle _ (xden S mX11_add 0 [(0, .ref x0), (1, .int x1)] [] h)
  refine l_loc dX11_add_0 rfl rfl ?_
  refine l_ob fun q1 => ?_
  refine l_cI dX11_add_1 rfl rfl rfl (l_xv cl_10_19 ko_mX11_isFull rfl rfl rfl q1) rfl rfl nm_mX11_isFull (xhE_th rfl) (fun v3 h2 => ?_)
  refine l_ine (t := 27) dX11_add_4 rfl ?_ ?_
  · refine l_loc dX11_add_27 rfl rfl ?_
    refine l_gi dX11_add_28 fl_10_15 (fun v4 => ?_)
    exact l_iretn dX11_add_31 rfl (by rfl)
  · refine l_loc dX11_add_7 rfl rfl ?_
    refine l_gr dX11_add_8 fl_10_9 (fun v5 => ?_)
    refine l_loc dX11_add_11 rfl rfl ?_
    refine l_gi dX11_add_12 fl_10_15 (fun v6 => ?_)
    refine l_loc dX11_add_15 rfl rfl ?_
    refine l_wi dX11_add_16 (fun h7 => ?_)
    refine l_loc dX11_add_17 rfl rfl ?_
    refine l_pure dX11_add_18 rfl rfl ?_
    refine l_gi dX11_add_19 fl_10_15 (fun v8 => ?_)
    refine l_ic dX11_add_22 kI_1 ?_
    refine l_pure dX11_add_23 rfl rfl ?_
    refine l_pf dX11_add_24 fl_10_15 (ini := false) nm_mX11_add (fun h9 => ?_)
    refine l_loc dX11_add_27 rfl rfl ?_
    refine l_gi dX11_add_28 fl_10_15 (fun v10 => ?_)
    exact l_iretn dX11_add_31 rfl (by rfl)
set_option maxRecDepth 16000 in
theorem w_X6_seek (S : xS) (x0 : Nat) (x1 : Int32) (h : xH) : xle ((xP false 6 h x0 6 0 (.int x1)).bind fun h1 => (xP false 6 h1 x0 6 1 (.int (0 : Int32))).bind fun h2 => (xP false 6 h2 x0 6 2 (.int (-1 : Int32))).bind fun h3 => some (.inl none, h3, 0, 0)) (xM S mX6_seek [.ref x0, .int x1] h) := by
  show xle _ (xden S mX6_seek 0 [(0, .ref x0), (1, .int x1)] [] h)
  refine l_loc dX6_seek_0 rfl rfl ?_
  refine l_loc dX6_seek_1 rfl rfl ?_
  refine l_pf dX6_seek_2 fl_6_7 (ini := false) nm_mX6_seek (fun h1 => ?_)
  refine l_loc dX6_seek_5 rfl rfl ?_
  refine l_ic dX6_seek_6 kI_0 ?_
  refine l_pf dX6_seek_7 fl_6_13 (ini := false) nm_mX6_seek (fun h2 => ?_)
  refine l_loc dX6_seek_10 rfl rfl ?_
  refine l_ic dX6_seek_11 kI_m1 ?_
  refine l_pf dX6_seek_12 fl_6_16 (ini := false) nm_mX6_seek (fun h3 => ?_)
  exact l_end dX6_seek_15 rfl rfl
theorem w_X2_describe (S : xS) (x0 : Nat) (x1 : Nat) (h : xH) : xle (xden S mX2_describe 2 [(0, .ref x0), (1, .ref x1), (2, .int (0 : Int32))] [] h) (xM S mX2_describe [.ref x0, .ref x1] h) := by
  show xle _ (xden S mX2_describe 0 [(0, .ref x0), (1, .ref x1)] [] h)
  refine l_ic dX2_describe_0 kI_0 ?_
  refine l_loc (al1 := [(2, .int (0 : Int32)), (0, .ref x0), (1, .ref x1)]) dX2_describe_1 rfl rfl ?_
  exact l_al rfl ⟨rfl, rfl, rfl, trivial⟩
set_option maxRecDepth 16000 in
theorem w_X2_describe_2 (S : xS) (x0 : Nat) (x1 : Nat) (x2 : Int32) (h : xH) : xle ((xGi h x0 2 2).bind fun v1 => if v1 ≤ x2 then (some (.inl none, h, 0, 0)) else ((xGr h x0 2 1).bind fun v2 => (xRi h 0 v2 x2).bind fun v3 => if v3 < 0 then (xlet (x2 + (1 : Int32)) fun v4 => (xden S mX2_describe 2 [(0, .ref x0), (1, .ref x1), (2, .int v4)] [] h)) else (if (10 : Int32) ≤ v3 then (xlet (x2 + (1 : Int32)) fun v6 => (xden S mX2_describe 2 [(0, .ref x0), (1, .ref x1), (2, .int v6)] [] h)) else (if x2 ≤ 0 then (if xin v3 10 = true then if xOb h x0 2 = true then xqV (xM S mX2_describeOne [.ref x0, .retAddr (v3.toNatClampNeg), .ref x1] h) xth fun h9 => xlet (x2 + (1 : Int32)) fun v11 => (xden S mX2_describe 2 [(0, .ref x0), (1, .ref x1), (2, .int v11)] [] h9) else none else none) else (if xOb h x1 6 = true then xqV (xM S mX6_put [.ref x1, .int (59 : Int32)] h) xth fun h13 => if xin v3 10 = true then if xOb h13 x0 2 = true then xqV (xM S mX2_describeOne [.ref x0, .retAddr (v3.toNatClampNeg), .ref x1] h13) xth fun h17 => xlet (x2 + (1 : Int32)) fun v19 => (xden S mX2_describe 2 [(0, .ref x0), (1, .ref x1), (2, .int v19)] [] h17) else none else none else none))))) (xden S mX2_describe 2 [(0, .ref x0), (1, .ref x1), (2, .int x2)] [] h) := by
  refine l_loc dX2_describe_2 rfl rfl ?_
  refine l_loc dX2_describe_3 rfl rfl ?_
  refine l_gi dX2_describe_4 fl_2_43 (fun v1 => ?_)
  refine l_cge (t := 55) dX2_describe_7 rfl ?_ ?_
  · exact l_end dX2_describe_55 rfl rfl
  · refine l_loc dX2_describe_10 rfl rfl ?_
    refine l_gr dX2_describe_11 fl_2_19 (fun v2 => ?_)
    refine l_loc dX2_describe_14 rfl rfl ?_
    refine l_ri dX2_describe_15 (fun v3 => ?_)
    refine l_loc (al1 := [(3, .int v3), (0, .ref x0), (1, .ref x1), (2, .int x2)]) dX2_describe_16 rfl rfl ?_
    refine l_loc dX2_describe_17 rfl rfl ?_
    refine l_ilt (t := 49) dX2_describe_18 rfl ?_ ?_
    · refine l_incl (al1 := fun v4 => [(2, .int v4), (3, .int v3), (0, .ref x0), (1, .ref x1)]) dX2_describe_49 rfl kI_1 rfl (fun _ => rfl) (fun v4 => ?_)
      refine l_goto (t := 2) dX2_describe_52 rfl ?_
      exact l_al rfl ⟨rfl, rfl, rfl, trivial⟩
    · refine l_loc dX2_describe_21 rfl rfl ?_
      refine l_rd (st1 := [.retAddr 10, .int v3]) dX2_describe_22 rfl rfl ?_
      refine l_rd (st1 := [.int (10 : Int32), .int v3]) dX2_describe_25 rfl rfl ?_
      refine l_cge (t := 49) dX2_describe_26 rfl ?_ ?_
      · refine l_incl (al1 := fun v6 => [(2, .int v6), (3, .int v3), (0, .ref x0), (1, .ref x1)]) dX2_describe_49 rfl kI_1 rfl (fun _ => rfl) (fun v6 => ?_)
        refine l_goto (t := 2) dX2_describe_52 rfl ?_
        exact l_al rfl ⟨rfl, rfl, rfl, trivial⟩
      · refine l_loc dX2_describe_29 rfl rfl ?_
        refine l_ile (t := 39) dX2_describe_30 rfl ?_ ?_
        · refine l_loc dX2_describe_39 rfl rfl ?_
          refine l_rd (st1 := [.retAddr 10, .ref x0]) dX2_describe_40 rfl rfl ?_
          refine l_loc dX2_describe_43 rfl rfl ?_
          refine l_rt dX2_describe_44 ?_
          refine l_loc dX2_describe_45 rfl rfl ?_
          refine l_ob fun q8 => ?_
          refine l_cV dX2_describe_46 rfl rfl rfl (l_xv cl_2_91 ko_mX2_describeOne rfl rfl rfl q8) rfl rfl nm_mX2_describeOne (xhE_th rfl) (fun h9 => ?_)
          refine l_incl (al1 := fun v11 => [(2, .int v11), (3, .int v3), (0, .ref x0), (1, .ref x1)]) dX2_describe_49 rfl kI_1 rfl (fun _ => rfl) (fun v11 => ?_)
          refine l_goto (t := 2) dX2_describe_52 rfl ?_
          exact l_al rfl ⟨rfl, rfl, rfl, trivial⟩
        · refine l_loc dX2_describe_33 rfl rfl ?_
          refine l_bi dX2_describe_34 kB_59 ?_
          refine l_ob fun q12 => ?_
          refine l_cV dX2_describe_36 rfl rfl rfl (l_xv cl_2_85 ko_mX6_put rfl rfl rfl q12) rfl rfl nm_mX6_put (xhE_th rfl) (fun h13 => ?_)
          refine l_loc dX2_describe_39 rfl rfl ?_
          refine l_rd (st1 := [.retAddr 10, .ref x0]) dX2_describe_40 rfl rfl ?_
          refine l_loc dX2_describe_43 rfl rfl ?_
          refine l_rt dX2_describe_44 ?_
          refine l_loc dX2_describe_45 rfl rfl ?_
          refine l_ob fun q16 => ?_
          refine l_cV dX2_describe_46 rfl rfl rfl (l_xv cl_2_91 ko_mX2_describeOne rfl rfl rfl q16) rfl rfl nm_mX2_describeOne (xhE_th rfl) (fun h17 => ?_)
          refine l_incl (al1 := fun v19 => [(2, .int v19), (3, .int v3), (0, .ref x0), (1, .ref x1)]) dX2_describe_49 rfl kI_1 rfl (fun _ => rfl) (fun v19 => ?_)
          refine l_goto (t := 2) dX2_describe_52 rfl ?_
          exact l_al rfl ⟨rfl, rfl, rfl, trivial⟩
set_option maxRecDepth 16000 in
theorem w_X6_put (S : xS) (x0 : Nat) (x1 : Int32) (h : xH) : xle ((xGi h x0 6 1).bind fun v1 => (xGi h x0 6 0).bind fun v2 => if ¬ v1 = v2 then ((xGi h x0 6 1).bind fun v3 => (xP false 6 h x0 6 1 (.int (v3 + (1 : Int32)))).bind fun h4 => some (.inl none, h4, 0, 0)) else ((xP false 6 h x0 6 2 (.int x1)).bind fun h5 => (xGi h5 x0 6 1).bind fun v6 => (xP false 6 h5 x0 6 1 (.int (v6 + (1 : Int32)))).bind fun h7 => some (.inl none, h7, 0, 0))) (xM S mX6_put [.ref x0, .int x1] h) := by
  show xle _ (xden S mX6_put 0 [(0, .ref x0), (1, .int x1)] [] h)
  refine l_loc dX6_put_0 rfl rfl ?_
  refine l_gi dX6_put_1 fl_6_13 (fun v1 => ?_)
  refine l_loc dX6_put_4 rfl rfl ?_
  refine l_gi dX6_put_5 fl_6_7 (fun v2 => ?_)
  refine l_cne (t := 16) dX6_put_8 rfl ?_ ?_
  · refine l_loc dX6_put_16 rfl rfl ?_
    refine l_pure dX6_put_17 rfl rfl ?_
    refine l_gi dX6_put_18 fl_6_13 (fun v3 => ?_)
    refine l_ic dX6_put_21 kI_1 ?_
    refine l_pure dX6_put_22 rfl rfl ?_
    refine l_pf dX6_put_23 fl_6_13 (ini := false) nm_mX6_put (fun h4 => ?_)
    exact l_end dX6_put_26 rfl rfl
  · refine l_loc dX6_put_11 rfl rfl ?_
    refine l_loc dX6_put_12 rfl rfl ?_
    refine l_pf dX6_put_13 fl_6_16 (ini := false) nm_mX6_put (fun h5 => ?_)
    refine l_loc dX6_put_16 rfl rfl ?_
    refine l_pure dX6_put_17 rfl rfl ?_
    refine l_gi dX6_put_18 fl_6_13 (fun v6 => ?_)
    refine l_ic dX6_put_21 kI_1 ?_
    refine l_pure dX6_put_22 rfl rfl ?_
    refine l_pf dX6_put_23 fl_6_13 (ini := false) nm_mX6_put (fun h7 => ?_)
    exact l_end dX6_put_26 rfl rfl
set_option maxRecDepth 16000 in
theorem w_X2_describeOne (S : xS) (x0 : Nat) (x1 : Nat) (x2 : Nat) (h : xH) : xle (if xOb h x0 2 = true then xqI (xM S mX2_valueOf [.ref x0, .retAddr x1] h) xth fun v3 h2 => (xCk x1 2 77).bind fun v4 => if xOb h2 x2 6 = true then xqV (xM S mX6_write [.ref x2, .retAddr v4] h2) xth fun h6 => if xOb h6 x2 6 = true then xqV (xM S mX6_put [.ref x2, .int (61 : Int32)] h6) xth fun h9 => if xCcl x1 = some 13 then xqI (xM S mX9_hasWords [.retAddr x1] h9) xth fun v13 h12 => if v13 = 0 then (if xOb h12 x2 6 = true then xqV (xM S mX6_writeNumber [.ref x2, .int v3] h12) xth fun h15 => some (.inl none, h15, 0, 0) else none) else (if ¬ v3 = 0 then ((xCk x1 2 110).bind fun v17 => if xOb h12 x2 6 = true then xqV (xM S mX6_write [.ref x2, .retAddr v17] h12) xth fun h19 => some (.inl none, h19, 0, 0) else none) else ((xCk x1 2 107).bind fun v21 => if xOb h12 x2 6 = true then xqV (xM S mX6_write [.ref x2, .retAddr v21] h12) xth fun h23 => some (.inl none, h23, 0, 0) else none)) else none else none else none else none) (xM S mX2_describeOne [.ref x0, .retAddr x1, .ref x2] h) := by
  show xle _ (xden S mX2_describeOne 0 [(0, .ref x0), (1, .retAddr x1), (2, .ref x2)] [] h)
  refine l_loc dX2_describeOne_0 rfl rfl ?_
  refine l_loc dX2_describeOne_1 rfl rfl ?_
  refine l_ob fun q1 => ?_
  refine l_cI dX2_describeOne_2 rfl rfl rfl (l_xv cl_2_95 ko_mX2_valueOf rfl rfl rfl q1) rfl rfl nm_mX2_valueOf (xhE_th rfl) (fun v3 h2 => ?_)
  refine l_loc (al1 := [(3, .int v3), (0, .ref x0), (1, .retAddr x1), (2, .ref x2)]) dX2_describeOne_5 rfl rfl ?_
  refine l_loc dX2_describeOne_6 rfl rfl ?_
  refine l_loc dX2_describeOne_7 rfl rfl ?_
  refine l_kl dX2_describeOne_8 rfl (fun v4 => ?_)
  refine l_ob fun q5 => ?_
  refine l_cV dX2_describeOne_11 rfl rfl rfl (l_xv cl_2_99 ko_mX6_write rfl rfl rfl q5) rfl rfl nm_mX6_write (xhE_th rfl) (fun h6 => ?_)
  refine l_loc dX2_describeOne_14 rfl rfl ?_
  refine l_bi dX2_describeOne_15 kB_61 ?_
  refine l_ob fun q8 => ?_
  refine l_cV dX2_describeOne_17 rfl rfl rfl (l_xv cl_2_85 ko_mX6_put rfl rfl rfl q8) rfl rfl nm_mX6_put (xhE_th rfl) (fun h9 => ?_)
  refine l_loc dX2_describeOne_20 rfl rfl ?_
  refine l_cl fun q11 => ?_
  refine l_cI dX2_describeOne_21 rfl rfl rfl (l_xk cl_2_103 ko_mX9_hasWords rfl rfl rfl q11) rfl rfl nm_mX9_hasWords (xhE_th rfl) (fun v13 h12 => ?_)
  refine l_ieq (t := 49) dX2_describeOne_24 rfl ?_ ?_
  · refine l_loc dX2_describeOne_49 rfl rfl ?_
    refine l_loc dX2_describeOne_50 rfl rfl ?_
    refine l_ob fun q14 => ?_
    refine l_cV dX2_describeOne_51 rfl rfl rfl (l_xv cl_2_113 ko_mX6_writeNumber rfl rfl rfl q14) rfl rfl nm_mX6_writeNumber (xhE_th rfl) (fun h15 => ?_)
    exact l_end dX2_describeOne_54 rfl rfl
  · refine l_loc dX2_describeOne_27 rfl rfl ?_
    refine l_loc dX2_describeOne_28 rfl rfl ?_
    refine l_ine (t := 39) dX2_describeOne_29 rfl ?_ ?_
    · refine l_loc dX2_describeOne_39 rfl rfl ?_
      refine l_kl dX2_describeOne_40 rfl (fun v17 => ?_)
      refine l_ob fun q18 => ?_
      refine l_cV dX2_describeOne_43 rfl rfl rfl (l_xv cl_2_99 ko_mX6_write rfl rfl rfl q18) rfl rfl nm_mX6_write (xhE_th rfl) (fun h19 => ?_)
      refine l_goto (t := 54) dX2_describeOne_46 rfl ?_
      exact l_end dX2_describeOne_54 rfl rfl
    · refine l_loc dX2_describeOne_32 rfl rfl ?_
      refine l_kl dX2_describeOne_33 rfl (fun v21 => ?_)
      refine l_goto (t := 43) dX2_describeOne_36 rfl ?_
      refine l_ob fun q22 => ?_
      refine l_cV dX2_describeOne_43 rfl rfl rfl (l_xv cl_2_99 ko_mX6_write rfl rfl rfl q22) rfl rfl nm_mX6_write (xhE_th rfl) (fun h23 => ?_)
      refine l_goto (t := 54) dX2_describeOne_46 rfl ?_
      exact l_end dX2_describeOne_54 rfl rfl
theorem w_X6_write (S : xS) (x0 : Nat) (x1 : Nat) (h : xH) : xle (xden S mX6_write 2 [(0, .ref x0), (1, .retAddr x1), (2, .int (0 : Int32))] [] h) (xM S mX6_write [.ref x0, .retAddr x1] h) := by
  show xle _ (xden S mX6_write 0 [(0, .ref x0), (1, .retAddr x1)] [] h)
  refine l_ic dX6_write_0 kI_0 ?_
  refine l_loc (al1 := [(2, .int (0 : Int32)), (0, .ref x0), (1, .retAddr x1)]) dX6_write_1 rfl rfl ?_
  exact l_al rfl ⟨rfl, rfl, rfl, trivial⟩
set_option maxRecDepth 16000 in
theorem w_X6_write_2 (S : xS) (x0 : Nat) (x1 : Nat) (x2 : Int32) (h : xH) : xle (if xCcl x1 = some 17 then xqI (xM S mJ0_length_8abf5 [.retAddr x1] h) xth fun v3 h2 => if v3 ≤ x2 then (some (.inl none, h2, 0, 0)) else (if xCcl x1 = some 17 then xqI (xM S mJ0_charAt_5068e [.retAddr x1, .int x2] h2) xth fun v6 h5 => if xOb h5 x0 6 = true then xqV (xM S mX6_put [.ref x0, .int v6] h5) xth fun h8 => xlet (x2 + (1 : Int32)) fun v10 => (xden S mX6_write 2 [(0, .ref x0), (1, .retAddr x1), (2, .int v10)] [] h8) else none else none) else none) (xden S mX6_write 2 [(0, .ref x0), (1, .retAddr x1), (2, .int x2)] [] h) := by
  refine l_loc dX6_write_2 rfl rfl ?_
  refine l_loc dX6_write_3 rfl rfl ?_
  refine l_cl fun q1 => ?_
  refine l_cI dX6_write_4 rfl rfl rfl (l_xk cl_6_19 ko_mJ0_length_8abf5 rfl rfl rfl q1) rfl rfl nm_mJ0_length_8abf5 (xhE_th rfl) (fun v3 h2 => ?_)
  refine l_cge (t := 25) dX6_write_7 rfl ?_ ?_
  · exact l_end dX6_write_25 rfl rfl
  · refine l_loc dX6_write_10 rfl rfl ?_
    refine l_loc dX6_write_11 rfl rfl ?_
    refine l_loc dX6_write_12 rfl rfl ?_
    refine l_cl fun q4 => ?_
    refine l_cI dX6_write_13 rfl rfl rfl (l_xk cl_6_25 ko_mJ0_charAt_5068e rfl rfl rfl q4) rfl rfl nm_mJ0_charAt_5068e (xhE_th rfl) (fun v6 h5 => ?_)
    refine l_ob fun q7 => ?_
    refine l_cV dX6_write_16 rfl rfl rfl (l_xv cl_6_29 ko_mX6_put rfl rfl rfl q7) rfl rfl nm_mX6_put (xhE_th rfl) (fun h8 => ?_)
    refine l_incl (al1 := fun v10 => [(2, .int v10), (0, .ref x0), (1, .retAddr x1)]) dX6_write_19 rfl kI_1 rfl (fun _ => rfl) (fun v10 => ?_)
    refine l_goto (t := 2) dX6_write_22 rfl ?_
    exact l_al rfl ⟨rfl, rfl, rfl, trivial⟩
set_option maxRecDepth 16000 in
theorem w_X6_writeNumber (S : xS) (x0 : Nat) (x1 : Int32) (h : xH) : xle (if 0 ≤ x1 then (xqI (xM S mJ9_abs_0f7a4 [.int x1] h) xth fun v2 h1 => (xden S mX6_writeNumber 18 [(0, .ref x0), (2, .int v2), (3, .int (1000000 : Int32))] [] h1)) else (if xOb h x0 6 = true then xqV (xM S mX6_put [.ref x0, .int (45 : Int32)] h) xth fun h4 => xqI (xM S mJ9_abs_0f7a4 [.int x1] h4) xth fun v7 h6 => (xden S mX6_writeNumber 18 [(0, .ref x0), (2, .int v7), (3, .int (1000000 : Int32))] [] h6) else none)) (xM S mX6_writeNumber [.ref x0, .int x1] h) := by
  show xle _ (xden S mX6_writeNumber 0 [(0, .ref x0), (1, .int x1)] [] h)
  refine l_loc dX6_writeNumber_0 rfl rfl ?_
  refine l_ige (t := 10) dX6_writeNumber_1 rfl ?_ ?_
  · refine l_loc dX6_writeNumber_10 rfl rfl ?_
    refine l_cI dX6_writeNumber_11 rfl rfl rfl (l_xs cl_6_33 ko_mJ9_abs_0f7a4 rfl rfl) rfl rfl nm_mJ9_abs_0f7a4 (xhE_th rfl) (fun v2 h1 => ?_)
    refine l_loc (al1 := [(2, .int v2), (0, .ref x0), (1, .int x1)]) dX6_writeNumber_14 rfl rfl ?_
    refine l_rd (st1 := [.int (1000000 : Int32)]) dX6_writeNumber_15 rfl rfl ?_
    refine l_loc (al1 := [(3, .int (1000000 : Int32)), (2, .int v2), (0, .ref x0), (1, .int x1)]) dX6_writeNumber_17 rfl rfl ?_
    exact l_al rfl ⟨rfl, rfl, rfl, trivial⟩
  · refine l_loc dX6_writeNumber_4 rfl rfl ?_
    refine l_bi dX6_writeNumber_5 kB_45 ?_
    refine l_ob fun q3 => ?_
    refine l_cV dX6_writeNumber_7 rfl rfl rfl (l_xv cl_6_29 ko_mX6_put rfl rfl rfl q3) rfl rfl nm_mX6_put (xhE_th rfl) (fun h4 => ?_)
    refine l_loc dX6_writeNumber_10 rfl rfl ?_
    refine l_cI dX6_writeNumber_11 rfl rfl rfl (l_xs cl_6_33 ko_mJ9_abs_0f7a4 rfl rfl) rfl rfl nm_mJ9_abs_0f7a4 (xhE_th rfl) (fun v7 h6 => ?_)
    refine l_loc (al1 := [(2, .int v7), (0, .ref x0), (1, .int x1)]) dX6_writeNumber_14 rfl rfl ?_
    refine l_rd (st1 := [.int (1000000 : Int32)]) dX6_writeNumber_15 rfl rfl ?_
    refine l_loc (al1 := [(3, .int (1000000 : Int32)), (2, .int v7), (0, .ref x0), (1, .int x1)]) dX6_writeNumber_17 rfl rfl ?_
    exact l_al rfl ⟨rfl, rfl, rfl, trivial⟩
set_option maxRecDepth 16000 in
theorem w_X6_writeNumber_18 (S : xS) (x0 : Nat) (x2 : Int32) (x3 : Int32) (h : xH) : xle (if x3 < (1 : Int32) then (some (.inl none, h, 0, 0)) else (if x3 ≤ x2 then (if x3 = 0 then none else if xOb h x0 6 = true then xqV (xM S mX6_put [.ref x0, .int ((48 : Int32) + ((x2 / x3) - (x2 / x3) / (10 : Int32) * (10 : Int32)))] h) xth fun h2 => xlet (x3 / (10 : Int32)) fun v4 => (xden S mX6_writeNumber 18 [(0, .ref x0), (2, .int x2), (3, .int v4)] [] h2) else none) else (if ¬ x3 = (1 : Int32) then (xlet (x3 / (10 : Int32)) fun v5 => (xden S mX6_writeNumber 18 [(0, .ref x0), (2, .int x2), (3, .int v5)] [] h)) else (if x3 = 0 then none else if xOb h x0 6 = true then xqV (xM S mX6_put [.ref x0, .int ((48 : Int32) + ((x2 / x3) - (x2 / x3) / (10 : Int32) * (10 : Int32)))] h) xth fun h7 => xlet (x3 / (10 : Int32)) fun v9 => (xden S mX6_writeNumber 18 [(0, .ref x0), (2, .int x2), (3, .int v9)] [] h7) else none)))) (xden S mX6_writeNumber 18 [(0, .ref x0), (2, .int x2), (3, .int x3)] [] h) := by
  refine l_loc dX6_writeNumber_18 rfl rfl ?_
  refine l_ic dX6_writeNumber_19 kI_1 ?_
  refine l_clt (t := 54) dX6_writeNumber_20 rfl ?_ ?_
  · exact l_end dX6_writeNumber_54 rfl rfl
  · refine l_loc dX6_writeNumber_23 rfl rfl ?_
    refine l_loc dX6_writeNumber_24 rfl rfl ?_
    refine l_cge (t := 33) dX6_writeNumber_25 rfl ?_ ?_
    · refine l_loc dX6_writeNumber_33 rfl rfl ?_
      refine l_bi dX6_writeNumber_34 kB_48 ?_
      refine l_loc dX6_writeNumber_36 rfl rfl ?_
      refine l_loc dX6_writeNumber_37 rfl rfl ?_
      refine l_div dX6_writeNumber_38 ?_
      refine l_bi dX6_writeNumber_39 kB_10 ?_
      refine l_remn dX6_writeNumber_41 (by decide) ?_
      refine l_pure dX6_writeNumber_42 rfl rfl ?_
      refine l_ob fun q1 => ?_
      refine l_cV dX6_writeNumber_43 rfl rfl rfl (l_xv cl_6_29 ko_mX6_put rfl rfl rfl q1) rfl rfl nm_mX6_put (xhE_th rfl) (fun h2 => ?_)
      refine l_loc dX6_writeNumber_46 rfl rfl ?_
      refine l_bi dX6_writeNumber_47 kB_10 ?_
      refine l_divn dX6_writeNumber_49 (by decide) ?_
      refine l_isl (al1 := fun v4 => [(3, .int v4), (0, .ref x0), (2, .int x2)]) dX6_writeNumber_50 rfl (fun _ => rfl) (fun v4 => ?_)
      refine l_goto (t := 18) dX6_writeNumber_51 rfl ?_
      exact l_al rfl ⟨rfl, rfl, rfl, trivial⟩
    · refine l_loc dX6_writeNumber_28 rfl rfl ?_
      refine l_ic dX6_writeNumber_29 kI_1 ?_
      refine l_cne (t := 46) dX6_writeNumber_30 rfl ?_ ?_
      · refine l_loc dX6_writeNumber_46 rfl rfl ?_
        refine l_bi dX6_writeNumber_47 kB_10 ?_
        refine l_divn dX6_writeNumber_49 (by decide) ?_
        refine l_isl (al1 := fun v5 => [(3, .int v5), (0, .ref x0), (2, .int x2)]) dX6_writeNumber_50 rfl (fun _ => rfl) (fun v5 => ?_)
        refine l_goto (t := 18) dX6_writeNumber_51 rfl ?_
        exact l_al rfl ⟨rfl, rfl, rfl, trivial⟩
      · refine l_loc dX6_writeNumber_33 rfl rfl ?_
        refine l_bi dX6_writeNumber_34 kB_48 ?_
        refine l_loc dX6_writeNumber_36 rfl rfl ?_
        refine l_loc dX6_writeNumber_37 rfl rfl ?_
        refine l_div dX6_writeNumber_38 ?_
        refine l_bi dX6_writeNumber_39 kB_10 ?_
        refine l_remn dX6_writeNumber_41 (by decide) ?_
        refine l_pure dX6_writeNumber_42 rfl rfl ?_
        refine l_ob fun q6 => ?_
        refine l_cV dX6_writeNumber_43 rfl rfl rfl (l_xv cl_6_29 ko_mX6_put rfl rfl rfl q6) rfl rfl nm_mX6_put (xhE_th rfl) (fun h7 => ?_)
        refine l_loc dX6_writeNumber_46 rfl rfl ?_
        refine l_bi dX6_writeNumber_47 kB_10 ?_
        refine l_divn dX6_writeNumber_49 (by decide) ?_
        refine l_isl (al1 := fun v9 => [(3, .int v9), (0, .ref x0), (2, .int x2)]) dX6_writeNumber_50 rfl (fun _ => rfl) (fun v9 => ?_)
        refine l_goto (t := 18) dX6_writeNumber_51 rfl ?_
        exact l_al rfl ⟨rfl, rfl, rfl, trivial⟩
theorem w_X6_found (S : xS) (x0 : Nat) (h : xH) : xle ((xGi h x0 6 2).bind fun v1 => some (.inl (some (.int v1)), h, 0, 0)) (xM S mX6_found [.ref x0] h) := by
  show xle _ (xden S mX6_found 0 [(0, .ref x0)] [] h)
  refine l_loc dX6_found_0 rfl rfl ?_
  refine l_gi dX6_found_1 fl_6_16 (fun v1 => ?_)
  exact l_iretn dX6_found_4 rfl (by rfl)
set_option maxRecDepth 16000 in
theorem w_X6_writePair (S : xS) (x0 : Nat) (x1 : Int32) (x2 : Nat) (x3 : Int32) (h : xH) : xle (if xOb h x0 6 = true then xqV (xM S mX6_writeNumber [.ref x0, .int x1] h) xth fun h2 => if xOb h2 x0 6 = true then xqV (xM S mX6_write [.ref x0, .retAddr x2] h2) xth fun h5 => if xOb h5 x0 6 = true then xqV (xM S mX6_writeNumber [.ref x0, .int x3] h5) xth fun h8 => some (.inl none, h8, 0, 0) else none else none else none) (xM S mX6_writePair [.ref x0, .int x1, .retAddr x2, .int x3] h) := by
  show xle _ (xden S mX6_writePair 0 [(0, .ref x0), (1, .int x1), (2, .retAddr x2), (3, .int x3)] [] h)
  refine l_loc dX6_writePair_0 rfl rfl ?_
  refine l_loc dX6_writePair_1 rfl rfl ?_
  refine l_ob fun q1 => ?_
  refine l_cV dX6_writePair_2 rfl rfl rfl (l_xv cl_6_40 ko_mX6_writeNumber rfl rfl rfl q1) rfl rfl nm_mX6_writeNumber (xhE_th rfl) (fun h2 => ?_)
  refine l_loc dX6_writePair_5 rfl rfl ?_
  refine l_loc dX6_writePair_6 rfl rfl ?_
  refine l_ob fun q4 => ?_
  refine l_cV dX6_writePair_7 rfl rfl rfl (l_xv cl_6_43 ko_mX6_write rfl rfl rfl q4) rfl rfl nm_mX6_write (xhE_th rfl) (fun h5 => ?_)
  refine l_loc dX6_writePair_10 rfl rfl ?_
  refine l_loc dX6_writePair_11 rfl rfl ?_
  refine l_ob fun q7 => ?_
  refine l_cV dX6_writePair_12 rfl rfl rfl (l_xv cl_6_40 ko_mX6_writeNumber rfl rfl rfl q7) rfl rfl nm_mX6_writeNumber (xhE_th rfl) (fun h8 => ?_)
  exact l_end dX6_writePair_15 rfl rfl

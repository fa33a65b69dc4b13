/-! ROWS OF METHODS, by program (wip/whole/wp.py, wpemit.py): each method as an expression -/
set_option maxRecDepth 16000 in
theorem w_X13_configChar (S : xS) (x0 : Nat) (x1 : Int32) (h : xH) : xle ((xP false 12 h x0 12 2 (.int (0 : Int32))).bind fun h1 => if 0 ≤ x1 then ((xGi h1 x0 12 25).bind fun v2 => (xP false 12 h1 x0 12 25 (.int (20000 : Int32))).bind fun h3 => (xden S mX13_configChar 32 [(0, .ref x0), (1, .int x1), (2, .int v2), (3, .int (20000 : Int32)), (4, .int (0 : Int32))] [] h3)) else (if xOb h1 x0 12 = true then xqI (xM S mX13_fails [.ref x0, .int (1 : Int32)] h1) xth fun v6 h5 => some (.inl (some (.int v6)), h5, 0, 0) else none)) (xM S mX13_configChar [.ref x0, .int x1] h) := by
  show xle _ (xden S mX13_configChar 0 [(0, .ref x0), (1, .int x1)] [] h)
  refine l_loc dX13_configChar_0 rfl rfl ?_
  refine l_ic dX13_configChar_1 kI_0 ?_
  refine l_pf dX13_configChar_2 fl_12_186 (ini := false) nm_mX13_configChar (fun h1 => ?_)
  refine l_loc dX13_configChar_5 rfl rfl ?_
  refine l_ige (t := 15) dX13_configChar_6 rfl ?_ ?_
  · refine l_loc dX13_configChar_15 rfl rfl ?_
    refine l_gi dX13_configChar_16 fl_12_318 (fun v2 => ?_)
    refine l_loc (al1 := [(2, .int v2), (0, .ref x0), (1, .int x1)]) dX13_configChar_19 rfl rfl ?_
    refine l_si dX13_configChar_20 kS_20000 ?_
    refine l_loc (al1 := [(3, .int (20000 : Int32)), (2, .int v2), (0, .ref x0), (1, .int x1)]) dX13_configChar_23 rfl rfl ?_
    refine l_loc dX13_configChar_24 rfl rfl ?_
    refine l_loc dX13_configChar_25 rfl rfl ?_
    refine l_pf dX13_configChar_26 fl_12_318 (ini := false) nm_mX13_configChar (fun h3 => ?_)
    refine l_ic dX13_configChar_29 kI_0 ?_
    refine l_loc (al1 := [(4, .int (0 : Int32)), (3, .int (20000 : Int32)), (2, .int v2), (0, .ref x0), (1, .int x1)]) dX13_configChar_30 rfl rfl ?_
    exact l_al rfl ⟨rfl, rfl, rfl, rfl, rfl, trivial⟩
  · refine l_loc dX13_configChar_9 rfl rfl ?_
    refine l_ic dX13_configChar_10 kI_1 ?_
    refine l_ob fun q4 => ?_
    refine l_cI dX13_configChar_11 rfl rfl rfl (l_xv cl_12_206 ko_mX13_fails rfl rfl rfl q4) rfl rfl nm_mX13_fails (xhE_th rfl) (fun v6 h5 => ?_)
    exact l_iretn dX13_configChar_14 rfl (by rfl)
set_option maxRecDepth 16000 in
theorem w_X13_configChar_32 (S : xS) (x0 : Nat) (x1 : Int32) (x2 : Int32) (x3 : Int32) (x4 : Int32) (h : xH) : xle ((xGi h x0 12 16).bind fun v1 => if v1 ≤ x4 then ((xGi h x0 12 25).bind fun v2 => xlet (v2 - x3) fun v3 => (xP false 12 h x0 12 25 (.int x2)).bind fun h4 => if v3 ≤ x1 then (some (.inl (some (.int (-1 : Int32))), h4, 0, 0)) else ((xGr h4 x0 12 24).bind fun v5 => (xRi h4 0 v5 (x3 + x1)).bind fun v6 => some (.inl (some (.int v6)), h4, 0, 0))) else (if x4 ≤ 0 then ((xGr h x0 12 17).bind fun v7 => (xGr h x0 12 15).bind fun v8 => (xRi h 0 v8 x4).bind fun v9 => if xOb h x0 12 = true then xqV (xM S mX13_tellsWord [.ref x0, .ref v7, .int v9] h) xth fun h11 => if xOb h11 x0 12 = true then xqV (xM S mX13_tells [.ref x0, .int (61 : Int32)] h11) xth fun h14 => (xGr h14 x0 12 15).bind fun v16 => (xRi h14 0 v16 x4).bind fun v17 => xqI (xM S mX13_firstWord [.int v17] h14) xth fun v19 h18 => if v19 < 0 then ((xGr h18 x0 12 14).bind fun v20 => (xGr h18 x0 12 15).bind fun v21 => (xRi h18 0 v21 x4).bind fun v22 => (xRi h18 0 v20 v22).bind fun v23 => if xOb h18 x0 12 = true then xqV (xM S mX13_tellsNumber [.ref x0, .int v23] h18) xth fun h25 => xlet (x4 + (1 : Int32)) fun v27 => (xden S mX13_configChar 32 [(0, .ref x0), (1, .int x1), (2, .int x2), (3, .int x3), (4, .int v27)] [] h25) else none) else ((xGr h18 x0 12 18).bind fun v28 => (xGr h18 x0 12 14).bind fun v29 => (xGr h18 x0 12 15).bind fun v30 => (xRi h18 0 v30 x4).bind fun v31 => (xRi h18 0 v29 v31).bind fun v32 => if xOb h18 x0 12 = true then xqV (xM S mX13_tellsWord [.ref x0, .ref v28, .int (v19 + v32)] h18) xth fun h34 => xlet (x4 + (1 : Int32)) fun v36 => (xden S mX13_configChar 32 [(0, .ref x0), (1, .int x1), (2, .int x2), (3, .int x3), (4, .int v36)] [] h34) else none) else none else none) else (if xOb h x0 12 = true then xqV (xM S mX13_tells [.ref x0, .int (59 : Int32)] h) xth fun h38 => (xGr h38 x0 12 17).bind fun v40 => (xGr h38 x0 12 15).bind fun v41 => (xRi h38 0 v41 x4).bind fun v42 => if xOb h38 x0 12 = true then xqV (xM S mX13_tellsWord [.ref x0, .ref v40, .int v42] h38) xth fun h44 => if xOb h44 x0 12 = true then xqV (xM S mX13_tells [.ref x0, .int (61 : Int32)] h44) xth fun h47 => (xGr h47 x0 12 15).bind fun v49 => (xRi h47 0 v49 x4).bind fun v50 => xqI (xM S mX13_firstWord [.int v50] h47) xth fun v52 h51 => if v52 < 0 then ((xGr h51 x0 12 14).bind fun v53 => (xGr h51 x0 12 15).bind fun v54 => (xRi h51 0 v54 x4).bind fun v55 => (xRi h51 0 v53 v55).bind fun v56 => if xOb h51 x0 12 = true then xqV (xM S mX13_tellsNumber [.ref x0, .int v56] h51) xth fun h58 => xlet (x4 + (1 : Int32)) fun v60 => (xden S mX13_configChar 32 [(0, .ref x0), (1, .int x1), (2, .int x2), (3, .int x3), (4, .int v60)] [] h58) else none) else ((xGr h51 x0 12 18).bind fun v61 => (xGr h51 x0 12 14).bind fun v62 => (xGr h51 x0 12 15).bind fun v63 => (xRi h51 0 v63 x4).bind fun v64 => (xRi h51 0 v62 v64).bind fun v65 => if xOb h51 x0 12 = true then xqV (xM S mX13_tellsWord [.ref x0, .ref v61, .int (v52 + v65)] h51) xth fun h67 => xlet (x4 + (1 : Int32)) fun v69 => (xden S mX13_configChar 32 [(0, .ref x0), (1, .int x1), (2, .int x2), (3, .int x3), (4, .int v69)] [] h67) else none) else none else none else none))) (xden S mX13_configChar 32 [(0, .ref x0), (1, .int x1), (2, .int x2), (3, .int x3), (4, .int x4)] [] h) := by
  refine l_loc dX13_configChar_32 rfl rfl ?_
  refine l_loc dX13_configChar_34 rfl rfl ?_
  refine l_gi dX13_configChar_35 fl_12_306 (fun v1 => ?_)
  refine l_cge (t := 138) dX13_configChar_38 rfl ?_ ?_
  · refine l_loc dX13_configChar_138 rfl rfl ?_
    refine l_gi dX13_configChar_139 fl_12_318 (fun v2 => ?_)
    refine l_loc dX13_configChar_142 rfl rfl ?_
    refine l_pure dX13_configChar_143 rfl rfl ?_
    refine l_isl (al1 := fun v3 => [(4, .int v3), (0, .ref x0), (1, .int x1), (2, .int x2), (3, .int x3)]) dX13_configChar_144 rfl (fun _ => rfl) (fun v3 => ?_)
    refine l_loc dX13_configChar_146 rfl rfl ?_
    refine l_loc dX13_configChar_147 rfl rfl ?_
    refine l_pf dX13_configChar_148 fl_12_318 (ini := false) nm_mX13_configChar (fun h4 => ?_)
    refine l_loc dX13_configChar_151 rfl rfl ?_
    refine l_loc dX13_configChar_152 rfl rfl ?_
    refine l_cge (t := 168) dX13_configChar_154 rfl ?_ ?_
    · refine l_ic dX13_configChar_168 kI_m1 ?_
      exact l_iretn dX13_configChar_169 rfl (by rfl)
    · refine l_loc dX13_configChar_157 rfl rfl ?_
      refine l_gr dX13_configChar_158 fl_12_59 (fun v5 => ?_)
      refine l_loc dX13_configChar_161 rfl rfl ?_
      refine l_loc dX13_configChar_162 rfl rfl ?_
      refine l_pure dX13_configChar_163 rfl rfl ?_
      refine l_ri dX13_configChar_164 (fun v6 => ?_)
      refine l_goto (t := 169) dX13_configChar_165 rfl ?_
      exact l_iretn dX13_configChar_169 rfl (by rfl)
  · refine l_loc dX13_configChar_41 rfl rfl ?_
    refine l_ile (t := 52) dX13_configChar_43 rfl ?_ ?_
    · refine l_loc dX13_configChar_52 rfl rfl ?_
      refine l_loc dX13_configChar_53 rfl rfl ?_
      refine l_gr dX13_configChar_54 fl_12_39 (fun v7 => ?_)
      refine l_loc dX13_configChar_57 rfl rfl ?_
      refine l_gr dX13_configChar_58 fl_12_36 (fun v8 => ?_)
      refine l_loc dX13_configChar_61 rfl rfl ?_
      refine l_ri dX13_configChar_63 (fun v9 => ?_)
      refine l_ob fun q10 => ?_
      refine l_cV dX13_configChar_64 rfl rfl rfl (l_xv cl_12_324 ko_mX13_tellsWord rfl rfl rfl q10) rfl rfl nm_mX13_tellsWord (xhE_th rfl) (fun h11 => ?_)
      refine l_loc dX13_configChar_67 rfl rfl ?_
      refine l_bi dX13_configChar_68 kB_61 ?_
      refine l_ob fun q13 => ?_
      refine l_cV dX13_configChar_70 rfl rfl rfl (l_xv cl_12_321 ko_mX13_tells rfl rfl rfl q13) rfl rfl nm_mX13_tells (xhE_th rfl) (fun h14 => ?_)
      refine l_loc dX13_configChar_73 rfl rfl ?_
      refine l_gr dX13_configChar_74 fl_12_36 (fun v16 => ?_)
      refine l_loc dX13_configChar_77 rfl rfl ?_
      refine l_ri dX13_configChar_79 (fun v17 => ?_)
      refine l_cI dX13_configChar_80 rfl rfl rfl (l_xs cl_12_286 ko_mX13_firstWord rfl rfl) rfl rfl nm_mX13_firstWord (xhE_th rfl) (fun v19 h18 => ?_)
      refine l_loc (al1 := [(5, .int v19), (0, .ref x0), (1, .int x1), (2, .int x2), (3, .int x3), (4, .int x4)]) dX13_configChar_83 rfl rfl ?_
      refine l_loc dX13_configChar_85 rfl rfl ?_
      refine l_ilt (t := 116) dX13_configChar_87 rfl ?_ ?_
      · refine l_loc dX13_configChar_116 rfl rfl ?_
        refine l_loc dX13_configChar_117 rfl rfl ?_
        refine l_gr dX13_configChar_118 fl_12_33 (fun v20 => ?_)
        refine l_loc dX13_configChar_121 rfl rfl ?_
        refine l_gr dX13_configChar_122 fl_12_36 (fun v21 => ?_)
        refine l_loc dX13_configChar_125 rfl rfl ?_
        refine l_ri dX13_configChar_127 (fun v22 => ?_)
        refine l_ri dX13_configChar_128 (fun v23 => ?_)
        refine l_ob fun q24 => ?_
        refine l_cV dX13_configChar_129 rfl rfl rfl (l_xv cl_12_328 ko_mX13_tellsNumber rfl rfl rfl q24) rfl rfl nm_mX13_tellsNumber (xhE_th rfl) (fun h25 => ?_)
        refine l_incl (al1 := fun v27 => [(4, .int v27), (5, .int v19), (0, .ref x0), (1, .int x1), (2, .int x2), (3, .int x3)]) dX13_configChar_132 rfl kI_1 rfl (fun _ => rfl) (fun v27 => ?_)
        refine l_goto (t := 32) dX13_configChar_135 rfl ?_
        exact l_al rfl ⟨rfl, rfl, rfl, rfl, rfl, trivial⟩
      · refine l_loc dX13_configChar_90 rfl rfl ?_
        refine l_loc dX13_configChar_91 rfl rfl ?_
        refine l_gr dX13_configChar_92 fl_12_43 (fun v28 => ?_)
        refine l_loc dX13_configChar_95 rfl rfl ?_
        refine l_loc dX13_configChar_97 rfl rfl ?_
        refine l_gr dX13_configChar_98 fl_12_33 (fun v29 => ?_)
        refine l_loc dX13_configChar_101 rfl rfl ?_
        refine l_gr dX13_configChar_102 fl_12_36 (fun v30 => ?_)
        refine l_loc dX13_configChar_105 rfl rfl ?_
        refine l_ri dX13_configChar_107 (fun v31 => ?_)
        refine l_ri dX13_configChar_108 (fun v32 => ?_)
        refine l_pure dX13_configChar_109 rfl rfl ?_
        refine l_ob fun q33 => ?_
        refine l_cV dX13_configChar_110 rfl rfl rfl (l_xv cl_12_324 ko_mX13_tellsWord rfl rfl rfl q33) rfl rfl nm_mX13_tellsWord (xhE_th rfl) (fun h34 => ?_)
        refine l_goto (t := 132) dX13_configChar_113 rfl ?_
        refine l_incl (al1 := fun v36 => [(4, .int v36), (5, .int v19), (0, .ref x0), (1, .int x1), (2, .int x2), (3, .int x3)]) dX13_configChar_132 rfl kI_1 rfl (fun _ => rfl) (fun v36 => ?_)
        refine l_goto (t := 32) dX13_configChar_135 rfl ?_
        exact l_al rfl ⟨rfl, rfl, rfl, rfl, rfl, trivial⟩
    · refine l_loc dX13_configChar_46 rfl rfl ?_
      refine l_bi dX13_configChar_47 kB_59 ?_
      refine l_ob fun q37 => ?_
      refine l_cV dX13_configChar_49 rfl rfl rfl (l_xv cl_12_321 ko_mX13_tells rfl rfl rfl q37) rfl rfl nm_mX13_tells (xhE_th rfl) (fun h38 => ?_)
      refine l_loc dX13_configChar_52 rfl rfl ?_
      refine l_loc dX13_configChar_53 rfl rfl ?_
      refine l_gr dX13_configChar_54 fl_12_39 (fun v40 => ?_)
      refine l_loc dX13_configChar_57 rfl rfl ?_
      refine l_gr dX13_configChar_58 fl_12_36 (fun v41 => ?_)
      refine l_loc dX13_configChar_61 rfl rfl ?_
      refine l_ri dX13_configChar_63 (fun v42 => ?_)
      refine l_ob fun q43 => ?_
      refine l_cV dX13_configChar_64 rfl rfl rfl (l_xv cl_12_324 ko_mX13_tellsWord rfl rfl rfl q43) rfl rfl nm_mX13_tellsWord (xhE_th rfl) (fun h44 => ?_)
      refine l_loc dX13_configChar_67 rfl rfl ?_
      refine l_bi dX13_configChar_68 kB_61 ?_
      refine l_ob fun q46 => ?_
      refine l_cV dX13_configChar_70 rfl rfl rfl (l_xv cl_12_321 ko_mX13_tells rfl rfl rfl q46) rfl rfl nm_mX13_tells (xhE_th rfl) (fun h47 => ?_)
      refine l_loc dX13_configChar_73 rfl rfl ?_
      refine l_gr dX13_configChar_74 fl_12_36 (fun v49 => ?_)
      refine l_loc dX13_configChar_77 rfl rfl ?_
      refine l_ri dX13_configChar_79 (fun v50 => ?_)
      refine l_cI dX13_configChar_80 rfl rfl rfl (l_xs cl_12_286 ko_mX13_firstWord rfl rfl) rfl rfl nm_mX13_firstWord (xhE_th rfl) (fun v52 h51 => ?_)
      refine l_loc (al1 := [(5, .int v52), (0, .ref x0), (1, .int x1), (2, .int x2), (3, .int x3), (4, .int x4)]) dX13_configChar_83 rfl rfl ?_
      refine l_loc dX13_configChar_85 rfl rfl ?_
      refine l_ilt (t := 116) dX13_configChar_87 rfl ?_ ?_
      · refine l_loc dX13_configChar_116 rfl rfl ?_
        refine l_loc dX13_configChar_117 rfl rfl ?_
        refine l_gr dX13_configChar_118 fl_12_33 (fun v53 => ?_)
        refine l_loc dX13_configChar_121 rfl rfl ?_
        refine l_gr dX13_configChar_122 fl_12_36 (fun v54 => ?_)
        refine l_loc dX13_configChar_125 rfl rfl ?_
        refine l_ri dX13_configChar_127 (fun v55 => ?_)
        refine l_ri dX13_configChar_128 (fun v56 => ?_)
        refine l_ob fun q57 => ?_
        refine l_cV dX13_configChar_129 rfl rfl rfl (l_xv cl_12_328 ko_mX13_tellsNumber rfl rfl rfl q57) rfl rfl nm_mX13_tellsNumber (xhE_th rfl) (fun h58 => ?_)
        refine l_incl (al1 := fun v60 => [(4, .int v60), (5, .int v52), (0, .ref x0), (1, .int x1), (2, .int x2), (3, .int x3)]) dX13_configChar_132 rfl kI_1 rfl (fun _ => rfl) (fun v60 => ?_)
        refine l_goto (t := 32) dX13_configChar_135 rfl ?_
        exact l_al rfl ⟨rfl, rfl, rfl, rfl, rfl, trivial⟩
      · refine l_loc dX13_configChar_90 rfl rfl ?_
        refine l_loc dX13_configChar_91 rfl rfl ?_
        refine l_gr dX13_configChar_92 fl_12_43 (fun v61 => ?_)
        refine l_loc dX13_configChar_95 rfl rfl ?_
        refine l_loc dX13_configChar_97 rfl rfl ?_
        refine l_gr dX13_configChar_98 fl_12_33 (fun v62 => ?_)
        refine l_loc dX13_configChar_101 rfl rfl ?_
        refine l_gr dX13_configChar_102 fl_12_36 (fun v63 => ?_)
        refine l_loc dX13_configChar_105 rfl rfl ?_
        refine l_ri dX13_configChar_107 (fun v64 => ?_)
        refine l_ri dX13_configChar_108 (fun v65 => ?_)
        refine l_pure dX13_configChar_109 rfl rfl ?_
        refine l_ob fun q66 => ?_
        refine l_cV dX13_configChar_110 rfl rfl rfl (l_xv cl_12_324 ko_mX13_tellsWord rfl rfl rfl q66) rfl rfl nm_mX13_tellsWord (xhE_th rfl) (fun h67 => ?_)
        refine l_goto (t := 132) dX13_configChar_113 rfl ?_
        refine l_incl (al1 := fun v69 => [(4, .int v69), (5, .int v52), (0, .ref x0), (1, .int x1), (2, .int x2), (3, .int x3)]) dX13_configChar_132 rfl kI_1 rfl (fun _ => rfl) (fun v69 => ?_)
        refine l_goto (t := 32) dX13_configChar_135 rfl ?_
        exact l_al rfl ⟨rfl, rfl, rfl, rfl, rfl, trivial⟩
set_option maxRecDepth 16000 in
theorem w_X13_tells (S : xS) (x0 : Nat) (x1 : Int32) (h : xH) : xle ((xGr h x0 12 24).bind fun v1 => (xGi h x0 12 25).bind fun v2 => (xWi h v1 v2 x1).bind fun h3 => (xGi h3 x0 12 25).bind fun v4 => (xP false 12 h3 x0 12 25 (.int (v4 + (1 : Int32)))).bind fun h5 => some (.inl none, h5, 0, 0)) (xM S mX13_tells [.ref x0, .int x1] h) := by
  show xle _ (xden S mX13_tells 0 [(0, .ref x0), (1, .int x1)] [] h)
  refine l_loc dX13_tells_0 rfl rfl ?_
  refine l_gr dX13_tells_1 fl_12_59 (fun v1 => ?_)
  refine l_loc dX13_tells_4 rfl rfl ?_
  refine l_gi dX13_tells_5 fl_12_318 (fun v2 => ?_)
  refine l_loc dX13_tells_8 rfl rfl ?_
  refine l_wi dX13_tells_9 (fun h3 => ?_)
  refine l_loc dX13_tells_10 rfl rfl ?_
  refine l_pure dX13_tells_11 rfl rfl ?_
  refine l_gi dX13_tells_12 fl_12_318 (fun v4 => ?_)
  refine l_ic dX13_tells_15 kI_1 ?_
  refine l_pure dX13_tells_16 rfl rfl ?_
  refine l_pf dX13_tells_17 fl_12_318 (ini := false) nm_mX13_tells (fun h5 => ?_)
  exact l_end dX13_tells_20 rfl rfl
set_option maxRecDepth 16000 in
theorem w_X13_tellsWord (S : xS) (x0 : Nat) (x1 : Nat) (x2 : Int32) (h : xH) : xle (xden S mX13_tellsWord 5 [(0, .ref x0), (1, .ref x1), (2, .int x2), (3, .int (0 : Int32)), (4, .int (0 : Int32))] [] h) (xM S mX13_tellsWord [.ref x0, .ref x1, .int x2] h) := by
  show xle _ (xden S mX13_tellsWord 0 [(0, .ref x0), (1, .ref x1), (2, .int x2)] [] h)
  refine l_ic dX13_tellsWord_0 kI_0 ?_
  refine l_loc (al1 := [(3, .int (0 : Int32)), (0, .ref x0), (1, .ref x1), (2, .int x2)]) dX13_tellsWord_1 rfl rfl ?_
  refine l_ic dX13_tellsWord_2 kI_0 ?_
  refine l_loc (al1 := [(4, .int (0 : Int32)), (3, .int (0 : Int32)), (0, .ref x0), (1, .ref x1), (2, .int x2)]) dX13_tellsWord_3 rfl rfl ?_
  exact l_al rfl ⟨rfl, rfl, rfl, rfl, rfl, trivial⟩
set_option maxRecDepth 16000 in
theorem w_X13_tellsWord_5 (S : xS) (x0 : Nat) (x1 : Nat) (x2 : Int32) (x3 : Int32) (x4 : Int32) (h : xH) : xle ((xRz h x1).bind fun v1 => if v1 ≤ x4 then (some (.inl none, h, 0, 0)) else ((xRi h 3 x1 x4).bind fun v2 => if ¬ v2 = (59 : Int32) then (if ¬ x3 = x2 then (xlet (x4 + (1 : Int32)) fun v3 => (xden S mX13_tellsWord 5 [(0, .ref x0), (1, .ref x1), (2, .int x2), (3, .int x3), (4, .int v3)] [] h)) else ((xRi h 3 x1 x4).bind fun v4 => if xOb h x0 12 = true then xqV (xM S mX13_tells [.ref x0, .int v4] h) xth fun h6 => xlet (x4 + (1 : Int32)) fun v8 => (xden S mX13_tellsWord 5 [(0, .ref x0), (1, .ref x1), (2, .int x2), (3, .int x3), (4, .int v8)] [] h6) else none)) else (xlet (x3 + (1 : Int32)) fun v9 => xlet (x4 + (1 : Int32)) fun v10 => (xden S mX13_tellsWord 5 [(0, .ref x0), (1, .ref x1), (2, .int x2), (3, .int v9), (4, .int v10)] [] h)))) (xden S mX13_tellsWord 5 [(0, .ref x0), (1, .ref x1), (2, .int x2), (3, .int x3), (4, .int x4)] [] h) := by
  refine l_loc dX13_tellsWord_5 rfl rfl ?_
  refine l_loc dX13_tellsWord_7 rfl rfl ?_
  refine l_ln dX13_tellsWord_8 (fun v1 => ?_)
  refine l_cge (t := 46) dX13_tellsWord_9 rfl ?_ ?_
  · exact l_end dX13_tellsWord_46 rfl rfl
  · refine l_loc dX13_tellsWord_12 rfl rfl ?_
    refine l_loc dX13_tellsWord_13 rfl rfl ?_
    refine l_rc dX13_tellsWord_15 (fun v2 => ?_)
    refine l_bi dX13_tellsWord_16 kB_59 ?_
    refine l_cne (t := 27) dX13_tellsWord_18 rfl ?_ ?_
    · refine l_loc dX13_tellsWord_27 rfl rfl ?_
      refine l_loc dX13_tellsWord_28 rfl rfl ?_
      refine l_cne (t := 40) dX13_tellsWord_29 rfl ?_ ?_
      · refine l_incl (al1 := fun v3 => [(4, .int v3), (0, .ref x0), (1, .ref x1), (2, .int x2), (3, .int x3)]) dX13_tellsWord_40 rfl kI_1 rfl (fun _ => rfl) (fun v3 => ?_)
        refine l_goto (t := 5) dX13_tellsWord_43 rfl ?_
        exact l_al rfl ⟨rfl, rfl, rfl, rfl, rfl, trivial⟩
      · refine l_loc dX13_tellsWord_32 rfl rfl ?_
        refine l_loc dX13_tellsWord_33 rfl rfl ?_
        refine l_loc dX13_tellsWord_34 rfl rfl ?_
        refine l_rc dX13_tellsWord_36 (fun v4 => ?_)
        refine l_ob fun q5 => ?_
        refine l_cV dX13_tellsWord_37 rfl rfl rfl (l_xv cl_12_321 ko_mX13_tells rfl rfl rfl q5) rfl rfl nm_mX13_tells (xhE_th rfl) (fun h6 => ?_)
        refine l_incl (al1 := fun v8 => [(4, .int v8), (0, .ref x0), (1, .ref x1), (2, .int x2), (3, .int x3)]) dX13_tellsWord_40 rfl kI_1 rfl (fun _ => rfl) (fun v8 => ?_)
        refine l_goto (t := 5) dX13_tellsWord_43 rfl ?_
        exact l_al rfl ⟨rfl, rfl, rfl, rfl, rfl, trivial⟩
    · refine l_incl (al1 := fun v9 => [(3, .int v9), (0, .ref x0), (1, .ref x1), (2, .int x2), (4, .int x4)]) dX13_tellsWord_21 rfl kI_1 rfl (fun _ => rfl) (fun v9 => ?_)
      refine l_goto (t := 40) dX13_tellsWord_24 rfl ?_
      refine l_incl (al1 := fun v10 => [(4, .int v10), (3, .int v9), (0, .ref x0), (1, .ref x1), (2, .int x2)]) dX13_tellsWord_40 rfl kI_1 rfl (fun _ => rfl) (fun v10 => ?_)
      refine l_goto (t := 5) dX13_tellsWord_43 rfl ?_
      exact l_al rfl ⟨rfl, rfl, rfl, rfl, rfl, trivial⟩
set_option maxRecDepth 16000 in
theorem w_X13_tellsNumber (S : xS) (x0 : Nat) (x1 : Int32) (h : xH) : xle (if 0 ≤ x1 then (if 0 ≤ x1 then (xden S mX13_tellsNumber 23 [(0, .ref x0), (2, .int x1), (3, .int (1 : Int32))] [] h) else (xlet (-x1) fun v1 => (xden S mX13_tellsNumber 23 [(0, .ref x0), (2, .int v1), (3, .int (1 : Int32))] [] h))) else (if xOb h x0 12 = true then xqV (xM S mX13_tells [.ref x0, .int (45 : Int32)] h) xth fun h3 => if 0 ≤ x1 then (xden S mX13_tellsNumber 23 [(0, .ref x0), (2, .int x1), (3, .int (1 : Int32))] [] h3) else (xlet (-x1) fun v5 => (xden S mX13_tellsNumber 23 [(0, .ref x0), (2, .int v5), (3, .int (1 : Int32))] [] h3)) else none)) (xM S mX13_tellsNumber [.ref x0, .int x1] h) := by
  show xle _ (xden S mX13_tellsNumber 0 [(0, .ref x0), (1, .int x1)] [] h)
  refine l_loc dX13_tellsNumber_0 rfl rfl ?_
  refine l_ige (t := 10) dX13_tellsNumber_1 rfl ?_ ?_
  · refine l_loc dX13_tellsNumber_10 rfl rfl ?_
    refine l_ige (t := 19) dX13_tellsNumber_11 rfl ?_ ?_
    · refine l_loc dX13_tellsNumber_19 rfl rfl ?_
      refine l_loc (al1 := [(2, .int x1), (0, .ref x0), (1, .int x1)]) dX13_tellsNumber_20 rfl rfl ?_
      refine l_ic dX13_tellsNumber_21 kI_1 ?_
      refine l_loc (al1 := [(3, .int (1 : Int32)), (2, .int x1), (0, .ref x0), (1, .int x1)]) dX13_tellsNumber_22 rfl rfl ?_
      exact l_al rfl ⟨rfl, rfl, rfl, trivial⟩
    · refine l_loc dX13_tellsNumber_14 rfl rfl ?_
      refine l_pure dX13_tellsNumber_15 rfl rfl ?_
      refine l_goto (t := 20) dX13_tellsNumber_16 rfl ?_
      refine l_isl (al1 := fun v1 => [(2, .int v1), (0, .ref x0), (1, .int x1)]) dX13_tellsNumber_20 rfl (fun _ => rfl) (fun v1 => ?_)
      refine l_ic dX13_tellsNumber_21 kI_1 ?_
      refine l_loc (al1 := [(3, .int (1 : Int32)), (2, .int v1), (0, .ref x0), (1, .int x1)]) dX13_tellsNumber_22 rfl rfl ?_
      exact l_al rfl ⟨rfl, rfl, rfl, trivial⟩
  · refine l_loc dX13_tellsNumber_4 rfl rfl ?_
    refine l_bi dX13_tellsNumber_5 kB_45 ?_
    refine l_ob fun q2 => ?_
    refine l_cV dX13_tellsNumber_7 rfl rfl rfl (l_xv cl_12_321 ko_mX13_tells rfl rfl rfl q2) rfl rfl nm_mX13_tells (xhE_th rfl) (fun h3 => ?_)
    refine l_loc dX13_tellsNumber_10 rfl rfl ?_
    refine l_ige (t := 19) dX13_tellsNumber_11 rfl ?_ ?_
    · refine l_loc dX13_tellsNumber_19 rfl rfl ?_
      refine l_loc (al1 := [(2, .int x1), (0, .ref x0), (1, .int x1)]) dX13_tellsNumber_20 rfl rfl ?_
      refine l_ic dX13_tellsNumber_21 kI_1 ?_
      refine l_loc (al1 := [(3, .int (1 : Int32)), (2, .int x1), (0, .ref x0), (1, .int x1)]) dX13_tellsNumber_22 rfl rfl ?_
      exact l_al rfl ⟨rfl, rfl, rfl, trivial⟩
    · refine l_loc dX13_tellsNumber_14 rfl rfl ?_
      refine l_pure dX13_tellsNumber_15 rfl rfl ?_
      refine l_goto (t := 20) dX13_tellsNumber_16 rfl ?_
      refine l_isl (al1 := fun v5 => [(2, .int v5), (0, .ref x0), (1, .int x1)]) dX13_tellsNumber_20 rfl (fun _ => rfl) (fun v5 => ?_)
      refine l_ic dX13_tellsNumber_21 kI_1 ?_
      refine l_loc (al1 := [(3, .int (1 : Int32)), (2, .int v5), (0, .ref x0), (1, .int x1)]) dX13_tellsNumber_22 rfl rfl ?_
      exact l_al rfl ⟨rfl, rfl, rfl, trivial⟩
set_option maxRecDepth 16000 in
theorem w_X13_tellsNumber_23 (S : xS) (x0 : Nat) (x2 : Int32) (x3 : Int32) (h : xH) : xle (if x3 = 0 then none else if (x2 / x3) < (10 : Int32) then (xden S mX13_tellsNumber 39 [(0, .ref x0), (2, .int x2), (3, .int x3)] [] h) else (xlet (x3 * (10 : Int32)) fun v1 => (xden S mX13_tellsNumber 23 [(0, .ref x0), (2, .int x2), (3, .int v1)] [] h))) (xden S mX13_tellsNumber 23 [(0, .ref x0), (2, .int x2), (3, .int x3)] [] h) := by
  refine l_loc dX13_tellsNumber_23 rfl rfl ?_
  refine l_loc dX13_tellsNumber_24 rfl rfl ?_
  refine l_div dX13_tellsNumber_25 ?_
  refine l_bi dX13_tellsNumber_26 kB_10 ?_
  refine l_clt (t := 39) dX13_tellsNumber_28 rfl ?_ ?_
  · exact l_al rfl ⟨rfl, rfl, rfl, trivial⟩
  · refine l_loc dX13_tellsNumber_31 rfl rfl ?_
    refine l_bi dX13_tellsNumber_32 kB_10 ?_
    refine l_pure dX13_tellsNumber_34 rfl rfl ?_
    refine l_isl (al1 := fun v1 => [(3, .int v1), (0, .ref x0), (2, .int x2)]) dX13_tellsNumber_35 rfl (fun _ => rfl) (fun v1 => ?_)
    refine l_goto (t := 23) dX13_tellsNumber_36 rfl ?_
    exact l_al rfl ⟨rfl, rfl, rfl, trivial⟩
set_option maxRecDepth 16000 in
theorem w_X13_tellsNumber_39 (S : xS) (x0 : Nat) (x2 : Int32) (x3 : Int32) (h : xH) : xle (if x3 ≤ 0 then (some (.inl none, h, 0, 0)) else (if x3 = 0 then none else if xOb h x0 12 = true then xqV (xM S mX13_tells [.ref x0, .int ((48 : Int32) + ((x2 / x3) - (x2 / x3) / (10 : Int32) * (10 : Int32)))] h) xth fun h2 => xlet (x3 / (10 : Int32)) fun v4 => (xden S mX13_tellsNumber 39 [(0, .ref x0), (2, .int x2), (3, .int v4)] [] h2) else none)) (xden S mX13_tellsNumber 39 [(0, .ref x0), (2, .int x2), (3, .int x3)] [] h) := by
  refine l_loc dX13_tellsNumber_39 rfl rfl ?_
  refine l_ile (t := 64) dX13_tellsNumber_40 rfl ?_ ?_
  · exact l_end dX13_tellsNumber_64 rfl rfl
  · refine l_loc dX13_tellsNumber_43 rfl rfl ?_
    refine l_bi dX13_tellsNumber_44 kB_48 ?_
    refine l_loc dX13_tellsNumber_46 rfl rfl ?_
    refine l_loc dX13_tellsNumber_47 rfl rfl ?_
    refine l_div dX13_tellsNumber_48 ?_
    refine l_bi dX13_tellsNumber_49 kB_10 ?_
    refine l_remn dX13_tellsNumber_51 (by decide) ?_
    refine l_pure dX13_tellsNumber_52 rfl rfl ?_
    refine l_ob fun q1 => ?_
    refine l_cV dX13_tellsNumber_53 rfl rfl rfl (l_xv cl_12_321 ko_mX13_tells rfl rfl rfl q1) rfl rfl nm_mX13_tells (xhE_th rfl) (fun h2 => ?_)
    refine l_loc dX13_tellsNumber_56 rfl rfl ?_
    refine l_bi dX13_tellsNumber_57 kB_10 ?_
    refine l_divn dX13_tellsNumber_59 (by decide) ?_
    refine l_isl (al1 := fun v4 => [(3, .int v4), (0, .ref x0), (2, .int x2)]) dX13_tellsNumber_60 rfl (fun _ => rfl) (fun v4 => ?_)
    refine l_goto (t := 39) dX13_tellsNumber_61 rfl ?_
    exact l_al rfl ⟨rfl, rfl, rfl, trivial⟩
set_option maxRecDepth 16000 in
theorem w_X13_paste (S : xS) (x0 : Nat) (x1 : Int32) (x2 : Int32) (x3 : Int32) (h : xH) : xle ((xP false 12 h x0 12 2 (.int (0 : Int32))).bind fun h1 => if xOb h1 x0 12 = true then xqI (xM S mX13_isPage [.ref x0, .int x1] h1) xth fun v4 h3 => if ¬ v4 = 0 then (if xOb h3 x0 12 = true then xqI (xM S mX13_readsPattern [.ref x0] h3) xth fun v7 h6 => if v7 < 0 then (if xOb h6 x0 12 = true then xqV (xM S mX13_takes [.ref x0, .int x1] h6) xth fun h9 => xlet (x2.toInt64) fun v11 => xlet (x3.toInt64) fun v12 => (xden S mX13_paste 51 [(0, .ref x0), (1, .int x1), (2, .int x2), (5, .long v11), (7, .long v12), (9, .int (0 : Int32))] [] h9) else none) else (some (.inl (some (.int ((-1 : Int32) - v7))), h6, 0, 0)) else none) else (if xOb h3 x0 12 = true then xqI (xM S mX13_fails [.ref x0, .int (1 : Int32)] h3) xth fun v15 h14 => some (.inl (some (.int v15)), h14, 0, 0) else none) else none) (xM S mX13_paste [.ref x0, .int x1, .int x2, .int x3] h) := by
  show xle _ (xden S mX13_paste 0 [(0, .ref x0), (1, .int x1), (2, .int x2), (3, .int x3)] [] h)
  refine l_loc dX13_paste_0 rfl rfl ?_
  refine l_ic dX13_paste_1 kI_0 ?_
  refine l_pf dX13_paste_2 fl_12_186 (ini := false) nm_mX13_paste (fun h1 => ?_)
  refine l_loc dX13_paste_5 rfl rfl ?_
  refine l_loc dX13_paste_6 rfl rfl ?_
  refine l_ob fun q2 => ?_
  refine l_cI dX13_paste_7 rfl rfl rfl (l_xv cl_12_202 ko_mX13_isPage rfl rfl rfl q2) rfl rfl nm_mX13_isPage (xhE_th rfl) (fun v4 h3 => ?_)
  refine l_ine (t := 19) dX13_paste_10 rfl ?_ ?_
  · refine l_loc dX13_paste_19 rfl rfl ?_
    refine l_ob fun q5 => ?_
    refine l_cI dX13_paste_20 rfl rfl rfl (l_xv cl_12_334 ko_mX13_readsPattern rfl rfl rfl q5) rfl rfl nm_mX13_readsPattern (xhE_th rfl) (fun v7 h6 => ?_)
    refine l_loc (al1 := [(4, .int v7), (0, .ref x0), (1, .int x1), (2, .int x2), (3, .int x3)]) dX13_paste_23 rfl rfl ?_
    refine l_loc dX13_paste_25 rfl rfl ?_
    refine l_ilt (t := 35) dX13_paste_27 rfl ?_ ?_
    · refine l_loc dX13_paste_35 rfl rfl ?_
      refine l_loc dX13_paste_36 rfl rfl ?_
      refine l_ob fun q8 => ?_
      refine l_cV dX13_paste_37 rfl rfl rfl (l_xv cl_12_214 ko_mX13_takes rfl rfl rfl q8) rfl rfl nm_mX13_takes (xhE_th rfl) (fun h9 => ?_)
      refine l_loc dX13_paste_40 rfl rfl ?_
      refine l_pure dX13_paste_41 rfl rfl ?_
      refine l_lsl (al1 := fun v11 => [(5, .long v11), (4, .int v7), (0, .ref x0), (1, .int x1), (2, .int x2), (3, .int x3)]) dX13_paste_42 rfl (fun _ => rfl) (fun v11 => ?_)
      refine l_loc dX13_paste_44 rfl rfl ?_
      refine l_pure dX13_paste_45 rfl rfl ?_
      refine l_lsl (al1 := fun v12 => [(7, .long v12), (5, .long v11), (4, .int v7), (0, .ref x0), (1, .int x1), (2, .int x2), (3, .int x3)]) dX13_paste_46 rfl (fun _ => rfl) (fun v12 => ?_)
      refine l_ic dX13_paste_48 kI_0 ?_
      refine l_loc (al1 := [(9, .int (0 : Int32)), (7, .long v12), (5, .long v11), (4, .int v7), (0, .ref x0), (1, .int x1), (2, .int x2), (3, .int x3)]) dX13_paste_49 rfl rfl ?_
      exact l_al rfl ⟨rfl, rfl, rfl, rfl, rfl, rfl, trivial⟩
    · refine l_ic dX13_paste_30 kI_m1 ?_
      refine l_loc dX13_paste_31 rfl rfl ?_
      refine l_pure dX13_paste_33 rfl rfl ?_
      exact l_iretn dX13_paste_34 rfl (by rfl)
  · refine l_loc dX13_paste_13 rfl rfl ?_
    refine l_ic dX13_paste_14 kI_1 ?_
    refine l_ob fun q13 => ?_
    refine l_cI dX13_paste_15 rfl rfl rfl (l_xv cl_12_206 ko_mX13_fails rfl rfl rfl q13) rfl rfl nm_mX13_fails (xhE_th rfl) (fun v15 h14 => ?_)
    exact l_iretn dX13_paste_18 rfl (by rfl)
set_option maxRecDepth 16000 in
theorem w_X13_paste_51 (S : xS) (x0 : Nat) (x1 : Int32) (x2 : Int32) (x5 : Int64) (x7 : Int64) (x9 : Int32) (h : xH) : xle (if xOb h x0 12 = true then xqI (xM S mX13_letter [.ref x0, .int x9] h) xth fun v3 h2 => if v3 = (33 : Int32) then ((xP false 12 h2 x0 12 13 (.int (0 : Int32))).bind fun h4 => if xOb h4 x0 12 = true then xqI (xM S mX13_edits [.ref x0, .int x1] h4) xth fun v7 h6 => some (.inl (some (.int v7)), h6, 0, 0) else none) else (xden S mX13_paste 66 [(0, .ref x0), (1, .int x1), (2, .int x2), (5, .long x5), (7, .long x7), (9, .int x9), (10, .int x9)] [] h2) else none) (xden S mX13_paste 51 [(0, .ref x0), (1, .int x1), (2, .int x2), (5, .long x5), (7, .long x7), (9, .int x9)] [] h) := by
  refine l_loc dX13_paste_51 rfl rfl ?_
  refine l_loc dX13_paste_52 rfl rfl ?_
  refine l_ob fun q1 => ?_
  refine l_cI dX13_paste_54 rfl rfl rfl (l_xv cl_12_275 ko_mX13_letter rfl rfl rfl q1) rfl rfl nm_mX13_letter (xhE_th rfl) (fun v3 h2 => ?_)
  refine l_bi dX13_paste_57 kB_33 ?_
  refine l_ceq (t := 223) dX13_paste_59 rfl ?_ ?_
  · refine l_loc dX13_paste_223 rfl rfl ?_
    refine l_ic dX13_paste_224 kI_0 ?_
    refine l_pf dX13_paste_225 fl_12_272 (ini := false) nm_mX13_paste (fun h4 => ?_)
    refine l_loc dX13_paste_228 rfl rfl ?_
    refine l_loc dX13_paste_229 rfl rfl ?_
    refine l_ob fun q5 => ?_
    refine l_cI dX13_paste_230 rfl rfl rfl (l_xv cl_12_218 ko_mX13_edits rfl rfl rfl q5) rfl rfl nm_mX13_edits (xhE_th rfl) (fun v7 h6 => ?_)
    exact l_iretn dX13_paste_233 rfl (by rfl)
  · refine l_loc dX13_paste_62 rfl rfl ?_
    refine l_loc (al1 := [(10, .int x9), (0, .ref x0), (1, .int x1), (2, .int x2), (5, .long x5), (7, .long x7), (9, .int x9)]) dX13_paste_64 rfl rfl ?_
    exact l_al rfl ⟨rfl, rfl, rfl, rfl, rfl, rfl, rfl, trivial⟩
set_option maxRecDepth 16000 in
theorem w_X13_paste_66 (S : xS) (x0 : Nat) (x1 : Int32) (x2 : Int32) (x5 : Int64) (x7 : Int64) (x9 : Int32) (x10 : Int32) (h : xH) : xle (if xOb h x0 12 = true then xqI (xM S mX13_isFigure [.ref x0, .int x10] h) xth fun v3 h2 => if v3 = 0 then (if xOb h2 x0 12 = true then xqI (xM S mX13_countOf [.ref x0, .int x9, .int x10] h2) xth fun v6 h5 => (xden S mX13_paste 94 [(0, .ref x0), (1, .int x1), (2, .int x2), (5, .long x5), (7, .long x7), (10, .int x10), (11, .int v6), (12, .int (0 : Int32))] [] h5) else none) else (xlet (x10 + (1 : Int32)) fun v7 => (xden S mX13_paste 66 [(0, .ref x0), (1, .int x1), (2, .int x2), (5, .long x5), (7, .long x7), (9, .int x9), (10, .int v7)] [] h2)) else none) (xden S mX13_paste 66 [(0, .ref x0), (1, .int x1), (2, .int x2), (5, .long x5), (7, .long x7), (9, .int x9), (10, .int x10)] [] h) := by
  refine l_loc dX13_paste_66 rfl rfl ?_
  refine l_loc dX13_paste_67 rfl rfl ?_
  refine l_ob fun q1 => ?_
  refine l_cI dX13_paste_69 rfl rfl rfl (l_xv cl_12_293 ko_mX13_isFigure rfl rfl rfl q1) rfl rfl nm_mX13_isFigure (xhE_th rfl) (fun v3 h2 => ?_)
  refine l_ieq (t := 81) dX13_paste_72 rfl ?_ ?_
  · refine l_loc dX13_paste_81 rfl rfl ?_
    refine l_loc dX13_paste_82 rfl rfl ?_
    refine l_loc dX13_paste_84 rfl rfl ?_
    refine l_ob fun q4 => ?_
    refine l_cI dX13_paste_86 rfl rfl rfl (l_xv cl_12_331 ko_mX13_countOf rfl rfl rfl q4) rfl rfl nm_mX13_countOf (xhE_th rfl) (fun v6 h5 => ?_)
    refine l_loc (al1 := [(11, .int v6), (0, .ref x0), (1, .int x1), (2, .int x2), (5, .long x5), (7, .long x7), (9, .int x9), (10, .int x10)]) dX13_paste_89 rfl rfl ?_
    refine l_ic dX13_paste_91 kI_0 ?_
    refine l_loc (al1 := [(12, .int (0 : Int32)), (11, .int v6), (0, .ref x0), (1, .int x1), (2, .int x2), (5, .long x5), (7, .long x7), (9, .int x9), (10, .int x10)]) dX13_paste_92 rfl rfl ?_
    exact l_al rfl ⟨rfl, rfl, rfl, rfl, rfl, rfl, rfl, rfl, trivial⟩
  · refine l_incl (al1 := fun v7 => [(10, .int v7), (0, .ref x0), (1, .int x1), (2, .int x2), (5, .long x5), (7, .long x7), (9, .int x9)]) dX13_paste_75 rfl kI_1 rfl (fun _ => rfl) (fun v7 => ?_)
    refine l_goto (t := 66) dX13_paste_78 rfl ?_
    exact l_al rfl ⟨rfl, rfl, rfl, rfl, rfl, rfl, rfl, trivial⟩
set_option maxRecDepth 16000 in
theorem w_X13_paste_94 (S : xS) (x0 : Nat) (x1 : Int32) (x2 : Int32) (x5 : Int64) (x7 : Int64) (x10 : Int32) (x11 : Int32) (x12 : Int32) (h : xH) : xle (if x11 ≤ x12 then (if xOb h x0 12 = true then xqI (xM S mX13_letter [.ref x0, .int x10] h) xth fun v3 h2 => if ¬ v3 = (36 : Int32) then (xlet (x5 + (x11.toInt64)) fun v4 => if xOb h2 x0 12 = true then xqI (xM S mX13_letter [.ref x0, .int x10] h2) xth fun v7 h6 => if ¬ v7 = (36 : Int32) then (xlet (x7 + (0 : Int64)) fun v8 => xlet (x10 + (1 : Int32)) fun v9 => (xden S mX13_paste 51 [(0, .ref x0), (1, .int x1), (2, .int x2), (5, .long v4), (7, .long v8), (9, .int v9)] [] h6)) else (xlet (x7 + (x11.toInt64)) fun v10 => xlet (x10 + (1 : Int32)) fun v11 => (xden S mX13_paste 51 [(0, .ref x0), (1, .int x1), (2, .int x2), (5, .long v4), (7, .long v10), (9, .int v11)] [] h6)) else none) else (xlet (x2.toInt64) fun v12 => if xOb h2 x0 12 = true then xqI (xM S mX13_letter [.ref x0, .int x10] h2) xth fun v15 h14 => if ¬ v15 = (36 : Int32) then (xlet (x7 + (0 : Int64)) fun v16 => xlet (x10 + (1 : Int32)) fun v17 => (xden S mX13_paste 51 [(0, .ref x0), (1, .int x1), (2, .int x2), (5, .long v12), (7, .long v16), (9, .int v17)] [] h14)) else (xlet (x7 + (x11.toInt64)) fun v18 => xlet (x10 + (1 : Int32)) fun v19 => (xden S mX13_paste 51 [(0, .ref x0), (1, .int x1), (2, .int x2), (5, .long v12), (7, .long v18), (9, .int v19)] [] h14)) else none) else none) else (if xOb h x0 12 = true then xqI (xM S mX13_letter [.ref x0, .int x10] h) xth fun v22 h21 => if v22 = (36 : Int32) then (if xOb h21 x0 12 = true then xqI (xM S mX13_letter [.ref x0, .int x10] h21) xth fun v25 h24 => if ¬ v25 = (36 : Int32) then (xlet (x5 + (x11.toInt64)) fun v26 => if xOb h24 x0 12 = true then xqI (xM S mX13_letter [.ref x0, .int x10] h24) xth fun v29 h28 => if ¬ v29 = (36 : Int32) then (xlet (x7 + (0 : Int64)) fun v30 => xlet (x10 + (1 : Int32)) fun v31 => (xden S mX13_paste 51 [(0, .ref x0), (1, .int x1), (2, .int x2), (5, .long v26), (7, .long v30), (9, .int v31)] [] h28)) else (xlet (x7 + (x11.toInt64)) fun v32 => xlet (x10 + (1 : Int32)) fun v33 => (xden S mX13_paste 51 [(0, .ref x0), (1, .int x1), (2, .int x2), (5, .long v26), (7, .long v32), (9, .int v33)] [] h28)) else none) else (xlet (x2.toInt64) fun v34 => if xOb h24 x0 12 = true then xqI (xM S mX13_letter [.ref x0, .int x10] h24) xth fun v37 h36 => if ¬ v37 = (36 : Int32) then (xlet (x7 + (0 : Int64)) fun v38 => xlet (x10 + (1 : Int32)) fun v39 => (xden S mX13_paste 51 [(0, .ref x0), (1, .int x1), (2, .int x2), (5, .long v34), (7, .long v38), (9, .int v39)] [] h36)) else (xlet (x7 + (x11.toInt64)) fun v40 => xlet (x10 + (1 : Int32)) fun v41 => (xden S mX13_paste 51 [(0, .ref x0), (1, .int x1), (2, .int x2), (5, .long v34), (7, .long v40), (9, .int v41)] [] h36)) else none) else none) else (if xOb h21 x0 12 = true then xqI (xM S mX13_isOn [.ref x0, .long (x5 + (x12.toInt64)), .long x7] h21) xth fun v44 h43 => if v44 = 0 then (xlet (x12 + (1 : Int32)) fun v45 => (xden S mX13_paste 94 [(0, .ref x0), (1, .int x1), (2, .int x2), (5, .long x5), (7, .long x7), (10, .int x10), (11, .int x11), (12, .int v45)] [] h43)) else ((xGr h43 x0 12 7).bind fun v46 => if xOb h43 x0 12 = true then xqI (xM S mX13_letter [.ref x0, .int x10] h43) xth fun v49 h48 => if ¬ v49 = (111 : Int32) then ((xWz h48 v46 ((((64 : Int32) * (x7.toInt32)) + (x5.toInt32)) + x12) (0 : Int32)).bind fun h50 => xlet (x12 + (1 : Int32)) fun v51 => (xden S mX13_paste 94 [(0, .ref x0), (1, .int x1), (2, .int x2), (5, .long x5), (7, .long x7), (10, .int x10), (11, .int x11), (12, .int v51)] [] h50)) else ((xWz h48 v46 ((((64 : Int32) * (x7.toInt32)) + (x5.toInt32)) + x12) (1 : Int32)).bind fun h52 => xlet (x12 + (1 : Int32)) fun v53 => (xden S mX13_paste 94 [(0, .ref x0), (1, .int x1), (2, .int x2), (5, .long x5), (7, .long x7), (10, .int x10), (11, .int x11), (12, .int v53)] [] h52)) else none) else none) else none)) (xden S mX13_paste 94 [(0, .ref x0), (1, .int x1), (2, .int x2), (5, .long x5), (7, .long x7), (10, .int x10), (11, .int x11), (12, .int x12)] [] h) := by
  refine l_loc dX13_paste_94 rfl rfl ?_
  refine l_loc dX13_paste_96 rfl rfl ?_
  refine l_cge (t := 167) dX13_paste_98 rfl ?_ ?_
  · refine l_loc dX13_paste_167 rfl rfl ?_
    refine l_loc dX13_paste_168 rfl rfl ?_
    refine l_ob fun q1 => ?_
    refine l_cI dX13_paste_170 rfl rfl rfl (l_xv cl_12_275 ko_mX13_letter rfl rfl rfl q1) rfl rfl nm_mX13_letter (xhE_th rfl) (fun v3 h2 => ?_)
    refine l_bi dX13_paste_173 kB_36 ?_
    refine l_cne (t := 183) dX13_paste_175 rfl ?_ ?_
    · refine l_loc dX13_paste_183 rfl rfl ?_
      refine l_loc dX13_paste_185 rfl rfl ?_
      refine l_pure dX13_paste_187 rfl rfl ?_
      refine l_pure dX13_paste_188 rfl rfl ?_
      refine l_lsl (al1 := fun v4 => [(5, .long v4), (0, .ref x0), (1, .int x1), (2, .int x2), (7, .long x7), (10, .int x10), (11, .int x11), (12, .int x12)]) dX13_paste_189 rfl (fun _ => rfl) (fun v4 => ?_)
      refine l_loc dX13_paste_191 rfl rfl ?_
      refine l_loc dX13_paste_193 rfl rfl ?_
      refine l_loc dX13_paste_194 rfl rfl ?_
      refine l_ob fun q5 => ?_
      refine l_cI dX13_paste_196 rfl rfl rfl (l_xv cl_12_275 ko_mX13_letter rfl rfl rfl q5) rfl rfl nm_mX13_letter (xhE_th rfl) (fun v7 h6 => ?_)
      refine l_bi dX13_paste_199 kB_36 ?_
      refine l_cne (t := 210) dX13_paste_201 rfl ?_ ?_
      · refine l_lc0 dX13_paste_210 ?_
        refine l_pure dX13_paste_211 rfl rfl ?_
        refine l_lsl (al1 := fun v8 => [(7, .long v8), (5, .long v4), (0, .ref x0), (1, .int x1), (2, .int x2), (10, .int x10), (11, .int x11), (12, .int x12)]) dX13_paste_212 rfl (fun _ => rfl) (fun v8 => ?_)
        refine l_loc dX13_paste_214 rfl rfl ?_
        refine l_ic dX13_paste_216 kI_1 ?_
        refine l_pure dX13_paste_217 rfl rfl ?_
        refine l_isl (al1 := fun v9 => [(9, .int v9), (7, .long v8), (5, .long v4), (0, .ref x0), (1, .int x1), (2, .int x2), (10, .int x10), (11, .int x11), (12, .int x12)]) dX13_paste_218 rfl (fun _ => rfl) (fun v9 => ?_)
        refine l_goto (t := 51) dX13_paste_220 rfl ?_
        exact l_al rfl ⟨rfl, rfl, rfl, rfl, rfl, rfl, trivial⟩
      · refine l_loc dX13_paste_204 rfl rfl ?_
        refine l_pure dX13_paste_206 rfl rfl ?_
        refine l_goto (t := 211) dX13_paste_207 rfl ?_
        refine l_pure dX13_paste_211 rfl rfl ?_
        refine l_lsl (al1 := fun v10 => [(7, .long v10), (5, .long v4), (0, .ref x0), (1, .int x1), (2, .int x2), (10, .int x10), (11, .int x11), (12, .int x12)]) dX13_paste_212 rfl (fun _ => rfl) (fun v10 => ?_)
        refine l_loc dX13_paste_214 rfl rfl ?_
        refine l_ic dX13_paste_216 kI_1 ?_
        refine l_pure dX13_paste_217 rfl rfl ?_
        refine l_isl (al1 := fun v11 => [(9, .int v11), (7, .long v10), (5, .long v4), (0, .ref x0), (1, .int x1), (2, .int x2), (10, .int x10), (11, .int x11), (12, .int x12)]) dX13_paste_218 rfl (fun _ => rfl) (fun v11 => ?_)
        refine l_goto (t := 51) dX13_paste_220 rfl ?_
        exact l_al rfl ⟨rfl, rfl, rfl, rfl, rfl, rfl, trivial⟩
    · refine l_loc dX13_paste_178 rfl rfl ?_
      refine l_pure dX13_paste_179 rfl rfl ?_
      refine l_goto (t := 189) dX13_paste_180 rfl ?_
      refine l_lsl (al1 := fun v12 => [(5, .long v12), (0, .ref x0), (1, .int x1), (2, .int x2), (7, .long x7), (10, .int x10), (11, .int x11), (12, .int x12)]) dX13_paste_189 rfl (fun _ => rfl) (fun v12 => ?_)
      refine l_loc dX13_paste_191 rfl rfl ?_
      refine l_loc dX13_paste_193 rfl rfl ?_
      refine l_loc dX13_paste_194 rfl rfl ?_
      refine l_ob fun q13 => ?_
      refine l_cI dX13_paste_196 rfl rfl rfl (l_xv cl_12_275 ko_mX13_letter rfl rfl rfl q13) rfl rfl nm_mX13_letter (xhE_th rfl) (fun v15 h14 => ?_)
      refine l_bi dX13_paste_199 kB_36 ?_
      refine l_cne (t := 210) dX13_paste_201 rfl ?_ ?_
      · refine l_lc0 dX13_paste_210 ?_
        refine l_pure dX13_paste_211 rfl rfl ?_
        refine l_lsl (al1 := fun v16 => [(7, .long v16), (5, .long v12), (0, .ref x0), (1, .int x1), (2, .int x2), (10, .int x10), (11, .int x11), (12, .int x12)]) dX13_paste_212 rfl (fun _ => rfl) (fun v16 => ?_)
        refine l_loc dX13_paste_214 rfl rfl ?_
        refine l_ic dX13_paste_216 kI_1 ?_
        refine l_pure dX13_paste_217 rfl rfl ?_
        refine l_isl (al1 := fun v17 => [(9, .int v17), (7, .long v16), (5, .long v12), (0, .ref x0), (1, .int x1), (2, .int x2), (10, .int x10), (11, .int x11), (12, .int x12)]) dX13_paste_218 rfl (fun _ => rfl) (fun v17 => ?_)
        refine l_goto (t := 51) dX13_paste_220 rfl ?_
        exact l_al rfl ⟨rfl, rfl, rfl, rfl, rfl, rfl, trivial⟩
      · refine l_loc dX13_paste_204 rfl rfl ?_
        refine l_pure dX13_paste_206 rfl rfl ?_
        refine l_goto (t := 211) dX13_paste_207 rfl ?_
        refine l_pure dX13_paste_211 rfl rfl ?_
        refine l_lsl (al1 := fun v18 => [(7, .long v18), (5, .long v12), (0, .ref x0), (1, .int x1), (2, .int x2), (10, .int x10), (11, .int x11), (12, .int x12)]) dX13_paste_212 rfl (fun _ => rfl) (fun v18 => ?_)
        refine l_loc dX13_paste_214 rfl rfl ?_
        refine l_ic dX13_paste_216 kI_1 ?_
        refine l_pure dX13_paste_217 rfl rfl ?_
        refine l_isl (al1 := fun v19 => [(9, .int v19), (7, .long v18), (5, .long v12), (0, .ref x0), (1, .int x1), (2, .int x2), (10, .int x10), (11, .int x11), (12, .int x12)]) dX13_paste_218 rfl (fun _ => rfl) (fun v19 => ?_)
        refine l_goto (t := 51) dX13_paste_220 rfl ?_
        exact l_al rfl ⟨rfl, rfl, rfl, rfl, rfl, rfl, trivial⟩
  · refine l_loc dX13_paste_101 rfl rfl ?_
    refine l_loc dX13_paste_102 rfl rfl ?_
    refine l_ob fun q20 => ?_
    refine l_cI dX13_paste_104 rfl rfl rfl (l_xv cl_12_275 ko_mX13_letter rfl rfl rfl q20) rfl rfl nm_mX13_letter (xhE_th rfl) (fun v22 h21 => ?_)
    refine l_bi dX13_paste_107 kB_36 ?_
    refine l_ceq (t := 167) dX13_paste_109 rfl ?_ ?_
    · refine l_loc dX13_paste_167 rfl rfl ?_
      refine l_loc dX13_paste_168 rfl rfl ?_
      refine l_ob fun q23 => ?_
      refine l_cI dX13_paste_170 rfl rfl rfl (l_xv cl_12_275 ko_mX13_letter rfl rfl rfl q23) rfl rfl nm_mX13_letter (xhE_th rfl) (fun v25 h24 => ?_)
      refine l_bi dX13_paste_173 kB_36 ?_
      refine l_cne (t := 183) dX13_paste_175 rfl ?_ ?_
      · refine l_loc dX13_paste_183 rfl rfl ?_
        refine l_loc dX13_paste_185 rfl rfl ?_
        refine l_pure dX13_paste_187 rfl rfl ?_
        refine l_pure dX13_paste_188 rfl rfl ?_
        refine l_lsl (al1 := fun v26 => [(5, .long v26), (0, .ref x0), (1, .int x1), (2, .int x2), (7, .long x7), (10, .int x10), (11, .int x11), (12, .int x12)]) dX13_paste_189 rfl (fun _ => rfl) (fun v26 => ?_)
        refine l_loc dX13_paste_191 rfl rfl ?_
        refine l_loc dX13_paste_193 rfl rfl ?_
        refine l_loc dX13_paste_194 rfl rfl ?_
        refine l_ob fun q27 => ?_
        refine l_cI dX13_paste_196 rfl rfl rfl (l_xv cl_12_275 ko_mX13_letter rfl rfl rfl q27) rfl rfl nm_mX13_letter (xhE_th rfl) (fun v29 h28 => ?_)
        refine l_bi dX13_paste_199 kB_36 ?_
        refine l_cne (t := 210) dX13_paste_201 rfl ?_ ?_
        · refine l_lc0 dX13_paste_210 ?_
          refine l_pure dX13_paste_211 rfl rfl ?_
          refine l_lsl (al1 := fun v30 => [(7, .long v30), (5, .long v26), (0, .ref x0), (1, .int x1), (2, .int x2), (10, .int x10), (11, .int x11), (12, .int x12)]) dX13_paste_212 rfl (fun _ => rfl) (fun v30 => ?_)
          refine l_loc dX13_paste_214 rfl rfl ?_
          refine l_ic dX13_paste_216 kI_1 ?_
          refine l_pure dX13_paste_217 rfl rfl ?_
          refine l_isl (al1 := fun v31 => [(9, .int v31), (7, .long v30), (5, .long v26), (0, .ref x0), (1, .int x1), (2, .int x2), (10, .int x10), (11, .int x11), (12, .int x12)]) dX13_paste_218 rfl (fun _ => rfl) (fun v31 => ?_)
          refine l_goto (t := 51) dX13_paste_220 rfl ?_
          exact l_al rfl ⟨rfl, rfl, rfl, rfl, rfl, rfl, trivial⟩
        · refine l_loc dX13_paste_204 rfl rfl ?_
          refine l_pure dX13_paste_206 rfl rfl ?_
          refine l_goto (t := 211) dX13_paste_207 rfl ?_
          refine l_pure dX13_paste_211 rfl rfl ?_
          refine l_lsl (al1 := fun v32 => [(7, .long v32), (5, .long v26), (0, .ref x0), (1, .int x1), (2, .int x2), (10, .int x10), (11, .int x11), (12, .int x12)]) dX13_paste_212 rfl (fun _ => rfl) (fun v32 => ?_)
          refine l_loc dX13_paste_214 rfl rfl ?_
          refine l_ic dX13_paste_216 kI_1 ?_
          refine l_pure dX13_paste_217 rfl rfl ?_
          refine l_isl (al1 := fun v33 => [(9, .int v33), (7, .long v32), (5, .long v26), (0, .ref x0), (1, .int x1), (2, .int x2), (10, .int x10), (11, .int x11), (12, .int x12)]) dX13_paste_218 rfl (fun _ => rfl) (fun v33 => ?_)
          refine l_goto (t := 51) dX13_paste_220 rfl ?_
          exact l_al rfl ⟨rfl, rfl, rfl, rfl, rfl, rfl, trivial⟩
      · refine l_loc dX13_paste_178 rfl rfl ?_
        refine l_pure dX13_paste_179 rfl rfl ?_
        refine l_goto (t := 189) dX13_paste_180 rfl ?_
        refine l_lsl (al1 := fun v34 => [(5, .long v34), (0, .ref x0), (1, .int x1), (2, .int x2), (7, .long x7), (10, .int x10), (11, .int x11), (12, .int x12)]) dX13_paste_189 rfl (fun _ => rfl) (fun v34 => ?_)
        refine l_loc dX13_paste_191 rfl rfl ?_
        refine l_loc dX13_paste_193 rfl rfl ?_
        refine l_loc dX13_paste_194 rfl rfl ?_
        refine l_ob fun q35 => ?_
        refine l_cI dX13_paste_196 rfl rfl rfl (l_xv cl_12_275 ko_mX13_letter rfl rfl rfl q35) rfl rfl nm_mX13_letter (xhE_th rfl) (fun v37 h36 => ?_)
        refine l_bi dX13_paste_199 kB_36 ?_
        refine l_cne (t := 210) dX13_paste_201 rfl ?_ ?_
        · refine l_lc0 dX13_paste_210 ?_
          refine l_pure dX13_paste_211 rfl rfl ?_
          refine l_lsl (al1 := fun v38 => [(7, .long v38), (5, .long v34), (0, .ref x0), (1, .int x1), (2, .int x2), (10, .int x10), (11, .int x11), (12, .int x12)]) dX13_paste_212 rfl (fun _ => rfl) (fun v38 => ?_)
          refine l_loc dX13_paste_214 rfl rfl ?_
          refine l_ic dX13_paste_216 kI_1 ?_
          refine l_pure dX13_paste_217 rfl rfl ?_
          refine l_isl (al1 := fun v39 => [(9, .int v39), (7, .long v38), (5, .long v34), (0, .ref x0), (1, .int x1), (2, .int x2), (10, .int x10), (11, .int x11), (12, .int x12)]) dX13_paste_218 rfl (fun _ => rfl) (fun v39 => ?_)
          refine l_goto (t := 51) dX13_paste_220 rfl ?_
          exact l_al rfl ⟨rfl, rfl, rfl, rfl, rfl, rfl, trivial⟩
        · refine l_loc dX13_paste_204 rfl rfl ?_
          refine l_pure dX13_paste_206 rfl rfl ?_
          refine l_goto (t := 211) dX13_paste_207 rfl ?_
          refine l_pure dX13_paste_211 rfl rfl ?_
          refine l_lsl (al1 := fun v40 => [(7, .long v40), (5, .long v34), (0, .ref x0), (1, .int x1), (2, .int x2), (10, .int x10), (11, .int x11), (12, .int x12)]) dX13_paste_212 rfl (fun _ => rfl) (fun v40 => ?_)
          refine l_loc dX13_paste_214 rfl rfl ?_
          refine l_ic dX13_paste_216 kI_1 ?_
          refine l_pure dX13_paste_217 rfl rfl ?_
          refine l_isl (al1 := fun v41 => [(9, .int v41), (7, .long v40), (5, .long v34), (0, .ref x0), (1, .int x1), (2, .int x2), (10, .int x10), (11, .int x11), (12, .int x12)]) dX13_paste_218 rfl (fun _ => rfl) (fun v41 => ?_)
          refine l_goto (t := 51) dX13_paste_220 rfl ?_
          exact l_al rfl ⟨rfl, rfl, rfl, rfl, rfl, rfl, trivial⟩
    · refine l_loc dX13_paste_112 rfl rfl ?_
      refine l_loc dX13_paste_113 rfl rfl ?_
      refine l_loc dX13_paste_115 rfl rfl ?_
      refine l_pure dX13_paste_117 rfl rfl ?_
      refine l_pure dX13_paste_118 rfl rfl ?_
      refine l_loc dX13_paste_119 rfl rfl ?_
      refine l_ob fun q42 => ?_
      refine l_cI dX13_paste_121 rfl rfl rfl (l_xv cl_12_195 ko_mX13_isOn rfl rfl rfl q42) rfl rfl nm_mX13_isOn (xhE_th rfl) (fun v44 h43 => ?_)
      refine l_ieq (t := 161) dX13_paste_124 rfl ?_ ?_
      · refine l_incl (al1 := fun v45 => [(12, .int v45), (0, .ref x0), (1, .int x1), (2, .int x2), (5, .long x5), (7, .long x7), (10, .int x10), (11, .int x11)]) dX13_paste_161 rfl kI_1 rfl (fun _ => rfl) (fun v45 => ?_)
        refine l_goto (t := 94) dX13_paste_164 rfl ?_
        exact l_al rfl ⟨rfl, rfl, rfl, rfl, rfl, rfl, rfl, rfl, trivial⟩
      · refine l_loc dX13_paste_127 rfl rfl ?_
        refine l_gr dX13_paste_128 fl_12_21 (fun v46 => ?_)
        refine l_bi dX13_paste_131 kB_64 ?_
        refine l_loc dX13_paste_133 rfl rfl ?_
        refine l_pure dX13_paste_135 rfl rfl ?_
        refine l_pure dX13_paste_136 rfl rfl ?_
        refine l_loc dX13_paste_137 rfl rfl ?_
        refine l_pure dX13_paste_139 rfl rfl ?_
        refine l_pure dX13_paste_140 rfl rfl ?_
        refine l_loc dX13_paste_141 rfl rfl ?_
        refine l_pure dX13_paste_143 rfl rfl ?_
        refine l_loc dX13_paste_144 rfl rfl ?_
        refine l_loc dX13_paste_145 rfl rfl ?_
        refine l_ob fun q47 => ?_
        refine l_cI dX13_paste_147 rfl rfl rfl (l_xv cl_12_275 ko_mX13_letter rfl rfl rfl q47) rfl rfl nm_mX13_letter (xhE_th rfl) (fun v49 h48 => ?_)
        refine l_bi dX13_paste_150 kB_111 ?_
        refine l_cne (t := 159) dX13_paste_152 rfl ?_ ?_
        · refine l_ic dX13_paste_159 kI_0 ?_
          refine l_wz dX13_paste_160 (fun h50 => ?_)
          refine l_incl (al1 := fun v51 => [(12, .int v51), (0, .ref x0), (1, .int x1), (2, .int x2), (5, .long x5), (7, .long x7), (10, .int x10), (11, .int x11)]) dX13_paste_161 rfl kI_1 rfl (fun _ => rfl) (fun v51 => ?_)
          refine l_goto (t := 94) dX13_paste_164 rfl ?_
          exact l_al rfl ⟨rfl, rfl, rfl, rfl, rfl, rfl, rfl, rfl, trivial⟩
        · refine l_ic dX13_paste_155 kI_1 ?_
          refine l_goto (t := 160) dX13_paste_156 rfl ?_
          refine l_wz dX13_paste_160 (fun h52 => ?_)
          refine l_incl (al1 := fun v53 => [(12, .int v53), (0, .ref x0), (1, .int x1), (2, .int x2), (5, .long x5), (7, .long x7), (10, .int x10), (11, .int x11)]) dX13_paste_161 rfl kI_1 rfl (fun _ => rfl) (fun v53 => ?_)
          refine l_goto (t := 94) dX13_paste_164 rfl ?_
          exact l_al rfl ⟨rfl, rfl, rfl, rfl, rfl, rfl, rfl, rfl, trivial⟩
set_option maxRecDepth 16000 in
theorem w_X13_readsPattern (S : xS) (x0 : Nat) (h : xH) : xle (xden S mX13_readsPattern 2 [(0, .ref x0), (1, .int (0 : Int32))] [] h) (xM S mX13_readsPattern [.ref x0] h) := by
  show xle _ (xden S mX13_readsPattern 0 [(0, .ref x0)] [] h)
  refine l_ic dX13_readsPattern_0 kI_0 ?_
  refine l_loc (al1 := [(1, .int (0 : Int32)), (0, .ref x0)]) dX13_readsPattern_1 rfl rfl ?_
  exact l_al rfl ⟨rfl, rfl, trivial⟩
set_option maxRecDepth 16000 in
theorem w_X13_readsPattern_2 (S : xS) (x0 : Nat) (x1 : Int32) (h : xH) : xle ((xGi h x0 12 13).bind fun v1 => if v1 ≤ x1 then ((xGi h x0 12 13).bind fun v2 => some (.inl (some (.int v2)), h, 0, 0)) else (xden S mX13_readsPattern 12 [(0, .ref x0), (1, .int x1), (2, .int x1)] [] h)) (xden S mX13_readsPattern 2 [(0, .ref x0), (1, .int x1)] [] h) := by
  refine l_loc dX13_readsPattern_2 rfl rfl ?_
  refine l_loc dX13_readsPattern_3 rfl rfl ?_
  refine l_gi dX13_readsPattern_4 fl_12_272 (fun v1 => ?_)
  refine l_cge (t := 133) dX13_readsPattern_7 rfl ?_ ?_
  · refine l_loc dX13_readsPattern_133 rfl rfl ?_
    refine l_gi dX13_readsPattern_134 fl_12_272 (fun v2 => ?_)
    exact l_iretn dX13_readsPattern_137 rfl (by rfl)
  · refine l_loc dX13_readsPattern_10 rfl rfl ?_
    refine l_loc (al1 := [(2, .int x1), (0, .ref x0), (1, .int x1)]) dX13_readsPattern_11 rfl rfl ?_
    exact l_al rfl ⟨rfl, rfl, rfl, trivial⟩
set_option maxRecDepth 16000 in
theorem w_X13_readsPattern_12 (S : xS) (x0 : Nat) (x1 : Int32) (x2 : Int32) (h : xH) : xle (if xOb h x0 12 = true then xqI (xM S mX13_isFigure [.ref x0, .int x2] h) xth fun v3 h2 => if v3 = 0 then (if x2 ≤ x1 then (if xOb h2 x0 12 = true then xqI (xM S mX13_letter [.ref x0, .int x2] h2) xth fun v6 h5 => if ¬ v6 = (33 : Int32) then ((xGi h5 x0 12 13).bind fun v7 => if v7 ≤ x2 then (xlet (x2 + (1 : Int32)) fun v8 => (xden S mX13_readsPattern 2 [(0, .ref x0), (1, .int v8)] [] h5)) else (if v6 = (111 : Int32) then (xlet (x2 + (1 : Int32)) fun v9 => (xden S mX13_readsPattern 2 [(0, .ref x0), (1, .int v9)] [] h5)) else (if v6 = (98 : Int32) then (xlet (x2 + (1 : Int32)) fun v10 => (xden S mX13_readsPattern 2 [(0, .ref x0), (1, .int v10)] [] h5)) else (if v6 = (36 : Int32) then (xlet (x2 + (1 : Int32)) fun v11 => (xden S mX13_readsPattern 2 [(0, .ref x0), (1, .int v11)] [] h5)) else (some (.inl (some (.int x2)), h5, 0, 0)))))) else (if x2 ≤ x1 then ((xGi h5 x0 12 13).bind fun v12 => if v12 ≤ (x2 + (1 : Int32)) then (some (.inl (some (.int (-1 : Int32))), h5, 0, 0)) else (some (.inl (some (.int (x2 + (1 : Int32)))), h5, 0, 0))) else (some (.inl (some (.int x2)), h5, 0, 0))) else none) else (if xOb h2 x0 12 = true then xqI (xM S mX13_countOf [.ref x0, .int x1, .int x2] h2) xth fun v15 h14 => xqI (xM S mX13_in [.long (v15.toInt64), .long (1 : Int64), .long (64 : Int64)] h14) xth fun v17 h16 => if ¬ v17 = 0 then (if xOb h16 x0 12 = true then xqI (xM S mX13_letter [.ref x0, .int x2] h16) xth fun v20 h19 => if ¬ v20 = (33 : Int32) then ((xGi h19 x0 12 13).bind fun v21 => if v21 ≤ x2 then (xlet (x2 + (1 : Int32)) fun v22 => (xden S mX13_readsPattern 2 [(0, .ref x0), (1, .int v22)] [] h19)) else (if v20 = (111 : Int32) then (xlet (x2 + (1 : Int32)) fun v23 => (xden S mX13_readsPattern 2 [(0, .ref x0), (1, .int v23)] [] h19)) else (if v20 = (98 : Int32) then (xlet (x2 + (1 : Int32)) fun v24 => (xden S mX13_readsPattern 2 [(0, .ref x0), (1, .int v24)] [] h19)) else (if v20 = (36 : Int32) then (xlet (x2 + (1 : Int32)) fun v25 => (xden S mX13_readsPattern 2 [(0, .ref x0), (1, .int v25)] [] h19)) else (some (.inl (some (.int x2)), h19, 0, 0)))))) else (if x2 ≤ x1 then ((xGi h19 x0 12 13).bind fun v26 => if v26 ≤ (x2 + (1 : Int32)) then (some (.inl (some (.int (-1 : Int32))), h19, 0, 0)) else (some (.inl (some (.int (x2 + (1 : Int32)))), h19, 0, 0))) else (some (.inl (some (.int x2)), h19, 0, 0))) else none) else (some (.inl (some (.int x1)), h16, 0, 0)) else none)) else (if ¬ (x2 - x1) = (2 : Int32) then (xlet (x2 + (1 : Int32)) fun v27 => (xden S mX13_readsPattern 12 [(0, .ref x0), (1, .int x1), (2, .int v27)] [] h2)) else (some (.inl (some (.int x2)), h2, 0, 0))) else none) (xden S mX13_readsPattern 12 [(0, .ref x0), (1, .int x1), (2, .int x2)] [] h) := by
  refine l_loc dX13_readsPattern_12 rfl rfl ?_
  refine l_loc dX13_readsPattern_13 rfl rfl ?_
  refine l_ob fun q1 => ?_
  refine l_cI dX13_readsPattern_14 rfl rfl rfl (l_xv cl_12_293 ko_mX13_isFigure rfl rfl rfl q1) rfl rfl nm_mX13_isFigure (xhE_th rfl) (fun v3 h2 => ?_)
  refine l_ieq (t := 35) dX13_readsPattern_17 rfl ?_ ?_
  · refine l_loc dX13_readsPattern_35 rfl rfl ?_
    refine l_loc dX13_readsPattern_36 rfl rfl ?_
    refine l_cle (t := 59) dX13_readsPattern_37 rfl ?_ ?_
    · refine l_loc dX13_readsPattern_59 rfl rfl ?_
      refine l_loc dX13_readsPattern_60 rfl rfl ?_
      refine l_ob fun q4 => ?_
      refine l_cI dX13_readsPattern_61 rfl rfl rfl (l_xv cl_12_275 ko_mX13_letter rfl rfl rfl q4) rfl rfl nm_mX13_letter (xhE_th rfl) (fun v6 h5 => ?_)
      refine l_loc (al1 := [(3, .int v6), (0, .ref x0), (1, .int x1), (2, .int x2)]) dX13_readsPattern_64 rfl rfl ?_
      refine l_loc dX13_readsPattern_65 rfl rfl ?_
      refine l_bi dX13_readsPattern_66 kB_33 ?_
      refine l_cne (t := 98) dX13_readsPattern_68 rfl ?_ ?_
      · refine l_loc dX13_readsPattern_98 rfl rfl ?_
        refine l_loc dX13_readsPattern_99 rfl rfl ?_
        refine l_gi dX13_readsPattern_100 fl_12_272 (fun v7 => ?_)
        refine l_cge (t := 126) dX13_readsPattern_103 rfl ?_ ?_
        · refine l_loc dX13_readsPattern_126 rfl rfl ?_
          refine l_ic dX13_readsPattern_127 kI_1 ?_
          refine l_pure dX13_readsPattern_128 rfl rfl ?_
          refine l_isl (al1 := fun v8 => [(1, .int v8), (3, .int v6), (0, .ref x0), (2, .int x2)]) dX13_readsPattern_129 rfl (fun _ => rfl) (fun v8 => ?_)
          refine l_goto (t := 2) dX13_readsPattern_130 rfl ?_
          exact l_al rfl ⟨rfl, rfl, trivial⟩
        · refine l_loc dX13_readsPattern_106 rfl rfl ?_
          refine l_bi dX13_readsPattern_107 kB_111 ?_
          refine l_ceq (t := 126) dX13_readsPattern_109 rfl ?_ ?_
          · refine l_loc dX13_readsPattern_126 rfl rfl ?_
            refine l_ic dX13_readsPattern_127 kI_1 ?_
            refine l_pure dX13_readsPattern_128 rfl rfl ?_
            refine l_isl (al1 := fun v9 => [(1, .int v9), (3, .int v6), (0, .ref x0), (2, .int x2)]) dX13_readsPattern_129 rfl (fun _ => rfl) (fun v9 => ?_)
            refine l_goto (t := 2) dX13_readsPattern_130 rfl ?_
            exact l_al rfl ⟨rfl, rfl, trivial⟩
          · refine l_loc dX13_readsPattern_112 rfl rfl ?_
            refine l_bi dX13_readsPattern_113 kB_98 ?_
            refine l_ceq (t := 126) dX13_readsPattern_115 rfl ?_ ?_
            · refine l_loc dX13_readsPattern_126 rfl rfl ?_
              refine l_ic dX13_readsPattern_127 kI_1 ?_
              refine l_pure dX13_readsPattern_128 rfl rfl ?_
              refine l_isl (al1 := fun v10 => [(1, .int v10), (3, .int v6), (0, .ref x0), (2, .int x2)]) dX13_readsPattern_129 rfl (fun _ => rfl) (fun v10 => ?_)
              refine l_goto (t := 2) dX13_readsPattern_130 rfl ?_
              exact l_al rfl ⟨rfl, rfl, trivial⟩
            · refine l_loc dX13_readsPattern_118 rfl rfl ?_
              refine l_bi dX13_readsPattern_119 kB_36 ?_
              refine l_ceq (t := 126) dX13_readsPattern_121 rfl ?_ ?_
              · refine l_loc dX13_readsPattern_126 rfl rfl ?_
                refine l_ic dX13_readsPattern_127 kI_1 ?_
                refine l_pure dX13_readsPattern_128 rfl rfl ?_
                refine l_isl (al1 := fun v11 => [(1, .int v11), (3, .int v6), (0, .ref x0), (2, .int x2)]) dX13_readsPattern_129 rfl (fun _ => rfl) (fun v11 => ?_)
                refine l_goto (t := 2) dX13_readsPattern_130 rfl ?_
                exact l_al rfl ⟨rfl, rfl, trivial⟩
              · refine l_loc dX13_readsPattern_124 rfl rfl ?_
                exact l_iretn dX13_readsPattern_125 rfl (by rfl)
      · refine l_loc dX13_readsPattern_71 rfl rfl ?_
        refine l_loc dX13_readsPattern_72 rfl rfl ?_
        refine l_cle (t := 80) dX13_readsPattern_73 rfl ?_ ?_
        · refine l_loc dX13_readsPattern_80 rfl rfl ?_
          refine l_ic dX13_readsPattern_81 kI_1 ?_
          refine l_pure dX13_readsPattern_82 rfl rfl ?_
          refine l_loc dX13_readsPattern_83 rfl rfl ?_
          refine l_gi dX13_readsPattern_84 fl_12_272 (fun v12 => ?_)
          refine l_cge (t := 96) dX13_readsPattern_87 rfl ?_ ?_
          · refine l_ic dX13_readsPattern_96 kI_m1 ?_
            exact l_iretn dX13_readsPattern_97 rfl (by rfl)
          · refine l_loc dX13_readsPattern_90 rfl rfl ?_
            refine l_ic dX13_readsPattern_91 kI_1 ?_
            refine l_pure dX13_readsPattern_92 rfl rfl ?_
            refine l_goto (t := 97) dX13_readsPattern_93 rfl ?_
            exact l_iretn dX13_readsPattern_97 rfl (by rfl)
        · refine l_loc dX13_readsPattern_76 rfl rfl ?_
          refine l_goto (t := 97) dX13_readsPattern_77 rfl ?_
          exact l_iretn dX13_readsPattern_97 rfl (by rfl)
    · refine l_loc dX13_readsPattern_40 rfl rfl ?_
      refine l_loc dX13_readsPattern_41 rfl rfl ?_
      refine l_loc dX13_readsPattern_42 rfl rfl ?_
      refine l_ob fun q13 => ?_
      refine l_cI dX13_readsPattern_43 rfl rfl rfl (l_xv cl_12_331 ko_mX13_countOf rfl rfl rfl q13) rfl rfl nm_mX13_countOf (xhE_th rfl) (fun v15 h14 => ?_)
      refine l_pure dX13_readsPattern_46 rfl rfl ?_
      refine l_lc1 dX13_readsPattern_47 ?_
      refine l_rd (st1 := [.long (64 : Int64), .long (1 : Int64), .long (v15.toInt64)]) dX13_readsPattern_48 rfl rfl ?_
      refine l_cI dX13_readsPattern_51 rfl rfl rfl (l_xs cl_12_191 ko_mX13_in rfl rfl) rfl rfl nm_mX13_in (xhE_th rfl) (fun v17 h16 => ?_)
      refine l_ine (t := 59) dX13_readsPattern_54 rfl ?_ ?_
      · refine l_loc dX13_readsPattern_59 rfl rfl ?_
        refine l_loc dX13_readsPattern_60 rfl rfl ?_
        refine l_ob fun q18 => ?_
        refine l_cI dX13_readsPattern_61 rfl rfl rfl (l_xv cl_12_275 ko_mX13_letter rfl rfl rfl q18) rfl rfl nm_mX13_letter (xhE_th rfl) (fun v20 h19 => ?_)
        refine l_loc (al1 := [(3, .int v20), (0, .ref x0), (1, .int x1), (2, .int x2)]) dX13_readsPattern_64 rfl rfl ?_
        refine l_loc dX13_readsPattern_65 rfl rfl ?_
        refine l_bi dX13_readsPattern_66 kB_33 ?_
        refine l_cne (t := 98) dX13_readsPattern_68 rfl ?_ ?_
        · refine l_loc dX13_readsPattern_98 rfl rfl ?_
          refine l_loc dX13_readsPattern_99 rfl rfl ?_
          refine l_gi dX13_readsPattern_100 fl_12_272 (fun v21 => ?_)
          refine l_cge (t := 126) dX13_readsPattern_103 rfl ?_ ?_
          · refine l_loc dX13_readsPattern_126 rfl rfl ?_
            refine l_ic dX13_readsPattern_127 kI_1 ?_
            refine l_pure dX13_readsPattern_128 rfl rfl ?_
            refine l_isl (al1 := fun v22 => [(1, .int v22), (3, .int v20), (0, .ref x0), (2, .int x2)]) dX13_readsPattern_129 rfl (fun _ => rfl) (fun v22 => ?_)
            refine l_goto (t := 2) dX13_readsPattern_130 rfl ?_
            exact l_al rfl ⟨rfl, rfl, trivial⟩
          · refine l_loc dX13_readsPattern_106 rfl rfl ?_
            refine l_bi dX13_readsPattern_107 kB_111 ?_
            refine l_ceq (t := 126) dX13_readsPattern_109 rfl ?_ ?_
            · refine l_loc dX13_readsPattern_126 rfl rfl ?_
              refine l_ic dX13_readsPattern_127 kI_1 ?_
              refine l_pure dX13_readsPattern_128 rfl rfl ?_
              refine l_isl (al1 := fun v23 => [(1, .int v23), (3, .int v20), (0, .ref x0), (2, .int x2)]) dX13_readsPattern_129 rfl (fun _ => rfl) (fun v23 => ?_)
              refine l_goto (t := 2) dX13_readsPattern_130 rfl ?_
              exact l_al rfl ⟨rfl, rfl, trivial⟩
            · refine l_loc dX13_readsPattern_112 rfl rfl ?_
              refine l_bi dX13_readsPattern_113 kB_98 ?_
              refine l_ceq (t := 126) dX13_readsPattern_115 rfl ?_ ?_
              · refine l_loc dX13_readsPattern_126 rfl rfl ?_
                refine l_ic dX13_readsPattern_127 kI_1 ?_
                refine l_pure dX13_readsPattern_128 rfl rfl ?_
                refine l_isl (al1 := fun v24 => [(1, .int v24), (3, .int v20), (0, .ref x0), (2, .int x2)]) dX13_readsPattern_129 rfl (fun _ => rfl) (fun v24 => ?_)
                refine l_goto (t := 2) dX13_readsPattern_130 rfl ?_
                exact l_al rfl ⟨rfl, rfl, trivial⟩
              · refine l_loc dX13_readsPattern_118 rfl rfl ?_
                refine l_bi dX13_readsPattern_119 kB_36 ?_
                refine l_ceq (t := 126) dX13_readsPattern_121 rfl ?_ ?_
                · refine l_loc dX13_readsPattern_126 rfl rfl ?_
                  refine l_ic dX13_readsPattern_127 kI_1 ?_
                  refine l_pure dX13_readsPattern_128 rfl rfl ?_
                  refine l_isl (al1 := fun v25 => [(1, .int v25), (3, .int v20), (0, .ref x0), (2, .int x2)]) dX13_readsPattern_129 rfl (fun _ => rfl) (fun v25 => ?_)
                  refine l_goto (t := 2) dX13_readsPattern_130 rfl ?_
                  exact l_al rfl ⟨rfl, rfl, trivial⟩
                · refine l_loc dX13_readsPattern_124 rfl rfl ?_
                  exact l_iretn dX13_readsPattern_125 rfl (by rfl)
        · refine l_loc dX13_readsPattern_71 rfl rfl ?_
          refine l_loc dX13_readsPattern_72 rfl rfl ?_
          refine l_cle (t := 80) dX13_readsPattern_73 rfl ?_ ?_
          · refine l_loc dX13_readsPattern_80 rfl rfl ?_
            refine l_ic dX13_readsPattern_81 kI_1 ?_
            refine l_pure dX13_readsPattern_82 rfl rfl ?_
            refine l_loc dX13_readsPattern_83 rfl rfl ?_
            refine l_gi dX13_readsPattern_84 fl_12_272 (fun v26 => ?_)
            refine l_cge (t := 96) dX13_readsPattern_87 rfl ?_ ?_
            · refine l_ic dX13_readsPattern_96 kI_m1 ?_
              exact l_iretn dX13_readsPattern_97 rfl (by rfl)
            · refine l_loc dX13_readsPattern_90 rfl rfl ?_
              refine l_ic dX13_readsPattern_91 kI_1 ?_
              refine l_pure dX13_readsPattern_92 rfl rfl ?_
              refine l_goto (t := 97) dX13_readsPattern_93 rfl ?_
              exact l_iretn dX13_readsPattern_97 rfl (by rfl)
          · refine l_loc dX13_readsPattern_76 rfl rfl ?_
            refine l_goto (t := 97) dX13_readsPattern_77 rfl ?_
            exact l_iretn dX13_readsPattern_97 rfl (by rfl)
      · refine l_loc dX13_readsPattern_57 rfl rfl ?_
        exact l_iretn dX13_readsPattern_58 rfl (by rfl)
  · refine l_loc dX13_readsPattern_20 rfl rfl ?_
    refine l_loc dX13_readsPattern_21 rfl rfl ?_
    refine l_pure dX13_readsPattern_22 rfl rfl ?_
    refine l_ic dX13_readsPattern_23 kI_2 ?_
    refine l_cne (t := 29) dX13_readsPattern_24 rfl ?_ ?_
    · refine l_incl (al1 := fun v27 => [(2, .int v27), (0, .ref x0), (1, .int x1)]) dX13_readsPattern_29 rfl kI_1 rfl (fun _ => rfl) (fun v27 => ?_)
      refine l_goto (t := 12) dX13_readsPattern_32 rfl ?_
      exact l_al rfl ⟨rfl, rfl, rfl, trivial⟩
    · refine l_loc dX13_readsPattern_27 rfl rfl ?_
      exact l_iretn dX13_readsPattern_28 rfl (by rfl)
set_option maxRecDepth 16000 in
theorem w_X13_countOf (S : xS) (x0 : Nat) (x1 : Int32) (x2 : Int32) (h : xH) : xle (if ¬ x2 = x1 then (xden S mX13_countOf 14 [(0, .ref x0), (2, .int x2), (3, .int (0 : Int32)), (4, .int x1)] [] h) else (xden S mX13_countOf 14 [(0, .ref x0), (2, .int x2), (3, .int (1 : Int32)), (4, .int x1)] [] h)) (xM S mX13_countOf [.ref x0, .int x1, .int x2] h) := by
  show xle _ (xden S mX13_countOf 0 [(0, .ref x0), (1, .int x1), (2, .int x2)] [] h)
  refine l_loc dX13_countOf_0 rfl rfl ?_
  refine l_loc dX13_countOf_1 rfl rfl ?_
  refine l_cne (t := 9) dX13_countOf_2 rfl ?_ ?_
  · refine l_ic dX13_countOf_9 kI_0 ?_
    refine l_loc (al1 := [(3, .int (0 : Int32)), (0, .ref x0), (1, .int x1), (2, .int x2)]) dX13_countOf_10 rfl rfl ?_
    refine l_loc dX13_countOf_11 rfl rfl ?_
    refine l_loc (al1 := [(4, .int x1), (3, .int (0 : Int32)), (0, .ref x0), (1, .int x1), (2, .int x2)]) dX13_countOf_12 rfl rfl ?_
    exact l_al rfl ⟨rfl, rfl, rfl, rfl, trivial⟩
  · refine l_ic dX13_countOf_5 kI_1 ?_
    refine l_goto (t := 10) dX13_countOf_6 rfl ?_
    refine l_loc (al1 := [(3, .int (1 : Int32)), (0, .ref x0), (1, .int x1), (2, .int x2)]) dX13_countOf_10 rfl rfl ?_
    refine l_loc dX13_countOf_11 rfl rfl ?_
    refine l_loc (al1 := [(4, .int x1), (3, .int (1 : Int32)), (0, .ref x0), (1, .int x1), (2, .int x2)]) dX13_countOf_12 rfl rfl ?_
    exact l_al rfl ⟨rfl, rfl, rfl, rfl, trivial⟩
set_option maxRecDepth 16000 in
theorem w_X13_countOf_14 (S : xS) (x0 : Nat) (x2 : Int32) (x3 : Int32) (x4 : Int32) (h : xH) : xle (if x2 ≤ x4 then (some (.inl (some (.int x3)), h, 0, 0)) else ((xGr h x0 12 12).bind fun v1 => (xRi h 0 v1 x4).bind fun v2 => xlet ((((10 : Int32) * x3) + v2) - (48 : Int32)) fun v3 => xlet (x4 + (1 : Int32)) fun v4 => (xden S mX13_countOf 14 [(0, .ref x0), (2, .int x2), (3, .int v3), (4, .int v4)] [] h))) (xden S mX13_countOf 14 [(0, .ref x0), (2, .int x2), (3, .int x3), (4, .int x4)] [] h) := by
  refine l_loc dX13_countOf_14 rfl rfl ?_
  refine l_loc dX13_countOf_16 rfl rfl ?_
  refine l_cge (t := 42) dX13_countOf_17 rfl ?_ ?_
  · refine l_loc dX13_countOf_42 rfl rfl ?_
    exact l_iretn dX13_countOf_43 rfl (by rfl)
  · refine l_bi dX13_countOf_20 kB_10 ?_
    refine l_loc dX13_countOf_22 rfl rfl ?_
    refine l_pure dX13_countOf_23 rfl rfl ?_
    refine l_loc dX13_countOf_24 rfl rfl ?_
    refine l_gr dX13_countOf_25 fl_12_30 (fun v1 => ?_)
    refine l_loc dX13_countOf_28 rfl rfl ?_
    refine l_ri dX13_countOf_30 (fun v2 => ?_)
    refine l_pure dX13_countOf_31 rfl rfl ?_
    refine l_bi dX13_countOf_32 kB_48 ?_
    refine l_pure dX13_countOf_34 rfl rfl ?_
    refine l_isl (al1 := fun v3 => [(3, .int v3), (0, .ref x0), (2, .int x2), (4, .int x4)]) dX13_countOf_35 rfl (fun _ => rfl) (fun v3 => ?_)
    refine l_incl (al1 := fun v4 => [(4, .int v4), (3, .int v3), (0, .ref x0), (2, .int x2)]) dX13_countOf_36 rfl kI_1 rfl (fun _ => rfl) (fun v4 => ?_)
    refine l_goto (t := 14) dX13_countOf_39 rfl ?_
    exact l_al rfl ⟨rfl, rfl, rfl, rfl, trivial⟩
set_option maxRecDepth 16000 in
theorem w_X13_addMask (S : xS) (x0 : Nat) (x1 : Int32) (x2 : Int32) (x3 : Int32) (x4 : Int32) (h : xH) : xle ((xP false 12 h x0 12 2 (.int (0 : Int32))).bind fun h1 => if x1 < 0 then (if xOb h1 x0 12 = true then xqI (xM S mX13_fails [.ref x0, .int (1 : Int32)] h1) xth fun v4 h3 => some (.inl (some (.int v4)), h3, 0, 0) else none) else (if x2 < 0 then (if xOb h1 x0 12 = true then xqI (xM S mX13_fails [.ref x0, .int (1 : Int32)] h1) xth fun v7 h6 => some (.inl (some (.int v7)), h6, 0, 0) else none) else (if x3 < (1 : Int32) then (if xOb h1 x0 12 = true then xqI (xM S mX13_fails [.ref x0, .int (1 : Int32)] h1) xth fun v10 h9 => some (.inl (some (.int v10)), h9, 0, 0) else none) else (if x4 < (1 : Int32) then (if xOb h1 x0 12 = true then xqI (xM S mX13_fails [.ref x0, .int (1 : Int32)] h1) xth fun v13 h12 => some (.inl (some (.int v13)), h12, 0, 0) else none) else ((xGi h1 x0 12 0).bind fun v14 => if 0 < (lg_cmp ((x1.toInt64) + (x3.toInt64)) (v14.toInt64)) then (if xOb h1 x0 12 = true then xqI (xM S mX13_fails [.ref x0, .int (1 : Int32)] h1) xth fun v17 h16 => some (.inl (some (.int v17)), h16, 0, 0) else none) else ((xGi h1 x0 12 1).bind fun v18 => if (lg_cmp ((x2.toInt64) + (x4.toInt64)) (v18.toInt64)) ≤ 0 then ((xGi h1 x0 12 30).bind fun v19 => if ¬ v19 = (6 : Int32) then ((xGr h1 x0 12 26).bind fun v20 => (xGi h1 x0 12 30).bind fun v21 => (xWi h1 v20 v21 x1).bind fun h22 => (xGr h22 x0 12 27).bind fun v23 => (xGi h22 x0 12 30).bind fun v24 => (xWi h22 v23 v24 x2).bind fun h25 => (xGr h25 x0 12 28).bind fun v26 => (xGi h25 x0 12 30).bind fun v27 => (xWi h25 v26 v27 x3).bind fun h28 => (xGr h28 x0 12 29).bind fun v29 => (xGi h28 x0 12 30).bind fun v30 => (xWi h28 v29 v30 x4).bind fun h31 => (xGi h31 x0 12 30).bind fun v32 => (xP false 12 h31 x0 12 30 (.int (v32 + (1 : Int32)))).bind fun h33 => (xGi h33 x0 12 30).bind fun v34 => some (.inl (some (.int v34)), h33, 0, 0)) else (if xOb h1 x0 12 = true then xqI (xM S mX13_fails [.ref x0, .int (2 : Int32)] h1) xth fun v37 h36 => some (.inl (some (.int v37)), h36, 0, 0) else none)) else (if xOb h1 x0 12 = true then xqI (xM S mX13_fails [.ref x0, .int (1 : Int32)] h1) xth fun v40 h39 => some (.inl (some (.int v40)), h39, 0, 0) else none))))))) (xM S mX13_addMask [.ref x0, .int x1, .int x2, .int x3, .int x4] h) := by
  show xle _ (xden S mX13_addMask 0 [(0, .ref x0), (1, .int x1), (2, .int x2), (3, .int x3), (4, .int x4)] [] h)
  refine l_loc dX13_addMask_0 rfl rfl ?_
  refine l_ic dX13_addMask_1 kI_0 ?_
  refine l_pf dX13_addMask_2 fl_12_186 (ini := false) nm_mX13_addMask (fun h1 => ?_)
  refine l_loc dX13_addMask_5 rfl rfl ?_
  refine l_ilt (t := 53) dX13_addMask_6 rfl ?_ ?_
  · refine l_loc dX13_addMask_53 rfl rfl ?_
    refine l_ic dX13_addMask_54 kI_1 ?_
    refine l_ob fun q2 => ?_
    refine l_cI dX13_addMask_55 rfl rfl rfl (l_xv cl_12_206 ko_mX13_fails rfl rfl rfl q2) rfl rfl nm_mX13_fails (xhE_th rfl) (fun v4 h3 => ?_)
    exact l_iretn dX13_addMask_58 rfl (by rfl)
  · refine l_loc dX13_addMask_9 rfl rfl ?_
    refine l_ilt (t := 53) dX13_addMask_10 rfl ?_ ?_
    · refine l_loc dX13_addMask_53 rfl rfl ?_
      refine l_ic dX13_addMask_54 kI_1 ?_
      refine l_ob fun q5 => ?_
      refine l_cI dX13_addMask_55 rfl rfl rfl (l_xv cl_12_206 ko_mX13_fails rfl rfl rfl q5) rfl rfl nm_mX13_fails (xhE_th rfl) (fun v7 h6 => ?_)
      exact l_iretn dX13_addMask_58 rfl (by rfl)
    · refine l_loc dX13_addMask_13 rfl rfl ?_
      refine l_ic dX13_addMask_14 kI_1 ?_
      refine l_clt (t := 53) dX13_addMask_15 rfl ?_ ?_
      · refine l_loc dX13_addMask_53 rfl rfl ?_
        refine l_ic dX13_addMask_54 kI_1 ?_
        refine l_ob fun q8 => ?_
        refine l_cI dX13_addMask_55 rfl rfl rfl (l_xv cl_12_206 ko_mX13_fails rfl rfl rfl q8) rfl rfl nm_mX13_fails (xhE_th rfl) (fun v10 h9 => ?_)
        exact l_iretn dX13_addMask_58 rfl (by rfl)
      · refine l_loc dX13_addMask_18 rfl rfl ?_
        refine l_ic dX13_addMask_20 kI_1 ?_
        refine l_clt (t := 53) dX13_addMask_21 rfl ?_ ?_
        · refine l_loc dX13_addMask_53 rfl rfl ?_
          refine l_ic dX13_addMask_54 kI_1 ?_
          refine l_ob fun q11 => ?_
          refine l_cI dX13_addMask_55 rfl rfl rfl (l_xv cl_12_206 ko_mX13_fails rfl rfl rfl q11) rfl rfl nm_mX13_fails (xhE_th rfl) (fun v13 h12 => ?_)
          exact l_iretn dX13_addMask_58 rfl (by rfl)
        · refine l_loc dX13_addMask_24 rfl rfl ?_
          refine l_pure dX13_addMask_25 rfl rfl ?_
          refine l_loc dX13_addMask_26 rfl rfl ?_
          refine l_pure dX13_addMask_27 rfl rfl ?_
          refine l_pure dX13_addMask_28 rfl rfl ?_
          refine l_loc dX13_addMask_29 rfl rfl ?_
          refine l_gi dX13_addMask_30 fl_12_179 (fun v14 => ?_)
          refine l_pure dX13_addMask_33 rfl rfl ?_
          refine l_pure dX13_addMask_34 rfl rfl ?_
          refine l_igt (t := 53) dX13_addMask_35 rfl ?_ ?_
          · refine l_loc dX13_addMask_53 rfl rfl ?_
            refine l_ic dX13_addMask_54 kI_1 ?_
            refine l_ob fun q15 => ?_
            refine l_cI dX13_addMask_55 rfl rfl rfl (l_xv cl_12_206 ko_mX13_fails rfl rfl rfl q15) rfl rfl nm_mX13_fails (xhE_th rfl) (fun v17 h16 => ?_)
            exact l_iretn dX13_addMask_58 rfl (by rfl)
          · refine l_loc dX13_addMask_38 rfl rfl ?_
            refine l_pure dX13_addMask_39 rfl rfl ?_
            refine l_loc dX13_addMask_40 rfl rfl ?_
            refine l_pure dX13_addMask_42 rfl rfl ?_
            refine l_pure dX13_addMask_43 rfl rfl ?_
            refine l_loc dX13_addMask_44 rfl rfl ?_
            refine l_gi dX13_addMask_45 fl_12_183 (fun v18 => ?_)
            refine l_pure dX13_addMask_48 rfl rfl ?_
            refine l_pure dX13_addMask_49 rfl rfl ?_
            refine l_ile (t := 59) dX13_addMask_50 rfl ?_ ?_
            · refine l_loc dX13_addMask_59 rfl rfl ?_
              refine l_gi dX13_addMask_60 fl_12_337 (fun v19 => ?_)
              refine l_bi dX13_addMask_63 kB_6 ?_
              refine l_cne (t := 74) dX13_addMask_65 rfl ?_ ?_
              · refine l_loc dX13_addMask_74 rfl rfl ?_
                refine l_gr dX13_addMask_75 fl_12_62 (fun v20 => ?_)
                refine l_loc dX13_addMask_78 rfl rfl ?_
                refine l_gi dX13_addMask_79 fl_12_337 (fun v21 => ?_)
                refine l_loc dX13_addMask_82 rfl rfl ?_
                refine l_wi dX13_addMask_83 (fun h22 => ?_)
                refine l_loc dX13_addMask_84 rfl rfl ?_
                refine l_gr dX13_addMask_85 fl_12_65 (fun v23 => ?_)
                refine l_loc dX13_addMask_88 rfl rfl ?_
                refine l_gi dX13_addMask_89 fl_12_337 (fun v24 => ?_)
                refine l_loc dX13_addMask_92 rfl rfl ?_
                refine l_wi dX13_addMask_93 (fun h25 => ?_)
                refine l_loc dX13_addMask_94 rfl rfl ?_
                refine l_gr dX13_addMask_95 fl_12_68 (fun v26 => ?_)
                refine l_loc dX13_addMask_98 rfl rfl ?_
                refine l_gi dX13_addMask_99 fl_12_337 (fun v27 => ?_)
                refine l_loc dX13_addMask_102 rfl rfl ?_
                refine l_wi dX13_addMask_103 (fun h28 => ?_)
                refine l_loc dX13_addMask_104 rfl rfl ?_
                refine l_gr dX13_addMask_105 fl_12_71 (fun v29 => ?_)
                refine l_loc dX13_addMask_108 rfl rfl ?_
                refine l_gi dX13_addMask_109 fl_12_337 (fun v30 => ?_)
                refine l_loc dX13_addMask_112 rfl rfl ?_
                refine l_wi dX13_addMask_114 (fun h31 => ?_)
                refine l_loc dX13_addMask_115 rfl rfl ?_
                refine l_pure dX13_addMask_116 rfl rfl ?_
                refine l_gi dX13_addMask_117 fl_12_337 (fun v32 => ?_)
                refine l_ic dX13_addMask_120 kI_1 ?_
                refine l_pure dX13_addMask_121 rfl rfl ?_
                refine l_pf dX13_addMask_122 fl_12_337 (ini := false) nm_mX13_addMask (fun h33 => ?_)
                refine l_loc dX13_addMask_125 rfl rfl ?_
                refine l_gi dX13_addMask_126 fl_12_337 (fun v34 => ?_)
                exact l_iretn dX13_addMask_129 rfl (by rfl)
              · refine l_loc dX13_addMask_68 rfl rfl ?_
                refine l_ic dX13_addMask_69 kI_2 ?_
                refine l_ob fun q35 => ?_
                refine l_cI dX13_addMask_70 rfl rfl rfl (l_xv cl_12_206 ko_mX13_fails rfl rfl rfl q35) rfl rfl nm_mX13_fails (xhE_th rfl) (fun v37 h36 => ?_)
                exact l_iretn dX13_addMask_73 rfl (by rfl)
            · refine l_loc dX13_addMask_53 rfl rfl ?_
              refine l_ic dX13_addMask_54 kI_1 ?_
              refine l_ob fun q38 => ?_
              refine l_cI dX13_addMask_55 rfl rfl rfl (l_xv cl_12_206 ko_mX13_fails rfl rfl rfl q38) rfl rfl nm_mX13_fails (xhE_th rfl) (fun v40 h39 => ?_)
              exact l_iretn dX13_addMask_58 rfl (by rfl)
set_option maxRecDepth 16000 in
theorem w_X13_removeMask (S : xS) (x0 : Nat) (x1 : Int32) (h : xH) : xle ((xP false 12 h x0 12 2 (.int (0 : Int32))).bind fun h1 => (xGi h1 x0 12 30).bind fun v2 => xqI (xM S mX13_in [.long (x1.toInt64), .long (0 : Int64), .long (v2 - (1 : Int32)).toInt64] h1) xth fun v4 h3 => if ¬ v4 = 0 then ((xGi h3 x0 12 30).bind fun v5 => (xP false 12 h3 x0 12 30 (.int (v5 - (1 : Int32)))).bind fun h6 => (xden S mX13_removeMask 39 [(0, .ref x0), (2, .int x1)] [] h6)) else (if xOb h3 x0 12 = true then xqI (xM S mX13_fails [.ref x0, .int (1 : Int32)] h3) xth fun v9 h8 => some (.inl (some (.int v9)), h8, 0, 0) else none)) (xM S mX13_removeMask [.ref x0, .int x1] h) := by
  show xle _ (xden S mX13_removeMask 0 [(0, .ref x0), (1, .int x1)] [] h)
  refine l_loc dX13_removeMask_0 rfl rfl ?_
  refine l_ic dX13_removeMask_1 kI_0 ?_
  refine l_pf dX13_removeMask_2 fl_12_186 (ini := false) nm_mX13_removeMask (fun h1 => ?_)
  refine l_loc dX13_removeMask_5 rfl rfl ?_
  refine l_pure dX13_removeMask_6 rfl rfl ?_
  refine l_lc0 dX13_removeMask_7 ?_
  refine l_loc dX13_removeMask_8 rfl rfl ?_
  refine l_gi dX13_removeMask_9 fl_12_337 (fun v2 => ?_)
  refine l_ic dX13_removeMask_12 kI_1 ?_
  refine l_pure dX13_removeMask_13 rfl rfl ?_
  refine l_pure dX13_removeMask_14 rfl rfl ?_
  refine l_cI dX13_removeMask_15 rfl rfl rfl (l_xs cl_12_191 ko_mX13_in rfl rfl) rfl rfl nm_mX13_in (xhE_th rfl) (fun v4 h3 => ?_)
  refine l_ine (t := 27) dX13_removeMask_18 rfl ?_ ?_
  · refine l_loc dX13_removeMask_27 rfl rfl ?_
    refine l_pure dX13_removeMask_28 rfl rfl ?_
    refine l_gi dX13_removeMask_29 fl_12_337 (fun v5 => ?_)
    refine l_ic dX13_removeMask_32 kI_1 ?_
    refine l_pure dX13_removeMask_33 rfl rfl ?_
    refine l_pf dX13_removeMask_34 fl_12_337 (ini := false) nm_mX13_removeMask (fun h6 => ?_)
    refine l_loc dX13_removeMask_37 rfl rfl ?_
    refine l_loc (al1 := [(2, .int x1), (0, .ref x0), (1, .int x1)]) dX13_removeMask_38 rfl rfl ?_
    exact l_al rfl ⟨rfl, rfl, trivial⟩
  · refine l_loc dX13_removeMask_21 rfl rfl ?_
    refine l_ic dX13_removeMask_22 kI_1 ?_
    refine l_ob fun q7 => ?_
    refine l_cI dX13_removeMask_23 rfl rfl rfl (l_xv cl_12_206 ko_mX13_fails rfl rfl rfl q7) rfl rfl nm_mX13_fails (xhE_th rfl) (fun v9 h8 => ?_)
    exact l_iretn dX13_removeMask_26 rfl (by rfl)
set_option maxRecDepth 16000 in
theorem w_X13_removeMask_39 (S : xS) (x0 : Nat) (x2 : Int32) (h : xH) : xle ((xGi h x0 12 30).bind fun v1 => if v1 ≤ x2 then ((xGi h x0 12 30).bind fun v2 => some (.inl (some (.int v2)), h, 0, 0)) else ((xGr h x0 12 26).bind fun v3 => (xGr h x0 12 26).bind fun v4 => (xRi h 0 v4 (x2 + (1 : Int32))).bind fun v5 => (xWi h v3 x2 v5).bind fun h6 => (xGr h6 x0 12 27).bind fun v7 => (xGr h6 x0 12 27).bind fun v8 => (xRi h6 0 v8 (x2 + (1 : Int32))).bind fun v9 => (xWi h6 v7 x2 v9).bind fun h10 => (xGr h10 x0 12 28).bind fun v11 => (xGr h10 x0 12 28).bind fun v12 => (xRi h10 0 v12 (x2 + (1 : Int32))).bind fun v13 => (xWi h10 v11 x2 v13).bind fun h14 => (xGr h14 x0 12 29).bind fun v15 => (xGr h14 x0 12 29).bind fun v16 => (xRi h14 0 v16 (x2 + (1 : Int32))).bind fun v17 => (xWi h14 v15 x2 v17).bind fun h18 => xlet (x2 + (1 : Int32)) fun v19 => (xden S mX13_removeMask 39 [(0, .ref x0), (2, .int v19)] [] h18))) (xden S mX13_removeMask 39 [(0, .ref x0), (2, .int x2)] [] h) := by
  refine l_loc dX13_removeMask_39 rfl rfl ?_
  refine l_loc dX13_removeMask_40 rfl rfl ?_
  refine l_gi dX13_removeMask_41 fl_12_337 (fun v1 => ?_)
  refine l_cge (t := 109) dX13_removeMask_44 rfl ?_ ?_
  · refine l_loc dX13_removeMask_109 rfl rfl ?_
    refine l_gi dX13_removeMask_110 fl_12_337 (fun v2 => ?_)
    exact l_iretn dX13_removeMask_113 rfl (by rfl)
  · refine l_loc dX13_removeMask_47 rfl rfl ?_
    refine l_gr dX13_removeMask_48 fl_12_62 (fun v3 => ?_)
    refine l_loc dX13_removeMask_51 rfl rfl ?_
    refine l_loc dX13_removeMask_52 rfl rfl ?_
    refine l_gr dX13_removeMask_53 fl_12_62 (fun v4 => ?_)
    refine l_loc dX13_removeMask_56 rfl rfl ?_
    refine l_ic dX13_removeMask_57 kI_1 ?_
    refine l_pure dX13_removeMask_58 rfl rfl ?_
    refine l_ri dX13_removeMask_59 (fun v5 => ?_)
    refine l_wi dX13_removeMask_60 (fun h6 => ?_)
    refine l_loc dX13_removeMask_61 rfl rfl ?_
    refine l_gr dX13_removeMask_62 fl_12_65 (fun v7 => ?_)
    refine l_loc dX13_removeMask_65 rfl rfl ?_
    refine l_loc dX13_removeMask_66 rfl rfl ?_
    refine l_gr dX13_removeMask_67 fl_12_65 (fun v8 => ?_)
    refine l_loc dX13_removeMask_70 rfl rfl ?_
    refine l_ic dX13_removeMask_71 kI_1 ?_
    refine l_pure dX13_removeMask_72 rfl rfl ?_
    refine l_ri dX13_removeMask_73 (fun v9 => ?_)
    refine l_wi dX13_removeMask_74 (fun h10 => ?_)
    refine l_loc dX13_removeMask_75 rfl rfl ?_
    refine l_gr dX13_removeMask_76 fl_12_68 (fun v11 => ?_)
    refine l_loc dX13_removeMask_79 rfl rfl ?_
    refine l_loc dX13_removeMask_80 rfl rfl ?_
    refine l_gr dX13_removeMask_81 fl_12_68 (fun v12 => ?_)
    refine l_loc dX13_removeMask_84 rfl rfl ?_
    refine l_ic dX13_removeMask_85 kI_1 ?_
    refine l_pure dX13_removeMask_86 rfl rfl ?_
    refine l_ri dX13_removeMask_87 (fun v13 => ?_)
    refine l_wi dX13_removeMask_88 (fun h14 => ?_)
    refine l_loc dX13_removeMask_89 rfl rfl ?_
    refine l_gr dX13_removeMask_90 fl_12_71 (fun v15 => ?_)
    refine l_loc dX13_removeMask_93 rfl rfl ?_
    refine l_loc dX13_removeMask_94 rfl rfl ?_
    refine l_gr dX13_removeMask_95 fl_12_71 (fun v16 => ?_)
    refine l_loc dX13_removeMask_98 rfl rfl ?_
    refine l_ic dX13_removeMask_99 kI_1 ?_
    refine l_pure dX13_removeMask_100 rfl rfl ?_
    refine l_ri dX13_removeMask_101 (fun v17 => ?_)
    refine l_wi dX13_removeMask_102 (fun h18 => ?_)
    refine l_incl (al1 := fun v19 => [(2, .int v19), (0, .ref x0)]) dX13_removeMask_103 rfl kI_1 rfl (fun _ => rfl) (fun v19 => ?_)
    refine l_goto (t := 39) dX13_removeMask_106 rfl ?_
    exact l_al rfl ⟨rfl, rfl, trivial⟩
set_option maxRecDepth 16000 in
theorem w_X13_compare (S : xS) (x0 : Nat) (h : xH) : xle ((xP false 12 h x0 12 2 (.int (0 : Int32))).bind fun h1 => (xden S mX13_compare 7 [(0, .ref x0), (1, .int (0 : Int32))] [] h1)) (xM S mX13_compare [.ref x0] h) := by
  show xle _ (xden S mX13_compare 0 [(0, .ref x0)] [] h)
  refine l_loc dX13_compare_0 rfl rfl ?_
  refine l_ic dX13_compare_1 kI_0 ?_
  refine l_pf dX13_compare_2 fl_12_186 (ini := false) nm_mX13_compare (fun h1 => ?_)
  refine l_ic dX13_compare_5 kI_0 ?_
  refine l_loc (al1 := [(1, .int (0 : Int32)), (0, .ref x0)]) dX13_compare_6 rfl rfl ?_
  exact l_al rfl ⟨rfl, rfl, trivial⟩
set_option maxRecDepth 16000 in
theorem w_X13_compare_7 (S : xS) (x0 : Nat) (x1 : Int32) (h : xH) : xle (if (4096 : Int32) ≤ x1 then ((xGr h x0 12 36).bind fun v1 => (xGr h x0 12 14).bind fun v2 => (xRi h 0 v2 (3 : Int32)).bind fun v3 => if xOb h x0 12 = true then xqI (xM S mX13_cleans [.ref x0, .ref v1, .int v3] h) xth fun v6 h5 => (xGr h5 x0 12 37).bind fun v7 => (xGr h5 x0 12 14).bind fun v8 => (xRi h5 0 v8 (3 : Int32)).bind fun v9 => if xOb h5 x0 12 = true then xqI (xM S mX13_cleans [.ref x0, .ref v7, .int v9] h5) xth fun v12 h11 => if xOb h11 x0 12 = true then xqV (xM S mX13_registers [.ref x0] h11) xth fun h14 => if xOb h14 x0 12 = true then xqV (xM S mX13_findsDifferences [.ref x0] h14) xth fun h17 => if xOb h17 x0 12 = true then xqV (xM S mX13_findsRegions [.ref x0] h17) xth fun h20 => if xOb h20 x0 12 = true then xqV (xM S mX13_findsParts [.ref x0] h20) xth fun h23 => if xOb h23 x0 12 = true then xqV (xM S mX13_findsChanges [.ref x0] h23) xth fun h26 => if xOb h26 x0 12 = true then xqV (xM S mX13_reports [.ref x0] h26) xth fun h29 => (xP false 12 h29 x0 12 35 (.int (1 : Int32))).bind fun h31 => (xGi h31 x0 12 79).bind fun v32 => some (.inl (some (.int v32)), h31, 0, 0) else none else none else none else none else none else none else none else none) else ((xGr h x0 12 36).bind fun v33 => (xGr h x0 12 3).bind fun v34 => (xRi h 2 v34 x1).bind fun v35 => (xWz h v33 x1 v35).bind fun h36 => (xGr h36 x0 12 37).bind fun v37 => (xGr h36 x0 12 3).bind fun v38 => (xRi h36 2 v38 ((4096 : Int32) + x1)).bind fun v39 => (xWz h36 v37 x1 v39).bind fun h40 => xlet (x1 + (1 : Int32)) fun v41 => (xden S mX13_compare 7 [(0, .ref x0), (1, .int v41)] [] h40))) (xden S mX13_compare 7 [(0, .ref x0), (1, .int x1)] [] h) := by
  refine l_loc dX13_compare_7 rfl rfl ?_
  refine l_si dX13_compare_8 kS_4096 ?_
  refine l_cge (t := 48) dX13_compare_11 rfl ?_ ?_
  · refine l_loc dX13_compare_48 rfl rfl ?_
    refine l_loc dX13_compare_49 rfl rfl ?_
    refine l_gr dX13_compare_50 fl_12_83 (fun v1 => ?_)
    refine l_loc dX13_compare_53 rfl rfl ?_
    refine l_gr dX13_compare_54 fl_12_33 (fun v2 => ?_)
    refine l_ic dX13_compare_57 kI_3 ?_
    refine l_ri dX13_compare_58 (fun v3 => ?_)
    refine l_ob fun q4 => ?_
    refine l_cI dX13_compare_59 rfl rfl rfl (l_xv cl_12_246 ko_mX13_cleans rfl rfl rfl q4) rfl rfl nm_mX13_cleans (xhE_th rfl) (fun v6 h5 => ?_)
    refine l_pure dX13_compare_62 rfl rfl ?_
    refine l_loc dX13_compare_63 rfl rfl ?_
    refine l_loc dX13_compare_64 rfl rfl ?_
    refine l_gr dX13_compare_65 fl_12_86 (fun v7 => ?_)
    refine l_loc dX13_compare_68 rfl rfl ?_
    refine l_gr dX13_compare_69 fl_12_33 (fun v8 => ?_)
    refine l_ic dX13_compare_72 kI_3 ?_
    refine l_ri dX13_compare_73 (fun v9 => ?_)
    refine l_ob fun q10 => ?_
    refine l_cI dX13_compare_74 rfl rfl rfl (l_xv cl_12_246 ko_mX13_cleans rfl rfl rfl q10) rfl rfl nm_mX13_cleans (xhE_th rfl) (fun v12 h11 => ?_)
    refine l_pure dX13_compare_77 rfl rfl ?_
    refine l_loc dX13_compare_78 rfl rfl ?_
    refine l_ob fun q13 => ?_
    refine l_cV dX13_compare_79 rfl rfl rfl (l_xv cl_12_484 ko_mX13_registers rfl rfl rfl q13) rfl rfl nm_mX13_registers (xhE_th rfl) (fun h14 => ?_)
    refine l_loc dX13_compare_82 rfl rfl ?_
    refine l_ob fun q16 => ?_
    refine l_cV dX13_compare_83 rfl rfl rfl (l_xv cl_12_487 ko_mX13_findsDifferences rfl rfl rfl q16) rfl rfl nm_mX13_findsDifferences (xhE_th rfl) (fun h17 => ?_)
    refine l_loc dX13_compare_86 rfl rfl ?_
    refine l_ob fun q19 => ?_
    refine l_cV dX13_compare_87 rfl rfl rfl (l_xv cl_12_490 ko_mX13_findsRegions rfl rfl rfl q19) rfl rfl nm_mX13_findsRegions (xhE_th rfl) (fun h20 => ?_)
    refine l_loc dX13_compare_90 rfl rfl ?_
    refine l_ob fun q22 => ?_
    refine l_cV dX13_compare_91 rfl rfl rfl (l_xv cl_12_493 ko_mX13_findsParts rfl rfl rfl q22) rfl rfl nm_mX13_findsParts (xhE_th rfl) (fun h23 => ?_)
    refine l_loc dX13_compare_94 rfl rfl ?_
    refine l_ob fun q25 => ?_
    refine l_cV dX13_compare_95 rfl rfl rfl (l_xv cl_12_496 ko_mX13_findsChanges rfl rfl rfl q25) rfl rfl nm_mX13_findsChanges (xhE_th rfl) (fun h26 => ?_)
    refine l_loc dX13_compare_98 rfl rfl ?_
    refine l_ob fun q28 => ?_
    refine l_cV dX13_compare_99 rfl rfl rfl (l_xv cl_12_499 ko_mX13_reports rfl rfl rfl q28) rfl rfl nm_mX13_reports (xhE_th rfl) (fun h29 => ?_)
    refine l_loc dX13_compare_102 rfl rfl ?_
    refine l_ic dX13_compare_103 kI_1 ?_
    refine l_pf dX13_compare_104 fl_12_502 (ini := false) nm_mX13_compare (fun h31 => ?_)
    refine l_loc dX13_compare_107 rfl rfl ?_
    refine l_gi dX13_compare_108 fl_12_467 (fun v32 => ?_)
    exact l_iretn dX13_compare_111 rfl (by rfl)
  · refine l_loc dX13_compare_14 rfl rfl ?_
    refine l_gr dX13_compare_15 fl_12_83 (fun v33 => ?_)
    refine l_loc dX13_compare_18 rfl rfl ?_
    refine l_loc dX13_compare_19 rfl rfl ?_
    refine l_gr dX13_compare_20 fl_12_7 (fun v34 => ?_)
    refine l_loc dX13_compare_23 rfl rfl ?_
    refine l_rz dX13_compare_24 (fun v35 => ?_)
    refine l_wz dX13_compare_25 (fun h36 => ?_)
    refine l_loc dX13_compare_26 rfl rfl ?_
    refine l_gr dX13_compare_27 fl_12_86 (fun v37 => ?_)
    refine l_loc dX13_compare_30 rfl rfl ?_
    refine l_loc dX13_compare_31 rfl rfl ?_
    refine l_gr dX13_compare_32 fl_12_7 (fun v38 => ?_)
    refine l_si dX13_compare_35 kS_4096 ?_
    refine l_loc dX13_compare_38 rfl rfl ?_
    refine l_pure dX13_compare_39 rfl rfl ?_
    refine l_rz dX13_compare_40 (fun v39 => ?_)
    refine l_wz dX13_compare_41 (fun h40 => ?_)
    refine l_incl (al1 := fun v41 => [(1, .int v41), (0, .ref x0)]) dX13_compare_42 rfl kI_1 rfl (fun _ => rfl) (fun v41 => ?_)
    refine l_goto (t := 7) dX13_compare_45 rfl ?_
    exact l_al rfl ⟨rfl, rfl, trivial⟩
set_option maxRecDepth 16000 in
theorem w_X13_registers (S : xS) (x0 : Nat) (h : xH) : xle ((xP false 12 h x0 12 45 (.int (-1 : Int32))).bind fun h1 => (xden S mX13_registers 7 [(0, .ref x0), (1, .int (0 : Int32))] [] h1)) (xM S mX13_registers [.ref x0] h) := by
  show xle _ (xden S mX13_registers 0 [(0, .ref x0)] [] h)
  refine l_loc dX13_registers_0 rfl rfl ?_
  refine l_ic dX13_registers_1 kI_m1 ?_
  refine l_pf dX13_registers_2 fl_12_365 (ini := false) nm_mX13_registers (fun h1 => ?_)
  refine l_ic dX13_registers_5 kI_0 ?_
  refine l_loc (al1 := [(1, .int (0 : Int32)), (0, .ref x0)]) dX13_registers_6 rfl rfl ?_
  exact l_al rfl ⟨rfl, rfl, trivial⟩
set_option maxRecDepth 16000 in
theorem w_X13_registers_7 (S : xS) (x0 : Nat) (x1 : Int32) (h : xH) : xle ((xGr h x0 12 14).bind fun v1 => (xRi h 0 v1 (6 : Int32)).bind fun v2 => if v2 < x1 then (xden S mX13_registers 179 [(0, .ref x0), (1, .int (0 : Int32))] [] h) else (xden S mX13_registers 20 [(0, .ref x0), (1, .int x1), (2, .int (0 : Int32))] [] h)) (xden S mX13_registers 7 [(0, .ref x0), (1, .int x1)] [] h) := by
  refine l_loc dX13_registers_7 rfl rfl ?_
  refine l_loc dX13_registers_8 rfl rfl ?_
  refine l_gr dX13_registers_9 fl_12_33 (fun v1 => ?_)
  refine l_bi dX13_registers_12 kB_6 ?_
  refine l_ri dX13_registers_14 (fun v2 => ?_)
  refine l_cgt (t := 177) dX13_registers_15 rfl ?_ ?_
  · refine l_ic dX13_registers_177 kI_0 ?_
    refine l_loc (al1 := [(1, .int (0 : Int32)), (0, .ref x0)]) dX13_registers_178 rfl rfl ?_
    exact l_al rfl ⟨rfl, rfl, trivial⟩
  · refine l_ic dX13_registers_18 kI_0 ?_
    refine l_loc (al1 := [(2, .int (0 : Int32)), (0, .ref x0), (1, .int x1)]) dX13_registers_19 rfl rfl ?_
    exact l_al rfl ⟨rfl, rfl, rfl, trivial⟩
set_option maxRecDepth 16000 in
theorem w_X13_registers_179 (S : xS) (x0 : Nat) (x1 : Int32) (h : xH) : xle (if (4096 : Int32) ≤ x1 then (some (.inl none, h, 0, 0)) else ((xGi h x0 12 41).bind fun v1 => xlet ((x1 - x1 / (64 : Int32) * (64 : Int32)) + v1) fun v2 => (xGi h x0 12 42).bind fun v3 => xlet ((x1 / (64 : Int32)) + v3) fun v4 => (xGr h x0 12 39).bind fun v5 => if xOb h x0 12 = true then xqI (xM S mX13_isOn [.ref x0, .long (x1 - x1 / (64 : Int32) * (64 : Int32)).toInt64, .long (x1 / (64 : Int32)).toInt64] h) xth fun v8 h7 => if v8 = 0 then ((xWz h7 v5 x1 (0 : Int32)).bind fun h9 => xlet (x1 + (1 : Int32)) fun v10 => (xden S mX13_registers 179 [(0, .ref x0), (1, .int v10)] [] h9)) else (if xOb h7 x0 12 = true then xqI (xM S mX13_isOn [.ref x0, .long (v2.toInt64), .long (v4.toInt64)] h7) xth fun v13 h12 => if v13 = 0 then ((xWz h12 v5 x1 (0 : Int32)).bind fun h14 => xlet (x1 + (1 : Int32)) fun v15 => (xden S mX13_registers 179 [(0, .ref x0), (1, .int v15)] [] h14)) else ((xGr h12 x0 12 40).bind fun v16 => (xRi h12 2 v16 (((64 : Int32) * v4) + v2)).bind fun v17 => if v17 = 0 then ((xWz h12 v5 x1 (0 : Int32)).bind fun h18 => xlet (x1 + (1 : Int32)) fun v19 => (xden S mX13_registers 179 [(0, .ref x0), (1, .int v19)] [] h18)) else ((xWz h12 v5 x1 (1 : Int32)).bind fun h20 => xlet (x1 + (1 : Int32)) fun v21 => (xden S mX13_registers 179 [(0, .ref x0), (1, .int v21)] [] h20))) else none) else none)) (xden S mX13_registers 179 [(0, .ref x0), (1, .int x1)] [] h) := by
  refine l_loc dX13_registers_179 rfl rfl ?_
  refine l_si dX13_registers_180 kS_4096 ?_
  refine l_cge (t := 265) dX13_registers_183 rfl ?_ ?_
  · exact l_end dX13_registers_265 rfl rfl
  · refine l_loc dX13_registers_186 rfl rfl ?_
    refine l_bi dX13_registers_187 kB_64 ?_
    refine l_remn dX13_registers_189 (by decide) ?_
    refine l_loc dX13_registers_190 rfl rfl ?_
    refine l_gi dX13_registers_191 fl_12_378 (fun v1 => ?_)
    refine l_pure dX13_registers_194 rfl rfl ?_
    refine l_isl (al1 := fun v2 => [(2, .int v2), (0, .ref x0), (1, .int x1)]) dX13_registers_195 rfl (fun _ => rfl) (fun v2 => ?_)
    refine l_loc dX13_registers_196 rfl rfl ?_
    refine l_bi dX13_registers_197 kB_64 ?_
    refine l_divn dX13_registers_199 (by decide) ?_
    refine l_loc dX13_registers_200 rfl rfl ?_
    refine l_gi dX13_registers_201 fl_12_381 (fun v3 => ?_)
    refine l_pure dX13_registers_204 rfl rfl ?_
    refine l_isl (al1 := fun v4 => [(3, .int v4), (2, .int v2), (0, .ref x0), (1, .int x1)]) dX13_registers_205 rfl (fun _ => rfl) (fun v4 => ?_)
    refine l_loc dX13_registers_206 rfl rfl ?_
    refine l_gr dX13_registers_207 fl_12_92 (fun v5 => ?_)
    refine l_loc dX13_registers_210 rfl rfl ?_
    refine l_loc dX13_registers_211 rfl rfl ?_
    refine l_loc dX13_registers_212 rfl rfl ?_
    refine l_bi dX13_registers_213 kB_64 ?_
    refine l_remn dX13_registers_215 (by decide) ?_
    refine l_pure dX13_registers_216 rfl rfl ?_
    refine l_loc dX13_registers_217 rfl rfl ?_
    refine l_bi dX13_registers_218 kB_64 ?_
    refine l_divn dX13_registers_220 (by decide) ?_
    refine l_pure dX13_registers_221 rfl rfl ?_
    refine l_ob fun q6 => ?_
    refine l_cI dX13_registers_222 rfl rfl rfl (l_xv cl_12_195 ko_mX13_isOn rfl rfl rfl q6) rfl rfl nm_mX13_isOn (xhE_th rfl) (fun v8 h7 => ?_)
    refine l_ieq (t := 257) dX13_registers_225 rfl ?_ ?_
    · refine l_ic dX13_registers_257 kI_0 ?_
      refine l_wz dX13_registers_258 (fun h9 => ?_)
      refine l_incl (al1 := fun v10 => [(1, .int v10), (3, .int v4), (2, .int v2), (0, .ref x0)]) dX13_registers_259 rfl kI_1 rfl (fun _ => rfl) (fun v10 => ?_)
      refine l_goto (t := 179) dX13_registers_262 rfl ?_
      exact l_al rfl ⟨rfl, rfl, trivial⟩
    · refine l_loc dX13_registers_228 rfl rfl ?_
      refine l_loc dX13_registers_229 rfl rfl ?_
      refine l_pure dX13_registers_230 rfl rfl ?_
      refine l_loc dX13_registers_231 rfl rfl ?_
      refine l_pure dX13_registers_232 rfl rfl ?_
      refine l_ob fun q11 => ?_
      refine l_cI dX13_registers_233 rfl rfl rfl (l_xv cl_12_195 ko_mX13_isOn rfl rfl rfl q11) rfl rfl nm_mX13_isOn (xhE_th rfl) (fun v13 h12 => ?_)
      refine l_ieq (t := 257) dX13_registers_236 rfl ?_ ?_
      · refine l_ic dX13_registers_257 kI_0 ?_
        refine l_wz dX13_registers_258 (fun h14 => ?_)
        refine l_incl (al1 := fun v15 => [(1, .int v15), (3, .int v4), (2, .int v2), (0, .ref x0)]) dX13_registers_259 rfl kI_1 rfl (fun _ => rfl) (fun v15 => ?_)
        refine l_goto (t := 179) dX13_registers_262 rfl ?_
        exact l_al rfl ⟨rfl, rfl, trivial⟩
      · refine l_loc dX13_registers_239 rfl rfl ?_
        refine l_gr dX13_registers_240 fl_12_95 (fun v16 => ?_)
        refine l_bi dX13_registers_243 kB_64 ?_
        refine l_loc dX13_registers_245 rfl rfl ?_
        refine l_pure dX13_registers_246 rfl rfl ?_
        refine l_loc dX13_registers_247 rfl rfl ?_
        refine l_pure dX13_registers_248 rfl rfl ?_
        refine l_rz dX13_registers_249 (fun v17 => ?_)
        refine l_ieq (t := 257) dX13_registers_250 rfl ?_ ?_
        · refine l_ic dX13_registers_257 kI_0 ?_
          refine l_wz dX13_registers_258 (fun h18 => ?_)
          refine l_incl (al1 := fun v19 => [(1, .int v19), (3, .int v4), (2, .int v2), (0, .ref x0)]) dX13_registers_259 rfl kI_1 rfl (fun _ => rfl) (fun v19 => ?_)
          refine l_goto (t := 179) dX13_registers_262 rfl ?_
          exact l_al rfl ⟨rfl, rfl, trivial⟩
        · refine l_ic dX13_registers_253 kI_1 ?_
          refine l_goto (t := 258) dX13_registers_254 rfl ?_
          refine l_wz dX13_registers_258 (fun h20 => ?_)
          refine l_incl (al1 := fun v21 => [(1, .int v21), (3, .int v4), (2, .int v2), (0, .ref x0)]) dX13_registers_259 rfl kI_1 rfl (fun _ => rfl) (fun v21 => ?_)
          refine l_goto (t := 179) dX13_registers_262 rfl ?_
          exact l_al rfl ⟨rfl, rfl, trivial⟩
set_option maxRecDepth 16000 in
theorem w_X13_registers_20 (S : xS) (x0 : Nat) (x1 : Int32) (x2 : Int32) (h : xH) : xle ((xGr h x0 12 14).bind fun v1 => (xRi h 0 v1 (5 : Int32)).bind fun v2 => if ((2 : Int32) * v2) < x2 then (xlet (x1 + (1 : Int32)) fun v3 => (xden S mX13_registers 7 [(0, .ref x0), (1, .int v3)] [] h)) else (if ¬ (x2 - x2 / (2 : Int32) * (2 : Int32)) = (1 : Int32) then (xlet (x2 / (2 : Int32)) fun v4 => if ¬ x1 = (1 : Int32) then (if xOb h x0 12 = true then xqV (xM S mX13_skews [.ref x0, .int (0 : Int32), .int v4] h) xth fun h6 => if xOb h6 x0 12 = true then xqV (xM S mX13_seeksCoarse [.ref x0] h6) xth fun h9 => if xOb h9 x0 12 = true then xqI (xM S mX13_seeksFine [.ref x0] h9) xth fun v13 h12 => (xGi h12 x0 12 45).bind fun v14 => if v14 < 0 then (xden S mX13_registers 93 [(0, .ref x0), (1, .int x1), (2, .int x2), (3, .int v4), (4, .int v13)] [] h12) else ((xGi h12 x0 12 45).bind fun v15 => if v15 ≤ v13 then (xlet (x2 + (1 : Int32)) fun v16 => (xden S mX13_registers 20 [(0, .ref x0), (1, .int x1), (2, .int v16)] [] h12)) else (xden S mX13_registers 93 [(0, .ref x0), (1, .int x1), (2, .int x2), (3, .int v4), (4, .int v13)] [] h12)) else none else none else none) else (if xOb h x0 12 = true then xqV (xM S mX13_skews [.ref x0, .int (1 : Int32), .int v4] h) xth fun h18 => if xOb h18 x0 12 = true then xqV (xM S mX13_seeksCoarse [.ref x0] h18) xth fun h21 => if xOb h21 x0 12 = true then xqI (xM S mX13_seeksFine [.ref x0] h21) xth fun v25 h24 => (xGi h24 x0 12 45).bind fun v26 => if v26 < 0 then (xden S mX13_registers 93 [(0, .ref x0), (1, .int x1), (2, .int x2), (3, .int v4), (4, .int v25)] [] h24) else ((xGi h24 x0 12 45).bind fun v27 => if v27 ≤ v25 then (xlet (x2 + (1 : Int32)) fun v28 => (xden S mX13_registers 20 [(0, .ref x0), (1, .int x1), (2, .int v28)] [] h24)) else (xden S mX13_registers 93 [(0, .ref x0), (1, .int x1), (2, .int x2), (3, .int v4), (4, .int v25)] [] h24)) else none else none else none)) else (xlet ((-(x2 + (1 : Int32))) / (2 : Int32)) fun v29 => if ¬ x1 = (1 : Int32) then (if xOb h x0 12 = true then xqV (xM S mX13_skews [.ref x0, .int (0 : Int32), .int v29] h) xth fun h31 => if xOb h31 x0 12 = true then xqV (xM S mX13_seeksCoarse [.ref x0] h31) xth fun h34 => if xOb h34 x0 12 = true then xqI (xM S mX13_seeksFine [.ref x0] h34) xth fun v38 h37 => (xGi h37 x0 12 45).bind fun v39 => if v39 < 0 then (xden S mX13_registers 93 [(0, .ref x0), (1, .int x1), (2, .int x2), (3, .int v29), (4, .int v38)] [] h37) else ((xGi h37 x0 12 45).bind fun v40 => if v40 ≤ v38 then (xlet (x2 + (1 : Int32)) fun v41 => (xden S mX13_registers 20 [(0, .ref x0), (1, .int x1), (2, .int v41)] [] h37)) else (xden S mX13_registers 93 [(0, .ref x0), (1, .int x1), (2, .int x2), (3, .int v29), (4, .int v38)] [] h37)) else none else none else none) else (if xOb h x0 12 = true then xqV (xM S mX13_skews [.ref x0, .int (1 : Int32), .int v29] h) xth fun h43 => if xOb h43 x0 12 = true then xqV (xM S mX13_seeksCoarse [.ref x0] h43) xth fun h46 => if xOb h46 x0 12 = true then xqI (xM S mX13_seeksFine [.ref x0] h46) xth fun v50 h49 => (xGi h49 x0 12 45).bind fun v51 => if v51 < 0 then (xden S mX13_registers 93 [(0, .ref x0), (1, .int x1), (2, .int x2), (3, .int v29), (4, .int v50)] [] h49) else ((xGi h49 x0 12 45).bind fun v52 => if v52 ≤ v50 then (xlet (x2 + (1 : Int32)) fun v53 => (xden S mX13_registers 20 [(0, .ref x0), (1, .int x1), (2, .int v53)] [] h49)) else (xden S mX13_registers 93 [(0, .ref x0), (1, .int x1), (2, .int x2), (3, .int v29), (4, .int v50)] [] h49)) else none else none else none)))) (xden S mX13_registers 20 [(0, .ref x0), (1, .int x1), (2, .int x2)] [] h) := by
  refine l_loc dX13_registers_20 rfl rfl ?_
  refine l_ic dX13_registers_21 kI_2 ?_
  refine l_loc dX13_registers_22 rfl rfl ?_
  refine l_gr dX13_registers_23 fl_12_33 (fun v1 => ?_)
  refine l_ic dX13_registers_26 kI_5 ?_
  refine l_ri dX13_registers_27 (fun v2 => ?_)
  refine l_pure dX13_registers_28 rfl rfl ?_
  refine l_cgt (t := 171) dX13_registers_29 rfl ?_ ?_
  · refine l_incl (al1 := fun v3 => [(1, .int v3), (0, .ref x0), (2, .int x2)]) dX13_registers_171 rfl kI_1 rfl (fun _ => rfl) (fun v3 => ?_)
    refine l_goto (t := 7) dX13_registers_174 rfl ?_
    exact l_al rfl ⟨rfl, rfl, trivial⟩
  · refine l_loc dX13_registers_32 rfl rfl ?_
    refine l_ic dX13_registers_33 kI_2 ?_
    refine l_remn dX13_registers_34 (by decide) ?_
    refine l_ic dX13_registers_35 kI_1 ?_
    refine l_cne (t := 48) dX13_registers_36 rfl ?_ ?_
    · refine l_loc dX13_registers_48 rfl rfl ?_
      refine l_ic dX13_registers_49 kI_2 ?_
      refine l_divn dX13_registers_50 (by decide) ?_
      refine l_isl (al1 := fun v4 => [(3, .int v4), (0, .ref x0), (1, .int x1), (2, .int x2)]) dX13_registers_51 rfl (fun _ => rfl) (fun v4 => ?_)
      refine l_loc dX13_registers_52 rfl rfl ?_
      refine l_loc dX13_registers_53 rfl rfl ?_
      refine l_ic dX13_registers_54 kI_1 ?_
      refine l_cne (t := 62) dX13_registers_55 rfl ?_ ?_
      · refine l_ic dX13_registers_62 kI_0 ?_
        refine l_loc dX13_registers_63 rfl rfl ?_
        refine l_ob fun q5 => ?_
        refine l_cV dX13_registers_64 rfl rfl rfl (l_xv cl_12_368 ko_mX13_skews rfl rfl rfl q5) rfl rfl nm_mX13_skews (xhE_th rfl) (fun h6 => ?_)
        refine l_loc dX13_registers_67 rfl rfl ?_
        refine l_ob fun q8 => ?_
        refine l_cV dX13_registers_68 rfl rfl rfl (l_xv cl_12_372 ko_mX13_seeksCoarse rfl rfl rfl q8) rfl rfl nm_mX13_seeksCoarse (xhE_th rfl) (fun h9 => ?_)
        refine l_loc dX13_registers_71 rfl rfl ?_
        refine l_ob fun q11 => ?_
        refine l_cI dX13_registers_72 rfl rfl rfl (l_xv cl_12_375 ko_mX13_seeksFine rfl rfl rfl q11) rfl rfl nm_mX13_seeksFine (xhE_th rfl) (fun v13 h12 => ?_)
        refine l_loc (al1 := [(4, .int v13), (3, .int v4), (0, .ref x0), (1, .int x1), (2, .int x2)]) dX13_registers_75 rfl rfl ?_
        refine l_loc dX13_registers_77 rfl rfl ?_
        refine l_gi dX13_registers_78 fl_12_365 (fun v14 => ?_)
        refine l_ilt (t := 93) dX13_registers_81 rfl ?_ ?_
        · exact l_al rfl ⟨rfl, rfl, rfl, rfl, rfl, trivial⟩
        · refine l_loc dX13_registers_84 rfl rfl ?_
          refine l_loc dX13_registers_86 rfl rfl ?_
          refine l_gi dX13_registers_87 fl_12_365 (fun v15 => ?_)
          refine l_cge (t := 165) dX13_registers_90 rfl ?_ ?_
          · refine l_incl (al1 := fun v16 => [(2, .int v16), (4, .int v13), (3, .int v4), (0, .ref x0), (1, .int x1)]) dX13_registers_165 rfl kI_1 rfl (fun _ => rfl) (fun v16 => ?_)
            refine l_goto (t := 20) dX13_registers_168 rfl ?_
            exact l_al rfl ⟨rfl, rfl, rfl, trivial⟩
          · exact l_al rfl ⟨rfl, rfl, rfl, rfl, rfl, trivial⟩
      · refine l_ic dX13_registers_58 kI_1 ?_
        refine l_goto (t := 63) dX13_registers_59 rfl ?_
        refine l_loc dX13_registers_63 rfl rfl ?_
        refine l_ob fun q17 => ?_
        refine l_cV dX13_registers_64 rfl rfl rfl (l_xv cl_12_368 ko_mX13_skews rfl rfl rfl q17) rfl rfl nm_mX13_skews (xhE_th rfl) (fun h18 => ?_)
        refine l_loc dX13_registers_67 rfl rfl ?_
        refine l_ob fun q20 => ?_
        refine l_cV dX13_registers_68 rfl rfl rfl (l_xv cl_12_372 ko_mX13_seeksCoarse rfl rfl rfl q20) rfl rfl nm_mX13_seeksCoarse (xhE_th rfl) (fun h21 => ?_)
        refine l_loc dX13_registers_71 rfl rfl ?_
        refine l_ob fun q23 => ?_
        refine l_cI dX13_registers_72 rfl rfl rfl (l_xv cl_12_375 ko_mX13_seeksFine rfl rfl rfl q23) rfl rfl nm_mX13_seeksFine (xhE_th rfl) (fun v25 h24 => ?_)
        refine l_loc (al1 := [(4, .int v25), (3, .int v4), (0, .ref x0), (1, .int x1), (2, .int x2)]) dX13_registers_75 rfl rfl ?_
        refine l_loc dX13_registers_77 rfl rfl ?_
        refine l_gi dX13_registers_78 fl_12_365 (fun v26 => ?_)
        refine l_ilt (t := 93) dX13_registers_81 rfl ?_ ?_
        · exact l_al rfl ⟨rfl, rfl, rfl, rfl, rfl, trivial⟩
        · refine l_loc dX13_registers_84 rfl rfl ?_
          refine l_loc dX13_registers_86 rfl rfl ?_
          refine l_gi dX13_registers_87 fl_12_365 (fun v27 => ?_)
          refine l_cge (t := 165) dX13_registers_90 rfl ?_ ?_
          · refine l_incl (al1 := fun v28 => [(2, .int v28), (4, .int v25), (3, .int v4), (0, .ref x0), (1, .int x1)]) dX13_registers_165 rfl kI_1 rfl (fun _ => rfl) (fun v28 => ?_)
            refine l_goto (t := 20) dX13_registers_168 rfl ?_
            exact l_al rfl ⟨rfl, rfl, rfl, trivial⟩
          · exact l_al rfl ⟨rfl, rfl, rfl, rfl, rfl, trivial⟩
    · refine l_loc dX13_registers_39 rfl rfl ?_
      refine l_ic dX13_registers_40 kI_1 ?_
      refine l_pure dX13_registers_41 rfl rfl ?_
      refine l_pure dX13_registers_42 rfl rfl ?_
      refine l_ic dX13_registers_43 kI_2 ?_
      refine l_divn dX13_registers_44 (by decide) ?_
      refine l_goto (t := 51) dX13_registers_45 rfl ?_
      refine l_isl (al1 := fun v29 => [(3, .int v29), (0, .ref x0), (1, .int x1), (2, .int x2)]) dX13_registers_51 rfl (fun _ => rfl) (fun v29 => ?_)
      refine l_loc dX13_registers_52 rfl rfl ?_
      refine l_loc dX13_registers_53 rfl rfl ?_
      refine l_ic dX13_registers_54 kI_1 ?_
      refine l_cne (t := 62) dX13_registers_55 rfl ?_ ?_
      · refine l_ic dX13_registers_62 kI_0 ?_
        refine l_loc dX13_registers_63 rfl rfl ?_
        refine l_ob fun q30 => ?_
        refine l_cV dX13_registers_64 rfl rfl rfl (l_xv cl_12_368 ko_mX13_skews rfl rfl rfl q30) rfl rfl nm_mX13_skews (xhE_th rfl) (fun h31 => ?_)
        refine l_loc dX13_registers_67 rfl rfl ?_
        refine l_ob fun q33 => ?_
        refine l_cV dX13_registers_68 rfl rfl rfl (l_xv cl_12_372 ko_mX13_seeksCoarse rfl rfl rfl q33) rfl rfl nm_mX13_seeksCoarse (xhE_th rfl) (fun h34 => ?_)
        refine l_loc dX13_registers_71 rfl rfl ?_
        refine l_ob fun q36 => ?_
        refine l_cI dX13_registers_72 rfl rfl rfl (l_xv cl_12_375 ko_mX13_seeksFine rfl rfl rfl q36) rfl rfl nm_mX13_seeksFine (xhE_th rfl) (fun v38 h37 => ?_)
        refine l_loc (al1 := [(4, .int v38), (3, .int v29), (0, .ref x0), (1, .int x1), (2, .int x2)]) dX13_registers_75 rfl rfl ?_
        refine l_loc dX13_registers_77 rfl rfl ?_
        refine l_gi dX13_registers_78 fl_12_365 (fun v39 => ?_)
        refine l_ilt (t := 93) dX13_registers_81 rfl ?_ ?_
        · exact l_al rfl ⟨rfl, rfl, rfl, rfl, rfl, trivial⟩
        · refine l_loc dX13_registers_84 rfl rfl ?_
          refine l_loc dX13_registers_86 rfl rfl ?_
          refine l_gi dX13_registers_87 fl_12_365 (fun v40 => ?_)
          refine l_cge (t := 165) dX13_registers_90 rfl ?_ ?_
          · refine l_incl (al1 := fun v41 => [(2, .int v41), (4, .int v38), (3, .int v29), (0, .ref x0), (1, .int x1)]) dX13_registers_165 rfl kI_1 rfl (fun _ => rfl) (fun v41 => ?_)
            refine l_goto (t := 20) dX13_registers_168 rfl ?_
            exact l_al rfl ⟨rfl, rfl, rfl, trivial⟩
          · exact l_al rfl ⟨rfl, rfl, rfl, rfl, rfl, trivial⟩
      · refine l_ic dX13_registers_58 kI_1 ?_
        refine l_goto (t := 63) dX13_registers_59 rfl ?_
        refine l_loc dX13_registers_63 rfl rfl ?_
        refine l_ob fun q42 => ?_
        refine l_cV dX13_registers_64 rfl rfl rfl (l_xv cl_12_368 ko_mX13_skews rfl rfl rfl q42) rfl rfl nm_mX13_skews (xhE_th rfl) (fun h43 => ?_)
        refine l_loc dX13_registers_67 rfl rfl ?_
        refine l_ob fun q45 => ?_
        refine l_cV dX13_registers_68 rfl rfl rfl (l_xv cl_12_372 ko_mX13_seeksCoarse rfl rfl rfl q45) rfl rfl nm_mX13_seeksCoarse (xhE_th rfl) (fun h46 => ?_)
        refine l_loc dX13_registers_71 rfl rfl ?_
        refine l_ob fun q48 => ?_
        refine l_cI dX13_registers_72 rfl rfl rfl (l_xv cl_12_375 ko_mX13_seeksFine rfl rfl rfl q48) rfl rfl nm_mX13_seeksFine (xhE_th rfl) (fun v50 h49 => ?_)
        refine l_loc (al1 := [(4, .int v50), (3, .int v29), (0, .ref x0), (1, .int x1), (2, .int x2)]) dX13_registers_75 rfl rfl ?_
        refine l_loc dX13_registers_77 rfl rfl ?_
        refine l_gi dX13_registers_78 fl_12_365 (fun v51 => ?_)
        refine l_ilt (t := 93) dX13_registers_81 rfl ?_ ?_
        · exact l_al rfl ⟨rfl, rfl, rfl, rfl, rfl, trivial⟩
        · refine l_loc dX13_registers_84 rfl rfl ?_
          refine l_loc dX13_registers_86 rfl rfl ?_
          refine l_gi dX13_registers_87 fl_12_365 (fun v52 => ?_)
          refine l_cge (t := 165) dX13_registers_90 rfl ?_ ?_
          · refine l_incl (al1 := fun v53 => [(2, .int v53), (4, .int v50), (3, .int v29), (0, .ref x0), (1, .int x1)]) dX13_registers_165 rfl kI_1 rfl (fun _ => rfl) (fun v53 => ?_)
            refine l_goto (t := 20) dX13_registers_168 rfl ?_
            exact l_al rfl ⟨rfl, rfl, rfl, trivial⟩
          · exact l_al rfl ⟨rfl, rfl, rfl, rfl, rfl, trivial⟩
set_option maxRecDepth 16000 in
theorem w_X13_registers_93 (S : xS) (x0 : Nat) (x1 : Int32) (x2 : Int32) (x3 : Int32) (x4 : Int32) (h : xH) : xle ((xP false 12 h x0 12 45 (.int x4)).bind fun h1 => (xGi h1 x0 12 50).bind fun v2 => (xP false 12 h1 x0 12 41 (.int v2)).bind fun h3 => (xGi h3 x0 12 51).bind fun v4 => (xP false 12 h3 x0 12 42 (.int v4)).bind fun h5 => (xP false 12 h5 x0 12 43 (.int x3)).bind fun h6 => if ¬ x1 = (1 : Int32) then ((xP false 12 h6 x0 12 44 (.int (0 : Int32))).bind fun h7 => (xden S mX13_registers 137 [(0, .ref x0), (1, .int x1), (2, .int x2), (5, .int (0 : Int32))] [] h7)) else ((xP false 12 h6 x0 12 44 (.int (1 : Int32))).bind fun h8 => (xden S mX13_registers 137 [(0, .ref x0), (1, .int x1), (2, .int x2), (5, .int (0 : Int32))] [] h8))) (xden S mX13_registers 93 [(0, .ref x0), (1, .int x1), (2, .int x2), (3, .int x3), (4, .int x4)] [] h) := by
  refine l_loc dX13_registers_93 rfl rfl ?_
  refine l_loc dX13_registers_94 rfl rfl ?_
  refine l_pf dX13_registers_96 fl_12_365 (ini := false) nm_mX13_registers (fun h1 => ?_)
  refine l_loc dX13_registers_99 rfl rfl ?_
  refine l_loc dX13_registers_100 rfl rfl ?_
  refine l_gi dX13_registers_101 fl_12_359 (fun v2 => ?_)
  refine l_pf dX13_registers_104 fl_12_378 (ini := false) nm_mX13_registers (fun h3 => ?_)
  refine l_loc dX13_registers_107 rfl rfl ?_
  refine l_loc dX13_registers_108 rfl rfl ?_
  refine l_gi dX13_registers_109 fl_12_362 (fun v4 => ?_)
  refine l_pf dX13_registers_112 fl_12_381 (ini := false) nm_mX13_registers (fun h5 => ?_)
  refine l_loc dX13_registers_115 rfl rfl ?_
  refine l_loc dX13_registers_116 rfl rfl ?_
  refine l_pf dX13_registers_117 fl_12_384 (ini := false) nm_mX13_registers (fun h6 => ?_)
  refine l_loc dX13_registers_120 rfl rfl ?_
  refine l_loc dX13_registers_121 rfl rfl ?_
  refine l_ic dX13_registers_122 kI_1 ?_
  refine l_cne (t := 130) dX13_registers_123 rfl ?_ ?_
  · refine l_ic dX13_registers_130 kI_0 ?_
    refine l_pf dX13_registers_131 fl_12_387 (ini := false) nm_mX13_registers (fun h7 => ?_)
    refine l_ic dX13_registers_134 kI_0 ?_
    refine l_loc (al1 := [(5, .int (0 : Int32)), (0, .ref x0), (1, .int x1), (2, .int x2), (3, .int x3), (4, .int x4)]) dX13_registers_135 rfl rfl ?_
    exact l_al rfl ⟨rfl, rfl, rfl, rfl, trivial⟩
  · refine l_ic dX13_registers_126 kI_1 ?_
    refine l_goto (t := 131) dX13_registers_127 rfl ?_
    refine l_pf dX13_registers_131 fl_12_387 (ini := false) nm_mX13_registers (fun h8 => ?_)
    refine l_ic dX13_registers_134 kI_0 ?_
    refine l_loc (al1 := [(5, .int (0 : Int32)), (0, .ref x0), (1, .int x1), (2, .int x2), (3, .int x3), (4, .int x4)]) dX13_registers_135 rfl rfl ?_
    exact l_al rfl ⟨rfl, rfl, rfl, rfl, trivial⟩
set_option maxRecDepth 16000 in
theorem w_X13_registers_137 (S : xS) (x0 : Nat) (x1 : Int32) (x2 : Int32) (x5 : Int32) (h : xH) : xle (if (4096 : Int32) ≤ x5 then (xlet (x2 + (1 : Int32)) fun v1 => (xden S mX13_registers 20 [(0, .ref x0), (1, .int x1), (2, .int v1)] [] h)) else ((xGr h x0 12 40).bind fun v2 => (xGr h x0 12 38).bind fun v3 => (xRi h 2 v3 x5).bind fun v4 => (xWz h v2 x5 v4).bind fun h5 => xlet (x5 + (1 : Int32)) fun v6 => (xden S mX13_registers 137 [(0, .ref x0), (1, .int x1), (2, .int x2), (5, .int v6)] [] h5))) (xden S mX13_registers 137 [(0, .ref x0), (1, .int x1), (2, .int x2), (5, .int x5)] [] h) := by
  refine l_loc dX13_registers_137 rfl rfl ?_
  refine l_si dX13_registers_139 kS_4096 ?_
  refine l_cge (t := 165) dX13_registers_142 rfl ?_ ?_
  · refine l_incl (al1 := fun v1 => [(2, .int v1), (0, .ref x0), (1, .int x1), (5, .int x5)]) dX13_registers_165 rfl kI_1 rfl (fun _ => rfl) (fun v1 => ?_)
    refine l_goto (t := 20) dX13_registers_168 rfl ?_
    exact l_al rfl ⟨rfl, rfl, rfl, trivial⟩
  · refine l_loc dX13_registers_145 rfl rfl ?_
    refine l_gr dX13_registers_146 fl_12_95 (fun v2 => ?_)
    refine l_loc dX13_registers_149 rfl rfl ?_
    refine l_loc dX13_registers_151 rfl rfl ?_
    refine l_gr dX13_registers_152 fl_12_89 (fun v3 => ?_)
    refine l_loc dX13_registers_155 rfl rfl ?_
    refine l_rz dX13_registers_157 (fun v4 => ?_)
    refine l_wz dX13_registers_158 (fun h5 => ?_)
    refine l_incl (al1 := fun v6 => [(5, .int v6), (0, .ref x0), (1, .int x1), (2, .int x2)]) dX13_registers_159 rfl kI_1 rfl (fun _ => rfl) (fun v6 => ?_)
    refine l_goto (t := 137) dX13_registers_162 rfl ?_
    exact l_al rfl ⟨rfl, rfl, rfl, rfl, trivial⟩
set_option maxRecDepth 16000 in
theorem w_X13_skews (S : xS) (x0 : Nat) (x1 : Int32) (x2 : Int32) (h : xH) : xle (xden S mX13_skews 2 [(0, .ref x0), (1, .int x1), (2, .int x2), (3, .int (0 : Int32))] [] h) (xM S mX13_skews [.ref x0, .int x1, .int x2] h) := by
  show xle _ (xden S mX13_skews 0 [(0, .ref x0), (1, .int x1), (2, .int x2)] [] h)
  refine l_ic dX13_skews_0 kI_0 ?_
  refine l_loc (al1 := [(3, .int (0 : Int32)), (0, .ref x0), (1, .int x1), (2, .int x2)]) dX13_skews_1 rfl rfl ?_
  exact l_al rfl ⟨rfl, rfl, rfl, rfl, trivial⟩
set_option maxRecDepth 16000 in
theorem w_X13_skews_2 (S : xS) (x0 : Nat) (x1 : Int32) (x2 : Int32) (x3 : Int32) (h : xH) : xle (if (4096 : Int32) ≤ x3 then (some (.inl none, h, 0, 0)) else (xlet (x3 - x3 / (64 : Int32) * (64 : Int32)) fun v1 => xlet (x3 / (64 : Int32)) fun v2 => xlet (x2 * v2) fun v3 => if v3 < 0 then (xlet (v1 + (-(((-v3) + (15 : Int32)) / (16 : Int32)))) fun v4 => if x1 = 0 then (if x1 = 0 then (xden S mX13_skews 93 [(0, .ref x0), (1, .int x1), (2, .int x2), (3, .int x3), (4, .int v1), (5, .int v2), (8, .int v4)] [.int v2] h) else ((xGi h x0 12 1).bind fun v5 => (xden S mX13_skews 93 [(0, .ref x0), (1, .int x1), (2, .int x2), (3, .int x3), (4, .int v1), (5, .int v2), (8, .int v4)] [.int ((v5 - (1 : Int32)) - v2)] h))) else ((xGi h x0 12 0).bind fun v6 => xlet ((v6 - (1 : Int32)) - v4) fun v7 => if x1 = 0 then (xden S mX13_skews 93 [(0, .ref x0), (1, .int x1), (2, .int x2), (3, .int x3), (4, .int v1), (5, .int v2), (8, .int v7)] [.int v2] h) else ((xGi h x0 12 1).bind fun v8 => (xden S mX13_skews 93 [(0, .ref x0), (1, .int x1), (2, .int x2), (3, .int x3), (4, .int v1), (5, .int v2), (8, .int v7)] [.int ((v8 - (1 : Int32)) - v2)] h)))) else (xlet (v1 + (v3 / (16 : Int32))) fun v9 => if x1 = 0 then (if x1 = 0 then (xden S mX13_skews 93 [(0, .ref x0), (1, .int x1), (2, .int x2), (3, .int x3), (4, .int v1), (5, .int v2), (8, .int v9)] [.int v2] h) else ((xGi h x0 12 1).bind fun v10 => (xden S mX13_skews 93 [(0, .ref x0), (1, .int x1), (2, .int x2), (3, .int x3), (4, .int v1), (5, .int v2), (8, .int v9)] [.int ((v10 - (1 : Int32)) - v2)] h))) else ((xGi h x0 12 0).bind fun v11 => xlet ((v11 - (1 : Int32)) - v9) fun v12 => if x1 = 0 then (xden S mX13_skews 93 [(0, .ref x0), (1, .int x1), (2, .int x2), (3, .int x3), (4, .int v1), (5, .int v2), (8, .int v12)] [.int v2] h) else ((xGi h x0 12 1).bind fun v13 => (xden S mX13_skews 93 [(0, .ref x0), (1, .int x1), (2, .int x2), (3, .int x3), (4, .int v1), (5, .int v2), (8, .int v12)] [.int ((v13 - (1 : Int32)) - v2)] h)))))) (xden S mX13_skews 2 [(0, .ref x0), (1, .int x1), (2, .int x2), (3, .int x3)] [] h) := by
  refine l_loc dX13_skews_2 rfl rfl ?_
  refine l_si dX13_skews_3 kS_4096 ?_
  refine l_cge (t := 154) dX13_skews_6 rfl ?_ ?_
  · exact l_end dX13_skews_154 rfl rfl
  · refine l_loc dX13_skews_9 rfl rfl ?_
    refine l_bi dX13_skews_10 kB_64 ?_
    refine l_remn dX13_skews_12 (by decide) ?_
    refine l_isl (al1 := fun v1 => [(4, .int v1), (0, .ref x0), (1, .int x1), (2, .int x2), (3, .int x3)]) dX13_skews_13 rfl (fun _ => rfl) (fun v1 => ?_)
    refine l_loc dX13_skews_15 rfl rfl ?_
    refine l_bi dX13_skews_16 kB_64 ?_
    refine l_divn dX13_skews_18 (by decide) ?_
    refine l_isl (al1 := fun v2 => [(5, .int v2), (4, .int v1), (0, .ref x0), (1, .int x1), (2, .int x2), (3, .int x3)]) dX13_skews_19 rfl (fun _ => rfl) (fun v2 => ?_)
    refine l_loc dX13_skews_21 rfl rfl ?_
    refine l_loc dX13_skews_22 rfl rfl ?_
    refine l_pure dX13_skews_24 rfl rfl ?_
    refine l_isl (al1 := fun v3 => [(6, .int v3), (5, .int v2), (4, .int v1), (0, .ref x0), (1, .int x1), (2, .int x2), (3, .int x3)]) dX13_skews_25 rfl (fun _ => rfl) (fun v3 => ?_)
    refine l_loc dX13_skews_27 rfl rfl ?_
    refine l_loc dX13_skews_29 rfl rfl ?_
    refine l_ilt (t := 42) dX13_skews_31 rfl ?_ ?_
    · refine l_loc dX13_skews_42 rfl rfl ?_
      refine l_pure dX13_skews_44 rfl rfl ?_
      refine l_bi dX13_skews_45 kB_15 ?_
      refine l_pure dX13_skews_47 rfl rfl ?_
      refine l_bi dX13_skews_48 kB_16 ?_
      refine l_divn dX13_skews_50 (by decide) ?_
      refine l_pure dX13_skews_51 rfl rfl ?_
      refine l_pure dX13_skews_52 rfl rfl ?_
      refine l_isl (al1 := fun v4 => [(7, .int v4), (6, .int v3), (5, .int v2), (4, .int v1), (0, .ref x0), (1, .int x1), (2, .int x2), (3, .int x3)]) dX13_skews_53 rfl (fun _ => rfl) (fun v4 => ?_)
      refine l_loc dX13_skews_55 rfl rfl ?_
      refine l_ieq (t := 71) dX13_skews_56 rfl ?_ ?_
      · refine l_loc dX13_skews_71 rfl rfl ?_
        refine l_loc (al1 := [(8, .int v4), (7, .int v4), (6, .int v3), (5, .int v2), (4, .int v1), (0, .ref x0), (1, .int x1), (2, .int x2), (3, .int x3)]) dX13_skews_73 rfl rfl ?_
        refine l_loc dX13_skews_75 rfl rfl ?_
        refine l_ieq (t := 91) dX13_skews_76 rfl ?_ ?_
        · refine l_loc dX13_skews_91 rfl rfl ?_
          exact l_al rfl ⟨rfl, rfl, rfl, rfl, rfl, rfl, rfl, trivial⟩
        · refine l_loc dX13_skews_79 rfl rfl ?_
          refine l_gi dX13_skews_80 fl_12_183 (fun v5 => ?_)
          refine l_ic dX13_skews_83 kI_1 ?_
          refine l_pure dX13_skews_84 rfl rfl ?_
          refine l_loc dX13_skews_85 rfl rfl ?_
          refine l_pure dX13_skews_87 rfl rfl ?_
          refine l_goto (t := 93) dX13_skews_88 rfl ?_
          exact l_al rfl ⟨rfl, rfl, rfl, rfl, rfl, rfl, rfl, trivial⟩
      · refine l_loc dX13_skews_59 rfl rfl ?_
        refine l_gi dX13_skews_60 fl_12_179 (fun v6 => ?_)
        refine l_ic dX13_skews_63 kI_1 ?_
        refine l_pure dX13_skews_64 rfl rfl ?_
        refine l_loc dX13_skews_65 rfl rfl ?_
        refine l_pure dX13_skews_67 rfl rfl ?_
        refine l_goto (t := 73) dX13_skews_68 rfl ?_
        refine l_isl (al1 := fun v7 => [(8, .int v7), (7, .int v4), (6, .int v3), (5, .int v2), (4, .int v1), (0, .ref x0), (1, .int x1), (2, .int x2), (3, .int x3)]) dX13_skews_73 rfl (fun _ => rfl) (fun v7 => ?_)
        refine l_loc dX13_skews_75 rfl rfl ?_
        refine l_ieq (t := 91) dX13_skews_76 rfl ?_ ?_
        · refine l_loc dX13_skews_91 rfl rfl ?_
          exact l_al rfl ⟨rfl, rfl, rfl, rfl, rfl, rfl, rfl, trivial⟩
        · refine l_loc dX13_skews_79 rfl rfl ?_
          refine l_gi dX13_skews_80 fl_12_183 (fun v8 => ?_)
          refine l_ic dX13_skews_83 kI_1 ?_
          refine l_pure dX13_skews_84 rfl rfl ?_
          refine l_loc dX13_skews_85 rfl rfl ?_
          refine l_pure dX13_skews_87 rfl rfl ?_
          refine l_goto (t := 93) dX13_skews_88 rfl ?_
          exact l_al rfl ⟨rfl, rfl, rfl, rfl, rfl, rfl, rfl, trivial⟩
    · refine l_loc dX13_skews_34 rfl rfl ?_
      refine l_bi dX13_skews_36 kB_16 ?_
      refine l_divn dX13_skews_38 (by decide) ?_
      refine l_goto (t := 52) dX13_skews_39 rfl ?_
      refine l_pure dX13_skews_52 rfl rfl ?_
      refine l_isl (al1 := fun v9 => [(7, .int v9), (6, .int v3), (5, .int v2), (4, .int v1), (0, .ref x0), (1, .int x1), (2, .int x2), (3, .int x3)]) dX13_skews_53 rfl (fun _ => rfl) (fun v9 => ?_)
      refine l_loc dX13_skews_55 rfl rfl ?_
      refine l_ieq (t := 71) dX13_skews_56 rfl ?_ ?_
      · refine l_loc dX13_skews_71 rfl rfl ?_
        refine l_loc (al1 := [(8, .int v9), (7, .int v9), (6, .int v3), (5, .int v2), (4, .int v1), (0, .ref x0), (1, .int x1), (2, .int x2), (3, .int x3)]) dX13_skews_73 rfl rfl ?_
        refine l_loc dX13_skews_75 rfl rfl ?_
        refine l_ieq (t := 91) dX13_skews_76 rfl ?_ ?_
        · refine l_loc dX13_skews_91 rfl rfl ?_
          exact l_al rfl ⟨rfl, rfl, rfl, rfl, rfl, rfl, rfl, trivial⟩
        · refine l_loc dX13_skews_79 rfl rfl ?_
          refine l_gi dX13_skews_80 fl_12_183 (fun v10 => ?_)
          refine l_ic dX13_skews_83 kI_1 ?_
          refine l_pure dX13_skews_84 rfl rfl ?_
          refine l_loc dX13_skews_85 rfl rfl ?_
          refine l_pure dX13_skews_87 rfl rfl ?_
          refine l_goto (t := 93) dX13_skews_88 rfl ?_
          exact l_al rfl ⟨rfl, rfl, rfl, rfl, rfl, rfl, rfl, trivial⟩
      · refine l_loc dX13_skews_59 rfl rfl ?_
        refine l_gi dX13_skews_60 fl_12_179 (fun v11 => ?_)
        refine l_ic dX13_skews_63 kI_1 ?_
        refine l_pure dX13_skews_64 rfl rfl ?_
        refine l_loc dX13_skews_65 rfl rfl ?_
        refine l_pure dX13_skews_67 rfl rfl ?_
        refine l_goto (t := 73) dX13_skews_68 rfl ?_
        refine l_isl (al1 := fun v12 => [(8, .int v12), (7, .int v9), (6, .int v3), (5, .int v2), (4, .int v1), (0, .ref x0), (1, .int x1), (2, .int x2), (3, .int x3)]) dX13_skews_73 rfl (fun _ => rfl) (fun v12 => ?_)
        refine l_loc dX13_skews_75 rfl rfl ?_
        refine l_ieq (t := 91) dX13_skews_76 rfl ?_ ?_
        · refine l_loc dX13_skews_91 rfl rfl ?_
          exact l_al rfl ⟨rfl, rfl, rfl, rfl, rfl, rfl, rfl, trivial⟩
        · refine l_loc dX13_skews_79 rfl rfl ?_
          refine l_gi dX13_skews_80 fl_12_183 (fun v13 => ?_)
          refine l_ic dX13_skews_83 kI_1 ?_
          refine l_pure dX13_skews_84 rfl rfl ?_
          refine l_loc dX13_skews_85 rfl rfl ?_
          refine l_pure dX13_skews_87 rfl rfl ?_
          refine l_goto (t := 93) dX13_skews_88 rfl ?_
          exact l_al rfl ⟨rfl, rfl, rfl, rfl, rfl, rfl, rfl, trivial⟩
set_option maxRecDepth 16000 in
theorem w_X13_skews_93 (S : xS) (x0 : Nat) (x1 : Int32) (x2 : Int32) (x3 : Int32) (x4 : Int32) (x5 : Int32) (x8 : Int32) (z0 : Int32) (h : xH) : xle ((xGr h x0 12 38).bind fun v1 => if xOb h x0 12 = true then xqI (xM S mX13_isOn [.ref x0, .long (x4.toInt64), .long (x5.toInt64)] h) xth fun v4 h3 => if v4 = 0 then ((xWz h3 v1 x3 (0 : Int32)).bind fun h5 => xlet (x3 + (1 : Int32)) fun v6 => (xden S mX13_skews 2 [(0, .ref x0), (1, .int x1), (2, .int x2), (3, .int v6)] [] h5)) else (if xOb h3 x0 12 = true then xqI (xM S mX13_isOn [.ref x0, .long (x8.toInt64), .long (z0.toInt64)] h3) xth fun v9 h8 => if v9 = 0 then ((xWz h8 v1 x3 (0 : Int32)).bind fun h10 => xlet (x3 + (1 : Int32)) fun v11 => (xden S mX13_skews 2 [(0, .ref x0), (1, .int x1), (2, .int x2), (3, .int v11)] [] h10)) else ((xGr h8 x0 12 37).bind fun v12 => (xRi h8 2 v12 (((64 : Int32) * z0) + x8)).bind fun v13 => if v13 = 0 then ((xWz h8 v1 x3 (0 : Int32)).bind fun h14 => xlet (x3 + (1 : Int32)) fun v15 => (xden S mX13_skews 2 [(0, .ref x0), (1, .int x1), (2, .int x2), (3, .int v15)] [] h14)) else ((xWz h8 v1 x3 (1 : Int32)).bind fun h16 => xlet (x3 + (1 : Int32)) fun v17 => (xden S mX13_skews 2 [(0, .ref x0), (1, .int x1), (2, .int x2), (3, .int v17)] [] h16))) else none) else none) (xden S mX13_skews 93 [(0, .ref x0), (1, .int x1), (2, .int x2), (3, .int x3), (4, .int x4), (5, .int x5), (8, .int x8)] [.int z0] h) := by
  refine l_loc (al1 := [(9, .int z0), (0, .ref x0), (1, .int x1), (2, .int x2), (3, .int x3), (4, .int x4), (5, .int x5), (8, .int x8)]) dX13_skews_93 rfl rfl ?_
  refine l_loc dX13_skews_95 rfl rfl ?_
  refine l_gr dX13_skews_96 fl_12_89 (fun v1 => ?_)
  refine l_loc dX13_skews_99 rfl rfl ?_
  refine l_loc dX13_skews_100 rfl rfl ?_
  refine l_loc dX13_skews_101 rfl rfl ?_
  refine l_pure dX13_skews_103 rfl rfl ?_
  refine l_loc dX13_skews_104 rfl rfl ?_
  refine l_pure dX13_skews_106 rfl rfl ?_
  refine l_ob fun q2 => ?_
  refine l_cI dX13_skews_107 rfl rfl rfl (l_xv cl_12_195 ko_mX13_isOn rfl rfl rfl q2) rfl rfl nm_mX13_isOn (xhE_th rfl) (fun v4 h3 => ?_)
  refine l_ieq (t := 146) dX13_skews_110 rfl ?_ ?_
  · refine l_ic dX13_skews_146 kI_0 ?_
    refine l_wz dX13_skews_147 (fun h5 => ?_)
    refine l_incl (al1 := fun v6 => [(3, .int v6), (9, .int z0), (0, .ref x0), (1, .int x1), (2, .int x2), (4, .int x4), (5, .int x5), (8, .int x8)]) dX13_skews_148 rfl kI_1 rfl (fun _ => rfl) (fun v6 => ?_)
    refine l_goto (t := 2) dX13_skews_151 rfl ?_
    exact l_al rfl ⟨rfl, rfl, rfl, rfl, trivial⟩
  · refine l_loc dX13_skews_113 rfl rfl ?_
    refine l_loc dX13_skews_114 rfl rfl ?_
    refine l_pure dX13_skews_116 rfl rfl ?_
    refine l_loc dX13_skews_117 rfl rfl ?_
    refine l_pure dX13_skews_119 rfl rfl ?_
    refine l_ob fun q7 => ?_
    refine l_cI dX13_skews_120 rfl rfl rfl (l_xv cl_12_195 ko_mX13_isOn rfl rfl rfl q7) rfl rfl nm_mX13_isOn (xhE_th rfl) (fun v9 h8 => ?_)
    refine l_ieq (t := 146) dX13_skews_123 rfl ?_ ?_
    · refine l_ic dX13_skews_146 kI_0 ?_
      refine l_wz dX13_skews_147 (fun h10 => ?_)
      refine l_incl (al1 := fun v11 => [(3, .int v11), (9, .int z0), (0, .ref x0), (1, .int x1), (2, .int x2), (4, .int x4), (5, .int x5), (8, .int x8)]) dX13_skews_148 rfl kI_1 rfl (fun _ => rfl) (fun v11 => ?_)
      refine l_goto (t := 2) dX13_skews_151 rfl ?_
      exact l_al rfl ⟨rfl, rfl, rfl, rfl, trivial⟩
    · refine l_loc dX13_skews_126 rfl rfl ?_
      refine l_gr dX13_skews_127 fl_12_86 (fun v12 => ?_)
      refine l_bi dX13_skews_130 kB_64 ?_
      refine l_loc dX13_skews_132 rfl rfl ?_
      refine l_pure dX13_skews_134 rfl rfl ?_
      refine l_loc dX13_skews_135 rfl rfl ?_
      refine l_pure dX13_skews_137 rfl rfl ?_
      refine l_rz dX13_skews_138 (fun v13 => ?_)
      refine l_ieq (t := 146) dX13_skews_139 rfl ?_ ?_
      · refine l_ic dX13_skews_146 kI_0 ?_
        refine l_wz dX13_skews_147 (fun h14 => ?_)
        refine l_incl (al1 := fun v15 => [(3, .int v15), (9, .int z0), (0, .ref x0), (1, .int x1), (2, .int x2), (4, .int x4), (5, .int x5), (8, .int x8)]) dX13_skews_148 rfl kI_1 rfl (fun _ => rfl) (fun v15 => ?_)
        refine l_goto (t := 2) dX13_skews_151 rfl ?_
        exact l_al rfl ⟨rfl, rfl, rfl, rfl, trivial⟩
      · refine l_ic dX13_skews_142 kI_1 ?_
        refine l_goto (t := 147) dX13_skews_143 rfl ?_
        refine l_wz dX13_skews_147 (fun h16 => ?_)
        refine l_incl (al1 := fun v17 => [(3, .int v17), (9, .int z0), (0, .ref x0), (1, .int x1), (2, .int x2), (4, .int x4), (5, .int x5), (8, .int x8)]) dX13_skews_148 rfl kI_1 rfl (fun _ => rfl) (fun v17 => ?_)
        refine l_goto (t := 2) dX13_skews_151 rfl ?_
        exact l_al rfl ⟨rfl, rfl, rfl, rfl, trivial⟩
set_option maxRecDepth 16000 in
theorem w_X13_seeksCoarse (S : xS) (x0 : Nat) (h : xH) : xle ((xGr h x0 12 36).bind fun v1 => (xGr h x0 12 46).bind fun v2 => if xOb h x0 12 = true then xqV (xM S mX13_countsCells [.ref x0, .ref v1, .ref v2] h) xth fun h4 => (xGr h4 x0 12 38).bind fun v6 => (xGr h4 x0 12 47).bind fun v7 => if xOb h4 x0 12 = true then xqV (xM S mX13_countsCells [.ref x0, .ref v6, .ref v7] h4) xth fun h9 => (xGr h9 x0 12 14).bind fun v11 => (xRi h9 0 v11 (4 : Int32)).bind fun v12 => xlet (v12 / (4 : Int32)) fun v13 => (xden S mX13_seeksCoarse 37 [(0, .ref x0), (1, .int v13), (2, .int (-1 : Int32)), (3, .int (0 : Int32))] [] h9) else none else none) (xM S mX13_seeksCoarse [.ref x0] h) := by
  show xle _ (xden S mX13_seeksCoarse 0 [(0, .ref x0)] [] h)
  refine l_loc dX13_seeksCoarse_0 rfl rfl ?_
  refine l_loc dX13_seeksCoarse_1 rfl rfl ?_
  refine l_gr dX13_seeksCoarse_2 fl_12_83 (fun v1 => ?_)
  refine l_loc dX13_seeksCoarse_5 rfl rfl ?_
  refine l_gr dX13_seeksCoarse_6 fl_12_98 (fun v2 => ?_)
  refine l_ob fun q3 => ?_
  refine l_cV dX13_seeksCoarse_9 rfl rfl rfl (l_xv cl_12_343 ko_mX13_countsCells rfl rfl rfl q3) rfl rfl nm_mX13_countsCells (xhE_th rfl) (fun h4 => ?_)
  refine l_loc dX13_seeksCoarse_12 rfl rfl ?_
  refine l_loc dX13_seeksCoarse_13 rfl rfl ?_
  refine l_gr dX13_seeksCoarse_14 fl_12_89 (fun v6 => ?_)
  refine l_loc dX13_seeksCoarse_17 rfl rfl ?_
  refine l_gr dX13_seeksCoarse_18 fl_12_101 (fun v7 => ?_)
  refine l_ob fun q8 => ?_
  refine l_cV dX13_seeksCoarse_21 rfl rfl rfl (l_xv cl_12_343 ko_mX13_countsCells rfl rfl rfl q8) rfl rfl nm_mX13_countsCells (xhE_th rfl) (fun h9 => ?_)
  refine l_loc dX13_seeksCoarse_24 rfl rfl ?_
  refine l_gr dX13_seeksCoarse_25 fl_12_33 (fun v11 => ?_)
  refine l_ic dX13_seeksCoarse_28 kI_4 ?_
  refine l_ri dX13_seeksCoarse_29 (fun v12 => ?_)
  refine l_ic dX13_seeksCoarse_30 kI_4 ?_
  refine l_divn dX13_seeksCoarse_31 (by decide) ?_
  refine l_isl (al1 := fun v13 => [(1, .int v13), (0, .ref x0)]) dX13_seeksCoarse_32 rfl (fun _ => rfl) (fun v13 => ?_)
  refine l_ic dX13_seeksCoarse_33 kI_m1 ?_
  refine l_loc (al1 := [(2, .int (-1 : Int32)), (1, .int v13), (0, .ref x0)]) dX13_seeksCoarse_34 rfl rfl ?_
  refine l_ic dX13_seeksCoarse_35 kI_0 ?_
  refine l_loc (al1 := [(3, .int (0 : Int32)), (2, .int (-1 : Int32)), (1, .int v13), (0, .ref x0)]) dX13_seeksCoarse_36 rfl rfl ?_
  exact l_al rfl ⟨rfl, rfl, rfl, rfl, trivial⟩
set_option maxRecDepth 16000 in
theorem w_X13_seeksCoarse_37 (S : xS) (x0 : Nat) (x1 : Int32) (x2 : Int32) (x3 : Int32) (h : xH) : xle (if ((2 : Int32) * x1) < x3 then (some (.inl none, h, 0, 0)) else (xlet (-x1) fun v1 => (xden S mX13_seeksCoarse 48 [(0, .ref x0), (1, .int x1), (2, .int x2), (3, .int x3), (4, .int v1)] [] h))) (xden S mX13_seeksCoarse 37 [(0, .ref x0), (1, .int x1), (2, .int x2), (3, .int x3)] [] h) := by
  refine l_loc dX13_seeksCoarse_37 rfl rfl ?_
  refine l_ic dX13_seeksCoarse_38 kI_2 ?_
  refine l_loc dX13_seeksCoarse_39 rfl rfl ?_
  refine l_pure dX13_seeksCoarse_40 rfl rfl ?_
  refine l_cgt (t := 132) dX13_seeksCoarse_41 rfl ?_ ?_
  · exact l_end dX13_seeksCoarse_132 rfl rfl
  · refine l_loc dX13_seeksCoarse_44 rfl rfl ?_
    refine l_pure dX13_seeksCoarse_45 rfl rfl ?_
    refine l_isl (al1 := fun v1 => [(4, .int v1), (0, .ref x0), (1, .int x1), (2, .int x2), (3, .int x3)]) dX13_seeksCoarse_46 rfl (fun _ => rfl) (fun v1 => ?_)
    exact l_al rfl ⟨rfl, rfl, rfl, rfl, rfl, trivial⟩
set_option maxRecDepth 16000 in
theorem w_X13_seeksCoarse_48 (S : xS) (x0 : Nat) (x1 : Int32) (x2 : Int32) (x3 : Int32) (x4 : Int32) (h : xH) : xle (if x1 < x4 then (xlet (x3 + (1 : Int32)) fun v1 => (xden S mX13_seeksCoarse 37 [(0, .ref x0), (1, .int x1), (2, .int x2), (3, .int v1)] [] h)) else (xlet (-x1) fun v2 => (xden S mX13_seeksCoarse 58 [(0, .ref x0), (1, .int x1), (2, .int x2), (3, .int x3), (4, .int x4), (5, .int v2)] [] h))) (xden S mX13_seeksCoarse 48 [(0, .ref x0), (1, .int x1), (2, .int x2), (3, .int x3), (4, .int x4)] [] h) := by
  refine l_loc dX13_seeksCoarse_48 rfl rfl ?_
  refine l_loc dX13_seeksCoarse_50 rfl rfl ?_
  refine l_cgt (t := 126) dX13_seeksCoarse_51 rfl ?_ ?_
  · refine l_incl (al1 := fun v1 => [(3, .int v1), (0, .ref x0), (1, .int x1), (2, .int x2), (4, .int x4)]) dX13_seeksCoarse_126 rfl kI_1 rfl (fun _ => rfl) (fun v1 => ?_)
    refine l_goto (t := 37) dX13_seeksCoarse_129 rfl ?_
    exact l_al rfl ⟨rfl, rfl, rfl, rfl, trivial⟩
  · refine l_loc dX13_seeksCoarse_54 rfl rfl ?_
    refine l_pure dX13_seeksCoarse_55 rfl rfl ?_
    refine l_isl (al1 := fun v2 => [(5, .int v2), (0, .ref x0), (1, .int x1), (2, .int x2), (3, .int x3), (4, .int x4)]) dX13_seeksCoarse_56 rfl (fun _ => rfl) (fun v2 => ?_)
    exact l_al rfl ⟨rfl, rfl, rfl, rfl, rfl, rfl, trivial⟩
set_option maxRecDepth 16000 in
theorem w_X13_seeksCoarse_58 (S : xS) (x0 : Nat) (x1 : Int32) (x2 : Int32) (x3 : Int32) (x4 : Int32) (x5 : Int32) (h : xH) : xle (if x1 < x5 then (xlet (x4 + (1 : Int32)) fun v1 => (xden S mX13_seeksCoarse 48 [(0, .ref x0), (1, .int x1), (2, .int x2), (3, .int x3), (4, .int v1)] [] h)) else (xqI (xM S mX13_size [.int x5] h) xth fun v3 h2 => xqI (xM S mX13_size [.int x4] h2) xth fun v5 h4 => if ¬ (v3 + v5) = x3 then (xlet (x5 + (1 : Int32)) fun v6 => (xden S mX13_seeksCoarse 58 [(0, .ref x0), (1, .int x1), (2, .int x2), (3, .int x3), (4, .int x4), (5, .int v6)] [] h4)) else (if xOb h4 x0 12 = true then xqI (xM S mX13_coarseCost [.ref x0, .int x5, .int x4] h4) xth fun v9 h8 => if x2 < 0 then ((xP false 12 h8 x0 12 48 (.int x5)).bind fun h10 => (xP false 12 h10 x0 12 49 (.int x4)).bind fun h11 => xlet (x5 + (1 : Int32)) fun v12 => (xden S mX13_seeksCoarse 58 [(0, .ref x0), (1, .int x1), (2, .int v9), (3, .int x3), (4, .int x4), (5, .int v12)] [] h11)) else (if x2 ≤ v9 then (xlet (x5 + (1 : Int32)) fun v13 => (xden S mX13_seeksCoarse 58 [(0, .ref x0), (1, .int x1), (2, .int x2), (3, .int x3), (4, .int x4), (5, .int v13)] [] h8)) else ((xP false 12 h8 x0 12 48 (.int x5)).bind fun h14 => (xP false 12 h14 x0 12 49 (.int x4)).bind fun h15 => xlet (x5 + (1 : Int32)) fun v16 => (xden S mX13_seeksCoarse 58 [(0, .ref x0), (1, .int x1), (2, .int v9), (3, .int x3), (4, .int x4), (5, .int v16)] [] h15))) else none))) (xden S mX13_seeksCoarse 58 [(0, .ref x0), (1, .int x1), (2, .int x2), (3, .int x3), (4, .int x4), (5, .int x5)] [] h) := by
  refine l_loc dX13_seeksCoarse_58 rfl rfl ?_
  refine l_loc dX13_seeksCoarse_60 rfl rfl ?_
  refine l_cgt (t := 120) dX13_seeksCoarse_61 rfl ?_ ?_
  · refine l_incl (al1 := fun v1 => [(4, .int v1), (0, .ref x0), (1, .int x1), (2, .int x2), (3, .int x3), (5, .int x5)]) dX13_seeksCoarse_120 rfl kI_1 rfl (fun _ => rfl) (fun v1 => ?_)
    refine l_goto (t := 48) dX13_seeksCoarse_123 rfl ?_
    exact l_al rfl ⟨rfl, rfl, rfl, rfl, rfl, trivial⟩
  · refine l_loc dX13_seeksCoarse_64 rfl rfl ?_
    refine l_cI dX13_seeksCoarse_66 rfl rfl rfl (l_xs cl_12_340 ko_mX13_size rfl rfl) rfl rfl nm_mX13_size (xhE_th rfl) (fun v3 h2 => ?_)
    refine l_loc dX13_seeksCoarse_69 rfl rfl ?_
    refine l_cI dX13_seeksCoarse_71 rfl rfl rfl (l_xs cl_12_340 ko_mX13_size rfl rfl) rfl rfl nm_mX13_size (xhE_th rfl) (fun v5 h4 => ?_)
    refine l_pure dX13_seeksCoarse_74 rfl rfl ?_
    refine l_loc dX13_seeksCoarse_75 rfl rfl ?_
    refine l_cne (t := 114) dX13_seeksCoarse_76 rfl ?_ ?_
    · refine l_incl (al1 := fun v6 => [(5, .int v6), (0, .ref x0), (1, .int x1), (2, .int x2), (3, .int x3), (4, .int x4)]) dX13_seeksCoarse_114 rfl kI_1 rfl (fun _ => rfl) (fun v6 => ?_)
      refine l_goto (t := 58) dX13_seeksCoarse_117 rfl ?_
      exact l_al rfl ⟨rfl, rfl, rfl, rfl, rfl, rfl, trivial⟩
    · refine l_loc dX13_seeksCoarse_79 rfl rfl ?_
      refine l_loc dX13_seeksCoarse_80 rfl rfl ?_
      refine l_loc dX13_seeksCoarse_82 rfl rfl ?_
      refine l_ob fun q7 => ?_
      refine l_cI dX13_seeksCoarse_84 rfl rfl rfl (l_xv cl_12_347 ko_mX13_coarseCost rfl rfl rfl q7) rfl rfl nm_mX13_coarseCost (xhE_th rfl) (fun v9 h8 => ?_)
      refine l_loc (al1 := [(6, .int v9), (0, .ref x0), (1, .int x1), (2, .int x2), (3, .int x3), (4, .int x4), (5, .int x5)]) dX13_seeksCoarse_87 rfl rfl ?_
      refine l_loc dX13_seeksCoarse_89 rfl rfl ?_
      refine l_ilt (t := 99) dX13_seeksCoarse_90 rfl ?_ ?_
      · refine l_loc dX13_seeksCoarse_99 rfl rfl ?_
        refine l_loc (al1 := [(2, .int v9), (6, .int v9), (0, .ref x0), (1, .int x1), (3, .int x3), (4, .int x4), (5, .int x5)]) dX13_seeksCoarse_101 rfl rfl ?_
        refine l_loc dX13_seeksCoarse_102 rfl rfl ?_
        refine l_loc dX13_seeksCoarse_103 rfl rfl ?_
        refine l_pf dX13_seeksCoarse_105 fl_12_350 (ini := false) nm_mX13_seeksCoarse (fun h10 => ?_)
        refine l_loc dX13_seeksCoarse_108 rfl rfl ?_
        refine l_loc dX13_seeksCoarse_109 rfl rfl ?_
        refine l_pf dX13_seeksCoarse_111 fl_12_353 (ini := false) nm_mX13_seeksCoarse (fun h11 => ?_)
        refine l_incl (al1 := fun v12 => [(5, .int v12), (2, .int v9), (6, .int v9), (0, .ref x0), (1, .int x1), (3, .int x3), (4, .int x4)]) dX13_seeksCoarse_114 rfl kI_1 rfl (fun _ => rfl) (fun v12 => ?_)
        refine l_goto (t := 58) dX13_seeksCoarse_117 rfl ?_
        exact l_al rfl ⟨rfl, rfl, rfl, rfl, rfl, rfl, trivial⟩
      · refine l_loc dX13_seeksCoarse_93 rfl rfl ?_
        refine l_loc dX13_seeksCoarse_95 rfl rfl ?_
        refine l_cge (t := 114) dX13_seeksCoarse_96 rfl ?_ ?_
        · refine l_incl (al1 := fun v13 => [(5, .int v13), (6, .int v9), (0, .ref x0), (1, .int x1), (2, .int x2), (3, .int x3), (4, .int x4)]) dX13_seeksCoarse_114 rfl kI_1 rfl (fun _ => rfl) (fun v13 => ?_)
          refine l_goto (t := 58) dX13_seeksCoarse_117 rfl ?_
          exact l_al rfl ⟨rfl, rfl, rfl, rfl, rfl, rfl, trivial⟩
        · refine l_loc dX13_seeksCoarse_99 rfl rfl ?_
          refine l_loc (al1 := [(2, .int v9), (6, .int v9), (0, .ref x0), (1, .int x1), (3, .int x3), (4, .int x4), (5, .int x5)]) dX13_seeksCoarse_101 rfl rfl ?_
          refine l_loc dX13_seeksCoarse_102 rfl rfl ?_
          refine l_loc dX13_seeksCoarse_103 rfl rfl ?_
          refine l_pf dX13_seeksCoarse_105 fl_12_350 (ini := false) nm_mX13_seeksCoarse (fun h14 => ?_)
          refine l_loc dX13_seeksCoarse_108 rfl rfl ?_
          refine l_loc dX13_seeksCoarse_109 rfl rfl ?_
          refine l_pf dX13_seeksCoarse_111 fl_12_353 (ini := false) nm_mX13_seeksCoarse (fun h15 => ?_)
          refine l_incl (al1 := fun v16 => [(5, .int v16), (2, .int v9), (6, .int v9), (0, .ref x0), (1, .int x1), (3, .int x3), (4, .int x4)]) dX13_seeksCoarse_114 rfl kI_1 rfl (fun _ => rfl) (fun v16 => ?_)
          refine l_goto (t := 58) dX13_seeksCoarse_117 rfl ?_
          exact l_al rfl ⟨rfl, rfl, rfl, rfl, rfl, rfl, trivial⟩
set_option maxRecDepth 16000 in
theorem w_X13_countsCells (S : xS) (x0 : Nat) (x1 : Nat) (x2 : Nat) (h : xH) : xle (xden S mX13_countsCells 2 [(1, .ref x1), (2, .ref x2), (3, .int (0 : Int32))] [] h) (xM S mX13_countsCells [.ref x0, .ref x1, .ref x2] h) := by
  show xle _ (xden S mX13_countsCells 0 [(0, .ref x0), (1, .ref x1), (2, .ref x2)] [] h)
  refine l_ic dX13_countsCells_0 kI_0 ?_
  refine l_loc (al1 := [(3, .int (0 : Int32)), (0, .ref x0), (1, .ref x1), (2, .ref x2)]) dX13_countsCells_1 rfl rfl ?_
  exact l_al rfl ⟨rfl, rfl, rfl, trivial⟩
set_option maxRecDepth 16000 in
theorem w_X13_countsCells_2 (S : xS) (x1 : Nat) (x2 : Nat) (x3 : Int32) (h : xH) : xle (if (256 : Int32) ≤ x3 then (xden S mX13_countsCells 21 [(1, .ref x1), (2, .ref x2), (3, .int (0 : Int32))] [] h) else ((xWi h x2 x3 (0 : Int32)).bind fun h1 => xlet (x3 + (1 : Int32)) fun v2 => (xden S mX13_countsCells 2 [(1, .ref x1), (2, .ref x2), (3, .int v2)] [] h1))) (xden S mX13_countsCells 2 [(1, .ref x1), (2, .ref x2), (3, .int x3)] [] h) := by
  refine l_loc dX13_countsCells_2 rfl rfl ?_
  refine l_si dX13_countsCells_3 kS_256 ?_
  refine l_cge (t := 19) dX13_countsCells_6 rfl ?_ ?_
  · refine l_ic dX13_countsCells_19 kI_0 ?_
    refine l_loc (al1 := [(3, .int (0 : Int32)), (1, .ref x1), (2, .ref x2)]) dX13_countsCells_20 rfl rfl ?_
    exact l_al rfl ⟨rfl, rfl, rfl, trivial⟩
  · refine l_loc dX13_countsCells_9 rfl rfl ?_
    refine l_loc dX13_countsCells_10 rfl rfl ?_
    refine l_ic dX13_countsCells_11 kI_0 ?_
    refine l_wi dX13_countsCells_12 (fun h1 => ?_)
    refine l_incl (al1 := fun v2 => [(3, .int v2), (1, .ref x1), (2, .ref x2)]) dX13_countsCells_13 rfl kI_1 rfl (fun _ => rfl) (fun v2 => ?_)
    refine l_goto (t := 2) dX13_countsCells_16 rfl ?_
    exact l_al rfl ⟨rfl, rfl, rfl, trivial⟩
set_option maxRecDepth 16000 in
theorem w_X13_countsCells_21 (S : xS) (x1 : Nat) (x2 : Nat) (x3 : Int32) (h : xH) : xle (if (4096 : Int32) ≤ x3 then (some (.inl none, h, 0, 0)) else ((xRi h 0 x2 (((16 : Int32) * ((x3 / (64 : Int32)) / (4 : Int32))) + ((x3 - x3 / (64 : Int32) * (64 : Int32)) / (4 : Int32)))).bind fun v1 => (xRi h 2 x1 x3).bind fun v2 => if v2 = 0 then ((xWi h x2 (((16 : Int32) * ((x3 / (64 : Int32)) / (4 : Int32))) + ((x3 - x3 / (64 : Int32) * (64 : Int32)) / (4 : Int32))) (v1 + (0 : Int32))).bind fun h3 => xlet (x3 + (1 : Int32)) fun v4 => (xden S mX13_countsCells 21 [(1, .ref x1), (2, .ref x2), (3, .int v4)] [] h3)) else ((xWi h x2 (((16 : Int32) * ((x3 / (64 : Int32)) / (4 : Int32))) + ((x3 - x3 / (64 : Int32) * (64 : Int32)) / (4 : Int32))) (v1 + (1 : Int32))).bind fun h5 => xlet (x3 + (1 : Int32)) fun v6 => (xden S mX13_countsCells 21 [(1, .ref x1), (2, .ref x2), (3, .int v6)] [] h5)))) (xden S mX13_countsCells 21 [(1, .ref x1), (2, .ref x2), (3, .int x3)] [] h) := by
  refine l_loc dX13_countsCells_21 rfl rfl ?_
  refine l_si dX13_countsCells_22 kS_4096 ?_
  refine l_cge (t := 66) dX13_countsCells_25 rfl ?_ ?_
  · exact l_end dX13_countsCells_66 rfl rfl
  · refine l_loc dX13_countsCells_28 rfl rfl ?_
    refine l_bi dX13_countsCells_29 kB_16 ?_
    refine l_loc dX13_countsCells_31 rfl rfl ?_
    refine l_bi dX13_countsCells_32 kB_64 ?_
    refine l_divn dX13_countsCells_34 (by decide) ?_
    refine l_ic dX13_countsCells_35 kI_4 ?_
    refine l_divn dX13_countsCells_36 (by decide) ?_
    refine l_pure dX13_countsCells_37 rfl rfl ?_
    refine l_loc dX13_countsCells_38 rfl rfl ?_
    refine l_bi dX13_countsCells_39 kB_64 ?_
    refine l_remn dX13_countsCells_41 (by decide) ?_
    refine l_ic dX13_countsCells_42 kI_4 ?_
    refine l_divn dX13_countsCells_43 (by decide) ?_
    refine l_pure dX13_countsCells_44 rfl rfl ?_
    refine l_pure dX13_countsCells_45 rfl rfl ?_
    refine l_ri dX13_countsCells_46 (fun v1 => ?_)
    refine l_loc dX13_countsCells_47 rfl rfl ?_
    refine l_loc dX13_countsCells_48 rfl rfl ?_
    refine l_rz dX13_countsCells_49 (fun v2 => ?_)
    refine l_ieq (t := 57) dX13_countsCells_50 rfl ?_ ?_
    · refine l_ic dX13_countsCells_57 kI_0 ?_
      refine l_pure dX13_countsCells_58 rfl rfl ?_
      refine l_wi dX13_countsCells_59 (fun h3 => ?_)
      refine l_incl (al1 := fun v4 => [(3, .int v4), (1, .ref x1), (2, .ref x2)]) dX13_countsCells_60 rfl kI_1 rfl (fun _ => rfl) (fun v4 => ?_)
      refine l_goto (t := 21) dX13_countsCells_63 rfl ?_
      exact l_al rfl ⟨rfl, rfl, rfl, trivial⟩
    · refine l_ic dX13_countsCells_53 kI_1 ?_
      refine l_goto (t := 58) dX13_countsCells_54 rfl ?_
      refine l_pure dX13_countsCells_58 rfl rfl ?_
      refine l_wi dX13_countsCells_59 (fun h5 => ?_)
      refine l_incl (al1 := fun v6 => [(3, .int v6), (1, .ref x1), (2, .ref x2)]) dX13_countsCells_60 rfl kI_1 rfl (fun _ => rfl) (fun v6 => ?_)
      refine l_goto (t := 21) dX13_countsCells_63 rfl ?_
      exact l_al rfl ⟨rfl, rfl, rfl, trivial⟩
set_option maxRecDepth 16000 in
theorem w_X13_size (S : xS) (x0 : Int32) (h : xH) : xle (if 0 ≤ x0 then (some (.inl (some (.int x0)), h, 0, 0)) else (some (.inl (some (.int (-x0))), h, 0, 0))) (xM S mX13_size [.int x0] h) := by
  show xle _ (xden S mX13_size 0 [(0, .int x0)] [] h)
  refine l_loc dX13_size_0 rfl rfl ?_
  refine l_ige (t := 9) dX13_size_1 rfl ?_ ?_
  · refine l_loc dX13_size_9 rfl rfl ?_
    exact l_iretn dX13_size_10 rfl (by rfl)
  · refine l_loc dX13_size_4 rfl rfl ?_
    refine l_pure dX13_size_5 rfl rfl ?_
    refine l_goto (t := 10) dX13_size_6 rfl ?_
    exact l_iretn dX13_size_10 rfl (by rfl)
set_option maxRecDepth 16000 in
theorem w_X13_coarseCost (S : xS) (x0 : Nat) (x1 : Int32) (x2 : Int32) (h : xH) : xle (xden S mX13_coarseCost 5 [(0, .ref x0), (1, .int x1), (2, .int x2), (3, .int (0 : Int32)), (4, .int (0 : Int32))] [] h) (xM S mX13_coarseCost [.ref x0, .int x1, .int x2] h) := by
  show xle _ (xden S mX13_coarseCost 0 [(0, .ref x0), (1, .int x1), (2, .int x2)] [] h)
  refine l_ic dX13_coarseCost_0 kI_0 ?_
  refine l_loc (al1 := [(3, .int (0 : Int32)), (0, .ref x0), (1, .int x1), (2, .int x2)]) dX13_coarseCost_1 rfl rfl ?_
  refine l_ic dX13_coarseCost_2 kI_0 ?_
  refine l_loc (al1 := [(4, .int (0 : Int32)), (3, .int (0 : Int32)), (0, .ref x0), (1, .int x1), (2, .int x2)]) dX13_coarseCost_3 rfl rfl ?_
  exact l_al rfl ⟨rfl, rfl, rfl, rfl, rfl, trivial⟩
set_option maxRecDepth 16000 in
theorem w_X13_coarseCost_5 (S : xS) (x0 : Nat) (x1 : Int32) (x2 : Int32) (x3 : Int32) (x4 : Int32) (h : xH) : xle ((xGi h x0 12 1).bind fun v1 => if v1 ≤ ((4 : Int32) * x4) then (some (.inl (some (.int x3)), h, 0, 0)) else (xden S mX13_coarseCost 19 [(0, .ref x0), (1, .int x1), (2, .int x2), (3, .int x3), (4, .int x4), (5, .int (0 : Int32))] [] h)) (xden S mX13_coarseCost 5 [(0, .ref x0), (1, .int x1), (2, .int x2), (3, .int x3), (4, .int x4)] [] h) := by
  refine l_ic dX13_coarseCost_5 kI_4 ?_
  refine l_loc dX13_coarseCost_6 rfl rfl ?_
  refine l_pure dX13_coarseCost_8 rfl rfl ?_
  refine l_loc dX13_coarseCost_9 rfl rfl ?_
  refine l_gi dX13_coarseCost_10 fl_12_183 (fun v1 => ?_)
  refine l_cge (t := 135) dX13_coarseCost_13 rfl ?_ ?_
  · refine l_loc dX13_coarseCost_135 rfl rfl ?_
    exact l_iretn dX13_coarseCost_136 rfl (by rfl)
  · refine l_ic dX13_coarseCost_16 kI_0 ?_
    refine l_loc (al1 := [(5, .int (0 : Int32)), (0, .ref x0), (1, .int x1), (2, .int x2), (3, .int x3), (4, .int x4)]) dX13_coarseCost_17 rfl rfl ?_
    exact l_al rfl ⟨rfl, rfl, rfl, rfl, rfl, rfl, trivial⟩
set_option maxRecDepth 16000 in
theorem w_X13_coarseCost_19 (S : xS) (x0 : Nat) (x1 : Int32) (x2 : Int32) (x3 : Int32) (x4 : Int32) (x5 : Int32) (h : xH) : xle ((xGi h x0 12 0).bind fun v1 => if v1 ≤ ((4 : Int32) * x5) then (xlet (x4 + (1 : Int32)) fun v2 => (xden S mX13_coarseCost 5 [(0, .ref x0), (1, .int x1), (2, .int x2), (3, .int x3), (4, .int v2)] [] h)) else (if (x5 + x1) < 0 then (xden S mX13_coarseCost 75 [(0, .ref x0), (1, .int x1), (2, .int x2), (3, .int x3), (4, .int x4), (5, .int x5)] [.int (0 : Int32)] h) else ((xGi h x0 12 0).bind fun v3 => if v3 ≤ ((4 : Int32) * (x5 + x1)) then (xden S mX13_coarseCost 75 [(0, .ref x0), (1, .int x1), (2, .int x2), (3, .int x3), (4, .int x4), (5, .int x5)] [.int (0 : Int32)] h) else (if (x4 + x2) < 0 then (xden S mX13_coarseCost 75 [(0, .ref x0), (1, .int x1), (2, .int x2), (3, .int x3), (4, .int x4), (5, .int x5)] [.int (0 : Int32)] h) else ((xGi h x0 12 1).bind fun v4 => if v4 ≤ ((4 : Int32) * (x4 + x2)) then (xden S mX13_coarseCost 75 [(0, .ref x0), (1, .int x1), (2, .int x2), (3, .int x3), (4, .int x4), (5, .int x5)] [.int (0 : Int32)] h) else (xden S mX13_coarseCost 75 [(0, .ref x0), (1, .int x1), (2, .int x2), (3, .int x3), (4, .int x4), (5, .int x5)] [.int (1 : Int32)] h)))))) (xden S mX13_coarseCost 19 [(0, .ref x0), (1, .int x1), (2, .int x2), (3, .int x3), (4, .int x4), (5, .int x5)] [] h) := by
  refine l_ic dX13_coarseCost_19 kI_4 ?_
  refine l_loc dX13_coarseCost_20 rfl rfl ?_
  refine l_pure dX13_coarseCost_22 rfl rfl ?_
  refine l_loc dX13_coarseCost_23 rfl rfl ?_
  refine l_gi dX13_coarseCost_24 fl_12_179 (fun v1 => ?_)
  refine l_cge (t := 129) dX13_coarseCost_27 rfl ?_ ?_
  · refine l_incl (al1 := fun v2 => [(4, .int v2), (0, .ref x0), (1, .int x1), (2, .int x2), (3, .int x3), (5, .int x5)]) dX13_coarseCost_129 rfl kI_1 rfl (fun _ => rfl) (fun v2 => ?_)
    refine l_goto (t := 5) dX13_coarseCost_132 rfl ?_
    exact l_al rfl ⟨rfl, rfl, rfl, rfl, rfl, trivial⟩
  · refine l_loc dX13_coarseCost_30 rfl rfl ?_
    refine l_loc dX13_coarseCost_32 rfl rfl ?_
    refine l_pure dX13_coarseCost_33 rfl rfl ?_
    refine l_ilt (t := 74) dX13_coarseCost_34 rfl ?_ ?_
    · refine l_ic dX13_coarseCost_74 kI_0 ?_
      exact l_al rfl ⟨rfl, rfl, rfl, rfl, rfl, rfl, trivial⟩
    · refine l_ic dX13_coarseCost_37 kI_4 ?_
      refine l_loc dX13_coarseCost_38 rfl rfl ?_
      refine l_loc dX13_coarseCost_40 rfl rfl ?_
      refine l_pure dX13_coarseCost_41 rfl rfl ?_
      refine l_pure dX13_coarseCost_42 rfl rfl ?_
      refine l_loc dX13_coarseCost_43 rfl rfl ?_
      refine l_gi dX13_coarseCost_44 fl_12_179 (fun v3 => ?_)
      refine l_cge (t := 74) dX13_coarseCost_47 rfl ?_ ?_
      · refine l_ic dX13_coarseCost_74 kI_0 ?_
        exact l_al rfl ⟨rfl, rfl, rfl, rfl, rfl, rfl, trivial⟩
      · refine l_loc dX13_coarseCost_50 rfl rfl ?_
        refine l_loc dX13_coarseCost_52 rfl rfl ?_
        refine l_pure dX13_coarseCost_53 rfl rfl ?_
        refine l_ilt (t := 74) dX13_coarseCost_54 rfl ?_ ?_
        · refine l_ic dX13_coarseCost_74 kI_0 ?_
          exact l_al rfl ⟨rfl, rfl, rfl, rfl, rfl, rfl, trivial⟩
        · refine l_ic dX13_coarseCost_57 kI_4 ?_
          refine l_loc dX13_coarseCost_58 rfl rfl ?_
          refine l_loc dX13_coarseCost_60 rfl rfl ?_
          refine l_pure dX13_coarseCost_61 rfl rfl ?_
          refine l_pure dX13_coarseCost_62 rfl rfl ?_
          refine l_loc dX13_coarseCost_63 rfl rfl ?_
          refine l_gi dX13_coarseCost_64 fl_12_183 (fun v4 => ?_)
          refine l_cge (t := 74) dX13_coarseCost_67 rfl ?_ ?_
          · refine l_ic dX13_coarseCost_74 kI_0 ?_
            exact l_al rfl ⟨rfl, rfl, rfl, rfl, rfl, rfl, trivial⟩
          · refine l_ic dX13_coarseCost_70 kI_1 ?_
            refine l_goto (t := 75) dX13_coarseCost_71 rfl ?_
            exact l_al rfl ⟨rfl, rfl, rfl, rfl, rfl, rfl, trivial⟩
set_option maxRecDepth 16000 in
theorem w_X13_coarseCost_75 (S : xS) (x0 : Nat) (x1 : Int32) (x2 : Int32) (x3 : Int32) (x4 : Int32) (x5 : Int32) (z0 : Int32) (h : xH) : xle ((xGr h x0 12 46).bind fun v1 => (xRi h 0 v1 (((16 : Int32) * x4) + x5)).bind fun v2 => if z0 = 0 then (xqI (xM S mX13_size [.int (v2 - (0 : Int32))] h) xth fun v4 h3 => xlet (x3 + v4) fun v5 => xlet (x5 + (1 : Int32)) fun v6 => (xden S mX13_coarseCost 19 [(0, .ref x0), (1, .int x1), (2, .int x2), (3, .int v5), (4, .int x4), (5, .int v6)] [] h3)) else ((xGr h x0 12 47).bind fun v7 => (xRi h 0 v7 ((((16 : Int32) * (x4 + x2)) + x5) + x1)).bind fun v8 => xqI (xM S mX13_size [.int (v2 - v8)] h) xth fun v10 h9 => xlet (x3 + v10) fun v11 => xlet (x5 + (1 : Int32)) fun v12 => (xden S mX13_coarseCost 19 [(0, .ref x0), (1, .int x1), (2, .int x2), (3, .int v11), (4, .int x4), (5, .int v12)] [] h9))) (xden S mX13_coarseCost 75 [(0, .ref x0), (1, .int x1), (2, .int x2), (3, .int x3), (4, .int x4), (5, .int x5)] [.int z0] h) := by
  refine l_loc (al1 := [(6, .int z0), (0, .ref x0), (1, .int x1), (2, .int x2), (3, .int x3), (4, .int x4), (5, .int x5)]) dX13_coarseCost_75 rfl rfl ?_
  refine l_loc dX13_coarseCost_77 rfl rfl ?_
  refine l_loc dX13_coarseCost_78 rfl rfl ?_
  refine l_gr dX13_coarseCost_79 fl_12_98 (fun v1 => ?_)
  refine l_bi dX13_coarseCost_82 kB_16 ?_
  refine l_loc dX13_coarseCost_84 rfl rfl ?_
  refine l_pure dX13_coarseCost_86 rfl rfl ?_
  refine l_loc dX13_coarseCost_87 rfl rfl ?_
  refine l_pure dX13_coarseCost_89 rfl rfl ?_
  refine l_ri dX13_coarseCost_90 (fun v2 => ?_)
  refine l_loc dX13_coarseCost_91 rfl rfl ?_
  refine l_ieq (t := 116) dX13_coarseCost_93 rfl ?_ ?_
  · refine l_ic dX13_coarseCost_116 kI_0 ?_
    refine l_pure dX13_coarseCost_117 rfl rfl ?_
    refine l_cI dX13_coarseCost_118 rfl rfl rfl (l_xs cl_12_340 ko_mX13_size rfl rfl) rfl rfl nm_mX13_size (xhE_th rfl) (fun v4 h3 => ?_)
    refine l_pure dX13_coarseCost_121 rfl rfl ?_
    refine l_isl (al1 := fun v5 => [(3, .int v5), (6, .int z0), (0, .ref x0), (1, .int x1), (2, .int x2), (4, .int x4), (5, .int x5)]) dX13_coarseCost_122 rfl (fun _ => rfl) (fun v5 => ?_)
    refine l_incl (al1 := fun v6 => [(5, .int v6), (3, .int v5), (6, .int z0), (0, .ref x0), (1, .int x1), (2, .int x2), (4, .int x4)]) dX13_coarseCost_123 rfl kI_1 rfl (fun _ => rfl) (fun v6 => ?_)
    refine l_goto (t := 19) dX13_coarseCost_126 rfl ?_
    exact l_al rfl ⟨rfl, rfl, rfl, rfl, rfl, rfl, trivial⟩
  · refine l_loc dX13_coarseCost_96 rfl rfl ?_
    refine l_gr dX13_coarseCost_97 fl_12_101 (fun v7 => ?_)
    refine l_bi dX13_coarseCost_100 kB_16 ?_
    refine l_loc dX13_coarseCost_102 rfl rfl ?_
    refine l_loc dX13_coarseCost_104 rfl rfl ?_
    refine l_pure dX13_coarseCost_105 rfl rfl ?_
    refine l_pure dX13_coarseCost_106 rfl rfl ?_
    refine l_loc dX13_coarseCost_107 rfl rfl ?_
    refine l_pure dX13_coarseCost_109 rfl rfl ?_
    refine l_loc dX13_coarseCost_110 rfl rfl ?_
    refine l_pure dX13_coarseCost_111 rfl rfl ?_
    refine l_ri dX13_coarseCost_112 (fun v8 => ?_)
    refine l_goto (t := 117) dX13_coarseCost_113 rfl ?_
    refine l_pure dX13_coarseCost_117 rfl rfl ?_
    refine l_cI dX13_coarseCost_118 rfl rfl rfl (l_xs cl_12_340 ko_mX13_size rfl rfl) rfl rfl nm_mX13_size (xhE_th rfl) (fun v10 h9 => ?_)
    refine l_pure dX13_coarseCost_121 rfl rfl ?_
    refine l_isl (al1 := fun v11 => [(3, .int v11), (6, .int z0), (0, .ref x0), (1, .int x1), (2, .int x2), (4, .int x4), (5, .int x5)]) dX13_coarseCost_122 rfl (fun _ => rfl) (fun v11 => ?_)
    refine l_incl (al1 := fun v12 => [(5, .int v12), (3, .int v11), (6, .int z0), (0, .ref x0), (1, .int x1), (2, .int x2), (4, .int x4)]) dX13_coarseCost_123 rfl kI_1 rfl (fun _ => rfl) (fun v12 => ?_)
    refine l_goto (t := 19) dX13_coarseCost_126 rfl ?_
    exact l_al rfl ⟨rfl, rfl, rfl, rfl, rfl, rfl, trivial⟩
set_option maxRecDepth 16000 in
theorem w_X13_seeksFine (S : xS) (x0 : Nat) (h : xH) : xle ((xGr h x0 12 14).bind fun v1 => (xRi h 0 v1 (4 : Int32)).bind fun v2 => (xden S mX13_seeksFine 11 [(0, .ref x0), (1, .int v2), (2, .int (-1 : Int32)), (3, .int (0 : Int32))] [] h)) (xM S mX13_seeksFine [.ref x0] h) := by
  show xle _ (xden S mX13_seeksFine 0 [(0, .ref x0)] [] h)
  refine l_loc dX13_seeksFine_0 rfl rfl ?_
  refine l_gr dX13_seeksFine_1 fl_12_33 (fun v1 => ?_)
  refine l_ic dX13_seeksFine_4 kI_4 ?_
  refine l_ri dX13_seeksFine_5 (fun v2 => ?_)
  refine l_loc (al1 := [(1, .int v2), (0, .ref x0)]) dX13_seeksFine_6 rfl rfl ?_
  refine l_ic dX13_seeksFine_7 kI_m1 ?_
  refine l_loc (al1 := [(2, .int (-1 : Int32)), (1, .int v2), (0, .ref x0)]) dX13_seeksFine_8 rfl rfl ?_
  refine l_ic dX13_seeksFine_9 kI_0 ?_
  refine l_loc (al1 := [(3, .int (0 : Int32)), (2, .int (-1 : Int32)), (1, .int v2), (0, .ref x0)]) dX13_seeksFine_10 rfl rfl ?_
  exact l_al rfl ⟨rfl, rfl, rfl, rfl, trivial⟩
set_option maxRecDepth 16000 in
theorem w_X13_seeksFine_11 (S : xS) (x0 : Nat) (x1 : Int32) (x2 : Int32) (x3 : Int32) (h : xH) : xle (if ((2 : Int32) * x1) < x3 then (some (.inl (some (.int x2)), h, 0, 0)) else ((xGi h x0 12 49).bind fun v1 => xlet (((4 : Int32) * v1) - (3 : Int32)) fun v2 => (xden S mX13_seeksFine 28 [(0, .ref x0), (1, .int x1), (2, .int x2), (3, .int x3), (4, .int v2)] [] h))) (xden S mX13_seeksFine 11 [(0, .ref x0), (1, .int x1), (2, .int x2), (3, .int x3)] [] h) := by
  refine l_loc dX13_seeksFine_11 rfl rfl ?_
  refine l_ic dX13_seeksFine_12 kI_2 ?_
  refine l_loc dX13_seeksFine_13 rfl rfl ?_
  refine l_pure dX13_seeksFine_14 rfl rfl ?_
  refine l_cgt (t := 154) dX13_seeksFine_15 rfl ?_ ?_
  · refine l_loc dX13_seeksFine_154 rfl rfl ?_
    exact l_iretn dX13_seeksFine_155 rfl (by rfl)
  · refine l_ic dX13_seeksFine_18 kI_4 ?_
    refine l_loc dX13_seeksFine_19 rfl rfl ?_
    refine l_gi dX13_seeksFine_20 fl_12_353 (fun v1 => ?_)
    refine l_pure dX13_seeksFine_23 rfl rfl ?_
    refine l_ic dX13_seeksFine_24 kI_3 ?_
    refine l_pure dX13_seeksFine_25 rfl rfl ?_
    refine l_isl (al1 := fun v2 => [(4, .int v2), (0, .ref x0), (1, .int x1), (2, .int x2), (3, .int x3)]) dX13_seeksFine_26 rfl (fun _ => rfl) (fun v2 => ?_)
    exact l_al rfl ⟨rfl, rfl, rfl, rfl, rfl, trivial⟩
set_option maxRecDepth 16000 in
theorem w_X13_seeksFine_28 (S : xS) (x0 : Nat) (x1 : Int32) (x2 : Int32) (x3 : Int32) (x4 : Int32) (h : xH) : xle ((xGi h x0 12 49).bind fun v1 => if (((4 : Int32) * v1) + (3 : Int32)) < x4 then (xlet (x3 + (1 : Int32)) fun v2 => (xden S mX13_seeksFine 11 [(0, .ref x0), (1, .int x1), (2, .int x2), (3, .int v2)] [] h)) else ((xGi h x0 12 48).bind fun v3 => xlet (((4 : Int32) * v3) - (3 : Int32)) fun v4 => (xden S mX13_seeksFine 51 [(0, .ref x0), (1, .int x1), (2, .int x2), (3, .int x3), (4, .int x4), (5, .int v4)] [] h))) (xden S mX13_seeksFine 28 [(0, .ref x0), (1, .int x1), (2, .int x2), (3, .int x3), (4, .int x4)] [] h) := by
  refine l_loc dX13_seeksFine_28 rfl rfl ?_
  refine l_ic dX13_seeksFine_30 kI_4 ?_
  refine l_loc dX13_seeksFine_31 rfl rfl ?_
  refine l_gi dX13_seeksFine_32 fl_12_353 (fun v1 => ?_)
  refine l_pure dX13_seeksFine_35 rfl rfl ?_
  refine l_ic dX13_seeksFine_36 kI_3 ?_
  refine l_pure dX13_seeksFine_37 rfl rfl ?_
  refine l_cgt (t := 148) dX13_seeksFine_38 rfl ?_ ?_
  · refine l_incl (al1 := fun v2 => [(3, .int v2), (0, .ref x0), (1, .int x1), (2, .int x2), (4, .int x4)]) dX13_seeksFine_148 rfl kI_1 rfl (fun _ => rfl) (fun v2 => ?_)
    refine l_goto (t := 11) dX13_seeksFine_151 rfl ?_
    exact l_al rfl ⟨rfl, rfl, rfl, rfl, trivial⟩
  · refine l_ic dX13_seeksFine_41 kI_4 ?_
    refine l_loc dX13_seeksFine_42 rfl rfl ?_
    refine l_gi dX13_seeksFine_43 fl_12_350 (fun v3 => ?_)
    refine l_pure dX13_seeksFine_46 rfl rfl ?_
    refine l_ic dX13_seeksFine_47 kI_3 ?_
    refine l_pure dX13_seeksFine_48 rfl rfl ?_
    refine l_isl (al1 := fun v4 => [(5, .int v4), (0, .ref x0), (1, .int x1), (2, .int x2), (3, .int x3), (4, .int x4)]) dX13_seeksFine_49 rfl (fun _ => rfl) (fun v4 => ?_)
    exact l_al rfl ⟨rfl, rfl, rfl, rfl, rfl, rfl, trivial⟩
set_option maxRecDepth 16000 in
theorem w_X13_seeksFine_51 (S : xS) (x0 : Nat) (x1 : Int32) (x2 : Int32) (x3 : Int32) (x4 : Int32) (x5 : Int32) (h : xH) : xle ((xGi h x0 12 48).bind fun v1 => if (((4 : Int32) * v1) + (3 : Int32)) < x5 then (xlet (x4 + (1 : Int32)) fun v2 => (xden S mX13_seeksFine 28 [(0, .ref x0), (1, .int x1), (2, .int x2), (3, .int x3), (4, .int v2)] [] h)) else (xqI (xM S mX13_size [.int x5] h) xth fun v4 h3 => if x1 < v4 then (xlet (x5 + (1 : Int32)) fun v5 => (xden S mX13_seeksFine 51 [(0, .ref x0), (1, .int x1), (2, .int x2), (3, .int x3), (4, .int x4), (5, .int v5)] [] h3)) else (xqI (xM S mX13_size [.int x4] h3) xth fun v7 h6 => if x1 < v7 then (xlet (x5 + (1 : Int32)) fun v8 => (xden S mX13_seeksFine 51 [(0, .ref x0), (1, .int x1), (2, .int x2), (3, .int x3), (4, .int x4), (5, .int v8)] [] h6)) else (xqI (xM S mX13_size [.int x5] h6) xth fun v10 h9 => xqI (xM S mX13_size [.int x4] h9) xth fun v12 h11 => if ¬ (v10 + v12) = x3 then (xlet (x5 + (1 : Int32)) fun v13 => (xden S mX13_seeksFine 51 [(0, .ref x0), (1, .int x1), (2, .int x2), (3, .int x3), (4, .int x4), (5, .int v13)] [] h11)) else ((xGr h11 x0 12 38).bind fun v14 => if xOb h11 x0 12 = true then xqI (xM S mX13_differ [.ref x0, .ref v14, .int x5, .int x4] h11) xth fun v17 h16 => if x2 < 0 then ((xP false 12 h16 x0 12 50 (.int x5)).bind fun h18 => (xP false 12 h18 x0 12 51 (.int x4)).bind fun h19 => xlet (x5 + (1 : Int32)) fun v20 => (xden S mX13_seeksFine 51 [(0, .ref x0), (1, .int x1), (2, .int v17), (3, .int x3), (4, .int x4), (5, .int v20)] [] h19)) else (if x2 ≤ v17 then (xlet (x5 + (1 : Int32)) fun v21 => (xden S mX13_seeksFine 51 [(0, .ref x0), (1, .int x1), (2, .int x2), (3, .int x3), (4, .int x4), (5, .int v21)] [] h16)) else ((xP false 12 h16 x0 12 50 (.int x5)).bind fun h22 => (xP false 12 h22 x0 12 51 (.int x4)).bind fun h23 => xlet (x5 + (1 : Int32)) fun v24 => (xden S mX13_seeksFine 51 [(0, .ref x0), (1, .int x1), (2, .int v17), (3, .int x3), (4, .int x4), (5, .int v24)] [] h23))) else none))))) (xden S mX13_seeksFine 51 [(0, .ref x0), (1, .int x1), (2, .int x2), (3, .int x3), (4, .int x4), (5, .int x5)] [] h) := by
  refine l_loc dX13_seeksFine_51 rfl rfl ?_
  refine l_ic dX13_seeksFine_53 kI_4 ?_
  refine l_loc dX13_seeksFine_54 rfl rfl ?_
  refine l_gi dX13_seeksFine_55 fl_12_350 (fun v1 => ?_)
  refine l_pure dX13_seeksFine_58 rfl rfl ?_
  refine l_ic dX13_seeksFine_59 kI_3 ?_
  refine l_pure dX13_seeksFine_60 rfl rfl ?_
  refine l_cgt (t := 142) dX13_seeksFine_61 rfl ?_ ?_
  · refine l_incl (al1 := fun v2 => [(4, .int v2), (0, .ref x0), (1, .int x1), (2, .int x2), (3, .int x3), (5, .int x5)]) dX13_seeksFine_142 rfl kI_1 rfl (fun _ => rfl) (fun v2 => ?_)
    refine l_goto (t := 28) dX13_seeksFine_145 rfl ?_
    exact l_al rfl ⟨rfl, rfl, rfl, rfl, rfl, trivial⟩
  · refine l_loc dX13_seeksFine_64 rfl rfl ?_
    refine l_cI dX13_seeksFine_66 rfl rfl rfl (l_xs cl_12_340 ko_mX13_size rfl rfl) rfl rfl nm_mX13_size (xhE_th rfl) (fun v4 h3 => ?_)
    refine l_loc dX13_seeksFine_69 rfl rfl ?_
    refine l_cgt (t := 136) dX13_seeksFine_70 rfl ?_ ?_
    · refine l_incl (al1 := fun v5 => [(5, .int v5), (0, .ref x0), (1, .int x1), (2, .int x2), (3, .int x3), (4, .int x4)]) dX13_seeksFine_136 rfl kI_1 rfl (fun _ => rfl) (fun v5 => ?_)
      refine l_goto (t := 51) dX13_seeksFine_139 rfl ?_
      exact l_al rfl ⟨rfl, rfl, rfl, rfl, rfl, rfl, trivial⟩
    · refine l_loc dX13_seeksFine_73 rfl rfl ?_
      refine l_cI dX13_seeksFine_75 rfl rfl rfl (l_xs cl_12_340 ko_mX13_size rfl rfl) rfl rfl nm_mX13_size (xhE_th rfl) (fun v7 h6 => ?_)
      refine l_loc dX13_seeksFine_78 rfl rfl ?_
      refine l_cgt (t := 136) dX13_seeksFine_79 rfl ?_ ?_
      · refine l_incl (al1 := fun v8 => [(5, .int v8), (0, .ref x0), (1, .int x1), (2, .int x2), (3, .int x3), (4, .int x4)]) dX13_seeksFine_136 rfl kI_1 rfl (fun _ => rfl) (fun v8 => ?_)
        refine l_goto (t := 51) dX13_seeksFine_139 rfl ?_
        exact l_al rfl ⟨rfl, rfl, rfl, rfl, rfl, rfl, trivial⟩
      · refine l_loc dX13_seeksFine_82 rfl rfl ?_
        refine l_cI dX13_seeksFine_84 rfl rfl rfl (l_xs cl_12_340 ko_mX13_size rfl rfl) rfl rfl nm_mX13_size (xhE_th rfl) (fun v10 h9 => ?_)
        refine l_loc dX13_seeksFine_87 rfl rfl ?_
        refine l_cI dX13_seeksFine_89 rfl rfl rfl (l_xs cl_12_340 ko_mX13_size rfl rfl) rfl rfl nm_mX13_size (xhE_th rfl) (fun v12 h11 => ?_)
        refine l_pure dX13_seeksFine_92 rfl rfl ?_
        refine l_loc dX13_seeksFine_93 rfl rfl ?_
        refine l_cne (t := 136) dX13_seeksFine_94 rfl ?_ ?_
        · refine l_incl (al1 := fun v13 => [(5, .int v13), (0, .ref x0), (1, .int x1), (2, .int x2), (3, .int x3), (4, .int x4)]) dX13_seeksFine_136 rfl kI_1 rfl (fun _ => rfl) (fun v13 => ?_)
          refine l_goto (t := 51) dX13_seeksFine_139 rfl ?_
          exact l_al rfl ⟨rfl, rfl, rfl, rfl, rfl, rfl, trivial⟩
        · refine l_loc dX13_seeksFine_97 rfl rfl ?_
          refine l_loc dX13_seeksFine_98 rfl rfl ?_
          refine l_gr dX13_seeksFine_99 fl_12_89 (fun v14 => ?_)
          refine l_loc dX13_seeksFine_102 rfl rfl ?_
          refine l_loc dX13_seeksFine_104 rfl rfl ?_
          refine l_ob fun q15 => ?_
          refine l_cI dX13_seeksFine_106 rfl rfl rfl (l_xv cl_12_356 ko_mX13_differ rfl rfl rfl q15) rfl rfl nm_mX13_differ (xhE_th rfl) (fun v17 h16 => ?_)
          refine l_loc (al1 := [(6, .int v17), (0, .ref x0), (1, .int x1), (2, .int x2), (3, .int x3), (4, .int x4), (5, .int x5)]) dX13_seeksFine_109 rfl rfl ?_
          refine l_loc dX13_seeksFine_111 rfl rfl ?_
          refine l_ilt (t := 121) dX13_seeksFine_112 rfl ?_ ?_
          · refine l_loc dX13_seeksFine_121 rfl rfl ?_
            refine l_loc (al1 := [(2, .int v17), (6, .int v17), (0, .ref x0), (1, .int x1), (3, .int x3), (4, .int x4), (5, .int x5)]) dX13_seeksFine_123 rfl rfl ?_
            refine l_loc dX13_seeksFine_124 rfl rfl ?_
            refine l_loc dX13_seeksFine_125 rfl rfl ?_
            refine l_pf dX13_seeksFine_127 fl_12_359 (ini := false) nm_mX13_seeksFine (fun h18 => ?_)
            refine l_loc dX13_seeksFine_130 rfl rfl ?_
            refine l_loc dX13_seeksFine_131 rfl rfl ?_
            refine l_pf dX13_seeksFine_133 fl_12_362 (ini := false) nm_mX13_seeksFine (fun h19 => ?_)
            refine l_incl (al1 := fun v20 => [(5, .int v20), (2, .int v17), (6, .int v17), (0, .ref x0), (1, .int x1), (3, .int x3), (4, .int x4)]) dX13_seeksFine_136 rfl kI_1 rfl (fun _ => rfl) (fun v20 => ?_)
            refine l_goto (t := 51) dX13_seeksFine_139 rfl ?_
            exact l_al rfl ⟨rfl, rfl, rfl, rfl, rfl, rfl, trivial⟩
          · refine l_loc dX13_seeksFine_115 rfl rfl ?_
            refine l_loc dX13_seeksFine_117 rfl rfl ?_
            refine l_cge (t := 136) dX13_seeksFine_118 rfl ?_ ?_
            · refine l_incl (al1 := fun v21 => [(5, .int v21), (6, .int v17), (0, .ref x0), (1, .int x1), (2, .int x2), (3, .int x3), (4, .int x4)]) dX13_seeksFine_136 rfl kI_1 rfl (fun _ => rfl) (fun v21 => ?_)
              refine l_goto (t := 51) dX13_seeksFine_139 rfl ?_
              exact l_al rfl ⟨rfl, rfl, rfl, rfl, rfl, rfl, trivial⟩
            · refine l_loc dX13_seeksFine_121 rfl rfl ?_
              refine l_loc (al1 := [(2, .int v17), (6, .int v17), (0, .ref x0), (1, .int x1), (3, .int x3), (4, .int x4), (5, .int x5)]) dX13_seeksFine_123 rfl rfl ?_
              refine l_loc dX13_seeksFine_124 rfl rfl ?_
              refine l_loc dX13_seeksFine_125 rfl rfl ?_
              refine l_pf dX13_seeksFine_127 fl_12_359 (ini := false) nm_mX13_seeksFine (fun h22 => ?_)
              refine l_loc dX13_seeksFine_130 rfl rfl ?_
              refine l_loc dX13_seeksFine_131 rfl rfl ?_
              refine l_pf dX13_seeksFine_133 fl_12_362 (ini := false) nm_mX13_seeksFine (fun h23 => ?_)
              refine l_incl (al1 := fun v24 => [(5, .int v24), (2, .int v17), (6, .int v17), (0, .ref x0), (1, .int x1), (3, .int x3), (4, .int x4)]) dX13_seeksFine_136 rfl kI_1 rfl (fun _ => rfl) (fun v24 => ?_)
              refine l_goto (t := 51) dX13_seeksFine_139 rfl ?_
              exact l_al rfl ⟨rfl, rfl, rfl, rfl, rfl, rfl, trivial⟩
set_option maxRecDepth 16000 in
theorem w_X13_differ (S : xS) (x0 : Nat) (x1 : Nat) (x2 : Int32) (x3 : Int32) (h : xH) : xle (xden S mX13_differ 6 [(0, .ref x0), (1, .ref x1), (2, .int x2), (3, .int x3), (4, .int (0 : Int32)), (5, .int (0 : Int32))] [] h) (xM S mX13_differ [.ref x0, .ref x1, .int x2, .int x3] h) := by
  show xle _ (xden S mX13_differ 0 [(0, .ref x0), (1, .ref x1), (2, .int x2), (3, .int x3)] [] h)
  refine l_ic dX13_differ_0 kI_0 ?_
  refine l_loc (al1 := [(4, .int (0 : Int32)), (0, .ref x0), (1, .ref x1), (2, .int x2), (3, .int x3)]) dX13_differ_1 rfl rfl ?_
  refine l_ic dX13_differ_3 kI_0 ?_
  refine l_loc (al1 := [(5, .int (0 : Int32)), (4, .int (0 : Int32)), (0, .ref x0), (1, .ref x1), (2, .int x2), (3, .int x3)]) dX13_differ_4 rfl rfl ?_
  exact l_al rfl ⟨rfl, rfl, rfl, rfl, rfl, rfl, trivial⟩
set_option maxRecDepth 16000 in
theorem w_X13_differ_6 (S : xS) (x0 : Nat) (x1 : Nat) (x2 : Int32) (x3 : Int32) (x4 : Int32) (x5 : Int32) (h : xH) : xle ((xGi h x0 12 1).bind fun v1 => if v1 ≤ x5 then (some (.inl (some (.int x4)), h, 0, 0)) else (xden S mX13_differ 18 [(0, .ref x0), (1, .ref x1), (2, .int x2), (3, .int x3), (4, .int x4), (5, .int x5), (6, .int (0 : Int32))] [] h)) (xden S mX13_differ 6 [(0, .ref x0), (1, .ref x1), (2, .int x2), (3, .int x3), (4, .int x4), (5, .int x5)] [] h) := by
  refine l_loc dX13_differ_6 rfl rfl ?_
  refine l_loc dX13_differ_8 rfl rfl ?_
  refine l_gi dX13_differ_9 fl_12_183 (fun v1 => ?_)
  refine l_cge (t := 108) dX13_differ_12 rfl ?_ ?_
  · refine l_loc dX13_differ_108 rfl rfl ?_
    exact l_iretn dX13_differ_110 rfl (by rfl)
  · refine l_ic dX13_differ_15 kI_0 ?_
    refine l_loc (al1 := [(6, .int (0 : Int32)), (0, .ref x0), (1, .ref x1), (2, .int x2), (3, .int x3), (4, .int x4), (5, .int x5)]) dX13_differ_16 rfl rfl ?_
    exact l_al rfl ⟨rfl, rfl, rfl, rfl, rfl, rfl, rfl, trivial⟩
set_option maxRecDepth 16000 in
theorem w_X13_differ_18 (S : xS) (x0 : Nat) (x1 : Nat) (x2 : Int32) (x3 : Int32) (x4 : Int32) (x5 : Int32) (x6 : Int32) (h : xH) : xle ((xGi h x0 12 0).bind fun v1 => if v1 ≤ x6 then (xlet (x5 + (1 : Int32)) fun v2 => (xden S mX13_differ 6 [(0, .ref x0), (1, .ref x1), (2, .int x2), (3, .int x3), (4, .int x4), (5, .int v2)] [] h)) else (if xOb h x0 12 = true then xqI (xM S mX13_isOn [.ref x0, .long (x6 + x2).toInt64, .long (x5 + x3).toInt64] h) xth fun v5 h4 => if v5 = 0 then ((xGr h4 x0 12 36).bind fun v6 => (xRi h4 2 v6 (((64 : Int32) * x5) + x6)).bind fun v7 => if ¬ (0 : Int32) = v7 then (xlet (x4 + (1 : Int32)) fun v8 => xlet (x6 + (1 : Int32)) fun v9 => (xden S mX13_differ 18 [(0, .ref x0), (1, .ref x1), (2, .int x2), (3, .int x3), (4, .int v8), (5, .int x5), (6, .int v9)] [] h4)) else (xlet (x4 + (0 : Int32)) fun v10 => xlet (x6 + (1 : Int32)) fun v11 => (xden S mX13_differ 18 [(0, .ref x0), (1, .ref x1), (2, .int x2), (3, .int x3), (4, .int v10), (5, .int x5), (6, .int v11)] [] h4))) else ((xRi h4 2 x1 ((((64 : Int32) * (x5 + x3)) + x6) + x2)).bind fun v12 => if v12 = 0 then ((xGr h4 x0 12 36).bind fun v13 => (xRi h4 2 v13 (((64 : Int32) * x5) + x6)).bind fun v14 => if ¬ (0 : Int32) = v14 then (xlet (x4 + (1 : Int32)) fun v15 => xlet (x6 + (1 : Int32)) fun v16 => (xden S mX13_differ 18 [(0, .ref x0), (1, .ref x1), (2, .int x2), (3, .int x3), (4, .int v15), (5, .int x5), (6, .int v16)] [] h4)) else (xlet (x4 + (0 : Int32)) fun v17 => xlet (x6 + (1 : Int32)) fun v18 => (xden S mX13_differ 18 [(0, .ref x0), (1, .ref x1), (2, .int x2), (3, .int x3), (4, .int v17), (5, .int x5), (6, .int v18)] [] h4))) else ((xGr h4 x0 12 36).bind fun v19 => (xRi h4 2 v19 (((64 : Int32) * x5) + x6)).bind fun v20 => if ¬ (1 : Int32) = v20 then (xlet (x4 + (1 : Int32)) fun v21 => xlet (x6 + (1 : Int32)) fun v22 => (xden S mX13_differ 18 [(0, .ref x0), (1, .ref x1), (2, .int x2), (3, .int x3), (4, .int v21), (5, .int x5), (6, .int v22)] [] h4)) else (xlet (x4 + (0 : Int32)) fun v23 => xlet (x6 + (1 : Int32)) fun v24 => (xden S mX13_differ 18 [(0, .ref x0), (1, .ref x1), (2, .int x2), (3, .int x3), (4, .int v23), (5, .int x5), (6, .int v24)] [] h4)))) else none)) (xden S mX13_differ 18 [(0, .ref x0), (1, .ref x1), (2, .int x2), (3, .int x3), (4, .int x4), (5, .int x5), (6, .int x6)] [] h) := by
  refine l_loc dX13_differ_18 rfl rfl ?_
  refine l_loc dX13_differ_20 rfl rfl ?_
  refine l_gi dX13_differ_21 fl_12_179 (fun v1 => ?_)
  refine l_cge (t := 102) dX13_differ_24 rfl ?_ ?_
  · refine l_incl (al1 := fun v2 => [(5, .int v2), (0, .ref x0), (1, .ref x1), (2, .int x2), (3, .int x3), (4, .int x4), (6, .int x6)]) dX13_differ_102 rfl kI_1 rfl (fun _ => rfl) (fun v2 => ?_)
    refine l_goto (t := 6) dX13_differ_105 rfl ?_
    exact l_al rfl ⟨rfl, rfl, rfl, rfl, rfl, rfl, trivial⟩
  · refine l_loc dX13_differ_27 rfl rfl ?_
    refine l_loc dX13_differ_28 rfl rfl ?_
    refine l_loc dX13_differ_30 rfl rfl ?_
    refine l_pure dX13_differ_31 rfl rfl ?_
    refine l_pure dX13_differ_32 rfl rfl ?_
    refine l_loc dX13_differ_33 rfl rfl ?_
    refine l_loc dX13_differ_35 rfl rfl ?_
    refine l_pure dX13_differ_36 rfl rfl ?_
    refine l_pure dX13_differ_37 rfl rfl ?_
    refine l_ob fun q3 => ?_
    refine l_cI dX13_differ_38 rfl rfl rfl (l_xv cl_12_195 ko_mX13_isOn rfl rfl rfl q3) rfl rfl nm_mX13_isOn (xhE_th rfl) (fun v5 h4 => ?_)
    refine l_ieq (t := 65) dX13_differ_41 rfl ?_ ?_
    · refine l_ic dX13_differ_65 kI_0 ?_
      refine l_loc (al1 := [(7, .int (0 : Int32)), (0, .ref x0), (1, .ref x1), (2, .int x2), (3, .int x3), (4, .int x4), (5, .int x5), (6, .int x6)]) dX13_differ_66 rfl rfl ?_
      refine l_loc dX13_differ_68 rfl rfl ?_
      refine l_loc dX13_differ_70 rfl rfl ?_
      refine l_loc dX13_differ_72 rfl rfl ?_
      refine l_gr dX13_differ_73 fl_12_83 (fun v6 => ?_)
      refine l_bi dX13_differ_76 kB_64 ?_
      refine l_loc dX13_differ_78 rfl rfl ?_
      refine l_pure dX13_differ_80 rfl rfl ?_
      refine l_loc dX13_differ_81 rfl rfl ?_
      refine l_pure dX13_differ_83 rfl rfl ?_
      refine l_rz dX13_differ_84 (fun v7 => ?_)
      refine l_cne (t := 92) dX13_differ_85 rfl ?_ ?_
      · refine l_ic dX13_differ_92 kI_1 ?_
        refine l_pure dX13_differ_93 rfl rfl ?_
        refine l_isl (al1 := fun v8 => [(4, .int v8), (7, .int (0 : Int32)), (0, .ref x0), (1, .ref x1), (2, .int x2), (3, .int x3), (5, .int x5), (6, .int x6)]) dX13_differ_94 rfl (fun _ => rfl) (fun v8 => ?_)
        refine l_incl (al1 := fun v9 => [(6, .int v9), (4, .int v8), (7, .int (0 : Int32)), (0, .ref x0), (1, .ref x1), (2, .int x2), (3, .int x3), (5, .int x5)]) dX13_differ_96 rfl kI_1 rfl (fun _ => rfl) (fun v9 => ?_)
        refine l_goto (t := 18) dX13_differ_99 rfl ?_
        exact l_al rfl ⟨rfl, rfl, rfl, rfl, rfl, rfl, rfl, trivial⟩
      · refine l_ic dX13_differ_88 kI_0 ?_
        refine l_goto (t := 93) dX13_differ_89 rfl ?_
        refine l_pure dX13_differ_93 rfl rfl ?_
        refine l_isl (al1 := fun v10 => [(4, .int v10), (7, .int (0 : Int32)), (0, .ref x0), (1, .ref x1), (2, .int x2), (3, .int x3), (5, .int x5), (6, .int x6)]) dX13_differ_94 rfl (fun _ => rfl) (fun v10 => ?_)
        refine l_incl (al1 := fun v11 => [(6, .int v11), (4, .int v10), (7, .int (0 : Int32)), (0, .ref x0), (1, .ref x1), (2, .int x2), (3, .int x3), (5, .int x5)]) dX13_differ_96 rfl kI_1 rfl (fun _ => rfl) (fun v11 => ?_)
        refine l_goto (t := 18) dX13_differ_99 rfl ?_
        exact l_al rfl ⟨rfl, rfl, rfl, rfl, rfl, rfl, rfl, trivial⟩
    · refine l_loc dX13_differ_44 rfl rfl ?_
      refine l_bi dX13_differ_45 kB_64 ?_
      refine l_loc dX13_differ_47 rfl rfl ?_
      refine l_loc dX13_differ_49 rfl rfl ?_
      refine l_pure dX13_differ_50 rfl rfl ?_
      refine l_pure dX13_differ_51 rfl rfl ?_
      refine l_loc dX13_differ_52 rfl rfl ?_
      refine l_pure dX13_differ_54 rfl rfl ?_
      refine l_loc dX13_differ_55 rfl rfl ?_
      refine l_pure dX13_differ_56 rfl rfl ?_
      refine l_rz dX13_differ_57 (fun v12 => ?_)
      refine l_ieq (t := 65) dX13_differ_58 rfl ?_ ?_
      · refine l_ic dX13_differ_65 kI_0 ?_
        refine l_loc (al1 := [(7, .int (0 : Int32)), (0, .ref x0), (1, .ref x1), (2, .int x2), (3, .int x3), (4, .int x4), (5, .int x5), (6, .int x6)]) dX13_differ_66 rfl rfl ?_
        refine l_loc dX13_differ_68 rfl rfl ?_
        refine l_loc dX13_differ_70 rfl rfl ?_
        refine l_loc dX13_differ_72 rfl rfl ?_
        refine l_gr dX13_differ_73 fl_12_83 (fun v13 => ?_)
        refine l_bi dX13_differ_76 kB_64 ?_
        refine l_loc dX13_differ_78 rfl rfl ?_
        refine l_pure dX13_differ_80 rfl rfl ?_
        refine l_loc dX13_differ_81 rfl rfl ?_
        refine l_pure dX13_differ_83 rfl rfl ?_
        refine l_rz dX13_differ_84 (fun v14 => ?_)
        refine l_cne (t := 92) dX13_differ_85 rfl ?_ ?_
        · refine l_ic dX13_differ_92 kI_1 ?_
          refine l_pure dX13_differ_93 rfl rfl ?_
          refine l_isl (al1 := fun v15 => [(4, .int v15), (7, .int (0 : Int32)), (0, .ref x0), (1, .ref x1), (2, .int x2), (3, .int x3), (5, .int x5), (6, .int x6)]) dX13_differ_94 rfl (fun _ => rfl) (fun v15 => ?_)
          refine l_incl (al1 := fun v16 => [(6, .int v16), (4, .int v15), (7, .int (0 : Int32)), (0, .ref x0), (1, .ref x1), (2, .int x2), (3, .int x3), (5, .int x5)]) dX13_differ_96 rfl kI_1 rfl (fun _ => rfl) (fun v16 => ?_)
          refine l_goto (t := 18) dX13_differ_99 rfl ?_
          exact l_al rfl ⟨rfl, rfl, rfl, rfl, rfl, rfl, rfl, trivial⟩
        · refine l_ic dX13_differ_88 kI_0 ?_
          refine l_goto (t := 93) dX13_differ_89 rfl ?_
          refine l_pure dX13_differ_93 rfl rfl ?_
          refine l_isl (al1 := fun v17 => [(4, .int v17), (7, .int (0 : Int32)), (0, .ref x0), (1, .ref x1), (2, .int x2), (3, .int x3), (5, .int x5), (6, .int x6)]) dX13_differ_94 rfl (fun _ => rfl) (fun v17 => ?_)
          refine l_incl (al1 := fun v18 => [(6, .int v18), (4, .int v17), (7, .int (0 : Int32)), (0, .ref x0), (1, .ref x1), (2, .int x2), (3, .int x3), (5, .int x5)]) dX13_differ_96 rfl kI_1 rfl (fun _ => rfl) (fun v18 => ?_)
          refine l_goto (t := 18) dX13_differ_99 rfl ?_
          exact l_al rfl ⟨rfl, rfl, rfl, rfl, rfl, rfl, rfl, trivial⟩
      · refine l_ic dX13_differ_61 kI_1 ?_
        refine l_goto (t := 66) dX13_differ_62 rfl ?_
        refine l_loc (al1 := [(7, .int (1 : Int32)), (0, .ref x0), (1, .ref x1), (2, .int x2), (3, .int x3), (4, .int x4), (5, .int x5), (6, .int x6)]) dX13_differ_66 rfl rfl ?_
        refine l_loc dX13_differ_68 rfl rfl ?_
        refine l_loc dX13_differ_70 rfl rfl ?_
        refine l_loc dX13_differ_72 rfl rfl ?_
        refine l_gr dX13_differ_73 fl_12_83 (fun v19 => ?_)
        refine l_bi dX13_differ_76 kB_64 ?_
        refine l_loc dX13_differ_78 rfl rfl ?_
        refine l_pure dX13_differ_80 rfl rfl ?_
        refine l_loc dX13_differ_81 rfl rfl ?_
        refine l_pure dX13_differ_83 rfl rfl ?_
        refine l_rz dX13_differ_84 (fun v20 => ?_)
        refine l_cne (t := 92) dX13_differ_85 rfl ?_ ?_
        · refine l_ic dX13_differ_92 kI_1 ?_
          refine l_pure dX13_differ_93 rfl rfl ?_
          refine l_isl (al1 := fun v21 => [(4, .int v21), (7, .int (1 : Int32)), (0, .ref x0), (1, .ref x1), (2, .int x2), (3, .int x3), (5, .int x5), (6, .int x6)]) dX13_differ_94 rfl (fun _ => rfl) (fun v21 => ?_)
          refine l_incl (al1 := fun v22 => [(6, .int v22), (4, .int v21), (7, .int (1 : Int32)), (0, .ref x0), (1, .ref x1), (2, .int x2), (3, .int x3), (5, .int x5)]) dX13_differ_96 rfl kI_1 rfl (fun _ => rfl) (fun v22 => ?_)
          refine l_goto (t := 18) dX13_differ_99 rfl ?_
          exact l_al rfl ⟨rfl, rfl, rfl, rfl, rfl, rfl, rfl, trivial⟩
        · refine l_ic dX13_differ_88 kI_0 ?_
          refine l_goto (t := 93) dX13_differ_89 rfl ?_
          refine l_pure dX13_differ_93 rfl rfl ?_
          refine l_isl (al1 := fun v23 => [(4, .int v23), (7, .int (1 : Int32)), (0, .ref x0), (1, .ref x1), (2, .int x2), (3, .int x3), (5, .int x5), (6, .int x6)]) dX13_differ_94 rfl (fun _ => rfl) (fun v23 => ?_)
          refine l_incl (al1 := fun v24 => [(6, .int v24), (4, .int v23), (7, .int (1 : Int32)), (0, .ref x0), (1, .ref x1), (2, .int x2), (3, .int x3), (5, .int x5)]) dX13_differ_96 rfl kI_1 rfl (fun _ => rfl) (fun v24 => ?_)
          refine l_goto (t := 18) dX13_differ_99 rfl ?_
          exact l_al rfl ⟨rfl, rfl, rfl, rfl, rfl, rfl, rfl, trivial⟩
set_option maxRecDepth 16000 in
theorem w_X13_findsDifferences (S : xS) (x0 : Nat) (h : xH) : xle ((xGr h x0 12 14).bind fun v1 => (xRi h 0 v1 (0 : Int32)).bind fun v2 => (xP false 12 h x0 12 54 (.int v2)).bind fun h3 => (xGi h3 x0 12 0).bind fun v4 => (xGi h3 x0 12 54).bind fun v5 => (xGi h3 x0 12 54).bind fun v6 => if v6 = 0 then none else (xP false 12 h3 x0 12 55 (.int (((v4 + v5) - (1 : Int32)) / v6))).bind fun h7 => (xGi h7 x0 12 1).bind fun v8 => (xGi h7 x0 12 54).bind fun v9 => (xGi h7 x0 12 54).bind fun v10 => if v10 = 0 then none else (xP false 12 h7 x0 12 56 (.int (((v8 + v9) - (1 : Int32)) / v10))).bind fun h11 => (xden S mX13_findsDifferences 52 [(0, .ref x0), (1, .int (0 : Int32))] [] h11)) (xM S mX13_findsDifferences [.ref x0] h) := by
  show xle _ (xden S mX13_findsDifferences 0 [(0, .ref x0)] [] h)
  refine l_loc dX13_findsDifferences_0 rfl rfl ?_
  refine l_loc dX13_findsDifferences_1 rfl rfl ?_
  refine l_gr dX13_findsDifferences_2 fl_12_33 (fun v1 => ?_)
  refine l_ic dX13_findsDifferences_5 kI_0 ?_
  refine l_ri dX13_findsDifferences_6 (fun v2 => ?_)
  refine l_pf dX13_findsDifferences_7 fl_12_391 (ini := false) nm_mX13_findsDifferences (fun h3 => ?_)
  refine l_loc dX13_findsDifferences_10 rfl rfl ?_
  refine l_loc dX13_findsDifferences_11 rfl rfl ?_
  refine l_gi dX13_findsDifferences_12 fl_12_179 (fun v4 => ?_)
  refine l_loc dX13_findsDifferences_15 rfl rfl ?_
  refine l_gi dX13_findsDifferences_16 fl_12_391 (fun v5 => ?_)
  refine l_pure dX13_findsDifferences_19 rfl rfl ?_
  refine l_ic dX13_findsDifferences_20 kI_1 ?_
  refine l_pure dX13_findsDifferences_21 rfl rfl ?_
  refine l_loc dX13_findsDifferences_22 rfl rfl ?_
  refine l_gi dX13_findsDifferences_23 fl_12_391 (fun v6 => ?_)
  refine l_div dX13_findsDifferences_26 ?_
  refine l_pf dX13_findsDifferences_27 fl_12_394 (ini := false) nm_mX13_findsDifferences (fun h7 => ?_)
  refine l_loc dX13_findsDifferences_30 rfl rfl ?_
  refine l_loc dX13_findsDifferences_31 rfl rfl ?_
  refine l_gi dX13_findsDifferences_32 fl_12_183 (fun v8 => ?_)
  refine l_loc dX13_findsDifferences_35 rfl rfl ?_
  refine l_gi dX13_findsDifferences_36 fl_12_391 (fun v9 => ?_)
  refine l_pure dX13_findsDifferences_39 rfl rfl ?_
  refine l_ic dX13_findsDifferences_40 kI_1 ?_
  refine l_pure dX13_findsDifferences_41 rfl rfl ?_
  refine l_loc dX13_findsDifferences_42 rfl rfl ?_
  refine l_gi dX13_findsDifferences_43 fl_12_391 (fun v10 => ?_)
  refine l_div dX13_findsDifferences_46 ?_
  refine l_pf dX13_findsDifferences_47 fl_12_397 (ini := false) nm_mX13_findsDifferences (fun h11 => ?_)
  refine l_ic dX13_findsDifferences_50 kI_0 ?_
  refine l_loc (al1 := [(1, .int (0 : Int32)), (0, .ref x0)]) dX13_findsDifferences_51 rfl rfl ?_
  exact l_al rfl ⟨rfl, rfl, trivial⟩
set_option maxRecDepth 16000 in
theorem w_X13_findsDifferences_52 (S : xS) (x0 : Nat) (x1 : Int32) (h : xH) : xle (if (256 : Int32) ≤ x1 then (xden S mX13_findsDifferences 74 [(0, .ref x0), (1, .int (0 : Int32))] [] h) else ((xGr h x0 12 57).bind fun v1 => (xWi h v1 x1 (0 : Int32)).bind fun h2 => xlet (x1 + (1 : Int32)) fun v3 => (xden S mX13_findsDifferences 52 [(0, .ref x0), (1, .int v3)] [] h2))) (xden S mX13_findsDifferences 52 [(0, .ref x0), (1, .int x1)] [] h) := by
  refine l_loc dX13_findsDifferences_52 rfl rfl ?_
  refine l_si dX13_findsDifferences_53 kS_256 ?_
  refine l_cge (t := 72) dX13_findsDifferences_56 rfl ?_ ?_
  · refine l_ic dX13_findsDifferences_72 kI_0 ?_
    refine l_loc (al1 := [(1, .int (0 : Int32)), (0, .ref x0)]) dX13_findsDifferences_73 rfl rfl ?_
    exact l_al rfl ⟨rfl, rfl, trivial⟩
  · refine l_loc dX13_findsDifferences_59 rfl rfl ?_
    refine l_gr dX13_findsDifferences_60 fl_12_110 (fun v1 => ?_)
    refine l_loc dX13_findsDifferences_63 rfl rfl ?_
    refine l_ic dX13_findsDifferences_64 kI_0 ?_
    refine l_wi dX13_findsDifferences_65 (fun h2 => ?_)
    refine l_incl (al1 := fun v3 => [(1, .int v3), (0, .ref x0)]) dX13_findsDifferences_66 rfl kI_1 rfl (fun _ => rfl) (fun v3 => ?_)
    refine l_goto (t := 52) dX13_findsDifferences_69 rfl ?_
    exact l_al rfl ⟨rfl, rfl, trivial⟩
set_option maxRecDepth 16000 in
theorem w_X13_findsDifferences_74 (S : xS) (x0 : Nat) (x1 : Int32) (h : xH) : xle (if (4096 : Int32) ≤ x1 then (some (.inl none, h, 0, 0)) else (if xOb h x0 12 = true then xqI (xM S mX13_isOn [.ref x0, .long (x1 - x1 / (64 : Int32) * (64 : Int32)).toInt64, .long (x1 / (64 : Int32)).toInt64] h) xth fun v3 h2 => if v3 = 0 then ((xGr h2 x0 12 52).bind fun v4 => if (0 : Int32) = 0 then (xden S mX13_findsDifferences 147 [(0, .ref x0), (1, .int x1), (2, .int (0 : Int32))] [.int (0 : Int32), .int x1, .ref v4] h2) else ((xGr h2 x0 12 36).bind fun v5 => (xRi h2 2 v5 x1).bind fun v6 => if v6 = 0 then (xden S mX13_findsDifferences 147 [(0, .ref x0), (1, .int x1), (2, .int (0 : Int32))] [.int (0 : Int32), .int x1, .ref v4] h2) else ((xGr h2 x0 12 39).bind fun v7 => if xOb h2 x0 12 = true then xqI (xM S mX13_isNear [.ref x0, .ref v7, .int x1] h2) xth fun v10 h9 => if ¬ v10 = 0 then (xden S mX13_findsDifferences 147 [(0, .ref x0), (1, .int x1), (2, .int (0 : Int32))] [.int (0 : Int32), .int x1, .ref v4] h9) else (xden S mX13_findsDifferences 147 [(0, .ref x0), (1, .int x1), (2, .int (0 : Int32))] [.int (1 : Int32), .int x1, .ref v4] h9) else none))) else (if xOb h2 x0 12 = true then xqI (xM S mX13_isMasked [.ref x0, .int x1] h2) xth fun v13 h12 => if ¬ v13 = 0 then ((xGr h12 x0 12 52).bind fun v14 => if (0 : Int32) = 0 then (xden S mX13_findsDifferences 147 [(0, .ref x0), (1, .int x1), (2, .int (0 : Int32))] [.int (0 : Int32), .int x1, .ref v14] h12) else ((xGr h12 x0 12 36).bind fun v15 => (xRi h12 2 v15 x1).bind fun v16 => if v16 = 0 then (xden S mX13_findsDifferences 147 [(0, .ref x0), (1, .int x1), (2, .int (0 : Int32))] [.int (0 : Int32), .int x1, .ref v14] h12) else ((xGr h12 x0 12 39).bind fun v17 => if xOb h12 x0 12 = true then xqI (xM S mX13_isNear [.ref x0, .ref v17, .int x1] h12) xth fun v20 h19 => if ¬ v20 = 0 then (xden S mX13_findsDifferences 147 [(0, .ref x0), (1, .int x1), (2, .int (0 : Int32))] [.int (0 : Int32), .int x1, .ref v14] h19) else (xden S mX13_findsDifferences 147 [(0, .ref x0), (1, .int x1), (2, .int (0 : Int32))] [.int (1 : Int32), .int x1, .ref v14] h19) else none))) else ((xGr h12 x0 12 52).bind fun v21 => if (1 : Int32) = 0 then (xden S mX13_findsDifferences 147 [(0, .ref x0), (1, .int x1), (2, .int (1 : Int32))] [.int (0 : Int32), .int x1, .ref v21] h12) else ((xGr h12 x0 12 36).bind fun v22 => (xRi h12 2 v22 x1).bind fun v23 => if v23 = 0 then (xden S mX13_findsDifferences 147 [(0, .ref x0), (1, .int x1), (2, .int (1 : Int32))] [.int (0 : Int32), .int x1, .ref v21] h12) else ((xGr h12 x0 12 39).bind fun v24 => if xOb h12 x0 12 = true then xqI (xM S mX13_isNear [.ref x0, .ref v24, .int x1] h12) xth fun v27 h26 => if ¬ v27 = 0 then (xden S mX13_findsDifferences 147 [(0, .ref x0), (1, .int x1), (2, .int (1 : Int32))] [.int (0 : Int32), .int x1, .ref v21] h26) else (xden S mX13_findsDifferences 147 [(0, .ref x0), (1, .int x1), (2, .int (1 : Int32))] [.int (1 : Int32), .int x1, .ref v21] h26) else none))) else none) else none)) (xden S mX13_findsDifferences 74 [(0, .ref x0), (1, .int x1)] [] h) := by
  refine l_loc dX13_findsDifferences_74 rfl rfl ?_
  refine l_si dX13_findsDifferences_75 kS_4096 ?_
  refine l_cge (t := 222) dX13_findsDifferences_78 rfl ?_ ?_
  · exact l_end dX13_findsDifferences_222 rfl rfl
  · refine l_loc dX13_findsDifferences_81 rfl rfl ?_
    refine l_loc dX13_findsDifferences_82 rfl rfl ?_
    refine l_bi dX13_findsDifferences_83 kB_64 ?_
    refine l_remn dX13_findsDifferences_85 (by decide) ?_
    refine l_pure dX13_findsDifferences_86 rfl rfl ?_
    refine l_loc dX13_findsDifferences_87 rfl rfl ?_
    refine l_bi dX13_findsDifferences_88 kB_64 ?_
    refine l_divn dX13_findsDifferences_90 (by decide) ?_
    refine l_pure dX13_findsDifferences_91 rfl rfl ?_
    refine l_ob fun q1 => ?_
    refine l_cI dX13_findsDifferences_92 rfl rfl rfl (l_xv cl_12_195 ko_mX13_isOn rfl rfl rfl q1) rfl rfl nm_mX13_isOn (xhE_th rfl) (fun v3 h2 => ?_)
    refine l_ieq (t := 110) dX13_findsDifferences_95 rfl ?_ ?_
    · refine l_ic dX13_findsDifferences_110 kI_0 ?_
      refine l_loc (al1 := [(2, .int (0 : Int32)), (0, .ref x0), (1, .int x1)]) dX13_findsDifferences_111 rfl rfl ?_
      refine l_loc dX13_findsDifferences_112 rfl rfl ?_
      refine l_gr dX13_findsDifferences_113 fl_12_104 (fun v4 => ?_)
      refine l_loc dX13_findsDifferences_116 rfl rfl ?_
      refine l_loc dX13_findsDifferences_117 rfl rfl ?_
      refine l_ieq (t := 146) dX13_findsDifferences_118 rfl ?_ ?_
      · refine l_ic dX13_findsDifferences_146 kI_0 ?_
        exact l_al rfl ⟨rfl, rfl, rfl, trivial⟩
      · refine l_loc dX13_findsDifferences_121 rfl rfl ?_
        refine l_gr dX13_findsDifferences_122 fl_12_83 (fun v5 => ?_)
        refine l_loc dX13_findsDifferences_125 rfl rfl ?_
        refine l_rz dX13_findsDifferences_126 (fun v6 => ?_)
        refine l_ieq (t := 146) dX13_findsDifferences_127 rfl ?_ ?_
        · refine l_ic dX13_findsDifferences_146 kI_0 ?_
          exact l_al rfl ⟨rfl, rfl, rfl, trivial⟩
        · refine l_loc dX13_findsDifferences_130 rfl rfl ?_
          refine l_loc dX13_findsDifferences_131 rfl rfl ?_
          refine l_gr dX13_findsDifferences_132 fl_12_92 (fun v7 => ?_)
          refine l_loc dX13_findsDifferences_135 rfl rfl ?_
          refine l_ob fun q8 => ?_
          refine l_cI dX13_findsDifferences_136 rfl rfl rfl (l_xv cl_12_403 ko_mX13_isNear rfl rfl rfl q8) rfl rfl nm_mX13_isNear (xhE_th rfl) (fun v10 h9 => ?_)
          refine l_ine (t := 146) dX13_findsDifferences_139 rfl ?_ ?_
          · refine l_ic dX13_findsDifferences_146 kI_0 ?_
            exact l_al rfl ⟨rfl, rfl, rfl, trivial⟩
          · refine l_ic dX13_findsDifferences_142 kI_1 ?_
            refine l_goto (t := 147) dX13_findsDifferences_143 rfl ?_
            exact l_al rfl ⟨rfl, rfl, rfl, trivial⟩
    · refine l_loc dX13_findsDifferences_98 rfl rfl ?_
      refine l_loc dX13_findsDifferences_99 rfl rfl ?_
      refine l_ob fun q11 => ?_
      refine l_cI dX13_findsDifferences_100 rfl rfl rfl (l_xv cl_12_400 ko_mX13_isMasked rfl rfl rfl q11) rfl rfl nm_mX13_isMasked (xhE_th rfl) (fun v13 h12 => ?_)
      refine l_ine (t := 110) dX13_findsDifferences_103 rfl ?_ ?_
      · refine l_ic dX13_findsDifferences_110 kI_0 ?_
        refine l_loc (al1 := [(2, .int (0 : Int32)), (0, .ref x0), (1, .int x1)]) dX13_findsDifferences_111 rfl rfl ?_
        refine l_loc dX13_findsDifferences_112 rfl rfl ?_
        refine l_gr dX13_findsDifferences_113 fl_12_104 (fun v14 => ?_)
        refine l_loc dX13_findsDifferences_116 rfl rfl ?_
        refine l_loc dX13_findsDifferences_117 rfl rfl ?_
        refine l_ieq (t := 146) dX13_findsDifferences_118 rfl ?_ ?_
        · refine l_ic dX13_findsDifferences_146 kI_0 ?_
          exact l_al rfl ⟨rfl, rfl, rfl, trivial⟩
        · refine l_loc dX13_findsDifferences_121 rfl rfl ?_
          refine l_gr dX13_findsDifferences_122 fl_12_83 (fun v15 => ?_)
          refine l_loc dX13_findsDifferences_125 rfl rfl ?_
          refine l_rz dX13_findsDifferences_126 (fun v16 => ?_)
          refine l_ieq (t := 146) dX13_findsDifferences_127 rfl ?_ ?_
          · refine l_ic dX13_findsDifferences_146 kI_0 ?_
            exact l_al rfl ⟨rfl, rfl, rfl, trivial⟩
          · refine l_loc dX13_findsDifferences_130 rfl rfl ?_
            refine l_loc dX13_findsDifferences_131 rfl rfl ?_
            refine l_gr dX13_findsDifferences_132 fl_12_92 (fun v17 => ?_)
            refine l_loc dX13_findsDifferences_135 rfl rfl ?_
            refine l_ob fun q18 => ?_
            refine l_cI dX13_findsDifferences_136 rfl rfl rfl (l_xv cl_12_403 ko_mX13_isNear rfl rfl rfl q18) rfl rfl nm_mX13_isNear (xhE_th rfl) (fun v20 h19 => ?_)
            refine l_ine (t := 146) dX13_findsDifferences_139 rfl ?_ ?_
            · refine l_ic dX13_findsDifferences_146 kI_0 ?_
              exact l_al rfl ⟨rfl, rfl, rfl, trivial⟩
            · refine l_ic dX13_findsDifferences_142 kI_1 ?_
              refine l_goto (t := 147) dX13_findsDifferences_143 rfl ?_
              exact l_al rfl ⟨rfl, rfl, rfl, trivial⟩
      · refine l_ic dX13_findsDifferences_106 kI_1 ?_
        refine l_goto (t := 111) dX13_findsDifferences_107 rfl ?_
        refine l_loc (al1 := [(2, .int (1 : Int32)), (0, .ref x0), (1, .int x1)]) dX13_findsDifferences_111 rfl rfl ?_
        refine l_loc dX13_findsDifferences_112 rfl rfl ?_
        refine l_gr dX13_findsDifferences_113 fl_12_104 (fun v21 => ?_)
        refine l_loc dX13_findsDifferences_116 rfl rfl ?_
        refine l_loc dX13_findsDifferences_117 rfl rfl ?_
        refine l_ieq (t := 146) dX13_findsDifferences_118 rfl ?_ ?_
        · refine l_ic dX13_findsDifferences_146 kI_0 ?_
          exact l_al rfl ⟨rfl, rfl, rfl, trivial⟩
        · refine l_loc dX13_findsDifferences_121 rfl rfl ?_
          refine l_gr dX13_findsDifferences_122 fl_12_83 (fun v22 => ?_)
          refine l_loc dX13_findsDifferences_125 rfl rfl ?_
          refine l_rz dX13_findsDifferences_126 (fun v23 => ?_)
          refine l_ieq (t := 146) dX13_findsDifferences_127 rfl ?_ ?_
          · refine l_ic dX13_findsDifferences_146 kI_0 ?_
            exact l_al rfl ⟨rfl, rfl, rfl, trivial⟩
          · refine l_loc dX13_findsDifferences_130 rfl rfl ?_
            refine l_loc dX13_findsDifferences_131 rfl rfl ?_
            refine l_gr dX13_findsDifferences_132 fl_12_92 (fun v24 => ?_)
            refine l_loc dX13_findsDifferences_135 rfl rfl ?_
            refine l_ob fun q25 => ?_
            refine l_cI dX13_findsDifferences_136 rfl rfl rfl (l_xv cl_12_403 ko_mX13_isNear rfl rfl rfl q25) rfl rfl nm_mX13_isNear (xhE_th rfl) (fun v27 h26 => ?_)
            refine l_ine (t := 146) dX13_findsDifferences_139 rfl ?_ ?_
            · refine l_ic dX13_findsDifferences_146 kI_0 ?_
              exact l_al rfl ⟨rfl, rfl, rfl, trivial⟩
            · refine l_ic dX13_findsDifferences_142 kI_1 ?_
              refine l_goto (t := 147) dX13_findsDifferences_143 rfl ?_
              exact l_al rfl ⟨rfl, rfl, rfl, trivial⟩
set_option maxRecDepth 16000 in
theorem w_X13_findsDifferences_147 (S : xS) (x0 : Nat) (x1 : Int32) (x2 : Int32) (z0 : Int32) (z1 : Int32) (z2 : Nat) (h : xH) : xle ((xWz h z2 z1 z0).bind fun h1 => (xGr h1 x0 12 53).bind fun v2 => if x2 = 0 then (xden S mX13_findsDifferences 183 [(0, .ref x0), (1, .int x1)] [.int (0 : Int32), .int x1, .ref v2] h1) else ((xGr h1 x0 12 39).bind fun v3 => (xRi h1 2 v3 x1).bind fun v4 => if v4 = 0 then (xden S mX13_findsDifferences 183 [(0, .ref x0), (1, .int x1)] [.int (0 : Int32), .int x1, .ref v2] h1) else ((xGr h1 x0 12 36).bind fun v5 => if xOb h1 x0 12 = true then xqI (xM S mX13_isNear [.ref x0, .ref v5, .int x1] h1) xth fun v8 h7 => if ¬ v8 = 0 then (xden S mX13_findsDifferences 183 [(0, .ref x0), (1, .int x1)] [.int (0 : Int32), .int x1, .ref v2] h7) else (xden S mX13_findsDifferences 183 [(0, .ref x0), (1, .int x1)] [.int (1 : Int32), .int x1, .ref v2] h7) else none))) (xden S mX13_findsDifferences 147 [(0, .ref x0), (1, .int x1), (2, .int x2)] [.int z0, .int z1, .ref z2] h) := by
  refine l_wz dX13_findsDifferences_147 (fun h1 => ?_)
  refine l_loc dX13_findsDifferences_148 rfl rfl ?_
  refine l_gr dX13_findsDifferences_149 fl_12_107 (fun v2 => ?_)
  refine l_loc dX13_findsDifferences_152 rfl rfl ?_
  refine l_loc dX13_findsDifferences_153 rfl rfl ?_
  refine l_ieq (t := 182) dX13_findsDifferences_154 rfl ?_ ?_
  · refine l_ic dX13_findsDifferences_182 kI_0 ?_
    exact l_al rfl ⟨rfl, rfl, trivial⟩
  · refine l_loc dX13_findsDifferences_157 rfl rfl ?_
    refine l_gr dX13_findsDifferences_158 fl_12_92 (fun v3 => ?_)
    refine l_loc dX13_findsDifferences_161 rfl rfl ?_
    refine l_rz dX13_findsDifferences_162 (fun v4 => ?_)
    refine l_ieq (t := 182) dX13_findsDifferences_163 rfl ?_ ?_
    · refine l_ic dX13_findsDifferences_182 kI_0 ?_
      exact l_al rfl ⟨rfl, rfl, trivial⟩
    · refine l_loc dX13_findsDifferences_166 rfl rfl ?_
      refine l_loc dX13_findsDifferences_167 rfl rfl ?_
      refine l_gr dX13_findsDifferences_168 fl_12_83 (fun v5 => ?_)
      refine l_loc dX13_findsDifferences_171 rfl rfl ?_
      refine l_ob fun q6 => ?_
      refine l_cI dX13_findsDifferences_172 rfl rfl rfl (l_xv cl_12_403 ko_mX13_isNear rfl rfl rfl q6) rfl rfl nm_mX13_isNear (xhE_th rfl) (fun v8 h7 => ?_)
      refine l_ine (t := 182) dX13_findsDifferences_175 rfl ?_ ?_
      · refine l_ic dX13_findsDifferences_182 kI_0 ?_
        exact l_al rfl ⟨rfl, rfl, trivial⟩
      · refine l_ic dX13_findsDifferences_178 kI_1 ?_
        refine l_goto (t := 183) dX13_findsDifferences_179 rfl ?_
        exact l_al rfl ⟨rfl, rfl, trivial⟩
set_option maxRecDepth 16000 in
theorem w_X13_findsDifferences_183 (S : xS) (x0 : Nat) (x1 : Int32) (z0 : Int32) (z1 : Int32) (z2 : Nat) (h : xH) : xle ((xWz h z2 z1 z0).bind fun h1 => (xGr h1 x0 12 52).bind fun v2 => (xRi h1 2 v2 x1).bind fun v3 => if ¬ v3 = 0 then (xden S mX13_findsDifferences 202 [(0, .ref x0), (1, .int x1)] [] h1) else ((xGr h1 x0 12 53).bind fun v4 => (xRi h1 2 v4 x1).bind fun v5 => if v5 = 0 then (xlet (x1 + (1 : Int32)) fun v6 => (xden S mX13_findsDifferences 74 [(0, .ref x0), (1, .int v6)] [] h1)) else (xden S mX13_findsDifferences 202 [(0, .ref x0), (1, .int x1)] [] h1))) (xden S mX13_findsDifferences 183 [(0, .ref x0), (1, .int x1)] [.int z0, .int z1, .ref z2] h) := by
  refine l_wz dX13_findsDifferences_183 (fun h1 => ?_)
  refine l_loc dX13_findsDifferences_184 rfl rfl ?_
  refine l_gr dX13_findsDifferences_185 fl_12_104 (fun v2 => ?_)
  refine l_loc dX13_findsDifferences_188 rfl rfl ?_
  refine l_rz dX13_findsDifferences_189 (fun v3 => ?_)
  refine l_ine (t := 202) dX13_findsDifferences_190 rfl ?_ ?_
  · exact l_al rfl ⟨rfl, rfl, trivial⟩
  · refine l_loc dX13_findsDifferences_193 rfl rfl ?_
    refine l_gr dX13_findsDifferences_194 fl_12_107 (fun v4 => ?_)
    refine l_loc dX13_findsDifferences_197 rfl rfl ?_
    refine l_rz dX13_findsDifferences_198 (fun v5 => ?_)
    refine l_ieq (t := 216) dX13_findsDifferences_199 rfl ?_ ?_
    · refine l_incl (al1 := fun v6 => [(1, .int v6), (0, .ref x0)]) dX13_findsDifferences_216 rfl kI_1 rfl (fun _ => rfl) (fun v6 => ?_)
      refine l_goto (t := 74) dX13_findsDifferences_219 rfl ?_
      exact l_al rfl ⟨rfl, rfl, trivial⟩
    · exact l_al rfl ⟨rfl, rfl, trivial⟩
set_option maxRecDepth 16000 in
theorem w_X13_findsDifferences_202 (S : xS) (x0 : Nat) (x1 : Int32) (h : xH) : xle ((xGr h x0 12 57).bind fun v1 => if xOb h x0 12 = true then xqI (xM S mX13_blockOf [.ref x0, .int x1] h) xth fun v4 h3 => (xRi h3 0 v1 v4).bind fun v5 => (xWi h3 v1 v4 (v5 + (1 : Int32))).bind fun h6 => xlet (x1 + (1 : Int32)) fun v7 => (xden S mX13_findsDifferences 74 [(0, .ref x0), (1, .int v7)] [] h6) else none) (xden S mX13_findsDifferences 202 [(0, .ref x0), (1, .int x1)] [] h) := by
  refine l_loc dX13_findsDifferences_202 rfl rfl ?_
  refine l_gr dX13_findsDifferences_203 fl_12_110 (fun v1 => ?_)
  refine l_loc dX13_findsDifferences_206 rfl rfl ?_
  refine l_loc dX13_findsDifferences_207 rfl rfl ?_
  refine l_ob fun q2 => ?_
  refine l_cI dX13_findsDifferences_208 rfl rfl rfl (l_xv cl_12_407 ko_mX13_blockOf rfl rfl rfl q2) rfl rfl nm_mX13_blockOf (xhE_th rfl) (fun v4 h3 => ?_)
  refine l_pure dX13_findsDifferences_211 rfl rfl ?_
  refine l_ri dX13_findsDifferences_212 (fun v5 => ?_)
  refine l_ic dX13_findsDifferences_213 kI_1 ?_
  refine l_pure dX13_findsDifferences_214 rfl rfl ?_
  refine l_wi dX13_findsDifferences_215 (fun h6 => ?_)
  refine l_incl (al1 := fun v7 => [(1, .int v7), (0, .ref x0)]) dX13_findsDifferences_216 rfl kI_1 rfl (fun _ => rfl) (fun v7 => ?_)
  refine l_goto (t := 74) dX13_findsDifferences_219 rfl ?_
  exact l_al rfl ⟨rfl, rfl, trivial⟩
set_option maxRecDepth 16000 in
theorem w_X13_isMasked (S : xS) (x0 : Nat) (x1 : Int32) (h : xH) : xle (xden S mX13_isMasked 4 [(0, .ref x0), (1, .int x1), (2, .int (0 : Int32)), (3, .int (0 : Int32))] [] h) (xM S mX13_isMasked [.ref x0, .int x1] h) := by
  show xle _ (xden S mX13_isMasked 0 [(0, .ref x0), (1, .int x1)] [] h)
  refine l_ic dX13_isMasked_0 kI_0 ?_
  refine l_loc (al1 := [(2, .int (0 : Int32)), (0, .ref x0), (1, .int x1)]) dX13_isMasked_1 rfl rfl ?_
  refine l_ic dX13_isMasked_2 kI_0 ?_
  refine l_loc (al1 := [(3, .int (0 : Int32)), (2, .int (0 : Int32)), (0, .ref x0), (1, .int x1)]) dX13_isMasked_3 rfl rfl ?_
  exact l_al rfl ⟨rfl, rfl, rfl, rfl, trivial⟩
set_option maxRecDepth 16000 in
theorem w_X13_isMasked_4 (S : xS) (x0 : Nat) (x1 : Int32) (x2 : Int32) (x3 : Int32) (h : xH) : xle ((xGi h x0 12 30).bind fun v1 => if v1 ≤ x3 then (if narrow .boolean (.int x2) = .int x2 then some (.inl (some (.int x2)), h, 0, 0) else none) else (if ¬ x2 = 0 then (xlet (x3 + (1 : Int32)) fun v2 => (xden S mX13_isMasked 4 [(0, .ref x0), (1, .int x1), (2, .int (1 : Int32)), (3, .int v2)] [] h)) else ((xGr h x0 12 26).bind fun v3 => (xRi h 0 v3 x3).bind fun v4 => (xGr h x0 12 27).bind fun v5 => (xRi h 0 v5 x3).bind fun v6 => (xGr h x0 12 28).bind fun v7 => (xRi h 0 v7 x3).bind fun v8 => (xGr h x0 12 29).bind fun v9 => (xRi h 0 v9 x3).bind fun v10 => xqI (xM S mX13_isWithin [.int x1, .int v4, .int v6, .int v8, .int v10] h) xth fun v12 h11 => if v12 = 0 then (xlet (x3 + (1 : Int32)) fun v13 => (xden S mX13_isMasked 4 [(0, .ref x0), (1, .int x1), (2, .int (0 : Int32)), (3, .int v13)] [] h11)) else (xlet (x3 + (1 : Int32)) fun v14 => (xden S mX13_isMasked 4 [(0, .ref x0), (1, .int x1), (2, .int (1 : Int32)), (3, .int v14)] [] h11))))) (xden S mX13_isMasked 4 [(0, .ref x0), (1, .int x1), (2, .int x2), (3, .int x3)] [] h) := by
  refine l_loc dX13_isMasked_4 rfl rfl ?_
  refine l_loc dX13_isMasked_5 rfl rfl ?_
  refine l_gi dX13_isMasked_6 fl_12_337 (fun v1 => ?_)
  refine l_cge (t := 59) dX13_isMasked_9 rfl ?_ ?_
  · refine l_loc dX13_isMasked_59 rfl rfl ?_
    exact l_iret dX13_isMasked_60 rfl
  · refine l_loc dX13_isMasked_12 rfl rfl ?_
    refine l_ine (t := 47) dX13_isMasked_13 rfl ?_ ?_
    · refine l_ic dX13_isMasked_47 kI_1 ?_
      refine l_goto (t := 52) dX13_isMasked_48 rfl ?_
      refine l_loc (al1 := [(2, .int (1 : Int32)), (0, .ref x0), (1, .int x1), (3, .int x3)]) dX13_isMasked_52 rfl rfl ?_
      refine l_incl (al1 := fun v2 => [(3, .int v2), (2, .int (1 : Int32)), (0, .ref x0), (1, .int x1)]) dX13_isMasked_53 rfl kI_1 rfl (fun _ => rfl) (fun v2 => ?_)
      refine l_goto (t := 4) dX13_isMasked_56 rfl ?_
      exact l_al rfl ⟨rfl, rfl, rfl, rfl, trivial⟩
    · refine l_loc dX13_isMasked_16 rfl rfl ?_
      refine l_loc dX13_isMasked_17 rfl rfl ?_
      refine l_gr dX13_isMasked_18 fl_12_62 (fun v3 => ?_)
      refine l_loc dX13_isMasked_21 rfl rfl ?_
      refine l_ri dX13_isMasked_22 (fun v4 => ?_)
      refine l_loc dX13_isMasked_23 rfl rfl ?_
      refine l_gr dX13_isMasked_24 fl_12_65 (fun v5 => ?_)
      refine l_loc dX13_isMasked_27 rfl rfl ?_
      refine l_ri dX13_isMasked_28 (fun v6 => ?_)
      refine l_loc dX13_isMasked_29 rfl rfl ?_
      refine l_gr dX13_isMasked_30 fl_12_68 (fun v7 => ?_)
      refine l_loc dX13_isMasked_33 rfl rfl ?_
      refine l_ri dX13_isMasked_34 (fun v8 => ?_)
      refine l_loc dX13_isMasked_35 rfl rfl ?_
      refine l_gr dX13_isMasked_36 fl_12_71 (fun v9 => ?_)
      refine l_loc dX13_isMasked_39 rfl rfl ?_
      refine l_ri dX13_isMasked_40 (fun v10 => ?_)
      refine l_cI dX13_isMasked_41 rfl rfl rfl (l_xs cl_12_220 ko_mX13_isWithin rfl rfl) rfl rfl nm_mX13_isWithin (xhE_th rfl) (fun v12 h11 => ?_)
      refine l_ieq (t := 51) dX13_isMasked_44 rfl ?_ ?_
      · refine l_ic dX13_isMasked_51 kI_0 ?_
        refine l_loc (al1 := [(2, .int (0 : Int32)), (0, .ref x0), (1, .int x1), (3, .int x3)]) dX13_isMasked_52 rfl rfl ?_
        refine l_incl (al1 := fun v13 => [(3, .int v13), (2, .int (0 : Int32)), (0, .ref x0), (1, .int x1)]) dX13_isMasked_53 rfl kI_1 rfl (fun _ => rfl) (fun v13 => ?_)
        refine l_goto (t := 4) dX13_isMasked_56 rfl ?_
        exact l_al rfl ⟨rfl, rfl, rfl, rfl, trivial⟩
      · refine l_ic dX13_isMasked_47 kI_1 ?_
        refine l_goto (t := 52) dX13_isMasked_48 rfl ?_
        refine l_loc (al1 := [(2, .int (1 : Int32)), (0, .ref x0), (1, .int x1), (3, .int x3)]) dX13_isMasked_52 rfl rfl ?_
        refine l_incl (al1 := fun v14 => [(3, .int v14), (2, .int (1 : Int32)), (0, .ref x0), (1, .int x1)]) dX13_isMasked_53 rfl kI_1 rfl (fun _ => rfl) (fun v14 => ?_)
        refine l_goto (t := 4) dX13_isMasked_56 rfl ?_
        exact l_al rfl ⟨rfl, rfl, rfl, rfl, trivial⟩
set_option maxRecDepth 16000 in
theorem w_X13_isNear (S : xS) (x0 : Nat) (x1 : Nat) (x2 : Int32) (h : xH) : xle ((xGr h x0 12 14).bind fun v1 => (xRi h 0 v1 (2 : Int32)).bind fun v2 => xlet ((x2 / (64 : Int32)) - v2) fun v3 => (xden S mX13_isNear 18 [(0, .ref x0), (1, .ref x1), (2, .int x2), (3, .int v2), (4, .int (0 : Int32)), (5, .int v3)] [] h)) (xM S mX13_isNear [.ref x0, .ref x1, .int x2] h) := by
  show xle _ (xden S mX13_isNear 0 [(0, .ref x0), (1, .ref x1), (2, .int x2)] [] h)
  refine l_loc dX13_isNear_0 rfl rfl ?_
  refine l_gr dX13_isNear_1 fl_12_33 (fun v1 => ?_)
  refine l_ic dX13_isNear_4 kI_2 ?_
  refine l_ri dX13_isNear_5 (fun v2 => ?_)
  refine l_loc (al1 := [(3, .int v2), (0, .ref x0), (1, .ref x1), (2, .int x2)]) dX13_isNear_6 rfl rfl ?_
  refine l_ic dX13_isNear_7 kI_0 ?_
  refine l_loc (al1 := [(4, .int (0 : Int32)), (3, .int v2), (0, .ref x0), (1, .ref x1), (2, .int x2)]) dX13_isNear_8 rfl rfl ?_
  refine l_loc dX13_isNear_10 rfl rfl ?_
  refine l_bi dX13_isNear_11 kB_64 ?_
  refine l_divn dX13_isNear_13 (by decide) ?_
  refine l_loc dX13_isNear_14 rfl rfl ?_
  refine l_pure dX13_isNear_15 rfl rfl ?_
  refine l_isl (al1 := fun v3 => [(5, .int v3), (4, .int (0 : Int32)), (3, .int v2), (0, .ref x0), (1, .ref x1), (2, .int x2)]) dX13_isNear_16 rfl (fun _ => rfl) (fun v3 => ?_)
  exact l_al rfl ⟨rfl, rfl, rfl, rfl, rfl, rfl, trivial⟩
set_option maxRecDepth 16000 in
theorem w_X13_isNear_18 (S : xS) (x0 : Nat) (x1 : Nat) (x2 : Int32) (x3 : Int32) (x4 : Int32) (x5 : Int32) (h : xH) : xle (if ((x2 / (64 : Int32)) + x3) < x5 then (if narrow .boolean (.int x4) = .int x4 then some (.inl (some (.int x4)), h, 0, 0) else none) else (xlet ((x2 - x2 / (64 : Int32) * (64 : Int32)) - x3) fun v1 => (xden S mX13_isNear 37 [(0, .ref x0), (1, .ref x1), (2, .int x2), (3, .int x3), (4, .int x4), (5, .int x5), (6, .int v1)] [] h))) (xden S mX13_isNear 18 [(0, .ref x0), (1, .ref x1), (2, .int x2), (3, .int x3), (4, .int x4), (5, .int x5)] [] h) := by
  refine l_loc dX13_isNear_18 rfl rfl ?_
  refine l_loc dX13_isNear_20 rfl rfl ?_
  refine l_bi dX13_isNear_21 kB_64 ?_
  refine l_divn dX13_isNear_23 (by decide) ?_
  refine l_loc dX13_isNear_24 rfl rfl ?_
  refine l_pure dX13_isNear_25 rfl rfl ?_
  refine l_cgt (t := 98) dX13_isNear_26 rfl ?_ ?_
  · refine l_loc dX13_isNear_98 rfl rfl ?_
    exact l_iret dX13_isNear_100 rfl
  · refine l_loc dX13_isNear_29 rfl rfl ?_
    refine l_bi dX13_isNear_30 kB_64 ?_
    refine l_remn dX13_isNear_32 (by decide) ?_
    refine l_loc dX13_isNear_33 rfl rfl ?_
    refine l_pure dX13_isNear_34 rfl rfl ?_
    refine l_isl (al1 := fun v1 => [(6, .int v1), (0, .ref x0), (1, .ref x1), (2, .int x2), (3, .int x3), (4, .int x4), (5, .int x5)]) dX13_isNear_35 rfl (fun _ => rfl) (fun v1 => ?_)
    exact l_al rfl ⟨rfl, rfl, rfl, rfl, rfl, rfl, rfl, trivial⟩
set_option maxRecDepth 16000 in
theorem w_X13_isNear_37 (S : xS) (x0 : Nat) (x1 : Nat) (x2 : Int32) (x3 : Int32) (x4 : Int32) (x5 : Int32) (x6 : Int32) (h : xH) : xle (if ((x2 - x2 / (64 : Int32) * (64 : Int32)) + x3) < x6 then (xlet (x5 + (1 : Int32)) fun v1 => (xden S mX13_isNear 18 [(0, .ref x0), (1, .ref x1), (2, .int x2), (3, .int x3), (4, .int x4), (5, .int v1)] [] h)) else (if ¬ x4 = 0 then (xlet (x6 + (1 : Int32)) fun v2 => (xden S mX13_isNear 37 [(0, .ref x0), (1, .ref x1), (2, .int x2), (3, .int x3), (4, .int (1 : Int32)), (5, .int x5), (6, .int v2)] [] h)) else (if xOb h x0 12 = true then xqI (xM S mX13_isOn [.ref x0, .long (x6.toInt64), .long (x5.toInt64)] h) xth fun v5 h4 => if v5 = 0 then (xlet (x6 + (1 : Int32)) fun v6 => (xden S mX13_isNear 37 [(0, .ref x0), (1, .ref x1), (2, .int x2), (3, .int x3), (4, .int (0 : Int32)), (5, .int x5), (6, .int v6)] [] h4)) else ((xRi h4 2 x1 (((64 : Int32) * x5) + x6)).bind fun v7 => if v7 = 0 then (xlet (x6 + (1 : Int32)) fun v8 => (xden S mX13_isNear 37 [(0, .ref x0), (1, .ref x1), (2, .int x2), (3, .int x3), (4, .int (0 : Int32)), (5, .int x5), (6, .int v8)] [] h4)) else (xlet (x6 + (1 : Int32)) fun v9 => (xden S mX13_isNear 37 [(0, .ref x0), (1, .ref x1), (2, .int x2), (3, .int x3), (4, .int (1 : Int32)), (5, .int x5), (6, .int v9)] [] h4))) else none))) (xden S mX13_isNear 37 [(0, .ref x0), (1, .ref x1), (2, .int x2), (3, .int x3), (4, .int x4), (5, .int x5), (6, .int x6)] [] h) := by
  refine l_loc dX13_isNear_37 rfl rfl ?_
  refine l_loc dX13_isNear_39 rfl rfl ?_
  refine l_bi dX13_isNear_40 kB_64 ?_
  refine l_remn dX13_isNear_42 (by decide) ?_
  refine l_loc dX13_isNear_43 rfl rfl ?_
  refine l_pure dX13_isNear_44 rfl rfl ?_
  refine l_cgt (t := 92) dX13_isNear_45 rfl ?_ ?_
  · refine l_incl (al1 := fun v1 => [(5, .int v1), (0, .ref x0), (1, .ref x1), (2, .int x2), (3, .int x3), (4, .int x4), (6, .int x6)]) dX13_isNear_92 rfl kI_1 rfl (fun _ => rfl) (fun v1 => ?_)
    refine l_goto (t := 18) dX13_isNear_95 rfl ?_
    exact l_al rfl ⟨rfl, rfl, rfl, rfl, rfl, rfl, trivial⟩
  · refine l_loc dX13_isNear_48 rfl rfl ?_
    refine l_ine (t := 79) dX13_isNear_50 rfl ?_ ?_
    · refine l_ic dX13_isNear_79 kI_1 ?_
      refine l_goto (t := 84) dX13_isNear_80 rfl ?_
      refine l_loc (al1 := [(4, .int (1 : Int32)), (0, .ref x0), (1, .ref x1), (2, .int x2), (3, .int x3), (5, .int x5), (6, .int x6)]) dX13_isNear_84 rfl rfl ?_
      refine l_incl (al1 := fun v2 => [(6, .int v2), (4, .int (1 : Int32)), (0, .ref x0), (1, .ref x1), (2, .int x2), (3, .int x3), (5, .int x5)]) dX13_isNear_86 rfl kI_1 rfl (fun _ => rfl) (fun v2 => ?_)
      refine l_goto (t := 37) dX13_isNear_89 rfl ?_
      exact l_al rfl ⟨rfl, rfl, rfl, rfl, rfl, rfl, rfl, trivial⟩
    · refine l_loc dX13_isNear_53 rfl rfl ?_
      refine l_loc dX13_isNear_54 rfl rfl ?_
      refine l_pure dX13_isNear_56 rfl rfl ?_
      refine l_loc dX13_isNear_57 rfl rfl ?_
      refine l_pure dX13_isNear_59 rfl rfl ?_
      refine l_ob fun q3 => ?_
      refine l_cI dX13_isNear_60 rfl rfl rfl (l_xv cl_12_195 ko_mX13_isOn rfl rfl rfl q3) rfl rfl nm_mX13_isOn (xhE_th rfl) (fun v5 h4 => ?_)
      refine l_ieq (t := 83) dX13_isNear_63 rfl ?_ ?_
      · refine l_ic dX13_isNear_83 kI_0 ?_
        refine l_loc (al1 := [(4, .int (0 : Int32)), (0, .ref x0), (1, .ref x1), (2, .int x2), (3, .int x3), (5, .int x5), (6, .int x6)]) dX13_isNear_84 rfl rfl ?_
        refine l_incl (al1 := fun v6 => [(6, .int v6), (4, .int (0 : Int32)), (0, .ref x0), (1, .ref x1), (2, .int x2), (3, .int x3), (5, .int x5)]) dX13_isNear_86 rfl kI_1 rfl (fun _ => rfl) (fun v6 => ?_)
        refine l_goto (t := 37) dX13_isNear_89 rfl ?_
        exact l_al rfl ⟨rfl, rfl, rfl, rfl, rfl, rfl, rfl, trivial⟩
      · refine l_loc dX13_isNear_66 rfl rfl ?_
        refine l_bi dX13_isNear_67 kB_64 ?_
        refine l_loc dX13_isNear_69 rfl rfl ?_
        refine l_pure dX13_isNear_71 rfl rfl ?_
        refine l_loc dX13_isNear_72 rfl rfl ?_
        refine l_pure dX13_isNear_74 rfl rfl ?_
        refine l_rz dX13_isNear_75 (fun v7 => ?_)
        refine l_ieq (t := 83) dX13_isNear_76 rfl ?_ ?_
        · refine l_ic dX13_isNear_83 kI_0 ?_
          refine l_loc (al1 := [(4, .int (0 : Int32)), (0, .ref x0), (1, .ref x1), (2, .int x2), (3, .int x3), (5, .int x5), (6, .int x6)]) dX13_isNear_84 rfl rfl ?_
          refine l_incl (al1 := fun v8 => [(6, .int v8), (4, .int (0 : Int32)), (0, .ref x0), (1, .ref x1), (2, .int x2), (3, .int x3), (5, .int x5)]) dX13_isNear_86 rfl kI_1 rfl (fun _ => rfl) (fun v8 => ?_)
          refine l_goto (t := 37) dX13_isNear_89 rfl ?_
          exact l_al rfl ⟨rfl, rfl, rfl, rfl, rfl, rfl, rfl, trivial⟩
        · refine l_ic dX13_isNear_79 kI_1 ?_
          refine l_goto (t := 84) dX13_isNear_80 rfl ?_
          refine l_loc (al1 := [(4, .int (1 : Int32)), (0, .ref x0), (1, .ref x1), (2, .int x2), (3, .int x3), (5, .int x5), (6, .int x6)]) dX13_isNear_84 rfl rfl ?_
          refine l_incl (al1 := fun v9 => [(6, .int v9), (4, .int (1 : Int32)), (0, .ref x0), (1, .ref x1), (2, .int x2), (3, .int x3), (5, .int x5)]) dX13_isNear_86 rfl kI_1 rfl (fun _ => rfl) (fun v9 => ?_)
          refine l_goto (t := 37) dX13_isNear_89 rfl ?_
          exact l_al rfl ⟨rfl, rfl, rfl, rfl, rfl, rfl, rfl, trivial⟩
set_option maxRecDepth 16000 in
theorem w_X13_blockOf (S : xS) (x0 : Nat) (x1 : Int32) (h : xH) : xle ((xGi h x0 12 54).bind fun v1 => if v1 = 0 then none else (xGi h x0 12 54).bind fun v2 => if v2 = 0 then none else some (.inl (some (.int (((16 : Int32) * ((x1 / (64 : Int32)) / v1)) + ((x1 - x1 / (64 : Int32) * (64 : Int32)) / v2)))), h, 0, 0)) (xM S mX13_blockOf [.ref x0, .int x1] h) := by
  show xle _ (xden S mX13_blockOf 0 [(0, .ref x0), (1, .int x1)] [] h)
  refine l_bi dX13_blockOf_0 kB_16 ?_
  refine l_loc dX13_blockOf_2 rfl rfl ?_
  refine l_bi dX13_blockOf_3 kB_64 ?_
  refine l_divn dX13_blockOf_5 (by decide) ?_
  refine l_loc dX13_blockOf_6 rfl rfl ?_
  refine l_gi dX13_blockOf_7 fl_12_391 (fun v1 => ?_)
  refine l_div dX13_blockOf_10 ?_
  refine l_pure dX13_blockOf_11 rfl rfl ?_
  refine l_loc dX13_blockOf_12 rfl rfl ?_
  refine l_bi dX13_blockOf_13 kB_64 ?_
  refine l_remn dX13_blockOf_15 (by decide) ?_
  refine l_loc dX13_blockOf_16 rfl rfl ?_
  refine l_gi dX13_blockOf_17 fl_12_391 (fun v2 => ?_)
  refine l_div dX13_blockOf_20 ?_
  refine l_pure dX13_blockOf_21 rfl rfl ?_
  exact l_iretn dX13_blockOf_22 rfl (by rfl)
set_option maxRecDepth 16000 in
theorem w_X13_findsRegions (S : xS) (x0 : Nat) (h : xH) : xle ((xGr h x0 12 14).bind fun v1 => (xRi h 0 v1 (1 : Int32)).bind fun v2 => if xOb h x0 12 = true then xqI (xM S mX13_joins [.ref x0, .int v2] h) xth fun v5 h4 => (xP false 12 h4 x0 12 59 (.int v5)).bind fun h6 => (xden S mX13_findsRegions 16 [(0, .ref x0), (1, .int (0 : Int32))] [] h6) else none) (xM S mX13_findsRegions [.ref x0] h) := by
  show xle _ (xden S mX13_findsRegions 0 [(0, .ref x0)] [] h)
  refine l_loc dX13_findsRegions_0 rfl rfl ?_
  refine l_loc dX13_findsRegions_1 rfl rfl ?_
  refine l_loc dX13_findsRegions_2 rfl rfl ?_
  refine l_gr dX13_findsRegions_3 fl_12_33 (fun v1 => ?_)
  refine l_ic dX13_findsRegions_6 kI_1 ?_
  refine l_ri dX13_findsRegions_7 (fun v2 => ?_)
  refine l_ob fun q3 => ?_
  refine l_cI dX13_findsRegions_8 rfl rfl rfl (l_xv cl_12_418 ko_mX13_joins rfl rfl rfl q3) rfl rfl nm_mX13_joins (xhE_th rfl) (fun v5 h4 => ?_)
  refine l_pf dX13_findsRegions_11 fl_12_421 (ini := false) nm_mX13_findsRegions (fun h6 => ?_)
  refine l_ic dX13_findsRegions_14 kI_0 ?_
  refine l_loc (al1 := [(1, .int (0 : Int32)), (0, .ref x0)]) dX13_findsRegions_15 rfl rfl ?_
  exact l_al rfl ⟨rfl, rfl, trivial⟩
set_option maxRecDepth 16000 in
theorem w_X13_findsRegions_16 (S : xS) (x0 : Nat) (x1 : Int32) (h : xH) : xle ((xGi h x0 12 59).bind fun v1 => if v1 ≤ x1 then (xden S mX13_findsRegions 62 [(0, .ref x0), (1, .int (0 : Int32))] [] h) else ((xGr h x0 12 60).bind fun v2 => (xWi h v2 x1 (64 : Int32)).bind fun h3 => (xGr h3 x0 12 61).bind fun v4 => (xWi h3 v4 x1 (64 : Int32)).bind fun h5 => (xGr h5 x0 12 62).bind fun v6 => (xWi h5 v6 x1 (-1 : Int32)).bind fun h7 => (xGr h7 x0 12 63).bind fun v8 => (xWi h7 v8 x1 (-1 : Int32)).bind fun h9 => xlet (x1 + (1 : Int32)) fun v10 => (xden S mX13_findsRegions 16 [(0, .ref x0), (1, .int v10)] [] h9))) (xden S mX13_findsRegions 16 [(0, .ref x0), (1, .int x1)] [] h) := by
  refine l_loc dX13_findsRegions_16 rfl rfl ?_
  refine l_loc dX13_findsRegions_17 rfl rfl ?_
  refine l_gi dX13_findsRegions_18 fl_12_421 (fun v1 => ?_)
  refine l_cge (t := 60) dX13_findsRegions_21 rfl ?_ ?_
  · refine l_ic dX13_findsRegions_60 kI_0 ?_
    refine l_loc (al1 := [(1, .int (0 : Int32)), (0, .ref x0)]) dX13_findsRegions_61 rfl rfl ?_
    exact l_al rfl ⟨rfl, rfl, trivial⟩
  · refine l_loc dX13_findsRegions_24 rfl rfl ?_
    refine l_gr dX13_findsRegions_25 fl_12_116 (fun v2 => ?_)
    refine l_loc dX13_findsRegions_28 rfl rfl ?_
    refine l_bi dX13_findsRegions_29 kB_64 ?_
    refine l_wi dX13_findsRegions_31 (fun h3 => ?_)
    refine l_loc dX13_findsRegions_32 rfl rfl ?_
    refine l_gr dX13_findsRegions_33 fl_12_119 (fun v4 => ?_)
    refine l_loc dX13_findsRegions_36 rfl rfl ?_
    refine l_bi dX13_findsRegions_37 kB_64 ?_
    refine l_wi dX13_findsRegions_39 (fun h5 => ?_)
    refine l_loc dX13_findsRegions_40 rfl rfl ?_
    refine l_gr dX13_findsRegions_41 fl_12_122 (fun v6 => ?_)
    refine l_loc dX13_findsRegions_44 rfl rfl ?_
    refine l_ic dX13_findsRegions_45 kI_m1 ?_
    refine l_wi dX13_findsRegions_46 (fun h7 => ?_)
    refine l_loc dX13_findsRegions_47 rfl rfl ?_
    refine l_gr dX13_findsRegions_48 fl_12_125 (fun v8 => ?_)
    refine l_loc dX13_findsRegions_51 rfl rfl ?_
    refine l_ic dX13_findsRegions_52 kI_m1 ?_
    refine l_wi dX13_findsRegions_53 (fun h9 => ?_)
    refine l_incl (al1 := fun v10 => [(1, .int v10), (0, .ref x0)]) dX13_findsRegions_54 rfl kI_1 rfl (fun _ => rfl) (fun v10 => ?_)
    refine l_goto (t := 16) dX13_findsRegions_57 rfl ?_
    exact l_al rfl ⟨rfl, rfl, trivial⟩
set_option maxRecDepth 16000 in
theorem w_X13_findsRegions_62 (S : xS) (x0 : Nat) (x1 : Int32) (h : xH) : xle (if (4096 : Int32) ≤ x1 then (if xOb h x0 12 = true then xqV (xM S mX13_ordersRegions [.ref x0] h) xth fun h2 => some (.inl none, h2, 0, 0) else none) else ((xGr h x0 12 52).bind fun v4 => (xRi h 2 v4 x1).bind fun v5 => if ¬ v5 = 0 then ((xGr h x0 12 58).bind fun v6 => if xOb h x0 12 = true then xqI (xM S mX13_blockOf [.ref x0, .int x1] h) xth fun v9 h8 => (xRi h8 0 v6 v9).bind fun v10 => (xden S mX13_findsRegions 101 [(0, .ref x0), (1, .int x1)] [.int v10] h8) else none) else ((xGr h x0 12 53).bind fun v11 => (xRi h 2 v11 x1).bind fun v12 => if v12 = 0 then (xden S mX13_findsRegions 101 [(0, .ref x0), (1, .int x1)] [.int (-1 : Int32)] h) else ((xGr h x0 12 58).bind fun v13 => if xOb h x0 12 = true then xqI (xM S mX13_blockOf [.ref x0, .int x1] h) xth fun v16 h15 => (xRi h15 0 v13 v16).bind fun v17 => (xden S mX13_findsRegions 101 [(0, .ref x0), (1, .int x1)] [.int v17] h15) else none)))) (xden S mX13_findsRegions 62 [(0, .ref x0), (1, .int x1)] [] h) := by
  refine l_loc dX13_findsRegions_62 rfl rfl ?_
  refine l_si dX13_findsRegions_63 kS_4096 ?_
  refine l_cge (t := 188) dX13_findsRegions_66 rfl ?_ ?_
  · refine l_loc dX13_findsRegions_188 rfl rfl ?_
    refine l_ob fun q1 => ?_
    refine l_cV dX13_findsRegions_189 rfl rfl rfl (l_xv cl_12_430 ko_mX13_ordersRegions rfl rfl rfl q1) rfl rfl nm_mX13_ordersRegions (xhE_th rfl) (fun h2 => ?_)
    exact l_end dX13_findsRegions_192 rfl rfl
  · refine l_loc dX13_findsRegions_69 rfl rfl ?_
    refine l_gr dX13_findsRegions_70 fl_12_104 (fun v4 => ?_)
    refine l_loc dX13_findsRegions_73 rfl rfl ?_
    refine l_rz dX13_findsRegions_74 (fun v5 => ?_)
    refine l_ine (t := 87) dX13_findsRegions_75 rfl ?_ ?_
    · refine l_loc dX13_findsRegions_87 rfl rfl ?_
      refine l_gr dX13_findsRegions_88 fl_12_113 (fun v6 => ?_)
      refine l_loc dX13_findsRegions_91 rfl rfl ?_
      refine l_loc dX13_findsRegions_92 rfl rfl ?_
      refine l_ob fun q7 => ?_
      refine l_cI dX13_findsRegions_93 rfl rfl rfl (l_xv cl_12_407 ko_mX13_blockOf rfl rfl rfl q7) rfl rfl nm_mX13_blockOf (xhE_th rfl) (fun v9 h8 => ?_)
      refine l_ri dX13_findsRegions_96 (fun v10 => ?_)
      refine l_goto (t := 101) dX13_findsRegions_97 rfl ?_
      exact l_al rfl ⟨rfl, rfl, trivial⟩
    · refine l_loc dX13_findsRegions_78 rfl rfl ?_
      refine l_gr dX13_findsRegions_79 fl_12_107 (fun v11 => ?_)
      refine l_loc dX13_findsRegions_82 rfl rfl ?_
      refine l_rz dX13_findsRegions_83 (fun v12 => ?_)
      refine l_ieq (t := 100) dX13_findsRegions_84 rfl ?_ ?_
      · refine l_ic dX13_findsRegions_100 kI_m1 ?_
        exact l_al rfl ⟨rfl, rfl, trivial⟩
      · refine l_loc dX13_findsRegions_87 rfl rfl ?_
        refine l_gr dX13_findsRegions_88 fl_12_113 (fun v13 => ?_)
        refine l_loc dX13_findsRegions_91 rfl rfl ?_
        refine l_loc dX13_findsRegions_92 rfl rfl ?_
        refine l_ob fun q14 => ?_
        refine l_cI dX13_findsRegions_93 rfl rfl rfl (l_xv cl_12_407 ko_mX13_blockOf rfl rfl rfl q14) rfl rfl nm_mX13_blockOf (xhE_th rfl) (fun v16 h15 => ?_)
        refine l_ri dX13_findsRegions_96 (fun v17 => ?_)
        refine l_goto (t := 101) dX13_findsRegions_97 rfl ?_
        exact l_al rfl ⟨rfl, rfl, trivial⟩
set_option maxRecDepth 16000 in
theorem w_X13_findsRegions_101 (S : xS) (x0 : Nat) (x1 : Int32) (z0 : Int32) (h : xH) : xle (if z0 < 0 then (xlet (x1 + (1 : Int32)) fun v1 => (xden S mX13_findsRegions 62 [(0, .ref x0), (1, .int v1)] [] h)) else ((xGr h x0 12 60).bind fun v2 => (xGr h x0 12 60).bind fun v3 => (xRi h 0 v3 z0).bind fun v4 => xqI (xM S mX13_lesser [.int v4, .int (x1 - x1 / (64 : Int32) * (64 : Int32))] h) xth fun v6 h5 => (xWi h5 v2 z0 v6).bind fun h7 => (xGr h7 x0 12 62).bind fun v8 => (xGr h7 x0 12 62).bind fun v9 => (xRi h7 0 v9 z0).bind fun v10 => xqI (xM S mX13_greater [.int v10, .int (x1 - x1 / (64 : Int32) * (64 : Int32))] h7) xth fun v12 h11 => (xWi h11 v8 z0 v12).bind fun h13 => (xGr h13 x0 12 61).bind fun v14 => (xGr h13 x0 12 61).bind fun v15 => (xRi h13 0 v15 z0).bind fun v16 => xqI (xM S mX13_lesser [.int v16, .int (x1 / (64 : Int32))] h13) xth fun v18 h17 => (xWi h17 v14 z0 v18).bind fun h19 => (xGr h19 x0 12 63).bind fun v20 => (xGr h19 x0 12 63).bind fun v21 => (xRi h19 0 v21 z0).bind fun v22 => xqI (xM S mX13_greater [.int v22, .int (x1 / (64 : Int32))] h19) xth fun v24 h23 => (xWi h23 v20 z0 v24).bind fun h25 => xlet (x1 + (1 : Int32)) fun v26 => (xden S mX13_findsRegions 62 [(0, .ref x0), (1, .int v26)] [] h25))) (xden S mX13_findsRegions 101 [(0, .ref x0), (1, .int x1)] [.int z0] h) := by
  refine l_loc (al1 := [(2, .int z0), (0, .ref x0), (1, .int x1)]) dX13_findsRegions_101 rfl rfl ?_
  refine l_loc dX13_findsRegions_102 rfl rfl ?_
  refine l_ilt (t := 182) dX13_findsRegions_103 rfl ?_ ?_
  · refine l_incl (al1 := fun v1 => [(1, .int v1), (2, .int z0), (0, .ref x0)]) dX13_findsRegions_182 rfl kI_1 rfl (fun _ => rfl) (fun v1 => ?_)
    refine l_goto (t := 62) dX13_findsRegions_185 rfl ?_
    exact l_al rfl ⟨rfl, rfl, trivial⟩
  · refine l_loc dX13_findsRegions_106 rfl rfl ?_
    refine l_gr dX13_findsRegions_107 fl_12_116 (fun v2 => ?_)
    refine l_loc dX13_findsRegions_110 rfl rfl ?_
    refine l_loc dX13_findsRegions_111 rfl rfl ?_
    refine l_gr dX13_findsRegions_112 fl_12_116 (fun v3 => ?_)
    refine l_loc dX13_findsRegions_115 rfl rfl ?_
    refine l_ri dX13_findsRegions_116 (fun v4 => ?_)
    refine l_loc dX13_findsRegions_117 rfl rfl ?_
    refine l_bi dX13_findsRegions_118 kB_64 ?_
    refine l_remn dX13_findsRegions_120 (by decide) ?_
    refine l_cI dX13_findsRegions_121 rfl rfl rfl (l_xs cl_12_424 ko_mX13_lesser rfl rfl) rfl rfl nm_mX13_lesser (xhE_th rfl) (fun v6 h5 => ?_)
    refine l_wi dX13_findsRegions_124 (fun h7 => ?_)
    refine l_loc dX13_findsRegions_125 rfl rfl ?_
    refine l_gr dX13_findsRegions_126 fl_12_122 (fun v8 => ?_)
    refine l_loc dX13_findsRegions_129 rfl rfl ?_
    refine l_loc dX13_findsRegions_130 rfl rfl ?_
    refine l_gr dX13_findsRegions_131 fl_12_122 (fun v9 => ?_)
    refine l_loc dX13_findsRegions_134 rfl rfl ?_
    refine l_ri dX13_findsRegions_135 (fun v10 => ?_)
    refine l_loc dX13_findsRegions_136 rfl rfl ?_
    refine l_bi dX13_findsRegions_137 kB_64 ?_
    refine l_remn dX13_findsRegions_139 (by decide) ?_
    refine l_cI dX13_findsRegions_140 rfl rfl rfl (l_xs cl_12_427 ko_mX13_greater rfl rfl) rfl rfl nm_mX13_greater (xhE_th rfl) (fun v12 h11 => ?_)
    refine l_wi dX13_findsRegions_143 (fun h13 => ?_)
    refine l_loc dX13_findsRegions_144 rfl rfl ?_
    refine l_gr dX13_findsRegions_145 fl_12_119 (fun v14 => ?_)
    refine l_loc dX13_findsRegions_148 rfl rfl ?_
    refine l_loc dX13_findsRegions_149 rfl rfl ?_
    refine l_gr dX13_findsRegions_150 fl_12_119 (fun v15 => ?_)
    refine l_loc dX13_findsRegions_153 rfl rfl ?_
    refine l_ri dX13_findsRegions_154 (fun v16 => ?_)
    refine l_loc dX13_findsRegions_155 rfl rfl ?_
    refine l_bi dX13_findsRegions_156 kB_64 ?_
    refine l_divn dX13_findsRegions_158 (by decide) ?_
    refine l_cI dX13_findsRegions_159 rfl rfl rfl (l_xs cl_12_424 ko_mX13_lesser rfl rfl) rfl rfl nm_mX13_lesser (xhE_th rfl) (fun v18 h17 => ?_)
    refine l_wi dX13_findsRegions_162 (fun h19 => ?_)
    refine l_loc dX13_findsRegions_163 rfl rfl ?_
    refine l_gr dX13_findsRegions_164 fl_12_125 (fun v20 => ?_)
    refine l_loc dX13_findsRegions_167 rfl rfl ?_
    refine l_loc dX13_findsRegions_168 rfl rfl ?_
    refine l_gr dX13_findsRegions_169 fl_12_125 (fun v21 => ?_)
    refine l_loc dX13_findsRegions_172 rfl rfl ?_
    refine l_ri dX13_findsRegions_173 (fun v22 => ?_)
    refine l_loc dX13_findsRegions_174 rfl rfl ?_
    refine l_bi dX13_findsRegions_175 kB_64 ?_
    refine l_divn dX13_findsRegions_177 (by decide) ?_
    refine l_cI dX13_findsRegions_178 rfl rfl rfl (l_xs cl_12_427 ko_mX13_greater rfl rfl) rfl rfl nm_mX13_greater (xhE_th rfl) (fun v24 h23 => ?_)
    refine l_wi dX13_findsRegions_181 (fun h25 => ?_)
    refine l_incl (al1 := fun v26 => [(1, .int v26), (2, .int z0), (0, .ref x0)]) dX13_findsRegions_182 rfl kI_1 rfl (fun _ => rfl) (fun v26 => ?_)
    refine l_goto (t := 62) dX13_findsRegions_185 rfl ?_
    exact l_al rfl ⟨rfl, rfl, trivial⟩
set_option maxRecDepth 16000 in
theorem w_X13_joins (S : xS) (x0 : Nat) (x1 : Int32) (h : xH) : xle (xden S mX13_joins 4 [(0, .ref x0), (1, .int x1), (2, .int (0 : Int32)), (3, .int (0 : Int32))] [] h) (xM S mX13_joins [.ref x0, .int x1] h) := by
  show xle _ (xden S mX13_joins 0 [(0, .ref x0), (1, .int x1)] [] h)
  refine l_ic dX13_joins_0 kI_0 ?_
  refine l_loc (al1 := [(2, .int (0 : Int32)), (0, .ref x0), (1, .int x1)]) dX13_joins_1 rfl rfl ?_
  refine l_ic dX13_joins_2 kI_0 ?_
  refine l_loc (al1 := [(3, .int (0 : Int32)), (2, .int (0 : Int32)), (0, .ref x0), (1, .int x1)]) dX13_joins_3 rfl rfl ?_
  exact l_al rfl ⟨rfl, rfl, rfl, rfl, trivial⟩
set_option maxRecDepth 16000 in
theorem w_X13_joins_4 (S : xS) (x0 : Nat) (x1 : Int32) (x2 : Int32) (x3 : Int32) (h : xH) : xle (if (256 : Int32) ≤ x3 then (xden S mX13_joins 26 [(0, .ref x0), (1, .int x1), (2, .int x2), (3, .int (0 : Int32))] [] h) else ((xGr h x0 12 58).bind fun v1 => (xWi h v1 x3 (-1 : Int32)).bind fun h2 => xlet (x3 + (1 : Int32)) fun v3 => (xden S mX13_joins 4 [(0, .ref x0), (1, .int x1), (2, .int x2), (3, .int v3)] [] h2))) (xden S mX13_joins 4 [(0, .ref x0), (1, .int x1), (2, .int x2), (3, .int x3)] [] h) := by
  refine l_loc dX13_joins_4 rfl rfl ?_
  refine l_si dX13_joins_5 kS_256 ?_
  refine l_cge (t := 24) dX13_joins_8 rfl ?_ ?_
  · refine l_ic dX13_joins_24 kI_0 ?_
    refine l_loc (al1 := [(3, .int (0 : Int32)), (0, .ref x0), (1, .int x1), (2, .int x2)]) dX13_joins_25 rfl rfl ?_
    exact l_al rfl ⟨rfl, rfl, rfl, rfl, trivial⟩
  · refine l_loc dX13_joins_11 rfl rfl ?_
    refine l_gr dX13_joins_12 fl_12_113 (fun v1 => ?_)
    refine l_loc dX13_joins_15 rfl rfl ?_
    refine l_ic dX13_joins_16 kI_m1 ?_
    refine l_wi dX13_joins_17 (fun h2 => ?_)
    refine l_incl (al1 := fun v3 => [(3, .int v3), (0, .ref x0), (1, .int x1), (2, .int x2)]) dX13_joins_18 rfl kI_1 rfl (fun _ => rfl) (fun v3 => ?_)
    refine l_goto (t := 4) dX13_joins_21 rfl ?_
    exact l_al rfl ⟨rfl, rfl, rfl, rfl, trivial⟩
set_option maxRecDepth 16000 in
theorem w_X13_joins_26 (S : xS) (x0 : Nat) (x1 : Int32) (x2 : Int32) (x3 : Int32) (h : xH) : xle (if (256 : Int32) ≤ x3 then (some (.inl (some (.int x2)), h, 0, 0)) else (if xOb h x0 12 = true then xqI (xM S mX13_isBlock [.ref x0, .int (x3 - x3 / (16 : Int32) * (16 : Int32)), .int (x3 / (16 : Int32))] h) xth fun v3 h2 => if v3 = 0 then (xlet (x3 + (1 : Int32)) fun v4 => (xden S mX13_joins 26 [(0, .ref x0), (1, .int x1), (2, .int x2), (3, .int v4)] [] h2)) else ((xGr h2 x0 12 57).bind fun v5 => (xRi h2 0 v5 x3).bind fun v6 => if v6 ≤ x1 then (xlet (x3 + (1 : Int32)) fun v7 => (xden S mX13_joins 26 [(0, .ref x0), (1, .int x1), (2, .int x2), (3, .int v7)] [] h2)) else ((xGr h2 x0 12 58).bind fun v8 => (xRi h2 0 v8 x3).bind fun v9 => if 0 ≤ v9 then (xlet (x3 + (1 : Int32)) fun v10 => (xden S mX13_joins 26 [(0, .ref x0), (1, .int x1), (2, .int x2), (3, .int v10)] [] h2)) else (if xOb h2 x0 12 = true then xqV (xM S mX13_spreads [.ref x0, .int x3, .int x2, .int x1] h2) xth fun h12 => xlet (x2 + (1 : Int32)) fun v14 => xlet (x3 + (1 : Int32)) fun v15 => (xden S mX13_joins 26 [(0, .ref x0), (1, .int x1), (2, .int v14), (3, .int v15)] [] h12) else none))) else none)) (xden S mX13_joins 26 [(0, .ref x0), (1, .int x1), (2, .int x2), (3, .int x3)] [] h) := by
  refine l_loc dX13_joins_26 rfl rfl ?_
  refine l_si dX13_joins_27 kS_256 ?_
  refine l_cge (t := 83) dX13_joins_30 rfl ?_ ?_
  · refine l_loc dX13_joins_83 rfl rfl ?_
    exact l_iretn dX13_joins_84 rfl (by rfl)
  · refine l_loc dX13_joins_33 rfl rfl ?_
    refine l_loc dX13_joins_34 rfl rfl ?_
    refine l_bi dX13_joins_35 kB_16 ?_
    refine l_remn dX13_joins_37 (by decide) ?_
    refine l_loc dX13_joins_38 rfl rfl ?_
    refine l_bi dX13_joins_39 kB_16 ?_
    refine l_divn dX13_joins_41 (by decide) ?_
    refine l_ob fun q1 => ?_
    refine l_cI dX13_joins_42 rfl rfl rfl (l_xv cl_12_410 ko_mX13_isBlock rfl rfl rfl q1) rfl rfl nm_mX13_isBlock (xhE_th rfl) (fun v3 h2 => ?_)
    refine l_ieq (t := 77) dX13_joins_45 rfl ?_ ?_
    · refine l_incl (al1 := fun v4 => [(3, .int v4), (0, .ref x0), (1, .int x1), (2, .int x2)]) dX13_joins_77 rfl kI_1 rfl (fun _ => rfl) (fun v4 => ?_)
      refine l_goto (t := 26) dX13_joins_80 rfl ?_
      exact l_al rfl ⟨rfl, rfl, rfl, rfl, trivial⟩
    · refine l_loc dX13_joins_48 rfl rfl ?_
      refine l_gr dX13_joins_49 fl_12_110 (fun v5 => ?_)
      refine l_loc dX13_joins_52 rfl rfl ?_
      refine l_ri dX13_joins_53 (fun v6 => ?_)
      refine l_loc dX13_joins_54 rfl rfl ?_
      refine l_cle (t := 77) dX13_joins_55 rfl ?_ ?_
      · refine l_incl (al1 := fun v7 => [(3, .int v7), (0, .ref x0), (1, .int x1), (2, .int x2)]) dX13_joins_77 rfl kI_1 rfl (fun _ => rfl) (fun v7 => ?_)
        refine l_goto (t := 26) dX13_joins_80 rfl ?_
        exact l_al rfl ⟨rfl, rfl, rfl, rfl, trivial⟩
      · refine l_loc dX13_joins_58 rfl rfl ?_
        refine l_gr dX13_joins_59 fl_12_113 (fun v8 => ?_)
        refine l_loc dX13_joins_62 rfl rfl ?_
        refine l_ri dX13_joins_63 (fun v9 => ?_)
        refine l_ige (t := 77) dX13_joins_64 rfl ?_ ?_
        · refine l_incl (al1 := fun v10 => [(3, .int v10), (0, .ref x0), (1, .int x1), (2, .int x2)]) dX13_joins_77 rfl kI_1 rfl (fun _ => rfl) (fun v10 => ?_)
          refine l_goto (t := 26) dX13_joins_80 rfl ?_
          exact l_al rfl ⟨rfl, rfl, rfl, rfl, trivial⟩
        · refine l_loc dX13_joins_67 rfl rfl ?_
          refine l_loc dX13_joins_68 rfl rfl ?_
          refine l_loc dX13_joins_69 rfl rfl ?_
          refine l_loc dX13_joins_70 rfl rfl ?_
          refine l_ob fun q11 => ?_
          refine l_cV dX13_joins_71 rfl rfl rfl (l_xv cl_12_414 ko_mX13_spreads rfl rfl rfl q11) rfl rfl nm_mX13_spreads (xhE_th rfl) (fun h12 => ?_)
          refine l_incl (al1 := fun v14 => [(2, .int v14), (0, .ref x0), (1, .int x1), (3, .int x3)]) dX13_joins_74 rfl kI_1 rfl (fun _ => rfl) (fun v14 => ?_)
          refine l_incl (al1 := fun v15 => [(3, .int v15), (2, .int v14), (0, .ref x0), (1, .int x1)]) dX13_joins_77 rfl kI_1 rfl (fun _ => rfl) (fun v15 => ?_)
          refine l_goto (t := 26) dX13_joins_80 rfl ?_
          exact l_al rfl ⟨rfl, rfl, rfl, rfl, trivial⟩
set_option maxRecDepth 16000 in
theorem w_X13_isBlock (S : xS) (x0 : Nat) (x1 : Int32) (x2 : Int32) (h : xH) : xle ((xGi h x0 12 55).bind fun v1 => xqI (xM S mX13_in [.long (x1.toInt64), .long (0 : Int64), .long (v1 - (1 : Int32)).toInt64] h) xth fun v3 h2 => if v3 = 0 then (some (.inl (some (.int (0 : Int32))), h2, 0, 0)) else ((xGi h2 x0 12 56).bind fun v4 => xqI (xM S mX13_in [.long (x2.toInt64), .long (0 : Int64), .long (v4 - (1 : Int32)).toInt64] h2) xth fun v6 h5 => if v6 = 0 then (some (.inl (some (.int (0 : Int32))), h5, 0, 0)) else (some (.inl (some (.int (1 : Int32))), h5, 0, 0)))) (xM S mX13_isBlock [.ref x0, .int x1, .int x2] h) := by
  show xle _ (xden S mX13_isBlock 0 [(0, .ref x0), (1, .int x1), (2, .int x2)] [] h)
  refine l_loc dX13_isBlock_0 rfl rfl ?_
  refine l_pure dX13_isBlock_1 rfl rfl ?_
  refine l_lc0 dX13_isBlock_2 ?_
  refine l_loc dX13_isBlock_3 rfl rfl ?_
  refine l_gi dX13_isBlock_4 fl_12_394 (fun v1 => ?_)
  refine l_ic dX13_isBlock_7 kI_1 ?_
  refine l_pure dX13_isBlock_8 rfl rfl ?_
  refine l_pure dX13_isBlock_9 rfl rfl ?_
  refine l_cI dX13_isBlock_10 rfl rfl rfl (l_xs cl_12_191 ko_mX13_in rfl rfl) rfl rfl nm_mX13_in (xhE_th rfl) (fun v3 h2 => ?_)
  refine l_ieq (t := 36) dX13_isBlock_13 rfl ?_ ?_
  · refine l_ic dX13_isBlock_36 kI_0 ?_
    exact l_iretn dX13_isBlock_37 rfl (by decide)
  · refine l_loc dX13_isBlock_16 rfl rfl ?_
    refine l_pure dX13_isBlock_17 rfl rfl ?_
    refine l_lc0 dX13_isBlock_18 ?_
    refine l_loc dX13_isBlock_19 rfl rfl ?_
    refine l_gi dX13_isBlock_20 fl_12_397 (fun v4 => ?_)
    refine l_ic dX13_isBlock_23 kI_1 ?_
    refine l_pure dX13_isBlock_24 rfl rfl ?_
    refine l_pure dX13_isBlock_25 rfl rfl ?_
    refine l_cI dX13_isBlock_26 rfl rfl rfl (l_xs cl_12_191 ko_mX13_in rfl rfl) rfl rfl nm_mX13_in (xhE_th rfl) (fun v6 h5 => ?_)
    refine l_ieq (t := 36) dX13_isBlock_29 rfl ?_ ?_
    · refine l_ic dX13_isBlock_36 kI_0 ?_
      exact l_iretn dX13_isBlock_37 rfl (by decide)
    · refine l_ic dX13_isBlock_32 kI_1 ?_
      refine l_goto (t := 37) dX13_isBlock_33 rfl ?_
      exact l_iretn dX13_isBlock_37 rfl (by decide)
set_option maxRecDepth 16000 in
theorem w_X13_spreads (S : xS) (x0 : Nat) (x1 : Int32) (x2 : Int32) (x3 : Int32) (h : xH) : xle ((xGr h x0 12 58).bind fun v1 => (xWi h v1 x1 x2).bind fun h2 => (xGr h2 x0 12 66).bind fun v3 => (xWi h2 v3 (0 : Int32) x1).bind fun h4 => (xden S mX13_spreads 20 [(0, .ref x0), (2, .int x2), (3, .int x3), (4, .int (1 : Int32)), (5, .int (0 : Int32))] [] h4)) (xM S mX13_spreads [.ref x0, .int x1, .int x2, .int x3] h) := by
  show xle _ (xden S mX13_spreads 0 [(0, .ref x0), (1, .int x1), (2, .int x2), (3, .int x3)] [] h)
  refine l_loc dX13_spreads_0 rfl rfl ?_
  refine l_gr dX13_spreads_1 fl_12_113 (fun v1 => ?_)
  refine l_loc dX13_spreads_4 rfl rfl ?_
  refine l_loc dX13_spreads_5 rfl rfl ?_
  refine l_wi dX13_spreads_6 (fun h2 => ?_)
  refine l_loc dX13_spreads_7 rfl rfl ?_
  refine l_gr dX13_spreads_8 fl_12_134 (fun v3 => ?_)
  refine l_ic dX13_spreads_11 kI_0 ?_
  refine l_loc dX13_spreads_12 rfl rfl ?_
  refine l_wi dX13_spreads_13 (fun h4 => ?_)
  refine l_ic dX13_spreads_14 kI_1 ?_
  refine l_loc (al1 := [(4, .int (1 : Int32)), (0, .ref x0), (1, .int x1), (2, .int x2), (3, .int x3)]) dX13_spreads_15 rfl rfl ?_
  refine l_ic dX13_spreads_17 kI_0 ?_
  refine l_loc (al1 := [(5, .int (0 : Int32)), (4, .int (1 : Int32)), (0, .ref x0), (1, .int x1), (2, .int x2), (3, .int x3)]) dX13_spreads_18 rfl rfl ?_
  exact l_al rfl ⟨rfl, rfl, rfl, rfl, rfl, trivial⟩
set_option maxRecDepth 16000 in
theorem w_X13_spreads_20 (S : xS) (x0 : Nat) (x2 : Int32) (x3 : Int32) (x4 : Int32) (x5 : Int32) (h : xH) : xle (if x4 ≤ x5 then (some (.inl none, h, 0, 0)) else (xden S mX13_spreads 30 [(0, .ref x0), (2, .int x2), (3, .int x3), (4, .int x4), (5, .int x5), (6, .int (0 : Int32))] [] h)) (xden S mX13_spreads 20 [(0, .ref x0), (2, .int x2), (3, .int x3), (4, .int x4), (5, .int x5)] [] h) := by
  refine l_loc dX13_spreads_20 rfl rfl ?_
  refine l_loc dX13_spreads_22 rfl rfl ?_
  refine l_cge (t := 191) dX13_spreads_24 rfl ?_ ?_
  · exact l_end dX13_spreads_191 rfl rfl
  · refine l_ic dX13_spreads_27 kI_0 ?_
    refine l_loc (al1 := [(6, .int (0 : Int32)), (0, .ref x0), (2, .int x2), (3, .int x3), (4, .int x4), (5, .int x5)]) dX13_spreads_28 rfl rfl ?_
    exact l_al rfl ⟨rfl, rfl, rfl, rfl, rfl, rfl, trivial⟩
set_option maxRecDepth 16000 in
theorem w_X13_spreads_30 (S : xS) (x0 : Nat) (x2 : Int32) (x3 : Int32) (x4 : Int32) (x5 : Int32) (x6 : Int32) (h : xH) : xle (if (4 : Int32) ≤ x6 then (xlet (x5 + (1 : Int32)) fun v1 => (xden S mX13_spreads 20 [(0, .ref x0), (2, .int x2), (3, .int x3), (4, .int x4), (5, .int v1)] [] h)) else ((xGr h x0 12 66).bind fun v2 => (xRi h 0 v2 x5).bind fun v3 => if ¬ x6 = 0 then (if ¬ x6 = (1 : Int32) then (xlet ((v3 - v3 / (16 : Int32) * (16 : Int32)) + (0 : Int32)) fun v4 => (xGr h x0 12 66).bind fun v5 => (xRi h 0 v5 x5).bind fun v6 => if ¬ x6 = (2 : Int32) then (if ¬ x6 = (3 : Int32) then (xden S mX13_spreads 100 [(0, .ref x0), (2, .int x2), (3, .int x3), (4, .int x4), (5, .int x5), (6, .int x6), (7, .int v4)] [.int (0 : Int32), .int (v6 / (16 : Int32))] h) else (xden S mX13_spreads 100 [(0, .ref x0), (2, .int x2), (3, .int x3), (4, .int x4), (5, .int x5), (6, .int x6), (7, .int v4)] [.int (-1 : Int32), .int (v6 / (16 : Int32))] h)) else (xden S mX13_spreads 100 [(0, .ref x0), (2, .int x2), (3, .int x3), (4, .int x4), (5, .int x5), (6, .int x6), (7, .int v4)] [.int (1 : Int32), .int (v6 / (16 : Int32))] h)) else (xlet ((v3 - v3 / (16 : Int32) * (16 : Int32)) + (-1 : Int32)) fun v7 => (xGr h x0 12 66).bind fun v8 => (xRi h 0 v8 x5).bind fun v9 => if ¬ x6 = (2 : Int32) then (if ¬ x6 = (3 : Int32) then (xden S mX13_spreads 100 [(0, .ref x0), (2, .int x2), (3, .int x3), (4, .int x4), (5, .int x5), (6, .int x6), (7, .int v7)] [.int (0 : Int32), .int (v9 / (16 : Int32))] h) else (xden S mX13_spreads 100 [(0, .ref x0), (2, .int x2), (3, .int x3), (4, .int x4), (5, .int x5), (6, .int x6), (7, .int v7)] [.int (-1 : Int32), .int (v9 / (16 : Int32))] h)) else (xden S mX13_spreads 100 [(0, .ref x0), (2, .int x2), (3, .int x3), (4, .int x4), (5, .int x5), (6, .int x6), (7, .int v7)] [.int (1 : Int32), .int (v9 / (16 : Int32))] h))) else (xlet ((v3 - v3 / (16 : Int32) * (16 : Int32)) + (1 : Int32)) fun v10 => (xGr h x0 12 66).bind fun v11 => (xRi h 0 v11 x5).bind fun v12 => if ¬ x6 = (2 : Int32) then (if ¬ x6 = (3 : Int32) then (xden S mX13_spreads 100 [(0, .ref x0), (2, .int x2), (3, .int x3), (4, .int x4), (5, .int x5), (6, .int x6), (7, .int v10)] [.int (0 : Int32), .int (v12 / (16 : Int32))] h) else (xden S mX13_spreads 100 [(0, .ref x0), (2, .int x2), (3, .int x3), (4, .int x4), (5, .int x5), (6, .int x6), (7, .int v10)] [.int (-1 : Int32), .int (v12 / (16 : Int32))] h)) else (xden S mX13_spreads 100 [(0, .ref x0), (2, .int x2), (3, .int x3), (4, .int x4), (5, .int x5), (6, .int x6), (7, .int v10)] [.int (1 : Int32), .int (v12 / (16 : Int32))] h)))) (xden S mX13_spreads 30 [(0, .ref x0), (2, .int x2), (3, .int x3), (4, .int x4), (5, .int x5), (6, .int x6)] [] h) := by
  refine l_loc dX13_spreads_30 rfl rfl ?_
  refine l_ic dX13_spreads_32 kI_4 ?_
  refine l_cge (t := 185) dX13_spreads_33 rfl ?_ ?_
  · refine l_incl (al1 := fun v1 => [(5, .int v1), (0, .ref x0), (2, .int x2), (3, .int x3), (4, .int x4), (6, .int x6)]) dX13_spreads_185 rfl kI_1 rfl (fun _ => rfl) (fun v1 => ?_)
    refine l_goto (t := 20) dX13_spreads_188 rfl ?_
    exact l_al rfl ⟨rfl, rfl, rfl, rfl, rfl, trivial⟩
  · refine l_loc dX13_spreads_36 rfl rfl ?_
    refine l_gr dX13_spreads_37 fl_12_134 (fun v2 => ?_)
    refine l_loc dX13_spreads_40 rfl rfl ?_
    refine l_ri dX13_spreads_42 (fun v3 => ?_)
    refine l_bi dX13_spreads_43 kB_16 ?_
    refine l_remn dX13_spreads_45 (by decide) ?_
    refine l_loc dX13_spreads_46 rfl rfl ?_
    refine l_ine (t := 55) dX13_spreads_48 rfl ?_ ?_
    · refine l_loc dX13_spreads_55 rfl rfl ?_
      refine l_ic dX13_spreads_57 kI_1 ?_
      refine l_cne (t := 65) dX13_spreads_58 rfl ?_ ?_
      · refine l_ic dX13_spreads_65 kI_0 ?_
        refine l_pure dX13_spreads_66 rfl rfl ?_
        refine l_isl (al1 := fun v4 => [(7, .int v4), (0, .ref x0), (2, .int x2), (3, .int x3), (4, .int x4), (5, .int x5), (6, .int x6)]) dX13_spreads_67 rfl (fun _ => rfl) (fun v4 => ?_)
        refine l_loc dX13_spreads_69 rfl rfl ?_
        refine l_gr dX13_spreads_70 fl_12_134 (fun v5 => ?_)
        refine l_loc dX13_spreads_73 rfl rfl ?_
        refine l_ri dX13_spreads_75 (fun v6 => ?_)
        refine l_bi dX13_spreads_76 kB_16 ?_
        refine l_divn dX13_spreads_78 (by decide) ?_
        refine l_loc dX13_spreads_79 rfl rfl ?_
        refine l_ic dX13_spreads_81 kI_2 ?_
        refine l_cne (t := 89) dX13_spreads_82 rfl ?_ ?_
        · refine l_loc dX13_spreads_89 rfl rfl ?_
          refine l_ic dX13_spreads_91 kI_3 ?_
          refine l_cne (t := 99) dX13_spreads_92 rfl ?_ ?_
          · refine l_ic dX13_spreads_99 kI_0 ?_
            exact l_al rfl ⟨rfl, rfl, rfl, rfl, rfl, rfl, rfl, trivial⟩
          · refine l_ic dX13_spreads_95 kI_m1 ?_
            refine l_goto (t := 100) dX13_spreads_96 rfl ?_
            exact l_al rfl ⟨rfl, rfl, rfl, rfl, rfl, rfl, rfl, trivial⟩
        · refine l_ic dX13_spreads_85 kI_1 ?_
          refine l_goto (t := 100) dX13_spreads_86 rfl ?_
          exact l_al rfl ⟨rfl, rfl, rfl, rfl, rfl, rfl, rfl, trivial⟩
      · refine l_ic dX13_spreads_61 kI_m1 ?_
        refine l_goto (t := 66) dX13_spreads_62 rfl ?_
        refine l_pure dX13_spreads_66 rfl rfl ?_
        refine l_isl (al1 := fun v7 => [(7, .int v7), (0, .ref x0), (2, .int x2), (3, .int x3), (4, .int x4), (5, .int x5), (6, .int x6)]) dX13_spreads_67 rfl (fun _ => rfl) (fun v7 => ?_)
        refine l_loc dX13_spreads_69 rfl rfl ?_
        refine l_gr dX13_spreads_70 fl_12_134 (fun v8 => ?_)
        refine l_loc dX13_spreads_73 rfl rfl ?_
        refine l_ri dX13_spreads_75 (fun v9 => ?_)
        refine l_bi dX13_spreads_76 kB_16 ?_
        refine l_divn dX13_spreads_78 (by decide) ?_
        refine l_loc dX13_spreads_79 rfl rfl ?_
        refine l_ic dX13_spreads_81 kI_2 ?_
        refine l_cne (t := 89) dX13_spreads_82 rfl ?_ ?_
        · refine l_loc dX13_spreads_89 rfl rfl ?_
          refine l_ic dX13_spreads_91 kI_3 ?_
          refine l_cne (t := 99) dX13_spreads_92 rfl ?_ ?_
          · refine l_ic dX13_spreads_99 kI_0 ?_
            exact l_al rfl ⟨rfl, rfl, rfl, rfl, rfl, rfl, rfl, trivial⟩
          · refine l_ic dX13_spreads_95 kI_m1 ?_
            refine l_goto (t := 100) dX13_spreads_96 rfl ?_
            exact l_al rfl ⟨rfl, rfl, rfl, rfl, rfl, rfl, rfl, trivial⟩
        · refine l_ic dX13_spreads_85 kI_1 ?_
          refine l_goto (t := 100) dX13_spreads_86 rfl ?_
          exact l_al rfl ⟨rfl, rfl, rfl, rfl, rfl, rfl, rfl, trivial⟩
    · refine l_ic dX13_spreads_51 kI_1 ?_
      refine l_goto (t := 66) dX13_spreads_52 rfl ?_
      refine l_pure dX13_spreads_66 rfl rfl ?_
      refine l_isl (al1 := fun v10 => [(7, .int v10), (0, .ref x0), (2, .int x2), (3, .int x3), (4, .int x4), (5, .int x5), (6, .int x6)]) dX13_spreads_67 rfl (fun _ => rfl) (fun v10 => ?_)
      refine l_loc dX13_spreads_69 rfl rfl ?_
      refine l_gr dX13_spreads_70 fl_12_134 (fun v11 => ?_)
      refine l_loc dX13_spreads_73 rfl rfl ?_
      refine l_ri dX13_spreads_75 (fun v12 => ?_)
      refine l_bi dX13_spreads_76 kB_16 ?_
      refine l_divn dX13_spreads_78 (by decide) ?_
      refine l_loc dX13_spreads_79 rfl rfl ?_
      refine l_ic dX13_spreads_81 kI_2 ?_
      refine l_cne (t := 89) dX13_spreads_82 rfl ?_ ?_
      · refine l_loc dX13_spreads_89 rfl rfl ?_
        refine l_ic dX13_spreads_91 kI_3 ?_
        refine l_cne (t := 99) dX13_spreads_92 rfl ?_ ?_
        · refine l_ic dX13_spreads_99 kI_0 ?_
          exact l_al rfl ⟨rfl, rfl, rfl, rfl, rfl, rfl, rfl, trivial⟩
        · refine l_ic dX13_spreads_95 kI_m1 ?_
          refine l_goto (t := 100) dX13_spreads_96 rfl ?_
          exact l_al rfl ⟨rfl, rfl, rfl, rfl, rfl, rfl, rfl, trivial⟩
      · refine l_ic dX13_spreads_85 kI_1 ?_
        refine l_goto (t := 100) dX13_spreads_86 rfl ?_
        exact l_al rfl ⟨rfl, rfl, rfl, rfl, rfl, rfl, rfl, trivial⟩
set_option maxRecDepth 16000 in
theorem w_X13_spreads_100 (S : xS) (x0 : Nat) (x2 : Int32) (x3 : Int32) (x4 : Int32) (x5 : Int32) (x6 : Int32) (x7 : Int32) (z0 : Int32) (z1 : Int32) (h : xH) : xle (xlet (z1 + z0) fun v1 => if xOb h x0 12 = true then xqI (xM S mX13_isBlock [.ref x0, .int x7, .int v1] h) xth fun v4 h3 => if v4 = 0 then (xlet (x6 + (1 : Int32)) fun v5 => (xden S mX13_spreads 30 [(0, .ref x0), (2, .int x2), (3, .int x3), (4, .int x4), (5, .int x5), (6, .int v5)] [] h3)) else ((xGr h3 x0 12 57).bind fun v6 => (xRi h3 0 v6 (((16 : Int32) * v1) + x7)).bind fun v7 => if v7 ≤ x3 then (xlet (x6 + (1 : Int32)) fun v8 => (xden S mX13_spreads 30 [(0, .ref x0), (2, .int x2), (3, .int x3), (4, .int x4), (5, .int x5), (6, .int v8)] [] h3)) else ((xGr h3 x0 12 58).bind fun v9 => (xRi h3 0 v9 (((16 : Int32) * v1) + x7)).bind fun v10 => if 0 ≤ v10 then (xlet (x6 + (1 : Int32)) fun v11 => (xden S mX13_spreads 30 [(0, .ref x0), (2, .int x2), (3, .int x3), (4, .int x4), (5, .int x5), (6, .int v11)] [] h3)) else ((xGr h3 x0 12 58).bind fun v12 => (xWi h3 v12 (((16 : Int32) * v1) + x7) x2).bind fun h13 => (xGr h13 x0 12 66).bind fun v14 => (xWi h13 v14 x4 (((16 : Int32) * v1) + x7)).bind fun h15 => xlet (x4 + (1 : Int32)) fun v16 => xlet (x6 + (1 : Int32)) fun v17 => (xden S mX13_spreads 30 [(0, .ref x0), (2, .int x2), (3, .int x3), (4, .int v16), (5, .int x5), (6, .int v17)] [] h15)))) else none) (xden S mX13_spreads 100 [(0, .ref x0), (2, .int x2), (3, .int x3), (4, .int x4), (5, .int x5), (6, .int x6), (7, .int x7)] [.int z0, .int z1] h) := by
  refine l_pure dX13_spreads_100 rfl rfl ?_
  refine l_isl (al1 := fun v1 => [(8, .int v1), (0, .ref x0), (2, .int x2), (3, .int x3), (4, .int x4), (5, .int x5), (6, .int x6), (7, .int x7)]) dX13_spreads_101 rfl (fun _ => rfl) (fun v1 => ?_)
  refine l_loc dX13_spreads_103 rfl rfl ?_
  refine l_loc dX13_spreads_104 rfl rfl ?_
  refine l_loc dX13_spreads_106 rfl rfl ?_
  refine l_ob fun q2 => ?_
  refine l_cI dX13_spreads_108 rfl rfl rfl (l_xv cl_12_410 ko_mX13_isBlock rfl rfl rfl q2) rfl rfl nm_mX13_isBlock (xhE_th rfl) (fun v4 h3 => ?_)
  refine l_ieq (t := 179) dX13_spreads_111 rfl ?_ ?_
  · refine l_incl (al1 := fun v5 => [(6, .int v5), (8, .int v1), (0, .ref x0), (2, .int x2), (3, .int x3), (4, .int x4), (5, .int x5), (7, .int x7)]) dX13_spreads_179 rfl kI_1 rfl (fun _ => rfl) (fun v5 => ?_)
    refine l_goto (t := 30) dX13_spreads_182 rfl ?_
    exact l_al rfl ⟨rfl, rfl, rfl, rfl, rfl, rfl, trivial⟩
  · refine l_loc dX13_spreads_114 rfl rfl ?_
    refine l_gr dX13_spreads_115 fl_12_110 (fun v6 => ?_)
    refine l_bi dX13_spreads_118 kB_16 ?_
    refine l_loc dX13_spreads_120 rfl rfl ?_
    refine l_pure dX13_spreads_122 rfl rfl ?_
    refine l_loc dX13_spreads_123 rfl rfl ?_
    refine l_pure dX13_spreads_125 rfl rfl ?_
    refine l_ri dX13_spreads_126 (fun v7 => ?_)
    refine l_loc dX13_spreads_127 rfl rfl ?_
    refine l_cle (t := 179) dX13_spreads_128 rfl ?_ ?_
    · refine l_incl (al1 := fun v8 => [(6, .int v8), (8, .int v1), (0, .ref x0), (2, .int x2), (3, .int x3), (4, .int x4), (5, .int x5), (7, .int x7)]) dX13_spreads_179 rfl kI_1 rfl (fun _ => rfl) (fun v8 => ?_)
      refine l_goto (t := 30) dX13_spreads_182 rfl ?_
      exact l_al rfl ⟨rfl, rfl, rfl, rfl, rfl, rfl, trivial⟩
    · refine l_loc dX13_spreads_131 rfl rfl ?_
      refine l_gr dX13_spreads_132 fl_12_113 (fun v9 => ?_)
      refine l_bi dX13_spreads_135 kB_16 ?_
      refine l_loc dX13_spreads_137 rfl rfl ?_
      refine l_pure dX13_spreads_139 rfl rfl ?_
      refine l_loc dX13_spreads_140 rfl rfl ?_
      refine l_pure dX13_spreads_142 rfl rfl ?_
      refine l_ri dX13_spreads_143 (fun v10 => ?_)
      refine l_ige (t := 179) dX13_spreads_144 rfl ?_ ?_
      · refine l_incl (al1 := fun v11 => [(6, .int v11), (8, .int v1), (0, .ref x0), (2, .int x2), (3, .int x3), (4, .int x4), (5, .int x5), (7, .int x7)]) dX13_spreads_179 rfl kI_1 rfl (fun _ => rfl) (fun v11 => ?_)
        refine l_goto (t := 30) dX13_spreads_182 rfl ?_
        exact l_al rfl ⟨rfl, rfl, rfl, rfl, rfl, rfl, trivial⟩
      · refine l_loc dX13_spreads_147 rfl rfl ?_
        refine l_gr dX13_spreads_148 fl_12_113 (fun v12 => ?_)
        refine l_bi dX13_spreads_151 kB_16 ?_
        refine l_loc dX13_spreads_153 rfl rfl ?_
        refine l_pure dX13_spreads_155 rfl rfl ?_
        refine l_loc dX13_spreads_156 rfl rfl ?_
        refine l_pure dX13_spreads_158 rfl rfl ?_
        refine l_loc dX13_spreads_159 rfl rfl ?_
        refine l_wi dX13_spreads_160 (fun h13 => ?_)
        refine l_loc dX13_spreads_161 rfl rfl ?_
        refine l_gr dX13_spreads_162 fl_12_134 (fun v14 => ?_)
        refine l_loc dX13_spreads_165 rfl rfl ?_
        refine l_bi dX13_spreads_167 kB_16 ?_
        refine l_loc dX13_spreads_169 rfl rfl ?_
        refine l_pure dX13_spreads_171 rfl rfl ?_
        refine l_loc dX13_spreads_172 rfl rfl ?_
        refine l_pure dX13_spreads_174 rfl rfl ?_
        refine l_wi dX13_spreads_175 (fun h15 => ?_)
        refine l_incl (al1 := fun v16 => [(4, .int v16), (8, .int v1), (0, .ref x0), (2, .int x2), (3, .int x3), (5, .int x5), (6, .int x6), (7, .int x7)]) dX13_spreads_176 rfl kI_1 rfl (fun _ => rfl) (fun v16 => ?_)
        refine l_incl (al1 := fun v17 => [(6, .int v17), (4, .int v16), (8, .int v1), (0, .ref x0), (2, .int x2), (3, .int x3), (5, .int x5), (7, .int x7)]) dX13_spreads_179 rfl kI_1 rfl (fun _ => rfl) (fun v17 => ?_)
        refine l_goto (t := 30) dX13_spreads_182 rfl ?_
        exact l_al rfl ⟨rfl, rfl, rfl, rfl, rfl, rfl, trivial⟩
set_option maxRecDepth 16000 in
theorem w_X13_lesser (S : xS) (x0 : Int32) (x1 : Int32) (h : xH) : xle (if x1 ≤ x0 then (some (.inl (some (.int x1)), h, 0, 0)) else (some (.inl (some (.int x0)), h, 0, 0))) (xM S mX13_lesser [.int x0, .int x1] h) := by
  show xle _ (xden S mX13_lesser 0 [(0, .int x0), (1, .int x1)] [] h)
  refine l_loc dX13_lesser_0 rfl rfl ?_
  refine l_loc dX13_lesser_1 rfl rfl ?_
  refine l_cge (t := 9) dX13_lesser_2 rfl ?_ ?_
  · refine l_loc dX13_lesser_9 rfl rfl ?_
    exact l_iretn dX13_lesser_10 rfl (by rfl)
  · refine l_loc dX13_lesser_5 rfl rfl ?_
    refine l_goto (t := 10) dX13_lesser_6 rfl ?_
    exact l_iretn dX13_lesser_10 rfl (by rfl)
set_option maxRecDepth 16000 in
theorem w_X13_greater (S : xS) (x0 : Int32) (x1 : Int32) (h : xH) : xle (if x0 ≤ x1 then (some (.inl (some (.int x1)), h, 0, 0)) else (some (.inl (some (.int x0)), h, 0, 0))) (xM S mX13_greater [.int x0, .int x1] h) := by
  show xle _ (xden S mX13_greater 0 [(0, .int x0), (1, .int x1)] [] h)
  refine l_loc dX13_greater_0 rfl rfl ?_
  refine l_loc dX13_greater_1 rfl rfl ?_
  refine l_cle (t := 9) dX13_greater_2 rfl ?_ ?_
  · refine l_loc dX13_greater_9 rfl rfl ?_
    exact l_iretn dX13_greater_10 rfl (by rfl)
  · refine l_loc dX13_greater_5 rfl rfl ?_
    refine l_goto (t := 10) dX13_greater_6 rfl ?_
    exact l_iretn dX13_greater_10 rfl (by rfl)

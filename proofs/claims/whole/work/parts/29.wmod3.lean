/-! ROWS OF METHODS, by program (wip/whole/wp.py, wpemit.py): each method as an expression -/
set_option maxRecDepth 16000 in
theorem w_X13_ordersRegions (S : xS) (x0 : Nat) (h : xH) : xle (xden S mX13_ordersRegions 2 [(0, .ref x0), (1, .int (0 : Int32))] [] h) (xM S mX13_ordersRegions [.ref x0] h) := by
  show xle _ (xden S mX13_ordersRegions 0 [(0, .ref x0)] [] h)
  refine l_ic dX13_ordersRegions_0 kI_0 ?_
  refine l_loc (al1 := [(1, .int (0 : Int32)), (0, .ref x0)]) dX13_ordersRegions_1 rfl rfl ?_
  exact l_al rfl ⟨rfl, rfl, trivial⟩
set_option maxRecDepth 16000 in
theorem w_X13_ordersRegions_2 (S : xS) (x0 : Nat) (x1 : Int32) (h : xH) : xle ((xGi h x0 12 59).bind fun v1 => if v1 ≤ x1 then (xden S mX13_ordersRegions 29 [(0, .ref x0), (1, .int (-1 : Int32)), (2, .int (-1 : Int32)), (3, .int (0 : Int32))] [] h) else ((xGr h x0 12 68).bind fun v2 => (xWz h v2 x1 (0 : Int32)).bind fun h3 => xlet (x1 + (1 : Int32)) fun v4 => (xden S mX13_ordersRegions 2 [(0, .ref x0), (1, .int v4)] [] h3))) (xden S mX13_ordersRegions 2 [(0, .ref x0), (1, .int x1)] [] h) := by
  refine l_loc dX13_ordersRegions_2 rfl rfl ?_
  refine l_loc dX13_ordersRegions_3 rfl rfl ?_
  refine l_gi dX13_ordersRegions_4 fl_12_421 (fun v1 => ?_)
  refine l_cge (t := 23) dX13_ordersRegions_7 rfl ?_ ?_
  · refine l_ic dX13_ordersRegions_23 kI_m1 ?_
    refine l_loc (al1 := [(1, .int (-1 : Int32)), (0, .ref x0)]) dX13_ordersRegions_24 rfl rfl ?_
    refine l_ic dX13_ordersRegions_25 kI_m1 ?_
    refine l_loc (al1 := [(2, .int (-1 : Int32)), (1, .int (-1 : Int32)), (0, .ref x0)]) dX13_ordersRegions_26 rfl rfl ?_
    refine l_ic dX13_ordersRegions_27 kI_0 ?_
    refine l_loc (al1 := [(3, .int (0 : Int32)), (2, .int (-1 : Int32)), (1, .int (-1 : Int32)), (0, .ref x0)]) dX13_ordersRegions_28 rfl rfl ?_
    exact l_al rfl ⟨rfl, rfl, rfl, rfl, trivial⟩
  · refine l_loc dX13_ordersRegions_10 rfl rfl ?_
    refine l_gr dX13_ordersRegions_11 fl_12_140 (fun v2 => ?_)
    refine l_loc dX13_ordersRegions_14 rfl rfl ?_
    refine l_ic dX13_ordersRegions_15 kI_0 ?_
    refine l_wz dX13_ordersRegions_16 (fun h3 => ?_)
    refine l_incl (al1 := fun v4 => [(1, .int v4), (0, .ref x0)]) dX13_ordersRegions_17 rfl kI_1 rfl (fun _ => rfl) (fun v4 => ?_)
    refine l_goto (t := 2) dX13_ordersRegions_20 rfl ?_
    exact l_al rfl ⟨rfl, rfl, trivial⟩
set_option maxRecDepth 16000 in
theorem w_X13_ordersRegions_29 (S : xS) (x0 : Nat) (x1 : Int32) (x2 : Int32) (x3 : Int32) (h : xH) : xle ((xGi h x0 12 59).bind fun v1 => if v1 ≤ x3 then (xden S mX13_ordersRegions 103 [(0, .ref x0), (1, .int x1), (3, .int (0 : Int32))] [] h) else (if xOb h x0 12 = true then xqI (xM S mX13_leastRegion [.ref x0, .int (-1 : Int32)] h) xth fun v4 h3 => (xGr h3 x0 12 68).bind fun v5 => (xWz h3 v5 v4 (1 : Int32)).bind fun h6 => if x1 < 0 then (xlet (x1 + (1 : Int32)) fun v7 => if xOb h6 x0 12 = true then xqI (xM S mX13_endKey [.ref x0, .int v4] h6) xth fun v10 h9 => if xOb h9 x0 12 = true then xqI (xM S mX13_endKey [.ref x0, .int v4] h9) xth fun v13 h12 => xqI (xM S mX13_greater [.int v10, .int v13] h12) xth fun v15 h14 => (xGr h14 x0 12 67).bind fun v16 => (xWi h14 v16 v4 v7).bind fun h17 => xlet (x3 + (1 : Int32)) fun v18 => (xden S mX13_ordersRegions 29 [(0, .ref x0), (1, .int v7), (2, .int v15), (3, .int v18)] [] h17) else none else none) else (if xOb h6 x0 12 = true then xqI (xM S mX13_firstKey [.ref x0, .int v4] h6) xth fun v21 h20 => if v21 ≤ x2 then (if xOb h20 x0 12 = true then xqI (xM S mX13_endKey [.ref x0, .int v4] h20) xth fun v24 h23 => xqI (xM S mX13_greater [.int x2, .int v24] h23) xth fun v26 h25 => (xGr h25 x0 12 67).bind fun v27 => (xWi h25 v27 v4 x1).bind fun h28 => xlet (x3 + (1 : Int32)) fun v29 => (xden S mX13_ordersRegions 29 [(0, .ref x0), (1, .int x1), (2, .int v26), (3, .int v29)] [] h28) else none) else (xlet (x1 + (1 : Int32)) fun v30 => if xOb h20 x0 12 = true then xqI (xM S mX13_endKey [.ref x0, .int v4] h20) xth fun v33 h32 => if xOb h32 x0 12 = true then xqI (xM S mX13_endKey [.ref x0, .int v4] h32) xth fun v36 h35 => xqI (xM S mX13_greater [.int v33, .int v36] h35) xth fun v38 h37 => (xGr h37 x0 12 67).bind fun v39 => (xWi h37 v39 v4 v30).bind fun h40 => xlet (x3 + (1 : Int32)) fun v41 => (xden S mX13_ordersRegions 29 [(0, .ref x0), (1, .int v30), (2, .int v38), (3, .int v41)] [] h40) else none else none) else none) else none)) (xden S mX13_ordersRegions 29 [(0, .ref x0), (1, .int x1), (2, .int x2), (3, .int x3)] [] h) := by
  refine l_loc dX13_ordersRegions_29 rfl rfl ?_
  refine l_loc dX13_ordersRegions_30 rfl rfl ?_
  refine l_gi dX13_ordersRegions_31 fl_12_421 (fun v1 => ?_)
  refine l_cge (t := 101) dX13_ordersRegions_34 rfl ?_ ?_
  · refine l_ic dX13_ordersRegions_101 kI_0 ?_
    refine l_loc (al1 := [(3, .int (0 : Int32)), (0, .ref x0), (1, .int x1), (2, .int x2)]) dX13_ordersRegions_102 rfl rfl ?_
    exact l_al rfl ⟨rfl, rfl, rfl, trivial⟩
  · refine l_loc dX13_ordersRegions_37 rfl rfl ?_
    refine l_ic dX13_ordersRegions_38 kI_m1 ?_
    refine l_ob fun q2 => ?_
    refine l_cI dX13_ordersRegions_39 rfl rfl rfl (l_xv cl_12_443 ko_mX13_leastRegion rfl rfl rfl q2) rfl rfl nm_mX13_leastRegion (xhE_th rfl) (fun v4 h3 => ?_)
    refine l_loc (al1 := [(4, .int v4), (0, .ref x0), (1, .int x1), (2, .int x2), (3, .int x3)]) dX13_ordersRegions_42 rfl rfl ?_
    refine l_loc dX13_ordersRegions_44 rfl rfl ?_
    refine l_gr dX13_ordersRegions_45 fl_12_140 (fun v5 => ?_)
    refine l_loc dX13_ordersRegions_48 rfl rfl ?_
    refine l_ic dX13_ordersRegions_50 kI_1 ?_
    refine l_wz dX13_ordersRegions_51 (fun h6 => ?_)
    refine l_loc dX13_ordersRegions_52 rfl rfl ?_
    refine l_ilt (t := 66) dX13_ordersRegions_53 rfl ?_ ?_
    · refine l_incl (al1 := fun v7 => [(1, .int v7), (4, .int v4), (0, .ref x0), (2, .int x2), (3, .int x3)]) dX13_ordersRegions_66 rfl kI_1 rfl (fun _ => rfl) (fun v7 => ?_)
      refine l_loc dX13_ordersRegions_69 rfl rfl ?_
      refine l_loc dX13_ordersRegions_70 rfl rfl ?_
      refine l_ob fun q8 => ?_
      refine l_cI dX13_ordersRegions_72 rfl rfl rfl (l_xv cl_12_446 ko_mX13_endKey rfl rfl rfl q8) rfl rfl nm_mX13_endKey (xhE_th rfl) (fun v10 h9 => ?_)
      refine l_loc (al1 := [(2, .int v10), (1, .int v7), (4, .int v4), (0, .ref x0), (3, .int x3)]) dX13_ordersRegions_75 rfl rfl ?_
      refine l_loc dX13_ordersRegions_76 rfl rfl ?_
      refine l_loc dX13_ordersRegions_77 rfl rfl ?_
      refine l_loc dX13_ordersRegions_78 rfl rfl ?_
      refine l_ob fun q11 => ?_
      refine l_cI dX13_ordersRegions_80 rfl rfl rfl (l_xv cl_12_446 ko_mX13_endKey rfl rfl rfl q11) rfl rfl nm_mX13_endKey (xhE_th rfl) (fun v13 h12 => ?_)
      refine l_cI dX13_ordersRegions_83 rfl rfl rfl (l_xs cl_12_427 ko_mX13_greater rfl rfl) rfl rfl nm_mX13_greater (xhE_th rfl) (fun v15 h14 => ?_)
      refine l_loc (al1 := [(2, .int v15), (1, .int v7), (4, .int v4), (0, .ref x0), (3, .int x3)]) dX13_ordersRegions_86 rfl rfl ?_
      refine l_loc dX13_ordersRegions_87 rfl rfl ?_
      refine l_gr dX13_ordersRegions_88 fl_12_137 (fun v16 => ?_)
      refine l_loc dX13_ordersRegions_91 rfl rfl ?_
      refine l_loc dX13_ordersRegions_93 rfl rfl ?_
      refine l_wi dX13_ordersRegions_94 (fun h17 => ?_)
      refine l_incl (al1 := fun v18 => [(3, .int v18), (2, .int v15), (1, .int v7), (4, .int v4), (0, .ref x0)]) dX13_ordersRegions_95 rfl kI_1 rfl (fun _ => rfl) (fun v18 => ?_)
      refine l_goto (t := 29) dX13_ordersRegions_98 rfl ?_
      exact l_al rfl ⟨rfl, rfl, rfl, rfl, trivial⟩
    · refine l_loc dX13_ordersRegions_56 rfl rfl ?_
      refine l_loc dX13_ordersRegions_57 rfl rfl ?_
      refine l_ob fun q19 => ?_
      refine l_cI dX13_ordersRegions_59 rfl rfl rfl (l_xv cl_12_440 ko_mX13_firstKey rfl rfl rfl q19) rfl rfl nm_mX13_firstKey (xhE_th rfl) (fun v21 h20 => ?_)
      refine l_loc dX13_ordersRegions_62 rfl rfl ?_
      refine l_cle (t := 76) dX13_ordersRegions_63 rfl ?_ ?_
      · refine l_loc dX13_ordersRegions_76 rfl rfl ?_
        refine l_loc dX13_ordersRegions_77 rfl rfl ?_
        refine l_loc dX13_ordersRegions_78 rfl rfl ?_
        refine l_ob fun q22 => ?_
        refine l_cI dX13_ordersRegions_80 rfl rfl rfl (l_xv cl_12_446 ko_mX13_endKey rfl rfl rfl q22) rfl rfl nm_mX13_endKey (xhE_th rfl) (fun v24 h23 => ?_)
        refine l_cI dX13_ordersRegions_83 rfl rfl rfl (l_xs cl_12_427 ko_mX13_greater rfl rfl) rfl rfl nm_mX13_greater (xhE_th rfl) (fun v26 h25 => ?_)
        refine l_loc (al1 := [(2, .int v26), (4, .int v4), (0, .ref x0), (1, .int x1), (3, .int x3)]) dX13_ordersRegions_86 rfl rfl ?_
        refine l_loc dX13_ordersRegions_87 rfl rfl ?_
        refine l_gr dX13_ordersRegions_88 fl_12_137 (fun v27 => ?_)
        refine l_loc dX13_ordersRegions_91 rfl rfl ?_
        refine l_loc dX13_ordersRegions_93 rfl rfl ?_
        refine l_wi dX13_ordersRegions_94 (fun h28 => ?_)
        refine l_incl (al1 := fun v29 => [(3, .int v29), (2, .int v26), (4, .int v4), (0, .ref x0), (1, .int x1)]) dX13_ordersRegions_95 rfl kI_1 rfl (fun _ => rfl) (fun v29 => ?_)
        refine l_goto (t := 29) dX13_ordersRegions_98 rfl ?_
        exact l_al rfl ⟨rfl, rfl, rfl, rfl, trivial⟩
      · refine l_incl (al1 := fun v30 => [(1, .int v30), (4, .int v4), (0, .ref x0), (2, .int x2), (3, .int x3)]) dX13_ordersRegions_66 rfl kI_1 rfl (fun _ => rfl) (fun v30 => ?_)
        refine l_loc dX13_ordersRegions_69 rfl rfl ?_
        refine l_loc dX13_ordersRegions_70 rfl rfl ?_
        refine l_ob fun q31 => ?_
        refine l_cI dX13_ordersRegions_72 rfl rfl rfl (l_xv cl_12_446 ko_mX13_endKey rfl rfl rfl q31) rfl rfl nm_mX13_endKey (xhE_th rfl) (fun v33 h32 => ?_)
        refine l_loc (al1 := [(2, .int v33), (1, .int v30), (4, .int v4), (0, .ref x0), (3, .int x3)]) dX13_ordersRegions_75 rfl rfl ?_
        refine l_loc dX13_ordersRegions_76 rfl rfl ?_
        refine l_loc dX13_ordersRegions_77 rfl rfl ?_
        refine l_loc dX13_ordersRegions_78 rfl rfl ?_
        refine l_ob fun q34 => ?_
        refine l_cI dX13_ordersRegions_80 rfl rfl rfl (l_xv cl_12_446 ko_mX13_endKey rfl rfl rfl q34) rfl rfl nm_mX13_endKey (xhE_th rfl) (fun v36 h35 => ?_)
        refine l_cI dX13_ordersRegions_83 rfl rfl rfl (l_xs cl_12_427 ko_mX13_greater rfl rfl) rfl rfl nm_mX13_greater (xhE_th rfl) (fun v38 h37 => ?_)
        refine l_loc (al1 := [(2, .int v38), (1, .int v30), (4, .int v4), (0, .ref x0), (3, .int x3)]) dX13_ordersRegions_86 rfl rfl ?_
        refine l_loc dX13_ordersRegions_87 rfl rfl ?_
        refine l_gr dX13_ordersRegions_88 fl_12_137 (fun v39 => ?_)
        refine l_loc dX13_ordersRegions_91 rfl rfl ?_
        refine l_loc dX13_ordersRegions_93 rfl rfl ?_
        refine l_wi dX13_ordersRegions_94 (fun h40 => ?_)
        refine l_incl (al1 := fun v41 => [(3, .int v41), (2, .int v38), (1, .int v30), (4, .int v4), (0, .ref x0)]) dX13_ordersRegions_95 rfl kI_1 rfl (fun _ => rfl) (fun v41 => ?_)
        refine l_goto (t := 29) dX13_ordersRegions_98 rfl ?_
        exact l_al rfl ⟨rfl, rfl, rfl, rfl, trivial⟩
set_option maxRecDepth 16000 in
theorem w_X13_ordersRegions_103 (S : xS) (x0 : Nat) (x1 : Int32) (x3 : Int32) (h : xH) : xle ((xGi h x0 12 59).bind fun v1 => if v1 ≤ x3 then (xden S mX13_ordersRegions 129 [(0, .ref x0), (1, .int x1), (3, .int (0 : Int32)), (4, .int (0 : Int32))] [] h) else ((xGr h x0 12 68).bind fun v2 => (xWz h v2 x3 (0 : Int32)).bind fun h3 => xlet (x3 + (1 : Int32)) fun v4 => (xden S mX13_ordersRegions 103 [(0, .ref x0), (1, .int x1), (3, .int v4)] [] h3))) (xden S mX13_ordersRegions 103 [(0, .ref x0), (1, .int x1), (3, .int x3)] [] h) := by
  refine l_loc dX13_ordersRegions_103 rfl rfl ?_
  refine l_loc dX13_ordersRegions_104 rfl rfl ?_
  refine l_gi dX13_ordersRegions_105 fl_12_421 (fun v1 => ?_)
  refine l_cge (t := 124) dX13_ordersRegions_108 rfl ?_ ?_
  · refine l_ic dX13_ordersRegions_124 kI_0 ?_
    refine l_loc (al1 := [(3, .int (0 : Int32)), (0, .ref x0), (1, .int x1)]) dX13_ordersRegions_125 rfl rfl ?_
    refine l_ic dX13_ordersRegions_126 kI_0 ?_
    refine l_loc (al1 := [(4, .int (0 : Int32)), (3, .int (0 : Int32)), (0, .ref x0), (1, .int x1)]) dX13_ordersRegions_127 rfl rfl ?_
    exact l_al rfl ⟨rfl, rfl, rfl, rfl, trivial⟩
  · refine l_loc dX13_ordersRegions_111 rfl rfl ?_
    refine l_gr dX13_ordersRegions_112 fl_12_140 (fun v2 => ?_)
    refine l_loc dX13_ordersRegions_115 rfl rfl ?_
    refine l_ic dX13_ordersRegions_116 kI_0 ?_
    refine l_wz dX13_ordersRegions_117 (fun h3 => ?_)
    refine l_incl (al1 := fun v4 => [(3, .int v4), (0, .ref x0), (1, .int x1)]) dX13_ordersRegions_118 rfl kI_1 rfl (fun _ => rfl) (fun v4 => ?_)
    refine l_goto (t := 103) dX13_ordersRegions_121 rfl ?_
    exact l_al rfl ⟨rfl, rfl, rfl, trivial⟩
set_option maxRecDepth 16000 in
theorem w_X13_ordersRegions_129 (S : xS) (x0 : Nat) (x1 : Int32) (x3 : Int32) (x4 : Int32) (h : xH) : xle (if x1 < x4 then (some (.inl none, h, 0, 0)) else (if xOb h x0 12 = true then xqI (xM S mX13_leastRegion [.ref x0, .int x4] h) xth fun v3 h2 => (xden S mX13_ordersRegions 143 [(0, .ref x0), (1, .int x1), (3, .int x3), (4, .int x4), (5, .int v3)] [] h2) else none)) (xden S mX13_ordersRegions 129 [(0, .ref x0), (1, .int x1), (3, .int x3), (4, .int x4)] [] h) := by
  refine l_loc dX13_ordersRegions_129 rfl rfl ?_
  refine l_loc dX13_ordersRegions_131 rfl rfl ?_
  refine l_cgt (t := 192) dX13_ordersRegions_132 rfl ?_ ?_
  · exact l_end dX13_ordersRegions_192 rfl rfl
  · refine l_loc dX13_ordersRegions_135 rfl rfl ?_
    refine l_loc dX13_ordersRegions_136 rfl rfl ?_
    refine l_ob fun q1 => ?_
    refine l_cI dX13_ordersRegions_138 rfl rfl rfl (l_xv cl_12_443 ko_mX13_leastRegion rfl rfl rfl q1) rfl rfl nm_mX13_leastRegion (xhE_th rfl) (fun v3 h2 => ?_)
    refine l_loc (al1 := [(5, .int v3), (0, .ref x0), (1, .int x1), (3, .int x3), (4, .int x4)]) dX13_ordersRegions_141 rfl rfl ?_
    exact l_al rfl ⟨rfl, rfl, rfl, rfl, rfl, trivial⟩
set_option maxRecDepth 16000 in
theorem w_X13_ordersRegions_143 (S : xS) (x0 : Nat) (x1 : Int32) (x3 : Int32) (x4 : Int32) (x5 : Int32) (h : xH) : xle (if x5 < 0 then (xlet (x4 + (1 : Int32)) fun v1 => (xden S mX13_ordersRegions 129 [(0, .ref x0), (1, .int x1), (3, .int x3), (4, .int v1)] [] h)) else ((xGr h x0 12 68).bind fun v2 => (xWz h v2 x5 (1 : Int32)).bind fun h3 => (xGr h3 x0 12 64).bind fun v4 => (xWi h3 v4 x3 x5).bind fun h5 => (xGr h5 x0 12 65).bind fun v6 => (xWi h5 v6 x5 x3).bind fun h7 => xlet (x3 + (1 : Int32)) fun v8 => if xOb h7 x0 12 = true then xqI (xM S mX13_leastRegion [.ref x0, .int x4] h7) xth fun v11 h10 => (xden S mX13_ordersRegions 143 [(0, .ref x0), (1, .int x1), (3, .int v8), (4, .int x4), (5, .int v11)] [] h10) else none)) (xden S mX13_ordersRegions 143 [(0, .ref x0), (1, .int x1), (3, .int x3), (4, .int x4), (5, .int x5)] [] h) := by
  refine l_loc dX13_ordersRegions_143 rfl rfl ?_
  refine l_ilt (t := 186) dX13_ordersRegions_145 rfl ?_ ?_
  · refine l_incl (al1 := fun v1 => [(4, .int v1), (0, .ref x0), (1, .int x1), (3, .int x3), (5, .int x5)]) dX13_ordersRegions_186 rfl kI_1 rfl (fun _ => rfl) (fun v1 => ?_)
    refine l_goto (t := 129) dX13_ordersRegions_189 rfl ?_
    exact l_al rfl ⟨rfl, rfl, rfl, rfl, trivial⟩
  · refine l_loc dX13_ordersRegions_148 rfl rfl ?_
    refine l_gr dX13_ordersRegions_149 fl_12_140 (fun v2 => ?_)
    refine l_loc dX13_ordersRegions_152 rfl rfl ?_
    refine l_ic dX13_ordersRegions_154 kI_1 ?_
    refine l_wz dX13_ordersRegions_155 (fun h3 => ?_)
    refine l_loc dX13_ordersRegions_156 rfl rfl ?_
    refine l_gr dX13_ordersRegions_157 fl_12_128 (fun v4 => ?_)
    refine l_loc dX13_ordersRegions_160 rfl rfl ?_
    refine l_loc dX13_ordersRegions_161 rfl rfl ?_
    refine l_wi dX13_ordersRegions_163 (fun h5 => ?_)
    refine l_loc dX13_ordersRegions_164 rfl rfl ?_
    refine l_gr dX13_ordersRegions_165 fl_12_131 (fun v6 => ?_)
    refine l_loc dX13_ordersRegions_168 rfl rfl ?_
    refine l_loc dX13_ordersRegions_170 rfl rfl ?_
    refine l_wi dX13_ordersRegions_171 (fun h7 => ?_)
    refine l_incl (al1 := fun v8 => [(3, .int v8), (0, .ref x0), (1, .int x1), (4, .int x4), (5, .int x5)]) dX13_ordersRegions_172 rfl kI_1 rfl (fun _ => rfl) (fun v8 => ?_)
    refine l_loc dX13_ordersRegions_175 rfl rfl ?_
    refine l_loc dX13_ordersRegions_176 rfl rfl ?_
    refine l_ob fun q9 => ?_
    refine l_cI dX13_ordersRegions_178 rfl rfl rfl (l_xv cl_12_443 ko_mX13_leastRegion rfl rfl rfl q9) rfl rfl nm_mX13_leastRegion (xhE_th rfl) (fun v11 h10 => ?_)
    refine l_loc (al1 := [(5, .int v11), (3, .int v8), (0, .ref x0), (1, .int x1), (4, .int x4)]) dX13_ordersRegions_181 rfl rfl ?_
    refine l_goto (t := 143) dX13_ordersRegions_183 rfl ?_
    exact l_al rfl ⟨rfl, rfl, rfl, rfl, rfl, trivial⟩
set_option maxRecDepth 16000 in
theorem w_X13_leastRegion (S : xS) (x0 : Nat) (x1 : Int32) (h : xH) : xle (xden S mX13_leastRegion 4 [(0, .ref x0), (1, .int x1), (2, .int (-1 : Int32)), (3, .int (0 : Int32))] [] h) (xM S mX13_leastRegion [.ref x0, .int x1] h) := by
  show xle _ (xden S mX13_leastRegion 0 [(0, .ref x0), (1, .int x1)] [] h)
  refine l_ic dX13_leastRegion_0 kI_m1 ?_
  refine l_loc (al1 := [(2, .int (-1 : Int32)), (0, .ref x0), (1, .int x1)]) dX13_leastRegion_1 rfl rfl ?_
  refine l_ic dX13_leastRegion_2 kI_0 ?_
  refine l_loc (al1 := [(3, .int (0 : Int32)), (2, .int (-1 : Int32)), (0, .ref x0), (1, .int x1)]) dX13_leastRegion_3 rfl rfl ?_
  exact l_al rfl ⟨rfl, rfl, rfl, rfl, trivial⟩
set_option maxRecDepth 16000 in
theorem w_X13_leastRegion_4 (S : xS) (x0 : Nat) (x1 : Int32) (x2 : Int32) (x3 : Int32) (h : xH) : xle ((xGi h x0 12 59).bind fun v1 => if v1 ≤ x3 then (some (.inl (some (.int x2)), h, 0, 0)) else ((xGr h x0 12 68).bind fun v2 => (xRi h 2 v2 x3).bind fun v3 => if ¬ v3 = 0 then (xden S mX13_leastRegion 40 [(0, .ref x0), (1, .int x1), (2, .int x2), (3, .int x3)] [.int (0 : Int32)] h) else (if x1 < 0 then (xden S mX13_leastRegion 40 [(0, .ref x0), (1, .int x1), (2, .int x2), (3, .int x3)] [.int (1 : Int32)] h) else ((xGr h x0 12 67).bind fun v4 => (xRi h 0 v4 x3).bind fun v5 => if ¬ v5 = x1 then (xden S mX13_leastRegion 40 [(0, .ref x0), (1, .int x1), (2, .int x2), (3, .int x3)] [.int (0 : Int32)] h) else (xden S mX13_leastRegion 40 [(0, .ref x0), (1, .int x1), (2, .int x2), (3, .int x3)] [.int (1 : Int32)] h))))) (xden S mX13_leastRegion 4 [(0, .ref x0), (1, .int x1), (2, .int x2), (3, .int x3)] [] h) := by
  refine l_loc dX13_leastRegion_4 rfl rfl ?_
  refine l_loc dX13_leastRegion_5 rfl rfl ?_
  refine l_gi dX13_leastRegion_6 fl_12_421 (fun v1 => ?_)
  refine l_cge (t := 77) dX13_leastRegion_9 rfl ?_ ?_
  · refine l_loc dX13_leastRegion_77 rfl rfl ?_
    exact l_iretn dX13_leastRegion_78 rfl (by rfl)
  · refine l_loc dX13_leastRegion_12 rfl rfl ?_
    refine l_gr dX13_leastRegion_13 fl_12_140 (fun v2 => ?_)
    refine l_loc dX13_leastRegion_16 rfl rfl ?_
    refine l_rz dX13_leastRegion_17 (fun v3 => ?_)
    refine l_ine (t := 39) dX13_leastRegion_18 rfl ?_ ?_
    · refine l_ic dX13_leastRegion_39 kI_0 ?_
      exact l_al rfl ⟨rfl, rfl, rfl, rfl, trivial⟩
    · refine l_loc dX13_leastRegion_21 rfl rfl ?_
      refine l_ilt (t := 35) dX13_leastRegion_22 rfl ?_ ?_
      · refine l_ic dX13_leastRegion_35 kI_1 ?_
        refine l_goto (t := 40) dX13_leastRegion_36 rfl ?_
        exact l_al rfl ⟨rfl, rfl, rfl, rfl, trivial⟩
      · refine l_loc dX13_leastRegion_25 rfl rfl ?_
        refine l_gr dX13_leastRegion_26 fl_12_137 (fun v4 => ?_)
        refine l_loc dX13_leastRegion_29 rfl rfl ?_
        refine l_ri dX13_leastRegion_30 (fun v5 => ?_)
        refine l_loc dX13_leastRegion_31 rfl rfl ?_
        refine l_cne (t := 39) dX13_leastRegion_32 rfl ?_ ?_
        · refine l_ic dX13_leastRegion_39 kI_0 ?_
          exact l_al rfl ⟨rfl, rfl, rfl, rfl, trivial⟩
        · refine l_ic dX13_leastRegion_35 kI_1 ?_
          refine l_goto (t := 40) dX13_leastRegion_36 rfl ?_
          exact l_al rfl ⟨rfl, rfl, rfl, rfl, trivial⟩
set_option maxRecDepth 16000 in
theorem w_X13_leastRegion_40 (S : xS) (x0 : Nat) (x1 : Int32) (x2 : Int32) (x3 : Int32) (z0 : Int32) (h : xH) : xle (if z0 = 0 then (xlet (x3 + (1 : Int32)) fun v1 => (xden S mX13_leastRegion 4 [(0, .ref x0), (1, .int x1), (2, .int x2), (3, .int v1)] [] h)) else (if x2 < 0 then (xlet (x3 + (1 : Int32)) fun v2 => (xden S mX13_leastRegion 4 [(0, .ref x0), (1, .int x1), (2, .int x3), (3, .int v2)] [] h)) else (if x1 < 0 then (if xOb h x0 12 = true then xqI (xM S mX13_isAhead [.ref x0, .int x3, .int x2, .int (0 : Int32)] h) xth fun v5 h4 => if v5 = 0 then (xlet (x3 + (1 : Int32)) fun v6 => (xden S mX13_leastRegion 4 [(0, .ref x0), (1, .int x1), (2, .int x2), (3, .int v6)] [] h4)) else (xlet (x3 + (1 : Int32)) fun v7 => (xden S mX13_leastRegion 4 [(0, .ref x0), (1, .int x1), (2, .int x3), (3, .int v7)] [] h4)) else none) else (if xOb h x0 12 = true then xqI (xM S mX13_isAhead [.ref x0, .int x3, .int x2, .int (1 : Int32)] h) xth fun v10 h9 => if v10 = 0 then (xlet (x3 + (1 : Int32)) fun v11 => (xden S mX13_leastRegion 4 [(0, .ref x0), (1, .int x1), (2, .int x2), (3, .int v11)] [] h9)) else (xlet (x3 + (1 : Int32)) fun v12 => (xden S mX13_leastRegion 4 [(0, .ref x0), (1, .int x1), (2, .int x3), (3, .int v12)] [] h9)) else none)))) (xden S mX13_leastRegion 40 [(0, .ref x0), (1, .int x1), (2, .int x2), (3, .int x3)] [.int z0] h) := by
  refine l_loc (al1 := [(4, .int z0), (0, .ref x0), (1, .int x1), (2, .int x2), (3, .int x3)]) dX13_leastRegion_40 rfl rfl ?_
  refine l_loc dX13_leastRegion_42 rfl rfl ?_
  refine l_ieq (t := 71) dX13_leastRegion_44 rfl ?_ ?_
  · refine l_incl (al1 := fun v1 => [(3, .int v1), (4, .int z0), (0, .ref x0), (1, .int x1), (2, .int x2)]) dX13_leastRegion_71 rfl kI_1 rfl (fun _ => rfl) (fun v1 => ?_)
    refine l_goto (t := 4) dX13_leastRegion_74 rfl ?_
    exact l_al rfl ⟨rfl, rfl, rfl, rfl, trivial⟩
  · refine l_loc dX13_leastRegion_47 rfl rfl ?_
    refine l_ilt (t := 69) dX13_leastRegion_48 rfl ?_ ?_
    · refine l_loc dX13_leastRegion_69 rfl rfl ?_
      refine l_loc (al1 := [(2, .int x3), (4, .int z0), (0, .ref x0), (1, .int x1), (3, .int x3)]) dX13_leastRegion_70 rfl rfl ?_
      refine l_incl (al1 := fun v2 => [(3, .int v2), (2, .int x3), (4, .int z0), (0, .ref x0), (1, .int x1)]) dX13_leastRegion_71 rfl kI_1 rfl (fun _ => rfl) (fun v2 => ?_)
      refine l_goto (t := 4) dX13_leastRegion_74 rfl ?_
      exact l_al rfl ⟨rfl, rfl, rfl, rfl, trivial⟩
    · refine l_loc dX13_leastRegion_51 rfl rfl ?_
      refine l_loc dX13_leastRegion_52 rfl rfl ?_
      refine l_loc dX13_leastRegion_53 rfl rfl ?_
      refine l_loc dX13_leastRegion_54 rfl rfl ?_
      refine l_ilt (t := 62) dX13_leastRegion_55 rfl ?_ ?_
      · refine l_ic dX13_leastRegion_62 kI_0 ?_
        refine l_ob fun q3 => ?_
        refine l_cI dX13_leastRegion_63 rfl rfl rfl (l_xv cl_12_433 ko_mX13_isAhead rfl rfl rfl q3) rfl rfl nm_mX13_isAhead (xhE_th rfl) (fun v5 h4 => ?_)
        refine l_ieq (t := 71) dX13_leastRegion_66 rfl ?_ ?_
        · refine l_incl (al1 := fun v6 => [(3, .int v6), (4, .int z0), (0, .ref x0), (1, .int x1), (2, .int x2)]) dX13_leastRegion_71 rfl kI_1 rfl (fun _ => rfl) (fun v6 => ?_)
          refine l_goto (t := 4) dX13_leastRegion_74 rfl ?_
          exact l_al rfl ⟨rfl, rfl, rfl, rfl, trivial⟩
        · refine l_loc dX13_leastRegion_69 rfl rfl ?_
          refine l_loc (al1 := [(2, .int x3), (4, .int z0), (0, .ref x0), (1, .int x1), (3, .int x3)]) dX13_leastRegion_70 rfl rfl ?_
          refine l_incl (al1 := fun v7 => [(3, .int v7), (2, .int x3), (4, .int z0), (0, .ref x0), (1, .int x1)]) dX13_leastRegion_71 rfl kI_1 rfl (fun _ => rfl) (fun v7 => ?_)
          refine l_goto (t := 4) dX13_leastRegion_74 rfl ?_
          exact l_al rfl ⟨rfl, rfl, rfl, rfl, trivial⟩
      · refine l_ic dX13_leastRegion_58 kI_1 ?_
        refine l_goto (t := 63) dX13_leastRegion_59 rfl ?_
        refine l_ob fun q8 => ?_
        refine l_cI dX13_leastRegion_63 rfl rfl rfl (l_xv cl_12_433 ko_mX13_isAhead rfl rfl rfl q8) rfl rfl nm_mX13_isAhead (xhE_th rfl) (fun v10 h9 => ?_)
        refine l_ieq (t := 71) dX13_leastRegion_66 rfl ?_ ?_
        · refine l_incl (al1 := fun v11 => [(3, .int v11), (4, .int z0), (0, .ref x0), (1, .int x1), (2, .int x2)]) dX13_leastRegion_71 rfl kI_1 rfl (fun _ => rfl) (fun v11 => ?_)
          refine l_goto (t := 4) dX13_leastRegion_74 rfl ?_
          exact l_al rfl ⟨rfl, rfl, rfl, rfl, trivial⟩
        · refine l_loc dX13_leastRegion_69 rfl rfl ?_
          refine l_loc (al1 := [(2, .int x3), (4, .int z0), (0, .ref x0), (1, .int x1), (3, .int x3)]) dX13_leastRegion_70 rfl rfl ?_
          refine l_incl (al1 := fun v12 => [(3, .int v12), (2, .int x3), (4, .int z0), (0, .ref x0), (1, .int x1)]) dX13_leastRegion_71 rfl kI_1 rfl (fun _ => rfl) (fun v12 => ?_)
          refine l_goto (t := 4) dX13_leastRegion_74 rfl ?_
          exact l_al rfl ⟨rfl, rfl, rfl, rfl, trivial⟩
set_option maxRecDepth 16000 in
theorem w_X13_isAhead (S : xS) (x0 : Nat) (x1 : Int32) (x2 : Int32) (x3 : Int32) (h : xH) : xle (if x3 = 0 then (if xOb h x0 12 = true then xqI (xM S mX13_firstKey [.ref x0, .int x1] h) xth fun v3 h2 => if x3 = 0 then (if xOb h2 x0 12 = true then xqI (xM S mX13_firstKey [.ref x0, .int x2] h2) xth fun v6 h5 => if x3 = 0 then (if xOb h5 x0 12 = true then xqI (xM S mX13_secondKey [.ref x0, .int x1] h5) xth fun v9 h8 => (xden S mX13_isAhead 55 [(0, .ref x0), (1, .int x1), (2, .int x2), (3, .int x3), (4, .int v3), (5, .int v6)] [.int v9] h8) else none) else (if xOb h5 x0 12 = true then xqI (xM S mX13_firstKey [.ref x0, .int x1] h5) xth fun v12 h11 => (xden S mX13_isAhead 55 [(0, .ref x0), (1, .int x1), (2, .int x2), (3, .int x3), (4, .int v3), (5, .int v6)] [.int v12] h11) else none) else none) else (if xOb h2 x0 12 = true then xqI (xM S mX13_secondKey [.ref x0, .int x2] h2) xth fun v15 h14 => if x3 = 0 then (if xOb h14 x0 12 = true then xqI (xM S mX13_secondKey [.ref x0, .int x1] h14) xth fun v18 h17 => (xden S mX13_isAhead 55 [(0, .ref x0), (1, .int x1), (2, .int x2), (3, .int x3), (4, .int v3), (5, .int v15)] [.int v18] h17) else none) else (if xOb h14 x0 12 = true then xqI (xM S mX13_firstKey [.ref x0, .int x1] h14) xth fun v21 h20 => (xden S mX13_isAhead 55 [(0, .ref x0), (1, .int x1), (2, .int x2), (3, .int x3), (4, .int v3), (5, .int v15)] [.int v21] h20) else none) else none) else none) else (if xOb h x0 12 = true then xqI (xM S mX13_secondKey [.ref x0, .int x1] h) xth fun v24 h23 => if x3 = 0 then (if xOb h23 x0 12 = true then xqI (xM S mX13_firstKey [.ref x0, .int x2] h23) xth fun v27 h26 => if x3 = 0 then (if xOb h26 x0 12 = true then xqI (xM S mX13_secondKey [.ref x0, .int x1] h26) xth fun v30 h29 => (xden S mX13_isAhead 55 [(0, .ref x0), (1, .int x1), (2, .int x2), (3, .int x3), (4, .int v24), (5, .int v27)] [.int v30] h29) else none) else (if xOb h26 x0 12 = true then xqI (xM S mX13_firstKey [.ref x0, .int x1] h26) xth fun v33 h32 => (xden S mX13_isAhead 55 [(0, .ref x0), (1, .int x1), (2, .int x2), (3, .int x3), (4, .int v24), (5, .int v27)] [.int v33] h32) else none) else none) else (if xOb h23 x0 12 = true then xqI (xM S mX13_secondKey [.ref x0, .int x2] h23) xth fun v36 h35 => if x3 = 0 then (if xOb h35 x0 12 = true then xqI (xM S mX13_secondKey [.ref x0, .int x1] h35) xth fun v39 h38 => (xden S mX13_isAhead 55 [(0, .ref x0), (1, .int x1), (2, .int x2), (3, .int x3), (4, .int v24), (5, .int v36)] [.int v39] h38) else none) else (if xOb h35 x0 12 = true then xqI (xM S mX13_firstKey [.ref x0, .int x1] h35) xth fun v42 h41 => (xden S mX13_isAhead 55 [(0, .ref x0), (1, .int x1), (2, .int x2), (3, .int x3), (4, .int v24), (5, .int v36)] [.int v42] h41) else none) else none) else none)) (xM S mX13_isAhead [.ref x0, .int x1, .int x2, .int x3] h) := by
  show xle _ (xden S mX13_isAhead 0 [(0, .ref x0), (1, .int x1), (2, .int x2), (3, .int x3)] [] h)
  refine l_loc dX13_isAhead_0 rfl rfl ?_
  refine l_ieq (t := 12) dX13_isAhead_1 rfl ?_ ?_
  · refine l_loc dX13_isAhead_12 rfl rfl ?_
    refine l_loc dX13_isAhead_13 rfl rfl ?_
    refine l_ob fun q1 => ?_
    refine l_cI dX13_isAhead_14 rfl rfl rfl (l_xv cl_12_440 ko_mX13_firstKey rfl rfl rfl q1) rfl rfl nm_mX13_firstKey (xhE_th rfl) (fun v3 h2 => ?_)
    refine l_loc (al1 := [(4, .int v3), (0, .ref x0), (1, .int x1), (2, .int x2), (3, .int x3)]) dX13_isAhead_17 rfl rfl ?_
    refine l_loc dX13_isAhead_19 rfl rfl ?_
    refine l_ieq (t := 31) dX13_isAhead_20 rfl ?_ ?_
    · refine l_loc dX13_isAhead_31 rfl rfl ?_
      refine l_loc dX13_isAhead_32 rfl rfl ?_
      refine l_ob fun q4 => ?_
      refine l_cI dX13_isAhead_33 rfl rfl rfl (l_xv cl_12_440 ko_mX13_firstKey rfl rfl rfl q4) rfl rfl nm_mX13_firstKey (xhE_th rfl) (fun v6 h5 => ?_)
      refine l_loc (al1 := [(5, .int v6), (4, .int v3), (0, .ref x0), (1, .int x1), (2, .int x2), (3, .int x3)]) dX13_isAhead_36 rfl rfl ?_
      refine l_loc dX13_isAhead_38 rfl rfl ?_
      refine l_ieq (t := 50) dX13_isAhead_39 rfl ?_ ?_
      · refine l_loc dX13_isAhead_50 rfl rfl ?_
        refine l_loc dX13_isAhead_51 rfl rfl ?_
        refine l_ob fun q7 => ?_
        refine l_cI dX13_isAhead_52 rfl rfl rfl (l_xv cl_12_437 ko_mX13_secondKey rfl rfl rfl q7) rfl rfl nm_mX13_secondKey (xhE_th rfl) (fun v9 h8 => ?_)
        exact l_al rfl ⟨rfl, rfl, rfl, rfl, rfl, rfl, trivial⟩
      · refine l_loc dX13_isAhead_42 rfl rfl ?_
        refine l_loc dX13_isAhead_43 rfl rfl ?_
        refine l_ob fun q10 => ?_
        refine l_cI dX13_isAhead_44 rfl rfl rfl (l_xv cl_12_440 ko_mX13_firstKey rfl rfl rfl q10) rfl rfl nm_mX13_firstKey (xhE_th rfl) (fun v12 h11 => ?_)
        refine l_goto (t := 55) dX13_isAhead_47 rfl ?_
        exact l_al rfl ⟨rfl, rfl, rfl, rfl, rfl, rfl, trivial⟩
    · refine l_loc dX13_isAhead_23 rfl rfl ?_
      refine l_loc dX13_isAhead_24 rfl rfl ?_
      refine l_ob fun q13 => ?_
      refine l_cI dX13_isAhead_25 rfl rfl rfl (l_xv cl_12_437 ko_mX13_secondKey rfl rfl rfl q13) rfl rfl nm_mX13_secondKey (xhE_th rfl) (fun v15 h14 => ?_)
      refine l_goto (t := 36) dX13_isAhead_28 rfl ?_
      refine l_loc (al1 := [(5, .int v15), (4, .int v3), (0, .ref x0), (1, .int x1), (2, .int x2), (3, .int x3)]) dX13_isAhead_36 rfl rfl ?_
      refine l_loc dX13_isAhead_38 rfl rfl ?_
      refine l_ieq (t := 50) dX13_isAhead_39 rfl ?_ ?_
      · refine l_loc dX13_isAhead_50 rfl rfl ?_
        refine l_loc dX13_isAhead_51 rfl rfl ?_
        refine l_ob fun q16 => ?_
        refine l_cI dX13_isAhead_52 rfl rfl rfl (l_xv cl_12_437 ko_mX13_secondKey rfl rfl rfl q16) rfl rfl nm_mX13_secondKey (xhE_th rfl) (fun v18 h17 => ?_)
        exact l_al rfl ⟨rfl, rfl, rfl, rfl, rfl, rfl, trivial⟩
      · refine l_loc dX13_isAhead_42 rfl rfl ?_
        refine l_loc dX13_isAhead_43 rfl rfl ?_
        refine l_ob fun q19 => ?_
        refine l_cI dX13_isAhead_44 rfl rfl rfl (l_xv cl_12_440 ko_mX13_firstKey rfl rfl rfl q19) rfl rfl nm_mX13_firstKey (xhE_th rfl) (fun v21 h20 => ?_)
        refine l_goto (t := 55) dX13_isAhead_47 rfl ?_
        exact l_al rfl ⟨rfl, rfl, rfl, rfl, rfl, rfl, trivial⟩
  · refine l_loc dX13_isAhead_4 rfl rfl ?_
    refine l_loc dX13_isAhead_5 rfl rfl ?_
    refine l_ob fun q22 => ?_
    refine l_cI dX13_isAhead_6 rfl rfl rfl (l_xv cl_12_437 ko_mX13_secondKey rfl rfl rfl q22) rfl rfl nm_mX13_secondKey (xhE_th rfl) (fun v24 h23 => ?_)
    refine l_goto (t := 17) dX13_isAhead_9 rfl ?_
    refine l_loc (al1 := [(4, .int v24), (0, .ref x0), (1, .int x1), (2, .int x2), (3, .int x3)]) dX13_isAhead_17 rfl rfl ?_
    refine l_loc dX13_isAhead_19 rfl rfl ?_
    refine l_ieq (t := 31) dX13_isAhead_20 rfl ?_ ?_
    · refine l_loc dX13_isAhead_31 rfl rfl ?_
      refine l_loc dX13_isAhead_32 rfl rfl ?_
      refine l_ob fun q25 => ?_
      refine l_cI dX13_isAhead_33 rfl rfl rfl (l_xv cl_12_440 ko_mX13_firstKey rfl rfl rfl q25) rfl rfl nm_mX13_firstKey (xhE_th rfl) (fun v27 h26 => ?_)
      refine l_loc (al1 := [(5, .int v27), (4, .int v24), (0, .ref x0), (1, .int x1), (2, .int x2), (3, .int x3)]) dX13_isAhead_36 rfl rfl ?_
      refine l_loc dX13_isAhead_38 rfl rfl ?_
      refine l_ieq (t := 50) dX13_isAhead_39 rfl ?_ ?_
      · refine l_loc dX13_isAhead_50 rfl rfl ?_
        refine l_loc dX13_isAhead_51 rfl rfl ?_
        refine l_ob fun q28 => ?_
        refine l_cI dX13_isAhead_52 rfl rfl rfl (l_xv cl_12_437 ko_mX13_secondKey rfl rfl rfl q28) rfl rfl nm_mX13_secondKey (xhE_th rfl) (fun v30 h29 => ?_)
        exact l_al rfl ⟨rfl, rfl, rfl, rfl, rfl, rfl, trivial⟩
      · refine l_loc dX13_isAhead_42 rfl rfl ?_
        refine l_loc dX13_isAhead_43 rfl rfl ?_
        refine l_ob fun q31 => ?_
        refine l_cI dX13_isAhead_44 rfl rfl rfl (l_xv cl_12_440 ko_mX13_firstKey rfl rfl rfl q31) rfl rfl nm_mX13_firstKey (xhE_th rfl) (fun v33 h32 => ?_)
        refine l_goto (t := 55) dX13_isAhead_47 rfl ?_
        exact l_al rfl ⟨rfl, rfl, rfl, rfl, rfl, rfl, trivial⟩
    · refine l_loc dX13_isAhead_23 rfl rfl ?_
      refine l_loc dX13_isAhead_24 rfl rfl ?_
      refine l_ob fun q34 => ?_
      refine l_cI dX13_isAhead_25 rfl rfl rfl (l_xv cl_12_437 ko_mX13_secondKey rfl rfl rfl q34) rfl rfl nm_mX13_secondKey (xhE_th rfl) (fun v36 h35 => ?_)
      refine l_goto (t := 36) dX13_isAhead_28 rfl ?_
      refine l_loc (al1 := [(5, .int v36), (4, .int v24), (0, .ref x0), (1, .int x1), (2, .int x2), (3, .int x3)]) dX13_isAhead_36 rfl rfl ?_
      refine l_loc dX13_isAhead_38 rfl rfl ?_
      refine l_ieq (t := 50) dX13_isAhead_39 rfl ?_ ?_
      · refine l_loc dX13_isAhead_50 rfl rfl ?_
        refine l_loc dX13_isAhead_51 rfl rfl ?_
        refine l_ob fun q37 => ?_
        refine l_cI dX13_isAhead_52 rfl rfl rfl (l_xv cl_12_437 ko_mX13_secondKey rfl rfl rfl q37) rfl rfl nm_mX13_secondKey (xhE_th rfl) (fun v39 h38 => ?_)
        exact l_al rfl ⟨rfl, rfl, rfl, rfl, rfl, rfl, trivial⟩
      · refine l_loc dX13_isAhead_42 rfl rfl ?_
        refine l_loc dX13_isAhead_43 rfl rfl ?_
        refine l_ob fun q40 => ?_
        refine l_cI dX13_isAhead_44 rfl rfl rfl (l_xv cl_12_440 ko_mX13_firstKey rfl rfl rfl q40) rfl rfl nm_mX13_firstKey (xhE_th rfl) (fun v42 h41 => ?_)
        refine l_goto (t := 55) dX13_isAhead_47 rfl ?_
        exact l_al rfl ⟨rfl, rfl, rfl, rfl, rfl, rfl, trivial⟩
set_option maxRecDepth 16000 in
theorem w_X13_isAhead_55 (S : xS) (x0 : Nat) (x1 : Int32) (x2 : Int32) (x3 : Int32) (x4 : Int32) (x5 : Int32) (z0 : Int32) (h : xH) : xle (if x3 = 0 then (if xOb h x0 12 = true then xqI (xM S mX13_secondKey [.ref x0, .int x2] h) xth fun v3 h2 => (xden S mX13_isAhead 74 [(1, .int x1), (2, .int x2), (4, .int x4), (5, .int x5), (6, .int z0)] [.int v3] h2) else none) else (if xOb h x0 12 = true then xqI (xM S mX13_firstKey [.ref x0, .int x2] h) xth fun v6 h5 => (xden S mX13_isAhead 74 [(1, .int x1), (2, .int x2), (4, .int x4), (5, .int x5), (6, .int z0)] [.int v6] h5) else none)) (xden S mX13_isAhead 55 [(0, .ref x0), (1, .int x1), (2, .int x2), (3, .int x3), (4, .int x4), (5, .int x5)] [.int z0] h) := by
  refine l_loc (al1 := [(6, .int z0), (0, .ref x0), (1, .int x1), (2, .int x2), (3, .int x3), (4, .int x4), (5, .int x5)]) dX13_isAhead_55 rfl rfl ?_
  refine l_loc dX13_isAhead_57 rfl rfl ?_
  refine l_ieq (t := 69) dX13_isAhead_58 rfl ?_ ?_
  · refine l_loc dX13_isAhead_69 rfl rfl ?_
    refine l_loc dX13_isAhead_70 rfl rfl ?_
    refine l_ob fun q1 => ?_
    refine l_cI dX13_isAhead_71 rfl rfl rfl (l_xv cl_12_437 ko_mX13_secondKey rfl rfl rfl q1) rfl rfl nm_mX13_secondKey (xhE_th rfl) (fun v3 h2 => ?_)
    exact l_al rfl ⟨rfl, rfl, rfl, rfl, rfl, trivial⟩
  · refine l_loc dX13_isAhead_61 rfl rfl ?_
    refine l_loc dX13_isAhead_62 rfl rfl ?_
    refine l_ob fun q4 => ?_
    refine l_cI dX13_isAhead_63 rfl rfl rfl (l_xv cl_12_440 ko_mX13_firstKey rfl rfl rfl q4) rfl rfl nm_mX13_firstKey (xhE_th rfl) (fun v6 h5 => ?_)
    refine l_goto (t := 74) dX13_isAhead_66 rfl ?_
    exact l_al rfl ⟨rfl, rfl, rfl, rfl, rfl, trivial⟩
set_option maxRecDepth 16000 in
theorem w_X13_isAhead_74 (S : xS) (x1 : Int32) (x2 : Int32) (x4 : Int32) (x5 : Int32) (x6 : Int32) (z0 : Int32) (h : xH) : xle (if x4 < x5 then (some (.inl (some (.int (1 : Int32))), h, 0, 0)) else (if ¬ x4 = x5 then (some (.inl (some (.int (0 : Int32))), h, 0, 0)) else (if x6 < z0 then (some (.inl (some (.int (1 : Int32))), h, 0, 0)) else (if ¬ x6 = z0 then (some (.inl (some (.int (0 : Int32))), h, 0, 0)) else (if x2 ≤ x1 then (some (.inl (some (.int (0 : Int32))), h, 0, 0)) else (some (.inl (some (.int (1 : Int32))), h, 0, 0))))))) (xden S mX13_isAhead 74 [(1, .int x1), (2, .int x2), (4, .int x4), (5, .int x5), (6, .int x6)] [.int z0] h) := by
  refine l_loc (al1 := [(7, .int z0), (1, .int x1), (2, .int x2), (4, .int x4), (5, .int x5), (6, .int x6)]) dX13_isAhead_74 rfl rfl ?_
  refine l_loc dX13_isAhead_76 rfl rfl ?_
  refine l_loc dX13_isAhead_78 rfl rfl ?_
  refine l_clt (t := 109) dX13_isAhead_80 rfl ?_ ?_
  · refine l_ic dX13_isAhead_109 kI_1 ?_
    refine l_goto (t := 114) dX13_isAhead_110 rfl ?_
    exact l_iretn dX13_isAhead_114 rfl (by decide)
  · refine l_loc dX13_isAhead_83 rfl rfl ?_
    refine l_loc dX13_isAhead_85 rfl rfl ?_
    refine l_cne (t := 113) dX13_isAhead_87 rfl ?_ ?_
    · refine l_ic dX13_isAhead_113 kI_0 ?_
      exact l_iretn dX13_isAhead_114 rfl (by decide)
    · refine l_loc dX13_isAhead_90 rfl rfl ?_
      refine l_loc dX13_isAhead_92 rfl rfl ?_
      refine l_clt (t := 109) dX13_isAhead_94 rfl ?_ ?_
      · refine l_ic dX13_isAhead_109 kI_1 ?_
        refine l_goto (t := 114) dX13_isAhead_110 rfl ?_
        exact l_iretn dX13_isAhead_114 rfl (by decide)
      · refine l_loc dX13_isAhead_97 rfl rfl ?_
        refine l_loc dX13_isAhead_99 rfl rfl ?_
        refine l_cne (t := 113) dX13_isAhead_101 rfl ?_ ?_
        · refine l_ic dX13_isAhead_113 kI_0 ?_
          exact l_iretn dX13_isAhead_114 rfl (by decide)
        · refine l_loc dX13_isAhead_104 rfl rfl ?_
          refine l_loc dX13_isAhead_105 rfl rfl ?_
          refine l_cge (t := 113) dX13_isAhead_106 rfl ?_ ?_
          · refine l_ic dX13_isAhead_113 kI_0 ?_
            exact l_iretn dX13_isAhead_114 rfl (by decide)
          · refine l_ic dX13_isAhead_109 kI_1 ?_
            refine l_goto (t := 114) dX13_isAhead_110 rfl ?_
            exact l_iretn dX13_isAhead_114 rfl (by decide)
set_option maxRecDepth 16000 in
theorem w_X13_secondKey (S : xS) (x0 : Nat) (x1 : Int32) (h : xH) : xle ((xGr h x0 12 14).bind fun v1 => (xRi h 0 v1 (7 : Int32)).bind fun v2 => if ¬ v2 = 0 then ((xGr h x0 12 61).bind fun v3 => (xRi h 0 v3 x1).bind fun v4 => some (.inl (some (.int v4)), h, 0, 0)) else ((xGr h x0 12 60).bind fun v5 => (xRi h 0 v5 x1).bind fun v6 => some (.inl (some (.int v6)), h, 0, 0))) (xM S mX13_secondKey [.ref x0, .int x1] h) := by
  show xle _ (xden S mX13_secondKey 0 [(0, .ref x0), (1, .int x1)] [] h)
  refine l_loc dX13_secondKey_0 rfl rfl ?_
  refine l_gr dX13_secondKey_1 fl_12_33 (fun v1 => ?_)
  refine l_bi dX13_secondKey_4 kB_7 ?_
  refine l_ri dX13_secondKey_6 (fun v2 => ?_)
  refine l_ine (t := 19) dX13_secondKey_7 rfl ?_ ?_
  · refine l_loc dX13_secondKey_19 rfl rfl ?_
    refine l_gr dX13_secondKey_20 fl_12_119 (fun v3 => ?_)
    refine l_loc dX13_secondKey_23 rfl rfl ?_
    refine l_ri dX13_secondKey_24 (fun v4 => ?_)
    exact l_iretn dX13_secondKey_25 rfl (by rfl)
  · refine l_loc dX13_secondKey_10 rfl rfl ?_
    refine l_gr dX13_secondKey_11 fl_12_116 (fun v5 => ?_)
    refine l_loc dX13_secondKey_14 rfl rfl ?_
    refine l_ri dX13_secondKey_15 (fun v6 => ?_)
    refine l_goto (t := 25) dX13_secondKey_16 rfl ?_
    exact l_iretn dX13_secondKey_25 rfl (by rfl)
set_option maxRecDepth 16000 in
theorem w_X13_firstKey (S : xS) (x0 : Nat) (x1 : Int32) (h : xH) : xle ((xGr h x0 12 14).bind fun v1 => (xRi h 0 v1 (7 : Int32)).bind fun v2 => if ¬ v2 = 0 then ((xGr h x0 12 60).bind fun v3 => (xRi h 0 v3 x1).bind fun v4 => some (.inl (some (.int v4)), h, 0, 0)) else ((xGr h x0 12 61).bind fun v5 => (xRi h 0 v5 x1).bind fun v6 => some (.inl (some (.int v6)), h, 0, 0))) (xM S mX13_firstKey [.ref x0, .int x1] h) := by
  show xle _ (xden S mX13_firstKey 0 [(0, .ref x0), (1, .int x1)] [] h)
  refine l_loc dX13_firstKey_0 rfl rfl ?_
  refine l_gr dX13_firstKey_1 fl_12_33 (fun v1 => ?_)
  refine l_bi dX13_firstKey_4 kB_7 ?_
  refine l_ri dX13_firstKey_6 (fun v2 => ?_)
  refine l_ine (t := 19) dX13_firstKey_7 rfl ?_ ?_
  · refine l_loc dX13_firstKey_19 rfl rfl ?_
    refine l_gr dX13_firstKey_20 fl_12_116 (fun v3 => ?_)
    refine l_loc dX13_firstKey_23 rfl rfl ?_
    refine l_ri dX13_firstKey_24 (fun v4 => ?_)
    exact l_iretn dX13_firstKey_25 rfl (by rfl)
  · refine l_loc dX13_firstKey_10 rfl rfl ?_
    refine l_gr dX13_firstKey_11 fl_12_119 (fun v5 => ?_)
    refine l_loc dX13_firstKey_14 rfl rfl ?_
    refine l_ri dX13_firstKey_15 (fun v6 => ?_)
    refine l_goto (t := 25) dX13_firstKey_16 rfl ?_
    exact l_iretn dX13_firstKey_25 rfl (by rfl)
set_option maxRecDepth 16000 in
theorem w_X13_endKey (S : xS) (x0 : Nat) (x1 : Int32) (h : xH) : xle ((xGr h x0 12 14).bind fun v1 => (xRi h 0 v1 (7 : Int32)).bind fun v2 => if ¬ v2 = 0 then ((xGr h x0 12 62).bind fun v3 => (xRi h 0 v3 x1).bind fun v4 => some (.inl (some (.int v4)), h, 0, 0)) else ((xGr h x0 12 63).bind fun v5 => (xRi h 0 v5 x1).bind fun v6 => some (.inl (some (.int v6)), h, 0, 0))) (xM S mX13_endKey [.ref x0, .int x1] h) := by
  show xle _ (xden S mX13_endKey 0 [(0, .ref x0), (1, .int x1)] [] h)
  refine l_loc dX13_endKey_0 rfl rfl ?_
  refine l_gr dX13_endKey_1 fl_12_33 (fun v1 => ?_)
  refine l_bi dX13_endKey_4 kB_7 ?_
  refine l_ri dX13_endKey_6 (fun v2 => ?_)
  refine l_ine (t := 19) dX13_endKey_7 rfl ?_ ?_
  · refine l_loc dX13_endKey_19 rfl rfl ?_
    refine l_gr dX13_endKey_20 fl_12_122 (fun v3 => ?_)
    refine l_loc dX13_endKey_23 rfl rfl ?_
    refine l_ri dX13_endKey_24 (fun v4 => ?_)
    exact l_iretn dX13_endKey_25 rfl (by rfl)
  · refine l_loc dX13_endKey_10 rfl rfl ?_
    refine l_gr dX13_endKey_11 fl_12_125 (fun v5 => ?_)
    refine l_loc dX13_endKey_14 rfl rfl ?_
    refine l_ri dX13_endKey_15 (fun v6 => ?_)
    refine l_goto (t := 25) dX13_endKey_16 rfl ?_
    exact l_iretn dX13_endKey_25 rfl (by rfl)
set_option maxRecDepth 16000 in
theorem w_X13_findsParts (S : xS) (x0 : Nat) (h : xH) : xle (xden S mX13_findsParts 2 [(0, .ref x0), (1, .int (0 : Int32))] [] h) (xM S mX13_findsParts [.ref x0] h) := by
  show xle _ (xden S mX13_findsParts 0 [(0, .ref x0)] [] h)
  refine l_ic dX13_findsParts_0 kI_0 ?_
  refine l_loc (al1 := [(1, .int (0 : Int32)), (0, .ref x0)]) dX13_findsParts_1 rfl rfl ?_
  exact l_al rfl ⟨rfl, rfl, trivial⟩
set_option maxRecDepth 16000 in
theorem w_X13_findsParts_2 (S : xS) (x0 : Nat) (x1 : Int32) (h : xH) : xle (if (256 : Int32) ≤ x1 then (xden S mX13_findsParts 47 [(0, .ref x0), (1, .int (0 : Int32))] [] h) else ((xGr h x0 12 69).bind fun v1 => (xGr h x0 12 58).bind fun v2 => (xRi h 0 v2 x1).bind fun v3 => if 0 ≤ v3 then ((xGr h x0 12 65).bind fun v4 => (xGr h x0 12 58).bind fun v5 => (xRi h 0 v5 x1).bind fun v6 => (xRi h 0 v4 v6).bind fun v7 => (xWi h v1 x1 v7).bind fun h8 => xlet (x1 + (1 : Int32)) fun v9 => (xden S mX13_findsParts 2 [(0, .ref x0), (1, .int v9)] [] h8)) else ((xWi h v1 x1 (-1 : Int32)).bind fun h10 => xlet (x1 + (1 : Int32)) fun v11 => (xden S mX13_findsParts 2 [(0, .ref x0), (1, .int v11)] [] h10)))) (xden S mX13_findsParts 2 [(0, .ref x0), (1, .int x1)] [] h) := by
  refine l_loc dX13_findsParts_2 rfl rfl ?_
  refine l_si dX13_findsParts_3 kS_256 ?_
  refine l_cge (t := 45) dX13_findsParts_6 rfl ?_ ?_
  · refine l_ic dX13_findsParts_45 kI_0 ?_
    refine l_loc (al1 := [(1, .int (0 : Int32)), (0, .ref x0)]) dX13_findsParts_46 rfl rfl ?_
    exact l_al rfl ⟨rfl, rfl, trivial⟩
  · refine l_loc dX13_findsParts_9 rfl rfl ?_
    refine l_gr dX13_findsParts_10 fl_12_143 (fun v1 => ?_)
    refine l_loc dX13_findsParts_13 rfl rfl ?_
    refine l_loc dX13_findsParts_14 rfl rfl ?_
    refine l_gr dX13_findsParts_15 fl_12_113 (fun v2 => ?_)
    refine l_loc dX13_findsParts_18 rfl rfl ?_
    refine l_ri dX13_findsParts_19 (fun v3 => ?_)
    refine l_ige (t := 27) dX13_findsParts_20 rfl ?_ ?_
    · refine l_loc dX13_findsParts_27 rfl rfl ?_
      refine l_gr dX13_findsParts_28 fl_12_131 (fun v4 => ?_)
      refine l_loc dX13_findsParts_31 rfl rfl ?_
      refine l_gr dX13_findsParts_32 fl_12_113 (fun v5 => ?_)
      refine l_loc dX13_findsParts_35 rfl rfl ?_
      refine l_ri dX13_findsParts_36 (fun v6 => ?_)
      refine l_ri dX13_findsParts_37 (fun v7 => ?_)
      refine l_wi dX13_findsParts_38 (fun h8 => ?_)
      refine l_incl (al1 := fun v9 => [(1, .int v9), (0, .ref x0)]) dX13_findsParts_39 rfl kI_1 rfl (fun _ => rfl) (fun v9 => ?_)
      refine l_goto (t := 2) dX13_findsParts_42 rfl ?_
      exact l_al rfl ⟨rfl, rfl, trivial⟩
    · refine l_ic dX13_findsParts_23 kI_m1 ?_
      refine l_goto (t := 38) dX13_findsParts_24 rfl ?_
      refine l_wi dX13_findsParts_38 (fun h10 => ?_)
      refine l_incl (al1 := fun v11 => [(1, .int v11), (0, .ref x0)]) dX13_findsParts_39 rfl kI_1 rfl (fun _ => rfl) (fun v11 => ?_)
      refine l_goto (t := 2) dX13_findsParts_42 rfl ?_
      exact l_al rfl ⟨rfl, rfl, trivial⟩
set_option maxRecDepth 16000 in
theorem w_X13_findsParts_47 (S : xS) (x0 : Nat) (x1 : Int32) (h : xH) : xle ((xGi h x0 12 59).bind fun v1 => if ((2 : Int32) * v1) ≤ x1 then (some (.inl none, h, 0, 0)) else ((xGr h x0 12 70).bind fun v2 => (xWi h v2 x1 (0 : Int32)).bind fun h3 => (xGr h3 x0 12 71).bind fun v4 => (xWi h3 v4 x1 (64 : Int32)).bind fun h5 => (xGr h5 x0 12 72).bind fun v6 => (xWi h5 v6 x1 (64 : Int32)).bind fun h7 => (xGr h7 x0 12 73).bind fun v8 => (xWi h7 v8 x1 (-1 : Int32)).bind fun h9 => (xGr h9 x0 12 74).bind fun v10 => (xWi h9 v10 x1 (-1 : Int32)).bind fun h11 => (xGr h11 x0 12 75).bind fun v12 => (xWz h11 v12 x1 (0 : Int32)).bind fun h13 => (xden S mX13_findsParts 103 [(0, .ref x0), (1, .int x1), (2, .int (0 : Int32))] [] h13))) (xden S mX13_findsParts 47 [(0, .ref x0), (1, .int x1)] [] h) := by
  refine l_loc dX13_findsParts_47 rfl rfl ?_
  refine l_ic dX13_findsParts_48 kI_2 ?_
  refine l_loc dX13_findsParts_49 rfl rfl ?_
  refine l_gi dX13_findsParts_50 fl_12_421 (fun v1 => ?_)
  refine l_pure dX13_findsParts_53 rfl rfl ?_
  refine l_cge (t := 217) dX13_findsParts_54 rfl ?_ ?_
  · exact l_end dX13_findsParts_217 rfl rfl
  · refine l_loc dX13_findsParts_57 rfl rfl ?_
    refine l_gr dX13_findsParts_58 fl_12_146 (fun v2 => ?_)
    refine l_loc dX13_findsParts_61 rfl rfl ?_
    refine l_ic dX13_findsParts_62 kI_0 ?_
    refine l_wi dX13_findsParts_63 (fun h3 => ?_)
    refine l_loc dX13_findsParts_64 rfl rfl ?_
    refine l_gr dX13_findsParts_65 fl_12_149 (fun v4 => ?_)
    refine l_loc dX13_findsParts_68 rfl rfl ?_
    refine l_bi dX13_findsParts_69 kB_64 ?_
    refine l_wi dX13_findsParts_71 (fun h5 => ?_)
    refine l_loc dX13_findsParts_72 rfl rfl ?_
    refine l_gr dX13_findsParts_73 fl_12_152 (fun v6 => ?_)
    refine l_loc dX13_findsParts_76 rfl rfl ?_
    refine l_bi dX13_findsParts_77 kB_64 ?_
    refine l_wi dX13_findsParts_79 (fun h7 => ?_)
    refine l_loc dX13_findsParts_80 rfl rfl ?_
    refine l_gr dX13_findsParts_81 fl_12_155 (fun v8 => ?_)
    refine l_loc dX13_findsParts_84 rfl rfl ?_
    refine l_ic dX13_findsParts_85 kI_m1 ?_
    refine l_wi dX13_findsParts_86 (fun h9 => ?_)
    refine l_loc dX13_findsParts_87 rfl rfl ?_
    refine l_gr dX13_findsParts_88 fl_12_158 (fun v10 => ?_)
    refine l_loc dX13_findsParts_91 rfl rfl ?_
    refine l_ic dX13_findsParts_92 kI_m1 ?_
    refine l_wi dX13_findsParts_93 (fun h11 => ?_)
    refine l_loc dX13_findsParts_94 rfl rfl ?_
    refine l_gr dX13_findsParts_95 fl_12_161 (fun v12 => ?_)
    refine l_loc dX13_findsParts_98 rfl rfl ?_
    refine l_ic dX13_findsParts_99 kI_0 ?_
    refine l_wz dX13_findsParts_100 (fun h13 => ?_)
    refine l_ic dX13_findsParts_101 kI_0 ?_
    refine l_loc (al1 := [(2, .int (0 : Int32)), (0, .ref x0), (1, .int x1)]) dX13_findsParts_102 rfl rfl ?_
    exact l_al rfl ⟨rfl, rfl, rfl, trivial⟩
set_option maxRecDepth 16000 in
theorem w_X13_findsParts_103 (S : xS) (x0 : Nat) (x1 : Int32) (x2 : Int32) (h : xH) : xle (if (4096 : Int32) ≤ x2 then (xlet (x1 + (1 : Int32)) fun v1 => (xden S mX13_findsParts 47 [(0, .ref x0), (1, .int v1)] [] h)) else (if xOb h x0 12 = true then xqI (xM S mX13_isOf [.ref x0, .int x1, .int x2] h) xth fun v4 h3 => if v4 = 0 then (xlet (x2 + (1 : Int32)) fun v5 => (xden S mX13_findsParts 103 [(0, .ref x0), (1, .int x1), (2, .int v5)] [] h3)) else ((xGr h3 x0 12 70).bind fun v6 => (xRi h3 0 v6 x1).bind fun v7 => (xWi h3 v6 x1 (v7 + (1 : Int32))).bind fun h8 => (xGr h8 x0 12 71).bind fun v9 => (xGr h8 x0 12 71).bind fun v10 => (xRi h8 0 v10 x1).bind fun v11 => xqI (xM S mX13_lesser [.int v11, .int (x2 - x2 / (64 : Int32) * (64 : Int32))] h8) xth fun v13 h12 => (xWi h12 v9 x1 v13).bind fun h14 => (xGr h14 x0 12 72).bind fun v15 => (xGr h14 x0 12 72).bind fun v16 => (xRi h14 0 v16 x1).bind fun v17 => xqI (xM S mX13_lesser [.int v17, .int (x2 / (64 : Int32))] h14) xth fun v19 h18 => (xWi h18 v15 x1 v19).bind fun h20 => (xGr h20 x0 12 73).bind fun v21 => (xGr h20 x0 12 73).bind fun v22 => (xRi h20 0 v22 x1).bind fun v23 => xqI (xM S mX13_greater [.int v23, .int (x2 - x2 / (64 : Int32) * (64 : Int32))] h20) xth fun v25 h24 => (xWi h24 v21 x1 v25).bind fun h26 => (xGr h26 x0 12 74).bind fun v27 => (xGr h26 x0 12 74).bind fun v28 => (xRi h26 0 v28 x1).bind fun v29 => xqI (xM S mX13_greater [.int v29, .int (x2 / (64 : Int32))] h26) xth fun v31 h30 => (xWi h30 v27 x1 v31).bind fun h32 => xlet (x2 + (1 : Int32)) fun v33 => (xden S mX13_findsParts 103 [(0, .ref x0), (1, .int x1), (2, .int v33)] [] h32)) else none)) (xden S mX13_findsParts 103 [(0, .ref x0), (1, .int x1), (2, .int x2)] [] h) := by
  refine l_loc dX13_findsParts_103 rfl rfl ?_
  refine l_si dX13_findsParts_104 kS_4096 ?_
  refine l_cge (t := 211) dX13_findsParts_107 rfl ?_ ?_
  · refine l_incl (al1 := fun v1 => [(1, .int v1), (0, .ref x0), (2, .int x2)]) dX13_findsParts_211 rfl kI_1 rfl (fun _ => rfl) (fun v1 => ?_)
    refine l_goto (t := 47) dX13_findsParts_214 rfl ?_
    exact l_al rfl ⟨rfl, rfl, trivial⟩
  · refine l_loc dX13_findsParts_110 rfl rfl ?_
    refine l_loc dX13_findsParts_111 rfl rfl ?_
    refine l_loc dX13_findsParts_112 rfl rfl ?_
    refine l_ob fun q2 => ?_
    refine l_cI dX13_findsParts_113 rfl rfl rfl (l_xv cl_12_449 ko_mX13_isOf rfl rfl rfl q2) rfl rfl nm_mX13_isOf (xhE_th rfl) (fun v4 h3 => ?_)
    refine l_ieq (t := 205) dX13_findsParts_116 rfl ?_ ?_
    · refine l_incl (al1 := fun v5 => [(2, .int v5), (0, .ref x0), (1, .int x1)]) dX13_findsParts_205 rfl kI_1 rfl (fun _ => rfl) (fun v5 => ?_)
      refine l_goto (t := 103) dX13_findsParts_208 rfl ?_
      exact l_al rfl ⟨rfl, rfl, rfl, trivial⟩
    · refine l_loc dX13_findsParts_119 rfl rfl ?_
      refine l_gr dX13_findsParts_120 fl_12_146 (fun v6 => ?_)
      refine l_loc dX13_findsParts_123 rfl rfl ?_
      refine l_pure dX13_findsParts_124 rfl rfl ?_
      refine l_ri dX13_findsParts_125 (fun v7 => ?_)
      refine l_ic dX13_findsParts_126 kI_1 ?_
      refine l_pure dX13_findsParts_127 rfl rfl ?_
      refine l_wi dX13_findsParts_128 (fun h8 => ?_)
      refine l_loc dX13_findsParts_129 rfl rfl ?_
      refine l_gr dX13_findsParts_130 fl_12_149 (fun v9 => ?_)
      refine l_loc dX13_findsParts_133 rfl rfl ?_
      refine l_loc dX13_findsParts_134 rfl rfl ?_
      refine l_gr dX13_findsParts_135 fl_12_149 (fun v10 => ?_)
      refine l_loc dX13_findsParts_138 rfl rfl ?_
      refine l_ri dX13_findsParts_139 (fun v11 => ?_)
      refine l_loc dX13_findsParts_140 rfl rfl ?_
      refine l_bi dX13_findsParts_141 kB_64 ?_
      refine l_remn dX13_findsParts_143 (by decide) ?_
      refine l_cI dX13_findsParts_144 rfl rfl rfl (l_xs cl_12_424 ko_mX13_lesser rfl rfl) rfl rfl nm_mX13_lesser (xhE_th rfl) (fun v13 h12 => ?_)
      refine l_wi dX13_findsParts_147 (fun h14 => ?_)
      refine l_loc dX13_findsParts_148 rfl rfl ?_
      refine l_gr dX13_findsParts_149 fl_12_152 (fun v15 => ?_)
      refine l_loc dX13_findsParts_152 rfl rfl ?_
      refine l_loc dX13_findsParts_153 rfl rfl ?_
      refine l_gr dX13_findsParts_154 fl_12_152 (fun v16 => ?_)
      refine l_loc dX13_findsParts_157 rfl rfl ?_
      refine l_ri dX13_findsParts_158 (fun v17 => ?_)
      refine l_loc dX13_findsParts_159 rfl rfl ?_
      refine l_bi dX13_findsParts_160 kB_64 ?_
      refine l_divn dX13_findsParts_162 (by decide) ?_
      refine l_cI dX13_findsParts_163 rfl rfl rfl (l_xs cl_12_424 ko_mX13_lesser rfl rfl) rfl rfl nm_mX13_lesser (xhE_th rfl) (fun v19 h18 => ?_)
      refine l_wi dX13_findsParts_166 (fun h20 => ?_)
      refine l_loc dX13_findsParts_167 rfl rfl ?_
      refine l_gr dX13_findsParts_168 fl_12_155 (fun v21 => ?_)
      refine l_loc dX13_findsParts_171 rfl rfl ?_
      refine l_loc dX13_findsParts_172 rfl rfl ?_
      refine l_gr dX13_findsParts_173 fl_12_155 (fun v22 => ?_)
      refine l_loc dX13_findsParts_176 rfl rfl ?_
      refine l_ri dX13_findsParts_177 (fun v23 => ?_)
      refine l_loc dX13_findsParts_178 rfl rfl ?_
      refine l_bi dX13_findsParts_179 kB_64 ?_
      refine l_remn dX13_findsParts_181 (by decide) ?_
      refine l_cI dX13_findsParts_182 rfl rfl rfl (l_xs cl_12_427 ko_mX13_greater rfl rfl) rfl rfl nm_mX13_greater (xhE_th rfl) (fun v25 h24 => ?_)
      refine l_wi dX13_findsParts_185 (fun h26 => ?_)
      refine l_loc dX13_findsParts_186 rfl rfl ?_
      refine l_gr dX13_findsParts_187 fl_12_158 (fun v27 => ?_)
      refine l_loc dX13_findsParts_190 rfl rfl ?_
      refine l_loc dX13_findsParts_191 rfl rfl ?_
      refine l_gr dX13_findsParts_192 fl_12_158 (fun v28 => ?_)
      refine l_loc dX13_findsParts_195 rfl rfl ?_
      refine l_ri dX13_findsParts_196 (fun v29 => ?_)
      refine l_loc dX13_findsParts_197 rfl rfl ?_
      refine l_bi dX13_findsParts_198 kB_64 ?_
      refine l_divn dX13_findsParts_200 (by decide) ?_
      refine l_cI dX13_findsParts_201 rfl rfl rfl (l_xs cl_12_427 ko_mX13_greater rfl rfl) rfl rfl nm_mX13_greater (xhE_th rfl) (fun v31 h30 => ?_)
      refine l_wi dX13_findsParts_204 (fun h32 => ?_)
      refine l_incl (al1 := fun v33 => [(2, .int v33), (0, .ref x0), (1, .int x1)]) dX13_findsParts_205 rfl kI_1 rfl (fun _ => rfl) (fun v33 => ?_)
      refine l_goto (t := 103) dX13_findsParts_208 rfl ?_
      exact l_al rfl ⟨rfl, rfl, rfl, trivial⟩
set_option maxRecDepth 16000 in
theorem w_X13_isOf (S : xS) (x0 : Nat) (x1 : Int32) (x2 : Int32) (h : xH) : xle (if xOb h x0 12 = true then xqI (xM S mX13_isOn [.ref x0, .long (x2 - x2 / (64 : Int32) * (64 : Int32)).toInt64, .long (x2 / (64 : Int32)).toInt64] h) xth fun v3 h2 => if v3 = 0 then (some (.inl (some (.int (0 : Int32))), h2, 0, 0)) else (if ¬ (x1 - x1 / (2 : Int32) * (2 : Int32)) = 0 then ((xGr h2 x0 12 53).bind fun v4 => (xRi h2 2 v4 x2).bind fun v5 => if v5 = 0 then (some (.inl (some (.int (0 : Int32))), h2, 0, 0)) else ((xGr h2 x0 12 69).bind fun v6 => if xOb h2 x0 12 = true then xqI (xM S mX13_blockOf [.ref x0, .int x2] h2) xth fun v9 h8 => (xRi h8 0 v6 v9).bind fun v10 => if ¬ v10 = (x1 / (2 : Int32)) then (some (.inl (some (.int (0 : Int32))), h8, 0, 0)) else (some (.inl (some (.int (1 : Int32))), h8, 0, 0)) else none)) else ((xGr h2 x0 12 52).bind fun v11 => (xRi h2 2 v11 x2).bind fun v12 => if v12 = 0 then (some (.inl (some (.int (0 : Int32))), h2, 0, 0)) else ((xGr h2 x0 12 69).bind fun v13 => if xOb h2 x0 12 = true then xqI (xM S mX13_blockOf [.ref x0, .int x2] h2) xth fun v16 h15 => (xRi h15 0 v13 v16).bind fun v17 => if ¬ v17 = (x1 / (2 : Int32)) then (some (.inl (some (.int (0 : Int32))), h15, 0, 0)) else (some (.inl (some (.int (1 : Int32))), h15, 0, 0)) else none))) else none) (xM S mX13_isOf [.ref x0, .int x1, .int x2] h) := by
  show xle _ (xden S mX13_isOf 0 [(0, .ref x0), (1, .int x1), (2, .int x2)] [] h)
  refine l_loc dX13_isOf_0 rfl rfl ?_
  refine l_loc dX13_isOf_1 rfl rfl ?_
  refine l_bi dX13_isOf_2 kB_64 ?_
  refine l_remn dX13_isOf_4 (by decide) ?_
  refine l_pure dX13_isOf_5 rfl rfl ?_
  refine l_loc dX13_isOf_6 rfl rfl ?_
  refine l_bi dX13_isOf_7 kB_64 ?_
  refine l_divn dX13_isOf_9 (by decide) ?_
  refine l_pure dX13_isOf_10 rfl rfl ?_
  refine l_ob fun q1 => ?_
  refine l_cI dX13_isOf_11 rfl rfl rfl (l_xv cl_12_195 ko_mX13_isOn rfl rfl rfl q1) rfl rfl nm_mX13_isOn (xhE_th rfl) (fun v3 h2 => ?_)
  refine l_ieq (t := 64) dX13_isOf_14 rfl ?_ ?_
  · refine l_ic dX13_isOf_64 kI_0 ?_
    exact l_iretn dX13_isOf_65 rfl (by decide)
  · refine l_loc dX13_isOf_17 rfl rfl ?_
    refine l_ic dX13_isOf_18 kI_2 ?_
    refine l_remn dX13_isOf_19 (by decide) ?_
    refine l_ine (t := 35) dX13_isOf_20 rfl ?_ ?_
    · refine l_loc dX13_isOf_35 rfl rfl ?_
      refine l_gr dX13_isOf_36 fl_12_107 (fun v4 => ?_)
      refine l_loc dX13_isOf_39 rfl rfl ?_
      refine l_rz dX13_isOf_40 (fun v5 => ?_)
      refine l_ieq (t := 64) dX13_isOf_41 rfl ?_ ?_
      · refine l_ic dX13_isOf_64 kI_0 ?_
        exact l_iretn dX13_isOf_65 rfl (by decide)
      · refine l_loc dX13_isOf_44 rfl rfl ?_
        refine l_gr dX13_isOf_45 fl_12_143 (fun v6 => ?_)
        refine l_loc dX13_isOf_48 rfl rfl ?_
        refine l_loc dX13_isOf_49 rfl rfl ?_
        refine l_ob fun q7 => ?_
        refine l_cI dX13_isOf_50 rfl rfl rfl (l_xv cl_12_407 ko_mX13_blockOf rfl rfl rfl q7) rfl rfl nm_mX13_blockOf (xhE_th rfl) (fun v9 h8 => ?_)
        refine l_ri dX13_isOf_53 (fun v10 => ?_)
        refine l_loc dX13_isOf_54 rfl rfl ?_
        refine l_ic dX13_isOf_55 kI_2 ?_
        refine l_divn dX13_isOf_56 (by decide) ?_
        refine l_cne (t := 64) dX13_isOf_57 rfl ?_ ?_
        · refine l_ic dX13_isOf_64 kI_0 ?_
          exact l_iretn dX13_isOf_65 rfl (by decide)
        · refine l_ic dX13_isOf_60 kI_1 ?_
          refine l_goto (t := 65) dX13_isOf_61 rfl ?_
          exact l_iretn dX13_isOf_65 rfl (by decide)
    · refine l_loc dX13_isOf_23 rfl rfl ?_
      refine l_gr dX13_isOf_24 fl_12_104 (fun v11 => ?_)
      refine l_loc dX13_isOf_27 rfl rfl ?_
      refine l_rz dX13_isOf_28 (fun v12 => ?_)
      refine l_ieq (t := 64) dX13_isOf_29 rfl ?_ ?_
      · refine l_ic dX13_isOf_64 kI_0 ?_
        exact l_iretn dX13_isOf_65 rfl (by decide)
      · refine l_goto (t := 44) dX13_isOf_32 rfl ?_
        refine l_loc dX13_isOf_44 rfl rfl ?_
        refine l_gr dX13_isOf_45 fl_12_143 (fun v13 => ?_)
        refine l_loc dX13_isOf_48 rfl rfl ?_
        refine l_loc dX13_isOf_49 rfl rfl ?_
        refine l_ob fun q14 => ?_
        refine l_cI dX13_isOf_50 rfl rfl rfl (l_xv cl_12_407 ko_mX13_blockOf rfl rfl rfl q14) rfl rfl nm_mX13_blockOf (xhE_th rfl) (fun v16 h15 => ?_)
        refine l_ri dX13_isOf_53 (fun v17 => ?_)
        refine l_loc dX13_isOf_54 rfl rfl ?_
        refine l_ic dX13_isOf_55 kI_2 ?_
        refine l_divn dX13_isOf_56 (by decide) ?_
        refine l_cne (t := 64) dX13_isOf_57 rfl ?_ ?_
        · refine l_ic dX13_isOf_64 kI_0 ?_
          exact l_iretn dX13_isOf_65 rfl (by decide)
        · refine l_ic dX13_isOf_60 kI_1 ?_
          refine l_goto (t := 65) dX13_isOf_61 rfl ?_
          exact l_iretn dX13_isOf_65 rfl (by decide)
set_option maxRecDepth 16000 in
theorem w_X13_findsChanges (S : xS) (x0 : Nat) (h : xH) : xle (if xOb h x0 12 = true then xqV (xM S mX13_pairs [.ref x0] h) xth fun h2 => (xP false 12 h2 x0 12 79 (.int (0 : Int32))).bind fun h4 => (xden S mX13_findsChanges 11 [(0, .ref x0), (1, .int (0 : Int32))] [] h4) else none) (xM S mX13_findsChanges [.ref x0] h) := by
  show xle _ (xden S mX13_findsChanges 0 [(0, .ref x0)] [] h)
  refine l_loc dX13_findsChanges_0 rfl rfl ?_
  refine l_ob fun q1 => ?_
  refine l_cV dX13_findsChanges_1 rfl rfl rfl (l_xv cl_12_470 ko_mX13_pairs rfl rfl rfl q1) rfl rfl nm_mX13_pairs (xhE_th rfl) (fun h2 => ?_)
  refine l_loc dX13_findsChanges_4 rfl rfl ?_
  refine l_ic dX13_findsChanges_5 kI_0 ?_
  refine l_pf dX13_findsChanges_6 fl_12_467 (ini := false) nm_mX13_findsChanges (fun h4 => ?_)
  refine l_ic dX13_findsChanges_9 kI_0 ?_
  refine l_loc (al1 := [(1, .int (0 : Int32)), (0, .ref x0)]) dX13_findsChanges_10 rfl rfl ?_
  exact l_al rfl ⟨rfl, rfl, trivial⟩
set_option maxRecDepth 16000 in
theorem w_X13_findsChanges_11 (S : xS) (x0 : Nat) (x1 : Int32) (h : xH) : xle ((xGi h x0 12 59).bind fun v1 => if ((2 : Int32) * v1) ≤ x1 then (some (.inl none, h, 0, 0)) else ((xGr h x0 12 70).bind fun v2 => (xRi h 0 v2 x1).bind fun v3 => if v3 ≤ 0 then (xlet (x1 + (1 : Int32)) fun v4 => (xden S mX13_findsChanges 11 [(0, .ref x0), (1, .int v4)] [] h)) else (if (x1 - x1 / (2 : Int32) * (2 : Int32)) = 0 then (if ¬ (x1 - x1 / (2 : Int32) * (2 : Int32)) = 0 then (if xOb h x0 12 = true then xqV (xM S mX13_lists [.ref x0, .int x1, .int (-1 : Int32)] h) xth fun h6 => xlet (x1 + (1 : Int32)) fun v8 => (xden S mX13_findsChanges 11 [(0, .ref x0), (1, .int v8)] [] h6) else none) else ((xGr h x0 12 80).bind fun v9 => (xRi h 0 v9 x1).bind fun v10 => if xOb h x0 12 = true then xqV (xM S mX13_lists [.ref x0, .int x1, .int v10] h) xth fun h12 => xlet (x1 + (1 : Int32)) fun v14 => (xden S mX13_findsChanges 11 [(0, .ref x0), (1, .int v14)] [] h12) else none)) else ((xGr h x0 12 75).bind fun v15 => (xRi h 2 v15 x1).bind fun v16 => if ¬ v16 = 0 then (xlet (x1 + (1 : Int32)) fun v17 => (xden S mX13_findsChanges 11 [(0, .ref x0), (1, .int v17)] [] h)) else (if ¬ (x1 - x1 / (2 : Int32) * (2 : Int32)) = 0 then (if xOb h x0 12 = true then xqV (xM S mX13_lists [.ref x0, .int x1, .int (-1 : Int32)] h) xth fun h19 => xlet (x1 + (1 : Int32)) fun v21 => (xden S mX13_findsChanges 11 [(0, .ref x0), (1, .int v21)] [] h19) else none) else ((xGr h x0 12 80).bind fun v22 => (xRi h 0 v22 x1).bind fun v23 => if xOb h x0 12 = true then xqV (xM S mX13_lists [.ref x0, .int x1, .int v23] h) xth fun h25 => xlet (x1 + (1 : Int32)) fun v27 => (xden S mX13_findsChanges 11 [(0, .ref x0), (1, .int v27)] [] h25) else none)))))) (xden S mX13_findsChanges 11 [(0, .ref x0), (1, .int x1)] [] h) := by
  refine l_loc dX13_findsChanges_11 rfl rfl ?_
  refine l_ic dX13_findsChanges_12 kI_2 ?_
  refine l_loc dX13_findsChanges_13 rfl rfl ?_
  refine l_gi dX13_findsChanges_14 fl_12_421 (fun v1 => ?_)
  refine l_pure dX13_findsChanges_17 rfl rfl ?_
  refine l_cge (t := 72) dX13_findsChanges_18 rfl ?_ ?_
  · exact l_end dX13_findsChanges_72 rfl rfl
  · refine l_loc dX13_findsChanges_21 rfl rfl ?_
    refine l_gr dX13_findsChanges_22 fl_12_146 (fun v2 => ?_)
    refine l_loc dX13_findsChanges_25 rfl rfl ?_
    refine l_ri dX13_findsChanges_26 (fun v3 => ?_)
    refine l_ile (t := 66) dX13_findsChanges_27 rfl ?_ ?_
    · refine l_incl (al1 := fun v4 => [(1, .int v4), (0, .ref x0)]) dX13_findsChanges_66 rfl kI_1 rfl (fun _ => rfl) (fun v4 => ?_)
      refine l_goto (t := 11) dX13_findsChanges_69 rfl ?_
      exact l_al rfl ⟨rfl, rfl, trivial⟩
    · refine l_loc dX13_findsChanges_30 rfl rfl ?_
      refine l_ic dX13_findsChanges_31 kI_2 ?_
      refine l_remn dX13_findsChanges_32 (by decide) ?_
      refine l_ieq (t := 45) dX13_findsChanges_33 rfl ?_ ?_
      · refine l_loc dX13_findsChanges_45 rfl rfl ?_
        refine l_loc dX13_findsChanges_46 rfl rfl ?_
        refine l_loc dX13_findsChanges_47 rfl rfl ?_
        refine l_ic dX13_findsChanges_48 kI_2 ?_
        refine l_remn dX13_findsChanges_49 (by decide) ?_
        refine l_ine (t := 62) dX13_findsChanges_50 rfl ?_ ?_
        · refine l_ic dX13_findsChanges_62 kI_m1 ?_
          refine l_ob fun q5 => ?_
          refine l_cV dX13_findsChanges_63 rfl rfl rfl (l_xv cl_12_473 ko_mX13_lists rfl rfl rfl q5) rfl rfl nm_mX13_lists (xhE_th rfl) (fun h6 => ?_)
          refine l_incl (al1 := fun v8 => [(1, .int v8), (0, .ref x0)]) dX13_findsChanges_66 rfl kI_1 rfl (fun _ => rfl) (fun v8 => ?_)
          refine l_goto (t := 11) dX13_findsChanges_69 rfl ?_
          exact l_al rfl ⟨rfl, rfl, trivial⟩
        · refine l_loc dX13_findsChanges_53 rfl rfl ?_
          refine l_gr dX13_findsChanges_54 fl_12_173 (fun v9 => ?_)
          refine l_loc dX13_findsChanges_57 rfl rfl ?_
          refine l_ri dX13_findsChanges_58 (fun v10 => ?_)
          refine l_goto (t := 63) dX13_findsChanges_59 rfl ?_
          refine l_ob fun q11 => ?_
          refine l_cV dX13_findsChanges_63 rfl rfl rfl (l_xv cl_12_473 ko_mX13_lists rfl rfl rfl q11) rfl rfl nm_mX13_lists (xhE_th rfl) (fun h12 => ?_)
          refine l_incl (al1 := fun v14 => [(1, .int v14), (0, .ref x0)]) dX13_findsChanges_66 rfl kI_1 rfl (fun _ => rfl) (fun v14 => ?_)
          refine l_goto (t := 11) dX13_findsChanges_69 rfl ?_
          exact l_al rfl ⟨rfl, rfl, trivial⟩
      · refine l_loc dX13_findsChanges_36 rfl rfl ?_
        refine l_gr dX13_findsChanges_37 fl_12_161 (fun v15 => ?_)
        refine l_loc dX13_findsChanges_40 rfl rfl ?_
        refine l_rz dX13_findsChanges_41 (fun v16 => ?_)
        refine l_ine (t := 66) dX13_findsChanges_42 rfl ?_ ?_
        · refine l_incl (al1 := fun v17 => [(1, .int v17), (0, .ref x0)]) dX13_findsChanges_66 rfl kI_1 rfl (fun _ => rfl) (fun v17 => ?_)
          refine l_goto (t := 11) dX13_findsChanges_69 rfl ?_
          exact l_al rfl ⟨rfl, rfl, trivial⟩
        · refine l_loc dX13_findsChanges_45 rfl rfl ?_
          refine l_loc dX13_findsChanges_46 rfl rfl ?_
          refine l_loc dX13_findsChanges_47 rfl rfl ?_
          refine l_ic dX13_findsChanges_48 kI_2 ?_
          refine l_remn dX13_findsChanges_49 (by decide) ?_
          refine l_ine (t := 62) dX13_findsChanges_50 rfl ?_ ?_
          · refine l_ic dX13_findsChanges_62 kI_m1 ?_
            refine l_ob fun q18 => ?_
            refine l_cV dX13_findsChanges_63 rfl rfl rfl (l_xv cl_12_473 ko_mX13_lists rfl rfl rfl q18) rfl rfl nm_mX13_lists (xhE_th rfl) (fun h19 => ?_)
            refine l_incl (al1 := fun v21 => [(1, .int v21), (0, .ref x0)]) dX13_findsChanges_66 rfl kI_1 rfl (fun _ => rfl) (fun v21 => ?_)
            refine l_goto (t := 11) dX13_findsChanges_69 rfl ?_
            exact l_al rfl ⟨rfl, rfl, trivial⟩
          · refine l_loc dX13_findsChanges_53 rfl rfl ?_
            refine l_gr dX13_findsChanges_54 fl_12_173 (fun v22 => ?_)
            refine l_loc dX13_findsChanges_57 rfl rfl ?_
            refine l_ri dX13_findsChanges_58 (fun v23 => ?_)
            refine l_goto (t := 63) dX13_findsChanges_59 rfl ?_
            refine l_ob fun q24 => ?_
            refine l_cV dX13_findsChanges_63 rfl rfl rfl (l_xv cl_12_473 ko_mX13_lists rfl rfl rfl q24) rfl rfl nm_mX13_lists (xhE_th rfl) (fun h25 => ?_)
            refine l_incl (al1 := fun v27 => [(1, .int v27), (0, .ref x0)]) dX13_findsChanges_66 rfl kI_1 rfl (fun _ => rfl) (fun v27 => ?_)
            refine l_goto (t := 11) dX13_findsChanges_69 rfl ?_
            exact l_al rfl ⟨rfl, rfl, trivial⟩
set_option maxRecDepth 16000 in
theorem w_X13_pairs (S : xS) (x0 : Nat) (h : xH) : xle (xden S mX13_pairs 2 [(0, .ref x0), (1, .int (0 : Int32))] [] h) (xM S mX13_pairs [.ref x0] h) := by
  show xle _ (xden S mX13_pairs 0 [(0, .ref x0)] [] h)
  refine l_ic dX13_pairs_0 kI_0 ?_
  refine l_loc (al1 := [(1, .int (0 : Int32)), (0, .ref x0)]) dX13_pairs_1 rfl rfl ?_
  exact l_al rfl ⟨rfl, rfl, trivial⟩
set_option maxRecDepth 16000 in
theorem w_X13_pairs_2 (S : xS) (x0 : Nat) (x1 : Int32) (h : xH) : xle ((xGi h x0 12 59).bind fun v1 => if ((2 : Int32) * v1) ≤ x1 then (some (.inl none, h, 0, 0)) else ((xGr h x0 12 80).bind fun v2 => (xWi h v2 x1 (-1 : Int32)).bind fun h3 => (xden S mX13_pairs 21 [(0, .ref x0), (1, .int x1), (2, .int (1 : Int32))] [] h3))) (xden S mX13_pairs 2 [(0, .ref x0), (1, .int x1)] [] h) := by
  refine l_loc dX13_pairs_2 rfl rfl ?_
  refine l_ic dX13_pairs_3 kI_2 ?_
  refine l_loc dX13_pairs_4 rfl rfl ?_
  refine l_gi dX13_pairs_5 fl_12_421 (fun v1 => ?_)
  refine l_pure dX13_pairs_8 rfl rfl ?_
  refine l_cge (t := 118) dX13_pairs_9 rfl ?_ ?_
  · exact l_end dX13_pairs_118 rfl rfl
  · refine l_loc dX13_pairs_12 rfl rfl ?_
    refine l_gr dX13_pairs_13 fl_12_173 (fun v2 => ?_)
    refine l_loc dX13_pairs_16 rfl rfl ?_
    refine l_ic dX13_pairs_17 kI_m1 ?_
    refine l_wi dX13_pairs_18 (fun h3 => ?_)
    refine l_ic dX13_pairs_19 kI_1 ?_
    refine l_loc (al1 := [(2, .int (1 : Int32)), (0, .ref x0), (1, .int x1)]) dX13_pairs_20 rfl rfl ?_
    exact l_al rfl ⟨rfl, rfl, rfl, trivial⟩
set_option maxRecDepth 16000 in
theorem w_X13_pairs_21 (S : xS) (x0 : Nat) (x1 : Int32) (x2 : Int32) (h : xH) : xle ((xGi h x0 12 59).bind fun v1 => if ((2 : Int32) * v1) ≤ x2 then (xlet (x1 + (2 : Int32)) fun v2 => (xden S mX13_pairs 2 [(0, .ref x0), (1, .int v2)] [] h)) else ((xGr h x0 12 80).bind fun v3 => (xRi h 0 v3 x1).bind fun v4 => if 0 ≤ v4 then (xlet (x1 + (2 : Int32)) fun v5 => (xden S mX13_pairs 2 [(0, .ref x0), (1, .int v5)] [] h)) else ((xGr h x0 12 70).bind fun v6 => (xRi h 0 v6 x1).bind fun v7 => if v7 ≤ 0 then (xlet (x1 + (2 : Int32)) fun v8 => (xden S mX13_pairs 2 [(0, .ref x0), (1, .int v8)] [] h)) else ((xGr h x0 12 70).bind fun v9 => (xRi h 0 v9 x1).bind fun v10 => (xGr h x0 12 14).bind fun v11 => (xRi h 0 v11 (8 : Int32)).bind fun v12 => if v10 < v12 then (xlet (x1 + (2 : Int32)) fun v13 => (xden S mX13_pairs 2 [(0, .ref x0), (1, .int v13)] [] h)) else ((xGr h x0 12 75).bind fun v14 => (xRi h 2 v14 x2).bind fun v15 => if ¬ v15 = 0 then (xlet (x2 + (2 : Int32)) fun v16 => (xden S mX13_pairs 21 [(0, .ref x0), (1, .int x1), (2, .int v16)] [] h)) else ((xGr h x0 12 70).bind fun v17 => (xRi h 0 v17 x2).bind fun v18 => if v18 ≤ 0 then (xlet (x2 + (2 : Int32)) fun v19 => (xden S mX13_pairs 21 [(0, .ref x0), (1, .int x1), (2, .int v19)] [] h)) else (if xOb h x0 12 = true then xqI (xM S mX13_areAlike [.ref x0, .int x1, .int x2] h) xth fun v22 h21 => if v22 = 0 then (xlet (x2 + (2 : Int32)) fun v23 => (xden S mX13_pairs 21 [(0, .ref x0), (1, .int x1), (2, .int v23)] [] h21)) else ((xGr h21 x0 12 80).bind fun v24 => (xWi h21 v24 x1 x2).bind fun h25 => (xGr h25 x0 12 75).bind fun v26 => (xWz h25 v26 x2 (1 : Int32)).bind fun h27 => xlet (x2 + (2 : Int32)) fun v28 => (xden S mX13_pairs 21 [(0, .ref x0), (1, .int x1), (2, .int v28)] [] h27)) else none))))))) (xden S mX13_pairs 21 [(0, .ref x0), (1, .int x1), (2, .int x2)] [] h) := by
  refine l_loc dX13_pairs_21 rfl rfl ?_
  refine l_ic dX13_pairs_22 kI_2 ?_
  refine l_loc dX13_pairs_23 rfl rfl ?_
  refine l_gi dX13_pairs_24 fl_12_421 (fun v1 => ?_)
  refine l_pure dX13_pairs_27 rfl rfl ?_
  refine l_cge (t := 112) dX13_pairs_28 rfl ?_ ?_
  · refine l_incl (al1 := fun v2 => [(1, .int v2), (0, .ref x0), (2, .int x2)]) dX13_pairs_112 rfl kI_2 rfl (fun _ => rfl) (fun v2 => ?_)
    refine l_goto (t := 2) dX13_pairs_115 rfl ?_
    exact l_al rfl ⟨rfl, rfl, trivial⟩
  · refine l_loc dX13_pairs_31 rfl rfl ?_
    refine l_gr dX13_pairs_32 fl_12_173 (fun v3 => ?_)
    refine l_loc dX13_pairs_35 rfl rfl ?_
    refine l_ri dX13_pairs_36 (fun v4 => ?_)
    refine l_ige (t := 112) dX13_pairs_37 rfl ?_ ?_
    · refine l_incl (al1 := fun v5 => [(1, .int v5), (0, .ref x0), (2, .int x2)]) dX13_pairs_112 rfl kI_2 rfl (fun _ => rfl) (fun v5 => ?_)
      refine l_goto (t := 2) dX13_pairs_115 rfl ?_
      exact l_al rfl ⟨rfl, rfl, trivial⟩
    · refine l_loc dX13_pairs_40 rfl rfl ?_
      refine l_gr dX13_pairs_41 fl_12_146 (fun v6 => ?_)
      refine l_loc dX13_pairs_44 rfl rfl ?_
      refine l_ri dX13_pairs_45 (fun v7 => ?_)
      refine l_ile (t := 112) dX13_pairs_46 rfl ?_ ?_
      · refine l_incl (al1 := fun v8 => [(1, .int v8), (0, .ref x0), (2, .int x2)]) dX13_pairs_112 rfl kI_2 rfl (fun _ => rfl) (fun v8 => ?_)
        refine l_goto (t := 2) dX13_pairs_115 rfl ?_
        exact l_al rfl ⟨rfl, rfl, trivial⟩
      · refine l_loc dX13_pairs_49 rfl rfl ?_
        refine l_gr dX13_pairs_50 fl_12_146 (fun v9 => ?_)
        refine l_loc dX13_pairs_53 rfl rfl ?_
        refine l_ri dX13_pairs_54 (fun v10 => ?_)
        refine l_loc dX13_pairs_55 rfl rfl ?_
        refine l_gr dX13_pairs_56 fl_12_33 (fun v11 => ?_)
        refine l_bi dX13_pairs_59 kB_8 ?_
        refine l_ri dX13_pairs_61 (fun v12 => ?_)
        refine l_clt (t := 112) dX13_pairs_62 rfl ?_ ?_
        · refine l_incl (al1 := fun v13 => [(1, .int v13), (0, .ref x0), (2, .int x2)]) dX13_pairs_112 rfl kI_2 rfl (fun _ => rfl) (fun v13 => ?_)
          refine l_goto (t := 2) dX13_pairs_115 rfl ?_
          exact l_al rfl ⟨rfl, rfl, trivial⟩
        · refine l_loc dX13_pairs_65 rfl rfl ?_
          refine l_gr dX13_pairs_66 fl_12_161 (fun v14 => ?_)
          refine l_loc dX13_pairs_69 rfl rfl ?_
          refine l_rz dX13_pairs_70 (fun v15 => ?_)
          refine l_ine (t := 106) dX13_pairs_71 rfl ?_ ?_
          · refine l_incl (al1 := fun v16 => [(2, .int v16), (0, .ref x0), (1, .int x1)]) dX13_pairs_106 rfl kI_2 rfl (fun _ => rfl) (fun v16 => ?_)
            refine l_goto (t := 21) dX13_pairs_109 rfl ?_
            exact l_al rfl ⟨rfl, rfl, rfl, trivial⟩
          · refine l_loc dX13_pairs_74 rfl rfl ?_
            refine l_gr dX13_pairs_75 fl_12_146 (fun v17 => ?_)
            refine l_loc dX13_pairs_78 rfl rfl ?_
            refine l_ri dX13_pairs_79 (fun v18 => ?_)
            refine l_ile (t := 106) dX13_pairs_80 rfl ?_ ?_
            · refine l_incl (al1 := fun v19 => [(2, .int v19), (0, .ref x0), (1, .int x1)]) dX13_pairs_106 rfl kI_2 rfl (fun _ => rfl) (fun v19 => ?_)
              refine l_goto (t := 21) dX13_pairs_109 rfl ?_
              exact l_al rfl ⟨rfl, rfl, rfl, trivial⟩
            · refine l_loc dX13_pairs_83 rfl rfl ?_
              refine l_loc dX13_pairs_84 rfl rfl ?_
              refine l_loc dX13_pairs_85 rfl rfl ?_
              refine l_ob fun q20 => ?_
              refine l_cI dX13_pairs_86 rfl rfl rfl (l_xv cl_12_461 ko_mX13_areAlike rfl rfl rfl q20) rfl rfl nm_mX13_areAlike (xhE_th rfl) (fun v22 h21 => ?_)
              refine l_ieq (t := 106) dX13_pairs_89 rfl ?_ ?_
              · refine l_incl (al1 := fun v23 => [(2, .int v23), (0, .ref x0), (1, .int x1)]) dX13_pairs_106 rfl kI_2 rfl (fun _ => rfl) (fun v23 => ?_)
                refine l_goto (t := 21) dX13_pairs_109 rfl ?_
                exact l_al rfl ⟨rfl, rfl, rfl, trivial⟩
              · refine l_loc dX13_pairs_92 rfl rfl ?_
                refine l_gr dX13_pairs_93 fl_12_173 (fun v24 => ?_)
                refine l_loc dX13_pairs_96 rfl rfl ?_
                refine l_loc dX13_pairs_97 rfl rfl ?_
                refine l_wi dX13_pairs_98 (fun h25 => ?_)
                refine l_loc dX13_pairs_99 rfl rfl ?_
                refine l_gr dX13_pairs_100 fl_12_161 (fun v26 => ?_)
                refine l_loc dX13_pairs_103 rfl rfl ?_
                refine l_ic dX13_pairs_104 kI_1 ?_
                refine l_wz dX13_pairs_105 (fun h27 => ?_)
                refine l_incl (al1 := fun v28 => [(2, .int v28), (0, .ref x0), (1, .int x1)]) dX13_pairs_106 rfl kI_2 rfl (fun _ => rfl) (fun v28 => ?_)
                refine l_goto (t := 21) dX13_pairs_109 rfl ?_
                exact l_al rfl ⟨rfl, rfl, rfl, trivial⟩
set_option maxRecDepth 16000 in
theorem w_X13_areAlike (S : xS) (x0 : Nat) (x1 : Int32) (x2 : Int32) (h : xH) : xle ((xGr h x0 12 70).bind fun v1 => (xRi h 0 v1 x1).bind fun v2 => (xGr h x0 12 70).bind fun v3 => (xRi h 0 v3 x2).bind fun v4 => if ¬ v2 = v4 then (xden S mX13_areAlike 50 [(0, .ref x0), (1, .int x1), (2, .int x2), (3, .int (0 : Int32)), (4, .int (0 : Int32))] [] h) else (if xOb h x0 12 = true then xqI (xM S mX13_widthOf [.ref x0, .int x1] h) xth fun v7 h6 => if xOb h6 x0 12 = true then xqI (xM S mX13_widthOf [.ref x0, .int x2] h6) xth fun v10 h9 => if ¬ v7 = v10 then (xden S mX13_areAlike 50 [(0, .ref x0), (1, .int x1), (2, .int x2), (3, .int (0 : Int32)), (4, .int (0 : Int32))] [] h9) else (if xOb h9 x0 12 = true then xqI (xM S mX13_heightOf [.ref x0, .int x1] h9) xth fun v13 h12 => if xOb h12 x0 12 = true then xqI (xM S mX13_heightOf [.ref x0, .int x2] h12) xth fun v16 h15 => if ¬ v13 = v16 then (xden S mX13_areAlike 50 [(0, .ref x0), (1, .int x1), (2, .int x2), (3, .int (0 : Int32)), (4, .int (0 : Int32))] [] h15) else (xden S mX13_areAlike 50 [(0, .ref x0), (1, .int x1), (2, .int x2), (3, .int (1 : Int32)), (4, .int (0 : Int32))] [] h15) else none else none) else none else none)) (xM S mX13_areAlike [.ref x0, .int x1, .int x2] h) := by
  show xle _ (xden S mX13_areAlike 0 [(0, .ref x0), (1, .int x1), (2, .int x2)] [] h)
  refine l_loc dX13_areAlike_0 rfl rfl ?_
  refine l_gr dX13_areAlike_1 fl_12_146 (fun v1 => ?_)
  refine l_loc dX13_areAlike_4 rfl rfl ?_
  refine l_ri dX13_areAlike_5 (fun v2 => ?_)
  refine l_loc dX13_areAlike_6 rfl rfl ?_
  refine l_gr dX13_areAlike_7 fl_12_146 (fun v3 => ?_)
  refine l_loc dX13_areAlike_10 rfl rfl ?_
  refine l_ri dX13_areAlike_11 (fun v4 => ?_)
  refine l_cne (t := 45) dX13_areAlike_12 rfl ?_ ?_
  · refine l_ic dX13_areAlike_45 kI_0 ?_
    refine l_loc (al1 := [(3, .int (0 : Int32)), (0, .ref x0), (1, .int x1), (2, .int x2)]) dX13_areAlike_46 rfl rfl ?_
    refine l_ic dX13_areAlike_47 kI_0 ?_
    refine l_loc (al1 := [(4, .int (0 : Int32)), (3, .int (0 : Int32)), (0, .ref x0), (1, .int x1), (2, .int x2)]) dX13_areAlike_48 rfl rfl ?_
    exact l_al rfl ⟨rfl, rfl, rfl, rfl, rfl, trivial⟩
  · refine l_loc dX13_areAlike_15 rfl rfl ?_
    refine l_loc dX13_areAlike_16 rfl rfl ?_
    refine l_ob fun q5 => ?_
    refine l_cI dX13_areAlike_17 rfl rfl rfl (l_xv cl_12_452 ko_mX13_widthOf rfl rfl rfl q5) rfl rfl nm_mX13_widthOf (xhE_th rfl) (fun v7 h6 => ?_)
    refine l_loc dX13_areAlike_20 rfl rfl ?_
    refine l_loc dX13_areAlike_21 rfl rfl ?_
    refine l_ob fun q8 => ?_
    refine l_cI dX13_areAlike_22 rfl rfl rfl (l_xv cl_12_452 ko_mX13_widthOf rfl rfl rfl q8) rfl rfl nm_mX13_widthOf (xhE_th rfl) (fun v10 h9 => ?_)
    refine l_cne (t := 45) dX13_areAlike_25 rfl ?_ ?_
    · refine l_ic dX13_areAlike_45 kI_0 ?_
      refine l_loc (al1 := [(3, .int (0 : Int32)), (0, .ref x0), (1, .int x1), (2, .int x2)]) dX13_areAlike_46 rfl rfl ?_
      refine l_ic dX13_areAlike_47 kI_0 ?_
      refine l_loc (al1 := [(4, .int (0 : Int32)), (3, .int (0 : Int32)), (0, .ref x0), (1, .int x1), (2, .int x2)]) dX13_areAlike_48 rfl rfl ?_
      exact l_al rfl ⟨rfl, rfl, rfl, rfl, rfl, trivial⟩
    · refine l_loc dX13_areAlike_28 rfl rfl ?_
      refine l_loc dX13_areAlike_29 rfl rfl ?_
      refine l_ob fun q11 => ?_
      refine l_cI dX13_areAlike_30 rfl rfl rfl (l_xv cl_12_455 ko_mX13_heightOf rfl rfl rfl q11) rfl rfl nm_mX13_heightOf (xhE_th rfl) (fun v13 h12 => ?_)
      refine l_loc dX13_areAlike_33 rfl rfl ?_
      refine l_loc dX13_areAlike_34 rfl rfl ?_
      refine l_ob fun q14 => ?_
      refine l_cI dX13_areAlike_35 rfl rfl rfl (l_xv cl_12_455 ko_mX13_heightOf rfl rfl rfl q14) rfl rfl nm_mX13_heightOf (xhE_th rfl) (fun v16 h15 => ?_)
      refine l_cne (t := 45) dX13_areAlike_38 rfl ?_ ?_
      · refine l_ic dX13_areAlike_45 kI_0 ?_
        refine l_loc (al1 := [(3, .int (0 : Int32)), (0, .ref x0), (1, .int x1), (2, .int x2)]) dX13_areAlike_46 rfl rfl ?_
        refine l_ic dX13_areAlike_47 kI_0 ?_
        refine l_loc (al1 := [(4, .int (0 : Int32)), (3, .int (0 : Int32)), (0, .ref x0), (1, .int x1), (2, .int x2)]) dX13_areAlike_48 rfl rfl ?_
        exact l_al rfl ⟨rfl, rfl, rfl, rfl, rfl, trivial⟩
      · refine l_ic dX13_areAlike_41 kI_1 ?_
        refine l_goto (t := 46) dX13_areAlike_42 rfl ?_
        refine l_loc (al1 := [(3, .int (1 : Int32)), (0, .ref x0), (1, .int x1), (2, .int x2)]) dX13_areAlike_46 rfl rfl ?_
        refine l_ic dX13_areAlike_47 kI_0 ?_
        refine l_loc (al1 := [(4, .int (0 : Int32)), (3, .int (1 : Int32)), (0, .ref x0), (1, .int x1), (2, .int x2)]) dX13_areAlike_48 rfl rfl ?_
        exact l_al rfl ⟨rfl, rfl, rfl, rfl, rfl, trivial⟩
set_option maxRecDepth 16000 in
theorem w_X13_areAlike_50 (S : xS) (x0 : Nat) (x1 : Int32) (x2 : Int32) (x3 : Int32) (x4 : Int32) (h : xH) : xle (if xOb h x0 12 = true then xqI (xM S mX13_heightOf [.ref x0, .int x1] h) xth fun v3 h2 => if v3 ≤ x4 then (if narrow .boolean (.int x3) = .int x3 then some (.inl (some (.int x3)), h2, 0, 0) else none) else (if x3 = 0 then (if narrow .boolean (.int x3) = .int x3 then some (.inl (some (.int x3)), h2, 0, 0) else none) else (xden S mX13_areAlike 67 [(0, .ref x0), (1, .int x1), (2, .int x2), (3, .int x3), (4, .int x4), (5, .int (0 : Int32))] [] h2)) else none) (xden S mX13_areAlike 50 [(0, .ref x0), (1, .int x1), (2, .int x2), (3, .int x3), (4, .int x4)] [] h) := by
  refine l_loc dX13_areAlike_50 rfl rfl ?_
  refine l_loc dX13_areAlike_52 rfl rfl ?_
  refine l_loc dX13_areAlike_53 rfl rfl ?_
  refine l_ob fun q1 => ?_
  refine l_cI dX13_areAlike_54 rfl rfl rfl (l_xv cl_12_455 ko_mX13_heightOf rfl rfl rfl q1) rfl rfl nm_mX13_heightOf (xhE_th rfl) (fun v3 h2 => ?_)
  refine l_cge (t := 156) dX13_areAlike_57 rfl ?_ ?_
  · refine l_loc dX13_areAlike_156 rfl rfl ?_
    exact l_iret dX13_areAlike_157 rfl
  · refine l_loc dX13_areAlike_60 rfl rfl ?_
    refine l_ieq (t := 156) dX13_areAlike_61 rfl ?_ ?_
    · refine l_loc dX13_areAlike_156 rfl rfl ?_
      exact l_iret dX13_areAlike_157 rfl
    · refine l_ic dX13_areAlike_64 kI_0 ?_
      refine l_loc (al1 := [(5, .int (0 : Int32)), (0, .ref x0), (1, .int x1), (2, .int x2), (3, .int x3), (4, .int x4)]) dX13_areAlike_65 rfl rfl ?_
      exact l_al rfl ⟨rfl, rfl, rfl, rfl, rfl, rfl, trivial⟩
set_option maxRecDepth 16000 in
theorem w_X13_areAlike_67 (S : xS) (x0 : Nat) (x1 : Int32) (x2 : Int32) (x3 : Int32) (x4 : Int32) (x5 : Int32) (h : xH) : xle (if xOb h x0 12 = true then xqI (xM S mX13_widthOf [.ref x0, .int x1] h) xth fun v3 h2 => if v3 ≤ x5 then (xlet (x4 + (1 : Int32)) fun v4 => (xden S mX13_areAlike 50 [(0, .ref x0), (1, .int x1), (2, .int x2), (3, .int x3), (4, .int v4)] [] h2)) else (if x3 = 0 then (xlet (x4 + (1 : Int32)) fun v5 => (xden S mX13_areAlike 50 [(0, .ref x0), (1, .int x1), (2, .int x2), (3, .int x3), (4, .int v5)] [] h2)) else ((xGr h2 x0 12 72).bind fun v6 => (xRi h2 0 v6 x1).bind fun v7 => (xGr h2 x0 12 71).bind fun v8 => (xRi h2 0 v8 x1).bind fun v9 => if xOb h2 x0 12 = true then xqI (xM S mX13_isOf [.ref x0, .int x1, .int ((((64 : Int32) * (v7 + x4)) + v9) + x5)] h2) xth fun v12 h11 => (xGr h11 x0 12 72).bind fun v13 => (xRi h11 0 v13 x2).bind fun v14 => (xGr h11 x0 12 71).bind fun v15 => (xRi h11 0 v15 x2).bind fun v16 => if xOb h11 x0 12 = true then xqI (xM S mX13_isOf [.ref x0, .int x2, .int ((((64 : Int32) * (v14 + x4)) + v16) + x5)] h11) xth fun v19 h18 => if ¬ v12 = v19 then (xlet (x5 + (1 : Int32)) fun v20 => (xden S mX13_areAlike 67 [(0, .ref x0), (1, .int x1), (2, .int x2), (3, .int (0 : Int32)), (4, .int x4), (5, .int v20)] [] h18)) else (xlet (x5 + (1 : Int32)) fun v21 => (xden S mX13_areAlike 67 [(0, .ref x0), (1, .int x1), (2, .int x2), (3, .int (1 : Int32)), (4, .int x4), (5, .int v21)] [] h18)) else none else none)) else none) (xden S mX13_areAlike 67 [(0, .ref x0), (1, .int x1), (2, .int x2), (3, .int x3), (4, .int x4), (5, .int x5)] [] h) := by
  refine l_loc dX13_areAlike_67 rfl rfl ?_
  refine l_loc dX13_areAlike_69 rfl rfl ?_
  refine l_loc dX13_areAlike_70 rfl rfl ?_
  refine l_ob fun q1 => ?_
  refine l_cI dX13_areAlike_71 rfl rfl rfl (l_xv cl_12_452 ko_mX13_widthOf rfl rfl rfl q1) rfl rfl nm_mX13_widthOf (xhE_th rfl) (fun v3 h2 => ?_)
  refine l_cge (t := 150) dX13_areAlike_74 rfl ?_ ?_
  · refine l_incl (al1 := fun v4 => [(4, .int v4), (0, .ref x0), (1, .int x1), (2, .int x2), (3, .int x3), (5, .int x5)]) dX13_areAlike_150 rfl kI_1 rfl (fun _ => rfl) (fun v4 => ?_)
    refine l_goto (t := 50) dX13_areAlike_153 rfl ?_
    exact l_al rfl ⟨rfl, rfl, rfl, rfl, rfl, trivial⟩
  · refine l_loc dX13_areAlike_77 rfl rfl ?_
    refine l_ieq (t := 150) dX13_areAlike_78 rfl ?_ ?_
    · refine l_incl (al1 := fun v5 => [(4, .int v5), (0, .ref x0), (1, .int x1), (2, .int x2), (3, .int x3), (5, .int x5)]) dX13_areAlike_150 rfl kI_1 rfl (fun _ => rfl) (fun v5 => ?_)
      refine l_goto (t := 50) dX13_areAlike_153 rfl ?_
      exact l_al rfl ⟨rfl, rfl, rfl, rfl, rfl, trivial⟩
    · refine l_loc dX13_areAlike_81 rfl rfl ?_
      refine l_loc dX13_areAlike_82 rfl rfl ?_
      refine l_bi dX13_areAlike_83 kB_64 ?_
      refine l_loc dX13_areAlike_85 rfl rfl ?_
      refine l_gr dX13_areAlike_86 fl_12_152 (fun v6 => ?_)
      refine l_loc dX13_areAlike_89 rfl rfl ?_
      refine l_ri dX13_areAlike_90 (fun v7 => ?_)
      refine l_loc dX13_areAlike_91 rfl rfl ?_
      refine l_pure dX13_areAlike_93 rfl rfl ?_
      refine l_pure dX13_areAlike_94 rfl rfl ?_
      refine l_loc dX13_areAlike_95 rfl rfl ?_
      refine l_gr dX13_areAlike_96 fl_12_149 (fun v8 => ?_)
      refine l_loc dX13_areAlike_99 rfl rfl ?_
      refine l_ri dX13_areAlike_100 (fun v9 => ?_)
      refine l_pure dX13_areAlike_101 rfl rfl ?_
      refine l_loc dX13_areAlike_102 rfl rfl ?_
      refine l_pure dX13_areAlike_104 rfl rfl ?_
      refine l_ob fun q10 => ?_
      refine l_cI dX13_areAlike_105 rfl rfl rfl (l_xv cl_12_449 ko_mX13_isOf rfl rfl rfl q10) rfl rfl nm_mX13_isOf (xhE_th rfl) (fun v12 h11 => ?_)
      refine l_loc dX13_areAlike_108 rfl rfl ?_
      refine l_loc dX13_areAlike_109 rfl rfl ?_
      refine l_bi dX13_areAlike_110 kB_64 ?_
      refine l_loc dX13_areAlike_112 rfl rfl ?_
      refine l_gr dX13_areAlike_113 fl_12_152 (fun v13 => ?_)
      refine l_loc dX13_areAlike_116 rfl rfl ?_
      refine l_ri dX13_areAlike_117 (fun v14 => ?_)
      refine l_loc dX13_areAlike_118 rfl rfl ?_
      refine l_pure dX13_areAlike_120 rfl rfl ?_
      refine l_pure dX13_areAlike_121 rfl rfl ?_
      refine l_loc dX13_areAlike_122 rfl rfl ?_
      refine l_gr dX13_areAlike_123 fl_12_149 (fun v15 => ?_)
      refine l_loc dX13_areAlike_126 rfl rfl ?_
      refine l_ri dX13_areAlike_127 (fun v16 => ?_)
      refine l_pure dX13_areAlike_128 rfl rfl ?_
      refine l_loc dX13_areAlike_129 rfl rfl ?_
      refine l_pure dX13_areAlike_131 rfl rfl ?_
      refine l_ob fun q17 => ?_
      refine l_cI dX13_areAlike_132 rfl rfl rfl (l_xv cl_12_449 ko_mX13_isOf rfl rfl rfl q17) rfl rfl nm_mX13_isOf (xhE_th rfl) (fun v19 h18 => ?_)
      refine l_cne (t := 142) dX13_areAlike_135 rfl ?_ ?_
      · refine l_ic dX13_areAlike_142 kI_0 ?_
        refine l_loc (al1 := [(3, .int (0 : Int32)), (0, .ref x0), (1, .int x1), (2, .int x2), (4, .int x4), (5, .int x5)]) dX13_areAlike_143 rfl rfl ?_
        refine l_incl (al1 := fun v20 => [(5, .int v20), (3, .int (0 : Int32)), (0, .ref x0), (1, .int x1), (2, .int x2), (4, .int x4)]) dX13_areAlike_144 rfl kI_1 rfl (fun _ => rfl) (fun v20 => ?_)
        refine l_goto (t := 67) dX13_areAlike_147 rfl ?_
        exact l_al rfl ⟨rfl, rfl, rfl, rfl, rfl, rfl, trivial⟩
      · refine l_ic dX13_areAlike_138 kI_1 ?_
        refine l_goto (t := 143) dX13_areAlike_139 rfl ?_
        refine l_loc (al1 := [(3, .int (1 : Int32)), (0, .ref x0), (1, .int x1), (2, .int x2), (4, .int x4), (5, .int x5)]) dX13_areAlike_143 rfl rfl ?_
        refine l_incl (al1 := fun v21 => [(5, .int v21), (3, .int (1 : Int32)), (0, .ref x0), (1, .int x1), (2, .int x2), (4, .int x4)]) dX13_areAlike_144 rfl kI_1 rfl (fun _ => rfl) (fun v21 => ?_)
        refine l_goto (t := 67) dX13_areAlike_147 rfl ?_
        exact l_al rfl ⟨rfl, rfl, rfl, rfl, rfl, rfl, trivial⟩
set_option maxRecDepth 16000 in
theorem w_X13_widthOf (S : xS) (x0 : Nat) (x1 : Int32) (h : xH) : xle ((xGr h x0 12 73).bind fun v1 => (xRi h 0 v1 x1).bind fun v2 => (xGr h x0 12 71).bind fun v3 => (xRi h 0 v3 x1).bind fun v4 => some (.inl (some (.int ((v2 - v4) + (1 : Int32)))), h, 0, 0)) (xM S mX13_widthOf [.ref x0, .int x1] h) := by
  show xle _ (xden S mX13_widthOf 0 [(0, .ref x0), (1, .int x1)] [] h)
  refine l_loc dX13_widthOf_0 rfl rfl ?_
  refine l_gr dX13_widthOf_1 fl_12_155 (fun v1 => ?_)
  refine l_loc dX13_widthOf_4 rfl rfl ?_
  refine l_ri dX13_widthOf_5 (fun v2 => ?_)
  refine l_loc dX13_widthOf_6 rfl rfl ?_
  refine l_gr dX13_widthOf_7 fl_12_149 (fun v3 => ?_)
  refine l_loc dX13_widthOf_10 rfl rfl ?_
  refine l_ri dX13_widthOf_11 (fun v4 => ?_)
  refine l_pure dX13_widthOf_12 rfl rfl ?_
  refine l_ic dX13_widthOf_13 kI_1 ?_
  refine l_pure dX13_widthOf_14 rfl rfl ?_
  exact l_iretn dX13_widthOf_15 rfl (by rfl)
set_option maxRecDepth 16000 in
theorem w_X13_heightOf (S : xS) (x0 : Nat) (x1 : Int32) (h : xH) : xle ((xGr h x0 12 74).bind fun v1 => (xRi h 0 v1 x1).bind fun v2 => (xGr h x0 12 72).bind fun v3 => (xRi h 0 v3 x1).bind fun v4 => some (.inl (some (.int ((v2 - v4) + (1 : Int32)))), h, 0, 0)) (xM S mX13_heightOf [.ref x0, .int x1] h) := by
  show xle _ (xden S mX13_heightOf 0 [(0, .ref x0), (1, .int x1)] [] h)
  refine l_loc dX13_heightOf_0 rfl rfl ?_
  refine l_gr dX13_heightOf_1 fl_12_158 (fun v1 => ?_)
  refine l_loc dX13_heightOf_4 rfl rfl ?_
  refine l_ri dX13_heightOf_5 (fun v2 => ?_)
  refine l_loc dX13_heightOf_6 rfl rfl ?_
  refine l_gr dX13_heightOf_7 fl_12_152 (fun v3 => ?_)
  refine l_loc dX13_heightOf_10 rfl rfl ?_
  refine l_ri dX13_heightOf_11 (fun v4 => ?_)
  refine l_pure dX13_heightOf_12 rfl rfl ?_
  refine l_ic dX13_heightOf_13 kI_1 ?_
  refine l_pure dX13_heightOf_14 rfl rfl ?_
  exact l_iretn dX13_heightOf_15 rfl (by rfl)
set_option maxRecDepth 16000 in
theorem w_X13_lists (S : xS) (x0 : Nat) (x1 : Int32) (x2 : Int32) (h : xH) : xle (if 0 ≤ x2 then (xden S mX13_lists 24 [(0, .ref x0), (1, .int x1), (2, .int x2)] [] h) else ((xGr h x0 12 14).bind fun v1 => (xRi h 0 v1 (9 : Int32)).bind fun v2 => if ¬ v2 = (1 : Int32) then (xden S mX13_lists 24 [(0, .ref x0), (1, .int x1), (2, .int x2)] [] h) else (if xOb h x0 12 = true then xqI (xM S mX13_stampFor [.ref x0, .int x1] h) xth fun v5 h4 => if v5 < 0 then (xden S mX13_lists 24 [(0, .ref x0), (1, .int x1), (2, .int x2)] [] h4) else (some (.inl none, h4, 0, 0)) else none))) (xM S mX13_lists [.ref x0, .int x1, .int x2] h) := by
  show xle _ (xden S mX13_lists 0 [(0, .ref x0), (1, .int x1), (2, .int x2)] [] h)
  refine l_loc dX13_lists_0 rfl rfl ?_
  refine l_ige (t := 24) dX13_lists_1 rfl ?_ ?_
  · exact l_al rfl ⟨rfl, rfl, rfl, trivial⟩
  · refine l_loc dX13_lists_4 rfl rfl ?_
    refine l_gr dX13_lists_5 fl_12_33 (fun v1 => ?_)
    refine l_bi dX13_lists_8 kB_9 ?_
    refine l_ri dX13_lists_10 (fun v2 => ?_)
    refine l_ic dX13_lists_11 kI_1 ?_
    refine l_cne (t := 24) dX13_lists_12 rfl ?_ ?_
    · exact l_al rfl ⟨rfl, rfl, rfl, trivial⟩
    · refine l_loc dX13_lists_15 rfl rfl ?_
      refine l_loc dX13_lists_16 rfl rfl ?_
      refine l_ob fun q3 => ?_
      refine l_cI dX13_lists_17 rfl rfl rfl (l_xv cl_12_464 ko_mX13_stampFor rfl rfl rfl q3) rfl rfl nm_mX13_stampFor (xhE_th rfl) (fun v5 h4 => ?_)
      refine l_ilt (t := 24) dX13_lists_20 rfl ?_ ?_
      · exact l_al rfl ⟨rfl, rfl, rfl, trivial⟩
      · exact l_end dX13_lists_23 rfl rfl
set_option maxRecDepth 16000 in
theorem w_X13_lists_24 (S : xS) (x0 : Nat) (x1 : Int32) (x2 : Int32) (h : xH) : xle ((xGr h x0 12 76).bind fun v1 => (xGi h x0 12 79).bind fun v2 => (xWi h v1 v2 x1).bind fun h3 => (xGr h3 x0 12 77).bind fun v4 => (xGi h3 x0 12 79).bind fun v5 => (xWi h3 v4 v5 x2).bind fun h6 => (xGr h6 x0 12 78).bind fun v7 => (xGi h6 x0 12 79).bind fun v8 => if ¬ (x1 - x1 / (2 : Int32) * (2 : Int32)) = 0 then ((xGr h6 x0 12 39).bind fun v9 => (xGr h6 x0 12 72).bind fun v10 => (xRi h6 0 v10 x1).bind fun v11 => if xOb h6 x0 12 = true then xqI (xM S mX13_linesTo [.ref x0, .ref v9, .int (0 : Int32), .int v11] h6) xth fun v14 h13 => (xWi h13 v7 v8 (v14 - (1 : Int32))).bind fun h15 => (xGi h15 x0 12 79).bind fun v16 => (xP false 12 h15 x0 12 79 (.int (v16 + (1 : Int32)))).bind fun h17 => some (.inl none, h17, 0, 0) else none) else ((xGr h6 x0 12 36).bind fun v18 => (xGr h6 x0 12 72).bind fun v19 => (xRi h6 0 v19 x1).bind fun v20 => if xOb h6 x0 12 = true then xqI (xM S mX13_linesTo [.ref x0, .ref v18, .int (0 : Int32), .int v20] h6) xth fun v23 h22 => (xWi h22 v7 v8 (v23 - (1 : Int32))).bind fun h24 => (xGi h24 x0 12 79).bind fun v25 => (xP false 12 h24 x0 12 79 (.int (v25 + (1 : Int32)))).bind fun h26 => some (.inl none, h26, 0, 0) else none)) (xden S mX13_lists 24 [(0, .ref x0), (1, .int x1), (2, .int x2)] [] h) := by
  refine l_loc dX13_lists_24 rfl rfl ?_
  refine l_gr dX13_lists_25 fl_12_164 (fun v1 => ?_)
  refine l_loc dX13_lists_28 rfl rfl ?_
  refine l_gi dX13_lists_29 fl_12_467 (fun v2 => ?_)
  refine l_loc dX13_lists_32 rfl rfl ?_
  refine l_wi dX13_lists_33 (fun h3 => ?_)
  refine l_loc dX13_lists_34 rfl rfl ?_
  refine l_gr dX13_lists_35 fl_12_167 (fun v4 => ?_)
  refine l_loc dX13_lists_38 rfl rfl ?_
  refine l_gi dX13_lists_39 fl_12_467 (fun v5 => ?_)
  refine l_loc dX13_lists_42 rfl rfl ?_
  refine l_wi dX13_lists_43 (fun h6 => ?_)
  refine l_loc dX13_lists_44 rfl rfl ?_
  refine l_gr dX13_lists_45 fl_12_170 (fun v7 => ?_)
  refine l_loc dX13_lists_48 rfl rfl ?_
  refine l_gi dX13_lists_49 fl_12_467 (fun v8 => ?_)
  refine l_loc dX13_lists_52 rfl rfl ?_
  refine l_loc dX13_lists_53 rfl rfl ?_
  refine l_ic dX13_lists_54 kI_2 ?_
  refine l_remn dX13_lists_55 (by decide) ?_
  refine l_ine (t := 66) dX13_lists_56 rfl ?_ ?_
  · refine l_loc dX13_lists_66 rfl rfl ?_
    refine l_gr dX13_lists_67 fl_12_92 (fun v9 => ?_)
    refine l_ic dX13_lists_70 kI_0 ?_
    refine l_loc dX13_lists_71 rfl rfl ?_
    refine l_gr dX13_lists_72 fl_12_152 (fun v10 => ?_)
    refine l_loc dX13_lists_75 rfl rfl ?_
    refine l_ri dX13_lists_76 (fun v11 => ?_)
    refine l_ob fun q12 => ?_
    refine l_cI dX13_lists_77 rfl rfl rfl (l_xv cl_12_253 ko_mX13_linesTo rfl rfl rfl q12) rfl rfl nm_mX13_linesTo (xhE_th rfl) (fun v14 h13 => ?_)
    refine l_ic dX13_lists_80 kI_1 ?_
    refine l_pure dX13_lists_81 rfl rfl ?_
    refine l_wi dX13_lists_82 (fun h15 => ?_)
    refine l_loc dX13_lists_83 rfl rfl ?_
    refine l_pure dX13_lists_84 rfl rfl ?_
    refine l_gi dX13_lists_85 fl_12_467 (fun v16 => ?_)
    refine l_ic dX13_lists_88 kI_1 ?_
    refine l_pure dX13_lists_89 rfl rfl ?_
    refine l_pf dX13_lists_90 fl_12_467 (ini := false) nm_mX13_lists (fun h17 => ?_)
    exact l_end dX13_lists_93 rfl rfl
  · refine l_loc dX13_lists_59 rfl rfl ?_
    refine l_gr dX13_lists_60 fl_12_83 (fun v18 => ?_)
    refine l_goto (t := 70) dX13_lists_63 rfl ?_
    refine l_ic dX13_lists_70 kI_0 ?_
    refine l_loc dX13_lists_71 rfl rfl ?_
    refine l_gr dX13_lists_72 fl_12_152 (fun v19 => ?_)
    refine l_loc dX13_lists_75 rfl rfl ?_
    refine l_ri dX13_lists_76 (fun v20 => ?_)
    refine l_ob fun q21 => ?_
    refine l_cI dX13_lists_77 rfl rfl rfl (l_xv cl_12_253 ko_mX13_linesTo rfl rfl rfl q21) rfl rfl nm_mX13_linesTo (xhE_th rfl) (fun v23 h22 => ?_)
    refine l_ic dX13_lists_80 kI_1 ?_
    refine l_pure dX13_lists_81 rfl rfl ?_
    refine l_wi dX13_lists_82 (fun h24 => ?_)
    refine l_loc dX13_lists_83 rfl rfl ?_
    refine l_pure dX13_lists_84 rfl rfl ?_
    refine l_gi dX13_lists_85 fl_12_467 (fun v25 => ?_)
    refine l_ic dX13_lists_88 kI_1 ?_
    refine l_pure dX13_lists_89 rfl rfl ?_
    refine l_pf dX13_lists_90 fl_12_467 (ini := false) nm_mX13_lists (fun h26 => ?_)
    exact l_end dX13_lists_93 rfl rfl
set_option maxRecDepth 16000 in
theorem w_X13_stampFor (S : xS) (x0 : Nat) (x1 : Int32) (h : xH) : xle (xden S mX13_stampFor 2 [(0, .ref x0), (1, .int x1), (2, .int (0 : Int32))] [] h) (xM S mX13_stampFor [.ref x0, .int x1] h) := by
  show xle _ (xden S mX13_stampFor 0 [(0, .ref x0), (1, .int x1)] [] h)
  refine l_ic dX13_stampFor_0 kI_0 ?_
  refine l_loc (al1 := [(2, .int (0 : Int32)), (0, .ref x0), (1, .int x1)]) dX13_stampFor_1 rfl rfl ?_
  exact l_al rfl ⟨rfl, rfl, rfl, trivial⟩
set_option maxRecDepth 16000 in
theorem w_X13_stampFor_2 (S : xS) (x0 : Nat) (x1 : Int32) (x2 : Int32) (h : xH) : xle ((xGi h x0 12 34).bind fun v1 => if v1 ≤ x2 then (some (.inl (some (.int (-1 : Int32))), h, 0, 0)) else ((xGr h x0 12 32).bind fun v2 => (xRi h 0 v2 x2).bind fun v3 => if xOb h x0 12 = true then xqI (xM S mX13_widthOf [.ref x0, .int x1] h) xth fun v6 h5 => if ¬ v3 = v6 then (xden S mX13_stampFor 47 [(0, .ref x0), (1, .int x1), (2, .int x2), (3, .int (0 : Int32)), (4, .int (0 : Int32))] [] h5) else ((xGr h5 x0 12 33).bind fun v7 => (xRi h5 0 v7 x2).bind fun v8 => if xOb h5 x0 12 = true then xqI (xM S mX13_heightOf [.ref x0, .int x1] h5) xth fun v11 h10 => if ¬ v8 = v11 then (xden S mX13_stampFor 47 [(0, .ref x0), (1, .int x1), (2, .int x2), (3, .int (0 : Int32)), (4, .int (0 : Int32))] [] h10) else (xden S mX13_stampFor 47 [(0, .ref x0), (1, .int x1), (2, .int x2), (3, .int (1 : Int32)), (4, .int (0 : Int32))] [] h10) else none) else none)) (xden S mX13_stampFor 2 [(0, .ref x0), (1, .int x1), (2, .int x2)] [] h) := by
  refine l_loc dX13_stampFor_2 rfl rfl ?_
  refine l_loc dX13_stampFor_3 rfl rfl ?_
  refine l_gi dX13_stampFor_4 fl_12_458 (fun v1 => ?_)
  refine l_cge (t := 157) dX13_stampFor_7 rfl ?_ ?_
  · refine l_ic dX13_stampFor_157 kI_m1 ?_
    exact l_iretn dX13_stampFor_158 rfl (by rfl)
  · refine l_loc dX13_stampFor_10 rfl rfl ?_
    refine l_gr dX13_stampFor_11 fl_12_77 (fun v2 => ?_)
    refine l_loc dX13_stampFor_14 rfl rfl ?_
    refine l_ri dX13_stampFor_15 (fun v3 => ?_)
    refine l_loc dX13_stampFor_16 rfl rfl ?_
    refine l_loc dX13_stampFor_17 rfl rfl ?_
    refine l_ob fun q4 => ?_
    refine l_cI dX13_stampFor_18 rfl rfl rfl (l_xv cl_12_452 ko_mX13_widthOf rfl rfl rfl q4) rfl rfl nm_mX13_widthOf (xhE_th rfl) (fun v6 h5 => ?_)
    refine l_cne (t := 42) dX13_stampFor_21 rfl ?_ ?_
    · refine l_ic dX13_stampFor_42 kI_0 ?_
      refine l_loc (al1 := [(3, .int (0 : Int32)), (0, .ref x0), (1, .int x1), (2, .int x2)]) dX13_stampFor_43 rfl rfl ?_
      refine l_ic dX13_stampFor_44 kI_0 ?_
      refine l_loc (al1 := [(4, .int (0 : Int32)), (3, .int (0 : Int32)), (0, .ref x0), (1, .int x1), (2, .int x2)]) dX13_stampFor_45 rfl rfl ?_
      exact l_al rfl ⟨rfl, rfl, rfl, rfl, rfl, trivial⟩
    · refine l_loc dX13_stampFor_24 rfl rfl ?_
      refine l_gr dX13_stampFor_25 fl_12_80 (fun v7 => ?_)
      refine l_loc dX13_stampFor_28 rfl rfl ?_
      refine l_ri dX13_stampFor_29 (fun v8 => ?_)
      refine l_loc dX13_stampFor_30 rfl rfl ?_
      refine l_loc dX13_stampFor_31 rfl rfl ?_
      refine l_ob fun q9 => ?_
      refine l_cI dX13_stampFor_32 rfl rfl rfl (l_xv cl_12_455 ko_mX13_heightOf rfl rfl rfl q9) rfl rfl nm_mX13_heightOf (xhE_th rfl) (fun v11 h10 => ?_)
      refine l_cne (t := 42) dX13_stampFor_35 rfl ?_ ?_
      · refine l_ic dX13_stampFor_42 kI_0 ?_
        refine l_loc (al1 := [(3, .int (0 : Int32)), (0, .ref x0), (1, .int x1), (2, .int x2)]) dX13_stampFor_43 rfl rfl ?_
        refine l_ic dX13_stampFor_44 kI_0 ?_
        refine l_loc (al1 := [(4, .int (0 : Int32)), (3, .int (0 : Int32)), (0, .ref x0), (1, .int x1), (2, .int x2)]) dX13_stampFor_45 rfl rfl ?_
        exact l_al rfl ⟨rfl, rfl, rfl, rfl, rfl, trivial⟩
      · refine l_ic dX13_stampFor_38 kI_1 ?_
        refine l_goto (t := 43) dX13_stampFor_39 rfl ?_
        refine l_loc (al1 := [(3, .int (1 : Int32)), (0, .ref x0), (1, .int x1), (2, .int x2)]) dX13_stampFor_43 rfl rfl ?_
        refine l_ic dX13_stampFor_44 kI_0 ?_
        refine l_loc (al1 := [(4, .int (0 : Int32)), (3, .int (1 : Int32)), (0, .ref x0), (1, .int x1), (2, .int x2)]) dX13_stampFor_45 rfl rfl ?_
        exact l_al rfl ⟨rfl, rfl, rfl, rfl, rfl, trivial⟩
set_option maxRecDepth 16000 in
theorem w_X13_stampFor_47 (S : xS) (x0 : Nat) (x1 : Int32) (x2 : Int32) (x3 : Int32) (x4 : Int32) (h : xH) : xle (if xOb h x0 12 = true then xqI (xM S mX13_heightOf [.ref x0, .int x1] h) xth fun v3 h2 => if v3 ≤ x4 then (if x3 = 0 then (xlet (x2 + (1 : Int32)) fun v4 => (xden S mX13_stampFor 2 [(0, .ref x0), (1, .int x1), (2, .int v4)] [] h2)) else (some (.inl (some (.int x2)), h2, 0, 0))) else (if x3 = 0 then (if x3 = 0 then (xlet (x2 + (1 : Int32)) fun v5 => (xden S mX13_stampFor 2 [(0, .ref x0), (1, .int x1), (2, .int v5)] [] h2)) else (some (.inl (some (.int x2)), h2, 0, 0))) else (xden S mX13_stampFor 64 [(0, .ref x0), (1, .int x1), (2, .int x2), (3, .int x3), (4, .int x4), (5, .int (0 : Int32))] [] h2)) else none) (xden S mX13_stampFor 47 [(0, .ref x0), (1, .int x1), (2, .int x2), (3, .int x3), (4, .int x4)] [] h) := by
  refine l_loc dX13_stampFor_47 rfl rfl ?_
  refine l_loc dX13_stampFor_49 rfl rfl ?_
  refine l_loc dX13_stampFor_50 rfl rfl ?_
  refine l_ob fun q1 => ?_
  refine l_cI dX13_stampFor_51 rfl rfl rfl (l_xv cl_12_455 ko_mX13_heightOf rfl rfl rfl q1) rfl rfl nm_mX13_heightOf (xhE_th rfl) (fun v3 h2 => ?_)
  refine l_cge (t := 145) dX13_stampFor_54 rfl ?_ ?_
  · refine l_loc dX13_stampFor_145 rfl rfl ?_
    refine l_ieq (t := 151) dX13_stampFor_146 rfl ?_ ?_
    · refine l_incl (al1 := fun v4 => [(2, .int v4), (0, .ref x0), (1, .int x1), (3, .int x3), (4, .int x4)]) dX13_stampFor_151 rfl kI_1 rfl (fun _ => rfl) (fun v4 => ?_)
      refine l_goto (t := 2) dX13_stampFor_154 rfl ?_
      exact l_al rfl ⟨rfl, rfl, rfl, trivial⟩
    · refine l_loc dX13_stampFor_149 rfl rfl ?_
      exact l_iretn dX13_stampFor_150 rfl (by rfl)
  · refine l_loc dX13_stampFor_57 rfl rfl ?_
    refine l_ieq (t := 145) dX13_stampFor_58 rfl ?_ ?_
    · refine l_loc dX13_stampFor_145 rfl rfl ?_
      refine l_ieq (t := 151) dX13_stampFor_146 rfl ?_ ?_
      · refine l_incl (al1 := fun v5 => [(2, .int v5), (0, .ref x0), (1, .int x1), (3, .int x3), (4, .int x4)]) dX13_stampFor_151 rfl kI_1 rfl (fun _ => rfl) (fun v5 => ?_)
        refine l_goto (t := 2) dX13_stampFor_154 rfl ?_
        exact l_al rfl ⟨rfl, rfl, rfl, trivial⟩
      · refine l_loc dX13_stampFor_149 rfl rfl ?_
        exact l_iretn dX13_stampFor_150 rfl (by rfl)
    · refine l_ic dX13_stampFor_61 kI_0 ?_
      refine l_loc (al1 := [(5, .int (0 : Int32)), (0, .ref x0), (1, .int x1), (2, .int x2), (3, .int x3), (4, .int x4)]) dX13_stampFor_62 rfl rfl ?_
      exact l_al rfl ⟨rfl, rfl, rfl, rfl, rfl, rfl, trivial⟩
set_option maxRecDepth 16000 in
theorem w_X13_stampFor_64 (S : xS) (x0 : Nat) (x1 : Int32) (x2 : Int32) (x3 : Int32) (x4 : Int32) (x5 : Int32) (h : xH) : xle (if xOb h x0 12 = true then xqI (xM S mX13_widthOf [.ref x0, .int x1] h) xth fun v3 h2 => if v3 ≤ x5 then (xlet (x4 + (1 : Int32)) fun v4 => (xden S mX13_stampFor 47 [(0, .ref x0), (1, .int x1), (2, .int x2), (3, .int x3), (4, .int v4)] [] h2)) else (if x3 = 0 then (xlet (x4 + (1 : Int32)) fun v5 => (xden S mX13_stampFor 47 [(0, .ref x0), (1, .int x1), (2, .int x2), (3, .int x3), (4, .int v5)] [] h2)) else ((xGr h2 x0 12 31).bind fun v6 => (xRi h2 2 v6 ((((4096 : Int32) * x2) + ((64 : Int32) * x4)) + x5)).bind fun v7 => (xGr h2 x0 12 72).bind fun v8 => (xRi h2 0 v8 x1).bind fun v9 => (xGr h2 x0 12 71).bind fun v10 => (xRi h2 0 v10 x1).bind fun v11 => if xOb h2 x0 12 = true then xqI (xM S mX13_isOf [.ref x0, .int x1, .int ((((64 : Int32) * (v9 + x4)) + v11) + x5)] h2) xth fun v14 h13 => if ¬ v7 = v14 then (xlet (x5 + (1 : Int32)) fun v15 => (xden S mX13_stampFor 64 [(0, .ref x0), (1, .int x1), (2, .int x2), (3, .int (0 : Int32)), (4, .int x4), (5, .int v15)] [] h13)) else (xlet (x5 + (1 : Int32)) fun v16 => (xden S mX13_stampFor 64 [(0, .ref x0), (1, .int x1), (2, .int x2), (3, .int (1 : Int32)), (4, .int x4), (5, .int v16)] [] h13)) else none)) else none) (xden S mX13_stampFor 64 [(0, .ref x0), (1, .int x1), (2, .int x2), (3, .int x3), (4, .int x4), (5, .int x5)] [] h) := by
  refine l_loc dX13_stampFor_64 rfl rfl ?_
  refine l_loc dX13_stampFor_66 rfl rfl ?_
  refine l_loc dX13_stampFor_67 rfl rfl ?_
  refine l_ob fun q1 => ?_
  refine l_cI dX13_stampFor_68 rfl rfl rfl (l_xv cl_12_452 ko_mX13_widthOf rfl rfl rfl q1) rfl rfl nm_mX13_widthOf (xhE_th rfl) (fun v3 h2 => ?_)
  refine l_cge (t := 139) dX13_stampFor_71 rfl ?_ ?_
  · refine l_incl (al1 := fun v4 => [(4, .int v4), (0, .ref x0), (1, .int x1), (2, .int x2), (3, .int x3), (5, .int x5)]) dX13_stampFor_139 rfl kI_1 rfl (fun _ => rfl) (fun v4 => ?_)
    refine l_goto (t := 47) dX13_stampFor_142 rfl ?_
    exact l_al rfl ⟨rfl, rfl, rfl, rfl, rfl, trivial⟩
  · refine l_loc dX13_stampFor_74 rfl rfl ?_
    refine l_ieq (t := 139) dX13_stampFor_75 rfl ?_ ?_
    · refine l_incl (al1 := fun v5 => [(4, .int v5), (0, .ref x0), (1, .int x1), (2, .int x2), (3, .int x3), (5, .int x5)]) dX13_stampFor_139 rfl kI_1 rfl (fun _ => rfl) (fun v5 => ?_)
      refine l_goto (t := 47) dX13_stampFor_142 rfl ?_
      exact l_al rfl ⟨rfl, rfl, rfl, rfl, rfl, trivial⟩
    · refine l_loc dX13_stampFor_78 rfl rfl ?_
      refine l_gr dX13_stampFor_79 fl_12_74 (fun v6 => ?_)
      refine l_si dX13_stampFor_82 kS_4096 ?_
      refine l_loc dX13_stampFor_85 rfl rfl ?_
      refine l_pure dX13_stampFor_86 rfl rfl ?_
      refine l_bi dX13_stampFor_87 kB_64 ?_
      refine l_loc dX13_stampFor_89 rfl rfl ?_
      refine l_pure dX13_stampFor_91 rfl rfl ?_
      refine l_pure dX13_stampFor_92 rfl rfl ?_
      refine l_loc dX13_stampFor_93 rfl rfl ?_
      refine l_pure dX13_stampFor_95 rfl rfl ?_
      refine l_rz dX13_stampFor_96 (fun v7 => ?_)
      refine l_loc dX13_stampFor_97 rfl rfl ?_
      refine l_loc dX13_stampFor_98 rfl rfl ?_
      refine l_bi dX13_stampFor_99 kB_64 ?_
      refine l_loc dX13_stampFor_101 rfl rfl ?_
      refine l_gr dX13_stampFor_102 fl_12_152 (fun v8 => ?_)
      refine l_loc dX13_stampFor_105 rfl rfl ?_
      refine l_ri dX13_stampFor_106 (fun v9 => ?_)
      refine l_loc dX13_stampFor_107 rfl rfl ?_
      refine l_pure dX13_stampFor_109 rfl rfl ?_
      refine l_pure dX13_stampFor_110 rfl rfl ?_
      refine l_loc dX13_stampFor_111 rfl rfl ?_
      refine l_gr dX13_stampFor_112 fl_12_149 (fun v10 => ?_)
      refine l_loc dX13_stampFor_115 rfl rfl ?_
      refine l_ri dX13_stampFor_116 (fun v11 => ?_)
      refine l_pure dX13_stampFor_117 rfl rfl ?_
      refine l_loc dX13_stampFor_118 rfl rfl ?_
      refine l_pure dX13_stampFor_120 rfl rfl ?_
      refine l_ob fun q12 => ?_
      refine l_cI dX13_stampFor_121 rfl rfl rfl (l_xv cl_12_449 ko_mX13_isOf rfl rfl rfl q12) rfl rfl nm_mX13_isOf (xhE_th rfl) (fun v14 h13 => ?_)
      refine l_cne (t := 131) dX13_stampFor_124 rfl ?_ ?_
      · refine l_ic dX13_stampFor_131 kI_0 ?_
        refine l_loc (al1 := [(3, .int (0 : Int32)), (0, .ref x0), (1, .int x1), (2, .int x2), (4, .int x4), (5, .int x5)]) dX13_stampFor_132 rfl rfl ?_
        refine l_incl (al1 := fun v15 => [(5, .int v15), (3, .int (0 : Int32)), (0, .ref x0), (1, .int x1), (2, .int x2), (4, .int x4)]) dX13_stampFor_133 rfl kI_1 rfl (fun _ => rfl) (fun v15 => ?_)
        refine l_goto (t := 64) dX13_stampFor_136 rfl ?_
        exact l_al rfl ⟨rfl, rfl, rfl, rfl, rfl, rfl, trivial⟩
      · refine l_ic dX13_stampFor_127 kI_1 ?_
        refine l_goto (t := 132) dX13_stampFor_128 rfl ?_
        refine l_loc (al1 := [(3, .int (1 : Int32)), (0, .ref x0), (1, .int x1), (2, .int x2), (4, .int x4), (5, .int x5)]) dX13_stampFor_132 rfl rfl ?_
        refine l_incl (al1 := fun v16 => [(5, .int v16), (3, .int (1 : Int32)), (0, .ref x0), (1, .int x1), (2, .int x2), (4, .int x4)]) dX13_stampFor_133 rfl kI_1 rfl (fun _ => rfl) (fun v16 => ?_)
        refine l_goto (t := 64) dX13_stampFor_136 rfl ?_
        exact l_al rfl ⟨rfl, rfl, rfl, rfl, rfl, rfl, trivial⟩
set_option maxRecDepth 16000 in
theorem w_X13_reports (S : xS) (x0 : Nat) (h : xH) : xle ((xP false 12 h x0 12 25 (.int (0 : Int32))).bind fun h1 => (xGr h1 x0 12 81).bind fun v2 => if xOb h1 x0 12 = true then xqV (xM S mX13_tellsWord [.ref x0, .ref v2, .int (0 : Int32)] h1) xth fun h4 => (xGi h4 x0 12 41).bind fun v6 => (xGi h4 x0 12 42).bind fun v7 => if xOb h4 x0 12 = true then xqV (xM S mX13_tellsTwo [.ref x0, .int v6, .int (44 : Int32), .int v7] h4) xth fun h9 => (xGr h9 x0 12 81).bind fun v11 => if xOb h9 x0 12 = true then xqV (xM S mX13_tellsWord [.ref x0, .ref v11, .int (1 : Int32)] h9) xth fun h13 => (xGi h13 x0 12 43).bind fun v15 => if xOb h13 x0 12 = true then xqV (xM S mX13_tellsNumber [.ref x0, .int v15] h13) xth fun h17 => (xGi h17 x0 12 44).bind fun v19 => if v19 = 0 then (if xOb h17 x0 12 = true then xqV (xM S mX13_tells [.ref x0, .int (10 : Int32)] h17) xth fun h21 => (xGi h21 x0 12 79).bind fun v23 => if xOb h21 x0 12 = true then xqV (xM S mX13_tellsNumber [.ref x0, .int v23] h21) xth fun h25 => (xGr h25 x0 12 81).bind fun v27 => if xOb h25 x0 12 = true then xqV (xM S mX13_tellsWord [.ref x0, .ref v27, .int (3 : Int32)] h25) xth fun h29 => (xGi h29 x0 12 79).bind fun v31 => if v31 = (1 : Int32) then (if xOb h29 x0 12 = true then xqV (xM S mX13_tells [.ref x0, .int (10 : Int32)] h29) xth fun h33 => (xden S mX13_reports 106 [(0, .ref x0), (1, .int (0 : Int32))] [] h33) else none) else (if xOb h29 x0 12 = true then xqV (xM S mX13_tells [.ref x0, .int (115 : Int32)] h29) xth fun h36 => if xOb h36 x0 12 = true then xqV (xM S mX13_tells [.ref x0, .int (10 : Int32)] h36) xth fun h39 => (xden S mX13_reports 106 [(0, .ref x0), (1, .int (0 : Int32))] [] h39) else none else none) else none else none else none) else ((xGr h17 x0 12 81).bind fun v41 => if xOb h17 x0 12 = true then xqV (xM S mX13_tellsWord [.ref x0, .ref v41, .int (2 : Int32)] h17) xth fun h43 => if xOb h43 x0 12 = true then xqV (xM S mX13_tells [.ref x0, .int (10 : Int32)] h43) xth fun h46 => (xGi h46 x0 12 79).bind fun v48 => if xOb h46 x0 12 = true then xqV (xM S mX13_tellsNumber [.ref x0, .int v48] h46) xth fun h50 => (xGr h50 x0 12 81).bind fun v52 => if xOb h50 x0 12 = true then xqV (xM S mX13_tellsWord [.ref x0, .ref v52, .int (3 : Int32)] h50) xth fun h54 => (xGi h54 x0 12 79).bind fun v56 => if v56 = (1 : Int32) then (if xOb h54 x0 12 = true then xqV (xM S mX13_tells [.ref x0, .int (10 : Int32)] h54) xth fun h58 => (xden S mX13_reports 106 [(0, .ref x0), (1, .int (0 : Int32))] [] h58) else none) else (if xOb h54 x0 12 = true then xqV (xM S mX13_tells [.ref x0, .int (115 : Int32)] h54) xth fun h61 => if xOb h61 x0 12 = true then xqV (xM S mX13_tells [.ref x0, .int (10 : Int32)] h61) xth fun h64 => (xden S mX13_reports 106 [(0, .ref x0), (1, .int (0 : Int32))] [] h64) else none else none) else none else none else none else none) else none else none else none else none) (xM S mX13_reports [.ref x0] h) := by
  show xle _ (xden S mX13_reports 0 [(0, .ref x0)] [] h)
  refine l_loc dX13_reports_0 rfl rfl ?_
  refine l_ic dX13_reports_1 kI_0 ?_
  refine l_pf dX13_reports_2 fl_12_318 (ini := false) nm_mX13_reports (fun h1 => ?_)
  refine l_loc dX13_reports_5 rfl rfl ?_
  refine l_loc dX13_reports_6 rfl rfl ?_
  refine l_gr dX13_reports_7 fl_12_176 (fun v2 => ?_)
  refine l_ic dX13_reports_10 kI_0 ?_
  refine l_ob fun q3 => ?_
  refine l_cV dX13_reports_11 rfl rfl rfl (l_xv cl_12_324 ko_mX13_tellsWord rfl rfl rfl q3) rfl rfl nm_mX13_tellsWord (xhE_th rfl) (fun h4 => ?_)
  refine l_loc dX13_reports_14 rfl rfl ?_
  refine l_loc dX13_reports_15 rfl rfl ?_
  refine l_gi dX13_reports_16 fl_12_378 (fun v6 => ?_)
  refine l_bi dX13_reports_19 kB_44 ?_
  refine l_loc dX13_reports_21 rfl rfl ?_
  refine l_gi dX13_reports_22 fl_12_381 (fun v7 => ?_)
  refine l_ob fun q8 => ?_
  refine l_cV dX13_reports_25 rfl rfl rfl (l_xv cl_12_477 ko_mX13_tellsTwo rfl rfl rfl q8) rfl rfl nm_mX13_tellsTwo (xhE_th rfl) (fun h9 => ?_)
  refine l_loc dX13_reports_28 rfl rfl ?_
  refine l_loc dX13_reports_29 rfl rfl ?_
  refine l_gr dX13_reports_30 fl_12_176 (fun v11 => ?_)
  refine l_ic dX13_reports_33 kI_1 ?_
  refine l_ob fun q12 => ?_
  refine l_cV dX13_reports_34 rfl rfl rfl (l_xv cl_12_324 ko_mX13_tellsWord rfl rfl rfl q12) rfl rfl nm_mX13_tellsWord (xhE_th rfl) (fun h13 => ?_)
  refine l_loc dX13_reports_37 rfl rfl ?_
  refine l_loc dX13_reports_38 rfl rfl ?_
  refine l_gi dX13_reports_39 fl_12_384 (fun v15 => ?_)
  refine l_ob fun q16 => ?_
  refine l_cV dX13_reports_42 rfl rfl rfl (l_xv cl_12_328 ko_mX13_tellsNumber rfl rfl rfl q16) rfl rfl nm_mX13_tellsNumber (xhE_th rfl) (fun h17 => ?_)
  refine l_loc dX13_reports_45 rfl rfl ?_
  refine l_gi dX13_reports_46 fl_12_387 (fun v19 => ?_)
  refine l_ieq (t := 61) dX13_reports_49 rfl ?_ ?_
  · refine l_loc dX13_reports_61 rfl rfl ?_
    refine l_bi dX13_reports_62 kB_10 ?_
    refine l_ob fun q20 => ?_
    refine l_cV dX13_reports_64 rfl rfl rfl (l_xv cl_12_321 ko_mX13_tells rfl rfl rfl q20) rfl rfl nm_mX13_tells (xhE_th rfl) (fun h21 => ?_)
    refine l_loc dX13_reports_67 rfl rfl ?_
    refine l_loc dX13_reports_68 rfl rfl ?_
    refine l_gi dX13_reports_69 fl_12_467 (fun v23 => ?_)
    refine l_ob fun q24 => ?_
    refine l_cV dX13_reports_72 rfl rfl rfl (l_xv cl_12_328 ko_mX13_tellsNumber rfl rfl rfl q24) rfl rfl nm_mX13_tellsNumber (xhE_th rfl) (fun h25 => ?_)
    refine l_loc dX13_reports_75 rfl rfl ?_
    refine l_loc dX13_reports_76 rfl rfl ?_
    refine l_gr dX13_reports_77 fl_12_176 (fun v27 => ?_)
    refine l_ic dX13_reports_80 kI_3 ?_
    refine l_ob fun q28 => ?_
    refine l_cV dX13_reports_81 rfl rfl rfl (l_xv cl_12_324 ko_mX13_tellsWord rfl rfl rfl q28) rfl rfl nm_mX13_tellsWord (xhE_th rfl) (fun h29 => ?_)
    refine l_loc dX13_reports_84 rfl rfl ?_
    refine l_gi dX13_reports_85 fl_12_467 (fun v31 => ?_)
    refine l_ic dX13_reports_88 kI_1 ?_
    refine l_ceq (t := 98) dX13_reports_89 rfl ?_ ?_
    · refine l_loc dX13_reports_98 rfl rfl ?_
      refine l_bi dX13_reports_99 kB_10 ?_
      refine l_ob fun q32 => ?_
      refine l_cV dX13_reports_101 rfl rfl rfl (l_xv cl_12_321 ko_mX13_tells rfl rfl rfl q32) rfl rfl nm_mX13_tells (xhE_th rfl) (fun h33 => ?_)
      refine l_ic dX13_reports_104 kI_0 ?_
      refine l_loc (al1 := [(1, .int (0 : Int32)), (0, .ref x0)]) dX13_reports_105 rfl rfl ?_
      exact l_al rfl ⟨rfl, rfl, trivial⟩
    · refine l_loc dX13_reports_92 rfl rfl ?_
      refine l_bi dX13_reports_93 kB_115 ?_
      refine l_ob fun q35 => ?_
      refine l_cV dX13_reports_95 rfl rfl rfl (l_xv cl_12_321 ko_mX13_tells rfl rfl rfl q35) rfl rfl nm_mX13_tells (xhE_th rfl) (fun h36 => ?_)
      refine l_loc dX13_reports_98 rfl rfl ?_
      refine l_bi dX13_reports_99 kB_10 ?_
      refine l_ob fun q38 => ?_
      refine l_cV dX13_reports_101 rfl rfl rfl (l_xv cl_12_321 ko_mX13_tells rfl rfl rfl q38) rfl rfl nm_mX13_tells (xhE_th rfl) (fun h39 => ?_)
      refine l_ic dX13_reports_104 kI_0 ?_
      refine l_loc (al1 := [(1, .int (0 : Int32)), (0, .ref x0)]) dX13_reports_105 rfl rfl ?_
      exact l_al rfl ⟨rfl, rfl, trivial⟩
  · refine l_loc dX13_reports_52 rfl rfl ?_
    refine l_loc dX13_reports_53 rfl rfl ?_
    refine l_gr dX13_reports_54 fl_12_176 (fun v41 => ?_)
    refine l_ic dX13_reports_57 kI_2 ?_
    refine l_ob fun q42 => ?_
    refine l_cV dX13_reports_58 rfl rfl rfl (l_xv cl_12_324 ko_mX13_tellsWord rfl rfl rfl q42) rfl rfl nm_mX13_tellsWord (xhE_th rfl) (fun h43 => ?_)
    refine l_loc dX13_reports_61 rfl rfl ?_
    refine l_bi dX13_reports_62 kB_10 ?_
    refine l_ob fun q45 => ?_
    refine l_cV dX13_reports_64 rfl rfl rfl (l_xv cl_12_321 ko_mX13_tells rfl rfl rfl q45) rfl rfl nm_mX13_tells (xhE_th rfl) (fun h46 => ?_)
    refine l_loc dX13_reports_67 rfl rfl ?_
    refine l_loc dX13_reports_68 rfl rfl ?_
    refine l_gi dX13_reports_69 fl_12_467 (fun v48 => ?_)
    refine l_ob fun q49 => ?_
    refine l_cV dX13_reports_72 rfl rfl rfl (l_xv cl_12_328 ko_mX13_tellsNumber rfl rfl rfl q49) rfl rfl nm_mX13_tellsNumber (xhE_th rfl) (fun h50 => ?_)
    refine l_loc dX13_reports_75 rfl rfl ?_
    refine l_loc dX13_reports_76 rfl rfl ?_
    refine l_gr dX13_reports_77 fl_12_176 (fun v52 => ?_)
    refine l_ic dX13_reports_80 kI_3 ?_
    refine l_ob fun q53 => ?_
    refine l_cV dX13_reports_81 rfl rfl rfl (l_xv cl_12_324 ko_mX13_tellsWord rfl rfl rfl q53) rfl rfl nm_mX13_tellsWord (xhE_th rfl) (fun h54 => ?_)
    refine l_loc dX13_reports_84 rfl rfl ?_
    refine l_gi dX13_reports_85 fl_12_467 (fun v56 => ?_)
    refine l_ic dX13_reports_88 kI_1 ?_
    refine l_ceq (t := 98) dX13_reports_89 rfl ?_ ?_
    · refine l_loc dX13_reports_98 rfl rfl ?_
      refine l_bi dX13_reports_99 kB_10 ?_
      refine l_ob fun q57 => ?_
      refine l_cV dX13_reports_101 rfl rfl rfl (l_xv cl_12_321 ko_mX13_tells rfl rfl rfl q57) rfl rfl nm_mX13_tells (xhE_th rfl) (fun h58 => ?_)
      refine l_ic dX13_reports_104 kI_0 ?_
      refine l_loc (al1 := [(1, .int (0 : Int32)), (0, .ref x0)]) dX13_reports_105 rfl rfl ?_
      exact l_al rfl ⟨rfl, rfl, trivial⟩
    · refine l_loc dX13_reports_92 rfl rfl ?_
      refine l_bi dX13_reports_93 kB_115 ?_
      refine l_ob fun q60 => ?_
      refine l_cV dX13_reports_95 rfl rfl rfl (l_xv cl_12_321 ko_mX13_tells rfl rfl rfl q60) rfl rfl nm_mX13_tells (xhE_th rfl) (fun h61 => ?_)
      refine l_loc dX13_reports_98 rfl rfl ?_
      refine l_bi dX13_reports_99 kB_10 ?_
      refine l_ob fun q63 => ?_
      refine l_cV dX13_reports_101 rfl rfl rfl (l_xv cl_12_321 ko_mX13_tells rfl rfl rfl q63) rfl rfl nm_mX13_tells (xhE_th rfl) (fun h64 => ?_)
      refine l_ic dX13_reports_104 kI_0 ?_
      refine l_loc (al1 := [(1, .int (0 : Int32)), (0, .ref x0)]) dX13_reports_105 rfl rfl ?_
      exact l_al rfl ⟨rfl, rfl, trivial⟩
set_option maxRecDepth 16000 in
theorem w_X13_reports_106 (S : xS) (x0 : Nat) (x1 : Int32) (h : xH) : xle ((xGi h x0 12 79).bind fun v1 => if v1 ≤ x1 then (some (.inl none, h, 0, 0)) else ((xGr h x0 12 76).bind fun v2 => (xRi h 0 v2 x1).bind fun v3 => (xGr h x0 12 77).bind fun v4 => (xRi h 0 v4 x1).bind fun v5 => if xOb h x0 12 = true then xqV (xM S mX13_reportsOne [.ref x0, .int v3, .int v5] h) xth fun h7 => xlet (x1 + (1 : Int32)) fun v9 => (xden S mX13_reports 106 [(0, .ref x0), (1, .int v9)] [] h7) else none)) (xden S mX13_reports 106 [(0, .ref x0), (1, .int x1)] [] h) := by
  refine l_loc dX13_reports_106 rfl rfl ?_
  refine l_loc dX13_reports_107 rfl rfl ?_
  refine l_gi dX13_reports_108 fl_12_467 (fun v1 => ?_)
  refine l_cge (t := 136) dX13_reports_111 rfl ?_ ?_
  · exact l_end dX13_reports_136 rfl rfl
  · refine l_loc dX13_reports_114 rfl rfl ?_
    refine l_loc dX13_reports_115 rfl rfl ?_
    refine l_gr dX13_reports_116 fl_12_164 (fun v2 => ?_)
    refine l_loc dX13_reports_119 rfl rfl ?_
    refine l_ri dX13_reports_120 (fun v3 => ?_)
    refine l_loc dX13_reports_121 rfl rfl ?_
    refine l_gr dX13_reports_122 fl_12_167 (fun v4 => ?_)
    refine l_loc dX13_reports_125 rfl rfl ?_
    refine l_ri dX13_reports_126 (fun v5 => ?_)
    refine l_ob fun q6 => ?_
    refine l_cV dX13_reports_127 rfl rfl rfl (l_xv cl_12_481 ko_mX13_reportsOne rfl rfl rfl q6) rfl rfl nm_mX13_reportsOne (xhE_th rfl) (fun h7 => ?_)
    refine l_incl (al1 := fun v9 => [(1, .int v9), (0, .ref x0)]) dX13_reports_130 rfl kI_1 rfl (fun _ => rfl) (fun v9 => ?_)
    refine l_goto (t := 106) dX13_reports_133 rfl ?_
    exact l_al rfl ⟨rfl, rfl, trivial⟩
set_option maxRecDepth 16000 in
theorem w_X13_tellsTwo (S : xS) (x0 : Nat) (x1 : Int32) (x2 : Int32) (x3 : Int32) (h : xH) : xle (if xOb h x0 12 = true then xqV (xM S mX13_tellsNumber [.ref x0, .int x1] h) xth fun h2 => if xOb h2 x0 12 = true then xqV (xM S mX13_tells [.ref x0, .int x2] h2) xth fun h5 => if xOb h5 x0 12 = true then xqV (xM S mX13_tellsNumber [.ref x0, .int x3] h5) xth fun h8 => some (.inl none, h8, 0, 0) else none else none else none) (xM S mX13_tellsTwo [.ref x0, .int x1, .int x2, .int x3] h) := by
  show xle _ (xden S mX13_tellsTwo 0 [(0, .ref x0), (1, .int x1), (2, .int x2), (3, .int x3)] [] h)
  refine l_loc dX13_tellsTwo_0 rfl rfl ?_
  refine l_loc dX13_tellsTwo_1 rfl rfl ?_
  refine l_ob fun q1 => ?_
  refine l_cV dX13_tellsTwo_2 rfl rfl rfl (l_xv cl_12_328 ko_mX13_tellsNumber rfl rfl rfl q1) rfl rfl nm_mX13_tellsNumber (xhE_th rfl) (fun h2 => ?_)
  refine l_loc dX13_tellsTwo_5 rfl rfl ?_
  refine l_loc dX13_tellsTwo_6 rfl rfl ?_
  refine l_ob fun q4 => ?_
  refine l_cV dX13_tellsTwo_7 rfl rfl rfl (l_xv cl_12_321 ko_mX13_tells rfl rfl rfl q4) rfl rfl nm_mX13_tells (xhE_th rfl) (fun h5 => ?_)
  refine l_loc dX13_tellsTwo_10 rfl rfl ?_
  refine l_loc dX13_tellsTwo_11 rfl rfl ?_
  refine l_ob fun q7 => ?_
  refine l_cV dX13_tellsTwo_12 rfl rfl rfl (l_xv cl_12_328 ko_mX13_tellsNumber rfl rfl rfl q7) rfl rfl nm_mX13_tellsNumber (xhE_th rfl) (fun h8 => ?_)
  exact l_end dX13_tellsTwo_15 rfl rfl
set_option maxRecDepth 16000 in
theorem w_X13_reportsOne (S : xS) (x0 : Nat) (x1 : Int32) (x2 : Int32) (h : xH) : xle ((xGr h x0 12 81).bind fun v1 => if x2 < 0 then (if ¬ (x1 - x1 / (2 : Int32) * (2 : Int32)) = 0 then (if xOb h x0 12 = true then xqV (xM S mX13_tellsWord [.ref x0, .ref v1, .int (5 : Int32)] h) xth fun h3 => (xGr h3 x0 12 70).bind fun v5 => (xRi h3 0 v5 x1).bind fun v6 => if xOb h3 x0 12 = true then xqV (xM S mX13_tellsNumber [.ref x0, .int v6] h3) xth fun h8 => (xGr h8 x0 12 81).bind fun v10 => if x2 < 0 then (xden S mX13_reportsOne 54 [(0, .ref x0), (1, .int x1), (2, .int x2)] [.int (7 : Int32), .ref v10, .ref x0] h8) else (xden S mX13_reportsOne 54 [(0, .ref x0), (1, .int x1), (2, .int x2)] [.int (9 : Int32), .ref v10, .ref x0] h8) else none else none) else (if xOb h x0 12 = true then xqV (xM S mX13_tellsWord [.ref x0, .ref v1, .int (4 : Int32)] h) xth fun h12 => (xGr h12 x0 12 70).bind fun v14 => (xRi h12 0 v14 x1).bind fun v15 => if xOb h12 x0 12 = true then xqV (xM S mX13_tellsNumber [.ref x0, .int v15] h12) xth fun h17 => (xGr h17 x0 12 81).bind fun v19 => if x2 < 0 then (xden S mX13_reportsOne 54 [(0, .ref x0), (1, .int x1), (2, .int x2)] [.int (7 : Int32), .ref v19, .ref x0] h17) else (xden S mX13_reportsOne 54 [(0, .ref x0), (1, .int x1), (2, .int x2)] [.int (9 : Int32), .ref v19, .ref x0] h17) else none else none)) else (if xOb h x0 12 = true then xqV (xM S mX13_tellsWord [.ref x0, .ref v1, .int (6 : Int32)] h) xth fun h21 => (xGr h21 x0 12 70).bind fun v23 => (xRi h21 0 v23 x1).bind fun v24 => if xOb h21 x0 12 = true then xqV (xM S mX13_tellsNumber [.ref x0, .int v24] h21) xth fun h26 => (xGr h26 x0 12 81).bind fun v28 => if x2 < 0 then (xden S mX13_reportsOne 54 [(0, .ref x0), (1, .int x1), (2, .int x2)] [.int (7 : Int32), .ref v28, .ref x0] h26) else (xden S mX13_reportsOne 54 [(0, .ref x0), (1, .int x1), (2, .int x2)] [.int (9 : Int32), .ref v28, .ref x0] h26) else none else none)) (xM S mX13_reportsOne [.ref x0, .int x1, .int x2] h) := by
  show xle _ (xden S mX13_reportsOne 0 [(0, .ref x0), (1, .int x1), (2, .int x2)] [] h)
  refine l_loc dX13_reportsOne_0 rfl rfl ?_
  refine l_loc dX13_reportsOne_1 rfl rfl ?_
  refine l_gr dX13_reportsOne_2 fl_12_176 (fun v1 => ?_)
  refine l_loc dX13_reportsOne_5 rfl rfl ?_
  refine l_ilt (t := 14) dX13_reportsOne_6 rfl ?_ ?_
  · refine l_loc dX13_reportsOne_14 rfl rfl ?_
    refine l_ic dX13_reportsOne_15 kI_2 ?_
    refine l_remn dX13_reportsOne_16 (by decide) ?_
    refine l_ine (t := 24) dX13_reportsOne_17 rfl ?_ ?_
    · refine l_ic dX13_reportsOne_24 kI_5 ?_
      refine l_ob fun q2 => ?_
      refine l_cV dX13_reportsOne_25 rfl rfl rfl (l_xv cl_12_324 ko_mX13_tellsWord rfl rfl rfl q2) rfl rfl nm_mX13_tellsWord (xhE_th rfl) (fun h3 => ?_)
      refine l_loc dX13_reportsOne_28 rfl rfl ?_
      refine l_loc dX13_reportsOne_29 rfl rfl ?_
      refine l_gr dX13_reportsOne_30 fl_12_146 (fun v5 => ?_)
      refine l_loc dX13_reportsOne_33 rfl rfl ?_
      refine l_ri dX13_reportsOne_34 (fun v6 => ?_)
      refine l_ob fun q7 => ?_
      refine l_cV dX13_reportsOne_35 rfl rfl rfl (l_xv cl_12_328 ko_mX13_tellsNumber rfl rfl rfl q7) rfl rfl nm_mX13_tellsNumber (xhE_th rfl) (fun h8 => ?_)
      refine l_loc dX13_reportsOne_38 rfl rfl ?_
      refine l_loc dX13_reportsOne_39 rfl rfl ?_
      refine l_gr dX13_reportsOne_40 fl_12_176 (fun v10 => ?_)
      refine l_loc dX13_reportsOne_43 rfl rfl ?_
      refine l_ilt (t := 52) dX13_reportsOne_44 rfl ?_ ?_
      · refine l_bi dX13_reportsOne_52 kB_7 ?_
        exact l_al rfl ⟨rfl, rfl, rfl, trivial⟩
      · refine l_bi dX13_reportsOne_47 kB_9 ?_
        refine l_goto (t := 54) dX13_reportsOne_49 rfl ?_
        exact l_al rfl ⟨rfl, rfl, rfl, trivial⟩
    · refine l_ic dX13_reportsOne_20 kI_4 ?_
      refine l_goto (t := 25) dX13_reportsOne_21 rfl ?_
      refine l_ob fun q11 => ?_
      refine l_cV dX13_reportsOne_25 rfl rfl rfl (l_xv cl_12_324 ko_mX13_tellsWord rfl rfl rfl q11) rfl rfl nm_mX13_tellsWord (xhE_th rfl) (fun h12 => ?_)
      refine l_loc dX13_reportsOne_28 rfl rfl ?_
      refine l_loc dX13_reportsOne_29 rfl rfl ?_
      refine l_gr dX13_reportsOne_30 fl_12_146 (fun v14 => ?_)
      refine l_loc dX13_reportsOne_33 rfl rfl ?_
      refine l_ri dX13_reportsOne_34 (fun v15 => ?_)
      refine l_ob fun q16 => ?_
      refine l_cV dX13_reportsOne_35 rfl rfl rfl (l_xv cl_12_328 ko_mX13_tellsNumber rfl rfl rfl q16) rfl rfl nm_mX13_tellsNumber (xhE_th rfl) (fun h17 => ?_)
      refine l_loc dX13_reportsOne_38 rfl rfl ?_
      refine l_loc dX13_reportsOne_39 rfl rfl ?_
      refine l_gr dX13_reportsOne_40 fl_12_176 (fun v19 => ?_)
      refine l_loc dX13_reportsOne_43 rfl rfl ?_
      refine l_ilt (t := 52) dX13_reportsOne_44 rfl ?_ ?_
      · refine l_bi dX13_reportsOne_52 kB_7 ?_
        exact l_al rfl ⟨rfl, rfl, rfl, trivial⟩
      · refine l_bi dX13_reportsOne_47 kB_9 ?_
        refine l_goto (t := 54) dX13_reportsOne_49 rfl ?_
        exact l_al rfl ⟨rfl, rfl, rfl, trivial⟩
  · refine l_bi dX13_reportsOne_9 kB_6 ?_
    refine l_goto (t := 25) dX13_reportsOne_11 rfl ?_
    refine l_ob fun q20 => ?_
    refine l_cV dX13_reportsOne_25 rfl rfl rfl (l_xv cl_12_324 ko_mX13_tellsWord rfl rfl rfl q20) rfl rfl nm_mX13_tellsWord (xhE_th rfl) (fun h21 => ?_)
    refine l_loc dX13_reportsOne_28 rfl rfl ?_
    refine l_loc dX13_reportsOne_29 rfl rfl ?_
    refine l_gr dX13_reportsOne_30 fl_12_146 (fun v23 => ?_)
    refine l_loc dX13_reportsOne_33 rfl rfl ?_
    refine l_ri dX13_reportsOne_34 (fun v24 => ?_)
    refine l_ob fun q25 => ?_
    refine l_cV dX13_reportsOne_35 rfl rfl rfl (l_xv cl_12_328 ko_mX13_tellsNumber rfl rfl rfl q25) rfl rfl nm_mX13_tellsNumber (xhE_th rfl) (fun h26 => ?_)
    refine l_loc dX13_reportsOne_38 rfl rfl ?_
    refine l_loc dX13_reportsOne_39 rfl rfl ?_
    refine l_gr dX13_reportsOne_40 fl_12_176 (fun v28 => ?_)
    refine l_loc dX13_reportsOne_43 rfl rfl ?_
    refine l_ilt (t := 52) dX13_reportsOne_44 rfl ?_ ?_
    · refine l_bi dX13_reportsOne_52 kB_7 ?_
      exact l_al rfl ⟨rfl, rfl, rfl, trivial⟩
    · refine l_bi dX13_reportsOne_47 kB_9 ?_
      refine l_goto (t := 54) dX13_reportsOne_49 rfl ?_
      exact l_al rfl ⟨rfl, rfl, rfl, trivial⟩
set_option maxRecDepth 16000 in
theorem w_X13_reportsOne_54 (S : xS) (x0 : Nat) (x1 : Int32) (x2 : Int32) (z0 : Int32) (z1 : Nat) (z2 : Nat) (h : xH) : xle (if xOb h z2 12 = true then xqV (xM S mX13_tellsWord [.ref z2, .ref z1, .int z0] h) xth fun h2 => (xGr h2 x0 12 71).bind fun v4 => (xRi h2 0 v4 x1).bind fun v5 => (xGr h2 x0 12 72).bind fun v6 => (xRi h2 0 v6 x1).bind fun v7 => if xOb h2 x0 12 = true then xqV (xM S mX13_tellsTwo [.ref x0, .int v5, .int (44 : Int32), .int v7] h2) xth fun h9 => if x2 < 0 then (xden S mX13_reportsOne 107 [(0, .ref x0), (1, .int x1)] [] h9) else ((xGr h9 x0 12 81).bind fun v11 => if xOb h9 x0 12 = true then xqV (xM S mX13_tellsWord [.ref x0, .ref v11, .int (10 : Int32)] h9) xth fun h13 => (xGr h13 x0 12 71).bind fun v15 => (xRi h13 0 v15 x2).bind fun v16 => (xGr h13 x0 12 72).bind fun v17 => (xRi h13 0 v17 x2).bind fun v18 => if xOb h13 x0 12 = true then xqV (xM S mX13_tellsTwo [.ref x0, .int v16, .int (44 : Int32), .int v18] h13) xth fun h20 => (xden S mX13_reportsOne 107 [(0, .ref x0), (1, .int x1)] [] h20) else none else none) else none else none) (xden S mX13_reportsOne 54 [(0, .ref x0), (1, .int x1), (2, .int x2)] [.int z0, .ref z1, .ref z2] h) := by
  refine l_ob fun q1 => ?_
  refine l_cV dX13_reportsOne_54 rfl rfl rfl (l_xv cl_12_324 ko_mX13_tellsWord rfl rfl rfl q1) rfl rfl nm_mX13_tellsWord (xhE_th rfl) (fun h2 => ?_)
  refine l_loc dX13_reportsOne_57 rfl rfl ?_
  refine l_loc dX13_reportsOne_58 rfl rfl ?_
  refine l_gr dX13_reportsOne_59 fl_12_149 (fun v4 => ?_)
  refine l_loc dX13_reportsOne_62 rfl rfl ?_
  refine l_ri dX13_reportsOne_63 (fun v5 => ?_)
  refine l_bi dX13_reportsOne_64 kB_44 ?_
  refine l_loc dX13_reportsOne_66 rfl rfl ?_
  refine l_gr dX13_reportsOne_67 fl_12_152 (fun v6 => ?_)
  refine l_loc dX13_reportsOne_70 rfl rfl ?_
  refine l_ri dX13_reportsOne_71 (fun v7 => ?_)
  refine l_ob fun q8 => ?_
  refine l_cV dX13_reportsOne_72 rfl rfl rfl (l_xv cl_12_477 ko_mX13_tellsTwo rfl rfl rfl q8) rfl rfl nm_mX13_tellsTwo (xhE_th rfl) (fun h9 => ?_)
  refine l_loc dX13_reportsOne_75 rfl rfl ?_
  refine l_ilt (t := 107) dX13_reportsOne_76 rfl ?_ ?_
  · exact l_al rfl ⟨rfl, rfl, trivial⟩
  · refine l_loc dX13_reportsOne_79 rfl rfl ?_
    refine l_loc dX13_reportsOne_80 rfl rfl ?_
    refine l_gr dX13_reportsOne_81 fl_12_176 (fun v11 => ?_)
    refine l_bi dX13_reportsOne_84 kB_10 ?_
    refine l_ob fun q12 => ?_
    refine l_cV dX13_reportsOne_86 rfl rfl rfl (l_xv cl_12_324 ko_mX13_tellsWord rfl rfl rfl q12) rfl rfl nm_mX13_tellsWord (xhE_th rfl) (fun h13 => ?_)
    refine l_loc dX13_reportsOne_89 rfl rfl ?_
    refine l_loc dX13_reportsOne_90 rfl rfl ?_
    refine l_gr dX13_reportsOne_91 fl_12_149 (fun v15 => ?_)
    refine l_loc dX13_reportsOne_94 rfl rfl ?_
    refine l_ri dX13_reportsOne_95 (fun v16 => ?_)
    refine l_bi dX13_reportsOne_96 kB_44 ?_
    refine l_loc dX13_reportsOne_98 rfl rfl ?_
    refine l_gr dX13_reportsOne_99 fl_12_152 (fun v17 => ?_)
    refine l_loc dX13_reportsOne_102 rfl rfl ?_
    refine l_ri dX13_reportsOne_103 (fun v18 => ?_)
    refine l_ob fun q19 => ?_
    refine l_cV dX13_reportsOne_104 rfl rfl rfl (l_xv cl_12_477 ko_mX13_tellsTwo rfl rfl rfl q19) rfl rfl nm_mX13_tellsTwo (xhE_th rfl) (fun h20 => ?_)
    exact l_al rfl ⟨rfl, rfl, trivial⟩
set_option maxRecDepth 16000 in
theorem w_X13_reportsOne_107 (S : xS) (x0 : Nat) (x1 : Int32) (h : xH) : xle ((xGr h x0 12 81).bind fun v1 => if xOb h x0 12 = true then xqV (xM S mX13_tellsWord [.ref x0, .ref v1, .int (8 : Int32)] h) xth fun h3 => if xOb h3 x0 12 = true then xqI (xM S mX13_widthOf [.ref x0, .int x1] h3) xth fun v7 h6 => if xOb h6 x0 12 = true then xqI (xM S mX13_heightOf [.ref x0, .int x1] h6) xth fun v10 h9 => if xOb h9 x0 12 = true then xqV (xM S mX13_tellsTwo [.ref x0, .int v7, .int (120 : Int32), .int v10] h9) xth fun h12 => if xOb h12 x0 12 = true then xqI (xM S mX13_stampFor [.ref x0, .int x1] h12) xth fun v16 h15 => if v16 < 0 then (if xOb h15 x0 12 = true then xqV (xM S mX13_tells [.ref x0, .int (10 : Int32)] h15) xth fun h18 => some (.inl none, h18, 0, 0) else none) else ((xGr h15 x0 12 81).bind fun v20 => if xOb h15 x0 12 = true then xqV (xM S mX13_tellsWord [.ref x0, .ref v20, .int (11 : Int32)] h15) xth fun h22 => if xOb h22 x0 12 = true then xqV (xM S mX13_tellsNumber [.ref x0, .int v16] h22) xth fun h25 => if xOb h25 x0 12 = true then xqV (xM S mX13_tells [.ref x0, .int (10 : Int32)] h25) xth fun h28 => some (.inl none, h28, 0, 0) else none else none else none) else none else none else none else none else none) (xden S mX13_reportsOne 107 [(0, .ref x0), (1, .int x1)] [] h) := by
  refine l_loc dX13_reportsOne_107 rfl rfl ?_
  refine l_loc dX13_reportsOne_108 rfl rfl ?_
  refine l_gr dX13_reportsOne_109 fl_12_176 (fun v1 => ?_)
  refine l_bi dX13_reportsOne_112 kB_8 ?_
  refine l_ob fun q2 => ?_
  refine l_cV dX13_reportsOne_114 rfl rfl rfl (l_xv cl_12_324 ko_mX13_tellsWord rfl rfl rfl q2) rfl rfl nm_mX13_tellsWord (xhE_th rfl) (fun h3 => ?_)
  refine l_loc dX13_reportsOne_117 rfl rfl ?_
  refine l_loc dX13_reportsOne_118 rfl rfl ?_
  refine l_loc dX13_reportsOne_119 rfl rfl ?_
  refine l_ob fun q5 => ?_
  refine l_cI dX13_reportsOne_120 rfl rfl rfl (l_xv cl_12_452 ko_mX13_widthOf rfl rfl rfl q5) rfl rfl nm_mX13_widthOf (xhE_th rfl) (fun v7 h6 => ?_)
  refine l_bi dX13_reportsOne_123 kB_120 ?_
  refine l_loc dX13_reportsOne_125 rfl rfl ?_
  refine l_loc dX13_reportsOne_126 rfl rfl ?_
  refine l_ob fun q8 => ?_
  refine l_cI dX13_reportsOne_127 rfl rfl rfl (l_xv cl_12_455 ko_mX13_heightOf rfl rfl rfl q8) rfl rfl nm_mX13_heightOf (xhE_th rfl) (fun v10 h9 => ?_)
  refine l_ob fun q11 => ?_
  refine l_cV dX13_reportsOne_130 rfl rfl rfl (l_xv cl_12_477 ko_mX13_tellsTwo rfl rfl rfl q11) rfl rfl nm_mX13_tellsTwo (xhE_th rfl) (fun h12 => ?_)
  refine l_loc dX13_reportsOne_133 rfl rfl ?_
  refine l_loc dX13_reportsOne_134 rfl rfl ?_
  refine l_ob fun q14 => ?_
  refine l_cI dX13_reportsOne_135 rfl rfl rfl (l_xv cl_12_464 ko_mX13_stampFor rfl rfl rfl q14) rfl rfl nm_mX13_stampFor (xhE_th rfl) (fun v16 h15 => ?_)
  refine l_loc (al1 := [(3, .int v16), (0, .ref x0), (1, .int x1)]) dX13_reportsOne_138 rfl rfl ?_
  refine l_loc dX13_reportsOne_139 rfl rfl ?_
  refine l_ilt (t := 158) dX13_reportsOne_140 rfl ?_ ?_
  · refine l_loc dX13_reportsOne_158 rfl rfl ?_
    refine l_bi dX13_reportsOne_159 kB_10 ?_
    refine l_ob fun q17 => ?_
    refine l_cV dX13_reportsOne_161 rfl rfl rfl (l_xv cl_12_321 ko_mX13_tells rfl rfl rfl q17) rfl rfl nm_mX13_tells (xhE_th rfl) (fun h18 => ?_)
    exact l_end dX13_reportsOne_164 rfl rfl
  · refine l_loc dX13_reportsOne_143 rfl rfl ?_
    refine l_loc dX13_reportsOne_144 rfl rfl ?_
    refine l_gr dX13_reportsOne_145 fl_12_176 (fun v20 => ?_)
    refine l_bi dX13_reportsOne_148 kB_11 ?_
    refine l_ob fun q21 => ?_
    refine l_cV dX13_reportsOne_150 rfl rfl rfl (l_xv cl_12_324 ko_mX13_tellsWord rfl rfl rfl q21) rfl rfl nm_mX13_tellsWord (xhE_th rfl) (fun h22 => ?_)
    refine l_loc dX13_reportsOne_153 rfl rfl ?_
    refine l_loc dX13_reportsOne_154 rfl rfl ?_
    refine l_ob fun q24 => ?_
    refine l_cV dX13_reportsOne_155 rfl rfl rfl (l_xv cl_12_328 ko_mX13_tellsNumber rfl rfl rfl q24) rfl rfl nm_mX13_tellsNumber (xhE_th rfl) (fun h25 => ?_)
    refine l_loc dX13_reportsOne_158 rfl rfl ?_
    refine l_bi dX13_reportsOne_159 kB_10 ?_
    refine l_ob fun q27 => ?_
    refine l_cV dX13_reportsOne_161 rfl rfl rfl (l_xv cl_12_321 ko_mX13_tells rfl rfl rfl q27) rfl rfl nm_mX13_tells (xhE_th rfl) (fun h28 => ?_)
    exact l_end dX13_reportsOne_164 rfl rfl
set_option maxRecDepth 16000 in
theorem w_X13_shiftX (S : xS) (x0 : Nat) (h : xH) : xle ((xGi h x0 12 41).bind fun v1 => if xOb h x0 12 = true then xqI (xM S mX13_told [.ref x0, .int v1] h) xth fun v4 h3 => some (.inl (some (.int v4)), h3, 0, 0) else none) (xM S mX13_shiftX [.ref x0] h) := by
  show xle _ (xden S mX13_shiftX 0 [(0, .ref x0)] [] h)
  refine l_loc dX13_shiftX_0 rfl rfl ?_
  refine l_loc dX13_shiftX_1 rfl rfl ?_
  refine l_gi dX13_shiftX_2 fl_12_378 (fun v1 => ?_)
  refine l_ob fun q2 => ?_
  refine l_cI dX13_shiftX_5 rfl rfl rfl (l_xv cl_12_505 ko_mX13_told rfl rfl rfl q2) rfl rfl nm_mX13_told (xhE_th rfl) (fun v4 h3 => ?_)
  exact l_iretn dX13_shiftX_8 rfl (by rfl)
set_option maxRecDepth 16000 in
theorem w_X13_told (S : xS) (x0 : Nat) (x1 : Int32) (h : xH) : xle ((xGi h x0 12 35).bind fun v1 => if v1 = 0 then ((xP false 12 h x0 12 2 (.int (1 : Int32))).bind fun h2 => (xGi h2 x0 12 35).bind fun v3 => if v3 = 0 then (some (.inl (some (.int (0 : Int32))), h2, 0, 0)) else (some (.inl (some (.int x1)), h2, 0, 0))) else ((xP false 12 h x0 12 2 (.int (0 : Int32))).bind fun h4 => (xGi h4 x0 12 35).bind fun v5 => if v5 = 0 then (some (.inl (some (.int (0 : Int32))), h4, 0, 0)) else (some (.inl (some (.int x1)), h4, 0, 0)))) (xM S mX13_told [.ref x0, .int x1] h) := by
  show xle _ (xden S mX13_told 0 [(0, .ref x0), (1, .int x1)] [] h)
  refine l_loc dX13_told_0 rfl rfl ?_
  refine l_loc dX13_told_1 rfl rfl ?_
  refine l_gi dX13_told_2 fl_12_502 (fun v1 => ?_)
  refine l_ieq (t := 12) dX13_told_5 rfl ?_ ?_
  · refine l_ic dX13_told_12 kI_1 ?_
    refine l_pf dX13_told_13 fl_12_186 (ini := false) nm_mX13_told (fun h2 => ?_)
    refine l_loc dX13_told_16 rfl rfl ?_
    refine l_gi dX13_told_17 fl_12_502 (fun v3 => ?_)
    refine l_ieq (t := 27) dX13_told_20 rfl ?_ ?_
    · refine l_ic dX13_told_27 kI_0 ?_
      exact l_iretn dX13_told_28 rfl (by rfl)
    · refine l_loc dX13_told_23 rfl rfl ?_
      refine l_goto (t := 28) dX13_told_24 rfl ?_
      exact l_iretn dX13_told_28 rfl (by rfl)
  · refine l_ic dX13_told_8 kI_0 ?_
    refine l_goto (t := 13) dX13_told_9 rfl ?_
    refine l_pf dX13_told_13 fl_12_186 (ini := false) nm_mX13_told (fun h4 => ?_)
    refine l_loc dX13_told_16 rfl rfl ?_
    refine l_gi dX13_told_17 fl_12_502 (fun v5 => ?_)
    refine l_ieq (t := 27) dX13_told_20 rfl ?_ ?_
    · refine l_ic dX13_told_27 kI_0 ?_
      exact l_iretn dX13_told_28 rfl (by rfl)
    · refine l_loc dX13_told_23 rfl rfl ?_
      refine l_goto (t := 28) dX13_told_24 rfl ?_
      exact l_iretn dX13_told_28 rfl (by rfl)
set_option maxRecDepth 16000 in
theorem w_X13_shiftY (S : xS) (x0 : Nat) (h : xH) : xle ((xGi h x0 12 42).bind fun v1 => if xOb h x0 12 = true then xqI (xM S mX13_told [.ref x0, .int v1] h) xth fun v4 h3 => some (.inl (some (.int v4)), h3, 0, 0) else none) (xM S mX13_shiftY [.ref x0] h) := by
  show xle _ (xden S mX13_shiftY 0 [(0, .ref x0)] [] h)
  refine l_loc dX13_shiftY_0 rfl rfl ?_
  refine l_loc dX13_shiftY_1 rfl rfl ?_
  refine l_gi dX13_shiftY_2 fl_12_381 (fun v1 => ?_)
  refine l_ob fun q2 => ?_
  refine l_cI dX13_shiftY_5 rfl rfl rfl (l_xv cl_12_505 ko_mX13_told rfl rfl rfl q2) rfl rfl nm_mX13_told (xhE_th rfl) (fun v4 h3 => ?_)
  exact l_iretn dX13_shiftY_8 rfl (by rfl)
set_option maxRecDepth 16000 in
theorem w_X13_skew (S : xS) (x0 : Nat) (h : xH) : xle ((xGi h x0 12 43).bind fun v1 => if xOb h x0 12 = true then xqI (xM S mX13_told [.ref x0, .int v1] h) xth fun v4 h3 => some (.inl (some (.int v4)), h3, 0, 0) else none) (xM S mX13_skew [.ref x0] h) := by
  show xle _ (xden S mX13_skew 0 [(0, .ref x0)] [] h)
  refine l_loc dX13_skew_0 rfl rfl ?_
  refine l_loc dX13_skew_1 rfl rfl ?_
  refine l_gi dX13_skew_2 fl_12_384 (fun v1 => ?_)
  refine l_ob fun q2 => ?_
  refine l_cI dX13_skew_5 rfl rfl rfl (l_xv cl_12_505 ko_mX13_told rfl rfl rfl q2) rfl rfl nm_mX13_told (xhE_th rfl) (fun v4 h3 => ?_)
  exact l_iretn dX13_skew_8 rfl (by rfl)
set_option maxRecDepth 16000 in
theorem w_X13_turned (S : xS) (x0 : Nat) (h : xH) : xle ((xGi h x0 12 44).bind fun v1 => if v1 = 0 then (if xOb h x0 12 = true then xqI (xM S mX13_told [.ref x0, .int (0 : Int32)] h) xth fun v4 h3 => if ¬ v4 = (1 : Int32) then (some (.inl (some (.int (0 : Int32))), h3, 0, 0)) else (some (.inl (some (.int (1 : Int32))), h3, 0, 0)) else none) else (if xOb h x0 12 = true then xqI (xM S mX13_told [.ref x0, .int (1 : Int32)] h) xth fun v7 h6 => if ¬ v7 = (1 : Int32) then (some (.inl (some (.int (0 : Int32))), h6, 0, 0)) else (some (.inl (some (.int (1 : Int32))), h6, 0, 0)) else none)) (xM S mX13_turned [.ref x0] h) := by
  show xle _ (xden S mX13_turned 0 [(0, .ref x0)] [] h)
  refine l_loc dX13_turned_0 rfl rfl ?_
  refine l_loc dX13_turned_1 rfl rfl ?_
  refine l_gi dX13_turned_2 fl_12_387 (fun v1 => ?_)
  refine l_ieq (t := 12) dX13_turned_5 rfl ?_ ?_
  · refine l_ic dX13_turned_12 kI_0 ?_
    refine l_ob fun q2 => ?_
    refine l_cI dX13_turned_13 rfl rfl rfl (l_xv cl_12_505 ko_mX13_told rfl rfl rfl q2) rfl rfl nm_mX13_told (xhE_th rfl) (fun v4 h3 => ?_)
    refine l_ic dX13_turned_16 kI_1 ?_
    refine l_cne (t := 24) dX13_turned_17 rfl ?_ ?_
    · refine l_ic dX13_turned_24 kI_0 ?_
      exact l_iretn dX13_turned_25 rfl (by decide)
    · refine l_ic dX13_turned_20 kI_1 ?_
      refine l_goto (t := 25) dX13_turned_21 rfl ?_
      exact l_iretn dX13_turned_25 rfl (by decide)
  · refine l_ic dX13_turned_8 kI_1 ?_
    refine l_goto (t := 13) dX13_turned_9 rfl ?_
    refine l_ob fun q5 => ?_
    refine l_cI dX13_turned_13 rfl rfl rfl (l_xv cl_12_505 ko_mX13_told rfl rfl rfl q5) rfl rfl nm_mX13_told (xhE_th rfl) (fun v7 h6 => ?_)
    refine l_ic dX13_turned_16 kI_1 ?_
    refine l_cne (t := 24) dX13_turned_17 rfl ?_ ?_
    · refine l_ic dX13_turned_24 kI_0 ?_
      exact l_iretn dX13_turned_25 rfl (by decide)
    · refine l_ic dX13_turned_20 kI_1 ?_
      refine l_goto (t := 25) dX13_turned_21 rfl ?_
      exact l_iretn dX13_turned_25 rfl (by decide)
set_option maxRecDepth 16000 in
theorem w_X13_mismatch (S : xS) (x0 : Nat) (h : xH) : xle ((xGi h x0 12 45).bind fun v1 => if xOb h x0 12 = true then xqI (xM S mX13_told [.ref x0, .int v1] h) xth fun v4 h3 => some (.inl (some (.int v4)), h3, 0, 0) else none) (xM S mX13_mismatch [.ref x0] h) := by
  show xle _ (xden S mX13_mismatch 0 [(0, .ref x0)] [] h)
  refine l_loc dX13_mismatch_0 rfl rfl ?_
  refine l_loc dX13_mismatch_1 rfl rfl ?_
  refine l_gi dX13_mismatch_2 fl_12_365 (fun v1 => ?_)
  refine l_ob fun q2 => ?_
  refine l_cI dX13_mismatch_5 rfl rfl rfl (l_xv cl_12_505 ko_mX13_told rfl rfl rfl q2) rfl rfl nm_mX13_told (xhE_th rfl) (fun v4 h3 => ?_)
  exact l_iretn dX13_mismatch_8 rfl (by rfl)
set_option maxRecDepth 16000 in
theorem w_X13_similarity (S : xS) (x0 : Nat) (h : xH) : xle ((xGi h x0 12 0).bind fun v1 => (xGi h x0 12 1).bind fun v2 => (xGi h x0 12 45).bind fun v3 => (xGi h x0 12 0).bind fun v4 => (xGi h x0 12 1).bind fun v5 => if (v4 * v5) = 0 then none else if xOb h x0 12 = true then xqI (xM S mX13_told [.ref x0, .int ((((v1 * v2) - v3) * (1000 : Int32)) / (v4 * v5))] h) xth fun v8 h7 => some (.inl (some (.int v8)), h7, 0, 0) else none) (xM S mX13_similarity [.ref x0] h) := by
  show xle _ (xden S mX13_similarity 0 [(0, .ref x0)] [] h)
  refine l_loc dX13_similarity_0 rfl rfl ?_
  refine l_loc dX13_similarity_1 rfl rfl ?_
  refine l_gi dX13_similarity_2 fl_12_179 (fun v1 => ?_)
  refine l_loc dX13_similarity_5 rfl rfl ?_
  refine l_gi dX13_similarity_6 fl_12_183 (fun v2 => ?_)
  refine l_pure dX13_similarity_9 rfl rfl ?_
  refine l_loc dX13_similarity_10 rfl rfl ?_
  refine l_gi dX13_similarity_11 fl_12_365 (fun v3 => ?_)
  refine l_pure dX13_similarity_14 rfl rfl ?_
  refine l_si dX13_similarity_15 kS_1000 ?_
  refine l_pure dX13_similarity_18 rfl rfl ?_
  refine l_loc dX13_similarity_19 rfl rfl ?_
  refine l_gi dX13_similarity_20 fl_12_179 (fun v4 => ?_)
  refine l_loc dX13_similarity_23 rfl rfl ?_
  refine l_gi dX13_similarity_24 fl_12_183 (fun v5 => ?_)
  refine l_pure dX13_similarity_27 rfl rfl ?_
  refine l_div dX13_similarity_28 ?_
  refine l_ob fun q6 => ?_
  refine l_cI dX13_similarity_29 rfl rfl rfl (l_xv cl_12_505 ko_mX13_told rfl rfl rfl q6) rfl rfl nm_mX13_told (xhE_th rfl) (fun v8 h7 => ?_)
  exact l_iretn dX13_similarity_32 rfl (by rfl)
set_option maxRecDepth 16000 in
theorem w_X13_mismatchAt (S : xS) (x0 : Nat) (x1 : Int32) (x2 : Int32) (h : xH) : xle ((xP false 12 h x0 12 2 (.int (0 : Int32))).bind fun h1 => (xGi h1 x0 12 35).bind fun v2 => if ¬ v2 = 0 then (xqI (xM S mX13_size [.int x1] h1) xth fun v4 h3 => if (16 : Int32) < v4 then (if xOb h3 x0 12 = true then xqI (xM S mX13_fails [.ref x0, .int (2 : Int32)] h3) xth fun v7 h6 => some (.inl (some (.int v7)), h6, 0, 0) else none) else (xqI (xM S mX13_size [.int x2] h3) xth fun v9 h8 => if (16 : Int32) < v9 then (if xOb h8 x0 12 = true then xqI (xM S mX13_fails [.ref x0, .int (2 : Int32)] h8) xth fun v12 h11 => some (.inl (some (.int v12)), h11, 0, 0) else none) else (if x1 < (-16 : Int32) then (if xOb h8 x0 12 = true then xqI (xM S mX13_fails [.ref x0, .int (2 : Int32)] h8) xth fun v15 h14 => some (.inl (some (.int v15)), h14, 0, 0) else none) else (if (-16 : Int32) ≤ x2 then ((xGr h8 x0 12 40).bind fun v16 => if xOb h8 x0 12 = true then xqI (xM S mX13_differ [.ref x0, .ref v16, .int x1, .int x2] h8) xth fun v19 h18 => some (.inl (some (.int v19)), h18, 0, 0) else none) else (if xOb h8 x0 12 = true then xqI (xM S mX13_fails [.ref x0, .int (2 : Int32)] h8) xth fun v22 h21 => some (.inl (some (.int v22)), h21, 0, 0) else none))))) else (if xOb h1 x0 12 = true then xqI (xM S mX13_fails [.ref x0, .int (1 : Int32)] h1) xth fun v25 h24 => some (.inl (some (.int v25)), h24, 0, 0) else none)) (xM S mX13_mismatchAt [.ref x0, .int x1, .int x2] h) := by
  show xle _ (xden S mX13_mismatchAt 0 [(0, .ref x0), (1, .int x1), (2, .int x2)] [] h)
  refine l_loc dX13_mismatchAt_0 rfl rfl ?_
  refine l_ic dX13_mismatchAt_1 kI_0 ?_
  refine l_pf dX13_mismatchAt_2 fl_12_186 (ini := false) nm_mX13_mismatchAt (fun h1 => ?_)
  refine l_loc dX13_mismatchAt_5 rfl rfl ?_
  refine l_gi dX13_mismatchAt_6 fl_12_502 (fun v2 => ?_)
  refine l_ine (t := 18) dX13_mismatchAt_9 rfl ?_ ?_
  · refine l_loc dX13_mismatchAt_18 rfl rfl ?_
    refine l_cI dX13_mismatchAt_19 rfl rfl rfl (l_xs cl_12_340 ko_mX13_size rfl rfl) rfl rfl nm_mX13_size (xhE_th rfl) (fun v4 h3 => ?_)
    refine l_bi dX13_mismatchAt_22 kB_16 ?_
    refine l_cgt (t := 48) dX13_mismatchAt_24 rfl ?_ ?_
    · refine l_loc dX13_mismatchAt_48 rfl rfl ?_
      refine l_ic dX13_mismatchAt_49 kI_2 ?_
      refine l_ob fun q5 => ?_
      refine l_cI dX13_mismatchAt_50 rfl rfl rfl (l_xv cl_12_206 ko_mX13_fails rfl rfl rfl q5) rfl rfl nm_mX13_fails (xhE_th rfl) (fun v7 h6 => ?_)
      exact l_iretn dX13_mismatchAt_53 rfl (by rfl)
    · refine l_loc dX13_mismatchAt_27 rfl rfl ?_
      refine l_cI dX13_mismatchAt_28 rfl rfl rfl (l_xs cl_12_340 ko_mX13_size rfl rfl) rfl rfl nm_mX13_size (xhE_th rfl) (fun v9 h8 => ?_)
      refine l_bi dX13_mismatchAt_31 kB_16 ?_
      refine l_cgt (t := 48) dX13_mismatchAt_33 rfl ?_ ?_
      · refine l_loc dX13_mismatchAt_48 rfl rfl ?_
        refine l_ic dX13_mismatchAt_49 kI_2 ?_
        refine l_ob fun q10 => ?_
        refine l_cI dX13_mismatchAt_50 rfl rfl rfl (l_xv cl_12_206 ko_mX13_fails rfl rfl rfl q10) rfl rfl nm_mX13_fails (xhE_th rfl) (fun v12 h11 => ?_)
        exact l_iretn dX13_mismatchAt_53 rfl (by rfl)
      · refine l_loc dX13_mismatchAt_36 rfl rfl ?_
        refine l_bi dX13_mismatchAt_37 kB_m16 ?_
        refine l_clt (t := 48) dX13_mismatchAt_39 rfl ?_ ?_
        · refine l_loc dX13_mismatchAt_48 rfl rfl ?_
          refine l_ic dX13_mismatchAt_49 kI_2 ?_
          refine l_ob fun q13 => ?_
          refine l_cI dX13_mismatchAt_50 rfl rfl rfl (l_xv cl_12_206 ko_mX13_fails rfl rfl rfl q13) rfl rfl nm_mX13_fails (xhE_th rfl) (fun v15 h14 => ?_)
          exact l_iretn dX13_mismatchAt_53 rfl (by rfl)
        · refine l_loc dX13_mismatchAt_42 rfl rfl ?_
          refine l_bi dX13_mismatchAt_43 kB_m16 ?_
          refine l_cge (t := 54) dX13_mismatchAt_45 rfl ?_ ?_
          · refine l_loc dX13_mismatchAt_54 rfl rfl ?_
            refine l_loc dX13_mismatchAt_55 rfl rfl ?_
            refine l_gr dX13_mismatchAt_56 fl_12_95 (fun v16 => ?_)
            refine l_loc dX13_mismatchAt_59 rfl rfl ?_
            refine l_loc dX13_mismatchAt_60 rfl rfl ?_
            refine l_ob fun q17 => ?_
            refine l_cI dX13_mismatchAt_61 rfl rfl rfl (l_xv cl_12_356 ko_mX13_differ rfl rfl rfl q17) rfl rfl nm_mX13_differ (xhE_th rfl) (fun v19 h18 => ?_)
            exact l_iretn dX13_mismatchAt_64 rfl (by rfl)
          · refine l_loc dX13_mismatchAt_48 rfl rfl ?_
            refine l_ic dX13_mismatchAt_49 kI_2 ?_
            refine l_ob fun q20 => ?_
            refine l_cI dX13_mismatchAt_50 rfl rfl rfl (l_xv cl_12_206 ko_mX13_fails rfl rfl rfl q20) rfl rfl nm_mX13_fails (xhE_th rfl) (fun v22 h21 => ?_)
            exact l_iretn dX13_mismatchAt_53 rfl (by rfl)
  · refine l_loc dX13_mismatchAt_12 rfl rfl ?_
    refine l_ic dX13_mismatchAt_13 kI_1 ?_
    refine l_ob fun q23 => ?_
    refine l_cI dX13_mismatchAt_14 rfl rfl rfl (l_xv cl_12_206 ko_mX13_fails rfl rfl rfl q23) rfl rfl nm_mX13_fails (xhE_th rfl) (fun v25 h24 => ?_)
    exact l_iretn dX13_mismatchAt_17 rfl (by rfl)
set_option maxRecDepth 16000 in
theorem w_X13_blockDifference (S : xS) (x0 : Nat) (x1 : Int32) (x2 : Int32) (h : xH) : xle ((xP false 12 h x0 12 2 (.int (0 : Int32))).bind fun h1 => (xGi h1 x0 12 35).bind fun v2 => if ¬ v2 = 0 then (if xOb h1 x0 12 = true then xqI (xM S mX13_isBlock [.ref x0, .int x1, .int x2] h1) xth fun v5 h4 => if v5 = 0 then (if xOb h4 x0 12 = true then xqI (xM S mX13_fails [.ref x0, .int (2 : Int32)] h4) xth fun v8 h7 => some (.inl (some (.int v8)), h7, 0, 0) else none) else ((xGr h4 x0 12 57).bind fun v9 => (xRi h4 0 v9 (((16 : Int32) * x2) + x1)).bind fun v10 => some (.inl (some (.int v10)), h4, 0, 0)) else none) else (if xOb h1 x0 12 = true then xqI (xM S mX13_fails [.ref x0, .int (1 : Int32)] h1) xth fun v13 h12 => some (.inl (some (.int v13)), h12, 0, 0) else none)) (xM S mX13_blockDifference [.ref x0, .int x1, .int x2] h) := by
  show xle _ (xden S mX13_blockDifference 0 [(0, .ref x0), (1, .int x1), (2, .int x2)] [] h)
  refine l_loc dX13_blockDifference_0 rfl rfl ?_
  refine l_ic dX13_blockDifference_1 kI_0 ?_
  refine l_pf dX13_blockDifference_2 fl_12_186 (ini := false) nm_mX13_blockDifference (fun h1 => ?_)
  refine l_loc dX13_blockDifference_5 rfl rfl ?_
  refine l_gi dX13_blockDifference_6 fl_12_502 (fun v2 => ?_)
  refine l_ine (t := 18) dX13_blockDifference_9 rfl ?_ ?_
  · refine l_loc dX13_blockDifference_18 rfl rfl ?_
    refine l_loc dX13_blockDifference_19 rfl rfl ?_
    refine l_loc dX13_blockDifference_20 rfl rfl ?_
    refine l_ob fun q3 => ?_
    refine l_cI dX13_blockDifference_21 rfl rfl rfl (l_xv cl_12_410 ko_mX13_isBlock rfl rfl rfl q3) rfl rfl nm_mX13_isBlock (xhE_th rfl) (fun v5 h4 => ?_)
    refine l_ieq (t := 41) dX13_blockDifference_24 rfl ?_ ?_
    · refine l_loc dX13_blockDifference_41 rfl rfl ?_
      refine l_ic dX13_blockDifference_42 kI_2 ?_
      refine l_ob fun q6 => ?_
      refine l_cI dX13_blockDifference_43 rfl rfl rfl (l_xv cl_12_206 ko_mX13_fails rfl rfl rfl q6) rfl rfl nm_mX13_fails (xhE_th rfl) (fun v8 h7 => ?_)
      exact l_iretn dX13_blockDifference_46 rfl (by rfl)
    · refine l_loc dX13_blockDifference_27 rfl rfl ?_
      refine l_gr dX13_blockDifference_28 fl_12_110 (fun v9 => ?_)
      refine l_bi dX13_blockDifference_31 kB_16 ?_
      refine l_loc dX13_blockDifference_33 rfl rfl ?_
      refine l_pure dX13_blockDifference_34 rfl rfl ?_
      refine l_loc dX13_blockDifference_35 rfl rfl ?_
      refine l_pure dX13_blockDifference_36 rfl rfl ?_
      refine l_ri dX13_blockDifference_37 (fun v10 => ?_)
      refine l_goto (t := 46) dX13_blockDifference_38 rfl ?_
      exact l_iretn dX13_blockDifference_46 rfl (by rfl)
  · refine l_loc dX13_blockDifference_12 rfl rfl ?_
    refine l_ic dX13_blockDifference_13 kI_1 ?_
    refine l_ob fun q11 => ?_
    refine l_cI dX13_blockDifference_14 rfl rfl rfl (l_xv cl_12_206 ko_mX13_fails rfl rfl rfl q11) rfl rfl nm_mX13_fails (xhE_th rfl) (fun v13 h12 => ?_)
    exact l_iretn dX13_blockDifference_17 rfl (by rfl)
set_option maxRecDepth 16000 in
theorem w_X13_regions (S : xS) (x0 : Nat) (h : xH) : xle ((xGi h x0 12 59).bind fun v1 => if xOb h x0 12 = true then xqI (xM S mX13_told [.ref x0, .int v1] h) xth fun v4 h3 => some (.inl (some (.int v4)), h3, 0, 0) else none) (xM S mX13_regions [.ref x0] h) := by
  show xle _ (xden S mX13_regions 0 [(0, .ref x0)] [] h)
  refine l_loc dX13_regions_0 rfl rfl ?_
  refine l_loc dX13_regions_1 rfl rfl ?_
  refine l_gi dX13_regions_2 fl_12_421 (fun v1 => ?_)
  refine l_ob fun q2 => ?_
  refine l_cI dX13_regions_5 rfl rfl rfl (l_xv cl_12_505 ko_mX13_told rfl rfl rfl q2) rfl rfl nm_mX13_told (xhE_th rfl) (fun v4 h3 => ?_)
  exact l_iretn dX13_regions_8 rfl (by rfl)
set_option maxRecDepth 16000 in
theorem w_X13_regionAt (S : xS) (x0 : Nat) (x1 : Int32) (x2 : Int32) (h : xH) : xle ((xP false 12 h x0 12 2 (.int (0 : Int32))).bind fun h1 => (xGi h1 x0 12 35).bind fun v2 => if ¬ v2 = 0 then (if xOb h1 x0 12 = true then xqI (xM S mX13_isOn [.ref x0, .long (x1.toInt64), .long (x2.toInt64)] h1) xth fun v5 h4 => if v5 = 0 then (if xOb h4 x0 12 = true then xqI (xM S mX13_fails [.ref x0, .int (2 : Int32)] h4) xth fun v8 h7 => some (.inl (some (.int v8)), h7, 0, 0) else none) else ((xGr h4 x0 12 69).bind fun v9 => if xOb h4 x0 12 = true then xqI (xM S mX13_blockOf [.ref x0, .int (((64 : Int32) * x2) + x1)] h4) xth fun v12 h11 => (xRi h11 0 v9 v12).bind fun v13 => some (.inl (some (.int v13)), h11, 0, 0) else none) else none) else (if xOb h1 x0 12 = true then xqI (xM S mX13_fails [.ref x0, .int (1 : Int32)] h1) xth fun v16 h15 => some (.inl (some (.int v16)), h15, 0, 0) else none)) (xM S mX13_regionAt [.ref x0, .int x1, .int x2] h) := by
  show xle _ (xden S mX13_regionAt 0 [(0, .ref x0), (1, .int x1), (2, .int x2)] [] h)
  refine l_loc dX13_regionAt_0 rfl rfl ?_
  refine l_ic dX13_regionAt_1 kI_0 ?_
  refine l_pf dX13_regionAt_2 fl_12_186 (ini := false) nm_mX13_regionAt (fun h1 => ?_)
  refine l_loc dX13_regionAt_5 rfl rfl ?_
  refine l_gi dX13_regionAt_6 fl_12_502 (fun v2 => ?_)
  refine l_ine (t := 18) dX13_regionAt_9 rfl ?_ ?_
  · refine l_loc dX13_regionAt_18 rfl rfl ?_
    refine l_loc dX13_regionAt_19 rfl rfl ?_
    refine l_pure dX13_regionAt_20 rfl rfl ?_
    refine l_loc dX13_regionAt_21 rfl rfl ?_
    refine l_pure dX13_regionAt_22 rfl rfl ?_
    refine l_ob fun q3 => ?_
    refine l_cI dX13_regionAt_23 rfl rfl rfl (l_xv cl_12_195 ko_mX13_isOn rfl rfl rfl q3) rfl rfl nm_mX13_isOn (xhE_th rfl) (fun v5 h4 => ?_)
    refine l_ieq (t := 47) dX13_regionAt_26 rfl ?_ ?_
    · refine l_loc dX13_regionAt_47 rfl rfl ?_
      refine l_ic dX13_regionAt_48 kI_2 ?_
      refine l_ob fun q6 => ?_
      refine l_cI dX13_regionAt_49 rfl rfl rfl (l_xv cl_12_206 ko_mX13_fails rfl rfl rfl q6) rfl rfl nm_mX13_fails (xhE_th rfl) (fun v8 h7 => ?_)
      exact l_iretn dX13_regionAt_52 rfl (by rfl)
    · refine l_loc dX13_regionAt_29 rfl rfl ?_
      refine l_gr dX13_regionAt_30 fl_12_143 (fun v9 => ?_)
      refine l_loc dX13_regionAt_33 rfl rfl ?_
      refine l_bi dX13_regionAt_34 kB_64 ?_
      refine l_loc dX13_regionAt_36 rfl rfl ?_
      refine l_pure dX13_regionAt_37 rfl rfl ?_
      refine l_loc dX13_regionAt_38 rfl rfl ?_
      refine l_pure dX13_regionAt_39 rfl rfl ?_
      refine l_ob fun q10 => ?_
      refine l_cI dX13_regionAt_40 rfl rfl rfl (l_xv cl_12_407 ko_mX13_blockOf rfl rfl rfl q10) rfl rfl nm_mX13_blockOf (xhE_th rfl) (fun v12 h11 => ?_)
      refine l_ri dX13_regionAt_43 (fun v13 => ?_)
      refine l_goto (t := 52) dX13_regionAt_44 rfl ?_
      exact l_iretn dX13_regionAt_52 rfl (by rfl)
  · refine l_loc dX13_regionAt_12 rfl rfl ?_
    refine l_ic dX13_regionAt_13 kI_1 ?_
    refine l_ob fun q14 => ?_
    refine l_cI dX13_regionAt_14 rfl rfl rfl (l_xv cl_12_206 ko_mX13_fails rfl rfl rfl q14) rfl rfl nm_mX13_fails (xhE_th rfl) (fun v16 h15 => ?_)
    exact l_iretn dX13_regionAt_17 rfl (by rfl)
set_option maxRecDepth 16000 in
theorem w_X13_regionLeft (S : xS) (x0 : Nat) (x1 : Int32) (h : xH) : xle ((xGi h x0 12 59).bind fun v1 => if xOb h x0 12 = true then xqI (xM S mX13_lacks [.ref x0, .int x1, .int v1] h) xth fun v4 h3 => if v4 = 0 then ((xGr h3 x0 12 60).bind fun v5 => (xGr h3 x0 12 64).bind fun v6 => (xRi h3 0 v6 x1).bind fun v7 => (xRi h3 0 v5 v7).bind fun v8 => some (.inl (some (.int v8)), h3, 0, 0)) else (some (.inl (some (.int (0 : Int32))), h3, 0, 0)) else none) (xM S mX13_regionLeft [.ref x0, .int x1] h) := by
  show xle _ (xden S mX13_regionLeft 0 [(0, .ref x0), (1, .int x1)] [] h)
  refine l_loc dX13_regionLeft_0 rfl rfl ?_
  refine l_loc dX13_regionLeft_1 rfl rfl ?_
  refine l_loc dX13_regionLeft_2 rfl rfl ?_
  refine l_gi dX13_regionLeft_3 fl_12_421 (fun v1 => ?_)
  refine l_ob fun q2 => ?_
  refine l_cI dX13_regionLeft_6 rfl rfl rfl (l_xv cl_12_507 ko_mX13_lacks rfl rfl rfl q2) rfl rfl nm_mX13_lacks (xhE_th rfl) (fun v4 h3 => ?_)
  refine l_ieq (t := 16) dX13_regionLeft_9 rfl ?_ ?_
  · refine l_loc dX13_regionLeft_16 rfl rfl ?_
    refine l_gr dX13_regionLeft_17 fl_12_116 (fun v5 => ?_)
    refine l_loc dX13_regionLeft_20 rfl rfl ?_
    refine l_gr dX13_regionLeft_21 fl_12_128 (fun v6 => ?_)
    refine l_loc dX13_regionLeft_24 rfl rfl ?_
    refine l_ri dX13_regionLeft_25 (fun v7 => ?_)
    refine l_ri dX13_regionLeft_26 (fun v8 => ?_)
    exact l_iretn dX13_regionLeft_27 rfl (by rfl)
  · refine l_ic dX13_regionLeft_12 kI_0 ?_
    refine l_goto (t := 27) dX13_regionLeft_13 rfl ?_
    exact l_iretn dX13_regionLeft_27 rfl (by rfl)
set_option maxRecDepth 16000 in
theorem w_X13_lacks (S : xS) (x0 : Nat) (x1 : Int32) (x2 : Int32) (h : xH) : xle ((xGi h x0 12 35).bind fun v1 => if ¬ v1 = 0 then (xqI (xM S mX13_in [.long (x1.toInt64), .long (0 : Int64), .long (x2 - (1 : Int32)).toInt64] h) xth fun v3 h2 => if v3 = 0 then ((xP false 12 h2 x0 12 2 (.int (2 : Int32))).bind fun h4 => (xGi h4 x0 12 2).bind fun v5 => if v5 = 0 then (some (.inl (some (.int (0 : Int32))), h4, 0, 0)) else (some (.inl (some (.int (1 : Int32))), h4, 0, 0))) else ((xP false 12 h2 x0 12 2 (.int (0 : Int32))).bind fun h6 => (xGi h6 x0 12 2).bind fun v7 => if v7 = 0 then (some (.inl (some (.int (0 : Int32))), h6, 0, 0)) else (some (.inl (some (.int (1 : Int32))), h6, 0, 0)))) else ((xP false 12 h x0 12 2 (.int (1 : Int32))).bind fun h8 => (xGi h8 x0 12 2).bind fun v9 => if v9 = 0 then (some (.inl (some (.int (0 : Int32))), h8, 0, 0)) else (some (.inl (some (.int (1 : Int32))), h8, 0, 0)))) (xM S mX13_lacks [.ref x0, .int x1, .int x2] h) := by
  show xle _ (xden S mX13_lacks 0 [(0, .ref x0), (1, .int x1), (2, .int x2)] [] h)
  refine l_loc dX13_lacks_0 rfl rfl ?_
  refine l_loc dX13_lacks_1 rfl rfl ?_
  refine l_gi dX13_lacks_2 fl_12_502 (fun v1 => ?_)
  refine l_ine (t := 12) dX13_lacks_5 rfl ?_ ?_
  · refine l_loc dX13_lacks_12 rfl rfl ?_
    refine l_pure dX13_lacks_13 rfl rfl ?_
    refine l_lc0 dX13_lacks_14 ?_
    refine l_loc dX13_lacks_15 rfl rfl ?_
    refine l_ic dX13_lacks_16 kI_1 ?_
    refine l_pure dX13_lacks_17 rfl rfl ?_
    refine l_pure dX13_lacks_18 rfl rfl ?_
    refine l_cI dX13_lacks_19 rfl rfl rfl (l_xs cl_12_191 ko_mX13_in rfl rfl) rfl rfl nm_mX13_in (xhE_th rfl) (fun v3 h2 => ?_)
    refine l_ieq (t := 29) dX13_lacks_22 rfl ?_ ?_
    · refine l_ic dX13_lacks_29 kI_2 ?_
      refine l_pf dX13_lacks_30 fl_12_186 (ini := false) nm_mX13_lacks (fun h4 => ?_)
      refine l_loc dX13_lacks_33 rfl rfl ?_
      refine l_gi dX13_lacks_34 fl_12_186 (fun v5 => ?_)
      refine l_ieq (t := 44) dX13_lacks_37 rfl ?_ ?_
      · refine l_ic dX13_lacks_44 kI_0 ?_
        exact l_iretn dX13_lacks_45 rfl (by decide)
      · refine l_ic dX13_lacks_40 kI_1 ?_
        refine l_goto (t := 45) dX13_lacks_41 rfl ?_
        exact l_iretn dX13_lacks_45 rfl (by decide)
    · refine l_ic dX13_lacks_25 kI_0 ?_
      refine l_goto (t := 30) dX13_lacks_26 rfl ?_
      refine l_pf dX13_lacks_30 fl_12_186 (ini := false) nm_mX13_lacks (fun h6 => ?_)
      refine l_loc dX13_lacks_33 rfl rfl ?_
      refine l_gi dX13_lacks_34 fl_12_186 (fun v7 => ?_)
      refine l_ieq (t := 44) dX13_lacks_37 rfl ?_ ?_
      · refine l_ic dX13_lacks_44 kI_0 ?_
        exact l_iretn dX13_lacks_45 rfl (by decide)
      · refine l_ic dX13_lacks_40 kI_1 ?_
        refine l_goto (t := 45) dX13_lacks_41 rfl ?_
        exact l_iretn dX13_lacks_45 rfl (by decide)
  · refine l_ic dX13_lacks_8 kI_1 ?_
    refine l_goto (t := 30) dX13_lacks_9 rfl ?_
    refine l_pf dX13_lacks_30 fl_12_186 (ini := false) nm_mX13_lacks (fun h8 => ?_)
    refine l_loc dX13_lacks_33 rfl rfl ?_
    refine l_gi dX13_lacks_34 fl_12_186 (fun v9 => ?_)
    refine l_ieq (t := 44) dX13_lacks_37 rfl ?_ ?_
    · refine l_ic dX13_lacks_44 kI_0 ?_
      exact l_iretn dX13_lacks_45 rfl (by decide)
    · refine l_ic dX13_lacks_40 kI_1 ?_
      refine l_goto (t := 45) dX13_lacks_41 rfl ?_
      exact l_iretn dX13_lacks_45 rfl (by decide)
set_option maxRecDepth 16000 in
theorem w_X13_regionTop (S : xS) (x0 : Nat) (x1 : Int32) (h : xH) : xle ((xGi h x0 12 59).bind fun v1 => if xOb h x0 12 = true then xqI (xM S mX13_lacks [.ref x0, .int x1, .int v1] h) xth fun v4 h3 => if v4 = 0 then ((xGr h3 x0 12 61).bind fun v5 => (xGr h3 x0 12 64).bind fun v6 => (xRi h3 0 v6 x1).bind fun v7 => (xRi h3 0 v5 v7).bind fun v8 => some (.inl (some (.int v8)), h3, 0, 0)) else (some (.inl (some (.int (0 : Int32))), h3, 0, 0)) else none) (xM S mX13_regionTop [.ref x0, .int x1] h) := by
  show xle _ (xden S mX13_regionTop 0 [(0, .ref x0), (1, .int x1)] [] h)
  refine l_loc dX13_regionTop_0 rfl rfl ?_
  refine l_loc dX13_regionTop_1 rfl rfl ?_
  refine l_loc dX13_regionTop_2 rfl rfl ?_
  refine l_gi dX13_regionTop_3 fl_12_421 (fun v1 => ?_)
  refine l_ob fun q2 => ?_
  refine l_cI dX13_regionTop_6 rfl rfl rfl (l_xv cl_12_507 ko_mX13_lacks rfl rfl rfl q2) rfl rfl nm_mX13_lacks (xhE_th rfl) (fun v4 h3 => ?_)
  refine l_ieq (t := 16) dX13_regionTop_9 rfl ?_ ?_
  · refine l_loc dX13_regionTop_16 rfl rfl ?_
    refine l_gr dX13_regionTop_17 fl_12_119 (fun v5 => ?_)
    refine l_loc dX13_regionTop_20 rfl rfl ?_
    refine l_gr dX13_regionTop_21 fl_12_128 (fun v6 => ?_)
    refine l_loc dX13_regionTop_24 rfl rfl ?_
    refine l_ri dX13_regionTop_25 (fun v7 => ?_)
    refine l_ri dX13_regionTop_26 (fun v8 => ?_)
    exact l_iretn dX13_regionTop_27 rfl (by rfl)
  · refine l_ic dX13_regionTop_12 kI_0 ?_
    refine l_goto (t := 27) dX13_regionTop_13 rfl ?_
    exact l_iretn dX13_regionTop_27 rfl (by rfl)
set_option maxRecDepth 16000 in
theorem w_X13_regionRight (S : xS) (x0 : Nat) (x1 : Int32) (h : xH) : xle ((xGi h x0 12 59).bind fun v1 => if xOb h x0 12 = true then xqI (xM S mX13_lacks [.ref x0, .int x1, .int v1] h) xth fun v4 h3 => if v4 = 0 then ((xGr h3 x0 12 62).bind fun v5 => (xGr h3 x0 12 64).bind fun v6 => (xRi h3 0 v6 x1).bind fun v7 => (xRi h3 0 v5 v7).bind fun v8 => some (.inl (some (.int v8)), h3, 0, 0)) else (some (.inl (some (.int (0 : Int32))), h3, 0, 0)) else none) (xM S mX13_regionRight [.ref x0, .int x1] h) := by
  show xle _ (xden S mX13_regionRight 0 [(0, .ref x0), (1, .int x1)] [] h)
  refine l_loc dX13_regionRight_0 rfl rfl ?_
  refine l_loc dX13_regionRight_1 rfl rfl ?_
  refine l_loc dX13_regionRight_2 rfl rfl ?_
  refine l_gi dX13_regionRight_3 fl_12_421 (fun v1 => ?_)
  refine l_ob fun q2 => ?_
  refine l_cI dX13_regionRight_6 rfl rfl rfl (l_xv cl_12_507 ko_mX13_lacks rfl rfl rfl q2) rfl rfl nm_mX13_lacks (xhE_th rfl) (fun v4 h3 => ?_)
  refine l_ieq (t := 16) dX13_regionRight_9 rfl ?_ ?_
  · refine l_loc dX13_regionRight_16 rfl rfl ?_
    refine l_gr dX13_regionRight_17 fl_12_122 (fun v5 => ?_)
    refine l_loc dX13_regionRight_20 rfl rfl ?_
    refine l_gr dX13_regionRight_21 fl_12_128 (fun v6 => ?_)
    refine l_loc dX13_regionRight_24 rfl rfl ?_
    refine l_ri dX13_regionRight_25 (fun v7 => ?_)
    refine l_ri dX13_regionRight_26 (fun v8 => ?_)
    exact l_iretn dX13_regionRight_27 rfl (by rfl)
  · refine l_ic dX13_regionRight_12 kI_0 ?_
    refine l_goto (t := 27) dX13_regionRight_13 rfl ?_
    exact l_iretn dX13_regionRight_27 rfl (by rfl)
set_option maxRecDepth 16000 in
theorem w_X13_regionBottom (S : xS) (x0 : Nat) (x1 : Int32) (h : xH) : xle ((xGi h x0 12 59).bind fun v1 => if xOb h x0 12 = true then xqI (xM S mX13_lacks [.ref x0, .int x1, .int v1] h) xth fun v4 h3 => if v4 = 0 then ((xGr h3 x0 12 63).bind fun v5 => (xGr h3 x0 12 64).bind fun v6 => (xRi h3 0 v6 x1).bind fun v7 => (xRi h3 0 v5 v7).bind fun v8 => some (.inl (some (.int v8)), h3, 0, 0)) else (some (.inl (some (.int (0 : Int32))), h3, 0, 0)) else none) (xM S mX13_regionBottom [.ref x0, .int x1] h) := by
  show xle _ (xden S mX13_regionBottom 0 [(0, .ref x0), (1, .int x1)] [] h)
  refine l_loc dX13_regionBottom_0 rfl rfl ?_
  refine l_loc dX13_regionBottom_1 rfl rfl ?_
  refine l_loc dX13_regionBottom_2 rfl rfl ?_
  refine l_gi dX13_regionBottom_3 fl_12_421 (fun v1 => ?_)
  refine l_ob fun q2 => ?_
  refine l_cI dX13_regionBottom_6 rfl rfl rfl (l_xv cl_12_507 ko_mX13_lacks rfl rfl rfl q2) rfl rfl nm_mX13_lacks (xhE_th rfl) (fun v4 h3 => ?_)
  refine l_ieq (t := 16) dX13_regionBottom_9 rfl ?_ ?_
  · refine l_loc dX13_regionBottom_16 rfl rfl ?_
    refine l_gr dX13_regionBottom_17 fl_12_125 (fun v5 => ?_)
    refine l_loc dX13_regionBottom_20 rfl rfl ?_
    refine l_gr dX13_regionBottom_21 fl_12_128 (fun v6 => ?_)
    refine l_loc dX13_regionBottom_24 rfl rfl ?_
    refine l_ri dX13_regionBottom_25 (fun v7 => ?_)
    refine l_ri dX13_regionBottom_26 (fun v8 => ?_)
    exact l_iretn dX13_regionBottom_27 rfl (by rfl)
  · refine l_ic dX13_regionBottom_12 kI_0 ?_
    refine l_goto (t := 27) dX13_regionBottom_13 rfl ?_
    exact l_iretn dX13_regionBottom_27 rfl (by rfl)
set_option maxRecDepth 16000 in
theorem w_X13_missingPixels (S : xS) (x0 : Nat) (x1 : Int32) (h : xH) : xle ((xGi h x0 12 59).bind fun v1 => if xOb h x0 12 = true then xqI (xM S mX13_lacks [.ref x0, .int x1, .int v1] h) xth fun v4 h3 => if v4 = 0 then ((xGr h3 x0 12 70).bind fun v5 => (xRi h3 0 v5 ((2 : Int32) * x1)).bind fun v6 => some (.inl (some (.int v6)), h3, 0, 0)) else (some (.inl (some (.int (0 : Int32))), h3, 0, 0)) else none) (xM S mX13_missingPixels [.ref x0, .int x1] h) := by
  show xle _ (xden S mX13_missingPixels 0 [(0, .ref x0), (1, .int x1)] [] h)
  refine l_loc dX13_missingPixels_0 rfl rfl ?_
  refine l_loc dX13_missingPixels_1 rfl rfl ?_
  refine l_loc dX13_missingPixels_2 rfl rfl ?_
  refine l_gi dX13_missingPixels_3 fl_12_421 (fun v1 => ?_)
  refine l_ob fun q2 => ?_
  refine l_cI dX13_missingPixels_6 rfl rfl rfl (l_xv cl_12_507 ko_mX13_lacks rfl rfl rfl q2) rfl rfl nm_mX13_lacks (xhE_th rfl) (fun v4 h3 => ?_)
  refine l_ieq (t := 16) dX13_missingPixels_9 rfl ?_ ?_
  · refine l_loc dX13_missingPixels_16 rfl rfl ?_
    refine l_gr dX13_missingPixels_17 fl_12_146 (fun v5 => ?_)
    refine l_ic dX13_missingPixels_20 kI_2 ?_
    refine l_loc dX13_missingPixels_21 rfl rfl ?_
    refine l_pure dX13_missingPixels_22 rfl rfl ?_
    refine l_ri dX13_missingPixels_23 (fun v6 => ?_)
    exact l_iretn dX13_missingPixels_24 rfl (by rfl)
  · refine l_ic dX13_missingPixels_12 kI_0 ?_
    refine l_goto (t := 24) dX13_missingPixels_13 rfl ?_
    exact l_iretn dX13_missingPixels_24 rfl (by rfl)
set_option maxRecDepth 16000 in
theorem w_X13_addedPixels (S : xS) (x0 : Nat) (x1 : Int32) (h : xH) : xle ((xGi h x0 12 59).bind fun v1 => if xOb h x0 12 = true then xqI (xM S mX13_lacks [.ref x0, .int x1, .int v1] h) xth fun v4 h3 => if v4 = 0 then ((xGr h3 x0 12 70).bind fun v5 => (xRi h3 0 v5 (((2 : Int32) * x1) + (1 : Int32))).bind fun v6 => some (.inl (some (.int v6)), h3, 0, 0)) else (some (.inl (some (.int (0 : Int32))), h3, 0, 0)) else none) (xM S mX13_addedPixels [.ref x0, .int x1] h) := by
  show xle _ (xden S mX13_addedPixels 0 [(0, .ref x0), (1, .int x1)] [] h)
  refine l_loc dX13_addedPixels_0 rfl rfl ?_
  refine l_loc dX13_addedPixels_1 rfl rfl ?_
  refine l_loc dX13_addedPixels_2 rfl rfl ?_
  refine l_gi dX13_addedPixels_3 fl_12_421 (fun v1 => ?_)
  refine l_ob fun q2 => ?_
  refine l_cI dX13_addedPixels_6 rfl rfl rfl (l_xv cl_12_507 ko_mX13_lacks rfl rfl rfl q2) rfl rfl nm_mX13_lacks (xhE_th rfl) (fun v4 h3 => ?_)
  refine l_ieq (t := 16) dX13_addedPixels_9 rfl ?_ ?_
  · refine l_loc dX13_addedPixels_16 rfl rfl ?_
    refine l_gr dX13_addedPixels_17 fl_12_146 (fun v5 => ?_)
    refine l_ic dX13_addedPixels_20 kI_2 ?_
    refine l_loc dX13_addedPixels_21 rfl rfl ?_
    refine l_pure dX13_addedPixels_22 rfl rfl ?_
    refine l_ic dX13_addedPixels_23 kI_1 ?_
    refine l_pure dX13_addedPixels_24 rfl rfl ?_
    refine l_ri dX13_addedPixels_25 (fun v6 => ?_)
    exact l_iretn dX13_addedPixels_26 rfl (by rfl)
  · refine l_ic dX13_addedPixels_12 kI_0 ?_
    refine l_goto (t := 26) dX13_addedPixels_13 rfl ?_
    exact l_iretn dX13_addedPixels_26 rfl (by rfl)
set_option maxRecDepth 16000 in
theorem w_X13_changes (S : xS) (x0 : Nat) (h : xH) : xle ((xGi h x0 12 79).bind fun v1 => if xOb h x0 12 = true then xqI (xM S mX13_told [.ref x0, .int v1] h) xth fun v4 h3 => some (.inl (some (.int v4)), h3, 0, 0) else none) (xM S mX13_changes [.ref x0] h) := by
  show xle _ (xden S mX13_changes 0 [(0, .ref x0)] [] h)
  refine l_loc dX13_changes_0 rfl rfl ?_
  refine l_loc dX13_changes_1 rfl rfl ?_
  refine l_gi dX13_changes_2 fl_12_467 (fun v1 => ?_)
  refine l_ob fun q2 => ?_
  refine l_cI dX13_changes_5 rfl rfl rfl (l_xv cl_12_505 ko_mX13_told rfl rfl rfl q2) rfl rfl nm_mX13_told (xhE_th rfl) (fun v4 h3 => ?_)
  exact l_iretn dX13_changes_8 rfl (by rfl)
set_option maxRecDepth 16000 in
theorem w_X13_changeKind (S : xS) (x0 : Nat) (x1 : Int32) (h : xH) : xle ((xGi h x0 12 79).bind fun v1 => if xOb h x0 12 = true then xqI (xM S mX13_lacks [.ref x0, .int x1, .int v1] h) xth fun v4 h3 => if v4 = 0 then ((xGr h3 x0 12 77).bind fun v5 => (xRi h3 0 v5 x1).bind fun v6 => if v6 < 0 then ((xGr h3 x0 12 76).bind fun v7 => (xRi h3 0 v7 x1).bind fun v8 => some (.inl (some (.int ((1 : Int32) + (v8 - v8 / (2 : Int32) * (2 : Int32))))), h3, 0, 0)) else (some (.inl (some (.int (3 : Int32))), h3, 0, 0))) else (some (.inl (some (.int (0 : Int32))), h3, 0, 0)) else none) (xM S mX13_changeKind [.ref x0, .int x1] h) := by
  show xle _ (xden S mX13_changeKind 0 [(0, .ref x0), (1, .int x1)] [] h)
  refine l_loc dX13_changeKind_0 rfl rfl ?_
  refine l_loc dX13_changeKind_1 rfl rfl ?_
  refine l_loc dX13_changeKind_2 rfl rfl ?_
  refine l_gi dX13_changeKind_3 fl_12_467 (fun v1 => ?_)
  refine l_ob fun q2 => ?_
  refine l_cI dX13_changeKind_6 rfl rfl rfl (l_xv cl_12_507 ko_mX13_lacks rfl rfl rfl q2) rfl rfl nm_mX13_lacks (xhE_th rfl) (fun v4 h3 => ?_)
  refine l_ieq (t := 16) dX13_changeKind_9 rfl ?_ ?_
  · refine l_loc dX13_changeKind_16 rfl rfl ?_
    refine l_gr dX13_changeKind_17 fl_12_167 (fun v5 => ?_)
    refine l_loc dX13_changeKind_20 rfl rfl ?_
    refine l_ri dX13_changeKind_21 (fun v6 => ?_)
    refine l_ilt (t := 29) dX13_changeKind_22 rfl ?_ ?_
    · refine l_ic dX13_changeKind_29 kI_1 ?_
      refine l_loc dX13_changeKind_30 rfl rfl ?_
      refine l_gr dX13_changeKind_31 fl_12_164 (fun v7 => ?_)
      refine l_loc dX13_changeKind_34 rfl rfl ?_
      refine l_ri dX13_changeKind_35 (fun v8 => ?_)
      refine l_ic dX13_changeKind_36 kI_2 ?_
      refine l_remn dX13_changeKind_37 (by decide) ?_
      refine l_pure dX13_changeKind_38 rfl rfl ?_
      exact l_iretn dX13_changeKind_39 rfl (by rfl)
    · refine l_ic dX13_changeKind_25 kI_3 ?_
      refine l_goto (t := 39) dX13_changeKind_26 rfl ?_
      exact l_iretn dX13_changeKind_39 rfl (by rfl)
  · refine l_ic dX13_changeKind_12 kI_0 ?_
    refine l_goto (t := 39) dX13_changeKind_13 rfl ?_
    exact l_iretn dX13_changeKind_39 rfl (by rfl)
set_option maxRecDepth 16000 in
theorem w_X13_changeRegion (S : xS) (x0 : Nat) (x1 : Int32) (h : xH) : xle ((xGi h x0 12 79).bind fun v1 => if xOb h x0 12 = true then xqI (xM S mX13_lacks [.ref x0, .int x1, .int v1] h) xth fun v4 h3 => if v4 = 0 then ((xGr h3 x0 12 76).bind fun v5 => (xRi h3 0 v5 x1).bind fun v6 => some (.inl (some (.int (v6 / (2 : Int32)))), h3, 0, 0)) else (some (.inl (some (.int (0 : Int32))), h3, 0, 0)) else none) (xM S mX13_changeRegion [.ref x0, .int x1] h) := by
  show xle _ (xden S mX13_changeRegion 0 [(0, .ref x0), (1, .int x1)] [] h)
  refine l_loc dX13_changeRegion_0 rfl rfl ?_
  refine l_loc dX13_changeRegion_1 rfl rfl ?_
  refine l_loc dX13_changeRegion_2 rfl rfl ?_
  refine l_gi dX13_changeRegion_3 fl_12_467 (fun v1 => ?_)
  refine l_ob fun q2 => ?_
  refine l_cI dX13_changeRegion_6 rfl rfl rfl (l_xv cl_12_507 ko_mX13_lacks rfl rfl rfl q2) rfl rfl nm_mX13_lacks (xhE_th rfl) (fun v4 h3 => ?_)
  refine l_ieq (t := 16) dX13_changeRegion_9 rfl ?_ ?_
  · refine l_loc dX13_changeRegion_16 rfl rfl ?_
    refine l_gr dX13_changeRegion_17 fl_12_164 (fun v5 => ?_)
    refine l_loc dX13_changeRegion_20 rfl rfl ?_
    refine l_ri dX13_changeRegion_21 (fun v6 => ?_)
    refine l_ic dX13_changeRegion_22 kI_2 ?_
    refine l_divn dX13_changeRegion_23 (by decide) ?_
    exact l_iretn dX13_changeRegion_24 rfl (by rfl)
  · refine l_ic dX13_changeRegion_12 kI_0 ?_
    refine l_goto (t := 24) dX13_changeRegion_13 rfl ?_
    exact l_iretn dX13_changeRegion_24 rfl (by rfl)
set_option maxRecDepth 16000 in
theorem w_X13_changeTarget (S : xS) (x0 : Nat) (x1 : Int32) (h : xH) : xle ((xGi h x0 12 79).bind fun v1 => if xOb h x0 12 = true then xqI (xM S mX13_lacks [.ref x0, .int x1, .int v1] h) xth fun v4 h3 => if v4 = 0 then ((xGr h3 x0 12 77).bind fun v5 => (xRi h3 0 v5 x1).bind fun v6 => if v6 < 0 then (some (.inl (some (.int (-1 : Int32))), h3, 0, 0)) else ((xGr h3 x0 12 77).bind fun v7 => (xRi h3 0 v7 x1).bind fun v8 => some (.inl (some (.int (v8 / (2 : Int32)))), h3, 0, 0))) else (some (.inl (some (.int (0 : Int32))), h3, 0, 0)) else none) (xM S mX13_changeTarget [.ref x0, .int x1] h) := by
  show xle _ (xden S mX13_changeTarget 0 [(0, .ref x0), (1, .int x1)] [] h)
  refine l_loc dX13_changeTarget_0 rfl rfl ?_
  refine l_loc dX13_changeTarget_1 rfl rfl ?_
  refine l_loc dX13_changeTarget_2 rfl rfl ?_
  refine l_gi dX13_changeTarget_3 fl_12_467 (fun v1 => ?_)
  refine l_ob fun q2 => ?_
  refine l_cI dX13_changeTarget_6 rfl rfl rfl (l_xv cl_12_507 ko_mX13_lacks rfl rfl rfl q2) rfl rfl nm_mX13_lacks (xhE_th rfl) (fun v4 h3 => ?_)
  refine l_ieq (t := 16) dX13_changeTarget_9 rfl ?_ ?_
  · refine l_loc dX13_changeTarget_16 rfl rfl ?_
    refine l_gr dX13_changeTarget_17 fl_12_167 (fun v5 => ?_)
    refine l_loc dX13_changeTarget_20 rfl rfl ?_
    refine l_ri dX13_changeTarget_21 (fun v6 => ?_)
    refine l_ilt (t := 36) dX13_changeTarget_22 rfl ?_ ?_
    · refine l_ic dX13_changeTarget_36 kI_m1 ?_
      exact l_iretn dX13_changeTarget_37 rfl (by rfl)
    · refine l_loc dX13_changeTarget_25 rfl rfl ?_
      refine l_gr dX13_changeTarget_26 fl_12_167 (fun v7 => ?_)
      refine l_loc dX13_changeTarget_29 rfl rfl ?_
      refine l_ri dX13_changeTarget_30 (fun v8 => ?_)
      refine l_ic dX13_changeTarget_31 kI_2 ?_
      refine l_divn dX13_changeTarget_32 (by decide) ?_
      refine l_goto (t := 37) dX13_changeTarget_33 rfl ?_
      exact l_iretn dX13_changeTarget_37 rfl (by rfl)
  · refine l_ic dX13_changeTarget_12 kI_0 ?_
    refine l_goto (t := 37) dX13_changeTarget_13 rfl ?_
    exact l_iretn dX13_changeTarget_37 rfl (by rfl)
set_option maxRecDepth 16000 in
theorem w_X13_moveX (S : xS) (x0 : Nat) (x1 : Int32) (h : xH) : xle ((xGi h x0 12 79).bind fun v1 => if xOb h x0 12 = true then xqI (xM S mX13_lacks [.ref x0, .int x1, .int v1] h) xth fun v4 h3 => if ¬ v4 = 0 then (some (.inl (some (.int (0 : Int32))), h3, 0, 0)) else ((xGr h3 x0 12 77).bind fun v5 => (xRi h3 0 v5 x1).bind fun v6 => if 0 ≤ v6 then ((xGr h3 x0 12 71).bind fun v7 => (xGr h3 x0 12 77).bind fun v8 => (xRi h3 0 v8 x1).bind fun v9 => (xRi h3 0 v7 v9).bind fun v10 => (xGr h3 x0 12 71).bind fun v11 => (xGr h3 x0 12 76).bind fun v12 => (xRi h3 0 v12 x1).bind fun v13 => (xRi h3 0 v11 v13).bind fun v14 => some (.inl (some (.int (v10 - v14))), h3, 0, 0)) else (some (.inl (some (.int (0 : Int32))), h3, 0, 0))) else none) (xM S mX13_moveX [.ref x0, .int x1] h) := by
  show xle _ (xden S mX13_moveX 0 [(0, .ref x0), (1, .int x1)] [] h)
  refine l_loc dX13_moveX_0 rfl rfl ?_
  refine l_loc dX13_moveX_1 rfl rfl ?_
  refine l_loc dX13_moveX_2 rfl rfl ?_
  refine l_gi dX13_moveX_3 fl_12_467 (fun v1 => ?_)
  refine l_ob fun q2 => ?_
  refine l_cI dX13_moveX_6 rfl rfl rfl (l_xv cl_12_507 ko_mX13_lacks rfl rfl rfl q2) rfl rfl nm_mX13_lacks (xhE_th rfl) (fun v4 h3 => ?_)
  refine l_ine (t := 21) dX13_moveX_9 rfl ?_ ?_
  · refine l_ic dX13_moveX_21 kI_0 ?_
    refine l_goto (t := 48) dX13_moveX_22 rfl ?_
    exact l_iretn dX13_moveX_48 rfl (by rfl)
  · refine l_loc dX13_moveX_12 rfl rfl ?_
    refine l_gr dX13_moveX_13 fl_12_167 (fun v5 => ?_)
    refine l_loc dX13_moveX_16 rfl rfl ?_
    refine l_ri dX13_moveX_17 (fun v6 => ?_)
    refine l_ige (t := 25) dX13_moveX_18 rfl ?_ ?_
    · refine l_loc dX13_moveX_25 rfl rfl ?_
      refine l_gr dX13_moveX_26 fl_12_149 (fun v7 => ?_)
      refine l_loc dX13_moveX_29 rfl rfl ?_
      refine l_gr dX13_moveX_30 fl_12_167 (fun v8 => ?_)
      refine l_loc dX13_moveX_33 rfl rfl ?_
      refine l_ri dX13_moveX_34 (fun v9 => ?_)
      refine l_ri dX13_moveX_35 (fun v10 => ?_)
      refine l_loc dX13_moveX_36 rfl rfl ?_
      refine l_gr dX13_moveX_37 fl_12_149 (fun v11 => ?_)
      refine l_loc dX13_moveX_40 rfl rfl ?_
      refine l_gr dX13_moveX_41 fl_12_164 (fun v12 => ?_)
      refine l_loc dX13_moveX_44 rfl rfl ?_
      refine l_ri dX13_moveX_45 (fun v13 => ?_)
      refine l_ri dX13_moveX_46 (fun v14 => ?_)
      refine l_pure dX13_moveX_47 rfl rfl ?_
      exact l_iretn dX13_moveX_48 rfl (by rfl)
    · refine l_ic dX13_moveX_21 kI_0 ?_
      refine l_goto (t := 48) dX13_moveX_22 rfl ?_
      exact l_iretn dX13_moveX_48 rfl (by rfl)
set_option maxRecDepth 16000 in
theorem w_X13_moveY (S : xS) (x0 : Nat) (x1 : Int32) (h : xH) : xle ((xGi h x0 12 79).bind fun v1 => if xOb h x0 12 = true then xqI (xM S mX13_lacks [.ref x0, .int x1, .int v1] h) xth fun v4 h3 => if ¬ v4 = 0 then (some (.inl (some (.int (0 : Int32))), h3, 0, 0)) else ((xGr h3 x0 12 77).bind fun v5 => (xRi h3 0 v5 x1).bind fun v6 => if 0 ≤ v6 then ((xGr h3 x0 12 72).bind fun v7 => (xGr h3 x0 12 77).bind fun v8 => (xRi h3 0 v8 x1).bind fun v9 => (xRi h3 0 v7 v9).bind fun v10 => (xGr h3 x0 12 72).bind fun v11 => (xGr h3 x0 12 76).bind fun v12 => (xRi h3 0 v12 x1).bind fun v13 => (xRi h3 0 v11 v13).bind fun v14 => some (.inl (some (.int (v10 - v14))), h3, 0, 0)) else (some (.inl (some (.int (0 : Int32))), h3, 0, 0))) else none) (xM S mX13_moveY [.ref x0, .int x1] h) := by
  show xle _ (xden S mX13_moveY 0 [(0, .ref x0), (1, .int x1)] [] h)
  refine l_loc dX13_moveY_0 rfl rfl ?_
  refine l_loc dX13_moveY_1 rfl rfl ?_
  refine l_loc dX13_moveY_2 rfl rfl ?_
  refine l_gi dX13_moveY_3 fl_12_467 (fun v1 => ?_)
  refine l_ob fun q2 => ?_
  refine l_cI dX13_moveY_6 rfl rfl rfl (l_xv cl_12_507 ko_mX13_lacks rfl rfl rfl q2) rfl rfl nm_mX13_lacks (xhE_th rfl) (fun v4 h3 => ?_)
  refine l_ine (t := 21) dX13_moveY_9 rfl ?_ ?_
  · refine l_ic dX13_moveY_21 kI_0 ?_
    refine l_goto (t := 48) dX13_moveY_22 rfl ?_
    exact l_iretn dX13_moveY_48 rfl (by rfl)
  · refine l_loc dX13_moveY_12 rfl rfl ?_
    refine l_gr dX13_moveY_13 fl_12_167 (fun v5 => ?_)
    refine l_loc dX13_moveY_16 rfl rfl ?_
    refine l_ri dX13_moveY_17 (fun v6 => ?_)
    refine l_ige (t := 25) dX13_moveY_18 rfl ?_ ?_
    · refine l_loc dX13_moveY_25 rfl rfl ?_
      refine l_gr dX13_moveY_26 fl_12_152 (fun v7 => ?_)
      refine l_loc dX13_moveY_29 rfl rfl ?_
      refine l_gr dX13_moveY_30 fl_12_167 (fun v8 => ?_)
      refine l_loc dX13_moveY_33 rfl rfl ?_
      refine l_ri dX13_moveY_34 (fun v9 => ?_)
      refine l_ri dX13_moveY_35 (fun v10 => ?_)
      refine l_loc dX13_moveY_36 rfl rfl ?_
      refine l_gr dX13_moveY_37 fl_12_152 (fun v11 => ?_)
      refine l_loc dX13_moveY_40 rfl rfl ?_
      refine l_gr dX13_moveY_41 fl_12_164 (fun v12 => ?_)
      refine l_loc dX13_moveY_44 rfl rfl ?_
      refine l_ri dX13_moveY_45 (fun v13 => ?_)
      refine l_ri dX13_moveY_46 (fun v14 => ?_)
      refine l_pure dX13_moveY_47 rfl rfl ?_
      exact l_iretn dX13_moveY_48 rfl (by rfl)
    · refine l_ic dX13_moveY_21 kI_0 ?_
      refine l_goto (t := 48) dX13_moveY_22 rfl ?_
      exact l_iretn dX13_moveY_48 rfl (by rfl)
set_option maxRecDepth 16000 in
theorem w_X13_changePixels (S : xS) (x0 : Nat) (x1 : Int32) (h : xH) : xle ((xGi h x0 12 79).bind fun v1 => if xOb h x0 12 = true then xqI (xM S mX13_lacks [.ref x0, .int x1, .int v1] h) xth fun v4 h3 => if v4 = 0 then ((xGr h3 x0 12 70).bind fun v5 => (xGr h3 x0 12 76).bind fun v6 => (xRi h3 0 v6 x1).bind fun v7 => (xRi h3 0 v5 v7).bind fun v8 => some (.inl (some (.int v8)), h3, 0, 0)) else (some (.inl (some (.int (0 : Int32))), h3, 0, 0)) else none) (xM S mX13_changePixels [.ref x0, .int x1] h) := by
  show xle _ (xden S mX13_changePixels 0 [(0, .ref x0), (1, .int x1)] [] h)
  refine l_loc dX13_changePixels_0 rfl rfl ?_
  refine l_loc dX13_changePixels_1 rfl rfl ?_
  refine l_loc dX13_changePixels_2 rfl rfl ?_
  refine l_gi dX13_changePixels_3 fl_12_467 (fun v1 => ?_)
  refine l_ob fun q2 => ?_
  refine l_cI dX13_changePixels_6 rfl rfl rfl (l_xv cl_12_507 ko_mX13_lacks rfl rfl rfl q2) rfl rfl nm_mX13_lacks (xhE_th rfl) (fun v4 h3 => ?_)
  refine l_ieq (t := 16) dX13_changePixels_9 rfl ?_ ?_
  · refine l_loc dX13_changePixels_16 rfl rfl ?_
    refine l_gr dX13_changePixels_17 fl_12_146 (fun v5 => ?_)
    refine l_loc dX13_changePixels_20 rfl rfl ?_
    refine l_gr dX13_changePixels_21 fl_12_164 (fun v6 => ?_)
    refine l_loc dX13_changePixels_24 rfl rfl ?_
    refine l_ri dX13_changePixels_25 (fun v7 => ?_)
    refine l_ri dX13_changePixels_26 (fun v8 => ?_)
    exact l_iretn dX13_changePixels_27 rfl (by rfl)
  · refine l_ic dX13_changePixels_12 kI_0 ?_
    refine l_goto (t := 27) dX13_changePixels_13 rfl ?_
    exact l_iretn dX13_changePixels_27 rfl (by rfl)
set_option maxRecDepth 16000 in
theorem w_X13_changeLine (S : xS) (x0 : Nat) (x1 : Int32) (h : xH) : xle ((xGi h x0 12 79).bind fun v1 => if xOb h x0 12 = true then xqI (xM S mX13_lacks [.ref x0, .int x1, .int v1] h) xth fun v4 h3 => if v4 = 0 then ((xGr h3 x0 12 78).bind fun v5 => (xRi h3 0 v5 x1).bind fun v6 => some (.inl (some (.int v6)), h3, 0, 0)) else (some (.inl (some (.int (0 : Int32))), h3, 0, 0)) else none) (xM S mX13_changeLine [.ref x0, .int x1] h) := by
  show xle _ (xden S mX13_changeLine 0 [(0, .ref x0), (1, .int x1)] [] h)
  refine l_loc dX13_changeLine_0 rfl rfl ?_
  refine l_loc dX13_changeLine_1 rfl rfl ?_
  refine l_loc dX13_changeLine_2 rfl rfl ?_
  refine l_gi dX13_changeLine_3 fl_12_467 (fun v1 => ?_)
  refine l_ob fun q2 => ?_
  refine l_cI dX13_changeLine_6 rfl rfl rfl (l_xv cl_12_507 ko_mX13_lacks rfl rfl rfl q2) rfl rfl nm_mX13_lacks (xhE_th rfl) (fun v4 h3 => ?_)
  refine l_ieq (t := 16) dX13_changeLine_9 rfl ?_ ?_
  · refine l_loc dX13_changeLine_16 rfl rfl ?_
    refine l_gr dX13_changeLine_17 fl_12_170 (fun v5 => ?_)
    refine l_loc dX13_changeLine_20 rfl rfl ?_
    refine l_ri dX13_changeLine_21 (fun v6 => ?_)
    exact l_iretn dX13_changeLine_22 rfl (by rfl)
  · refine l_ic dX13_changeLine_12 kI_0 ?_
    refine l_goto (t := 22) dX13_changeLine_13 rfl ?_
    exact l_iretn dX13_changeLine_22 rfl (by rfl)
set_option maxRecDepth 16000 in
theorem w_X13_reportChar (S : xS) (x0 : Nat) (x1 : Int32) (h : xH) : xle ((xP false 12 h x0 12 2 (.int (0 : Int32))).bind fun h1 => (xGi h1 x0 12 35).bind fun v2 => if ¬ v2 = 0 then (if 0 ≤ x1 then ((xGi h1 x0 12 25).bind fun v3 => if v3 ≤ x1 then (some (.inl (some (.int (-1 : Int32))), h1, 0, 0)) else ((xGr h1 x0 12 24).bind fun v4 => (xRi h1 0 v4 x1).bind fun v5 => some (.inl (some (.int v5)), h1, 0, 0))) else (if xOb h1 x0 12 = true then xqI (xM S mX13_fails [.ref x0, .int (2 : Int32)] h1) xth fun v8 h7 => some (.inl (some (.int v8)), h7, 0, 0) else none)) else (if xOb h1 x0 12 = true then xqI (xM S mX13_fails [.ref x0, .int (1 : Int32)] h1) xth fun v11 h10 => some (.inl (some (.int v11)), h10, 0, 0) else none)) (xM S mX13_reportChar [.ref x0, .int x1] h) := by
  show xle _ (xden S mX13_reportChar 0 [(0, .ref x0), (1, .int x1)] [] h)
  refine l_loc dX13_reportChar_0 rfl rfl ?_
  refine l_ic dX13_reportChar_1 kI_0 ?_
  refine l_pf dX13_reportChar_2 fl_12_186 (ini := false) nm_mX13_reportChar (fun h1 => ?_)
  refine l_loc dX13_reportChar_5 rfl rfl ?_
  refine l_gi dX13_reportChar_6 fl_12_502 (fun v2 => ?_)
  refine l_ine (t := 18) dX13_reportChar_9 rfl ?_ ?_
  · refine l_loc dX13_reportChar_18 rfl rfl ?_
    refine l_ige (t := 28) dX13_reportChar_19 rfl ?_ ?_
    · refine l_loc dX13_reportChar_28 rfl rfl ?_
      refine l_loc dX13_reportChar_29 rfl rfl ?_
      refine l_gi dX13_reportChar_30 fl_12_318 (fun v3 => ?_)
      refine l_cge (t := 45) dX13_reportChar_33 rfl ?_ ?_
      · refine l_ic dX13_reportChar_45 kI_m1 ?_
        exact l_iretn dX13_reportChar_46 rfl (by rfl)
      · refine l_loc dX13_reportChar_36 rfl rfl ?_
        refine l_gr dX13_reportChar_37 fl_12_59 (fun v4 => ?_)
        refine l_loc dX13_reportChar_40 rfl rfl ?_
        refine l_ri dX13_reportChar_41 (fun v5 => ?_)
        refine l_goto (t := 46) dX13_reportChar_42 rfl ?_
        exact l_iretn dX13_reportChar_46 rfl (by rfl)
    · refine l_loc dX13_reportChar_22 rfl rfl ?_
      refine l_ic dX13_reportChar_23 kI_2 ?_
      refine l_ob fun q6 => ?_
      refine l_cI dX13_reportChar_24 rfl rfl rfl (l_xv cl_12_206 ko_mX13_fails rfl rfl rfl q6) rfl rfl nm_mX13_fails (xhE_th rfl) (fun v8 h7 => ?_)
      exact l_iretn dX13_reportChar_27 rfl (by rfl)
  · refine l_loc dX13_reportChar_12 rfl rfl ?_
    refine l_ic dX13_reportChar_13 kI_1 ?_
    refine l_ob fun q9 => ?_
    refine l_cI dX13_reportChar_14 rfl rfl rfl (l_xv cl_12_206 ko_mX13_fails rfl rfl rfl q9) rfl rfl nm_mX13_fails (xhE_th rfl) (fun v11 h10 => ?_)
    exact l_iretn dX13_reportChar_17 rfl (by rfl)
set_option maxRecDepth 16000 in
theorem w_X13_learn (S : xS) (x0 : Nat) (x1 : Int32) (h : xH) : xle ((xP false 12 h x0 12 2 (.int (0 : Int32))).bind fun h1 => (xGi h1 x0 12 35).bind fun v2 => if v2 = 0 then (if xOb h1 x0 12 = true then xqI (xM S mX13_fails [.ref x0, .int (1 : Int32)] h1) xth fun v5 h4 => some (.inl (some (.int v5)), h4, 0, 0) else none) else ((xGi h1 x0 12 79).bind fun v6 => xqI (xM S mX13_in [.long (x1.toInt64), .long (0 : Int64), .long (v6 - (1 : Int32)).toInt64] h1) xth fun v8 h7 => if ¬ v8 = 0 then ((xGr h7 x0 12 76).bind fun v9 => (xRi h7 0 v9 x1).bind fun v10 => if xOb h7 x0 12 = true then xqI (xM S mX13_stampFor [.ref x0, .int v10] h7) xth fun v13 h12 => if v13 < 0 then ((xGi h12 x0 12 34).bind fun v14 => if ¬ v14 = (7 : Int32) then ((xGr h12 x0 12 32).bind fun v15 => (xGi h12 x0 12 34).bind fun v16 => if xOb h12 x0 12 = true then xqI (xM S mX13_widthOf [.ref x0, .int v10] h12) xth fun v19 h18 => (xWi h18 v15 v16 v19).bind fun h20 => (xGr h20 x0 12 33).bind fun v21 => (xGi h20 x0 12 34).bind fun v22 => if xOb h20 x0 12 = true then xqI (xM S mX13_heightOf [.ref x0, .int v10] h20) xth fun v25 h24 => (xWi h24 v21 v22 v25).bind fun h26 => (xden S mX13_learn 99 [(0, .ref x0), (2, .int v10), (4, .int (0 : Int32))] [] h26) else none else none) else (if xOb h12 x0 12 = true then xqI (xM S mX13_fails [.ref x0, .int (2 : Int32)] h12) xth fun v29 h28 => some (.inl (some (.int v29)), h28, 0, 0) else none)) else (some (.inl (some (.int v13)), h12, 0, 0)) else none) else (if xOb h7 x0 12 = true then xqI (xM S mX13_fails [.ref x0, .int (1 : Int32)] h7) xth fun v32 h31 => some (.inl (some (.int v32)), h31, 0, 0) else none))) (xM S mX13_learn [.ref x0, .int x1] h) := by
  show xle _ (xden S mX13_learn 0 [(0, .ref x0), (1, .int x1)] [] h)
  refine l_loc dX13_learn_0 rfl rfl ?_
  refine l_ic dX13_learn_1 kI_0 ?_
  refine l_pf dX13_learn_2 fl_12_186 (ini := false) nm_mX13_learn (fun h1 => ?_)
  refine l_loc dX13_learn_5 rfl rfl ?_
  refine l_gi dX13_learn_6 fl_12_502 (fun v2 => ?_)
  refine l_ieq (t := 28) dX13_learn_9 rfl ?_ ?_
  · refine l_loc dX13_learn_28 rfl rfl ?_
    refine l_ic dX13_learn_29 kI_1 ?_
    refine l_ob fun q3 => ?_
    refine l_cI dX13_learn_30 rfl rfl rfl (l_xv cl_12_206 ko_mX13_fails rfl rfl rfl q3) rfl rfl nm_mX13_fails (xhE_th rfl) (fun v5 h4 => ?_)
    exact l_iretn dX13_learn_33 rfl (by rfl)
  · refine l_loc dX13_learn_12 rfl rfl ?_
    refine l_pure dX13_learn_13 rfl rfl ?_
    refine l_lc0 dX13_learn_14 ?_
    refine l_loc dX13_learn_15 rfl rfl ?_
    refine l_gi dX13_learn_16 fl_12_467 (fun v6 => ?_)
    refine l_ic dX13_learn_19 kI_1 ?_
    refine l_pure dX13_learn_20 rfl rfl ?_
    refine l_pure dX13_learn_21 rfl rfl ?_
    refine l_cI dX13_learn_22 rfl rfl rfl (l_xs cl_12_191 ko_mX13_in rfl rfl) rfl rfl nm_mX13_in (xhE_th rfl) (fun v8 h7 => ?_)
    refine l_ine (t := 34) dX13_learn_25 rfl ?_ ?_
    · refine l_loc dX13_learn_34 rfl rfl ?_
      refine l_gr dX13_learn_35 fl_12_164 (fun v9 => ?_)
      refine l_loc dX13_learn_38 rfl rfl ?_
      refine l_ri dX13_learn_39 (fun v10 => ?_)
      refine l_loc (al1 := [(2, .int v10), (0, .ref x0), (1, .int x1)]) dX13_learn_40 rfl rfl ?_
      refine l_loc dX13_learn_41 rfl rfl ?_
      refine l_loc dX13_learn_42 rfl rfl ?_
      refine l_ob fun q11 => ?_
      refine l_cI dX13_learn_43 rfl rfl rfl (l_xv cl_12_464 ko_mX13_stampFor rfl rfl rfl q11) rfl rfl nm_mX13_stampFor (xhE_th rfl) (fun v13 h12 => ?_)
      refine l_loc (al1 := [(3, .int v13), (2, .int v10), (0, .ref x0), (1, .int x1)]) dX13_learn_46 rfl rfl ?_
      refine l_loc dX13_learn_47 rfl rfl ?_
      refine l_ilt (t := 53) dX13_learn_48 rfl ?_ ?_
      · refine l_loc dX13_learn_53 rfl rfl ?_
        refine l_gi dX13_learn_54 fl_12_458 (fun v14 => ?_)
        refine l_bi dX13_learn_57 kB_7 ?_
        refine l_cne (t := 68) dX13_learn_59 rfl ?_ ?_
        · refine l_loc dX13_learn_68 rfl rfl ?_
          refine l_gr dX13_learn_69 fl_12_77 (fun v15 => ?_)
          refine l_loc dX13_learn_72 rfl rfl ?_
          refine l_gi dX13_learn_73 fl_12_458 (fun v16 => ?_)
          refine l_loc dX13_learn_76 rfl rfl ?_
          refine l_loc dX13_learn_77 rfl rfl ?_
          refine l_ob fun q17 => ?_
          refine l_cI dX13_learn_78 rfl rfl rfl (l_xv cl_12_452 ko_mX13_widthOf rfl rfl rfl q17) rfl rfl nm_mX13_widthOf (xhE_th rfl) (fun v19 h18 => ?_)
          refine l_wi dX13_learn_81 (fun h20 => ?_)
          refine l_loc dX13_learn_82 rfl rfl ?_
          refine l_gr dX13_learn_83 fl_12_80 (fun v21 => ?_)
          refine l_loc dX13_learn_86 rfl rfl ?_
          refine l_gi dX13_learn_87 fl_12_458 (fun v22 => ?_)
          refine l_loc dX13_learn_90 rfl rfl ?_
          refine l_loc dX13_learn_91 rfl rfl ?_
          refine l_ob fun q23 => ?_
          refine l_cI dX13_learn_92 rfl rfl rfl (l_xv cl_12_455 ko_mX13_heightOf rfl rfl rfl q23) rfl rfl nm_mX13_heightOf (xhE_th rfl) (fun v25 h24 => ?_)
          refine l_wi dX13_learn_95 (fun h26 => ?_)
          refine l_ic dX13_learn_96 kI_0 ?_
          refine l_loc (al1 := [(4, .int (0 : Int32)), (3, .int v13), (2, .int v10), (0, .ref x0), (1, .int x1)]) dX13_learn_97 rfl rfl ?_
          exact l_al rfl ⟨rfl, rfl, rfl, trivial⟩
        · refine l_loc dX13_learn_62 rfl rfl ?_
          refine l_ic dX13_learn_63 kI_2 ?_
          refine l_ob fun q27 => ?_
          refine l_cI dX13_learn_64 rfl rfl rfl (l_xv cl_12_206 ko_mX13_fails rfl rfl rfl q27) rfl rfl nm_mX13_fails (xhE_th rfl) (fun v29 h28 => ?_)
          exact l_iretn dX13_learn_67 rfl (by rfl)
      · refine l_loc dX13_learn_51 rfl rfl ?_
        exact l_iretn dX13_learn_52 rfl (by rfl)
    · refine l_loc dX13_learn_28 rfl rfl ?_
      refine l_ic dX13_learn_29 kI_1 ?_
      refine l_ob fun q30 => ?_
      refine l_cI dX13_learn_30 rfl rfl rfl (l_xv cl_12_206 ko_mX13_fails rfl rfl rfl q30) rfl rfl nm_mX13_fails (xhE_th rfl) (fun v32 h31 => ?_)
      exact l_iretn dX13_learn_33 rfl (by rfl)
set_option maxRecDepth 16000 in
theorem w_X13_learn_99 (S : xS) (x0 : Nat) (x2 : Int32) (x4 : Int32) (h : xH) : xle (if (4096 : Int32) ≤ x4 then ((xGi h x0 12 34).bind fun v1 => (xP false 12 h x0 12 34 (.int (v1 + (1 : Int32)))).bind fun h2 => (xGi h2 x0 12 34).bind fun v3 => some (.inl (some (.int (v3 - (1 : Int32)))), h2, 0, 0)) else (xlet (x4 - x4 / (64 : Int32) * (64 : Int32)) fun v4 => xlet (x4 / (64 : Int32)) fun v5 => if xOb h x0 12 = true then xqI (xM S mX13_widthOf [.ref x0, .int x2] h) xth fun v8 h7 => if v8 ≤ v4 then (xden S mX13_learn 146 [(0, .ref x0), (2, .int x2), (4, .int x4), (5, .int v4), (6, .int v5)] [.int (0 : Int32)] h7) else (if xOb h7 x0 12 = true then xqI (xM S mX13_heightOf [.ref x0, .int x2] h7) xth fun v11 h10 => if v11 ≤ v5 then (xden S mX13_learn 146 [(0, .ref x0), (2, .int x2), (4, .int x4), (5, .int v4), (6, .int v5)] [.int (0 : Int32)] h10) else (xden S mX13_learn 146 [(0, .ref x0), (2, .int x2), (4, .int x4), (5, .int v4), (6, .int v5)] [.int (1 : Int32)] h10) else none) else none)) (xden S mX13_learn 99 [(0, .ref x0), (2, .int x2), (4, .int x4)] [] h) := by
  refine l_loc dX13_learn_99 rfl rfl ?_
  refine l_si dX13_learn_101 kS_4096 ?_
  refine l_cge (t := 210) dX13_learn_104 rfl ?_ ?_
  · refine l_loc dX13_learn_210 rfl rfl ?_
    refine l_pure dX13_learn_211 rfl rfl ?_
    refine l_gi dX13_learn_212 fl_12_458 (fun v1 => ?_)
    refine l_ic dX13_learn_215 kI_1 ?_
    refine l_pure dX13_learn_216 rfl rfl ?_
    refine l_pf dX13_learn_217 fl_12_458 (ini := false) nm_mX13_learn (fun h2 => ?_)
    refine l_loc dX13_learn_220 rfl rfl ?_
    refine l_gi dX13_learn_221 fl_12_458 (fun v3 => ?_)
    refine l_ic dX13_learn_224 kI_1 ?_
    refine l_pure dX13_learn_225 rfl rfl ?_
    exact l_iretn dX13_learn_226 rfl (by rfl)
  · refine l_loc dX13_learn_107 rfl rfl ?_
    refine l_bi dX13_learn_109 kB_64 ?_
    refine l_remn dX13_learn_111 (by decide) ?_
    refine l_isl (al1 := fun v4 => [(5, .int v4), (0, .ref x0), (2, .int x2), (4, .int x4)]) dX13_learn_112 rfl (fun _ => rfl) (fun v4 => ?_)
    refine l_loc dX13_learn_114 rfl rfl ?_
    refine l_bi dX13_learn_116 kB_64 ?_
    refine l_divn dX13_learn_118 (by decide) ?_
    refine l_isl (al1 := fun v5 => [(6, .int v5), (5, .int v4), (0, .ref x0), (2, .int x2), (4, .int x4)]) dX13_learn_119 rfl (fun _ => rfl) (fun v5 => ?_)
    refine l_loc dX13_learn_121 rfl rfl ?_
    refine l_loc dX13_learn_123 rfl rfl ?_
    refine l_loc dX13_learn_124 rfl rfl ?_
    refine l_ob fun q6 => ?_
    refine l_cI dX13_learn_125 rfl rfl rfl (l_xv cl_12_452 ko_mX13_widthOf rfl rfl rfl q6) rfl rfl nm_mX13_widthOf (xhE_th rfl) (fun v8 h7 => ?_)
    refine l_cge (t := 145) dX13_learn_128 rfl ?_ ?_
    · refine l_ic dX13_learn_145 kI_0 ?_
      exact l_al rfl ⟨rfl, rfl, rfl, rfl, rfl, trivial⟩
    · refine l_loc dX13_learn_131 rfl rfl ?_
      refine l_loc dX13_learn_133 rfl rfl ?_
      refine l_loc dX13_learn_134 rfl rfl ?_
      refine l_ob fun q9 => ?_
      refine l_cI dX13_learn_135 rfl rfl rfl (l_xv cl_12_455 ko_mX13_heightOf rfl rfl rfl q9) rfl rfl nm_mX13_heightOf (xhE_th rfl) (fun v11 h10 => ?_)
      refine l_cge (t := 145) dX13_learn_138 rfl ?_ ?_
      · refine l_ic dX13_learn_145 kI_0 ?_
        exact l_al rfl ⟨rfl, rfl, rfl, rfl, rfl, trivial⟩
      · refine l_ic dX13_learn_141 kI_1 ?_
        refine l_goto (t := 146) dX13_learn_142 rfl ?_
        exact l_al rfl ⟨rfl, rfl, rfl, rfl, rfl, trivial⟩
set_option maxRecDepth 16000 in
theorem w_X13_learn_146 (S : xS) (x0 : Nat) (x2 : Int32) (x4 : Int32) (x5 : Int32) (x6 : Int32) (z0 : Int32) (h : xH) : xle ((xGr h x0 12 31).bind fun v1 => (xGi h x0 12 34).bind fun v2 => if z0 = 0 then ((xWz h v1 (((4096 : Int32) * v2) + x4) (0 : Int32)).bind fun h3 => xlet (x4 + (1 : Int32)) fun v4 => (xden S mX13_learn 99 [(0, .ref x0), (2, .int x2), (4, .int v4)] [] h3)) else ((xGr h x0 12 72).bind fun v5 => (xRi h 0 v5 x2).bind fun v6 => (xGr h x0 12 71).bind fun v7 => (xRi h 0 v7 x2).bind fun v8 => if xOb h x0 12 = true then xqI (xM S mX13_isOf [.ref x0, .int x2, .int ((((64 : Int32) * (v6 + x6)) + v8) + x5)] h) xth fun v11 h10 => if v11 = 0 then ((xWz h10 v1 (((4096 : Int32) * v2) + x4) (0 : Int32)).bind fun h12 => xlet (x4 + (1 : Int32)) fun v13 => (xden S mX13_learn 99 [(0, .ref x0), (2, .int x2), (4, .int v13)] [] h12)) else ((xWz h10 v1 (((4096 : Int32) * v2) + x4) (1 : Int32)).bind fun h14 => xlet (x4 + (1 : Int32)) fun v15 => (xden S mX13_learn 99 [(0, .ref x0), (2, .int x2), (4, .int v15)] [] h14)) else none)) (xden S mX13_learn 146 [(0, .ref x0), (2, .int x2), (4, .int x4), (5, .int x5), (6, .int x6)] [.int z0] h) := by
  refine l_loc (al1 := [(7, .int z0), (0, .ref x0), (2, .int x2), (4, .int x4), (5, .int x5), (6, .int x6)]) dX13_learn_146 rfl rfl ?_
  refine l_loc dX13_learn_148 rfl rfl ?_
  refine l_gr dX13_learn_149 fl_12_74 (fun v1 => ?_)
  refine l_si dX13_learn_152 kS_4096 ?_
  refine l_loc dX13_learn_155 rfl rfl ?_
  refine l_gi dX13_learn_156 fl_12_458 (fun v2 => ?_)
  refine l_pure dX13_learn_159 rfl rfl ?_
  refine l_loc dX13_learn_160 rfl rfl ?_
  refine l_pure dX13_learn_162 rfl rfl ?_
  refine l_loc dX13_learn_163 rfl rfl ?_
  refine l_ieq (t := 202) dX13_learn_165 rfl ?_ ?_
  · refine l_ic dX13_learn_202 kI_0 ?_
    refine l_wz dX13_learn_203 (fun h3 => ?_)
    refine l_incl (al1 := fun v4 => [(4, .int v4), (7, .int z0), (0, .ref x0), (2, .int x2), (5, .int x5), (6, .int x6)]) dX13_learn_204 rfl kI_1 rfl (fun _ => rfl) (fun v4 => ?_)
    refine l_goto (t := 99) dX13_learn_207 rfl ?_
    exact l_al rfl ⟨rfl, rfl, rfl, trivial⟩
  · refine l_loc dX13_learn_168 rfl rfl ?_
    refine l_loc dX13_learn_169 rfl rfl ?_
    refine l_bi dX13_learn_170 kB_64 ?_
    refine l_loc dX13_learn_172 rfl rfl ?_
    refine l_gr dX13_learn_173 fl_12_152 (fun v5 => ?_)
    refine l_loc dX13_learn_176 rfl rfl ?_
    refine l_ri dX13_learn_177 (fun v6 => ?_)
    refine l_loc dX13_learn_178 rfl rfl ?_
    refine l_pure dX13_learn_180 rfl rfl ?_
    refine l_pure dX13_learn_181 rfl rfl ?_
    refine l_loc dX13_learn_182 rfl rfl ?_
    refine l_gr dX13_learn_183 fl_12_149 (fun v7 => ?_)
    refine l_loc dX13_learn_186 rfl rfl ?_
    refine l_ri dX13_learn_187 (fun v8 => ?_)
    refine l_pure dX13_learn_188 rfl rfl ?_
    refine l_loc dX13_learn_189 rfl rfl ?_
    refine l_pure dX13_learn_191 rfl rfl ?_
    refine l_ob fun q9 => ?_
    refine l_cI dX13_learn_192 rfl rfl rfl (l_xv cl_12_449 ko_mX13_isOf rfl rfl rfl q9) rfl rfl nm_mX13_isOf (xhE_th rfl) (fun v11 h10 => ?_)
    refine l_ieq (t := 202) dX13_learn_195 rfl ?_ ?_
    · refine l_ic dX13_learn_202 kI_0 ?_
      refine l_wz dX13_learn_203 (fun h12 => ?_)
      refine l_incl (al1 := fun v13 => [(4, .int v13), (7, .int z0), (0, .ref x0), (2, .int x2), (5, .int x5), (6, .int x6)]) dX13_learn_204 rfl kI_1 rfl (fun _ => rfl) (fun v13 => ?_)
      refine l_goto (t := 99) dX13_learn_207 rfl ?_
      exact l_al rfl ⟨rfl, rfl, rfl, trivial⟩
    · refine l_ic dX13_learn_198 kI_1 ?_
      refine l_goto (t := 203) dX13_learn_199 rfl ?_
      refine l_wz dX13_learn_203 (fun h14 => ?_)
      refine l_incl (al1 := fun v15 => [(4, .int v15), (7, .int z0), (0, .ref x0), (2, .int x2), (5, .int x5), (6, .int x6)]) dX13_learn_204 rfl kI_1 rfl (fun _ => rfl) (fun v15 => ?_)
      refine l_goto (t := 99) dX13_learn_207 rfl ?_
      exact l_al rfl ⟨rfl, rfl, rfl, trivial⟩
set_option maxRecDepth 16000 in
theorem w_X13_stampOf (S : xS) (x0 : Nat) (x1 : Int32) (h : xH) : xle ((xGi h x0 12 79).bind fun v1 => if xOb h x0 12 = true then xqI (xM S mX13_lacks [.ref x0, .int x1, .int v1] h) xth fun v4 h3 => if v4 = 0 then ((xGr h3 x0 12 76).bind fun v5 => (xRi h3 0 v5 x1).bind fun v6 => if xOb h3 x0 12 = true then xqI (xM S mX13_stampFor [.ref x0, .int v6] h3) xth fun v9 h8 => some (.inl (some (.int v9)), h8, 0, 0) else none) else (some (.inl (some (.int (0 : Int32))), h3, 0, 0)) else none) (xM S mX13_stampOf [.ref x0, .int x1] h) := by
  show xle _ (xden S mX13_stampOf 0 [(0, .ref x0), (1, .int x1)] [] h)
  refine l_loc dX13_stampOf_0 rfl rfl ?_
  refine l_loc dX13_stampOf_1 rfl rfl ?_
  refine l_loc dX13_stampOf_2 rfl rfl ?_
  refine l_gi dX13_stampOf_3 fl_12_467 (fun v1 => ?_)
  refine l_ob fun q2 => ?_
  refine l_cI dX13_stampOf_6 rfl rfl rfl (l_xv cl_12_507 ko_mX13_lacks rfl rfl rfl q2) rfl rfl nm_mX13_lacks (xhE_th rfl) (fun v4 h3 => ?_)
  refine l_ieq (t := 16) dX13_stampOf_9 rfl ?_ ?_
  · refine l_loc dX13_stampOf_16 rfl rfl ?_
    refine l_loc dX13_stampOf_17 rfl rfl ?_
    refine l_gr dX13_stampOf_18 fl_12_164 (fun v5 => ?_)
    refine l_loc dX13_stampOf_21 rfl rfl ?_
    refine l_ri dX13_stampOf_22 (fun v6 => ?_)
    refine l_ob fun q7 => ?_
    refine l_cI dX13_stampOf_23 rfl rfl rfl (l_xv cl_12_464 ko_mX13_stampFor rfl rfl rfl q7) rfl rfl nm_mX13_stampFor (xhE_th rfl) (fun v9 h8 => ?_)
    exact l_iretn dX13_stampOf_26 rfl (by rfl)
  · refine l_ic dX13_stampOf_12 kI_0 ?_
    refine l_goto (t := 26) dX13_stampOf_13 rfl ?_
    exact l_iretn dX13_stampOf_26 rfl (by rfl)
set_option maxRecDepth 16000 in
theorem w_X13_forgetStamp (S : xS) (x0 : Nat) (x1 : Int32) (h : xH) : xle ((xP false 12 h x0 12 2 (.int (0 : Int32))).bind fun h1 => (xGi h1 x0 12 34).bind fun v2 => xqI (xM S mX13_in [.long (x1.toInt64), .long (0 : Int64), .long (v2 - (1 : Int32)).toInt64] h1) xth fun v4 h3 => if ¬ v4 = 0 then ((xGi h3 x0 12 34).bind fun v5 => (xP false 12 h3 x0 12 34 (.int (v5 - (1 : Int32)))).bind fun h6 => (xden S mX13_forgetStamp 39 [(0, .ref x0), (2, .int x1)] [] h6)) else (if xOb h3 x0 12 = true then xqI (xM S mX13_fails [.ref x0, .int (1 : Int32)] h3) xth fun v9 h8 => some (.inl (some (.int v9)), h8, 0, 0) else none)) (xM S mX13_forgetStamp [.ref x0, .int x1] h) := by
  show xle _ (xden S mX13_forgetStamp 0 [(0, .ref x0), (1, .int x1)] [] h)
  refine l_loc dX13_forgetStamp_0 rfl rfl ?_
  refine l_ic dX13_forgetStamp_1 kI_0 ?_
  refine l_pf dX13_forgetStamp_2 fl_12_186 (ini := false) nm_mX13_forgetStamp (fun h1 => ?_)
  refine l_loc dX13_forgetStamp_5 rfl rfl ?_
  refine l_pure dX13_forgetStamp_6 rfl rfl ?_
  refine l_lc0 dX13_forgetStamp_7 ?_
  refine l_loc dX13_forgetStamp_8 rfl rfl ?_
  refine l_gi dX13_forgetStamp_9 fl_12_458 (fun v2 => ?_)
  refine l_ic dX13_forgetStamp_12 kI_1 ?_
  refine l_pure dX13_forgetStamp_13 rfl rfl ?_
  refine l_pure dX13_forgetStamp_14 rfl rfl ?_
  refine l_cI dX13_forgetStamp_15 rfl rfl rfl (l_xs cl_12_191 ko_mX13_in rfl rfl) rfl rfl nm_mX13_in (xhE_th rfl) (fun v4 h3 => ?_)
  refine l_ine (t := 27) dX13_forgetStamp_18 rfl ?_ ?_
  · refine l_loc dX13_forgetStamp_27 rfl rfl ?_
    refine l_pure dX13_forgetStamp_28 rfl rfl ?_
    refine l_gi dX13_forgetStamp_29 fl_12_458 (fun v5 => ?_)
    refine l_ic dX13_forgetStamp_32 kI_1 ?_
    refine l_pure dX13_forgetStamp_33 rfl rfl ?_
    refine l_pf dX13_forgetStamp_34 fl_12_458 (ini := false) nm_mX13_forgetStamp (fun h6 => ?_)
    refine l_loc dX13_forgetStamp_37 rfl rfl ?_
    refine l_loc (al1 := [(2, .int x1), (0, .ref x0), (1, .int x1)]) dX13_forgetStamp_38 rfl rfl ?_
    exact l_al rfl ⟨rfl, rfl, trivial⟩
  · refine l_loc dX13_forgetStamp_21 rfl rfl ?_
    refine l_ic dX13_forgetStamp_22 kI_1 ?_
    refine l_ob fun q7 => ?_
    refine l_cI dX13_forgetStamp_23 rfl rfl rfl (l_xv cl_12_206 ko_mX13_fails rfl rfl rfl q7) rfl rfl nm_mX13_fails (xhE_th rfl) (fun v9 h8 => ?_)
    exact l_iretn dX13_forgetStamp_26 rfl (by rfl)
set_option maxRecDepth 16000 in
theorem w_X13_forgetStamp_39 (S : xS) (x0 : Nat) (x2 : Int32) (h : xH) : xle ((xGi h x0 12 34).bind fun v1 => if v1 ≤ x2 then ((xGi h x0 12 34).bind fun v2 => some (.inl (some (.int v2)), h, 0, 0)) else ((xGr h x0 12 32).bind fun v3 => (xGr h x0 12 32).bind fun v4 => (xRi h 0 v4 (x2 + (1 : Int32))).bind fun v5 => (xWi h v3 x2 v5).bind fun h6 => (xGr h6 x0 12 33).bind fun v7 => (xGr h6 x0 12 33).bind fun v8 => (xRi h6 0 v8 (x2 + (1 : Int32))).bind fun v9 => (xWi h6 v7 x2 v9).bind fun h10 => (xden S mX13_forgetStamp 77 [(0, .ref x0), (2, .int x2), (3, .int (0 : Int32))] [] h10))) (xden S mX13_forgetStamp 39 [(0, .ref x0), (2, .int x2)] [] h) := by
  refine l_loc dX13_forgetStamp_39 rfl rfl ?_
  refine l_loc dX13_forgetStamp_40 rfl rfl ?_
  refine l_gi dX13_forgetStamp_41 fl_12_458 (fun v1 => ?_)
  refine l_cge (t := 122) dX13_forgetStamp_44 rfl ?_ ?_
  · refine l_loc dX13_forgetStamp_122 rfl rfl ?_
    refine l_gi dX13_forgetStamp_123 fl_12_458 (fun v2 => ?_)
    exact l_iretn dX13_forgetStamp_126 rfl (by rfl)
  · refine l_loc dX13_forgetStamp_47 rfl rfl ?_
    refine l_gr dX13_forgetStamp_48 fl_12_77 (fun v3 => ?_)
    refine l_loc dX13_forgetStamp_51 rfl rfl ?_
    refine l_loc dX13_forgetStamp_52 rfl rfl ?_
    refine l_gr dX13_forgetStamp_53 fl_12_77 (fun v4 => ?_)
    refine l_loc dX13_forgetStamp_56 rfl rfl ?_
    refine l_ic dX13_forgetStamp_57 kI_1 ?_
    refine l_pure dX13_forgetStamp_58 rfl rfl ?_
    refine l_ri dX13_forgetStamp_59 (fun v5 => ?_)
    refine l_wi dX13_forgetStamp_60 (fun h6 => ?_)
    refine l_loc dX13_forgetStamp_61 rfl rfl ?_
    refine l_gr dX13_forgetStamp_62 fl_12_80 (fun v7 => ?_)
    refine l_loc dX13_forgetStamp_65 rfl rfl ?_
    refine l_loc dX13_forgetStamp_66 rfl rfl ?_
    refine l_gr dX13_forgetStamp_67 fl_12_80 (fun v8 => ?_)
    refine l_loc dX13_forgetStamp_70 rfl rfl ?_
    refine l_ic dX13_forgetStamp_71 kI_1 ?_
    refine l_pure dX13_forgetStamp_72 rfl rfl ?_
    refine l_ri dX13_forgetStamp_73 (fun v9 => ?_)
    refine l_wi dX13_forgetStamp_74 (fun h10 => ?_)
    refine l_ic dX13_forgetStamp_75 kI_0 ?_
    refine l_loc (al1 := [(3, .int (0 : Int32)), (0, .ref x0), (2, .int x2)]) dX13_forgetStamp_76 rfl rfl ?_
    exact l_al rfl ⟨rfl, rfl, rfl, trivial⟩
set_option maxRecDepth 16000 in
theorem w_X13_forgetStamp_77 (S : xS) (x0 : Nat) (x2 : Int32) (x3 : Int32) (h : xH) : xle (if (4096 : Int32) ≤ x3 then (xlet (x2 + (1 : Int32)) fun v1 => (xden S mX13_forgetStamp 39 [(0, .ref x0), (2, .int v1)] [] h)) else ((xGr h x0 12 31).bind fun v2 => (xGr h x0 12 31).bind fun v3 => (xRi h 2 v3 (((4096 : Int32) * (x2 + (1 : Int32))) + x3)).bind fun v4 => (xWz h v2 (((4096 : Int32) * x2) + x3) v4).bind fun h5 => xlet (x3 + (1 : Int32)) fun v6 => (xden S mX13_forgetStamp 77 [(0, .ref x0), (2, .int x2), (3, .int v6)] [] h5))) (xden S mX13_forgetStamp 77 [(0, .ref x0), (2, .int x2), (3, .int x3)] [] h) := by
  refine l_loc dX13_forgetStamp_77 rfl rfl ?_
  refine l_si dX13_forgetStamp_78 kS_4096 ?_
  refine l_cge (t := 116) dX13_forgetStamp_81 rfl ?_ ?_
  · refine l_incl (al1 := fun v1 => [(2, .int v1), (0, .ref x0), (3, .int x3)]) dX13_forgetStamp_116 rfl kI_1 rfl (fun _ => rfl) (fun v1 => ?_)
    refine l_goto (t := 39) dX13_forgetStamp_119 rfl ?_
    exact l_al rfl ⟨rfl, rfl, trivial⟩
  · refine l_loc dX13_forgetStamp_84 rfl rfl ?_
    refine l_gr dX13_forgetStamp_85 fl_12_74 (fun v2 => ?_)
    refine l_si dX13_forgetStamp_88 kS_4096 ?_
    refine l_loc dX13_forgetStamp_91 rfl rfl ?_
    refine l_pure dX13_forgetStamp_92 rfl rfl ?_
    refine l_loc dX13_forgetStamp_93 rfl rfl ?_
    refine l_pure dX13_forgetStamp_94 rfl rfl ?_
    refine l_loc dX13_forgetStamp_95 rfl rfl ?_
    refine l_gr dX13_forgetStamp_96 fl_12_74 (fun v3 => ?_)
    refine l_si dX13_forgetStamp_99 kS_4096 ?_
    refine l_loc dX13_forgetStamp_102 rfl rfl ?_
    refine l_ic dX13_forgetStamp_103 kI_1 ?_
    refine l_pure dX13_forgetStamp_104 rfl rfl ?_
    refine l_pure dX13_forgetStamp_105 rfl rfl ?_
    refine l_loc dX13_forgetStamp_106 rfl rfl ?_
    refine l_pure dX13_forgetStamp_107 rfl rfl ?_
    refine l_rz dX13_forgetStamp_108 (fun v4 => ?_)
    refine l_wz dX13_forgetStamp_109 (fun h5 => ?_)
    refine l_incl (al1 := fun v6 => [(3, .int v6), (0, .ref x0), (2, .int x2)]) dX13_forgetStamp_110 rfl kI_1 rfl (fun _ => rfl) (fun v6 => ?_)
    refine l_goto (t := 77) dX13_forgetStamp_113 rfl ?_
    exact l_al rfl ⟨rfl, rfl, rfl, trivial⟩
set_option maxRecDepth 16000 in
theorem w_X13_accept (S : xS) (x0 : Nat) (x1 : Int32) (h : xH) : xle ((xGi h x0 12 79).bind fun v1 => if xOb h x0 12 = true then xqI (xM S mX13_lacks [.ref x0, .int x1, .int v1] h) xth fun v4 h3 => if v4 = 0 then (if xOb h3 x0 12 = true then xqV (xM S mX13_takes [.ref x0, .int (0 : Int32)] h3) xth fun h6 => (xGr h6 x0 12 76).bind fun v8 => (xRi h6 0 v8 x1).bind fun v9 => (xGr h6 x0 12 77).bind fun v10 => (xRi h6 0 v10 x1).bind fun v11 => (xden S mX13_accept 36 [(0, .ref x0), (2, .int v9), (3, .int v11), (4, .int (0 : Int32))] [] h6) else none) else (some (.inl (some (.int (0 : Int32))), h3, 0, 0)) else none) (xM S mX13_accept [.ref x0, .int x1] h) := by
  show xle _ (xden S mX13_accept 0 [(0, .ref x0), (1, .int x1)] [] h)
  refine l_loc dX13_accept_0 rfl rfl ?_
  refine l_loc dX13_accept_1 rfl rfl ?_
  refine l_loc dX13_accept_2 rfl rfl ?_
  refine l_gi dX13_accept_3 fl_12_467 (fun v1 => ?_)
  refine l_ob fun q2 => ?_
  refine l_cI dX13_accept_6 rfl rfl rfl (l_xv cl_12_507 ko_mX13_lacks rfl rfl rfl q2) rfl rfl nm_mX13_lacks (xhE_th rfl) (fun v4 h3 => ?_)
  refine l_ieq (t := 14) dX13_accept_9 rfl ?_ ?_
  · refine l_loc dX13_accept_14 rfl rfl ?_
    refine l_ic dX13_accept_15 kI_0 ?_
    refine l_ob fun q5 => ?_
    refine l_cV dX13_accept_16 rfl rfl rfl (l_xv cl_12_214 ko_mX13_takes rfl rfl rfl q5) rfl rfl nm_mX13_takes (xhE_th rfl) (fun h6 => ?_)
    refine l_loc dX13_accept_19 rfl rfl ?_
    refine l_gr dX13_accept_20 fl_12_164 (fun v8 => ?_)
    refine l_loc dX13_accept_23 rfl rfl ?_
    refine l_ri dX13_accept_24 (fun v9 => ?_)
    refine l_loc (al1 := [(2, .int v9), (0, .ref x0), (1, .int x1)]) dX13_accept_25 rfl rfl ?_
    refine l_loc dX13_accept_26 rfl rfl ?_
    refine l_gr dX13_accept_27 fl_12_167 (fun v10 => ?_)
    refine l_loc dX13_accept_30 rfl rfl ?_
    refine l_ri dX13_accept_31 (fun v11 => ?_)
    refine l_loc (al1 := [(3, .int v11), (2, .int v9), (0, .ref x0), (1, .int x1)]) dX13_accept_32 rfl rfl ?_
    refine l_ic dX13_accept_33 kI_0 ?_
    refine l_loc (al1 := [(4, .int (0 : Int32)), (3, .int v11), (2, .int v9), (0, .ref x0), (1, .int x1)]) dX13_accept_34 rfl rfl ?_
    exact l_al rfl ⟨rfl, rfl, rfl, rfl, trivial⟩
  · refine l_ic dX13_accept_12 kI_0 ?_
    exact l_iretn dX13_accept_13 rfl (by rfl)
set_option maxRecDepth 16000 in
theorem w_X13_accept_36 (S : xS) (x0 : Nat) (x2 : Int32) (x3 : Int32) (x4 : Int32) (h : xH) : xle (if (4096 : Int32) ≤ x4 then (xden S mX13_accept 92 [(0, .ref x0), (3, .int x3), (4, .int (0 : Int32))] [] h) else ((xGr h x0 12 7).bind fun v1 => if xOb h x0 12 = true then xqI (xM S mX13_isOf [.ref x0, .int x2, .int x4] h) xth fun v4 h3 => if v4 = 0 then ((xGr h3 x0 12 7).bind fun v5 => (xRi h3 2 v5 x4).bind fun v6 => (xWz h3 v1 x4 v6).bind fun h7 => xlet (x4 + (1 : Int32)) fun v8 => (xden S mX13_accept 36 [(0, .ref x0), (2, .int x2), (3, .int x3), (4, .int v8)] [] h7)) else (if ¬ (x2 - x2 / (2 : Int32) * (2 : Int32)) = (1 : Int32) then ((xWz h3 v1 x4 (0 : Int32)).bind fun h9 => xlet (x4 + (1 : Int32)) fun v10 => (xden S mX13_accept 36 [(0, .ref x0), (2, .int x2), (3, .int x3), (4, .int v10)] [] h9)) else ((xWz h3 v1 x4 (1 : Int32)).bind fun h11 => xlet (x4 + (1 : Int32)) fun v12 => (xden S mX13_accept 36 [(0, .ref x0), (2, .int x2), (3, .int x3), (4, .int v12)] [] h11))) else none)) (xden S mX13_accept 36 [(0, .ref x0), (2, .int x2), (3, .int x3), (4, .int x4)] [] h) := by
  refine l_loc dX13_accept_36 rfl rfl ?_
  refine l_si dX13_accept_38 kS_4096 ?_
  refine l_cge (t := 89) dX13_accept_41 rfl ?_ ?_
  · refine l_ic dX13_accept_89 kI_0 ?_
    refine l_loc (al1 := [(4, .int (0 : Int32)), (0, .ref x0), (2, .int x2), (3, .int x3)]) dX13_accept_90 rfl rfl ?_
    exact l_al rfl ⟨rfl, rfl, rfl, trivial⟩
  · refine l_loc dX13_accept_44 rfl rfl ?_
    refine l_gr dX13_accept_45 fl_12_21 (fun v1 => ?_)
    refine l_loc dX13_accept_48 rfl rfl ?_
    refine l_loc dX13_accept_50 rfl rfl ?_
    refine l_loc dX13_accept_51 rfl rfl ?_
    refine l_loc dX13_accept_52 rfl rfl ?_
    refine l_ob fun q2 => ?_
    refine l_cI dX13_accept_54 rfl rfl rfl (l_xv cl_12_449 ko_mX13_isOf rfl rfl rfl q2) rfl rfl nm_mX13_isOf (xhE_th rfl) (fun v4 h3 => ?_)
    refine l_ieq (t := 75) dX13_accept_57 rfl ?_ ?_
    · refine l_loc dX13_accept_75 rfl rfl ?_
      refine l_gr dX13_accept_76 fl_12_21 (fun v5 => ?_)
      refine l_loc dX13_accept_79 rfl rfl ?_
      refine l_rz dX13_accept_81 (fun v6 => ?_)
      refine l_wz dX13_accept_82 (fun h7 => ?_)
      refine l_incl (al1 := fun v8 => [(4, .int v8), (0, .ref x0), (2, .int x2), (3, .int x3)]) dX13_accept_83 rfl kI_1 rfl (fun _ => rfl) (fun v8 => ?_)
      refine l_goto (t := 36) dX13_accept_86 rfl ?_
      exact l_al rfl ⟨rfl, rfl, rfl, rfl, trivial⟩
    · refine l_loc dX13_accept_60 rfl rfl ?_
      refine l_ic dX13_accept_61 kI_2 ?_
      refine l_remn dX13_accept_62 (by decide) ?_
      refine l_ic dX13_accept_63 kI_1 ?_
      refine l_cne (t := 71) dX13_accept_64 rfl ?_ ?_
      · refine l_ic dX13_accept_71 kI_0 ?_
        refine l_goto (t := 82) dX13_accept_72 rfl ?_
        refine l_wz dX13_accept_82 (fun h9 => ?_)
        refine l_incl (al1 := fun v10 => [(4, .int v10), (0, .ref x0), (2, .int x2), (3, .int x3)]) dX13_accept_83 rfl kI_1 rfl (fun _ => rfl) (fun v10 => ?_)
        refine l_goto (t := 36) dX13_accept_86 rfl ?_
        exact l_al rfl ⟨rfl, rfl, rfl, rfl, trivial⟩
      · refine l_ic dX13_accept_67 kI_1 ?_
        refine l_goto (t := 82) dX13_accept_68 rfl ?_
        refine l_wz dX13_accept_82 (fun h11 => ?_)
        refine l_incl (al1 := fun v12 => [(4, .int v12), (0, .ref x0), (2, .int x2), (3, .int x3)]) dX13_accept_83 rfl kI_1 rfl (fun _ => rfl) (fun v12 => ?_)
        refine l_goto (t := 36) dX13_accept_86 rfl ?_
        exact l_al rfl ⟨rfl, rfl, rfl, rfl, trivial⟩
set_option maxRecDepth 16000 in
theorem w_X13_accept_92 (S : xS) (x0 : Nat) (x3 : Int32) (x4 : Int32) (h : xH) : xle (if (4096 : Int32) ≤ x4 then (if xOb h x0 12 = true then xqI (xM S mX13_edits [.ref x0, .int (0 : Int32)] h) xth fun v3 h2 => some (.inl (some (.int v3)), h2, 0, 0) else none) else (if x3 < 0 then (if xOb h x0 12 = true then xqI (xM S mX13_edits [.ref x0, .int (0 : Int32)] h) xth fun v6 h5 => some (.inl (some (.int v6)), h5, 0, 0) else none) else ((xGr h x0 12 7).bind fun v7 => (xGr h x0 12 7).bind fun v8 => (xRi h 2 v8 x4).bind fun v9 => if ¬ v9 = 0 then ((xWz h v7 x4 (1 : Int32)).bind fun h10 => xlet (x4 + (1 : Int32)) fun v11 => (xden S mX13_accept 92 [(0, .ref x0), (3, .int x3), (4, .int v11)] [] h10)) else (if xOb h x0 12 = true then xqI (xM S mX13_isOf [.ref x0, .int x3, .int x4] h) xth fun v14 h13 => if v14 = 0 then ((xWz h13 v7 x4 (0 : Int32)).bind fun h15 => xlet (x4 + (1 : Int32)) fun v16 => (xden S mX13_accept 92 [(0, .ref x0), (3, .int x3), (4, .int v16)] [] h15)) else ((xWz h13 v7 x4 (1 : Int32)).bind fun h17 => xlet (x4 + (1 : Int32)) fun v18 => (xden S mX13_accept 92 [(0, .ref x0), (3, .int x3), (4, .int v18)] [] h17)) else none)))) (xden S mX13_accept 92 [(0, .ref x0), (3, .int x3), (4, .int x4)] [] h) := by
  refine l_loc dX13_accept_92 rfl rfl ?_
  refine l_si dX13_accept_94 kS_4096 ?_
  refine l_cge (t := 142) dX13_accept_97 rfl ?_ ?_
  · refine l_loc dX13_accept_142 rfl rfl ?_
    refine l_ic dX13_accept_143 kI_0 ?_
    refine l_ob fun q1 => ?_
    refine l_cI dX13_accept_144 rfl rfl rfl (l_xv cl_12_218 ko_mX13_edits rfl rfl rfl q1) rfl rfl nm_mX13_edits (xhE_th rfl) (fun v3 h2 => ?_)
    exact l_iretn dX13_accept_147 rfl (by rfl)
  · refine l_loc dX13_accept_100 rfl rfl ?_
    refine l_ilt (t := 142) dX13_accept_101 rfl ?_ ?_
    · refine l_loc dX13_accept_142 rfl rfl ?_
      refine l_ic dX13_accept_143 kI_0 ?_
      refine l_ob fun q4 => ?_
      refine l_cI dX13_accept_144 rfl rfl rfl (l_xv cl_12_218 ko_mX13_edits rfl rfl rfl q4) rfl rfl nm_mX13_edits (xhE_th rfl) (fun v6 h5 => ?_)
      exact l_iretn dX13_accept_147 rfl (by rfl)
    · refine l_loc dX13_accept_104 rfl rfl ?_
      refine l_gr dX13_accept_105 fl_12_21 (fun v7 => ?_)
      refine l_loc dX13_accept_108 rfl rfl ?_
      refine l_loc dX13_accept_110 rfl rfl ?_
      refine l_gr dX13_accept_111 fl_12_21 (fun v8 => ?_)
      refine l_loc dX13_accept_114 rfl rfl ?_
      refine l_rz dX13_accept_116 (fun v9 => ?_)
      refine l_ine (t := 130) dX13_accept_117 rfl ?_ ?_
      · refine l_ic dX13_accept_130 kI_1 ?_
        refine l_goto (t := 135) dX13_accept_131 rfl ?_
        refine l_wz dX13_accept_135 (fun h10 => ?_)
        refine l_incl (al1 := fun v11 => [(4, .int v11), (0, .ref x0), (3, .int x3)]) dX13_accept_136 rfl kI_1 rfl (fun _ => rfl) (fun v11 => ?_)
        refine l_goto (t := 92) dX13_accept_139 rfl ?_
        exact l_al rfl ⟨rfl, rfl, rfl, trivial⟩
      · refine l_loc dX13_accept_120 rfl rfl ?_
        refine l_loc dX13_accept_121 rfl rfl ?_
        refine l_loc dX13_accept_122 rfl rfl ?_
        refine l_ob fun q12 => ?_
        refine l_cI dX13_accept_124 rfl rfl rfl (l_xv cl_12_449 ko_mX13_isOf rfl rfl rfl q12) rfl rfl nm_mX13_isOf (xhE_th rfl) (fun v14 h13 => ?_)
        refine l_ieq (t := 134) dX13_accept_127 rfl ?_ ?_
        · refine l_ic dX13_accept_134 kI_0 ?_
          refine l_wz dX13_accept_135 (fun h15 => ?_)
          refine l_incl (al1 := fun v16 => [(4, .int v16), (0, .ref x0), (3, .int x3)]) dX13_accept_136 rfl kI_1 rfl (fun _ => rfl) (fun v16 => ?_)
          refine l_goto (t := 92) dX13_accept_139 rfl ?_
          exact l_al rfl ⟨rfl, rfl, rfl, trivial⟩
        · refine l_ic dX13_accept_130 kI_1 ?_
          refine l_goto (t := 135) dX13_accept_131 rfl ?_
          refine l_wz dX13_accept_135 (fun h17 => ?_)
          refine l_incl (al1 := fun v18 => [(4, .int v18), (0, .ref x0), (3, .int x3)]) dX13_accept_136 rfl kI_1 rfl (fun _ => rfl) (fun v18 => ?_)
          refine l_goto (t := 92) dX13_accept_139 rfl ?_
          exact l_al rfl ⟨rfl, rfl, rfl, trivial⟩
set_option maxRecDepth 16000 in
theorem w_X13_leastNoise (S : xS) (x0 : Nat) (x1 : Int32) (h : xH) : xle ((xP false 12 h x0 12 2 (.int (0 : Int32))).bind fun h1 => (xGi h1 x0 12 35).bind fun v2 => if ¬ v2 = 0 then (if 0 ≤ x1 then (xden S mX13_leastNoise 30 [(0, .ref x0), (1, .int x1), (2, .int (0 : Int32))] [] h1) else (if xOb h1 x0 12 = true then xqI (xM S mX13_fails [.ref x0, .int (2 : Int32)] h1) xth fun v5 h4 => some (.inl (some (.int v5)), h4, 0, 0) else none)) else (if xOb h1 x0 12 = true then xqI (xM S mX13_fails [.ref x0, .int (1 : Int32)] h1) xth fun v8 h7 => some (.inl (some (.int v8)), h7, 0, 0) else none)) (xM S mX13_leastNoise [.ref x0, .int x1] h) := by
  show xle _ (xden S mX13_leastNoise 0 [(0, .ref x0), (1, .int x1)] [] h)
  refine l_loc dX13_leastNoise_0 rfl rfl ?_
  refine l_ic dX13_leastNoise_1 kI_0 ?_
  refine l_pf dX13_leastNoise_2 fl_12_186 (ini := false) nm_mX13_leastNoise (fun h1 => ?_)
  refine l_loc dX13_leastNoise_5 rfl rfl ?_
  refine l_gi dX13_leastNoise_6 fl_12_502 (fun v2 => ?_)
  refine l_ine (t := 18) dX13_leastNoise_9 rfl ?_ ?_
  · refine l_loc dX13_leastNoise_18 rfl rfl ?_
    refine l_ige (t := 28) dX13_leastNoise_19 rfl ?_ ?_
    · refine l_ic dX13_leastNoise_28 kI_0 ?_
      refine l_loc (al1 := [(2, .int (0 : Int32)), (0, .ref x0), (1, .int x1)]) dX13_leastNoise_29 rfl rfl ?_
      exact l_al rfl ⟨rfl, rfl, rfl, trivial⟩
    · refine l_loc dX13_leastNoise_22 rfl rfl ?_
      refine l_ic dX13_leastNoise_23 kI_2 ?_
      refine l_ob fun q3 => ?_
      refine l_cI dX13_leastNoise_24 rfl rfl rfl (l_xv cl_12_206 ko_mX13_fails rfl rfl rfl q3) rfl rfl nm_mX13_fails (xhE_th rfl) (fun v5 h4 => ?_)
      exact l_iretn dX13_leastNoise_27 rfl (by rfl)
  · refine l_loc dX13_leastNoise_12 rfl rfl ?_
    refine l_ic dX13_leastNoise_13 kI_1 ?_
    refine l_ob fun q6 => ?_
    refine l_cI dX13_leastNoise_14 rfl rfl rfl (l_xv cl_12_206 ko_mX13_fails rfl rfl rfl q6) rfl rfl nm_mX13_fails (xhE_th rfl) (fun v8 h7 => ?_)
    exact l_iretn dX13_leastNoise_17 rfl (by rfl)
set_option maxRecDepth 16000 in
theorem w_X13_leastNoise_30 (S : xS) (x0 : Nat) (x1 : Int32) (x2 : Int32) (h : xH) : xle (if (256 : Int32) ≤ x2 then (some (.inl (some (.int x2)), h, 0, 0)) else (if xOb h x0 12 = true then xqI (xM S mX13_joins [.ref x0, .int x2] h) xth fun v3 h2 => if v3 ≤ x1 then (some (.inl (some (.int x2)), h2, 0, 0)) else (xlet (x2 + (1 : Int32)) fun v4 => (xden S mX13_leastNoise 30 [(0, .ref x0), (1, .int x1), (2, .int v4)] [] h2)) else none)) (xden S mX13_leastNoise 30 [(0, .ref x0), (1, .int x1), (2, .int x2)] [] h) := by
  refine l_loc dX13_leastNoise_30 rfl rfl ?_
  refine l_si dX13_leastNoise_31 kS_256 ?_
  refine l_cge (t := 52) dX13_leastNoise_34 rfl ?_ ?_
  · refine l_loc dX13_leastNoise_52 rfl rfl ?_
    exact l_iretn dX13_leastNoise_53 rfl (by rfl)
  · refine l_loc dX13_leastNoise_37 rfl rfl ?_
    refine l_loc dX13_leastNoise_38 rfl rfl ?_
    refine l_ob fun q1 => ?_
    refine l_cI dX13_leastNoise_39 rfl rfl rfl (l_xv cl_12_418 ko_mX13_joins rfl rfl rfl q1) rfl rfl nm_mX13_joins (xhE_th rfl) (fun v3 h2 => ?_)
    refine l_loc dX13_leastNoise_42 rfl rfl ?_
    refine l_cle (t := 52) dX13_leastNoise_43 rfl ?_ ?_
    · refine l_loc dX13_leastNoise_52 rfl rfl ?_
      exact l_iretn dX13_leastNoise_53 rfl (by rfl)
    · refine l_incl (al1 := fun v4 => [(2, .int v4), (0, .ref x0), (1, .int x1)]) dX13_leastNoise_46 rfl kI_1 rfl (fun _ => rfl) (fun v4 => ?_)
      refine l_goto (t := 30) dX13_leastNoise_49 rfl ?_
      exact l_al rfl ⟨rfl, rfl, rfl, trivial⟩

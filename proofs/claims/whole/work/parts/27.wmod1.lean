/-! ROWS OF METHODS, by program (wip/whole/wp.py, wpemit.py): each method as an expression -/
set_option maxRecDepth 16000 in
theorem w_X13_thrown (S : xS) (x0 : Nat) (h : xH) : xle ((xGi h x0 12 2).bind fun v1 => some (.inl (some (.int v1)), h, 0, 0)) (xM S mX13_thrown [.ref x0] h) := by
  show xle _ (xden S mX13_thrown 0 [(0, .ref x0)] [] h)
  refine l_loc dX13_thrown_0 rfl rfl ?_
  refine l_gi dX13_thrown_1 fl_12_186 (fun v1 => ?_)
  exact l_iretn dX13_thrown_4 rfl (by rfl)
set_option maxRecDepth 16000 in
theorem w_X13_row (S : xS) (x0 : Nat) (x1 : Int32) (x2 : Int32) (h : xH) : xle ((xP false 12 h x0 12 2 (.int (0 : Int32))).bind fun h1 => if xOb h1 x0 12 = true then xqI (xM S mX13_isPage [.ref x0, .int x1] h1) xth fun v4 h3 => if v4 = 0 then (if xOb h3 x0 12 = true then xqI (xM S mX13_fails [.ref x0, .int (1 : Int32)] h3) xth fun v7 h6 => some (.inl (some (.long (v7.toInt64))), h6, 0, 0) else none) else ((xGi h3 x0 12 1).bind fun v8 => xqI (xM S mX13_in [.long (x2.toInt64), .long (0 : Int64), .long (v8 - (1 : Int32)).toInt64] h3) xth fun v10 h9 => if ¬ v10 = 0 then (if xOb h9 x0 12 = true then xqJ (xM S mX13_rowOf [.ref x0, .int x1, .int x2] h9) xth fun v13 h12 => some (.inl (some (.long v13)), h12, 0, 0) else none) else (if xOb h9 x0 12 = true then xqI (xM S mX13_fails [.ref x0, .int (1 : Int32)] h9) xth fun v16 h15 => some (.inl (some (.long (v16.toInt64))), h15, 0, 0) else none)) else none) (xM S mX13_row [.ref x0, .int x1, .int x2] h) := by
  show xle _ (xden S mX13_row 0 [(0, .ref x0), (1, .int x1), (2, .int x2)] [] h)
  refine l_loc dX13_row_0 rfl rfl ?_
  refine l_ic dX13_row_1 kI_0 ?_
  refine l_pf dX13_row_2 fl_12_186 (ini := false) nm_mX13_row (fun h1 => ?_)
  refine l_loc dX13_row_5 rfl rfl ?_
  refine l_loc dX13_row_6 rfl rfl ?_
  refine l_ob fun q2 => ?_
  refine l_cI dX13_row_7 rfl rfl rfl (l_xv cl_12_202 ko_mX13_isPage rfl rfl rfl q2) rfl rfl nm_mX13_isPage (xhE_th rfl) (fun v4 h3 => ?_)
  refine l_ieq (t := 29) dX13_row_10 rfl ?_ ?_
  · refine l_loc dX13_row_29 rfl rfl ?_
    refine l_ic dX13_row_30 kI_1 ?_
    refine l_ob fun q5 => ?_
    refine l_cI dX13_row_31 rfl rfl rfl (l_xv cl_12_206 ko_mX13_fails rfl rfl rfl q5) rfl rfl nm_mX13_fails (xhE_th rfl) (fun v7 h6 => ?_)
    refine l_pure dX13_row_34 rfl rfl ?_
    exact l_end dX13_row_35 rfl rfl
  · refine l_loc dX13_row_13 rfl rfl ?_
    refine l_pure dX13_row_14 rfl rfl ?_
    refine l_lc0 dX13_row_15 ?_
    refine l_loc dX13_row_16 rfl rfl ?_
    refine l_gi dX13_row_17 fl_12_183 (fun v8 => ?_)
    refine l_ic dX13_row_20 kI_1 ?_
    refine l_pure dX13_row_21 rfl rfl ?_
    refine l_pure dX13_row_22 rfl rfl ?_
    refine l_cI dX13_row_23 rfl rfl rfl (l_xs cl_12_191 ko_mX13_in rfl rfl) rfl rfl nm_mX13_in (xhE_th rfl) (fun v10 h9 => ?_)
    refine l_ine (t := 36) dX13_row_26 rfl ?_ ?_
    · refine l_loc dX13_row_36 rfl rfl ?_
      refine l_loc dX13_row_37 rfl rfl ?_
      refine l_loc dX13_row_38 rfl rfl ?_
      refine l_ob fun q11 => ?_
      refine l_cJ dX13_row_39 rfl rfl rfl (l_xv cl_12_210 ko_mX13_rowOf rfl rfl rfl q11) rfl rfl nm_mX13_rowOf (xhE_th rfl) (fun v13 h12 => ?_)
      exact l_end dX13_row_42 rfl rfl
    · refine l_loc dX13_row_29 rfl rfl ?_
      refine l_ic dX13_row_30 kI_1 ?_
      refine l_ob fun q14 => ?_
      refine l_cI dX13_row_31 rfl rfl rfl (l_xv cl_12_206 ko_mX13_fails rfl rfl rfl q14) rfl rfl nm_mX13_fails (xhE_th rfl) (fun v16 h15 => ?_)
      refine l_pure dX13_row_34 rfl rfl ?_
      exact l_end dX13_row_35 rfl rfl
set_option maxRecDepth 16000 in
theorem w_X13_isPage (S : xS) (x0 : Nat) (x1 : Int32) (h : xH) : xle (xqI (xM S mX13_in [.long (x1.toInt64), .long (0 : Int64), .long (3 : Int64)] h) xth fun v2 h1 => if narrow .boolean (.int v2) = .int v2 then some (.inl (some (.int v2)), h1, 0, 0) else none) (xM S mX13_isPage [.ref x0, .int x1] h) := by
  show xle _ (xden S mX13_isPage 0 [(0, .ref x0), (1, .int x1)] [] h)
  refine l_loc dX13_isPage_0 rfl rfl ?_
  refine l_pure dX13_isPage_1 rfl rfl ?_
  refine l_lc0 dX13_isPage_2 ?_
  refine l_rd (st1 := [.long (3 : Int64), .long (0 : Int64), .long (x1.toInt64)]) dX13_isPage_3 rfl rfl ?_
  refine l_cI dX13_isPage_6 rfl rfl rfl (l_xs cl_12_191 ko_mX13_in rfl rfl) rfl rfl nm_mX13_in (xhE_th rfl) (fun v2 h1 => ?_)
  exact l_iret dX13_isPage_9 rfl
set_option maxRecDepth 16000 in
theorem w_X13_in (S : xS) (x0 : Int64) (x2 : Int64) (x4 : Int64) (h : xH) : xle (if (lg_cmp x0 x2) < 0 then (some (.inl (some (.int (0 : Int32))), h, 0, 0)) else (if 0 < (lg_cmp x0 x4) then (some (.inl (some (.int (0 : Int32))), h, 0, 0)) else (some (.inl (some (.int (1 : Int32))), h, 0, 0)))) (xM S mX13_in [.long x0, .long x2, .long x4] h) := by
  show xle _ (xden S mX13_in 0 [(0, .long x0), (2, .long x2), (4, .long x4)] [] h)
  refine l_loc dX13_in_0 rfl rfl ?_
  refine l_loc dX13_in_1 rfl rfl ?_
  refine l_pure dX13_in_2 rfl rfl ?_
  refine l_ilt (t := 17) dX13_in_3 rfl ?_ ?_
  · refine l_ic dX13_in_17 kI_0 ?_
    exact l_iretn dX13_in_18 rfl (by decide)
  · refine l_loc dX13_in_6 rfl rfl ?_
    refine l_loc dX13_in_7 rfl rfl ?_
    refine l_pure dX13_in_9 rfl rfl ?_
    refine l_igt (t := 17) dX13_in_10 rfl ?_ ?_
    · refine l_ic dX13_in_17 kI_0 ?_
      exact l_iretn dX13_in_18 rfl (by decide)
    · refine l_ic dX13_in_13 kI_1 ?_
      refine l_goto (t := 18) dX13_in_14 rfl ?_
      exact l_iretn dX13_in_18 rfl (by decide)
set_option maxRecDepth 16000 in
theorem w_X13_fails (S : xS) (x0 : Nat) (x1 : Int32) (h : xH) : xle ((xP false 12 h x0 12 2 (.int x1)).bind fun h1 => some (.inl (some (.int (0 : Int32))), h1, 0, 0)) (xM S mX13_fails [.ref x0, .int x1] h) := by
  show xle _ (xden S mX13_fails 0 [(0, .ref x0), (1, .int x1)] [] h)
  refine l_loc dX13_fails_0 rfl rfl ?_
  refine l_loc dX13_fails_1 rfl rfl ?_
  refine l_pf dX13_fails_2 fl_12_186 (ini := false) nm_mX13_fails (fun h1 => ?_)
  refine l_ic dX13_fails_5 kI_0 ?_
  exact l_iretn dX13_fails_6 rfl (by rfl)
set_option maxRecDepth 16000 in
theorem w_X13_rowOf (S : xS) (x0 : Nat) (x1 : Int32) (x2 : Int32) (h : xH) : xle (xden S mX13_rowOf 5 [(0, .ref x0), (1, .int x1), (2, .int x2), (3, .long (0 : Int64)), (5, .int (0 : Int32))] [] h) (xM S mX13_rowOf [.ref x0, .int x1, .int x2] h) := by
  show xle _ (xden S mX13_rowOf 0 [(0, .ref x0), (1, .int x1), (2, .int x2)] [] h)
  refine l_lc0 dX13_rowOf_0 ?_
  refine l_loc (al1 := [(3, .long (0 : Int64)), (0, .ref x0), (1, .int x1), (2, .int x2)]) dX13_rowOf_1 rfl rfl ?_
  refine l_ic dX13_rowOf_2 kI_0 ?_
  refine l_loc (al1 := [(5, .int (0 : Int32)), (3, .long (0 : Int64)), (0, .ref x0), (1, .int x1), (2, .int x2)]) dX13_rowOf_3 rfl rfl ?_
  exact l_al rfl ⟨rfl, rfl, rfl, rfl, rfl, trivial⟩
set_option maxRecDepth 16000 in
theorem w_X13_rowOf_5 (S : xS) (x0 : Nat) (x1 : Int32) (x2 : Int32) (x3 : Int64) (x5 : Int32) (h : xH) : xle ((xGi h x0 12 0).bind fun v1 => if v1 ≤ x5 then (some (.inl (some (.long x3)), h, 0, 0)) else ((xGr h x0 12 3).bind fun v2 => (xRi h 2 v2 ((((4096 : Int32) * x1) + ((64 : Int32) * x2)) + x5)).bind fun v3 => if v3 = 0 then (xlet (x3 ||| (0 : Int64)) fun v4 => xlet (x5 + (1 : Int32)) fun v5 => (xden S mX13_rowOf 5 [(0, .ref x0), (1, .int x1), (2, .int x2), (3, .long v4), (5, .int v5)] [] h)) else (xlet (x3 ||| ((1 : Int64) <<< (x5.toInt64 &&& 63))) fun v6 => xlet (x5 + (1 : Int32)) fun v7 => (xden S mX13_rowOf 5 [(0, .ref x0), (1, .int x1), (2, .int x2), (3, .long v6), (5, .int v7)] [] h)))) (xden S mX13_rowOf 5 [(0, .ref x0), (1, .int x1), (2, .int x2), (3, .long x3), (5, .int x5)] [] h) := by
  refine l_loc dX13_rowOf_5 rfl rfl ?_
  refine l_loc dX13_rowOf_7 rfl rfl ?_
  refine l_gi dX13_rowOf_8 fl_12_179 (fun v1 => ?_)
  refine l_cge (t := 52) dX13_rowOf_11 rfl ?_ ?_
  · refine l_loc dX13_rowOf_52 rfl rfl ?_
    exact l_end dX13_rowOf_53 rfl rfl
  · refine l_loc dX13_rowOf_14 rfl rfl ?_
    refine l_loc dX13_rowOf_15 rfl rfl ?_
    refine l_gr dX13_rowOf_16 fl_12_7 (fun v2 => ?_)
    refine l_si dX13_rowOf_19 kS_4096 ?_
    refine l_loc dX13_rowOf_22 rfl rfl ?_
    refine l_pure dX13_rowOf_23 rfl rfl ?_
    refine l_bi dX13_rowOf_24 kB_64 ?_
    refine l_loc dX13_rowOf_26 rfl rfl ?_
    refine l_pure dX13_rowOf_27 rfl rfl ?_
    refine l_pure dX13_rowOf_28 rfl rfl ?_
    refine l_loc dX13_rowOf_29 rfl rfl ?_
    refine l_pure dX13_rowOf_31 rfl rfl ?_
    refine l_rz dX13_rowOf_32 (fun v3 => ?_)
    refine l_ieq (t := 43) dX13_rowOf_33 rfl ?_ ?_
    · refine l_lc0 dX13_rowOf_43 ?_
      refine l_pure dX13_rowOf_44 rfl rfl ?_
      refine l_lsl (al1 := fun v4 => [(3, .long v4), (0, .ref x0), (1, .int x1), (2, .int x2), (5, .int x5)]) dX13_rowOf_45 rfl (fun _ => rfl) (fun v4 => ?_)
      refine l_incl (al1 := fun v5 => [(5, .int v5), (3, .long v4), (0, .ref x0), (1, .int x1), (2, .int x2)]) dX13_rowOf_46 rfl kI_1 rfl (fun _ => rfl) (fun v5 => ?_)
      refine l_goto (t := 5) dX13_rowOf_49 rfl ?_
      exact l_al rfl ⟨rfl, rfl, rfl, rfl, rfl, trivial⟩
    · refine l_lc1 dX13_rowOf_36 ?_
      refine l_loc dX13_rowOf_37 rfl rfl ?_
      refine l_pure dX13_rowOf_39 rfl rfl ?_
      refine l_goto (t := 44) dX13_rowOf_40 rfl ?_
      refine l_pure dX13_rowOf_44 rfl rfl ?_
      refine l_lsl (al1 := fun v6 => [(3, .long v6), (0, .ref x0), (1, .int x1), (2, .int x2), (5, .int x5)]) dX13_rowOf_45 rfl (fun _ => rfl) (fun v6 => ?_)
      refine l_incl (al1 := fun v7 => [(5, .int v7), (3, .long v6), (0, .ref x0), (1, .int x1), (2, .int x2)]) dX13_rowOf_46 rfl kI_1 rfl (fun _ => rfl) (fun v7 => ?_)
      refine l_goto (t := 5) dX13_rowOf_49 rfl ?_
      exact l_al rfl ⟨rfl, rfl, rfl, rfl, rfl, trivial⟩
set_option maxRecDepth 16000 in
theorem w_X13_setRow (S : xS) (x0 : Nat) (x1 : Int32) (x2 : Int32) (x3 : Int64) (h : xH) : xle ((xP false 12 h x0 12 2 (.int (0 : Int32))).bind fun h1 => if xOb h1 x0 12 = true then xqI (xM S mX13_isPage [.ref x0, .int x1] h1) xth fun v4 h3 => if v4 = 0 then (if xOb h3 x0 12 = true then xqI (xM S mX13_fails [.ref x0, .int (1 : Int32)] h3) xth fun v7 h6 => some (.inl (some (.int v7)), h6, 0, 0) else none) else ((xGi h3 x0 12 1).bind fun v8 => xqI (xM S mX13_in [.long (x2.toInt64), .long (0 : Int64), .long (v8 - (1 : Int32)).toInt64] h3) xth fun v10 h9 => if ¬ v10 = 0 then (if xOb h9 x0 12 = true then xqV (xM S mX13_takes [.ref x0, .int x1] h9) xth fun h12 => (xden S mX13_setRow 43 [(0, .ref x0), (1, .int x1), (2, .int x2), (3, .long x3), (5, .int (0 : Int32))] [] h12) else none) else (if xOb h9 x0 12 = true then xqI (xM S mX13_fails [.ref x0, .int (1 : Int32)] h9) xth fun v16 h15 => some (.inl (some (.int v16)), h15, 0, 0) else none)) else none) (xM S mX13_setRow [.ref x0, .int x1, .int x2, .long x3] h) := by
  show xle _ (xden S mX13_setRow 0 [(0, .ref x0), (1, .int x1), (2, .int x2), (3, .long x3)] [] h)
  refine l_loc dX13_setRow_0 rfl rfl ?_
  refine l_ic dX13_setRow_1 kI_0 ?_
  refine l_pf dX13_setRow_2 fl_12_186 (ini := false) nm_mX13_setRow (fun h1 => ?_)
  refine l_loc dX13_setRow_5 rfl rfl ?_
  refine l_loc dX13_setRow_6 rfl rfl ?_
  refine l_ob fun q2 => ?_
  refine l_cI dX13_setRow_7 rfl rfl rfl (l_xv cl_12_202 ko_mX13_isPage rfl rfl rfl q2) rfl rfl nm_mX13_isPage (xhE_th rfl) (fun v4 h3 => ?_)
  refine l_ieq (t := 29) dX13_setRow_10 rfl ?_ ?_
  · refine l_loc dX13_setRow_29 rfl rfl ?_
    refine l_ic dX13_setRow_30 kI_1 ?_
    refine l_ob fun q5 => ?_
    refine l_cI dX13_setRow_31 rfl rfl rfl (l_xv cl_12_206 ko_mX13_fails rfl rfl rfl q5) rfl rfl nm_mX13_fails (xhE_th rfl) (fun v7 h6 => ?_)
    exact l_iretn dX13_setRow_34 rfl (by rfl)
  · refine l_loc dX13_setRow_13 rfl rfl ?_
    refine l_pure dX13_setRow_14 rfl rfl ?_
    refine l_lc0 dX13_setRow_15 ?_
    refine l_loc dX13_setRow_16 rfl rfl ?_
    refine l_gi dX13_setRow_17 fl_12_183 (fun v8 => ?_)
    refine l_ic dX13_setRow_20 kI_1 ?_
    refine l_pure dX13_setRow_21 rfl rfl ?_
    refine l_pure dX13_setRow_22 rfl rfl ?_
    refine l_cI dX13_setRow_23 rfl rfl rfl (l_xs cl_12_191 ko_mX13_in rfl rfl) rfl rfl nm_mX13_in (xhE_th rfl) (fun v10 h9 => ?_)
    refine l_ine (t := 35) dX13_setRow_26 rfl ?_ ?_
    · refine l_loc dX13_setRow_35 rfl rfl ?_
      refine l_loc dX13_setRow_36 rfl rfl ?_
      refine l_ob fun q11 => ?_
      refine l_cV dX13_setRow_37 rfl rfl rfl (l_xv cl_12_214 ko_mX13_takes rfl rfl rfl q11) rfl rfl nm_mX13_takes (xhE_th rfl) (fun h12 => ?_)
      refine l_ic dX13_setRow_40 kI_0 ?_
      refine l_loc (al1 := [(5, .int (0 : Int32)), (0, .ref x0), (1, .int x1), (2, .int x2), (3, .long x3)]) dX13_setRow_41 rfl rfl ?_
      exact l_al rfl ⟨rfl, rfl, rfl, rfl, rfl, trivial⟩
    · refine l_loc dX13_setRow_29 rfl rfl ?_
      refine l_ic dX13_setRow_30 kI_1 ?_
      refine l_ob fun q14 => ?_
      refine l_cI dX13_setRow_31 rfl rfl rfl (l_xv cl_12_206 ko_mX13_fails rfl rfl rfl q14) rfl rfl nm_mX13_fails (xhE_th rfl) (fun v16 h15 => ?_)
      exact l_iretn dX13_setRow_34 rfl (by rfl)
set_option maxRecDepth 16000 in
theorem w_X13_setRow_43 (S : xS) (x0 : Nat) (x1 : Int32) (x2 : Int32) (x3 : Int64) (x5 : Int32) (h : xH) : xle ((xGi h x0 12 0).bind fun v1 => if v1 ≤ x5 then (if xOb h x0 12 = true then xqI (xM S mX13_edits [.ref x0, .int x1] h) xth fun v4 h3 => some (.inl (some (.int v4)), h3, 0, 0) else none) else ((xGr h x0 12 7).bind fun v5 => if ¬ (lg_cmp ((x3 >>> (x5.toInt64 &&& 63)) &&& (1 : Int64)) (1 : Int64)) = 0 then ((xWz h v5 (((64 : Int32) * x2) + x5) (0 : Int32)).bind fun h6 => xlet (x5 + (1 : Int32)) fun v7 => (xden S mX13_setRow 43 [(0, .ref x0), (1, .int x1), (2, .int x2), (3, .long x3), (5, .int v7)] [] h6)) else ((xWz h v5 (((64 : Int32) * x2) + x5) (1 : Int32)).bind fun h8 => xlet (x5 + (1 : Int32)) fun v9 => (xden S mX13_setRow 43 [(0, .ref x0), (1, .int x1), (2, .int x2), (3, .long x3), (5, .int v9)] [] h8)))) (xden S mX13_setRow 43 [(0, .ref x0), (1, .int x1), (2, .int x2), (3, .long x3), (5, .int x5)] [] h) := by
  refine l_loc dX13_setRow_43 rfl rfl ?_
  refine l_loc dX13_setRow_45 rfl rfl ?_
  refine l_gi dX13_setRow_46 fl_12_179 (fun v1 => ?_)
  refine l_cge (t := 86) dX13_setRow_49 rfl ?_ ?_
  · refine l_loc dX13_setRow_86 rfl rfl ?_
    refine l_loc dX13_setRow_87 rfl rfl ?_
    refine l_ob fun q2 => ?_
    refine l_cI dX13_setRow_88 rfl rfl rfl (l_xv cl_12_218 ko_mX13_edits rfl rfl rfl q2) rfl rfl nm_mX13_edits (xhE_th rfl) (fun v4 h3 => ?_)
    exact l_iretn dX13_setRow_91 rfl (by rfl)
  · refine l_loc dX13_setRow_52 rfl rfl ?_
    refine l_gr dX13_setRow_53 fl_12_21 (fun v5 => ?_)
    refine l_bi dX13_setRow_56 kB_64 ?_
    refine l_loc dX13_setRow_58 rfl rfl ?_
    refine l_pure dX13_setRow_59 rfl rfl ?_
    refine l_loc dX13_setRow_60 rfl rfl ?_
    refine l_pure dX13_setRow_62 rfl rfl ?_
    refine l_loc dX13_setRow_63 rfl rfl ?_
    refine l_loc dX13_setRow_64 rfl rfl ?_
    refine l_pure dX13_setRow_66 rfl rfl ?_
    refine l_lc1 dX13_setRow_67 ?_
    refine l_pure dX13_setRow_68 rfl rfl ?_
    refine l_lc1 dX13_setRow_69 ?_
    refine l_pure dX13_setRow_70 rfl rfl ?_
    refine l_ine (t := 78) dX13_setRow_71 rfl ?_ ?_
    · refine l_ic dX13_setRow_78 kI_0 ?_
      refine l_wz dX13_setRow_79 (fun h6 => ?_)
      refine l_incl (al1 := fun v7 => [(5, .int v7), (0, .ref x0), (1, .int x1), (2, .int x2), (3, .long x3)]) dX13_setRow_80 rfl kI_1 rfl (fun _ => rfl) (fun v7 => ?_)
      refine l_goto (t := 43) dX13_setRow_83 rfl ?_
      exact l_al rfl ⟨rfl, rfl, rfl, rfl, rfl, trivial⟩
    · refine l_ic dX13_setRow_74 kI_1 ?_
      refine l_goto (t := 79) dX13_setRow_75 rfl ?_
      refine l_wz dX13_setRow_79 (fun h8 => ?_)
      refine l_incl (al1 := fun v9 => [(5, .int v9), (0, .ref x0), (1, .int x1), (2, .int x2), (3, .long x3)]) dX13_setRow_80 rfl kI_1 rfl (fun _ => rfl) (fun v9 => ?_)
      refine l_goto (t := 43) dX13_setRow_83 rfl ?_
      exact l_al rfl ⟨rfl, rfl, rfl, rfl, rfl, trivial⟩
set_option maxRecDepth 16000 in
theorem w_X13_takes (S : xS) (x0 : Nat) (x1 : Int32) (h : xH) : xle (xden S mX13_takes 2 [(0, .ref x0), (1, .int x1), (2, .int (0 : Int32))] [] h) (xM S mX13_takes [.ref x0, .int x1] h) := by
  show xle _ (xden S mX13_takes 0 [(0, .ref x0), (1, .int x1)] [] h)
  refine l_ic dX13_takes_0 kI_0 ?_
  refine l_loc (al1 := [(2, .int (0 : Int32)), (0, .ref x0), (1, .int x1)]) dX13_takes_1 rfl rfl ?_
  exact l_al rfl ⟨rfl, rfl, rfl, trivial⟩
set_option maxRecDepth 16000 in
theorem w_X13_takes_2 (S : xS) (x0 : Nat) (x1 : Int32) (x2 : Int32) (h : xH) : xle (if (4096 : Int32) ≤ x2 then (some (.inl none, h, 0, 0)) else ((xGr h x0 12 7).bind fun v1 => (xGr h x0 12 3).bind fun v2 => (xRi h 2 v2 (((4096 : Int32) * x1) + x2)).bind fun v3 => (xWz h v1 x2 v3).bind fun h4 => xlet (x2 + (1 : Int32)) fun v5 => (xden S mX13_takes 2 [(0, .ref x0), (1, .int x1), (2, .int v5)] [] h4))) (xden S mX13_takes 2 [(0, .ref x0), (1, .int x1), (2, .int x2)] [] h) := by
  refine l_loc dX13_takes_2 rfl rfl ?_
  refine l_si dX13_takes_3 kS_4096 ?_
  refine l_cge (t := 33) dX13_takes_6 rfl ?_ ?_
  · exact l_end dX13_takes_33 rfl rfl
  · refine l_loc dX13_takes_9 rfl rfl ?_
    refine l_gr dX13_takes_10 fl_12_21 (fun v1 => ?_)
    refine l_loc dX13_takes_13 rfl rfl ?_
    refine l_loc dX13_takes_14 rfl rfl ?_
    refine l_gr dX13_takes_15 fl_12_7 (fun v2 => ?_)
    refine l_si dX13_takes_18 kS_4096 ?_
    refine l_loc dX13_takes_21 rfl rfl ?_
    refine l_pure dX13_takes_22 rfl rfl ?_
    refine l_loc dX13_takes_23 rfl rfl ?_
    refine l_pure dX13_takes_24 rfl rfl ?_
    refine l_rz dX13_takes_25 (fun v3 => ?_)
    refine l_wz dX13_takes_26 (fun h4 => ?_)
    refine l_incl (al1 := fun v5 => [(2, .int v5), (0, .ref x0), (1, .int x1)]) dX13_takes_27 rfl kI_1 rfl (fun _ => rfl) (fun v5 => ?_)
    refine l_goto (t := 2) dX13_takes_30 rfl ?_
    exact l_al rfl ⟨rfl, rfl, rfl, trivial⟩
set_option maxRecDepth 16000 in
theorem w_X13_edits (S : xS) (x0 : Nat) (x1 : Int32) (h : xH) : xle ((xGi h x0 12 6).bind fun v1 => if ¬ v1 = (8 : Int32) then (xden S mX13_edits 82 [(0, .ref x0), (1, .int x1), (2, .int (0 : Int32)), (3, .int (0 : Int32))] [] h) else (xden S mX13_edits 11 [(0, .ref x0), (1, .int x1), (2, .int (0 : Int32))] [] h)) (xM S mX13_edits [.ref x0, .int x1] h) := by
  show xle _ (xden S mX13_edits 0 [(0, .ref x0), (1, .int x1)] [] h)
  refine l_loc dX13_edits_0 rfl rfl ?_
  refine l_gi dX13_edits_1 fl_12_199 (fun v1 => ?_)
  refine l_bi dX13_edits_4 kB_8 ?_
  refine l_cne (t := 78) dX13_edits_6 rfl ?_ ?_
  · refine l_ic dX13_edits_78 kI_0 ?_
    refine l_loc (al1 := [(2, .int (0 : Int32)), (0, .ref x0), (1, .int x1)]) dX13_edits_79 rfl rfl ?_
    refine l_ic dX13_edits_80 kI_0 ?_
    refine l_loc (al1 := [(3, .int (0 : Int32)), (2, .int (0 : Int32)), (0, .ref x0), (1, .int x1)]) dX13_edits_81 rfl rfl ?_
    exact l_al rfl ⟨rfl, rfl, rfl, rfl, trivial⟩
  · refine l_ic dX13_edits_9 kI_0 ?_
    refine l_loc (al1 := [(2, .int (0 : Int32)), (0, .ref x0), (1, .int x1)]) dX13_edits_10 rfl rfl ?_
    exact l_al rfl ⟨rfl, rfl, rfl, trivial⟩
set_option maxRecDepth 16000 in
theorem w_X13_edits_82 (S : xS) (x0 : Nat) (x1 : Int32) (x2 : Int32) (x3 : Int32) (h : xH) : xle (if (4096 : Int32) ≤ x3 then ((xGr h x0 12 5).bind fun v1 => (xGi h x0 12 6).bind fun v2 => (xWi h v1 v2 x1).bind fun h3 => (xGi h3 x0 12 6).bind fun v4 => (xP false 12 h3 x0 12 6 (.int (v4 + (1 : Int32)))).bind fun h5 => some (.inl (some (.int x2)), h5, 0, 0)) else ((xGr h x0 12 4).bind fun v6 => (xGi h x0 12 6).bind fun v7 => (xGr h x0 12 3).bind fun v8 => (xRi h 2 v8 (((4096 : Int32) * x1) + x3)).bind fun v9 => (xWz h v6 (((4096 : Int32) * v7) + x3) v9).bind fun h10 => (xGr h10 x0 12 3).bind fun v11 => (xRi h10 2 v11 (((4096 : Int32) * x1) + x3)).bind fun v12 => (xGr h10 x0 12 7).bind fun v13 => (xRi h10 2 v13 x3).bind fun v14 => if ¬ v12 = v14 then (xlet (x2 + (1 : Int32)) fun v15 => (xGr h10 x0 12 3).bind fun v16 => (xGr h10 x0 12 7).bind fun v17 => (xRi h10 2 v17 x3).bind fun v18 => (xWz h10 v16 (((4096 : Int32) * x1) + x3) v18).bind fun h19 => xlet (x3 + (1 : Int32)) fun v20 => (xden S mX13_edits 82 [(0, .ref x0), (1, .int x1), (2, .int v15), (3, .int v20)] [] h19)) else (xlet (x2 + (0 : Int32)) fun v21 => (xGr h10 x0 12 3).bind fun v22 => (xGr h10 x0 12 7).bind fun v23 => (xRi h10 2 v23 x3).bind fun v24 => (xWz h10 v22 (((4096 : Int32) * x1) + x3) v24).bind fun h25 => xlet (x3 + (1 : Int32)) fun v26 => (xden S mX13_edits 82 [(0, .ref x0), (1, .int x1), (2, .int v21), (3, .int v26)] [] h25)))) (xden S mX13_edits 82 [(0, .ref x0), (1, .int x1), (2, .int x2), (3, .int x3)] [] h) := by
  refine l_loc dX13_edits_82 rfl rfl ?_
  refine l_si dX13_edits_83 kS_4096 ?_
  refine l_cge (t := 169) dX13_edits_86 rfl ?_ ?_
  · refine l_loc dX13_edits_169 rfl rfl ?_
    refine l_gr dX13_edits_170 fl_12_17 (fun v1 => ?_)
    refine l_loc dX13_edits_173 rfl rfl ?_
    refine l_gi dX13_edits_174 fl_12_199 (fun v2 => ?_)
    refine l_loc dX13_edits_177 rfl rfl ?_
    refine l_wi dX13_edits_178 (fun h3 => ?_)
    refine l_loc dX13_edits_179 rfl rfl ?_
    refine l_pure dX13_edits_180 rfl rfl ?_
    refine l_gi dX13_edits_181 fl_12_199 (fun v4 => ?_)
    refine l_ic dX13_edits_184 kI_1 ?_
    refine l_pure dX13_edits_185 rfl rfl ?_
    refine l_pf dX13_edits_186 fl_12_199 (ini := false) nm_mX13_edits (fun h5 => ?_)
    refine l_loc dX13_edits_189 rfl rfl ?_
    exact l_iretn dX13_edits_190 rfl (by rfl)
  · refine l_loc dX13_edits_89 rfl rfl ?_
    refine l_gr dX13_edits_90 fl_12_14 (fun v6 => ?_)
    refine l_si dX13_edits_93 kS_4096 ?_
    refine l_loc dX13_edits_96 rfl rfl ?_
    refine l_gi dX13_edits_97 fl_12_199 (fun v7 => ?_)
    refine l_pure dX13_edits_100 rfl rfl ?_
    refine l_loc dX13_edits_101 rfl rfl ?_
    refine l_pure dX13_edits_102 rfl rfl ?_
    refine l_loc dX13_edits_103 rfl rfl ?_
    refine l_gr dX13_edits_104 fl_12_7 (fun v8 => ?_)
    refine l_si dX13_edits_107 kS_4096 ?_
    refine l_loc dX13_edits_110 rfl rfl ?_
    refine l_pure dX13_edits_111 rfl rfl ?_
    refine l_loc dX13_edits_112 rfl rfl ?_
    refine l_pure dX13_edits_113 rfl rfl ?_
    refine l_rz dX13_edits_114 (fun v9 => ?_)
    refine l_wz dX13_edits_115 (fun h10 => ?_)
    refine l_loc dX13_edits_116 rfl rfl ?_
    refine l_loc dX13_edits_117 rfl rfl ?_
    refine l_gr dX13_edits_118 fl_12_7 (fun v11 => ?_)
    refine l_si dX13_edits_121 kS_4096 ?_
    refine l_loc dX13_edits_124 rfl rfl ?_
    refine l_pure dX13_edits_125 rfl rfl ?_
    refine l_loc dX13_edits_126 rfl rfl ?_
    refine l_pure dX13_edits_127 rfl rfl ?_
    refine l_rz dX13_edits_128 (fun v12 => ?_)
    refine l_loc dX13_edits_129 rfl rfl ?_
    refine l_gr dX13_edits_130 fl_12_21 (fun v13 => ?_)
    refine l_loc dX13_edits_133 rfl rfl ?_
    refine l_rz dX13_edits_134 (fun v14 => ?_)
    refine l_cne (t := 142) dX13_edits_135 rfl ?_ ?_
    · refine l_ic dX13_edits_142 kI_1 ?_
      refine l_pure dX13_edits_143 rfl rfl ?_
      refine l_isl (al1 := fun v15 => [(2, .int v15), (0, .ref x0), (1, .int x1), (3, .int x3)]) dX13_edits_144 rfl (fun _ => rfl) (fun v15 => ?_)
      refine l_loc dX13_edits_145 rfl rfl ?_
      refine l_gr dX13_edits_146 fl_12_7 (fun v16 => ?_)
      refine l_si dX13_edits_149 kS_4096 ?_
      refine l_loc dX13_edits_152 rfl rfl ?_
      refine l_pure dX13_edits_153 rfl rfl ?_
      refine l_loc dX13_edits_154 rfl rfl ?_
      refine l_pure dX13_edits_155 rfl rfl ?_
      refine l_loc dX13_edits_156 rfl rfl ?_
      refine l_gr dX13_edits_157 fl_12_21 (fun v17 => ?_)
      refine l_loc dX13_edits_160 rfl rfl ?_
      refine l_rz dX13_edits_161 (fun v18 => ?_)
      refine l_wz dX13_edits_162 (fun h19 => ?_)
      refine l_incl (al1 := fun v20 => [(3, .int v20), (2, .int v15), (0, .ref x0), (1, .int x1)]) dX13_edits_163 rfl kI_1 rfl (fun _ => rfl) (fun v20 => ?_)
      refine l_goto (t := 82) dX13_edits_166 rfl ?_
      exact l_al rfl ⟨rfl, rfl, rfl, rfl, trivial⟩
    · refine l_ic dX13_edits_138 kI_0 ?_
      refine l_goto (t := 143) dX13_edits_139 rfl ?_
      refine l_pure dX13_edits_143 rfl rfl ?_
      refine l_isl (al1 := fun v21 => [(2, .int v21), (0, .ref x0), (1, .int x1), (3, .int x3)]) dX13_edits_144 rfl (fun _ => rfl) (fun v21 => ?_)
      refine l_loc dX13_edits_145 rfl rfl ?_
      refine l_gr dX13_edits_146 fl_12_7 (fun v22 => ?_)
      refine l_si dX13_edits_149 kS_4096 ?_
      refine l_loc dX13_edits_152 rfl rfl ?_
      refine l_pure dX13_edits_153 rfl rfl ?_
      refine l_loc dX13_edits_154 rfl rfl ?_
      refine l_pure dX13_edits_155 rfl rfl ?_
      refine l_loc dX13_edits_156 rfl rfl ?_
      refine l_gr dX13_edits_157 fl_12_21 (fun v23 => ?_)
      refine l_loc dX13_edits_160 rfl rfl ?_
      refine l_rz dX13_edits_161 (fun v24 => ?_)
      refine l_wz dX13_edits_162 (fun h25 => ?_)
      refine l_incl (al1 := fun v26 => [(3, .int v26), (2, .int v21), (0, .ref x0), (1, .int x1)]) dX13_edits_163 rfl kI_1 rfl (fun _ => rfl) (fun v26 => ?_)
      refine l_goto (t := 82) dX13_edits_166 rfl ?_
      exact l_al rfl ⟨rfl, rfl, rfl, rfl, trivial⟩
set_option maxRecDepth 16000 in
theorem w_X13_edits_11 (S : xS) (x0 : Nat) (x1 : Int32) (x2 : Int32) (h : xH) : xle (if (28672 : Int32) ≤ x2 then (xden S mX13_edits 42 [(0, .ref x0), (1, .int x1), (2, .int (0 : Int32))] [] h) else ((xGr h x0 12 4).bind fun v1 => (xGr h x0 12 4).bind fun v2 => (xRi h 2 v2 (x2 + (4096 : Int32))).bind fun v3 => (xWz h v1 x2 v3).bind fun h4 => xlet (x2 + (1 : Int32)) fun v5 => (xden S mX13_edits 11 [(0, .ref x0), (1, .int x1), (2, .int v5)] [] h4))) (xden S mX13_edits 11 [(0, .ref x0), (1, .int x1), (2, .int x2)] [] h) := by
  refine l_loc dX13_edits_11 rfl rfl ?_
  refine l_si dX13_edits_12 kS_28672 ?_
  refine l_cge (t := 40) dX13_edits_15 rfl ?_ ?_
  · refine l_ic dX13_edits_40 kI_0 ?_
    refine l_loc (al1 := [(2, .int (0 : Int32)), (0, .ref x0), (1, .int x1)]) dX13_edits_41 rfl rfl ?_
    exact l_al rfl ⟨rfl, rfl, rfl, trivial⟩
  · refine l_loc dX13_edits_18 rfl rfl ?_
    refine l_gr dX13_edits_19 fl_12_14 (fun v1 => ?_)
    refine l_loc dX13_edits_22 rfl rfl ?_
    refine l_loc dX13_edits_23 rfl rfl ?_
    refine l_gr dX13_edits_24 fl_12_14 (fun v2 => ?_)
    refine l_loc dX13_edits_27 rfl rfl ?_
    refine l_si dX13_edits_28 kS_4096 ?_
    refine l_pure dX13_edits_31 rfl rfl ?_
    refine l_rz dX13_edits_32 (fun v3 => ?_)
    refine l_wz dX13_edits_33 (fun h4 => ?_)
    refine l_incl (al1 := fun v5 => [(2, .int v5), (0, .ref x0), (1, .int x1)]) dX13_edits_34 rfl kI_1 rfl (fun _ => rfl) (fun v5 => ?_)
    refine l_goto (t := 11) dX13_edits_37 rfl ?_
    exact l_al rfl ⟨rfl, rfl, rfl, trivial⟩
set_option maxRecDepth 16000 in
theorem w_X13_edits_42 (S : xS) (x0 : Nat) (x1 : Int32) (x2 : Int32) (h : xH) : xle (if (7 : Int32) ≤ x2 then ((xGi h x0 12 6).bind fun v1 => (xP false 12 h x0 12 6 (.int (v1 - (1 : Int32)))).bind fun h2 => (xden S mX13_edits 82 [(0, .ref x0), (1, .int x1), (2, .int (0 : Int32)), (3, .int (0 : Int32))] [] h2)) else ((xGr h x0 12 5).bind fun v3 => (xGr h x0 12 5).bind fun v4 => (xRi h 0 v4 (x2 + (1 : Int32))).bind fun v5 => (xWi h v3 x2 v5).bind fun h6 => xlet (x2 + (1 : Int32)) fun v7 => (xden S mX13_edits 42 [(0, .ref x0), (1, .int x1), (2, .int v7)] [] h6))) (xden S mX13_edits 42 [(0, .ref x0), (1, .int x1), (2, .int x2)] [] h) := by
  refine l_loc dX13_edits_42 rfl rfl ?_
  refine l_bi dX13_edits_43 kB_7 ?_
  refine l_cge (t := 68) dX13_edits_45 rfl ?_ ?_
  · refine l_loc dX13_edits_68 rfl rfl ?_
    refine l_pure dX13_edits_69 rfl rfl ?_
    refine l_gi dX13_edits_70 fl_12_199 (fun v1 => ?_)
    refine l_ic dX13_edits_73 kI_1 ?_
    refine l_pure dX13_edits_74 rfl rfl ?_
    refine l_pf dX13_edits_75 fl_12_199 (ini := false) nm_mX13_edits (fun h2 => ?_)
    refine l_ic dX13_edits_78 kI_0 ?_
    refine l_loc (al1 := [(2, .int (0 : Int32)), (0, .ref x0), (1, .int x1)]) dX13_edits_79 rfl rfl ?_
    refine l_ic dX13_edits_80 kI_0 ?_
    refine l_loc (al1 := [(3, .int (0 : Int32)), (2, .int (0 : Int32)), (0, .ref x0), (1, .int x1)]) dX13_edits_81 rfl rfl ?_
    exact l_al rfl ⟨rfl, rfl, rfl, rfl, trivial⟩
  · refine l_loc dX13_edits_48 rfl rfl ?_
    refine l_gr dX13_edits_49 fl_12_17 (fun v3 => ?_)
    refine l_loc dX13_edits_52 rfl rfl ?_
    refine l_loc dX13_edits_53 rfl rfl ?_
    refine l_gr dX13_edits_54 fl_12_17 (fun v4 => ?_)
    refine l_loc dX13_edits_57 rfl rfl ?_
    refine l_ic dX13_edits_58 kI_1 ?_
    refine l_pure dX13_edits_59 rfl rfl ?_
    refine l_ri dX13_edits_60 (fun v5 => ?_)
    refine l_wi dX13_edits_61 (fun h6 => ?_)
    refine l_incl (al1 := fun v7 => [(2, .int v7), (0, .ref x0), (1, .int x1)]) dX13_edits_62 rfl kI_1 rfl (fun _ => rfl) (fun v7 => ?_)
    refine l_goto (t := 42) dX13_edits_65 rfl ?_
    exact l_al rfl ⟨rfl, rfl, rfl, trivial⟩
set_option maxRecDepth 16000 in
theorem w_X13_fill (S : xS) (x0 : Nat) (x1 : Int32) (x2 : Int32) (x3 : Int32) (x4 : Int32) (x5 : Int32) (x6 : Int32) (h : xH) : xle ((xP false 12 h x0 12 2 (.int (0 : Int32))).bind fun h1 => if xOb h1 x0 12 = true then xqI (xM S mX13_isPage [.ref x0, .int x1] h1) xth fun v4 h3 => if ¬ v4 = 0 then (if x4 < 0 then (if xOb h3 x0 12 = true then xqI (xM S mX13_fails [.ref x0, .int (2 : Int32)] h3) xth fun v7 h6 => some (.inl (some (.int v7)), h6, 0, 0) else none) else (if 0 ≤ x5 then (if xOb h3 x0 12 = true then xqV (xM S mX13_takes [.ref x0, .int x1] h3) xth fun h9 => (xden S mX13_fill 43 [(0, .ref x0), (1, .int x1), (2, .int x2), (3, .int x3), (4, .int x4), (5, .int x5), (6, .int x6), (7, .int (0 : Int32))] [] h9) else none) else (if xOb h3 x0 12 = true then xqI (xM S mX13_fails [.ref x0, .int (2 : Int32)] h3) xth fun v13 h12 => some (.inl (some (.int v13)), h12, 0, 0) else none))) else (if xOb h3 x0 12 = true then xqI (xM S mX13_fails [.ref x0, .int (1 : Int32)] h3) xth fun v16 h15 => some (.inl (some (.int v16)), h15, 0, 0) else none) else none) (xM S mX13_fill [.ref x0, .int x1, .int x2, .int x3, .int x4, .int x5, .int x6] h) := by
  show xle _ (xden S mX13_fill 0 [(0, .ref x0), (1, .int x1), (2, .int x2), (3, .int x3), (4, .int x4), (5, .int x5), (6, .int x6)] [] h)
  refine l_loc dX13_fill_0 rfl rfl ?_
  refine l_ic dX13_fill_1 kI_0 ?_
  refine l_pf dX13_fill_2 fl_12_186 (ini := false) nm_mX13_fill (fun h1 => ?_)
  refine l_loc dX13_fill_5 rfl rfl ?_
  refine l_loc dX13_fill_6 rfl rfl ?_
  refine l_ob fun q2 => ?_
  refine l_cI dX13_fill_7 rfl rfl rfl (l_xv cl_12_202 ko_mX13_isPage rfl rfl rfl q2) rfl rfl nm_mX13_isPage (xhE_th rfl) (fun v4 h3 => ?_)
  refine l_ine (t := 19) dX13_fill_10 rfl ?_ ?_
  · refine l_loc dX13_fill_19 rfl rfl ?_
    refine l_ilt (t := 29) dX13_fill_21 rfl ?_ ?_
    · refine l_loc dX13_fill_29 rfl rfl ?_
      refine l_ic dX13_fill_30 kI_2 ?_
      refine l_ob fun q5 => ?_
      refine l_cI dX13_fill_31 rfl rfl rfl (l_xv cl_12_206 ko_mX13_fails rfl rfl rfl q5) rfl rfl nm_mX13_fails (xhE_th rfl) (fun v7 h6 => ?_)
      exact l_iretn dX13_fill_34 rfl (by rfl)
    · refine l_loc dX13_fill_24 rfl rfl ?_
      refine l_ige (t := 35) dX13_fill_26 rfl ?_ ?_
      · refine l_loc dX13_fill_35 rfl rfl ?_
        refine l_loc dX13_fill_36 rfl rfl ?_
        refine l_ob fun q8 => ?_
        refine l_cV dX13_fill_37 rfl rfl rfl (l_xv cl_12_214 ko_mX13_takes rfl rfl rfl q8) rfl rfl nm_mX13_takes (xhE_th rfl) (fun h9 => ?_)
        refine l_ic dX13_fill_40 kI_0 ?_
        refine l_loc (al1 := [(7, .int (0 : Int32)), (0, .ref x0), (1, .int x1), (2, .int x2), (3, .int x3), (4, .int x4), (5, .int x5), (6, .int x6)]) dX13_fill_41 rfl rfl ?_
        exact l_al rfl ⟨rfl, rfl, rfl, rfl, rfl, rfl, rfl, rfl, trivial⟩
      · refine l_loc dX13_fill_29 rfl rfl ?_
        refine l_ic dX13_fill_30 kI_2 ?_
        refine l_ob fun q11 => ?_
        refine l_cI dX13_fill_31 rfl rfl rfl (l_xv cl_12_206 ko_mX13_fails rfl rfl rfl q11) rfl rfl nm_mX13_fails (xhE_th rfl) (fun v13 h12 => ?_)
        exact l_iretn dX13_fill_34 rfl (by rfl)
  · refine l_loc dX13_fill_13 rfl rfl ?_
    refine l_ic dX13_fill_14 kI_1 ?_
    refine l_ob fun q14 => ?_
    refine l_cI dX13_fill_15 rfl rfl rfl (l_xv cl_12_206 ko_mX13_fails rfl rfl rfl q14) rfl rfl nm_mX13_fails (xhE_th rfl) (fun v16 h15 => ?_)
    exact l_iretn dX13_fill_18 rfl (by rfl)
set_option maxRecDepth 16000 in
theorem w_X13_fill_43 (S : xS) (x0 : Nat) (x1 : Int32) (x2 : Int32) (x3 : Int32) (x4 : Int32) (x5 : Int32) (x6 : Int32) (x7 : Int32) (h : xH) : xle (if (4096 : Int32) ≤ x7 then (if xOb h x0 12 = true then xqI (xM S mX13_edits [.ref x0, .int x1] h) xth fun v3 h2 => some (.inl (some (.int v3)), h2, 0, 0) else none) else (if xOb h x0 12 = true then xqI (xM S mX13_isOn [.ref x0, .long (x7 - x7 / (64 : Int32) * (64 : Int32)).toInt64, .long (x7 / (64 : Int32)).toInt64] h) xth fun v6 h5 => if v6 = 0 then ((xGr h5 x0 12 7).bind fun v7 => if (0 : Int32) = 0 then ((xGr h5 x0 12 7).bind fun v8 => (xRi h5 2 v8 x7).bind fun v9 => (xWz h5 v7 x7 v9).bind fun h10 => xlet (x7 + (1 : Int32)) fun v11 => (xden S mX13_fill 43 [(0, .ref x0), (1, .int x1), (2, .int x2), (3, .int x3), (4, .int x4), (5, .int x5), (6, .int x6), (7, .int v11)] [] h10)) else ((xWz h5 v7 x7 x6).bind fun h12 => xlet (x7 + (1 : Int32)) fun v13 => (xden S mX13_fill 43 [(0, .ref x0), (1, .int x1), (2, .int x2), (3, .int x3), (4, .int x4), (5, .int x5), (6, .int x6), (7, .int v13)] [] h12))) else (xqI (xM S mX13_isWithin [.int x7, .int x2, .int x3, .int x4, .int x5] h5) xth fun v15 h14 => if v15 = 0 then ((xGr h14 x0 12 7).bind fun v16 => if (0 : Int32) = 0 then ((xGr h14 x0 12 7).bind fun v17 => (xRi h14 2 v17 x7).bind fun v18 => (xWz h14 v16 x7 v18).bind fun h19 => xlet (x7 + (1 : Int32)) fun v20 => (xden S mX13_fill 43 [(0, .ref x0), (1, .int x1), (2, .int x2), (3, .int x3), (4, .int x4), (5, .int x5), (6, .int x6), (7, .int v20)] [] h19)) else ((xWz h14 v16 x7 x6).bind fun h21 => xlet (x7 + (1 : Int32)) fun v22 => (xden S mX13_fill 43 [(0, .ref x0), (1, .int x1), (2, .int x2), (3, .int x3), (4, .int x4), (5, .int x5), (6, .int x6), (7, .int v22)] [] h21))) else ((xGr h14 x0 12 7).bind fun v23 => if (1 : Int32) = 0 then ((xGr h14 x0 12 7).bind fun v24 => (xRi h14 2 v24 x7).bind fun v25 => (xWz h14 v23 x7 v25).bind fun h26 => xlet (x7 + (1 : Int32)) fun v27 => (xden S mX13_fill 43 [(0, .ref x0), (1, .int x1), (2, .int x2), (3, .int x3), (4, .int x4), (5, .int x5), (6, .int x6), (7, .int v27)] [] h26)) else ((xWz h14 v23 x7 x6).bind fun h28 => xlet (x7 + (1 : Int32)) fun v29 => (xden S mX13_fill 43 [(0, .ref x0), (1, .int x1), (2, .int x2), (3, .int x3), (4, .int x4), (5, .int x5), (6, .int x6), (7, .int v29)] [] h28)))) else none)) (xden S mX13_fill 43 [(0, .ref x0), (1, .int x1), (2, .int x2), (3, .int x3), (4, .int x4), (5, .int x5), (6, .int x6), (7, .int x7)] [] h) := by
  refine l_loc dX13_fill_43 rfl rfl ?_
  refine l_si dX13_fill_45 kS_4096 ?_
  refine l_cge (t := 121) dX13_fill_48 rfl ?_ ?_
  · refine l_loc dX13_fill_121 rfl rfl ?_
    refine l_loc dX13_fill_122 rfl rfl ?_
    refine l_ob fun q1 => ?_
    refine l_cI dX13_fill_123 rfl rfl rfl (l_xv cl_12_218 ko_mX13_edits rfl rfl rfl q1) rfl rfl nm_mX13_edits (xhE_th rfl) (fun v3 h2 => ?_)
    exact l_iretn dX13_fill_126 rfl (by rfl)
  · refine l_loc dX13_fill_51 rfl rfl ?_
    refine l_loc dX13_fill_52 rfl rfl ?_
    refine l_bi dX13_fill_54 kB_64 ?_
    refine l_remn dX13_fill_56 (by decide) ?_
    refine l_pure dX13_fill_57 rfl rfl ?_
    refine l_loc dX13_fill_58 rfl rfl ?_
    refine l_bi dX13_fill_60 kB_64 ?_
    refine l_divn dX13_fill_62 (by decide) ?_
    refine l_pure dX13_fill_63 rfl rfl ?_
    refine l_ob fun q4 => ?_
    refine l_cI dX13_fill_64 rfl rfl rfl (l_xv cl_12_195 ko_mX13_isOn rfl rfl rfl q4) rfl rfl nm_mX13_isOn (xhE_th rfl) (fun v6 h5 => ?_)
    refine l_ieq (t := 88) dX13_fill_67 rfl ?_ ?_
    · refine l_ic dX13_fill_88 kI_0 ?_
      refine l_loc (al1 := [(8, .int (0 : Int32)), (0, .ref x0), (1, .int x1), (2, .int x2), (3, .int x3), (4, .int x4), (5, .int x5), (6, .int x6), (7, .int x7)]) dX13_fill_89 rfl rfl ?_
      refine l_loc dX13_fill_91 rfl rfl ?_
      refine l_gr dX13_fill_92 fl_12_21 (fun v7 => ?_)
      refine l_loc dX13_fill_95 rfl rfl ?_
      refine l_loc dX13_fill_97 rfl rfl ?_
      refine l_ieq (t := 107) dX13_fill_99 rfl ?_ ?_
      · refine l_loc dX13_fill_107 rfl rfl ?_
        refine l_gr dX13_fill_108 fl_12_21 (fun v8 => ?_)
        refine l_loc dX13_fill_111 rfl rfl ?_
        refine l_rz dX13_fill_113 (fun v9 => ?_)
        refine l_wz dX13_fill_114 (fun h10 => ?_)
        refine l_incl (al1 := fun v11 => [(7, .int v11), (8, .int (0 : Int32)), (0, .ref x0), (1, .int x1), (2, .int x2), (3, .int x3), (4, .int x4), (5, .int x5), (6, .int x6)]) dX13_fill_115 rfl kI_1 rfl (fun _ => rfl) (fun v11 => ?_)
        refine l_goto (t := 43) dX13_fill_118 rfl ?_
        exact l_al rfl ⟨rfl, rfl, rfl, rfl, rfl, rfl, rfl, rfl, trivial⟩
      · refine l_loc dX13_fill_102 rfl rfl ?_
        refine l_goto (t := 114) dX13_fill_104 rfl ?_
        refine l_wz dX13_fill_114 (fun h12 => ?_)
        refine l_incl (al1 := fun v13 => [(7, .int v13), (8, .int (0 : Int32)), (0, .ref x0), (1, .int x1), (2, .int x2), (3, .int x3), (4, .int x4), (5, .int x5), (6, .int x6)]) dX13_fill_115 rfl kI_1 rfl (fun _ => rfl) (fun v13 => ?_)
        refine l_goto (t := 43) dX13_fill_118 rfl ?_
        exact l_al rfl ⟨rfl, rfl, rfl, rfl, rfl, rfl, rfl, rfl, trivial⟩
    · refine l_loc dX13_fill_70 rfl rfl ?_
      refine l_loc dX13_fill_72 rfl rfl ?_
      refine l_loc dX13_fill_73 rfl rfl ?_
      refine l_loc dX13_fill_74 rfl rfl ?_
      refine l_loc dX13_fill_76 rfl rfl ?_
      refine l_cI dX13_fill_78 rfl rfl rfl (l_xs cl_12_220 ko_mX13_isWithin rfl rfl) rfl rfl nm_mX13_isWithin (xhE_th rfl) (fun v15 h14 => ?_)
      refine l_ieq (t := 88) dX13_fill_81 rfl ?_ ?_
      · refine l_ic dX13_fill_88 kI_0 ?_
        refine l_loc (al1 := [(8, .int (0 : Int32)), (0, .ref x0), (1, .int x1), (2, .int x2), (3, .int x3), (4, .int x4), (5, .int x5), (6, .int x6), (7, .int x7)]) dX13_fill_89 rfl rfl ?_
        refine l_loc dX13_fill_91 rfl rfl ?_
        refine l_gr dX13_fill_92 fl_12_21 (fun v16 => ?_)
        refine l_loc dX13_fill_95 rfl rfl ?_
        refine l_loc dX13_fill_97 rfl rfl ?_
        refine l_ieq (t := 107) dX13_fill_99 rfl ?_ ?_
        · refine l_loc dX13_fill_107 rfl rfl ?_
          refine l_gr dX13_fill_108 fl_12_21 (fun v17 => ?_)
          refine l_loc dX13_fill_111 rfl rfl ?_
          refine l_rz dX13_fill_113 (fun v18 => ?_)
          refine l_wz dX13_fill_114 (fun h19 => ?_)
          refine l_incl (al1 := fun v20 => [(7, .int v20), (8, .int (0 : Int32)), (0, .ref x0), (1, .int x1), (2, .int x2), (3, .int x3), (4, .int x4), (5, .int x5), (6, .int x6)]) dX13_fill_115 rfl kI_1 rfl (fun _ => rfl) (fun v20 => ?_)
          refine l_goto (t := 43) dX13_fill_118 rfl ?_
          exact l_al rfl ⟨rfl, rfl, rfl, rfl, rfl, rfl, rfl, rfl, trivial⟩
        · refine l_loc dX13_fill_102 rfl rfl ?_
          refine l_goto (t := 114) dX13_fill_104 rfl ?_
          refine l_wz dX13_fill_114 (fun h21 => ?_)
          refine l_incl (al1 := fun v22 => [(7, .int v22), (8, .int (0 : Int32)), (0, .ref x0), (1, .int x1), (2, .int x2), (3, .int x3), (4, .int x4), (5, .int x5), (6, .int x6)]) dX13_fill_115 rfl kI_1 rfl (fun _ => rfl) (fun v22 => ?_)
          refine l_goto (t := 43) dX13_fill_118 rfl ?_
          exact l_al rfl ⟨rfl, rfl, rfl, rfl, rfl, rfl, rfl, rfl, trivial⟩
      · refine l_ic dX13_fill_84 kI_1 ?_
        refine l_goto (t := 89) dX13_fill_85 rfl ?_
        refine l_loc (al1 := [(8, .int (1 : Int32)), (0, .ref x0), (1, .int x1), (2, .int x2), (3, .int x3), (4, .int x4), (5, .int x5), (6, .int x6), (7, .int x7)]) dX13_fill_89 rfl rfl ?_
        refine l_loc dX13_fill_91 rfl rfl ?_
        refine l_gr dX13_fill_92 fl_12_21 (fun v23 => ?_)
        refine l_loc dX13_fill_95 rfl rfl ?_
        refine l_loc dX13_fill_97 rfl rfl ?_
        refine l_ieq (t := 107) dX13_fill_99 rfl ?_ ?_
        · refine l_loc dX13_fill_107 rfl rfl ?_
          refine l_gr dX13_fill_108 fl_12_21 (fun v24 => ?_)
          refine l_loc dX13_fill_111 rfl rfl ?_
          refine l_rz dX13_fill_113 (fun v25 => ?_)
          refine l_wz dX13_fill_114 (fun h26 => ?_)
          refine l_incl (al1 := fun v27 => [(7, .int v27), (8, .int (1 : Int32)), (0, .ref x0), (1, .int x1), (2, .int x2), (3, .int x3), (4, .int x4), (5, .int x5), (6, .int x6)]) dX13_fill_115 rfl kI_1 rfl (fun _ => rfl) (fun v27 => ?_)
          refine l_goto (t := 43) dX13_fill_118 rfl ?_
          exact l_al rfl ⟨rfl, rfl, rfl, rfl, rfl, rfl, rfl, rfl, trivial⟩
        · refine l_loc dX13_fill_102 rfl rfl ?_
          refine l_goto (t := 114) dX13_fill_104 rfl ?_
          refine l_wz dX13_fill_114 (fun h28 => ?_)
          refine l_incl (al1 := fun v29 => [(7, .int v29), (8, .int (1 : Int32)), (0, .ref x0), (1, .int x1), (2, .int x2), (3, .int x3), (4, .int x4), (5, .int x5), (6, .int x6)]) dX13_fill_115 rfl kI_1 rfl (fun _ => rfl) (fun v29 => ?_)
          refine l_goto (t := 43) dX13_fill_118 rfl ?_
          exact l_al rfl ⟨rfl, rfl, rfl, rfl, rfl, rfl, rfl, rfl, trivial⟩
set_option maxRecDepth 16000 in
theorem w_X13_isOn (S : xS) (x0 : Nat) (x1 : Int64) (x3 : Int64) (h : xH) : xle ((xGi h x0 12 0).bind fun v1 => xqI (xM S mX13_in [.long x1, .long (0 : Int64), .long (v1 - (1 : Int32)).toInt64] h) xth fun v3 h2 => if v3 = 0 then (some (.inl (some (.int (0 : Int32))), h2, 0, 0)) else ((xGi h2 x0 12 1).bind fun v4 => xqI (xM S mX13_in [.long x3, .long (0 : Int64), .long (v4 - (1 : Int32)).toInt64] h2) xth fun v6 h5 => if v6 = 0 then (some (.inl (some (.int (0 : Int32))), h5, 0, 0)) else (some (.inl (some (.int (1 : Int32))), h5, 0, 0)))) (xM S mX13_isOn [.ref x0, .long x1, .long x3] h) := by
  show xle _ (xden S mX13_isOn 0 [(0, .ref x0), (1, .long x1), (3, .long x3)] [] h)
  refine l_loc dX13_isOn_0 rfl rfl ?_
  refine l_lc0 dX13_isOn_1 ?_
  refine l_loc dX13_isOn_2 rfl rfl ?_
  refine l_gi dX13_isOn_3 fl_12_179 (fun v1 => ?_)
  refine l_ic dX13_isOn_6 kI_1 ?_
  refine l_pure dX13_isOn_7 rfl rfl ?_
  refine l_pure dX13_isOn_8 rfl rfl ?_
  refine l_cI dX13_isOn_9 rfl rfl rfl (l_xs cl_12_191 ko_mX13_in rfl rfl) rfl rfl nm_mX13_in (xhE_th rfl) (fun v3 h2 => ?_)
  refine l_ieq (t := 34) dX13_isOn_12 rfl ?_ ?_
  · refine l_ic dX13_isOn_34 kI_0 ?_
    exact l_iretn dX13_isOn_35 rfl (by decide)
  · refine l_loc dX13_isOn_15 rfl rfl ?_
    refine l_lc0 dX13_isOn_16 ?_
    refine l_loc dX13_isOn_17 rfl rfl ?_
    refine l_gi dX13_isOn_18 fl_12_183 (fun v4 => ?_)
    refine l_ic dX13_isOn_21 kI_1 ?_
    refine l_pure dX13_isOn_22 rfl rfl ?_
    refine l_pure dX13_isOn_23 rfl rfl ?_
    refine l_cI dX13_isOn_24 rfl rfl rfl (l_xs cl_12_191 ko_mX13_in rfl rfl) rfl rfl nm_mX13_in (xhE_th rfl) (fun v6 h5 => ?_)
    refine l_ieq (t := 34) dX13_isOn_27 rfl ?_ ?_
    · refine l_ic dX13_isOn_34 kI_0 ?_
      exact l_iretn dX13_isOn_35 rfl (by decide)
    · refine l_ic dX13_isOn_30 kI_1 ?_
      refine l_goto (t := 35) dX13_isOn_31 rfl ?_
      exact l_iretn dX13_isOn_35 rfl (by decide)
set_option maxRecDepth 16000 in
theorem w_X13_isWithin (S : xS) (x0 : Int32) (x1 : Int32) (x2 : Int32) (x3 : Int32) (x4 : Int32) (h : xH) : xle (xqI (xM S mX13_in [.long (x0 - x0 / (64 : Int32) * (64 : Int32)).toInt64, .long (x1.toInt64), .long (((x1.toInt64) + (x3.toInt64)) - (1 : Int64))] h) xth fun v2 h1 => if v2 = 0 then (some (.inl (some (.int (0 : Int32))), h1, 0, 0)) else (xqI (xM S mX13_in [.long (x0 / (64 : Int32)).toInt64, .long (x2.toInt64), .long (((x2.toInt64) + (x4.toInt64)) - (1 : Int64))] h1) xth fun v4 h3 => if v4 = 0 then (some (.inl (some (.int (0 : Int32))), h3, 0, 0)) else (some (.inl (some (.int (1 : Int32))), h3, 0, 0)))) (xM S mX13_isWithin [.int x0, .int x1, .int x2, .int x3, .int x4] h) := by
  show xle _ (xden S mX13_isWithin 0 [(0, .int x0), (1, .int x1), (2, .int x2), (3, .int x3), (4, .int x4)] [] h)
  refine l_loc dX13_isWithin_0 rfl rfl ?_
  refine l_bi dX13_isWithin_1 kB_64 ?_
  refine l_remn dX13_isWithin_3 (by decide) ?_
  refine l_pure dX13_isWithin_4 rfl rfl ?_
  refine l_loc dX13_isWithin_5 rfl rfl ?_
  refine l_pure dX13_isWithin_6 rfl rfl ?_
  refine l_loc dX13_isWithin_7 rfl rfl ?_
  refine l_pure dX13_isWithin_8 rfl rfl ?_
  refine l_loc dX13_isWithin_9 rfl rfl ?_
  refine l_pure dX13_isWithin_10 rfl rfl ?_
  refine l_pure dX13_isWithin_11 rfl rfl ?_
  refine l_lc1 dX13_isWithin_12 ?_
  refine l_pure dX13_isWithin_13 rfl rfl ?_
  refine l_cI dX13_isWithin_14 rfl rfl rfl (l_xs cl_12_191 ko_mX13_in rfl rfl) rfl rfl nm_mX13_in (xhE_th rfl) (fun v2 h1 => ?_)
  refine l_ieq (t := 45) dX13_isWithin_17 rfl ?_ ?_
  · refine l_ic dX13_isWithin_45 kI_0 ?_
    exact l_iretn dX13_isWithin_46 rfl (by decide)
  · refine l_loc dX13_isWithin_20 rfl rfl ?_
    refine l_bi dX13_isWithin_21 kB_64 ?_
    refine l_divn dX13_isWithin_23 (by decide) ?_
    refine l_pure dX13_isWithin_24 rfl rfl ?_
    refine l_loc dX13_isWithin_25 rfl rfl ?_
    refine l_pure dX13_isWithin_26 rfl rfl ?_
    refine l_loc dX13_isWithin_27 rfl rfl ?_
    refine l_pure dX13_isWithin_28 rfl rfl ?_
    refine l_loc dX13_isWithin_29 rfl rfl ?_
    refine l_pure dX13_isWithin_31 rfl rfl ?_
    refine l_pure dX13_isWithin_32 rfl rfl ?_
    refine l_lc1 dX13_isWithin_33 ?_
    refine l_pure dX13_isWithin_34 rfl rfl ?_
    refine l_cI dX13_isWithin_35 rfl rfl rfl (l_xs cl_12_191 ko_mX13_in rfl rfl) rfl rfl nm_mX13_in (xhE_th rfl) (fun v4 h3 => ?_)
    refine l_ieq (t := 45) dX13_isWithin_38 rfl ?_ ?_
    · refine l_ic dX13_isWithin_45 kI_0 ?_
      exact l_iretn dX13_isWithin_46 rfl (by decide)
    · refine l_ic dX13_isWithin_41 kI_1 ?_
      refine l_goto (t := 46) dX13_isWithin_42 rfl ?_
      exact l_iretn dX13_isWithin_46 rfl (by decide)
set_option maxRecDepth 16000 in
theorem w_X13_copy (S : xS) (x0 : Nat) (x1 : Int32) (x2 : Int32) (x3 : Int32) (x4 : Int32) (h : xH) : xle ((xP false 12 h x0 12 2 (.int (0 : Int32))).bind fun h1 => if xOb h1 x0 12 = true then xqI (xM S mX13_isPage [.ref x0, .int x1] h1) xth fun v4 h3 => if v4 = 0 then (if xOb h3 x0 12 = true then xqI (xM S mX13_fails [.ref x0, .int (1 : Int32)] h3) xth fun v7 h6 => some (.inl (some (.int v7)), h6, 0, 0) else none) else (if xOb h3 x0 12 = true then xqI (xM S mX13_isPage [.ref x0, .int x2] h3) xth fun v10 h9 => if ¬ v10 = 0 then (xden S mX13_copy 30 [(0, .ref x0), (1, .int x1), (2, .int x2), (3, .int x3), (4, .int x4), (5, .int (0 : Int32))] [] h9) else (if xOb h9 x0 12 = true then xqI (xM S mX13_fails [.ref x0, .int (1 : Int32)] h9) xth fun v13 h12 => some (.inl (some (.int v13)), h12, 0, 0) else none) else none) else none) (xM S mX13_copy [.ref x0, .int x1, .int x2, .int x3, .int x4] h) := by
  show xle _ (xden S mX13_copy 0 [(0, .ref x0), (1, .int x1), (2, .int x2), (3, .int x3), (4, .int x4)] [] h)
  refine l_loc dX13_copy_0 rfl rfl ?_
  refine l_ic dX13_copy_1 kI_0 ?_
  refine l_pf dX13_copy_2 fl_12_186 (ini := false) nm_mX13_copy (fun h1 => ?_)
  refine l_loc dX13_copy_5 rfl rfl ?_
  refine l_loc dX13_copy_6 rfl rfl ?_
  refine l_ob fun q2 => ?_
  refine l_cI dX13_copy_7 rfl rfl rfl (l_xv cl_12_202 ko_mX13_isPage rfl rfl rfl q2) rfl rfl nm_mX13_isPage (xhE_th rfl) (fun v4 h3 => ?_)
  refine l_ieq (t := 21) dX13_copy_10 rfl ?_ ?_
  · refine l_loc dX13_copy_21 rfl rfl ?_
    refine l_ic dX13_copy_22 kI_1 ?_
    refine l_ob fun q5 => ?_
    refine l_cI dX13_copy_23 rfl rfl rfl (l_xv cl_12_206 ko_mX13_fails rfl rfl rfl q5) rfl rfl nm_mX13_fails (xhE_th rfl) (fun v7 h6 => ?_)
    exact l_iretn dX13_copy_26 rfl (by rfl)
  · refine l_loc dX13_copy_13 rfl rfl ?_
    refine l_loc dX13_copy_14 rfl rfl ?_
    refine l_ob fun q8 => ?_
    refine l_cI dX13_copy_15 rfl rfl rfl (l_xv cl_12_202 ko_mX13_isPage rfl rfl rfl q8) rfl rfl nm_mX13_isPage (xhE_th rfl) (fun v10 h9 => ?_)
    refine l_ine (t := 27) dX13_copy_18 rfl ?_ ?_
    · refine l_ic dX13_copy_27 kI_0 ?_
      refine l_loc (al1 := [(5, .int (0 : Int32)), (0, .ref x0), (1, .int x1), (2, .int x2), (3, .int x3), (4, .int x4)]) dX13_copy_28 rfl rfl ?_
      exact l_al rfl ⟨rfl, rfl, rfl, rfl, rfl, rfl, trivial⟩
    · refine l_loc dX13_copy_21 rfl rfl ?_
      refine l_ic dX13_copy_22 kI_1 ?_
      refine l_ob fun q11 => ?_
      refine l_cI dX13_copy_23 rfl rfl rfl (l_xv cl_12_206 ko_mX13_fails rfl rfl rfl q11) rfl rfl nm_mX13_fails (xhE_th rfl) (fun v13 h12 => ?_)
      exact l_iretn dX13_copy_26 rfl (by rfl)
set_option maxRecDepth 16000 in
theorem w_X13_copy_30 (S : xS) (x0 : Nat) (x1 : Int32) (x2 : Int32) (x3 : Int32) (x4 : Int32) (x5 : Int32) (h : xH) : xle (if (4096 : Int32) ≤ x5 then (if xOb h x0 12 = true then xqI (xM S mX13_edits [.ref x0, .int x2] h) xth fun v3 h2 => some (.inl (some (.int v3)), h2, 0, 0) else none) else (if xOb h x0 12 = true then xqI (xM S mX13_isOn [.ref x0, .long (x5 - x5 / (64 : Int32) * (64 : Int32)).toInt64, .long (x5 / (64 : Int32)).toInt64] h) xth fun v6 h5 => (xGr h5 x0 12 7).bind fun v7 => if v6 = 0 then ((xWz h5 v7 x5 (0 : Int32)).bind fun h8 => xlet (x5 + (1 : Int32)) fun v9 => (xden S mX13_copy 30 [(0, .ref x0), (1, .int x1), (2, .int x2), (3, .int x3), (4, .int x4), (5, .int v9)] [] h8)) else (if xOb h5 x0 12 = true then xqI (xM S mX13_at [.ref x0, .int x1, .long ((x5 - x5 / (64 : Int32) * (64 : Int32)).toInt64 - (x3.toInt64)), .long ((x5 / (64 : Int32)).toInt64 - (x4.toInt64))] h5) xth fun v12 h11 => if v12 = 0 then ((xWz h11 v7 x5 (0 : Int32)).bind fun h13 => xlet (x5 + (1 : Int32)) fun v14 => (xden S mX13_copy 30 [(0, .ref x0), (1, .int x1), (2, .int x2), (3, .int x3), (4, .int x4), (5, .int v14)] [] h13)) else ((xWz h11 v7 x5 (1 : Int32)).bind fun h15 => xlet (x5 + (1 : Int32)) fun v16 => (xden S mX13_copy 30 [(0, .ref x0), (1, .int x1), (2, .int x2), (3, .int x3), (4, .int x4), (5, .int v16)] [] h15)) else none) else none)) (xden S mX13_copy 30 [(0, .ref x0), (1, .int x1), (2, .int x2), (3, .int x3), (4, .int x4), (5, .int x5)] [] h) := by
  refine l_loc dX13_copy_30 rfl rfl ?_
  refine l_si dX13_copy_32 kS_4096 ?_
  refine l_cge (t := 106) dX13_copy_35 rfl ?_ ?_
  · refine l_loc dX13_copy_106 rfl rfl ?_
    refine l_loc dX13_copy_107 rfl rfl ?_
    refine l_ob fun q1 => ?_
    refine l_cI dX13_copy_108 rfl rfl rfl (l_xv cl_12_218 ko_mX13_edits rfl rfl rfl q1) rfl rfl nm_mX13_edits (xhE_th rfl) (fun v3 h2 => ?_)
    exact l_iretn dX13_copy_111 rfl (by rfl)
  · refine l_loc dX13_copy_38 rfl rfl ?_
    refine l_loc dX13_copy_39 rfl rfl ?_
    refine l_bi dX13_copy_41 kB_64 ?_
    refine l_remn dX13_copy_43 (by decide) ?_
    refine l_pure dX13_copy_44 rfl rfl ?_
    refine l_loc dX13_copy_45 rfl rfl ?_
    refine l_bi dX13_copy_47 kB_64 ?_
    refine l_divn dX13_copy_49 (by decide) ?_
    refine l_pure dX13_copy_50 rfl rfl ?_
    refine l_ob fun q4 => ?_
    refine l_cI dX13_copy_51 rfl rfl rfl (l_xv cl_12_195 ko_mX13_isOn rfl rfl rfl q4) rfl rfl nm_mX13_isOn (xhE_th rfl) (fun v6 h5 => ?_)
    refine l_loc (al1 := [(6, .int v6), (0, .ref x0), (1, .int x1), (2, .int x2), (3, .int x3), (4, .int x4), (5, .int x5)]) dX13_copy_54 rfl rfl ?_
    refine l_loc dX13_copy_56 rfl rfl ?_
    refine l_gr dX13_copy_57 fl_12_21 (fun v7 => ?_)
    refine l_loc dX13_copy_60 rfl rfl ?_
    refine l_loc dX13_copy_62 rfl rfl ?_
    refine l_ieq (t := 98) dX13_copy_64 rfl ?_ ?_
    · refine l_ic dX13_copy_98 kI_0 ?_
      refine l_wz dX13_copy_99 (fun h8 => ?_)
      refine l_incl (al1 := fun v9 => [(5, .int v9), (6, .int v6), (0, .ref x0), (1, .int x1), (2, .int x2), (3, .int x3), (4, .int x4)]) dX13_copy_100 rfl kI_1 rfl (fun _ => rfl) (fun v9 => ?_)
      refine l_goto (t := 30) dX13_copy_103 rfl ?_
      exact l_al rfl ⟨rfl, rfl, rfl, rfl, rfl, rfl, trivial⟩
    · refine l_loc dX13_copy_67 rfl rfl ?_
      refine l_loc dX13_copy_68 rfl rfl ?_
      refine l_loc dX13_copy_69 rfl rfl ?_
      refine l_bi dX13_copy_71 kB_64 ?_
      refine l_remn dX13_copy_73 (by decide) ?_
      refine l_pure dX13_copy_74 rfl rfl ?_
      refine l_loc dX13_copy_75 rfl rfl ?_
      refine l_pure dX13_copy_76 rfl rfl ?_
      refine l_pure dX13_copy_77 rfl rfl ?_
      refine l_loc dX13_copy_78 rfl rfl ?_
      refine l_bi dX13_copy_80 kB_64 ?_
      refine l_divn dX13_copy_82 (by decide) ?_
      refine l_pure dX13_copy_83 rfl rfl ?_
      refine l_loc dX13_copy_84 rfl rfl ?_
      refine l_pure dX13_copy_86 rfl rfl ?_
      refine l_pure dX13_copy_87 rfl rfl ?_
      refine l_ob fun q10 => ?_
      refine l_cI dX13_copy_88 rfl rfl rfl (l_xv cl_12_224 ko_mX13_at rfl rfl rfl q10) rfl rfl nm_mX13_at (xhE_th rfl) (fun v12 h11 => ?_)
      refine l_ieq (t := 98) dX13_copy_91 rfl ?_ ?_
      · refine l_ic dX13_copy_98 kI_0 ?_
        refine l_wz dX13_copy_99 (fun h13 => ?_)
        refine l_incl (al1 := fun v14 => [(5, .int v14), (6, .int v6), (0, .ref x0), (1, .int x1), (2, .int x2), (3, .int x3), (4, .int x4)]) dX13_copy_100 rfl kI_1 rfl (fun _ => rfl) (fun v14 => ?_)
        refine l_goto (t := 30) dX13_copy_103 rfl ?_
        exact l_al rfl ⟨rfl, rfl, rfl, rfl, rfl, rfl, trivial⟩
      · refine l_ic dX13_copy_94 kI_1 ?_
        refine l_goto (t := 99) dX13_copy_95 rfl ?_
        refine l_wz dX13_copy_99 (fun h15 => ?_)
        refine l_incl (al1 := fun v16 => [(5, .int v16), (6, .int v6), (0, .ref x0), (1, .int x1), (2, .int x2), (3, .int x3), (4, .int x4)]) dX13_copy_100 rfl kI_1 rfl (fun _ => rfl) (fun v16 => ?_)
        refine l_goto (t := 30) dX13_copy_103 rfl ?_
        exact l_al rfl ⟨rfl, rfl, rfl, rfl, rfl, rfl, trivial⟩
set_option maxRecDepth 16000 in
theorem w_X13_at (S : xS) (x0 : Nat) (x1 : Int32) (x2 : Int64) (x4 : Int64) (h : xH) : xle (if xOb h x0 12 = true then xqI (xM S mX13_isOn [.ref x0, .long x2, .long x4] h) xth fun v3 h2 => if v3 = 0 then (some (.inl (some (.int (0 : Int32))), h2, 0, 0)) else ((xGr h2 x0 12 3).bind fun v4 => (xRi h2 2 v4 ((((4096 : Int32) * x1) + ((64 : Int32) * (x4.toInt32))) + (x2.toInt32))).bind fun v5 => if v5 = 0 then (some (.inl (some (.int (0 : Int32))), h2, 0, 0)) else (some (.inl (some (.int (1 : Int32))), h2, 0, 0))) else none) (xM S mX13_at [.ref x0, .int x1, .long x2, .long x4] h) := by
  show xle _ (xden S mX13_at 0 [(0, .ref x0), (1, .int x1), (2, .long x2), (4, .long x4)] [] h)
  refine l_loc dX13_at_0 rfl rfl ?_
  refine l_loc dX13_at_1 rfl rfl ?_
  refine l_loc dX13_at_2 rfl rfl ?_
  refine l_ob fun q1 => ?_
  refine l_cI dX13_at_4 rfl rfl rfl (l_xv cl_12_195 ko_mX13_isOn rfl rfl rfl q1) rfl rfl nm_mX13_isOn (xhE_th rfl) (fun v3 h2 => ?_)
  refine l_ieq (t := 37) dX13_at_7 rfl ?_ ?_
  · refine l_ic dX13_at_37 kI_0 ?_
    exact l_iretn dX13_at_38 rfl (by decide)
  · refine l_loc dX13_at_10 rfl rfl ?_
    refine l_gr dX13_at_11 fl_12_7 (fun v4 => ?_)
    refine l_si dX13_at_14 kS_4096 ?_
    refine l_loc dX13_at_17 rfl rfl ?_
    refine l_pure dX13_at_18 rfl rfl ?_
    refine l_bi dX13_at_19 kB_64 ?_
    refine l_loc dX13_at_21 rfl rfl ?_
    refine l_pure dX13_at_23 rfl rfl ?_
    refine l_pure dX13_at_24 rfl rfl ?_
    refine l_pure dX13_at_25 rfl rfl ?_
    refine l_loc dX13_at_26 rfl rfl ?_
    refine l_pure dX13_at_27 rfl rfl ?_
    refine l_pure dX13_at_28 rfl rfl ?_
    refine l_rz dX13_at_29 (fun v5 => ?_)
    refine l_ieq (t := 37) dX13_at_30 rfl ?_ ?_
    · refine l_ic dX13_at_37 kI_0 ?_
      exact l_iretn dX13_at_38 rfl (by decide)
    · refine l_ic dX13_at_33 kI_1 ?_
      refine l_goto (t := 38) dX13_at_34 rfl ?_
      exact l_iretn dX13_at_38 rfl (by decide)
set_option maxRecDepth 16000 in
theorem w_X13_merge (S : xS) (x0 : Nat) (x1 : Int32) (h : xH) : xle ((xP false 12 h x0 12 2 (.int (0 : Int32))).bind fun h1 => if xOb h1 x0 12 = true then xqI (xM S mX13_isPage [.ref x0, .int x1] h1) xth fun v4 h3 => if ¬ v4 = 0 then (xden S mX13_merge 21 [(0, .ref x0), (1, .int x1), (2, .int (0 : Int32))] [] h3) else (if xOb h3 x0 12 = true then xqI (xM S mX13_fails [.ref x0, .int (1 : Int32)] h3) xth fun v7 h6 => some (.inl (some (.int v7)), h6, 0, 0) else none) else none) (xM S mX13_merge [.ref x0, .int x1] h) := by
  show xle _ (xden S mX13_merge 0 [(0, .ref x0), (1, .int x1)] [] h)
  refine l_loc dX13_merge_0 rfl rfl ?_
  refine l_ic dX13_merge_1 kI_0 ?_
  refine l_pf dX13_merge_2 fl_12_186 (ini := false) nm_mX13_merge (fun h1 => ?_)
  refine l_loc dX13_merge_5 rfl rfl ?_
  refine l_loc dX13_merge_6 rfl rfl ?_
  refine l_ob fun q2 => ?_
  refine l_cI dX13_merge_7 rfl rfl rfl (l_xv cl_12_202 ko_mX13_isPage rfl rfl rfl q2) rfl rfl nm_mX13_isPage (xhE_th rfl) (fun v4 h3 => ?_)
  refine l_ine (t := 19) dX13_merge_10 rfl ?_ ?_
  · refine l_ic dX13_merge_19 kI_0 ?_
    refine l_loc (al1 := [(2, .int (0 : Int32)), (0, .ref x0), (1, .int x1)]) dX13_merge_20 rfl rfl ?_
    exact l_al rfl ⟨rfl, rfl, rfl, trivial⟩
  · refine l_loc dX13_merge_13 rfl rfl ?_
    refine l_ic dX13_merge_14 kI_1 ?_
    refine l_ob fun q5 => ?_
    refine l_cI dX13_merge_15 rfl rfl rfl (l_xv cl_12_206 ko_mX13_fails rfl rfl rfl q5) rfl rfl nm_mX13_fails (xhE_th rfl) (fun v7 h6 => ?_)
    exact l_iretn dX13_merge_18 rfl (by rfl)
set_option maxRecDepth 16000 in
theorem w_X13_merge_21 (S : xS) (x0 : Nat) (x1 : Int32) (x2 : Int32) (h : xH) : xle (if (4096 : Int32) ≤ x2 then (if xOb h x0 12 = true then xqI (xM S mX13_edits [.ref x0, .int x1] h) xth fun v3 h2 => some (.inl (some (.int v3)), h2, 0, 0) else none) else ((xGr h x0 12 3).bind fun v4 => (xRi h 2 v4 ((4096 : Int32) + x2)).bind fun v5 => if v5 = 0 then ((xGr h x0 12 3).bind fun v6 => (xRi h 2 v6 ((8192 : Int32) + x2)).bind fun v7 => if v7 = 0 then ((xGr h x0 12 3).bind fun v8 => (xRi h 2 v8 ((12288 : Int32) + x2)).bind fun v9 => if v9 = 0 then (xden S mX13_merge 83 [(0, .ref x0), (1, .int x1), (2, .int x2)] [.int (0 : Int32), .int ((0 : Int32) + (0 : Int32))] h) else (xden S mX13_merge 83 [(0, .ref x0), (1, .int x1), (2, .int x2)] [.int (1 : Int32), .int ((0 : Int32) + (0 : Int32))] h)) else ((xGr h x0 12 3).bind fun v10 => (xRi h 2 v10 ((12288 : Int32) + x2)).bind fun v11 => if v11 = 0 then (xden S mX13_merge 83 [(0, .ref x0), (1, .int x1), (2, .int x2)] [.int (0 : Int32), .int ((0 : Int32) + (1 : Int32))] h) else (xden S mX13_merge 83 [(0, .ref x0), (1, .int x1), (2, .int x2)] [.int (1 : Int32), .int ((0 : Int32) + (1 : Int32))] h))) else ((xGr h x0 12 3).bind fun v12 => (xRi h 2 v12 ((8192 : Int32) + x2)).bind fun v13 => if v13 = 0 then ((xGr h x0 12 3).bind fun v14 => (xRi h 2 v14 ((12288 : Int32) + x2)).bind fun v15 => if v15 = 0 then (xden S mX13_merge 83 [(0, .ref x0), (1, .int x1), (2, .int x2)] [.int (0 : Int32), .int ((1 : Int32) + (0 : Int32))] h) else (xden S mX13_merge 83 [(0, .ref x0), (1, .int x1), (2, .int x2)] [.int (1 : Int32), .int ((1 : Int32) + (0 : Int32))] h)) else ((xGr h x0 12 3).bind fun v16 => (xRi h 2 v16 ((12288 : Int32) + x2)).bind fun v17 => if v17 = 0 then (xden S mX13_merge 83 [(0, .ref x0), (1, .int x1), (2, .int x2)] [.int (0 : Int32), .int ((1 : Int32) + (1 : Int32))] h) else (xden S mX13_merge 83 [(0, .ref x0), (1, .int x1), (2, .int x2)] [.int (1 : Int32), .int ((1 : Int32) + (1 : Int32))] h))))) (xden S mX13_merge 21 [(0, .ref x0), (1, .int x1), (2, .int x2)] [] h) := by
  refine l_loc dX13_merge_21 rfl rfl ?_
  refine l_si dX13_merge_22 kS_4096 ?_
  refine l_cge (t := 107) dX13_merge_25 rfl ?_ ?_
  · refine l_loc dX13_merge_107 rfl rfl ?_
    refine l_loc dX13_merge_108 rfl rfl ?_
    refine l_ob fun q1 => ?_
    refine l_cI dX13_merge_109 rfl rfl rfl (l_xv cl_12_218 ko_mX13_edits rfl rfl rfl q1) rfl rfl nm_mX13_edits (xhE_th rfl) (fun v3 h2 => ?_)
    exact l_iretn dX13_merge_112 rfl (by rfl)
  · refine l_loc dX13_merge_28 rfl rfl ?_
    refine l_gr dX13_merge_29 fl_12_7 (fun v4 => ?_)
    refine l_si dX13_merge_32 kS_4096 ?_
    refine l_loc dX13_merge_35 rfl rfl ?_
    refine l_pure dX13_merge_36 rfl rfl ?_
    refine l_rz dX13_merge_37 (fun v5 => ?_)
    refine l_ieq (t := 45) dX13_merge_38 rfl ?_ ?_
    · refine l_ic dX13_merge_45 kI_0 ?_
      refine l_loc dX13_merge_46 rfl rfl ?_
      refine l_gr dX13_merge_47 fl_12_7 (fun v6 => ?_)
      refine l_si dX13_merge_50 kS_8192 ?_
      refine l_loc dX13_merge_53 rfl rfl ?_
      refine l_pure dX13_merge_54 rfl rfl ?_
      refine l_rz dX13_merge_55 (fun v7 => ?_)
      refine l_ieq (t := 63) dX13_merge_56 rfl ?_ ?_
      · refine l_ic dX13_merge_63 kI_0 ?_
        refine l_pure dX13_merge_64 rfl rfl ?_
        refine l_loc dX13_merge_65 rfl rfl ?_
        refine l_gr dX13_merge_66 fl_12_7 (fun v8 => ?_)
        refine l_si dX13_merge_69 kS_12288 ?_
        refine l_loc dX13_merge_72 rfl rfl ?_
        refine l_pure dX13_merge_73 rfl rfl ?_
        refine l_rz dX13_merge_74 (fun v9 => ?_)
        refine l_ieq (t := 82) dX13_merge_75 rfl ?_ ?_
        · refine l_ic dX13_merge_82 kI_0 ?_
          exact l_al rfl ⟨rfl, rfl, rfl, trivial⟩
        · refine l_ic dX13_merge_78 kI_1 ?_
          refine l_goto (t := 83) dX13_merge_79 rfl ?_
          exact l_al rfl ⟨rfl, rfl, rfl, trivial⟩
      · refine l_ic dX13_merge_59 kI_1 ?_
        refine l_goto (t := 64) dX13_merge_60 rfl ?_
        refine l_pure dX13_merge_64 rfl rfl ?_
        refine l_loc dX13_merge_65 rfl rfl ?_
        refine l_gr dX13_merge_66 fl_12_7 (fun v10 => ?_)
        refine l_si dX13_merge_69 kS_12288 ?_
        refine l_loc dX13_merge_72 rfl rfl ?_
        refine l_pure dX13_merge_73 rfl rfl ?_
        refine l_rz dX13_merge_74 (fun v11 => ?_)
        refine l_ieq (t := 82) dX13_merge_75 rfl ?_ ?_
        · refine l_ic dX13_merge_82 kI_0 ?_
          exact l_al rfl ⟨rfl, rfl, rfl, trivial⟩
        · refine l_ic dX13_merge_78 kI_1 ?_
          refine l_goto (t := 83) dX13_merge_79 rfl ?_
          exact l_al rfl ⟨rfl, rfl, rfl, trivial⟩
    · refine l_ic dX13_merge_41 kI_1 ?_
      refine l_goto (t := 46) dX13_merge_42 rfl ?_
      refine l_loc dX13_merge_46 rfl rfl ?_
      refine l_gr dX13_merge_47 fl_12_7 (fun v12 => ?_)
      refine l_si dX13_merge_50 kS_8192 ?_
      refine l_loc dX13_merge_53 rfl rfl ?_
      refine l_pure dX13_merge_54 rfl rfl ?_
      refine l_rz dX13_merge_55 (fun v13 => ?_)
      refine l_ieq (t := 63) dX13_merge_56 rfl ?_ ?_
      · refine l_ic dX13_merge_63 kI_0 ?_
        refine l_pure dX13_merge_64 rfl rfl ?_
        refine l_loc dX13_merge_65 rfl rfl ?_
        refine l_gr dX13_merge_66 fl_12_7 (fun v14 => ?_)
        refine l_si dX13_merge_69 kS_12288 ?_
        refine l_loc dX13_merge_72 rfl rfl ?_
        refine l_pure dX13_merge_73 rfl rfl ?_
        refine l_rz dX13_merge_74 (fun v15 => ?_)
        refine l_ieq (t := 82) dX13_merge_75 rfl ?_ ?_
        · refine l_ic dX13_merge_82 kI_0 ?_
          exact l_al rfl ⟨rfl, rfl, rfl, trivial⟩
        · refine l_ic dX13_merge_78 kI_1 ?_
          refine l_goto (t := 83) dX13_merge_79 rfl ?_
          exact l_al rfl ⟨rfl, rfl, rfl, trivial⟩
      · refine l_ic dX13_merge_59 kI_1 ?_
        refine l_goto (t := 64) dX13_merge_60 rfl ?_
        refine l_pure dX13_merge_64 rfl rfl ?_
        refine l_loc dX13_merge_65 rfl rfl ?_
        refine l_gr dX13_merge_66 fl_12_7 (fun v16 => ?_)
        refine l_si dX13_merge_69 kS_12288 ?_
        refine l_loc dX13_merge_72 rfl rfl ?_
        refine l_pure dX13_merge_73 rfl rfl ?_
        refine l_rz dX13_merge_74 (fun v17 => ?_)
        refine l_ieq (t := 82) dX13_merge_75 rfl ?_ ?_
        · refine l_ic dX13_merge_82 kI_0 ?_
          exact l_al rfl ⟨rfl, rfl, rfl, trivial⟩
        · refine l_ic dX13_merge_78 kI_1 ?_
          refine l_goto (t := 83) dX13_merge_79 rfl ?_
          exact l_al rfl ⟨rfl, rfl, rfl, trivial⟩
set_option maxRecDepth 16000 in
theorem w_X13_merge_83 (S : xS) (x0 : Nat) (x1 : Int32) (x2 : Int32) (z0 : Int32) (z1 : Int32) (h : xH) : xle (xlet (z1 + z0) fun v1 => (xGr h x0 12 7).bind fun v2 => if v1 < (2 : Int32) then ((xWz h v2 x2 (0 : Int32)).bind fun h3 => xlet (x2 + (1 : Int32)) fun v4 => (xden S mX13_merge 21 [(0, .ref x0), (1, .int x1), (2, .int v4)] [] h3)) else ((xWz h v2 x2 (1 : Int32)).bind fun h5 => xlet (x2 + (1 : Int32)) fun v6 => (xden S mX13_merge 21 [(0, .ref x0), (1, .int x1), (2, .int v6)] [] h5))) (xden S mX13_merge 83 [(0, .ref x0), (1, .int x1), (2, .int x2)] [.int z0, .int z1] h) := by
  refine l_pure dX13_merge_83 rfl rfl ?_
  refine l_isl (al1 := fun v1 => [(3, .int v1), (0, .ref x0), (1, .int x1), (2, .int x2)]) dX13_merge_84 rfl (fun _ => rfl) (fun v1 => ?_)
  refine l_loc dX13_merge_85 rfl rfl ?_
  refine l_gr dX13_merge_86 fl_12_21 (fun v2 => ?_)
  refine l_loc dX13_merge_89 rfl rfl ?_
  refine l_loc dX13_merge_90 rfl rfl ?_
  refine l_ic dX13_merge_91 kI_2 ?_
  refine l_clt (t := 99) dX13_merge_92 rfl ?_ ?_
  · refine l_ic dX13_merge_99 kI_0 ?_
    refine l_wz dX13_merge_100 (fun h3 => ?_)
    refine l_incl (al1 := fun v4 => [(2, .int v4), (3, .int v1), (0, .ref x0), (1, .int x1)]) dX13_merge_101 rfl kI_1 rfl (fun _ => rfl) (fun v4 => ?_)
    refine l_goto (t := 21) dX13_merge_104 rfl ?_
    exact l_al rfl ⟨rfl, rfl, rfl, trivial⟩
  · refine l_ic dX13_merge_95 kI_1 ?_
    refine l_goto (t := 100) dX13_merge_96 rfl ?_
    refine l_wz dX13_merge_100 (fun h5 => ?_)
    refine l_incl (al1 := fun v6 => [(2, .int v6), (3, .int v1), (0, .ref x0), (1, .int x1)]) dX13_merge_101 rfl kI_1 rfl (fun _ => rfl) (fun v6 => ?_)
    refine l_goto (t := 21) dX13_merge_104 rfl ?_
    exact l_al rfl ⟨rfl, rfl, rfl, trivial⟩
set_option maxRecDepth 16000 in
theorem w_X13_flip (S : xS) (x0 : Nat) (x1 : Int32) (x2 : Int32) (h : xH) : xle ((xP false 12 h x0 12 2 (.int (0 : Int32))).bind fun h1 => if xOb h1 x0 12 = true then xqI (xM S mX13_isPage [.ref x0, .int x1] h1) xth fun v4 h3 => if ¬ v4 = 0 then (xqI (xM S mX13_in [.long (x2.toInt64), .long (0 : Int64), .long (2 : Int64)] h3) xth fun v6 h5 => if ¬ v6 = 0 then (xden S mX13_flip 39 [(0, .ref x0), (1, .int x1), (2, .int x2), (3, .int (0 : Int32))] [] h5) else (if xOb h5 x0 12 = true then xqI (xM S mX13_fails [.ref x0, .int (2 : Int32)] h5) xth fun v9 h8 => some (.inl (some (.int v9)), h8, 0, 0) else none)) else (if xOb h3 x0 12 = true then xqI (xM S mX13_fails [.ref x0, .int (1 : Int32)] h3) xth fun v12 h11 => some (.inl (some (.int v12)), h11, 0, 0) else none) else none) (xM S mX13_flip [.ref x0, .int x1, .int x2] h) := by
  show xle _ (xden S mX13_flip 0 [(0, .ref x0), (1, .int x1), (2, .int x2)] [] h)
  refine l_loc dX13_flip_0 rfl rfl ?_
  refine l_ic dX13_flip_1 kI_0 ?_
  refine l_pf dX13_flip_2 fl_12_186 (ini := false) nm_mX13_flip (fun h1 => ?_)
  refine l_loc dX13_flip_5 rfl rfl ?_
  refine l_loc dX13_flip_6 rfl rfl ?_
  refine l_ob fun q2 => ?_
  refine l_cI dX13_flip_7 rfl rfl rfl (l_xv cl_12_202 ko_mX13_isPage rfl rfl rfl q2) rfl rfl nm_mX13_isPage (xhE_th rfl) (fun v4 h3 => ?_)
  refine l_ine (t := 19) dX13_flip_10 rfl ?_ ?_
  · refine l_loc dX13_flip_19 rfl rfl ?_
    refine l_pure dX13_flip_20 rfl rfl ?_
    refine l_lc0 dX13_flip_21 ?_
    refine l_rd (st1 := [.long (2 : Int64), .long (0 : Int64), .long (x2.toInt64)]) dX13_flip_22 rfl rfl ?_
    refine l_cI dX13_flip_25 rfl rfl rfl (l_xs cl_12_191 ko_mX13_in rfl rfl) rfl rfl nm_mX13_in (xhE_th rfl) (fun v6 h5 => ?_)
    refine l_ine (t := 37) dX13_flip_28 rfl ?_ ?_
    · refine l_ic dX13_flip_37 kI_0 ?_
      refine l_loc (al1 := [(3, .int (0 : Int32)), (0, .ref x0), (1, .int x1), (2, .int x2)]) dX13_flip_38 rfl rfl ?_
      exact l_al rfl ⟨rfl, rfl, rfl, rfl, trivial⟩
    · refine l_loc dX13_flip_31 rfl rfl ?_
      refine l_ic dX13_flip_32 kI_2 ?_
      refine l_ob fun q7 => ?_
      refine l_cI dX13_flip_33 rfl rfl rfl (l_xv cl_12_206 ko_mX13_fails rfl rfl rfl q7) rfl rfl nm_mX13_fails (xhE_th rfl) (fun v9 h8 => ?_)
      exact l_iretn dX13_flip_36 rfl (by rfl)
  · refine l_loc dX13_flip_13 rfl rfl ?_
    refine l_ic dX13_flip_14 kI_1 ?_
    refine l_ob fun q10 => ?_
    refine l_cI dX13_flip_15 rfl rfl rfl (l_xv cl_12_206 ko_mX13_fails rfl rfl rfl q10) rfl rfl nm_mX13_fails (xhE_th rfl) (fun v12 h11 => ?_)
    exact l_iretn dX13_flip_18 rfl (by rfl)
set_option maxRecDepth 16000 in
theorem w_X13_flip_39 (S : xS) (x0 : Nat) (x1 : Int32) (x2 : Int32) (x3 : Int32) (h : xH) : xle (if (4096 : Int32) ≤ x3 then (if xOb h x0 12 = true then xqI (xM S mX13_edits [.ref x0, .int x1] h) xth fun v3 h2 => some (.inl (some (.int v3)), h2, 0, 0) else none) else (xlet (x3 - x3 / (64 : Int32) * (64 : Int32)) fun v4 => xlet (x3 / (64 : Int32)) fun v5 => if ¬ x2 = (1 : Int32) then ((xGi h x0 12 0).bind fun v6 => xlet ((v6 - (1 : Int32)) - v4) fun v7 => if ¬ x2 = 0 then ((xGi h x0 12 1).bind fun v8 => (xden S mX13_flip 97 [(0, .ref x0), (1, .int x1), (2, .int x2), (3, .int x3), (4, .int v4), (5, .int v5), (6, .int v7)] [.int ((v8 - (1 : Int32)) - v5)] h)) else (xden S mX13_flip 97 [(0, .ref x0), (1, .int x1), (2, .int x2), (3, .int x3), (4, .int v4), (5, .int v5), (6, .int v7)] [.int v5] h)) else (if ¬ x2 = 0 then ((xGi h x0 12 1).bind fun v9 => (xden S mX13_flip 97 [(0, .ref x0), (1, .int x1), (2, .int x2), (3, .int x3), (4, .int v4), (5, .int v5), (6, .int v4)] [.int ((v9 - (1 : Int32)) - v5)] h)) else (xden S mX13_flip 97 [(0, .ref x0), (1, .int x1), (2, .int x2), (3, .int x3), (4, .int v4), (5, .int v5), (6, .int v4)] [.int v5] h)))) (xden S mX13_flip 39 [(0, .ref x0), (1, .int x1), (2, .int x2), (3, .int x3)] [] h) := by
  refine l_loc dX13_flip_39 rfl rfl ?_
  refine l_si dX13_flip_40 kS_4096 ?_
  refine l_cge (t := 143) dX13_flip_43 rfl ?_ ?_
  · refine l_loc dX13_flip_143 rfl rfl ?_
    refine l_loc dX13_flip_144 rfl rfl ?_
    refine l_ob fun q1 => ?_
    refine l_cI dX13_flip_145 rfl rfl rfl (l_xv cl_12_218 ko_mX13_edits rfl rfl rfl q1) rfl rfl nm_mX13_edits (xhE_th rfl) (fun v3 h2 => ?_)
    exact l_iretn dX13_flip_148 rfl (by rfl)
  · refine l_loc dX13_flip_46 rfl rfl ?_
    refine l_bi dX13_flip_47 kB_64 ?_
    refine l_remn dX13_flip_49 (by decide) ?_
    refine l_isl (al1 := fun v4 => [(4, .int v4), (0, .ref x0), (1, .int x1), (2, .int x2), (3, .int x3)]) dX13_flip_50 rfl (fun _ => rfl) (fun v4 => ?_)
    refine l_loc dX13_flip_52 rfl rfl ?_
    refine l_bi dX13_flip_53 kB_64 ?_
    refine l_divn dX13_flip_55 (by decide) ?_
    refine l_isl (al1 := fun v5 => [(5, .int v5), (4, .int v4), (0, .ref x0), (1, .int x1), (2, .int x2), (3, .int x3)]) dX13_flip_56 rfl (fun _ => rfl) (fun v5 => ?_)
    refine l_loc dX13_flip_58 rfl rfl ?_
    refine l_ic dX13_flip_59 kI_1 ?_
    refine l_cne (t := 68) dX13_flip_60 rfl ?_ ?_
    · refine l_loc dX13_flip_68 rfl rfl ?_
      refine l_gi dX13_flip_69 fl_12_179 (fun v6 => ?_)
      refine l_ic dX13_flip_72 kI_1 ?_
      refine l_pure dX13_flip_73 rfl rfl ?_
      refine l_loc dX13_flip_74 rfl rfl ?_
      refine l_pure dX13_flip_76 rfl rfl ?_
      refine l_isl (al1 := fun v7 => [(6, .int v7), (5, .int v5), (4, .int v4), (0, .ref x0), (1, .int x1), (2, .int x2), (3, .int x3)]) dX13_flip_77 rfl (fun _ => rfl) (fun v7 => ?_)
      refine l_loc dX13_flip_79 rfl rfl ?_
      refine l_ine (t := 88) dX13_flip_80 rfl ?_ ?_
      · refine l_loc dX13_flip_88 rfl rfl ?_
        refine l_gi dX13_flip_89 fl_12_183 (fun v8 => ?_)
        refine l_ic dX13_flip_92 kI_1 ?_
        refine l_pure dX13_flip_93 rfl rfl ?_
        refine l_loc dX13_flip_94 rfl rfl ?_
        refine l_pure dX13_flip_96 rfl rfl ?_
        exact l_al rfl ⟨rfl, rfl, rfl, rfl, rfl, rfl, rfl, trivial⟩
      · refine l_loc dX13_flip_83 rfl rfl ?_
        refine l_goto (t := 97) dX13_flip_85 rfl ?_
        exact l_al rfl ⟨rfl, rfl, rfl, rfl, rfl, rfl, rfl, trivial⟩
    · refine l_loc dX13_flip_63 rfl rfl ?_
      refine l_goto (t := 77) dX13_flip_65 rfl ?_
      refine l_loc (al1 := [(6, .int v4), (5, .int v5), (4, .int v4), (0, .ref x0), (1, .int x1), (2, .int x2), (3, .int x3)]) dX13_flip_77 rfl rfl ?_
      refine l_loc dX13_flip_79 rfl rfl ?_
      refine l_ine (t := 88) dX13_flip_80 rfl ?_ ?_
      · refine l_loc dX13_flip_88 rfl rfl ?_
        refine l_gi dX13_flip_89 fl_12_183 (fun v9 => ?_)
        refine l_ic dX13_flip_92 kI_1 ?_
        refine l_pure dX13_flip_93 rfl rfl ?_
        refine l_loc dX13_flip_94 rfl rfl ?_
        refine l_pure dX13_flip_96 rfl rfl ?_
        exact l_al rfl ⟨rfl, rfl, rfl, rfl, rfl, rfl, rfl, trivial⟩
      · refine l_loc dX13_flip_83 rfl rfl ?_
        refine l_goto (t := 97) dX13_flip_85 rfl ?_
        exact l_al rfl ⟨rfl, rfl, rfl, rfl, rfl, rfl, rfl, trivial⟩
set_option maxRecDepth 16000 in
theorem w_X13_flip_97 (S : xS) (x0 : Nat) (x1 : Int32) (x2 : Int32) (x3 : Int32) (x4 : Int32) (x5 : Int32) (x6 : Int32) (z0 : Int32) (h : xH) : xle ((xGr h x0 12 7).bind fun v1 => if xOb h x0 12 = true then xqI (xM S mX13_isOn [.ref x0, .long (x4.toInt64), .long (x5.toInt64)] h) xth fun v4 h3 => if v4 = 0 then ((xWz h3 v1 x3 (0 : Int32)).bind fun h5 => xlet (x3 + (1 : Int32)) fun v6 => (xden S mX13_flip 39 [(0, .ref x0), (1, .int x1), (2, .int x2), (3, .int v6)] [] h5)) else (if xOb h3 x0 12 = true then xqI (xM S mX13_at [.ref x0, .int x1, .long (x6.toInt64), .long (z0.toInt64)] h3) xth fun v9 h8 => if v9 = 0 then ((xWz h8 v1 x3 (0 : Int32)).bind fun h10 => xlet (x3 + (1 : Int32)) fun v11 => (xden S mX13_flip 39 [(0, .ref x0), (1, .int x1), (2, .int x2), (3, .int v11)] [] h10)) else ((xWz h8 v1 x3 (1 : Int32)).bind fun h12 => xlet (x3 + (1 : Int32)) fun v13 => (xden S mX13_flip 39 [(0, .ref x0), (1, .int x1), (2, .int x2), (3, .int v13)] [] h12)) else none) else none) (xden S mX13_flip 97 [(0, .ref x0), (1, .int x1), (2, .int x2), (3, .int x3), (4, .int x4), (5, .int x5), (6, .int x6)] [.int z0] h) := by
  refine l_loc (al1 := [(7, .int z0), (0, .ref x0), (1, .int x1), (2, .int x2), (3, .int x3), (4, .int x4), (5, .int x5), (6, .int x6)]) dX13_flip_97 rfl rfl ?_
  refine l_loc dX13_flip_99 rfl rfl ?_
  refine l_gr dX13_flip_100 fl_12_21 (fun v1 => ?_)
  refine l_loc dX13_flip_103 rfl rfl ?_
  refine l_loc dX13_flip_104 rfl rfl ?_
  refine l_loc dX13_flip_105 rfl rfl ?_
  refine l_pure dX13_flip_107 rfl rfl ?_
  refine l_loc dX13_flip_108 rfl rfl ?_
  refine l_pure dX13_flip_110 rfl rfl ?_
  refine l_ob fun q2 => ?_
  refine l_cI dX13_flip_111 rfl rfl rfl (l_xv cl_12_195 ko_mX13_isOn rfl rfl rfl q2) rfl rfl nm_mX13_isOn (xhE_th rfl) (fun v4 h3 => ?_)
  refine l_ieq (t := 135) dX13_flip_114 rfl ?_ ?_
  · refine l_ic dX13_flip_135 kI_0 ?_
    refine l_wz dX13_flip_136 (fun h5 => ?_)
    refine l_incl (al1 := fun v6 => [(3, .int v6), (7, .int z0), (0, .ref x0), (1, .int x1), (2, .int x2), (4, .int x4), (5, .int x5), (6, .int x6)]) dX13_flip_137 rfl kI_1 rfl (fun _ => rfl) (fun v6 => ?_)
    refine l_goto (t := 39) dX13_flip_140 rfl ?_
    exact l_al rfl ⟨rfl, rfl, rfl, rfl, trivial⟩
  · refine l_loc dX13_flip_117 rfl rfl ?_
    refine l_loc dX13_flip_118 rfl rfl ?_
    refine l_loc dX13_flip_119 rfl rfl ?_
    refine l_pure dX13_flip_121 rfl rfl ?_
    refine l_loc dX13_flip_122 rfl rfl ?_
    refine l_pure dX13_flip_124 rfl rfl ?_
    refine l_ob fun q7 => ?_
    refine l_cI dX13_flip_125 rfl rfl rfl (l_xv cl_12_224 ko_mX13_at rfl rfl rfl q7) rfl rfl nm_mX13_at (xhE_th rfl) (fun v9 h8 => ?_)
    refine l_ieq (t := 135) dX13_flip_128 rfl ?_ ?_
    · refine l_ic dX13_flip_135 kI_0 ?_
      refine l_wz dX13_flip_136 (fun h10 => ?_)
      refine l_incl (al1 := fun v11 => [(3, .int v11), (7, .int z0), (0, .ref x0), (1, .int x1), (2, .int x2), (4, .int x4), (5, .int x5), (6, .int x6)]) dX13_flip_137 rfl kI_1 rfl (fun _ => rfl) (fun v11 => ?_)
      refine l_goto (t := 39) dX13_flip_140 rfl ?_
      exact l_al rfl ⟨rfl, rfl, rfl, rfl, trivial⟩
    · refine l_ic dX13_flip_131 kI_1 ?_
      refine l_goto (t := 136) dX13_flip_132 rfl ?_
      refine l_wz dX13_flip_136 (fun h12 => ?_)
      refine l_incl (al1 := fun v13 => [(3, .int v13), (7, .int z0), (0, .ref x0), (1, .int x1), (2, .int x2), (4, .int x4), (5, .int x5), (6, .int x6)]) dX13_flip_137 rfl kI_1 rfl (fun _ => rfl) (fun v13 => ?_)
      refine l_goto (t := 39) dX13_flip_140 rfl ?_
      exact l_al rfl ⟨rfl, rfl, rfl, rfl, trivial⟩
set_option maxRecDepth 16000 in
theorem w_X13_despeckle (S : xS) (x0 : Nat) (x1 : Int32) (x2 : Int32) (h : xH) : xle ((xP false 12 h x0 12 2 (.int (0 : Int32))).bind fun h1 => if xOb h1 x0 12 = true then xqI (xM S mX13_isPage [.ref x0, .int x1] h1) xth fun v4 h3 => if ¬ v4 = 0 then (xqI (xM S mX13_in [.long (x2.toInt64), .long (0 : Int64), .long (64 : Int64)] h3) xth fun v6 h5 => if ¬ v6 = 0 then (if xOb h5 x0 12 = true then xqV (xM S mX13_takes [.ref x0, .int x1] h5) xth fun h8 => (xGr h8 x0 12 7).bind fun v10 => if xOb h8 x0 12 = true then xqI (xM S mX13_cleans [.ref x0, .ref v10, .int x2] h8) xth fun v13 h12 => if xOb h12 x0 12 = true then xqI (xM S mX13_edits [.ref x0, .int x1] h12) xth fun v16 h15 => some (.inl (some (.int v13)), h15, 0, 0) else none else none else none) else (if xOb h5 x0 12 = true then xqI (xM S mX13_fails [.ref x0, .int (2 : Int32)] h5) xth fun v19 h18 => some (.inl (some (.int v19)), h18, 0, 0) else none)) else (if xOb h3 x0 12 = true then xqI (xM S mX13_fails [.ref x0, .int (1 : Int32)] h3) xth fun v22 h21 => some (.inl (some (.int v22)), h21, 0, 0) else none) else none) (xM S mX13_despeckle [.ref x0, .int x1, .int x2] h) := by
  show xle _ (xden S mX13_despeckle 0 [(0, .ref x0), (1, .int x1), (2, .int x2)] [] h)
  refine l_loc dX13_despeckle_0 rfl rfl ?_
  refine l_ic dX13_despeckle_1 kI_0 ?_
  refine l_pf dX13_despeckle_2 fl_12_186 (ini := false) nm_mX13_despeckle (fun h1 => ?_)
  refine l_loc dX13_despeckle_5 rfl rfl ?_
  refine l_loc dX13_despeckle_6 rfl rfl ?_
  refine l_ob fun q2 => ?_
  refine l_cI dX13_despeckle_7 rfl rfl rfl (l_xv cl_12_202 ko_mX13_isPage rfl rfl rfl q2) rfl rfl nm_mX13_isPage (xhE_th rfl) (fun v4 h3 => ?_)
  refine l_ine (t := 19) dX13_despeckle_10 rfl ?_ ?_
  · refine l_loc dX13_despeckle_19 rfl rfl ?_
    refine l_pure dX13_despeckle_20 rfl rfl ?_
    refine l_lc0 dX13_despeckle_21 ?_
    refine l_rd (st1 := [.long (64 : Int64), .long (0 : Int64), .long (x2.toInt64)]) dX13_despeckle_22 rfl rfl ?_
    refine l_cI dX13_despeckle_25 rfl rfl rfl (l_xs cl_12_191 ko_mX13_in rfl rfl) rfl rfl nm_mX13_in (xhE_th rfl) (fun v6 h5 => ?_)
    refine l_ine (t := 37) dX13_despeckle_28 rfl ?_ ?_
    · refine l_loc dX13_despeckle_37 rfl rfl ?_
      refine l_loc dX13_despeckle_38 rfl rfl ?_
      refine l_ob fun q7 => ?_
      refine l_cV dX13_despeckle_39 rfl rfl rfl (l_xv cl_12_214 ko_mX13_takes rfl rfl rfl q7) rfl rfl nm_mX13_takes (xhE_th rfl) (fun h8 => ?_)
      refine l_loc dX13_despeckle_42 rfl rfl ?_
      refine l_loc dX13_despeckle_43 rfl rfl ?_
      refine l_gr dX13_despeckle_44 fl_12_21 (fun v10 => ?_)
      refine l_loc dX13_despeckle_47 rfl rfl ?_
      refine l_ob fun q11 => ?_
      refine l_cI dX13_despeckle_48 rfl rfl rfl (l_xv cl_12_246 ko_mX13_cleans rfl rfl rfl q11) rfl rfl nm_mX13_cleans (xhE_th rfl) (fun v13 h12 => ?_)
      refine l_loc (al1 := [(3, .int v13), (0, .ref x0), (1, .int x1), (2, .int x2)]) dX13_despeckle_51 rfl rfl ?_
      refine l_loc dX13_despeckle_52 rfl rfl ?_
      refine l_loc dX13_despeckle_53 rfl rfl ?_
      refine l_ob fun q14 => ?_
      refine l_cI dX13_despeckle_54 rfl rfl rfl (l_xv cl_12_218 ko_mX13_edits rfl rfl rfl q14) rfl rfl nm_mX13_edits (xhE_th rfl) (fun v16 h15 => ?_)
      refine l_pure dX13_despeckle_57 rfl rfl ?_
      refine l_loc dX13_despeckle_58 rfl rfl ?_
      exact l_iretn dX13_despeckle_59 rfl (by rfl)
    · refine l_loc dX13_despeckle_31 rfl rfl ?_
      refine l_ic dX13_despeckle_32 kI_2 ?_
      refine l_ob fun q17 => ?_
      refine l_cI dX13_despeckle_33 rfl rfl rfl (l_xv cl_12_206 ko_mX13_fails rfl rfl rfl q17) rfl rfl nm_mX13_fails (xhE_th rfl) (fun v19 h18 => ?_)
      exact l_iretn dX13_despeckle_36 rfl (by rfl)
  · refine l_loc dX13_despeckle_13 rfl rfl ?_
    refine l_ic dX13_despeckle_14 kI_1 ?_
    refine l_ob fun q20 => ?_
    refine l_cI dX13_despeckle_15 rfl rfl rfl (l_xv cl_12_206 ko_mX13_fails rfl rfl rfl q20) rfl rfl nm_mX13_fails (xhE_th rfl) (fun v22 h21 => ?_)
    exact l_iretn dX13_despeckle_18 rfl (by rfl)
set_option maxRecDepth 16000 in
theorem w_X13_cleans (S : xS) (x0 : Nat) (x1 : Nat) (x2 : Int32) (h : xH) : xle (xden S mX13_cleans 2 [(0, .ref x0), (1, .ref x1), (2, .int x2), (3, .int (0 : Int32))] [] h) (xM S mX13_cleans [.ref x0, .ref x1, .int x2] h) := by
  show xle _ (xden S mX13_cleans 0 [(0, .ref x0), (1, .ref x1), (2, .int x2)] [] h)
  refine l_ic dX13_cleans_0 kI_0 ?_
  refine l_loc (al1 := [(3, .int (0 : Int32)), (0, .ref x0), (1, .ref x1), (2, .int x2)]) dX13_cleans_1 rfl rfl ?_
  exact l_al rfl ⟨rfl, rfl, rfl, rfl, trivial⟩
set_option maxRecDepth 16000 in
theorem w_X13_cleans_2 (S : xS) (x0 : Nat) (x1 : Nat) (x2 : Int32) (x3 : Int32) (h : xH) : xle (if (4096 : Int32) ≤ x3 then ((xP false 12 h x0 12 11 (.int (0 : Int32))).bind fun h1 => (xden S mX13_cleans 32 [(0, .ref x0), (1, .ref x1), (2, .int x2), (3, .int (0 : Int32)), (4, .int (0 : Int32))] [] h1)) else ((xGr h x0 12 8).bind fun v2 => (xWz h v2 x3 (0 : Int32)).bind fun h3 => xlet (x3 + (1 : Int32)) fun v4 => (xden S mX13_cleans 2 [(0, .ref x0), (1, .ref x1), (2, .int x2), (3, .int v4)] [] h3))) (xden S mX13_cleans 2 [(0, .ref x0), (1, .ref x1), (2, .int x2), (3, .int x3)] [] h) := by
  refine l_loc dX13_cleans_2 rfl rfl ?_
  refine l_si dX13_cleans_3 kS_4096 ?_
  refine l_cge (t := 22) dX13_cleans_6 rfl ?_ ?_
  · refine l_loc dX13_cleans_22 rfl rfl ?_
    refine l_ic dX13_cleans_23 kI_0 ?_
    refine l_pf dX13_cleans_24 fl_12_237 (ini := false) nm_mX13_cleans (fun h1 => ?_)
    refine l_ic dX13_cleans_27 kI_0 ?_
    refine l_loc (al1 := [(3, .int (0 : Int32)), (0, .ref x0), (1, .ref x1), (2, .int x2)]) dX13_cleans_28 rfl rfl ?_
    refine l_ic dX13_cleans_29 kI_0 ?_
    refine l_loc (al1 := [(4, .int (0 : Int32)), (3, .int (0 : Int32)), (0, .ref x0), (1, .ref x1), (2, .int x2)]) dX13_cleans_30 rfl rfl ?_
    exact l_al rfl ⟨rfl, rfl, rfl, rfl, rfl, trivial⟩
  · refine l_loc dX13_cleans_9 rfl rfl ?_
    refine l_gr dX13_cleans_10 fl_12_24 (fun v2 => ?_)
    refine l_loc dX13_cleans_13 rfl rfl ?_
    refine l_ic dX13_cleans_14 kI_0 ?_
    refine l_wz dX13_cleans_15 (fun h3 => ?_)
    refine l_incl (al1 := fun v4 => [(3, .int v4), (0, .ref x0), (1, .ref x1), (2, .int x2)]) dX13_cleans_16 rfl kI_1 rfl (fun _ => rfl) (fun v4 => ?_)
    refine l_goto (t := 2) dX13_cleans_19 rfl ?_
    exact l_al rfl ⟨rfl, rfl, rfl, rfl, trivial⟩
set_option maxRecDepth 16000 in
theorem w_X13_cleans_32 (S : xS) (x0 : Nat) (x1 : Nat) (x2 : Int32) (x3 : Int32) (x4 : Int32) (h : xH) : xle (if (4096 : Int32) ≤ x4 then (some (.inl (some (.int x3)), h, 0, 0)) else ((xRi h 2 x1 x4).bind fun v1 => if v1 = 0 then ((xGi h x0 12 11).bind fun v2 => if (0 : Int32) ≤ 0 then (xden S mX13_cleans 85 [(0, .ref x0), (1, .ref x1), (2, .int x2), (3, .int x3), (4, .int x4), (5, .int (0 : Int32))] [.int (0 : Int32), .int v2, .ref x0] h) else (xden S mX13_cleans 85 [(0, .ref x0), (1, .ref x1), (2, .int x2), (3, .int x3), (4, .int x4), (5, .int (0 : Int32))] [.int (1 : Int32), .int v2, .ref x0] h)) else ((xGr h x0 12 8).bind fun v3 => (xRi h 2 v3 x4).bind fun v4 => if ¬ v4 = 0 then ((xGi h x0 12 11).bind fun v5 => if (0 : Int32) ≤ 0 then (xden S mX13_cleans 85 [(0, .ref x0), (1, .ref x1), (2, .int x2), (3, .int x3), (4, .int x4), (5, .int (0 : Int32))] [.int (0 : Int32), .int v5, .ref x0] h) else (xden S mX13_cleans 85 [(0, .ref x0), (1, .ref x1), (2, .int x2), (3, .int x3), (4, .int x4), (5, .int (0 : Int32))] [.int (1 : Int32), .int v5, .ref x0] h)) else (if xOb h x0 12 = true then xqI (xM S mX13_gathers [.ref x0, .ref x1, .int x4] h) xth fun v8 h7 => (xGi h7 x0 12 11).bind fun v9 => if v8 ≤ 0 then (xden S mX13_cleans 85 [(0, .ref x0), (1, .ref x1), (2, .int x2), (3, .int x3), (4, .int x4), (5, .int v8)] [.int (0 : Int32), .int v9, .ref x0] h7) else (xden S mX13_cleans 85 [(0, .ref x0), (1, .ref x1), (2, .int x2), (3, .int x3), (4, .int x4), (5, .int v8)] [.int (1 : Int32), .int v9, .ref x0] h7) else none)))) (xden S mX13_cleans 32 [(0, .ref x0), (1, .ref x1), (2, .int x2), (3, .int x3), (4, .int x4)] [] h) := by
  refine l_loc dX13_cleans_32 rfl rfl ?_
  refine l_si dX13_cleans_34 kS_4096 ?_
  refine l_cge (t := 135) dX13_cleans_37 rfl ?_ ?_
  · refine l_loc dX13_cleans_135 rfl rfl ?_
    exact l_iretn dX13_cleans_136 rfl (by rfl)
  · refine l_loc dX13_cleans_40 rfl rfl ?_
    refine l_loc dX13_cleans_41 rfl rfl ?_
    refine l_rz dX13_cleans_43 (fun v1 => ?_)
    refine l_ieq (t := 67) dX13_cleans_44 rfl ?_ ?_
    · refine l_ic dX13_cleans_67 kI_0 ?_
      refine l_loc (al1 := [(5, .int (0 : Int32)), (0, .ref x0), (1, .ref x1), (2, .int x2), (3, .int x3), (4, .int x4)]) dX13_cleans_68 rfl rfl ?_
      refine l_loc dX13_cleans_70 rfl rfl ?_
      refine l_pure dX13_cleans_71 rfl rfl ?_
      refine l_gi dX13_cleans_72 fl_12_237 (fun v2 => ?_)
      refine l_loc dX13_cleans_75 rfl rfl ?_
      refine l_ile (t := 84) dX13_cleans_77 rfl ?_ ?_
      · refine l_ic dX13_cleans_84 kI_0 ?_
        exact l_al rfl ⟨rfl, rfl, rfl, rfl, rfl, rfl, trivial⟩
      · refine l_ic dX13_cleans_80 kI_1 ?_
        refine l_goto (t := 85) dX13_cleans_81 rfl ?_
        exact l_al rfl ⟨rfl, rfl, rfl, rfl, rfl, rfl, trivial⟩
    · refine l_loc dX13_cleans_47 rfl rfl ?_
      refine l_gr dX13_cleans_48 fl_12_24 (fun v3 => ?_)
      refine l_loc dX13_cleans_51 rfl rfl ?_
      refine l_rz dX13_cleans_53 (fun v4 => ?_)
      refine l_ine (t := 67) dX13_cleans_54 rfl ?_ ?_
      · refine l_ic dX13_cleans_67 kI_0 ?_
        refine l_loc (al1 := [(5, .int (0 : Int32)), (0, .ref x0), (1, .ref x1), (2, .int x2), (3, .int x3), (4, .int x4)]) dX13_cleans_68 rfl rfl ?_
        refine l_loc dX13_cleans_70 rfl rfl ?_
        refine l_pure dX13_cleans_71 rfl rfl ?_
        refine l_gi dX13_cleans_72 fl_12_237 (fun v5 => ?_)
        refine l_loc dX13_cleans_75 rfl rfl ?_
        refine l_ile (t := 84) dX13_cleans_77 rfl ?_ ?_
        · refine l_ic dX13_cleans_84 kI_0 ?_
          exact l_al rfl ⟨rfl, rfl, rfl, rfl, rfl, rfl, trivial⟩
        · refine l_ic dX13_cleans_80 kI_1 ?_
          refine l_goto (t := 85) dX13_cleans_81 rfl ?_
          exact l_al rfl ⟨rfl, rfl, rfl, rfl, rfl, rfl, trivial⟩
      · refine l_loc dX13_cleans_57 rfl rfl ?_
        refine l_loc dX13_cleans_58 rfl rfl ?_
        refine l_loc dX13_cleans_59 rfl rfl ?_
        refine l_ob fun q6 => ?_
        refine l_cI dX13_cleans_61 rfl rfl rfl (l_xv cl_12_240 ko_mX13_gathers rfl rfl rfl q6) rfl rfl nm_mX13_gathers (xhE_th rfl) (fun v8 h7 => ?_)
        refine l_goto (t := 68) dX13_cleans_64 rfl ?_
        refine l_loc (al1 := [(5, .int v8), (0, .ref x0), (1, .ref x1), (2, .int x2), (3, .int x3), (4, .int x4)]) dX13_cleans_68 rfl rfl ?_
        refine l_loc dX13_cleans_70 rfl rfl ?_
        refine l_pure dX13_cleans_71 rfl rfl ?_
        refine l_gi dX13_cleans_72 fl_12_237 (fun v9 => ?_)
        refine l_loc dX13_cleans_75 rfl rfl ?_
        refine l_ile (t := 84) dX13_cleans_77 rfl ?_ ?_
        · refine l_ic dX13_cleans_84 kI_0 ?_
          exact l_al rfl ⟨rfl, rfl, rfl, rfl, rfl, rfl, trivial⟩
        · refine l_ic dX13_cleans_80 kI_1 ?_
          refine l_goto (t := 85) dX13_cleans_81 rfl ?_
          exact l_al rfl ⟨rfl, rfl, rfl, rfl, rfl, rfl, trivial⟩
set_option maxRecDepth 16000 in
theorem w_X13_cleans_85 (S : xS) (x0 : Nat) (x1 : Nat) (x2 : Int32) (x3 : Int32) (x4 : Int32) (x5 : Int32) (z0 : Int32) (z1 : Int32) (z2 : Nat) (h : xH) : xle ((xP false 12 h z2 12 11 (.int (z1 + z0))).bind fun h1 => if x5 ≤ 0 then (xlet (x4 + (1 : Int32)) fun v2 => (xden S mX13_cleans 32 [(0, .ref x0), (1, .ref x1), (2, .int x2), (3, .int x3), (4, .int v2)] [] h1)) else (if x2 ≤ x5 then (xlet (x4 + (1 : Int32)) fun v3 => (xden S mX13_cleans 32 [(0, .ref x0), (1, .ref x1), (2, .int x2), (3, .int x3), (4, .int v3)] [] h1)) else (xlet (x3 + (1 : Int32)) fun v4 => (xden S mX13_cleans 106 [(0, .ref x0), (1, .ref x1), (2, .int x2), (3, .int v4), (4, .int x4), (5, .int x5), (6, .int (0 : Int32))] [] h1)))) (xden S mX13_cleans 85 [(0, .ref x0), (1, .ref x1), (2, .int x2), (3, .int x3), (4, .int x4), (5, .int x5)] [.int z0, .int z1, .ref z2] h) := by
  refine l_pure dX13_cleans_85 rfl rfl ?_
  refine l_pf dX13_cleans_86 fl_12_237 (ini := false) nm_mX13_cleans (fun h1 => ?_)
  refine l_loc dX13_cleans_89 rfl rfl ?_
  refine l_ile (t := 129) dX13_cleans_91 rfl ?_ ?_
  · refine l_incl (al1 := fun v2 => [(4, .int v2), (0, .ref x0), (1, .ref x1), (2, .int x2), (3, .int x3), (5, .int x5)]) dX13_cleans_129 rfl kI_1 rfl (fun _ => rfl) (fun v2 => ?_)
    refine l_goto (t := 32) dX13_cleans_132 rfl ?_
    exact l_al rfl ⟨rfl, rfl, rfl, rfl, rfl, trivial⟩
  · refine l_loc dX13_cleans_94 rfl rfl ?_
    refine l_loc dX13_cleans_96 rfl rfl ?_
    refine l_cge (t := 129) dX13_cleans_97 rfl ?_ ?_
    · refine l_incl (al1 := fun v3 => [(4, .int v3), (0, .ref x0), (1, .ref x1), (2, .int x2), (3, .int x3), (5, .int x5)]) dX13_cleans_129 rfl kI_1 rfl (fun _ => rfl) (fun v3 => ?_)
      refine l_goto (t := 32) dX13_cleans_132 rfl ?_
      exact l_al rfl ⟨rfl, rfl, rfl, rfl, rfl, trivial⟩
    · refine l_incl (al1 := fun v4 => [(3, .int v4), (0, .ref x0), (1, .ref x1), (2, .int x2), (4, .int x4), (5, .int x5)]) dX13_cleans_100 rfl kI_1 rfl (fun _ => rfl) (fun v4 => ?_)
      refine l_ic dX13_cleans_103 kI_0 ?_
      refine l_loc (al1 := [(6, .int (0 : Int32)), (3, .int v4), (0, .ref x0), (1, .ref x1), (2, .int x2), (4, .int x4), (5, .int x5)]) dX13_cleans_104 rfl rfl ?_
      exact l_al rfl ⟨rfl, rfl, rfl, rfl, rfl, rfl, rfl, trivial⟩
set_option maxRecDepth 16000 in
theorem w_X13_cleans_106 (S : xS) (x0 : Nat) (x1 : Nat) (x2 : Int32) (x3 : Int32) (x4 : Int32) (x5 : Int32) (x6 : Int32) (h : xH) : xle (if x5 ≤ x6 then (xlet (x4 + (1 : Int32)) fun v1 => (xden S mX13_cleans 32 [(0, .ref x0), (1, .ref x1), (2, .int x2), (3, .int x3), (4, .int v1)] [] h)) else ((xGr h x0 12 9).bind fun v2 => (xRi h 0 v2 x6).bind fun v3 => (xWz h x1 v3 (0 : Int32)).bind fun h4 => xlet (x6 + (1 : Int32)) fun v5 => (xden S mX13_cleans 106 [(0, .ref x0), (1, .ref x1), (2, .int x2), (3, .int x3), (4, .int x4), (5, .int x5), (6, .int v5)] [] h4))) (xden S mX13_cleans 106 [(0, .ref x0), (1, .ref x1), (2, .int x2), (3, .int x3), (4, .int x4), (5, .int x5), (6, .int x6)] [] h) := by
  refine l_loc dX13_cleans_106 rfl rfl ?_
  refine l_loc dX13_cleans_108 rfl rfl ?_
  refine l_cge (t := 129) dX13_cleans_110 rfl ?_ ?_
  · refine l_incl (al1 := fun v1 => [(4, .int v1), (0, .ref x0), (1, .ref x1), (2, .int x2), (3, .int x3), (5, .int x5), (6, .int x6)]) dX13_cleans_129 rfl kI_1 rfl (fun _ => rfl) (fun v1 => ?_)
    refine l_goto (t := 32) dX13_cleans_132 rfl ?_
    exact l_al rfl ⟨rfl, rfl, rfl, rfl, rfl, trivial⟩
  · refine l_loc dX13_cleans_113 rfl rfl ?_
    refine l_loc dX13_cleans_114 rfl rfl ?_
    refine l_gr dX13_cleans_115 fl_12_27 (fun v2 => ?_)
    refine l_loc dX13_cleans_118 rfl rfl ?_
    refine l_ri dX13_cleans_120 (fun v3 => ?_)
    refine l_ic dX13_cleans_121 kI_0 ?_
    refine l_wz dX13_cleans_122 (fun h4 => ?_)
    refine l_incl (al1 := fun v5 => [(6, .int v5), (0, .ref x0), (1, .ref x1), (2, .int x2), (3, .int x3), (4, .int x4), (5, .int x5)]) dX13_cleans_123 rfl kI_1 rfl (fun _ => rfl) (fun v5 => ?_)
    refine l_goto (t := 106) dX13_cleans_126 rfl ?_
    exact l_al rfl ⟨rfl, rfl, rfl, rfl, rfl, rfl, rfl, trivial⟩
set_option maxRecDepth 16000 in
theorem w_X13_gathers (S : xS) (x0 : Nat) (x1 : Nat) (x2 : Int32) (h : xH) : xle ((xP false 12 h x0 12 10 (.int (0 : Int32))).bind fun h1 => if xOb h1 x0 12 = true then xqV (xM S mX13_looks [.ref x0, .ref x1, .int (x2 - x2 / (64 : Int32) * (64 : Int32)), .int (x2 / (64 : Int32))] h1) xth fun h3 => (xden S mX13_gathers 20 [(0, .ref x0), (1, .ref x1), (3, .int (0 : Int32))] [] h3) else none) (xM S mX13_gathers [.ref x0, .ref x1, .int x2] h) := by
  show xle _ (xden S mX13_gathers 0 [(0, .ref x0), (1, .ref x1), (2, .int x2)] [] h)
  refine l_loc dX13_gathers_0 rfl rfl ?_
  refine l_ic dX13_gathers_1 kI_0 ?_
  refine l_pf dX13_gathers_2 fl_12_230 (ini := false) nm_mX13_gathers (fun h1 => ?_)
  refine l_loc dX13_gathers_5 rfl rfl ?_
  refine l_loc dX13_gathers_6 rfl rfl ?_
  refine l_loc dX13_gathers_7 rfl rfl ?_
  refine l_bi dX13_gathers_8 kB_64 ?_
  refine l_remn dX13_gathers_10 (by decide) ?_
  refine l_loc dX13_gathers_11 rfl rfl ?_
  refine l_bi dX13_gathers_12 kB_64 ?_
  refine l_divn dX13_gathers_14 (by decide) ?_
  refine l_ob fun q2 => ?_
  refine l_cV dX13_gathers_15 rfl rfl rfl (l_xv cl_12_233 ko_mX13_looks rfl rfl rfl q2) rfl rfl nm_mX13_looks (xhE_th rfl) (fun h3 => ?_)
  refine l_ic dX13_gathers_18 kI_0 ?_
  refine l_loc (al1 := [(3, .int (0 : Int32)), (0, .ref x0), (1, .ref x1), (2, .int x2)]) dX13_gathers_19 rfl rfl ?_
  exact l_al rfl ⟨rfl, rfl, rfl, trivial⟩
set_option maxRecDepth 16000 in
theorem w_X13_gathers_20 (S : xS) (x0 : Nat) (x1 : Nat) (x3 : Int32) (h : xH) : xle ((xGi h x0 12 10).bind fun v1 => if v1 ≤ x3 then ((xGi h x0 12 10).bind fun v2 => some (.inl (some (.int v2)), h, 0, 0)) else ((xGr h x0 12 9).bind fun v3 => (xRi h 0 v3 x3).bind fun v4 => xlet (v4 - v4 / (64 : Int32) * (64 : Int32)) fun v5 => (xGr h x0 12 9).bind fun v6 => (xRi h 0 v6 x3).bind fun v7 => xlet (v7 / (64 : Int32)) fun v8 => (xden S mX13_gathers 53 [(0, .ref x0), (1, .ref x1), (3, .int x3), (4, .int v5), (5, .int v8), (6, .int (0 : Int32))] [] h))) (xden S mX13_gathers 20 [(0, .ref x0), (1, .ref x1), (3, .int x3)] [] h) := by
  refine l_loc dX13_gathers_20 rfl rfl ?_
  refine l_loc dX13_gathers_21 rfl rfl ?_
  refine l_gi dX13_gathers_22 fl_12_230 (fun v1 => ?_)
  refine l_cge (t := 95) dX13_gathers_25 rfl ?_ ?_
  · refine l_loc dX13_gathers_95 rfl rfl ?_
    refine l_gi dX13_gathers_96 fl_12_230 (fun v2 => ?_)
    exact l_iretn dX13_gathers_99 rfl (by rfl)
  · refine l_loc dX13_gathers_28 rfl rfl ?_
    refine l_gr dX13_gathers_29 fl_12_27 (fun v3 => ?_)
    refine l_loc dX13_gathers_32 rfl rfl ?_
    refine l_ri dX13_gathers_33 (fun v4 => ?_)
    refine l_bi dX13_gathers_34 kB_64 ?_
    refine l_remn dX13_gathers_36 (by decide) ?_
    refine l_isl (al1 := fun v5 => [(4, .int v5), (0, .ref x0), (1, .ref x1), (3, .int x3)]) dX13_gathers_37 rfl (fun _ => rfl) (fun v5 => ?_)
    refine l_loc dX13_gathers_39 rfl rfl ?_
    refine l_gr dX13_gathers_40 fl_12_27 (fun v6 => ?_)
    refine l_loc dX13_gathers_43 rfl rfl ?_
    refine l_ri dX13_gathers_44 (fun v7 => ?_)
    refine l_bi dX13_gathers_45 kB_64 ?_
    refine l_divn dX13_gathers_47 (by decide) ?_
    refine l_isl (al1 := fun v8 => [(5, .int v8), (4, .int v5), (0, .ref x0), (1, .ref x1), (3, .int x3)]) dX13_gathers_48 rfl (fun _ => rfl) (fun v8 => ?_)
    refine l_ic dX13_gathers_50 kI_0 ?_
    refine l_loc (al1 := [(6, .int (0 : Int32)), (5, .int v8), (4, .int v5), (0, .ref x0), (1, .ref x1), (3, .int x3)]) dX13_gathers_51 rfl rfl ?_
    exact l_al rfl ⟨rfl, rfl, rfl, rfl, rfl, rfl, trivial⟩
set_option maxRecDepth 16000 in
theorem w_X13_gathers_53 (S : xS) (x0 : Nat) (x1 : Nat) (x3 : Int32) (x4 : Int32) (x5 : Int32) (x6 : Int32) (h : xH) : xle (if (9 : Int32) ≤ x6 then (xlet (x3 + (1 : Int32)) fun v1 => (xden S mX13_gathers 20 [(0, .ref x0), (1, .ref x1), (3, .int v1)] [] h)) else (if xOb h x0 12 = true then xqV (xM S mX13_looks [.ref x0, .ref x1, .int ((x4 + (x6 - x6 / (3 : Int32) * (3 : Int32))) - (1 : Int32)), .int ((x5 + (x6 / (3 : Int32))) - (1 : Int32))] h) xth fun h3 => xlet (x6 + (1 : Int32)) fun v5 => (xden S mX13_gathers 53 [(0, .ref x0), (1, .ref x1), (3, .int x3), (4, .int x4), (5, .int x5), (6, .int v5)] [] h3) else none)) (xden S mX13_gathers 53 [(0, .ref x0), (1, .ref x1), (3, .int x3), (4, .int x4), (5, .int x5), (6, .int x6)] [] h) := by
  refine l_loc dX13_gathers_53 rfl rfl ?_
  refine l_bi dX13_gathers_55 kB_9 ?_
  refine l_cge (t := 89) dX13_gathers_57 rfl ?_ ?_
  · refine l_incl (al1 := fun v1 => [(3, .int v1), (0, .ref x0), (1, .ref x1), (4, .int x4), (5, .int x5), (6, .int x6)]) dX13_gathers_89 rfl kI_1 rfl (fun _ => rfl) (fun v1 => ?_)
    refine l_goto (t := 20) dX13_gathers_92 rfl ?_
    exact l_al rfl ⟨rfl, rfl, rfl, trivial⟩
  · refine l_loc dX13_gathers_60 rfl rfl ?_
    refine l_loc dX13_gathers_61 rfl rfl ?_
    refine l_loc dX13_gathers_62 rfl rfl ?_
    refine l_loc dX13_gathers_64 rfl rfl ?_
    refine l_ic dX13_gathers_66 kI_3 ?_
    refine l_remn dX13_gathers_67 (by decide) ?_
    refine l_pure dX13_gathers_68 rfl rfl ?_
    refine l_ic dX13_gathers_69 kI_1 ?_
    refine l_pure dX13_gathers_70 rfl rfl ?_
    refine l_loc dX13_gathers_71 rfl rfl ?_
    refine l_loc dX13_gathers_73 rfl rfl ?_
    refine l_ic dX13_gathers_75 kI_3 ?_
    refine l_divn dX13_gathers_76 (by decide) ?_
    refine l_pure dX13_gathers_77 rfl rfl ?_
    refine l_ic dX13_gathers_78 kI_1 ?_
    refine l_pure dX13_gathers_79 rfl rfl ?_
    refine l_ob fun q2 => ?_
    refine l_cV dX13_gathers_80 rfl rfl rfl (l_xv cl_12_233 ko_mX13_looks rfl rfl rfl q2) rfl rfl nm_mX13_looks (xhE_th rfl) (fun h3 => ?_)
    refine l_incl (al1 := fun v5 => [(6, .int v5), (0, .ref x0), (1, .ref x1), (3, .int x3), (4, .int x4), (5, .int x5)]) dX13_gathers_83 rfl kI_1 rfl (fun _ => rfl) (fun v5 => ?_)
    refine l_goto (t := 53) dX13_gathers_86 rfl ?_
    exact l_al rfl ⟨rfl, rfl, rfl, rfl, rfl, rfl, trivial⟩
set_option maxRecDepth 16000 in
theorem w_X13_looks (S : xS) (x0 : Nat) (x1 : Nat) (x2 : Int32) (x3 : Int32) (h : xH) : xle (xlet (((64 : Int32) * x3) + x2) fun v1 => if xOb h x0 12 = true then xqI (xM S mX13_isOn [.ref x0, .long (x2.toInt64), .long (x3.toInt64)] h) xth fun v4 h3 => if v4 = 0 then (some (.inl none, h3, 0, 0)) else ((xRi h3 2 x1 v1).bind fun v5 => if v5 = 0 then (some (.inl none, h3, 0, 0)) else ((xGr h3 x0 12 8).bind fun v6 => (xRi h3 2 v6 v1).bind fun v7 => if ¬ v7 = 0 then (some (.inl none, h3, 0, 0)) else ((xGr h3 x0 12 8).bind fun v8 => (xWz h3 v8 v1 (1 : Int32)).bind fun h9 => (xGr h9 x0 12 9).bind fun v10 => (xGi h9 x0 12 10).bind fun v11 => (xWi h9 v10 v11 v1).bind fun h12 => (xGi h12 x0 12 10).bind fun v13 => (xP false 12 h12 x0 12 10 (.int (v13 + (1 : Int32)))).bind fun h14 => some (.inl none, h14, 0, 0)))) else none) (xM S mX13_looks [.ref x0, .ref x1, .int x2, .int x3] h) := by
  show xle _ (xden S mX13_looks 0 [(0, .ref x0), (1, .ref x1), (2, .int x2), (3, .int x3)] [] h)
  refine l_bi dX13_looks_0 kB_64 ?_
  refine l_loc dX13_looks_2 rfl rfl ?_
  refine l_pure dX13_looks_3 rfl rfl ?_
  refine l_loc dX13_looks_4 rfl rfl ?_
  refine l_pure dX13_looks_5 rfl rfl ?_
  refine l_isl (al1 := fun v1 => [(4, .int v1), (0, .ref x0), (1, .ref x1), (2, .int x2), (3, .int x3)]) dX13_looks_6 rfl (fun _ => rfl) (fun v1 => ?_)
  refine l_loc dX13_looks_8 rfl rfl ?_
  refine l_loc dX13_looks_9 rfl rfl ?_
  refine l_pure dX13_looks_10 rfl rfl ?_
  refine l_loc dX13_looks_11 rfl rfl ?_
  refine l_pure dX13_looks_12 rfl rfl ?_
  refine l_ob fun q2 => ?_
  refine l_cI dX13_looks_13 rfl rfl rfl (l_xv cl_12_195 ko_mX13_isOn rfl rfl rfl q2) rfl rfl nm_mX13_isOn (xhE_th rfl) (fun v4 h3 => ?_)
  refine l_ieq (t := 65) dX13_looks_16 rfl ?_ ?_
  · exact l_end dX13_looks_65 rfl rfl
  · refine l_loc dX13_looks_19 rfl rfl ?_
    refine l_loc dX13_looks_20 rfl rfl ?_
    refine l_rz dX13_looks_22 (fun v5 => ?_)
    refine l_ieq (t := 65) dX13_looks_23 rfl ?_ ?_
    · exact l_end dX13_looks_65 rfl rfl
    · refine l_loc dX13_looks_26 rfl rfl ?_
      refine l_gr dX13_looks_27 fl_12_24 (fun v6 => ?_)
      refine l_loc dX13_looks_30 rfl rfl ?_
      refine l_rz dX13_looks_32 (fun v7 => ?_)
      refine l_ine (t := 65) dX13_looks_33 rfl ?_ ?_
      · exact l_end dX13_looks_65 rfl rfl
      · refine l_loc dX13_looks_36 rfl rfl ?_
        refine l_gr dX13_looks_37 fl_12_24 (fun v8 => ?_)
        refine l_loc dX13_looks_40 rfl rfl ?_
        refine l_ic dX13_looks_42 kI_1 ?_
        refine l_wz dX13_looks_43 (fun h9 => ?_)
        refine l_loc dX13_looks_44 rfl rfl ?_
        refine l_gr dX13_looks_45 fl_12_27 (fun v10 => ?_)
        refine l_loc dX13_looks_48 rfl rfl ?_
        refine l_gi dX13_looks_49 fl_12_230 (fun v11 => ?_)
        refine l_loc dX13_looks_52 rfl rfl ?_
        refine l_wi dX13_looks_54 (fun h12 => ?_)
        refine l_loc dX13_looks_55 rfl rfl ?_
        refine l_pure dX13_looks_56 rfl rfl ?_
        refine l_gi dX13_looks_57 fl_12_230 (fun v13 => ?_)
        refine l_ic dX13_looks_60 kI_1 ?_
        refine l_pure dX13_looks_61 rfl rfl ?_
        refine l_pf dX13_looks_62 fl_12_230 (ini := false) nm_mX13_looks (fun h14 => ?_)
        exact l_end dX13_looks_65 rfl rfl
set_option maxRecDepth 16000 in
theorem w_X13_components (S : xS) (x0 : Nat) (x1 : Int32) (h : xH) : xle ((xP false 12 h x0 12 2 (.int (0 : Int32))).bind fun h1 => if xOb h1 x0 12 = true then xqI (xM S mX13_isPage [.ref x0, .int x1] h1) xth fun v4 h3 => if ¬ v4 = 0 then (if xOb h3 x0 12 = true then xqV (xM S mX13_takes [.ref x0, .int x1] h3) xth fun h6 => (xGr h6 x0 12 7).bind fun v8 => if xOb h6 x0 12 = true then xqI (xM S mX13_cleans [.ref x0, .ref v8, .int (0 : Int32)] h6) xth fun v11 h10 => (xGi h10 x0 12 11).bind fun v12 => some (.inl (some (.int v12)), h10, 0, 0) else none else none) else (if xOb h3 x0 12 = true then xqI (xM S mX13_fails [.ref x0, .int (1 : Int32)] h3) xth fun v15 h14 => some (.inl (some (.int v15)), h14, 0, 0) else none) else none) (xM S mX13_components [.ref x0, .int x1] h) := by
  show xle _ (xden S mX13_components 0 [(0, .ref x0), (1, .int x1)] [] h)
  refine l_loc dX13_components_0 rfl rfl ?_
  refine l_ic dX13_components_1 kI_0 ?_
  refine l_pf dX13_components_2 fl_12_186 (ini := false) nm_mX13_components (fun h1 => ?_)
  refine l_loc dX13_components_5 rfl rfl ?_
  refine l_loc dX13_components_6 rfl rfl ?_
  refine l_ob fun q2 => ?_
  refine l_cI dX13_components_7 rfl rfl rfl (l_xv cl_12_202 ko_mX13_isPage rfl rfl rfl q2) rfl rfl nm_mX13_isPage (xhE_th rfl) (fun v4 h3 => ?_)
  refine l_ine (t := 19) dX13_components_10 rfl ?_ ?_
  · refine l_loc dX13_components_19 rfl rfl ?_
    refine l_loc dX13_components_20 rfl rfl ?_
    refine l_ob fun q5 => ?_
    refine l_cV dX13_components_21 rfl rfl rfl (l_xv cl_12_214 ko_mX13_takes rfl rfl rfl q5) rfl rfl nm_mX13_takes (xhE_th rfl) (fun h6 => ?_)
    refine l_loc dX13_components_24 rfl rfl ?_
    refine l_loc dX13_components_25 rfl rfl ?_
    refine l_gr dX13_components_26 fl_12_21 (fun v8 => ?_)
    refine l_ic dX13_components_29 kI_0 ?_
    refine l_ob fun q9 => ?_
    refine l_cI dX13_components_30 rfl rfl rfl (l_xv cl_12_246 ko_mX13_cleans rfl rfl rfl q9) rfl rfl nm_mX13_cleans (xhE_th rfl) (fun v11 h10 => ?_)
    refine l_pure dX13_components_33 rfl rfl ?_
    refine l_loc dX13_components_34 rfl rfl ?_
    refine l_gi dX13_components_35 fl_12_237 (fun v12 => ?_)
    exact l_iretn dX13_components_38 rfl (by rfl)
  · refine l_loc dX13_components_13 rfl rfl ?_
    refine l_ic dX13_components_14 kI_1 ?_
    refine l_ob fun q13 => ?_
    refine l_cI dX13_components_15 rfl rfl rfl (l_xv cl_12_206 ko_mX13_fails rfl rfl rfl q13) rfl rfl nm_mX13_fails (xhE_th rfl) (fun v15 h14 => ?_)
    exact l_iretn dX13_components_18 rfl (by rfl)
set_option maxRecDepth 16000 in
theorem w_X13_lines (S : xS) (x0 : Nat) (x1 : Int32) (h : xH) : xle ((xP false 12 h x0 12 2 (.int (0 : Int32))).bind fun h1 => if xOb h1 x0 12 = true then xqI (xM S mX13_isPage [.ref x0, .int x1] h1) xth fun v4 h3 => if ¬ v4 = 0 then ((xGr h3 x0 12 3).bind fun v5 => (xGi h3 x0 12 1).bind fun v6 => if xOb h3 x0 12 = true then xqI (xM S mX13_linesTo [.ref x0, .ref v5, .int ((4096 : Int32) * x1), .int (v6 - (1 : Int32))] h3) xth fun v9 h8 => some (.inl (some (.int v9)), h8, 0, 0) else none) else (if xOb h3 x0 12 = true then xqI (xM S mX13_fails [.ref x0, .int (1 : Int32)] h3) xth fun v12 h11 => some (.inl (some (.int v12)), h11, 0, 0) else none) else none) (xM S mX13_lines [.ref x0, .int x1] h) := by
  show xle _ (xden S mX13_lines 0 [(0, .ref x0), (1, .int x1)] [] h)
  refine l_loc dX13_lines_0 rfl rfl ?_
  refine l_ic dX13_lines_1 kI_0 ?_
  refine l_pf dX13_lines_2 fl_12_186 (ini := false) nm_mX13_lines (fun h1 => ?_)
  refine l_loc dX13_lines_5 rfl rfl ?_
  refine l_loc dX13_lines_6 rfl rfl ?_
  refine l_ob fun q2 => ?_
  refine l_cI dX13_lines_7 rfl rfl rfl (l_xv cl_12_202 ko_mX13_isPage rfl rfl rfl q2) rfl rfl nm_mX13_isPage (xhE_th rfl) (fun v4 h3 => ?_)
  refine l_ine (t := 19) dX13_lines_10 rfl ?_ ?_
  · refine l_loc dX13_lines_19 rfl rfl ?_
    refine l_loc dX13_lines_20 rfl rfl ?_
    refine l_gr dX13_lines_21 fl_12_7 (fun v5 => ?_)
    refine l_si dX13_lines_24 kS_4096 ?_
    refine l_loc dX13_lines_27 rfl rfl ?_
    refine l_pure dX13_lines_28 rfl rfl ?_
    refine l_loc dX13_lines_29 rfl rfl ?_
    refine l_gi dX13_lines_30 fl_12_183 (fun v6 => ?_)
    refine l_ic dX13_lines_33 kI_1 ?_
    refine l_pure dX13_lines_34 rfl rfl ?_
    refine l_ob fun q7 => ?_
    refine l_cI dX13_lines_35 rfl rfl rfl (l_xv cl_12_253 ko_mX13_linesTo rfl rfl rfl q7) rfl rfl nm_mX13_linesTo (xhE_th rfl) (fun v9 h8 => ?_)
    exact l_iretn dX13_lines_38 rfl (by rfl)
  · refine l_loc dX13_lines_13 rfl rfl ?_
    refine l_ic dX13_lines_14 kI_1 ?_
    refine l_ob fun q10 => ?_
    refine l_cI dX13_lines_15 rfl rfl rfl (l_xv cl_12_206 ko_mX13_fails rfl rfl rfl q10) rfl rfl nm_mX13_fails (xhE_th rfl) (fun v12 h11 => ?_)
    exact l_iretn dX13_lines_18 rfl (by rfl)
set_option maxRecDepth 16000 in
theorem w_X13_linesTo (S : xS) (x0 : Nat) (x1 : Nat) (x2 : Int32) (x3 : Int32) (h : xH) : xle (xden S mX13_linesTo 6 [(0, .ref x0), (1, .ref x1), (2, .int x2), (3, .int x3), (4, .int (0 : Int32)), (5, .int (0 : Int32))] [] h) (xM S mX13_linesTo [.ref x0, .ref x1, .int x2, .int x3] h) := by
  show xle _ (xden S mX13_linesTo 0 [(0, .ref x0), (1, .ref x1), (2, .int x2), (3, .int x3)] [] h)
  refine l_ic dX13_linesTo_0 kI_0 ?_
  refine l_loc (al1 := [(4, .int (0 : Int32)), (0, .ref x0), (1, .ref x1), (2, .int x2), (3, .int x3)]) dX13_linesTo_1 rfl rfl ?_
  refine l_ic dX13_linesTo_3 kI_0 ?_
  refine l_loc (al1 := [(5, .int (0 : Int32)), (4, .int (0 : Int32)), (0, .ref x0), (1, .ref x1), (2, .int x2), (3, .int x3)]) dX13_linesTo_4 rfl rfl ?_
  exact l_al rfl ⟨rfl, rfl, rfl, rfl, rfl, rfl, trivial⟩
set_option maxRecDepth 16000 in
theorem w_X13_linesTo_6 (S : xS) (x0 : Nat) (x1 : Nat) (x2 : Int32) (x3 : Int32) (x4 : Int32) (x5 : Int32) (h : xH) : xle (if x3 < x5 then (some (.inl (some (.int x4)), h, 0, 0)) else (if xOb h x0 12 = true then xqI (xM S mX13_hasInk [.ref x0, .ref x1, .int x2, .int x5] h) xth fun v3 h2 => if v3 = 0 then (xlet (x4 + (0 : Int32)) fun v4 => xlet (x5 + (1 : Int32)) fun v5 => (xden S mX13_linesTo 6 [(0, .ref x0), (1, .ref x1), (2, .int x2), (3, .int x3), (4, .int v4), (5, .int v5)] [] h2)) else (if xOb h2 x0 12 = true then xqI (xM S mX13_hasInk [.ref x0, .ref x1, .int x2, .int (x5 - (1 : Int32))] h2) xth fun v8 h7 => if ¬ v8 = 0 then (xlet (x4 + (0 : Int32)) fun v9 => xlet (x5 + (1 : Int32)) fun v10 => (xden S mX13_linesTo 6 [(0, .ref x0), (1, .ref x1), (2, .int x2), (3, .int x3), (4, .int v9), (5, .int v10)] [] h7)) else (xlet (x4 + (1 : Int32)) fun v11 => xlet (x5 + (1 : Int32)) fun v12 => (xden S mX13_linesTo 6 [(0, .ref x0), (1, .ref x1), (2, .int x2), (3, .int x3), (4, .int v11), (5, .int v12)] [] h7)) else none) else none)) (xden S mX13_linesTo 6 [(0, .ref x0), (1, .ref x1), (2, .int x2), (3, .int x3), (4, .int x4), (5, .int x5)] [] h) := by
  refine l_loc dX13_linesTo_6 rfl rfl ?_
  refine l_loc dX13_linesTo_8 rfl rfl ?_
  refine l_cgt (t := 52) dX13_linesTo_9 rfl ?_ ?_
  · refine l_loc dX13_linesTo_52 rfl rfl ?_
    exact l_iretn dX13_linesTo_54 rfl (by rfl)
  · refine l_loc dX13_linesTo_12 rfl rfl ?_
    refine l_loc dX13_linesTo_14 rfl rfl ?_
    refine l_loc dX13_linesTo_15 rfl rfl ?_
    refine l_loc dX13_linesTo_16 rfl rfl ?_
    refine l_loc dX13_linesTo_17 rfl rfl ?_
    refine l_ob fun q1 => ?_
    refine l_cI dX13_linesTo_19 rfl rfl rfl (l_xv cl_12_249 ko_mX13_hasInk rfl rfl rfl q1) rfl rfl nm_mX13_hasInk (xhE_th rfl) (fun v3 h2 => ?_)
    refine l_ieq (t := 42) dX13_linesTo_22 rfl ?_ ?_
    · refine l_ic dX13_linesTo_42 kI_0 ?_
      refine l_pure dX13_linesTo_43 rfl rfl ?_
      refine l_isl (al1 := fun v4 => [(4, .int v4), (0, .ref x0), (1, .ref x1), (2, .int x2), (3, .int x3), (5, .int x5)]) dX13_linesTo_44 rfl (fun _ => rfl) (fun v4 => ?_)
      refine l_incl (al1 := fun v5 => [(5, .int v5), (4, .int v4), (0, .ref x0), (1, .ref x1), (2, .int x2), (3, .int x3)]) dX13_linesTo_46 rfl kI_1 rfl (fun _ => rfl) (fun v5 => ?_)
      refine l_goto (t := 6) dX13_linesTo_49 rfl ?_
      exact l_al rfl ⟨rfl, rfl, rfl, rfl, rfl, rfl, trivial⟩
    · refine l_loc dX13_linesTo_25 rfl rfl ?_
      refine l_loc dX13_linesTo_26 rfl rfl ?_
      refine l_loc dX13_linesTo_27 rfl rfl ?_
      refine l_loc dX13_linesTo_28 rfl rfl ?_
      refine l_ic dX13_linesTo_30 kI_1 ?_
      refine l_pure dX13_linesTo_31 rfl rfl ?_
      refine l_ob fun q6 => ?_
      refine l_cI dX13_linesTo_32 rfl rfl rfl (l_xv cl_12_249 ko_mX13_hasInk rfl rfl rfl q6) rfl rfl nm_mX13_hasInk (xhE_th rfl) (fun v8 h7 => ?_)
      refine l_ine (t := 42) dX13_linesTo_35 rfl ?_ ?_
      · refine l_ic dX13_linesTo_42 kI_0 ?_
        refine l_pure dX13_linesTo_43 rfl rfl ?_
        refine l_isl (al1 := fun v9 => [(4, .int v9), (0, .ref x0), (1, .ref x1), (2, .int x2), (3, .int x3), (5, .int x5)]) dX13_linesTo_44 rfl (fun _ => rfl) (fun v9 => ?_)
        refine l_incl (al1 := fun v10 => [(5, .int v10), (4, .int v9), (0, .ref x0), (1, .ref x1), (2, .int x2), (3, .int x3)]) dX13_linesTo_46 rfl kI_1 rfl (fun _ => rfl) (fun v10 => ?_)
        refine l_goto (t := 6) dX13_linesTo_49 rfl ?_
        exact l_al rfl ⟨rfl, rfl, rfl, rfl, rfl, rfl, trivial⟩
      · refine l_ic dX13_linesTo_38 kI_1 ?_
        refine l_goto (t := 43) dX13_linesTo_39 rfl ?_
        refine l_pure dX13_linesTo_43 rfl rfl ?_
        refine l_isl (al1 := fun v11 => [(4, .int v11), (0, .ref x0), (1, .ref x1), (2, .int x2), (3, .int x3), (5, .int x5)]) dX13_linesTo_44 rfl (fun _ => rfl) (fun v11 => ?_)
        refine l_incl (al1 := fun v12 => [(5, .int v12), (4, .int v11), (0, .ref x0), (1, .ref x1), (2, .int x2), (3, .int x3)]) dX13_linesTo_46 rfl kI_1 rfl (fun _ => rfl) (fun v12 => ?_)
        refine l_goto (t := 6) dX13_linesTo_49 rfl ?_
        exact l_al rfl ⟨rfl, rfl, rfl, rfl, rfl, rfl, trivial⟩
set_option maxRecDepth 16000 in
theorem w_X13_hasInk (S : xS) (x0 : Nat) (x1 : Nat) (x2 : Int32) (x3 : Int32) (h : xH) : xle (xden S mX13_hasInk 6 [(0, .ref x0), (1, .ref x1), (2, .int x2), (3, .int x3), (4, .int (0 : Int32)), (5, .int (0 : Int32))] [] h) (xM S mX13_hasInk [.ref x0, .ref x1, .int x2, .int x3] h) := by
  show xle _ (xden S mX13_hasInk 0 [(0, .ref x0), (1, .ref x1), (2, .int x2), (3, .int x3)] [] h)
  refine l_ic dX13_hasInk_0 kI_0 ?_
  refine l_loc (al1 := [(4, .int (0 : Int32)), (0, .ref x0), (1, .ref x1), (2, .int x2), (3, .int x3)]) dX13_hasInk_1 rfl rfl ?_
  refine l_ic dX13_hasInk_3 kI_0 ?_
  refine l_loc (al1 := [(5, .int (0 : Int32)), (4, .int (0 : Int32)), (0, .ref x0), (1, .ref x1), (2, .int x2), (3, .int x3)]) dX13_hasInk_4 rfl rfl ?_
  exact l_al rfl ⟨rfl, rfl, rfl, rfl, rfl, rfl, trivial⟩
set_option maxRecDepth 16000 in
theorem w_X13_hasInk_6 (S : xS) (x0 : Nat) (x1 : Nat) (x2 : Int32) (x3 : Int32) (x4 : Int32) (x5 : Int32) (h : xH) : xle ((xGi h x0 12 0).bind fun v1 => if v1 ≤ x5 then (if narrow .boolean (.int x4) = .int x4 then some (.inl (some (.int x4)), h, 0, 0) else none) else ((xGi h x0 12 1).bind fun v2 => xqI (xM S mX13_in [.long (x3.toInt64), .long (0 : Int64), .long (v2 - (1 : Int32)).toInt64] h) xth fun v4 h3 => if v4 = 0 then (if narrow .boolean (.int x4) = .int x4 then some (.inl (some (.int x4)), h3, 0, 0) else none) else (if ¬ x4 = 0 then (xlet (x5 + (1 : Int32)) fun v5 => (xden S mX13_hasInk 6 [(0, .ref x0), (1, .ref x1), (2, .int x2), (3, .int x3), (4, .int (1 : Int32)), (5, .int v5)] [] h3)) else ((xRi h3 2 x1 ((x2 + ((64 : Int32) * x3)) + x5)).bind fun v6 => if v6 = 0 then (xlet (x5 + (1 : Int32)) fun v7 => (xden S mX13_hasInk 6 [(0, .ref x0), (1, .ref x1), (2, .int x2), (3, .int x3), (4, .int (0 : Int32)), (5, .int v7)] [] h3)) else (xlet (x5 + (1 : Int32)) fun v8 => (xden S mX13_hasInk 6 [(0, .ref x0), (1, .ref x1), (2, .int x2), (3, .int x3), (4, .int (1 : Int32)), (5, .int v8)] [] h3)))))) (xden S mX13_hasInk 6 [(0, .ref x0), (1, .ref x1), (2, .int x2), (3, .int x3), (4, .int x4), (5, .int x5)] [] h) := by
  refine l_loc dX13_hasInk_6 rfl rfl ?_
  refine l_loc dX13_hasInk_8 rfl rfl ?_
  refine l_gi dX13_hasInk_9 fl_12_179 (fun v1 => ?_)
  refine l_cge (t := 63) dX13_hasInk_12 rfl ?_ ?_
  · refine l_loc dX13_hasInk_63 rfl rfl ?_
    exact l_iret dX13_hasInk_65 rfl
  · refine l_loc dX13_hasInk_15 rfl rfl ?_
    refine l_pure dX13_hasInk_16 rfl rfl ?_
    refine l_lc0 dX13_hasInk_17 ?_
    refine l_loc dX13_hasInk_18 rfl rfl ?_
    refine l_gi dX13_hasInk_19 fl_12_183 (fun v2 => ?_)
    refine l_ic dX13_hasInk_22 kI_1 ?_
    refine l_pure dX13_hasInk_23 rfl rfl ?_
    refine l_pure dX13_hasInk_24 rfl rfl ?_
    refine l_cI dX13_hasInk_25 rfl rfl rfl (l_xs cl_12_191 ko_mX13_in rfl rfl) rfl rfl nm_mX13_in (xhE_th rfl) (fun v4 h3 => ?_)
    refine l_ieq (t := 63) dX13_hasInk_28 rfl ?_ ?_
    · refine l_loc dX13_hasInk_63 rfl rfl ?_
      exact l_iret dX13_hasInk_65 rfl
    · refine l_loc dX13_hasInk_31 rfl rfl ?_
      refine l_ine (t := 50) dX13_hasInk_33 rfl ?_ ?_
      · refine l_ic dX13_hasInk_50 kI_1 ?_
        refine l_goto (t := 55) dX13_hasInk_51 rfl ?_
        refine l_loc (al1 := [(4, .int (1 : Int32)), (0, .ref x0), (1, .ref x1), (2, .int x2), (3, .int x3), (5, .int x5)]) dX13_hasInk_55 rfl rfl ?_
        refine l_incl (al1 := fun v5 => [(5, .int v5), (4, .int (1 : Int32)), (0, .ref x0), (1, .ref x1), (2, .int x2), (3, .int x3)]) dX13_hasInk_57 rfl kI_1 rfl (fun _ => rfl) (fun v5 => ?_)
        refine l_goto (t := 6) dX13_hasInk_60 rfl ?_
        exact l_al rfl ⟨rfl, rfl, rfl, rfl, rfl, rfl, trivial⟩
      · refine l_loc dX13_hasInk_36 rfl rfl ?_
        refine l_loc dX13_hasInk_37 rfl rfl ?_
        refine l_bi dX13_hasInk_38 kB_64 ?_
        refine l_loc dX13_hasInk_40 rfl rfl ?_
        refine l_pure dX13_hasInk_41 rfl rfl ?_
        refine l_pure dX13_hasInk_42 rfl rfl ?_
        refine l_loc dX13_hasInk_43 rfl rfl ?_
        refine l_pure dX13_hasInk_45 rfl rfl ?_
        refine l_rz dX13_hasInk_46 (fun v6 => ?_)
        refine l_ieq (t := 54) dX13_hasInk_47 rfl ?_ ?_
        · refine l_ic dX13_hasInk_54 kI_0 ?_
          refine l_loc (al1 := [(4, .int (0 : Int32)), (0, .ref x0), (1, .ref x1), (2, .int x2), (3, .int x3), (5, .int x5)]) dX13_hasInk_55 rfl rfl ?_
          refine l_incl (al1 := fun v7 => [(5, .int v7), (4, .int (0 : Int32)), (0, .ref x0), (1, .ref x1), (2, .int x2), (3, .int x3)]) dX13_hasInk_57 rfl kI_1 rfl (fun _ => rfl) (fun v7 => ?_)
          refine l_goto (t := 6) dX13_hasInk_60 rfl ?_
          exact l_al rfl ⟨rfl, rfl, rfl, rfl, rfl, rfl, trivial⟩
        · refine l_ic dX13_hasInk_50 kI_1 ?_
          refine l_goto (t := 55) dX13_hasInk_51 rfl ?_
          refine l_loc (al1 := [(4, .int (1 : Int32)), (0, .ref x0), (1, .ref x1), (2, .int x2), (3, .int x3), (5, .int x5)]) dX13_hasInk_55 rfl rfl ?_
          refine l_incl (al1 := fun v8 => [(5, .int v8), (4, .int (1 : Int32)), (0, .ref x0), (1, .ref x1), (2, .int x2), (3, .int x3)]) dX13_hasInk_57 rfl kI_1 rfl (fun _ => rfl) (fun v8 => ?_)
          refine l_goto (t := 6) dX13_hasInk_60 rfl ?_
          exact l_al rfl ⟨rfl, rfl, rfl, rfl, rfl, rfl, trivial⟩
set_option maxRecDepth 16000 in
theorem w_X13_lineTop (S : xS) (x0 : Nat) (x1 : Int32) (x2 : Int32) (h : xH) : xle ((xP false 12 h x0 12 2 (.int (0 : Int32))).bind fun h1 => if xOb h1 x0 12 = true then xqI (xM S mX13_isPage [.ref x0, .int x1] h1) xth fun v4 h3 => if v4 = 0 then (if 0 ≤ (-1 : Int32) then (some (.inl (some (.int (-1 : Int32))), h3, 0, 0)) else (if xOb h3 x0 12 = true then xqI (xM S mX13_fails [.ref x0, .int (1 : Int32)] h3) xth fun v7 h6 => some (.inl (some (.int v7)), h6, 0, 0) else none)) else (if xOb h3 x0 12 = true then xqI (xM S mX13_topOf [.ref x0, .int x1, .int x2] h3) xth fun v10 h9 => if 0 ≤ v10 then (some (.inl (some (.int v10)), h9, 0, 0)) else (if xOb h9 x0 12 = true then xqI (xM S mX13_fails [.ref x0, .int (1 : Int32)] h9) xth fun v13 h12 => some (.inl (some (.int v13)), h12, 0, 0) else none) else none) else none) (xM S mX13_lineTop [.ref x0, .int x1, .int x2] h) := by
  show xle _ (xden S mX13_lineTop 0 [(0, .ref x0), (1, .int x1), (2, .int x2)] [] h)
  refine l_loc dX13_lineTop_0 rfl rfl ?_
  refine l_ic dX13_lineTop_1 kI_0 ?_
  refine l_pf dX13_lineTop_2 fl_12_186 (ini := false) nm_mX13_lineTop (fun h1 => ?_)
  refine l_loc dX13_lineTop_5 rfl rfl ?_
  refine l_loc dX13_lineTop_6 rfl rfl ?_
  refine l_ob fun q2 => ?_
  refine l_cI dX13_lineTop_7 rfl rfl rfl (l_xv cl_12_202 ko_mX13_isPage rfl rfl rfl q2) rfl rfl nm_mX13_isPage (xhE_th rfl) (fun v4 h3 => ?_)
  refine l_ieq (t := 22) dX13_lineTop_10 rfl ?_ ?_
  · refine l_ic dX13_lineTop_22 kI_m1 ?_
    refine l_loc (al1 := [(3, .int (-1 : Int32)), (0, .ref x0), (1, .int x1), (2, .int x2)]) dX13_lineTop_23 rfl rfl ?_
    refine l_loc dX13_lineTop_24 rfl rfl ?_
    refine l_ige (t := 36) dX13_lineTop_25 rfl ?_ ?_
    · refine l_loc dX13_lineTop_36 rfl rfl ?_
      exact l_iretn dX13_lineTop_37 rfl (by rfl)
    · refine l_loc dX13_lineTop_28 rfl rfl ?_
      refine l_ic dX13_lineTop_29 kI_1 ?_
      refine l_ob fun q5 => ?_
      refine l_cI dX13_lineTop_30 rfl rfl rfl (l_xv cl_12_206 ko_mX13_fails rfl rfl rfl q5) rfl rfl nm_mX13_fails (xhE_th rfl) (fun v7 h6 => ?_)
      refine l_goto (t := 37) dX13_lineTop_33 rfl ?_
      exact l_iretn dX13_lineTop_37 rfl (by rfl)
  · refine l_loc dX13_lineTop_13 rfl rfl ?_
    refine l_loc dX13_lineTop_14 rfl rfl ?_
    refine l_loc dX13_lineTop_15 rfl rfl ?_
    refine l_ob fun q8 => ?_
    refine l_cI dX13_lineTop_16 rfl rfl rfl (l_xv cl_12_257 ko_mX13_topOf rfl rfl rfl q8) rfl rfl nm_mX13_topOf (xhE_th rfl) (fun v10 h9 => ?_)
    refine l_goto (t := 23) dX13_lineTop_19 rfl ?_
    refine l_loc (al1 := [(3, .int v10), (0, .ref x0), (1, .int x1), (2, .int x2)]) dX13_lineTop_23 rfl rfl ?_
    refine l_loc dX13_lineTop_24 rfl rfl ?_
    refine l_ige (t := 36) dX13_lineTop_25 rfl ?_ ?_
    · refine l_loc dX13_lineTop_36 rfl rfl ?_
      exact l_iretn dX13_lineTop_37 rfl (by rfl)
    · refine l_loc dX13_lineTop_28 rfl rfl ?_
      refine l_ic dX13_lineTop_29 kI_1 ?_
      refine l_ob fun q11 => ?_
      refine l_cI dX13_lineTop_30 rfl rfl rfl (l_xv cl_12_206 ko_mX13_fails rfl rfl rfl q11) rfl rfl nm_mX13_fails (xhE_th rfl) (fun v13 h12 => ?_)
      refine l_goto (t := 37) dX13_lineTop_33 rfl ?_
      exact l_iretn dX13_lineTop_37 rfl (by rfl)
set_option maxRecDepth 16000 in
theorem w_X13_topOf (S : xS) (x0 : Nat) (x1 : Int32) (x2 : Int32) (h : xH) : xle (xden S mX13_topOf 5 [(0, .ref x0), (1, .int x1), (2, .int x2), (3, .int (0 : Int32)), (4, .int (0 : Int32))] [] h) (xM S mX13_topOf [.ref x0, .int x1, .int x2] h) := by
  show xle _ (xden S mX13_topOf 0 [(0, .ref x0), (1, .int x1), (2, .int x2)] [] h)
  refine l_ic dX13_topOf_0 kI_0 ?_
  refine l_loc (al1 := [(3, .int (0 : Int32)), (0, .ref x0), (1, .int x1), (2, .int x2)]) dX13_topOf_1 rfl rfl ?_
  refine l_ic dX13_topOf_2 kI_0 ?_
  refine l_loc (al1 := [(4, .int (0 : Int32)), (3, .int (0 : Int32)), (0, .ref x0), (1, .int x1), (2, .int x2)]) dX13_topOf_3 rfl rfl ?_
  exact l_al rfl ⟨rfl, rfl, rfl, rfl, rfl, trivial⟩
set_option maxRecDepth 16000 in
theorem w_X13_topOf_5 (S : xS) (x0 : Nat) (x1 : Int32) (x2 : Int32) (x3 : Int32) (x4 : Int32) (h : xH) : xle ((xGi h x0 12 1).bind fun v1 => if v1 ≤ x4 then (some (.inl (some (.int (-1 : Int32))), h, 0, 0)) else ((xGr h x0 12 3).bind fun v2 => if xOb h x0 12 = true then xqI (xM S mX13_hasInk [.ref x0, .ref v2, .int ((4096 : Int32) * x1), .int x4] h) xth fun v5 h4 => if v5 = 0 then (xlet (x4 + (1 : Int32)) fun v6 => (xden S mX13_topOf 5 [(0, .ref x0), (1, .int x1), (2, .int x2), (3, .int x3), (4, .int v6)] [] h4)) else ((xGr h4 x0 12 3).bind fun v7 => if xOb h4 x0 12 = true then xqI (xM S mX13_hasInk [.ref x0, .ref v7, .int ((4096 : Int32) * x1), .int (x4 - (1 : Int32))] h4) xth fun v10 h9 => if ¬ v10 = 0 then (xlet (x4 + (1 : Int32)) fun v11 => (xden S mX13_topOf 5 [(0, .ref x0), (1, .int x1), (2, .int x2), (3, .int x3), (4, .int v11)] [] h9)) else (if ¬ x3 = x2 then (xlet (x3 + (1 : Int32)) fun v12 => xlet (x4 + (1 : Int32)) fun v13 => (xden S mX13_topOf 5 [(0, .ref x0), (1, .int x1), (2, .int x2), (3, .int v12), (4, .int v13)] [] h9)) else (some (.inl (some (.int x4)), h9, 0, 0))) else none) else none)) (xden S mX13_topOf 5 [(0, .ref x0), (1, .int x1), (2, .int x2), (3, .int x3), (4, .int x4)] [] h) := by
  refine l_loc dX13_topOf_5 rfl rfl ?_
  refine l_loc dX13_topOf_7 rfl rfl ?_
  refine l_gi dX13_topOf_8 fl_12_183 (fun v1 => ?_)
  refine l_cge (t := 69) dX13_topOf_11 rfl ?_ ?_
  · refine l_ic dX13_topOf_69 kI_m1 ?_
    exact l_iretn dX13_topOf_70 rfl (by rfl)
  · refine l_loc dX13_topOf_14 rfl rfl ?_
    refine l_loc dX13_topOf_15 rfl rfl ?_
    refine l_gr dX13_topOf_16 fl_12_7 (fun v2 => ?_)
    refine l_si dX13_topOf_19 kS_4096 ?_
    refine l_loc dX13_topOf_22 rfl rfl ?_
    refine l_pure dX13_topOf_23 rfl rfl ?_
    refine l_loc dX13_topOf_24 rfl rfl ?_
    refine l_ob fun q3 => ?_
    refine l_cI dX13_topOf_26 rfl rfl rfl (l_xv cl_12_249 ko_mX13_hasInk rfl rfl rfl q3) rfl rfl nm_mX13_hasInk (xhE_th rfl) (fun v5 h4 => ?_)
    refine l_ieq (t := 63) dX13_topOf_29 rfl ?_ ?_
    · refine l_incl (al1 := fun v6 => [(4, .int v6), (0, .ref x0), (1, .int x1), (2, .int x2), (3, .int x3)]) dX13_topOf_63 rfl kI_1 rfl (fun _ => rfl) (fun v6 => ?_)
      refine l_goto (t := 5) dX13_topOf_66 rfl ?_
      exact l_al rfl ⟨rfl, rfl, rfl, rfl, rfl, trivial⟩
    · refine l_loc dX13_topOf_32 rfl rfl ?_
      refine l_loc dX13_topOf_33 rfl rfl ?_
      refine l_gr dX13_topOf_34 fl_12_7 (fun v7 => ?_)
      refine l_si dX13_topOf_37 kS_4096 ?_
      refine l_loc dX13_topOf_40 rfl rfl ?_
      refine l_pure dX13_topOf_41 rfl rfl ?_
      refine l_loc dX13_topOf_42 rfl rfl ?_
      refine l_ic dX13_topOf_44 kI_1 ?_
      refine l_pure dX13_topOf_45 rfl rfl ?_
      refine l_ob fun q8 => ?_
      refine l_cI dX13_topOf_46 rfl rfl rfl (l_xv cl_12_249 ko_mX13_hasInk rfl rfl rfl q8) rfl rfl nm_mX13_hasInk (xhE_th rfl) (fun v10 h9 => ?_)
      refine l_ine (t := 63) dX13_topOf_49 rfl ?_ ?_
      · refine l_incl (al1 := fun v11 => [(4, .int v11), (0, .ref x0), (1, .int x1), (2, .int x2), (3, .int x3)]) dX13_topOf_63 rfl kI_1 rfl (fun _ => rfl) (fun v11 => ?_)
        refine l_goto (t := 5) dX13_topOf_66 rfl ?_
        exact l_al rfl ⟨rfl, rfl, rfl, rfl, rfl, trivial⟩
      · refine l_loc dX13_topOf_52 rfl rfl ?_
        refine l_loc dX13_topOf_53 rfl rfl ?_
        refine l_cne (t := 60) dX13_topOf_54 rfl ?_ ?_
        · refine l_incl (al1 := fun v12 => [(3, .int v12), (0, .ref x0), (1, .int x1), (2, .int x2), (4, .int x4)]) dX13_topOf_60 rfl kI_1 rfl (fun _ => rfl) (fun v12 => ?_)
          refine l_incl (al1 := fun v13 => [(4, .int v13), (3, .int v12), (0, .ref x0), (1, .int x1), (2, .int x2)]) dX13_topOf_63 rfl kI_1 rfl (fun _ => rfl) (fun v13 => ?_)
          refine l_goto (t := 5) dX13_topOf_66 rfl ?_
          exact l_al rfl ⟨rfl, rfl, rfl, rfl, rfl, trivial⟩
        · refine l_loc dX13_topOf_57 rfl rfl ?_
          exact l_iretn dX13_topOf_59 rfl (by rfl)
set_option maxRecDepth 16000 in
theorem w_X13_lineBottom (S : xS) (x0 : Nat) (x1 : Int32) (x2 : Int32) (h : xH) : xle ((xP false 12 h x0 12 2 (.int (0 : Int32))).bind fun h1 => if xOb h1 x0 12 = true then xqI (xM S mX13_isPage [.ref x0, .int x1] h1) xth fun v4 h3 => if v4 = 0 then (if 0 ≤ (-1 : Int32) then (if xOb h3 x0 12 = true then xqI (xM S mX13_bottomOf [.ref x0, .int x1, .int (-1 : Int32)] h3) xth fun v7 h6 => some (.inl (some (.int v7)), h6, 0, 0) else none) else (if xOb h3 x0 12 = true then xqI (xM S mX13_fails [.ref x0, .int (1 : Int32)] h3) xth fun v10 h9 => some (.inl (some (.int v10)), h9, 0, 0) else none)) else (if xOb h3 x0 12 = true then xqI (xM S mX13_topOf [.ref x0, .int x1, .int x2] h3) xth fun v13 h12 => if 0 ≤ v13 then (if xOb h12 x0 12 = true then xqI (xM S mX13_bottomOf [.ref x0, .int x1, .int v13] h12) xth fun v16 h15 => some (.inl (some (.int v16)), h15, 0, 0) else none) else (if xOb h12 x0 12 = true then xqI (xM S mX13_fails [.ref x0, .int (1 : Int32)] h12) xth fun v19 h18 => some (.inl (some (.int v19)), h18, 0, 0) else none) else none) else none) (xM S mX13_lineBottom [.ref x0, .int x1, .int x2] h) := by
  show xle _ (xden S mX13_lineBottom 0 [(0, .ref x0), (1, .int x1), (2, .int x2)] [] h)
  refine l_loc dX13_lineBottom_0 rfl rfl ?_
  refine l_ic dX13_lineBottom_1 kI_0 ?_
  refine l_pf dX13_lineBottom_2 fl_12_186 (ini := false) nm_mX13_lineBottom (fun h1 => ?_)
  refine l_loc dX13_lineBottom_5 rfl rfl ?_
  refine l_loc dX13_lineBottom_6 rfl rfl ?_
  refine l_ob fun q2 => ?_
  refine l_cI dX13_lineBottom_7 rfl rfl rfl (l_xv cl_12_202 ko_mX13_isPage rfl rfl rfl q2) rfl rfl nm_mX13_isPage (xhE_th rfl) (fun v4 h3 => ?_)
  refine l_ieq (t := 22) dX13_lineBottom_10 rfl ?_ ?_
  · refine l_ic dX13_lineBottom_22 kI_m1 ?_
    refine l_loc (al1 := [(3, .int (-1 : Int32)), (0, .ref x0), (1, .int x1), (2, .int x2)]) dX13_lineBottom_23 rfl rfl ?_
    refine l_loc dX13_lineBottom_24 rfl rfl ?_
    refine l_ige (t := 36) dX13_lineBottom_25 rfl ?_ ?_
    · refine l_loc dX13_lineBottom_36 rfl rfl ?_
      refine l_loc dX13_lineBottom_37 rfl rfl ?_
      refine l_loc dX13_lineBottom_38 rfl rfl ?_
      refine l_ob fun q5 => ?_
      refine l_cI dX13_lineBottom_39 rfl rfl rfl (l_xv cl_12_261 ko_mX13_bottomOf rfl rfl rfl q5) rfl rfl nm_mX13_bottomOf (xhE_th rfl) (fun v7 h6 => ?_)
      exact l_iretn dX13_lineBottom_42 rfl (by rfl)
    · refine l_loc dX13_lineBottom_28 rfl rfl ?_
      refine l_ic dX13_lineBottom_29 kI_1 ?_
      refine l_ob fun q8 => ?_
      refine l_cI dX13_lineBottom_30 rfl rfl rfl (l_xv cl_12_206 ko_mX13_fails rfl rfl rfl q8) rfl rfl nm_mX13_fails (xhE_th rfl) (fun v10 h9 => ?_)
      refine l_goto (t := 42) dX13_lineBottom_33 rfl ?_
      exact l_iretn dX13_lineBottom_42 rfl (by rfl)
  · refine l_loc dX13_lineBottom_13 rfl rfl ?_
    refine l_loc dX13_lineBottom_14 rfl rfl ?_
    refine l_loc dX13_lineBottom_15 rfl rfl ?_
    refine l_ob fun q11 => ?_
    refine l_cI dX13_lineBottom_16 rfl rfl rfl (l_xv cl_12_257 ko_mX13_topOf rfl rfl rfl q11) rfl rfl nm_mX13_topOf (xhE_th rfl) (fun v13 h12 => ?_)
    refine l_goto (t := 23) dX13_lineBottom_19 rfl ?_
    refine l_loc (al1 := [(3, .int v13), (0, .ref x0), (1, .int x1), (2, .int x2)]) dX13_lineBottom_23 rfl rfl ?_
    refine l_loc dX13_lineBottom_24 rfl rfl ?_
    refine l_ige (t := 36) dX13_lineBottom_25 rfl ?_ ?_
    · refine l_loc dX13_lineBottom_36 rfl rfl ?_
      refine l_loc dX13_lineBottom_37 rfl rfl ?_
      refine l_loc dX13_lineBottom_38 rfl rfl ?_
      refine l_ob fun q14 => ?_
      refine l_cI dX13_lineBottom_39 rfl rfl rfl (l_xv cl_12_261 ko_mX13_bottomOf rfl rfl rfl q14) rfl rfl nm_mX13_bottomOf (xhE_th rfl) (fun v16 h15 => ?_)
      exact l_iretn dX13_lineBottom_42 rfl (by rfl)
    · refine l_loc dX13_lineBottom_28 rfl rfl ?_
      refine l_ic dX13_lineBottom_29 kI_1 ?_
      refine l_ob fun q17 => ?_
      refine l_cI dX13_lineBottom_30 rfl rfl rfl (l_xv cl_12_206 ko_mX13_fails rfl rfl rfl q17) rfl rfl nm_mX13_fails (xhE_th rfl) (fun v19 h18 => ?_)
      refine l_goto (t := 42) dX13_lineBottom_33 rfl ?_
      exact l_iretn dX13_lineBottom_42 rfl (by rfl)
set_option maxRecDepth 16000 in
theorem w_X13_bottomOf (S : xS) (x0 : Nat) (x1 : Int32) (x2 : Int32) (h : xH) : xle (xden S mX13_bottomOf 2 [(0, .ref x0), (1, .int x1), (3, .int x2)] [] h) (xM S mX13_bottomOf [.ref x0, .int x1, .int x2] h) := by
  show xle _ (xden S mX13_bottomOf 0 [(0, .ref x0), (1, .int x1), (2, .int x2)] [] h)
  refine l_loc dX13_bottomOf_0 rfl rfl ?_
  refine l_loc (al1 := [(3, .int x2), (0, .ref x0), (1, .int x1), (2, .int x2)]) dX13_bottomOf_1 rfl rfl ?_
  exact l_al rfl ⟨rfl, rfl, rfl, trivial⟩
set_option maxRecDepth 16000 in
theorem w_X13_bottomOf_2 (S : xS) (x0 : Nat) (x1 : Int32) (x3 : Int32) (h : xH) : xle ((xGr h x0 12 3).bind fun v1 => if xOb h x0 12 = true then xqI (xM S mX13_hasInk [.ref x0, .ref v1, .int ((4096 : Int32) * x1), .int (x3 + (1 : Int32))] h) xth fun v4 h3 => if v4 = 0 then (some (.inl (some (.int x3)), h3, 0, 0)) else (xlet (x3 + (1 : Int32)) fun v5 => (xden S mX13_bottomOf 2 [(0, .ref x0), (1, .int x1), (3, .int v5)] [] h3)) else none) (xden S mX13_bottomOf 2 [(0, .ref x0), (1, .int x1), (3, .int x3)] [] h) := by
  refine l_loc dX13_bottomOf_2 rfl rfl ?_
  refine l_loc dX13_bottomOf_3 rfl rfl ?_
  refine l_gr dX13_bottomOf_4 fl_12_7 (fun v1 => ?_)
  refine l_si dX13_bottomOf_7 kS_4096 ?_
  refine l_loc dX13_bottomOf_10 rfl rfl ?_
  refine l_pure dX13_bottomOf_11 rfl rfl ?_
  refine l_loc dX13_bottomOf_12 rfl rfl ?_
  refine l_ic dX13_bottomOf_13 kI_1 ?_
  refine l_pure dX13_bottomOf_14 rfl rfl ?_
  refine l_ob fun q2 => ?_
  refine l_cI dX13_bottomOf_15 rfl rfl rfl (l_xv cl_12_249 ko_mX13_hasInk rfl rfl rfl q2) rfl rfl nm_mX13_hasInk (xhE_th rfl) (fun v4 h3 => ?_)
  refine l_ieq (t := 27) dX13_bottomOf_18 rfl ?_ ?_
  · refine l_loc dX13_bottomOf_27 rfl rfl ?_
    exact l_iretn dX13_bottomOf_28 rfl (by rfl)
  · refine l_incl (al1 := fun v5 => [(3, .int v5), (0, .ref x0), (1, .int x1)]) dX13_bottomOf_21 rfl kI_1 rfl (fun _ => rfl) (fun v5 => ?_)
    refine l_goto (t := 2) dX13_bottomOf_24 rfl ?_
    exact l_al rfl ⟨rfl, rfl, rfl, trivial⟩
set_option maxRecDepth 16000 in
theorem w_X13_words (S : xS) (x0 : Nat) (x1 : Int32) (x2 : Int32) (x3 : Int32) (h : xH) : xle ((xP false 12 h x0 12 2 (.int (0 : Int32))).bind fun h1 => if xOb h1 x0 12 = true then xqI (xM S mX13_isPage [.ref x0, .int x1] h1) xth fun v4 h3 => if v4 = 0 then (if 0 ≤ (-1 : Int32) then (xqI (xM S mX13_in [.long (x3.toInt64), .long (1 : Int64), .long (64 : Int64)] h3) xth fun v6 h5 => if ¬ v6 = 0 then (if xOb h5 x0 12 = true then xqI (xM S mX13_bottomOf [.ref x0, .int x1, .int (-1 : Int32)] h5) xth fun v9 h8 => (xden S mX13_words 74 [(0, .ref x0), (1, .int x1), (3, .int x3), (4, .int (-1 : Int32)), (5, .int v9), (6, .int (0 : Int32)), (7, .int (-1000 : Int32)), (8, .int (0 : Int32))] [] h8) else none) else (if xOb h5 x0 12 = true then xqI (xM S mX13_fails [.ref x0, .int (2 : Int32)] h5) xth fun v12 h11 => some (.inl (some (.int v12)), h11, 0, 0) else none)) else (if xOb h3 x0 12 = true then xqI (xM S mX13_fails [.ref x0, .int (1 : Int32)] h3) xth fun v15 h14 => some (.inl (some (.int v15)), h14, 0, 0) else none)) else (if xOb h3 x0 12 = true then xqI (xM S mX13_topOf [.ref x0, .int x1, .int x2] h3) xth fun v18 h17 => if 0 ≤ v18 then (xqI (xM S mX13_in [.long (x3.toInt64), .long (1 : Int64), .long (64 : Int64)] h17) xth fun v20 h19 => if ¬ v20 = 0 then (if xOb h19 x0 12 = true then xqI (xM S mX13_bottomOf [.ref x0, .int x1, .int v18] h19) xth fun v23 h22 => (xden S mX13_words 74 [(0, .ref x0), (1, .int x1), (3, .int x3), (4, .int v18), (5, .int v23), (6, .int (0 : Int32)), (7, .int (-1000 : Int32)), (8, .int (0 : Int32))] [] h22) else none) else (if xOb h19 x0 12 = true then xqI (xM S mX13_fails [.ref x0, .int (2 : Int32)] h19) xth fun v26 h25 => some (.inl (some (.int v26)), h25, 0, 0) else none)) else (if xOb h17 x0 12 = true then xqI (xM S mX13_fails [.ref x0, .int (1 : Int32)] h17) xth fun v29 h28 => some (.inl (some (.int v29)), h28, 0, 0) else none) else none) else none) (xM S mX13_words [.ref x0, .int x1, .int x2, .int x3] h) := by
  show xle _ (xden S mX13_words 0 [(0, .ref x0), (1, .int x1), (2, .int x2), (3, .int x3)] [] h)
  refine l_loc dX13_words_0 rfl rfl ?_
  refine l_ic dX13_words_1 kI_0 ?_
  refine l_pf dX13_words_2 fl_12_186 (ini := false) nm_mX13_words (fun h1 => ?_)
  refine l_loc dX13_words_5 rfl rfl ?_
  refine l_loc dX13_words_6 rfl rfl ?_
  refine l_ob fun q2 => ?_
  refine l_cI dX13_words_7 rfl rfl rfl (l_xv cl_12_202 ko_mX13_isPage rfl rfl rfl q2) rfl rfl nm_mX13_isPage (xhE_th rfl) (fun v4 h3 => ?_)
  refine l_ieq (t := 22) dX13_words_10 rfl ?_ ?_
  · refine l_ic dX13_words_22 kI_m1 ?_
    refine l_loc (al1 := [(4, .int (-1 : Int32)), (0, .ref x0), (1, .int x1), (2, .int x2), (3, .int x3)]) dX13_words_23 rfl rfl ?_
    refine l_loc dX13_words_25 rfl rfl ?_
    refine l_ige (t := 36) dX13_words_27 rfl ?_ ?_
    · refine l_loc dX13_words_36 rfl rfl ?_
      refine l_pure dX13_words_37 rfl rfl ?_
      refine l_lc1 dX13_words_38 ?_
      refine l_rd (st1 := [.long (64 : Int64), .long (1 : Int64), .long (x3.toInt64)]) dX13_words_39 rfl rfl ?_
      refine l_cI dX13_words_42 rfl rfl rfl (l_xs cl_12_191 ko_mX13_in rfl rfl) rfl rfl nm_mX13_in (xhE_th rfl) (fun v6 h5 => ?_)
      refine l_ine (t := 54) dX13_words_45 rfl ?_ ?_
      · refine l_loc dX13_words_54 rfl rfl ?_
        refine l_loc dX13_words_55 rfl rfl ?_
        refine l_loc dX13_words_56 rfl rfl ?_
        refine l_ob fun q7 => ?_
        refine l_cI dX13_words_58 rfl rfl rfl (l_xv cl_12_261 ko_mX13_bottomOf rfl rfl rfl q7) rfl rfl nm_mX13_bottomOf (xhE_th rfl) (fun v9 h8 => ?_)
        refine l_loc (al1 := [(5, .int v9), (4, .int (-1 : Int32)), (0, .ref x0), (1, .int x1), (2, .int x2), (3, .int x3)]) dX13_words_61 rfl rfl ?_
        refine l_ic dX13_words_63 kI_0 ?_
        refine l_loc (al1 := [(6, .int (0 : Int32)), (5, .int v9), (4, .int (-1 : Int32)), (0, .ref x0), (1, .int x1), (2, .int x2), (3, .int x3)]) dX13_words_64 rfl rfl ?_
        refine l_si dX13_words_66 kS_m1000 ?_
        refine l_loc (al1 := [(7, .int (-1000 : Int32)), (6, .int (0 : Int32)), (5, .int v9), (4, .int (-1 : Int32)), (0, .ref x0), (1, .int x1), (2, .int x2), (3, .int x3)]) dX13_words_69 rfl rfl ?_
        refine l_ic dX13_words_71 kI_0 ?_
        refine l_loc (al1 := [(8, .int (0 : Int32)), (7, .int (-1000 : Int32)), (6, .int (0 : Int32)), (5, .int v9), (4, .int (-1 : Int32)), (0, .ref x0), (1, .int x1), (2, .int x2), (3, .int x3)]) dX13_words_72 rfl rfl ?_
        exact l_al rfl ⟨rfl, rfl, rfl, rfl, rfl, rfl, rfl, rfl, trivial⟩
      · refine l_loc dX13_words_48 rfl rfl ?_
        refine l_ic dX13_words_49 kI_2 ?_
        refine l_ob fun q10 => ?_
        refine l_cI dX13_words_50 rfl rfl rfl (l_xv cl_12_206 ko_mX13_fails rfl rfl rfl q10) rfl rfl nm_mX13_fails (xhE_th rfl) (fun v12 h11 => ?_)
        exact l_iretn dX13_words_53 rfl (by rfl)
    · refine l_loc dX13_words_30 rfl rfl ?_
      refine l_ic dX13_words_31 kI_1 ?_
      refine l_ob fun q13 => ?_
      refine l_cI dX13_words_32 rfl rfl rfl (l_xv cl_12_206 ko_mX13_fails rfl rfl rfl q13) rfl rfl nm_mX13_fails (xhE_th rfl) (fun v15 h14 => ?_)
      exact l_iretn dX13_words_35 rfl (by rfl)
  · refine l_loc dX13_words_13 rfl rfl ?_
    refine l_loc dX13_words_14 rfl rfl ?_
    refine l_loc dX13_words_15 rfl rfl ?_
    refine l_ob fun q16 => ?_
    refine l_cI dX13_words_16 rfl rfl rfl (l_xv cl_12_257 ko_mX13_topOf rfl rfl rfl q16) rfl rfl nm_mX13_topOf (xhE_th rfl) (fun v18 h17 => ?_)
    refine l_goto (t := 23) dX13_words_19 rfl ?_
    refine l_loc (al1 := [(4, .int v18), (0, .ref x0), (1, .int x1), (2, .int x2), (3, .int x3)]) dX13_words_23 rfl rfl ?_
    refine l_loc dX13_words_25 rfl rfl ?_
    refine l_ige (t := 36) dX13_words_27 rfl ?_ ?_
    · refine l_loc dX13_words_36 rfl rfl ?_
      refine l_pure dX13_words_37 rfl rfl ?_
      refine l_lc1 dX13_words_38 ?_
      refine l_rd (st1 := [.long (64 : Int64), .long (1 : Int64), .long (x3.toInt64)]) dX13_words_39 rfl rfl ?_
      refine l_cI dX13_words_42 rfl rfl rfl (l_xs cl_12_191 ko_mX13_in rfl rfl) rfl rfl nm_mX13_in (xhE_th rfl) (fun v20 h19 => ?_)
      refine l_ine (t := 54) dX13_words_45 rfl ?_ ?_
      · refine l_loc dX13_words_54 rfl rfl ?_
        refine l_loc dX13_words_55 rfl rfl ?_
        refine l_loc dX13_words_56 rfl rfl ?_
        refine l_ob fun q21 => ?_
        refine l_cI dX13_words_58 rfl rfl rfl (l_xv cl_12_261 ko_mX13_bottomOf rfl rfl rfl q21) rfl rfl nm_mX13_bottomOf (xhE_th rfl) (fun v23 h22 => ?_)
        refine l_loc (al1 := [(5, .int v23), (4, .int v18), (0, .ref x0), (1, .int x1), (2, .int x2), (3, .int x3)]) dX13_words_61 rfl rfl ?_
        refine l_ic dX13_words_63 kI_0 ?_
        refine l_loc (al1 := [(6, .int (0 : Int32)), (5, .int v23), (4, .int v18), (0, .ref x0), (1, .int x1), (2, .int x2), (3, .int x3)]) dX13_words_64 rfl rfl ?_
        refine l_si dX13_words_66 kS_m1000 ?_
        refine l_loc (al1 := [(7, .int (-1000 : Int32)), (6, .int (0 : Int32)), (5, .int v23), (4, .int v18), (0, .ref x0), (1, .int x1), (2, .int x2), (3, .int x3)]) dX13_words_69 rfl rfl ?_
        refine l_ic dX13_words_71 kI_0 ?_
        refine l_loc (al1 := [(8, .int (0 : Int32)), (7, .int (-1000 : Int32)), (6, .int (0 : Int32)), (5, .int v23), (4, .int v18), (0, .ref x0), (1, .int x1), (2, .int x2), (3, .int x3)]) dX13_words_72 rfl rfl ?_
        exact l_al rfl ⟨rfl, rfl, rfl, rfl, rfl, rfl, rfl, rfl, trivial⟩
      · refine l_loc dX13_words_48 rfl rfl ?_
        refine l_ic dX13_words_49 kI_2 ?_
        refine l_ob fun q24 => ?_
        refine l_cI dX13_words_50 rfl rfl rfl (l_xv cl_12_206 ko_mX13_fails rfl rfl rfl q24) rfl rfl nm_mX13_fails (xhE_th rfl) (fun v26 h25 => ?_)
        exact l_iretn dX13_words_53 rfl (by rfl)
    · refine l_loc dX13_words_30 rfl rfl ?_
      refine l_ic dX13_words_31 kI_1 ?_
      refine l_ob fun q27 => ?_
      refine l_cI dX13_words_32 rfl rfl rfl (l_xv cl_12_206 ko_mX13_fails rfl rfl rfl q27) rfl rfl nm_mX13_fails (xhE_th rfl) (fun v29 h28 => ?_)
      exact l_iretn dX13_words_35 rfl (by rfl)
set_option maxRecDepth 16000 in
theorem w_X13_words_74 (S : xS) (x0 : Nat) (x1 : Int32) (x3 : Int32) (x4 : Int32) (x5 : Int32) (x6 : Int32) (x7 : Int32) (x8 : Int32) (h : xH) : xle ((xGi h x0 12 0).bind fun v1 => if v1 ≤ x8 then (some (.inl (some (.int x6)), h, 0, 0)) else (xden S mX13_words 90 [(0, .ref x0), (1, .int x1), (3, .int x3), (4, .int x4), (5, .int x5), (6, .int x6), (7, .int x7), (8, .int x8), (9, .int (0 : Int32)), (10, .int x4)] [] h)) (xden S mX13_words 74 [(0, .ref x0), (1, .int x1), (3, .int x3), (4, .int x4), (5, .int x5), (6, .int x6), (7, .int x7), (8, .int x8)] [] h) := by
  refine l_loc dX13_words_74 rfl rfl ?_
  refine l_loc dX13_words_76 rfl rfl ?_
  refine l_gi dX13_words_77 fl_12_179 (fun v1 => ?_)
  refine l_cge (t := 165) dX13_words_80 rfl ?_ ?_
  · refine l_loc dX13_words_165 rfl rfl ?_
    exact l_iretn dX13_words_167 rfl (by rfl)
  · refine l_ic dX13_words_83 kI_0 ?_
    refine l_loc (al1 := [(9, .int (0 : Int32)), (0, .ref x0), (1, .int x1), (3, .int x3), (4, .int x4), (5, .int x5), (6, .int x6), (7, .int x7), (8, .int x8)]) dX13_words_84 rfl rfl ?_
    refine l_loc dX13_words_86 rfl rfl ?_
    refine l_loc (al1 := [(10, .int x4), (9, .int (0 : Int32)), (0, .ref x0), (1, .int x1), (3, .int x3), (4, .int x4), (5, .int x5), (6, .int x6), (7, .int x7), (8, .int x8)]) dX13_words_88 rfl rfl ?_
    exact l_al rfl ⟨rfl, rfl, rfl, rfl, rfl, rfl, rfl, rfl, rfl, rfl, trivial⟩
set_option maxRecDepth 16000 in
theorem w_X13_words_90 (S : xS) (x0 : Nat) (x1 : Int32) (x3 : Int32) (x4 : Int32) (x5 : Int32) (x6 : Int32) (x7 : Int32) (x8 : Int32) (x9 : Int32) (x10 : Int32) (h : xH) : xle (if x5 < x10 then (if x9 = 0 then (xlet (x8 + (1 : Int32)) fun v1 => (xden S mX13_words 74 [(0, .ref x0), (1, .int x1), (3, .int x3), (4, .int x4), (5, .int x5), (6, .int x6), (7, .int x7), (8, .int v1)] [] h)) else (if x3 ≤ ((x8 - x7) - (1 : Int32)) then (xlet (x6 + (1 : Int32)) fun v2 => xlet (x8 + (1 : Int32)) fun v3 => (xden S mX13_words 74 [(0, .ref x0), (1, .int x1), (3, .int x3), (4, .int x4), (5, .int x5), (6, .int v2), (7, .int x8), (8, .int v3)] [] h)) else (xlet (x6 + (0 : Int32)) fun v4 => xlet (x8 + (1 : Int32)) fun v5 => (xden S mX13_words 74 [(0, .ref x0), (1, .int x1), (3, .int x3), (4, .int x4), (5, .int x5), (6, .int v4), (7, .int x8), (8, .int v5)] [] h)))) else (if ¬ x9 = 0 then (xlet (x10 + (1 : Int32)) fun v6 => (xden S mX13_words 90 [(0, .ref x0), (1, .int x1), (3, .int x3), (4, .int x4), (5, .int x5), (6, .int x6), (7, .int x7), (8, .int x8), (9, .int (1 : Int32)), (10, .int v6)] [] h)) else (if xOb h x0 12 = true then xqI (xM S mX13_at [.ref x0, .int x1, .long (x8.toInt64), .long (x10.toInt64)] h) xth fun v9 h8 => if v9 = 0 then (xlet (x10 + (1 : Int32)) fun v10 => (xden S mX13_words 90 [(0, .ref x0), (1, .int x1), (3, .int x3), (4, .int x4), (5, .int x5), (6, .int x6), (7, .int x7), (8, .int x8), (9, .int (0 : Int32)), (10, .int v10)] [] h8)) else (xlet (x10 + (1 : Int32)) fun v11 => (xden S mX13_words 90 [(0, .ref x0), (1, .int x1), (3, .int x3), (4, .int x4), (5, .int x5), (6, .int x6), (7, .int x7), (8, .int x8), (9, .int (1 : Int32)), (10, .int v11)] [] h8)) else none))) (xden S mX13_words 90 [(0, .ref x0), (1, .int x1), (3, .int x3), (4, .int x4), (5, .int x5), (6, .int x6), (7, .int x7), (8, .int x8), (9, .int x9), (10, .int x10)] [] h) := by
  refine l_loc dX13_words_90 rfl rfl ?_
  refine l_loc dX13_words_92 rfl rfl ?_
  refine l_cgt (t := 129) dX13_words_94 rfl ?_ ?_
  · refine l_loc dX13_words_129 rfl rfl ?_
    refine l_ieq (t := 159) dX13_words_131 rfl ?_ ?_
    · refine l_incl (al1 := fun v1 => [(8, .int v1), (0, .ref x0), (1, .int x1), (3, .int x3), (4, .int x4), (5, .int x5), (6, .int x6), (7, .int x7), (9, .int x9), (10, .int x10)]) dX13_words_159 rfl kI_1 rfl (fun _ => rfl) (fun v1 => ?_)
      refine l_goto (t := 74) dX13_words_162 rfl ?_
      exact l_al rfl ⟨rfl, rfl, rfl, rfl, rfl, rfl, rfl, rfl, trivial⟩
    · refine l_loc dX13_words_134 rfl rfl ?_
      refine l_loc dX13_words_136 rfl rfl ?_
      refine l_loc dX13_words_138 rfl rfl ?_
      refine l_pure dX13_words_140 rfl rfl ?_
      refine l_ic dX13_words_141 kI_1 ?_
      refine l_pure dX13_words_142 rfl rfl ?_
      refine l_loc dX13_words_143 rfl rfl ?_
      refine l_cge (t := 151) dX13_words_144 rfl ?_ ?_
      · refine l_ic dX13_words_151 kI_1 ?_
        refine l_pure dX13_words_152 rfl rfl ?_
        refine l_isl (al1 := fun v2 => [(6, .int v2), (0, .ref x0), (1, .int x1), (3, .int x3), (4, .int x4), (5, .int x5), (7, .int x7), (8, .int x8), (9, .int x9), (10, .int x10)]) dX13_words_153 rfl (fun _ => rfl) (fun v2 => ?_)
        refine l_loc dX13_words_155 rfl rfl ?_
        refine l_loc (al1 := [(7, .int x8), (6, .int v2), (0, .ref x0), (1, .int x1), (3, .int x3), (4, .int x4), (5, .int x5), (8, .int x8), (9, .int x9), (10, .int x10)]) dX13_words_157 rfl rfl ?_
        refine l_incl (al1 := fun v3 => [(8, .int v3), (7, .int x8), (6, .int v2), (0, .ref x0), (1, .int x1), (3, .int x3), (4, .int x4), (5, .int x5), (9, .int x9), (10, .int x10)]) dX13_words_159 rfl kI_1 rfl (fun _ => rfl) (fun v3 => ?_)
        refine l_goto (t := 74) dX13_words_162 rfl ?_
        exact l_al rfl ⟨rfl, rfl, rfl, rfl, rfl, rfl, rfl, rfl, trivial⟩
      · refine l_ic dX13_words_147 kI_0 ?_
        refine l_goto (t := 152) dX13_words_148 rfl ?_
        refine l_pure dX13_words_152 rfl rfl ?_
        refine l_isl (al1 := fun v4 => [(6, .int v4), (0, .ref x0), (1, .int x1), (3, .int x3), (4, .int x4), (5, .int x5), (7, .int x7), (8, .int x8), (9, .int x9), (10, .int x10)]) dX13_words_153 rfl (fun _ => rfl) (fun v4 => ?_)
        refine l_loc dX13_words_155 rfl rfl ?_
        refine l_loc (al1 := [(7, .int x8), (6, .int v4), (0, .ref x0), (1, .int x1), (3, .int x3), (4, .int x4), (5, .int x5), (8, .int x8), (9, .int x9), (10, .int x10)]) dX13_words_157 rfl rfl ?_
        refine l_incl (al1 := fun v5 => [(8, .int v5), (7, .int x8), (6, .int v4), (0, .ref x0), (1, .int x1), (3, .int x3), (4, .int x4), (5, .int x5), (9, .int x9), (10, .int x10)]) dX13_words_159 rfl kI_1 rfl (fun _ => rfl) (fun v5 => ?_)
        refine l_goto (t := 74) dX13_words_162 rfl ?_
        exact l_al rfl ⟨rfl, rfl, rfl, rfl, rfl, rfl, rfl, rfl, trivial⟩
  · refine l_loc dX13_words_97 rfl rfl ?_
    refine l_ine (t := 116) dX13_words_99 rfl ?_ ?_
    · refine l_ic dX13_words_116 kI_1 ?_
      refine l_goto (t := 121) dX13_words_117 rfl ?_
      refine l_loc (al1 := [(9, .int (1 : Int32)), (0, .ref x0), (1, .int x1), (3, .int x3), (4, .int x4), (5, .int x5), (6, .int x6), (7, .int x7), (8, .int x8), (10, .int x10)]) dX13_words_121 rfl rfl ?_
      refine l_incl (al1 := fun v6 => [(10, .int v6), (9, .int (1 : Int32)), (0, .ref x0), (1, .int x1), (3, .int x3), (4, .int x4), (5, .int x5), (6, .int x6), (7, .int x7), (8, .int x8)]) dX13_words_123 rfl kI_1 rfl (fun _ => rfl) (fun v6 => ?_)
      refine l_goto (t := 90) dX13_words_126 rfl ?_
      exact l_al rfl ⟨rfl, rfl, rfl, rfl, rfl, rfl, rfl, rfl, rfl, rfl, trivial⟩
    · refine l_loc dX13_words_102 rfl rfl ?_
      refine l_loc dX13_words_103 rfl rfl ?_
      refine l_loc dX13_words_104 rfl rfl ?_
      refine l_pure dX13_words_106 rfl rfl ?_
      refine l_loc dX13_words_107 rfl rfl ?_
      refine l_pure dX13_words_109 rfl rfl ?_
      refine l_ob fun q7 => ?_
      refine l_cI dX13_words_110 rfl rfl rfl (l_xv cl_12_224 ko_mX13_at rfl rfl rfl q7) rfl rfl nm_mX13_at (xhE_th rfl) (fun v9 h8 => ?_)
      refine l_ieq (t := 120) dX13_words_113 rfl ?_ ?_
      · refine l_ic dX13_words_120 kI_0 ?_
        refine l_loc (al1 := [(9, .int (0 : Int32)), (0, .ref x0), (1, .int x1), (3, .int x3), (4, .int x4), (5, .int x5), (6, .int x6), (7, .int x7), (8, .int x8), (10, .int x10)]) dX13_words_121 rfl rfl ?_
        refine l_incl (al1 := fun v10 => [(10, .int v10), (9, .int (0 : Int32)), (0, .ref x0), (1, .int x1), (3, .int x3), (4, .int x4), (5, .int x5), (6, .int x6), (7, .int x7), (8, .int x8)]) dX13_words_123 rfl kI_1 rfl (fun _ => rfl) (fun v10 => ?_)
        refine l_goto (t := 90) dX13_words_126 rfl ?_
        exact l_al rfl ⟨rfl, rfl, rfl, rfl, rfl, rfl, rfl, rfl, rfl, rfl, trivial⟩
      · refine l_ic dX13_words_116 kI_1 ?_
        refine l_goto (t := 121) dX13_words_117 rfl ?_
        refine l_loc (al1 := [(9, .int (1 : Int32)), (0, .ref x0), (1, .int x1), (3, .int x3), (4, .int x4), (5, .int x5), (6, .int x6), (7, .int x7), (8, .int x8), (10, .int x10)]) dX13_words_121 rfl rfl ?_
        refine l_incl (al1 := fun v11 => [(10, .int v11), (9, .int (1 : Int32)), (0, .ref x0), (1, .int x1), (3, .int x3), (4, .int x4), (5, .int x5), (6, .int x6), (7, .int x7), (8, .int x8)]) dX13_words_123 rfl kI_1 rfl (fun _ => rfl) (fun v11 => ?_)
        refine l_goto (t := 90) dX13_words_126 rfl ?_
        exact l_al rfl ⟨rfl, rfl, rfl, rfl, rfl, rfl, rfl, rfl, rfl, rfl, trivial⟩
set_option maxRecDepth 16000 in
theorem w_X13_ink (S : xS) (x0 : Nat) (x1 : Int32) (x2 : Int32) (x3 : Int32) (x4 : Int32) (x5 : Int32) (h : xH) : xle ((xP false 12 h x0 12 2 (.int (0 : Int32))).bind fun h1 => if xOb h1 x0 12 = true then xqI (xM S mX13_isPage [.ref x0, .int x1] h1) xth fun v4 h3 => if ¬ v4 = 0 then (if x4 < 0 then (if xOb h3 x0 12 = true then xqI (xM S mX13_fails [.ref x0, .int (2 : Int32)] h3) xth fun v7 h6 => some (.inl (some (.int v7)), h6, 0, 0) else none) else (if 0 ≤ x5 then (xden S mX13_ink 41 [(0, .ref x0), (1, .int x1), (2, .int x2), (3, .int x3), (4, .int x4), (5, .int x5), (6, .int (0 : Int32)), (7, .int (0 : Int32))] [] h3) else (if xOb h3 x0 12 = true then xqI (xM S mX13_fails [.ref x0, .int (2 : Int32)] h3) xth fun v10 h9 => some (.inl (some (.int v10)), h9, 0, 0) else none))) else (if xOb h3 x0 12 = true then xqI (xM S mX13_fails [.ref x0, .int (1 : Int32)] h3) xth fun v13 h12 => some (.inl (some (.int v13)), h12, 0, 0) else none) else none) (xM S mX13_ink [.ref x0, .int x1, .int x2, .int x3, .int x4, .int x5] h) := by
  show xle _ (xden S mX13_ink 0 [(0, .ref x0), (1, .int x1), (2, .int x2), (3, .int x3), (4, .int x4), (5, .int x5)] [] h)
  refine l_loc dX13_ink_0 rfl rfl ?_
  refine l_ic dX13_ink_1 kI_0 ?_
  refine l_pf dX13_ink_2 fl_12_186 (ini := false) nm_mX13_ink (fun h1 => ?_)
  refine l_loc dX13_ink_5 rfl rfl ?_
  refine l_loc dX13_ink_6 rfl rfl ?_
  refine l_ob fun q2 => ?_
  refine l_cI dX13_ink_7 rfl rfl rfl (l_xv cl_12_202 ko_mX13_isPage rfl rfl rfl q2) rfl rfl nm_mX13_isPage (xhE_th rfl) (fun v4 h3 => ?_)
  refine l_ine (t := 19) dX13_ink_10 rfl ?_ ?_
  · refine l_loc dX13_ink_19 rfl rfl ?_
    refine l_ilt (t := 29) dX13_ink_21 rfl ?_ ?_
    · refine l_loc dX13_ink_29 rfl rfl ?_
      refine l_ic dX13_ink_30 kI_2 ?_
      refine l_ob fun q5 => ?_
      refine l_cI dX13_ink_31 rfl rfl rfl (l_xv cl_12_206 ko_mX13_fails rfl rfl rfl q5) rfl rfl nm_mX13_fails (xhE_th rfl) (fun v7 h6 => ?_)
      exact l_iretn dX13_ink_34 rfl (by rfl)
    · refine l_loc dX13_ink_24 rfl rfl ?_
      refine l_ige (t := 35) dX13_ink_26 rfl ?_ ?_
      · refine l_ic dX13_ink_35 kI_0 ?_
        refine l_loc (al1 := [(6, .int (0 : Int32)), (0, .ref x0), (1, .int x1), (2, .int x2), (3, .int x3), (4, .int x4), (5, .int x5)]) dX13_ink_36 rfl rfl ?_
        refine l_ic dX13_ink_38 kI_0 ?_
        refine l_loc (al1 := [(7, .int (0 : Int32)), (6, .int (0 : Int32)), (0, .ref x0), (1, .int x1), (2, .int x2), (3, .int x3), (4, .int x4), (5, .int x5)]) dX13_ink_39 rfl rfl ?_
        exact l_al rfl ⟨rfl, rfl, rfl, rfl, rfl, rfl, rfl, rfl, trivial⟩
      · refine l_loc dX13_ink_29 rfl rfl ?_
        refine l_ic dX13_ink_30 kI_2 ?_
        refine l_ob fun q8 => ?_
        refine l_cI dX13_ink_31 rfl rfl rfl (l_xv cl_12_206 ko_mX13_fails rfl rfl rfl q8) rfl rfl nm_mX13_fails (xhE_th rfl) (fun v10 h9 => ?_)
        exact l_iretn dX13_ink_34 rfl (by rfl)
  · refine l_loc dX13_ink_13 rfl rfl ?_
    refine l_ic dX13_ink_14 kI_1 ?_
    refine l_ob fun q11 => ?_
    refine l_cI dX13_ink_15 rfl rfl rfl (l_xv cl_12_206 ko_mX13_fails rfl rfl rfl q11) rfl rfl nm_mX13_fails (xhE_th rfl) (fun v13 h12 => ?_)
    exact l_iretn dX13_ink_18 rfl (by rfl)
set_option maxRecDepth 16000 in
theorem w_X13_ink_41 (S : xS) (x0 : Nat) (x1 : Int32) (x2 : Int32) (x3 : Int32) (x4 : Int32) (x5 : Int32) (x6 : Int32) (x7 : Int32) (h : xH) : xle (if (4096 : Int32) ≤ x7 then (some (.inl (some (.int x6)), h, 0, 0)) else ((xGr h x0 12 3).bind fun v1 => (xRi h 2 v1 (((4096 : Int32) * x1) + x7)).bind fun v2 => if v2 = 0 then (xlet (x6 + (0 : Int32)) fun v3 => xlet (x7 + (1 : Int32)) fun v4 => (xden S mX13_ink 41 [(0, .ref x0), (1, .int x1), (2, .int x2), (3, .int x3), (4, .int x4), (5, .int x5), (6, .int v3), (7, .int v4)] [] h)) else (xqI (xM S mX13_isWithin [.int x7, .int x2, .int x3, .int x4, .int x5] h) xth fun v6 h5 => if v6 = 0 then (xlet (x6 + (0 : Int32)) fun v7 => xlet (x7 + (1 : Int32)) fun v8 => (xden S mX13_ink 41 [(0, .ref x0), (1, .int x1), (2, .int x2), (3, .int x3), (4, .int x4), (5, .int x5), (6, .int v7), (7, .int v8)] [] h5)) else (xlet (x6 + (1 : Int32)) fun v9 => xlet (x7 + (1 : Int32)) fun v10 => (xden S mX13_ink 41 [(0, .ref x0), (1, .int x1), (2, .int x2), (3, .int x3), (4, .int x4), (5, .int x5), (6, .int v9), (7, .int v10)] [] h5))))) (xden S mX13_ink 41 [(0, .ref x0), (1, .int x1), (2, .int x2), (3, .int x3), (4, .int x4), (5, .int x5), (6, .int x6), (7, .int x7)] [] h) := by
  refine l_loc dX13_ink_41 rfl rfl ?_
  refine l_si dX13_ink_43 kS_4096 ?_
  refine l_cge (t := 95) dX13_ink_46 rfl ?_ ?_
  · refine l_loc dX13_ink_95 rfl rfl ?_
    exact l_iretn dX13_ink_97 rfl (by rfl)
  · refine l_loc dX13_ink_49 rfl rfl ?_
    refine l_loc dX13_ink_51 rfl rfl ?_
    refine l_gr dX13_ink_52 fl_12_7 (fun v1 => ?_)
    refine l_si dX13_ink_55 kS_4096 ?_
    refine l_loc dX13_ink_58 rfl rfl ?_
    refine l_pure dX13_ink_59 rfl rfl ?_
    refine l_loc dX13_ink_60 rfl rfl ?_
    refine l_pure dX13_ink_62 rfl rfl ?_
    refine l_rz dX13_ink_63 (fun v2 => ?_)
    refine l_ieq (t := 85) dX13_ink_64 rfl ?_ ?_
    · refine l_ic dX13_ink_85 kI_0 ?_
      refine l_pure dX13_ink_86 rfl rfl ?_
      refine l_isl (al1 := fun v3 => [(6, .int v3), (0, .ref x0), (1, .int x1), (2, .int x2), (3, .int x3), (4, .int x4), (5, .int x5), (7, .int x7)]) dX13_ink_87 rfl (fun _ => rfl) (fun v3 => ?_)
      refine l_incl (al1 := fun v4 => [(7, .int v4), (6, .int v3), (0, .ref x0), (1, .int x1), (2, .int x2), (3, .int x3), (4, .int x4), (5, .int x5)]) dX13_ink_89 rfl kI_1 rfl (fun _ => rfl) (fun v4 => ?_)
      refine l_goto (t := 41) dX13_ink_92 rfl ?_
      exact l_al rfl ⟨rfl, rfl, rfl, rfl, rfl, rfl, rfl, rfl, trivial⟩
    · refine l_loc dX13_ink_67 rfl rfl ?_
      refine l_loc dX13_ink_69 rfl rfl ?_
      refine l_loc dX13_ink_70 rfl rfl ?_
      refine l_loc dX13_ink_71 rfl rfl ?_
      refine l_loc dX13_ink_73 rfl rfl ?_
      refine l_cI dX13_ink_75 rfl rfl rfl (l_xs cl_12_220 ko_mX13_isWithin rfl rfl) rfl rfl nm_mX13_isWithin (xhE_th rfl) (fun v6 h5 => ?_)
      refine l_ieq (t := 85) dX13_ink_78 rfl ?_ ?_
      · refine l_ic dX13_ink_85 kI_0 ?_
        refine l_pure dX13_ink_86 rfl rfl ?_
        refine l_isl (al1 := fun v7 => [(6, .int v7), (0, .ref x0), (1, .int x1), (2, .int x2), (3, .int x3), (4, .int x4), (5, .int x5), (7, .int x7)]) dX13_ink_87 rfl (fun _ => rfl) (fun v7 => ?_)
        refine l_incl (al1 := fun v8 => [(7, .int v8), (6, .int v7), (0, .ref x0), (1, .int x1), (2, .int x2), (3, .int x3), (4, .int x4), (5, .int x5)]) dX13_ink_89 rfl kI_1 rfl (fun _ => rfl) (fun v8 => ?_)
        refine l_goto (t := 41) dX13_ink_92 rfl ?_
        exact l_al rfl ⟨rfl, rfl, rfl, rfl, rfl, rfl, rfl, rfl, trivial⟩
      · refine l_ic dX13_ink_81 kI_1 ?_
        refine l_goto (t := 86) dX13_ink_82 rfl ?_
        refine l_pure dX13_ink_86 rfl rfl ?_
        refine l_isl (al1 := fun v9 => [(6, .int v9), (0, .ref x0), (1, .int x1), (2, .int x2), (3, .int x3), (4, .int x4), (5, .int x5), (7, .int x7)]) dX13_ink_87 rfl (fun _ => rfl) (fun v9 => ?_)
        refine l_incl (al1 := fun v10 => [(7, .int v10), (6, .int v9), (0, .ref x0), (1, .int x1), (2, .int x2), (3, .int x3), (4, .int x4), (5, .int x5)]) dX13_ink_89 rfl kI_1 rfl (fun _ => rfl) (fun v10 => ?_)
        refine l_goto (t := 41) dX13_ink_92 rfl ?_
        exact l_al rfl ⟨rfl, rfl, rfl, rfl, rfl, rfl, rfl, rfl, trivial⟩
set_option maxRecDepth 16000 in
theorem w_X13_fingerprint (S : xS) (x0 : Nat) (x1 : Int32) (h : xH) : xle ((xP false 12 h x0 12 2 (.int (0 : Int32))).bind fun h1 => if xOb h1 x0 12 = true then xqI (xM S mX13_isPage [.ref x0, .int x1] h1) xth fun v4 h3 => if ¬ v4 = 0 then ((xGi h3 x0 12 0).bind fun v5 => (xGi h3 x0 12 1).bind fun v6 => xlet (((31 : Int64) * ((527 : Int64) + (v5.toInt64))) + (v6.toInt64)) fun v7 => (xden S mX13_fingerprint 43 [(0, .ref x0), (1, .int x1), (2, .long v7), (4, .int (0 : Int32))] [] h3)) else (if xOb h3 x0 12 = true then xqI (xM S mX13_fails [.ref x0, .int (1 : Int32)] h3) xth fun v10 h9 => some (.inl (some (.long (v10.toInt64))), h9, 0, 0) else none) else none) (xM S mX13_fingerprint [.ref x0, .int x1] h) := by
  show xle _ (xden S mX13_fingerprint 0 [(0, .ref x0), (1, .int x1)] [] h)
  refine l_loc dX13_fingerprint_0 rfl rfl ?_
  refine l_ic dX13_fingerprint_1 kI_0 ?_
  refine l_pf dX13_fingerprint_2 fl_12_186 (ini := false) nm_mX13_fingerprint (fun h1 => ?_)
  refine l_loc dX13_fingerprint_5 rfl rfl ?_
  refine l_loc dX13_fingerprint_6 rfl rfl ?_
  refine l_ob fun q2 => ?_
  refine l_cI dX13_fingerprint_7 rfl rfl rfl (l_xv cl_12_202 ko_mX13_isPage rfl rfl rfl q2) rfl rfl nm_mX13_isPage (xhE_th rfl) (fun v4 h3 => ?_)
  refine l_ine (t := 20) dX13_fingerprint_10 rfl ?_ ?_
  · refine l_rd (st1 := [.long (31 : Int64)]) dX13_fingerprint_20 rfl rfl ?_
    refine l_rd (st1 := [.long (527 : Int64), .long (31 : Int64)]) dX13_fingerprint_23 rfl rfl ?_
    refine l_loc dX13_fingerprint_26 rfl rfl ?_
    refine l_gi dX13_fingerprint_27 fl_12_179 (fun v5 => ?_)
    refine l_pure dX13_fingerprint_30 rfl rfl ?_
    refine l_pure dX13_fingerprint_31 rfl rfl ?_
    refine l_pure dX13_fingerprint_32 rfl rfl ?_
    refine l_loc dX13_fingerprint_33 rfl rfl ?_
    refine l_gi dX13_fingerprint_34 fl_12_183 (fun v6 => ?_)
    refine l_pure dX13_fingerprint_37 rfl rfl ?_
    refine l_pure dX13_fingerprint_38 rfl rfl ?_
    refine l_lsl (al1 := fun v7 => [(2, .long v7), (0, .ref x0), (1, .int x1)]) dX13_fingerprint_39 rfl (fun _ => rfl) (fun v7 => ?_)
    refine l_ic dX13_fingerprint_40 kI_0 ?_
    refine l_loc (al1 := [(4, .int (0 : Int32)), (2, .long v7), (0, .ref x0), (1, .int x1)]) dX13_fingerprint_41 rfl rfl ?_
    exact l_al rfl ⟨rfl, rfl, rfl, rfl, trivial⟩
  · refine l_loc dX13_fingerprint_13 rfl rfl ?_
    refine l_ic dX13_fingerprint_14 kI_1 ?_
    refine l_ob fun q8 => ?_
    refine l_cI dX13_fingerprint_15 rfl rfl rfl (l_xv cl_12_206 ko_mX13_fails rfl rfl rfl q8) rfl rfl nm_mX13_fails (xhE_th rfl) (fun v10 h9 => ?_)
    refine l_pure dX13_fingerprint_18 rfl rfl ?_
    exact l_end dX13_fingerprint_19 rfl rfl
set_option maxRecDepth 16000 in
theorem w_X13_fingerprint_43 (S : xS) (x0 : Nat) (x1 : Int32) (x2 : Int64) (x4 : Int32) (h : xH) : xle ((xGi h x0 12 1).bind fun v1 => if v1 ≤ x4 then (some (.inl (some (.long x2)), h, 0, 0)) else (if xOb h x0 12 = true then xqJ (xM S mX13_rowOf [.ref x0, .int x1, .int x4] h) xth fun v4 h3 => xlet (((31 : Int64) * x2) + v4) fun v5 => xlet (x4 + (1 : Int32)) fun v6 => (xden S mX13_fingerprint 43 [(0, .ref x0), (1, .int x1), (2, .long v5), (4, .int v6)] [] h3) else none)) (xden S mX13_fingerprint 43 [(0, .ref x0), (1, .int x1), (2, .long x2), (4, .int x4)] [] h) := by
  refine l_loc dX13_fingerprint_43 rfl rfl ?_
  refine l_loc dX13_fingerprint_45 rfl rfl ?_
  refine l_gi dX13_fingerprint_46 fl_12_183 (fun v1 => ?_)
  refine l_cge (t := 72) dX13_fingerprint_49 rfl ?_ ?_
  · refine l_loc dX13_fingerprint_72 rfl rfl ?_
    exact l_end dX13_fingerprint_73 rfl rfl
  · refine l_rd (st1 := [.long (31 : Int64)]) dX13_fingerprint_52 rfl rfl ?_
    refine l_loc dX13_fingerprint_55 rfl rfl ?_
    refine l_pure dX13_fingerprint_56 rfl rfl ?_
    refine l_loc dX13_fingerprint_57 rfl rfl ?_
    refine l_loc dX13_fingerprint_58 rfl rfl ?_
    refine l_loc dX13_fingerprint_59 rfl rfl ?_
    refine l_ob fun q2 => ?_
    refine l_cJ dX13_fingerprint_61 rfl rfl rfl (l_xv cl_12_210 ko_mX13_rowOf rfl rfl rfl q2) rfl rfl nm_mX13_rowOf (xhE_th rfl) (fun v4 h3 => ?_)
    refine l_pure dX13_fingerprint_64 rfl rfl ?_
    refine l_lsl (al1 := fun v5 => [(2, .long v5), (0, .ref x0), (1, .int x1), (4, .int x4)]) dX13_fingerprint_65 rfl (fun _ => rfl) (fun v5 => ?_)
    refine l_incl (al1 := fun v6 => [(4, .int v6), (2, .long v5), (0, .ref x0), (1, .int x1)]) dX13_fingerprint_66 rfl kI_1 rfl (fun _ => rfl) (fun v6 => ?_)
    refine l_goto (t := 43) dX13_fingerprint_69 rfl ?_
    exact l_al rfl ⟨rfl, rfl, rfl, rfl, trivial⟩
set_option maxRecDepth 16000 in
theorem w_X13_undo (S : xS) (x0 : Nat) (h : xH) : xle ((xP false 12 h x0 12 2 (.int (0 : Int32))).bind fun h1 => (xGi h1 x0 12 6).bind fun v2 => if ¬ v2 = 0 then ((xGi h1 x0 12 6).bind fun v3 => (xP false 12 h1 x0 12 6 (.int (v3 - (1 : Int32)))).bind fun h4 => (xden S mX13_undo 30 [(0, .ref x0), (1, .int (0 : Int32))] [] h4)) else (if xOb h1 x0 12 = true then xqI (xM S mX13_fails [.ref x0, .int (1 : Int32)] h1) xth fun v7 h6 => some (.inl (some (.int v7)), h6, 0, 0) else none)) (xM S mX13_undo [.ref x0] h) := by
  show xle _ (xden S mX13_undo 0 [(0, .ref x0)] [] h)
  refine l_loc dX13_undo_0 rfl rfl ?_
  refine l_ic dX13_undo_1 kI_0 ?_
  refine l_pf dX13_undo_2 fl_12_186 (ini := false) nm_mX13_undo (fun h1 => ?_)
  refine l_loc dX13_undo_5 rfl rfl ?_
  refine l_gi dX13_undo_6 fl_12_199 (fun v2 => ?_)
  refine l_ine (t := 18) dX13_undo_9 rfl ?_ ?_
  · refine l_loc dX13_undo_18 rfl rfl ?_
    refine l_pure dX13_undo_19 rfl rfl ?_
    refine l_gi dX13_undo_20 fl_12_199 (fun v3 => ?_)
    refine l_ic dX13_undo_23 kI_1 ?_
    refine l_pure dX13_undo_24 rfl rfl ?_
    refine l_pf dX13_undo_25 fl_12_199 (ini := false) nm_mX13_undo (fun h4 => ?_)
    refine l_ic dX13_undo_28 kI_0 ?_
    refine l_loc (al1 := [(1, .int (0 : Int32)), (0, .ref x0)]) dX13_undo_29 rfl rfl ?_
    exact l_al rfl ⟨rfl, rfl, trivial⟩
  · refine l_loc dX13_undo_12 rfl rfl ?_
    refine l_ic dX13_undo_13 kI_1 ?_
    refine l_ob fun q5 => ?_
    refine l_cI dX13_undo_14 rfl rfl rfl (l_xv cl_12_206 ko_mX13_fails rfl rfl rfl q5) rfl rfl nm_mX13_fails (xhE_th rfl) (fun v7 h6 => ?_)
    exact l_iretn dX13_undo_17 rfl (by rfl)
set_option maxRecDepth 16000 in
theorem w_X13_undo_30 (S : xS) (x0 : Nat) (x1 : Int32) (h : xH) : xle (if (4096 : Int32) ≤ x1 then ((xGi h x0 12 6).bind fun v1 => some (.inl (some (.int v1)), h, 0, 0)) else ((xGr h x0 12 3).bind fun v2 => (xGr h x0 12 5).bind fun v3 => (xGi h x0 12 6).bind fun v4 => (xRi h 0 v3 v4).bind fun v5 => (xGr h x0 12 4).bind fun v6 => (xGi h x0 12 6).bind fun v7 => (xRi h 2 v6 (((4096 : Int32) * v7) + x1)).bind fun v8 => (xWz h v2 (((4096 : Int32) * v5) + x1) v8).bind fun h9 => xlet (x1 + (1 : Int32)) fun v10 => (xden S mX13_undo 30 [(0, .ref x0), (1, .int v10)] [] h9))) (xden S mX13_undo 30 [(0, .ref x0), (1, .int x1)] [] h) := by
  refine l_loc dX13_undo_30 rfl rfl ?_
  refine l_si dX13_undo_31 kS_4096 ?_
  refine l_cge (t := 78) dX13_undo_34 rfl ?_ ?_
  · refine l_loc dX13_undo_78 rfl rfl ?_
    refine l_gi dX13_undo_79 fl_12_199 (fun v1 => ?_)
    exact l_iretn dX13_undo_82 rfl (by rfl)
  · refine l_loc dX13_undo_37 rfl rfl ?_
    refine l_gr dX13_undo_38 fl_12_7 (fun v2 => ?_)
    refine l_si dX13_undo_41 kS_4096 ?_
    refine l_loc dX13_undo_44 rfl rfl ?_
    refine l_gr dX13_undo_45 fl_12_17 (fun v3 => ?_)
    refine l_loc dX13_undo_48 rfl rfl ?_
    refine l_gi dX13_undo_49 fl_12_199 (fun v4 => ?_)
    refine l_ri dX13_undo_52 (fun v5 => ?_)
    refine l_pure dX13_undo_53 rfl rfl ?_
    refine l_loc dX13_undo_54 rfl rfl ?_
    refine l_pure dX13_undo_55 rfl rfl ?_
    refine l_loc dX13_undo_56 rfl rfl ?_
    refine l_gr dX13_undo_57 fl_12_14 (fun v6 => ?_)
    refine l_si dX13_undo_60 kS_4096 ?_
    refine l_loc dX13_undo_63 rfl rfl ?_
    refine l_gi dX13_undo_64 fl_12_199 (fun v7 => ?_)
    refine l_pure dX13_undo_67 rfl rfl ?_
    refine l_loc dX13_undo_68 rfl rfl ?_
    refine l_pure dX13_undo_69 rfl rfl ?_
    refine l_rz dX13_undo_70 (fun v8 => ?_)
    refine l_wz dX13_undo_71 (fun h9 => ?_)
    refine l_incl (al1 := fun v10 => [(1, .int v10), (0, .ref x0)]) dX13_undo_72 rfl kI_1 rfl (fun _ => rfl) (fun v10 => ?_)
    refine l_goto (t := 30) dX13_undo_75 rfl ?_
    exact l_al rfl ⟨rfl, rfl, trivial⟩
set_option maxRecDepth 16000 in
theorem w_X13_type (S : xS) (x0 : Nat) (x1 : Int32) (h : xH) : xle ((xP false 12 h x0 12 2 (.int (0 : Int32))).bind fun h1 => xqI (xM S mX13_in [.long (x1.toInt64), .long (32 : Int64), .long (126 : Int64)] h1) xth fun v3 h2 => if ¬ v3 = 0 then ((xGi h2 x0 12 13).bind fun v4 => if ¬ v4 = (80 : Int32) then ((xGr h2 x0 12 12).bind fun v5 => (xGi h2 x0 12 13).bind fun v6 => (xWi h2 v5 v6 x1).bind fun h7 => (xGi h7 x0 12 13).bind fun v8 => (xP false 12 h7 x0 12 13 (.int (v8 + (1 : Int32)))).bind fun h9 => (xGi h9 x0 12 13).bind fun v10 => some (.inl (some (.int v10)), h9, 0, 0)) else (if xOb h2 x0 12 = true then xqI (xM S mX13_fails [.ref x0, .int (2 : Int32)] h2) xth fun v13 h12 => some (.inl (some (.int v13)), h12, 0, 0) else none)) else (if xOb h2 x0 12 = true then xqI (xM S mX13_fails [.ref x0, .int (1 : Int32)] h2) xth fun v16 h15 => some (.inl (some (.int v16)), h15, 0, 0) else none)) (xM S mX13_type [.ref x0, .int x1] h) := by
  show xle _ (xden S mX13_type 0 [(0, .ref x0), (1, .int x1)] [] h)
  refine l_loc dX13_type_0 rfl rfl ?_
  refine l_ic dX13_type_1 kI_0 ?_
  refine l_pf dX13_type_2 fl_12_186 (ini := false) nm_mX13_type (fun h1 => ?_)
  refine l_loc dX13_type_5 rfl rfl ?_
  refine l_pure dX13_type_6 rfl rfl ?_
  refine l_rd (st1 := [.long (32 : Int64), .long (x1.toInt64)]) dX13_type_7 rfl rfl ?_
  refine l_rd (st1 := [.long (126 : Int64), .long (32 : Int64), .long (x1.toInt64)]) dX13_type_10 rfl rfl ?_
  refine l_cI dX13_type_13 rfl rfl rfl (l_xs cl_12_191 ko_mX13_in rfl rfl) rfl rfl nm_mX13_in (xhE_th rfl) (fun v3 h2 => ?_)
  refine l_ine (t := 25) dX13_type_16 rfl ?_ ?_
  · refine l_loc dX13_type_25 rfl rfl ?_
    refine l_gi dX13_type_26 fl_12_272 (fun v4 => ?_)
    refine l_bi dX13_type_29 kB_80 ?_
    refine l_cne (t := 40) dX13_type_31 rfl ?_ ?_
    · refine l_loc dX13_type_40 rfl rfl ?_
      refine l_gr dX13_type_41 fl_12_30 (fun v5 => ?_)
      refine l_loc dX13_type_44 rfl rfl ?_
      refine l_gi dX13_type_45 fl_12_272 (fun v6 => ?_)
      refine l_loc dX13_type_48 rfl rfl ?_
      refine l_wi dX13_type_49 (fun h7 => ?_)
      refine l_loc dX13_type_50 rfl rfl ?_
      refine l_pure dX13_type_51 rfl rfl ?_
      refine l_gi dX13_type_52 fl_12_272 (fun v8 => ?_)
      refine l_ic dX13_type_55 kI_1 ?_
      refine l_pure dX13_type_56 rfl rfl ?_
      refine l_pf dX13_type_57 fl_12_272 (ini := false) nm_mX13_type (fun h9 => ?_)
      refine l_loc dX13_type_60 rfl rfl ?_
      refine l_gi dX13_type_61 fl_12_272 (fun v10 => ?_)
      exact l_iretn dX13_type_64 rfl (by rfl)
    · refine l_loc dX13_type_34 rfl rfl ?_
      refine l_ic dX13_type_35 kI_2 ?_
      refine l_ob fun q11 => ?_
      refine l_cI dX13_type_36 rfl rfl rfl (l_xv cl_12_206 ko_mX13_fails rfl rfl rfl q11) rfl rfl nm_mX13_fails (xhE_th rfl) (fun v13 h12 => ?_)
      exact l_iretn dX13_type_39 rfl (by rfl)
  · refine l_loc dX13_type_19 rfl rfl ?_
    refine l_ic dX13_type_20 kI_1 ?_
    refine l_ob fun q14 => ?_
    refine l_cI dX13_type_21 rfl rfl rfl (l_xv cl_12_206 ko_mX13_fails rfl rfl rfl q14) rfl rfl nm_mX13_fails (xhE_th rfl) (fun v16 h15 => ?_)
    exact l_iretn dX13_type_24 rfl (by rfl)
set_option maxRecDepth 16000 in
theorem w_X13_clearText (S : xS) (x0 : Nat) (h : xH) : xle ((xP false 12 h x0 12 2 (.int (0 : Int32))).bind fun h1 => (xGi h1 x0 12 13).bind fun v2 => (xP false 12 h1 x0 12 13 (.int (0 : Int32))).bind fun h3 => some (.inl (some (.int v2)), h3, 0, 0)) (xM S mX13_clearText [.ref x0] h) := by
  show xle _ (xden S mX13_clearText 0 [(0, .ref x0)] [] h)
  refine l_loc dX13_clearText_0 rfl rfl ?_
  refine l_ic dX13_clearText_1 kI_0 ?_
  refine l_pf dX13_clearText_2 fl_12_186 (ini := false) nm_mX13_clearText (fun h1 => ?_)
  refine l_loc dX13_clearText_5 rfl rfl ?_
  refine l_gi dX13_clearText_6 fl_12_272 (fun v2 => ?_)
  refine l_loc (al1 := [(1, .int v2), (0, .ref x0)]) dX13_clearText_9 rfl rfl ?_
  refine l_loc dX13_clearText_10 rfl rfl ?_
  refine l_ic dX13_clearText_11 kI_0 ?_
  refine l_pf dX13_clearText_12 fl_12_272 (ini := false) nm_mX13_clearText (fun h3 => ?_)
  refine l_loc dX13_clearText_15 rfl rfl ?_
  exact l_iretn dX13_clearText_16 rfl (by rfl)
set_option maxRecDepth 16000 in
theorem w_X13_configure (S : xS) (x0 : Nat) (h : xH) : xle ((xP false 12 h x0 12 2 (.int (0 : Int32))).bind fun h1 => if xOb h1 x0 12 = true then xqI (xM S mX13_readsSettings [.ref x0] h1) xth fun v4 h3 => if v4 < 0 then (xden S mX13_configure 20 [(0, .ref x0), (2, .int (0 : Int32))] [] h3) else (some (.inl (some (.int ((-1 : Int32) - v4))), h3, 0, 0)) else none) (xM S mX13_configure [.ref x0] h) := by
  show xle _ (xden S mX13_configure 0 [(0, .ref x0)] [] h)
  refine l_loc dX13_configure_0 rfl rfl ?_
  refine l_ic dX13_configure_1 kI_0 ?_
  refine l_pf dX13_configure_2 fl_12_186 (ini := false) nm_mX13_configure (fun h1 => ?_)
  refine l_loc dX13_configure_5 rfl rfl ?_
  refine l_ob fun q2 => ?_
  refine l_cI dX13_configure_6 rfl rfl rfl (l_xv cl_12_309 ko_mX13_readsSettings rfl rfl rfl q2) rfl rfl nm_mX13_readsSettings (xhE_th rfl) (fun v4 h3 => ?_)
  refine l_loc (al1 := [(1, .int v4), (0, .ref x0)]) dX13_configure_9 rfl rfl ?_
  refine l_loc dX13_configure_10 rfl rfl ?_
  refine l_ilt (t := 18) dX13_configure_11 rfl ?_ ?_
  · refine l_ic dX13_configure_18 kI_0 ?_
    refine l_loc (al1 := [(2, .int (0 : Int32)), (1, .int v4), (0, .ref x0)]) dX13_configure_19 rfl rfl ?_
    exact l_al rfl ⟨rfl, rfl, trivial⟩
  · refine l_ic dX13_configure_14 kI_m1 ?_
    refine l_loc dX13_configure_15 rfl rfl ?_
    refine l_pure dX13_configure_16 rfl rfl ?_
    exact l_iretn dX13_configure_17 rfl (by rfl)
set_option maxRecDepth 16000 in
theorem w_X13_configure_20 (S : xS) (x0 : Nat) (x2 : Int32) (h : xH) : xle ((xGi h x0 12 23).bind fun v1 => if v1 ≤ x2 then ((xP false 12 h x0 12 13 (.int (0 : Int32))).bind fun h2 => (xGi h2 x0 12 23).bind fun v3 => some (.inl (some (.int v3)), h2, 0, 0)) else ((xGr h x0 12 14).bind fun v4 => (xGr h x0 12 21).bind fun v5 => (xRi h 0 v5 x2).bind fun v6 => (xGr h x0 12 22).bind fun v7 => (xRi h 0 v7 x2).bind fun v8 => (xWi h v4 v6 v8).bind fun h9 => (xGr h9 x0 12 21).bind fun v10 => (xRi h9 0 v10 x2).bind fun v11 => if xOb h9 x0 12 = true then xqI (xM S mX13_isGiven [.ref x0, .int v11] h9) xth fun v14 h13 => if ¬ v14 = 0 then (xlet (x2 + (1 : Int32)) fun v15 => (xden S mX13_configure 20 [(0, .ref x0), (2, .int v15)] [] h13)) else ((xGr h13 x0 12 15).bind fun v16 => (xGi h13 x0 12 16).bind fun v17 => (xGr h13 x0 12 21).bind fun v18 => (xRi h13 0 v18 x2).bind fun v19 => (xWi h13 v16 v17 v19).bind fun h20 => (xGi h20 x0 12 16).bind fun v21 => (xP false 12 h20 x0 12 16 (.int (v21 + (1 : Int32)))).bind fun h22 => xlet (x2 + (1 : Int32)) fun v23 => (xden S mX13_configure 20 [(0, .ref x0), (2, .int v23)] [] h22)) else none)) (xden S mX13_configure 20 [(0, .ref x0), (2, .int x2)] [] h) := by
  refine l_loc dX13_configure_20 rfl rfl ?_
  refine l_loc dX13_configure_21 rfl rfl ?_
  refine l_gi dX13_configure_22 fl_12_296 (fun v1 => ?_)
  refine l_cge (t := 89) dX13_configure_25 rfl ?_ ?_
  · refine l_loc dX13_configure_89 rfl rfl ?_
    refine l_ic dX13_configure_90 kI_0 ?_
    refine l_pf dX13_configure_91 fl_12_272 (ini := false) nm_mX13_configure (fun h2 => ?_)
    refine l_loc dX13_configure_94 rfl rfl ?_
    refine l_gi dX13_configure_95 fl_12_296 (fun v3 => ?_)
    exact l_iretn dX13_configure_98 rfl (by rfl)
  · refine l_loc dX13_configure_28 rfl rfl ?_
    refine l_gr dX13_configure_29 fl_12_33 (fun v4 => ?_)
    refine l_loc dX13_configure_32 rfl rfl ?_
    refine l_gr dX13_configure_33 fl_12_52 (fun v5 => ?_)
    refine l_loc dX13_configure_36 rfl rfl ?_
    refine l_ri dX13_configure_37 (fun v6 => ?_)
    refine l_loc dX13_configure_38 rfl rfl ?_
    refine l_gr dX13_configure_39 fl_12_55 (fun v7 => ?_)
    refine l_loc dX13_configure_42 rfl rfl ?_
    refine l_ri dX13_configure_43 (fun v8 => ?_)
    refine l_wi dX13_configure_44 (fun h9 => ?_)
    refine l_loc dX13_configure_45 rfl rfl ?_
    refine l_loc dX13_configure_46 rfl rfl ?_
    refine l_gr dX13_configure_47 fl_12_52 (fun v10 => ?_)
    refine l_loc dX13_configure_50 rfl rfl ?_
    refine l_ri dX13_configure_51 (fun v11 => ?_)
    refine l_ob fun q12 => ?_
    refine l_cI dX13_configure_52 rfl rfl rfl (l_xv cl_12_313 ko_mX13_isGiven rfl rfl rfl q12) rfl rfl nm_mX13_isGiven (xhE_th rfl) (fun v14 h13 => ?_)
    refine l_ine (t := 83) dX13_configure_55 rfl ?_ ?_
    · refine l_incl (al1 := fun v15 => [(2, .int v15), (0, .ref x0)]) dX13_configure_83 rfl kI_1 rfl (fun _ => rfl) (fun v15 => ?_)
      refine l_goto (t := 20) dX13_configure_86 rfl ?_
      exact l_al rfl ⟨rfl, rfl, trivial⟩
    · refine l_loc dX13_configure_58 rfl rfl ?_
      refine l_gr dX13_configure_59 fl_12_36 (fun v16 => ?_)
      refine l_loc dX13_configure_62 rfl rfl ?_
      refine l_gi dX13_configure_63 fl_12_306 (fun v17 => ?_)
      refine l_loc dX13_configure_66 rfl rfl ?_
      refine l_gr dX13_configure_67 fl_12_52 (fun v18 => ?_)
      refine l_loc dX13_configure_70 rfl rfl ?_
      refine l_ri dX13_configure_71 (fun v19 => ?_)
      refine l_wi dX13_configure_72 (fun h20 => ?_)
      refine l_loc dX13_configure_73 rfl rfl ?_
      refine l_pure dX13_configure_74 rfl rfl ?_
      refine l_gi dX13_configure_75 fl_12_306 (fun v21 => ?_)
      refine l_ic dX13_configure_78 kI_1 ?_
      refine l_pure dX13_configure_79 rfl rfl ?_
      refine l_pf dX13_configure_80 fl_12_306 (ini := false) nm_mX13_configure (fun h22 => ?_)
      refine l_incl (al1 := fun v23 => [(2, .int v23), (0, .ref x0)]) dX13_configure_83 rfl kI_1 rfl (fun _ => rfl) (fun v23 => ?_)
      refine l_goto (t := 20) dX13_configure_86 rfl ?_
      exact l_al rfl ⟨rfl, rfl, trivial⟩
set_option maxRecDepth 16000 in
theorem w_X13_readsSettings (S : xS) (x0 : Nat) (h : xH) : xle ((xP false 12 h x0 12 23 (.int (0 : Int32))).bind fun h1 => (xden S mX13_readsSettings 7 [(0, .ref x0), (1, .int (0 : Int32))] [] h1)) (xM S mX13_readsSettings [.ref x0] h) := by
  show xle _ (xden S mX13_readsSettings 0 [(0, .ref x0)] [] h)
  refine l_loc dX13_readsSettings_0 rfl rfl ?_
  refine l_ic dX13_readsSettings_1 kI_0 ?_
  refine l_pf dX13_readsSettings_2 fl_12_296 (ini := false) nm_mX13_readsSettings (fun h1 => ?_)
  refine l_ic dX13_readsSettings_5 kI_0 ?_
  refine l_loc (al1 := [(1, .int (0 : Int32)), (0, .ref x0)]) dX13_readsSettings_6 rfl rfl ?_
  exact l_al rfl ⟨rfl, rfl, trivial⟩
set_option maxRecDepth 16000 in
theorem w_X13_readsSettings_7 (S : xS) (x0 : Nat) (x1 : Int32) (h : xH) : xle ((xGi h x0 12 13).bind fun v1 => if v1 < x1 then (some (.inl (some (.int (-1 : Int32))), h, 0, 0)) else ((xGi h x0 12 13).bind fun v2 => if v2 ≤ 0 then (some (.inl (some (.int (-1 : Int32))), h, 0, 0)) else (xden S mX13_readsSettings 24 [(0, .ref x0), (1, .int x1), (2, .int x1)] [] h))) (xden S mX13_readsSettings 7 [(0, .ref x0), (1, .int x1)] [] h) := by
  refine l_loc dX13_readsSettings_7 rfl rfl ?_
  refine l_loc dX13_readsSettings_8 rfl rfl ?_
  refine l_gi dX13_readsSettings_9 fl_12_272 (fun v1 => ?_)
  refine l_cgt (t := 190) dX13_readsSettings_12 rfl ?_ ?_
  · refine l_ic dX13_readsSettings_190 kI_m1 ?_
    exact l_iretn dX13_readsSettings_191 rfl (by rfl)
  · refine l_loc dX13_readsSettings_15 rfl rfl ?_
    refine l_gi dX13_readsSettings_16 fl_12_272 (fun v2 => ?_)
    refine l_ile (t := 190) dX13_readsSettings_19 rfl ?_ ?_
    · refine l_ic dX13_readsSettings_190 kI_m1 ?_
      exact l_iretn dX13_readsSettings_191 rfl (by rfl)
    · refine l_loc dX13_readsSettings_22 rfl rfl ?_
      refine l_loc (al1 := [(2, .int x1), (0, .ref x0), (1, .int x1)]) dX13_readsSettings_23 rfl rfl ?_
      exact l_al rfl ⟨rfl, rfl, rfl, trivial⟩
set_option maxRecDepth 16000 in
theorem w_X13_readsSettings_24 (S : xS) (x0 : Nat) (x1 : Int32) (x2 : Int32) (h : xH) : xle (if xOb h x0 12 = true then xqI (xM S mX13_isSmall [.ref x0, .int x2] h) xth fun v3 h2 => if v3 = 0 then (if x2 ≤ x1 then (if 0 ≤ (-1 : Int32) then (if xOb h2 x0 12 = true then xqI (xM S mX13_letter [.ref x0, .int x2] h2) xth fun v6 h5 => if v6 = (61 : Int32) then (xlet (x2 + (1 : Int32)) fun v7 => (xden S mX13_readsSettings 81 [(0, .ref x0), (2, .int x2), (3, .int (-1 : Int32)), (4, .int v7)] [] h5)) else (some (.inl (some (.int x2)), h5, 0, 0)) else none) else (some (.inl (some (.int x1)), h2, 0, 0))) else ((xGr h2 x0 12 17).bind fun v8 => if xOb h2 x0 12 = true then xqI (xM S mX13_wordOf [.ref x0, .ref v8, .int x1, .int x2] h2) xth fun v11 h10 => if 0 ≤ v11 then (if xOb h10 x0 12 = true then xqI (xM S mX13_letter [.ref x0, .int x2] h10) xth fun v14 h13 => if v14 = (61 : Int32) then (xlet (x2 + (1 : Int32)) fun v15 => (xden S mX13_readsSettings 81 [(0, .ref x0), (2, .int x2), (3, .int v11), (4, .int v15)] [] h13)) else (some (.inl (some (.int x2)), h13, 0, 0)) else none) else (some (.inl (some (.int x1)), h10, 0, 0)) else none)) else (xlet (x2 + (1 : Int32)) fun v16 => (xden S mX13_readsSettings 24 [(0, .ref x0), (1, .int x1), (2, .int v16)] [] h2)) else none) (xden S mX13_readsSettings 24 [(0, .ref x0), (1, .int x1), (2, .int x2)] [] h) := by
  refine l_loc dX13_readsSettings_24 rfl rfl ?_
  refine l_loc dX13_readsSettings_25 rfl rfl ?_
  refine l_ob fun q1 => ?_
  refine l_cI dX13_readsSettings_26 rfl rfl rfl (l_xv cl_12_299 ko_mX13_isSmall rfl rfl rfl q1) rfl rfl nm_mX13_isSmall (xhE_th rfl) (fun v3 h2 => ?_)
  refine l_ieq (t := 38) dX13_readsSettings_29 rfl ?_ ?_
  · refine l_loc dX13_readsSettings_38 rfl rfl ?_
    refine l_loc dX13_readsSettings_39 rfl rfl ?_
    refine l_cle (t := 56) dX13_readsSettings_40 rfl ?_ ?_
    · refine l_ic dX13_readsSettings_56 kI_m1 ?_
      refine l_loc (al1 := [(3, .int (-1 : Int32)), (0, .ref x0), (1, .int x1), (2, .int x2)]) dX13_readsSettings_57 rfl rfl ?_
      refine l_loc dX13_readsSettings_58 rfl rfl ?_
      refine l_ige (t := 64) dX13_readsSettings_59 rfl ?_ ?_
      · refine l_loc dX13_readsSettings_64 rfl rfl ?_
        refine l_loc dX13_readsSettings_65 rfl rfl ?_
        refine l_ob fun q4 => ?_
        refine l_cI dX13_readsSettings_66 rfl rfl rfl (l_xv cl_12_275 ko_mX13_letter rfl rfl rfl q4) rfl rfl nm_mX13_letter (xhE_th rfl) (fun v6 h5 => ?_)
        refine l_bi dX13_readsSettings_69 kB_61 ?_
        refine l_ceq (t := 76) dX13_readsSettings_71 rfl ?_ ?_
        · refine l_loc dX13_readsSettings_76 rfl rfl ?_
          refine l_ic dX13_readsSettings_77 kI_1 ?_
          refine l_pure dX13_readsSettings_78 rfl rfl ?_
          refine l_isl (al1 := fun v7 => [(4, .int v7), (3, .int (-1 : Int32)), (0, .ref x0), (1, .int x1), (2, .int x2)]) dX13_readsSettings_79 rfl (fun _ => rfl) (fun v7 => ?_)
          exact l_al rfl ⟨rfl, rfl, rfl, rfl, trivial⟩
        · refine l_loc dX13_readsSettings_74 rfl rfl ?_
          exact l_iretn dX13_readsSettings_75 rfl (by rfl)
      · refine l_loc dX13_readsSettings_62 rfl rfl ?_
        exact l_iretn dX13_readsSettings_63 rfl (by rfl)
    · refine l_loc dX13_readsSettings_43 rfl rfl ?_
      refine l_loc dX13_readsSettings_44 rfl rfl ?_
      refine l_gr dX13_readsSettings_45 fl_12_39 (fun v8 => ?_)
      refine l_loc dX13_readsSettings_48 rfl rfl ?_
      refine l_loc dX13_readsSettings_49 rfl rfl ?_
      refine l_ob fun q9 => ?_
      refine l_cI dX13_readsSettings_50 rfl rfl rfl (l_xv cl_12_289 ko_mX13_wordOf rfl rfl rfl q9) rfl rfl nm_mX13_wordOf (xhE_th rfl) (fun v11 h10 => ?_)
      refine l_goto (t := 57) dX13_readsSettings_53 rfl ?_
      refine l_loc (al1 := [(3, .int v11), (0, .ref x0), (1, .int x1), (2, .int x2)]) dX13_readsSettings_57 rfl rfl ?_
      refine l_loc dX13_readsSettings_58 rfl rfl ?_
      refine l_ige (t := 64) dX13_readsSettings_59 rfl ?_ ?_
      · refine l_loc dX13_readsSettings_64 rfl rfl ?_
        refine l_loc dX13_readsSettings_65 rfl rfl ?_
        refine l_ob fun q12 => ?_
        refine l_cI dX13_readsSettings_66 rfl rfl rfl (l_xv cl_12_275 ko_mX13_letter rfl rfl rfl q12) rfl rfl nm_mX13_letter (xhE_th rfl) (fun v14 h13 => ?_)
        refine l_bi dX13_readsSettings_69 kB_61 ?_
        refine l_ceq (t := 76) dX13_readsSettings_71 rfl ?_ ?_
        · refine l_loc dX13_readsSettings_76 rfl rfl ?_
          refine l_ic dX13_readsSettings_77 kI_1 ?_
          refine l_pure dX13_readsSettings_78 rfl rfl ?_
          refine l_isl (al1 := fun v15 => [(4, .int v15), (3, .int v11), (0, .ref x0), (1, .int x1), (2, .int x2)]) dX13_readsSettings_79 rfl (fun _ => rfl) (fun v15 => ?_)
          exact l_al rfl ⟨rfl, rfl, rfl, rfl, trivial⟩
        · refine l_loc dX13_readsSettings_74 rfl rfl ?_
          exact l_iretn dX13_readsSettings_75 rfl (by rfl)
      · refine l_loc dX13_readsSettings_62 rfl rfl ?_
        exact l_iretn dX13_readsSettings_63 rfl (by rfl)
  · refine l_incl (al1 := fun v16 => [(2, .int v16), (0, .ref x0), (1, .int x1)]) dX13_readsSettings_32 rfl kI_1 rfl (fun _ => rfl) (fun v16 => ?_)
    refine l_goto (t := 24) dX13_readsSettings_35 rfl ?_
    exact l_al rfl ⟨rfl, rfl, rfl, trivial⟩
set_option maxRecDepth 16000 in
theorem w_X13_readsSettings_81 (S : xS) (x0 : Nat) (x2 : Int32) (x3 : Int32) (x4 : Int32) (h : xH) : xle (if xOb h x0 12 = true then xqI (xM S mX13_isSmall [.ref x0, .int x4] h) xth fun v3 h2 => if ¬ v3 = 0 then (xlet (x4 + (1 : Int32)) fun v4 => (xden S mX13_readsSettings 81 [(0, .ref x0), (2, .int x2), (3, .int x3), (4, .int v4)] [] h2)) else (if xOb h2 x0 12 = true then xqI (xM S mX13_isFigure [.ref x0, .int x4] h2) xth fun v7 h6 => if v7 = 0 then (if xOb h6 x0 12 = true then xqI (xM S mX13_valueOf [.ref x0, .int x3, .int (x2 + (1 : Int32)), .int x4] h6) xth fun v10 h9 => if 0 ≤ v10 then ((xGr h9 x0 12 21).bind fun v11 => (xGi h9 x0 12 23).bind fun v12 => (xWi h9 v11 v12 x3).bind fun h13 => (xGr h13 x0 12 22).bind fun v14 => (xGi h13 x0 12 23).bind fun v15 => (xWi h13 v14 v15 v10).bind fun h16 => (xGi h16 x0 12 23).bind fun v17 => (xP false 12 h16 x0 12 23 (.int (v17 + (1 : Int32)))).bind fun h18 => (xGi h18 x0 12 13).bind fun v19 => if ¬ x4 = v19 then (if xOb h18 x0 12 = true then xqI (xM S mX13_letter [.ref x0, .int x4] h18) xth fun v22 h21 => if v22 = (59 : Int32) then (xlet (x4 + (1 : Int32)) fun v23 => (xden S mX13_readsSettings 7 [(0, .ref x0), (1, .int v23)] [] h21)) else (some (.inl (some (.int x4)), h21, 0, 0)) else none) else (some (.inl (some (.int (-1 : Int32))), h18, 0, 0))) else (some (.inl (some (.int (x2 + (1 : Int32)))), h9, 0, 0)) else none) else (xlet (x4 + (1 : Int32)) fun v24 => (xden S mX13_readsSettings 81 [(0, .ref x0), (2, .int x2), (3, .int x3), (4, .int v24)] [] h6)) else none) else none) (xden S mX13_readsSettings 81 [(0, .ref x0), (2, .int x2), (3, .int x3), (4, .int x4)] [] h) := by
  refine l_loc dX13_readsSettings_81 rfl rfl ?_
  refine l_loc dX13_readsSettings_82 rfl rfl ?_
  refine l_ob fun q1 => ?_
  refine l_cI dX13_readsSettings_84 rfl rfl rfl (l_xv cl_12_299 ko_mX13_isSmall rfl rfl rfl q1) rfl rfl nm_mX13_isSmall (xhE_th rfl) (fun v3 h2 => ?_)
  refine l_ine (t := 99) dX13_readsSettings_87 rfl ?_ ?_
  · refine l_incl (al1 := fun v4 => [(4, .int v4), (0, .ref x0), (2, .int x2), (3, .int x3)]) dX13_readsSettings_99 rfl kI_1 rfl (fun _ => rfl) (fun v4 => ?_)
    refine l_goto (t := 81) dX13_readsSettings_102 rfl ?_
    exact l_al rfl ⟨rfl, rfl, rfl, rfl, trivial⟩
  · refine l_loc dX13_readsSettings_90 rfl rfl ?_
    refine l_loc dX13_readsSettings_91 rfl rfl ?_
    refine l_ob fun q5 => ?_
    refine l_cI dX13_readsSettings_93 rfl rfl rfl (l_xv cl_12_293 ko_mX13_isFigure rfl rfl rfl q5) rfl rfl nm_mX13_isFigure (xhE_th rfl) (fun v7 h6 => ?_)
    refine l_ieq (t := 105) dX13_readsSettings_96 rfl ?_ ?_
    · refine l_loc dX13_readsSettings_105 rfl rfl ?_
      refine l_loc dX13_readsSettings_106 rfl rfl ?_
      refine l_loc dX13_readsSettings_107 rfl rfl ?_
      refine l_ic dX13_readsSettings_108 kI_1 ?_
      refine l_pure dX13_readsSettings_109 rfl rfl ?_
      refine l_loc dX13_readsSettings_110 rfl rfl ?_
      refine l_ob fun q8 => ?_
      refine l_cI dX13_readsSettings_112 rfl rfl rfl (l_xv cl_12_302 ko_mX13_valueOf rfl rfl rfl q8) rfl rfl nm_mX13_valueOf (xhE_th rfl) (fun v10 h9 => ?_)
      refine l_loc (al1 := [(5, .int v10), (0, .ref x0), (2, .int x2), (3, .int x3), (4, .int x4)]) dX13_readsSettings_115 rfl rfl ?_
      refine l_loc dX13_readsSettings_117 rfl rfl ?_
      refine l_ige (t := 126) dX13_readsSettings_119 rfl ?_ ?_
      · refine l_loc dX13_readsSettings_126 rfl rfl ?_
        refine l_gr dX13_readsSettings_127 fl_12_52 (fun v11 => ?_)
        refine l_loc dX13_readsSettings_130 rfl rfl ?_
        refine l_gi dX13_readsSettings_131 fl_12_296 (fun v12 => ?_)
        refine l_loc dX13_readsSettings_134 rfl rfl ?_
        refine l_wi dX13_readsSettings_135 (fun h13 => ?_)
        refine l_loc dX13_readsSettings_136 rfl rfl ?_
        refine l_gr dX13_readsSettings_137 fl_12_55 (fun v14 => ?_)
        refine l_loc dX13_readsSettings_140 rfl rfl ?_
        refine l_gi dX13_readsSettings_141 fl_12_296 (fun v15 => ?_)
        refine l_loc dX13_readsSettings_144 rfl rfl ?_
        refine l_wi dX13_readsSettings_146 (fun h16 => ?_)
        refine l_loc dX13_readsSettings_147 rfl rfl ?_
        refine l_pure dX13_readsSettings_148 rfl rfl ?_
        refine l_gi dX13_readsSettings_149 fl_12_296 (fun v17 => ?_)
        refine l_ic dX13_readsSettings_152 kI_1 ?_
        refine l_pure dX13_readsSettings_153 rfl rfl ?_
        refine l_pf dX13_readsSettings_154 fl_12_296 (ini := false) nm_mX13_readsSettings (fun h18 => ?_)
        refine l_loc dX13_readsSettings_157 rfl rfl ?_
        refine l_loc dX13_readsSettings_159 rfl rfl ?_
        refine l_gi dX13_readsSettings_160 fl_12_272 (fun v19 => ?_)
        refine l_cne (t := 168) dX13_readsSettings_163 rfl ?_ ?_
        · refine l_loc dX13_readsSettings_168 rfl rfl ?_
          refine l_loc dX13_readsSettings_169 rfl rfl ?_
          refine l_ob fun q20 => ?_
          refine l_cI dX13_readsSettings_171 rfl rfl rfl (l_xv cl_12_275 ko_mX13_letter rfl rfl rfl q20) rfl rfl nm_mX13_letter (xhE_th rfl) (fun v22 h21 => ?_)
          refine l_bi dX13_readsSettings_174 kB_59 ?_
          refine l_ceq (t := 182) dX13_readsSettings_176 rfl ?_ ?_
          · refine l_loc dX13_readsSettings_182 rfl rfl ?_
            refine l_ic dX13_readsSettings_184 kI_1 ?_
            refine l_pure dX13_readsSettings_185 rfl rfl ?_
            refine l_isl (al1 := fun v23 => [(1, .int v23), (5, .int v10), (0, .ref x0), (2, .int x2), (3, .int x3), (4, .int x4)]) dX13_readsSettings_186 rfl (fun _ => rfl) (fun v23 => ?_)
            refine l_goto (t := 7) dX13_readsSettings_187 rfl ?_
            exact l_al rfl ⟨rfl, rfl, trivial⟩
          · refine l_loc dX13_readsSettings_179 rfl rfl ?_
            exact l_iretn dX13_readsSettings_181 rfl (by rfl)
        · refine l_ic dX13_readsSettings_166 kI_m1 ?_
          exact l_iretn dX13_readsSettings_167 rfl (by rfl)
      · refine l_loc dX13_readsSettings_122 rfl rfl ?_
        refine l_ic dX13_readsSettings_123 kI_1 ?_
        refine l_pure dX13_readsSettings_124 rfl rfl ?_
        exact l_iretn dX13_readsSettings_125 rfl (by rfl)
    · refine l_incl (al1 := fun v24 => [(4, .int v24), (0, .ref x0), (2, .int x2), (3, .int x3)]) dX13_readsSettings_99 rfl kI_1 rfl (fun _ => rfl) (fun v24 => ?_)
      refine l_goto (t := 81) dX13_readsSettings_102 rfl ?_
      exact l_al rfl ⟨rfl, rfl, rfl, rfl, trivial⟩
set_option maxRecDepth 16000 in
theorem w_X13_isSmall (S : xS) (x0 : Nat) (x1 : Int32) (h : xH) : xle (if xOb h x0 12 = true then xqI (xM S mX13_letter [.ref x0, .int x1] h) xth fun v3 h2 => xqI (xM S mX13_in [.long (v3.toInt64), .long (97 : Int64), .long (122 : Int64)] h2) xth fun v5 h4 => if narrow .boolean (.int v5) = .int v5 then some (.inl (some (.int v5)), h4, 0, 0) else none else none) (xM S mX13_isSmall [.ref x0, .int x1] h) := by
  show xle _ (xden S mX13_isSmall 0 [(0, .ref x0), (1, .int x1)] [] h)
  refine l_loc dX13_isSmall_0 rfl rfl ?_
  refine l_loc dX13_isSmall_1 rfl rfl ?_
  refine l_ob fun q1 => ?_
  refine l_cI dX13_isSmall_2 rfl rfl rfl (l_xv cl_12_275 ko_mX13_letter rfl rfl rfl q1) rfl rfl nm_mX13_letter (xhE_th rfl) (fun v3 h2 => ?_)
  refine l_pure dX13_isSmall_5 rfl rfl ?_
  refine l_rd (st1 := [.long (97 : Int64), .long (v3.toInt64)]) dX13_isSmall_6 rfl rfl ?_
  refine l_rd (st1 := [.long (122 : Int64), .long (97 : Int64), .long (v3.toInt64)]) dX13_isSmall_9 rfl rfl ?_
  refine l_cI dX13_isSmall_12 rfl rfl rfl (l_xs cl_12_191 ko_mX13_in rfl rfl) rfl rfl nm_mX13_in (xhE_th rfl) (fun v5 h4 => ?_)
  exact l_iret dX13_isSmall_15 rfl
set_option maxRecDepth 16000 in
theorem w_X13_letter (S : xS) (x0 : Nat) (x1 : Int32) (h : xH) : xle ((xGi h x0 12 13).bind fun v1 => if v1 ≤ x1 then (some (.inl (some (.int (-1 : Int32))), h, 0, 0)) else ((xGr h x0 12 12).bind fun v2 => (xRi h 0 v2 x1).bind fun v3 => some (.inl (some (.int v3)), h, 0, 0))) (xM S mX13_letter [.ref x0, .int x1] h) := by
  show xle _ (xden S mX13_letter 0 [(0, .ref x0), (1, .int x1)] [] h)
  refine l_loc dX13_letter_0 rfl rfl ?_
  refine l_loc dX13_letter_1 rfl rfl ?_
  refine l_gi dX13_letter_2 fl_12_272 (fun v1 => ?_)
  refine l_cge (t := 17) dX13_letter_5 rfl ?_ ?_
  · refine l_ic dX13_letter_17 kI_m1 ?_
    exact l_iretn dX13_letter_18 rfl (by rfl)
  · refine l_loc dX13_letter_8 rfl rfl ?_
    refine l_gr dX13_letter_9 fl_12_30 (fun v2 => ?_)
    refine l_loc dX13_letter_12 rfl rfl ?_
    refine l_ri dX13_letter_13 (fun v3 => ?_)
    refine l_goto (t := 18) dX13_letter_14 rfl ?_
    exact l_iretn dX13_letter_18 rfl (by rfl)
set_option maxRecDepth 16000 in
theorem w_X13_wordOf (S : xS) (x0 : Nat) (x1 : Nat) (x2 : Int32) (x3 : Int32) (h : xH) : xle (xden S mX13_wordOf 9 [(0, .ref x0), (1, .ref x1), (2, .int x2), (3, .int x3), (4, .int (0 : Int32)), (5, .int (0 : Int32)), (6, .int (0 : Int32))] [] h) (xM S mX13_wordOf [.ref x0, .ref x1, .int x2, .int x3] h) := by
  show xle _ (xden S mX13_wordOf 0 [(0, .ref x0), (1, .ref x1), (2, .int x2), (3, .int x3)] [] h)
  refine l_ic dX13_wordOf_0 kI_0 ?_
  refine l_loc (al1 := [(4, .int (0 : Int32)), (0, .ref x0), (1, .ref x1), (2, .int x2), (3, .int x3)]) dX13_wordOf_1 rfl rfl ?_
  refine l_ic dX13_wordOf_3 kI_0 ?_
  refine l_loc (al1 := [(5, .int (0 : Int32)), (4, .int (0 : Int32)), (0, .ref x0), (1, .ref x1), (2, .int x2), (3, .int x3)]) dX13_wordOf_4 rfl rfl ?_
  refine l_ic dX13_wordOf_6 kI_0 ?_
  refine l_loc (al1 := [(6, .int (0 : Int32)), (5, .int (0 : Int32)), (4, .int (0 : Int32)), (0, .ref x0), (1, .ref x1), (2, .int x2), (3, .int x3)]) dX13_wordOf_7 rfl rfl ?_
  exact l_al rfl ⟨rfl, rfl, rfl, rfl, rfl, rfl, rfl, trivial⟩
set_option maxRecDepth 16000 in
theorem w_X13_wordOf_9 (S : xS) (x0 : Nat) (x1 : Nat) (x2 : Int32) (x3 : Int32) (x4 : Int32) (x5 : Int32) (x6 : Int32) (h : xH) : xle ((xRz h x1).bind fun v1 => if v1 ≤ x6 then (some (.inl (some (.int (-1 : Int32))), h, 0, 0)) else ((xRi h 3 x1 x6).bind fun v2 => if ¬ v2 = (59 : Int32) then (xlet (x6 + (1 : Int32)) fun v3 => (xden S mX13_wordOf 9 [(0, .ref x0), (1, .ref x1), (2, .int x2), (3, .int x3), (4, .int x4), (5, .int x5), (6, .int v3)] [] h)) else (if ¬ (x6 - x5) = (x3 - x2) then (xden S mX13_wordOf 46 [(0, .ref x0), (1, .ref x1), (2, .int x2), (3, .int x3), (4, .int x4), (5, .int x5), (6, .int x6), (7, .int (0 : Int32)), (8, .int (0 : Int32))] [] h) else (xden S mX13_wordOf 46 [(0, .ref x0), (1, .ref x1), (2, .int x2), (3, .int x3), (4, .int x4), (5, .int x5), (6, .int x6), (7, .int (1 : Int32)), (8, .int (0 : Int32))] [] h)))) (xden S mX13_wordOf 9 [(0, .ref x0), (1, .ref x1), (2, .int x2), (3, .int x3), (4, .int x4), (5, .int x5), (6, .int x6)] [] h) := by
  refine l_loc dX13_wordOf_9 rfl rfl ?_
  refine l_loc dX13_wordOf_11 rfl rfl ?_
  refine l_ln dX13_wordOf_12 (fun v1 => ?_)
  refine l_cge (t := 114) dX13_wordOf_13 rfl ?_ ?_
  · refine l_ic dX13_wordOf_114 kI_m1 ?_
    exact l_iretn dX13_wordOf_115 rfl (by rfl)
  · refine l_loc dX13_wordOf_16 rfl rfl ?_
    refine l_loc dX13_wordOf_17 rfl rfl ?_
    refine l_rc dX13_wordOf_19 (fun v2 => ?_)
    refine l_bi dX13_wordOf_20 kB_59 ?_
    refine l_cne (t := 108) dX13_wordOf_22 rfl ?_ ?_
    · refine l_incl (al1 := fun v3 => [(6, .int v3), (0, .ref x0), (1, .ref x1), (2, .int x2), (3, .int x3), (4, .int x4), (5, .int x5)]) dX13_wordOf_108 rfl kI_1 rfl (fun _ => rfl) (fun v3 => ?_)
      refine l_goto (t := 9) dX13_wordOf_111 rfl ?_
      exact l_al rfl ⟨rfl, rfl, rfl, rfl, rfl, rfl, rfl, trivial⟩
    · refine l_loc dX13_wordOf_25 rfl rfl ?_
      refine l_loc dX13_wordOf_27 rfl rfl ?_
      refine l_pure dX13_wordOf_29 rfl rfl ?_
      refine l_loc dX13_wordOf_30 rfl rfl ?_
      refine l_loc dX13_wordOf_31 rfl rfl ?_
      refine l_pure dX13_wordOf_32 rfl rfl ?_
      refine l_cne (t := 40) dX13_wordOf_33 rfl ?_ ?_
      · refine l_ic dX13_wordOf_40 kI_0 ?_
        refine l_loc (al1 := [(7, .int (0 : Int32)), (0, .ref x0), (1, .ref x1), (2, .int x2), (3, .int x3), (4, .int x4), (5, .int x5), (6, .int x6)]) dX13_wordOf_41 rfl rfl ?_
        refine l_ic dX13_wordOf_43 kI_0 ?_
        refine l_loc (al1 := [(8, .int (0 : Int32)), (7, .int (0 : Int32)), (0, .ref x0), (1, .ref x1), (2, .int x2), (3, .int x3), (4, .int x4), (5, .int x5), (6, .int x6)]) dX13_wordOf_44 rfl rfl ?_
        exact l_al rfl ⟨rfl, rfl, rfl, rfl, rfl, rfl, rfl, rfl, rfl, trivial⟩
      · refine l_ic dX13_wordOf_36 kI_1 ?_
        refine l_goto (t := 41) dX13_wordOf_37 rfl ?_
        refine l_loc (al1 := [(7, .int (1 : Int32)), (0, .ref x0), (1, .ref x1), (2, .int x2), (3, .int x3), (4, .int x4), (5, .int x5), (6, .int x6)]) dX13_wordOf_41 rfl rfl ?_
        refine l_ic dX13_wordOf_43 kI_0 ?_
        refine l_loc (al1 := [(8, .int (0 : Int32)), (7, .int (1 : Int32)), (0, .ref x0), (1, .ref x1), (2, .int x2), (3, .int x3), (4, .int x4), (5, .int x5), (6, .int x6)]) dX13_wordOf_44 rfl rfl ?_
        exact l_al rfl ⟨rfl, rfl, rfl, rfl, rfl, rfl, rfl, rfl, rfl, trivial⟩
set_option maxRecDepth 16000 in
theorem w_X13_wordOf_46 (S : xS) (x0 : Nat) (x1 : Nat) (x2 : Int32) (x3 : Int32) (x4 : Int32) (x5 : Int32) (x6 : Int32) (x7 : Int32) (x8 : Int32) (h : xH) : xle (if (x3 - x2) ≤ x8 then (if x7 = 0 then (xlet (x4 + (1 : Int32)) fun v1 => xlet (x6 + (1 : Int32)) fun v2 => xlet (x6 + (1 : Int32)) fun v3 => (xden S mX13_wordOf 9 [(0, .ref x0), (1, .ref x1), (2, .int x2), (3, .int x3), (4, .int v1), (5, .int v2), (6, .int v3)] [] h)) else (some (.inl (some (.int x4)), h, 0, 0))) else (if x7 = 0 then (if x7 = 0 then (xlet (x4 + (1 : Int32)) fun v4 => xlet (x6 + (1 : Int32)) fun v5 => xlet (x6 + (1 : Int32)) fun v6 => (xden S mX13_wordOf 9 [(0, .ref x0), (1, .ref x1), (2, .int x2), (3, .int x3), (4, .int v4), (5, .int v5), (6, .int v6)] [] h)) else (some (.inl (some (.int x4)), h, 0, 0))) else ((xRi h 3 x1 (x5 + x8)).bind fun v7 => (xGr h x0 12 12).bind fun v8 => (xRi h 0 v8 (x2 + x8)).bind fun v9 => if ¬ v7 = v9 then (xlet (x8 + (1 : Int32)) fun v10 => (xden S mX13_wordOf 46 [(0, .ref x0), (1, .ref x1), (2, .int x2), (3, .int x3), (4, .int x4), (5, .int x5), (6, .int x6), (7, .int (0 : Int32)), (8, .int v10)] [] h)) else (xlet (x8 + (1 : Int32)) fun v11 => (xden S mX13_wordOf 46 [(0, .ref x0), (1, .ref x1), (2, .int x2), (3, .int x3), (4, .int x4), (5, .int x5), (6, .int x6), (7, .int (1 : Int32)), (8, .int v11)] [] h))))) (xden S mX13_wordOf 46 [(0, .ref x0), (1, .ref x1), (2, .int x2), (3, .int x3), (4, .int x4), (5, .int x5), (6, .int x6), (7, .int x7), (8, .int x8)] [] h) := by
  refine l_loc dX13_wordOf_46 rfl rfl ?_
  refine l_loc dX13_wordOf_48 rfl rfl ?_
  refine l_loc dX13_wordOf_49 rfl rfl ?_
  refine l_pure dX13_wordOf_50 rfl rfl ?_
  refine l_cge (t := 91) dX13_wordOf_51 rfl ?_ ?_
  · refine l_loc dX13_wordOf_91 rfl rfl ?_
    refine l_ieq (t := 99) dX13_wordOf_93 rfl ?_ ?_
    · refine l_incl (al1 := fun v1 => [(4, .int v1), (0, .ref x0), (1, .ref x1), (2, .int x2), (3, .int x3), (5, .int x5), (6, .int x6), (7, .int x7), (8, .int x8)]) dX13_wordOf_99 rfl kI_1 rfl (fun _ => rfl) (fun v1 => ?_)
      refine l_loc dX13_wordOf_102 rfl rfl ?_
      refine l_ic dX13_wordOf_104 kI_1 ?_
      refine l_pure dX13_wordOf_105 rfl rfl ?_
      refine l_isl (al1 := fun v2 => [(5, .int v2), (4, .int v1), (0, .ref x0), (1, .ref x1), (2, .int x2), (3, .int x3), (6, .int x6), (7, .int x7), (8, .int x8)]) dX13_wordOf_106 rfl (fun _ => rfl) (fun v2 => ?_)
      refine l_incl (al1 := fun v3 => [(6, .int v3), (5, .int v2), (4, .int v1), (0, .ref x0), (1, .ref x1), (2, .int x2), (3, .int x3), (7, .int x7), (8, .int x8)]) dX13_wordOf_108 rfl kI_1 rfl (fun _ => rfl) (fun v3 => ?_)
      refine l_goto (t := 9) dX13_wordOf_111 rfl ?_
      exact l_al rfl ⟨rfl, rfl, rfl, rfl, rfl, rfl, rfl, trivial⟩
    · refine l_loc dX13_wordOf_96 rfl rfl ?_
      exact l_iretn dX13_wordOf_98 rfl (by rfl)
  · refine l_loc dX13_wordOf_54 rfl rfl ?_
    refine l_ieq (t := 91) dX13_wordOf_56 rfl ?_ ?_
    · refine l_loc dX13_wordOf_91 rfl rfl ?_
      refine l_ieq (t := 99) dX13_wordOf_93 rfl ?_ ?_
      · refine l_incl (al1 := fun v4 => [(4, .int v4), (0, .ref x0), (1, .ref x1), (2, .int x2), (3, .int x3), (5, .int x5), (6, .int x6), (7, .int x7), (8, .int x8)]) dX13_wordOf_99 rfl kI_1 rfl (fun _ => rfl) (fun v4 => ?_)
        refine l_loc dX13_wordOf_102 rfl rfl ?_
        refine l_ic dX13_wordOf_104 kI_1 ?_
        refine l_pure dX13_wordOf_105 rfl rfl ?_
        refine l_isl (al1 := fun v5 => [(5, .int v5), (4, .int v4), (0, .ref x0), (1, .ref x1), (2, .int x2), (3, .int x3), (6, .int x6), (7, .int x7), (8, .int x8)]) dX13_wordOf_106 rfl (fun _ => rfl) (fun v5 => ?_)
        refine l_incl (al1 := fun v6 => [(6, .int v6), (5, .int v5), (4, .int v4), (0, .ref x0), (1, .ref x1), (2, .int x2), (3, .int x3), (7, .int x7), (8, .int x8)]) dX13_wordOf_108 rfl kI_1 rfl (fun _ => rfl) (fun v6 => ?_)
        refine l_goto (t := 9) dX13_wordOf_111 rfl ?_
        exact l_al rfl ⟨rfl, rfl, rfl, rfl, rfl, rfl, rfl, trivial⟩
      · refine l_loc dX13_wordOf_96 rfl rfl ?_
        exact l_iretn dX13_wordOf_98 rfl (by rfl)
    · refine l_loc dX13_wordOf_59 rfl rfl ?_
      refine l_loc dX13_wordOf_60 rfl rfl ?_
      refine l_loc dX13_wordOf_62 rfl rfl ?_
      refine l_pure dX13_wordOf_64 rfl rfl ?_
      refine l_rc dX13_wordOf_65 (fun v7 => ?_)
      refine l_loc dX13_wordOf_66 rfl rfl ?_
      refine l_gr dX13_wordOf_67 fl_12_30 (fun v8 => ?_)
      refine l_loc dX13_wordOf_70 rfl rfl ?_
      refine l_loc dX13_wordOf_71 rfl rfl ?_
      refine l_pure dX13_wordOf_73 rfl rfl ?_
      refine l_ri dX13_wordOf_74 (fun v9 => ?_)
      refine l_cne (t := 82) dX13_wordOf_75 rfl ?_ ?_
      · refine l_ic dX13_wordOf_82 kI_0 ?_
        refine l_loc (al1 := [(7, .int (0 : Int32)), (0, .ref x0), (1, .ref x1), (2, .int x2), (3, .int x3), (4, .int x4), (5, .int x5), (6, .int x6), (8, .int x8)]) dX13_wordOf_83 rfl rfl ?_
        refine l_incl (al1 := fun v10 => [(8, .int v10), (7, .int (0 : Int32)), (0, .ref x0), (1, .ref x1), (2, .int x2), (3, .int x3), (4, .int x4), (5, .int x5), (6, .int x6)]) dX13_wordOf_85 rfl kI_1 rfl (fun _ => rfl) (fun v10 => ?_)
        refine l_goto (t := 46) dX13_wordOf_88 rfl ?_
        exact l_al rfl ⟨rfl, rfl, rfl, rfl, rfl, rfl, rfl, rfl, rfl, trivial⟩
      · refine l_ic dX13_wordOf_78 kI_1 ?_
        refine l_goto (t := 83) dX13_wordOf_79 rfl ?_
        refine l_loc (al1 := [(7, .int (1 : Int32)), (0, .ref x0), (1, .ref x1), (2, .int x2), (3, .int x3), (4, .int x4), (5, .int x5), (6, .int x6), (8, .int x8)]) dX13_wordOf_83 rfl rfl ?_
        refine l_incl (al1 := fun v11 => [(8, .int v11), (7, .int (1 : Int32)), (0, .ref x0), (1, .ref x1), (2, .int x2), (3, .int x3), (4, .int x4), (5, .int x5), (6, .int x6)]) dX13_wordOf_85 rfl kI_1 rfl (fun _ => rfl) (fun v11 => ?_)
        refine l_goto (t := 46) dX13_wordOf_88 rfl ?_
        exact l_al rfl ⟨rfl, rfl, rfl, rfl, rfl, rfl, rfl, rfl, rfl, trivial⟩
set_option maxRecDepth 16000 in
theorem w_X13_isFigure (S : xS) (x0 : Nat) (x1 : Int32) (h : xH) : xle (if xOb h x0 12 = true then xqI (xM S mX13_letter [.ref x0, .int x1] h) xth fun v3 h2 => xqI (xM S mX13_in [.long (v3.toInt64), .long (48 : Int64), .long (57 : Int64)] h2) xth fun v5 h4 => if narrow .boolean (.int v5) = .int v5 then some (.inl (some (.int v5)), h4, 0, 0) else none else none) (xM S mX13_isFigure [.ref x0, .int x1] h) := by
  show xle _ (xden S mX13_isFigure 0 [(0, .ref x0), (1, .int x1)] [] h)
  refine l_loc dX13_isFigure_0 rfl rfl ?_
  refine l_loc dX13_isFigure_1 rfl rfl ?_
  refine l_ob fun q1 => ?_
  refine l_cI dX13_isFigure_2 rfl rfl rfl (l_xv cl_12_275 ko_mX13_letter rfl rfl rfl q1) rfl rfl nm_mX13_letter (xhE_th rfl) (fun v3 h2 => ?_)
  refine l_pure dX13_isFigure_5 rfl rfl ?_
  refine l_rd (st1 := [.long (48 : Int64), .long (v3.toInt64)]) dX13_isFigure_6 rfl rfl ?_
  refine l_rd (st1 := [.long (57 : Int64), .long (48 : Int64), .long (v3.toInt64)]) dX13_isFigure_9 rfl rfl ?_
  refine l_cI dX13_isFigure_12 rfl rfl rfl (l_xs cl_12_191 ko_mX13_in rfl rfl) rfl rfl nm_mX13_in (xhE_th rfl) (fun v5 h4 => ?_)
  exact l_iret dX13_isFigure_15 rfl
set_option maxRecDepth 16000 in
theorem w_X13_valueOf (S : xS) (x0 : Nat) (x1 : Int32) (x2 : Int32) (x3 : Int32) (h : xH) : xle (xqI (xM S mX13_firstWord [.int x1] h) xth fun v2 h1 => if v2 < 0 then (xqI (xM S mX13_in [.long (x3 - x2).toInt64, .long (1 : Int64), .long (3 : Int64)] h1) xth fun v4 h3 => if ¬ v4 = 0 then (xden S mX13_valueOf 66 [(0, .ref x0), (1, .int x1), (3, .int x3), (5, .int (0 : Int32)), (6, .int x2)] [] h3) else (some (.inl (some (.int (-1 : Int32))), h3, 0, 0))) else ((xGr h1 x0 12 18).bind fun v5 => if xOb h1 x0 12 = true then xqI (xM S mX13_wordOf [.ref x0, .ref v5, .int x2, .int x3] h1) xth fun v8 h7 => xlet (v8 - v2) fun v9 => xqI (xM S mX13_in [.long (v9.toInt64), .long (0 : Int64), .long (1 : Int64)] h7) xth fun v11 h10 => if v11 = 0 then (some (.inl (some (.int (-1 : Int32))), h10, 0, 0)) else (some (.inl (some (.int v9)), h10, 0, 0)) else none)) (xM S mX13_valueOf [.ref x0, .int x1, .int x2, .int x3] h) := by
  show xle _ (xden S mX13_valueOf 0 [(0, .ref x0), (1, .int x1), (2, .int x2), (3, .int x3)] [] h)
  refine l_loc dX13_valueOf_0 rfl rfl ?_
  refine l_cI dX13_valueOf_1 rfl rfl rfl (l_xs cl_12_286 ko_mX13_firstWord rfl rfl) rfl rfl nm_mX13_firstWord (xhE_th rfl) (fun v2 h1 => ?_)
  refine l_loc (al1 := [(4, .int v2), (0, .ref x0), (1, .int x1), (2, .int x2), (3, .int x3)]) dX13_valueOf_4 rfl rfl ?_
  refine l_loc dX13_valueOf_6 rfl rfl ?_
  refine l_ilt (t := 44) dX13_valueOf_8 rfl ?_ ?_
  · refine l_loc dX13_valueOf_44 rfl rfl ?_
    refine l_loc dX13_valueOf_45 rfl rfl ?_
    refine l_pure dX13_valueOf_46 rfl rfl ?_
    refine l_pure dX13_valueOf_47 rfl rfl ?_
    refine l_lc1 dX13_valueOf_48 ?_
    refine l_rd (st1 := [.long (3 : Int64), .long (1 : Int64), .long (x3 - x2).toInt64]) dX13_valueOf_49 rfl rfl ?_
    refine l_cI dX13_valueOf_52 rfl rfl rfl (l_xs cl_12_191 ko_mX13_in rfl rfl) rfl rfl nm_mX13_in (xhE_th rfl) (fun v4 h3 => ?_)
    refine l_ine (t := 60) dX13_valueOf_55 rfl ?_ ?_
    · refine l_ic dX13_valueOf_60 kI_0 ?_
      refine l_loc (al1 := [(5, .int (0 : Int32)), (4, .int v2), (0, .ref x0), (1, .int x1), (2, .int x2), (3, .int x3)]) dX13_valueOf_61 rfl rfl ?_
      refine l_loc dX13_valueOf_63 rfl rfl ?_
      refine l_loc (al1 := [(6, .int x2), (5, .int (0 : Int32)), (4, .int v2), (0, .ref x0), (1, .int x1), (2, .int x2), (3, .int x3)]) dX13_valueOf_64 rfl rfl ?_
      exact l_al rfl ⟨rfl, rfl, rfl, rfl, rfl, trivial⟩
    · refine l_ic dX13_valueOf_58 kI_m1 ?_
      exact l_iretn dX13_valueOf_59 rfl (by rfl)
  · refine l_loc dX13_valueOf_11 rfl rfl ?_
    refine l_loc dX13_valueOf_12 rfl rfl ?_
    refine l_gr dX13_valueOf_13 fl_12_43 (fun v5 => ?_)
    refine l_loc dX13_valueOf_16 rfl rfl ?_
    refine l_loc dX13_valueOf_17 rfl rfl ?_
    refine l_ob fun q6 => ?_
    refine l_cI dX13_valueOf_18 rfl rfl rfl (l_xv cl_12_289 ko_mX13_wordOf rfl rfl rfl q6) rfl rfl nm_mX13_wordOf (xhE_th rfl) (fun v8 h7 => ?_)
    refine l_loc dX13_valueOf_21 rfl rfl ?_
    refine l_pure dX13_valueOf_23 rfl rfl ?_
    refine l_isl (al1 := fun v9 => [(5, .int v9), (4, .int v2), (0, .ref x0), (1, .int x1), (2, .int x2), (3, .int x3)]) dX13_valueOf_24 rfl (fun _ => rfl) (fun v9 => ?_)
    refine l_loc dX13_valueOf_26 rfl rfl ?_
    refine l_pure dX13_valueOf_28 rfl rfl ?_
    refine l_lc0 dX13_valueOf_29 ?_
    refine l_lc1 dX13_valueOf_30 ?_
    refine l_cI dX13_valueOf_31 rfl rfl rfl (l_xs cl_12_191 ko_mX13_in rfl rfl) rfl rfl nm_mX13_in (xhE_th rfl) (fun v11 h10 => ?_)
    refine l_ieq (t := 42) dX13_valueOf_34 rfl ?_ ?_
    · refine l_ic dX13_valueOf_42 kI_m1 ?_
      exact l_iretn dX13_valueOf_43 rfl (by rfl)
    · refine l_loc dX13_valueOf_37 rfl rfl ?_
      refine l_goto (t := 43) dX13_valueOf_39 rfl ?_
      exact l_iretn dX13_valueOf_43 rfl (by rfl)
set_option maxRecDepth 16000 in
theorem w_X13_valueOf_66 (S : xS) (x0 : Nat) (x1 : Int32) (x3 : Int32) (x5 : Int32) (x6 : Int32) (h : xH) : xle (if x3 ≤ x6 then ((xGr h x0 12 19).bind fun v1 => (xRi h 0 v1 x1).bind fun v2 => (xGr h x0 12 20).bind fun v3 => (xRi h 0 v3 x1).bind fun v4 => xqI (xM S mX13_in [.long (x5.toInt64), .long (v2.toInt64), .long (v4.toInt64)] h) xth fun v6 h5 => if v6 = 0 then (some (.inl (some (.int (-1 : Int32))), h5, 0, 0)) else (some (.inl (some (.int x5)), h5, 0, 0))) else (if xOb h x0 12 = true then xqI (xM S mX13_isFigure [.ref x0, .int x6] h) xth fun v9 h8 => if ¬ v9 = 0 then ((xGr h8 x0 12 12).bind fun v10 => (xRi h8 0 v10 x6).bind fun v11 => xlet ((((10 : Int32) * x5) + v11) - (48 : Int32)) fun v12 => xlet (x6 + (1 : Int32)) fun v13 => (xden S mX13_valueOf 66 [(0, .ref x0), (1, .int x1), (3, .int x3), (5, .int v12), (6, .int v13)] [] h8)) else (some (.inl (some (.int (-1 : Int32))), h8, 0, 0)) else none)) (xden S mX13_valueOf 66 [(0, .ref x0), (1, .int x1), (3, .int x3), (5, .int x5), (6, .int x6)] [] h) := by
  refine l_loc dX13_valueOf_66 rfl rfl ?_
  refine l_loc dX13_valueOf_68 rfl rfl ?_
  refine l_cge (t := 107) dX13_valueOf_69 rfl ?_ ?_
  · refine l_loc dX13_valueOf_107 rfl rfl ?_
    refine l_pure dX13_valueOf_109 rfl rfl ?_
    refine l_loc dX13_valueOf_110 rfl rfl ?_
    refine l_gr dX13_valueOf_111 fl_12_46 (fun v1 => ?_)
    refine l_loc dX13_valueOf_114 rfl rfl ?_
    refine l_ri dX13_valueOf_115 (fun v2 => ?_)
    refine l_pure dX13_valueOf_116 rfl rfl ?_
    refine l_loc dX13_valueOf_117 rfl rfl ?_
    refine l_gr dX13_valueOf_118 fl_12_49 (fun v3 => ?_)
    refine l_loc dX13_valueOf_121 rfl rfl ?_
    refine l_ri dX13_valueOf_122 (fun v4 => ?_)
    refine l_pure dX13_valueOf_123 rfl rfl ?_
    refine l_cI dX13_valueOf_124 rfl rfl rfl (l_xs cl_12_191 ko_mX13_in rfl rfl) rfl rfl nm_mX13_in (xhE_th rfl) (fun v6 h5 => ?_)
    refine l_ieq (t := 135) dX13_valueOf_127 rfl ?_ ?_
    · refine l_ic dX13_valueOf_135 kI_m1 ?_
      exact l_iretn dX13_valueOf_136 rfl (by rfl)
    · refine l_loc dX13_valueOf_130 rfl rfl ?_
      refine l_goto (t := 136) dX13_valueOf_132 rfl ?_
      exact l_iretn dX13_valueOf_136 rfl (by rfl)
  · refine l_loc dX13_valueOf_72 rfl rfl ?_
    refine l_loc dX13_valueOf_73 rfl rfl ?_
    refine l_ob fun q7 => ?_
    refine l_cI dX13_valueOf_75 rfl rfl rfl (l_xv cl_12_293 ko_mX13_isFigure rfl rfl rfl q7) rfl rfl nm_mX13_isFigure (xhE_th rfl) (fun v9 h8 => ?_)
    refine l_ine (t := 83) dX13_valueOf_78 rfl ?_ ?_
    · refine l_bi dX13_valueOf_83 kB_10 ?_
      refine l_loc dX13_valueOf_85 rfl rfl ?_
      refine l_pure dX13_valueOf_87 rfl rfl ?_
      refine l_loc dX13_valueOf_88 rfl rfl ?_
      refine l_gr dX13_valueOf_89 fl_12_30 (fun v10 => ?_)
      refine l_loc dX13_valueOf_92 rfl rfl ?_
      refine l_ri dX13_valueOf_94 (fun v11 => ?_)
      refine l_pure dX13_valueOf_95 rfl rfl ?_
      refine l_bi dX13_valueOf_96 kB_48 ?_
      refine l_pure dX13_valueOf_98 rfl rfl ?_
      refine l_isl (al1 := fun v12 => [(5, .int v12), (0, .ref x0), (1, .int x1), (3, .int x3), (6, .int x6)]) dX13_valueOf_99 rfl (fun _ => rfl) (fun v12 => ?_)
      refine l_incl (al1 := fun v13 => [(6, .int v13), (5, .int v12), (0, .ref x0), (1, .int x1), (3, .int x3)]) dX13_valueOf_101 rfl kI_1 rfl (fun _ => rfl) (fun v13 => ?_)
      refine l_goto (t := 66) dX13_valueOf_104 rfl ?_
      exact l_al rfl ⟨rfl, rfl, rfl, rfl, rfl, trivial⟩
    · refine l_ic dX13_valueOf_81 kI_m1 ?_
      exact l_iretn dX13_valueOf_82 rfl (by rfl)
set_option maxRecDepth 16000 in
theorem w_X13_firstWord (S : xS) (x0 : Int32) (h : xH) : xle (if ¬ x0 = (6 : Int32) then (if ¬ x0 = (7 : Int32) then (if ¬ x0 = (9 : Int32) then (some (.inl (some (.int (-1 : Int32))), h, 0, 0)) else (some (.inl (some (.int (4 : Int32))), h, 0, 0))) else (some (.inl (some (.int (2 : Int32))), h, 0, 0))) else (some (.inl (some (.int (0 : Int32))), h, 0, 0))) (xM S mX13_firstWord [.int x0] h) := by
  show xle _ (xden S mX13_firstWord 0 [(0, .int x0)] [] h)
  refine l_loc dX13_firstWord_0 rfl rfl ?_
  refine l_bi dX13_firstWord_1 kB_6 ?_
  refine l_cne (t := 10) dX13_firstWord_3 rfl ?_ ?_
  · refine l_loc dX13_firstWord_10 rfl rfl ?_
    refine l_bi dX13_firstWord_11 kB_7 ?_
    refine l_cne (t := 20) dX13_firstWord_13 rfl ?_ ?_
    · refine l_loc dX13_firstWord_20 rfl rfl ?_
      refine l_bi dX13_firstWord_21 kB_9 ?_
      refine l_cne (t := 30) dX13_firstWord_23 rfl ?_ ?_
      · refine l_ic dX13_firstWord_30 kI_m1 ?_
        exact l_iretn dX13_firstWord_31 rfl (by rfl)
      · refine l_ic dX13_firstWord_26 kI_4 ?_
        refine l_goto (t := 31) dX13_firstWord_27 rfl ?_
        exact l_iretn dX13_firstWord_31 rfl (by rfl)
    · refine l_ic dX13_firstWord_16 kI_2 ?_
      refine l_goto (t := 31) dX13_firstWord_17 rfl ?_
      exact l_iretn dX13_firstWord_31 rfl (by rfl)
  · refine l_ic dX13_firstWord_6 kI_0 ?_
    refine l_goto (t := 31) dX13_firstWord_7 rfl ?_
    exact l_iretn dX13_firstWord_31 rfl (by rfl)
set_option maxRecDepth 16000 in
theorem w_X13_isGiven (S : xS) (x0 : Nat) (x1 : Int32) (h : xH) : xle (xden S mX13_isGiven 4 [(0, .ref x0), (1, .int x1), (2, .int (0 : Int32)), (3, .int (0 : Int32))] [] h) (xM S mX13_isGiven [.ref x0, .int x1] h) := by
  show xle _ (xden S mX13_isGiven 0 [(0, .ref x0), (1, .int x1)] [] h)
  refine l_ic dX13_isGiven_0 kI_0 ?_
  refine l_loc (al1 := [(2, .int (0 : Int32)), (0, .ref x0), (1, .int x1)]) dX13_isGiven_1 rfl rfl ?_
  refine l_ic dX13_isGiven_2 kI_0 ?_
  refine l_loc (al1 := [(3, .int (0 : Int32)), (2, .int (0 : Int32)), (0, .ref x0), (1, .int x1)]) dX13_isGiven_3 rfl rfl ?_
  exact l_al rfl ⟨rfl, rfl, rfl, rfl, trivial⟩
set_option maxRecDepth 16000 in
theorem w_X13_isGiven_4 (S : xS) (x0 : Nat) (x1 : Int32) (x2 : Int32) (x3 : Int32) (h : xH) : xle ((xGi h x0 12 16).bind fun v1 => if v1 ≤ x3 then (if narrow .boolean (.int x2) = .int x2 then some (.inl (some (.int x2)), h, 0, 0) else none) else (if ¬ x2 = 0 then (xlet (x3 + (1 : Int32)) fun v2 => (xden S mX13_isGiven 4 [(0, .ref x0), (1, .int x1), (2, .int (1 : Int32)), (3, .int v2)] [] h)) else ((xGr h x0 12 15).bind fun v3 => (xRi h 0 v3 x3).bind fun v4 => if ¬ v4 = x1 then (xlet (x3 + (1 : Int32)) fun v5 => (xden S mX13_isGiven 4 [(0, .ref x0), (1, .int x1), (2, .int (0 : Int32)), (3, .int v5)] [] h)) else (xlet (x3 + (1 : Int32)) fun v6 => (xden S mX13_isGiven 4 [(0, .ref x0), (1, .int x1), (2, .int (1 : Int32)), (3, .int v6)] [] h))))) (xden S mX13_isGiven 4 [(0, .ref x0), (1, .int x1), (2, .int x2), (3, .int x3)] [] h) := by
  refine l_loc dX13_isGiven_4 rfl rfl ?_
  refine l_loc dX13_isGiven_5 rfl rfl ?_
  refine l_gi dX13_isGiven_6 fl_12_306 (fun v1 => ?_)
  refine l_cge (t := 38) dX13_isGiven_9 rfl ?_ ?_
  · refine l_loc dX13_isGiven_38 rfl rfl ?_
    exact l_iret dX13_isGiven_39 rfl
  · refine l_loc dX13_isGiven_12 rfl rfl ?_
    refine l_ine (t := 26) dX13_isGiven_13 rfl ?_ ?_
    · refine l_ic dX13_isGiven_26 kI_1 ?_
      refine l_goto (t := 31) dX13_isGiven_27 rfl ?_
      refine l_loc (al1 := [(2, .int (1 : Int32)), (0, .ref x0), (1, .int x1), (3, .int x3)]) dX13_isGiven_31 rfl rfl ?_
      refine l_incl (al1 := fun v2 => [(3, .int v2), (2, .int (1 : Int32)), (0, .ref x0), (1, .int x1)]) dX13_isGiven_32 rfl kI_1 rfl (fun _ => rfl) (fun v2 => ?_)
      refine l_goto (t := 4) dX13_isGiven_35 rfl ?_
      exact l_al rfl ⟨rfl, rfl, rfl, rfl, trivial⟩
    · refine l_loc dX13_isGiven_16 rfl rfl ?_
      refine l_gr dX13_isGiven_17 fl_12_36 (fun v3 => ?_)
      refine l_loc dX13_isGiven_20 rfl rfl ?_
      refine l_ri dX13_isGiven_21 (fun v4 => ?_)
      refine l_loc dX13_isGiven_22 rfl rfl ?_
      refine l_cne (t := 30) dX13_isGiven_23 rfl ?_ ?_
      · refine l_ic dX13_isGiven_30 kI_0 ?_
        refine l_loc (al1 := [(2, .int (0 : Int32)), (0, .ref x0), (1, .int x1), (3, .int x3)]) dX13_isGiven_31 rfl rfl ?_
        refine l_incl (al1 := fun v5 => [(3, .int v5), (2, .int (0 : Int32)), (0, .ref x0), (1, .int x1)]) dX13_isGiven_32 rfl kI_1 rfl (fun _ => rfl) (fun v5 => ?_)
        refine l_goto (t := 4) dX13_isGiven_35 rfl ?_
        exact l_al rfl ⟨rfl, rfl, rfl, rfl, trivial⟩
      · refine l_ic dX13_isGiven_26 kI_1 ?_
        refine l_goto (t := 31) dX13_isGiven_27 rfl ?_
        refine l_loc (al1 := [(2, .int (1 : Int32)), (0, .ref x0), (1, .int x1), (3, .int x3)]) dX13_isGiven_31 rfl rfl ?_
        refine l_incl (al1 := fun v6 => [(3, .int v6), (2, .int (1 : Int32)), (0, .ref x0), (1, .int x1)]) dX13_isGiven_32 rfl kI_1 rfl (fun _ => rfl) (fun v6 => ?_)
        refine l_goto (t := 4) dX13_isGiven_35 rfl ?_
        exact l_al rfl ⟨rfl, rfl, rfl, rfl, trivial⟩
set_option maxRecDepth 16000 in
theorem w_X13_setting (S : xS) (x0 : Nat) (x1 : Int32) (h : xH) : xle ((xP false 12 h x0 12 2 (.int (0 : Int32))).bind fun h1 => xqI (xM S mX13_in [.long (x1.toInt64), .long (0 : Int64), .long (9 : Int64)] h1) xth fun v3 h2 => if v3 = 0 then (if xOb h2 x0 12 = true then xqI (xM S mX13_fails [.ref x0, .int (1 : Int32)] h2) xth fun v6 h5 => some (.inl (some (.int v6)), h5, 0, 0) else none) else ((xGr h2 x0 12 14).bind fun v7 => (xRi h2 0 v7 x1).bind fun v8 => some (.inl (some (.int v8)), h2, 0, 0))) (xM S mX13_setting [.ref x0, .int x1] h) := by
  show xle _ (xden S mX13_setting 0 [(0, .ref x0), (1, .int x1)] [] h)
  refine l_loc dX13_setting_0 rfl rfl ?_
  refine l_ic dX13_setting_1 kI_0 ?_
  refine l_pf dX13_setting_2 fl_12_186 (ini := false) nm_mX13_setting (fun h1 => ?_)
  refine l_loc dX13_setting_5 rfl rfl ?_
  refine l_pure dX13_setting_6 rfl rfl ?_
  refine l_lc0 dX13_setting_7 ?_
  refine l_rd (st1 := [.long (9 : Int64), .long (0 : Int64), .long (x1.toInt64)]) dX13_setting_8 rfl rfl ?_
  refine l_cI dX13_setting_11 rfl rfl rfl (l_xs cl_12_191 ko_mX13_in rfl rfl) rfl rfl nm_mX13_in (xhE_th rfl) (fun v3 h2 => ?_)
  refine l_ieq (t := 26) dX13_setting_14 rfl ?_ ?_
  · refine l_loc dX13_setting_26 rfl rfl ?_
    refine l_ic dX13_setting_27 kI_1 ?_
    refine l_ob fun q4 => ?_
    refine l_cI dX13_setting_28 rfl rfl rfl (l_xv cl_12_206 ko_mX13_fails rfl rfl rfl q4) rfl rfl nm_mX13_fails (xhE_th rfl) (fun v6 h5 => ?_)
    exact l_iretn dX13_setting_31 rfl (by rfl)
  · refine l_loc dX13_setting_17 rfl rfl ?_
    refine l_gr dX13_setting_18 fl_12_33 (fun v7 => ?_)
    refine l_loc dX13_setting_21 rfl rfl ?_
    refine l_ri dX13_setting_22 (fun v8 => ?_)
    refine l_goto (t := 31) dX13_setting_23 rfl ?_
    exact l_iretn dX13_setting_31 rfl (by rfl)

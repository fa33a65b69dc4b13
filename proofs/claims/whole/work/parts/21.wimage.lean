/-! ROWS OF METHODS, by program (wip/whole/wp.py, wpemit.py): each method as an expression -/
set_option maxRecDepth 16000 in
theorem w_X4_init (S : xS) (x0 : Nat) (x1 : Int32) (x2 : Int32) (h : xH) : xle (if x0 < h.length then (xP true 4 h x0 4 0 (.int x1)).bind fun h1 => (xP true 4 h1 x0 4 1 (.int x2)).bind fun h2 => xqJ (xM S mX4_below [.int x1] h2) xth fun v4 h3 => (xP true 4 h3 x0 4 2 (.long v4)).bind fun h5 => xNa 1 (.inr (.inl (fun _ => 0))) x2 h5 fun a6 h7 => (xP true 4 h7 x0 4 3 (.ref a6)).bind fun h8 => some (.inl none, h8, 0, 0) else none) (xM S mX4_init [.ref x0, .int x1, .int x2] h) := by
  show xle _ (xden S mX4_init 0 [(0, .ref x0), (1, .int x1), (2, .int x2)] [] h)
  refine l_loc dX4_init_0 rfl rfl ?_
  refine l_obi dX4_init_1 rfl rfl rfl ?_
  refine l_loc dX4_init_4 rfl rfl ?_
  refine l_loc dX4_init_5 rfl rfl ?_
  refine l_pf dX4_init_6 fl_4_7 (ini := true) nm_mX4_init (fun h1 => ?_)
  refine l_loc dX4_init_9 rfl rfl ?_
  refine l_loc dX4_init_10 rfl rfl ?_
  refine l_pf dX4_init_11 fl_4_13 (ini := true) nm_mX4_init (fun h2 => ?_)
  refine l_loc dX4_init_14 rfl rfl ?_
  refine l_loc dX4_init_15 rfl rfl ?_
  refine l_cJ dX4_init_16 rfl rfl rfl (l_xs cl_4_16 ko_mX4_below rfl rfl) rfl rfl nm_mX4_below (xhE_th rfl) (fun v4 h3 => ?_)
  refine l_pf dX4_init_19 fl_4_20 (ini := true) nm_mX4_init (fun h5 => ?_)
  refine l_loc dX4_init_22 rfl rfl ?_
  refine l_loc dX4_init_23 rfl rfl ?_
  refine l_nl dX4_init_24 (fun a6 h7 => ?_)
  refine l_pf dX4_init_26 fl_4_24 (ini := true) nm_mX4_init (fun h8 => ?_)
  exact l_end dX4_init_29 rfl rfl
set_option maxRecDepth 16000 in
theorem w_X4_below (S : xS) (x0 : Int32) (h : xH) : xle (if 0 < x0 then (if x0 < (64 : Int32) then (some (.inl (some (.long (((1 : Int64) <<< (x0.toInt64 &&& 63)) - (1 : Int64)))), h, 0, 0)) else (some (.inl (some (.long (-1 : Int64))), h, 0, 0))) else (some (.inl (some (.long (0 : Int64))), h, 0, 0))) (xM S mX4_below [.int x0] h) := by
  show xle _ (xden S mX4_below 0 [(0, .int x0)] [] h)
  refine l_loc dX4_below_0 rfl rfl ?_
  refine l_igt (t := 6) dX4_below_1 rfl ?_ ?_
  · refine l_loc dX4_below_6 rfl rfl ?_
    refine l_bi dX4_below_7 kB_64 ?_
    refine l_clt (t := 18) dX4_below_9 rfl ?_ ?_
    · refine l_lc1 dX4_below_18 ?_
      refine l_loc dX4_below_19 rfl rfl ?_
      refine l_pure dX4_below_20 rfl rfl ?_
      refine l_lc1 dX4_below_21 ?_
      refine l_pure dX4_below_22 rfl rfl ?_
      exact l_end dX4_below_23 rfl rfl
    · refine l_rd (st1 := [.long (-1 : Int64)]) dX4_below_12 rfl rfl ?_
      refine l_goto (t := 23) dX4_below_15 rfl ?_
      exact l_end dX4_below_23 rfl rfl
  · refine l_lc0 dX4_below_4 ?_
    exact l_end dX4_below_5 rfl rfl
set_option maxRecDepth 16000 in
theorem w_X3_init (S : xS) (x0 : Nat) (x1 : Int32) (x2 : Int32) (h : xH) : xle (if x0 < h.length then xNa 4 (.inr (.inr (.inr (.inr (fun _ => none))))) (8 : Int32) h fun a1 h2 => (xP true 3 h2 x0 3 0 (.ref a1)).bind fun h3 => xNa 0 (.inl (fun _ => 0)) (8 : Int32) h3 fun a4 h5 => (xP true 3 h5 x0 3 1 (.ref a4)).bind fun h6 => (xden S mX3_init 23 [(0, .ref x0), (1, .int x1), (2, .int x2), (3, .int (0 : Int32))] [] h6) else none) (xM S mX3_init [.ref x0, .int x1, .int x2] h) := by
  show xle _ (xden S mX3_init 0 [(0, .ref x0), (1, .int x1), (2, .int x2)] [] h)
  refine l_loc dX3_init_0 rfl rfl ?_
  refine l_obi dX3_init_1 rfl rfl rfl ?_
  refine l_loc dX3_init_4 rfl rfl ?_
  refine l_bi dX3_init_5 kB_8 ?_
  refine l_na (t := 4) dX3_init_7 rfl (fun a1 h2 => ?_)
  refine l_pf dX3_init_10 fl_3_11 (ini := true) nm_mX3_init (fun h3 => ?_)
  refine l_loc dX3_init_13 rfl rfl ?_
  refine l_bi dX3_init_14 kB_8 ?_
  refine l_ni dX3_init_16 (fun a4 h5 => ?_)
  refine l_pf dX3_init_18 fl_3_17 (ini := true) nm_mX3_init (fun h6 => ?_)
  refine l_ic dX3_init_21 kI_0 ?_
  refine l_loc (al1 := [(3, .int (0 : Int32)), (0, .ref x0), (1, .int x1), (2, .int x2)]) dX3_init_22 rfl rfl ?_
  exact l_al rfl ⟨rfl, rfl, rfl, rfl, trivial⟩
set_option maxRecDepth 16000 in
theorem w_X3_init_23 (S : xS) (x0 : Nat) (x1 : Int32) (x2 : Int32) (x3 : Int32) (h : xH) : xle (if (8 : Int32) ≤ x3 then (some (.inl none, h, 0, 0)) else ((xGr h x0 3 0).bind fun v1 => xNo 4 h fun a2 h3 => xqC (xM S mX4_init [.ref a2, .int x1, .int x2] h3) fun h4 => (xWr h4 v1 x3 a2).bind fun h5 => xlet (x3 + (1 : Int32)) fun v6 => (xden S mX3_init 23 [(0, .ref x0), (1, .int x1), (2, .int x2), (3, .int v6)] [] h5))) (xden S mX3_init 23 [(0, .ref x0), (1, .int x1), (2, .int x2), (3, .int x3)] [] h) := by
  refine l_loc dX3_init_23 rfl rfl ?_
  refine l_bi dX3_init_24 kB_8 ?_
  refine l_cge (t := 50) dX3_init_26 rfl ?_ ?_
  · exact l_end dX3_init_50 rfl rfl
  · refine l_loc dX3_init_29 rfl rfl ?_
    refine l_gr dX3_init_30 fl_3_11 (fun v1 => ?_)
    refine l_loc dX3_init_33 rfl rfl ?_
    refine l_new (c := 4) dX3_init_34 rfl (fun a2 h3 _ _ => ?_)
    refine l_pure dX3_init_37 rfl rfl ?_
    refine l_loc dX3_init_38 rfl rfl ?_
    refine l_loc dX3_init_39 rfl rfl ?_
    refine l_cC dX3_init_40 rfl rfl rfl (l_xi cl_3_21 ko_mX4_init rfl rfl rfl) rfl rfl (fun h4 => ?_)
    refine l_wa dX3_init_43 (fun h5 => ?_)
    refine l_incl (al1 := fun v6 => [(3, .int v6), (0, .ref x0), (1, .int x1), (2, .int x2)]) dX3_init_44 rfl kI_1 rfl (fun _ => rfl) (fun v6 => ?_)
    refine l_goto (t := 23) dX3_init_47 rfl ?_
    exact l_al rfl ⟨rfl, rfl, rfl, rfl, trivial⟩
set_option maxRecDepth 16000 in
theorem w_X4_paint (S : xS) (x0 : Nat) (x1 : Int64) (x3 : Int64) (x5 : Int32) (x6 : Int32) (x7 : Int32) (h : xH) : xle (if xOb h x0 4 = true then xqJ (xM S mX4_span [.ref x0, .long x1, .int x5] h) xth fun v3 h2 => (xGi h2 x0 4 1).bind fun v4 => xqI (xM S mX4_clipped [.long (x3 + (x6.toInt64)), .int v4] h2) xth fun v6 h5 => (xGi h5 x0 4 1).bind fun v7 => xqI (xM S mX4_clipped [.long x3, .int v7] h5) xth fun v9 h8 => (xden S mX4_paint 33 [(0, .ref x0), (7, .int x7), (8, .long v3), (10, .int v6), (11, .int v9)] [] h8) else none) (xM S mX4_paint [.ref x0, .long x1, .long x3, .int x5, .int x6, .int x7] h) := by
  show xle _ (xden S mX4_paint 0 [(0, .ref x0), (1, .long x1), (3, .long x3), (5, .int x5), (6, .int x6), (7, .int x7)] [] h)
  refine l_loc dX4_paint_0 rfl rfl ?_
  refine l_loc dX4_paint_1 rfl rfl ?_
  refine l_loc dX4_paint_2 rfl rfl ?_
  refine l_ob fun q1 => ?_
  refine l_cJ dX4_paint_4 rfl rfl rfl (l_xv cl_4_47 ko_mX4_span rfl rfl rfl q1) rfl rfl nm_mX4_span (xhE_th rfl) (fun v3 h2 => ?_)
  refine l_loc (al1 := [(8, .long v3), (0, .ref x0), (1, .long x1), (3, .long x3), (5, .int x5), (6, .int x6), (7, .int x7)]) dX4_paint_7 rfl rfl ?_
  refine l_loc dX4_paint_9 rfl rfl ?_
  refine l_loc dX4_paint_10 rfl rfl ?_
  refine l_pure dX4_paint_12 rfl rfl ?_
  refine l_pure dX4_paint_13 rfl rfl ?_
  refine l_loc dX4_paint_14 rfl rfl ?_
  refine l_gi dX4_paint_15 fl_4_13 (fun v4 => ?_)
  refine l_cI dX4_paint_18 rfl rfl rfl (l_xs cl_4_43 ko_mX4_clipped rfl rfl) rfl rfl nm_mX4_clipped (xhE_th rfl) (fun v6 h5 => ?_)
  refine l_loc (al1 := [(10, .int v6), (8, .long v3), (0, .ref x0), (1, .long x1), (3, .long x3), (5, .int x5), (6, .int x6), (7, .int x7)]) dX4_paint_21 rfl rfl ?_
  refine l_loc dX4_paint_23 rfl rfl ?_
  refine l_loc dX4_paint_24 rfl rfl ?_
  refine l_gi dX4_paint_25 fl_4_13 (fun v7 => ?_)
  refine l_cI dX4_paint_28 rfl rfl rfl (l_xs cl_4_43 ko_mX4_clipped rfl rfl) rfl rfl nm_mX4_clipped (xhE_th rfl) (fun v9 h8 => ?_)
  refine l_loc (al1 := [(11, .int v9), (10, .int v6), (8, .long v3), (0, .ref x0), (1, .long x1), (3, .long x3), (5, .int x5), (6, .int x6), (7, .int x7)]) dX4_paint_31 rfl rfl ?_
  exact l_al rfl ⟨rfl, rfl, rfl, rfl, rfl, trivial⟩
set_option maxRecDepth 16000 in
theorem w_X4_paint_33 (S : xS) (x0 : Nat) (x7 : Int32) (x8 : Int64) (x10 : Int32) (x11 : Int32) (h : xH) : xle (if x10 ≤ x11 then (some (.inl none, h, 0, 0)) else (if x7 = 0 then (if xOb h x0 4 = true then xqJ (xM S mX4_rowAt [.ref x0, .int x11] h) xth fun v3 h2 => if xOb h2 x0 4 = true then xqV (xM S mX4_putRow [.ref x0, .int x11, .long (v3 &&& (x8 ^^^ (-1 : Int64)))] h2) xth fun h5 => xlet (x11 + (1 : Int32)) fun v7 => (xden S mX4_paint 33 [(0, .ref x0), (7, .int x7), (8, .long x8), (10, .int x10), (11, .int v7)] [] h5) else none else none) else (if xOb h x0 4 = true then xqJ (xM S mX4_rowAt [.ref x0, .int x11] h) xth fun v10 h9 => if xOb h9 x0 4 = true then xqV (xM S mX4_putRow [.ref x0, .int x11, .long (v10 ||| x8)] h9) xth fun h12 => xlet (x11 + (1 : Int32)) fun v14 => (xden S mX4_paint 33 [(0, .ref x0), (7, .int x7), (8, .long x8), (10, .int x10), (11, .int v14)] [] h12) else none else none))) (xden S mX4_paint 33 [(0, .ref x0), (7, .int x7), (8, .long x8), (10, .int x10), (11, .int x11)] [] h) := by
  refine l_loc dX4_paint_33 rfl rfl ?_
  refine l_loc dX4_paint_35 rfl rfl ?_
  refine l_cge (t := 82) dX4_paint_37 rfl ?_ ?_
  · exact l_end dX4_paint_82 rfl rfl
  · refine l_loc dX4_paint_40 rfl rfl ?_
    refine l_loc dX4_paint_41 rfl rfl ?_
    refine l_loc dX4_paint_43 rfl rfl ?_
    refine l_ieq (t := 60) dX4_paint_45 rfl ?_ ?_
    · refine l_loc dX4_paint_60 rfl rfl ?_
      refine l_loc dX4_paint_61 rfl rfl ?_
      refine l_ob fun q1 => ?_
      refine l_cJ dX4_paint_63 rfl rfl rfl (l_xv cl_4_30 ko_mX4_rowAt rfl rfl rfl q1) rfl rfl nm_mX4_rowAt (xhE_th rfl) (fun v3 h2 => ?_)
      refine l_loc dX4_paint_66 rfl rfl ?_
      refine l_rd (st1 := [.long (-1 : Int64), .long x8, .long v3, .int x11, .ref x0]) dX4_paint_68 rfl rfl ?_
      refine l_pure dX4_paint_71 rfl rfl ?_
      refine l_pure dX4_paint_72 rfl rfl ?_
      refine l_ob fun q4 => ?_
      refine l_cV dX4_paint_73 rfl rfl rfl (l_xv cl_4_33 ko_mX4_putRow rfl rfl rfl q4) rfl rfl nm_mX4_putRow (xhE_th rfl) (fun h5 => ?_)
      refine l_incl (al1 := fun v7 => [(11, .int v7), (0, .ref x0), (7, .int x7), (8, .long x8), (10, .int x10)]) dX4_paint_76 rfl kI_1 rfl (fun _ => rfl) (fun v7 => ?_)
      refine l_goto (t := 33) dX4_paint_79 rfl ?_
      exact l_al rfl ⟨rfl, rfl, rfl, rfl, rfl, trivial⟩
    · refine l_loc dX4_paint_48 rfl rfl ?_
      refine l_loc dX4_paint_49 rfl rfl ?_
      refine l_ob fun q8 => ?_
      refine l_cJ dX4_paint_51 rfl rfl rfl (l_xv cl_4_30 ko_mX4_rowAt rfl rfl rfl q8) rfl rfl nm_mX4_rowAt (xhE_th rfl) (fun v10 h9 => ?_)
      refine l_loc dX4_paint_54 rfl rfl ?_
      refine l_pure dX4_paint_56 rfl rfl ?_
      refine l_goto (t := 73) dX4_paint_57 rfl ?_
      refine l_ob fun q11 => ?_
      refine l_cV dX4_paint_73 rfl rfl rfl (l_xv cl_4_33 ko_mX4_putRow rfl rfl rfl q11) rfl rfl nm_mX4_putRow (xhE_th rfl) (fun h12 => ?_)
      refine l_incl (al1 := fun v14 => [(11, .int v14), (0, .ref x0), (7, .int x7), (8, .long x8), (10, .int x10)]) dX4_paint_76 rfl kI_1 rfl (fun _ => rfl) (fun v14 => ?_)
      refine l_goto (t := 33) dX4_paint_79 rfl ?_
      exact l_al rfl ⟨rfl, rfl, rfl, rfl, rfl, trivial⟩
set_option maxRecDepth 16000 in
theorem w_X4_span (S : xS) (x0 : Nat) (x1 : Int64) (x3 : Int32) (h : xH) : xle ((xGi h x0 4 0).bind fun v1 => xqI (xM S mX4_clipped [.long (x1 + (x3.toInt64)), .int v1] h) xth fun v3 h2 => xqJ (xM S mX4_below [.int v3] h2) xth fun v5 h4 => (xGi h4 x0 4 0).bind fun v6 => xqI (xM S mX4_clipped [.long x1, .int v6] h4) xth fun v8 h7 => xqJ (xM S mX4_below [.int v8] h7) xth fun v10 h9 => some (.inl (some (.long (v5 &&& (v10 ^^^ (-1 : Int64))))), h9, 0, 0)) (xM S mX4_span [.ref x0, .long x1, .int x3] h) := by
  show xle _ (xden S mX4_span 0 [(0, .ref x0), (1, .long x1), (3, .int x3)] [] h)
  refine l_loc dX4_span_0 rfl rfl ?_
  refine l_loc dX4_span_1 rfl rfl ?_
  refine l_pure dX4_span_2 rfl rfl ?_
  refine l_pure dX4_span_3 rfl rfl ?_
  refine l_loc dX4_span_4 rfl rfl ?_
  refine l_gi dX4_span_5 fl_4_7 (fun v1 => ?_)
  refine l_cI dX4_span_8 rfl rfl rfl (l_xs cl_4_43 ko_mX4_clipped rfl rfl) rfl rfl nm_mX4_clipped (xhE_th rfl) (fun v3 h2 => ?_)
  refine l_cJ dX4_span_11 rfl rfl rfl (l_xs cl_4_16 ko_mX4_below rfl rfl) rfl rfl nm_mX4_below (xhE_th rfl) (fun v5 h4 => ?_)
  refine l_loc dX4_span_14 rfl rfl ?_
  refine l_loc dX4_span_15 rfl rfl ?_
  refine l_gi dX4_span_16 fl_4_7 (fun v6 => ?_)
  refine l_cI dX4_span_19 rfl rfl rfl (l_xs cl_4_43 ko_mX4_clipped rfl rfl) rfl rfl nm_mX4_clipped (xhE_th rfl) (fun v8 h7 => ?_)
  refine l_cJ dX4_span_22 rfl rfl rfl (l_xs cl_4_16 ko_mX4_below rfl rfl) rfl rfl nm_mX4_below (xhE_th rfl) (fun v10 h9 => ?_)
  refine l_rd (st1 := [.long (-1 : Int64), .long v10, .long v5]) dX4_span_25 rfl rfl ?_
  refine l_pure dX4_span_28 rfl rfl ?_
  refine l_pure dX4_span_29 rfl rfl ?_
  exact l_end dX4_span_30 rfl rfl
set_option maxRecDepth 16000 in
theorem w_X4_clipped (S : xS) (x0 : Int64) (x2 : Int32) (h : xH) : xle (if 0 ≤ (lg_cmp x0 (0 : Int64)) then (if (lg_cmp x0 (x2.toInt64)) ≤ 0 then (some (.inl (some (.int (x0.toInt32))), h, 0, 0)) else (some (.inl (some (.int x2)), h, 0, 0))) else (some (.inl (some (.int (0 : Int32))), h, 0, 0))) (xM S mX4_clipped [.long x0, .int x2] h) := by
  show xle _ (xden S mX4_clipped 0 [(0, .long x0), (2, .int x2)] [] h)
  refine l_loc dX4_clipped_0 rfl rfl ?_
  refine l_lc0 dX4_clipped_1 ?_
  refine l_pure dX4_clipped_2 rfl rfl ?_
  refine l_ige (t := 8) dX4_clipped_3 rfl ?_ ?_
  · refine l_loc dX4_clipped_8 rfl rfl ?_
    refine l_loc dX4_clipped_9 rfl rfl ?_
    refine l_pure dX4_clipped_10 rfl rfl ?_
    refine l_pure dX4_clipped_11 rfl rfl ?_
    refine l_ile (t := 19) dX4_clipped_12 rfl ?_ ?_
    · refine l_loc dX4_clipped_19 rfl rfl ?_
      refine l_pure dX4_clipped_20 rfl rfl ?_
      exact l_iretn dX4_clipped_21 rfl (by rfl)
    · refine l_loc dX4_clipped_15 rfl rfl ?_
      refine l_goto (t := 21) dX4_clipped_16 rfl ?_
      exact l_iretn dX4_clipped_21 rfl (by rfl)
  · refine l_ic dX4_clipped_6 kI_0 ?_
    exact l_iretn dX4_clipped_7 rfl (by rfl)
set_option maxRecDepth 16000 in
theorem w_X4_rowAt (S : xS) (x0 : Nat) (x1 : Int32) (h : xH) : xle (if x1 < 0 then (some (.inl (some (.long (0 : Int64))), h, 0, 0)) else ((xGr h x0 4 3).bind fun v1 => (xRz h v1).bind fun v2 => if v2 ≤ x1 then (some (.inl (some (.long (0 : Int64))), h, 0, 0)) else ((xGr h x0 4 3).bind fun v3 => (xRl h v3 x1).bind fun v4 => some (.inl (some (.long v4)), h, 0, 0)))) (xM S mX4_rowAt [.ref x0, .int x1] h) := by
  show xle _ (xden S mX4_rowAt 0 [(0, .ref x0), (1, .int x1)] [] h)
  refine l_loc dX4_rowAt_0 rfl rfl ?_
  refine l_ilt (t := 22) dX4_rowAt_1 rfl ?_ ?_
  · refine l_lc0 dX4_rowAt_22 ?_
    exact l_end dX4_rowAt_23 rfl rfl
  · refine l_loc dX4_rowAt_4 rfl rfl ?_
    refine l_loc dX4_rowAt_5 rfl rfl ?_
    refine l_gr dX4_rowAt_6 fl_4_24 (fun v1 => ?_)
    refine l_ln dX4_rowAt_9 (fun v2 => ?_)
    refine l_cge (t := 22) dX4_rowAt_10 rfl ?_ ?_
    · refine l_lc0 dX4_rowAt_22 ?_
      exact l_end dX4_rowAt_23 rfl rfl
    · refine l_loc dX4_rowAt_13 rfl rfl ?_
      refine l_gr dX4_rowAt_14 fl_4_24 (fun v3 => ?_)
      refine l_loc dX4_rowAt_17 rfl rfl ?_
      refine l_rl dX4_rowAt_18 (fun v4 => ?_)
      refine l_goto (t := 23) dX4_rowAt_19 rfl ?_
      exact l_end dX4_rowAt_23 rfl rfl
set_option maxRecDepth 16000 in
theorem w_X4_putRow (S : xS) (x0 : Nat) (x1 : Int32) (x2 : Int64) (h : xH) : xle (if x1 < 0 then (some (.inl none, h, 0, 0)) else ((xGr h x0 4 3).bind fun v1 => (xRz h v1).bind fun v2 => if v2 ≤ x1 then (some (.inl none, h, 0, 0)) else ((xGr h x0 4 3).bind fun v3 => (xGl h x0 4 2).bind fun v4 => (xWl h v3 x1 (x2 &&& v4)).bind fun h5 => some (.inl none, h5, 0, 0)))) (xM S mX4_putRow [.ref x0, .int x1, .long x2] h) := by
  show xle _ (xden S mX4_putRow 0 [(0, .ref x0), (1, .int x1), (2, .long x2)] [] h)
  refine l_loc dX4_putRow_0 rfl rfl ?_
  refine l_ilt (t := 25) dX4_putRow_1 rfl ?_ ?_
  · exact l_end dX4_putRow_25 rfl rfl
  · refine l_loc dX4_putRow_4 rfl rfl ?_
    refine l_loc dX4_putRow_5 rfl rfl ?_
    refine l_gr dX4_putRow_6 fl_4_24 (fun v1 => ?_)
    refine l_ln dX4_putRow_9 (fun v2 => ?_)
    refine l_cge (t := 25) dX4_putRow_10 rfl ?_ ?_
    · exact l_end dX4_putRow_25 rfl rfl
    · refine l_loc dX4_putRow_13 rfl rfl ?_
      refine l_gr dX4_putRow_14 fl_4_24 (fun v3 => ?_)
      refine l_loc dX4_putRow_17 rfl rfl ?_
      refine l_loc dX4_putRow_18 rfl rfl ?_
      refine l_loc dX4_putRow_19 rfl rfl ?_
      refine l_gl dX4_putRow_20 fl_4_20 (fun v4 => ?_)
      refine l_pure dX4_putRow_23 rfl rfl ?_
      refine l_wl dX4_putRow_24 (fun h5 => ?_)
      exact l_end dX4_putRow_25 rfl rfl
theorem w_X4_takeFrom (S : xS) (x0 : Nat) (x1 : Nat) (h : xH) : xle (xden S mX4_takeFrom 2 [(0, .ref x0), (1, .ref x1), (2, .int (0 : Int32))] [] h) (xM S mX4_takeFrom [.ref x0, .ref x1] h) := by
  show xle _ (xden S mX4_takeFrom 0 [(0, .ref x0), (1, .ref x1)] [] h)
  refine l_ic dX4_takeFrom_0 kI_0 ?_
  refine l_loc (al1 := [(2, .int (0 : Int32)), (0, .ref x0), (1, .ref x1)]) dX4_takeFrom_1 rfl rfl ?_
  exact l_al rfl ⟨rfl, rfl, rfl, trivial⟩
set_option maxRecDepth 16000 in
theorem w_X4_takeFrom_2 (S : xS) (x0 : Nat) (x1 : Nat) (x2 : Int32) (h : xH) : xle ((xGi h x0 4 1).bind fun v1 => if v1 ≤ x2 then (some (.inl none, h, 0, 0)) else (if xOb h x1 4 = true then xqJ (xM S mX4_rowAt [.ref x1, .int x2] h) xth fun v4 h3 => if xOb h3 x0 4 = true then xqV (xM S mX4_putRow [.ref x0, .int x2, .long v4] h3) xth fun h6 => xlet (x2 + (1 : Int32)) fun v8 => (xden S mX4_takeFrom 2 [(0, .ref x0), (1, .ref x1), (2, .int v8)] [] h6) else none else none)) (xden S mX4_takeFrom 2 [(0, .ref x0), (1, .ref x1), (2, .int x2)] [] h) := by
  refine l_loc dX4_takeFrom_2 rfl rfl ?_
  refine l_loc dX4_takeFrom_3 rfl rfl ?_
  refine l_gi dX4_takeFrom_4 fl_4_13 (fun v1 => ?_)
  refine l_cge (t := 26) dX4_takeFrom_7 rfl ?_ ?_
  · exact l_end dX4_takeFrom_26 rfl rfl
  · refine l_loc dX4_takeFrom_10 rfl rfl ?_
    refine l_loc dX4_takeFrom_11 rfl rfl ?_
    refine l_loc dX4_takeFrom_12 rfl rfl ?_
    refine l_loc dX4_takeFrom_13 rfl rfl ?_
    refine l_ob fun q2 => ?_
    refine l_cJ dX4_takeFrom_14 rfl rfl rfl (l_xv cl_4_30 ko_mX4_rowAt rfl rfl rfl q2) rfl rfl nm_mX4_rowAt (xhE_th rfl) (fun v4 h3 => ?_)
    refine l_ob fun q5 => ?_
    refine l_cV dX4_takeFrom_17 rfl rfl rfl (l_xv cl_4_33 ko_mX4_putRow rfl rfl rfl q5) rfl rfl nm_mX4_putRow (xhE_th rfl) (fun h6 => ?_)
    refine l_incl (al1 := fun v8 => [(2, .int v8), (0, .ref x0), (1, .ref x1)]) dX4_takeFrom_20 rfl kI_1 rfl (fun _ => rfl) (fun v8 => ?_)
    refine l_goto (t := 2) dX4_takeFrom_23 rfl ?_
    exact l_al rfl ⟨rfl, rfl, rfl, trivial⟩
set_option maxRecDepth 16000 in
theorem w_X4_inkWithin (S : xS) (x0 : Nat) (x1 : Int64) (x3 : Int64) (x5 : Int32) (x6 : Int32) (h : xH) : xle (if xOb h x0 4 = true then xqJ (xM S mX4_span [.ref x0, .long x1, .int x5] h) xth fun v3 h2 => (xGi h2 x0 4 1).bind fun v4 => xqI (xM S mX4_clipped [.long (x3 + (x6.toInt64)), .int v4] h2) xth fun v6 h5 => (xGi h5 x0 4 1).bind fun v7 => xqI (xM S mX4_clipped [.long x3, .int v7] h5) xth fun v9 h8 => (xden S mX4_inkWithin 36 [(0, .ref x0), (7, .long v3), (9, .int v6), (10, .int (0 : Int32)), (11, .int v9)] [] h8) else none) (xM S mX4_inkWithin [.ref x0, .long x1, .long x3, .int x5, .int x6] h) := by
  show xle _ (xden S mX4_inkWithin 0 [(0, .ref x0), (1, .long x1), (3, .long x3), (5, .int x5), (6, .int x6)] [] h)
  refine l_loc dX4_inkWithin_0 rfl rfl ?_
  refine l_loc dX4_inkWithin_1 rfl rfl ?_
  refine l_loc dX4_inkWithin_2 rfl rfl ?_
  refine l_ob fun q1 => ?_
  refine l_cJ dX4_inkWithin_4 rfl rfl rfl (l_xv cl_4_47 ko_mX4_span rfl rfl rfl q1) rfl rfl nm_mX4_span (xhE_th rfl) (fun v3 h2 => ?_)
  refine l_loc (al1 := [(7, .long v3), (0, .ref x0), (1, .long x1), (3, .long x3), (5, .int x5), (6, .int x6)]) dX4_inkWithin_7 rfl rfl ?_
  refine l_loc dX4_inkWithin_9 rfl rfl ?_
  refine l_loc dX4_inkWithin_10 rfl rfl ?_
  refine l_pure dX4_inkWithin_12 rfl rfl ?_
  refine l_pure dX4_inkWithin_13 rfl rfl ?_
  refine l_loc dX4_inkWithin_14 rfl rfl ?_
  refine l_gi dX4_inkWithin_15 fl_4_13 (fun v4 => ?_)
  refine l_cI dX4_inkWithin_18 rfl rfl rfl (l_xs cl_4_43 ko_mX4_clipped rfl rfl) rfl rfl nm_mX4_clipped (xhE_th rfl) (fun v6 h5 => ?_)
  refine l_loc (al1 := [(9, .int v6), (7, .long v3), (0, .ref x0), (1, .long x1), (3, .long x3), (5, .int x5), (6, .int x6)]) dX4_inkWithin_21 rfl rfl ?_
  refine l_ic dX4_inkWithin_23 kI_0 ?_
  refine l_loc (al1 := [(10, .int (0 : Int32)), (9, .int v6), (7, .long v3), (0, .ref x0), (1, .long x1), (3, .long x3), (5, .int x5), (6, .int x6)]) dX4_inkWithin_24 rfl rfl ?_
  refine l_loc dX4_inkWithin_26 rfl rfl ?_
  refine l_loc dX4_inkWithin_27 rfl rfl ?_
  refine l_gi dX4_inkWithin_28 fl_4_13 (fun v7 => ?_)
  refine l_cI dX4_inkWithin_31 rfl rfl rfl (l_xs cl_4_43 ko_mX4_clipped rfl rfl) rfl rfl nm_mX4_clipped (xhE_th rfl) (fun v9 h8 => ?_)
  refine l_loc (al1 := [(11, .int v9), (10, .int (0 : Int32)), (9, .int v6), (7, .long v3), (0, .ref x0), (1, .long x1), (3, .long x3), (5, .int x5), (6, .int x6)]) dX4_inkWithin_34 rfl rfl ?_
  exact l_al rfl ⟨rfl, rfl, rfl, rfl, rfl, trivial⟩
set_option maxRecDepth 16000 in
theorem w_X4_inkWithin_36 (S : xS) (x0 : Nat) (x7 : Int64) (x9 : Int32) (x10 : Int32) (x11 : Int32) (h : xH) : xle (if x9 ≤ x11 then (some (.inl (some (.int x10)), h, 0, 0)) else (if xOb h x0 4 = true then xqJ (xM S mX4_rowAt [.ref x0, .int x11] h) xth fun v3 h2 => xqI (xM S mJ13_bitCount_95d88 [.long (v3 &&& x7)] h2) xth fun v5 h4 => xlet (x10 + v5) fun v6 => xlet (x11 + (1 : Int32)) fun v7 => (xden S mX4_inkWithin 36 [(0, .ref x0), (7, .long x7), (9, .int x9), (10, .int v6), (11, .int v7)] [] h4) else none)) (xden S mX4_inkWithin 36 [(0, .ref x0), (7, .long x7), (9, .int x9), (10, .int x10), (11, .int x11)] [] h) := by
  refine l_loc dX4_inkWithin_36 rfl rfl ?_
  refine l_loc dX4_inkWithin_38 rfl rfl ?_
  refine l_cge (t := 66) dX4_inkWithin_40 rfl ?_ ?_
  · refine l_loc dX4_inkWithin_66 rfl rfl ?_
    exact l_iretn dX4_inkWithin_68 rfl (by rfl)
  · refine l_loc dX4_inkWithin_43 rfl rfl ?_
    refine l_loc dX4_inkWithin_45 rfl rfl ?_
    refine l_loc dX4_inkWithin_46 rfl rfl ?_
    refine l_ob fun q1 => ?_
    refine l_cJ dX4_inkWithin_48 rfl rfl rfl (l_xv cl_4_30 ko_mX4_rowAt rfl rfl rfl q1) rfl rfl nm_mX4_rowAt (xhE_th rfl) (fun v3 h2 => ?_)
    refine l_loc dX4_inkWithin_51 rfl rfl ?_
    refine l_pure dX4_inkWithin_53 rfl rfl ?_
    refine l_cI dX4_inkWithin_54 rfl rfl rfl (l_xs cl_4_37 ko_mJ13_bitCount_95d88 rfl rfl) rfl rfl nm_mJ13_bitCount_95d88 (xhE_th rfl) (fun v5 h4 => ?_)
    refine l_pure dX4_inkWithin_57 rfl rfl ?_
    refine l_isl (al1 := fun v6 => [(10, .int v6), (0, .ref x0), (7, .long x7), (9, .int x9), (11, .int x11)]) dX4_inkWithin_58 rfl (fun _ => rfl) (fun v6 => ?_)
    refine l_incl (al1 := fun v7 => [(11, .int v7), (10, .int v6), (0, .ref x0), (7, .long x7), (9, .int x9)]) dX4_inkWithin_60 rfl kI_1 rfl (fun _ => rfl) (fun v7 => ?_)
    refine l_goto (t := 36) dX4_inkWithin_63 rfl ?_
    exact l_al rfl ⟨rfl, rfl, rfl, rfl, rfl, trivial⟩
theorem w_X4_drawFlipped (S : xS) (x0 : Nat) (x1 : Nat) (x2 : Int32) (x3 : Int32) (h : xH) : xle (xden S mX4_drawFlipped 3 [(0, .ref x0), (1, .ref x1), (2, .int x2), (3, .int x3), (4, .int (0 : Int32))] [] h) (xM S mX4_drawFlipped [.ref x0, .ref x1, .int x2, .int x3] h) := by
  show xle _ (xden S mX4_drawFlipped 0 [(0, .ref x0), (1, .ref x1), (2, .int x2), (3, .int x3)] [] h)
  refine l_ic dX4_drawFlipped_0 kI_0 ?_
  refine l_loc (al1 := [(4, .int (0 : Int32)), (0, .ref x0), (1, .ref x1), (2, .int x2), (3, .int x3)]) dX4_drawFlipped_1 rfl rfl ?_
  exact l_al rfl ⟨rfl, rfl, rfl, rfl, rfl, trivial⟩
set_option maxRecDepth 16000 in
theorem w_X4_drawFlipped_3 (S : xS) (x0 : Nat) (x1 : Nat) (x2 : Int32) (x3 : Int32) (x4 : Int32) (h : xH) : xle ((xGi h x0 4 1).bind fun v1 => if v1 ≤ x4 then (some (.inl none, h, 0, 0)) else (if x3 = 0 then (if xOb h x1 4 = true then xqJ (xM S mX4_rowAt [.ref x1, .int x4] h) xth fun v4 h3 => if x2 = 0 then (if xOb h3 x0 4 = true then xqV (xM S mX4_putRow [.ref x0, .int x4, .long v4] h3) xth fun h6 => xlet (x4 + (1 : Int32)) fun v8 => (xden S mX4_drawFlipped 3 [(0, .ref x0), (1, .ref x1), (2, .int x2), (3, .int x3), (4, .int v8)] [] h6) else none) else (if xOb h3 x0 4 = true then xqJ (xM S mX4_mirrored [.ref x0, .long v4] h3) xth fun v11 h10 => if xOb h10 x0 4 = true then xqV (xM S mX4_putRow [.ref x0, .int x4, .long v11] h10) xth fun h13 => xlet (x4 + (1 : Int32)) fun v15 => (xden S mX4_drawFlipped 3 [(0, .ref x0), (1, .ref x1), (2, .int x2), (3, .int x3), (4, .int v15)] [] h13) else none else none) else none) else ((xGi h x0 4 1).bind fun v16 => if xOb h x1 4 = true then xqJ (xM S mX4_rowAt [.ref x1, .int ((v16 - (1 : Int32)) - x4)] h) xth fun v19 h18 => if x2 = 0 then (if xOb h18 x0 4 = true then xqV (xM S mX4_putRow [.ref x0, .int x4, .long v19] h18) xth fun h21 => xlet (x4 + (1 : Int32)) fun v23 => (xden S mX4_drawFlipped 3 [(0, .ref x0), (1, .ref x1), (2, .int x2), (3, .int x3), (4, .int v23)] [] h21) else none) else (if xOb h18 x0 4 = true then xqJ (xM S mX4_mirrored [.ref x0, .long v19] h18) xth fun v26 h25 => if xOb h25 x0 4 = true then xqV (xM S mX4_putRow [.ref x0, .int x4, .long v26] h25) xth fun h28 => xlet (x4 + (1 : Int32)) fun v30 => (xden S mX4_drawFlipped 3 [(0, .ref x0), (1, .ref x1), (2, .int x2), (3, .int x3), (4, .int v30)] [] h28) else none else none) else none))) (xden S mX4_drawFlipped 3 [(0, .ref x0), (1, .ref x1), (2, .int x2), (3, .int x3), (4, .int x4)] [] h) := by
  refine l_loc dX4_drawFlipped_3 rfl rfl ?_
  refine l_loc dX4_drawFlipped_5 rfl rfl ?_
  refine l_gi dX4_drawFlipped_6 fl_4_13 (fun v1 => ?_)
  refine l_cge (t := 63) dX4_drawFlipped_9 rfl ?_ ?_
  · exact l_end dX4_drawFlipped_63 rfl rfl
  · refine l_loc dX4_drawFlipped_12 rfl rfl ?_
    refine l_loc dX4_drawFlipped_13 rfl rfl ?_
    refine l_ieq (t := 29) dX4_drawFlipped_14 rfl ?_ ?_
    · refine l_loc dX4_drawFlipped_29 rfl rfl ?_
      refine l_ob fun q2 => ?_
      refine l_cJ dX4_drawFlipped_31 rfl rfl rfl (l_xv cl_4_30 ko_mX4_rowAt rfl rfl rfl q2) rfl rfl nm_mX4_rowAt (xhE_th rfl) (fun v4 h3 => ?_)
      refine l_loc (al1 := [(5, .long v4), (0, .ref x0), (1, .ref x1), (2, .int x2), (3, .int x3), (4, .int x4)]) dX4_drawFlipped_34 rfl rfl ?_
      refine l_loc dX4_drawFlipped_36 rfl rfl ?_
      refine l_loc dX4_drawFlipped_37 rfl rfl ?_
      refine l_loc dX4_drawFlipped_39 rfl rfl ?_
      refine l_ieq (t := 52) dX4_drawFlipped_40 rfl ?_ ?_
      · refine l_loc dX4_drawFlipped_52 rfl rfl ?_
        refine l_ob fun q5 => ?_
        refine l_cV dX4_drawFlipped_54 rfl rfl rfl (l_xv cl_4_33 ko_mX4_putRow rfl rfl rfl q5) rfl rfl nm_mX4_putRow (xhE_th rfl) (fun h6 => ?_)
        refine l_incl (al1 := fun v8 => [(4, .int v8), (5, .long v4), (0, .ref x0), (1, .ref x1), (2, .int x2), (3, .int x3)]) dX4_drawFlipped_57 rfl kI_1 rfl (fun _ => rfl) (fun v8 => ?_)
        refine l_goto (t := 3) dX4_drawFlipped_60 rfl ?_
        exact l_al rfl ⟨rfl, rfl, rfl, rfl, rfl, trivial⟩
      · refine l_loc dX4_drawFlipped_43 rfl rfl ?_
        refine l_loc dX4_drawFlipped_44 rfl rfl ?_
        refine l_ob fun q9 => ?_
        refine l_cJ dX4_drawFlipped_46 rfl rfl rfl (l_xv cl_4_54 ko_mX4_mirrored rfl rfl rfl q9) rfl rfl nm_mX4_mirrored (xhE_th rfl) (fun v11 h10 => ?_)
        refine l_goto (t := 54) dX4_drawFlipped_49 rfl ?_
        refine l_ob fun q12 => ?_
        refine l_cV dX4_drawFlipped_54 rfl rfl rfl (l_xv cl_4_33 ko_mX4_putRow rfl rfl rfl q12) rfl rfl nm_mX4_putRow (xhE_th rfl) (fun h13 => ?_)
        refine l_incl (al1 := fun v15 => [(4, .int v15), (5, .long v4), (0, .ref x0), (1, .ref x1), (2, .int x2), (3, .int x3)]) dX4_drawFlipped_57 rfl kI_1 rfl (fun _ => rfl) (fun v15 => ?_)
        refine l_goto (t := 3) dX4_drawFlipped_60 rfl ?_
        exact l_al rfl ⟨rfl, rfl, rfl, rfl, rfl, trivial⟩
    · refine l_loc dX4_drawFlipped_17 rfl rfl ?_
      refine l_gi dX4_drawFlipped_18 fl_4_13 (fun v16 => ?_)
      refine l_ic dX4_drawFlipped_21 kI_1 ?_
      refine l_pure dX4_drawFlipped_22 rfl rfl ?_
      refine l_loc dX4_drawFlipped_23 rfl rfl ?_
      refine l_pure dX4_drawFlipped_25 rfl rfl ?_
      refine l_goto (t := 31) dX4_drawFlipped_26 rfl ?_
      refine l_ob fun q17 => ?_
      refine l_cJ dX4_drawFlipped_31 rfl rfl rfl (l_xv cl_4_30 ko_mX4_rowAt rfl rfl rfl q17) rfl rfl nm_mX4_rowAt (xhE_th rfl) (fun v19 h18 => ?_)
      refine l_loc (al1 := [(5, .long v19), (0, .ref x0), (1, .ref x1), (2, .int x2), (3, .int x3), (4, .int x4)]) dX4_drawFlipped_34 rfl rfl ?_
      refine l_loc dX4_drawFlipped_36 rfl rfl ?_
      refine l_loc dX4_drawFlipped_37 rfl rfl ?_
      refine l_loc dX4_drawFlipped_39 rfl rfl ?_
      refine l_ieq (t := 52) dX4_drawFlipped_40 rfl ?_ ?_
      · refine l_loc dX4_drawFlipped_52 rfl rfl ?_
        refine l_ob fun q20 => ?_
        refine l_cV dX4_drawFlipped_54 rfl rfl rfl (l_xv cl_4_33 ko_mX4_putRow rfl rfl rfl q20) rfl rfl nm_mX4_putRow (xhE_th rfl) (fun h21 => ?_)
        refine l_incl (al1 := fun v23 => [(4, .int v23), (5, .long v19), (0, .ref x0), (1, .ref x1), (2, .int x2), (3, .int x3)]) dX4_drawFlipped_57 rfl kI_1 rfl (fun _ => rfl) (fun v23 => ?_)
        refine l_goto (t := 3) dX4_drawFlipped_60 rfl ?_
        exact l_al rfl ⟨rfl, rfl, rfl, rfl, rfl, trivial⟩
      · refine l_loc dX4_drawFlipped_43 rfl rfl ?_
        refine l_loc dX4_drawFlipped_44 rfl rfl ?_
        refine l_ob fun q24 => ?_
        refine l_cJ dX4_drawFlipped_46 rfl rfl rfl (l_xv cl_4_54 ko_mX4_mirrored rfl rfl rfl q24) rfl rfl nm_mX4_mirrored (xhE_th rfl) (fun v26 h25 => ?_)
        refine l_goto (t := 54) dX4_drawFlipped_49 rfl ?_
        refine l_ob fun q27 => ?_
        refine l_cV dX4_drawFlipped_54 rfl rfl rfl (l_xv cl_4_33 ko_mX4_putRow rfl rfl rfl q27) rfl rfl nm_mX4_putRow (xhE_th rfl) (fun h28 => ?_)
        refine l_incl (al1 := fun v30 => [(4, .int v30), (5, .long v19), (0, .ref x0), (1, .ref x1), (2, .int x2), (3, .int x3)]) dX4_drawFlipped_57 rfl kI_1 rfl (fun _ => rfl) (fun v30 => ?_)
        refine l_goto (t := 3) dX4_drawFlipped_60 rfl ?_
        exact l_al rfl ⟨rfl, rfl, rfl, rfl, rfl, trivial⟩
theorem w_X4_mirrored (S : xS) (x0 : Nat) (x1 : Int64) (h : xH) : xle (xden S mX4_mirrored 5 [(0, .ref x0), (1, .long x1), (3, .long (0 : Int64)), (5, .int (0 : Int32))] [] h) (xM S mX4_mirrored [.ref x0, .long x1] h) := by
  show xle _ (xden S mX4_mirrored 0 [(0, .ref x0), (1, .long x1)] [] h)
  refine l_lc0 dX4_mirrored_0 ?_
  refine l_loc (al1 := [(3, .long (0 : Int64)), (0, .ref x0), (1, .long x1)]) dX4_mirrored_1 rfl rfl ?_
  refine l_ic dX4_mirrored_2 kI_0 ?_
  refine l_loc (al1 := [(5, .int (0 : Int32)), (3, .long (0 : Int64)), (0, .ref x0), (1, .long x1)]) dX4_mirrored_3 rfl rfl ?_
  exact l_al rfl ⟨rfl, rfl, rfl, rfl, trivial⟩
set_option maxRecDepth 16000 in
theorem w_X4_mirrored_5 (S : xS) (x0 : Nat) (x1 : Int64) (x3 : Int64) (x5 : Int32) (h : xH) : xle ((xGi h x0 4 0).bind fun v1 => if v1 ≤ x5 then (some (.inl (some (.long x3)), h, 0, 0)) else (xlet ((x3 <<< ((1 : Int32).toInt64 &&& 63)) ||| (((x1.toUInt64 >>> (x5.toInt64.toUInt64 &&& Int64.toUInt64 63)).toInt64) &&& (1 : Int64))) fun v2 => xlet (x5 + (1 : Int32)) fun v3 => (xden S mX4_mirrored 5 [(0, .ref x0), (1, .long x1), (3, .long v2), (5, .int v3)] [] h))) (xden S mX4_mirrored 5 [(0, .ref x0), (1, .long x1), (3, .long x3), (5, .int x5)] [] h) := by
  refine l_loc dX4_mirrored_5 rfl rfl ?_
  refine l_loc dX4_mirrored_7 rfl rfl ?_
  refine l_gi dX4_mirrored_8 fl_4_7 (fun v1 => ?_)
  refine l_cge (t := 31) dX4_mirrored_11 rfl ?_ ?_
  · refine l_loc dX4_mirrored_31 rfl rfl ?_
    exact l_end dX4_mirrored_32 rfl rfl
  · refine l_loc dX4_mirrored_14 rfl rfl ?_
    refine l_ic dX4_mirrored_15 kI_1 ?_
    refine l_pure dX4_mirrored_16 rfl rfl ?_
    refine l_loc dX4_mirrored_17 rfl rfl ?_
    refine l_loc dX4_mirrored_18 rfl rfl ?_
    refine l_pure dX4_mirrored_20 rfl rfl ?_
    refine l_lc1 dX4_mirrored_21 ?_
    refine l_pure dX4_mirrored_22 rfl rfl ?_
    refine l_pure dX4_mirrored_23 rfl rfl ?_
    refine l_lsl (al1 := fun v2 => [(3, .long v2), (0, .ref x0), (1, .long x1), (5, .int x5)]) dX4_mirrored_24 rfl (fun _ => rfl) (fun v2 => ?_)
    refine l_incl (al1 := fun v3 => [(5, .int v3), (3, .long v2), (0, .ref x0), (1, .long x1)]) dX4_mirrored_25 rfl kI_1 rfl (fun _ => rfl) (fun v3 => ?_)
    refine l_goto (t := 5) dX4_mirrored_28 rfl ?_
    exact l_al rfl ⟨rfl, rfl, rfl, rfl, trivial⟩
set_option maxRecDepth 16000 in
theorem w_X4_moved (S : xS) (x0 : Int64) (x2 : Int32) (h : xH) : xle (if (64 : Int32) ≤ x2 then (some (.inl (some (.long (0 : Int64))), h, 0, 0)) else (if (-64 : Int32) < x2 then (if x2 < 0 then (some (.inl (some (.long ((x0.toUInt64 >>> ((-x2).toInt64.toUInt64 &&& Int64.toUInt64 63)).toInt64))), h, 0, 0)) else (some (.inl (some (.long (x0 <<< (x2.toInt64 &&& 63)))), h, 0, 0))) else (some (.inl (some (.long (0 : Int64))), h, 0, 0)))) (xM S mX4_moved [.long x0, .int x2] h) := by
  show xle _ (xden S mX4_moved 0 [(0, .long x0), (2, .int x2)] [] h)
  refine l_loc dX4_moved_0 rfl rfl ?_
  refine l_bi dX4_moved_1 kB_64 ?_
  refine l_cge (t := 12) dX4_moved_3 rfl ?_ ?_
  · refine l_lc0 dX4_moved_12 ?_
    exact l_end dX4_moved_13 rfl rfl
  · refine l_loc dX4_moved_6 rfl rfl ?_
    refine l_bi dX4_moved_7 kB_m64 ?_
    refine l_cgt (t := 14) dX4_moved_9 rfl ?_ ?_
    · refine l_loc dX4_moved_14 rfl rfl ?_
      refine l_ilt (t := 24) dX4_moved_15 rfl ?_ ?_
      · refine l_loc dX4_moved_24 rfl rfl ?_
        refine l_loc dX4_moved_25 rfl rfl ?_
        refine l_pure dX4_moved_26 rfl rfl ?_
        refine l_pure dX4_moved_27 rfl rfl ?_
        exact l_end dX4_moved_28 rfl rfl
      · refine l_loc dX4_moved_18 rfl rfl ?_
        refine l_loc dX4_moved_19 rfl rfl ?_
        refine l_pure dX4_moved_20 rfl rfl ?_
        refine l_goto (t := 28) dX4_moved_21 rfl ?_
        exact l_end dX4_moved_28 rfl rfl
    · refine l_lc0 dX4_moved_12 ?_
      exact l_end dX4_moved_13 rfl rfl
theorem w_X4_drawMoved (S : xS) (x0 : Nat) (x1 : Nat) (x2 : Int32) (x3 : Int32) (h : xH) : xle (xden S mX4_drawMoved 3 [(0, .ref x0), (1, .ref x1), (2, .int x2), (3, .int x3), (4, .int (0 : Int32))] [] h) (xM S mX4_drawMoved [.ref x0, .ref x1, .int x2, .int x3] h) := by
  show xle _ (xden S mX4_drawMoved 0 [(0, .ref x0), (1, .ref x1), (2, .int x2), (3, .int x3)] [] h)
  refine l_ic dX4_drawMoved_0 kI_0 ?_
  refine l_loc (al1 := [(4, .int (0 : Int32)), (0, .ref x0), (1, .ref x1), (2, .int x2), (3, .int x3)]) dX4_drawMoved_1 rfl rfl ?_
  exact l_al rfl ⟨rfl, rfl, rfl, rfl, rfl, trivial⟩
set_option maxRecDepth 16000 in
theorem w_X4_drawMoved_3 (S : xS) (x0 : Nat) (x1 : Nat) (x2 : Int32) (x3 : Int32) (x4 : Int32) (h : xH) : xle ((xGi h x0 4 1).bind fun v1 => if v1 ≤ x4 then (some (.inl none, h, 0, 0)) else (xlet ((x4.toInt64) - (x3.toInt64)) fun v2 => if (lg_cmp v2 (0 : Int64)) < 0 then (if xOb h x0 4 = true then xqV (xM S mX4_putRow [.ref x0, .int x4, .long (0 : Int64)] h) xth fun h4 => xlet (x4 + (1 : Int32)) fun v6 => (xden S mX4_drawMoved 3 [(0, .ref x0), (1, .ref x1), (2, .int x2), (3, .int x3), (4, .int v6)] [] h4) else none) else ((xGi h x0 4 1).bind fun v7 => if (lg_cmp v2 (v7.toInt64)) < 0 then (if xOb h x1 4 = true then xqJ (xM S mX4_rowAt [.ref x1, .int (v2.toInt32)] h) xth fun v10 h9 => xqJ (xM S mX4_moved [.long v10, .int x2] h9) xth fun v12 h11 => if xOb h11 x0 4 = true then xqV (xM S mX4_putRow [.ref x0, .int x4, .long v12] h11) xth fun h14 => xlet (x4 + (1 : Int32)) fun v16 => (xden S mX4_drawMoved 3 [(0, .ref x0), (1, .ref x1), (2, .int x2), (3, .int x3), (4, .int v16)] [] h14) else none else none) else (if xOb h x0 4 = true then xqV (xM S mX4_putRow [.ref x0, .int x4, .long (0 : Int64)] h) xth fun h18 => xlet (x4 + (1 : Int32)) fun v20 => (xden S mX4_drawMoved 3 [(0, .ref x0), (1, .ref x1), (2, .int x2), (3, .int x3), (4, .int v20)] [] h18) else none)))) (xden S mX4_drawMoved 3 [(0, .ref x0), (1, .ref x1), (2, .int x2), (3, .int x3), (4, .int x4)] [] h) := by
  refine l_loc dX4_drawMoved_3 rfl rfl ?_
  refine l_loc dX4_drawMoved_5 rfl rfl ?_
  refine l_gi dX4_drawMoved_6 fl_4_13 (fun v1 => ?_)
  refine l_cge (t := 65) dX4_drawMoved_9 rfl ?_ ?_
  · exact l_end dX4_drawMoved_65 rfl rfl
  · refine l_loc dX4_drawMoved_12 rfl rfl ?_
    refine l_pure dX4_drawMoved_14 rfl rfl ?_
    refine l_loc dX4_drawMoved_15 rfl rfl ?_
    refine l_pure dX4_drawMoved_16 rfl rfl ?_
    refine l_pure dX4_drawMoved_17 rfl rfl ?_
    refine l_lsl (al1 := fun v2 => [(5, .long v2), (0, .ref x0), (1, .ref x1), (2, .int x2), (3, .int x3), (4, .int x4)]) dX4_drawMoved_18 rfl (fun _ => rfl) (fun v2 => ?_)
    refine l_loc dX4_drawMoved_20 rfl rfl ?_
    refine l_loc dX4_drawMoved_21 rfl rfl ?_
    refine l_loc dX4_drawMoved_23 rfl rfl ?_
    refine l_lc0 dX4_drawMoved_25 ?_
    refine l_pure dX4_drawMoved_26 rfl rfl ?_
    refine l_ilt (t := 41) dX4_drawMoved_27 rfl ?_ ?_
    · refine l_lc0 dX4_drawMoved_41 ?_
      refine l_goto (t := 56) dX4_drawMoved_42 rfl ?_
      refine l_ob fun q3 => ?_
      refine l_cV dX4_drawMoved_56 rfl rfl rfl (l_xv cl_4_33 ko_mX4_putRow rfl rfl rfl q3) rfl rfl nm_mX4_putRow (xhE_th rfl) (fun h4 => ?_)
      refine l_incl (al1 := fun v6 => [(4, .int v6), (5, .long v2), (0, .ref x0), (1, .ref x1), (2, .int x2), (3, .int x3)]) dX4_drawMoved_59 rfl kI_1 rfl (fun _ => rfl) (fun v6 => ?_)
      refine l_goto (t := 3) dX4_drawMoved_62 rfl ?_
      exact l_al rfl ⟨rfl, rfl, rfl, rfl, rfl, trivial⟩
    · refine l_loc dX4_drawMoved_30 rfl rfl ?_
      refine l_loc dX4_drawMoved_32 rfl rfl ?_
      refine l_gi dX4_drawMoved_33 fl_4_13 (fun v7 => ?_)
      refine l_pure dX4_drawMoved_36 rfl rfl ?_
      refine l_pure dX4_drawMoved_37 rfl rfl ?_
      refine l_ilt (t := 45) dX4_drawMoved_38 rfl ?_ ?_
      · refine l_loc dX4_drawMoved_45 rfl rfl ?_
        refine l_loc dX4_drawMoved_46 rfl rfl ?_
        refine l_pure dX4_drawMoved_48 rfl rfl ?_
        refine l_ob fun q8 => ?_
        refine l_cJ dX4_drawMoved_49 rfl rfl rfl (l_xv cl_4_30 ko_mX4_rowAt rfl rfl rfl q8) rfl rfl nm_mX4_rowAt (xhE_th rfl) (fun v10 h9 => ?_)
        refine l_loc dX4_drawMoved_52 rfl rfl ?_
        refine l_cJ dX4_drawMoved_53 rfl rfl rfl (l_xs cl_4_51 ko_mX4_moved rfl rfl) rfl rfl nm_mX4_moved (xhE_th rfl) (fun v12 h11 => ?_)
        refine l_ob fun q13 => ?_
        refine l_cV dX4_drawMoved_56 rfl rfl rfl (l_xv cl_4_33 ko_mX4_putRow rfl rfl rfl q13) rfl rfl nm_mX4_putRow (xhE_th rfl) (fun h14 => ?_)
        refine l_incl (al1 := fun v16 => [(4, .int v16), (5, .long v2), (0, .ref x0), (1, .ref x1), (2, .int x2), (3, .int x3)]) dX4_drawMoved_59 rfl kI_1 rfl (fun _ => rfl) (fun v16 => ?_)
        refine l_goto (t := 3) dX4_drawMoved_62 rfl ?_
        exact l_al rfl ⟨rfl, rfl, rfl, rfl, rfl, trivial⟩
      · refine l_lc0 dX4_drawMoved_41 ?_
        refine l_goto (t := 56) dX4_drawMoved_42 rfl ?_
        refine l_ob fun q17 => ?_
        refine l_cV dX4_drawMoved_56 rfl rfl rfl (l_xv cl_4_33 ko_mX4_putRow rfl rfl rfl q17) rfl rfl nm_mX4_putRow (xhE_th rfl) (fun h18 => ?_)
        refine l_incl (al1 := fun v20 => [(4, .int v20), (5, .long v2), (0, .ref x0), (1, .ref x1), (2, .int x2), (3, .int x3)]) dX4_drawMoved_59 rfl kI_1 rfl (fun _ => rfl) (fun v20 => ?_)
        refine l_goto (t := 3) dX4_drawMoved_62 rfl ?_
        exact l_al rfl ⟨rfl, rfl, rfl, rfl, rfl, trivial⟩
theorem w_X4_drawUnmatched (S : xS) (x0 : Nat) (x1 : Nat) (x2 : Nat) (x3 : Int32) (h : xH) : xle (xden S mX4_drawUnmatched 3 [(0, .ref x0), (1, .ref x1), (2, .ref x2), (3, .int x3), (4, .int (0 : Int32))] [] h) (xM S mX4_drawUnmatched [.ref x0, .ref x1, .ref x2, .int x3] h) := by
  show xle _ (xden S mX4_drawUnmatched 0 [(0, .ref x0), (1, .ref x1), (2, .ref x2), (3, .int x3)] [] h)
  refine l_ic dX4_drawUnmatched_0 kI_0 ?_
  refine l_loc (al1 := [(4, .int (0 : Int32)), (0, .ref x0), (1, .ref x1), (2, .ref x2), (3, .int x3)]) dX4_drawUnmatched_1 rfl rfl ?_
  exact l_al rfl ⟨rfl, rfl, rfl, rfl, rfl, trivial⟩
set_option maxRecDepth 16000 in
theorem w_X4_drawUnmatched_3 (S : xS) (x0 : Nat) (x1 : Nat) (x2 : Nat) (x3 : Int32) (x4 : Int32) (h : xH) : xle ((xGi h x0 4 1).bind fun v1 => if v1 ≤ x4 then (some (.inl none, h, 0, 0)) else (if xOb h x1 4 = true then xqJ (xM S mX4_rowAt [.ref x1, .int x4] h) xth fun v4 h3 => if xOb h3 x2 4 = true then xqJ (xM S mX4_inkAround [.ref x2, .int x4, .int x3] h3) xth fun v7 h6 => if xOb h6 x0 4 = true then xqV (xM S mX4_putRow [.ref x0, .int x4, .long (v4 &&& (v7 ^^^ (-1 : Int64)))] h6) xth fun h9 => xlet (x4 + (1 : Int32)) fun v11 => (xden S mX4_drawUnmatched 3 [(0, .ref x0), (1, .ref x1), (2, .ref x2), (3, .int x3), (4, .int v11)] [] h9) else none else none else none)) (xden S mX4_drawUnmatched 3 [(0, .ref x0), (1, .ref x1), (2, .ref x2), (3, .int x3), (4, .int x4)] [] h) := by
  refine l_loc dX4_drawUnmatched_3 rfl rfl ?_
  refine l_loc dX4_drawUnmatched_5 rfl rfl ?_
  refine l_gi dX4_drawUnmatched_6 fl_4_13 (fun v1 => ?_)
  refine l_cge (t := 42) dX4_drawUnmatched_9 rfl ?_ ?_
  · exact l_end dX4_drawUnmatched_42 rfl rfl
  · refine l_loc dX4_drawUnmatched_12 rfl rfl ?_
    refine l_loc dX4_drawUnmatched_13 rfl rfl ?_
    refine l_loc dX4_drawUnmatched_15 rfl rfl ?_
    refine l_loc dX4_drawUnmatched_16 rfl rfl ?_
    refine l_ob fun q2 => ?_
    refine l_cJ dX4_drawUnmatched_18 rfl rfl rfl (l_xv cl_4_30 ko_mX4_rowAt rfl rfl rfl q2) rfl rfl nm_mX4_rowAt (xhE_th rfl) (fun v4 h3 => ?_)
    refine l_loc dX4_drawUnmatched_21 rfl rfl ?_
    refine l_loc dX4_drawUnmatched_22 rfl rfl ?_
    refine l_loc dX4_drawUnmatched_24 rfl rfl ?_
    refine l_ob fun q5 => ?_
    refine l_cJ dX4_drawUnmatched_25 rfl rfl rfl (l_xv cl_4_58 ko_mX4_inkAround rfl rfl rfl q5) rfl rfl nm_mX4_inkAround (xhE_th rfl) (fun v7 h6 => ?_)
    refine l_rd (st1 := [.long (-1 : Int64), .long v7, .long v4, .int x4, .ref x0]) dX4_drawUnmatched_28 rfl rfl ?_
    refine l_pure dX4_drawUnmatched_31 rfl rfl ?_
    refine l_pure dX4_drawUnmatched_32 rfl rfl ?_
    refine l_ob fun q8 => ?_
    refine l_cV dX4_drawUnmatched_33 rfl rfl rfl (l_xv cl_4_33 ko_mX4_putRow rfl rfl rfl q8) rfl rfl nm_mX4_putRow (xhE_th rfl) (fun h9 => ?_)
    refine l_incl (al1 := fun v11 => [(4, .int v11), (0, .ref x0), (1, .ref x1), (2, .ref x2), (3, .int x3)]) dX4_drawUnmatched_36 rfl kI_1 rfl (fun _ => rfl) (fun v11 => ?_)
    refine l_goto (t := 3) dX4_drawUnmatched_39 rfl ?_
    exact l_al rfl ⟨rfl, rfl, rfl, rfl, rfl, trivial⟩
set_option maxRecDepth 16000 in
theorem w_X4_inkAround (S : xS) (x0 : Nat) (x1 : Int32) (x2 : Int32) (h : xH) : xle (xlet (x1 - x2) fun v1 => (xden S mX4_inkAround 7 [(0, .ref x0), (1, .int x1), (2, .int x2), (3, .long (0 : Int64)), (5, .int v1)] [] h)) (xM S mX4_inkAround [.ref x0, .int x1, .int x2] h) := by
  show xle _ (xden S mX4_inkAround 0 [(0, .ref x0), (1, .int x1), (2, .int x2)] [] h)
  refine l_lc0 dX4_inkAround_0 ?_
  refine l_loc (al1 := [(3, .long (0 : Int64)), (0, .ref x0), (1, .int x1), (2, .int x2)]) dX4_inkAround_1 rfl rfl ?_
  refine l_loc dX4_inkAround_2 rfl rfl ?_
  refine l_loc dX4_inkAround_3 rfl rfl ?_
  refine l_pure dX4_inkAround_4 rfl rfl ?_
  refine l_isl (al1 := fun v1 => [(5, .int v1), (3, .long (0 : Int64)), (0, .ref x0), (1, .int x1), (2, .int x2)]) dX4_inkAround_5 rfl (fun _ => rfl) (fun v1 => ?_)
  exact l_al rfl ⟨rfl, rfl, rfl, rfl, rfl, trivial⟩
set_option maxRecDepth 16000 in
theorem w_X4_inkAround_7 (S : xS) (x0 : Nat) (x1 : Int32) (x2 : Int32) (x3 : Int64) (x5 : Int32) (h : xH) : xle (if (x1 + x2) < x5 then (xden S mX4_inkAround 33 [(2, .int x2), (3, .long x3), (5, .int (0 : Int32))] [] h) else (if xOb h x0 4 = true then xqJ (xM S mX4_rowAt [.ref x0, .int x5] h) xth fun v3 h2 => xlet (x3 ||| v3) fun v4 => xlet (x5 + (1 : Int32)) fun v5 => (xden S mX4_inkAround 7 [(0, .ref x0), (1, .int x1), (2, .int x2), (3, .long v4), (5, .int v5)] [] h2) else none)) (xden S mX4_inkAround 7 [(0, .ref x0), (1, .int x1), (2, .int x2), (3, .long x3), (5, .int x5)] [] h) := by
  refine l_loc dX4_inkAround_7 rfl rfl ?_
  refine l_loc dX4_inkAround_9 rfl rfl ?_
  refine l_loc dX4_inkAround_10 rfl rfl ?_
  refine l_pure dX4_inkAround_11 rfl rfl ?_
  refine l_cgt (t := 30) dX4_inkAround_12 rfl ?_ ?_
  · refine l_ic dX4_inkAround_30 kI_0 ?_
    refine l_loc (al1 := [(5, .int (0 : Int32)), (0, .ref x0), (1, .int x1), (2, .int x2), (3, .long x3)]) dX4_inkAround_31 rfl rfl ?_
    exact l_al rfl ⟨rfl, rfl, rfl, trivial⟩
  · refine l_loc dX4_inkAround_15 rfl rfl ?_
    refine l_loc dX4_inkAround_16 rfl rfl ?_
    refine l_loc dX4_inkAround_17 rfl rfl ?_
    refine l_ob fun q1 => ?_
    refine l_cJ dX4_inkAround_19 rfl rfl rfl (l_xv cl_4_30 ko_mX4_rowAt rfl rfl rfl q1) rfl rfl nm_mX4_rowAt (xhE_th rfl) (fun v3 h2 => ?_)
    refine l_pure dX4_inkAround_22 rfl rfl ?_
    refine l_lsl (al1 := fun v4 => [(3, .long v4), (0, .ref x0), (1, .int x1), (2, .int x2), (5, .int x5)]) dX4_inkAround_23 rfl (fun _ => rfl) (fun v4 => ?_)
    refine l_incl (al1 := fun v5 => [(5, .int v5), (3, .long v4), (0, .ref x0), (1, .int x1), (2, .int x2)]) dX4_inkAround_24 rfl kI_1 rfl (fun _ => rfl) (fun v5 => ?_)
    refine l_goto (t := 7) dX4_inkAround_27 rfl ?_
    exact l_al rfl ⟨rfl, rfl, rfl, rfl, rfl, trivial⟩
set_option maxRecDepth 16000 in
theorem w_X4_inkAround_33 (S : xS) (x2 : Int32) (x3 : Int64) (x5 : Int32) (h : xH) : xle (if x2 ≤ x5 then (some (.inl (some (.long x3)), h, 0, 0)) else (xlet (x3 ||| ((x3 <<< ((1 : Int32).toInt64 &&& 63)) ||| ((x3.toUInt64 >>> ((1 : Int32).toInt64.toUInt64 &&& Int64.toUInt64 63)).toInt64))) fun v1 => xlet (x5 + (1 : Int32)) fun v2 => (xden S mX4_inkAround 33 [(2, .int x2), (3, .long v1), (5, .int v2)] [] h))) (xden S mX4_inkAround 33 [(2, .int x2), (3, .long x3), (5, .int x5)] [] h) := by
  refine l_loc dX4_inkAround_33 rfl rfl ?_
  refine l_loc dX4_inkAround_35 rfl rfl ?_
  refine l_cge (t := 55) dX4_inkAround_36 rfl ?_ ?_
  · refine l_loc dX4_inkAround_55 rfl rfl ?_
    exact l_end dX4_inkAround_56 rfl rfl
  · refine l_loc dX4_inkAround_39 rfl rfl ?_
    refine l_loc dX4_inkAround_40 rfl rfl ?_
    refine l_ic dX4_inkAround_41 kI_1 ?_
    refine l_pure dX4_inkAround_42 rfl rfl ?_
    refine l_loc dX4_inkAround_43 rfl rfl ?_
    refine l_ic dX4_inkAround_44 kI_1 ?_
    refine l_pure dX4_inkAround_45 rfl rfl ?_
    refine l_pure dX4_inkAround_46 rfl rfl ?_
    refine l_pure dX4_inkAround_47 rfl rfl ?_
    refine l_lsl (al1 := fun v1 => [(3, .long v1), (2, .int x2), (5, .int x5)]) dX4_inkAround_48 rfl (fun _ => rfl) (fun v1 => ?_)
    refine l_incl (al1 := fun v2 => [(5, .int v2), (3, .long v1), (2, .int x2)]) dX4_inkAround_49 rfl kI_1 rfl (fun _ => rfl) (fun v2 => ?_)
    refine l_goto (t := 33) dX4_inkAround_52 rfl ?_
    exact l_al rfl ⟨rfl, rfl, rfl, trivial⟩
theorem w_X4_keepOnly (S : xS) (x0 : Nat) (x1 : Nat) (h : xH) : xle (xden S mX4_keepOnly 2 [(0, .ref x0), (1, .ref x1), (2, .int (0 : Int32))] [] h) (xM S mX4_keepOnly [.ref x0, .ref x1] h) := by
  show xle _ (xden S mX4_keepOnly 0 [(0, .ref x0), (1, .ref x1)] [] h)
  refine l_ic dX4_keepOnly_0 kI_0 ?_
  refine l_loc (al1 := [(2, .int (0 : Int32)), (0, .ref x0), (1, .ref x1)]) dX4_keepOnly_1 rfl rfl ?_
  exact l_al rfl ⟨rfl, rfl, rfl, trivial⟩
set_option maxRecDepth 16000 in
theorem w_X4_keepOnly_2 (S : xS) (x0 : Nat) (x1 : Nat) (x2 : Int32) (h : xH) : xle ((xGi h x0 4 1).bind fun v1 => if v1 ≤ x2 then (some (.inl none, h, 0, 0)) else (if xOb h x0 4 = true then xqJ (xM S mX4_rowAt [.ref x0, .int x2] h) xth fun v4 h3 => if xOb h3 x1 4 = true then xqJ (xM S mX4_rowAt [.ref x1, .int x2] h3) xth fun v7 h6 => if xOb h6 x0 4 = true then xqV (xM S mX4_putRow [.ref x0, .int x2, .long (v4 &&& v7)] h6) xth fun h9 => xlet (x2 + (1 : Int32)) fun v11 => (xden S mX4_keepOnly 2 [(0, .ref x0), (1, .ref x1), (2, .int v11)] [] h9) else none else none else none)) (xden S mX4_keepOnly 2 [(0, .ref x0), (1, .ref x1), (2, .int x2)] [] h) := by
  refine l_loc dX4_keepOnly_2 rfl rfl ?_
  refine l_loc dX4_keepOnly_3 rfl rfl ?_
  refine l_gi dX4_keepOnly_4 fl_4_13 (fun v1 => ?_)
  refine l_cge (t := 32) dX4_keepOnly_7 rfl ?_ ?_
  · exact l_end dX4_keepOnly_32 rfl rfl
  · refine l_loc dX4_keepOnly_10 rfl rfl ?_
    refine l_loc dX4_keepOnly_11 rfl rfl ?_
    refine l_loc dX4_keepOnly_12 rfl rfl ?_
    refine l_loc dX4_keepOnly_13 rfl rfl ?_
    refine l_ob fun q2 => ?_
    refine l_cJ dX4_keepOnly_14 rfl rfl rfl (l_xv cl_4_30 ko_mX4_rowAt rfl rfl rfl q2) rfl rfl nm_mX4_rowAt (xhE_th rfl) (fun v4 h3 => ?_)
    refine l_loc dX4_keepOnly_17 rfl rfl ?_
    refine l_loc dX4_keepOnly_18 rfl rfl ?_
    refine l_ob fun q5 => ?_
    refine l_cJ dX4_keepOnly_19 rfl rfl rfl (l_xv cl_4_30 ko_mX4_rowAt rfl rfl rfl q5) rfl rfl nm_mX4_rowAt (xhE_th rfl) (fun v7 h6 => ?_)
    refine l_pure dX4_keepOnly_22 rfl rfl ?_
    refine l_ob fun q8 => ?_
    refine l_cV dX4_keepOnly_23 rfl rfl rfl (l_xv cl_4_33 ko_mX4_putRow rfl rfl rfl q8) rfl rfl nm_mX4_putRow (xhE_th rfl) (fun h9 => ?_)
    refine l_incl (al1 := fun v11 => [(2, .int v11), (0, .ref x0), (1, .ref x1)]) dX4_keepOnly_26 rfl kI_1 rfl (fun _ => rfl) (fun v11 => ?_)
    refine l_goto (t := 2) dX4_keepOnly_29 rfl ?_
    exact l_al rfl ⟨rfl, rfl, rfl, trivial⟩
theorem w_X4_linesUpTo (S : xS) (x0 : Nat) (x1 : Int32) (h : xH) : xle (xden S mX4_linesUpTo 4 [(0, .ref x0), (1, .int x1), (2, .int (0 : Int32)), (3, .int (0 : Int32))] [] h) (xM S mX4_linesUpTo [.ref x0, .int x1] h) := by
  show xle _ (xden S mX4_linesUpTo 0 [(0, .ref x0), (1, .int x1)] [] h)
  refine l_ic dX4_linesUpTo_0 kI_0 ?_
  refine l_loc (al1 := [(2, .int (0 : Int32)), (0, .ref x0), (1, .int x1)]) dX4_linesUpTo_1 rfl rfl ?_
  refine l_ic dX4_linesUpTo_2 kI_0 ?_
  refine l_loc (al1 := [(3, .int (0 : Int32)), (2, .int (0 : Int32)), (0, .ref x0), (1, .int x1)]) dX4_linesUpTo_3 rfl rfl ?_
  exact l_al rfl ⟨rfl, rfl, rfl, rfl, trivial⟩
set_option maxRecDepth 16000 in
theorem w_X4_linesUpTo_4 (S : xS) (x0 : Nat) (x1 : Int32) (x2 : Int32) (x3 : Int32) (h : xH) : xle (if x1 < x3 then (some (.inl (some (.int x2)), h, 0, 0)) else ((xGi h x0 4 1).bind fun v1 => if v1 ≤ x3 then (some (.inl (some (.int x2)), h, 0, 0)) else (if xOb h x0 4 = true then xqI (xM S mX4_startsLine [.ref x0, .int x3] h) xth fun v4 h3 => if v4 = 0 then (xlet (x3 + (1 : Int32)) fun v5 => (xden S mX4_linesUpTo 4 [(0, .ref x0), (1, .int x1), (2, .int x2), (3, .int v5)] [] h3)) else (xlet (x2 + (1 : Int32)) fun v6 => xlet (x3 + (1 : Int32)) fun v7 => (xden S mX4_linesUpTo 4 [(0, .ref x0), (1, .int x1), (2, .int v6), (3, .int v7)] [] h3)) else none))) (xden S mX4_linesUpTo 4 [(0, .ref x0), (1, .int x1), (2, .int x2), (3, .int x3)] [] h) := by
  refine l_loc dX4_linesUpTo_4 rfl rfl ?_
  refine l_loc dX4_linesUpTo_5 rfl rfl ?_
  refine l_cgt (t := 34) dX4_linesUpTo_6 rfl ?_ ?_
  · refine l_loc dX4_linesUpTo_34 rfl rfl ?_
    exact l_iretn dX4_linesUpTo_35 rfl (by rfl)
  · refine l_loc dX4_linesUpTo_9 rfl rfl ?_
    refine l_loc dX4_linesUpTo_10 rfl rfl ?_
    refine l_gi dX4_linesUpTo_11 fl_4_13 (fun v1 => ?_)
    refine l_cge (t := 34) dX4_linesUpTo_14 rfl ?_ ?_
    · refine l_loc dX4_linesUpTo_34 rfl rfl ?_
      exact l_iretn dX4_linesUpTo_35 rfl (by rfl)
    · refine l_loc dX4_linesUpTo_17 rfl rfl ?_
      refine l_loc dX4_linesUpTo_18 rfl rfl ?_
      refine l_ob fun q2 => ?_
      refine l_cI dX4_linesUpTo_19 rfl rfl rfl (l_xv cl_4_82 ko_mX4_startsLine rfl rfl rfl q2) rfl rfl nm_mX4_startsLine (xhE_th rfl) (fun v4 h3 => ?_)
      refine l_ieq (t := 28) dX4_linesUpTo_22 rfl ?_ ?_
      · refine l_incl (al1 := fun v5 => [(3, .int v5), (0, .ref x0), (1, .int x1), (2, .int x2)]) dX4_linesUpTo_28 rfl kI_1 rfl (fun _ => rfl) (fun v5 => ?_)
        refine l_goto (t := 4) dX4_linesUpTo_31 rfl ?_
        exact l_al rfl ⟨rfl, rfl, rfl, rfl, trivial⟩
      · refine l_incl (al1 := fun v6 => [(2, .int v6), (0, .ref x0), (1, .int x1), (3, .int x3)]) dX4_linesUpTo_25 rfl kI_1 rfl (fun _ => rfl) (fun v6 => ?_)
        refine l_incl (al1 := fun v7 => [(3, .int v7), (2, .int v6), (0, .ref x0), (1, .int x1)]) dX4_linesUpTo_28 rfl kI_1 rfl (fun _ => rfl) (fun v7 => ?_)
        refine l_goto (t := 4) dX4_linesUpTo_31 rfl ?_
        exact l_al rfl ⟨rfl, rfl, rfl, rfl, trivial⟩
set_option maxRecDepth 16000 in
theorem w_X4_startsLine (S : xS) (x0 : Nat) (x1 : Int32) (h : xH) : xle (if xOb h x0 4 = true then xqJ (xM S mX4_rowAt [.ref x0, .int x1] h) xth fun v3 h2 => if (lg_cmp v3 (0 : Int64)) = 0 then (some (.inl (some (.int (0 : Int32))), h2, 0, 0)) else (if xOb h2 x0 4 = true then xqJ (xM S mX4_rowAt [.ref x0, .int (x1 - (1 : Int32))] h2) xth fun v6 h5 => if ¬ (lg_cmp v6 (0 : Int64)) = 0 then (some (.inl (some (.int (0 : Int32))), h5, 0, 0)) else (some (.inl (some (.int (1 : Int32))), h5, 0, 0)) else none) else none) (xM S mX4_startsLine [.ref x0, .int x1] h) := by
  show xle _ (xden S mX4_startsLine 0 [(0, .ref x0), (1, .int x1)] [] h)
  refine l_loc dX4_startsLine_0 rfl rfl ?_
  refine l_loc dX4_startsLine_1 rfl rfl ?_
  refine l_ob fun q1 => ?_
  refine l_cJ dX4_startsLine_2 rfl rfl rfl (l_xv cl_4_30 ko_mX4_rowAt rfl rfl rfl q1) rfl rfl nm_mX4_rowAt (xhE_th rfl) (fun v3 h2 => ?_)
  refine l_lc0 dX4_startsLine_5 ?_
  refine l_pure dX4_startsLine_6 rfl rfl ?_
  refine l_ieq (t := 26) dX4_startsLine_7 rfl ?_ ?_
  · refine l_ic dX4_startsLine_26 kI_0 ?_
    exact l_iretn dX4_startsLine_27 rfl (by decide)
  · refine l_loc dX4_startsLine_10 rfl rfl ?_
    refine l_loc dX4_startsLine_11 rfl rfl ?_
    refine l_ic dX4_startsLine_12 kI_1 ?_
    refine l_pure dX4_startsLine_13 rfl rfl ?_
    refine l_ob fun q4 => ?_
    refine l_cJ dX4_startsLine_14 rfl rfl rfl (l_xv cl_4_30 ko_mX4_rowAt rfl rfl rfl q4) rfl rfl nm_mX4_rowAt (xhE_th rfl) (fun v6 h5 => ?_)
    refine l_lc0 dX4_startsLine_17 ?_
    refine l_pure dX4_startsLine_18 rfl rfl ?_
    refine l_ine (t := 26) dX4_startsLine_19 rfl ?_ ?_
    · refine l_ic dX4_startsLine_26 kI_0 ?_
      exact l_iretn dX4_startsLine_27 rfl (by decide)
    · refine l_ic dX4_startsLine_22 kI_1 ?_
      refine l_goto (t := 27) dX4_startsLine_23 rfl ?_
      exact l_iretn dX4_startsLine_27 rfl (by decide)
set_option maxRecDepth 16000 in
theorem w_X3_keep (S : xS) (x0 : Nat) (x1 : Int32) (x2 : Nat) (h : xH) : xle ((xGi h x0 3 3).bind fun v1 => if ¬ v1 = (8 : Int32) then ((xGi h x0 3 3).bind fun v2 => if xOb h x0 3 = true then xqI (xM S mX3_slotAt [.ref x0, .int v2] h) xth fun v5 h4 => (xGr h4 x0 3 1).bind fun v6 => (xWi h4 v6 v5 x1).bind fun h7 => (xGr h7 x0 3 0).bind fun v8 => (xRr h7 v8 v5).bind fun v9 => if xOb h7 v9 4 = true then xqV (xM S mX4_takeFrom [.ref v9, .ref x2] h7) xth fun h11 => (xGi h11 x0 3 3).bind fun v13 => (xP false 3 h11 x0 3 3 (.int (v13 + (1 : Int32)))).bind fun h14 => (xGr h14 x0 3 0).bind fun v15 => (xRr h14 v15 v5).bind fun v16 => some (.inl (some (.ref v16)), h14, 0, 0) else none else none) else (if xOb h x0 3 = true then xqI (xM S mX3_slotAt [.ref x0, .int (1 : Int32)] h) xth fun v19 h18 => (xP false 3 h18 x0 3 2 (.int v19)).bind fun h20 => (xGi h20 x0 3 3).bind fun v21 => (xP false 3 h20 x0 3 3 (.int (v21 - (1 : Int32)))).bind fun h22 => (xGi h22 x0 3 3).bind fun v23 => if xOb h22 x0 3 = true then xqI (xM S mX3_slotAt [.ref x0, .int v23] h22) xth fun v26 h25 => (xGr h25 x0 3 1).bind fun v27 => (xWi h25 v27 v26 x1).bind fun h28 => (xGr h28 x0 3 0).bind fun v29 => (xRr h28 v29 v26).bind fun v30 => if xOb h28 v30 4 = true then xqV (xM S mX4_takeFrom [.ref v30, .ref x2] h28) xth fun h32 => (xGi h32 x0 3 3).bind fun v34 => (xP false 3 h32 x0 3 3 (.int (v34 + (1 : Int32)))).bind fun h35 => (xGr h35 x0 3 0).bind fun v36 => (xRr h35 v36 v26).bind fun v37 => some (.inl (some (.ref v37)), h35, 0, 0) else none else none else none)) (xM S mX3_keep [.ref x0, .int x1, .ref x2] h) := by
  show xle _ (xden S mX3_keep 0 [(0, .ref x0), (1, .int x1), (2, .ref x2)] [] h)
  refine l_loc dX3_keep_0 rfl rfl ?_
  refine l_gi dX3_keep_1 fl_3_24 (fun v1 => ?_)
  refine l_bi dX3_keep_4 kB_8 ?_
  refine l_cne (t := 28) dX3_keep_6 rfl ?_ ?_
  · refine l_loc dX3_keep_28 rfl rfl ?_
    refine l_loc dX3_keep_29 rfl rfl ?_
    refine l_gi dX3_keep_30 fl_3_24 (fun v2 => ?_)
    refine l_ob fun q3 => ?_
    refine l_cI dX3_keep_33 rfl rfl rfl (l_xv cl_3_37 ko_mX3_slotAt rfl rfl rfl q3) rfl rfl nm_mX3_slotAt (xhE_th rfl) (fun v5 h4 => ?_)
    refine l_loc (al1 := [(3, .int v5), (0, .ref x0), (1, .int x1), (2, .ref x2)]) dX3_keep_36 rfl rfl ?_
    refine l_loc dX3_keep_37 rfl rfl ?_
    refine l_gr dX3_keep_38 fl_3_17 (fun v6 => ?_)
    refine l_loc dX3_keep_41 rfl rfl ?_
    refine l_loc dX3_keep_42 rfl rfl ?_
    refine l_wi dX3_keep_43 (fun h7 => ?_)
    refine l_loc dX3_keep_44 rfl rfl ?_
    refine l_gr dX3_keep_45 fl_3_11 (fun v8 => ?_)
    refine l_loc dX3_keep_48 rfl rfl ?_
    refine l_rr dX3_keep_49 (fun v9 => ?_)
    refine l_loc dX3_keep_50 rfl rfl ?_
    refine l_ob fun q10 => ?_
    refine l_cV dX3_keep_51 rfl rfl rfl (l_xv cl_3_41 ko_mX4_takeFrom rfl rfl rfl q10) rfl rfl nm_mX4_takeFrom (xhE_th rfl) (fun h11 => ?_)
    refine l_loc dX3_keep_54 rfl rfl ?_
    refine l_pure dX3_keep_55 rfl rfl ?_
    refine l_gi dX3_keep_56 fl_3_24 (fun v13 => ?_)
    refine l_ic dX3_keep_59 kI_1 ?_
    refine l_pure dX3_keep_60 rfl rfl ?_
    refine l_pf dX3_keep_61 fl_3_24 (ini := false) nm_mX3_keep (fun h14 => ?_)
    refine l_loc dX3_keep_64 rfl rfl ?_
    refine l_gr dX3_keep_65 fl_3_11 (fun v15 => ?_)
    refine l_loc dX3_keep_68 rfl rfl ?_
    refine l_rr dX3_keep_69 (fun v16 => ?_)
    exact l_end dX3_keep_70 rfl rfl
  · refine l_loc dX3_keep_9 rfl rfl ?_
    refine l_loc dX3_keep_10 rfl rfl ?_
    refine l_ic dX3_keep_11 kI_1 ?_
    refine l_ob fun q17 => ?_
    refine l_cI dX3_keep_12 rfl rfl rfl (l_xv cl_3_37 ko_mX3_slotAt rfl rfl rfl q17) rfl rfl nm_mX3_slotAt (xhE_th rfl) (fun v19 h18 => ?_)
    refine l_pf dX3_keep_15 fl_3_28 (ini := false) nm_mX3_keep (fun h20 => ?_)
    refine l_loc dX3_keep_18 rfl rfl ?_
    refine l_pure dX3_keep_19 rfl rfl ?_
    refine l_gi dX3_keep_20 fl_3_24 (fun v21 => ?_)
    refine l_ic dX3_keep_23 kI_1 ?_
    refine l_pure dX3_keep_24 rfl rfl ?_
    refine l_pf dX3_keep_25 fl_3_24 (ini := false) nm_mX3_keep (fun h22 => ?_)
    refine l_loc dX3_keep_28 rfl rfl ?_
    refine l_loc dX3_keep_29 rfl rfl ?_
    refine l_gi dX3_keep_30 fl_3_24 (fun v23 => ?_)
    refine l_ob fun q24 => ?_
    refine l_cI dX3_keep_33 rfl rfl rfl (l_xv cl_3_37 ko_mX3_slotAt rfl rfl rfl q24) rfl rfl nm_mX3_slotAt (xhE_th rfl) (fun v26 h25 => ?_)
    refine l_loc (al1 := [(3, .int v26), (0, .ref x0), (1, .int x1), (2, .ref x2)]) dX3_keep_36 rfl rfl ?_
    refine l_loc dX3_keep_37 rfl rfl ?_
    refine l_gr dX3_keep_38 fl_3_17 (fun v27 => ?_)
    refine l_loc dX3_keep_41 rfl rfl ?_
    refine l_loc dX3_keep_42 rfl rfl ?_
    refine l_wi dX3_keep_43 (fun h28 => ?_)
    refine l_loc dX3_keep_44 rfl rfl ?_
    refine l_gr dX3_keep_45 fl_3_11 (fun v29 => ?_)
    refine l_loc dX3_keep_48 rfl rfl ?_
    refine l_rr dX3_keep_49 (fun v30 => ?_)
    refine l_loc dX3_keep_50 rfl rfl ?_
    refine l_ob fun q31 => ?_
    refine l_cV dX3_keep_51 rfl rfl rfl (l_xv cl_3_41 ko_mX4_takeFrom rfl rfl rfl q31) rfl rfl nm_mX4_takeFrom (xhE_th rfl) (fun h32 => ?_)
    refine l_loc dX3_keep_54 rfl rfl ?_
    refine l_pure dX3_keep_55 rfl rfl ?_
    refine l_gi dX3_keep_56 fl_3_24 (fun v34 => ?_)
    refine l_ic dX3_keep_59 kI_1 ?_
    refine l_pure dX3_keep_60 rfl rfl ?_
    refine l_pf dX3_keep_61 fl_3_24 (ini := false) nm_mX3_keep (fun h35 => ?_)
    refine l_loc dX3_keep_64 rfl rfl ?_
    refine l_gr dX3_keep_65 fl_3_11 (fun v36 => ?_)
    refine l_loc dX3_keep_68 rfl rfl ?_
    refine l_rr dX3_keep_69 (fun v37 => ?_)
    exact l_end dX3_keep_70 rfl rfl
set_option maxRecDepth 16000 in
theorem w_X3_slotAt (S : xS) (x0 : Nat) (x1 : Int32) (h : xH) : xle ((xGi h x0 3 2).bind fun v1 => xqI (xM S mJ9_floorMod_7cf53 [.int (v1 + x1), .int (8 : Int32)] h) xth fun v3 h2 => some (.inl (some (.int v3)), h2, 0, 0)) (xM S mX3_slotAt [.ref x0, .int x1] h) := by
  show xle _ (xden S mX3_slotAt 0 [(0, .ref x0), (1, .int x1)] [] h)
  refine l_loc dX3_slotAt_0 rfl rfl ?_
  refine l_gi dX3_slotAt_1 fl_3_28 (fun v1 => ?_)
  refine l_loc dX3_slotAt_4 rfl rfl ?_
  refine l_pure dX3_slotAt_5 rfl rfl ?_
  refine l_bi dX3_slotAt_6 kB_8 ?_
  refine l_cI dX3_slotAt_8 rfl rfl rfl (l_xs cl_3_31 ko_mJ9_floorMod_7cf53 rfl rfl) rfl rfl nm_mJ9_floorMod_7cf53 (xhE_th rfl) (fun v3 h2 => ?_)
  exact l_iretn dX3_slotAt_11 rfl (by rfl)
theorem w_X4_differences (S : xS) (x0 : Nat) (x1 : Nat) (h : xH) : xle (xden S mX4_differences 4 [(0, .ref x0), (1, .ref x1), (2, .int (0 : Int32)), (3, .int (0 : Int32))] [] h) (xM S mX4_differences [.ref x0, .ref x1] h) := by
  show xle _ (xden S mX4_differences 0 [(0, .ref x0), (1, .ref x1)] [] h)
  refine l_ic dX4_differences_0 kI_0 ?_
  refine l_loc (al1 := [(2, .int (0 : Int32)), (0, .ref x0), (1, .ref x1)]) dX4_differences_1 rfl rfl ?_
  refine l_ic dX4_differences_2 kI_0 ?_
  refine l_loc (al1 := [(3, .int (0 : Int32)), (2, .int (0 : Int32)), (0, .ref x0), (1, .ref x1)]) dX4_differences_3 rfl rfl ?_
  exact l_al rfl ⟨rfl, rfl, rfl, rfl, trivial⟩
set_option maxRecDepth 16000 in
theorem w_X4_differences_4 (S : xS) (x0 : Nat) (x1 : Nat) (x2 : Int32) (x3 : Int32) (h : xH) : xle ((xGi h x0 4 1).bind fun v1 => if v1 ≤ x3 then (some (.inl (some (.int x2)), h, 0, 0)) else (if xOb h x0 4 = true then xqJ (xM S mX4_rowAt [.ref x0, .int x3] h) xth fun v4 h3 => if xOb h3 x1 4 = true then xqJ (xM S mX4_rowAt [.ref x1, .int x3] h3) xth fun v7 h6 => xqI (xM S mJ13_bitCount_95d88 [.long (v4 ^^^ v7)] h6) xth fun v9 h8 => xlet (x2 + v9) fun v10 => xlet (x3 + (1 : Int32)) fun v11 => (xden S mX4_differences 4 [(0, .ref x0), (1, .ref x1), (2, .int v10), (3, .int v11)] [] h8) else none else none)) (xden S mX4_differences 4 [(0, .ref x0), (1, .ref x1), (2, .int x2), (3, .int x3)] [] h) := by
  refine l_loc dX4_differences_4 rfl rfl ?_
  refine l_loc dX4_differences_5 rfl rfl ?_
  refine l_gi dX4_differences_6 fl_4_13 (fun v1 => ?_)
  refine l_cge (t := 35) dX4_differences_9 rfl ?_ ?_
  · refine l_loc dX4_differences_35 rfl rfl ?_
    exact l_iretn dX4_differences_36 rfl (by rfl)
  · refine l_loc dX4_differences_12 rfl rfl ?_
    refine l_loc dX4_differences_13 rfl rfl ?_
    refine l_loc dX4_differences_14 rfl rfl ?_
    refine l_ob fun q2 => ?_
    refine l_cJ dX4_differences_15 rfl rfl rfl (l_xv cl_4_30 ko_mX4_rowAt rfl rfl rfl q2) rfl rfl nm_mX4_rowAt (xhE_th rfl) (fun v4 h3 => ?_)
    refine l_loc dX4_differences_18 rfl rfl ?_
    refine l_loc dX4_differences_19 rfl rfl ?_
    refine l_ob fun q5 => ?_
    refine l_cJ dX4_differences_20 rfl rfl rfl (l_xv cl_4_30 ko_mX4_rowAt rfl rfl rfl q5) rfl rfl nm_mX4_rowAt (xhE_th rfl) (fun v7 h6 => ?_)
    refine l_pure dX4_differences_23 rfl rfl ?_
    refine l_cI dX4_differences_24 rfl rfl rfl (l_xs cl_4_37 ko_mJ13_bitCount_95d88 rfl rfl) rfl rfl nm_mJ13_bitCount_95d88 (xhE_th rfl) (fun v9 h8 => ?_)
    refine l_pure dX4_differences_27 rfl rfl ?_
    refine l_isl (al1 := fun v10 => [(2, .int v10), (0, .ref x0), (1, .ref x1), (3, .int x3)]) dX4_differences_28 rfl (fun _ => rfl) (fun v10 => ?_)
    refine l_incl (al1 := fun v11 => [(3, .int v11), (2, .int v10), (0, .ref x0), (1, .ref x1)]) dX4_differences_29 rfl kI_1 rfl (fun _ => rfl) (fun v11 => ?_)
    refine l_goto (t := 4) dX4_differences_32 rfl ?_
    exact l_al rfl ⟨rfl, rfl, rfl, rfl, trivial⟩
theorem w_X4_drawMajority (S : xS) (x0 : Nat) (x1 : Nat) (x2 : Nat) (x3 : Nat) (h : xH) : xle (xden S mX4_drawMajority 3 [(0, .ref x0), (1, .ref x1), (2, .ref x2), (3, .ref x3), (4, .int (0 : Int32))] [] h) (xM S mX4_drawMajority [.ref x0, .ref x1, .ref x2, .ref x3] h) := by
  show xle _ (xden S mX4_drawMajority 0 [(0, .ref x0), (1, .ref x1), (2, .ref x2), (3, .ref x3)] [] h)
  refine l_ic dX4_drawMajority_0 kI_0 ?_
  refine l_loc (al1 := [(4, .int (0 : Int32)), (0, .ref x0), (1, .ref x1), (2, .ref x2), (3, .ref x3)]) dX4_drawMajority_1 rfl rfl ?_
  exact l_al rfl ⟨rfl, rfl, rfl, rfl, rfl, trivial⟩
set_option maxRecDepth 16000 in
theorem w_X4_drawMajority_3 (S : xS) (x0 : Nat) (x1 : Nat) (x2 : Nat) (x3 : Nat) (x4 : Int32) (h : xH) : xle ((xGi h x0 4 1).bind fun v1 => if v1 ≤ x4 then (some (.inl none, h, 0, 0)) else (if xOb h x1 4 = true then xqJ (xM S mX4_rowAt [.ref x1, .int x4] h) xth fun v4 h3 => if xOb h3 x2 4 = true then xqJ (xM S mX4_rowAt [.ref x2, .int x4] h3) xth fun v7 h6 => if xOb h6 x3 4 = true then xqJ (xM S mX4_rowAt [.ref x3, .int x4] h6) xth fun v10 h9 => if xOb h9 x0 4 = true then xqV (xM S mX4_putRow [.ref x0, .int x4, .long (((v4 &&& v7) ||| (v4 &&& v10)) ||| (v7 &&& v10))] h9) xth fun h12 => xlet (x4 + (1 : Int32)) fun v14 => (xden S mX4_drawMajority 3 [(0, .ref x0), (1, .ref x1), (2, .ref x2), (3, .ref x3), (4, .int v14)] [] h12) else none else none else none else none)) (xden S mX4_drawMajority 3 [(0, .ref x0), (1, .ref x1), (2, .ref x2), (3, .ref x3), (4, .int x4)] [] h) := by
  refine l_loc dX4_drawMajority_3 rfl rfl ?_
  refine l_loc dX4_drawMajority_5 rfl rfl ?_
  refine l_gi dX4_drawMajority_6 fl_4_13 (fun v1 => ?_)
  refine l_cge (t := 65) dX4_drawMajority_9 rfl ?_ ?_
  · exact l_end dX4_drawMajority_65 rfl rfl
  · refine l_loc dX4_drawMajority_12 rfl rfl ?_
    refine l_loc dX4_drawMajority_13 rfl rfl ?_
    refine l_ob fun q2 => ?_
    refine l_cJ dX4_drawMajority_15 rfl rfl rfl (l_xv cl_4_30 ko_mX4_rowAt rfl rfl rfl q2) rfl rfl nm_mX4_rowAt (xhE_th rfl) (fun v4 h3 => ?_)
    refine l_loc (al1 := [(5, .long v4), (0, .ref x0), (1, .ref x1), (2, .ref x2), (3, .ref x3), (4, .int x4)]) dX4_drawMajority_18 rfl rfl ?_
    refine l_loc dX4_drawMajority_20 rfl rfl ?_
    refine l_loc dX4_drawMajority_21 rfl rfl ?_
    refine l_ob fun q5 => ?_
    refine l_cJ dX4_drawMajority_23 rfl rfl rfl (l_xv cl_4_30 ko_mX4_rowAt rfl rfl rfl q5) rfl rfl nm_mX4_rowAt (xhE_th rfl) (fun v7 h6 => ?_)
    refine l_loc (al1 := [(7, .long v7), (5, .long v4), (0, .ref x0), (1, .ref x1), (2, .ref x2), (3, .ref x3), (4, .int x4)]) dX4_drawMajority_26 rfl rfl ?_
    refine l_loc dX4_drawMajority_28 rfl rfl ?_
    refine l_loc dX4_drawMajority_29 rfl rfl ?_
    refine l_ob fun q8 => ?_
    refine l_cJ dX4_drawMajority_31 rfl rfl rfl (l_xv cl_4_30 ko_mX4_rowAt rfl rfl rfl q8) rfl rfl nm_mX4_rowAt (xhE_th rfl) (fun v10 h9 => ?_)
    refine l_loc (al1 := [(9, .long v10), (7, .long v7), (5, .long v4), (0, .ref x0), (1, .ref x1), (2, .ref x2), (3, .ref x3), (4, .int x4)]) dX4_drawMajority_34 rfl rfl ?_
    refine l_loc dX4_drawMajority_36 rfl rfl ?_
    refine l_loc dX4_drawMajority_37 rfl rfl ?_
    refine l_loc dX4_drawMajority_39 rfl rfl ?_
    refine l_loc dX4_drawMajority_41 rfl rfl ?_
    refine l_pure dX4_drawMajority_43 rfl rfl ?_
    refine l_loc dX4_drawMajority_44 rfl rfl ?_
    refine l_loc dX4_drawMajority_46 rfl rfl ?_
    refine l_pure dX4_drawMajority_48 rfl rfl ?_
    refine l_pure dX4_drawMajority_49 rfl rfl ?_
    refine l_loc dX4_drawMajority_50 rfl rfl ?_
    refine l_loc dX4_drawMajority_52 rfl rfl ?_
    refine l_pure dX4_drawMajority_54 rfl rfl ?_
    refine l_pure dX4_drawMajority_55 rfl rfl ?_
    refine l_ob fun q11 => ?_
    refine l_cV dX4_drawMajority_56 rfl rfl rfl (l_xv cl_4_33 ko_mX4_putRow rfl rfl rfl q11) rfl rfl nm_mX4_putRow (xhE_th rfl) (fun h12 => ?_)
    refine l_incl (al1 := fun v14 => [(4, .int v14), (9, .long v10), (7, .long v7), (5, .long v4), (0, .ref x0), (1, .ref x1), (2, .ref x2), (3, .ref x3)]) dX4_drawMajority_59 rfl kI_1 rfl (fun _ => rfl) (fun v14 => ?_)
    refine l_goto (t := 3) dX4_drawMajority_62 rfl ?_
    exact l_al rfl ⟨rfl, rfl, rfl, rfl, rfl, trivial⟩
set_option maxRecDepth 16000 in
theorem w_X4_lineCount (S : xS) (x0 : Nat) (h : xH) : xle ((xGi h x0 4 1).bind fun v1 => if xOb h x0 4 = true then xqI (xM S mX4_linesUpTo [.ref x0, .int (v1 - (1 : Int32))] h) xth fun v4 h3 => some (.inl (some (.int v4)), h3, 0, 0) else none) (xM S mX4_lineCount [.ref x0] h) := by
  show xle _ (xden S mX4_lineCount 0 [(0, .ref x0)] [] h)
  refine l_loc dX4_lineCount_0 rfl rfl ?_
  refine l_loc dX4_lineCount_1 rfl rfl ?_
  refine l_gi dX4_lineCount_2 fl_4_13 (fun v1 => ?_)
  refine l_ic dX4_lineCount_5 kI_1 ?_
  refine l_pure dX4_lineCount_6 rfl rfl ?_
  refine l_ob fun q2 => ?_
  refine l_cI dX4_lineCount_7 rfl rfl rfl (l_xv cl_4_78 ko_mX4_linesUpTo rfl rfl rfl q2) rfl rfl nm_mX4_linesUpTo (xhE_th rfl) (fun v4 h3 => ?_)
  exact l_iretn dX4_lineCount_10 rfl (by rfl)
theorem w_X4_lineStart (S : xS) (x0 : Nat) (x1 : Int32) (h : xH) : xle (xden S mX4_lineStart 4 [(0, .ref x0), (1, .int x1), (2, .int (0 : Int32)), (3, .int (0 : Int32))] [] h) (xM S mX4_lineStart [.ref x0, .int x1] h) := by
  show xle _ (xden S mX4_lineStart 0 [(0, .ref x0), (1, .int x1)] [] h)
  refine l_ic dX4_lineStart_0 kI_0 ?_
  refine l_loc (al1 := [(2, .int (0 : Int32)), (0, .ref x0), (1, .int x1)]) dX4_lineStart_1 rfl rfl ?_
  refine l_ic dX4_lineStart_2 kI_0 ?_
  refine l_loc (al1 := [(3, .int (0 : Int32)), (2, .int (0 : Int32)), (0, .ref x0), (1, .int x1)]) dX4_lineStart_3 rfl rfl ?_
  exact l_al rfl ⟨rfl, rfl, rfl, rfl, trivial⟩
set_option maxRecDepth 16000 in
theorem w_X4_lineStart_4 (S : xS) (x0 : Nat) (x1 : Int32) (x2 : Int32) (x3 : Int32) (h : xH) : xle ((xGi h x0 4 1).bind fun v1 => if v1 ≤ x3 then (some (.inl (some (.int (-1 : Int32))), h, 0, 0)) else (if xOb h x0 4 = true then xqI (xM S mX4_startsLine [.ref x0, .int x3] h) xth fun v4 h3 => if v4 = 0 then (xlet (x3 + (1 : Int32)) fun v5 => (xden S mX4_lineStart 4 [(0, .ref x0), (1, .int x1), (2, .int x2), (3, .int v5)] [] h3)) else (if ¬ x2 = x1 then (xlet (x2 + (1 : Int32)) fun v6 => xlet (x3 + (1 : Int32)) fun v7 => (xden S mX4_lineStart 4 [(0, .ref x0), (1, .int x1), (2, .int v6), (3, .int v7)] [] h3)) else (some (.inl (some (.int x3)), h3, 0, 0))) else none)) (xden S mX4_lineStart 4 [(0, .ref x0), (1, .int x1), (2, .int x2), (3, .int x3)] [] h) := by
  refine l_loc dX4_lineStart_4 rfl rfl ?_
  refine l_loc dX4_lineStart_5 rfl rfl ?_
  refine l_gi dX4_lineStart_6 fl_4_13 (fun v1 => ?_)
  refine l_cge (t := 36) dX4_lineStart_9 rfl ?_ ?_
  · refine l_ic dX4_lineStart_36 kI_m1 ?_
    exact l_iretn dX4_lineStart_37 rfl (by rfl)
  · refine l_loc dX4_lineStart_12 rfl rfl ?_
    refine l_loc dX4_lineStart_13 rfl rfl ?_
    refine l_ob fun q2 => ?_
    refine l_cI dX4_lineStart_14 rfl rfl rfl (l_xv cl_4_82 ko_mX4_startsLine rfl rfl rfl q2) rfl rfl nm_mX4_startsLine (xhE_th rfl) (fun v4 h3 => ?_)
    refine l_ieq (t := 30) dX4_lineStart_17 rfl ?_ ?_
    · refine l_incl (al1 := fun v5 => [(3, .int v5), (0, .ref x0), (1, .int x1), (2, .int x2)]) dX4_lineStart_30 rfl kI_1 rfl (fun _ => rfl) (fun v5 => ?_)
      refine l_goto (t := 4) dX4_lineStart_33 rfl ?_
      exact l_al rfl ⟨rfl, rfl, rfl, rfl, trivial⟩
    · refine l_loc dX4_lineStart_20 rfl rfl ?_
      refine l_loc dX4_lineStart_21 rfl rfl ?_
      refine l_cne (t := 27) dX4_lineStart_22 rfl ?_ ?_
      · refine l_incl (al1 := fun v6 => [(2, .int v6), (0, .ref x0), (1, .int x1), (3, .int x3)]) dX4_lineStart_27 rfl kI_1 rfl (fun _ => rfl) (fun v6 => ?_)
        refine l_incl (al1 := fun v7 => [(3, .int v7), (2, .int v6), (0, .ref x0), (1, .int x1)]) dX4_lineStart_30 rfl kI_1 rfl (fun _ => rfl) (fun v7 => ?_)
        refine l_goto (t := 4) dX4_lineStart_33 rfl ?_
        exact l_al rfl ⟨rfl, rfl, rfl, rfl, trivial⟩
      · refine l_loc dX4_lineStart_25 rfl rfl ?_
        exact l_iretn dX4_lineStart_26 rfl (by rfl)
theorem w_X4_lineEnd (S : xS) (x0 : Nat) (x1 : Int32) (h : xH) : xle (xden S mX4_lineEnd 2 [(0, .ref x0), (2, .int x1)] [] h) (xM S mX4_lineEnd [.ref x0, .int x1] h) := by
  show xle _ (xden S mX4_lineEnd 0 [(0, .ref x0), (1, .int x1)] [] h)
  refine l_loc dX4_lineEnd_0 rfl rfl ?_
  refine l_loc (al1 := [(2, .int x1), (0, .ref x0), (1, .int x1)]) dX4_lineEnd_1 rfl rfl ?_
  exact l_al rfl ⟨rfl, rfl, trivial⟩
set_option maxRecDepth 16000 in
theorem w_X4_lineEnd_2 (S : xS) (x0 : Nat) (x2 : Int32) (h : xH) : xle ((xGi h x0 4 1).bind fun v1 => if v1 ≤ (x2 + (1 : Int32)) then (some (.inl (some (.int x2)), h, 0, 0)) else (if xOb h x0 4 = true then xqJ (xM S mX4_rowAt [.ref x0, .int (x2 + (1 : Int32))] h) xth fun v4 h3 => if (lg_cmp v4 (0 : Int64)) = 0 then (some (.inl (some (.int x2)), h3, 0, 0)) else (xlet (x2 + (1 : Int32)) fun v5 => (xden S mX4_lineEnd 2 [(0, .ref x0), (2, .int v5)] [] h3)) else none)) (xden S mX4_lineEnd 2 [(0, .ref x0), (2, .int x2)] [] h) := by
  refine l_loc dX4_lineEnd_2 rfl rfl ?_
  refine l_ic dX4_lineEnd_3 kI_1 ?_
  refine l_pure dX4_lineEnd_4 rfl rfl ?_
  refine l_loc dX4_lineEnd_5 rfl rfl ?_
  refine l_gi dX4_lineEnd_6 fl_4_13 (fun v1 => ?_)
  refine l_cge (t := 30) dX4_lineEnd_9 rfl ?_ ?_
  · refine l_loc dX4_lineEnd_30 rfl rfl ?_
    exact l_iretn dX4_lineEnd_31 rfl (by rfl)
  · refine l_loc dX4_lineEnd_12 rfl rfl ?_
    refine l_loc dX4_lineEnd_13 rfl rfl ?_
    refine l_ic dX4_lineEnd_14 kI_1 ?_
    refine l_pure dX4_lineEnd_15 rfl rfl ?_
    refine l_ob fun q2 => ?_
    refine l_cJ dX4_lineEnd_16 rfl rfl rfl (l_xv cl_4_30 ko_mX4_rowAt rfl rfl rfl q2) rfl rfl nm_mX4_rowAt (xhE_th rfl) (fun v4 h3 => ?_)
    refine l_lc0 dX4_lineEnd_19 ?_
    refine l_pure dX4_lineEnd_20 rfl rfl ?_
    refine l_ieq (t := 30) dX4_lineEnd_21 rfl ?_ ?_
    · refine l_loc dX4_lineEnd_30 rfl rfl ?_
      exact l_iretn dX4_lineEnd_31 rfl (by rfl)
    · refine l_incl (al1 := fun v5 => [(2, .int v5), (0, .ref x0)]) dX4_lineEnd_24 rfl kI_1 rfl (fun _ => rfl) (fun v5 => ?_)
      refine l_goto (t := 2) dX4_lineEnd_27 rfl ?_
      exact l_al rfl ⟨rfl, rfl, trivial⟩
set_option maxRecDepth 16000 in
theorem w_X4_wordCount (S : xS) (x0 : Nat) (x1 : Int32) (x2 : Int32) (h : xH) : xle (if xOb h x0 4 = true then xqI (xM S mX4_lineEnd [.ref x0, .int x1] h) xth fun v3 h2 => (xden S mX4_wordCount 12 [(0, .ref x0), (2, .int x2), (3, .int v3), (4, .long (0 : Int64)), (6, .int x1)] [] h2) else none) (xM S mX4_wordCount [.ref x0, .int x1, .int x2] h) := by
  show xle _ (xden S mX4_wordCount 0 [(0, .ref x0), (1, .int x1), (2, .int x2)] [] h)
  refine l_loc dX4_wordCount_0 rfl rfl ?_
  refine l_loc dX4_wordCount_1 rfl rfl ?_
  refine l_ob fun q1 => ?_
  refine l_cI dX4_wordCount_2 rfl rfl rfl (l_xv cl_4_86 ko_mX4_lineEnd rfl rfl rfl q1) rfl rfl nm_mX4_lineEnd (xhE_th rfl) (fun v3 h2 => ?_)
  refine l_loc (al1 := [(3, .int v3), (0, .ref x0), (1, .int x1), (2, .int x2)]) dX4_wordCount_5 rfl rfl ?_
  refine l_lc0 dX4_wordCount_6 ?_
  refine l_loc (al1 := [(4, .long (0 : Int64)), (3, .int v3), (0, .ref x0), (1, .int x1), (2, .int x2)]) dX4_wordCount_7 rfl rfl ?_
  refine l_loc dX4_wordCount_9 rfl rfl ?_
  refine l_loc (al1 := [(6, .int x1), (4, .long (0 : Int64)), (3, .int v3), (0, .ref x0), (1, .int x1), (2, .int x2)]) dX4_wordCount_10 rfl rfl ?_
  exact l_al rfl ⟨rfl, rfl, rfl, rfl, rfl, trivial⟩
set_option maxRecDepth 16000 in
theorem w_X4_wordCount_12 (S : xS) (x0 : Nat) (x2 : Int32) (x3 : Int32) (x4 : Int64) (x6 : Int32) (h : xH) : xle (if x3 < x6 then (xden S mX4_wordCount 44 [(0, .ref x0), (2, .int x2), (4, .long x4), (6, .int (0 : Int32)), (7, .int (-1 : Int32)), (8, .int (0 : Int32))] [] h) else (if xOb h x0 4 = true then xqJ (xM S mX4_rowAt [.ref x0, .int x6] h) xth fun v3 h2 => xlet (x4 ||| v3) fun v4 => xlet (x6 + (1 : Int32)) fun v5 => (xden S mX4_wordCount 12 [(0, .ref x0), (2, .int x2), (3, .int x3), (4, .long v4), (6, .int v5)] [] h2) else none)) (xden S mX4_wordCount 12 [(0, .ref x0), (2, .int x2), (3, .int x3), (4, .long x4), (6, .int x6)] [] h) := by
  refine l_loc dX4_wordCount_12 rfl rfl ?_
  refine l_loc dX4_wordCount_14 rfl rfl ?_
  refine l_cgt (t := 35) dX4_wordCount_15 rfl ?_ ?_
  · refine l_ic dX4_wordCount_35 kI_0 ?_
    refine l_loc (al1 := [(6, .int (0 : Int32)), (0, .ref x0), (2, .int x2), (3, .int x3), (4, .long x4)]) dX4_wordCount_36 rfl rfl ?_
    refine l_ic dX4_wordCount_38 kI_m1 ?_
    refine l_loc (al1 := [(7, .int (-1 : Int32)), (6, .int (0 : Int32)), (0, .ref x0), (2, .int x2), (3, .int x3), (4, .long x4)]) dX4_wordCount_39 rfl rfl ?_
    refine l_ic dX4_wordCount_41 kI_0 ?_
    refine l_loc (al1 := [(8, .int (0 : Int32)), (7, .int (-1 : Int32)), (6, .int (0 : Int32)), (0, .ref x0), (2, .int x2), (3, .int x3), (4, .long x4)]) dX4_wordCount_42 rfl rfl ?_
    exact l_al rfl ⟨rfl, rfl, rfl, rfl, rfl, rfl, trivial⟩
  · refine l_loc dX4_wordCount_18 rfl rfl ?_
    refine l_loc dX4_wordCount_20 rfl rfl ?_
    refine l_loc dX4_wordCount_21 rfl rfl ?_
    refine l_ob fun q1 => ?_
    refine l_cJ dX4_wordCount_23 rfl rfl rfl (l_xv cl_4_30 ko_mX4_rowAt rfl rfl rfl q1) rfl rfl nm_mX4_rowAt (xhE_th rfl) (fun v3 h2 => ?_)
    refine l_pure dX4_wordCount_26 rfl rfl ?_
    refine l_lsl (al1 := fun v4 => [(4, .long v4), (0, .ref x0), (2, .int x2), (3, .int x3), (6, .int x6)]) dX4_wordCount_27 rfl (fun _ => rfl) (fun v4 => ?_)
    refine l_incl (al1 := fun v5 => [(6, .int v5), (4, .long v4), (0, .ref x0), (2, .int x2), (3, .int x3)]) dX4_wordCount_29 rfl kI_1 rfl (fun _ => rfl) (fun v5 => ?_)
    refine l_goto (t := 12) dX4_wordCount_32 rfl ?_
    exact l_al rfl ⟨rfl, rfl, rfl, rfl, rfl, trivial⟩
set_option maxRecDepth 16000 in
theorem w_X4_wordCount_44 (S : xS) (x0 : Nat) (x2 : Int32) (x4 : Int64) (x6 : Int32) (x7 : Int32) (x8 : Int32) (h : xH) : xle ((xGi h x0 4 0).bind fun v1 => if v1 ≤ x8 then (some (.inl (some (.int x6)), h, 0, 0)) else (if (lg_cmp (((x4.toUInt64 >>> (x8.toInt64.toUInt64 &&& Int64.toUInt64 63)).toInt64) &&& (1 : Int64)) (0 : Int64)) = 0 then (xlet (x8 + (1 : Int32)) fun v2 => (xden S mX4_wordCount 44 [(0, .ref x0), (2, .int x2), (4, .long x4), (6, .int x6), (7, .int x7), (8, .int v2)] [] h)) else (if x6 = 0 then (xlet (x6 + (1 : Int32)) fun v3 => xlet (x8 + (1 : Int32)) fun v4 => (xden S mX4_wordCount 44 [(0, .ref x0), (2, .int x2), (4, .long x4), (6, .int v3), (7, .int x8), (8, .int v4)] [] h)) else (if ((x8 - x7) - (1 : Int32)) < x2 then (xlet (x8 + (1 : Int32)) fun v5 => (xden S mX4_wordCount 44 [(0, .ref x0), (2, .int x2), (4, .long x4), (6, .int x6), (7, .int x8), (8, .int v5)] [] h)) else (xlet (x6 + (1 : Int32)) fun v6 => xlet (x8 + (1 : Int32)) fun v7 => (xden S mX4_wordCount 44 [(0, .ref x0), (2, .int x2), (4, .long x4), (6, .int v6), (7, .int x8), (8, .int v7)] [] h)))))) (xden S mX4_wordCount 44 [(0, .ref x0), (2, .int x2), (4, .long x4), (6, .int x6), (7, .int x7), (8, .int x8)] [] h) := by
  refine l_loc dX4_wordCount_44 rfl rfl ?_
  refine l_loc dX4_wordCount_46 rfl rfl ?_
  refine l_gi dX4_wordCount_47 fl_4_7 (fun v1 => ?_)
  refine l_cge (t := 94) dX4_wordCount_50 rfl ?_ ?_
  · refine l_loc dX4_wordCount_94 rfl rfl ?_
    exact l_iretn dX4_wordCount_96 rfl (by rfl)
  · refine l_loc dX4_wordCount_53 rfl rfl ?_
    refine l_loc dX4_wordCount_55 rfl rfl ?_
    refine l_pure dX4_wordCount_57 rfl rfl ?_
    refine l_lc1 dX4_wordCount_58 ?_
    refine l_pure dX4_wordCount_59 rfl rfl ?_
    refine l_lc0 dX4_wordCount_60 ?_
    refine l_pure dX4_wordCount_61 rfl rfl ?_
    refine l_ieq (t := 88) dX4_wordCount_62 rfl ?_ ?_
    · refine l_incl (al1 := fun v2 => [(8, .int v2), (0, .ref x0), (2, .int x2), (4, .long x4), (6, .int x6), (7, .int x7)]) dX4_wordCount_88 rfl kI_1 rfl (fun _ => rfl) (fun v2 => ?_)
      refine l_goto (t := 44) dX4_wordCount_91 rfl ?_
      exact l_al rfl ⟨rfl, rfl, rfl, rfl, rfl, rfl, trivial⟩
    · refine l_loc dX4_wordCount_65 rfl rfl ?_
      refine l_ieq (t := 81) dX4_wordCount_67 rfl ?_ ?_
      · refine l_incl (al1 := fun v3 => [(6, .int v3), (0, .ref x0), (2, .int x2), (4, .long x4), (7, .int x7), (8, .int x8)]) dX4_wordCount_81 rfl kI_1 rfl (fun _ => rfl) (fun v3 => ?_)
        refine l_loc dX4_wordCount_84 rfl rfl ?_
        refine l_loc (al1 := [(7, .int x8), (6, .int v3), (0, .ref x0), (2, .int x2), (4, .long x4), (8, .int x8)]) dX4_wordCount_86 rfl rfl ?_
        refine l_incl (al1 := fun v4 => [(8, .int v4), (7, .int x8), (6, .int v3), (0, .ref x0), (2, .int x2), (4, .long x4)]) dX4_wordCount_88 rfl kI_1 rfl (fun _ => rfl) (fun v4 => ?_)
        refine l_goto (t := 44) dX4_wordCount_91 rfl ?_
        exact l_al rfl ⟨rfl, rfl, rfl, rfl, rfl, rfl, trivial⟩
      · refine l_loc dX4_wordCount_70 rfl rfl ?_
        refine l_loc dX4_wordCount_72 rfl rfl ?_
        refine l_pure dX4_wordCount_74 rfl rfl ?_
        refine l_ic dX4_wordCount_75 kI_1 ?_
        refine l_pure dX4_wordCount_76 rfl rfl ?_
        refine l_loc dX4_wordCount_77 rfl rfl ?_
        refine l_clt (t := 84) dX4_wordCount_78 rfl ?_ ?_
        · refine l_loc dX4_wordCount_84 rfl rfl ?_
          refine l_loc (al1 := [(7, .int x8), (0, .ref x0), (2, .int x2), (4, .long x4), (6, .int x6), (8, .int x8)]) dX4_wordCount_86 rfl rfl ?_
          refine l_incl (al1 := fun v5 => [(8, .int v5), (7, .int x8), (0, .ref x0), (2, .int x2), (4, .long x4), (6, .int x6)]) dX4_wordCount_88 rfl kI_1 rfl (fun _ => rfl) (fun v5 => ?_)
          refine l_goto (t := 44) dX4_wordCount_91 rfl ?_
          exact l_al rfl ⟨rfl, rfl, rfl, rfl, rfl, rfl, trivial⟩
        · refine l_incl (al1 := fun v6 => [(6, .int v6), (0, .ref x0), (2, .int x2), (4, .long x4), (7, .int x7), (8, .int x8)]) dX4_wordCount_81 rfl kI_1 rfl (fun _ => rfl) (fun v6 => ?_)
          refine l_loc dX4_wordCount_84 rfl rfl ?_
          refine l_loc (al1 := [(7, .int x8), (6, .int v6), (0, .ref x0), (2, .int x2), (4, .long x4), (8, .int x8)]) dX4_wordCount_86 rfl rfl ?_
          refine l_incl (al1 := fun v7 => [(8, .int v7), (7, .int x8), (6, .int v6), (0, .ref x0), (2, .int x2), (4, .long x4)]) dX4_wordCount_88 rfl kI_1 rfl (fun _ => rfl) (fun v7 => ?_)
          refine l_goto (t := 44) dX4_wordCount_91 rfl ?_
          exact l_al rfl ⟨rfl, rfl, rfl, rfl, rfl, rfl, trivial⟩
set_option maxRecDepth 16000 in
theorem w_X3_isBare (S : xS) (x0 : Nat) (h : xH) : xle ((xGi h x0 3 3).bind fun v1 => if ¬ v1 = 0 then (some (.inl (some (.int (0 : Int32))), h, 0, 0)) else (some (.inl (some (.int (1 : Int32))), h, 0, 0))) (xM S mX3_isBare [.ref x0] h) := by
  show xle _ (xden S mX3_isBare 0 [(0, .ref x0)] [] h)
  refine l_loc dX3_isBare_0 rfl rfl ?_
  refine l_gi dX3_isBare_1 fl_3_24 (fun v1 => ?_)
  refine l_ine (t := 11) dX3_isBare_4 rfl ?_ ?_
  · refine l_ic dX3_isBare_11 kI_0 ?_
    exact l_iretn dX3_isBare_12 rfl (by decide)
  · refine l_ic dX3_isBare_7 kI_1 ?_
    refine l_goto (t := 12) dX3_isBare_8 rfl ?_
    exact l_iretn dX3_isBare_12 rfl (by decide)
set_option maxRecDepth 16000 in
theorem w_X3_restoreTo (S : xS) (x0 : Nat) (x1 : Nat) (h : xH) : xle ((xGi h x0 3 3).bind fun v1 => if v1 ≤ 0 then ((xGi h x0 3 3).bind fun v2 => some (.inl (some (.int v2)), h, 0, 0)) else ((xGi h x0 3 3).bind fun v3 => (xP false 3 h x0 3 3 (.int (v3 - (1 : Int32)))).bind fun h4 => (xGi h4 x0 3 3).bind fun v5 => if xOb h4 x0 3 = true then xqI (xM S mX3_slotAt [.ref x0, .int v5] h4) xth fun v8 h7 => (xGr h7 x0 3 1).bind fun v9 => (xRi h7 0 v9 v8).bind fun v10 => if v10 < 0 then ((xGi h7 x0 3 3).bind fun v11 => some (.inl (some (.int v11)), h7, 0, 0)) else ((xRz h7 x1).bind fun v12 => if v12 ≤ v10 then ((xGi h7 x0 3 3).bind fun v13 => some (.inl (some (.int v13)), h7, 0, 0)) else ((xRr h7 x1 v10).bind fun v14 => (xGr h7 x0 3 0).bind fun v15 => (xRr h7 v15 v8).bind fun v16 => if xOb h7 v14 4 = true then xqV (xM S mX4_takeFrom [.ref v14, .ref v16] h7) xth fun h18 => (xGi h18 x0 3 3).bind fun v20 => some (.inl (some (.int v20)), h18, 0, 0) else none)) else none)) (xM S mX3_restoreTo [.ref x0, .ref x1] h) := by
  show xle _ (xden S mX3_restoreTo 0 [(0, .ref x0), (1, .ref x1)] [] h)
  refine l_loc dX3_restoreTo_0 rfl rfl ?_
  refine l_gi dX3_restoreTo_1 fl_3_24 (fun v1 => ?_)
  refine l_ile (t := 55) dX3_restoreTo_4 rfl ?_ ?_
  · refine l_loc dX3_restoreTo_55 rfl rfl ?_
    refine l_gi dX3_restoreTo_56 fl_3_24 (fun v2 => ?_)
    exact l_iretn dX3_restoreTo_59 rfl (by rfl)
  · refine l_loc dX3_restoreTo_7 rfl rfl ?_
    refine l_pure dX3_restoreTo_8 rfl rfl ?_
    refine l_gi dX3_restoreTo_9 fl_3_24 (fun v3 => ?_)
    refine l_ic dX3_restoreTo_12 kI_1 ?_
    refine l_pure dX3_restoreTo_13 rfl rfl ?_
    refine l_pf dX3_restoreTo_14 fl_3_24 (ini := false) nm_mX3_restoreTo (fun h4 => ?_)
    refine l_loc dX3_restoreTo_17 rfl rfl ?_
    refine l_loc dX3_restoreTo_18 rfl rfl ?_
    refine l_gi dX3_restoreTo_19 fl_3_24 (fun v5 => ?_)
    refine l_ob fun q6 => ?_
    refine l_cI dX3_restoreTo_22 rfl rfl rfl (l_xv cl_3_37 ko_mX3_slotAt rfl rfl rfl q6) rfl rfl nm_mX3_slotAt (xhE_th rfl) (fun v8 h7 => ?_)
    refine l_loc (al1 := [(2, .int v8), (0, .ref x0), (1, .ref x1)]) dX3_restoreTo_25 rfl rfl ?_
    refine l_loc dX3_restoreTo_26 rfl rfl ?_
    refine l_gr dX3_restoreTo_27 fl_3_17 (fun v9 => ?_)
    refine l_loc dX3_restoreTo_30 rfl rfl ?_
    refine l_ri dX3_restoreTo_31 (fun v10 => ?_)
    refine l_loc (al1 := [(3, .int v10), (2, .int v8), (0, .ref x0), (1, .ref x1)]) dX3_restoreTo_32 rfl rfl ?_
    refine l_loc dX3_restoreTo_33 rfl rfl ?_
    refine l_ilt (t := 55) dX3_restoreTo_34 rfl ?_ ?_
    · refine l_loc dX3_restoreTo_55 rfl rfl ?_
      refine l_gi dX3_restoreTo_56 fl_3_24 (fun v11 => ?_)
      exact l_iretn dX3_restoreTo_59 rfl (by rfl)
    · refine l_loc dX3_restoreTo_37 rfl rfl ?_
      refine l_loc dX3_restoreTo_38 rfl rfl ?_
      refine l_ln dX3_restoreTo_39 (fun v12 => ?_)
      refine l_cge (t := 55) dX3_restoreTo_40 rfl ?_ ?_
      · refine l_loc dX3_restoreTo_55 rfl rfl ?_
        refine l_gi dX3_restoreTo_56 fl_3_24 (fun v13 => ?_)
        exact l_iretn dX3_restoreTo_59 rfl (by rfl)
      · refine l_loc dX3_restoreTo_43 rfl rfl ?_
        refine l_loc dX3_restoreTo_44 rfl rfl ?_
        refine l_rr dX3_restoreTo_45 (fun v14 => ?_)
        refine l_loc dX3_restoreTo_46 rfl rfl ?_
        refine l_gr dX3_restoreTo_47 fl_3_11 (fun v15 => ?_)
        refine l_loc dX3_restoreTo_50 rfl rfl ?_
        refine l_rr dX3_restoreTo_51 (fun v16 => ?_)
        refine l_ob fun q17 => ?_
        refine l_cV dX3_restoreTo_52 rfl rfl rfl (l_xv cl_3_41 ko_mX4_takeFrom rfl rfl rfl q17) rfl rfl nm_mX4_takeFrom (xhE_th rfl) (fun h18 => ?_)
        refine l_loc dX3_restoreTo_55 rfl rfl ?_
        refine l_gi dX3_restoreTo_56 fl_3_24 (fun v20 => ?_)
        exact l_iretn dX3_restoreTo_59 rfl (by rfl)
theorem w_X4_stampPart (S : xS) (x0 : Nat) (x1 : Nat) (h : xH) : xle (xden S mX4_stampPart 2 [(0, .ref x0), (1, .ref x1), (2, .int (0 : Int32))] [] h) (xM S mX4_stampPart [.ref x0, .ref x1] h) := by
  show xle _ (xden S mX4_stampPart 0 [(0, .ref x0), (1, .ref x1)] [] h)
  refine l_ic dX4_stampPart_0 kI_0 ?_
  refine l_loc (al1 := [(2, .int (0 : Int32)), (0, .ref x0), (1, .ref x1)]) dX4_stampPart_1 rfl rfl ?_
  exact l_al rfl ⟨rfl, rfl, rfl, trivial⟩
set_option maxRecDepth 16000 in
theorem w_X4_stampPart_2 (S : xS) (x0 : Nat) (x1 : Nat) (x2 : Int32) (h : xH) : xle ((xGi h x1 5 5).bind fun v1 => if v1 ≤ x2 then (some (.inl none, h, 0, 0)) else (if xOb h x1 5 = true then xqJ (xM S mX5_shapeRow [.ref x1, .int x2] h) xth fun v4 h3 => (xGi h3 x1 5 2).bind fun v5 => xqJ (xM S mX4_moved [.long v4, .int v5] h3) xth fun v7 h6 => (xGi h6 x1 5 3).bind fun v8 => xlet (v8 + x2) fun v9 => (xGi h6 x1 5 0).bind fun v10 => if v10 = 0 then (if xOb h6 x0 4 = true then xqJ (xM S mX4_rowAt [.ref x0, .int v9] h6) xth fun v13 h12 => if xOb h12 x0 4 = true then xqV (xM S mX4_putRow [.ref x0, .int v9, .long (v13 &&& (v7 ^^^ (-1 : Int64)))] h12) xth fun h15 => xlet (x2 + (1 : Int32)) fun v17 => (xden S mX4_stampPart 2 [(0, .ref x0), (1, .ref x1), (2, .int v17)] [] h15) else none else none) else (if xOb h6 x0 4 = true then xqJ (xM S mX4_rowAt [.ref x0, .int v9] h6) xth fun v20 h19 => if xOb h19 x0 4 = true then xqV (xM S mX4_putRow [.ref x0, .int v9, .long (v20 ||| v7)] h19) xth fun h22 => xlet (x2 + (1 : Int32)) fun v24 => (xden S mX4_stampPart 2 [(0, .ref x0), (1, .ref x1), (2, .int v24)] [] h22) else none else none) else none)) (xden S mX4_stampPart 2 [(0, .ref x0), (1, .ref x1), (2, .int x2)] [] h) := by
  refine l_loc dX4_stampPart_2 rfl rfl ?_
  refine l_loc dX4_stampPart_3 rfl rfl ?_
  refine l_gi dX4_stampPart_4 fl_4_62 (fun v1 => ?_)
  refine l_cge (t := 73) dX4_stampPart_7 rfl ?_ ?_
  · exact l_end dX4_stampPart_73 rfl rfl
  · refine l_loc dX4_stampPart_10 rfl rfl ?_
    refine l_loc dX4_stampPart_11 rfl rfl ?_
    refine l_ob fun q2 => ?_
    refine l_cJ dX4_stampPart_12 rfl rfl rfl (l_xv cl_4_65 ko_mX5_shapeRow rfl rfl rfl q2) rfl rfl nm_mX5_shapeRow (xhE_th rfl) (fun v4 h3 => ?_)
    refine l_loc dX4_stampPart_15 rfl rfl ?_
    refine l_gi dX4_stampPart_16 fl_4_68 (fun v5 => ?_)
    refine l_cJ dX4_stampPart_19 rfl rfl rfl (l_xs cl_4_51 ko_mX4_moved rfl rfl) rfl rfl nm_mX4_moved (xhE_th rfl) (fun v7 h6 => ?_)
    refine l_loc (al1 := [(3, .long v7), (0, .ref x0), (1, .ref x1), (2, .int x2)]) dX4_stampPart_22 rfl rfl ?_
    refine l_loc dX4_stampPart_23 rfl rfl ?_
    refine l_gi dX4_stampPart_24 fl_4_71 (fun v8 => ?_)
    refine l_loc dX4_stampPart_27 rfl rfl ?_
    refine l_pure dX4_stampPart_28 rfl rfl ?_
    refine l_isl (al1 := fun v9 => [(5, .int v9), (3, .long v7), (0, .ref x0), (1, .ref x1), (2, .int x2)]) dX4_stampPart_29 rfl (fun _ => rfl) (fun v9 => ?_)
    refine l_loc dX4_stampPart_31 rfl rfl ?_
    refine l_loc dX4_stampPart_32 rfl rfl ?_
    refine l_loc dX4_stampPart_34 rfl rfl ?_
    refine l_gi dX4_stampPart_35 fl_4_74 (fun v10 => ?_)
    refine l_ieq (t := 52) dX4_stampPart_38 rfl ?_ ?_
    · refine l_loc dX4_stampPart_52 rfl rfl ?_
      refine l_loc dX4_stampPart_53 rfl rfl ?_
      refine l_ob fun q11 => ?_
      refine l_cJ dX4_stampPart_55 rfl rfl rfl (l_xv cl_4_30 ko_mX4_rowAt rfl rfl rfl q11) rfl rfl nm_mX4_rowAt (xhE_th rfl) (fun v13 h12 => ?_)
      refine l_loc dX4_stampPart_58 rfl rfl ?_
      refine l_rd (st1 := [.long (-1 : Int64), .long v7, .long v13, .int v9, .ref x0]) dX4_stampPart_59 rfl rfl ?_
      refine l_pure dX4_stampPart_62 rfl rfl ?_
      refine l_pure dX4_stampPart_63 rfl rfl ?_
      refine l_ob fun q14 => ?_
      refine l_cV dX4_stampPart_64 rfl rfl rfl (l_xv cl_4_33 ko_mX4_putRow rfl rfl rfl q14) rfl rfl nm_mX4_putRow (xhE_th rfl) (fun h15 => ?_)
      refine l_incl (al1 := fun v17 => [(2, .int v17), (5, .int v9), (3, .long v7), (0, .ref x0), (1, .ref x1)]) dX4_stampPart_67 rfl kI_1 rfl (fun _ => rfl) (fun v17 => ?_)
      refine l_goto (t := 2) dX4_stampPart_70 rfl ?_
      exact l_al rfl ⟨rfl, rfl, rfl, trivial⟩
    · refine l_loc dX4_stampPart_41 rfl rfl ?_
      refine l_loc dX4_stampPart_42 rfl rfl ?_
      refine l_ob fun q18 => ?_
      refine l_cJ dX4_stampPart_44 rfl rfl rfl (l_xv cl_4_30 ko_mX4_rowAt rfl rfl rfl q18) rfl rfl nm_mX4_rowAt (xhE_th rfl) (fun v20 h19 => ?_)
      refine l_loc dX4_stampPart_47 rfl rfl ?_
      refine l_pure dX4_stampPart_48 rfl rfl ?_
      refine l_goto (t := 64) dX4_stampPart_49 rfl ?_
      refine l_ob fun q21 => ?_
      refine l_cV dX4_stampPart_64 rfl rfl rfl (l_xv cl_4_33 ko_mX4_putRow rfl rfl rfl q21) rfl rfl nm_mX4_putRow (xhE_th rfl) (fun h22 => ?_)
      refine l_incl (al1 := fun v24 => [(2, .int v24), (5, .int v9), (3, .long v7), (0, .ref x0), (1, .ref x1)]) dX4_stampPart_67 rfl kI_1 rfl (fun _ => rfl) (fun v24 => ?_)
      refine l_goto (t := 2) dX4_stampPart_70 rfl ?_
      exact l_al rfl ⟨rfl, rfl, rfl, trivial⟩

/-! ROWS OF METHODS, by program (wip/whole/wp.py, wpemit.py): each method as an expression -/
set_option maxRecDepth 16000 in
theorem w_L_cell (S : xS) (x1 : Int32) (h : xH) : xle (if (Int32.ofNat S.1) ≤ x1 then (some (.inl (some (.int (0 : Int32))), h, 0, 0)) else ((xRs S x1).bind fun v2 => some (.inl (some (.int v2)), h, 0, 0))) (xM S mL_cell [.retAddr 11, .int x1] h) := by
  show xle _ (xden S mL_cell 0 [(0, .retAddr 11), (1, .int x1)] [] h)
  refine l_loc dL_cell_0 rfl rfl ?_
  refine l_loc dL_cell_1 rfl rfl ?_
  refine l_ls dL_cell_2 ?_
  refine l_cge (t := 12) dL_cell_3 rfl ?_ ?_
  · refine l_ic dL_cell_12 kI_0 ?_
    exact l_iretn dL_cell_13 rfl (by rfl)
  · refine l_loc dL_cell_6 rfl rfl ?_
    refine l_loc dL_cell_7 rfl rfl ?_
    refine l_rs dL_cell_8 (fun v2 => ?_)
    refine l_goto (t := 13) dL_cell_9 rfl ?_
    exact l_iretn dL_cell_13 rfl (by rfl)
set_option maxRecDepth 16000 in
theorem w_L_row (S : xS) (x0 : Nat) (x1 : Int32) (x2 : Int32) (x3 : Nat) (h : xH) : xle (if xOb h x0 11 = true then xqJ (xM S mX12_row [.ref x0, .int x1, .int x2] h) (xhE S mL_row 5 [(0, .ref x0), (1, .int x1), (2, .int x2), (3, .ref x3)]) fun v3 h2 => (xWl h2 x3 (0 : Int32) v3).bind fun h4 => some (.inl (some (.int (0 : Int32))), h4, 0, 0) else none) (xM S mL_row [.ref x0, .int x1, .int x2, .ref x3] h) := by
  show xle _ (xden S mL_row 0 [(0, .ref x0), (1, .int x1), (2, .int x2), (3, .ref x3)] [] h)
  refine l_loc dL_row_0 rfl rfl ?_
  refine l_ic dL_row_1 kI_0 ?_
  refine l_loc dL_row_2 rfl rfl ?_
  refine l_loc dL_row_3 rfl rfl ?_
  refine l_loc dL_row_4 rfl rfl ?_
  refine l_ob fun q1 => ?_
  refine l_cJ dL_row_5 rfl rfl rfl (l_xv cl_14_7 ko_mX12_row rfl rfl rfl q1) rfl rfl nm_mX12_row rfl (fun v3 h2 => ?_)
  refine l_wl dL_row_8 (fun h4 => ?_)
  refine l_goto (t := 16) dL_row_9 rfl ?_
  refine l_ic dL_row_16 kI_0 ?_
  exact l_iretn dL_row_17 rfl (by rfl)
set_option maxRecDepth 16000 in
theorem w_L_row_12 (S : xS)  (h : xH) : xle (some (.inl (some (.int (1 : Int32))), h, 0, 0)) (xden S mL_row 12 [] [.retAddr 999] h) := by
  refine l_loc (al1 := [(4, .retAddr 999)]) dL_row_12 rfl rfl ?_
  refine l_ic dL_row_14 kI_1 ?_
  exact l_iretn dL_row_15 rfl (by rfl)
set_option maxRecDepth 16000 in
theorem w_L_setRow (S : xS) (x0 : Nat) (x1 : Int32) (x2 : Int32) (x3 : Int64) (x5 : Nat) (h : xH) : xle (if xOb h x0 11 = true then xqI (xM S mX12_setRow [.ref x0, .int x1, .int x2, .long x3] h) (xhE S mL_setRow 7 [(0, .ref x0), (1, .int x1), (2, .int x2), (3, .long x3), (5, .ref x5)]) fun v3 h2 => (xWl h2 x5 (0 : Int32) (v3.toInt64)).bind fun h4 => some (.inl (some (.int (0 : Int32))), h4, 0, 0) else none) (xM S mL_setRow [.ref x0, .int x1, .int x2, .long x3, .ref x5] h) := by
  show xle _ (xden S mL_setRow 0 [(0, .ref x0), (1, .int x1), (2, .int x2), (3, .long x3), (5, .ref x5)] [] h)
  refine l_loc dL_setRow_0 rfl rfl ?_
  refine l_ic dL_setRow_2 kI_0 ?_
  refine l_loc dL_setRow_3 rfl rfl ?_
  refine l_loc dL_setRow_4 rfl rfl ?_
  refine l_loc dL_setRow_5 rfl rfl ?_
  refine l_loc dL_setRow_6 rfl rfl ?_
  refine l_ob fun q1 => ?_
  refine l_cI dL_setRow_7 rfl rfl rfl (l_xv cl_14_15 ko_mX12_setRow rfl rfl rfl q1) rfl rfl nm_mX12_setRow rfl (fun v3 h2 => ?_)
  refine l_pure dL_setRow_10 rfl rfl ?_
  refine l_wl dL_setRow_11 (fun h4 => ?_)
  refine l_goto (t := 19) dL_setRow_12 rfl ?_
  refine l_ic dL_setRow_19 kI_0 ?_
  exact l_iretn dL_setRow_20 rfl (by rfl)
set_option maxRecDepth 16000 in
theorem w_L_setRow_15 (S : xS)  (h : xH) : xle (some (.inl (some (.int (1 : Int32))), h, 0, 0)) (xden S mL_setRow 15 [] [.retAddr 999] h) := by
  refine l_loc (al1 := [(6, .retAddr 999)]) dL_setRow_15 rfl rfl ?_
  refine l_ic dL_setRow_17 kI_1 ?_
  exact l_iretn dL_setRow_18 rfl (by rfl)
set_option maxRecDepth 16000 in
theorem w_L_fill (S : xS) (x0 : Nat) (x1 : Int32) (x2 : Int32) (x3 : Int32) (x4 : Int32) (x5 : Int32) (x6 : Int32) (x7 : Nat) (h : xH) : xle (if xOb h x0 11 = true then xqI (xM S mX12_fill [.ref x0, .int x1, .int x2, .int x3, .int x4, .int x5, .int x6] h) (xhE S mL_fill 13 [(0, .ref x0), (1, .int x1), (2, .int x2), (3, .int x3), (4, .int x4), (5, .int x5), (6, .int x6), (7, .ref x7)]) fun v3 h2 => (xWl h2 x7 (0 : Int32) (v3.toInt64)).bind fun h4 => some (.inl (some (.int (0 : Int32))), h4, 0, 0) else none) (xM S mL_fill [.ref x0, .int x1, .int x2, .int x3, .int x4, .int x5, .int x6, .ref x7] h) := by
  show xle _ (xden S mL_fill 0 [(0, .ref x0), (1, .int x1), (2, .int x2), (3, .int x3), (4, .int x4), (5, .int x5), (6, .int x6), (7, .ref x7)] [] h)
  refine l_loc dL_fill_0 rfl rfl ?_
  refine l_ic dL_fill_2 kI_0 ?_
  refine l_loc dL_fill_3 rfl rfl ?_
  refine l_loc dL_fill_4 rfl rfl ?_
  refine l_loc dL_fill_5 rfl rfl ?_
  refine l_loc dL_fill_6 rfl rfl ?_
  refine l_loc dL_fill_7 rfl rfl ?_
  refine l_loc dL_fill_9 rfl rfl ?_
  refine l_loc dL_fill_11 rfl rfl ?_
  refine l_ob fun q1 => ?_
  refine l_cI dL_fill_13 rfl rfl rfl (l_xv cl_14_19 ko_mX12_fill rfl rfl rfl q1) rfl rfl nm_mX12_fill rfl (fun v3 h2 => ?_)
  refine l_pure dL_fill_16 rfl rfl ?_
  refine l_wl dL_fill_17 (fun h4 => ?_)
  refine l_goto (t := 29) dL_fill_18 rfl ?_
  refine l_ic dL_fill_29 kI_0 ?_
  exact l_iretn dL_fill_30 rfl (by rfl)
set_option maxRecDepth 16000 in
theorem w_L_fill_21 (S : xS)  (h : xH) : xle (some (.inl (some (.int (1 : Int32))), h, 0, 0)) (xden S mL_fill 21 [] [.retAddr 999] h) := by
  refine l_loc (al1 := [(8, .retAddr 999)]) dL_fill_21 rfl rfl ?_
  refine l_ic dL_fill_23 kI_1 ?_
  exact l_iretn dL_fill_24 rfl (by rfl)
set_option maxRecDepth 16000 in
theorem w_L_fill_25 (S : xS)  (h : xH) : xle (some (.inl (some (.int (2 : Int32))), h, 0, 0)) (xden S mL_fill 25 [] [.retAddr 999] h) := by
  refine l_loc (al1 := [(8, .retAddr 999)]) dL_fill_25 rfl rfl ?_
  refine l_ic dL_fill_27 kI_2 ?_
  exact l_iretn dL_fill_28 rfl (by rfl)
set_option maxRecDepth 16000 in
theorem w_L_copy (S : xS) (x0 : Nat) (x1 : Int32) (x2 : Int32) (x3 : Int32) (x4 : Int32) (x5 : Nat) (h : xH) : xle (if xOb h x0 11 = true then xqI (xM S mX12_copy [.ref x0, .int x1, .int x2, .int x3, .int x4] h) (xhE S mL_copy 9 [(0, .ref x0), (1, .int x1), (2, .int x2), (3, .int x3), (4, .int x4), (5, .ref x5)]) fun v3 h2 => (xWl h2 x5 (0 : Int32) (v3.toInt64)).bind fun h4 => some (.inl (some (.int (0 : Int32))), h4, 0, 0) else none) (xM S mL_copy [.ref x0, .int x1, .int x2, .int x3, .int x4, .ref x5] h) := by
  show xle _ (xden S mL_copy 0 [(0, .ref x0), (1, .int x1), (2, .int x2), (3, .int x3), (4, .int x4), (5, .ref x5)] [] h)
  refine l_loc dL_copy_0 rfl rfl ?_
  refine l_ic dL_copy_2 kI_0 ?_
  refine l_loc dL_copy_3 rfl rfl ?_
  refine l_loc dL_copy_4 rfl rfl ?_
  refine l_loc dL_copy_5 rfl rfl ?_
  refine l_loc dL_copy_6 rfl rfl ?_
  refine l_loc dL_copy_7 rfl rfl ?_
  refine l_ob fun q1 => ?_
  refine l_cI dL_copy_9 rfl rfl rfl (l_xv cl_14_25 ko_mX12_copy rfl rfl rfl q1) rfl rfl nm_mX12_copy rfl (fun v3 h2 => ?_)
  refine l_pure dL_copy_12 rfl rfl ?_
  refine l_wl dL_copy_13 (fun h4 => ?_)
  refine l_goto (t := 21) dL_copy_14 rfl ?_
  refine l_ic dL_copy_21 kI_0 ?_
  exact l_iretn dL_copy_22 rfl (by rfl)
set_option maxRecDepth 16000 in
theorem w_L_copy_17 (S : xS)  (h : xH) : xle (some (.inl (some (.int (1 : Int32))), h, 0, 0)) (xden S mL_copy 17 [] [.retAddr 999] h) := by
  refine l_loc (al1 := [(6, .retAddr 999)]) dL_copy_17 rfl rfl ?_
  refine l_ic dL_copy_19 kI_1 ?_
  exact l_iretn dL_copy_20 rfl (by rfl)
set_option maxRecDepth 16000 in
theorem w_L_merge (S : xS) (x0 : Nat) (x1 : Int32) (x2 : Nat) (h : xH) : xle (if xOb h x0 11 = true then xqI (xM S mX12_merge [.ref x0, .int x1] h) (xhE S mL_merge 4 [(0, .ref x0), (1, .int x1), (2, .ref x2)]) fun v3 h2 => (xWl h2 x2 (0 : Int32) (v3.toInt64)).bind fun h4 => some (.inl (some (.int (0 : Int32))), h4, 0, 0) else none) (xM S mL_merge [.ref x0, .int x1, .ref x2] h) := by
  show xle _ (xden S mL_merge 0 [(0, .ref x0), (1, .int x1), (2, .ref x2)] [] h)
  refine l_loc dL_merge_0 rfl rfl ?_
  refine l_ic dL_merge_1 kI_0 ?_
  refine l_loc dL_merge_2 rfl rfl ?_
  refine l_loc dL_merge_3 rfl rfl ?_
  refine l_ob fun q1 => ?_
  refine l_cI dL_merge_4 rfl rfl rfl (l_xv cl_14_29 ko_mX12_merge rfl rfl rfl q1) rfl rfl nm_mX12_merge rfl (fun v3 h2 => ?_)
  refine l_pure dL_merge_7 rfl rfl ?_
  refine l_wl dL_merge_8 (fun h4 => ?_)
  refine l_goto (t := 15) dL_merge_9 rfl ?_
  refine l_ic dL_merge_15 kI_0 ?_
  exact l_iretn dL_merge_16 rfl (by rfl)
set_option maxRecDepth 16000 in
theorem w_L_merge_12 (S : xS)  (h : xH) : xle (some (.inl (some (.int (1 : Int32))), h, 0, 0)) (xden S mL_merge 12 [] [.retAddr 999] h) := by
  refine l_loc (al1 := [(3, .retAddr 999)]) dL_merge_12 rfl rfl ?_
  refine l_ic dL_merge_13 kI_1 ?_
  exact l_iretn dL_merge_14 rfl (by rfl)
set_option maxRecDepth 16000 in
theorem w_L_flip (S : xS) (x0 : Nat) (x1 : Int32) (x2 : Int32) (x3 : Nat) (h : xH) : xle (if xOb h x0 11 = true then xqI (xM S mX12_flip [.ref x0, .int x1, .int x2] h) (xhE S mL_flip 5 [(0, .ref x0), (1, .int x1), (2, .int x2), (3, .ref x3)]) fun v3 h2 => (xWl h2 x3 (0 : Int32) (v3.toInt64)).bind fun h4 => some (.inl (some (.int (0 : Int32))), h4, 0, 0) else none) (xM S mL_flip [.ref x0, .int x1, .int x2, .ref x3] h) := by
  show xle _ (xden S mL_flip 0 [(0, .ref x0), (1, .int x1), (2, .int x2), (3, .ref x3)] [] h)
  refine l_loc dL_flip_0 rfl rfl ?_
  refine l_ic dL_flip_1 kI_0 ?_
  refine l_loc dL_flip_2 rfl rfl ?_
  refine l_loc dL_flip_3 rfl rfl ?_
  refine l_loc dL_flip_4 rfl rfl ?_
  refine l_ob fun q1 => ?_
  refine l_cI dL_flip_5 rfl rfl rfl (l_xv cl_14_33 ko_mX12_flip rfl rfl rfl q1) rfl rfl nm_mX12_flip rfl (fun v3 h2 => ?_)
  refine l_pure dL_flip_8 rfl rfl ?_
  refine l_wl dL_flip_9 (fun h4 => ?_)
  refine l_goto (t := 21) dL_flip_10 rfl ?_
  refine l_ic dL_flip_21 kI_0 ?_
  exact l_iretn dL_flip_22 rfl (by rfl)
set_option maxRecDepth 16000 in
theorem w_L_flip_13 (S : xS)  (h : xH) : xle (some (.inl (some (.int (1 : Int32))), h, 0, 0)) (xden S mL_flip 13 [] [.retAddr 999] h) := by
  refine l_loc (al1 := [(4, .retAddr 999)]) dL_flip_13 rfl rfl ?_
  refine l_ic dL_flip_15 kI_1 ?_
  exact l_iretn dL_flip_16 rfl (by rfl)
set_option maxRecDepth 16000 in
theorem w_L_flip_17 (S : xS)  (h : xH) : xle (some (.inl (some (.int (2 : Int32))), h, 0, 0)) (xden S mL_flip 17 [] [.retAddr 999] h) := by
  refine l_loc (al1 := [(4, .retAddr 999)]) dL_flip_17 rfl rfl ?_
  refine l_ic dL_flip_19 kI_2 ?_
  exact l_iretn dL_flip_20 rfl (by rfl)
set_option maxRecDepth 16000 in
theorem w_L_despeckle (S : xS) (x0 : Nat) (x1 : Int32) (x2 : Int32) (x3 : Nat) (h : xH) : xle (if xOb h x0 11 = true then xqI (xM S mX12_despeckle [.ref x0, .int x1, .int x2] h) (xhE S mL_despeckle 5 [(0, .ref x0), (1, .int x1), (2, .int x2), (3, .ref x3)]) fun v3 h2 => (xWl h2 x3 (0 : Int32) (v3.toInt64)).bind fun h4 => some (.inl (some (.int (0 : Int32))), h4, 0, 0) else none) (xM S mL_despeckle [.ref x0, .int x1, .int x2, .ref x3] h) := by
  show xle _ (xden S mL_despeckle 0 [(0, .ref x0), (1, .int x1), (2, .int x2), (3, .ref x3)] [] h)
  refine l_loc dL_despeckle_0 rfl rfl ?_
  refine l_ic dL_despeckle_1 kI_0 ?_
  refine l_loc dL_despeckle_2 rfl rfl ?_
  refine l_loc dL_despeckle_3 rfl rfl ?_
  refine l_loc dL_despeckle_4 rfl rfl ?_
  refine l_ob fun q1 => ?_
  refine l_cI dL_despeckle_5 rfl rfl rfl (l_xv cl_14_37 ko_mX12_despeckle rfl rfl rfl q1) rfl rfl nm_mX12_despeckle rfl (fun v3 h2 => ?_)
  refine l_pure dL_despeckle_8 rfl rfl ?_
  refine l_wl dL_despeckle_9 (fun h4 => ?_)
  refine l_goto (t := 21) dL_despeckle_10 rfl ?_
  refine l_ic dL_despeckle_21 kI_0 ?_
  exact l_iretn dL_despeckle_22 rfl (by rfl)
set_option maxRecDepth 16000 in
theorem w_L_despeckle_13 (S : xS)  (h : xH) : xle (some (.inl (some (.int (1 : Int32))), h, 0, 0)) (xden S mL_despeckle 13 [] [.retAddr 999] h) := by
  refine l_loc (al1 := [(4, .retAddr 999)]) dL_despeckle_13 rfl rfl ?_
  refine l_ic dL_despeckle_15 kI_1 ?_
  exact l_iretn dL_despeckle_16 rfl (by rfl)
set_option maxRecDepth 16000 in
theorem w_L_despeckle_17 (S : xS)  (h : xH) : xle (some (.inl (some (.int (2 : Int32))), h, 0, 0)) (xden S mL_despeckle 17 [] [.retAddr 999] h) := by
  refine l_loc (al1 := [(4, .retAddr 999)]) dL_despeckle_17 rfl rfl ?_
  refine l_ic dL_despeckle_19 kI_2 ?_
  exact l_iretn dL_despeckle_20 rfl (by rfl)
set_option maxRecDepth 16000 in
theorem w_L_paste (S : xS) (x0 : Nat) (x1 : Int32) (x2 : Int32) (x3 : Int32) (x4 : Nat) (h : xH) : xle (if xOb h x0 11 = true then xqI (xM S mX12_paste [.ref x0, .int x1, .int x2, .int x3] h) (xhE S mL_paste 7 [(0, .ref x0), (1, .int x1), (2, .int x2), (3, .int x3), (4, .ref x4)]) fun v3 h2 => (xWl h2 x4 (0 : Int32) (v3.toInt64)).bind fun h4 => some (.inl (some (.int (0 : Int32))), h4, 0, 0) else none) (xM S mL_paste [.ref x0, .int x1, .int x2, .int x3, .ref x4] h) := by
  show xle _ (xden S mL_paste 0 [(0, .ref x0), (1, .int x1), (2, .int x2), (3, .int x3), (4, .ref x4)] [] h)
  refine l_loc dL_paste_0 rfl rfl ?_
  refine l_ic dL_paste_2 kI_0 ?_
  refine l_loc dL_paste_3 rfl rfl ?_
  refine l_loc dL_paste_4 rfl rfl ?_
  refine l_loc dL_paste_5 rfl rfl ?_
  refine l_loc dL_paste_6 rfl rfl ?_
  refine l_ob fun q1 => ?_
  refine l_cI dL_paste_7 rfl rfl rfl (l_xv cl_14_40 ko_mX12_paste rfl rfl rfl q1) rfl rfl nm_mX12_paste rfl (fun v3 h2 => ?_)
  refine l_pure dL_paste_10 rfl rfl ?_
  refine l_wl dL_paste_11 (fun h4 => ?_)
  refine l_goto (t := 19) dL_paste_12 rfl ?_
  refine l_ic dL_paste_19 kI_0 ?_
  exact l_iretn dL_paste_20 rfl (by rfl)
set_option maxRecDepth 16000 in
theorem w_L_paste_15 (S : xS)  (h : xH) : xle (some (.inl (some (.int (1 : Int32))), h, 0, 0)) (xden S mL_paste 15 [] [.retAddr 999] h) := by
  refine l_loc (al1 := [(5, .retAddr 999)]) dL_paste_15 rfl rfl ?_
  refine l_ic dL_paste_17 kI_1 ?_
  exact l_iretn dL_paste_18 rfl (by rfl)
set_option maxRecDepth 16000 in
theorem w_L_components (S : xS) (x0 : Nat) (x1 : Int32) (x2 : Nat) (h : xH) : xle (if xOb h x0 11 = true then xqI (xM S mX12_components [.ref x0, .int x1] h) (xhE S mL_components 4 [(0, .ref x0), (1, .int x1), (2, .ref x2)]) fun v3 h2 => (xWl h2 x2 (0 : Int32) (v3.toInt64)).bind fun h4 => some (.inl (some (.int (0 : Int32))), h4, 0, 0) else none) (xM S mL_components [.ref x0, .int x1, .ref x2] h) := by
  show xle _ (xden S mL_components 0 [(0, .ref x0), (1, .int x1), (2, .ref x2)] [] h)
  refine l_loc dL_components_0 rfl rfl ?_
  refine l_ic dL_components_1 kI_0 ?_
  refine l_loc dL_components_2 rfl rfl ?_
  refine l_loc dL_components_3 rfl rfl ?_
  refine l_ob fun q1 => ?_
  refine l_cI dL_components_4 rfl rfl rfl (l_xv cl_14_44 ko_mX12_components rfl rfl rfl q1) rfl rfl nm_mX12_components rfl (fun v3 h2 => ?_)
  refine l_pure dL_components_7 rfl rfl ?_
  refine l_wl dL_components_8 (fun h4 => ?_)
  refine l_goto (t := 15) dL_components_9 rfl ?_
  refine l_ic dL_components_15 kI_0 ?_
  exact l_iretn dL_components_16 rfl (by rfl)
set_option maxRecDepth 16000 in
theorem w_L_components_12 (S : xS)  (h : xH) : xle (some (.inl (some (.int (1 : Int32))), h, 0, 0)) (xden S mL_components 12 [] [.retAddr 999] h) := by
  refine l_loc (al1 := [(3, .retAddr 999)]) dL_components_12 rfl rfl ?_
  refine l_ic dL_components_13 kI_1 ?_
  exact l_iretn dL_components_14 rfl (by rfl)
set_option maxRecDepth 16000 in
theorem w_L_lines (S : xS) (x0 : Nat) (x1 : Int32) (x2 : Nat) (h : xH) : xle (if xOb h x0 11 = true then xqI (xM S mX12_lines [.ref x0, .int x1] h) (xhE S mL_lines 4 [(0, .ref x0), (1, .int x1), (2, .ref x2)]) fun v3 h2 => (xWl h2 x2 (0 : Int32) (v3.toInt64)).bind fun h4 => some (.inl (some (.int (0 : Int32))), h4, 0, 0) else none) (xM S mL_lines [.ref x0, .int x1, .ref x2] h) := by
  show xle _ (xden S mL_lines 0 [(0, .ref x0), (1, .int x1), (2, .ref x2)] [] h)
  refine l_loc dL_lines_0 rfl rfl ?_
  refine l_ic dL_lines_1 kI_0 ?_
  refine l_loc dL_lines_2 rfl rfl ?_
  refine l_loc dL_lines_3 rfl rfl ?_
  refine l_ob fun q1 => ?_
  refine l_cI dL_lines_4 rfl rfl rfl (l_xv cl_14_47 ko_mX12_lines rfl rfl rfl q1) rfl rfl nm_mX12_lines rfl (fun v3 h2 => ?_)
  refine l_pure dL_lines_7 rfl rfl ?_
  refine l_wl dL_lines_8 (fun h4 => ?_)
  refine l_goto (t := 15) dL_lines_9 rfl ?_
  refine l_ic dL_lines_15 kI_0 ?_
  exact l_iretn dL_lines_16 rfl (by rfl)
set_option maxRecDepth 16000 in
theorem w_L_lines_12 (S : xS)  (h : xH) : xle (some (.inl (some (.int (1 : Int32))), h, 0, 0)) (xden S mL_lines 12 [] [.retAddr 999] h) := by
  refine l_loc (al1 := [(3, .retAddr 999)]) dL_lines_12 rfl rfl ?_
  refine l_ic dL_lines_13 kI_1 ?_
  exact l_iretn dL_lines_14 rfl (by rfl)
set_option maxRecDepth 16000 in
theorem w_L_lineTop (S : xS) (x0 : Nat) (x1 : Int32) (x2 : Int32) (x3 : Nat) (h : xH) : xle (if xOb h x0 11 = true then xqI (xM S mX12_lineTop [.ref x0, .int x1, .int x2] h) (xhE S mL_lineTop 5 [(0, .ref x0), (1, .int x1), (2, .int x2), (3, .ref x3)]) fun v3 h2 => (xWl h2 x3 (0 : Int32) (v3.toInt64)).bind fun h4 => some (.inl (some (.int (0 : Int32))), h4, 0, 0) else none) (xM S mL_lineTop [.ref x0, .int x1, .int x2, .ref x3] h) := by
  show xle _ (xden S mL_lineTop 0 [(0, .ref x0), (1, .int x1), (2, .int x2), (3, .ref x3)] [] h)
  refine l_loc dL_lineTop_0 rfl rfl ?_
  refine l_ic dL_lineTop_1 kI_0 ?_
  refine l_loc dL_lineTop_2 rfl rfl ?_
  refine l_loc dL_lineTop_3 rfl rfl ?_
  refine l_loc dL_lineTop_4 rfl rfl ?_
  refine l_ob fun q1 => ?_
  refine l_cI dL_lineTop_5 rfl rfl rfl (l_xv cl_14_50 ko_mX12_lineTop rfl rfl rfl q1) rfl rfl nm_mX12_lineTop rfl (fun v3 h2 => ?_)
  refine l_pure dL_lineTop_8 rfl rfl ?_
  refine l_wl dL_lineTop_9 (fun h4 => ?_)
  refine l_goto (t := 17) dL_lineTop_10 rfl ?_
  refine l_ic dL_lineTop_17 kI_0 ?_
  exact l_iretn dL_lineTop_18 rfl (by rfl)
set_option maxRecDepth 16000 in
theorem w_L_lineTop_13 (S : xS)  (h : xH) : xle (some (.inl (some (.int (1 : Int32))), h, 0, 0)) (xden S mL_lineTop 13 [] [.retAddr 999] h) := by
  refine l_loc (al1 := [(4, .retAddr 999)]) dL_lineTop_13 rfl rfl ?_
  refine l_ic dL_lineTop_15 kI_1 ?_
  exact l_iretn dL_lineTop_16 rfl (by rfl)
set_option maxRecDepth 16000 in
theorem w_L_lineBottom (S : xS) (x0 : Nat) (x1 : Int32) (x2 : Int32) (x3 : Nat) (h : xH) : xle (if xOb h x0 11 = true then xqI (xM S mX12_lineBottom [.ref x0, .int x1, .int x2] h) (xhE S mL_lineBottom 5 [(0, .ref x0), (1, .int x1), (2, .int x2), (3, .ref x3)]) fun v3 h2 => (xWl h2 x3 (0 : Int32) (v3.toInt64)).bind fun h4 => some (.inl (some (.int (0 : Int32))), h4, 0, 0) else none) (xM S mL_lineBottom [.ref x0, .int x1, .int x2, .ref x3] h) := by
  show xle _ (xden S mL_lineBottom 0 [(0, .ref x0), (1, .int x1), (2, .int x2), (3, .ref x3)] [] h)
  refine l_loc dL_lineBottom_0 rfl rfl ?_
  refine l_ic dL_lineBottom_1 kI_0 ?_
  refine l_loc dL_lineBottom_2 rfl rfl ?_
  refine l_loc dL_lineBottom_3 rfl rfl ?_
  refine l_loc dL_lineBottom_4 rfl rfl ?_
  refine l_ob fun q1 => ?_
  refine l_cI dL_lineBottom_5 rfl rfl rfl (l_xv cl_14_53 ko_mX12_lineBottom rfl rfl rfl q1) rfl rfl nm_mX12_lineBottom rfl (fun v3 h2 => ?_)
  refine l_pure dL_lineBottom_8 rfl rfl ?_
  refine l_wl dL_lineBottom_9 (fun h4 => ?_)
  refine l_goto (t := 17) dL_lineBottom_10 rfl ?_
  refine l_ic dL_lineBottom_17 kI_0 ?_
  exact l_iretn dL_lineBottom_18 rfl (by rfl)
set_option maxRecDepth 16000 in
theorem w_L_lineBottom_13 (S : xS)  (h : xH) : xle (some (.inl (some (.int (1 : Int32))), h, 0, 0)) (xden S mL_lineBottom 13 [] [.retAddr 999] h) := by
  refine l_loc (al1 := [(4, .retAddr 999)]) dL_lineBottom_13 rfl rfl ?_
  refine l_ic dL_lineBottom_15 kI_1 ?_
  exact l_iretn dL_lineBottom_16 rfl (by rfl)
set_option maxRecDepth 16000 in
theorem w_L_words (S : xS) (x0 : Nat) (x1 : Int32) (x2 : Int32) (x3 : Int32) (x4 : Nat) (h : xH) : xle (if xOb h x0 11 = true then xqI (xM S mX12_words [.ref x0, .int x1, .int x2, .int x3] h) (xhE S mL_words 7 [(0, .ref x0), (1, .int x1), (2, .int x2), (3, .int x3), (4, .ref x4)]) fun v3 h2 => (xWl h2 x4 (0 : Int32) (v3.toInt64)).bind fun h4 => some (.inl (some (.int (0 : Int32))), h4, 0, 0) else none) (xM S mL_words [.ref x0, .int x1, .int x2, .int x3, .ref x4] h) := by
  show xle _ (xden S mL_words 0 [(0, .ref x0), (1, .int x1), (2, .int x2), (3, .int x3), (4, .ref x4)] [] h)
  refine l_loc dL_words_0 rfl rfl ?_
  refine l_ic dL_words_2 kI_0 ?_
  refine l_loc dL_words_3 rfl rfl ?_
  refine l_loc dL_words_4 rfl rfl ?_
  refine l_loc dL_words_5 rfl rfl ?_
  refine l_loc dL_words_6 rfl rfl ?_
  refine l_ob fun q1 => ?_
  refine l_cI dL_words_7 rfl rfl rfl (l_xv cl_14_56 ko_mX12_words rfl rfl rfl q1) rfl rfl nm_mX12_words rfl (fun v3 h2 => ?_)
  refine l_pure dL_words_10 rfl rfl ?_
  refine l_wl dL_words_11 (fun h4 => ?_)
  refine l_goto (t := 23) dL_words_12 rfl ?_
  refine l_ic dL_words_23 kI_0 ?_
  exact l_iretn dL_words_24 rfl (by rfl)
set_option maxRecDepth 16000 in
theorem w_L_words_15 (S : xS)  (h : xH) : xle (some (.inl (some (.int (1 : Int32))), h, 0, 0)) (xden S mL_words 15 [] [.retAddr 999] h) := by
  refine l_loc (al1 := [(5, .retAddr 999)]) dL_words_15 rfl rfl ?_
  refine l_ic dL_words_17 kI_1 ?_
  exact l_iretn dL_words_18 rfl (by rfl)
set_option maxRecDepth 16000 in
theorem w_L_words_19 (S : xS)  (h : xH) : xle (some (.inl (some (.int (2 : Int32))), h, 0, 0)) (xden S mL_words 19 [] [.retAddr 999] h) := by
  refine l_loc (al1 := [(5, .retAddr 999)]) dL_words_19 rfl rfl ?_
  refine l_ic dL_words_21 kI_2 ?_
  exact l_iretn dL_words_22 rfl (by rfl)
set_option maxRecDepth 16000 in
theorem w_L_ink (S : xS) (x0 : Nat) (x1 : Int32) (x2 : Int32) (x3 : Int32) (x4 : Int32) (x5 : Int32) (x6 : Nat) (h : xH) : xle (if xOb h x0 11 = true then xqI (xM S mX12_ink [.ref x0, .int x1, .int x2, .int x3, .int x4, .int x5] h) (xhE S mL_ink 11 [(0, .ref x0), (1, .int x1), (2, .int x2), (3, .int x3), (4, .int x4), (5, .int x5), (6, .ref x6)]) fun v3 h2 => (xWl h2 x6 (0 : Int32) (v3.toInt64)).bind fun h4 => some (.inl (some (.int (0 : Int32))), h4, 0, 0) else none) (xM S mL_ink [.ref x0, .int x1, .int x2, .int x3, .int x4, .int x5, .ref x6] h) := by
  show xle _ (xden S mL_ink 0 [(0, .ref x0), (1, .int x1), (2, .int x2), (3, .int x3), (4, .int x4), (5, .int x5), (6, .ref x6)] [] h)
  refine l_loc dL_ink_0 rfl rfl ?_
  refine l_ic dL_ink_2 kI_0 ?_
  refine l_loc dL_ink_3 rfl rfl ?_
  refine l_loc dL_ink_4 rfl rfl ?_
  refine l_loc dL_ink_5 rfl rfl ?_
  refine l_loc dL_ink_6 rfl rfl ?_
  refine l_loc dL_ink_7 rfl rfl ?_
  refine l_loc dL_ink_9 rfl rfl ?_
  refine l_ob fun q1 => ?_
  refine l_cI dL_ink_11 rfl rfl rfl (l_xv cl_14_59 ko_mX12_ink rfl rfl rfl q1) rfl rfl nm_mX12_ink rfl (fun v3 h2 => ?_)
  refine l_pure dL_ink_14 rfl rfl ?_
  refine l_wl dL_ink_15 (fun h4 => ?_)
  refine l_goto (t := 27) dL_ink_16 rfl ?_
  refine l_ic dL_ink_27 kI_0 ?_
  exact l_iretn dL_ink_28 rfl (by rfl)
set_option maxRecDepth 16000 in
theorem w_L_ink_19 (S : xS)  (h : xH) : xle (some (.inl (some (.int (1 : Int32))), h, 0, 0)) (xden S mL_ink 19 [] [.retAddr 999] h) := by
  refine l_loc (al1 := [(7, .retAddr 999)]) dL_ink_19 rfl rfl ?_
  refine l_ic dL_ink_21 kI_1 ?_
  exact l_iretn dL_ink_22 rfl (by rfl)
set_option maxRecDepth 16000 in
theorem w_L_ink_23 (S : xS)  (h : xH) : xle (some (.inl (some (.int (2 : Int32))), h, 0, 0)) (xden S mL_ink 23 [] [.retAddr 999] h) := by
  refine l_loc (al1 := [(7, .retAddr 999)]) dL_ink_23 rfl rfl ?_
  refine l_ic dL_ink_25 kI_2 ?_
  exact l_iretn dL_ink_26 rfl (by rfl)
set_option maxRecDepth 16000 in
theorem w_L_fingerprint (S : xS) (x0 : Nat) (x1 : Int32) (x2 : Nat) (h : xH) : xle (if xOb h x0 11 = true then xqJ (xM S mX12_fingerprint [.ref x0, .int x1] h) (xhE S mL_fingerprint 4 [(0, .ref x0), (1, .int x1), (2, .ref x2)]) fun v3 h2 => (xWl h2 x2 (0 : Int32) v3).bind fun h4 => some (.inl (some (.int (0 : Int32))), h4, 0, 0) else none) (xM S mL_fingerprint [.ref x0, .int x1, .ref x2] h) := by
  show xle _ (xden S mL_fingerprint 0 [(0, .ref x0), (1, .int x1), (2, .ref x2)] [] h)
  refine l_loc dL_fingerprint_0 rfl rfl ?_
  refine l_ic dL_fingerprint_1 kI_0 ?_
  refine l_loc dL_fingerprint_2 rfl rfl ?_
  refine l_loc dL_fingerprint_3 rfl rfl ?_
  refine l_ob fun q1 => ?_
  refine l_cJ dL_fingerprint_4 rfl rfl rfl (l_xv cl_14_63 ko_mX12_fingerprint rfl rfl rfl q1) rfl rfl nm_mX12_fingerprint rfl (fun v3 h2 => ?_)
  refine l_wl dL_fingerprint_7 (fun h4 => ?_)
  refine l_goto (t := 14) dL_fingerprint_8 rfl ?_
  refine l_ic dL_fingerprint_14 kI_0 ?_
  exact l_iretn dL_fingerprint_15 rfl (by rfl)
set_option maxRecDepth 16000 in
theorem w_L_fingerprint_11 (S : xS)  (h : xH) : xle (some (.inl (some (.int (1 : Int32))), h, 0, 0)) (xden S mL_fingerprint 11 [] [.retAddr 999] h) := by
  refine l_loc (al1 := [(3, .retAddr 999)]) dL_fingerprint_11 rfl rfl ?_
  refine l_ic dL_fingerprint_12 kI_1 ?_
  exact l_iretn dL_fingerprint_13 rfl (by rfl)
set_option maxRecDepth 16000 in
theorem w_L_undo (S : xS) (x0 : Nat) (x1 : Nat) (h : xH) : xle (if xOb h x0 11 = true then xqI (xM S mX12_undo [.ref x0] h) (xhE S mL_undo 3 [(0, .ref x0), (1, .ref x1)]) fun v3 h2 => (xWl h2 x1 (0 : Int32) (v3.toInt64)).bind fun h4 => some (.inl (some (.int (0 : Int32))), h4, 0, 0) else none) (xM S mL_undo [.ref x0, .ref x1] h) := by
  show xle _ (xden S mL_undo 0 [(0, .ref x0), (1, .ref x1)] [] h)
  refine l_loc dL_undo_0 rfl rfl ?_
  refine l_ic dL_undo_1 kI_0 ?_
  refine l_loc dL_undo_2 rfl rfl ?_
  refine l_ob fun q1 => ?_
  refine l_cI dL_undo_3 rfl rfl rfl (l_xv cl_14_67 ko_mX12_undo rfl rfl rfl q1) rfl rfl nm_mX12_undo rfl (fun v3 h2 => ?_)
  refine l_pure dL_undo_6 rfl rfl ?_
  refine l_wl dL_undo_7 (fun h4 => ?_)
  refine l_goto (t := 14) dL_undo_8 rfl ?_
  refine l_ic dL_undo_14 kI_0 ?_
  exact l_iretn dL_undo_15 rfl (by rfl)
set_option maxRecDepth 16000 in
theorem w_L_undo_11 (S : xS)  (h : xH) : xle (some (.inl (some (.int (1 : Int32))), h, 0, 0)) (xden S mL_undo 11 [] [.retAddr 999] h) := by
  refine l_loc (al1 := [(2, .retAddr 999)]) dL_undo_11 rfl rfl ?_
  refine l_ic dL_undo_12 kI_1 ?_
  exact l_iretn dL_undo_13 rfl (by rfl)
set_option maxRecDepth 16000 in
theorem w_L_type (S : xS) (x0 : Nat) (x1 : Int32) (x2 : Nat) (h : xH) : xle (if xOb h x0 11 = true then xqI (xM S mX12_type [.ref x0, .int x1] h) (xhE S mL_type 4 [(0, .ref x0), (1, .int x1), (2, .ref x2)]) fun v3 h2 => (xWl h2 x2 (0 : Int32) (v3.toInt64)).bind fun h4 => some (.inl (some (.int (0 : Int32))), h4, 0, 0) else none) (xM S mL_type [.ref x0, .int x1, .ref x2] h) := by
  show xle _ (xden S mL_type 0 [(0, .ref x0), (1, .int x1), (2, .ref x2)] [] h)
  refine l_loc dL_type_0 rfl rfl ?_
  refine l_ic dL_type_1 kI_0 ?_
  refine l_loc dL_type_2 rfl rfl ?_
  refine l_loc dL_type_3 rfl rfl ?_
  refine l_ob fun q1 => ?_
  refine l_cI dL_type_4 rfl rfl rfl (l_xv cl_14_73 ko_mX12_type rfl rfl rfl q1) rfl rfl nm_mX12_type rfl (fun v3 h2 => ?_)
  refine l_pure dL_type_7 rfl rfl ?_
  refine l_wl dL_type_8 (fun h4 => ?_)
  refine l_goto (t := 18) dL_type_9 rfl ?_
  refine l_ic dL_type_18 kI_0 ?_
  exact l_iretn dL_type_19 rfl (by rfl)
set_option maxRecDepth 16000 in
theorem w_L_type_12 (S : xS)  (h : xH) : xle (some (.inl (some (.int (1 : Int32))), h, 0, 0)) (xden S mL_type 12 [] [.retAddr 999] h) := by
  refine l_loc (al1 := [(3, .retAddr 999)]) dL_type_12 rfl rfl ?_
  refine l_ic dL_type_13 kI_1 ?_
  exact l_iretn dL_type_14 rfl (by rfl)
set_option maxRecDepth 16000 in
theorem w_L_type_15 (S : xS)  (h : xH) : xle (some (.inl (some (.int (2 : Int32))), h, 0, 0)) (xden S mL_type 15 [] [.retAddr 999] h) := by
  refine l_loc (al1 := [(3, .retAddr 999)]) dL_type_15 rfl rfl ?_
  refine l_ic dL_type_16 kI_2 ?_
  exact l_iretn dL_type_17 rfl (by rfl)
set_option maxRecDepth 16000 in
theorem w_L_setting (S : xS) (x0 : Nat) (x1 : Int32) (x2 : Nat) (h : xH) : xle (if xOb h x0 11 = true then xqI (xM S mX12_setting [.ref x0, .int x1] h) (xhE S mL_setting 4 [(0, .ref x0), (1, .int x1), (2, .ref x2)]) fun v3 h2 => (xWl h2 x2 (0 : Int32) (v3.toInt64)).bind fun h4 => some (.inl (some (.int (0 : Int32))), h4, 0, 0) else none) (xM S mL_setting [.ref x0, .int x1, .ref x2] h) := by
  show xle _ (xden S mL_setting 0 [(0, .ref x0), (1, .int x1), (2, .ref x2)] [] h)
  refine l_loc dL_setting_0 rfl rfl ?_
  refine l_ic dL_setting_1 kI_0 ?_
  refine l_loc dL_setting_2 rfl rfl ?_
  refine l_loc dL_setting_3 rfl rfl ?_
  refine l_ob fun q1 => ?_
  refine l_cI dL_setting_4 rfl rfl rfl (l_xv cl_14_76 ko_mX12_setting rfl rfl rfl q1) rfl rfl nm_mX12_setting rfl (fun v3 h2 => ?_)
  refine l_pure dL_setting_7 rfl rfl ?_
  refine l_wl dL_setting_8 (fun h4 => ?_)
  refine l_goto (t := 15) dL_setting_9 rfl ?_
  refine l_ic dL_setting_15 kI_0 ?_
  exact l_iretn dL_setting_16 rfl (by rfl)
set_option maxRecDepth 16000 in
theorem w_L_setting_12 (S : xS)  (h : xH) : xle (some (.inl (some (.int (1 : Int32))), h, 0, 0)) (xden S mL_setting 12 [] [.retAddr 999] h) := by
  refine l_loc (al1 := [(3, .retAddr 999)]) dL_setting_12 rfl rfl ?_
  refine l_ic dL_setting_13 kI_1 ?_
  exact l_iretn dL_setting_14 rfl (by rfl)
set_option maxRecDepth 16000 in
theorem w_L_configChar (S : xS) (x0 : Nat) (x1 : Int32) (x2 : Nat) (h : xH) : xle (if xOb h x0 11 = true then xqI (xM S mX12_configChar [.ref x0, .int x1] h) (xhE S mL_configChar 4 [(0, .ref x0), (1, .int x1), (2, .ref x2)]) fun v3 h2 => (xWl h2 x2 (0 : Int32) (v3.toInt64)).bind fun h4 => some (.inl (some (.int (0 : Int32))), h4, 0, 0) else none) (xM S mL_configChar [.ref x0, .int x1, .ref x2] h) := by
  show xle _ (xden S mL_configChar 0 [(0, .ref x0), (1, .int x1), (2, .ref x2)] [] h)
  refine l_loc dL_configChar_0 rfl rfl ?_
  refine l_ic dL_configChar_1 kI_0 ?_
  refine l_loc dL_configChar_2 rfl rfl ?_
  refine l_loc dL_configChar_3 rfl rfl ?_
  refine l_ob fun q1 => ?_
  refine l_cI dL_configChar_4 rfl rfl rfl (l_xv cl_14_79 ko_mX12_configChar rfl rfl rfl q1) rfl rfl nm_mX12_configChar rfl (fun v3 h2 => ?_)
  refine l_pure dL_configChar_7 rfl rfl ?_
  refine l_wl dL_configChar_8 (fun h4 => ?_)
  refine l_goto (t := 15) dL_configChar_9 rfl ?_
  refine l_ic dL_configChar_15 kI_0 ?_
  exact l_iretn dL_configChar_16 rfl (by rfl)
set_option maxRecDepth 16000 in
theorem w_L_configChar_12 (S : xS)  (h : xH) : xle (some (.inl (some (.int (1 : Int32))), h, 0, 0)) (xden S mL_configChar 12 [] [.retAddr 999] h) := by
  refine l_loc (al1 := [(3, .retAddr 999)]) dL_configChar_12 rfl rfl ?_
  refine l_ic dL_configChar_13 kI_1 ?_
  exact l_iretn dL_configChar_14 rfl (by rfl)
set_option maxRecDepth 16000 in
theorem w_L_addMask (S : xS) (x0 : Nat) (x1 : Int32) (x2 : Int32) (x3 : Int32) (x4 : Int32) (x5 : Nat) (h : xH) : xle (if xOb h x0 11 = true then xqI (xM S mX12_addMask [.ref x0, .int x1, .int x2, .int x3, .int x4] h) (xhE S mL_addMask 9 [(0, .ref x0), (1, .int x1), (2, .int x2), (3, .int x3), (4, .int x4), (5, .ref x5)]) fun v3 h2 => (xWl h2 x5 (0 : Int32) (v3.toInt64)).bind fun h4 => some (.inl (some (.int (0 : Int32))), h4, 0, 0) else none) (xM S mL_addMask [.ref x0, .int x1, .int x2, .int x3, .int x4, .ref x5] h) := by
  show xle _ (xden S mL_addMask 0 [(0, .ref x0), (1, .int x1), (2, .int x2), (3, .int x3), (4, .int x4), (5, .ref x5)] [] h)
  refine l_loc dL_addMask_0 rfl rfl ?_
  refine l_ic dL_addMask_2 kI_0 ?_
  refine l_loc dL_addMask_3 rfl rfl ?_
  refine l_loc dL_addMask_4 rfl rfl ?_
  refine l_loc dL_addMask_5 rfl rfl ?_
  refine l_loc dL_addMask_6 rfl rfl ?_
  refine l_loc dL_addMask_7 rfl rfl ?_
  refine l_ob fun q1 => ?_
  refine l_cI dL_addMask_9 rfl rfl rfl (l_xv cl_14_82 ko_mX12_addMask rfl rfl rfl q1) rfl rfl nm_mX12_addMask rfl (fun v3 h2 => ?_)
  refine l_pure dL_addMask_12 rfl rfl ?_
  refine l_wl dL_addMask_13 (fun h4 => ?_)
  refine l_goto (t := 25) dL_addMask_14 rfl ?_
  refine l_ic dL_addMask_25 kI_0 ?_
  exact l_iretn dL_addMask_26 rfl (by rfl)
set_option maxRecDepth 16000 in
theorem w_L_addMask_17 (S : xS)  (h : xH) : xle (some (.inl (some (.int (1 : Int32))), h, 0, 0)) (xden S mL_addMask 17 [] [.retAddr 999] h) := by
  refine l_loc (al1 := [(6, .retAddr 999)]) dL_addMask_17 rfl rfl ?_
  refine l_ic dL_addMask_19 kI_1 ?_
  exact l_iretn dL_addMask_20 rfl (by rfl)
set_option maxRecDepth 16000 in
theorem w_L_addMask_21 (S : xS)  (h : xH) : xle (some (.inl (some (.int (2 : Int32))), h, 0, 0)) (xden S mL_addMask 21 [] [.retAddr 999] h) := by
  refine l_loc (al1 := [(6, .retAddr 999)]) dL_addMask_21 rfl rfl ?_
  refine l_ic dL_addMask_23 kI_2 ?_
  exact l_iretn dL_addMask_24 rfl (by rfl)
set_option maxRecDepth 16000 in
theorem w_L_removeMask (S : xS) (x0 : Nat) (x1 : Int32) (x2 : Nat) (h : xH) : xle (if xOb h x0 11 = true then xqI (xM S mX12_removeMask [.ref x0, .int x1] h) (xhE S mL_removeMask 4 [(0, .ref x0), (1, .int x1), (2, .ref x2)]) fun v3 h2 => (xWl h2 x2 (0 : Int32) (v3.toInt64)).bind fun h4 => some (.inl (some (.int (0 : Int32))), h4, 0, 0) else none) (xM S mL_removeMask [.ref x0, .int x1, .ref x2] h) := by
  show xle _ (xden S mL_removeMask 0 [(0, .ref x0), (1, .int x1), (2, .ref x2)] [] h)
  refine l_loc dL_removeMask_0 rfl rfl ?_
  refine l_ic dL_removeMask_1 kI_0 ?_
  refine l_loc dL_removeMask_2 rfl rfl ?_
  refine l_loc dL_removeMask_3 rfl rfl ?_
  refine l_ob fun q1 => ?_
  refine l_cI dL_removeMask_4 rfl rfl rfl (l_xv cl_14_85 ko_mX12_removeMask rfl rfl rfl q1) rfl rfl nm_mX12_removeMask rfl (fun v3 h2 => ?_)
  refine l_pure dL_removeMask_7 rfl rfl ?_
  refine l_wl dL_removeMask_8 (fun h4 => ?_)
  refine l_goto (t := 15) dL_removeMask_9 rfl ?_
  refine l_ic dL_removeMask_15 kI_0 ?_
  exact l_iretn dL_removeMask_16 rfl (by rfl)
set_option maxRecDepth 16000 in
theorem w_L_removeMask_12 (S : xS)  (h : xH) : xle (some (.inl (some (.int (1 : Int32))), h, 0, 0)) (xden S mL_removeMask 12 [] [.retAddr 999] h) := by
  refine l_loc (al1 := [(3, .retAddr 999)]) dL_removeMask_12 rfl rfl ?_
  refine l_ic dL_removeMask_13 kI_1 ?_
  exact l_iretn dL_removeMask_14 rfl (by rfl)
set_option maxRecDepth 16000 in
theorem w_L_shiftX (S : xS) (x0 : Nat) (x1 : Nat) (h : xH) : xle (if xOb h x0 11 = true then xqI (xM S mX12_shiftX [.ref x0] h) (xhE S mL_shiftX 3 [(0, .ref x0), (1, .ref x1)]) fun v3 h2 => (xWl h2 x1 (0 : Int32) (v3.toInt64)).bind fun h4 => some (.inl (some (.int (0 : Int32))), h4, 0, 0) else none) (xM S mL_shiftX [.ref x0, .ref x1] h) := by
  show xle _ (xden S mL_shiftX 0 [(0, .ref x0), (1, .ref x1)] [] h)
  refine l_loc dL_shiftX_0 rfl rfl ?_
  refine l_ic dL_shiftX_1 kI_0 ?_
  refine l_loc dL_shiftX_2 rfl rfl ?_
  refine l_ob fun q1 => ?_
  refine l_cI dL_shiftX_3 rfl rfl rfl (l_xv cl_14_88 ko_mX12_shiftX rfl rfl rfl q1) rfl rfl nm_mX12_shiftX rfl (fun v3 h2 => ?_)
  refine l_pure dL_shiftX_6 rfl rfl ?_
  refine l_wl dL_shiftX_7 (fun h4 => ?_)
  refine l_goto (t := 14) dL_shiftX_8 rfl ?_
  refine l_ic dL_shiftX_14 kI_0 ?_
  exact l_iretn dL_shiftX_15 rfl (by rfl)
set_option maxRecDepth 16000 in
theorem w_L_shiftX_11 (S : xS)  (h : xH) : xle (some (.inl (some (.int (1 : Int32))), h, 0, 0)) (xden S mL_shiftX 11 [] [.retAddr 999] h) := by
  refine l_loc (al1 := [(2, .retAddr 999)]) dL_shiftX_11 rfl rfl ?_
  refine l_ic dL_shiftX_12 kI_1 ?_
  exact l_iretn dL_shiftX_13 rfl (by rfl)
set_option maxRecDepth 16000 in
theorem w_L_shiftY (S : xS) (x0 : Nat) (x1 : Nat) (h : xH) : xle (if xOb h x0 11 = true then xqI (xM S mX12_shiftY [.ref x0] h) (xhE S mL_shiftY 3 [(0, .ref x0), (1, .ref x1)]) fun v3 h2 => (xWl h2 x1 (0 : Int32) (v3.toInt64)).bind fun h4 => some (.inl (some (.int (0 : Int32))), h4, 0, 0) else none) (xM S mL_shiftY [.ref x0, .ref x1] h) := by
  show xle _ (xden S mL_shiftY 0 [(0, .ref x0), (1, .ref x1)] [] h)
  refine l_loc dL_shiftY_0 rfl rfl ?_
  refine l_ic dL_shiftY_1 kI_0 ?_
  refine l_loc dL_shiftY_2 rfl rfl ?_
  refine l_ob fun q1 => ?_
  refine l_cI dL_shiftY_3 rfl rfl rfl (l_xv cl_14_91 ko_mX12_shiftY rfl rfl rfl q1) rfl rfl nm_mX12_shiftY rfl (fun v3 h2 => ?_)
  refine l_pure dL_shiftY_6 rfl rfl ?_
  refine l_wl dL_shiftY_7 (fun h4 => ?_)
  refine l_goto (t := 14) dL_shiftY_8 rfl ?_
  refine l_ic dL_shiftY_14 kI_0 ?_
  exact l_iretn dL_shiftY_15 rfl (by rfl)
set_option maxRecDepth 16000 in
theorem w_L_shiftY_11 (S : xS)  (h : xH) : xle (some (.inl (some (.int (1 : Int32))), h, 0, 0)) (xden S mL_shiftY 11 [] [.retAddr 999] h) := by
  refine l_loc (al1 := [(2, .retAddr 999)]) dL_shiftY_11 rfl rfl ?_
  refine l_ic dL_shiftY_12 kI_1 ?_
  exact l_iretn dL_shiftY_13 rfl (by rfl)
set_option maxRecDepth 16000 in
theorem w_L_skew (S : xS) (x0 : Nat) (x1 : Nat) (h : xH) : xle (if xOb h x0 11 = true then xqI (xM S mX12_skew [.ref x0] h) (xhE S mL_skew 3 [(0, .ref x0), (1, .ref x1)]) fun v3 h2 => (xWl h2 x1 (0 : Int32) (v3.toInt64)).bind fun h4 => some (.inl (some (.int (0 : Int32))), h4, 0, 0) else none) (xM S mL_skew [.ref x0, .ref x1] h) := by
  show xle _ (xden S mL_skew 0 [(0, .ref x0), (1, .ref x1)] [] h)
  refine l_loc dL_skew_0 rfl rfl ?_
  refine l_ic dL_skew_1 kI_0 ?_
  refine l_loc dL_skew_2 rfl rfl ?_
  refine l_ob fun q1 => ?_
  refine l_cI dL_skew_3 rfl rfl rfl (l_xv cl_14_94 ko_mX12_skew rfl rfl rfl q1) rfl rfl nm_mX12_skew rfl (fun v3 h2 => ?_)
  refine l_pure dL_skew_6 rfl rfl ?_
  refine l_wl dL_skew_7 (fun h4 => ?_)
  refine l_goto (t := 14) dL_skew_8 rfl ?_
  refine l_ic dL_skew_14 kI_0 ?_
  exact l_iretn dL_skew_15 rfl (by rfl)
set_option maxRecDepth 16000 in
theorem w_L_skew_11 (S : xS)  (h : xH) : xle (some (.inl (some (.int (1 : Int32))), h, 0, 0)) (xden S mL_skew 11 [] [.retAddr 999] h) := by
  refine l_loc (al1 := [(2, .retAddr 999)]) dL_skew_11 rfl rfl ?_
  refine l_ic dL_skew_12 kI_1 ?_
  exact l_iretn dL_skew_13 rfl (by rfl)
set_option maxRecDepth 16000 in
theorem w_L_turned (S : xS) (x0 : Nat) (x1 : Nat) (h : xH) : xle (if xOb h x0 11 = true then xqI (xM S mX12_turned [.ref x0] h) (xhE S mL_turned 3 [(0, .ref x0), (1, .ref x1)]) fun v3 h2 => if v3 = 0 then ((xWl h2 x1 (0 : Int32) (0 : Int64)).bind fun h4 => some (.inl (some (.int (0 : Int32))), h4, 0, 0)) else ((xWl h2 x1 (0 : Int32) (1 : Int64)).bind fun h5 => some (.inl (some (.int (0 : Int32))), h5, 0, 0)) else none) (xM S mL_turned [.ref x0, .ref x1] h) := by
  show xle _ (xden S mL_turned 0 [(0, .ref x0), (1, .ref x1)] [] h)
  refine l_loc dL_turned_0 rfl rfl ?_
  refine l_ic dL_turned_1 kI_0 ?_
  refine l_loc dL_turned_2 rfl rfl ?_
  refine l_ob fun q1 => ?_
  refine l_cI dL_turned_3 rfl rfl rfl (l_xv cl_14_97 ko_mX12_turned rfl rfl rfl q1) rfl rfl nm_mX12_turned rfl (fun v3 h2 => ?_)
  refine l_ieq (t := 13) dL_turned_6 rfl ?_ ?_
  · refine l_lc0 dL_turned_13 ?_
    refine l_wl dL_turned_14 (fun h4 => ?_)
    refine l_goto (t := 21) dL_turned_15 rfl ?_
    refine l_ic dL_turned_21 kI_0 ?_
    exact l_iretn dL_turned_22 rfl (by rfl)
  · refine l_lc1 dL_turned_9 ?_
    refine l_goto (t := 14) dL_turned_10 rfl ?_
    refine l_wl dL_turned_14 (fun h5 => ?_)
    refine l_goto (t := 21) dL_turned_15 rfl ?_
    refine l_ic dL_turned_21 kI_0 ?_
    exact l_iretn dL_turned_22 rfl (by rfl)
set_option maxRecDepth 16000 in
theorem w_L_turned_18 (S : xS)  (h : xH) : xle (some (.inl (some (.int (1 : Int32))), h, 0, 0)) (xden S mL_turned 18 [] [.retAddr 999] h) := by
  refine l_loc (al1 := [(2, .retAddr 999)]) dL_turned_18 rfl rfl ?_
  refine l_ic dL_turned_19 kI_1 ?_
  exact l_iretn dL_turned_20 rfl (by rfl)
set_option maxRecDepth 16000 in
theorem w_L_mismatch (S : xS) (x0 : Nat) (x1 : Nat) (h : xH) : xle (if xOb h x0 11 = true then xqI (xM S mX12_mismatch [.ref x0] h) (xhE S mL_mismatch 3 [(0, .ref x0), (1, .ref x1)]) fun v3 h2 => (xWl h2 x1 (0 : Int32) (v3.toInt64)).bind fun h4 => some (.inl (some (.int (0 : Int32))), h4, 0, 0) else none) (xM S mL_mismatch [.ref x0, .ref x1] h) := by
  show xle _ (xden S mL_mismatch 0 [(0, .ref x0), (1, .ref x1)] [] h)
  refine l_loc dL_mismatch_0 rfl rfl ?_
  refine l_ic dL_mismatch_1 kI_0 ?_
  refine l_loc dL_mismatch_2 rfl rfl ?_
  refine l_ob fun q1 => ?_
  refine l_cI dL_mismatch_3 rfl rfl rfl (l_xv cl_14_101 ko_mX12_mismatch rfl rfl rfl q1) rfl rfl nm_mX12_mismatch rfl (fun v3 h2 => ?_)
  refine l_pure dL_mismatch_6 rfl rfl ?_
  refine l_wl dL_mismatch_7 (fun h4 => ?_)
  refine l_goto (t := 14) dL_mismatch_8 rfl ?_
  refine l_ic dL_mismatch_14 kI_0 ?_
  exact l_iretn dL_mismatch_15 rfl (by rfl)
set_option maxRecDepth 16000 in
theorem w_L_mismatch_11 (S : xS)  (h : xH) : xle (some (.inl (some (.int (1 : Int32))), h, 0, 0)) (xden S mL_mismatch 11 [] [.retAddr 999] h) := by
  refine l_loc (al1 := [(2, .retAddr 999)]) dL_mismatch_11 rfl rfl ?_
  refine l_ic dL_mismatch_12 kI_1 ?_
  exact l_iretn dL_mismatch_13 rfl (by rfl)
set_option maxRecDepth 16000 in
theorem w_L_similarity (S : xS) (x0 : Nat) (x1 : Nat) (h : xH) : xle (if xOb h x0 11 = true then xqI (xM S mX12_similarity [.ref x0] h) (xhE S mL_similarity 3 [(0, .ref x0), (1, .ref x1)]) fun v3 h2 => (xWl h2 x1 (0 : Int32) (v3.toInt64)).bind fun h4 => some (.inl (some (.int (0 : Int32))), h4, 0, 0) else none) (xM S mL_similarity [.ref x0, .ref x1] h) := by
  show xle _ (xden S mL_similarity 0 [(0, .ref x0), (1, .ref x1)] [] h)
  refine l_loc dL_similarity_0 rfl rfl ?_
  refine l_ic dL_similarity_1 kI_0 ?_
  refine l_loc dL_similarity_2 rfl rfl ?_
  refine l_ob fun q1 => ?_
  refine l_cI dL_similarity_3 rfl rfl rfl (l_xv cl_14_104 ko_mX12_similarity rfl rfl rfl q1) rfl rfl nm_mX12_similarity rfl (fun v3 h2 => ?_)
  refine l_pure dL_similarity_6 rfl rfl ?_
  refine l_wl dL_similarity_7 (fun h4 => ?_)
  refine l_goto (t := 14) dL_similarity_8 rfl ?_
  refine l_ic dL_similarity_14 kI_0 ?_
  exact l_iretn dL_similarity_15 rfl (by rfl)
set_option maxRecDepth 16000 in
theorem w_L_similarity_11 (S : xS)  (h : xH) : xle (some (.inl (some (.int (1 : Int32))), h, 0, 0)) (xden S mL_similarity 11 [] [.retAddr 999] h) := by
  refine l_loc (al1 := [(2, .retAddr 999)]) dL_similarity_11 rfl rfl ?_
  refine l_ic dL_similarity_12 kI_1 ?_
  exact l_iretn dL_similarity_13 rfl (by rfl)
set_option maxRecDepth 16000 in
theorem w_L_mismatchAt (S : xS) (x0 : Nat) (x1 : Int32) (x2 : Int32) (x3 : Nat) (h : xH) : xle (if xOb h x0 11 = true then xqI (xM S mX12_mismatchAt [.ref x0, .int x1, .int x2] h) (xhE S mL_mismatchAt 5 [(0, .ref x0), (1, .int x1), (2, .int x2), (3, .ref x3)]) fun v3 h2 => (xWl h2 x3 (0 : Int32) (v3.toInt64)).bind fun h4 => some (.inl (some (.int (0 : Int32))), h4, 0, 0) else none) (xM S mL_mismatchAt [.ref x0, .int x1, .int x2, .ref x3] h) := by
  show xle _ (xden S mL_mismatchAt 0 [(0, .ref x0), (1, .int x1), (2, .int x2), (3, .ref x3)] [] h)
  refine l_loc dL_mismatchAt_0 rfl rfl ?_
  refine l_ic dL_mismatchAt_1 kI_0 ?_
  refine l_loc dL_mismatchAt_2 rfl rfl ?_
  refine l_loc dL_mismatchAt_3 rfl rfl ?_
  refine l_loc dL_mismatchAt_4 rfl rfl ?_
  refine l_ob fun q1 => ?_
  refine l_cI dL_mismatchAt_5 rfl rfl rfl (l_xv cl_14_107 ko_mX12_mismatchAt rfl rfl rfl q1) rfl rfl nm_mX12_mismatchAt rfl (fun v3 h2 => ?_)
  refine l_pure dL_mismatchAt_8 rfl rfl ?_
  refine l_wl dL_mismatchAt_9 (fun h4 => ?_)
  refine l_goto (t := 21) dL_mismatchAt_10 rfl ?_
  refine l_ic dL_mismatchAt_21 kI_0 ?_
  exact l_iretn dL_mismatchAt_22 rfl (by rfl)
set_option maxRecDepth 16000 in
theorem w_L_mismatchAt_13 (S : xS)  (h : xH) : xle (some (.inl (some (.int (1 : Int32))), h, 0, 0)) (xden S mL_mismatchAt 13 [] [.retAddr 999] h) := by
  refine l_loc (al1 := [(4, .retAddr 999)]) dL_mismatchAt_13 rfl rfl ?_
  refine l_ic dL_mismatchAt_15 kI_1 ?_
  exact l_iretn dL_mismatchAt_16 rfl (by rfl)
set_option maxRecDepth 16000 in
theorem w_L_mismatchAt_17 (S : xS)  (h : xH) : xle (some (.inl (some (.int (2 : Int32))), h, 0, 0)) (xden S mL_mismatchAt 17 [] [.retAddr 999] h) := by
  refine l_loc (al1 := [(4, .retAddr 999)]) dL_mismatchAt_17 rfl rfl ?_
  refine l_ic dL_mismatchAt_19 kI_2 ?_
  exact l_iretn dL_mismatchAt_20 rfl (by rfl)
set_option maxRecDepth 16000 in
theorem w_L_blockDifference (S : xS) (x0 : Nat) (x1 : Int32) (x2 : Int32) (x3 : Nat) (h : xH) : xle (if xOb h x0 11 = true then xqI (xM S mX12_blockDifference [.ref x0, .int x1, .int x2] h) (xhE S mL_blockDifference 5 [(0, .ref x0), (1, .int x1), (2, .int x2), (3, .ref x3)]) fun v3 h2 => (xWl h2 x3 (0 : Int32) (v3.toInt64)).bind fun h4 => some (.inl (some (.int (0 : Int32))), h4, 0, 0) else none) (xM S mL_blockDifference [.ref x0, .int x1, .int x2, .ref x3] h) := by
  show xle _ (xden S mL_blockDifference 0 [(0, .ref x0), (1, .int x1), (2, .int x2), (3, .ref x3)] [] h)
  refine l_loc dL_blockDifference_0 rfl rfl ?_
  refine l_ic dL_blockDifference_1 kI_0 ?_
  refine l_loc dL_blockDifference_2 rfl rfl ?_
  refine l_loc dL_blockDifference_3 rfl rfl ?_
  refine l_loc dL_blockDifference_4 rfl rfl ?_
  refine l_ob fun q1 => ?_
  refine l_cI dL_blockDifference_5 rfl rfl rfl (l_xv cl_14_110 ko_mX12_blockDifference rfl rfl rfl q1) rfl rfl nm_mX12_blockDifference rfl (fun v3 h2 => ?_)
  refine l_pure dL_blockDifference_8 rfl rfl ?_
  refine l_wl dL_blockDifference_9 (fun h4 => ?_)
  refine l_goto (t := 21) dL_blockDifference_10 rfl ?_
  refine l_ic dL_blockDifference_21 kI_0 ?_
  exact l_iretn dL_blockDifference_22 rfl (by rfl)
set_option maxRecDepth 16000 in
theorem w_L_blockDifference_13 (S : xS)  (h : xH) : xle (some (.inl (some (.int (1 : Int32))), h, 0, 0)) (xden S mL_blockDifference 13 [] [.retAddr 999] h) := by
  refine l_loc (al1 := [(4, .retAddr 999)]) dL_blockDifference_13 rfl rfl ?_
  refine l_ic dL_blockDifference_15 kI_1 ?_
  exact l_iretn dL_blockDifference_16 rfl (by rfl)
set_option maxRecDepth 16000 in
theorem w_L_blockDifference_17 (S : xS)  (h : xH) : xle (some (.inl (some (.int (2 : Int32))), h, 0, 0)) (xden S mL_blockDifference 17 [] [.retAddr 999] h) := by
  refine l_loc (al1 := [(4, .retAddr 999)]) dL_blockDifference_17 rfl rfl ?_
  refine l_ic dL_blockDifference_19 kI_2 ?_
  exact l_iretn dL_blockDifference_20 rfl (by rfl)
set_option maxRecDepth 16000 in
theorem w_L_regions (S : xS) (x0 : Nat) (x1 : Nat) (h : xH) : xle (if xOb h x0 11 = true then xqI (xM S mX12_regions [.ref x0] h) (xhE S mL_regions 3 [(0, .ref x0), (1, .ref x1)]) fun v3 h2 => (xWl h2 x1 (0 : Int32) (v3.toInt64)).bind fun h4 => some (.inl (some (.int (0 : Int32))), h4, 0, 0) else none) (xM S mL_regions [.ref x0, .ref x1] h) := by
  show xle _ (xden S mL_regions 0 [(0, .ref x0), (1, .ref x1)] [] h)
  refine l_loc dL_regions_0 rfl rfl ?_
  refine l_ic dL_regions_1 kI_0 ?_
  refine l_loc dL_regions_2 rfl rfl ?_
  refine l_ob fun q1 => ?_
  refine l_cI dL_regions_3 rfl rfl rfl (l_xv cl_14_113 ko_mX12_regions rfl rfl rfl q1) rfl rfl nm_mX12_regions rfl (fun v3 h2 => ?_)
  refine l_pure dL_regions_6 rfl rfl ?_
  refine l_wl dL_regions_7 (fun h4 => ?_)
  refine l_goto (t := 14) dL_regions_8 rfl ?_
  refine l_ic dL_regions_14 kI_0 ?_
  exact l_iretn dL_regions_15 rfl (by rfl)
set_option maxRecDepth 16000 in
theorem w_L_regions_11 (S : xS)  (h : xH) : xle (some (.inl (some (.int (1 : Int32))), h, 0, 0)) (xden S mL_regions 11 [] [.retAddr 999] h) := by
  refine l_loc (al1 := [(2, .retAddr 999)]) dL_regions_11 rfl rfl ?_
  refine l_ic dL_regions_12 kI_1 ?_
  exact l_iretn dL_regions_13 rfl (by rfl)
set_option maxRecDepth 16000 in
theorem w_L_regionAt (S : xS) (x0 : Nat) (x1 : Int32) (x2 : Int32) (x3 : Nat) (h : xH) : xle (if xOb h x0 11 = true then xqI (xM S mX12_regionAt [.ref x0, .int x1, .int x2] h) (xhE S mL_regionAt 5 [(0, .ref x0), (1, .int x1), (2, .int x2), (3, .ref x3)]) fun v3 h2 => (xWl h2 x3 (0 : Int32) (v3.toInt64)).bind fun h4 => some (.inl (some (.int (0 : Int32))), h4, 0, 0) else none) (xM S mL_regionAt [.ref x0, .int x1, .int x2, .ref x3] h) := by
  show xle _ (xden S mL_regionAt 0 [(0, .ref x0), (1, .int x1), (2, .int x2), (3, .ref x3)] [] h)
  refine l_loc dL_regionAt_0 rfl rfl ?_
  refine l_ic dL_regionAt_1 kI_0 ?_
  refine l_loc dL_regionAt_2 rfl rfl ?_
  refine l_loc dL_regionAt_3 rfl rfl ?_
  refine l_loc dL_regionAt_4 rfl rfl ?_
  refine l_ob fun q1 => ?_
  refine l_cI dL_regionAt_5 rfl rfl rfl (l_xv cl_14_116 ko_mX12_regionAt rfl rfl rfl q1) rfl rfl nm_mX12_regionAt rfl (fun v3 h2 => ?_)
  refine l_pure dL_regionAt_8 rfl rfl ?_
  refine l_wl dL_regionAt_9 (fun h4 => ?_)
  refine l_goto (t := 21) dL_regionAt_10 rfl ?_
  refine l_ic dL_regionAt_21 kI_0 ?_
  exact l_iretn dL_regionAt_22 rfl (by rfl)
set_option maxRecDepth 16000 in
theorem w_L_regionAt_13 (S : xS)  (h : xH) : xle (some (.inl (some (.int (1 : Int32))), h, 0, 0)) (xden S mL_regionAt 13 [] [.retAddr 999] h) := by
  refine l_loc (al1 := [(4, .retAddr 999)]) dL_regionAt_13 rfl rfl ?_
  refine l_ic dL_regionAt_15 kI_1 ?_
  exact l_iretn dL_regionAt_16 rfl (by rfl)
set_option maxRecDepth 16000 in
theorem w_L_regionAt_17 (S : xS)  (h : xH) : xle (some (.inl (some (.int (2 : Int32))), h, 0, 0)) (xden S mL_regionAt 17 [] [.retAddr 999] h) := by
  refine l_loc (al1 := [(4, .retAddr 999)]) dL_regionAt_17 rfl rfl ?_
  refine l_ic dL_regionAt_19 kI_2 ?_
  exact l_iretn dL_regionAt_20 rfl (by rfl)
set_option maxRecDepth 16000 in
theorem w_L_regionLeft (S : xS) (x0 : Nat) (x1 : Int32) (x2 : Nat) (h : xH) : xle (if xOb h x0 11 = true then xqI (xM S mX12_regionLeft [.ref x0, .int x1] h) (xhE S mL_regionLeft 4 [(0, .ref x0), (1, .int x1), (2, .ref x2)]) fun v3 h2 => (xWl h2 x2 (0 : Int32) (v3.toInt64)).bind fun h4 => some (.inl (some (.int (0 : Int32))), h4, 0, 0) else none) (xM S mL_regionLeft [.ref x0, .int x1, .ref x2] h) := by
  show xle _ (xden S mL_regionLeft 0 [(0, .ref x0), (1, .int x1), (2, .ref x2)] [] h)
  refine l_loc dL_regionLeft_0 rfl rfl ?_
  refine l_ic dL_regionLeft_1 kI_0 ?_
  refine l_loc dL_regionLeft_2 rfl rfl ?_
  refine l_loc dL_regionLeft_3 rfl rfl ?_
  refine l_ob fun q1 => ?_
  refine l_cI dL_regionLeft_4 rfl rfl rfl (l_xv cl_14_119 ko_mX12_regionLeft rfl rfl rfl q1) rfl rfl nm_mX12_regionLeft rfl (fun v3 h2 => ?_)
  refine l_pure dL_regionLeft_7 rfl rfl ?_
  refine l_wl dL_regionLeft_8 (fun h4 => ?_)
  refine l_goto (t := 18) dL_regionLeft_9 rfl ?_
  refine l_ic dL_regionLeft_18 kI_0 ?_
  exact l_iretn dL_regionLeft_19 rfl (by rfl)
set_option maxRecDepth 16000 in
theorem w_L_regionLeft_12 (S : xS)  (h : xH) : xle (some (.inl (some (.int (1 : Int32))), h, 0, 0)) (xden S mL_regionLeft 12 [] [.retAddr 999] h) := by
  refine l_loc (al1 := [(3, .retAddr 999)]) dL_regionLeft_12 rfl rfl ?_
  refine l_ic dL_regionLeft_13 kI_1 ?_
  exact l_iretn dL_regionLeft_14 rfl (by rfl)
set_option maxRecDepth 16000 in
theorem w_L_regionLeft_15 (S : xS)  (h : xH) : xle (some (.inl (some (.int (2 : Int32))), h, 0, 0)) (xden S mL_regionLeft 15 [] [.retAddr 999] h) := by
  refine l_loc (al1 := [(3, .retAddr 999)]) dL_regionLeft_15 rfl rfl ?_
  refine l_ic dL_regionLeft_16 kI_2 ?_
  exact l_iretn dL_regionLeft_17 rfl (by rfl)
set_option maxRecDepth 16000 in
theorem w_L_regionTop (S : xS) (x0 : Nat) (x1 : Int32) (x2 : Nat) (h : xH) : xle (if xOb h x0 11 = true then xqI (xM S mX12_regionTop [.ref x0, .int x1] h) (xhE S mL_regionTop 4 [(0, .ref x0), (1, .int x1), (2, .ref x2)]) fun v3 h2 => (xWl h2 x2 (0 : Int32) (v3.toInt64)).bind fun h4 => some (.inl (some (.int (0 : Int32))), h4, 0, 0) else none) (xM S mL_regionTop [.ref x0, .int x1, .ref x2] h) := by
  show xle _ (xden S mL_regionTop 0 [(0, .ref x0), (1, .int x1), (2, .ref x2)] [] h)
  refine l_loc dL_regionTop_0 rfl rfl ?_
  refine l_ic dL_regionTop_1 kI_0 ?_
  refine l_loc dL_regionTop_2 rfl rfl ?_
  refine l_loc dL_regionTop_3 rfl rfl ?_
  refine l_ob fun q1 => ?_
  refine l_cI dL_regionTop_4 rfl rfl rfl (l_xv cl_14_122 ko_mX12_regionTop rfl rfl rfl q1) rfl rfl nm_mX12_regionTop rfl (fun v3 h2 => ?_)
  refine l_pure dL_regionTop_7 rfl rfl ?_
  refine l_wl dL_regionTop_8 (fun h4 => ?_)
  refine l_goto (t := 18) dL_regionTop_9 rfl ?_
  refine l_ic dL_regionTop_18 kI_0 ?_
  exact l_iretn dL_regionTop_19 rfl (by rfl)
set_option maxRecDepth 16000 in
theorem w_L_regionTop_12 (S : xS)  (h : xH) : xle (some (.inl (some (.int (1 : Int32))), h, 0, 0)) (xden S mL_regionTop 12 [] [.retAddr 999] h) := by
  refine l_loc (al1 := [(3, .retAddr 999)]) dL_regionTop_12 rfl rfl ?_
  refine l_ic dL_regionTop_13 kI_1 ?_
  exact l_iretn dL_regionTop_14 rfl (by rfl)
set_option maxRecDepth 16000 in
theorem w_L_regionTop_15 (S : xS)  (h : xH) : xle (some (.inl (some (.int (2 : Int32))), h, 0, 0)) (xden S mL_regionTop 15 [] [.retAddr 999] h) := by
  refine l_loc (al1 := [(3, .retAddr 999)]) dL_regionTop_15 rfl rfl ?_
  refine l_ic dL_regionTop_16 kI_2 ?_
  exact l_iretn dL_regionTop_17 rfl (by rfl)
set_option maxRecDepth 16000 in
theorem w_L_regionRight (S : xS) (x0 : Nat) (x1 : Int32) (x2 : Nat) (h : xH) : xle (if xOb h x0 11 = true then xqI (xM S mX12_regionRight [.ref x0, .int x1] h) (xhE S mL_regionRight 4 [(0, .ref x0), (1, .int x1), (2, .ref x2)]) fun v3 h2 => (xWl h2 x2 (0 : Int32) (v3.toInt64)).bind fun h4 => some (.inl (some (.int (0 : Int32))), h4, 0, 0) else none) (xM S mL_regionRight [.ref x0, .int x1, .ref x2] h) := by
  show xle _ (xden S mL_regionRight 0 [(0, .ref x0), (1, .int x1), (2, .ref x2)] [] h)
  refine l_loc dL_regionRight_0 rfl rfl ?_
  refine l_ic dL_regionRight_1 kI_0 ?_
  refine l_loc dL_regionRight_2 rfl rfl ?_
  refine l_loc dL_regionRight_3 rfl rfl ?_
  refine l_ob fun q1 => ?_
  refine l_cI dL_regionRight_4 rfl rfl rfl (l_xv cl_14_125 ko_mX12_regionRight rfl rfl rfl q1) rfl rfl nm_mX12_regionRight rfl (fun v3 h2 => ?_)
  refine l_pure dL_regionRight_7 rfl rfl ?_
  refine l_wl dL_regionRight_8 (fun h4 => ?_)
  refine l_goto (t := 18) dL_regionRight_9 rfl ?_
  refine l_ic dL_regionRight_18 kI_0 ?_
  exact l_iretn dL_regionRight_19 rfl (by rfl)
set_option maxRecDepth 16000 in
theorem w_L_regionRight_12 (S : xS)  (h : xH) : xle (some (.inl (some (.int (1 : Int32))), h, 0, 0)) (xden S mL_regionRight 12 [] [.retAddr 999] h) := by
  refine l_loc (al1 := [(3, .retAddr 999)]) dL_regionRight_12 rfl rfl ?_
  refine l_ic dL_regionRight_13 kI_1 ?_
  exact l_iretn dL_regionRight_14 rfl (by rfl)
set_option maxRecDepth 16000 in
theorem w_L_regionRight_15 (S : xS)  (h : xH) : xle (some (.inl (some (.int (2 : Int32))), h, 0, 0)) (xden S mL_regionRight 15 [] [.retAddr 999] h) := by
  refine l_loc (al1 := [(3, .retAddr 999)]) dL_regionRight_15 rfl rfl ?_
  refine l_ic dL_regionRight_16 kI_2 ?_
  exact l_iretn dL_regionRight_17 rfl (by rfl)
set_option maxRecDepth 16000 in
theorem w_L_regionBottom (S : xS) (x0 : Nat) (x1 : Int32) (x2 : Nat) (h : xH) : xle (if xOb h x0 11 = true then xqI (xM S mX12_regionBottom [.ref x0, .int x1] h) (xhE S mL_regionBottom 4 [(0, .ref x0), (1, .int x1), (2, .ref x2)]) fun v3 h2 => (xWl h2 x2 (0 : Int32) (v3.toInt64)).bind fun h4 => some (.inl (some (.int (0 : Int32))), h4, 0, 0) else none) (xM S mL_regionBottom [.ref x0, .int x1, .ref x2] h) := by
  show xle _ (xden S mL_regionBottom 0 [(0, .ref x0), (1, .int x1), (2, .ref x2)] [] h)
  refine l_loc dL_regionBottom_0 rfl rfl ?_
  refine l_ic dL_regionBottom_1 kI_0 ?_
  refine l_loc dL_regionBottom_2 rfl rfl ?_
  refine l_loc dL_regionBottom_3 rfl rfl ?_
  refine l_ob fun q1 => ?_
  refine l_cI dL_regionBottom_4 rfl rfl rfl (l_xv cl_14_128 ko_mX12_regionBottom rfl rfl rfl q1) rfl rfl nm_mX12_regionBottom rfl (fun v3 h2 => ?_)
  refine l_pure dL_regionBottom_7 rfl rfl ?_
  refine l_wl dL_regionBottom_8 (fun h4 => ?_)
  refine l_goto (t := 18) dL_regionBottom_9 rfl ?_
  refine l_ic dL_regionBottom_18 kI_0 ?_
  exact l_iretn dL_regionBottom_19 rfl (by rfl)
set_option maxRecDepth 16000 in
theorem w_L_regionBottom_12 (S : xS)  (h : xH) : xle (some (.inl (some (.int (1 : Int32))), h, 0, 0)) (xden S mL_regionBottom 12 [] [.retAddr 999] h) := by
  refine l_loc (al1 := [(3, .retAddr 999)]) dL_regionBottom_12 rfl rfl ?_
  refine l_ic dL_regionBottom_13 kI_1 ?_
  exact l_iretn dL_regionBottom_14 rfl (by rfl)
set_option maxRecDepth 16000 in
theorem w_L_regionBottom_15 (S : xS)  (h : xH) : xle (some (.inl (some (.int (2 : Int32))), h, 0, 0)) (xden S mL_regionBottom 15 [] [.retAddr 999] h) := by
  refine l_loc (al1 := [(3, .retAddr 999)]) dL_regionBottom_15 rfl rfl ?_
  refine l_ic dL_regionBottom_16 kI_2 ?_
  exact l_iretn dL_regionBottom_17 rfl (by rfl)
set_option maxRecDepth 16000 in
theorem w_L_missingPixels (S : xS) (x0 : Nat) (x1 : Int32) (x2 : Nat) (h : xH) : xle (if xOb h x0 11 = true then xqI (xM S mX12_missingPixels [.ref x0, .int x1] h) (xhE S mL_missingPixels 4 [(0, .ref x0), (1, .int x1), (2, .ref x2)]) fun v3 h2 => (xWl h2 x2 (0 : Int32) (v3.toInt64)).bind fun h4 => some (.inl (some (.int (0 : Int32))), h4, 0, 0) else none) (xM S mL_missingPixels [.ref x0, .int x1, .ref x2] h) := by
  show xle _ (xden S mL_missingPixels 0 [(0, .ref x0), (1, .int x1), (2, .ref x2)] [] h)
  refine l_loc dL_missingPixels_0 rfl rfl ?_
  refine l_ic dL_missingPixels_1 kI_0 ?_
  refine l_loc dL_missingPixels_2 rfl rfl ?_
  refine l_loc dL_missingPixels_3 rfl rfl ?_
  refine l_ob fun q1 => ?_
  refine l_cI dL_missingPixels_4 rfl rfl rfl (l_xv cl_14_131 ko_mX12_missingPixels rfl rfl rfl q1) rfl rfl nm_mX12_missingPixels rfl (fun v3 h2 => ?_)
  refine l_pure dL_missingPixels_7 rfl rfl ?_
  refine l_wl dL_missingPixels_8 (fun h4 => ?_)
  refine l_goto (t := 18) dL_missingPixels_9 rfl ?_
  refine l_ic dL_missingPixels_18 kI_0 ?_
  exact l_iretn dL_missingPixels_19 rfl (by rfl)
set_option maxRecDepth 16000 in
theorem w_L_missingPixels_12 (S : xS)  (h : xH) : xle (some (.inl (some (.int (1 : Int32))), h, 0, 0)) (xden S mL_missingPixels 12 [] [.retAddr 999] h) := by
  refine l_loc (al1 := [(3, .retAddr 999)]) dL_missingPixels_12 rfl rfl ?_
  refine l_ic dL_missingPixels_13 kI_1 ?_
  exact l_iretn dL_missingPixels_14 rfl (by rfl)
set_option maxRecDepth 16000 in
theorem w_L_missingPixels_15 (S : xS)  (h : xH) : xle (some (.inl (some (.int (2 : Int32))), h, 0, 0)) (xden S mL_missingPixels 15 [] [.retAddr 999] h) := by
  refine l_loc (al1 := [(3, .retAddr 999)]) dL_missingPixels_15 rfl rfl ?_
  refine l_ic dL_missingPixels_16 kI_2 ?_
  exact l_iretn dL_missingPixels_17 rfl (by rfl)
set_option maxRecDepth 16000 in
theorem w_L_addedPixels (S : xS) (x0 : Nat) (x1 : Int32) (x2 : Nat) (h : xH) : xle (if xOb h x0 11 = true then xqI (xM S mX12_addedPixels [.ref x0, .int x1] h) (xhE S mL_addedPixels 4 [(0, .ref x0), (1, .int x1), (2, .ref x2)]) fun v3 h2 => (xWl h2 x2 (0 : Int32) (v3.toInt64)).bind fun h4 => some (.inl (some (.int (0 : Int32))), h4, 0, 0) else none) (xM S mL_addedPixels [.ref x0, .int x1, .ref x2] h) := by
  show xle _ (xden S mL_addedPixels 0 [(0, .ref x0), (1, .int x1), (2, .ref x2)] [] h)
  refine l_loc dL_addedPixels_0 rfl rfl ?_
  refine l_ic dL_addedPixels_1 kI_0 ?_
  refine l_loc dL_addedPixels_2 rfl rfl ?_
  refine l_loc dL_addedPixels_3 rfl rfl ?_
  refine l_ob fun q1 => ?_
  refine l_cI dL_addedPixels_4 rfl rfl rfl (l_xv cl_14_134 ko_mX12_addedPixels rfl rfl rfl q1) rfl rfl nm_mX12_addedPixels rfl (fun v3 h2 => ?_)
  refine l_pure dL_addedPixels_7 rfl rfl ?_
  refine l_wl dL_addedPixels_8 (fun h4 => ?_)
  refine l_goto (t := 18) dL_addedPixels_9 rfl ?_
  refine l_ic dL_addedPixels_18 kI_0 ?_
  exact l_iretn dL_addedPixels_19 rfl (by rfl)
set_option maxRecDepth 16000 in
theorem w_L_addedPixels_12 (S : xS)  (h : xH) : xle (some (.inl (some (.int (1 : Int32))), h, 0, 0)) (xden S mL_addedPixels 12 [] [.retAddr 999] h) := by
  refine l_loc (al1 := [(3, .retAddr 999)]) dL_addedPixels_12 rfl rfl ?_
  refine l_ic dL_addedPixels_13 kI_1 ?_
  exact l_iretn dL_addedPixels_14 rfl (by rfl)
set_option maxRecDepth 16000 in
theorem w_L_addedPixels_15 (S : xS)  (h : xH) : xle (some (.inl (some (.int (2 : Int32))), h, 0, 0)) (xden S mL_addedPixels 15 [] [.retAddr 999] h) := by
  refine l_loc (al1 := [(3, .retAddr 999)]) dL_addedPixels_15 rfl rfl ?_
  refine l_ic dL_addedPixels_16 kI_2 ?_
  exact l_iretn dL_addedPixels_17 rfl (by rfl)
set_option maxRecDepth 16000 in
theorem w_L_changes (S : xS) (x0 : Nat) (x1 : Nat) (h : xH) : xle (if xOb h x0 11 = true then xqI (xM S mX12_changes [.ref x0] h) (xhE S mL_changes 3 [(0, .ref x0), (1, .ref x1)]) fun v3 h2 => (xWl h2 x1 (0 : Int32) (v3.toInt64)).bind fun h4 => some (.inl (some (.int (0 : Int32))), h4, 0, 0) else none) (xM S mL_changes [.ref x0, .ref x1] h) := by
  show xle _ (xden S mL_changes 0 [(0, .ref x0), (1, .ref x1)] [] h)
  refine l_loc dL_changes_0 rfl rfl ?_
  refine l_ic dL_changes_1 kI_0 ?_
  refine l_loc dL_changes_2 rfl rfl ?_
  refine l_ob fun q1 => ?_
  refine l_cI dL_changes_3 rfl rfl rfl (l_xv cl_14_137 ko_mX12_changes rfl rfl rfl q1) rfl rfl nm_mX12_changes rfl (fun v3 h2 => ?_)
  refine l_pure dL_changes_6 rfl rfl ?_
  refine l_wl dL_changes_7 (fun h4 => ?_)
  refine l_goto (t := 14) dL_changes_8 rfl ?_
  refine l_ic dL_changes_14 kI_0 ?_
  exact l_iretn dL_changes_15 rfl (by rfl)
set_option maxRecDepth 16000 in
theorem w_L_changes_11 (S : xS)  (h : xH) : xle (some (.inl (some (.int (1 : Int32))), h, 0, 0)) (xden S mL_changes 11 [] [.retAddr 999] h) := by
  refine l_loc (al1 := [(2, .retAddr 999)]) dL_changes_11 rfl rfl ?_
  refine l_ic dL_changes_12 kI_1 ?_
  exact l_iretn dL_changes_13 rfl (by rfl)
set_option maxRecDepth 16000 in
theorem w_L_changeKind (S : xS) (x0 : Nat) (x1 : Int32) (x2 : Nat) (h : xH) : xle (if xOb h x0 11 = true then xqI (xM S mX12_changeKind [.ref x0, .int x1] h) (xhE S mL_changeKind 4 [(0, .ref x0), (1, .int x1), (2, .ref x2)]) fun v3 h2 => (xWl h2 x2 (0 : Int32) (v3.toInt64)).bind fun h4 => some (.inl (some (.int (0 : Int32))), h4, 0, 0) else none) (xM S mL_changeKind [.ref x0, .int x1, .ref x2] h) := by
  show xle _ (xden S mL_changeKind 0 [(0, .ref x0), (1, .int x1), (2, .ref x2)] [] h)
  refine l_loc dL_changeKind_0 rfl rfl ?_
  refine l_ic dL_changeKind_1 kI_0 ?_
  refine l_loc dL_changeKind_2 rfl rfl ?_
  refine l_loc dL_changeKind_3 rfl rfl ?_
  refine l_ob fun q1 => ?_
  refine l_cI dL_changeKind_4 rfl rfl rfl (l_xv cl_14_140 ko_mX12_changeKind rfl rfl rfl q1) rfl rfl nm_mX12_changeKind rfl (fun v3 h2 => ?_)
  refine l_pure dL_changeKind_7 rfl rfl ?_
  refine l_wl dL_changeKind_8 (fun h4 => ?_)
  refine l_goto (t := 18) dL_changeKind_9 rfl ?_
  refine l_ic dL_changeKind_18 kI_0 ?_
  exact l_iretn dL_changeKind_19 rfl (by rfl)
set_option maxRecDepth 16000 in
theorem w_L_changeKind_12 (S : xS)  (h : xH) : xle (some (.inl (some (.int (1 : Int32))), h, 0, 0)) (xden S mL_changeKind 12 [] [.retAddr 999] h) := by
  refine l_loc (al1 := [(3, .retAddr 999)]) dL_changeKind_12 rfl rfl ?_
  refine l_ic dL_changeKind_13 kI_1 ?_
  exact l_iretn dL_changeKind_14 rfl (by rfl)
set_option maxRecDepth 16000 in
theorem w_L_changeKind_15 (S : xS)  (h : xH) : xle (some (.inl (some (.int (2 : Int32))), h, 0, 0)) (xden S mL_changeKind 15 [] [.retAddr 999] h) := by
  refine l_loc (al1 := [(3, .retAddr 999)]) dL_changeKind_15 rfl rfl ?_
  refine l_ic dL_changeKind_16 kI_2 ?_
  exact l_iretn dL_changeKind_17 rfl (by rfl)
set_option maxRecDepth 16000 in
theorem w_L_changeRegion (S : xS) (x0 : Nat) (x1 : Int32) (x2 : Nat) (h : xH) : xle (if xOb h x0 11 = true then xqI (xM S mX12_changeRegion [.ref x0, .int x1] h) (xhE S mL_changeRegion 4 [(0, .ref x0), (1, .int x1), (2, .ref x2)]) fun v3 h2 => (xWl h2 x2 (0 : Int32) (v3.toInt64)).bind fun h4 => some (.inl (some (.int (0 : Int32))), h4, 0, 0) else none) (xM S mL_changeRegion [.ref x0, .int x1, .ref x2] h) := by
  show xle _ (xden S mL_changeRegion 0 [(0, .ref x0), (1, .int x1), (2, .ref x2)] [] h)
  refine l_loc dL_changeRegion_0 rfl rfl ?_
  refine l_ic dL_changeRegion_1 kI_0 ?_
  refine l_loc dL_changeRegion_2 rfl rfl ?_
  refine l_loc dL_changeRegion_3 rfl rfl ?_
  refine l_ob fun q1 => ?_
  refine l_cI dL_changeRegion_4 rfl rfl rfl (l_xv cl_14_143 ko_mX12_changeRegion rfl rfl rfl q1) rfl rfl nm_mX12_changeRegion rfl (fun v3 h2 => ?_)
  refine l_pure dL_changeRegion_7 rfl rfl ?_
  refine l_wl dL_changeRegion_8 (fun h4 => ?_)
  refine l_goto (t := 18) dL_changeRegion_9 rfl ?_
  refine l_ic dL_changeRegion_18 kI_0 ?_
  exact l_iretn dL_changeRegion_19 rfl (by rfl)
set_option maxRecDepth 16000 in
theorem w_L_changeRegion_12 (S : xS)  (h : xH) : xle (some (.inl (some (.int (1 : Int32))), h, 0, 0)) (xden S mL_changeRegion 12 [] [.retAddr 999] h) := by
  refine l_loc (al1 := [(3, .retAddr 999)]) dL_changeRegion_12 rfl rfl ?_
  refine l_ic dL_changeRegion_13 kI_1 ?_
  exact l_iretn dL_changeRegion_14 rfl (by rfl)
set_option maxRecDepth 16000 in
theorem w_L_changeRegion_15 (S : xS)  (h : xH) : xle (some (.inl (some (.int (2 : Int32))), h, 0, 0)) (xden S mL_changeRegion 15 [] [.retAddr 999] h) := by
  refine l_loc (al1 := [(3, .retAddr 999)]) dL_changeRegion_15 rfl rfl ?_
  refine l_ic dL_changeRegion_16 kI_2 ?_
  exact l_iretn dL_changeRegion_17 rfl (by rfl)
set_option maxRecDepth 16000 in
theorem w_L_changeTarget (S : xS) (x0 : Nat) (x1 : Int32) (x2 : Nat) (h : xH) : xle (if xOb h x0 11 = true then xqI (xM S mX12_changeTarget [.ref x0, .int x1] h) (xhE S mL_changeTarget 4 [(0, .ref x0), (1, .int x1), (2, .ref x2)]) fun v3 h2 => (xWl h2 x2 (0 : Int32) (v3.toInt64)).bind fun h4 => some (.inl (some (.int (0 : Int32))), h4, 0, 0) else none) (xM S mL_changeTarget [.ref x0, .int x1, .ref x2] h) := by
  show xle _ (xden S mL_changeTarget 0 [(0, .ref x0), (1, .int x1), (2, .ref x2)] [] h)
  refine l_loc dL_changeTarget_0 rfl rfl ?_
  refine l_ic dL_changeTarget_1 kI_0 ?_
  refine l_loc dL_changeTarget_2 rfl rfl ?_
  refine l_loc dL_changeTarget_3 rfl rfl ?_
  refine l_ob fun q1 => ?_
  refine l_cI dL_changeTarget_4 rfl rfl rfl (l_xv cl_14_146 ko_mX12_changeTarget rfl rfl rfl q1) rfl rfl nm_mX12_changeTarget rfl (fun v3 h2 => ?_)
  refine l_pure dL_changeTarget_7 rfl rfl ?_
  refine l_wl dL_changeTarget_8 (fun h4 => ?_)
  refine l_goto (t := 18) dL_changeTarget_9 rfl ?_
  refine l_ic dL_changeTarget_18 kI_0 ?_
  exact l_iretn dL_changeTarget_19 rfl (by rfl)
set_option maxRecDepth 16000 in
theorem w_L_changeTarget_12 (S : xS)  (h : xH) : xle (some (.inl (some (.int (1 : Int32))), h, 0, 0)) (xden S mL_changeTarget 12 [] [.retAddr 999] h) := by
  refine l_loc (al1 := [(3, .retAddr 999)]) dL_changeTarget_12 rfl rfl ?_
  refine l_ic dL_changeTarget_13 kI_1 ?_
  exact l_iretn dL_changeTarget_14 rfl (by rfl)
set_option maxRecDepth 16000 in
theorem w_L_changeTarget_15 (S : xS)  (h : xH) : xle (some (.inl (some (.int (2 : Int32))), h, 0, 0)) (xden S mL_changeTarget 15 [] [.retAddr 999] h) := by
  refine l_loc (al1 := [(3, .retAddr 999)]) dL_changeTarget_15 rfl rfl ?_
  refine l_ic dL_changeTarget_16 kI_2 ?_
  exact l_iretn dL_changeTarget_17 rfl (by rfl)
set_option maxRecDepth 16000 in
theorem w_L_moveX (S : xS) (x0 : Nat) (x1 : Int32) (x2 : Nat) (h : xH) : xle (if xOb h x0 11 = true then xqI (xM S mX12_moveX [.ref x0, .int x1] h) (xhE S mL_moveX 4 [(0, .ref x0), (1, .int x1), (2, .ref x2)]) fun v3 h2 => (xWl h2 x2 (0 : Int32) (v3.toInt64)).bind fun h4 => some (.inl (some (.int (0 : Int32))), h4, 0, 0) else none) (xM S mL_moveX [.ref x0, .int x1, .ref x2] h) := by
  show xle _ (xden S mL_moveX 0 [(0, .ref x0), (1, .int x1), (2, .ref x2)] [] h)
  refine l_loc dL_moveX_0 rfl rfl ?_
  refine l_ic dL_moveX_1 kI_0 ?_
  refine l_loc dL_moveX_2 rfl rfl ?_
  refine l_loc dL_moveX_3 rfl rfl ?_
  refine l_ob fun q1 => ?_
  refine l_cI dL_moveX_4 rfl rfl rfl (l_xv cl_14_149 ko_mX12_moveX rfl rfl rfl q1) rfl rfl nm_mX12_moveX rfl (fun v3 h2 => ?_)
  refine l_pure dL_moveX_7 rfl rfl ?_
  refine l_wl dL_moveX_8 (fun h4 => ?_)
  refine l_goto (t := 18) dL_moveX_9 rfl ?_
  refine l_ic dL_moveX_18 kI_0 ?_
  exact l_iretn dL_moveX_19 rfl (by rfl)
set_option maxRecDepth 16000 in
theorem w_L_moveX_12 (S : xS)  (h : xH) : xle (some (.inl (some (.int (1 : Int32))), h, 0, 0)) (xden S mL_moveX 12 [] [.retAddr 999] h) := by
  refine l_loc (al1 := [(3, .retAddr 999)]) dL_moveX_12 rfl rfl ?_
  refine l_ic dL_moveX_13 kI_1 ?_
  exact l_iretn dL_moveX_14 rfl (by rfl)
set_option maxRecDepth 16000 in
theorem w_L_moveX_15 (S : xS)  (h : xH) : xle (some (.inl (some (.int (2 : Int32))), h, 0, 0)) (xden S mL_moveX 15 [] [.retAddr 999] h) := by
  refine l_loc (al1 := [(3, .retAddr 999)]) dL_moveX_15 rfl rfl ?_
  refine l_ic dL_moveX_16 kI_2 ?_
  exact l_iretn dL_moveX_17 rfl (by rfl)
set_option maxRecDepth 16000 in
theorem w_L_moveY (S : xS) (x0 : Nat) (x1 : Int32) (x2 : Nat) (h : xH) : xle (if xOb h x0 11 = true then xqI (xM S mX12_moveY [.ref x0, .int x1] h) (xhE S mL_moveY 4 [(0, .ref x0), (1, .int x1), (2, .ref x2)]) fun v3 h2 => (xWl h2 x2 (0 : Int32) (v3.toInt64)).bind fun h4 => some (.inl (some (.int (0 : Int32))), h4, 0, 0) else none) (xM S mL_moveY [.ref x0, .int x1, .ref x2] h) := by
  show xle _ (xden S mL_moveY 0 [(0, .ref x0), (1, .int x1), (2, .ref x2)] [] h)
  refine l_loc dL_moveY_0 rfl rfl ?_
  refine l_ic dL_moveY_1 kI_0 ?_
  refine l_loc dL_moveY_2 rfl rfl ?_
  refine l_loc dL_moveY_3 rfl rfl ?_
  refine l_ob fun q1 => ?_
  refine l_cI dL_moveY_4 rfl rfl rfl (l_xv cl_14_152 ko_mX12_moveY rfl rfl rfl q1) rfl rfl nm_mX12_moveY rfl (fun v3 h2 => ?_)
  refine l_pure dL_moveY_7 rfl rfl ?_
  refine l_wl dL_moveY_8 (fun h4 => ?_)
  refine l_goto (t := 18) dL_moveY_9 rfl ?_
  refine l_ic dL_moveY_18 kI_0 ?_
  exact l_iretn dL_moveY_19 rfl (by rfl)
set_option maxRecDepth 16000 in
theorem w_L_moveY_12 (S : xS)  (h : xH) : xle (some (.inl (some (.int (1 : Int32))), h, 0, 0)) (xden S mL_moveY 12 [] [.retAddr 999] h) := by
  refine l_loc (al1 := [(3, .retAddr 999)]) dL_moveY_12 rfl rfl ?_
  refine l_ic dL_moveY_13 kI_1 ?_
  exact l_iretn dL_moveY_14 rfl (by rfl)
set_option maxRecDepth 16000 in
theorem w_L_moveY_15 (S : xS)  (h : xH) : xle (some (.inl (some (.int (2 : Int32))), h, 0, 0)) (xden S mL_moveY 15 [] [.retAddr 999] h) := by
  refine l_loc (al1 := [(3, .retAddr 999)]) dL_moveY_15 rfl rfl ?_
  refine l_ic dL_moveY_16 kI_2 ?_
  exact l_iretn dL_moveY_17 rfl (by rfl)
set_option maxRecDepth 16000 in
theorem w_L_changePixels (S : xS) (x0 : Nat) (x1 : Int32) (x2 : Nat) (h : xH) : xle (if xOb h x0 11 = true then xqI (xM S mX12_changePixels [.ref x0, .int x1] h) (xhE S mL_changePixels 4 [(0, .ref x0), (1, .int x1), (2, .ref x2)]) fun v3 h2 => (xWl h2 x2 (0 : Int32) (v3.toInt64)).bind fun h4 => some (.inl (some (.int (0 : Int32))), h4, 0, 0) else none) (xM S mL_changePixels [.ref x0, .int x1, .ref x2] h) := by
  show xle _ (xden S mL_changePixels 0 [(0, .ref x0), (1, .int x1), (2, .ref x2)] [] h)
  refine l_loc dL_changePixels_0 rfl rfl ?_
  refine l_ic dL_changePixels_1 kI_0 ?_
  refine l_loc dL_changePixels_2 rfl rfl ?_
  refine l_loc dL_changePixels_3 rfl rfl ?_
  refine l_ob fun q1 => ?_
  refine l_cI dL_changePixels_4 rfl rfl rfl (l_xv cl_14_155 ko_mX12_changePixels rfl rfl rfl q1) rfl rfl nm_mX12_changePixels rfl (fun v3 h2 => ?_)
  refine l_pure dL_changePixels_7 rfl rfl ?_
  refine l_wl dL_changePixels_8 (fun h4 => ?_)
  refine l_goto (t := 18) dL_changePixels_9 rfl ?_
  refine l_ic dL_changePixels_18 kI_0 ?_
  exact l_iretn dL_changePixels_19 rfl (by rfl)
set_option maxRecDepth 16000 in
theorem w_L_changePixels_12 (S : xS)  (h : xH) : xle (some (.inl (some (.int (1 : Int32))), h, 0, 0)) (xden S mL_changePixels 12 [] [.retAddr 999] h) := by
  refine l_loc (al1 := [(3, .retAddr 999)]) dL_changePixels_12 rfl rfl ?_
  refine l_ic dL_changePixels_13 kI_1 ?_
  exact l_iretn dL_changePixels_14 rfl (by rfl)
set_option maxRecDepth 16000 in
theorem w_L_changePixels_15 (S : xS)  (h : xH) : xle (some (.inl (some (.int (2 : Int32))), h, 0, 0)) (xden S mL_changePixels 15 [] [.retAddr 999] h) := by
  refine l_loc (al1 := [(3, .retAddr 999)]) dL_changePixels_15 rfl rfl ?_
  refine l_ic dL_changePixels_16 kI_2 ?_
  exact l_iretn dL_changePixels_17 rfl (by rfl)
set_option maxRecDepth 16000 in
theorem w_L_changeLine (S : xS) (x0 : Nat) (x1 : Int32) (x2 : Nat) (h : xH) : xle (if xOb h x0 11 = true then xqI (xM S mX12_changeLine [.ref x0, .int x1] h) (xhE S mL_changeLine 4 [(0, .ref x0), (1, .int x1), (2, .ref x2)]) fun v3 h2 => (xWl h2 x2 (0 : Int32) (v3.toInt64)).bind fun h4 => some (.inl (some (.int (0 : Int32))), h4, 0, 0) else none) (xM S mL_changeLine [.ref x0, .int x1, .ref x2] h) := by
  show xle _ (xden S mL_changeLine 0 [(0, .ref x0), (1, .int x1), (2, .ref x2)] [] h)
  refine l_loc dL_changeLine_0 rfl rfl ?_
  refine l_ic dL_changeLine_1 kI_0 ?_
  refine l_loc dL_changeLine_2 rfl rfl ?_
  refine l_loc dL_changeLine_3 rfl rfl ?_
  refine l_ob fun q1 => ?_
  refine l_cI dL_changeLine_4 rfl rfl rfl (l_xv cl_14_158 ko_mX12_changeLine rfl rfl rfl q1) rfl rfl nm_mX12_changeLine rfl (fun v3 h2 => ?_)
  refine l_pure dL_changeLine_7 rfl rfl ?_
  refine l_wl dL_changeLine_8 (fun h4 => ?_)
  refine l_goto (t := 18) dL_changeLine_9 rfl ?_
  refine l_ic dL_changeLine_18 kI_0 ?_
  exact l_iretn dL_changeLine_19 rfl (by rfl)
set_option maxRecDepth 16000 in
theorem w_L_changeLine_12 (S : xS)  (h : xH) : xle (some (.inl (some (.int (1 : Int32))), h, 0, 0)) (xden S mL_changeLine 12 [] [.retAddr 999] h) := by
  refine l_loc (al1 := [(3, .retAddr 999)]) dL_changeLine_12 rfl rfl ?_
  refine l_ic dL_changeLine_13 kI_1 ?_
  exact l_iretn dL_changeLine_14 rfl (by rfl)
set_option maxRecDepth 16000 in
theorem w_L_changeLine_15 (S : xS)  (h : xH) : xle (some (.inl (some (.int (2 : Int32))), h, 0, 0)) (xden S mL_changeLine 15 [] [.retAddr 999] h) := by
  refine l_loc (al1 := [(3, .retAddr 999)]) dL_changeLine_15 rfl rfl ?_
  refine l_ic dL_changeLine_16 kI_2 ?_
  exact l_iretn dL_changeLine_17 rfl (by rfl)
set_option maxRecDepth 16000 in
theorem w_L_reportChar (S : xS) (x0 : Nat) (x1 : Int32) (x2 : Nat) (h : xH) : xle (if xOb h x0 11 = true then xqI (xM S mX12_reportChar [.ref x0, .int x1] h) (xhE S mL_reportChar 4 [(0, .ref x0), (1, .int x1), (2, .ref x2)]) fun v3 h2 => (xWl h2 x2 (0 : Int32) (v3.toInt64)).bind fun h4 => some (.inl (some (.int (0 : Int32))), h4, 0, 0) else none) (xM S mL_reportChar [.ref x0, .int x1, .ref x2] h) := by
  show xle _ (xden S mL_reportChar 0 [(0, .ref x0), (1, .int x1), (2, .ref x2)] [] h)
  refine l_loc dL_reportChar_0 rfl rfl ?_
  refine l_ic dL_reportChar_1 kI_0 ?_
  refine l_loc dL_reportChar_2 rfl rfl ?_
  refine l_loc dL_reportChar_3 rfl rfl ?_
  refine l_ob fun q1 => ?_
  refine l_cI dL_reportChar_4 rfl rfl rfl (l_xv cl_14_161 ko_mX12_reportChar rfl rfl rfl q1) rfl rfl nm_mX12_reportChar rfl (fun v3 h2 => ?_)
  refine l_pure dL_reportChar_7 rfl rfl ?_
  refine l_wl dL_reportChar_8 (fun h4 => ?_)
  refine l_goto (t := 18) dL_reportChar_9 rfl ?_
  refine l_ic dL_reportChar_18 kI_0 ?_
  exact l_iretn dL_reportChar_19 rfl (by rfl)
set_option maxRecDepth 16000 in
theorem w_L_reportChar_12 (S : xS)  (h : xH) : xle (some (.inl (some (.int (1 : Int32))), h, 0, 0)) (xden S mL_reportChar 12 [] [.retAddr 999] h) := by
  refine l_loc (al1 := [(3, .retAddr 999)]) dL_reportChar_12 rfl rfl ?_
  refine l_ic dL_reportChar_13 kI_1 ?_
  exact l_iretn dL_reportChar_14 rfl (by rfl)
set_option maxRecDepth 16000 in
theorem w_L_reportChar_15 (S : xS)  (h : xH) : xle (some (.inl (some (.int (2 : Int32))), h, 0, 0)) (xden S mL_reportChar 15 [] [.retAddr 999] h) := by
  refine l_loc (al1 := [(3, .retAddr 999)]) dL_reportChar_15 rfl rfl ?_
  refine l_ic dL_reportChar_16 kI_2 ?_
  exact l_iretn dL_reportChar_17 rfl (by rfl)
set_option maxRecDepth 16000 in
theorem w_L_learn (S : xS) (x0 : Nat) (x1 : Int32) (x2 : Nat) (h : xH) : xle (if xOb h x0 11 = true then xqI (xM S mX12_learn [.ref x0, .int x1] h) (xhE S mL_learn 4 [(0, .ref x0), (1, .int x1), (2, .ref x2)]) fun v3 h2 => (xWl h2 x2 (0 : Int32) (v3.toInt64)).bind fun h4 => some (.inl (some (.int (0 : Int32))), h4, 0, 0) else none) (xM S mL_learn [.ref x0, .int x1, .ref x2] h) := by
  show xle _ (xden S mL_learn 0 [(0, .ref x0), (1, .int x1), (2, .ref x2)] [] h)
  refine l_loc dL_learn_0 rfl rfl ?_
  refine l_ic dL_learn_1 kI_0 ?_
  refine l_loc dL_learn_2 rfl rfl ?_
  refine l_loc dL_learn_3 rfl rfl ?_
  refine l_ob fun q1 => ?_
  refine l_cI dL_learn_4 rfl rfl rfl (l_xv cl_14_164 ko_mX12_learn rfl rfl rfl q1) rfl rfl nm_mX12_learn rfl (fun v3 h2 => ?_)
  refine l_pure dL_learn_7 rfl rfl ?_
  refine l_wl dL_learn_8 (fun h4 => ?_)
  refine l_goto (t := 18) dL_learn_9 rfl ?_
  refine l_ic dL_learn_18 kI_0 ?_
  exact l_iretn dL_learn_19 rfl (by rfl)
set_option maxRecDepth 16000 in
theorem w_L_learn_12 (S : xS)  (h : xH) : xle (some (.inl (some (.int (1 : Int32))), h, 0, 0)) (xden S mL_learn 12 [] [.retAddr 999] h) := by
  refine l_loc (al1 := [(3, .retAddr 999)]) dL_learn_12 rfl rfl ?_
  refine l_ic dL_learn_13 kI_1 ?_
  exact l_iretn dL_learn_14 rfl (by rfl)
set_option maxRecDepth 16000 in
theorem w_L_learn_15 (S : xS)  (h : xH) : xle (some (.inl (some (.int (2 : Int32))), h, 0, 0)) (xden S mL_learn 15 [] [.retAddr 999] h) := by
  refine l_loc (al1 := [(3, .retAddr 999)]) dL_learn_15 rfl rfl ?_
  refine l_ic dL_learn_16 kI_2 ?_
  exact l_iretn dL_learn_17 rfl (by rfl)
set_option maxRecDepth 16000 in
theorem w_L_stampOf (S : xS) (x0 : Nat) (x1 : Int32) (x2 : Nat) (h : xH) : xle (if xOb h x0 11 = true then xqI (xM S mX12_stampOf [.ref x0, .int x1] h) (xhE S mL_stampOf 4 [(0, .ref x0), (1, .int x1), (2, .ref x2)]) fun v3 h2 => (xWl h2 x2 (0 : Int32) (v3.toInt64)).bind fun h4 => some (.inl (some (.int (0 : Int32))), h4, 0, 0) else none) (xM S mL_stampOf [.ref x0, .int x1, .ref x2] h) := by
  show xle _ (xden S mL_stampOf 0 [(0, .ref x0), (1, .int x1), (2, .ref x2)] [] h)
  refine l_loc dL_stampOf_0 rfl rfl ?_
  refine l_ic dL_stampOf_1 kI_0 ?_
  refine l_loc dL_stampOf_2 rfl rfl ?_
  refine l_loc dL_stampOf_3 rfl rfl ?_
  refine l_ob fun q1 => ?_
  refine l_cI dL_stampOf_4 rfl rfl rfl (l_xv cl_14_167 ko_mX12_stampOf rfl rfl rfl q1) rfl rfl nm_mX12_stampOf rfl (fun v3 h2 => ?_)
  refine l_pure dL_stampOf_7 rfl rfl ?_
  refine l_wl dL_stampOf_8 (fun h4 => ?_)
  refine l_goto (t := 18) dL_stampOf_9 rfl ?_
  refine l_ic dL_stampOf_18 kI_0 ?_
  exact l_iretn dL_stampOf_19 rfl (by rfl)
set_option maxRecDepth 16000 in
theorem w_L_stampOf_12 (S : xS)  (h : xH) : xle (some (.inl (some (.int (1 : Int32))), h, 0, 0)) (xden S mL_stampOf 12 [] [.retAddr 999] h) := by
  refine l_loc (al1 := [(3, .retAddr 999)]) dL_stampOf_12 rfl rfl ?_
  refine l_ic dL_stampOf_13 kI_1 ?_
  exact l_iretn dL_stampOf_14 rfl (by rfl)
set_option maxRecDepth 16000 in
theorem w_L_stampOf_15 (S : xS)  (h : xH) : xle (some (.inl (some (.int (2 : Int32))), h, 0, 0)) (xden S mL_stampOf 15 [] [.retAddr 999] h) := by
  refine l_loc (al1 := [(3, .retAddr 999)]) dL_stampOf_15 rfl rfl ?_
  refine l_ic dL_stampOf_16 kI_2 ?_
  exact l_iretn dL_stampOf_17 rfl (by rfl)
set_option maxRecDepth 16000 in
theorem w_L_forgetStamp (S : xS) (x0 : Nat) (x1 : Int32) (x2 : Nat) (h : xH) : xle (if xOb h x0 11 = true then xqI (xM S mX12_forgetStamp [.ref x0, .int x1] h) (xhE S mL_forgetStamp 4 [(0, .ref x0), (1, .int x1), (2, .ref x2)]) fun v3 h2 => (xWl h2 x2 (0 : Int32) (v3.toInt64)).bind fun h4 => some (.inl (some (.int (0 : Int32))), h4, 0, 0) else none) (xM S mL_forgetStamp [.ref x0, .int x1, .ref x2] h) := by
  show xle _ (xden S mL_forgetStamp 0 [(0, .ref x0), (1, .int x1), (2, .ref x2)] [] h)
  refine l_loc dL_forgetStamp_0 rfl rfl ?_
  refine l_ic dL_forgetStamp_1 kI_0 ?_
  refine l_loc dL_forgetStamp_2 rfl rfl ?_
  refine l_loc dL_forgetStamp_3 rfl rfl ?_
  refine l_ob fun q1 => ?_
  refine l_cI dL_forgetStamp_4 rfl rfl rfl (l_xv cl_14_170 ko_mX12_forgetStamp rfl rfl rfl q1) rfl rfl nm_mX12_forgetStamp rfl (fun v3 h2 => ?_)
  refine l_pure dL_forgetStamp_7 rfl rfl ?_
  refine l_wl dL_forgetStamp_8 (fun h4 => ?_)
  refine l_goto (t := 15) dL_forgetStamp_9 rfl ?_
  refine l_ic dL_forgetStamp_15 kI_0 ?_
  exact l_iretn dL_forgetStamp_16 rfl (by rfl)
set_option maxRecDepth 16000 in
theorem w_L_forgetStamp_12 (S : xS)  (h : xH) : xle (some (.inl (some (.int (1 : Int32))), h, 0, 0)) (xden S mL_forgetStamp 12 [] [.retAddr 999] h) := by
  refine l_loc (al1 := [(3, .retAddr 999)]) dL_forgetStamp_12 rfl rfl ?_
  refine l_ic dL_forgetStamp_13 kI_1 ?_
  exact l_iretn dL_forgetStamp_14 rfl (by rfl)
set_option maxRecDepth 16000 in
theorem w_L_accept (S : xS) (x0 : Nat) (x1 : Int32) (x2 : Nat) (h : xH) : xle (if xOb h x0 11 = true then xqI (xM S mX12_accept [.ref x0, .int x1] h) (xhE S mL_accept 4 [(0, .ref x0), (1, .int x1), (2, .ref x2)]) fun v3 h2 => (xWl h2 x2 (0 : Int32) (v3.toInt64)).bind fun h4 => some (.inl (some (.int (0 : Int32))), h4, 0, 0) else none) (xM S mL_accept [.ref x0, .int x1, .ref x2] h) := by
  show xle _ (xden S mL_accept 0 [(0, .ref x0), (1, .int x1), (2, .ref x2)] [] h)
  refine l_loc dL_accept_0 rfl rfl ?_
  refine l_ic dL_accept_1 kI_0 ?_
  refine l_loc dL_accept_2 rfl rfl ?_
  refine l_loc dL_accept_3 rfl rfl ?_
  refine l_ob fun q1 => ?_
  refine l_cI dL_accept_4 rfl rfl rfl (l_xv cl_14_173 ko_mX12_accept rfl rfl rfl q1) rfl rfl nm_mX12_accept rfl (fun v3 h2 => ?_)
  refine l_pure dL_accept_7 rfl rfl ?_
  refine l_wl dL_accept_8 (fun h4 => ?_)
  refine l_goto (t := 18) dL_accept_9 rfl ?_
  refine l_ic dL_accept_18 kI_0 ?_
  exact l_iretn dL_accept_19 rfl (by rfl)
set_option maxRecDepth 16000 in
theorem w_L_accept_12 (S : xS)  (h : xH) : xle (some (.inl (some (.int (1 : Int32))), h, 0, 0)) (xden S mL_accept 12 [] [.retAddr 999] h) := by
  refine l_loc (al1 := [(3, .retAddr 999)]) dL_accept_12 rfl rfl ?_
  refine l_ic dL_accept_13 kI_1 ?_
  exact l_iretn dL_accept_14 rfl (by rfl)
set_option maxRecDepth 16000 in
theorem w_L_accept_15 (S : xS)  (h : xH) : xle (some (.inl (some (.int (2 : Int32))), h, 0, 0)) (xden S mL_accept 15 [] [.retAddr 999] h) := by
  refine l_loc (al1 := [(3, .retAddr 999)]) dL_accept_15 rfl rfl ?_
  refine l_ic dL_accept_16 kI_2 ?_
  exact l_iretn dL_accept_17 rfl (by rfl)
set_option maxRecDepth 16000 in
theorem w_L_leastNoise (S : xS) (x0 : Nat) (x1 : Int32) (x2 : Nat) (h : xH) : xle (if xOb h x0 11 = true then xqI (xM S mX12_leastNoise [.ref x0, .int x1] h) (xhE S mL_leastNoise 4 [(0, .ref x0), (1, .int x1), (2, .ref x2)]) fun v3 h2 => (xWl h2 x2 (0 : Int32) (v3.toInt64)).bind fun h4 => some (.inl (some (.int (0 : Int32))), h4, 0, 0) else none) (xM S mL_leastNoise [.ref x0, .int x1, .ref x2] h) := by
  show xle _ (xden S mL_leastNoise 0 [(0, .ref x0), (1, .int x1), (2, .ref x2)] [] h)
  refine l_loc dL_leastNoise_0 rfl rfl ?_
  refine l_ic dL_leastNoise_1 kI_0 ?_
  refine l_loc dL_leastNoise_2 rfl rfl ?_
  refine l_loc dL_leastNoise_3 rfl rfl ?_
  refine l_ob fun q1 => ?_
  refine l_cI dL_leastNoise_4 rfl rfl rfl (l_xv cl_14_176 ko_mX12_leastNoise rfl rfl rfl q1) rfl rfl nm_mX12_leastNoise rfl (fun v3 h2 => ?_)
  refine l_pure dL_leastNoise_7 rfl rfl ?_
  refine l_wl dL_leastNoise_8 (fun h4 => ?_)
  refine l_goto (t := 18) dL_leastNoise_9 rfl ?_
  refine l_ic dL_leastNoise_18 kI_0 ?_
  exact l_iretn dL_leastNoise_19 rfl (by rfl)
set_option maxRecDepth 16000 in
theorem w_L_leastNoise_12 (S : xS)  (h : xH) : xle (some (.inl (some (.int (1 : Int32))), h, 0, 0)) (xden S mL_leastNoise 12 [] [.retAddr 999] h) := by
  refine l_loc (al1 := [(3, .retAddr 999)]) dL_leastNoise_12 rfl rfl ?_
  refine l_ic dL_leastNoise_13 kI_1 ?_
  exact l_iretn dL_leastNoise_14 rfl (by rfl)
set_option maxRecDepth 16000 in
theorem w_L_leastNoise_15 (S : xS)  (h : xH) : xle (some (.inl (some (.int (2 : Int32))), h, 0, 0)) (xden S mL_leastNoise 15 [] [.retAddr 999] h) := by
  refine l_loc (al1 := [(3, .retAddr 999)]) dL_leastNoise_15 rfl rfl ?_
  refine l_ic dL_leastNoise_16 kI_2 ?_
  exact l_iretn dL_leastNoise_17 rfl (by rfl)

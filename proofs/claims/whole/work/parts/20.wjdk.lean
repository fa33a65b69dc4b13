/-! ROWS OF METHODS, by program (wip/whole/wp.py, wpemit.py): each method as an expression -/
set_option maxRecDepth 16000 in
theorem w_J9_min_7cf53 (S : xS) (x0 : Int32) (x1 : Int32) (h : xH) : xle (if x1 < x0 then (some (.inl (some (.int x1)), h, 0, 0)) else (some (.inl (some (.int x0)), h, 0, 0))) (xM S mJ9_min_7cf53 [.int x0, .int x1] h) := by
  show xle _ (xden S mJ9_min_7cf53 0 [(0, .int x0), (1, .int x1)] [] h)
  refine l_loc dJ9_min_7cf53_0 rfl rfl ?_
  refine l_loc dJ9_min_7cf53_1 rfl rfl ?_
  refine l_cgt (t := 9) dJ9_min_7cf53_2 rfl ?_ ?_
  · refine l_loc dJ9_min_7cf53_9 rfl rfl ?_
    exact l_iretn dJ9_min_7cf53_10 rfl (by rfl)
  · refine l_loc dJ9_min_7cf53_5 rfl rfl ?_
    refine l_goto (t := 10) dJ9_min_7cf53_6 rfl ?_
    exact l_iretn dJ9_min_7cf53_10 rfl (by rfl)
set_option maxRecDepth 16000 in
theorem w_J9_max_7cf53 (S : xS) (x0 : Int32) (x1 : Int32) (h : xH) : xle (if x0 < x1 then (some (.inl (some (.int x1)), h, 0, 0)) else (some (.inl (some (.int x0)), h, 0, 0))) (xM S mJ9_max_7cf53 [.int x0, .int x1] h) := by
  show xle _ (xden S mJ9_max_7cf53 0 [(0, .int x0), (1, .int x1)] [] h)
  refine l_loc dJ9_max_7cf53_0 rfl rfl ?_
  refine l_loc dJ9_max_7cf53_1 rfl rfl ?_
  refine l_clt (t := 9) dJ9_max_7cf53_2 rfl ?_ ?_
  · refine l_loc dJ9_max_7cf53_9 rfl rfl ?_
    exact l_iretn dJ9_max_7cf53_10 rfl (by rfl)
  · refine l_loc dJ9_max_7cf53_5 rfl rfl ?_
    refine l_goto (t := 10) dJ9_max_7cf53_6 rfl ?_
    exact l_iretn dJ9_max_7cf53_10 rfl (by rfl)
set_option maxRecDepth 16000 in
theorem w_J0_length_8abf5 (S : xS) (x0 : Nat) (h : xH) : xle ((xCk x0 17 9).bind fun v1 => (xRbz v1).bind fun v2 => if xCcl x0 = some 17 then xqI (xM S mJ0_coder_7d493 [.retAddr x0] h) xth fun v5 h4 => some (.inl (some (.int (v2 >>> (v5 &&& 31)))), h4, 0, 0) else none) (xM S mJ0_length_8abf5 [.retAddr x0] h) := by
  show xle _ (xden S mJ0_length_8abf5 0 [(0, .retAddr x0)] [] h)
  refine l_loc dJ0_length_8abf5_0 rfl rfl ?_
  refine l_kl dJ0_length_8abf5_1 rfl (fun v1 => ?_)
  refine l_lb dJ0_length_8abf5_4 (fun v2 => ?_)
  refine l_loc dJ0_length_8abf5_5 rfl rfl ?_
  refine l_cl fun q3 => ?_
  refine l_cI dJ0_length_8abf5_6 rfl rfl rfl (l_xk cl_17_335 ko_mJ0_coder_7d493 rfl rfl rfl q3) rfl rfl nm_mJ0_coder_7d493 (xhE_th rfl) (fun v5 h4 => ?_)
  refine l_pure dJ0_length_8abf5_9 rfl rfl ?_
  exact l_iretn dJ0_length_8abf5_10 rfl (by rfl)
set_option maxRecDepth 16000 in
theorem w_J0_coder_7d493 (S : xS) (x0 : Nat) (h : xH) : xle (if (1 : Int32) = 0 then (some (.inl (some (.int (1 : Int32))), h, 0, 0)) else ((xCi x0 17 15).bind fun v1 => if narrow .byte (.int v1) = .int v1 then some (.inl (some (.int v1)), h, 0, 0) else none)) (xM S mJ0_coder_7d493 [.retAddr x0] h) := by
  show xle _ (xden S mJ0_coder_7d493 0 [(0, .retAddr x0)] [] h)
  refine l_rd (st1 := [.int (1 : Int32)]) dJ0_coder_7d493_0 rfl rfl ?_
  refine l_ieq (t := 13) dJ0_coder_7d493_3 rfl ?_ ?_
  · refine l_ic dJ0_coder_7d493_13 kI_1 ?_
    exact l_iretn dJ0_coder_7d493_14 rfl (by decide)
  · refine l_loc dJ0_coder_7d493_6 rfl rfl ?_
    refine l_kj dJ0_coder_7d493_7 rfl (fun v1 => ?_)
    refine l_goto (t := 14) dJ0_coder_7d493_10 rfl ?_
    exact l_iret dJ0_coder_7d493_14 rfl
set_option maxRecDepth 16000 in
theorem w_J0_charAt_5068e (S : xS) (x0 : Nat) (x1 : Int32) (h : xH) : xle (if xCcl x0 = some 17 then xqI (xM S mJ0_isLatin1_aae02 [.retAddr x0] h) xth fun v3 h2 => if v3 = 0 then ((xCk x0 17 9).bind fun v4 => none) else ((xCk x0 17 9).bind fun v5 => xqI (xM S mJ1_charAt_3b067 [.retAddr v5, .int x1] h2) xth fun v7 h6 => if narrow .char (.int v7) = .int v7 then some (.inl (some (.int v7)), h6, 0, 0) else none) else none) (xM S mJ0_charAt_5068e [.retAddr x0, .int x1] h) := by
  show xle _ (xden S mJ0_charAt_5068e 0 [(0, .retAddr x0), (1, .int x1)] [] h)
  refine l_loc dJ0_charAt_5068e_0 rfl rfl ?_
  refine l_cl fun q1 => ?_
  refine l_cI dJ0_charAt_5068e_1 rfl rfl rfl (l_xk cl_17_492 ko_mJ0_isLatin1_aae02 rfl rfl rfl q1) rfl rfl nm_mJ0_isLatin1_aae02 (xhE_th rfl) (fun v3 h2 => ?_)
  refine l_ieq (t := 16) dJ0_charAt_5068e_4 rfl ?_ ?_
  · refine l_loc dJ0_charAt_5068e_16 rfl rfl ?_
    refine l_kl dJ0_charAt_5068e_17 rfl (fun v4 => ?_)
    refine l_loc dJ0_charAt_5068e_20 rfl rfl ?_
    exact l_none
  · refine l_loc dJ0_charAt_5068e_7 rfl rfl ?_
    refine l_kl dJ0_charAt_5068e_8 rfl (fun v5 => ?_)
    refine l_loc dJ0_charAt_5068e_11 rfl rfl ?_
    refine l_cI dJ0_charAt_5068e_12 rfl rfl rfl (l_xs cl_17_495 ko_mJ1_charAt_3b067 rfl rfl) rfl rfl nm_mJ1_charAt_3b067 (xhE_th rfl) (fun v7 h6 => ?_)
    exact l_iret dJ0_charAt_5068e_15 rfl
set_option maxRecDepth 16000 in
theorem w_J0_isLatin1_aae02 (S : xS) (x0 : Nat) (h : xH) : xle (if (1 : Int32) = 0 then (some (.inl (some (.int (0 : Int32))), h, 0, 0)) else ((xCi x0 17 15).bind fun v1 => if ¬ v1 = 0 then (some (.inl (some (.int (0 : Int32))), h, 0, 0)) else (some (.inl (some (.int (1 : Int32))), h, 0, 0)))) (xM S mJ0_isLatin1_aae02 [.retAddr x0] h) := by
  show xle _ (xden S mJ0_isLatin1_aae02 0 [(0, .retAddr x0)] [] h)
  refine l_rd (st1 := [.int (1 : Int32)]) dJ0_isLatin1_aae02_0 rfl rfl ?_
  refine l_ieq (t := 17) dJ0_isLatin1_aae02_3 rfl ?_ ?_
  · refine l_ic dJ0_isLatin1_aae02_17 kI_0 ?_
    exact l_iretn dJ0_isLatin1_aae02_18 rfl (by decide)
  · refine l_loc dJ0_isLatin1_aae02_6 rfl rfl ?_
    refine l_kj dJ0_isLatin1_aae02_7 rfl (fun v1 => ?_)
    refine l_ine (t := 17) dJ0_isLatin1_aae02_10 rfl ?_ ?_
    · refine l_ic dJ0_isLatin1_aae02_17 kI_0 ?_
      exact l_iretn dJ0_isLatin1_aae02_18 rfl (by decide)
    · refine l_ic dJ0_isLatin1_aae02_13 kI_1 ?_
      refine l_goto (t := 18) dJ0_isLatin1_aae02_14 rfl ?_
      exact l_iretn dJ0_isLatin1_aae02_18 rfl (by decide)
set_option maxRecDepth 16000 in
theorem w_J1_charAt_3b067 (S : xS) (x0 : Nat) (x1 : Int32) (h : xH) : xle ((xRbz x0).bind fun v1 => xqV (xM S mJ0_checkIndex_df160 [.int x1, .int v1] h) xth fun h2 => (xRb x0 x1).bind fun v4 => if narrow .char (.int (((v4 &&& (255 : Int32)).toUInt32 % 65536).toInt32)) = .int (((v4 &&& (255 : Int32)).toUInt32 % 65536).toInt32) then some (.inl (some (.int (((v4 &&& (255 : Int32)).toUInt32 % 65536).toInt32))), h2, 0, 0) else none) (xM S mJ1_charAt_3b067 [.retAddr x0, .int x1] h) := by
  show xle _ (xden S mJ1_charAt_3b067 0 [(0, .retAddr x0), (1, .int x1)] [] h)
  refine l_loc dJ1_charAt_3b067_0 rfl rfl ?_
  refine l_loc dJ1_charAt_3b067_1 rfl rfl ?_
  refine l_lb dJ1_charAt_3b067_2 (fun v1 => ?_)
  refine l_cV dJ1_charAt_3b067_3 rfl rfl rfl (l_xs cl_18_9 ko_mJ0_checkIndex_df160 rfl rfl) rfl rfl nm_mJ0_checkIndex_df160 (xhE_th rfl) (fun h2 => ?_)
  refine l_loc dJ1_charAt_3b067_6 rfl rfl ?_
  refine l_loc dJ1_charAt_3b067_7 rfl rfl ?_
  refine l_rb dJ1_charAt_3b067_8 (fun v4 => ?_)
  refine l_si dJ1_charAt_3b067_9 kS_255 ?_
  refine l_pure dJ1_charAt_3b067_12 rfl rfl ?_
  refine l_pure dJ1_charAt_3b067_13 rfl rfl ?_
  exact l_iret dJ1_charAt_3b067_14 rfl
set_option maxRecDepth 16000 in
theorem w_J0_checkIndex_df160 (S : xS) (x0 : Int32) (x1 : Int32) (h : xH) : xle (xqI (xM S mJ3_checkIndex_8e157 [.int x0, .int x1, .retAddr 998] h) xth fun v2 h1 => some (.inl none, h1, 0, 0)) (xM S mJ0_checkIndex_df160 [.int x0, .int x1] h) := by
  show xle _ (xden S mJ0_checkIndex_df160 0 [(0, .int x0), (1, .int x1)] [] h)
  refine l_loc dJ0_checkIndex_df160_0 rfl rfl ?_
  refine l_loc dJ0_checkIndex_df160_1 rfl rfl ?_
  refine l_rd (st1 := [.retAddr 998, .int x1, .int x0]) dJ0_checkIndex_df160_2 rfl rfl ?_
  refine l_cI dJ0_checkIndex_df160_5 rfl rfl rfl (l_xs cl_17_1059 ko_mJ3_checkIndex_8e157 rfl rfl) rfl rfl nm_mJ3_checkIndex_8e157 (xhE_th rfl) (fun v2 h1 => ?_)
  refine l_pure dJ0_checkIndex_df160_8 rfl rfl ?_
  exact l_end dJ0_checkIndex_df160_9 rfl rfl
set_option maxRecDepth 16000 in
theorem w_J3_checkIndex_8e157 (S : xS) (x0 : Int32) (x1 : Int32) (x2 : Nat) (h : xH) : xle (if x0 < 0 then (none) else (if x0 < x1 then (some (.inl (some (.int x0)), h, 0, 0)) else (none))) (xM S mJ3_checkIndex_8e157 [.int x0, .int x1, .retAddr x2] h) := by
  show xle _ (xden S mJ3_checkIndex_8e157 0 [(0, .int x0), (1, .int x1), (2, .retAddr x2)] [] h)
  refine l_loc dJ3_checkIndex_8e157_0 rfl rfl ?_
  refine l_ilt (t := 9) dJ3_checkIndex_8e157_1 rfl ?_ ?_
  · refine l_loc dJ3_checkIndex_8e157_9 rfl rfl ?_
    refine l_loc dJ3_checkIndex_8e157_10 rfl rfl ?_
    refine l_loc dJ3_checkIndex_8e157_11 rfl rfl ?_
    exact l_none
  · refine l_loc dJ3_checkIndex_8e157_4 rfl rfl ?_
    refine l_loc dJ3_checkIndex_8e157_5 rfl rfl ?_
    refine l_clt (t := 16) dJ3_checkIndex_8e157_6 rfl ?_ ?_
    · refine l_loc dJ3_checkIndex_8e157_16 rfl rfl ?_
      exact l_iretn dJ3_checkIndex_8e157_17 rfl (by rfl)
    · refine l_loc dJ3_checkIndex_8e157_9 rfl rfl ?_
      refine l_loc dJ3_checkIndex_8e157_10 rfl rfl ?_
      refine l_loc dJ3_checkIndex_8e157_11 rfl rfl ?_
      exact l_none
set_option maxRecDepth 16000 in
theorem w_J0_isEmpty_aae02 (S : xS) (x0 : Nat) (h : xH) : xle ((xCk x0 17 9).bind fun v1 => (xRbz v1).bind fun v2 => if ¬ v2 = 0 then (some (.inl (some (.int (0 : Int32))), h, 0, 0)) else (some (.inl (some (.int (1 : Int32))), h, 0, 0))) (xM S mJ0_isEmpty_aae02 [.retAddr x0] h) := by
  show xle _ (xden S mJ0_isEmpty_aae02 0 [(0, .retAddr x0)] [] h)
  refine l_loc dJ0_isEmpty_aae02_0 rfl rfl ?_
  refine l_kl dJ0_isEmpty_aae02_1 rfl (fun v1 => ?_)
  refine l_lb dJ0_isEmpty_aae02_4 (fun v2 => ?_)
  refine l_ine (t := 12) dJ0_isEmpty_aae02_5 rfl ?_ ?_
  · refine l_ic dJ0_isEmpty_aae02_12 kI_0 ?_
    exact l_iretn dJ0_isEmpty_aae02_13 rfl (by decide)
  · refine l_ic dJ0_isEmpty_aae02_8 kI_1 ?_
    refine l_goto (t := 13) dJ0_isEmpty_aae02_9 rfl ?_
    exact l_iretn dJ0_isEmpty_aae02_13 rfl (by decide)
set_option maxRecDepth 16000 in
theorem w_J13_bitCount_95d88 (S : xS) (x0 : Int64) (h : xH) : xle (xlet (x0 - (((x0.toUInt64 >>> ((1 : Int32).toInt64.toUInt64 &&& Int64.toUInt64 63)).toInt64) &&& (6148914691236517205 : Int64))) fun v1 => xlet ((v1 &&& (3689348814741910323 : Int64)) + (((v1.toUInt64 >>> ((2 : Int32).toInt64.toUInt64 &&& Int64.toUInt64 63)).toInt64) &&& (3689348814741910323 : Int64))) fun v2 => xlet ((v2 + ((v2.toUInt64 >>> ((4 : Int32).toInt64.toUInt64 &&& Int64.toUInt64 63)).toInt64)) &&& (1085102592571150095 : Int64)) fun v3 => xlet (v3 + ((v3.toUInt64 >>> ((8 : Int32).toInt64.toUInt64 &&& Int64.toUInt64 63)).toInt64)) fun v4 => xlet (v4 + ((v4.toUInt64 >>> ((16 : Int32).toInt64.toUInt64 &&& Int64.toUInt64 63)).toInt64)) fun v5 => xlet (v5 + ((v5.toUInt64 >>> ((32 : Int32).toInt64.toUInt64 &&& Int64.toUInt64 63)).toInt64)) fun v6 => some (.inl (some (.int ((v6.toInt32) &&& (127 : Int32)))), h, 0, 0)) (xM S mJ13_bitCount_95d88 [.long x0] h) := by
  show xle _ (xden S mJ13_bitCount_95d88 0 [(0, .long x0)] [] h)
  refine l_loc dJ13_bitCount_95d88_0 rfl rfl ?_
  refine l_loc dJ13_bitCount_95d88_1 rfl rfl ?_
  refine l_ic dJ13_bitCount_95d88_2 kI_1 ?_
  refine l_pure dJ13_bitCount_95d88_3 rfl rfl ?_
  refine l_rd (st1 := [.long (6148914691236517205 : Int64), .long ((x0.toUInt64 >>> ((1 : Int32).toInt64.toUInt64 &&& Int64.toUInt64 63)).toInt64), .long x0]) dJ13_bitCount_95d88_4 rfl rfl ?_
  refine l_pure dJ13_bitCount_95d88_7 rfl rfl ?_
  refine l_pure dJ13_bitCount_95d88_8 rfl rfl ?_
  refine l_lsl (al1 := fun v1 => [(0, .long v1)]) dJ13_bitCount_95d88_9 rfl (fun _ => rfl) (fun v1 => ?_)
  refine l_loc dJ13_bitCount_95d88_10 rfl rfl ?_
  refine l_rd (st1 := [.long (3689348814741910323 : Int64), .long v1]) dJ13_bitCount_95d88_11 rfl rfl ?_
  refine l_pure dJ13_bitCount_95d88_14 rfl rfl ?_
  refine l_loc dJ13_bitCount_95d88_15 rfl rfl ?_
  refine l_ic dJ13_bitCount_95d88_16 kI_2 ?_
  refine l_pure dJ13_bitCount_95d88_17 rfl rfl ?_
  refine l_rd (st1 := [.long (3689348814741910323 : Int64), .long ((v1.toUInt64 >>> ((2 : Int32).toInt64.toUInt64 &&& Int64.toUInt64 63)).toInt64), .long (v1 &&& (3689348814741910323 : Int64))]) dJ13_bitCount_95d88_18 rfl rfl ?_
  refine l_pure dJ13_bitCount_95d88_21 rfl rfl ?_
  refine l_pure dJ13_bitCount_95d88_22 rfl rfl ?_
  refine l_lsl (al1 := fun v2 => [(0, .long v2)]) dJ13_bitCount_95d88_23 rfl (fun _ => rfl) (fun v2 => ?_)
  refine l_loc dJ13_bitCount_95d88_24 rfl rfl ?_
  refine l_loc dJ13_bitCount_95d88_25 rfl rfl ?_
  refine l_ic dJ13_bitCount_95d88_26 kI_4 ?_
  refine l_pure dJ13_bitCount_95d88_27 rfl rfl ?_
  refine l_pure dJ13_bitCount_95d88_28 rfl rfl ?_
  refine l_rd (st1 := [.long (1085102592571150095 : Int64), .long (v2 + ((v2.toUInt64 >>> ((4 : Int32).toInt64.toUInt64 &&& Int64.toUInt64 63)).toInt64))]) dJ13_bitCount_95d88_29 rfl rfl ?_
  refine l_pure dJ13_bitCount_95d88_32 rfl rfl ?_
  refine l_lsl (al1 := fun v3 => [(0, .long v3)]) dJ13_bitCount_95d88_33 rfl (fun _ => rfl) (fun v3 => ?_)
  refine l_loc dJ13_bitCount_95d88_34 rfl rfl ?_
  refine l_loc dJ13_bitCount_95d88_35 rfl rfl ?_
  refine l_bi dJ13_bitCount_95d88_36 kB_8 ?_
  refine l_pure dJ13_bitCount_95d88_38 rfl rfl ?_
  refine l_pure dJ13_bitCount_95d88_39 rfl rfl ?_
  refine l_lsl (al1 := fun v4 => [(0, .long v4)]) dJ13_bitCount_95d88_40 rfl (fun _ => rfl) (fun v4 => ?_)
  refine l_loc dJ13_bitCount_95d88_41 rfl rfl ?_
  refine l_loc dJ13_bitCount_95d88_42 rfl rfl ?_
  refine l_bi dJ13_bitCount_95d88_43 kB_16 ?_
  refine l_pure dJ13_bitCount_95d88_45 rfl rfl ?_
  refine l_pure dJ13_bitCount_95d88_46 rfl rfl ?_
  refine l_lsl (al1 := fun v5 => [(0, .long v5)]) dJ13_bitCount_95d88_47 rfl (fun _ => rfl) (fun v5 => ?_)
  refine l_loc dJ13_bitCount_95d88_48 rfl rfl ?_
  refine l_loc dJ13_bitCount_95d88_49 rfl rfl ?_
  refine l_bi dJ13_bitCount_95d88_50 kB_32 ?_
  refine l_pure dJ13_bitCount_95d88_52 rfl rfl ?_
  refine l_pure dJ13_bitCount_95d88_53 rfl rfl ?_
  refine l_lsl (al1 := fun v6 => [(0, .long v6)]) dJ13_bitCount_95d88_54 rfl (fun _ => rfl) (fun v6 => ?_)
  refine l_loc dJ13_bitCount_95d88_55 rfl rfl ?_
  refine l_pure dJ13_bitCount_95d88_56 rfl rfl ?_
  refine l_bi dJ13_bitCount_95d88_57 kB_127 ?_
  refine l_pure dJ13_bitCount_95d88_59 rfl rfl ?_
  exact l_iretn dJ13_bitCount_95d88_60 rfl (by rfl)
set_option maxRecDepth 16000 in
theorem w_J9_floorDiv_7cf53 (S : xS) (x0 : Int32) (x1 : Int32) (h : xH) : xle (if x1 = 0 then none else xlet (x0 / x1) fun v1 => if 0 ≤ (x0 ^^^ x1) then (some (.inl (some (.int v1)), h, 0, 0)) else (if (v1 * x1) = x0 then (some (.inl (some (.int v1)), h, 0, 0)) else (some (.inl (some (.int (v1 - (1 : Int32)))), h, 0, 0)))) (xM S mJ9_floorDiv_7cf53 [.int x0, .int x1] h) := by
  show xle _ (xden S mJ9_floorDiv_7cf53 0 [(0, .int x0), (1, .int x1)] [] h)
  refine l_loc dJ9_floorDiv_7cf53_0 rfl rfl ?_
  refine l_loc dJ9_floorDiv_7cf53_1 rfl rfl ?_
  refine l_div dJ9_floorDiv_7cf53_2 ?_
  refine l_isl (al1 := fun v1 => [(2, .int v1), (0, .int x0), (1, .int x1)]) dJ9_floorDiv_7cf53_3 rfl (fun _ => rfl) (fun v1 => ?_)
  refine l_loc dJ9_floorDiv_7cf53_4 rfl rfl ?_
  refine l_loc dJ9_floorDiv_7cf53_5 rfl rfl ?_
  refine l_pure dJ9_floorDiv_7cf53_6 rfl rfl ?_
  refine l_ige (t := 21) dJ9_floorDiv_7cf53_7 rfl ?_ ?_
  · refine l_loc dJ9_floorDiv_7cf53_21 rfl rfl ?_
    exact l_iretn dJ9_floorDiv_7cf53_22 rfl (by rfl)
  · refine l_loc dJ9_floorDiv_7cf53_10 rfl rfl ?_
    refine l_loc dJ9_floorDiv_7cf53_11 rfl rfl ?_
    refine l_pure dJ9_floorDiv_7cf53_12 rfl rfl ?_
    refine l_loc dJ9_floorDiv_7cf53_13 rfl rfl ?_
    refine l_ceq (t := 21) dJ9_floorDiv_7cf53_14 rfl ?_ ?_
    · refine l_loc dJ9_floorDiv_7cf53_21 rfl rfl ?_
      exact l_iretn dJ9_floorDiv_7cf53_22 rfl (by rfl)
    · refine l_loc dJ9_floorDiv_7cf53_17 rfl rfl ?_
      refine l_ic dJ9_floorDiv_7cf53_18 kI_1 ?_
      refine l_pure dJ9_floorDiv_7cf53_19 rfl rfl ?_
      exact l_iretn dJ9_floorDiv_7cf53_20 rfl (by rfl)
set_option maxRecDepth 16000 in
theorem w_J9_abs_0f7a4 (S : xS) (x0 : Int32) (h : xH) : xle (if 0 ≤ x0 then (some (.inl (some (.int x0)), h, 0, 0)) else (some (.inl (some (.int (-x0))), h, 0, 0))) (xM S mJ9_abs_0f7a4 [.int x0] h) := by
  show xle _ (xden S mJ9_abs_0f7a4 0 [(0, .int x0)] [] h)
  refine l_loc dJ9_abs_0f7a4_0 rfl rfl ?_
  refine l_ige (t := 9) dJ9_abs_0f7a4_1 rfl ?_ ?_
  · refine l_loc dJ9_abs_0f7a4_9 rfl rfl ?_
    exact l_iretn dJ9_abs_0f7a4_10 rfl (by rfl)
  · refine l_loc dJ9_abs_0f7a4_4 rfl rfl ?_
    refine l_pure dJ9_abs_0f7a4_5 rfl rfl ?_
    refine l_goto (t := 10) dJ9_abs_0f7a4_6 rfl ?_
    exact l_iretn dJ9_abs_0f7a4_10 rfl (by rfl)
set_option maxRecDepth 16000 in
theorem w_J9_floorMod_7cf53 (S : xS) (x0 : Int32) (x1 : Int32) (h : xH) : xle (if x1 = 0 then none else xlet (x0 - x0 / x1 * x1) fun v1 => if 0 ≤ (x0 ^^^ x1) then (some (.inl (some (.int v1)), h, 0, 0)) else (if v1 = 0 then (some (.inl (some (.int v1)), h, 0, 0)) else (some (.inl (some (.int (v1 + x1))), h, 0, 0)))) (xM S mJ9_floorMod_7cf53 [.int x0, .int x1] h) := by
  show xle _ (xden S mJ9_floorMod_7cf53 0 [(0, .int x0), (1, .int x1)] [] h)
  refine l_loc dJ9_floorMod_7cf53_0 rfl rfl ?_
  refine l_loc dJ9_floorMod_7cf53_1 rfl rfl ?_
  refine l_rem dJ9_floorMod_7cf53_2 ?_
  refine l_isl (al1 := fun v1 => [(2, .int v1), (0, .int x0), (1, .int x1)]) dJ9_floorMod_7cf53_3 rfl (fun _ => rfl) (fun v1 => ?_)
  refine l_loc dJ9_floorMod_7cf53_4 rfl rfl ?_
  refine l_loc dJ9_floorMod_7cf53_5 rfl rfl ?_
  refine l_pure dJ9_floorMod_7cf53_6 rfl rfl ?_
  refine l_ige (t := 18) dJ9_floorMod_7cf53_7 rfl ?_ ?_
  · refine l_loc dJ9_floorMod_7cf53_18 rfl rfl ?_
    exact l_iretn dJ9_floorMod_7cf53_19 rfl (by rfl)
  · refine l_loc dJ9_floorMod_7cf53_10 rfl rfl ?_
    refine l_ieq (t := 18) dJ9_floorMod_7cf53_11 rfl ?_ ?_
    · refine l_loc dJ9_floorMod_7cf53_18 rfl rfl ?_
      exact l_iretn dJ9_floorMod_7cf53_19 rfl (by rfl)
    · refine l_loc dJ9_floorMod_7cf53_14 rfl rfl ?_
      refine l_loc dJ9_floorMod_7cf53_15 rfl rfl ?_
      refine l_pure dJ9_floorMod_7cf53_16 rfl rfl ?_
      exact l_iretn dJ9_floorMod_7cf53_17 rfl (by rfl)

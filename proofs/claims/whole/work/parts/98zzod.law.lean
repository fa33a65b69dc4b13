set_option maxRecDepth 16000 in
theorem w_L_law_821 (S : xS) (x1 : Nat) (x2 : Nat) (x3 : Nat) (x4 : Int32) (h : xH) : xle ((xRs S (x4 + (1 : Int32))).bind fun v1 => (xRs S (x4 + (2 : Int32))).bind fun v2 => xqI (xM S mL_despeckle [.ref x1, .int v1, .int v2, .ref x3] h) xth fun v4 h3 => (xRs S (x4 + (1 : Int32))).bind fun v5 => (xRs S (x4 + (2 : Int32))).bind fun v6 => if xOb h3 x2 12 = true then xqI (xM S mX13_despeckle [.ref x2, .int v5, .int v6] h3) xth fun v9 h8 => if xOb h8 x2 12 = true then xqI (xM S mX13_thrown [.ref x2] h8) xth fun v12 h11 => if v12 = v4 then (if ¬ v4 = 0 then (xden S mL_law 3482 [(0, .retAddr 11), (1, .ref x1), (2, .ref x2), (3, .ref x3), (4, .int x4)] [] h11) else ((xRl h11 x3 (0 : Int32)).bind fun v13 => if (lg_cmp v13 (v9.toInt64)) = 0 then (xden S mL_law 3482 [(0, .retAddr 11), (1, .ref x1), (2, .ref x2), (3, .ref x3), (4, .int x4)] [] h11) else (some (.inl (some (.int (0 : Int32))), h11, 0, 0)))) else (some (.inl (some (.int (0 : Int32))), h11, 0, 0)) else none else none) (xden S mL_law 821 [(0, .retAddr 11), (1, .ref x1), (2, .ref x2), (3, .ref x3), (4, .int x4)] [] h) := by
  refine l_loc dL_law_821 rfl rfl ?_
  refine l_loc dL_law_822 rfl rfl ?_
  refine l_loc dL_law_823 rfl rfl ?_
  refine l_ic dL_law_825 kI_1 ?_
  refine l_pure dL_law_826 rfl rfl ?_
  refine l_rs dL_law_827 (fun v1 => ?_)
  refine l_loc dL_law_828 rfl rfl ?_
  refine l_loc dL_law_829 rfl rfl ?_
  refine l_ic dL_law_831 kI_2 ?_
  refine l_pure dL_law_832 rfl rfl ?_
  refine l_rs dL_law_833 (fun v2 => ?_)
  refine l_loc dL_law_834 rfl rfl ?_
  refine l_cI dL_law_835 rfl rfl rfl (l_xs cl_14_219 ko_mL_despeckle rfl rfl) rfl rfl nm_mL_despeckle (xhE_th rfl) (fun v4 h3 => ?_)
  refine l_loc (al1 := [(5, .int v4), (0, .retAddr 11), (1, .ref x1), (2, .ref x2), (3, .ref x3), (4, .int x4)]) dL_law_838 rfl rfl ?_
  refine l_loc dL_law_840 rfl rfl ?_
  refine l_loc dL_law_841 rfl rfl ?_
  refine l_loc dL_law_842 rfl rfl ?_
  refine l_ic dL_law_844 kI_1 ?_
  refine l_pure dL_law_845 rfl rfl ?_
  refine l_rs dL_law_846 (fun v5 => ?_)
  refine l_loc dL_law_847 rfl rfl ?_
  refine l_loc dL_law_848 rfl rfl ?_
  refine l_ic dL_law_850 kI_2 ?_
  refine l_pure dL_law_851 rfl rfl ?_
  refine l_rs dL_law_852 (fun v6 => ?_)
  refine l_ob fun q7 => ?_
  refine l_cI dL_law_853 rfl rfl rfl (l_xv cl_14_221 ko_mX13_despeckle rfl rfl rfl q7) rfl rfl nm_mX13_despeckle (xhE_th rfl) (fun v9 h8 => ?_)
  refine l_loc (al1 := [(6, .int v9), (5, .int v4), (0, .retAddr 11), (1, .ref x1), (2, .ref x2), (3, .ref x3), (4, .int x4)]) dL_law_856 rfl rfl ?_
  refine l_loc dL_law_858 rfl rfl ?_
  refine l_ob fun q10 => ?_
  refine l_cI dL_law_859 rfl rfl rfl (l_xv cl_14_195 ko_mX13_thrown rfl rfl rfl q10) rfl rfl nm_mX13_thrown (xhE_th rfl) (fun v12 h11 => ?_)
  refine l_loc dL_law_862 rfl rfl ?_
  refine l_ceq (t := 869) dL_law_864 rfl ?_ ?_
  · refine l_loc dL_law_869 rfl rfl ?_
    refine l_ine (t := 886) dL_law_871 rfl ?_ ?_
    · refine l_goto (t := 3482) dL_law_886 rfl ?_
      exact l_al rfl ⟨rfl, rfl, rfl, rfl, rfl, trivial⟩
    · refine l_loc dL_law_874 rfl rfl ?_
      refine l_ic dL_law_875 kI_0 ?_
      refine l_rl dL_law_876 (fun v13 => ?_)
      refine l_loc dL_law_877 rfl rfl ?_
      refine l_pure dL_law_879 rfl rfl ?_
      refine l_pure dL_law_880 rfl rfl ?_
      refine l_ieq (t := 886) dL_law_881 rfl ?_ ?_
      · refine l_goto (t := 3482) dL_law_886 rfl ?_
        exact l_al rfl ⟨rfl, rfl, rfl, rfl, rfl, trivial⟩
      · refine l_ic dL_law_884 kI_0 ?_
        exact l_iretn dL_law_885 rfl (by decide)
  · refine l_ic dL_law_867 kI_0 ?_
    exact l_iretn dL_law_868 rfl (by decide)
set_option maxRecDepth 16000 in
theorem w_L_law_889 (S : xS) (x1 : Nat) (x2 : Nat) (x3 : Nat) (x4 : Int32) (h : xH) : xle ((xRs S (x4 + (1 : Int32))).bind fun v1 => (xRs S (x4 + (2 : Int32))).bind fun v2 => (xRs S (x4 + (3 : Int32))).bind fun v3 => xqI (xM S mL_paste [.ref x1, .int v1, .int v2, .int v3, .ref x3] h) xth fun v5 h4 => (xRs S (x4 + (1 : Int32))).bind fun v6 => (xRs S (x4 + (2 : Int32))).bind fun v7 => (xRs S (x4 + (3 : Int32))).bind fun v8 => if xOb h4 x2 12 = true then xqI (xM S mX13_paste [.ref x2, .int v6, .int v7, .int v8] h4) xth fun v11 h10 => if xOb h10 x2 12 = true then xqI (xM S mX13_thrown [.ref x2] h10) xth fun v14 h13 => if v14 = v5 then (if ¬ v5 = 0 then (xden S mL_law 3482 [(0, .retAddr 11), (1, .ref x1), (2, .ref x2), (3, .ref x3), (4, .int x4)] [] h13) else ((xRl h13 x3 (0 : Int32)).bind fun v15 => if (lg_cmp v15 (v11.toInt64)) = 0 then (xden S mL_law 3482 [(0, .retAddr 11), (1, .ref x1), (2, .ref x2), (3, .ref x3), (4, .int x4)] [] h13) else (some (.inl (some (.int (0 : Int32))), h13, 0, 0)))) else (some (.inl (some (.int (0 : Int32))), h13, 0, 0)) else none else none) (xden S mL_law 889 [(0, .retAddr 11), (1, .ref x1), (2, .ref x2), (3, .ref x3), (4, .int x4)] [] h) := by
  refine l_loc dL_law_889 rfl rfl ?_
  refine l_loc dL_law_890 rfl rfl ?_
  refine l_loc dL_law_891 rfl rfl ?_
  refine l_ic dL_law_893 kI_1 ?_
  refine l_pure dL_law_894 rfl rfl ?_
  refine l_rs dL_law_895 (fun v1 => ?_)
  refine l_loc dL_law_896 rfl rfl ?_
  refine l_loc dL_law_897 rfl rfl ?_
  refine l_ic dL_law_899 kI_2 ?_
  refine l_pure dL_law_900 rfl rfl ?_
  refine l_rs dL_law_901 (fun v2 => ?_)
  refine l_loc dL_law_902 rfl rfl ?_
  refine l_loc dL_law_903 rfl rfl ?_
  refine l_ic dL_law_905 kI_3 ?_
  refine l_pure dL_law_906 rfl rfl ?_
  refine l_rs dL_law_907 (fun v3 => ?_)
  refine l_loc dL_law_908 rfl rfl ?_
  refine l_cI dL_law_909 rfl rfl rfl (l_xs cl_14_222 ko_mL_paste rfl rfl) rfl rfl nm_mL_paste (xhE_th rfl) (fun v5 h4 => ?_)
  refine l_loc (al1 := [(5, .int v5), (0, .retAddr 11), (1, .ref x1), (2, .ref x2), (3, .ref x3), (4, .int x4)]) dL_law_912 rfl rfl ?_
  refine l_loc dL_law_914 rfl rfl ?_
  refine l_loc dL_law_915 rfl rfl ?_
  refine l_loc dL_law_916 rfl rfl ?_
  refine l_ic dL_law_918 kI_1 ?_
  refine l_pure dL_law_919 rfl rfl ?_
  refine l_rs dL_law_920 (fun v6 => ?_)
  refine l_loc dL_law_921 rfl rfl ?_
  refine l_loc dL_law_922 rfl rfl ?_
  refine l_ic dL_law_924 kI_2 ?_
  refine l_pure dL_law_925 rfl rfl ?_
  refine l_rs dL_law_926 (fun v7 => ?_)
  refine l_loc dL_law_927 rfl rfl ?_
  refine l_loc dL_law_928 rfl rfl ?_
  refine l_ic dL_law_930 kI_3 ?_
  refine l_pure dL_law_931 rfl rfl ?_
  refine l_rs dL_law_932 (fun v8 => ?_)
  refine l_ob fun q9 => ?_
  refine l_cI dL_law_933 rfl rfl rfl (l_xv cl_14_225 ko_mX13_paste rfl rfl rfl q9) rfl rfl nm_mX13_paste (xhE_th rfl) (fun v11 h10 => ?_)
  refine l_loc (al1 := [(6, .int v11), (5, .int v5), (0, .retAddr 11), (1, .ref x1), (2, .ref x2), (3, .ref x3), (4, .int x4)]) dL_law_936 rfl rfl ?_
  refine l_loc dL_law_938 rfl rfl ?_
  refine l_ob fun q12 => ?_
  refine l_cI dL_law_939 rfl rfl rfl (l_xv cl_14_195 ko_mX13_thrown rfl rfl rfl q12) rfl rfl nm_mX13_thrown (xhE_th rfl) (fun v14 h13 => ?_)
  refine l_loc dL_law_942 rfl rfl ?_
  refine l_ceq (t := 949) dL_law_944 rfl ?_ ?_
  · refine l_loc dL_law_949 rfl rfl ?_
    refine l_ine (t := 966) dL_law_951 rfl ?_ ?_
    · refine l_goto (t := 3482) dL_law_966 rfl ?_
      exact l_al rfl ⟨rfl, rfl, rfl, rfl, rfl, trivial⟩
    · refine l_loc dL_law_954 rfl rfl ?_
      refine l_ic dL_law_955 kI_0 ?_
      refine l_rl dL_law_956 (fun v15 => ?_)
      refine l_loc dL_law_957 rfl rfl ?_
      refine l_pure dL_law_959 rfl rfl ?_
      refine l_pure dL_law_960 rfl rfl ?_
      refine l_ieq (t := 966) dL_law_961 rfl ?_ ?_
      · refine l_goto (t := 3482) dL_law_966 rfl ?_
        exact l_al rfl ⟨rfl, rfl, rfl, rfl, rfl, trivial⟩
      · refine l_ic dL_law_964 kI_0 ?_
        exact l_iretn dL_law_965 rfl (by decide)
  · refine l_ic dL_law_947 kI_0 ?_
    exact l_iretn dL_law_948 rfl (by decide)
set_option maxRecDepth 16000 in
theorem w_L_law_969 (S : xS) (x1 : Nat) (x2 : Nat) (x3 : Nat) (x4 : Int32) (h : xH) : xle ((xRs S (x4 + (1 : Int32))).bind fun v1 => xqI (xM S mL_components [.ref x1, .int v1, .ref x3] h) xth fun v3 h2 => (xRs S (x4 + (1 : Int32))).bind fun v4 => if xOb h2 x2 12 = true then xqI (xM S mX13_components [.ref x2, .int v4] h2) xth fun v7 h6 => if xOb h6 x2 12 = true then xqI (xM S mX13_thrown [.ref x2] h6) xth fun v10 h9 => if v10 = v3 then (if ¬ v3 = 0 then (xden S mL_law 3482 [(0, .retAddr 11), (1, .ref x1), (2, .ref x2), (3, .ref x3), (4, .int x4)] [] h9) else ((xRl h9 x3 (0 : Int32)).bind fun v11 => if (lg_cmp v11 (v7.toInt64)) = 0 then (xden S mL_law 3482 [(0, .retAddr 11), (1, .ref x1), (2, .ref x2), (3, .ref x3), (4, .int x4)] [] h9) else (some (.inl (some (.int (0 : Int32))), h9, 0, 0)))) else (some (.inl (some (.int (0 : Int32))), h9, 0, 0)) else none else none) (xden S mL_law 969 [(0, .retAddr 11), (1, .ref x1), (2, .ref x2), (3, .ref x3), (4, .int x4)] [] h) := by
  refine l_loc dL_law_969 rfl rfl ?_
  refine l_loc dL_law_970 rfl rfl ?_
  refine l_loc dL_law_971 rfl rfl ?_
  refine l_ic dL_law_973 kI_1 ?_
  refine l_pure dL_law_974 rfl rfl ?_
  refine l_rs dL_law_975 (fun v1 => ?_)
  refine l_loc dL_law_976 rfl rfl ?_
  refine l_cI dL_law_977 rfl rfl rfl (l_xs cl_14_226 ko_mL_components rfl rfl) rfl rfl nm_mL_components (xhE_th rfl) (fun v3 h2 => ?_)
  refine l_loc (al1 := [(5, .int v3), (0, .retAddr 11), (1, .ref x1), (2, .ref x2), (3, .ref x3), (4, .int x4)]) dL_law_980 rfl rfl ?_
  refine l_loc dL_law_982 rfl rfl ?_
  refine l_loc dL_law_983 rfl rfl ?_
  refine l_loc dL_law_984 rfl rfl ?_
  refine l_ic dL_law_986 kI_1 ?_
  refine l_pure dL_law_987 rfl rfl ?_
  refine l_rs dL_law_988 (fun v4 => ?_)
  refine l_ob fun q5 => ?_
  refine l_cI dL_law_989 rfl rfl rfl (l_xv cl_14_228 ko_mX13_components rfl rfl rfl q5) rfl rfl nm_mX13_components (xhE_th rfl) (fun v7 h6 => ?_)
  refine l_loc (al1 := [(6, .int v7), (5, .int v3), (0, .retAddr 11), (1, .ref x1), (2, .ref x2), (3, .ref x3), (4, .int x4)]) dL_law_992 rfl rfl ?_
  refine l_loc dL_law_994 rfl rfl ?_
  refine l_ob fun q8 => ?_
  refine l_cI dL_law_995 rfl rfl rfl (l_xv cl_14_195 ko_mX13_thrown rfl rfl rfl q8) rfl rfl nm_mX13_thrown (xhE_th rfl) (fun v10 h9 => ?_)
  refine l_loc dL_law_998 rfl rfl ?_
  refine l_ceq (t := 1005) dL_law_1000 rfl ?_ ?_
  · refine l_loc dL_law_1005 rfl rfl ?_
    refine l_ine (t := 1022) dL_law_1007 rfl ?_ ?_
    · refine l_goto (t := 3482) dL_law_1022 rfl ?_
      exact l_al rfl ⟨rfl, rfl, rfl, rfl, rfl, trivial⟩
    · refine l_loc dL_law_1010 rfl rfl ?_
      refine l_ic dL_law_1011 kI_0 ?_
      refine l_rl dL_law_1012 (fun v11 => ?_)
      refine l_loc dL_law_1013 rfl rfl ?_
      refine l_pure dL_law_1015 rfl rfl ?_
      refine l_pure dL_law_1016 rfl rfl ?_
      refine l_ieq (t := 1022) dL_law_1017 rfl ?_ ?_
      · refine l_goto (t := 3482) dL_law_1022 rfl ?_
        exact l_al rfl ⟨rfl, rfl, rfl, rfl, rfl, trivial⟩
      · refine l_ic dL_law_1020 kI_0 ?_
        exact l_iretn dL_law_1021 rfl (by decide)
  · refine l_ic dL_law_1003 kI_0 ?_
    exact l_iretn dL_law_1004 rfl (by decide)
set_option maxRecDepth 16000 in
theorem w_L_law_1025 (S : xS) (x1 : Nat) (x2 : Nat) (x3 : Nat) (x4 : Int32) (h : xH) : xle ((xRs S (x4 + (1 : Int32))).bind fun v1 => xqI (xM S mL_lines [.ref x1, .int v1, .ref x3] h) xth fun v3 h2 => (xRs S (x4 + (1 : Int32))).bind fun v4 => if xOb h2 x2 12 = true then xqI (xM S mX13_lines [.ref x2, .int v4] h2) xth fun v7 h6 => if xOb h6 x2 12 = true then xqI (xM S mX13_thrown [.ref x2] h6) xth fun v10 h9 => if v10 = v3 then (if ¬ v3 = 0 then (xden S mL_law 3482 [(0, .retAddr 11), (1, .ref x1), (2, .ref x2), (3, .ref x3), (4, .int x4)] [] h9) else ((xRl h9 x3 (0 : Int32)).bind fun v11 => if (lg_cmp v11 (v7.toInt64)) = 0 then (xden S mL_law 3482 [(0, .retAddr 11), (1, .ref x1), (2, .ref x2), (3, .ref x3), (4, .int x4)] [] h9) else (some (.inl (some (.int (0 : Int32))), h9, 0, 0)))) else (some (.inl (some (.int (0 : Int32))), h9, 0, 0)) else none else none) (xden S mL_law 1025 [(0, .retAddr 11), (1, .ref x1), (2, .ref x2), (3, .ref x3), (4, .int x4)] [] h) := by
  refine l_loc dL_law_1025 rfl rfl ?_
  refine l_loc dL_law_1026 rfl rfl ?_
  refine l_loc dL_law_1027 rfl rfl ?_
  refine l_ic dL_law_1029 kI_1 ?_
  refine l_pure dL_law_1030 rfl rfl ?_
  refine l_rs dL_law_1031 (fun v1 => ?_)
  refine l_loc dL_law_1032 rfl rfl ?_
  refine l_cI dL_law_1033 rfl rfl rfl (l_xs cl_14_229 ko_mL_lines rfl rfl) rfl rfl nm_mL_lines (xhE_th rfl) (fun v3 h2 => ?_)
  refine l_loc (al1 := [(5, .int v3), (0, .retAddr 11), (1, .ref x1), (2, .ref x2), (3, .ref x3), (4, .int x4)]) dL_law_1036 rfl rfl ?_
  refine l_loc dL_law_1038 rfl rfl ?_
  refine l_loc dL_law_1039 rfl rfl ?_
  refine l_loc dL_law_1040 rfl rfl ?_
  refine l_ic dL_law_1042 kI_1 ?_
  refine l_pure dL_law_1043 rfl rfl ?_
  refine l_rs dL_law_1044 (fun v4 => ?_)
  refine l_ob fun q5 => ?_
  refine l_cI dL_law_1045 rfl rfl rfl (l_xv cl_14_231 ko_mX13_lines rfl rfl rfl q5) rfl rfl nm_mX13_lines (xhE_th rfl) (fun v7 h6 => ?_)
  refine l_loc (al1 := [(6, .int v7), (5, .int v3), (0, .retAddr 11), (1, .ref x1), (2, .ref x2), (3, .ref x3), (4, .int x4)]) dL_law_1048 rfl rfl ?_
  refine l_loc dL_law_1050 rfl rfl ?_
  refine l_ob fun q8 => ?_
  refine l_cI dL_law_1051 rfl rfl rfl (l_xv cl_14_195 ko_mX13_thrown rfl rfl rfl q8) rfl rfl nm_mX13_thrown (xhE_th rfl) (fun v10 h9 => ?_)
  refine l_loc dL_law_1054 rfl rfl ?_
  refine l_ceq (t := 1061) dL_law_1056 rfl ?_ ?_
  · refine l_loc dL_law_1061 rfl rfl ?_
    refine l_ine (t := 1078) dL_law_1063 rfl ?_ ?_
    · refine l_goto (t := 3482) dL_law_1078 rfl ?_
      exact l_al rfl ⟨rfl, rfl, rfl, rfl, rfl, trivial⟩
    · refine l_loc dL_law_1066 rfl rfl ?_
      refine l_ic dL_law_1067 kI_0 ?_
      refine l_rl dL_law_1068 (fun v11 => ?_)
      refine l_loc dL_law_1069 rfl rfl ?_
      refine l_pure dL_law_1071 rfl rfl ?_
      refine l_pure dL_law_1072 rfl rfl ?_
      refine l_ieq (t := 1078) dL_law_1073 rfl ?_ ?_
      · refine l_goto (t := 3482) dL_law_1078 rfl ?_
        exact l_al rfl ⟨rfl, rfl, rfl, rfl, rfl, trivial⟩
      · refine l_ic dL_law_1076 kI_0 ?_
        exact l_iretn dL_law_1077 rfl (by decide)
  · refine l_ic dL_law_1059 kI_0 ?_
    exact l_iretn dL_law_1060 rfl (by decide)
set_option maxRecDepth 16000 in
theorem w_L_law_1081 (S : xS) (x1 : Nat) (x2 : Nat) (x3 : Nat) (x4 : Int32) (h : xH) : xle ((xRs S (x4 + (1 : Int32))).bind fun v1 => (xRs S (x4 + (2 : Int32))).bind fun v2 => xqI (xM S mL_lineTop [.ref x1, .int v1, .int v2, .ref x3] h) xth fun v4 h3 => (xRs S (x4 + (1 : Int32))).bind fun v5 => (xRs S (x4 + (2 : Int32))).bind fun v6 => if xOb h3 x2 12 = true then xqI (xM S mX13_lineTop [.ref x2, .int v5, .int v6] h3) xth fun v9 h8 => if xOb h8 x2 12 = true then xqI (xM S mX13_thrown [.ref x2] h8) xth fun v12 h11 => if v12 = v4 then (if ¬ v4 = 0 then (xden S mL_law 3482 [(0, .retAddr 11), (1, .ref x1), (2, .ref x2), (3, .ref x3), (4, .int x4)] [] h11) else ((xRl h11 x3 (0 : Int32)).bind fun v13 => if (lg_cmp v13 (v9.toInt64)) = 0 then (xden S mL_law 3482 [(0, .retAddr 11), (1, .ref x1), (2, .ref x2), (3, .ref x3), (4, .int x4)] [] h11) else (some (.inl (some (.int (0 : Int32))), h11, 0, 0)))) else (some (.inl (some (.int (0 : Int32))), h11, 0, 0)) else none else none) (xden S mL_law 1081 [(0, .retAddr 11), (1, .ref x1), (2, .ref x2), (3, .ref x3), (4, .int x4)] [] h) := by
  refine l_loc dL_law_1081 rfl rfl ?_
  refine l_loc dL_law_1082 rfl rfl ?_
  refine l_loc dL_law_1083 rfl rfl ?_
  refine l_ic dL_law_1085 kI_1 ?_
  refine l_pure dL_law_1086 rfl rfl ?_
  refine l_rs dL_law_1087 (fun v1 => ?_)
  refine l_loc dL_law_1088 rfl rfl ?_
  refine l_loc dL_law_1089 rfl rfl ?_
  refine l_ic dL_law_1091 kI_2 ?_
  refine l_pure dL_law_1092 rfl rfl ?_
  refine l_rs dL_law_1093 (fun v2 => ?_)
  refine l_loc dL_law_1094 rfl rfl ?_
  refine l_cI dL_law_1095 rfl rfl rfl (l_xs cl_14_232 ko_mL_lineTop rfl rfl) rfl rfl nm_mL_lineTop (xhE_th rfl) (fun v4 h3 => ?_)
  refine l_loc (al1 := [(5, .int v4), (0, .retAddr 11), (1, .ref x1), (2, .ref x2), (3, .ref x3), (4, .int x4)]) dL_law_1098 rfl rfl ?_
  refine l_loc dL_law_1100 rfl rfl ?_
  refine l_loc dL_law_1101 rfl rfl ?_
  refine l_loc dL_law_1102 rfl rfl ?_
  refine l_ic dL_law_1104 kI_1 ?_
  refine l_pure dL_law_1105 rfl rfl ?_
  refine l_rs dL_law_1106 (fun v5 => ?_)
  refine l_loc dL_law_1107 rfl rfl ?_
  refine l_loc dL_law_1108 rfl rfl ?_
  refine l_ic dL_law_1110 kI_2 ?_
  refine l_pure dL_law_1111 rfl rfl ?_
  refine l_rs dL_law_1112 (fun v6 => ?_)
  refine l_ob fun q7 => ?_
  refine l_cI dL_law_1113 rfl rfl rfl (l_xv cl_14_234 ko_mX13_lineTop rfl rfl rfl q7) rfl rfl nm_mX13_lineTop (xhE_th rfl) (fun v9 h8 => ?_)
  refine l_loc (al1 := [(6, .int v9), (5, .int v4), (0, .retAddr 11), (1, .ref x1), (2, .ref x2), (3, .ref x3), (4, .int x4)]) dL_law_1116 rfl rfl ?_
  refine l_loc dL_law_1118 rfl rfl ?_
  refine l_ob fun q10 => ?_
  refine l_cI dL_law_1119 rfl rfl rfl (l_xv cl_14_195 ko_mX13_thrown rfl rfl rfl q10) rfl rfl nm_mX13_thrown (xhE_th rfl) (fun v12 h11 => ?_)
  refine l_loc dL_law_1122 rfl rfl ?_
  refine l_ceq (t := 1129) dL_law_1124 rfl ?_ ?_
  · refine l_loc dL_law_1129 rfl rfl ?_
    refine l_ine (t := 1146) dL_law_1131 rfl ?_ ?_
    · refine l_goto (t := 3482) dL_law_1146 rfl ?_
      exact l_al rfl ⟨rfl, rfl, rfl, rfl, rfl, trivial⟩
    · refine l_loc dL_law_1134 rfl rfl ?_
      refine l_ic dL_law_1135 kI_0 ?_
      refine l_rl dL_law_1136 (fun v13 => ?_)
      refine l_loc dL_law_1137 rfl rfl ?_
      refine l_pure dL_law_1139 rfl rfl ?_
      refine l_pure dL_law_1140 rfl rfl ?_
      refine l_ieq (t := 1146) dL_law_1141 rfl ?_ ?_
      · refine l_goto (t := 3482) dL_law_1146 rfl ?_
        exact l_al rfl ⟨rfl, rfl, rfl, rfl, rfl, trivial⟩
      · refine l_ic dL_law_1144 kI_0 ?_
        exact l_iretn dL_law_1145 rfl (by decide)
  · refine l_ic dL_law_1127 kI_0 ?_
    exact l_iretn dL_law_1128 rfl (by decide)
set_option maxRecDepth 16000 in
theorem w_L_law_1149 (S : xS) (x1 : Nat) (x2 : Nat) (x3 : Nat) (x4 : Int32) (h : xH) : xle ((xRs S (x4 + (1 : Int32))).bind fun v1 => (xRs S (x4 + (2 : Int32))).bind fun v2 => xqI (xM S mL_lineBottom [.ref x1, .int v1, .int v2, .ref x3] h) xth fun v4 h3 => (xRs S (x4 + (1 : Int32))).bind fun v5 => (xRs S (x4 + (2 : Int32))).bind fun v6 => if xOb h3 x2 12 = true then xqI (xM S mX13_lineBottom [.ref x2, .int v5, .int v6] h3) xth fun v9 h8 => if xOb h8 x2 12 = true then xqI (xM S mX13_thrown [.ref x2] h8) xth fun v12 h11 => if v12 = v4 then (if ¬ v4 = 0 then (xden S mL_law 3482 [(0, .retAddr 11), (1, .ref x1), (2, .ref x2), (3, .ref x3), (4, .int x4)] [] h11) else ((xRl h11 x3 (0 : Int32)).bind fun v13 => if (lg_cmp v13 (v9.toInt64)) = 0 then (xden S mL_law 3482 [(0, .retAddr 11), (1, .ref x1), (2, .ref x2), (3, .ref x3), (4, .int x4)] [] h11) else (some (.inl (some (.int (0 : Int32))), h11, 0, 0)))) else (some (.inl (some (.int (0 : Int32))), h11, 0, 0)) else none else none) (xden S mL_law 1149 [(0, .retAddr 11), (1, .ref x1), (2, .ref x2), (3, .ref x3), (4, .int x4)] [] h) := by
  refine l_loc dL_law_1149 rfl rfl ?_
  refine l_loc dL_law_1150 rfl rfl ?_
  refine l_loc dL_law_1151 rfl rfl ?_
  refine l_ic dL_law_1153 kI_1 ?_
  refine l_pure dL_law_1154 rfl rfl ?_
  refine l_rs dL_law_1155 (fun v1 => ?_)
  refine l_loc dL_law_1156 rfl rfl ?_
  refine l_loc dL_law_1157 rfl rfl ?_
  refine l_ic dL_law_1159 kI_2 ?_
  refine l_pure dL_law_1160 rfl rfl ?_
  refine l_rs dL_law_1161 (fun v2 => ?_)
  refine l_loc dL_law_1162 rfl rfl ?_
  refine l_cI dL_law_1163 rfl rfl rfl (l_xs cl_14_235 ko_mL_lineBottom rfl rfl) rfl rfl nm_mL_lineBottom (xhE_th rfl) (fun v4 h3 => ?_)
  refine l_loc (al1 := [(5, .int v4), (0, .retAddr 11), (1, .ref x1), (2, .ref x2), (3, .ref x3), (4, .int x4)]) dL_law_1166 rfl rfl ?_
  refine l_loc dL_law_1168 rfl rfl ?_
  refine l_loc dL_law_1169 rfl rfl ?_
  refine l_loc dL_law_1170 rfl rfl ?_
  refine l_ic dL_law_1172 kI_1 ?_
  refine l_pure dL_law_1173 rfl rfl ?_
  refine l_rs dL_law_1174 (fun v5 => ?_)
  refine l_loc dL_law_1175 rfl rfl ?_
  refine l_loc dL_law_1176 rfl rfl ?_
  refine l_ic dL_law_1178 kI_2 ?_
  refine l_pure dL_law_1179 rfl rfl ?_
  refine l_rs dL_law_1180 (fun v6 => ?_)
  refine l_ob fun q7 => ?_
  refine l_cI dL_law_1181 rfl rfl rfl (l_xv cl_14_237 ko_mX13_lineBottom rfl rfl rfl q7) rfl rfl nm_mX13_lineBottom (xhE_th rfl) (fun v9 h8 => ?_)
  refine l_loc (al1 := [(6, .int v9), (5, .int v4), (0, .retAddr 11), (1, .ref x1), (2, .ref x2), (3, .ref x3), (4, .int x4)]) dL_law_1184 rfl rfl ?_
  refine l_loc dL_law_1186 rfl rfl ?_
  refine l_ob fun q10 => ?_
  refine l_cI dL_law_1187 rfl rfl rfl (l_xv cl_14_195 ko_mX13_thrown rfl rfl rfl q10) rfl rfl nm_mX13_thrown (xhE_th rfl) (fun v12 h11 => ?_)
  refine l_loc dL_law_1190 rfl rfl ?_
  refine l_ceq (t := 1197) dL_law_1192 rfl ?_ ?_
  · refine l_loc dL_law_1197 rfl rfl ?_
    refine l_ine (t := 1214) dL_law_1199 rfl ?_ ?_
    · refine l_goto (t := 3482) dL_law_1214 rfl ?_
      exact l_al rfl ⟨rfl, rfl, rfl, rfl, rfl, trivial⟩
    · refine l_loc dL_law_1202 rfl rfl ?_
      refine l_ic dL_law_1203 kI_0 ?_
      refine l_rl dL_law_1204 (fun v13 => ?_)
      refine l_loc dL_law_1205 rfl rfl ?_
      refine l_pure dL_law_1207 rfl rfl ?_
      refine l_pure dL_law_1208 rfl rfl ?_
      refine l_ieq (t := 1214) dL_law_1209 rfl ?_ ?_
      · refine l_goto (t := 3482) dL_law_1214 rfl ?_
        exact l_al rfl ⟨rfl, rfl, rfl, rfl, rfl, trivial⟩
      · refine l_ic dL_law_1212 kI_0 ?_
        exact l_iretn dL_law_1213 rfl (by decide)
  · refine l_ic dL_law_1195 kI_0 ?_
    exact l_iretn dL_law_1196 rfl (by decide)
set_option maxRecDepth 16000 in
theorem w_L_law_1217 (S : xS) (x1 : Nat) (x2 : Nat) (x3 : Nat) (x4 : Int32) (h : xH) : xle ((xRs S (x4 + (1 : Int32))).bind fun v1 => (xRs S (x4 + (2 : Int32))).bind fun v2 => (xRs S (x4 + (3 : Int32))).bind fun v3 => xqI (xM S mL_words [.ref x1, .int v1, .int v2, .int v3, .ref x3] h) xth fun v5 h4 => (xRs S (x4 + (1 : Int32))).bind fun v6 => (xRs S (x4 + (2 : Int32))).bind fun v7 => (xRs S (x4 + (3 : Int32))).bind fun v8 => if xOb h4 x2 12 = true then xqI (xM S mX13_words [.ref x2, .int v6, .int v7, .int v8] h4) xth fun v11 h10 => if xOb h10 x2 12 = true then xqI (xM S mX13_thrown [.ref x2] h10) xth fun v14 h13 => if v14 = v5 then (if ¬ v5 = 0 then (xden S mL_law 3482 [(0, .retAddr 11), (1, .ref x1), (2, .ref x2), (3, .ref x3), (4, .int x4)] [] h13) else ((xRl h13 x3 (0 : Int32)).bind fun v15 => if (lg_cmp v15 (v11.toInt64)) = 0 then (xden S mL_law 3482 [(0, .retAddr 11), (1, .ref x1), (2, .ref x2), (3, .ref x3), (4, .int x4)] [] h13) else (some (.inl (some (.int (0 : Int32))), h13, 0, 0)))) else (some (.inl (some (.int (0 : Int32))), h13, 0, 0)) else none else none) (xden S mL_law 1217 [(0, .retAddr 11), (1, .ref x1), (2, .ref x2), (3, .ref x3), (4, .int x4)] [] h) := by
  refine l_loc dL_law_1217 rfl rfl ?_
  refine l_loc dL_law_1218 rfl rfl ?_
  refine l_loc dL_law_1219 rfl rfl ?_
  refine l_ic dL_law_1221 kI_1 ?_
  refine l_pure dL_law_1222 rfl rfl ?_
  refine l_rs dL_law_1223 (fun v1 => ?_)
  refine l_loc dL_law_1224 rfl rfl ?_
  refine l_loc dL_law_1225 rfl rfl ?_
  refine l_ic dL_law_1227 kI_2 ?_
  refine l_pure dL_law_1228 rfl rfl ?_
  refine l_rs dL_law_1229 (fun v2 => ?_)
  refine l_loc dL_law_1230 rfl rfl ?_
  refine l_loc dL_law_1231 rfl rfl ?_
  refine l_ic dL_law_1233 kI_3 ?_
  refine l_pure dL_law_1234 rfl rfl ?_
  refine l_rs dL_law_1235 (fun v3 => ?_)
  refine l_loc dL_law_1236 rfl rfl ?_
  refine l_cI dL_law_1237 rfl rfl rfl (l_xs cl_14_238 ko_mL_words rfl rfl) rfl rfl nm_mL_words (xhE_th rfl) (fun v5 h4 => ?_)
  refine l_loc (al1 := [(5, .int v5), (0, .retAddr 11), (1, .ref x1), (2, .ref x2), (3, .ref x3), (4, .int x4)]) dL_law_1240 rfl rfl ?_
  refine l_loc dL_law_1242 rfl rfl ?_
  refine l_loc dL_law_1243 rfl rfl ?_
  refine l_loc dL_law_1244 rfl rfl ?_
  refine l_ic dL_law_1246 kI_1 ?_
  refine l_pure dL_law_1247 rfl rfl ?_
  refine l_rs dL_law_1248 (fun v6 => ?_)
  refine l_loc dL_law_1249 rfl rfl ?_
  refine l_loc dL_law_1250 rfl rfl ?_
  refine l_ic dL_law_1252 kI_2 ?_
  refine l_pure dL_law_1253 rfl rfl ?_
  refine l_rs dL_law_1254 (fun v7 => ?_)
  refine l_loc dL_law_1255 rfl rfl ?_
  refine l_loc dL_law_1256 rfl rfl ?_
  refine l_ic dL_law_1258 kI_3 ?_
  refine l_pure dL_law_1259 rfl rfl ?_
  refine l_rs dL_law_1260 (fun v8 => ?_)
  refine l_ob fun q9 => ?_
  refine l_cI dL_law_1261 rfl rfl rfl (l_xv cl_14_240 ko_mX13_words rfl rfl rfl q9) rfl rfl nm_mX13_words (xhE_th rfl) (fun v11 h10 => ?_)
  refine l_loc (al1 := [(6, .int v11), (5, .int v5), (0, .retAddr 11), (1, .ref x1), (2, .ref x2), (3, .ref x3), (4, .int x4)]) dL_law_1264 rfl rfl ?_
  refine l_loc dL_law_1266 rfl rfl ?_
  refine l_ob fun q12 => ?_
  refine l_cI dL_law_1267 rfl rfl rfl (l_xv cl_14_195 ko_mX13_thrown rfl rfl rfl q12) rfl rfl nm_mX13_thrown (xhE_th rfl) (fun v14 h13 => ?_)
  refine l_loc dL_law_1270 rfl rfl ?_
  refine l_ceq (t := 1277) dL_law_1272 rfl ?_ ?_
  · refine l_loc dL_law_1277 rfl rfl ?_
    refine l_ine (t := 1294) dL_law_1279 rfl ?_ ?_
    · refine l_goto (t := 3482) dL_law_1294 rfl ?_
      exact l_al rfl ⟨rfl, rfl, rfl, rfl, rfl, trivial⟩
    · refine l_loc dL_law_1282 rfl rfl ?_
      refine l_ic dL_law_1283 kI_0 ?_
      refine l_rl dL_law_1284 (fun v15 => ?_)
      refine l_loc dL_law_1285 rfl rfl ?_
      refine l_pure dL_law_1287 rfl rfl ?_
      refine l_pure dL_law_1288 rfl rfl ?_
      refine l_ieq (t := 1294) dL_law_1289 rfl ?_ ?_
      · refine l_goto (t := 3482) dL_law_1294 rfl ?_
        exact l_al rfl ⟨rfl, rfl, rfl, rfl, rfl, trivial⟩
      · refine l_ic dL_law_1292 kI_0 ?_
        exact l_iretn dL_law_1293 rfl (by decide)
  · refine l_ic dL_law_1275 kI_0 ?_
    exact l_iretn dL_law_1276 rfl (by decide)
set_option maxRecDepth 16000 in
theorem w_L_law_1297 (S : xS) (x1 : Nat) (x2 : Nat) (x3 : Nat) (x4 : Int32) (h : xH) : xle ((xRs S (x4 + (1 : Int32))).bind fun v1 => (xRs S (x4 + (2 : Int32))).bind fun v2 => (xRs S (x4 + (3 : Int32))).bind fun v3 => (xRs S (x4 + (4 : Int32))).bind fun v4 => (xRs S (x4 + (5 : Int32))).bind fun v5 => xqI (xM S mL_ink [.ref x1, .int v1, .int v2, .int v3, .int v4, .int v5, .ref x3] h) xth fun v7 h6 => (xRs S (x4 + (1 : Int32))).bind fun v8 => (xRs S (x4 + (2 : Int32))).bind fun v9 => (xRs S (x4 + (3 : Int32))).bind fun v10 => (xRs S (x4 + (4 : Int32))).bind fun v11 => (xRs S (x4 + (5 : Int32))).bind fun v12 => if xOb h6 x2 12 = true then xqI (xM S mX13_ink [.ref x2, .int v8, .int v9, .int v10, .int v11, .int v12] h6) xth fun v15 h14 => if xOb h14 x2 12 = true then xqI (xM S mX13_thrown [.ref x2] h14) xth fun v18 h17 => if v18 = v7 then (if ¬ v7 = 0 then (xden S mL_law 3482 [(0, .retAddr 11), (1, .ref x1), (2, .ref x2), (3, .ref x3), (4, .int x4)] [] h17) else ((xRl h17 x3 (0 : Int32)).bind fun v19 => if (lg_cmp v19 (v15.toInt64)) = 0 then (xden S mL_law 3482 [(0, .retAddr 11), (1, .ref x1), (2, .ref x2), (3, .ref x3), (4, .int x4)] [] h17) else (some (.inl (some (.int (0 : Int32))), h17, 0, 0)))) else (some (.inl (some (.int (0 : Int32))), h17, 0, 0)) else none else none) (xden S mL_law 1297 [(0, .retAddr 11), (1, .ref x1), (2, .ref x2), (3, .ref x3), (4, .int x4)] [] h) := by
  refine l_loc dL_law_1297 rfl rfl ?_
  refine l_loc dL_law_1298 rfl rfl ?_
  refine l_loc dL_law_1299 rfl rfl ?_
  refine l_ic dL_law_1301 kI_1 ?_
  refine l_pure dL_law_1302 rfl rfl ?_
  refine l_rs dL_law_1303 (fun v1 => ?_)
  refine l_loc dL_law_1304 rfl rfl ?_
  refine l_loc dL_law_1305 rfl rfl ?_
  refine l_ic dL_law_1307 kI_2 ?_
  refine l_pure dL_law_1308 rfl rfl ?_
  refine l_rs dL_law_1309 (fun v2 => ?_)
  refine l_loc dL_law_1310 rfl rfl ?_
  refine l_loc dL_law_1311 rfl rfl ?_
  refine l_ic dL_law_1313 kI_3 ?_
  refine l_pure dL_law_1314 rfl rfl ?_
  refine l_rs dL_law_1315 (fun v3 => ?_)
  refine l_loc dL_law_1316 rfl rfl ?_
  refine l_loc dL_law_1317 rfl rfl ?_
  refine l_ic dL_law_1319 kI_4 ?_
  refine l_pure dL_law_1320 rfl rfl ?_
  refine l_rs dL_law_1321 (fun v4 => ?_)
  refine l_loc dL_law_1322 rfl rfl ?_
  refine l_loc dL_law_1323 rfl rfl ?_
  refine l_ic dL_law_1325 kI_5 ?_
  refine l_pure dL_law_1326 rfl rfl ?_
  refine l_rs dL_law_1327 (fun v5 => ?_)
  refine l_loc dL_law_1328 rfl rfl ?_
  refine l_cI dL_law_1329 rfl rfl rfl (l_xs cl_14_241 ko_mL_ink rfl rfl) rfl rfl nm_mL_ink (xhE_th rfl) (fun v7 h6 => ?_)
  refine l_loc (al1 := [(5, .int v7), (0, .retAddr 11), (1, .ref x1), (2, .ref x2), (3, .ref x3), (4, .int x4)]) dL_law_1332 rfl rfl ?_
  refine l_loc dL_law_1334 rfl rfl ?_
  refine l_loc dL_law_1335 rfl rfl ?_
  refine l_loc dL_law_1336 rfl rfl ?_
  refine l_ic dL_law_1338 kI_1 ?_
  refine l_pure dL_law_1339 rfl rfl ?_
  refine l_rs dL_law_1340 (fun v8 => ?_)
  refine l_loc dL_law_1341 rfl rfl ?_
  refine l_loc dL_law_1342 rfl rfl ?_
  refine l_ic dL_law_1344 kI_2 ?_
  refine l_pure dL_law_1345 rfl rfl ?_
  refine l_rs dL_law_1346 (fun v9 => ?_)
  refine l_loc dL_law_1347 rfl rfl ?_
  refine l_loc dL_law_1348 rfl rfl ?_
  refine l_ic dL_law_1350 kI_3 ?_
  refine l_pure dL_law_1351 rfl rfl ?_
  refine l_rs dL_law_1352 (fun v10 => ?_)
  refine l_loc dL_law_1353 rfl rfl ?_
  refine l_loc dL_law_1354 rfl rfl ?_
  refine l_ic dL_law_1356 kI_4 ?_
  refine l_pure dL_law_1357 rfl rfl ?_
  refine l_rs dL_law_1358 (fun v11 => ?_)
  refine l_loc dL_law_1359 rfl rfl ?_
  refine l_loc dL_law_1360 rfl rfl ?_
  refine l_ic dL_law_1362 kI_5 ?_
  refine l_pure dL_law_1363 rfl rfl ?_
  refine l_rs dL_law_1364 (fun v12 => ?_)
  refine l_ob fun q13 => ?_
  refine l_cI dL_law_1365 rfl rfl rfl (l_xv cl_14_244 ko_mX13_ink rfl rfl rfl q13) rfl rfl nm_mX13_ink (xhE_th rfl) (fun v15 h14 => ?_)
  refine l_loc (al1 := [(6, .int v15), (5, .int v7), (0, .retAddr 11), (1, .ref x1), (2, .ref x2), (3, .ref x3), (4, .int x4)]) dL_law_1368 rfl rfl ?_
  refine l_loc dL_law_1370 rfl rfl ?_
  refine l_ob fun q16 => ?_
  refine l_cI dL_law_1371 rfl rfl rfl (l_xv cl_14_195 ko_mX13_thrown rfl rfl rfl q16) rfl rfl nm_mX13_thrown (xhE_th rfl) (fun v18 h17 => ?_)
  refine l_loc dL_law_1374 rfl rfl ?_
  refine l_ceq (t := 1381) dL_law_1376 rfl ?_ ?_
  · refine l_loc dL_law_1381 rfl rfl ?_
    refine l_ine (t := 1398) dL_law_1383 rfl ?_ ?_
    · refine l_goto (t := 3482) dL_law_1398 rfl ?_
      exact l_al rfl ⟨rfl, rfl, rfl, rfl, rfl, trivial⟩
    · refine l_loc dL_law_1386 rfl rfl ?_
      refine l_ic dL_law_1387 kI_0 ?_
      refine l_rl dL_law_1388 (fun v19 => ?_)
      refine l_loc dL_law_1389 rfl rfl ?_
      refine l_pure dL_law_1391 rfl rfl ?_
      refine l_pure dL_law_1392 rfl rfl ?_
      refine l_ieq (t := 1398) dL_law_1393 rfl ?_ ?_
      · refine l_goto (t := 3482) dL_law_1398 rfl ?_
        exact l_al rfl ⟨rfl, rfl, rfl, rfl, rfl, trivial⟩
      · refine l_ic dL_law_1396 kI_0 ?_
        exact l_iretn dL_law_1397 rfl (by decide)
  · refine l_ic dL_law_1379 kI_0 ?_
    exact l_iretn dL_law_1380 rfl (by decide)
set_option maxRecDepth 16000 in
theorem w_L_law_1401 (S : xS) (x1 : Nat) (x2 : Nat) (x3 : Nat) (x4 : Int32) (h : xH) : xle ((xRs S (x4 + (1 : Int32))).bind fun v1 => xqI (xM S mL_fingerprint [.ref x1, .int v1, .ref x3] h) xth fun v3 h2 => (xRs S (x4 + (1 : Int32))).bind fun v4 => if xOb h2 x2 12 = true then xqJ (xM S mX13_fingerprint [.ref x2, .int v4] h2) xth fun v7 h6 => if xOb h6 x2 12 = true then xqI (xM S mX13_thrown [.ref x2] h6) xth fun v10 h9 => if v10 = v3 then (if ¬ v3 = 0 then (xden S mL_law 3482 [(0, .retAddr 11), (1, .ref x1), (2, .ref x2), (3, .ref x3), (4, .int x4)] [] h9) else ((xRl h9 x3 (0 : Int32)).bind fun v11 => if (lg_cmp v11 v7) = 0 then (xden S mL_law 3482 [(0, .retAddr 11), (1, .ref x1), (2, .ref x2), (3, .ref x3), (4, .int x4)] [] h9) else (some (.inl (some (.int (0 : Int32))), h9, 0, 0)))) else (some (.inl (some (.int (0 : Int32))), h9, 0, 0)) else none else none) (xden S mL_law 1401 [(0, .retAddr 11), (1, .ref x1), (2, .ref x2), (3, .ref x3), (4, .int x4)] [] h) := by
  refine l_loc dL_law_1401 rfl rfl ?_
  refine l_loc dL_law_1402 rfl rfl ?_
  refine l_loc dL_law_1403 rfl rfl ?_
  refine l_ic dL_law_1405 kI_1 ?_
  refine l_pure dL_law_1406 rfl rfl ?_
  refine l_rs dL_law_1407 (fun v1 => ?_)
  refine l_loc dL_law_1408 rfl rfl ?_
  refine l_cI dL_law_1409 rfl rfl rfl (l_xs cl_14_245 ko_mL_fingerprint rfl rfl) rfl rfl nm_mL_fingerprint (xhE_th rfl) (fun v3 h2 => ?_)
  refine l_loc (al1 := [(5, .int v3), (0, .retAddr 11), (1, .ref x1), (2, .ref x2), (3, .ref x3), (4, .int x4)]) dL_law_1412 rfl rfl ?_
  refine l_loc dL_law_1414 rfl rfl ?_
  refine l_loc dL_law_1415 rfl rfl ?_
  refine l_loc dL_law_1416 rfl rfl ?_
  refine l_ic dL_law_1418 kI_1 ?_
  refine l_pure dL_law_1419 rfl rfl ?_
  refine l_rs dL_law_1420 (fun v4 => ?_)
  refine l_ob fun q5 => ?_
  refine l_cJ dL_law_1421 rfl rfl rfl (l_xv cl_14_247 ko_mX13_fingerprint rfl rfl rfl q5) rfl rfl nm_mX13_fingerprint (xhE_th rfl) (fun v7 h6 => ?_)
  refine l_loc (al1 := [(6, .long v7), (5, .int v3), (0, .retAddr 11), (1, .ref x1), (2, .ref x2), (3, .ref x3), (4, .int x4)]) dL_law_1424 rfl rfl ?_
  refine l_loc dL_law_1426 rfl rfl ?_
  refine l_ob fun q8 => ?_
  refine l_cI dL_law_1427 rfl rfl rfl (l_xv cl_14_195 ko_mX13_thrown rfl rfl rfl q8) rfl rfl nm_mX13_thrown (xhE_th rfl) (fun v10 h9 => ?_)
  refine l_loc dL_law_1430 rfl rfl ?_
  refine l_ceq (t := 1437) dL_law_1432 rfl ?_ ?_
  · refine l_loc dL_law_1437 rfl rfl ?_
    refine l_ine (t := 1453) dL_law_1439 rfl ?_ ?_
    · refine l_goto (t := 3482) dL_law_1453 rfl ?_
      exact l_al rfl ⟨rfl, rfl, rfl, rfl, rfl, trivial⟩
    · refine l_loc dL_law_1442 rfl rfl ?_
      refine l_ic dL_law_1443 kI_0 ?_
      refine l_rl dL_law_1444 (fun v11 => ?_)
      refine l_loc dL_law_1445 rfl rfl ?_
      refine l_pure dL_law_1447 rfl rfl ?_
      refine l_ieq (t := 1453) dL_law_1448 rfl ?_ ?_
      · refine l_goto (t := 3482) dL_law_1453 rfl ?_
        exact l_al rfl ⟨rfl, rfl, rfl, rfl, rfl, trivial⟩
      · refine l_ic dL_law_1451 kI_0 ?_
        exact l_iretn dL_law_1452 rfl (by decide)
  · refine l_ic dL_law_1435 kI_0 ?_
    exact l_iretn dL_law_1436 rfl (by decide)
set_option maxRecDepth 16000 in
theorem w_L_law_1456 (S : xS) (x1 : Nat) (x2 : Nat) (x3 : Nat) (x4 : Int32) (h : xH) : xle (xqI (xM S mL_undo [.ref x1, .ref x3] h) xth fun v2 h1 => if xOb h1 x2 12 = true then xqI (xM S mX13_undo [.ref x2] h1) xth fun v5 h4 => if xOb h4 x2 12 = true then xqI (xM S mX13_thrown [.ref x2] h4) xth fun v8 h7 => if v8 = v2 then (if ¬ v2 = 0 then (xden S mL_law 3482 [(0, .retAddr 11), (1, .ref x1), (2, .ref x2), (3, .ref x3), (4, .int x4)] [] h7) else ((xRl h7 x3 (0 : Int32)).bind fun v9 => if (lg_cmp v9 (v5.toInt64)) = 0 then (xden S mL_law 3482 [(0, .retAddr 11), (1, .ref x1), (2, .ref x2), (3, .ref x3), (4, .int x4)] [] h7) else (some (.inl (some (.int (0 : Int32))), h7, 0, 0)))) else (some (.inl (some (.int (0 : Int32))), h7, 0, 0)) else none else none) (xden S mL_law 1456 [(0, .retAddr 11), (1, .ref x1), (2, .ref x2), (3, .ref x3), (4, .int x4)] [] h) := by
  refine l_loc dL_law_1456 rfl rfl ?_
  refine l_loc dL_law_1457 rfl rfl ?_
  refine l_cI dL_law_1458 rfl rfl rfl (l_xs cl_14_248 ko_mL_undo rfl rfl) rfl rfl nm_mL_undo (xhE_th rfl) (fun v2 h1 => ?_)
  refine l_loc (al1 := [(5, .int v2), (0, .retAddr 11), (1, .ref x1), (2, .ref x2), (3, .ref x3), (4, .int x4)]) dL_law_1461 rfl rfl ?_
  refine l_loc dL_law_1463 rfl rfl ?_
  refine l_ob fun q3 => ?_
  refine l_cI dL_law_1464 rfl rfl rfl (l_xv cl_14_251 ko_mX13_undo rfl rfl rfl q3) rfl rfl nm_mX13_undo (xhE_th rfl) (fun v5 h4 => ?_)
  refine l_loc (al1 := [(6, .int v5), (5, .int v2), (0, .retAddr 11), (1, .ref x1), (2, .ref x2), (3, .ref x3), (4, .int x4)]) dL_law_1467 rfl rfl ?_
  refine l_loc dL_law_1469 rfl rfl ?_
  refine l_ob fun q6 => ?_
  refine l_cI dL_law_1470 rfl rfl rfl (l_xv cl_14_195 ko_mX13_thrown rfl rfl rfl q6) rfl rfl nm_mX13_thrown (xhE_th rfl) (fun v8 h7 => ?_)
  refine l_loc dL_law_1473 rfl rfl ?_
  refine l_ceq (t := 1480) dL_law_1475 rfl ?_ ?_
  · refine l_loc dL_law_1480 rfl rfl ?_
    refine l_ine (t := 1497) dL_law_1482 rfl ?_ ?_
    · refine l_goto (t := 3482) dL_law_1497 rfl ?_
      exact l_al rfl ⟨rfl, rfl, rfl, rfl, rfl, trivial⟩
    · refine l_loc dL_law_1485 rfl rfl ?_
      refine l_ic dL_law_1486 kI_0 ?_
      refine l_rl dL_law_1487 (fun v9 => ?_)
      refine l_loc dL_law_1488 rfl rfl ?_
      refine l_pure dL_law_1490 rfl rfl ?_
      refine l_pure dL_law_1491 rfl rfl ?_
      refine l_ieq (t := 1497) dL_law_1492 rfl ?_ ?_
      · refine l_goto (t := 3482) dL_law_1497 rfl ?_
        exact l_al rfl ⟨rfl, rfl, rfl, rfl, rfl, trivial⟩
      · refine l_ic dL_law_1495 kI_0 ?_
        exact l_iretn dL_law_1496 rfl (by decide)
  · refine l_ic dL_law_1478 kI_0 ?_
    exact l_iretn dL_law_1479 rfl (by decide)

set_option maxRecDepth 16000 in
theorem w_L_law_1943 (S : xS) (x1 : Nat) (x2 : Nat) (x3 : Nat) (x4 : Int32) (h : xH) : xle (xqI (xM S mL_skew [.ref x1, .ref x3] h) xth fun v2 h1 => if xOb h1 x2 12 = true then xqI (xM S mX13_skew [.ref x2] h1) xth fun v5 h4 => if xOb h4 x2 12 = true then xqI (xM S mX13_thrown [.ref x2] h4) xth fun v8 h7 => if v8 = v2 then (if ¬ v2 = 0 then (xden S mL_law 3482 [(0, .retAddr 11), (1, .ref x1), (2, .ref x2), (3, .ref x3), (4, .int x4)] [] h7) else ((xRl h7 x3 (0 : Int32)).bind fun v9 => if (lg_cmp v9 (v5.toInt64)) = 0 then (xden S mL_law 3482 [(0, .retAddr 11), (1, .ref x1), (2, .ref x2), (3, .ref x3), (4, .int x4)] [] h7) else (some (.inl (some (.int (0 : Int32))), h7, 0, 0)))) else (some (.inl (some (.int (0 : Int32))), h7, 0, 0)) else none else none) (xden S mL_law 1943 [(0, .retAddr 11), (1, .ref x1), (2, .ref x2), (3, .ref x3), (4, .int x4)] [] h) := by
  refine l_loc dL_law_1943 rfl rfl ?_
  refine l_loc dL_law_1944 rfl rfl ?_
  refine l_cI dL_law_1945 rfl rfl rfl (l_xs cl_14_285 ko_mL_skew rfl rfl) rfl rfl nm_mL_skew (xhE_th rfl) (fun v2 h1 => ?_)
  refine l_loc (al1 := [(5, .int v2), (0, .retAddr 11), (1, .ref x1), (2, .ref x2), (3, .ref x3), (4, .int x4)]) dL_law_1948 rfl rfl ?_
  refine l_loc dL_law_1950 rfl rfl ?_
  refine l_ob fun q3 => ?_
  refine l_cI dL_law_1951 rfl rfl rfl (l_xv cl_14_287 ko_mX13_skew rfl rfl rfl q3) rfl rfl nm_mX13_skew (xhE_th rfl) (fun v5 h4 => ?_)
  refine l_loc (al1 := [(6, .int v5), (5, .int v2), (0, .retAddr 11), (1, .ref x1), (2, .ref x2), (3, .ref x3), (4, .int x4)]) dL_law_1954 rfl rfl ?_
  refine l_loc dL_law_1956 rfl rfl ?_
  refine l_ob fun q6 => ?_
  refine l_cI dL_law_1957 rfl rfl rfl (l_xv cl_14_195 ko_mX13_thrown rfl rfl rfl q6) rfl rfl nm_mX13_thrown (xhE_th rfl) (fun v8 h7 => ?_)
  refine l_loc dL_law_1960 rfl rfl ?_
  refine l_ceq (t := 1967) dL_law_1962 rfl ?_ ?_
  · refine l_loc dL_law_1967 rfl rfl ?_
    refine l_ine (t := 1984) dL_law_1969 rfl ?_ ?_
    · refine l_goto (t := 3482) dL_law_1984 rfl ?_
      exact l_al rfl ⟨rfl, rfl, rfl, rfl, rfl, trivial⟩
    · refine l_loc dL_law_1972 rfl rfl ?_
      refine l_ic dL_law_1973 kI_0 ?_
      refine l_rl dL_law_1974 (fun v9 => ?_)
      refine l_loc dL_law_1975 rfl rfl ?_
      refine l_pure dL_law_1977 rfl rfl ?_
      refine l_pure dL_law_1978 rfl rfl ?_
      refine l_ieq (t := 1984) dL_law_1979 rfl ?_ ?_
      · refine l_goto (t := 3482) dL_law_1984 rfl ?_
        exact l_al rfl ⟨rfl, rfl, rfl, rfl, rfl, trivial⟩
      · refine l_ic dL_law_1982 kI_0 ?_
        exact l_iretn dL_law_1983 rfl (by decide)
  · refine l_ic dL_law_1965 kI_0 ?_
    exact l_iretn dL_law_1966 rfl (by decide)
set_option maxRecDepth 16000 in
theorem w_L_law_1987 (S : xS) (x1 : Nat) (x2 : Nat) (x3 : Nat) (x4 : Int32) (h : xH) : xle (xqI (xM S mL_turned [.ref x1, .ref x3] h) xth fun v2 h1 => if xOb h1 x2 12 = true then xqI (xM S mX13_turned [.ref x2] h1) xth fun v5 h4 => if xOb h4 x2 12 = true then xqI (xM S mX13_thrown [.ref x2] h4) xth fun v8 h7 => if v8 = v2 then (if ¬ v2 = 0 then (xden S mL_law 3482 [(0, .retAddr 11), (1, .ref x1), (2, .ref x2), (3, .ref x3), (4, .int x4)] [] h7) else ((xRl h7 x3 (0 : Int32)).bind fun v9 => if v5 = 0 then (if (lg_cmp v9 (0 : Int64)) = 0 then (xden S mL_law 3482 [(0, .retAddr 11), (1, .ref x1), (2, .ref x2), (3, .ref x3), (4, .int x4)] [] h7) else (some (.inl (some (.int (0 : Int32))), h7, 0, 0))) else (if (lg_cmp v9 (1 : Int64)) = 0 then (xden S mL_law 3482 [(0, .retAddr 11), (1, .ref x1), (2, .ref x2), (3, .ref x3), (4, .int x4)] [] h7) else (some (.inl (some (.int (0 : Int32))), h7, 0, 0))))) else (some (.inl (some (.int (0 : Int32))), h7, 0, 0)) else none else none) (xden S mL_law 1987 [(0, .retAddr 11), (1, .ref x1), (2, .ref x2), (3, .ref x3), (4, .int x4)] [] h) := by
  refine l_loc dL_law_1987 rfl rfl ?_
  refine l_loc dL_law_1988 rfl rfl ?_
  refine l_cI dL_law_1989 rfl rfl rfl (l_xs cl_14_288 ko_mL_turned rfl rfl) rfl rfl nm_mL_turned (xhE_th rfl) (fun v2 h1 => ?_)
  refine l_loc (al1 := [(5, .int v2), (0, .retAddr 11), (1, .ref x1), (2, .ref x2), (3, .ref x3), (4, .int x4)]) dL_law_1992 rfl rfl ?_
  refine l_loc dL_law_1994 rfl rfl ?_
  refine l_ob fun q3 => ?_
  refine l_cI dL_law_1995 rfl rfl rfl (l_xv cl_14_290 ko_mX13_turned rfl rfl rfl q3) rfl rfl nm_mX13_turned (xhE_th rfl) (fun v5 h4 => ?_)
  refine l_loc (al1 := [(6, .int v5), (5, .int v2), (0, .retAddr 11), (1, .ref x1), (2, .ref x2), (3, .ref x3), (4, .int x4)]) dL_law_1998 rfl rfl ?_
  refine l_loc dL_law_2000 rfl rfl ?_
  refine l_ob fun q6 => ?_
  refine l_cI dL_law_2001 rfl rfl rfl (l_xv cl_14_195 ko_mX13_thrown rfl rfl rfl q6) rfl rfl nm_mX13_thrown (xhE_th rfl) (fun v8 h7 => ?_)
  refine l_loc dL_law_2004 rfl rfl ?_
  refine l_ceq (t := 2011) dL_law_2006 rfl ?_ ?_
  · refine l_loc dL_law_2011 rfl rfl ?_
    refine l_ine (t := 2035) dL_law_2013 rfl ?_ ?_
    · refine l_goto (t := 3482) dL_law_2035 rfl ?_
      exact l_al rfl ⟨rfl, rfl, rfl, rfl, rfl, trivial⟩
    · refine l_loc dL_law_2016 rfl rfl ?_
      refine l_ic dL_law_2017 kI_0 ?_
      refine l_rl dL_law_2018 (fun v9 => ?_)
      refine l_loc dL_law_2019 rfl rfl ?_
      refine l_ieq (t := 2028) dL_law_2021 rfl ?_ ?_
      · refine l_lc0 dL_law_2028 ?_
        refine l_pure dL_law_2029 rfl rfl ?_
        refine l_ieq (t := 2035) dL_law_2030 rfl ?_ ?_
        · refine l_goto (t := 3482) dL_law_2035 rfl ?_
          exact l_al rfl ⟨rfl, rfl, rfl, rfl, rfl, trivial⟩
        · refine l_ic dL_law_2033 kI_0 ?_
          exact l_iretn dL_law_2034 rfl (by decide)
      · refine l_lc1 dL_law_2024 ?_
        refine l_goto (t := 2029) dL_law_2025 rfl ?_
        refine l_pure dL_law_2029 rfl rfl ?_
        refine l_ieq (t := 2035) dL_law_2030 rfl ?_ ?_
        · refine l_goto (t := 3482) dL_law_2035 rfl ?_
          exact l_al rfl ⟨rfl, rfl, rfl, rfl, rfl, trivial⟩
        · refine l_ic dL_law_2033 kI_0 ?_
          exact l_iretn dL_law_2034 rfl (by decide)
  · refine l_ic dL_law_2009 kI_0 ?_
    exact l_iretn dL_law_2010 rfl (by decide)
set_option maxRecDepth 16000 in
theorem w_L_law_2038 (S : xS) (x1 : Nat) (x2 : Nat) (x3 : Nat) (x4 : Int32) (h : xH) : xle (xqI (xM S mL_mismatch [.ref x1, .ref x3] h) xth fun v2 h1 => if xOb h1 x2 12 = true then xqI (xM S mX13_mismatch [.ref x2] h1) xth fun v5 h4 => if xOb h4 x2 12 = true then xqI (xM S mX13_thrown [.ref x2] h4) xth fun v8 h7 => if v8 = v2 then (if ¬ v2 = 0 then (xden S mL_law 3482 [(0, .retAddr 11), (1, .ref x1), (2, .ref x2), (3, .ref x3), (4, .int x4)] [] h7) else ((xRl h7 x3 (0 : Int32)).bind fun v9 => if (lg_cmp v9 (v5.toInt64)) = 0 then (xden S mL_law 3482 [(0, .retAddr 11), (1, .ref x1), (2, .ref x2), (3, .ref x3), (4, .int x4)] [] h7) else (some (.inl (some (.int (0 : Int32))), h7, 0, 0)))) else (some (.inl (some (.int (0 : Int32))), h7, 0, 0)) else none else none) (xden S mL_law 2038 [(0, .retAddr 11), (1, .ref x1), (2, .ref x2), (3, .ref x3), (4, .int x4)] [] h) := by
  refine l_loc dL_law_2038 rfl rfl ?_
  refine l_loc dL_law_2039 rfl rfl ?_
  refine l_cI dL_law_2040 rfl rfl rfl (l_xs cl_14_291 ko_mL_mismatch rfl rfl) rfl rfl nm_mL_mismatch (xhE_th rfl) (fun v2 h1 => ?_)
  refine l_loc (al1 := [(5, .int v2), (0, .retAddr 11), (1, .ref x1), (2, .ref x2), (3, .ref x3), (4, .int x4)]) dL_law_2043 rfl rfl ?_
  refine l_loc dL_law_2045 rfl rfl ?_
  refine l_ob fun q3 => ?_
  refine l_cI dL_law_2046 rfl rfl rfl (l_xv cl_14_293 ko_mX13_mismatch rfl rfl rfl q3) rfl rfl nm_mX13_mismatch (xhE_th rfl) (fun v5 h4 => ?_)
  refine l_loc (al1 := [(6, .int v5), (5, .int v2), (0, .retAddr 11), (1, .ref x1), (2, .ref x2), (3, .ref x3), (4, .int x4)]) dL_law_2049 rfl rfl ?_
  refine l_loc dL_law_2051 rfl rfl ?_
  refine l_ob fun q6 => ?_
  refine l_cI dL_law_2052 rfl rfl rfl (l_xv cl_14_195 ko_mX13_thrown rfl rfl rfl q6) rfl rfl nm_mX13_thrown (xhE_th rfl) (fun v8 h7 => ?_)
  refine l_loc dL_law_2055 rfl rfl ?_
  refine l_ceq (t := 2062) dL_law_2057 rfl ?_ ?_
  · refine l_loc dL_law_2062 rfl rfl ?_
    refine l_ine (t := 2079) dL_law_2064 rfl ?_ ?_
    · refine l_goto (t := 3482) dL_law_2079 rfl ?_
      exact l_al rfl ⟨rfl, rfl, rfl, rfl, rfl, trivial⟩
    · refine l_loc dL_law_2067 rfl rfl ?_
      refine l_ic dL_law_2068 kI_0 ?_
      refine l_rl dL_law_2069 (fun v9 => ?_)
      refine l_loc dL_law_2070 rfl rfl ?_
      refine l_pure dL_law_2072 rfl rfl ?_
      refine l_pure dL_law_2073 rfl rfl ?_
      refine l_ieq (t := 2079) dL_law_2074 rfl ?_ ?_
      · refine l_goto (t := 3482) dL_law_2079 rfl ?_
        exact l_al rfl ⟨rfl, rfl, rfl, rfl, rfl, trivial⟩
      · refine l_ic dL_law_2077 kI_0 ?_
        exact l_iretn dL_law_2078 rfl (by decide)
  · refine l_ic dL_law_2060 kI_0 ?_
    exact l_iretn dL_law_2061 rfl (by decide)
set_option maxRecDepth 16000 in
theorem w_L_law_2082 (S : xS) (x1 : Nat) (x2 : Nat) (x3 : Nat) (x4 : Int32) (h : xH) : xle (xqI (xM S mL_similarity [.ref x1, .ref x3] h) xth fun v2 h1 => if xOb h1 x2 12 = true then xqI (xM S mX13_similarity [.ref x2] h1) xth fun v5 h4 => if xOb h4 x2 12 = true then xqI (xM S mX13_thrown [.ref x2] h4) xth fun v8 h7 => if v8 = v2 then (if ¬ v2 = 0 then (xden S mL_law 3482 [(0, .retAddr 11), (1, .ref x1), (2, .ref x2), (3, .ref x3), (4, .int x4)] [] h7) else ((xRl h7 x3 (0 : Int32)).bind fun v9 => if (lg_cmp v9 (v5.toInt64)) = 0 then (xden S mL_law 3482 [(0, .retAddr 11), (1, .ref x1), (2, .ref x2), (3, .ref x3), (4, .int x4)] [] h7) else (some (.inl (some (.int (0 : Int32))), h7, 0, 0)))) else (some (.inl (some (.int (0 : Int32))), h7, 0, 0)) else none else none) (xden S mL_law 2082 [(0, .retAddr 11), (1, .ref x1), (2, .ref x2), (3, .ref x3), (4, .int x4)] [] h) := by
  refine l_loc dL_law_2082 rfl rfl ?_
  refine l_loc dL_law_2083 rfl rfl ?_
  refine l_cI dL_law_2084 rfl rfl rfl (l_xs cl_14_294 ko_mL_similarity rfl rfl) rfl rfl nm_mL_similarity (xhE_th rfl) (fun v2 h1 => ?_)
  refine l_loc (al1 := [(5, .int v2), (0, .retAddr 11), (1, .ref x1), (2, .ref x2), (3, .ref x3), (4, .int x4)]) dL_law_2087 rfl rfl ?_
  refine l_loc dL_law_2089 rfl rfl ?_
  refine l_ob fun q3 => ?_
  refine l_cI dL_law_2090 rfl rfl rfl (l_xv cl_14_296 ko_mX13_similarity rfl rfl rfl q3) rfl rfl nm_mX13_similarity (xhE_th rfl) (fun v5 h4 => ?_)
  refine l_loc (al1 := [(6, .int v5), (5, .int v2), (0, .retAddr 11), (1, .ref x1), (2, .ref x2), (3, .ref x3), (4, .int x4)]) dL_law_2093 rfl rfl ?_
  refine l_loc dL_law_2095 rfl rfl ?_
  refine l_ob fun q6 => ?_
  refine l_cI dL_law_2096 rfl rfl rfl (l_xv cl_14_195 ko_mX13_thrown rfl rfl rfl q6) rfl rfl nm_mX13_thrown (xhE_th rfl) (fun v8 h7 => ?_)
  refine l_loc dL_law_2099 rfl rfl ?_
  refine l_ceq (t := 2106) dL_law_2101 rfl ?_ ?_
  · refine l_loc dL_law_2106 rfl rfl ?_
    refine l_ine (t := 2123) dL_law_2108 rfl ?_ ?_
    · refine l_goto (t := 3482) dL_law_2123 rfl ?_
      exact l_al rfl ⟨rfl, rfl, rfl, rfl, rfl, trivial⟩
    · refine l_loc dL_law_2111 rfl rfl ?_
      refine l_ic dL_law_2112 kI_0 ?_
      refine l_rl dL_law_2113 (fun v9 => ?_)
      refine l_loc dL_law_2114 rfl rfl ?_
      refine l_pure dL_law_2116 rfl rfl ?_
      refine l_pure dL_law_2117 rfl rfl ?_
      refine l_ieq (t := 2123) dL_law_2118 rfl ?_ ?_
      · refine l_goto (t := 3482) dL_law_2123 rfl ?_
        exact l_al rfl ⟨rfl, rfl, rfl, rfl, rfl, trivial⟩
      · refine l_ic dL_law_2121 kI_0 ?_
        exact l_iretn dL_law_2122 rfl (by decide)
  · refine l_ic dL_law_2104 kI_0 ?_
    exact l_iretn dL_law_2105 rfl (by decide)
set_option maxRecDepth 16000 in
theorem w_L_law_2126 (S : xS) (x1 : Nat) (x2 : Nat) (x3 : Nat) (x4 : Int32) (h : xH) : xle ((xRs S (x4 + (1 : Int32))).bind fun v1 => (xRs S (x4 + (2 : Int32))).bind fun v2 => xqI (xM S mL_mismatchAt [.ref x1, .int v1, .int v2, .ref x3] h) xth fun v4 h3 => (xRs S (x4 + (1 : Int32))).bind fun v5 => (xRs S (x4 + (2 : Int32))).bind fun v6 => if xOb h3 x2 12 = true then xqI (xM S mX13_mismatchAt [.ref x2, .int v5, .int v6] h3) xth fun v9 h8 => if xOb h8 x2 12 = true then xqI (xM S mX13_thrown [.ref x2] h8) xth fun v12 h11 => if v12 = v4 then (if ¬ v4 = 0 then (xden S mL_law 3482 [(0, .retAddr 11), (1, .ref x1), (2, .ref x2), (3, .ref x3), (4, .int x4)] [] h11) else ((xRl h11 x3 (0 : Int32)).bind fun v13 => if (lg_cmp v13 (v9.toInt64)) = 0 then (xden S mL_law 3482 [(0, .retAddr 11), (1, .ref x1), (2, .ref x2), (3, .ref x3), (4, .int x4)] [] h11) else (some (.inl (some (.int (0 : Int32))), h11, 0, 0)))) else (some (.inl (some (.int (0 : Int32))), h11, 0, 0)) else none else none) (xden S mL_law 2126 [(0, .retAddr 11), (1, .ref x1), (2, .ref x2), (3, .ref x3), (4, .int x4)] [] h) := by
  refine l_loc dL_law_2126 rfl rfl ?_
  refine l_loc dL_law_2127 rfl rfl ?_
  refine l_loc dL_law_2128 rfl rfl ?_
  refine l_ic dL_law_2130 kI_1 ?_
  refine l_pure dL_law_2131 rfl rfl ?_
  refine l_rs dL_law_2132 (fun v1 => ?_)
  refine l_loc dL_law_2133 rfl rfl ?_
  refine l_loc dL_law_2134 rfl rfl ?_
  refine l_ic dL_law_2136 kI_2 ?_
  refine l_pure dL_law_2137 rfl rfl ?_
  refine l_rs dL_law_2138 (fun v2 => ?_)
  refine l_loc dL_law_2139 rfl rfl ?_
  refine l_cI dL_law_2140 rfl rfl rfl (l_xs cl_14_297 ko_mL_mismatchAt rfl rfl) rfl rfl nm_mL_mismatchAt (xhE_th rfl) (fun v4 h3 => ?_)
  refine l_loc (al1 := [(5, .int v4), (0, .retAddr 11), (1, .ref x1), (2, .ref x2), (3, .ref x3), (4, .int x4)]) dL_law_2143 rfl rfl ?_
  refine l_loc dL_law_2145 rfl rfl ?_
  refine l_loc dL_law_2146 rfl rfl ?_
  refine l_loc dL_law_2147 rfl rfl ?_
  refine l_ic dL_law_2149 kI_1 ?_
  refine l_pure dL_law_2150 rfl rfl ?_
  refine l_rs dL_law_2151 (fun v5 => ?_)
  refine l_loc dL_law_2152 rfl rfl ?_
  refine l_loc dL_law_2153 rfl rfl ?_
  refine l_ic dL_law_2155 kI_2 ?_
  refine l_pure dL_law_2156 rfl rfl ?_
  refine l_rs dL_law_2157 (fun v6 => ?_)
  refine l_ob fun q7 => ?_
  refine l_cI dL_law_2158 rfl rfl rfl (l_xv cl_14_299 ko_mX13_mismatchAt rfl rfl rfl q7) rfl rfl nm_mX13_mismatchAt (xhE_th rfl) (fun v9 h8 => ?_)
  refine l_loc (al1 := [(6, .int v9), (5, .int v4), (0, .retAddr 11), (1, .ref x1), (2, .ref x2), (3, .ref x3), (4, .int x4)]) dL_law_2161 rfl rfl ?_
  refine l_loc dL_law_2163 rfl rfl ?_
  refine l_ob fun q10 => ?_
  refine l_cI dL_law_2164 rfl rfl rfl (l_xv cl_14_195 ko_mX13_thrown rfl rfl rfl q10) rfl rfl nm_mX13_thrown (xhE_th rfl) (fun v12 h11 => ?_)
  refine l_loc dL_law_2167 rfl rfl ?_
  refine l_ceq (t := 2174) dL_law_2169 rfl ?_ ?_
  · refine l_loc dL_law_2174 rfl rfl ?_
    refine l_ine (t := 2191) dL_law_2176 rfl ?_ ?_
    · refine l_goto (t := 3482) dL_law_2191 rfl ?_
      exact l_al rfl ⟨rfl, rfl, rfl, rfl, rfl, trivial⟩
    · refine l_loc dL_law_2179 rfl rfl ?_
      refine l_ic dL_law_2180 kI_0 ?_
      refine l_rl dL_law_2181 (fun v13 => ?_)
      refine l_loc dL_law_2182 rfl rfl ?_
      refine l_pure dL_law_2184 rfl rfl ?_
      refine l_pure dL_law_2185 rfl rfl ?_
      refine l_ieq (t := 2191) dL_law_2186 rfl ?_ ?_
      · refine l_goto (t := 3482) dL_law_2191 rfl ?_
        exact l_al rfl ⟨rfl, rfl, rfl, rfl, rfl, trivial⟩
      · refine l_ic dL_law_2189 kI_0 ?_
        exact l_iretn dL_law_2190 rfl (by decide)
  · refine l_ic dL_law_2172 kI_0 ?_
    exact l_iretn dL_law_2173 rfl (by decide)
set_option maxRecDepth 16000 in
theorem w_L_law_2194 (S : xS) (x1 : Nat) (x2 : Nat) (x3 : Nat) (x4 : Int32) (h : xH) : xle ((xRs S (x4 + (1 : Int32))).bind fun v1 => (xRs S (x4 + (2 : Int32))).bind fun v2 => xqI (xM S mL_blockDifference [.ref x1, .int v1, .int v2, .ref x3] h) xth fun v4 h3 => (xRs S (x4 + (1 : Int32))).bind fun v5 => (xRs S (x4 + (2 : Int32))).bind fun v6 => if xOb h3 x2 12 = true then xqI (xM S mX13_blockDifference [.ref x2, .int v5, .int v6] h3) xth fun v9 h8 => if xOb h8 x2 12 = true then xqI (xM S mX13_thrown [.ref x2] h8) xth fun v12 h11 => if v12 = v4 then (if ¬ v4 = 0 then (xden S mL_law 3482 [(0, .retAddr 11), (1, .ref x1), (2, .ref x2), (3, .ref x3), (4, .int x4)] [] h11) else ((xRl h11 x3 (0 : Int32)).bind fun v13 => if (lg_cmp v13 (v9.toInt64)) = 0 then (xden S mL_law 3482 [(0, .retAddr 11), (1, .ref x1), (2, .ref x2), (3, .ref x3), (4, .int x4)] [] h11) else (some (.inl (some (.int (0 : Int32))), h11, 0, 0)))) else (some (.inl (some (.int (0 : Int32))), h11, 0, 0)) else none else none) (xden S mL_law 2194 [(0, .retAddr 11), (1, .ref x1), (2, .ref x2), (3, .ref x3), (4, .int x4)] [] h) := by
  refine l_loc dL_law_2194 rfl rfl ?_
  refine l_loc dL_law_2195 rfl rfl ?_
  refine l_loc dL_law_2196 rfl rfl ?_
  refine l_ic dL_law_2198 kI_1 ?_
  refine l_pure dL_law_2199 rfl rfl ?_
  refine l_rs dL_law_2200 (fun v1 => ?_)
  refine l_loc dL_law_2201 rfl rfl ?_
  refine l_loc dL_law_2202 rfl rfl ?_
  refine l_ic dL_law_2204 kI_2 ?_
  refine l_pure dL_law_2205 rfl rfl ?_
  refine l_rs dL_law_2206 (fun v2 => ?_)
  refine l_loc dL_law_2207 rfl rfl ?_
  refine l_cI dL_law_2208 rfl rfl rfl (l_xs cl_14_300 ko_mL_blockDifference rfl rfl) rfl rfl nm_mL_blockDifference (xhE_th rfl) (fun v4 h3 => ?_)
  refine l_loc (al1 := [(5, .int v4), (0, .retAddr 11), (1, .ref x1), (2, .ref x2), (3, .ref x3), (4, .int x4)]) dL_law_2211 rfl rfl ?_
  refine l_loc dL_law_2213 rfl rfl ?_
  refine l_loc dL_law_2214 rfl rfl ?_
  refine l_loc dL_law_2215 rfl rfl ?_
  refine l_ic dL_law_2217 kI_1 ?_
  refine l_pure dL_law_2218 rfl rfl ?_
  refine l_rs dL_law_2219 (fun v5 => ?_)
  refine l_loc dL_law_2220 rfl rfl ?_
  refine l_loc dL_law_2221 rfl rfl ?_
  refine l_ic dL_law_2223 kI_2 ?_
  refine l_pure dL_law_2224 rfl rfl ?_
  refine l_rs dL_law_2225 (fun v6 => ?_)
  refine l_ob fun q7 => ?_
  refine l_cI dL_law_2226 rfl rfl rfl (l_xv cl_14_302 ko_mX13_blockDifference rfl rfl rfl q7) rfl rfl nm_mX13_blockDifference (xhE_th rfl) (fun v9 h8 => ?_)
  refine l_loc (al1 := [(6, .int v9), (5, .int v4), (0, .retAddr 11), (1, .ref x1), (2, .ref x2), (3, .ref x3), (4, .int x4)]) dL_law_2229 rfl rfl ?_
  refine l_loc dL_law_2231 rfl rfl ?_
  refine l_ob fun q10 => ?_
  refine l_cI dL_law_2232 rfl rfl rfl (l_xv cl_14_195 ko_mX13_thrown rfl rfl rfl q10) rfl rfl nm_mX13_thrown (xhE_th rfl) (fun v12 h11 => ?_)
  refine l_loc dL_law_2235 rfl rfl ?_
  refine l_ceq (t := 2242) dL_law_2237 rfl ?_ ?_
  · refine l_loc dL_law_2242 rfl rfl ?_
    refine l_ine (t := 2259) dL_law_2244 rfl ?_ ?_
    · refine l_goto (t := 3482) dL_law_2259 rfl ?_
      exact l_al rfl ⟨rfl, rfl, rfl, rfl, rfl, trivial⟩
    · refine l_loc dL_law_2247 rfl rfl ?_
      refine l_ic dL_law_2248 kI_0 ?_
      refine l_rl dL_law_2249 (fun v13 => ?_)
      refine l_loc dL_law_2250 rfl rfl ?_
      refine l_pure dL_law_2252 rfl rfl ?_
      refine l_pure dL_law_2253 rfl rfl ?_
      refine l_ieq (t := 2259) dL_law_2254 rfl ?_ ?_
      · refine l_goto (t := 3482) dL_law_2259 rfl ?_
        exact l_al rfl ⟨rfl, rfl, rfl, rfl, rfl, trivial⟩
      · refine l_ic dL_law_2257 kI_0 ?_
        exact l_iretn dL_law_2258 rfl (by decide)
  · refine l_ic dL_law_2240 kI_0 ?_
    exact l_iretn dL_law_2241 rfl (by decide)
set_option maxRecDepth 16000 in
theorem w_L_law_2262 (S : xS) (x1 : Nat) (x2 : Nat) (x3 : Nat) (x4 : Int32) (h : xH) : xle (xqI (xM S mL_regions [.ref x1, .ref x3] h) xth fun v2 h1 => if xOb h1 x2 12 = true then xqI (xM S mX13_regions [.ref x2] h1) xth fun v5 h4 => if xOb h4 x2 12 = true then xqI (xM S mX13_thrown [.ref x2] h4) xth fun v8 h7 => if v8 = v2 then (if ¬ v2 = 0 then (xden S mL_law 3482 [(0, .retAddr 11), (1, .ref x1), (2, .ref x2), (3, .ref x3), (4, .int x4)] [] h7) else ((xRl h7 x3 (0 : Int32)).bind fun v9 => if (lg_cmp v9 (v5.toInt64)) = 0 then (xden S mL_law 3482 [(0, .retAddr 11), (1, .ref x1), (2, .ref x2), (3, .ref x3), (4, .int x4)] [] h7) else (some (.inl (some (.int (0 : Int32))), h7, 0, 0)))) else (some (.inl (some (.int (0 : Int32))), h7, 0, 0)) else none else none) (xden S mL_law 2262 [(0, .retAddr 11), (1, .ref x1), (2, .ref x2), (3, .ref x3), (4, .int x4)] [] h) := by
  refine l_loc dL_law_2262 rfl rfl ?_
  refine l_loc dL_law_2263 rfl rfl ?_
  refine l_cI dL_law_2264 rfl rfl rfl (l_xs cl_14_303 ko_mL_regions rfl rfl) rfl rfl nm_mL_regions (xhE_th rfl) (fun v2 h1 => ?_)
  refine l_loc (al1 := [(5, .int v2), (0, .retAddr 11), (1, .ref x1), (2, .ref x2), (3, .ref x3), (4, .int x4)]) dL_law_2267 rfl rfl ?_
  refine l_loc dL_law_2269 rfl rfl ?_
  refine l_ob fun q3 => ?_
  refine l_cI dL_law_2270 rfl rfl rfl (l_xv cl_14_305 ko_mX13_regions rfl rfl rfl q3) rfl rfl nm_mX13_regions (xhE_th rfl) (fun v5 h4 => ?_)
  refine l_loc (al1 := [(6, .int v5), (5, .int v2), (0, .retAddr 11), (1, .ref x1), (2, .ref x2), (3, .ref x3), (4, .int x4)]) dL_law_2273 rfl rfl ?_
  refine l_loc dL_law_2275 rfl rfl ?_
  refine l_ob fun q6 => ?_
  refine l_cI dL_law_2276 rfl rfl rfl (l_xv cl_14_195 ko_mX13_thrown rfl rfl rfl q6) rfl rfl nm_mX13_thrown (xhE_th rfl) (fun v8 h7 => ?_)
  refine l_loc dL_law_2279 rfl rfl ?_
  refine l_ceq (t := 2286) dL_law_2281 rfl ?_ ?_
  · refine l_loc dL_law_2286 rfl rfl ?_
    refine l_ine (t := 2303) dL_law_2288 rfl ?_ ?_
    · refine l_goto (t := 3482) dL_law_2303 rfl ?_
      exact l_al rfl ⟨rfl, rfl, rfl, rfl, rfl, trivial⟩
    · refine l_loc dL_law_2291 rfl rfl ?_
      refine l_ic dL_law_2292 kI_0 ?_
      refine l_rl dL_law_2293 (fun v9 => ?_)
      refine l_loc dL_law_2294 rfl rfl ?_
      refine l_pure dL_law_2296 rfl rfl ?_
      refine l_pure dL_law_2297 rfl rfl ?_
      refine l_ieq (t := 2303) dL_law_2298 rfl ?_ ?_
      · refine l_goto (t := 3482) dL_law_2303 rfl ?_
        exact l_al rfl ⟨rfl, rfl, rfl, rfl, rfl, trivial⟩
      · refine l_ic dL_law_2301 kI_0 ?_
        exact l_iretn dL_law_2302 rfl (by decide)
  · refine l_ic dL_law_2284 kI_0 ?_
    exact l_iretn dL_law_2285 rfl (by decide)
set_option maxRecDepth 16000 in
theorem w_L_law_2306 (S : xS) (x1 : Nat) (x2 : Nat) (x3 : Nat) (x4 : Int32) (h : xH) : xle ((xRs S (x4 + (1 : Int32))).bind fun v1 => (xRs S (x4 + (2 : Int32))).bind fun v2 => xqI (xM S mL_regionAt [.ref x1, .int v1, .int v2, .ref x3] h) xth fun v4 h3 => (xRs S (x4 + (1 : Int32))).bind fun v5 => (xRs S (x4 + (2 : Int32))).bind fun v6 => if xOb h3 x2 12 = true then xqI (xM S mX13_regionAt [.ref x2, .int v5, .int v6] h3) xth fun v9 h8 => if xOb h8 x2 12 = true then xqI (xM S mX13_thrown [.ref x2] h8) xth fun v12 h11 => if v12 = v4 then (if ¬ v4 = 0 then (xden S mL_law 3482 [(0, .retAddr 11), (1, .ref x1), (2, .ref x2), (3, .ref x3), (4, .int x4)] [] h11) else ((xRl h11 x3 (0 : Int32)).bind fun v13 => if (lg_cmp v13 (v9.toInt64)) = 0 then (xden S mL_law 3482 [(0, .retAddr 11), (1, .ref x1), (2, .ref x2), (3, .ref x3), (4, .int x4)] [] h11) else (some (.inl (some (.int (0 : Int32))), h11, 0, 0)))) else (some (.inl (some (.int (0 : Int32))), h11, 0, 0)) else none else none) (xden S mL_law 2306 [(0, .retAddr 11), (1, .ref x1), (2, .ref x2), (3, .ref x3), (4, .int x4)] [] h) := by
  refine l_loc dL_law_2306 rfl rfl ?_
  refine l_loc dL_law_2307 rfl rfl ?_
  refine l_loc dL_law_2308 rfl rfl ?_
  refine l_ic dL_law_2310 kI_1 ?_
  refine l_pure dL_law_2311 rfl rfl ?_
  refine l_rs dL_law_2312 (fun v1 => ?_)
  refine l_loc dL_law_2313 rfl rfl ?_
  refine l_loc dL_law_2314 rfl rfl ?_
  refine l_ic dL_law_2316 kI_2 ?_
  refine l_pure dL_law_2317 rfl rfl ?_
  refine l_rs dL_law_2318 (fun v2 => ?_)
  refine l_loc dL_law_2319 rfl rfl ?_
  refine l_cI dL_law_2320 rfl rfl rfl (l_xs cl_14_306 ko_mL_regionAt rfl rfl) rfl rfl nm_mL_regionAt (xhE_th rfl) (fun v4 h3 => ?_)
  refine l_loc (al1 := [(5, .int v4), (0, .retAddr 11), (1, .ref x1), (2, .ref x2), (3, .ref x3), (4, .int x4)]) dL_law_2323 rfl rfl ?_
  refine l_loc dL_law_2325 rfl rfl ?_
  refine l_loc dL_law_2326 rfl rfl ?_
  refine l_loc dL_law_2327 rfl rfl ?_
  refine l_ic dL_law_2329 kI_1 ?_
  refine l_pure dL_law_2330 rfl rfl ?_
  refine l_rs dL_law_2331 (fun v5 => ?_)
  refine l_loc dL_law_2332 rfl rfl ?_
  refine l_loc dL_law_2333 rfl rfl ?_
  refine l_ic dL_law_2335 kI_2 ?_
  refine l_pure dL_law_2336 rfl rfl ?_
  refine l_rs dL_law_2337 (fun v6 => ?_)
  refine l_ob fun q7 => ?_
  refine l_cI dL_law_2338 rfl rfl rfl (l_xv cl_14_308 ko_mX13_regionAt rfl rfl rfl q7) rfl rfl nm_mX13_regionAt (xhE_th rfl) (fun v9 h8 => ?_)
  refine l_loc (al1 := [(6, .int v9), (5, .int v4), (0, .retAddr 11), (1, .ref x1), (2, .ref x2), (3, .ref x3), (4, .int x4)]) dL_law_2341 rfl rfl ?_
  refine l_loc dL_law_2343 rfl rfl ?_
  refine l_ob fun q10 => ?_
  refine l_cI dL_law_2344 rfl rfl rfl (l_xv cl_14_195 ko_mX13_thrown rfl rfl rfl q10) rfl rfl nm_mX13_thrown (xhE_th rfl) (fun v12 h11 => ?_)
  refine l_loc dL_law_2347 rfl rfl ?_
  refine l_ceq (t := 2354) dL_law_2349 rfl ?_ ?_
  · refine l_loc dL_law_2354 rfl rfl ?_
    refine l_ine (t := 2371) dL_law_2356 rfl ?_ ?_
    · refine l_goto (t := 3482) dL_law_2371 rfl ?_
      exact l_al rfl ⟨rfl, rfl, rfl, rfl, rfl, trivial⟩
    · refine l_loc dL_law_2359 rfl rfl ?_
      refine l_ic dL_law_2360 kI_0 ?_
      refine l_rl dL_law_2361 (fun v13 => ?_)
      refine l_loc dL_law_2362 rfl rfl ?_
      refine l_pure dL_law_2364 rfl rfl ?_
      refine l_pure dL_law_2365 rfl rfl ?_
      refine l_ieq (t := 2371) dL_law_2366 rfl ?_ ?_
      · refine l_goto (t := 3482) dL_law_2371 rfl ?_
        exact l_al rfl ⟨rfl, rfl, rfl, rfl, rfl, trivial⟩
      · refine l_ic dL_law_2369 kI_0 ?_
        exact l_iretn dL_law_2370 rfl (by decide)
  · refine l_ic dL_law_2352 kI_0 ?_
    exact l_iretn dL_law_2353 rfl (by decide)
set_option maxRecDepth 16000 in
theorem w_L_law_2374 (S : xS) (x1 : Nat) (x2 : Nat) (x3 : Nat) (x4 : Int32) (h : xH) : xle ((xRs S (x4 + (1 : Int32))).bind fun v1 => xqI (xM S mL_regionLeft [.ref x1, .int v1, .ref x3] h) xth fun v3 h2 => (xRs S (x4 + (1 : Int32))).bind fun v4 => if xOb h2 x2 12 = true then xqI (xM S mX13_regionLeft [.ref x2, .int v4] h2) xth fun v7 h6 => if xOb h6 x2 12 = true then xqI (xM S mX13_thrown [.ref x2] h6) xth fun v10 h9 => if v10 = v3 then (if ¬ v3 = 0 then (xden S mL_law 3482 [(0, .retAddr 11), (1, .ref x1), (2, .ref x2), (3, .ref x3), (4, .int x4)] [] h9) else ((xRl h9 x3 (0 : Int32)).bind fun v11 => if (lg_cmp v11 (v7.toInt64)) = 0 then (xden S mL_law 3482 [(0, .retAddr 11), (1, .ref x1), (2, .ref x2), (3, .ref x3), (4, .int x4)] [] h9) else (some (.inl (some (.int (0 : Int32))), h9, 0, 0)))) else (some (.inl (some (.int (0 : Int32))), h9, 0, 0)) else none else none) (xden S mL_law 2374 [(0, .retAddr 11), (1, .ref x1), (2, .ref x2), (3, .ref x3), (4, .int x4)] [] h) := by
  refine l_loc dL_law_2374 rfl rfl ?_
  refine l_loc dL_law_2375 rfl rfl ?_
  refine l_loc dL_law_2376 rfl rfl ?_
  refine l_ic dL_law_2378 kI_1 ?_
  refine l_pure dL_law_2379 rfl rfl ?_
  refine l_rs dL_law_2380 (fun v1 => ?_)
  refine l_loc dL_law_2381 rfl rfl ?_
  refine l_cI dL_law_2382 rfl rfl rfl (l_xs cl_14_309 ko_mL_regionLeft rfl rfl) rfl rfl nm_mL_regionLeft (xhE_th rfl) (fun v3 h2 => ?_)
  refine l_loc (al1 := [(5, .int v3), (0, .retAddr 11), (1, .ref x1), (2, .ref x2), (3, .ref x3), (4, .int x4)]) dL_law_2385 rfl rfl ?_
  refine l_loc dL_law_2387 rfl rfl ?_
  refine l_loc dL_law_2388 rfl rfl ?_
  refine l_loc dL_law_2389 rfl rfl ?_
  refine l_ic dL_law_2391 kI_1 ?_
  refine l_pure dL_law_2392 rfl rfl ?_
  refine l_rs dL_law_2393 (fun v4 => ?_)
  refine l_ob fun q5 => ?_
  refine l_cI dL_law_2394 rfl rfl rfl (l_xv cl_14_311 ko_mX13_regionLeft rfl rfl rfl q5) rfl rfl nm_mX13_regionLeft (xhE_th rfl) (fun v7 h6 => ?_)
  refine l_loc (al1 := [(6, .int v7), (5, .int v3), (0, .retAddr 11), (1, .ref x1), (2, .ref x2), (3, .ref x3), (4, .int x4)]) dL_law_2397 rfl rfl ?_
  refine l_loc dL_law_2399 rfl rfl ?_
  refine l_ob fun q8 => ?_
  refine l_cI dL_law_2400 rfl rfl rfl (l_xv cl_14_195 ko_mX13_thrown rfl rfl rfl q8) rfl rfl nm_mX13_thrown (xhE_th rfl) (fun v10 h9 => ?_)
  refine l_loc dL_law_2403 rfl rfl ?_
  refine l_ceq (t := 2410) dL_law_2405 rfl ?_ ?_
  · refine l_loc dL_law_2410 rfl rfl ?_
    refine l_ine (t := 2427) dL_law_2412 rfl ?_ ?_
    · refine l_goto (t := 3482) dL_law_2427 rfl ?_
      exact l_al rfl ⟨rfl, rfl, rfl, rfl, rfl, trivial⟩
    · refine l_loc dL_law_2415 rfl rfl ?_
      refine l_ic dL_law_2416 kI_0 ?_
      refine l_rl dL_law_2417 (fun v11 => ?_)
      refine l_loc dL_law_2418 rfl rfl ?_
      refine l_pure dL_law_2420 rfl rfl ?_
      refine l_pure dL_law_2421 rfl rfl ?_
      refine l_ieq (t := 2427) dL_law_2422 rfl ?_ ?_
      · refine l_goto (t := 3482) dL_law_2427 rfl ?_
        exact l_al rfl ⟨rfl, rfl, rfl, rfl, rfl, trivial⟩
      · refine l_ic dL_law_2425 kI_0 ?_
        exact l_iretn dL_law_2426 rfl (by decide)
  · refine l_ic dL_law_2408 kI_0 ?_
    exact l_iretn dL_law_2409 rfl (by decide)
set_option maxRecDepth 16000 in
theorem w_L_law_2430 (S : xS) (x1 : Nat) (x2 : Nat) (x3 : Nat) (x4 : Int32) (h : xH) : xle ((xRs S (x4 + (1 : Int32))).bind fun v1 => xqI (xM S mL_regionTop [.ref x1, .int v1, .ref x3] h) xth fun v3 h2 => (xRs S (x4 + (1 : Int32))).bind fun v4 => if xOb h2 x2 12 = true then xqI (xM S mX13_regionTop [.ref x2, .int v4] h2) xth fun v7 h6 => if xOb h6 x2 12 = true then xqI (xM S mX13_thrown [.ref x2] h6) xth fun v10 h9 => if v10 = v3 then (if ¬ v3 = 0 then (xden S mL_law 3482 [(0, .retAddr 11), (1, .ref x1), (2, .ref x2), (3, .ref x3), (4, .int x4)] [] h9) else ((xRl h9 x3 (0 : Int32)).bind fun v11 => if (lg_cmp v11 (v7.toInt64)) = 0 then (xden S mL_law 3482 [(0, .retAddr 11), (1, .ref x1), (2, .ref x2), (3, .ref x3), (4, .int x4)] [] h9) else (some (.inl (some (.int (0 : Int32))), h9, 0, 0)))) else (some (.inl (some (.int (0 : Int32))), h9, 0, 0)) else none else none) (xden S mL_law 2430 [(0, .retAddr 11), (1, .ref x1), (2, .ref x2), (3, .ref x3), (4, .int x4)] [] h) := by
  refine l_loc dL_law_2430 rfl rfl ?_
  refine l_loc dL_law_2431 rfl rfl ?_
  refine l_loc dL_law_2432 rfl rfl ?_
  refine l_ic dL_law_2434 kI_1 ?_
  refine l_pure dL_law_2435 rfl rfl ?_
  refine l_rs dL_law_2436 (fun v1 => ?_)
  refine l_loc dL_law_2437 rfl rfl ?_
  refine l_cI dL_law_2438 rfl rfl rfl (l_xs cl_14_312 ko_mL_regionTop rfl rfl) rfl rfl nm_mL_regionTop (xhE_th rfl) (fun v3 h2 => ?_)
  refine l_loc (al1 := [(5, .int v3), (0, .retAddr 11), (1, .ref x1), (2, .ref x2), (3, .ref x3), (4, .int x4)]) dL_law_2441 rfl rfl ?_
  refine l_loc dL_law_2443 rfl rfl ?_
  refine l_loc dL_law_2444 rfl rfl ?_
  refine l_loc dL_law_2445 rfl rfl ?_
  refine l_ic dL_law_2447 kI_1 ?_
  refine l_pure dL_law_2448 rfl rfl ?_
  refine l_rs dL_law_2449 (fun v4 => ?_)
  refine l_ob fun q5 => ?_
  refine l_cI dL_law_2450 rfl rfl rfl (l_xv cl_14_314 ko_mX13_regionTop rfl rfl rfl q5) rfl rfl nm_mX13_regionTop (xhE_th rfl) (fun v7 h6 => ?_)
  refine l_loc (al1 := [(6, .int v7), (5, .int v3), (0, .retAddr 11), (1, .ref x1), (2, .ref x2), (3, .ref x3), (4, .int x4)]) dL_law_2453 rfl rfl ?_
  refine l_loc dL_law_2455 rfl rfl ?_
  refine l_ob fun q8 => ?_
  refine l_cI dL_law_2456 rfl rfl rfl (l_xv cl_14_195 ko_mX13_thrown rfl rfl rfl q8) rfl rfl nm_mX13_thrown (xhE_th rfl) (fun v10 h9 => ?_)
  refine l_loc dL_law_2459 rfl rfl ?_
  refine l_ceq (t := 2466) dL_law_2461 rfl ?_ ?_
  · refine l_loc dL_law_2466 rfl rfl ?_
    refine l_ine (t := 2483) dL_law_2468 rfl ?_ ?_
    · refine l_goto (t := 3482) dL_law_2483 rfl ?_
      exact l_al rfl ⟨rfl, rfl, rfl, rfl, rfl, trivial⟩
    · refine l_loc dL_law_2471 rfl rfl ?_
      refine l_ic dL_law_2472 kI_0 ?_
      refine l_rl dL_law_2473 (fun v11 => ?_)
      refine l_loc dL_law_2474 rfl rfl ?_
      refine l_pure dL_law_2476 rfl rfl ?_
      refine l_pure dL_law_2477 rfl rfl ?_
      refine l_ieq (t := 2483) dL_law_2478 rfl ?_ ?_
      · refine l_goto (t := 3482) dL_law_2483 rfl ?_
        exact l_al rfl ⟨rfl, rfl, rfl, rfl, rfl, trivial⟩
      · refine l_ic dL_law_2481 kI_0 ?_
        exact l_iretn dL_law_2482 rfl (by decide)
  · refine l_ic dL_law_2464 kI_0 ?_
    exact l_iretn dL_law_2465 rfl (by decide)

theorem kI_7 : Int32.ofInt (7) = (7 : Int32) := by decide
set_option maxRecDepth 16000 in
theorem w_L_law_3034 (S : xS) (x1 : Nat) (x2 : Nat) (x3 : Nat) (x4 : Int32) (h : xH) : xle ((xRs S (x4 + (1 : Int32))).bind fun v1 => xqI (xM S mL_changePixels [.ref x1, .int v1, .ref x3] h) xth fun v3 h2 => (xRs S (x4 + (1 : Int32))).bind fun v4 => if xOb h2 x2 12 = true then xqI (xM S mX13_changePixels [.ref x2, .int v4] h2) xth fun v7 h6 => if xOb h6 x2 12 = true then xqI (xM S mX13_thrown [.ref x2] h6) xth fun v10 h9 => if v10 = v3 then (if ¬ v3 = 0 then (xden S mL_law 3482 [(0, .retAddr 11), (1, .ref x1), (2, .ref x2), (3, .ref x3), (4, .int x4)] [] h9) else ((xRl h9 x3 (0 : Int32)).bind fun v11 => if (lg_cmp v11 (v7.toInt64)) = 0 then (xden S mL_law 3482 [(0, .retAddr 11), (1, .ref x1), (2, .ref x2), (3, .ref x3), (4, .int x4)] [] h9) else (some (.inl (some (.int (0 : Int32))), h9, 0, 0)))) else (some (.inl (some (.int (0 : Int32))), h9, 0, 0)) else none else none) (xden S mL_law 3034 [(0, .retAddr 11), (1, .ref x1), (2, .ref x2), (3, .ref x3), (4, .int x4)] [] h) := by
  refine l_loc dL_law_3034 rfl rfl ?_
  refine l_loc dL_law_3035 rfl rfl ?_
  refine l_loc dL_law_3036 rfl rfl ?_
  refine l_ic dL_law_3038 kI_1 ?_
  refine l_pure dL_law_3039 rfl rfl ?_
  refine l_rs dL_law_3040 (fun v1 => ?_)
  refine l_loc dL_law_3041 rfl rfl ?_
  refine l_cI dL_law_3042 rfl rfl rfl (l_xs cl_14_345 ko_mL_changePixels rfl rfl) rfl rfl nm_mL_changePixels (xhE_th rfl) (fun v3 h2 => ?_)
  refine l_loc (al1 := [(5, .int v3), (0, .retAddr 11), (1, .ref x1), (2, .ref x2), (3, .ref x3), (4, .int x4)]) dL_law_3045 rfl rfl ?_
  refine l_loc dL_law_3047 rfl rfl ?_
  refine l_loc dL_law_3048 rfl rfl ?_
  refine l_loc dL_law_3049 rfl rfl ?_
  refine l_ic dL_law_3051 kI_1 ?_
  refine l_pure dL_law_3052 rfl rfl ?_
  refine l_rs dL_law_3053 (fun v4 => ?_)
  refine l_ob fun q5 => ?_
  refine l_cI dL_law_3054 rfl rfl rfl (l_xv cl_14_347 ko_mX13_changePixels rfl rfl rfl q5) rfl rfl nm_mX13_changePixels (xhE_th rfl) (fun v7 h6 => ?_)
  refine l_loc (al1 := [(6, .int v7), (5, .int v3), (0, .retAddr 11), (1, .ref x1), (2, .ref x2), (3, .ref x3), (4, .int x4)]) dL_law_3057 rfl rfl ?_
  refine l_loc dL_law_3059 rfl rfl ?_
  refine l_ob fun q8 => ?_
  refine l_cI dL_law_3060 rfl rfl rfl (l_xv cl_14_195 ko_mX13_thrown rfl rfl rfl q8) rfl rfl nm_mX13_thrown (xhE_th rfl) (fun v10 h9 => ?_)
  refine l_loc dL_law_3063 rfl rfl ?_
  refine l_ceq (t := 3070) dL_law_3065 rfl ?_ ?_
  · refine l_loc dL_law_3070 rfl rfl ?_
    refine l_ine (t := 3087) dL_law_3072 rfl ?_ ?_
    · refine l_goto (t := 3482) dL_law_3087 rfl ?_
      exact l_al rfl ⟨rfl, rfl, rfl, rfl, rfl, trivial⟩
    · refine l_loc dL_law_3075 rfl rfl ?_
      refine l_ic dL_law_3076 kI_0 ?_
      refine l_rl dL_law_3077 (fun v11 => ?_)
      refine l_loc dL_law_3078 rfl rfl ?_
      refine l_pure dL_law_3080 rfl rfl ?_
      refine l_pure dL_law_3081 rfl rfl ?_
      refine l_ieq (t := 3087) dL_law_3082 rfl ?_ ?_
      · refine l_goto (t := 3482) dL_law_3087 rfl ?_
        exact l_al rfl ⟨rfl, rfl, rfl, rfl, rfl, trivial⟩
      · refine l_ic dL_law_3085 kI_0 ?_
        exact l_iretn dL_law_3086 rfl (by decide)
  · refine l_ic dL_law_3068 kI_0 ?_
    exact l_iretn dL_law_3069 rfl (by decide)
set_option maxRecDepth 16000 in
theorem w_L_law_3090 (S : xS) (x1 : Nat) (x2 : Nat) (x3 : Nat) (x4 : Int32) (h : xH) : xle ((xRs S (x4 + (1 : Int32))).bind fun v1 => xqI (xM S mL_changeLine [.ref x1, .int v1, .ref x3] h) xth fun v3 h2 => (xRs S (x4 + (1 : Int32))).bind fun v4 => if xOb h2 x2 12 = true then xqI (xM S mX13_changeLine [.ref x2, .int v4] h2) xth fun v7 h6 => if xOb h6 x2 12 = true then xqI (xM S mX13_thrown [.ref x2] h6) xth fun v10 h9 => if v10 = v3 then (if ¬ v3 = 0 then (xden S mL_law 3482 [(0, .retAddr 11), (1, .ref x1), (2, .ref x2), (3, .ref x3), (4, .int x4)] [] h9) else ((xRl h9 x3 (0 : Int32)).bind fun v11 => if (lg_cmp v11 (v7.toInt64)) = 0 then (xden S mL_law 3482 [(0, .retAddr 11), (1, .ref x1), (2, .ref x2), (3, .ref x3), (4, .int x4)] [] h9) else (some (.inl (some (.int (0 : Int32))), h9, 0, 0)))) else (some (.inl (some (.int (0 : Int32))), h9, 0, 0)) else none else none) (xden S mL_law 3090 [(0, .retAddr 11), (1, .ref x1), (2, .ref x2), (3, .ref x3), (4, .int x4)] [] h) := by
  refine l_loc dL_law_3090 rfl rfl ?_
  refine l_loc dL_law_3091 rfl rfl ?_
  refine l_loc dL_law_3092 rfl rfl ?_
  refine l_ic dL_law_3094 kI_1 ?_
  refine l_pure dL_law_3095 rfl rfl ?_
  refine l_rs dL_law_3096 (fun v1 => ?_)
  refine l_loc dL_law_3097 rfl rfl ?_
  refine l_cI dL_law_3098 rfl rfl rfl (l_xs cl_14_348 ko_mL_changeLine rfl rfl) rfl rfl nm_mL_changeLine (xhE_th rfl) (fun v3 h2 => ?_)
  refine l_loc (al1 := [(5, .int v3), (0, .retAddr 11), (1, .ref x1), (2, .ref x2), (3, .ref x3), (4, .int x4)]) dL_law_3101 rfl rfl ?_
  refine l_loc dL_law_3103 rfl rfl ?_
  refine l_loc dL_law_3104 rfl rfl ?_
  refine l_loc dL_law_3105 rfl rfl ?_
  refine l_ic dL_law_3107 kI_1 ?_
  refine l_pure dL_law_3108 rfl rfl ?_
  refine l_rs dL_law_3109 (fun v4 => ?_)
  refine l_ob fun q5 => ?_
  refine l_cI dL_law_3110 rfl rfl rfl (l_xv cl_14_350 ko_mX13_changeLine rfl rfl rfl q5) rfl rfl nm_mX13_changeLine (xhE_th rfl) (fun v7 h6 => ?_)
  refine l_loc (al1 := [(6, .int v7), (5, .int v3), (0, .retAddr 11), (1, .ref x1), (2, .ref x2), (3, .ref x3), (4, .int x4)]) dL_law_3113 rfl rfl ?_
  refine l_loc dL_law_3115 rfl rfl ?_
  refine l_ob fun q8 => ?_
  refine l_cI dL_law_3116 rfl rfl rfl (l_xv cl_14_195 ko_mX13_thrown rfl rfl rfl q8) rfl rfl nm_mX13_thrown (xhE_th rfl) (fun v10 h9 => ?_)
  refine l_loc dL_law_3119 rfl rfl ?_
  refine l_ceq (t := 3126) dL_law_3121 rfl ?_ ?_
  · refine l_loc dL_law_3126 rfl rfl ?_
    refine l_ine (t := 3143) dL_law_3128 rfl ?_ ?_
    · refine l_goto (t := 3482) dL_law_3143 rfl ?_
      exact l_al rfl ⟨rfl, rfl, rfl, rfl, rfl, trivial⟩
    · refine l_loc dL_law_3131 rfl rfl ?_
      refine l_ic dL_law_3132 kI_0 ?_
      refine l_rl dL_law_3133 (fun v11 => ?_)
      refine l_loc dL_law_3134 rfl rfl ?_
      refine l_pure dL_law_3136 rfl rfl ?_
      refine l_pure dL_law_3137 rfl rfl ?_
      refine l_ieq (t := 3143) dL_law_3138 rfl ?_ ?_
      · refine l_goto (t := 3482) dL_law_3143 rfl ?_
        exact l_al rfl ⟨rfl, rfl, rfl, rfl, rfl, trivial⟩
      · refine l_ic dL_law_3141 kI_0 ?_
        exact l_iretn dL_law_3142 rfl (by decide)
  · refine l_ic dL_law_3124 kI_0 ?_
    exact l_iretn dL_law_3125 rfl (by decide)
set_option maxRecDepth 16000 in
theorem w_L_law_3146 (S : xS) (x1 : Nat) (x2 : Nat) (x3 : Nat) (x4 : Int32) (h : xH) : xle ((xRs S (x4 + (1 : Int32))).bind fun v1 => xqI (xM S mL_reportChar [.ref x1, .int v1, .ref x3] h) xth fun v3 h2 => (xRs S (x4 + (1 : Int32))).bind fun v4 => if xOb h2 x2 12 = true then xqI (xM S mX13_reportChar [.ref x2, .int v4] h2) xth fun v7 h6 => if xOb h6 x2 12 = true then xqI (xM S mX13_thrown [.ref x2] h6) xth fun v10 h9 => if v10 = v3 then (if ¬ v3 = 0 then (xden S mL_law 3482 [(0, .retAddr 11), (1, .ref x1), (2, .ref x2), (3, .ref x3), (4, .int x4)] [] h9) else ((xRl h9 x3 (0 : Int32)).bind fun v11 => if (lg_cmp v11 (v7.toInt64)) = 0 then (xden S mL_law 3482 [(0, .retAddr 11), (1, .ref x1), (2, .ref x2), (3, .ref x3), (4, .int x4)] [] h9) else (some (.inl (some (.int (0 : Int32))), h9, 0, 0)))) else (some (.inl (some (.int (0 : Int32))), h9, 0, 0)) else none else none) (xden S mL_law 3146 [(0, .retAddr 11), (1, .ref x1), (2, .ref x2), (3, .ref x3), (4, .int x4)] [] h) := by
  refine l_loc dL_law_3146 rfl rfl ?_
  refine l_loc dL_law_3147 rfl rfl ?_
  refine l_loc dL_law_3148 rfl rfl ?_
  refine l_ic dL_law_3150 kI_1 ?_
  refine l_pure dL_law_3151 rfl rfl ?_
  refine l_rs dL_law_3152 (fun v1 => ?_)
  refine l_loc dL_law_3153 rfl rfl ?_
  refine l_cI dL_law_3154 rfl rfl rfl (l_xs cl_14_351 ko_mL_reportChar rfl rfl) rfl rfl nm_mL_reportChar (xhE_th rfl) (fun v3 h2 => ?_)
  refine l_loc (al1 := [(5, .int v3), (0, .retAddr 11), (1, .ref x1), (2, .ref x2), (3, .ref x3), (4, .int x4)]) dL_law_3157 rfl rfl ?_
  refine l_loc dL_law_3159 rfl rfl ?_
  refine l_loc dL_law_3160 rfl rfl ?_
  refine l_loc dL_law_3161 rfl rfl ?_
  refine l_ic dL_law_3163 kI_1 ?_
  refine l_pure dL_law_3164 rfl rfl ?_
  refine l_rs dL_law_3165 (fun v4 => ?_)
  refine l_ob fun q5 => ?_
  refine l_cI dL_law_3166 rfl rfl rfl (l_xv cl_14_353 ko_mX13_reportChar rfl rfl rfl q5) rfl rfl nm_mX13_reportChar (xhE_th rfl) (fun v7 h6 => ?_)
  refine l_loc (al1 := [(6, .int v7), (5, .int v3), (0, .retAddr 11), (1, .ref x1), (2, .ref x2), (3, .ref x3), (4, .int x4)]) dL_law_3169 rfl rfl ?_
  refine l_loc dL_law_3171 rfl rfl ?_
  refine l_ob fun q8 => ?_
  refine l_cI dL_law_3172 rfl rfl rfl (l_xv cl_14_195 ko_mX13_thrown rfl rfl rfl q8) rfl rfl nm_mX13_thrown (xhE_th rfl) (fun v10 h9 => ?_)
  refine l_loc dL_law_3175 rfl rfl ?_
  refine l_ceq (t := 3182) dL_law_3177 rfl ?_ ?_
  · refine l_loc dL_law_3182 rfl rfl ?_
    refine l_ine (t := 3199) dL_law_3184 rfl ?_ ?_
    · refine l_goto (t := 3482) dL_law_3199 rfl ?_
      exact l_al rfl ⟨rfl, rfl, rfl, rfl, rfl, trivial⟩
    · refine l_loc dL_law_3187 rfl rfl ?_
      refine l_ic dL_law_3188 kI_0 ?_
      refine l_rl dL_law_3189 (fun v11 => ?_)
      refine l_loc dL_law_3190 rfl rfl ?_
      refine l_pure dL_law_3192 rfl rfl ?_
      refine l_pure dL_law_3193 rfl rfl ?_
      refine l_ieq (t := 3199) dL_law_3194 rfl ?_ ?_
      · refine l_goto (t := 3482) dL_law_3199 rfl ?_
        exact l_al rfl ⟨rfl, rfl, rfl, rfl, rfl, trivial⟩
      · refine l_ic dL_law_3197 kI_0 ?_
        exact l_iretn dL_law_3198 rfl (by decide)
  · refine l_ic dL_law_3180 kI_0 ?_
    exact l_iretn dL_law_3181 rfl (by decide)
set_option maxRecDepth 16000 in
theorem w_L_law_3202 (S : xS) (x1 : Nat) (x2 : Nat) (x3 : Nat) (x4 : Int32) (h : xH) : xle ((xRs S (x4 + (1 : Int32))).bind fun v1 => xqI (xM S mL_learn [.ref x1, .int v1, .ref x3] h) xth fun v3 h2 => (xRs S (x4 + (1 : Int32))).bind fun v4 => if xOb h2 x2 12 = true then xqI (xM S mX13_learn [.ref x2, .int v4] h2) xth fun v7 h6 => if xOb h6 x2 12 = true then xqI (xM S mX13_thrown [.ref x2] h6) xth fun v10 h9 => if v10 = v3 then (if ¬ v3 = 0 then (xden S mL_law 3482 [(0, .retAddr 11), (1, .ref x1), (2, .ref x2), (3, .ref x3), (4, .int x4)] [] h9) else ((xRl h9 x3 (0 : Int32)).bind fun v11 => if (lg_cmp v11 (v7.toInt64)) = 0 then (xden S mL_law 3482 [(0, .retAddr 11), (1, .ref x1), (2, .ref x2), (3, .ref x3), (4, .int x4)] [] h9) else (some (.inl (some (.int (0 : Int32))), h9, 0, 0)))) else (some (.inl (some (.int (0 : Int32))), h9, 0, 0)) else none else none) (xden S mL_law 3202 [(0, .retAddr 11), (1, .ref x1), (2, .ref x2), (3, .ref x3), (4, .int x4)] [] h) := by
  refine l_loc dL_law_3202 rfl rfl ?_
  refine l_loc dL_law_3203 rfl rfl ?_
  refine l_loc dL_law_3204 rfl rfl ?_
  refine l_ic dL_law_3206 kI_1 ?_
  refine l_pure dL_law_3207 rfl rfl ?_
  refine l_rs dL_law_3208 (fun v1 => ?_)
  refine l_loc dL_law_3209 rfl rfl ?_
  refine l_cI dL_law_3210 rfl rfl rfl (l_xs cl_14_354 ko_mL_learn rfl rfl) rfl rfl nm_mL_learn (xhE_th rfl) (fun v3 h2 => ?_)
  refine l_loc (al1 := [(5, .int v3), (0, .retAddr 11), (1, .ref x1), (2, .ref x2), (3, .ref x3), (4, .int x4)]) dL_law_3213 rfl rfl ?_
  refine l_loc dL_law_3215 rfl rfl ?_
  refine l_loc dL_law_3216 rfl rfl ?_
  refine l_loc dL_law_3217 rfl rfl ?_
  refine l_ic dL_law_3219 kI_1 ?_
  refine l_pure dL_law_3220 rfl rfl ?_
  refine l_rs dL_law_3221 (fun v4 => ?_)
  refine l_ob fun q5 => ?_
  refine l_cI dL_law_3222 rfl rfl rfl (l_xv cl_14_356 ko_mX13_learn rfl rfl rfl q5) rfl rfl nm_mX13_learn (xhE_th rfl) (fun v7 h6 => ?_)
  refine l_loc (al1 := [(6, .int v7), (5, .int v3), (0, .retAddr 11), (1, .ref x1), (2, .ref x2), (3, .ref x3), (4, .int x4)]) dL_law_3225 rfl rfl ?_
  refine l_loc dL_law_3227 rfl rfl ?_
  refine l_ob fun q8 => ?_
  refine l_cI dL_law_3228 rfl rfl rfl (l_xv cl_14_195 ko_mX13_thrown rfl rfl rfl q8) rfl rfl nm_mX13_thrown (xhE_th rfl) (fun v10 h9 => ?_)
  refine l_loc dL_law_3231 rfl rfl ?_
  refine l_ceq (t := 3238) dL_law_3233 rfl ?_ ?_
  · refine l_loc dL_law_3238 rfl rfl ?_
    refine l_ine (t := 3255) dL_law_3240 rfl ?_ ?_
    · refine l_goto (t := 3482) dL_law_3255 rfl ?_
      exact l_al rfl ⟨rfl, rfl, rfl, rfl, rfl, trivial⟩
    · refine l_loc dL_law_3243 rfl rfl ?_
      refine l_ic dL_law_3244 kI_0 ?_
      refine l_rl dL_law_3245 (fun v11 => ?_)
      refine l_loc dL_law_3246 rfl rfl ?_
      refine l_pure dL_law_3248 rfl rfl ?_
      refine l_pure dL_law_3249 rfl rfl ?_
      refine l_ieq (t := 3255) dL_law_3250 rfl ?_ ?_
      · refine l_goto (t := 3482) dL_law_3255 rfl ?_
        exact l_al rfl ⟨rfl, rfl, rfl, rfl, rfl, trivial⟩
      · refine l_ic dL_law_3253 kI_0 ?_
        exact l_iretn dL_law_3254 rfl (by decide)
  · refine l_ic dL_law_3236 kI_0 ?_
    exact l_iretn dL_law_3237 rfl (by decide)
set_option maxRecDepth 16000 in
theorem w_L_law_3258 (S : xS) (x1 : Nat) (x2 : Nat) (x3 : Nat) (x4 : Int32) (h : xH) : xle ((xRs S (x4 + (1 : Int32))).bind fun v1 => xqI (xM S mL_stampOf [.ref x1, .int v1, .ref x3] h) xth fun v3 h2 => (xRs S (x4 + (1 : Int32))).bind fun v4 => if xOb h2 x2 12 = true then xqI (xM S mX13_stampOf [.ref x2, .int v4] h2) xth fun v7 h6 => if xOb h6 x2 12 = true then xqI (xM S mX13_thrown [.ref x2] h6) xth fun v10 h9 => if v10 = v3 then (if ¬ v3 = 0 then (xden S mL_law 3482 [(0, .retAddr 11), (1, .ref x1), (2, .ref x2), (3, .ref x3), (4, .int x4)] [] h9) else ((xRl h9 x3 (0 : Int32)).bind fun v11 => if (lg_cmp v11 (v7.toInt64)) = 0 then (xden S mL_law 3482 [(0, .retAddr 11), (1, .ref x1), (2, .ref x2), (3, .ref x3), (4, .int x4)] [] h9) else (some (.inl (some (.int (0 : Int32))), h9, 0, 0)))) else (some (.inl (some (.int (0 : Int32))), h9, 0, 0)) else none else none) (xden S mL_law 3258 [(0, .retAddr 11), (1, .ref x1), (2, .ref x2), (3, .ref x3), (4, .int x4)] [] h) := by
  refine l_loc dL_law_3258 rfl rfl ?_
  refine l_loc dL_law_3259 rfl rfl ?_
  refine l_loc dL_law_3260 rfl rfl ?_
  refine l_ic dL_law_3262 kI_1 ?_
  refine l_pure dL_law_3263 rfl rfl ?_
  refine l_rs dL_law_3264 (fun v1 => ?_)
  refine l_loc dL_law_3265 rfl rfl ?_
  refine l_cI dL_law_3266 rfl rfl rfl (l_xs cl_14_357 ko_mL_stampOf rfl rfl) rfl rfl nm_mL_stampOf (xhE_th rfl) (fun v3 h2 => ?_)
  refine l_loc (al1 := [(5, .int v3), (0, .retAddr 11), (1, .ref x1), (2, .ref x2), (3, .ref x3), (4, .int x4)]) dL_law_3269 rfl rfl ?_
  refine l_loc dL_law_3271 rfl rfl ?_
  refine l_loc dL_law_3272 rfl rfl ?_
  refine l_loc dL_law_3273 rfl rfl ?_
  refine l_ic dL_law_3275 kI_1 ?_
  refine l_pure dL_law_3276 rfl rfl ?_
  refine l_rs dL_law_3277 (fun v4 => ?_)
  refine l_ob fun q5 => ?_
  refine l_cI dL_law_3278 rfl rfl rfl (l_xv cl_14_359 ko_mX13_stampOf rfl rfl rfl q5) rfl rfl nm_mX13_stampOf (xhE_th rfl) (fun v7 h6 => ?_)
  refine l_loc (al1 := [(6, .int v7), (5, .int v3), (0, .retAddr 11), (1, .ref x1), (2, .ref x2), (3, .ref x3), (4, .int x4)]) dL_law_3281 rfl rfl ?_
  refine l_loc dL_law_3283 rfl rfl ?_
  refine l_ob fun q8 => ?_
  refine l_cI dL_law_3284 rfl rfl rfl (l_xv cl_14_195 ko_mX13_thrown rfl rfl rfl q8) rfl rfl nm_mX13_thrown (xhE_th rfl) (fun v10 h9 => ?_)
  refine l_loc dL_law_3287 rfl rfl ?_
  refine l_ceq (t := 3294) dL_law_3289 rfl ?_ ?_
  · refine l_loc dL_law_3294 rfl rfl ?_
    refine l_ine (t := 3311) dL_law_3296 rfl ?_ ?_
    · refine l_goto (t := 3482) dL_law_3311 rfl ?_
      exact l_al rfl ⟨rfl, rfl, rfl, rfl, rfl, trivial⟩
    · refine l_loc dL_law_3299 rfl rfl ?_
      refine l_ic dL_law_3300 kI_0 ?_
      refine l_rl dL_law_3301 (fun v11 => ?_)
      refine l_loc dL_law_3302 rfl rfl ?_
      refine l_pure dL_law_3304 rfl rfl ?_
      refine l_pure dL_law_3305 rfl rfl ?_
      refine l_ieq (t := 3311) dL_law_3306 rfl ?_ ?_
      · refine l_goto (t := 3482) dL_law_3311 rfl ?_
        exact l_al rfl ⟨rfl, rfl, rfl, rfl, rfl, trivial⟩
      · refine l_ic dL_law_3309 kI_0 ?_
        exact l_iretn dL_law_3310 rfl (by decide)
  · refine l_ic dL_law_3292 kI_0 ?_
    exact l_iretn dL_law_3293 rfl (by decide)
set_option maxRecDepth 16000 in
theorem w_L_law_3314 (S : xS) (x1 : Nat) (x2 : Nat) (x3 : Nat) (x4 : Int32) (h : xH) : xle ((xRs S (x4 + (1 : Int32))).bind fun v1 => xqI (xM S mL_forgetStamp [.ref x1, .int v1, .ref x3] h) xth fun v3 h2 => (xRs S (x4 + (1 : Int32))).bind fun v4 => if xOb h2 x2 12 = true then xqI (xM S mX13_forgetStamp [.ref x2, .int v4] h2) xth fun v7 h6 => if xOb h6 x2 12 = true then xqI (xM S mX13_thrown [.ref x2] h6) xth fun v10 h9 => if v10 = v3 then (if ¬ v3 = 0 then (xden S mL_law 3482 [(0, .retAddr 11), (1, .ref x1), (2, .ref x2), (3, .ref x3), (4, .int x4)] [] h9) else ((xRl h9 x3 (0 : Int32)).bind fun v11 => if (lg_cmp v11 (v7.toInt64)) = 0 then (xden S mL_law 3482 [(0, .retAddr 11), (1, .ref x1), (2, .ref x2), (3, .ref x3), (4, .int x4)] [] h9) else (some (.inl (some (.int (0 : Int32))), h9, 0, 0)))) else (some (.inl (some (.int (0 : Int32))), h9, 0, 0)) else none else none) (xden S mL_law 3314 [(0, .retAddr 11), (1, .ref x1), (2, .ref x2), (3, .ref x3), (4, .int x4)] [] h) := by
  refine l_loc dL_law_3314 rfl rfl ?_
  refine l_loc dL_law_3315 rfl rfl ?_
  refine l_loc dL_law_3316 rfl rfl ?_
  refine l_ic dL_law_3318 kI_1 ?_
  refine l_pure dL_law_3319 rfl rfl ?_
  refine l_rs dL_law_3320 (fun v1 => ?_)
  refine l_loc dL_law_3321 rfl rfl ?_
  refine l_cI dL_law_3322 rfl rfl rfl (l_xs cl_14_360 ko_mL_forgetStamp rfl rfl) rfl rfl nm_mL_forgetStamp (xhE_th rfl) (fun v3 h2 => ?_)
  refine l_loc (al1 := [(5, .int v3), (0, .retAddr 11), (1, .ref x1), (2, .ref x2), (3, .ref x3), (4, .int x4)]) dL_law_3325 rfl rfl ?_
  refine l_loc dL_law_3327 rfl rfl ?_
  refine l_loc dL_law_3328 rfl rfl ?_
  refine l_loc dL_law_3329 rfl rfl ?_
  refine l_ic dL_law_3331 kI_1 ?_
  refine l_pure dL_law_3332 rfl rfl ?_
  refine l_rs dL_law_3333 (fun v4 => ?_)
  refine l_ob fun q5 => ?_
  refine l_cI dL_law_3334 rfl rfl rfl (l_xv cl_14_362 ko_mX13_forgetStamp rfl rfl rfl q5) rfl rfl nm_mX13_forgetStamp (xhE_th rfl) (fun v7 h6 => ?_)
  refine l_loc (al1 := [(6, .int v7), (5, .int v3), (0, .retAddr 11), (1, .ref x1), (2, .ref x2), (3, .ref x3), (4, .int x4)]) dL_law_3337 rfl rfl ?_
  refine l_loc dL_law_3339 rfl rfl ?_
  refine l_ob fun q8 => ?_
  refine l_cI dL_law_3340 rfl rfl rfl (l_xv cl_14_195 ko_mX13_thrown rfl rfl rfl q8) rfl rfl nm_mX13_thrown (xhE_th rfl) (fun v10 h9 => ?_)
  refine l_loc dL_law_3343 rfl rfl ?_
  refine l_ceq (t := 3350) dL_law_3345 rfl ?_ ?_
  · refine l_loc dL_law_3350 rfl rfl ?_
    refine l_ine (t := 3367) dL_law_3352 rfl ?_ ?_
    · refine l_goto (t := 3482) dL_law_3367 rfl ?_
      exact l_al rfl ⟨rfl, rfl, rfl, rfl, rfl, trivial⟩
    · refine l_loc dL_law_3355 rfl rfl ?_
      refine l_ic dL_law_3356 kI_0 ?_
      refine l_rl dL_law_3357 (fun v11 => ?_)
      refine l_loc dL_law_3358 rfl rfl ?_
      refine l_pure dL_law_3360 rfl rfl ?_
      refine l_pure dL_law_3361 rfl rfl ?_
      refine l_ieq (t := 3367) dL_law_3362 rfl ?_ ?_
      · refine l_goto (t := 3482) dL_law_3367 rfl ?_
        exact l_al rfl ⟨rfl, rfl, rfl, rfl, rfl, trivial⟩
      · refine l_ic dL_law_3365 kI_0 ?_
        exact l_iretn dL_law_3366 rfl (by decide)
  · refine l_ic dL_law_3348 kI_0 ?_
    exact l_iretn dL_law_3349 rfl (by decide)
set_option maxRecDepth 16000 in
theorem w_L_law_3370 (S : xS) (x1 : Nat) (x2 : Nat) (x3 : Nat) (x4 : Int32) (h : xH) : xle ((xRs S (x4 + (1 : Int32))).bind fun v1 => xqI (xM S mL_accept [.ref x1, .int v1, .ref x3] h) xth fun v3 h2 => (xRs S (x4 + (1 : Int32))).bind fun v4 => if xOb h2 x2 12 = true then xqI (xM S mX13_accept [.ref x2, .int v4] h2) xth fun v7 h6 => if xOb h6 x2 12 = true then xqI (xM S mX13_thrown [.ref x2] h6) xth fun v10 h9 => if v10 = v3 then (if ¬ v3 = 0 then (xden S mL_law 3482 [(0, .retAddr 11), (1, .ref x1), (2, .ref x2), (3, .ref x3), (4, .int x4)] [] h9) else ((xRl h9 x3 (0 : Int32)).bind fun v11 => if (lg_cmp v11 (v7.toInt64)) = 0 then (xden S mL_law 3482 [(0, .retAddr 11), (1, .ref x1), (2, .ref x2), (3, .ref x3), (4, .int x4)] [] h9) else (some (.inl (some (.int (0 : Int32))), h9, 0, 0)))) else (some (.inl (some (.int (0 : Int32))), h9, 0, 0)) else none else none) (xden S mL_law 3370 [(0, .retAddr 11), (1, .ref x1), (2, .ref x2), (3, .ref x3), (4, .int x4)] [] h) := by
  refine l_loc dL_law_3370 rfl rfl ?_
  refine l_loc dL_law_3371 rfl rfl ?_
  refine l_loc dL_law_3372 rfl rfl ?_
  refine l_ic dL_law_3374 kI_1 ?_
  refine l_pure dL_law_3375 rfl rfl ?_
  refine l_rs dL_law_3376 (fun v1 => ?_)
  refine l_loc dL_law_3377 rfl rfl ?_
  refine l_cI dL_law_3378 rfl rfl rfl (l_xs cl_14_363 ko_mL_accept rfl rfl) rfl rfl nm_mL_accept (xhE_th rfl) (fun v3 h2 => ?_)
  refine l_loc (al1 := [(5, .int v3), (0, .retAddr 11), (1, .ref x1), (2, .ref x2), (3, .ref x3), (4, .int x4)]) dL_law_3381 rfl rfl ?_
  refine l_loc dL_law_3383 rfl rfl ?_
  refine l_loc dL_law_3384 rfl rfl ?_
  refine l_loc dL_law_3385 rfl rfl ?_
  refine l_ic dL_law_3387 kI_1 ?_
  refine l_pure dL_law_3388 rfl rfl ?_
  refine l_rs dL_law_3389 (fun v4 => ?_)
  refine l_ob fun q5 => ?_
  refine l_cI dL_law_3390 rfl rfl rfl (l_xv cl_14_365 ko_mX13_accept rfl rfl rfl q5) rfl rfl nm_mX13_accept (xhE_th rfl) (fun v7 h6 => ?_)
  refine l_loc (al1 := [(6, .int v7), (5, .int v3), (0, .retAddr 11), (1, .ref x1), (2, .ref x2), (3, .ref x3), (4, .int x4)]) dL_law_3393 rfl rfl ?_
  refine l_loc dL_law_3395 rfl rfl ?_
  refine l_ob fun q8 => ?_
  refine l_cI dL_law_3396 rfl rfl rfl (l_xv cl_14_195 ko_mX13_thrown rfl rfl rfl q8) rfl rfl nm_mX13_thrown (xhE_th rfl) (fun v10 h9 => ?_)
  refine l_loc dL_law_3399 rfl rfl ?_
  refine l_ceq (t := 3406) dL_law_3401 rfl ?_ ?_
  · refine l_loc dL_law_3406 rfl rfl ?_
    refine l_ine (t := 3423) dL_law_3408 rfl ?_ ?_
    · refine l_goto (t := 3482) dL_law_3423 rfl ?_
      exact l_al rfl ⟨rfl, rfl, rfl, rfl, rfl, trivial⟩
    · refine l_loc dL_law_3411 rfl rfl ?_
      refine l_ic dL_law_3412 kI_0 ?_
      refine l_rl dL_law_3413 (fun v11 => ?_)
      refine l_loc dL_law_3414 rfl rfl ?_
      refine l_pure dL_law_3416 rfl rfl ?_
      refine l_pure dL_law_3417 rfl rfl ?_
      refine l_ieq (t := 3423) dL_law_3418 rfl ?_ ?_
      · refine l_goto (t := 3482) dL_law_3423 rfl ?_
        exact l_al rfl ⟨rfl, rfl, rfl, rfl, rfl, trivial⟩
      · refine l_ic dL_law_3421 kI_0 ?_
        exact l_iretn dL_law_3422 rfl (by decide)
  · refine l_ic dL_law_3404 kI_0 ?_
    exact l_iretn dL_law_3405 rfl (by decide)
set_option maxRecDepth 16000 in
theorem w_L_law_3426 (S : xS) (x1 : Nat) (x2 : Nat) (x3 : Nat) (x4 : Int32) (h : xH) : xle ((xRs S (x4 + (1 : Int32))).bind fun v1 => xqI (xM S mL_leastNoise [.ref x1, .int v1, .ref x3] h) xth fun v3 h2 => (xRs S (x4 + (1 : Int32))).bind fun v4 => if xOb h2 x2 12 = true then xqI (xM S mX13_leastNoise [.ref x2, .int v4] h2) xth fun v7 h6 => if xOb h6 x2 12 = true then xqI (xM S mX13_thrown [.ref x2] h6) xth fun v10 h9 => if v10 = v3 then (if ¬ v3 = 0 then (xden S mL_law 3482 [(0, .retAddr 11), (1, .ref x1), (2, .ref x2), (3, .ref x3), (4, .int x4)] [] h9) else ((xRl h9 x3 (0 : Int32)).bind fun v11 => if (lg_cmp v11 (v7.toInt64)) = 0 then (xden S mL_law 3482 [(0, .retAddr 11), (1, .ref x1), (2, .ref x2), (3, .ref x3), (4, .int x4)] [] h9) else (some (.inl (some (.int (0 : Int32))), h9, 0, 0)))) else (some (.inl (some (.int (0 : Int32))), h9, 0, 0)) else none else none) (xden S mL_law 3426 [(0, .retAddr 11), (1, .ref x1), (2, .ref x2), (3, .ref x3), (4, .int x4)] [] h) := by
  refine l_loc dL_law_3426 rfl rfl ?_
  refine l_loc dL_law_3427 rfl rfl ?_
  refine l_loc dL_law_3428 rfl rfl ?_
  refine l_ic dL_law_3430 kI_1 ?_
  refine l_pure dL_law_3431 rfl rfl ?_
  refine l_rs dL_law_3432 (fun v1 => ?_)
  refine l_loc dL_law_3433 rfl rfl ?_
  refine l_cI dL_law_3434 rfl rfl rfl (l_xs cl_14_366 ko_mL_leastNoise rfl rfl) rfl rfl nm_mL_leastNoise (xhE_th rfl) (fun v3 h2 => ?_)
  refine l_loc (al1 := [(5, .int v3), (0, .retAddr 11), (1, .ref x1), (2, .ref x2), (3, .ref x3), (4, .int x4)]) dL_law_3437 rfl rfl ?_
  refine l_loc dL_law_3439 rfl rfl ?_
  refine l_loc dL_law_3440 rfl rfl ?_
  refine l_loc dL_law_3441 rfl rfl ?_
  refine l_ic dL_law_3443 kI_1 ?_
  refine l_pure dL_law_3444 rfl rfl ?_
  refine l_rs dL_law_3445 (fun v4 => ?_)
  refine l_ob fun q5 => ?_
  refine l_cI dL_law_3446 rfl rfl rfl (l_xv cl_14_368 ko_mX13_leastNoise rfl rfl rfl q5) rfl rfl nm_mX13_leastNoise (xhE_th rfl) (fun v7 h6 => ?_)
  refine l_loc (al1 := [(6, .int v7), (5, .int v3), (0, .retAddr 11), (1, .ref x1), (2, .ref x2), (3, .ref x3), (4, .int x4)]) dL_law_3449 rfl rfl ?_
  refine l_loc dL_law_3451 rfl rfl ?_
  refine l_ob fun q8 => ?_
  refine l_cI dL_law_3452 rfl rfl rfl (l_xv cl_14_195 ko_mX13_thrown rfl rfl rfl q8) rfl rfl nm_mX13_thrown (xhE_th rfl) (fun v10 h9 => ?_)
  refine l_loc dL_law_3455 rfl rfl ?_
  refine l_ceq (t := 3462) dL_law_3457 rfl ?_ ?_
  · refine l_loc dL_law_3462 rfl rfl ?_
    refine l_ine (t := 3479) dL_law_3464 rfl ?_ ?_
    · refine l_goto (t := 3482) dL_law_3479 rfl ?_
      exact l_al rfl ⟨rfl, rfl, rfl, rfl, rfl, trivial⟩
    · refine l_loc dL_law_3467 rfl rfl ?_
      refine l_ic dL_law_3468 kI_0 ?_
      refine l_rl dL_law_3469 (fun v11 => ?_)
      refine l_loc dL_law_3470 rfl rfl ?_
      refine l_pure dL_law_3472 rfl rfl ?_
      refine l_pure dL_law_3473 rfl rfl ?_
      refine l_ieq (t := 3479) dL_law_3474 rfl ?_ ?_
      · refine l_goto (t := 3482) dL_law_3479 rfl ?_
        exact l_al rfl ⟨rfl, rfl, rfl, rfl, rfl, trivial⟩
      · refine l_ic dL_law_3477 kI_0 ?_
        exact l_iretn dL_law_3478 rfl (by decide)
  · refine l_ic dL_law_3460 kI_0 ?_
    exact l_iretn dL_law_3461 rfl (by decide)
theorem w_L_law_3482 (S : xS) (x1 : Nat) (x2 : Nat) (x3 : Nat) (x4 : Int32) (h : xH) : xle (xlet (x4 + (7 : Int32)) fun v1 => (xden S mL_law 43 [(0, .retAddr 11), (1, .ref x1), (2, .ref x2), (3, .ref x3), (4, .int v1)] [] h)) (xden S mL_law 3482 [(0, .retAddr 11), (1, .ref x1), (2, .ref x2), (3, .ref x3), (4, .int x4)] [] h) := by
  refine l_incl (al1 := fun v1 => [(4, .int v1), (0, .retAddr 11), (1, .ref x1), (2, .ref x2), (3, .ref x3)]) dL_law_3482 rfl kI_7 rfl (fun _ => rfl) (fun v1 => ?_)
  refine l_goto (t := 43) dL_law_3485 rfl ?_
  exact l_al rfl ⟨rfl, rfl, rfl, rfl, rfl, trivial⟩

/-! ROWS OF METHODS, by program (wip/whole/wp.py, wpemit.py): each method as an expression -/
set_option maxRecDepth 16000 in
theorem w_X13_init (S : xS) (x0 : Nat) (x1 : Int32) (x2 : Int32) (h : xH) : xle (if x0 < h.length then xNa 2 (.inl (fun _ => 0)) (16384 : Int32) h fun a1 h2 => (xP true 12 h2 x0 12 3 (.ref a1)).bind fun h3 => xNa 2 (.inl (fun _ => 0)) (32768 : Int32) h3 fun a4 h5 => (xP true 12 h5 x0 12 4 (.ref a4)).bind fun h6 => xNa 0 (.inl (fun _ => 0)) (8 : Int32) h6 fun a7 h8 => (xP true 12 h8 x0 12 5 (.ref a7)).bind fun h9 => xNa 2 (.inl (fun _ => 0)) (4096 : Int32) h9 fun a10 h11 => (xP true 12 h11 x0 12 7 (.ref a10)).bind fun h12 => xNa 2 (.inl (fun _ => 0)) (4096 : Int32) h12 fun a13 h14 => (xP true 12 h14 x0 12 8 (.ref a13)).bind fun h15 => (xden S mX13_init 47 [(0, .ref x0), (1, .int x1), (2, .int x2)] [] h15) else none) (xM S mX13_init [.ref x0, .int x1, .int x2] h) := by
  show xle _ (xden S mX13_init 0 [(0, .ref x0), (1, .int x1), (2, .int x2)] [] h)
  refine l_loc dX13_init_0 rfl rfl ?_
  refine l_obi dX13_init_1 rfl rfl rfl ?_
  refine l_loc dX13_init_4 rfl rfl ?_
  refine l_si dX13_init_5 kS_16384 ?_
  refine l_nz dX13_init_8 (fun a1 h2 => ?_)
  refine l_pf dX13_init_10 fl_12_7 (ini := true) nm_mX13_init (fun h3 => ?_)
  refine l_loc dX13_init_13 rfl rfl ?_
  refine l_rd (st1 := [.int (32768 : Int32), .ref x0]) dX13_init_14 rfl rfl ?_
  refine l_nz dX13_init_16 (fun a4 h5 => ?_)
  refine l_pf dX13_init_18 fl_12_14 (ini := true) nm_mX13_init (fun h6 => ?_)
  refine l_loc dX13_init_21 rfl rfl ?_
  refine l_bi dX13_init_22 kB_8 ?_
  refine l_ni dX13_init_24 (fun a7 h8 => ?_)
  refine l_pf dX13_init_26 fl_12_17 (ini := true) nm_mX13_init (fun h9 => ?_)
  refine l_loc dX13_init_29 rfl rfl ?_
  refine l_si dX13_init_30 kS_4096 ?_
  refine l_nz dX13_init_33 (fun a10 h11 => ?_)
  refine l_pf dX13_init_35 fl_12_21 (ini := true) nm_mX13_init (fun h12 => ?_)
  refine l_loc dX13_init_38 rfl rfl ?_
  refine l_si dX13_init_39 kS_4096 ?_
  refine l_nz dX13_init_42 (fun a13 h14 => ?_)
  refine l_pf dX13_init_44 fl_12_24 (ini := true) nm_mX13_init (fun h15 => ?_)
  exact l_al rfl ⟨rfl, rfl, rfl, trivial⟩
set_option maxRecDepth 16000 in
theorem w_X13_init_47 (S : xS) (x0 : Nat) (x1 : Int32) (x2 : Int32) (h : xH) : xle (xNa 0 (.inl (fun _ => 0)) (4096 : Int32) h fun a1 h2 => (xP true 12 h2 x0 12 9 (.ref a1)).bind fun h3 => xNa 0 (.inl (fun _ => 0)) (80 : Int32) h3 fun a4 h5 => (xP true 12 h5 x0 12 12 (.ref a4)).bind fun h6 => xNa 0 (.inl (fun _ => 0)) (10 : Int32) h6 fun a7 h8 => (xP true 12 h8 x0 12 14 (.ref a7)).bind fun h9 => xNa 0 (.inl (fun _ => 0)) (10 : Int32) h9 fun a10 h11 => (xP true 12 h11 x0 12 15 (.ref a10)).bind fun h12 => xNa 3 (.inl (fun _ => 0)) (62 : Int32) h12 fun a13 h14 => (xWc h14 a13 (0 : Int32) (98 : Int32)).bind fun h15 => (xden S mX13_init 90 [(0, .ref x0), (1, .int x1), (2, .int x2)] [.ref a13, .ref x0] h15)) (xden S mX13_init 47 [(0, .ref x0), (1, .int x1), (2, .int x2)] [] h) := by
  refine l_loc dX13_init_47 rfl rfl ?_
  refine l_si dX13_init_48 kS_4096 ?_
  refine l_ni dX13_init_51 (fun a1 h2 => ?_)
  refine l_pf dX13_init_53 fl_12_27 (ini := true) nm_mX13_init (fun h3 => ?_)
  refine l_loc dX13_init_56 rfl rfl ?_
  refine l_bi dX13_init_57 kB_80 ?_
  refine l_ni dX13_init_59 (fun a4 h5 => ?_)
  refine l_pf dX13_init_61 fl_12_30 (ini := true) nm_mX13_init (fun h6 => ?_)
  refine l_loc dX13_init_64 rfl rfl ?_
  refine l_bi dX13_init_65 kB_10 ?_
  refine l_ni dX13_init_67 (fun a7 h8 => ?_)
  refine l_pf dX13_init_69 fl_12_33 (ini := true) nm_mX13_init (fun h9 => ?_)
  refine l_loc dX13_init_72 rfl rfl ?_
  refine l_bi dX13_init_73 kB_10 ?_
  refine l_ni dX13_init_75 (fun a10 h11 => ?_)
  refine l_pf dX13_init_77 fl_12_36 (ini := true) nm_mX13_init (fun h12 => ?_)
  refine l_loc dX13_init_80 rfl rfl ?_
  refine l_bi dX13_init_81 kB_62 ?_
  refine l_nc dX13_init_83 (fun a13 h14 => ?_)
  refine l_pure dX13_init_85 rfl rfl ?_
  refine l_ic dX13_init_86 kI_0 ?_
  refine l_bi dX13_init_87 kB_98 ?_
  refine l_wc dX13_init_89 (fun h15 => ?_)
  exact l_al rfl ⟨rfl, rfl, rfl, trivial⟩
set_option maxRecDepth 16000 in
theorem w_X13_init_90 (S : xS) (x0 : Nat) (x1 : Int32) (x2 : Int32) (z0 : Nat) (z1 : Nat) (h : xH) : xle ((xWc h z0 (1 : Int32) (108 : Int32)).bind fun h1 => (xWc h1 z0 (2 : Int32) (111 : Int32)).bind fun h2 => (xWc h2 z0 (3 : Int32) (99 : Int32)).bind fun h3 => (xWc h3 z0 (4 : Int32) (107 : Int32)).bind fun h4 => (xWc h4 z0 (5 : Int32) (59 : Int32)).bind fun h5 => (xden S mX13_init 115 [(0, .ref x0), (1, .int x1), (2, .int x2)] [.ref z0, .ref z1] h5)) (xden S mX13_init 90 [(0, .ref x0), (1, .int x1), (2, .int x2)] [.ref z0, .ref z1] h) := by
  refine l_pure dX13_init_90 rfl rfl ?_
  refine l_ic dX13_init_91 kI_1 ?_
  refine l_bi dX13_init_92 kB_108 ?_
  refine l_wc dX13_init_94 (fun h1 => ?_)
  refine l_pure dX13_init_95 rfl rfl ?_
  refine l_ic dX13_init_96 kI_2 ?_
  refine l_bi dX13_init_97 kB_111 ?_
  refine l_wc dX13_init_99 (fun h2 => ?_)
  refine l_pure dX13_init_100 rfl rfl ?_
  refine l_ic dX13_init_101 kI_3 ?_
  refine l_bi dX13_init_102 kB_99 ?_
  refine l_wc dX13_init_104 (fun h3 => ?_)
  refine l_pure dX13_init_105 rfl rfl ?_
  refine l_ic dX13_init_106 kI_4 ?_
  refine l_bi dX13_init_107 kB_107 ?_
  refine l_wc dX13_init_109 (fun h4 => ?_)
  refine l_pure dX13_init_110 rfl rfl ?_
  refine l_ic dX13_init_111 kI_5 ?_
  refine l_bi dX13_init_112 kB_59 ?_
  refine l_wc dX13_init_114 (fun h5 => ?_)
  exact l_al rfl ⟨rfl, rfl, rfl, trivial⟩
set_option maxRecDepth 16000 in
theorem w_X13_init_115 (S : xS) (x0 : Nat) (x1 : Int32) (x2 : Int32) (z0 : Nat) (z1 : Nat) (h : xH) : xle ((xWc h z0 (6 : Int32) (110 : Int32)).bind fun h1 => (xWc h1 z0 (7 : Int32) (111 : Int32)).bind fun h2 => (xWc h2 z0 (8 : Int32) (105 : Int32)).bind fun h3 => (xWc h3 z0 (9 : Int32) (115 : Int32)).bind fun h4 => (xWc h4 z0 (10 : Int32) (101 : Int32)).bind fun h5 => (xden S mX13_init 145 [(0, .ref x0), (1, .int x1), (2, .int x2)] [.ref z0, .ref z1] h5)) (xden S mX13_init 115 [(0, .ref x0), (1, .int x1), (2, .int x2)] [.ref z0, .ref z1] h) := by
  refine l_pure dX13_init_115 rfl rfl ?_
  refine l_bi dX13_init_116 kB_6 ?_
  refine l_bi dX13_init_118 kB_110 ?_
  refine l_wc dX13_init_120 (fun h1 => ?_)
  refine l_pure dX13_init_121 rfl rfl ?_
  refine l_bi dX13_init_122 kB_7 ?_
  refine l_bi dX13_init_124 kB_111 ?_
  refine l_wc dX13_init_126 (fun h2 => ?_)
  refine l_pure dX13_init_127 rfl rfl ?_
  refine l_bi dX13_init_128 kB_8 ?_
  refine l_bi dX13_init_130 kB_105 ?_
  refine l_wc dX13_init_132 (fun h3 => ?_)
  refine l_pure dX13_init_133 rfl rfl ?_
  refine l_bi dX13_init_134 kB_9 ?_
  refine l_bi dX13_init_136 kB_115 ?_
  refine l_wc dX13_init_138 (fun h4 => ?_)
  refine l_pure dX13_init_139 rfl rfl ?_
  refine l_bi dX13_init_140 kB_10 ?_
  refine l_bi dX13_init_142 kB_101 ?_
  refine l_wc dX13_init_144 (fun h5 => ?_)
  exact l_al rfl ⟨rfl, rfl, rfl, trivial⟩
set_option maxRecDepth 16000 in
theorem w_X13_init_145 (S : xS) (x0 : Nat) (x1 : Int32) (x2 : Int32) (z0 : Nat) (z1 : Nat) (h : xH) : xle ((xWc h z0 (11 : Int32) (59 : Int32)).bind fun h1 => (xWc h1 z0 (12 : Int32) (106 : Int32)).bind fun h2 => (xWc h2 z0 (13 : Int32) (105 : Int32)).bind fun h3 => (xWc h3 z0 (14 : Int32) (116 : Int32)).bind fun h4 => (xWc h4 z0 (15 : Int32) (116 : Int32)).bind fun h5 => (xden S mX13_init 175 [(0, .ref x0), (1, .int x1), (2, .int x2)] [.ref z0, .ref z1] h5)) (xden S mX13_init 145 [(0, .ref x0), (1, .int x1), (2, .int x2)] [.ref z0, .ref z1] h) := by
  refine l_pure dX13_init_145 rfl rfl ?_
  refine l_bi dX13_init_146 kB_11 ?_
  refine l_bi dX13_init_148 kB_59 ?_
  refine l_wc dX13_init_150 (fun h1 => ?_)
  refine l_pure dX13_init_151 rfl rfl ?_
  refine l_bi dX13_init_152 kB_12 ?_
  refine l_bi dX13_init_154 kB_106 ?_
  refine l_wc dX13_init_156 (fun h2 => ?_)
  refine l_pure dX13_init_157 rfl rfl ?_
  refine l_bi dX13_init_158 kB_13 ?_
  refine l_bi dX13_init_160 kB_105 ?_
  refine l_wc dX13_init_162 (fun h3 => ?_)
  refine l_pure dX13_init_163 rfl rfl ?_
  refine l_bi dX13_init_164 kB_14 ?_
  refine l_bi dX13_init_166 kB_116 ?_
  refine l_wc dX13_init_168 (fun h4 => ?_)
  refine l_pure dX13_init_169 rfl rfl ?_
  refine l_bi dX13_init_170 kB_15 ?_
  refine l_bi dX13_init_172 kB_116 ?_
  refine l_wc dX13_init_174 (fun h5 => ?_)
  exact l_al rfl ⟨rfl, rfl, rfl, trivial⟩
set_option maxRecDepth 16000 in
theorem w_X13_init_175 (S : xS) (x0 : Nat) (x1 : Int32) (x2 : Int32) (z0 : Nat) (z1 : Nat) (h : xH) : xle ((xWc h z0 (16 : Int32) (101 : Int32)).bind fun h1 => (xWc h1 z0 (17 : Int32) (114 : Int32)).bind fun h2 => (xWc h2 z0 (18 : Int32) (59 : Int32)).bind fun h3 => (xWc h3 z0 (19 : Int32) (115 : Int32)).bind fun h4 => (xWc h4 z0 (20 : Int32) (112 : Int32)).bind fun h5 => (xden S mX13_init 205 [(0, .ref x0), (1, .int x1), (2, .int x2)] [.ref z0, .ref z1] h5)) (xden S mX13_init 175 [(0, .ref x0), (1, .int x1), (2, .int x2)] [.ref z0, .ref z1] h) := by
  refine l_pure dX13_init_175 rfl rfl ?_
  refine l_bi dX13_init_176 kB_16 ?_
  refine l_bi dX13_init_178 kB_101 ?_
  refine l_wc dX13_init_180 (fun h1 => ?_)
  refine l_pure dX13_init_181 rfl rfl ?_
  refine l_bi dX13_init_182 kB_17 ?_
  refine l_bi dX13_init_184 kB_114 ?_
  refine l_wc dX13_init_186 (fun h2 => ?_)
  refine l_pure dX13_init_187 rfl rfl ?_
  refine l_bi dX13_init_188 kB_18 ?_
  refine l_bi dX13_init_190 kB_59 ?_
  refine l_wc dX13_init_192 (fun h3 => ?_)
  refine l_pure dX13_init_193 rfl rfl ?_
  refine l_bi dX13_init_194 kB_19 ?_
  refine l_bi dX13_init_196 kB_115 ?_
  refine l_wc dX13_init_198 (fun h4 => ?_)
  refine l_pure dX13_init_199 rfl rfl ?_
  refine l_bi dX13_init_200 kB_20 ?_
  refine l_bi dX13_init_202 kB_112 ?_
  refine l_wc dX13_init_204 (fun h5 => ?_)
  exact l_al rfl ⟨rfl, rfl, rfl, trivial⟩
set_option maxRecDepth 16000 in
theorem w_X13_init_205 (S : xS) (x0 : Nat) (x1 : Int32) (x2 : Int32) (z0 : Nat) (z1 : Nat) (h : xH) : xle ((xWc h z0 (21 : Int32) (101 : Int32)).bind fun h1 => (xWc h1 z0 (22 : Int32) (99 : Int32)).bind fun h2 => (xWc h2 z0 (23 : Int32) (107 : Int32)).bind fun h3 => (xWc h3 z0 (24 : Int32) (108 : Int32)).bind fun h4 => (xWc h4 z0 (25 : Int32) (101 : Int32)).bind fun h5 => (xden S mX13_init 235 [(0, .ref x0), (1, .int x1), (2, .int x2)] [.ref z0, .ref z1] h5)) (xden S mX13_init 205 [(0, .ref x0), (1, .int x1), (2, .int x2)] [.ref z0, .ref z1] h) := by
  refine l_pure dX13_init_205 rfl rfl ?_
  refine l_bi dX13_init_206 kB_21 ?_
  refine l_bi dX13_init_208 kB_101 ?_
  refine l_wc dX13_init_210 (fun h1 => ?_)
  refine l_pure dX13_init_211 rfl rfl ?_
  refine l_bi dX13_init_212 kB_22 ?_
  refine l_bi dX13_init_214 kB_99 ?_
  refine l_wc dX13_init_216 (fun h2 => ?_)
  refine l_pure dX13_init_217 rfl rfl ?_
  refine l_bi dX13_init_218 kB_23 ?_
  refine l_bi dX13_init_220 kB_107 ?_
  refine l_wc dX13_init_222 (fun h3 => ?_)
  refine l_pure dX13_init_223 rfl rfl ?_
  refine l_bi dX13_init_224 kB_24 ?_
  refine l_bi dX13_init_226 kB_108 ?_
  refine l_wc dX13_init_228 (fun h4 => ?_)
  refine l_pure dX13_init_229 rfl rfl ?_
  refine l_bi dX13_init_230 kB_25 ?_
  refine l_bi dX13_init_232 kB_101 ?_
  refine l_wc dX13_init_234 (fun h5 => ?_)
  exact l_al rfl ⟨rfl, rfl, rfl, trivial⟩
set_option maxRecDepth 16000 in
theorem w_X13_init_235 (S : xS) (x0 : Nat) (x1 : Int32) (x2 : Int32) (z0 : Nat) (z1 : Nat) (h : xH) : xle ((xWc h z0 (26 : Int32) (59 : Int32)).bind fun h1 => (xWc h1 z0 (27 : Int32) (115 : Int32)).bind fun h2 => (xWc h2 z0 (28 : Int32) (101 : Int32)).bind fun h3 => (xWc h3 z0 (29 : Int32) (97 : Int32)).bind fun h4 => (xWc h4 z0 (30 : Int32) (114 : Int32)).bind fun h5 => (xden S mX13_init 265 [(0, .ref x0), (1, .int x1), (2, .int x2)] [.ref z0, .ref z1] h5)) (xden S mX13_init 235 [(0, .ref x0), (1, .int x1), (2, .int x2)] [.ref z0, .ref z1] h) := by
  refine l_pure dX13_init_235 rfl rfl ?_
  refine l_bi dX13_init_236 kB_26 ?_
  refine l_bi dX13_init_238 kB_59 ?_
  refine l_wc dX13_init_240 (fun h1 => ?_)
  refine l_pure dX13_init_241 rfl rfl ?_
  refine l_bi dX13_init_242 kB_27 ?_
  refine l_bi dX13_init_244 kB_115 ?_
  refine l_wc dX13_init_246 (fun h2 => ?_)
  refine l_pure dX13_init_247 rfl rfl ?_
  refine l_bi dX13_init_248 kB_28 ?_
  refine l_bi dX13_init_250 kB_101 ?_
  refine l_wc dX13_init_252 (fun h3 => ?_)
  refine l_pure dX13_init_253 rfl rfl ?_
  refine l_bi dX13_init_254 kB_29 ?_
  refine l_bi dX13_init_256 kB_97 ?_
  refine l_wc dX13_init_258 (fun h4 => ?_)
  refine l_pure dX13_init_259 rfl rfl ?_
  refine l_bi dX13_init_260 kB_30 ?_
  refine l_bi dX13_init_262 kB_114 ?_
  refine l_wc dX13_init_264 (fun h5 => ?_)
  exact l_al rfl ⟨rfl, rfl, rfl, trivial⟩
set_option maxRecDepth 16000 in
theorem w_X13_init_265 (S : xS) (x0 : Nat) (x1 : Int32) (x2 : Int32) (z0 : Nat) (z1 : Nat) (h : xH) : xle ((xWc h z0 (31 : Int32) (99 : Int32)).bind fun h1 => (xWc h1 z0 (32 : Int32) (104 : Int32)).bind fun h2 => (xWc h2 z0 (33 : Int32) (59 : Int32)).bind fun h3 => (xWc h3 z0 (34 : Int32) (115 : Int32)).bind fun h4 => (xWc h4 z0 (35 : Int32) (107 : Int32)).bind fun h5 => (xden S mX13_init 295 [(0, .ref x0), (1, .int x1), (2, .int x2)] [.ref z0, .ref z1] h5)) (xden S mX13_init 265 [(0, .ref x0), (1, .int x1), (2, .int x2)] [.ref z0, .ref z1] h) := by
  refine l_pure dX13_init_265 rfl rfl ?_
  refine l_bi dX13_init_266 kB_31 ?_
  refine l_bi dX13_init_268 kB_99 ?_
  refine l_wc dX13_init_270 (fun h1 => ?_)
  refine l_pure dX13_init_271 rfl rfl ?_
  refine l_bi dX13_init_272 kB_32 ?_
  refine l_bi dX13_init_274 kB_104 ?_
  refine l_wc dX13_init_276 (fun h2 => ?_)
  refine l_pure dX13_init_277 rfl rfl ?_
  refine l_bi dX13_init_278 kB_33 ?_
  refine l_bi dX13_init_280 kB_59 ?_
  refine l_wc dX13_init_282 (fun h3 => ?_)
  refine l_pure dX13_init_283 rfl rfl ?_
  refine l_bi dX13_init_284 kB_34 ?_
  refine l_bi dX13_init_286 kB_115 ?_
  refine l_wc dX13_init_288 (fun h4 => ?_)
  refine l_pure dX13_init_289 rfl rfl ?_
  refine l_bi dX13_init_290 kB_35 ?_
  refine l_bi dX13_init_292 kB_107 ?_
  refine l_wc dX13_init_294 (fun h5 => ?_)
  exact l_al rfl ⟨rfl, rfl, rfl, trivial⟩
set_option maxRecDepth 16000 in
theorem w_X13_init_295 (S : xS) (x0 : Nat) (x1 : Int32) (x2 : Int32) (z0 : Nat) (z1 : Nat) (h : xH) : xle ((xWc h z0 (36 : Int32) (101 : Int32)).bind fun h1 => (xWc h1 z0 (37 : Int32) (119 : Int32)).bind fun h2 => (xWc h2 z0 (38 : Int32) (59 : Int32)).bind fun h3 => (xWc h3 z0 (39 : Int32) (116 : Int32)).bind fun h4 => (xWc h4 z0 (40 : Int32) (117 : Int32)).bind fun h5 => (xden S mX13_init 325 [(0, .ref x0), (1, .int x1), (2, .int x2)] [.ref z0, .ref z1] h5)) (xden S mX13_init 295 [(0, .ref x0), (1, .int x1), (2, .int x2)] [.ref z0, .ref z1] h) := by
  refine l_pure dX13_init_295 rfl rfl ?_
  refine l_bi dX13_init_296 kB_36 ?_
  refine l_bi dX13_init_298 kB_101 ?_
  refine l_wc dX13_init_300 (fun h1 => ?_)
  refine l_pure dX13_init_301 rfl rfl ?_
  refine l_bi dX13_init_302 kB_37 ?_
  refine l_bi dX13_init_304 kB_119 ?_
  refine l_wc dX13_init_306 (fun h2 => ?_)
  refine l_pure dX13_init_307 rfl rfl ?_
  refine l_bi dX13_init_308 kB_38 ?_
  refine l_bi dX13_init_310 kB_59 ?_
  refine l_wc dX13_init_312 (fun h3 => ?_)
  refine l_pure dX13_init_313 rfl rfl ?_
  refine l_bi dX13_init_314 kB_39 ?_
  refine l_bi dX13_init_316 kB_116 ?_
  refine l_wc dX13_init_318 (fun h4 => ?_)
  refine l_pure dX13_init_319 rfl rfl ?_
  refine l_bi dX13_init_320 kB_40 ?_
  refine l_bi dX13_init_322 kB_117 ?_
  refine l_wc dX13_init_324 (fun h5 => ?_)
  exact l_al rfl ⟨rfl, rfl, rfl, trivial⟩
set_option maxRecDepth 16000 in
theorem w_X13_init_325 (S : xS) (x0 : Nat) (x1 : Int32) (x2 : Int32) (z0 : Nat) (z1 : Nat) (h : xH) : xle ((xWc h z0 (41 : Int32) (114 : Int32)).bind fun h1 => (xWc h1 z0 (42 : Int32) (110 : Int32)).bind fun h2 => (xWc h2 z0 (43 : Int32) (59 : Int32)).bind fun h3 => (xWc h3 z0 (44 : Int32) (111 : Int32)).bind fun h4 => (xWc h4 z0 (45 : Int32) (114 : Int32)).bind fun h5 => (xden S mX13_init 355 [(0, .ref x0), (1, .int x1), (2, .int x2)] [.ref z0, .ref z1] h5)) (xden S mX13_init 325 [(0, .ref x0), (1, .int x1), (2, .int x2)] [.ref z0, .ref z1] h) := by
  refine l_pure dX13_init_325 rfl rfl ?_
  refine l_bi dX13_init_326 kB_41 ?_
  refine l_bi dX13_init_328 kB_114 ?_
  refine l_wc dX13_init_330 (fun h1 => ?_)
  refine l_pure dX13_init_331 rfl rfl ?_
  refine l_bi dX13_init_332 kB_42 ?_
  refine l_bi dX13_init_334 kB_110 ?_
  refine l_wc dX13_init_336 (fun h2 => ?_)
  refine l_pure dX13_init_337 rfl rfl ?_
  refine l_bi dX13_init_338 kB_43 ?_
  refine l_bi dX13_init_340 kB_59 ?_
  refine l_wc dX13_init_342 (fun h3 => ?_)
  refine l_pure dX13_init_343 rfl rfl ?_
  refine l_bi dX13_init_344 kB_44 ?_
  refine l_bi dX13_init_346 kB_111 ?_
  refine l_wc dX13_init_348 (fun h4 => ?_)
  refine l_pure dX13_init_349 rfl rfl ?_
  refine l_bi dX13_init_350 kB_45 ?_
  refine l_bi dX13_init_352 kB_114 ?_
  refine l_wc dX13_init_354 (fun h5 => ?_)
  exact l_al rfl ⟨rfl, rfl, rfl, trivial⟩
set_option maxRecDepth 16000 in
theorem w_X13_init_355 (S : xS) (x0 : Nat) (x1 : Int32) (x2 : Int32) (z0 : Nat) (z1 : Nat) (h : xH) : xle ((xWc h z0 (46 : Int32) (100 : Int32)).bind fun h1 => (xWc h1 z0 (47 : Int32) (101 : Int32)).bind fun h2 => (xWc h2 z0 (48 : Int32) (114 : Int32)).bind fun h3 => (xWc h3 z0 (49 : Int32) (59 : Int32)).bind fun h4 => (xWc h4 z0 (50 : Int32) (112 : Int32)).bind fun h5 => (xden S mX13_init 385 [(0, .ref x0), (1, .int x1), (2, .int x2)] [.ref z0, .ref z1] h5)) (xden S mX13_init 355 [(0, .ref x0), (1, .int x1), (2, .int x2)] [.ref z0, .ref z1] h) := by
  refine l_pure dX13_init_355 rfl rfl ?_
  refine l_bi dX13_init_356 kB_46 ?_
  refine l_bi dX13_init_358 kB_100 ?_
  refine l_wc dX13_init_360 (fun h1 => ?_)
  refine l_pure dX13_init_361 rfl rfl ?_
  refine l_bi dX13_init_362 kB_47 ?_
  refine l_bi dX13_init_364 kB_101 ?_
  refine l_wc dX13_init_366 (fun h2 => ?_)
  refine l_pure dX13_init_367 rfl rfl ?_
  refine l_bi dX13_init_368 kB_48 ?_
  refine l_bi dX13_init_370 kB_114 ?_
  refine l_wc dX13_init_372 (fun h3 => ?_)
  refine l_pure dX13_init_373 rfl rfl ?_
  refine l_bi dX13_init_374 kB_49 ?_
  refine l_bi dX13_init_376 kB_59 ?_
  refine l_wc dX13_init_378 (fun h4 => ?_)
  refine l_pure dX13_init_379 rfl rfl ?_
  refine l_bi dX13_init_380 kB_50 ?_
  refine l_bi dX13_init_382 kB_112 ?_
  refine l_wc dX13_init_384 (fun h5 => ?_)
  exact l_al rfl ⟨rfl, rfl, rfl, trivial⟩
set_option maxRecDepth 16000 in
theorem w_X13_init_385 (S : xS) (x0 : Nat) (x1 : Int32) (x2 : Int32) (z0 : Nat) (z1 : Nat) (h : xH) : xle ((xWc h z0 (51 : Int32) (97 : Int32)).bind fun h1 => (xWc h1 z0 (52 : Int32) (105 : Int32)).bind fun h2 => (xWc h2 z0 (53 : Int32) (114 : Int32)).bind fun h3 => (xWc h3 z0 (54 : Int32) (59 : Int32)).bind fun h4 => (xWc h4 z0 (55 : Int32) (115 : Int32)).bind fun h5 => (xden S mX13_init 415 [(0, .ref x0), (1, .int x1), (2, .int x2)] [.ref z0, .ref z1] h5)) (xden S mX13_init 385 [(0, .ref x0), (1, .int x1), (2, .int x2)] [.ref z0, .ref z1] h) := by
  refine l_pure dX13_init_385 rfl rfl ?_
  refine l_bi dX13_init_386 kB_51 ?_
  refine l_bi dX13_init_388 kB_97 ?_
  refine l_wc dX13_init_390 (fun h1 => ?_)
  refine l_pure dX13_init_391 rfl rfl ?_
  refine l_bi dX13_init_392 kB_52 ?_
  refine l_bi dX13_init_394 kB_105 ?_
  refine l_wc dX13_init_396 (fun h2 => ?_)
  refine l_pure dX13_init_397 rfl rfl ?_
  refine l_bi dX13_init_398 kB_53 ?_
  refine l_bi dX13_init_400 kB_114 ?_
  refine l_wc dX13_init_402 (fun h3 => ?_)
  refine l_pure dX13_init_403 rfl rfl ?_
  refine l_bi dX13_init_404 kB_54 ?_
  refine l_bi dX13_init_406 kB_59 ?_
  refine l_wc dX13_init_408 (fun h4 => ?_)
  refine l_pure dX13_init_409 rfl rfl ?_
  refine l_bi dX13_init_410 kB_55 ?_
  refine l_bi dX13_init_412 kB_115 ?_
  refine l_wc dX13_init_414 (fun h5 => ?_)
  exact l_al rfl ⟨rfl, rfl, rfl, trivial⟩
set_option maxRecDepth 16000 in
theorem w_X13_init_415 (S : xS) (x0 : Nat) (x1 : Int32) (x2 : Int32) (z0 : Nat) (z1 : Nat) (h : xH) : xle ((xWc h z0 (56 : Int32) (116 : Int32)).bind fun h1 => (xWc h1 z0 (57 : Int32) (97 : Int32)).bind fun h2 => (xWc h2 z0 (58 : Int32) (109 : Int32)).bind fun h3 => (xWc h3 z0 (59 : Int32) (112 : Int32)).bind fun h4 => (xWc h4 z0 (60 : Int32) (115 : Int32)).bind fun h5 => (xden S mX13_init 445 [(0, .ref x0), (1, .int x1), (2, .int x2)] [.ref z0, .ref z1] h5)) (xden S mX13_init 415 [(0, .ref x0), (1, .int x1), (2, .int x2)] [.ref z0, .ref z1] h) := by
  refine l_pure dX13_init_415 rfl rfl ?_
  refine l_bi dX13_init_416 kB_56 ?_
  refine l_bi dX13_init_418 kB_116 ?_
  refine l_wc dX13_init_420 (fun h1 => ?_)
  refine l_pure dX13_init_421 rfl rfl ?_
  refine l_bi dX13_init_422 kB_57 ?_
  refine l_bi dX13_init_424 kB_97 ?_
  refine l_wc dX13_init_426 (fun h2 => ?_)
  refine l_pure dX13_init_427 rfl rfl ?_
  refine l_bi dX13_init_428 kB_58 ?_
  refine l_bi dX13_init_430 kB_109 ?_
  refine l_wc dX13_init_432 (fun h3 => ?_)
  refine l_pure dX13_init_433 rfl rfl ?_
  refine l_bi dX13_init_434 kB_59 ?_
  refine l_bi dX13_init_436 kB_112 ?_
  refine l_wc dX13_init_438 (fun h4 => ?_)
  refine l_pure dX13_init_439 rfl rfl ?_
  refine l_bi dX13_init_440 kB_60 ?_
  refine l_bi dX13_init_442 kB_115 ?_
  refine l_wc dX13_init_444 (fun h5 => ?_)
  exact l_al rfl ⟨rfl, rfl, rfl, trivial⟩
set_option maxRecDepth 16000 in
theorem w_X13_init_445 (S : xS) (x0 : Nat) (x1 : Int32) (x2 : Int32) (z0 : Nat) (z1 : Nat) (h : xH) : xle ((xWc h z0 (61 : Int32) (59 : Int32)).bind fun h1 => (xP true 12 h1 z1 12 17 (.ref z0)).bind fun h2 => xNa 3 (.inl (fun _ => 0)) (30 : Int32) h2 fun a3 h4 => (xWc h4 a3 (0 : Int32) (111 : Int32)).bind fun h5 => (xWc h5 a3 (1 : Int32) (102 : Int32)).bind fun h6 => (xWc h6 a3 (2 : Int32) (102 : Int32)).bind fun h7 => (xden S mX13_init 474 [(0, .ref x0), (1, .int x1), (2, .int x2)] [.ref a3, .ref x0] h7)) (xden S mX13_init 445 [(0, .ref x0), (1, .int x1), (2, .int x2)] [.ref z0, .ref z1] h) := by
  refine l_pure dX13_init_445 rfl rfl ?_
  refine l_bi dX13_init_446 kB_61 ?_
  refine l_bi dX13_init_448 kB_59 ?_
  refine l_wc dX13_init_450 (fun h1 => ?_)
  refine l_pf dX13_init_451 fl_12_39 (ini := true) nm_mX13_init (fun h2 => ?_)
  refine l_loc dX13_init_454 rfl rfl ?_
  refine l_bi dX13_init_455 kB_30 ?_
  refine l_nc dX13_init_457 (fun a3 h4 => ?_)
  refine l_pure dX13_init_459 rfl rfl ?_
  refine l_ic dX13_init_460 kI_0 ?_
  refine l_bi dX13_init_461 kB_111 ?_
  refine l_wc dX13_init_463 (fun h5 => ?_)
  refine l_pure dX13_init_464 rfl rfl ?_
  refine l_ic dX13_init_465 kI_1 ?_
  refine l_bi dX13_init_466 kB_102 ?_
  refine l_wc dX13_init_468 (fun h6 => ?_)
  refine l_pure dX13_init_469 rfl rfl ?_
  refine l_ic dX13_init_470 kI_2 ?_
  refine l_bi dX13_init_471 kB_102 ?_
  refine l_wc dX13_init_473 (fun h7 => ?_)
  exact l_al rfl ⟨rfl, rfl, rfl, trivial⟩
set_option maxRecDepth 16000 in
theorem w_X13_init_474 (S : xS) (x0 : Nat) (x1 : Int32) (x2 : Int32) (z0 : Nat) (z1 : Nat) (h : xH) : xle ((xWc h z0 (3 : Int32) (59 : Int32)).bind fun h1 => (xWc h1 z0 (4 : Int32) (111 : Int32)).bind fun h2 => (xWc h2 z0 (5 : Int32) (110 : Int32)).bind fun h3 => (xWc h3 z0 (6 : Int32) (59 : Int32)).bind fun h4 => (xWc h4 z0 (7 : Int32) (114 : Int32)).bind fun h5 => (xden S mX13_init 501 [(0, .ref x0), (1, .int x1), (2, .int x2)] [.ref z0, .ref z1] h5)) (xden S mX13_init 474 [(0, .ref x0), (1, .int x1), (2, .int x2)] [.ref z0, .ref z1] h) := by
  refine l_pure dX13_init_474 rfl rfl ?_
  refine l_ic dX13_init_475 kI_3 ?_
  refine l_bi dX13_init_476 kB_59 ?_
  refine l_wc dX13_init_478 (fun h1 => ?_)
  refine l_pure dX13_init_479 rfl rfl ?_
  refine l_ic dX13_init_480 kI_4 ?_
  refine l_bi dX13_init_481 kB_111 ?_
  refine l_wc dX13_init_483 (fun h2 => ?_)
  refine l_pure dX13_init_484 rfl rfl ?_
  refine l_ic dX13_init_485 kI_5 ?_
  refine l_bi dX13_init_486 kB_110 ?_
  refine l_wc dX13_init_488 (fun h3 => ?_)
  refine l_pure dX13_init_489 rfl rfl ?_
  refine l_bi dX13_init_490 kB_6 ?_
  refine l_bi dX13_init_492 kB_59 ?_
  refine l_wc dX13_init_494 (fun h4 => ?_)
  refine l_pure dX13_init_495 rfl rfl ?_
  refine l_bi dX13_init_496 kB_7 ?_
  refine l_bi dX13_init_498 kB_114 ?_
  refine l_wc dX13_init_500 (fun h5 => ?_)
  exact l_al rfl ⟨rfl, rfl, rfl, trivial⟩
set_option maxRecDepth 16000 in
theorem w_X13_init_501 (S : xS) (x0 : Nat) (x1 : Int32) (x2 : Int32) (z0 : Nat) (z1 : Nat) (h : xH) : xle ((xWc h z0 (8 : Int32) (111 : Int32)).bind fun h1 => (xWc h1 z0 (9 : Int32) (119 : Int32)).bind fun h2 => (xWc h2 z0 (10 : Int32) (115 : Int32)).bind fun h3 => (xWc h3 z0 (11 : Int32) (59 : Int32)).bind fun h4 => (xWc h4 z0 (12 : Int32) (99 : Int32)).bind fun h5 => (xden S mX13_init 531 [(0, .ref x0), (1, .int x1), (2, .int x2)] [.ref z0, .ref z1] h5)) (xden S mX13_init 501 [(0, .ref x0), (1, .int x1), (2, .int x2)] [.ref z0, .ref z1] h) := by
  refine l_pure dX13_init_501 rfl rfl ?_
  refine l_bi dX13_init_502 kB_8 ?_
  refine l_bi dX13_init_504 kB_111 ?_
  refine l_wc dX13_init_506 (fun h1 => ?_)
  refine l_pure dX13_init_507 rfl rfl ?_
  refine l_bi dX13_init_508 kB_9 ?_
  refine l_bi dX13_init_510 kB_119 ?_
  refine l_wc dX13_init_512 (fun h2 => ?_)
  refine l_pure dX13_init_513 rfl rfl ?_
  refine l_bi dX13_init_514 kB_10 ?_
  refine l_bi dX13_init_516 kB_115 ?_
  refine l_wc dX13_init_518 (fun h3 => ?_)
  refine l_pure dX13_init_519 rfl rfl ?_
  refine l_bi dX13_init_520 kB_11 ?_
  refine l_bi dX13_init_522 kB_59 ?_
  refine l_wc dX13_init_524 (fun h4 => ?_)
  refine l_pure dX13_init_525 rfl rfl ?_
  refine l_bi dX13_init_526 kB_12 ?_
  refine l_bi dX13_init_528 kB_99 ?_
  refine l_wc dX13_init_530 (fun h5 => ?_)
  exact l_al rfl ⟨rfl, rfl, rfl, trivial⟩
set_option maxRecDepth 16000 in
theorem w_X13_init_531 (S : xS) (x0 : Nat) (x1 : Int32) (x2 : Int32) (z0 : Nat) (z1 : Nat) (h : xH) : xle ((xWc h z0 (13 : Int32) (111 : Int32)).bind fun h1 => (xWc h1 z0 (14 : Int32) (108 : Int32)).bind fun h2 => (xWc h2 z0 (15 : Int32) (117 : Int32)).bind fun h3 => (xWc h3 z0 (16 : Int32) (109 : Int32)).bind fun h4 => (xWc h4 z0 (17 : Int32) (110 : Int32)).bind fun h5 => (xden S mX13_init 561 [(0, .ref x0), (1, .int x1), (2, .int x2)] [.ref z0, .ref z1] h5)) (xden S mX13_init 531 [(0, .ref x0), (1, .int x1), (2, .int x2)] [.ref z0, .ref z1] h) := by
  refine l_pure dX13_init_531 rfl rfl ?_
  refine l_bi dX13_init_532 kB_13 ?_
  refine l_bi dX13_init_534 kB_111 ?_
  refine l_wc dX13_init_536 (fun h1 => ?_)
  refine l_pure dX13_init_537 rfl rfl ?_
  refine l_bi dX13_init_538 kB_14 ?_
  refine l_bi dX13_init_540 kB_108 ?_
  refine l_wc dX13_init_542 (fun h2 => ?_)
  refine l_pure dX13_init_543 rfl rfl ?_
  refine l_bi dX13_init_544 kB_15 ?_
  refine l_bi dX13_init_546 kB_117 ?_
  refine l_wc dX13_init_548 (fun h3 => ?_)
  refine l_pure dX13_init_549 rfl rfl ?_
  refine l_bi dX13_init_550 kB_16 ?_
  refine l_bi dX13_init_552 kB_109 ?_
  refine l_wc dX13_init_554 (fun h4 => ?_)
  refine l_pure dX13_init_555 rfl rfl ?_
  refine l_bi dX13_init_556 kB_17 ?_
  refine l_bi dX13_init_558 kB_110 ?_
  refine l_wc dX13_init_560 (fun h5 => ?_)
  exact l_al rfl ⟨rfl, rfl, rfl, trivial⟩
set_option maxRecDepth 16000 in
theorem w_X13_init_561 (S : xS) (x0 : Nat) (x1 : Int32) (x2 : Int32) (z0 : Nat) (z1 : Nat) (h : xH) : xle ((xWc h z0 (18 : Int32) (115 : Int32)).bind fun h1 => (xWc h1 z0 (19 : Int32) (59 : Int32)).bind fun h2 => (xWc h2 z0 (20 : Int32) (107 : Int32)).bind fun h3 => (xWc h3 z0 (21 : Int32) (101 : Int32)).bind fun h4 => (xWc h4 z0 (22 : Int32) (101 : Int32)).bind fun h5 => (xden S mX13_init 591 [(0, .ref x0), (1, .int x1), (2, .int x2)] [.ref z0, .ref z1] h5)) (xden S mX13_init 561 [(0, .ref x0), (1, .int x1), (2, .int x2)] [.ref z0, .ref z1] h) := by
  refine l_pure dX13_init_561 rfl rfl ?_
  refine l_bi dX13_init_562 kB_18 ?_
  refine l_bi dX13_init_564 kB_115 ?_
  refine l_wc dX13_init_566 (fun h1 => ?_)
  refine l_pure dX13_init_567 rfl rfl ?_
  refine l_bi dX13_init_568 kB_19 ?_
  refine l_bi dX13_init_570 kB_59 ?_
  refine l_wc dX13_init_572 (fun h2 => ?_)
  refine l_pure dX13_init_573 rfl rfl ?_
  refine l_bi dX13_init_574 kB_20 ?_
  refine l_bi dX13_init_576 kB_107 ?_
  refine l_wc dX13_init_578 (fun h3 => ?_)
  refine l_pure dX13_init_579 rfl rfl ?_
  refine l_bi dX13_init_580 kB_21 ?_
  refine l_bi dX13_init_582 kB_101 ?_
  refine l_wc dX13_init_584 (fun h4 => ?_)
  refine l_pure dX13_init_585 rfl rfl ?_
  refine l_bi dX13_init_586 kB_22 ?_
  refine l_bi dX13_init_588 kB_101 ?_
  refine l_wc dX13_init_590 (fun h5 => ?_)
  exact l_al rfl ⟨rfl, rfl, rfl, trivial⟩
set_option maxRecDepth 16000 in
theorem w_X13_init_591 (S : xS) (x0 : Nat) (x1 : Int32) (x2 : Int32) (z0 : Nat) (z1 : Nat) (h : xH) : xle ((xWc h z0 (23 : Int32) (112 : Int32)).bind fun h1 => (xWc h1 z0 (24 : Int32) (59 : Int32)).bind fun h2 => (xWc h2 z0 (25 : Int32) (104 : Int32)).bind fun h3 => (xWc h3 z0 (26 : Int32) (105 : Int32)).bind fun h4 => (xWc h4 z0 (27 : Int32) (100 : Int32)).bind fun h5 => (xden S mX13_init 621 [(0, .ref x0), (1, .int x1), (2, .int x2)] [.ref z0, .ref z1] h5)) (xden S mX13_init 591 [(0, .ref x0), (1, .int x1), (2, .int x2)] [.ref z0, .ref z1] h) := by
  refine l_pure dX13_init_591 rfl rfl ?_
  refine l_bi dX13_init_592 kB_23 ?_
  refine l_bi dX13_init_594 kB_112 ?_
  refine l_wc dX13_init_596 (fun h1 => ?_)
  refine l_pure dX13_init_597 rfl rfl ?_
  refine l_bi dX13_init_598 kB_24 ?_
  refine l_bi dX13_init_600 kB_59 ?_
  refine l_wc dX13_init_602 (fun h2 => ?_)
  refine l_pure dX13_init_603 rfl rfl ?_
  refine l_bi dX13_init_604 kB_25 ?_
  refine l_bi dX13_init_606 kB_104 ?_
  refine l_wc dX13_init_608 (fun h3 => ?_)
  refine l_pure dX13_init_609 rfl rfl ?_
  refine l_bi dX13_init_610 kB_26 ?_
  refine l_bi dX13_init_612 kB_105 ?_
  refine l_wc dX13_init_614 (fun h4 => ?_)
  refine l_pure dX13_init_615 rfl rfl ?_
  refine l_bi dX13_init_616 kB_27 ?_
  refine l_bi dX13_init_618 kB_100 ?_
  refine l_wc dX13_init_620 (fun h5 => ?_)
  exact l_al rfl ⟨rfl, rfl, rfl, trivial⟩
set_option maxRecDepth 16000 in
theorem w_X13_init_621 (S : xS) (x0 : Nat) (x1 : Int32) (x2 : Int32) (z0 : Nat) (z1 : Nat) (h : xH) : xle ((xWc h z0 (28 : Int32) (101 : Int32)).bind fun h1 => (xWc h1 z0 (29 : Int32) (59 : Int32)).bind fun h2 => (xP true 12 h2 z1 12 18 (.ref z0)).bind fun h3 => xNa 0 (.inl (fun _ => 0)) (10 : Int32) h3 fun a4 h5 => (xWi h5 a4 (0 : Int32) (4 : Int32)).bind fun h6 => (xWi h6 a4 (1 : Int32) (0 : Int32)).bind fun h7 => (xden S mX13_init 649 [(0, .ref x0), (1, .int x1), (2, .int x2)] [.ref a4, .ref x0] h7)) (xden S mX13_init 621 [(0, .ref x0), (1, .int x1), (2, .int x2)] [.ref z0, .ref z1] h) := by
  refine l_pure dX13_init_621 rfl rfl ?_
  refine l_bi dX13_init_622 kB_28 ?_
  refine l_bi dX13_init_624 kB_101 ?_
  refine l_wc dX13_init_626 (fun h1 => ?_)
  refine l_pure dX13_init_627 rfl rfl ?_
  refine l_bi dX13_init_628 kB_29 ?_
  refine l_bi dX13_init_630 kB_59 ?_
  refine l_wc dX13_init_632 (fun h2 => ?_)
  refine l_pf dX13_init_633 fl_12_43 (ini := true) nm_mX13_init (fun h3 => ?_)
  refine l_loc dX13_init_636 rfl rfl ?_
  refine l_bi dX13_init_637 kB_10 ?_
  refine l_ni dX13_init_639 (fun a4 h5 => ?_)
  refine l_pure dX13_init_641 rfl rfl ?_
  refine l_ic dX13_init_642 kI_0 ?_
  refine l_ic dX13_init_643 kI_4 ?_
  refine l_wi dX13_init_644 (fun h6 => ?_)
  refine l_pure dX13_init_645 rfl rfl ?_
  refine l_ic dX13_init_646 kI_1 ?_
  refine l_ic dX13_init_647 kI_0 ?_
  refine l_wi dX13_init_648 (fun h7 => ?_)
  exact l_al rfl ⟨rfl, rfl, rfl, trivial⟩
set_option maxRecDepth 16000 in
theorem w_X13_init_649 (S : xS) (x0 : Nat) (x1 : Int32) (x2 : Int32) (z0 : Nat) (z1 : Nat) (h : xH) : xle ((xWi h z0 (2 : Int32) (0 : Int32)).bind fun h1 => (xWi h1 z0 (3 : Int32) (0 : Int32)).bind fun h2 => (xWi h2 z0 (4 : Int32) (0 : Int32)).bind fun h3 => (xWi h3 z0 (5 : Int32) (0 : Int32)).bind fun h4 => (xWi h4 z0 (6 : Int32) (0 : Int32)).bind fun h5 => (xden S mX13_init 670 [(0, .ref x0), (1, .int x1), (2, .int x2)] [.ref z0, .ref z1] h5)) (xden S mX13_init 649 [(0, .ref x0), (1, .int x1), (2, .int x2)] [.ref z0, .ref z1] h) := by
  refine l_pure dX13_init_649 rfl rfl ?_
  refine l_ic dX13_init_650 kI_2 ?_
  refine l_ic dX13_init_651 kI_0 ?_
  refine l_wi dX13_init_652 (fun h1 => ?_)
  refine l_pure dX13_init_653 rfl rfl ?_
  refine l_ic dX13_init_654 kI_3 ?_
  refine l_ic dX13_init_655 kI_0 ?_
  refine l_wi dX13_init_656 (fun h2 => ?_)
  refine l_pure dX13_init_657 rfl rfl ?_
  refine l_ic dX13_init_658 kI_4 ?_
  refine l_ic dX13_init_659 kI_0 ?_
  refine l_wi dX13_init_660 (fun h3 => ?_)
  refine l_pure dX13_init_661 rfl rfl ?_
  refine l_ic dX13_init_662 kI_5 ?_
  refine l_ic dX13_init_663 kI_0 ?_
  refine l_wi dX13_init_664 (fun h4 => ?_)
  refine l_pure dX13_init_665 rfl rfl ?_
  refine l_bi dX13_init_666 kB_6 ?_
  refine l_ic dX13_init_668 kI_0 ?_
  refine l_wi dX13_init_669 (fun h5 => ?_)
  exact l_al rfl ⟨rfl, rfl, rfl, trivial⟩
set_option maxRecDepth 16000 in
theorem w_X13_init_670 (S : xS) (x0 : Nat) (x1 : Int32) (x2 : Int32) (z0 : Nat) (z1 : Nat) (h : xH) : xle ((xWi h z0 (7 : Int32) (0 : Int32)).bind fun h1 => (xWi h1 z0 (8 : Int32) (1 : Int32)).bind fun h2 => (xWi h2 z0 (9 : Int32) (0 : Int32)).bind fun h3 => (xP true 12 h3 z1 12 19 (.ref z0)).bind fun h4 => xNa 0 (.inl (fun _ => 0)) (10 : Int32) h4 fun a5 h6 => (xWi h6 a5 (0 : Int32) (16 : Int32)).bind fun h7 => (xden S mX13_init 698 [(0, .ref x0), (1, .int x1), (2, .int x2)] [.ref a5, .ref x0] h7)) (xden S mX13_init 670 [(0, .ref x0), (1, .int x1), (2, .int x2)] [.ref z0, .ref z1] h) := by
  refine l_pure dX13_init_670 rfl rfl ?_
  refine l_bi dX13_init_671 kB_7 ?_
  refine l_ic dX13_init_673 kI_0 ?_
  refine l_wi dX13_init_674 (fun h1 => ?_)
  refine l_pure dX13_init_675 rfl rfl ?_
  refine l_bi dX13_init_676 kB_8 ?_
  refine l_ic dX13_init_678 kI_1 ?_
  refine l_wi dX13_init_679 (fun h2 => ?_)
  refine l_pure dX13_init_680 rfl rfl ?_
  refine l_bi dX13_init_681 kB_9 ?_
  refine l_ic dX13_init_683 kI_0 ?_
  refine l_wi dX13_init_684 (fun h3 => ?_)
  refine l_pf dX13_init_685 fl_12_46 (ini := true) nm_mX13_init (fun h4 => ?_)
  refine l_loc dX13_init_688 rfl rfl ?_
  refine l_bi dX13_init_689 kB_10 ?_
  refine l_ni dX13_init_691 (fun a5 h6 => ?_)
  refine l_pure dX13_init_693 rfl rfl ?_
  refine l_ic dX13_init_694 kI_0 ?_
  refine l_bi dX13_init_695 kB_16 ?_
  refine l_wi dX13_init_697 (fun h7 => ?_)
  exact l_al rfl ⟨rfl, rfl, rfl, trivial⟩
set_option maxRecDepth 16000 in
theorem w_X13_init_698 (S : xS) (x0 : Nat) (x1 : Int32) (x2 : Int32) (z0 : Nat) (z1 : Nat) (h : xH) : xle ((xWi h z0 (1 : Int32) (256 : Int32)).bind fun h1 => (xWi h1 z0 (2 : Int32) (2 : Int32)).bind fun h2 => (xWi h2 z0 (3 : Int32) (9 : Int32)).bind fun h3 => (xWi h3 z0 (4 : Int32) (16 : Int32)).bind fun h4 => (xWi h4 z0 (5 : Int32) (2 : Int32)).bind fun h5 => (xden S mX13_init 722 [(0, .ref x0), (1, .int x1), (2, .int x2)] [.ref z0, .ref z1] h5)) (xden S mX13_init 698 [(0, .ref x0), (1, .int x1), (2, .int x2)] [.ref z0, .ref z1] h) := by
  refine l_pure dX13_init_698 rfl rfl ?_
  refine l_ic dX13_init_699 kI_1 ?_
  refine l_si dX13_init_700 kS_256 ?_
  refine l_wi dX13_init_703 (fun h1 => ?_)
  refine l_pure dX13_init_704 rfl rfl ?_
  refine l_ic dX13_init_705 kI_2 ?_
  refine l_ic dX13_init_706 kI_2 ?_
  refine l_wi dX13_init_707 (fun h2 => ?_)
  refine l_pure dX13_init_708 rfl rfl ?_
  refine l_ic dX13_init_709 kI_3 ?_
  refine l_bi dX13_init_710 kB_9 ?_
  refine l_wi dX13_init_712 (fun h3 => ?_)
  refine l_pure dX13_init_713 rfl rfl ?_
  refine l_ic dX13_init_714 kI_4 ?_
  refine l_bi dX13_init_715 kB_16 ?_
  refine l_wi dX13_init_717 (fun h4 => ?_)
  refine l_pure dX13_init_718 rfl rfl ?_
  refine l_ic dX13_init_719 kI_5 ?_
  refine l_ic dX13_init_720 kI_2 ?_
  refine l_wi dX13_init_721 (fun h5 => ?_)
  exact l_al rfl ⟨rfl, rfl, rfl, trivial⟩
set_option maxRecDepth 16000 in
theorem w_X13_init_722 (S : xS) (x0 : Nat) (x1 : Int32) (x2 : Int32) (z0 : Nat) (z1 : Nat) (h : xH) : xle ((xWi h z0 (6 : Int32) (1 : Int32)).bind fun h1 => (xWi h1 z0 (7 : Int32) (1 : Int32)).bind fun h2 => (xWi h2 z0 (8 : Int32) (99 : Int32)).bind fun h3 => (xWi h3 z0 (9 : Int32) (1 : Int32)).bind fun h4 => (xP true 12 h4 z1 12 20 (.ref z0)).bind fun h5 => xNa 0 (.inl (fun _ => 0)) (80 : Int32) h5 fun a6 h7 => (xP true 12 h7 x0 12 21 (.ref a6)).bind fun h8 => (xden S mX13_init 754 [(0, .ref x0), (1, .int x1), (2, .int x2)] [] h8)) (xden S mX13_init 722 [(0, .ref x0), (1, .int x1), (2, .int x2)] [.ref z0, .ref z1] h) := by
  refine l_pure dX13_init_722 rfl rfl ?_
  refine l_bi dX13_init_723 kB_6 ?_
  refine l_ic dX13_init_725 kI_1 ?_
  refine l_wi dX13_init_726 (fun h1 => ?_)
  refine l_pure dX13_init_727 rfl rfl ?_
  refine l_bi dX13_init_728 kB_7 ?_
  refine l_ic dX13_init_730 kI_1 ?_
  refine l_wi dX13_init_731 (fun h2 => ?_)
  refine l_pure dX13_init_732 rfl rfl ?_
  refine l_bi dX13_init_733 kB_8 ?_
  refine l_bi dX13_init_735 kB_99 ?_
  refine l_wi dX13_init_737 (fun h3 => ?_)
  refine l_pure dX13_init_738 rfl rfl ?_
  refine l_bi dX13_init_739 kB_9 ?_
  refine l_ic dX13_init_741 kI_1 ?_
  refine l_wi dX13_init_742 (fun h4 => ?_)
  refine l_pf dX13_init_743 fl_12_49 (ini := true) nm_mX13_init (fun h5 => ?_)
  refine l_loc dX13_init_746 rfl rfl ?_
  refine l_bi dX13_init_747 kB_80 ?_
  refine l_ni dX13_init_749 (fun a6 h7 => ?_)
  refine l_pf dX13_init_751 fl_12_52 (ini := true) nm_mX13_init (fun h8 => ?_)
  exact l_al rfl ⟨rfl, rfl, rfl, trivial⟩
set_option maxRecDepth 16000 in
theorem w_X13_init_754 (S : xS) (x0 : Nat) (x1 : Int32) (x2 : Int32) (h : xH) : xle (xNa 0 (.inl (fun _ => 0)) (80 : Int32) h fun a1 h2 => (xP true 12 h2 x0 12 22 (.ref a1)).bind fun h3 => xNa 0 (.inl (fun _ => 0)) (40000 : Int32) h3 fun a4 h5 => (xP true 12 h5 x0 12 24 (.ref a4)).bind fun h6 => xNa 0 (.inl (fun _ => 0)) (6 : Int32) h6 fun a7 h8 => (xP true 12 h8 x0 12 26 (.ref a7)).bind fun h9 => xNa 0 (.inl (fun _ => 0)) (6 : Int32) h9 fun a10 h11 => (xP true 12 h11 x0 12 27 (.ref a10)).bind fun h12 => xNa 0 (.inl (fun _ => 0)) (6 : Int32) h12 fun a13 h14 => (xP true 12 h14 x0 12 28 (.ref a13)).bind fun h15 => (xden S mX13_init 794 [(0, .ref x0), (1, .int x1), (2, .int x2)] [] h15)) (xden S mX13_init 754 [(0, .ref x0), (1, .int x1), (2, .int x2)] [] h) := by
  refine l_loc dX13_init_754 rfl rfl ?_
  refine l_bi dX13_init_755 kB_80 ?_
  refine l_ni dX13_init_757 (fun a1 h2 => ?_)
  refine l_pf dX13_init_759 fl_12_55 (ini := true) nm_mX13_init (fun h3 => ?_)
  refine l_loc dX13_init_762 rfl rfl ?_
  refine l_rd (st1 := [.int (40000 : Int32), .ref x0]) dX13_init_763 rfl rfl ?_
  refine l_ni dX13_init_765 (fun a4 h5 => ?_)
  refine l_pf dX13_init_767 fl_12_59 (ini := true) nm_mX13_init (fun h6 => ?_)
  refine l_loc dX13_init_770 rfl rfl ?_
  refine l_bi dX13_init_771 kB_6 ?_
  refine l_ni dX13_init_773 (fun a7 h8 => ?_)
  refine l_pf dX13_init_775 fl_12_62 (ini := true) nm_mX13_init (fun h9 => ?_)
  refine l_loc dX13_init_778 rfl rfl ?_
  refine l_bi dX13_init_779 kB_6 ?_
  refine l_ni dX13_init_781 (fun a10 h11 => ?_)
  refine l_pf dX13_init_783 fl_12_65 (ini := true) nm_mX13_init (fun h12 => ?_)
  refine l_loc dX13_init_786 rfl rfl ?_
  refine l_bi dX13_init_787 kB_6 ?_
  refine l_ni dX13_init_789 (fun a13 h14 => ?_)
  refine l_pf dX13_init_791 fl_12_68 (ini := true) nm_mX13_init (fun h15 => ?_)
  exact l_al rfl ⟨rfl, rfl, rfl, trivial⟩
set_option maxRecDepth 16000 in
theorem w_X13_init_794 (S : xS) (x0 : Nat) (x1 : Int32) (x2 : Int32) (h : xH) : xle (xNa 0 (.inl (fun _ => 0)) (6 : Int32) h fun a1 h2 => (xP true 12 h2 x0 12 29 (.ref a1)).bind fun h3 => xNa 2 (.inl (fun _ => 0)) (28672 : Int32) h3 fun a4 h5 => (xP true 12 h5 x0 12 31 (.ref a4)).bind fun h6 => xNa 0 (.inl (fun _ => 0)) (7 : Int32) h6 fun a7 h8 => (xP true 12 h8 x0 12 32 (.ref a7)).bind fun h9 => xNa 0 (.inl (fun _ => 0)) (7 : Int32) h9 fun a10 h11 => (xP true 12 h11 x0 12 33 (.ref a10)).bind fun h12 => xNa 2 (.inl (fun _ => 0)) (4096 : Int32) h12 fun a13 h14 => (xP true 12 h14 x0 12 36 (.ref a13)).bind fun h15 => (xden S mX13_init 836 [(0, .ref x0), (1, .int x1), (2, .int x2)] [] h15)) (xden S mX13_init 794 [(0, .ref x0), (1, .int x1), (2, .int x2)] [] h) := by
  refine l_loc dX13_init_794 rfl rfl ?_
  refine l_bi dX13_init_795 kB_6 ?_
  refine l_ni dX13_init_797 (fun a1 h2 => ?_)
  refine l_pf dX13_init_799 fl_12_71 (ini := true) nm_mX13_init (fun h3 => ?_)
  refine l_loc dX13_init_802 rfl rfl ?_
  refine l_si dX13_init_803 kS_28672 ?_
  refine l_nz dX13_init_806 (fun a4 h5 => ?_)
  refine l_pf dX13_init_808 fl_12_74 (ini := true) nm_mX13_init (fun h6 => ?_)
  refine l_loc dX13_init_811 rfl rfl ?_
  refine l_bi dX13_init_812 kB_7 ?_
  refine l_ni dX13_init_814 (fun a7 h8 => ?_)
  refine l_pf dX13_init_816 fl_12_77 (ini := true) nm_mX13_init (fun h9 => ?_)
  refine l_loc dX13_init_819 rfl rfl ?_
  refine l_bi dX13_init_820 kB_7 ?_
  refine l_ni dX13_init_822 (fun a10 h11 => ?_)
  refine l_pf dX13_init_824 fl_12_80 (ini := true) nm_mX13_init (fun h12 => ?_)
  refine l_loc dX13_init_827 rfl rfl ?_
  refine l_si dX13_init_828 kS_4096 ?_
  refine l_nz dX13_init_831 (fun a13 h14 => ?_)
  refine l_pf dX13_init_833 fl_12_83 (ini := true) nm_mX13_init (fun h15 => ?_)
  exact l_al rfl ⟨rfl, rfl, rfl, trivial⟩
set_option maxRecDepth 16000 in
theorem w_X13_init_836 (S : xS) (x0 : Nat) (x1 : Int32) (x2 : Int32) (h : xH) : xle (xNa 2 (.inl (fun _ => 0)) (4096 : Int32) h fun a1 h2 => (xP true 12 h2 x0 12 37 (.ref a1)).bind fun h3 => xNa 2 (.inl (fun _ => 0)) (4096 : Int32) h3 fun a4 h5 => (xP true 12 h5 x0 12 38 (.ref a4)).bind fun h6 => xNa 2 (.inl (fun _ => 0)) (4096 : Int32) h6 fun a7 h8 => (xP true 12 h8 x0 12 39 (.ref a7)).bind fun h9 => xNa 2 (.inl (fun _ => 0)) (4096 : Int32) h9 fun a10 h11 => (xP true 12 h11 x0 12 40 (.ref a10)).bind fun h12 => xNa 0 (.inl (fun _ => 0)) (256 : Int32) h12 fun a13 h14 => (xP true 12 h14 x0 12 46 (.ref a13)).bind fun h15 => (xden S mX13_init 881 [(0, .ref x0), (1, .int x1), (2, .int x2)] [] h15)) (xden S mX13_init 836 [(0, .ref x0), (1, .int x1), (2, .int x2)] [] h) := by
  refine l_loc dX13_init_836 rfl rfl ?_
  refine l_si dX13_init_837 kS_4096 ?_
  refine l_nz dX13_init_840 (fun a1 h2 => ?_)
  refine l_pf dX13_init_842 fl_12_86 (ini := true) nm_mX13_init (fun h3 => ?_)
  refine l_loc dX13_init_845 rfl rfl ?_
  refine l_si dX13_init_846 kS_4096 ?_
  refine l_nz dX13_init_849 (fun a4 h5 => ?_)
  refine l_pf dX13_init_851 fl_12_89 (ini := true) nm_mX13_init (fun h6 => ?_)
  refine l_loc dX13_init_854 rfl rfl ?_
  refine l_si dX13_init_855 kS_4096 ?_
  refine l_nz dX13_init_858 (fun a7 h8 => ?_)
  refine l_pf dX13_init_860 fl_12_92 (ini := true) nm_mX13_init (fun h9 => ?_)
  refine l_loc dX13_init_863 rfl rfl ?_
  refine l_si dX13_init_864 kS_4096 ?_
  refine l_nz dX13_init_867 (fun a10 h11 => ?_)
  refine l_pf dX13_init_869 fl_12_95 (ini := true) nm_mX13_init (fun h12 => ?_)
  refine l_loc dX13_init_872 rfl rfl ?_
  refine l_si dX13_init_873 kS_256 ?_
  refine l_ni dX13_init_876 (fun a13 h14 => ?_)
  refine l_pf dX13_init_878 fl_12_98 (ini := true) nm_mX13_init (fun h15 => ?_)
  exact l_al rfl ⟨rfl, rfl, rfl, trivial⟩
set_option maxRecDepth 16000 in
theorem w_X13_init_881 (S : xS) (x0 : Nat) (x1 : Int32) (x2 : Int32) (h : xH) : xle (xNa 0 (.inl (fun _ => 0)) (256 : Int32) h fun a1 h2 => (xP true 12 h2 x0 12 47 (.ref a1)).bind fun h3 => xNa 2 (.inl (fun _ => 0)) (4096 : Int32) h3 fun a4 h5 => (xP true 12 h5 x0 12 52 (.ref a4)).bind fun h6 => xNa 2 (.inl (fun _ => 0)) (4096 : Int32) h6 fun a7 h8 => (xP true 12 h8 x0 12 53 (.ref a7)).bind fun h9 => xNa 0 (.inl (fun _ => 0)) (256 : Int32) h9 fun a10 h11 => (xP true 12 h11 x0 12 57 (.ref a10)).bind fun h12 => xNa 0 (.inl (fun _ => 0)) (256 : Int32) h12 fun a13 h14 => (xP true 12 h14 x0 12 58 (.ref a13)).bind fun h15 => (xden S mX13_init 926 [(0, .ref x0), (1, .int x1), (2, .int x2)] [] h15)) (xden S mX13_init 881 [(0, .ref x0), (1, .int x1), (2, .int x2)] [] h) := by
  refine l_loc dX13_init_881 rfl rfl ?_
  refine l_si dX13_init_882 kS_256 ?_
  refine l_ni dX13_init_885 (fun a1 h2 => ?_)
  refine l_pf dX13_init_887 fl_12_101 (ini := true) nm_mX13_init (fun h3 => ?_)
  refine l_loc dX13_init_890 rfl rfl ?_
  refine l_si dX13_init_891 kS_4096 ?_
  refine l_nz dX13_init_894 (fun a4 h5 => ?_)
  refine l_pf dX13_init_896 fl_12_104 (ini := true) nm_mX13_init (fun h6 => ?_)
  refine l_loc dX13_init_899 rfl rfl ?_
  refine l_si dX13_init_900 kS_4096 ?_
  refine l_nz dX13_init_903 (fun a7 h8 => ?_)
  refine l_pf dX13_init_905 fl_12_107 (ini := true) nm_mX13_init (fun h9 => ?_)
  refine l_loc dX13_init_908 rfl rfl ?_
  refine l_si dX13_init_909 kS_256 ?_
  refine l_ni dX13_init_912 (fun a10 h11 => ?_)
  refine l_pf dX13_init_914 fl_12_110 (ini := true) nm_mX13_init (fun h12 => ?_)
  refine l_loc dX13_init_917 rfl rfl ?_
  refine l_si dX13_init_918 kS_256 ?_
  refine l_ni dX13_init_921 (fun a13 h14 => ?_)
  refine l_pf dX13_init_923 fl_12_113 (ini := true) nm_mX13_init (fun h15 => ?_)
  exact l_al rfl ⟨rfl, rfl, rfl, trivial⟩
set_option maxRecDepth 16000 in
theorem w_X13_init_926 (S : xS) (x0 : Nat) (x1 : Int32) (x2 : Int32) (h : xH) : xle (xNa 0 (.inl (fun _ => 0)) (256 : Int32) h fun a1 h2 => (xP true 12 h2 x0 12 60 (.ref a1)).bind fun h3 => xNa 0 (.inl (fun _ => 0)) (256 : Int32) h3 fun a4 h5 => (xP true 12 h5 x0 12 61 (.ref a4)).bind fun h6 => xNa 0 (.inl (fun _ => 0)) (256 : Int32) h6 fun a7 h8 => (xP true 12 h8 x0 12 62 (.ref a7)).bind fun h9 => xNa 0 (.inl (fun _ => 0)) (256 : Int32) h9 fun a10 h11 => (xP true 12 h11 x0 12 63 (.ref a10)).bind fun h12 => xNa 0 (.inl (fun _ => 0)) (256 : Int32) h12 fun a13 h14 => (xP true 12 h14 x0 12 64 (.ref a13)).bind fun h15 => (xden S mX13_init 971 [(0, .ref x0), (1, .int x1), (2, .int x2)] [] h15)) (xden S mX13_init 926 [(0, .ref x0), (1, .int x1), (2, .int x2)] [] h) := by
  refine l_loc dX13_init_926 rfl rfl ?_
  refine l_si dX13_init_927 kS_256 ?_
  refine l_ni dX13_init_930 (fun a1 h2 => ?_)
  refine l_pf dX13_init_932 fl_12_116 (ini := true) nm_mX13_init (fun h3 => ?_)
  refine l_loc dX13_init_935 rfl rfl ?_
  refine l_si dX13_init_936 kS_256 ?_
  refine l_ni dX13_init_939 (fun a4 h5 => ?_)
  refine l_pf dX13_init_941 fl_12_119 (ini := true) nm_mX13_init (fun h6 => ?_)
  refine l_loc dX13_init_944 rfl rfl ?_
  refine l_si dX13_init_945 kS_256 ?_
  refine l_ni dX13_init_948 (fun a7 h8 => ?_)
  refine l_pf dX13_init_950 fl_12_122 (ini := true) nm_mX13_init (fun h9 => ?_)
  refine l_loc dX13_init_953 rfl rfl ?_
  refine l_si dX13_init_954 kS_256 ?_
  refine l_ni dX13_init_957 (fun a10 h11 => ?_)
  refine l_pf dX13_init_959 fl_12_125 (ini := true) nm_mX13_init (fun h12 => ?_)
  refine l_loc dX13_init_962 rfl rfl ?_
  refine l_si dX13_init_963 kS_256 ?_
  refine l_ni dX13_init_966 (fun a13 h14 => ?_)
  refine l_pf dX13_init_968 fl_12_128 (ini := true) nm_mX13_init (fun h15 => ?_)
  exact l_al rfl ⟨rfl, rfl, rfl, trivial⟩
set_option maxRecDepth 16000 in
theorem w_X13_init_971 (S : xS) (x0 : Nat) (x1 : Int32) (x2 : Int32) (h : xH) : xle (xNa 0 (.inl (fun _ => 0)) (256 : Int32) h fun a1 h2 => (xP true 12 h2 x0 12 65 (.ref a1)).bind fun h3 => xNa 0 (.inl (fun _ => 0)) (256 : Int32) h3 fun a4 h5 => (xP true 12 h5 x0 12 66 (.ref a4)).bind fun h6 => xNa 0 (.inl (fun _ => 0)) (256 : Int32) h6 fun a7 h8 => (xP true 12 h8 x0 12 67 (.ref a7)).bind fun h9 => xNa 2 (.inl (fun _ => 0)) (256 : Int32) h9 fun a10 h11 => (xP true 12 h11 x0 12 68 (.ref a10)).bind fun h12 => xNa 0 (.inl (fun _ => 0)) (256 : Int32) h12 fun a13 h14 => (xP true 12 h14 x0 12 69 (.ref a13)).bind fun h15 => (xden S mX13_init 1016 [(0, .ref x0), (1, .int x1), (2, .int x2)] [] h15)) (xden S mX13_init 971 [(0, .ref x0), (1, .int x1), (2, .int x2)] [] h) := by
  refine l_loc dX13_init_971 rfl rfl ?_
  refine l_si dX13_init_972 kS_256 ?_
  refine l_ni dX13_init_975 (fun a1 h2 => ?_)
  refine l_pf dX13_init_977 fl_12_131 (ini := true) nm_mX13_init (fun h3 => ?_)
  refine l_loc dX13_init_980 rfl rfl ?_
  refine l_si dX13_init_981 kS_256 ?_
  refine l_ni dX13_init_984 (fun a4 h5 => ?_)
  refine l_pf dX13_init_986 fl_12_134 (ini := true) nm_mX13_init (fun h6 => ?_)
  refine l_loc dX13_init_989 rfl rfl ?_
  refine l_si dX13_init_990 kS_256 ?_
  refine l_ni dX13_init_993 (fun a7 h8 => ?_)
  refine l_pf dX13_init_995 fl_12_137 (ini := true) nm_mX13_init (fun h9 => ?_)
  refine l_loc dX13_init_998 rfl rfl ?_
  refine l_si dX13_init_999 kS_256 ?_
  refine l_nz dX13_init_1002 (fun a10 h11 => ?_)
  refine l_pf dX13_init_1004 fl_12_140 (ini := true) nm_mX13_init (fun h12 => ?_)
  refine l_loc dX13_init_1007 rfl rfl ?_
  refine l_si dX13_init_1008 kS_256 ?_
  refine l_ni dX13_init_1011 (fun a13 h14 => ?_)
  refine l_pf dX13_init_1013 fl_12_143 (ini := true) nm_mX13_init (fun h15 => ?_)
  exact l_al rfl ⟨rfl, rfl, rfl, trivial⟩
set_option maxRecDepth 16000 in
theorem w_X13_init_1016 (S : xS) (x0 : Nat) (x1 : Int32) (x2 : Int32) (h : xH) : xle (xNa 0 (.inl (fun _ => 0)) (512 : Int32) h fun a1 h2 => (xP true 12 h2 x0 12 70 (.ref a1)).bind fun h3 => xNa 0 (.inl (fun _ => 0)) (512 : Int32) h3 fun a4 h5 => (xP true 12 h5 x0 12 71 (.ref a4)).bind fun h6 => xNa 0 (.inl (fun _ => 0)) (512 : Int32) h6 fun a7 h8 => (xP true 12 h8 x0 12 72 (.ref a7)).bind fun h9 => xNa 0 (.inl (fun _ => 0)) (512 : Int32) h9 fun a10 h11 => (xP true 12 h11 x0 12 73 (.ref a10)).bind fun h12 => xNa 0 (.inl (fun _ => 0)) (512 : Int32) h12 fun a13 h14 => (xP true 12 h14 x0 12 74 (.ref a13)).bind fun h15 => (xden S mX13_init 1061 [(0, .ref x0), (1, .int x1), (2, .int x2)] [] h15)) (xden S mX13_init 1016 [(0, .ref x0), (1, .int x1), (2, .int x2)] [] h) := by
  refine l_loc dX13_init_1016 rfl rfl ?_
  refine l_si dX13_init_1017 kS_512 ?_
  refine l_ni dX13_init_1020 (fun a1 h2 => ?_)
  refine l_pf dX13_init_1022 fl_12_146 (ini := true) nm_mX13_init (fun h3 => ?_)
  refine l_loc dX13_init_1025 rfl rfl ?_
  refine l_si dX13_init_1026 kS_512 ?_
  refine l_ni dX13_init_1029 (fun a4 h5 => ?_)
  refine l_pf dX13_init_1031 fl_12_149 (ini := true) nm_mX13_init (fun h6 => ?_)
  refine l_loc dX13_init_1034 rfl rfl ?_
  refine l_si dX13_init_1035 kS_512 ?_
  refine l_ni dX13_init_1038 (fun a7 h8 => ?_)
  refine l_pf dX13_init_1040 fl_12_152 (ini := true) nm_mX13_init (fun h9 => ?_)
  refine l_loc dX13_init_1043 rfl rfl ?_
  refine l_si dX13_init_1044 kS_512 ?_
  refine l_ni dX13_init_1047 (fun a10 h11 => ?_)
  refine l_pf dX13_init_1049 fl_12_155 (ini := true) nm_mX13_init (fun h12 => ?_)
  refine l_loc dX13_init_1052 rfl rfl ?_
  refine l_si dX13_init_1053 kS_512 ?_
  refine l_ni dX13_init_1056 (fun a13 h14 => ?_)
  refine l_pf dX13_init_1058 fl_12_158 (ini := true) nm_mX13_init (fun h15 => ?_)
  exact l_al rfl ⟨rfl, rfl, rfl, trivial⟩
set_option maxRecDepth 16000 in
theorem w_X13_init_1061 (S : xS) (x0 : Nat) (x1 : Int32) (x2 : Int32) (h : xH) : xle (xNa 2 (.inl (fun _ => 0)) (512 : Int32) h fun a1 h2 => (xP true 12 h2 x0 12 75 (.ref a1)).bind fun h3 => xNa 0 (.inl (fun _ => 0)) (512 : Int32) h3 fun a4 h5 => (xP true 12 h5 x0 12 76 (.ref a4)).bind fun h6 => xNa 0 (.inl (fun _ => 0)) (512 : Int32) h6 fun a7 h8 => (xP true 12 h8 x0 12 77 (.ref a7)).bind fun h9 => xNa 0 (.inl (fun _ => 0)) (512 : Int32) h9 fun a10 h11 => (xP true 12 h11 x0 12 78 (.ref a10)).bind fun h12 => xNa 0 (.inl (fun _ => 0)) (512 : Int32) h12 fun a13 h14 => (xP true 12 h14 x0 12 80 (.ref a13)).bind fun h15 => (xden S mX13_init 1106 [(0, .ref x0), (1, .int x1), (2, .int x2)] [] h15)) (xden S mX13_init 1061 [(0, .ref x0), (1, .int x1), (2, .int x2)] [] h) := by
  refine l_loc dX13_init_1061 rfl rfl ?_
  refine l_si dX13_init_1062 kS_512 ?_
  refine l_nz dX13_init_1065 (fun a1 h2 => ?_)
  refine l_pf dX13_init_1067 fl_12_161 (ini := true) nm_mX13_init (fun h3 => ?_)
  refine l_loc dX13_init_1070 rfl rfl ?_
  refine l_si dX13_init_1071 kS_512 ?_
  refine l_ni dX13_init_1074 (fun a4 h5 => ?_)
  refine l_pf dX13_init_1076 fl_12_164 (ini := true) nm_mX13_init (fun h6 => ?_)
  refine l_loc dX13_init_1079 rfl rfl ?_
  refine l_si dX13_init_1080 kS_512 ?_
  refine l_ni dX13_init_1083 (fun a7 h8 => ?_)
  refine l_pf dX13_init_1085 fl_12_167 (ini := true) nm_mX13_init (fun h9 => ?_)
  refine l_loc dX13_init_1088 rfl rfl ?_
  refine l_si dX13_init_1089 kS_512 ?_
  refine l_ni dX13_init_1092 (fun a10 h11 => ?_)
  refine l_pf dX13_init_1094 fl_12_170 (ini := true) nm_mX13_init (fun h12 => ?_)
  refine l_loc dX13_init_1097 rfl rfl ?_
  refine l_si dX13_init_1098 kS_512 ?_
  refine l_ni dX13_init_1101 (fun a13 h14 => ?_)
  refine l_pf dX13_init_1103 fl_12_173 (ini := true) nm_mX13_init (fun h15 => ?_)
  exact l_al rfl ⟨rfl, rfl, rfl, trivial⟩
set_option maxRecDepth 16000 in
theorem w_X13_init_1106 (S : xS) (x0 : Nat) (x1 : Int32) (x2 : Int32) (h : xH) : xle (xNa 3 (.inl (fun _ => 0)) (85 : Int32) h fun a1 h2 => (xWc h2 a1 (0 : Int32) (115 : Int32)).bind fun h3 => (xWc h3 a1 (1 : Int32) (104 : Int32)).bind fun h4 => (xWc h4 a1 (2 : Int32) (105 : Int32)).bind fun h5 => (xWc h5 a1 (3 : Int32) (102 : Int32)).bind fun h6 => (xWc h6 a1 (4 : Int32) (116 : Int32)).bind fun h7 => (xden S mX13_init 1136 [(0, .ref x0), (1, .int x1), (2, .int x2)] [.ref a1, .ref x0] h7)) (xden S mX13_init 1106 [(0, .ref x0), (1, .int x1), (2, .int x2)] [] h) := by
  refine l_loc dX13_init_1106 rfl rfl ?_
  refine l_bi dX13_init_1107 kB_85 ?_
  refine l_nc dX13_init_1109 (fun a1 h2 => ?_)
  refine l_pure dX13_init_1111 rfl rfl ?_
  refine l_ic dX13_init_1112 kI_0 ?_
  refine l_bi dX13_init_1113 kB_115 ?_
  refine l_wc dX13_init_1115 (fun h3 => ?_)
  refine l_pure dX13_init_1116 rfl rfl ?_
  refine l_ic dX13_init_1117 kI_1 ?_
  refine l_bi dX13_init_1118 kB_104 ?_
  refine l_wc dX13_init_1120 (fun h4 => ?_)
  refine l_pure dX13_init_1121 rfl rfl ?_
  refine l_ic dX13_init_1122 kI_2 ?_
  refine l_bi dX13_init_1123 kB_105 ?_
  refine l_wc dX13_init_1125 (fun h5 => ?_)
  refine l_pure dX13_init_1126 rfl rfl ?_
  refine l_ic dX13_init_1127 kI_3 ?_
  refine l_bi dX13_init_1128 kB_102 ?_
  refine l_wc dX13_init_1130 (fun h6 => ?_)
  refine l_pure dX13_init_1131 rfl rfl ?_
  refine l_ic dX13_init_1132 kI_4 ?_
  refine l_bi dX13_init_1133 kB_116 ?_
  refine l_wc dX13_init_1135 (fun h7 => ?_)
  exact l_al rfl ⟨rfl, rfl, rfl, trivial⟩
set_option maxRecDepth 16000 in
theorem w_X13_init_1136 (S : xS) (x0 : Nat) (x1 : Int32) (x2 : Int32) (z0 : Nat) (z1 : Nat) (h : xH) : xle ((xWc h z0 (5 : Int32) (32 : Int32)).bind fun h1 => (xWc h1 z0 (6 : Int32) (59 : Int32)).bind fun h2 => (xWc h2 z0 (7 : Int32) (32 : Int32)).bind fun h3 => (xWc h3 z0 (8 : Int32) (115 : Int32)).bind fun h4 => (xWc h4 z0 (9 : Int32) (107 : Int32)).bind fun h5 => (xden S mX13_init 1165 [(0, .ref x0), (1, .int x1), (2, .int x2)] [.ref z0, .ref z1] h5)) (xden S mX13_init 1136 [(0, .ref x0), (1, .int x1), (2, .int x2)] [.ref z0, .ref z1] h) := by
  refine l_pure dX13_init_1136 rfl rfl ?_
  refine l_ic dX13_init_1137 kI_5 ?_
  refine l_bi dX13_init_1138 kB_32 ?_
  refine l_wc dX13_init_1140 (fun h1 => ?_)
  refine l_pure dX13_init_1141 rfl rfl ?_
  refine l_bi dX13_init_1142 kB_6 ?_
  refine l_bi dX13_init_1144 kB_59 ?_
  refine l_wc dX13_init_1146 (fun h2 => ?_)
  refine l_pure dX13_init_1147 rfl rfl ?_
  refine l_bi dX13_init_1148 kB_7 ?_
  refine l_bi dX13_init_1150 kB_32 ?_
  refine l_wc dX13_init_1152 (fun h3 => ?_)
  refine l_pure dX13_init_1153 rfl rfl ?_
  refine l_bi dX13_init_1154 kB_8 ?_
  refine l_bi dX13_init_1156 kB_115 ?_
  refine l_wc dX13_init_1158 (fun h4 => ?_)
  refine l_pure dX13_init_1159 rfl rfl ?_
  refine l_bi dX13_init_1160 kB_9 ?_
  refine l_bi dX13_init_1162 kB_107 ?_
  refine l_wc dX13_init_1164 (fun h5 => ?_)
  exact l_al rfl ⟨rfl, rfl, rfl, trivial⟩
set_option maxRecDepth 16000 in
theorem w_X13_init_1165 (S : xS) (x0 : Nat) (x1 : Int32) (x2 : Int32) (z0 : Nat) (z1 : Nat) (h : xH) : xle ((xWc h z0 (10 : Int32) (101 : Int32)).bind fun h1 => (xWc h1 z0 (11 : Int32) (119 : Int32)).bind fun h2 => (xWc h2 z0 (12 : Int32) (32 : Int32)).bind fun h3 => (xWc h3 z0 (13 : Int32) (59 : Int32)).bind fun h4 => (xWc h4 z0 (14 : Int32) (32 : Int32)).bind fun h5 => (xden S mX13_init 1195 [(0, .ref x0), (1, .int x1), (2, .int x2)] [.ref z0, .ref z1] h5)) (xden S mX13_init 1165 [(0, .ref x0), (1, .int x1), (2, .int x2)] [.ref z0, .ref z1] h) := by
  refine l_pure dX13_init_1165 rfl rfl ?_
  refine l_bi dX13_init_1166 kB_10 ?_
  refine l_bi dX13_init_1168 kB_101 ?_
  refine l_wc dX13_init_1170 (fun h1 => ?_)
  refine l_pure dX13_init_1171 rfl rfl ?_
  refine l_bi dX13_init_1172 kB_11 ?_
  refine l_bi dX13_init_1174 kB_119 ?_
  refine l_wc dX13_init_1176 (fun h2 => ?_)
  refine l_pure dX13_init_1177 rfl rfl ?_
  refine l_bi dX13_init_1178 kB_12 ?_
  refine l_bi dX13_init_1180 kB_32 ?_
  refine l_wc dX13_init_1182 (fun h3 => ?_)
  refine l_pure dX13_init_1183 rfl rfl ?_
  refine l_bi dX13_init_1184 kB_13 ?_
  refine l_bi dX13_init_1186 kB_59 ?_
  refine l_wc dX13_init_1188 (fun h4 => ?_)
  refine l_pure dX13_init_1189 rfl rfl ?_
  refine l_bi dX13_init_1190 kB_14 ?_
  refine l_bi dX13_init_1192 kB_32 ?_
  refine l_wc dX13_init_1194 (fun h5 => ?_)
  exact l_al rfl ⟨rfl, rfl, rfl, trivial⟩
set_option maxRecDepth 16000 in
theorem w_X13_init_1195 (S : xS) (x0 : Nat) (x1 : Int32) (x2 : Int32) (z0 : Nat) (z1 : Nat) (h : xH) : xle ((xWc h z0 (15 : Int32) (116 : Int32)).bind fun h1 => (xWc h1 z0 (16 : Int32) (117 : Int32)).bind fun h2 => (xWc h2 z0 (17 : Int32) (114 : Int32)).bind fun h3 => (xWc h3 z0 (18 : Int32) (110 : Int32)).bind fun h4 => (xWc h4 z0 (19 : Int32) (101 : Int32)).bind fun h5 => (xden S mX13_init 1225 [(0, .ref x0), (1, .int x1), (2, .int x2)] [.ref z0, .ref z1] h5)) (xden S mX13_init 1195 [(0, .ref x0), (1, .int x1), (2, .int x2)] [.ref z0, .ref z1] h) := by
  refine l_pure dX13_init_1195 rfl rfl ?_
  refine l_bi dX13_init_1196 kB_15 ?_
  refine l_bi dX13_init_1198 kB_116 ?_
  refine l_wc dX13_init_1200 (fun h1 => ?_)
  refine l_pure dX13_init_1201 rfl rfl ?_
  refine l_bi dX13_init_1202 kB_16 ?_
  refine l_bi dX13_init_1204 kB_117 ?_
  refine l_wc dX13_init_1206 (fun h2 => ?_)
  refine l_pure dX13_init_1207 rfl rfl ?_
  refine l_bi dX13_init_1208 kB_17 ?_
  refine l_bi dX13_init_1210 kB_114 ?_
  refine l_wc dX13_init_1212 (fun h3 => ?_)
  refine l_pure dX13_init_1213 rfl rfl ?_
  refine l_bi dX13_init_1214 kB_18 ?_
  refine l_bi dX13_init_1216 kB_110 ?_
  refine l_wc dX13_init_1218 (fun h4 => ?_)
  refine l_pure dX13_init_1219 rfl rfl ?_
  refine l_bi dX13_init_1220 kB_19 ?_
  refine l_bi dX13_init_1222 kB_101 ?_
  refine l_wc dX13_init_1224 (fun h5 => ?_)
  exact l_al rfl ⟨rfl, rfl, rfl, trivial⟩
set_option maxRecDepth 16000 in
theorem w_X13_init_1225 (S : xS) (x0 : Nat) (x1 : Int32) (x2 : Int32) (z0 : Nat) (z1 : Nat) (h : xH) : xle ((xWc h z0 (20 : Int32) (100 : Int32)).bind fun h1 => (xWc h1 z0 (21 : Int32) (59 : Int32)).bind fun h2 => (xWc h2 z0 (22 : Int32) (32 : Int32)).bind fun h3 => (xWc h3 z0 (23 : Int32) (99 : Int32)).bind fun h4 => (xWc h4 z0 (24 : Int32) (104 : Int32)).bind fun h5 => (xden S mX13_init 1255 [(0, .ref x0), (1, .int x1), (2, .int x2)] [.ref z0, .ref z1] h5)) (xden S mX13_init 1225 [(0, .ref x0), (1, .int x1), (2, .int x2)] [.ref z0, .ref z1] h) := by
  refine l_pure dX13_init_1225 rfl rfl ?_
  refine l_bi dX13_init_1226 kB_20 ?_
  refine l_bi dX13_init_1228 kB_100 ?_
  refine l_wc dX13_init_1230 (fun h1 => ?_)
  refine l_pure dX13_init_1231 rfl rfl ?_
  refine l_bi dX13_init_1232 kB_21 ?_
  refine l_bi dX13_init_1234 kB_59 ?_
  refine l_wc dX13_init_1236 (fun h2 => ?_)
  refine l_pure dX13_init_1237 rfl rfl ?_
  refine l_bi dX13_init_1238 kB_22 ?_
  refine l_bi dX13_init_1240 kB_32 ?_
  refine l_wc dX13_init_1242 (fun h3 => ?_)
  refine l_pure dX13_init_1243 rfl rfl ?_
  refine l_bi dX13_init_1244 kB_23 ?_
  refine l_bi dX13_init_1246 kB_99 ?_
  refine l_wc dX13_init_1248 (fun h4 => ?_)
  refine l_pure dX13_init_1249 rfl rfl ?_
  refine l_bi dX13_init_1250 kB_24 ?_
  refine l_bi dX13_init_1252 kB_104 ?_
  refine l_wc dX13_init_1254 (fun h5 => ?_)
  exact l_al rfl ⟨rfl, rfl, rfl, trivial⟩
set_option maxRecDepth 16000 in
theorem w_X13_init_1255 (S : xS) (x0 : Nat) (x1 : Int32) (x2 : Int32) (z0 : Nat) (z1 : Nat) (h : xH) : xle ((xWc h z0 (25 : Int32) (97 : Int32)).bind fun h1 => (xWc h1 z0 (26 : Int32) (110 : Int32)).bind fun h2 => (xWc h2 z0 (27 : Int32) (103 : Int32)).bind fun h3 => (xWc h3 z0 (28 : Int32) (101 : Int32)).bind fun h4 => (xWc h4 z0 (29 : Int32) (59 : Int32)).bind fun h5 => (xden S mX13_init 1285 [(0, .ref x0), (1, .int x1), (2, .int x2)] [.ref z0, .ref z1] h5)) (xden S mX13_init 1255 [(0, .ref x0), (1, .int x1), (2, .int x2)] [.ref z0, .ref z1] h) := by
  refine l_pure dX13_init_1255 rfl rfl ?_
  refine l_bi dX13_init_1256 kB_25 ?_
  refine l_bi dX13_init_1258 kB_97 ?_
  refine l_wc dX13_init_1260 (fun h1 => ?_)
  refine l_pure dX13_init_1261 rfl rfl ?_
  refine l_bi dX13_init_1262 kB_26 ?_
  refine l_bi dX13_init_1264 kB_110 ?_
  refine l_wc dX13_init_1266 (fun h2 => ?_)
  refine l_pure dX13_init_1267 rfl rfl ?_
  refine l_bi dX13_init_1268 kB_27 ?_
  refine l_bi dX13_init_1270 kB_103 ?_
  refine l_wc dX13_init_1272 (fun h3 => ?_)
  refine l_pure dX13_init_1273 rfl rfl ?_
  refine l_bi dX13_init_1274 kB_28 ?_
  refine l_bi dX13_init_1276 kB_101 ?_
  refine l_wc dX13_init_1278 (fun h4 => ?_)
  refine l_pure dX13_init_1279 rfl rfl ?_
  refine l_bi dX13_init_1280 kB_29 ?_
  refine l_bi dX13_init_1282 kB_59 ?_
  refine l_wc dX13_init_1284 (fun h5 => ?_)
  exact l_al rfl ⟨rfl, rfl, rfl, trivial⟩
set_option maxRecDepth 16000 in
theorem w_X13_init_1285 (S : xS) (x0 : Nat) (x1 : Int32) (x2 : Int32) (z0 : Nat) (z1 : Nat) (h : xH) : xle ((xWc h z0 (30 : Int32) (114 : Int32)).bind fun h1 => (xWc h1 z0 (31 : Int32) (101 : Int32)).bind fun h2 => (xWc h2 z0 (32 : Int32) (109 : Int32)).bind fun h3 => (xWc h3 z0 (33 : Int32) (111 : Int32)).bind fun h4 => (xWc h4 z0 (34 : Int32) (118 : Int32)).bind fun h5 => (xden S mX13_init 1315 [(0, .ref x0), (1, .int x1), (2, .int x2)] [.ref z0, .ref z1] h5)) (xden S mX13_init 1285 [(0, .ref x0), (1, .int x1), (2, .int x2)] [.ref z0, .ref z1] h) := by
  refine l_pure dX13_init_1285 rfl rfl ?_
  refine l_bi dX13_init_1286 kB_30 ?_
  refine l_bi dX13_init_1288 kB_114 ?_
  refine l_wc dX13_init_1290 (fun h1 => ?_)
  refine l_pure dX13_init_1291 rfl rfl ?_
  refine l_bi dX13_init_1292 kB_31 ?_
  refine l_bi dX13_init_1294 kB_101 ?_
  refine l_wc dX13_init_1296 (fun h2 => ?_)
  refine l_pure dX13_init_1297 rfl rfl ?_
  refine l_bi dX13_init_1298 kB_32 ?_
  refine l_bi dX13_init_1300 kB_109 ?_
  refine l_wc dX13_init_1302 (fun h3 => ?_)
  refine l_pure dX13_init_1303 rfl rfl ?_
  refine l_bi dX13_init_1304 kB_33 ?_
  refine l_bi dX13_init_1306 kB_111 ?_
  refine l_wc dX13_init_1308 (fun h4 => ?_)
  refine l_pure dX13_init_1309 rfl rfl ?_
  refine l_bi dX13_init_1310 kB_34 ?_
  refine l_bi dX13_init_1312 kB_118 ?_
  refine l_wc dX13_init_1314 (fun h5 => ?_)
  exact l_al rfl ⟨rfl, rfl, rfl, trivial⟩
set_option maxRecDepth 16000 in
theorem w_X13_init_1315 (S : xS) (x0 : Nat) (x1 : Int32) (x2 : Int32) (z0 : Nat) (z1 : Nat) (h : xH) : xle ((xWc h z0 (35 : Int32) (101 : Int32)).bind fun h1 => (xWc h1 z0 (36 : Int32) (100 : Int32)).bind fun h2 => (xWc h2 z0 (37 : Int32) (32 : Int32)).bind fun h3 => (xWc h3 z0 (38 : Int32) (59 : Int32)).bind fun h4 => (xWc h4 z0 (39 : Int32) (97 : Int32)).bind fun h5 => (xden S mX13_init 1345 [(0, .ref x0), (1, .int x1), (2, .int x2)] [.ref z0, .ref z1] h5)) (xden S mX13_init 1315 [(0, .ref x0), (1, .int x1), (2, .int x2)] [.ref z0, .ref z1] h) := by
  refine l_pure dX13_init_1315 rfl rfl ?_
  refine l_bi dX13_init_1316 kB_35 ?_
  refine l_bi dX13_init_1318 kB_101 ?_
  refine l_wc dX13_init_1320 (fun h1 => ?_)
  refine l_pure dX13_init_1321 rfl rfl ?_
  refine l_bi dX13_init_1322 kB_36 ?_
  refine l_bi dX13_init_1324 kB_100 ?_
  refine l_wc dX13_init_1326 (fun h2 => ?_)
  refine l_pure dX13_init_1327 rfl rfl ?_
  refine l_bi dX13_init_1328 kB_37 ?_
  refine l_bi dX13_init_1330 kB_32 ?_
  refine l_wc dX13_init_1332 (fun h3 => ?_)
  refine l_pure dX13_init_1333 rfl rfl ?_
  refine l_bi dX13_init_1334 kB_38 ?_
  refine l_bi dX13_init_1336 kB_59 ?_
  refine l_wc dX13_init_1338 (fun h4 => ?_)
  refine l_pure dX13_init_1339 rfl rfl ?_
  refine l_bi dX13_init_1340 kB_39 ?_
  refine l_bi dX13_init_1342 kB_97 ?_
  refine l_wc dX13_init_1344 (fun h5 => ?_)
  exact l_al rfl ⟨rfl, rfl, rfl, trivial⟩
set_option maxRecDepth 16000 in
theorem w_X13_init_1345 (S : xS) (x0 : Nat) (x1 : Int32) (x2 : Int32) (z0 : Nat) (z1 : Nat) (h : xH) : xle ((xWc h z0 (40 : Int32) (100 : Int32)).bind fun h1 => (xWc h1 z0 (41 : Int32) (100 : Int32)).bind fun h2 => (xWc h2 z0 (42 : Int32) (101 : Int32)).bind fun h3 => (xWc h3 z0 (43 : Int32) (100 : Int32)).bind fun h4 => (xWc h4 z0 (44 : Int32) (32 : Int32)).bind fun h5 => (xden S mX13_init 1375 [(0, .ref x0), (1, .int x1), (2, .int x2)] [.ref z0, .ref z1] h5)) (xden S mX13_init 1345 [(0, .ref x0), (1, .int x1), (2, .int x2)] [.ref z0, .ref z1] h) := by
  refine l_pure dX13_init_1345 rfl rfl ?_
  refine l_bi dX13_init_1346 kB_40 ?_
  refine l_bi dX13_init_1348 kB_100 ?_
  refine l_wc dX13_init_1350 (fun h1 => ?_)
  refine l_pure dX13_init_1351 rfl rfl ?_
  refine l_bi dX13_init_1352 kB_41 ?_
  refine l_bi dX13_init_1354 kB_100 ?_
  refine l_wc dX13_init_1356 (fun h2 => ?_)
  refine l_pure dX13_init_1357 rfl rfl ?_
  refine l_bi dX13_init_1358 kB_42 ?_
  refine l_bi dX13_init_1360 kB_101 ?_
  refine l_wc dX13_init_1362 (fun h3 => ?_)
  refine l_pure dX13_init_1363 rfl rfl ?_
  refine l_bi dX13_init_1364 kB_43 ?_
  refine l_bi dX13_init_1366 kB_100 ?_
  refine l_wc dX13_init_1368 (fun h4 => ?_)
  refine l_pure dX13_init_1369 rfl rfl ?_
  refine l_bi dX13_init_1370 kB_44 ?_
  refine l_bi dX13_init_1372 kB_32 ?_
  refine l_wc dX13_init_1374 (fun h5 => ?_)
  exact l_al rfl ⟨rfl, rfl, rfl, trivial⟩
set_option maxRecDepth 16000 in
theorem w_X13_init_1375 (S : xS) (x0 : Nat) (x1 : Int32) (x2 : Int32) (z0 : Nat) (z1 : Nat) (h : xH) : xle ((xWc h z0 (45 : Int32) (59 : Int32)).bind fun h1 => (xWc h1 z0 (46 : Int32) (109 : Int32)).bind fun h2 => (xWc h2 z0 (47 : Int32) (111 : Int32)).bind fun h3 => (xWc h3 z0 (48 : Int32) (118 : Int32)).bind fun h4 => (xWc h4 z0 (49 : Int32) (101 : Int32)).bind fun h5 => (xden S mX13_init 1405 [(0, .ref x0), (1, .int x1), (2, .int x2)] [.ref z0, .ref z1] h5)) (xden S mX13_init 1375 [(0, .ref x0), (1, .int x1), (2, .int x2)] [.ref z0, .ref z1] h) := by
  refine l_pure dX13_init_1375 rfl rfl ?_
  refine l_bi dX13_init_1376 kB_45 ?_
  refine l_bi dX13_init_1378 kB_59 ?_
  refine l_wc dX13_init_1380 (fun h1 => ?_)
  refine l_pure dX13_init_1381 rfl rfl ?_
  refine l_bi dX13_init_1382 kB_46 ?_
  refine l_bi dX13_init_1384 kB_109 ?_
  refine l_wc dX13_init_1386 (fun h2 => ?_)
  refine l_pure dX13_init_1387 rfl rfl ?_
  refine l_bi dX13_init_1388 kB_47 ?_
  refine l_bi dX13_init_1390 kB_111 ?_
  refine l_wc dX13_init_1392 (fun h3 => ?_)
  refine l_pure dX13_init_1393 rfl rfl ?_
  refine l_bi dX13_init_1394 kB_48 ?_
  refine l_bi dX13_init_1396 kB_118 ?_
  refine l_wc dX13_init_1398 (fun h4 => ?_)
  refine l_pure dX13_init_1399 rfl rfl ?_
  refine l_bi dX13_init_1400 kB_49 ?_
  refine l_bi dX13_init_1402 kB_101 ?_
  refine l_wc dX13_init_1404 (fun h5 => ?_)
  exact l_al rfl ⟨rfl, rfl, rfl, trivial⟩
set_option maxRecDepth 16000 in
theorem w_X13_init_1405 (S : xS) (x0 : Nat) (x1 : Int32) (x2 : Int32) (z0 : Nat) (z1 : Nat) (h : xH) : xle ((xWc h z0 (50 : Int32) (100 : Int32)).bind fun h1 => (xWc h1 z0 (51 : Int32) (32 : Int32)).bind fun h2 => (xWc h2 z0 (52 : Int32) (59 : Int32)).bind fun h3 => (xWc h3 z0 (53 : Int32) (32 : Int32)).bind fun h4 => (xWc h4 z0 (54 : Int32) (97 : Int32)).bind fun h5 => (xden S mX13_init 1435 [(0, .ref x0), (1, .int x1), (2, .int x2)] [.ref z0, .ref z1] h5)) (xden S mX13_init 1405 [(0, .ref x0), (1, .int x1), (2, .int x2)] [.ref z0, .ref z1] h) := by
  refine l_pure dX13_init_1405 rfl rfl ?_
  refine l_bi dX13_init_1406 kB_50 ?_
  refine l_bi dX13_init_1408 kB_100 ?_
  refine l_wc dX13_init_1410 (fun h1 => ?_)
  refine l_pure dX13_init_1411 rfl rfl ?_
  refine l_bi dX13_init_1412 kB_51 ?_
  refine l_bi dX13_init_1414 kB_32 ?_
  refine l_wc dX13_init_1416 (fun h2 => ?_)
  refine l_pure dX13_init_1417 rfl rfl ?_
  refine l_bi dX13_init_1418 kB_52 ?_
  refine l_bi dX13_init_1420 kB_59 ?_
  refine l_wc dX13_init_1422 (fun h3 => ?_)
  refine l_pure dX13_init_1423 rfl rfl ?_
  refine l_bi dX13_init_1424 kB_53 ?_
  refine l_bi dX13_init_1426 kB_32 ?_
  refine l_wc dX13_init_1428 (fun h4 => ?_)
  refine l_pure dX13_init_1429 rfl rfl ?_
  refine l_bi dX13_init_1430 kB_54 ?_
  refine l_bi dX13_init_1432 kB_97 ?_
  refine l_wc dX13_init_1434 (fun h5 => ?_)
  exact l_al rfl ⟨rfl, rfl, rfl, trivial⟩
set_option maxRecDepth 16000 in
theorem w_X13_init_1435 (S : xS) (x0 : Nat) (x1 : Int32) (x2 : Int32) (z0 : Nat) (z1 : Nat) (h : xH) : xle ((xWc h z0 (55 : Int32) (116 : Int32)).bind fun h1 => (xWc h1 z0 (56 : Int32) (32 : Int32)).bind fun h2 => (xWc h2 z0 (57 : Int32) (59 : Int32)).bind fun h3 => (xWc h3 z0 (58 : Int32) (32 : Int32)).bind fun h4 => (xWc h4 z0 (59 : Int32) (115 : Int32)).bind fun h5 => (xden S mX13_init 1465 [(0, .ref x0), (1, .int x1), (2, .int x2)] [.ref z0, .ref z1] h5)) (xden S mX13_init 1435 [(0, .ref x0), (1, .int x1), (2, .int x2)] [.ref z0, .ref z1] h) := by
  refine l_pure dX13_init_1435 rfl rfl ?_
  refine l_bi dX13_init_1436 kB_55 ?_
  refine l_bi dX13_init_1438 kB_116 ?_
  refine l_wc dX13_init_1440 (fun h1 => ?_)
  refine l_pure dX13_init_1441 rfl rfl ?_
  refine l_bi dX13_init_1442 kB_56 ?_
  refine l_bi dX13_init_1444 kB_32 ?_
  refine l_wc dX13_init_1446 (fun h2 => ?_)
  refine l_pure dX13_init_1447 rfl rfl ?_
  refine l_bi dX13_init_1448 kB_57 ?_
  refine l_bi dX13_init_1450 kB_59 ?_
  refine l_wc dX13_init_1452 (fun h3 => ?_)
  refine l_pure dX13_init_1453 rfl rfl ?_
  refine l_bi dX13_init_1454 kB_58 ?_
  refine l_bi dX13_init_1456 kB_32 ?_
  refine l_wc dX13_init_1458 (fun h4 => ?_)
  refine l_pure dX13_init_1459 rfl rfl ?_
  refine l_bi dX13_init_1460 kB_59 ?_
  refine l_bi dX13_init_1462 kB_115 ?_
  refine l_wc dX13_init_1464 (fun h5 => ?_)
  exact l_al rfl ⟨rfl, rfl, rfl, trivial⟩
set_option maxRecDepth 16000 in
theorem w_X13_init_1465 (S : xS) (x0 : Nat) (x1 : Int32) (x2 : Int32) (z0 : Nat) (z1 : Nat) (h : xH) : xle ((xWc h z0 (60 : Int32) (105 : Int32)).bind fun h1 => (xWc h1 z0 (61 : Int32) (122 : Int32)).bind fun h2 => (xWc h2 z0 (62 : Int32) (101 : Int32)).bind fun h3 => (xWc h3 z0 (63 : Int32) (32 : Int32)).bind fun h4 => (xWc h4 z0 (64 : Int32) (59 : Int32)).bind fun h5 => (xden S mX13_init 1495 [(0, .ref x0), (1, .int x1), (2, .int x2)] [.ref z0, .ref z1] h5)) (xden S mX13_init 1465 [(0, .ref x0), (1, .int x1), (2, .int x2)] [.ref z0, .ref z1] h) := by
  refine l_pure dX13_init_1465 rfl rfl ?_
  refine l_bi dX13_init_1466 kB_60 ?_
  refine l_bi dX13_init_1468 kB_105 ?_
  refine l_wc dX13_init_1470 (fun h1 => ?_)
  refine l_pure dX13_init_1471 rfl rfl ?_
  refine l_bi dX13_init_1472 kB_61 ?_
  refine l_bi dX13_init_1474 kB_122 ?_
  refine l_wc dX13_init_1476 (fun h2 => ?_)
  refine l_pure dX13_init_1477 rfl rfl ?_
  refine l_bi dX13_init_1478 kB_62 ?_
  refine l_bi dX13_init_1480 kB_101 ?_
  refine l_wc dX13_init_1482 (fun h3 => ?_)
  refine l_pure dX13_init_1483 rfl rfl ?_
  refine l_bi dX13_init_1484 kB_63 ?_
  refine l_bi dX13_init_1486 kB_32 ?_
  refine l_wc dX13_init_1488 (fun h4 => ?_)
  refine l_pure dX13_init_1489 rfl rfl ?_
  refine l_bi dX13_init_1490 kB_64 ?_
  refine l_bi dX13_init_1492 kB_59 ?_
  refine l_wc dX13_init_1494 (fun h5 => ?_)
  exact l_al rfl ⟨rfl, rfl, rfl, trivial⟩
set_option maxRecDepth 16000 in
theorem w_X13_init_1495 (S : xS) (x0 : Nat) (x1 : Int32) (x2 : Int32) (z0 : Nat) (z1 : Nat) (h : xH) : xle ((xWc h z0 (65 : Int32) (32 : Int32)).bind fun h1 => (xWc h1 z0 (66 : Int32) (102 : Int32)).bind fun h2 => (xWc h2 z0 (67 : Int32) (114 : Int32)).bind fun h3 => (xWc h3 z0 (68 : Int32) (111 : Int32)).bind fun h4 => (xWc h4 z0 (69 : Int32) (109 : Int32)).bind fun h5 => (xden S mX13_init 1525 [(0, .ref x0), (1, .int x1), (2, .int x2)] [.ref z0, .ref z1] h5)) (xden S mX13_init 1495 [(0, .ref x0), (1, .int x1), (2, .int x2)] [.ref z0, .ref z1] h) := by
  refine l_pure dX13_init_1495 rfl rfl ?_
  refine l_bi dX13_init_1496 kB_65 ?_
  refine l_bi dX13_init_1498 kB_32 ?_
  refine l_wc dX13_init_1500 (fun h1 => ?_)
  refine l_pure dX13_init_1501 rfl rfl ?_
  refine l_bi dX13_init_1502 kB_66 ?_
  refine l_bi dX13_init_1504 kB_102 ?_
  refine l_wc dX13_init_1506 (fun h2 => ?_)
  refine l_pure dX13_init_1507 rfl rfl ?_
  refine l_bi dX13_init_1508 kB_67 ?_
  refine l_bi dX13_init_1510 kB_114 ?_
  refine l_wc dX13_init_1512 (fun h3 => ?_)
  refine l_pure dX13_init_1513 rfl rfl ?_
  refine l_bi dX13_init_1514 kB_68 ?_
  refine l_bi dX13_init_1516 kB_111 ?_
  refine l_wc dX13_init_1518 (fun h4 => ?_)
  refine l_pure dX13_init_1519 rfl rfl ?_
  refine l_bi dX13_init_1520 kB_69 ?_
  refine l_bi dX13_init_1522 kB_109 ?_
  refine l_wc dX13_init_1524 (fun h5 => ?_)
  exact l_al rfl ⟨rfl, rfl, rfl, trivial⟩
set_option maxRecDepth 16000 in
theorem w_X13_init_1525 (S : xS) (x0 : Nat) (x1 : Int32) (x2 : Int32) (z0 : Nat) (z1 : Nat) (h : xH) : xle ((xWc h z0 (70 : Int32) (32 : Int32)).bind fun h1 => (xWc h1 z0 (71 : Int32) (59 : Int32)).bind fun h2 => (xWc h2 z0 (72 : Int32) (32 : Int32)).bind fun h3 => (xWc h3 z0 (73 : Int32) (116 : Int32)).bind fun h4 => (xWc h4 z0 (74 : Int32) (111 : Int32)).bind fun h5 => (xden S mX13_init 1555 [(0, .ref x0), (1, .int x1), (2, .int x2)] [.ref z0, .ref z1] h5)) (xden S mX13_init 1525 [(0, .ref x0), (1, .int x1), (2, .int x2)] [.ref z0, .ref z1] h) := by
  refine l_pure dX13_init_1525 rfl rfl ?_
  refine l_bi dX13_init_1526 kB_70 ?_
  refine l_bi dX13_init_1528 kB_32 ?_
  refine l_wc dX13_init_1530 (fun h1 => ?_)
  refine l_pure dX13_init_1531 rfl rfl ?_
  refine l_bi dX13_init_1532 kB_71 ?_
  refine l_bi dX13_init_1534 kB_59 ?_
  refine l_wc dX13_init_1536 (fun h2 => ?_)
  refine l_pure dX13_init_1537 rfl rfl ?_
  refine l_bi dX13_init_1538 kB_72 ?_
  refine l_bi dX13_init_1540 kB_32 ?_
  refine l_wc dX13_init_1542 (fun h3 => ?_)
  refine l_pure dX13_init_1543 rfl rfl ?_
  refine l_bi dX13_init_1544 kB_73 ?_
  refine l_bi dX13_init_1546 kB_116 ?_
  refine l_wc dX13_init_1548 (fun h4 => ?_)
  refine l_pure dX13_init_1549 rfl rfl ?_
  refine l_bi dX13_init_1550 kB_74 ?_
  refine l_bi dX13_init_1552 kB_111 ?_
  refine l_wc dX13_init_1554 (fun h5 => ?_)
  exact l_al rfl ⟨rfl, rfl, rfl, trivial⟩
set_option maxRecDepth 16000 in
theorem w_X13_init_1555 (S : xS) (x0 : Nat) (x1 : Int32) (x2 : Int32) (z0 : Nat) (z1 : Nat) (h : xH) : xle ((xWc h z0 (75 : Int32) (32 : Int32)).bind fun h1 => (xWc h1 z0 (76 : Int32) (59 : Int32)).bind fun h2 => (xWc h2 z0 (77 : Int32) (32 : Int32)).bind fun h3 => (xWc h3 z0 (78 : Int32) (115 : Int32)).bind fun h4 => (xWc h4 z0 (79 : Int32) (116 : Int32)).bind fun h5 => (xden S mX13_init 1585 [(0, .ref x0), (1, .int x1), (2, .int x2)] [.ref z0, .ref z1] h5)) (xden S mX13_init 1555 [(0, .ref x0), (1, .int x1), (2, .int x2)] [.ref z0, .ref z1] h) := by
  refine l_pure dX13_init_1555 rfl rfl ?_
  refine l_bi dX13_init_1556 kB_75 ?_
  refine l_bi dX13_init_1558 kB_32 ?_
  refine l_wc dX13_init_1560 (fun h1 => ?_)
  refine l_pure dX13_init_1561 rfl rfl ?_
  refine l_bi dX13_init_1562 kB_76 ?_
  refine l_bi dX13_init_1564 kB_59 ?_
  refine l_wc dX13_init_1566 (fun h2 => ?_)
  refine l_pure dX13_init_1567 rfl rfl ?_
  refine l_bi dX13_init_1568 kB_77 ?_
  refine l_bi dX13_init_1570 kB_32 ?_
  refine l_wc dX13_init_1572 (fun h3 => ?_)
  refine l_pure dX13_init_1573 rfl rfl ?_
  refine l_bi dX13_init_1574 kB_78 ?_
  refine l_bi dX13_init_1576 kB_115 ?_
  refine l_wc dX13_init_1578 (fun h4 => ?_)
  refine l_pure dX13_init_1579 rfl rfl ?_
  refine l_bi dX13_init_1580 kB_79 ?_
  refine l_bi dX13_init_1582 kB_116 ?_
  refine l_wc dX13_init_1584 (fun h5 => ?_)
  exact l_al rfl ⟨rfl, rfl, rfl, trivial⟩
set_option maxRecDepth 16000 in
theorem w_X13_init_1585 (S : xS) (x0 : Nat) (x1 : Int32) (x2 : Int32) (z0 : Nat) (z1 : Nat) (h : xH) : xle ((xWc h z0 (80 : Int32) (97 : Int32)).bind fun h1 => (xWc h1 z0 (81 : Int32) (109 : Int32)).bind fun h2 => (xWc h2 z0 (82 : Int32) (112 : Int32)).bind fun h3 => (xWc h3 z0 (83 : Int32) (32 : Int32)).bind fun h4 => (xWc h4 z0 (84 : Int32) (59 : Int32)).bind fun h5 => (xden S mX13_init 1615 [(0, .ref x0), (1, .int x1), (2, .int x2)] [.ref z0, .ref z1] h5)) (xden S mX13_init 1585 [(0, .ref x0), (1, .int x1), (2, .int x2)] [.ref z0, .ref z1] h) := by
  refine l_pure dX13_init_1585 rfl rfl ?_
  refine l_bi dX13_init_1586 kB_80 ?_
  refine l_bi dX13_init_1588 kB_97 ?_
  refine l_wc dX13_init_1590 (fun h1 => ?_)
  refine l_pure dX13_init_1591 rfl rfl ?_
  refine l_bi dX13_init_1592 kB_81 ?_
  refine l_bi dX13_init_1594 kB_109 ?_
  refine l_wc dX13_init_1596 (fun h2 => ?_)
  refine l_pure dX13_init_1597 rfl rfl ?_
  refine l_bi dX13_init_1598 kB_82 ?_
  refine l_bi dX13_init_1600 kB_112 ?_
  refine l_wc dX13_init_1602 (fun h3 => ?_)
  refine l_pure dX13_init_1603 rfl rfl ?_
  refine l_bi dX13_init_1604 kB_83 ?_
  refine l_bi dX13_init_1606 kB_32 ?_
  refine l_wc dX13_init_1608 (fun h4 => ?_)
  refine l_pure dX13_init_1609 rfl rfl ?_
  refine l_bi dX13_init_1610 kB_84 ?_
  refine l_bi dX13_init_1612 kB_59 ?_
  refine l_wc dX13_init_1614 (fun h5 => ?_)
  exact l_al rfl ⟨rfl, rfl, rfl, trivial⟩
set_option maxRecDepth 16000 in
theorem w_X13_init_1615 (S : xS) (x0 : Nat) (x1 : Int32) (x2 : Int32) (z0 : Nat) (z1 : Nat) (h : xH) : xle ((xP true 12 h z1 12 81 (.ref z0)).bind fun h1 => if (8 : Int32) ≤ x1 then (if x1 ≤ (64 : Int32) then ((xP true 12 h1 x0 12 0 (.int x1)).bind fun h2 => if (8 : Int32) ≤ x2 then (if x2 ≤ (64 : Int32) then ((xP true 12 h2 x0 12 1 (.int x2)).bind fun h3 => (xden S mX13_init 1672 [(0, .ref x0)] [] h3)) else ((xP true 12 h2 x0 12 1 (.int (64 : Int32))).bind fun h4 => (xden S mX13_init 1672 [(0, .ref x0)] [] h4))) else ((xP true 12 h2 x0 12 1 (.int (8 : Int32))).bind fun h5 => (xden S mX13_init 1672 [(0, .ref x0)] [] h5))) else ((xP true 12 h1 x0 12 0 (.int (64 : Int32))).bind fun h6 => if (8 : Int32) ≤ x2 then (if x2 ≤ (64 : Int32) then ((xP true 12 h6 x0 12 1 (.int x2)).bind fun h7 => (xden S mX13_init 1672 [(0, .ref x0)] [] h7)) else ((xP true 12 h6 x0 12 1 (.int (64 : Int32))).bind fun h8 => (xden S mX13_init 1672 [(0, .ref x0)] [] h8))) else ((xP true 12 h6 x0 12 1 (.int (8 : Int32))).bind fun h9 => (xden S mX13_init 1672 [(0, .ref x0)] [] h9)))) else ((xP true 12 h1 x0 12 0 (.int (8 : Int32))).bind fun h10 => if (8 : Int32) ≤ x2 then (if x2 ≤ (64 : Int32) then ((xP true 12 h10 x0 12 1 (.int x2)).bind fun h11 => (xden S mX13_init 1672 [(0, .ref x0)] [] h11)) else ((xP true 12 h10 x0 12 1 (.int (64 : Int32))).bind fun h12 => (xden S mX13_init 1672 [(0, .ref x0)] [] h12))) else ((xP true 12 h10 x0 12 1 (.int (8 : Int32))).bind fun h13 => (xden S mX13_init 1672 [(0, .ref x0)] [] h13)))) (xden S mX13_init 1615 [(0, .ref x0), (1, .int x1), (2, .int x2)] [.ref z0, .ref z1] h) := by
  refine l_pf dX13_init_1615 fl_12_176 (ini := true) nm_mX13_init (fun h1 => ?_)
  refine l_loc dX13_init_1618 rfl rfl ?_
  refine l_loc dX13_init_1619 rfl rfl ?_
  refine l_bi dX13_init_1620 kB_8 ?_
  refine l_cge (t := 1630) dX13_init_1622 rfl ?_ ?_
  · refine l_loc dX13_init_1630 rfl rfl ?_
    refine l_bi dX13_init_1631 kB_64 ?_
    refine l_cle (t := 1641) dX13_init_1633 rfl ?_ ?_
    · refine l_loc dX13_init_1641 rfl rfl ?_
      refine l_pf dX13_init_1642 fl_12_179 (ini := true) nm_mX13_init (fun h2 => ?_)
      refine l_loc dX13_init_1645 rfl rfl ?_
      refine l_loc dX13_init_1646 rfl rfl ?_
      refine l_bi dX13_init_1647 kB_8 ?_
      refine l_cge (t := 1657) dX13_init_1649 rfl ?_ ?_
      · refine l_loc dX13_init_1657 rfl rfl ?_
        refine l_bi dX13_init_1658 kB_64 ?_
        refine l_cle (t := 1668) dX13_init_1660 rfl ?_ ?_
        · refine l_loc dX13_init_1668 rfl rfl ?_
          refine l_pf dX13_init_1669 fl_12_183 (ini := true) nm_mX13_init (fun h3 => ?_)
          exact l_al rfl ⟨rfl, trivial⟩
        · refine l_bi dX13_init_1663 kB_64 ?_
          refine l_goto (t := 1669) dX13_init_1665 rfl ?_
          refine l_pf dX13_init_1669 fl_12_183 (ini := true) nm_mX13_init (fun h4 => ?_)
          exact l_al rfl ⟨rfl, trivial⟩
      · refine l_bi dX13_init_1652 kB_8 ?_
        refine l_goto (t := 1669) dX13_init_1654 rfl ?_
        refine l_pf dX13_init_1669 fl_12_183 (ini := true) nm_mX13_init (fun h5 => ?_)
        exact l_al rfl ⟨rfl, trivial⟩
    · refine l_bi dX13_init_1636 kB_64 ?_
      refine l_goto (t := 1642) dX13_init_1638 rfl ?_
      refine l_pf dX13_init_1642 fl_12_179 (ini := true) nm_mX13_init (fun h6 => ?_)
      refine l_loc dX13_init_1645 rfl rfl ?_
      refine l_loc dX13_init_1646 rfl rfl ?_
      refine l_bi dX13_init_1647 kB_8 ?_
      refine l_cge (t := 1657) dX13_init_1649 rfl ?_ ?_
      · refine l_loc dX13_init_1657 rfl rfl ?_
        refine l_bi dX13_init_1658 kB_64 ?_
        refine l_cle (t := 1668) dX13_init_1660 rfl ?_ ?_
        · refine l_loc dX13_init_1668 rfl rfl ?_
          refine l_pf dX13_init_1669 fl_12_183 (ini := true) nm_mX13_init (fun h7 => ?_)
          exact l_al rfl ⟨rfl, trivial⟩
        · refine l_bi dX13_init_1663 kB_64 ?_
          refine l_goto (t := 1669) dX13_init_1665 rfl ?_
          refine l_pf dX13_init_1669 fl_12_183 (ini := true) nm_mX13_init (fun h8 => ?_)
          exact l_al rfl ⟨rfl, trivial⟩
      · refine l_bi dX13_init_1652 kB_8 ?_
        refine l_goto (t := 1669) dX13_init_1654 rfl ?_
        refine l_pf dX13_init_1669 fl_12_183 (ini := true) nm_mX13_init (fun h9 => ?_)
        exact l_al rfl ⟨rfl, trivial⟩
  · refine l_bi dX13_init_1625 kB_8 ?_
    refine l_goto (t := 1642) dX13_init_1627 rfl ?_
    refine l_pf dX13_init_1642 fl_12_179 (ini := true) nm_mX13_init (fun h10 => ?_)
    refine l_loc dX13_init_1645 rfl rfl ?_
    refine l_loc dX13_init_1646 rfl rfl ?_
    refine l_bi dX13_init_1647 kB_8 ?_
    refine l_cge (t := 1657) dX13_init_1649 rfl ?_ ?_
    · refine l_loc dX13_init_1657 rfl rfl ?_
      refine l_bi dX13_init_1658 kB_64 ?_
      refine l_cle (t := 1668) dX13_init_1660 rfl ?_ ?_
      · refine l_loc dX13_init_1668 rfl rfl ?_
        refine l_pf dX13_init_1669 fl_12_183 (ini := true) nm_mX13_init (fun h11 => ?_)
        exact l_al rfl ⟨rfl, trivial⟩
      · refine l_bi dX13_init_1663 kB_64 ?_
        refine l_goto (t := 1669) dX13_init_1665 rfl ?_
        refine l_pf dX13_init_1669 fl_12_183 (ini := true) nm_mX13_init (fun h12 => ?_)
        exact l_al rfl ⟨rfl, trivial⟩
    · refine l_bi dX13_init_1652 kB_8 ?_
      refine l_goto (t := 1669) dX13_init_1654 rfl ?_
      refine l_pf dX13_init_1669 fl_12_183 (ini := true) nm_mX13_init (fun h13 => ?_)
      exact l_al rfl ⟨rfl, trivial⟩
set_option maxRecDepth 16000 in
theorem w_X13_init_1672 (S : xS) (x0 : Nat) (h : xH) : xle ((xGr h x0 12 14).bind fun v1 => (xWi h v1 (0 : Int32) (8 : Int32)).bind fun h2 => (xGr h2 x0 12 14).bind fun v3 => (xWi h2 v3 (1 : Int32) (2 : Int32)).bind fun h4 => (xGr h4 x0 12 14).bind fun v5 => (xWi h4 v5 (2 : Int32) (1 : Int32)).bind fun h6 => (xGr h6 x0 12 14).bind fun v7 => (xWi h6 v7 (4 : Int32) (8 : Int32)).bind fun h8 => (xden S mX13_init 1702 [(0, .ref x0)] [] h8)) (xden S mX13_init 1672 [(0, .ref x0)] [] h) := by
  refine l_loc dX13_init_1672 rfl rfl ?_
  refine l_gr dX13_init_1673 fl_12_33 (fun v1 => ?_)
  refine l_ic dX13_init_1676 kI_0 ?_
  refine l_bi dX13_init_1677 kB_8 ?_
  refine l_wi dX13_init_1679 (fun h2 => ?_)
  refine l_loc dX13_init_1680 rfl rfl ?_
  refine l_gr dX13_init_1681 fl_12_33 (fun v3 => ?_)
  refine l_ic dX13_init_1684 kI_1 ?_
  refine l_ic dX13_init_1685 kI_2 ?_
  refine l_wi dX13_init_1686 (fun h4 => ?_)
  refine l_loc dX13_init_1687 rfl rfl ?_
  refine l_gr dX13_init_1688 fl_12_33 (fun v5 => ?_)
  refine l_ic dX13_init_1691 kI_2 ?_
  refine l_ic dX13_init_1692 kI_1 ?_
  refine l_wi dX13_init_1693 (fun h6 => ?_)
  refine l_loc dX13_init_1694 rfl rfl ?_
  refine l_gr dX13_init_1695 fl_12_33 (fun v7 => ?_)
  refine l_ic dX13_init_1698 kI_4 ?_
  refine l_bi dX13_init_1699 kB_8 ?_
  refine l_wi dX13_init_1701 (fun h8 => ?_)
  exact l_al rfl ⟨rfl, trivial⟩
set_option maxRecDepth 16000 in
theorem w_X13_init_1702 (S : xS) (x0 : Nat) (h : xH) : xle ((xGr h x0 12 14).bind fun v1 => (xWi h v1 (8 : Int32) (4 : Int32)).bind fun h2 => some (.inl none, h2, 0, 0)) (xden S mX13_init 1702 [(0, .ref x0)] [] h) := by
  refine l_loc dX13_init_1702 rfl rfl ?_
  refine l_gr dX13_init_1703 fl_12_33 (fun v1 => ?_)
  refine l_bi dX13_init_1706 kB_8 ?_
  refine l_ic dX13_init_1708 kI_4 ?_
  refine l_wi dX13_init_1709 (fun h2 => ?_)
  exact l_end dX13_init_1710 rfl rfl

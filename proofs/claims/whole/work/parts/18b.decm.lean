/-! DECODE ROWS (printed names) -/
theorem dX13_init_0 : decode cX13_init 0 = .ok (.aload_n 0, 1) := by decide +kernel
theorem dX13_init_1 : decode cX13_init 1 = .ok (.invokespecial 1, 3) := by decide +kernel
theorem dX13_init_4 : decode cX13_init 4 = .ok (.aload_n 0, 1) := by decide +kernel
theorem dX13_init_5 : decode cX13_init 5 = .ok (.sipush 16384, 3) := by decide +kernel
theorem dX13_init_8 : decode cX13_init 8 = .ok (.newarray .boolean, 2) := by decide +kernel
theorem dX13_init_10 : decode cX13_init 10 = .ok (.putfield 7, 3) := by decide +kernel
theorem dX13_init_13 : decode cX13_init 13 = .ok (.aload_n 0, 1) := by decide +kernel
theorem dX13_init_14 : decode cX13_init 14 = .ok (.ldc 13, 2) := by decide +kernel
theorem dX13_init_16 : decode cX13_init 16 = .ok (.newarray .boolean, 2) := by decide +kernel
theorem dX13_init_18 : decode cX13_init 18 = .ok (.putfield 14, 3) := by decide +kernel
theorem dX13_init_21 : decode cX13_init 21 = .ok (.aload_n 0, 1) := by decide +kernel
theorem dX13_init_22 : decode cX13_init 22 = .ok (.bipush 8, 2) := by decide +kernel
theorem dX13_init_24 : decode cX13_init 24 = .ok (.newarray .int, 2) := by decide +kernel
theorem dX13_init_26 : decode cX13_init 26 = .ok (.putfield 17, 3) := by decide +kernel
theorem dX13_init_29 : decode cX13_init 29 = .ok (.aload_n 0, 1) := by decide +kernel
theorem dX13_init_30 : decode cX13_init 30 = .ok (.sipush 4096, 3) := by decide +kernel
theorem dX13_init_33 : decode cX13_init 33 = .ok (.newarray .boolean, 2) := by decide +kernel
theorem dX13_init_35 : decode cX13_init 35 = .ok (.putfield 21, 3) := by decide +kernel
theorem dX13_init_38 : decode cX13_init 38 = .ok (.aload_n 0, 1) := by decide +kernel
theorem dX13_init_39 : decode cX13_init 39 = .ok (.sipush 4096, 3) := by decide +kernel
theorem dX13_init_42 : decode cX13_init 42 = .ok (.newarray .boolean, 2) := by decide +kernel
theorem dX13_init_44 : decode cX13_init 44 = .ok (.putfield 24, 3) := by decide +kernel
theorem dX13_init_47 : decode cX13_init 47 = .ok (.aload_n 0, 1) := by decide +kernel
theorem dX13_init_48 : decode cX13_init 48 = .ok (.sipush 4096, 3) := by decide +kernel
theorem dX13_init_51 : decode cX13_init 51 = .ok (.newarray .int, 2) := by decide +kernel
theorem dX13_init_53 : decode cX13_init 53 = .ok (.putfield 27, 3) := by decide +kernel
theorem dX13_init_56 : decode cX13_init 56 = .ok (.aload_n 0, 1) := by decide +kernel
theorem dX13_init_57 : decode cX13_init 57 = .ok (.bipush 80, 2) := by decide +kernel
theorem dX13_init_59 : decode cX13_init 59 = .ok (.newarray .int, 2) := by decide +kernel
theorem dX13_init_61 : decode cX13_init 61 = .ok (.putfield 30, 3) := by decide +kernel
theorem dX13_init_64 : decode cX13_init 64 = .ok (.aload_n 0, 1) := by decide +kernel
theorem dX13_init_65 : decode cX13_init 65 = .ok (.bipush 10, 2) := by decide +kernel
theorem dX13_init_67 : decode cX13_init 67 = .ok (.newarray .int, 2) := by decide +kernel
theorem dX13_init_69 : decode cX13_init 69 = .ok (.putfield 33, 3) := by decide +kernel
theorem dX13_init_72 : decode cX13_init 72 = .ok (.aload_n 0, 1) := by decide +kernel
theorem dX13_init_73 : decode cX13_init 73 = .ok (.bipush 10, 2) := by decide +kernel
theorem dX13_init_75 : decode cX13_init 75 = .ok (.newarray .int, 2) := by decide +kernel
theorem dX13_init_77 : decode cX13_init 77 = .ok (.putfield 36, 3) := by decide +kernel
theorem dX13_init_80 : decode cX13_init 80 = .ok (.aload_n 0, 1) := by decide +kernel
theorem dX13_init_81 : decode cX13_init 81 = .ok (.bipush 62, 2) := by decide +kernel
theorem dX13_init_83 : decode cX13_init 83 = .ok (.newarray .char, 2) := by decide +kernel
theorem dX13_init_85 : decode cX13_init 85 = .ok (.dup, 1) := by decide +kernel
theorem dX13_init_86 : decode cX13_init 86 = .ok (.iconst 0, 1) := by decide +kernel
theorem dX13_init_87 : decode cX13_init 87 = .ok (.bipush 98, 2) := by decide +kernel
theorem dX13_init_89 : decode cX13_init 89 = .ok (.castore, 1) := by decide +kernel
theorem dX13_init_90 : decode cX13_init 90 = .ok (.dup, 1) := by decide +kernel
theorem dX13_init_91 : decode cX13_init 91 = .ok (.iconst 1, 1) := by decide +kernel
theorem dX13_init_92 : decode cX13_init 92 = .ok (.bipush 108, 2) := by decide +kernel
theorem dX13_init_94 : decode cX13_init 94 = .ok (.castore, 1) := by decide +kernel
theorem dX13_init_95 : decode cX13_init 95 = .ok (.dup, 1) := by decide +kernel
theorem dX13_init_96 : decode cX13_init 96 = .ok (.iconst 2, 1) := by decide +kernel
theorem dX13_init_97 : decode cX13_init 97 = .ok (.bipush 111, 2) := by decide +kernel
theorem dX13_init_99 : decode cX13_init 99 = .ok (.castore, 1) := by decide +kernel
theorem dX13_init_100 : decode cX13_init 100 = .ok (.dup, 1) := by decide +kernel
theorem dX13_init_101 : decode cX13_init 101 = .ok (.iconst 3, 1) := by decide +kernel
theorem dX13_init_102 : decode cX13_init 102 = .ok (.bipush 99, 2) := by decide +kernel
theorem dX13_init_104 : decode cX13_init 104 = .ok (.castore, 1) := by decide +kernel
theorem dX13_init_105 : decode cX13_init 105 = .ok (.dup, 1) := by decide +kernel
theorem dX13_init_106 : decode cX13_init 106 = .ok (.iconst 4, 1) := by decide +kernel
theorem dX13_init_107 : decode cX13_init 107 = .ok (.bipush 107, 2) := by decide +kernel
theorem dX13_init_109 : decode cX13_init 109 = .ok (.castore, 1) := by decide +kernel
theorem dX13_init_110 : decode cX13_init 110 = .ok (.dup, 1) := by decide +kernel
theorem dX13_init_111 : decode cX13_init 111 = .ok (.iconst 5, 1) := by decide +kernel
theorem dX13_init_112 : decode cX13_init 112 = .ok (.bipush 59, 2) := by decide +kernel
theorem dX13_init_114 : decode cX13_init 114 = .ok (.castore, 1) := by decide +kernel
theorem dX13_init_115 : decode cX13_init 115 = .ok (.dup, 1) := by decide +kernel
theorem dX13_init_116 : decode cX13_init 116 = .ok (.bipush 6, 2) := by decide +kernel
theorem dX13_init_118 : decode cX13_init 118 = .ok (.bipush 110, 2) := by decide +kernel
theorem dX13_init_120 : decode cX13_init 120 = .ok (.castore, 1) := by decide +kernel
theorem dX13_init_121 : decode cX13_init 121 = .ok (.dup, 1) := by decide +kernel
theorem dX13_init_122 : decode cX13_init 122 = .ok (.bipush 7, 2) := by decide +kernel
theorem dX13_init_124 : decode cX13_init 124 = .ok (.bipush 111, 2) := by decide +kernel
theorem dX13_init_126 : decode cX13_init 126 = .ok (.castore, 1) := by decide +kernel
theorem dX13_init_127 : decode cX13_init 127 = .ok (.dup, 1) := by decide +kernel
theorem dX13_init_128 : decode cX13_init 128 = .ok (.bipush 8, 2) := by decide +kernel
theorem dX13_init_130 : decode cX13_init 130 = .ok (.bipush 105, 2) := by decide +kernel
theorem dX13_init_132 : decode cX13_init 132 = .ok (.castore, 1) := by decide +kernel
theorem dX13_init_133 : decode cX13_init 133 = .ok (.dup, 1) := by decide +kernel
theorem dX13_init_134 : decode cX13_init 134 = .ok (.bipush 9, 2) := by decide +kernel
theorem dX13_init_136 : decode cX13_init 136 = .ok (.bipush 115, 2) := by decide +kernel
theorem dX13_init_138 : decode cX13_init 138 = .ok (.castore, 1) := by decide +kernel
theorem dX13_init_139 : decode cX13_init 139 = .ok (.dup, 1) := by decide +kernel
theorem dX13_init_140 : decode cX13_init 140 = .ok (.bipush 10, 2) := by decide +kernel
theorem dX13_init_142 : decode cX13_init 142 = .ok (.bipush 101, 2) := by decide +kernel
theorem dX13_init_144 : decode cX13_init 144 = .ok (.castore, 1) := by decide +kernel
theorem dX13_init_145 : decode cX13_init 145 = .ok (.dup, 1) := by decide +kernel
theorem dX13_init_146 : decode cX13_init 146 = .ok (.bipush 11, 2) := by decide +kernel
theorem dX13_init_148 : decode cX13_init 148 = .ok (.bipush 59, 2) := by decide +kernel
theorem dX13_init_150 : decode cX13_init 150 = .ok (.castore, 1) := by decide +kernel
theorem dX13_init_151 : decode cX13_init 151 = .ok (.dup, 1) := by decide +kernel
theorem dX13_init_152 : decode cX13_init 152 = .ok (.bipush 12, 2) := by decide +kernel
theorem dX13_init_154 : decode cX13_init 154 = .ok (.bipush 106, 2) := by decide +kernel
theorem dX13_init_156 : decode cX13_init 156 = .ok (.castore, 1) := by decide +kernel
theorem dX13_init_157 : decode cX13_init 157 = .ok (.dup, 1) := by decide +kernel
theorem dX13_init_158 : decode cX13_init 158 = .ok (.bipush 13, 2) := by decide +kernel
theorem dX13_init_160 : decode cX13_init 160 = .ok (.bipush 105, 2) := by decide +kernel
theorem dX13_init_162 : decode cX13_init 162 = .ok (.castore, 1) := by decide +kernel
theorem dX13_init_163 : decode cX13_init 163 = .ok (.dup, 1) := by decide +kernel
theorem dX13_init_164 : decode cX13_init 164 = .ok (.bipush 14, 2) := by decide +kernel
theorem dX13_init_166 : decode cX13_init 166 = .ok (.bipush 116, 2) := by decide +kernel
theorem dX13_init_168 : decode cX13_init 168 = .ok (.castore, 1) := by decide +kernel
theorem dX13_init_169 : decode cX13_init 169 = .ok (.dup, 1) := by decide +kernel
theorem dX13_init_170 : decode cX13_init 170 = .ok (.bipush 15, 2) := by decide +kernel
theorem dX13_init_172 : decode cX13_init 172 = .ok (.bipush 116, 2) := by decide +kernel
theorem dX13_init_174 : decode cX13_init 174 = .ok (.castore, 1) := by decide +kernel
theorem dX13_init_175 : decode cX13_init 175 = .ok (.dup, 1) := by decide +kernel
theorem dX13_init_176 : decode cX13_init 176 = .ok (.bipush 16, 2) := by decide +kernel
theorem dX13_init_178 : decode cX13_init 178 = .ok (.bipush 101, 2) := by decide +kernel
theorem dX13_init_180 : decode cX13_init 180 = .ok (.castore, 1) := by decide +kernel
theorem dX13_init_181 : decode cX13_init 181 = .ok (.dup, 1) := by decide +kernel
theorem dX13_init_182 : decode cX13_init 182 = .ok (.bipush 17, 2) := by decide +kernel
theorem dX13_init_184 : decode cX13_init 184 = .ok (.bipush 114, 2) := by decide +kernel
theorem dX13_init_186 : decode cX13_init 186 = .ok (.castore, 1) := by decide +kernel
theorem dX13_init_187 : decode cX13_init 187 = .ok (.dup, 1) := by decide +kernel
theorem dX13_init_188 : decode cX13_init 188 = .ok (.bipush 18, 2) := by decide +kernel
theorem dX13_init_190 : decode cX13_init 190 = .ok (.bipush 59, 2) := by decide +kernel
theorem dX13_init_192 : decode cX13_init 192 = .ok (.castore, 1) := by decide +kernel
theorem dX13_init_193 : decode cX13_init 193 = .ok (.dup, 1) := by decide +kernel
theorem dX13_init_194 : decode cX13_init 194 = .ok (.bipush 19, 2) := by decide +kernel
theorem dX13_init_196 : decode cX13_init 196 = .ok (.bipush 115, 2) := by decide +kernel
theorem dX13_init_198 : decode cX13_init 198 = .ok (.castore, 1) := by decide +kernel
theorem dX13_init_199 : decode cX13_init 199 = .ok (.dup, 1) := by decide +kernel
theorem dX13_init_200 : decode cX13_init 200 = .ok (.bipush 20, 2) := by decide +kernel
theorem dX13_init_202 : decode cX13_init 202 = .ok (.bipush 112, 2) := by decide +kernel
theorem dX13_init_204 : decode cX13_init 204 = .ok (.castore, 1) := by decide +kernel
theorem dX13_init_205 : decode cX13_init 205 = .ok (.dup, 1) := by decide +kernel
theorem dX13_init_206 : decode cX13_init 206 = .ok (.bipush 21, 2) := by decide +kernel
theorem dX13_init_208 : decode cX13_init 208 = .ok (.bipush 101, 2) := by decide +kernel
theorem dX13_init_210 : decode cX13_init 210 = .ok (.castore, 1) := by decide +kernel
theorem dX13_init_211 : decode cX13_init 211 = .ok (.dup, 1) := by decide +kernel
theorem dX13_init_212 : decode cX13_init 212 = .ok (.bipush 22, 2) := by decide +kernel
theorem dX13_init_214 : decode cX13_init 214 = .ok (.bipush 99, 2) := by decide +kernel
theorem dX13_init_216 : decode cX13_init 216 = .ok (.castore, 1) := by decide +kernel
theorem dX13_init_217 : decode cX13_init 217 = .ok (.dup, 1) := by decide +kernel
theorem dX13_init_218 : decode cX13_init 218 = .ok (.bipush 23, 2) := by decide +kernel
theorem dX13_init_220 : decode cX13_init 220 = .ok (.bipush 107, 2) := by decide +kernel
theorem dX13_init_222 : decode cX13_init 222 = .ok (.castore, 1) := by decide +kernel
theorem dX13_init_223 : decode cX13_init 223 = .ok (.dup, 1) := by decide +kernel
theorem dX13_init_224 : decode cX13_init 224 = .ok (.bipush 24, 2) := by decide +kernel
theorem dX13_init_226 : decode cX13_init 226 = .ok (.bipush 108, 2) := by decide +kernel
theorem dX13_init_228 : decode cX13_init 228 = .ok (.castore, 1) := by decide +kernel
theorem dX13_init_229 : decode cX13_init 229 = .ok (.dup, 1) := by decide +kernel
theorem dX13_init_230 : decode cX13_init 230 = .ok (.bipush 25, 2) := by decide +kernel
theorem dX13_init_232 : decode cX13_init 232 = .ok (.bipush 101, 2) := by decide +kernel
theorem dX13_init_234 : decode cX13_init 234 = .ok (.castore, 1) := by decide +kernel
theorem dX13_init_235 : decode cX13_init 235 = .ok (.dup, 1) := by decide +kernel
theorem dX13_init_236 : decode cX13_init 236 = .ok (.bipush 26, 2) := by decide +kernel
theorem dX13_init_238 : decode cX13_init 238 = .ok (.bipush 59, 2) := by decide +kernel
theorem dX13_init_240 : decode cX13_init 240 = .ok (.castore, 1) := by decide +kernel
theorem dX13_init_241 : decode cX13_init 241 = .ok (.dup, 1) := by decide +kernel
theorem dX13_init_242 : decode cX13_init 242 = .ok (.bipush 27, 2) := by decide +kernel
theorem dX13_init_244 : decode cX13_init 244 = .ok (.bipush 115, 2) := by decide +kernel
theorem dX13_init_246 : decode cX13_init 246 = .ok (.castore, 1) := by decide +kernel
theorem dX13_init_247 : decode cX13_init 247 = .ok (.dup, 1) := by decide +kernel
theorem dX13_init_248 : decode cX13_init 248 = .ok (.bipush 28, 2) := by decide +kernel
theorem dX13_init_250 : decode cX13_init 250 = .ok (.bipush 101, 2) := by decide +kernel
theorem dX13_init_252 : decode cX13_init 252 = .ok (.castore, 1) := by decide +kernel
theorem dX13_init_253 : decode cX13_init 253 = .ok (.dup, 1) := by decide +kernel
theorem dX13_init_254 : decode cX13_init 254 = .ok (.bipush 29, 2) := by decide +kernel
theorem dX13_init_256 : decode cX13_init 256 = .ok (.bipush 97, 2) := by decide +kernel
theorem dX13_init_258 : decode cX13_init 258 = .ok (.castore, 1) := by decide +kernel
theorem dX13_init_259 : decode cX13_init 259 = .ok (.dup, 1) := by decide +kernel
theorem dX13_init_260 : decode cX13_init 260 = .ok (.bipush 30, 2) := by decide +kernel
theorem dX13_init_262 : decode cX13_init 262 = .ok (.bipush 114, 2) := by decide +kernel
theorem dX13_init_264 : decode cX13_init 264 = .ok (.castore, 1) := by decide +kernel
theorem dX13_init_265 : decode cX13_init 265 = .ok (.dup, 1) := by decide +kernel
theorem dX13_init_266 : decode cX13_init 266 = .ok (.bipush 31, 2) := by decide +kernel
theorem dX13_init_268 : decode cX13_init 268 = .ok (.bipush 99, 2) := by decide +kernel
theorem dX13_init_270 : decode cX13_init 270 = .ok (.castore, 1) := by decide +kernel
theorem dX13_init_271 : decode cX13_init 271 = .ok (.dup, 1) := by decide +kernel
theorem dX13_init_272 : decode cX13_init 272 = .ok (.bipush 32, 2) := by decide +kernel
theorem dX13_init_274 : decode cX13_init 274 = .ok (.bipush 104, 2) := by decide +kernel
theorem dX13_init_276 : decode cX13_init 276 = .ok (.castore, 1) := by decide +kernel
theorem dX13_init_277 : decode cX13_init 277 = .ok (.dup, 1) := by decide +kernel
theorem dX13_init_278 : decode cX13_init 278 = .ok (.bipush 33, 2) := by decide +kernel
theorem dX13_init_280 : decode cX13_init 280 = .ok (.bipush 59, 2) := by decide +kernel
theorem dX13_init_282 : decode cX13_init 282 = .ok (.castore, 1) := by decide +kernel
theorem dX13_init_283 : decode cX13_init 283 = .ok (.dup, 1) := by decide +kernel
theorem dX13_init_284 : decode cX13_init 284 = .ok (.bipush 34, 2) := by decide +kernel
theorem dX13_init_286 : decode cX13_init 286 = .ok (.bipush 115, 2) := by decide +kernel
theorem dX13_init_288 : decode cX13_init 288 = .ok (.castore, 1) := by decide +kernel
theorem dX13_init_289 : decode cX13_init 289 = .ok (.dup, 1) := by decide +kernel
theorem dX13_init_290 : decode cX13_init 290 = .ok (.bipush 35, 2) := by decide +kernel
theorem dX13_init_292 : decode cX13_init 292 = .ok (.bipush 107, 2) := by decide +kernel
theorem dX13_init_294 : decode cX13_init 294 = .ok (.castore, 1) := by decide +kernel
theorem dX13_init_295 : decode cX13_init 295 = .ok (.dup, 1) := by decide +kernel
theorem dX13_init_296 : decode cX13_init 296 = .ok (.bipush 36, 2) := by decide +kernel
theorem dX13_init_298 : decode cX13_init 298 = .ok (.bipush 101, 2) := by decide +kernel
theorem dX13_init_300 : decode cX13_init 300 = .ok (.castore, 1) := by decide +kernel
theorem dX13_init_301 : decode cX13_init 301 = .ok (.dup, 1) := by decide +kernel
theorem dX13_init_302 : decode cX13_init 302 = .ok (.bipush 37, 2) := by decide +kernel
theorem dX13_init_304 : decode cX13_init 304 = .ok (.bipush 119, 2) := by decide +kernel
theorem dX13_init_306 : decode cX13_init 306 = .ok (.castore, 1) := by decide +kernel
theorem dX13_init_307 : decode cX13_init 307 = .ok (.dup, 1) := by decide +kernel
theorem dX13_init_308 : decode cX13_init 308 = .ok (.bipush 38, 2) := by decide +kernel
theorem dX13_init_310 : decode cX13_init 310 = .ok (.bipush 59, 2) := by decide +kernel
theorem dX13_init_312 : decode cX13_init 312 = .ok (.castore, 1) := by decide +kernel
theorem dX13_init_313 : decode cX13_init 313 = .ok (.dup, 1) := by decide +kernel
theorem dX13_init_314 : decode cX13_init 314 = .ok (.bipush 39, 2) := by decide +kernel
theorem dX13_init_316 : decode cX13_init 316 = .ok (.bipush 116, 2) := by decide +kernel
theorem dX13_init_318 : decode cX13_init 318 = .ok (.castore, 1) := by decide +kernel
theorem dX13_init_319 : decode cX13_init 319 = .ok (.dup, 1) := by decide +kernel
theorem dX13_init_320 : decode cX13_init 320 = .ok (.bipush 40, 2) := by decide +kernel
theorem dX13_init_322 : decode cX13_init 322 = .ok (.bipush 117, 2) := by decide +kernel
theorem dX13_init_324 : decode cX13_init 324 = .ok (.castore, 1) := by decide +kernel
theorem dX13_init_325 : decode cX13_init 325 = .ok (.dup, 1) := by decide +kernel
theorem dX13_init_326 : decode cX13_init 326 = .ok (.bipush 41, 2) := by decide +kernel
theorem dX13_init_328 : decode cX13_init 328 = .ok (.bipush 114, 2) := by decide +kernel
theorem dX13_init_330 : decode cX13_init 330 = .ok (.castore, 1) := by decide +kernel
theorem dX13_init_331 : decode cX13_init 331 = .ok (.dup, 1) := by decide +kernel
theorem dX13_init_332 : decode cX13_init 332 = .ok (.bipush 42, 2) := by decide +kernel
theorem dX13_init_334 : decode cX13_init 334 = .ok (.bipush 110, 2) := by decide +kernel
theorem dX13_init_336 : decode cX13_init 336 = .ok (.castore, 1) := by decide +kernel
theorem dX13_init_337 : decode cX13_init 337 = .ok (.dup, 1) := by decide +kernel
theorem dX13_init_338 : decode cX13_init 338 = .ok (.bipush 43, 2) := by decide +kernel
theorem dX13_init_340 : decode cX13_init 340 = .ok (.bipush 59, 2) := by decide +kernel
theorem dX13_init_342 : decode cX13_init 342 = .ok (.castore, 1) := by decide +kernel
theorem dX13_init_343 : decode cX13_init 343 = .ok (.dup, 1) := by decide +kernel
theorem dX13_init_344 : decode cX13_init 344 = .ok (.bipush 44, 2) := by decide +kernel
theorem dX13_init_346 : decode cX13_init 346 = .ok (.bipush 111, 2) := by decide +kernel
theorem dX13_init_348 : decode cX13_init 348 = .ok (.castore, 1) := by decide +kernel
theorem dX13_init_349 : decode cX13_init 349 = .ok (.dup, 1) := by decide +kernel
theorem dX13_init_350 : decode cX13_init 350 = .ok (.bipush 45, 2) := by decide +kernel
theorem dX13_init_352 : decode cX13_init 352 = .ok (.bipush 114, 2) := by decide +kernel
theorem dX13_init_354 : decode cX13_init 354 = .ok (.castore, 1) := by decide +kernel
theorem dX13_init_355 : decode cX13_init 355 = .ok (.dup, 1) := by decide +kernel
theorem dX13_init_356 : decode cX13_init 356 = .ok (.bipush 46, 2) := by decide +kernel
theorem dX13_init_358 : decode cX13_init 358 = .ok (.bipush 100, 2) := by decide +kernel
theorem dX13_init_360 : decode cX13_init 360 = .ok (.castore, 1) := by decide +kernel
theorem dX13_init_361 : decode cX13_init 361 = .ok (.dup, 1) := by decide +kernel
theorem dX13_init_362 : decode cX13_init 362 = .ok (.bipush 47, 2) := by decide +kernel
theorem dX13_init_364 : decode cX13_init 364 = .ok (.bipush 101, 2) := by decide +kernel
theorem dX13_init_366 : decode cX13_init 366 = .ok (.castore, 1) := by decide +kernel
theorem dX13_init_367 : decode cX13_init 367 = .ok (.dup, 1) := by decide +kernel
theorem dX13_init_368 : decode cX13_init 368 = .ok (.bipush 48, 2) := by decide +kernel
theorem dX13_init_370 : decode cX13_init 370 = .ok (.bipush 114, 2) := by decide +kernel
theorem dX13_init_372 : decode cX13_init 372 = .ok (.castore, 1) := by decide +kernel
theorem dX13_init_373 : decode cX13_init 373 = .ok (.dup, 1) := by decide +kernel
theorem dX13_init_374 : decode cX13_init 374 = .ok (.bipush 49, 2) := by decide +kernel
theorem dX13_init_376 : decode cX13_init 376 = .ok (.bipush 59, 2) := by decide +kernel
theorem dX13_init_378 : decode cX13_init 378 = .ok (.castore, 1) := by decide +kernel
theorem dX13_init_379 : decode cX13_init 379 = .ok (.dup, 1) := by decide +kernel
theorem dX13_init_380 : decode cX13_init 380 = .ok (.bipush 50, 2) := by decide +kernel
theorem dX13_init_382 : decode cX13_init 382 = .ok (.bipush 112, 2) := by decide +kernel
theorem dX13_init_384 : decode cX13_init 384 = .ok (.castore, 1) := by decide +kernel
theorem dX13_init_385 : decode cX13_init 385 = .ok (.dup, 1) := by decide +kernel
theorem dX13_init_386 : decode cX13_init 386 = .ok (.bipush 51, 2) := by decide +kernel
theorem dX13_init_388 : decode cX13_init 388 = .ok (.bipush 97, 2) := by decide +kernel
theorem dX13_init_390 : decode cX13_init 390 = .ok (.castore, 1) := by decide +kernel
theorem dX13_init_391 : decode cX13_init 391 = .ok (.dup, 1) := by decide +kernel
theorem dX13_init_392 : decode cX13_init 392 = .ok (.bipush 52, 2) := by decide +kernel
theorem dX13_init_394 : decode cX13_init 394 = .ok (.bipush 105, 2) := by decide +kernel
theorem dX13_init_396 : decode cX13_init 396 = .ok (.castore, 1) := by decide +kernel
theorem dX13_init_397 : decode cX13_init 397 = .ok (.dup, 1) := by decide +kernel
theorem dX13_init_398 : decode cX13_init 398 = .ok (.bipush 53, 2) := by decide +kernel
theorem dX13_init_400 : decode cX13_init 400 = .ok (.bipush 114, 2) := by decide +kernel
theorem dX13_init_402 : decode cX13_init 402 = .ok (.castore, 1) := by decide +kernel
theorem dX13_init_403 : decode cX13_init 403 = .ok (.dup, 1) := by decide +kernel
theorem dX13_init_404 : decode cX13_init 404 = .ok (.bipush 54, 2) := by decide +kernel
theorem dX13_init_406 : decode cX13_init 406 = .ok (.bipush 59, 2) := by decide +kernel
theorem dX13_init_408 : decode cX13_init 408 = .ok (.castore, 1) := by decide +kernel
theorem dX13_init_409 : decode cX13_init 409 = .ok (.dup, 1) := by decide +kernel
theorem dX13_init_410 : decode cX13_init 410 = .ok (.bipush 55, 2) := by decide +kernel
theorem dX13_init_412 : decode cX13_init 412 = .ok (.bipush 115, 2) := by decide +kernel
theorem dX13_init_414 : decode cX13_init 414 = .ok (.castore, 1) := by decide +kernel
theorem dX13_init_415 : decode cX13_init 415 = .ok (.dup, 1) := by decide +kernel
theorem dX13_init_416 : decode cX13_init 416 = .ok (.bipush 56, 2) := by decide +kernel
theorem dX13_init_418 : decode cX13_init 418 = .ok (.bipush 116, 2) := by decide +kernel
theorem dX13_init_420 : decode cX13_init 420 = .ok (.castore, 1) := by decide +kernel
theorem dX13_init_421 : decode cX13_init 421 = .ok (.dup, 1) := by decide +kernel
theorem dX13_init_422 : decode cX13_init 422 = .ok (.bipush 57, 2) := by decide +kernel
theorem dX13_init_424 : decode cX13_init 424 = .ok (.bipush 97, 2) := by decide +kernel
theorem dX13_init_426 : decode cX13_init 426 = .ok (.castore, 1) := by decide +kernel
theorem dX13_init_427 : decode cX13_init 427 = .ok (.dup, 1) := by decide +kernel
theorem dX13_init_428 : decode cX13_init 428 = .ok (.bipush 58, 2) := by decide +kernel
theorem dX13_init_430 : decode cX13_init 430 = .ok (.bipush 109, 2) := by decide +kernel
theorem dX13_init_432 : decode cX13_init 432 = .ok (.castore, 1) := by decide +kernel
theorem dX13_init_433 : decode cX13_init 433 = .ok (.dup, 1) := by decide +kernel
theorem dX13_init_434 : decode cX13_init 434 = .ok (.bipush 59, 2) := by decide +kernel
theorem dX13_init_436 : decode cX13_init 436 = .ok (.bipush 112, 2) := by decide +kernel
theorem dX13_init_438 : decode cX13_init 438 = .ok (.castore, 1) := by decide +kernel
theorem dX13_init_439 : decode cX13_init 439 = .ok (.dup, 1) := by decide +kernel
theorem dX13_init_440 : decode cX13_init 440 = .ok (.bipush 60, 2) := by decide +kernel
theorem dX13_init_442 : decode cX13_init 442 = .ok (.bipush 115, 2) := by decide +kernel
theorem dX13_init_444 : decode cX13_init 444 = .ok (.castore, 1) := by decide +kernel
theorem dX13_init_445 : decode cX13_init 445 = .ok (.dup, 1) := by decide +kernel
theorem dX13_init_446 : decode cX13_init 446 = .ok (.bipush 61, 2) := by decide +kernel
theorem dX13_init_448 : decode cX13_init 448 = .ok (.bipush 59, 2) := by decide +kernel
theorem dX13_init_450 : decode cX13_init 450 = .ok (.castore, 1) := by decide +kernel
theorem dX13_init_451 : decode cX13_init 451 = .ok (.putfield 39, 3) := by decide +kernel
theorem dX13_init_454 : decode cX13_init 454 = .ok (.aload_n 0, 1) := by decide +kernel
theorem dX13_init_455 : decode cX13_init 455 = .ok (.bipush 30, 2) := by decide +kernel
theorem dX13_init_457 : decode cX13_init 457 = .ok (.newarray .char, 2) := by decide +kernel
theorem dX13_init_459 : decode cX13_init 459 = .ok (.dup, 1) := by decide +kernel
theorem dX13_init_460 : decode cX13_init 460 = .ok (.iconst 0, 1) := by decide +kernel
theorem dX13_init_461 : decode cX13_init 461 = .ok (.bipush 111, 2) := by decide +kernel
theorem dX13_init_463 : decode cX13_init 463 = .ok (.castore, 1) := by decide +kernel
theorem dX13_init_464 : decode cX13_init 464 = .ok (.dup, 1) := by decide +kernel
theorem dX13_init_465 : decode cX13_init 465 = .ok (.iconst 1, 1) := by decide +kernel
theorem dX13_init_466 : decode cX13_init 466 = .ok (.bipush 102, 2) := by decide +kernel
theorem dX13_init_468 : decode cX13_init 468 = .ok (.castore, 1) := by decide +kernel
theorem dX13_init_469 : decode cX13_init 469 = .ok (.dup, 1) := by decide +kernel
theorem dX13_init_470 : decode cX13_init 470 = .ok (.iconst 2, 1) := by decide +kernel
theorem dX13_init_471 : decode cX13_init 471 = .ok (.bipush 102, 2) := by decide +kernel
theorem dX13_init_473 : decode cX13_init 473 = .ok (.castore, 1) := by decide +kernel
theorem dX13_init_474 : decode cX13_init 474 = .ok (.dup, 1) := by decide +kernel
theorem dX13_init_475 : decode cX13_init 475 = .ok (.iconst 3, 1) := by decide +kernel
theorem dX13_init_476 : decode cX13_init 476 = .ok (.bipush 59, 2) := by decide +kernel
theorem dX13_init_478 : decode cX13_init 478 = .ok (.castore, 1) := by decide +kernel
theorem dX13_init_479 : decode cX13_init 479 = .ok (.dup, 1) := by decide +kernel
theorem dX13_init_480 : decode cX13_init 480 = .ok (.iconst 4, 1) := by decide +kernel
theorem dX13_init_481 : decode cX13_init 481 = .ok (.bipush 111, 2) := by decide +kernel
theorem dX13_init_483 : decode cX13_init 483 = .ok (.castore, 1) := by decide +kernel
theorem dX13_init_484 : decode cX13_init 484 = .ok (.dup, 1) := by decide +kernel
theorem dX13_init_485 : decode cX13_init 485 = .ok (.iconst 5, 1) := by decide +kernel
theorem dX13_init_486 : decode cX13_init 486 = .ok (.bipush 110, 2) := by decide +kernel
theorem dX13_init_488 : decode cX13_init 488 = .ok (.castore, 1) := by decide +kernel
theorem dX13_init_489 : decode cX13_init 489 = .ok (.dup, 1) := by decide +kernel
theorem dX13_init_490 : decode cX13_init 490 = .ok (.bipush 6, 2) := by decide +kernel
theorem dX13_init_492 : decode cX13_init 492 = .ok (.bipush 59, 2) := by decide +kernel
theorem dX13_init_494 : decode cX13_init 494 = .ok (.castore, 1) := by decide +kernel
theorem dX13_init_495 : decode cX13_init 495 = .ok (.dup, 1) := by decide +kernel
theorem dX13_init_496 : decode cX13_init 496 = .ok (.bipush 7, 2) := by decide +kernel
theorem dX13_init_498 : decode cX13_init 498 = .ok (.bipush 114, 2) := by decide +kernel
theorem dX13_init_500 : decode cX13_init 500 = .ok (.castore, 1) := by decide +kernel
theorem dX13_init_501 : decode cX13_init 501 = .ok (.dup, 1) := by decide +kernel
theorem dX13_init_502 : decode cX13_init 502 = .ok (.bipush 8, 2) := by decide +kernel
theorem dX13_init_504 : decode cX13_init 504 = .ok (.bipush 111, 2) := by decide +kernel
theorem dX13_init_506 : decode cX13_init 506 = .ok (.castore, 1) := by decide +kernel
theorem dX13_init_507 : decode cX13_init 507 = .ok (.dup, 1) := by decide +kernel
theorem dX13_init_508 : decode cX13_init 508 = .ok (.bipush 9, 2) := by decide +kernel
theorem dX13_init_510 : decode cX13_init 510 = .ok (.bipush 119, 2) := by decide +kernel
theorem dX13_init_512 : decode cX13_init 512 = .ok (.castore, 1) := by decide +kernel
theorem dX13_init_513 : decode cX13_init 513 = .ok (.dup, 1) := by decide +kernel
theorem dX13_init_514 : decode cX13_init 514 = .ok (.bipush 10, 2) := by decide +kernel
theorem dX13_init_516 : decode cX13_init 516 = .ok (.bipush 115, 2) := by decide +kernel
theorem dX13_init_518 : decode cX13_init 518 = .ok (.castore, 1) := by decide +kernel
theorem dX13_init_519 : decode cX13_init 519 = .ok (.dup, 1) := by decide +kernel
theorem dX13_init_520 : decode cX13_init 520 = .ok (.bipush 11, 2) := by decide +kernel
theorem dX13_init_522 : decode cX13_init 522 = .ok (.bipush 59, 2) := by decide +kernel
theorem dX13_init_524 : decode cX13_init 524 = .ok (.castore, 1) := by decide +kernel
theorem dX13_init_525 : decode cX13_init 525 = .ok (.dup, 1) := by decide +kernel
theorem dX13_init_526 : decode cX13_init 526 = .ok (.bipush 12, 2) := by decide +kernel
theorem dX13_init_528 : decode cX13_init 528 = .ok (.bipush 99, 2) := by decide +kernel
theorem dX13_init_530 : decode cX13_init 530 = .ok (.castore, 1) := by decide +kernel
theorem dX13_init_531 : decode cX13_init 531 = .ok (.dup, 1) := by decide +kernel
theorem dX13_init_532 : decode cX13_init 532 = .ok (.bipush 13, 2) := by decide +kernel
theorem dX13_init_534 : decode cX13_init 534 = .ok (.bipush 111, 2) := by decide +kernel
theorem dX13_init_536 : decode cX13_init 536 = .ok (.castore, 1) := by decide +kernel
theorem dX13_init_537 : decode cX13_init 537 = .ok (.dup, 1) := by decide +kernel
theorem dX13_init_538 : decode cX13_init 538 = .ok (.bipush 14, 2) := by decide +kernel
theorem dX13_init_540 : decode cX13_init 540 = .ok (.bipush 108, 2) := by decide +kernel
theorem dX13_init_542 : decode cX13_init 542 = .ok (.castore, 1) := by decide +kernel
theorem dX13_init_543 : decode cX13_init 543 = .ok (.dup, 1) := by decide +kernel
theorem dX13_init_544 : decode cX13_init 544 = .ok (.bipush 15, 2) := by decide +kernel
theorem dX13_init_546 : decode cX13_init 546 = .ok (.bipush 117, 2) := by decide +kernel
theorem dX13_init_548 : decode cX13_init 548 = .ok (.castore, 1) := by decide +kernel
theorem dX13_init_549 : decode cX13_init 549 = .ok (.dup, 1) := by decide +kernel
theorem dX13_init_550 : decode cX13_init 550 = .ok (.bipush 16, 2) := by decide +kernel
theorem dX13_init_552 : decode cX13_init 552 = .ok (.bipush 109, 2) := by decide +kernel
theorem dX13_init_554 : decode cX13_init 554 = .ok (.castore, 1) := by decide +kernel
theorem dX13_init_555 : decode cX13_init 555 = .ok (.dup, 1) := by decide +kernel
theorem dX13_init_556 : decode cX13_init 556 = .ok (.bipush 17, 2) := by decide +kernel
theorem dX13_init_558 : decode cX13_init 558 = .ok (.bipush 110, 2) := by decide +kernel
theorem dX13_init_560 : decode cX13_init 560 = .ok (.castore, 1) := by decide +kernel
theorem dX13_init_561 : decode cX13_init 561 = .ok (.dup, 1) := by decide +kernel
theorem dX13_init_562 : decode cX13_init 562 = .ok (.bipush 18, 2) := by decide +kernel
theorem dX13_init_564 : decode cX13_init 564 = .ok (.bipush 115, 2) := by decide +kernel
theorem dX13_init_566 : decode cX13_init 566 = .ok (.castore, 1) := by decide +kernel
theorem dX13_init_567 : decode cX13_init 567 = .ok (.dup, 1) := by decide +kernel
theorem dX13_init_568 : decode cX13_init 568 = .ok (.bipush 19, 2) := by decide +kernel
theorem dX13_init_570 : decode cX13_init 570 = .ok (.bipush 59, 2) := by decide +kernel
theorem dX13_init_572 : decode cX13_init 572 = .ok (.castore, 1) := by decide +kernel
theorem dX13_init_573 : decode cX13_init 573 = .ok (.dup, 1) := by decide +kernel
theorem dX13_init_574 : decode cX13_init 574 = .ok (.bipush 20, 2) := by decide +kernel
theorem dX13_init_576 : decode cX13_init 576 = .ok (.bipush 107, 2) := by decide +kernel
theorem dX13_init_578 : decode cX13_init 578 = .ok (.castore, 1) := by decide +kernel
theorem dX13_init_579 : decode cX13_init 579 = .ok (.dup, 1) := by decide +kernel
theorem dX13_init_580 : decode cX13_init 580 = .ok (.bipush 21, 2) := by decide +kernel
theorem dX13_init_582 : decode cX13_init 582 = .ok (.bipush 101, 2) := by decide +kernel
theorem dX13_init_584 : decode cX13_init 584 = .ok (.castore, 1) := by decide +kernel
theorem dX13_init_585 : decode cX13_init 585 = .ok (.dup, 1) := by decide +kernel
theorem dX13_init_586 : decode cX13_init 586 = .ok (.bipush 22, 2) := by decide +kernel
theorem dX13_init_588 : decode cX13_init 588 = .ok (.bipush 101, 2) := by decide +kernel
theorem dX13_init_590 : decode cX13_init 590 = .ok (.castore, 1) := by decide +kernel
theorem dX13_init_591 : decode cX13_init 591 = .ok (.dup, 1) := by decide +kernel
theorem dX13_init_592 : decode cX13_init 592 = .ok (.bipush 23, 2) := by decide +kernel
theorem dX13_init_594 : decode cX13_init 594 = .ok (.bipush 112, 2) := by decide +kernel
theorem dX13_init_596 : decode cX13_init 596 = .ok (.castore, 1) := by decide +kernel
theorem dX13_init_597 : decode cX13_init 597 = .ok (.dup, 1) := by decide +kernel
theorem dX13_init_598 : decode cX13_init 598 = .ok (.bipush 24, 2) := by decide +kernel
theorem dX13_init_600 : decode cX13_init 600 = .ok (.bipush 59, 2) := by decide +kernel
theorem dX13_init_602 : decode cX13_init 602 = .ok (.castore, 1) := by decide +kernel
theorem dX13_init_603 : decode cX13_init 603 = .ok (.dup, 1) := by decide +kernel
theorem dX13_init_604 : decode cX13_init 604 = .ok (.bipush 25, 2) := by decide +kernel
theorem dX13_init_606 : decode cX13_init 606 = .ok (.bipush 104, 2) := by decide +kernel
theorem dX13_init_608 : decode cX13_init 608 = .ok (.castore, 1) := by decide +kernel
theorem dX13_init_609 : decode cX13_init 609 = .ok (.dup, 1) := by decide +kernel
theorem dX13_init_610 : decode cX13_init 610 = .ok (.bipush 26, 2) := by decide +kernel
theorem dX13_init_612 : decode cX13_init 612 = .ok (.bipush 105, 2) := by decide +kernel
theorem dX13_init_614 : decode cX13_init 614 = .ok (.castore, 1) := by decide +kernel
theorem dX13_init_615 : decode cX13_init 615 = .ok (.dup, 1) := by decide +kernel
theorem dX13_init_616 : decode cX13_init 616 = .ok (.bipush 27, 2) := by decide +kernel
theorem dX13_init_618 : decode cX13_init 618 = .ok (.bipush 100, 2) := by decide +kernel
theorem dX13_init_620 : decode cX13_init 620 = .ok (.castore, 1) := by decide +kernel
theorem dX13_init_621 : decode cX13_init 621 = .ok (.dup, 1) := by decide +kernel
theorem dX13_init_622 : decode cX13_init 622 = .ok (.bipush 28, 2) := by decide +kernel
theorem dX13_init_624 : decode cX13_init 624 = .ok (.bipush 101, 2) := by decide +kernel
theorem dX13_init_626 : decode cX13_init 626 = .ok (.castore, 1) := by decide +kernel
theorem dX13_init_627 : decode cX13_init 627 = .ok (.dup, 1) := by decide +kernel
theorem dX13_init_628 : decode cX13_init 628 = .ok (.bipush 29, 2) := by decide +kernel
theorem dX13_init_630 : decode cX13_init 630 = .ok (.bipush 59, 2) := by decide +kernel
theorem dX13_init_632 : decode cX13_init 632 = .ok (.castore, 1) := by decide +kernel
theorem dX13_init_633 : decode cX13_init 633 = .ok (.putfield 43, 3) := by decide +kernel
theorem dX13_init_636 : decode cX13_init 636 = .ok (.aload_n 0, 1) := by decide +kernel
theorem dX13_init_637 : decode cX13_init 637 = .ok (.bipush 10, 2) := by decide +kernel
theorem dX13_init_639 : decode cX13_init 639 = .ok (.newarray .int, 2) := by decide +kernel
theorem dX13_init_641 : decode cX13_init 641 = .ok (.dup, 1) := by decide +kernel
theorem dX13_init_642 : decode cX13_init 642 = .ok (.iconst 0, 1) := by decide +kernel
theorem dX13_init_643 : decode cX13_init 643 = .ok (.iconst 4, 1) := by decide +kernel
theorem dX13_init_644 : decode cX13_init 644 = .ok (.iastore, 1) := by decide +kernel
theorem dX13_init_645 : decode cX13_init 645 = .ok (.dup, 1) := by decide +kernel
theorem dX13_init_646 : decode cX13_init 646 = .ok (.iconst 1, 1) := by decide +kernel
theorem dX13_init_647 : decode cX13_init 647 = .ok (.iconst 0, 1) := by decide +kernel
theorem dX13_init_648 : decode cX13_init 648 = .ok (.iastore, 1) := by decide +kernel
theorem dX13_init_649 : decode cX13_init 649 = .ok (.dup, 1) := by decide +kernel
theorem dX13_init_650 : decode cX13_init 650 = .ok (.iconst 2, 1) := by decide +kernel
theorem dX13_init_651 : decode cX13_init 651 = .ok (.iconst 0, 1) := by decide +kernel
theorem dX13_init_652 : decode cX13_init 652 = .ok (.iastore, 1) := by decide +kernel
theorem dX13_init_653 : decode cX13_init 653 = .ok (.dup, 1) := by decide +kernel
theorem dX13_init_654 : decode cX13_init 654 = .ok (.iconst 3, 1) := by decide +kernel
theorem dX13_init_655 : decode cX13_init 655 = .ok (.iconst 0, 1) := by decide +kernel
theorem dX13_init_656 : decode cX13_init 656 = .ok (.iastore, 1) := by decide +kernel
theorem dX13_init_657 : decode cX13_init 657 = .ok (.dup, 1) := by decide +kernel
theorem dX13_init_658 : decode cX13_init 658 = .ok (.iconst 4, 1) := by decide +kernel
theorem dX13_init_659 : decode cX13_init 659 = .ok (.iconst 0, 1) := by decide +kernel
theorem dX13_init_660 : decode cX13_init 660 = .ok (.iastore, 1) := by decide +kernel
theorem dX13_init_661 : decode cX13_init 661 = .ok (.dup, 1) := by decide +kernel
theorem dX13_init_662 : decode cX13_init 662 = .ok (.iconst 5, 1) := by decide +kernel
theorem dX13_init_663 : decode cX13_init 663 = .ok (.iconst 0, 1) := by decide +kernel
theorem dX13_init_664 : decode cX13_init 664 = .ok (.iastore, 1) := by decide +kernel
theorem dX13_init_665 : decode cX13_init 665 = .ok (.dup, 1) := by decide +kernel
theorem dX13_init_666 : decode cX13_init 666 = .ok (.bipush 6, 2) := by decide +kernel
theorem dX13_init_668 : decode cX13_init 668 = .ok (.iconst 0, 1) := by decide +kernel
theorem dX13_init_669 : decode cX13_init 669 = .ok (.iastore, 1) := by decide +kernel
theorem dX13_init_670 : decode cX13_init 670 = .ok (.dup, 1) := by decide +kernel
theorem dX13_init_671 : decode cX13_init 671 = .ok (.bipush 7, 2) := by decide +kernel
theorem dX13_init_673 : decode cX13_init 673 = .ok (.iconst 0, 1) := by decide +kernel
theorem dX13_init_674 : decode cX13_init 674 = .ok (.iastore, 1) := by decide +kernel
theorem dX13_init_675 : decode cX13_init 675 = .ok (.dup, 1) := by decide +kernel
theorem dX13_init_676 : decode cX13_init 676 = .ok (.bipush 8, 2) := by decide +kernel
theorem dX13_init_678 : decode cX13_init 678 = .ok (.iconst 1, 1) := by decide +kernel
theorem dX13_init_679 : decode cX13_init 679 = .ok (.iastore, 1) := by decide +kernel
theorem dX13_init_680 : decode cX13_init 680 = .ok (.dup, 1) := by decide +kernel
theorem dX13_init_681 : decode cX13_init 681 = .ok (.bipush 9, 2) := by decide +kernel
theorem dX13_init_683 : decode cX13_init 683 = .ok (.iconst 0, 1) := by decide +kernel
theorem dX13_init_684 : decode cX13_init 684 = .ok (.iastore, 1) := by decide +kernel
theorem dX13_init_685 : decode cX13_init 685 = .ok (.putfield 46, 3) := by decide +kernel
theorem dX13_init_688 : decode cX13_init 688 = .ok (.aload_n 0, 1) := by decide +kernel
theorem dX13_init_689 : decode cX13_init 689 = .ok (.bipush 10, 2) := by decide +kernel
theorem dX13_init_691 : decode cX13_init 691 = .ok (.newarray .int, 2) := by decide +kernel
theorem dX13_init_693 : decode cX13_init 693 = .ok (.dup, 1) := by decide +kernel
theorem dX13_init_694 : decode cX13_init 694 = .ok (.iconst 0, 1) := by decide +kernel
theorem dX13_init_695 : decode cX13_init 695 = .ok (.bipush 16, 2) := by decide +kernel
theorem dX13_init_697 : decode cX13_init 697 = .ok (.iastore, 1) := by decide +kernel
theorem dX13_init_698 : decode cX13_init 698 = .ok (.dup, 1) := by decide +kernel
theorem dX13_init_699 : decode cX13_init 699 = .ok (.iconst 1, 1) := by decide +kernel
theorem dX13_init_700 : decode cX13_init 700 = .ok (.sipush 256, 3) := by decide +kernel
theorem dX13_init_703 : decode cX13_init 703 = .ok (.iastore, 1) := by decide +kernel
theorem dX13_init_704 : decode cX13_init 704 = .ok (.dup, 1) := by decide +kernel
theorem dX13_init_705 : decode cX13_init 705 = .ok (.iconst 2, 1) := by decide +kernel
theorem dX13_init_706 : decode cX13_init 706 = .ok (.iconst 2, 1) := by decide +kernel
theorem dX13_init_707 : decode cX13_init 707 = .ok (.iastore, 1) := by decide +kernel
theorem dX13_init_708 : decode cX13_init 708 = .ok (.dup, 1) := by decide +kernel
theorem dX13_init_709 : decode cX13_init 709 = .ok (.iconst 3, 1) := by decide +kernel
theorem dX13_init_710 : decode cX13_init 710 = .ok (.bipush 9, 2) := by decide +kernel
theorem dX13_init_712 : decode cX13_init 712 = .ok (.iastore, 1) := by decide +kernel
theorem dX13_init_713 : decode cX13_init 713 = .ok (.dup, 1) := by decide +kernel
theorem dX13_init_714 : decode cX13_init 714 = .ok (.iconst 4, 1) := by decide +kernel
theorem dX13_init_715 : decode cX13_init 715 = .ok (.bipush 16, 2) := by decide +kernel
theorem dX13_init_717 : decode cX13_init 717 = .ok (.iastore, 1) := by decide +kernel
theorem dX13_init_718 : decode cX13_init 718 = .ok (.dup, 1) := by decide +kernel
theorem dX13_init_719 : decode cX13_init 719 = .ok (.iconst 5, 1) := by decide +kernel
theorem dX13_init_720 : decode cX13_init 720 = .ok (.iconst 2, 1) := by decide +kernel
theorem dX13_init_721 : decode cX13_init 721 = .ok (.iastore, 1) := by decide +kernel
theorem dX13_init_722 : decode cX13_init 722 = .ok (.dup, 1) := by decide +kernel
theorem dX13_init_723 : decode cX13_init 723 = .ok (.bipush 6, 2) := by decide +kernel
theorem dX13_init_725 : decode cX13_init 725 = .ok (.iconst 1, 1) := by decide +kernel
theorem dX13_init_726 : decode cX13_init 726 = .ok (.iastore, 1) := by decide +kernel
theorem dX13_init_727 : decode cX13_init 727 = .ok (.dup, 1) := by decide +kernel
theorem dX13_init_728 : decode cX13_init 728 = .ok (.bipush 7, 2) := by decide +kernel
theorem dX13_init_730 : decode cX13_init 730 = .ok (.iconst 1, 1) := by decide +kernel
theorem dX13_init_731 : decode cX13_init 731 = .ok (.iastore, 1) := by decide +kernel
theorem dX13_init_732 : decode cX13_init 732 = .ok (.dup, 1) := by decide +kernel
theorem dX13_init_733 : decode cX13_init 733 = .ok (.bipush 8, 2) := by decide +kernel
theorem dX13_init_735 : decode cX13_init 735 = .ok (.bipush 99, 2) := by decide +kernel
theorem dX13_init_737 : decode cX13_init 737 = .ok (.iastore, 1) := by decide +kernel
theorem dX13_init_738 : decode cX13_init 738 = .ok (.dup, 1) := by decide +kernel
theorem dX13_init_739 : decode cX13_init 739 = .ok (.bipush 9, 2) := by decide +kernel
theorem dX13_init_741 : decode cX13_init 741 = .ok (.iconst 1, 1) := by decide +kernel
theorem dX13_init_742 : decode cX13_init 742 = .ok (.iastore, 1) := by decide +kernel
theorem dX13_init_743 : decode cX13_init 743 = .ok (.putfield 49, 3) := by decide +kernel
theorem dX13_init_746 : decode cX13_init 746 = .ok (.aload_n 0, 1) := by decide +kernel
theorem dX13_init_747 : decode cX13_init 747 = .ok (.bipush 80, 2) := by decide +kernel
theorem dX13_init_749 : decode cX13_init 749 = .ok (.newarray .int, 2) := by decide +kernel
theorem dX13_init_751 : decode cX13_init 751 = .ok (.putfield 52, 3) := by decide +kernel
theorem dX13_init_754 : decode cX13_init 754 = .ok (.aload_n 0, 1) := by decide +kernel
theorem dX13_init_755 : decode cX13_init 755 = .ok (.bipush 80, 2) := by decide +kernel
theorem dX13_init_757 : decode cX13_init 757 = .ok (.newarray .int, 2) := by decide +kernel
theorem dX13_init_759 : decode cX13_init 759 = .ok (.putfield 55, 3) := by decide +kernel
theorem dX13_init_762 : decode cX13_init 762 = .ok (.aload_n 0, 1) := by decide +kernel
theorem dX13_init_763 : decode cX13_init 763 = .ok (.ldc 58, 2) := by decide +kernel
theorem dX13_init_765 : decode cX13_init 765 = .ok (.newarray .int, 2) := by decide +kernel
theorem dX13_init_767 : decode cX13_init 767 = .ok (.putfield 59, 3) := by decide +kernel
theorem dX13_init_770 : decode cX13_init 770 = .ok (.aload_n 0, 1) := by decide +kernel
theorem dX13_init_771 : decode cX13_init 771 = .ok (.bipush 6, 2) := by decide +kernel
theorem dX13_init_773 : decode cX13_init 773 = .ok (.newarray .int, 2) := by decide +kernel
theorem dX13_init_775 : decode cX13_init 775 = .ok (.putfield 62, 3) := by decide +kernel
theorem dX13_init_778 : decode cX13_init 778 = .ok (.aload_n 0, 1) := by decide +kernel
theorem dX13_init_779 : decode cX13_init 779 = .ok (.bipush 6, 2) := by decide +kernel
theorem dX13_init_781 : decode cX13_init 781 = .ok (.newarray .int, 2) := by decide +kernel
theorem dX13_init_783 : decode cX13_init 783 = .ok (.putfield 65, 3) := by decide +kernel
theorem dX13_init_786 : decode cX13_init 786 = .ok (.aload_n 0, 1) := by decide +kernel
theorem dX13_init_787 : decode cX13_init 787 = .ok (.bipush 6, 2) := by decide +kernel
theorem dX13_init_789 : decode cX13_init 789 = .ok (.newarray .int, 2) := by decide +kernel
theorem dX13_init_791 : decode cX13_init 791 = .ok (.putfield 68, 3) := by decide +kernel
theorem dX13_init_794 : decode cX13_init 794 = .ok (.aload_n 0, 1) := by decide +kernel
theorem dX13_init_795 : decode cX13_init 795 = .ok (.bipush 6, 2) := by decide +kernel
theorem dX13_init_797 : decode cX13_init 797 = .ok (.newarray .int, 2) := by decide +kernel
theorem dX13_init_799 : decode cX13_init 799 = .ok (.putfield 71, 3) := by decide +kernel
theorem dX13_init_802 : decode cX13_init 802 = .ok (.aload_n 0, 1) := by decide +kernel
theorem dX13_init_803 : decode cX13_init 803 = .ok (.sipush 28672, 3) := by decide +kernel
theorem dX13_init_806 : decode cX13_init 806 = .ok (.newarray .boolean, 2) := by decide +kernel
theorem dX13_init_808 : decode cX13_init 808 = .ok (.putfield 74, 3) := by decide +kernel
theorem dX13_init_811 : decode cX13_init 811 = .ok (.aload_n 0, 1) := by decide +kernel
theorem dX13_init_812 : decode cX13_init 812 = .ok (.bipush 7, 2) := by decide +kernel
theorem dX13_init_814 : decode cX13_init 814 = .ok (.newarray .int, 2) := by decide +kernel
theorem dX13_init_816 : decode cX13_init 816 = .ok (.putfield 77, 3) := by decide +kernel
theorem dX13_init_819 : decode cX13_init 819 = .ok (.aload_n 0, 1) := by decide +kernel
theorem dX13_init_820 : decode cX13_init 820 = .ok (.bipush 7, 2) := by decide +kernel
theorem dX13_init_822 : decode cX13_init 822 = .ok (.newarray .int, 2) := by decide +kernel
theorem dX13_init_824 : decode cX13_init 824 = .ok (.putfield 80, 3) := by decide +kernel
theorem dX13_init_827 : decode cX13_init 827 = .ok (.aload_n 0, 1) := by decide +kernel
theorem dX13_init_828 : decode cX13_init 828 = .ok (.sipush 4096, 3) := by decide +kernel
theorem dX13_init_831 : decode cX13_init 831 = .ok (.newarray .boolean, 2) := by decide +kernel
theorem dX13_init_833 : decode cX13_init 833 = .ok (.putfield 83, 3) := by decide +kernel
theorem dX13_init_836 : decode cX13_init 836 = .ok (.aload_n 0, 1) := by decide +kernel
theorem dX13_init_837 : decode cX13_init 837 = .ok (.sipush 4096, 3) := by decide +kernel
theorem dX13_init_840 : decode cX13_init 840 = .ok (.newarray .boolean, 2) := by decide +kernel
theorem dX13_init_842 : decode cX13_init 842 = .ok (.putfield 86, 3) := by decide +kernel
theorem dX13_init_845 : decode cX13_init 845 = .ok (.aload_n 0, 1) := by decide +kernel
theorem dX13_init_846 : decode cX13_init 846 = .ok (.sipush 4096, 3) := by decide +kernel
theorem dX13_init_849 : decode cX13_init 849 = .ok (.newarray .boolean, 2) := by decide +kernel
theorem dX13_init_851 : decode cX13_init 851 = .ok (.putfield 89, 3) := by decide +kernel
theorem dX13_init_854 : decode cX13_init 854 = .ok (.aload_n 0, 1) := by decide +kernel
theorem dX13_init_855 : decode cX13_init 855 = .ok (.sipush 4096, 3) := by decide +kernel
theorem dX13_init_858 : decode cX13_init 858 = .ok (.newarray .boolean, 2) := by decide +kernel
theorem dX13_init_860 : decode cX13_init 860 = .ok (.putfield 92, 3) := by decide +kernel
theorem dX13_init_863 : decode cX13_init 863 = .ok (.aload_n 0, 1) := by decide +kernel
theorem dX13_init_864 : decode cX13_init 864 = .ok (.sipush 4096, 3) := by decide +kernel
theorem dX13_init_867 : decode cX13_init 867 = .ok (.newarray .boolean, 2) := by decide +kernel
theorem dX13_init_869 : decode cX13_init 869 = .ok (.putfield 95, 3) := by decide +kernel
theorem dX13_init_872 : decode cX13_init 872 = .ok (.aload_n 0, 1) := by decide +kernel
theorem dX13_init_873 : decode cX13_init 873 = .ok (.sipush 256, 3) := by decide +kernel
theorem dX13_init_876 : decode cX13_init 876 = .ok (.newarray .int, 2) := by decide +kernel
theorem dX13_init_878 : decode cX13_init 878 = .ok (.putfield 98, 3) := by decide +kernel
theorem dX13_init_881 : decode cX13_init 881 = .ok (.aload_n 0, 1) := by decide +kernel
theorem dX13_init_882 : decode cX13_init 882 = .ok (.sipush 256, 3) := by decide +kernel
theorem dX13_init_885 : decode cX13_init 885 = .ok (.newarray .int, 2) := by decide +kernel
theorem dX13_init_887 : decode cX13_init 887 = .ok (.putfield 101, 3) := by decide +kernel
theorem dX13_init_890 : decode cX13_init 890 = .ok (.aload_n 0, 1) := by decide +kernel
theorem dX13_init_891 : decode cX13_init 891 = .ok (.sipush 4096, 3) := by decide +kernel
theorem dX13_init_894 : decode cX13_init 894 = .ok (.newarray .boolean, 2) := by decide +kernel
theorem dX13_init_896 : decode cX13_init 896 = .ok (.putfield 104, 3) := by decide +kernel
theorem dX13_init_899 : decode cX13_init 899 = .ok (.aload_n 0, 1) := by decide +kernel
theorem dX13_init_900 : decode cX13_init 900 = .ok (.sipush 4096, 3) := by decide +kernel
theorem dX13_init_903 : decode cX13_init 903 = .ok (.newarray .boolean, 2) := by decide +kernel
theorem dX13_init_905 : decode cX13_init 905 = .ok (.putfield 107, 3) := by decide +kernel
theorem dX13_init_908 : decode cX13_init 908 = .ok (.aload_n 0, 1) := by decide +kernel
theorem dX13_init_909 : decode cX13_init 909 = .ok (.sipush 256, 3) := by decide +kernel
theorem dX13_init_912 : decode cX13_init 912 = .ok (.newarray .int, 2) := by decide +kernel
theorem dX13_init_914 : decode cX13_init 914 = .ok (.putfield 110, 3) := by decide +kernel
theorem dX13_init_917 : decode cX13_init 917 = .ok (.aload_n 0, 1) := by decide +kernel
theorem dX13_init_918 : decode cX13_init 918 = .ok (.sipush 256, 3) := by decide +kernel
theorem dX13_init_921 : decode cX13_init 921 = .ok (.newarray .int, 2) := by decide +kernel
theorem dX13_init_923 : decode cX13_init 923 = .ok (.putfield 113, 3) := by decide +kernel
theorem dX13_init_926 : decode cX13_init 926 = .ok (.aload_n 0, 1) := by decide +kernel
theorem dX13_init_927 : decode cX13_init 927 = .ok (.sipush 256, 3) := by decide +kernel
theorem dX13_init_930 : decode cX13_init 930 = .ok (.newarray .int, 2) := by decide +kernel
theorem dX13_init_932 : decode cX13_init 932 = .ok (.putfield 116, 3) := by decide +kernel
theorem dX13_init_935 : decode cX13_init 935 = .ok (.aload_n 0, 1) := by decide +kernel
theorem dX13_init_936 : decode cX13_init 936 = .ok (.sipush 256, 3) := by decide +kernel
theorem dX13_init_939 : decode cX13_init 939 = .ok (.newarray .int, 2) := by decide +kernel
theorem dX13_init_941 : decode cX13_init 941 = .ok (.putfield 119, 3) := by decide +kernel
theorem dX13_init_944 : decode cX13_init 944 = .ok (.aload_n 0, 1) := by decide +kernel
theorem dX13_init_945 : decode cX13_init 945 = .ok (.sipush 256, 3) := by decide +kernel
theorem dX13_init_948 : decode cX13_init 948 = .ok (.newarray .int, 2) := by decide +kernel
theorem dX13_init_950 : decode cX13_init 950 = .ok (.putfield 122, 3) := by decide +kernel
theorem dX13_init_953 : decode cX13_init 953 = .ok (.aload_n 0, 1) := by decide +kernel
theorem dX13_init_954 : decode cX13_init 954 = .ok (.sipush 256, 3) := by decide +kernel
theorem dX13_init_957 : decode cX13_init 957 = .ok (.newarray .int, 2) := by decide +kernel
theorem dX13_init_959 : decode cX13_init 959 = .ok (.putfield 125, 3) := by decide +kernel
theorem dX13_init_962 : decode cX13_init 962 = .ok (.aload_n 0, 1) := by decide +kernel
theorem dX13_init_963 : decode cX13_init 963 = .ok (.sipush 256, 3) := by decide +kernel
theorem dX13_init_966 : decode cX13_init 966 = .ok (.newarray .int, 2) := by decide +kernel
theorem dX13_init_968 : decode cX13_init 968 = .ok (.putfield 128, 3) := by decide +kernel
theorem dX13_init_971 : decode cX13_init 971 = .ok (.aload_n 0, 1) := by decide +kernel
theorem dX13_init_972 : decode cX13_init 972 = .ok (.sipush 256, 3) := by decide +kernel
theorem dX13_init_975 : decode cX13_init 975 = .ok (.newarray .int, 2) := by decide +kernel
theorem dX13_init_977 : decode cX13_init 977 = .ok (.putfield 131, 3) := by decide +kernel
theorem dX13_init_980 : decode cX13_init 980 = .ok (.aload_n 0, 1) := by decide +kernel
theorem dX13_init_981 : decode cX13_init 981 = .ok (.sipush 256, 3) := by decide +kernel
theorem dX13_init_984 : decode cX13_init 984 = .ok (.newarray .int, 2) := by decide +kernel
theorem dX13_init_986 : decode cX13_init 986 = .ok (.putfield 134, 3) := by decide +kernel
theorem dX13_init_989 : decode cX13_init 989 = .ok (.aload_n 0, 1) := by decide +kernel
theorem dX13_init_990 : decode cX13_init 990 = .ok (.sipush 256, 3) := by decide +kernel
theorem dX13_init_993 : decode cX13_init 993 = .ok (.newarray .int, 2) := by decide +kernel
theorem dX13_init_995 : decode cX13_init 995 = .ok (.putfield 137, 3) := by decide +kernel
theorem dX13_init_998 : decode cX13_init 998 = .ok (.aload_n 0, 1) := by decide +kernel
theorem dX13_init_999 : decode cX13_init 999 = .ok (.sipush 256, 3) := by decide +kernel
theorem dX13_init_1002 : decode cX13_init 1002 = .ok (.newarray .boolean, 2) := by decide +kernel
theorem dX13_init_1004 : decode cX13_init 1004 = .ok (.putfield 140, 3) := by decide +kernel
theorem dX13_init_1007 : decode cX13_init 1007 = .ok (.aload_n 0, 1) := by decide +kernel
theorem dX13_init_1008 : decode cX13_init 1008 = .ok (.sipush 256, 3) := by decide +kernel
theorem dX13_init_1011 : decode cX13_init 1011 = .ok (.newarray .int, 2) := by decide +kernel
theorem dX13_init_1013 : decode cX13_init 1013 = .ok (.putfield 143, 3) := by decide +kernel
theorem dX13_init_1016 : decode cX13_init 1016 = .ok (.aload_n 0, 1) := by decide +kernel
theorem dX13_init_1017 : decode cX13_init 1017 = .ok (.sipush 512, 3) := by decide +kernel
theorem dX13_init_1020 : decode cX13_init 1020 = .ok (.newarray .int, 2) := by decide +kernel
theorem dX13_init_1022 : decode cX13_init 1022 = .ok (.putfield 146, 3) := by decide +kernel
theorem dX13_init_1025 : decode cX13_init 1025 = .ok (.aload_n 0, 1) := by decide +kernel
theorem dX13_init_1026 : decode cX13_init 1026 = .ok (.sipush 512, 3) := by decide +kernel
theorem dX13_init_1029 : decode cX13_init 1029 = .ok (.newarray .int, 2) := by decide +kernel
theorem dX13_init_1031 : decode cX13_init 1031 = .ok (.putfield 149, 3) := by decide +kernel
theorem dX13_init_1034 : decode cX13_init 1034 = .ok (.aload_n 0, 1) := by decide +kernel
theorem dX13_init_1035 : decode cX13_init 1035 = .ok (.sipush 512, 3) := by decide +kernel
theorem dX13_init_1038 : decode cX13_init 1038 = .ok (.newarray .int, 2) := by decide +kernel
theorem dX13_init_1040 : decode cX13_init 1040 = .ok (.putfield 152, 3) := by decide +kernel
theorem dX13_init_1043 : decode cX13_init 1043 = .ok (.aload_n 0, 1) := by decide +kernel
theorem dX13_init_1044 : decode cX13_init 1044 = .ok (.sipush 512, 3) := by decide +kernel
theorem dX13_init_1047 : decode cX13_init 1047 = .ok (.newarray .int, 2) := by decide +kernel
theorem dX13_init_1049 : decode cX13_init 1049 = .ok (.putfield 155, 3) := by decide +kernel
theorem dX13_init_1052 : decode cX13_init 1052 = .ok (.aload_n 0, 1) := by decide +kernel
theorem dX13_init_1053 : decode cX13_init 1053 = .ok (.sipush 512, 3) := by decide +kernel
theorem dX13_init_1056 : decode cX13_init 1056 = .ok (.newarray .int, 2) := by decide +kernel
theorem dX13_init_1058 : decode cX13_init 1058 = .ok (.putfield 158, 3) := by decide +kernel
theorem dX13_init_1061 : decode cX13_init 1061 = .ok (.aload_n 0, 1) := by decide +kernel
theorem dX13_init_1062 : decode cX13_init 1062 = .ok (.sipush 512, 3) := by decide +kernel
theorem dX13_init_1065 : decode cX13_init 1065 = .ok (.newarray .boolean, 2) := by decide +kernel
theorem dX13_init_1067 : decode cX13_init 1067 = .ok (.putfield 161, 3) := by decide +kernel
theorem dX13_init_1070 : decode cX13_init 1070 = .ok (.aload_n 0, 1) := by decide +kernel
theorem dX13_init_1071 : decode cX13_init 1071 = .ok (.sipush 512, 3) := by decide +kernel
theorem dX13_init_1074 : decode cX13_init 1074 = .ok (.newarray .int, 2) := by decide +kernel
theorem dX13_init_1076 : decode cX13_init 1076 = .ok (.putfield 164, 3) := by decide +kernel
theorem dX13_init_1079 : decode cX13_init 1079 = .ok (.aload_n 0, 1) := by decide +kernel
theorem dX13_init_1080 : decode cX13_init 1080 = .ok (.sipush 512, 3) := by decide +kernel
theorem dX13_init_1083 : decode cX13_init 1083 = .ok (.newarray .int, 2) := by decide +kernel
theorem dX13_init_1085 : decode cX13_init 1085 = .ok (.putfield 167, 3) := by decide +kernel
theorem dX13_init_1088 : decode cX13_init 1088 = .ok (.aload_n 0, 1) := by decide +kernel
theorem dX13_init_1089 : decode cX13_init 1089 = .ok (.sipush 512, 3) := by decide +kernel
theorem dX13_init_1092 : decode cX13_init 1092 = .ok (.newarray .int, 2) := by decide +kernel
theorem dX13_init_1094 : decode cX13_init 1094 = .ok (.putfield 170, 3) := by decide +kernel
theorem dX13_init_1097 : decode cX13_init 1097 = .ok (.aload_n 0, 1) := by decide +kernel
theorem dX13_init_1098 : decode cX13_init 1098 = .ok (.sipush 512, 3) := by decide +kernel
theorem dX13_init_1101 : decode cX13_init 1101 = .ok (.newarray .int, 2) := by decide +kernel
theorem dX13_init_1103 : decode cX13_init 1103 = .ok (.putfield 173, 3) := by decide +kernel
theorem dX13_init_1106 : decode cX13_init 1106 = .ok (.aload_n 0, 1) := by decide +kernel
theorem dX13_init_1107 : decode cX13_init 1107 = .ok (.bipush 85, 2) := by decide +kernel
theorem dX13_init_1109 : decode cX13_init 1109 = .ok (.newarray .char, 2) := by decide +kernel
theorem dX13_init_1111 : decode cX13_init 1111 = .ok (.dup, 1) := by decide +kernel
theorem dX13_init_1112 : decode cX13_init 1112 = .ok (.iconst 0, 1) := by decide +kernel
theorem dX13_init_1113 : decode cX13_init 1113 = .ok (.bipush 115, 2) := by decide +kernel
theorem dX13_init_1115 : decode cX13_init 1115 = .ok (.castore, 1) := by decide +kernel
theorem dX13_init_1116 : decode cX13_init 1116 = .ok (.dup, 1) := by decide +kernel
theorem dX13_init_1117 : decode cX13_init 1117 = .ok (.iconst 1, 1) := by decide +kernel
theorem dX13_init_1118 : decode cX13_init 1118 = .ok (.bipush 104, 2) := by decide +kernel
theorem dX13_init_1120 : decode cX13_init 1120 = .ok (.castore, 1) := by decide +kernel
theorem dX13_init_1121 : decode cX13_init 1121 = .ok (.dup, 1) := by decide +kernel
theorem dX13_init_1122 : decode cX13_init 1122 = .ok (.iconst 2, 1) := by decide +kernel
theorem dX13_init_1123 : decode cX13_init 1123 = .ok (.bipush 105, 2) := by decide +kernel
theorem dX13_init_1125 : decode cX13_init 1125 = .ok (.castore, 1) := by decide +kernel
theorem dX13_init_1126 : decode cX13_init 1126 = .ok (.dup, 1) := by decide +kernel
theorem dX13_init_1127 : decode cX13_init 1127 = .ok (.iconst 3, 1) := by decide +kernel
theorem dX13_init_1128 : decode cX13_init 1128 = .ok (.bipush 102, 2) := by decide +kernel
theorem dX13_init_1130 : decode cX13_init 1130 = .ok (.castore, 1) := by decide +kernel
theorem dX13_init_1131 : decode cX13_init 1131 = .ok (.dup, 1) := by decide +kernel
theorem dX13_init_1132 : decode cX13_init 1132 = .ok (.iconst 4, 1) := by decide +kernel
theorem dX13_init_1133 : decode cX13_init 1133 = .ok (.bipush 116, 2) := by decide +kernel
theorem dX13_init_1135 : decode cX13_init 1135 = .ok (.castore, 1) := by decide +kernel
theorem dX13_init_1136 : decode cX13_init 1136 = .ok (.dup, 1) := by decide +kernel
theorem dX13_init_1137 : decode cX13_init 1137 = .ok (.iconst 5, 1) := by decide +kernel
theorem dX13_init_1138 : decode cX13_init 1138 = .ok (.bipush 32, 2) := by decide +kernel
theorem dX13_init_1140 : decode cX13_init 1140 = .ok (.castore, 1) := by decide +kernel
theorem dX13_init_1141 : decode cX13_init 1141 = .ok (.dup, 1) := by decide +kernel
theorem dX13_init_1142 : decode cX13_init 1142 = .ok (.bipush 6, 2) := by decide +kernel
theorem dX13_init_1144 : decode cX13_init 1144 = .ok (.bipush 59, 2) := by decide +kernel
theorem dX13_init_1146 : decode cX13_init 1146 = .ok (.castore, 1) := by decide +kernel
theorem dX13_init_1147 : decode cX13_init 1147 = .ok (.dup, 1) := by decide +kernel
theorem dX13_init_1148 : decode cX13_init 1148 = .ok (.bipush 7, 2) := by decide +kernel
theorem dX13_init_1150 : decode cX13_init 1150 = .ok (.bipush 32, 2) := by decide +kernel
theorem dX13_init_1152 : decode cX13_init 1152 = .ok (.castore, 1) := by decide +kernel
theorem dX13_init_1153 : decode cX13_init 1153 = .ok (.dup, 1) := by decide +kernel
theorem dX13_init_1154 : decode cX13_init 1154 = .ok (.bipush 8, 2) := by decide +kernel
theorem dX13_init_1156 : decode cX13_init 1156 = .ok (.bipush 115, 2) := by decide +kernel
theorem dX13_init_1158 : decode cX13_init 1158 = .ok (.castore, 1) := by decide +kernel
theorem dX13_init_1159 : decode cX13_init 1159 = .ok (.dup, 1) := by decide +kernel
theorem dX13_init_1160 : decode cX13_init 1160 = .ok (.bipush 9, 2) := by decide +kernel
theorem dX13_init_1162 : decode cX13_init 1162 = .ok (.bipush 107, 2) := by decide +kernel
theorem dX13_init_1164 : decode cX13_init 1164 = .ok (.castore, 1) := by decide +kernel
theorem dX13_init_1165 : decode cX13_init 1165 = .ok (.dup, 1) := by decide +kernel
theorem dX13_init_1166 : decode cX13_init 1166 = .ok (.bipush 10, 2) := by decide +kernel
theorem dX13_init_1168 : decode cX13_init 1168 = .ok (.bipush 101, 2) := by decide +kernel
theorem dX13_init_1170 : decode cX13_init 1170 = .ok (.castore, 1) := by decide +kernel
theorem dX13_init_1171 : decode cX13_init 1171 = .ok (.dup, 1) := by decide +kernel
theorem dX13_init_1172 : decode cX13_init 1172 = .ok (.bipush 11, 2) := by decide +kernel
theorem dX13_init_1174 : decode cX13_init 1174 = .ok (.bipush 119, 2) := by decide +kernel
theorem dX13_init_1176 : decode cX13_init 1176 = .ok (.castore, 1) := by decide +kernel
theorem dX13_init_1177 : decode cX13_init 1177 = .ok (.dup, 1) := by decide +kernel
theorem dX13_init_1178 : decode cX13_init 1178 = .ok (.bipush 12, 2) := by decide +kernel
theorem dX13_init_1180 : decode cX13_init 1180 = .ok (.bipush 32, 2) := by decide +kernel
theorem dX13_init_1182 : decode cX13_init 1182 = .ok (.castore, 1) := by decide +kernel
theorem dX13_init_1183 : decode cX13_init 1183 = .ok (.dup, 1) := by decide +kernel
theorem dX13_init_1184 : decode cX13_init 1184 = .ok (.bipush 13, 2) := by decide +kernel
theorem dX13_init_1186 : decode cX13_init 1186 = .ok (.bipush 59, 2) := by decide +kernel
theorem dX13_init_1188 : decode cX13_init 1188 = .ok (.castore, 1) := by decide +kernel
theorem dX13_init_1189 : decode cX13_init 1189 = .ok (.dup, 1) := by decide +kernel
theorem dX13_init_1190 : decode cX13_init 1190 = .ok (.bipush 14, 2) := by decide +kernel
theorem dX13_init_1192 : decode cX13_init 1192 = .ok (.bipush 32, 2) := by decide +kernel
theorem dX13_init_1194 : decode cX13_init 1194 = .ok (.castore, 1) := by decide +kernel
theorem dX13_init_1195 : decode cX13_init 1195 = .ok (.dup, 1) := by decide +kernel
theorem dX13_init_1196 : decode cX13_init 1196 = .ok (.bipush 15, 2) := by decide +kernel
theorem dX13_init_1198 : decode cX13_init 1198 = .ok (.bipush 116, 2) := by decide +kernel
theorem dX13_init_1200 : decode cX13_init 1200 = .ok (.castore, 1) := by decide +kernel
theorem dX13_init_1201 : decode cX13_init 1201 = .ok (.dup, 1) := by decide +kernel
theorem dX13_init_1202 : decode cX13_init 1202 = .ok (.bipush 16, 2) := by decide +kernel
theorem dX13_init_1204 : decode cX13_init 1204 = .ok (.bipush 117, 2) := by decide +kernel
theorem dX13_init_1206 : decode cX13_init 1206 = .ok (.castore, 1) := by decide +kernel
theorem dX13_init_1207 : decode cX13_init 1207 = .ok (.dup, 1) := by decide +kernel
theorem dX13_init_1208 : decode cX13_init 1208 = .ok (.bipush 17, 2) := by decide +kernel
theorem dX13_init_1210 : decode cX13_init 1210 = .ok (.bipush 114, 2) := by decide +kernel
theorem dX13_init_1212 : decode cX13_init 1212 = .ok (.castore, 1) := by decide +kernel
theorem dX13_init_1213 : decode cX13_init 1213 = .ok (.dup, 1) := by decide +kernel
theorem dX13_init_1214 : decode cX13_init 1214 = .ok (.bipush 18, 2) := by decide +kernel
theorem dX13_init_1216 : decode cX13_init 1216 = .ok (.bipush 110, 2) := by decide +kernel
theorem dX13_init_1218 : decode cX13_init 1218 = .ok (.castore, 1) := by decide +kernel
theorem dX13_init_1219 : decode cX13_init 1219 = .ok (.dup, 1) := by decide +kernel
theorem dX13_init_1220 : decode cX13_init 1220 = .ok (.bipush 19, 2) := by decide +kernel
theorem dX13_init_1222 : decode cX13_init 1222 = .ok (.bipush 101, 2) := by decide +kernel
theorem dX13_init_1224 : decode cX13_init 1224 = .ok (.castore, 1) := by decide +kernel
theorem dX13_init_1225 : decode cX13_init 1225 = .ok (.dup, 1) := by decide +kernel
theorem dX13_init_1226 : decode cX13_init 1226 = .ok (.bipush 20, 2) := by decide +kernel
theorem dX13_init_1228 : decode cX13_init 1228 = .ok (.bipush 100, 2) := by decide +kernel
theorem dX13_init_1230 : decode cX13_init 1230 = .ok (.castore, 1) := by decide +kernel
theorem dX13_init_1231 : decode cX13_init 1231 = .ok (.dup, 1) := by decide +kernel
theorem dX13_init_1232 : decode cX13_init 1232 = .ok (.bipush 21, 2) := by decide +kernel
theorem dX13_init_1234 : decode cX13_init 1234 = .ok (.bipush 59, 2) := by decide +kernel
theorem dX13_init_1236 : decode cX13_init 1236 = .ok (.castore, 1) := by decide +kernel
theorem dX13_init_1237 : decode cX13_init 1237 = .ok (.dup, 1) := by decide +kernel
theorem dX13_init_1238 : decode cX13_init 1238 = .ok (.bipush 22, 2) := by decide +kernel
theorem dX13_init_1240 : decode cX13_init 1240 = .ok (.bipush 32, 2) := by decide +kernel
theorem dX13_init_1242 : decode cX13_init 1242 = .ok (.castore, 1) := by decide +kernel
theorem dX13_init_1243 : decode cX13_init 1243 = .ok (.dup, 1) := by decide +kernel
theorem dX13_init_1244 : decode cX13_init 1244 = .ok (.bipush 23, 2) := by decide +kernel
theorem dX13_init_1246 : decode cX13_init 1246 = .ok (.bipush 99, 2) := by decide +kernel
theorem dX13_init_1248 : decode cX13_init 1248 = .ok (.castore, 1) := by decide +kernel
theorem dX13_init_1249 : decode cX13_init 1249 = .ok (.dup, 1) := by decide +kernel
theorem dX13_init_1250 : decode cX13_init 1250 = .ok (.bipush 24, 2) := by decide +kernel
theorem dX13_init_1252 : decode cX13_init 1252 = .ok (.bipush 104, 2) := by decide +kernel
theorem dX13_init_1254 : decode cX13_init 1254 = .ok (.castore, 1) := by decide +kernel
theorem dX13_init_1255 : decode cX13_init 1255 = .ok (.dup, 1) := by decide +kernel
theorem dX13_init_1256 : decode cX13_init 1256 = .ok (.bipush 25, 2) := by decide +kernel
theorem dX13_init_1258 : decode cX13_init 1258 = .ok (.bipush 97, 2) := by decide +kernel
theorem dX13_init_1260 : decode cX13_init 1260 = .ok (.castore, 1) := by decide +kernel
theorem dX13_init_1261 : decode cX13_init 1261 = .ok (.dup, 1) := by decide +kernel
theorem dX13_init_1262 : decode cX13_init 1262 = .ok (.bipush 26, 2) := by decide +kernel
theorem dX13_init_1264 : decode cX13_init 1264 = .ok (.bipush 110, 2) := by decide +kernel
theorem dX13_init_1266 : decode cX13_init 1266 = .ok (.castore, 1) := by decide +kernel
theorem dX13_init_1267 : decode cX13_init 1267 = .ok (.dup, 1) := by decide +kernel
theorem dX13_init_1268 : decode cX13_init 1268 = .ok (.bipush 27, 2) := by decide +kernel
theorem dX13_init_1270 : decode cX13_init 1270 = .ok (.bipush 103, 2) := by decide +kernel
theorem dX13_init_1272 : decode cX13_init 1272 = .ok (.castore, 1) := by decide +kernel
theorem dX13_init_1273 : decode cX13_init 1273 = .ok (.dup, 1) := by decide +kernel
theorem dX13_init_1274 : decode cX13_init 1274 = .ok (.bipush 28, 2) := by decide +kernel
theorem dX13_init_1276 : decode cX13_init 1276 = .ok (.bipush 101, 2) := by decide +kernel
theorem dX13_init_1278 : decode cX13_init 1278 = .ok (.castore, 1) := by decide +kernel
theorem dX13_init_1279 : decode cX13_init 1279 = .ok (.dup, 1) := by decide +kernel
theorem dX13_init_1280 : decode cX13_init 1280 = .ok (.bipush 29, 2) := by decide +kernel
theorem dX13_init_1282 : decode cX13_init 1282 = .ok (.bipush 59, 2) := by decide +kernel
theorem dX13_init_1284 : decode cX13_init 1284 = .ok (.castore, 1) := by decide +kernel
theorem dX13_init_1285 : decode cX13_init 1285 = .ok (.dup, 1) := by decide +kernel
theorem dX13_init_1286 : decode cX13_init 1286 = .ok (.bipush 30, 2) := by decide +kernel
theorem dX13_init_1288 : decode cX13_init 1288 = .ok (.bipush 114, 2) := by decide +kernel
theorem dX13_init_1290 : decode cX13_init 1290 = .ok (.castore, 1) := by decide +kernel
theorem dX13_init_1291 : decode cX13_init 1291 = .ok (.dup, 1) := by decide +kernel
theorem dX13_init_1292 : decode cX13_init 1292 = .ok (.bipush 31, 2) := by decide +kernel
theorem dX13_init_1294 : decode cX13_init 1294 = .ok (.bipush 101, 2) := by decide +kernel
theorem dX13_init_1296 : decode cX13_init 1296 = .ok (.castore, 1) := by decide +kernel
theorem dX13_init_1297 : decode cX13_init 1297 = .ok (.dup, 1) := by decide +kernel
theorem dX13_init_1298 : decode cX13_init 1298 = .ok (.bipush 32, 2) := by decide +kernel
theorem dX13_init_1300 : decode cX13_init 1300 = .ok (.bipush 109, 2) := by decide +kernel
theorem dX13_init_1302 : decode cX13_init 1302 = .ok (.castore, 1) := by decide +kernel
theorem dX13_init_1303 : decode cX13_init 1303 = .ok (.dup, 1) := by decide +kernel
theorem dX13_init_1304 : decode cX13_init 1304 = .ok (.bipush 33, 2) := by decide +kernel
theorem dX13_init_1306 : decode cX13_init 1306 = .ok (.bipush 111, 2) := by decide +kernel
theorem dX13_init_1308 : decode cX13_init 1308 = .ok (.castore, 1) := by decide +kernel
theorem dX13_init_1309 : decode cX13_init 1309 = .ok (.dup, 1) := by decide +kernel
theorem dX13_init_1310 : decode cX13_init 1310 = .ok (.bipush 34, 2) := by decide +kernel
theorem dX13_init_1312 : decode cX13_init 1312 = .ok (.bipush 118, 2) := by decide +kernel
theorem dX13_init_1314 : decode cX13_init 1314 = .ok (.castore, 1) := by decide +kernel
theorem dX13_init_1315 : decode cX13_init 1315 = .ok (.dup, 1) := by decide +kernel
theorem dX13_init_1316 : decode cX13_init 1316 = .ok (.bipush 35, 2) := by decide +kernel
theorem dX13_init_1318 : decode cX13_init 1318 = .ok (.bipush 101, 2) := by decide +kernel
theorem dX13_init_1320 : decode cX13_init 1320 = .ok (.castore, 1) := by decide +kernel
theorem dX13_init_1321 : decode cX13_init 1321 = .ok (.dup, 1) := by decide +kernel
theorem dX13_init_1322 : decode cX13_init 1322 = .ok (.bipush 36, 2) := by decide +kernel
theorem dX13_init_1324 : decode cX13_init 1324 = .ok (.bipush 100, 2) := by decide +kernel
theorem dX13_init_1326 : decode cX13_init 1326 = .ok (.castore, 1) := by decide +kernel
theorem dX13_init_1327 : decode cX13_init 1327 = .ok (.dup, 1) := by decide +kernel
theorem dX13_init_1328 : decode cX13_init 1328 = .ok (.bipush 37, 2) := by decide +kernel
theorem dX13_init_1330 : decode cX13_init 1330 = .ok (.bipush 32, 2) := by decide +kernel
theorem dX13_init_1332 : decode cX13_init 1332 = .ok (.castore, 1) := by decide +kernel
theorem dX13_init_1333 : decode cX13_init 1333 = .ok (.dup, 1) := by decide +kernel
theorem dX13_init_1334 : decode cX13_init 1334 = .ok (.bipush 38, 2) := by decide +kernel
theorem dX13_init_1336 : decode cX13_init 1336 = .ok (.bipush 59, 2) := by decide +kernel
theorem dX13_init_1338 : decode cX13_init 1338 = .ok (.castore, 1) := by decide +kernel
theorem dX13_init_1339 : decode cX13_init 1339 = .ok (.dup, 1) := by decide +kernel
theorem dX13_init_1340 : decode cX13_init 1340 = .ok (.bipush 39, 2) := by decide +kernel
theorem dX13_init_1342 : decode cX13_init 1342 = .ok (.bipush 97, 2) := by decide +kernel
theorem dX13_init_1344 : decode cX13_init 1344 = .ok (.castore, 1) := by decide +kernel
theorem dX13_init_1345 : decode cX13_init 1345 = .ok (.dup, 1) := by decide +kernel
theorem dX13_init_1346 : decode cX13_init 1346 = .ok (.bipush 40, 2) := by decide +kernel
theorem dX13_init_1348 : decode cX13_init 1348 = .ok (.bipush 100, 2) := by decide +kernel
theorem dX13_init_1350 : decode cX13_init 1350 = .ok (.castore, 1) := by decide +kernel
theorem dX13_init_1351 : decode cX13_init 1351 = .ok (.dup, 1) := by decide +kernel
theorem dX13_init_1352 : decode cX13_init 1352 = .ok (.bipush 41, 2) := by decide +kernel
theorem dX13_init_1354 : decode cX13_init 1354 = .ok (.bipush 100, 2) := by decide +kernel
theorem dX13_init_1356 : decode cX13_init 1356 = .ok (.castore, 1) := by decide +kernel
theorem dX13_init_1357 : decode cX13_init 1357 = .ok (.dup, 1) := by decide +kernel
theorem dX13_init_1358 : decode cX13_init 1358 = .ok (.bipush 42, 2) := by decide +kernel
theorem dX13_init_1360 : decode cX13_init 1360 = .ok (.bipush 101, 2) := by decide +kernel
theorem dX13_init_1362 : decode cX13_init 1362 = .ok (.castore, 1) := by decide +kernel
theorem dX13_init_1363 : decode cX13_init 1363 = .ok (.dup, 1) := by decide +kernel
theorem dX13_init_1364 : decode cX13_init 1364 = .ok (.bipush 43, 2) := by decide +kernel
theorem dX13_init_1366 : decode cX13_init 1366 = .ok (.bipush 100, 2) := by decide +kernel
theorem dX13_init_1368 : decode cX13_init 1368 = .ok (.castore, 1) := by decide +kernel
theorem dX13_init_1369 : decode cX13_init 1369 = .ok (.dup, 1) := by decide +kernel
theorem dX13_init_1370 : decode cX13_init 1370 = .ok (.bipush 44, 2) := by decide +kernel
theorem dX13_init_1372 : decode cX13_init 1372 = .ok (.bipush 32, 2) := by decide +kernel
theorem dX13_init_1374 : decode cX13_init 1374 = .ok (.castore, 1) := by decide +kernel
theorem dX13_init_1375 : decode cX13_init 1375 = .ok (.dup, 1) := by decide +kernel
theorem dX13_init_1376 : decode cX13_init 1376 = .ok (.bipush 45, 2) := by decide +kernel
theorem dX13_init_1378 : decode cX13_init 1378 = .ok (.bipush 59, 2) := by decide +kernel
theorem dX13_init_1380 : decode cX13_init 1380 = .ok (.castore, 1) := by decide +kernel
theorem dX13_init_1381 : decode cX13_init 1381 = .ok (.dup, 1) := by decide +kernel
theorem dX13_init_1382 : decode cX13_init 1382 = .ok (.bipush 46, 2) := by decide +kernel
theorem dX13_init_1384 : decode cX13_init 1384 = .ok (.bipush 109, 2) := by decide +kernel
theorem dX13_init_1386 : decode cX13_init 1386 = .ok (.castore, 1) := by decide +kernel
theorem dX13_init_1387 : decode cX13_init 1387 = .ok (.dup, 1) := by decide +kernel
theorem dX13_init_1388 : decode cX13_init 1388 = .ok (.bipush 47, 2) := by decide +kernel
theorem dX13_init_1390 : decode cX13_init 1390 = .ok (.bipush 111, 2) := by decide +kernel
theorem dX13_init_1392 : decode cX13_init 1392 = .ok (.castore, 1) := by decide +kernel
theorem dX13_init_1393 : decode cX13_init 1393 = .ok (.dup, 1) := by decide +kernel
theorem dX13_init_1394 : decode cX13_init 1394 = .ok (.bipush 48, 2) := by decide +kernel
theorem dX13_init_1396 : decode cX13_init 1396 = .ok (.bipush 118, 2) := by decide +kernel
theorem dX13_init_1398 : decode cX13_init 1398 = .ok (.castore, 1) := by decide +kernel
theorem dX13_init_1399 : decode cX13_init 1399 = .ok (.dup, 1) := by decide +kernel
theorem dX13_init_1400 : decode cX13_init 1400 = .ok (.bipush 49, 2) := by decide +kernel
theorem dX13_init_1402 : decode cX13_init 1402 = .ok (.bipush 101, 2) := by decide +kernel
theorem dX13_init_1404 : decode cX13_init 1404 = .ok (.castore, 1) := by decide +kernel
theorem dX13_init_1405 : decode cX13_init 1405 = .ok (.dup, 1) := by decide +kernel
theorem dX13_init_1406 : decode cX13_init 1406 = .ok (.bipush 50, 2) := by decide +kernel
theorem dX13_init_1408 : decode cX13_init 1408 = .ok (.bipush 100, 2) := by decide +kernel
theorem dX13_init_1410 : decode cX13_init 1410 = .ok (.castore, 1) := by decide +kernel
theorem dX13_init_1411 : decode cX13_init 1411 = .ok (.dup, 1) := by decide +kernel
theorem dX13_init_1412 : decode cX13_init 1412 = .ok (.bipush 51, 2) := by decide +kernel
theorem dX13_init_1414 : decode cX13_init 1414 = .ok (.bipush 32, 2) := by decide +kernel
theorem dX13_init_1416 : decode cX13_init 1416 = .ok (.castore, 1) := by decide +kernel
theorem dX13_init_1417 : decode cX13_init 1417 = .ok (.dup, 1) := by decide +kernel
theorem dX13_init_1418 : decode cX13_init 1418 = .ok (.bipush 52, 2) := by decide +kernel
theorem dX13_init_1420 : decode cX13_init 1420 = .ok (.bipush 59, 2) := by decide +kernel
theorem dX13_init_1422 : decode cX13_init 1422 = .ok (.castore, 1) := by decide +kernel
theorem dX13_init_1423 : decode cX13_init 1423 = .ok (.dup, 1) := by decide +kernel
theorem dX13_init_1424 : decode cX13_init 1424 = .ok (.bipush 53, 2) := by decide +kernel
theorem dX13_init_1426 : decode cX13_init 1426 = .ok (.bipush 32, 2) := by decide +kernel
theorem dX13_init_1428 : decode cX13_init 1428 = .ok (.castore, 1) := by decide +kernel
theorem dX13_init_1429 : decode cX13_init 1429 = .ok (.dup, 1) := by decide +kernel
theorem dX13_init_1430 : decode cX13_init 1430 = .ok (.bipush 54, 2) := by decide +kernel
theorem dX13_init_1432 : decode cX13_init 1432 = .ok (.bipush 97, 2) := by decide +kernel
theorem dX13_init_1434 : decode cX13_init 1434 = .ok (.castore, 1) := by decide +kernel
theorem dX13_init_1435 : decode cX13_init 1435 = .ok (.dup, 1) := by decide +kernel
theorem dX13_init_1436 : decode cX13_init 1436 = .ok (.bipush 55, 2) := by decide +kernel
theorem dX13_init_1438 : decode cX13_init 1438 = .ok (.bipush 116, 2) := by decide +kernel
theorem dX13_init_1440 : decode cX13_init 1440 = .ok (.castore, 1) := by decide +kernel
theorem dX13_init_1441 : decode cX13_init 1441 = .ok (.dup, 1) := by decide +kernel
theorem dX13_init_1442 : decode cX13_init 1442 = .ok (.bipush 56, 2) := by decide +kernel
theorem dX13_init_1444 : decode cX13_init 1444 = .ok (.bipush 32, 2) := by decide +kernel
theorem dX13_init_1446 : decode cX13_init 1446 = .ok (.castore, 1) := by decide +kernel
theorem dX13_init_1447 : decode cX13_init 1447 = .ok (.dup, 1) := by decide +kernel
theorem dX13_init_1448 : decode cX13_init 1448 = .ok (.bipush 57, 2) := by decide +kernel
theorem dX13_init_1450 : decode cX13_init 1450 = .ok (.bipush 59, 2) := by decide +kernel
theorem dX13_init_1452 : decode cX13_init 1452 = .ok (.castore, 1) := by decide +kernel
theorem dX13_init_1453 : decode cX13_init 1453 = .ok (.dup, 1) := by decide +kernel
theorem dX13_init_1454 : decode cX13_init 1454 = .ok (.bipush 58, 2) := by decide +kernel
theorem dX13_init_1456 : decode cX13_init 1456 = .ok (.bipush 32, 2) := by decide +kernel
theorem dX13_init_1458 : decode cX13_init 1458 = .ok (.castore, 1) := by decide +kernel
theorem dX13_init_1459 : decode cX13_init 1459 = .ok (.dup, 1) := by decide +kernel
theorem dX13_init_1460 : decode cX13_init 1460 = .ok (.bipush 59, 2) := by decide +kernel
theorem dX13_init_1462 : decode cX13_init 1462 = .ok (.bipush 115, 2) := by decide +kernel
theorem dX13_init_1464 : decode cX13_init 1464 = .ok (.castore, 1) := by decide +kernel
theorem dX13_init_1465 : decode cX13_init 1465 = .ok (.dup, 1) := by decide +kernel
theorem dX13_init_1466 : decode cX13_init 1466 = .ok (.bipush 60, 2) := by decide +kernel
theorem dX13_init_1468 : decode cX13_init 1468 = .ok (.bipush 105, 2) := by decide +kernel
theorem dX13_init_1470 : decode cX13_init 1470 = .ok (.castore, 1) := by decide +kernel
theorem dX13_init_1471 : decode cX13_init 1471 = .ok (.dup, 1) := by decide +kernel
theorem dX13_init_1472 : decode cX13_init 1472 = .ok (.bipush 61, 2) := by decide +kernel
theorem dX13_init_1474 : decode cX13_init 1474 = .ok (.bipush 122, 2) := by decide +kernel
theorem dX13_init_1476 : decode cX13_init 1476 = .ok (.castore, 1) := by decide +kernel
theorem dX13_init_1477 : decode cX13_init 1477 = .ok (.dup, 1) := by decide +kernel
theorem dX13_init_1478 : decode cX13_init 1478 = .ok (.bipush 62, 2) := by decide +kernel
theorem dX13_init_1480 : decode cX13_init 1480 = .ok (.bipush 101, 2) := by decide +kernel
theorem dX13_init_1482 : decode cX13_init 1482 = .ok (.castore, 1) := by decide +kernel
theorem dX13_init_1483 : decode cX13_init 1483 = .ok (.dup, 1) := by decide +kernel
theorem dX13_init_1484 : decode cX13_init 1484 = .ok (.bipush 63, 2) := by decide +kernel
theorem dX13_init_1486 : decode cX13_init 1486 = .ok (.bipush 32, 2) := by decide +kernel
theorem dX13_init_1488 : decode cX13_init 1488 = .ok (.castore, 1) := by decide +kernel
theorem dX13_init_1489 : decode cX13_init 1489 = .ok (.dup, 1) := by decide +kernel
theorem dX13_init_1490 : decode cX13_init 1490 = .ok (.bipush 64, 2) := by decide +kernel
theorem dX13_init_1492 : decode cX13_init 1492 = .ok (.bipush 59, 2) := by decide +kernel
theorem dX13_init_1494 : decode cX13_init 1494 = .ok (.castore, 1) := by decide +kernel
theorem dX13_init_1495 : decode cX13_init 1495 = .ok (.dup, 1) := by decide +kernel
theorem dX13_init_1496 : decode cX13_init 1496 = .ok (.bipush 65, 2) := by decide +kernel
theorem dX13_init_1498 : decode cX13_init 1498 = .ok (.bipush 32, 2) := by decide +kernel
theorem dX13_init_1500 : decode cX13_init 1500 = .ok (.castore, 1) := by decide +kernel
theorem dX13_init_1501 : decode cX13_init 1501 = .ok (.dup, 1) := by decide +kernel
theorem dX13_init_1502 : decode cX13_init 1502 = .ok (.bipush 66, 2) := by decide +kernel
theorem dX13_init_1504 : decode cX13_init 1504 = .ok (.bipush 102, 2) := by decide +kernel
theorem dX13_init_1506 : decode cX13_init 1506 = .ok (.castore, 1) := by decide +kernel
theorem dX13_init_1507 : decode cX13_init 1507 = .ok (.dup, 1) := by decide +kernel
theorem dX13_init_1508 : decode cX13_init 1508 = .ok (.bipush 67, 2) := by decide +kernel
theorem dX13_init_1510 : decode cX13_init 1510 = .ok (.bipush 114, 2) := by decide +kernel
theorem dX13_init_1512 : decode cX13_init 1512 = .ok (.castore, 1) := by decide +kernel
theorem dX13_init_1513 : decode cX13_init 1513 = .ok (.dup, 1) := by decide +kernel
theorem dX13_init_1514 : decode cX13_init 1514 = .ok (.bipush 68, 2) := by decide +kernel
theorem dX13_init_1516 : decode cX13_init 1516 = .ok (.bipush 111, 2) := by decide +kernel
theorem dX13_init_1518 : decode cX13_init 1518 = .ok (.castore, 1) := by decide +kernel
theorem dX13_init_1519 : decode cX13_init 1519 = .ok (.dup, 1) := by decide +kernel
theorem dX13_init_1520 : decode cX13_init 1520 = .ok (.bipush 69, 2) := by decide +kernel
theorem dX13_init_1522 : decode cX13_init 1522 = .ok (.bipush 109, 2) := by decide +kernel
theorem dX13_init_1524 : decode cX13_init 1524 = .ok (.castore, 1) := by decide +kernel
theorem dX13_init_1525 : decode cX13_init 1525 = .ok (.dup, 1) := by decide +kernel
theorem dX13_init_1526 : decode cX13_init 1526 = .ok (.bipush 70, 2) := by decide +kernel
theorem dX13_init_1528 : decode cX13_init 1528 = .ok (.bipush 32, 2) := by decide +kernel
theorem dX13_init_1530 : decode cX13_init 1530 = .ok (.castore, 1) := by decide +kernel
theorem dX13_init_1531 : decode cX13_init 1531 = .ok (.dup, 1) := by decide +kernel
theorem dX13_init_1532 : decode cX13_init 1532 = .ok (.bipush 71, 2) := by decide +kernel
theorem dX13_init_1534 : decode cX13_init 1534 = .ok (.bipush 59, 2) := by decide +kernel
theorem dX13_init_1536 : decode cX13_init 1536 = .ok (.castore, 1) := by decide +kernel
theorem dX13_init_1537 : decode cX13_init 1537 = .ok (.dup, 1) := by decide +kernel
theorem dX13_init_1538 : decode cX13_init 1538 = .ok (.bipush 72, 2) := by decide +kernel
theorem dX13_init_1540 : decode cX13_init 1540 = .ok (.bipush 32, 2) := by decide +kernel
theorem dX13_init_1542 : decode cX13_init 1542 = .ok (.castore, 1) := by decide +kernel
theorem dX13_init_1543 : decode cX13_init 1543 = .ok (.dup, 1) := by decide +kernel
theorem dX13_init_1544 : decode cX13_init 1544 = .ok (.bipush 73, 2) := by decide +kernel
theorem dX13_init_1546 : decode cX13_init 1546 = .ok (.bipush 116, 2) := by decide +kernel
theorem dX13_init_1548 : decode cX13_init 1548 = .ok (.castore, 1) := by decide +kernel
theorem dX13_init_1549 : decode cX13_init 1549 = .ok (.dup, 1) := by decide +kernel
theorem dX13_init_1550 : decode cX13_init 1550 = .ok (.bipush 74, 2) := by decide +kernel
theorem dX13_init_1552 : decode cX13_init 1552 = .ok (.bipush 111, 2) := by decide +kernel
theorem dX13_init_1554 : decode cX13_init 1554 = .ok (.castore, 1) := by decide +kernel
theorem dX13_init_1555 : decode cX13_init 1555 = .ok (.dup, 1) := by decide +kernel
theorem dX13_init_1556 : decode cX13_init 1556 = .ok (.bipush 75, 2) := by decide +kernel
theorem dX13_init_1558 : decode cX13_init 1558 = .ok (.bipush 32, 2) := by decide +kernel
theorem dX13_init_1560 : decode cX13_init 1560 = .ok (.castore, 1) := by decide +kernel
theorem dX13_init_1561 : decode cX13_init 1561 = .ok (.dup, 1) := by decide +kernel
theorem dX13_init_1562 : decode cX13_init 1562 = .ok (.bipush 76, 2) := by decide +kernel
theorem dX13_init_1564 : decode cX13_init 1564 = .ok (.bipush 59, 2) := by decide +kernel
theorem dX13_init_1566 : decode cX13_init 1566 = .ok (.castore, 1) := by decide +kernel
theorem dX13_init_1567 : decode cX13_init 1567 = .ok (.dup, 1) := by decide +kernel
theorem dX13_init_1568 : decode cX13_init 1568 = .ok (.bipush 77, 2) := by decide +kernel
theorem dX13_init_1570 : decode cX13_init 1570 = .ok (.bipush 32, 2) := by decide +kernel
theorem dX13_init_1572 : decode cX13_init 1572 = .ok (.castore, 1) := by decide +kernel
theorem dX13_init_1573 : decode cX13_init 1573 = .ok (.dup, 1) := by decide +kernel
theorem dX13_init_1574 : decode cX13_init 1574 = .ok (.bipush 78, 2) := by decide +kernel
theorem dX13_init_1576 : decode cX13_init 1576 = .ok (.bipush 115, 2) := by decide +kernel
theorem dX13_init_1578 : decode cX13_init 1578 = .ok (.castore, 1) := by decide +kernel
theorem dX13_init_1579 : decode cX13_init 1579 = .ok (.dup, 1) := by decide +kernel
theorem dX13_init_1580 : decode cX13_init 1580 = .ok (.bipush 79, 2) := by decide +kernel
theorem dX13_init_1582 : decode cX13_init 1582 = .ok (.bipush 116, 2) := by decide +kernel
theorem dX13_init_1584 : decode cX13_init 1584 = .ok (.castore, 1) := by decide +kernel
theorem dX13_init_1585 : decode cX13_init 1585 = .ok (.dup, 1) := by decide +kernel
theorem dX13_init_1586 : decode cX13_init 1586 = .ok (.bipush 80, 2) := by decide +kernel
theorem dX13_init_1588 : decode cX13_init 1588 = .ok (.bipush 97, 2) := by decide +kernel
theorem dX13_init_1590 : decode cX13_init 1590 = .ok (.castore, 1) := by decide +kernel
theorem dX13_init_1591 : decode cX13_init 1591 = .ok (.dup, 1) := by decide +kernel
theorem dX13_init_1592 : decode cX13_init 1592 = .ok (.bipush 81, 2) := by decide +kernel
theorem dX13_init_1594 : decode cX13_init 1594 = .ok (.bipush 109, 2) := by decide +kernel
theorem dX13_init_1596 : decode cX13_init 1596 = .ok (.castore, 1) := by decide +kernel
theorem dX13_init_1597 : decode cX13_init 1597 = .ok (.dup, 1) := by decide +kernel
theorem dX13_init_1598 : decode cX13_init 1598 = .ok (.bipush 82, 2) := by decide +kernel
theorem dX13_init_1600 : decode cX13_init 1600 = .ok (.bipush 112, 2) := by decide +kernel
theorem dX13_init_1602 : decode cX13_init 1602 = .ok (.castore, 1) := by decide +kernel
theorem dX13_init_1603 : decode cX13_init 1603 = .ok (.dup, 1) := by decide +kernel
theorem dX13_init_1604 : decode cX13_init 1604 = .ok (.bipush 83, 2) := by decide +kernel
theorem dX13_init_1606 : decode cX13_init 1606 = .ok (.bipush 32, 2) := by decide +kernel
theorem dX13_init_1608 : decode cX13_init 1608 = .ok (.castore, 1) := by decide +kernel
theorem dX13_init_1609 : decode cX13_init 1609 = .ok (.dup, 1) := by decide +kernel
theorem dX13_init_1610 : decode cX13_init 1610 = .ok (.bipush 84, 2) := by decide +kernel
theorem dX13_init_1612 : decode cX13_init 1612 = .ok (.bipush 59, 2) := by decide +kernel
theorem dX13_init_1614 : decode cX13_init 1614 = .ok (.castore, 1) := by decide +kernel
theorem dX13_init_1615 : decode cX13_init 1615 = .ok (.putfield 176, 3) := by decide +kernel
theorem dX13_init_1618 : decode cX13_init 1618 = .ok (.aload_n 0, 1) := by decide +kernel
theorem dX13_init_1619 : decode cX13_init 1619 = .ok (.iload_n 1, 1) := by decide +kernel
theorem dX13_init_1620 : decode cX13_init 1620 = .ok (.bipush 8, 2) := by decide +kernel
theorem dX13_init_1622 : decode cX13_init 1622 = .ok (.if_icmp .ge 8, 3) := by decide +kernel
theorem dX13_init_1625 : decode cX13_init 1625 = .ok (.bipush 8, 2) := by decide +kernel
theorem dX13_init_1627 : decode cX13_init 1627 = .ok (.goto 15, 3) := by decide +kernel
theorem dX13_init_1630 : decode cX13_init 1630 = .ok (.iload_n 1, 1) := by decide +kernel
theorem dX13_init_1631 : decode cX13_init 1631 = .ok (.bipush 64, 2) := by decide +kernel
theorem dX13_init_1633 : decode cX13_init 1633 = .ok (.if_icmp .le 8, 3) := by decide +kernel
theorem dX13_init_1636 : decode cX13_init 1636 = .ok (.bipush 64, 2) := by decide +kernel
theorem dX13_init_1638 : decode cX13_init 1638 = .ok (.goto 4, 3) := by decide +kernel
theorem dX13_init_1641 : decode cX13_init 1641 = .ok (.iload_n 1, 1) := by decide +kernel
theorem dX13_init_1642 : decode cX13_init 1642 = .ok (.putfield 179, 3) := by decide +kernel
theorem dX13_init_1645 : decode cX13_init 1645 = .ok (.aload_n 0, 1) := by decide +kernel
theorem dX13_init_1646 : decode cX13_init 1646 = .ok (.iload_n 2, 1) := by decide +kernel
theorem dX13_init_1647 : decode cX13_init 1647 = .ok (.bipush 8, 2) := by decide +kernel
theorem dX13_init_1649 : decode cX13_init 1649 = .ok (.if_icmp .ge 8, 3) := by decide +kernel
theorem dX13_init_1652 : decode cX13_init 1652 = .ok (.bipush 8, 2) := by decide +kernel
theorem dX13_init_1654 : decode cX13_init 1654 = .ok (.goto 15, 3) := by decide +kernel
theorem dX13_init_1657 : decode cX13_init 1657 = .ok (.iload_n 2, 1) := by decide +kernel
theorem dX13_init_1658 : decode cX13_init 1658 = .ok (.bipush 64, 2) := by decide +kernel
theorem dX13_init_1660 : decode cX13_init 1660 = .ok (.if_icmp .le 8, 3) := by decide +kernel
theorem dX13_init_1663 : decode cX13_init 1663 = .ok (.bipush 64, 2) := by decide +kernel
theorem dX13_init_1665 : decode cX13_init 1665 = .ok (.goto 4, 3) := by decide +kernel
theorem dX13_init_1668 : decode cX13_init 1668 = .ok (.iload_n 2, 1) := by decide +kernel
theorem dX13_init_1669 : decode cX13_init 1669 = .ok (.putfield 183, 3) := by decide +kernel
theorem dX13_init_1672 : decode cX13_init 1672 = .ok (.aload_n 0, 1) := by decide +kernel
theorem dX13_init_1673 : decode cX13_init 1673 = .ok (.getfield 33, 3) := by decide +kernel
theorem dX13_init_1676 : decode cX13_init 1676 = .ok (.iconst 0, 1) := by decide +kernel
theorem dX13_init_1677 : decode cX13_init 1677 = .ok (.bipush 8, 2) := by decide +kernel
theorem dX13_init_1679 : decode cX13_init 1679 = .ok (.iastore, 1) := by decide +kernel
theorem dX13_init_1680 : decode cX13_init 1680 = .ok (.aload_n 0, 1) := by decide +kernel
theorem dX13_init_1681 : decode cX13_init 1681 = .ok (.getfield 33, 3) := by decide +kernel
theorem dX13_init_1684 : decode cX13_init 1684 = .ok (.iconst 1, 1) := by decide +kernel
theorem dX13_init_1685 : decode cX13_init 1685 = .ok (.iconst 2, 1) := by decide +kernel
theorem dX13_init_1686 : decode cX13_init 1686 = .ok (.iastore, 1) := by decide +kernel
theorem dX13_init_1687 : decode cX13_init 1687 = .ok (.aload_n 0, 1) := by decide +kernel
theorem dX13_init_1688 : decode cX13_init 1688 = .ok (.getfield 33, 3) := by decide +kernel
theorem dX13_init_1691 : decode cX13_init 1691 = .ok (.iconst 2, 1) := by decide +kernel
theorem dX13_init_1692 : decode cX13_init 1692 = .ok (.iconst 1, 1) := by decide +kernel
theorem dX13_init_1693 : decode cX13_init 1693 = .ok (.iastore, 1) := by decide +kernel
theorem dX13_init_1694 : decode cX13_init 1694 = .ok (.aload_n 0, 1) := by decide +kernel
theorem dX13_init_1695 : decode cX13_init 1695 = .ok (.getfield 33, 3) := by decide +kernel
theorem dX13_init_1698 : decode cX13_init 1698 = .ok (.iconst 4, 1) := by decide +kernel
theorem dX13_init_1699 : decode cX13_init 1699 = .ok (.bipush 8, 2) := by decide +kernel
theorem dX13_init_1701 : decode cX13_init 1701 = .ok (.iastore, 1) := by decide +kernel
theorem dX13_init_1702 : decode cX13_init 1702 = .ok (.aload_n 0, 1) := by decide +kernel
theorem dX13_init_1703 : decode cX13_init 1703 = .ok (.getfield 33, 3) := by decide +kernel
theorem dX13_init_1706 : decode cX13_init 1706 = .ok (.bipush 8, 2) := by decide +kernel
theorem dX13_init_1708 : decode cX13_init 1708 = .ok (.iconst 4, 1) := by decide +kernel
theorem dX13_init_1709 : decode cX13_init 1709 = .ok (.iastore, 1) := by decide +kernel
theorem dX13_init_1710 : decode cX13_init 1710 = .ok (.return_, 1) := by decide +kernel
theorem dX13_thrown_0 : decode cX13_thrown 0 = .ok (.aload_n 0, 1) := by decide +kernel
theorem dX13_thrown_1 : decode cX13_thrown 1 = .ok (.getfield 186, 3) := by decide +kernel
theorem dX13_thrown_4 : decode cX13_thrown 4 = .ok (.ireturn, 1) := by decide +kernel
theorem dX13_row_0 : decode cX13_row 0 = .ok (.aload_n 0, 1) := by decide +kernel
theorem dX13_row_1 : decode cX13_row 1 = .ok (.iconst 0, 1) := by decide +kernel
theorem dX13_row_2 : decode cX13_row 2 = .ok (.putfield 186, 3) := by decide +kernel
theorem dX13_row_5 : decode cX13_row 5 = .ok (.aload_n 0, 1) := by decide +kernel
theorem dX13_row_6 : decode cX13_row 6 = .ok (.iload_n 1, 1) := by decide +kernel
theorem dX13_row_7 : decode cX13_row 7 = .ok (.invokevirtual 202, 3) := by decide +kernel
theorem dX13_row_10 : decode cX13_row 10 = .ok (.ifCond .eq 19, 3) := by decide +kernel
theorem dX13_row_13 : decode cX13_row 13 = .ok (.iload_n 2, 1) := by decide +kernel
theorem dX13_row_14 : decode cX13_row 14 = .ok (.i2l, 1) := by decide +kernel
theorem dX13_row_15 : decode cX13_row 15 = .ok (.lconst 0, 1) := by decide +kernel
theorem dX13_row_16 : decode cX13_row 16 = .ok (.aload_n 0, 1) := by decide +kernel
theorem dX13_row_17 : decode cX13_row 17 = .ok (.getfield 183, 3) := by decide +kernel
theorem dX13_row_20 : decode cX13_row 20 = .ok (.iconst 1, 1) := by decide +kernel
theorem dX13_row_21 : decode cX13_row 21 = .ok (.isub, 1) := by decide +kernel
theorem dX13_row_22 : decode cX13_row 22 = .ok (.i2l, 1) := by decide +kernel
theorem dX13_row_23 : decode cX13_row 23 = .ok (.invokestatic 191, 3) := by decide +kernel
theorem dX13_row_26 : decode cX13_row 26 = .ok (.ifCond .ne 10, 3) := by decide +kernel
theorem dX13_row_29 : decode cX13_row 29 = .ok (.aload_n 0, 1) := by decide +kernel
theorem dX13_row_30 : decode cX13_row 30 = .ok (.iconst 1, 1) := by decide +kernel
theorem dX13_row_31 : decode cX13_row 31 = .ok (.invokevirtual 206, 3) := by decide +kernel
theorem dX13_row_34 : decode cX13_row 34 = .ok (.i2l, 1) := by decide +kernel
theorem dX13_row_35 : decode cX13_row 35 = .ok (.lreturn, 1) := by decide +kernel
theorem dX13_row_36 : decode cX13_row 36 = .ok (.aload_n 0, 1) := by decide +kernel
theorem dX13_row_37 : decode cX13_row 37 = .ok (.iload_n 1, 1) := by decide +kernel
theorem dX13_row_38 : decode cX13_row 38 = .ok (.iload_n 2, 1) := by decide +kernel
theorem dX13_row_39 : decode cX13_row 39 = .ok (.invokevirtual 210, 3) := by decide +kernel
theorem dX13_row_42 : decode cX13_row 42 = .ok (.lreturn, 1) := by decide +kernel
theorem dX13_isPage_0 : decode cX13_isPage 0 = .ok (.iload_n 1, 1) := by decide +kernel
theorem dX13_isPage_1 : decode cX13_isPage 1 = .ok (.i2l, 1) := by decide +kernel
theorem dX13_isPage_2 : decode cX13_isPage 2 = .ok (.lconst 0, 1) := by decide +kernel
theorem dX13_isPage_3 : decode cX13_isPage 3 = .ok (.ldc2_w 189, 3) := by decide +kernel
theorem dX13_isPage_6 : decode cX13_isPage 6 = .ok (.invokestatic 191, 3) := by decide +kernel
theorem dX13_isPage_9 : decode cX13_isPage 9 = .ok (.ireturn, 1) := by decide +kernel
theorem dX13_in_0 : decode cX13_in 0 = .ok (.lload_n 0, 1) := by decide +kernel
theorem dX13_in_1 : decode cX13_in 1 = .ok (.lload_n 2, 1) := by decide +kernel
theorem dX13_in_2 : decode cX13_in 2 = .ok (.lcmp, 1) := by decide +kernel
theorem dX13_in_3 : decode cX13_in 3 = .ok (.ifCond .lt 14, 3) := by decide +kernel
theorem dX13_in_6 : decode cX13_in 6 = .ok (.lload_n 0, 1) := by decide +kernel
theorem dX13_in_7 : decode cX13_in 7 = .ok (.lload 4, 2) := by decide +kernel
theorem dX13_in_9 : decode cX13_in 9 = .ok (.lcmp, 1) := by decide +kernel
theorem dX13_in_10 : decode cX13_in 10 = .ok (.ifCond .gt 7, 3) := by decide +kernel
theorem dX13_in_13 : decode cX13_in 13 = .ok (.iconst 1, 1) := by decide +kernel
theorem dX13_in_14 : decode cX13_in 14 = .ok (.goto 4, 3) := by decide +kernel
theorem dX13_in_17 : decode cX13_in 17 = .ok (.iconst 0, 1) := by decide +kernel
theorem dX13_in_18 : decode cX13_in 18 = .ok (.ireturn, 1) := by decide +kernel
theorem dX13_fails_0 : decode cX13_fails 0 = .ok (.aload_n 0, 1) := by decide +kernel
theorem dX13_fails_1 : decode cX13_fails 1 = .ok (.iload_n 1, 1) := by decide +kernel
theorem dX13_fails_2 : decode cX13_fails 2 = .ok (.putfield 186, 3) := by decide +kernel
theorem dX13_fails_5 : decode cX13_fails 5 = .ok (.iconst 0, 1) := by decide +kernel
theorem dX13_fails_6 : decode cX13_fails 6 = .ok (.ireturn, 1) := by decide +kernel
theorem dX13_rowOf_0 : decode cX13_rowOf 0 = .ok (.lconst 0, 1) := by decide +kernel
theorem dX13_rowOf_1 : decode cX13_rowOf 1 = .ok (.lstore_n 3, 1) := by decide +kernel
theorem dX13_rowOf_2 : decode cX13_rowOf 2 = .ok (.iconst 0, 1) := by decide +kernel
theorem dX13_rowOf_3 : decode cX13_rowOf 3 = .ok (.istore 5, 2) := by decide +kernel
theorem dX13_rowOf_5 : decode cX13_rowOf 5 = .ok (.iload 5, 2) := by decide +kernel
theorem dX13_rowOf_7 : decode cX13_rowOf 7 = .ok (.aload_n 0, 1) := by decide +kernel
theorem dX13_rowOf_8 : decode cX13_rowOf 8 = .ok (.getfield 179, 3) := by decide +kernel
theorem dX13_rowOf_11 : decode cX13_rowOf 11 = .ok (.if_icmp .ge 41, 3) := by decide +kernel
theorem dX13_rowOf_14 : decode cX13_rowOf 14 = .ok (.lload_n 3, 1) := by decide +kernel
theorem dX13_rowOf_15 : decode cX13_rowOf 15 = .ok (.aload_n 0, 1) := by decide +kernel
theorem dX13_rowOf_16 : decode cX13_rowOf 16 = .ok (.getfield 7, 3) := by decide +kernel
theorem dX13_rowOf_19 : decode cX13_rowOf 19 = .ok (.sipush 4096, 3) := by decide +kernel
theorem dX13_rowOf_22 : decode cX13_rowOf 22 = .ok (.iload_n 1, 1) := by decide +kernel
theorem dX13_rowOf_23 : decode cX13_rowOf 23 = .ok (.imul, 1) := by decide +kernel
theorem dX13_rowOf_24 : decode cX13_rowOf 24 = .ok (.bipush 64, 2) := by decide +kernel
theorem dX13_rowOf_26 : decode cX13_rowOf 26 = .ok (.iload_n 2, 1) := by decide +kernel
theorem dX13_rowOf_27 : decode cX13_rowOf 27 = .ok (.imul, 1) := by decide +kernel
theorem dX13_rowOf_28 : decode cX13_rowOf 28 = .ok (.iadd, 1) := by decide +kernel
theorem dX13_rowOf_29 : decode cX13_rowOf 29 = .ok (.iload 5, 2) := by decide +kernel
theorem dX13_rowOf_31 : decode cX13_rowOf 31 = .ok (.iadd, 1) := by decide +kernel
theorem dX13_rowOf_32 : decode cX13_rowOf 32 = .ok (.baload, 1) := by decide +kernel
theorem dX13_rowOf_33 : decode cX13_rowOf 33 = .ok (.ifCond .eq 10, 3) := by decide +kernel
theorem dX13_rowOf_36 : decode cX13_rowOf 36 = .ok (.lconst 1, 1) := by decide +kernel
theorem dX13_rowOf_37 : decode cX13_rowOf 37 = .ok (.iload 5, 2) := by decide +kernel
theorem dX13_rowOf_39 : decode cX13_rowOf 39 = .ok (.lshl, 1) := by decide +kernel
theorem dX13_rowOf_40 : decode cX13_rowOf 40 = .ok (.goto 4, 3) := by decide +kernel
theorem dX13_rowOf_43 : decode cX13_rowOf 43 = .ok (.lconst 0, 1) := by decide +kernel
theorem dX13_rowOf_44 : decode cX13_rowOf 44 = .ok (.lor, 1) := by decide +kernel
theorem dX13_rowOf_45 : decode cX13_rowOf 45 = .ok (.lstore_n 3, 1) := by decide +kernel
theorem dX13_rowOf_46 : decode cX13_rowOf 46 = .ok (.iinc 5 1, 3) := by decide +kernel
theorem dX13_rowOf_49 : decode cX13_rowOf 49 = .ok (.goto (-44), 3) := by decide +kernel
theorem dX13_rowOf_52 : decode cX13_rowOf 52 = .ok (.lload_n 3, 1) := by decide +kernel
theorem dX13_rowOf_53 : decode cX13_rowOf 53 = .ok (.lreturn, 1) := by decide +kernel
theorem dX13_setRow_0 : decode cX13_setRow 0 = .ok (.aload_n 0, 1) := by decide +kernel
theorem dX13_setRow_1 : decode cX13_setRow 1 = .ok (.iconst 0, 1) := by decide +kernel
theorem dX13_setRow_2 : decode cX13_setRow 2 = .ok (.putfield 186, 3) := by decide +kernel
theorem dX13_setRow_5 : decode cX13_setRow 5 = .ok (.aload_n 0, 1) := by decide +kernel
theorem dX13_setRow_6 : decode cX13_setRow 6 = .ok (.iload_n 1, 1) := by decide +kernel
theorem dX13_setRow_7 : decode cX13_setRow 7 = .ok (.invokevirtual 202, 3) := by decide +kernel
theorem dX13_setRow_10 : decode cX13_setRow 10 = .ok (.ifCond .eq 19, 3) := by decide +kernel
theorem dX13_setRow_13 : decode cX13_setRow 13 = .ok (.iload_n 2, 1) := by decide +kernel
theorem dX13_setRow_14 : decode cX13_setRow 14 = .ok (.i2l, 1) := by decide +kernel
theorem dX13_setRow_15 : decode cX13_setRow 15 = .ok (.lconst 0, 1) := by decide +kernel
theorem dX13_setRow_16 : decode cX13_setRow 16 = .ok (.aload_n 0, 1) := by decide +kernel
theorem dX13_setRow_17 : decode cX13_setRow 17 = .ok (.getfield 183, 3) := by decide +kernel
theorem dX13_setRow_20 : decode cX13_setRow 20 = .ok (.iconst 1, 1) := by decide +kernel
theorem dX13_setRow_21 : decode cX13_setRow 21 = .ok (.isub, 1) := by decide +kernel
theorem dX13_setRow_22 : decode cX13_setRow 22 = .ok (.i2l, 1) := by decide +kernel
theorem dX13_setRow_23 : decode cX13_setRow 23 = .ok (.invokestatic 191, 3) := by decide +kernel
theorem dX13_setRow_26 : decode cX13_setRow 26 = .ok (.ifCond .ne 9, 3) := by decide +kernel
theorem dX13_setRow_29 : decode cX13_setRow 29 = .ok (.aload_n 0, 1) := by decide +kernel
theorem dX13_setRow_30 : decode cX13_setRow 30 = .ok (.iconst 1, 1) := by decide +kernel
theorem dX13_setRow_31 : decode cX13_setRow 31 = .ok (.invokevirtual 206, 3) := by decide +kernel
theorem dX13_setRow_34 : decode cX13_setRow 34 = .ok (.ireturn, 1) := by decide +kernel
theorem dX13_setRow_35 : decode cX13_setRow 35 = .ok (.aload_n 0, 1) := by decide +kernel
theorem dX13_setRow_36 : decode cX13_setRow 36 = .ok (.iload_n 1, 1) := by decide +kernel
theorem dX13_setRow_37 : decode cX13_setRow 37 = .ok (.invokevirtual 214, 3) := by decide +kernel
theorem dX13_setRow_40 : decode cX13_setRow 40 = .ok (.iconst 0, 1) := by decide +kernel
theorem dX13_setRow_41 : decode cX13_setRow 41 = .ok (.istore 5, 2) := by decide +kernel
theorem dX13_setRow_43 : decode cX13_setRow 43 = .ok (.iload 5, 2) := by decide +kernel
theorem dX13_setRow_45 : decode cX13_setRow 45 = .ok (.aload_n 0, 1) := by decide +kernel
theorem dX13_setRow_46 : decode cX13_setRow 46 = .ok (.getfield 179, 3) := by decide +kernel
theorem dX13_setRow_49 : decode cX13_setRow 49 = .ok (.if_icmp .ge 37, 3) := by decide +kernel
theorem dX13_setRow_52 : decode cX13_setRow 52 = .ok (.aload_n 0, 1) := by decide +kernel
theorem dX13_setRow_53 : decode cX13_setRow 53 = .ok (.getfield 21, 3) := by decide +kernel
theorem dX13_setRow_56 : decode cX13_setRow 56 = .ok (.bipush 64, 2) := by decide +kernel
theorem dX13_setRow_58 : decode cX13_setRow 58 = .ok (.iload_n 2, 1) := by decide +kernel
theorem dX13_setRow_59 : decode cX13_setRow 59 = .ok (.imul, 1) := by decide +kernel
theorem dX13_setRow_60 : decode cX13_setRow 60 = .ok (.iload 5, 2) := by decide +kernel
theorem dX13_setRow_62 : decode cX13_setRow 62 = .ok (.iadd, 1) := by decide +kernel
theorem dX13_setRow_63 : decode cX13_setRow 63 = .ok (.lload_n 3, 1) := by decide +kernel
theorem dX13_setRow_64 : decode cX13_setRow 64 = .ok (.iload 5, 2) := by decide +kernel
theorem dX13_setRow_66 : decode cX13_setRow 66 = .ok (.lshr, 1) := by decide +kernel
theorem dX13_setRow_67 : decode cX13_setRow 67 = .ok (.lconst 1, 1) := by decide +kernel
theorem dX13_setRow_68 : decode cX13_setRow 68 = .ok (.land, 1) := by decide +kernel
theorem dX13_setRow_69 : decode cX13_setRow 69 = .ok (.lconst 1, 1) := by decide +kernel
theorem dX13_setRow_70 : decode cX13_setRow 70 = .ok (.lcmp, 1) := by decide +kernel
theorem dX13_setRow_71 : decode cX13_setRow 71 = .ok (.ifCond .ne 7, 3) := by decide +kernel
theorem dX13_setRow_74 : decode cX13_setRow 74 = .ok (.iconst 1, 1) := by decide +kernel
theorem dX13_setRow_75 : decode cX13_setRow 75 = .ok (.goto 4, 3) := by decide +kernel
theorem dX13_setRow_78 : decode cX13_setRow 78 = .ok (.iconst 0, 1) := by decide +kernel
theorem dX13_setRow_79 : decode cX13_setRow 79 = .ok (.bastore, 1) := by decide +kernel
theorem dX13_setRow_80 : decode cX13_setRow 80 = .ok (.iinc 5 1, 3) := by decide +kernel
theorem dX13_setRow_83 : decode cX13_setRow 83 = .ok (.goto (-40), 3) := by decide +kernel
theorem dX13_setRow_86 : decode cX13_setRow 86 = .ok (.aload_n 0, 1) := by decide +kernel
theorem dX13_setRow_87 : decode cX13_setRow 87 = .ok (.iload_n 1, 1) := by decide +kernel
theorem dX13_setRow_88 : decode cX13_setRow 88 = .ok (.invokevirtual 218, 3) := by decide +kernel
theorem dX13_setRow_91 : decode cX13_setRow 91 = .ok (.ireturn, 1) := by decide +kernel
theorem dX13_takes_0 : decode cX13_takes 0 = .ok (.iconst 0, 1) := by decide +kernel
theorem dX13_takes_1 : decode cX13_takes 1 = .ok (.istore_n 2, 1) := by decide +kernel
theorem dX13_takes_2 : decode cX13_takes 2 = .ok (.iload_n 2, 1) := by decide +kernel
theorem dX13_takes_3 : decode cX13_takes 3 = .ok (.sipush 4096, 3) := by decide +kernel
theorem dX13_takes_6 : decode cX13_takes 6 = .ok (.if_icmp .ge 27, 3) := by decide +kernel
theorem dX13_takes_9 : decode cX13_takes 9 = .ok (.aload_n 0, 1) := by decide +kernel
theorem dX13_takes_10 : decode cX13_takes 10 = .ok (.getfield 21, 3) := by decide +kernel
theorem dX13_takes_13 : decode cX13_takes 13 = .ok (.iload_n 2, 1) := by decide +kernel
theorem dX13_takes_14 : decode cX13_takes 14 = .ok (.aload_n 0, 1) := by decide +kernel
theorem dX13_takes_15 : decode cX13_takes 15 = .ok (.getfield 7, 3) := by decide +kernel
theorem dX13_takes_18 : decode cX13_takes 18 = .ok (.sipush 4096, 3) := by decide +kernel
theorem dX13_takes_21 : decode cX13_takes 21 = .ok (.iload_n 1, 1) := by decide +kernel
theorem dX13_takes_22 : decode cX13_takes 22 = .ok (.imul, 1) := by decide +kernel
theorem dX13_takes_23 : decode cX13_takes 23 = .ok (.iload_n 2, 1) := by decide +kernel
theorem dX13_takes_24 : decode cX13_takes 24 = .ok (.iadd, 1) := by decide +kernel
theorem dX13_takes_25 : decode cX13_takes 25 = .ok (.baload, 1) := by decide +kernel
theorem dX13_takes_26 : decode cX13_takes 26 = .ok (.bastore, 1) := by decide +kernel
theorem dX13_takes_27 : decode cX13_takes 27 = .ok (.iinc 2 1, 3) := by decide +kernel
theorem dX13_takes_30 : decode cX13_takes 30 = .ok (.goto (-28), 3) := by decide +kernel
theorem dX13_takes_33 : decode cX13_takes 33 = .ok (.return_, 1) := by decide +kernel
theorem dX13_edits_0 : decode cX13_edits 0 = .ok (.aload_n 0, 1) := by decide +kernel
theorem dX13_edits_1 : decode cX13_edits 1 = .ok (.getfield 199, 3) := by decide +kernel
theorem dX13_edits_4 : decode cX13_edits 4 = .ok (.bipush 8, 2) := by decide +kernel
theorem dX13_edits_6 : decode cX13_edits 6 = .ok (.if_icmp .ne 72, 3) := by decide +kernel
theorem dX13_edits_9 : decode cX13_edits 9 = .ok (.iconst 0, 1) := by decide +kernel
theorem dX13_edits_10 : decode cX13_edits 10 = .ok (.istore_n 2, 1) := by decide +kernel
theorem dX13_edits_11 : decode cX13_edits 11 = .ok (.iload_n 2, 1) := by decide +kernel
theorem dX13_edits_12 : decode cX13_edits 12 = .ok (.sipush 28672, 3) := by decide +kernel
theorem dX13_edits_15 : decode cX13_edits 15 = .ok (.if_icmp .ge 25, 3) := by decide +kernel
theorem dX13_edits_18 : decode cX13_edits 18 = .ok (.aload_n 0, 1) := by decide +kernel
theorem dX13_edits_19 : decode cX13_edits 19 = .ok (.getfield 14, 3) := by decide +kernel
theorem dX13_edits_22 : decode cX13_edits 22 = .ok (.iload_n 2, 1) := by decide +kernel
theorem dX13_edits_23 : decode cX13_edits 23 = .ok (.aload_n 0, 1) := by decide +kernel
theorem dX13_edits_24 : decode cX13_edits 24 = .ok (.getfield 14, 3) := by decide +kernel
theorem dX13_edits_27 : decode cX13_edits 27 = .ok (.iload_n 2, 1) := by decide +kernel
theorem dX13_edits_28 : decode cX13_edits 28 = .ok (.sipush 4096, 3) := by decide +kernel
theorem dX13_edits_31 : decode cX13_edits 31 = .ok (.iadd, 1) := by decide +kernel
theorem dX13_edits_32 : decode cX13_edits 32 = .ok (.baload, 1) := by decide +kernel
theorem dX13_edits_33 : decode cX13_edits 33 = .ok (.bastore, 1) := by decide +kernel
theorem dX13_edits_34 : decode cX13_edits 34 = .ok (.iinc 2 1, 3) := by decide +kernel
theorem dX13_edits_37 : decode cX13_edits 37 = .ok (.goto (-26), 3) := by decide +kernel
theorem dX13_edits_40 : decode cX13_edits 40 = .ok (.iconst 0, 1) := by decide +kernel
theorem dX13_edits_41 : decode cX13_edits 41 = .ok (.istore_n 2, 1) := by decide +kernel
theorem dX13_edits_42 : decode cX13_edits 42 = .ok (.iload_n 2, 1) := by decide +kernel
theorem dX13_edits_43 : decode cX13_edits 43 = .ok (.bipush 7, 2) := by decide +kernel
theorem dX13_edits_45 : decode cX13_edits 45 = .ok (.if_icmp .ge 23, 3) := by decide +kernel
theorem dX13_edits_48 : decode cX13_edits 48 = .ok (.aload_n 0, 1) := by decide +kernel
theorem dX13_edits_49 : decode cX13_edits 49 = .ok (.getfield 17, 3) := by decide +kernel
theorem dX13_edits_52 : decode cX13_edits 52 = .ok (.iload_n 2, 1) := by decide +kernel
theorem dX13_edits_53 : decode cX13_edits 53 = .ok (.aload_n 0, 1) := by decide +kernel
theorem dX13_edits_54 : decode cX13_edits 54 = .ok (.getfield 17, 3) := by decide +kernel
theorem dX13_edits_57 : decode cX13_edits 57 = .ok (.iload_n 2, 1) := by decide +kernel
theorem dX13_edits_58 : decode cX13_edits 58 = .ok (.iconst 1, 1) := by decide +kernel
theorem dX13_edits_59 : decode cX13_edits 59 = .ok (.iadd, 1) := by decide +kernel
theorem dX13_edits_60 : decode cX13_edits 60 = .ok (.iaload, 1) := by decide +kernel
theorem dX13_edits_61 : decode cX13_edits 61 = .ok (.iastore, 1) := by decide +kernel
theorem dX13_edits_62 : decode cX13_edits 62 = .ok (.iinc 2 1, 3) := by decide +kernel
theorem dX13_edits_65 : decode cX13_edits 65 = .ok (.goto (-23), 3) := by decide +kernel
theorem dX13_edits_68 : decode cX13_edits 68 = .ok (.aload_n 0, 1) := by decide +kernel
theorem dX13_edits_69 : decode cX13_edits 69 = .ok (.dup, 1) := by decide +kernel
theorem dX13_edits_70 : decode cX13_edits 70 = .ok (.getfield 199, 3) := by decide +kernel
theorem dX13_edits_73 : decode cX13_edits 73 = .ok (.iconst 1, 1) := by decide +kernel
theorem dX13_edits_74 : decode cX13_edits 74 = .ok (.isub, 1) := by decide +kernel
theorem dX13_edits_75 : decode cX13_edits 75 = .ok (.putfield 199, 3) := by decide +kernel
theorem dX13_edits_78 : decode cX13_edits 78 = .ok (.iconst 0, 1) := by decide +kernel
theorem dX13_edits_79 : decode cX13_edits 79 = .ok (.istore_n 2, 1) := by decide +kernel
theorem dX13_edits_80 : decode cX13_edits 80 = .ok (.iconst 0, 1) := by decide +kernel
theorem dX13_edits_81 : decode cX13_edits 81 = .ok (.istore_n 3, 1) := by decide +kernel
theorem dX13_edits_82 : decode cX13_edits 82 = .ok (.iload_n 3, 1) := by decide +kernel
theorem dX13_edits_83 : decode cX13_edits 83 = .ok (.sipush 4096, 3) := by decide +kernel
theorem dX13_edits_86 : decode cX13_edits 86 = .ok (.if_icmp .ge 83, 3) := by decide +kernel
theorem dX13_edits_89 : decode cX13_edits 89 = .ok (.aload_n 0, 1) := by decide +kernel
theorem dX13_edits_90 : decode cX13_edits 90 = .ok (.getfield 14, 3) := by decide +kernel
theorem dX13_edits_93 : decode cX13_edits 93 = .ok (.sipush 4096, 3) := by decide +kernel
theorem dX13_edits_96 : decode cX13_edits 96 = .ok (.aload_n 0, 1) := by decide +kernel
theorem dX13_edits_97 : decode cX13_edits 97 = .ok (.getfield 199, 3) := by decide +kernel
theorem dX13_edits_100 : decode cX13_edits 100 = .ok (.imul, 1) := by decide +kernel
theorem dX13_edits_101 : decode cX13_edits 101 = .ok (.iload_n 3, 1) := by decide +kernel
theorem dX13_edits_102 : decode cX13_edits 102 = .ok (.iadd, 1) := by decide +kernel
theorem dX13_edits_103 : decode cX13_edits 103 = .ok (.aload_n 0, 1) := by decide +kernel
theorem dX13_edits_104 : decode cX13_edits 104 = .ok (.getfield 7, 3) := by decide +kernel
theorem dX13_edits_107 : decode cX13_edits 107 = .ok (.sipush 4096, 3) := by decide +kernel
theorem dX13_edits_110 : decode cX13_edits 110 = .ok (.iload_n 1, 1) := by decide +kernel
theorem dX13_edits_111 : decode cX13_edits 111 = .ok (.imul, 1) := by decide +kernel
theorem dX13_edits_112 : decode cX13_edits 112 = .ok (.iload_n 3, 1) := by decide +kernel
theorem dX13_edits_113 : decode cX13_edits 113 = .ok (.iadd, 1) := by decide +kernel
theorem dX13_edits_114 : decode cX13_edits 114 = .ok (.baload, 1) := by decide +kernel
theorem dX13_edits_115 : decode cX13_edits 115 = .ok (.bastore, 1) := by decide +kernel
theorem dX13_edits_116 : decode cX13_edits 116 = .ok (.iload_n 2, 1) := by decide +kernel
theorem dX13_edits_117 : decode cX13_edits 117 = .ok (.aload_n 0, 1) := by decide +kernel
theorem dX13_edits_118 : decode cX13_edits 118 = .ok (.getfield 7, 3) := by decide +kernel
theorem dX13_edits_121 : decode cX13_edits 121 = .ok (.sipush 4096, 3) := by decide +kernel
theorem dX13_edits_124 : decode cX13_edits 124 = .ok (.iload_n 1, 1) := by decide +kernel
theorem dX13_edits_125 : decode cX13_edits 125 = .ok (.imul, 1) := by decide +kernel
theorem dX13_edits_126 : decode cX13_edits 126 = .ok (.iload_n 3, 1) := by decide +kernel
theorem dX13_edits_127 : decode cX13_edits 127 = .ok (.iadd, 1) := by decide +kernel
theorem dX13_edits_128 : decode cX13_edits 128 = .ok (.baload, 1) := by decide +kernel
theorem dX13_edits_129 : decode cX13_edits 129 = .ok (.aload_n 0, 1) := by decide +kernel
theorem dX13_edits_130 : decode cX13_edits 130 = .ok (.getfield 21, 3) := by decide +kernel
theorem dX13_edits_133 : decode cX13_edits 133 = .ok (.iload_n 3, 1) := by decide +kernel
theorem dX13_edits_134 : decode cX13_edits 134 = .ok (.baload, 1) := by decide +kernel
theorem dX13_edits_135 : decode cX13_edits 135 = .ok (.if_icmp .ne 7, 3) := by decide +kernel
theorem dX13_edits_138 : decode cX13_edits 138 = .ok (.iconst 0, 1) := by decide +kernel
theorem dX13_edits_139 : decode cX13_edits 139 = .ok (.goto 4, 3) := by decide +kernel
theorem dX13_edits_142 : decode cX13_edits 142 = .ok (.iconst 1, 1) := by decide +kernel
theorem dX13_edits_143 : decode cX13_edits 143 = .ok (.iadd, 1) := by decide +kernel
theorem dX13_edits_144 : decode cX13_edits 144 = .ok (.istore_n 2, 1) := by decide +kernel
theorem dX13_edits_145 : decode cX13_edits 145 = .ok (.aload_n 0, 1) := by decide +kernel
theorem dX13_edits_146 : decode cX13_edits 146 = .ok (.getfield 7, 3) := by decide +kernel
theorem dX13_edits_149 : decode cX13_edits 149 = .ok (.sipush 4096, 3) := by decide +kernel
theorem dX13_edits_152 : decode cX13_edits 152 = .ok (.iload_n 1, 1) := by decide +kernel
theorem dX13_edits_153 : decode cX13_edits 153 = .ok (.imul, 1) := by decide +kernel
theorem dX13_edits_154 : decode cX13_edits 154 = .ok (.iload_n 3, 1) := by decide +kernel
theorem dX13_edits_155 : decode cX13_edits 155 = .ok (.iadd, 1) := by decide +kernel
theorem dX13_edits_156 : decode cX13_edits 156 = .ok (.aload_n 0, 1) := by decide +kernel
theorem dX13_edits_157 : decode cX13_edits 157 = .ok (.getfield 21, 3) := by decide +kernel
theorem dX13_edits_160 : decode cX13_edits 160 = .ok (.iload_n 3, 1) := by decide +kernel
theorem dX13_edits_161 : decode cX13_edits 161 = .ok (.baload, 1) := by decide +kernel
theorem dX13_edits_162 : decode cX13_edits 162 = .ok (.bastore, 1) := by decide +kernel
theorem dX13_edits_163 : decode cX13_edits 163 = .ok (.iinc 3 1, 3) := by decide +kernel
theorem dX13_edits_166 : decode cX13_edits 166 = .ok (.goto (-84), 3) := by decide +kernel
theorem dX13_edits_169 : decode cX13_edits 169 = .ok (.aload_n 0, 1) := by decide +kernel
theorem dX13_edits_170 : decode cX13_edits 170 = .ok (.getfield 17, 3) := by decide +kernel
theorem dX13_edits_173 : decode cX13_edits 173 = .ok (.aload_n 0, 1) := by decide +kernel
theorem dX13_edits_174 : decode cX13_edits 174 = .ok (.getfield 199, 3) := by decide +kernel
theorem dX13_edits_177 : decode cX13_edits 177 = .ok (.iload_n 1, 1) := by decide +kernel
theorem dX13_edits_178 : decode cX13_edits 178 = .ok (.iastore, 1) := by decide +kernel
theorem dX13_edits_179 : decode cX13_edits 179 = .ok (.aload_n 0, 1) := by decide +kernel
theorem dX13_edits_180 : decode cX13_edits 180 = .ok (.dup, 1) := by decide +kernel
theorem dX13_edits_181 : decode cX13_edits 181 = .ok (.getfield 199, 3) := by decide +kernel
theorem dX13_edits_184 : decode cX13_edits 184 = .ok (.iconst 1, 1) := by decide +kernel
theorem dX13_edits_185 : decode cX13_edits 185 = .ok (.iadd, 1) := by decide +kernel
theorem dX13_edits_186 : decode cX13_edits 186 = .ok (.putfield 199, 3) := by decide +kernel
theorem dX13_edits_189 : decode cX13_edits 189 = .ok (.iload_n 2, 1) := by decide +kernel
theorem dX13_edits_190 : decode cX13_edits 190 = .ok (.ireturn, 1) := by decide +kernel
theorem dX13_fill_0 : decode cX13_fill 0 = .ok (.aload_n 0, 1) := by decide +kernel
theorem dX13_fill_1 : decode cX13_fill 1 = .ok (.iconst 0, 1) := by decide +kernel
theorem dX13_fill_2 : decode cX13_fill 2 = .ok (.putfield 186, 3) := by decide +kernel
theorem dX13_fill_5 : decode cX13_fill 5 = .ok (.aload_n 0, 1) := by decide +kernel
theorem dX13_fill_6 : decode cX13_fill 6 = .ok (.iload_n 1, 1) := by decide +kernel
theorem dX13_fill_7 : decode cX13_fill 7 = .ok (.invokevirtual 202, 3) := by decide +kernel
theorem dX13_fill_10 : decode cX13_fill 10 = .ok (.ifCond .ne 9, 3) := by decide +kernel
theorem dX13_fill_13 : decode cX13_fill 13 = .ok (.aload_n 0, 1) := by decide +kernel
theorem dX13_fill_14 : decode cX13_fill 14 = .ok (.iconst 1, 1) := by decide +kernel
theorem dX13_fill_15 : decode cX13_fill 15 = .ok (.invokevirtual 206, 3) := by decide +kernel
theorem dX13_fill_18 : decode cX13_fill 18 = .ok (.ireturn, 1) := by decide +kernel
theorem dX13_fill_19 : decode cX13_fill 19 = .ok (.iload 4, 2) := by decide +kernel
theorem dX13_fill_21 : decode cX13_fill 21 = .ok (.ifCond .lt 8, 3) := by decide +kernel
theorem dX13_fill_24 : decode cX13_fill 24 = .ok (.iload 5, 2) := by decide +kernel
theorem dX13_fill_26 : decode cX13_fill 26 = .ok (.ifCond .ge 9, 3) := by decide +kernel
theorem dX13_fill_29 : decode cX13_fill 29 = .ok (.aload_n 0, 1) := by decide +kernel
theorem dX13_fill_30 : decode cX13_fill 30 = .ok (.iconst 2, 1) := by decide +kernel
theorem dX13_fill_31 : decode cX13_fill 31 = .ok (.invokevirtual 206, 3) := by decide +kernel
theorem dX13_fill_34 : decode cX13_fill 34 = .ok (.ireturn, 1) := by decide +kernel
theorem dX13_fill_35 : decode cX13_fill 35 = .ok (.aload_n 0, 1) := by decide +kernel
theorem dX13_fill_36 : decode cX13_fill 36 = .ok (.iload_n 1, 1) := by decide +kernel
theorem dX13_fill_37 : decode cX13_fill 37 = .ok (.invokevirtual 214, 3) := by decide +kernel
theorem dX13_fill_40 : decode cX13_fill 40 = .ok (.iconst 0, 1) := by decide +kernel
theorem dX13_fill_41 : decode cX13_fill 41 = .ok (.istore 7, 2) := by decide +kernel
theorem dX13_fill_43 : decode cX13_fill 43 = .ok (.iload 7, 2) := by decide +kernel
theorem dX13_fill_45 : decode cX13_fill 45 = .ok (.sipush 4096, 3) := by decide +kernel
theorem dX13_fill_48 : decode cX13_fill 48 = .ok (.if_icmp .ge 73, 3) := by decide +kernel
theorem dX13_fill_51 : decode cX13_fill 51 = .ok (.aload_n 0, 1) := by decide +kernel
theorem dX13_fill_52 : decode cX13_fill 52 = .ok (.iload 7, 2) := by decide +kernel
theorem dX13_fill_54 : decode cX13_fill 54 = .ok (.bipush 64, 2) := by decide +kernel
theorem dX13_fill_56 : decode cX13_fill 56 = .ok (.irem, 1) := by decide +kernel
theorem dX13_fill_57 : decode cX13_fill 57 = .ok (.i2l, 1) := by decide +kernel
theorem dX13_fill_58 : decode cX13_fill 58 = .ok (.iload 7, 2) := by decide +kernel
theorem dX13_fill_60 : decode cX13_fill 60 = .ok (.bipush 64, 2) := by decide +kernel
theorem dX13_fill_62 : decode cX13_fill 62 = .ok (.idiv, 1) := by decide +kernel
theorem dX13_fill_63 : decode cX13_fill 63 = .ok (.i2l, 1) := by decide +kernel
theorem dX13_fill_64 : decode cX13_fill 64 = .ok (.invokevirtual 195, 3) := by decide +kernel
theorem dX13_fill_67 : decode cX13_fill 67 = .ok (.ifCond .eq 21, 3) := by decide +kernel
theorem dX13_fill_70 : decode cX13_fill 70 = .ok (.iload 7, 2) := by decide +kernel
theorem dX13_fill_72 : decode cX13_fill 72 = .ok (.iload_n 2, 1) := by decide +kernel
theorem dX13_fill_73 : decode cX13_fill 73 = .ok (.iload_n 3, 1) := by decide +kernel
theorem dX13_fill_74 : decode cX13_fill 74 = .ok (.iload 4, 2) := by decide +kernel
theorem dX13_fill_76 : decode cX13_fill 76 = .ok (.iload 5, 2) := by decide +kernel
theorem dX13_fill_78 : decode cX13_fill 78 = .ok (.invokestatic 220, 3) := by decide +kernel
theorem dX13_fill_81 : decode cX13_fill 81 = .ok (.ifCond .eq 7, 3) := by decide +kernel
theorem dX13_fill_84 : decode cX13_fill 84 = .ok (.iconst 1, 1) := by decide +kernel
theorem dX13_fill_85 : decode cX13_fill 85 = .ok (.goto 4, 3) := by decide +kernel
theorem dX13_fill_88 : decode cX13_fill 88 = .ok (.iconst 0, 1) := by decide +kernel
theorem dX13_fill_89 : decode cX13_fill 89 = .ok (.istore 8, 2) := by decide +kernel
theorem dX13_fill_91 : decode cX13_fill 91 = .ok (.aload_n 0, 1) := by decide +kernel
theorem dX13_fill_92 : decode cX13_fill 92 = .ok (.getfield 21, 3) := by decide +kernel
theorem dX13_fill_95 : decode cX13_fill 95 = .ok (.iload 7, 2) := by decide +kernel
theorem dX13_fill_97 : decode cX13_fill 97 = .ok (.iload 8, 2) := by decide +kernel
theorem dX13_fill_99 : decode cX13_fill 99 = .ok (.ifCond .eq 8, 3) := by decide +kernel
theorem dX13_fill_102 : decode cX13_fill 102 = .ok (.iload 6, 2) := by decide +kernel
theorem dX13_fill_104 : decode cX13_fill 104 = .ok (.goto 10, 3) := by decide +kernel
theorem dX13_fill_107 : decode cX13_fill 107 = .ok (.aload_n 0, 1) := by decide +kernel
theorem dX13_fill_108 : decode cX13_fill 108 = .ok (.getfield 21, 3) := by decide +kernel
theorem dX13_fill_111 : decode cX13_fill 111 = .ok (.iload 7, 2) := by decide +kernel
theorem dX13_fill_113 : decode cX13_fill 113 = .ok (.baload, 1) := by decide +kernel
theorem dX13_fill_114 : decode cX13_fill 114 = .ok (.bastore, 1) := by decide +kernel
theorem dX13_fill_115 : decode cX13_fill 115 = .ok (.iinc 7 1, 3) := by decide +kernel
theorem dX13_fill_118 : decode cX13_fill 118 = .ok (.goto (-75), 3) := by decide +kernel
theorem dX13_fill_121 : decode cX13_fill 121 = .ok (.aload_n 0, 1) := by decide +kernel
theorem dX13_fill_122 : decode cX13_fill 122 = .ok (.iload_n 1, 1) := by decide +kernel
theorem dX13_fill_123 : decode cX13_fill 123 = .ok (.invokevirtual 218, 3) := by decide +kernel
theorem dX13_fill_126 : decode cX13_fill 126 = .ok (.ireturn, 1) := by decide +kernel
theorem dX13_isOn_0 : decode cX13_isOn 0 = .ok (.lload_n 1, 1) := by decide +kernel
theorem dX13_isOn_1 : decode cX13_isOn 1 = .ok (.lconst 0, 1) := by decide +kernel
theorem dX13_isOn_2 : decode cX13_isOn 2 = .ok (.aload_n 0, 1) := by decide +kernel
theorem dX13_isOn_3 : decode cX13_isOn 3 = .ok (.getfield 179, 3) := by decide +kernel
theorem dX13_isOn_6 : decode cX13_isOn 6 = .ok (.iconst 1, 1) := by decide +kernel
theorem dX13_isOn_7 : decode cX13_isOn 7 = .ok (.isub, 1) := by decide +kernel
theorem dX13_isOn_8 : decode cX13_isOn 8 = .ok (.i2l, 1) := by decide +kernel
theorem dX13_isOn_9 : decode cX13_isOn 9 = .ok (.invokestatic 191, 3) := by decide +kernel
theorem dX13_isOn_12 : decode cX13_isOn 12 = .ok (.ifCond .eq 22, 3) := by decide +kernel
theorem dX13_isOn_15 : decode cX13_isOn 15 = .ok (.lload_n 3, 1) := by decide +kernel
theorem dX13_isOn_16 : decode cX13_isOn 16 = .ok (.lconst 0, 1) := by decide +kernel
theorem dX13_isOn_17 : decode cX13_isOn 17 = .ok (.aload_n 0, 1) := by decide +kernel
theorem dX13_isOn_18 : decode cX13_isOn 18 = .ok (.getfield 183, 3) := by decide +kernel
theorem dX13_isOn_21 : decode cX13_isOn 21 = .ok (.iconst 1, 1) := by decide +kernel
theorem dX13_isOn_22 : decode cX13_isOn 22 = .ok (.isub, 1) := by decide +kernel
theorem dX13_isOn_23 : decode cX13_isOn 23 = .ok (.i2l, 1) := by decide +kernel
theorem dX13_isOn_24 : decode cX13_isOn 24 = .ok (.invokestatic 191, 3) := by decide +kernel
theorem dX13_isOn_27 : decode cX13_isOn 27 = .ok (.ifCond .eq 7, 3) := by decide +kernel
theorem dX13_isOn_30 : decode cX13_isOn 30 = .ok (.iconst 1, 1) := by decide +kernel
theorem dX13_isOn_31 : decode cX13_isOn 31 = .ok (.goto 4, 3) := by decide +kernel
theorem dX13_isOn_34 : decode cX13_isOn 34 = .ok (.iconst 0, 1) := by decide +kernel
theorem dX13_isOn_35 : decode cX13_isOn 35 = .ok (.ireturn, 1) := by decide +kernel
theorem dX13_isWithin_0 : decode cX13_isWithin 0 = .ok (.iload_n 0, 1) := by decide +kernel
theorem dX13_isWithin_1 : decode cX13_isWithin 1 = .ok (.bipush 64, 2) := by decide +kernel
theorem dX13_isWithin_3 : decode cX13_isWithin 3 = .ok (.irem, 1) := by decide +kernel
theorem dX13_isWithin_4 : decode cX13_isWithin 4 = .ok (.i2l, 1) := by decide +kernel
theorem dX13_isWithin_5 : decode cX13_isWithin 5 = .ok (.iload_n 1, 1) := by decide +kernel
theorem dX13_isWithin_6 : decode cX13_isWithin 6 = .ok (.i2l, 1) := by decide +kernel
theorem dX13_isWithin_7 : decode cX13_isWithin 7 = .ok (.iload_n 1, 1) := by decide +kernel
theorem dX13_isWithin_8 : decode cX13_isWithin 8 = .ok (.i2l, 1) := by decide +kernel
theorem dX13_isWithin_9 : decode cX13_isWithin 9 = .ok (.iload_n 3, 1) := by decide +kernel
theorem dX13_isWithin_10 : decode cX13_isWithin 10 = .ok (.i2l, 1) := by decide +kernel
theorem dX13_isWithin_11 : decode cX13_isWithin 11 = .ok (.ladd, 1) := by decide +kernel
theorem dX13_isWithin_12 : decode cX13_isWithin 12 = .ok (.lconst 1, 1) := by decide +kernel
theorem dX13_isWithin_13 : decode cX13_isWithin 13 = .ok (.lsub, 1) := by decide +kernel
theorem dX13_isWithin_14 : decode cX13_isWithin 14 = .ok (.invokestatic 191, 3) := by decide +kernel
theorem dX13_isWithin_17 : decode cX13_isWithin 17 = .ok (.ifCond .eq 28, 3) := by decide +kernel
theorem dX13_isWithin_20 : decode cX13_isWithin 20 = .ok (.iload_n 0, 1) := by decide +kernel
theorem dX13_isWithin_21 : decode cX13_isWithin 21 = .ok (.bipush 64, 2) := by decide +kernel
theorem dX13_isWithin_23 : decode cX13_isWithin 23 = .ok (.idiv, 1) := by decide +kernel
theorem dX13_isWithin_24 : decode cX13_isWithin 24 = .ok (.i2l, 1) := by decide +kernel
theorem dX13_isWithin_25 : decode cX13_isWithin 25 = .ok (.iload_n 2, 1) := by decide +kernel
theorem dX13_isWithin_26 : decode cX13_isWithin 26 = .ok (.i2l, 1) := by decide +kernel
theorem dX13_isWithin_27 : decode cX13_isWithin 27 = .ok (.iload_n 2, 1) := by decide +kernel
theorem dX13_isWithin_28 : decode cX13_isWithin 28 = .ok (.i2l, 1) := by decide +kernel
theorem dX13_isWithin_29 : decode cX13_isWithin 29 = .ok (.iload 4, 2) := by decide +kernel
theorem dX13_isWithin_31 : decode cX13_isWithin 31 = .ok (.i2l, 1) := by decide +kernel
theorem dX13_isWithin_32 : decode cX13_isWithin 32 = .ok (.ladd, 1) := by decide +kernel
theorem dX13_isWithin_33 : decode cX13_isWithin 33 = .ok (.lconst 1, 1) := by decide +kernel
theorem dX13_isWithin_34 : decode cX13_isWithin 34 = .ok (.lsub, 1) := by decide +kernel
theorem dX13_isWithin_35 : decode cX13_isWithin 35 = .ok (.invokestatic 191, 3) := by decide +kernel
theorem dX13_isWithin_38 : decode cX13_isWithin 38 = .ok (.ifCond .eq 7, 3) := by decide +kernel
theorem dX13_isWithin_41 : decode cX13_isWithin 41 = .ok (.iconst 1, 1) := by decide +kernel
theorem dX13_isWithin_42 : decode cX13_isWithin 42 = .ok (.goto 4, 3) := by decide +kernel
theorem dX13_isWithin_45 : decode cX13_isWithin 45 = .ok (.iconst 0, 1) := by decide +kernel
theorem dX13_isWithin_46 : decode cX13_isWithin 46 = .ok (.ireturn, 1) := by decide +kernel
theorem dX13_copy_0 : decode cX13_copy 0 = .ok (.aload_n 0, 1) := by decide +kernel
theorem dX13_copy_1 : decode cX13_copy 1 = .ok (.iconst 0, 1) := by decide +kernel
theorem dX13_copy_2 : decode cX13_copy 2 = .ok (.putfield 186, 3) := by decide +kernel
theorem dX13_copy_5 : decode cX13_copy 5 = .ok (.aload_n 0, 1) := by decide +kernel
theorem dX13_copy_6 : decode cX13_copy 6 = .ok (.iload_n 1, 1) := by decide +kernel
theorem dX13_copy_7 : decode cX13_copy 7 = .ok (.invokevirtual 202, 3) := by decide +kernel
theorem dX13_copy_10 : decode cX13_copy 10 = .ok (.ifCond .eq 11, 3) := by decide +kernel
theorem dX13_copy_13 : decode cX13_copy 13 = .ok (.aload_n 0, 1) := by decide +kernel
theorem dX13_copy_14 : decode cX13_copy 14 = .ok (.iload_n 2, 1) := by decide +kernel
theorem dX13_copy_15 : decode cX13_copy 15 = .ok (.invokevirtual 202, 3) := by decide +kernel
theorem dX13_copy_18 : decode cX13_copy 18 = .ok (.ifCond .ne 9, 3) := by decide +kernel
theorem dX13_copy_21 : decode cX13_copy 21 = .ok (.aload_n 0, 1) := by decide +kernel
theorem dX13_copy_22 : decode cX13_copy 22 = .ok (.iconst 1, 1) := by decide +kernel
theorem dX13_copy_23 : decode cX13_copy 23 = .ok (.invokevirtual 206, 3) := by decide +kernel
theorem dX13_copy_26 : decode cX13_copy 26 = .ok (.ireturn, 1) := by decide +kernel
theorem dX13_copy_27 : decode cX13_copy 27 = .ok (.iconst 0, 1) := by decide +kernel
theorem dX13_copy_28 : decode cX13_copy 28 = .ok (.istore 5, 2) := by decide +kernel
theorem dX13_copy_30 : decode cX13_copy 30 = .ok (.iload 5, 2) := by decide +kernel
theorem dX13_copy_32 : decode cX13_copy 32 = .ok (.sipush 4096, 3) := by decide +kernel
theorem dX13_copy_35 : decode cX13_copy 35 = .ok (.if_icmp .ge 71, 3) := by decide +kernel
theorem dX13_copy_38 : decode cX13_copy 38 = .ok (.aload_n 0, 1) := by decide +kernel
theorem dX13_copy_39 : decode cX13_copy 39 = .ok (.iload 5, 2) := by decide +kernel
theorem dX13_copy_41 : decode cX13_copy 41 = .ok (.bipush 64, 2) := by decide +kernel
theorem dX13_copy_43 : decode cX13_copy 43 = .ok (.irem, 1) := by decide +kernel
theorem dX13_copy_44 : decode cX13_copy 44 = .ok (.i2l, 1) := by decide +kernel
theorem dX13_copy_45 : decode cX13_copy 45 = .ok (.iload 5, 2) := by decide +kernel
theorem dX13_copy_47 : decode cX13_copy 47 = .ok (.bipush 64, 2) := by decide +kernel
theorem dX13_copy_49 : decode cX13_copy 49 = .ok (.idiv, 1) := by decide +kernel
theorem dX13_copy_50 : decode cX13_copy 50 = .ok (.i2l, 1) := by decide +kernel
theorem dX13_copy_51 : decode cX13_copy 51 = .ok (.invokevirtual 195, 3) := by decide +kernel
theorem dX13_copy_54 : decode cX13_copy 54 = .ok (.istore 6, 2) := by decide +kernel
theorem dX13_copy_56 : decode cX13_copy 56 = .ok (.aload_n 0, 1) := by decide +kernel
theorem dX13_copy_57 : decode cX13_copy 57 = .ok (.getfield 21, 3) := by decide +kernel
theorem dX13_copy_60 : decode cX13_copy 60 = .ok (.iload 5, 2) := by decide +kernel
theorem dX13_copy_62 : decode cX13_copy 62 = .ok (.iload 6, 2) := by decide +kernel
theorem dX13_copy_64 : decode cX13_copy 64 = .ok (.ifCond .eq 34, 3) := by decide +kernel
theorem dX13_copy_67 : decode cX13_copy 67 = .ok (.aload_n 0, 1) := by decide +kernel
theorem dX13_copy_68 : decode cX13_copy 68 = .ok (.iload_n 1, 1) := by decide +kernel
theorem dX13_copy_69 : decode cX13_copy 69 = .ok (.iload 5, 2) := by decide +kernel
theorem dX13_copy_71 : decode cX13_copy 71 = .ok (.bipush 64, 2) := by decide +kernel
theorem dX13_copy_73 : decode cX13_copy 73 = .ok (.irem, 1) := by decide +kernel
theorem dX13_copy_74 : decode cX13_copy 74 = .ok (.i2l, 1) := by decide +kernel
theorem dX13_copy_75 : decode cX13_copy 75 = .ok (.iload_n 3, 1) := by decide +kernel
theorem dX13_copy_76 : decode cX13_copy 76 = .ok (.i2l, 1) := by decide +kernel
theorem dX13_copy_77 : decode cX13_copy 77 = .ok (.lsub, 1) := by decide +kernel
theorem dX13_copy_78 : decode cX13_copy 78 = .ok (.iload 5, 2) := by decide +kernel
theorem dX13_copy_80 : decode cX13_copy 80 = .ok (.bipush 64, 2) := by decide +kernel
theorem dX13_copy_82 : decode cX13_copy 82 = .ok (.idiv, 1) := by decide +kernel
theorem dX13_copy_83 : decode cX13_copy 83 = .ok (.i2l, 1) := by decide +kernel
theorem dX13_copy_84 : decode cX13_copy 84 = .ok (.iload 4, 2) := by decide +kernel
theorem dX13_copy_86 : decode cX13_copy 86 = .ok (.i2l, 1) := by decide +kernel
theorem dX13_copy_87 : decode cX13_copy 87 = .ok (.lsub, 1) := by decide +kernel
theorem dX13_copy_88 : decode cX13_copy 88 = .ok (.invokevirtual 224, 3) := by decide +kernel
theorem dX13_copy_91 : decode cX13_copy 91 = .ok (.ifCond .eq 7, 3) := by decide +kernel
theorem dX13_copy_94 : decode cX13_copy 94 = .ok (.iconst 1, 1) := by decide +kernel
theorem dX13_copy_95 : decode cX13_copy 95 = .ok (.goto 4, 3) := by decide +kernel
theorem dX13_copy_98 : decode cX13_copy 98 = .ok (.iconst 0, 1) := by decide +kernel
theorem dX13_copy_99 : decode cX13_copy 99 = .ok (.bastore, 1) := by decide +kernel
theorem dX13_copy_100 : decode cX13_copy 100 = .ok (.iinc 5 1, 3) := by decide +kernel
theorem dX13_copy_103 : decode cX13_copy 103 = .ok (.goto (-73), 3) := by decide +kernel
theorem dX13_copy_106 : decode cX13_copy 106 = .ok (.aload_n 0, 1) := by decide +kernel
theorem dX13_copy_107 : decode cX13_copy 107 = .ok (.iload_n 2, 1) := by decide +kernel
theorem dX13_copy_108 : decode cX13_copy 108 = .ok (.invokevirtual 218, 3) := by decide +kernel
theorem dX13_copy_111 : decode cX13_copy 111 = .ok (.ireturn, 1) := by decide +kernel
theorem dX13_at_0 : decode cX13_at 0 = .ok (.aload_n 0, 1) := by decide +kernel
theorem dX13_at_1 : decode cX13_at 1 = .ok (.lload_n 2, 1) := by decide +kernel
theorem dX13_at_2 : decode cX13_at 2 = .ok (.lload 4, 2) := by decide +kernel
theorem dX13_at_4 : decode cX13_at 4 = .ok (.invokevirtual 195, 3) := by decide +kernel
theorem dX13_at_7 : decode cX13_at 7 = .ok (.ifCond .eq 30, 3) := by decide +kernel
theorem dX13_at_10 : decode cX13_at 10 = .ok (.aload_n 0, 1) := by decide +kernel
theorem dX13_at_11 : decode cX13_at 11 = .ok (.getfield 7, 3) := by decide +kernel
theorem dX13_at_14 : decode cX13_at 14 = .ok (.sipush 4096, 3) := by decide +kernel
theorem dX13_at_17 : decode cX13_at 17 = .ok (.iload_n 1, 1) := by decide +kernel
theorem dX13_at_18 : decode cX13_at 18 = .ok (.imul, 1) := by decide +kernel
theorem dX13_at_19 : decode cX13_at 19 = .ok (.bipush 64, 2) := by decide +kernel
theorem dX13_at_21 : decode cX13_at 21 = .ok (.lload 4, 2) := by decide +kernel
theorem dX13_at_23 : decode cX13_at 23 = .ok (.l2i, 1) := by decide +kernel
theorem dX13_at_24 : decode cX13_at 24 = .ok (.imul, 1) := by decide +kernel
theorem dX13_at_25 : decode cX13_at 25 = .ok (.iadd, 1) := by decide +kernel
theorem dX13_at_26 : decode cX13_at 26 = .ok (.lload_n 2, 1) := by decide +kernel
theorem dX13_at_27 : decode cX13_at 27 = .ok (.l2i, 1) := by decide +kernel
theorem dX13_at_28 : decode cX13_at 28 = .ok (.iadd, 1) := by decide +kernel
theorem dX13_at_29 : decode cX13_at 29 = .ok (.baload, 1) := by decide +kernel
theorem dX13_at_30 : decode cX13_at 30 = .ok (.ifCond .eq 7, 3) := by decide +kernel
theorem dX13_at_33 : decode cX13_at 33 = .ok (.iconst 1, 1) := by decide +kernel
theorem dX13_at_34 : decode cX13_at 34 = .ok (.goto 4, 3) := by decide +kernel
theorem dX13_at_37 : decode cX13_at 37 = .ok (.iconst 0, 1) := by decide +kernel
theorem dX13_at_38 : decode cX13_at 38 = .ok (.ireturn, 1) := by decide +kernel
theorem dX13_merge_0 : decode cX13_merge 0 = .ok (.aload_n 0, 1) := by decide +kernel
theorem dX13_merge_1 : decode cX13_merge 1 = .ok (.iconst 0, 1) := by decide +kernel
theorem dX13_merge_2 : decode cX13_merge 2 = .ok (.putfield 186, 3) := by decide +kernel
theorem dX13_merge_5 : decode cX13_merge 5 = .ok (.aload_n 0, 1) := by decide +kernel
theorem dX13_merge_6 : decode cX13_merge 6 = .ok (.iload_n 1, 1) := by decide +kernel
theorem dX13_merge_7 : decode cX13_merge 7 = .ok (.invokevirtual 202, 3) := by decide +kernel
theorem dX13_merge_10 : decode cX13_merge 10 = .ok (.ifCond .ne 9, 3) := by decide +kernel
theorem dX13_merge_13 : decode cX13_merge 13 = .ok (.aload_n 0, 1) := by decide +kernel
theorem dX13_merge_14 : decode cX13_merge 14 = .ok (.iconst 1, 1) := by decide +kernel
theorem dX13_merge_15 : decode cX13_merge 15 = .ok (.invokevirtual 206, 3) := by decide +kernel
theorem dX13_merge_18 : decode cX13_merge 18 = .ok (.ireturn, 1) := by decide +kernel
theorem dX13_merge_19 : decode cX13_merge 19 = .ok (.iconst 0, 1) := by decide +kernel
theorem dX13_merge_20 : decode cX13_merge 20 = .ok (.istore_n 2, 1) := by decide +kernel
theorem dX13_merge_21 : decode cX13_merge 21 = .ok (.iload_n 2, 1) := by decide +kernel
theorem dX13_merge_22 : decode cX13_merge 22 = .ok (.sipush 4096, 3) := by decide +kernel
theorem dX13_merge_25 : decode cX13_merge 25 = .ok (.if_icmp .ge 82, 3) := by decide +kernel
theorem dX13_merge_28 : decode cX13_merge 28 = .ok (.aload_n 0, 1) := by decide +kernel
theorem dX13_merge_29 : decode cX13_merge 29 = .ok (.getfield 7, 3) := by decide +kernel
theorem dX13_merge_32 : decode cX13_merge 32 = .ok (.sipush 4096, 3) := by decide +kernel
theorem dX13_merge_35 : decode cX13_merge 35 = .ok (.iload_n 2, 1) := by decide +kernel
theorem dX13_merge_36 : decode cX13_merge 36 = .ok (.iadd, 1) := by decide +kernel
theorem dX13_merge_37 : decode cX13_merge 37 = .ok (.baload, 1) := by decide +kernel
theorem dX13_merge_38 : decode cX13_merge 38 = .ok (.ifCond .eq 7, 3) := by decide +kernel
theorem dX13_merge_41 : decode cX13_merge 41 = .ok (.iconst 1, 1) := by decide +kernel
theorem dX13_merge_42 : decode cX13_merge 42 = .ok (.goto 4, 3) := by decide +kernel
theorem dX13_merge_45 : decode cX13_merge 45 = .ok (.iconst 0, 1) := by decide +kernel
theorem dX13_merge_46 : decode cX13_merge 46 = .ok (.aload_n 0, 1) := by decide +kernel
theorem dX13_merge_47 : decode cX13_merge 47 = .ok (.getfield 7, 3) := by decide +kernel
theorem dX13_merge_50 : decode cX13_merge 50 = .ok (.sipush 8192, 3) := by decide +kernel
theorem dX13_merge_53 : decode cX13_merge 53 = .ok (.iload_n 2, 1) := by decide +kernel
theorem dX13_merge_54 : decode cX13_merge 54 = .ok (.iadd, 1) := by decide +kernel
theorem dX13_merge_55 : decode cX13_merge 55 = .ok (.baload, 1) := by decide +kernel
theorem dX13_merge_56 : decode cX13_merge 56 = .ok (.ifCond .eq 7, 3) := by decide +kernel
theorem dX13_merge_59 : decode cX13_merge 59 = .ok (.iconst 1, 1) := by decide +kernel
theorem dX13_merge_60 : decode cX13_merge 60 = .ok (.goto 4, 3) := by decide +kernel
theorem dX13_merge_63 : decode cX13_merge 63 = .ok (.iconst 0, 1) := by decide +kernel
theorem dX13_merge_64 : decode cX13_merge 64 = .ok (.iadd, 1) := by decide +kernel
theorem dX13_merge_65 : decode cX13_merge 65 = .ok (.aload_n 0, 1) := by decide +kernel
theorem dX13_merge_66 : decode cX13_merge 66 = .ok (.getfield 7, 3) := by decide +kernel
theorem dX13_merge_69 : decode cX13_merge 69 = .ok (.sipush 12288, 3) := by decide +kernel
theorem dX13_merge_72 : decode cX13_merge 72 = .ok (.iload_n 2, 1) := by decide +kernel
theorem dX13_merge_73 : decode cX13_merge 73 = .ok (.iadd, 1) := by decide +kernel
theorem dX13_merge_74 : decode cX13_merge 74 = .ok (.baload, 1) := by decide +kernel
theorem dX13_merge_75 : decode cX13_merge 75 = .ok (.ifCond .eq 7, 3) := by decide +kernel
theorem dX13_merge_78 : decode cX13_merge 78 = .ok (.iconst 1, 1) := by decide +kernel
theorem dX13_merge_79 : decode cX13_merge 79 = .ok (.goto 4, 3) := by decide +kernel
theorem dX13_merge_82 : decode cX13_merge 82 = .ok (.iconst 0, 1) := by decide +kernel
theorem dX13_merge_83 : decode cX13_merge 83 = .ok (.iadd, 1) := by decide +kernel
theorem dX13_merge_84 : decode cX13_merge 84 = .ok (.istore_n 3, 1) := by decide +kernel
theorem dX13_merge_85 : decode cX13_merge 85 = .ok (.aload_n 0, 1) := by decide +kernel
theorem dX13_merge_86 : decode cX13_merge 86 = .ok (.getfield 21, 3) := by decide +kernel
theorem dX13_merge_89 : decode cX13_merge 89 = .ok (.iload_n 2, 1) := by decide +kernel
theorem dX13_merge_90 : decode cX13_merge 90 = .ok (.iload_n 3, 1) := by decide +kernel
theorem dX13_merge_91 : decode cX13_merge 91 = .ok (.iconst 2, 1) := by decide +kernel
theorem dX13_merge_92 : decode cX13_merge 92 = .ok (.if_icmp .lt 7, 3) := by decide +kernel
theorem dX13_merge_95 : decode cX13_merge 95 = .ok (.iconst 1, 1) := by decide +kernel
theorem dX13_merge_96 : decode cX13_merge 96 = .ok (.goto 4, 3) := by decide +kernel
theorem dX13_merge_99 : decode cX13_merge 99 = .ok (.iconst 0, 1) := by decide +kernel
theorem dX13_merge_100 : decode cX13_merge 100 = .ok (.bastore, 1) := by decide +kernel
theorem dX13_merge_101 : decode cX13_merge 101 = .ok (.iinc 2 1, 3) := by decide +kernel
theorem dX13_merge_104 : decode cX13_merge 104 = .ok (.goto (-83), 3) := by decide +kernel
theorem dX13_merge_107 : decode cX13_merge 107 = .ok (.aload_n 0, 1) := by decide +kernel
theorem dX13_merge_108 : decode cX13_merge 108 = .ok (.iload_n 1, 1) := by decide +kernel
theorem dX13_merge_109 : decode cX13_merge 109 = .ok (.invokevirtual 218, 3) := by decide +kernel
theorem dX13_merge_112 : decode cX13_merge 112 = .ok (.ireturn, 1) := by decide +kernel
theorem dX13_flip_0 : decode cX13_flip 0 = .ok (.aload_n 0, 1) := by decide +kernel
theorem dX13_flip_1 : decode cX13_flip 1 = .ok (.iconst 0, 1) := by decide +kernel
theorem dX13_flip_2 : decode cX13_flip 2 = .ok (.putfield 186, 3) := by decide +kernel
theorem dX13_flip_5 : decode cX13_flip 5 = .ok (.aload_n 0, 1) := by decide +kernel
theorem dX13_flip_6 : decode cX13_flip 6 = .ok (.iload_n 1, 1) := by decide +kernel
theorem dX13_flip_7 : decode cX13_flip 7 = .ok (.invokevirtual 202, 3) := by decide +kernel
theorem dX13_flip_10 : decode cX13_flip 10 = .ok (.ifCond .ne 9, 3) := by decide +kernel
theorem dX13_flip_13 : decode cX13_flip 13 = .ok (.aload_n 0, 1) := by decide +kernel
theorem dX13_flip_14 : decode cX13_flip 14 = .ok (.iconst 1, 1) := by decide +kernel
theorem dX13_flip_15 : decode cX13_flip 15 = .ok (.invokevirtual 206, 3) := by decide +kernel
theorem dX13_flip_18 : decode cX13_flip 18 = .ok (.ireturn, 1) := by decide +kernel
theorem dX13_flip_19 : decode cX13_flip 19 = .ok (.iload_n 2, 1) := by decide +kernel
theorem dX13_flip_20 : decode cX13_flip 20 = .ok (.i2l, 1) := by decide +kernel
theorem dX13_flip_21 : decode cX13_flip 21 = .ok (.lconst 0, 1) := by decide +kernel
theorem dX13_flip_22 : decode cX13_flip 22 = .ok (.ldc2_w 228, 3) := by decide +kernel
theorem dX13_flip_25 : decode cX13_flip 25 = .ok (.invokestatic 191, 3) := by decide +kernel
theorem dX13_flip_28 : decode cX13_flip 28 = .ok (.ifCond .ne 9, 3) := by decide +kernel
theorem dX13_flip_31 : decode cX13_flip 31 = .ok (.aload_n 0, 1) := by decide +kernel
theorem dX13_flip_32 : decode cX13_flip 32 = .ok (.iconst 2, 1) := by decide +kernel
theorem dX13_flip_33 : decode cX13_flip 33 = .ok (.invokevirtual 206, 3) := by decide +kernel
theorem dX13_flip_36 : decode cX13_flip 36 = .ok (.ireturn, 1) := by decide +kernel
theorem dX13_flip_37 : decode cX13_flip 37 = .ok (.iconst 0, 1) := by decide +kernel
theorem dX13_flip_38 : decode cX13_flip 38 = .ok (.istore_n 3, 1) := by decide +kernel
theorem dX13_flip_39 : decode cX13_flip 39 = .ok (.iload_n 3, 1) := by decide +kernel
theorem dX13_flip_40 : decode cX13_flip 40 = .ok (.sipush 4096, 3) := by decide +kernel
theorem dX13_flip_43 : decode cX13_flip 43 = .ok (.if_icmp .ge 100, 3) := by decide +kernel
theorem dX13_flip_46 : decode cX13_flip 46 = .ok (.iload_n 3, 1) := by decide +kernel
theorem dX13_flip_47 : decode cX13_flip 47 = .ok (.bipush 64, 2) := by decide +kernel
theorem dX13_flip_49 : decode cX13_flip 49 = .ok (.irem, 1) := by decide +kernel
theorem dX13_flip_50 : decode cX13_flip 50 = .ok (.istore 4, 2) := by decide +kernel
theorem dX13_flip_52 : decode cX13_flip 52 = .ok (.iload_n 3, 1) := by decide +kernel
theorem dX13_flip_53 : decode cX13_flip 53 = .ok (.bipush 64, 2) := by decide +kernel
theorem dX13_flip_55 : decode cX13_flip 55 = .ok (.idiv, 1) := by decide +kernel
theorem dX13_flip_56 : decode cX13_flip 56 = .ok (.istore 5, 2) := by decide +kernel
theorem dX13_flip_58 : decode cX13_flip 58 = .ok (.iload_n 2, 1) := by decide +kernel
theorem dX13_flip_59 : decode cX13_flip 59 = .ok (.iconst 1, 1) := by decide +kernel
theorem dX13_flip_60 : decode cX13_flip 60 = .ok (.if_icmp .ne 8, 3) := by decide +kernel
theorem dX13_flip_63 : decode cX13_flip 63 = .ok (.iload 4, 2) := by decide +kernel
theorem dX13_flip_65 : decode cX13_flip 65 = .ok (.goto 12, 3) := by decide +kernel
theorem dX13_flip_68 : decode cX13_flip 68 = .ok (.aload_n 0, 1) := by decide +kernel
theorem dX13_flip_69 : decode cX13_flip 69 = .ok (.getfield 179, 3) := by decide +kernel
theorem dX13_flip_72 : decode cX13_flip 72 = .ok (.iconst 1, 1) := by decide +kernel
theorem dX13_flip_73 : decode cX13_flip 73 = .ok (.isub, 1) := by decide +kernel
theorem dX13_flip_74 : decode cX13_flip 74 = .ok (.iload 4, 2) := by decide +kernel
theorem dX13_flip_76 : decode cX13_flip 76 = .ok (.isub, 1) := by decide +kernel
theorem dX13_flip_77 : decode cX13_flip 77 = .ok (.istore 6, 2) := by decide +kernel
theorem dX13_flip_79 : decode cX13_flip 79 = .ok (.iload_n 2, 1) := by decide +kernel
theorem dX13_flip_80 : decode cX13_flip 80 = .ok (.ifCond .ne 8, 3) := by decide +kernel
theorem dX13_flip_83 : decode cX13_flip 83 = .ok (.iload 5, 2) := by decide +kernel
theorem dX13_flip_85 : decode cX13_flip 85 = .ok (.goto 12, 3) := by decide +kernel
theorem dX13_flip_88 : decode cX13_flip 88 = .ok (.aload_n 0, 1) := by decide +kernel
theorem dX13_flip_89 : decode cX13_flip 89 = .ok (.getfield 183, 3) := by decide +kernel
theorem dX13_flip_92 : decode cX13_flip 92 = .ok (.iconst 1, 1) := by decide +kernel
theorem dX13_flip_93 : decode cX13_flip 93 = .ok (.isub, 1) := by decide +kernel
theorem dX13_flip_94 : decode cX13_flip 94 = .ok (.iload 5, 2) := by decide +kernel
theorem dX13_flip_96 : decode cX13_flip 96 = .ok (.isub, 1) := by decide +kernel
theorem dX13_flip_97 : decode cX13_flip 97 = .ok (.istore 7, 2) := by decide +kernel
theorem dX13_flip_99 : decode cX13_flip 99 = .ok (.aload_n 0, 1) := by decide +kernel
theorem dX13_flip_100 : decode cX13_flip 100 = .ok (.getfield 21, 3) := by decide +kernel
theorem dX13_flip_103 : decode cX13_flip 103 = .ok (.iload_n 3, 1) := by decide +kernel
theorem dX13_flip_104 : decode cX13_flip 104 = .ok (.aload_n 0, 1) := by decide +kernel
theorem dX13_flip_105 : decode cX13_flip 105 = .ok (.iload 4, 2) := by decide +kernel
theorem dX13_flip_107 : decode cX13_flip 107 = .ok (.i2l, 1) := by decide +kernel
theorem dX13_flip_108 : decode cX13_flip 108 = .ok (.iload 5, 2) := by decide +kernel
theorem dX13_flip_110 : decode cX13_flip 110 = .ok (.i2l, 1) := by decide +kernel
theorem dX13_flip_111 : decode cX13_flip 111 = .ok (.invokevirtual 195, 3) := by decide +kernel
theorem dX13_flip_114 : decode cX13_flip 114 = .ok (.ifCond .eq 21, 3) := by decide +kernel
theorem dX13_flip_117 : decode cX13_flip 117 = .ok (.aload_n 0, 1) := by decide +kernel
theorem dX13_flip_118 : decode cX13_flip 118 = .ok (.iload_n 1, 1) := by decide +kernel
theorem dX13_flip_119 : decode cX13_flip 119 = .ok (.iload 6, 2) := by decide +kernel
theorem dX13_flip_121 : decode cX13_flip 121 = .ok (.i2l, 1) := by decide +kernel
theorem dX13_flip_122 : decode cX13_flip 122 = .ok (.iload 7, 2) := by decide +kernel
theorem dX13_flip_124 : decode cX13_flip 124 = .ok (.i2l, 1) := by decide +kernel
theorem dX13_flip_125 : decode cX13_flip 125 = .ok (.invokevirtual 224, 3) := by decide +kernel
theorem dX13_flip_128 : decode cX13_flip 128 = .ok (.ifCond .eq 7, 3) := by decide +kernel
theorem dX13_flip_131 : decode cX13_flip 131 = .ok (.iconst 1, 1) := by decide +kernel
theorem dX13_flip_132 : decode cX13_flip 132 = .ok (.goto 4, 3) := by decide +kernel
theorem dX13_flip_135 : decode cX13_flip 135 = .ok (.iconst 0, 1) := by decide +kernel
theorem dX13_flip_136 : decode cX13_flip 136 = .ok (.bastore, 1) := by decide +kernel
theorem dX13_flip_137 : decode cX13_flip 137 = .ok (.iinc 3 1, 3) := by decide +kernel
theorem dX13_flip_140 : decode cX13_flip 140 = .ok (.goto (-101), 3) := by decide +kernel
theorem dX13_flip_143 : decode cX13_flip 143 = .ok (.aload_n 0, 1) := by decide +kernel
theorem dX13_flip_144 : decode cX13_flip 144 = .ok (.iload_n 1, 1) := by decide +kernel
theorem dX13_flip_145 : decode cX13_flip 145 = .ok (.invokevirtual 218, 3) := by decide +kernel
theorem dX13_flip_148 : decode cX13_flip 148 = .ok (.ireturn, 1) := by decide +kernel
theorem dX13_despeckle_0 : decode cX13_despeckle 0 = .ok (.aload_n 0, 1) := by decide +kernel
theorem dX13_despeckle_1 : decode cX13_despeckle 1 = .ok (.iconst 0, 1) := by decide +kernel
theorem dX13_despeckle_2 : decode cX13_despeckle 2 = .ok (.putfield 186, 3) := by decide +kernel
theorem dX13_despeckle_5 : decode cX13_despeckle 5 = .ok (.aload_n 0, 1) := by decide +kernel
theorem dX13_despeckle_6 : decode cX13_despeckle 6 = .ok (.iload_n 1, 1) := by decide +kernel
theorem dX13_despeckle_7 : decode cX13_despeckle 7 = .ok (.invokevirtual 202, 3) := by decide +kernel
theorem dX13_despeckle_10 : decode cX13_despeckle 10 = .ok (.ifCond .ne 9, 3) := by decide +kernel
theorem dX13_despeckle_13 : decode cX13_despeckle 13 = .ok (.aload_n 0, 1) := by decide +kernel
theorem dX13_despeckle_14 : decode cX13_despeckle 14 = .ok (.iconst 1, 1) := by decide +kernel
theorem dX13_despeckle_15 : decode cX13_despeckle 15 = .ok (.invokevirtual 206, 3) := by decide +kernel
theorem dX13_despeckle_18 : decode cX13_despeckle 18 = .ok (.ireturn, 1) := by decide +kernel
theorem dX13_despeckle_19 : decode cX13_despeckle 19 = .ok (.iload_n 2, 1) := by decide +kernel
theorem dX13_despeckle_20 : decode cX13_despeckle 20 = .ok (.i2l, 1) := by decide +kernel
theorem dX13_despeckle_21 : decode cX13_despeckle 21 = .ok (.lconst 0, 1) := by decide +kernel
theorem dX13_despeckle_22 : decode cX13_despeckle 22 = .ok (.ldc2_w 244, 3) := by decide +kernel
theorem dX13_despeckle_25 : decode cX13_despeckle 25 = .ok (.invokestatic 191, 3) := by decide +kernel
theorem dX13_despeckle_28 : decode cX13_despeckle 28 = .ok (.ifCond .ne 9, 3) := by decide +kernel
theorem dX13_despeckle_31 : decode cX13_despeckle 31 = .ok (.aload_n 0, 1) := by decide +kernel
theorem dX13_despeckle_32 : decode cX13_despeckle 32 = .ok (.iconst 2, 1) := by decide +kernel
theorem dX13_despeckle_33 : decode cX13_despeckle 33 = .ok (.invokevirtual 206, 3) := by decide +kernel
theorem dX13_despeckle_36 : decode cX13_despeckle 36 = .ok (.ireturn, 1) := by decide +kernel
theorem dX13_despeckle_37 : decode cX13_despeckle 37 = .ok (.aload_n 0, 1) := by decide +kernel
theorem dX13_despeckle_38 : decode cX13_despeckle 38 = .ok (.iload_n 1, 1) := by decide +kernel
theorem dX13_despeckle_39 : decode cX13_despeckle 39 = .ok (.invokevirtual 214, 3) := by decide +kernel
theorem dX13_despeckle_42 : decode cX13_despeckle 42 = .ok (.aload_n 0, 1) := by decide +kernel
theorem dX13_despeckle_43 : decode cX13_despeckle 43 = .ok (.aload_n 0, 1) := by decide +kernel
theorem dX13_despeckle_44 : decode cX13_despeckle 44 = .ok (.getfield 21, 3) := by decide +kernel
theorem dX13_despeckle_47 : decode cX13_despeckle 47 = .ok (.iload_n 2, 1) := by decide +kernel
theorem dX13_despeckle_48 : decode cX13_despeckle 48 = .ok (.invokevirtual 246, 3) := by decide +kernel
theorem dX13_despeckle_51 : decode cX13_despeckle 51 = .ok (.istore_n 3, 1) := by decide +kernel
theorem dX13_despeckle_52 : decode cX13_despeckle 52 = .ok (.aload_n 0, 1) := by decide +kernel
theorem dX13_despeckle_53 : decode cX13_despeckle 53 = .ok (.iload_n 1, 1) := by decide +kernel
theorem dX13_despeckle_54 : decode cX13_despeckle 54 = .ok (.invokevirtual 218, 3) := by decide +kernel
theorem dX13_despeckle_57 : decode cX13_despeckle 57 = .ok (.pop, 1) := by decide +kernel
theorem dX13_despeckle_58 : decode cX13_despeckle 58 = .ok (.iload_n 3, 1) := by decide +kernel
theorem dX13_despeckle_59 : decode cX13_despeckle 59 = .ok (.ireturn, 1) := by decide +kernel
theorem dX13_cleans_0 : decode cX13_cleans 0 = .ok (.iconst 0, 1) := by decide +kernel
theorem dX13_cleans_1 : decode cX13_cleans 1 = .ok (.istore_n 3, 1) := by decide +kernel
theorem dX13_cleans_2 : decode cX13_cleans 2 = .ok (.iload_n 3, 1) := by decide +kernel
theorem dX13_cleans_3 : decode cX13_cleans 3 = .ok (.sipush 4096, 3) := by decide +kernel
theorem dX13_cleans_6 : decode cX13_cleans 6 = .ok (.if_icmp .ge 16, 3) := by decide +kernel
theorem dX13_cleans_9 : decode cX13_cleans 9 = .ok (.aload_n 0, 1) := by decide +kernel
theorem dX13_cleans_10 : decode cX13_cleans 10 = .ok (.getfield 24, 3) := by decide +kernel
theorem dX13_cleans_13 : decode cX13_cleans 13 = .ok (.iload_n 3, 1) := by decide +kernel
theorem dX13_cleans_14 : decode cX13_cleans 14 = .ok (.iconst 0, 1) := by decide +kernel
theorem dX13_cleans_15 : decode cX13_cleans 15 = .ok (.bastore, 1) := by decide +kernel
theorem dX13_cleans_16 : decode cX13_cleans 16 = .ok (.iinc 3 1, 3) := by decide +kernel
theorem dX13_cleans_19 : decode cX13_cleans 19 = .ok (.goto (-17), 3) := by decide +kernel
theorem dX13_cleans_22 : decode cX13_cleans 22 = .ok (.aload_n 0, 1) := by decide +kernel
theorem dX13_cleans_23 : decode cX13_cleans 23 = .ok (.iconst 0, 1) := by decide +kernel
theorem dX13_cleans_24 : decode cX13_cleans 24 = .ok (.putfield 237, 3) := by decide +kernel
theorem dX13_cleans_27 : decode cX13_cleans 27 = .ok (.iconst 0, 1) := by decide +kernel
theorem dX13_cleans_28 : decode cX13_cleans 28 = .ok (.istore_n 3, 1) := by decide +kernel
theorem dX13_cleans_29 : decode cX13_cleans 29 = .ok (.iconst 0, 1) := by decide +kernel
theorem dX13_cleans_30 : decode cX13_cleans 30 = .ok (.istore 4, 2) := by decide +kernel
theorem dX13_cleans_32 : decode cX13_cleans 32 = .ok (.iload 4, 2) := by decide +kernel
theorem dX13_cleans_34 : decode cX13_cleans 34 = .ok (.sipush 4096, 3) := by decide +kernel
theorem dX13_cleans_37 : decode cX13_cleans 37 = .ok (.if_icmp .ge 98, 3) := by decide +kernel
theorem dX13_cleans_40 : decode cX13_cleans 40 = .ok (.aload_n 1, 1) := by decide +kernel
theorem dX13_cleans_41 : decode cX13_cleans 41 = .ok (.iload 4, 2) := by decide +kernel
theorem dX13_cleans_43 : decode cX13_cleans 43 = .ok (.baload, 1) := by decide +kernel
theorem dX13_cleans_44 : decode cX13_cleans 44 = .ok (.ifCond .eq 23, 3) := by decide +kernel
theorem dX13_cleans_47 : decode cX13_cleans 47 = .ok (.aload_n 0, 1) := by decide +kernel
theorem dX13_cleans_48 : decode cX13_cleans 48 = .ok (.getfield 24, 3) := by decide +kernel
theorem dX13_cleans_51 : decode cX13_cleans 51 = .ok (.iload 4, 2) := by decide +kernel
theorem dX13_cleans_53 : decode cX13_cleans 53 = .ok (.baload, 1) := by decide +kernel
theorem dX13_cleans_54 : decode cX13_cleans 54 = .ok (.ifCond .ne 13, 3) := by decide +kernel
theorem dX13_cleans_57 : decode cX13_cleans 57 = .ok (.aload_n 0, 1) := by decide +kernel
theorem dX13_cleans_58 : decode cX13_cleans 58 = .ok (.aload_n 1, 1) := by decide +kernel
theorem dX13_cleans_59 : decode cX13_cleans 59 = .ok (.iload 4, 2) := by decide +kernel
theorem dX13_cleans_61 : decode cX13_cleans 61 = .ok (.invokevirtual 240, 3) := by decide +kernel
theorem dX13_cleans_64 : decode cX13_cleans 64 = .ok (.goto 4, 3) := by decide +kernel
theorem dX13_cleans_67 : decode cX13_cleans 67 = .ok (.iconst 0, 1) := by decide +kernel
theorem dX13_cleans_68 : decode cX13_cleans 68 = .ok (.istore 5, 2) := by decide +kernel
theorem dX13_cleans_70 : decode cX13_cleans 70 = .ok (.aload_n 0, 1) := by decide +kernel
theorem dX13_cleans_71 : decode cX13_cleans 71 = .ok (.dup, 1) := by decide +kernel
theorem dX13_cleans_72 : decode cX13_cleans 72 = .ok (.getfield 237, 3) := by decide +kernel
theorem dX13_cleans_75 : decode cX13_cleans 75 = .ok (.iload 5, 2) := by decide +kernel
theorem dX13_cleans_77 : decode cX13_cleans 77 = .ok (.ifCond .le 7, 3) := by decide +kernel
theorem dX13_cleans_80 : decode cX13_cleans 80 = .ok (.iconst 1, 1) := by decide +kernel
theorem dX13_cleans_81 : decode cX13_cleans 81 = .ok (.goto 4, 3) := by decide +kernel
theorem dX13_cleans_84 : decode cX13_cleans 84 = .ok (.iconst 0, 1) := by decide +kernel
theorem dX13_cleans_85 : decode cX13_cleans 85 = .ok (.iadd, 1) := by decide +kernel
theorem dX13_cleans_86 : decode cX13_cleans 86 = .ok (.putfield 237, 3) := by decide +kernel
theorem dX13_cleans_89 : decode cX13_cleans 89 = .ok (.iload 5, 2) := by decide +kernel
theorem dX13_cleans_91 : decode cX13_cleans 91 = .ok (.ifCond .le 38, 3) := by decide +kernel
theorem dX13_cleans_94 : decode cX13_cleans 94 = .ok (.iload 5, 2) := by decide +kernel
theorem dX13_cleans_96 : decode cX13_cleans 96 = .ok (.iload_n 2, 1) := by decide +kernel
theorem dX13_cleans_97 : decode cX13_cleans 97 = .ok (.if_icmp .ge 32, 3) := by decide +kernel
theorem dX13_cleans_100 : decode cX13_cleans 100 = .ok (.iinc 3 1, 3) := by decide +kernel
theorem dX13_cleans_103 : decode cX13_cleans 103 = .ok (.iconst 0, 1) := by decide +kernel
theorem dX13_cleans_104 : decode cX13_cleans 104 = .ok (.istore 6, 2) := by decide +kernel
theorem dX13_cleans_106 : decode cX13_cleans 106 = .ok (.iload 6, 2) := by decide +kernel
theorem dX13_cleans_108 : decode cX13_cleans 108 = .ok (.iload 5, 2) := by decide +kernel
theorem dX13_cleans_110 : decode cX13_cleans 110 = .ok (.if_icmp .ge 19, 3) := by decide +kernel
theorem dX13_cleans_113 : decode cX13_cleans 113 = .ok (.aload_n 1, 1) := by decide +kernel
theorem dX13_cleans_114 : decode cX13_cleans 114 = .ok (.aload_n 0, 1) := by decide +kernel
theorem dX13_cleans_115 : decode cX13_cleans 115 = .ok (.getfield 27, 3) := by decide +kernel
theorem dX13_cleans_118 : decode cX13_cleans 118 = .ok (.iload 6, 2) := by decide +kernel
theorem dX13_cleans_120 : decode cX13_cleans 120 = .ok (.iaload, 1) := by decide +kernel
theorem dX13_cleans_121 : decode cX13_cleans 121 = .ok (.iconst 0, 1) := by decide +kernel
theorem dX13_cleans_122 : decode cX13_cleans 122 = .ok (.bastore, 1) := by decide +kernel
theorem dX13_cleans_123 : decode cX13_cleans 123 = .ok (.iinc 6 1, 3) := by decide +kernel
theorem dX13_cleans_126 : decode cX13_cleans 126 = .ok (.goto (-20), 3) := by decide +kernel
theorem dX13_cleans_129 : decode cX13_cleans 129 = .ok (.iinc 4 1, 3) := by decide +kernel
theorem dX13_cleans_132 : decode cX13_cleans 132 = .ok (.goto (-100), 3) := by decide +kernel
theorem dX13_cleans_135 : decode cX13_cleans 135 = .ok (.iload_n 3, 1) := by decide +kernel
theorem dX13_cleans_136 : decode cX13_cleans 136 = .ok (.ireturn, 1) := by decide +kernel
theorem dX13_gathers_0 : decode cX13_gathers 0 = .ok (.aload_n 0, 1) := by decide +kernel
theorem dX13_gathers_1 : decode cX13_gathers 1 = .ok (.iconst 0, 1) := by decide +kernel
theorem dX13_gathers_2 : decode cX13_gathers 2 = .ok (.putfield 230, 3) := by decide +kernel
theorem dX13_gathers_5 : decode cX13_gathers 5 = .ok (.aload_n 0, 1) := by decide +kernel
theorem dX13_gathers_6 : decode cX13_gathers 6 = .ok (.aload_n 1, 1) := by decide +kernel
theorem dX13_gathers_7 : decode cX13_gathers 7 = .ok (.iload_n 2, 1) := by decide +kernel
theorem dX13_gathers_8 : decode cX13_gathers 8 = .ok (.bipush 64, 2) := by decide +kernel
theorem dX13_gathers_10 : decode cX13_gathers 10 = .ok (.irem, 1) := by decide +kernel
theorem dX13_gathers_11 : decode cX13_gathers 11 = .ok (.iload_n 2, 1) := by decide +kernel
theorem dX13_gathers_12 : decode cX13_gathers 12 = .ok (.bipush 64, 2) := by decide +kernel
theorem dX13_gathers_14 : decode cX13_gathers 14 = .ok (.idiv, 1) := by decide +kernel
theorem dX13_gathers_15 : decode cX13_gathers 15 = .ok (.invokevirtual 233, 3) := by decide +kernel
theorem dX13_gathers_18 : decode cX13_gathers 18 = .ok (.iconst 0, 1) := by decide +kernel
theorem dX13_gathers_19 : decode cX13_gathers 19 = .ok (.istore_n 3, 1) := by decide +kernel
theorem dX13_gathers_20 : decode cX13_gathers 20 = .ok (.iload_n 3, 1) := by decide +kernel
theorem dX13_gathers_21 : decode cX13_gathers 21 = .ok (.aload_n 0, 1) := by decide +kernel
theorem dX13_gathers_22 : decode cX13_gathers 22 = .ok (.getfield 230, 3) := by decide +kernel
theorem dX13_gathers_25 : decode cX13_gathers 25 = .ok (.if_icmp .ge 70, 3) := by decide +kernel
theorem dX13_gathers_28 : decode cX13_gathers 28 = .ok (.aload_n 0, 1) := by decide +kernel
theorem dX13_gathers_29 : decode cX13_gathers 29 = .ok (.getfield 27, 3) := by decide +kernel
theorem dX13_gathers_32 : decode cX13_gathers 32 = .ok (.iload_n 3, 1) := by decide +kernel
theorem dX13_gathers_33 : decode cX13_gathers 33 = .ok (.iaload, 1) := by decide +kernel
theorem dX13_gathers_34 : decode cX13_gathers 34 = .ok (.bipush 64, 2) := by decide +kernel
theorem dX13_gathers_36 : decode cX13_gathers 36 = .ok (.irem, 1) := by decide +kernel
theorem dX13_gathers_37 : decode cX13_gathers 37 = .ok (.istore 4, 2) := by decide +kernel
theorem dX13_gathers_39 : decode cX13_gathers 39 = .ok (.aload_n 0, 1) := by decide +kernel
theorem dX13_gathers_40 : decode cX13_gathers 40 = .ok (.getfield 27, 3) := by decide +kernel
theorem dX13_gathers_43 : decode cX13_gathers 43 = .ok (.iload_n 3, 1) := by decide +kernel
theorem dX13_gathers_44 : decode cX13_gathers 44 = .ok (.iaload, 1) := by decide +kernel
theorem dX13_gathers_45 : decode cX13_gathers 45 = .ok (.bipush 64, 2) := by decide +kernel
theorem dX13_gathers_47 : decode cX13_gathers 47 = .ok (.idiv, 1) := by decide +kernel
theorem dX13_gathers_48 : decode cX13_gathers 48 = .ok (.istore 5, 2) := by decide +kernel
theorem dX13_gathers_50 : decode cX13_gathers 50 = .ok (.iconst 0, 1) := by decide +kernel
theorem dX13_gathers_51 : decode cX13_gathers 51 = .ok (.istore 6, 2) := by decide +kernel
theorem dX13_gathers_53 : decode cX13_gathers 53 = .ok (.iload 6, 2) := by decide +kernel
theorem dX13_gathers_55 : decode cX13_gathers 55 = .ok (.bipush 9, 2) := by decide +kernel
theorem dX13_gathers_57 : decode cX13_gathers 57 = .ok (.if_icmp .ge 32, 3) := by decide +kernel
theorem dX13_gathers_60 : decode cX13_gathers 60 = .ok (.aload_n 0, 1) := by decide +kernel
theorem dX13_gathers_61 : decode cX13_gathers 61 = .ok (.aload_n 1, 1) := by decide +kernel
theorem dX13_gathers_62 : decode cX13_gathers 62 = .ok (.iload 4, 2) := by decide +kernel
theorem dX13_gathers_64 : decode cX13_gathers 64 = .ok (.iload 6, 2) := by decide +kernel
theorem dX13_gathers_66 : decode cX13_gathers 66 = .ok (.iconst 3, 1) := by decide +kernel
theorem dX13_gathers_67 : decode cX13_gathers 67 = .ok (.irem, 1) := by decide +kernel
theorem dX13_gathers_68 : decode cX13_gathers 68 = .ok (.iadd, 1) := by decide +kernel
theorem dX13_gathers_69 : decode cX13_gathers 69 = .ok (.iconst 1, 1) := by decide +kernel
theorem dX13_gathers_70 : decode cX13_gathers 70 = .ok (.isub, 1) := by decide +kernel
theorem dX13_gathers_71 : decode cX13_gathers 71 = .ok (.iload 5, 2) := by decide +kernel
theorem dX13_gathers_73 : decode cX13_gathers 73 = .ok (.iload 6, 2) := by decide +kernel
theorem dX13_gathers_75 : decode cX13_gathers 75 = .ok (.iconst 3, 1) := by decide +kernel
theorem dX13_gathers_76 : decode cX13_gathers 76 = .ok (.idiv, 1) := by decide +kernel
theorem dX13_gathers_77 : decode cX13_gathers 77 = .ok (.iadd, 1) := by decide +kernel
theorem dX13_gathers_78 : decode cX13_gathers 78 = .ok (.iconst 1, 1) := by decide +kernel
theorem dX13_gathers_79 : decode cX13_gathers 79 = .ok (.isub, 1) := by decide +kernel
theorem dX13_gathers_80 : decode cX13_gathers 80 = .ok (.invokevirtual 233, 3) := by decide +kernel
theorem dX13_gathers_83 : decode cX13_gathers 83 = .ok (.iinc 6 1, 3) := by decide +kernel
theorem dX13_gathers_86 : decode cX13_gathers 86 = .ok (.goto (-33), 3) := by decide +kernel
theorem dX13_gathers_89 : decode cX13_gathers 89 = .ok (.iinc 3 1, 3) := by decide +kernel
theorem dX13_gathers_92 : decode cX13_gathers 92 = .ok (.goto (-72), 3) := by decide +kernel
theorem dX13_gathers_95 : decode cX13_gathers 95 = .ok (.aload_n 0, 1) := by decide +kernel
theorem dX13_gathers_96 : decode cX13_gathers 96 = .ok (.getfield 230, 3) := by decide +kernel
theorem dX13_gathers_99 : decode cX13_gathers 99 = .ok (.ireturn, 1) := by decide +kernel
theorem dX13_looks_0 : decode cX13_looks 0 = .ok (.bipush 64, 2) := by decide +kernel
theorem dX13_looks_2 : decode cX13_looks 2 = .ok (.iload_n 3, 1) := by decide +kernel
theorem dX13_looks_3 : decode cX13_looks 3 = .ok (.imul, 1) := by decide +kernel
theorem dX13_looks_4 : decode cX13_looks 4 = .ok (.iload_n 2, 1) := by decide +kernel
theorem dX13_looks_5 : decode cX13_looks 5 = .ok (.iadd, 1) := by decide +kernel
theorem dX13_looks_6 : decode cX13_looks 6 = .ok (.istore 4, 2) := by decide +kernel
theorem dX13_looks_8 : decode cX13_looks 8 = .ok (.aload_n 0, 1) := by decide +kernel
theorem dX13_looks_9 : decode cX13_looks 9 = .ok (.iload_n 2, 1) := by decide +kernel
theorem dX13_looks_10 : decode cX13_looks 10 = .ok (.i2l, 1) := by decide +kernel
theorem dX13_looks_11 : decode cX13_looks 11 = .ok (.iload_n 3, 1) := by decide +kernel
theorem dX13_looks_12 : decode cX13_looks 12 = .ok (.i2l, 1) := by decide +kernel
theorem dX13_looks_13 : decode cX13_looks 13 = .ok (.invokevirtual 195, 3) := by decide +kernel
theorem dX13_looks_16 : decode cX13_looks 16 = .ok (.ifCond .eq 49, 3) := by decide +kernel
theorem dX13_looks_19 : decode cX13_looks 19 = .ok (.aload_n 1, 1) := by decide +kernel
theorem dX13_looks_20 : decode cX13_looks 20 = .ok (.iload 4, 2) := by decide +kernel
theorem dX13_looks_22 : decode cX13_looks 22 = .ok (.baload, 1) := by decide +kernel
theorem dX13_looks_23 : decode cX13_looks 23 = .ok (.ifCond .eq 42, 3) := by decide +kernel
theorem dX13_looks_26 : decode cX13_looks 26 = .ok (.aload_n 0, 1) := by decide +kernel
theorem dX13_looks_27 : decode cX13_looks 27 = .ok (.getfield 24, 3) := by decide +kernel
theorem dX13_looks_30 : decode cX13_looks 30 = .ok (.iload 4, 2) := by decide +kernel
theorem dX13_looks_32 : decode cX13_looks 32 = .ok (.baload, 1) := by decide +kernel
theorem dX13_looks_33 : decode cX13_looks 33 = .ok (.ifCond .ne 32, 3) := by decide +kernel
theorem dX13_looks_36 : decode cX13_looks 36 = .ok (.aload_n 0, 1) := by decide +kernel
theorem dX13_looks_37 : decode cX13_looks 37 = .ok (.getfield 24, 3) := by decide +kernel
theorem dX13_looks_40 : decode cX13_looks 40 = .ok (.iload 4, 2) := by decide +kernel
theorem dX13_looks_42 : decode cX13_looks 42 = .ok (.iconst 1, 1) := by decide +kernel
theorem dX13_looks_43 : decode cX13_looks 43 = .ok (.bastore, 1) := by decide +kernel
theorem dX13_looks_44 : decode cX13_looks 44 = .ok (.aload_n 0, 1) := by decide +kernel
theorem dX13_looks_45 : decode cX13_looks 45 = .ok (.getfield 27, 3) := by decide +kernel
theorem dX13_looks_48 : decode cX13_looks 48 = .ok (.aload_n 0, 1) := by decide +kernel
theorem dX13_looks_49 : decode cX13_looks 49 = .ok (.getfield 230, 3) := by decide +kernel
theorem dX13_looks_52 : decode cX13_looks 52 = .ok (.iload 4, 2) := by decide +kernel
theorem dX13_looks_54 : decode cX13_looks 54 = .ok (.iastore, 1) := by decide +kernel
theorem dX13_looks_55 : decode cX13_looks 55 = .ok (.aload_n 0, 1) := by decide +kernel
theorem dX13_looks_56 : decode cX13_looks 56 = .ok (.dup, 1) := by decide +kernel
theorem dX13_looks_57 : decode cX13_looks 57 = .ok (.getfield 230, 3) := by decide +kernel
theorem dX13_looks_60 : decode cX13_looks 60 = .ok (.iconst 1, 1) := by decide +kernel
theorem dX13_looks_61 : decode cX13_looks 61 = .ok (.iadd, 1) := by decide +kernel
theorem dX13_looks_62 : decode cX13_looks 62 = .ok (.putfield 230, 3) := by decide +kernel
theorem dX13_looks_65 : decode cX13_looks 65 = .ok (.return_, 1) := by decide +kernel
theorem dX13_components_0 : decode cX13_components 0 = .ok (.aload_n 0, 1) := by decide +kernel
theorem dX13_components_1 : decode cX13_components 1 = .ok (.iconst 0, 1) := by decide +kernel
theorem dX13_components_2 : decode cX13_components 2 = .ok (.putfield 186, 3) := by decide +kernel
theorem dX13_components_5 : decode cX13_components 5 = .ok (.aload_n 0, 1) := by decide +kernel
theorem dX13_components_6 : decode cX13_components 6 = .ok (.iload_n 1, 1) := by decide +kernel
theorem dX13_components_7 : decode cX13_components 7 = .ok (.invokevirtual 202, 3) := by decide +kernel
theorem dX13_components_10 : decode cX13_components 10 = .ok (.ifCond .ne 9, 3) := by decide +kernel
theorem dX13_components_13 : decode cX13_components 13 = .ok (.aload_n 0, 1) := by decide +kernel
theorem dX13_components_14 : decode cX13_components 14 = .ok (.iconst 1, 1) := by decide +kernel
theorem dX13_components_15 : decode cX13_components 15 = .ok (.invokevirtual 206, 3) := by decide +kernel
theorem dX13_components_18 : decode cX13_components 18 = .ok (.ireturn, 1) := by decide +kernel
theorem dX13_components_19 : decode cX13_components 19 = .ok (.aload_n 0, 1) := by decide +kernel
theorem dX13_components_20 : decode cX13_components 20 = .ok (.iload_n 1, 1) := by decide +kernel
theorem dX13_components_21 : decode cX13_components 21 = .ok (.invokevirtual 214, 3) := by decide +kernel
theorem dX13_components_24 : decode cX13_components 24 = .ok (.aload_n 0, 1) := by decide +kernel
theorem dX13_components_25 : decode cX13_components 25 = .ok (.aload_n 0, 1) := by decide +kernel
theorem dX13_components_26 : decode cX13_components 26 = .ok (.getfield 21, 3) := by decide +kernel
theorem dX13_components_29 : decode cX13_components 29 = .ok (.iconst 0, 1) := by decide +kernel
theorem dX13_components_30 : decode cX13_components 30 = .ok (.invokevirtual 246, 3) := by decide +kernel
theorem dX13_components_33 : decode cX13_components 33 = .ok (.pop, 1) := by decide +kernel
theorem dX13_components_34 : decode cX13_components 34 = .ok (.aload_n 0, 1) := by decide +kernel
theorem dX13_components_35 : decode cX13_components 35 = .ok (.getfield 237, 3) := by decide +kernel
theorem dX13_components_38 : decode cX13_components 38 = .ok (.ireturn, 1) := by decide +kernel
theorem dX13_lines_0 : decode cX13_lines 0 = .ok (.aload_n 0, 1) := by decide +kernel
theorem dX13_lines_1 : decode cX13_lines 1 = .ok (.iconst 0, 1) := by decide +kernel
theorem dX13_lines_2 : decode cX13_lines 2 = .ok (.putfield 186, 3) := by decide +kernel
theorem dX13_lines_5 : decode cX13_lines 5 = .ok (.aload_n 0, 1) := by decide +kernel
theorem dX13_lines_6 : decode cX13_lines 6 = .ok (.iload_n 1, 1) := by decide +kernel
theorem dX13_lines_7 : decode cX13_lines 7 = .ok (.invokevirtual 202, 3) := by decide +kernel
theorem dX13_lines_10 : decode cX13_lines 10 = .ok (.ifCond .ne 9, 3) := by decide +kernel
theorem dX13_lines_13 : decode cX13_lines 13 = .ok (.aload_n 0, 1) := by decide +kernel
theorem dX13_lines_14 : decode cX13_lines 14 = .ok (.iconst 1, 1) := by decide +kernel
theorem dX13_lines_15 : decode cX13_lines 15 = .ok (.invokevirtual 206, 3) := by decide +kernel
theorem dX13_lines_18 : decode cX13_lines 18 = .ok (.ireturn, 1) := by decide +kernel
theorem dX13_lines_19 : decode cX13_lines 19 = .ok (.aload_n 0, 1) := by decide +kernel
theorem dX13_lines_20 : decode cX13_lines 20 = .ok (.aload_n 0, 1) := by decide +kernel
theorem dX13_lines_21 : decode cX13_lines 21 = .ok (.getfield 7, 3) := by decide +kernel
theorem dX13_lines_24 : decode cX13_lines 24 = .ok (.sipush 4096, 3) := by decide +kernel
theorem dX13_lines_27 : decode cX13_lines 27 = .ok (.iload_n 1, 1) := by decide +kernel
theorem dX13_lines_28 : decode cX13_lines 28 = .ok (.imul, 1) := by decide +kernel
theorem dX13_lines_29 : decode cX13_lines 29 = .ok (.aload_n 0, 1) := by decide +kernel
theorem dX13_lines_30 : decode cX13_lines 30 = .ok (.getfield 183, 3) := by decide +kernel
theorem dX13_lines_33 : decode cX13_lines 33 = .ok (.iconst 1, 1) := by decide +kernel
theorem dX13_lines_34 : decode cX13_lines 34 = .ok (.isub, 1) := by decide +kernel
theorem dX13_lines_35 : decode cX13_lines 35 = .ok (.invokevirtual 253, 3) := by decide +kernel
theorem dX13_lines_38 : decode cX13_lines 38 = .ok (.ireturn, 1) := by decide +kernel
theorem dX13_linesTo_0 : decode cX13_linesTo 0 = .ok (.iconst 0, 1) := by decide +kernel
theorem dX13_linesTo_1 : decode cX13_linesTo 1 = .ok (.istore 4, 2) := by decide +kernel
theorem dX13_linesTo_3 : decode cX13_linesTo 3 = .ok (.iconst 0, 1) := by decide +kernel
theorem dX13_linesTo_4 : decode cX13_linesTo 4 = .ok (.istore 5, 2) := by decide +kernel
theorem dX13_linesTo_6 : decode cX13_linesTo 6 = .ok (.iload 5, 2) := by decide +kernel
theorem dX13_linesTo_8 : decode cX13_linesTo 8 = .ok (.iload_n 3, 1) := by decide +kernel
theorem dX13_linesTo_9 : decode cX13_linesTo 9 = .ok (.if_icmp .gt 43, 3) := by decide +kernel
theorem dX13_linesTo_12 : decode cX13_linesTo 12 = .ok (.iload 4, 2) := by decide +kernel
theorem dX13_linesTo_14 : decode cX13_linesTo 14 = .ok (.aload_n 0, 1) := by decide +kernel
theorem dX13_linesTo_15 : decode cX13_linesTo 15 = .ok (.aload_n 1, 1) := by decide +kernel
theorem dX13_linesTo_16 : decode cX13_linesTo 16 = .ok (.iload_n 2, 1) := by decide +kernel
theorem dX13_linesTo_17 : decode cX13_linesTo 17 = .ok (.iload 5, 2) := by decide +kernel
theorem dX13_linesTo_19 : decode cX13_linesTo 19 = .ok (.invokevirtual 249, 3) := by decide +kernel
theorem dX13_linesTo_22 : decode cX13_linesTo 22 = .ok (.ifCond .eq 20, 3) := by decide +kernel
theorem dX13_linesTo_25 : decode cX13_linesTo 25 = .ok (.aload_n 0, 1) := by decide +kernel
theorem dX13_linesTo_26 : decode cX13_linesTo 26 = .ok (.aload_n 1, 1) := by decide +kernel
theorem dX13_linesTo_27 : decode cX13_linesTo 27 = .ok (.iload_n 2, 1) := by decide +kernel
theorem dX13_linesTo_28 : decode cX13_linesTo 28 = .ok (.iload 5, 2) := by decide +kernel
theorem dX13_linesTo_30 : decode cX13_linesTo 30 = .ok (.iconst 1, 1) := by decide +kernel
theorem dX13_linesTo_31 : decode cX13_linesTo 31 = .ok (.isub, 1) := by decide +kernel
theorem dX13_linesTo_32 : decode cX13_linesTo 32 = .ok (.invokevirtual 249, 3) := by decide +kernel
theorem dX13_linesTo_35 : decode cX13_linesTo 35 = .ok (.ifCond .ne 7, 3) := by decide +kernel
theorem dX13_linesTo_38 : decode cX13_linesTo 38 = .ok (.iconst 1, 1) := by decide +kernel
theorem dX13_linesTo_39 : decode cX13_linesTo 39 = .ok (.goto 4, 3) := by decide +kernel
theorem dX13_linesTo_42 : decode cX13_linesTo 42 = .ok (.iconst 0, 1) := by decide +kernel
theorem dX13_linesTo_43 : decode cX13_linesTo 43 = .ok (.iadd, 1) := by decide +kernel
theorem dX13_linesTo_44 : decode cX13_linesTo 44 = .ok (.istore 4, 2) := by decide +kernel
theorem dX13_linesTo_46 : decode cX13_linesTo 46 = .ok (.iinc 5 1, 3) := by decide +kernel
theorem dX13_linesTo_49 : decode cX13_linesTo 49 = .ok (.goto (-43), 3) := by decide +kernel
theorem dX13_linesTo_52 : decode cX13_linesTo 52 = .ok (.iload 4, 2) := by decide +kernel
theorem dX13_linesTo_54 : decode cX13_linesTo 54 = .ok (.ireturn, 1) := by decide +kernel
theorem dX13_hasInk_0 : decode cX13_hasInk 0 = .ok (.iconst 0, 1) := by decide +kernel
theorem dX13_hasInk_1 : decode cX13_hasInk 1 = .ok (.istore 4, 2) := by decide +kernel
theorem dX13_hasInk_3 : decode cX13_hasInk 3 = .ok (.iconst 0, 1) := by decide +kernel
theorem dX13_hasInk_4 : decode cX13_hasInk 4 = .ok (.istore 5, 2) := by decide +kernel
theorem dX13_hasInk_6 : decode cX13_hasInk 6 = .ok (.iload 5, 2) := by decide +kernel
theorem dX13_hasInk_8 : decode cX13_hasInk 8 = .ok (.aload_n 0, 1) := by decide +kernel
theorem dX13_hasInk_9 : decode cX13_hasInk 9 = .ok (.getfield 179, 3) := by decide +kernel
theorem dX13_hasInk_12 : decode cX13_hasInk 12 = .ok (.if_icmp .ge 51, 3) := by decide +kernel
theorem dX13_hasInk_15 : decode cX13_hasInk 15 = .ok (.iload_n 3, 1) := by decide +kernel
theorem dX13_hasInk_16 : decode cX13_hasInk 16 = .ok (.i2l, 1) := by decide +kernel
theorem dX13_hasInk_17 : decode cX13_hasInk 17 = .ok (.lconst 0, 1) := by decide +kernel
theorem dX13_hasInk_18 : decode cX13_hasInk 18 = .ok (.aload_n 0, 1) := by decide +kernel
theorem dX13_hasInk_19 : decode cX13_hasInk 19 = .ok (.getfield 183, 3) := by decide +kernel
theorem dX13_hasInk_22 : decode cX13_hasInk 22 = .ok (.iconst 1, 1) := by decide +kernel
theorem dX13_hasInk_23 : decode cX13_hasInk 23 = .ok (.isub, 1) := by decide +kernel
theorem dX13_hasInk_24 : decode cX13_hasInk 24 = .ok (.i2l, 1) := by decide +kernel
theorem dX13_hasInk_25 : decode cX13_hasInk 25 = .ok (.invokestatic 191, 3) := by decide +kernel
theorem dX13_hasInk_28 : decode cX13_hasInk 28 = .ok (.ifCond .eq 35, 3) := by decide +kernel
theorem dX13_hasInk_31 : decode cX13_hasInk 31 = .ok (.iload 4, 2) := by decide +kernel
theorem dX13_hasInk_33 : decode cX13_hasInk 33 = .ok (.ifCond .ne 17, 3) := by decide +kernel
theorem dX13_hasInk_36 : decode cX13_hasInk 36 = .ok (.aload_n 1, 1) := by decide +kernel
theorem dX13_hasInk_37 : decode cX13_hasInk 37 = .ok (.iload_n 2, 1) := by decide +kernel
theorem dX13_hasInk_38 : decode cX13_hasInk 38 = .ok (.bipush 64, 2) := by decide +kernel
theorem dX13_hasInk_40 : decode cX13_hasInk 40 = .ok (.iload_n 3, 1) := by decide +kernel
theorem dX13_hasInk_41 : decode cX13_hasInk 41 = .ok (.imul, 1) := by decide +kernel
theorem dX13_hasInk_42 : decode cX13_hasInk 42 = .ok (.iadd, 1) := by decide +kernel
theorem dX13_hasInk_43 : decode cX13_hasInk 43 = .ok (.iload 5, 2) := by decide +kernel
theorem dX13_hasInk_45 : decode cX13_hasInk 45 = .ok (.iadd, 1) := by decide +kernel
theorem dX13_hasInk_46 : decode cX13_hasInk 46 = .ok (.baload, 1) := by decide +kernel
theorem dX13_hasInk_47 : decode cX13_hasInk 47 = .ok (.ifCond .eq 7, 3) := by decide +kernel
theorem dX13_hasInk_50 : decode cX13_hasInk 50 = .ok (.iconst 1, 1) := by decide +kernel
theorem dX13_hasInk_51 : decode cX13_hasInk 51 = .ok (.goto 4, 3) := by decide +kernel
theorem dX13_hasInk_54 : decode cX13_hasInk 54 = .ok (.iconst 0, 1) := by decide +kernel
theorem dX13_hasInk_55 : decode cX13_hasInk 55 = .ok (.istore 4, 2) := by decide +kernel
theorem dX13_hasInk_57 : decode cX13_hasInk 57 = .ok (.iinc 5 1, 3) := by decide +kernel
theorem dX13_hasInk_60 : decode cX13_hasInk 60 = .ok (.goto (-54), 3) := by decide +kernel
theorem dX13_hasInk_63 : decode cX13_hasInk 63 = .ok (.iload 4, 2) := by decide +kernel
theorem dX13_hasInk_65 : decode cX13_hasInk 65 = .ok (.ireturn, 1) := by decide +kernel
theorem dX13_lineTop_0 : decode cX13_lineTop 0 = .ok (.aload_n 0, 1) := by decide +kernel
theorem dX13_lineTop_1 : decode cX13_lineTop 1 = .ok (.iconst 0, 1) := by decide +kernel
theorem dX13_lineTop_2 : decode cX13_lineTop 2 = .ok (.putfield 186, 3) := by decide +kernel
theorem dX13_lineTop_5 : decode cX13_lineTop 5 = .ok (.aload_n 0, 1) := by decide +kernel
theorem dX13_lineTop_6 : decode cX13_lineTop 6 = .ok (.iload_n 1, 1) := by decide +kernel
theorem dX13_lineTop_7 : decode cX13_lineTop 7 = .ok (.invokevirtual 202, 3) := by decide +kernel
theorem dX13_lineTop_10 : decode cX13_lineTop 10 = .ok (.ifCond .eq 12, 3) := by decide +kernel
theorem dX13_lineTop_13 : decode cX13_lineTop 13 = .ok (.aload_n 0, 1) := by decide +kernel
theorem dX13_lineTop_14 : decode cX13_lineTop 14 = .ok (.iload_n 1, 1) := by decide +kernel
theorem dX13_lineTop_15 : decode cX13_lineTop 15 = .ok (.iload_n 2, 1) := by decide +kernel
theorem dX13_lineTop_16 : decode cX13_lineTop 16 = .ok (.invokevirtual 257, 3) := by decide +kernel
theorem dX13_lineTop_19 : decode cX13_lineTop 19 = .ok (.goto 4, 3) := by decide +kernel
theorem dX13_lineTop_22 : decode cX13_lineTop 22 = .ok (.iconst (-1), 1) := by decide +kernel
theorem dX13_lineTop_23 : decode cX13_lineTop 23 = .ok (.istore_n 3, 1) := by decide +kernel
theorem dX13_lineTop_24 : decode cX13_lineTop 24 = .ok (.iload_n 3, 1) := by decide +kernel
theorem dX13_lineTop_25 : decode cX13_lineTop 25 = .ok (.ifCond .ge 11, 3) := by decide +kernel
theorem dX13_lineTop_28 : decode cX13_lineTop 28 = .ok (.aload_n 0, 1) := by decide +kernel
theorem dX13_lineTop_29 : decode cX13_lineTop 29 = .ok (.iconst 1, 1) := by decide +kernel
theorem dX13_lineTop_30 : decode cX13_lineTop 30 = .ok (.invokevirtual 206, 3) := by decide +kernel
theorem dX13_lineTop_33 : decode cX13_lineTop 33 = .ok (.goto 4, 3) := by decide +kernel
theorem dX13_lineTop_36 : decode cX13_lineTop 36 = .ok (.iload_n 3, 1) := by decide +kernel
theorem dX13_lineTop_37 : decode cX13_lineTop 37 = .ok (.ireturn, 1) := by decide +kernel
theorem dX13_topOf_0 : decode cX13_topOf 0 = .ok (.iconst 0, 1) := by decide +kernel
theorem dX13_topOf_1 : decode cX13_topOf 1 = .ok (.istore_n 3, 1) := by decide +kernel
theorem dX13_topOf_2 : decode cX13_topOf 2 = .ok (.iconst 0, 1) := by decide +kernel
theorem dX13_topOf_3 : decode cX13_topOf 3 = .ok (.istore 4, 2) := by decide +kernel
theorem dX13_topOf_5 : decode cX13_topOf 5 = .ok (.iload 4, 2) := by decide +kernel
theorem dX13_topOf_7 : decode cX13_topOf 7 = .ok (.aload_n 0, 1) := by decide +kernel
theorem dX13_topOf_8 : decode cX13_topOf 8 = .ok (.getfield 183, 3) := by decide +kernel
theorem dX13_topOf_11 : decode cX13_topOf 11 = .ok (.if_icmp .ge 58, 3) := by decide +kernel
theorem dX13_topOf_14 : decode cX13_topOf 14 = .ok (.aload_n 0, 1) := by decide +kernel
theorem dX13_topOf_15 : decode cX13_topOf 15 = .ok (.aload_n 0, 1) := by decide +kernel
theorem dX13_topOf_16 : decode cX13_topOf 16 = .ok (.getfield 7, 3) := by decide +kernel
theorem dX13_topOf_19 : decode cX13_topOf 19 = .ok (.sipush 4096, 3) := by decide +kernel
theorem dX13_topOf_22 : decode cX13_topOf 22 = .ok (.iload_n 1, 1) := by decide +kernel
theorem dX13_topOf_23 : decode cX13_topOf 23 = .ok (.imul, 1) := by decide +kernel
theorem dX13_topOf_24 : decode cX13_topOf 24 = .ok (.iload 4, 2) := by decide +kernel
theorem dX13_topOf_26 : decode cX13_topOf 26 = .ok (.invokevirtual 249, 3) := by decide +kernel
theorem dX13_topOf_29 : decode cX13_topOf 29 = .ok (.ifCond .eq 34, 3) := by decide +kernel
theorem dX13_topOf_32 : decode cX13_topOf 32 = .ok (.aload_n 0, 1) := by decide +kernel
theorem dX13_topOf_33 : decode cX13_topOf 33 = .ok (.aload_n 0, 1) := by decide +kernel
theorem dX13_topOf_34 : decode cX13_topOf 34 = .ok (.getfield 7, 3) := by decide +kernel
theorem dX13_topOf_37 : decode cX13_topOf 37 = .ok (.sipush 4096, 3) := by decide +kernel
theorem dX13_topOf_40 : decode cX13_topOf 40 = .ok (.iload_n 1, 1) := by decide +kernel
theorem dX13_topOf_41 : decode cX13_topOf 41 = .ok (.imul, 1) := by decide +kernel
theorem dX13_topOf_42 : decode cX13_topOf 42 = .ok (.iload 4, 2) := by decide +kernel
theorem dX13_topOf_44 : decode cX13_topOf 44 = .ok (.iconst 1, 1) := by decide +kernel
theorem dX13_topOf_45 : decode cX13_topOf 45 = .ok (.isub, 1) := by decide +kernel
theorem dX13_topOf_46 : decode cX13_topOf 46 = .ok (.invokevirtual 249, 3) := by decide +kernel
theorem dX13_topOf_49 : decode cX13_topOf 49 = .ok (.ifCond .ne 14, 3) := by decide +kernel
theorem dX13_topOf_52 : decode cX13_topOf 52 = .ok (.iload_n 3, 1) := by decide +kernel
theorem dX13_topOf_53 : decode cX13_topOf 53 = .ok (.iload_n 2, 1) := by decide +kernel
theorem dX13_topOf_54 : decode cX13_topOf 54 = .ok (.if_icmp .ne 6, 3) := by decide +kernel
theorem dX13_topOf_57 : decode cX13_topOf 57 = .ok (.iload 4, 2) := by decide +kernel
theorem dX13_topOf_59 : decode cX13_topOf 59 = .ok (.ireturn, 1) := by decide +kernel
theorem dX13_topOf_60 : decode cX13_topOf 60 = .ok (.iinc 3 1, 3) := by decide +kernel
theorem dX13_topOf_63 : decode cX13_topOf 63 = .ok (.iinc 4 1, 3) := by decide +kernel
theorem dX13_topOf_66 : decode cX13_topOf 66 = .ok (.goto (-61), 3) := by decide +kernel
theorem dX13_topOf_69 : decode cX13_topOf 69 = .ok (.iconst (-1), 1) := by decide +kernel
theorem dX13_topOf_70 : decode cX13_topOf 70 = .ok (.ireturn, 1) := by decide +kernel
theorem dX13_lineBottom_0 : decode cX13_lineBottom 0 = .ok (.aload_n 0, 1) := by decide +kernel
theorem dX13_lineBottom_1 : decode cX13_lineBottom 1 = .ok (.iconst 0, 1) := by decide +kernel
theorem dX13_lineBottom_2 : decode cX13_lineBottom 2 = .ok (.putfield 186, 3) := by decide +kernel
theorem dX13_lineBottom_5 : decode cX13_lineBottom 5 = .ok (.aload_n 0, 1) := by decide +kernel
theorem dX13_lineBottom_6 : decode cX13_lineBottom 6 = .ok (.iload_n 1, 1) := by decide +kernel
theorem dX13_lineBottom_7 : decode cX13_lineBottom 7 = .ok (.invokevirtual 202, 3) := by decide +kernel
theorem dX13_lineBottom_10 : decode cX13_lineBottom 10 = .ok (.ifCond .eq 12, 3) := by decide +kernel
theorem dX13_lineBottom_13 : decode cX13_lineBottom 13 = .ok (.aload_n 0, 1) := by decide +kernel
theorem dX13_lineBottom_14 : decode cX13_lineBottom 14 = .ok (.iload_n 1, 1) := by decide +kernel
theorem dX13_lineBottom_15 : decode cX13_lineBottom 15 = .ok (.iload_n 2, 1) := by decide +kernel
theorem dX13_lineBottom_16 : decode cX13_lineBottom 16 = .ok (.invokevirtual 257, 3) := by decide +kernel
theorem dX13_lineBottom_19 : decode cX13_lineBottom 19 = .ok (.goto 4, 3) := by decide +kernel
theorem dX13_lineBottom_22 : decode cX13_lineBottom 22 = .ok (.iconst (-1), 1) := by decide +kernel
theorem dX13_lineBottom_23 : decode cX13_lineBottom 23 = .ok (.istore_n 3, 1) := by decide +kernel
theorem dX13_lineBottom_24 : decode cX13_lineBottom 24 = .ok (.iload_n 3, 1) := by decide +kernel
theorem dX13_lineBottom_25 : decode cX13_lineBottom 25 = .ok (.ifCond .ge 11, 3) := by decide +kernel
theorem dX13_lineBottom_28 : decode cX13_lineBottom 28 = .ok (.aload_n 0, 1) := by decide +kernel
theorem dX13_lineBottom_29 : decode cX13_lineBottom 29 = .ok (.iconst 1, 1) := by decide +kernel
theorem dX13_lineBottom_30 : decode cX13_lineBottom 30 = .ok (.invokevirtual 206, 3) := by decide +kernel
theorem dX13_lineBottom_33 : decode cX13_lineBottom 33 = .ok (.goto 9, 3) := by decide +kernel
theorem dX13_lineBottom_36 : decode cX13_lineBottom 36 = .ok (.aload_n 0, 1) := by decide +kernel
theorem dX13_lineBottom_37 : decode cX13_lineBottom 37 = .ok (.iload_n 1, 1) := by decide +kernel
theorem dX13_lineBottom_38 : decode cX13_lineBottom 38 = .ok (.iload_n 3, 1) := by decide +kernel
theorem dX13_lineBottom_39 : decode cX13_lineBottom 39 = .ok (.invokevirtual 261, 3) := by decide +kernel
theorem dX13_lineBottom_42 : decode cX13_lineBottom 42 = .ok (.ireturn, 1) := by decide +kernel
theorem dX13_bottomOf_0 : decode cX13_bottomOf 0 = .ok (.iload_n 2, 1) := by decide +kernel
theorem dX13_bottomOf_1 : decode cX13_bottomOf 1 = .ok (.istore_n 3, 1) := by decide +kernel
theorem dX13_bottomOf_2 : decode cX13_bottomOf 2 = .ok (.aload_n 0, 1) := by decide +kernel
theorem dX13_bottomOf_3 : decode cX13_bottomOf 3 = .ok (.aload_n 0, 1) := by decide +kernel
theorem dX13_bottomOf_4 : decode cX13_bottomOf 4 = .ok (.getfield 7, 3) := by decide +kernel
theorem dX13_bottomOf_7 : decode cX13_bottomOf 7 = .ok (.sipush 4096, 3) := by decide +kernel
theorem dX13_bottomOf_10 : decode cX13_bottomOf 10 = .ok (.iload_n 1, 1) := by decide +kernel
theorem dX13_bottomOf_11 : decode cX13_bottomOf 11 = .ok (.imul, 1) := by decide +kernel
theorem dX13_bottomOf_12 : decode cX13_bottomOf 12 = .ok (.iload_n 3, 1) := by decide +kernel
theorem dX13_bottomOf_13 : decode cX13_bottomOf 13 = .ok (.iconst 1, 1) := by decide +kernel
theorem dX13_bottomOf_14 : decode cX13_bottomOf 14 = .ok (.iadd, 1) := by decide +kernel
theorem dX13_bottomOf_15 : decode cX13_bottomOf 15 = .ok (.invokevirtual 249, 3) := by decide +kernel
theorem dX13_bottomOf_18 : decode cX13_bottomOf 18 = .ok (.ifCond .eq 9, 3) := by decide +kernel
theorem dX13_bottomOf_21 : decode cX13_bottomOf 21 = .ok (.iinc 3 1, 3) := by decide +kernel
theorem dX13_bottomOf_24 : decode cX13_bottomOf 24 = .ok (.goto (-22), 3) := by decide +kernel
theorem dX13_bottomOf_27 : decode cX13_bottomOf 27 = .ok (.iload_n 3, 1) := by decide +kernel
theorem dX13_bottomOf_28 : decode cX13_bottomOf 28 = .ok (.ireturn, 1) := by decide +kernel
theorem dX13_words_0 : decode cX13_words 0 = .ok (.aload_n 0, 1) := by decide +kernel
theorem dX13_words_1 : decode cX13_words 1 = .ok (.iconst 0, 1) := by decide +kernel
theorem dX13_words_2 : decode cX13_words 2 = .ok (.putfield 186, 3) := by decide +kernel
theorem dX13_words_5 : decode cX13_words 5 = .ok (.aload_n 0, 1) := by decide +kernel
theorem dX13_words_6 : decode cX13_words 6 = .ok (.iload_n 1, 1) := by decide +kernel
theorem dX13_words_7 : decode cX13_words 7 = .ok (.invokevirtual 202, 3) := by decide +kernel
theorem dX13_words_10 : decode cX13_words 10 = .ok (.ifCond .eq 12, 3) := by decide +kernel
theorem dX13_words_13 : decode cX13_words 13 = .ok (.aload_n 0, 1) := by decide +kernel
theorem dX13_words_14 : decode cX13_words 14 = .ok (.iload_n 1, 1) := by decide +kernel
theorem dX13_words_15 : decode cX13_words 15 = .ok (.iload_n 2, 1) := by decide +kernel
theorem dX13_words_16 : decode cX13_words 16 = .ok (.invokevirtual 257, 3) := by decide +kernel
theorem dX13_words_19 : decode cX13_words 19 = .ok (.goto 4, 3) := by decide +kernel
theorem dX13_words_22 : decode cX13_words 22 = .ok (.iconst (-1), 1) := by decide +kernel
theorem dX13_words_23 : decode cX13_words 23 = .ok (.istore 4, 2) := by decide +kernel
theorem dX13_words_25 : decode cX13_words 25 = .ok (.iload 4, 2) := by decide +kernel
theorem dX13_words_27 : decode cX13_words 27 = .ok (.ifCond .ge 9, 3) := by decide +kernel
theorem dX13_words_30 : decode cX13_words 30 = .ok (.aload_n 0, 1) := by decide +kernel
theorem dX13_words_31 : decode cX13_words 31 = .ok (.iconst 1, 1) := by decide +kernel
theorem dX13_words_32 : decode cX13_words 32 = .ok (.invokevirtual 206, 3) := by decide +kernel
theorem dX13_words_35 : decode cX13_words 35 = .ok (.ireturn, 1) := by decide +kernel
theorem dX13_words_36 : decode cX13_words 36 = .ok (.iload_n 3, 1) := by decide +kernel
theorem dX13_words_37 : decode cX13_words 37 = .ok (.i2l, 1) := by decide +kernel
theorem dX13_words_38 : decode cX13_words 38 = .ok (.lconst 1, 1) := by decide +kernel
theorem dX13_words_39 : decode cX13_words 39 = .ok (.ldc2_w 244, 3) := by decide +kernel
theorem dX13_words_42 : decode cX13_words 42 = .ok (.invokestatic 191, 3) := by decide +kernel
theorem dX13_words_45 : decode cX13_words 45 = .ok (.ifCond .ne 9, 3) := by decide +kernel
theorem dX13_words_48 : decode cX13_words 48 = .ok (.aload_n 0, 1) := by decide +kernel
theorem dX13_words_49 : decode cX13_words 49 = .ok (.iconst 2, 1) := by decide +kernel
theorem dX13_words_50 : decode cX13_words 50 = .ok (.invokevirtual 206, 3) := by decide +kernel
theorem dX13_words_53 : decode cX13_words 53 = .ok (.ireturn, 1) := by decide +kernel
theorem dX13_words_54 : decode cX13_words 54 = .ok (.aload_n 0, 1) := by decide +kernel
theorem dX13_words_55 : decode cX13_words 55 = .ok (.iload_n 1, 1) := by decide +kernel
theorem dX13_words_56 : decode cX13_words 56 = .ok (.iload 4, 2) := by decide +kernel
theorem dX13_words_58 : decode cX13_words 58 = .ok (.invokevirtual 261, 3) := by decide +kernel
theorem dX13_words_61 : decode cX13_words 61 = .ok (.istore 5, 2) := by decide +kernel
theorem dX13_words_63 : decode cX13_words 63 = .ok (.iconst 0, 1) := by decide +kernel
theorem dX13_words_64 : decode cX13_words 64 = .ok (.istore 6, 2) := by decide +kernel
theorem dX13_words_66 : decode cX13_words 66 = .ok (.sipush (-1000), 3) := by decide +kernel
theorem dX13_words_69 : decode cX13_words 69 = .ok (.istore 7, 2) := by decide +kernel
theorem dX13_words_71 : decode cX13_words 71 = .ok (.iconst 0, 1) := by decide +kernel
theorem dX13_words_72 : decode cX13_words 72 = .ok (.istore 8, 2) := by decide +kernel
theorem dX13_words_74 : decode cX13_words 74 = .ok (.iload 8, 2) := by decide +kernel
theorem dX13_words_76 : decode cX13_words 76 = .ok (.aload_n 0, 1) := by decide +kernel
theorem dX13_words_77 : decode cX13_words 77 = .ok (.getfield 179, 3) := by decide +kernel
theorem dX13_words_80 : decode cX13_words 80 = .ok (.if_icmp .ge 85, 3) := by decide +kernel
theorem dX13_words_83 : decode cX13_words 83 = .ok (.iconst 0, 1) := by decide +kernel
theorem dX13_words_84 : decode cX13_words 84 = .ok (.istore 9, 2) := by decide +kernel
theorem dX13_words_86 : decode cX13_words 86 = .ok (.iload 4, 2) := by decide +kernel
theorem dX13_words_88 : decode cX13_words 88 = .ok (.istore 10, 2) := by decide +kernel
theorem dX13_words_90 : decode cX13_words 90 = .ok (.iload 10, 2) := by decide +kernel
theorem dX13_words_92 : decode cX13_words 92 = .ok (.iload 5, 2) := by decide +kernel
theorem dX13_words_94 : decode cX13_words 94 = .ok (.if_icmp .gt 35, 3) := by decide +kernel
theorem dX13_words_97 : decode cX13_words 97 = .ok (.iload 9, 2) := by decide +kernel
theorem dX13_words_99 : decode cX13_words 99 = .ok (.ifCond .ne 17, 3) := by decide +kernel
theorem dX13_words_102 : decode cX13_words 102 = .ok (.aload_n 0, 1) := by decide +kernel
theorem dX13_words_103 : decode cX13_words 103 = .ok (.iload_n 1, 1) := by decide +kernel
theorem dX13_words_104 : decode cX13_words 104 = .ok (.iload 8, 2) := by decide +kernel
theorem dX13_words_106 : decode cX13_words 106 = .ok (.i2l, 1) := by decide +kernel
theorem dX13_words_107 : decode cX13_words 107 = .ok (.iload 10, 2) := by decide +kernel
theorem dX13_words_109 : decode cX13_words 109 = .ok (.i2l, 1) := by decide +kernel
theorem dX13_words_110 : decode cX13_words 110 = .ok (.invokevirtual 224, 3) := by decide +kernel
theorem dX13_words_113 : decode cX13_words 113 = .ok (.ifCond .eq 7, 3) := by decide +kernel
theorem dX13_words_116 : decode cX13_words 116 = .ok (.iconst 1, 1) := by decide +kernel
theorem dX13_words_117 : decode cX13_words 117 = .ok (.goto 4, 3) := by decide +kernel
theorem dX13_words_120 : decode cX13_words 120 = .ok (.iconst 0, 1) := by decide +kernel
theorem dX13_words_121 : decode cX13_words 121 = .ok (.istore 9, 2) := by decide +kernel
theorem dX13_words_123 : decode cX13_words 123 = .ok (.iinc 10 1, 3) := by decide +kernel
theorem dX13_words_126 : decode cX13_words 126 = .ok (.goto (-36), 3) := by decide +kernel
theorem dX13_words_129 : decode cX13_words 129 = .ok (.iload 9, 2) := by decide +kernel
theorem dX13_words_131 : decode cX13_words 131 = .ok (.ifCond .eq 28, 3) := by decide +kernel
theorem dX13_words_134 : decode cX13_words 134 = .ok (.iload 6, 2) := by decide +kernel
theorem dX13_words_136 : decode cX13_words 136 = .ok (.iload 8, 2) := by decide +kernel
theorem dX13_words_138 : decode cX13_words 138 = .ok (.iload 7, 2) := by decide +kernel
theorem dX13_words_140 : decode cX13_words 140 = .ok (.isub, 1) := by decide +kernel
theorem dX13_words_141 : decode cX13_words 141 = .ok (.iconst 1, 1) := by decide +kernel
theorem dX13_words_142 : decode cX13_words 142 = .ok (.isub, 1) := by decide +kernel
theorem dX13_words_143 : decode cX13_words 143 = .ok (.iload_n 3, 1) := by decide +kernel
theorem dX13_words_144 : decode cX13_words 144 = .ok (.if_icmp .ge 7, 3) := by decide +kernel
theorem dX13_words_147 : decode cX13_words 147 = .ok (.iconst 0, 1) := by decide +kernel
theorem dX13_words_148 : decode cX13_words 148 = .ok (.goto 4, 3) := by decide +kernel
theorem dX13_words_151 : decode cX13_words 151 = .ok (.iconst 1, 1) := by decide +kernel
theorem dX13_words_152 : decode cX13_words 152 = .ok (.iadd, 1) := by decide +kernel
theorem dX13_words_153 : decode cX13_words 153 = .ok (.istore 6, 2) := by decide +kernel
theorem dX13_words_155 : decode cX13_words 155 = .ok (.iload 8, 2) := by decide +kernel
theorem dX13_words_157 : decode cX13_words 157 = .ok (.istore 7, 2) := by decide +kernel
theorem dX13_words_159 : decode cX13_words 159 = .ok (.iinc 8 1, 3) := by decide +kernel
theorem dX13_words_162 : decode cX13_words 162 = .ok (.goto (-88), 3) := by decide +kernel
theorem dX13_words_165 : decode cX13_words 165 = .ok (.iload 6, 2) := by decide +kernel
theorem dX13_words_167 : decode cX13_words 167 = .ok (.ireturn, 1) := by decide +kernel
theorem dX13_ink_0 : decode cX13_ink 0 = .ok (.aload_n 0, 1) := by decide +kernel
theorem dX13_ink_1 : decode cX13_ink 1 = .ok (.iconst 0, 1) := by decide +kernel
theorem dX13_ink_2 : decode cX13_ink 2 = .ok (.putfield 186, 3) := by decide +kernel
theorem dX13_ink_5 : decode cX13_ink 5 = .ok (.aload_n 0, 1) := by decide +kernel
theorem dX13_ink_6 : decode cX13_ink 6 = .ok (.iload_n 1, 1) := by decide +kernel
theorem dX13_ink_7 : decode cX13_ink 7 = .ok (.invokevirtual 202, 3) := by decide +kernel
theorem dX13_ink_10 : decode cX13_ink 10 = .ok (.ifCond .ne 9, 3) := by decide +kernel
theorem dX13_ink_13 : decode cX13_ink 13 = .ok (.aload_n 0, 1) := by decide +kernel
theorem dX13_ink_14 : decode cX13_ink 14 = .ok (.iconst 1, 1) := by decide +kernel
theorem dX13_ink_15 : decode cX13_ink 15 = .ok (.invokevirtual 206, 3) := by decide +kernel
theorem dX13_ink_18 : decode cX13_ink 18 = .ok (.ireturn, 1) := by decide +kernel
theorem dX13_ink_19 : decode cX13_ink 19 = .ok (.iload 4, 2) := by decide +kernel
theorem dX13_ink_21 : decode cX13_ink 21 = .ok (.ifCond .lt 8, 3) := by decide +kernel
theorem dX13_ink_24 : decode cX13_ink 24 = .ok (.iload 5, 2) := by decide +kernel
theorem dX13_ink_26 : decode cX13_ink 26 = .ok (.ifCond .ge 9, 3) := by decide +kernel
theorem dX13_ink_29 : decode cX13_ink 29 = .ok (.aload_n 0, 1) := by decide +kernel
theorem dX13_ink_30 : decode cX13_ink 30 = .ok (.iconst 2, 1) := by decide +kernel
theorem dX13_ink_31 : decode cX13_ink 31 = .ok (.invokevirtual 206, 3) := by decide +kernel
theorem dX13_ink_34 : decode cX13_ink 34 = .ok (.ireturn, 1) := by decide +kernel
theorem dX13_ink_35 : decode cX13_ink 35 = .ok (.iconst 0, 1) := by decide +kernel
theorem dX13_ink_36 : decode cX13_ink 36 = .ok (.istore 6, 2) := by decide +kernel
theorem dX13_ink_38 : decode cX13_ink 38 = .ok (.iconst 0, 1) := by decide +kernel
theorem dX13_ink_39 : decode cX13_ink 39 = .ok (.istore 7, 2) := by decide +kernel
theorem dX13_ink_41 : decode cX13_ink 41 = .ok (.iload 7, 2) := by decide +kernel
theorem dX13_ink_43 : decode cX13_ink 43 = .ok (.sipush 4096, 3) := by decide +kernel
theorem dX13_ink_46 : decode cX13_ink 46 = .ok (.if_icmp .ge 49, 3) := by decide +kernel
theorem dX13_ink_49 : decode cX13_ink 49 = .ok (.iload 6, 2) := by decide +kernel
theorem dX13_ink_51 : decode cX13_ink 51 = .ok (.aload_n 0, 1) := by decide +kernel
theorem dX13_ink_52 : decode cX13_ink 52 = .ok (.getfield 7, 3) := by decide +kernel
theorem dX13_ink_55 : decode cX13_ink 55 = .ok (.sipush 4096, 3) := by decide +kernel
theorem dX13_ink_58 : decode cX13_ink 58 = .ok (.iload_n 1, 1) := by decide +kernel
theorem dX13_ink_59 : decode cX13_ink 59 = .ok (.imul, 1) := by decide +kernel
theorem dX13_ink_60 : decode cX13_ink 60 = .ok (.iload 7, 2) := by decide +kernel
theorem dX13_ink_62 : decode cX13_ink 62 = .ok (.iadd, 1) := by decide +kernel
theorem dX13_ink_63 : decode cX13_ink 63 = .ok (.baload, 1) := by decide +kernel
theorem dX13_ink_64 : decode cX13_ink 64 = .ok (.ifCond .eq 21, 3) := by decide +kernel
theorem dX13_ink_67 : decode cX13_ink 67 = .ok (.iload 7, 2) := by decide +kernel
theorem dX13_ink_69 : decode cX13_ink 69 = .ok (.iload_n 2, 1) := by decide +kernel
theorem dX13_ink_70 : decode cX13_ink 70 = .ok (.iload_n 3, 1) := by decide +kernel
theorem dX13_ink_71 : decode cX13_ink 71 = .ok (.iload 4, 2) := by decide +kernel
theorem dX13_ink_73 : decode cX13_ink 73 = .ok (.iload 5, 2) := by decide +kernel
theorem dX13_ink_75 : decode cX13_ink 75 = .ok (.invokestatic 220, 3) := by decide +kernel
theorem dX13_ink_78 : decode cX13_ink 78 = .ok (.ifCond .eq 7, 3) := by decide +kernel
theorem dX13_ink_81 : decode cX13_ink 81 = .ok (.iconst 1, 1) := by decide +kernel
theorem dX13_ink_82 : decode cX13_ink 82 = .ok (.goto 4, 3) := by decide +kernel
theorem dX13_ink_85 : decode cX13_ink 85 = .ok (.iconst 0, 1) := by decide +kernel
theorem dX13_ink_86 : decode cX13_ink 86 = .ok (.iadd, 1) := by decide +kernel
theorem dX13_ink_87 : decode cX13_ink 87 = .ok (.istore 6, 2) := by decide +kernel
theorem dX13_ink_89 : decode cX13_ink 89 = .ok (.iinc 7 1, 3) := by decide +kernel
theorem dX13_ink_92 : decode cX13_ink 92 = .ok (.goto (-51), 3) := by decide +kernel
theorem dX13_ink_95 : decode cX13_ink 95 = .ok (.iload 6, 2) := by decide +kernel
theorem dX13_ink_97 : decode cX13_ink 97 = .ok (.ireturn, 1) := by decide +kernel
theorem dX13_fingerprint_0 : decode cX13_fingerprint 0 = .ok (.aload_n 0, 1) := by decide +kernel
theorem dX13_fingerprint_1 : decode cX13_fingerprint 1 = .ok (.iconst 0, 1) := by decide +kernel
theorem dX13_fingerprint_2 : decode cX13_fingerprint 2 = .ok (.putfield 186, 3) := by decide +kernel
theorem dX13_fingerprint_5 : decode cX13_fingerprint 5 = .ok (.aload_n 0, 1) := by decide +kernel
theorem dX13_fingerprint_6 : decode cX13_fingerprint 6 = .ok (.iload_n 1, 1) := by decide +kernel
theorem dX13_fingerprint_7 : decode cX13_fingerprint 7 = .ok (.invokevirtual 202, 3) := by decide +kernel
theorem dX13_fingerprint_10 : decode cX13_fingerprint 10 = .ok (.ifCond .ne 10, 3) := by decide +kernel
theorem dX13_fingerprint_13 : decode cX13_fingerprint 13 = .ok (.aload_n 0, 1) := by decide +kernel
theorem dX13_fingerprint_14 : decode cX13_fingerprint 14 = .ok (.iconst 1, 1) := by decide +kernel
theorem dX13_fingerprint_15 : decode cX13_fingerprint 15 = .ok (.invokevirtual 206, 3) := by decide +kernel
theorem dX13_fingerprint_18 : decode cX13_fingerprint 18 = .ok (.i2l, 1) := by decide +kernel
theorem dX13_fingerprint_19 : decode cX13_fingerprint 19 = .ok (.lreturn, 1) := by decide +kernel
theorem dX13_fingerprint_20 : decode cX13_fingerprint 20 = .ok (.ldc2_w 264, 3) := by decide +kernel
theorem dX13_fingerprint_23 : decode cX13_fingerprint 23 = .ok (.ldc2_w 266, 3) := by decide +kernel
theorem dX13_fingerprint_26 : decode cX13_fingerprint 26 = .ok (.aload_n 0, 1) := by decide +kernel
theorem dX13_fingerprint_27 : decode cX13_fingerprint 27 = .ok (.getfield 179, 3) := by decide +kernel
theorem dX13_fingerprint_30 : decode cX13_fingerprint 30 = .ok (.i2l, 1) := by decide +kernel
theorem dX13_fingerprint_31 : decode cX13_fingerprint 31 = .ok (.ladd, 1) := by decide +kernel
theorem dX13_fingerprint_32 : decode cX13_fingerprint 32 = .ok (.lmul, 1) := by decide +kernel
theorem dX13_fingerprint_33 : decode cX13_fingerprint 33 = .ok (.aload_n 0, 1) := by decide +kernel
theorem dX13_fingerprint_34 : decode cX13_fingerprint 34 = .ok (.getfield 183, 3) := by decide +kernel
theorem dX13_fingerprint_37 : decode cX13_fingerprint 37 = .ok (.i2l, 1) := by decide +kernel
theorem dX13_fingerprint_38 : decode cX13_fingerprint 38 = .ok (.ladd, 1) := by decide +kernel
theorem dX13_fingerprint_39 : decode cX13_fingerprint 39 = .ok (.lstore_n 2, 1) := by decide +kernel
theorem dX13_fingerprint_40 : decode cX13_fingerprint 40 = .ok (.iconst 0, 1) := by decide +kernel
theorem dX13_fingerprint_41 : decode cX13_fingerprint 41 = .ok (.istore 4, 2) := by decide +kernel
theorem dX13_fingerprint_43 : decode cX13_fingerprint 43 = .ok (.iload 4, 2) := by decide +kernel
theorem dX13_fingerprint_45 : decode cX13_fingerprint 45 = .ok (.aload_n 0, 1) := by decide +kernel
theorem dX13_fingerprint_46 : decode cX13_fingerprint 46 = .ok (.getfield 183, 3) := by decide +kernel
theorem dX13_fingerprint_49 : decode cX13_fingerprint 49 = .ok (.if_icmp .ge 23, 3) := by decide +kernel
theorem dX13_fingerprint_52 : decode cX13_fingerprint 52 = .ok (.ldc2_w 264, 3) := by decide +kernel
theorem dX13_fingerprint_55 : decode cX13_fingerprint 55 = .ok (.lload_n 2, 1) := by decide +kernel
theorem dX13_fingerprint_56 : decode cX13_fingerprint 56 = .ok (.lmul, 1) := by decide +kernel
theorem dX13_fingerprint_57 : decode cX13_fingerprint 57 = .ok (.aload_n 0, 1) := by decide +kernel
theorem dX13_fingerprint_58 : decode cX13_fingerprint 58 = .ok (.iload_n 1, 1) := by decide +kernel
theorem dX13_fingerprint_59 : decode cX13_fingerprint 59 = .ok (.iload 4, 2) := by decide +kernel
theorem dX13_fingerprint_61 : decode cX13_fingerprint 61 = .ok (.invokevirtual 210, 3) := by decide +kernel
theorem dX13_fingerprint_64 : decode cX13_fingerprint 64 = .ok (.ladd, 1) := by decide +kernel
theorem dX13_fingerprint_65 : decode cX13_fingerprint 65 = .ok (.lstore_n 2, 1) := by decide +kernel
theorem dX13_fingerprint_66 : decode cX13_fingerprint 66 = .ok (.iinc 4 1, 3) := by decide +kernel
theorem dX13_fingerprint_69 : decode cX13_fingerprint 69 = .ok (.goto (-26), 3) := by decide +kernel
theorem dX13_fingerprint_72 : decode cX13_fingerprint 72 = .ok (.lload_n 2, 1) := by decide +kernel
theorem dX13_fingerprint_73 : decode cX13_fingerprint 73 = .ok (.lreturn, 1) := by decide +kernel
theorem dX13_undo_0 : decode cX13_undo 0 = .ok (.aload_n 0, 1) := by decide +kernel
theorem dX13_undo_1 : decode cX13_undo 1 = .ok (.iconst 0, 1) := by decide +kernel
theorem dX13_undo_2 : decode cX13_undo 2 = .ok (.putfield 186, 3) := by decide +kernel
theorem dX13_undo_5 : decode cX13_undo 5 = .ok (.aload_n 0, 1) := by decide +kernel
theorem dX13_undo_6 : decode cX13_undo 6 = .ok (.getfield 199, 3) := by decide +kernel
theorem dX13_undo_9 : decode cX13_undo 9 = .ok (.ifCond .ne 9, 3) := by decide +kernel
theorem dX13_undo_12 : decode cX13_undo 12 = .ok (.aload_n 0, 1) := by decide +kernel
theorem dX13_undo_13 : decode cX13_undo 13 = .ok (.iconst 1, 1) := by decide +kernel
theorem dX13_undo_14 : decode cX13_undo 14 = .ok (.invokevirtual 206, 3) := by decide +kernel
theorem dX13_undo_17 : decode cX13_undo 17 = .ok (.ireturn, 1) := by decide +kernel
theorem dX13_undo_18 : decode cX13_undo 18 = .ok (.aload_n 0, 1) := by decide +kernel
theorem dX13_undo_19 : decode cX13_undo 19 = .ok (.dup, 1) := by decide +kernel
theorem dX13_undo_20 : decode cX13_undo 20 = .ok (.getfield 199, 3) := by decide +kernel
theorem dX13_undo_23 : decode cX13_undo 23 = .ok (.iconst 1, 1) := by decide +kernel
theorem dX13_undo_24 : decode cX13_undo 24 = .ok (.isub, 1) := by decide +kernel
theorem dX13_undo_25 : decode cX13_undo 25 = .ok (.putfield 199, 3) := by decide +kernel
theorem dX13_undo_28 : decode cX13_undo 28 = .ok (.iconst 0, 1) := by decide +kernel
theorem dX13_undo_29 : decode cX13_undo 29 = .ok (.istore_n 1, 1) := by decide +kernel
theorem dX13_undo_30 : decode cX13_undo 30 = .ok (.iload_n 1, 1) := by decide +kernel
theorem dX13_undo_31 : decode cX13_undo 31 = .ok (.sipush 4096, 3) := by decide +kernel
theorem dX13_undo_34 : decode cX13_undo 34 = .ok (.if_icmp .ge 44, 3) := by decide +kernel
theorem dX13_undo_37 : decode cX13_undo 37 = .ok (.aload_n 0, 1) := by decide +kernel
theorem dX13_undo_38 : decode cX13_undo 38 = .ok (.getfield 7, 3) := by decide +kernel
theorem dX13_undo_41 : decode cX13_undo 41 = .ok (.sipush 4096, 3) := by decide +kernel
theorem dX13_undo_44 : decode cX13_undo 44 = .ok (.aload_n 0, 1) := by decide +kernel
theorem dX13_undo_45 : decode cX13_undo 45 = .ok (.getfield 17, 3) := by decide +kernel
theorem dX13_undo_48 : decode cX13_undo 48 = .ok (.aload_n 0, 1) := by decide +kernel
theorem dX13_undo_49 : decode cX13_undo 49 = .ok (.getfield 199, 3) := by decide +kernel
theorem dX13_undo_52 : decode cX13_undo 52 = .ok (.iaload, 1) := by decide +kernel
theorem dX13_undo_53 : decode cX13_undo 53 = .ok (.imul, 1) := by decide +kernel
theorem dX13_undo_54 : decode cX13_undo 54 = .ok (.iload_n 1, 1) := by decide +kernel
theorem dX13_undo_55 : decode cX13_undo 55 = .ok (.iadd, 1) := by decide +kernel
theorem dX13_undo_56 : decode cX13_undo 56 = .ok (.aload_n 0, 1) := by decide +kernel
theorem dX13_undo_57 : decode cX13_undo 57 = .ok (.getfield 14, 3) := by decide +kernel
theorem dX13_undo_60 : decode cX13_undo 60 = .ok (.sipush 4096, 3) := by decide +kernel
theorem dX13_undo_63 : decode cX13_undo 63 = .ok (.aload_n 0, 1) := by decide +kernel
theorem dX13_undo_64 : decode cX13_undo 64 = .ok (.getfield 199, 3) := by decide +kernel
theorem dX13_undo_67 : decode cX13_undo 67 = .ok (.imul, 1) := by decide +kernel
theorem dX13_undo_68 : decode cX13_undo 68 = .ok (.iload_n 1, 1) := by decide +kernel
theorem dX13_undo_69 : decode cX13_undo 69 = .ok (.iadd, 1) := by decide +kernel
theorem dX13_undo_70 : decode cX13_undo 70 = .ok (.baload, 1) := by decide +kernel
theorem dX13_undo_71 : decode cX13_undo 71 = .ok (.bastore, 1) := by decide +kernel
theorem dX13_undo_72 : decode cX13_undo 72 = .ok (.iinc 1 1, 3) := by decide +kernel
theorem dX13_undo_75 : decode cX13_undo 75 = .ok (.goto (-45), 3) := by decide +kernel
theorem dX13_undo_78 : decode cX13_undo 78 = .ok (.aload_n 0, 1) := by decide +kernel
theorem dX13_undo_79 : decode cX13_undo 79 = .ok (.getfield 199, 3) := by decide +kernel
theorem dX13_undo_82 : decode cX13_undo 82 = .ok (.ireturn, 1) := by decide +kernel
theorem dX13_type_0 : decode cX13_type 0 = .ok (.aload_n 0, 1) := by decide +kernel
theorem dX13_type_1 : decode cX13_type 1 = .ok (.iconst 0, 1) := by decide +kernel
theorem dX13_type_2 : decode cX13_type 2 = .ok (.putfield 186, 3) := by decide +kernel
theorem dX13_type_5 : decode cX13_type 5 = .ok (.iload_n 1, 1) := by decide +kernel
theorem dX13_type_6 : decode cX13_type 6 = .ok (.i2l, 1) := by decide +kernel
theorem dX13_type_7 : decode cX13_type 7 = .ok (.ldc2_w 268, 3) := by decide +kernel
theorem dX13_type_10 : decode cX13_type 10 = .ok (.ldc2_w 270, 3) := by decide +kernel
theorem dX13_type_13 : decode cX13_type 13 = .ok (.invokestatic 191, 3) := by decide +kernel
theorem dX13_type_16 : decode cX13_type 16 = .ok (.ifCond .ne 9, 3) := by decide +kernel
theorem dX13_type_19 : decode cX13_type 19 = .ok (.aload_n 0, 1) := by decide +kernel
theorem dX13_type_20 : decode cX13_type 20 = .ok (.iconst 1, 1) := by decide +kernel
theorem dX13_type_21 : decode cX13_type 21 = .ok (.invokevirtual 206, 3) := by decide +kernel
theorem dX13_type_24 : decode cX13_type 24 = .ok (.ireturn, 1) := by decide +kernel
theorem dX13_type_25 : decode cX13_type 25 = .ok (.aload_n 0, 1) := by decide +kernel
theorem dX13_type_26 : decode cX13_type 26 = .ok (.getfield 272, 3) := by decide +kernel
theorem dX13_type_29 : decode cX13_type 29 = .ok (.bipush 80, 2) := by decide +kernel
theorem dX13_type_31 : decode cX13_type 31 = .ok (.if_icmp .ne 9, 3) := by decide +kernel
theorem dX13_type_34 : decode cX13_type 34 = .ok (.aload_n 0, 1) := by decide +kernel
theorem dX13_type_35 : decode cX13_type 35 = .ok (.iconst 2, 1) := by decide +kernel
theorem dX13_type_36 : decode cX13_type 36 = .ok (.invokevirtual 206, 3) := by decide +kernel
theorem dX13_type_39 : decode cX13_type 39 = .ok (.ireturn, 1) := by decide +kernel
theorem dX13_type_40 : decode cX13_type 40 = .ok (.aload_n 0, 1) := by decide +kernel
theorem dX13_type_41 : decode cX13_type 41 = .ok (.getfield 30, 3) := by decide +kernel
theorem dX13_type_44 : decode cX13_type 44 = .ok (.aload_n 0, 1) := by decide +kernel
theorem dX13_type_45 : decode cX13_type 45 = .ok (.getfield 272, 3) := by decide +kernel
theorem dX13_type_48 : decode cX13_type 48 = .ok (.iload_n 1, 1) := by decide +kernel
theorem dX13_type_49 : decode cX13_type 49 = .ok (.iastore, 1) := by decide +kernel
theorem dX13_type_50 : decode cX13_type 50 = .ok (.aload_n 0, 1) := by decide +kernel
theorem dX13_type_51 : decode cX13_type 51 = .ok (.dup, 1) := by decide +kernel
theorem dX13_type_52 : decode cX13_type 52 = .ok (.getfield 272, 3) := by decide +kernel
theorem dX13_type_55 : decode cX13_type 55 = .ok (.iconst 1, 1) := by decide +kernel
theorem dX13_type_56 : decode cX13_type 56 = .ok (.iadd, 1) := by decide +kernel
theorem dX13_type_57 : decode cX13_type 57 = .ok (.putfield 272, 3) := by decide +kernel
theorem dX13_type_60 : decode cX13_type 60 = .ok (.aload_n 0, 1) := by decide +kernel
theorem dX13_type_61 : decode cX13_type 61 = .ok (.getfield 272, 3) := by decide +kernel
theorem dX13_type_64 : decode cX13_type 64 = .ok (.ireturn, 1) := by decide +kernel
theorem dX13_clearText_0 : decode cX13_clearText 0 = .ok (.aload_n 0, 1) := by decide +kernel
theorem dX13_clearText_1 : decode cX13_clearText 1 = .ok (.iconst 0, 1) := by decide +kernel
theorem dX13_clearText_2 : decode cX13_clearText 2 = .ok (.putfield 186, 3) := by decide +kernel
theorem dX13_clearText_5 : decode cX13_clearText 5 = .ok (.aload_n 0, 1) := by decide +kernel
theorem dX13_clearText_6 : decode cX13_clearText 6 = .ok (.getfield 272, 3) := by decide +kernel
theorem dX13_clearText_9 : decode cX13_clearText 9 = .ok (.istore_n 1, 1) := by decide +kernel
theorem dX13_clearText_10 : decode cX13_clearText 10 = .ok (.aload_n 0, 1) := by decide +kernel
theorem dX13_clearText_11 : decode cX13_clearText 11 = .ok (.iconst 0, 1) := by decide +kernel
theorem dX13_clearText_12 : decode cX13_clearText 12 = .ok (.putfield 272, 3) := by decide +kernel
theorem dX13_clearText_15 : decode cX13_clearText 15 = .ok (.iload_n 1, 1) := by decide +kernel
theorem dX13_clearText_16 : decode cX13_clearText 16 = .ok (.ireturn, 1) := by decide +kernel
theorem dX13_configure_0 : decode cX13_configure 0 = .ok (.aload_n 0, 1) := by decide +kernel
theorem dX13_configure_1 : decode cX13_configure 1 = .ok (.iconst 0, 1) := by decide +kernel
theorem dX13_configure_2 : decode cX13_configure 2 = .ok (.putfield 186, 3) := by decide +kernel
theorem dX13_configure_5 : decode cX13_configure 5 = .ok (.aload_n 0, 1) := by decide +kernel
theorem dX13_configure_6 : decode cX13_configure 6 = .ok (.invokevirtual 309, 3) := by decide +kernel
theorem dX13_configure_9 : decode cX13_configure 9 = .ok (.istore_n 1, 1) := by decide +kernel
theorem dX13_configure_10 : decode cX13_configure 10 = .ok (.iload_n 1, 1) := by decide +kernel
theorem dX13_configure_11 : decode cX13_configure 11 = .ok (.ifCond .lt 7, 3) := by decide +kernel
theorem dX13_configure_14 : decode cX13_configure 14 = .ok (.iconst (-1), 1) := by decide +kernel
theorem dX13_configure_15 : decode cX13_configure 15 = .ok (.iload_n 1, 1) := by decide +kernel
theorem dX13_configure_16 : decode cX13_configure 16 = .ok (.isub, 1) := by decide +kernel
theorem dX13_configure_17 : decode cX13_configure 17 = .ok (.ireturn, 1) := by decide +kernel
theorem dX13_configure_18 : decode cX13_configure 18 = .ok (.iconst 0, 1) := by decide +kernel
theorem dX13_configure_19 : decode cX13_configure 19 = .ok (.istore_n 2, 1) := by decide +kernel
theorem dX13_configure_20 : decode cX13_configure 20 = .ok (.iload_n 2, 1) := by decide +kernel
theorem dX13_configure_21 : decode cX13_configure 21 = .ok (.aload_n 0, 1) := by decide +kernel
theorem dX13_configure_22 : decode cX13_configure 22 = .ok (.getfield 296, 3) := by decide +kernel
theorem dX13_configure_25 : decode cX13_configure 25 = .ok (.if_icmp .ge 64, 3) := by decide +kernel
theorem dX13_configure_28 : decode cX13_configure 28 = .ok (.aload_n 0, 1) := by decide +kernel
theorem dX13_configure_29 : decode cX13_configure 29 = .ok (.getfield 33, 3) := by decide +kernel
theorem dX13_configure_32 : decode cX13_configure 32 = .ok (.aload_n 0, 1) := by decide +kernel
theorem dX13_configure_33 : decode cX13_configure 33 = .ok (.getfield 52, 3) := by decide +kernel
theorem dX13_configure_36 : decode cX13_configure 36 = .ok (.iload_n 2, 1) := by decide +kernel
theorem dX13_configure_37 : decode cX13_configure 37 = .ok (.iaload, 1) := by decide +kernel
theorem dX13_configure_38 : decode cX13_configure 38 = .ok (.aload_n 0, 1) := by decide +kernel
theorem dX13_configure_39 : decode cX13_configure 39 = .ok (.getfield 55, 3) := by decide +kernel
theorem dX13_configure_42 : decode cX13_configure 42 = .ok (.iload_n 2, 1) := by decide +kernel
theorem dX13_configure_43 : decode cX13_configure 43 = .ok (.iaload, 1) := by decide +kernel
theorem dX13_configure_44 : decode cX13_configure 44 = .ok (.iastore, 1) := by decide +kernel
theorem dX13_configure_45 : decode cX13_configure 45 = .ok (.aload_n 0, 1) := by decide +kernel
theorem dX13_configure_46 : decode cX13_configure 46 = .ok (.aload_n 0, 1) := by decide +kernel
theorem dX13_configure_47 : decode cX13_configure 47 = .ok (.getfield 52, 3) := by decide +kernel
theorem dX13_configure_50 : decode cX13_configure 50 = .ok (.iload_n 2, 1) := by decide +kernel
theorem dX13_configure_51 : decode cX13_configure 51 = .ok (.iaload, 1) := by decide +kernel
theorem dX13_configure_52 : decode cX13_configure 52 = .ok (.invokevirtual 313, 3) := by decide +kernel
theorem dX13_configure_55 : decode cX13_configure 55 = .ok (.ifCond .ne 28, 3) := by decide +kernel
theorem dX13_configure_58 : decode cX13_configure 58 = .ok (.aload_n 0, 1) := by decide +kernel
theorem dX13_configure_59 : decode cX13_configure 59 = .ok (.getfield 36, 3) := by decide +kernel
theorem dX13_configure_62 : decode cX13_configure 62 = .ok (.aload_n 0, 1) := by decide +kernel
theorem dX13_configure_63 : decode cX13_configure 63 = .ok (.getfield 306, 3) := by decide +kernel
theorem dX13_configure_66 : decode cX13_configure 66 = .ok (.aload_n 0, 1) := by decide +kernel
theorem dX13_configure_67 : decode cX13_configure 67 = .ok (.getfield 52, 3) := by decide +kernel
theorem dX13_configure_70 : decode cX13_configure 70 = .ok (.iload_n 2, 1) := by decide +kernel
theorem dX13_configure_71 : decode cX13_configure 71 = .ok (.iaload, 1) := by decide +kernel
theorem dX13_configure_72 : decode cX13_configure 72 = .ok (.iastore, 1) := by decide +kernel
theorem dX13_configure_73 : decode cX13_configure 73 = .ok (.aload_n 0, 1) := by decide +kernel
theorem dX13_configure_74 : decode cX13_configure 74 = .ok (.dup, 1) := by decide +kernel
theorem dX13_configure_75 : decode cX13_configure 75 = .ok (.getfield 306, 3) := by decide +kernel
theorem dX13_configure_78 : decode cX13_configure 78 = .ok (.iconst 1, 1) := by decide +kernel
theorem dX13_configure_79 : decode cX13_configure 79 = .ok (.iadd, 1) := by decide +kernel
theorem dX13_configure_80 : decode cX13_configure 80 = .ok (.putfield 306, 3) := by decide +kernel
theorem dX13_configure_83 : decode cX13_configure 83 = .ok (.iinc 2 1, 3) := by decide +kernel
theorem dX13_configure_86 : decode cX13_configure 86 = .ok (.goto (-66), 3) := by decide +kernel
theorem dX13_configure_89 : decode cX13_configure 89 = .ok (.aload_n 0, 1) := by decide +kernel
theorem dX13_configure_90 : decode cX13_configure 90 = .ok (.iconst 0, 1) := by decide +kernel
theorem dX13_configure_91 : decode cX13_configure 91 = .ok (.putfield 272, 3) := by decide +kernel
theorem dX13_configure_94 : decode cX13_configure 94 = .ok (.aload_n 0, 1) := by decide +kernel
theorem dX13_configure_95 : decode cX13_configure 95 = .ok (.getfield 296, 3) := by decide +kernel
theorem dX13_configure_98 : decode cX13_configure 98 = .ok (.ireturn, 1) := by decide +kernel
theorem dX13_readsSettings_0 : decode cX13_readsSettings 0 = .ok (.aload_n 0, 1) := by decide +kernel
theorem dX13_readsSettings_1 : decode cX13_readsSettings 1 = .ok (.iconst 0, 1) := by decide +kernel
theorem dX13_readsSettings_2 : decode cX13_readsSettings 2 = .ok (.putfield 296, 3) := by decide +kernel
theorem dX13_readsSettings_5 : decode cX13_readsSettings 5 = .ok (.iconst 0, 1) := by decide +kernel
theorem dX13_readsSettings_6 : decode cX13_readsSettings 6 = .ok (.istore_n 1, 1) := by decide +kernel
theorem dX13_readsSettings_7 : decode cX13_readsSettings 7 = .ok (.iload_n 1, 1) := by decide +kernel
theorem dX13_readsSettings_8 : decode cX13_readsSettings 8 = .ok (.aload_n 0, 1) := by decide +kernel
theorem dX13_readsSettings_9 : decode cX13_readsSettings 9 = .ok (.getfield 272, 3) := by decide +kernel
theorem dX13_readsSettings_12 : decode cX13_readsSettings 12 = .ok (.if_icmp .gt 178, 3) := by decide +kernel
theorem dX13_readsSettings_15 : decode cX13_readsSettings 15 = .ok (.aload_n 0, 1) := by decide +kernel
theorem dX13_readsSettings_16 : decode cX13_readsSettings 16 = .ok (.getfield 272, 3) := by decide +kernel
theorem dX13_readsSettings_19 : decode cX13_readsSettings 19 = .ok (.ifCond .le 171, 3) := by decide +kernel
theorem dX13_readsSettings_22 : decode cX13_readsSettings 22 = .ok (.iload_n 1, 1) := by decide +kernel
theorem dX13_readsSettings_23 : decode cX13_readsSettings 23 = .ok (.istore_n 2, 1) := by decide +kernel
theorem dX13_readsSettings_24 : decode cX13_readsSettings 24 = .ok (.aload_n 0, 1) := by decide +kernel
theorem dX13_readsSettings_25 : decode cX13_readsSettings 25 = .ok (.iload_n 2, 1) := by decide +kernel
theorem dX13_readsSettings_26 : decode cX13_readsSettings 26 = .ok (.invokevirtual 299, 3) := by decide +kernel
theorem dX13_readsSettings_29 : decode cX13_readsSettings 29 = .ok (.ifCond .eq 9, 3) := by decide +kernel
theorem dX13_readsSettings_32 : decode cX13_readsSettings 32 = .ok (.iinc 2 1, 3) := by decide +kernel
theorem dX13_readsSettings_35 : decode cX13_readsSettings 35 = .ok (.goto (-11), 3) := by decide +kernel
theorem dX13_readsSettings_38 : decode cX13_readsSettings 38 = .ok (.iload_n 2, 1) := by decide +kernel
theorem dX13_readsSettings_39 : decode cX13_readsSettings 39 = .ok (.iload_n 1, 1) := by decide +kernel
theorem dX13_readsSettings_40 : decode cX13_readsSettings 40 = .ok (.if_icmp .le 16, 3) := by decide +kernel
theorem dX13_readsSettings_43 : decode cX13_readsSettings 43 = .ok (.aload_n 0, 1) := by decide +kernel
theorem dX13_readsSettings_44 : decode cX13_readsSettings 44 = .ok (.aload_n 0, 1) := by decide +kernel
theorem dX13_readsSettings_45 : decode cX13_readsSettings 45 = .ok (.getfield 39, 3) := by decide +kernel
theorem dX13_readsSettings_48 : decode cX13_readsSettings 48 = .ok (.iload_n 1, 1) := by decide +kernel
theorem dX13_readsSettings_49 : decode cX13_readsSettings 49 = .ok (.iload_n 2, 1) := by decide +kernel
theorem dX13_readsSettings_50 : decode cX13_readsSettings 50 = .ok (.invokevirtual 289, 3) := by decide +kernel
theorem dX13_readsSettings_53 : decode cX13_readsSettings 53 = .ok (.goto 4, 3) := by decide +kernel
theorem dX13_readsSettings_56 : decode cX13_readsSettings 56 = .ok (.iconst (-1), 1) := by decide +kernel
theorem dX13_readsSettings_57 : decode cX13_readsSettings 57 = .ok (.istore_n 3, 1) := by decide +kernel
theorem dX13_readsSettings_58 : decode cX13_readsSettings 58 = .ok (.iload_n 3, 1) := by decide +kernel
theorem dX13_readsSettings_59 : decode cX13_readsSettings 59 = .ok (.ifCond .ge 5, 3) := by decide +kernel
theorem dX13_readsSettings_62 : decode cX13_readsSettings 62 = .ok (.iload_n 1, 1) := by decide +kernel
theorem dX13_readsSettings_63 : decode cX13_readsSettings 63 = .ok (.ireturn, 1) := by decide +kernel
theorem dX13_readsSettings_64 : decode cX13_readsSettings 64 = .ok (.aload_n 0, 1) := by decide +kernel
theorem dX13_readsSettings_65 : decode cX13_readsSettings 65 = .ok (.iload_n 2, 1) := by decide +kernel
theorem dX13_readsSettings_66 : decode cX13_readsSettings 66 = .ok (.invokevirtual 275, 3) := by decide +kernel
theorem dX13_readsSettings_69 : decode cX13_readsSettings 69 = .ok (.bipush 61, 2) := by decide +kernel
theorem dX13_readsSettings_71 : decode cX13_readsSettings 71 = .ok (.if_icmp .eq 5, 3) := by decide +kernel
theorem dX13_readsSettings_74 : decode cX13_readsSettings 74 = .ok (.iload_n 2, 1) := by decide +kernel
theorem dX13_readsSettings_75 : decode cX13_readsSettings 75 = .ok (.ireturn, 1) := by decide +kernel
theorem dX13_readsSettings_76 : decode cX13_readsSettings 76 = .ok (.iload_n 2, 1) := by decide +kernel
theorem dX13_readsSettings_77 : decode cX13_readsSettings 77 = .ok (.iconst 1, 1) := by decide +kernel
theorem dX13_readsSettings_78 : decode cX13_readsSettings 78 = .ok (.iadd, 1) := by decide +kernel
theorem dX13_readsSettings_79 : decode cX13_readsSettings 79 = .ok (.istore 4, 2) := by decide +kernel
theorem dX13_readsSettings_81 : decode cX13_readsSettings 81 = .ok (.aload_n 0, 1) := by decide +kernel
theorem dX13_readsSettings_82 : decode cX13_readsSettings 82 = .ok (.iload 4, 2) := by decide +kernel
theorem dX13_readsSettings_84 : decode cX13_readsSettings 84 = .ok (.invokevirtual 299, 3) := by decide +kernel
theorem dX13_readsSettings_87 : decode cX13_readsSettings 87 = .ok (.ifCond .ne 12, 3) := by decide +kernel
theorem dX13_readsSettings_90 : decode cX13_readsSettings 90 = .ok (.aload_n 0, 1) := by decide +kernel
theorem dX13_readsSettings_91 : decode cX13_readsSettings 91 = .ok (.iload 4, 2) := by decide +kernel
theorem dX13_readsSettings_93 : decode cX13_readsSettings 93 = .ok (.invokevirtual 293, 3) := by decide +kernel
theorem dX13_readsSettings_96 : decode cX13_readsSettings 96 = .ok (.ifCond .eq 9, 3) := by decide +kernel
theorem dX13_readsSettings_99 : decode cX13_readsSettings 99 = .ok (.iinc 4 1, 3) := by decide +kernel
theorem dX13_readsSettings_102 : decode cX13_readsSettings 102 = .ok (.goto (-21), 3) := by decide +kernel
theorem dX13_readsSettings_105 : decode cX13_readsSettings 105 = .ok (.aload_n 0, 1) := by decide +kernel
theorem dX13_readsSettings_106 : decode cX13_readsSettings 106 = .ok (.iload_n 3, 1) := by decide +kernel
theorem dX13_readsSettings_107 : decode cX13_readsSettings 107 = .ok (.iload_n 2, 1) := by decide +kernel
theorem dX13_readsSettings_108 : decode cX13_readsSettings 108 = .ok (.iconst 1, 1) := by decide +kernel
theorem dX13_readsSettings_109 : decode cX13_readsSettings 109 = .ok (.iadd, 1) := by decide +kernel
theorem dX13_readsSettings_110 : decode cX13_readsSettings 110 = .ok (.iload 4, 2) := by decide +kernel
theorem dX13_readsSettings_112 : decode cX13_readsSettings 112 = .ok (.invokevirtual 302, 3) := by decide +kernel
theorem dX13_readsSettings_115 : decode cX13_readsSettings 115 = .ok (.istore 5, 2) := by decide +kernel
theorem dX13_readsSettings_117 : decode cX13_readsSettings 117 = .ok (.iload 5, 2) := by decide +kernel
theorem dX13_readsSettings_119 : decode cX13_readsSettings 119 = .ok (.ifCond .ge 7, 3) := by decide +kernel
theorem dX13_readsSettings_122 : decode cX13_readsSettings 122 = .ok (.iload_n 2, 1) := by decide +kernel
theorem dX13_readsSettings_123 : decode cX13_readsSettings 123 = .ok (.iconst 1, 1) := by decide +kernel
theorem dX13_readsSettings_124 : decode cX13_readsSettings 124 = .ok (.iadd, 1) := by decide +kernel
theorem dX13_readsSettings_125 : decode cX13_readsSettings 125 = .ok (.ireturn, 1) := by decide +kernel
theorem dX13_readsSettings_126 : decode cX13_readsSettings 126 = .ok (.aload_n 0, 1) := by decide +kernel
theorem dX13_readsSettings_127 : decode cX13_readsSettings 127 = .ok (.getfield 52, 3) := by decide +kernel
theorem dX13_readsSettings_130 : decode cX13_readsSettings 130 = .ok (.aload_n 0, 1) := by decide +kernel
theorem dX13_readsSettings_131 : decode cX13_readsSettings 131 = .ok (.getfield 296, 3) := by decide +kernel
theorem dX13_readsSettings_134 : decode cX13_readsSettings 134 = .ok (.iload_n 3, 1) := by decide +kernel
theorem dX13_readsSettings_135 : decode cX13_readsSettings 135 = .ok (.iastore, 1) := by decide +kernel
theorem dX13_readsSettings_136 : decode cX13_readsSettings 136 = .ok (.aload_n 0, 1) := by decide +kernel
theorem dX13_readsSettings_137 : decode cX13_readsSettings 137 = .ok (.getfield 55, 3) := by decide +kernel
theorem dX13_readsSettings_140 : decode cX13_readsSettings 140 = .ok (.aload_n 0, 1) := by decide +kernel
theorem dX13_readsSettings_141 : decode cX13_readsSettings 141 = .ok (.getfield 296, 3) := by decide +kernel
theorem dX13_readsSettings_144 : decode cX13_readsSettings 144 = .ok (.iload 5, 2) := by decide +kernel
theorem dX13_readsSettings_146 : decode cX13_readsSettings 146 = .ok (.iastore, 1) := by decide +kernel
theorem dX13_readsSettings_147 : decode cX13_readsSettings 147 = .ok (.aload_n 0, 1) := by decide +kernel
theorem dX13_readsSettings_148 : decode cX13_readsSettings 148 = .ok (.dup, 1) := by decide +kernel
theorem dX13_readsSettings_149 : decode cX13_readsSettings 149 = .ok (.getfield 296, 3) := by decide +kernel
theorem dX13_readsSettings_152 : decode cX13_readsSettings 152 = .ok (.iconst 1, 1) := by decide +kernel
theorem dX13_readsSettings_153 : decode cX13_readsSettings 153 = .ok (.iadd, 1) := by decide +kernel
theorem dX13_readsSettings_154 : decode cX13_readsSettings 154 = .ok (.putfield 296, 3) := by decide +kernel
theorem dX13_readsSettings_157 : decode cX13_readsSettings 157 = .ok (.iload 4, 2) := by decide +kernel
theorem dX13_readsSettings_159 : decode cX13_readsSettings 159 = .ok (.aload_n 0, 1) := by decide +kernel
theorem dX13_readsSettings_160 : decode cX13_readsSettings 160 = .ok (.getfield 272, 3) := by decide +kernel
theorem dX13_readsSettings_163 : decode cX13_readsSettings 163 = .ok (.if_icmp .ne 5, 3) := by decide +kernel
theorem dX13_readsSettings_166 : decode cX13_readsSettings 166 = .ok (.iconst (-1), 1) := by decide +kernel
theorem dX13_readsSettings_167 : decode cX13_readsSettings 167 = .ok (.ireturn, 1) := by decide +kernel
theorem dX13_readsSettings_168 : decode cX13_readsSettings 168 = .ok (.aload_n 0, 1) := by decide +kernel
theorem dX13_readsSettings_169 : decode cX13_readsSettings 169 = .ok (.iload 4, 2) := by decide +kernel
theorem dX13_readsSettings_171 : decode cX13_readsSettings 171 = .ok (.invokevirtual 275, 3) := by decide +kernel
theorem dX13_readsSettings_174 : decode cX13_readsSettings 174 = .ok (.bipush 59, 2) := by decide +kernel
theorem dX13_readsSettings_176 : decode cX13_readsSettings 176 = .ok (.if_icmp .eq 6, 3) := by decide +kernel
theorem dX13_readsSettings_179 : decode cX13_readsSettings 179 = .ok (.iload 4, 2) := by decide +kernel
theorem dX13_readsSettings_181 : decode cX13_readsSettings 181 = .ok (.ireturn, 1) := by decide +kernel
theorem dX13_readsSettings_182 : decode cX13_readsSettings 182 = .ok (.iload 4, 2) := by decide +kernel
theorem dX13_readsSettings_184 : decode cX13_readsSettings 184 = .ok (.iconst 1, 1) := by decide +kernel
theorem dX13_readsSettings_185 : decode cX13_readsSettings 185 = .ok (.iadd, 1) := by decide +kernel
theorem dX13_readsSettings_186 : decode cX13_readsSettings 186 = .ok (.istore_n 1, 1) := by decide +kernel
theorem dX13_readsSettings_187 : decode cX13_readsSettings 187 = .ok (.goto (-180), 3) := by decide +kernel
theorem dX13_readsSettings_190 : decode cX13_readsSettings 190 = .ok (.iconst (-1), 1) := by decide +kernel
theorem dX13_readsSettings_191 : decode cX13_readsSettings 191 = .ok (.ireturn, 1) := by decide +kernel
theorem dX13_isSmall_0 : decode cX13_isSmall 0 = .ok (.aload_n 0, 1) := by decide +kernel
theorem dX13_isSmall_1 : decode cX13_isSmall 1 = .ok (.iload_n 1, 1) := by decide +kernel
theorem dX13_isSmall_2 : decode cX13_isSmall 2 = .ok (.invokevirtual 275, 3) := by decide +kernel
theorem dX13_isSmall_5 : decode cX13_isSmall 5 = .ok (.i2l, 1) := by decide +kernel
theorem dX13_isSmall_6 : decode cX13_isSmall 6 = .ok (.ldc2_w 278, 3) := by decide +kernel
theorem dX13_isSmall_9 : decode cX13_isSmall 9 = .ok (.ldc2_w 280, 3) := by decide +kernel
theorem dX13_isSmall_12 : decode cX13_isSmall 12 = .ok (.invokestatic 191, 3) := by decide +kernel
theorem dX13_isSmall_15 : decode cX13_isSmall 15 = .ok (.ireturn, 1) := by decide +kernel
theorem dX13_letter_0 : decode cX13_letter 0 = .ok (.iload_n 1, 1) := by decide +kernel
theorem dX13_letter_1 : decode cX13_letter 1 = .ok (.aload_n 0, 1) := by decide +kernel
theorem dX13_letter_2 : decode cX13_letter 2 = .ok (.getfield 272, 3) := by decide +kernel
theorem dX13_letter_5 : decode cX13_letter 5 = .ok (.if_icmp .ge 12, 3) := by decide +kernel
theorem dX13_letter_8 : decode cX13_letter 8 = .ok (.aload_n 0, 1) := by decide +kernel
theorem dX13_letter_9 : decode cX13_letter 9 = .ok (.getfield 30, 3) := by decide +kernel
theorem dX13_letter_12 : decode cX13_letter 12 = .ok (.iload_n 1, 1) := by decide +kernel
theorem dX13_letter_13 : decode cX13_letter 13 = .ok (.iaload, 1) := by decide +kernel
theorem dX13_letter_14 : decode cX13_letter 14 = .ok (.goto 4, 3) := by decide +kernel
theorem dX13_letter_17 : decode cX13_letter 17 = .ok (.iconst (-1), 1) := by decide +kernel
theorem dX13_letter_18 : decode cX13_letter 18 = .ok (.ireturn, 1) := by decide +kernel
theorem dX13_wordOf_0 : decode cX13_wordOf 0 = .ok (.iconst 0, 1) := by decide +kernel
theorem dX13_wordOf_1 : decode cX13_wordOf 1 = .ok (.istore 4, 2) := by decide +kernel
theorem dX13_wordOf_3 : decode cX13_wordOf 3 = .ok (.iconst 0, 1) := by decide +kernel
theorem dX13_wordOf_4 : decode cX13_wordOf 4 = .ok (.istore 5, 2) := by decide +kernel
theorem dX13_wordOf_6 : decode cX13_wordOf 6 = .ok (.iconst 0, 1) := by decide +kernel
theorem dX13_wordOf_7 : decode cX13_wordOf 7 = .ok (.istore 6, 2) := by decide +kernel
theorem dX13_wordOf_9 : decode cX13_wordOf 9 = .ok (.iload 6, 2) := by decide +kernel
theorem dX13_wordOf_11 : decode cX13_wordOf 11 = .ok (.aload_n 1, 1) := by decide +kernel
theorem dX13_wordOf_12 : decode cX13_wordOf 12 = .ok (.arraylength, 1) := by decide +kernel
theorem dX13_wordOf_13 : decode cX13_wordOf 13 = .ok (.if_icmp .ge 101, 3) := by decide +kernel
theorem dX13_wordOf_16 : decode cX13_wordOf 16 = .ok (.aload_n 1, 1) := by decide +kernel
theorem dX13_wordOf_17 : decode cX13_wordOf 17 = .ok (.iload 6, 2) := by decide +kernel
theorem dX13_wordOf_19 : decode cX13_wordOf 19 = .ok (.caload, 1) := by decide +kernel
theorem dX13_wordOf_20 : decode cX13_wordOf 20 = .ok (.bipush 59, 2) := by decide +kernel
theorem dX13_wordOf_22 : decode cX13_wordOf 22 = .ok (.if_icmp .ne 86, 3) := by decide +kernel
theorem dX13_wordOf_25 : decode cX13_wordOf 25 = .ok (.iload 6, 2) := by decide +kernel
theorem dX13_wordOf_27 : decode cX13_wordOf 27 = .ok (.iload 5, 2) := by decide +kernel
theorem dX13_wordOf_29 : decode cX13_wordOf 29 = .ok (.isub, 1) := by decide +kernel
theorem dX13_wordOf_30 : decode cX13_wordOf 30 = .ok (.iload_n 3, 1) := by decide +kernel
theorem dX13_wordOf_31 : decode cX13_wordOf 31 = .ok (.iload_n 2, 1) := by decide +kernel
theorem dX13_wordOf_32 : decode cX13_wordOf 32 = .ok (.isub, 1) := by decide +kernel
theorem dX13_wordOf_33 : decode cX13_wordOf 33 = .ok (.if_icmp .ne 7, 3) := by decide +kernel
theorem dX13_wordOf_36 : decode cX13_wordOf 36 = .ok (.iconst 1, 1) := by decide +kernel
theorem dX13_wordOf_37 : decode cX13_wordOf 37 = .ok (.goto 4, 3) := by decide +kernel
theorem dX13_wordOf_40 : decode cX13_wordOf 40 = .ok (.iconst 0, 1) := by decide +kernel
theorem dX13_wordOf_41 : decode cX13_wordOf 41 = .ok (.istore 7, 2) := by decide +kernel
theorem dX13_wordOf_43 : decode cX13_wordOf 43 = .ok (.iconst 0, 1) := by decide +kernel
theorem dX13_wordOf_44 : decode cX13_wordOf 44 = .ok (.istore 8, 2) := by decide +kernel
theorem dX13_wordOf_46 : decode cX13_wordOf 46 = .ok (.iload 8, 2) := by decide +kernel
theorem dX13_wordOf_48 : decode cX13_wordOf 48 = .ok (.iload_n 3, 1) := by decide +kernel
theorem dX13_wordOf_49 : decode cX13_wordOf 49 = .ok (.iload_n 2, 1) := by decide +kernel
theorem dX13_wordOf_50 : decode cX13_wordOf 50 = .ok (.isub, 1) := by decide +kernel
theorem dX13_wordOf_51 : decode cX13_wordOf 51 = .ok (.if_icmp .ge 40, 3) := by decide +kernel
theorem dX13_wordOf_54 : decode cX13_wordOf 54 = .ok (.iload 7, 2) := by decide +kernel
theorem dX13_wordOf_56 : decode cX13_wordOf 56 = .ok (.ifCond .eq 35, 3) := by decide +kernel
theorem dX13_wordOf_59 : decode cX13_wordOf 59 = .ok (.aload_n 1, 1) := by decide +kernel
theorem dX13_wordOf_60 : decode cX13_wordOf 60 = .ok (.iload 5, 2) := by decide +kernel
theorem dX13_wordOf_62 : decode cX13_wordOf 62 = .ok (.iload 8, 2) := by decide +kernel
theorem dX13_wordOf_64 : decode cX13_wordOf 64 = .ok (.iadd, 1) := by decide +kernel
theorem dX13_wordOf_65 : decode cX13_wordOf 65 = .ok (.caload, 1) := by decide +kernel
theorem dX13_wordOf_66 : decode cX13_wordOf 66 = .ok (.aload_n 0, 1) := by decide +kernel
theorem dX13_wordOf_67 : decode cX13_wordOf 67 = .ok (.getfield 30, 3) := by decide +kernel
theorem dX13_wordOf_70 : decode cX13_wordOf 70 = .ok (.iload_n 2, 1) := by decide +kernel
theorem dX13_wordOf_71 : decode cX13_wordOf 71 = .ok (.iload 8, 2) := by decide +kernel
theorem dX13_wordOf_73 : decode cX13_wordOf 73 = .ok (.iadd, 1) := by decide +kernel
theorem dX13_wordOf_74 : decode cX13_wordOf 74 = .ok (.iaload, 1) := by decide +kernel
theorem dX13_wordOf_75 : decode cX13_wordOf 75 = .ok (.if_icmp .ne 7, 3) := by decide +kernel
theorem dX13_wordOf_78 : decode cX13_wordOf 78 = .ok (.iconst 1, 1) := by decide +kernel
theorem dX13_wordOf_79 : decode cX13_wordOf 79 = .ok (.goto 4, 3) := by decide +kernel
theorem dX13_wordOf_82 : decode cX13_wordOf 82 = .ok (.iconst 0, 1) := by decide +kernel
theorem dX13_wordOf_83 : decode cX13_wordOf 83 = .ok (.istore 7, 2) := by decide +kernel
theorem dX13_wordOf_85 : decode cX13_wordOf 85 = .ok (.iinc 8 1, 3) := by decide +kernel
theorem dX13_wordOf_88 : decode cX13_wordOf 88 = .ok (.goto (-42), 3) := by decide +kernel
theorem dX13_wordOf_91 : decode cX13_wordOf 91 = .ok (.iload 7, 2) := by decide +kernel
theorem dX13_wordOf_93 : decode cX13_wordOf 93 = .ok (.ifCond .eq 6, 3) := by decide +kernel
theorem dX13_wordOf_96 : decode cX13_wordOf 96 = .ok (.iload 4, 2) := by decide +kernel
theorem dX13_wordOf_98 : decode cX13_wordOf 98 = .ok (.ireturn, 1) := by decide +kernel
theorem dX13_wordOf_99 : decode cX13_wordOf 99 = .ok (.iinc 4 1, 3) := by decide +kernel
theorem dX13_wordOf_102 : decode cX13_wordOf 102 = .ok (.iload 6, 2) := by decide +kernel
theorem dX13_wordOf_104 : decode cX13_wordOf 104 = .ok (.iconst 1, 1) := by decide +kernel
theorem dX13_wordOf_105 : decode cX13_wordOf 105 = .ok (.iadd, 1) := by decide +kernel
theorem dX13_wordOf_106 : decode cX13_wordOf 106 = .ok (.istore 5, 2) := by decide +kernel
theorem dX13_wordOf_108 : decode cX13_wordOf 108 = .ok (.iinc 6 1, 3) := by decide +kernel
theorem dX13_wordOf_111 : decode cX13_wordOf 111 = .ok (.goto (-102), 3) := by decide +kernel
theorem dX13_wordOf_114 : decode cX13_wordOf 114 = .ok (.iconst (-1), 1) := by decide +kernel
theorem dX13_wordOf_115 : decode cX13_wordOf 115 = .ok (.ireturn, 1) := by decide +kernel
theorem dX13_isFigure_0 : decode cX13_isFigure 0 = .ok (.aload_n 0, 1) := by decide +kernel
theorem dX13_isFigure_1 : decode cX13_isFigure 1 = .ok (.iload_n 1, 1) := by decide +kernel
theorem dX13_isFigure_2 : decode cX13_isFigure 2 = .ok (.invokevirtual 275, 3) := by decide +kernel
theorem dX13_isFigure_5 : decode cX13_isFigure 5 = .ok (.i2l, 1) := by decide +kernel
theorem dX13_isFigure_6 : decode cX13_isFigure 6 = .ok (.ldc2_w 282, 3) := by decide +kernel
theorem dX13_isFigure_9 : decode cX13_isFigure 9 = .ok (.ldc2_w 284, 3) := by decide +kernel
theorem dX13_isFigure_12 : decode cX13_isFigure 12 = .ok (.invokestatic 191, 3) := by decide +kernel
theorem dX13_isFigure_15 : decode cX13_isFigure 15 = .ok (.ireturn, 1) := by decide +kernel
theorem dX13_valueOf_0 : decode cX13_valueOf 0 = .ok (.iload_n 1, 1) := by decide +kernel
theorem dX13_valueOf_1 : decode cX13_valueOf 1 = .ok (.invokestatic 286, 3) := by decide +kernel
theorem dX13_valueOf_4 : decode cX13_valueOf 4 = .ok (.istore 4, 2) := by decide +kernel
theorem dX13_valueOf_6 : decode cX13_valueOf 6 = .ok (.iload 4, 2) := by decide +kernel
theorem dX13_valueOf_8 : decode cX13_valueOf 8 = .ok (.ifCond .lt 36, 3) := by decide +kernel
theorem dX13_valueOf_11 : decode cX13_valueOf 11 = .ok (.aload_n 0, 1) := by decide +kernel
theorem dX13_valueOf_12 : decode cX13_valueOf 12 = .ok (.aload_n 0, 1) := by decide +kernel
theorem dX13_valueOf_13 : decode cX13_valueOf 13 = .ok (.getfield 43, 3) := by decide +kernel
theorem dX13_valueOf_16 : decode cX13_valueOf 16 = .ok (.iload_n 2, 1) := by decide +kernel
theorem dX13_valueOf_17 : decode cX13_valueOf 17 = .ok (.iload_n 3, 1) := by decide +kernel
theorem dX13_valueOf_18 : decode cX13_valueOf 18 = .ok (.invokevirtual 289, 3) := by decide +kernel
theorem dX13_valueOf_21 : decode cX13_valueOf 21 = .ok (.iload 4, 2) := by decide +kernel
theorem dX13_valueOf_23 : decode cX13_valueOf 23 = .ok (.isub, 1) := by decide +kernel
theorem dX13_valueOf_24 : decode cX13_valueOf 24 = .ok (.istore 5, 2) := by decide +kernel
theorem dX13_valueOf_26 : decode cX13_valueOf 26 = .ok (.iload 5, 2) := by decide +kernel
theorem dX13_valueOf_28 : decode cX13_valueOf 28 = .ok (.i2l, 1) := by decide +kernel
theorem dX13_valueOf_29 : decode cX13_valueOf 29 = .ok (.lconst 0, 1) := by decide +kernel
theorem dX13_valueOf_30 : decode cX13_valueOf 30 = .ok (.lconst 1, 1) := by decide +kernel
theorem dX13_valueOf_31 : decode cX13_valueOf 31 = .ok (.invokestatic 191, 3) := by decide +kernel
theorem dX13_valueOf_34 : decode cX13_valueOf 34 = .ok (.ifCond .eq 8, 3) := by decide +kernel
theorem dX13_valueOf_37 : decode cX13_valueOf 37 = .ok (.iload 5, 2) := by decide +kernel
theorem dX13_valueOf_39 : decode cX13_valueOf 39 = .ok (.goto 4, 3) := by decide +kernel
theorem dX13_valueOf_42 : decode cX13_valueOf 42 = .ok (.iconst (-1), 1) := by decide +kernel
theorem dX13_valueOf_43 : decode cX13_valueOf 43 = .ok (.ireturn, 1) := by decide +kernel
theorem dX13_valueOf_44 : decode cX13_valueOf 44 = .ok (.iload_n 3, 1) := by decide +kernel
theorem dX13_valueOf_45 : decode cX13_valueOf 45 = .ok (.iload_n 2, 1) := by decide +kernel
theorem dX13_valueOf_46 : decode cX13_valueOf 46 = .ok (.isub, 1) := by decide +kernel
theorem dX13_valueOf_47 : decode cX13_valueOf 47 = .ok (.i2l, 1) := by decide +kernel
theorem dX13_valueOf_48 : decode cX13_valueOf 48 = .ok (.lconst 1, 1) := by decide +kernel
theorem dX13_valueOf_49 : decode cX13_valueOf 49 = .ok (.ldc2_w 189, 3) := by decide +kernel
theorem dX13_valueOf_52 : decode cX13_valueOf 52 = .ok (.invokestatic 191, 3) := by decide +kernel
theorem dX13_valueOf_55 : decode cX13_valueOf 55 = .ok (.ifCond .ne 5, 3) := by decide +kernel
theorem dX13_valueOf_58 : decode cX13_valueOf 58 = .ok (.iconst (-1), 1) := by decide +kernel
theorem dX13_valueOf_59 : decode cX13_valueOf 59 = .ok (.ireturn, 1) := by decide +kernel
theorem dX13_valueOf_60 : decode cX13_valueOf 60 = .ok (.iconst 0, 1) := by decide +kernel
theorem dX13_valueOf_61 : decode cX13_valueOf 61 = .ok (.istore 5, 2) := by decide +kernel
theorem dX13_valueOf_63 : decode cX13_valueOf 63 = .ok (.iload_n 2, 1) := by decide +kernel
theorem dX13_valueOf_64 : decode cX13_valueOf 64 = .ok (.istore 6, 2) := by decide +kernel
theorem dX13_valueOf_66 : decode cX13_valueOf 66 = .ok (.iload 6, 2) := by decide +kernel
theorem dX13_valueOf_68 : decode cX13_valueOf 68 = .ok (.iload_n 3, 1) := by decide +kernel
theorem dX13_valueOf_69 : decode cX13_valueOf 69 = .ok (.if_icmp .ge 38, 3) := by decide +kernel
theorem dX13_valueOf_72 : decode cX13_valueOf 72 = .ok (.aload_n 0, 1) := by decide +kernel
theorem dX13_valueOf_73 : decode cX13_valueOf 73 = .ok (.iload 6, 2) := by decide +kernel
theorem dX13_valueOf_75 : decode cX13_valueOf 75 = .ok (.invokevirtual 293, 3) := by decide +kernel
theorem dX13_valueOf_78 : decode cX13_valueOf 78 = .ok (.ifCond .ne 5, 3) := by decide +kernel
theorem dX13_valueOf_81 : decode cX13_valueOf 81 = .ok (.iconst (-1), 1) := by decide +kernel
theorem dX13_valueOf_82 : decode cX13_valueOf 82 = .ok (.ireturn, 1) := by decide +kernel
theorem dX13_valueOf_83 : decode cX13_valueOf 83 = .ok (.bipush 10, 2) := by decide +kernel
theorem dX13_valueOf_85 : decode cX13_valueOf 85 = .ok (.iload 5, 2) := by decide +kernel
theorem dX13_valueOf_87 : decode cX13_valueOf 87 = .ok (.imul, 1) := by decide +kernel
theorem dX13_valueOf_88 : decode cX13_valueOf 88 = .ok (.aload_n 0, 1) := by decide +kernel
theorem dX13_valueOf_89 : decode cX13_valueOf 89 = .ok (.getfield 30, 3) := by decide +kernel
theorem dX13_valueOf_92 : decode cX13_valueOf 92 = .ok (.iload 6, 2) := by decide +kernel
theorem dX13_valueOf_94 : decode cX13_valueOf 94 = .ok (.iaload, 1) := by decide +kernel
theorem dX13_valueOf_95 : decode cX13_valueOf 95 = .ok (.iadd, 1) := by decide +kernel
theorem dX13_valueOf_96 : decode cX13_valueOf 96 = .ok (.bipush 48, 2) := by decide +kernel
theorem dX13_valueOf_98 : decode cX13_valueOf 98 = .ok (.isub, 1) := by decide +kernel
theorem dX13_valueOf_99 : decode cX13_valueOf 99 = .ok (.istore 5, 2) := by decide +kernel
theorem dX13_valueOf_101 : decode cX13_valueOf 101 = .ok (.iinc 6 1, 3) := by decide +kernel
theorem dX13_valueOf_104 : decode cX13_valueOf 104 = .ok (.goto (-38), 3) := by decide +kernel
theorem dX13_valueOf_107 : decode cX13_valueOf 107 = .ok (.iload 5, 2) := by decide +kernel
theorem dX13_valueOf_109 : decode cX13_valueOf 109 = .ok (.i2l, 1) := by decide +kernel
theorem dX13_valueOf_110 : decode cX13_valueOf 110 = .ok (.aload_n 0, 1) := by decide +kernel
theorem dX13_valueOf_111 : decode cX13_valueOf 111 = .ok (.getfield 46, 3) := by decide +kernel
theorem dX13_valueOf_114 : decode cX13_valueOf 114 = .ok (.iload_n 1, 1) := by decide +kernel
theorem dX13_valueOf_115 : decode cX13_valueOf 115 = .ok (.iaload, 1) := by decide +kernel
theorem dX13_valueOf_116 : decode cX13_valueOf 116 = .ok (.i2l, 1) := by decide +kernel
theorem dX13_valueOf_117 : decode cX13_valueOf 117 = .ok (.aload_n 0, 1) := by decide +kernel
theorem dX13_valueOf_118 : decode cX13_valueOf 118 = .ok (.getfield 49, 3) := by decide +kernel
theorem dX13_valueOf_121 : decode cX13_valueOf 121 = .ok (.iload_n 1, 1) := by decide +kernel
theorem dX13_valueOf_122 : decode cX13_valueOf 122 = .ok (.iaload, 1) := by decide +kernel
theorem dX13_valueOf_123 : decode cX13_valueOf 123 = .ok (.i2l, 1) := by decide +kernel
theorem dX13_valueOf_124 : decode cX13_valueOf 124 = .ok (.invokestatic 191, 3) := by decide +kernel
theorem dX13_valueOf_127 : decode cX13_valueOf 127 = .ok (.ifCond .eq 8, 3) := by decide +kernel
theorem dX13_valueOf_130 : decode cX13_valueOf 130 = .ok (.iload 5, 2) := by decide +kernel
theorem dX13_valueOf_132 : decode cX13_valueOf 132 = .ok (.goto 4, 3) := by decide +kernel
theorem dX13_valueOf_135 : decode cX13_valueOf 135 = .ok (.iconst (-1), 1) := by decide +kernel
theorem dX13_valueOf_136 : decode cX13_valueOf 136 = .ok (.ireturn, 1) := by decide +kernel
theorem dX13_firstWord_0 : decode cX13_firstWord 0 = .ok (.iload_n 0, 1) := by decide +kernel
theorem dX13_firstWord_1 : decode cX13_firstWord 1 = .ok (.bipush 6, 2) := by decide +kernel
theorem dX13_firstWord_3 : decode cX13_firstWord 3 = .ok (.if_icmp .ne 7, 3) := by decide +kernel
theorem dX13_firstWord_6 : decode cX13_firstWord 6 = .ok (.iconst 0, 1) := by decide +kernel
theorem dX13_firstWord_7 : decode cX13_firstWord 7 = .ok (.goto 24, 3) := by decide +kernel
theorem dX13_firstWord_10 : decode cX13_firstWord 10 = .ok (.iload_n 0, 1) := by decide +kernel
theorem dX13_firstWord_11 : decode cX13_firstWord 11 = .ok (.bipush 7, 2) := by decide +kernel
theorem dX13_firstWord_13 : decode cX13_firstWord 13 = .ok (.if_icmp .ne 7, 3) := by decide +kernel
theorem dX13_firstWord_16 : decode cX13_firstWord 16 = .ok (.iconst 2, 1) := by decide +kernel
theorem dX13_firstWord_17 : decode cX13_firstWord 17 = .ok (.goto 14, 3) := by decide +kernel
theorem dX13_firstWord_20 : decode cX13_firstWord 20 = .ok (.iload_n 0, 1) := by decide +kernel
theorem dX13_firstWord_21 : decode cX13_firstWord 21 = .ok (.bipush 9, 2) := by decide +kernel
theorem dX13_firstWord_23 : decode cX13_firstWord 23 = .ok (.if_icmp .ne 7, 3) := by decide +kernel
theorem dX13_firstWord_26 : decode cX13_firstWord 26 = .ok (.iconst 4, 1) := by decide +kernel
theorem dX13_firstWord_27 : decode cX13_firstWord 27 = .ok (.goto 4, 3) := by decide +kernel
theorem dX13_firstWord_30 : decode cX13_firstWord 30 = .ok (.iconst (-1), 1) := by decide +kernel
theorem dX13_firstWord_31 : decode cX13_firstWord 31 = .ok (.ireturn, 1) := by decide +kernel
theorem dX13_isGiven_0 : decode cX13_isGiven 0 = .ok (.iconst 0, 1) := by decide +kernel
theorem dX13_isGiven_1 : decode cX13_isGiven 1 = .ok (.istore_n 2, 1) := by decide +kernel
theorem dX13_isGiven_2 : decode cX13_isGiven 2 = .ok (.iconst 0, 1) := by decide +kernel
theorem dX13_isGiven_3 : decode cX13_isGiven 3 = .ok (.istore_n 3, 1) := by decide +kernel
theorem dX13_isGiven_4 : decode cX13_isGiven 4 = .ok (.iload_n 3, 1) := by decide +kernel
theorem dX13_isGiven_5 : decode cX13_isGiven 5 = .ok (.aload_n 0, 1) := by decide +kernel
theorem dX13_isGiven_6 : decode cX13_isGiven 6 = .ok (.getfield 306, 3) := by decide +kernel
theorem dX13_isGiven_9 : decode cX13_isGiven 9 = .ok (.if_icmp .ge 29, 3) := by decide +kernel
theorem dX13_isGiven_12 : decode cX13_isGiven 12 = .ok (.iload_n 2, 1) := by decide +kernel
theorem dX13_isGiven_13 : decode cX13_isGiven 13 = .ok (.ifCond .ne 13, 3) := by decide +kernel
theorem dX13_isGiven_16 : decode cX13_isGiven 16 = .ok (.aload_n 0, 1) := by decide +kernel
theorem dX13_isGiven_17 : decode cX13_isGiven 17 = .ok (.getfield 36, 3) := by decide +kernel
theorem dX13_isGiven_20 : decode cX13_isGiven 20 = .ok (.iload_n 3, 1) := by decide +kernel
theorem dX13_isGiven_21 : decode cX13_isGiven 21 = .ok (.iaload, 1) := by decide +kernel
theorem dX13_isGiven_22 : decode cX13_isGiven 22 = .ok (.iload_n 1, 1) := by decide +kernel
theorem dX13_isGiven_23 : decode cX13_isGiven 23 = .ok (.if_icmp .ne 7, 3) := by decide +kernel
theorem dX13_isGiven_26 : decode cX13_isGiven 26 = .ok (.iconst 1, 1) := by decide +kernel
theorem dX13_isGiven_27 : decode cX13_isGiven 27 = .ok (.goto 4, 3) := by decide +kernel
theorem dX13_isGiven_30 : decode cX13_isGiven 30 = .ok (.iconst 0, 1) := by decide +kernel
theorem dX13_isGiven_31 : decode cX13_isGiven 31 = .ok (.istore_n 2, 1) := by decide +kernel
theorem dX13_isGiven_32 : decode cX13_isGiven 32 = .ok (.iinc 3 1, 3) := by decide +kernel
theorem dX13_isGiven_35 : decode cX13_isGiven 35 = .ok (.goto (-31), 3) := by decide +kernel
theorem dX13_isGiven_38 : decode cX13_isGiven 38 = .ok (.iload_n 2, 1) := by decide +kernel
theorem dX13_isGiven_39 : decode cX13_isGiven 39 = .ok (.ireturn, 1) := by decide +kernel
theorem dX13_setting_0 : decode cX13_setting 0 = .ok (.aload_n 0, 1) := by decide +kernel
theorem dX13_setting_1 : decode cX13_setting 1 = .ok (.iconst 0, 1) := by decide +kernel
theorem dX13_setting_2 : decode cX13_setting 2 = .ok (.putfield 186, 3) := by decide +kernel
theorem dX13_setting_5 : decode cX13_setting 5 = .ok (.iload_n 1, 1) := by decide +kernel
theorem dX13_setting_6 : decode cX13_setting 6 = .ok (.i2l, 1) := by decide +kernel
theorem dX13_setting_7 : decode cX13_setting 7 = .ok (.lconst 0, 1) := by decide +kernel
theorem dX13_setting_8 : decode cX13_setting 8 = .ok (.ldc2_w 316, 3) := by decide +kernel
theorem dX13_setting_11 : decode cX13_setting 11 = .ok (.invokestatic 191, 3) := by decide +kernel
theorem dX13_setting_14 : decode cX13_setting 14 = .ok (.ifCond .eq 12, 3) := by decide +kernel
theorem dX13_setting_17 : decode cX13_setting 17 = .ok (.aload_n 0, 1) := by decide +kernel
theorem dX13_setting_18 : decode cX13_setting 18 = .ok (.getfield 33, 3) := by decide +kernel
theorem dX13_setting_21 : decode cX13_setting 21 = .ok (.iload_n 1, 1) := by decide +kernel
theorem dX13_setting_22 : decode cX13_setting 22 = .ok (.iaload, 1) := by decide +kernel
theorem dX13_setting_23 : decode cX13_setting 23 = .ok (.goto 8, 3) := by decide +kernel
theorem dX13_setting_26 : decode cX13_setting 26 = .ok (.aload_n 0, 1) := by decide +kernel
theorem dX13_setting_27 : decode cX13_setting 27 = .ok (.iconst 1, 1) := by decide +kernel
theorem dX13_setting_28 : decode cX13_setting 28 = .ok (.invokevirtual 206, 3) := by decide +kernel
theorem dX13_setting_31 : decode cX13_setting 31 = .ok (.ireturn, 1) := by decide +kernel
theorem dX13_configChar_0 : decode cX13_configChar 0 = .ok (.aload_n 0, 1) := by decide +kernel
theorem dX13_configChar_1 : decode cX13_configChar 1 = .ok (.iconst 0, 1) := by decide +kernel
theorem dX13_configChar_2 : decode cX13_configChar 2 = .ok (.putfield 186, 3) := by decide +kernel
theorem dX13_configChar_5 : decode cX13_configChar 5 = .ok (.iload_n 1, 1) := by decide +kernel
theorem dX13_configChar_6 : decode cX13_configChar 6 = .ok (.ifCond .ge 9, 3) := by decide +kernel
theorem dX13_configChar_9 : decode cX13_configChar 9 = .ok (.aload_n 0, 1) := by decide +kernel
theorem dX13_configChar_10 : decode cX13_configChar 10 = .ok (.iconst 1, 1) := by decide +kernel
theorem dX13_configChar_11 : decode cX13_configChar 11 = .ok (.invokevirtual 206, 3) := by decide +kernel
theorem dX13_configChar_14 : decode cX13_configChar 14 = .ok (.ireturn, 1) := by decide +kernel
theorem dX13_configChar_15 : decode cX13_configChar 15 = .ok (.aload_n 0, 1) := by decide +kernel
theorem dX13_configChar_16 : decode cX13_configChar 16 = .ok (.getfield 318, 3) := by decide +kernel
theorem dX13_configChar_19 : decode cX13_configChar 19 = .ok (.istore_n 2, 1) := by decide +kernel
theorem dX13_configChar_20 : decode cX13_configChar 20 = .ok (.sipush 20000, 3) := by decide +kernel
theorem dX13_configChar_23 : decode cX13_configChar 23 = .ok (.istore_n 3, 1) := by decide +kernel
theorem dX13_configChar_24 : decode cX13_configChar 24 = .ok (.aload_n 0, 1) := by decide +kernel
theorem dX13_configChar_25 : decode cX13_configChar 25 = .ok (.iload_n 3, 1) := by decide +kernel
theorem dX13_configChar_26 : decode cX13_configChar 26 = .ok (.putfield 318, 3) := by decide +kernel
theorem dX13_configChar_29 : decode cX13_configChar 29 = .ok (.iconst 0, 1) := by decide +kernel
theorem dX13_configChar_30 : decode cX13_configChar 30 = .ok (.istore 4, 2) := by decide +kernel
theorem dX13_configChar_32 : decode cX13_configChar 32 = .ok (.iload 4, 2) := by decide +kernel
theorem dX13_configChar_34 : decode cX13_configChar 34 = .ok (.aload_n 0, 1) := by decide +kernel
theorem dX13_configChar_35 : decode cX13_configChar 35 = .ok (.getfield 306, 3) := by decide +kernel
theorem dX13_configChar_38 : decode cX13_configChar 38 = .ok (.if_icmp .ge 100, 3) := by decide +kernel
theorem dX13_configChar_41 : decode cX13_configChar 41 = .ok (.iload 4, 2) := by decide +kernel
theorem dX13_configChar_43 : decode cX13_configChar 43 = .ok (.ifCond .le 9, 3) := by decide +kernel
theorem dX13_configChar_46 : decode cX13_configChar 46 = .ok (.aload_n 0, 1) := by decide +kernel
theorem dX13_configChar_47 : decode cX13_configChar 47 = .ok (.bipush 59, 2) := by decide +kernel
theorem dX13_configChar_49 : decode cX13_configChar 49 = .ok (.invokevirtual 321, 3) := by decide +kernel
theorem dX13_configChar_52 : decode cX13_configChar 52 = .ok (.aload_n 0, 1) := by decide +kernel
theorem dX13_configChar_53 : decode cX13_configChar 53 = .ok (.aload_n 0, 1) := by decide +kernel
theorem dX13_configChar_54 : decode cX13_configChar 54 = .ok (.getfield 39, 3) := by decide +kernel
theorem dX13_configChar_57 : decode cX13_configChar 57 = .ok (.aload_n 0, 1) := by decide +kernel
theorem dX13_configChar_58 : decode cX13_configChar 58 = .ok (.getfield 36, 3) := by decide +kernel
theorem dX13_configChar_61 : decode cX13_configChar 61 = .ok (.iload 4, 2) := by decide +kernel
theorem dX13_configChar_63 : decode cX13_configChar 63 = .ok (.iaload, 1) := by decide +kernel
theorem dX13_configChar_64 : decode cX13_configChar 64 = .ok (.invokevirtual 324, 3) := by decide +kernel
theorem dX13_configChar_67 : decode cX13_configChar 67 = .ok (.aload_n 0, 1) := by decide +kernel
theorem dX13_configChar_68 : decode cX13_configChar 68 = .ok (.bipush 61, 2) := by decide +kernel
theorem dX13_configChar_70 : decode cX13_configChar 70 = .ok (.invokevirtual 321, 3) := by decide +kernel
theorem dX13_configChar_73 : decode cX13_configChar 73 = .ok (.aload_n 0, 1) := by decide +kernel
theorem dX13_configChar_74 : decode cX13_configChar 74 = .ok (.getfield 36, 3) := by decide +kernel
theorem dX13_configChar_77 : decode cX13_configChar 77 = .ok (.iload 4, 2) := by decide +kernel
theorem dX13_configChar_79 : decode cX13_configChar 79 = .ok (.iaload, 1) := by decide +kernel
theorem dX13_configChar_80 : decode cX13_configChar 80 = .ok (.invokestatic 286, 3) := by decide +kernel
theorem dX13_configChar_83 : decode cX13_configChar 83 = .ok (.istore 5, 2) := by decide +kernel
theorem dX13_configChar_85 : decode cX13_configChar 85 = .ok (.iload 5, 2) := by decide +kernel
theorem dX13_configChar_87 : decode cX13_configChar 87 = .ok (.ifCond .lt 29, 3) := by decide +kernel
theorem dX13_configChar_90 : decode cX13_configChar 90 = .ok (.aload_n 0, 1) := by decide +kernel
theorem dX13_configChar_91 : decode cX13_configChar 91 = .ok (.aload_n 0, 1) := by decide +kernel
theorem dX13_configChar_92 : decode cX13_configChar 92 = .ok (.getfield 43, 3) := by decide +kernel
theorem dX13_configChar_95 : decode cX13_configChar 95 = .ok (.iload 5, 2) := by decide +kernel
theorem dX13_configChar_97 : decode cX13_configChar 97 = .ok (.aload_n 0, 1) := by decide +kernel
theorem dX13_configChar_98 : decode cX13_configChar 98 = .ok (.getfield 33, 3) := by decide +kernel
theorem dX13_configChar_101 : decode cX13_configChar 101 = .ok (.aload_n 0, 1) := by decide +kernel
theorem dX13_configChar_102 : decode cX13_configChar 102 = .ok (.getfield 36, 3) := by decide +kernel
theorem dX13_configChar_105 : decode cX13_configChar 105 = .ok (.iload 4, 2) := by decide +kernel
theorem dX13_configChar_107 : decode cX13_configChar 107 = .ok (.iaload, 1) := by decide +kernel
theorem dX13_configChar_108 : decode cX13_configChar 108 = .ok (.iaload, 1) := by decide +kernel
theorem dX13_configChar_109 : decode cX13_configChar 109 = .ok (.iadd, 1) := by decide +kernel
theorem dX13_configChar_110 : decode cX13_configChar 110 = .ok (.invokevirtual 324, 3) := by decide +kernel
theorem dX13_configChar_113 : decode cX13_configChar 113 = .ok (.goto 19, 3) := by decide +kernel
theorem dX13_configChar_116 : decode cX13_configChar 116 = .ok (.aload_n 0, 1) := by decide +kernel
theorem dX13_configChar_117 : decode cX13_configChar 117 = .ok (.aload_n 0, 1) := by decide +kernel
theorem dX13_configChar_118 : decode cX13_configChar 118 = .ok (.getfield 33, 3) := by decide +kernel
theorem dX13_configChar_121 : decode cX13_configChar 121 = .ok (.aload_n 0, 1) := by decide +kernel
theorem dX13_configChar_122 : decode cX13_configChar 122 = .ok (.getfield 36, 3) := by decide +kernel
theorem dX13_configChar_125 : decode cX13_configChar 125 = .ok (.iload 4, 2) := by decide +kernel
theorem dX13_configChar_127 : decode cX13_configChar 127 = .ok (.iaload, 1) := by decide +kernel
theorem dX13_configChar_128 : decode cX13_configChar 128 = .ok (.iaload, 1) := by decide +kernel
theorem dX13_configChar_129 : decode cX13_configChar 129 = .ok (.invokevirtual 328, 3) := by decide +kernel
theorem dX13_configChar_132 : decode cX13_configChar 132 = .ok (.iinc 4 1, 3) := by decide +kernel
theorem dX13_configChar_135 : decode cX13_configChar 135 = .ok (.goto (-103), 3) := by decide +kernel
theorem dX13_configChar_138 : decode cX13_configChar 138 = .ok (.aload_n 0, 1) := by decide +kernel
theorem dX13_configChar_139 : decode cX13_configChar 139 = .ok (.getfield 318, 3) := by decide +kernel
theorem dX13_configChar_142 : decode cX13_configChar 142 = .ok (.iload_n 3, 1) := by decide +kernel
theorem dX13_configChar_143 : decode cX13_configChar 143 = .ok (.isub, 1) := by decide +kernel
theorem dX13_configChar_144 : decode cX13_configChar 144 = .ok (.istore 4, 2) := by decide +kernel
theorem dX13_configChar_146 : decode cX13_configChar 146 = .ok (.aload_n 0, 1) := by decide +kernel
theorem dX13_configChar_147 : decode cX13_configChar 147 = .ok (.iload_n 2, 1) := by decide +kernel
theorem dX13_configChar_148 : decode cX13_configChar 148 = .ok (.putfield 318, 3) := by decide +kernel
theorem dX13_configChar_151 : decode cX13_configChar 151 = .ok (.iload_n 1, 1) := by decide +kernel
theorem dX13_configChar_152 : decode cX13_configChar 152 = .ok (.iload 4, 2) := by decide +kernel
theorem dX13_configChar_154 : decode cX13_configChar 154 = .ok (.if_icmp .ge 14, 3) := by decide +kernel
theorem dX13_configChar_157 : decode cX13_configChar 157 = .ok (.aload_n 0, 1) := by decide +kernel
theorem dX13_configChar_158 : decode cX13_configChar 158 = .ok (.getfield 59, 3) := by decide +kernel
theorem dX13_configChar_161 : decode cX13_configChar 161 = .ok (.iload_n 3, 1) := by decide +kernel
theorem dX13_configChar_162 : decode cX13_configChar 162 = .ok (.iload_n 1, 1) := by decide +kernel
theorem dX13_configChar_163 : decode cX13_configChar 163 = .ok (.iadd, 1) := by decide +kernel
theorem dX13_configChar_164 : decode cX13_configChar 164 = .ok (.iaload, 1) := by decide +kernel
theorem dX13_configChar_165 : decode cX13_configChar 165 = .ok (.goto 4, 3) := by decide +kernel
theorem dX13_configChar_168 : decode cX13_configChar 168 = .ok (.iconst (-1), 1) := by decide +kernel
theorem dX13_configChar_169 : decode cX13_configChar 169 = .ok (.ireturn, 1) := by decide +kernel
theorem dX13_tells_0 : decode cX13_tells 0 = .ok (.aload_n 0, 1) := by decide +kernel
theorem dX13_tells_1 : decode cX13_tells 1 = .ok (.getfield 59, 3) := by decide +kernel
theorem dX13_tells_4 : decode cX13_tells 4 = .ok (.aload_n 0, 1) := by decide +kernel
theorem dX13_tells_5 : decode cX13_tells 5 = .ok (.getfield 318, 3) := by decide +kernel
theorem dX13_tells_8 : decode cX13_tells 8 = .ok (.iload_n 1, 1) := by decide +kernel
theorem dX13_tells_9 : decode cX13_tells 9 = .ok (.iastore, 1) := by decide +kernel
theorem dX13_tells_10 : decode cX13_tells 10 = .ok (.aload_n 0, 1) := by decide +kernel
theorem dX13_tells_11 : decode cX13_tells 11 = .ok (.dup, 1) := by decide +kernel
theorem dX13_tells_12 : decode cX13_tells 12 = .ok (.getfield 318, 3) := by decide +kernel
theorem dX13_tells_15 : decode cX13_tells 15 = .ok (.iconst 1, 1) := by decide +kernel
theorem dX13_tells_16 : decode cX13_tells 16 = .ok (.iadd, 1) := by decide +kernel
theorem dX13_tells_17 : decode cX13_tells 17 = .ok (.putfield 318, 3) := by decide +kernel
theorem dX13_tells_20 : decode cX13_tells 20 = .ok (.return_, 1) := by decide +kernel
theorem dX13_tellsWord_0 : decode cX13_tellsWord 0 = .ok (.iconst 0, 1) := by decide +kernel
theorem dX13_tellsWord_1 : decode cX13_tellsWord 1 = .ok (.istore_n 3, 1) := by decide +kernel
theorem dX13_tellsWord_2 : decode cX13_tellsWord 2 = .ok (.iconst 0, 1) := by decide +kernel
theorem dX13_tellsWord_3 : decode cX13_tellsWord 3 = .ok (.istore 4, 2) := by decide +kernel
theorem dX13_tellsWord_5 : decode cX13_tellsWord 5 = .ok (.iload 4, 2) := by decide +kernel
theorem dX13_tellsWord_7 : decode cX13_tellsWord 7 = .ok (.aload_n 1, 1) := by decide +kernel
theorem dX13_tellsWord_8 : decode cX13_tellsWord 8 = .ok (.arraylength, 1) := by decide +kernel
theorem dX13_tellsWord_9 : decode cX13_tellsWord 9 = .ok (.if_icmp .ge 37, 3) := by decide +kernel
theorem dX13_tellsWord_12 : decode cX13_tellsWord 12 = .ok (.aload_n 1, 1) := by decide +kernel
theorem dX13_tellsWord_13 : decode cX13_tellsWord 13 = .ok (.iload 4, 2) := by decide +kernel
theorem dX13_tellsWord_15 : decode cX13_tellsWord 15 = .ok (.caload, 1) := by decide +kernel
theorem dX13_tellsWord_16 : decode cX13_tellsWord 16 = .ok (.bipush 59, 2) := by decide +kernel
theorem dX13_tellsWord_18 : decode cX13_tellsWord 18 = .ok (.if_icmp .ne 9, 3) := by decide +kernel
theorem dX13_tellsWord_21 : decode cX13_tellsWord 21 = .ok (.iinc 3 1, 3) := by decide +kernel
theorem dX13_tellsWord_24 : decode cX13_tellsWord 24 = .ok (.goto 16, 3) := by decide +kernel
theorem dX13_tellsWord_27 : decode cX13_tellsWord 27 = .ok (.iload_n 3, 1) := by decide +kernel
theorem dX13_tellsWord_28 : decode cX13_tellsWord 28 = .ok (.iload_n 2, 1) := by decide +kernel
theorem dX13_tellsWord_29 : decode cX13_tellsWord 29 = .ok (.if_icmp .ne 11, 3) := by decide +kernel
theorem dX13_tellsWord_32 : decode cX13_tellsWord 32 = .ok (.aload_n 0, 1) := by decide +kernel
theorem dX13_tellsWord_33 : decode cX13_tellsWord 33 = .ok (.aload_n 1, 1) := by decide +kernel
theorem dX13_tellsWord_34 : decode cX13_tellsWord 34 = .ok (.iload 4, 2) := by decide +kernel
theorem dX13_tellsWord_36 : decode cX13_tellsWord 36 = .ok (.caload, 1) := by decide +kernel
theorem dX13_tellsWord_37 : decode cX13_tellsWord 37 = .ok (.invokevirtual 321, 3) := by decide +kernel
theorem dX13_tellsWord_40 : decode cX13_tellsWord 40 = .ok (.iinc 4 1, 3) := by decide +kernel
theorem dX13_tellsWord_43 : decode cX13_tellsWord 43 = .ok (.goto (-38), 3) := by decide +kernel
theorem dX13_tellsWord_46 : decode cX13_tellsWord 46 = .ok (.return_, 1) := by decide +kernel
theorem dX13_tellsNumber_0 : decode cX13_tellsNumber 0 = .ok (.iload_n 1, 1) := by decide +kernel
theorem dX13_tellsNumber_1 : decode cX13_tellsNumber 1 = .ok (.ifCond .ge 9, 3) := by decide +kernel
theorem dX13_tellsNumber_4 : decode cX13_tellsNumber 4 = .ok (.aload_n 0, 1) := by decide +kernel
theorem dX13_tellsNumber_5 : decode cX13_tellsNumber 5 = .ok (.bipush 45, 2) := by decide +kernel
theorem dX13_tellsNumber_7 : decode cX13_tellsNumber 7 = .ok (.invokevirtual 321, 3) := by decide +kernel
theorem dX13_tellsNumber_10 : decode cX13_tellsNumber 10 = .ok (.iload_n 1, 1) := by decide +kernel
theorem dX13_tellsNumber_11 : decode cX13_tellsNumber 11 = .ok (.ifCond .ge 8, 3) := by decide +kernel
theorem dX13_tellsNumber_14 : decode cX13_tellsNumber 14 = .ok (.iload_n 1, 1) := by decide +kernel
theorem dX13_tellsNumber_15 : decode cX13_tellsNumber 15 = .ok (.ineg, 1) := by decide +kernel
theorem dX13_tellsNumber_16 : decode cX13_tellsNumber 16 = .ok (.goto 4, 3) := by decide +kernel
theorem dX13_tellsNumber_19 : decode cX13_tellsNumber 19 = .ok (.iload_n 1, 1) := by decide +kernel
theorem dX13_tellsNumber_20 : decode cX13_tellsNumber 20 = .ok (.istore_n 2, 1) := by decide +kernel
theorem dX13_tellsNumber_21 : decode cX13_tellsNumber 21 = .ok (.iconst 1, 1) := by decide +kernel
theorem dX13_tellsNumber_22 : decode cX13_tellsNumber 22 = .ok (.istore_n 3, 1) := by decide +kernel
theorem dX13_tellsNumber_23 : decode cX13_tellsNumber 23 = .ok (.iload_n 2, 1) := by decide +kernel
theorem dX13_tellsNumber_24 : decode cX13_tellsNumber 24 = .ok (.iload_n 3, 1) := by decide +kernel
theorem dX13_tellsNumber_25 : decode cX13_tellsNumber 25 = .ok (.idiv, 1) := by decide +kernel
theorem dX13_tellsNumber_26 : decode cX13_tellsNumber 26 = .ok (.bipush 10, 2) := by decide +kernel
theorem dX13_tellsNumber_28 : decode cX13_tellsNumber 28 = .ok (.if_icmp .lt 11, 3) := by decide +kernel
theorem dX13_tellsNumber_31 : decode cX13_tellsNumber 31 = .ok (.iload_n 3, 1) := by decide +kernel
theorem dX13_tellsNumber_32 : decode cX13_tellsNumber 32 = .ok (.bipush 10, 2) := by decide +kernel
theorem dX13_tellsNumber_34 : decode cX13_tellsNumber 34 = .ok (.imul, 1) := by decide +kernel
theorem dX13_tellsNumber_35 : decode cX13_tellsNumber 35 = .ok (.istore_n 3, 1) := by decide +kernel
theorem dX13_tellsNumber_36 : decode cX13_tellsNumber 36 = .ok (.goto (-13), 3) := by decide +kernel
theorem dX13_tellsNumber_39 : decode cX13_tellsNumber 39 = .ok (.iload_n 3, 1) := by decide +kernel
theorem dX13_tellsNumber_40 : decode cX13_tellsNumber 40 = .ok (.ifCond .le 24, 3) := by decide +kernel
theorem dX13_tellsNumber_43 : decode cX13_tellsNumber 43 = .ok (.aload_n 0, 1) := by decide +kernel
theorem dX13_tellsNumber_44 : decode cX13_tellsNumber 44 = .ok (.bipush 48, 2) := by decide +kernel
theorem dX13_tellsNumber_46 : decode cX13_tellsNumber 46 = .ok (.iload_n 2, 1) := by decide +kernel
theorem dX13_tellsNumber_47 : decode cX13_tellsNumber 47 = .ok (.iload_n 3, 1) := by decide +kernel
theorem dX13_tellsNumber_48 : decode cX13_tellsNumber 48 = .ok (.idiv, 1) := by decide +kernel
theorem dX13_tellsNumber_49 : decode cX13_tellsNumber 49 = .ok (.bipush 10, 2) := by decide +kernel
theorem dX13_tellsNumber_51 : decode cX13_tellsNumber 51 = .ok (.irem, 1) := by decide +kernel
theorem dX13_tellsNumber_52 : decode cX13_tellsNumber 52 = .ok (.iadd, 1) := by decide +kernel
theorem dX13_tellsNumber_53 : decode cX13_tellsNumber 53 = .ok (.invokevirtual 321, 3) := by decide +kernel
theorem dX13_tellsNumber_56 : decode cX13_tellsNumber 56 = .ok (.iload_n 3, 1) := by decide +kernel
theorem dX13_tellsNumber_57 : decode cX13_tellsNumber 57 = .ok (.bipush 10, 2) := by decide +kernel
theorem dX13_tellsNumber_59 : decode cX13_tellsNumber 59 = .ok (.idiv, 1) := by decide +kernel
theorem dX13_tellsNumber_60 : decode cX13_tellsNumber 60 = .ok (.istore_n 3, 1) := by decide +kernel
theorem dX13_tellsNumber_61 : decode cX13_tellsNumber 61 = .ok (.goto (-22), 3) := by decide +kernel
theorem dX13_tellsNumber_64 : decode cX13_tellsNumber 64 = .ok (.return_, 1) := by decide +kernel
theorem dX13_paste_0 : decode cX13_paste 0 = .ok (.aload_n 0, 1) := by decide +kernel
theorem dX13_paste_1 : decode cX13_paste 1 = .ok (.iconst 0, 1) := by decide +kernel
theorem dX13_paste_2 : decode cX13_paste 2 = .ok (.putfield 186, 3) := by decide +kernel
theorem dX13_paste_5 : decode cX13_paste 5 = .ok (.aload_n 0, 1) := by decide +kernel
theorem dX13_paste_6 : decode cX13_paste 6 = .ok (.iload_n 1, 1) := by decide +kernel
theorem dX13_paste_7 : decode cX13_paste 7 = .ok (.invokevirtual 202, 3) := by decide +kernel
theorem dX13_paste_10 : decode cX13_paste 10 = .ok (.ifCond .ne 9, 3) := by decide +kernel
theorem dX13_paste_13 : decode cX13_paste 13 = .ok (.aload_n 0, 1) := by decide +kernel
theorem dX13_paste_14 : decode cX13_paste 14 = .ok (.iconst 1, 1) := by decide +kernel
theorem dX13_paste_15 : decode cX13_paste 15 = .ok (.invokevirtual 206, 3) := by decide +kernel
theorem dX13_paste_18 : decode cX13_paste 18 = .ok (.ireturn, 1) := by decide +kernel
theorem dX13_paste_19 : decode cX13_paste 19 = .ok (.aload_n 0, 1) := by decide +kernel
theorem dX13_paste_20 : decode cX13_paste 20 = .ok (.invokevirtual 334, 3) := by decide +kernel
theorem dX13_paste_23 : decode cX13_paste 23 = .ok (.istore 4, 2) := by decide +kernel
theorem dX13_paste_25 : decode cX13_paste 25 = .ok (.iload 4, 2) := by decide +kernel
theorem dX13_paste_27 : decode cX13_paste 27 = .ok (.ifCond .lt 8, 3) := by decide +kernel
theorem dX13_paste_30 : decode cX13_paste 30 = .ok (.iconst (-1), 1) := by decide +kernel
theorem dX13_paste_31 : decode cX13_paste 31 = .ok (.iload 4, 2) := by decide +kernel
theorem dX13_paste_33 : decode cX13_paste 33 = .ok (.isub, 1) := by decide +kernel
theorem dX13_paste_34 : decode cX13_paste 34 = .ok (.ireturn, 1) := by decide +kernel
theorem dX13_paste_35 : decode cX13_paste 35 = .ok (.aload_n 0, 1) := by decide +kernel
theorem dX13_paste_36 : decode cX13_paste 36 = .ok (.iload_n 1, 1) := by decide +kernel
theorem dX13_paste_37 : decode cX13_paste 37 = .ok (.invokevirtual 214, 3) := by decide +kernel
theorem dX13_paste_40 : decode cX13_paste 40 = .ok (.iload_n 2, 1) := by decide +kernel
theorem dX13_paste_41 : decode cX13_paste 41 = .ok (.i2l, 1) := by decide +kernel
theorem dX13_paste_42 : decode cX13_paste 42 = .ok (.lstore 5, 2) := by decide +kernel
theorem dX13_paste_44 : decode cX13_paste 44 = .ok (.iload_n 3, 1) := by decide +kernel
theorem dX13_paste_45 : decode cX13_paste 45 = .ok (.i2l, 1) := by decide +kernel
theorem dX13_paste_46 : decode cX13_paste 46 = .ok (.lstore 7, 2) := by decide +kernel
theorem dX13_paste_48 : decode cX13_paste 48 = .ok (.iconst 0, 1) := by decide +kernel
theorem dX13_paste_49 : decode cX13_paste 49 = .ok (.istore 9, 2) := by decide +kernel
theorem dX13_paste_51 : decode cX13_paste 51 = .ok (.aload_n 0, 1) := by decide +kernel
theorem dX13_paste_52 : decode cX13_paste 52 = .ok (.iload 9, 2) := by decide +kernel
theorem dX13_paste_54 : decode cX13_paste 54 = .ok (.invokevirtual 275, 3) := by decide +kernel
theorem dX13_paste_57 : decode cX13_paste 57 = .ok (.bipush 33, 2) := by decide +kernel
theorem dX13_paste_59 : decode cX13_paste 59 = .ok (.if_icmp .eq 164, 3) := by decide +kernel
theorem dX13_paste_62 : decode cX13_paste 62 = .ok (.iload 9, 2) := by decide +kernel
theorem dX13_paste_64 : decode cX13_paste 64 = .ok (.istore 10, 2) := by decide +kernel
theorem dX13_paste_66 : decode cX13_paste 66 = .ok (.aload_n 0, 1) := by decide +kernel
theorem dX13_paste_67 : decode cX13_paste 67 = .ok (.iload 10, 2) := by decide +kernel
theorem dX13_paste_69 : decode cX13_paste 69 = .ok (.invokevirtual 293, 3) := by decide +kernel
theorem dX13_paste_72 : decode cX13_paste 72 = .ok (.ifCond .eq 9, 3) := by decide +kernel
theorem dX13_paste_75 : decode cX13_paste 75 = .ok (.iinc 10 1, 3) := by decide +kernel
theorem dX13_paste_78 : decode cX13_paste 78 = .ok (.goto (-12), 3) := by decide +kernel
theorem dX13_paste_81 : decode cX13_paste 81 = .ok (.aload_n 0, 1) := by decide +kernel
theorem dX13_paste_82 : decode cX13_paste 82 = .ok (.iload 9, 2) := by decide +kernel
theorem dX13_paste_84 : decode cX13_paste 84 = .ok (.iload 10, 2) := by decide +kernel
theorem dX13_paste_86 : decode cX13_paste 86 = .ok (.invokevirtual 331, 3) := by decide +kernel
theorem dX13_paste_89 : decode cX13_paste 89 = .ok (.istore 11, 2) := by decide +kernel
theorem dX13_paste_91 : decode cX13_paste 91 = .ok (.iconst 0, 1) := by decide +kernel
theorem dX13_paste_92 : decode cX13_paste 92 = .ok (.istore 12, 2) := by decide +kernel
theorem dX13_paste_94 : decode cX13_paste 94 = .ok (.iload 12, 2) := by decide +kernel
theorem dX13_paste_96 : decode cX13_paste 96 = .ok (.iload 11, 2) := by decide +kernel
theorem dX13_paste_98 : decode cX13_paste 98 = .ok (.if_icmp .ge 69, 3) := by decide +kernel
theorem dX13_paste_101 : decode cX13_paste 101 = .ok (.aload_n 0, 1) := by decide +kernel
theorem dX13_paste_102 : decode cX13_paste 102 = .ok (.iload 10, 2) := by decide +kernel
theorem dX13_paste_104 : decode cX13_paste 104 = .ok (.invokevirtual 275, 3) := by decide +kernel
theorem dX13_paste_107 : decode cX13_paste 107 = .ok (.bipush 36, 2) := by decide +kernel
theorem dX13_paste_109 : decode cX13_paste 109 = .ok (.if_icmp .eq 58, 3) := by decide +kernel
theorem dX13_paste_112 : decode cX13_paste 112 = .ok (.aload_n 0, 1) := by decide +kernel
theorem dX13_paste_113 : decode cX13_paste 113 = .ok (.lload 5, 2) := by decide +kernel
theorem dX13_paste_115 : decode cX13_paste 115 = .ok (.iload 12, 2) := by decide +kernel
theorem dX13_paste_117 : decode cX13_paste 117 = .ok (.i2l, 1) := by decide +kernel
theorem dX13_paste_118 : decode cX13_paste 118 = .ok (.ladd, 1) := by decide +kernel
theorem dX13_paste_119 : decode cX13_paste 119 = .ok (.lload 7, 2) := by decide +kernel
theorem dX13_paste_121 : decode cX13_paste 121 = .ok (.invokevirtual 195, 3) := by decide +kernel
theorem dX13_paste_124 : decode cX13_paste 124 = .ok (.ifCond .eq 37, 3) := by decide +kernel
theorem dX13_paste_127 : decode cX13_paste 127 = .ok (.aload_n 0, 1) := by decide +kernel
theorem dX13_paste_128 : decode cX13_paste 128 = .ok (.getfield 21, 3) := by decide +kernel
theorem dX13_paste_131 : decode cX13_paste 131 = .ok (.bipush 64, 2) := by decide +kernel
theorem dX13_paste_133 : decode cX13_paste 133 = .ok (.lload 7, 2) := by decide +kernel
theorem dX13_paste_135 : decode cX13_paste 135 = .ok (.l2i, 1) := by decide +kernel
theorem dX13_paste_136 : decode cX13_paste 136 = .ok (.imul, 1) := by decide +kernel
theorem dX13_paste_137 : decode cX13_paste 137 = .ok (.lload 5, 2) := by decide +kernel
theorem dX13_paste_139 : decode cX13_paste 139 = .ok (.l2i, 1) := by decide +kernel
theorem dX13_paste_140 : decode cX13_paste 140 = .ok (.iadd, 1) := by decide +kernel
theorem dX13_paste_141 : decode cX13_paste 141 = .ok (.iload 12, 2) := by decide +kernel
theorem dX13_paste_143 : decode cX13_paste 143 = .ok (.iadd, 1) := by decide +kernel
theorem dX13_paste_144 : decode cX13_paste 144 = .ok (.aload_n 0, 1) := by decide +kernel
theorem dX13_paste_145 : decode cX13_paste 145 = .ok (.iload 10, 2) := by decide +kernel
theorem dX13_paste_147 : decode cX13_paste 147 = .ok (.invokevirtual 275, 3) := by decide +kernel
theorem dX13_paste_150 : decode cX13_paste 150 = .ok (.bipush 111, 2) := by decide +kernel
theorem dX13_paste_152 : decode cX13_paste 152 = .ok (.if_icmp .ne 7, 3) := by decide +kernel
theorem dX13_paste_155 : decode cX13_paste 155 = .ok (.iconst 1, 1) := by decide +kernel
theorem dX13_paste_156 : decode cX13_paste 156 = .ok (.goto 4, 3) := by decide +kernel
theorem dX13_paste_159 : decode cX13_paste 159 = .ok (.iconst 0, 1) := by decide +kernel
theorem dX13_paste_160 : decode cX13_paste 160 = .ok (.bastore, 1) := by decide +kernel
theorem dX13_paste_161 : decode cX13_paste 161 = .ok (.iinc 12 1, 3) := by decide +kernel
theorem dX13_paste_164 : decode cX13_paste 164 = .ok (.goto (-70), 3) := by decide +kernel
theorem dX13_paste_167 : decode cX13_paste 167 = .ok (.aload_n 0, 1) := by decide +kernel
theorem dX13_paste_168 : decode cX13_paste 168 = .ok (.iload 10, 2) := by decide +kernel
theorem dX13_paste_170 : decode cX13_paste 170 = .ok (.invokevirtual 275, 3) := by decide +kernel
theorem dX13_paste_173 : decode cX13_paste 173 = .ok (.bipush 36, 2) := by decide +kernel
theorem dX13_paste_175 : decode cX13_paste 175 = .ok (.if_icmp .ne 8, 3) := by decide +kernel
theorem dX13_paste_178 : decode cX13_paste 178 = .ok (.iload_n 2, 1) := by decide +kernel
theorem dX13_paste_179 : decode cX13_paste 179 = .ok (.i2l, 1) := by decide +kernel
theorem dX13_paste_180 : decode cX13_paste 180 = .ok (.goto 9, 3) := by decide +kernel
theorem dX13_paste_183 : decode cX13_paste 183 = .ok (.lload 5, 2) := by decide +kernel
theorem dX13_paste_185 : decode cX13_paste 185 = .ok (.iload 11, 2) := by decide +kernel
theorem dX13_paste_187 : decode cX13_paste 187 = .ok (.i2l, 1) := by decide +kernel
theorem dX13_paste_188 : decode cX13_paste 188 = .ok (.ladd, 1) := by decide +kernel
theorem dX13_paste_189 : decode cX13_paste 189 = .ok (.lstore 5, 2) := by decide +kernel
theorem dX13_paste_191 : decode cX13_paste 191 = .ok (.lload 7, 2) := by decide +kernel
theorem dX13_paste_193 : decode cX13_paste 193 = .ok (.aload_n 0, 1) := by decide +kernel
theorem dX13_paste_194 : decode cX13_paste 194 = .ok (.iload 10, 2) := by decide +kernel
theorem dX13_paste_196 : decode cX13_paste 196 = .ok (.invokevirtual 275, 3) := by decide +kernel
theorem dX13_paste_199 : decode cX13_paste 199 = .ok (.bipush 36, 2) := by decide +kernel
theorem dX13_paste_201 : decode cX13_paste 201 = .ok (.if_icmp .ne 9, 3) := by decide +kernel
theorem dX13_paste_204 : decode cX13_paste 204 = .ok (.iload 11, 2) := by decide +kernel
theorem dX13_paste_206 : decode cX13_paste 206 = .ok (.i2l, 1) := by decide +kernel
theorem dX13_paste_207 : decode cX13_paste 207 = .ok (.goto 4, 3) := by decide +kernel
theorem dX13_paste_210 : decode cX13_paste 210 = .ok (.lconst 0, 1) := by decide +kernel
theorem dX13_paste_211 : decode cX13_paste 211 = .ok (.ladd, 1) := by decide +kernel
theorem dX13_paste_212 : decode cX13_paste 212 = .ok (.lstore 7, 2) := by decide +kernel
theorem dX13_paste_214 : decode cX13_paste 214 = .ok (.iload 10, 2) := by decide +kernel
theorem dX13_paste_216 : decode cX13_paste 216 = .ok (.iconst 1, 1) := by decide +kernel
theorem dX13_paste_217 : decode cX13_paste 217 = .ok (.iadd, 1) := by decide +kernel
theorem dX13_paste_218 : decode cX13_paste 218 = .ok (.istore 9, 2) := by decide +kernel
theorem dX13_paste_220 : decode cX13_paste 220 = .ok (.goto (-169), 3) := by decide +kernel
theorem dX13_paste_223 : decode cX13_paste 223 = .ok (.aload_n 0, 1) := by decide +kernel
theorem dX13_paste_224 : decode cX13_paste 224 = .ok (.iconst 0, 1) := by decide +kernel
theorem dX13_paste_225 : decode cX13_paste 225 = .ok (.putfield 272, 3) := by decide +kernel
theorem dX13_paste_228 : decode cX13_paste 228 = .ok (.aload_n 0, 1) := by decide +kernel
theorem dX13_paste_229 : decode cX13_paste 229 = .ok (.iload_n 1, 1) := by decide +kernel
theorem dX13_paste_230 : decode cX13_paste 230 = .ok (.invokevirtual 218, 3) := by decide +kernel
theorem dX13_paste_233 : decode cX13_paste 233 = .ok (.ireturn, 1) := by decide +kernel
theorem dX13_readsPattern_0 : decode cX13_readsPattern 0 = .ok (.iconst 0, 1) := by decide +kernel
theorem dX13_readsPattern_1 : decode cX13_readsPattern 1 = .ok (.istore_n 1, 1) := by decide +kernel
theorem dX13_readsPattern_2 : decode cX13_readsPattern 2 = .ok (.iload_n 1, 1) := by decide +kernel
theorem dX13_readsPattern_3 : decode cX13_readsPattern 3 = .ok (.aload_n 0, 1) := by decide +kernel
theorem dX13_readsPattern_4 : decode cX13_readsPattern 4 = .ok (.getfield 272, 3) := by decide +kernel
theorem dX13_readsPattern_7 : decode cX13_readsPattern 7 = .ok (.if_icmp .ge 126, 3) := by decide +kernel
theorem dX13_readsPattern_10 : decode cX13_readsPattern 10 = .ok (.iload_n 1, 1) := by decide +kernel
theorem dX13_readsPattern_11 : decode cX13_readsPattern 11 = .ok (.istore_n 2, 1) := by decide +kernel
theorem dX13_readsPattern_12 : decode cX13_readsPattern 12 = .ok (.aload_n 0, 1) := by decide +kernel
theorem dX13_readsPattern_13 : decode cX13_readsPattern 13 = .ok (.iload_n 2, 1) := by decide +kernel
theorem dX13_readsPattern_14 : decode cX13_readsPattern 14 = .ok (.invokevirtual 293, 3) := by decide +kernel
theorem dX13_readsPattern_17 : decode cX13_readsPattern 17 = .ok (.ifCond .eq 18, 3) := by decide +kernel
theorem dX13_readsPattern_20 : decode cX13_readsPattern 20 = .ok (.iload_n 2, 1) := by decide +kernel
theorem dX13_readsPattern_21 : decode cX13_readsPattern 21 = .ok (.iload_n 1, 1) := by decide +kernel
theorem dX13_readsPattern_22 : decode cX13_readsPattern 22 = .ok (.isub, 1) := by decide +kernel
theorem dX13_readsPattern_23 : decode cX13_readsPattern 23 = .ok (.iconst 2, 1) := by decide +kernel
theorem dX13_readsPattern_24 : decode cX13_readsPattern 24 = .ok (.if_icmp .ne 5, 3) := by decide +kernel
theorem dX13_readsPattern_27 : decode cX13_readsPattern 27 = .ok (.iload_n 2, 1) := by decide +kernel
theorem dX13_readsPattern_28 : decode cX13_readsPattern 28 = .ok (.ireturn, 1) := by decide +kernel
theorem dX13_readsPattern_29 : decode cX13_readsPattern 29 = .ok (.iinc 2 1, 3) := by decide +kernel
theorem dX13_readsPattern_32 : decode cX13_readsPattern 32 = .ok (.goto (-20), 3) := by decide +kernel
theorem dX13_readsPattern_35 : decode cX13_readsPattern 35 = .ok (.iload_n 2, 1) := by decide +kernel
theorem dX13_readsPattern_36 : decode cX13_readsPattern 36 = .ok (.iload_n 1, 1) := by decide +kernel
theorem dX13_readsPattern_37 : decode cX13_readsPattern 37 = .ok (.if_icmp .le 22, 3) := by decide +kernel
theorem dX13_readsPattern_40 : decode cX13_readsPattern 40 = .ok (.aload_n 0, 1) := by decide +kernel
theorem dX13_readsPattern_41 : decode cX13_readsPattern 41 = .ok (.iload_n 1, 1) := by decide +kernel
theorem dX13_readsPattern_42 : decode cX13_readsPattern 42 = .ok (.iload_n 2, 1) := by decide +kernel
theorem dX13_readsPattern_43 : decode cX13_readsPattern 43 = .ok (.invokevirtual 331, 3) := by decide +kernel
theorem dX13_readsPattern_46 : decode cX13_readsPattern 46 = .ok (.i2l, 1) := by decide +kernel
theorem dX13_readsPattern_47 : decode cX13_readsPattern 47 = .ok (.lconst 1, 1) := by decide +kernel
theorem dX13_readsPattern_48 : decode cX13_readsPattern 48 = .ok (.ldc2_w 244, 3) := by decide +kernel
theorem dX13_readsPattern_51 : decode cX13_readsPattern 51 = .ok (.invokestatic 191, 3) := by decide +kernel
theorem dX13_readsPattern_54 : decode cX13_readsPattern 54 = .ok (.ifCond .ne 5, 3) := by decide +kernel
theorem dX13_readsPattern_57 : decode cX13_readsPattern 57 = .ok (.iload_n 1, 1) := by decide +kernel
theorem dX13_readsPattern_58 : decode cX13_readsPattern 58 = .ok (.ireturn, 1) := by decide +kernel
theorem dX13_readsPattern_59 : decode cX13_readsPattern 59 = .ok (.aload_n 0, 1) := by decide +kernel
theorem dX13_readsPattern_60 : decode cX13_readsPattern 60 = .ok (.iload_n 2, 1) := by decide +kernel
theorem dX13_readsPattern_61 : decode cX13_readsPattern 61 = .ok (.invokevirtual 275, 3) := by decide +kernel
theorem dX13_readsPattern_64 : decode cX13_readsPattern 64 = .ok (.istore_n 3, 1) := by decide +kernel
theorem dX13_readsPattern_65 : decode cX13_readsPattern 65 = .ok (.iload_n 3, 1) := by decide +kernel
theorem dX13_readsPattern_66 : decode cX13_readsPattern 66 = .ok (.bipush 33, 2) := by decide +kernel
theorem dX13_readsPattern_68 : decode cX13_readsPattern 68 = .ok (.if_icmp .ne 30, 3) := by decide +kernel
theorem dX13_readsPattern_71 : decode cX13_readsPattern 71 = .ok (.iload_n 2, 1) := by decide +kernel
theorem dX13_readsPattern_72 : decode cX13_readsPattern 72 = .ok (.iload_n 1, 1) := by decide +kernel
theorem dX13_readsPattern_73 : decode cX13_readsPattern 73 = .ok (.if_icmp .le 7, 3) := by decide +kernel
theorem dX13_readsPattern_76 : decode cX13_readsPattern 76 = .ok (.iload_n 2, 1) := by decide +kernel
theorem dX13_readsPattern_77 : decode cX13_readsPattern 77 = .ok (.goto 20, 3) := by decide +kernel
theorem dX13_readsPattern_80 : decode cX13_readsPattern 80 = .ok (.iload_n 2, 1) := by decide +kernel
theorem dX13_readsPattern_81 : decode cX13_readsPattern 81 = .ok (.iconst 1, 1) := by decide +kernel
theorem dX13_readsPattern_82 : decode cX13_readsPattern 82 = .ok (.iadd, 1) := by decide +kernel
theorem dX13_readsPattern_83 : decode cX13_readsPattern 83 = .ok (.aload_n 0, 1) := by decide +kernel
theorem dX13_readsPattern_84 : decode cX13_readsPattern 84 = .ok (.getfield 272, 3) := by decide +kernel
theorem dX13_readsPattern_87 : decode cX13_readsPattern 87 = .ok (.if_icmp .ge 9, 3) := by decide +kernel
theorem dX13_readsPattern_90 : decode cX13_readsPattern 90 = .ok (.iload_n 2, 1) := by decide +kernel
theorem dX13_readsPattern_91 : decode cX13_readsPattern 91 = .ok (.iconst 1, 1) := by decide +kernel
theorem dX13_readsPattern_92 : decode cX13_readsPattern 92 = .ok (.iadd, 1) := by decide +kernel
theorem dX13_readsPattern_93 : decode cX13_readsPattern 93 = .ok (.goto 4, 3) := by decide +kernel
theorem dX13_readsPattern_96 : decode cX13_readsPattern 96 = .ok (.iconst (-1), 1) := by decide +kernel
theorem dX13_readsPattern_97 : decode cX13_readsPattern 97 = .ok (.ireturn, 1) := by decide +kernel
theorem dX13_readsPattern_98 : decode cX13_readsPattern 98 = .ok (.iload_n 2, 1) := by decide +kernel
theorem dX13_readsPattern_99 : decode cX13_readsPattern 99 = .ok (.aload_n 0, 1) := by decide +kernel
theorem dX13_readsPattern_100 : decode cX13_readsPattern 100 = .ok (.getfield 272, 3) := by decide +kernel
theorem dX13_readsPattern_103 : decode cX13_readsPattern 103 = .ok (.if_icmp .ge 23, 3) := by decide +kernel
theorem dX13_readsPattern_106 : decode cX13_readsPattern 106 = .ok (.iload_n 3, 1) := by decide +kernel
theorem dX13_readsPattern_107 : decode cX13_readsPattern 107 = .ok (.bipush 111, 2) := by decide +kernel
theorem dX13_readsPattern_109 : decode cX13_readsPattern 109 = .ok (.if_icmp .eq 17, 3) := by decide +kernel
theorem dX13_readsPattern_112 : decode cX13_readsPattern 112 = .ok (.iload_n 3, 1) := by decide +kernel
theorem dX13_readsPattern_113 : decode cX13_readsPattern 113 = .ok (.bipush 98, 2) := by decide +kernel
theorem dX13_readsPattern_115 : decode cX13_readsPattern 115 = .ok (.if_icmp .eq 11, 3) := by decide +kernel
theorem dX13_readsPattern_118 : decode cX13_readsPattern 118 = .ok (.iload_n 3, 1) := by decide +kernel
theorem dX13_readsPattern_119 : decode cX13_readsPattern 119 = .ok (.bipush 36, 2) := by decide +kernel
theorem dX13_readsPattern_121 : decode cX13_readsPattern 121 = .ok (.if_icmp .eq 5, 3) := by decide +kernel
theorem dX13_readsPattern_124 : decode cX13_readsPattern 124 = .ok (.iload_n 2, 1) := by decide +kernel
theorem dX13_readsPattern_125 : decode cX13_readsPattern 125 = .ok (.ireturn, 1) := by decide +kernel
theorem dX13_readsPattern_126 : decode cX13_readsPattern 126 = .ok (.iload_n 2, 1) := by decide +kernel
theorem dX13_readsPattern_127 : decode cX13_readsPattern 127 = .ok (.iconst 1, 1) := by decide +kernel
theorem dX13_readsPattern_128 : decode cX13_readsPattern 128 = .ok (.iadd, 1) := by decide +kernel
theorem dX13_readsPattern_129 : decode cX13_readsPattern 129 = .ok (.istore_n 1, 1) := by decide +kernel
theorem dX13_readsPattern_130 : decode cX13_readsPattern 130 = .ok (.goto (-128), 3) := by decide +kernel
theorem dX13_readsPattern_133 : decode cX13_readsPattern 133 = .ok (.aload_n 0, 1) := by decide +kernel
theorem dX13_readsPattern_134 : decode cX13_readsPattern 134 = .ok (.getfield 272, 3) := by decide +kernel
theorem dX13_readsPattern_137 : decode cX13_readsPattern 137 = .ok (.ireturn, 1) := by decide +kernel
theorem dX13_countOf_0 : decode cX13_countOf 0 = .ok (.iload_n 2, 1) := by decide +kernel
theorem dX13_countOf_1 : decode cX13_countOf 1 = .ok (.iload_n 1, 1) := by decide +kernel
theorem dX13_countOf_2 : decode cX13_countOf 2 = .ok (.if_icmp .ne 7, 3) := by decide +kernel
theorem dX13_countOf_5 : decode cX13_countOf 5 = .ok (.iconst 1, 1) := by decide +kernel
theorem dX13_countOf_6 : decode cX13_countOf 6 = .ok (.goto 4, 3) := by decide +kernel
theorem dX13_countOf_9 : decode cX13_countOf 9 = .ok (.iconst 0, 1) := by decide +kernel
theorem dX13_countOf_10 : decode cX13_countOf 10 = .ok (.istore_n 3, 1) := by decide +kernel
theorem dX13_countOf_11 : decode cX13_countOf 11 = .ok (.iload_n 1, 1) := by decide +kernel
theorem dX13_countOf_12 : decode cX13_countOf 12 = .ok (.istore 4, 2) := by decide +kernel
theorem dX13_countOf_14 : decode cX13_countOf 14 = .ok (.iload 4, 2) := by decide +kernel
theorem dX13_countOf_16 : decode cX13_countOf 16 = .ok (.iload_n 2, 1) := by decide +kernel
theorem dX13_countOf_17 : decode cX13_countOf 17 = .ok (.if_icmp .ge 25, 3) := by decide +kernel
theorem dX13_countOf_20 : decode cX13_countOf 20 = .ok (.bipush 10, 2) := by decide +kernel
theorem dX13_countOf_22 : decode cX13_countOf 22 = .ok (.iload_n 3, 1) := by decide +kernel
theorem dX13_countOf_23 : decode cX13_countOf 23 = .ok (.imul, 1) := by decide +kernel
theorem dX13_countOf_24 : decode cX13_countOf 24 = .ok (.aload_n 0, 1) := by decide +kernel
theorem dX13_countOf_25 : decode cX13_countOf 25 = .ok (.getfield 30, 3) := by decide +kernel
theorem dX13_countOf_28 : decode cX13_countOf 28 = .ok (.iload 4, 2) := by decide +kernel
theorem dX13_countOf_30 : decode cX13_countOf 30 = .ok (.iaload, 1) := by decide +kernel
theorem dX13_countOf_31 : decode cX13_countOf 31 = .ok (.iadd, 1) := by decide +kernel
theorem dX13_countOf_32 : decode cX13_countOf 32 = .ok (.bipush 48, 2) := by decide +kernel
theorem dX13_countOf_34 : decode cX13_countOf 34 = .ok (.isub, 1) := by decide +kernel
theorem dX13_countOf_35 : decode cX13_countOf 35 = .ok (.istore_n 3, 1) := by decide +kernel
theorem dX13_countOf_36 : decode cX13_countOf 36 = .ok (.iinc 4 1, 3) := by decide +kernel
theorem dX13_countOf_39 : decode cX13_countOf 39 = .ok (.goto (-25), 3) := by decide +kernel
theorem dX13_countOf_42 : decode cX13_countOf 42 = .ok (.iload_n 3, 1) := by decide +kernel
theorem dX13_countOf_43 : decode cX13_countOf 43 = .ok (.ireturn, 1) := by decide +kernel
theorem dX13_addMask_0 : decode cX13_addMask 0 = .ok (.aload_n 0, 1) := by decide +kernel
theorem dX13_addMask_1 : decode cX13_addMask 1 = .ok (.iconst 0, 1) := by decide +kernel
theorem dX13_addMask_2 : decode cX13_addMask 2 = .ok (.putfield 186, 3) := by decide +kernel
theorem dX13_addMask_5 : decode cX13_addMask 5 = .ok (.iload_n 1, 1) := by decide +kernel
theorem dX13_addMask_6 : decode cX13_addMask 6 = .ok (.ifCond .lt 47, 3) := by decide +kernel
theorem dX13_addMask_9 : decode cX13_addMask 9 = .ok (.iload_n 2, 1) := by decide +kernel
theorem dX13_addMask_10 : decode cX13_addMask 10 = .ok (.ifCond .lt 43, 3) := by decide +kernel
theorem dX13_addMask_13 : decode cX13_addMask 13 = .ok (.iload_n 3, 1) := by decide +kernel
theorem dX13_addMask_14 : decode cX13_addMask 14 = .ok (.iconst 1, 1) := by decide +kernel
theorem dX13_addMask_15 : decode cX13_addMask 15 = .ok (.if_icmp .lt 38, 3) := by decide +kernel
theorem dX13_addMask_18 : decode cX13_addMask 18 = .ok (.iload 4, 2) := by decide +kernel
theorem dX13_addMask_20 : decode cX13_addMask 20 = .ok (.iconst 1, 1) := by decide +kernel
theorem dX13_addMask_21 : decode cX13_addMask 21 = .ok (.if_icmp .lt 32, 3) := by decide +kernel
theorem dX13_addMask_24 : decode cX13_addMask 24 = .ok (.iload_n 1, 1) := by decide +kernel
theorem dX13_addMask_25 : decode cX13_addMask 25 = .ok (.i2l, 1) := by decide +kernel
theorem dX13_addMask_26 : decode cX13_addMask 26 = .ok (.iload_n 3, 1) := by decide +kernel
theorem dX13_addMask_27 : decode cX13_addMask 27 = .ok (.i2l, 1) := by decide +kernel
theorem dX13_addMask_28 : decode cX13_addMask 28 = .ok (.ladd, 1) := by decide +kernel
theorem dX13_addMask_29 : decode cX13_addMask 29 = .ok (.aload_n 0, 1) := by decide +kernel
theorem dX13_addMask_30 : decode cX13_addMask 30 = .ok (.getfield 179, 3) := by decide +kernel
theorem dX13_addMask_33 : decode cX13_addMask 33 = .ok (.i2l, 1) := by decide +kernel
theorem dX13_addMask_34 : decode cX13_addMask 34 = .ok (.lcmp, 1) := by decide +kernel
theorem dX13_addMask_35 : decode cX13_addMask 35 = .ok (.ifCond .gt 18, 3) := by decide +kernel
theorem dX13_addMask_38 : decode cX13_addMask 38 = .ok (.iload_n 2, 1) := by decide +kernel
theorem dX13_addMask_39 : decode cX13_addMask 39 = .ok (.i2l, 1) := by decide +kernel
theorem dX13_addMask_40 : decode cX13_addMask 40 = .ok (.iload 4, 2) := by decide +kernel
theorem dX13_addMask_42 : decode cX13_addMask 42 = .ok (.i2l, 1) := by decide +kernel
theorem dX13_addMask_43 : decode cX13_addMask 43 = .ok (.ladd, 1) := by decide +kernel
theorem dX13_addMask_44 : decode cX13_addMask 44 = .ok (.aload_n 0, 1) := by decide +kernel
theorem dX13_addMask_45 : decode cX13_addMask 45 = .ok (.getfield 183, 3) := by decide +kernel
theorem dX13_addMask_48 : decode cX13_addMask 48 = .ok (.i2l, 1) := by decide +kernel
theorem dX13_addMask_49 : decode cX13_addMask 49 = .ok (.lcmp, 1) := by decide +kernel
theorem dX13_addMask_50 : decode cX13_addMask 50 = .ok (.ifCond .le 9, 3) := by decide +kernel
theorem dX13_addMask_53 : decode cX13_addMask 53 = .ok (.aload_n 0, 1) := by decide +kernel
theorem dX13_addMask_54 : decode cX13_addMask 54 = .ok (.iconst 1, 1) := by decide +kernel
theorem dX13_addMask_55 : decode cX13_addMask 55 = .ok (.invokevirtual 206, 3) := by decide +kernel
theorem dX13_addMask_58 : decode cX13_addMask 58 = .ok (.ireturn, 1) := by decide +kernel
theorem dX13_addMask_59 : decode cX13_addMask 59 = .ok (.aload_n 0, 1) := by decide +kernel
theorem dX13_addMask_60 : decode cX13_addMask 60 = .ok (.getfield 337, 3) := by decide +kernel
theorem dX13_addMask_63 : decode cX13_addMask 63 = .ok (.bipush 6, 2) := by decide +kernel
theorem dX13_addMask_65 : decode cX13_addMask 65 = .ok (.if_icmp .ne 9, 3) := by decide +kernel
theorem dX13_addMask_68 : decode cX13_addMask 68 = .ok (.aload_n 0, 1) := by decide +kernel
theorem dX13_addMask_69 : decode cX13_addMask 69 = .ok (.iconst 2, 1) := by decide +kernel
theorem dX13_addMask_70 : decode cX13_addMask 70 = .ok (.invokevirtual 206, 3) := by decide +kernel
theorem dX13_addMask_73 : decode cX13_addMask 73 = .ok (.ireturn, 1) := by decide +kernel
theorem dX13_addMask_74 : decode cX13_addMask 74 = .ok (.aload_n 0, 1) := by decide +kernel
theorem dX13_addMask_75 : decode cX13_addMask 75 = .ok (.getfield 62, 3) := by decide +kernel
theorem dX13_addMask_78 : decode cX13_addMask 78 = .ok (.aload_n 0, 1) := by decide +kernel
theorem dX13_addMask_79 : decode cX13_addMask 79 = .ok (.getfield 337, 3) := by decide +kernel
theorem dX13_addMask_82 : decode cX13_addMask 82 = .ok (.iload_n 1, 1) := by decide +kernel
theorem dX13_addMask_83 : decode cX13_addMask 83 = .ok (.iastore, 1) := by decide +kernel
theorem dX13_addMask_84 : decode cX13_addMask 84 = .ok (.aload_n 0, 1) := by decide +kernel
theorem dX13_addMask_85 : decode cX13_addMask 85 = .ok (.getfield 65, 3) := by decide +kernel
theorem dX13_addMask_88 : decode cX13_addMask 88 = .ok (.aload_n 0, 1) := by decide +kernel
theorem dX13_addMask_89 : decode cX13_addMask 89 = .ok (.getfield 337, 3) := by decide +kernel
theorem dX13_addMask_92 : decode cX13_addMask 92 = .ok (.iload_n 2, 1) := by decide +kernel
theorem dX13_addMask_93 : decode cX13_addMask 93 = .ok (.iastore, 1) := by decide +kernel
theorem dX13_addMask_94 : decode cX13_addMask 94 = .ok (.aload_n 0, 1) := by decide +kernel
theorem dX13_addMask_95 : decode cX13_addMask 95 = .ok (.getfield 68, 3) := by decide +kernel
theorem dX13_addMask_98 : decode cX13_addMask 98 = .ok (.aload_n 0, 1) := by decide +kernel
theorem dX13_addMask_99 : decode cX13_addMask 99 = .ok (.getfield 337, 3) := by decide +kernel
theorem dX13_addMask_102 : decode cX13_addMask 102 = .ok (.iload_n 3, 1) := by decide +kernel
theorem dX13_addMask_103 : decode cX13_addMask 103 = .ok (.iastore, 1) := by decide +kernel
theorem dX13_addMask_104 : decode cX13_addMask 104 = .ok (.aload_n 0, 1) := by decide +kernel
theorem dX13_addMask_105 : decode cX13_addMask 105 = .ok (.getfield 71, 3) := by decide +kernel
theorem dX13_addMask_108 : decode cX13_addMask 108 = .ok (.aload_n 0, 1) := by decide +kernel
theorem dX13_addMask_109 : decode cX13_addMask 109 = .ok (.getfield 337, 3) := by decide +kernel
theorem dX13_addMask_112 : decode cX13_addMask 112 = .ok (.iload 4, 2) := by decide +kernel
theorem dX13_addMask_114 : decode cX13_addMask 114 = .ok (.iastore, 1) := by decide +kernel
theorem dX13_addMask_115 : decode cX13_addMask 115 = .ok (.aload_n 0, 1) := by decide +kernel
theorem dX13_addMask_116 : decode cX13_addMask 116 = .ok (.dup, 1) := by decide +kernel
theorem dX13_addMask_117 : decode cX13_addMask 117 = .ok (.getfield 337, 3) := by decide +kernel
theorem dX13_addMask_120 : decode cX13_addMask 120 = .ok (.iconst 1, 1) := by decide +kernel
theorem dX13_addMask_121 : decode cX13_addMask 121 = .ok (.iadd, 1) := by decide +kernel
theorem dX13_addMask_122 : decode cX13_addMask 122 = .ok (.putfield 337, 3) := by decide +kernel
theorem dX13_addMask_125 : decode cX13_addMask 125 = .ok (.aload_n 0, 1) := by decide +kernel
theorem dX13_addMask_126 : decode cX13_addMask 126 = .ok (.getfield 337, 3) := by decide +kernel
theorem dX13_addMask_129 : decode cX13_addMask 129 = .ok (.ireturn, 1) := by decide +kernel
theorem dX13_removeMask_0 : decode cX13_removeMask 0 = .ok (.aload_n 0, 1) := by decide +kernel
theorem dX13_removeMask_1 : decode cX13_removeMask 1 = .ok (.iconst 0, 1) := by decide +kernel
theorem dX13_removeMask_2 : decode cX13_removeMask 2 = .ok (.putfield 186, 3) := by decide +kernel
theorem dX13_removeMask_5 : decode cX13_removeMask 5 = .ok (.iload_n 1, 1) := by decide +kernel
theorem dX13_removeMask_6 : decode cX13_removeMask 6 = .ok (.i2l, 1) := by decide +kernel
theorem dX13_removeMask_7 : decode cX13_removeMask 7 = .ok (.lconst 0, 1) := by decide +kernel
theorem dX13_removeMask_8 : decode cX13_removeMask 8 = .ok (.aload_n 0, 1) := by decide +kernel
theorem dX13_removeMask_9 : decode cX13_removeMask 9 = .ok (.getfield 337, 3) := by decide +kernel
theorem dX13_removeMask_12 : decode cX13_removeMask 12 = .ok (.iconst 1, 1) := by decide +kernel
theorem dX13_removeMask_13 : decode cX13_removeMask 13 = .ok (.isub, 1) := by decide +kernel
theorem dX13_removeMask_14 : decode cX13_removeMask 14 = .ok (.i2l, 1) := by decide +kernel
theorem dX13_removeMask_15 : decode cX13_removeMask 15 = .ok (.invokestatic 191, 3) := by decide +kernel
theorem dX13_removeMask_18 : decode cX13_removeMask 18 = .ok (.ifCond .ne 9, 3) := by decide +kernel
theorem dX13_removeMask_21 : decode cX13_removeMask 21 = .ok (.aload_n 0, 1) := by decide +kernel
theorem dX13_removeMask_22 : decode cX13_removeMask 22 = .ok (.iconst 1, 1) := by decide +kernel
theorem dX13_removeMask_23 : decode cX13_removeMask 23 = .ok (.invokevirtual 206, 3) := by decide +kernel
theorem dX13_removeMask_26 : decode cX13_removeMask 26 = .ok (.ireturn, 1) := by decide +kernel
theorem dX13_removeMask_27 : decode cX13_removeMask 27 = .ok (.aload_n 0, 1) := by decide +kernel
theorem dX13_removeMask_28 : decode cX13_removeMask 28 = .ok (.dup, 1) := by decide +kernel
theorem dX13_removeMask_29 : decode cX13_removeMask 29 = .ok (.getfield 337, 3) := by decide +kernel
theorem dX13_removeMask_32 : decode cX13_removeMask 32 = .ok (.iconst 1, 1) := by decide +kernel
theorem dX13_removeMask_33 : decode cX13_removeMask 33 = .ok (.isub, 1) := by decide +kernel
theorem dX13_removeMask_34 : decode cX13_removeMask 34 = .ok (.putfield 337, 3) := by decide +kernel
theorem dX13_removeMask_37 : decode cX13_removeMask 37 = .ok (.iload_n 1, 1) := by decide +kernel
theorem dX13_removeMask_38 : decode cX13_removeMask 38 = .ok (.istore_n 2, 1) := by decide +kernel
theorem dX13_removeMask_39 : decode cX13_removeMask 39 = .ok (.iload_n 2, 1) := by decide +kernel
theorem dX13_removeMask_40 : decode cX13_removeMask 40 = .ok (.aload_n 0, 1) := by decide +kernel
theorem dX13_removeMask_41 : decode cX13_removeMask 41 = .ok (.getfield 337, 3) := by decide +kernel
theorem dX13_removeMask_44 : decode cX13_removeMask 44 = .ok (.if_icmp .ge 65, 3) := by decide +kernel
theorem dX13_removeMask_47 : decode cX13_removeMask 47 = .ok (.aload_n 0, 1) := by decide +kernel
theorem dX13_removeMask_48 : decode cX13_removeMask 48 = .ok (.getfield 62, 3) := by decide +kernel
theorem dX13_removeMask_51 : decode cX13_removeMask 51 = .ok (.iload_n 2, 1) := by decide +kernel
theorem dX13_removeMask_52 : decode cX13_removeMask 52 = .ok (.aload_n 0, 1) := by decide +kernel
theorem dX13_removeMask_53 : decode cX13_removeMask 53 = .ok (.getfield 62, 3) := by decide +kernel
theorem dX13_removeMask_56 : decode cX13_removeMask 56 = .ok (.iload_n 2, 1) := by decide +kernel
theorem dX13_removeMask_57 : decode cX13_removeMask 57 = .ok (.iconst 1, 1) := by decide +kernel
theorem dX13_removeMask_58 : decode cX13_removeMask 58 = .ok (.iadd, 1) := by decide +kernel
theorem dX13_removeMask_59 : decode cX13_removeMask 59 = .ok (.iaload, 1) := by decide +kernel
theorem dX13_removeMask_60 : decode cX13_removeMask 60 = .ok (.iastore, 1) := by decide +kernel
theorem dX13_removeMask_61 : decode cX13_removeMask 61 = .ok (.aload_n 0, 1) := by decide +kernel
theorem dX13_removeMask_62 : decode cX13_removeMask 62 = .ok (.getfield 65, 3) := by decide +kernel
theorem dX13_removeMask_65 : decode cX13_removeMask 65 = .ok (.iload_n 2, 1) := by decide +kernel
theorem dX13_removeMask_66 : decode cX13_removeMask 66 = .ok (.aload_n 0, 1) := by decide +kernel
theorem dX13_removeMask_67 : decode cX13_removeMask 67 = .ok (.getfield 65, 3) := by decide +kernel
theorem dX13_removeMask_70 : decode cX13_removeMask 70 = .ok (.iload_n 2, 1) := by decide +kernel
theorem dX13_removeMask_71 : decode cX13_removeMask 71 = .ok (.iconst 1, 1) := by decide +kernel
theorem dX13_removeMask_72 : decode cX13_removeMask 72 = .ok (.iadd, 1) := by decide +kernel
theorem dX13_removeMask_73 : decode cX13_removeMask 73 = .ok (.iaload, 1) := by decide +kernel
theorem dX13_removeMask_74 : decode cX13_removeMask 74 = .ok (.iastore, 1) := by decide +kernel
theorem dX13_removeMask_75 : decode cX13_removeMask 75 = .ok (.aload_n 0, 1) := by decide +kernel
theorem dX13_removeMask_76 : decode cX13_removeMask 76 = .ok (.getfield 68, 3) := by decide +kernel
theorem dX13_removeMask_79 : decode cX13_removeMask 79 = .ok (.iload_n 2, 1) := by decide +kernel
theorem dX13_removeMask_80 : decode cX13_removeMask 80 = .ok (.aload_n 0, 1) := by decide +kernel
theorem dX13_removeMask_81 : decode cX13_removeMask 81 = .ok (.getfield 68, 3) := by decide +kernel
theorem dX13_removeMask_84 : decode cX13_removeMask 84 = .ok (.iload_n 2, 1) := by decide +kernel
theorem dX13_removeMask_85 : decode cX13_removeMask 85 = .ok (.iconst 1, 1) := by decide +kernel
theorem dX13_removeMask_86 : decode cX13_removeMask 86 = .ok (.iadd, 1) := by decide +kernel
theorem dX13_removeMask_87 : decode cX13_removeMask 87 = .ok (.iaload, 1) := by decide +kernel
theorem dX13_removeMask_88 : decode cX13_removeMask 88 = .ok (.iastore, 1) := by decide +kernel
theorem dX13_removeMask_89 : decode cX13_removeMask 89 = .ok (.aload_n 0, 1) := by decide +kernel
theorem dX13_removeMask_90 : decode cX13_removeMask 90 = .ok (.getfield 71, 3) := by decide +kernel
theorem dX13_removeMask_93 : decode cX13_removeMask 93 = .ok (.iload_n 2, 1) := by decide +kernel
theorem dX13_removeMask_94 : decode cX13_removeMask 94 = .ok (.aload_n 0, 1) := by decide +kernel
theorem dX13_removeMask_95 : decode cX13_removeMask 95 = .ok (.getfield 71, 3) := by decide +kernel
theorem dX13_removeMask_98 : decode cX13_removeMask 98 = .ok (.iload_n 2, 1) := by decide +kernel
theorem dX13_removeMask_99 : decode cX13_removeMask 99 = .ok (.iconst 1, 1) := by decide +kernel
theorem dX13_removeMask_100 : decode cX13_removeMask 100 = .ok (.iadd, 1) := by decide +kernel
theorem dX13_removeMask_101 : decode cX13_removeMask 101 = .ok (.iaload, 1) := by decide +kernel
theorem dX13_removeMask_102 : decode cX13_removeMask 102 = .ok (.iastore, 1) := by decide +kernel
theorem dX13_removeMask_103 : decode cX13_removeMask 103 = .ok (.iinc 2 1, 3) := by decide +kernel
theorem dX13_removeMask_106 : decode cX13_removeMask 106 = .ok (.goto (-67), 3) := by decide +kernel
theorem dX13_removeMask_109 : decode cX13_removeMask 109 = .ok (.aload_n 0, 1) := by decide +kernel
theorem dX13_removeMask_110 : decode cX13_removeMask 110 = .ok (.getfield 337, 3) := by decide +kernel
theorem dX13_removeMask_113 : decode cX13_removeMask 113 = .ok (.ireturn, 1) := by decide +kernel
theorem dX13_compare_0 : decode cX13_compare 0 = .ok (.aload_n 0, 1) := by decide +kernel
theorem dX13_compare_1 : decode cX13_compare 1 = .ok (.iconst 0, 1) := by decide +kernel
theorem dX13_compare_2 : decode cX13_compare 2 = .ok (.putfield 186, 3) := by decide +kernel
theorem dX13_compare_5 : decode cX13_compare 5 = .ok (.iconst 0, 1) := by decide +kernel
theorem dX13_compare_6 : decode cX13_compare 6 = .ok (.istore_n 1, 1) := by decide +kernel
theorem dX13_compare_7 : decode cX13_compare 7 = .ok (.iload_n 1, 1) := by decide +kernel
theorem dX13_compare_8 : decode cX13_compare 8 = .ok (.sipush 4096, 3) := by decide +kernel
theorem dX13_compare_11 : decode cX13_compare 11 = .ok (.if_icmp .ge 37, 3) := by decide +kernel
theorem dX13_compare_14 : decode cX13_compare 14 = .ok (.aload_n 0, 1) := by decide +kernel
theorem dX13_compare_15 : decode cX13_compare 15 = .ok (.getfield 83, 3) := by decide +kernel
theorem dX13_compare_18 : decode cX13_compare 18 = .ok (.iload_n 1, 1) := by decide +kernel
theorem dX13_compare_19 : decode cX13_compare 19 = .ok (.aload_n 0, 1) := by decide +kernel
theorem dX13_compare_20 : decode cX13_compare 20 = .ok (.getfield 7, 3) := by decide +kernel
theorem dX13_compare_23 : decode cX13_compare 23 = .ok (.iload_n 1, 1) := by decide +kernel
theorem dX13_compare_24 : decode cX13_compare 24 = .ok (.baload, 1) := by decide +kernel
theorem dX13_compare_25 : decode cX13_compare 25 = .ok (.bastore, 1) := by decide +kernel
theorem dX13_compare_26 : decode cX13_compare 26 = .ok (.aload_n 0, 1) := by decide +kernel
theorem dX13_compare_27 : decode cX13_compare 27 = .ok (.getfield 86, 3) := by decide +kernel
theorem dX13_compare_30 : decode cX13_compare 30 = .ok (.iload_n 1, 1) := by decide +kernel
theorem dX13_compare_31 : decode cX13_compare 31 = .ok (.aload_n 0, 1) := by decide +kernel
theorem dX13_compare_32 : decode cX13_compare 32 = .ok (.getfield 7, 3) := by decide +kernel
theorem dX13_compare_35 : decode cX13_compare 35 = .ok (.sipush 4096, 3) := by decide +kernel
theorem dX13_compare_38 : decode cX13_compare 38 = .ok (.iload_n 1, 1) := by decide +kernel
theorem dX13_compare_39 : decode cX13_compare 39 = .ok (.iadd, 1) := by decide +kernel
theorem dX13_compare_40 : decode cX13_compare 40 = .ok (.baload, 1) := by decide +kernel
theorem dX13_compare_41 : decode cX13_compare 41 = .ok (.bastore, 1) := by decide +kernel
theorem dX13_compare_42 : decode cX13_compare 42 = .ok (.iinc 1 1, 3) := by decide +kernel
theorem dX13_compare_45 : decode cX13_compare 45 = .ok (.goto (-38), 3) := by decide +kernel
theorem dX13_compare_48 : decode cX13_compare 48 = .ok (.aload_n 0, 1) := by decide +kernel
theorem dX13_compare_49 : decode cX13_compare 49 = .ok (.aload_n 0, 1) := by decide +kernel
theorem dX13_compare_50 : decode cX13_compare 50 = .ok (.getfield 83, 3) := by decide +kernel
theorem dX13_compare_53 : decode cX13_compare 53 = .ok (.aload_n 0, 1) := by decide +kernel
theorem dX13_compare_54 : decode cX13_compare 54 = .ok (.getfield 33, 3) := by decide +kernel
theorem dX13_compare_57 : decode cX13_compare 57 = .ok (.iconst 3, 1) := by decide +kernel
theorem dX13_compare_58 : decode cX13_compare 58 = .ok (.iaload, 1) := by decide +kernel
theorem dX13_compare_59 : decode cX13_compare 59 = .ok (.invokevirtual 246, 3) := by decide +kernel
theorem dX13_compare_62 : decode cX13_compare 62 = .ok (.pop, 1) := by decide +kernel
theorem dX13_compare_63 : decode cX13_compare 63 = .ok (.aload_n 0, 1) := by decide +kernel
theorem dX13_compare_64 : decode cX13_compare 64 = .ok (.aload_n 0, 1) := by decide +kernel
theorem dX13_compare_65 : decode cX13_compare 65 = .ok (.getfield 86, 3) := by decide +kernel
theorem dX13_compare_68 : decode cX13_compare 68 = .ok (.aload_n 0, 1) := by decide +kernel
theorem dX13_compare_69 : decode cX13_compare 69 = .ok (.getfield 33, 3) := by decide +kernel
theorem dX13_compare_72 : decode cX13_compare 72 = .ok (.iconst 3, 1) := by decide +kernel
theorem dX13_compare_73 : decode cX13_compare 73 = .ok (.iaload, 1) := by decide +kernel
theorem dX13_compare_74 : decode cX13_compare 74 = .ok (.invokevirtual 246, 3) := by decide +kernel
theorem dX13_compare_77 : decode cX13_compare 77 = .ok (.pop, 1) := by decide +kernel
theorem dX13_compare_78 : decode cX13_compare 78 = .ok (.aload_n 0, 1) := by decide +kernel
theorem dX13_compare_79 : decode cX13_compare 79 = .ok (.invokevirtual 484, 3) := by decide +kernel
theorem dX13_compare_82 : decode cX13_compare 82 = .ok (.aload_n 0, 1) := by decide +kernel
theorem dX13_compare_83 : decode cX13_compare 83 = .ok (.invokevirtual 487, 3) := by decide +kernel
theorem dX13_compare_86 : decode cX13_compare 86 = .ok (.aload_n 0, 1) := by decide +kernel
theorem dX13_compare_87 : decode cX13_compare 87 = .ok (.invokevirtual 490, 3) := by decide +kernel
theorem dX13_compare_90 : decode cX13_compare 90 = .ok (.aload_n 0, 1) := by decide +kernel
theorem dX13_compare_91 : decode cX13_compare 91 = .ok (.invokevirtual 493, 3) := by decide +kernel
theorem dX13_compare_94 : decode cX13_compare 94 = .ok (.aload_n 0, 1) := by decide +kernel
theorem dX13_compare_95 : decode cX13_compare 95 = .ok (.invokevirtual 496, 3) := by decide +kernel
theorem dX13_compare_98 : decode cX13_compare 98 = .ok (.aload_n 0, 1) := by decide +kernel
theorem dX13_compare_99 : decode cX13_compare 99 = .ok (.invokevirtual 499, 3) := by decide +kernel
theorem dX13_compare_102 : decode cX13_compare 102 = .ok (.aload_n 0, 1) := by decide +kernel
theorem dX13_compare_103 : decode cX13_compare 103 = .ok (.iconst 1, 1) := by decide +kernel
theorem dX13_compare_104 : decode cX13_compare 104 = .ok (.putfield 502, 3) := by decide +kernel
theorem dX13_compare_107 : decode cX13_compare 107 = .ok (.aload_n 0, 1) := by decide +kernel
theorem dX13_compare_108 : decode cX13_compare 108 = .ok (.getfield 467, 3) := by decide +kernel
theorem dX13_compare_111 : decode cX13_compare 111 = .ok (.ireturn, 1) := by decide +kernel
theorem dX13_registers_0 : decode cX13_registers 0 = .ok (.aload_n 0, 1) := by decide +kernel
theorem dX13_registers_1 : decode cX13_registers 1 = .ok (.iconst (-1), 1) := by decide +kernel
theorem dX13_registers_2 : decode cX13_registers 2 = .ok (.putfield 365, 3) := by decide +kernel
theorem dX13_registers_5 : decode cX13_registers 5 = .ok (.iconst 0, 1) := by decide +kernel
theorem dX13_registers_6 : decode cX13_registers 6 = .ok (.istore_n 1, 1) := by decide +kernel
theorem dX13_registers_7 : decode cX13_registers 7 = .ok (.iload_n 1, 1) := by decide +kernel
theorem dX13_registers_8 : decode cX13_registers 8 = .ok (.aload_n 0, 1) := by decide +kernel
theorem dX13_registers_9 : decode cX13_registers 9 = .ok (.getfield 33, 3) := by decide +kernel
theorem dX13_registers_12 : decode cX13_registers 12 = .ok (.bipush 6, 2) := by decide +kernel
theorem dX13_registers_14 : decode cX13_registers 14 = .ok (.iaload, 1) := by decide +kernel
theorem dX13_registers_15 : decode cX13_registers 15 = .ok (.if_icmp .gt 162, 3) := by decide +kernel
theorem dX13_registers_18 : decode cX13_registers 18 = .ok (.iconst 0, 1) := by decide +kernel
theorem dX13_registers_19 : decode cX13_registers 19 = .ok (.istore_n 2, 1) := by decide +kernel
theorem dX13_registers_20 : decode cX13_registers 20 = .ok (.iload_n 2, 1) := by decide +kernel
theorem dX13_registers_21 : decode cX13_registers 21 = .ok (.iconst 2, 1) := by decide +kernel
theorem dX13_registers_22 : decode cX13_registers 22 = .ok (.aload_n 0, 1) := by decide +kernel
theorem dX13_registers_23 : decode cX13_registers 23 = .ok (.getfield 33, 3) := by decide +kernel
theorem dX13_registers_26 : decode cX13_registers 26 = .ok (.iconst 5, 1) := by decide +kernel
theorem dX13_registers_27 : decode cX13_registers 27 = .ok (.iaload, 1) := by decide +kernel
theorem dX13_registers_28 : decode cX13_registers 28 = .ok (.imul, 1) := by decide +kernel
theorem dX13_registers_29 : decode cX13_registers 29 = .ok (.if_icmp .gt 142, 3) := by decide +kernel
theorem dX13_registers_32 : decode cX13_registers 32 = .ok (.iload_n 2, 1) := by decide +kernel
theorem dX13_registers_33 : decode cX13_registers 33 = .ok (.iconst 2, 1) := by decide +kernel
theorem dX13_registers_34 : decode cX13_registers 34 = .ok (.irem, 1) := by decide +kernel
theorem dX13_registers_35 : decode cX13_registers 35 = .ok (.iconst 1, 1) := by decide +kernel
theorem dX13_registers_36 : decode cX13_registers 36 = .ok (.if_icmp .ne 12, 3) := by decide +kernel
theorem dX13_registers_39 : decode cX13_registers 39 = .ok (.iload_n 2, 1) := by decide +kernel
theorem dX13_registers_40 : decode cX13_registers 40 = .ok (.iconst 1, 1) := by decide +kernel
theorem dX13_registers_41 : decode cX13_registers 41 = .ok (.iadd, 1) := by decide +kernel
theorem dX13_registers_42 : decode cX13_registers 42 = .ok (.ineg, 1) := by decide +kernel
theorem dX13_registers_43 : decode cX13_registers 43 = .ok (.iconst 2, 1) := by decide +kernel
theorem dX13_registers_44 : decode cX13_registers 44 = .ok (.idiv, 1) := by decide +kernel
theorem dX13_registers_45 : decode cX13_registers 45 = .ok (.goto 6, 3) := by decide +kernel
theorem dX13_registers_48 : decode cX13_registers 48 = .ok (.iload_n 2, 1) := by decide +kernel
theorem dX13_registers_49 : decode cX13_registers 49 = .ok (.iconst 2, 1) := by decide +kernel
theorem dX13_registers_50 : decode cX13_registers 50 = .ok (.idiv, 1) := by decide +kernel
theorem dX13_registers_51 : decode cX13_registers 51 = .ok (.istore_n 3, 1) := by decide +kernel
theorem dX13_registers_52 : decode cX13_registers 52 = .ok (.aload_n 0, 1) := by decide +kernel
theorem dX13_registers_53 : decode cX13_registers 53 = .ok (.iload_n 1, 1) := by decide +kernel
theorem dX13_registers_54 : decode cX13_registers 54 = .ok (.iconst 1, 1) := by decide +kernel
theorem dX13_registers_55 : decode cX13_registers 55 = .ok (.if_icmp .ne 7, 3) := by decide +kernel
theorem dX13_registers_58 : decode cX13_registers 58 = .ok (.iconst 1, 1) := by decide +kernel
theorem dX13_registers_59 : decode cX13_registers 59 = .ok (.goto 4, 3) := by decide +kernel
theorem dX13_registers_62 : decode cX13_registers 62 = .ok (.iconst 0, 1) := by decide +kernel
theorem dX13_registers_63 : decode cX13_registers 63 = .ok (.iload_n 3, 1) := by decide +kernel
theorem dX13_registers_64 : decode cX13_registers 64 = .ok (.invokevirtual 368, 3) := by decide +kernel
theorem dX13_registers_67 : decode cX13_registers 67 = .ok (.aload_n 0, 1) := by decide +kernel
theorem dX13_registers_68 : decode cX13_registers 68 = .ok (.invokevirtual 372, 3) := by decide +kernel
theorem dX13_registers_71 : decode cX13_registers 71 = .ok (.aload_n 0, 1) := by decide +kernel
theorem dX13_registers_72 : decode cX13_registers 72 = .ok (.invokevirtual 375, 3) := by decide +kernel
theorem dX13_registers_75 : decode cX13_registers 75 = .ok (.istore 4, 2) := by decide +kernel
theorem dX13_registers_77 : decode cX13_registers 77 = .ok (.aload_n 0, 1) := by decide +kernel
theorem dX13_registers_78 : decode cX13_registers 78 = .ok (.getfield 365, 3) := by decide +kernel
theorem dX13_registers_81 : decode cX13_registers 81 = .ok (.ifCond .lt 12, 3) := by decide +kernel
theorem dX13_registers_84 : decode cX13_registers 84 = .ok (.iload 4, 2) := by decide +kernel
theorem dX13_registers_86 : decode cX13_registers 86 = .ok (.aload_n 0, 1) := by decide +kernel
theorem dX13_registers_87 : decode cX13_registers 87 = .ok (.getfield 365, 3) := by decide +kernel
theorem dX13_registers_90 : decode cX13_registers 90 = .ok (.if_icmp .ge 75, 3) := by decide +kernel
theorem dX13_registers_93 : decode cX13_registers 93 = .ok (.aload_n 0, 1) := by decide +kernel
theorem dX13_registers_94 : decode cX13_registers 94 = .ok (.iload 4, 2) := by decide +kernel
theorem dX13_registers_96 : decode cX13_registers 96 = .ok (.putfield 365, 3) := by decide +kernel
theorem dX13_registers_99 : decode cX13_registers 99 = .ok (.aload_n 0, 1) := by decide +kernel
theorem dX13_registers_100 : decode cX13_registers 100 = .ok (.aload_n 0, 1) := by decide +kernel
theorem dX13_registers_101 : decode cX13_registers 101 = .ok (.getfield 359, 3) := by decide +kernel
theorem dX13_registers_104 : decode cX13_registers 104 = .ok (.putfield 378, 3) := by decide +kernel
theorem dX13_registers_107 : decode cX13_registers 107 = .ok (.aload_n 0, 1) := by decide +kernel
theorem dX13_registers_108 : decode cX13_registers 108 = .ok (.aload_n 0, 1) := by decide +kernel
theorem dX13_registers_109 : decode cX13_registers 109 = .ok (.getfield 362, 3) := by decide +kernel
theorem dX13_registers_112 : decode cX13_registers 112 = .ok (.putfield 381, 3) := by decide +kernel
theorem dX13_registers_115 : decode cX13_registers 115 = .ok (.aload_n 0, 1) := by decide +kernel
theorem dX13_registers_116 : decode cX13_registers 116 = .ok (.iload_n 3, 1) := by decide +kernel
theorem dX13_registers_117 : decode cX13_registers 117 = .ok (.putfield 384, 3) := by decide +kernel
theorem dX13_registers_120 : decode cX13_registers 120 = .ok (.aload_n 0, 1) := by decide +kernel
theorem dX13_registers_121 : decode cX13_registers 121 = .ok (.iload_n 1, 1) := by decide +kernel
theorem dX13_registers_122 : decode cX13_registers 122 = .ok (.iconst 1, 1) := by decide +kernel
theorem dX13_registers_123 : decode cX13_registers 123 = .ok (.if_icmp .ne 7, 3) := by decide +kernel
theorem dX13_registers_126 : decode cX13_registers 126 = .ok (.iconst 1, 1) := by decide +kernel
theorem dX13_registers_127 : decode cX13_registers 127 = .ok (.goto 4, 3) := by decide +kernel
theorem dX13_registers_130 : decode cX13_registers 130 = .ok (.iconst 0, 1) := by decide +kernel
theorem dX13_registers_131 : decode cX13_registers 131 = .ok (.putfield 387, 3) := by decide +kernel
theorem dX13_registers_134 : decode cX13_registers 134 = .ok (.iconst 0, 1) := by decide +kernel
theorem dX13_registers_135 : decode cX13_registers 135 = .ok (.istore 5, 2) := by decide +kernel
theorem dX13_registers_137 : decode cX13_registers 137 = .ok (.iload 5, 2) := by decide +kernel
theorem dX13_registers_139 : decode cX13_registers 139 = .ok (.sipush 4096, 3) := by decide +kernel
theorem dX13_registers_142 : decode cX13_registers 142 = .ok (.if_icmp .ge 23, 3) := by decide +kernel
theorem dX13_registers_145 : decode cX13_registers 145 = .ok (.aload_n 0, 1) := by decide +kernel
theorem dX13_registers_146 : decode cX13_registers 146 = .ok (.getfield 95, 3) := by decide +kernel
theorem dX13_registers_149 : decode cX13_registers 149 = .ok (.iload 5, 2) := by decide +kernel
theorem dX13_registers_151 : decode cX13_registers 151 = .ok (.aload_n 0, 1) := by decide +kernel
theorem dX13_registers_152 : decode cX13_registers 152 = .ok (.getfield 89, 3) := by decide +kernel
theorem dX13_registers_155 : decode cX13_registers 155 = .ok (.iload 5, 2) := by decide +kernel
theorem dX13_registers_157 : decode cX13_registers 157 = .ok (.baload, 1) := by decide +kernel
theorem dX13_registers_158 : decode cX13_registers 158 = .ok (.bastore, 1) := by decide +kernel
theorem dX13_registers_159 : decode cX13_registers 159 = .ok (.iinc 5 1, 3) := by decide +kernel
theorem dX13_registers_162 : decode cX13_registers 162 = .ok (.goto (-25), 3) := by decide +kernel
theorem dX13_registers_165 : decode cX13_registers 165 = .ok (.iinc 2 1, 3) := by decide +kernel
theorem dX13_registers_168 : decode cX13_registers 168 = .ok (.goto (-148), 3) := by decide +kernel
theorem dX13_registers_171 : decode cX13_registers 171 = .ok (.iinc 1 1, 3) := by decide +kernel
theorem dX13_registers_174 : decode cX13_registers 174 = .ok (.goto (-167), 3) := by decide +kernel
theorem dX13_registers_177 : decode cX13_registers 177 = .ok (.iconst 0, 1) := by decide +kernel
theorem dX13_registers_178 : decode cX13_registers 178 = .ok (.istore_n 1, 1) := by decide +kernel
theorem dX13_registers_179 : decode cX13_registers 179 = .ok (.iload_n 1, 1) := by decide +kernel
theorem dX13_registers_180 : decode cX13_registers 180 = .ok (.sipush 4096, 3) := by decide +kernel
theorem dX13_registers_183 : decode cX13_registers 183 = .ok (.if_icmp .ge 82, 3) := by decide +kernel
theorem dX13_registers_186 : decode cX13_registers 186 = .ok (.iload_n 1, 1) := by decide +kernel
theorem dX13_registers_187 : decode cX13_registers 187 = .ok (.bipush 64, 2) := by decide +kernel
theorem dX13_registers_189 : decode cX13_registers 189 = .ok (.irem, 1) := by decide +kernel
theorem dX13_registers_190 : decode cX13_registers 190 = .ok (.aload_n 0, 1) := by decide +kernel
theorem dX13_registers_191 : decode cX13_registers 191 = .ok (.getfield 378, 3) := by decide +kernel
theorem dX13_registers_194 : decode cX13_registers 194 = .ok (.iadd, 1) := by decide +kernel
theorem dX13_registers_195 : decode cX13_registers 195 = .ok (.istore_n 2, 1) := by decide +kernel
theorem dX13_registers_196 : decode cX13_registers 196 = .ok (.iload_n 1, 1) := by decide +kernel
theorem dX13_registers_197 : decode cX13_registers 197 = .ok (.bipush 64, 2) := by decide +kernel
theorem dX13_registers_199 : decode cX13_registers 199 = .ok (.idiv, 1) := by decide +kernel
theorem dX13_registers_200 : decode cX13_registers 200 = .ok (.aload_n 0, 1) := by decide +kernel
theorem dX13_registers_201 : decode cX13_registers 201 = .ok (.getfield 381, 3) := by decide +kernel
theorem dX13_registers_204 : decode cX13_registers 204 = .ok (.iadd, 1) := by decide +kernel
theorem dX13_registers_205 : decode cX13_registers 205 = .ok (.istore_n 3, 1) := by decide +kernel
theorem dX13_registers_206 : decode cX13_registers 206 = .ok (.aload_n 0, 1) := by decide +kernel
theorem dX13_registers_207 : decode cX13_registers 207 = .ok (.getfield 92, 3) := by decide +kernel
theorem dX13_registers_210 : decode cX13_registers 210 = .ok (.iload_n 1, 1) := by decide +kernel
theorem dX13_registers_211 : decode cX13_registers 211 = .ok (.aload_n 0, 1) := by decide +kernel
theorem dX13_registers_212 : decode cX13_registers 212 = .ok (.iload_n 1, 1) := by decide +kernel
theorem dX13_registers_213 : decode cX13_registers 213 = .ok (.bipush 64, 2) := by decide +kernel
theorem dX13_registers_215 : decode cX13_registers 215 = .ok (.irem, 1) := by decide +kernel
theorem dX13_registers_216 : decode cX13_registers 216 = .ok (.i2l, 1) := by decide +kernel
theorem dX13_registers_217 : decode cX13_registers 217 = .ok (.iload_n 1, 1) := by decide +kernel
theorem dX13_registers_218 : decode cX13_registers 218 = .ok (.bipush 64, 2) := by decide +kernel
theorem dX13_registers_220 : decode cX13_registers 220 = .ok (.idiv, 1) := by decide +kernel
theorem dX13_registers_221 : decode cX13_registers 221 = .ok (.i2l, 1) := by decide +kernel
theorem dX13_registers_222 : decode cX13_registers 222 = .ok (.invokevirtual 195, 3) := by decide +kernel
theorem dX13_registers_225 : decode cX13_registers 225 = .ok (.ifCond .eq 32, 3) := by decide +kernel
theorem dX13_registers_228 : decode cX13_registers 228 = .ok (.aload_n 0, 1) := by decide +kernel
theorem dX13_registers_229 : decode cX13_registers 229 = .ok (.iload_n 2, 1) := by decide +kernel
theorem dX13_registers_230 : decode cX13_registers 230 = .ok (.i2l, 1) := by decide +kernel
theorem dX13_registers_231 : decode cX13_registers 231 = .ok (.iload_n 3, 1) := by decide +kernel
theorem dX13_registers_232 : decode cX13_registers 232 = .ok (.i2l, 1) := by decide +kernel
theorem dX13_registers_233 : decode cX13_registers 233 = .ok (.invokevirtual 195, 3) := by decide +kernel
theorem dX13_registers_236 : decode cX13_registers 236 = .ok (.ifCond .eq 21, 3) := by decide +kernel
theorem dX13_registers_239 : decode cX13_registers 239 = .ok (.aload_n 0, 1) := by decide +kernel
theorem dX13_registers_240 : decode cX13_registers 240 = .ok (.getfield 95, 3) := by decide +kernel
theorem dX13_registers_243 : decode cX13_registers 243 = .ok (.bipush 64, 2) := by decide +kernel
theorem dX13_registers_245 : decode cX13_registers 245 = .ok (.iload_n 3, 1) := by decide +kernel
theorem dX13_registers_246 : decode cX13_registers 246 = .ok (.imul, 1) := by decide +kernel
theorem dX13_registers_247 : decode cX13_registers 247 = .ok (.iload_n 2, 1) := by decide +kernel
theorem dX13_registers_248 : decode cX13_registers 248 = .ok (.iadd, 1) := by decide +kernel
theorem dX13_registers_249 : decode cX13_registers 249 = .ok (.baload, 1) := by decide +kernel
theorem dX13_registers_250 : decode cX13_registers 250 = .ok (.ifCond .eq 7, 3) := by decide +kernel
theorem dX13_registers_253 : decode cX13_registers 253 = .ok (.iconst 1, 1) := by decide +kernel
theorem dX13_registers_254 : decode cX13_registers 254 = .ok (.goto 4, 3) := by decide +kernel
theorem dX13_registers_257 : decode cX13_registers 257 = .ok (.iconst 0, 1) := by decide +kernel
theorem dX13_registers_258 : decode cX13_registers 258 = .ok (.bastore, 1) := by decide +kernel
theorem dX13_registers_259 : decode cX13_registers 259 = .ok (.iinc 1 1, 3) := by decide +kernel
theorem dX13_registers_262 : decode cX13_registers 262 = .ok (.goto (-83), 3) := by decide +kernel
theorem dX13_registers_265 : decode cX13_registers 265 = .ok (.return_, 1) := by decide +kernel
theorem dX13_skews_0 : decode cX13_skews 0 = .ok (.iconst 0, 1) := by decide +kernel
theorem dX13_skews_1 : decode cX13_skews 1 = .ok (.istore_n 3, 1) := by decide +kernel
theorem dX13_skews_2 : decode cX13_skews 2 = .ok (.iload_n 3, 1) := by decide +kernel
theorem dX13_skews_3 : decode cX13_skews 3 = .ok (.sipush 4096, 3) := by decide +kernel
theorem dX13_skews_6 : decode cX13_skews 6 = .ok (.if_icmp .ge 148, 3) := by decide +kernel
theorem dX13_skews_9 : decode cX13_skews 9 = .ok (.iload_n 3, 1) := by decide +kernel
theorem dX13_skews_10 : decode cX13_skews 10 = .ok (.bipush 64, 2) := by decide +kernel
theorem dX13_skews_12 : decode cX13_skews 12 = .ok (.irem, 1) := by decide +kernel
theorem dX13_skews_13 : decode cX13_skews 13 = .ok (.istore 4, 2) := by decide +kernel
theorem dX13_skews_15 : decode cX13_skews 15 = .ok (.iload_n 3, 1) := by decide +kernel
theorem dX13_skews_16 : decode cX13_skews 16 = .ok (.bipush 64, 2) := by decide +kernel
theorem dX13_skews_18 : decode cX13_skews 18 = .ok (.idiv, 1) := by decide +kernel
theorem dX13_skews_19 : decode cX13_skews 19 = .ok (.istore 5, 2) := by decide +kernel
theorem dX13_skews_21 : decode cX13_skews 21 = .ok (.iload_n 2, 1) := by decide +kernel
theorem dX13_skews_22 : decode cX13_skews 22 = .ok (.iload 5, 2) := by decide +kernel
theorem dX13_skews_24 : decode cX13_skews 24 = .ok (.imul, 1) := by decide +kernel
theorem dX13_skews_25 : decode cX13_skews 25 = .ok (.istore 6, 2) := by decide +kernel
theorem dX13_skews_27 : decode cX13_skews 27 = .ok (.iload 4, 2) := by decide +kernel
theorem dX13_skews_29 : decode cX13_skews 29 = .ok (.iload 6, 2) := by decide +kernel
theorem dX13_skews_31 : decode cX13_skews 31 = .ok (.ifCond .lt 11, 3) := by decide +kernel
theorem dX13_skews_34 : decode cX13_skews 34 = .ok (.iload 6, 2) := by decide +kernel
theorem dX13_skews_36 : decode cX13_skews 36 = .ok (.bipush 16, 2) := by decide +kernel
theorem dX13_skews_38 : decode cX13_skews 38 = .ok (.idiv, 1) := by decide +kernel
theorem dX13_skews_39 : decode cX13_skews 39 = .ok (.goto 13, 3) := by decide +kernel
theorem dX13_skews_42 : decode cX13_skews 42 = .ok (.iload 6, 2) := by decide +kernel
theorem dX13_skews_44 : decode cX13_skews 44 = .ok (.ineg, 1) := by decide +kernel
theorem dX13_skews_45 : decode cX13_skews 45 = .ok (.bipush 15, 2) := by decide +kernel
theorem dX13_skews_47 : decode cX13_skews 47 = .ok (.iadd, 1) := by decide +kernel
theorem dX13_skews_48 : decode cX13_skews 48 = .ok (.bipush 16, 2) := by decide +kernel
theorem dX13_skews_50 : decode cX13_skews 50 = .ok (.idiv, 1) := by decide +kernel
theorem dX13_skews_51 : decode cX13_skews 51 = .ok (.ineg, 1) := by decide +kernel
theorem dX13_skews_52 : decode cX13_skews 52 = .ok (.iadd, 1) := by decide +kernel
theorem dX13_skews_53 : decode cX13_skews 53 = .ok (.istore 7, 2) := by decide +kernel
theorem dX13_skews_55 : decode cX13_skews 55 = .ok (.iload_n 1, 1) := by decide +kernel
theorem dX13_skews_56 : decode cX13_skews 56 = .ok (.ifCond .eq 15, 3) := by decide +kernel
theorem dX13_skews_59 : decode cX13_skews 59 = .ok (.aload_n 0, 1) := by decide +kernel
theorem dX13_skews_60 : decode cX13_skews 60 = .ok (.getfield 179, 3) := by decide +kernel
theorem dX13_skews_63 : decode cX13_skews 63 = .ok (.iconst 1, 1) := by decide +kernel
theorem dX13_skews_64 : decode cX13_skews 64 = .ok (.isub, 1) := by decide +kernel
theorem dX13_skews_65 : decode cX13_skews 65 = .ok (.iload 7, 2) := by decide +kernel
theorem dX13_skews_67 : decode cX13_skews 67 = .ok (.isub, 1) := by decide +kernel
theorem dX13_skews_68 : decode cX13_skews 68 = .ok (.goto 5, 3) := by decide +kernel
theorem dX13_skews_71 : decode cX13_skews 71 = .ok (.iload 7, 2) := by decide +kernel
theorem dX13_skews_73 : decode cX13_skews 73 = .ok (.istore 8, 2) := by decide +kernel
theorem dX13_skews_75 : decode cX13_skews 75 = .ok (.iload_n 1, 1) := by decide +kernel
theorem dX13_skews_76 : decode cX13_skews 76 = .ok (.ifCond .eq 15, 3) := by decide +kernel
theorem dX13_skews_79 : decode cX13_skews 79 = .ok (.aload_n 0, 1) := by decide +kernel
theorem dX13_skews_80 : decode cX13_skews 80 = .ok (.getfield 183, 3) := by decide +kernel
theorem dX13_skews_83 : decode cX13_skews 83 = .ok (.iconst 1, 1) := by decide +kernel
theorem dX13_skews_84 : decode cX13_skews 84 = .ok (.isub, 1) := by decide +kernel
theorem dX13_skews_85 : decode cX13_skews 85 = .ok (.iload 5, 2) := by decide +kernel
theorem dX13_skews_87 : decode cX13_skews 87 = .ok (.isub, 1) := by decide +kernel
theorem dX13_skews_88 : decode cX13_skews 88 = .ok (.goto 5, 3) := by decide +kernel
theorem dX13_skews_91 : decode cX13_skews 91 = .ok (.iload 5, 2) := by decide +kernel
theorem dX13_skews_93 : decode cX13_skews 93 = .ok (.istore 9, 2) := by decide +kernel
theorem dX13_skews_95 : decode cX13_skews 95 = .ok (.aload_n 0, 1) := by decide +kernel
theorem dX13_skews_96 : decode cX13_skews 96 = .ok (.getfield 89, 3) := by decide +kernel
theorem dX13_skews_99 : decode cX13_skews 99 = .ok (.iload_n 3, 1) := by decide +kernel
theorem dX13_skews_100 : decode cX13_skews 100 = .ok (.aload_n 0, 1) := by decide +kernel
theorem dX13_skews_101 : decode cX13_skews 101 = .ok (.iload 4, 2) := by decide +kernel
theorem dX13_skews_103 : decode cX13_skews 103 = .ok (.i2l, 1) := by decide +kernel
theorem dX13_skews_104 : decode cX13_skews 104 = .ok (.iload 5, 2) := by decide +kernel
theorem dX13_skews_106 : decode cX13_skews 106 = .ok (.i2l, 1) := by decide +kernel
theorem dX13_skews_107 : decode cX13_skews 107 = .ok (.invokevirtual 195, 3) := by decide +kernel
theorem dX13_skews_110 : decode cX13_skews 110 = .ok (.ifCond .eq 36, 3) := by decide +kernel
theorem dX13_skews_113 : decode cX13_skews 113 = .ok (.aload_n 0, 1) := by decide +kernel
theorem dX13_skews_114 : decode cX13_skews 114 = .ok (.iload 8, 2) := by decide +kernel
theorem dX13_skews_116 : decode cX13_skews 116 = .ok (.i2l, 1) := by decide +kernel
theorem dX13_skews_117 : decode cX13_skews 117 = .ok (.iload 9, 2) := by decide +kernel
theorem dX13_skews_119 : decode cX13_skews 119 = .ok (.i2l, 1) := by decide +kernel
theorem dX13_skews_120 : decode cX13_skews 120 = .ok (.invokevirtual 195, 3) := by decide +kernel
theorem dX13_skews_123 : decode cX13_skews 123 = .ok (.ifCond .eq 23, 3) := by decide +kernel
theorem dX13_skews_126 : decode cX13_skews 126 = .ok (.aload_n 0, 1) := by decide +kernel
theorem dX13_skews_127 : decode cX13_skews 127 = .ok (.getfield 86, 3) := by decide +kernel
theorem dX13_skews_130 : decode cX13_skews 130 = .ok (.bipush 64, 2) := by decide +kernel
theorem dX13_skews_132 : decode cX13_skews 132 = .ok (.iload 9, 2) := by decide +kernel
theorem dX13_skews_134 : decode cX13_skews 134 = .ok (.imul, 1) := by decide +kernel
theorem dX13_skews_135 : decode cX13_skews 135 = .ok (.iload 8, 2) := by decide +kernel
theorem dX13_skews_137 : decode cX13_skews 137 = .ok (.iadd, 1) := by decide +kernel
theorem dX13_skews_138 : decode cX13_skews 138 = .ok (.baload, 1) := by decide +kernel
theorem dX13_skews_139 : decode cX13_skews 139 = .ok (.ifCond .eq 7, 3) := by decide +kernel
theorem dX13_skews_142 : decode cX13_skews 142 = .ok (.iconst 1, 1) := by decide +kernel
theorem dX13_skews_143 : decode cX13_skews 143 = .ok (.goto 4, 3) := by decide +kernel
theorem dX13_skews_146 : decode cX13_skews 146 = .ok (.iconst 0, 1) := by decide +kernel
theorem dX13_skews_147 : decode cX13_skews 147 = .ok (.bastore, 1) := by decide +kernel
theorem dX13_skews_148 : decode cX13_skews 148 = .ok (.iinc 3 1, 3) := by decide +kernel
theorem dX13_skews_151 : decode cX13_skews 151 = .ok (.goto (-149), 3) := by decide +kernel
theorem dX13_skews_154 : decode cX13_skews 154 = .ok (.return_, 1) := by decide +kernel
theorem dX13_seeksCoarse_0 : decode cX13_seeksCoarse 0 = .ok (.aload_n 0, 1) := by decide +kernel
theorem dX13_seeksCoarse_1 : decode cX13_seeksCoarse 1 = .ok (.aload_n 0, 1) := by decide +kernel
theorem dX13_seeksCoarse_2 : decode cX13_seeksCoarse 2 = .ok (.getfield 83, 3) := by decide +kernel
theorem dX13_seeksCoarse_5 : decode cX13_seeksCoarse 5 = .ok (.aload_n 0, 1) := by decide +kernel
theorem dX13_seeksCoarse_6 : decode cX13_seeksCoarse 6 = .ok (.getfield 98, 3) := by decide +kernel
theorem dX13_seeksCoarse_9 : decode cX13_seeksCoarse 9 = .ok (.invokevirtual 343, 3) := by decide +kernel
theorem dX13_seeksCoarse_12 : decode cX13_seeksCoarse 12 = .ok (.aload_n 0, 1) := by decide +kernel
theorem dX13_seeksCoarse_13 : decode cX13_seeksCoarse 13 = .ok (.aload_n 0, 1) := by decide +kernel
theorem dX13_seeksCoarse_14 : decode cX13_seeksCoarse 14 = .ok (.getfield 89, 3) := by decide +kernel
theorem dX13_seeksCoarse_17 : decode cX13_seeksCoarse 17 = .ok (.aload_n 0, 1) := by decide +kernel
theorem dX13_seeksCoarse_18 : decode cX13_seeksCoarse 18 = .ok (.getfield 101, 3) := by decide +kernel
theorem dX13_seeksCoarse_21 : decode cX13_seeksCoarse 21 = .ok (.invokevirtual 343, 3) := by decide +kernel
theorem dX13_seeksCoarse_24 : decode cX13_seeksCoarse 24 = .ok (.aload_n 0, 1) := by decide +kernel
theorem dX13_seeksCoarse_25 : decode cX13_seeksCoarse 25 = .ok (.getfield 33, 3) := by decide +kernel
theorem dX13_seeksCoarse_28 : decode cX13_seeksCoarse 28 = .ok (.iconst 4, 1) := by decide +kernel
theorem dX13_seeksCoarse_29 : decode cX13_seeksCoarse 29 = .ok (.iaload, 1) := by decide +kernel
theorem dX13_seeksCoarse_30 : decode cX13_seeksCoarse 30 = .ok (.iconst 4, 1) := by decide +kernel
theorem dX13_seeksCoarse_31 : decode cX13_seeksCoarse 31 = .ok (.idiv, 1) := by decide +kernel
theorem dX13_seeksCoarse_32 : decode cX13_seeksCoarse 32 = .ok (.istore_n 1, 1) := by decide +kernel
theorem dX13_seeksCoarse_33 : decode cX13_seeksCoarse 33 = .ok (.iconst (-1), 1) := by decide +kernel
theorem dX13_seeksCoarse_34 : decode cX13_seeksCoarse 34 = .ok (.istore_n 2, 1) := by decide +kernel
theorem dX13_seeksCoarse_35 : decode cX13_seeksCoarse 35 = .ok (.iconst 0, 1) := by decide +kernel
theorem dX13_seeksCoarse_36 : decode cX13_seeksCoarse 36 = .ok (.istore_n 3, 1) := by decide +kernel
theorem dX13_seeksCoarse_37 : decode cX13_seeksCoarse 37 = .ok (.iload_n 3, 1) := by decide +kernel
theorem dX13_seeksCoarse_38 : decode cX13_seeksCoarse 38 = .ok (.iconst 2, 1) := by decide +kernel
theorem dX13_seeksCoarse_39 : decode cX13_seeksCoarse 39 = .ok (.iload_n 1, 1) := by decide +kernel
theorem dX13_seeksCoarse_40 : decode cX13_seeksCoarse 40 = .ok (.imul, 1) := by decide +kernel
theorem dX13_seeksCoarse_41 : decode cX13_seeksCoarse 41 = .ok (.if_icmp .gt 91, 3) := by decide +kernel
theorem dX13_seeksCoarse_44 : decode cX13_seeksCoarse 44 = .ok (.iload_n 1, 1) := by decide +kernel
theorem dX13_seeksCoarse_45 : decode cX13_seeksCoarse 45 = .ok (.ineg, 1) := by decide +kernel
theorem dX13_seeksCoarse_46 : decode cX13_seeksCoarse 46 = .ok (.istore 4, 2) := by decide +kernel
theorem dX13_seeksCoarse_48 : decode cX13_seeksCoarse 48 = .ok (.iload 4, 2) := by decide +kernel
theorem dX13_seeksCoarse_50 : decode cX13_seeksCoarse 50 = .ok (.iload_n 1, 1) := by decide +kernel
theorem dX13_seeksCoarse_51 : decode cX13_seeksCoarse 51 = .ok (.if_icmp .gt 75, 3) := by decide +kernel
theorem dX13_seeksCoarse_54 : decode cX13_seeksCoarse 54 = .ok (.iload_n 1, 1) := by decide +kernel
theorem dX13_seeksCoarse_55 : decode cX13_seeksCoarse 55 = .ok (.ineg, 1) := by decide +kernel
theorem dX13_seeksCoarse_56 : decode cX13_seeksCoarse 56 = .ok (.istore 5, 2) := by decide +kernel
theorem dX13_seeksCoarse_58 : decode cX13_seeksCoarse 58 = .ok (.iload 5, 2) := by decide +kernel
theorem dX13_seeksCoarse_60 : decode cX13_seeksCoarse 60 = .ok (.iload_n 1, 1) := by decide +kernel
theorem dX13_seeksCoarse_61 : decode cX13_seeksCoarse 61 = .ok (.if_icmp .gt 59, 3) := by decide +kernel
theorem dX13_seeksCoarse_64 : decode cX13_seeksCoarse 64 = .ok (.iload 5, 2) := by decide +kernel
theorem dX13_seeksCoarse_66 : decode cX13_seeksCoarse 66 = .ok (.invokestatic 340, 3) := by decide +kernel
theorem dX13_seeksCoarse_69 : decode cX13_seeksCoarse 69 = .ok (.iload 4, 2) := by decide +kernel
theorem dX13_seeksCoarse_71 : decode cX13_seeksCoarse 71 = .ok (.invokestatic 340, 3) := by decide +kernel
theorem dX13_seeksCoarse_74 : decode cX13_seeksCoarse 74 = .ok (.iadd, 1) := by decide +kernel
theorem dX13_seeksCoarse_75 : decode cX13_seeksCoarse 75 = .ok (.iload_n 3, 1) := by decide +kernel
theorem dX13_seeksCoarse_76 : decode cX13_seeksCoarse 76 = .ok (.if_icmp .ne 38, 3) := by decide +kernel
theorem dX13_seeksCoarse_79 : decode cX13_seeksCoarse 79 = .ok (.aload_n 0, 1) := by decide +kernel
theorem dX13_seeksCoarse_80 : decode cX13_seeksCoarse 80 = .ok (.iload 5, 2) := by decide +kernel
theorem dX13_seeksCoarse_82 : decode cX13_seeksCoarse 82 = .ok (.iload 4, 2) := by decide +kernel
theorem dX13_seeksCoarse_84 : decode cX13_seeksCoarse 84 = .ok (.invokevirtual 347, 3) := by decide +kernel
theorem dX13_seeksCoarse_87 : decode cX13_seeksCoarse 87 = .ok (.istore 6, 2) := by decide +kernel
theorem dX13_seeksCoarse_89 : decode cX13_seeksCoarse 89 = .ok (.iload_n 2, 1) := by decide +kernel
theorem dX13_seeksCoarse_90 : decode cX13_seeksCoarse 90 = .ok (.ifCond .lt 9, 3) := by decide +kernel
theorem dX13_seeksCoarse_93 : decode cX13_seeksCoarse 93 = .ok (.iload 6, 2) := by decide +kernel
theorem dX13_seeksCoarse_95 : decode cX13_seeksCoarse 95 = .ok (.iload_n 2, 1) := by decide +kernel
theorem dX13_seeksCoarse_96 : decode cX13_seeksCoarse 96 = .ok (.if_icmp .ge 18, 3) := by decide +kernel
theorem dX13_seeksCoarse_99 : decode cX13_seeksCoarse 99 = .ok (.iload 6, 2) := by decide +kernel
theorem dX13_seeksCoarse_101 : decode cX13_seeksCoarse 101 = .ok (.istore_n 2, 1) := by decide +kernel
theorem dX13_seeksCoarse_102 : decode cX13_seeksCoarse 102 = .ok (.aload_n 0, 1) := by decide +kernel
theorem dX13_seeksCoarse_103 : decode cX13_seeksCoarse 103 = .ok (.iload 5, 2) := by decide +kernel
theorem dX13_seeksCoarse_105 : decode cX13_seeksCoarse 105 = .ok (.putfield 350, 3) := by decide +kernel
theorem dX13_seeksCoarse_108 : decode cX13_seeksCoarse 108 = .ok (.aload_n 0, 1) := by decide +kernel
theorem dX13_seeksCoarse_109 : decode cX13_seeksCoarse 109 = .ok (.iload 4, 2) := by decide +kernel
theorem dX13_seeksCoarse_111 : decode cX13_seeksCoarse 111 = .ok (.putfield 353, 3) := by decide +kernel
theorem dX13_seeksCoarse_114 : decode cX13_seeksCoarse 114 = .ok (.iinc 5 1, 3) := by decide +kernel
theorem dX13_seeksCoarse_117 : decode cX13_seeksCoarse 117 = .ok (.goto (-59), 3) := by decide +kernel
theorem dX13_seeksCoarse_120 : decode cX13_seeksCoarse 120 = .ok (.iinc 4 1, 3) := by decide +kernel
theorem dX13_seeksCoarse_123 : decode cX13_seeksCoarse 123 = .ok (.goto (-75), 3) := by decide +kernel
theorem dX13_seeksCoarse_126 : decode cX13_seeksCoarse 126 = .ok (.iinc 3 1, 3) := by decide +kernel
theorem dX13_seeksCoarse_129 : decode cX13_seeksCoarse 129 = .ok (.goto (-92), 3) := by decide +kernel
theorem dX13_seeksCoarse_132 : decode cX13_seeksCoarse 132 = .ok (.return_, 1) := by decide +kernel
theorem dX13_countsCells_0 : decode cX13_countsCells 0 = .ok (.iconst 0, 1) := by decide +kernel
theorem dX13_countsCells_1 : decode cX13_countsCells 1 = .ok (.istore_n 3, 1) := by decide +kernel
theorem dX13_countsCells_2 : decode cX13_countsCells 2 = .ok (.iload_n 3, 1) := by decide +kernel
theorem dX13_countsCells_3 : decode cX13_countsCells 3 = .ok (.sipush 256, 3) := by decide +kernel
theorem dX13_countsCells_6 : decode cX13_countsCells 6 = .ok (.if_icmp .ge 13, 3) := by decide +kernel
theorem dX13_countsCells_9 : decode cX13_countsCells 9 = .ok (.aload_n 2, 1) := by decide +kernel
theorem dX13_countsCells_10 : decode cX13_countsCells 10 = .ok (.iload_n 3, 1) := by decide +kernel
theorem dX13_countsCells_11 : decode cX13_countsCells 11 = .ok (.iconst 0, 1) := by decide +kernel
theorem dX13_countsCells_12 : decode cX13_countsCells 12 = .ok (.iastore, 1) := by decide +kernel
theorem dX13_countsCells_13 : decode cX13_countsCells 13 = .ok (.iinc 3 1, 3) := by decide +kernel
theorem dX13_countsCells_16 : decode cX13_countsCells 16 = .ok (.goto (-14), 3) := by decide +kernel
theorem dX13_countsCells_19 : decode cX13_countsCells 19 = .ok (.iconst 0, 1) := by decide +kernel
theorem dX13_countsCells_20 : decode cX13_countsCells 20 = .ok (.istore_n 3, 1) := by decide +kernel
theorem dX13_countsCells_21 : decode cX13_countsCells 21 = .ok (.iload_n 3, 1) := by decide +kernel
theorem dX13_countsCells_22 : decode cX13_countsCells 22 = .ok (.sipush 4096, 3) := by decide +kernel
theorem dX13_countsCells_25 : decode cX13_countsCells 25 = .ok (.if_icmp .ge 41, 3) := by decide +kernel
theorem dX13_countsCells_28 : decode cX13_countsCells 28 = .ok (.aload_n 2, 1) := by decide +kernel
theorem dX13_countsCells_29 : decode cX13_countsCells 29 = .ok (.bipush 16, 2) := by decide +kernel
theorem dX13_countsCells_31 : decode cX13_countsCells 31 = .ok (.iload_n 3, 1) := by decide +kernel
theorem dX13_countsCells_32 : decode cX13_countsCells 32 = .ok (.bipush 64, 2) := by decide +kernel
theorem dX13_countsCells_34 : decode cX13_countsCells 34 = .ok (.idiv, 1) := by decide +kernel
theorem dX13_countsCells_35 : decode cX13_countsCells 35 = .ok (.iconst 4, 1) := by decide +kernel
theorem dX13_countsCells_36 : decode cX13_countsCells 36 = .ok (.idiv, 1) := by decide +kernel
theorem dX13_countsCells_37 : decode cX13_countsCells 37 = .ok (.imul, 1) := by decide +kernel
theorem dX13_countsCells_38 : decode cX13_countsCells 38 = .ok (.iload_n 3, 1) := by decide +kernel
theorem dX13_countsCells_39 : decode cX13_countsCells 39 = .ok (.bipush 64, 2) := by decide +kernel
theorem dX13_countsCells_41 : decode cX13_countsCells 41 = .ok (.irem, 1) := by decide +kernel
theorem dX13_countsCells_42 : decode cX13_countsCells 42 = .ok (.iconst 4, 1) := by decide +kernel
theorem dX13_countsCells_43 : decode cX13_countsCells 43 = .ok (.idiv, 1) := by decide +kernel
theorem dX13_countsCells_44 : decode cX13_countsCells 44 = .ok (.iadd, 1) := by decide +kernel
theorem dX13_countsCells_45 : decode cX13_countsCells 45 = .ok (.dup2, 1) := by decide +kernel
theorem dX13_countsCells_46 : decode cX13_countsCells 46 = .ok (.iaload, 1) := by decide +kernel
theorem dX13_countsCells_47 : decode cX13_countsCells 47 = .ok (.aload_n 1, 1) := by decide +kernel
theorem dX13_countsCells_48 : decode cX13_countsCells 48 = .ok (.iload_n 3, 1) := by decide +kernel
theorem dX13_countsCells_49 : decode cX13_countsCells 49 = .ok (.baload, 1) := by decide +kernel
theorem dX13_countsCells_50 : decode cX13_countsCells 50 = .ok (.ifCond .eq 7, 3) := by decide +kernel
theorem dX13_countsCells_53 : decode cX13_countsCells 53 = .ok (.iconst 1, 1) := by decide +kernel
theorem dX13_countsCells_54 : decode cX13_countsCells 54 = .ok (.goto 4, 3) := by decide +kernel
theorem dX13_countsCells_57 : decode cX13_countsCells 57 = .ok (.iconst 0, 1) := by decide +kernel
theorem dX13_countsCells_58 : decode cX13_countsCells 58 = .ok (.iadd, 1) := by decide +kernel
theorem dX13_countsCells_59 : decode cX13_countsCells 59 = .ok (.iastore, 1) := by decide +kernel
theorem dX13_countsCells_60 : decode cX13_countsCells 60 = .ok (.iinc 3 1, 3) := by decide +kernel
theorem dX13_countsCells_63 : decode cX13_countsCells 63 = .ok (.goto (-42), 3) := by decide +kernel
theorem dX13_countsCells_66 : decode cX13_countsCells 66 = .ok (.return_, 1) := by decide +kernel
theorem dX13_size_0 : decode cX13_size 0 = .ok (.iload_n 0, 1) := by decide +kernel
theorem dX13_size_1 : decode cX13_size 1 = .ok (.ifCond .ge 8, 3) := by decide +kernel
theorem dX13_size_4 : decode cX13_size 4 = .ok (.iload_n 0, 1) := by decide +kernel
theorem dX13_size_5 : decode cX13_size 5 = .ok (.ineg, 1) := by decide +kernel
theorem dX13_size_6 : decode cX13_size 6 = .ok (.goto 4, 3) := by decide +kernel
theorem dX13_size_9 : decode cX13_size 9 = .ok (.iload_n 0, 1) := by decide +kernel
theorem dX13_size_10 : decode cX13_size 10 = .ok (.ireturn, 1) := by decide +kernel
theorem dX13_coarseCost_0 : decode cX13_coarseCost 0 = .ok (.iconst 0, 1) := by decide +kernel
theorem dX13_coarseCost_1 : decode cX13_coarseCost 1 = .ok (.istore_n 3, 1) := by decide +kernel
theorem dX13_coarseCost_2 : decode cX13_coarseCost 2 = .ok (.iconst 0, 1) := by decide +kernel
theorem dX13_coarseCost_3 : decode cX13_coarseCost 3 = .ok (.istore 4, 2) := by decide +kernel
theorem dX13_coarseCost_5 : decode cX13_coarseCost 5 = .ok (.iconst 4, 1) := by decide +kernel
theorem dX13_coarseCost_6 : decode cX13_coarseCost 6 = .ok (.iload 4, 2) := by decide +kernel
theorem dX13_coarseCost_8 : decode cX13_coarseCost 8 = .ok (.imul, 1) := by decide +kernel
theorem dX13_coarseCost_9 : decode cX13_coarseCost 9 = .ok (.aload_n 0, 1) := by decide +kernel
theorem dX13_coarseCost_10 : decode cX13_coarseCost 10 = .ok (.getfield 183, 3) := by decide +kernel
theorem dX13_coarseCost_13 : decode cX13_coarseCost 13 = .ok (.if_icmp .ge 122, 3) := by decide +kernel
theorem dX13_coarseCost_16 : decode cX13_coarseCost 16 = .ok (.iconst 0, 1) := by decide +kernel
theorem dX13_coarseCost_17 : decode cX13_coarseCost 17 = .ok (.istore 5, 2) := by decide +kernel
theorem dX13_coarseCost_19 : decode cX13_coarseCost 19 = .ok (.iconst 4, 1) := by decide +kernel
theorem dX13_coarseCost_20 : decode cX13_coarseCost 20 = .ok (.iload 5, 2) := by decide +kernel
theorem dX13_coarseCost_22 : decode cX13_coarseCost 22 = .ok (.imul, 1) := by decide +kernel
theorem dX13_coarseCost_23 : decode cX13_coarseCost 23 = .ok (.aload_n 0, 1) := by decide +kernel
theorem dX13_coarseCost_24 : decode cX13_coarseCost 24 = .ok (.getfield 179, 3) := by decide +kernel
theorem dX13_coarseCost_27 : decode cX13_coarseCost 27 = .ok (.if_icmp .ge 102, 3) := by decide +kernel
theorem dX13_coarseCost_30 : decode cX13_coarseCost 30 = .ok (.iload 5, 2) := by decide +kernel
theorem dX13_coarseCost_32 : decode cX13_coarseCost 32 = .ok (.iload_n 1, 1) := by decide +kernel
theorem dX13_coarseCost_33 : decode cX13_coarseCost 33 = .ok (.iadd, 1) := by decide +kernel
theorem dX13_coarseCost_34 : decode cX13_coarseCost 34 = .ok (.ifCond .lt 40, 3) := by decide +kernel
theorem dX13_coarseCost_37 : decode cX13_coarseCost 37 = .ok (.iconst 4, 1) := by decide +kernel
theorem dX13_coarseCost_38 : decode cX13_coarseCost 38 = .ok (.iload 5, 2) := by decide +kernel
theorem dX13_coarseCost_40 : decode cX13_coarseCost 40 = .ok (.iload_n 1, 1) := by decide +kernel
theorem dX13_coarseCost_41 : decode cX13_coarseCost 41 = .ok (.iadd, 1) := by decide +kernel
theorem dX13_coarseCost_42 : decode cX13_coarseCost 42 = .ok (.imul, 1) := by decide +kernel
theorem dX13_coarseCost_43 : decode cX13_coarseCost 43 = .ok (.aload_n 0, 1) := by decide +kernel
theorem dX13_coarseCost_44 : decode cX13_coarseCost 44 = .ok (.getfield 179, 3) := by decide +kernel
theorem dX13_coarseCost_47 : decode cX13_coarseCost 47 = .ok (.if_icmp .ge 27, 3) := by decide +kernel
theorem dX13_coarseCost_50 : decode cX13_coarseCost 50 = .ok (.iload 4, 2) := by decide +kernel
theorem dX13_coarseCost_52 : decode cX13_coarseCost 52 = .ok (.iload_n 2, 1) := by decide +kernel
theorem dX13_coarseCost_53 : decode cX13_coarseCost 53 = .ok (.iadd, 1) := by decide +kernel
theorem dX13_coarseCost_54 : decode cX13_coarseCost 54 = .ok (.ifCond .lt 20, 3) := by decide +kernel
theorem dX13_coarseCost_57 : decode cX13_coarseCost 57 = .ok (.iconst 4, 1) := by decide +kernel
theorem dX13_coarseCost_58 : decode cX13_coarseCost 58 = .ok (.iload 4, 2) := by decide +kernel
theorem dX13_coarseCost_60 : decode cX13_coarseCost 60 = .ok (.iload_n 2, 1) := by decide +kernel
theorem dX13_coarseCost_61 : decode cX13_coarseCost 61 = .ok (.iadd, 1) := by decide +kernel
theorem dX13_coarseCost_62 : decode cX13_coarseCost 62 = .ok (.imul, 1) := by decide +kernel
theorem dX13_coarseCost_63 : decode cX13_coarseCost 63 = .ok (.aload_n 0, 1) := by decide +kernel
theorem dX13_coarseCost_64 : decode cX13_coarseCost 64 = .ok (.getfield 183, 3) := by decide +kernel
theorem dX13_coarseCost_67 : decode cX13_coarseCost 67 = .ok (.if_icmp .ge 7, 3) := by decide +kernel
theorem dX13_coarseCost_70 : decode cX13_coarseCost 70 = .ok (.iconst 1, 1) := by decide +kernel
theorem dX13_coarseCost_71 : decode cX13_coarseCost 71 = .ok (.goto 4, 3) := by decide +kernel
theorem dX13_coarseCost_74 : decode cX13_coarseCost 74 = .ok (.iconst 0, 1) := by decide +kernel
theorem dX13_coarseCost_75 : decode cX13_coarseCost 75 = .ok (.istore 6, 2) := by decide +kernel
theorem dX13_coarseCost_77 : decode cX13_coarseCost 77 = .ok (.iload_n 3, 1) := by decide +kernel
theorem dX13_coarseCost_78 : decode cX13_coarseCost 78 = .ok (.aload_n 0, 1) := by decide +kernel
theorem dX13_coarseCost_79 : decode cX13_coarseCost 79 = .ok (.getfield 98, 3) := by decide +kernel
theorem dX13_coarseCost_82 : decode cX13_coarseCost 82 = .ok (.bipush 16, 2) := by decide +kernel
theorem dX13_coarseCost_84 : decode cX13_coarseCost 84 = .ok (.iload 4, 2) := by decide +kernel
theorem dX13_coarseCost_86 : decode cX13_coarseCost 86 = .ok (.imul, 1) := by decide +kernel
theorem dX13_coarseCost_87 : decode cX13_coarseCost 87 = .ok (.iload 5, 2) := by decide +kernel
theorem dX13_coarseCost_89 : decode cX13_coarseCost 89 = .ok (.iadd, 1) := by decide +kernel
theorem dX13_coarseCost_90 : decode cX13_coarseCost 90 = .ok (.iaload, 1) := by decide +kernel
theorem dX13_coarseCost_91 : decode cX13_coarseCost 91 = .ok (.iload 6, 2) := by decide +kernel
theorem dX13_coarseCost_93 : decode cX13_coarseCost 93 = .ok (.ifCond .eq 23, 3) := by decide +kernel
theorem dX13_coarseCost_96 : decode cX13_coarseCost 96 = .ok (.aload_n 0, 1) := by decide +kernel
theorem dX13_coarseCost_97 : decode cX13_coarseCost 97 = .ok (.getfield 101, 3) := by decide +kernel
theorem dX13_coarseCost_100 : decode cX13_coarseCost 100 = .ok (.bipush 16, 2) := by decide +kernel
theorem dX13_coarseCost_102 : decode cX13_coarseCost 102 = .ok (.iload 4, 2) := by decide +kernel
theorem dX13_coarseCost_104 : decode cX13_coarseCost 104 = .ok (.iload_n 2, 1) := by decide +kernel
theorem dX13_coarseCost_105 : decode cX13_coarseCost 105 = .ok (.iadd, 1) := by decide +kernel
theorem dX13_coarseCost_106 : decode cX13_coarseCost 106 = .ok (.imul, 1) := by decide +kernel
theorem dX13_coarseCost_107 : decode cX13_coarseCost 107 = .ok (.iload 5, 2) := by decide +kernel
theorem dX13_coarseCost_109 : decode cX13_coarseCost 109 = .ok (.iadd, 1) := by decide +kernel
theorem dX13_coarseCost_110 : decode cX13_coarseCost 110 = .ok (.iload_n 1, 1) := by decide +kernel
theorem dX13_coarseCost_111 : decode cX13_coarseCost 111 = .ok (.iadd, 1) := by decide +kernel
theorem dX13_coarseCost_112 : decode cX13_coarseCost 112 = .ok (.iaload, 1) := by decide +kernel
theorem dX13_coarseCost_113 : decode cX13_coarseCost 113 = .ok (.goto 4, 3) := by decide +kernel
theorem dX13_coarseCost_116 : decode cX13_coarseCost 116 = .ok (.iconst 0, 1) := by decide +kernel
theorem dX13_coarseCost_117 : decode cX13_coarseCost 117 = .ok (.isub, 1) := by decide +kernel
theorem dX13_coarseCost_118 : decode cX13_coarseCost 118 = .ok (.invokestatic 340, 3) := by decide +kernel
theorem dX13_coarseCost_121 : decode cX13_coarseCost 121 = .ok (.iadd, 1) := by decide +kernel
theorem dX13_coarseCost_122 : decode cX13_coarseCost 122 = .ok (.istore_n 3, 1) := by decide +kernel
theorem dX13_coarseCost_123 : decode cX13_coarseCost 123 = .ok (.iinc 5 1, 3) := by decide +kernel
theorem dX13_coarseCost_126 : decode cX13_coarseCost 126 = .ok (.goto (-107), 3) := by decide +kernel
theorem dX13_coarseCost_129 : decode cX13_coarseCost 129 = .ok (.iinc 4 1, 3) := by decide +kernel
theorem dX13_coarseCost_132 : decode cX13_coarseCost 132 = .ok (.goto (-127), 3) := by decide +kernel
theorem dX13_coarseCost_135 : decode cX13_coarseCost 135 = .ok (.iload_n 3, 1) := by decide +kernel
theorem dX13_coarseCost_136 : decode cX13_coarseCost 136 = .ok (.ireturn, 1) := by decide +kernel
theorem dX13_seeksFine_0 : decode cX13_seeksFine 0 = .ok (.aload_n 0, 1) := by decide +kernel
theorem dX13_seeksFine_1 : decode cX13_seeksFine 1 = .ok (.getfield 33, 3) := by decide +kernel
theorem dX13_seeksFine_4 : decode cX13_seeksFine 4 = .ok (.iconst 4, 1) := by decide +kernel
theorem dX13_seeksFine_5 : decode cX13_seeksFine 5 = .ok (.iaload, 1) := by decide +kernel
theorem dX13_seeksFine_6 : decode cX13_seeksFine 6 = .ok (.istore_n 1, 1) := by decide +kernel
theorem dX13_seeksFine_7 : decode cX13_seeksFine 7 = .ok (.iconst (-1), 1) := by decide +kernel
theorem dX13_seeksFine_8 : decode cX13_seeksFine 8 = .ok (.istore_n 2, 1) := by decide +kernel
theorem dX13_seeksFine_9 : decode cX13_seeksFine 9 = .ok (.iconst 0, 1) := by decide +kernel
theorem dX13_seeksFine_10 : decode cX13_seeksFine 10 = .ok (.istore_n 3, 1) := by decide +kernel
theorem dX13_seeksFine_11 : decode cX13_seeksFine 11 = .ok (.iload_n 3, 1) := by decide +kernel
theorem dX13_seeksFine_12 : decode cX13_seeksFine 12 = .ok (.iconst 2, 1) := by decide +kernel
theorem dX13_seeksFine_13 : decode cX13_seeksFine 13 = .ok (.iload_n 1, 1) := by decide +kernel
theorem dX13_seeksFine_14 : decode cX13_seeksFine 14 = .ok (.imul, 1) := by decide +kernel
theorem dX13_seeksFine_15 : decode cX13_seeksFine 15 = .ok (.if_icmp .gt 139, 3) := by decide +kernel
theorem dX13_seeksFine_18 : decode cX13_seeksFine 18 = .ok (.iconst 4, 1) := by decide +kernel
theorem dX13_seeksFine_19 : decode cX13_seeksFine 19 = .ok (.aload_n 0, 1) := by decide +kernel
theorem dX13_seeksFine_20 : decode cX13_seeksFine 20 = .ok (.getfield 353, 3) := by decide +kernel
theorem dX13_seeksFine_23 : decode cX13_seeksFine 23 = .ok (.imul, 1) := by decide +kernel
theorem dX13_seeksFine_24 : decode cX13_seeksFine 24 = .ok (.iconst 3, 1) := by decide +kernel
theorem dX13_seeksFine_25 : decode cX13_seeksFine 25 = .ok (.isub, 1) := by decide +kernel
theorem dX13_seeksFine_26 : decode cX13_seeksFine 26 = .ok (.istore 4, 2) := by decide +kernel
theorem dX13_seeksFine_28 : decode cX13_seeksFine 28 = .ok (.iload 4, 2) := by decide +kernel
theorem dX13_seeksFine_30 : decode cX13_seeksFine 30 = .ok (.iconst 4, 1) := by decide +kernel
theorem dX13_seeksFine_31 : decode cX13_seeksFine 31 = .ok (.aload_n 0, 1) := by decide +kernel
theorem dX13_seeksFine_32 : decode cX13_seeksFine 32 = .ok (.getfield 353, 3) := by decide +kernel
theorem dX13_seeksFine_35 : decode cX13_seeksFine 35 = .ok (.imul, 1) := by decide +kernel
theorem dX13_seeksFine_36 : decode cX13_seeksFine 36 = .ok (.iconst 3, 1) := by decide +kernel
theorem dX13_seeksFine_37 : decode cX13_seeksFine 37 = .ok (.iadd, 1) := by decide +kernel
theorem dX13_seeksFine_38 : decode cX13_seeksFine 38 = .ok (.if_icmp .gt 110, 3) := by decide +kernel
theorem dX13_seeksFine_41 : decode cX13_seeksFine 41 = .ok (.iconst 4, 1) := by decide +kernel
theorem dX13_seeksFine_42 : decode cX13_seeksFine 42 = .ok (.aload_n 0, 1) := by decide +kernel
theorem dX13_seeksFine_43 : decode cX13_seeksFine 43 = .ok (.getfield 350, 3) := by decide +kernel
theorem dX13_seeksFine_46 : decode cX13_seeksFine 46 = .ok (.imul, 1) := by decide +kernel
theorem dX13_seeksFine_47 : decode cX13_seeksFine 47 = .ok (.iconst 3, 1) := by decide +kernel
theorem dX13_seeksFine_48 : decode cX13_seeksFine 48 = .ok (.isub, 1) := by decide +kernel
theorem dX13_seeksFine_49 : decode cX13_seeksFine 49 = .ok (.istore 5, 2) := by decide +kernel
theorem dX13_seeksFine_51 : decode cX13_seeksFine 51 = .ok (.iload 5, 2) := by decide +kernel
theorem dX13_seeksFine_53 : decode cX13_seeksFine 53 = .ok (.iconst 4, 1) := by decide +kernel
theorem dX13_seeksFine_54 : decode cX13_seeksFine 54 = .ok (.aload_n 0, 1) := by decide +kernel
theorem dX13_seeksFine_55 : decode cX13_seeksFine 55 = .ok (.getfield 350, 3) := by decide +kernel
theorem dX13_seeksFine_58 : decode cX13_seeksFine 58 = .ok (.imul, 1) := by decide +kernel
theorem dX13_seeksFine_59 : decode cX13_seeksFine 59 = .ok (.iconst 3, 1) := by decide +kernel
theorem dX13_seeksFine_60 : decode cX13_seeksFine 60 = .ok (.iadd, 1) := by decide +kernel
theorem dX13_seeksFine_61 : decode cX13_seeksFine 61 = .ok (.if_icmp .gt 81, 3) := by decide +kernel
theorem dX13_seeksFine_64 : decode cX13_seeksFine 64 = .ok (.iload 5, 2) := by decide +kernel
theorem dX13_seeksFine_66 : decode cX13_seeksFine 66 = .ok (.invokestatic 340, 3) := by decide +kernel
theorem dX13_seeksFine_69 : decode cX13_seeksFine 69 = .ok (.iload_n 1, 1) := by decide +kernel
theorem dX13_seeksFine_70 : decode cX13_seeksFine 70 = .ok (.if_icmp .gt 66, 3) := by decide +kernel
theorem dX13_seeksFine_73 : decode cX13_seeksFine 73 = .ok (.iload 4, 2) := by decide +kernel
theorem dX13_seeksFine_75 : decode cX13_seeksFine 75 = .ok (.invokestatic 340, 3) := by decide +kernel
theorem dX13_seeksFine_78 : decode cX13_seeksFine 78 = .ok (.iload_n 1, 1) := by decide +kernel
theorem dX13_seeksFine_79 : decode cX13_seeksFine 79 = .ok (.if_icmp .gt 57, 3) := by decide +kernel
theorem dX13_seeksFine_82 : decode cX13_seeksFine 82 = .ok (.iload 5, 2) := by decide +kernel
theorem dX13_seeksFine_84 : decode cX13_seeksFine 84 = .ok (.invokestatic 340, 3) := by decide +kernel
theorem dX13_seeksFine_87 : decode cX13_seeksFine 87 = .ok (.iload 4, 2) := by decide +kernel
theorem dX13_seeksFine_89 : decode cX13_seeksFine 89 = .ok (.invokestatic 340, 3) := by decide +kernel
theorem dX13_seeksFine_92 : decode cX13_seeksFine 92 = .ok (.iadd, 1) := by decide +kernel
theorem dX13_seeksFine_93 : decode cX13_seeksFine 93 = .ok (.iload_n 3, 1) := by decide +kernel
theorem dX13_seeksFine_94 : decode cX13_seeksFine 94 = .ok (.if_icmp .ne 42, 3) := by decide +kernel
theorem dX13_seeksFine_97 : decode cX13_seeksFine 97 = .ok (.aload_n 0, 1) := by decide +kernel
theorem dX13_seeksFine_98 : decode cX13_seeksFine 98 = .ok (.aload_n 0, 1) := by decide +kernel
theorem dX13_seeksFine_99 : decode cX13_seeksFine 99 = .ok (.getfield 89, 3) := by decide +kernel
theorem dX13_seeksFine_102 : decode cX13_seeksFine 102 = .ok (.iload 5, 2) := by decide +kernel
theorem dX13_seeksFine_104 : decode cX13_seeksFine 104 = .ok (.iload 4, 2) := by decide +kernel
theorem dX13_seeksFine_106 : decode cX13_seeksFine 106 = .ok (.invokevirtual 356, 3) := by decide +kernel
theorem dX13_seeksFine_109 : decode cX13_seeksFine 109 = .ok (.istore 6, 2) := by decide +kernel
theorem dX13_seeksFine_111 : decode cX13_seeksFine 111 = .ok (.iload_n 2, 1) := by decide +kernel
theorem dX13_seeksFine_112 : decode cX13_seeksFine 112 = .ok (.ifCond .lt 9, 3) := by decide +kernel
theorem dX13_seeksFine_115 : decode cX13_seeksFine 115 = .ok (.iload 6, 2) := by decide +kernel
theorem dX13_seeksFine_117 : decode cX13_seeksFine 117 = .ok (.iload_n 2, 1) := by decide +kernel
theorem dX13_seeksFine_118 : decode cX13_seeksFine 118 = .ok (.if_icmp .ge 18, 3) := by decide +kernel
theorem dX13_seeksFine_121 : decode cX13_seeksFine 121 = .ok (.iload 6, 2) := by decide +kernel
theorem dX13_seeksFine_123 : decode cX13_seeksFine 123 = .ok (.istore_n 2, 1) := by decide +kernel
theorem dX13_seeksFine_124 : decode cX13_seeksFine 124 = .ok (.aload_n 0, 1) := by decide +kernel
theorem dX13_seeksFine_125 : decode cX13_seeksFine 125 = .ok (.iload 5, 2) := by decide +kernel
theorem dX13_seeksFine_127 : decode cX13_seeksFine 127 = .ok (.putfield 359, 3) := by decide +kernel
theorem dX13_seeksFine_130 : decode cX13_seeksFine 130 = .ok (.aload_n 0, 1) := by decide +kernel
theorem dX13_seeksFine_131 : decode cX13_seeksFine 131 = .ok (.iload 4, 2) := by decide +kernel
theorem dX13_seeksFine_133 : decode cX13_seeksFine 133 = .ok (.putfield 362, 3) := by decide +kernel
theorem dX13_seeksFine_136 : decode cX13_seeksFine 136 = .ok (.iinc 5 1, 3) := by decide +kernel
theorem dX13_seeksFine_139 : decode cX13_seeksFine 139 = .ok (.goto (-88), 3) := by decide +kernel
theorem dX13_seeksFine_142 : decode cX13_seeksFine 142 = .ok (.iinc 4 1, 3) := by decide +kernel
theorem dX13_seeksFine_145 : decode cX13_seeksFine 145 = .ok (.goto (-117), 3) := by decide +kernel
theorem dX13_seeksFine_148 : decode cX13_seeksFine 148 = .ok (.iinc 3 1, 3) := by decide +kernel
theorem dX13_seeksFine_151 : decode cX13_seeksFine 151 = .ok (.goto (-140), 3) := by decide +kernel
theorem dX13_seeksFine_154 : decode cX13_seeksFine 154 = .ok (.iload_n 2, 1) := by decide +kernel
theorem dX13_seeksFine_155 : decode cX13_seeksFine 155 = .ok (.ireturn, 1) := by decide +kernel
theorem dX13_differ_0 : decode cX13_differ 0 = .ok (.iconst 0, 1) := by decide +kernel
theorem dX13_differ_1 : decode cX13_differ 1 = .ok (.istore 4, 2) := by decide +kernel
theorem dX13_differ_3 : decode cX13_differ 3 = .ok (.iconst 0, 1) := by decide +kernel
theorem dX13_differ_4 : decode cX13_differ 4 = .ok (.istore 5, 2) := by decide +kernel
theorem dX13_differ_6 : decode cX13_differ 6 = .ok (.iload 5, 2) := by decide +kernel
theorem dX13_differ_8 : decode cX13_differ 8 = .ok (.aload_n 0, 1) := by decide +kernel
theorem dX13_differ_9 : decode cX13_differ 9 = .ok (.getfield 183, 3) := by decide +kernel
theorem dX13_differ_12 : decode cX13_differ 12 = .ok (.if_icmp .ge 96, 3) := by decide +kernel
theorem dX13_differ_15 : decode cX13_differ 15 = .ok (.iconst 0, 1) := by decide +kernel
theorem dX13_differ_16 : decode cX13_differ 16 = .ok (.istore 6, 2) := by decide +kernel
theorem dX13_differ_18 : decode cX13_differ 18 = .ok (.iload 6, 2) := by decide +kernel
theorem dX13_differ_20 : decode cX13_differ 20 = .ok (.aload_n 0, 1) := by decide +kernel
theorem dX13_differ_21 : decode cX13_differ 21 = .ok (.getfield 179, 3) := by decide +kernel
theorem dX13_differ_24 : decode cX13_differ 24 = .ok (.if_icmp .ge 78, 3) := by decide +kernel
theorem dX13_differ_27 : decode cX13_differ 27 = .ok (.aload_n 0, 1) := by decide +kernel
theorem dX13_differ_28 : decode cX13_differ 28 = .ok (.iload 6, 2) := by decide +kernel
theorem dX13_differ_30 : decode cX13_differ 30 = .ok (.iload_n 2, 1) := by decide +kernel
theorem dX13_differ_31 : decode cX13_differ 31 = .ok (.iadd, 1) := by decide +kernel
theorem dX13_differ_32 : decode cX13_differ 32 = .ok (.i2l, 1) := by decide +kernel
theorem dX13_differ_33 : decode cX13_differ 33 = .ok (.iload 5, 2) := by decide +kernel
theorem dX13_differ_35 : decode cX13_differ 35 = .ok (.iload_n 3, 1) := by decide +kernel
theorem dX13_differ_36 : decode cX13_differ 36 = .ok (.iadd, 1) := by decide +kernel
theorem dX13_differ_37 : decode cX13_differ 37 = .ok (.i2l, 1) := by decide +kernel
theorem dX13_differ_38 : decode cX13_differ 38 = .ok (.invokevirtual 195, 3) := by decide +kernel
theorem dX13_differ_41 : decode cX13_differ 41 = .ok (.ifCond .eq 24, 3) := by decide +kernel
theorem dX13_differ_44 : decode cX13_differ 44 = .ok (.aload_n 1, 1) := by decide +kernel
theorem dX13_differ_45 : decode cX13_differ 45 = .ok (.bipush 64, 2) := by decide +kernel
theorem dX13_differ_47 : decode cX13_differ 47 = .ok (.iload 5, 2) := by decide +kernel
theorem dX13_differ_49 : decode cX13_differ 49 = .ok (.iload_n 3, 1) := by decide +kernel
theorem dX13_differ_50 : decode cX13_differ 50 = .ok (.iadd, 1) := by decide +kernel
theorem dX13_differ_51 : decode cX13_differ 51 = .ok (.imul, 1) := by decide +kernel
theorem dX13_differ_52 : decode cX13_differ 52 = .ok (.iload 6, 2) := by decide +kernel
theorem dX13_differ_54 : decode cX13_differ 54 = .ok (.iadd, 1) := by decide +kernel
theorem dX13_differ_55 : decode cX13_differ 55 = .ok (.iload_n 2, 1) := by decide +kernel
theorem dX13_differ_56 : decode cX13_differ 56 = .ok (.iadd, 1) := by decide +kernel
theorem dX13_differ_57 : decode cX13_differ 57 = .ok (.baload, 1) := by decide +kernel
theorem dX13_differ_58 : decode cX13_differ 58 = .ok (.ifCond .eq 7, 3) := by decide +kernel
theorem dX13_differ_61 : decode cX13_differ 61 = .ok (.iconst 1, 1) := by decide +kernel
theorem dX13_differ_62 : decode cX13_differ 62 = .ok (.goto 4, 3) := by decide +kernel
theorem dX13_differ_65 : decode cX13_differ 65 = .ok (.iconst 0, 1) := by decide +kernel
theorem dX13_differ_66 : decode cX13_differ 66 = .ok (.istore 7, 2) := by decide +kernel
theorem dX13_differ_68 : decode cX13_differ 68 = .ok (.iload 4, 2) := by decide +kernel
theorem dX13_differ_70 : decode cX13_differ 70 = .ok (.iload 7, 2) := by decide +kernel
theorem dX13_differ_72 : decode cX13_differ 72 = .ok (.aload_n 0, 1) := by decide +kernel
theorem dX13_differ_73 : decode cX13_differ 73 = .ok (.getfield 83, 3) := by decide +kernel
theorem dX13_differ_76 : decode cX13_differ 76 = .ok (.bipush 64, 2) := by decide +kernel
theorem dX13_differ_78 : decode cX13_differ 78 = .ok (.iload 5, 2) := by decide +kernel
theorem dX13_differ_80 : decode cX13_differ 80 = .ok (.imul, 1) := by decide +kernel
theorem dX13_differ_81 : decode cX13_differ 81 = .ok (.iload 6, 2) := by decide +kernel
theorem dX13_differ_83 : decode cX13_differ 83 = .ok (.iadd, 1) := by decide +kernel
theorem dX13_differ_84 : decode cX13_differ 84 = .ok (.baload, 1) := by decide +kernel
theorem dX13_differ_85 : decode cX13_differ 85 = .ok (.if_icmp .ne 7, 3) := by decide +kernel
theorem dX13_differ_88 : decode cX13_differ 88 = .ok (.iconst 0, 1) := by decide +kernel
theorem dX13_differ_89 : decode cX13_differ 89 = .ok (.goto 4, 3) := by decide +kernel
theorem dX13_differ_92 : decode cX13_differ 92 = .ok (.iconst 1, 1) := by decide +kernel
theorem dX13_differ_93 : decode cX13_differ 93 = .ok (.iadd, 1) := by decide +kernel
theorem dX13_differ_94 : decode cX13_differ 94 = .ok (.istore 4, 2) := by decide +kernel
theorem dX13_differ_96 : decode cX13_differ 96 = .ok (.iinc 6 1, 3) := by decide +kernel
theorem dX13_differ_99 : decode cX13_differ 99 = .ok (.goto (-81), 3) := by decide +kernel
theorem dX13_differ_102 : decode cX13_differ 102 = .ok (.iinc 5 1, 3) := by decide +kernel
theorem dX13_differ_105 : decode cX13_differ 105 = .ok (.goto (-99), 3) := by decide +kernel
theorem dX13_differ_108 : decode cX13_differ 108 = .ok (.iload 4, 2) := by decide +kernel
theorem dX13_differ_110 : decode cX13_differ 110 = .ok (.ireturn, 1) := by decide +kernel
theorem dX13_findsDifferences_0 : decode cX13_findsDifferences 0 = .ok (.aload_n 0, 1) := by decide +kernel
theorem dX13_findsDifferences_1 : decode cX13_findsDifferences 1 = .ok (.aload_n 0, 1) := by decide +kernel
theorem dX13_findsDifferences_2 : decode cX13_findsDifferences 2 = .ok (.getfield 33, 3) := by decide +kernel
theorem dX13_findsDifferences_5 : decode cX13_findsDifferences 5 = .ok (.iconst 0, 1) := by decide +kernel
theorem dX13_findsDifferences_6 : decode cX13_findsDifferences 6 = .ok (.iaload, 1) := by decide +kernel
theorem dX13_findsDifferences_7 : decode cX13_findsDifferences 7 = .ok (.putfield 391, 3) := by decide +kernel
theorem dX13_findsDifferences_10 : decode cX13_findsDifferences 10 = .ok (.aload_n 0, 1) := by decide +kernel
theorem dX13_findsDifferences_11 : decode cX13_findsDifferences 11 = .ok (.aload_n 0, 1) := by decide +kernel
theorem dX13_findsDifferences_12 : decode cX13_findsDifferences 12 = .ok (.getfield 179, 3) := by decide +kernel
theorem dX13_findsDifferences_15 : decode cX13_findsDifferences 15 = .ok (.aload_n 0, 1) := by decide +kernel
theorem dX13_findsDifferences_16 : decode cX13_findsDifferences 16 = .ok (.getfield 391, 3) := by decide +kernel
theorem dX13_findsDifferences_19 : decode cX13_findsDifferences 19 = .ok (.iadd, 1) := by decide +kernel
theorem dX13_findsDifferences_20 : decode cX13_findsDifferences 20 = .ok (.iconst 1, 1) := by decide +kernel
theorem dX13_findsDifferences_21 : decode cX13_findsDifferences 21 = .ok (.isub, 1) := by decide +kernel
theorem dX13_findsDifferences_22 : decode cX13_findsDifferences 22 = .ok (.aload_n 0, 1) := by decide +kernel
theorem dX13_findsDifferences_23 : decode cX13_findsDifferences 23 = .ok (.getfield 391, 3) := by decide +kernel
theorem dX13_findsDifferences_26 : decode cX13_findsDifferences 26 = .ok (.idiv, 1) := by decide +kernel
theorem dX13_findsDifferences_27 : decode cX13_findsDifferences 27 = .ok (.putfield 394, 3) := by decide +kernel
theorem dX13_findsDifferences_30 : decode cX13_findsDifferences 30 = .ok (.aload_n 0, 1) := by decide +kernel
theorem dX13_findsDifferences_31 : decode cX13_findsDifferences 31 = .ok (.aload_n 0, 1) := by decide +kernel
theorem dX13_findsDifferences_32 : decode cX13_findsDifferences 32 = .ok (.getfield 183, 3) := by decide +kernel
theorem dX13_findsDifferences_35 : decode cX13_findsDifferences 35 = .ok (.aload_n 0, 1) := by decide +kernel
theorem dX13_findsDifferences_36 : decode cX13_findsDifferences 36 = .ok (.getfield 391, 3) := by decide +kernel
theorem dX13_findsDifferences_39 : decode cX13_findsDifferences 39 = .ok (.iadd, 1) := by decide +kernel
theorem dX13_findsDifferences_40 : decode cX13_findsDifferences 40 = .ok (.iconst 1, 1) := by decide +kernel
theorem dX13_findsDifferences_41 : decode cX13_findsDifferences 41 = .ok (.isub, 1) := by decide +kernel
theorem dX13_findsDifferences_42 : decode cX13_findsDifferences 42 = .ok (.aload_n 0, 1) := by decide +kernel
theorem dX13_findsDifferences_43 : decode cX13_findsDifferences 43 = .ok (.getfield 391, 3) := by decide +kernel
theorem dX13_findsDifferences_46 : decode cX13_findsDifferences 46 = .ok (.idiv, 1) := by decide +kernel
theorem dX13_findsDifferences_47 : decode cX13_findsDifferences 47 = .ok (.putfield 397, 3) := by decide +kernel
theorem dX13_findsDifferences_50 : decode cX13_findsDifferences 50 = .ok (.iconst 0, 1) := by decide +kernel
theorem dX13_findsDifferences_51 : decode cX13_findsDifferences 51 = .ok (.istore_n 1, 1) := by decide +kernel
theorem dX13_findsDifferences_52 : decode cX13_findsDifferences 52 = .ok (.iload_n 1, 1) := by decide +kernel
theorem dX13_findsDifferences_53 : decode cX13_findsDifferences 53 = .ok (.sipush 256, 3) := by decide +kernel
theorem dX13_findsDifferences_56 : decode cX13_findsDifferences 56 = .ok (.if_icmp .ge 16, 3) := by decide +kernel
theorem dX13_findsDifferences_59 : decode cX13_findsDifferences 59 = .ok (.aload_n 0, 1) := by decide +kernel
theorem dX13_findsDifferences_60 : decode cX13_findsDifferences 60 = .ok (.getfield 110, 3) := by decide +kernel
theorem dX13_findsDifferences_63 : decode cX13_findsDifferences 63 = .ok (.iload_n 1, 1) := by decide +kernel
theorem dX13_findsDifferences_64 : decode cX13_findsDifferences 64 = .ok (.iconst 0, 1) := by decide +kernel
theorem dX13_findsDifferences_65 : decode cX13_findsDifferences 65 = .ok (.iastore, 1) := by decide +kernel
theorem dX13_findsDifferences_66 : decode cX13_findsDifferences 66 = .ok (.iinc 1 1, 3) := by decide +kernel
theorem dX13_findsDifferences_69 : decode cX13_findsDifferences 69 = .ok (.goto (-17), 3) := by decide +kernel
theorem dX13_findsDifferences_72 : decode cX13_findsDifferences 72 = .ok (.iconst 0, 1) := by decide +kernel
theorem dX13_findsDifferences_73 : decode cX13_findsDifferences 73 = .ok (.istore_n 1, 1) := by decide +kernel
theorem dX13_findsDifferences_74 : decode cX13_findsDifferences 74 = .ok (.iload_n 1, 1) := by decide +kernel
theorem dX13_findsDifferences_75 : decode cX13_findsDifferences 75 = .ok (.sipush 4096, 3) := by decide +kernel
theorem dX13_findsDifferences_78 : decode cX13_findsDifferences 78 = .ok (.if_icmp .ge 144, 3) := by decide +kernel
theorem dX13_findsDifferences_81 : decode cX13_findsDifferences 81 = .ok (.aload_n 0, 1) := by decide +kernel
theorem dX13_findsDifferences_82 : decode cX13_findsDifferences 82 = .ok (.iload_n 1, 1) := by decide +kernel
theorem dX13_findsDifferences_83 : decode cX13_findsDifferences 83 = .ok (.bipush 64, 2) := by decide +kernel
theorem dX13_findsDifferences_85 : decode cX13_findsDifferences 85 = .ok (.irem, 1) := by decide +kernel
theorem dX13_findsDifferences_86 : decode cX13_findsDifferences 86 = .ok (.i2l, 1) := by decide +kernel
theorem dX13_findsDifferences_87 : decode cX13_findsDifferences 87 = .ok (.iload_n 1, 1) := by decide +kernel
theorem dX13_findsDifferences_88 : decode cX13_findsDifferences 88 = .ok (.bipush 64, 2) := by decide +kernel
theorem dX13_findsDifferences_90 : decode cX13_findsDifferences 90 = .ok (.idiv, 1) := by decide +kernel
theorem dX13_findsDifferences_91 : decode cX13_findsDifferences 91 = .ok (.i2l, 1) := by decide +kernel
theorem dX13_findsDifferences_92 : decode cX13_findsDifferences 92 = .ok (.invokevirtual 195, 3) := by decide +kernel
theorem dX13_findsDifferences_95 : decode cX13_findsDifferences 95 = .ok (.ifCond .eq 15, 3) := by decide +kernel
theorem dX13_findsDifferences_98 : decode cX13_findsDifferences 98 = .ok (.aload_n 0, 1) := by decide +kernel
theorem dX13_findsDifferences_99 : decode cX13_findsDifferences 99 = .ok (.iload_n 1, 1) := by decide +kernel
theorem dX13_findsDifferences_100 : decode cX13_findsDifferences 100 = .ok (.invokevirtual 400, 3) := by decide +kernel
theorem dX13_findsDifferences_103 : decode cX13_findsDifferences 103 = .ok (.ifCond .ne 7, 3) := by decide +kernel
theorem dX13_findsDifferences_106 : decode cX13_findsDifferences 106 = .ok (.iconst 1, 1) := by decide +kernel
theorem dX13_findsDifferences_107 : decode cX13_findsDifferences 107 = .ok (.goto 4, 3) := by decide +kernel
theorem dX13_findsDifferences_110 : decode cX13_findsDifferences 110 = .ok (.iconst 0, 1) := by decide +kernel
theorem dX13_findsDifferences_111 : decode cX13_findsDifferences 111 = .ok (.istore_n 2, 1) := by decide +kernel
theorem dX13_findsDifferences_112 : decode cX13_findsDifferences 112 = .ok (.aload_n 0, 1) := by decide +kernel
theorem dX13_findsDifferences_113 : decode cX13_findsDifferences 113 = .ok (.getfield 104, 3) := by decide +kernel
theorem dX13_findsDifferences_116 : decode cX13_findsDifferences 116 = .ok (.iload_n 1, 1) := by decide +kernel
theorem dX13_findsDifferences_117 : decode cX13_findsDifferences 117 = .ok (.iload_n 2, 1) := by decide +kernel
theorem dX13_findsDifferences_118 : decode cX13_findsDifferences 118 = .ok (.ifCond .eq 28, 3) := by decide +kernel
theorem dX13_findsDifferences_121 : decode cX13_findsDifferences 121 = .ok (.aload_n 0, 1) := by decide +kernel
theorem dX13_findsDifferences_122 : decode cX13_findsDifferences 122 = .ok (.getfield 83, 3) := by decide +kernel
theorem dX13_findsDifferences_125 : decode cX13_findsDifferences 125 = .ok (.iload_n 1, 1) := by decide +kernel
theorem dX13_findsDifferences_126 : decode cX13_findsDifferences 126 = .ok (.baload, 1) := by decide +kernel
theorem dX13_findsDifferences_127 : decode cX13_findsDifferences 127 = .ok (.ifCond .eq 19, 3) := by decide +kernel
theorem dX13_findsDifferences_130 : decode cX13_findsDifferences 130 = .ok (.aload_n 0, 1) := by decide +kernel
theorem dX13_findsDifferences_131 : decode cX13_findsDifferences 131 = .ok (.aload_n 0, 1) := by decide +kernel
theorem dX13_findsDifferences_132 : decode cX13_findsDifferences 132 = .ok (.getfield 92, 3) := by decide +kernel
theorem dX13_findsDifferences_135 : decode cX13_findsDifferences 135 = .ok (.iload_n 1, 1) := by decide +kernel
theorem dX13_findsDifferences_136 : decode cX13_findsDifferences 136 = .ok (.invokevirtual 403, 3) := by decide +kernel
theorem dX13_findsDifferences_139 : decode cX13_findsDifferences 139 = .ok (.ifCond .ne 7, 3) := by decide +kernel
theorem dX13_findsDifferences_142 : decode cX13_findsDifferences 142 = .ok (.iconst 1, 1) := by decide +kernel
theorem dX13_findsDifferences_143 : decode cX13_findsDifferences 143 = .ok (.goto 4, 3) := by decide +kernel
theorem dX13_findsDifferences_146 : decode cX13_findsDifferences 146 = .ok (.iconst 0, 1) := by decide +kernel
theorem dX13_findsDifferences_147 : decode cX13_findsDifferences 147 = .ok (.bastore, 1) := by decide +kernel
theorem dX13_findsDifferences_148 : decode cX13_findsDifferences 148 = .ok (.aload_n 0, 1) := by decide +kernel
theorem dX13_findsDifferences_149 : decode cX13_findsDifferences 149 = .ok (.getfield 107, 3) := by decide +kernel
theorem dX13_findsDifferences_152 : decode cX13_findsDifferences 152 = .ok (.iload_n 1, 1) := by decide +kernel
theorem dX13_findsDifferences_153 : decode cX13_findsDifferences 153 = .ok (.iload_n 2, 1) := by decide +kernel
theorem dX13_findsDifferences_154 : decode cX13_findsDifferences 154 = .ok (.ifCond .eq 28, 3) := by decide +kernel
theorem dX13_findsDifferences_157 : decode cX13_findsDifferences 157 = .ok (.aload_n 0, 1) := by decide +kernel
theorem dX13_findsDifferences_158 : decode cX13_findsDifferences 158 = .ok (.getfield 92, 3) := by decide +kernel
theorem dX13_findsDifferences_161 : decode cX13_findsDifferences 161 = .ok (.iload_n 1, 1) := by decide +kernel
theorem dX13_findsDifferences_162 : decode cX13_findsDifferences 162 = .ok (.baload, 1) := by decide +kernel
theorem dX13_findsDifferences_163 : decode cX13_findsDifferences 163 = .ok (.ifCond .eq 19, 3) := by decide +kernel
theorem dX13_findsDifferences_166 : decode cX13_findsDifferences 166 = .ok (.aload_n 0, 1) := by decide +kernel
theorem dX13_findsDifferences_167 : decode cX13_findsDifferences 167 = .ok (.aload_n 0, 1) := by decide +kernel
theorem dX13_findsDifferences_168 : decode cX13_findsDifferences 168 = .ok (.getfield 83, 3) := by decide +kernel
theorem dX13_findsDifferences_171 : decode cX13_findsDifferences 171 = .ok (.iload_n 1, 1) := by decide +kernel
theorem dX13_findsDifferences_172 : decode cX13_findsDifferences 172 = .ok (.invokevirtual 403, 3) := by decide +kernel
theorem dX13_findsDifferences_175 : decode cX13_findsDifferences 175 = .ok (.ifCond .ne 7, 3) := by decide +kernel
theorem dX13_findsDifferences_178 : decode cX13_findsDifferences 178 = .ok (.iconst 1, 1) := by decide +kernel
theorem dX13_findsDifferences_179 : decode cX13_findsDifferences 179 = .ok (.goto 4, 3) := by decide +kernel
theorem dX13_findsDifferences_182 : decode cX13_findsDifferences 182 = .ok (.iconst 0, 1) := by decide +kernel
theorem dX13_findsDifferences_183 : decode cX13_findsDifferences 183 = .ok (.bastore, 1) := by decide +kernel
theorem dX13_findsDifferences_184 : decode cX13_findsDifferences 184 = .ok (.aload_n 0, 1) := by decide +kernel
theorem dX13_findsDifferences_185 : decode cX13_findsDifferences 185 = .ok (.getfield 104, 3) := by decide +kernel
theorem dX13_findsDifferences_188 : decode cX13_findsDifferences 188 = .ok (.iload_n 1, 1) := by decide +kernel
theorem dX13_findsDifferences_189 : decode cX13_findsDifferences 189 = .ok (.baload, 1) := by decide +kernel
theorem dX13_findsDifferences_190 : decode cX13_findsDifferences 190 = .ok (.ifCond .ne 12, 3) := by decide +kernel
theorem dX13_findsDifferences_193 : decode cX13_findsDifferences 193 = .ok (.aload_n 0, 1) := by decide +kernel
theorem dX13_findsDifferences_194 : decode cX13_findsDifferences 194 = .ok (.getfield 107, 3) := by decide +kernel
theorem dX13_findsDifferences_197 : decode cX13_findsDifferences 197 = .ok (.iload_n 1, 1) := by decide +kernel
theorem dX13_findsDifferences_198 : decode cX13_findsDifferences 198 = .ok (.baload, 1) := by decide +kernel
theorem dX13_findsDifferences_199 : decode cX13_findsDifferences 199 = .ok (.ifCond .eq 17, 3) := by decide +kernel
theorem dX13_findsDifferences_202 : decode cX13_findsDifferences 202 = .ok (.aload_n 0, 1) := by decide +kernel
theorem dX13_findsDifferences_203 : decode cX13_findsDifferences 203 = .ok (.getfield 110, 3) := by decide +kernel
theorem dX13_findsDifferences_206 : decode cX13_findsDifferences 206 = .ok (.aload_n 0, 1) := by decide +kernel
theorem dX13_findsDifferences_207 : decode cX13_findsDifferences 207 = .ok (.iload_n 1, 1) := by decide +kernel
theorem dX13_findsDifferences_208 : decode cX13_findsDifferences 208 = .ok (.invokevirtual 407, 3) := by decide +kernel
theorem dX13_findsDifferences_211 : decode cX13_findsDifferences 211 = .ok (.dup2, 1) := by decide +kernel
theorem dX13_findsDifferences_212 : decode cX13_findsDifferences 212 = .ok (.iaload, 1) := by decide +kernel
theorem dX13_findsDifferences_213 : decode cX13_findsDifferences 213 = .ok (.iconst 1, 1) := by decide +kernel
theorem dX13_findsDifferences_214 : decode cX13_findsDifferences 214 = .ok (.iadd, 1) := by decide +kernel
theorem dX13_findsDifferences_215 : decode cX13_findsDifferences 215 = .ok (.iastore, 1) := by decide +kernel
theorem dX13_findsDifferences_216 : decode cX13_findsDifferences 216 = .ok (.iinc 1 1, 3) := by decide +kernel
theorem dX13_findsDifferences_219 : decode cX13_findsDifferences 219 = .ok (.goto (-145), 3) := by decide +kernel
theorem dX13_findsDifferences_222 : decode cX13_findsDifferences 222 = .ok (.return_, 1) := by decide +kernel
theorem dX13_isMasked_0 : decode cX13_isMasked 0 = .ok (.iconst 0, 1) := by decide +kernel
theorem dX13_isMasked_1 : decode cX13_isMasked 1 = .ok (.istore_n 2, 1) := by decide +kernel
theorem dX13_isMasked_2 : decode cX13_isMasked 2 = .ok (.iconst 0, 1) := by decide +kernel
theorem dX13_isMasked_3 : decode cX13_isMasked 3 = .ok (.istore_n 3, 1) := by decide +kernel
theorem dX13_isMasked_4 : decode cX13_isMasked 4 = .ok (.iload_n 3, 1) := by decide +kernel
theorem dX13_isMasked_5 : decode cX13_isMasked 5 = .ok (.aload_n 0, 1) := by decide +kernel
theorem dX13_isMasked_6 : decode cX13_isMasked 6 = .ok (.getfield 337, 3) := by decide +kernel
theorem dX13_isMasked_9 : decode cX13_isMasked 9 = .ok (.if_icmp .ge 50, 3) := by decide +kernel
theorem dX13_isMasked_12 : decode cX13_isMasked 12 = .ok (.iload_n 2, 1) := by decide +kernel
theorem dX13_isMasked_13 : decode cX13_isMasked 13 = .ok (.ifCond .ne 34, 3) := by decide +kernel
theorem dX13_isMasked_16 : decode cX13_isMasked 16 = .ok (.iload_n 1, 1) := by decide +kernel
theorem dX13_isMasked_17 : decode cX13_isMasked 17 = .ok (.aload_n 0, 1) := by decide +kernel
theorem dX13_isMasked_18 : decode cX13_isMasked 18 = .ok (.getfield 62, 3) := by decide +kernel
theorem dX13_isMasked_21 : decode cX13_isMasked 21 = .ok (.iload_n 3, 1) := by decide +kernel
theorem dX13_isMasked_22 : decode cX13_isMasked 22 = .ok (.iaload, 1) := by decide +kernel
theorem dX13_isMasked_23 : decode cX13_isMasked 23 = .ok (.aload_n 0, 1) := by decide +kernel
theorem dX13_isMasked_24 : decode cX13_isMasked 24 = .ok (.getfield 65, 3) := by decide +kernel
theorem dX13_isMasked_27 : decode cX13_isMasked 27 = .ok (.iload_n 3, 1) := by decide +kernel
theorem dX13_isMasked_28 : decode cX13_isMasked 28 = .ok (.iaload, 1) := by decide +kernel
theorem dX13_isMasked_29 : decode cX13_isMasked 29 = .ok (.aload_n 0, 1) := by decide +kernel
theorem dX13_isMasked_30 : decode cX13_isMasked 30 = .ok (.getfield 68, 3) := by decide +kernel
theorem dX13_isMasked_33 : decode cX13_isMasked 33 = .ok (.iload_n 3, 1) := by decide +kernel
theorem dX13_isMasked_34 : decode cX13_isMasked 34 = .ok (.iaload, 1) := by decide +kernel
theorem dX13_isMasked_35 : decode cX13_isMasked 35 = .ok (.aload_n 0, 1) := by decide +kernel
theorem dX13_isMasked_36 : decode cX13_isMasked 36 = .ok (.getfield 71, 3) := by decide +kernel
theorem dX13_isMasked_39 : decode cX13_isMasked 39 = .ok (.iload_n 3, 1) := by decide +kernel
theorem dX13_isMasked_40 : decode cX13_isMasked 40 = .ok (.iaload, 1) := by decide +kernel
theorem dX13_isMasked_41 : decode cX13_isMasked 41 = .ok (.invokestatic 220, 3) := by decide +kernel
theorem dX13_isMasked_44 : decode cX13_isMasked 44 = .ok (.ifCond .eq 7, 3) := by decide +kernel
theorem dX13_isMasked_47 : decode cX13_isMasked 47 = .ok (.iconst 1, 1) := by decide +kernel
theorem dX13_isMasked_48 : decode cX13_isMasked 48 = .ok (.goto 4, 3) := by decide +kernel
theorem dX13_isMasked_51 : decode cX13_isMasked 51 = .ok (.iconst 0, 1) := by decide +kernel
theorem dX13_isMasked_52 : decode cX13_isMasked 52 = .ok (.istore_n 2, 1) := by decide +kernel
theorem dX13_isMasked_53 : decode cX13_isMasked 53 = .ok (.iinc 3 1, 3) := by decide +kernel
theorem dX13_isMasked_56 : decode cX13_isMasked 56 = .ok (.goto (-52), 3) := by decide +kernel
theorem dX13_isMasked_59 : decode cX13_isMasked 59 = .ok (.iload_n 2, 1) := by decide +kernel
theorem dX13_isMasked_60 : decode cX13_isMasked 60 = .ok (.ireturn, 1) := by decide +kernel
theorem dX13_isNear_0 : decode cX13_isNear 0 = .ok (.aload_n 0, 1) := by decide +kernel
theorem dX13_isNear_1 : decode cX13_isNear 1 = .ok (.getfield 33, 3) := by decide +kernel
theorem dX13_isNear_4 : decode cX13_isNear 4 = .ok (.iconst 2, 1) := by decide +kernel
theorem dX13_isNear_5 : decode cX13_isNear 5 = .ok (.iaload, 1) := by decide +kernel
theorem dX13_isNear_6 : decode cX13_isNear 6 = .ok (.istore_n 3, 1) := by decide +kernel
theorem dX13_isNear_7 : decode cX13_isNear 7 = .ok (.iconst 0, 1) := by decide +kernel
theorem dX13_isNear_8 : decode cX13_isNear 8 = .ok (.istore 4, 2) := by decide +kernel
theorem dX13_isNear_10 : decode cX13_isNear 10 = .ok (.iload_n 2, 1) := by decide +kernel
theorem dX13_isNear_11 : decode cX13_isNear 11 = .ok (.bipush 64, 2) := by decide +kernel
theorem dX13_isNear_13 : decode cX13_isNear 13 = .ok (.idiv, 1) := by decide +kernel
theorem dX13_isNear_14 : decode cX13_isNear 14 = .ok (.iload_n 3, 1) := by decide +kernel
theorem dX13_isNear_15 : decode cX13_isNear 15 = .ok (.isub, 1) := by decide +kernel
theorem dX13_isNear_16 : decode cX13_isNear 16 = .ok (.istore 5, 2) := by decide +kernel
theorem dX13_isNear_18 : decode cX13_isNear 18 = .ok (.iload 5, 2) := by decide +kernel
theorem dX13_isNear_20 : decode cX13_isNear 20 = .ok (.iload_n 2, 1) := by decide +kernel
theorem dX13_isNear_21 : decode cX13_isNear 21 = .ok (.bipush 64, 2) := by decide +kernel
theorem dX13_isNear_23 : decode cX13_isNear 23 = .ok (.idiv, 1) := by decide +kernel
theorem dX13_isNear_24 : decode cX13_isNear 24 = .ok (.iload_n 3, 1) := by decide +kernel
theorem dX13_isNear_25 : decode cX13_isNear 25 = .ok (.iadd, 1) := by decide +kernel
theorem dX13_isNear_26 : decode cX13_isNear 26 = .ok (.if_icmp .gt 72, 3) := by decide +kernel
theorem dX13_isNear_29 : decode cX13_isNear 29 = .ok (.iload_n 2, 1) := by decide +kernel
theorem dX13_isNear_30 : decode cX13_isNear 30 = .ok (.bipush 64, 2) := by decide +kernel
theorem dX13_isNear_32 : decode cX13_isNear 32 = .ok (.irem, 1) := by decide +kernel
theorem dX13_isNear_33 : decode cX13_isNear 33 = .ok (.iload_n 3, 1) := by decide +kernel
theorem dX13_isNear_34 : decode cX13_isNear 34 = .ok (.isub, 1) := by decide +kernel
theorem dX13_isNear_35 : decode cX13_isNear 35 = .ok (.istore 6, 2) := by decide +kernel
theorem dX13_isNear_37 : decode cX13_isNear 37 = .ok (.iload 6, 2) := by decide +kernel
theorem dX13_isNear_39 : decode cX13_isNear 39 = .ok (.iload_n 2, 1) := by decide +kernel
theorem dX13_isNear_40 : decode cX13_isNear 40 = .ok (.bipush 64, 2) := by decide +kernel
theorem dX13_isNear_42 : decode cX13_isNear 42 = .ok (.irem, 1) := by decide +kernel
theorem dX13_isNear_43 : decode cX13_isNear 43 = .ok (.iload_n 3, 1) := by decide +kernel
theorem dX13_isNear_44 : decode cX13_isNear 44 = .ok (.iadd, 1) := by decide +kernel
theorem dX13_isNear_45 : decode cX13_isNear 45 = .ok (.if_icmp .gt 47, 3) := by decide +kernel
theorem dX13_isNear_48 : decode cX13_isNear 48 = .ok (.iload 4, 2) := by decide +kernel
theorem dX13_isNear_50 : decode cX13_isNear 50 = .ok (.ifCond .ne 29, 3) := by decide +kernel
theorem dX13_isNear_53 : decode cX13_isNear 53 = .ok (.aload_n 0, 1) := by decide +kernel
theorem dX13_isNear_54 : decode cX13_isNear 54 = .ok (.iload 6, 2) := by decide +kernel
theorem dX13_isNear_56 : decode cX13_isNear 56 = .ok (.i2l, 1) := by decide +kernel
theorem dX13_isNear_57 : decode cX13_isNear 57 = .ok (.iload 5, 2) := by decide +kernel
theorem dX13_isNear_59 : decode cX13_isNear 59 = .ok (.i2l, 1) := by decide +kernel
theorem dX13_isNear_60 : decode cX13_isNear 60 = .ok (.invokevirtual 195, 3) := by decide +kernel
theorem dX13_isNear_63 : decode cX13_isNear 63 = .ok (.ifCond .eq 20, 3) := by decide +kernel
theorem dX13_isNear_66 : decode cX13_isNear 66 = .ok (.aload_n 1, 1) := by decide +kernel
theorem dX13_isNear_67 : decode cX13_isNear 67 = .ok (.bipush 64, 2) := by decide +kernel
theorem dX13_isNear_69 : decode cX13_isNear 69 = .ok (.iload 5, 2) := by decide +kernel
theorem dX13_isNear_71 : decode cX13_isNear 71 = .ok (.imul, 1) := by decide +kernel
theorem dX13_isNear_72 : decode cX13_isNear 72 = .ok (.iload 6, 2) := by decide +kernel
theorem dX13_isNear_74 : decode cX13_isNear 74 = .ok (.iadd, 1) := by decide +kernel
theorem dX13_isNear_75 : decode cX13_isNear 75 = .ok (.baload, 1) := by decide +kernel
theorem dX13_isNear_76 : decode cX13_isNear 76 = .ok (.ifCond .eq 7, 3) := by decide +kernel
theorem dX13_isNear_79 : decode cX13_isNear 79 = .ok (.iconst 1, 1) := by decide +kernel
theorem dX13_isNear_80 : decode cX13_isNear 80 = .ok (.goto 4, 3) := by decide +kernel
theorem dX13_isNear_83 : decode cX13_isNear 83 = .ok (.iconst 0, 1) := by decide +kernel
theorem dX13_isNear_84 : decode cX13_isNear 84 = .ok (.istore 4, 2) := by decide +kernel
theorem dX13_isNear_86 : decode cX13_isNear 86 = .ok (.iinc 6 1, 3) := by decide +kernel
theorem dX13_isNear_89 : decode cX13_isNear 89 = .ok (.goto (-52), 3) := by decide +kernel
theorem dX13_isNear_92 : decode cX13_isNear 92 = .ok (.iinc 5 1, 3) := by decide +kernel
theorem dX13_isNear_95 : decode cX13_isNear 95 = .ok (.goto (-77), 3) := by decide +kernel
theorem dX13_isNear_98 : decode cX13_isNear 98 = .ok (.iload 4, 2) := by decide +kernel
theorem dX13_isNear_100 : decode cX13_isNear 100 = .ok (.ireturn, 1) := by decide +kernel
theorem dX13_blockOf_0 : decode cX13_blockOf 0 = .ok (.bipush 16, 2) := by decide +kernel
theorem dX13_blockOf_2 : decode cX13_blockOf 2 = .ok (.iload_n 1, 1) := by decide +kernel
theorem dX13_blockOf_3 : decode cX13_blockOf 3 = .ok (.bipush 64, 2) := by decide +kernel
theorem dX13_blockOf_5 : decode cX13_blockOf 5 = .ok (.idiv, 1) := by decide +kernel
theorem dX13_blockOf_6 : decode cX13_blockOf 6 = .ok (.aload_n 0, 1) := by decide +kernel
theorem dX13_blockOf_7 : decode cX13_blockOf 7 = .ok (.getfield 391, 3) := by decide +kernel
theorem dX13_blockOf_10 : decode cX13_blockOf 10 = .ok (.idiv, 1) := by decide +kernel
theorem dX13_blockOf_11 : decode cX13_blockOf 11 = .ok (.imul, 1) := by decide +kernel
theorem dX13_blockOf_12 : decode cX13_blockOf 12 = .ok (.iload_n 1, 1) := by decide +kernel
theorem dX13_blockOf_13 : decode cX13_blockOf 13 = .ok (.bipush 64, 2) := by decide +kernel
theorem dX13_blockOf_15 : decode cX13_blockOf 15 = .ok (.irem, 1) := by decide +kernel
theorem dX13_blockOf_16 : decode cX13_blockOf 16 = .ok (.aload_n 0, 1) := by decide +kernel
theorem dX13_blockOf_17 : decode cX13_blockOf 17 = .ok (.getfield 391, 3) := by decide +kernel
theorem dX13_blockOf_20 : decode cX13_blockOf 20 = .ok (.idiv, 1) := by decide +kernel
theorem dX13_blockOf_21 : decode cX13_blockOf 21 = .ok (.iadd, 1) := by decide +kernel
theorem dX13_blockOf_22 : decode cX13_blockOf 22 = .ok (.ireturn, 1) := by decide +kernel
theorem dX13_findsRegions_0 : decode cX13_findsRegions 0 = .ok (.aload_n 0, 1) := by decide +kernel
theorem dX13_findsRegions_1 : decode cX13_findsRegions 1 = .ok (.aload_n 0, 1) := by decide +kernel
theorem dX13_findsRegions_2 : decode cX13_findsRegions 2 = .ok (.aload_n 0, 1) := by decide +kernel
theorem dX13_findsRegions_3 : decode cX13_findsRegions 3 = .ok (.getfield 33, 3) := by decide +kernel
theorem dX13_findsRegions_6 : decode cX13_findsRegions 6 = .ok (.iconst 1, 1) := by decide +kernel
theorem dX13_findsRegions_7 : decode cX13_findsRegions 7 = .ok (.iaload, 1) := by decide +kernel
theorem dX13_findsRegions_8 : decode cX13_findsRegions 8 = .ok (.invokevirtual 418, 3) := by decide +kernel
theorem dX13_findsRegions_11 : decode cX13_findsRegions 11 = .ok (.putfield 421, 3) := by decide +kernel
theorem dX13_findsRegions_14 : decode cX13_findsRegions 14 = .ok (.iconst 0, 1) := by decide +kernel
theorem dX13_findsRegions_15 : decode cX13_findsRegions 15 = .ok (.istore_n 1, 1) := by decide +kernel
theorem dX13_findsRegions_16 : decode cX13_findsRegions 16 = .ok (.iload_n 1, 1) := by decide +kernel
theorem dX13_findsRegions_17 : decode cX13_findsRegions 17 = .ok (.aload_n 0, 1) := by decide +kernel
theorem dX13_findsRegions_18 : decode cX13_findsRegions 18 = .ok (.getfield 421, 3) := by decide +kernel
theorem dX13_findsRegions_21 : decode cX13_findsRegions 21 = .ok (.if_icmp .ge 39, 3) := by decide +kernel
theorem dX13_findsRegions_24 : decode cX13_findsRegions 24 = .ok (.aload_n 0, 1) := by decide +kernel
theorem dX13_findsRegions_25 : decode cX13_findsRegions 25 = .ok (.getfield 116, 3) := by decide +kernel
theorem dX13_findsRegions_28 : decode cX13_findsRegions 28 = .ok (.iload_n 1, 1) := by decide +kernel
theorem dX13_findsRegions_29 : decode cX13_findsRegions 29 = .ok (.bipush 64, 2) := by decide +kernel
theorem dX13_findsRegions_31 : decode cX13_findsRegions 31 = .ok (.iastore, 1) := by decide +kernel
theorem dX13_findsRegions_32 : decode cX13_findsRegions 32 = .ok (.aload_n 0, 1) := by decide +kernel
theorem dX13_findsRegions_33 : decode cX13_findsRegions 33 = .ok (.getfield 119, 3) := by decide +kernel
theorem dX13_findsRegions_36 : decode cX13_findsRegions 36 = .ok (.iload_n 1, 1) := by decide +kernel
theorem dX13_findsRegions_37 : decode cX13_findsRegions 37 = .ok (.bipush 64, 2) := by decide +kernel
theorem dX13_findsRegions_39 : decode cX13_findsRegions 39 = .ok (.iastore, 1) := by decide +kernel
theorem dX13_findsRegions_40 : decode cX13_findsRegions 40 = .ok (.aload_n 0, 1) := by decide +kernel
theorem dX13_findsRegions_41 : decode cX13_findsRegions 41 = .ok (.getfield 122, 3) := by decide +kernel
theorem dX13_findsRegions_44 : decode cX13_findsRegions 44 = .ok (.iload_n 1, 1) := by decide +kernel
theorem dX13_findsRegions_45 : decode cX13_findsRegions 45 = .ok (.iconst (-1), 1) := by decide +kernel
theorem dX13_findsRegions_46 : decode cX13_findsRegions 46 = .ok (.iastore, 1) := by decide +kernel
theorem dX13_findsRegions_47 : decode cX13_findsRegions 47 = .ok (.aload_n 0, 1) := by decide +kernel
theorem dX13_findsRegions_48 : decode cX13_findsRegions 48 = .ok (.getfield 125, 3) := by decide +kernel
theorem dX13_findsRegions_51 : decode cX13_findsRegions 51 = .ok (.iload_n 1, 1) := by decide +kernel
theorem dX13_findsRegions_52 : decode cX13_findsRegions 52 = .ok (.iconst (-1), 1) := by decide +kernel
theorem dX13_findsRegions_53 : decode cX13_findsRegions 53 = .ok (.iastore, 1) := by decide +kernel
theorem dX13_findsRegions_54 : decode cX13_findsRegions 54 = .ok (.iinc 1 1, 3) := by decide +kernel
theorem dX13_findsRegions_57 : decode cX13_findsRegions 57 = .ok (.goto (-41), 3) := by decide +kernel
theorem dX13_findsRegions_60 : decode cX13_findsRegions 60 = .ok (.iconst 0, 1) := by decide +kernel
theorem dX13_findsRegions_61 : decode cX13_findsRegions 61 = .ok (.istore_n 1, 1) := by decide +kernel
theorem dX13_findsRegions_62 : decode cX13_findsRegions 62 = .ok (.iload_n 1, 1) := by decide +kernel
theorem dX13_findsRegions_63 : decode cX13_findsRegions 63 = .ok (.sipush 4096, 3) := by decide +kernel
theorem dX13_findsRegions_66 : decode cX13_findsRegions 66 = .ok (.if_icmp .ge 122, 3) := by decide +kernel
theorem dX13_findsRegions_69 : decode cX13_findsRegions 69 = .ok (.aload_n 0, 1) := by decide +kernel
theorem dX13_findsRegions_70 : decode cX13_findsRegions 70 = .ok (.getfield 104, 3) := by decide +kernel
theorem dX13_findsRegions_73 : decode cX13_findsRegions 73 = .ok (.iload_n 1, 1) := by decide +kernel
theorem dX13_findsRegions_74 : decode cX13_findsRegions 74 = .ok (.baload, 1) := by decide +kernel
theorem dX13_findsRegions_75 : decode cX13_findsRegions 75 = .ok (.ifCond .ne 12, 3) := by decide +kernel
theorem dX13_findsRegions_78 : decode cX13_findsRegions 78 = .ok (.aload_n 0, 1) := by decide +kernel
theorem dX13_findsRegions_79 : decode cX13_findsRegions 79 = .ok (.getfield 107, 3) := by decide +kernel
theorem dX13_findsRegions_82 : decode cX13_findsRegions 82 = .ok (.iload_n 1, 1) := by decide +kernel
theorem dX13_findsRegions_83 : decode cX13_findsRegions 83 = .ok (.baload, 1) := by decide +kernel
theorem dX13_findsRegions_84 : decode cX13_findsRegions 84 = .ok (.ifCond .eq 16, 3) := by decide +kernel
theorem dX13_findsRegions_87 : decode cX13_findsRegions 87 = .ok (.aload_n 0, 1) := by decide +kernel
theorem dX13_findsRegions_88 : decode cX13_findsRegions 88 = .ok (.getfield 113, 3) := by decide +kernel
theorem dX13_findsRegions_91 : decode cX13_findsRegions 91 = .ok (.aload_n 0, 1) := by decide +kernel
theorem dX13_findsRegions_92 : decode cX13_findsRegions 92 = .ok (.iload_n 1, 1) := by decide +kernel
theorem dX13_findsRegions_93 : decode cX13_findsRegions 93 = .ok (.invokevirtual 407, 3) := by decide +kernel
theorem dX13_findsRegions_96 : decode cX13_findsRegions 96 = .ok (.iaload, 1) := by decide +kernel
theorem dX13_findsRegions_97 : decode cX13_findsRegions 97 = .ok (.goto 4, 3) := by decide +kernel
theorem dX13_findsRegions_100 : decode cX13_findsRegions 100 = .ok (.iconst (-1), 1) := by decide +kernel
theorem dX13_findsRegions_101 : decode cX13_findsRegions 101 = .ok (.istore_n 2, 1) := by decide +kernel
theorem dX13_findsRegions_102 : decode cX13_findsRegions 102 = .ok (.iload_n 2, 1) := by decide +kernel
theorem dX13_findsRegions_103 : decode cX13_findsRegions 103 = .ok (.ifCond .lt 79, 3) := by decide +kernel
theorem dX13_findsRegions_106 : decode cX13_findsRegions 106 = .ok (.aload_n 0, 1) := by decide +kernel
theorem dX13_findsRegions_107 : decode cX13_findsRegions 107 = .ok (.getfield 116, 3) := by decide +kernel
theorem dX13_findsRegions_110 : decode cX13_findsRegions 110 = .ok (.iload_n 2, 1) := by decide +kernel
theorem dX13_findsRegions_111 : decode cX13_findsRegions 111 = .ok (.aload_n 0, 1) := by decide +kernel
theorem dX13_findsRegions_112 : decode cX13_findsRegions 112 = .ok (.getfield 116, 3) := by decide +kernel
theorem dX13_findsRegions_115 : decode cX13_findsRegions 115 = .ok (.iload_n 2, 1) := by decide +kernel
theorem dX13_findsRegions_116 : decode cX13_findsRegions 116 = .ok (.iaload, 1) := by decide +kernel
theorem dX13_findsRegions_117 : decode cX13_findsRegions 117 = .ok (.iload_n 1, 1) := by decide +kernel
theorem dX13_findsRegions_118 : decode cX13_findsRegions 118 = .ok (.bipush 64, 2) := by decide +kernel
theorem dX13_findsRegions_120 : decode cX13_findsRegions 120 = .ok (.irem, 1) := by decide +kernel
theorem dX13_findsRegions_121 : decode cX13_findsRegions 121 = .ok (.invokestatic 424, 3) := by decide +kernel
theorem dX13_findsRegions_124 : decode cX13_findsRegions 124 = .ok (.iastore, 1) := by decide +kernel
theorem dX13_findsRegions_125 : decode cX13_findsRegions 125 = .ok (.aload_n 0, 1) := by decide +kernel
theorem dX13_findsRegions_126 : decode cX13_findsRegions 126 = .ok (.getfield 122, 3) := by decide +kernel
theorem dX13_findsRegions_129 : decode cX13_findsRegions 129 = .ok (.iload_n 2, 1) := by decide +kernel
theorem dX13_findsRegions_130 : decode cX13_findsRegions 130 = .ok (.aload_n 0, 1) := by decide +kernel
theorem dX13_findsRegions_131 : decode cX13_findsRegions 131 = .ok (.getfield 122, 3) := by decide +kernel
theorem dX13_findsRegions_134 : decode cX13_findsRegions 134 = .ok (.iload_n 2, 1) := by decide +kernel
theorem dX13_findsRegions_135 : decode cX13_findsRegions 135 = .ok (.iaload, 1) := by decide +kernel
theorem dX13_findsRegions_136 : decode cX13_findsRegions 136 = .ok (.iload_n 1, 1) := by decide +kernel
theorem dX13_findsRegions_137 : decode cX13_findsRegions 137 = .ok (.bipush 64, 2) := by decide +kernel
theorem dX13_findsRegions_139 : decode cX13_findsRegions 139 = .ok (.irem, 1) := by decide +kernel
theorem dX13_findsRegions_140 : decode cX13_findsRegions 140 = .ok (.invokestatic 427, 3) := by decide +kernel
theorem dX13_findsRegions_143 : decode cX13_findsRegions 143 = .ok (.iastore, 1) := by decide +kernel
theorem dX13_findsRegions_144 : decode cX13_findsRegions 144 = .ok (.aload_n 0, 1) := by decide +kernel
theorem dX13_findsRegions_145 : decode cX13_findsRegions 145 = .ok (.getfield 119, 3) := by decide +kernel
theorem dX13_findsRegions_148 : decode cX13_findsRegions 148 = .ok (.iload_n 2, 1) := by decide +kernel
theorem dX13_findsRegions_149 : decode cX13_findsRegions 149 = .ok (.aload_n 0, 1) := by decide +kernel
theorem dX13_findsRegions_150 : decode cX13_findsRegions 150 = .ok (.getfield 119, 3) := by decide +kernel
theorem dX13_findsRegions_153 : decode cX13_findsRegions 153 = .ok (.iload_n 2, 1) := by decide +kernel
theorem dX13_findsRegions_154 : decode cX13_findsRegions 154 = .ok (.iaload, 1) := by decide +kernel
theorem dX13_findsRegions_155 : decode cX13_findsRegions 155 = .ok (.iload_n 1, 1) := by decide +kernel
theorem dX13_findsRegions_156 : decode cX13_findsRegions 156 = .ok (.bipush 64, 2) := by decide +kernel
theorem dX13_findsRegions_158 : decode cX13_findsRegions 158 = .ok (.idiv, 1) := by decide +kernel
theorem dX13_findsRegions_159 : decode cX13_findsRegions 159 = .ok (.invokestatic 424, 3) := by decide +kernel
theorem dX13_findsRegions_162 : decode cX13_findsRegions 162 = .ok (.iastore, 1) := by decide +kernel
theorem dX13_findsRegions_163 : decode cX13_findsRegions 163 = .ok (.aload_n 0, 1) := by decide +kernel
theorem dX13_findsRegions_164 : decode cX13_findsRegions 164 = .ok (.getfield 125, 3) := by decide +kernel
theorem dX13_findsRegions_167 : decode cX13_findsRegions 167 = .ok (.iload_n 2, 1) := by decide +kernel
theorem dX13_findsRegions_168 : decode cX13_findsRegions 168 = .ok (.aload_n 0, 1) := by decide +kernel
theorem dX13_findsRegions_169 : decode cX13_findsRegions 169 = .ok (.getfield 125, 3) := by decide +kernel
theorem dX13_findsRegions_172 : decode cX13_findsRegions 172 = .ok (.iload_n 2, 1) := by decide +kernel
theorem dX13_findsRegions_173 : decode cX13_findsRegions 173 = .ok (.iaload, 1) := by decide +kernel
theorem dX13_findsRegions_174 : decode cX13_findsRegions 174 = .ok (.iload_n 1, 1) := by decide +kernel
theorem dX13_findsRegions_175 : decode cX13_findsRegions 175 = .ok (.bipush 64, 2) := by decide +kernel
theorem dX13_findsRegions_177 : decode cX13_findsRegions 177 = .ok (.idiv, 1) := by decide +kernel
theorem dX13_findsRegions_178 : decode cX13_findsRegions 178 = .ok (.invokestatic 427, 3) := by decide +kernel
theorem dX13_findsRegions_181 : decode cX13_findsRegions 181 = .ok (.iastore, 1) := by decide +kernel
theorem dX13_findsRegions_182 : decode cX13_findsRegions 182 = .ok (.iinc 1 1, 3) := by decide +kernel
theorem dX13_findsRegions_185 : decode cX13_findsRegions 185 = .ok (.goto (-123), 3) := by decide +kernel
theorem dX13_findsRegions_188 : decode cX13_findsRegions 188 = .ok (.aload_n 0, 1) := by decide +kernel
theorem dX13_findsRegions_189 : decode cX13_findsRegions 189 = .ok (.invokevirtual 430, 3) := by decide +kernel
theorem dX13_findsRegions_192 : decode cX13_findsRegions 192 = .ok (.return_, 1) := by decide +kernel
theorem dX13_joins_0 : decode cX13_joins 0 = .ok (.iconst 0, 1) := by decide +kernel
theorem dX13_joins_1 : decode cX13_joins 1 = .ok (.istore_n 2, 1) := by decide +kernel
theorem dX13_joins_2 : decode cX13_joins 2 = .ok (.iconst 0, 1) := by decide +kernel
theorem dX13_joins_3 : decode cX13_joins 3 = .ok (.istore_n 3, 1) := by decide +kernel
theorem dX13_joins_4 : decode cX13_joins 4 = .ok (.iload_n 3, 1) := by decide +kernel
theorem dX13_joins_5 : decode cX13_joins 5 = .ok (.sipush 256, 3) := by decide +kernel
theorem dX13_joins_8 : decode cX13_joins 8 = .ok (.if_icmp .ge 16, 3) := by decide +kernel
theorem dX13_joins_11 : decode cX13_joins 11 = .ok (.aload_n 0, 1) := by decide +kernel
theorem dX13_joins_12 : decode cX13_joins 12 = .ok (.getfield 113, 3) := by decide +kernel
theorem dX13_joins_15 : decode cX13_joins 15 = .ok (.iload_n 3, 1) := by decide +kernel
theorem dX13_joins_16 : decode cX13_joins 16 = .ok (.iconst (-1), 1) := by decide +kernel
theorem dX13_joins_17 : decode cX13_joins 17 = .ok (.iastore, 1) := by decide +kernel
theorem dX13_joins_18 : decode cX13_joins 18 = .ok (.iinc 3 1, 3) := by decide +kernel
theorem dX13_joins_21 : decode cX13_joins 21 = .ok (.goto (-17), 3) := by decide +kernel
theorem dX13_joins_24 : decode cX13_joins 24 = .ok (.iconst 0, 1) := by decide +kernel
theorem dX13_joins_25 : decode cX13_joins 25 = .ok (.istore_n 3, 1) := by decide +kernel
theorem dX13_joins_26 : decode cX13_joins 26 = .ok (.iload_n 3, 1) := by decide +kernel
theorem dX13_joins_27 : decode cX13_joins 27 = .ok (.sipush 256, 3) := by decide +kernel
theorem dX13_joins_30 : decode cX13_joins 30 = .ok (.if_icmp .ge 53, 3) := by decide +kernel
theorem dX13_joins_33 : decode cX13_joins 33 = .ok (.aload_n 0, 1) := by decide +kernel
theorem dX13_joins_34 : decode cX13_joins 34 = .ok (.iload_n 3, 1) := by decide +kernel
theorem dX13_joins_35 : decode cX13_joins 35 = .ok (.bipush 16, 2) := by decide +kernel
theorem dX13_joins_37 : decode cX13_joins 37 = .ok (.irem, 1) := by decide +kernel
theorem dX13_joins_38 : decode cX13_joins 38 = .ok (.iload_n 3, 1) := by decide +kernel
theorem dX13_joins_39 : decode cX13_joins 39 = .ok (.bipush 16, 2) := by decide +kernel
theorem dX13_joins_41 : decode cX13_joins 41 = .ok (.idiv, 1) := by decide +kernel
theorem dX13_joins_42 : decode cX13_joins 42 = .ok (.invokevirtual 410, 3) := by decide +kernel
theorem dX13_joins_45 : decode cX13_joins 45 = .ok (.ifCond .eq 32, 3) := by decide +kernel
theorem dX13_joins_48 : decode cX13_joins 48 = .ok (.aload_n 0, 1) := by decide +kernel
theorem dX13_joins_49 : decode cX13_joins 49 = .ok (.getfield 110, 3) := by decide +kernel
theorem dX13_joins_52 : decode cX13_joins 52 = .ok (.iload_n 3, 1) := by decide +kernel
theorem dX13_joins_53 : decode cX13_joins 53 = .ok (.iaload, 1) := by decide +kernel
theorem dX13_joins_54 : decode cX13_joins 54 = .ok (.iload_n 1, 1) := by decide +kernel
theorem dX13_joins_55 : decode cX13_joins 55 = .ok (.if_icmp .le 22, 3) := by decide +kernel
theorem dX13_joins_58 : decode cX13_joins 58 = .ok (.aload_n 0, 1) := by decide +kernel
theorem dX13_joins_59 : decode cX13_joins 59 = .ok (.getfield 113, 3) := by decide +kernel
theorem dX13_joins_62 : decode cX13_joins 62 = .ok (.iload_n 3, 1) := by decide +kernel
theorem dX13_joins_63 : decode cX13_joins 63 = .ok (.iaload, 1) := by decide +kernel
theorem dX13_joins_64 : decode cX13_joins 64 = .ok (.ifCond .ge 13, 3) := by decide +kernel
theorem dX13_joins_67 : decode cX13_joins 67 = .ok (.aload_n 0, 1) := by decide +kernel
theorem dX13_joins_68 : decode cX13_joins 68 = .ok (.iload_n 3, 1) := by decide +kernel
theorem dX13_joins_69 : decode cX13_joins 69 = .ok (.iload_n 2, 1) := by decide +kernel
theorem dX13_joins_70 : decode cX13_joins 70 = .ok (.iload_n 1, 1) := by decide +kernel
theorem dX13_joins_71 : decode cX13_joins 71 = .ok (.invokevirtual 414, 3) := by decide +kernel
theorem dX13_joins_74 : decode cX13_joins 74 = .ok (.iinc 2 1, 3) := by decide +kernel
theorem dX13_joins_77 : decode cX13_joins 77 = .ok (.iinc 3 1, 3) := by decide +kernel
theorem dX13_joins_80 : decode cX13_joins 80 = .ok (.goto (-54), 3) := by decide +kernel
theorem dX13_joins_83 : decode cX13_joins 83 = .ok (.iload_n 2, 1) := by decide +kernel
theorem dX13_joins_84 : decode cX13_joins 84 = .ok (.ireturn, 1) := by decide +kernel
theorem dX13_isBlock_0 : decode cX13_isBlock 0 = .ok (.iload_n 1, 1) := by decide +kernel
theorem dX13_isBlock_1 : decode cX13_isBlock 1 = .ok (.i2l, 1) := by decide +kernel
theorem dX13_isBlock_2 : decode cX13_isBlock 2 = .ok (.lconst 0, 1) := by decide +kernel
theorem dX13_isBlock_3 : decode cX13_isBlock 3 = .ok (.aload_n 0, 1) := by decide +kernel
theorem dX13_isBlock_4 : decode cX13_isBlock 4 = .ok (.getfield 394, 3) := by decide +kernel
theorem dX13_isBlock_7 : decode cX13_isBlock 7 = .ok (.iconst 1, 1) := by decide +kernel
theorem dX13_isBlock_8 : decode cX13_isBlock 8 = .ok (.isub, 1) := by decide +kernel
theorem dX13_isBlock_9 : decode cX13_isBlock 9 = .ok (.i2l, 1) := by decide +kernel
theorem dX13_isBlock_10 : decode cX13_isBlock 10 = .ok (.invokestatic 191, 3) := by decide +kernel
theorem dX13_isBlock_13 : decode cX13_isBlock 13 = .ok (.ifCond .eq 23, 3) := by decide +kernel
theorem dX13_isBlock_16 : decode cX13_isBlock 16 = .ok (.iload_n 2, 1) := by decide +kernel
theorem dX13_isBlock_17 : decode cX13_isBlock 17 = .ok (.i2l, 1) := by decide +kernel
theorem dX13_isBlock_18 : decode cX13_isBlock 18 = .ok (.lconst 0, 1) := by decide +kernel
theorem dX13_isBlock_19 : decode cX13_isBlock 19 = .ok (.aload_n 0, 1) := by decide +kernel
theorem dX13_isBlock_20 : decode cX13_isBlock 20 = .ok (.getfield 397, 3) := by decide +kernel
theorem dX13_isBlock_23 : decode cX13_isBlock 23 = .ok (.iconst 1, 1) := by decide +kernel
theorem dX13_isBlock_24 : decode cX13_isBlock 24 = .ok (.isub, 1) := by decide +kernel
theorem dX13_isBlock_25 : decode cX13_isBlock 25 = .ok (.i2l, 1) := by decide +kernel
theorem dX13_isBlock_26 : decode cX13_isBlock 26 = .ok (.invokestatic 191, 3) := by decide +kernel
theorem dX13_isBlock_29 : decode cX13_isBlock 29 = .ok (.ifCond .eq 7, 3) := by decide +kernel
theorem dX13_isBlock_32 : decode cX13_isBlock 32 = .ok (.iconst 1, 1) := by decide +kernel
theorem dX13_isBlock_33 : decode cX13_isBlock 33 = .ok (.goto 4, 3) := by decide +kernel
theorem dX13_isBlock_36 : decode cX13_isBlock 36 = .ok (.iconst 0, 1) := by decide +kernel
theorem dX13_isBlock_37 : decode cX13_isBlock 37 = .ok (.ireturn, 1) := by decide +kernel
theorem dX13_spreads_0 : decode cX13_spreads 0 = .ok (.aload_n 0, 1) := by decide +kernel
theorem dX13_spreads_1 : decode cX13_spreads 1 = .ok (.getfield 113, 3) := by decide +kernel
theorem dX13_spreads_4 : decode cX13_spreads 4 = .ok (.iload_n 1, 1) := by decide +kernel
theorem dX13_spreads_5 : decode cX13_spreads 5 = .ok (.iload_n 2, 1) := by decide +kernel
theorem dX13_spreads_6 : decode cX13_spreads 6 = .ok (.iastore, 1) := by decide +kernel
theorem dX13_spreads_7 : decode cX13_spreads 7 = .ok (.aload_n 0, 1) := by decide +kernel
theorem dX13_spreads_8 : decode cX13_spreads 8 = .ok (.getfield 134, 3) := by decide +kernel
theorem dX13_spreads_11 : decode cX13_spreads 11 = .ok (.iconst 0, 1) := by decide +kernel
theorem dX13_spreads_12 : decode cX13_spreads 12 = .ok (.iload_n 1, 1) := by decide +kernel
theorem dX13_spreads_13 : decode cX13_spreads 13 = .ok (.iastore, 1) := by decide +kernel
theorem dX13_spreads_14 : decode cX13_spreads 14 = .ok (.iconst 1, 1) := by decide +kernel
theorem dX13_spreads_15 : decode cX13_spreads 15 = .ok (.istore 4, 2) := by decide +kernel
theorem dX13_spreads_17 : decode cX13_spreads 17 = .ok (.iconst 0, 1) := by decide +kernel
theorem dX13_spreads_18 : decode cX13_spreads 18 = .ok (.istore 5, 2) := by decide +kernel
theorem dX13_spreads_20 : decode cX13_spreads 20 = .ok (.iload 5, 2) := by decide +kernel
theorem dX13_spreads_22 : decode cX13_spreads 22 = .ok (.iload 4, 2) := by decide +kernel
theorem dX13_spreads_24 : decode cX13_spreads 24 = .ok (.if_icmp .ge 167, 3) := by decide +kernel
theorem dX13_spreads_27 : decode cX13_spreads 27 = .ok (.iconst 0, 1) := by decide +kernel
theorem dX13_spreads_28 : decode cX13_spreads 28 = .ok (.istore 6, 2) := by decide +kernel
theorem dX13_spreads_30 : decode cX13_spreads 30 = .ok (.iload 6, 2) := by decide +kernel
theorem dX13_spreads_32 : decode cX13_spreads 32 = .ok (.iconst 4, 1) := by decide +kernel
theorem dX13_spreads_33 : decode cX13_spreads 33 = .ok (.if_icmp .ge 152, 3) := by decide +kernel
theorem dX13_spreads_36 : decode cX13_spreads 36 = .ok (.aload_n 0, 1) := by decide +kernel
theorem dX13_spreads_37 : decode cX13_spreads 37 = .ok (.getfield 134, 3) := by decide +kernel
theorem dX13_spreads_40 : decode cX13_spreads 40 = .ok (.iload 5, 2) := by decide +kernel
theorem dX13_spreads_42 : decode cX13_spreads 42 = .ok (.iaload, 1) := by decide +kernel
theorem dX13_spreads_43 : decode cX13_spreads 43 = .ok (.bipush 16, 2) := by decide +kernel
theorem dX13_spreads_45 : decode cX13_spreads 45 = .ok (.irem, 1) := by decide +kernel
theorem dX13_spreads_46 : decode cX13_spreads 46 = .ok (.iload 6, 2) := by decide +kernel
theorem dX13_spreads_48 : decode cX13_spreads 48 = .ok (.ifCond .ne 7, 3) := by decide +kernel
theorem dX13_spreads_51 : decode cX13_spreads 51 = .ok (.iconst 1, 1) := by decide +kernel
theorem dX13_spreads_52 : decode cX13_spreads 52 = .ok (.goto 14, 3) := by decide +kernel
theorem dX13_spreads_55 : decode cX13_spreads 55 = .ok (.iload 6, 2) := by decide +kernel
theorem dX13_spreads_57 : decode cX13_spreads 57 = .ok (.iconst 1, 1) := by decide +kernel
theorem dX13_spreads_58 : decode cX13_spreads 58 = .ok (.if_icmp .ne 7, 3) := by decide +kernel
theorem dX13_spreads_61 : decode cX13_spreads 61 = .ok (.iconst (-1), 1) := by decide +kernel
theorem dX13_spreads_62 : decode cX13_spreads 62 = .ok (.goto 4, 3) := by decide +kernel
theorem dX13_spreads_65 : decode cX13_spreads 65 = .ok (.iconst 0, 1) := by decide +kernel
theorem dX13_spreads_66 : decode cX13_spreads 66 = .ok (.iadd, 1) := by decide +kernel
theorem dX13_spreads_67 : decode cX13_spreads 67 = .ok (.istore 7, 2) := by decide +kernel
theorem dX13_spreads_69 : decode cX13_spreads 69 = .ok (.aload_n 0, 1) := by decide +kernel
theorem dX13_spreads_70 : decode cX13_spreads 70 = .ok (.getfield 134, 3) := by decide +kernel
theorem dX13_spreads_73 : decode cX13_spreads 73 = .ok (.iload 5, 2) := by decide +kernel
theorem dX13_spreads_75 : decode cX13_spreads 75 = .ok (.iaload, 1) := by decide +kernel
theorem dX13_spreads_76 : decode cX13_spreads 76 = .ok (.bipush 16, 2) := by decide +kernel
theorem dX13_spreads_78 : decode cX13_spreads 78 = .ok (.idiv, 1) := by decide +kernel
theorem dX13_spreads_79 : decode cX13_spreads 79 = .ok (.iload 6, 2) := by decide +kernel
theorem dX13_spreads_81 : decode cX13_spreads 81 = .ok (.iconst 2, 1) := by decide +kernel
theorem dX13_spreads_82 : decode cX13_spreads 82 = .ok (.if_icmp .ne 7, 3) := by decide +kernel
theorem dX13_spreads_85 : decode cX13_spreads 85 = .ok (.iconst 1, 1) := by decide +kernel
theorem dX13_spreads_86 : decode cX13_spreads 86 = .ok (.goto 14, 3) := by decide +kernel
theorem dX13_spreads_89 : decode cX13_spreads 89 = .ok (.iload 6, 2) := by decide +kernel
theorem dX13_spreads_91 : decode cX13_spreads 91 = .ok (.iconst 3, 1) := by decide +kernel
theorem dX13_spreads_92 : decode cX13_spreads 92 = .ok (.if_icmp .ne 7, 3) := by decide +kernel
theorem dX13_spreads_95 : decode cX13_spreads 95 = .ok (.iconst (-1), 1) := by decide +kernel
theorem dX13_spreads_96 : decode cX13_spreads 96 = .ok (.goto 4, 3) := by decide +kernel
theorem dX13_spreads_99 : decode cX13_spreads 99 = .ok (.iconst 0, 1) := by decide +kernel
theorem dX13_spreads_100 : decode cX13_spreads 100 = .ok (.iadd, 1) := by decide +kernel
theorem dX13_spreads_101 : decode cX13_spreads 101 = .ok (.istore 8, 2) := by decide +kernel
theorem dX13_spreads_103 : decode cX13_spreads 103 = .ok (.aload_n 0, 1) := by decide +kernel
theorem dX13_spreads_104 : decode cX13_spreads 104 = .ok (.iload 7, 2) := by decide +kernel
theorem dX13_spreads_106 : decode cX13_spreads 106 = .ok (.iload 8, 2) := by decide +kernel
theorem dX13_spreads_108 : decode cX13_spreads 108 = .ok (.invokevirtual 410, 3) := by decide +kernel
theorem dX13_spreads_111 : decode cX13_spreads 111 = .ok (.ifCond .eq 68, 3) := by decide +kernel
theorem dX13_spreads_114 : decode cX13_spreads 114 = .ok (.aload_n 0, 1) := by decide +kernel
theorem dX13_spreads_115 : decode cX13_spreads 115 = .ok (.getfield 110, 3) := by decide +kernel
theorem dX13_spreads_118 : decode cX13_spreads 118 = .ok (.bipush 16, 2) := by decide +kernel
theorem dX13_spreads_120 : decode cX13_spreads 120 = .ok (.iload 8, 2) := by decide +kernel
theorem dX13_spreads_122 : decode cX13_spreads 122 = .ok (.imul, 1) := by decide +kernel
theorem dX13_spreads_123 : decode cX13_spreads 123 = .ok (.iload 7, 2) := by decide +kernel
theorem dX13_spreads_125 : decode cX13_spreads 125 = .ok (.iadd, 1) := by decide +kernel
theorem dX13_spreads_126 : decode cX13_spreads 126 = .ok (.iaload, 1) := by decide +kernel
theorem dX13_spreads_127 : decode cX13_spreads 127 = .ok (.iload_n 3, 1) := by decide +kernel
theorem dX13_spreads_128 : decode cX13_spreads 128 = .ok (.if_icmp .le 51, 3) := by decide +kernel
theorem dX13_spreads_131 : decode cX13_spreads 131 = .ok (.aload_n 0, 1) := by decide +kernel
theorem dX13_spreads_132 : decode cX13_spreads 132 = .ok (.getfield 113, 3) := by decide +kernel
theorem dX13_spreads_135 : decode cX13_spreads 135 = .ok (.bipush 16, 2) := by decide +kernel
theorem dX13_spreads_137 : decode cX13_spreads 137 = .ok (.iload 8, 2) := by decide +kernel
theorem dX13_spreads_139 : decode cX13_spreads 139 = .ok (.imul, 1) := by decide +kernel
theorem dX13_spreads_140 : decode cX13_spreads 140 = .ok (.iload 7, 2) := by decide +kernel
theorem dX13_spreads_142 : decode cX13_spreads 142 = .ok (.iadd, 1) := by decide +kernel
theorem dX13_spreads_143 : decode cX13_spreads 143 = .ok (.iaload, 1) := by decide +kernel
theorem dX13_spreads_144 : decode cX13_spreads 144 = .ok (.ifCond .ge 35, 3) := by decide +kernel
theorem dX13_spreads_147 : decode cX13_spreads 147 = .ok (.aload_n 0, 1) := by decide +kernel
theorem dX13_spreads_148 : decode cX13_spreads 148 = .ok (.getfield 113, 3) := by decide +kernel
theorem dX13_spreads_151 : decode cX13_spreads 151 = .ok (.bipush 16, 2) := by decide +kernel
theorem dX13_spreads_153 : decode cX13_spreads 153 = .ok (.iload 8, 2) := by decide +kernel
theorem dX13_spreads_155 : decode cX13_spreads 155 = .ok (.imul, 1) := by decide +kernel
theorem dX13_spreads_156 : decode cX13_spreads 156 = .ok (.iload 7, 2) := by decide +kernel
theorem dX13_spreads_158 : decode cX13_spreads 158 = .ok (.iadd, 1) := by decide +kernel
theorem dX13_spreads_159 : decode cX13_spreads 159 = .ok (.iload_n 2, 1) := by decide +kernel
theorem dX13_spreads_160 : decode cX13_spreads 160 = .ok (.iastore, 1) := by decide +kernel
theorem dX13_spreads_161 : decode cX13_spreads 161 = .ok (.aload_n 0, 1) := by decide +kernel
theorem dX13_spreads_162 : decode cX13_spreads 162 = .ok (.getfield 134, 3) := by decide +kernel
theorem dX13_spreads_165 : decode cX13_spreads 165 = .ok (.iload 4, 2) := by decide +kernel
theorem dX13_spreads_167 : decode cX13_spreads 167 = .ok (.bipush 16, 2) := by decide +kernel
theorem dX13_spreads_169 : decode cX13_spreads 169 = .ok (.iload 8, 2) := by decide +kernel
theorem dX13_spreads_171 : decode cX13_spreads 171 = .ok (.imul, 1) := by decide +kernel
theorem dX13_spreads_172 : decode cX13_spreads 172 = .ok (.iload 7, 2) := by decide +kernel
theorem dX13_spreads_174 : decode cX13_spreads 174 = .ok (.iadd, 1) := by decide +kernel
theorem dX13_spreads_175 : decode cX13_spreads 175 = .ok (.iastore, 1) := by decide +kernel
theorem dX13_spreads_176 : decode cX13_spreads 176 = .ok (.iinc 4 1, 3) := by decide +kernel
theorem dX13_spreads_179 : decode cX13_spreads 179 = .ok (.iinc 6 1, 3) := by decide +kernel
theorem dX13_spreads_182 : decode cX13_spreads 182 = .ok (.goto (-152), 3) := by decide +kernel
theorem dX13_spreads_185 : decode cX13_spreads 185 = .ok (.iinc 5 1, 3) := by decide +kernel
theorem dX13_spreads_188 : decode cX13_spreads 188 = .ok (.goto (-168), 3) := by decide +kernel
theorem dX13_spreads_191 : decode cX13_spreads 191 = .ok (.return_, 1) := by decide +kernel
theorem dX13_lesser_0 : decode cX13_lesser 0 = .ok (.iload_n 0, 1) := by decide +kernel
theorem dX13_lesser_1 : decode cX13_lesser 1 = .ok (.iload_n 1, 1) := by decide +kernel
theorem dX13_lesser_2 : decode cX13_lesser 2 = .ok (.if_icmp .ge 7, 3) := by decide +kernel
theorem dX13_lesser_5 : decode cX13_lesser 5 = .ok (.iload_n 0, 1) := by decide +kernel
theorem dX13_lesser_6 : decode cX13_lesser 6 = .ok (.goto 4, 3) := by decide +kernel
theorem dX13_lesser_9 : decode cX13_lesser 9 = .ok (.iload_n 1, 1) := by decide +kernel
theorem dX13_lesser_10 : decode cX13_lesser 10 = .ok (.ireturn, 1) := by decide +kernel
theorem dX13_greater_0 : decode cX13_greater 0 = .ok (.iload_n 0, 1) := by decide +kernel
theorem dX13_greater_1 : decode cX13_greater 1 = .ok (.iload_n 1, 1) := by decide +kernel
theorem dX13_greater_2 : decode cX13_greater 2 = .ok (.if_icmp .le 7, 3) := by decide +kernel
theorem dX13_greater_5 : decode cX13_greater 5 = .ok (.iload_n 0, 1) := by decide +kernel
theorem dX13_greater_6 : decode cX13_greater 6 = .ok (.goto 4, 3) := by decide +kernel
theorem dX13_greater_9 : decode cX13_greater 9 = .ok (.iload_n 1, 1) := by decide +kernel
theorem dX13_greater_10 : decode cX13_greater 10 = .ok (.ireturn, 1) := by decide +kernel
theorem dX13_ordersRegions_0 : decode cX13_ordersRegions 0 = .ok (.iconst 0, 1) := by decide +kernel
theorem dX13_ordersRegions_1 : decode cX13_ordersRegions 1 = .ok (.istore_n 1, 1) := by decide +kernel
theorem dX13_ordersRegions_2 : decode cX13_ordersRegions 2 = .ok (.iload_n 1, 1) := by decide +kernel
theorem dX13_ordersRegions_3 : decode cX13_ordersRegions 3 = .ok (.aload_n 0, 1) := by decide +kernel
theorem dX13_ordersRegions_4 : decode cX13_ordersRegions 4 = .ok (.getfield 421, 3) := by decide +kernel
theorem dX13_ordersRegions_7 : decode cX13_ordersRegions 7 = .ok (.if_icmp .ge 16, 3) := by decide +kernel
theorem dX13_ordersRegions_10 : decode cX13_ordersRegions 10 = .ok (.aload_n 0, 1) := by decide +kernel
theorem dX13_ordersRegions_11 : decode cX13_ordersRegions 11 = .ok (.getfield 140, 3) := by decide +kernel
theorem dX13_ordersRegions_14 : decode cX13_ordersRegions 14 = .ok (.iload_n 1, 1) := by decide +kernel
theorem dX13_ordersRegions_15 : decode cX13_ordersRegions 15 = .ok (.iconst 0, 1) := by decide +kernel
theorem dX13_ordersRegions_16 : decode cX13_ordersRegions 16 = .ok (.bastore, 1) := by decide +kernel
theorem dX13_ordersRegions_17 : decode cX13_ordersRegions 17 = .ok (.iinc 1 1, 3) := by decide +kernel
theorem dX13_ordersRegions_20 : decode cX13_ordersRegions 20 = .ok (.goto (-18), 3) := by decide +kernel
theorem dX13_ordersRegions_23 : decode cX13_ordersRegions 23 = .ok (.iconst (-1), 1) := by decide +kernel
theorem dX13_ordersRegions_24 : decode cX13_ordersRegions 24 = .ok (.istore_n 1, 1) := by decide +kernel
theorem dX13_ordersRegions_25 : decode cX13_ordersRegions 25 = .ok (.iconst (-1), 1) := by decide +kernel
theorem dX13_ordersRegions_26 : decode cX13_ordersRegions 26 = .ok (.istore_n 2, 1) := by decide +kernel
theorem dX13_ordersRegions_27 : decode cX13_ordersRegions 27 = .ok (.iconst 0, 1) := by decide +kernel
theorem dX13_ordersRegions_28 : decode cX13_ordersRegions 28 = .ok (.istore_n 3, 1) := by decide +kernel
theorem dX13_ordersRegions_29 : decode cX13_ordersRegions 29 = .ok (.iload_n 3, 1) := by decide +kernel
theorem dX13_ordersRegions_30 : decode cX13_ordersRegions 30 = .ok (.aload_n 0, 1) := by decide +kernel
theorem dX13_ordersRegions_31 : decode cX13_ordersRegions 31 = .ok (.getfield 421, 3) := by decide +kernel
theorem dX13_ordersRegions_34 : decode cX13_ordersRegions 34 = .ok (.if_icmp .ge 67, 3) := by decide +kernel
theorem dX13_ordersRegions_37 : decode cX13_ordersRegions 37 = .ok (.aload_n 0, 1) := by decide +kernel
theorem dX13_ordersRegions_38 : decode cX13_ordersRegions 38 = .ok (.iconst (-1), 1) := by decide +kernel
theorem dX13_ordersRegions_39 : decode cX13_ordersRegions 39 = .ok (.invokevirtual 443, 3) := by decide +kernel
theorem dX13_ordersRegions_42 : decode cX13_ordersRegions 42 = .ok (.istore 4, 2) := by decide +kernel
theorem dX13_ordersRegions_44 : decode cX13_ordersRegions 44 = .ok (.aload_n 0, 1) := by decide +kernel
theorem dX13_ordersRegions_45 : decode cX13_ordersRegions 45 = .ok (.getfield 140, 3) := by decide +kernel
theorem dX13_ordersRegions_48 : decode cX13_ordersRegions 48 = .ok (.iload 4, 2) := by decide +kernel
theorem dX13_ordersRegions_50 : decode cX13_ordersRegions 50 = .ok (.iconst 1, 1) := by decide +kernel
theorem dX13_ordersRegions_51 : decode cX13_ordersRegions 51 = .ok (.bastore, 1) := by decide +kernel
theorem dX13_ordersRegions_52 : decode cX13_ordersRegions 52 = .ok (.iload_n 1, 1) := by decide +kernel
theorem dX13_ordersRegions_53 : decode cX13_ordersRegions 53 = .ok (.ifCond .lt 13, 3) := by decide +kernel
theorem dX13_ordersRegions_56 : decode cX13_ordersRegions 56 = .ok (.aload_n 0, 1) := by decide +kernel
theorem dX13_ordersRegions_57 : decode cX13_ordersRegions 57 = .ok (.iload 4, 2) := by decide +kernel
theorem dX13_ordersRegions_59 : decode cX13_ordersRegions 59 = .ok (.invokevirtual 440, 3) := by decide +kernel
theorem dX13_ordersRegions_62 : decode cX13_ordersRegions 62 = .ok (.iload_n 2, 1) := by decide +kernel
theorem dX13_ordersRegions_63 : decode cX13_ordersRegions 63 = .ok (.if_icmp .le 13, 3) := by decide +kernel
theorem dX13_ordersRegions_66 : decode cX13_ordersRegions 66 = .ok (.iinc 1 1, 3) := by decide +kernel
theorem dX13_ordersRegions_69 : decode cX13_ordersRegions 69 = .ok (.aload_n 0, 1) := by decide +kernel
theorem dX13_ordersRegions_70 : decode cX13_ordersRegions 70 = .ok (.iload 4, 2) := by decide +kernel
theorem dX13_ordersRegions_72 : decode cX13_ordersRegions 72 = .ok (.invokevirtual 446, 3) := by decide +kernel
theorem dX13_ordersRegions_75 : decode cX13_ordersRegions 75 = .ok (.istore_n 2, 1) := by decide +kernel
theorem dX13_ordersRegions_76 : decode cX13_ordersRegions 76 = .ok (.iload_n 2, 1) := by decide +kernel
theorem dX13_ordersRegions_77 : decode cX13_ordersRegions 77 = .ok (.aload_n 0, 1) := by decide +kernel
theorem dX13_ordersRegions_78 : decode cX13_ordersRegions 78 = .ok (.iload 4, 2) := by decide +kernel
theorem dX13_ordersRegions_80 : decode cX13_ordersRegions 80 = .ok (.invokevirtual 446, 3) := by decide +kernel
theorem dX13_ordersRegions_83 : decode cX13_ordersRegions 83 = .ok (.invokestatic 427, 3) := by decide +kernel
theorem dX13_ordersRegions_86 : decode cX13_ordersRegions 86 = .ok (.istore_n 2, 1) := by decide +kernel
theorem dX13_ordersRegions_87 : decode cX13_ordersRegions 87 = .ok (.aload_n 0, 1) := by decide +kernel
theorem dX13_ordersRegions_88 : decode cX13_ordersRegions 88 = .ok (.getfield 137, 3) := by decide +kernel
theorem dX13_ordersRegions_91 : decode cX13_ordersRegions 91 = .ok (.iload 4, 2) := by decide +kernel
theorem dX13_ordersRegions_93 : decode cX13_ordersRegions 93 = .ok (.iload_n 1, 1) := by decide +kernel
theorem dX13_ordersRegions_94 : decode cX13_ordersRegions 94 = .ok (.iastore, 1) := by decide +kernel
theorem dX13_ordersRegions_95 : decode cX13_ordersRegions 95 = .ok (.iinc 3 1, 3) := by decide +kernel
theorem dX13_ordersRegions_98 : decode cX13_ordersRegions 98 = .ok (.goto (-69), 3) := by decide +kernel
theorem dX13_ordersRegions_101 : decode cX13_ordersRegions 101 = .ok (.iconst 0, 1) := by decide +kernel
theorem dX13_ordersRegions_102 : decode cX13_ordersRegions 102 = .ok (.istore_n 3, 1) := by decide +kernel
theorem dX13_ordersRegions_103 : decode cX13_ordersRegions 103 = .ok (.iload_n 3, 1) := by decide +kernel
theorem dX13_ordersRegions_104 : decode cX13_ordersRegions 104 = .ok (.aload_n 0, 1) := by decide +kernel
theorem dX13_ordersRegions_105 : decode cX13_ordersRegions 105 = .ok (.getfield 421, 3) := by decide +kernel
theorem dX13_ordersRegions_108 : decode cX13_ordersRegions 108 = .ok (.if_icmp .ge 16, 3) := by decide +kernel
theorem dX13_ordersRegions_111 : decode cX13_ordersRegions 111 = .ok (.aload_n 0, 1) := by decide +kernel
theorem dX13_ordersRegions_112 : decode cX13_ordersRegions 112 = .ok (.getfield 140, 3) := by decide +kernel
theorem dX13_ordersRegions_115 : decode cX13_ordersRegions 115 = .ok (.iload_n 3, 1) := by decide +kernel
theorem dX13_ordersRegions_116 : decode cX13_ordersRegions 116 = .ok (.iconst 0, 1) := by decide +kernel
theorem dX13_ordersRegions_117 : decode cX13_ordersRegions 117 = .ok (.bastore, 1) := by decide +kernel
theorem dX13_ordersRegions_118 : decode cX13_ordersRegions 118 = .ok (.iinc 3 1, 3) := by decide +kernel
theorem dX13_ordersRegions_121 : decode cX13_ordersRegions 121 = .ok (.goto (-18), 3) := by decide +kernel
theorem dX13_ordersRegions_124 : decode cX13_ordersRegions 124 = .ok (.iconst 0, 1) := by decide +kernel
theorem dX13_ordersRegions_125 : decode cX13_ordersRegions 125 = .ok (.istore_n 3, 1) := by decide +kernel
theorem dX13_ordersRegions_126 : decode cX13_ordersRegions 126 = .ok (.iconst 0, 1) := by decide +kernel
theorem dX13_ordersRegions_127 : decode cX13_ordersRegions 127 = .ok (.istore 4, 2) := by decide +kernel
theorem dX13_ordersRegions_129 : decode cX13_ordersRegions 129 = .ok (.iload 4, 2) := by decide +kernel
theorem dX13_ordersRegions_131 : decode cX13_ordersRegions 131 = .ok (.iload_n 1, 1) := by decide +kernel
theorem dX13_ordersRegions_132 : decode cX13_ordersRegions 132 = .ok (.if_icmp .gt 60, 3) := by decide +kernel
theorem dX13_ordersRegions_135 : decode cX13_ordersRegions 135 = .ok (.aload_n 0, 1) := by decide +kernel
theorem dX13_ordersRegions_136 : decode cX13_ordersRegions 136 = .ok (.iload 4, 2) := by decide +kernel
theorem dX13_ordersRegions_138 : decode cX13_ordersRegions 138 = .ok (.invokevirtual 443, 3) := by decide +kernel
theorem dX13_ordersRegions_141 : decode cX13_ordersRegions 141 = .ok (.istore 5, 2) := by decide +kernel
theorem dX13_ordersRegions_143 : decode cX13_ordersRegions 143 = .ok (.iload 5, 2) := by decide +kernel
theorem dX13_ordersRegions_145 : decode cX13_ordersRegions 145 = .ok (.ifCond .lt 41, 3) := by decide +kernel
theorem dX13_ordersRegions_148 : decode cX13_ordersRegions 148 = .ok (.aload_n 0, 1) := by decide +kernel
theorem dX13_ordersRegions_149 : decode cX13_ordersRegions 149 = .ok (.getfield 140, 3) := by decide +kernel
theorem dX13_ordersRegions_152 : decode cX13_ordersRegions 152 = .ok (.iload 5, 2) := by decide +kernel
theorem dX13_ordersRegions_154 : decode cX13_ordersRegions 154 = .ok (.iconst 1, 1) := by decide +kernel
theorem dX13_ordersRegions_155 : decode cX13_ordersRegions 155 = .ok (.bastore, 1) := by decide +kernel
theorem dX13_ordersRegions_156 : decode cX13_ordersRegions 156 = .ok (.aload_n 0, 1) := by decide +kernel
theorem dX13_ordersRegions_157 : decode cX13_ordersRegions 157 = .ok (.getfield 128, 3) := by decide +kernel
theorem dX13_ordersRegions_160 : decode cX13_ordersRegions 160 = .ok (.iload_n 3, 1) := by decide +kernel
theorem dX13_ordersRegions_161 : decode cX13_ordersRegions 161 = .ok (.iload 5, 2) := by decide +kernel
theorem dX13_ordersRegions_163 : decode cX13_ordersRegions 163 = .ok (.iastore, 1) := by decide +kernel
theorem dX13_ordersRegions_164 : decode cX13_ordersRegions 164 = .ok (.aload_n 0, 1) := by decide +kernel
theorem dX13_ordersRegions_165 : decode cX13_ordersRegions 165 = .ok (.getfield 131, 3) := by decide +kernel
theorem dX13_ordersRegions_168 : decode cX13_ordersRegions 168 = .ok (.iload 5, 2) := by decide +kernel
theorem dX13_ordersRegions_170 : decode cX13_ordersRegions 170 = .ok (.iload_n 3, 1) := by decide +kernel
theorem dX13_ordersRegions_171 : decode cX13_ordersRegions 171 = .ok (.iastore, 1) := by decide +kernel
theorem dX13_ordersRegions_172 : decode cX13_ordersRegions 172 = .ok (.iinc 3 1, 3) := by decide +kernel
theorem dX13_ordersRegions_175 : decode cX13_ordersRegions 175 = .ok (.aload_n 0, 1) := by decide +kernel
theorem dX13_ordersRegions_176 : decode cX13_ordersRegions 176 = .ok (.iload 4, 2) := by decide +kernel
theorem dX13_ordersRegions_178 : decode cX13_ordersRegions 178 = .ok (.invokevirtual 443, 3) := by decide +kernel
theorem dX13_ordersRegions_181 : decode cX13_ordersRegions 181 = .ok (.istore 5, 2) := by decide +kernel
theorem dX13_ordersRegions_183 : decode cX13_ordersRegions 183 = .ok (.goto (-40), 3) := by decide +kernel
theorem dX13_ordersRegions_186 : decode cX13_ordersRegions 186 = .ok (.iinc 4 1, 3) := by decide +kernel
theorem dX13_ordersRegions_189 : decode cX13_ordersRegions 189 = .ok (.goto (-60), 3) := by decide +kernel
theorem dX13_ordersRegions_192 : decode cX13_ordersRegions 192 = .ok (.return_, 1) := by decide +kernel
theorem dX13_leastRegion_0 : decode cX13_leastRegion 0 = .ok (.iconst (-1), 1) := by decide +kernel
theorem dX13_leastRegion_1 : decode cX13_leastRegion 1 = .ok (.istore_n 2, 1) := by decide +kernel
theorem dX13_leastRegion_2 : decode cX13_leastRegion 2 = .ok (.iconst 0, 1) := by decide +kernel
theorem dX13_leastRegion_3 : decode cX13_leastRegion 3 = .ok (.istore_n 3, 1) := by decide +kernel
theorem dX13_leastRegion_4 : decode cX13_leastRegion 4 = .ok (.iload_n 3, 1) := by decide +kernel
theorem dX13_leastRegion_5 : decode cX13_leastRegion 5 = .ok (.aload_n 0, 1) := by decide +kernel
theorem dX13_leastRegion_6 : decode cX13_leastRegion 6 = .ok (.getfield 421, 3) := by decide +kernel
theorem dX13_leastRegion_9 : decode cX13_leastRegion 9 = .ok (.if_icmp .ge 68, 3) := by decide +kernel
theorem dX13_leastRegion_12 : decode cX13_leastRegion 12 = .ok (.aload_n 0, 1) := by decide +kernel
theorem dX13_leastRegion_13 : decode cX13_leastRegion 13 = .ok (.getfield 140, 3) := by decide +kernel
theorem dX13_leastRegion_16 : decode cX13_leastRegion 16 = .ok (.iload_n 3, 1) := by decide +kernel
theorem dX13_leastRegion_17 : decode cX13_leastRegion 17 = .ok (.baload, 1) := by decide +kernel
theorem dX13_leastRegion_18 : decode cX13_leastRegion 18 = .ok (.ifCond .ne 21, 3) := by decide +kernel
theorem dX13_leastRegion_21 : decode cX13_leastRegion 21 = .ok (.iload_n 1, 1) := by decide +kernel
theorem dX13_leastRegion_22 : decode cX13_leastRegion 22 = .ok (.ifCond .lt 13, 3) := by decide +kernel
theorem dX13_leastRegion_25 : decode cX13_leastRegion 25 = .ok (.aload_n 0, 1) := by decide +kernel
theorem dX13_leastRegion_26 : decode cX13_leastRegion 26 = .ok (.getfield 137, 3) := by decide +kernel
theorem dX13_leastRegion_29 : decode cX13_leastRegion 29 = .ok (.iload_n 3, 1) := by decide +kernel
theorem dX13_leastRegion_30 : decode cX13_leastRegion 30 = .ok (.iaload, 1) := by decide +kernel
theorem dX13_leastRegion_31 : decode cX13_leastRegion 31 = .ok (.iload_n 1, 1) := by decide +kernel
theorem dX13_leastRegion_32 : decode cX13_leastRegion 32 = .ok (.if_icmp .ne 7, 3) := by decide +kernel
theorem dX13_leastRegion_35 : decode cX13_leastRegion 35 = .ok (.iconst 1, 1) := by decide +kernel
theorem dX13_leastRegion_36 : decode cX13_leastRegion 36 = .ok (.goto 4, 3) := by decide +kernel
theorem dX13_leastRegion_39 : decode cX13_leastRegion 39 = .ok (.iconst 0, 1) := by decide +kernel
theorem dX13_leastRegion_40 : decode cX13_leastRegion 40 = .ok (.istore 4, 2) := by decide +kernel
theorem dX13_leastRegion_42 : decode cX13_leastRegion 42 = .ok (.iload 4, 2) := by decide +kernel
theorem dX13_leastRegion_44 : decode cX13_leastRegion 44 = .ok (.ifCond .eq 27, 3) := by decide +kernel
theorem dX13_leastRegion_47 : decode cX13_leastRegion 47 = .ok (.iload_n 2, 1) := by decide +kernel
theorem dX13_leastRegion_48 : decode cX13_leastRegion 48 = .ok (.ifCond .lt 21, 3) := by decide +kernel
theorem dX13_leastRegion_51 : decode cX13_leastRegion 51 = .ok (.aload_n 0, 1) := by decide +kernel
theorem dX13_leastRegion_52 : decode cX13_leastRegion 52 = .ok (.iload_n 3, 1) := by decide +kernel
theorem dX13_leastRegion_53 : decode cX13_leastRegion 53 = .ok (.iload_n 2, 1) := by decide +kernel
theorem dX13_leastRegion_54 : decode cX13_leastRegion 54 = .ok (.iload_n 1, 1) := by decide +kernel
theorem dX13_leastRegion_55 : decode cX13_leastRegion 55 = .ok (.ifCond .lt 7, 3) := by decide +kernel
theorem dX13_leastRegion_58 : decode cX13_leastRegion 58 = .ok (.iconst 1, 1) := by decide +kernel
theorem dX13_leastRegion_59 : decode cX13_leastRegion 59 = .ok (.goto 4, 3) := by decide +kernel
theorem dX13_leastRegion_62 : decode cX13_leastRegion 62 = .ok (.iconst 0, 1) := by decide +kernel
theorem dX13_leastRegion_63 : decode cX13_leastRegion 63 = .ok (.invokevirtual 433, 3) := by decide +kernel
theorem dX13_leastRegion_66 : decode cX13_leastRegion 66 = .ok (.ifCond .eq 5, 3) := by decide +kernel
theorem dX13_leastRegion_69 : decode cX13_leastRegion 69 = .ok (.iload_n 3, 1) := by decide +kernel
theorem dX13_leastRegion_70 : decode cX13_leastRegion 70 = .ok (.istore_n 2, 1) := by decide +kernel
theorem dX13_leastRegion_71 : decode cX13_leastRegion 71 = .ok (.iinc 3 1, 3) := by decide +kernel
theorem dX13_leastRegion_74 : decode cX13_leastRegion 74 = .ok (.goto (-70), 3) := by decide +kernel
theorem dX13_leastRegion_77 : decode cX13_leastRegion 77 = .ok (.iload_n 2, 1) := by decide +kernel
theorem dX13_leastRegion_78 : decode cX13_leastRegion 78 = .ok (.ireturn, 1) := by decide +kernel
theorem dX13_isAhead_0 : decode cX13_isAhead 0 = .ok (.iload_n 3, 1) := by decide +kernel
theorem dX13_isAhead_1 : decode cX13_isAhead 1 = .ok (.ifCond .eq 11, 3) := by decide +kernel
theorem dX13_isAhead_4 : decode cX13_isAhead 4 = .ok (.aload_n 0, 1) := by decide +kernel
theorem dX13_isAhead_5 : decode cX13_isAhead 5 = .ok (.iload_n 1, 1) := by decide +kernel
theorem dX13_isAhead_6 : decode cX13_isAhead 6 = .ok (.invokevirtual 437, 3) := by decide +kernel
theorem dX13_isAhead_9 : decode cX13_isAhead 9 = .ok (.goto 8, 3) := by decide +kernel
theorem dX13_isAhead_12 : decode cX13_isAhead 12 = .ok (.aload_n 0, 1) := by decide +kernel
theorem dX13_isAhead_13 : decode cX13_isAhead 13 = .ok (.iload_n 1, 1) := by decide +kernel
theorem dX13_isAhead_14 : decode cX13_isAhead 14 = .ok (.invokevirtual 440, 3) := by decide +kernel
theorem dX13_isAhead_17 : decode cX13_isAhead 17 = .ok (.istore 4, 2) := by decide +kernel
theorem dX13_isAhead_19 : decode cX13_isAhead 19 = .ok (.iload_n 3, 1) := by decide +kernel
theorem dX13_isAhead_20 : decode cX13_isAhead 20 = .ok (.ifCond .eq 11, 3) := by decide +kernel
theorem dX13_isAhead_23 : decode cX13_isAhead 23 = .ok (.aload_n 0, 1) := by decide +kernel
theorem dX13_isAhead_24 : decode cX13_isAhead 24 = .ok (.iload_n 2, 1) := by decide +kernel
theorem dX13_isAhead_25 : decode cX13_isAhead 25 = .ok (.invokevirtual 437, 3) := by decide +kernel
theorem dX13_isAhead_28 : decode cX13_isAhead 28 = .ok (.goto 8, 3) := by decide +kernel
theorem dX13_isAhead_31 : decode cX13_isAhead 31 = .ok (.aload_n 0, 1) := by decide +kernel
theorem dX13_isAhead_32 : decode cX13_isAhead 32 = .ok (.iload_n 2, 1) := by decide +kernel
theorem dX13_isAhead_33 : decode cX13_isAhead 33 = .ok (.invokevirtual 440, 3) := by decide +kernel
theorem dX13_isAhead_36 : decode cX13_isAhead 36 = .ok (.istore 5, 2) := by decide +kernel
theorem dX13_isAhead_38 : decode cX13_isAhead 38 = .ok (.iload_n 3, 1) := by decide +kernel
theorem dX13_isAhead_39 : decode cX13_isAhead 39 = .ok (.ifCond .eq 11, 3) := by decide +kernel
theorem dX13_isAhead_42 : decode cX13_isAhead 42 = .ok (.aload_n 0, 1) := by decide +kernel
theorem dX13_isAhead_43 : decode cX13_isAhead 43 = .ok (.iload_n 1, 1) := by decide +kernel
theorem dX13_isAhead_44 : decode cX13_isAhead 44 = .ok (.invokevirtual 440, 3) := by decide +kernel
theorem dX13_isAhead_47 : decode cX13_isAhead 47 = .ok (.goto 8, 3) := by decide +kernel
theorem dX13_isAhead_50 : decode cX13_isAhead 50 = .ok (.aload_n 0, 1) := by decide +kernel
theorem dX13_isAhead_51 : decode cX13_isAhead 51 = .ok (.iload_n 1, 1) := by decide +kernel
theorem dX13_isAhead_52 : decode cX13_isAhead 52 = .ok (.invokevirtual 437, 3) := by decide +kernel
theorem dX13_isAhead_55 : decode cX13_isAhead 55 = .ok (.istore 6, 2) := by decide +kernel
theorem dX13_isAhead_57 : decode cX13_isAhead 57 = .ok (.iload_n 3, 1) := by decide +kernel
theorem dX13_isAhead_58 : decode cX13_isAhead 58 = .ok (.ifCond .eq 11, 3) := by decide +kernel
theorem dX13_isAhead_61 : decode cX13_isAhead 61 = .ok (.aload_n 0, 1) := by decide +kernel
theorem dX13_isAhead_62 : decode cX13_isAhead 62 = .ok (.iload_n 2, 1) := by decide +kernel
theorem dX13_isAhead_63 : decode cX13_isAhead 63 = .ok (.invokevirtual 440, 3) := by decide +kernel
theorem dX13_isAhead_66 : decode cX13_isAhead 66 = .ok (.goto 8, 3) := by decide +kernel
theorem dX13_isAhead_69 : decode cX13_isAhead 69 = .ok (.aload_n 0, 1) := by decide +kernel
theorem dX13_isAhead_70 : decode cX13_isAhead 70 = .ok (.iload_n 2, 1) := by decide +kernel
theorem dX13_isAhead_71 : decode cX13_isAhead 71 = .ok (.invokevirtual 437, 3) := by decide +kernel
theorem dX13_isAhead_74 : decode cX13_isAhead 74 = .ok (.istore 7, 2) := by decide +kernel
theorem dX13_isAhead_76 : decode cX13_isAhead 76 = .ok (.iload 4, 2) := by decide +kernel
theorem dX13_isAhead_78 : decode cX13_isAhead 78 = .ok (.iload 5, 2) := by decide +kernel
theorem dX13_isAhead_80 : decode cX13_isAhead 80 = .ok (.if_icmp .lt 29, 3) := by decide +kernel
theorem dX13_isAhead_83 : decode cX13_isAhead 83 = .ok (.iload 4, 2) := by decide +kernel
theorem dX13_isAhead_85 : decode cX13_isAhead 85 = .ok (.iload 5, 2) := by decide +kernel
theorem dX13_isAhead_87 : decode cX13_isAhead 87 = .ok (.if_icmp .ne 26, 3) := by decide +kernel
theorem dX13_isAhead_90 : decode cX13_isAhead 90 = .ok (.iload 6, 2) := by decide +kernel
theorem dX13_isAhead_92 : decode cX13_isAhead 92 = .ok (.iload 7, 2) := by decide +kernel
theorem dX13_isAhead_94 : decode cX13_isAhead 94 = .ok (.if_icmp .lt 15, 3) := by decide +kernel
theorem dX13_isAhead_97 : decode cX13_isAhead 97 = .ok (.iload 6, 2) := by decide +kernel
theorem dX13_isAhead_99 : decode cX13_isAhead 99 = .ok (.iload 7, 2) := by decide +kernel
theorem dX13_isAhead_101 : decode cX13_isAhead 101 = .ok (.if_icmp .ne 12, 3) := by decide +kernel
theorem dX13_isAhead_104 : decode cX13_isAhead 104 = .ok (.iload_n 1, 1) := by decide +kernel
theorem dX13_isAhead_105 : decode cX13_isAhead 105 = .ok (.iload_n 2, 1) := by decide +kernel
theorem dX13_isAhead_106 : decode cX13_isAhead 106 = .ok (.if_icmp .ge 7, 3) := by decide +kernel
theorem dX13_isAhead_109 : decode cX13_isAhead 109 = .ok (.iconst 1, 1) := by decide +kernel
theorem dX13_isAhead_110 : decode cX13_isAhead 110 = .ok (.goto 4, 3) := by decide +kernel
theorem dX13_isAhead_113 : decode cX13_isAhead 113 = .ok (.iconst 0, 1) := by decide +kernel
theorem dX13_isAhead_114 : decode cX13_isAhead 114 = .ok (.ireturn, 1) := by decide +kernel
theorem dX13_secondKey_0 : decode cX13_secondKey 0 = .ok (.aload_n 0, 1) := by decide +kernel
theorem dX13_secondKey_1 : decode cX13_secondKey 1 = .ok (.getfield 33, 3) := by decide +kernel
theorem dX13_secondKey_4 : decode cX13_secondKey 4 = .ok (.bipush 7, 2) := by decide +kernel
theorem dX13_secondKey_6 : decode cX13_secondKey 6 = .ok (.iaload, 1) := by decide +kernel
theorem dX13_secondKey_7 : decode cX13_secondKey 7 = .ok (.ifCond .ne 12, 3) := by decide +kernel
theorem dX13_secondKey_10 : decode cX13_secondKey 10 = .ok (.aload_n 0, 1) := by decide +kernel
theorem dX13_secondKey_11 : decode cX13_secondKey 11 = .ok (.getfield 116, 3) := by decide +kernel
theorem dX13_secondKey_14 : decode cX13_secondKey 14 = .ok (.iload_n 1, 1) := by decide +kernel
theorem dX13_secondKey_15 : decode cX13_secondKey 15 = .ok (.iaload, 1) := by decide +kernel
theorem dX13_secondKey_16 : decode cX13_secondKey 16 = .ok (.goto 9, 3) := by decide +kernel
theorem dX13_secondKey_19 : decode cX13_secondKey 19 = .ok (.aload_n 0, 1) := by decide +kernel
theorem dX13_secondKey_20 : decode cX13_secondKey 20 = .ok (.getfield 119, 3) := by decide +kernel
theorem dX13_secondKey_23 : decode cX13_secondKey 23 = .ok (.iload_n 1, 1) := by decide +kernel
theorem dX13_secondKey_24 : decode cX13_secondKey 24 = .ok (.iaload, 1) := by decide +kernel
theorem dX13_secondKey_25 : decode cX13_secondKey 25 = .ok (.ireturn, 1) := by decide +kernel
theorem dX13_firstKey_0 : decode cX13_firstKey 0 = .ok (.aload_n 0, 1) := by decide +kernel
theorem dX13_firstKey_1 : decode cX13_firstKey 1 = .ok (.getfield 33, 3) := by decide +kernel
theorem dX13_firstKey_4 : decode cX13_firstKey 4 = .ok (.bipush 7, 2) := by decide +kernel
theorem dX13_firstKey_6 : decode cX13_firstKey 6 = .ok (.iaload, 1) := by decide +kernel
theorem dX13_firstKey_7 : decode cX13_firstKey 7 = .ok (.ifCond .ne 12, 3) := by decide +kernel
theorem dX13_firstKey_10 : decode cX13_firstKey 10 = .ok (.aload_n 0, 1) := by decide +kernel
theorem dX13_firstKey_11 : decode cX13_firstKey 11 = .ok (.getfield 119, 3) := by decide +kernel
theorem dX13_firstKey_14 : decode cX13_firstKey 14 = .ok (.iload_n 1, 1) := by decide +kernel
theorem dX13_firstKey_15 : decode cX13_firstKey 15 = .ok (.iaload, 1) := by decide +kernel
theorem dX13_firstKey_16 : decode cX13_firstKey 16 = .ok (.goto 9, 3) := by decide +kernel
theorem dX13_firstKey_19 : decode cX13_firstKey 19 = .ok (.aload_n 0, 1) := by decide +kernel
theorem dX13_firstKey_20 : decode cX13_firstKey 20 = .ok (.getfield 116, 3) := by decide +kernel
theorem dX13_firstKey_23 : decode cX13_firstKey 23 = .ok (.iload_n 1, 1) := by decide +kernel
theorem dX13_firstKey_24 : decode cX13_firstKey 24 = .ok (.iaload, 1) := by decide +kernel
theorem dX13_firstKey_25 : decode cX13_firstKey 25 = .ok (.ireturn, 1) := by decide +kernel
theorem dX13_endKey_0 : decode cX13_endKey 0 = .ok (.aload_n 0, 1) := by decide +kernel
theorem dX13_endKey_1 : decode cX13_endKey 1 = .ok (.getfield 33, 3) := by decide +kernel
theorem dX13_endKey_4 : decode cX13_endKey 4 = .ok (.bipush 7, 2) := by decide +kernel
theorem dX13_endKey_6 : decode cX13_endKey 6 = .ok (.iaload, 1) := by decide +kernel
theorem dX13_endKey_7 : decode cX13_endKey 7 = .ok (.ifCond .ne 12, 3) := by decide +kernel
theorem dX13_endKey_10 : decode cX13_endKey 10 = .ok (.aload_n 0, 1) := by decide +kernel
theorem dX13_endKey_11 : decode cX13_endKey 11 = .ok (.getfield 125, 3) := by decide +kernel
theorem dX13_endKey_14 : decode cX13_endKey 14 = .ok (.iload_n 1, 1) := by decide +kernel
theorem dX13_endKey_15 : decode cX13_endKey 15 = .ok (.iaload, 1) := by decide +kernel
theorem dX13_endKey_16 : decode cX13_endKey 16 = .ok (.goto 9, 3) := by decide +kernel
theorem dX13_endKey_19 : decode cX13_endKey 19 = .ok (.aload_n 0, 1) := by decide +kernel
theorem dX13_endKey_20 : decode cX13_endKey 20 = .ok (.getfield 122, 3) := by decide +kernel
theorem dX13_endKey_23 : decode cX13_endKey 23 = .ok (.iload_n 1, 1) := by decide +kernel
theorem dX13_endKey_24 : decode cX13_endKey 24 = .ok (.iaload, 1) := by decide +kernel
theorem dX13_endKey_25 : decode cX13_endKey 25 = .ok (.ireturn, 1) := by decide +kernel
theorem dX13_findsParts_0 : decode cX13_findsParts 0 = .ok (.iconst 0, 1) := by decide +kernel
theorem dX13_findsParts_1 : decode cX13_findsParts 1 = .ok (.istore_n 1, 1) := by decide +kernel
theorem dX13_findsParts_2 : decode cX13_findsParts 2 = .ok (.iload_n 1, 1) := by decide +kernel
theorem dX13_findsParts_3 : decode cX13_findsParts 3 = .ok (.sipush 256, 3) := by decide +kernel
theorem dX13_findsParts_6 : decode cX13_findsParts 6 = .ok (.if_icmp .ge 39, 3) := by decide +kernel
theorem dX13_findsParts_9 : decode cX13_findsParts 9 = .ok (.aload_n 0, 1) := by decide +kernel
theorem dX13_findsParts_10 : decode cX13_findsParts 10 = .ok (.getfield 143, 3) := by decide +kernel
theorem dX13_findsParts_13 : decode cX13_findsParts 13 = .ok (.iload_n 1, 1) := by decide +kernel
theorem dX13_findsParts_14 : decode cX13_findsParts 14 = .ok (.aload_n 0, 1) := by decide +kernel
theorem dX13_findsParts_15 : decode cX13_findsParts 15 = .ok (.getfield 113, 3) := by decide +kernel
theorem dX13_findsParts_18 : decode cX13_findsParts 18 = .ok (.iload_n 1, 1) := by decide +kernel
theorem dX13_findsParts_19 : decode cX13_findsParts 19 = .ok (.iaload, 1) := by decide +kernel
theorem dX13_findsParts_20 : decode cX13_findsParts 20 = .ok (.ifCond .ge 7, 3) := by decide +kernel
theorem dX13_findsParts_23 : decode cX13_findsParts 23 = .ok (.iconst (-1), 1) := by decide +kernel
theorem dX13_findsParts_24 : decode cX13_findsParts 24 = .ok (.goto 14, 3) := by decide +kernel
theorem dX13_findsParts_27 : decode cX13_findsParts 27 = .ok (.aload_n 0, 1) := by decide +kernel
theorem dX13_findsParts_28 : decode cX13_findsParts 28 = .ok (.getfield 131, 3) := by decide +kernel
theorem dX13_findsParts_31 : decode cX13_findsParts 31 = .ok (.aload_n 0, 1) := by decide +kernel
theorem dX13_findsParts_32 : decode cX13_findsParts 32 = .ok (.getfield 113, 3) := by decide +kernel
theorem dX13_findsParts_35 : decode cX13_findsParts 35 = .ok (.iload_n 1, 1) := by decide +kernel
theorem dX13_findsParts_36 : decode cX13_findsParts 36 = .ok (.iaload, 1) := by decide +kernel
theorem dX13_findsParts_37 : decode cX13_findsParts 37 = .ok (.iaload, 1) := by decide +kernel
theorem dX13_findsParts_38 : decode cX13_findsParts 38 = .ok (.iastore, 1) := by decide +kernel
theorem dX13_findsParts_39 : decode cX13_findsParts 39 = .ok (.iinc 1 1, 3) := by decide +kernel
theorem dX13_findsParts_42 : decode cX13_findsParts 42 = .ok (.goto (-40), 3) := by decide +kernel
theorem dX13_findsParts_45 : decode cX13_findsParts 45 = .ok (.iconst 0, 1) := by decide +kernel
theorem dX13_findsParts_46 : decode cX13_findsParts 46 = .ok (.istore_n 1, 1) := by decide +kernel
theorem dX13_findsParts_47 : decode cX13_findsParts 47 = .ok (.iload_n 1, 1) := by decide +kernel
theorem dX13_findsParts_48 : decode cX13_findsParts 48 = .ok (.iconst 2, 1) := by decide +kernel
theorem dX13_findsParts_49 : decode cX13_findsParts 49 = .ok (.aload_n 0, 1) := by decide +kernel
theorem dX13_findsParts_50 : decode cX13_findsParts 50 = .ok (.getfield 421, 3) := by decide +kernel
theorem dX13_findsParts_53 : decode cX13_findsParts 53 = .ok (.imul, 1) := by decide +kernel
theorem dX13_findsParts_54 : decode cX13_findsParts 54 = .ok (.if_icmp .ge 163, 3) := by decide +kernel
theorem dX13_findsParts_57 : decode cX13_findsParts 57 = .ok (.aload_n 0, 1) := by decide +kernel
theorem dX13_findsParts_58 : decode cX13_findsParts 58 = .ok (.getfield 146, 3) := by decide +kernel
theorem dX13_findsParts_61 : decode cX13_findsParts 61 = .ok (.iload_n 1, 1) := by decide +kernel
theorem dX13_findsParts_62 : decode cX13_findsParts 62 = .ok (.iconst 0, 1) := by decide +kernel
theorem dX13_findsParts_63 : decode cX13_findsParts 63 = .ok (.iastore, 1) := by decide +kernel
theorem dX13_findsParts_64 : decode cX13_findsParts 64 = .ok (.aload_n 0, 1) := by decide +kernel
theorem dX13_findsParts_65 : decode cX13_findsParts 65 = .ok (.getfield 149, 3) := by decide +kernel
theorem dX13_findsParts_68 : decode cX13_findsParts 68 = .ok (.iload_n 1, 1) := by decide +kernel
theorem dX13_findsParts_69 : decode cX13_findsParts 69 = .ok (.bipush 64, 2) := by decide +kernel
theorem dX13_findsParts_71 : decode cX13_findsParts 71 = .ok (.iastore, 1) := by decide +kernel
theorem dX13_findsParts_72 : decode cX13_findsParts 72 = .ok (.aload_n 0, 1) := by decide +kernel
theorem dX13_findsParts_73 : decode cX13_findsParts 73 = .ok (.getfield 152, 3) := by decide +kernel
theorem dX13_findsParts_76 : decode cX13_findsParts 76 = .ok (.iload_n 1, 1) := by decide +kernel
theorem dX13_findsParts_77 : decode cX13_findsParts 77 = .ok (.bipush 64, 2) := by decide +kernel
theorem dX13_findsParts_79 : decode cX13_findsParts 79 = .ok (.iastore, 1) := by decide +kernel
theorem dX13_findsParts_80 : decode cX13_findsParts 80 = .ok (.aload_n 0, 1) := by decide +kernel
theorem dX13_findsParts_81 : decode cX13_findsParts 81 = .ok (.getfield 155, 3) := by decide +kernel
theorem dX13_findsParts_84 : decode cX13_findsParts 84 = .ok (.iload_n 1, 1) := by decide +kernel
theorem dX13_findsParts_85 : decode cX13_findsParts 85 = .ok (.iconst (-1), 1) := by decide +kernel
theorem dX13_findsParts_86 : decode cX13_findsParts 86 = .ok (.iastore, 1) := by decide +kernel
theorem dX13_findsParts_87 : decode cX13_findsParts 87 = .ok (.aload_n 0, 1) := by decide +kernel
theorem dX13_findsParts_88 : decode cX13_findsParts 88 = .ok (.getfield 158, 3) := by decide +kernel
theorem dX13_findsParts_91 : decode cX13_findsParts 91 = .ok (.iload_n 1, 1) := by decide +kernel
theorem dX13_findsParts_92 : decode cX13_findsParts 92 = .ok (.iconst (-1), 1) := by decide +kernel
theorem dX13_findsParts_93 : decode cX13_findsParts 93 = .ok (.iastore, 1) := by decide +kernel
theorem dX13_findsParts_94 : decode cX13_findsParts 94 = .ok (.aload_n 0, 1) := by decide +kernel
theorem dX13_findsParts_95 : decode cX13_findsParts 95 = .ok (.getfield 161, 3) := by decide +kernel
theorem dX13_findsParts_98 : decode cX13_findsParts 98 = .ok (.iload_n 1, 1) := by decide +kernel
theorem dX13_findsParts_99 : decode cX13_findsParts 99 = .ok (.iconst 0, 1) := by decide +kernel
theorem dX13_findsParts_100 : decode cX13_findsParts 100 = .ok (.bastore, 1) := by decide +kernel
theorem dX13_findsParts_101 : decode cX13_findsParts 101 = .ok (.iconst 0, 1) := by decide +kernel
theorem dX13_findsParts_102 : decode cX13_findsParts 102 = .ok (.istore_n 2, 1) := by decide +kernel
theorem dX13_findsParts_103 : decode cX13_findsParts 103 = .ok (.iload_n 2, 1) := by decide +kernel
theorem dX13_findsParts_104 : decode cX13_findsParts 104 = .ok (.sipush 4096, 3) := by decide +kernel
theorem dX13_findsParts_107 : decode cX13_findsParts 107 = .ok (.if_icmp .ge 104, 3) := by decide +kernel
theorem dX13_findsParts_110 : decode cX13_findsParts 110 = .ok (.aload_n 0, 1) := by decide +kernel
theorem dX13_findsParts_111 : decode cX13_findsParts 111 = .ok (.iload_n 1, 1) := by decide +kernel
theorem dX13_findsParts_112 : decode cX13_findsParts 112 = .ok (.iload_n 2, 1) := by decide +kernel
theorem dX13_findsParts_113 : decode cX13_findsParts 113 = .ok (.invokevirtual 449, 3) := by decide +kernel
theorem dX13_findsParts_116 : decode cX13_findsParts 116 = .ok (.ifCond .eq 89, 3) := by decide +kernel
theorem dX13_findsParts_119 : decode cX13_findsParts 119 = .ok (.aload_n 0, 1) := by decide +kernel
theorem dX13_findsParts_120 : decode cX13_findsParts 120 = .ok (.getfield 146, 3) := by decide +kernel
theorem dX13_findsParts_123 : decode cX13_findsParts 123 = .ok (.iload_n 1, 1) := by decide +kernel
theorem dX13_findsParts_124 : decode cX13_findsParts 124 = .ok (.dup2, 1) := by decide +kernel
theorem dX13_findsParts_125 : decode cX13_findsParts 125 = .ok (.iaload, 1) := by decide +kernel
theorem dX13_findsParts_126 : decode cX13_findsParts 126 = .ok (.iconst 1, 1) := by decide +kernel
theorem dX13_findsParts_127 : decode cX13_findsParts 127 = .ok (.iadd, 1) := by decide +kernel
theorem dX13_findsParts_128 : decode cX13_findsParts 128 = .ok (.iastore, 1) := by decide +kernel
theorem dX13_findsParts_129 : decode cX13_findsParts 129 = .ok (.aload_n 0, 1) := by decide +kernel
theorem dX13_findsParts_130 : decode cX13_findsParts 130 = .ok (.getfield 149, 3) := by decide +kernel
theorem dX13_findsParts_133 : decode cX13_findsParts 133 = .ok (.iload_n 1, 1) := by decide +kernel
theorem dX13_findsParts_134 : decode cX13_findsParts 134 = .ok (.aload_n 0, 1) := by decide +kernel
theorem dX13_findsParts_135 : decode cX13_findsParts 135 = .ok (.getfield 149, 3) := by decide +kernel
theorem dX13_findsParts_138 : decode cX13_findsParts 138 = .ok (.iload_n 1, 1) := by decide +kernel
theorem dX13_findsParts_139 : decode cX13_findsParts 139 = .ok (.iaload, 1) := by decide +kernel
theorem dX13_findsParts_140 : decode cX13_findsParts 140 = .ok (.iload_n 2, 1) := by decide +kernel
theorem dX13_findsParts_141 : decode cX13_findsParts 141 = .ok (.bipush 64, 2) := by decide +kernel
theorem dX13_findsParts_143 : decode cX13_findsParts 143 = .ok (.irem, 1) := by decide +kernel
theorem dX13_findsParts_144 : decode cX13_findsParts 144 = .ok (.invokestatic 424, 3) := by decide +kernel
theorem dX13_findsParts_147 : decode cX13_findsParts 147 = .ok (.iastore, 1) := by decide +kernel
theorem dX13_findsParts_148 : decode cX13_findsParts 148 = .ok (.aload_n 0, 1) := by decide +kernel
theorem dX13_findsParts_149 : decode cX13_findsParts 149 = .ok (.getfield 152, 3) := by decide +kernel
theorem dX13_findsParts_152 : decode cX13_findsParts 152 = .ok (.iload_n 1, 1) := by decide +kernel
theorem dX13_findsParts_153 : decode cX13_findsParts 153 = .ok (.aload_n 0, 1) := by decide +kernel
theorem dX13_findsParts_154 : decode cX13_findsParts 154 = .ok (.getfield 152, 3) := by decide +kernel
theorem dX13_findsParts_157 : decode cX13_findsParts 157 = .ok (.iload_n 1, 1) := by decide +kernel
theorem dX13_findsParts_158 : decode cX13_findsParts 158 = .ok (.iaload, 1) := by decide +kernel
theorem dX13_findsParts_159 : decode cX13_findsParts 159 = .ok (.iload_n 2, 1) := by decide +kernel
theorem dX13_findsParts_160 : decode cX13_findsParts 160 = .ok (.bipush 64, 2) := by decide +kernel
theorem dX13_findsParts_162 : decode cX13_findsParts 162 = .ok (.idiv, 1) := by decide +kernel
theorem dX13_findsParts_163 : decode cX13_findsParts 163 = .ok (.invokestatic 424, 3) := by decide +kernel
theorem dX13_findsParts_166 : decode cX13_findsParts 166 = .ok (.iastore, 1) := by decide +kernel
theorem dX13_findsParts_167 : decode cX13_findsParts 167 = .ok (.aload_n 0, 1) := by decide +kernel
theorem dX13_findsParts_168 : decode cX13_findsParts 168 = .ok (.getfield 155, 3) := by decide +kernel
theorem dX13_findsParts_171 : decode cX13_findsParts 171 = .ok (.iload_n 1, 1) := by decide +kernel
theorem dX13_findsParts_172 : decode cX13_findsParts 172 = .ok (.aload_n 0, 1) := by decide +kernel
theorem dX13_findsParts_173 : decode cX13_findsParts 173 = .ok (.getfield 155, 3) := by decide +kernel
theorem dX13_findsParts_176 : decode cX13_findsParts 176 = .ok (.iload_n 1, 1) := by decide +kernel
theorem dX13_findsParts_177 : decode cX13_findsParts 177 = .ok (.iaload, 1) := by decide +kernel
theorem dX13_findsParts_178 : decode cX13_findsParts 178 = .ok (.iload_n 2, 1) := by decide +kernel
theorem dX13_findsParts_179 : decode cX13_findsParts 179 = .ok (.bipush 64, 2) := by decide +kernel
theorem dX13_findsParts_181 : decode cX13_findsParts 181 = .ok (.irem, 1) := by decide +kernel
theorem dX13_findsParts_182 : decode cX13_findsParts 182 = .ok (.invokestatic 427, 3) := by decide +kernel
theorem dX13_findsParts_185 : decode cX13_findsParts 185 = .ok (.iastore, 1) := by decide +kernel
theorem dX13_findsParts_186 : decode cX13_findsParts 186 = .ok (.aload_n 0, 1) := by decide +kernel
theorem dX13_findsParts_187 : decode cX13_findsParts 187 = .ok (.getfield 158, 3) := by decide +kernel
theorem dX13_findsParts_190 : decode cX13_findsParts 190 = .ok (.iload_n 1, 1) := by decide +kernel
theorem dX13_findsParts_191 : decode cX13_findsParts 191 = .ok (.aload_n 0, 1) := by decide +kernel
theorem dX13_findsParts_192 : decode cX13_findsParts 192 = .ok (.getfield 158, 3) := by decide +kernel
theorem dX13_findsParts_195 : decode cX13_findsParts 195 = .ok (.iload_n 1, 1) := by decide +kernel
theorem dX13_findsParts_196 : decode cX13_findsParts 196 = .ok (.iaload, 1) := by decide +kernel
theorem dX13_findsParts_197 : decode cX13_findsParts 197 = .ok (.iload_n 2, 1) := by decide +kernel
theorem dX13_findsParts_198 : decode cX13_findsParts 198 = .ok (.bipush 64, 2) := by decide +kernel
theorem dX13_findsParts_200 : decode cX13_findsParts 200 = .ok (.idiv, 1) := by decide +kernel
theorem dX13_findsParts_201 : decode cX13_findsParts 201 = .ok (.invokestatic 427, 3) := by decide +kernel
theorem dX13_findsParts_204 : decode cX13_findsParts 204 = .ok (.iastore, 1) := by decide +kernel
theorem dX13_findsParts_205 : decode cX13_findsParts 205 = .ok (.iinc 2 1, 3) := by decide +kernel
theorem dX13_findsParts_208 : decode cX13_findsParts 208 = .ok (.goto (-105), 3) := by decide +kernel
theorem dX13_findsParts_211 : decode cX13_findsParts 211 = .ok (.iinc 1 1, 3) := by decide +kernel
theorem dX13_findsParts_214 : decode cX13_findsParts 214 = .ok (.goto (-167), 3) := by decide +kernel
theorem dX13_findsParts_217 : decode cX13_findsParts 217 = .ok (.return_, 1) := by decide +kernel
theorem dX13_isOf_0 : decode cX13_isOf 0 = .ok (.aload_n 0, 1) := by decide +kernel
theorem dX13_isOf_1 : decode cX13_isOf 1 = .ok (.iload_n 2, 1) := by decide +kernel
theorem dX13_isOf_2 : decode cX13_isOf 2 = .ok (.bipush 64, 2) := by decide +kernel
theorem dX13_isOf_4 : decode cX13_isOf 4 = .ok (.irem, 1) := by decide +kernel
theorem dX13_isOf_5 : decode cX13_isOf 5 = .ok (.i2l, 1) := by decide +kernel
theorem dX13_isOf_6 : decode cX13_isOf 6 = .ok (.iload_n 2, 1) := by decide +kernel
theorem dX13_isOf_7 : decode cX13_isOf 7 = .ok (.bipush 64, 2) := by decide +kernel
theorem dX13_isOf_9 : decode cX13_isOf 9 = .ok (.idiv, 1) := by decide +kernel
theorem dX13_isOf_10 : decode cX13_isOf 10 = .ok (.i2l, 1) := by decide +kernel
theorem dX13_isOf_11 : decode cX13_isOf 11 = .ok (.invokevirtual 195, 3) := by decide +kernel
theorem dX13_isOf_14 : decode cX13_isOf 14 = .ok (.ifCond .eq 50, 3) := by decide +kernel
theorem dX13_isOf_17 : decode cX13_isOf 17 = .ok (.iload_n 1, 1) := by decide +kernel
theorem dX13_isOf_18 : decode cX13_isOf 18 = .ok (.iconst 2, 1) := by decide +kernel
theorem dX13_isOf_19 : decode cX13_isOf 19 = .ok (.irem, 1) := by decide +kernel
theorem dX13_isOf_20 : decode cX13_isOf 20 = .ok (.ifCond .ne 15, 3) := by decide +kernel
theorem dX13_isOf_23 : decode cX13_isOf 23 = .ok (.aload_n 0, 1) := by decide +kernel
theorem dX13_isOf_24 : decode cX13_isOf 24 = .ok (.getfield 104, 3) := by decide +kernel
theorem dX13_isOf_27 : decode cX13_isOf 27 = .ok (.iload_n 2, 1) := by decide +kernel
theorem dX13_isOf_28 : decode cX13_isOf 28 = .ok (.baload, 1) := by decide +kernel
theorem dX13_isOf_29 : decode cX13_isOf 29 = .ok (.ifCond .eq 35, 3) := by decide +kernel
theorem dX13_isOf_32 : decode cX13_isOf 32 = .ok (.goto 12, 3) := by decide +kernel
theorem dX13_isOf_35 : decode cX13_isOf 35 = .ok (.aload_n 0, 1) := by decide +kernel
theorem dX13_isOf_36 : decode cX13_isOf 36 = .ok (.getfield 107, 3) := by decide +kernel
theorem dX13_isOf_39 : decode cX13_isOf 39 = .ok (.iload_n 2, 1) := by decide +kernel
theorem dX13_isOf_40 : decode cX13_isOf 40 = .ok (.baload, 1) := by decide +kernel
theorem dX13_isOf_41 : decode cX13_isOf 41 = .ok (.ifCond .eq 23, 3) := by decide +kernel
theorem dX13_isOf_44 : decode cX13_isOf 44 = .ok (.aload_n 0, 1) := by decide +kernel
theorem dX13_isOf_45 : decode cX13_isOf 45 = .ok (.getfield 143, 3) := by decide +kernel
theorem dX13_isOf_48 : decode cX13_isOf 48 = .ok (.aload_n 0, 1) := by decide +kernel
theorem dX13_isOf_49 : decode cX13_isOf 49 = .ok (.iload_n 2, 1) := by decide +kernel
theorem dX13_isOf_50 : decode cX13_isOf 50 = .ok (.invokevirtual 407, 3) := by decide +kernel
theorem dX13_isOf_53 : decode cX13_isOf 53 = .ok (.iaload, 1) := by decide +kernel
theorem dX13_isOf_54 : decode cX13_isOf 54 = .ok (.iload_n 1, 1) := by decide +kernel
theorem dX13_isOf_55 : decode cX13_isOf 55 = .ok (.iconst 2, 1) := by decide +kernel
theorem dX13_isOf_56 : decode cX13_isOf 56 = .ok (.idiv, 1) := by decide +kernel
theorem dX13_isOf_57 : decode cX13_isOf 57 = .ok (.if_icmp .ne 7, 3) := by decide +kernel
theorem dX13_isOf_60 : decode cX13_isOf 60 = .ok (.iconst 1, 1) := by decide +kernel
theorem dX13_isOf_61 : decode cX13_isOf 61 = .ok (.goto 4, 3) := by decide +kernel
theorem dX13_isOf_64 : decode cX13_isOf 64 = .ok (.iconst 0, 1) := by decide +kernel
theorem dX13_isOf_65 : decode cX13_isOf 65 = .ok (.ireturn, 1) := by decide +kernel
theorem dX13_findsChanges_0 : decode cX13_findsChanges 0 = .ok (.aload_n 0, 1) := by decide +kernel
theorem dX13_findsChanges_1 : decode cX13_findsChanges 1 = .ok (.invokevirtual 470, 3) := by decide +kernel
theorem dX13_findsChanges_4 : decode cX13_findsChanges 4 = .ok (.aload_n 0, 1) := by decide +kernel
theorem dX13_findsChanges_5 : decode cX13_findsChanges 5 = .ok (.iconst 0, 1) := by decide +kernel
theorem dX13_findsChanges_6 : decode cX13_findsChanges 6 = .ok (.putfield 467, 3) := by decide +kernel
theorem dX13_findsChanges_9 : decode cX13_findsChanges 9 = .ok (.iconst 0, 1) := by decide +kernel
theorem dX13_findsChanges_10 : decode cX13_findsChanges 10 = .ok (.istore_n 1, 1) := by decide +kernel
theorem dX13_findsChanges_11 : decode cX13_findsChanges 11 = .ok (.iload_n 1, 1) := by decide +kernel
theorem dX13_findsChanges_12 : decode cX13_findsChanges 12 = .ok (.iconst 2, 1) := by decide +kernel
theorem dX13_findsChanges_13 : decode cX13_findsChanges 13 = .ok (.aload_n 0, 1) := by decide +kernel
theorem dX13_findsChanges_14 : decode cX13_findsChanges 14 = .ok (.getfield 421, 3) := by decide +kernel
theorem dX13_findsChanges_17 : decode cX13_findsChanges 17 = .ok (.imul, 1) := by decide +kernel
theorem dX13_findsChanges_18 : decode cX13_findsChanges 18 = .ok (.if_icmp .ge 54, 3) := by decide +kernel
theorem dX13_findsChanges_21 : decode cX13_findsChanges 21 = .ok (.aload_n 0, 1) := by decide +kernel
theorem dX13_findsChanges_22 : decode cX13_findsChanges 22 = .ok (.getfield 146, 3) := by decide +kernel
theorem dX13_findsChanges_25 : decode cX13_findsChanges 25 = .ok (.iload_n 1, 1) := by decide +kernel
theorem dX13_findsChanges_26 : decode cX13_findsChanges 26 = .ok (.iaload, 1) := by decide +kernel
theorem dX13_findsChanges_27 : decode cX13_findsChanges 27 = .ok (.ifCond .le 39, 3) := by decide +kernel
theorem dX13_findsChanges_30 : decode cX13_findsChanges 30 = .ok (.iload_n 1, 1) := by decide +kernel
theorem dX13_findsChanges_31 : decode cX13_findsChanges 31 = .ok (.iconst 2, 1) := by decide +kernel
theorem dX13_findsChanges_32 : decode cX13_findsChanges 32 = .ok (.irem, 1) := by decide +kernel
theorem dX13_findsChanges_33 : decode cX13_findsChanges 33 = .ok (.ifCond .eq 12, 3) := by decide +kernel
theorem dX13_findsChanges_36 : decode cX13_findsChanges 36 = .ok (.aload_n 0, 1) := by decide +kernel
theorem dX13_findsChanges_37 : decode cX13_findsChanges 37 = .ok (.getfield 161, 3) := by decide +kernel
theorem dX13_findsChanges_40 : decode cX13_findsChanges 40 = .ok (.iload_n 1, 1) := by decide +kernel
theorem dX13_findsChanges_41 : decode cX13_findsChanges 41 = .ok (.baload, 1) := by decide +kernel
theorem dX13_findsChanges_42 : decode cX13_findsChanges 42 = .ok (.ifCond .ne 24, 3) := by decide +kernel
theorem dX13_findsChanges_45 : decode cX13_findsChanges 45 = .ok (.aload_n 0, 1) := by decide +kernel
theorem dX13_findsChanges_46 : decode cX13_findsChanges 46 = .ok (.iload_n 1, 1) := by decide +kernel
theorem dX13_findsChanges_47 : decode cX13_findsChanges 47 = .ok (.iload_n 1, 1) := by decide +kernel
theorem dX13_findsChanges_48 : decode cX13_findsChanges 48 = .ok (.iconst 2, 1) := by decide +kernel
theorem dX13_findsChanges_49 : decode cX13_findsChanges 49 = .ok (.irem, 1) := by decide +kernel
theorem dX13_findsChanges_50 : decode cX13_findsChanges 50 = .ok (.ifCond .ne 12, 3) := by decide +kernel
theorem dX13_findsChanges_53 : decode cX13_findsChanges 53 = .ok (.aload_n 0, 1) := by decide +kernel
theorem dX13_findsChanges_54 : decode cX13_findsChanges 54 = .ok (.getfield 173, 3) := by decide +kernel
theorem dX13_findsChanges_57 : decode cX13_findsChanges 57 = .ok (.iload_n 1, 1) := by decide +kernel
theorem dX13_findsChanges_58 : decode cX13_findsChanges 58 = .ok (.iaload, 1) := by decide +kernel
theorem dX13_findsChanges_59 : decode cX13_findsChanges 59 = .ok (.goto 4, 3) := by decide +kernel
theorem dX13_findsChanges_62 : decode cX13_findsChanges 62 = .ok (.iconst (-1), 1) := by decide +kernel
theorem dX13_findsChanges_63 : decode cX13_findsChanges 63 = .ok (.invokevirtual 473, 3) := by decide +kernel
theorem dX13_findsChanges_66 : decode cX13_findsChanges 66 = .ok (.iinc 1 1, 3) := by decide +kernel
theorem dX13_findsChanges_69 : decode cX13_findsChanges 69 = .ok (.goto (-58), 3) := by decide +kernel
theorem dX13_findsChanges_72 : decode cX13_findsChanges 72 = .ok (.return_, 1) := by decide +kernel
theorem dX13_pairs_0 : decode cX13_pairs 0 = .ok (.iconst 0, 1) := by decide +kernel
theorem dX13_pairs_1 : decode cX13_pairs 1 = .ok (.istore_n 1, 1) := by decide +kernel
theorem dX13_pairs_2 : decode cX13_pairs 2 = .ok (.iload_n 1, 1) := by decide +kernel
theorem dX13_pairs_3 : decode cX13_pairs 3 = .ok (.iconst 2, 1) := by decide +kernel
theorem dX13_pairs_4 : decode cX13_pairs 4 = .ok (.aload_n 0, 1) := by decide +kernel
theorem dX13_pairs_5 : decode cX13_pairs 5 = .ok (.getfield 421, 3) := by decide +kernel
theorem dX13_pairs_8 : decode cX13_pairs 8 = .ok (.imul, 1) := by decide +kernel
theorem dX13_pairs_9 : decode cX13_pairs 9 = .ok (.if_icmp .ge 109, 3) := by decide +kernel
theorem dX13_pairs_12 : decode cX13_pairs 12 = .ok (.aload_n 0, 1) := by decide +kernel
theorem dX13_pairs_13 : decode cX13_pairs 13 = .ok (.getfield 173, 3) := by decide +kernel
theorem dX13_pairs_16 : decode cX13_pairs 16 = .ok (.iload_n 1, 1) := by decide +kernel
theorem dX13_pairs_17 : decode cX13_pairs 17 = .ok (.iconst (-1), 1) := by decide +kernel
theorem dX13_pairs_18 : decode cX13_pairs 18 = .ok (.iastore, 1) := by decide +kernel
theorem dX13_pairs_19 : decode cX13_pairs 19 = .ok (.iconst 1, 1) := by decide +kernel
theorem dX13_pairs_20 : decode cX13_pairs 20 = .ok (.istore_n 2, 1) := by decide +kernel
theorem dX13_pairs_21 : decode cX13_pairs 21 = .ok (.iload_n 2, 1) := by decide +kernel
theorem dX13_pairs_22 : decode cX13_pairs 22 = .ok (.iconst 2, 1) := by decide +kernel
theorem dX13_pairs_23 : decode cX13_pairs 23 = .ok (.aload_n 0, 1) := by decide +kernel
theorem dX13_pairs_24 : decode cX13_pairs 24 = .ok (.getfield 421, 3) := by decide +kernel
theorem dX13_pairs_27 : decode cX13_pairs 27 = .ok (.imul, 1) := by decide +kernel
theorem dX13_pairs_28 : decode cX13_pairs 28 = .ok (.if_icmp .ge 84, 3) := by decide +kernel
theorem dX13_pairs_31 : decode cX13_pairs 31 = .ok (.aload_n 0, 1) := by decide +kernel
theorem dX13_pairs_32 : decode cX13_pairs 32 = .ok (.getfield 173, 3) := by decide +kernel
theorem dX13_pairs_35 : decode cX13_pairs 35 = .ok (.iload_n 1, 1) := by decide +kernel
theorem dX13_pairs_36 : decode cX13_pairs 36 = .ok (.iaload, 1) := by decide +kernel
theorem dX13_pairs_37 : decode cX13_pairs 37 = .ok (.ifCond .ge 75, 3) := by decide +kernel
theorem dX13_pairs_40 : decode cX13_pairs 40 = .ok (.aload_n 0, 1) := by decide +kernel
theorem dX13_pairs_41 : decode cX13_pairs 41 = .ok (.getfield 146, 3) := by decide +kernel
theorem dX13_pairs_44 : decode cX13_pairs 44 = .ok (.iload_n 1, 1) := by decide +kernel
theorem dX13_pairs_45 : decode cX13_pairs 45 = .ok (.iaload, 1) := by decide +kernel
theorem dX13_pairs_46 : decode cX13_pairs 46 = .ok (.ifCond .le 66, 3) := by decide +kernel
theorem dX13_pairs_49 : decode cX13_pairs 49 = .ok (.aload_n 0, 1) := by decide +kernel
theorem dX13_pairs_50 : decode cX13_pairs 50 = .ok (.getfield 146, 3) := by decide +kernel
theorem dX13_pairs_53 : decode cX13_pairs 53 = .ok (.iload_n 1, 1) := by decide +kernel
theorem dX13_pairs_54 : decode cX13_pairs 54 = .ok (.iaload, 1) := by decide +kernel
theorem dX13_pairs_55 : decode cX13_pairs 55 = .ok (.aload_n 0, 1) := by decide +kernel
theorem dX13_pairs_56 : decode cX13_pairs 56 = .ok (.getfield 33, 3) := by decide +kernel
theorem dX13_pairs_59 : decode cX13_pairs 59 = .ok (.bipush 8, 2) := by decide +kernel
theorem dX13_pairs_61 : decode cX13_pairs 61 = .ok (.iaload, 1) := by decide +kernel
theorem dX13_pairs_62 : decode cX13_pairs 62 = .ok (.if_icmp .lt 50, 3) := by decide +kernel
theorem dX13_pairs_65 : decode cX13_pairs 65 = .ok (.aload_n 0, 1) := by decide +kernel
theorem dX13_pairs_66 : decode cX13_pairs 66 = .ok (.getfield 161, 3) := by decide +kernel
theorem dX13_pairs_69 : decode cX13_pairs 69 = .ok (.iload_n 2, 1) := by decide +kernel
theorem dX13_pairs_70 : decode cX13_pairs 70 = .ok (.baload, 1) := by decide +kernel
theorem dX13_pairs_71 : decode cX13_pairs 71 = .ok (.ifCond .ne 35, 3) := by decide +kernel
theorem dX13_pairs_74 : decode cX13_pairs 74 = .ok (.aload_n 0, 1) := by decide +kernel
theorem dX13_pairs_75 : decode cX13_pairs 75 = .ok (.getfield 146, 3) := by decide +kernel
theorem dX13_pairs_78 : decode cX13_pairs 78 = .ok (.iload_n 2, 1) := by decide +kernel
theorem dX13_pairs_79 : decode cX13_pairs 79 = .ok (.iaload, 1) := by decide +kernel
theorem dX13_pairs_80 : decode cX13_pairs 80 = .ok (.ifCond .le 26, 3) := by decide +kernel
theorem dX13_pairs_83 : decode cX13_pairs 83 = .ok (.aload_n 0, 1) := by decide +kernel
theorem dX13_pairs_84 : decode cX13_pairs 84 = .ok (.iload_n 1, 1) := by decide +kernel
theorem dX13_pairs_85 : decode cX13_pairs 85 = .ok (.iload_n 2, 1) := by decide +kernel
theorem dX13_pairs_86 : decode cX13_pairs 86 = .ok (.invokevirtual 461, 3) := by decide +kernel
theorem dX13_pairs_89 : decode cX13_pairs 89 = .ok (.ifCond .eq 17, 3) := by decide +kernel
theorem dX13_pairs_92 : decode cX13_pairs 92 = .ok (.aload_n 0, 1) := by decide +kernel
theorem dX13_pairs_93 : decode cX13_pairs 93 = .ok (.getfield 173, 3) := by decide +kernel
theorem dX13_pairs_96 : decode cX13_pairs 96 = .ok (.iload_n 1, 1) := by decide +kernel
theorem dX13_pairs_97 : decode cX13_pairs 97 = .ok (.iload_n 2, 1) := by decide +kernel
theorem dX13_pairs_98 : decode cX13_pairs 98 = .ok (.iastore, 1) := by decide +kernel
theorem dX13_pairs_99 : decode cX13_pairs 99 = .ok (.aload_n 0, 1) := by decide +kernel
theorem dX13_pairs_100 : decode cX13_pairs 100 = .ok (.getfield 161, 3) := by decide +kernel
theorem dX13_pairs_103 : decode cX13_pairs 103 = .ok (.iload_n 2, 1) := by decide +kernel
theorem dX13_pairs_104 : decode cX13_pairs 104 = .ok (.iconst 1, 1) := by decide +kernel
theorem dX13_pairs_105 : decode cX13_pairs 105 = .ok (.bastore, 1) := by decide +kernel
theorem dX13_pairs_106 : decode cX13_pairs 106 = .ok (.iinc 2 2, 3) := by decide +kernel
theorem dX13_pairs_109 : decode cX13_pairs 109 = .ok (.goto (-88), 3) := by decide +kernel
theorem dX13_pairs_112 : decode cX13_pairs 112 = .ok (.iinc 1 2, 3) := by decide +kernel
theorem dX13_pairs_115 : decode cX13_pairs 115 = .ok (.goto (-113), 3) := by decide +kernel
theorem dX13_pairs_118 : decode cX13_pairs 118 = .ok (.return_, 1) := by decide +kernel
theorem dX13_areAlike_0 : decode cX13_areAlike 0 = .ok (.aload_n 0, 1) := by decide +kernel
theorem dX13_areAlike_1 : decode cX13_areAlike 1 = .ok (.getfield 146, 3) := by decide +kernel
theorem dX13_areAlike_4 : decode cX13_areAlike 4 = .ok (.iload_n 1, 1) := by decide +kernel
theorem dX13_areAlike_5 : decode cX13_areAlike 5 = .ok (.iaload, 1) := by decide +kernel
theorem dX13_areAlike_6 : decode cX13_areAlike 6 = .ok (.aload_n 0, 1) := by decide +kernel
theorem dX13_areAlike_7 : decode cX13_areAlike 7 = .ok (.getfield 146, 3) := by decide +kernel
theorem dX13_areAlike_10 : decode cX13_areAlike 10 = .ok (.iload_n 2, 1) := by decide +kernel
theorem dX13_areAlike_11 : decode cX13_areAlike 11 = .ok (.iaload, 1) := by decide +kernel
theorem dX13_areAlike_12 : decode cX13_areAlike 12 = .ok (.if_icmp .ne 33, 3) := by decide +kernel
theorem dX13_areAlike_15 : decode cX13_areAlike 15 = .ok (.aload_n 0, 1) := by decide +kernel
theorem dX13_areAlike_16 : decode cX13_areAlike 16 = .ok (.iload_n 1, 1) := by decide +kernel
theorem dX13_areAlike_17 : decode cX13_areAlike 17 = .ok (.invokevirtual 452, 3) := by decide +kernel
theorem dX13_areAlike_20 : decode cX13_areAlike 20 = .ok (.aload_n 0, 1) := by decide +kernel
theorem dX13_areAlike_21 : decode cX13_areAlike 21 = .ok (.iload_n 2, 1) := by decide +kernel
theorem dX13_areAlike_22 : decode cX13_areAlike 22 = .ok (.invokevirtual 452, 3) := by decide +kernel
theorem dX13_areAlike_25 : decode cX13_areAlike 25 = .ok (.if_icmp .ne 20, 3) := by decide +kernel
theorem dX13_areAlike_28 : decode cX13_areAlike 28 = .ok (.aload_n 0, 1) := by decide +kernel
theorem dX13_areAlike_29 : decode cX13_areAlike 29 = .ok (.iload_n 1, 1) := by decide +kernel
theorem dX13_areAlike_30 : decode cX13_areAlike 30 = .ok (.invokevirtual 455, 3) := by decide +kernel
theorem dX13_areAlike_33 : decode cX13_areAlike 33 = .ok (.aload_n 0, 1) := by decide +kernel
theorem dX13_areAlike_34 : decode cX13_areAlike 34 = .ok (.iload_n 2, 1) := by decide +kernel
theorem dX13_areAlike_35 : decode cX13_areAlike 35 = .ok (.invokevirtual 455, 3) := by decide +kernel
theorem dX13_areAlike_38 : decode cX13_areAlike 38 = .ok (.if_icmp .ne 7, 3) := by decide +kernel
theorem dX13_areAlike_41 : decode cX13_areAlike 41 = .ok (.iconst 1, 1) := by decide +kernel
theorem dX13_areAlike_42 : decode cX13_areAlike 42 = .ok (.goto 4, 3) := by decide +kernel
theorem dX13_areAlike_45 : decode cX13_areAlike 45 = .ok (.iconst 0, 1) := by decide +kernel
theorem dX13_areAlike_46 : decode cX13_areAlike 46 = .ok (.istore_n 3, 1) := by decide +kernel
theorem dX13_areAlike_47 : decode cX13_areAlike 47 = .ok (.iconst 0, 1) := by decide +kernel
theorem dX13_areAlike_48 : decode cX13_areAlike 48 = .ok (.istore 4, 2) := by decide +kernel
theorem dX13_areAlike_50 : decode cX13_areAlike 50 = .ok (.iload 4, 2) := by decide +kernel
theorem dX13_areAlike_52 : decode cX13_areAlike 52 = .ok (.aload_n 0, 1) := by decide +kernel
theorem dX13_areAlike_53 : decode cX13_areAlike 53 = .ok (.iload_n 1, 1) := by decide +kernel
theorem dX13_areAlike_54 : decode cX13_areAlike 54 = .ok (.invokevirtual 455, 3) := by decide +kernel
theorem dX13_areAlike_57 : decode cX13_areAlike 57 = .ok (.if_icmp .ge 99, 3) := by decide +kernel
theorem dX13_areAlike_60 : decode cX13_areAlike 60 = .ok (.iload_n 3, 1) := by decide +kernel
theorem dX13_areAlike_61 : decode cX13_areAlike 61 = .ok (.ifCond .eq 95, 3) := by decide +kernel
theorem dX13_areAlike_64 : decode cX13_areAlike 64 = .ok (.iconst 0, 1) := by decide +kernel
theorem dX13_areAlike_65 : decode cX13_areAlike 65 = .ok (.istore 5, 2) := by decide +kernel
theorem dX13_areAlike_67 : decode cX13_areAlike 67 = .ok (.iload 5, 2) := by decide +kernel
theorem dX13_areAlike_69 : decode cX13_areAlike 69 = .ok (.aload_n 0, 1) := by decide +kernel
theorem dX13_areAlike_70 : decode cX13_areAlike 70 = .ok (.iload_n 1, 1) := by decide +kernel
theorem dX13_areAlike_71 : decode cX13_areAlike 71 = .ok (.invokevirtual 452, 3) := by decide +kernel
theorem dX13_areAlike_74 : decode cX13_areAlike 74 = .ok (.if_icmp .ge 76, 3) := by decide +kernel
theorem dX13_areAlike_77 : decode cX13_areAlike 77 = .ok (.iload_n 3, 1) := by decide +kernel
theorem dX13_areAlike_78 : decode cX13_areAlike 78 = .ok (.ifCond .eq 72, 3) := by decide +kernel
theorem dX13_areAlike_81 : decode cX13_areAlike 81 = .ok (.aload_n 0, 1) := by decide +kernel
theorem dX13_areAlike_82 : decode cX13_areAlike 82 = .ok (.iload_n 1, 1) := by decide +kernel
theorem dX13_areAlike_83 : decode cX13_areAlike 83 = .ok (.bipush 64, 2) := by decide +kernel
theorem dX13_areAlike_85 : decode cX13_areAlike 85 = .ok (.aload_n 0, 1) := by decide +kernel
theorem dX13_areAlike_86 : decode cX13_areAlike 86 = .ok (.getfield 152, 3) := by decide +kernel
theorem dX13_areAlike_89 : decode cX13_areAlike 89 = .ok (.iload_n 1, 1) := by decide +kernel
theorem dX13_areAlike_90 : decode cX13_areAlike 90 = .ok (.iaload, 1) := by decide +kernel
theorem dX13_areAlike_91 : decode cX13_areAlike 91 = .ok (.iload 4, 2) := by decide +kernel
theorem dX13_areAlike_93 : decode cX13_areAlike 93 = .ok (.iadd, 1) := by decide +kernel
theorem dX13_areAlike_94 : decode cX13_areAlike 94 = .ok (.imul, 1) := by decide +kernel
theorem dX13_areAlike_95 : decode cX13_areAlike 95 = .ok (.aload_n 0, 1) := by decide +kernel
theorem dX13_areAlike_96 : decode cX13_areAlike 96 = .ok (.getfield 149, 3) := by decide +kernel
theorem dX13_areAlike_99 : decode cX13_areAlike 99 = .ok (.iload_n 1, 1) := by decide +kernel
theorem dX13_areAlike_100 : decode cX13_areAlike 100 = .ok (.iaload, 1) := by decide +kernel
theorem dX13_areAlike_101 : decode cX13_areAlike 101 = .ok (.iadd, 1) := by decide +kernel
theorem dX13_areAlike_102 : decode cX13_areAlike 102 = .ok (.iload 5, 2) := by decide +kernel
theorem dX13_areAlike_104 : decode cX13_areAlike 104 = .ok (.iadd, 1) := by decide +kernel
theorem dX13_areAlike_105 : decode cX13_areAlike 105 = .ok (.invokevirtual 449, 3) := by decide +kernel
theorem dX13_areAlike_108 : decode cX13_areAlike 108 = .ok (.aload_n 0, 1) := by decide +kernel
theorem dX13_areAlike_109 : decode cX13_areAlike 109 = .ok (.iload_n 2, 1) := by decide +kernel
theorem dX13_areAlike_110 : decode cX13_areAlike 110 = .ok (.bipush 64, 2) := by decide +kernel
theorem dX13_areAlike_112 : decode cX13_areAlike 112 = .ok (.aload_n 0, 1) := by decide +kernel
theorem dX13_areAlike_113 : decode cX13_areAlike 113 = .ok (.getfield 152, 3) := by decide +kernel
theorem dX13_areAlike_116 : decode cX13_areAlike 116 = .ok (.iload_n 2, 1) := by decide +kernel
theorem dX13_areAlike_117 : decode cX13_areAlike 117 = .ok (.iaload, 1) := by decide +kernel
theorem dX13_areAlike_118 : decode cX13_areAlike 118 = .ok (.iload 4, 2) := by decide +kernel
theorem dX13_areAlike_120 : decode cX13_areAlike 120 = .ok (.iadd, 1) := by decide +kernel
theorem dX13_areAlike_121 : decode cX13_areAlike 121 = .ok (.imul, 1) := by decide +kernel
theorem dX13_areAlike_122 : decode cX13_areAlike 122 = .ok (.aload_n 0, 1) := by decide +kernel
theorem dX13_areAlike_123 : decode cX13_areAlike 123 = .ok (.getfield 149, 3) := by decide +kernel
theorem dX13_areAlike_126 : decode cX13_areAlike 126 = .ok (.iload_n 2, 1) := by decide +kernel
theorem dX13_areAlike_127 : decode cX13_areAlike 127 = .ok (.iaload, 1) := by decide +kernel
theorem dX13_areAlike_128 : decode cX13_areAlike 128 = .ok (.iadd, 1) := by decide +kernel
theorem dX13_areAlike_129 : decode cX13_areAlike 129 = .ok (.iload 5, 2) := by decide +kernel
theorem dX13_areAlike_131 : decode cX13_areAlike 131 = .ok (.iadd, 1) := by decide +kernel
theorem dX13_areAlike_132 : decode cX13_areAlike 132 = .ok (.invokevirtual 449, 3) := by decide +kernel
theorem dX13_areAlike_135 : decode cX13_areAlike 135 = .ok (.if_icmp .ne 7, 3) := by decide +kernel
theorem dX13_areAlike_138 : decode cX13_areAlike 138 = .ok (.iconst 1, 1) := by decide +kernel
theorem dX13_areAlike_139 : decode cX13_areAlike 139 = .ok (.goto 4, 3) := by decide +kernel
theorem dX13_areAlike_142 : decode cX13_areAlike 142 = .ok (.iconst 0, 1) := by decide +kernel
theorem dX13_areAlike_143 : decode cX13_areAlike 143 = .ok (.istore_n 3, 1) := by decide +kernel
theorem dX13_areAlike_144 : decode cX13_areAlike 144 = .ok (.iinc 5 1, 3) := by decide +kernel
theorem dX13_areAlike_147 : decode cX13_areAlike 147 = .ok (.goto (-80), 3) := by decide +kernel
theorem dX13_areAlike_150 : decode cX13_areAlike 150 = .ok (.iinc 4 1, 3) := by decide +kernel
theorem dX13_areAlike_153 : decode cX13_areAlike 153 = .ok (.goto (-103), 3) := by decide +kernel
theorem dX13_areAlike_156 : decode cX13_areAlike 156 = .ok (.iload_n 3, 1) := by decide +kernel
theorem dX13_areAlike_157 : decode cX13_areAlike 157 = .ok (.ireturn, 1) := by decide +kernel
theorem dX13_widthOf_0 : decode cX13_widthOf 0 = .ok (.aload_n 0, 1) := by decide +kernel
theorem dX13_widthOf_1 : decode cX13_widthOf 1 = .ok (.getfield 155, 3) := by decide +kernel
theorem dX13_widthOf_4 : decode cX13_widthOf 4 = .ok (.iload_n 1, 1) := by decide +kernel
theorem dX13_widthOf_5 : decode cX13_widthOf 5 = .ok (.iaload, 1) := by decide +kernel
theorem dX13_widthOf_6 : decode cX13_widthOf 6 = .ok (.aload_n 0, 1) := by decide +kernel
theorem dX13_widthOf_7 : decode cX13_widthOf 7 = .ok (.getfield 149, 3) := by decide +kernel
theorem dX13_widthOf_10 : decode cX13_widthOf 10 = .ok (.iload_n 1, 1) := by decide +kernel
theorem dX13_widthOf_11 : decode cX13_widthOf 11 = .ok (.iaload, 1) := by decide +kernel
theorem dX13_widthOf_12 : decode cX13_widthOf 12 = .ok (.isub, 1) := by decide +kernel
theorem dX13_widthOf_13 : decode cX13_widthOf 13 = .ok (.iconst 1, 1) := by decide +kernel
theorem dX13_widthOf_14 : decode cX13_widthOf 14 = .ok (.iadd, 1) := by decide +kernel
theorem dX13_widthOf_15 : decode cX13_widthOf 15 = .ok (.ireturn, 1) := by decide +kernel
theorem dX13_heightOf_0 : decode cX13_heightOf 0 = .ok (.aload_n 0, 1) := by decide +kernel
theorem dX13_heightOf_1 : decode cX13_heightOf 1 = .ok (.getfield 158, 3) := by decide +kernel
theorem dX13_heightOf_4 : decode cX13_heightOf 4 = .ok (.iload_n 1, 1) := by decide +kernel
theorem dX13_heightOf_5 : decode cX13_heightOf 5 = .ok (.iaload, 1) := by decide +kernel
theorem dX13_heightOf_6 : decode cX13_heightOf 6 = .ok (.aload_n 0, 1) := by decide +kernel
theorem dX13_heightOf_7 : decode cX13_heightOf 7 = .ok (.getfield 152, 3) := by decide +kernel
theorem dX13_heightOf_10 : decode cX13_heightOf 10 = .ok (.iload_n 1, 1) := by decide +kernel
theorem dX13_heightOf_11 : decode cX13_heightOf 11 = .ok (.iaload, 1) := by decide +kernel
theorem dX13_heightOf_12 : decode cX13_heightOf 12 = .ok (.isub, 1) := by decide +kernel
theorem dX13_heightOf_13 : decode cX13_heightOf 13 = .ok (.iconst 1, 1) := by decide +kernel
theorem dX13_heightOf_14 : decode cX13_heightOf 14 = .ok (.iadd, 1) := by decide +kernel
theorem dX13_heightOf_15 : decode cX13_heightOf 15 = .ok (.ireturn, 1) := by decide +kernel
theorem dX13_lists_0 : decode cX13_lists 0 = .ok (.iload_n 2, 1) := by decide +kernel
theorem dX13_lists_1 : decode cX13_lists 1 = .ok (.ifCond .ge 23, 3) := by decide +kernel
theorem dX13_lists_4 : decode cX13_lists 4 = .ok (.aload_n 0, 1) := by decide +kernel
theorem dX13_lists_5 : decode cX13_lists 5 = .ok (.getfield 33, 3) := by decide +kernel
theorem dX13_lists_8 : decode cX13_lists 8 = .ok (.bipush 9, 2) := by decide +kernel
theorem dX13_lists_10 : decode cX13_lists 10 = .ok (.iaload, 1) := by decide +kernel
theorem dX13_lists_11 : decode cX13_lists 11 = .ok (.iconst 1, 1) := by decide +kernel
theorem dX13_lists_12 : decode cX13_lists 12 = .ok (.if_icmp .ne 12, 3) := by decide +kernel
theorem dX13_lists_15 : decode cX13_lists 15 = .ok (.aload_n 0, 1) := by decide +kernel
theorem dX13_lists_16 : decode cX13_lists 16 = .ok (.iload_n 1, 1) := by decide +kernel
theorem dX13_lists_17 : decode cX13_lists 17 = .ok (.invokevirtual 464, 3) := by decide +kernel
theorem dX13_lists_20 : decode cX13_lists 20 = .ok (.ifCond .lt 4, 3) := by decide +kernel
theorem dX13_lists_23 : decode cX13_lists 23 = .ok (.return_, 1) := by decide +kernel
theorem dX13_lists_24 : decode cX13_lists 24 = .ok (.aload_n 0, 1) := by decide +kernel
theorem dX13_lists_25 : decode cX13_lists 25 = .ok (.getfield 164, 3) := by decide +kernel
theorem dX13_lists_28 : decode cX13_lists 28 = .ok (.aload_n 0, 1) := by decide +kernel
theorem dX13_lists_29 : decode cX13_lists 29 = .ok (.getfield 467, 3) := by decide +kernel
theorem dX13_lists_32 : decode cX13_lists 32 = .ok (.iload_n 1, 1) := by decide +kernel
theorem dX13_lists_33 : decode cX13_lists 33 = .ok (.iastore, 1) := by decide +kernel
theorem dX13_lists_34 : decode cX13_lists 34 = .ok (.aload_n 0, 1) := by decide +kernel
theorem dX13_lists_35 : decode cX13_lists 35 = .ok (.getfield 167, 3) := by decide +kernel
theorem dX13_lists_38 : decode cX13_lists 38 = .ok (.aload_n 0, 1) := by decide +kernel
theorem dX13_lists_39 : decode cX13_lists 39 = .ok (.getfield 467, 3) := by decide +kernel
theorem dX13_lists_42 : decode cX13_lists 42 = .ok (.iload_n 2, 1) := by decide +kernel
theorem dX13_lists_43 : decode cX13_lists 43 = .ok (.iastore, 1) := by decide +kernel
theorem dX13_lists_44 : decode cX13_lists 44 = .ok (.aload_n 0, 1) := by decide +kernel
theorem dX13_lists_45 : decode cX13_lists 45 = .ok (.getfield 170, 3) := by decide +kernel
theorem dX13_lists_48 : decode cX13_lists 48 = .ok (.aload_n 0, 1) := by decide +kernel
theorem dX13_lists_49 : decode cX13_lists 49 = .ok (.getfield 467, 3) := by decide +kernel
theorem dX13_lists_52 : decode cX13_lists 52 = .ok (.aload_n 0, 1) := by decide +kernel
theorem dX13_lists_53 : decode cX13_lists 53 = .ok (.iload_n 1, 1) := by decide +kernel
theorem dX13_lists_54 : decode cX13_lists 54 = .ok (.iconst 2, 1) := by decide +kernel
theorem dX13_lists_55 : decode cX13_lists 55 = .ok (.irem, 1) := by decide +kernel
theorem dX13_lists_56 : decode cX13_lists 56 = .ok (.ifCond .ne 10, 3) := by decide +kernel
theorem dX13_lists_59 : decode cX13_lists 59 = .ok (.aload_n 0, 1) := by decide +kernel
theorem dX13_lists_60 : decode cX13_lists 60 = .ok (.getfield 83, 3) := by decide +kernel
theorem dX13_lists_63 : decode cX13_lists 63 = .ok (.goto 7, 3) := by decide +kernel
theorem dX13_lists_66 : decode cX13_lists 66 = .ok (.aload_n 0, 1) := by decide +kernel
theorem dX13_lists_67 : decode cX13_lists 67 = .ok (.getfield 92, 3) := by decide +kernel
theorem dX13_lists_70 : decode cX13_lists 70 = .ok (.iconst 0, 1) := by decide +kernel
theorem dX13_lists_71 : decode cX13_lists 71 = .ok (.aload_n 0, 1) := by decide +kernel
theorem dX13_lists_72 : decode cX13_lists 72 = .ok (.getfield 152, 3) := by decide +kernel
theorem dX13_lists_75 : decode cX13_lists 75 = .ok (.iload_n 1, 1) := by decide +kernel
theorem dX13_lists_76 : decode cX13_lists 76 = .ok (.iaload, 1) := by decide +kernel
theorem dX13_lists_77 : decode cX13_lists 77 = .ok (.invokevirtual 253, 3) := by decide +kernel
theorem dX13_lists_80 : decode cX13_lists 80 = .ok (.iconst 1, 1) := by decide +kernel
theorem dX13_lists_81 : decode cX13_lists 81 = .ok (.isub, 1) := by decide +kernel
theorem dX13_lists_82 : decode cX13_lists 82 = .ok (.iastore, 1) := by decide +kernel
theorem dX13_lists_83 : decode cX13_lists 83 = .ok (.aload_n 0, 1) := by decide +kernel
theorem dX13_lists_84 : decode cX13_lists 84 = .ok (.dup, 1) := by decide +kernel
theorem dX13_lists_85 : decode cX13_lists 85 = .ok (.getfield 467, 3) := by decide +kernel
theorem dX13_lists_88 : decode cX13_lists 88 = .ok (.iconst 1, 1) := by decide +kernel
theorem dX13_lists_89 : decode cX13_lists 89 = .ok (.iadd, 1) := by decide +kernel
theorem dX13_lists_90 : decode cX13_lists 90 = .ok (.putfield 467, 3) := by decide +kernel
theorem dX13_lists_93 : decode cX13_lists 93 = .ok (.return_, 1) := by decide +kernel
theorem dX13_stampFor_0 : decode cX13_stampFor 0 = .ok (.iconst 0, 1) := by decide +kernel
theorem dX13_stampFor_1 : decode cX13_stampFor 1 = .ok (.istore_n 2, 1) := by decide +kernel
theorem dX13_stampFor_2 : decode cX13_stampFor 2 = .ok (.iload_n 2, 1) := by decide +kernel
theorem dX13_stampFor_3 : decode cX13_stampFor 3 = .ok (.aload_n 0, 1) := by decide +kernel
theorem dX13_stampFor_4 : decode cX13_stampFor 4 = .ok (.getfield 458, 3) := by decide +kernel
theorem dX13_stampFor_7 : decode cX13_stampFor 7 = .ok (.if_icmp .ge 150, 3) := by decide +kernel
theorem dX13_stampFor_10 : decode cX13_stampFor 10 = .ok (.aload_n 0, 1) := by decide +kernel
theorem dX13_stampFor_11 : decode cX13_stampFor 11 = .ok (.getfield 77, 3) := by decide +kernel
theorem dX13_stampFor_14 : decode cX13_stampFor 14 = .ok (.iload_n 2, 1) := by decide +kernel
theorem dX13_stampFor_15 : decode cX13_stampFor 15 = .ok (.iaload, 1) := by decide +kernel
theorem dX13_stampFor_16 : decode cX13_stampFor 16 = .ok (.aload_n 0, 1) := by decide +kernel
theorem dX13_stampFor_17 : decode cX13_stampFor 17 = .ok (.iload_n 1, 1) := by decide +kernel
theorem dX13_stampFor_18 : decode cX13_stampFor 18 = .ok (.invokevirtual 452, 3) := by decide +kernel
theorem dX13_stampFor_21 : decode cX13_stampFor 21 = .ok (.if_icmp .ne 21, 3) := by decide +kernel
theorem dX13_stampFor_24 : decode cX13_stampFor 24 = .ok (.aload_n 0, 1) := by decide +kernel
theorem dX13_stampFor_25 : decode cX13_stampFor 25 = .ok (.getfield 80, 3) := by decide +kernel
theorem dX13_stampFor_28 : decode cX13_stampFor 28 = .ok (.iload_n 2, 1) := by decide +kernel
theorem dX13_stampFor_29 : decode cX13_stampFor 29 = .ok (.iaload, 1) := by decide +kernel
theorem dX13_stampFor_30 : decode cX13_stampFor 30 = .ok (.aload_n 0, 1) := by decide +kernel
theorem dX13_stampFor_31 : decode cX13_stampFor 31 = .ok (.iload_n 1, 1) := by decide +kernel
theorem dX13_stampFor_32 : decode cX13_stampFor 32 = .ok (.invokevirtual 455, 3) := by decide +kernel
theorem dX13_stampFor_35 : decode cX13_stampFor 35 = .ok (.if_icmp .ne 7, 3) := by decide +kernel
theorem dX13_stampFor_38 : decode cX13_stampFor 38 = .ok (.iconst 1, 1) := by decide +kernel
theorem dX13_stampFor_39 : decode cX13_stampFor 39 = .ok (.goto 4, 3) := by decide +kernel
theorem dX13_stampFor_42 : decode cX13_stampFor 42 = .ok (.iconst 0, 1) := by decide +kernel
theorem dX13_stampFor_43 : decode cX13_stampFor 43 = .ok (.istore_n 3, 1) := by decide +kernel
theorem dX13_stampFor_44 : decode cX13_stampFor 44 = .ok (.iconst 0, 1) := by decide +kernel
theorem dX13_stampFor_45 : decode cX13_stampFor 45 = .ok (.istore 4, 2) := by decide +kernel
theorem dX13_stampFor_47 : decode cX13_stampFor 47 = .ok (.iload 4, 2) := by decide +kernel
theorem dX13_stampFor_49 : decode cX13_stampFor 49 = .ok (.aload_n 0, 1) := by decide +kernel
theorem dX13_stampFor_50 : decode cX13_stampFor 50 = .ok (.iload_n 1, 1) := by decide +kernel
theorem dX13_stampFor_51 : decode cX13_stampFor 51 = .ok (.invokevirtual 455, 3) := by decide +kernel
theorem dX13_stampFor_54 : decode cX13_stampFor 54 = .ok (.if_icmp .ge 91, 3) := by decide +kernel
theorem dX13_stampFor_57 : decode cX13_stampFor 57 = .ok (.iload_n 3, 1) := by decide +kernel
theorem dX13_stampFor_58 : decode cX13_stampFor 58 = .ok (.ifCond .eq 87, 3) := by decide +kernel
theorem dX13_stampFor_61 : decode cX13_stampFor 61 = .ok (.iconst 0, 1) := by decide +kernel
theorem dX13_stampFor_62 : decode cX13_stampFor 62 = .ok (.istore 5, 2) := by decide +kernel
theorem dX13_stampFor_64 : decode cX13_stampFor 64 = .ok (.iload 5, 2) := by decide +kernel
theorem dX13_stampFor_66 : decode cX13_stampFor 66 = .ok (.aload_n 0, 1) := by decide +kernel
theorem dX13_stampFor_67 : decode cX13_stampFor 67 = .ok (.iload_n 1, 1) := by decide +kernel
theorem dX13_stampFor_68 : decode cX13_stampFor 68 = .ok (.invokevirtual 452, 3) := by decide +kernel
theorem dX13_stampFor_71 : decode cX13_stampFor 71 = .ok (.if_icmp .ge 68, 3) := by decide +kernel
theorem dX13_stampFor_74 : decode cX13_stampFor 74 = .ok (.iload_n 3, 1) := by decide +kernel
theorem dX13_stampFor_75 : decode cX13_stampFor 75 = .ok (.ifCond .eq 64, 3) := by decide +kernel
theorem dX13_stampFor_78 : decode cX13_stampFor 78 = .ok (.aload_n 0, 1) := by decide +kernel
theorem dX13_stampFor_79 : decode cX13_stampFor 79 = .ok (.getfield 74, 3) := by decide +kernel
theorem dX13_stampFor_82 : decode cX13_stampFor 82 = .ok (.sipush 4096, 3) := by decide +kernel
theorem dX13_stampFor_85 : decode cX13_stampFor 85 = .ok (.iload_n 2, 1) := by decide +kernel
theorem dX13_stampFor_86 : decode cX13_stampFor 86 = .ok (.imul, 1) := by decide +kernel
theorem dX13_stampFor_87 : decode cX13_stampFor 87 = .ok (.bipush 64, 2) := by decide +kernel
theorem dX13_stampFor_89 : decode cX13_stampFor 89 = .ok (.iload 4, 2) := by decide +kernel
theorem dX13_stampFor_91 : decode cX13_stampFor 91 = .ok (.imul, 1) := by decide +kernel
theorem dX13_stampFor_92 : decode cX13_stampFor 92 = .ok (.iadd, 1) := by decide +kernel
theorem dX13_stampFor_93 : decode cX13_stampFor 93 = .ok (.iload 5, 2) := by decide +kernel
theorem dX13_stampFor_95 : decode cX13_stampFor 95 = .ok (.iadd, 1) := by decide +kernel
theorem dX13_stampFor_96 : decode cX13_stampFor 96 = .ok (.baload, 1) := by decide +kernel
theorem dX13_stampFor_97 : decode cX13_stampFor 97 = .ok (.aload_n 0, 1) := by decide +kernel
theorem dX13_stampFor_98 : decode cX13_stampFor 98 = .ok (.iload_n 1, 1) := by decide +kernel
theorem dX13_stampFor_99 : decode cX13_stampFor 99 = .ok (.bipush 64, 2) := by decide +kernel
theorem dX13_stampFor_101 : decode cX13_stampFor 101 = .ok (.aload_n 0, 1) := by decide +kernel
theorem dX13_stampFor_102 : decode cX13_stampFor 102 = .ok (.getfield 152, 3) := by decide +kernel
theorem dX13_stampFor_105 : decode cX13_stampFor 105 = .ok (.iload_n 1, 1) := by decide +kernel
theorem dX13_stampFor_106 : decode cX13_stampFor 106 = .ok (.iaload, 1) := by decide +kernel
theorem dX13_stampFor_107 : decode cX13_stampFor 107 = .ok (.iload 4, 2) := by decide +kernel
theorem dX13_stampFor_109 : decode cX13_stampFor 109 = .ok (.iadd, 1) := by decide +kernel
theorem dX13_stampFor_110 : decode cX13_stampFor 110 = .ok (.imul, 1) := by decide +kernel
theorem dX13_stampFor_111 : decode cX13_stampFor 111 = .ok (.aload_n 0, 1) := by decide +kernel
theorem dX13_stampFor_112 : decode cX13_stampFor 112 = .ok (.getfield 149, 3) := by decide +kernel
theorem dX13_stampFor_115 : decode cX13_stampFor 115 = .ok (.iload_n 1, 1) := by decide +kernel
theorem dX13_stampFor_116 : decode cX13_stampFor 116 = .ok (.iaload, 1) := by decide +kernel
theorem dX13_stampFor_117 : decode cX13_stampFor 117 = .ok (.iadd, 1) := by decide +kernel
theorem dX13_stampFor_118 : decode cX13_stampFor 118 = .ok (.iload 5, 2) := by decide +kernel
theorem dX13_stampFor_120 : decode cX13_stampFor 120 = .ok (.iadd, 1) := by decide +kernel
theorem dX13_stampFor_121 : decode cX13_stampFor 121 = .ok (.invokevirtual 449, 3) := by decide +kernel
theorem dX13_stampFor_124 : decode cX13_stampFor 124 = .ok (.if_icmp .ne 7, 3) := by decide +kernel
theorem dX13_stampFor_127 : decode cX13_stampFor 127 = .ok (.iconst 1, 1) := by decide +kernel
theorem dX13_stampFor_128 : decode cX13_stampFor 128 = .ok (.goto 4, 3) := by decide +kernel
theorem dX13_stampFor_131 : decode cX13_stampFor 131 = .ok (.iconst 0, 1) := by decide +kernel
theorem dX13_stampFor_132 : decode cX13_stampFor 132 = .ok (.istore_n 3, 1) := by decide +kernel
theorem dX13_stampFor_133 : decode cX13_stampFor 133 = .ok (.iinc 5 1, 3) := by decide +kernel
theorem dX13_stampFor_136 : decode cX13_stampFor 136 = .ok (.goto (-72), 3) := by decide +kernel
theorem dX13_stampFor_139 : decode cX13_stampFor 139 = .ok (.iinc 4 1, 3) := by decide +kernel
theorem dX13_stampFor_142 : decode cX13_stampFor 142 = .ok (.goto (-95), 3) := by decide +kernel
theorem dX13_stampFor_145 : decode cX13_stampFor 145 = .ok (.iload_n 3, 1) := by decide +kernel
theorem dX13_stampFor_146 : decode cX13_stampFor 146 = .ok (.ifCond .eq 5, 3) := by decide +kernel
theorem dX13_stampFor_149 : decode cX13_stampFor 149 = .ok (.iload_n 2, 1) := by decide +kernel
theorem dX13_stampFor_150 : decode cX13_stampFor 150 = .ok (.ireturn, 1) := by decide +kernel
theorem dX13_stampFor_151 : decode cX13_stampFor 151 = .ok (.iinc 2 1, 3) := by decide +kernel
theorem dX13_stampFor_154 : decode cX13_stampFor 154 = .ok (.goto (-152), 3) := by decide +kernel
theorem dX13_stampFor_157 : decode cX13_stampFor 157 = .ok (.iconst (-1), 1) := by decide +kernel
theorem dX13_stampFor_158 : decode cX13_stampFor 158 = .ok (.ireturn, 1) := by decide +kernel
theorem dX13_reports_0 : decode cX13_reports 0 = .ok (.aload_n 0, 1) := by decide +kernel
theorem dX13_reports_1 : decode cX13_reports 1 = .ok (.iconst 0, 1) := by decide +kernel
theorem dX13_reports_2 : decode cX13_reports 2 = .ok (.putfield 318, 3) := by decide +kernel
theorem dX13_reports_5 : decode cX13_reports 5 = .ok (.aload_n 0, 1) := by decide +kernel
theorem dX13_reports_6 : decode cX13_reports 6 = .ok (.aload_n 0, 1) := by decide +kernel
theorem dX13_reports_7 : decode cX13_reports 7 = .ok (.getfield 176, 3) := by decide +kernel
theorem dX13_reports_10 : decode cX13_reports 10 = .ok (.iconst 0, 1) := by decide +kernel
theorem dX13_reports_11 : decode cX13_reports 11 = .ok (.invokevirtual 324, 3) := by decide +kernel
theorem dX13_reports_14 : decode cX13_reports 14 = .ok (.aload_n 0, 1) := by decide +kernel
theorem dX13_reports_15 : decode cX13_reports 15 = .ok (.aload_n 0, 1) := by decide +kernel
theorem dX13_reports_16 : decode cX13_reports 16 = .ok (.getfield 378, 3) := by decide +kernel
theorem dX13_reports_19 : decode cX13_reports 19 = .ok (.bipush 44, 2) := by decide +kernel
theorem dX13_reports_21 : decode cX13_reports 21 = .ok (.aload_n 0, 1) := by decide +kernel
theorem dX13_reports_22 : decode cX13_reports 22 = .ok (.getfield 381, 3) := by decide +kernel
theorem dX13_reports_25 : decode cX13_reports 25 = .ok (.invokevirtual 477, 3) := by decide +kernel
theorem dX13_reports_28 : decode cX13_reports 28 = .ok (.aload_n 0, 1) := by decide +kernel
theorem dX13_reports_29 : decode cX13_reports 29 = .ok (.aload_n 0, 1) := by decide +kernel
theorem dX13_reports_30 : decode cX13_reports 30 = .ok (.getfield 176, 3) := by decide +kernel
theorem dX13_reports_33 : decode cX13_reports 33 = .ok (.iconst 1, 1) := by decide +kernel
theorem dX13_reports_34 : decode cX13_reports 34 = .ok (.invokevirtual 324, 3) := by decide +kernel
theorem dX13_reports_37 : decode cX13_reports 37 = .ok (.aload_n 0, 1) := by decide +kernel
theorem dX13_reports_38 : decode cX13_reports 38 = .ok (.aload_n 0, 1) := by decide +kernel
theorem dX13_reports_39 : decode cX13_reports 39 = .ok (.getfield 384, 3) := by decide +kernel
theorem dX13_reports_42 : decode cX13_reports 42 = .ok (.invokevirtual 328, 3) := by decide +kernel
theorem dX13_reports_45 : decode cX13_reports 45 = .ok (.aload_n 0, 1) := by decide +kernel
theorem dX13_reports_46 : decode cX13_reports 46 = .ok (.getfield 387, 3) := by decide +kernel
theorem dX13_reports_49 : decode cX13_reports 49 = .ok (.ifCond .eq 12, 3) := by decide +kernel
theorem dX13_reports_52 : decode cX13_reports 52 = .ok (.aload_n 0, 1) := by decide +kernel
theorem dX13_reports_53 : decode cX13_reports 53 = .ok (.aload_n 0, 1) := by decide +kernel
theorem dX13_reports_54 : decode cX13_reports 54 = .ok (.getfield 176, 3) := by decide +kernel
theorem dX13_reports_57 : decode cX13_reports 57 = .ok (.iconst 2, 1) := by decide +kernel
theorem dX13_reports_58 : decode cX13_reports 58 = .ok (.invokevirtual 324, 3) := by decide +kernel
theorem dX13_reports_61 : decode cX13_reports 61 = .ok (.aload_n 0, 1) := by decide +kernel
theorem dX13_reports_62 : decode cX13_reports 62 = .ok (.bipush 10, 2) := by decide +kernel
theorem dX13_reports_64 : decode cX13_reports 64 = .ok (.invokevirtual 321, 3) := by decide +kernel
theorem dX13_reports_67 : decode cX13_reports 67 = .ok (.aload_n 0, 1) := by decide +kernel
theorem dX13_reports_68 : decode cX13_reports 68 = .ok (.aload_n 0, 1) := by decide +kernel
theorem dX13_reports_69 : decode cX13_reports 69 = .ok (.getfield 467, 3) := by decide +kernel
theorem dX13_reports_72 : decode cX13_reports 72 = .ok (.invokevirtual 328, 3) := by decide +kernel
theorem dX13_reports_75 : decode cX13_reports 75 = .ok (.aload_n 0, 1) := by decide +kernel
theorem dX13_reports_76 : decode cX13_reports 76 = .ok (.aload_n 0, 1) := by decide +kernel
theorem dX13_reports_77 : decode cX13_reports 77 = .ok (.getfield 176, 3) := by decide +kernel
theorem dX13_reports_80 : decode cX13_reports 80 = .ok (.iconst 3, 1) := by decide +kernel
theorem dX13_reports_81 : decode cX13_reports 81 = .ok (.invokevirtual 324, 3) := by decide +kernel
theorem dX13_reports_84 : decode cX13_reports 84 = .ok (.aload_n 0, 1) := by decide +kernel
theorem dX13_reports_85 : decode cX13_reports 85 = .ok (.getfield 467, 3) := by decide +kernel
theorem dX13_reports_88 : decode cX13_reports 88 = .ok (.iconst 1, 1) := by decide +kernel
theorem dX13_reports_89 : decode cX13_reports 89 = .ok (.if_icmp .eq 9, 3) := by decide +kernel
theorem dX13_reports_92 : decode cX13_reports 92 = .ok (.aload_n 0, 1) := by decide +kernel
theorem dX13_reports_93 : decode cX13_reports 93 = .ok (.bipush 115, 2) := by decide +kernel
theorem dX13_reports_95 : decode cX13_reports 95 = .ok (.invokevirtual 321, 3) := by decide +kernel
theorem dX13_reports_98 : decode cX13_reports 98 = .ok (.aload_n 0, 1) := by decide +kernel
theorem dX13_reports_99 : decode cX13_reports 99 = .ok (.bipush 10, 2) := by decide +kernel
theorem dX13_reports_101 : decode cX13_reports 101 = .ok (.invokevirtual 321, 3) := by decide +kernel
theorem dX13_reports_104 : decode cX13_reports 104 = .ok (.iconst 0, 1) := by decide +kernel
theorem dX13_reports_105 : decode cX13_reports 105 = .ok (.istore_n 1, 1) := by decide +kernel
theorem dX13_reports_106 : decode cX13_reports 106 = .ok (.iload_n 1, 1) := by decide +kernel
theorem dX13_reports_107 : decode cX13_reports 107 = .ok (.aload_n 0, 1) := by decide +kernel
theorem dX13_reports_108 : decode cX13_reports 108 = .ok (.getfield 467, 3) := by decide +kernel
theorem dX13_reports_111 : decode cX13_reports 111 = .ok (.if_icmp .ge 25, 3) := by decide +kernel
theorem dX13_reports_114 : decode cX13_reports 114 = .ok (.aload_n 0, 1) := by decide +kernel
theorem dX13_reports_115 : decode cX13_reports 115 = .ok (.aload_n 0, 1) := by decide +kernel
theorem dX13_reports_116 : decode cX13_reports 116 = .ok (.getfield 164, 3) := by decide +kernel
theorem dX13_reports_119 : decode cX13_reports 119 = .ok (.iload_n 1, 1) := by decide +kernel
theorem dX13_reports_120 : decode cX13_reports 120 = .ok (.iaload, 1) := by decide +kernel
theorem dX13_reports_121 : decode cX13_reports 121 = .ok (.aload_n 0, 1) := by decide +kernel
theorem dX13_reports_122 : decode cX13_reports 122 = .ok (.getfield 167, 3) := by decide +kernel
theorem dX13_reports_125 : decode cX13_reports 125 = .ok (.iload_n 1, 1) := by decide +kernel
theorem dX13_reports_126 : decode cX13_reports 126 = .ok (.iaload, 1) := by decide +kernel
theorem dX13_reports_127 : decode cX13_reports 127 = .ok (.invokevirtual 481, 3) := by decide +kernel
theorem dX13_reports_130 : decode cX13_reports 130 = .ok (.iinc 1 1, 3) := by decide +kernel
theorem dX13_reports_133 : decode cX13_reports 133 = .ok (.goto (-27), 3) := by decide +kernel
theorem dX13_reports_136 : decode cX13_reports 136 = .ok (.return_, 1) := by decide +kernel
theorem dX13_tellsTwo_0 : decode cX13_tellsTwo 0 = .ok (.aload_n 0, 1) := by decide +kernel
theorem dX13_tellsTwo_1 : decode cX13_tellsTwo 1 = .ok (.iload_n 1, 1) := by decide +kernel
theorem dX13_tellsTwo_2 : decode cX13_tellsTwo 2 = .ok (.invokevirtual 328, 3) := by decide +kernel
theorem dX13_tellsTwo_5 : decode cX13_tellsTwo 5 = .ok (.aload_n 0, 1) := by decide +kernel
theorem dX13_tellsTwo_6 : decode cX13_tellsTwo 6 = .ok (.iload_n 2, 1) := by decide +kernel
theorem dX13_tellsTwo_7 : decode cX13_tellsTwo 7 = .ok (.invokevirtual 321, 3) := by decide +kernel
theorem dX13_tellsTwo_10 : decode cX13_tellsTwo 10 = .ok (.aload_n 0, 1) := by decide +kernel
theorem dX13_tellsTwo_11 : decode cX13_tellsTwo 11 = .ok (.iload_n 3, 1) := by decide +kernel
theorem dX13_tellsTwo_12 : decode cX13_tellsTwo 12 = .ok (.invokevirtual 328, 3) := by decide +kernel
theorem dX13_tellsTwo_15 : decode cX13_tellsTwo 15 = .ok (.return_, 1) := by decide +kernel
theorem dX13_reportsOne_0 : decode cX13_reportsOne 0 = .ok (.aload_n 0, 1) := by decide +kernel
theorem dX13_reportsOne_1 : decode cX13_reportsOne 1 = .ok (.aload_n 0, 1) := by decide +kernel
theorem dX13_reportsOne_2 : decode cX13_reportsOne 2 = .ok (.getfield 176, 3) := by decide +kernel
theorem dX13_reportsOne_5 : decode cX13_reportsOne 5 = .ok (.iload_n 2, 1) := by decide +kernel
theorem dX13_reportsOne_6 : decode cX13_reportsOne 6 = .ok (.ifCond .lt 8, 3) := by decide +kernel
theorem dX13_reportsOne_9 : decode cX13_reportsOne 9 = .ok (.bipush 6, 2) := by decide +kernel
theorem dX13_reportsOne_11 : decode cX13_reportsOne 11 = .ok (.goto 14, 3) := by decide +kernel
theorem dX13_reportsOne_14 : decode cX13_reportsOne 14 = .ok (.iload_n 1, 1) := by decide +kernel
theorem dX13_reportsOne_15 : decode cX13_reportsOne 15 = .ok (.iconst 2, 1) := by decide +kernel
theorem dX13_reportsOne_16 : decode cX13_reportsOne 16 = .ok (.irem, 1) := by decide +kernel
theorem dX13_reportsOne_17 : decode cX13_reportsOne 17 = .ok (.ifCond .ne 7, 3) := by decide +kernel
theorem dX13_reportsOne_20 : decode cX13_reportsOne 20 = .ok (.iconst 4, 1) := by decide +kernel
theorem dX13_reportsOne_21 : decode cX13_reportsOne 21 = .ok (.goto 4, 3) := by decide +kernel
theorem dX13_reportsOne_24 : decode cX13_reportsOne 24 = .ok (.iconst 5, 1) := by decide +kernel
theorem dX13_reportsOne_25 : decode cX13_reportsOne 25 = .ok (.invokevirtual 324, 3) := by decide +kernel
theorem dX13_reportsOne_28 : decode cX13_reportsOne 28 = .ok (.aload_n 0, 1) := by decide +kernel
theorem dX13_reportsOne_29 : decode cX13_reportsOne 29 = .ok (.aload_n 0, 1) := by decide +kernel
theorem dX13_reportsOne_30 : decode cX13_reportsOne 30 = .ok (.getfield 146, 3) := by decide +kernel
theorem dX13_reportsOne_33 : decode cX13_reportsOne 33 = .ok (.iload_n 1, 1) := by decide +kernel
theorem dX13_reportsOne_34 : decode cX13_reportsOne 34 = .ok (.iaload, 1) := by decide +kernel
theorem dX13_reportsOne_35 : decode cX13_reportsOne 35 = .ok (.invokevirtual 328, 3) := by decide +kernel
theorem dX13_reportsOne_38 : decode cX13_reportsOne 38 = .ok (.aload_n 0, 1) := by decide +kernel
theorem dX13_reportsOne_39 : decode cX13_reportsOne 39 = .ok (.aload_n 0, 1) := by decide +kernel
theorem dX13_reportsOne_40 : decode cX13_reportsOne 40 = .ok (.getfield 176, 3) := by decide +kernel
theorem dX13_reportsOne_43 : decode cX13_reportsOne 43 = .ok (.iload_n 2, 1) := by decide +kernel
theorem dX13_reportsOne_44 : decode cX13_reportsOne 44 = .ok (.ifCond .lt 8, 3) := by decide +kernel
theorem dX13_reportsOne_47 : decode cX13_reportsOne 47 = .ok (.bipush 9, 2) := by decide +kernel
theorem dX13_reportsOne_49 : decode cX13_reportsOne 49 = .ok (.goto 5, 3) := by decide +kernel
theorem dX13_reportsOne_52 : decode cX13_reportsOne 52 = .ok (.bipush 7, 2) := by decide +kernel
theorem dX13_reportsOne_54 : decode cX13_reportsOne 54 = .ok (.invokevirtual 324, 3) := by decide +kernel
theorem dX13_reportsOne_57 : decode cX13_reportsOne 57 = .ok (.aload_n 0, 1) := by decide +kernel
theorem dX13_reportsOne_58 : decode cX13_reportsOne 58 = .ok (.aload_n 0, 1) := by decide +kernel
theorem dX13_reportsOne_59 : decode cX13_reportsOne 59 = .ok (.getfield 149, 3) := by decide +kernel
theorem dX13_reportsOne_62 : decode cX13_reportsOne 62 = .ok (.iload_n 1, 1) := by decide +kernel
theorem dX13_reportsOne_63 : decode cX13_reportsOne 63 = .ok (.iaload, 1) := by decide +kernel
theorem dX13_reportsOne_64 : decode cX13_reportsOne 64 = .ok (.bipush 44, 2) := by decide +kernel
theorem dX13_reportsOne_66 : decode cX13_reportsOne 66 = .ok (.aload_n 0, 1) := by decide +kernel
theorem dX13_reportsOne_67 : decode cX13_reportsOne 67 = .ok (.getfield 152, 3) := by decide +kernel
theorem dX13_reportsOne_70 : decode cX13_reportsOne 70 = .ok (.iload_n 1, 1) := by decide +kernel
theorem dX13_reportsOne_71 : decode cX13_reportsOne 71 = .ok (.iaload, 1) := by decide +kernel
theorem dX13_reportsOne_72 : decode cX13_reportsOne 72 = .ok (.invokevirtual 477, 3) := by decide +kernel
theorem dX13_reportsOne_75 : decode cX13_reportsOne 75 = .ok (.iload_n 2, 1) := by decide +kernel
theorem dX13_reportsOne_76 : decode cX13_reportsOne 76 = .ok (.ifCond .lt 31, 3) := by decide +kernel
theorem dX13_reportsOne_79 : decode cX13_reportsOne 79 = .ok (.aload_n 0, 1) := by decide +kernel
theorem dX13_reportsOne_80 : decode cX13_reportsOne 80 = .ok (.aload_n 0, 1) := by decide +kernel
theorem dX13_reportsOne_81 : decode cX13_reportsOne 81 = .ok (.getfield 176, 3) := by decide +kernel
theorem dX13_reportsOne_84 : decode cX13_reportsOne 84 = .ok (.bipush 10, 2) := by decide +kernel
theorem dX13_reportsOne_86 : decode cX13_reportsOne 86 = .ok (.invokevirtual 324, 3) := by decide +kernel
theorem dX13_reportsOne_89 : decode cX13_reportsOne 89 = .ok (.aload_n 0, 1) := by decide +kernel
theorem dX13_reportsOne_90 : decode cX13_reportsOne 90 = .ok (.aload_n 0, 1) := by decide +kernel
theorem dX13_reportsOne_91 : decode cX13_reportsOne 91 = .ok (.getfield 149, 3) := by decide +kernel
theorem dX13_reportsOne_94 : decode cX13_reportsOne 94 = .ok (.iload_n 2, 1) := by decide +kernel
theorem dX13_reportsOne_95 : decode cX13_reportsOne 95 = .ok (.iaload, 1) := by decide +kernel
theorem dX13_reportsOne_96 : decode cX13_reportsOne 96 = .ok (.bipush 44, 2) := by decide +kernel
theorem dX13_reportsOne_98 : decode cX13_reportsOne 98 = .ok (.aload_n 0, 1) := by decide +kernel
theorem dX13_reportsOne_99 : decode cX13_reportsOne 99 = .ok (.getfield 152, 3) := by decide +kernel
theorem dX13_reportsOne_102 : decode cX13_reportsOne 102 = .ok (.iload_n 2, 1) := by decide +kernel
theorem dX13_reportsOne_103 : decode cX13_reportsOne 103 = .ok (.iaload, 1) := by decide +kernel
theorem dX13_reportsOne_104 : decode cX13_reportsOne 104 = .ok (.invokevirtual 477, 3) := by decide +kernel
theorem dX13_reportsOne_107 : decode cX13_reportsOne 107 = .ok (.aload_n 0, 1) := by decide +kernel
theorem dX13_reportsOne_108 : decode cX13_reportsOne 108 = .ok (.aload_n 0, 1) := by decide +kernel
theorem dX13_reportsOne_109 : decode cX13_reportsOne 109 = .ok (.getfield 176, 3) := by decide +kernel
theorem dX13_reportsOne_112 : decode cX13_reportsOne 112 = .ok (.bipush 8, 2) := by decide +kernel
theorem dX13_reportsOne_114 : decode cX13_reportsOne 114 = .ok (.invokevirtual 324, 3) := by decide +kernel
theorem dX13_reportsOne_117 : decode cX13_reportsOne 117 = .ok (.aload_n 0, 1) := by decide +kernel
theorem dX13_reportsOne_118 : decode cX13_reportsOne 118 = .ok (.aload_n 0, 1) := by decide +kernel
theorem dX13_reportsOne_119 : decode cX13_reportsOne 119 = .ok (.iload_n 1, 1) := by decide +kernel
theorem dX13_reportsOne_120 : decode cX13_reportsOne 120 = .ok (.invokevirtual 452, 3) := by decide +kernel
theorem dX13_reportsOne_123 : decode cX13_reportsOne 123 = .ok (.bipush 120, 2) := by decide +kernel
theorem dX13_reportsOne_125 : decode cX13_reportsOne 125 = .ok (.aload_n 0, 1) := by decide +kernel
theorem dX13_reportsOne_126 : decode cX13_reportsOne 126 = .ok (.iload_n 1, 1) := by decide +kernel
theorem dX13_reportsOne_127 : decode cX13_reportsOne 127 = .ok (.invokevirtual 455, 3) := by decide +kernel
theorem dX13_reportsOne_130 : decode cX13_reportsOne 130 = .ok (.invokevirtual 477, 3) := by decide +kernel
theorem dX13_reportsOne_133 : decode cX13_reportsOne 133 = .ok (.aload_n 0, 1) := by decide +kernel
theorem dX13_reportsOne_134 : decode cX13_reportsOne 134 = .ok (.iload_n 1, 1) := by decide +kernel
theorem dX13_reportsOne_135 : decode cX13_reportsOne 135 = .ok (.invokevirtual 464, 3) := by decide +kernel
theorem dX13_reportsOne_138 : decode cX13_reportsOne 138 = .ok (.istore_n 3, 1) := by decide +kernel
theorem dX13_reportsOne_139 : decode cX13_reportsOne 139 = .ok (.iload_n 3, 1) := by decide +kernel
theorem dX13_reportsOne_140 : decode cX13_reportsOne 140 = .ok (.ifCond .lt 18, 3) := by decide +kernel
theorem dX13_reportsOne_143 : decode cX13_reportsOne 143 = .ok (.aload_n 0, 1) := by decide +kernel
theorem dX13_reportsOne_144 : decode cX13_reportsOne 144 = .ok (.aload_n 0, 1) := by decide +kernel
theorem dX13_reportsOne_145 : decode cX13_reportsOne 145 = .ok (.getfield 176, 3) := by decide +kernel
theorem dX13_reportsOne_148 : decode cX13_reportsOne 148 = .ok (.bipush 11, 2) := by decide +kernel
theorem dX13_reportsOne_150 : decode cX13_reportsOne 150 = .ok (.invokevirtual 324, 3) := by decide +kernel
theorem dX13_reportsOne_153 : decode cX13_reportsOne 153 = .ok (.aload_n 0, 1) := by decide +kernel
theorem dX13_reportsOne_154 : decode cX13_reportsOne 154 = .ok (.iload_n 3, 1) := by decide +kernel
theorem dX13_reportsOne_155 : decode cX13_reportsOne 155 = .ok (.invokevirtual 328, 3) := by decide +kernel
theorem dX13_reportsOne_158 : decode cX13_reportsOne 158 = .ok (.aload_n 0, 1) := by decide +kernel
theorem dX13_reportsOne_159 : decode cX13_reportsOne 159 = .ok (.bipush 10, 2) := by decide +kernel
theorem dX13_reportsOne_161 : decode cX13_reportsOne 161 = .ok (.invokevirtual 321, 3) := by decide +kernel
theorem dX13_reportsOne_164 : decode cX13_reportsOne 164 = .ok (.return_, 1) := by decide +kernel
theorem dX13_shiftX_0 : decode cX13_shiftX 0 = .ok (.aload_n 0, 1) := by decide +kernel
theorem dX13_shiftX_1 : decode cX13_shiftX 1 = .ok (.aload_n 0, 1) := by decide +kernel
theorem dX13_shiftX_2 : decode cX13_shiftX 2 = .ok (.getfield 378, 3) := by decide +kernel
theorem dX13_shiftX_5 : decode cX13_shiftX 5 = .ok (.invokevirtual 505, 3) := by decide +kernel
theorem dX13_shiftX_8 : decode cX13_shiftX 8 = .ok (.ireturn, 1) := by decide +kernel
theorem dX13_told_0 : decode cX13_told 0 = .ok (.aload_n 0, 1) := by decide +kernel
theorem dX13_told_1 : decode cX13_told 1 = .ok (.aload_n 0, 1) := by decide +kernel
theorem dX13_told_2 : decode cX13_told 2 = .ok (.getfield 502, 3) := by decide +kernel
theorem dX13_told_5 : decode cX13_told 5 = .ok (.ifCond .eq 7, 3) := by decide +kernel
theorem dX13_told_8 : decode cX13_told 8 = .ok (.iconst 0, 1) := by decide +kernel
theorem dX13_told_9 : decode cX13_told 9 = .ok (.goto 4, 3) := by decide +kernel
theorem dX13_told_12 : decode cX13_told 12 = .ok (.iconst 1, 1) := by decide +kernel
theorem dX13_told_13 : decode cX13_told 13 = .ok (.putfield 186, 3) := by decide +kernel
theorem dX13_told_16 : decode cX13_told 16 = .ok (.aload_n 0, 1) := by decide +kernel
theorem dX13_told_17 : decode cX13_told 17 = .ok (.getfield 502, 3) := by decide +kernel
theorem dX13_told_20 : decode cX13_told 20 = .ok (.ifCond .eq 7, 3) := by decide +kernel
theorem dX13_told_23 : decode cX13_told 23 = .ok (.iload_n 1, 1) := by decide +kernel
theorem dX13_told_24 : decode cX13_told 24 = .ok (.goto 4, 3) := by decide +kernel
theorem dX13_told_27 : decode cX13_told 27 = .ok (.iconst 0, 1) := by decide +kernel
theorem dX13_told_28 : decode cX13_told 28 = .ok (.ireturn, 1) := by decide +kernel
theorem dX13_shiftY_0 : decode cX13_shiftY 0 = .ok (.aload_n 0, 1) := by decide +kernel
theorem dX13_shiftY_1 : decode cX13_shiftY 1 = .ok (.aload_n 0, 1) := by decide +kernel
theorem dX13_shiftY_2 : decode cX13_shiftY 2 = .ok (.getfield 381, 3) := by decide +kernel
theorem dX13_shiftY_5 : decode cX13_shiftY 5 = .ok (.invokevirtual 505, 3) := by decide +kernel
theorem dX13_shiftY_8 : decode cX13_shiftY 8 = .ok (.ireturn, 1) := by decide +kernel
theorem dX13_skew_0 : decode cX13_skew 0 = .ok (.aload_n 0, 1) := by decide +kernel
theorem dX13_skew_1 : decode cX13_skew 1 = .ok (.aload_n 0, 1) := by decide +kernel
theorem dX13_skew_2 : decode cX13_skew 2 = .ok (.getfield 384, 3) := by decide +kernel
theorem dX13_skew_5 : decode cX13_skew 5 = .ok (.invokevirtual 505, 3) := by decide +kernel
theorem dX13_skew_8 : decode cX13_skew 8 = .ok (.ireturn, 1) := by decide +kernel
theorem dX13_turned_0 : decode cX13_turned 0 = .ok (.aload_n 0, 1) := by decide +kernel
theorem dX13_turned_1 : decode cX13_turned 1 = .ok (.aload_n 0, 1) := by decide +kernel
theorem dX13_turned_2 : decode cX13_turned 2 = .ok (.getfield 387, 3) := by decide +kernel
theorem dX13_turned_5 : decode cX13_turned 5 = .ok (.ifCond .eq 7, 3) := by decide +kernel
theorem dX13_turned_8 : decode cX13_turned 8 = .ok (.iconst 1, 1) := by decide +kernel
theorem dX13_turned_9 : decode cX13_turned 9 = .ok (.goto 4, 3) := by decide +kernel
theorem dX13_turned_12 : decode cX13_turned 12 = .ok (.iconst 0, 1) := by decide +kernel
theorem dX13_turned_13 : decode cX13_turned 13 = .ok (.invokevirtual 505, 3) := by decide +kernel
theorem dX13_turned_16 : decode cX13_turned 16 = .ok (.iconst 1, 1) := by decide +kernel
theorem dX13_turned_17 : decode cX13_turned 17 = .ok (.if_icmp .ne 7, 3) := by decide +kernel
theorem dX13_turned_20 : decode cX13_turned 20 = .ok (.iconst 1, 1) := by decide +kernel
theorem dX13_turned_21 : decode cX13_turned 21 = .ok (.goto 4, 3) := by decide +kernel
theorem dX13_turned_24 : decode cX13_turned 24 = .ok (.iconst 0, 1) := by decide +kernel
theorem dX13_turned_25 : decode cX13_turned 25 = .ok (.ireturn, 1) := by decide +kernel
theorem dX13_mismatch_0 : decode cX13_mismatch 0 = .ok (.aload_n 0, 1) := by decide +kernel
theorem dX13_mismatch_1 : decode cX13_mismatch 1 = .ok (.aload_n 0, 1) := by decide +kernel
theorem dX13_mismatch_2 : decode cX13_mismatch 2 = .ok (.getfield 365, 3) := by decide +kernel
theorem dX13_mismatch_5 : decode cX13_mismatch 5 = .ok (.invokevirtual 505, 3) := by decide +kernel
theorem dX13_mismatch_8 : decode cX13_mismatch 8 = .ok (.ireturn, 1) := by decide +kernel
theorem dX13_similarity_0 : decode cX13_similarity 0 = .ok (.aload_n 0, 1) := by decide +kernel
theorem dX13_similarity_1 : decode cX13_similarity 1 = .ok (.aload_n 0, 1) := by decide +kernel
theorem dX13_similarity_2 : decode cX13_similarity 2 = .ok (.getfield 179, 3) := by decide +kernel
theorem dX13_similarity_5 : decode cX13_similarity 5 = .ok (.aload_n 0, 1) := by decide +kernel
theorem dX13_similarity_6 : decode cX13_similarity 6 = .ok (.getfield 183, 3) := by decide +kernel
theorem dX13_similarity_9 : decode cX13_similarity 9 = .ok (.imul, 1) := by decide +kernel
theorem dX13_similarity_10 : decode cX13_similarity 10 = .ok (.aload_n 0, 1) := by decide +kernel
theorem dX13_similarity_11 : decode cX13_similarity 11 = .ok (.getfield 365, 3) := by decide +kernel
theorem dX13_similarity_14 : decode cX13_similarity 14 = .ok (.isub, 1) := by decide +kernel
theorem dX13_similarity_15 : decode cX13_similarity 15 = .ok (.sipush 1000, 3) := by decide +kernel
theorem dX13_similarity_18 : decode cX13_similarity 18 = .ok (.imul, 1) := by decide +kernel
theorem dX13_similarity_19 : decode cX13_similarity 19 = .ok (.aload_n 0, 1) := by decide +kernel
theorem dX13_similarity_20 : decode cX13_similarity 20 = .ok (.getfield 179, 3) := by decide +kernel
theorem dX13_similarity_23 : decode cX13_similarity 23 = .ok (.aload_n 0, 1) := by decide +kernel
theorem dX13_similarity_24 : decode cX13_similarity 24 = .ok (.getfield 183, 3) := by decide +kernel
theorem dX13_similarity_27 : decode cX13_similarity 27 = .ok (.imul, 1) := by decide +kernel
theorem dX13_similarity_28 : decode cX13_similarity 28 = .ok (.idiv, 1) := by decide +kernel
theorem dX13_similarity_29 : decode cX13_similarity 29 = .ok (.invokevirtual 505, 3) := by decide +kernel
theorem dX13_similarity_32 : decode cX13_similarity 32 = .ok (.ireturn, 1) := by decide +kernel
theorem dX13_mismatchAt_0 : decode cX13_mismatchAt 0 = .ok (.aload_n 0, 1) := by decide +kernel
theorem dX13_mismatchAt_1 : decode cX13_mismatchAt 1 = .ok (.iconst 0, 1) := by decide +kernel
theorem dX13_mismatchAt_2 : decode cX13_mismatchAt 2 = .ok (.putfield 186, 3) := by decide +kernel
theorem dX13_mismatchAt_5 : decode cX13_mismatchAt 5 = .ok (.aload_n 0, 1) := by decide +kernel
theorem dX13_mismatchAt_6 : decode cX13_mismatchAt 6 = .ok (.getfield 502, 3) := by decide +kernel
theorem dX13_mismatchAt_9 : decode cX13_mismatchAt 9 = .ok (.ifCond .ne 9, 3) := by decide +kernel
theorem dX13_mismatchAt_12 : decode cX13_mismatchAt 12 = .ok (.aload_n 0, 1) := by decide +kernel
theorem dX13_mismatchAt_13 : decode cX13_mismatchAt 13 = .ok (.iconst 1, 1) := by decide +kernel
theorem dX13_mismatchAt_14 : decode cX13_mismatchAt 14 = .ok (.invokevirtual 206, 3) := by decide +kernel
theorem dX13_mismatchAt_17 : decode cX13_mismatchAt 17 = .ok (.ireturn, 1) := by decide +kernel
theorem dX13_mismatchAt_18 : decode cX13_mismatchAt 18 = .ok (.iload_n 1, 1) := by decide +kernel
theorem dX13_mismatchAt_19 : decode cX13_mismatchAt 19 = .ok (.invokestatic 340, 3) := by decide +kernel
theorem dX13_mismatchAt_22 : decode cX13_mismatchAt 22 = .ok (.bipush 16, 2) := by decide +kernel
theorem dX13_mismatchAt_24 : decode cX13_mismatchAt 24 = .ok (.if_icmp .gt 24, 3) := by decide +kernel
theorem dX13_mismatchAt_27 : decode cX13_mismatchAt 27 = .ok (.iload_n 2, 1) := by decide +kernel
theorem dX13_mismatchAt_28 : decode cX13_mismatchAt 28 = .ok (.invokestatic 340, 3) := by decide +kernel
theorem dX13_mismatchAt_31 : decode cX13_mismatchAt 31 = .ok (.bipush 16, 2) := by decide +kernel
theorem dX13_mismatchAt_33 : decode cX13_mismatchAt 33 = .ok (.if_icmp .gt 15, 3) := by decide +kernel
theorem dX13_mismatchAt_36 : decode cX13_mismatchAt 36 = .ok (.iload_n 1, 1) := by decide +kernel
theorem dX13_mismatchAt_37 : decode cX13_mismatchAt 37 = .ok (.bipush (-16), 2) := by decide +kernel
theorem dX13_mismatchAt_39 : decode cX13_mismatchAt 39 = .ok (.if_icmp .lt 9, 3) := by decide +kernel
theorem dX13_mismatchAt_42 : decode cX13_mismatchAt 42 = .ok (.iload_n 2, 1) := by decide +kernel
theorem dX13_mismatchAt_43 : decode cX13_mismatchAt 43 = .ok (.bipush (-16), 2) := by decide +kernel
theorem dX13_mismatchAt_45 : decode cX13_mismatchAt 45 = .ok (.if_icmp .ge 9, 3) := by decide +kernel
theorem dX13_mismatchAt_48 : decode cX13_mismatchAt 48 = .ok (.aload_n 0, 1) := by decide +kernel
theorem dX13_mismatchAt_49 : decode cX13_mismatchAt 49 = .ok (.iconst 2, 1) := by decide +kernel
theorem dX13_mismatchAt_50 : decode cX13_mismatchAt 50 = .ok (.invokevirtual 206, 3) := by decide +kernel
theorem dX13_mismatchAt_53 : decode cX13_mismatchAt 53 = .ok (.ireturn, 1) := by decide +kernel
theorem dX13_mismatchAt_54 : decode cX13_mismatchAt 54 = .ok (.aload_n 0, 1) := by decide +kernel
theorem dX13_mismatchAt_55 : decode cX13_mismatchAt 55 = .ok (.aload_n 0, 1) := by decide +kernel
theorem dX13_mismatchAt_56 : decode cX13_mismatchAt 56 = .ok (.getfield 95, 3) := by decide +kernel
theorem dX13_mismatchAt_59 : decode cX13_mismatchAt 59 = .ok (.iload_n 1, 1) := by decide +kernel
theorem dX13_mismatchAt_60 : decode cX13_mismatchAt 60 = .ok (.iload_n 2, 1) := by decide +kernel
theorem dX13_mismatchAt_61 : decode cX13_mismatchAt 61 = .ok (.invokevirtual 356, 3) := by decide +kernel
theorem dX13_mismatchAt_64 : decode cX13_mismatchAt 64 = .ok (.ireturn, 1) := by decide +kernel
theorem dX13_blockDifference_0 : decode cX13_blockDifference 0 = .ok (.aload_n 0, 1) := by decide +kernel
theorem dX13_blockDifference_1 : decode cX13_blockDifference 1 = .ok (.iconst 0, 1) := by decide +kernel
theorem dX13_blockDifference_2 : decode cX13_blockDifference 2 = .ok (.putfield 186, 3) := by decide +kernel
theorem dX13_blockDifference_5 : decode cX13_blockDifference 5 = .ok (.aload_n 0, 1) := by decide +kernel
theorem dX13_blockDifference_6 : decode cX13_blockDifference 6 = .ok (.getfield 502, 3) := by decide +kernel
theorem dX13_blockDifference_9 : decode cX13_blockDifference 9 = .ok (.ifCond .ne 9, 3) := by decide +kernel
theorem dX13_blockDifference_12 : decode cX13_blockDifference 12 = .ok (.aload_n 0, 1) := by decide +kernel
theorem dX13_blockDifference_13 : decode cX13_blockDifference 13 = .ok (.iconst 1, 1) := by decide +kernel
theorem dX13_blockDifference_14 : decode cX13_blockDifference 14 = .ok (.invokevirtual 206, 3) := by decide +kernel
theorem dX13_blockDifference_17 : decode cX13_blockDifference 17 = .ok (.ireturn, 1) := by decide +kernel
theorem dX13_blockDifference_18 : decode cX13_blockDifference 18 = .ok (.aload_n 0, 1) := by decide +kernel
theorem dX13_blockDifference_19 : decode cX13_blockDifference 19 = .ok (.iload_n 1, 1) := by decide +kernel
theorem dX13_blockDifference_20 : decode cX13_blockDifference 20 = .ok (.iload_n 2, 1) := by decide +kernel
theorem dX13_blockDifference_21 : decode cX13_blockDifference 21 = .ok (.invokevirtual 410, 3) := by decide +kernel
theorem dX13_blockDifference_24 : decode cX13_blockDifference 24 = .ok (.ifCond .eq 17, 3) := by decide +kernel
theorem dX13_blockDifference_27 : decode cX13_blockDifference 27 = .ok (.aload_n 0, 1) := by decide +kernel
theorem dX13_blockDifference_28 : decode cX13_blockDifference 28 = .ok (.getfield 110, 3) := by decide +kernel
theorem dX13_blockDifference_31 : decode cX13_blockDifference 31 = .ok (.bipush 16, 2) := by decide +kernel
theorem dX13_blockDifference_33 : decode cX13_blockDifference 33 = .ok (.iload_n 2, 1) := by decide +kernel
theorem dX13_blockDifference_34 : decode cX13_blockDifference 34 = .ok (.imul, 1) := by decide +kernel
theorem dX13_blockDifference_35 : decode cX13_blockDifference 35 = .ok (.iload_n 1, 1) := by decide +kernel
theorem dX13_blockDifference_36 : decode cX13_blockDifference 36 = .ok (.iadd, 1) := by decide +kernel
theorem dX13_blockDifference_37 : decode cX13_blockDifference 37 = .ok (.iaload, 1) := by decide +kernel
theorem dX13_blockDifference_38 : decode cX13_blockDifference 38 = .ok (.goto 8, 3) := by decide +kernel
theorem dX13_blockDifference_41 : decode cX13_blockDifference 41 = .ok (.aload_n 0, 1) := by decide +kernel
theorem dX13_blockDifference_42 : decode cX13_blockDifference 42 = .ok (.iconst 2, 1) := by decide +kernel
theorem dX13_blockDifference_43 : decode cX13_blockDifference 43 = .ok (.invokevirtual 206, 3) := by decide +kernel
theorem dX13_blockDifference_46 : decode cX13_blockDifference 46 = .ok (.ireturn, 1) := by decide +kernel
theorem dX13_regions_0 : decode cX13_regions 0 = .ok (.aload_n 0, 1) := by decide +kernel
theorem dX13_regions_1 : decode cX13_regions 1 = .ok (.aload_n 0, 1) := by decide +kernel
theorem dX13_regions_2 : decode cX13_regions 2 = .ok (.getfield 421, 3) := by decide +kernel
theorem dX13_regions_5 : decode cX13_regions 5 = .ok (.invokevirtual 505, 3) := by decide +kernel
theorem dX13_regions_8 : decode cX13_regions 8 = .ok (.ireturn, 1) := by decide +kernel
theorem dX13_regionAt_0 : decode cX13_regionAt 0 = .ok (.aload_n 0, 1) := by decide +kernel
theorem dX13_regionAt_1 : decode cX13_regionAt 1 = .ok (.iconst 0, 1) := by decide +kernel
theorem dX13_regionAt_2 : decode cX13_regionAt 2 = .ok (.putfield 186, 3) := by decide +kernel
theorem dX13_regionAt_5 : decode cX13_regionAt 5 = .ok (.aload_n 0, 1) := by decide +kernel
theorem dX13_regionAt_6 : decode cX13_regionAt 6 = .ok (.getfield 502, 3) := by decide +kernel
theorem dX13_regionAt_9 : decode cX13_regionAt 9 = .ok (.ifCond .ne 9, 3) := by decide +kernel
theorem dX13_regionAt_12 : decode cX13_regionAt 12 = .ok (.aload_n 0, 1) := by decide +kernel
theorem dX13_regionAt_13 : decode cX13_regionAt 13 = .ok (.iconst 1, 1) := by decide +kernel
theorem dX13_regionAt_14 : decode cX13_regionAt 14 = .ok (.invokevirtual 206, 3) := by decide +kernel
theorem dX13_regionAt_17 : decode cX13_regionAt 17 = .ok (.ireturn, 1) := by decide +kernel
theorem dX13_regionAt_18 : decode cX13_regionAt 18 = .ok (.aload_n 0, 1) := by decide +kernel
theorem dX13_regionAt_19 : decode cX13_regionAt 19 = .ok (.iload_n 1, 1) := by decide +kernel
theorem dX13_regionAt_20 : decode cX13_regionAt 20 = .ok (.i2l, 1) := by decide +kernel
theorem dX13_regionAt_21 : decode cX13_regionAt 21 = .ok (.iload_n 2, 1) := by decide +kernel
theorem dX13_regionAt_22 : decode cX13_regionAt 22 = .ok (.i2l, 1) := by decide +kernel
theorem dX13_regionAt_23 : decode cX13_regionAt 23 = .ok (.invokevirtual 195, 3) := by decide +kernel
theorem dX13_regionAt_26 : decode cX13_regionAt 26 = .ok (.ifCond .eq 21, 3) := by decide +kernel
theorem dX13_regionAt_29 : decode cX13_regionAt 29 = .ok (.aload_n 0, 1) := by decide +kernel
theorem dX13_regionAt_30 : decode cX13_regionAt 30 = .ok (.getfield 143, 3) := by decide +kernel
theorem dX13_regionAt_33 : decode cX13_regionAt 33 = .ok (.aload_n 0, 1) := by decide +kernel
theorem dX13_regionAt_34 : decode cX13_regionAt 34 = .ok (.bipush 64, 2) := by decide +kernel
theorem dX13_regionAt_36 : decode cX13_regionAt 36 = .ok (.iload_n 2, 1) := by decide +kernel
theorem dX13_regionAt_37 : decode cX13_regionAt 37 = .ok (.imul, 1) := by decide +kernel
theorem dX13_regionAt_38 : decode cX13_regionAt 38 = .ok (.iload_n 1, 1) := by decide +kernel
theorem dX13_regionAt_39 : decode cX13_regionAt 39 = .ok (.iadd, 1) := by decide +kernel
theorem dX13_regionAt_40 : decode cX13_regionAt 40 = .ok (.invokevirtual 407, 3) := by decide +kernel
theorem dX13_regionAt_43 : decode cX13_regionAt 43 = .ok (.iaload, 1) := by decide +kernel
theorem dX13_regionAt_44 : decode cX13_regionAt 44 = .ok (.goto 8, 3) := by decide +kernel
theorem dX13_regionAt_47 : decode cX13_regionAt 47 = .ok (.aload_n 0, 1) := by decide +kernel
theorem dX13_regionAt_48 : decode cX13_regionAt 48 = .ok (.iconst 2, 1) := by decide +kernel
theorem dX13_regionAt_49 : decode cX13_regionAt 49 = .ok (.invokevirtual 206, 3) := by decide +kernel
theorem dX13_regionAt_52 : decode cX13_regionAt 52 = .ok (.ireturn, 1) := by decide +kernel
theorem dX13_regionLeft_0 : decode cX13_regionLeft 0 = .ok (.aload_n 0, 1) := by decide +kernel
theorem dX13_regionLeft_1 : decode cX13_regionLeft 1 = .ok (.iload_n 1, 1) := by decide +kernel
theorem dX13_regionLeft_2 : decode cX13_regionLeft 2 = .ok (.aload_n 0, 1) := by decide +kernel
theorem dX13_regionLeft_3 : decode cX13_regionLeft 3 = .ok (.getfield 421, 3) := by decide +kernel
theorem dX13_regionLeft_6 : decode cX13_regionLeft 6 = .ok (.invokevirtual 507, 3) := by decide +kernel
theorem dX13_regionLeft_9 : decode cX13_regionLeft 9 = .ok (.ifCond .eq 7, 3) := by decide +kernel
theorem dX13_regionLeft_12 : decode cX13_regionLeft 12 = .ok (.iconst 0, 1) := by decide +kernel
theorem dX13_regionLeft_13 : decode cX13_regionLeft 13 = .ok (.goto 14, 3) := by decide +kernel
theorem dX13_regionLeft_16 : decode cX13_regionLeft 16 = .ok (.aload_n 0, 1) := by decide +kernel
theorem dX13_regionLeft_17 : decode cX13_regionLeft 17 = .ok (.getfield 116, 3) := by decide +kernel
theorem dX13_regionLeft_20 : decode cX13_regionLeft 20 = .ok (.aload_n 0, 1) := by decide +kernel
theorem dX13_regionLeft_21 : decode cX13_regionLeft 21 = .ok (.getfield 128, 3) := by decide +kernel
theorem dX13_regionLeft_24 : decode cX13_regionLeft 24 = .ok (.iload_n 1, 1) := by decide +kernel
theorem dX13_regionLeft_25 : decode cX13_regionLeft 25 = .ok (.iaload, 1) := by decide +kernel
theorem dX13_regionLeft_26 : decode cX13_regionLeft 26 = .ok (.iaload, 1) := by decide +kernel
theorem dX13_regionLeft_27 : decode cX13_regionLeft 27 = .ok (.ireturn, 1) := by decide +kernel
theorem dX13_lacks_0 : decode cX13_lacks 0 = .ok (.aload_n 0, 1) := by decide +kernel
theorem dX13_lacks_1 : decode cX13_lacks 1 = .ok (.aload_n 0, 1) := by decide +kernel
theorem dX13_lacks_2 : decode cX13_lacks 2 = .ok (.getfield 502, 3) := by decide +kernel
theorem dX13_lacks_5 : decode cX13_lacks 5 = .ok (.ifCond .ne 7, 3) := by decide +kernel
theorem dX13_lacks_8 : decode cX13_lacks 8 = .ok (.iconst 1, 1) := by decide +kernel
theorem dX13_lacks_9 : decode cX13_lacks 9 = .ok (.goto 21, 3) := by decide +kernel
theorem dX13_lacks_12 : decode cX13_lacks 12 = .ok (.iload_n 1, 1) := by decide +kernel
theorem dX13_lacks_13 : decode cX13_lacks 13 = .ok (.i2l, 1) := by decide +kernel
theorem dX13_lacks_14 : decode cX13_lacks 14 = .ok (.lconst 0, 1) := by decide +kernel
theorem dX13_lacks_15 : decode cX13_lacks 15 = .ok (.iload_n 2, 1) := by decide +kernel
theorem dX13_lacks_16 : decode cX13_lacks 16 = .ok (.iconst 1, 1) := by decide +kernel
theorem dX13_lacks_17 : decode cX13_lacks 17 = .ok (.isub, 1) := by decide +kernel
theorem dX13_lacks_18 : decode cX13_lacks 18 = .ok (.i2l, 1) := by decide +kernel
theorem dX13_lacks_19 : decode cX13_lacks 19 = .ok (.invokestatic 191, 3) := by decide +kernel
theorem dX13_lacks_22 : decode cX13_lacks 22 = .ok (.ifCond .eq 7, 3) := by decide +kernel
theorem dX13_lacks_25 : decode cX13_lacks 25 = .ok (.iconst 0, 1) := by decide +kernel
theorem dX13_lacks_26 : decode cX13_lacks 26 = .ok (.goto 4, 3) := by decide +kernel
theorem dX13_lacks_29 : decode cX13_lacks 29 = .ok (.iconst 2, 1) := by decide +kernel
theorem dX13_lacks_30 : decode cX13_lacks 30 = .ok (.putfield 186, 3) := by decide +kernel
theorem dX13_lacks_33 : decode cX13_lacks 33 = .ok (.aload_n 0, 1) := by decide +kernel
theorem dX13_lacks_34 : decode cX13_lacks 34 = .ok (.getfield 186, 3) := by decide +kernel
theorem dX13_lacks_37 : decode cX13_lacks 37 = .ok (.ifCond .eq 7, 3) := by decide +kernel
theorem dX13_lacks_40 : decode cX13_lacks 40 = .ok (.iconst 1, 1) := by decide +kernel
theorem dX13_lacks_41 : decode cX13_lacks 41 = .ok (.goto 4, 3) := by decide +kernel
theorem dX13_lacks_44 : decode cX13_lacks 44 = .ok (.iconst 0, 1) := by decide +kernel
theorem dX13_lacks_45 : decode cX13_lacks 45 = .ok (.ireturn, 1) := by decide +kernel
theorem dX13_regionTop_0 : decode cX13_regionTop 0 = .ok (.aload_n 0, 1) := by decide +kernel
theorem dX13_regionTop_1 : decode cX13_regionTop 1 = .ok (.iload_n 1, 1) := by decide +kernel
theorem dX13_regionTop_2 : decode cX13_regionTop 2 = .ok (.aload_n 0, 1) := by decide +kernel
theorem dX13_regionTop_3 : decode cX13_regionTop 3 = .ok (.getfield 421, 3) := by decide +kernel
theorem dX13_regionTop_6 : decode cX13_regionTop 6 = .ok (.invokevirtual 507, 3) := by decide +kernel
theorem dX13_regionTop_9 : decode cX13_regionTop 9 = .ok (.ifCond .eq 7, 3) := by decide +kernel
theorem dX13_regionTop_12 : decode cX13_regionTop 12 = .ok (.iconst 0, 1) := by decide +kernel
theorem dX13_regionTop_13 : decode cX13_regionTop 13 = .ok (.goto 14, 3) := by decide +kernel
theorem dX13_regionTop_16 : decode cX13_regionTop 16 = .ok (.aload_n 0, 1) := by decide +kernel
theorem dX13_regionTop_17 : decode cX13_regionTop 17 = .ok (.getfield 119, 3) := by decide +kernel
theorem dX13_regionTop_20 : decode cX13_regionTop 20 = .ok (.aload_n 0, 1) := by decide +kernel
theorem dX13_regionTop_21 : decode cX13_regionTop 21 = .ok (.getfield 128, 3) := by decide +kernel
theorem dX13_regionTop_24 : decode cX13_regionTop 24 = .ok (.iload_n 1, 1) := by decide +kernel
theorem dX13_regionTop_25 : decode cX13_regionTop 25 = .ok (.iaload, 1) := by decide +kernel
theorem dX13_regionTop_26 : decode cX13_regionTop 26 = .ok (.iaload, 1) := by decide +kernel
theorem dX13_regionTop_27 : decode cX13_regionTop 27 = .ok (.ireturn, 1) := by decide +kernel
theorem dX13_regionRight_0 : decode cX13_regionRight 0 = .ok (.aload_n 0, 1) := by decide +kernel
theorem dX13_regionRight_1 : decode cX13_regionRight 1 = .ok (.iload_n 1, 1) := by decide +kernel
theorem dX13_regionRight_2 : decode cX13_regionRight 2 = .ok (.aload_n 0, 1) := by decide +kernel
theorem dX13_regionRight_3 : decode cX13_regionRight 3 = .ok (.getfield 421, 3) := by decide +kernel
theorem dX13_regionRight_6 : decode cX13_regionRight 6 = .ok (.invokevirtual 507, 3) := by decide +kernel
theorem dX13_regionRight_9 : decode cX13_regionRight 9 = .ok (.ifCond .eq 7, 3) := by decide +kernel
theorem dX13_regionRight_12 : decode cX13_regionRight 12 = .ok (.iconst 0, 1) := by decide +kernel
theorem dX13_regionRight_13 : decode cX13_regionRight 13 = .ok (.goto 14, 3) := by decide +kernel
theorem dX13_regionRight_16 : decode cX13_regionRight 16 = .ok (.aload_n 0, 1) := by decide +kernel
theorem dX13_regionRight_17 : decode cX13_regionRight 17 = .ok (.getfield 122, 3) := by decide +kernel
theorem dX13_regionRight_20 : decode cX13_regionRight 20 = .ok (.aload_n 0, 1) := by decide +kernel
theorem dX13_regionRight_21 : decode cX13_regionRight 21 = .ok (.getfield 128, 3) := by decide +kernel
theorem dX13_regionRight_24 : decode cX13_regionRight 24 = .ok (.iload_n 1, 1) := by decide +kernel
theorem dX13_regionRight_25 : decode cX13_regionRight 25 = .ok (.iaload, 1) := by decide +kernel
theorem dX13_regionRight_26 : decode cX13_regionRight 26 = .ok (.iaload, 1) := by decide +kernel
theorem dX13_regionRight_27 : decode cX13_regionRight 27 = .ok (.ireturn, 1) := by decide +kernel
theorem dX13_regionBottom_0 : decode cX13_regionBottom 0 = .ok (.aload_n 0, 1) := by decide +kernel
theorem dX13_regionBottom_1 : decode cX13_regionBottom 1 = .ok (.iload_n 1, 1) := by decide +kernel
theorem dX13_regionBottom_2 : decode cX13_regionBottom 2 = .ok (.aload_n 0, 1) := by decide +kernel
theorem dX13_regionBottom_3 : decode cX13_regionBottom 3 = .ok (.getfield 421, 3) := by decide +kernel
theorem dX13_regionBottom_6 : decode cX13_regionBottom 6 = .ok (.invokevirtual 507, 3) := by decide +kernel
theorem dX13_regionBottom_9 : decode cX13_regionBottom 9 = .ok (.ifCond .eq 7, 3) := by decide +kernel
theorem dX13_regionBottom_12 : decode cX13_regionBottom 12 = .ok (.iconst 0, 1) := by decide +kernel
theorem dX13_regionBottom_13 : decode cX13_regionBottom 13 = .ok (.goto 14, 3) := by decide +kernel
theorem dX13_regionBottom_16 : decode cX13_regionBottom 16 = .ok (.aload_n 0, 1) := by decide +kernel
theorem dX13_regionBottom_17 : decode cX13_regionBottom 17 = .ok (.getfield 125, 3) := by decide +kernel
theorem dX13_regionBottom_20 : decode cX13_regionBottom 20 = .ok (.aload_n 0, 1) := by decide +kernel
theorem dX13_regionBottom_21 : decode cX13_regionBottom 21 = .ok (.getfield 128, 3) := by decide +kernel
theorem dX13_regionBottom_24 : decode cX13_regionBottom 24 = .ok (.iload_n 1, 1) := by decide +kernel
theorem dX13_regionBottom_25 : decode cX13_regionBottom 25 = .ok (.iaload, 1) := by decide +kernel
theorem dX13_regionBottom_26 : decode cX13_regionBottom 26 = .ok (.iaload, 1) := by decide +kernel
theorem dX13_regionBottom_27 : decode cX13_regionBottom 27 = .ok (.ireturn, 1) := by decide +kernel
theorem dX13_missingPixels_0 : decode cX13_missingPixels 0 = .ok (.aload_n 0, 1) := by decide +kernel
theorem dX13_missingPixels_1 : decode cX13_missingPixels 1 = .ok (.iload_n 1, 1) := by decide +kernel
theorem dX13_missingPixels_2 : decode cX13_missingPixels 2 = .ok (.aload_n 0, 1) := by decide +kernel
theorem dX13_missingPixels_3 : decode cX13_missingPixels 3 = .ok (.getfield 421, 3) := by decide +kernel
theorem dX13_missingPixels_6 : decode cX13_missingPixels 6 = .ok (.invokevirtual 507, 3) := by decide +kernel
theorem dX13_missingPixels_9 : decode cX13_missingPixels 9 = .ok (.ifCond .eq 7, 3) := by decide +kernel
theorem dX13_missingPixels_12 : decode cX13_missingPixels 12 = .ok (.iconst 0, 1) := by decide +kernel
theorem dX13_missingPixels_13 : decode cX13_missingPixels 13 = .ok (.goto 11, 3) := by decide +kernel
theorem dX13_missingPixels_16 : decode cX13_missingPixels 16 = .ok (.aload_n 0, 1) := by decide +kernel
theorem dX13_missingPixels_17 : decode cX13_missingPixels 17 = .ok (.getfield 146, 3) := by decide +kernel
theorem dX13_missingPixels_20 : decode cX13_missingPixels 20 = .ok (.iconst 2, 1) := by decide +kernel
theorem dX13_missingPixels_21 : decode cX13_missingPixels 21 = .ok (.iload_n 1, 1) := by decide +kernel
theorem dX13_missingPixels_22 : decode cX13_missingPixels 22 = .ok (.imul, 1) := by decide +kernel
theorem dX13_missingPixels_23 : decode cX13_missingPixels 23 = .ok (.iaload, 1) := by decide +kernel
theorem dX13_missingPixels_24 : decode cX13_missingPixels 24 = .ok (.ireturn, 1) := by decide +kernel
theorem dX13_addedPixels_0 : decode cX13_addedPixels 0 = .ok (.aload_n 0, 1) := by decide +kernel
theorem dX13_addedPixels_1 : decode cX13_addedPixels 1 = .ok (.iload_n 1, 1) := by decide +kernel
theorem dX13_addedPixels_2 : decode cX13_addedPixels 2 = .ok (.aload_n 0, 1) := by decide +kernel
theorem dX13_addedPixels_3 : decode cX13_addedPixels 3 = .ok (.getfield 421, 3) := by decide +kernel
theorem dX13_addedPixels_6 : decode cX13_addedPixels 6 = .ok (.invokevirtual 507, 3) := by decide +kernel
theorem dX13_addedPixels_9 : decode cX13_addedPixels 9 = .ok (.ifCond .eq 7, 3) := by decide +kernel
theorem dX13_addedPixels_12 : decode cX13_addedPixels 12 = .ok (.iconst 0, 1) := by decide +kernel
theorem dX13_addedPixels_13 : decode cX13_addedPixels 13 = .ok (.goto 13, 3) := by decide +kernel
theorem dX13_addedPixels_16 : decode cX13_addedPixels 16 = .ok (.aload_n 0, 1) := by decide +kernel
theorem dX13_addedPixels_17 : decode cX13_addedPixels 17 = .ok (.getfield 146, 3) := by decide +kernel
theorem dX13_addedPixels_20 : decode cX13_addedPixels 20 = .ok (.iconst 2, 1) := by decide +kernel
theorem dX13_addedPixels_21 : decode cX13_addedPixels 21 = .ok (.iload_n 1, 1) := by decide +kernel
theorem dX13_addedPixels_22 : decode cX13_addedPixels 22 = .ok (.imul, 1) := by decide +kernel
theorem dX13_addedPixels_23 : decode cX13_addedPixels 23 = .ok (.iconst 1, 1) := by decide +kernel
theorem dX13_addedPixels_24 : decode cX13_addedPixels 24 = .ok (.iadd, 1) := by decide +kernel
theorem dX13_addedPixels_25 : decode cX13_addedPixels 25 = .ok (.iaload, 1) := by decide +kernel
theorem dX13_addedPixels_26 : decode cX13_addedPixels 26 = .ok (.ireturn, 1) := by decide +kernel
theorem dX13_changes_0 : decode cX13_changes 0 = .ok (.aload_n 0, 1) := by decide +kernel
theorem dX13_changes_1 : decode cX13_changes 1 = .ok (.aload_n 0, 1) := by decide +kernel
theorem dX13_changes_2 : decode cX13_changes 2 = .ok (.getfield 467, 3) := by decide +kernel
theorem dX13_changes_5 : decode cX13_changes 5 = .ok (.invokevirtual 505, 3) := by decide +kernel
theorem dX13_changes_8 : decode cX13_changes 8 = .ok (.ireturn, 1) := by decide +kernel
theorem dX13_changeKind_0 : decode cX13_changeKind 0 = .ok (.aload_n 0, 1) := by decide +kernel
theorem dX13_changeKind_1 : decode cX13_changeKind 1 = .ok (.iload_n 1, 1) := by decide +kernel
theorem dX13_changeKind_2 : decode cX13_changeKind 2 = .ok (.aload_n 0, 1) := by decide +kernel
theorem dX13_changeKind_3 : decode cX13_changeKind 3 = .ok (.getfield 467, 3) := by decide +kernel
theorem dX13_changeKind_6 : decode cX13_changeKind 6 = .ok (.invokevirtual 507, 3) := by decide +kernel
theorem dX13_changeKind_9 : decode cX13_changeKind 9 = .ok (.ifCond .eq 7, 3) := by decide +kernel
theorem dX13_changeKind_12 : decode cX13_changeKind 12 = .ok (.iconst 0, 1) := by decide +kernel
theorem dX13_changeKind_13 : decode cX13_changeKind 13 = .ok (.goto 26, 3) := by decide +kernel
theorem dX13_changeKind_16 : decode cX13_changeKind 16 = .ok (.aload_n 0, 1) := by decide +kernel
theorem dX13_changeKind_17 : decode cX13_changeKind 17 = .ok (.getfield 167, 3) := by decide +kernel
theorem dX13_changeKind_20 : decode cX13_changeKind 20 = .ok (.iload_n 1, 1) := by decide +kernel
theorem dX13_changeKind_21 : decode cX13_changeKind 21 = .ok (.iaload, 1) := by decide +kernel
theorem dX13_changeKind_22 : decode cX13_changeKind 22 = .ok (.ifCond .lt 7, 3) := by decide +kernel
theorem dX13_changeKind_25 : decode cX13_changeKind 25 = .ok (.iconst 3, 1) := by decide +kernel
theorem dX13_changeKind_26 : decode cX13_changeKind 26 = .ok (.goto 13, 3) := by decide +kernel
theorem dX13_changeKind_29 : decode cX13_changeKind 29 = .ok (.iconst 1, 1) := by decide +kernel
theorem dX13_changeKind_30 : decode cX13_changeKind 30 = .ok (.aload_n 0, 1) := by decide +kernel
theorem dX13_changeKind_31 : decode cX13_changeKind 31 = .ok (.getfield 164, 3) := by decide +kernel
theorem dX13_changeKind_34 : decode cX13_changeKind 34 = .ok (.iload_n 1, 1) := by decide +kernel
theorem dX13_changeKind_35 : decode cX13_changeKind 35 = .ok (.iaload, 1) := by decide +kernel
theorem dX13_changeKind_36 : decode cX13_changeKind 36 = .ok (.iconst 2, 1) := by decide +kernel
theorem dX13_changeKind_37 : decode cX13_changeKind 37 = .ok (.irem, 1) := by decide +kernel
theorem dX13_changeKind_38 : decode cX13_changeKind 38 = .ok (.iadd, 1) := by decide +kernel
theorem dX13_changeKind_39 : decode cX13_changeKind 39 = .ok (.ireturn, 1) := by decide +kernel
theorem dX13_changeRegion_0 : decode cX13_changeRegion 0 = .ok (.aload_n 0, 1) := by decide +kernel
theorem dX13_changeRegion_1 : decode cX13_changeRegion 1 = .ok (.iload_n 1, 1) := by decide +kernel
theorem dX13_changeRegion_2 : decode cX13_changeRegion 2 = .ok (.aload_n 0, 1) := by decide +kernel
theorem dX13_changeRegion_3 : decode cX13_changeRegion 3 = .ok (.getfield 467, 3) := by decide +kernel
theorem dX13_changeRegion_6 : decode cX13_changeRegion 6 = .ok (.invokevirtual 507, 3) := by decide +kernel
theorem dX13_changeRegion_9 : decode cX13_changeRegion 9 = .ok (.ifCond .eq 7, 3) := by decide +kernel
theorem dX13_changeRegion_12 : decode cX13_changeRegion 12 = .ok (.iconst 0, 1) := by decide +kernel
theorem dX13_changeRegion_13 : decode cX13_changeRegion 13 = .ok (.goto 11, 3) := by decide +kernel
theorem dX13_changeRegion_16 : decode cX13_changeRegion 16 = .ok (.aload_n 0, 1) := by decide +kernel
theorem dX13_changeRegion_17 : decode cX13_changeRegion 17 = .ok (.getfield 164, 3) := by decide +kernel
theorem dX13_changeRegion_20 : decode cX13_changeRegion 20 = .ok (.iload_n 1, 1) := by decide +kernel
theorem dX13_changeRegion_21 : decode cX13_changeRegion 21 = .ok (.iaload, 1) := by decide +kernel
theorem dX13_changeRegion_22 : decode cX13_changeRegion 22 = .ok (.iconst 2, 1) := by decide +kernel
theorem dX13_changeRegion_23 : decode cX13_changeRegion 23 = .ok (.idiv, 1) := by decide +kernel
theorem dX13_changeRegion_24 : decode cX13_changeRegion 24 = .ok (.ireturn, 1) := by decide +kernel
theorem dX13_changeTarget_0 : decode cX13_changeTarget 0 = .ok (.aload_n 0, 1) := by decide +kernel
theorem dX13_changeTarget_1 : decode cX13_changeTarget 1 = .ok (.iload_n 1, 1) := by decide +kernel
theorem dX13_changeTarget_2 : decode cX13_changeTarget 2 = .ok (.aload_n 0, 1) := by decide +kernel
theorem dX13_changeTarget_3 : decode cX13_changeTarget 3 = .ok (.getfield 467, 3) := by decide +kernel
theorem dX13_changeTarget_6 : decode cX13_changeTarget 6 = .ok (.invokevirtual 507, 3) := by decide +kernel
theorem dX13_changeTarget_9 : decode cX13_changeTarget 9 = .ok (.ifCond .eq 7, 3) := by decide +kernel
theorem dX13_changeTarget_12 : decode cX13_changeTarget 12 = .ok (.iconst 0, 1) := by decide +kernel
theorem dX13_changeTarget_13 : decode cX13_changeTarget 13 = .ok (.goto 24, 3) := by decide +kernel
theorem dX13_changeTarget_16 : decode cX13_changeTarget 16 = .ok (.aload_n 0, 1) := by decide +kernel
theorem dX13_changeTarget_17 : decode cX13_changeTarget 17 = .ok (.getfield 167, 3) := by decide +kernel
theorem dX13_changeTarget_20 : decode cX13_changeTarget 20 = .ok (.iload_n 1, 1) := by decide +kernel
theorem dX13_changeTarget_21 : decode cX13_changeTarget 21 = .ok (.iaload, 1) := by decide +kernel
theorem dX13_changeTarget_22 : decode cX13_changeTarget 22 = .ok (.ifCond .lt 14, 3) := by decide +kernel
theorem dX13_changeTarget_25 : decode cX13_changeTarget 25 = .ok (.aload_n 0, 1) := by decide +kernel
theorem dX13_changeTarget_26 : decode cX13_changeTarget 26 = .ok (.getfield 167, 3) := by decide +kernel
theorem dX13_changeTarget_29 : decode cX13_changeTarget 29 = .ok (.iload_n 1, 1) := by decide +kernel
theorem dX13_changeTarget_30 : decode cX13_changeTarget 30 = .ok (.iaload, 1) := by decide +kernel
theorem dX13_changeTarget_31 : decode cX13_changeTarget 31 = .ok (.iconst 2, 1) := by decide +kernel
theorem dX13_changeTarget_32 : decode cX13_changeTarget 32 = .ok (.idiv, 1) := by decide +kernel
theorem dX13_changeTarget_33 : decode cX13_changeTarget 33 = .ok (.goto 4, 3) := by decide +kernel
theorem dX13_changeTarget_36 : decode cX13_changeTarget 36 = .ok (.iconst (-1), 1) := by decide +kernel
theorem dX13_changeTarget_37 : decode cX13_changeTarget 37 = .ok (.ireturn, 1) := by decide +kernel
theorem dX13_moveX_0 : decode cX13_moveX 0 = .ok (.aload_n 0, 1) := by decide +kernel
theorem dX13_moveX_1 : decode cX13_moveX 1 = .ok (.iload_n 1, 1) := by decide +kernel
theorem dX13_moveX_2 : decode cX13_moveX 2 = .ok (.aload_n 0, 1) := by decide +kernel
theorem dX13_moveX_3 : decode cX13_moveX 3 = .ok (.getfield 467, 3) := by decide +kernel
theorem dX13_moveX_6 : decode cX13_moveX 6 = .ok (.invokevirtual 507, 3) := by decide +kernel
theorem dX13_moveX_9 : decode cX13_moveX 9 = .ok (.ifCond .ne 12, 3) := by decide +kernel
theorem dX13_moveX_12 : decode cX13_moveX 12 = .ok (.aload_n 0, 1) := by decide +kernel
theorem dX13_moveX_13 : decode cX13_moveX 13 = .ok (.getfield 167, 3) := by decide +kernel
theorem dX13_moveX_16 : decode cX13_moveX 16 = .ok (.iload_n 1, 1) := by decide +kernel
theorem dX13_moveX_17 : decode cX13_moveX 17 = .ok (.iaload, 1) := by decide +kernel
theorem dX13_moveX_18 : decode cX13_moveX 18 = .ok (.ifCond .ge 7, 3) := by decide +kernel
theorem dX13_moveX_21 : decode cX13_moveX 21 = .ok (.iconst 0, 1) := by decide +kernel
theorem dX13_moveX_22 : decode cX13_moveX 22 = .ok (.goto 26, 3) := by decide +kernel
theorem dX13_moveX_25 : decode cX13_moveX 25 = .ok (.aload_n 0, 1) := by decide +kernel
theorem dX13_moveX_26 : decode cX13_moveX 26 = .ok (.getfield 149, 3) := by decide +kernel
theorem dX13_moveX_29 : decode cX13_moveX 29 = .ok (.aload_n 0, 1) := by decide +kernel
theorem dX13_moveX_30 : decode cX13_moveX 30 = .ok (.getfield 167, 3) := by decide +kernel
theorem dX13_moveX_33 : decode cX13_moveX 33 = .ok (.iload_n 1, 1) := by decide +kernel
theorem dX13_moveX_34 : decode cX13_moveX 34 = .ok (.iaload, 1) := by decide +kernel
theorem dX13_moveX_35 : decode cX13_moveX 35 = .ok (.iaload, 1) := by decide +kernel
theorem dX13_moveX_36 : decode cX13_moveX 36 = .ok (.aload_n 0, 1) := by decide +kernel
theorem dX13_moveX_37 : decode cX13_moveX 37 = .ok (.getfield 149, 3) := by decide +kernel
theorem dX13_moveX_40 : decode cX13_moveX 40 = .ok (.aload_n 0, 1) := by decide +kernel
theorem dX13_moveX_41 : decode cX13_moveX 41 = .ok (.getfield 164, 3) := by decide +kernel
theorem dX13_moveX_44 : decode cX13_moveX 44 = .ok (.iload_n 1, 1) := by decide +kernel
theorem dX13_moveX_45 : decode cX13_moveX 45 = .ok (.iaload, 1) := by decide +kernel
theorem dX13_moveX_46 : decode cX13_moveX 46 = .ok (.iaload, 1) := by decide +kernel
theorem dX13_moveX_47 : decode cX13_moveX 47 = .ok (.isub, 1) := by decide +kernel
theorem dX13_moveX_48 : decode cX13_moveX 48 = .ok (.ireturn, 1) := by decide +kernel
theorem dX13_moveY_0 : decode cX13_moveY 0 = .ok (.aload_n 0, 1) := by decide +kernel
theorem dX13_moveY_1 : decode cX13_moveY 1 = .ok (.iload_n 1, 1) := by decide +kernel
theorem dX13_moveY_2 : decode cX13_moveY 2 = .ok (.aload_n 0, 1) := by decide +kernel
theorem dX13_moveY_3 : decode cX13_moveY 3 = .ok (.getfield 467, 3) := by decide +kernel
theorem dX13_moveY_6 : decode cX13_moveY 6 = .ok (.invokevirtual 507, 3) := by decide +kernel
theorem dX13_moveY_9 : decode cX13_moveY 9 = .ok (.ifCond .ne 12, 3) := by decide +kernel
theorem dX13_moveY_12 : decode cX13_moveY 12 = .ok (.aload_n 0, 1) := by decide +kernel
theorem dX13_moveY_13 : decode cX13_moveY 13 = .ok (.getfield 167, 3) := by decide +kernel
theorem dX13_moveY_16 : decode cX13_moveY 16 = .ok (.iload_n 1, 1) := by decide +kernel
theorem dX13_moveY_17 : decode cX13_moveY 17 = .ok (.iaload, 1) := by decide +kernel
theorem dX13_moveY_18 : decode cX13_moveY 18 = .ok (.ifCond .ge 7, 3) := by decide +kernel
theorem dX13_moveY_21 : decode cX13_moveY 21 = .ok (.iconst 0, 1) := by decide +kernel
theorem dX13_moveY_22 : decode cX13_moveY 22 = .ok (.goto 26, 3) := by decide +kernel
theorem dX13_moveY_25 : decode cX13_moveY 25 = .ok (.aload_n 0, 1) := by decide +kernel
theorem dX13_moveY_26 : decode cX13_moveY 26 = .ok (.getfield 152, 3) := by decide +kernel
theorem dX13_moveY_29 : decode cX13_moveY 29 = .ok (.aload_n 0, 1) := by decide +kernel
theorem dX13_moveY_30 : decode cX13_moveY 30 = .ok (.getfield 167, 3) := by decide +kernel
theorem dX13_moveY_33 : decode cX13_moveY 33 = .ok (.iload_n 1, 1) := by decide +kernel
theorem dX13_moveY_34 : decode cX13_moveY 34 = .ok (.iaload, 1) := by decide +kernel
theorem dX13_moveY_35 : decode cX13_moveY 35 = .ok (.iaload, 1) := by decide +kernel
theorem dX13_moveY_36 : decode cX13_moveY 36 = .ok (.aload_n 0, 1) := by decide +kernel
theorem dX13_moveY_37 : decode cX13_moveY 37 = .ok (.getfield 152, 3) := by decide +kernel
theorem dX13_moveY_40 : decode cX13_moveY 40 = .ok (.aload_n 0, 1) := by decide +kernel
theorem dX13_moveY_41 : decode cX13_moveY 41 = .ok (.getfield 164, 3) := by decide +kernel
theorem dX13_moveY_44 : decode cX13_moveY 44 = .ok (.iload_n 1, 1) := by decide +kernel
theorem dX13_moveY_45 : decode cX13_moveY 45 = .ok (.iaload, 1) := by decide +kernel
theorem dX13_moveY_46 : decode cX13_moveY 46 = .ok (.iaload, 1) := by decide +kernel
theorem dX13_moveY_47 : decode cX13_moveY 47 = .ok (.isub, 1) := by decide +kernel
theorem dX13_moveY_48 : decode cX13_moveY 48 = .ok (.ireturn, 1) := by decide +kernel
theorem dX13_changePixels_0 : decode cX13_changePixels 0 = .ok (.aload_n 0, 1) := by decide +kernel
theorem dX13_changePixels_1 : decode cX13_changePixels 1 = .ok (.iload_n 1, 1) := by decide +kernel
theorem dX13_changePixels_2 : decode cX13_changePixels 2 = .ok (.aload_n 0, 1) := by decide +kernel
theorem dX13_changePixels_3 : decode cX13_changePixels 3 = .ok (.getfield 467, 3) := by decide +kernel
theorem dX13_changePixels_6 : decode cX13_changePixels 6 = .ok (.invokevirtual 507, 3) := by decide +kernel
theorem dX13_changePixels_9 : decode cX13_changePixels 9 = .ok (.ifCond .eq 7, 3) := by decide +kernel
theorem dX13_changePixels_12 : decode cX13_changePixels 12 = .ok (.iconst 0, 1) := by decide +kernel
theorem dX13_changePixels_13 : decode cX13_changePixels 13 = .ok (.goto 14, 3) := by decide +kernel
theorem dX13_changePixels_16 : decode cX13_changePixels 16 = .ok (.aload_n 0, 1) := by decide +kernel
theorem dX13_changePixels_17 : decode cX13_changePixels 17 = .ok (.getfield 146, 3) := by decide +kernel
theorem dX13_changePixels_20 : decode cX13_changePixels 20 = .ok (.aload_n 0, 1) := by decide +kernel
theorem dX13_changePixels_21 : decode cX13_changePixels 21 = .ok (.getfield 164, 3) := by decide +kernel
theorem dX13_changePixels_24 : decode cX13_changePixels 24 = .ok (.iload_n 1, 1) := by decide +kernel
theorem dX13_changePixels_25 : decode cX13_changePixels 25 = .ok (.iaload, 1) := by decide +kernel
theorem dX13_changePixels_26 : decode cX13_changePixels 26 = .ok (.iaload, 1) := by decide +kernel
theorem dX13_changePixels_27 : decode cX13_changePixels 27 = .ok (.ireturn, 1) := by decide +kernel
theorem dX13_changeLine_0 : decode cX13_changeLine 0 = .ok (.aload_n 0, 1) := by decide +kernel
theorem dX13_changeLine_1 : decode cX13_changeLine 1 = .ok (.iload_n 1, 1) := by decide +kernel
theorem dX13_changeLine_2 : decode cX13_changeLine 2 = .ok (.aload_n 0, 1) := by decide +kernel
theorem dX13_changeLine_3 : decode cX13_changeLine 3 = .ok (.getfield 467, 3) := by decide +kernel
theorem dX13_changeLine_6 : decode cX13_changeLine 6 = .ok (.invokevirtual 507, 3) := by decide +kernel
theorem dX13_changeLine_9 : decode cX13_changeLine 9 = .ok (.ifCond .eq 7, 3) := by decide +kernel
theorem dX13_changeLine_12 : decode cX13_changeLine 12 = .ok (.iconst 0, 1) := by decide +kernel
theorem dX13_changeLine_13 : decode cX13_changeLine 13 = .ok (.goto 9, 3) := by decide +kernel
theorem dX13_changeLine_16 : decode cX13_changeLine 16 = .ok (.aload_n 0, 1) := by decide +kernel
theorem dX13_changeLine_17 : decode cX13_changeLine 17 = .ok (.getfield 170, 3) := by decide +kernel
theorem dX13_changeLine_20 : decode cX13_changeLine 20 = .ok (.iload_n 1, 1) := by decide +kernel
theorem dX13_changeLine_21 : decode cX13_changeLine 21 = .ok (.iaload, 1) := by decide +kernel
theorem dX13_changeLine_22 : decode cX13_changeLine 22 = .ok (.ireturn, 1) := by decide +kernel
theorem dX13_reportChar_0 : decode cX13_reportChar 0 = .ok (.aload_n 0, 1) := by decide +kernel
theorem dX13_reportChar_1 : decode cX13_reportChar 1 = .ok (.iconst 0, 1) := by decide +kernel
theorem dX13_reportChar_2 : decode cX13_reportChar 2 = .ok (.putfield 186, 3) := by decide +kernel
theorem dX13_reportChar_5 : decode cX13_reportChar 5 = .ok (.aload_n 0, 1) := by decide +kernel
theorem dX13_reportChar_6 : decode cX13_reportChar 6 = .ok (.getfield 502, 3) := by decide +kernel
theorem dX13_reportChar_9 : decode cX13_reportChar 9 = .ok (.ifCond .ne 9, 3) := by decide +kernel
theorem dX13_reportChar_12 : decode cX13_reportChar 12 = .ok (.aload_n 0, 1) := by decide +kernel
theorem dX13_reportChar_13 : decode cX13_reportChar 13 = .ok (.iconst 1, 1) := by decide +kernel
theorem dX13_reportChar_14 : decode cX13_reportChar 14 = .ok (.invokevirtual 206, 3) := by decide +kernel
theorem dX13_reportChar_17 : decode cX13_reportChar 17 = .ok (.ireturn, 1) := by decide +kernel
theorem dX13_reportChar_18 : decode cX13_reportChar 18 = .ok (.iload_n 1, 1) := by decide +kernel
theorem dX13_reportChar_19 : decode cX13_reportChar 19 = .ok (.ifCond .ge 9, 3) := by decide +kernel
theorem dX13_reportChar_22 : decode cX13_reportChar 22 = .ok (.aload_n 0, 1) := by decide +kernel
theorem dX13_reportChar_23 : decode cX13_reportChar 23 = .ok (.iconst 2, 1) := by decide +kernel
theorem dX13_reportChar_24 : decode cX13_reportChar 24 = .ok (.invokevirtual 206, 3) := by decide +kernel
theorem dX13_reportChar_27 : decode cX13_reportChar 27 = .ok (.ireturn, 1) := by decide +kernel
theorem dX13_reportChar_28 : decode cX13_reportChar 28 = .ok (.iload_n 1, 1) := by decide +kernel
theorem dX13_reportChar_29 : decode cX13_reportChar 29 = .ok (.aload_n 0, 1) := by decide +kernel
theorem dX13_reportChar_30 : decode cX13_reportChar 30 = .ok (.getfield 318, 3) := by decide +kernel
theorem dX13_reportChar_33 : decode cX13_reportChar 33 = .ok (.if_icmp .ge 12, 3) := by decide +kernel
theorem dX13_reportChar_36 : decode cX13_reportChar 36 = .ok (.aload_n 0, 1) := by decide +kernel
theorem dX13_reportChar_37 : decode cX13_reportChar 37 = .ok (.getfield 59, 3) := by decide +kernel
theorem dX13_reportChar_40 : decode cX13_reportChar 40 = .ok (.iload_n 1, 1) := by decide +kernel
theorem dX13_reportChar_41 : decode cX13_reportChar 41 = .ok (.iaload, 1) := by decide +kernel
theorem dX13_reportChar_42 : decode cX13_reportChar 42 = .ok (.goto 4, 3) := by decide +kernel
theorem dX13_reportChar_45 : decode cX13_reportChar 45 = .ok (.iconst (-1), 1) := by decide +kernel
theorem dX13_reportChar_46 : decode cX13_reportChar 46 = .ok (.ireturn, 1) := by decide +kernel
theorem dX13_learn_0 : decode cX13_learn 0 = .ok (.aload_n 0, 1) := by decide +kernel
theorem dX13_learn_1 : decode cX13_learn 1 = .ok (.iconst 0, 1) := by decide +kernel
theorem dX13_learn_2 : decode cX13_learn 2 = .ok (.putfield 186, 3) := by decide +kernel
theorem dX13_learn_5 : decode cX13_learn 5 = .ok (.aload_n 0, 1) := by decide +kernel
theorem dX13_learn_6 : decode cX13_learn 6 = .ok (.getfield 502, 3) := by decide +kernel
theorem dX13_learn_9 : decode cX13_learn 9 = .ok (.ifCond .eq 19, 3) := by decide +kernel
theorem dX13_learn_12 : decode cX13_learn 12 = .ok (.iload_n 1, 1) := by decide +kernel
theorem dX13_learn_13 : decode cX13_learn 13 = .ok (.i2l, 1) := by decide +kernel
theorem dX13_learn_14 : decode cX13_learn 14 = .ok (.lconst 0, 1) := by decide +kernel
theorem dX13_learn_15 : decode cX13_learn 15 = .ok (.aload_n 0, 1) := by decide +kernel
theorem dX13_learn_16 : decode cX13_learn 16 = .ok (.getfield 467, 3) := by decide +kernel
theorem dX13_learn_19 : decode cX13_learn 19 = .ok (.iconst 1, 1) := by decide +kernel
theorem dX13_learn_20 : decode cX13_learn 20 = .ok (.isub, 1) := by decide +kernel
theorem dX13_learn_21 : decode cX13_learn 21 = .ok (.i2l, 1) := by decide +kernel
theorem dX13_learn_22 : decode cX13_learn 22 = .ok (.invokestatic 191, 3) := by decide +kernel
theorem dX13_learn_25 : decode cX13_learn 25 = .ok (.ifCond .ne 9, 3) := by decide +kernel
theorem dX13_learn_28 : decode cX13_learn 28 = .ok (.aload_n 0, 1) := by decide +kernel
theorem dX13_learn_29 : decode cX13_learn 29 = .ok (.iconst 1, 1) := by decide +kernel
theorem dX13_learn_30 : decode cX13_learn 30 = .ok (.invokevirtual 206, 3) := by decide +kernel
theorem dX13_learn_33 : decode cX13_learn 33 = .ok (.ireturn, 1) := by decide +kernel
theorem dX13_learn_34 : decode cX13_learn 34 = .ok (.aload_n 0, 1) := by decide +kernel
theorem dX13_learn_35 : decode cX13_learn 35 = .ok (.getfield 164, 3) := by decide +kernel
theorem dX13_learn_38 : decode cX13_learn 38 = .ok (.iload_n 1, 1) := by decide +kernel
theorem dX13_learn_39 : decode cX13_learn 39 = .ok (.iaload, 1) := by decide +kernel
theorem dX13_learn_40 : decode cX13_learn 40 = .ok (.istore_n 2, 1) := by decide +kernel
theorem dX13_learn_41 : decode cX13_learn 41 = .ok (.aload_n 0, 1) := by decide +kernel
theorem dX13_learn_42 : decode cX13_learn 42 = .ok (.iload_n 2, 1) := by decide +kernel
theorem dX13_learn_43 : decode cX13_learn 43 = .ok (.invokevirtual 464, 3) := by decide +kernel
theorem dX13_learn_46 : decode cX13_learn 46 = .ok (.istore_n 3, 1) := by decide +kernel
theorem dX13_learn_47 : decode cX13_learn 47 = .ok (.iload_n 3, 1) := by decide +kernel
theorem dX13_learn_48 : decode cX13_learn 48 = .ok (.ifCond .lt 5, 3) := by decide +kernel
theorem dX13_learn_51 : decode cX13_learn 51 = .ok (.iload_n 3, 1) := by decide +kernel
theorem dX13_learn_52 : decode cX13_learn 52 = .ok (.ireturn, 1) := by decide +kernel
theorem dX13_learn_53 : decode cX13_learn 53 = .ok (.aload_n 0, 1) := by decide +kernel
theorem dX13_learn_54 : decode cX13_learn 54 = .ok (.getfield 458, 3) := by decide +kernel
theorem dX13_learn_57 : decode cX13_learn 57 = .ok (.bipush 7, 2) := by decide +kernel
theorem dX13_learn_59 : decode cX13_learn 59 = .ok (.if_icmp .ne 9, 3) := by decide +kernel
theorem dX13_learn_62 : decode cX13_learn 62 = .ok (.aload_n 0, 1) := by decide +kernel
theorem dX13_learn_63 : decode cX13_learn 63 = .ok (.iconst 2, 1) := by decide +kernel
theorem dX13_learn_64 : decode cX13_learn 64 = .ok (.invokevirtual 206, 3) := by decide +kernel
theorem dX13_learn_67 : decode cX13_learn 67 = .ok (.ireturn, 1) := by decide +kernel
theorem dX13_learn_68 : decode cX13_learn 68 = .ok (.aload_n 0, 1) := by decide +kernel
theorem dX13_learn_69 : decode cX13_learn 69 = .ok (.getfield 77, 3) := by decide +kernel
theorem dX13_learn_72 : decode cX13_learn 72 = .ok (.aload_n 0, 1) := by decide +kernel
theorem dX13_learn_73 : decode cX13_learn 73 = .ok (.getfield 458, 3) := by decide +kernel
theorem dX13_learn_76 : decode cX13_learn 76 = .ok (.aload_n 0, 1) := by decide +kernel
theorem dX13_learn_77 : decode cX13_learn 77 = .ok (.iload_n 2, 1) := by decide +kernel
theorem dX13_learn_78 : decode cX13_learn 78 = .ok (.invokevirtual 452, 3) := by decide +kernel
theorem dX13_learn_81 : decode cX13_learn 81 = .ok (.iastore, 1) := by decide +kernel
theorem dX13_learn_82 : decode cX13_learn 82 = .ok (.aload_n 0, 1) := by decide +kernel
theorem dX13_learn_83 : decode cX13_learn 83 = .ok (.getfield 80, 3) := by decide +kernel
theorem dX13_learn_86 : decode cX13_learn 86 = .ok (.aload_n 0, 1) := by decide +kernel
theorem dX13_learn_87 : decode cX13_learn 87 = .ok (.getfield 458, 3) := by decide +kernel
theorem dX13_learn_90 : decode cX13_learn 90 = .ok (.aload_n 0, 1) := by decide +kernel
theorem dX13_learn_91 : decode cX13_learn 91 = .ok (.iload_n 2, 1) := by decide +kernel
theorem dX13_learn_92 : decode cX13_learn 92 = .ok (.invokevirtual 455, 3) := by decide +kernel
theorem dX13_learn_95 : decode cX13_learn 95 = .ok (.iastore, 1) := by decide +kernel
theorem dX13_learn_96 : decode cX13_learn 96 = .ok (.iconst 0, 1) := by decide +kernel
theorem dX13_learn_97 : decode cX13_learn 97 = .ok (.istore 4, 2) := by decide +kernel
theorem dX13_learn_99 : decode cX13_learn 99 = .ok (.iload 4, 2) := by decide +kernel
theorem dX13_learn_101 : decode cX13_learn 101 = .ok (.sipush 4096, 3) := by decide +kernel
theorem dX13_learn_104 : decode cX13_learn 104 = .ok (.if_icmp .ge 106, 3) := by decide +kernel
theorem dX13_learn_107 : decode cX13_learn 107 = .ok (.iload 4, 2) := by decide +kernel
theorem dX13_learn_109 : decode cX13_learn 109 = .ok (.bipush 64, 2) := by decide +kernel
theorem dX13_learn_111 : decode cX13_learn 111 = .ok (.irem, 1) := by decide +kernel
theorem dX13_learn_112 : decode cX13_learn 112 = .ok (.istore 5, 2) := by decide +kernel
theorem dX13_learn_114 : decode cX13_learn 114 = .ok (.iload 4, 2) := by decide +kernel
theorem dX13_learn_116 : decode cX13_learn 116 = .ok (.bipush 64, 2) := by decide +kernel
theorem dX13_learn_118 : decode cX13_learn 118 = .ok (.idiv, 1) := by decide +kernel
theorem dX13_learn_119 : decode cX13_learn 119 = .ok (.istore 6, 2) := by decide +kernel
theorem dX13_learn_121 : decode cX13_learn 121 = .ok (.iload 5, 2) := by decide +kernel
theorem dX13_learn_123 : decode cX13_learn 123 = .ok (.aload_n 0, 1) := by decide +kernel
theorem dX13_learn_124 : decode cX13_learn 124 = .ok (.iload_n 2, 1) := by decide +kernel
theorem dX13_learn_125 : decode cX13_learn 125 = .ok (.invokevirtual 452, 3) := by decide +kernel
theorem dX13_learn_128 : decode cX13_learn 128 = .ok (.if_icmp .ge 17, 3) := by decide +kernel
theorem dX13_learn_131 : decode cX13_learn 131 = .ok (.iload 6, 2) := by decide +kernel
theorem dX13_learn_133 : decode cX13_learn 133 = .ok (.aload_n 0, 1) := by decide +kernel
theorem dX13_learn_134 : decode cX13_learn 134 = .ok (.iload_n 2, 1) := by decide +kernel
theorem dX13_learn_135 : decode cX13_learn 135 = .ok (.invokevirtual 455, 3) := by decide +kernel
theorem dX13_learn_138 : decode cX13_learn 138 = .ok (.if_icmp .ge 7, 3) := by decide +kernel
theorem dX13_learn_141 : decode cX13_learn 141 = .ok (.iconst 1, 1) := by decide +kernel
theorem dX13_learn_142 : decode cX13_learn 142 = .ok (.goto 4, 3) := by decide +kernel
theorem dX13_learn_145 : decode cX13_learn 145 = .ok (.iconst 0, 1) := by decide +kernel
theorem dX13_learn_146 : decode cX13_learn 146 = .ok (.istore 7, 2) := by decide +kernel
theorem dX13_learn_148 : decode cX13_learn 148 = .ok (.aload_n 0, 1) := by decide +kernel
theorem dX13_learn_149 : decode cX13_learn 149 = .ok (.getfield 74, 3) := by decide +kernel
theorem dX13_learn_152 : decode cX13_learn 152 = .ok (.sipush 4096, 3) := by decide +kernel
theorem dX13_learn_155 : decode cX13_learn 155 = .ok (.aload_n 0, 1) := by decide +kernel
theorem dX13_learn_156 : decode cX13_learn 156 = .ok (.getfield 458, 3) := by decide +kernel
theorem dX13_learn_159 : decode cX13_learn 159 = .ok (.imul, 1) := by decide +kernel
theorem dX13_learn_160 : decode cX13_learn 160 = .ok (.iload 4, 2) := by decide +kernel
theorem dX13_learn_162 : decode cX13_learn 162 = .ok (.iadd, 1) := by decide +kernel
theorem dX13_learn_163 : decode cX13_learn 163 = .ok (.iload 7, 2) := by decide +kernel
theorem dX13_learn_165 : decode cX13_learn 165 = .ok (.ifCond .eq 37, 3) := by decide +kernel
theorem dX13_learn_168 : decode cX13_learn 168 = .ok (.aload_n 0, 1) := by decide +kernel
theorem dX13_learn_169 : decode cX13_learn 169 = .ok (.iload_n 2, 1) := by decide +kernel
theorem dX13_learn_170 : decode cX13_learn 170 = .ok (.bipush 64, 2) := by decide +kernel
theorem dX13_learn_172 : decode cX13_learn 172 = .ok (.aload_n 0, 1) := by decide +kernel
theorem dX13_learn_173 : decode cX13_learn 173 = .ok (.getfield 152, 3) := by decide +kernel
theorem dX13_learn_176 : decode cX13_learn 176 = .ok (.iload_n 2, 1) := by decide +kernel
theorem dX13_learn_177 : decode cX13_learn 177 = .ok (.iaload, 1) := by decide +kernel
theorem dX13_learn_178 : decode cX13_learn 178 = .ok (.iload 6, 2) := by decide +kernel
theorem dX13_learn_180 : decode cX13_learn 180 = .ok (.iadd, 1) := by decide +kernel
theorem dX13_learn_181 : decode cX13_learn 181 = .ok (.imul, 1) := by decide +kernel
theorem dX13_learn_182 : decode cX13_learn 182 = .ok (.aload_n 0, 1) := by decide +kernel
theorem dX13_learn_183 : decode cX13_learn 183 = .ok (.getfield 149, 3) := by decide +kernel
theorem dX13_learn_186 : decode cX13_learn 186 = .ok (.iload_n 2, 1) := by decide +kernel
theorem dX13_learn_187 : decode cX13_learn 187 = .ok (.iaload, 1) := by decide +kernel
theorem dX13_learn_188 : decode cX13_learn 188 = .ok (.iadd, 1) := by decide +kernel
theorem dX13_learn_189 : decode cX13_learn 189 = .ok (.iload 5, 2) := by decide +kernel
theorem dX13_learn_191 : decode cX13_learn 191 = .ok (.iadd, 1) := by decide +kernel
theorem dX13_learn_192 : decode cX13_learn 192 = .ok (.invokevirtual 449, 3) := by decide +kernel
theorem dX13_learn_195 : decode cX13_learn 195 = .ok (.ifCond .eq 7, 3) := by decide +kernel
theorem dX13_learn_198 : decode cX13_learn 198 = .ok (.iconst 1, 1) := by decide +kernel
theorem dX13_learn_199 : decode cX13_learn 199 = .ok (.goto 4, 3) := by decide +kernel
theorem dX13_learn_202 : decode cX13_learn 202 = .ok (.iconst 0, 1) := by decide +kernel
theorem dX13_learn_203 : decode cX13_learn 203 = .ok (.bastore, 1) := by decide +kernel
theorem dX13_learn_204 : decode cX13_learn 204 = .ok (.iinc 4 1, 3) := by decide +kernel
theorem dX13_learn_207 : decode cX13_learn 207 = .ok (.goto (-108), 3) := by decide +kernel
theorem dX13_learn_210 : decode cX13_learn 210 = .ok (.aload_n 0, 1) := by decide +kernel
theorem dX13_learn_211 : decode cX13_learn 211 = .ok (.dup, 1) := by decide +kernel
theorem dX13_learn_212 : decode cX13_learn 212 = .ok (.getfield 458, 3) := by decide +kernel
theorem dX13_learn_215 : decode cX13_learn 215 = .ok (.iconst 1, 1) := by decide +kernel
theorem dX13_learn_216 : decode cX13_learn 216 = .ok (.iadd, 1) := by decide +kernel
theorem dX13_learn_217 : decode cX13_learn 217 = .ok (.putfield 458, 3) := by decide +kernel
theorem dX13_learn_220 : decode cX13_learn 220 = .ok (.aload_n 0, 1) := by decide +kernel
theorem dX13_learn_221 : decode cX13_learn 221 = .ok (.getfield 458, 3) := by decide +kernel
theorem dX13_learn_224 : decode cX13_learn 224 = .ok (.iconst 1, 1) := by decide +kernel
theorem dX13_learn_225 : decode cX13_learn 225 = .ok (.isub, 1) := by decide +kernel
theorem dX13_learn_226 : decode cX13_learn 226 = .ok (.ireturn, 1) := by decide +kernel
theorem dX13_stampOf_0 : decode cX13_stampOf 0 = .ok (.aload_n 0, 1) := by decide +kernel
theorem dX13_stampOf_1 : decode cX13_stampOf 1 = .ok (.iload_n 1, 1) := by decide +kernel
theorem dX13_stampOf_2 : decode cX13_stampOf 2 = .ok (.aload_n 0, 1) := by decide +kernel
theorem dX13_stampOf_3 : decode cX13_stampOf 3 = .ok (.getfield 467, 3) := by decide +kernel
theorem dX13_stampOf_6 : decode cX13_stampOf 6 = .ok (.invokevirtual 507, 3) := by decide +kernel
theorem dX13_stampOf_9 : decode cX13_stampOf 9 = .ok (.ifCond .eq 7, 3) := by decide +kernel
theorem dX13_stampOf_12 : decode cX13_stampOf 12 = .ok (.iconst 0, 1) := by decide +kernel
theorem dX13_stampOf_13 : decode cX13_stampOf 13 = .ok (.goto 13, 3) := by decide +kernel
theorem dX13_stampOf_16 : decode cX13_stampOf 16 = .ok (.aload_n 0, 1) := by decide +kernel
theorem dX13_stampOf_17 : decode cX13_stampOf 17 = .ok (.aload_n 0, 1) := by decide +kernel
theorem dX13_stampOf_18 : decode cX13_stampOf 18 = .ok (.getfield 164, 3) := by decide +kernel
theorem dX13_stampOf_21 : decode cX13_stampOf 21 = .ok (.iload_n 1, 1) := by decide +kernel
theorem dX13_stampOf_22 : decode cX13_stampOf 22 = .ok (.iaload, 1) := by decide +kernel
theorem dX13_stampOf_23 : decode cX13_stampOf 23 = .ok (.invokevirtual 464, 3) := by decide +kernel
theorem dX13_stampOf_26 : decode cX13_stampOf 26 = .ok (.ireturn, 1) := by decide +kernel
theorem dX13_forgetStamp_0 : decode cX13_forgetStamp 0 = .ok (.aload_n 0, 1) := by decide +kernel
theorem dX13_forgetStamp_1 : decode cX13_forgetStamp 1 = .ok (.iconst 0, 1) := by decide +kernel
theorem dX13_forgetStamp_2 : decode cX13_forgetStamp 2 = .ok (.putfield 186, 3) := by decide +kernel
theorem dX13_forgetStamp_5 : decode cX13_forgetStamp 5 = .ok (.iload_n 1, 1) := by decide +kernel
theorem dX13_forgetStamp_6 : decode cX13_forgetStamp 6 = .ok (.i2l, 1) := by decide +kernel
theorem dX13_forgetStamp_7 : decode cX13_forgetStamp 7 = .ok (.lconst 0, 1) := by decide +kernel
theorem dX13_forgetStamp_8 : decode cX13_forgetStamp 8 = .ok (.aload_n 0, 1) := by decide +kernel
theorem dX13_forgetStamp_9 : decode cX13_forgetStamp 9 = .ok (.getfield 458, 3) := by decide +kernel
theorem dX13_forgetStamp_12 : decode cX13_forgetStamp 12 = .ok (.iconst 1, 1) := by decide +kernel
theorem dX13_forgetStamp_13 : decode cX13_forgetStamp 13 = .ok (.isub, 1) := by decide +kernel
theorem dX13_forgetStamp_14 : decode cX13_forgetStamp 14 = .ok (.i2l, 1) := by decide +kernel
theorem dX13_forgetStamp_15 : decode cX13_forgetStamp 15 = .ok (.invokestatic 191, 3) := by decide +kernel
theorem dX13_forgetStamp_18 : decode cX13_forgetStamp 18 = .ok (.ifCond .ne 9, 3) := by decide +kernel
theorem dX13_forgetStamp_21 : decode cX13_forgetStamp 21 = .ok (.aload_n 0, 1) := by decide +kernel
theorem dX13_forgetStamp_22 : decode cX13_forgetStamp 22 = .ok (.iconst 1, 1) := by decide +kernel
theorem dX13_forgetStamp_23 : decode cX13_forgetStamp 23 = .ok (.invokevirtual 206, 3) := by decide +kernel
theorem dX13_forgetStamp_26 : decode cX13_forgetStamp 26 = .ok (.ireturn, 1) := by decide +kernel
theorem dX13_forgetStamp_27 : decode cX13_forgetStamp 27 = .ok (.aload_n 0, 1) := by decide +kernel
theorem dX13_forgetStamp_28 : decode cX13_forgetStamp 28 = .ok (.dup, 1) := by decide +kernel
theorem dX13_forgetStamp_29 : decode cX13_forgetStamp 29 = .ok (.getfield 458, 3) := by decide +kernel
theorem dX13_forgetStamp_32 : decode cX13_forgetStamp 32 = .ok (.iconst 1, 1) := by decide +kernel
theorem dX13_forgetStamp_33 : decode cX13_forgetStamp 33 = .ok (.isub, 1) := by decide +kernel
theorem dX13_forgetStamp_34 : decode cX13_forgetStamp 34 = .ok (.putfield 458, 3) := by decide +kernel
theorem dX13_forgetStamp_37 : decode cX13_forgetStamp 37 = .ok (.iload_n 1, 1) := by decide +kernel
theorem dX13_forgetStamp_38 : decode cX13_forgetStamp 38 = .ok (.istore_n 2, 1) := by decide +kernel
theorem dX13_forgetStamp_39 : decode cX13_forgetStamp 39 = .ok (.iload_n 2, 1) := by decide +kernel
theorem dX13_forgetStamp_40 : decode cX13_forgetStamp 40 = .ok (.aload_n 0, 1) := by decide +kernel
theorem dX13_forgetStamp_41 : decode cX13_forgetStamp 41 = .ok (.getfield 458, 3) := by decide +kernel
theorem dX13_forgetStamp_44 : decode cX13_forgetStamp 44 = .ok (.if_icmp .ge 78, 3) := by decide +kernel
theorem dX13_forgetStamp_47 : decode cX13_forgetStamp 47 = .ok (.aload_n 0, 1) := by decide +kernel
theorem dX13_forgetStamp_48 : decode cX13_forgetStamp 48 = .ok (.getfield 77, 3) := by decide +kernel
theorem dX13_forgetStamp_51 : decode cX13_forgetStamp 51 = .ok (.iload_n 2, 1) := by decide +kernel
theorem dX13_forgetStamp_52 : decode cX13_forgetStamp 52 = .ok (.aload_n 0, 1) := by decide +kernel
theorem dX13_forgetStamp_53 : decode cX13_forgetStamp 53 = .ok (.getfield 77, 3) := by decide +kernel
theorem dX13_forgetStamp_56 : decode cX13_forgetStamp 56 = .ok (.iload_n 2, 1) := by decide +kernel
theorem dX13_forgetStamp_57 : decode cX13_forgetStamp 57 = .ok (.iconst 1, 1) := by decide +kernel
theorem dX13_forgetStamp_58 : decode cX13_forgetStamp 58 = .ok (.iadd, 1) := by decide +kernel
theorem dX13_forgetStamp_59 : decode cX13_forgetStamp 59 = .ok (.iaload, 1) := by decide +kernel
theorem dX13_forgetStamp_60 : decode cX13_forgetStamp 60 = .ok (.iastore, 1) := by decide +kernel
theorem dX13_forgetStamp_61 : decode cX13_forgetStamp 61 = .ok (.aload_n 0, 1) := by decide +kernel
theorem dX13_forgetStamp_62 : decode cX13_forgetStamp 62 = .ok (.getfield 80, 3) := by decide +kernel
theorem dX13_forgetStamp_65 : decode cX13_forgetStamp 65 = .ok (.iload_n 2, 1) := by decide +kernel
theorem dX13_forgetStamp_66 : decode cX13_forgetStamp 66 = .ok (.aload_n 0, 1) := by decide +kernel
theorem dX13_forgetStamp_67 : decode cX13_forgetStamp 67 = .ok (.getfield 80, 3) := by decide +kernel
theorem dX13_forgetStamp_70 : decode cX13_forgetStamp 70 = .ok (.iload_n 2, 1) := by decide +kernel
theorem dX13_forgetStamp_71 : decode cX13_forgetStamp 71 = .ok (.iconst 1, 1) := by decide +kernel
theorem dX13_forgetStamp_72 : decode cX13_forgetStamp 72 = .ok (.iadd, 1) := by decide +kernel
theorem dX13_forgetStamp_73 : decode cX13_forgetStamp 73 = .ok (.iaload, 1) := by decide +kernel
theorem dX13_forgetStamp_74 : decode cX13_forgetStamp 74 = .ok (.iastore, 1) := by decide +kernel
theorem dX13_forgetStamp_75 : decode cX13_forgetStamp 75 = .ok (.iconst 0, 1) := by decide +kernel
theorem dX13_forgetStamp_76 : decode cX13_forgetStamp 76 = .ok (.istore_n 3, 1) := by decide +kernel
theorem dX13_forgetStamp_77 : decode cX13_forgetStamp 77 = .ok (.iload_n 3, 1) := by decide +kernel
theorem dX13_forgetStamp_78 : decode cX13_forgetStamp 78 = .ok (.sipush 4096, 3) := by decide +kernel
theorem dX13_forgetStamp_81 : decode cX13_forgetStamp 81 = .ok (.if_icmp .ge 35, 3) := by decide +kernel
theorem dX13_forgetStamp_84 : decode cX13_forgetStamp 84 = .ok (.aload_n 0, 1) := by decide +kernel
theorem dX13_forgetStamp_85 : decode cX13_forgetStamp 85 = .ok (.getfield 74, 3) := by decide +kernel
theorem dX13_forgetStamp_88 : decode cX13_forgetStamp 88 = .ok (.sipush 4096, 3) := by decide +kernel
theorem dX13_forgetStamp_91 : decode cX13_forgetStamp 91 = .ok (.iload_n 2, 1) := by decide +kernel
theorem dX13_forgetStamp_92 : decode cX13_forgetStamp 92 = .ok (.imul, 1) := by decide +kernel
theorem dX13_forgetStamp_93 : decode cX13_forgetStamp 93 = .ok (.iload_n 3, 1) := by decide +kernel
theorem dX13_forgetStamp_94 : decode cX13_forgetStamp 94 = .ok (.iadd, 1) := by decide +kernel
theorem dX13_forgetStamp_95 : decode cX13_forgetStamp 95 = .ok (.aload_n 0, 1) := by decide +kernel
theorem dX13_forgetStamp_96 : decode cX13_forgetStamp 96 = .ok (.getfield 74, 3) := by decide +kernel
theorem dX13_forgetStamp_99 : decode cX13_forgetStamp 99 = .ok (.sipush 4096, 3) := by decide +kernel
theorem dX13_forgetStamp_102 : decode cX13_forgetStamp 102 = .ok (.iload_n 2, 1) := by decide +kernel
theorem dX13_forgetStamp_103 : decode cX13_forgetStamp 103 = .ok (.iconst 1, 1) := by decide +kernel
theorem dX13_forgetStamp_104 : decode cX13_forgetStamp 104 = .ok (.iadd, 1) := by decide +kernel
theorem dX13_forgetStamp_105 : decode cX13_forgetStamp 105 = .ok (.imul, 1) := by decide +kernel
theorem dX13_forgetStamp_106 : decode cX13_forgetStamp 106 = .ok (.iload_n 3, 1) := by decide +kernel
theorem dX13_forgetStamp_107 : decode cX13_forgetStamp 107 = .ok (.iadd, 1) := by decide +kernel
theorem dX13_forgetStamp_108 : decode cX13_forgetStamp 108 = .ok (.baload, 1) := by decide +kernel
theorem dX13_forgetStamp_109 : decode cX13_forgetStamp 109 = .ok (.bastore, 1) := by decide +kernel
theorem dX13_forgetStamp_110 : decode cX13_forgetStamp 110 = .ok (.iinc 3 1, 3) := by decide +kernel
theorem dX13_forgetStamp_113 : decode cX13_forgetStamp 113 = .ok (.goto (-36), 3) := by decide +kernel
theorem dX13_forgetStamp_116 : decode cX13_forgetStamp 116 = .ok (.iinc 2 1, 3) := by decide +kernel
theorem dX13_forgetStamp_119 : decode cX13_forgetStamp 119 = .ok (.goto (-80), 3) := by decide +kernel
theorem dX13_forgetStamp_122 : decode cX13_forgetStamp 122 = .ok (.aload_n 0, 1) := by decide +kernel
theorem dX13_forgetStamp_123 : decode cX13_forgetStamp 123 = .ok (.getfield 458, 3) := by decide +kernel
theorem dX13_forgetStamp_126 : decode cX13_forgetStamp 126 = .ok (.ireturn, 1) := by decide +kernel
theorem dX13_accept_0 : decode cX13_accept 0 = .ok (.aload_n 0, 1) := by decide +kernel
theorem dX13_accept_1 : decode cX13_accept 1 = .ok (.iload_n 1, 1) := by decide +kernel
theorem dX13_accept_2 : decode cX13_accept 2 = .ok (.aload_n 0, 1) := by decide +kernel
theorem dX13_accept_3 : decode cX13_accept 3 = .ok (.getfield 467, 3) := by decide +kernel
theorem dX13_accept_6 : decode cX13_accept 6 = .ok (.invokevirtual 507, 3) := by decide +kernel
theorem dX13_accept_9 : decode cX13_accept 9 = .ok (.ifCond .eq 5, 3) := by decide +kernel
theorem dX13_accept_12 : decode cX13_accept 12 = .ok (.iconst 0, 1) := by decide +kernel
theorem dX13_accept_13 : decode cX13_accept 13 = .ok (.ireturn, 1) := by decide +kernel
theorem dX13_accept_14 : decode cX13_accept 14 = .ok (.aload_n 0, 1) := by decide +kernel
theorem dX13_accept_15 : decode cX13_accept 15 = .ok (.iconst 0, 1) := by decide +kernel
theorem dX13_accept_16 : decode cX13_accept 16 = .ok (.invokevirtual 214, 3) := by decide +kernel
theorem dX13_accept_19 : decode cX13_accept 19 = .ok (.aload_n 0, 1) := by decide +kernel
theorem dX13_accept_20 : decode cX13_accept 20 = .ok (.getfield 164, 3) := by decide +kernel
theorem dX13_accept_23 : decode cX13_accept 23 = .ok (.iload_n 1, 1) := by decide +kernel
theorem dX13_accept_24 : decode cX13_accept 24 = .ok (.iaload, 1) := by decide +kernel
theorem dX13_accept_25 : decode cX13_accept 25 = .ok (.istore_n 2, 1) := by decide +kernel
theorem dX13_accept_26 : decode cX13_accept 26 = .ok (.aload_n 0, 1) := by decide +kernel
theorem dX13_accept_27 : decode cX13_accept 27 = .ok (.getfield 167, 3) := by decide +kernel
theorem dX13_accept_30 : decode cX13_accept 30 = .ok (.iload_n 1, 1) := by decide +kernel
theorem dX13_accept_31 : decode cX13_accept 31 = .ok (.iaload, 1) := by decide +kernel
theorem dX13_accept_32 : decode cX13_accept 32 = .ok (.istore_n 3, 1) := by decide +kernel
theorem dX13_accept_33 : decode cX13_accept 33 = .ok (.iconst 0, 1) := by decide +kernel
theorem dX13_accept_34 : decode cX13_accept 34 = .ok (.istore 4, 2) := by decide +kernel
theorem dX13_accept_36 : decode cX13_accept 36 = .ok (.iload 4, 2) := by decide +kernel
theorem dX13_accept_38 : decode cX13_accept 38 = .ok (.sipush 4096, 3) := by decide +kernel
theorem dX13_accept_41 : decode cX13_accept 41 = .ok (.if_icmp .ge 48, 3) := by decide +kernel
theorem dX13_accept_44 : decode cX13_accept 44 = .ok (.aload_n 0, 1) := by decide +kernel
theorem dX13_accept_45 : decode cX13_accept 45 = .ok (.getfield 21, 3) := by decide +kernel
theorem dX13_accept_48 : decode cX13_accept 48 = .ok (.iload 4, 2) := by decide +kernel
theorem dX13_accept_50 : decode cX13_accept 50 = .ok (.aload_n 0, 1) := by decide +kernel
theorem dX13_accept_51 : decode cX13_accept 51 = .ok (.iload_n 2, 1) := by decide +kernel
theorem dX13_accept_52 : decode cX13_accept 52 = .ok (.iload 4, 2) := by decide +kernel
theorem dX13_accept_54 : decode cX13_accept 54 = .ok (.invokevirtual 449, 3) := by decide +kernel
theorem dX13_accept_57 : decode cX13_accept 57 = .ok (.ifCond .eq 18, 3) := by decide +kernel
theorem dX13_accept_60 : decode cX13_accept 60 = .ok (.iload_n 2, 1) := by decide +kernel
theorem dX13_accept_61 : decode cX13_accept 61 = .ok (.iconst 2, 1) := by decide +kernel
theorem dX13_accept_62 : decode cX13_accept 62 = .ok (.irem, 1) := by decide +kernel
theorem dX13_accept_63 : decode cX13_accept 63 = .ok (.iconst 1, 1) := by decide +kernel
theorem dX13_accept_64 : decode cX13_accept 64 = .ok (.if_icmp .ne 7, 3) := by decide +kernel
theorem dX13_accept_67 : decode cX13_accept 67 = .ok (.iconst 1, 1) := by decide +kernel
theorem dX13_accept_68 : decode cX13_accept 68 = .ok (.goto 14, 3) := by decide +kernel
theorem dX13_accept_71 : decode cX13_accept 71 = .ok (.iconst 0, 1) := by decide +kernel
theorem dX13_accept_72 : decode cX13_accept 72 = .ok (.goto 10, 3) := by decide +kernel
theorem dX13_accept_75 : decode cX13_accept 75 = .ok (.aload_n 0, 1) := by decide +kernel
theorem dX13_accept_76 : decode cX13_accept 76 = .ok (.getfield 21, 3) := by decide +kernel
theorem dX13_accept_79 : decode cX13_accept 79 = .ok (.iload 4, 2) := by decide +kernel
theorem dX13_accept_81 : decode cX13_accept 81 = .ok (.baload, 1) := by decide +kernel
theorem dX13_accept_82 : decode cX13_accept 82 = .ok (.bastore, 1) := by decide +kernel
theorem dX13_accept_83 : decode cX13_accept 83 = .ok (.iinc 4 1, 3) := by decide +kernel
theorem dX13_accept_86 : decode cX13_accept 86 = .ok (.goto (-50), 3) := by decide +kernel
theorem dX13_accept_89 : decode cX13_accept 89 = .ok (.iconst 0, 1) := by decide +kernel
theorem dX13_accept_90 : decode cX13_accept 90 = .ok (.istore 4, 2) := by decide +kernel
theorem dX13_accept_92 : decode cX13_accept 92 = .ok (.iload 4, 2) := by decide +kernel
theorem dX13_accept_94 : decode cX13_accept 94 = .ok (.sipush 4096, 3) := by decide +kernel
theorem dX13_accept_97 : decode cX13_accept 97 = .ok (.if_icmp .ge 45, 3) := by decide +kernel
theorem dX13_accept_100 : decode cX13_accept 100 = .ok (.iload_n 3, 1) := by decide +kernel
theorem dX13_accept_101 : decode cX13_accept 101 = .ok (.ifCond .lt 41, 3) := by decide +kernel
theorem dX13_accept_104 : decode cX13_accept 104 = .ok (.aload_n 0, 1) := by decide +kernel
theorem dX13_accept_105 : decode cX13_accept 105 = .ok (.getfield 21, 3) := by decide +kernel
theorem dX13_accept_108 : decode cX13_accept 108 = .ok (.iload 4, 2) := by decide +kernel
theorem dX13_accept_110 : decode cX13_accept 110 = .ok (.aload_n 0, 1) := by decide +kernel
theorem dX13_accept_111 : decode cX13_accept 111 = .ok (.getfield 21, 3) := by decide +kernel
theorem dX13_accept_114 : decode cX13_accept 114 = .ok (.iload 4, 2) := by decide +kernel
theorem dX13_accept_116 : decode cX13_accept 116 = .ok (.baload, 1) := by decide +kernel
theorem dX13_accept_117 : decode cX13_accept 117 = .ok (.ifCond .ne 13, 3) := by decide +kernel
theorem dX13_accept_120 : decode cX13_accept 120 = .ok (.aload_n 0, 1) := by decide +kernel
theorem dX13_accept_121 : decode cX13_accept 121 = .ok (.iload_n 3, 1) := by decide +kernel
theorem dX13_accept_122 : decode cX13_accept 122 = .ok (.iload 4, 2) := by decide +kernel
theorem dX13_accept_124 : decode cX13_accept 124 = .ok (.invokevirtual 449, 3) := by decide +kernel
theorem dX13_accept_127 : decode cX13_accept 127 = .ok (.ifCond .eq 7, 3) := by decide +kernel
theorem dX13_accept_130 : decode cX13_accept 130 = .ok (.iconst 1, 1) := by decide +kernel
theorem dX13_accept_131 : decode cX13_accept 131 = .ok (.goto 4, 3) := by decide +kernel
theorem dX13_accept_134 : decode cX13_accept 134 = .ok (.iconst 0, 1) := by decide +kernel
theorem dX13_accept_135 : decode cX13_accept 135 = .ok (.bastore, 1) := by decide +kernel
theorem dX13_accept_136 : decode cX13_accept 136 = .ok (.iinc 4 1, 3) := by decide +kernel
theorem dX13_accept_139 : decode cX13_accept 139 = .ok (.goto (-47), 3) := by decide +kernel
theorem dX13_accept_142 : decode cX13_accept 142 = .ok (.aload_n 0, 1) := by decide +kernel
theorem dX13_accept_143 : decode cX13_accept 143 = .ok (.iconst 0, 1) := by decide +kernel
theorem dX13_accept_144 : decode cX13_accept 144 = .ok (.invokevirtual 218, 3) := by decide +kernel
theorem dX13_accept_147 : decode cX13_accept 147 = .ok (.ireturn, 1) := by decide +kernel
theorem dX13_leastNoise_0 : decode cX13_leastNoise 0 = .ok (.aload_n 0, 1) := by decide +kernel
theorem dX13_leastNoise_1 : decode cX13_leastNoise 1 = .ok (.iconst 0, 1) := by decide +kernel
theorem dX13_leastNoise_2 : decode cX13_leastNoise 2 = .ok (.putfield 186, 3) := by decide +kernel
theorem dX13_leastNoise_5 : decode cX13_leastNoise 5 = .ok (.aload_n 0, 1) := by decide +kernel
theorem dX13_leastNoise_6 : decode cX13_leastNoise 6 = .ok (.getfield 502, 3) := by decide +kernel
theorem dX13_leastNoise_9 : decode cX13_leastNoise 9 = .ok (.ifCond .ne 9, 3) := by decide +kernel
theorem dX13_leastNoise_12 : decode cX13_leastNoise 12 = .ok (.aload_n 0, 1) := by decide +kernel
theorem dX13_leastNoise_13 : decode cX13_leastNoise 13 = .ok (.iconst 1, 1) := by decide +kernel
theorem dX13_leastNoise_14 : decode cX13_leastNoise 14 = .ok (.invokevirtual 206, 3) := by decide +kernel
theorem dX13_leastNoise_17 : decode cX13_leastNoise 17 = .ok (.ireturn, 1) := by decide +kernel
theorem dX13_leastNoise_18 : decode cX13_leastNoise 18 = .ok (.iload_n 1, 1) := by decide +kernel
theorem dX13_leastNoise_19 : decode cX13_leastNoise 19 = .ok (.ifCond .ge 9, 3) := by decide +kernel
theorem dX13_leastNoise_22 : decode cX13_leastNoise 22 = .ok (.aload_n 0, 1) := by decide +kernel
theorem dX13_leastNoise_23 : decode cX13_leastNoise 23 = .ok (.iconst 2, 1) := by decide +kernel
theorem dX13_leastNoise_24 : decode cX13_leastNoise 24 = .ok (.invokevirtual 206, 3) := by decide +kernel
theorem dX13_leastNoise_27 : decode cX13_leastNoise 27 = .ok (.ireturn, 1) := by decide +kernel
theorem dX13_leastNoise_28 : decode cX13_leastNoise 28 = .ok (.iconst 0, 1) := by decide +kernel
theorem dX13_leastNoise_29 : decode cX13_leastNoise 29 = .ok (.istore_n 2, 1) := by decide +kernel
theorem dX13_leastNoise_30 : decode cX13_leastNoise 30 = .ok (.iload_n 2, 1) := by decide +kernel
theorem dX13_leastNoise_31 : decode cX13_leastNoise 31 = .ok (.sipush 256, 3) := by decide +kernel
theorem dX13_leastNoise_34 : decode cX13_leastNoise 34 = .ok (.if_icmp .ge 18, 3) := by decide +kernel
theorem dX13_leastNoise_37 : decode cX13_leastNoise 37 = .ok (.aload_n 0, 1) := by decide +kernel
theorem dX13_leastNoise_38 : decode cX13_leastNoise 38 = .ok (.iload_n 2, 1) := by decide +kernel
theorem dX13_leastNoise_39 : decode cX13_leastNoise 39 = .ok (.invokevirtual 418, 3) := by decide +kernel
theorem dX13_leastNoise_42 : decode cX13_leastNoise 42 = .ok (.iload_n 1, 1) := by decide +kernel
theorem dX13_leastNoise_43 : decode cX13_leastNoise 43 = .ok (.if_icmp .le 9, 3) := by decide +kernel
theorem dX13_leastNoise_46 : decode cX13_leastNoise 46 = .ok (.iinc 2 1, 3) := by decide +kernel
theorem dX13_leastNoise_49 : decode cX13_leastNoise 49 = .ok (.goto (-19), 3) := by decide +kernel
theorem dX13_leastNoise_52 : decode cX13_leastNoise 52 = .ok (.iload_n 2, 1) := by decide +kernel
theorem dX13_leastNoise_53 : decode cX13_leastNoise 53 = .ok (.ireturn, 1) := by decide +kernel

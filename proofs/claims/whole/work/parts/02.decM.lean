/-! decode rows of ConicKindsModel (wip/gen_names.py) -/
theorem d_M_init_0 : decode b_M_init 0 = .ok (.aload_n 0, 1) := by decide +kernel
theorem d_M_init_1 : decode b_M_init 1 = .ok (.invokespecial 1, 3) := by decide +kernel
theorem d_M_init_4 : decode b_M_init 4 = .ok (.aload_n 0, 1) := by decide +kernel
theorem d_M_init_5 : decode b_M_init 5 = .ok (.iconst 2, 1) := by decide +kernel
theorem d_M_init_6 : decode b_M_init 6 = .ok (.putfield 7, 3) := by decide +kernel
theorem d_M_init_9 : decode b_M_init 9 = .ok (.aload_n 0, 1) := by decide +kernel
theorem d_M_init_10 : decode b_M_init 10 = .ok (.bipush 16, 2) := by decide +kernel
theorem d_M_init_12 : decode b_M_init 12 = .ok (.newarray .int, 2) := by decide +kernel
theorem d_M_init_14 : decode b_M_init 14 = .ok (.putfield 13, 3) := by decide +kernel
theorem d_M_init_17 : decode b_M_init 17 = .ok (.aload_n 0, 1) := by decide +kernel
theorem d_M_init_18 : decode b_M_init 18 = .ok (.bipush 16, 2) := by decide +kernel
theorem d_M_init_20 : decode b_M_init 20 = .ok (.newarray .int, 2) := by decide +kernel
theorem d_M_init_22 : decode b_M_init 22 = .ok (.putfield 17, 3) := by decide +kernel
theorem d_M_init_25 : decode b_M_init 25 = .ok (.aload_n 0, 1) := by decide +kernel
theorem d_M_init_26 : decode b_M_init 26 = .ok (.bipush 16, 2) := by decide +kernel
theorem d_M_init_28 : decode b_M_init 28 = .ok (.newarray .long, 2) := by decide +kernel
theorem d_M_init_30 : decode b_M_init 30 = .ok (.putfield 20, 3) := by decide +kernel
theorem d_M_init_33 : decode b_M_init 33 = .ok (.aload_n 0, 1) := by decide +kernel
theorem d_M_init_34 : decode b_M_init 34 = .ok (.bipush 20, 2) := by decide +kernel
theorem d_M_init_36 : decode b_M_init 36 = .ok (.newarray .long, 2) := by decide +kernel
theorem d_M_init_38 : decode b_M_init 38 = .ok (.putfield 24, 3) := by decide +kernel
theorem d_M_init_41 : decode b_M_init 41 = .ok (.aload_n 0, 1) := by decide +kernel
theorem d_M_init_42 : decode b_M_init 42 = .ok (.bipush 24, 2) := by decide +kernel
theorem d_M_init_44 : decode b_M_init 44 = .ok (.newarray .int, 2) := by decide +kernel
theorem d_M_init_46 : decode b_M_init 46 = .ok (.dup, 1) := by decide +kernel
theorem d_M_init_47 : decode b_M_init 47 = .ok (.iconst 0, 1) := by decide +kernel
theorem d_M_init_48 : decode b_M_init 48 = .ok (.sipush 2030, 3) := by decide +kernel
theorem d_M_init_51 : decode b_M_init 51 = .ok (.iastore, 1) := by decide +kernel
theorem d_M_init_52 : decode b_M_init 52 = .ok (.dup, 1) := by decide +kernel
theorem d_M_init_53 : decode b_M_init 53 = .ok (.iconst 1, 1) := by decide +kernel
theorem d_M_init_54 : decode b_M_init 54 = .ok (.iconst 0, 1) := by decide +kernel
theorem d_M_init_55 : decode b_M_init 55 = .ok (.iastore, 1) := by decide +kernel
theorem d_M_init_56 : decode b_M_init 56 = .ok (.dup, 1) := by decide +kernel
theorem d_M_init_57 : decode b_M_init 57 = .ok (.iconst 2, 1) := by decide +kernel
theorem d_M_init_58 : decode b_M_init 58 = .ok (.sipush 2020, 3) := by decide +kernel
theorem d_M_init_61 : decode b_M_init 61 = .ok (.iastore, 1) := by decide +kernel
theorem d_M_init_62 : decode b_M_init 62 = .ok (.dup, 1) := by decide +kernel
theorem d_M_init_63 : decode b_M_init 63 = .ok (.iconst 3, 1) := by decide +kernel
theorem d_M_init_64 : decode b_M_init 64 = .ok (.iconst 1, 1) := by decide +kernel
theorem d_M_init_65 : decode b_M_init 65 = .ok (.iastore, 1) := by decide +kernel
theorem d_M_init_66 : decode b_M_init 66 = .ok (.dup, 1) := by decide +kernel
theorem d_M_init_67 : decode b_M_init 67 = .ok (.iconst 4, 1) := by decide +kernel
theorem d_M_init_68 : decode b_M_init 68 = .ok (.sipush 2021, 3) := by decide +kernel
theorem d_M_init_71 : decode b_M_init 71 = .ok (.iastore, 1) := by decide +kernel
theorem d_M_init_72 : decode b_M_init 72 = .ok (.dup, 1) := by decide +kernel
theorem d_M_init_73 : decode b_M_init 73 = .ok (.iconst 5, 1) := by decide +kernel
theorem d_M_init_74 : decode b_M_init 74 = .ok (.iconst 2, 1) := by decide +kernel
theorem d_M_init_75 : decode b_M_init 75 = .ok (.iastore, 1) := by decide +kernel
theorem d_M_init_76 : decode b_M_init 76 = .ok (.dup, 1) := by decide +kernel
theorem d_M_init_77 : decode b_M_init 77 = .ok (.bipush 6, 2) := by decide +kernel
theorem d_M_init_79 : decode b_M_init 79 = .ok (.sipush 1121, 3) := by decide +kernel
theorem d_M_init_82 : decode b_M_init 82 = .ok (.iastore, 1) := by decide +kernel
theorem d_M_init_83 : decode b_M_init 83 = .ok (.dup, 1) := by decide +kernel
theorem d_M_init_84 : decode b_M_init 84 = .ok (.bipush 7, 2) := by decide +kernel
theorem d_M_init_86 : decode b_M_init 86 = .ok (.iconst 3, 1) := by decide +kernel
theorem d_M_init_87 : decode b_M_init 87 = .ok (.iastore, 1) := by decide +kernel
theorem d_M_init_88 : decode b_M_init 88 = .ok (.dup, 1) := by decide +kernel
theorem d_M_init_89 : decode b_M_init 89 = .ok (.bipush 8, 2) := by decide +kernel
theorem d_M_init_91 : decode b_M_init 91 = .ok (.sipush 1111, 3) := by decide +kernel
theorem d_M_init_94 : decode b_M_init 94 = .ok (.iastore, 1) := by decide +kernel
theorem d_M_init_95 : decode b_M_init 95 = .ok (.dup, 1) := by decide +kernel
theorem d_M_init_96 : decode b_M_init 96 = .ok (.bipush 9, 2) := by decide +kernel
theorem d_M_init_98 : decode b_M_init 98 = .ok (.iconst 5, 1) := by decide +kernel
theorem d_M_init_99 : decode b_M_init 99 = .ok (.iastore, 1) := by decide +kernel
theorem d_M_init_100 : decode b_M_init 100 = .ok (.dup, 1) := by decide +kernel
theorem d_M_init_101 : decode b_M_init 101 = .ok (.bipush 10, 2) := by decide +kernel
theorem d_M_init_103 : decode b_M_init 103 = .ok (.sipush 1021, 3) := by decide +kernel
theorem d_M_init_106 : decode b_M_init 106 = .ok (.iastore, 1) := by decide +kernel
theorem d_M_init_107 : decode b_M_init 107 = .ok (.dup, 1) := by decide +kernel
theorem d_M_init_108 : decode b_M_init 108 = .ok (.bipush 11, 2) := by decide +kernel
theorem d_M_init_110 : decode b_M_init 110 = .ok (.iconst 4, 1) := by decide +kernel
theorem d_M_init_111 : decode b_M_init 111 = .ok (.iastore, 1) := by decide +kernel
theorem d_M_init_112 : decode b_M_init 112 = .ok (.dup, 1) := by decide +kernel
theorem d_M_init_113 : decode b_M_init 113 = .ok (.bipush 12, 2) := by decide +kernel
theorem d_M_init_115 : decode b_M_init 115 = .ok (.sipush 1011, 3) := by decide +kernel
theorem d_M_init_118 : decode b_M_init 118 = .ok (.iastore, 1) := by decide +kernel
theorem d_M_init_119 : decode b_M_init 119 = .ok (.dup, 1) := by decide +kernel
theorem d_M_init_120 : decode b_M_init 120 = .ok (.bipush 13, 2) := by decide +kernel
theorem d_M_init_122 : decode b_M_init 122 = .ok (.bipush 6, 2) := by decide +kernel
theorem d_M_init_124 : decode b_M_init 124 = .ok (.iastore, 1) := by decide +kernel
theorem d_M_init_125 : decode b_M_init 125 = .ok (.dup, 1) := by decide +kernel
theorem d_M_init_126 : decode b_M_init 126 = .ok (.bipush 14, 2) := by decide +kernel
theorem d_M_init_128 : decode b_M_init 128 = .ok (.sipush 1020, 3) := by decide +kernel
theorem d_M_init_131 : decode b_M_init 131 = .ok (.iastore, 1) := by decide +kernel
theorem d_M_init_132 : decode b_M_init 132 = .ok (.dup, 1) := by decide +kernel
theorem d_M_init_133 : decode b_M_init 133 = .ok (.bipush 15, 2) := by decide +kernel
theorem d_M_init_135 : decode b_M_init 135 = .ok (.iconst 0, 1) := by decide +kernel
theorem d_M_init_136 : decode b_M_init 136 = .ok (.iastore, 1) := by decide +kernel
theorem d_M_init_137 : decode b_M_init 137 = .ok (.dup, 1) := by decide +kernel
theorem d_M_init_138 : decode b_M_init 138 = .ok (.bipush 16, 2) := by decide +kernel
theorem d_M_init_140 : decode b_M_init 140 = .ok (.sipush 1010, 3) := by decide +kernel
theorem d_M_init_143 : decode b_M_init 143 = .ok (.iastore, 1) := by decide +kernel
theorem d_M_init_144 : decode b_M_init 144 = .ok (.dup, 1) := by decide +kernel
theorem d_M_init_145 : decode b_M_init 145 = .ok (.bipush 17, 2) := by decide +kernel
theorem d_M_init_147 : decode b_M_init 147 = .ok (.bipush 9, 2) := by decide +kernel
theorem d_M_init_149 : decode b_M_init 149 = .ok (.iastore, 1) := by decide +kernel
theorem d_M_init_150 : decode b_M_init 150 = .ok (.dup, 1) := by decide +kernel
theorem d_M_init_151 : decode b_M_init 151 = .ok (.bipush 18, 2) := by decide +kernel
theorem d_M_init_153 : decode b_M_init 153 = .ok (.bipush 11, 2) := by decide +kernel
theorem d_M_init_155 : decode b_M_init 155 = .ok (.iastore, 1) := by decide +kernel
theorem d_M_init_156 : decode b_M_init 156 = .ok (.dup, 1) := by decide +kernel
theorem d_M_init_157 : decode b_M_init 157 = .ok (.bipush 19, 2) := by decide +kernel
theorem d_M_init_159 : decode b_M_init 159 = .ok (.bipush 7, 2) := by decide +kernel
theorem d_M_init_161 : decode b_M_init 161 = .ok (.iastore, 1) := by decide +kernel
theorem d_M_init_162 : decode b_M_init 162 = .ok (.dup, 1) := by decide +kernel
theorem d_M_init_163 : decode b_M_init 163 = .ok (.bipush 20, 2) := by decide +kernel
theorem d_M_init_165 : decode b_M_init 165 = .ok (.bipush 10, 2) := by decide +kernel
theorem d_M_init_167 : decode b_M_init 167 = .ok (.iastore, 1) := by decide +kernel
theorem d_M_init_168 : decode b_M_init 168 = .ok (.dup, 1) := by decide +kernel
theorem d_M_init_169 : decode b_M_init 169 = .ok (.bipush 21, 2) := by decide +kernel
theorem d_M_init_171 : decode b_M_init 171 = .ok (.iconst 0, 1) := by decide +kernel
theorem d_M_init_172 : decode b_M_init 172 = .ok (.iastore, 1) := by decide +kernel
theorem d_M_init_173 : decode b_M_init 173 = .ok (.dup, 1) := by decide +kernel
theorem d_M_init_174 : decode b_M_init 174 = .ok (.bipush 22, 2) := by decide +kernel
theorem d_M_init_176 : decode b_M_init 176 = .ok (.iconst 0, 1) := by decide +kernel
theorem d_M_init_177 : decode b_M_init 177 = .ok (.iastore, 1) := by decide +kernel
theorem d_M_init_178 : decode b_M_init 178 = .ok (.dup, 1) := by decide +kernel
theorem d_M_init_179 : decode b_M_init 179 = .ok (.bipush 23, 2) := by decide +kernel
theorem d_M_init_181 : decode b_M_init 181 = .ok (.bipush 8, 2) := by decide +kernel
theorem d_M_init_183 : decode b_M_init 183 = .ok (.iastore, 1) := by decide +kernel
theorem d_M_init_184 : decode b_M_init 184 = .ok (.putfield 27, 3) := by decide +kernel
theorem d_M_init_187 : decode b_M_init 187 = .ok (.aload_n 0, 1) := by decide +kernel
theorem d_M_init_188 : decode b_M_init 188 = .ok (.bipush 40, 2) := by decide +kernel
theorem d_M_init_190 : decode b_M_init 190 = .ok (.newarray .int, 2) := by decide +kernel
theorem d_M_init_192 : decode b_M_init 192 = .ok (.dup, 1) := by decide +kernel
theorem d_M_init_193 : decode b_M_init 193 = .ok (.iconst 0, 1) := by decide +kernel
theorem d_M_init_194 : decode b_M_init 194 = .ok (.sipush 3040, 3) := by decide +kernel
theorem d_M_init_197 : decode b_M_init 197 = .ok (.iastore, 1) := by decide +kernel
theorem d_M_init_198 : decode b_M_init 198 = .ok (.dup, 1) := by decide +kernel
theorem d_M_init_199 : decode b_M_init 199 = .ok (.iconst 1, 1) := by decide +kernel
theorem d_M_init_200 : decode b_M_init 200 = .ok (.bipush 10, 2) := by decide +kernel
theorem d_M_init_202 : decode b_M_init 202 = .ok (.iastore, 1) := by decide +kernel
theorem d_M_init_203 : decode b_M_init 203 = .ok (.dup, 1) := by decide +kernel
theorem d_M_init_204 : decode b_M_init 204 = .ok (.iconst 2, 1) := by decide +kernel
theorem d_M_init_205 : decode b_M_init 205 = .ok (.sipush 3030, 3) := by decide +kernel
theorem d_M_init_208 : decode b_M_init 208 = .ok (.iastore, 1) := by decide +kernel
theorem d_M_init_209 : decode b_M_init 209 = .ok (.dup, 1) := by decide +kernel
theorem d_M_init_210 : decode b_M_init 210 = .ok (.iconst 3, 1) := by decide +kernel
theorem d_M_init_211 : decode b_M_init 211 = .ok (.bipush 11, 2) := by decide +kernel
theorem d_M_init_213 : decode b_M_init 213 = .ok (.iastore, 1) := by decide +kernel
theorem d_M_init_214 : decode b_M_init 214 = .ok (.dup, 1) := by decide +kernel
theorem d_M_init_215 : decode b_M_init 215 = .ok (.iconst 4, 1) := by decide +kernel
theorem d_M_init_216 : decode b_M_init 216 = .ok (.sipush 3031, 3) := by decide +kernel
theorem d_M_init_219 : decode b_M_init 219 = .ok (.iastore, 1) := by decide +kernel
theorem d_M_init_220 : decode b_M_init 220 = .ok (.dup, 1) := by decide +kernel
theorem d_M_init_221 : decode b_M_init 221 = .ok (.iconst 5, 1) := by decide +kernel
theorem d_M_init_222 : decode b_M_init 222 = .ok (.bipush 12, 2) := by decide +kernel
theorem d_M_init_224 : decode b_M_init 224 = .ok (.iastore, 1) := by decide +kernel
theorem d_M_init_225 : decode b_M_init 225 = .ok (.dup, 1) := by decide +kernel
theorem d_M_init_226 : decode b_M_init 226 = .ok (.bipush 6, 2) := by decide +kernel
theorem d_M_init_228 : decode b_M_init 228 = .ok (.sipush 2122, 3) := by decide +kernel
theorem d_M_init_231 : decode b_M_init 231 = .ok (.iastore, 1) := by decide +kernel
theorem d_M_init_232 : decode b_M_init 232 = .ok (.dup, 1) := by decide +kernel
theorem d_M_init_233 : decode b_M_init 233 = .ok (.bipush 7, 2) := by decide +kernel
theorem d_M_init_235 : decode b_M_init 235 = .ok (.bipush 13, 2) := by decide +kernel
theorem d_M_init_237 : decode b_M_init 237 = .ok (.iastore, 1) := by decide +kernel
theorem d_M_init_238 : decode b_M_init 238 = .ok (.dup, 1) := by decide +kernel
theorem d_M_init_239 : decode b_M_init 239 = .ok (.bipush 8, 2) := by decide +kernel
theorem d_M_init_241 : decode b_M_init 241 = .ok (.sipush 2131, 3) := by decide +kernel
theorem d_M_init_244 : decode b_M_init 244 = .ok (.iastore, 1) := by decide +kernel
theorem d_M_init_245 : decode b_M_init 245 = .ok (.dup, 1) := by decide +kernel
theorem d_M_init_246 : decode b_M_init 246 = .ok (.bipush 9, 2) := by decide +kernel
theorem d_M_init_248 : decode b_M_init 248 = .ok (.bipush 14, 2) := by decide +kernel
theorem d_M_init_250 : decode b_M_init 250 = .ok (.iastore, 1) := by decide +kernel
theorem d_M_init_251 : decode b_M_init 251 = .ok (.dup, 1) := by decide +kernel
theorem d_M_init_252 : decode b_M_init 252 = .ok (.bipush 10, 2) := by decide +kernel
theorem d_M_init_254 : decode b_M_init 254 = .ok (.sipush 2121, 3) := by decide +kernel
theorem d_M_init_257 : decode b_M_init 257 = .ok (.iastore, 1) := by decide +kernel
theorem d_M_init_258 : decode b_M_init 258 = .ok (.dup, 1) := by decide +kernel
theorem d_M_init_259 : decode b_M_init 259 = .ok (.bipush 11, 2) := by decide +kernel
theorem d_M_init_261 : decode b_M_init 261 = .ok (.bipush 17, 2) := by decide +kernel
theorem d_M_init_263 : decode b_M_init 263 = .ok (.iastore, 1) := by decide +kernel
theorem d_M_init_264 : decode b_M_init 264 = .ok (.dup, 1) := by decide +kernel
theorem d_M_init_265 : decode b_M_init 265 = .ok (.bipush 12, 2) := by decide +kernel
theorem d_M_init_267 : decode b_M_init 267 = .ok (.sipush 2031, 3) := by decide +kernel
theorem d_M_init_270 : decode b_M_init 270 = .ok (.iastore, 1) := by decide +kernel
theorem d_M_init_271 : decode b_M_init 271 = .ok (.dup, 1) := by decide +kernel
theorem d_M_init_272 : decode b_M_init 272 = .ok (.bipush 13, 2) := by decide +kernel
theorem d_M_init_274 : decode b_M_init 274 = .ok (.bipush 15, 2) := by decide +kernel
theorem d_M_init_276 : decode b_M_init 276 = .ok (.iastore, 1) := by decide +kernel
theorem d_M_init_277 : decode b_M_init 277 = .ok (.dup, 1) := by decide +kernel
theorem d_M_init_278 : decode b_M_init 278 = .ok (.bipush 14, 2) := by decide +kernel
theorem d_M_init_280 : decode b_M_init 280 = .ok (.sipush 2021, 3) := by decide +kernel
theorem d_M_init_283 : decode b_M_init 283 = .ok (.iastore, 1) := by decide +kernel
theorem d_M_init_284 : decode b_M_init 284 = .ok (.dup, 1) := by decide +kernel
theorem d_M_init_285 : decode b_M_init 285 = .ok (.bipush 15, 2) := by decide +kernel
theorem d_M_init_287 : decode b_M_init 287 = .ok (.bipush 18, 2) := by decide +kernel
theorem d_M_init_289 : decode b_M_init 289 = .ok (.iastore, 1) := by decide +kernel
theorem d_M_init_290 : decode b_M_init 290 = .ok (.dup, 1) := by decide +kernel
theorem d_M_init_291 : decode b_M_init 291 = .ok (.bipush 16, 2) := by decide +kernel
theorem d_M_init_293 : decode b_M_init 293 = .ok (.sipush 2030, 3) := by decide +kernel
theorem d_M_init_296 : decode b_M_init 296 = .ok (.iastore, 1) := by decide +kernel
theorem d_M_init_297 : decode b_M_init 297 = .ok (.dup, 1) := by decide +kernel
theorem d_M_init_298 : decode b_M_init 298 = .ok (.bipush 17, 2) := by decide +kernel
theorem d_M_init_300 : decode b_M_init 300 = .ok (.bipush 10, 2) := by decide +kernel
theorem d_M_init_302 : decode b_M_init 302 = .ok (.iastore, 1) := by decide +kernel
theorem d_M_init_303 : decode b_M_init 303 = .ok (.dup, 1) := by decide +kernel
theorem d_M_init_304 : decode b_M_init 304 = .ok (.bipush 18, 2) := by decide +kernel
theorem d_M_init_306 : decode b_M_init 306 = .ok (.sipush 2020, 3) := by decide +kernel
theorem d_M_init_309 : decode b_M_init 309 = .ok (.iastore, 1) := by decide +kernel
theorem d_M_init_310 : decode b_M_init 310 = .ok (.dup, 1) := by decide +kernel
theorem d_M_init_311 : decode b_M_init 311 = .ok (.bipush 19, 2) := by decide +kernel
theorem d_M_init_313 : decode b_M_init 313 = .ok (.bipush 21, 2) := by decide +kernel
theorem d_M_init_315 : decode b_M_init 315 = .ok (.iastore, 1) := by decide +kernel
theorem d_M_init_316 : decode b_M_init 316 = .ok (.dup, 1) := by decide +kernel
theorem d_M_init_317 : decode b_M_init 317 = .ok (.bipush 20, 2) := by decide +kernel
theorem d_M_init_319 : decode b_M_init 319 = .ok (.sipush 1122, 3) := by decide +kernel
theorem d_M_init_322 : decode b_M_init 322 = .ok (.iastore, 1) := by decide +kernel
theorem d_M_init_323 : decode b_M_init 323 = .ok (.dup, 1) := by decide +kernel
theorem d_M_init_324 : decode b_M_init 324 = .ok (.bipush 21, 2) := by decide +kernel
theorem d_M_init_326 : decode b_M_init 326 = .ok (.bipush 16, 2) := by decide +kernel
theorem d_M_init_328 : decode b_M_init 328 = .ok (.iastore, 1) := by decide +kernel
theorem d_M_init_329 : decode b_M_init 329 = .ok (.dup, 1) := by decide +kernel
theorem d_M_init_330 : decode b_M_init 330 = .ok (.bipush 22, 2) := by decide +kernel
theorem d_M_init_332 : decode b_M_init 332 = .ok (.sipush 1121, 3) := by decide +kernel
theorem d_M_init_335 : decode b_M_init 335 = .ok (.iastore, 1) := by decide +kernel
theorem d_M_init_336 : decode b_M_init 336 = .ok (.dup, 1) := by decide +kernel
theorem d_M_init_337 : decode b_M_init 337 = .ok (.bipush 23, 2) := by decide +kernel
theorem d_M_init_339 : decode b_M_init 339 = .ok (.bipush 19, 2) := by decide +kernel
theorem d_M_init_341 : decode b_M_init 341 = .ok (.iastore, 1) := by decide +kernel
theorem d_M_init_342 : decode b_M_init 342 = .ok (.dup, 1) := by decide +kernel
theorem d_M_init_343 : decode b_M_init 343 = .ok (.bipush 24, 2) := by decide +kernel
theorem d_M_init_345 : decode b_M_init 345 = .ok (.sipush 1111, 3) := by decide +kernel
theorem d_M_init_348 : decode b_M_init 348 = .ok (.iastore, 1) := by decide +kernel
theorem d_M_init_349 : decode b_M_init 349 = .ok (.dup, 1) := by decide +kernel
theorem d_M_init_350 : decode b_M_init 350 = .ok (.bipush 25, 2) := by decide +kernel
theorem d_M_init_352 : decode b_M_init 352 = .ok (.bipush 22, 2) := by decide +kernel
theorem d_M_init_354 : decode b_M_init 354 = .ok (.iastore, 1) := by decide +kernel
theorem d_M_init_355 : decode b_M_init 355 = .ok (.dup, 1) := by decide +kernel
theorem d_M_init_356 : decode b_M_init 356 = .ok (.bipush 26, 2) := by decide +kernel
theorem d_M_init_358 : decode b_M_init 358 = .ok (.sipush 1021, 3) := by decide +kernel
theorem d_M_init_361 : decode b_M_init 361 = .ok (.iastore, 1) := by decide +kernel
theorem d_M_init_362 : decode b_M_init 362 = .ok (.dup, 1) := by decide +kernel
theorem d_M_init_363 : decode b_M_init 363 = .ok (.bipush 27, 2) := by decide +kernel
theorem d_M_init_365 : decode b_M_init 365 = .ok (.bipush 20, 2) := by decide +kernel
theorem d_M_init_367 : decode b_M_init 367 = .ok (.iastore, 1) := by decide +kernel
theorem d_M_init_368 : decode b_M_init 368 = .ok (.dup, 1) := by decide +kernel
theorem d_M_init_369 : decode b_M_init 369 = .ok (.bipush 28, 2) := by decide +kernel
theorem d_M_init_371 : decode b_M_init 371 = .ok (.sipush 1011, 3) := by decide +kernel
theorem d_M_init_374 : decode b_M_init 374 = .ok (.iastore, 1) := by decide +kernel
theorem d_M_init_375 : decode b_M_init 375 = .ok (.dup, 1) := by decide +kernel
theorem d_M_init_376 : decode b_M_init 376 = .ok (.bipush 29, 2) := by decide +kernel
theorem d_M_init_378 : decode b_M_init 378 = .ok (.bipush 23, 2) := by decide +kernel
theorem d_M_init_380 : decode b_M_init 380 = .ok (.iastore, 1) := by decide +kernel
theorem d_M_init_381 : decode b_M_init 381 = .ok (.dup, 1) := by decide +kernel
theorem d_M_init_382 : decode b_M_init 382 = .ok (.bipush 30, 2) := by decide +kernel
theorem d_M_init_384 : decode b_M_init 384 = .ok (.sipush 1020, 3) := by decide +kernel
theorem d_M_init_387 : decode b_M_init 387 = .ok (.iastore, 1) := by decide +kernel
theorem d_M_init_388 : decode b_M_init 388 = .ok (.dup, 1) := by decide +kernel
theorem d_M_init_389 : decode b_M_init 389 = .ok (.bipush 31, 2) := by decide +kernel
theorem d_M_init_391 : decode b_M_init 391 = .ok (.bipush 10, 2) := by decide +kernel
theorem d_M_init_393 : decode b_M_init 393 = .ok (.iastore, 1) := by decide +kernel
theorem d_M_init_394 : decode b_M_init 394 = .ok (.dup, 1) := by decide +kernel
theorem d_M_init_395 : decode b_M_init 395 = .ok (.bipush 32, 2) := by decide +kernel
theorem d_M_init_397 : decode b_M_init 397 = .ok (.sipush 1010, 3) := by decide +kernel
theorem d_M_init_400 : decode b_M_init 400 = .ok (.iastore, 1) := by decide +kernel
theorem d_M_init_401 : decode b_M_init 401 = .ok (.dup, 1) := by decide +kernel
theorem d_M_init_402 : decode b_M_init 402 = .ok (.bipush 33, 2) := by decide +kernel
theorem d_M_init_404 : decode b_M_init 404 = .ok (.bipush 25, 2) := by decide +kernel
theorem d_M_init_406 : decode b_M_init 406 = .ok (.iastore, 1) := by decide +kernel
theorem d_M_init_407 : decode b_M_init 407 = .ok (.dup, 1) := by decide +kernel
theorem d_M_init_408 : decode b_M_init 408 = .ok (.bipush 34, 2) := by decide +kernel
theorem d_M_init_410 : decode b_M_init 410 = .ok (.bipush 11, 2) := by decide +kernel
theorem d_M_init_412 : decode b_M_init 412 = .ok (.iastore, 1) := by decide +kernel
theorem d_M_init_413 : decode b_M_init 413 = .ok (.dup, 1) := by decide +kernel
theorem d_M_init_414 : decode b_M_init 414 = .ok (.bipush 35, 2) := by decide +kernel
theorem d_M_init_416 : decode b_M_init 416 = .ok (.bipush 24, 2) := by decide +kernel
theorem d_M_init_418 : decode b_M_init 418 = .ok (.iastore, 1) := by decide +kernel
theorem d_M_init_419 : decode b_M_init 419 = .ok (.dup, 1) := by decide +kernel
theorem d_M_init_420 : decode b_M_init 420 = .ok (.bipush 36, 2) := by decide +kernel
theorem d_M_init_422 : decode b_M_init 422 = .ok (.bipush 10, 2) := by decide +kernel
theorem d_M_init_424 : decode b_M_init 424 = .ok (.iastore, 1) := by decide +kernel
theorem d_M_init_425 : decode b_M_init 425 = .ok (.dup, 1) := by decide +kernel
theorem d_M_init_426 : decode b_M_init 426 = .ok (.bipush 37, 2) := by decide +kernel
theorem d_M_init_428 : decode b_M_init 428 = .ok (.bipush 10, 2) := by decide +kernel
theorem d_M_init_430 : decode b_M_init 430 = .ok (.iastore, 1) := by decide +kernel
theorem d_M_init_431 : decode b_M_init 431 = .ok (.dup, 1) := by decide +kernel
theorem d_M_init_432 : decode b_M_init 432 = .ok (.bipush 38, 2) := by decide +kernel
theorem d_M_init_434 : decode b_M_init 434 = .ok (.iconst 0, 1) := by decide +kernel
theorem d_M_init_435 : decode b_M_init 435 = .ok (.iastore, 1) := by decide +kernel
theorem d_M_init_436 : decode b_M_init 436 = .ok (.dup, 1) := by decide +kernel
theorem d_M_init_437 : decode b_M_init 437 = .ok (.bipush 39, 2) := by decide +kernel
theorem d_M_init_439 : decode b_M_init 439 = .ok (.bipush 26, 2) := by decide +kernel
theorem d_M_init_441 : decode b_M_init 441 = .ok (.iastore, 1) := by decide +kernel
theorem d_M_init_442 : decode b_M_init 442 = .ok (.putfield 30, 3) := by decide +kernel
theorem d_M_init_445 : decode b_M_init 445 = .ok (.aload_n 0, 1) := by decide +kernel
theorem d_M_init_446 : decode b_M_init 446 = .ok (.iconst 4, 1) := by decide +kernel
theorem d_M_init_447 : decode b_M_init 447 = .ok (.newarray .long, 2) := by decide +kernel
theorem d_M_init_449 : decode b_M_init 449 = .ok (.putfield 33, 3) := by decide +kernel
theorem d_M_init_452 : decode b_M_init 452 = .ok (.aload_n 0, 1) := by decide +kernel
theorem d_M_init_453 : decode b_M_init 453 = .ok (.iconst 4, 1) := by decide +kernel
theorem d_M_init_454 : decode b_M_init 454 = .ok (.newarray .long, 2) := by decide +kernel
theorem d_M_init_456 : decode b_M_init 456 = .ok (.putfield 36, 3) := by decide +kernel
theorem d_M_init_459 : decode b_M_init 459 = .ok (.aload_n 0, 1) := by decide +kernel
theorem d_M_init_460 : decode b_M_init 460 = .ok (.bipush 12, 2) := by decide +kernel
theorem d_M_init_462 : decode b_M_init 462 = .ok (.newarray .long, 2) := by decide +kernel
theorem d_M_init_464 : decode b_M_init 464 = .ok (.putfield 39, 3) := by decide +kernel
theorem d_M_init_467 : decode b_M_init 467 = .ok (.aload_n 0, 1) := by decide +kernel
theorem d_M_init_468 : decode b_M_init 468 = .ok (.bipush 6, 2) := by decide +kernel
theorem d_M_init_470 : decode b_M_init 470 = .ok (.newarray .long, 2) := by decide +kernel
theorem d_M_init_472 : decode b_M_init 472 = .ok (.putfield 42, 3) := by decide +kernel
theorem d_M_init_475 : decode b_M_init 475 = .ok (.return_, 1) := by decide +kernel
theorem d_M_thrown_0 : decode b_M_thrown 0 = .ok (.aload_n 0, 1) := by decide +kernel
theorem d_M_thrown_1 : decode b_M_thrown 1 = .ok (.getfield 45, 3) := by decide +kernel
theorem d_M_thrown_4 : decode b_M_thrown 4 = .ok (.ireturn, 1) := by decide +kernel
theorem d_M_dimension_0 : decode b_M_dimension 0 = .ok (.aload_n 0, 1) := by decide +kernel
theorem d_M_dimension_1 : decode b_M_dimension 1 = .ok (.iconst 0, 1) := by decide +kernel
theorem d_M_dimension_2 : decode b_M_dimension 2 = .ok (.putfield 45, 3) := by decide +kernel
theorem d_M_dimension_5 : decode b_M_dimension 5 = .ok (.iload_n 1, 1) := by decide +kernel
theorem d_M_dimension_6 : decode b_M_dimension 6 = .ok (.iconst 2, 1) := by decide +kernel
theorem d_M_dimension_7 : decode b_M_dimension 7 = .ok (.if_icmp .eq 11, 3) := by decide +kernel
theorem d_M_dimension_10 : decode b_M_dimension 10 = .ok (.iload_n 1, 1) := by decide +kernel
theorem d_M_dimension_11 : decode b_M_dimension 11 = .ok (.iconst 3, 1) := by decide +kernel
theorem d_M_dimension_12 : decode b_M_dimension 12 = .ok (.if_icmp .eq 6, 3) := by decide +kernel
theorem d_M_dimension_15 : decode b_M_dimension 15 = .ok (.bipush (-2), 2) := by decide +kernel
theorem d_M_dimension_17 : decode b_M_dimension 17 = .ok (.ireturn, 1) := by decide +kernel
theorem d_M_dimension_18 : decode b_M_dimension 18 = .ok (.aload_n 0, 1) := by decide +kernel
theorem d_M_dimension_19 : decode b_M_dimension 19 = .ok (.getfield 7, 3) := by decide +kernel
theorem d_M_dimension_22 : decode b_M_dimension 22 = .ok (.istore_n 2, 1) := by decide +kernel
theorem d_M_dimension_23 : decode b_M_dimension 23 = .ok (.aload_n 0, 1) := by decide +kernel
theorem d_M_dimension_24 : decode b_M_dimension 24 = .ok (.iload_n 1, 1) := by decide +kernel
theorem d_M_dimension_25 : decode b_M_dimension 25 = .ok (.putfield 7, 3) := by decide +kernel
theorem d_M_dimension_28 : decode b_M_dimension 28 = .ok (.iconst 0, 1) := by decide +kernel
theorem d_M_dimension_29 : decode b_M_dimension 29 = .ok (.istore_n 3, 1) := by decide +kernel
theorem d_M_dimension_30 : decode b_M_dimension 30 = .ok (.iload_n 3, 1) := by decide +kernel
theorem d_M_dimension_31 : decode b_M_dimension 31 = .ok (.bipush 16, 2) := by decide +kernel
theorem d_M_dimension_33 : decode b_M_dimension 33 = .ok (.if_icmp .ge 16, 3) := by decide +kernel
theorem d_M_dimension_36 : decode b_M_dimension 36 = .ok (.aload_n 0, 1) := by decide +kernel
theorem d_M_dimension_37 : decode b_M_dimension 37 = .ok (.getfield 13, 3) := by decide +kernel
theorem d_M_dimension_40 : decode b_M_dimension 40 = .ok (.iload_n 3, 1) := by decide +kernel
theorem d_M_dimension_41 : decode b_M_dimension 41 = .ok (.iconst 0, 1) := by decide +kernel
theorem d_M_dimension_42 : decode b_M_dimension 42 = .ok (.iastore, 1) := by decide +kernel
theorem d_M_dimension_43 : decode b_M_dimension 43 = .ok (.iinc 3 1, 3) := by decide +kernel
theorem d_M_dimension_46 : decode b_M_dimension 46 = .ok (.goto (-16), 3) := by decide +kernel
theorem d_M_dimension_49 : decode b_M_dimension 49 = .ok (.aload_n 0, 1) := by decide +kernel
theorem d_M_dimension_50 : decode b_M_dimension 50 = .ok (.iconst 0, 1) := by decide +kernel
theorem d_M_dimension_51 : decode b_M_dimension 51 = .ok (.putfield 48, 3) := by decide +kernel
theorem d_M_dimension_54 : decode b_M_dimension 54 = .ok (.iload_n 2, 1) := by decide +kernel
theorem d_M_dimension_55 : decode b_M_dimension 55 = .ok (.ireturn, 1) := by decide +kernel
theorem d_M_put_0 : decode b_M_put 0 = .ok (.aload_n 0, 1) := by decide +kernel
theorem d_M_put_1 : decode b_M_put 1 = .ok (.iconst 0, 1) := by decide +kernel
theorem d_M_put_2 : decode b_M_put 2 = .ok (.putfield 45, 3) := by decide +kernel
theorem d_M_put_5 : decode b_M_put 5 = .ok (.iload_n 1, 1) := by decide +kernel
theorem d_M_put_6 : decode b_M_put 6 = .ok (.i2l, 1) := by decide +kernel
theorem d_M_put_7 : decode b_M_put 7 = .ok (.iconst 0, 1) := by decide +kernel
theorem d_M_put_8 : decode b_M_put 8 = .ok (.aload_n 0, 1) := by decide +kernel
theorem d_M_put_9 : decode b_M_put 9 = .ok (.getfield 7, 3) := by decide +kernel
theorem d_M_put_12 : decode b_M_put 12 = .ok (.invokestatic 52, 3) := by decide +kernel
theorem d_M_put_15 : decode b_M_put 15 = .ok (.ifCond .eq 28, 3) := by decide +kernel
theorem d_M_put_18 : decode b_M_put 18 = .ok (.iload_n 2, 1) := by decide +kernel
theorem d_M_put_19 : decode b_M_put 19 = .ok (.i2l, 1) := by decide +kernel
theorem d_M_put_20 : decode b_M_put 20 = .ok (.iconst 0, 1) := by decide +kernel
theorem d_M_put_21 : decode b_M_put 21 = .ok (.aload_n 0, 1) := by decide +kernel
theorem d_M_put_22 : decode b_M_put 22 = .ok (.getfield 7, 3) := by decide +kernel
theorem d_M_put_25 : decode b_M_put 25 = .ok (.invokestatic 52, 3) := by decide +kernel
theorem d_M_put_28 : decode b_M_put 28 = .ok (.ifCond .eq 15, 3) := by decide +kernel
theorem d_M_put_31 : decode b_M_put 31 = .ok (.iload_n 3, 1) := by decide +kernel
theorem d_M_put_32 : decode b_M_put 32 = .ok (.i2l, 1) := by decide +kernel
theorem d_M_put_33 : decode b_M_put 33 = .ok (.bipush (-20), 2) := by decide +kernel
theorem d_M_put_35 : decode b_M_put 35 = .ok (.bipush 20, 2) := by decide +kernel
theorem d_M_put_37 : decode b_M_put 37 = .ok (.invokestatic 52, 3) := by decide +kernel
theorem d_M_put_40 : decode b_M_put 40 = .ok (.ifCond .ne 7, 3) := by decide +kernel
theorem d_M_put_43 : decode b_M_put 43 = .ok (.ldc2_w 56, 3) := by decide +kernel
theorem d_M_put_46 : decode b_M_put 46 = .ok (.lreturn, 1) := by decide +kernel
theorem d_M_put_47 : decode b_M_put 47 = .ok (.aload_n 0, 1) := by decide +kernel
theorem d_M_put_48 : decode b_M_put 48 = .ok (.getfield 13, 3) := by decide +kernel
theorem d_M_put_51 : decode b_M_put 51 = .ok (.iconst 4, 1) := by decide +kernel
theorem d_M_put_52 : decode b_M_put 52 = .ok (.iload_n 1, 1) := by decide +kernel
theorem d_M_put_53 : decode b_M_put 53 = .ok (.imul, 1) := by decide +kernel
theorem d_M_put_54 : decode b_M_put 54 = .ok (.iload_n 2, 1) := by decide +kernel
theorem d_M_put_55 : decode b_M_put 55 = .ok (.iadd, 1) := by decide +kernel
theorem d_M_put_56 : decode b_M_put 56 = .ok (.iaload, 1) := by decide +kernel
theorem d_M_put_57 : decode b_M_put 57 = .ok (.istore 4, 2) := by decide +kernel
theorem d_M_put_59 : decode b_M_put 59 = .ok (.aload_n 0, 1) := by decide +kernel
theorem d_M_put_60 : decode b_M_put 60 = .ok (.getfield 13, 3) := by decide +kernel
theorem d_M_put_63 : decode b_M_put 63 = .ok (.iconst 4, 1) := by decide +kernel
theorem d_M_put_64 : decode b_M_put 64 = .ok (.iload_n 1, 1) := by decide +kernel
theorem d_M_put_65 : decode b_M_put 65 = .ok (.imul, 1) := by decide +kernel
theorem d_M_put_66 : decode b_M_put 66 = .ok (.iload_n 2, 1) := by decide +kernel
theorem d_M_put_67 : decode b_M_put 67 = .ok (.iadd, 1) := by decide +kernel
theorem d_M_put_68 : decode b_M_put 68 = .ok (.iload_n 3, 1) := by decide +kernel
theorem d_M_put_69 : decode b_M_put 69 = .ok (.iastore, 1) := by decide +kernel
theorem d_M_put_70 : decode b_M_put 70 = .ok (.aload_n 0, 1) := by decide +kernel
theorem d_M_put_71 : decode b_M_put 71 = .ok (.getfield 13, 3) := by decide +kernel
theorem d_M_put_74 : decode b_M_put 74 = .ok (.iconst 4, 1) := by decide +kernel
theorem d_M_put_75 : decode b_M_put 75 = .ok (.iload_n 2, 1) := by decide +kernel
theorem d_M_put_76 : decode b_M_put 76 = .ok (.imul, 1) := by decide +kernel
theorem d_M_put_77 : decode b_M_put 77 = .ok (.iload_n 1, 1) := by decide +kernel
theorem d_M_put_78 : decode b_M_put 78 = .ok (.iadd, 1) := by decide +kernel
theorem d_M_put_79 : decode b_M_put 79 = .ok (.iload_n 3, 1) := by decide +kernel
theorem d_M_put_80 : decode b_M_put 80 = .ok (.iastore, 1) := by decide +kernel
theorem d_M_put_81 : decode b_M_put 81 = .ok (.iload 4, 2) := by decide +kernel
theorem d_M_put_83 : decode b_M_put 83 = .ok (.i2l, 1) := by decide +kernel
theorem d_M_put_84 : decode b_M_put 84 = .ok (.lreturn, 1) := by decide +kernel
theorem d_M_in_0 : decode b_M_in 0 = .ok (.lload_n 0, 1) := by decide +kernel
theorem d_M_in_1 : decode b_M_in 1 = .ok (.iload_n 2, 1) := by decide +kernel
theorem d_M_in_2 : decode b_M_in 2 = .ok (.i2l, 1) := by decide +kernel
theorem d_M_in_3 : decode b_M_in 3 = .ok (.lcmp, 1) := by decide +kernel
theorem d_M_in_4 : decode b_M_in 4 = .ok (.ifCond .lt 14, 3) := by decide +kernel
theorem d_M_in_7 : decode b_M_in 7 = .ok (.lload_n 0, 1) := by decide +kernel
theorem d_M_in_8 : decode b_M_in 8 = .ok (.iload_n 3, 1) := by decide +kernel
theorem d_M_in_9 : decode b_M_in 9 = .ok (.i2l, 1) := by decide +kernel
theorem d_M_in_10 : decode b_M_in 10 = .ok (.lcmp, 1) := by decide +kernel
theorem d_M_in_11 : decode b_M_in 11 = .ok (.ifCond .gt 7, 3) := by decide +kernel
theorem d_M_in_14 : decode b_M_in 14 = .ok (.iconst 1, 1) := by decide +kernel
theorem d_M_in_15 : decode b_M_in 15 = .ok (.goto 4, 3) := by decide +kernel
theorem d_M_in_18 : decode b_M_in 18 = .ok (.iconst 0, 1) := by decide +kernel
theorem d_M_in_19 : decode b_M_in 19 = .ok (.ireturn, 1) := by decide +kernel
theorem d_M_kind_0 : decode b_M_kind 0 = .ok (.aload_n 0, 1) := by decide +kernel
theorem d_M_kind_1 : decode b_M_kind 1 = .ok (.iconst 0, 1) := by decide +kernel
theorem d_M_kind_2 : decode b_M_kind 2 = .ok (.putfield 45, 3) := by decide +kernel
theorem d_M_kind_5 : decode b_M_kind 5 = .ok (.aload_n 0, 1) := by decide +kernel
theorem d_M_kind_6 : decode b_M_kind 6 = .ok (.invokevirtual 111, 3) := by decide +kernel
theorem d_M_kind_9 : decode b_M_kind 9 = .ok (.ireturn, 1) := by decide +kernel
theorem d_M_ownKind_0 : decode b_M_ownKind 0 = .ok (.aload_n 0, 1) := by decide +kernel
theorem d_M_ownKind_1 : decode b_M_ownKind 1 = .ok (.invokevirtual 104, 3) := by decide +kernel
theorem d_M_ownKind_4 : decode b_M_ownKind 4 = .ok (.aload_n 0, 1) := by decide +kernel
theorem d_M_ownKind_5 : decode b_M_ownKind 5 = .ok (.aload_n 0, 1) := by decide +kernel
theorem d_M_ownKind_6 : decode b_M_ownKind 6 = .ok (.getfield 7, 3) := by decide +kernel
theorem d_M_ownKind_9 : decode b_M_ownKind 9 = .ok (.iconst 2, 1) := by decide +kernel
theorem d_M_ownKind_10 : decode b_M_ownKind 10 = .ok (.if_icmp .ne 7, 3) := by decide +kernel
theorem d_M_ownKind_13 : decode b_M_ownKind 13 = .ok (.iconst 1, 1) := by decide +kernel
theorem d_M_ownKind_14 : decode b_M_ownKind 14 = .ok (.goto 4, 3) := by decide +kernel
theorem d_M_ownKind_17 : decode b_M_ownKind 17 = .ok (.iconst 0, 1) := by decide +kernel
theorem d_M_ownKind_18 : decode b_M_ownKind 18 = .ok (.invokevirtual 107, 3) := by decide +kernel
theorem d_M_ownKind_21 : decode b_M_ownKind 21 = .ok (.ireturn, 1) := by decide +kernel
theorem d_M_findAll_0 : decode b_M_findAll 0 = .ok (.aload_n 0, 1) := by decide +kernel
theorem d_M_findAll_1 : decode b_M_findAll 1 = .ok (.iconst 0, 1) := by decide +kernel
theorem d_M_findAll_2 : decode b_M_findAll 2 = .ok (.invokevirtual 97, 3) := by decide +kernel
theorem d_M_findAll_5 : decode b_M_findAll 5 = .ok (.aload_n 0, 1) := by decide +kernel
theorem d_M_findAll_6 : decode b_M_findAll 6 = .ok (.invokevirtual 101, 3) := by decide +kernel
theorem d_M_findAll_9 : decode b_M_findAll 9 = .ok (.aload_n 0, 1) := by decide +kernel
theorem d_M_findAll_10 : decode b_M_findAll 10 = .ok (.aload_n 0, 1) := by decide +kernel
theorem d_M_findAll_11 : decode b_M_findAll 11 = .ok (.getfield 76, 3) := by decide +kernel
theorem d_M_findAll_14 : decode b_M_findAll 14 = .ok (.putfield 88, 3) := by decide +kernel
theorem d_M_findAll_17 : decode b_M_findAll 17 = .ok (.aload_n 0, 1) := by decide +kernel
theorem d_M_findAll_18 : decode b_M_findAll 18 = .ok (.aload_n 0, 1) := by decide +kernel
theorem d_M_findAll_19 : decode b_M_findAll 19 = .ok (.getfield 79, 3) := by decide +kernel
theorem d_M_findAll_22 : decode b_M_findAll 22 = .ok (.putfield 85, 3) := by decide +kernel
theorem d_M_findAll_25 : decode b_M_findAll 25 = .ok (.aload_n 0, 1) := by decide +kernel
theorem d_M_findAll_26 : decode b_M_findAll 26 = .ok (.iconst 1, 1) := by decide +kernel
theorem d_M_findAll_27 : decode b_M_findAll 27 = .ok (.invokevirtual 97, 3) := by decide +kernel
theorem d_M_findAll_30 : decode b_M_findAll 30 = .ok (.aload_n 0, 1) := by decide +kernel
theorem d_M_findAll_31 : decode b_M_findAll 31 = .ok (.invokevirtual 101, 3) := by decide +kernel
theorem d_M_findAll_34 : decode b_M_findAll 34 = .ok (.aload_n 0, 1) := by decide +kernel
theorem d_M_findAll_35 : decode b_M_findAll 35 = .ok (.aload_n 0, 1) := by decide +kernel
theorem d_M_findAll_36 : decode b_M_findAll 36 = .ok (.getfield 76, 3) := by decide +kernel
theorem d_M_findAll_39 : decode b_M_findAll 39 = .ok (.putfield 94, 3) := by decide +kernel
theorem d_M_findAll_42 : decode b_M_findAll 42 = .ok (.aload_n 0, 1) := by decide +kernel
theorem d_M_findAll_43 : decode b_M_findAll 43 = .ok (.aload_n 0, 1) := by decide +kernel
theorem d_M_findAll_44 : decode b_M_findAll 44 = .ok (.getfield 79, 3) := by decide +kernel
theorem d_M_findAll_47 : decode b_M_findAll 47 = .ok (.putfield 91, 3) := by decide +kernel
theorem d_M_findAll_50 : decode b_M_findAll 50 = .ok (.return_, 1) := by decide +kernel
theorem d_M_take_0 : decode b_M_take 0 = .ok (.iload_n 1, 1) := by decide +kernel
theorem d_M_take_1 : decode b_M_take 1 = .ok (.ifCond .eq 7, 3) := by decide +kernel
theorem d_M_take_4 : decode b_M_take 4 = .ok (.iconst 0, 1) := by decide +kernel
theorem d_M_take_5 : decode b_M_take 5 = .ok (.goto 4, 3) := by decide +kernel
theorem d_M_take_8 : decode b_M_take 8 = .ok (.iconst 1, 1) := by decide +kernel
theorem d_M_take_9 : decode b_M_take 9 = .ok (.istore_n 2, 1) := by decide +kernel
theorem d_M_take_10 : decode b_M_take 10 = .ok (.aload_n 0, 1) := by decide +kernel
theorem d_M_take_11 : decode b_M_take 11 = .ok (.aload_n 0, 1) := by decide +kernel
theorem d_M_take_12 : decode b_M_take 12 = .ok (.getfield 7, 3) := by decide +kernel
theorem d_M_take_15 : decode b_M_take 15 = .ok (.iconst 1, 1) := by decide +kernel
theorem d_M_take_16 : decode b_M_take 16 = .ok (.iadd, 1) := by decide +kernel
theorem d_M_take_17 : decode b_M_take 17 = .ok (.iload_n 2, 1) := by decide +kernel
theorem d_M_take_18 : decode b_M_take 18 = .ok (.isub, 1) := by decide +kernel
theorem d_M_take_19 : decode b_M_take 19 = .ok (.putfield 58, 3) := by decide +kernel
theorem d_M_take_22 : decode b_M_take 22 = .ok (.iconst 0, 1) := by decide +kernel
theorem d_M_take_23 : decode b_M_take 23 = .ok (.istore_n 3, 1) := by decide +kernel
theorem d_M_take_24 : decode b_M_take 24 = .ok (.iload_n 3, 1) := by decide +kernel
theorem d_M_take_25 : decode b_M_take 25 = .ok (.aload_n 0, 1) := by decide +kernel
theorem d_M_take_26 : decode b_M_take 26 = .ok (.getfield 58, 3) := by decide +kernel
theorem d_M_take_29 : decode b_M_take 29 = .ok (.if_icmp .ge 54, 3) := by decide +kernel
theorem d_M_take_32 : decode b_M_take 32 = .ok (.iconst 0, 1) := by decide +kernel
theorem d_M_take_33 : decode b_M_take 33 = .ok (.istore 4, 2) := by decide +kernel
theorem d_M_take_35 : decode b_M_take 35 = .ok (.iload 4, 2) := by decide +kernel
theorem d_M_take_37 : decode b_M_take 37 = .ok (.aload_n 0, 1) := by decide +kernel
theorem d_M_take_38 : decode b_M_take 38 = .ok (.getfield 58, 3) := by decide +kernel
theorem d_M_take_41 : decode b_M_take 41 = .ok (.if_icmp .ge 36, 3) := by decide +kernel
theorem d_M_take_44 : decode b_M_take 44 = .ok (.aload_n 0, 1) := by decide +kernel
theorem d_M_take_45 : decode b_M_take 45 = .ok (.getfield 20, 3) := by decide +kernel
theorem d_M_take_48 : decode b_M_take 48 = .ok (.iconst 4, 1) := by decide +kernel
theorem d_M_take_49 : decode b_M_take 49 = .ok (.iload_n 3, 1) := by decide +kernel
theorem d_M_take_50 : decode b_M_take 50 = .ok (.imul, 1) := by decide +kernel
theorem d_M_take_51 : decode b_M_take 51 = .ok (.iload 4, 2) := by decide +kernel
theorem d_M_take_53 : decode b_M_take 53 = .ok (.iadd, 1) := by decide +kernel
theorem d_M_take_54 : decode b_M_take 54 = .ok (.aload_n 0, 1) := by decide +kernel
theorem d_M_take_55 : decode b_M_take 55 = .ok (.getfield 13, 3) := by decide +kernel
theorem d_M_take_58 : decode b_M_take 58 = .ok (.iconst 4, 1) := by decide +kernel
theorem d_M_take_59 : decode b_M_take 59 = .ok (.iload_n 3, 1) := by decide +kernel
theorem d_M_take_60 : decode b_M_take 60 = .ok (.iload_n 2, 1) := by decide +kernel
theorem d_M_take_61 : decode b_M_take 61 = .ok (.iadd, 1) := by decide +kernel
theorem d_M_take_62 : decode b_M_take 62 = .ok (.imul, 1) := by decide +kernel
theorem d_M_take_63 : decode b_M_take 63 = .ok (.iload 4, 2) := by decide +kernel
theorem d_M_take_65 : decode b_M_take 65 = .ok (.iadd, 1) := by decide +kernel
theorem d_M_take_66 : decode b_M_take 66 = .ok (.iload_n 2, 1) := by decide +kernel
theorem d_M_take_67 : decode b_M_take 67 = .ok (.iadd, 1) := by decide +kernel
theorem d_M_take_68 : decode b_M_take 68 = .ok (.iaload, 1) := by decide +kernel
theorem d_M_take_69 : decode b_M_take 69 = .ok (.i2l, 1) := by decide +kernel
theorem d_M_take_70 : decode b_M_take 70 = .ok (.lastore, 1) := by decide +kernel
theorem d_M_take_71 : decode b_M_take 71 = .ok (.iinc 4 1, 3) := by decide +kernel
theorem d_M_take_74 : decode b_M_take 74 = .ok (.goto (-39), 3) := by decide +kernel
theorem d_M_take_77 : decode b_M_take 77 = .ok (.iinc 3 1, 3) := by decide +kernel
theorem d_M_take_80 : decode b_M_take 80 = .ok (.goto (-56), 3) := by decide +kernel
theorem d_M_take_83 : decode b_M_take 83 = .ok (.return_, 1) := by decide +kernel
theorem d_M_findSigns_0 : decode b_M_findSigns 0 = .ok (.aload_n 0, 1) := by decide +kernel
theorem d_M_findSigns_1 : decode b_M_findSigns 1 = .ok (.iconst 0, 1) := by decide +kernel
theorem d_M_findSigns_2 : decode b_M_findSigns 2 = .ok (.putfield 76, 3) := by decide +kernel
theorem d_M_findSigns_5 : decode b_M_findSigns 5 = .ok (.aload_n 0, 1) := by decide +kernel
theorem d_M_findSigns_6 : decode b_M_findSigns 6 = .ok (.iconst 0, 1) := by decide +kernel
theorem d_M_findSigns_7 : decode b_M_findSigns 7 = .ok (.putfield 79, 3) := by decide +kernel
theorem d_M_findSigns_10 : decode b_M_findSigns 10 = .ok (.lconst 1, 1) := by decide +kernel
theorem d_M_findSigns_11 : decode b_M_findSigns 11 = .ok (.lstore_n 1, 1) := by decide +kernel
theorem d_M_findSigns_12 : decode b_M_findSigns 12 = .ok (.lconst 1, 1) := by decide +kernel
theorem d_M_findSigns_13 : decode b_M_findSigns 13 = .ok (.lstore_n 3, 1) := by decide +kernel
theorem d_M_findSigns_14 : decode b_M_findSigns 14 = .ok (.iconst 1, 1) := by decide +kernel
theorem d_M_findSigns_15 : decode b_M_findSigns 15 = .ok (.istore 5, 2) := by decide +kernel
theorem d_M_findSigns_17 : decode b_M_findSigns 17 = .ok (.iload 5, 2) := by decide +kernel
theorem d_M_findSigns_19 : decode b_M_findSigns 19 = .ok (.aload_n 0, 1) := by decide +kernel
theorem d_M_findSigns_20 : decode b_M_findSigns 20 = .ok (.getfield 58, 3) := by decide +kernel
theorem d_M_findSigns_23 : decode b_M_findSigns 23 = .ok (.if_icmp .gt 128, 3) := by decide +kernel
theorem d_M_findSigns_26 : decode b_M_findSigns 26 = .ok (.aload_n 0, 1) := by decide +kernel
theorem d_M_findSigns_27 : decode b_M_findSigns 27 = .ok (.iload 5, 2) := by decide +kernel
theorem d_M_findSigns_29 : decode b_M_findSigns 29 = .ok (.invokevirtual 82, 3) := by decide +kernel
theorem d_M_findSigns_32 : decode b_M_findSigns 32 = .ok (.lstore 6, 2) := by decide +kernel
theorem d_M_findSigns_34 : decode b_M_findSigns 34 = .ok (.iload 5, 2) := by decide +kernel
theorem d_M_findSigns_36 : decode b_M_findSigns 36 = .ok (.iconst 2, 1) := by decide +kernel
theorem d_M_findSigns_37 : decode b_M_findSigns 37 = .ok (.irem, 1) := by decide +kernel
theorem d_M_findSigns_38 : decode b_M_findSigns 38 = .ok (.iconst 1, 1) := by decide +kernel
theorem d_M_findSigns_39 : decode b_M_findSigns 39 = .ok (.if_icmp .ne 9, 3) := by decide +kernel
theorem d_M_findSigns_42 : decode b_M_findSigns 42 = .ok (.lload 6, 2) := by decide +kernel
theorem d_M_findSigns_44 : decode b_M_findSigns 44 = .ok (.lneg, 1) := by decide +kernel
theorem d_M_findSigns_45 : decode b_M_findSigns 45 = .ok (.goto 5, 3) := by decide +kernel
theorem d_M_findSigns_48 : decode b_M_findSigns 48 = .ok (.lload 6, 2) := by decide +kernel
theorem d_M_findSigns_50 : decode b_M_findSigns 50 = .ok (.lstore 8, 2) := by decide +kernel
theorem d_M_findSigns_52 : decode b_M_findSigns 52 = .ok (.lload 6, 2) := by decide +kernel
theorem d_M_findSigns_54 : decode b_M_findSigns 54 = .ok (.lconst 0, 1) := by decide +kernel
theorem d_M_findSigns_55 : decode b_M_findSigns 55 = .ok (.lcmp, 1) := by decide +kernel
theorem d_M_findSigns_56 : decode b_M_findSigns 56 = .ok (.ifCond .eq 89, 3) := by decide +kernel
theorem d_M_findSigns_59 : decode b_M_findSigns 59 = .ok (.aload_n 0, 1) := by decide +kernel
theorem d_M_findSigns_60 : decode b_M_findSigns 60 = .ok (.dup, 1) := by decide +kernel
theorem d_M_findSigns_61 : decode b_M_findSigns 61 = .ok (.getfield 79, 3) := by decide +kernel
theorem d_M_findSigns_64 : decode b_M_findSigns 64 = .ok (.lload 6, 2) := by decide +kernel
theorem d_M_findSigns_66 : decode b_M_findSigns 66 = .ok (.lconst 0, 1) := by decide +kernel
theorem d_M_findSigns_67 : decode b_M_findSigns 67 = .ok (.lcmp, 1) := by decide +kernel
theorem d_M_findSigns_68 : decode b_M_findSigns 68 = .ok (.ifCond .le 7, 3) := by decide +kernel
theorem d_M_findSigns_71 : decode b_M_findSigns 71 = .ok (.iconst 1, 1) := by decide +kernel
theorem d_M_findSigns_72 : decode b_M_findSigns 72 = .ok (.goto 4, 3) := by decide +kernel
theorem d_M_findSigns_75 : decode b_M_findSigns 75 = .ok (.iconst 0, 1) := by decide +kernel
theorem d_M_findSigns_76 : decode b_M_findSigns 76 = .ok (.lload_n 3, 1) := by decide +kernel
theorem d_M_findSigns_77 : decode b_M_findSigns 77 = .ok (.lconst 0, 1) := by decide +kernel
theorem d_M_findSigns_78 : decode b_M_findSigns 78 = .ok (.lcmp, 1) := by decide +kernel
theorem d_M_findSigns_79 : decode b_M_findSigns 79 = .ok (.ifCond .le 7, 3) := by decide +kernel
theorem d_M_findSigns_82 : decode b_M_findSigns 82 = .ok (.iconst 1, 1) := by decide +kernel
theorem d_M_findSigns_83 : decode b_M_findSigns 83 = .ok (.goto 4, 3) := by decide +kernel
theorem d_M_findSigns_86 : decode b_M_findSigns 86 = .ok (.iconst 0, 1) := by decide +kernel
theorem d_M_findSigns_87 : decode b_M_findSigns 87 = .ok (.if_icmp .eq 7, 3) := by decide +kernel
theorem d_M_findSigns_90 : decode b_M_findSigns 90 = .ok (.iconst 1, 1) := by decide +kernel
theorem d_M_findSigns_91 : decode b_M_findSigns 91 = .ok (.goto 4, 3) := by decide +kernel
theorem d_M_findSigns_94 : decode b_M_findSigns 94 = .ok (.iconst 0, 1) := by decide +kernel
theorem d_M_findSigns_95 : decode b_M_findSigns 95 = .ok (.iadd, 1) := by decide +kernel
theorem d_M_findSigns_96 : decode b_M_findSigns 96 = .ok (.putfield 79, 3) := by decide +kernel
theorem d_M_findSigns_99 : decode b_M_findSigns 99 = .ok (.aload_n 0, 1) := by decide +kernel
theorem d_M_findSigns_100 : decode b_M_findSigns 100 = .ok (.dup, 1) := by decide +kernel
theorem d_M_findSigns_101 : decode b_M_findSigns 101 = .ok (.getfield 76, 3) := by decide +kernel
theorem d_M_findSigns_104 : decode b_M_findSigns 104 = .ok (.lload 8, 2) := by decide +kernel
theorem d_M_findSigns_106 : decode b_M_findSigns 106 = .ok (.lconst 0, 1) := by decide +kernel
theorem d_M_findSigns_107 : decode b_M_findSigns 107 = .ok (.lcmp, 1) := by decide +kernel
theorem d_M_findSigns_108 : decode b_M_findSigns 108 = .ok (.ifCond .le 7, 3) := by decide +kernel
theorem d_M_findSigns_111 : decode b_M_findSigns 111 = .ok (.iconst 1, 1) := by decide +kernel
theorem d_M_findSigns_112 : decode b_M_findSigns 112 = .ok (.goto 4, 3) := by decide +kernel
theorem d_M_findSigns_115 : decode b_M_findSigns 115 = .ok (.iconst 0, 1) := by decide +kernel
theorem d_M_findSigns_116 : decode b_M_findSigns 116 = .ok (.lload_n 1, 1) := by decide +kernel
theorem d_M_findSigns_117 : decode b_M_findSigns 117 = .ok (.lconst 0, 1) := by decide +kernel
theorem d_M_findSigns_118 : decode b_M_findSigns 118 = .ok (.lcmp, 1) := by decide +kernel
theorem d_M_findSigns_119 : decode b_M_findSigns 119 = .ok (.ifCond .le 7, 3) := by decide +kernel
theorem d_M_findSigns_122 : decode b_M_findSigns 122 = .ok (.iconst 1, 1) := by decide +kernel
theorem d_M_findSigns_123 : decode b_M_findSigns 123 = .ok (.goto 4, 3) := by decide +kernel
theorem d_M_findSigns_126 : decode b_M_findSigns 126 = .ok (.iconst 0, 1) := by decide +kernel
theorem d_M_findSigns_127 : decode b_M_findSigns 127 = .ok (.if_icmp .eq 7, 3) := by decide +kernel
theorem d_M_findSigns_130 : decode b_M_findSigns 130 = .ok (.iconst 1, 1) := by decide +kernel
theorem d_M_findSigns_131 : decode b_M_findSigns 131 = .ok (.goto 4, 3) := by decide +kernel
theorem d_M_findSigns_134 : decode b_M_findSigns 134 = .ok (.iconst 0, 1) := by decide +kernel
theorem d_M_findSigns_135 : decode b_M_findSigns 135 = .ok (.iadd, 1) := by decide +kernel
theorem d_M_findSigns_136 : decode b_M_findSigns 136 = .ok (.putfield 76, 3) := by decide +kernel
theorem d_M_findSigns_139 : decode b_M_findSigns 139 = .ok (.lload 6, 2) := by decide +kernel
theorem d_M_findSigns_141 : decode b_M_findSigns 141 = .ok (.lstore_n 3, 1) := by decide +kernel
theorem d_M_findSigns_142 : decode b_M_findSigns 142 = .ok (.lload 8, 2) := by decide +kernel
theorem d_M_findSigns_144 : decode b_M_findSigns 144 = .ok (.lstore_n 1, 1) := by decide +kernel
theorem d_M_findSigns_145 : decode b_M_findSigns 145 = .ok (.iinc 5 1, 3) := by decide +kernel
theorem d_M_findSigns_148 : decode b_M_findSigns 148 = .ok (.goto (-131), 3) := by decide +kernel
theorem d_M_findSigns_151 : decode b_M_findSigns 151 = .ok (.return_, 1) := by decide +kernel
theorem d_M_sums_0 : decode b_M_sums 0 = .ok (.lconst 0, 1) := by decide +kernel
theorem d_M_sums_1 : decode b_M_sums 1 = .ok (.lstore_n 2, 1) := by decide +kernel
theorem d_M_sums_2 : decode b_M_sums 2 = .ok (.iconst 0, 1) := by decide +kernel
theorem d_M_sums_3 : decode b_M_sums 3 = .ok (.istore 4, 2) := by decide +kernel
theorem d_M_sums_5 : decode b_M_sums 5 = .ok (.iload 4, 2) := by decide +kernel
theorem d_M_sums_7 : decode b_M_sums 7 = .ok (.iconst 1, 1) := by decide +kernel
theorem d_M_sums_8 : decode b_M_sums 8 = .ok (.aload_n 0, 1) := by decide +kernel
theorem d_M_sums_9 : decode b_M_sums 9 = .ok (.getfield 58, 3) := by decide +kernel
theorem d_M_sums_12 : decode b_M_sums 12 = .ok (.ishl, 1) := by decide +kernel
theorem d_M_sums_13 : decode b_M_sums 13 = .ok (.if_icmp .ge 31, 3) := by decide +kernel
theorem d_M_sums_16 : decode b_M_sums 16 = .ok (.lload_n 2, 1) := by decide +kernel
theorem d_M_sums_17 : decode b_M_sums 17 = .ok (.iload 4, 2) := by decide +kernel
theorem d_M_sums_19 : decode b_M_sums 19 = .ok (.invokestatic 69, 3) := by decide +kernel
theorem d_M_sums_22 : decode b_M_sums 22 = .ok (.iload_n 1, 1) := by decide +kernel
theorem d_M_sums_23 : decode b_M_sums 23 = .ok (.if_icmp .ne 12, 3) := by decide +kernel
theorem d_M_sums_26 : decode b_M_sums 26 = .ok (.aload_n 0, 1) := by decide +kernel
theorem d_M_sums_27 : decode b_M_sums 27 = .ok (.iload 4, 2) := by decide +kernel
theorem d_M_sums_29 : decode b_M_sums 29 = .ok (.invokevirtual 73, 3) := by decide +kernel
theorem d_M_sums_32 : decode b_M_sums 32 = .ok (.goto 4, 3) := by decide +kernel
theorem d_M_sums_35 : decode b_M_sums 35 = .ok (.lconst 0, 1) := by decide +kernel
theorem d_M_sums_36 : decode b_M_sums 36 = .ok (.ladd, 1) := by decide +kernel
theorem d_M_sums_37 : decode b_M_sums 37 = .ok (.lstore_n 2, 1) := by decide +kernel
theorem d_M_sums_38 : decode b_M_sums 38 = .ok (.iinc 4 1, 3) := by decide +kernel
theorem d_M_sums_41 : decode b_M_sums 41 = .ok (.goto (-36), 3) := by decide +kernel
theorem d_M_sums_44 : decode b_M_sums 44 = .ok (.lload_n 2, 1) := by decide +kernel
theorem d_M_sums_45 : decode b_M_sums 45 = .ok (.lreturn, 1) := by decide +kernel
theorem d_M_bitsOf_0 : decode b_M_bitsOf 0 = .ok (.iconst 0, 1) := by decide +kernel
theorem d_M_bitsOf_1 : decode b_M_bitsOf 1 = .ok (.istore_n 1, 1) := by decide +kernel
theorem d_M_bitsOf_2 : decode b_M_bitsOf 2 = .ok (.iconst 0, 1) := by decide +kernel
theorem d_M_bitsOf_3 : decode b_M_bitsOf 3 = .ok (.istore_n 2, 1) := by decide +kernel
theorem d_M_bitsOf_4 : decode b_M_bitsOf 4 = .ok (.iload_n 2, 1) := by decide +kernel
theorem d_M_bitsOf_5 : decode b_M_bitsOf 5 = .ok (.iconst 4, 1) := by decide +kernel
theorem d_M_bitsOf_6 : decode b_M_bitsOf 6 = .ok (.if_icmp .ge 17, 3) := by decide +kernel
theorem d_M_bitsOf_9 : decode b_M_bitsOf 9 = .ok (.iload_n 1, 1) := by decide +kernel
theorem d_M_bitsOf_10 : decode b_M_bitsOf 10 = .ok (.iload_n 0, 1) := by decide +kernel
theorem d_M_bitsOf_11 : decode b_M_bitsOf 11 = .ok (.iload_n 2, 1) := by decide +kernel
theorem d_M_bitsOf_12 : decode b_M_bitsOf 12 = .ok (.ishr, 1) := by decide +kernel
theorem d_M_bitsOf_13 : decode b_M_bitsOf 13 = .ok (.iconst 1, 1) := by decide +kernel
theorem d_M_bitsOf_14 : decode b_M_bitsOf 14 = .ok (.iand, 1) := by decide +kernel
theorem d_M_bitsOf_15 : decode b_M_bitsOf 15 = .ok (.iadd, 1) := by decide +kernel
theorem d_M_bitsOf_16 : decode b_M_bitsOf 16 = .ok (.istore_n 1, 1) := by decide +kernel
theorem d_M_bitsOf_17 : decode b_M_bitsOf 17 = .ok (.iinc 2 1, 3) := by decide +kernel
theorem d_M_bitsOf_20 : decode b_M_bitsOf 20 = .ok (.goto (-16), 3) := by decide +kernel
theorem d_M_bitsOf_23 : decode b_M_bitsOf 23 = .ok (.iload_n 1, 1) := by decide +kernel
theorem d_M_bitsOf_24 : decode b_M_bitsOf 24 = .ok (.ireturn, 1) := by decide +kernel
theorem d_M_minor_0 : decode b_M_minor 0 = .ok (.iconst 0, 1) := by decide +kernel
theorem d_M_minor_1 : decode b_M_minor 1 = .ok (.istore_n 2, 1) := by decide +kernel
theorem d_M_minor_2 : decode b_M_minor 2 = .ok (.iconst 0, 1) := by decide +kernel
theorem d_M_minor_3 : decode b_M_minor 3 = .ok (.istore_n 3, 1) := by decide +kernel
theorem d_M_minor_4 : decode b_M_minor 4 = .ok (.iload_n 3, 1) := by decide +kernel
theorem d_M_minor_5 : decode b_M_minor 5 = .ok (.aload_n 0, 1) := by decide +kernel
theorem d_M_minor_6 : decode b_M_minor 6 = .ok (.getfield 58, 3) := by decide +kernel
theorem d_M_minor_9 : decode b_M_minor 9 = .ok (.if_icmp .ge 79, 3) := by decide +kernel
theorem d_M_minor_12 : decode b_M_minor 12 = .ok (.iload_n 1, 1) := by decide +kernel
theorem d_M_minor_13 : decode b_M_minor 13 = .ok (.iload_n 3, 1) := by decide +kernel
theorem d_M_minor_14 : decode b_M_minor 14 = .ok (.ishr, 1) := by decide +kernel
theorem d_M_minor_15 : decode b_M_minor 15 = .ok (.iconst 1, 1) := by decide +kernel
theorem d_M_minor_16 : decode b_M_minor 16 = .ok (.iand, 1) := by decide +kernel
theorem d_M_minor_17 : decode b_M_minor 17 = .ok (.ifCond .ne 6, 3) := by decide +kernel
theorem d_M_minor_20 : decode b_M_minor 20 = .ok (.goto 62, 3) := by decide +kernel
theorem d_M_minor_23 : decode b_M_minor 23 = .ok (.iconst 0, 1) := by decide +kernel
theorem d_M_minor_24 : decode b_M_minor 24 = .ok (.istore 4, 2) := by decide +kernel
theorem d_M_minor_26 : decode b_M_minor 26 = .ok (.iconst 0, 1) := by decide +kernel
theorem d_M_minor_27 : decode b_M_minor 27 = .ok (.istore 5, 2) := by decide +kernel
theorem d_M_minor_29 : decode b_M_minor 29 = .ok (.iload 5, 2) := by decide +kernel
theorem d_M_minor_31 : decode b_M_minor 31 = .ok (.aload_n 0, 1) := by decide +kernel
theorem d_M_minor_32 : decode b_M_minor 32 = .ok (.getfield 58, 3) := by decide +kernel
theorem d_M_minor_35 : decode b_M_minor 35 = .ok (.if_icmp .ge 44, 3) := by decide +kernel
theorem d_M_minor_38 : decode b_M_minor 38 = .ok (.iload_n 1, 1) := by decide +kernel
theorem d_M_minor_39 : decode b_M_minor 39 = .ok (.iload 5, 2) := by decide +kernel
theorem d_M_minor_41 : decode b_M_minor 41 = .ok (.ishr, 1) := by decide +kernel
theorem d_M_minor_42 : decode b_M_minor 42 = .ok (.iconst 1, 1) := by decide +kernel
theorem d_M_minor_43 : decode b_M_minor 43 = .ok (.iand, 1) := by decide +kernel
theorem d_M_minor_44 : decode b_M_minor 44 = .ok (.iconst 1, 1) := by decide +kernel
theorem d_M_minor_45 : decode b_M_minor 45 = .ok (.if_icmp .ne 28, 3) := by decide +kernel
theorem d_M_minor_48 : decode b_M_minor 48 = .ok (.aload_n 0, 1) := by decide +kernel
theorem d_M_minor_49 : decode b_M_minor 49 = .ok (.getfield 24, 3) := by decide +kernel
theorem d_M_minor_52 : decode b_M_minor 52 = .ok (.iconst 5, 1) := by decide +kernel
theorem d_M_minor_53 : decode b_M_minor 53 = .ok (.iload_n 2, 1) := by decide +kernel
theorem d_M_minor_54 : decode b_M_minor 54 = .ok (.imul, 1) := by decide +kernel
theorem d_M_minor_55 : decode b_M_minor 55 = .ok (.iload 4, 2) := by decide +kernel
theorem d_M_minor_57 : decode b_M_minor 57 = .ok (.iadd, 1) := by decide +kernel
theorem d_M_minor_58 : decode b_M_minor 58 = .ok (.aload_n 0, 1) := by decide +kernel
theorem d_M_minor_59 : decode b_M_minor 59 = .ok (.getfield 20, 3) := by decide +kernel
theorem d_M_minor_62 : decode b_M_minor 62 = .ok (.iconst 4, 1) := by decide +kernel
theorem d_M_minor_63 : decode b_M_minor 63 = .ok (.iload_n 3, 1) := by decide +kernel
theorem d_M_minor_64 : decode b_M_minor 64 = .ok (.imul, 1) := by decide +kernel
theorem d_M_minor_65 : decode b_M_minor 65 = .ok (.iload 5, 2) := by decide +kernel
theorem d_M_minor_67 : decode b_M_minor 67 = .ok (.iadd, 1) := by decide +kernel
theorem d_M_minor_68 : decode b_M_minor 68 = .ok (.laload, 1) := by decide +kernel
theorem d_M_minor_69 : decode b_M_minor 69 = .ok (.lastore, 1) := by decide +kernel
theorem d_M_minor_70 : decode b_M_minor 70 = .ok (.iinc 4 1, 3) := by decide +kernel
theorem d_M_minor_73 : decode b_M_minor 73 = .ok (.iinc 5 1, 3) := by decide +kernel
theorem d_M_minor_76 : decode b_M_minor 76 = .ok (.goto (-47), 3) := by decide +kernel
theorem d_M_minor_79 : decode b_M_minor 79 = .ok (.iinc 2 1, 3) := by decide +kernel
theorem d_M_minor_82 : decode b_M_minor 82 = .ok (.iinc 3 1, 3) := by decide +kernel
theorem d_M_minor_85 : decode b_M_minor 85 = .ok (.goto (-81), 3) := by decide +kernel
theorem d_M_minor_88 : decode b_M_minor 88 = .ok (.aload_n 0, 1) := by decide +kernel
theorem d_M_minor_89 : decode b_M_minor 89 = .ok (.iload_n 2, 1) := by decide +kernel
theorem d_M_minor_90 : decode b_M_minor 90 = .ok (.invokevirtual 61, 3) := by decide +kernel
theorem d_M_minor_93 : decode b_M_minor 93 = .ok (.lreturn, 1) := by decide +kernel
theorem d_M_determinantOf_0 : decode b_M_determinantOf 0 = .ok (.lconst 1, 1) := by decide +kernel
theorem d_M_determinantOf_1 : decode b_M_determinantOf 1 = .ok (.lstore_n 2, 1) := by decide +kernel
theorem d_M_determinantOf_2 : decode b_M_determinantOf 2 = .ok (.lconst 1, 1) := by decide +kernel
theorem d_M_determinantOf_3 : decode b_M_determinantOf 3 = .ok (.lstore 4, 2) := by decide +kernel
theorem d_M_determinantOf_5 : decode b_M_determinantOf 5 = .ok (.iconst 0, 1) := by decide +kernel
theorem d_M_determinantOf_6 : decode b_M_determinantOf 6 = .ok (.istore 6, 2) := by decide +kernel
theorem d_M_determinantOf_8 : decode b_M_determinantOf 8 = .ok (.iload 6, 2) := by decide +kernel
theorem d_M_determinantOf_10 : decode b_M_determinantOf 10 = .ok (.iload_n 1, 1) := by decide +kernel
theorem d_M_determinantOf_11 : decode b_M_determinantOf 11 = .ok (.if_icmp .ge 184, 3) := by decide +kernel
theorem d_M_determinantOf_14 : decode b_M_determinantOf 14 = .ok (.iload 6, 2) := by decide +kernel
theorem d_M_determinantOf_16 : decode b_M_determinantOf 16 = .ok (.istore 7, 2) := by decide +kernel
theorem d_M_determinantOf_18 : decode b_M_determinantOf 18 = .ok (.iload 7, 2) := by decide +kernel
theorem d_M_determinantOf_20 : decode b_M_determinantOf 20 = .ok (.iload_n 1, 1) := by decide +kernel
theorem d_M_determinantOf_21 : decode b_M_determinantOf 21 = .ok (.if_icmp .ge 26, 3) := by decide +kernel
theorem d_M_determinantOf_24 : decode b_M_determinantOf 24 = .ok (.aload_n 0, 1) := by decide +kernel
theorem d_M_determinantOf_25 : decode b_M_determinantOf 25 = .ok (.getfield 24, 3) := by decide +kernel
theorem d_M_determinantOf_28 : decode b_M_determinantOf 28 = .ok (.iconst 5, 1) := by decide +kernel
theorem d_M_determinantOf_29 : decode b_M_determinantOf 29 = .ok (.iload 7, 2) := by decide +kernel
theorem d_M_determinantOf_31 : decode b_M_determinantOf 31 = .ok (.imul, 1) := by decide +kernel
theorem d_M_determinantOf_32 : decode b_M_determinantOf 32 = .ok (.iload 6, 2) := by decide +kernel
theorem d_M_determinantOf_34 : decode b_M_determinantOf 34 = .ok (.iadd, 1) := by decide +kernel
theorem d_M_determinantOf_35 : decode b_M_determinantOf 35 = .ok (.laload, 1) := by decide +kernel
theorem d_M_determinantOf_36 : decode b_M_determinantOf 36 = .ok (.lconst 0, 1) := by decide +kernel
theorem d_M_determinantOf_37 : decode b_M_determinantOf 37 = .ok (.lcmp, 1) := by decide +kernel
theorem d_M_determinantOf_38 : decode b_M_determinantOf 38 = .ok (.ifCond .ne 9, 3) := by decide +kernel
theorem d_M_determinantOf_41 : decode b_M_determinantOf 41 = .ok (.iinc 7 1, 3) := by decide +kernel
theorem d_M_determinantOf_44 : decode b_M_determinantOf 44 = .ok (.goto (-26), 3) := by decide +kernel
theorem d_M_determinantOf_47 : decode b_M_determinantOf 47 = .ok (.iload 7, 2) := by decide +kernel
theorem d_M_determinantOf_49 : decode b_M_determinantOf 49 = .ok (.iload_n 1, 1) := by decide +kernel
theorem d_M_determinantOf_50 : decode b_M_determinantOf 50 = .ok (.if_icmp .ne 5, 3) := by decide +kernel
theorem d_M_determinantOf_53 : decode b_M_determinantOf 53 = .ok (.lconst 0, 1) := by decide +kernel
theorem d_M_determinantOf_54 : decode b_M_determinantOf 54 = .ok (.lreturn, 1) := by decide +kernel
theorem d_M_determinantOf_55 : decode b_M_determinantOf 55 = .ok (.iload 7, 2) := by decide +kernel
theorem d_M_determinantOf_57 : decode b_M_determinantOf 57 = .ok (.iload 6, 2) := by decide +kernel
theorem d_M_determinantOf_59 : decode b_M_determinantOf 59 = .ok (.if_icmp .le 14, 3) := by decide +kernel
theorem d_M_determinantOf_62 : decode b_M_determinantOf 62 = .ok (.aload_n 0, 1) := by decide +kernel
theorem d_M_determinantOf_63 : decode b_M_determinantOf 63 = .ok (.iload 7, 2) := by decide +kernel
theorem d_M_determinantOf_65 : decode b_M_determinantOf 65 = .ok (.iload 6, 2) := by decide +kernel
theorem d_M_determinantOf_67 : decode b_M_determinantOf 67 = .ok (.invokevirtual 65, 3) := by decide +kernel
theorem d_M_determinantOf_70 : decode b_M_determinantOf 70 = .ok (.lload_n 2, 1) := by decide +kernel
theorem d_M_determinantOf_71 : decode b_M_determinantOf 71 = .ok (.lneg, 1) := by decide +kernel
theorem d_M_determinantOf_72 : decode b_M_determinantOf 72 = .ok (.lstore_n 2, 1) := by decide +kernel
theorem d_M_determinantOf_73 : decode b_M_determinantOf 73 = .ok (.iload 6, 2) := by decide +kernel
theorem d_M_determinantOf_75 : decode b_M_determinantOf 75 = .ok (.iconst 1, 1) := by decide +kernel
theorem d_M_determinantOf_76 : decode b_M_determinantOf 76 = .ok (.iadd, 1) := by decide +kernel
theorem d_M_determinantOf_77 : decode b_M_determinantOf 77 = .ok (.istore 8, 2) := by decide +kernel
theorem d_M_determinantOf_79 : decode b_M_determinantOf 79 = .ok (.iload 8, 2) := by decide +kernel
theorem d_M_determinantOf_81 : decode b_M_determinantOf 81 = .ok (.iload_n 1, 1) := by decide +kernel
theorem d_M_determinantOf_82 : decode b_M_determinantOf 82 = .ok (.if_icmp .ge 93, 3) := by decide +kernel
theorem d_M_determinantOf_85 : decode b_M_determinantOf 85 = .ok (.iload_n 1, 1) := by decide +kernel
theorem d_M_determinantOf_86 : decode b_M_determinantOf 86 = .ok (.iconst 1, 1) := by decide +kernel
theorem d_M_determinantOf_87 : decode b_M_determinantOf 87 = .ok (.isub, 1) := by decide +kernel
theorem d_M_determinantOf_88 : decode b_M_determinantOf 88 = .ok (.istore 9, 2) := by decide +kernel
theorem d_M_determinantOf_90 : decode b_M_determinantOf 90 = .ok (.iload 9, 2) := by decide +kernel
theorem d_M_determinantOf_92 : decode b_M_determinantOf 92 = .ok (.iload 6, 2) := by decide +kernel
theorem d_M_determinantOf_94 : decode b_M_determinantOf 94 = .ok (.if_icmp .lt 75, 3) := by decide +kernel
theorem d_M_determinantOf_97 : decode b_M_determinantOf 97 = .ok (.aload_n 0, 1) := by decide +kernel
theorem d_M_determinantOf_98 : decode b_M_determinantOf 98 = .ok (.getfield 24, 3) := by decide +kernel
theorem d_M_determinantOf_101 : decode b_M_determinantOf 101 = .ok (.iconst 5, 1) := by decide +kernel
theorem d_M_determinantOf_102 : decode b_M_determinantOf 102 = .ok (.iload 8, 2) := by decide +kernel
theorem d_M_determinantOf_104 : decode b_M_determinantOf 104 = .ok (.imul, 1) := by decide +kernel
theorem d_M_determinantOf_105 : decode b_M_determinantOf 105 = .ok (.iload 9, 2) := by decide +kernel
theorem d_M_determinantOf_107 : decode b_M_determinantOf 107 = .ok (.iadd, 1) := by decide +kernel
theorem d_M_determinantOf_108 : decode b_M_determinantOf 108 = .ok (.aload_n 0, 1) := by decide +kernel
theorem d_M_determinantOf_109 : decode b_M_determinantOf 109 = .ok (.getfield 24, 3) := by decide +kernel
theorem d_M_determinantOf_112 : decode b_M_determinantOf 112 = .ok (.iconst 5, 1) := by decide +kernel
theorem d_M_determinantOf_113 : decode b_M_determinantOf 113 = .ok (.iload 8, 2) := by decide +kernel
theorem d_M_determinantOf_115 : decode b_M_determinantOf 115 = .ok (.imul, 1) := by decide +kernel
theorem d_M_determinantOf_116 : decode b_M_determinantOf 116 = .ok (.iload 9, 2) := by decide +kernel
theorem d_M_determinantOf_118 : decode b_M_determinantOf 118 = .ok (.iadd, 1) := by decide +kernel
theorem d_M_determinantOf_119 : decode b_M_determinantOf 119 = .ok (.laload, 1) := by decide +kernel
theorem d_M_determinantOf_120 : decode b_M_determinantOf 120 = .ok (.aload_n 0, 1) := by decide +kernel
theorem d_M_determinantOf_121 : decode b_M_determinantOf 121 = .ok (.getfield 24, 3) := by decide +kernel
theorem d_M_determinantOf_124 : decode b_M_determinantOf 124 = .ok (.iconst 5, 1) := by decide +kernel
theorem d_M_determinantOf_125 : decode b_M_determinantOf 125 = .ok (.iload 6, 2) := by decide +kernel
theorem d_M_determinantOf_127 : decode b_M_determinantOf 127 = .ok (.imul, 1) := by decide +kernel
theorem d_M_determinantOf_128 : decode b_M_determinantOf 128 = .ok (.iload 6, 2) := by decide +kernel
theorem d_M_determinantOf_130 : decode b_M_determinantOf 130 = .ok (.iadd, 1) := by decide +kernel
theorem d_M_determinantOf_131 : decode b_M_determinantOf 131 = .ok (.laload, 1) := by decide +kernel
theorem d_M_determinantOf_132 : decode b_M_determinantOf 132 = .ok (.lmul, 1) := by decide +kernel
theorem d_M_determinantOf_133 : decode b_M_determinantOf 133 = .ok (.aload_n 0, 1) := by decide +kernel
theorem d_M_determinantOf_134 : decode b_M_determinantOf 134 = .ok (.getfield 24, 3) := by decide +kernel
theorem d_M_determinantOf_137 : decode b_M_determinantOf 137 = .ok (.iconst 5, 1) := by decide +kernel
theorem d_M_determinantOf_138 : decode b_M_determinantOf 138 = .ok (.iload 8, 2) := by decide +kernel
theorem d_M_determinantOf_140 : decode b_M_determinantOf 140 = .ok (.imul, 1) := by decide +kernel
theorem d_M_determinantOf_141 : decode b_M_determinantOf 141 = .ok (.iload 6, 2) := by decide +kernel
theorem d_M_determinantOf_143 : decode b_M_determinantOf 143 = .ok (.iadd, 1) := by decide +kernel
theorem d_M_determinantOf_144 : decode b_M_determinantOf 144 = .ok (.laload, 1) := by decide +kernel
theorem d_M_determinantOf_145 : decode b_M_determinantOf 145 = .ok (.aload_n 0, 1) := by decide +kernel
theorem d_M_determinantOf_146 : decode b_M_determinantOf 146 = .ok (.getfield 24, 3) := by decide +kernel
theorem d_M_determinantOf_149 : decode b_M_determinantOf 149 = .ok (.iconst 5, 1) := by decide +kernel
theorem d_M_determinantOf_150 : decode b_M_determinantOf 150 = .ok (.iload 6, 2) := by decide +kernel
theorem d_M_determinantOf_152 : decode b_M_determinantOf 152 = .ok (.imul, 1) := by decide +kernel
theorem d_M_determinantOf_153 : decode b_M_determinantOf 153 = .ok (.iload 9, 2) := by decide +kernel
theorem d_M_determinantOf_155 : decode b_M_determinantOf 155 = .ok (.iadd, 1) := by decide +kernel
theorem d_M_determinantOf_156 : decode b_M_determinantOf 156 = .ok (.laload, 1) := by decide +kernel
theorem d_M_determinantOf_157 : decode b_M_determinantOf 157 = .ok (.lmul, 1) := by decide +kernel
theorem d_M_determinantOf_158 : decode b_M_determinantOf 158 = .ok (.lsub, 1) := by decide +kernel
theorem d_M_determinantOf_159 : decode b_M_determinantOf 159 = .ok (.lload 4, 2) := by decide +kernel
theorem d_M_determinantOf_161 : decode b_M_determinantOf 161 = .ok (.ldiv, 1) := by decide +kernel
theorem d_M_determinantOf_162 : decode b_M_determinantOf 162 = .ok (.lastore, 1) := by decide +kernel
theorem d_M_determinantOf_163 : decode b_M_determinantOf 163 = .ok (.iinc 9 (-1), 3) := by decide +kernel
theorem d_M_determinantOf_166 : decode b_M_determinantOf 166 = .ok (.goto (-76), 3) := by decide +kernel
theorem d_M_determinantOf_169 : decode b_M_determinantOf 169 = .ok (.iinc 8 1, 3) := by decide +kernel
theorem d_M_determinantOf_172 : decode b_M_determinantOf 172 = .ok (.goto (-93), 3) := by decide +kernel
theorem d_M_determinantOf_175 : decode b_M_determinantOf 175 = .ok (.aload_n 0, 1) := by decide +kernel
theorem d_M_determinantOf_176 : decode b_M_determinantOf 176 = .ok (.getfield 24, 3) := by decide +kernel
theorem d_M_determinantOf_179 : decode b_M_determinantOf 179 = .ok (.iconst 5, 1) := by decide +kernel
theorem d_M_determinantOf_180 : decode b_M_determinantOf 180 = .ok (.iload 6, 2) := by decide +kernel
theorem d_M_determinantOf_182 : decode b_M_determinantOf 182 = .ok (.imul, 1) := by decide +kernel
theorem d_M_determinantOf_183 : decode b_M_determinantOf 183 = .ok (.iload 6, 2) := by decide +kernel
theorem d_M_determinantOf_185 : decode b_M_determinantOf 185 = .ok (.iadd, 1) := by decide +kernel
theorem d_M_determinantOf_186 : decode b_M_determinantOf 186 = .ok (.laload, 1) := by decide +kernel
theorem d_M_determinantOf_187 : decode b_M_determinantOf 187 = .ok (.lstore 4, 2) := by decide +kernel
theorem d_M_determinantOf_189 : decode b_M_determinantOf 189 = .ok (.iinc 6 1, 3) := by decide +kernel
theorem d_M_determinantOf_192 : decode b_M_determinantOf 192 = .ok (.goto (-184), 3) := by decide +kernel
theorem d_M_determinantOf_195 : decode b_M_determinantOf 195 = .ok (.iload_n 1, 1) := by decide +kernel
theorem d_M_determinantOf_196 : decode b_M_determinantOf 196 = .ok (.ifCond .ne 7, 3) := by decide +kernel
theorem d_M_determinantOf_199 : decode b_M_determinantOf 199 = .ok (.lconst 1, 1) := by decide +kernel
theorem d_M_determinantOf_200 : decode b_M_determinantOf 200 = .ok (.goto 16, 3) := by decide +kernel
theorem d_M_determinantOf_203 : decode b_M_determinantOf 203 = .ok (.lload_n 2, 1) := by decide +kernel
theorem d_M_determinantOf_204 : decode b_M_determinantOf 204 = .ok (.aload_n 0, 1) := by decide +kernel
theorem d_M_determinantOf_205 : decode b_M_determinantOf 205 = .ok (.getfield 24, 3) := by decide +kernel
theorem d_M_determinantOf_208 : decode b_M_determinantOf 208 = .ok (.bipush 6, 2) := by decide +kernel
theorem d_M_determinantOf_210 : decode b_M_determinantOf 210 = .ok (.iload_n 1, 1) := by decide +kernel
theorem d_M_determinantOf_211 : decode b_M_determinantOf 211 = .ok (.iconst 1, 1) := by decide +kernel
theorem d_M_determinantOf_212 : decode b_M_determinantOf 212 = .ok (.isub, 1) := by decide +kernel
theorem d_M_determinantOf_213 : decode b_M_determinantOf 213 = .ok (.imul, 1) := by decide +kernel
theorem d_M_determinantOf_214 : decode b_M_determinantOf 214 = .ok (.laload, 1) := by decide +kernel
theorem d_M_determinantOf_215 : decode b_M_determinantOf 215 = .ok (.lmul, 1) := by decide +kernel
theorem d_M_determinantOf_216 : decode b_M_determinantOf 216 = .ok (.lreturn, 1) := by decide +kernel
theorem d_M_swapRows_0 : decode b_M_swapRows 0 = .ok (.iconst 0, 1) := by decide +kernel
theorem d_M_swapRows_1 : decode b_M_swapRows 1 = .ok (.istore_n 3, 1) := by decide +kernel
theorem d_M_swapRows_2 : decode b_M_swapRows 2 = .ok (.iload_n 3, 1) := by decide +kernel
theorem d_M_swapRows_3 : decode b_M_swapRows 3 = .ok (.iconst 5, 1) := by decide +kernel
theorem d_M_swapRows_4 : decode b_M_swapRows 4 = .ok (.if_icmp .ge 73, 3) := by decide +kernel
theorem d_M_swapRows_7 : decode b_M_swapRows 7 = .ok (.iconst 5, 1) := by decide +kernel
theorem d_M_swapRows_8 : decode b_M_swapRows 8 = .ok (.iload_n 1, 1) := by decide +kernel
theorem d_M_swapRows_9 : decode b_M_swapRows 9 = .ok (.imul, 1) := by decide +kernel
theorem d_M_swapRows_10 : decode b_M_swapRows 10 = .ok (.iload_n 3, 1) := by decide +kernel
theorem d_M_swapRows_11 : decode b_M_swapRows 11 = .ok (.iadd, 1) := by decide +kernel
theorem d_M_swapRows_12 : decode b_M_swapRows 12 = .ok (.bipush 20, 2) := by decide +kernel
theorem d_M_swapRows_14 : decode b_M_swapRows 14 = .ok (.if_icmp .ge 63, 3) := by decide +kernel
theorem d_M_swapRows_17 : decode b_M_swapRows 17 = .ok (.iconst 5, 1) := by decide +kernel
theorem d_M_swapRows_18 : decode b_M_swapRows 18 = .ok (.iload_n 2, 1) := by decide +kernel
theorem d_M_swapRows_19 : decode b_M_swapRows 19 = .ok (.imul, 1) := by decide +kernel
theorem d_M_swapRows_20 : decode b_M_swapRows 20 = .ok (.iload_n 3, 1) := by decide +kernel
theorem d_M_swapRows_21 : decode b_M_swapRows 21 = .ok (.iadd, 1) := by decide +kernel
theorem d_M_swapRows_22 : decode b_M_swapRows 22 = .ok (.bipush 20, 2) := by decide +kernel
theorem d_M_swapRows_24 : decode b_M_swapRows 24 = .ok (.if_icmp .ge 53, 3) := by decide +kernel
theorem d_M_swapRows_27 : decode b_M_swapRows 27 = .ok (.aload_n 0, 1) := by decide +kernel
theorem d_M_swapRows_28 : decode b_M_swapRows 28 = .ok (.getfield 24, 3) := by decide +kernel
theorem d_M_swapRows_31 : decode b_M_swapRows 31 = .ok (.iconst 5, 1) := by decide +kernel
theorem d_M_swapRows_32 : decode b_M_swapRows 32 = .ok (.iload_n 1, 1) := by decide +kernel
theorem d_M_swapRows_33 : decode b_M_swapRows 33 = .ok (.imul, 1) := by decide +kernel
theorem d_M_swapRows_34 : decode b_M_swapRows 34 = .ok (.iload_n 3, 1) := by decide +kernel
theorem d_M_swapRows_35 : decode b_M_swapRows 35 = .ok (.iadd, 1) := by decide +kernel
theorem d_M_swapRows_36 : decode b_M_swapRows 36 = .ok (.laload, 1) := by decide +kernel
theorem d_M_swapRows_37 : decode b_M_swapRows 37 = .ok (.lstore 4, 2) := by decide +kernel
theorem d_M_swapRows_39 : decode b_M_swapRows 39 = .ok (.aload_n 0, 1) := by decide +kernel
theorem d_M_swapRows_40 : decode b_M_swapRows 40 = .ok (.getfield 24, 3) := by decide +kernel
theorem d_M_swapRows_43 : decode b_M_swapRows 43 = .ok (.iconst 5, 1) := by decide +kernel
theorem d_M_swapRows_44 : decode b_M_swapRows 44 = .ok (.iload_n 1, 1) := by decide +kernel
theorem d_M_swapRows_45 : decode b_M_swapRows 45 = .ok (.imul, 1) := by decide +kernel
theorem d_M_swapRows_46 : decode b_M_swapRows 46 = .ok (.iload_n 3, 1) := by decide +kernel
theorem d_M_swapRows_47 : decode b_M_swapRows 47 = .ok (.iadd, 1) := by decide +kernel
theorem d_M_swapRows_48 : decode b_M_swapRows 48 = .ok (.aload_n 0, 1) := by decide +kernel
theorem d_M_swapRows_49 : decode b_M_swapRows 49 = .ok (.getfield 24, 3) := by decide +kernel
theorem d_M_swapRows_52 : decode b_M_swapRows 52 = .ok (.iconst 5, 1) := by decide +kernel
theorem d_M_swapRows_53 : decode b_M_swapRows 53 = .ok (.iload_n 2, 1) := by decide +kernel
theorem d_M_swapRows_54 : decode b_M_swapRows 54 = .ok (.imul, 1) := by decide +kernel
theorem d_M_swapRows_55 : decode b_M_swapRows 55 = .ok (.iload_n 3, 1) := by decide +kernel
theorem d_M_swapRows_56 : decode b_M_swapRows 56 = .ok (.iadd, 1) := by decide +kernel
theorem d_M_swapRows_57 : decode b_M_swapRows 57 = .ok (.laload, 1) := by decide +kernel
theorem d_M_swapRows_58 : decode b_M_swapRows 58 = .ok (.lastore, 1) := by decide +kernel
theorem d_M_swapRows_59 : decode b_M_swapRows 59 = .ok (.aload_n 0, 1) := by decide +kernel
theorem d_M_swapRows_60 : decode b_M_swapRows 60 = .ok (.getfield 24, 3) := by decide +kernel
theorem d_M_swapRows_63 : decode b_M_swapRows 63 = .ok (.iconst 5, 1) := by decide +kernel
theorem d_M_swapRows_64 : decode b_M_swapRows 64 = .ok (.iload_n 2, 1) := by decide +kernel
theorem d_M_swapRows_65 : decode b_M_swapRows 65 = .ok (.imul, 1) := by decide +kernel
theorem d_M_swapRows_66 : decode b_M_swapRows 66 = .ok (.iload_n 3, 1) := by decide +kernel
theorem d_M_swapRows_67 : decode b_M_swapRows 67 = .ok (.iadd, 1) := by decide +kernel
theorem d_M_swapRows_68 : decode b_M_swapRows 68 = .ok (.lload 4, 2) := by decide +kernel
theorem d_M_swapRows_70 : decode b_M_swapRows 70 = .ok (.lastore, 1) := by decide +kernel
theorem d_M_swapRows_71 : decode b_M_swapRows 71 = .ok (.iinc 3 1, 3) := by decide +kernel
theorem d_M_swapRows_74 : decode b_M_swapRows 74 = .ok (.goto (-72), 3) := by decide +kernel
theorem d_M_swapRows_77 : decode b_M_swapRows 77 = .ok (.return_, 1) := by decide +kernel
theorem d_M_kindOf_0 : decode b_M_kindOf 0 = .ok (.aload_n 0, 1) := by decide +kernel
theorem d_M_kindOf_1 : decode b_M_kindOf 1 = .ok (.getfield 85, 3) := by decide +kernel
theorem d_M_kindOf_4 : decode b_M_kindOf 4 = .ok (.aload_n 0, 1) := by decide +kernel
theorem d_M_kindOf_5 : decode b_M_kindOf 5 = .ok (.getfield 88, 3) := by decide +kernel
theorem d_M_kindOf_8 : decode b_M_kindOf 8 = .ok (.if_icmp .gt 25, 3) := by decide +kernel
theorem d_M_kindOf_11 : decode b_M_kindOf 11 = .ok (.aload_n 0, 1) := by decide +kernel
theorem d_M_kindOf_12 : decode b_M_kindOf 12 = .ok (.getfield 85, 3) := by decide +kernel
theorem d_M_kindOf_15 : decode b_M_kindOf 15 = .ok (.aload_n 0, 1) := by decide +kernel
theorem d_M_kindOf_16 : decode b_M_kindOf 16 = .ok (.getfield 88, 3) := by decide +kernel
theorem d_M_kindOf_19 : decode b_M_kindOf 19 = .ok (.if_icmp .ne 18, 3) := by decide +kernel
theorem d_M_kindOf_22 : decode b_M_kindOf 22 = .ok (.aload_n 0, 1) := by decide +kernel
theorem d_M_kindOf_23 : decode b_M_kindOf 23 = .ok (.getfield 91, 3) := by decide +kernel
theorem d_M_kindOf_26 : decode b_M_kindOf 26 = .ok (.aload_n 0, 1) := by decide +kernel
theorem d_M_kindOf_27 : decode b_M_kindOf 27 = .ok (.getfield 94, 3) := by decide +kernel
theorem d_M_kindOf_30 : decode b_M_kindOf 30 = .ok (.if_icmp .le 7, 3) := by decide +kernel
theorem d_M_kindOf_33 : decode b_M_kindOf 33 = .ok (.iconst 1, 1) := by decide +kernel
theorem d_M_kindOf_34 : decode b_M_kindOf 34 = .ok (.goto 4, 3) := by decide +kernel
theorem d_M_kindOf_37 : decode b_M_kindOf 37 = .ok (.iconst 0, 1) := by decide +kernel
theorem d_M_kindOf_38 : decode b_M_kindOf 38 = .ok (.istore_n 2, 1) := by decide +kernel
theorem d_M_kindOf_39 : decode b_M_kindOf 39 = .ok (.iload_n 2, 1) := by decide +kernel
theorem d_M_kindOf_40 : decode b_M_kindOf 40 = .ok (.ifCond .eq 35, 3) := by decide +kernel
theorem d_M_kindOf_43 : decode b_M_kindOf 43 = .ok (.sipush 1000, 3) := by decide +kernel
theorem d_M_kindOf_46 : decode b_M_kindOf 46 = .ok (.aload_n 0, 1) := by decide +kernel
theorem d_M_kindOf_47 : decode b_M_kindOf 47 = .ok (.getfield 85, 3) := by decide +kernel
theorem d_M_kindOf_50 : decode b_M_kindOf 50 = .ok (.imul, 1) := by decide +kernel
theorem d_M_kindOf_51 : decode b_M_kindOf 51 = .ok (.bipush 100, 2) := by decide +kernel
theorem d_M_kindOf_53 : decode b_M_kindOf 53 = .ok (.aload_n 0, 1) := by decide +kernel
theorem d_M_kindOf_54 : decode b_M_kindOf 54 = .ok (.getfield 88, 3) := by decide +kernel
theorem d_M_kindOf_57 : decode b_M_kindOf 57 = .ok (.imul, 1) := by decide +kernel
theorem d_M_kindOf_58 : decode b_M_kindOf 58 = .ok (.iadd, 1) := by decide +kernel
theorem d_M_kindOf_59 : decode b_M_kindOf 59 = .ok (.bipush 10, 2) := by decide +kernel
theorem d_M_kindOf_61 : decode b_M_kindOf 61 = .ok (.aload_n 0, 1) := by decide +kernel
theorem d_M_kindOf_62 : decode b_M_kindOf 62 = .ok (.getfield 91, 3) := by decide +kernel
theorem d_M_kindOf_65 : decode b_M_kindOf 65 = .ok (.imul, 1) := by decide +kernel
theorem d_M_kindOf_66 : decode b_M_kindOf 66 = .ok (.iadd, 1) := by decide +kernel
theorem d_M_kindOf_67 : decode b_M_kindOf 67 = .ok (.aload_n 0, 1) := by decide +kernel
theorem d_M_kindOf_68 : decode b_M_kindOf 68 = .ok (.getfield 94, 3) := by decide +kernel
theorem d_M_kindOf_71 : decode b_M_kindOf 71 = .ok (.iadd, 1) := by decide +kernel
theorem d_M_kindOf_72 : decode b_M_kindOf 72 = .ok (.goto 32, 3) := by decide +kernel
theorem d_M_kindOf_75 : decode b_M_kindOf 75 = .ok (.sipush 1000, 3) := by decide +kernel
theorem d_M_kindOf_78 : decode b_M_kindOf 78 = .ok (.aload_n 0, 1) := by decide +kernel
theorem d_M_kindOf_79 : decode b_M_kindOf 79 = .ok (.getfield 88, 3) := by decide +kernel
theorem d_M_kindOf_82 : decode b_M_kindOf 82 = .ok (.imul, 1) := by decide +kernel
theorem d_M_kindOf_83 : decode b_M_kindOf 83 = .ok (.bipush 100, 2) := by decide +kernel
theorem d_M_kindOf_85 : decode b_M_kindOf 85 = .ok (.aload_n 0, 1) := by decide +kernel
theorem d_M_kindOf_86 : decode b_M_kindOf 86 = .ok (.getfield 85, 3) := by decide +kernel
theorem d_M_kindOf_89 : decode b_M_kindOf 89 = .ok (.imul, 1) := by decide +kernel
theorem d_M_kindOf_90 : decode b_M_kindOf 90 = .ok (.iadd, 1) := by decide +kernel
theorem d_M_kindOf_91 : decode b_M_kindOf 91 = .ok (.bipush 10, 2) := by decide +kernel
theorem d_M_kindOf_93 : decode b_M_kindOf 93 = .ok (.aload_n 0, 1) := by decide +kernel
theorem d_M_kindOf_94 : decode b_M_kindOf 94 = .ok (.getfield 94, 3) := by decide +kernel
theorem d_M_kindOf_97 : decode b_M_kindOf 97 = .ok (.imul, 1) := by decide +kernel
theorem d_M_kindOf_98 : decode b_M_kindOf 98 = .ok (.iadd, 1) := by decide +kernel
theorem d_M_kindOf_99 : decode b_M_kindOf 99 = .ok (.aload_n 0, 1) := by decide +kernel
theorem d_M_kindOf_100 : decode b_M_kindOf 100 = .ok (.getfield 91, 3) := by decide +kernel
theorem d_M_kindOf_103 : decode b_M_kindOf 103 = .ok (.iadd, 1) := by decide +kernel
theorem d_M_kindOf_104 : decode b_M_kindOf 104 = .ok (.istore_n 3, 1) := by decide +kernel
theorem d_M_kindOf_105 : decode b_M_kindOf 105 = .ok (.iconst (-1), 1) := by decide +kernel
theorem d_M_kindOf_106 : decode b_M_kindOf 106 = .ok (.istore 4, 2) := by decide +kernel
theorem d_M_kindOf_108 : decode b_M_kindOf 108 = .ok (.iconst 0, 1) := by decide +kernel
theorem d_M_kindOf_109 : decode b_M_kindOf 109 = .ok (.istore 5, 2) := by decide +kernel
theorem d_M_kindOf_111 : decode b_M_kindOf 111 = .ok (.iload 5, 2) := by decide +kernel
theorem d_M_kindOf_113 : decode b_M_kindOf 113 = .ok (.iload_n 1, 1) := by decide +kernel
theorem d_M_kindOf_114 : decode b_M_kindOf 114 = .ok (.ifCond .eq 11, 3) := by decide +kernel
theorem d_M_kindOf_117 : decode b_M_kindOf 117 = .ok (.aload_n 0, 1) := by decide +kernel
theorem d_M_kindOf_118 : decode b_M_kindOf 118 = .ok (.getfield 27, 3) := by decide +kernel
theorem d_M_kindOf_121 : decode b_M_kindOf 121 = .ok (.arraylength, 1) := by decide +kernel
theorem d_M_kindOf_122 : decode b_M_kindOf 122 = .ok (.goto 8, 3) := by decide +kernel
theorem d_M_kindOf_125 : decode b_M_kindOf 125 = .ok (.aload_n 0, 1) := by decide +kernel
theorem d_M_kindOf_126 : decode b_M_kindOf 126 = .ok (.getfield 30, 3) := by decide +kernel
theorem d_M_kindOf_129 : decode b_M_kindOf 129 = .ok (.arraylength, 1) := by decide +kernel
theorem d_M_kindOf_130 : decode b_M_kindOf 130 = .ok (.if_icmp .ge 65, 3) := by decide +kernel
theorem d_M_kindOf_133 : decode b_M_kindOf 133 = .ok (.iload_n 1, 1) := by decide +kernel
theorem d_M_kindOf_134 : decode b_M_kindOf 134 = .ok (.ifCond .eq 13, 3) := by decide +kernel
theorem d_M_kindOf_137 : decode b_M_kindOf 137 = .ok (.aload_n 0, 1) := by decide +kernel
theorem d_M_kindOf_138 : decode b_M_kindOf 138 = .ok (.getfield 27, 3) := by decide +kernel
theorem d_M_kindOf_141 : decode b_M_kindOf 141 = .ok (.iload 5, 2) := by decide +kernel
theorem d_M_kindOf_143 : decode b_M_kindOf 143 = .ok (.iaload, 1) := by decide +kernel
theorem d_M_kindOf_144 : decode b_M_kindOf 144 = .ok (.goto 10, 3) := by decide +kernel
theorem d_M_kindOf_147 : decode b_M_kindOf 147 = .ok (.aload_n 0, 1) := by decide +kernel
theorem d_M_kindOf_148 : decode b_M_kindOf 148 = .ok (.getfield 30, 3) := by decide +kernel
theorem d_M_kindOf_151 : decode b_M_kindOf 151 = .ok (.iload 5, 2) := by decide +kernel
theorem d_M_kindOf_153 : decode b_M_kindOf 153 = .ok (.iaload, 1) := by decide +kernel
theorem d_M_kindOf_154 : decode b_M_kindOf 154 = .ok (.istore 6, 2) := by decide +kernel
theorem d_M_kindOf_156 : decode b_M_kindOf 156 = .ok (.iload 6, 2) := by decide +kernel
theorem d_M_kindOf_158 : decode b_M_kindOf 158 = .ok (.iload_n 3, 1) := by decide +kernel
theorem d_M_kindOf_159 : decode b_M_kindOf 159 = .ok (.if_icmp .ne 30, 3) := by decide +kernel
theorem d_M_kindOf_162 : decode b_M_kindOf 162 = .ok (.iload_n 1, 1) := by decide +kernel
theorem d_M_kindOf_163 : decode b_M_kindOf 163 = .ok (.ifCond .eq 15, 3) := by decide +kernel
theorem d_M_kindOf_166 : decode b_M_kindOf 166 = .ok (.aload_n 0, 1) := by decide +kernel
theorem d_M_kindOf_167 : decode b_M_kindOf 167 = .ok (.getfield 27, 3) := by decide +kernel
theorem d_M_kindOf_170 : decode b_M_kindOf 170 = .ok (.iload 5, 2) := by decide +kernel
theorem d_M_kindOf_172 : decode b_M_kindOf 172 = .ok (.iconst 1, 1) := by decide +kernel
theorem d_M_kindOf_173 : decode b_M_kindOf 173 = .ok (.iadd, 1) := by decide +kernel
theorem d_M_kindOf_174 : decode b_M_kindOf 174 = .ok (.iaload, 1) := by decide +kernel
theorem d_M_kindOf_175 : decode b_M_kindOf 175 = .ok (.goto 12, 3) := by decide +kernel
theorem d_M_kindOf_178 : decode b_M_kindOf 178 = .ok (.aload_n 0, 1) := by decide +kernel
theorem d_M_kindOf_179 : decode b_M_kindOf 179 = .ok (.getfield 30, 3) := by decide +kernel
theorem d_M_kindOf_182 : decode b_M_kindOf 182 = .ok (.iload 5, 2) := by decide +kernel
theorem d_M_kindOf_184 : decode b_M_kindOf 184 = .ok (.iconst 1, 1) := by decide +kernel
theorem d_M_kindOf_185 : decode b_M_kindOf 185 = .ok (.iadd, 1) := by decide +kernel
theorem d_M_kindOf_186 : decode b_M_kindOf 186 = .ok (.iaload, 1) := by decide +kernel
theorem d_M_kindOf_187 : decode b_M_kindOf 187 = .ok (.istore 4, 2) := by decide +kernel
theorem d_M_kindOf_189 : decode b_M_kindOf 189 = .ok (.iinc 5 2, 3) := by decide +kernel
theorem d_M_kindOf_192 : decode b_M_kindOf 192 = .ok (.goto (-81), 3) := by decide +kernel
theorem d_M_kindOf_195 : decode b_M_kindOf 195 = .ok (.iload 4, 2) := by decide +kernel
theorem d_M_kindOf_197 : decode b_M_kindOf 197 = .ok (.ireturn, 1) := by decide +kernel
theorem d_M_signs_0 : decode b_M_signs 0 = .ok (.aload_n 0, 1) := by decide +kernel
theorem d_M_signs_1 : decode b_M_signs 1 = .ok (.iconst 0, 1) := by decide +kernel
theorem d_M_signs_2 : decode b_M_signs 2 = .ok (.putfield 45, 3) := by decide +kernel
theorem d_M_signs_5 : decode b_M_signs 5 = .ok (.aload_n 0, 1) := by decide +kernel
theorem d_M_signs_6 : decode b_M_signs 6 = .ok (.invokevirtual 104, 3) := by decide +kernel
theorem d_M_signs_9 : decode b_M_signs 9 = .ok (.iload_n 1, 1) := by decide +kernel
theorem d_M_signs_10 : decode b_M_signs 10 = .ok (.ifCond .ne 10, 3) := by decide +kernel
theorem d_M_signs_13 : decode b_M_signs 13 = .ok (.aload_n 0, 1) := by decide +kernel
theorem d_M_signs_14 : decode b_M_signs 14 = .ok (.getfield 88, 3) := by decide +kernel
theorem d_M_signs_17 : decode b_M_signs 17 = .ok (.goto 41, 3) := by decide +kernel
theorem d_M_signs_20 : decode b_M_signs 20 = .ok (.iload_n 1, 1) := by decide +kernel
theorem d_M_signs_21 : decode b_M_signs 21 = .ok (.iconst 1, 1) := by decide +kernel
theorem d_M_signs_22 : decode b_M_signs 22 = .ok (.if_icmp .ne 10, 3) := by decide +kernel
theorem d_M_signs_25 : decode b_M_signs 25 = .ok (.aload_n 0, 1) := by decide +kernel
theorem d_M_signs_26 : decode b_M_signs 26 = .ok (.getfield 85, 3) := by decide +kernel
theorem d_M_signs_29 : decode b_M_signs 29 = .ok (.goto 29, 3) := by decide +kernel
theorem d_M_signs_32 : decode b_M_signs 32 = .ok (.iload_n 1, 1) := by decide +kernel
theorem d_M_signs_33 : decode b_M_signs 33 = .ok (.iconst 2, 1) := by decide +kernel
theorem d_M_signs_34 : decode b_M_signs 34 = .ok (.if_icmp .ne 10, 3) := by decide +kernel
theorem d_M_signs_37 : decode b_M_signs 37 = .ok (.aload_n 0, 1) := by decide +kernel
theorem d_M_signs_38 : decode b_M_signs 38 = .ok (.getfield 94, 3) := by decide +kernel
theorem d_M_signs_41 : decode b_M_signs 41 = .ok (.goto 17, 3) := by decide +kernel
theorem d_M_signs_44 : decode b_M_signs 44 = .ok (.iload_n 1, 1) := by decide +kernel
theorem d_M_signs_45 : decode b_M_signs 45 = .ok (.iconst 3, 1) := by decide +kernel
theorem d_M_signs_46 : decode b_M_signs 46 = .ok (.if_icmp .ne 10, 3) := by decide +kernel
theorem d_M_signs_49 : decode b_M_signs 49 = .ok (.aload_n 0, 1) := by decide +kernel
theorem d_M_signs_50 : decode b_M_signs 50 = .ok (.getfield 91, 3) := by decide +kernel
theorem d_M_signs_53 : decode b_M_signs 53 = .ok (.goto 5, 3) := by decide +kernel
theorem d_M_signs_56 : decode b_M_signs 56 = .ok (.bipush (-2), 2) := by decide +kernel
theorem d_M_signs_58 : decode b_M_signs 58 = .ok (.ireturn, 1) := by decide +kernel
theorem d_M_determinant_0 : decode b_M_determinant 0 = .ok (.aload_n 0, 1) := by decide +kernel
theorem d_M_determinant_1 : decode b_M_determinant 1 = .ok (.iconst 0, 1) := by decide +kernel
theorem d_M_determinant_2 : decode b_M_determinant 2 = .ok (.putfield 45, 3) := by decide +kernel
theorem d_M_determinant_5 : decode b_M_determinant 5 = .ok (.iload_n 1, 1) := by decide +kernel
theorem d_M_determinant_6 : decode b_M_determinant 6 = .ok (.i2l, 1) := by decide +kernel
theorem d_M_determinant_7 : decode b_M_determinant 7 = .ok (.iconst 0, 1) := by decide +kernel
theorem d_M_determinant_8 : decode b_M_determinant 8 = .ok (.iconst 3, 1) := by decide +kernel
theorem d_M_determinant_9 : decode b_M_determinant 9 = .ok (.invokestatic 52, 3) := by decide +kernel
theorem d_M_determinant_12 : decode b_M_determinant 12 = .ok (.ifCond .ne 7, 3) := by decide +kernel
theorem d_M_determinant_15 : decode b_M_determinant 15 = .ok (.ldc2_w 56, 3) := by decide +kernel
theorem d_M_determinant_18 : decode b_M_determinant 18 = .ok (.lreturn, 1) := by decide +kernel
theorem d_M_determinant_19 : decode b_M_determinant 19 = .ok (.aload_n 0, 1) := by decide +kernel
theorem d_M_determinant_20 : decode b_M_determinant 20 = .ok (.iload_n 1, 1) := by decide +kernel
theorem d_M_determinant_21 : decode b_M_determinant 21 = .ok (.iconst 1, 1) := by decide +kernel
theorem d_M_determinant_22 : decode b_M_determinant 22 = .ok (.if_icmp .ne 7, 3) := by decide +kernel
theorem d_M_determinant_25 : decode b_M_determinant 25 = .ok (.iconst 1, 1) := by decide +kernel
theorem d_M_determinant_26 : decode b_M_determinant 26 = .ok (.goto 4, 3) := by decide +kernel
theorem d_M_determinant_29 : decode b_M_determinant 29 = .ok (.iconst 0, 1) := by decide +kernel
theorem d_M_determinant_30 : decode b_M_determinant 30 = .ok (.invokevirtual 97, 3) := by decide +kernel
theorem d_M_determinant_33 : decode b_M_determinant 33 = .ok (.iload_n 1, 1) := by decide +kernel
theorem d_M_determinant_34 : decode b_M_determinant 34 = .ok (.iconst 2, 1) := by decide +kernel
theorem d_M_determinant_35 : decode b_M_determinant 35 = .ok (.if_icmp .ge 14, 3) := by decide +kernel
theorem d_M_determinant_38 : decode b_M_determinant 38 = .ok (.aload_n 0, 1) := by decide +kernel
theorem d_M_determinant_39 : decode b_M_determinant 39 = .ok (.aload_n 0, 1) := by decide +kernel
theorem d_M_determinant_40 : decode b_M_determinant 40 = .ok (.getfield 58, 3) := by decide +kernel
theorem d_M_determinant_43 : decode b_M_determinant 43 = .ok (.invokevirtual 82, 3) := by decide +kernel
theorem d_M_determinant_46 : decode b_M_determinant 46 = .ok (.goto 21, 3) := by decide +kernel
theorem d_M_determinant_49 : decode b_M_determinant 49 = .ok (.iload_n 1, 1) := by decide +kernel
theorem d_M_determinant_50 : decode b_M_determinant 50 = .ok (.iconst 2, 1) := by decide +kernel
theorem d_M_determinant_51 : decode b_M_determinant 51 = .ok (.if_icmp .ne 11, 3) := by decide +kernel
theorem d_M_determinant_54 : decode b_M_determinant 54 = .ok (.aload_n 0, 1) := by decide +kernel
theorem d_M_determinant_55 : decode b_M_determinant 55 = .ok (.iconst 1, 1) := by decide +kernel
theorem d_M_determinant_56 : decode b_M_determinant 56 = .ok (.invokevirtual 82, 3) := by decide +kernel
theorem d_M_determinant_59 : decode b_M_determinant 59 = .ok (.goto 8, 3) := by decide +kernel
theorem d_M_determinant_62 : decode b_M_determinant 62 = .ok (.aload_n 0, 1) := by decide +kernel
theorem d_M_determinant_63 : decode b_M_determinant 63 = .ok (.iconst 2, 1) := by decide +kernel
theorem d_M_determinant_64 : decode b_M_determinant 64 = .ok (.invokevirtual 82, 3) := by decide +kernel
theorem d_M_determinant_67 : decode b_M_determinant 67 = .ok (.lreturn, 1) := by decide +kernel
theorem d_M_middles_0 : decode b_M_middles 0 = .ok (.aload_n 0, 1) := by decide +kernel
theorem d_M_middles_1 : decode b_M_middles 1 = .ok (.iconst 0, 1) := by decide +kernel
theorem d_M_middles_2 : decode b_M_middles 2 = .ok (.putfield 45, 3) := by decide +kernel
theorem d_M_middles_5 : decode b_M_middles 5 = .ok (.aload_n 0, 1) := by decide +kernel
theorem d_M_middles_6 : decode b_M_middles 6 = .ok (.iconst 0, 1) := by decide +kernel
theorem d_M_middles_7 : decode b_M_middles 7 = .ok (.invokevirtual 115, 3) := by decide +kernel
theorem d_M_middles_10 : decode b_M_middles 10 = .ok (.istore_n 1, 1) := by decide +kernel
theorem d_M_middles_11 : decode b_M_middles 11 = .ok (.iload_n 1, 1) := by decide +kernel
theorem d_M_middles_12 : decode b_M_middles 12 = .ok (.aload_n 0, 1) := by decide +kernel
theorem d_M_middles_13 : decode b_M_middles 13 = .ok (.iconst 1, 1) := by decide +kernel
theorem d_M_middles_14 : decode b_M_middles 14 = .ok (.invokevirtual 115, 3) := by decide +kernel
theorem d_M_middles_17 : decode b_M_middles 17 = .ok (.if_icmp .ne 12, 3) := by decide +kernel
theorem d_M_middles_20 : decode b_M_middles 20 = .ok (.aload_n 0, 1) := by decide +kernel
theorem d_M_middles_21 : decode b_M_middles 21 = .ok (.getfield 7, 3) := by decide +kernel
theorem d_M_middles_24 : decode b_M_middles 24 = .ok (.iload_n 1, 1) := by decide +kernel
theorem d_M_middles_25 : decode b_M_middles 25 = .ok (.isub, 1) := by decide +kernel
theorem d_M_middles_26 : decode b_M_middles 26 = .ok (.goto 5, 3) := by decide +kernel
theorem d_M_middles_29 : decode b_M_middles 29 = .ok (.bipush (-3), 2) := by decide +kernel
theorem d_M_middles_31 : decode b_M_middles 31 = .ok (.ireturn, 1) := by decide +kernel
theorem d_M_rank_0 : decode b_M_rank 0 = .ok (.iload_n 1, 1) := by decide +kernel
theorem d_M_rank_1 : decode b_M_rank 1 = .ok (.ifCond .eq 12, 3) := by decide +kernel
theorem d_M_rank_4 : decode b_M_rank 4 = .ok (.aload_n 0, 1) := by decide +kernel
theorem d_M_rank_5 : decode b_M_rank 5 = .ok (.getfield 7, 3) := by decide +kernel
theorem d_M_rank_8 : decode b_M_rank 8 = .ok (.iconst 1, 1) := by decide +kernel
theorem d_M_rank_9 : decode b_M_rank 9 = .ok (.iadd, 1) := by decide +kernel
theorem d_M_rank_10 : decode b_M_rank 10 = .ok (.goto 7, 3) := by decide +kernel
theorem d_M_rank_13 : decode b_M_rank 13 = .ok (.aload_n 0, 1) := by decide +kernel
theorem d_M_rank_14 : decode b_M_rank 14 = .ok (.getfield 7, 3) := by decide +kernel
theorem d_M_rank_17 : decode b_M_rank 17 = .ok (.istore_n 2, 1) := by decide +kernel
theorem d_M_rank_18 : decode b_M_rank 18 = .ok (.iconst 0, 1) := by decide +kernel
theorem d_M_rank_19 : decode b_M_rank 19 = .ok (.istore_n 3, 1) := by decide +kernel
theorem d_M_rank_20 : decode b_M_rank 20 = .ok (.iload_n 3, 1) := by decide +kernel
theorem d_M_rank_21 : decode b_M_rank 21 = .ok (.aload_n 0, 1) := by decide +kernel
theorem d_M_rank_22 : decode b_M_rank 22 = .ok (.getfield 7, 3) := by decide +kernel
theorem d_M_rank_25 : decode b_M_rank 25 = .ok (.if_icmp .ge 74, 3) := by decide +kernel
theorem d_M_rank_28 : decode b_M_rank 28 = .ok (.iconst 0, 1) := by decide +kernel
theorem d_M_rank_29 : decode b_M_rank 29 = .ok (.istore 4, 2) := by decide +kernel
theorem d_M_rank_31 : decode b_M_rank 31 = .ok (.iload 4, 2) := by decide +kernel
theorem d_M_rank_33 : decode b_M_rank 33 = .ok (.iload_n 2, 1) := by decide +kernel
theorem d_M_rank_34 : decode b_M_rank 34 = .ok (.if_icmp .ge 59, 3) := by decide +kernel
theorem d_M_rank_37 : decode b_M_rank 37 = .ok (.aload_n 0, 1) := by decide +kernel
theorem d_M_rank_38 : decode b_M_rank 38 = .ok (.getfield 24, 3) := by decide +kernel
theorem d_M_rank_41 : decode b_M_rank 41 = .ok (.iconst 5, 1) := by decide +kernel
theorem d_M_rank_42 : decode b_M_rank 42 = .ok (.iload_n 3, 1) := by decide +kernel
theorem d_M_rank_43 : decode b_M_rank 43 = .ok (.imul, 1) := by decide +kernel
theorem d_M_rank_44 : decode b_M_rank 44 = .ok (.iload 4, 2) := by decide +kernel
theorem d_M_rank_46 : decode b_M_rank 46 = .ok (.iadd, 1) := by decide +kernel
theorem d_M_rank_47 : decode b_M_rank 47 = .ok (.iload 4, 2) := by decide +kernel
theorem d_M_rank_49 : decode b_M_rank 49 = .ok (.aload_n 0, 1) := by decide +kernel
theorem d_M_rank_50 : decode b_M_rank 50 = .ok (.getfield 7, 3) := by decide +kernel
theorem d_M_rank_53 : decode b_M_rank 53 = .ok (.if_icmp .ge 22, 3) := by decide +kernel
theorem d_M_rank_56 : decode b_M_rank 56 = .ok (.aload_n 0, 1) := by decide +kernel
theorem d_M_rank_57 : decode b_M_rank 57 = .ok (.getfield 13, 3) := by decide +kernel
theorem d_M_rank_60 : decode b_M_rank 60 = .ok (.iconst 4, 1) := by decide +kernel
theorem d_M_rank_61 : decode b_M_rank 61 = .ok (.iload_n 3, 1) := by decide +kernel
theorem d_M_rank_62 : decode b_M_rank 62 = .ok (.iconst 1, 1) := by decide +kernel
theorem d_M_rank_63 : decode b_M_rank 63 = .ok (.iadd, 1) := by decide +kernel
theorem d_M_rank_64 : decode b_M_rank 64 = .ok (.imul, 1) := by decide +kernel
theorem d_M_rank_65 : decode b_M_rank 65 = .ok (.iload 4, 2) := by decide +kernel
theorem d_M_rank_67 : decode b_M_rank 67 = .ok (.iadd, 1) := by decide +kernel
theorem d_M_rank_68 : decode b_M_rank 68 = .ok (.iconst 1, 1) := by decide +kernel
theorem d_M_rank_69 : decode b_M_rank 69 = .ok (.iadd, 1) := by decide +kernel
theorem d_M_rank_70 : decode b_M_rank 70 = .ok (.iaload, 1) := by decide +kernel
theorem d_M_rank_71 : decode b_M_rank 71 = .ok (.i2l, 1) := by decide +kernel
theorem d_M_rank_72 : decode b_M_rank 72 = .ok (.goto 14, 3) := by decide +kernel
theorem d_M_rank_75 : decode b_M_rank 75 = .ok (.aload_n 0, 1) := by decide +kernel
theorem d_M_rank_76 : decode b_M_rank 76 = .ok (.getfield 13, 3) := by decide +kernel
theorem d_M_rank_79 : decode b_M_rank 79 = .ok (.iconst 4, 1) := by decide +kernel
theorem d_M_rank_80 : decode b_M_rank 80 = .ok (.iload_n 3, 1) := by decide +kernel
theorem d_M_rank_81 : decode b_M_rank 81 = .ok (.iconst 1, 1) := by decide +kernel
theorem d_M_rank_82 : decode b_M_rank 82 = .ok (.iadd, 1) := by decide +kernel
theorem d_M_rank_83 : decode b_M_rank 83 = .ok (.imul, 1) := by decide +kernel
theorem d_M_rank_84 : decode b_M_rank 84 = .ok (.iaload, 1) := by decide +kernel
theorem d_M_rank_85 : decode b_M_rank 85 = .ok (.i2l, 1) := by decide +kernel
theorem d_M_rank_86 : decode b_M_rank 86 = .ok (.lastore, 1) := by decide +kernel
theorem d_M_rank_87 : decode b_M_rank 87 = .ok (.iinc 4 1, 3) := by decide +kernel
theorem d_M_rank_90 : decode b_M_rank 90 = .ok (.goto (-59), 3) := by decide +kernel
theorem d_M_rank_93 : decode b_M_rank 93 = .ok (.iinc 3 1, 3) := by decide +kernel
theorem d_M_rank_96 : decode b_M_rank 96 = .ok (.goto (-76), 3) := by decide +kernel
theorem d_M_rank_99 : decode b_M_rank 99 = .ok (.iconst 0, 1) := by decide +kernel
theorem d_M_rank_100 : decode b_M_rank 100 = .ok (.istore_n 3, 1) := by decide +kernel
theorem d_M_rank_101 : decode b_M_rank 101 = .ok (.iconst 0, 1) := by decide +kernel
theorem d_M_rank_102 : decode b_M_rank 102 = .ok (.istore 4, 2) := by decide +kernel
theorem d_M_rank_104 : decode b_M_rank 104 = .ok (.iload 4, 2) := by decide +kernel
theorem d_M_rank_106 : decode b_M_rank 106 = .ok (.iload_n 2, 1) := by decide +kernel
theorem d_M_rank_107 : decode b_M_rank 107 = .ok (.if_icmp .ge 174, 3) := by decide +kernel
theorem d_M_rank_110 : decode b_M_rank 110 = .ok (.iload_n 3, 1) := by decide +kernel
theorem d_M_rank_111 : decode b_M_rank 111 = .ok (.aload_n 0, 1) := by decide +kernel
theorem d_M_rank_112 : decode b_M_rank 112 = .ok (.getfield 7, 3) := by decide +kernel
theorem d_M_rank_115 : decode b_M_rank 115 = .ok (.if_icmp .ge 166, 3) := by decide +kernel
theorem d_M_rank_118 : decode b_M_rank 118 = .ok (.iload_n 3, 1) := by decide +kernel
theorem d_M_rank_119 : decode b_M_rank 119 = .ok (.istore 5, 2) := by decide +kernel
theorem d_M_rank_121 : decode b_M_rank 121 = .ok (.iload 5, 2) := by decide +kernel
theorem d_M_rank_123 : decode b_M_rank 123 = .ok (.aload_n 0, 1) := by decide +kernel
theorem d_M_rank_124 : decode b_M_rank 124 = .ok (.getfield 7, 3) := by decide +kernel
theorem d_M_rank_127 : decode b_M_rank 127 = .ok (.if_icmp .ge 26, 3) := by decide +kernel
theorem d_M_rank_130 : decode b_M_rank 130 = .ok (.aload_n 0, 1) := by decide +kernel
theorem d_M_rank_131 : decode b_M_rank 131 = .ok (.getfield 24, 3) := by decide +kernel
theorem d_M_rank_134 : decode b_M_rank 134 = .ok (.iconst 5, 1) := by decide +kernel
theorem d_M_rank_135 : decode b_M_rank 135 = .ok (.iload 5, 2) := by decide +kernel
theorem d_M_rank_137 : decode b_M_rank 137 = .ok (.imul, 1) := by decide +kernel
theorem d_M_rank_138 : decode b_M_rank 138 = .ok (.iload 4, 2) := by decide +kernel
theorem d_M_rank_140 : decode b_M_rank 140 = .ok (.iadd, 1) := by decide +kernel
theorem d_M_rank_141 : decode b_M_rank 141 = .ok (.laload, 1) := by decide +kernel
theorem d_M_rank_142 : decode b_M_rank 142 = .ok (.lconst 0, 1) := by decide +kernel
theorem d_M_rank_143 : decode b_M_rank 143 = .ok (.lcmp, 1) := by decide +kernel
theorem d_M_rank_144 : decode b_M_rank 144 = .ok (.ifCond .ne 9, 3) := by decide +kernel
theorem d_M_rank_147 : decode b_M_rank 147 = .ok (.iinc 5 1, 3) := by decide +kernel
theorem d_M_rank_150 : decode b_M_rank 150 = .ok (.goto (-29), 3) := by decide +kernel
theorem d_M_rank_153 : decode b_M_rank 153 = .ok (.iload 5, 2) := by decide +kernel
theorem d_M_rank_155 : decode b_M_rank 155 = .ok (.aload_n 0, 1) := by decide +kernel
theorem d_M_rank_156 : decode b_M_rank 156 = .ok (.getfield 7, 3) := by decide +kernel
theorem d_M_rank_159 : decode b_M_rank 159 = .ok (.if_icmp .ne 6, 3) := by decide +kernel
theorem d_M_rank_162 : decode b_M_rank 162 = .ok (.goto 113, 3) := by decide +kernel
theorem d_M_rank_165 : decode b_M_rank 165 = .ok (.aload_n 0, 1) := by decide +kernel
theorem d_M_rank_166 : decode b_M_rank 166 = .ok (.iload 5, 2) := by decide +kernel
theorem d_M_rank_168 : decode b_M_rank 168 = .ok (.iload_n 3, 1) := by decide +kernel
theorem d_M_rank_169 : decode b_M_rank 169 = .ok (.invokevirtual 65, 3) := by decide +kernel
theorem d_M_rank_172 : decode b_M_rank 172 = .ok (.iload_n 3, 1) := by decide +kernel
theorem d_M_rank_173 : decode b_M_rank 173 = .ok (.iconst 1, 1) := by decide +kernel
theorem d_M_rank_174 : decode b_M_rank 174 = .ok (.iadd, 1) := by decide +kernel
theorem d_M_rank_175 : decode b_M_rank 175 = .ok (.istore 6, 2) := by decide +kernel
theorem d_M_rank_177 : decode b_M_rank 177 = .ok (.iload 6, 2) := by decide +kernel
theorem d_M_rank_179 : decode b_M_rank 179 = .ok (.aload_n 0, 1) := by decide +kernel
theorem d_M_rank_180 : decode b_M_rank 180 = .ok (.getfield 7, 3) := by decide +kernel
theorem d_M_rank_183 : decode b_M_rank 183 = .ok (.if_icmp .ge 89, 3) := by decide +kernel
theorem d_M_rank_186 : decode b_M_rank 186 = .ok (.aload_n 0, 1) := by decide +kernel
theorem d_M_rank_187 : decode b_M_rank 187 = .ok (.getfield 24, 3) := by decide +kernel
theorem d_M_rank_190 : decode b_M_rank 190 = .ok (.iconst 5, 1) := by decide +kernel
theorem d_M_rank_191 : decode b_M_rank 191 = .ok (.iload 6, 2) := by decide +kernel
theorem d_M_rank_193 : decode b_M_rank 193 = .ok (.imul, 1) := by decide +kernel
theorem d_M_rank_194 : decode b_M_rank 194 = .ok (.iload 4, 2) := by decide +kernel
theorem d_M_rank_196 : decode b_M_rank 196 = .ok (.iadd, 1) := by decide +kernel
theorem d_M_rank_197 : decode b_M_rank 197 = .ok (.laload, 1) := by decide +kernel
theorem d_M_rank_198 : decode b_M_rank 198 = .ok (.lstore 7, 2) := by decide +kernel
theorem d_M_rank_200 : decode b_M_rank 200 = .ok (.iconst 0, 1) := by decide +kernel
theorem d_M_rank_201 : decode b_M_rank 201 = .ok (.istore 9, 2) := by decide +kernel
theorem d_M_rank_203 : decode b_M_rank 203 = .ok (.iload 9, 2) := by decide +kernel
theorem d_M_rank_205 : decode b_M_rank 205 = .ok (.iload_n 2, 1) := by decide +kernel
theorem d_M_rank_206 : decode b_M_rank 206 = .ok (.if_icmp .ge 60, 3) := by decide +kernel
theorem d_M_rank_209 : decode b_M_rank 209 = .ok (.aload_n 0, 1) := by decide +kernel
theorem d_M_rank_210 : decode b_M_rank 210 = .ok (.getfield 24, 3) := by decide +kernel
theorem d_M_rank_213 : decode b_M_rank 213 = .ok (.iconst 5, 1) := by decide +kernel
theorem d_M_rank_214 : decode b_M_rank 214 = .ok (.iload 6, 2) := by decide +kernel
theorem d_M_rank_216 : decode b_M_rank 216 = .ok (.imul, 1) := by decide +kernel
theorem d_M_rank_217 : decode b_M_rank 217 = .ok (.iload 9, 2) := by decide +kernel
theorem d_M_rank_219 : decode b_M_rank 219 = .ok (.iadd, 1) := by decide +kernel
theorem d_M_rank_220 : decode b_M_rank 220 = .ok (.aload_n 0, 1) := by decide +kernel
theorem d_M_rank_221 : decode b_M_rank 221 = .ok (.getfield 24, 3) := by decide +kernel
theorem d_M_rank_224 : decode b_M_rank 224 = .ok (.iconst 5, 1) := by decide +kernel
theorem d_M_rank_225 : decode b_M_rank 225 = .ok (.iload 6, 2) := by decide +kernel
theorem d_M_rank_227 : decode b_M_rank 227 = .ok (.imul, 1) := by decide +kernel
theorem d_M_rank_228 : decode b_M_rank 228 = .ok (.iload 9, 2) := by decide +kernel
theorem d_M_rank_230 : decode b_M_rank 230 = .ok (.iadd, 1) := by decide +kernel
theorem d_M_rank_231 : decode b_M_rank 231 = .ok (.laload, 1) := by decide +kernel
theorem d_M_rank_232 : decode b_M_rank 232 = .ok (.aload_n 0, 1) := by decide +kernel
theorem d_M_rank_233 : decode b_M_rank 233 = .ok (.getfield 24, 3) := by decide +kernel
theorem d_M_rank_236 : decode b_M_rank 236 = .ok (.iconst 5, 1) := by decide +kernel
theorem d_M_rank_237 : decode b_M_rank 237 = .ok (.iload_n 3, 1) := by decide +kernel
theorem d_M_rank_238 : decode b_M_rank 238 = .ok (.imul, 1) := by decide +kernel
theorem d_M_rank_239 : decode b_M_rank 239 = .ok (.iload 4, 2) := by decide +kernel
theorem d_M_rank_241 : decode b_M_rank 241 = .ok (.iadd, 1) := by decide +kernel
theorem d_M_rank_242 : decode b_M_rank 242 = .ok (.laload, 1) := by decide +kernel
theorem d_M_rank_243 : decode b_M_rank 243 = .ok (.lmul, 1) := by decide +kernel
theorem d_M_rank_244 : decode b_M_rank 244 = .ok (.lload 7, 2) := by decide +kernel
theorem d_M_rank_246 : decode b_M_rank 246 = .ok (.aload_n 0, 1) := by decide +kernel
theorem d_M_rank_247 : decode b_M_rank 247 = .ok (.getfield 24, 3) := by decide +kernel
theorem d_M_rank_250 : decode b_M_rank 250 = .ok (.iconst 5, 1) := by decide +kernel
theorem d_M_rank_251 : decode b_M_rank 251 = .ok (.iload_n 3, 1) := by decide +kernel
theorem d_M_rank_252 : decode b_M_rank 252 = .ok (.imul, 1) := by decide +kernel
theorem d_M_rank_253 : decode b_M_rank 253 = .ok (.iload 9, 2) := by decide +kernel
theorem d_M_rank_255 : decode b_M_rank 255 = .ok (.iadd, 1) := by decide +kernel
theorem d_M_rank_256 : decode b_M_rank 256 = .ok (.laload, 1) := by decide +kernel
theorem d_M_rank_257 : decode b_M_rank 257 = .ok (.lmul, 1) := by decide +kernel
theorem d_M_rank_258 : decode b_M_rank 258 = .ok (.lsub, 1) := by decide +kernel
theorem d_M_rank_259 : decode b_M_rank 259 = .ok (.lastore, 1) := by decide +kernel
theorem d_M_rank_260 : decode b_M_rank 260 = .ok (.iinc 9 1, 3) := by decide +kernel
theorem d_M_rank_263 : decode b_M_rank 263 = .ok (.goto (-60), 3) := by decide +kernel
theorem d_M_rank_266 : decode b_M_rank 266 = .ok (.iinc 6 1, 3) := by decide +kernel
theorem d_M_rank_269 : decode b_M_rank 269 = .ok (.goto (-92), 3) := by decide +kernel
theorem d_M_rank_272 : decode b_M_rank 272 = .ok (.iinc 3 1, 3) := by decide +kernel
theorem d_M_rank_275 : decode b_M_rank 275 = .ok (.iinc 4 1, 3) := by decide +kernel
theorem d_M_rank_278 : decode b_M_rank 278 = .ok (.goto (-174), 3) := by decide +kernel
theorem d_M_rank_281 : decode b_M_rank 281 = .ok (.iload_n 3, 1) := by decide +kernel
theorem d_M_rank_282 : decode b_M_rank 282 = .ok (.ireturn, 1) := by decide +kernel
theorem d_M_middle_0 : decode b_M_middle 0 = .ok (.aload_n 0, 1) := by decide +kernel
theorem d_M_middle_1 : decode b_M_middle 1 = .ok (.iconst 0, 1) := by decide +kernel
theorem d_M_middle_2 : decode b_M_middle 2 = .ok (.putfield 45, 3) := by decide +kernel
theorem d_M_middle_5 : decode b_M_middle 5 = .ok (.iload_n 1, 1) := by decide +kernel
theorem d_M_middle_6 : decode b_M_middle 6 = .ok (.i2l, 1) := by decide +kernel
theorem d_M_middle_7 : decode b_M_middle 7 = .ok (.iconst 1, 1) := by decide +kernel
theorem d_M_middle_8 : decode b_M_middle 8 = .ok (.aload_n 0, 1) := by decide +kernel
theorem d_M_middle_9 : decode b_M_middle 9 = .ok (.getfield 7, 3) := by decide +kernel
theorem d_M_middle_12 : decode b_M_middle 12 = .ok (.invokestatic 52, 3) := by decide +kernel
theorem d_M_middle_15 : decode b_M_middle 15 = .ok (.ifCond .eq 13, 3) := by decide +kernel
theorem d_M_middle_18 : decode b_M_middle 18 = .ok (.iload_n 2, 1) := by decide +kernel
theorem d_M_middle_19 : decode b_M_middle 19 = .ok (.i2l, 1) := by decide +kernel
theorem d_M_middle_20 : decode b_M_middle 20 = .ok (.iconst 0, 1) := by decide +kernel
theorem d_M_middle_21 : decode b_M_middle 21 = .ok (.iconst 1, 1) := by decide +kernel
theorem d_M_middle_22 : decode b_M_middle 22 = .ok (.invokestatic 52, 3) := by decide +kernel
theorem d_M_middle_25 : decode b_M_middle 25 = .ok (.ifCond .ne 7, 3) := by decide +kernel
theorem d_M_middle_28 : decode b_M_middle 28 = .ok (.ldc2_w 56, 3) := by decide +kernel
theorem d_M_middle_31 : decode b_M_middle 31 = .ok (.lreturn, 1) := by decide +kernel
theorem d_M_middle_32 : decode b_M_middle 32 = .ok (.aload_n 0, 1) := by decide +kernel
theorem d_M_middle_33 : decode b_M_middle 33 = .ok (.iconst 0, 1) := by decide +kernel
theorem d_M_middle_34 : decode b_M_middle 34 = .ok (.invokevirtual 97, 3) := by decide +kernel
theorem d_M_middle_37 : decode b_M_middle 37 = .ok (.aload_n 0, 1) := by decide +kernel
theorem d_M_middle_38 : decode b_M_middle 38 = .ok (.aload_n 0, 1) := by decide +kernel
theorem d_M_middle_39 : decode b_M_middle 39 = .ok (.getfield 7, 3) := by decide +kernel
theorem d_M_middle_42 : decode b_M_middle 42 = .ok (.invokevirtual 82, 3) := by decide +kernel
theorem d_M_middle_45 : decode b_M_middle 45 = .ok (.lstore_n 3, 1) := by decide +kernel
theorem d_M_middle_46 : decode b_M_middle 46 = .ok (.lload_n 3, 1) := by decide +kernel
theorem d_M_middle_47 : decode b_M_middle 47 = .ok (.lconst 0, 1) := by decide +kernel
theorem d_M_middle_48 : decode b_M_middle 48 = .ok (.lcmp, 1) := by decide +kernel
theorem d_M_middle_49 : decode b_M_middle 49 = .ok (.ifCond .ne 7, 3) := by decide +kernel
theorem d_M_middle_52 : decode b_M_middle 52 = .ok (.ldc2_w 56, 3) := by decide +kernel
theorem d_M_middle_55 : decode b_M_middle 55 = .ok (.lreturn, 1) := by decide +kernel
theorem d_M_middle_56 : decode b_M_middle 56 = .ok (.iconst 0, 1) := by decide +kernel
theorem d_M_middle_57 : decode b_M_middle 57 = .ok (.istore 5, 2) := by decide +kernel
theorem d_M_middle_59 : decode b_M_middle 59 = .ok (.iload 5, 2) := by decide +kernel
theorem d_M_middle_61 : decode b_M_middle 61 = .ok (.aload_n 0, 1) := by decide +kernel
theorem d_M_middle_62 : decode b_M_middle 62 = .ok (.getfield 7, 3) := by decide +kernel
theorem d_M_middle_65 : decode b_M_middle 65 = .ok (.if_icmp .ge 35, 3) := by decide +kernel
theorem d_M_middle_68 : decode b_M_middle 68 = .ok (.aload_n 0, 1) := by decide +kernel
theorem d_M_middle_69 : decode b_M_middle 69 = .ok (.getfield 20, 3) := by decide +kernel
theorem d_M_middle_72 : decode b_M_middle 72 = .ok (.iconst 4, 1) := by decide +kernel
theorem d_M_middle_73 : decode b_M_middle 73 = .ok (.iload 5, 2) := by decide +kernel
theorem d_M_middle_75 : decode b_M_middle 75 = .ok (.imul, 1) := by decide +kernel
theorem d_M_middle_76 : decode b_M_middle 76 = .ok (.iload_n 1, 1) := by decide +kernel
theorem d_M_middle_77 : decode b_M_middle 77 = .ok (.iadd, 1) := by decide +kernel
theorem d_M_middle_78 : decode b_M_middle 78 = .ok (.iconst 1, 1) := by decide +kernel
theorem d_M_middle_79 : decode b_M_middle 79 = .ok (.isub, 1) := by decide +kernel
theorem d_M_middle_80 : decode b_M_middle 80 = .ok (.aload_n 0, 1) := by decide +kernel
theorem d_M_middle_81 : decode b_M_middle 81 = .ok (.getfield 13, 3) := by decide +kernel
theorem d_M_middle_84 : decode b_M_middle 84 = .ok (.iconst 4, 1) := by decide +kernel
theorem d_M_middle_85 : decode b_M_middle 85 = .ok (.iload 5, 2) := by decide +kernel
theorem d_M_middle_87 : decode b_M_middle 87 = .ok (.iconst 1, 1) := by decide +kernel
theorem d_M_middle_88 : decode b_M_middle 88 = .ok (.iadd, 1) := by decide +kernel
theorem d_M_middle_89 : decode b_M_middle 89 = .ok (.imul, 1) := by decide +kernel
theorem d_M_middle_90 : decode b_M_middle 90 = .ok (.iaload, 1) := by decide +kernel
theorem d_M_middle_91 : decode b_M_middle 91 = .ok (.ineg, 1) := by decide +kernel
theorem d_M_middle_92 : decode b_M_middle 92 = .ok (.i2l, 1) := by decide +kernel
theorem d_M_middle_93 : decode b_M_middle 93 = .ok (.lastore, 1) := by decide +kernel
theorem d_M_middle_94 : decode b_M_middle 94 = .ok (.iinc 5 1, 3) := by decide +kernel
theorem d_M_middle_97 : decode b_M_middle 97 = .ok (.goto (-38), 3) := by decide +kernel
theorem d_M_middle_100 : decode b_M_middle 100 = .ok (.aload_n 0, 1) := by decide +kernel
theorem d_M_middle_101 : decode b_M_middle 101 = .ok (.aload_n 0, 1) := by decide +kernel
theorem d_M_middle_102 : decode b_M_middle 102 = .ok (.getfield 7, 3) := by decide +kernel
theorem d_M_middle_105 : decode b_M_middle 105 = .ok (.invokevirtual 82, 3) := by decide +kernel
theorem d_M_middle_108 : decode b_M_middle 108 = .ok (.lload_n 3, 1) := by decide +kernel
theorem d_M_middle_109 : decode b_M_middle 109 = .ok (.iload_n 2, 1) := by decide +kernel
theorem d_M_middle_110 : decode b_M_middle 110 = .ok (.invokestatic 122, 3) := by decide +kernel
theorem d_M_middle_113 : decode b_M_middle 113 = .ok (.lreturn, 1) := by decide +kernel
theorem d_M_part_0 : decode b_M_part 0 = .ok (.lload_n 2, 1) := by decide +kernel
theorem d_M_part_1 : decode b_M_part 1 = .ok (.lconst 0, 1) := by decide +kernel
theorem d_M_part_2 : decode b_M_part 2 = .ok (.lcmp, 1) := by decide +kernel
theorem d_M_part_3 : decode b_M_part 3 = .ok (.ifCond .ge 12, 3) := by decide +kernel
theorem d_M_part_6 : decode b_M_part 6 = .ok (.lload_n 0, 1) := by decide +kernel
theorem d_M_part_7 : decode b_M_part 7 = .ok (.lload_n 2, 1) := by decide +kernel
theorem d_M_part_8 : decode b_M_part 8 = .ok (.invokestatic 118, 3) := by decide +kernel
theorem d_M_part_11 : decode b_M_part 11 = .ok (.lneg, 1) := by decide +kernel
theorem d_M_part_12 : decode b_M_part 12 = .ok (.goto 8, 3) := by decide +kernel
theorem d_M_part_15 : decode b_M_part 15 = .ok (.lload_n 0, 1) := by decide +kernel
theorem d_M_part_16 : decode b_M_part 16 = .ok (.lload_n 2, 1) := by decide +kernel
theorem d_M_part_17 : decode b_M_part 17 = .ok (.invokestatic 118, 3) := by decide +kernel
theorem d_M_part_20 : decode b_M_part 20 = .ok (.lstore 5, 2) := by decide +kernel
theorem d_M_part_22 : decode b_M_part 22 = .ok (.iload 4, 2) := by decide +kernel
theorem d_M_part_24 : decode b_M_part 24 = .ok (.ifCond .ne 10, 3) := by decide +kernel
theorem d_M_part_27 : decode b_M_part 27 = .ok (.lload_n 0, 1) := by decide +kernel
theorem d_M_part_28 : decode b_M_part 28 = .ok (.lload 5, 2) := by decide +kernel
theorem d_M_part_30 : decode b_M_part 30 = .ok (.ldiv, 1) := by decide +kernel
theorem d_M_part_31 : decode b_M_part 31 = .ok (.goto 7, 3) := by decide +kernel
theorem d_M_part_34 : decode b_M_part 34 = .ok (.lload_n 2, 1) := by decide +kernel
theorem d_M_part_35 : decode b_M_part 35 = .ok (.lload 5, 2) := by decide +kernel
theorem d_M_part_37 : decode b_M_part 37 = .ok (.ldiv, 1) := by decide +kernel
theorem d_M_part_38 : decode b_M_part 38 = .ok (.lreturn, 1) := by decide +kernel
theorem d_M_divisor_0 : decode b_M_divisor 0 = .ok (.lload_n 0, 1) := by decide +kernel
theorem d_M_divisor_1 : decode b_M_divisor 1 = .ok (.lconst 0, 1) := by decide +kernel
theorem d_M_divisor_2 : decode b_M_divisor 2 = .ok (.lcmp, 1) := by decide +kernel
theorem d_M_divisor_3 : decode b_M_divisor 3 = .ok (.ifCond .ge 8, 3) := by decide +kernel
theorem d_M_divisor_6 : decode b_M_divisor 6 = .ok (.lload_n 0, 1) := by decide +kernel
theorem d_M_divisor_7 : decode b_M_divisor 7 = .ok (.lneg, 1) := by decide +kernel
theorem d_M_divisor_8 : decode b_M_divisor 8 = .ok (.goto 4, 3) := by decide +kernel
theorem d_M_divisor_11 : decode b_M_divisor 11 = .ok (.lload_n 0, 1) := by decide +kernel
theorem d_M_divisor_12 : decode b_M_divisor 12 = .ok (.lstore 4, 2) := by decide +kernel
theorem d_M_divisor_14 : decode b_M_divisor 14 = .ok (.lload_n 2, 1) := by decide +kernel
theorem d_M_divisor_15 : decode b_M_divisor 15 = .ok (.lconst 0, 1) := by decide +kernel
theorem d_M_divisor_16 : decode b_M_divisor 16 = .ok (.lcmp, 1) := by decide +kernel
theorem d_M_divisor_17 : decode b_M_divisor 17 = .ok (.ifCond .ge 8, 3) := by decide +kernel
theorem d_M_divisor_20 : decode b_M_divisor 20 = .ok (.lload_n 2, 1) := by decide +kernel
theorem d_M_divisor_21 : decode b_M_divisor 21 = .ok (.lneg, 1) := by decide +kernel
theorem d_M_divisor_22 : decode b_M_divisor 22 = .ok (.goto 4, 3) := by decide +kernel
theorem d_M_divisor_25 : decode b_M_divisor 25 = .ok (.lload_n 2, 1) := by decide +kernel
theorem d_M_divisor_26 : decode b_M_divisor 26 = .ok (.lstore 6, 2) := by decide +kernel
theorem d_M_divisor_28 : decode b_M_divisor 28 = .ok (.lload 6, 2) := by decide +kernel
theorem d_M_divisor_30 : decode b_M_divisor 30 = .ok (.lconst 0, 1) := by decide +kernel
theorem d_M_divisor_31 : decode b_M_divisor 31 = .ok (.lcmp, 1) := by decide +kernel
theorem d_M_divisor_32 : decode b_M_divisor 32 = .ok (.ifCond .eq 21, 3) := by decide +kernel
theorem d_M_divisor_35 : decode b_M_divisor 35 = .ok (.lload 4, 2) := by decide +kernel
theorem d_M_divisor_37 : decode b_M_divisor 37 = .ok (.lload 6, 2) := by decide +kernel
theorem d_M_divisor_39 : decode b_M_divisor 39 = .ok (.lrem, 1) := by decide +kernel
theorem d_M_divisor_40 : decode b_M_divisor 40 = .ok (.lstore 8, 2) := by decide +kernel
theorem d_M_divisor_42 : decode b_M_divisor 42 = .ok (.lload 6, 2) := by decide +kernel
theorem d_M_divisor_44 : decode b_M_divisor 44 = .ok (.lstore 4, 2) := by decide +kernel
theorem d_M_divisor_46 : decode b_M_divisor 46 = .ok (.lload 8, 2) := by decide +kernel
theorem d_M_divisor_48 : decode b_M_divisor 48 = .ok (.lstore 6, 2) := by decide +kernel
theorem d_M_divisor_50 : decode b_M_divisor 50 = .ok (.goto (-22), 3) := by decide +kernel
theorem d_M_divisor_53 : decode b_M_divisor 53 = .ok (.lload 4, 2) := by decide +kernel
theorem d_M_divisor_55 : decode b_M_divisor 55 = .ok (.lreturn, 1) := by decide +kernel
theorem d_M_height_0 : decode b_M_height 0 = .ok (.aload_n 0, 1) := by decide +kernel
theorem d_M_height_1 : decode b_M_height 1 = .ok (.iconst 0, 1) := by decide +kernel
theorem d_M_height_2 : decode b_M_height 2 = .ok (.putfield 45, 3) := by decide +kernel
theorem d_M_height_5 : decode b_M_height 5 = .ok (.iload_n 1, 1) := by decide +kernel
theorem d_M_height_6 : decode b_M_height 6 = .ok (.i2l, 1) := by decide +kernel
theorem d_M_height_7 : decode b_M_height 7 = .ok (.iconst 0, 1) := by decide +kernel
theorem d_M_height_8 : decode b_M_height 8 = .ok (.iconst 1, 1) := by decide +kernel
theorem d_M_height_9 : decode b_M_height 9 = .ok (.invokestatic 52, 3) := by decide +kernel
theorem d_M_height_12 : decode b_M_height 12 = .ok (.ifCond .ne 7, 3) := by decide +kernel
theorem d_M_height_15 : decode b_M_height 15 = .ok (.ldc2_w 56, 3) := by decide +kernel
theorem d_M_height_18 : decode b_M_height 18 = .ok (.lreturn, 1) := by decide +kernel
theorem d_M_height_19 : decode b_M_height 19 = .ok (.aload_n 0, 1) := by decide +kernel
theorem d_M_height_20 : decode b_M_height 20 = .ok (.iconst 0, 1) := by decide +kernel
theorem d_M_height_21 : decode b_M_height 21 = .ok (.invokevirtual 97, 3) := by decide +kernel
theorem d_M_height_24 : decode b_M_height 24 = .ok (.aload_n 0, 1) := by decide +kernel
theorem d_M_height_25 : decode b_M_height 25 = .ok (.aload_n 0, 1) := by decide +kernel
theorem d_M_height_26 : decode b_M_height 26 = .ok (.getfield 7, 3) := by decide +kernel
theorem d_M_height_29 : decode b_M_height 29 = .ok (.invokevirtual 82, 3) := by decide +kernel
theorem d_M_height_32 : decode b_M_height 32 = .ok (.lstore_n 2, 1) := by decide +kernel
theorem d_M_height_33 : decode b_M_height 33 = .ok (.lload_n 2, 1) := by decide +kernel
theorem d_M_height_34 : decode b_M_height 34 = .ok (.lconst 0, 1) := by decide +kernel
theorem d_M_height_35 : decode b_M_height 35 = .ok (.lcmp, 1) := by decide +kernel
theorem d_M_height_36 : decode b_M_height 36 = .ok (.ifCond .ne 10, 3) := by decide +kernel
theorem d_M_height_39 : decode b_M_height 39 = .ok (.aload_n 0, 1) := by decide +kernel
theorem d_M_height_40 : decode b_M_height 40 = .ok (.iconst 1, 1) := by decide +kernel
theorem d_M_height_41 : decode b_M_height 41 = .ok (.putfield 45, 3) := by decide +kernel
theorem d_M_height_44 : decode b_M_height 44 = .ok (.lconst 0, 1) := by decide +kernel
theorem d_M_height_45 : decode b_M_height 45 = .ok (.lreturn, 1) := by decide +kernel
theorem d_M_height_46 : decode b_M_height 46 = .ok (.aload_n 0, 1) := by decide +kernel
theorem d_M_height_47 : decode b_M_height 47 = .ok (.iconst 1, 1) := by decide +kernel
theorem d_M_height_48 : decode b_M_height 48 = .ok (.invokevirtual 97, 3) := by decide +kernel
theorem d_M_height_51 : decode b_M_height 51 = .ok (.aload_n 0, 1) := by decide +kernel
theorem d_M_height_52 : decode b_M_height 52 = .ok (.aload_n 0, 1) := by decide +kernel
theorem d_M_height_53 : decode b_M_height 53 = .ok (.getfield 7, 3) := by decide +kernel
theorem d_M_height_56 : decode b_M_height 56 = .ok (.iconst 1, 1) := by decide +kernel
theorem d_M_height_57 : decode b_M_height 57 = .ok (.iadd, 1) := by decide +kernel
theorem d_M_height_58 : decode b_M_height 58 = .ok (.invokevirtual 82, 3) := by decide +kernel
theorem d_M_height_61 : decode b_M_height 61 = .ok (.lload_n 2, 1) := by decide +kernel
theorem d_M_height_62 : decode b_M_height 62 = .ok (.iload_n 1, 1) := by decide +kernel
theorem d_M_height_63 : decode b_M_height 63 = .ok (.invokestatic 122, 3) := by decide +kernel
theorem d_M_height_66 : decode b_M_height 66 = .ok (.lreturn, 1) := by decide +kernel
theorem d_M_below_0 : decode b_M_below 0 = .ok (.aload_n 0, 1) := by decide +kernel
theorem d_M_below_1 : decode b_M_below 1 = .ok (.iconst 0, 1) := by decide +kernel
theorem d_M_below_2 : decode b_M_below 2 = .ok (.putfield 45, 3) := by decide +kernel
theorem d_M_below_5 : decode b_M_below 5 = .ok (.iload_n 1, 1) := by decide +kernel
theorem d_M_below_6 : decode b_M_below 6 = .ok (.i2l, 1) := by decide +kernel
theorem d_M_below_7 : decode b_M_below 7 = .ok (.sipush (-2000), 3) := by decide +kernel
theorem d_M_below_10 : decode b_M_below 10 = .ok (.sipush 2000, 3) := by decide +kernel
theorem d_M_below_13 : decode b_M_below 13 = .ok (.invokestatic 52, 3) := by decide +kernel
theorem d_M_below_16 : decode b_M_below 16 = .ok (.ifCond .eq 14, 3) := by decide +kernel
theorem d_M_below_19 : decode b_M_below 19 = .ok (.iload_n 2, 1) := by decide +kernel
theorem d_M_below_20 : decode b_M_below 20 = .ok (.i2l, 1) := by decide +kernel
theorem d_M_below_21 : decode b_M_below 21 = .ok (.iconst 1, 1) := by decide +kernel
theorem d_M_below_22 : decode b_M_below 22 = .ok (.bipush 100, 2) := by decide +kernel
theorem d_M_below_24 : decode b_M_below 24 = .ok (.invokestatic 52, 3) := by decide +kernel
theorem d_M_below_27 : decode b_M_below 27 = .ok (.ifCond .ne 6, 3) := by decide +kernel
theorem d_M_below_30 : decode b_M_below 30 = .ok (.bipush (-2), 2) := by decide +kernel
theorem d_M_below_32 : decode b_M_below 32 = .ok (.ireturn, 1) := by decide +kernel
theorem d_M_below_33 : decode b_M_below 33 = .ok (.aload_n 0, 1) := by decide +kernel
theorem d_M_below_34 : decode b_M_below 34 = .ok (.iconst 0, 1) := by decide +kernel
theorem d_M_below_35 : decode b_M_below 35 = .ok (.invokevirtual 97, 3) := by decide +kernel
theorem d_M_below_38 : decode b_M_below 38 = .ok (.iconst 0, 1) := by decide +kernel
theorem d_M_below_39 : decode b_M_below 39 = .ok (.istore_n 3, 1) := by decide +kernel
theorem d_M_below_40 : decode b_M_below 40 = .ok (.iload_n 3, 1) := by decide +kernel
theorem d_M_below_41 : decode b_M_below 41 = .ok (.aload_n 0, 1) := by decide +kernel
theorem d_M_below_42 : decode b_M_below 42 = .ok (.getfield 7, 3) := by decide +kernel
theorem d_M_below_45 : decode b_M_below 45 = .ok (.if_icmp .ge 65, 3) := by decide +kernel
theorem d_M_below_48 : decode b_M_below 48 = .ok (.iconst 0, 1) := by decide +kernel
theorem d_M_below_49 : decode b_M_below 49 = .ok (.istore 4, 2) := by decide +kernel
theorem d_M_below_51 : decode b_M_below 51 = .ok (.iload 4, 2) := by decide +kernel
theorem d_M_below_53 : decode b_M_below 53 = .ok (.aload_n 0, 1) := by decide +kernel
theorem d_M_below_54 : decode b_M_below 54 = .ok (.getfield 7, 3) := by decide +kernel
theorem d_M_below_57 : decode b_M_below 57 = .ok (.if_icmp .ge 47, 3) := by decide +kernel
theorem d_M_below_60 : decode b_M_below 60 = .ok (.aload_n 0, 1) := by decide +kernel
theorem d_M_below_61 : decode b_M_below 61 = .ok (.getfield 20, 3) := by decide +kernel
theorem d_M_below_64 : decode b_M_below 64 = .ok (.iconst 4, 1) := by decide +kernel
theorem d_M_below_65 : decode b_M_below 65 = .ok (.iload_n 3, 1) := by decide +kernel
theorem d_M_below_66 : decode b_M_below 66 = .ok (.imul, 1) := by decide +kernel
theorem d_M_below_67 : decode b_M_below 67 = .ok (.iload 4, 2) := by decide +kernel
theorem d_M_below_69 : decode b_M_below 69 = .ok (.iadd, 1) := by decide +kernel
theorem d_M_below_70 : decode b_M_below 70 = .ok (.iload_n 2, 1) := by decide +kernel
theorem d_M_below_71 : decode b_M_below 71 = .ok (.i2l, 1) := by decide +kernel
theorem d_M_below_72 : decode b_M_below 72 = .ok (.aload_n 0, 1) := by decide +kernel
theorem d_M_below_73 : decode b_M_below 73 = .ok (.getfield 20, 3) := by decide +kernel
theorem d_M_below_76 : decode b_M_below 76 = .ok (.iconst 4, 1) := by decide +kernel
theorem d_M_below_77 : decode b_M_below 77 = .ok (.iload_n 3, 1) := by decide +kernel
theorem d_M_below_78 : decode b_M_below 78 = .ok (.imul, 1) := by decide +kernel
theorem d_M_below_79 : decode b_M_below 79 = .ok (.iload 4, 2) := by decide +kernel
theorem d_M_below_81 : decode b_M_below 81 = .ok (.iadd, 1) := by decide +kernel
theorem d_M_below_82 : decode b_M_below 82 = .ok (.laload, 1) := by decide +kernel
theorem d_M_below_83 : decode b_M_below 83 = .ok (.lmul, 1) := by decide +kernel
theorem d_M_below_84 : decode b_M_below 84 = .ok (.iload_n 3, 1) := by decide +kernel
theorem d_M_below_85 : decode b_M_below 85 = .ok (.iload 4, 2) := by decide +kernel
theorem d_M_below_87 : decode b_M_below 87 = .ok (.if_icmp .ne 7, 3) := by decide +kernel
theorem d_M_below_90 : decode b_M_below 90 = .ok (.iload_n 1, 1) := by decide +kernel
theorem d_M_below_91 : decode b_M_below 91 = .ok (.goto 4, 3) := by decide +kernel
theorem d_M_below_94 : decode b_M_below 94 = .ok (.iconst 0, 1) := by decide +kernel
theorem d_M_below_95 : decode b_M_below 95 = .ok (.i2l, 1) := by decide +kernel
theorem d_M_below_96 : decode b_M_below 96 = .ok (.lsub, 1) := by decide +kernel
theorem d_M_below_97 : decode b_M_below 97 = .ok (.lastore, 1) := by decide +kernel
theorem d_M_below_98 : decode b_M_below 98 = .ok (.iinc 4 1, 3) := by decide +kernel
theorem d_M_below_101 : decode b_M_below 101 = .ok (.goto (-50), 3) := by decide +kernel
theorem d_M_below_104 : decode b_M_below 104 = .ok (.iinc 3 1, 3) := by decide +kernel
theorem d_M_below_107 : decode b_M_below 107 = .ok (.goto (-67), 3) := by decide +kernel
theorem d_M_below_110 : decode b_M_below 110 = .ok (.aload_n 0, 1) := by decide +kernel
theorem d_M_below_111 : decode b_M_below 111 = .ok (.invokevirtual 101, 3) := by decide +kernel
theorem d_M_below_114 : decode b_M_below 114 = .ok (.aload_n 0, 1) := by decide +kernel
theorem d_M_below_115 : decode b_M_below 115 = .ok (.getfield 79, 3) := by decide +kernel
theorem d_M_below_118 : decode b_M_below 118 = .ok (.ireturn, 1) := by decide +kernel
theorem d_M_unlike_0 : decode b_M_unlike 0 = .ok (.aload_n 0, 1) := by decide +kernel
theorem d_M_unlike_1 : decode b_M_unlike 1 = .ok (.iconst 0, 1) := by decide +kernel
theorem d_M_unlike_2 : decode b_M_unlike 2 = .ok (.putfield 45, 3) := by decide +kernel
theorem d_M_unlike_5 : decode b_M_unlike 5 = .ok (.iconst 1, 1) := by decide +kernel
theorem d_M_unlike_6 : decode b_M_unlike 6 = .ok (.istore_n 1, 1) := by decide +kernel
theorem d_M_unlike_7 : decode b_M_unlike 7 = .ok (.iconst 1, 1) := by decide +kernel
theorem d_M_unlike_8 : decode b_M_unlike 8 = .ok (.istore_n 2, 1) := by decide +kernel
theorem d_M_unlike_9 : decode b_M_unlike 9 = .ok (.iload_n 2, 1) := by decide +kernel
theorem d_M_unlike_10 : decode b_M_unlike 10 = .ok (.aload_n 0, 1) := by decide +kernel
theorem d_M_unlike_11 : decode b_M_unlike 11 = .ok (.getfield 7, 3) := by decide +kernel
theorem d_M_unlike_14 : decode b_M_unlike 14 = .ok (.if_icmp .gt 63, 3) := by decide +kernel
theorem d_M_unlike_17 : decode b_M_unlike 17 = .ok (.iconst 1, 1) := by decide +kernel
theorem d_M_unlike_18 : decode b_M_unlike 18 = .ok (.istore_n 3, 1) := by decide +kernel
theorem d_M_unlike_19 : decode b_M_unlike 19 = .ok (.iload_n 3, 1) := by decide +kernel
theorem d_M_unlike_20 : decode b_M_unlike 20 = .ok (.aload_n 0, 1) := by decide +kernel
theorem d_M_unlike_21 : decode b_M_unlike 21 = .ok (.getfield 7, 3) := by decide +kernel
theorem d_M_unlike_24 : decode b_M_unlike 24 = .ok (.if_icmp .gt 47, 3) := by decide +kernel
theorem d_M_unlike_27 : decode b_M_unlike 27 = .ok (.iload_n 1, 1) := by decide +kernel
theorem d_M_unlike_28 : decode b_M_unlike 28 = .ok (.ifCond .eq 35, 3) := by decide +kernel
theorem d_M_unlike_31 : decode b_M_unlike 31 = .ok (.aload_n 0, 1) := by decide +kernel
theorem d_M_unlike_32 : decode b_M_unlike 32 = .ok (.getfield 13, 3) := by decide +kernel
theorem d_M_unlike_35 : decode b_M_unlike 35 = .ok (.iconst 4, 1) := by decide +kernel
theorem d_M_unlike_36 : decode b_M_unlike 36 = .ok (.iload_n 2, 1) := by decide +kernel
theorem d_M_unlike_37 : decode b_M_unlike 37 = .ok (.imul, 1) := by decide +kernel
theorem d_M_unlike_38 : decode b_M_unlike 38 = .ok (.iload_n 3, 1) := by decide +kernel
theorem d_M_unlike_39 : decode b_M_unlike 39 = .ok (.iadd, 1) := by decide +kernel
theorem d_M_unlike_40 : decode b_M_unlike 40 = .ok (.iaload, 1) := by decide +kernel
theorem d_M_unlike_41 : decode b_M_unlike 41 = .ok (.iload_n 2, 1) := by decide +kernel
theorem d_M_unlike_42 : decode b_M_unlike 42 = .ok (.iload_n 3, 1) := by decide +kernel
theorem d_M_unlike_43 : decode b_M_unlike 43 = .ok (.if_icmp .ne 12, 3) := by decide +kernel
theorem d_M_unlike_46 : decode b_M_unlike 46 = .ok (.aload_n 0, 1) := by decide +kernel
theorem d_M_unlike_47 : decode b_M_unlike 47 = .ok (.getfield 13, 3) := by decide +kernel
theorem d_M_unlike_50 : decode b_M_unlike 50 = .ok (.iconst 5, 1) := by decide +kernel
theorem d_M_unlike_51 : decode b_M_unlike 51 = .ok (.iaload, 1) := by decide +kernel
theorem d_M_unlike_52 : decode b_M_unlike 52 = .ok (.goto 4, 3) := by decide +kernel
theorem d_M_unlike_55 : decode b_M_unlike 55 = .ok (.iconst 0, 1) := by decide +kernel
theorem d_M_unlike_56 : decode b_M_unlike 56 = .ok (.if_icmp .ne 7, 3) := by decide +kernel
theorem d_M_unlike_59 : decode b_M_unlike 59 = .ok (.iconst 1, 1) := by decide +kernel
theorem d_M_unlike_60 : decode b_M_unlike 60 = .ok (.goto 4, 3) := by decide +kernel
theorem d_M_unlike_63 : decode b_M_unlike 63 = .ok (.iconst 0, 1) := by decide +kernel
theorem d_M_unlike_64 : decode b_M_unlike 64 = .ok (.istore_n 1, 1) := by decide +kernel
theorem d_M_unlike_65 : decode b_M_unlike 65 = .ok (.iinc 3 1, 3) := by decide +kernel
theorem d_M_unlike_68 : decode b_M_unlike 68 = .ok (.goto (-49), 3) := by decide +kernel
theorem d_M_unlike_71 : decode b_M_unlike 71 = .ok (.iinc 2 1, 3) := by decide +kernel
theorem d_M_unlike_74 : decode b_M_unlike 74 = .ok (.goto (-65), 3) := by decide +kernel
theorem d_M_unlike_77 : decode b_M_unlike 77 = .ok (.iload_n 1, 1) := by decide +kernel
theorem d_M_unlike_78 : decode b_M_unlike 78 = .ok (.ifCond .ne 11, 3) := by decide +kernel
theorem d_M_unlike_81 : decode b_M_unlike 81 = .ok (.aload_n 0, 1) := by decide +kernel
theorem d_M_unlike_82 : decode b_M_unlike 82 = .ok (.getfield 7, 3) := by decide +kernel
theorem d_M_unlike_85 : decode b_M_unlike 85 = .ok (.iconst 2, 1) := by decide +kernel
theorem d_M_unlike_86 : decode b_M_unlike 86 = .ok (.if_icmp .ne 13, 3) := by decide +kernel
theorem d_M_unlike_89 : decode b_M_unlike 89 = .ok (.iload_n 1, 1) := by decide +kernel
theorem d_M_unlike_90 : decode b_M_unlike 90 = .ok (.ifCond .eq 7, 3) := by decide +kernel
theorem d_M_unlike_93 : decode b_M_unlike 93 = .ok (.iconst 1, 1) := by decide +kernel
theorem d_M_unlike_94 : decode b_M_unlike 94 = .ok (.goto 4, 3) := by decide +kernel
theorem d_M_unlike_97 : decode b_M_unlike 97 = .ok (.iconst 2, 1) := by decide +kernel
theorem d_M_unlike_98 : decode b_M_unlike 98 = .ok (.ireturn, 1) := by decide +kernel
theorem d_M_unlike_99 : decode b_M_unlike 99 = .ok (.aload_n 0, 1) := by decide +kernel
theorem d_M_unlike_100 : decode b_M_unlike 100 = .ok (.iconst 0, 1) := by decide +kernel
theorem d_M_unlike_101 : decode b_M_unlike 101 = .ok (.invokevirtual 97, 3) := by decide +kernel
theorem d_M_unlike_104 : decode b_M_unlike 104 = .ok (.aload_n 0, 1) := by decide +kernel
theorem d_M_unlike_105 : decode b_M_unlike 105 = .ok (.iconst 1, 1) := by decide +kernel
theorem d_M_unlike_106 : decode b_M_unlike 106 = .ok (.invokevirtual 82, 3) := by decide +kernel
theorem d_M_unlike_109 : decode b_M_unlike 109 = .ok (.lneg, 1) := by decide +kernel
theorem d_M_unlike_110 : decode b_M_unlike 110 = .ok (.lstore_n 2, 1) := by decide +kernel
theorem d_M_unlike_111 : decode b_M_unlike 111 = .ok (.aload_n 0, 1) := by decide +kernel
theorem d_M_unlike_112 : decode b_M_unlike 112 = .ok (.iconst 2, 1) := by decide +kernel
theorem d_M_unlike_113 : decode b_M_unlike 113 = .ok (.invokevirtual 82, 3) := by decide +kernel
theorem d_M_unlike_116 : decode b_M_unlike 116 = .ok (.lstore 4, 2) := by decide +kernel
theorem d_M_unlike_118 : decode b_M_unlike 118 = .ok (.aload_n 0, 1) := by decide +kernel
theorem d_M_unlike_119 : decode b_M_unlike 119 = .ok (.iconst 3, 1) := by decide +kernel
theorem d_M_unlike_120 : decode b_M_unlike 120 = .ok (.invokevirtual 82, 3) := by decide +kernel
theorem d_M_unlike_123 : decode b_M_unlike 123 = .ok (.lneg, 1) := by decide +kernel
theorem d_M_unlike_124 : decode b_M_unlike 124 = .ok (.lstore 6, 2) := by decide +kernel
theorem d_M_unlike_126 : decode b_M_unlike 126 = .ok (.ldc2_w 126, 3) := by decide +kernel
theorem d_M_unlike_129 : decode b_M_unlike 129 = .ok (.lload_n 2, 1) := by decide +kernel
theorem d_M_unlike_130 : decode b_M_unlike 130 = .ok (.lmul, 1) := by decide +kernel
theorem d_M_unlike_131 : decode b_M_unlike 131 = .ok (.lload 4, 2) := by decide +kernel
theorem d_M_unlike_133 : decode b_M_unlike 133 = .ok (.lmul, 1) := by decide +kernel
theorem d_M_unlike_134 : decode b_M_unlike 134 = .ok (.lload 6, 2) := by decide +kernel
theorem d_M_unlike_136 : decode b_M_unlike 136 = .ok (.lmul, 1) := by decide +kernel
theorem d_M_unlike_137 : decode b_M_unlike 137 = .ok (.ldc2_w 128, 3) := by decide +kernel
theorem d_M_unlike_140 : decode b_M_unlike 140 = .ok (.lload_n 2, 1) := by decide +kernel
theorem d_M_unlike_141 : decode b_M_unlike 141 = .ok (.lmul, 1) := by decide +kernel
theorem d_M_unlike_142 : decode b_M_unlike 142 = .ok (.lload_n 2, 1) := by decide +kernel
theorem d_M_unlike_143 : decode b_M_unlike 143 = .ok (.lmul, 1) := by decide +kernel
theorem d_M_unlike_144 : decode b_M_unlike 144 = .ok (.lload_n 2, 1) := by decide +kernel
theorem d_M_unlike_145 : decode b_M_unlike 145 = .ok (.lmul, 1) := by decide +kernel
theorem d_M_unlike_146 : decode b_M_unlike 146 = .ok (.lload 6, 2) := by decide +kernel
theorem d_M_unlike_148 : decode b_M_unlike 148 = .ok (.lmul, 1) := by decide +kernel
theorem d_M_unlike_149 : decode b_M_unlike 149 = .ok (.lsub, 1) := by decide +kernel
theorem d_M_unlike_150 : decode b_M_unlike 150 = .ok (.lload_n 2, 1) := by decide +kernel
theorem d_M_unlike_151 : decode b_M_unlike 151 = .ok (.lload_n 2, 1) := by decide +kernel
theorem d_M_unlike_152 : decode b_M_unlike 152 = .ok (.lmul, 1) := by decide +kernel
theorem d_M_unlike_153 : decode b_M_unlike 153 = .ok (.lload 4, 2) := by decide +kernel
theorem d_M_unlike_155 : decode b_M_unlike 155 = .ok (.lmul, 1) := by decide +kernel
theorem d_M_unlike_156 : decode b_M_unlike 156 = .ok (.lload 4, 2) := by decide +kernel
theorem d_M_unlike_158 : decode b_M_unlike 158 = .ok (.lmul, 1) := by decide +kernel
theorem d_M_unlike_159 : decode b_M_unlike 159 = .ok (.ladd, 1) := by decide +kernel
theorem d_M_unlike_160 : decode b_M_unlike 160 = .ok (.ldc2_w 128, 3) := by decide +kernel
theorem d_M_unlike_163 : decode b_M_unlike 163 = .ok (.lload 4, 2) := by decide +kernel
theorem d_M_unlike_165 : decode b_M_unlike 165 = .ok (.lmul, 1) := by decide +kernel
theorem d_M_unlike_166 : decode b_M_unlike 166 = .ok (.lload 4, 2) := by decide +kernel
theorem d_M_unlike_168 : decode b_M_unlike 168 = .ok (.lmul, 1) := by decide +kernel
theorem d_M_unlike_169 : decode b_M_unlike 169 = .ok (.lload 4, 2) := by decide +kernel
theorem d_M_unlike_171 : decode b_M_unlike 171 = .ok (.lmul, 1) := by decide +kernel
theorem d_M_unlike_172 : decode b_M_unlike 172 = .ok (.lsub, 1) := by decide +kernel
theorem d_M_unlike_173 : decode b_M_unlike 173 = .ok (.ldc2_w 130, 3) := by decide +kernel
theorem d_M_unlike_176 : decode b_M_unlike 176 = .ok (.lload 6, 2) := by decide +kernel
theorem d_M_unlike_178 : decode b_M_unlike 178 = .ok (.lmul, 1) := by decide +kernel
theorem d_M_unlike_179 : decode b_M_unlike 179 = .ok (.lload 6, 2) := by decide +kernel
theorem d_M_unlike_181 : decode b_M_unlike 181 = .ok (.lmul, 1) := by decide +kernel
theorem d_M_unlike_182 : decode b_M_unlike 182 = .ok (.lsub, 1) := by decide +kernel
theorem d_M_unlike_183 : decode b_M_unlike 183 = .ok (.lstore 8, 2) := by decide +kernel
theorem d_M_unlike_185 : decode b_M_unlike 185 = .ok (.lload 8, 2) := by decide +kernel
theorem d_M_unlike_187 : decode b_M_unlike 187 = .ok (.lconst 0, 1) := by decide +kernel
theorem d_M_unlike_188 : decode b_M_unlike 188 = .ok (.lcmp, 1) := by decide +kernel
theorem d_M_unlike_189 : decode b_M_unlike 189 = .ok (.ifCond .ne 7, 3) := by decide +kernel
theorem d_M_unlike_192 : decode b_M_unlike 192 = .ok (.iconst 2, 1) := by decide +kernel
theorem d_M_unlike_193 : decode b_M_unlike 193 = .ok (.goto 4, 3) := by decide +kernel
theorem d_M_unlike_196 : decode b_M_unlike 196 = .ok (.iconst 3, 1) := by decide +kernel
theorem d_M_unlike_197 : decode b_M_unlike 197 = .ok (.ireturn, 1) := by decide +kernel
theorem d_M_at_0 : decode b_M_at 0 = .ok (.aload_n 0, 1) := by decide +kernel
theorem d_M_at_1 : decode b_M_at 1 = .ok (.iconst 0, 1) := by decide +kernel
theorem d_M_at_2 : decode b_M_at 2 = .ok (.putfield 45, 3) := by decide +kernel
theorem d_M_at_5 : decode b_M_at 5 = .ok (.aload_n 0, 1) := by decide +kernel
theorem d_M_at_6 : decode b_M_at 6 = .ok (.iload_n 1, 1) := by decide +kernel
theorem d_M_at_7 : decode b_M_at 7 = .ok (.iload_n 2, 1) := by decide +kernel
theorem d_M_at_8 : decode b_M_at 8 = .ok (.iload_n 3, 1) := by decide +kernel
theorem d_M_at_9 : decode b_M_at 9 = .ok (.iload 4, 2) := by decide +kernel
theorem d_M_at_11 : decode b_M_at 11 = .ok (.invokevirtual 132, 3) := by decide +kernel
theorem d_M_at_14 : decode b_M_at 14 = .ok (.ifCond .ne 6, 3) := by decide +kernel
theorem d_M_at_17 : decode b_M_at 17 = .ok (.bipush (-2), 2) := by decide +kernel
theorem d_M_at_19 : decode b_M_at 19 = .ok (.ireturn, 1) := by decide +kernel
theorem d_M_at_20 : decode b_M_at 20 = .ok (.lconst 0, 1) := by decide +kernel
theorem d_M_at_21 : decode b_M_at 21 = .ok (.lstore 5, 2) := by decide +kernel
theorem d_M_at_23 : decode b_M_at 23 = .ok (.iconst 0, 1) := by decide +kernel
theorem d_M_at_24 : decode b_M_at 24 = .ok (.istore 7, 2) := by decide +kernel
theorem d_M_at_26 : decode b_M_at 26 = .ok (.iload 7, 2) := by decide +kernel
theorem d_M_at_28 : decode b_M_at 28 = .ok (.aload_n 0, 1) := by decide +kernel
theorem d_M_at_29 : decode b_M_at 29 = .ok (.getfield 7, 3) := by decide +kernel
theorem d_M_at_32 : decode b_M_at 32 = .ok (.if_icmp .gt 28, 3) := by decide +kernel
theorem d_M_at_35 : decode b_M_at 35 = .ok (.lload 5, 2) := by decide +kernel
theorem d_M_at_37 : decode b_M_at 37 = .ok (.aload_n 0, 1) := by decide +kernel
theorem d_M_at_38 : decode b_M_at 38 = .ok (.iload 7, 2) := by decide +kernel
theorem d_M_at_40 : decode b_M_at 40 = .ok (.invokevirtual 136, 3) := by decide +kernel
theorem d_M_at_43 : decode b_M_at 43 = .ok (.aload_n 0, 1) := by decide +kernel
theorem d_M_at_44 : decode b_M_at 44 = .ok (.getfield 33, 3) := by decide +kernel
theorem d_M_at_47 : decode b_M_at 47 = .ok (.iload 7, 2) := by decide +kernel
theorem d_M_at_49 : decode b_M_at 49 = .ok (.laload, 1) := by decide +kernel
theorem d_M_at_50 : decode b_M_at 50 = .ok (.lmul, 1) := by decide +kernel
theorem d_M_at_51 : decode b_M_at 51 = .ok (.ladd, 1) := by decide +kernel
theorem d_M_at_52 : decode b_M_at 52 = .ok (.lstore 5, 2) := by decide +kernel
theorem d_M_at_54 : decode b_M_at 54 = .ok (.iinc 7 1, 3) := by decide +kernel
theorem d_M_at_57 : decode b_M_at 57 = .ok (.goto (-31), 3) := by decide +kernel
theorem d_M_at_60 : decode b_M_at 60 = .ok (.lload 5, 2) := by decide +kernel
theorem d_M_at_62 : decode b_M_at 62 = .ok (.lconst 0, 1) := by decide +kernel
theorem d_M_at_63 : decode b_M_at 63 = .ok (.lcmp, 1) := by decide +kernel
theorem d_M_at_64 : decode b_M_at 64 = .ok (.ifCond .le 7, 3) := by decide +kernel
theorem d_M_at_67 : decode b_M_at 67 = .ok (.iconst 2, 1) := by decide +kernel
theorem d_M_at_68 : decode b_M_at 68 = .ok (.goto 15, 3) := by decide +kernel
theorem d_M_at_71 : decode b_M_at 71 = .ok (.lload 5, 2) := by decide +kernel
theorem d_M_at_73 : decode b_M_at 73 = .ok (.lconst 0, 1) := by decide +kernel
theorem d_M_at_74 : decode b_M_at 74 = .ok (.lcmp, 1) := by decide +kernel
theorem d_M_at_75 : decode b_M_at 75 = .ok (.ifCond .ne 7, 3) := by decide +kernel
theorem d_M_at_78 : decode b_M_at 78 = .ok (.iconst 1, 1) := by decide +kernel
theorem d_M_at_79 : decode b_M_at 79 = .ok (.goto 4, 3) := by decide +kernel
theorem d_M_at_82 : decode b_M_at 82 = .ok (.iconst 0, 1) := by decide +kernel
theorem d_M_at_83 : decode b_M_at 83 = .ok (.ireturn, 1) := by decide +kernel
theorem d_M_isPoint_0 : decode b_M_isPoint 0 = .ok (.iload 4, 2) := by decide +kernel
theorem d_M_isPoint_2 : decode b_M_isPoint 2 = .ok (.i2l, 1) := by decide +kernel
theorem d_M_isPoint_3 : decode b_M_isPoint 3 = .ok (.iconst 1, 1) := by decide +kernel
theorem d_M_isPoint_4 : decode b_M_isPoint 4 = .ok (.bipush 100, 2) := by decide +kernel
theorem d_M_isPoint_6 : decode b_M_isPoint 6 = .ok (.invokestatic 52, 3) := by decide +kernel
theorem d_M_isPoint_9 : decode b_M_isPoint 9 = .ok (.ifCond .eq 57, 3) := by decide +kernel
theorem d_M_isPoint_12 : decode b_M_isPoint 12 = .ok (.iload_n 1, 1) := by decide +kernel
theorem d_M_isPoint_13 : decode b_M_isPoint 13 = .ok (.i2l, 1) := by decide +kernel
theorem d_M_isPoint_14 : decode b_M_isPoint 14 = .ok (.sipush (-1000), 3) := by decide +kernel
theorem d_M_isPoint_17 : decode b_M_isPoint 17 = .ok (.sipush 1000, 3) := by decide +kernel
theorem d_M_isPoint_20 : decode b_M_isPoint 20 = .ok (.invokestatic 52, 3) := by decide +kernel
theorem d_M_isPoint_23 : decode b_M_isPoint 23 = .ok (.ifCond .eq 43, 3) := by decide +kernel
theorem d_M_isPoint_26 : decode b_M_isPoint 26 = .ok (.iload_n 2, 1) := by decide +kernel
theorem d_M_isPoint_27 : decode b_M_isPoint 27 = .ok (.i2l, 1) := by decide +kernel
theorem d_M_isPoint_28 : decode b_M_isPoint 28 = .ok (.sipush (-1000), 3) := by decide +kernel
theorem d_M_isPoint_31 : decode b_M_isPoint 31 = .ok (.sipush 1000, 3) := by decide +kernel
theorem d_M_isPoint_34 : decode b_M_isPoint 34 = .ok (.invokestatic 52, 3) := by decide +kernel
theorem d_M_isPoint_37 : decode b_M_isPoint 37 = .ok (.ifCond .eq 29, 3) := by decide +kernel
theorem d_M_isPoint_40 : decode b_M_isPoint 40 = .ok (.aload_n 0, 1) := by decide +kernel
theorem d_M_isPoint_41 : decode b_M_isPoint 41 = .ok (.getfield 7, 3) := by decide +kernel
theorem d_M_isPoint_44 : decode b_M_isPoint 44 = .ok (.iconst 2, 1) := by decide +kernel
theorem d_M_isPoint_45 : decode b_M_isPoint 45 = .ok (.if_icmp .eq 17, 3) := by decide +kernel
theorem d_M_isPoint_48 : decode b_M_isPoint 48 = .ok (.iload_n 3, 1) := by decide +kernel
theorem d_M_isPoint_49 : decode b_M_isPoint 49 = .ok (.i2l, 1) := by decide +kernel
theorem d_M_isPoint_50 : decode b_M_isPoint 50 = .ok (.sipush (-1000), 3) := by decide +kernel
theorem d_M_isPoint_53 : decode b_M_isPoint 53 = .ok (.sipush 1000, 3) := by decide +kernel
theorem d_M_isPoint_56 : decode b_M_isPoint 56 = .ok (.invokestatic 52, 3) := by decide +kernel
theorem d_M_isPoint_59 : decode b_M_isPoint 59 = .ok (.ifCond .eq 7, 3) := by decide +kernel
theorem d_M_isPoint_62 : decode b_M_isPoint 62 = .ok (.iconst 1, 1) := by decide +kernel
theorem d_M_isPoint_63 : decode b_M_isPoint 63 = .ok (.goto 4, 3) := by decide +kernel
theorem d_M_isPoint_66 : decode b_M_isPoint 66 = .ok (.iconst 0, 1) := by decide +kernel
theorem d_M_isPoint_67 : decode b_M_isPoint 67 = .ok (.istore 5, 2) := by decide +kernel
theorem d_M_isPoint_69 : decode b_M_isPoint 69 = .ok (.aload_n 0, 1) := by decide +kernel
theorem d_M_isPoint_70 : decode b_M_isPoint 70 = .ok (.getfield 33, 3) := by decide +kernel
theorem d_M_isPoint_73 : decode b_M_isPoint 73 = .ok (.iconst 0, 1) := by decide +kernel
theorem d_M_isPoint_74 : decode b_M_isPoint 74 = .ok (.iload 4, 2) := by decide +kernel
theorem d_M_isPoint_76 : decode b_M_isPoint 76 = .ok (.i2l, 1) := by decide +kernel
theorem d_M_isPoint_77 : decode b_M_isPoint 77 = .ok (.lastore, 1) := by decide +kernel
theorem d_M_isPoint_78 : decode b_M_isPoint 78 = .ok (.aload_n 0, 1) := by decide +kernel
theorem d_M_isPoint_79 : decode b_M_isPoint 79 = .ok (.getfield 33, 3) := by decide +kernel
theorem d_M_isPoint_82 : decode b_M_isPoint 82 = .ok (.iconst 1, 1) := by decide +kernel
theorem d_M_isPoint_83 : decode b_M_isPoint 83 = .ok (.iload_n 1, 1) := by decide +kernel
theorem d_M_isPoint_84 : decode b_M_isPoint 84 = .ok (.i2l, 1) := by decide +kernel
theorem d_M_isPoint_85 : decode b_M_isPoint 85 = .ok (.lastore, 1) := by decide +kernel
theorem d_M_isPoint_86 : decode b_M_isPoint 86 = .ok (.aload_n 0, 1) := by decide +kernel
theorem d_M_isPoint_87 : decode b_M_isPoint 87 = .ok (.getfield 33, 3) := by decide +kernel
theorem d_M_isPoint_90 : decode b_M_isPoint 90 = .ok (.iconst 2, 1) := by decide +kernel
theorem d_M_isPoint_91 : decode b_M_isPoint 91 = .ok (.iload_n 2, 1) := by decide +kernel
theorem d_M_isPoint_92 : decode b_M_isPoint 92 = .ok (.i2l, 1) := by decide +kernel
theorem d_M_isPoint_93 : decode b_M_isPoint 93 = .ok (.lastore, 1) := by decide +kernel
theorem d_M_isPoint_94 : decode b_M_isPoint 94 = .ok (.aload_n 0, 1) := by decide +kernel
theorem d_M_isPoint_95 : decode b_M_isPoint 95 = .ok (.getfield 33, 3) := by decide +kernel
theorem d_M_isPoint_98 : decode b_M_isPoint 98 = .ok (.iconst 3, 1) := by decide +kernel
theorem d_M_isPoint_99 : decode b_M_isPoint 99 = .ok (.aload_n 0, 1) := by decide +kernel
theorem d_M_isPoint_100 : decode b_M_isPoint 100 = .ok (.getfield 7, 3) := by decide +kernel
theorem d_M_isPoint_103 : decode b_M_isPoint 103 = .ok (.iconst 2, 1) := by decide +kernel
theorem d_M_isPoint_104 : decode b_M_isPoint 104 = .ok (.if_icmp .ne 7, 3) := by decide +kernel
theorem d_M_isPoint_107 : decode b_M_isPoint 107 = .ok (.lconst 0, 1) := by decide +kernel
theorem d_M_isPoint_108 : decode b_M_isPoint 108 = .ok (.goto 5, 3) := by decide +kernel
theorem d_M_isPoint_111 : decode b_M_isPoint 111 = .ok (.iload_n 3, 1) := by decide +kernel
theorem d_M_isPoint_112 : decode b_M_isPoint 112 = .ok (.i2l, 1) := by decide +kernel
theorem d_M_isPoint_113 : decode b_M_isPoint 113 = .ok (.lastore, 1) := by decide +kernel
theorem d_M_isPoint_114 : decode b_M_isPoint 114 = .ok (.iload 5, 2) := by decide +kernel
theorem d_M_isPoint_116 : decode b_M_isPoint 116 = .ok (.ireturn, 1) := by decide +kernel
theorem d_M_polarAt_0 : decode b_M_polarAt 0 = .ok (.lconst 0, 1) := by decide +kernel
theorem d_M_polarAt_1 : decode b_M_polarAt 1 = .ok (.lstore_n 2, 1) := by decide +kernel
theorem d_M_polarAt_2 : decode b_M_polarAt 2 = .ok (.iconst 0, 1) := by decide +kernel
theorem d_M_polarAt_3 : decode b_M_polarAt 3 = .ok (.istore 4, 2) := by decide +kernel
theorem d_M_polarAt_5 : decode b_M_polarAt 5 = .ok (.iload 4, 2) := by decide +kernel
theorem d_M_polarAt_7 : decode b_M_polarAt 7 = .ok (.aload_n 0, 1) := by decide +kernel
theorem d_M_polarAt_8 : decode b_M_polarAt 8 = .ok (.getfield 7, 3) := by decide +kernel
theorem d_M_polarAt_11 : decode b_M_polarAt 11 = .ok (.if_icmp .gt 32, 3) := by decide +kernel
theorem d_M_polarAt_14 : decode b_M_polarAt 14 = .ok (.lload_n 2, 1) := by decide +kernel
theorem d_M_polarAt_15 : decode b_M_polarAt 15 = .ok (.aload_n 0, 1) := by decide +kernel
theorem d_M_polarAt_16 : decode b_M_polarAt 16 = .ok (.getfield 13, 3) := by decide +kernel
theorem d_M_polarAt_19 : decode b_M_polarAt 19 = .ok (.iconst 4, 1) := by decide +kernel
theorem d_M_polarAt_20 : decode b_M_polarAt 20 = .ok (.iload_n 1, 1) := by decide +kernel
theorem d_M_polarAt_21 : decode b_M_polarAt 21 = .ok (.imul, 1) := by decide +kernel
theorem d_M_polarAt_22 : decode b_M_polarAt 22 = .ok (.iload 4, 2) := by decide +kernel
theorem d_M_polarAt_24 : decode b_M_polarAt 24 = .ok (.iadd, 1) := by decide +kernel
theorem d_M_polarAt_25 : decode b_M_polarAt 25 = .ok (.iaload, 1) := by decide +kernel
theorem d_M_polarAt_26 : decode b_M_polarAt 26 = .ok (.i2l, 1) := by decide +kernel
theorem d_M_polarAt_27 : decode b_M_polarAt 27 = .ok (.aload_n 0, 1) := by decide +kernel
theorem d_M_polarAt_28 : decode b_M_polarAt 28 = .ok (.getfield 33, 3) := by decide +kernel
theorem d_M_polarAt_31 : decode b_M_polarAt 31 = .ok (.iload 4, 2) := by decide +kernel
theorem d_M_polarAt_33 : decode b_M_polarAt 33 = .ok (.laload, 1) := by decide +kernel
theorem d_M_polarAt_34 : decode b_M_polarAt 34 = .ok (.lmul, 1) := by decide +kernel
theorem d_M_polarAt_35 : decode b_M_polarAt 35 = .ok (.ladd, 1) := by decide +kernel
theorem d_M_polarAt_36 : decode b_M_polarAt 36 = .ok (.lstore_n 2, 1) := by decide +kernel
theorem d_M_polarAt_37 : decode b_M_polarAt 37 = .ok (.iinc 4 1, 3) := by decide +kernel
theorem d_M_polarAt_40 : decode b_M_polarAt 40 = .ok (.goto (-35), 3) := by decide +kernel
theorem d_M_polarAt_43 : decode b_M_polarAt 43 = .ok (.lload_n 2, 1) := by decide +kernel
theorem d_M_polarAt_44 : decode b_M_polarAt 44 = .ok (.lreturn, 1) := by decide +kernel
theorem d_M_polar_0 : decode b_M_polar 0 = .ok (.aload_n 0, 1) := by decide +kernel
theorem d_M_polar_1 : decode b_M_polar 1 = .ok (.iconst 0, 1) := by decide +kernel
theorem d_M_polar_2 : decode b_M_polar 2 = .ok (.putfield 45, 3) := by decide +kernel
theorem d_M_polar_5 : decode b_M_polar 5 = .ok (.iload 5, 2) := by decide +kernel
theorem d_M_polar_7 : decode b_M_polar 7 = .ok (.i2l, 1) := by decide +kernel
theorem d_M_polar_8 : decode b_M_polar 8 = .ok (.iconst 0, 1) := by decide +kernel
theorem d_M_polar_9 : decode b_M_polar 9 = .ok (.aload_n 0, 1) := by decide +kernel
theorem d_M_polar_10 : decode b_M_polar 10 = .ok (.getfield 7, 3) := by decide +kernel
theorem d_M_polar_13 : decode b_M_polar 13 = .ok (.invokestatic 52, 3) := by decide +kernel
theorem d_M_polar_16 : decode b_M_polar 16 = .ok (.ifCond .eq 15, 3) := by decide +kernel
theorem d_M_polar_19 : decode b_M_polar 19 = .ok (.aload_n 0, 1) := by decide +kernel
theorem d_M_polar_20 : decode b_M_polar 20 = .ok (.iload_n 1, 1) := by decide +kernel
theorem d_M_polar_21 : decode b_M_polar 21 = .ok (.iload_n 2, 1) := by decide +kernel
theorem d_M_polar_22 : decode b_M_polar 22 = .ok (.iload_n 3, 1) := by decide +kernel
theorem d_M_polar_23 : decode b_M_polar 23 = .ok (.iload 4, 2) := by decide +kernel
theorem d_M_polar_25 : decode b_M_polar 25 = .ok (.invokevirtual 132, 3) := by decide +kernel
theorem d_M_polar_28 : decode b_M_polar 28 = .ok (.ifCond .ne 7, 3) := by decide +kernel
theorem d_M_polar_31 : decode b_M_polar 31 = .ok (.ldc2_w 56, 3) := by decide +kernel
theorem d_M_polar_34 : decode b_M_polar 34 = .ok (.lreturn, 1) := by decide +kernel
theorem d_M_polar_35 : decode b_M_polar 35 = .ok (.iconst 0, 1) := by decide +kernel
theorem d_M_polar_36 : decode b_M_polar 36 = .ok (.istore 6, 2) := by decide +kernel
theorem d_M_polar_38 : decode b_M_polar 38 = .ok (.iload 6, 2) := by decide +kernel
theorem d_M_polar_40 : decode b_M_polar 40 = .ok (.aload_n 0, 1) := by decide +kernel
theorem d_M_polar_41 : decode b_M_polar 41 = .ok (.getfield 7, 3) := by decide +kernel
theorem d_M_polar_44 : decode b_M_polar 44 = .ok (.if_icmp .gt 22, 3) := by decide +kernel
theorem d_M_polar_47 : decode b_M_polar 47 = .ok (.aload_n 0, 1) := by decide +kernel
theorem d_M_polar_48 : decode b_M_polar 48 = .ok (.getfield 36, 3) := by decide +kernel
theorem d_M_polar_51 : decode b_M_polar 51 = .ok (.iload 6, 2) := by decide +kernel
theorem d_M_polar_53 : decode b_M_polar 53 = .ok (.aload_n 0, 1) := by decide +kernel
theorem d_M_polar_54 : decode b_M_polar 54 = .ok (.iload 6, 2) := by decide +kernel
theorem d_M_polar_56 : decode b_M_polar 56 = .ok (.invokevirtual 136, 3) := by decide +kernel
theorem d_M_polar_59 : decode b_M_polar 59 = .ok (.lastore, 1) := by decide +kernel
theorem d_M_polar_60 : decode b_M_polar 60 = .ok (.iinc 6 1, 3) := by decide +kernel
theorem d_M_polar_63 : decode b_M_polar 63 = .ok (.goto (-25), 3) := by decide +kernel
theorem d_M_polar_66 : decode b_M_polar 66 = .ok (.aload_n 0, 1) := by decide +kernel
theorem d_M_polar_67 : decode b_M_polar 67 = .ok (.aload_n 0, 1) := by decide +kernel
theorem d_M_polar_68 : decode b_M_polar 68 = .ok (.getfield 7, 3) := by decide +kernel
theorem d_M_polar_71 : decode b_M_polar 71 = .ok (.iconst 1, 1) := by decide +kernel
theorem d_M_polar_72 : decode b_M_polar 72 = .ok (.iadd, 1) := by decide +kernel
theorem d_M_polar_73 : decode b_M_polar 73 = .ok (.iload 5, 2) := by decide +kernel
theorem d_M_polar_75 : decode b_M_polar 75 = .ok (.invokevirtual 141, 3) := by decide +kernel
theorem d_M_polar_78 : decode b_M_polar 78 = .ok (.lreturn, 1) := by decide +kernel
theorem d_M_without_0 : decode b_M_without 0 = .ok (.lconst 0, 1) := by decide +kernel
theorem d_M_without_1 : decode b_M_without 1 = .ok (.lstore_n 3, 1) := by decide +kernel
theorem d_M_without_2 : decode b_M_without 2 = .ok (.lconst 0, 1) := by decide +kernel
theorem d_M_without_3 : decode b_M_without 3 = .ok (.lstore 5, 2) := by decide +kernel
theorem d_M_without_5 : decode b_M_without 5 = .ok (.iconst 0, 1) := by decide +kernel
theorem d_M_without_6 : decode b_M_without 6 = .ok (.istore 7, 2) := by decide +kernel
theorem d_M_without_8 : decode b_M_without 8 = .ok (.iload 7, 2) := by decide +kernel
theorem d_M_without_10 : decode b_M_without 10 = .ok (.iload_n 1, 1) := by decide +kernel
theorem d_M_without_11 : decode b_M_without 11 = .ok (.if_icmp .ge 70, 3) := by decide +kernel
theorem d_M_without_14 : decode b_M_without 14 = .ok (.lload_n 3, 1) := by decide +kernel
theorem d_M_without_15 : decode b_M_without 15 = .ok (.aload_n 0, 1) := by decide +kernel
theorem d_M_without_16 : decode b_M_without 16 = .ok (.getfield 36, 3) := by decide +kernel
theorem d_M_without_19 : decode b_M_without 19 = .ok (.iload 7, 2) := by decide +kernel
theorem d_M_without_21 : decode b_M_without 21 = .ok (.laload, 1) := by decide +kernel
theorem d_M_without_22 : decode b_M_without 22 = .ok (.invokestatic 118, 3) := by decide +kernel
theorem d_M_without_25 : decode b_M_without 25 = .ok (.lstore_n 3, 1) := by decide +kernel
theorem d_M_without_26 : decode b_M_without 26 = .ok (.lload 5, 2) := by decide +kernel
theorem d_M_without_28 : decode b_M_without 28 = .ok (.lconst 0, 1) := by decide +kernel
theorem d_M_without_29 : decode b_M_without 29 = .ok (.lcmp, 1) := by decide +kernel
theorem d_M_without_30 : decode b_M_without 30 = .ok (.ifCond .ne 41, 3) := by decide +kernel
theorem d_M_without_33 : decode b_M_without 33 = .ok (.aload_n 0, 1) := by decide +kernel
theorem d_M_without_34 : decode b_M_without 34 = .ok (.getfield 36, 3) := by decide +kernel
theorem d_M_without_37 : decode b_M_without 37 = .ok (.iload 7, 2) := by decide +kernel
theorem d_M_without_39 : decode b_M_without 39 = .ok (.laload, 1) := by decide +kernel
theorem d_M_without_40 : decode b_M_without 40 = .ok (.lconst 0, 1) := by decide +kernel
theorem d_M_without_41 : decode b_M_without 41 = .ok (.lcmp, 1) := by decide +kernel
theorem d_M_without_42 : decode b_M_without 42 = .ok (.ifCond .le 7, 3) := by decide +kernel
theorem d_M_without_45 : decode b_M_without 45 = .ok (.lconst 1, 1) := by decide +kernel
theorem d_M_without_46 : decode b_M_without 46 = .ok (.goto 27, 3) := by decide +kernel
theorem d_M_without_49 : decode b_M_without 49 = .ok (.aload_n 0, 1) := by decide +kernel
theorem d_M_without_50 : decode b_M_without 50 = .ok (.getfield 36, 3) := by decide +kernel
theorem d_M_without_53 : decode b_M_without 53 = .ok (.iload 7, 2) := by decide +kernel
theorem d_M_without_55 : decode b_M_without 55 = .ok (.laload, 1) := by decide +kernel
theorem d_M_without_56 : decode b_M_without 56 = .ok (.lconst 0, 1) := by decide +kernel
theorem d_M_without_57 : decode b_M_without 57 = .ok (.lcmp, 1) := by decide +kernel
theorem d_M_without_58 : decode b_M_without 58 = .ok (.ifCond .ge 9, 3) := by decide +kernel
theorem d_M_without_61 : decode b_M_without 61 = .ok (.ldc2_w 139, 3) := by decide +kernel
theorem d_M_without_64 : decode b_M_without 64 = .ok (.goto 9, 3) := by decide +kernel
theorem d_M_without_67 : decode b_M_without 67 = .ok (.lconst 0, 1) := by decide +kernel
theorem d_M_without_68 : decode b_M_without 68 = .ok (.goto 5, 3) := by decide +kernel
theorem d_M_without_71 : decode b_M_without 71 = .ok (.lload 5, 2) := by decide +kernel
theorem d_M_without_73 : decode b_M_without 73 = .ok (.lstore 5, 2) := by decide +kernel
theorem d_M_without_75 : decode b_M_without 75 = .ok (.iinc 7 1, 3) := by decide +kernel
theorem d_M_without_78 : decode b_M_without 78 = .ok (.goto (-70), 3) := by decide +kernel
theorem d_M_without_81 : decode b_M_without 81 = .ok (.lload_n 3, 1) := by decide +kernel
theorem d_M_without_82 : decode b_M_without 82 = .ok (.lconst 0, 1) := by decide +kernel
theorem d_M_without_83 : decode b_M_without 83 = .ok (.lcmp, 1) := by decide +kernel
theorem d_M_without_84 : decode b_M_without 84 = .ok (.ifCond .ne 9, 3) := by decide +kernel
theorem d_M_without_87 : decode b_M_without 87 = .ok (.ldc2_w 56, 3) := by decide +kernel
theorem d_M_without_90 : decode b_M_without 90 = .ok (.goto 14, 3) := by decide +kernel
theorem d_M_without_93 : decode b_M_without 93 = .ok (.lload 5, 2) := by decide +kernel
theorem d_M_without_95 : decode b_M_without 95 = .ok (.aload_n 0, 1) := by decide +kernel
theorem d_M_without_96 : decode b_M_without 96 = .ok (.getfield 36, 3) := by decide +kernel
theorem d_M_without_99 : decode b_M_without 99 = .ok (.iload_n 2, 1) := by decide +kernel
theorem d_M_without_100 : decode b_M_without 100 = .ok (.laload, 1) := by decide +kernel
theorem d_M_without_101 : decode b_M_without 101 = .ok (.lmul, 1) := by decide +kernel
theorem d_M_without_102 : decode b_M_without 102 = .ok (.lload_n 3, 1) := by decide +kernel
theorem d_M_without_103 : decode b_M_without 103 = .ok (.ldiv, 1) := by decide +kernel
theorem d_M_without_104 : decode b_M_without 104 = .ok (.lreturn, 1) := by decide +kernel
theorem d_M_touches_0 : decode b_M_touches 0 = .ok (.aload_n 0, 1) := by decide +kernel
theorem d_M_touches_1 : decode b_M_touches 1 = .ok (.iconst 0, 1) := by decide +kernel
theorem d_M_touches_2 : decode b_M_touches 2 = .ok (.putfield 45, 3) := by decide +kernel
theorem d_M_touches_5 : decode b_M_touches 5 = .ok (.iload_n 1, 1) := by decide +kernel
theorem d_M_touches_6 : decode b_M_touches 6 = .ok (.i2l, 1) := by decide +kernel
theorem d_M_touches_7 : decode b_M_touches 7 = .ok (.bipush (-20), 2) := by decide +kernel
theorem d_M_touches_9 : decode b_M_touches 9 = .ok (.bipush 20, 2) := by decide +kernel
theorem d_M_touches_11 : decode b_M_touches 11 = .ok (.invokestatic 52, 3) := by decide +kernel
theorem d_M_touches_14 : decode b_M_touches 14 = .ok (.ifCond .eq 69, 3) := by decide +kernel
theorem d_M_touches_17 : decode b_M_touches 17 = .ok (.iload_n 2, 1) := by decide +kernel
theorem d_M_touches_18 : decode b_M_touches 18 = .ok (.i2l, 1) := by decide +kernel
theorem d_M_touches_19 : decode b_M_touches 19 = .ok (.bipush (-20), 2) := by decide +kernel
theorem d_M_touches_21 : decode b_M_touches 21 = .ok (.bipush 20, 2) := by decide +kernel
theorem d_M_touches_23 : decode b_M_touches 23 = .ok (.invokestatic 52, 3) := by decide +kernel
theorem d_M_touches_26 : decode b_M_touches 26 = .ok (.ifCond .eq 57, 3) := by decide +kernel
theorem d_M_touches_29 : decode b_M_touches 29 = .ok (.iload_n 3, 1) := by decide +kernel
theorem d_M_touches_30 : decode b_M_touches 30 = .ok (.i2l, 1) := by decide +kernel
theorem d_M_touches_31 : decode b_M_touches 31 = .ok (.bipush (-20), 2) := by decide +kernel
theorem d_M_touches_33 : decode b_M_touches 33 = .ok (.bipush 20, 2) := by decide +kernel
theorem d_M_touches_35 : decode b_M_touches 35 = .ok (.invokestatic 52, 3) := by decide +kernel
theorem d_M_touches_38 : decode b_M_touches 38 = .ok (.ifCond .eq 45, 3) := by decide +kernel
theorem d_M_touches_41 : decode b_M_touches 41 = .ok (.aload_n 0, 1) := by decide +kernel
theorem d_M_touches_42 : decode b_M_touches 42 = .ok (.getfield 7, 3) := by decide +kernel
theorem d_M_touches_45 : decode b_M_touches 45 = .ok (.iconst 3, 1) := by decide +kernel
theorem d_M_touches_46 : decode b_M_touches 46 = .ok (.if_icmp .ne 16, 3) := by decide +kernel
theorem d_M_touches_49 : decode b_M_touches 49 = .ok (.iload 4, 2) := by decide +kernel
theorem d_M_touches_51 : decode b_M_touches 51 = .ok (.i2l, 1) := by decide +kernel
theorem d_M_touches_52 : decode b_M_touches 52 = .ok (.bipush (-20), 2) := by decide +kernel
theorem d_M_touches_54 : decode b_M_touches 54 = .ok (.bipush 20, 2) := by decide +kernel
theorem d_M_touches_56 : decode b_M_touches 56 = .ok (.invokestatic 52, 3) := by decide +kernel
theorem d_M_touches_59 : decode b_M_touches 59 = .ok (.ifCond .eq 24, 3) := by decide +kernel
theorem d_M_touches_62 : decode b_M_touches 62 = .ok (.iload_n 2, 1) := by decide +kernel
theorem d_M_touches_63 : decode b_M_touches 63 = .ok (.ifCond .ne 23, 3) := by decide +kernel
theorem d_M_touches_66 : decode b_M_touches 66 = .ok (.iload_n 3, 1) := by decide +kernel
theorem d_M_touches_67 : decode b_M_touches 67 = .ok (.ifCond .ne 19, 3) := by decide +kernel
theorem d_M_touches_70 : decode b_M_touches 70 = .ok (.aload_n 0, 1) := by decide +kernel
theorem d_M_touches_71 : decode b_M_touches 71 = .ok (.getfield 7, 3) := by decide +kernel
theorem d_M_touches_74 : decode b_M_touches 74 = .ok (.iconst 2, 1) := by decide +kernel
theorem d_M_touches_75 : decode b_M_touches 75 = .ok (.if_icmp .eq 8, 3) := by decide +kernel
theorem d_M_touches_78 : decode b_M_touches 78 = .ok (.iload 4, 2) := by decide +kernel
theorem d_M_touches_80 : decode b_M_touches 80 = .ok (.ifCond .ne 6, 3) := by decide +kernel
theorem d_M_touches_83 : decode b_M_touches 83 = .ok (.bipush (-2), 2) := by decide +kernel
theorem d_M_touches_85 : decode b_M_touches 85 = .ok (.ireturn, 1) := by decide +kernel
theorem d_M_touches_86 : decode b_M_touches 86 = .ok (.aload_n 0, 1) := by decide +kernel
theorem d_M_touches_87 : decode b_M_touches 87 = .ok (.iconst 1, 1) := by decide +kernel
theorem d_M_touches_88 : decode b_M_touches 88 = .ok (.invokevirtual 97, 3) := by decide +kernel
theorem d_M_touches_91 : decode b_M_touches 91 = .ok (.aload_n 0, 1) := by decide +kernel
theorem d_M_touches_92 : decode b_M_touches 92 = .ok (.aload_n 0, 1) := by decide +kernel
theorem d_M_touches_93 : decode b_M_touches 93 = .ok (.getfield 58, 3) := by decide +kernel
theorem d_M_touches_96 : decode b_M_touches 96 = .ok (.invokevirtual 82, 3) := by decide +kernel
theorem d_M_touches_99 : decode b_M_touches 99 = .ok (.lconst 0, 1) := by decide +kernel
theorem d_M_touches_100 : decode b_M_touches 100 = .ok (.lcmp, 1) := by decide +kernel
theorem d_M_touches_101 : decode b_M_touches 101 = .ok (.ifCond .ne 6, 3) := by decide +kernel
theorem d_M_touches_104 : decode b_M_touches 104 = .ok (.bipush (-3), 2) := by decide +kernel
theorem d_M_touches_106 : decode b_M_touches 106 = .ok (.ireturn, 1) := by decide +kernel
theorem d_M_touches_107 : decode b_M_touches 107 = .ok (.aload_n 0, 1) := by decide +kernel
theorem d_M_touches_108 : decode b_M_touches 108 = .ok (.getfield 33, 3) := by decide +kernel
theorem d_M_touches_111 : decode b_M_touches 111 = .ok (.iconst 0, 1) := by decide +kernel
theorem d_M_touches_112 : decode b_M_touches 112 = .ok (.iload_n 1, 1) := by decide +kernel
theorem d_M_touches_113 : decode b_M_touches 113 = .ok (.i2l, 1) := by decide +kernel
theorem d_M_touches_114 : decode b_M_touches 114 = .ok (.lastore, 1) := by decide +kernel
theorem d_M_touches_115 : decode b_M_touches 115 = .ok (.aload_n 0, 1) := by decide +kernel
theorem d_M_touches_116 : decode b_M_touches 116 = .ok (.getfield 33, 3) := by decide +kernel
theorem d_M_touches_119 : decode b_M_touches 119 = .ok (.iconst 1, 1) := by decide +kernel
theorem d_M_touches_120 : decode b_M_touches 120 = .ok (.iload_n 2, 1) := by decide +kernel
theorem d_M_touches_121 : decode b_M_touches 121 = .ok (.i2l, 1) := by decide +kernel
theorem d_M_touches_122 : decode b_M_touches 122 = .ok (.lastore, 1) := by decide +kernel
theorem d_M_touches_123 : decode b_M_touches 123 = .ok (.aload_n 0, 1) := by decide +kernel
theorem d_M_touches_124 : decode b_M_touches 124 = .ok (.getfield 33, 3) := by decide +kernel
theorem d_M_touches_127 : decode b_M_touches 127 = .ok (.iconst 2, 1) := by decide +kernel
theorem d_M_touches_128 : decode b_M_touches 128 = .ok (.iload_n 3, 1) := by decide +kernel
theorem d_M_touches_129 : decode b_M_touches 129 = .ok (.i2l, 1) := by decide +kernel
theorem d_M_touches_130 : decode b_M_touches 130 = .ok (.lastore, 1) := by decide +kernel
theorem d_M_touches_131 : decode b_M_touches 131 = .ok (.aload_n 0, 1) := by decide +kernel
theorem d_M_touches_132 : decode b_M_touches 132 = .ok (.getfield 33, 3) := by decide +kernel
theorem d_M_touches_135 : decode b_M_touches 135 = .ok (.iconst 3, 1) := by decide +kernel
theorem d_M_touches_136 : decode b_M_touches 136 = .ok (.aload_n 0, 1) := by decide +kernel
theorem d_M_touches_137 : decode b_M_touches 137 = .ok (.getfield 7, 3) := by decide +kernel
theorem d_M_touches_140 : decode b_M_touches 140 = .ok (.iconst 2, 1) := by decide +kernel
theorem d_M_touches_141 : decode b_M_touches 141 = .ok (.if_icmp .ne 7, 3) := by decide +kernel
theorem d_M_touches_144 : decode b_M_touches 144 = .ok (.lconst 0, 1) := by decide +kernel
theorem d_M_touches_145 : decode b_M_touches 145 = .ok (.goto 6, 3) := by decide +kernel
theorem d_M_touches_148 : decode b_M_touches 148 = .ok (.iload 4, 2) := by decide +kernel
theorem d_M_touches_150 : decode b_M_touches 150 = .ok (.i2l, 1) := by decide +kernel
theorem d_M_touches_151 : decode b_M_touches 151 = .ok (.lastore, 1) := by decide +kernel
theorem d_M_touches_152 : decode b_M_touches 152 = .ok (.lconst 0, 1) := by decide +kernel
theorem d_M_touches_153 : decode b_M_touches 153 = .ok (.lstore 5, 2) := by decide +kernel
theorem d_M_touches_155 : decode b_M_touches 155 = .ok (.iconst 0, 1) := by decide +kernel
theorem d_M_touches_156 : decode b_M_touches 156 = .ok (.istore 7, 2) := by decide +kernel
theorem d_M_touches_158 : decode b_M_touches 158 = .ok (.iload 7, 2) := by decide +kernel
theorem d_M_touches_160 : decode b_M_touches 160 = .ok (.aload_n 0, 1) := by decide +kernel
theorem d_M_touches_161 : decode b_M_touches 161 = .ok (.getfield 7, 3) := by decide +kernel
theorem d_M_touches_164 : decode b_M_touches 164 = .ok (.if_icmp .gt 72, 3) := by decide +kernel
theorem d_M_touches_167 : decode b_M_touches 167 = .ok (.aload_n 0, 1) := by decide +kernel
theorem d_M_touches_168 : decode b_M_touches 168 = .ok (.iconst 1, 1) := by decide +kernel
theorem d_M_touches_169 : decode b_M_touches 169 = .ok (.invokevirtual 97, 3) := by decide +kernel
theorem d_M_touches_172 : decode b_M_touches 172 = .ok (.iconst 0, 1) := by decide +kernel
theorem d_M_touches_173 : decode b_M_touches 173 = .ok (.istore 8, 2) := by decide +kernel
theorem d_M_touches_175 : decode b_M_touches 175 = .ok (.iload 8, 2) := by decide +kernel
theorem d_M_touches_177 : decode b_M_touches 177 = .ok (.aload_n 0, 1) := by decide +kernel
theorem d_M_touches_178 : decode b_M_touches 178 = .ok (.getfield 7, 3) := by decide +kernel
theorem d_M_touches_181 : decode b_M_touches 181 = .ok (.if_icmp .gt 28, 3) := by decide +kernel
theorem d_M_touches_184 : decode b_M_touches 184 = .ok (.aload_n 0, 1) := by decide +kernel
theorem d_M_touches_185 : decode b_M_touches 185 = .ok (.getfield 20, 3) := by decide +kernel
theorem d_M_touches_188 : decode b_M_touches 188 = .ok (.iconst 4, 1) := by decide +kernel
theorem d_M_touches_189 : decode b_M_touches 189 = .ok (.iload 8, 2) := by decide +kernel
theorem d_M_touches_191 : decode b_M_touches 191 = .ok (.imul, 1) := by decide +kernel
theorem d_M_touches_192 : decode b_M_touches 192 = .ok (.iload 7, 2) := by decide +kernel
theorem d_M_touches_194 : decode b_M_touches 194 = .ok (.iadd, 1) := by decide +kernel
theorem d_M_touches_195 : decode b_M_touches 195 = .ok (.aload_n 0, 1) := by decide +kernel
theorem d_M_touches_196 : decode b_M_touches 196 = .ok (.getfield 33, 3) := by decide +kernel
theorem d_M_touches_199 : decode b_M_touches 199 = .ok (.iload 8, 2) := by decide +kernel
theorem d_M_touches_201 : decode b_M_touches 201 = .ok (.laload, 1) := by decide +kernel
theorem d_M_touches_202 : decode b_M_touches 202 = .ok (.lastore, 1) := by decide +kernel
theorem d_M_touches_203 : decode b_M_touches 203 = .ok (.iinc 8 1, 3) := by decide +kernel
theorem d_M_touches_206 : decode b_M_touches 206 = .ok (.goto (-31), 3) := by decide +kernel
theorem d_M_touches_209 : decode b_M_touches 209 = .ok (.lload 5, 2) := by decide +kernel
theorem d_M_touches_211 : decode b_M_touches 211 = .ok (.aload_n 0, 1) := by decide +kernel
theorem d_M_touches_212 : decode b_M_touches 212 = .ok (.getfield 33, 3) := by decide +kernel
theorem d_M_touches_215 : decode b_M_touches 215 = .ok (.iload 7, 2) := by decide +kernel
theorem d_M_touches_217 : decode b_M_touches 217 = .ok (.laload, 1) := by decide +kernel
theorem d_M_touches_218 : decode b_M_touches 218 = .ok (.aload_n 0, 1) := by decide +kernel
theorem d_M_touches_219 : decode b_M_touches 219 = .ok (.aload_n 0, 1) := by decide +kernel
theorem d_M_touches_220 : decode b_M_touches 220 = .ok (.getfield 58, 3) := by decide +kernel
theorem d_M_touches_223 : decode b_M_touches 223 = .ok (.invokevirtual 82, 3) := by decide +kernel
theorem d_M_touches_226 : decode b_M_touches 226 = .ok (.lmul, 1) := by decide +kernel
theorem d_M_touches_227 : decode b_M_touches 227 = .ok (.ladd, 1) := by decide +kernel
theorem d_M_touches_228 : decode b_M_touches 228 = .ok (.lstore 5, 2) := by decide +kernel
theorem d_M_touches_230 : decode b_M_touches 230 = .ok (.iinc 7 1, 3) := by decide +kernel
theorem d_M_touches_233 : decode b_M_touches 233 = .ok (.goto (-75), 3) := by decide +kernel
theorem d_M_touches_236 : decode b_M_touches 236 = .ok (.lload 5, 2) := by decide +kernel
theorem d_M_touches_238 : decode b_M_touches 238 = .ok (.lconst 0, 1) := by decide +kernel
theorem d_M_touches_239 : decode b_M_touches 239 = .ok (.lcmp, 1) := by decide +kernel
theorem d_M_touches_240 : decode b_M_touches 240 = .ok (.ifCond .ne 7, 3) := by decide +kernel
theorem d_M_touches_243 : decode b_M_touches 243 = .ok (.iconst 1, 1) := by decide +kernel
theorem d_M_touches_244 : decode b_M_touches 244 = .ok (.goto 4, 3) := by decide +kernel
theorem d_M_touches_247 : decode b_M_touches 247 = .ok (.iconst 0, 1) := by decide +kernel
theorem d_M_touches_248 : decode b_M_touches 248 = .ok (.ireturn, 1) := by decide +kernel
theorem d_M_section_0 : decode b_M_section 0 = .ok (.aload_n 0, 1) := by decide +kernel
theorem d_M_section_1 : decode b_M_section 1 = .ok (.iconst 0, 1) := by decide +kernel
theorem d_M_section_2 : decode b_M_section 2 = .ok (.putfield 45, 3) := by decide +kernel
theorem d_M_section_5 : decode b_M_section 5 = .ok (.aload_n 0, 1) := by decide +kernel
theorem d_M_section_6 : decode b_M_section 6 = .ok (.getfield 7, 3) := by decide +kernel
theorem d_M_section_9 : decode b_M_section 9 = .ok (.iconst 2, 1) := by decide +kernel
theorem d_M_section_10 : decode b_M_section 10 = .ok (.if_icmp .ne 6, 3) := by decide +kernel
theorem d_M_section_13 : decode b_M_section 13 = .ok (.bipush (-3), 2) := by decide +kernel
theorem d_M_section_15 : decode b_M_section 15 = .ok (.ireturn, 1) := by decide +kernel
theorem d_M_section_16 : decode b_M_section 16 = .ok (.iload_n 1, 1) := by decide +kernel
theorem d_M_section_17 : decode b_M_section 17 = .ok (.i2l, 1) := by decide +kernel
theorem d_M_section_18 : decode b_M_section 18 = .ok (.bipush (-10), 2) := by decide +kernel
theorem d_M_section_20 : decode b_M_section 20 = .ok (.bipush 10, 2) := by decide +kernel
theorem d_M_section_22 : decode b_M_section 22 = .ok (.invokestatic 52, 3) := by decide +kernel
theorem d_M_section_25 : decode b_M_section 25 = .ok (.ifCond .eq 52, 3) := by decide +kernel
theorem d_M_section_28 : decode b_M_section 28 = .ok (.iload_n 2, 1) := by decide +kernel
theorem d_M_section_29 : decode b_M_section 29 = .ok (.i2l, 1) := by decide +kernel
theorem d_M_section_30 : decode b_M_section 30 = .ok (.bipush (-10), 2) := by decide +kernel
theorem d_M_section_32 : decode b_M_section 32 = .ok (.bipush 10, 2) := by decide +kernel
theorem d_M_section_34 : decode b_M_section 34 = .ok (.invokestatic 52, 3) := by decide +kernel
theorem d_M_section_37 : decode b_M_section 37 = .ok (.ifCond .eq 40, 3) := by decide +kernel
theorem d_M_section_40 : decode b_M_section 40 = .ok (.iload_n 3, 1) := by decide +kernel
theorem d_M_section_41 : decode b_M_section 41 = .ok (.i2l, 1) := by decide +kernel
theorem d_M_section_42 : decode b_M_section 42 = .ok (.bipush (-10), 2) := by decide +kernel
theorem d_M_section_44 : decode b_M_section 44 = .ok (.bipush 10, 2) := by decide +kernel
theorem d_M_section_46 : decode b_M_section 46 = .ok (.invokestatic 52, 3) := by decide +kernel
theorem d_M_section_49 : decode b_M_section 49 = .ok (.ifCond .eq 28, 3) := by decide +kernel
theorem d_M_section_52 : decode b_M_section 52 = .ok (.iload 4, 2) := by decide +kernel
theorem d_M_section_54 : decode b_M_section 54 = .ok (.i2l, 1) := by decide +kernel
theorem d_M_section_55 : decode b_M_section 55 = .ok (.bipush (-10), 2) := by decide +kernel
theorem d_M_section_57 : decode b_M_section 57 = .ok (.bipush 10, 2) := by decide +kernel
theorem d_M_section_59 : decode b_M_section 59 = .ok (.invokestatic 52, 3) := by decide +kernel
theorem d_M_section_62 : decode b_M_section 62 = .ok (.ifCond .eq 15, 3) := by decide +kernel
theorem d_M_section_65 : decode b_M_section 65 = .ok (.iload_n 1, 1) := by decide +kernel
theorem d_M_section_66 : decode b_M_section 66 = .ok (.ifCond .ne 14, 3) := by decide +kernel
theorem d_M_section_69 : decode b_M_section 69 = .ok (.iload_n 2, 1) := by decide +kernel
theorem d_M_section_70 : decode b_M_section 70 = .ok (.ifCond .ne 10, 3) := by decide +kernel
theorem d_M_section_73 : decode b_M_section 73 = .ok (.iload_n 3, 1) := by decide +kernel
theorem d_M_section_74 : decode b_M_section 74 = .ok (.ifCond .ne 6, 3) := by decide +kernel
theorem d_M_section_77 : decode b_M_section 77 = .ok (.bipush (-2), 2) := by decide +kernel
theorem d_M_section_79 : decode b_M_section 79 = .ok (.ireturn, 1) := by decide +kernel
theorem d_M_section_80 : decode b_M_section 80 = .ok (.aload_n 0, 1) := by decide +kernel
theorem d_M_section_81 : decode b_M_section 81 = .ok (.iload_n 1, 1) := by decide +kernel
theorem d_M_section_82 : decode b_M_section 82 = .ok (.iload_n 2, 1) := by decide +kernel
theorem d_M_section_83 : decode b_M_section 83 = .ok (.iload_n 3, 1) := by decide +kernel
theorem d_M_section_84 : decode b_M_section 84 = .ok (.iload 4, 2) := by decide +kernel
theorem d_M_section_86 : decode b_M_section 86 = .ok (.invokevirtual 145, 3) := by decide +kernel
theorem d_M_section_89 : decode b_M_section 89 = .ok (.aload_n 0, 1) := by decide +kernel
theorem d_M_section_90 : decode b_M_section 90 = .ok (.iconst 1, 1) := by decide +kernel
theorem d_M_section_91 : decode b_M_section 91 = .ok (.invokevirtual 149, 3) := by decide +kernel
theorem d_M_section_94 : decode b_M_section 94 = .ok (.aload_n 0, 1) := by decide +kernel
theorem d_M_section_95 : decode b_M_section 95 = .ok (.invokevirtual 101, 3) := by decide +kernel
theorem d_M_section_98 : decode b_M_section 98 = .ok (.aload_n 0, 1) := by decide +kernel
theorem d_M_section_99 : decode b_M_section 99 = .ok (.aload_n 0, 1) := by decide +kernel
theorem d_M_section_100 : decode b_M_section 100 = .ok (.getfield 76, 3) := by decide +kernel
theorem d_M_section_103 : decode b_M_section 103 = .ok (.putfield 88, 3) := by decide +kernel
theorem d_M_section_106 : decode b_M_section 106 = .ok (.aload_n 0, 1) := by decide +kernel
theorem d_M_section_107 : decode b_M_section 107 = .ok (.aload_n 0, 1) := by decide +kernel
theorem d_M_section_108 : decode b_M_section 108 = .ok (.getfield 79, 3) := by decide +kernel
theorem d_M_section_111 : decode b_M_section 111 = .ok (.putfield 85, 3) := by decide +kernel
theorem d_M_section_114 : decode b_M_section 114 = .ok (.aload_n 0, 1) := by decide +kernel
theorem d_M_section_115 : decode b_M_section 115 = .ok (.iconst 0, 1) := by decide +kernel
theorem d_M_section_116 : decode b_M_section 116 = .ok (.invokevirtual 149, 3) := by decide +kernel
theorem d_M_section_119 : decode b_M_section 119 = .ok (.aload_n 0, 1) := by decide +kernel
theorem d_M_section_120 : decode b_M_section 120 = .ok (.invokevirtual 101, 3) := by decide +kernel
theorem d_M_section_123 : decode b_M_section 123 = .ok (.aload_n 0, 1) := by decide +kernel
theorem d_M_section_124 : decode b_M_section 124 = .ok (.aload_n 0, 1) := by decide +kernel
theorem d_M_section_125 : decode b_M_section 125 = .ok (.getfield 76, 3) := by decide +kernel
theorem d_M_section_128 : decode b_M_section 128 = .ok (.putfield 94, 3) := by decide +kernel
theorem d_M_section_131 : decode b_M_section 131 = .ok (.aload_n 0, 1) := by decide +kernel
theorem d_M_section_132 : decode b_M_section 132 = .ok (.aload_n 0, 1) := by decide +kernel
theorem d_M_section_133 : decode b_M_section 133 = .ok (.getfield 79, 3) := by decide +kernel
theorem d_M_section_136 : decode b_M_section 136 = .ok (.putfield 91, 3) := by decide +kernel
theorem d_M_section_139 : decode b_M_section 139 = .ok (.aload_n 0, 1) := by decide +kernel
theorem d_M_section_140 : decode b_M_section 140 = .ok (.iconst 1, 1) := by decide +kernel
theorem d_M_section_141 : decode b_M_section 141 = .ok (.invokevirtual 107, 3) := by decide +kernel
theorem d_M_section_144 : decode b_M_section 144 = .ok (.ireturn, 1) := by decide +kernel
theorem d_M_layBase_0 : decode b_M_layBase 0 = .ok (.iconst 0, 1) := by decide +kernel
theorem d_M_layBase_1 : decode b_M_layBase 1 = .ok (.istore 5, 2) := by decide +kernel
theorem d_M_layBase_3 : decode b_M_layBase 3 = .ok (.iload 5, 2) := by decide +kernel
theorem d_M_layBase_5 : decode b_M_layBase 5 = .ok (.bipush 12, 2) := by decide +kernel
theorem d_M_layBase_7 : decode b_M_layBase 7 = .ok (.if_icmp .ge 17, 3) := by decide +kernel
theorem d_M_layBase_10 : decode b_M_layBase 10 = .ok (.aload_n 0, 1) := by decide +kernel
theorem d_M_layBase_11 : decode b_M_layBase 11 = .ok (.getfield 39, 3) := by decide +kernel
theorem d_M_layBase_14 : decode b_M_layBase 14 = .ok (.iload 5, 2) := by decide +kernel
theorem d_M_layBase_16 : decode b_M_layBase 16 = .ok (.lconst 0, 1) := by decide +kernel
theorem d_M_layBase_17 : decode b_M_layBase 17 = .ok (.lastore, 1) := by decide +kernel
theorem d_M_layBase_18 : decode b_M_layBase 18 = .ok (.iinc 5 1, 3) := by decide +kernel
theorem d_M_layBase_21 : decode b_M_layBase 21 = .ok (.goto (-18), 3) := by decide +kernel
theorem d_M_layBase_24 : decode b_M_layBase 24 = .ok (.iload_n 3, 1) := by decide +kernel
theorem d_M_layBase_25 : decode b_M_layBase 25 = .ok (.ifCond .eq 7, 3) := by decide +kernel
theorem d_M_layBase_28 : decode b_M_layBase 28 = .ok (.iconst 3, 1) := by decide +kernel
theorem d_M_layBase_29 : decode b_M_layBase 29 = .ok (.goto 12, 3) := by decide +kernel
theorem d_M_layBase_32 : decode b_M_layBase 32 = .ok (.iload_n 2, 1) := by decide +kernel
theorem d_M_layBase_33 : decode b_M_layBase 33 = .ok (.ifCond .eq 7, 3) := by decide +kernel
theorem d_M_layBase_36 : decode b_M_layBase 36 = .ok (.iconst 2, 1) := by decide +kernel
theorem d_M_layBase_37 : decode b_M_layBase 37 = .ok (.goto 4, 3) := by decide +kernel
theorem d_M_layBase_40 : decode b_M_layBase 40 = .ok (.iconst 1, 1) := by decide +kernel
theorem d_M_layBase_41 : decode b_M_layBase 41 = .ok (.istore 5, 2) := by decide +kernel
theorem d_M_layBase_43 : decode b_M_layBase 43 = .ok (.iload_n 3, 1) := by decide +kernel
theorem d_M_layBase_44 : decode b_M_layBase 44 = .ok (.ifCond .eq 7, 3) := by decide +kernel
theorem d_M_layBase_47 : decode b_M_layBase 47 = .ok (.iload_n 3, 1) := by decide +kernel
theorem d_M_layBase_48 : decode b_M_layBase 48 = .ok (.goto 12, 3) := by decide +kernel
theorem d_M_layBase_51 : decode b_M_layBase 51 = .ok (.iload_n 2, 1) := by decide +kernel
theorem d_M_layBase_52 : decode b_M_layBase 52 = .ok (.ifCond .eq 7, 3) := by decide +kernel
theorem d_M_layBase_55 : decode b_M_layBase 55 = .ok (.iload_n 2, 1) := by decide +kernel
theorem d_M_layBase_56 : decode b_M_layBase 56 = .ok (.goto 4, 3) := by decide +kernel
theorem d_M_layBase_59 : decode b_M_layBase 59 = .ok (.iload_n 1, 1) := by decide +kernel
theorem d_M_layBase_60 : decode b_M_layBase 60 = .ok (.istore 6, 2) := by decide +kernel
theorem d_M_layBase_62 : decode b_M_layBase 62 = .ok (.aload_n 0, 1) := by decide +kernel
theorem d_M_layBase_63 : decode b_M_layBase 63 = .ok (.getfield 39, 3) := by decide +kernel
theorem d_M_layBase_66 : decode b_M_layBase 66 = .ok (.iconst 0, 1) := by decide +kernel
theorem d_M_layBase_67 : decode b_M_layBase 67 = .ok (.iload 6, 2) := by decide +kernel
theorem d_M_layBase_69 : decode b_M_layBase 69 = .ok (.i2l, 1) := by decide +kernel
theorem d_M_layBase_70 : decode b_M_layBase 70 = .ok (.lastore, 1) := by decide +kernel
theorem d_M_layBase_71 : decode b_M_layBase 71 = .ok (.aload_n 0, 1) := by decide +kernel
theorem d_M_layBase_72 : decode b_M_layBase 72 = .ok (.getfield 39, 3) := by decide +kernel
theorem d_M_layBase_75 : decode b_M_layBase 75 = .ok (.iload 5, 2) := by decide +kernel
theorem d_M_layBase_77 : decode b_M_layBase 77 = .ok (.iload 4, 2) := by decide +kernel
theorem d_M_layBase_79 : decode b_M_layBase 79 = .ok (.i2l, 1) := by decide +kernel
theorem d_M_layBase_80 : decode b_M_layBase 80 = .ok (.lastore, 1) := by decide +kernel
theorem d_M_layBase_81 : decode b_M_layBase 81 = .ok (.iconst 1, 1) := by decide +kernel
theorem d_M_layBase_82 : decode b_M_layBase 82 = .ok (.istore 7, 2) := by decide +kernel
theorem d_M_layBase_84 : decode b_M_layBase 84 = .ok (.iconst 1, 1) := by decide +kernel
theorem d_M_layBase_85 : decode b_M_layBase 85 = .ok (.istore 8, 2) := by decide +kernel
theorem d_M_layBase_87 : decode b_M_layBase 87 = .ok (.iload 8, 2) := by decide +kernel
theorem d_M_layBase_89 : decode b_M_layBase 89 = .ok (.iconst 3, 1) := by decide +kernel
theorem d_M_layBase_90 : decode b_M_layBase 90 = .ok (.if_icmp .gt 73, 3) := by decide +kernel
theorem d_M_layBase_93 : decode b_M_layBase 93 = .ok (.iload 8, 2) := by decide +kernel
theorem d_M_layBase_95 : decode b_M_layBase 95 = .ok (.iload 5, 2) := by decide +kernel
theorem d_M_layBase_97 : decode b_M_layBase 97 = .ok (.if_icmp .eq 60, 3) := by decide +kernel
theorem d_M_layBase_100 : decode b_M_layBase 100 = .ok (.aload_n 0, 1) := by decide +kernel
theorem d_M_layBase_101 : decode b_M_layBase 101 = .ok (.getfield 39, 3) := by decide +kernel
theorem d_M_layBase_104 : decode b_M_layBase 104 = .ok (.iconst 4, 1) := by decide +kernel
theorem d_M_layBase_105 : decode b_M_layBase 105 = .ok (.iload 7, 2) := by decide +kernel
theorem d_M_layBase_107 : decode b_M_layBase 107 = .ok (.imul, 1) := by decide +kernel
theorem d_M_layBase_108 : decode b_M_layBase 108 = .ok (.iload 8, 2) := by decide +kernel
theorem d_M_layBase_110 : decode b_M_layBase 110 = .ok (.iadd, 1) := by decide +kernel
theorem d_M_layBase_111 : decode b_M_layBase 111 = .ok (.iload 6, 2) := by decide +kernel
theorem d_M_layBase_113 : decode b_M_layBase 113 = .ok (.i2l, 1) := by decide +kernel
theorem d_M_layBase_114 : decode b_M_layBase 114 = .ok (.lastore, 1) := by decide +kernel
theorem d_M_layBase_115 : decode b_M_layBase 115 = .ok (.aload_n 0, 1) := by decide +kernel
theorem d_M_layBase_116 : decode b_M_layBase 116 = .ok (.getfield 39, 3) := by decide +kernel
theorem d_M_layBase_119 : decode b_M_layBase 119 = .ok (.iconst 4, 1) := by decide +kernel
theorem d_M_layBase_120 : decode b_M_layBase 120 = .ok (.iload 7, 2) := by decide +kernel
theorem d_M_layBase_122 : decode b_M_layBase 122 = .ok (.imul, 1) := by decide +kernel
theorem d_M_layBase_123 : decode b_M_layBase 123 = .ok (.iload 5, 2) := by decide +kernel
theorem d_M_layBase_125 : decode b_M_layBase 125 = .ok (.iadd, 1) := by decide +kernel
theorem d_M_layBase_126 : decode b_M_layBase 126 = .ok (.iload 8, 2) := by decide +kernel
theorem d_M_layBase_128 : decode b_M_layBase 128 = .ok (.iconst 1, 1) := by decide +kernel
theorem d_M_layBase_129 : decode b_M_layBase 129 = .ok (.if_icmp .ne 9, 3) := by decide +kernel
theorem d_M_layBase_132 : decode b_M_layBase 132 = .ok (.iload_n 1, 1) := by decide +kernel
theorem d_M_layBase_133 : decode b_M_layBase 133 = .ok (.ineg, 1) := by decide +kernel
theorem d_M_layBase_134 : decode b_M_layBase 134 = .ok (.i2l, 1) := by decide +kernel
theorem d_M_layBase_135 : decode b_M_layBase 135 = .ok (.goto 18, 3) := by decide +kernel
theorem d_M_layBase_138 : decode b_M_layBase 138 = .ok (.iload 8, 2) := by decide +kernel
theorem d_M_layBase_140 : decode b_M_layBase 140 = .ok (.iconst 2, 1) := by decide +kernel
theorem d_M_layBase_141 : decode b_M_layBase 141 = .ok (.if_icmp .ne 9, 3) := by decide +kernel
theorem d_M_layBase_144 : decode b_M_layBase 144 = .ok (.iload_n 2, 1) := by decide +kernel
theorem d_M_layBase_145 : decode b_M_layBase 145 = .ok (.ineg, 1) := by decide +kernel
theorem d_M_layBase_146 : decode b_M_layBase 146 = .ok (.i2l, 1) := by decide +kernel
theorem d_M_layBase_147 : decode b_M_layBase 147 = .ok (.goto 6, 3) := by decide +kernel
theorem d_M_layBase_150 : decode b_M_layBase 150 = .ok (.iload_n 3, 1) := by decide +kernel
theorem d_M_layBase_151 : decode b_M_layBase 151 = .ok (.ineg, 1) := by decide +kernel
theorem d_M_layBase_152 : decode b_M_layBase 152 = .ok (.i2l, 1) := by decide +kernel
theorem d_M_layBase_153 : decode b_M_layBase 153 = .ok (.lastore, 1) := by decide +kernel
theorem d_M_layBase_154 : decode b_M_layBase 154 = .ok (.iinc 7 1, 3) := by decide +kernel
theorem d_M_layBase_157 : decode b_M_layBase 157 = .ok (.iinc 8 1, 3) := by decide +kernel
theorem d_M_layBase_160 : decode b_M_layBase 160 = .ok (.goto (-73), 3) := by decide +kernel
theorem d_M_layBase_163 : decode b_M_layBase 163 = .ok (.return_, 1) := by decide +kernel
theorem d_M_layCut_0 : decode b_M_layCut 0 = .ok (.aload_n 0, 1) := by decide +kernel
theorem d_M_layCut_1 : decode b_M_layCut 1 = .ok (.iconst 3, 1) := by decide +kernel
theorem d_M_layCut_2 : decode b_M_layCut 2 = .ok (.iload_n 1, 1) := by decide +kernel
theorem d_M_layCut_3 : decode b_M_layCut 3 = .ok (.isub, 1) := by decide +kernel
theorem d_M_layCut_4 : decode b_M_layCut 4 = .ok (.putfield 58, 3) := by decide +kernel
theorem d_M_layCut_7 : decode b_M_layCut 7 = .ok (.iconst 0, 1) := by decide +kernel
theorem d_M_layCut_8 : decode b_M_layCut 8 = .ok (.istore_n 2, 1) := by decide +kernel
theorem d_M_layCut_9 : decode b_M_layCut 9 = .ok (.iload_n 2, 1) := by decide +kernel
theorem d_M_layCut_10 : decode b_M_layCut 10 = .ok (.aload_n 0, 1) := by decide +kernel
theorem d_M_layCut_11 : decode b_M_layCut 11 = .ok (.getfield 58, 3) := by decide +kernel
theorem d_M_layCut_14 : decode b_M_layCut 14 = .ok (.if_icmp .ge 45, 3) := by decide +kernel
theorem d_M_layCut_17 : decode b_M_layCut 17 = .ok (.iconst 0, 1) := by decide +kernel
theorem d_M_layCut_18 : decode b_M_layCut 18 = .ok (.istore_n 3, 1) := by decide +kernel
theorem d_M_layCut_19 : decode b_M_layCut 19 = .ok (.iload_n 3, 1) := by decide +kernel
theorem d_M_layCut_20 : decode b_M_layCut 20 = .ok (.aload_n 0, 1) := by decide +kernel
theorem d_M_layCut_21 : decode b_M_layCut 21 = .ok (.getfield 58, 3) := by decide +kernel
theorem d_M_layCut_24 : decode b_M_layCut 24 = .ok (.if_icmp .ge 29, 3) := by decide +kernel
theorem d_M_layCut_27 : decode b_M_layCut 27 = .ok (.aload_n 0, 1) := by decide +kernel
theorem d_M_layCut_28 : decode b_M_layCut 28 = .ok (.getfield 20, 3) := by decide +kernel
theorem d_M_layCut_31 : decode b_M_layCut 31 = .ok (.iconst 4, 1) := by decide +kernel
theorem d_M_layCut_32 : decode b_M_layCut 32 = .ok (.iload_n 2, 1) := by decide +kernel
theorem d_M_layCut_33 : decode b_M_layCut 33 = .ok (.imul, 1) := by decide +kernel
theorem d_M_layCut_34 : decode b_M_layCut 34 = .ok (.iload_n 3, 1) := by decide +kernel
theorem d_M_layCut_35 : decode b_M_layCut 35 = .ok (.iadd, 1) := by decide +kernel
theorem d_M_layCut_36 : decode b_M_layCut 36 = .ok (.aload_n 0, 1) := by decide +kernel
theorem d_M_layCut_37 : decode b_M_layCut 37 = .ok (.iload_n 2, 1) := by decide +kernel
theorem d_M_layCut_38 : decode b_M_layCut 38 = .ok (.iload_n 1, 1) := by decide +kernel
theorem d_M_layCut_39 : decode b_M_layCut 39 = .ok (.iadd, 1) := by decide +kernel
theorem d_M_layCut_40 : decode b_M_layCut 40 = .ok (.iload_n 3, 1) := by decide +kernel
theorem d_M_layCut_41 : decode b_M_layCut 41 = .ok (.iload_n 1, 1) := by decide +kernel
theorem d_M_layCut_42 : decode b_M_layCut 42 = .ok (.iadd, 1) := by decide +kernel
theorem d_M_layCut_43 : decode b_M_layCut 43 = .ok (.invokevirtual 153, 3) := by decide +kernel
theorem d_M_layCut_46 : decode b_M_layCut 46 = .ok (.lastore, 1) := by decide +kernel
theorem d_M_layCut_47 : decode b_M_layCut 47 = .ok (.iinc 3 1, 3) := by decide +kernel
theorem d_M_layCut_50 : decode b_M_layCut 50 = .ok (.goto (-31), 3) := by decide +kernel
theorem d_M_layCut_53 : decode b_M_layCut 53 = .ok (.iinc 2 1, 3) := by decide +kernel
theorem d_M_layCut_56 : decode b_M_layCut 56 = .ok (.goto (-47), 3) := by decide +kernel
theorem d_M_layCut_59 : decode b_M_layCut 59 = .ok (.return_, 1) := by decide +kernel
theorem d_M_formOf_0 : decode b_M_formOf 0 = .ok (.lconst 0, 1) := by decide +kernel
theorem d_M_formOf_1 : decode b_M_formOf 1 = .ok (.lstore_n 3, 1) := by decide +kernel
theorem d_M_formOf_2 : decode b_M_formOf 2 = .ok (.iconst 0, 1) := by decide +kernel
theorem d_M_formOf_3 : decode b_M_formOf 3 = .ok (.istore 5, 2) := by decide +kernel
theorem d_M_formOf_5 : decode b_M_formOf 5 = .ok (.iload 5, 2) := by decide +kernel
theorem d_M_formOf_7 : decode b_M_formOf 7 = .ok (.iconst 4, 1) := by decide +kernel
theorem d_M_formOf_8 : decode b_M_formOf 8 = .ok (.if_icmp .ge 64, 3) := by decide +kernel
theorem d_M_formOf_11 : decode b_M_formOf 11 = .ok (.iconst 0, 1) := by decide +kernel
theorem d_M_formOf_12 : decode b_M_formOf 12 = .ok (.istore 6, 2) := by decide +kernel
theorem d_M_formOf_14 : decode b_M_formOf 14 = .ok (.iload 6, 2) := by decide +kernel
theorem d_M_formOf_16 : decode b_M_formOf 16 = .ok (.iconst 4, 1) := by decide +kernel
theorem d_M_formOf_17 : decode b_M_formOf 17 = .ok (.if_icmp .ge 49, 3) := by decide +kernel
theorem d_M_formOf_20 : decode b_M_formOf 20 = .ok (.lload_n 3, 1) := by decide +kernel
theorem d_M_formOf_21 : decode b_M_formOf 21 = .ok (.aload_n 0, 1) := by decide +kernel
theorem d_M_formOf_22 : decode b_M_formOf 22 = .ok (.getfield 39, 3) := by decide +kernel
theorem d_M_formOf_25 : decode b_M_formOf 25 = .ok (.iconst 4, 1) := by decide +kernel
theorem d_M_formOf_26 : decode b_M_formOf 26 = .ok (.iload_n 1, 1) := by decide +kernel
theorem d_M_formOf_27 : decode b_M_formOf 27 = .ok (.imul, 1) := by decide +kernel
theorem d_M_formOf_28 : decode b_M_formOf 28 = .ok (.iload 5, 2) := by decide +kernel
theorem d_M_formOf_30 : decode b_M_formOf 30 = .ok (.iadd, 1) := by decide +kernel
theorem d_M_formOf_31 : decode b_M_formOf 31 = .ok (.laload, 1) := by decide +kernel
theorem d_M_formOf_32 : decode b_M_formOf 32 = .ok (.aload_n 0, 1) := by decide +kernel
theorem d_M_formOf_33 : decode b_M_formOf 33 = .ok (.getfield 13, 3) := by decide +kernel
theorem d_M_formOf_36 : decode b_M_formOf 36 = .ok (.iconst 4, 1) := by decide +kernel
theorem d_M_formOf_37 : decode b_M_formOf 37 = .ok (.iload 5, 2) := by decide +kernel
theorem d_M_formOf_39 : decode b_M_formOf 39 = .ok (.imul, 1) := by decide +kernel
theorem d_M_formOf_40 : decode b_M_formOf 40 = .ok (.iload 6, 2) := by decide +kernel
theorem d_M_formOf_42 : decode b_M_formOf 42 = .ok (.iadd, 1) := by decide +kernel
theorem d_M_formOf_43 : decode b_M_formOf 43 = .ok (.iaload, 1) := by decide +kernel
theorem d_M_formOf_44 : decode b_M_formOf 44 = .ok (.i2l, 1) := by decide +kernel
theorem d_M_formOf_45 : decode b_M_formOf 45 = .ok (.lmul, 1) := by decide +kernel
theorem d_M_formOf_46 : decode b_M_formOf 46 = .ok (.aload_n 0, 1) := by decide +kernel
theorem d_M_formOf_47 : decode b_M_formOf 47 = .ok (.getfield 39, 3) := by decide +kernel
theorem d_M_formOf_50 : decode b_M_formOf 50 = .ok (.iconst 4, 1) := by decide +kernel
theorem d_M_formOf_51 : decode b_M_formOf 51 = .ok (.iload_n 2, 1) := by decide +kernel
theorem d_M_formOf_52 : decode b_M_formOf 52 = .ok (.imul, 1) := by decide +kernel
theorem d_M_formOf_53 : decode b_M_formOf 53 = .ok (.iload 6, 2) := by decide +kernel
theorem d_M_formOf_55 : decode b_M_formOf 55 = .ok (.iadd, 1) := by decide +kernel
theorem d_M_formOf_56 : decode b_M_formOf 56 = .ok (.laload, 1) := by decide +kernel
theorem d_M_formOf_57 : decode b_M_formOf 57 = .ok (.lmul, 1) := by decide +kernel
theorem d_M_formOf_58 : decode b_M_formOf 58 = .ok (.ladd, 1) := by decide +kernel
theorem d_M_formOf_59 : decode b_M_formOf 59 = .ok (.lstore_n 3, 1) := by decide +kernel
theorem d_M_formOf_60 : decode b_M_formOf 60 = .ok (.iinc 6 1, 3) := by decide +kernel
theorem d_M_formOf_63 : decode b_M_formOf 63 = .ok (.goto (-49), 3) := by decide +kernel
theorem d_M_formOf_66 : decode b_M_formOf 66 = .ok (.iinc 5 1, 3) := by decide +kernel
theorem d_M_formOf_69 : decode b_M_formOf 69 = .ok (.goto (-64), 3) := by decide +kernel
theorem d_M_formOf_72 : decode b_M_formOf 72 = .ok (.lload_n 3, 1) := by decide +kernel
theorem d_M_formOf_73 : decode b_M_formOf 73 = .ok (.lreturn, 1) := by decide +kernel
theorem d_M_meets_0 : decode b_M_meets 0 = .ok (.aload_n 0, 1) := by decide +kernel
theorem d_M_meets_1 : decode b_M_meets 1 = .ok (.iconst 0, 1) := by decide +kernel
theorem d_M_meets_2 : decode b_M_meets 2 = .ok (.putfield 45, 3) := by decide +kernel
theorem d_M_meets_5 : decode b_M_meets 5 = .ok (.aload_n 0, 1) := by decide +kernel
theorem d_M_meets_6 : decode b_M_meets 6 = .ok (.getfield 7, 3) := by decide +kernel
theorem d_M_meets_9 : decode b_M_meets 9 = .ok (.iconst 2, 1) := by decide +kernel
theorem d_M_meets_10 : decode b_M_meets 10 = .ok (.if_icmp .ne 7, 3) := by decide +kernel
theorem d_M_meets_13 : decode b_M_meets 13 = .ok (.iconst 1, 1) := by decide +kernel
theorem d_M_meets_14 : decode b_M_meets 14 = .ok (.goto 4, 3) := by decide +kernel
theorem d_M_meets_17 : decode b_M_meets 17 = .ok (.iconst 0, 1) := by decide +kernel
theorem d_M_meets_18 : decode b_M_meets 18 = .ok (.istore 7, 2) := by decide +kernel
theorem d_M_meets_20 : decode b_M_meets 20 = .ok (.iload_n 1, 1) := by decide +kernel
theorem d_M_meets_21 : decode b_M_meets 21 = .ok (.i2l, 1) := by decide +kernel
theorem d_M_meets_22 : decode b_M_meets 22 = .ok (.bipush (-20), 2) := by decide +kernel
theorem d_M_meets_24 : decode b_M_meets 24 = .ok (.bipush 20, 2) := by decide +kernel
theorem d_M_meets_26 : decode b_M_meets 26 = .ok (.invokestatic 52, 3) := by decide +kernel
theorem d_M_meets_29 : decode b_M_meets 29 = .ok (.ifCond .eq 96, 3) := by decide +kernel
theorem d_M_meets_32 : decode b_M_meets 32 = .ok (.iload_n 2, 1) := by decide +kernel
theorem d_M_meets_33 : decode b_M_meets 33 = .ok (.i2l, 1) := by decide +kernel
theorem d_M_meets_34 : decode b_M_meets 34 = .ok (.bipush (-20), 2) := by decide +kernel
theorem d_M_meets_36 : decode b_M_meets 36 = .ok (.bipush 20, 2) := by decide +kernel
theorem d_M_meets_38 : decode b_M_meets 38 = .ok (.invokestatic 52, 3) := by decide +kernel
theorem d_M_meets_41 : decode b_M_meets 41 = .ok (.ifCond .eq 84, 3) := by decide +kernel
theorem d_M_meets_44 : decode b_M_meets 44 = .ok (.iload 7, 2) := by decide +kernel
theorem d_M_meets_46 : decode b_M_meets 46 = .ok (.ifCond .ne 15, 3) := by decide +kernel
theorem d_M_meets_49 : decode b_M_meets 49 = .ok (.iload_n 3, 1) := by decide +kernel
theorem d_M_meets_50 : decode b_M_meets 50 = .ok (.i2l, 1) := by decide +kernel
theorem d_M_meets_51 : decode b_M_meets 51 = .ok (.bipush (-20), 2) := by decide +kernel
theorem d_M_meets_53 : decode b_M_meets 53 = .ok (.bipush 20, 2) := by decide +kernel
theorem d_M_meets_55 : decode b_M_meets 55 = .ok (.invokestatic 52, 3) := by decide +kernel
theorem d_M_meets_58 : decode b_M_meets 58 = .ok (.ifCond .eq 67, 3) := by decide +kernel
theorem d_M_meets_61 : decode b_M_meets 61 = .ok (.iload 4, 2) := by decide +kernel
theorem d_M_meets_63 : decode b_M_meets 63 = .ok (.i2l, 1) := by decide +kernel
theorem d_M_meets_64 : decode b_M_meets 64 = .ok (.bipush (-20), 2) := by decide +kernel
theorem d_M_meets_66 : decode b_M_meets 66 = .ok (.bipush 20, 2) := by decide +kernel
theorem d_M_meets_68 : decode b_M_meets 68 = .ok (.invokestatic 52, 3) := by decide +kernel
theorem d_M_meets_71 : decode b_M_meets 71 = .ok (.ifCond .eq 54, 3) := by decide +kernel
theorem d_M_meets_74 : decode b_M_meets 74 = .ok (.iload 5, 2) := by decide +kernel
theorem d_M_meets_76 : decode b_M_meets 76 = .ok (.i2l, 1) := by decide +kernel
theorem d_M_meets_77 : decode b_M_meets 77 = .ok (.bipush (-20), 2) := by decide +kernel
theorem d_M_meets_79 : decode b_M_meets 79 = .ok (.bipush 20, 2) := by decide +kernel
theorem d_M_meets_81 : decode b_M_meets 81 = .ok (.invokestatic 52, 3) := by decide +kernel
theorem d_M_meets_84 : decode b_M_meets 84 = .ok (.ifCond .eq 41, 3) := by decide +kernel
theorem d_M_meets_87 : decode b_M_meets 87 = .ok (.iload 7, 2) := by decide +kernel
theorem d_M_meets_89 : decode b_M_meets 89 = .ok (.ifCond .ne 16, 3) := by decide +kernel
theorem d_M_meets_92 : decode b_M_meets 92 = .ok (.iload 6, 2) := by decide +kernel
theorem d_M_meets_94 : decode b_M_meets 94 = .ok (.i2l, 1) := by decide +kernel
theorem d_M_meets_95 : decode b_M_meets 95 = .ok (.bipush (-20), 2) := by decide +kernel
theorem d_M_meets_97 : decode b_M_meets 97 = .ok (.bipush 20, 2) := by decide +kernel
theorem d_M_meets_99 : decode b_M_meets 99 = .ok (.invokestatic 52, 3) := by decide +kernel
theorem d_M_meets_102 : decode b_M_meets 102 = .ok (.ifCond .eq 23, 3) := by decide +kernel
theorem d_M_meets_105 : decode b_M_meets 105 = .ok (.iload 4, 2) := by decide +kernel
theorem d_M_meets_107 : decode b_M_meets 107 = .ok (.ifCond .ne 21, 3) := by decide +kernel
theorem d_M_meets_110 : decode b_M_meets 110 = .ok (.iload 5, 2) := by decide +kernel
theorem d_M_meets_112 : decode b_M_meets 112 = .ok (.ifCond .ne 16, 3) := by decide +kernel
theorem d_M_meets_115 : decode b_M_meets 115 = .ok (.iload 7, 2) := by decide +kernel
theorem d_M_meets_117 : decode b_M_meets 117 = .ok (.ifCond .ne 8, 3) := by decide +kernel
theorem d_M_meets_120 : decode b_M_meets 120 = .ok (.iload 6, 2) := by decide +kernel
theorem d_M_meets_122 : decode b_M_meets 122 = .ok (.ifCond .ne 6, 3) := by decide +kernel
theorem d_M_meets_125 : decode b_M_meets 125 = .ok (.bipush (-2), 2) := by decide +kernel
theorem d_M_meets_127 : decode b_M_meets 127 = .ok (.ireturn, 1) := by decide +kernel
theorem d_M_meets_128 : decode b_M_meets 128 = .ok (.aload_n 0, 1) := by decide +kernel
theorem d_M_meets_129 : decode b_M_meets 129 = .ok (.getfield 39, 3) := by decide +kernel
theorem d_M_meets_132 : decode b_M_meets 132 = .ok (.iconst 0, 1) := by decide +kernel
theorem d_M_meets_133 : decode b_M_meets 133 = .ok (.lconst 1, 1) := by decide +kernel
theorem d_M_meets_134 : decode b_M_meets 134 = .ok (.lastore, 1) := by decide +kernel
theorem d_M_meets_135 : decode b_M_meets 135 = .ok (.aload_n 0, 1) := by decide +kernel
theorem d_M_meets_136 : decode b_M_meets 136 = .ok (.getfield 39, 3) := by decide +kernel
theorem d_M_meets_139 : decode b_M_meets 139 = .ok (.iconst 1, 1) := by decide +kernel
theorem d_M_meets_140 : decode b_M_meets 140 = .ok (.iload_n 1, 1) := by decide +kernel
theorem d_M_meets_141 : decode b_M_meets 141 = .ok (.i2l, 1) := by decide +kernel
theorem d_M_meets_142 : decode b_M_meets 142 = .ok (.lastore, 1) := by decide +kernel
theorem d_M_meets_143 : decode b_M_meets 143 = .ok (.aload_n 0, 1) := by decide +kernel
theorem d_M_meets_144 : decode b_M_meets 144 = .ok (.getfield 39, 3) := by decide +kernel
theorem d_M_meets_147 : decode b_M_meets 147 = .ok (.iconst 2, 1) := by decide +kernel
theorem d_M_meets_148 : decode b_M_meets 148 = .ok (.iload_n 2, 1) := by decide +kernel
theorem d_M_meets_149 : decode b_M_meets 149 = .ok (.i2l, 1) := by decide +kernel
theorem d_M_meets_150 : decode b_M_meets 150 = .ok (.lastore, 1) := by decide +kernel
theorem d_M_meets_151 : decode b_M_meets 151 = .ok (.aload_n 0, 1) := by decide +kernel
theorem d_M_meets_152 : decode b_M_meets 152 = .ok (.getfield 39, 3) := by decide +kernel
theorem d_M_meets_155 : decode b_M_meets 155 = .ok (.iconst 3, 1) := by decide +kernel
theorem d_M_meets_156 : decode b_M_meets 156 = .ok (.iload 7, 2) := by decide +kernel
theorem d_M_meets_158 : decode b_M_meets 158 = .ok (.ifCond .eq 7, 3) := by decide +kernel
theorem d_M_meets_161 : decode b_M_meets 161 = .ok (.lconst 0, 1) := by decide +kernel
theorem d_M_meets_162 : decode b_M_meets 162 = .ok (.goto 5, 3) := by decide +kernel
theorem d_M_meets_165 : decode b_M_meets 165 = .ok (.iload_n 3, 1) := by decide +kernel
theorem d_M_meets_166 : decode b_M_meets 166 = .ok (.i2l, 1) := by decide +kernel
theorem d_M_meets_167 : decode b_M_meets 167 = .ok (.lastore, 1) := by decide +kernel
theorem d_M_meets_168 : decode b_M_meets 168 = .ok (.aload_n 0, 1) := by decide +kernel
theorem d_M_meets_169 : decode b_M_meets 169 = .ok (.getfield 39, 3) := by decide +kernel
theorem d_M_meets_172 : decode b_M_meets 172 = .ok (.iconst 4, 1) := by decide +kernel
theorem d_M_meets_173 : decode b_M_meets 173 = .ok (.lconst 0, 1) := by decide +kernel
theorem d_M_meets_174 : decode b_M_meets 174 = .ok (.lastore, 1) := by decide +kernel
theorem d_M_meets_175 : decode b_M_meets 175 = .ok (.aload_n 0, 1) := by decide +kernel
theorem d_M_meets_176 : decode b_M_meets 176 = .ok (.getfield 39, 3) := by decide +kernel
theorem d_M_meets_179 : decode b_M_meets 179 = .ok (.iconst 5, 1) := by decide +kernel
theorem d_M_meets_180 : decode b_M_meets 180 = .ok (.iload 4, 2) := by decide +kernel
theorem d_M_meets_182 : decode b_M_meets 182 = .ok (.i2l, 1) := by decide +kernel
theorem d_M_meets_183 : decode b_M_meets 183 = .ok (.lastore, 1) := by decide +kernel
theorem d_M_meets_184 : decode b_M_meets 184 = .ok (.aload_n 0, 1) := by decide +kernel
theorem d_M_meets_185 : decode b_M_meets 185 = .ok (.getfield 39, 3) := by decide +kernel
theorem d_M_meets_188 : decode b_M_meets 188 = .ok (.bipush 6, 2) := by decide +kernel
theorem d_M_meets_190 : decode b_M_meets 190 = .ok (.iload 5, 2) := by decide +kernel
theorem d_M_meets_192 : decode b_M_meets 192 = .ok (.i2l, 1) := by decide +kernel
theorem d_M_meets_193 : decode b_M_meets 193 = .ok (.lastore, 1) := by decide +kernel
theorem d_M_meets_194 : decode b_M_meets 194 = .ok (.aload_n 0, 1) := by decide +kernel
theorem d_M_meets_195 : decode b_M_meets 195 = .ok (.getfield 39, 3) := by decide +kernel
theorem d_M_meets_198 : decode b_M_meets 198 = .ok (.bipush 7, 2) := by decide +kernel
theorem d_M_meets_200 : decode b_M_meets 200 = .ok (.iload 7, 2) := by decide +kernel
theorem d_M_meets_202 : decode b_M_meets 202 = .ok (.ifCond .eq 7, 3) := by decide +kernel
theorem d_M_meets_205 : decode b_M_meets 205 = .ok (.lconst 0, 1) := by decide +kernel
theorem d_M_meets_206 : decode b_M_meets 206 = .ok (.goto 6, 3) := by decide +kernel
theorem d_M_meets_209 : decode b_M_meets 209 = .ok (.iload 6, 2) := by decide +kernel
theorem d_M_meets_211 : decode b_M_meets 211 = .ok (.i2l, 1) := by decide +kernel
theorem d_M_meets_212 : decode b_M_meets 212 = .ok (.lastore, 1) := by decide +kernel
theorem d_M_meets_213 : decode b_M_meets 213 = .ok (.aload_n 0, 1) := by decide +kernel
theorem d_M_meets_214 : decode b_M_meets 214 = .ok (.iconst 1, 1) := by decide +kernel
theorem d_M_meets_215 : decode b_M_meets 215 = .ok (.iconst 1, 1) := by decide +kernel
theorem d_M_meets_216 : decode b_M_meets 216 = .ok (.invokevirtual 153, 3) := by decide +kernel
theorem d_M_meets_219 : decode b_M_meets 219 = .ok (.lstore 8, 2) := by decide +kernel
theorem d_M_meets_221 : decode b_M_meets 221 = .ok (.aload_n 0, 1) := by decide +kernel
theorem d_M_meets_222 : decode b_M_meets 222 = .ok (.iconst 0, 1) := by decide +kernel
theorem d_M_meets_223 : decode b_M_meets 223 = .ok (.iconst 1, 1) := by decide +kernel
theorem d_M_meets_224 : decode b_M_meets 224 = .ok (.invokevirtual 153, 3) := by decide +kernel
theorem d_M_meets_227 : decode b_M_meets 227 = .ok (.lstore 10, 2) := by decide +kernel
theorem d_M_meets_229 : decode b_M_meets 229 = .ok (.aload_n 0, 1) := by decide +kernel
theorem d_M_meets_230 : decode b_M_meets 230 = .ok (.iconst 0, 1) := by decide +kernel
theorem d_M_meets_231 : decode b_M_meets 231 = .ok (.iconst 0, 1) := by decide +kernel
theorem d_M_meets_232 : decode b_M_meets 232 = .ok (.invokevirtual 153, 3) := by decide +kernel
theorem d_M_meets_235 : decode b_M_meets 235 = .ok (.lstore 12, 2) := by decide +kernel
theorem d_M_meets_237 : decode b_M_meets 237 = .ok (.lload 8, 2) := by decide +kernel
theorem d_M_meets_239 : decode b_M_meets 239 = .ok (.lconst 0, 1) := by decide +kernel
theorem d_M_meets_240 : decode b_M_meets 240 = .ok (.lcmp, 1) := by decide +kernel
theorem d_M_meets_241 : decode b_M_meets 241 = .ok (.ifCond .ne 27, 3) := by decide +kernel
theorem d_M_meets_244 : decode b_M_meets 244 = .ok (.lload 10, 2) := by decide +kernel
theorem d_M_meets_246 : decode b_M_meets 246 = .ok (.lconst 0, 1) := by decide +kernel
theorem d_M_meets_247 : decode b_M_meets 247 = .ok (.lcmp, 1) := by decide +kernel
theorem d_M_meets_248 : decode b_M_meets 248 = .ok (.ifCond .eq 7, 3) := by decide +kernel
theorem d_M_meets_251 : decode b_M_meets 251 = .ok (.iconst 1, 1) := by decide +kernel
theorem d_M_meets_252 : decode b_M_meets 252 = .ok (.goto 15, 3) := by decide +kernel
theorem d_M_meets_255 : decode b_M_meets 255 = .ok (.lload 12, 2) := by decide +kernel
theorem d_M_meets_257 : decode b_M_meets 257 = .ok (.lconst 0, 1) := by decide +kernel
theorem d_M_meets_258 : decode b_M_meets 258 = .ok (.lcmp, 1) := by decide +kernel
theorem d_M_meets_259 : decode b_M_meets 259 = .ok (.ifCond .eq 7, 3) := by decide +kernel
theorem d_M_meets_262 : decode b_M_meets 262 = .ok (.iconst 0, 1) := by decide +kernel
theorem d_M_meets_263 : decode b_M_meets 263 = .ok (.goto 4, 3) := by decide +kernel
theorem d_M_meets_266 : decode b_M_meets 266 = .ok (.iconst 3, 1) := by decide +kernel
theorem d_M_meets_267 : decode b_M_meets 267 = .ok (.ireturn, 1) := by decide +kernel
theorem d_M_meets_268 : decode b_M_meets 268 = .ok (.lload 10, 2) := by decide +kernel
theorem d_M_meets_270 : decode b_M_meets 270 = .ok (.lload 10, 2) := by decide +kernel
theorem d_M_meets_272 : decode b_M_meets 272 = .ok (.lmul, 1) := by decide +kernel
theorem d_M_meets_273 : decode b_M_meets 273 = .ok (.lload 8, 2) := by decide +kernel
theorem d_M_meets_275 : decode b_M_meets 275 = .ok (.lload 12, 2) := by decide +kernel
theorem d_M_meets_277 : decode b_M_meets 277 = .ok (.lmul, 1) := by decide +kernel
theorem d_M_meets_278 : decode b_M_meets 278 = .ok (.lsub, 1) := by decide +kernel
theorem d_M_meets_279 : decode b_M_meets 279 = .ok (.lstore 14, 2) := by decide +kernel
theorem d_M_meets_281 : decode b_M_meets 281 = .ok (.lload 14, 2) := by decide +kernel
theorem d_M_meets_283 : decode b_M_meets 283 = .ok (.lconst 0, 1) := by decide +kernel
theorem d_M_meets_284 : decode b_M_meets 284 = .ok (.lcmp, 1) := by decide +kernel
theorem d_M_meets_285 : decode b_M_meets 285 = .ok (.ifCond .le 7, 3) := by decide +kernel
theorem d_M_meets_288 : decode b_M_meets 288 = .ok (.iconst 2, 1) := by decide +kernel
theorem d_M_meets_289 : decode b_M_meets 289 = .ok (.goto 15, 3) := by decide +kernel
theorem d_M_meets_292 : decode b_M_meets 292 = .ok (.lload 14, 2) := by decide +kernel
theorem d_M_meets_294 : decode b_M_meets 294 = .ok (.lconst 0, 1) := by decide +kernel
theorem d_M_meets_295 : decode b_M_meets 295 = .ok (.lcmp, 1) := by decide +kernel
theorem d_M_meets_296 : decode b_M_meets 296 = .ok (.ifCond .ne 7, 3) := by decide +kernel
theorem d_M_meets_299 : decode b_M_meets 299 = .ok (.iconst 1, 1) := by decide +kernel
theorem d_M_meets_300 : decode b_M_meets 300 = .ok (.goto 4, 3) := by decide +kernel
theorem d_M_meets_303 : decode b_M_meets 303 = .ok (.iconst 0, 1) := by decide +kernel
theorem d_M_meets_304 : decode b_M_meets 304 = .ok (.ireturn, 1) := by decide +kernel
theorem d_M_line_0 : decode b_M_line 0 = .ok (.aload_n 0, 1) := by decide +kernel
theorem d_M_line_1 : decode b_M_line 1 = .ok (.iconst 0, 1) := by decide +kernel
theorem d_M_line_2 : decode b_M_line 2 = .ok (.putfield 45, 3) := by decide +kernel
theorem d_M_line_5 : decode b_M_line 5 = .ok (.aload_n 0, 1) := by decide +kernel
theorem d_M_line_6 : decode b_M_line 6 = .ok (.getfield 7, 3) := by decide +kernel
theorem d_M_line_9 : decode b_M_line 9 = .ok (.iconst 3, 1) := by decide +kernel
theorem d_M_line_10 : decode b_M_line 10 = .ok (.if_icmp .eq 13, 3) := by decide +kernel
theorem d_M_line_13 : decode b_M_line 13 = .ok (.iload_n 2, 1) := by decide +kernel
theorem d_M_line_14 : decode b_M_line 14 = .ok (.i2l, 1) := by decide +kernel
theorem d_M_line_15 : decode b_M_line 15 = .ok (.iconst 0, 1) := by decide +kernel
theorem d_M_line_16 : decode b_M_line 16 = .ok (.iconst 2, 1) := by decide +kernel
theorem d_M_line_17 : decode b_M_line 17 = .ok (.invokestatic 52, 3) := by decide +kernel
theorem d_M_line_20 : decode b_M_line 20 = .ok (.ifCond .ne 7, 3) := by decide +kernel
theorem d_M_line_23 : decode b_M_line 23 = .ok (.ldc2_w 56, 3) := by decide +kernel
theorem d_M_line_26 : decode b_M_line 26 = .ok (.lreturn, 1) := by decide +kernel
theorem d_M_line_27 : decode b_M_line 27 = .ok (.aload_n 0, 1) := by decide +kernel
theorem d_M_line_28 : decode b_M_line 28 = .ok (.aload_n 0, 1) := by decide +kernel
theorem d_M_line_29 : decode b_M_line 29 = .ok (.invokevirtual 111, 3) := by decide +kernel
theorem d_M_line_32 : decode b_M_line 32 = .ok (.invokevirtual 172, 3) := by decide +kernel
theorem d_M_line_35 : decode b_M_line 35 = .ok (.iload_n 1, 1) := by decide +kernel
theorem d_M_line_36 : decode b_M_line 36 = .ok (.i2l, 1) := by decide +kernel
theorem d_M_line_37 : decode b_M_line 37 = .ok (.iconst 0, 1) := by decide +kernel
theorem d_M_line_38 : decode b_M_line 38 = .ok (.aload_n 0, 1) := by decide +kernel
theorem d_M_line_39 : decode b_M_line 39 = .ok (.getfield 156, 3) := by decide +kernel
theorem d_M_line_42 : decode b_M_line 42 = .ok (.iconst 1, 1) := by decide +kernel
theorem d_M_line_43 : decode b_M_line 43 = .ok (.isub, 1) := by decide +kernel
theorem d_M_line_44 : decode b_M_line 44 = .ok (.invokestatic 52, 3) := by decide +kernel
theorem d_M_line_47 : decode b_M_line 47 = .ok (.ifCond .ne 7, 3) := by decide +kernel
theorem d_M_line_50 : decode b_M_line 50 = .ok (.ldc2_w 56, 3) := by decide +kernel
theorem d_M_line_53 : decode b_M_line 53 = .ok (.lreturn, 1) := by decide +kernel
theorem d_M_line_54 : decode b_M_line 54 = .ok (.aload_n 0, 1) := by decide +kernel
theorem d_M_line_55 : decode b_M_line 55 = .ok (.getfield 156, 3) := by decide +kernel
theorem d_M_line_58 : decode b_M_line 58 = .ok (.iconst 2, 1) := by decide +kernel
theorem d_M_line_59 : decode b_M_line 59 = .ok (.if_icmp .ne 14, 3) := by decide +kernel
theorem d_M_line_62 : decode b_M_line 62 = .ok (.aload_n 0, 1) := by decide +kernel
theorem d_M_line_63 : decode b_M_line 63 = .ok (.invokevirtual 175, 3) := by decide +kernel
theorem d_M_line_66 : decode b_M_line 66 = .ok (.ifCond .eq 7, 3) := by decide +kernel
theorem d_M_line_69 : decode b_M_line 69 = .ok (.iconst 1, 1) := by decide +kernel
theorem d_M_line_70 : decode b_M_line 70 = .ok (.goto 4, 3) := by decide +kernel
theorem d_M_line_73 : decode b_M_line 73 = .ok (.iconst 0, 1) := by decide +kernel
theorem d_M_line_74 : decode b_M_line 74 = .ok (.istore_n 3, 1) := by decide +kernel
theorem d_M_line_75 : decode b_M_line 75 = .ok (.aload_n 0, 1) := by decide +kernel
theorem d_M_line_76 : decode b_M_line 76 = .ok (.getfield 42, 3) := by decide +kernel
theorem d_M_line_79 : decode b_M_line 79 = .ok (.iconst 3, 1) := by decide +kernel
theorem d_M_line_80 : decode b_M_line 80 = .ok (.iload_n 3, 1) := by decide +kernel
theorem d_M_line_81 : decode b_M_line 81 = .ok (.ifCond .eq 9, 3) := by decide +kernel
theorem d_M_line_84 : decode b_M_line 84 = .ok (.iconst 1, 1) := by decide +kernel
theorem d_M_line_85 : decode b_M_line 85 = .ok (.iload_n 1, 1) := by decide +kernel
theorem d_M_line_86 : decode b_M_line 86 = .ok (.isub, 1) := by decide +kernel
theorem d_M_line_87 : decode b_M_line 87 = .ok (.goto 4, 3) := by decide +kernel
theorem d_M_line_90 : decode b_M_line 90 = .ok (.iload_n 1, 1) := by decide +kernel
theorem d_M_line_91 : decode b_M_line 91 = .ok (.imul, 1) := by decide +kernel
theorem d_M_line_92 : decode b_M_line 92 = .ok (.iload_n 2, 1) := by decide +kernel
theorem d_M_line_93 : decode b_M_line 93 = .ok (.iadd, 1) := by decide +kernel
theorem d_M_line_94 : decode b_M_line 94 = .ok (.laload, 1) := by decide +kernel
theorem d_M_line_95 : decode b_M_line 95 = .ok (.lreturn, 1) := by decide +kernel
theorem d_M_findLines_0 : decode b_M_findLines 0 = .ok (.aload_n 0, 1) := by decide +kernel
theorem d_M_findLines_1 : decode b_M_findLines 1 = .ok (.iconst 0, 1) := by decide +kernel
theorem d_M_findLines_2 : decode b_M_findLines 2 = .ok (.putfield 156, 3) := by decide +kernel
theorem d_M_findLines_5 : decode b_M_findLines 5 = .ok (.iload_n 1, 1) := by decide +kernel
theorem d_M_findLines_6 : decode b_M_findLines 6 = .ok (.bipush 7, 2) := by decide +kernel
theorem d_M_findLines_8 : decode b_M_findLines 8 = .ok (.if_icmp .ne 45, 3) := by decide +kernel
theorem d_M_findLines_11 : decode b_M_findLines 11 = .ok (.aload_n 0, 1) := by decide +kernel
theorem d_M_findLines_12 : decode b_M_findLines 12 = .ok (.iconst 0, 1) := by decide +kernel
theorem d_M_findLines_13 : decode b_M_findLines 13 = .ok (.aload_n 0, 1) := by decide +kernel
theorem d_M_findLines_14 : decode b_M_findLines 14 = .ok (.getfield 13, 3) := by decide +kernel
theorem d_M_findLines_17 : decode b_M_findLines 17 = .ok (.iconst 0, 1) := by decide +kernel
theorem d_M_findLines_18 : decode b_M_findLines 18 = .ok (.iaload, 1) := by decide +kernel
theorem d_M_findLines_19 : decode b_M_findLines 19 = .ok (.i2l, 1) := by decide +kernel
theorem d_M_findLines_20 : decode b_M_findLines 20 = .ok (.ldc2_w 167, 3) := by decide +kernel
theorem d_M_findLines_23 : decode b_M_findLines 23 = .ok (.aload_n 0, 1) := by decide +kernel
theorem d_M_findLines_24 : decode b_M_findLines 24 = .ok (.getfield 13, 3) := by decide +kernel
theorem d_M_findLines_27 : decode b_M_findLines 27 = .ok (.iconst 1, 1) := by decide +kernel
theorem d_M_findLines_28 : decode b_M_findLines 28 = .ok (.iaload, 1) := by decide +kernel
theorem d_M_findLines_29 : decode b_M_findLines 29 = .ok (.i2l, 1) := by decide +kernel
theorem d_M_findLines_30 : decode b_M_findLines 30 = .ok (.lmul, 1) := by decide +kernel
theorem d_M_findLines_31 : decode b_M_findLines 31 = .ok (.ldc2_w 167, 3) := by decide +kernel
theorem d_M_findLines_34 : decode b_M_findLines 34 = .ok (.aload_n 0, 1) := by decide +kernel
theorem d_M_findLines_35 : decode b_M_findLines 35 = .ok (.getfield 13, 3) := by decide +kernel
theorem d_M_findLines_38 : decode b_M_findLines 38 = .ok (.iconst 2, 1) := by decide +kernel
theorem d_M_findLines_39 : decode b_M_findLines 39 = .ok (.iaload, 1) := by decide +kernel
theorem d_M_findLines_40 : decode b_M_findLines 40 = .ok (.i2l, 1) := by decide +kernel
theorem d_M_findLines_41 : decode b_M_findLines 41 = .ok (.lmul, 1) := by decide +kernel
theorem d_M_findLines_42 : decode b_M_findLines 42 = .ok (.invokevirtual 163, 3) := by decide +kernel
theorem d_M_findLines_45 : decode b_M_findLines 45 = .ok (.aload_n 0, 1) := by decide +kernel
theorem d_M_findLines_46 : decode b_M_findLines 46 = .ok (.iconst 1, 1) := by decide +kernel
theorem d_M_findLines_47 : decode b_M_findLines 47 = .ok (.putfield 156, 3) := by decide +kernel
theorem d_M_findLines_50 : decode b_M_findLines 50 = .ok (.goto 93, 3) := by decide +kernel
theorem d_M_findLines_53 : decode b_M_findLines 53 = .ok (.iload_n 1, 1) := by decide +kernel
theorem d_M_findLines_54 : decode b_M_findLines 54 = .ok (.bipush 9, 2) := by decide +kernel
theorem d_M_findLines_56 : decode b_M_findLines 56 = .ok (.if_icmp .ne 62, 3) := by decide +kernel
theorem d_M_findLines_59 : decode b_M_findLines 59 = .ok (.aload_n 0, 1) := by decide +kernel
theorem d_M_findLines_60 : decode b_M_findLines 60 = .ok (.getfield 13, 3) := by decide +kernel
theorem d_M_findLines_63 : decode b_M_findLines 63 = .ok (.iconst 5, 1) := by decide +kernel
theorem d_M_findLines_64 : decode b_M_findLines 64 = .ok (.iaload, 1) := by decide +kernel
theorem d_M_findLines_65 : decode b_M_findLines 65 = .ok (.ifCond .eq 7, 3) := by decide +kernel
theorem d_M_findLines_68 : decode b_M_findLines 68 = .ok (.iconst 1, 1) := by decide +kernel
theorem d_M_findLines_69 : decode b_M_findLines 69 = .ok (.goto 4, 3) := by decide +kernel
theorem d_M_findLines_72 : decode b_M_findLines 72 = .ok (.iconst 2, 1) := by decide +kernel
theorem d_M_findLines_73 : decode b_M_findLines 73 = .ok (.istore_n 2, 1) := by decide +kernel
theorem d_M_findLines_74 : decode b_M_findLines 74 = .ok (.aload_n 0, 1) := by decide +kernel
theorem d_M_findLines_75 : decode b_M_findLines 75 = .ok (.iconst 0, 1) := by decide +kernel
theorem d_M_findLines_76 : decode b_M_findLines 76 = .ok (.aload_n 0, 1) := by decide +kernel
theorem d_M_findLines_77 : decode b_M_findLines 77 = .ok (.getfield 13, 3) := by decide +kernel
theorem d_M_findLines_80 : decode b_M_findLines 80 = .ok (.iconst 4, 1) := by decide +kernel
theorem d_M_findLines_81 : decode b_M_findLines 81 = .ok (.iload_n 2, 1) := by decide +kernel
theorem d_M_findLines_82 : decode b_M_findLines 82 = .ok (.imul, 1) := by decide +kernel
theorem d_M_findLines_83 : decode b_M_findLines 83 = .ok (.iaload, 1) := by decide +kernel
theorem d_M_findLines_84 : decode b_M_findLines 84 = .ok (.i2l, 1) := by decide +kernel
theorem d_M_findLines_85 : decode b_M_findLines 85 = .ok (.aload_n 0, 1) := by decide +kernel
theorem d_M_findLines_86 : decode b_M_findLines 86 = .ok (.getfield 13, 3) := by decide +kernel
theorem d_M_findLines_89 : decode b_M_findLines 89 = .ok (.iconst 4, 1) := by decide +kernel
theorem d_M_findLines_90 : decode b_M_findLines 90 = .ok (.iload_n 2, 1) := by decide +kernel
theorem d_M_findLines_91 : decode b_M_findLines 91 = .ok (.imul, 1) := by decide +kernel
theorem d_M_findLines_92 : decode b_M_findLines 92 = .ok (.iconst 1, 1) := by decide +kernel
theorem d_M_findLines_93 : decode b_M_findLines 93 = .ok (.iadd, 1) := by decide +kernel
theorem d_M_findLines_94 : decode b_M_findLines 94 = .ok (.iaload, 1) := by decide +kernel
theorem d_M_findLines_95 : decode b_M_findLines 95 = .ok (.i2l, 1) := by decide +kernel
theorem d_M_findLines_96 : decode b_M_findLines 96 = .ok (.aload_n 0, 1) := by decide +kernel
theorem d_M_findLines_97 : decode b_M_findLines 97 = .ok (.getfield 13, 3) := by decide +kernel
theorem d_M_findLines_100 : decode b_M_findLines 100 = .ok (.iconst 4, 1) := by decide +kernel
theorem d_M_findLines_101 : decode b_M_findLines 101 = .ok (.iload_n 2, 1) := by decide +kernel
theorem d_M_findLines_102 : decode b_M_findLines 102 = .ok (.imul, 1) := by decide +kernel
theorem d_M_findLines_103 : decode b_M_findLines 103 = .ok (.iconst 2, 1) := by decide +kernel
theorem d_M_findLines_104 : decode b_M_findLines 104 = .ok (.iadd, 1) := by decide +kernel
theorem d_M_findLines_105 : decode b_M_findLines 105 = .ok (.iaload, 1) := by decide +kernel
theorem d_M_findLines_106 : decode b_M_findLines 106 = .ok (.i2l, 1) := by decide +kernel
theorem d_M_findLines_107 : decode b_M_findLines 107 = .ok (.invokevirtual 163, 3) := by decide +kernel
theorem d_M_findLines_110 : decode b_M_findLines 110 = .ok (.aload_n 0, 1) := by decide +kernel
theorem d_M_findLines_111 : decode b_M_findLines 111 = .ok (.iconst 1, 1) := by decide +kernel
theorem d_M_findLines_112 : decode b_M_findLines 112 = .ok (.putfield 156, 3) := by decide +kernel
theorem d_M_findLines_115 : decode b_M_findLines 115 = .ok (.goto 28, 3) := by decide +kernel
theorem d_M_findLines_118 : decode b_M_findLines 118 = .ok (.iload_n 1, 1) := by decide +kernel
theorem d_M_findLines_119 : decode b_M_findLines 119 = .ok (.iconst 5, 1) := by decide +kernel
theorem d_M_findLines_120 : decode b_M_findLines 120 = .ok (.if_icmp .eq 9, 3) := by decide +kernel
theorem d_M_findLines_123 : decode b_M_findLines 123 = .ok (.iload_n 1, 1) := by decide +kernel
theorem d_M_findLines_124 : decode b_M_findLines 124 = .ok (.bipush 6, 2) := by decide +kernel
theorem d_M_findLines_126 : decode b_M_findLines 126 = .ok (.if_icmp .ne 17, 3) := by decide +kernel
theorem d_M_findLines_129 : decode b_M_findLines 129 = .ok (.aload_n 0, 1) := by decide +kernel
theorem d_M_findLines_130 : decode b_M_findLines 130 = .ok (.iload_n 1, 1) := by decide +kernel
theorem d_M_findLines_131 : decode b_M_findLines 131 = .ok (.iconst 5, 1) := by decide +kernel
theorem d_M_findLines_132 : decode b_M_findLines 132 = .ok (.if_icmp .ne 7, 3) := by decide +kernel
theorem d_M_findLines_135 : decode b_M_findLines 135 = .ok (.iconst 1, 1) := by decide +kernel
theorem d_M_findLines_136 : decode b_M_findLines 136 = .ok (.goto 4, 3) := by decide +kernel
theorem d_M_findLines_139 : decode b_M_findLines 139 = .ok (.iconst 0, 1) := by decide +kernel
theorem d_M_findLines_140 : decode b_M_findLines 140 = .ok (.invokevirtual 169, 3) := by decide +kernel
theorem d_M_findLines_143 : decode b_M_findLines 143 = .ok (.return_, 1) := by decide +kernel
theorem d_M_setLine_0 : decode b_M_setLine 0 = .ok (.aload_n 0, 1) := by decide +kernel
theorem d_M_setLine_1 : decode b_M_setLine 1 = .ok (.getfield 36, 3) := by decide +kernel
theorem d_M_setLine_4 : decode b_M_setLine 4 = .ok (.iconst 0, 1) := by decide +kernel
theorem d_M_setLine_5 : decode b_M_setLine 5 = .ok (.lload_n 2, 1) := by decide +kernel
theorem d_M_setLine_6 : decode b_M_setLine 6 = .ok (.lastore, 1) := by decide +kernel
theorem d_M_setLine_7 : decode b_M_setLine 7 = .ok (.aload_n 0, 1) := by decide +kernel
theorem d_M_setLine_8 : decode b_M_setLine 8 = .ok (.getfield 36, 3) := by decide +kernel
theorem d_M_setLine_11 : decode b_M_setLine 11 = .ok (.iconst 1, 1) := by decide +kernel
theorem d_M_setLine_12 : decode b_M_setLine 12 = .ok (.lload 4, 2) := by decide +kernel
theorem d_M_setLine_14 : decode b_M_setLine 14 = .ok (.lastore, 1) := by decide +kernel
theorem d_M_setLine_15 : decode b_M_setLine 15 = .ok (.aload_n 0, 1) := by decide +kernel
theorem d_M_setLine_16 : decode b_M_setLine 16 = .ok (.getfield 36, 3) := by decide +kernel
theorem d_M_setLine_19 : decode b_M_setLine 19 = .ok (.iconst 2, 1) := by decide +kernel
theorem d_M_setLine_20 : decode b_M_setLine 20 = .ok (.lload 6, 2) := by decide +kernel
theorem d_M_setLine_22 : decode b_M_setLine 22 = .ok (.lastore, 1) := by decide +kernel
theorem d_M_setLine_23 : decode b_M_setLine 23 = .ok (.iconst 0, 1) := by decide +kernel
theorem d_M_setLine_24 : decode b_M_setLine 24 = .ok (.istore 8, 2) := by decide +kernel
theorem d_M_setLine_26 : decode b_M_setLine 26 = .ok (.iload 8, 2) := by decide +kernel
theorem d_M_setLine_28 : decode b_M_setLine 28 = .ok (.iconst 3, 1) := by decide +kernel
theorem d_M_setLine_29 : decode b_M_setLine 29 = .ok (.if_icmp .ge 27, 3) := by decide +kernel
theorem d_M_setLine_32 : decode b_M_setLine 32 = .ok (.aload_n 0, 1) := by decide +kernel
theorem d_M_setLine_33 : decode b_M_setLine 33 = .ok (.getfield 42, 3) := by decide +kernel
theorem d_M_setLine_36 : decode b_M_setLine 36 = .ok (.iconst 3, 1) := by decide +kernel
theorem d_M_setLine_37 : decode b_M_setLine 37 = .ok (.iload_n 1, 1) := by decide +kernel
theorem d_M_setLine_38 : decode b_M_setLine 38 = .ok (.imul, 1) := by decide +kernel
theorem d_M_setLine_39 : decode b_M_setLine 39 = .ok (.iload 8, 2) := by decide +kernel
theorem d_M_setLine_41 : decode b_M_setLine 41 = .ok (.iadd, 1) := by decide +kernel
theorem d_M_setLine_42 : decode b_M_setLine 42 = .ok (.aload_n 0, 1) := by decide +kernel
theorem d_M_setLine_43 : decode b_M_setLine 43 = .ok (.iconst 3, 1) := by decide +kernel
theorem d_M_setLine_44 : decode b_M_setLine 44 = .ok (.iload 8, 2) := by decide +kernel
theorem d_M_setLine_46 : decode b_M_setLine 46 = .ok (.invokevirtual 141, 3) := by decide +kernel
theorem d_M_setLine_49 : decode b_M_setLine 49 = .ok (.lastore, 1) := by decide +kernel
theorem d_M_setLine_50 : decode b_M_setLine 50 = .ok (.iinc 8 1, 3) := by decide +kernel
theorem d_M_setLine_53 : decode b_M_setLine 53 = .ok (.goto (-27), 3) := by decide +kernel
theorem d_M_setLine_56 : decode b_M_setLine 56 = .ok (.return_, 1) := by decide +kernel
theorem d_M_findTwo_0 : decode b_M_findTwo 0 = .ok (.aload_n 0, 1) := by decide +kernel
theorem d_M_findTwo_1 : decode b_M_findTwo 1 = .ok (.getfield 13, 3) := by decide +kernel
theorem d_M_findTwo_4 : decode b_M_findTwo 4 = .ok (.iconst 5, 1) := by decide +kernel
theorem d_M_findTwo_5 : decode b_M_findTwo 5 = .ok (.iaload, 1) := by decide +kernel
theorem d_M_findTwo_6 : decode b_M_findTwo 6 = .ok (.i2l, 1) := by decide +kernel
theorem d_M_findTwo_7 : decode b_M_findTwo 7 = .ok (.lstore_n 2, 1) := by decide +kernel
theorem d_M_findTwo_8 : decode b_M_findTwo 8 = .ok (.aload_n 0, 1) := by decide +kernel
theorem d_M_findTwo_9 : decode b_M_findTwo 9 = .ok (.getfield 13, 3) := by decide +kernel
theorem d_M_findTwo_12 : decode b_M_findTwo 12 = .ok (.bipush 6, 2) := by decide +kernel
theorem d_M_findTwo_14 : decode b_M_findTwo 14 = .ok (.iaload, 1) := by decide +kernel
theorem d_M_findTwo_15 : decode b_M_findTwo 15 = .ok (.i2l, 1) := by decide +kernel
theorem d_M_findTwo_16 : decode b_M_findTwo 16 = .ok (.lstore 4, 2) := by decide +kernel
theorem d_M_findTwo_18 : decode b_M_findTwo 18 = .ok (.aload_n 0, 1) := by decide +kernel
theorem d_M_findTwo_19 : decode b_M_findTwo 19 = .ok (.getfield 13, 3) := by decide +kernel
theorem d_M_findTwo_22 : decode b_M_findTwo 22 = .ok (.bipush 10, 2) := by decide +kernel
theorem d_M_findTwo_24 : decode b_M_findTwo 24 = .ok (.iaload, 1) := by decide +kernel
theorem d_M_findTwo_25 : decode b_M_findTwo 25 = .ok (.i2l, 1) := by decide +kernel
theorem d_M_findTwo_26 : decode b_M_findTwo 26 = .ok (.lstore 6, 2) := by decide +kernel
theorem d_M_findTwo_28 : decode b_M_findTwo 28 = .ok (.aload_n 0, 1) := by decide +kernel
theorem d_M_findTwo_29 : decode b_M_findTwo 29 = .ok (.getfield 13, 3) := by decide +kernel
theorem d_M_findTwo_32 : decode b_M_findTwo 32 = .ok (.iconst 1, 1) := by decide +kernel
theorem d_M_findTwo_33 : decode b_M_findTwo 33 = .ok (.iaload, 1) := by decide +kernel
theorem d_M_findTwo_34 : decode b_M_findTwo 34 = .ok (.i2l, 1) := by decide +kernel
theorem d_M_findTwo_35 : decode b_M_findTwo 35 = .ok (.lstore 8, 2) := by decide +kernel
theorem d_M_findTwo_37 : decode b_M_findTwo 37 = .ok (.aload_n 0, 1) := by decide +kernel
theorem d_M_findTwo_38 : decode b_M_findTwo 38 = .ok (.getfield 13, 3) := by decide +kernel
theorem d_M_findTwo_41 : decode b_M_findTwo 41 = .ok (.iconst 2, 1) := by decide +kernel
theorem d_M_findTwo_42 : decode b_M_findTwo 42 = .ok (.iaload, 1) := by decide +kernel
theorem d_M_findTwo_43 : decode b_M_findTwo 43 = .ok (.i2l, 1) := by decide +kernel
theorem d_M_findTwo_44 : decode b_M_findTwo 44 = .ok (.lstore 10, 2) := by decide +kernel
theorem d_M_findTwo_46 : decode b_M_findTwo 46 = .ok (.aload_n 0, 1) := by decide +kernel
theorem d_M_findTwo_47 : decode b_M_findTwo 47 = .ok (.iconst 2, 1) := by decide +kernel
theorem d_M_findTwo_48 : decode b_M_findTwo 48 = .ok (.putfield 156, 3) := by decide +kernel
theorem d_M_findTwo_51 : decode b_M_findTwo 51 = .ok (.iload_n 1, 1) := by decide +kernel
theorem d_M_findTwo_52 : decode b_M_findTwo 52 = .ok (.ifCond .ne 128, 3) := by decide +kernel
theorem d_M_findTwo_55 : decode b_M_findTwo 55 = .ok (.lload_n 2, 1) := by decide +kernel
theorem d_M_findTwo_56 : decode b_M_findTwo 56 = .ok (.lconst 0, 1) := by decide +kernel
theorem d_M_findTwo_57 : decode b_M_findTwo 57 = .ok (.lcmp, 1) := by decide +kernel
theorem d_M_findTwo_58 : decode b_M_findTwo 58 = .ok (.ifCond .eq 24, 3) := by decide +kernel
theorem d_M_findTwo_61 : decode b_M_findTwo 61 = .ok (.lload 8, 2) := by decide +kernel
theorem d_M_findTwo_63 : decode b_M_findTwo 63 = .ok (.lload 8, 2) := by decide +kernel
theorem d_M_findTwo_65 : decode b_M_findTwo 65 = .ok (.lmul, 1) := by decide +kernel
theorem d_M_findTwo_66 : decode b_M_findTwo 66 = .ok (.lload_n 2, 1) := by decide +kernel
theorem d_M_findTwo_67 : decode b_M_findTwo 67 = .ok (.aload_n 0, 1) := by decide +kernel
theorem d_M_findTwo_68 : decode b_M_findTwo 68 = .ok (.getfield 13, 3) := by decide +kernel
theorem d_M_findTwo_71 : decode b_M_findTwo 71 = .ok (.iconst 0, 1) := by decide +kernel
theorem d_M_findTwo_72 : decode b_M_findTwo 72 = .ok (.iaload, 1) := by decide +kernel
theorem d_M_findTwo_73 : decode b_M_findTwo 73 = .ok (.i2l, 1) := by decide +kernel
theorem d_M_findTwo_74 : decode b_M_findTwo 74 = .ok (.lmul, 1) := by decide +kernel
theorem d_M_findTwo_75 : decode b_M_findTwo 75 = .ok (.lsub, 1) := by decide +kernel
theorem d_M_findTwo_76 : decode b_M_findTwo 76 = .ok (.invokestatic 159, 3) := by decide +kernel
theorem d_M_findTwo_79 : decode b_M_findTwo 79 = .ok (.goto 22, 3) := by decide +kernel
theorem d_M_findTwo_82 : decode b_M_findTwo 82 = .ok (.lload 10, 2) := by decide +kernel
theorem d_M_findTwo_84 : decode b_M_findTwo 84 = .ok (.lload 10, 2) := by decide +kernel
theorem d_M_findTwo_86 : decode b_M_findTwo 86 = .ok (.lmul, 1) := by decide +kernel
theorem d_M_findTwo_87 : decode b_M_findTwo 87 = .ok (.lload 6, 2) := by decide +kernel
theorem d_M_findTwo_89 : decode b_M_findTwo 89 = .ok (.aload_n 0, 1) := by decide +kernel
theorem d_M_findTwo_90 : decode b_M_findTwo 90 = .ok (.getfield 13, 3) := by decide +kernel
theorem d_M_findTwo_93 : decode b_M_findTwo 93 = .ok (.iconst 0, 1) := by decide +kernel
theorem d_M_findTwo_94 : decode b_M_findTwo 94 = .ok (.iaload, 1) := by decide +kernel
theorem d_M_findTwo_95 : decode b_M_findTwo 95 = .ok (.i2l, 1) := by decide +kernel
theorem d_M_findTwo_96 : decode b_M_findTwo 96 = .ok (.lmul, 1) := by decide +kernel
theorem d_M_findTwo_97 : decode b_M_findTwo 97 = .ok (.lsub, 1) := by decide +kernel
theorem d_M_findTwo_98 : decode b_M_findTwo 98 = .ok (.invokestatic 159, 3) := by decide +kernel
theorem d_M_findTwo_101 : decode b_M_findTwo 101 = .ok (.lstore 12, 2) := by decide +kernel
theorem d_M_findTwo_103 : decode b_M_findTwo 103 = .ok (.lload 12, 2) := by decide +kernel
theorem d_M_findTwo_105 : decode b_M_findTwo 105 = .ok (.lconst 0, 1) := by decide +kernel
theorem d_M_findTwo_106 : decode b_M_findTwo 106 = .ok (.lcmp, 1) := by decide +kernel
theorem d_M_findTwo_107 : decode b_M_findTwo 107 = .ok (.ifCond .ge 11, 3) := by decide +kernel
theorem d_M_findTwo_110 : decode b_M_findTwo 110 = .ok (.aload_n 0, 1) := by decide +kernel
theorem d_M_findTwo_111 : decode b_M_findTwo 111 = .ok (.iconst 0, 1) := by decide +kernel
theorem d_M_findTwo_112 : decode b_M_findTwo 112 = .ok (.putfield 156, 3) := by decide +kernel
theorem d_M_findTwo_115 : decode b_M_findTwo 115 = .ok (.goto 64, 3) := by decide +kernel
theorem d_M_findTwo_118 : decode b_M_findTwo 118 = .ok (.lload_n 2, 1) := by decide +kernel
theorem d_M_findTwo_119 : decode b_M_findTwo 119 = .ok (.lconst 0, 1) := by decide +kernel
theorem d_M_findTwo_120 : decode b_M_findTwo 120 = .ok (.lcmp, 1) := by decide +kernel
theorem d_M_findTwo_121 : decode b_M_findTwo 121 = .ok (.ifCond .eq 32, 3) := by decide +kernel
theorem d_M_findTwo_124 : decode b_M_findTwo 124 = .ok (.aload_n 0, 1) := by decide +kernel
theorem d_M_findTwo_125 : decode b_M_findTwo 125 = .ok (.iconst 0, 1) := by decide +kernel
theorem d_M_findTwo_126 : decode b_M_findTwo 126 = .ok (.lload 8, 2) := by decide +kernel
theorem d_M_findTwo_128 : decode b_M_findTwo 128 = .ok (.lload 12, 2) := by decide +kernel
theorem d_M_findTwo_130 : decode b_M_findTwo 130 = .ok (.ladd, 1) := by decide +kernel
theorem d_M_findTwo_131 : decode b_M_findTwo 131 = .ok (.lload_n 2, 1) := by decide +kernel
theorem d_M_findTwo_132 : decode b_M_findTwo 132 = .ok (.lload 4, 2) := by decide +kernel
theorem d_M_findTwo_134 : decode b_M_findTwo 134 = .ok (.invokevirtual 163, 3) := by decide +kernel
theorem d_M_findTwo_137 : decode b_M_findTwo 137 = .ok (.aload_n 0, 1) := by decide +kernel
theorem d_M_findTwo_138 : decode b_M_findTwo 138 = .ok (.iconst 1, 1) := by decide +kernel
theorem d_M_findTwo_139 : decode b_M_findTwo 139 = .ok (.lload 8, 2) := by decide +kernel
theorem d_M_findTwo_141 : decode b_M_findTwo 141 = .ok (.lload 12, 2) := by decide +kernel
theorem d_M_findTwo_143 : decode b_M_findTwo 143 = .ok (.lsub, 1) := by decide +kernel
theorem d_M_findTwo_144 : decode b_M_findTwo 144 = .ok (.lload_n 2, 1) := by decide +kernel
theorem d_M_findTwo_145 : decode b_M_findTwo 145 = .ok (.lload 4, 2) := by decide +kernel
theorem d_M_findTwo_147 : decode b_M_findTwo 147 = .ok (.invokevirtual 163, 3) := by decide +kernel
theorem d_M_findTwo_150 : decode b_M_findTwo 150 = .ok (.goto 29, 3) := by decide +kernel
theorem d_M_findTwo_153 : decode b_M_findTwo 153 = .ok (.aload_n 0, 1) := by decide +kernel
theorem d_M_findTwo_154 : decode b_M_findTwo 154 = .ok (.iconst 0, 1) := by decide +kernel
theorem d_M_findTwo_155 : decode b_M_findTwo 155 = .ok (.lload 10, 2) := by decide +kernel
theorem d_M_findTwo_157 : decode b_M_findTwo 157 = .ok (.lload 12, 2) := by decide +kernel
theorem d_M_findTwo_159 : decode b_M_findTwo 159 = .ok (.ladd, 1) := by decide +kernel
theorem d_M_findTwo_160 : decode b_M_findTwo 160 = .ok (.lconst 0, 1) := by decide +kernel
theorem d_M_findTwo_161 : decode b_M_findTwo 161 = .ok (.lload 6, 2) := by decide +kernel
theorem d_M_findTwo_163 : decode b_M_findTwo 163 = .ok (.invokevirtual 163, 3) := by decide +kernel
theorem d_M_findTwo_166 : decode b_M_findTwo 166 = .ok (.aload_n 0, 1) := by decide +kernel
theorem d_M_findTwo_167 : decode b_M_findTwo 167 = .ok (.iconst 1, 1) := by decide +kernel
theorem d_M_findTwo_168 : decode b_M_findTwo 168 = .ok (.lload 10, 2) := by decide +kernel
theorem d_M_findTwo_170 : decode b_M_findTwo 170 = .ok (.lload 12, 2) := by decide +kernel
theorem d_M_findTwo_172 : decode b_M_findTwo 172 = .ok (.lsub, 1) := by decide +kernel
theorem d_M_findTwo_173 : decode b_M_findTwo 173 = .ok (.lconst 0, 1) := by decide +kernel
theorem d_M_findTwo_174 : decode b_M_findTwo 174 = .ok (.lload 6, 2) := by decide +kernel
theorem d_M_findTwo_176 : decode b_M_findTwo 176 = .ok (.invokevirtual 163, 3) := by decide +kernel
theorem d_M_findTwo_179 : decode b_M_findTwo 179 = .ok (.return_, 1) := by decide +kernel
theorem d_M_findTwo_180 : decode b_M_findTwo 180 = .ok (.lload 4, 2) := by decide +kernel
theorem d_M_findTwo_182 : decode b_M_findTwo 182 = .ok (.lload 4, 2) := by decide +kernel
theorem d_M_findTwo_184 : decode b_M_findTwo 184 = .ok (.lmul, 1) := by decide +kernel
theorem d_M_findTwo_185 : decode b_M_findTwo 185 = .ok (.lload_n 2, 1) := by decide +kernel
theorem d_M_findTwo_186 : decode b_M_findTwo 186 = .ok (.lload 6, 2) := by decide +kernel
theorem d_M_findTwo_188 : decode b_M_findTwo 188 = .ok (.lmul, 1) := by decide +kernel
theorem d_M_findTwo_189 : decode b_M_findTwo 189 = .ok (.lsub, 1) := by decide +kernel
theorem d_M_findTwo_190 : decode b_M_findTwo 190 = .ok (.invokestatic 159, 3) := by decide +kernel
theorem d_M_findTwo_193 : decode b_M_findTwo 193 = .ok (.lstore 12, 2) := by decide +kernel
theorem d_M_findTwo_195 : decode b_M_findTwo 195 = .ok (.lload 12, 2) := by decide +kernel
theorem d_M_findTwo_197 : decode b_M_findTwo 197 = .ok (.lconst 0, 1) := by decide +kernel
theorem d_M_findTwo_198 : decode b_M_findTwo 198 = .ok (.lcmp, 1) := by decide +kernel
theorem d_M_findTwo_199 : decode b_M_findTwo 199 = .ok (.ifCond .ge 11, 3) := by decide +kernel
theorem d_M_findTwo_202 : decode b_M_findTwo 202 = .ok (.aload_n 0, 1) := by decide +kernel
theorem d_M_findTwo_203 : decode b_M_findTwo 203 = .ok (.iconst 0, 1) := by decide +kernel
theorem d_M_findTwo_204 : decode b_M_findTwo 204 = .ok (.putfield 156, 3) := by decide +kernel
theorem d_M_findTwo_207 : decode b_M_findTwo 207 = .ok (.goto 166, 3) := by decide +kernel
theorem d_M_findTwo_210 : decode b_M_findTwo 210 = .ok (.lload_n 2, 1) := by decide +kernel
theorem d_M_findTwo_211 : decode b_M_findTwo 211 = .ok (.lconst 0, 1) := by decide +kernel
theorem d_M_findTwo_212 : decode b_M_findTwo 212 = .ok (.lcmp, 1) := by decide +kernel
theorem d_M_findTwo_213 : decode b_M_findTwo 213 = .ok (.ifCond .eq 66, 3) := by decide +kernel
theorem d_M_findTwo_216 : decode b_M_findTwo 216 = .ok (.aload_n 0, 1) := by decide +kernel
theorem d_M_findTwo_217 : decode b_M_findTwo 217 = .ok (.iconst 0, 1) := by decide +kernel
theorem d_M_findTwo_218 : decode b_M_findTwo 218 = .ok (.lload 8, 2) := by decide +kernel
theorem d_M_findTwo_220 : decode b_M_findTwo 220 = .ok (.lload 4, 2) := by decide +kernel
theorem d_M_findTwo_222 : decode b_M_findTwo 222 = .ok (.lload 12, 2) := by decide +kernel
theorem d_M_findTwo_224 : decode b_M_findTwo 224 = .ok (.ladd, 1) := by decide +kernel
theorem d_M_findTwo_225 : decode b_M_findTwo 225 = .ok (.lmul, 1) := by decide +kernel
theorem d_M_findTwo_226 : decode b_M_findTwo 226 = .ok (.lload_n 2, 1) := by decide +kernel
theorem d_M_findTwo_227 : decode b_M_findTwo 227 = .ok (.lload 10, 2) := by decide +kernel
theorem d_M_findTwo_229 : decode b_M_findTwo 229 = .ok (.lmul, 1) := by decide +kernel
theorem d_M_findTwo_230 : decode b_M_findTwo 230 = .ok (.lsub, 1) := by decide +kernel
theorem d_M_findTwo_231 : decode b_M_findTwo 231 = .ok (.lload 12, 2) := by decide +kernel
theorem d_M_findTwo_233 : decode b_M_findTwo 233 = .ok (.lload_n 2, 1) := by decide +kernel
theorem d_M_findTwo_234 : decode b_M_findTwo 234 = .ok (.lmul, 1) := by decide +kernel
theorem d_M_findTwo_235 : decode b_M_findTwo 235 = .ok (.lload 12, 2) := by decide +kernel
theorem d_M_findTwo_237 : decode b_M_findTwo 237 = .ok (.lload 4, 2) := by decide +kernel
theorem d_M_findTwo_239 : decode b_M_findTwo 239 = .ok (.lload 12, 2) := by decide +kernel
theorem d_M_findTwo_241 : decode b_M_findTwo 241 = .ok (.ladd, 1) := by decide +kernel
theorem d_M_findTwo_242 : decode b_M_findTwo 242 = .ok (.lmul, 1) := by decide +kernel
theorem d_M_findTwo_243 : decode b_M_findTwo 243 = .ok (.invokevirtual 163, 3) := by decide +kernel
theorem d_M_findTwo_246 : decode b_M_findTwo 246 = .ok (.aload_n 0, 1) := by decide +kernel
theorem d_M_findTwo_247 : decode b_M_findTwo 247 = .ok (.iconst 1, 1) := by decide +kernel
theorem d_M_findTwo_248 : decode b_M_findTwo 248 = .ok (.lload_n 2, 1) := by decide +kernel
theorem d_M_findTwo_249 : decode b_M_findTwo 249 = .ok (.lload 10, 2) := by decide +kernel
theorem d_M_findTwo_251 : decode b_M_findTwo 251 = .ok (.lmul, 1) := by decide +kernel
theorem d_M_findTwo_252 : decode b_M_findTwo 252 = .ok (.lload 8, 2) := by decide +kernel
theorem d_M_findTwo_254 : decode b_M_findTwo 254 = .ok (.lload 4, 2) := by decide +kernel
theorem d_M_findTwo_256 : decode b_M_findTwo 256 = .ok (.lload 12, 2) := by decide +kernel
theorem d_M_findTwo_258 : decode b_M_findTwo 258 = .ok (.lsub, 1) := by decide +kernel
theorem d_M_findTwo_259 : decode b_M_findTwo 259 = .ok (.lmul, 1) := by decide +kernel
theorem d_M_findTwo_260 : decode b_M_findTwo 260 = .ok (.lsub, 1) := by decide +kernel
theorem d_M_findTwo_261 : decode b_M_findTwo 261 = .ok (.lload 12, 2) := by decide +kernel
theorem d_M_findTwo_263 : decode b_M_findTwo 263 = .ok (.lload_n 2, 1) := by decide +kernel
theorem d_M_findTwo_264 : decode b_M_findTwo 264 = .ok (.lmul, 1) := by decide +kernel
theorem d_M_findTwo_265 : decode b_M_findTwo 265 = .ok (.lload 12, 2) := by decide +kernel
theorem d_M_findTwo_267 : decode b_M_findTwo 267 = .ok (.lload 4, 2) := by decide +kernel
theorem d_M_findTwo_269 : decode b_M_findTwo 269 = .ok (.lload 12, 2) := by decide +kernel
theorem d_M_findTwo_271 : decode b_M_findTwo 271 = .ok (.lsub, 1) := by decide +kernel
theorem d_M_findTwo_272 : decode b_M_findTwo 272 = .ok (.lmul, 1) := by decide +kernel
theorem d_M_findTwo_273 : decode b_M_findTwo 273 = .ok (.invokevirtual 163, 3) := by decide +kernel
theorem d_M_findTwo_276 : decode b_M_findTwo 276 = .ok (.goto 97, 3) := by decide +kernel
theorem d_M_findTwo_279 : decode b_M_findTwo 279 = .ok (.lload 6, 2) := by decide +kernel
theorem d_M_findTwo_281 : decode b_M_findTwo 281 = .ok (.lconst 0, 1) := by decide +kernel
theorem d_M_findTwo_282 : decode b_M_findTwo 282 = .ok (.lcmp, 1) := by decide +kernel
theorem d_M_findTwo_283 : decode b_M_findTwo 283 = .ok (.ifCond .eq 70, 3) := by decide +kernel
theorem d_M_findTwo_286 : decode b_M_findTwo 286 = .ok (.aload_n 0, 1) := by decide +kernel
theorem d_M_findTwo_287 : decode b_M_findTwo 287 = .ok (.iconst 0, 1) := by decide +kernel
theorem d_M_findTwo_288 : decode b_M_findTwo 288 = .ok (.lload 10, 2) := by decide +kernel
theorem d_M_findTwo_290 : decode b_M_findTwo 290 = .ok (.lload 4, 2) := by decide +kernel
theorem d_M_findTwo_292 : decode b_M_findTwo 292 = .ok (.lload 12, 2) := by decide +kernel
theorem d_M_findTwo_294 : decode b_M_findTwo 294 = .ok (.ladd, 1) := by decide +kernel
theorem d_M_findTwo_295 : decode b_M_findTwo 295 = .ok (.lmul, 1) := by decide +kernel
theorem d_M_findTwo_296 : decode b_M_findTwo 296 = .ok (.lload 6, 2) := by decide +kernel
theorem d_M_findTwo_298 : decode b_M_findTwo 298 = .ok (.lload 8, 2) := by decide +kernel
theorem d_M_findTwo_300 : decode b_M_findTwo 300 = .ok (.lmul, 1) := by decide +kernel
theorem d_M_findTwo_301 : decode b_M_findTwo 301 = .ok (.lsub, 1) := by decide +kernel
theorem d_M_findTwo_302 : decode b_M_findTwo 302 = .ok (.lload 12, 2) := by decide +kernel
theorem d_M_findTwo_304 : decode b_M_findTwo 304 = .ok (.lload 4, 2) := by decide +kernel
theorem d_M_findTwo_306 : decode b_M_findTwo 306 = .ok (.lload 12, 2) := by decide +kernel
theorem d_M_findTwo_308 : decode b_M_findTwo 308 = .ok (.ladd, 1) := by decide +kernel
theorem d_M_findTwo_309 : decode b_M_findTwo 309 = .ok (.lmul, 1) := by decide +kernel
theorem d_M_findTwo_310 : decode b_M_findTwo 310 = .ok (.lload 12, 2) := by decide +kernel
theorem d_M_findTwo_312 : decode b_M_findTwo 312 = .ok (.lload 6, 2) := by decide +kernel
theorem d_M_findTwo_314 : decode b_M_findTwo 314 = .ok (.lmul, 1) := by decide +kernel
theorem d_M_findTwo_315 : decode b_M_findTwo 315 = .ok (.invokevirtual 163, 3) := by decide +kernel
theorem d_M_findTwo_318 : decode b_M_findTwo 318 = .ok (.aload_n 0, 1) := by decide +kernel
theorem d_M_findTwo_319 : decode b_M_findTwo 319 = .ok (.iconst 1, 1) := by decide +kernel
theorem d_M_findTwo_320 : decode b_M_findTwo 320 = .ok (.lload 6, 2) := by decide +kernel
theorem d_M_findTwo_322 : decode b_M_findTwo 322 = .ok (.lload 8, 2) := by decide +kernel
theorem d_M_findTwo_324 : decode b_M_findTwo 324 = .ok (.lmul, 1) := by decide +kernel
theorem d_M_findTwo_325 : decode b_M_findTwo 325 = .ok (.lload 10, 2) := by decide +kernel
theorem d_M_findTwo_327 : decode b_M_findTwo 327 = .ok (.lload 4, 2) := by decide +kernel
theorem d_M_findTwo_329 : decode b_M_findTwo 329 = .ok (.lload 12, 2) := by decide +kernel
theorem d_M_findTwo_331 : decode b_M_findTwo 331 = .ok (.lsub, 1) := by decide +kernel
theorem d_M_findTwo_332 : decode b_M_findTwo 332 = .ok (.lmul, 1) := by decide +kernel
theorem d_M_findTwo_333 : decode b_M_findTwo 333 = .ok (.lsub, 1) := by decide +kernel
theorem d_M_findTwo_334 : decode b_M_findTwo 334 = .ok (.lload 12, 2) := by decide +kernel
theorem d_M_findTwo_336 : decode b_M_findTwo 336 = .ok (.lload 4, 2) := by decide +kernel
theorem d_M_findTwo_338 : decode b_M_findTwo 338 = .ok (.lload 12, 2) := by decide +kernel
theorem d_M_findTwo_340 : decode b_M_findTwo 340 = .ok (.lsub, 1) := by decide +kernel
theorem d_M_findTwo_341 : decode b_M_findTwo 341 = .ok (.lmul, 1) := by decide +kernel
theorem d_M_findTwo_342 : decode b_M_findTwo 342 = .ok (.lload 12, 2) := by decide +kernel
theorem d_M_findTwo_344 : decode b_M_findTwo 344 = .ok (.lload 6, 2) := by decide +kernel
theorem d_M_findTwo_346 : decode b_M_findTwo 346 = .ok (.lmul, 1) := by decide +kernel
theorem d_M_findTwo_347 : decode b_M_findTwo 347 = .ok (.invokevirtual 163, 3) := by decide +kernel
theorem d_M_findTwo_350 : decode b_M_findTwo 350 = .ok (.goto 23, 3) := by decide +kernel
theorem d_M_findTwo_353 : decode b_M_findTwo 353 = .ok (.aload_n 0, 1) := by decide +kernel
theorem d_M_findTwo_354 : decode b_M_findTwo 354 = .ok (.iconst 0, 1) := by decide +kernel
theorem d_M_findTwo_355 : decode b_M_findTwo 355 = .ok (.lload 10, 2) := by decide +kernel
theorem d_M_findTwo_357 : decode b_M_findTwo 357 = .ok (.lload 4, 2) := by decide +kernel
theorem d_M_findTwo_359 : decode b_M_findTwo 359 = .ok (.lconst 0, 1) := by decide +kernel
theorem d_M_findTwo_360 : decode b_M_findTwo 360 = .ok (.invokevirtual 163, 3) := by decide +kernel
theorem d_M_findTwo_363 : decode b_M_findTwo 363 = .ok (.aload_n 0, 1) := by decide +kernel
theorem d_M_findTwo_364 : decode b_M_findTwo 364 = .ok (.iconst 1, 1) := by decide +kernel
theorem d_M_findTwo_365 : decode b_M_findTwo 365 = .ok (.lload 8, 2) := by decide +kernel
theorem d_M_findTwo_367 : decode b_M_findTwo 367 = .ok (.lconst 0, 1) := by decide +kernel
theorem d_M_findTwo_368 : decode b_M_findTwo 368 = .ok (.lload 4, 2) := by decide +kernel
theorem d_M_findTwo_370 : decode b_M_findTwo 370 = .ok (.invokevirtual 163, 3) := by decide +kernel
theorem d_M_findTwo_373 : decode b_M_findTwo 373 = .ok (.return_, 1) := by decide +kernel
theorem d_M_root_0 : decode b_M_root 0 = .ok (.lconst 0, 1) := by decide +kernel
theorem d_M_root_1 : decode b_M_root 1 = .ok (.lstore_n 2, 1) := by decide +kernel
theorem d_M_root_2 : decode b_M_root 2 = .ok (.lload_n 2, 1) := by decide +kernel
theorem d_M_root_3 : decode b_M_root 3 = .ok (.lload_n 2, 1) := by decide +kernel
theorem d_M_root_4 : decode b_M_root 4 = .ok (.lmul, 1) := by decide +kernel
theorem d_M_root_5 : decode b_M_root 5 = .ok (.lload_n 0, 1) := by decide +kernel
theorem d_M_root_6 : decode b_M_root 6 = .ok (.lcmp, 1) := by decide +kernel
theorem d_M_root_7 : decode b_M_root 7 = .ok (.ifCond .ge 10, 3) := by decide +kernel
theorem d_M_root_10 : decode b_M_root 10 = .ok (.lload_n 2, 1) := by decide +kernel
theorem d_M_root_11 : decode b_M_root 11 = .ok (.lconst 1, 1) := by decide +kernel
theorem d_M_root_12 : decode b_M_root 12 = .ok (.ladd, 1) := by decide +kernel
theorem d_M_root_13 : decode b_M_root 13 = .ok (.lstore_n 2, 1) := by decide +kernel
theorem d_M_root_14 : decode b_M_root 14 = .ok (.goto (-12), 3) := by decide +kernel
theorem d_M_root_17 : decode b_M_root 17 = .ok (.lload_n 2, 1) := by decide +kernel
theorem d_M_root_18 : decode b_M_root 18 = .ok (.lload_n 2, 1) := by decide +kernel
theorem d_M_root_19 : decode b_M_root 19 = .ok (.lmul, 1) := by decide +kernel
theorem d_M_root_20 : decode b_M_root 20 = .ok (.lload_n 0, 1) := by decide +kernel
theorem d_M_root_21 : decode b_M_root 21 = .ok (.lcmp, 1) := by decide +kernel
theorem d_M_root_22 : decode b_M_root 22 = .ok (.ifCond .ne 7, 3) := by decide +kernel
theorem d_M_root_25 : decode b_M_root 25 = .ok (.lload_n 2, 1) := by decide +kernel
theorem d_M_root_26 : decode b_M_root 26 = .ok (.goto 6, 3) := by decide +kernel
theorem d_M_root_29 : decode b_M_root 29 = .ok (.ldc2_w 139, 3) := by decide +kernel
theorem d_M_root_32 : decode b_M_root 32 = .ok (.lreturn, 1) := by decide +kernel
theorem d_M_isSecondFirst_0 : decode b_M_isSecondFirst 0 = .ok (.iconst 0, 1) := by decide +kernel
theorem d_M_isSecondFirst_1 : decode b_M_isSecondFirst 1 = .ok (.istore_n 1, 1) := by decide +kernel
theorem d_M_isSecondFirst_2 : decode b_M_isSecondFirst 2 = .ok (.iload_n 1, 1) := by decide +kernel
theorem d_M_isSecondFirst_3 : decode b_M_isSecondFirst 3 = .ok (.iconst 3, 1) := by decide +kernel
theorem d_M_isSecondFirst_4 : decode b_M_isSecondFirst 4 = .ok (.if_icmp .ge 51, 3) := by decide +kernel
theorem d_M_isSecondFirst_7 : decode b_M_isSecondFirst 7 = .ok (.aload_n 0, 1) := by decide +kernel
theorem d_M_isSecondFirst_8 : decode b_M_isSecondFirst 8 = .ok (.getfield 42, 3) := by decide +kernel
theorem d_M_isSecondFirst_11 : decode b_M_isSecondFirst 11 = .ok (.iload_n 1, 1) := by decide +kernel
theorem d_M_isSecondFirst_12 : decode b_M_isSecondFirst 12 = .ok (.laload, 1) := by decide +kernel
theorem d_M_isSecondFirst_13 : decode b_M_isSecondFirst 13 = .ok (.aload_n 0, 1) := by decide +kernel
theorem d_M_isSecondFirst_14 : decode b_M_isSecondFirst 14 = .ok (.getfield 42, 3) := by decide +kernel
theorem d_M_isSecondFirst_17 : decode b_M_isSecondFirst 17 = .ok (.iconst 3, 1) := by decide +kernel
theorem d_M_isSecondFirst_18 : decode b_M_isSecondFirst 18 = .ok (.iload_n 1, 1) := by decide +kernel
theorem d_M_isSecondFirst_19 : decode b_M_isSecondFirst 19 = .ok (.iadd, 1) := by decide +kernel
theorem d_M_isSecondFirst_20 : decode b_M_isSecondFirst 20 = .ok (.laload, 1) := by decide +kernel
theorem d_M_isSecondFirst_21 : decode b_M_isSecondFirst 21 = .ok (.lcmp, 1) := by decide +kernel
theorem d_M_isSecondFirst_22 : decode b_M_isSecondFirst 22 = .ok (.ifCond .eq 27, 3) := by decide +kernel
theorem d_M_isSecondFirst_25 : decode b_M_isSecondFirst 25 = .ok (.aload_n 0, 1) := by decide +kernel
theorem d_M_isSecondFirst_26 : decode b_M_isSecondFirst 26 = .ok (.getfield 42, 3) := by decide +kernel
theorem d_M_isSecondFirst_29 : decode b_M_isSecondFirst 29 = .ok (.iconst 3, 1) := by decide +kernel
theorem d_M_isSecondFirst_30 : decode b_M_isSecondFirst 30 = .ok (.iload_n 1, 1) := by decide +kernel
theorem d_M_isSecondFirst_31 : decode b_M_isSecondFirst 31 = .ok (.iadd, 1) := by decide +kernel
theorem d_M_isSecondFirst_32 : decode b_M_isSecondFirst 32 = .ok (.laload, 1) := by decide +kernel
theorem d_M_isSecondFirst_33 : decode b_M_isSecondFirst 33 = .ok (.aload_n 0, 1) := by decide +kernel
theorem d_M_isSecondFirst_34 : decode b_M_isSecondFirst 34 = .ok (.getfield 42, 3) := by decide +kernel
theorem d_M_isSecondFirst_37 : decode b_M_isSecondFirst 37 = .ok (.iload_n 1, 1) := by decide +kernel
theorem d_M_isSecondFirst_38 : decode b_M_isSecondFirst 38 = .ok (.laload, 1) := by decide +kernel
theorem d_M_isSecondFirst_39 : decode b_M_isSecondFirst 39 = .ok (.lcmp, 1) := by decide +kernel
theorem d_M_isSecondFirst_40 : decode b_M_isSecondFirst 40 = .ok (.ifCond .ge 7, 3) := by decide +kernel
theorem d_M_isSecondFirst_43 : decode b_M_isSecondFirst 43 = .ok (.iconst 1, 1) := by decide +kernel
theorem d_M_isSecondFirst_44 : decode b_M_isSecondFirst 44 = .ok (.goto 4, 3) := by decide +kernel
theorem d_M_isSecondFirst_47 : decode b_M_isSecondFirst 47 = .ok (.iconst 0, 1) := by decide +kernel
theorem d_M_isSecondFirst_48 : decode b_M_isSecondFirst 48 = .ok (.ireturn, 1) := by decide +kernel
theorem d_M_isSecondFirst_49 : decode b_M_isSecondFirst 49 = .ok (.iinc 1 1, 3) := by decide +kernel
theorem d_M_isSecondFirst_52 : decode b_M_isSecondFirst 52 = .ok (.goto (-50), 3) := by decide +kernel
theorem d_M_isSecondFirst_55 : decode b_M_isSecondFirst 55 = .ok (.iconst 0, 1) := by decide +kernel
theorem d_M_isSecondFirst_56 : decode b_M_isSecondFirst 56 = .ok (.ireturn, 1) := by decide +kernel
theorem d_M_keep_0 : decode b_M_keep 0 = .ok (.aload_n 0, 1) := by decide +kernel
theorem d_M_keep_1 : decode b_M_keep 1 = .ok (.iconst 0, 1) := by decide +kernel
theorem d_M_keep_2 : decode b_M_keep 2 = .ok (.putfield 45, 3) := by decide +kernel
theorem d_M_keep_5 : decode b_M_keep 5 = .ok (.iconst 0, 1) := by decide +kernel
theorem d_M_keep_6 : decode b_M_keep 6 = .ok (.istore_n 1, 1) := by decide +kernel
theorem d_M_keep_7 : decode b_M_keep 7 = .ok (.iload_n 1, 1) := by decide +kernel
theorem d_M_keep_8 : decode b_M_keep 8 = .ok (.bipush 16, 2) := by decide +kernel
theorem d_M_keep_10 : decode b_M_keep 10 = .ok (.if_icmp .ge 21, 3) := by decide +kernel
theorem d_M_keep_13 : decode b_M_keep 13 = .ok (.aload_n 0, 1) := by decide +kernel
theorem d_M_keep_14 : decode b_M_keep 14 = .ok (.getfield 17, 3) := by decide +kernel
theorem d_M_keep_17 : decode b_M_keep 17 = .ok (.iload_n 1, 1) := by decide +kernel
theorem d_M_keep_18 : decode b_M_keep 18 = .ok (.aload_n 0, 1) := by decide +kernel
theorem d_M_keep_19 : decode b_M_keep 19 = .ok (.getfield 13, 3) := by decide +kernel
theorem d_M_keep_22 : decode b_M_keep 22 = .ok (.iload_n 1, 1) := by decide +kernel
theorem d_M_keep_23 : decode b_M_keep 23 = .ok (.iaload, 1) := by decide +kernel
theorem d_M_keep_24 : decode b_M_keep 24 = .ok (.iastore, 1) := by decide +kernel
theorem d_M_keep_25 : decode b_M_keep 25 = .ok (.iinc 1 1, 3) := by decide +kernel
theorem d_M_keep_28 : decode b_M_keep 28 = .ok (.goto (-21), 3) := by decide +kernel
theorem d_M_keep_31 : decode b_M_keep 31 = .ok (.aload_n 0, 1) := by decide +kernel
theorem d_M_keep_32 : decode b_M_keep 32 = .ok (.iconst 1, 1) := by decide +kernel
theorem d_M_keep_33 : decode b_M_keep 33 = .ok (.putfield 48, 3) := by decide +kernel
theorem d_M_keep_36 : decode b_M_keep 36 = .ok (.aload_n 0, 1) := by decide +kernel
theorem d_M_keep_37 : decode b_M_keep 37 = .ok (.invokevirtual 111, 3) := by decide +kernel
theorem d_M_keep_40 : decode b_M_keep 40 = .ok (.ireturn, 1) := by decide +kernel
theorem d_M_alike_0 : decode b_M_alike 0 = .ok (.aload_n 0, 1) := by decide +kernel
theorem d_M_alike_1 : decode b_M_alike 1 = .ok (.iconst 0, 1) := by decide +kernel
theorem d_M_alike_2 : decode b_M_alike 2 = .ok (.putfield 45, 3) := by decide +kernel
theorem d_M_alike_5 : decode b_M_alike 5 = .ok (.aload_n 0, 1) := by decide +kernel
theorem d_M_alike_6 : decode b_M_alike 6 = .ok (.getfield 48, 3) := by decide +kernel
theorem d_M_alike_9 : decode b_M_alike 9 = .ok (.ifCond .ne 6, 3) := by decide +kernel
theorem d_M_alike_12 : decode b_M_alike 12 = .ok (.bipush (-3), 2) := by decide +kernel
theorem d_M_alike_14 : decode b_M_alike 14 = .ok (.ireturn, 1) := by decide +kernel
theorem d_M_alike_15 : decode b_M_alike 15 = .ok (.iconst 0, 1) := by decide +kernel
theorem d_M_alike_16 : decode b_M_alike 16 = .ok (.istore_n 1, 1) := by decide +kernel
theorem d_M_alike_17 : decode b_M_alike 17 = .ok (.iconst 0, 1) := by decide +kernel
theorem d_M_alike_18 : decode b_M_alike 18 = .ok (.istore_n 2, 1) := by decide +kernel
theorem d_M_alike_19 : decode b_M_alike 19 = .ok (.iconst 1, 1) := by decide +kernel
theorem d_M_alike_20 : decode b_M_alike 20 = .ok (.istore_n 3, 1) := by decide +kernel
theorem d_M_alike_21 : decode b_M_alike 21 = .ok (.iconst 0, 1) := by decide +kernel
theorem d_M_alike_22 : decode b_M_alike 22 = .ok (.istore 4, 2) := by decide +kernel
theorem d_M_alike_24 : decode b_M_alike 24 = .ok (.iload 4, 2) := by decide +kernel
theorem d_M_alike_26 : decode b_M_alike 26 = .ok (.bipush 16, 2) := by decide +kernel
theorem d_M_alike_28 : decode b_M_alike 28 = .ok (.if_icmp .ge 108, 3) := by decide +kernel
theorem d_M_alike_31 : decode b_M_alike 31 = .ok (.iload_n 1, 1) := by decide +kernel
theorem d_M_alike_32 : decode b_M_alike 32 = .ok (.ifCond .ne 13, 3) := by decide +kernel
theorem d_M_alike_35 : decode b_M_alike 35 = .ok (.aload_n 0, 1) := by decide +kernel
theorem d_M_alike_36 : decode b_M_alike 36 = .ok (.getfield 13, 3) := by decide +kernel
theorem d_M_alike_39 : decode b_M_alike 39 = .ok (.iload 4, 2) := by decide +kernel
theorem d_M_alike_41 : decode b_M_alike 41 = .ok (.iaload, 1) := by decide +kernel
theorem d_M_alike_42 : decode b_M_alike 42 = .ok (.ifCond .eq 7, 3) := by decide +kernel
theorem d_M_alike_45 : decode b_M_alike 45 = .ok (.iconst 1, 1) := by decide +kernel
theorem d_M_alike_46 : decode b_M_alike 46 = .ok (.goto 4, 3) := by decide +kernel
theorem d_M_alike_49 : decode b_M_alike 49 = .ok (.iconst 0, 1) := by decide +kernel
theorem d_M_alike_50 : decode b_M_alike 50 = .ok (.istore_n 1, 1) := by decide +kernel
theorem d_M_alike_51 : decode b_M_alike 51 = .ok (.iload_n 2, 1) := by decide +kernel
theorem d_M_alike_52 : decode b_M_alike 52 = .ok (.ifCond .ne 13, 3) := by decide +kernel
theorem d_M_alike_55 : decode b_M_alike 55 = .ok (.aload_n 0, 1) := by decide +kernel
theorem d_M_alike_56 : decode b_M_alike 56 = .ok (.getfield 17, 3) := by decide +kernel
theorem d_M_alike_59 : decode b_M_alike 59 = .ok (.iload 4, 2) := by decide +kernel
theorem d_M_alike_61 : decode b_M_alike 61 = .ok (.iaload, 1) := by decide +kernel
theorem d_M_alike_62 : decode b_M_alike 62 = .ok (.ifCond .eq 7, 3) := by decide +kernel
theorem d_M_alike_65 : decode b_M_alike 65 = .ok (.iconst 1, 1) := by decide +kernel
theorem d_M_alike_66 : decode b_M_alike 66 = .ok (.goto 4, 3) := by decide +kernel
theorem d_M_alike_69 : decode b_M_alike 69 = .ok (.iconst 0, 1) := by decide +kernel
theorem d_M_alike_70 : decode b_M_alike 70 = .ok (.istore_n 2, 1) := by decide +kernel
theorem d_M_alike_71 : decode b_M_alike 71 = .ok (.iconst 0, 1) := by decide +kernel
theorem d_M_alike_72 : decode b_M_alike 72 = .ok (.istore 5, 2) := by decide +kernel
theorem d_M_alike_74 : decode b_M_alike 74 = .ok (.iload 5, 2) := by decide +kernel
theorem d_M_alike_76 : decode b_M_alike 76 = .ok (.iload 4, 2) := by decide +kernel
theorem d_M_alike_78 : decode b_M_alike 78 = .ok (.if_icmp .ge 52, 3) := by decide +kernel
theorem d_M_alike_81 : decode b_M_alike 81 = .ok (.iload_n 3, 1) := by decide +kernel
theorem d_M_alike_82 : decode b_M_alike 82 = .ok (.ifCond .eq 40, 3) := by decide +kernel
theorem d_M_alike_85 : decode b_M_alike 85 = .ok (.aload_n 0, 1) := by decide +kernel
theorem d_M_alike_86 : decode b_M_alike 86 = .ok (.getfield 13, 3) := by decide +kernel
theorem d_M_alike_89 : decode b_M_alike 89 = .ok (.iload 4, 2) := by decide +kernel
theorem d_M_alike_91 : decode b_M_alike 91 = .ok (.iaload, 1) := by decide +kernel
theorem d_M_alike_92 : decode b_M_alike 92 = .ok (.aload_n 0, 1) := by decide +kernel
theorem d_M_alike_93 : decode b_M_alike 93 = .ok (.getfield 17, 3) := by decide +kernel
theorem d_M_alike_96 : decode b_M_alike 96 = .ok (.iload 5, 2) := by decide +kernel
theorem d_M_alike_98 : decode b_M_alike 98 = .ok (.iaload, 1) := by decide +kernel
theorem d_M_alike_99 : decode b_M_alike 99 = .ok (.imul, 1) := by decide +kernel
theorem d_M_alike_100 : decode b_M_alike 100 = .ok (.aload_n 0, 1) := by decide +kernel
theorem d_M_alike_101 : decode b_M_alike 101 = .ok (.getfield 13, 3) := by decide +kernel
theorem d_M_alike_104 : decode b_M_alike 104 = .ok (.iload 5, 2) := by decide +kernel
theorem d_M_alike_106 : decode b_M_alike 106 = .ok (.iaload, 1) := by decide +kernel
theorem d_M_alike_107 : decode b_M_alike 107 = .ok (.aload_n 0, 1) := by decide +kernel
theorem d_M_alike_108 : decode b_M_alike 108 = .ok (.getfield 17, 3) := by decide +kernel
theorem d_M_alike_111 : decode b_M_alike 111 = .ok (.iload 4, 2) := by decide +kernel
theorem d_M_alike_113 : decode b_M_alike 113 = .ok (.iaload, 1) := by decide +kernel
theorem d_M_alike_114 : decode b_M_alike 114 = .ok (.imul, 1) := by decide +kernel
theorem d_M_alike_115 : decode b_M_alike 115 = .ok (.if_icmp .ne 7, 3) := by decide +kernel
theorem d_M_alike_118 : decode b_M_alike 118 = .ok (.iconst 1, 1) := by decide +kernel
theorem d_M_alike_119 : decode b_M_alike 119 = .ok (.goto 4, 3) := by decide +kernel
theorem d_M_alike_122 : decode b_M_alike 122 = .ok (.iconst 0, 1) := by decide +kernel
theorem d_M_alike_123 : decode b_M_alike 123 = .ok (.istore_n 3, 1) := by decide +kernel
theorem d_M_alike_124 : decode b_M_alike 124 = .ok (.iinc 5 1, 3) := by decide +kernel
theorem d_M_alike_127 : decode b_M_alike 127 = .ok (.goto (-53), 3) := by decide +kernel
theorem d_M_alike_130 : decode b_M_alike 130 = .ok (.iinc 4 1, 3) := by decide +kernel
theorem d_M_alike_133 : decode b_M_alike 133 = .ok (.goto (-109), 3) := by decide +kernel
theorem d_M_alike_136 : decode b_M_alike 136 = .ok (.iload_n 3, 1) := by decide +kernel
theorem d_M_alike_137 : decode b_M_alike 137 = .ok (.ifCond .eq 12, 3) := by decide +kernel
theorem d_M_alike_140 : decode b_M_alike 140 = .ok (.iload_n 1, 1) := by decide +kernel
theorem d_M_alike_141 : decode b_M_alike 141 = .ok (.iload_n 2, 1) := by decide +kernel
theorem d_M_alike_142 : decode b_M_alike 142 = .ok (.if_icmp .ne 7, 3) := by decide +kernel
theorem d_M_alike_145 : decode b_M_alike 145 = .ok (.iconst 1, 1) := by decide +kernel
theorem d_M_alike_146 : decode b_M_alike 146 = .ok (.goto 4, 3) := by decide +kernel
theorem d_M_alike_149 : decode b_M_alike 149 = .ok (.iconst 0, 1) := by decide +kernel
theorem d_M_alike_150 : decode b_M_alike 150 = .ok (.ireturn, 1) := by decide +kernel

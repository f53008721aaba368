/-! decode rows of the law and its helper (wip/gen_law.py) -/
theorem d_law_0 : decode code 0 = .ok (.new 8, 3) := by decide +kernel
theorem d_law_3 : decode code 3 = .ok (.dup, 1) := by decide +kernel
theorem d_law_4 : decode code 4 = .ok (.invokespecial 15, 3) := by decide +kernel
theorem d_law_7 : decode code 7 = .ok (.astore_n 1, 1) := by decide +kernel
theorem d_law_8 : decode code 8 = .ok (.new 16, 3) := by decide +kernel
theorem d_law_11 : decode code 11 = .ok (.dup, 1) := by decide +kernel
theorem d_law_12 : decode code 12 = .ok (.invokespecial 18, 3) := by decide +kernel
theorem d_law_15 : decode code 15 = .ok (.astore_n 2, 1) := by decide +kernel
theorem d_law_16 : decode code 16 = .ok (.iconst 1, 1) := by decide +kernel
theorem d_law_17 : decode code 17 = .ok (.newarray .long, 2) := by decide +kernel
theorem d_law_19 : decode code 19 = .ok (.astore_n 3, 1) := by decide +kernel
theorem d_law_20 : decode code 20 = .ok (.iconst 0, 1) := by decide +kernel
theorem d_law_21 : decode code 21 = .ok (.istore 4, 2) := by decide +kernel
theorem d_law_23 : decode code 23 = .ok (.iload 4, 2) := by decide +kernel
theorem d_law_25 : decode code 25 = .ok (.aload_n 0, 1) := by decide +kernel
theorem d_law_26 : decode code 26 = .ok (.arraylength, 1) := by decide +kernel
theorem d_law_27 : decode code 27 = .ok (.bipush 7, 2) := by decide +kernel
theorem d_law_29 : decode code 29 = .ok (.isub, 1) := by decide +kernel
theorem d_law_30 : decode code 30 = .ok (.if_icmp .gt 807, 3) := by decide +kernel
theorem d_law_33 : decode code 33 = .ok (.aload_n 0, 1) := by decide +kernel
theorem d_law_34 : decode code 34 = .ok (.iload 4, 2) := by decide +kernel
theorem d_law_36 : decode code 36 = .ok (.iaload, 1) := by decide +kernel
theorem d_law_37 : decode code 37 = .ok (.bipush 31, 2) := by decide +kernel
theorem d_law_39 : decode code 39 = .ok (.iand, 1) := by decide +kernel
theorem d_law_40 : decode code 40 = .ok (.tableswitch 791 0 17 #[88, 113, 163, 176, 201, 227, 240, 278, 333, 370, 383, 444, 518, 579, 640, 727, 765, 778], 88) := by decide +kernel
theorem d_law_128 : decode code 128 = .ok (.aload_n 1, 1) := by decide +kernel
theorem d_law_129 : decode code 129 = .ok (.aload_n 0, 1) := by decide +kernel
theorem d_law_130 : decode code 130 = .ok (.iload 4, 2) := by decide +kernel
theorem d_law_132 : decode code 132 = .ok (.iconst 1, 1) := by decide +kernel
theorem d_law_133 : decode code 133 = .ok (.iadd, 1) := by decide +kernel
theorem d_law_134 : decode code 134 = .ok (.iaload, 1) := by decide +kernel
theorem d_law_135 : decode code 135 = .ok (.invokevirtual 19, 3) := by decide +kernel
theorem d_law_138 : decode code 138 = .ok (.aload_n 2, 1) := by decide +kernel
theorem d_law_139 : decode code 139 = .ok (.aload_n 0, 1) := by decide +kernel
theorem d_law_140 : decode code 140 = .ok (.iload 4, 2) := by decide +kernel
theorem d_law_142 : decode code 142 = .ok (.iconst 1, 1) := by decide +kernel
theorem d_law_143 : decode code 143 = .ok (.iadd, 1) := by decide +kernel
theorem d_law_144 : decode code 144 = .ok (.iaload, 1) := by decide +kernel
theorem d_law_145 : decode code 145 = .ok (.invokevirtual 23, 3) := by decide +kernel
theorem d_law_148 : decode code 148 = .ok (.if_icmp .eq 683, 3) := by decide +kernel
theorem d_law_151 : decode code 151 = .ok (.iconst 0, 1) := by decide +kernel
theorem d_law_152 : decode code 152 = .ok (.ireturn, 1) := by decide +kernel
theorem d_law_153 : decode code 153 = .ok (.aload_n 1, 1) := by decide +kernel
theorem d_law_154 : decode code 154 = .ok (.aload_n 0, 1) := by decide +kernel
theorem d_law_155 : decode code 155 = .ok (.iload 4, 2) := by decide +kernel
theorem d_law_157 : decode code 157 = .ok (.iconst 1, 1) := by decide +kernel
theorem d_law_158 : decode code 158 = .ok (.iadd, 1) := by decide +kernel
theorem d_law_159 : decode code 159 = .ok (.iaload, 1) := by decide +kernel
theorem d_law_160 : decode code 160 = .ok (.aload_n 0, 1) := by decide +kernel
theorem d_law_161 : decode code 161 = .ok (.iload 4, 2) := by decide +kernel
theorem d_law_163 : decode code 163 = .ok (.iconst 2, 1) := by decide +kernel
theorem d_law_164 : decode code 164 = .ok (.iadd, 1) := by decide +kernel
theorem d_law_165 : decode code 165 = .ok (.iaload, 1) := by decide +kernel
theorem d_law_166 : decode code 166 = .ok (.aload_n 0, 1) := by decide +kernel
theorem d_law_167 : decode code 167 = .ok (.iload 4, 2) := by decide +kernel
theorem d_law_169 : decode code 169 = .ok (.iconst 3, 1) := by decide +kernel
theorem d_law_170 : decode code 170 = .ok (.iadd, 1) := by decide +kernel
theorem d_law_171 : decode code 171 = .ok (.iaload, 1) := by decide +kernel
theorem d_law_172 : decode code 172 = .ok (.invokevirtual 24, 3) := by decide +kernel
theorem d_law_175 : decode code 175 = .ok (.aload_n 2, 1) := by decide +kernel
theorem d_law_176 : decode code 176 = .ok (.aload_n 0, 1) := by decide +kernel
theorem d_law_177 : decode code 177 = .ok (.iload 4, 2) := by decide +kernel
theorem d_law_179 : decode code 179 = .ok (.iconst 1, 1) := by decide +kernel
theorem d_law_180 : decode code 180 = .ok (.iadd, 1) := by decide +kernel
theorem d_law_181 : decode code 181 = .ok (.iaload, 1) := by decide +kernel
theorem d_law_182 : decode code 182 = .ok (.aload_n 0, 1) := by decide +kernel
theorem d_law_183 : decode code 183 = .ok (.iload 4, 2) := by decide +kernel
theorem d_law_185 : decode code 185 = .ok (.iconst 2, 1) := by decide +kernel
theorem d_law_186 : decode code 186 = .ok (.iadd, 1) := by decide +kernel
theorem d_law_187 : decode code 187 = .ok (.iaload, 1) := by decide +kernel
theorem d_law_188 : decode code 188 = .ok (.aload_n 0, 1) := by decide +kernel
theorem d_law_189 : decode code 189 = .ok (.iload 4, 2) := by decide +kernel
theorem d_law_191 : decode code 191 = .ok (.iconst 3, 1) := by decide +kernel
theorem d_law_192 : decode code 192 = .ok (.iadd, 1) := by decide +kernel
theorem d_law_193 : decode code 193 = .ok (.iaload, 1) := by decide +kernel
theorem d_law_194 : decode code 194 = .ok (.invokevirtual 28, 3) := by decide +kernel
theorem d_law_197 : decode code 197 = .ok (.lcmp, 1) := by decide +kernel
theorem d_law_198 : decode code 198 = .ok (.ifCond .eq 633, 3) := by decide +kernel
theorem d_law_201 : decode code 201 = .ok (.iconst 0, 1) := by decide +kernel
theorem d_law_202 : decode code 202 = .ok (.ireturn, 1) := by decide +kernel
theorem d_law_203 : decode code 203 = .ok (.aload_n 1, 1) := by decide +kernel
theorem d_law_204 : decode code 204 = .ok (.invokevirtual 29, 3) := by decide +kernel
theorem d_law_207 : decode code 207 = .ok (.aload_n 2, 1) := by decide +kernel
theorem d_law_208 : decode code 208 = .ok (.invokevirtual 33, 3) := by decide +kernel
theorem d_law_211 : decode code 211 = .ok (.if_icmp .eq 620, 3) := by decide +kernel
theorem d_law_214 : decode code 214 = .ok (.iconst 0, 1) := by decide +kernel
theorem d_law_215 : decode code 215 = .ok (.ireturn, 1) := by decide +kernel
theorem d_law_216 : decode code 216 = .ok (.aload_n 1, 1) := by decide +kernel
theorem d_law_217 : decode code 217 = .ok (.aload_n 0, 1) := by decide +kernel
theorem d_law_218 : decode code 218 = .ok (.iload 4, 2) := by decide +kernel
theorem d_law_220 : decode code 220 = .ok (.iconst 1, 1) := by decide +kernel
theorem d_law_221 : decode code 221 = .ok (.iadd, 1) := by decide +kernel
theorem d_law_222 : decode code 222 = .ok (.iaload, 1) := by decide +kernel
theorem d_law_223 : decode code 223 = .ok (.invokevirtual 34, 3) := by decide +kernel
theorem d_law_226 : decode code 226 = .ok (.aload_n 2, 1) := by decide +kernel
theorem d_law_227 : decode code 227 = .ok (.aload_n 0, 1) := by decide +kernel
theorem d_law_228 : decode code 228 = .ok (.iload 4, 2) := by decide +kernel
theorem d_law_230 : decode code 230 = .ok (.iconst 1, 1) := by decide +kernel
theorem d_law_231 : decode code 231 = .ok (.iadd, 1) := by decide +kernel
theorem d_law_232 : decode code 232 = .ok (.iaload, 1) := by decide +kernel
theorem d_law_233 : decode code 233 = .ok (.invokevirtual 37, 3) := by decide +kernel
theorem d_law_236 : decode code 236 = .ok (.if_icmp .eq 595, 3) := by decide +kernel
theorem d_law_239 : decode code 239 = .ok (.iconst 0, 1) := by decide +kernel
theorem d_law_240 : decode code 240 = .ok (.ireturn, 1) := by decide +kernel
theorem d_law_241 : decode code 241 = .ok (.aload_n 1, 1) := by decide +kernel
theorem d_law_242 : decode code 242 = .ok (.aload_n 0, 1) := by decide +kernel
theorem d_law_243 : decode code 243 = .ok (.iload 4, 2) := by decide +kernel
theorem d_law_245 : decode code 245 = .ok (.iconst 1, 1) := by decide +kernel
theorem d_law_246 : decode code 246 = .ok (.iadd, 1) := by decide +kernel
theorem d_law_247 : decode code 247 = .ok (.iaload, 1) := by decide +kernel
theorem d_law_248 : decode code 248 = .ok (.invokevirtual 38, 3) := by decide +kernel
theorem d_law_251 : decode code 251 = .ok (.aload_n 2, 1) := by decide +kernel
theorem d_law_252 : decode code 252 = .ok (.aload_n 0, 1) := by decide +kernel
theorem d_law_253 : decode code 253 = .ok (.iload 4, 2) := by decide +kernel
theorem d_law_255 : decode code 255 = .ok (.iconst 1, 1) := by decide +kernel
theorem d_law_256 : decode code 256 = .ok (.iadd, 1) := by decide +kernel
theorem d_law_257 : decode code 257 = .ok (.iaload, 1) := by decide +kernel
theorem d_law_258 : decode code 258 = .ok (.invokevirtual 41, 3) := by decide +kernel
theorem d_law_261 : decode code 261 = .ok (.lcmp, 1) := by decide +kernel
theorem d_law_262 : decode code 262 = .ok (.ifCond .eq 569, 3) := by decide +kernel
theorem d_law_265 : decode code 265 = .ok (.iconst 0, 1) := by decide +kernel
theorem d_law_266 : decode code 266 = .ok (.ireturn, 1) := by decide +kernel
theorem d_law_267 : decode code 267 = .ok (.aload_n 1, 1) := by decide +kernel
theorem d_law_268 : decode code 268 = .ok (.invokevirtual 42, 3) := by decide +kernel
theorem d_law_271 : decode code 271 = .ok (.aload_n 2, 1) := by decide +kernel
theorem d_law_272 : decode code 272 = .ok (.invokevirtual 45, 3) := by decide +kernel
theorem d_law_275 : decode code 275 = .ok (.if_icmp .eq 556, 3) := by decide +kernel
theorem d_law_278 : decode code 278 = .ok (.iconst 0, 1) := by decide +kernel
theorem d_law_279 : decode code 279 = .ok (.ireturn, 1) := by decide +kernel
theorem d_law_280 : decode code 280 = .ok (.aload_n 1, 1) := by decide +kernel
theorem d_law_281 : decode code 281 = .ok (.aload_n 0, 1) := by decide +kernel
theorem d_law_282 : decode code 282 = .ok (.iload 4, 2) := by decide +kernel
theorem d_law_284 : decode code 284 = .ok (.iconst 1, 1) := by decide +kernel
theorem d_law_285 : decode code 285 = .ok (.iadd, 1) := by decide +kernel
theorem d_law_286 : decode code 286 = .ok (.iaload, 1) := by decide +kernel
theorem d_law_287 : decode code 287 = .ok (.aload_n 0, 1) := by decide +kernel
theorem d_law_288 : decode code 288 = .ok (.iload 4, 2) := by decide +kernel
theorem d_law_290 : decode code 290 = .ok (.iconst 2, 1) := by decide +kernel
theorem d_law_291 : decode code 291 = .ok (.iadd, 1) := by decide +kernel
theorem d_law_292 : decode code 292 = .ok (.iaload, 1) := by decide +kernel
theorem d_law_293 : decode code 293 = .ok (.invokevirtual 46, 3) := by decide +kernel
theorem d_law_296 : decode code 296 = .ok (.aload_n 2, 1) := by decide +kernel
theorem d_law_297 : decode code 297 = .ok (.aload_n 0, 1) := by decide +kernel
theorem d_law_298 : decode code 298 = .ok (.iload 4, 2) := by decide +kernel
theorem d_law_300 : decode code 300 = .ok (.iconst 1, 1) := by decide +kernel
theorem d_law_301 : decode code 301 = .ok (.iadd, 1) := by decide +kernel
theorem d_law_302 : decode code 302 = .ok (.iaload, 1) := by decide +kernel
theorem d_law_303 : decode code 303 = .ok (.aload_n 0, 1) := by decide +kernel
theorem d_law_304 : decode code 304 = .ok (.iload 4, 2) := by decide +kernel
theorem d_law_306 : decode code 306 = .ok (.iconst 2, 1) := by decide +kernel
theorem d_law_307 : decode code 307 = .ok (.iadd, 1) := by decide +kernel
theorem d_law_308 : decode code 308 = .ok (.iaload, 1) := by decide +kernel
theorem d_law_309 : decode code 309 = .ok (.invokevirtual 50, 3) := by decide +kernel
theorem d_law_312 : decode code 312 = .ok (.lcmp, 1) := by decide +kernel
theorem d_law_313 : decode code 313 = .ok (.ifCond .eq 518, 3) := by decide +kernel
theorem d_law_316 : decode code 316 = .ok (.iconst 0, 1) := by decide +kernel
theorem d_law_317 : decode code 317 = .ok (.ireturn, 1) := by decide +kernel
theorem d_law_318 : decode code 318 = .ok (.aload_n 1, 1) := by decide +kernel
theorem d_law_319 : decode code 319 = .ok (.aload_n 0, 1) := by decide +kernel
theorem d_law_320 : decode code 320 = .ok (.iload 4, 2) := by decide +kernel
theorem d_law_322 : decode code 322 = .ok (.iconst 1, 1) := by decide +kernel
theorem d_law_323 : decode code 323 = .ok (.iadd, 1) := by decide +kernel
theorem d_law_324 : decode code 324 = .ok (.iaload, 1) := by decide +kernel
theorem d_law_325 : decode code 325 = .ok (.aload_n 3, 1) := by decide +kernel
theorem d_law_326 : decode code 326 = .ok (.invokestatic 51, 3) := by decide +kernel
theorem d_law_329 : decode code 329 = .ok (.istore 5, 2) := by decide +kernel
theorem d_law_331 : decode code 331 = .ok (.aload_n 2, 1) := by decide +kernel
theorem d_law_332 : decode code 332 = .ok (.aload_n 0, 1) := by decide +kernel
theorem d_law_333 : decode code 333 = .ok (.iload 4, 2) := by decide +kernel
theorem d_law_335 : decode code 335 = .ok (.iconst 1, 1) := by decide +kernel
theorem d_law_336 : decode code 336 = .ok (.iadd, 1) := by decide +kernel
theorem d_law_337 : decode code 337 = .ok (.iaload, 1) := by decide +kernel
theorem d_law_338 : decode code 338 = .ok (.invokevirtual 56, 3) := by decide +kernel
theorem d_law_341 : decode code 341 = .ok (.lstore 6, 2) := by decide +kernel
theorem d_law_343 : decode code 343 = .ok (.aload_n 2, 1) := by decide +kernel
theorem d_law_344 : decode code 344 = .ok (.invokevirtual 57, 3) := by decide +kernel
theorem d_law_347 : decode code 347 = .ok (.iload 5, 2) := by decide +kernel
theorem d_law_349 : decode code 349 = .ok (.if_icmp .eq 5, 3) := by decide +kernel
theorem d_law_352 : decode code 352 = .ok (.iconst 0, 1) := by decide +kernel
theorem d_law_353 : decode code 353 = .ok (.ireturn, 1) := by decide +kernel
theorem d_law_354 : decode code 354 = .ok (.iload 5, 2) := by decide +kernel
theorem d_law_356 : decode code 356 = .ok (.ifCond .ne 14, 3) := by decide +kernel
theorem d_law_359 : decode code 359 = .ok (.aload_n 3, 1) := by decide +kernel
theorem d_law_360 : decode code 360 = .ok (.iconst 0, 1) := by decide +kernel
theorem d_law_361 : decode code 361 = .ok (.laload, 1) := by decide +kernel
theorem d_law_362 : decode code 362 = .ok (.lload 6, 2) := by decide +kernel
theorem d_law_364 : decode code 364 = .ok (.lcmp, 1) := by decide +kernel
theorem d_law_365 : decode code 365 = .ok (.ifCond .eq 5, 3) := by decide +kernel
theorem d_law_368 : decode code 368 = .ok (.iconst 0, 1) := by decide +kernel
theorem d_law_369 : decode code 369 = .ok (.ireturn, 1) := by decide +kernel
theorem d_law_370 : decode code 370 = .ok (.goto 461, 3) := by decide +kernel
theorem d_law_373 : decode code 373 = .ok (.aload_n 1, 1) := by decide +kernel
theorem d_law_374 : decode code 374 = .ok (.aload_n 0, 1) := by decide +kernel
theorem d_law_375 : decode code 375 = .ok (.iload 4, 2) := by decide +kernel
theorem d_law_377 : decode code 377 = .ok (.iconst 1, 1) := by decide +kernel
theorem d_law_378 : decode code 378 = .ok (.iadd, 1) := by decide +kernel
theorem d_law_379 : decode code 379 = .ok (.iaload, 1) := by decide +kernel
theorem d_law_380 : decode code 380 = .ok (.aload_n 0, 1) := by decide +kernel
theorem d_law_381 : decode code 381 = .ok (.iload 4, 2) := by decide +kernel
theorem d_law_383 : decode code 383 = .ok (.iconst 2, 1) := by decide +kernel
theorem d_law_384 : decode code 384 = .ok (.iadd, 1) := by decide +kernel
theorem d_law_385 : decode code 385 = .ok (.iaload, 1) := by decide +kernel
theorem d_law_386 : decode code 386 = .ok (.invokevirtual 60, 3) := by decide +kernel
theorem d_law_389 : decode code 389 = .ok (.aload_n 2, 1) := by decide +kernel
theorem d_law_390 : decode code 390 = .ok (.aload_n 0, 1) := by decide +kernel
theorem d_law_391 : decode code 391 = .ok (.iload 4, 2) := by decide +kernel
theorem d_law_393 : decode code 393 = .ok (.iconst 1, 1) := by decide +kernel
theorem d_law_394 : decode code 394 = .ok (.iadd, 1) := by decide +kernel
theorem d_law_395 : decode code 395 = .ok (.iaload, 1) := by decide +kernel
theorem d_law_396 : decode code 396 = .ok (.aload_n 0, 1) := by decide +kernel
theorem d_law_397 : decode code 397 = .ok (.iload 4, 2) := by decide +kernel
theorem d_law_399 : decode code 399 = .ok (.iconst 2, 1) := by decide +kernel
theorem d_law_400 : decode code 400 = .ok (.iadd, 1) := by decide +kernel
theorem d_law_401 : decode code 401 = .ok (.iaload, 1) := by decide +kernel
theorem d_law_402 : decode code 402 = .ok (.invokevirtual 64, 3) := by decide +kernel
theorem d_law_405 : decode code 405 = .ok (.if_icmp .eq 426, 3) := by decide +kernel
theorem d_law_408 : decode code 408 = .ok (.iconst 0, 1) := by decide +kernel
theorem d_law_409 : decode code 409 = .ok (.ireturn, 1) := by decide +kernel
theorem d_law_410 : decode code 410 = .ok (.aload_n 1, 1) := by decide +kernel
theorem d_law_411 : decode code 411 = .ok (.invokevirtual 65, 3) := by decide +kernel
theorem d_law_414 : decode code 414 = .ok (.aload_n 2, 1) := by decide +kernel
theorem d_law_415 : decode code 415 = .ok (.invokevirtual 68, 3) := by decide +kernel
theorem d_law_418 : decode code 418 = .ok (.if_icmp .eq 413, 3) := by decide +kernel
theorem d_law_421 : decode code 421 = .ok (.iconst 0, 1) := by decide +kernel
theorem d_law_422 : decode code 422 = .ok (.ireturn, 1) := by decide +kernel
theorem d_law_423 : decode code 423 = .ok (.aload_n 1, 1) := by decide +kernel
theorem d_law_424 : decode code 424 = .ok (.aload_n 0, 1) := by decide +kernel
theorem d_law_425 : decode code 425 = .ok (.iload 4, 2) := by decide +kernel
theorem d_law_427 : decode code 427 = .ok (.iconst 1, 1) := by decide +kernel
theorem d_law_428 : decode code 428 = .ok (.iadd, 1) := by decide +kernel
theorem d_law_429 : decode code 429 = .ok (.iaload, 1) := by decide +kernel
theorem d_law_430 : decode code 430 = .ok (.aload_n 0, 1) := by decide +kernel
theorem d_law_431 : decode code 431 = .ok (.iload 4, 2) := by decide +kernel
theorem d_law_433 : decode code 433 = .ok (.iconst 2, 1) := by decide +kernel
theorem d_law_434 : decode code 434 = .ok (.iadd, 1) := by decide +kernel
theorem d_law_435 : decode code 435 = .ok (.iaload, 1) := by decide +kernel
theorem d_law_436 : decode code 436 = .ok (.aload_n 0, 1) := by decide +kernel
theorem d_law_437 : decode code 437 = .ok (.iload 4, 2) := by decide +kernel
theorem d_law_439 : decode code 439 = .ok (.iconst 3, 1) := by decide +kernel
theorem d_law_440 : decode code 440 = .ok (.iadd, 1) := by decide +kernel
theorem d_law_441 : decode code 441 = .ok (.iaload, 1) := by decide +kernel
theorem d_law_442 : decode code 442 = .ok (.aload_n 0, 1) := by decide +kernel
theorem d_law_443 : decode code 443 = .ok (.iload 4, 2) := by decide +kernel
theorem d_law_445 : decode code 445 = .ok (.iconst 4, 1) := by decide +kernel
theorem d_law_446 : decode code 446 = .ok (.iadd, 1) := by decide +kernel
theorem d_law_447 : decode code 447 = .ok (.iaload, 1) := by decide +kernel
theorem d_law_448 : decode code 448 = .ok (.invokevirtual 69, 3) := by decide +kernel
theorem d_law_451 : decode code 451 = .ok (.aload_n 2, 1) := by decide +kernel
theorem d_law_452 : decode code 452 = .ok (.aload_n 0, 1) := by decide +kernel
theorem d_law_453 : decode code 453 = .ok (.iload 4, 2) := by decide +kernel
theorem d_law_455 : decode code 455 = .ok (.iconst 1, 1) := by decide +kernel
theorem d_law_456 : decode code 456 = .ok (.iadd, 1) := by decide +kernel
theorem d_law_457 : decode code 457 = .ok (.iaload, 1) := by decide +kernel
theorem d_law_458 : decode code 458 = .ok (.aload_n 0, 1) := by decide +kernel
theorem d_law_459 : decode code 459 = .ok (.iload 4, 2) := by decide +kernel
theorem d_law_461 : decode code 461 = .ok (.iconst 2, 1) := by decide +kernel
theorem d_law_462 : decode code 462 = .ok (.iadd, 1) := by decide +kernel
theorem d_law_463 : decode code 463 = .ok (.iaload, 1) := by decide +kernel
theorem d_law_464 : decode code 464 = .ok (.aload_n 0, 1) := by decide +kernel
theorem d_law_465 : decode code 465 = .ok (.iload 4, 2) := by decide +kernel
theorem d_law_467 : decode code 467 = .ok (.iconst 3, 1) := by decide +kernel
theorem d_law_468 : decode code 468 = .ok (.iadd, 1) := by decide +kernel
theorem d_law_469 : decode code 469 = .ok (.iaload, 1) := by decide +kernel
theorem d_law_470 : decode code 470 = .ok (.aload_n 0, 1) := by decide +kernel
theorem d_law_471 : decode code 471 = .ok (.iload 4, 2) := by decide +kernel
theorem d_law_473 : decode code 473 = .ok (.iconst 4, 1) := by decide +kernel
theorem d_law_474 : decode code 474 = .ok (.iadd, 1) := by decide +kernel
theorem d_law_475 : decode code 475 = .ok (.iaload, 1) := by decide +kernel
theorem d_law_476 : decode code 476 = .ok (.invokevirtual 73, 3) := by decide +kernel
theorem d_law_479 : decode code 479 = .ok (.if_icmp .eq 352, 3) := by decide +kernel
theorem d_law_482 : decode code 482 = .ok (.iconst 0, 1) := by decide +kernel
theorem d_law_483 : decode code 483 = .ok (.ireturn, 1) := by decide +kernel
theorem d_law_484 : decode code 484 = .ok (.aload_n 1, 1) := by decide +kernel
theorem d_law_485 : decode code 485 = .ok (.aload_n 0, 1) := by decide +kernel
theorem d_law_486 : decode code 486 = .ok (.iload 4, 2) := by decide +kernel
theorem d_law_488 : decode code 488 = .ok (.iconst 1, 1) := by decide +kernel
theorem d_law_489 : decode code 489 = .ok (.iadd, 1) := by decide +kernel
theorem d_law_490 : decode code 490 = .ok (.iaload, 1) := by decide +kernel
theorem d_law_491 : decode code 491 = .ok (.aload_n 0, 1) := by decide +kernel
theorem d_law_492 : decode code 492 = .ok (.iload 4, 2) := by decide +kernel
theorem d_law_494 : decode code 494 = .ok (.iconst 2, 1) := by decide +kernel
theorem d_law_495 : decode code 495 = .ok (.iadd, 1) := by decide +kernel
theorem d_law_496 : decode code 496 = .ok (.iaload, 1) := by decide +kernel
theorem d_law_497 : decode code 497 = .ok (.aload_n 0, 1) := by decide +kernel
theorem d_law_498 : decode code 498 = .ok (.iload 4, 2) := by decide +kernel
theorem d_law_500 : decode code 500 = .ok (.iconst 3, 1) := by decide +kernel
theorem d_law_501 : decode code 501 = .ok (.iadd, 1) := by decide +kernel
theorem d_law_502 : decode code 502 = .ok (.iaload, 1) := by decide +kernel
theorem d_law_503 : decode code 503 = .ok (.aload_n 0, 1) := by decide +kernel
theorem d_law_504 : decode code 504 = .ok (.iload 4, 2) := by decide +kernel
theorem d_law_506 : decode code 506 = .ok (.iconst 4, 1) := by decide +kernel
theorem d_law_507 : decode code 507 = .ok (.iadd, 1) := by decide +kernel
theorem d_law_508 : decode code 508 = .ok (.iaload, 1) := by decide +kernel
theorem d_law_509 : decode code 509 = .ok (.aload_n 0, 1) := by decide +kernel
theorem d_law_510 : decode code 510 = .ok (.iload 4, 2) := by decide +kernel
theorem d_law_512 : decode code 512 = .ok (.iconst 5, 1) := by decide +kernel
theorem d_law_513 : decode code 513 = .ok (.iadd, 1) := by decide +kernel
theorem d_law_514 : decode code 514 = .ok (.iaload, 1) := by decide +kernel
theorem d_law_515 : decode code 515 = .ok (.invokevirtual 74, 3) := by decide +kernel
theorem d_law_518 : decode code 518 = .ok (.aload_n 2, 1) := by decide +kernel
theorem d_law_519 : decode code 519 = .ok (.aload_n 0, 1) := by decide +kernel
theorem d_law_520 : decode code 520 = .ok (.iload 4, 2) := by decide +kernel
theorem d_law_522 : decode code 522 = .ok (.iconst 1, 1) := by decide +kernel
theorem d_law_523 : decode code 523 = .ok (.iadd, 1) := by decide +kernel
theorem d_law_524 : decode code 524 = .ok (.iaload, 1) := by decide +kernel
theorem d_law_525 : decode code 525 = .ok (.aload_n 0, 1) := by decide +kernel
theorem d_law_526 : decode code 526 = .ok (.iload 4, 2) := by decide +kernel
theorem d_law_528 : decode code 528 = .ok (.iconst 2, 1) := by decide +kernel
theorem d_law_529 : decode code 529 = .ok (.iadd, 1) := by decide +kernel
theorem d_law_530 : decode code 530 = .ok (.iaload, 1) := by decide +kernel
theorem d_law_531 : decode code 531 = .ok (.aload_n 0, 1) := by decide +kernel
theorem d_law_532 : decode code 532 = .ok (.iload 4, 2) := by decide +kernel
theorem d_law_534 : decode code 534 = .ok (.iconst 3, 1) := by decide +kernel
theorem d_law_535 : decode code 535 = .ok (.iadd, 1) := by decide +kernel
theorem d_law_536 : decode code 536 = .ok (.iaload, 1) := by decide +kernel
theorem d_law_537 : decode code 537 = .ok (.aload_n 0, 1) := by decide +kernel
theorem d_law_538 : decode code 538 = .ok (.iload 4, 2) := by decide +kernel
theorem d_law_540 : decode code 540 = .ok (.iconst 4, 1) := by decide +kernel
theorem d_law_541 : decode code 541 = .ok (.iadd, 1) := by decide +kernel
theorem d_law_542 : decode code 542 = .ok (.iaload, 1) := by decide +kernel
theorem d_law_543 : decode code 543 = .ok (.aload_n 0, 1) := by decide +kernel
theorem d_law_544 : decode code 544 = .ok (.iload 4, 2) := by decide +kernel
theorem d_law_546 : decode code 546 = .ok (.iconst 5, 1) := by decide +kernel
theorem d_law_547 : decode code 547 = .ok (.iadd, 1) := by decide +kernel
theorem d_law_548 : decode code 548 = .ok (.iaload, 1) := by decide +kernel
theorem d_law_549 : decode code 549 = .ok (.invokevirtual 78, 3) := by decide +kernel
theorem d_law_552 : decode code 552 = .ok (.lcmp, 1) := by decide +kernel
theorem d_law_553 : decode code 553 = .ok (.ifCond .eq 278, 3) := by decide +kernel
theorem d_law_556 : decode code 556 = .ok (.iconst 0, 1) := by decide +kernel
theorem d_law_557 : decode code 557 = .ok (.ireturn, 1) := by decide +kernel
theorem d_law_558 : decode code 558 = .ok (.aload_n 1, 1) := by decide +kernel
theorem d_law_559 : decode code 559 = .ok (.aload_n 0, 1) := by decide +kernel
theorem d_law_560 : decode code 560 = .ok (.iload 4, 2) := by decide +kernel
theorem d_law_562 : decode code 562 = .ok (.iconst 1, 1) := by decide +kernel
theorem d_law_563 : decode code 563 = .ok (.iadd, 1) := by decide +kernel
theorem d_law_564 : decode code 564 = .ok (.iaload, 1) := by decide +kernel
theorem d_law_565 : decode code 565 = .ok (.aload_n 0, 1) := by decide +kernel
theorem d_law_566 : decode code 566 = .ok (.iload 4, 2) := by decide +kernel
theorem d_law_568 : decode code 568 = .ok (.iconst 2, 1) := by decide +kernel
theorem d_law_569 : decode code 569 = .ok (.iadd, 1) := by decide +kernel
theorem d_law_570 : decode code 570 = .ok (.iaload, 1) := by decide +kernel
theorem d_law_571 : decode code 571 = .ok (.aload_n 0, 1) := by decide +kernel
theorem d_law_572 : decode code 572 = .ok (.iload 4, 2) := by decide +kernel
theorem d_law_574 : decode code 574 = .ok (.iconst 3, 1) := by decide +kernel
theorem d_law_575 : decode code 575 = .ok (.iadd, 1) := by decide +kernel
theorem d_law_576 : decode code 576 = .ok (.iaload, 1) := by decide +kernel
theorem d_law_577 : decode code 577 = .ok (.aload_n 0, 1) := by decide +kernel
theorem d_law_578 : decode code 578 = .ok (.iload 4, 2) := by decide +kernel
theorem d_law_580 : decode code 580 = .ok (.iconst 4, 1) := by decide +kernel
theorem d_law_581 : decode code 581 = .ok (.iadd, 1) := by decide +kernel
theorem d_law_582 : decode code 582 = .ok (.iaload, 1) := by decide +kernel
theorem d_law_583 : decode code 583 = .ok (.invokevirtual 79, 3) := by decide +kernel
theorem d_law_586 : decode code 586 = .ok (.aload_n 2, 1) := by decide +kernel
theorem d_law_587 : decode code 587 = .ok (.aload_n 0, 1) := by decide +kernel
theorem d_law_588 : decode code 588 = .ok (.iload 4, 2) := by decide +kernel
theorem d_law_590 : decode code 590 = .ok (.iconst 1, 1) := by decide +kernel
theorem d_law_591 : decode code 591 = .ok (.iadd, 1) := by decide +kernel
theorem d_law_592 : decode code 592 = .ok (.iaload, 1) := by decide +kernel
theorem d_law_593 : decode code 593 = .ok (.aload_n 0, 1) := by decide +kernel
theorem d_law_594 : decode code 594 = .ok (.iload 4, 2) := by decide +kernel
theorem d_law_596 : decode code 596 = .ok (.iconst 2, 1) := by decide +kernel
theorem d_law_597 : decode code 597 = .ok (.iadd, 1) := by decide +kernel
theorem d_law_598 : decode code 598 = .ok (.iaload, 1) := by decide +kernel
theorem d_law_599 : decode code 599 = .ok (.aload_n 0, 1) := by decide +kernel
theorem d_law_600 : decode code 600 = .ok (.iload 4, 2) := by decide +kernel
theorem d_law_602 : decode code 602 = .ok (.iconst 3, 1) := by decide +kernel
theorem d_law_603 : decode code 603 = .ok (.iadd, 1) := by decide +kernel
theorem d_law_604 : decode code 604 = .ok (.iaload, 1) := by decide +kernel
theorem d_law_605 : decode code 605 = .ok (.aload_n 0, 1) := by decide +kernel
theorem d_law_606 : decode code 606 = .ok (.iload 4, 2) := by decide +kernel
theorem d_law_608 : decode code 608 = .ok (.iconst 4, 1) := by decide +kernel
theorem d_law_609 : decode code 609 = .ok (.iadd, 1) := by decide +kernel
theorem d_law_610 : decode code 610 = .ok (.iaload, 1) := by decide +kernel
theorem d_law_611 : decode code 611 = .ok (.invokevirtual 82, 3) := by decide +kernel
theorem d_law_614 : decode code 614 = .ok (.if_icmp .eq 217, 3) := by decide +kernel
theorem d_law_617 : decode code 617 = .ok (.iconst 0, 1) := by decide +kernel
theorem d_law_618 : decode code 618 = .ok (.ireturn, 1) := by decide +kernel
theorem d_law_619 : decode code 619 = .ok (.aload_n 1, 1) := by decide +kernel
theorem d_law_620 : decode code 620 = .ok (.aload_n 0, 1) := by decide +kernel
theorem d_law_621 : decode code 621 = .ok (.iload 4, 2) := by decide +kernel
theorem d_law_623 : decode code 623 = .ok (.iconst 1, 1) := by decide +kernel
theorem d_law_624 : decode code 624 = .ok (.iadd, 1) := by decide +kernel
theorem d_law_625 : decode code 625 = .ok (.iaload, 1) := by decide +kernel
theorem d_law_626 : decode code 626 = .ok (.aload_n 0, 1) := by decide +kernel
theorem d_law_627 : decode code 627 = .ok (.iload 4, 2) := by decide +kernel
theorem d_law_629 : decode code 629 = .ok (.iconst 2, 1) := by decide +kernel
theorem d_law_630 : decode code 630 = .ok (.iadd, 1) := by decide +kernel
theorem d_law_631 : decode code 631 = .ok (.iaload, 1) := by decide +kernel
theorem d_law_632 : decode code 632 = .ok (.aload_n 0, 1) := by decide +kernel
theorem d_law_633 : decode code 633 = .ok (.iload 4, 2) := by decide +kernel
theorem d_law_635 : decode code 635 = .ok (.iconst 3, 1) := by decide +kernel
theorem d_law_636 : decode code 636 = .ok (.iadd, 1) := by decide +kernel
theorem d_law_637 : decode code 637 = .ok (.iaload, 1) := by decide +kernel
theorem d_law_638 : decode code 638 = .ok (.aload_n 0, 1) := by decide +kernel
theorem d_law_639 : decode code 639 = .ok (.iload 4, 2) := by decide +kernel
theorem d_law_641 : decode code 641 = .ok (.iconst 4, 1) := by decide +kernel
theorem d_law_642 : decode code 642 = .ok (.iadd, 1) := by decide +kernel
theorem d_law_643 : decode code 643 = .ok (.iaload, 1) := by decide +kernel
theorem d_law_644 : decode code 644 = .ok (.invokevirtual 83, 3) := by decide +kernel
theorem d_law_647 : decode code 647 = .ok (.aload_n 2, 1) := by decide +kernel
theorem d_law_648 : decode code 648 = .ok (.aload_n 0, 1) := by decide +kernel
theorem d_law_649 : decode code 649 = .ok (.iload 4, 2) := by decide +kernel
theorem d_law_651 : decode code 651 = .ok (.iconst 1, 1) := by decide +kernel
theorem d_law_652 : decode code 652 = .ok (.iadd, 1) := by decide +kernel
theorem d_law_653 : decode code 653 = .ok (.iaload, 1) := by decide +kernel
theorem d_law_654 : decode code 654 = .ok (.aload_n 0, 1) := by decide +kernel
theorem d_law_655 : decode code 655 = .ok (.iload 4, 2) := by decide +kernel
theorem d_law_657 : decode code 657 = .ok (.iconst 2, 1) := by decide +kernel
theorem d_law_658 : decode code 658 = .ok (.iadd, 1) := by decide +kernel
theorem d_law_659 : decode code 659 = .ok (.iaload, 1) := by decide +kernel
theorem d_law_660 : decode code 660 = .ok (.aload_n 0, 1) := by decide +kernel
theorem d_law_661 : decode code 661 = .ok (.iload 4, 2) := by decide +kernel
theorem d_law_663 : decode code 663 = .ok (.iconst 3, 1) := by decide +kernel
theorem d_law_664 : decode code 664 = .ok (.iadd, 1) := by decide +kernel
theorem d_law_665 : decode code 665 = .ok (.iaload, 1) := by decide +kernel
theorem d_law_666 : decode code 666 = .ok (.aload_n 0, 1) := by decide +kernel
theorem d_law_667 : decode code 667 = .ok (.iload 4, 2) := by decide +kernel
theorem d_law_669 : decode code 669 = .ok (.iconst 4, 1) := by decide +kernel
theorem d_law_670 : decode code 670 = .ok (.iadd, 1) := by decide +kernel
theorem d_law_671 : decode code 671 = .ok (.iaload, 1) := by decide +kernel
theorem d_law_672 : decode code 672 = .ok (.invokevirtual 86, 3) := by decide +kernel
theorem d_law_675 : decode code 675 = .ok (.if_icmp .eq 156, 3) := by decide +kernel
theorem d_law_678 : decode code 678 = .ok (.iconst 0, 1) := by decide +kernel
theorem d_law_679 : decode code 679 = .ok (.ireturn, 1) := by decide +kernel
theorem d_law_680 : decode code 680 = .ok (.aload_n 1, 1) := by decide +kernel
theorem d_law_681 : decode code 681 = .ok (.aload_n 0, 1) := by decide +kernel
theorem d_law_682 : decode code 682 = .ok (.iload 4, 2) := by decide +kernel
theorem d_law_684 : decode code 684 = .ok (.iconst 1, 1) := by decide +kernel
theorem d_law_685 : decode code 685 = .ok (.iadd, 1) := by decide +kernel
theorem d_law_686 : decode code 686 = .ok (.iaload, 1) := by decide +kernel
theorem d_law_687 : decode code 687 = .ok (.aload_n 0, 1) := by decide +kernel
theorem d_law_688 : decode code 688 = .ok (.iload 4, 2) := by decide +kernel
theorem d_law_690 : decode code 690 = .ok (.iconst 2, 1) := by decide +kernel
theorem d_law_691 : decode code 691 = .ok (.iadd, 1) := by decide +kernel
theorem d_law_692 : decode code 692 = .ok (.iaload, 1) := by decide +kernel
theorem d_law_693 : decode code 693 = .ok (.aload_n 0, 1) := by decide +kernel
theorem d_law_694 : decode code 694 = .ok (.iload 4, 2) := by decide +kernel
theorem d_law_696 : decode code 696 = .ok (.iconst 3, 1) := by decide +kernel
theorem d_law_697 : decode code 697 = .ok (.iadd, 1) := by decide +kernel
theorem d_law_698 : decode code 698 = .ok (.iaload, 1) := by decide +kernel
theorem d_law_699 : decode code 699 = .ok (.aload_n 0, 1) := by decide +kernel
theorem d_law_700 : decode code 700 = .ok (.iload 4, 2) := by decide +kernel
theorem d_law_702 : decode code 702 = .ok (.iconst 4, 1) := by decide +kernel
theorem d_law_703 : decode code 703 = .ok (.iadd, 1) := by decide +kernel
theorem d_law_704 : decode code 704 = .ok (.iaload, 1) := by decide +kernel
theorem d_law_705 : decode code 705 = .ok (.aload_n 0, 1) := by decide +kernel
theorem d_law_706 : decode code 706 = .ok (.iload 4, 2) := by decide +kernel
theorem d_law_708 : decode code 708 = .ok (.iconst 5, 1) := by decide +kernel
theorem d_law_709 : decode code 709 = .ok (.iadd, 1) := by decide +kernel
theorem d_law_710 : decode code 710 = .ok (.iaload, 1) := by decide +kernel
theorem d_law_711 : decode code 711 = .ok (.aload_n 0, 1) := by decide +kernel
theorem d_law_712 : decode code 712 = .ok (.iload 4, 2) := by decide +kernel
theorem d_law_714 : decode code 714 = .ok (.bipush 6, 2) := by decide +kernel
theorem d_law_716 : decode code 716 = .ok (.iadd, 1) := by decide +kernel
theorem d_law_717 : decode code 717 = .ok (.iaload, 1) := by decide +kernel
theorem d_law_718 : decode code 718 = .ok (.invokevirtual 87, 3) := by decide +kernel
theorem d_law_721 : decode code 721 = .ok (.aload_n 2, 1) := by decide +kernel
theorem d_law_722 : decode code 722 = .ok (.aload_n 0, 1) := by decide +kernel
theorem d_law_723 : decode code 723 = .ok (.iload 4, 2) := by decide +kernel
theorem d_law_725 : decode code 725 = .ok (.iconst 1, 1) := by decide +kernel
theorem d_law_726 : decode code 726 = .ok (.iadd, 1) := by decide +kernel
theorem d_law_727 : decode code 727 = .ok (.iaload, 1) := by decide +kernel
theorem d_law_728 : decode code 728 = .ok (.aload_n 0, 1) := by decide +kernel
theorem d_law_729 : decode code 729 = .ok (.iload 4, 2) := by decide +kernel
theorem d_law_731 : decode code 731 = .ok (.iconst 2, 1) := by decide +kernel
theorem d_law_732 : decode code 732 = .ok (.iadd, 1) := by decide +kernel
theorem d_law_733 : decode code 733 = .ok (.iaload, 1) := by decide +kernel
theorem d_law_734 : decode code 734 = .ok (.aload_n 0, 1) := by decide +kernel
theorem d_law_735 : decode code 735 = .ok (.iload 4, 2) := by decide +kernel
theorem d_law_737 : decode code 737 = .ok (.iconst 3, 1) := by decide +kernel
theorem d_law_738 : decode code 738 = .ok (.iadd, 1) := by decide +kernel
theorem d_law_739 : decode code 739 = .ok (.iaload, 1) := by decide +kernel
theorem d_law_740 : decode code 740 = .ok (.aload_n 0, 1) := by decide +kernel
theorem d_law_741 : decode code 741 = .ok (.iload 4, 2) := by decide +kernel
theorem d_law_743 : decode code 743 = .ok (.iconst 4, 1) := by decide +kernel
theorem d_law_744 : decode code 744 = .ok (.iadd, 1) := by decide +kernel
theorem d_law_745 : decode code 745 = .ok (.iaload, 1) := by decide +kernel
theorem d_law_746 : decode code 746 = .ok (.aload_n 0, 1) := by decide +kernel
theorem d_law_747 : decode code 747 = .ok (.iload 4, 2) := by decide +kernel
theorem d_law_749 : decode code 749 = .ok (.iconst 5, 1) := by decide +kernel
theorem d_law_750 : decode code 750 = .ok (.iadd, 1) := by decide +kernel
theorem d_law_751 : decode code 751 = .ok (.iaload, 1) := by decide +kernel
theorem d_law_752 : decode code 752 = .ok (.aload_n 0, 1) := by decide +kernel
theorem d_law_753 : decode code 753 = .ok (.iload 4, 2) := by decide +kernel
theorem d_law_755 : decode code 755 = .ok (.bipush 6, 2) := by decide +kernel
theorem d_law_757 : decode code 757 = .ok (.iadd, 1) := by decide +kernel
theorem d_law_758 : decode code 758 = .ok (.iaload, 1) := by decide +kernel
theorem d_law_759 : decode code 759 = .ok (.invokevirtual 91, 3) := by decide +kernel
theorem d_law_762 : decode code 762 = .ok (.if_icmp .eq 69, 3) := by decide +kernel
theorem d_law_765 : decode code 765 = .ok (.iconst 0, 1) := by decide +kernel
theorem d_law_766 : decode code 766 = .ok (.ireturn, 1) := by decide +kernel
theorem d_law_767 : decode code 767 = .ok (.aload_n 1, 1) := by decide +kernel
theorem d_law_768 : decode code 768 = .ok (.aload_n 0, 1) := by decide +kernel
theorem d_law_769 : decode code 769 = .ok (.iload 4, 2) := by decide +kernel
theorem d_law_771 : decode code 771 = .ok (.iconst 1, 1) := by decide +kernel
theorem d_law_772 : decode code 772 = .ok (.iadd, 1) := by decide +kernel
theorem d_law_773 : decode code 773 = .ok (.iaload, 1) := by decide +kernel
theorem d_law_774 : decode code 774 = .ok (.aload_n 0, 1) := by decide +kernel
theorem d_law_775 : decode code 775 = .ok (.iload 4, 2) := by decide +kernel
theorem d_law_777 : decode code 777 = .ok (.iconst 2, 1) := by decide +kernel
theorem d_law_778 : decode code 778 = .ok (.iadd, 1) := by decide +kernel
theorem d_law_779 : decode code 779 = .ok (.iaload, 1) := by decide +kernel
theorem d_law_780 : decode code 780 = .ok (.invokevirtual 92, 3) := by decide +kernel
theorem d_law_783 : decode code 783 = .ok (.aload_n 2, 1) := by decide +kernel
theorem d_law_784 : decode code 784 = .ok (.aload_n 0, 1) := by decide +kernel
theorem d_law_785 : decode code 785 = .ok (.iload 4, 2) := by decide +kernel
theorem d_law_787 : decode code 787 = .ok (.iconst 1, 1) := by decide +kernel
theorem d_law_788 : decode code 788 = .ok (.iadd, 1) := by decide +kernel
theorem d_law_789 : decode code 789 = .ok (.iaload, 1) := by decide +kernel
theorem d_law_790 : decode code 790 = .ok (.aload_n 0, 1) := by decide +kernel
theorem d_law_791 : decode code 791 = .ok (.iload 4, 2) := by decide +kernel
theorem d_law_793 : decode code 793 = .ok (.iconst 2, 1) := by decide +kernel
theorem d_law_794 : decode code 794 = .ok (.iadd, 1) := by decide +kernel
theorem d_law_795 : decode code 795 = .ok (.iaload, 1) := by decide +kernel
theorem d_law_796 : decode code 796 = .ok (.invokevirtual 95, 3) := by decide +kernel
theorem d_law_799 : decode code 799 = .ok (.lcmp, 1) := by decide +kernel
theorem d_law_800 : decode code 800 = .ok (.ifCond .eq 31, 3) := by decide +kernel
theorem d_law_803 : decode code 803 = .ok (.iconst 0, 1) := by decide +kernel
theorem d_law_804 : decode code 804 = .ok (.ireturn, 1) := by decide +kernel
theorem d_law_805 : decode code 805 = .ok (.aload_n 1, 1) := by decide +kernel
theorem d_law_806 : decode code 806 = .ok (.invokevirtual 96, 3) := by decide +kernel
theorem d_law_809 : decode code 809 = .ok (.aload_n 2, 1) := by decide +kernel
theorem d_law_810 : decode code 810 = .ok (.invokevirtual 99, 3) := by decide +kernel
theorem d_law_813 : decode code 813 = .ok (.if_icmp .eq 18, 3) := by decide +kernel
theorem d_law_816 : decode code 816 = .ok (.iconst 0, 1) := by decide +kernel
theorem d_law_817 : decode code 817 = .ok (.ireturn, 1) := by decide +kernel
theorem d_law_818 : decode code 818 = .ok (.aload_n 1, 1) := by decide +kernel
theorem d_law_819 : decode code 819 = .ok (.invokevirtual 100, 3) := by decide +kernel
theorem d_law_822 : decode code 822 = .ok (.aload_n 2, 1) := by decide +kernel
theorem d_law_823 : decode code 823 = .ok (.invokevirtual 103, 3) := by decide +kernel
theorem d_law_826 : decode code 826 = .ok (.if_icmp .eq 5, 3) := by decide +kernel
theorem d_law_829 : decode code 829 = .ok (.iconst 0, 1) := by decide +kernel
theorem d_law_830 : decode code 830 = .ok (.ireturn, 1) := by decide +kernel
theorem d_law_831 : decode code 831 = .ok (.iinc 4 7, 3) := by decide +kernel
theorem d_law_834 : decode code 834 = .ok (.goto (-811), 3) := by decide +kernel
theorem d_law_837 : decode code 837 = .ok (.iconst 1, 1) := by decide +kernel
theorem d_law_838 : decode code 838 = .ok (.ireturn, 1) := by decide +kernel
theorem d_L_height_0 : decode b_L_height 0 = .ok (.aload_n 2, 1) := by decide +kernel
theorem d_L_height_1 : decode b_L_height 1 = .ok (.iconst 0, 1) := by decide +kernel
theorem d_L_height_2 : decode b_L_height 2 = .ok (.aload_n 0, 1) := by decide +kernel
theorem d_L_height_3 : decode b_L_height 3 = .ok (.iload_n 1, 1) := by decide +kernel
theorem d_L_height_4 : decode b_L_height 4 = .ok (.invokevirtual 7, 3) := by decide +kernel
theorem d_L_height_7 : decode b_L_height 7 = .ok (.lastore, 1) := by decide +kernel
theorem d_L_height_8 : decode b_L_height 8 = .ok (.goto 6, 3) := by decide +kernel
theorem d_L_height_11 : decode b_L_height 11 = .ok (.astore_n 3, 1) := by decide +kernel
theorem d_L_height_12 : decode b_L_height 12 = .ok (.iconst 1, 1) := by decide +kernel
theorem d_L_height_13 : decode b_L_height 13 = .ok (.ireturn, 1) := by decide +kernel
theorem d_L_height_14 : decode b_L_height 14 = .ok (.iconst 0, 1) := by decide +kernel
theorem d_L_height_15 : decode b_L_height 15 = .ok (.ireturn, 1) := by decide +kernel


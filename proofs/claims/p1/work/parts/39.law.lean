-- 39.law: the law's world, the head of its loop, the rows that its arms use
theorem d_L_law_0 : decode code 0 = .ok (.new 8, 3) := by decide +kernel
theorem d_L_law_3 : decode code 3 = .ok (.dup, 1) := by decide +kernel
theorem d_L_law_4 : decode code 4 = .ok (.invokespecial 15, 3) := by decide +kernel
theorem d_L_law_7 : decode code 7 = .ok (.astore_n 1, 1) := by decide +kernel
theorem d_L_law_8 : decode code 8 = .ok (.new 16, 3) := by decide +kernel
theorem d_L_law_11 : decode code 11 = .ok (.dup, 1) := by decide +kernel
theorem d_L_law_12 : decode code 12 = .ok (.invokespecial 18, 3) := by decide +kernel
theorem d_L_law_15 : decode code 15 = .ok (.astore_n 2, 1) := by decide +kernel
theorem d_L_law_16 : decode code 16 = .ok (.iconst 1, 1) := by decide +kernel
theorem d_L_law_17 : decode code 17 = .ok (.newarray .long, 2) := by decide +kernel
theorem d_L_law_19 : decode code 19 = .ok (.astore_n 3, 1) := by decide +kernel
theorem d_L_law_20 : decode code 20 = .ok (.iconst 0, 1) := by decide +kernel
theorem d_L_law_21 : decode code 21 = .ok (.istore 4, 2) := by decide +kernel
theorem d_L_law_23 : decode code 23 = .ok (.iload 4, 2) := by decide +kernel
theorem d_L_law_25 : decode code 25 = .ok (.aload_n 0, 1) := by decide +kernel
theorem d_L_law_26 : decode code 26 = .ok (.arraylength, 1) := by decide +kernel
theorem d_L_law_27 : decode code 27 = .ok (.bipush 6, 2) := by decide +kernel
theorem d_L_law_29 : decode code 29 = .ok (.isub, 1) := by decide +kernel
theorem d_L_law_30 : decode code 30 = .ok (.if_icmp .gt 793, 3) := by decide +kernel
theorem d_L_law_33 : decode code 33 = .ok (.aload_n 0, 1) := by decide +kernel
theorem d_L_law_34 : decode code 34 = .ok (.iload 4, 2) := by decide +kernel
theorem d_L_law_36 : decode code 36 = .ok (.iaload, 1) := by decide +kernel
theorem d_L_law_37 : decode code 37 = .ok (.bipush 15, 2) := by decide +kernel
theorem d_L_law_39 : decode code 39 = .ok (.iand, 1) := by decide +kernel
theorem d_L_law_40 : decode code 40 = .ok (.tableswitch 777 0 15 #[80, 103, 116, 153, 210, 259, 329, 386, 479, 516, 541, 566, 591, 658, 727, 752], 80) := by decide +kernel
theorem d_L_law_120 : decode code 120 = .ok (.aload_n 1, 1) := by decide +kernel
theorem d_L_law_121 : decode code 121 = .ok (.aload_n 0, 1) := by decide +kernel
theorem d_L_law_122 : decode code 122 = .ok (.iload 4, 2) := by decide +kernel
theorem d_L_law_124 : decode code 124 = .ok (.iconst 1, 1) := by decide +kernel
theorem d_L_law_125 : decode code 125 = .ok (.iadd, 1) := by decide +kernel
theorem d_L_law_126 : decode code 126 = .ok (.iaload, 1) := by decide +kernel
theorem d_L_law_127 : decode code 127 = .ok (.invokevirtual 19, 3) := by decide +kernel
theorem d_L_law_130 : decode code 130 = .ok (.aload_n 2, 1) := by decide +kernel
theorem d_L_law_131 : decode code 131 = .ok (.aload_n 0, 1) := by decide +kernel
theorem d_L_law_132 : decode code 132 = .ok (.iload 4, 2) := by decide +kernel
theorem d_L_law_134 : decode code 134 = .ok (.iconst 1, 1) := by decide +kernel
theorem d_L_law_135 : decode code 135 = .ok (.iadd, 1) := by decide +kernel
theorem d_L_law_136 : decode code 136 = .ok (.iaload, 1) := by decide +kernel
theorem d_L_law_137 : decode code 137 = .ok (.invokevirtual 23, 3) := by decide +kernel
theorem d_L_law_140 : decode code 140 = .ok (.goto 677, 3) := by decide +kernel
theorem d_L_law_143 : decode code 143 = .ok (.aload_n 1, 1) := by decide +kernel
theorem d_L_law_144 : decode code 144 = .ok (.invokevirtual 24, 3) := by decide +kernel
theorem d_L_law_147 : decode code 147 = .ok (.aload_n 2, 1) := by decide +kernel
theorem d_L_law_148 : decode code 148 = .ok (.invokevirtual 28, 3) := by decide +kernel
theorem d_L_law_151 : decode code 151 = .ok (.if_icmp .eq 666, 3) := by decide +kernel
theorem d_L_law_154 : decode code 154 = .ok (.iconst 0, 1) := by decide +kernel
theorem d_L_law_155 : decode code 155 = .ok (.ireturn, 1) := by decide +kernel
theorem d_L_law_156 : decode code 156 = .ok (.aload_n 1, 1) := by decide +kernel
theorem d_L_law_157 : decode code 157 = .ok (.aload_n 0, 1) := by decide +kernel
theorem d_L_law_158 : decode code 158 = .ok (.iload 4, 2) := by decide +kernel
theorem d_L_law_160 : decode code 160 = .ok (.iconst 1, 1) := by decide +kernel
theorem d_L_law_161 : decode code 161 = .ok (.iadd, 1) := by decide +kernel
theorem d_L_law_162 : decode code 162 = .ok (.iaload, 1) := by decide +kernel
theorem d_L_law_163 : decode code 163 = .ok (.aload_n 0, 1) := by decide +kernel
theorem d_L_law_164 : decode code 164 = .ok (.iload 4, 2) := by decide +kernel
theorem d_L_law_166 : decode code 166 = .ok (.iconst 2, 1) := by decide +kernel
theorem d_L_law_167 : decode code 167 = .ok (.iadd, 1) := by decide +kernel
theorem d_L_law_168 : decode code 168 = .ok (.iaload, 1) := by decide +kernel
theorem d_L_law_169 : decode code 169 = .ok (.invokevirtual 29, 3) := by decide +kernel
theorem d_L_law_172 : decode code 172 = .ok (.aload_n 2, 1) := by decide +kernel
theorem d_L_law_173 : decode code 173 = .ok (.aload_n 0, 1) := by decide +kernel
theorem d_L_law_174 : decode code 174 = .ok (.iload 4, 2) := by decide +kernel
theorem d_L_law_176 : decode code 176 = .ok (.iconst 1, 1) := by decide +kernel
theorem d_L_law_177 : decode code 177 = .ok (.iadd, 1) := by decide +kernel
theorem d_L_law_178 : decode code 178 = .ok (.iaload, 1) := by decide +kernel
theorem d_L_law_179 : decode code 179 = .ok (.aload_n 0, 1) := by decide +kernel
theorem d_L_law_180 : decode code 180 = .ok (.iload 4, 2) := by decide +kernel
theorem d_L_law_182 : decode code 182 = .ok (.iconst 2, 1) := by decide +kernel
theorem d_L_law_183 : decode code 183 = .ok (.iadd, 1) := by decide +kernel
theorem d_L_law_184 : decode code 184 = .ok (.iaload, 1) := by decide +kernel
theorem d_L_law_185 : decode code 185 = .ok (.invokevirtual 33, 3) := by decide +kernel
theorem d_L_law_188 : decode code 188 = .ok (.if_icmp .eq 629, 3) := by decide +kernel
theorem d_L_law_191 : decode code 191 = .ok (.iconst 0, 1) := by decide +kernel
theorem d_L_law_192 : decode code 192 = .ok (.ireturn, 1) := by decide +kernel
theorem d_L_law_193 : decode code 193 = .ok (.aload_n 1, 1) := by decide +kernel
theorem d_L_law_194 : decode code 194 = .ok (.aload_n 0, 1) := by decide +kernel
theorem d_L_law_195 : decode code 195 = .ok (.iload 4, 2) := by decide +kernel
theorem d_L_law_197 : decode code 197 = .ok (.iconst 1, 1) := by decide +kernel
theorem d_L_law_198 : decode code 198 = .ok (.iadd, 1) := by decide +kernel
theorem d_L_law_199 : decode code 199 = .ok (.iaload, 1) := by decide +kernel
theorem d_L_law_200 : decode code 200 = .ok (.i2l, 1) := by decide +kernel
theorem d_L_law_201 : decode code 201 = .ok (.bipush 32, 2) := by decide +kernel
theorem d_L_law_203 : decode code 203 = .ok (.lshl, 1) := by decide +kernel
theorem d_L_law_204 : decode code 204 = .ok (.aload_n 0, 1) := by decide +kernel
theorem d_L_law_205 : decode code 205 = .ok (.iload 4, 2) := by decide +kernel
theorem d_L_law_207 : decode code 207 = .ok (.iconst 2, 1) := by decide +kernel
theorem d_L_law_208 : decode code 208 = .ok (.iadd, 1) := by decide +kernel
theorem d_L_law_209 : decode code 209 = .ok (.iaload, 1) := by decide +kernel
theorem d_L_law_210 : decode code 210 = .ok (.i2l, 1) := by decide +kernel
theorem d_L_law_211 : decode code 211 = .ok (.ldc2_w 34, 3) := by decide +kernel
theorem d_L_law_214 : decode code 214 = .ok (.land, 1) := by decide +kernel
theorem d_L_law_215 : decode code 215 = .ok (.lor, 1) := by decide +kernel
theorem d_L_law_216 : decode code 216 = .ok (.invokevirtual 36, 3) := by decide +kernel
theorem d_L_law_219 : decode code 219 = .ok (.aload_n 2, 1) := by decide +kernel
theorem d_L_law_220 : decode code 220 = .ok (.aload_n 0, 1) := by decide +kernel
theorem d_L_law_221 : decode code 221 = .ok (.iload 4, 2) := by decide +kernel
theorem d_L_law_223 : decode code 223 = .ok (.iconst 1, 1) := by decide +kernel
theorem d_L_law_224 : decode code 224 = .ok (.iadd, 1) := by decide +kernel
theorem d_L_law_225 : decode code 225 = .ok (.iaload, 1) := by decide +kernel
theorem d_L_law_226 : decode code 226 = .ok (.i2l, 1) := by decide +kernel
theorem d_L_law_227 : decode code 227 = .ok (.bipush 32, 2) := by decide +kernel
theorem d_L_law_229 : decode code 229 = .ok (.lshl, 1) := by decide +kernel
theorem d_L_law_230 : decode code 230 = .ok (.aload_n 0, 1) := by decide +kernel
theorem d_L_law_231 : decode code 231 = .ok (.iload 4, 2) := by decide +kernel
theorem d_L_law_233 : decode code 233 = .ok (.iconst 2, 1) := by decide +kernel
theorem d_L_law_234 : decode code 234 = .ok (.iadd, 1) := by decide +kernel
theorem d_L_law_235 : decode code 235 = .ok (.iaload, 1) := by decide +kernel
theorem d_L_law_236 : decode code 236 = .ok (.i2l, 1) := by decide +kernel
theorem d_L_law_237 : decode code 237 = .ok (.ldc2_w 34, 3) := by decide +kernel
theorem d_L_law_240 : decode code 240 = .ok (.land, 1) := by decide +kernel
theorem d_L_law_241 : decode code 241 = .ok (.lor, 1) := by decide +kernel
theorem d_L_law_242 : decode code 242 = .ok (.invokevirtual 40, 3) := by decide +kernel
theorem d_L_law_245 : decode code 245 = .ok (.if_icmp .eq 572, 3) := by decide +kernel
theorem d_L_law_248 : decode code 248 = .ok (.iconst 0, 1) := by decide +kernel
theorem d_L_law_249 : decode code 249 = .ok (.ireturn, 1) := by decide +kernel
theorem d_L_law_250 : decode code 250 = .ok (.aload_n 1, 1) := by decide +kernel
theorem d_L_law_251 : decode code 251 = .ok (.aload_n 0, 1) := by decide +kernel
theorem d_L_law_252 : decode code 252 = .ok (.iload 4, 2) := by decide +kernel
theorem d_L_law_254 : decode code 254 = .ok (.iconst 1, 1) := by decide +kernel
theorem d_L_law_255 : decode code 255 = .ok (.iadd, 1) := by decide +kernel
theorem d_L_law_256 : decode code 256 = .ok (.iaload, 1) := by decide +kernel
theorem d_L_law_257 : decode code 257 = .ok (.aload_n 0, 1) := by decide +kernel
theorem d_L_law_258 : decode code 258 = .ok (.iload 4, 2) := by decide +kernel
theorem d_L_law_260 : decode code 260 = .ok (.iconst 2, 1) := by decide +kernel
theorem d_L_law_261 : decode code 261 = .ok (.iadd, 1) := by decide +kernel
theorem d_L_law_262 : decode code 262 = .ok (.iaload, 1) := by decide +kernel
theorem d_L_law_263 : decode code 263 = .ok (.aload_n 0, 1) := by decide +kernel
theorem d_L_law_264 : decode code 264 = .ok (.iload 4, 2) := by decide +kernel
theorem d_L_law_266 : decode code 266 = .ok (.iconst 3, 1) := by decide +kernel
theorem d_L_law_267 : decode code 267 = .ok (.iadd, 1) := by decide +kernel
theorem d_L_law_268 : decode code 268 = .ok (.iaload, 1) := by decide +kernel
theorem d_L_law_269 : decode code 269 = .ok (.invokevirtual 41, 3) := by decide +kernel
theorem d_L_law_272 : decode code 272 = .ok (.aload_n 2, 1) := by decide +kernel
theorem d_L_law_273 : decode code 273 = .ok (.aload_n 0, 1) := by decide +kernel
theorem d_L_law_274 : decode code 274 = .ok (.iload 4, 2) := by decide +kernel
theorem d_L_law_276 : decode code 276 = .ok (.iconst 1, 1) := by decide +kernel
theorem d_L_law_277 : decode code 277 = .ok (.iadd, 1) := by decide +kernel
theorem d_L_law_278 : decode code 278 = .ok (.iaload, 1) := by decide +kernel
theorem d_L_law_279 : decode code 279 = .ok (.aload_n 0, 1) := by decide +kernel
theorem d_L_law_280 : decode code 280 = .ok (.iload 4, 2) := by decide +kernel
theorem d_L_law_282 : decode code 282 = .ok (.iconst 2, 1) := by decide +kernel
theorem d_L_law_283 : decode code 283 = .ok (.iadd, 1) := by decide +kernel
theorem d_L_law_284 : decode code 284 = .ok (.iaload, 1) := by decide +kernel
theorem d_L_law_285 : decode code 285 = .ok (.aload_n 0, 1) := by decide +kernel
theorem d_L_law_286 : decode code 286 = .ok (.iload 4, 2) := by decide +kernel
theorem d_L_law_288 : decode code 288 = .ok (.iconst 3, 1) := by decide +kernel
theorem d_L_law_289 : decode code 289 = .ok (.iadd, 1) := by decide +kernel
theorem d_L_law_290 : decode code 290 = .ok (.iaload, 1) := by decide +kernel
theorem d_L_law_291 : decode code 291 = .ok (.invokevirtual 45, 3) := by decide +kernel
theorem d_L_law_294 : decode code 294 = .ok (.if_icmp .eq 523, 3) := by decide +kernel
theorem d_L_law_297 : decode code 297 = .ok (.iconst 0, 1) := by decide +kernel
theorem d_L_law_298 : decode code 298 = .ok (.ireturn, 1) := by decide +kernel
theorem d_L_law_299 : decode code 299 = .ok (.aload_n 1, 1) := by decide +kernel
theorem d_L_law_300 : decode code 300 = .ok (.aload_n 0, 1) := by decide +kernel
theorem d_L_law_301 : decode code 301 = .ok (.iload 4, 2) := by decide +kernel
theorem d_L_law_303 : decode code 303 = .ok (.iconst 1, 1) := by decide +kernel
theorem d_L_law_304 : decode code 304 = .ok (.iadd, 1) := by decide +kernel
theorem d_L_law_305 : decode code 305 = .ok (.iaload, 1) := by decide +kernel
theorem d_L_law_306 : decode code 306 = .ok (.aload_n 0, 1) := by decide +kernel
theorem d_L_law_307 : decode code 307 = .ok (.iload 4, 2) := by decide +kernel
theorem d_L_law_309 : decode code 309 = .ok (.iconst 2, 1) := by decide +kernel
theorem d_L_law_310 : decode code 310 = .ok (.iadd, 1) := by decide +kernel
theorem d_L_law_311 : decode code 311 = .ok (.iaload, 1) := by decide +kernel
theorem d_L_law_312 : decode code 312 = .ok (.i2l, 1) := by decide +kernel
theorem d_L_law_313 : decode code 313 = .ok (.bipush 32, 2) := by decide +kernel
theorem d_L_law_315 : decode code 315 = .ok (.lshl, 1) := by decide +kernel
theorem d_L_law_316 : decode code 316 = .ok (.aload_n 0, 1) := by decide +kernel
theorem d_L_law_317 : decode code 317 = .ok (.iload 4, 2) := by decide +kernel
theorem d_L_law_319 : decode code 319 = .ok (.iconst 3, 1) := by decide +kernel
theorem d_L_law_320 : decode code 320 = .ok (.iadd, 1) := by decide +kernel
theorem d_L_law_321 : decode code 321 = .ok (.iaload, 1) := by decide +kernel
theorem d_L_law_322 : decode code 322 = .ok (.i2l, 1) := by decide +kernel
theorem d_L_law_323 : decode code 323 = .ok (.ldc2_w 34, 3) := by decide +kernel
theorem d_L_law_326 : decode code 326 = .ok (.land, 1) := by decide +kernel
theorem d_L_law_327 : decode code 327 = .ok (.lor, 1) := by decide +kernel
theorem d_L_law_328 : decode code 328 = .ok (.invokevirtual 46, 3) := by decide +kernel
theorem d_L_law_331 : decode code 331 = .ok (.aload_n 2, 1) := by decide +kernel
theorem d_L_law_332 : decode code 332 = .ok (.aload_n 0, 1) := by decide +kernel
theorem d_L_law_333 : decode code 333 = .ok (.iload 4, 2) := by decide +kernel
theorem d_L_law_335 : decode code 335 = .ok (.iconst 1, 1) := by decide +kernel
theorem d_L_law_336 : decode code 336 = .ok (.iadd, 1) := by decide +kernel
theorem d_L_law_337 : decode code 337 = .ok (.iaload, 1) := by decide +kernel
theorem d_L_law_338 : decode code 338 = .ok (.aload_n 0, 1) := by decide +kernel
theorem d_L_law_339 : decode code 339 = .ok (.iload 4, 2) := by decide +kernel
theorem d_L_law_341 : decode code 341 = .ok (.iconst 2, 1) := by decide +kernel
theorem d_L_law_342 : decode code 342 = .ok (.iadd, 1) := by decide +kernel
theorem d_L_law_343 : decode code 343 = .ok (.iaload, 1) := by decide +kernel
theorem d_L_law_344 : decode code 344 = .ok (.i2l, 1) := by decide +kernel
theorem d_L_law_345 : decode code 345 = .ok (.bipush 32, 2) := by decide +kernel
theorem d_L_law_347 : decode code 347 = .ok (.lshl, 1) := by decide +kernel
theorem d_L_law_348 : decode code 348 = .ok (.aload_n 0, 1) := by decide +kernel
theorem d_L_law_349 : decode code 349 = .ok (.iload 4, 2) := by decide +kernel
theorem d_L_law_351 : decode code 351 = .ok (.iconst 3, 1) := by decide +kernel
theorem d_L_law_352 : decode code 352 = .ok (.iadd, 1) := by decide +kernel
theorem d_L_law_353 : decode code 353 = .ok (.iaload, 1) := by decide +kernel
theorem d_L_law_354 : decode code 354 = .ok (.i2l, 1) := by decide +kernel
theorem d_L_law_355 : decode code 355 = .ok (.ldc2_w 34, 3) := by decide +kernel
theorem d_L_law_358 : decode code 358 = .ok (.land, 1) := by decide +kernel
theorem d_L_law_359 : decode code 359 = .ok (.lor, 1) := by decide +kernel
theorem d_L_law_360 : decode code 360 = .ok (.invokevirtual 50, 3) := by decide +kernel
theorem d_L_law_363 : decode code 363 = .ok (.lcmp, 1) := by decide +kernel
theorem d_L_law_364 : decode code 364 = .ok (.ifCond .eq 453, 3) := by decide +kernel
theorem d_L_law_367 : decode code 367 = .ok (.iconst 0, 1) := by decide +kernel
theorem d_L_law_368 : decode code 368 = .ok (.ireturn, 1) := by decide +kernel
theorem d_L_law_369 : decode code 369 = .ok (.aload_n 1, 1) := by decide +kernel
theorem d_L_law_370 : decode code 370 = .ok (.aload_n 0, 1) := by decide +kernel
theorem d_L_law_371 : decode code 371 = .ok (.iload 4, 2) := by decide +kernel
theorem d_L_law_373 : decode code 373 = .ok (.iconst 1, 1) := by decide +kernel
theorem d_L_law_374 : decode code 374 = .ok (.iadd, 1) := by decide +kernel
theorem d_L_law_375 : decode code 375 = .ok (.iaload, 1) := by decide +kernel
theorem d_L_law_376 : decode code 376 = .ok (.i2l, 1) := by decide +kernel
theorem d_L_law_377 : decode code 377 = .ok (.bipush 32, 2) := by decide +kernel
theorem d_L_law_379 : decode code 379 = .ok (.lshl, 1) := by decide +kernel
theorem d_L_law_380 : decode code 380 = .ok (.aload_n 0, 1) := by decide +kernel
theorem d_L_law_381 : decode code 381 = .ok (.iload 4, 2) := by decide +kernel
theorem d_L_law_383 : decode code 383 = .ok (.iconst 2, 1) := by decide +kernel
theorem d_L_law_384 : decode code 384 = .ok (.iadd, 1) := by decide +kernel
theorem d_L_law_385 : decode code 385 = .ok (.iaload, 1) := by decide +kernel
theorem d_L_law_386 : decode code 386 = .ok (.i2l, 1) := by decide +kernel
theorem d_L_law_387 : decode code 387 = .ok (.ldc2_w 34, 3) := by decide +kernel
theorem d_L_law_390 : decode code 390 = .ok (.land, 1) := by decide +kernel
theorem d_L_law_391 : decode code 391 = .ok (.lor, 1) := by decide +kernel
theorem d_L_law_392 : decode code 392 = .ok (.invokevirtual 51, 3) := by decide +kernel
theorem d_L_law_395 : decode code 395 = .ok (.aload_n 2, 1) := by decide +kernel
theorem d_L_law_396 : decode code 396 = .ok (.aload_n 0, 1) := by decide +kernel
theorem d_L_law_397 : decode code 397 = .ok (.iload 4, 2) := by decide +kernel
theorem d_L_law_399 : decode code 399 = .ok (.iconst 1, 1) := by decide +kernel
theorem d_L_law_400 : decode code 400 = .ok (.iadd, 1) := by decide +kernel
theorem d_L_law_401 : decode code 401 = .ok (.iaload, 1) := by decide +kernel
theorem d_L_law_402 : decode code 402 = .ok (.i2l, 1) := by decide +kernel
theorem d_L_law_403 : decode code 403 = .ok (.bipush 32, 2) := by decide +kernel
theorem d_L_law_405 : decode code 405 = .ok (.lshl, 1) := by decide +kernel
theorem d_L_law_406 : decode code 406 = .ok (.aload_n 0, 1) := by decide +kernel
theorem d_L_law_407 : decode code 407 = .ok (.iload 4, 2) := by decide +kernel
theorem d_L_law_409 : decode code 409 = .ok (.iconst 2, 1) := by decide +kernel
theorem d_L_law_410 : decode code 410 = .ok (.iadd, 1) := by decide +kernel
theorem d_L_law_411 : decode code 411 = .ok (.iaload, 1) := by decide +kernel
theorem d_L_law_412 : decode code 412 = .ok (.i2l, 1) := by decide +kernel
theorem d_L_law_413 : decode code 413 = .ok (.ldc2_w 34, 3) := by decide +kernel
theorem d_L_law_416 : decode code 416 = .ok (.land, 1) := by decide +kernel
theorem d_L_law_417 : decode code 417 = .ok (.lor, 1) := by decide +kernel
theorem d_L_law_418 : decode code 418 = .ok (.invokevirtual 54, 3) := by decide +kernel
theorem d_L_law_421 : decode code 421 = .ok (.if_icmp .eq 396, 3) := by decide +kernel
theorem d_L_law_424 : decode code 424 = .ok (.iconst 0, 1) := by decide +kernel
theorem d_L_law_425 : decode code 425 = .ok (.ireturn, 1) := by decide +kernel
theorem d_L_law_426 : decode code 426 = .ok (.aload_n 1, 1) := by decide +kernel
theorem d_L_law_427 : decode code 427 = .ok (.aload_n 0, 1) := by decide +kernel
theorem d_L_law_428 : decode code 428 = .ok (.iload 4, 2) := by decide +kernel
theorem d_L_law_430 : decode code 430 = .ok (.iconst 1, 1) := by decide +kernel
theorem d_L_law_431 : decode code 431 = .ok (.iadd, 1) := by decide +kernel
theorem d_L_law_432 : decode code 432 = .ok (.iaload, 1) := by decide +kernel
theorem d_L_law_433 : decode code 433 = .ok (.aload_n 0, 1) := by decide +kernel
theorem d_L_law_434 : decode code 434 = .ok (.iload 4, 2) := by decide +kernel
theorem d_L_law_436 : decode code 436 = .ok (.iconst 2, 1) := by decide +kernel
theorem d_L_law_437 : decode code 437 = .ok (.iadd, 1) := by decide +kernel
theorem d_L_law_438 : decode code 438 = .ok (.iaload, 1) := by decide +kernel
theorem d_L_law_439 : decode code 439 = .ok (.aload_n 0, 1) := by decide +kernel
theorem d_L_law_440 : decode code 440 = .ok (.iload 4, 2) := by decide +kernel
theorem d_L_law_442 : decode code 442 = .ok (.iconst 3, 1) := by decide +kernel
theorem d_L_law_443 : decode code 443 = .ok (.iadd, 1) := by decide +kernel
theorem d_L_law_444 : decode code 444 = .ok (.iaload, 1) := by decide +kernel
theorem d_L_law_445 : decode code 445 = .ok (.aload_n 0, 1) := by decide +kernel
theorem d_L_law_446 : decode code 446 = .ok (.iload 4, 2) := by decide +kernel
theorem d_L_law_448 : decode code 448 = .ok (.iconst 4, 1) := by decide +kernel
theorem d_L_law_449 : decode code 449 = .ok (.iadd, 1) := by decide +kernel
theorem d_L_law_450 : decode code 450 = .ok (.iaload, 1) := by decide +kernel
theorem d_L_law_451 : decode code 451 = .ok (.i2l, 1) := by decide +kernel
theorem d_L_law_452 : decode code 452 = .ok (.bipush 32, 2) := by decide +kernel
theorem d_L_law_454 : decode code 454 = .ok (.lshl, 1) := by decide +kernel
theorem d_L_law_455 : decode code 455 = .ok (.aload_n 0, 1) := by decide +kernel
theorem d_L_law_456 : decode code 456 = .ok (.iload 4, 2) := by decide +kernel
theorem d_L_law_458 : decode code 458 = .ok (.iconst 5, 1) := by decide +kernel
theorem d_L_law_459 : decode code 459 = .ok (.iadd, 1) := by decide +kernel
theorem d_L_law_460 : decode code 460 = .ok (.iaload, 1) := by decide +kernel
theorem d_L_law_461 : decode code 461 = .ok (.i2l, 1) := by decide +kernel
theorem d_L_law_462 : decode code 462 = .ok (.ldc2_w 34, 3) := by decide +kernel
theorem d_L_law_465 : decode code 465 = .ok (.land, 1) := by decide +kernel
theorem d_L_law_466 : decode code 466 = .ok (.lor, 1) := by decide +kernel
theorem d_L_law_467 : decode code 467 = .ok (.invokevirtual 55, 3) := by decide +kernel
theorem d_L_law_470 : decode code 470 = .ok (.aload_n 2, 1) := by decide +kernel
theorem d_L_law_471 : decode code 471 = .ok (.aload_n 0, 1) := by decide +kernel
theorem d_L_law_472 : decode code 472 = .ok (.iload 4, 2) := by decide +kernel
theorem d_L_law_474 : decode code 474 = .ok (.iconst 1, 1) := by decide +kernel
theorem d_L_law_475 : decode code 475 = .ok (.iadd, 1) := by decide +kernel
theorem d_L_law_476 : decode code 476 = .ok (.iaload, 1) := by decide +kernel
theorem d_L_law_477 : decode code 477 = .ok (.aload_n 0, 1) := by decide +kernel
theorem d_L_law_478 : decode code 478 = .ok (.iload 4, 2) := by decide +kernel
theorem d_L_law_480 : decode code 480 = .ok (.iconst 2, 1) := by decide +kernel
theorem d_L_law_481 : decode code 481 = .ok (.iadd, 1) := by decide +kernel
theorem d_L_law_482 : decode code 482 = .ok (.iaload, 1) := by decide +kernel
theorem d_L_law_483 : decode code 483 = .ok (.aload_n 0, 1) := by decide +kernel
theorem d_L_law_484 : decode code 484 = .ok (.iload 4, 2) := by decide +kernel
theorem d_L_law_486 : decode code 486 = .ok (.iconst 3, 1) := by decide +kernel
theorem d_L_law_487 : decode code 487 = .ok (.iadd, 1) := by decide +kernel
theorem d_L_law_488 : decode code 488 = .ok (.iaload, 1) := by decide +kernel
theorem d_L_law_489 : decode code 489 = .ok (.aload_n 0, 1) := by decide +kernel
theorem d_L_law_490 : decode code 490 = .ok (.iload 4, 2) := by decide +kernel
theorem d_L_law_492 : decode code 492 = .ok (.iconst 4, 1) := by decide +kernel
theorem d_L_law_493 : decode code 493 = .ok (.iadd, 1) := by decide +kernel
theorem d_L_law_494 : decode code 494 = .ok (.iaload, 1) := by decide +kernel
theorem d_L_law_495 : decode code 495 = .ok (.i2l, 1) := by decide +kernel
theorem d_L_law_496 : decode code 496 = .ok (.bipush 32, 2) := by decide +kernel
theorem d_L_law_498 : decode code 498 = .ok (.lshl, 1) := by decide +kernel
theorem d_L_law_499 : decode code 499 = .ok (.aload_n 0, 1) := by decide +kernel
theorem d_L_law_500 : decode code 500 = .ok (.iload 4, 2) := by decide +kernel
theorem d_L_law_502 : decode code 502 = .ok (.iconst 5, 1) := by decide +kernel
theorem d_L_law_503 : decode code 503 = .ok (.iadd, 1) := by decide +kernel
theorem d_L_law_504 : decode code 504 = .ok (.iaload, 1) := by decide +kernel
theorem d_L_law_505 : decode code 505 = .ok (.i2l, 1) := by decide +kernel
theorem d_L_law_506 : decode code 506 = .ok (.ldc2_w 34, 3) := by decide +kernel
theorem d_L_law_509 : decode code 509 = .ok (.land, 1) := by decide +kernel
theorem d_L_law_510 : decode code 510 = .ok (.lor, 1) := by decide +kernel
theorem d_L_law_511 : decode code 511 = .ok (.invokevirtual 59, 3) := by decide +kernel
theorem d_L_law_514 : decode code 514 = .ok (.if_icmp .eq 303, 3) := by decide +kernel
theorem d_L_law_517 : decode code 517 = .ok (.iconst 0, 1) := by decide +kernel
theorem d_L_law_518 : decode code 518 = .ok (.ireturn, 1) := by decide +kernel
theorem d_L_law_519 : decode code 519 = .ok (.aload_n 1, 1) := by decide +kernel
theorem d_L_law_520 : decode code 520 = .ok (.aload_n 0, 1) := by decide +kernel
theorem d_L_law_521 : decode code 521 = .ok (.iload 4, 2) := by decide +kernel
theorem d_L_law_523 : decode code 523 = .ok (.iconst 1, 1) := by decide +kernel
theorem d_L_law_524 : decode code 524 = .ok (.iadd, 1) := by decide +kernel
theorem d_L_law_525 : decode code 525 = .ok (.iaload, 1) := by decide +kernel
theorem d_L_law_526 : decode code 526 = .ok (.aload_n 0, 1) := by decide +kernel
theorem d_L_law_527 : decode code 527 = .ok (.iload 4, 2) := by decide +kernel
theorem d_L_law_529 : decode code 529 = .ok (.iconst 2, 1) := by decide +kernel
theorem d_L_law_530 : decode code 530 = .ok (.iadd, 1) := by decide +kernel
theorem d_L_law_531 : decode code 531 = .ok (.iaload, 1) := by decide +kernel
theorem d_L_law_532 : decode code 532 = .ok (.invokevirtual 60, 3) := by decide +kernel
theorem d_L_law_535 : decode code 535 = .ok (.aload_n 2, 1) := by decide +kernel
theorem d_L_law_536 : decode code 536 = .ok (.aload_n 0, 1) := by decide +kernel
theorem d_L_law_537 : decode code 537 = .ok (.iload 4, 2) := by decide +kernel
theorem d_L_law_539 : decode code 539 = .ok (.iconst 1, 1) := by decide +kernel
theorem d_L_law_540 : decode code 540 = .ok (.iadd, 1) := by decide +kernel
theorem d_L_law_541 : decode code 541 = .ok (.iaload, 1) := by decide +kernel
theorem d_L_law_542 : decode code 542 = .ok (.aload_n 0, 1) := by decide +kernel
theorem d_L_law_543 : decode code 543 = .ok (.iload 4, 2) := by decide +kernel
theorem d_L_law_545 : decode code 545 = .ok (.iconst 2, 1) := by decide +kernel
theorem d_L_law_546 : decode code 546 = .ok (.iadd, 1) := by decide +kernel
theorem d_L_law_547 : decode code 547 = .ok (.iaload, 1) := by decide +kernel
theorem d_L_law_548 : decode code 548 = .ok (.invokevirtual 63, 3) := by decide +kernel
theorem d_L_law_551 : decode code 551 = .ok (.if_icmp .eq 266, 3) := by decide +kernel
theorem d_L_law_554 : decode code 554 = .ok (.iconst 0, 1) := by decide +kernel
theorem d_L_law_555 : decode code 555 = .ok (.ireturn, 1) := by decide +kernel
theorem d_L_law_556 : decode code 556 = .ok (.aload_n 1, 1) := by decide +kernel
theorem d_L_law_557 : decode code 557 = .ok (.aload_n 0, 1) := by decide +kernel
theorem d_L_law_558 : decode code 558 = .ok (.iload 4, 2) := by decide +kernel
theorem d_L_law_560 : decode code 560 = .ok (.iconst 1, 1) := by decide +kernel
theorem d_L_law_561 : decode code 561 = .ok (.iadd, 1) := by decide +kernel
theorem d_L_law_562 : decode code 562 = .ok (.iaload, 1) := by decide +kernel
theorem d_L_law_563 : decode code 563 = .ok (.invokevirtual 64, 3) := by decide +kernel
theorem d_L_law_566 : decode code 566 = .ok (.aload_n 2, 1) := by decide +kernel
theorem d_L_law_567 : decode code 567 = .ok (.aload_n 0, 1) := by decide +kernel
theorem d_L_law_568 : decode code 568 = .ok (.iload 4, 2) := by decide +kernel
theorem d_L_law_570 : decode code 570 = .ok (.iconst 1, 1) := by decide +kernel
theorem d_L_law_571 : decode code 571 = .ok (.iadd, 1) := by decide +kernel
theorem d_L_law_572 : decode code 572 = .ok (.iaload, 1) := by decide +kernel
theorem d_L_law_573 : decode code 573 = .ok (.invokevirtual 68, 3) := by decide +kernel
theorem d_L_law_576 : decode code 576 = .ok (.if_icmp .eq 241, 3) := by decide +kernel
theorem d_L_law_579 : decode code 579 = .ok (.iconst 0, 1) := by decide +kernel
theorem d_L_law_580 : decode code 580 = .ok (.ireturn, 1) := by decide +kernel
theorem d_L_law_581 : decode code 581 = .ok (.aload_n 1, 1) := by decide +kernel
theorem d_L_law_582 : decode code 582 = .ok (.aload_n 0, 1) := by decide +kernel
theorem d_L_law_583 : decode code 583 = .ok (.iload 4, 2) := by decide +kernel
theorem d_L_law_585 : decode code 585 = .ok (.iconst 1, 1) := by decide +kernel
theorem d_L_law_586 : decode code 586 = .ok (.iadd, 1) := by decide +kernel
theorem d_L_law_587 : decode code 587 = .ok (.iaload, 1) := by decide +kernel
theorem d_L_law_588 : decode code 588 = .ok (.invokevirtual 69, 3) := by decide +kernel
theorem d_L_law_591 : decode code 591 = .ok (.aload_n 2, 1) := by decide +kernel
theorem d_L_law_592 : decode code 592 = .ok (.aload_n 0, 1) := by decide +kernel
theorem d_L_law_593 : decode code 593 = .ok (.iload 4, 2) := by decide +kernel
theorem d_L_law_595 : decode code 595 = .ok (.iconst 1, 1) := by decide +kernel
theorem d_L_law_596 : decode code 596 = .ok (.iadd, 1) := by decide +kernel
theorem d_L_law_597 : decode code 597 = .ok (.iaload, 1) := by decide +kernel
theorem d_L_law_598 : decode code 598 = .ok (.invokevirtual 72, 3) := by decide +kernel
theorem d_L_law_601 : decode code 601 = .ok (.if_icmp .eq 216, 3) := by decide +kernel
theorem d_L_law_604 : decode code 604 = .ok (.iconst 0, 1) := by decide +kernel
theorem d_L_law_605 : decode code 605 = .ok (.ireturn, 1) := by decide +kernel
theorem d_L_law_606 : decode code 606 = .ok (.aload_n 1, 1) := by decide +kernel
theorem d_L_law_607 : decode code 607 = .ok (.aload_n 0, 1) := by decide +kernel
theorem d_L_law_608 : decode code 608 = .ok (.iload 4, 2) := by decide +kernel
theorem d_L_law_610 : decode code 610 = .ok (.iconst 1, 1) := by decide +kernel
theorem d_L_law_611 : decode code 611 = .ok (.iadd, 1) := by decide +kernel
theorem d_L_law_612 : decode code 612 = .ok (.iaload, 1) := by decide +kernel
theorem d_L_law_613 : decode code 613 = .ok (.invokevirtual 73, 3) := by decide +kernel
theorem d_L_law_616 : decode code 616 = .ok (.aload_n 2, 1) := by decide +kernel
theorem d_L_law_617 : decode code 617 = .ok (.aload_n 0, 1) := by decide +kernel
theorem d_L_law_618 : decode code 618 = .ok (.iload 4, 2) := by decide +kernel
theorem d_L_law_620 : decode code 620 = .ok (.iconst 1, 1) := by decide +kernel
theorem d_L_law_621 : decode code 621 = .ok (.iadd, 1) := by decide +kernel
theorem d_L_law_622 : decode code 622 = .ok (.iaload, 1) := by decide +kernel
theorem d_L_law_623 : decode code 623 = .ok (.invokevirtual 76, 3) := by decide +kernel
theorem d_L_law_626 : decode code 626 = .ok (.if_icmp .eq 191, 3) := by decide +kernel
theorem d_L_law_629 : decode code 629 = .ok (.iconst 0, 1) := by decide +kernel
theorem d_L_law_630 : decode code 630 = .ok (.ireturn, 1) := by decide +kernel
theorem d_L_law_631 : decode code 631 = .ok (.aload_n 1, 1) := by decide +kernel
theorem d_L_law_632 : decode code 632 = .ok (.aload_n 0, 1) := by decide +kernel
theorem d_L_law_633 : decode code 633 = .ok (.iload 4, 2) := by decide +kernel
theorem d_L_law_635 : decode code 635 = .ok (.iconst 1, 1) := by decide +kernel
theorem d_L_law_636 : decode code 636 = .ok (.iadd, 1) := by decide +kernel
theorem d_L_law_637 : decode code 637 = .ok (.iaload, 1) := by decide +kernel
theorem d_L_law_638 : decode code 638 = .ok (.aload_n 0, 1) := by decide +kernel
theorem d_L_law_639 : decode code 639 = .ok (.iload 4, 2) := by decide +kernel
theorem d_L_law_641 : decode code 641 = .ok (.iconst 2, 1) := by decide +kernel
theorem d_L_law_642 : decode code 642 = .ok (.iadd, 1) := by decide +kernel
theorem d_L_law_643 : decode code 643 = .ok (.iaload, 1) := by decide +kernel
theorem d_L_law_644 : decode code 644 = .ok (.aload_n 3, 1) := by decide +kernel
theorem d_L_law_645 : decode code 645 = .ok (.invokestatic 77, 3) := by decide +kernel
theorem d_L_law_648 : decode code 648 = .ok (.istore 5, 2) := by decide +kernel
theorem d_L_law_650 : decode code 650 = .ok (.aload_n 2, 1) := by decide +kernel
theorem d_L_law_651 : decode code 651 = .ok (.aload_n 0, 1) := by decide +kernel
theorem d_L_law_652 : decode code 652 = .ok (.iload 4, 2) := by decide +kernel
theorem d_L_law_654 : decode code 654 = .ok (.iconst 1, 1) := by decide +kernel
theorem d_L_law_655 : decode code 655 = .ok (.iadd, 1) := by decide +kernel
theorem d_L_law_656 : decode code 656 = .ok (.iaload, 1) := by decide +kernel
theorem d_L_law_657 : decode code 657 = .ok (.aload_n 0, 1) := by decide +kernel
theorem d_L_law_658 : decode code 658 = .ok (.iload 4, 2) := by decide +kernel
theorem d_L_law_660 : decode code 660 = .ok (.iconst 2, 1) := by decide +kernel
theorem d_L_law_661 : decode code 661 = .ok (.iadd, 1) := by decide +kernel
theorem d_L_law_662 : decode code 662 = .ok (.iaload, 1) := by decide +kernel
theorem d_L_law_663 : decode code 663 = .ok (.invokevirtual 82, 3) := by decide +kernel
theorem d_L_law_666 : decode code 666 = .ok (.lstore 6, 2) := by decide +kernel
theorem d_L_law_668 : decode code 668 = .ok (.aload_n 2, 1) := by decide +kernel
theorem d_L_law_669 : decode code 669 = .ok (.invokevirtual 83, 3) := by decide +kernel
theorem d_L_law_672 : decode code 672 = .ok (.iload 5, 2) := by decide +kernel
theorem d_L_law_674 : decode code 674 = .ok (.if_icmp .eq 5, 3) := by decide +kernel
theorem d_L_law_677 : decode code 677 = .ok (.iconst 0, 1) := by decide +kernel
theorem d_L_law_678 : decode code 678 = .ok (.ireturn, 1) := by decide +kernel
theorem d_L_law_679 : decode code 679 = .ok (.iload 5, 2) := by decide +kernel
theorem d_L_law_681 : decode code 681 = .ok (.ifCond .ne 14, 3) := by decide +kernel
theorem d_L_law_684 : decode code 684 = .ok (.aload_n 3, 1) := by decide +kernel
theorem d_L_law_685 : decode code 685 = .ok (.iconst 0, 1) := by decide +kernel
theorem d_L_law_686 : decode code 686 = .ok (.laload, 1) := by decide +kernel
theorem d_L_law_687 : decode code 687 = .ok (.lload 6, 2) := by decide +kernel
theorem d_L_law_689 : decode code 689 = .ok (.lcmp, 1) := by decide +kernel
theorem d_L_law_690 : decode code 690 = .ok (.ifCond .eq 5, 3) := by decide +kernel
theorem d_L_law_693 : decode code 693 = .ok (.iconst 0, 1) := by decide +kernel
theorem d_L_law_694 : decode code 694 = .ok (.ireturn, 1) := by decide +kernel
theorem d_L_law_695 : decode code 695 = .ok (.goto 122, 3) := by decide +kernel
theorem d_L_law_698 : decode code 698 = .ok (.aload_n 1, 1) := by decide +kernel
theorem d_L_law_699 : decode code 699 = .ok (.aload_n 0, 1) := by decide +kernel
theorem d_L_law_700 : decode code 700 = .ok (.iload 4, 2) := by decide +kernel
theorem d_L_law_702 : decode code 702 = .ok (.iconst 1, 1) := by decide +kernel
theorem d_L_law_703 : decode code 703 = .ok (.iadd, 1) := by decide +kernel
theorem d_L_law_704 : decode code 704 = .ok (.iaload, 1) := by decide +kernel
theorem d_L_law_705 : decode code 705 = .ok (.i2l, 1) := by decide +kernel
theorem d_L_law_706 : decode code 706 = .ok (.bipush 32, 2) := by decide +kernel
theorem d_L_law_708 : decode code 708 = .ok (.lshl, 1) := by decide +kernel
theorem d_L_law_709 : decode code 709 = .ok (.aload_n 0, 1) := by decide +kernel
theorem d_L_law_710 : decode code 710 = .ok (.iload 4, 2) := by decide +kernel
theorem d_L_law_712 : decode code 712 = .ok (.iconst 2, 1) := by decide +kernel
theorem d_L_law_713 : decode code 713 = .ok (.iadd, 1) := by decide +kernel
theorem d_L_law_714 : decode code 714 = .ok (.iaload, 1) := by decide +kernel
theorem d_L_law_715 : decode code 715 = .ok (.i2l, 1) := by decide +kernel
theorem d_L_law_716 : decode code 716 = .ok (.ldc2_w 34, 3) := by decide +kernel
theorem d_L_law_719 : decode code 719 = .ok (.land, 1) := by decide +kernel
theorem d_L_law_720 : decode code 720 = .ok (.lor, 1) := by decide +kernel
theorem d_L_law_721 : decode code 721 = .ok (.aload_n 0, 1) := by decide +kernel
theorem d_L_law_722 : decode code 722 = .ok (.iload 4, 2) := by decide +kernel
theorem d_L_law_724 : decode code 724 = .ok (.iconst 3, 1) := by decide +kernel
theorem d_L_law_725 : decode code 725 = .ok (.iadd, 1) := by decide +kernel
theorem d_L_law_726 : decode code 726 = .ok (.iaload, 1) := by decide +kernel
theorem d_L_law_727 : decode code 727 = .ok (.invokevirtual 86, 3) := by decide +kernel
theorem d_L_law_730 : decode code 730 = .ok (.aload_n 2, 1) := by decide +kernel
theorem d_L_law_731 : decode code 731 = .ok (.aload_n 0, 1) := by decide +kernel
theorem d_L_law_732 : decode code 732 = .ok (.iload 4, 2) := by decide +kernel
theorem d_L_law_734 : decode code 734 = .ok (.iconst 1, 1) := by decide +kernel
theorem d_L_law_735 : decode code 735 = .ok (.iadd, 1) := by decide +kernel
theorem d_L_law_736 : decode code 736 = .ok (.iaload, 1) := by decide +kernel
theorem d_L_law_737 : decode code 737 = .ok (.i2l, 1) := by decide +kernel
theorem d_L_law_738 : decode code 738 = .ok (.bipush 32, 2) := by decide +kernel
theorem d_L_law_740 : decode code 740 = .ok (.lshl, 1) := by decide +kernel
theorem d_L_law_741 : decode code 741 = .ok (.aload_n 0, 1) := by decide +kernel
theorem d_L_law_742 : decode code 742 = .ok (.iload 4, 2) := by decide +kernel
theorem d_L_law_744 : decode code 744 = .ok (.iconst 2, 1) := by decide +kernel
theorem d_L_law_745 : decode code 745 = .ok (.iadd, 1) := by decide +kernel
theorem d_L_law_746 : decode code 746 = .ok (.iaload, 1) := by decide +kernel
theorem d_L_law_747 : decode code 747 = .ok (.i2l, 1) := by decide +kernel
theorem d_L_law_748 : decode code 748 = .ok (.ldc2_w 34, 3) := by decide +kernel
theorem d_L_law_751 : decode code 751 = .ok (.land, 1) := by decide +kernel
theorem d_L_law_752 : decode code 752 = .ok (.lor, 1) := by decide +kernel
theorem d_L_law_753 : decode code 753 = .ok (.aload_n 0, 1) := by decide +kernel
theorem d_L_law_754 : decode code 754 = .ok (.iload 4, 2) := by decide +kernel
theorem d_L_law_756 : decode code 756 = .ok (.iconst 3, 1) := by decide +kernel
theorem d_L_law_757 : decode code 757 = .ok (.iadd, 1) := by decide +kernel
theorem d_L_law_758 : decode code 758 = .ok (.iaload, 1) := by decide +kernel
theorem d_L_law_759 : decode code 759 = .ok (.invokevirtual 90, 3) := by decide +kernel
theorem d_L_law_762 : decode code 762 = .ok (.if_icmp .eq 55, 3) := by decide +kernel
theorem d_L_law_765 : decode code 765 = .ok (.iconst 0, 1) := by decide +kernel
theorem d_L_law_766 : decode code 766 = .ok (.ireturn, 1) := by decide +kernel
theorem d_L_law_767 : decode code 767 = .ok (.aload_n 1, 1) := by decide +kernel
theorem d_L_law_768 : decode code 768 = .ok (.aload_n 0, 1) := by decide +kernel
theorem d_L_law_769 : decode code 769 = .ok (.iload 4, 2) := by decide +kernel
theorem d_L_law_771 : decode code 771 = .ok (.iconst 1, 1) := by decide +kernel
theorem d_L_law_772 : decode code 772 = .ok (.iadd, 1) := by decide +kernel
theorem d_L_law_773 : decode code 773 = .ok (.iaload, 1) := by decide +kernel
theorem d_L_law_774 : decode code 774 = .ok (.invokevirtual 91, 3) := by decide +kernel
theorem d_L_law_777 : decode code 777 = .ok (.aload_n 2, 1) := by decide +kernel
theorem d_L_law_778 : decode code 778 = .ok (.aload_n 0, 1) := by decide +kernel
theorem d_L_law_779 : decode code 779 = .ok (.iload 4, 2) := by decide +kernel
theorem d_L_law_781 : decode code 781 = .ok (.iconst 1, 1) := by decide +kernel
theorem d_L_law_782 : decode code 782 = .ok (.iadd, 1) := by decide +kernel
theorem d_L_law_783 : decode code 783 = .ok (.iaload, 1) := by decide +kernel
theorem d_L_law_784 : decode code 784 = .ok (.invokevirtual 94, 3) := by decide +kernel
theorem d_L_law_787 : decode code 787 = .ok (.if_icmp .eq 30, 3) := by decide +kernel
theorem d_L_law_790 : decode code 790 = .ok (.iconst 0, 1) := by decide +kernel
theorem d_L_law_791 : decode code 791 = .ok (.ireturn, 1) := by decide +kernel
theorem d_L_law_792 : decode code 792 = .ok (.aload_n 1, 1) := by decide +kernel
theorem d_L_law_793 : decode code 793 = .ok (.aload_n 0, 1) := by decide +kernel
theorem d_L_law_794 : decode code 794 = .ok (.iload 4, 2) := by decide +kernel
theorem d_L_law_796 : decode code 796 = .ok (.iconst 1, 1) := by decide +kernel
theorem d_L_law_797 : decode code 797 = .ok (.iadd, 1) := by decide +kernel
theorem d_L_law_798 : decode code 798 = .ok (.iaload, 1) := by decide +kernel
theorem d_L_law_799 : decode code 799 = .ok (.invokevirtual 95, 3) := by decide +kernel
theorem d_L_law_802 : decode code 802 = .ok (.aload_n 2, 1) := by decide +kernel
theorem d_L_law_803 : decode code 803 = .ok (.aload_n 0, 1) := by decide +kernel
theorem d_L_law_804 : decode code 804 = .ok (.iload 4, 2) := by decide +kernel
theorem d_L_law_806 : decode code 806 = .ok (.iconst 1, 1) := by decide +kernel
theorem d_L_law_807 : decode code 807 = .ok (.iadd, 1) := by decide +kernel
theorem d_L_law_808 : decode code 808 = .ok (.iaload, 1) := by decide +kernel
theorem d_L_law_809 : decode code 809 = .ok (.invokevirtual 98, 3) := by decide +kernel
theorem d_L_law_812 : decode code 812 = .ok (.if_icmp .eq 5, 3) := by decide +kernel
theorem d_L_law_815 : decode code 815 = .ok (.iconst 0, 1) := by decide +kernel
theorem d_L_law_816 : decode code 816 = .ok (.ireturn, 1) := by decide +kernel
theorem d_L_law_817 : decode code 817 = .ok (.iinc 4 6, 3) := by decide +kernel
theorem d_L_law_820 : decode code 820 = .ok (.goto (-797), 3) := by decide +kernel
theorem d_L_law_823 : decode code 823 = .ok (.iconst 1, 1) := by decide +kernel
theorem d_L_law_824 : decode code 824 = .ok (.ireturn, 1) := by decide +kernel
abbrev sc_law (cI cL cM cZ : ClassId) (q_p1 q_p2 q_p3 q_p1_calendars q_p1_reader q_p1_current q_p1_kept q_p1_latestRing q_p1_ringFinder q_p1_longest q_p1_net q_p1_spare q_p1_calendars_rules q_p1_calendars_places q_p1_calendars_holidays q_p1_reader_text q_p1_reader_jobOfLetter q_p1_reader_owners q_p1_reader_namePlaces q_p1_reader_conditions q_p1_current_states q_p1_current_startTimes q_p1_current_loggedJobs q_p1_current_loggedTimes q_p1_kept_sums q_p1_kept_counts q_p1_latestRing_row q_p1_ringFinder_queue q_p1_ringFinder_before q_p1_longest_sums q_p1_longest_before q_p1_longest_way q_p1_longest_way_row q_p1_net_numbers q_p1_net_needCounts q_p1_net_needed q_p1_net_conditions q_p1_net_allNeeded q_p1_spare_numbers q_p1_spare_needCounts q_p1_spare_needed q_p1_spare_conditions q_p1_spare_allNeeded q_p2_text q_p2_names q_p2_calendars q_p2_priorities q_p2_starts q_p2_estimates q_p2_many q_p2_newNames q_p2_numbers q_p2_newMany q_p2_needs q_p2_conditions q_p2_newNeeds q_p2_newConditions q_p2_needPlaces q_p2_rules q_p2_of q_p2_holidays q_p2_states q_p2_ran q_p2_sums q_p2_kept q_p2_startedJob q_p2_startedAt q_p2_ring q_p2_came q_p2_level q_p2_again q_p2_way q_p2_before q_p2_path : Nat) (d_p1_net_numbers d_p1_net_needed d_p1_net_conditions d_p1_spare_numbers d_p1_spare_needed d_p1_spare_conditions : Nat → Nat) (v_p1_calendars_made : Int32) (v_p1_calendars_holidayCount : Int32) (f_p1_calendars_rules : Nat → Int32) (f_p1_calendars_places : Nat → Int32) (f_p1_calendars_holidays : Nat → Int32) (v_p1_reader_pending : Int32) (v_p1_reader_length : Int32) (v_p1_reader_at : Int32) (v_p1_reader_number : Int32) (f_p1_reader_text : Nat → Int32) (f_p1_reader_jobOfLetter : Nat → Int32) (f_p1_reader_owners : Nat → Int32) (f_p1_reader_namePlaces : Nat → Int32) (f_p1_reader_conditions : Nat → Int32) (v_p1_current_starts : Int32) (v_p1_current_time : Int32) (f_p1_current_states : Nat → Int32) (f_p1_current_startTimes : Nat → Int32) (f_p1_current_loggedJobs : Nat → Int32) (f_p1_current_loggedTimes : Nat → Int32) (f_p1_kept_sums : Nat → Int64) (f_p1_kept_counts : Nat → Int32) (v_p1_latestRing_length : Int32) (f_p1_latestRing_row : Nat → Int32) (f_p1_ringFinder_queue : Nat → Int32) (f_p1_ringFinder_before : Nat → Int32) (f_p1_longest_sums : Nat → Int32) (f_p1_longest_before : Nat → Int32) (v_p1_longest_way_length : Int32) (f_p1_longest_way_row : Nat → Int32) (v_p1_net_jobs : Int32) (g_p1_net_numbers : Nat → Nat → Int32) (f_p1_net_needCounts : Nat → Int32) (g_p1_net_needed : Nat → Nat → Int32) (g_p1_net_conditions : Nat → Nat → Int32) (f_p1_net_allNeeded : Nat → Int32) (v_p1_spare_jobs : Int32) (g_p1_spare_numbers : Nat → Nat → Int32) (f_p1_spare_needCounts : Nat → Int32) (g_p1_spare_needed : Nat → Nat → Int32) (g_p1_spare_conditions : Nat → Nat → Int32) (f_p1_spare_allNeeded : Nat → Int32) (v_p2_code : Int32) (v_p2_length : Int32) (v_p2_jobs : Int32) (v_p2_newJobs : Int32) (v_p2_made : Int32) (v_p2_days : Int32) (v_p2_now : Int64) (v_p2_started : Int32) (v_p2_ringSize : Int32) (v_p2_place : Int32) (f_p2_text : Nat → Int32) (f_p2_names : Nat → Int32) (f_p2_calendars : Nat → Int32) (f_p2_priorities : Nat → Int32) (f_p2_starts : Nat → Int32) (f_p2_estimates : Nat → Int32) (f_p2_many : Nat → Int32) (f_p2_newNames : Nat → Int32) (f_p2_numbers : Nat → Int32) (f_p2_newMany : Nat → Int32) (f_p2_needs : Nat → Int32) (f_p2_conditions : Nat → Int32) (f_p2_newNeeds : Nat → Int32) (f_p2_newConditions : Nat → Int32) (f_p2_needPlaces : Nat → Int32) (f_p2_rules : Nat → Int32) (f_p2_of : Nat → Int32) (f_p2_holidays : Nat → Int64) (f_p2_states : Nat → Int32) (f_p2_ran : Nat → Int64) (f_p2_sums : Nat → Int64) (f_p2_kept : Nat → Int32) (f_p2_startedJob : Nat → Int32) (f_p2_startedAt : Nat → Int64) (f_p2_ring : Nat → Int32) (f_p2_came : Nat → Int32) (f_p2_level : Nat → Int32) (f_p2_again : Nat → Int32) (f_p2_way : Nat → Int64) (f_p2_before : Nat → Int32) (f_p2_path : Nat → Int32) (f_p3 : Nat → Int64) : List va_W := [[(q_p1, .inr (0, [.ref q_p1_calendars, .ref q_p1_reader, .ref q_p1_current, .ref q_p1_kept, .ref q_p1_latestRing, .ref q_p1_ringFinder, .ref q_p1_longest, .ref q_p1_net, .ref q_p1_spare]))], [(q_p1_calendars, .inr (1, [.ref q_p1_calendars_rules, .ref q_p1_calendars_places, .ref q_p1_calendars_holidays, .int v_p1_calendars_made, .int v_p1_calendars_holidayCount]))], [(q_p1_calendars_rules, .inl (cI, 20, .inl f_p1_calendars_rules))], [(q_p1_calendars_places, .inl (cI, 20, .inl f_p1_calendars_places))], [(q_p1_calendars_holidays, .inl (cI, 100, .inl f_p1_calendars_holidays))], [(q_p1_reader, .inr (7, [.ref q_p1_reader_text, .ref q_p1_reader_jobOfLetter, .ref q_p1_reader_owners, .ref q_p1_reader_namePlaces, .ref q_p1_reader_conditions, .int v_p1_reader_pending, .int v_p1_reader_length, .int v_p1_reader_at, .int v_p1_reader_number]))], [(q_p1_reader_text, .inl (cI, 2000, .inl f_p1_reader_text))], [(q_p1_reader_jobOfLetter, .inl (cI, 26, .inl f_p1_reader_jobOfLetter))], [(q_p1_reader_owners, .inl (cI, 520, .inl f_p1_reader_owners))], [(q_p1_reader_namePlaces, .inl (cI, 520, .inl f_p1_reader_namePlaces))], [(q_p1_reader_conditions, .inl (cI, 520, .inl f_p1_reader_conditions))], [(q_p1_current, .inr (5, [.ref q_p1_current_states, .ref q_p1_current_startTimes, .ref q_p1_current_loggedJobs, .ref q_p1_current_loggedTimes, .int v_p1_current_starts, .int v_p1_current_time]))], [(q_p1_current_states, .inl (cI, 27, .inl f_p1_current_states))], [(q_p1_current_startTimes, .inl (cI, 27, .inl f_p1_current_startTimes))], [(q_p1_current_loggedJobs, .inl (cI, 538, .inl f_p1_current_loggedJobs))], [(q_p1_current_loggedTimes, .inl (cI, 538, .inl f_p1_current_loggedTimes))], [(q_p1_kept, .inr (2, [.ref q_p1_kept_sums, .ref q_p1_kept_counts]))], [(q_p1_kept_sums, .inl (cL, 27, .inr (.inl f_p1_kept_sums)))], [(q_p1_kept_counts, .inl (cI, 27, .inl f_p1_kept_counts))], [(q_p1_latestRing, .inr (8, [.ref q_p1_latestRing_row, .int v_p1_latestRing_length]))], [(q_p1_latestRing_row, .inl (cI, 26, .inl f_p1_latestRing_row))], [(q_p1_ringFinder, .inr (6, [.ref q_p1_ringFinder_queue, .ref q_p1_ringFinder_before]))], [(q_p1_ringFinder_queue, .inl (cI, 26, .inl f_p1_ringFinder_queue))], [(q_p1_ringFinder_before, .inl (cI, 27, .inl f_p1_ringFinder_before))], [(q_p1_longest, .inr (3, [.ref q_p1_longest_sums, .ref q_p1_longest_before, .ref q_p1_longest_way]))], [(q_p1_longest_sums, .inl (cI, 27, .inl f_p1_longest_sums))], [(q_p1_longest_before, .inl (cI, 27, .inl f_p1_longest_before))], [(q_p1_longest_way, .inr (8, [.ref q_p1_longest_way_row, .int v_p1_longest_way_length]))], [(q_p1_longest_way_row, .inl (cI, 26, .inl f_p1_longest_way_row))], [(q_p1_net, .inr (4, [.ref q_p1_net_numbers, .ref q_p1_net_needCounts, .ref q_p1_net_needed, .ref q_p1_net_conditions, .ref q_p1_net_allNeeded, .int v_p1_net_jobs]))], [(q_p1_net_numbers, .inl (cM, gro 27 d_p1_net_numbers))], gl cI d_p1_net_numbers 27 4 g_p1_net_numbers, [(q_p1_net_needCounts, .inl (cI, 27, .inl f_p1_net_needCounts))], [(q_p1_net_needed, .inl (cM, gro 27 d_p1_net_needed))], gl cI d_p1_net_needed 27 20 g_p1_net_needed, [(q_p1_net_conditions, .inl (cM, gro 27 d_p1_net_conditions))], gl cI d_p1_net_conditions 27 20 g_p1_net_conditions, [(q_p1_net_allNeeded, .inl (cI, 27, .inl f_p1_net_allNeeded))], [(q_p1_spare, .inr (4, [.ref q_p1_spare_numbers, .ref q_p1_spare_needCounts, .ref q_p1_spare_needed, .ref q_p1_spare_conditions, .ref q_p1_spare_allNeeded, .int v_p1_spare_jobs]))], [(q_p1_spare_numbers, .inl (cM, gro 27 d_p1_spare_numbers))], gl cI d_p1_spare_numbers 27 4 g_p1_spare_numbers, [(q_p1_spare_needCounts, .inl (cI, 27, .inl f_p1_spare_needCounts))], [(q_p1_spare_needed, .inl (cM, gro 27 d_p1_spare_needed))], gl cI d_p1_spare_needed 27 20 g_p1_spare_needed, [(q_p1_spare_conditions, .inl (cM, gro 27 d_p1_spare_conditions))], gl cI d_p1_spare_conditions 27 20 g_p1_spare_conditions, [(q_p1_spare_allNeeded, .inl (cI, 27, .inl f_p1_spare_allNeeded))], [(q_p2, .inr (9, [.int v_p2_code, .ref q_p2_text, .int v_p2_length, .int v_p2_jobs, .int v_p2_newJobs, .ref q_p2_names, .ref q_p2_calendars, .ref q_p2_priorities, .ref q_p2_starts, .ref q_p2_estimates, .ref q_p2_many, .ref q_p2_newNames, .ref q_p2_numbers, .ref q_p2_newMany, .ref q_p2_needs, .ref q_p2_conditions, .ref q_p2_newNeeds, .ref q_p2_newConditions, .ref q_p2_needPlaces, .ref q_p2_rules, .ref q_p2_of, .int v_p2_made, .ref q_p2_holidays, .int v_p2_days, .ref q_p2_states, .ref q_p2_ran, .ref q_p2_sums, .ref q_p2_kept, .long v_p2_now, .ref q_p2_startedJob, .ref q_p2_startedAt, .int v_p2_started, .ref q_p2_ring, .ref q_p2_came, .ref q_p2_level, .int v_p2_ringSize, .ref q_p2_again, .ref q_p2_way, .ref q_p2_before, .ref q_p2_path, .int v_p2_place]))], [(q_p2_text, .inl (cI, 2000, .inl f_p2_text))], [(q_p2_names, .inl (cI, 27, .inl f_p2_names))], [(q_p2_calendars, .inl (cI, 27, .inl f_p2_calendars))], [(q_p2_priorities, .inl (cI, 27, .inl f_p2_priorities))], [(q_p2_starts, .inl (cI, 27, .inl f_p2_starts))], [(q_p2_estimates, .inl (cI, 27, .inl f_p2_estimates))], [(q_p2_many, .inl (cI, 27, .inl f_p2_many))], [(q_p2_newNames, .inl (cI, 27, .inl f_p2_newNames))], [(q_p2_numbers, .inl (cI, 108, .inl f_p2_numbers))], [(q_p2_newMany, .inl (cI, 27, .inl f_p2_newMany))], [(q_p2_needs, .inl (cI, 540, .inl f_p2_needs))], [(q_p2_conditions, .inl (cI, 540, .inl f_p2_conditions))], [(q_p2_newNeeds, .inl (cI, 540, .inl f_p2_newNeeds))], [(q_p2_newConditions, .inl (cI, 540, .inl f_p2_newConditions))], [(q_p2_needPlaces, .inl (cI, 540, .inl f_p2_needPlaces))], [(q_p2_rules, .inl (cI, 21, .inl f_p2_rules))], [(q_p2_of, .inl (cI, 21, .inl f_p2_of))], [(q_p2_holidays, .inl (cL, 100, .inr (.inl f_p2_holidays)))], [(q_p2_states, .inl (cI, 27, .inl f_p2_states))], [(q_p2_ran, .inl (cL, 27, .inr (.inl f_p2_ran)))], [(q_p2_sums, .inl (cL, 27, .inr (.inl f_p2_sums)))], [(q_p2_kept, .inl (cI, 27, .inl f_p2_kept))], [(q_p2_startedJob, .inl (cI, 20000, .inl f_p2_startedJob))], [(q_p2_startedAt, .inl (cL, 20000, .inr (.inl f_p2_startedAt)))], [(q_p2_ring, .inl (cI, 27, .inl f_p2_ring))], [(q_p2_came, .inl (cI, 27, .inl f_p2_came))], [(q_p2_level, .inl (cI, 27, .inl f_p2_level))], [(q_p2_again, .inl (cZ, 27, .inl f_p2_again))], [(q_p2_way, .inl (cL, 27, .inr (.inl f_p2_way)))], [(q_p2_before, .inl (cI, 27, .inl f_p2_before))], [(q_p2_path, .inl (cI, 27, .inl f_p2_path))], [(q_p3, .inl (cL, 1, .inr (.inl f_p3)))]]
def la_E (p : Program) (s : State) (m : MethodId) (c : Code) (b L : Nat) (xs : Nat → Int32) (A : Nat → Prop) (dC : Nat → ClassId) (dI : Nat → Nat → Nat) (cI cL cM cZ : ClassId) : Prop :=
  p.tables.exec = Jvm.exec ∧ c.code = code ∧ c.maxLocals = 8 ∧ s.vm.findClass "JobNetsLaw" = some m.cls ∧ (∀ w ∈ BIG, w.before #[Value.ref b] s = true) ∧ va_K (dC, dI) vwCl [(cI, .int), (cL, .long), (cM, .array .int), (cZ, .boolean)] s ∧ NWs s ∧ (∀ q, s.heap.size ≤ q → A q) ∧ va_X b L xs s s.heap ∧ b < s.heap.size ∧ ¬ A b ∧ xZ A s s.heap
theorem gd_W {y : MethodName} {b : ByteArray} {n : Nat} {r : Option FieldType} {hh : List (Nat × Nat × Nat × Nat)} (h5 : (.codeWith y b n r hh : Cond) ∈ BIG) : GoodIn BIG (.codeWith y b n r hh :: BIG) := fun w hw => (List.mem_cons.mp hw).elim (fun e => e ▸ bg_g h5) bg_g
theorem lc_eq {x y : Int64} (h : x = y) : lg_cmp x y = 0 := by
  subst h
  unfold lg_cmp
  rw [if_neg (by simp [Int64.lt_iff_toInt_lt]), if_pos rfl]
section LAA
variable {p : Program} {l : Launch} {e : Env} {R : Room} {s : State} {m : MethodId} {args : Array Value} {below : List Frame} {meth : Method} {c : Code} {H : Heap} {locs : List Loc} {cells slots : Nat} {Q : State → Prop}
variable {cc : ByteArray} {pc : Nat} {ls : Array Slot} {rest st0 : List Value} {D : va_G} {cl : List vw_C} {A : Nat → Prop} {tys : List (ClassId × FieldType)} {S : List va_W} {H0 : Heap}
theorem ls_ld {b L k j : Nat} {xs : Nat → Int32} {i : Int32} (hexec : p.tables.exec = Jvm.exec) (hb : c.code = cc) (hX : va_X b L xs s s.heap) (hbl : b < s.heap.size) (hbA : ¬ A b) (hS : va_S A s.heap H locs) (hi : i = nI (k + j)) (hk : k + j < L) (hL : L < 2 ^ 31) (hdg : decode cc pc = .ok (.iaload, 1))
    (kk : W p l e R s m args below meth c H locs cells slots Q (F0 m (pc + 1) ls (.int (xs (k + j)) :: rest))) : W p l e R s m args below meth c H locs cells slots Q (F0 m pc ls (.int i :: .ref b :: rest)) := by
  subst hi
  refine va_sld hexec hb hX hbl hbA hS (vp_in_nI hk hL) hdg ?_
  rw [show (nI (k + j)).toNatClampNeg = k + j from pk_cl (k + j) rfl (by omega)]
  exact kk
theorem sg_ciM {Sc Sr S1 : List va_W} {r : Int32} {av : Array Value} {mc ms : Nat} (hr : va_Run p l e R s m args below meth c H locs cells slots mc ms (F0 m pc ls st0) rest (cQi D cl tys H.size Sc r S1 av) (va_A Sc.flatten H.size)) (hw : wk D cl A H0 S H locs) (hA : ∀ q, H0.size ≤ q → A q) (isC isR : List Nat) (hC : isC.map (fun i => S[i]?) = Sc.map some) (hR : isR.map (fun i => S[i]?) = Sr.map some) (hn : va_nd isR = true) (hdis : ∀ i ∈ isR, i ∉ isC)
    (kk : ∀ (H1 : Heap) (locs1 : List Loc), wk D cl A H0 (Sr ++ S1) H1 locs1 → W p l e R s m args below meth c H1 locs1 (cells + mc) (slots + ms) Q (F0 m (pc + 3) ls (.int r :: rest))) : W p l e R s m args below meth c H locs cells slots Q (F0 m pc ls st0) :=
  va_calli hr hw.2.2 (fun q _ h => sg_free hw hA hC q h) (fun q h => sg_free hw hA hC q h) (fun r' u t H1 locs1 ht hvm hp hB hz hk hS => by
    obtain ⟨hP1, hK1, hD1⟩ := hB
    rw [ht] at hP1
    subst hp
    exact kk H1 locs1 (sg_join hw hA hC hR hn hdis hk hP1 hD1 hS))
end LAA

/-! the law's own instructions -/
theorem d_la_0 : decode code 0 = .ok (.new 8, 3) := by decide +kernel
theorem d_la_3 : decode code 3 = .ok (.dup, 1) := by decide +kernel
theorem d_la_4 : decode code 4 = .ok (.invokespecial 22, 3) := by decide +kernel
theorem d_la_7 : decode code 7 = .ok (.astore_n 1, 1) := by decide +kernel
theorem d_la_8 : decode code 8 = .ok (.new 23, 3) := by decide +kernel
theorem d_la_11 : decode code 11 = .ok (.dup, 1) := by decide +kernel
theorem d_la_12 : decode code 12 = .ok (.invokespecial 25, 3) := by decide +kernel
theorem d_la_15 : decode code 15 = .ok (.astore_n 2, 1) := by decide +kernel
theorem d_la_16 : decode code 16 = .ok (.iconst 1, 1) := by decide +kernel
theorem d_la_17 : decode code 17 = .ok (.newarray .long, 2) := by decide +kernel
theorem d_la_19 : decode code 19 = .ok (.astore_n 3, 1) := by decide +kernel
theorem d_la_20 : decode code 20 = .ok (.iconst 0, 1) := by decide +kernel
theorem d_la_21 : decode code 21 = .ok (.istore 4, 2) := by decide +kernel
theorem d_la_23 : decode code 23 = .ok (.iload 4, 2) := by decide +kernel
theorem d_la_25 : decode code 25 = .ok (.aload_n 0, 1) := by decide +kernel
theorem d_la_26 : decode code 26 = .ok (.arraylength, 1) := by decide +kernel
theorem d_la_27 : decode code 27 = .ok (.iconst 4, 1) := by decide +kernel
theorem d_la_28 : decode code 28 = .ok (.isub, 1) := by decide +kernel
theorem d_la_29 : decode code 29 = .ok (.if_icmp .gt 531, 3) := by decide +kernel
theorem d_la_32 : decode code 32 = .ok (.aload_n 0, 1) := by decide +kernel
theorem d_la_33 : decode code 33 = .ok (.iload 4, 2) := by decide +kernel
theorem d_la_35 : decode code 35 = .ok (.iaload, 1) := by decide +kernel
theorem d_la_36 : decode code 36 = .ok (.bipush 15, 2) := by decide +kernel
theorem d_la_38 : decode code 38 = .ok (.iand, 1) := by decide +kernel
theorem d_la_39 : decode code 39 = .ok (.tableswitch 515 0 10 #[57, 94, 119, 156, 193, 206, 286, 366, 415, 452, 477], 57) := by decide +kernel
theorem d_la_96 : decode code 96 = .ok (.aload_n 1, 1) := by decide +kernel
theorem d_la_97 : decode code 97 = .ok (.aload_n 0, 1) := by decide +kernel
theorem d_la_98 : decode code 98 = .ok (.iload 4, 2) := by decide +kernel
theorem d_la_100 : decode code 100 = .ok (.iconst 1, 1) := by decide +kernel
theorem d_la_101 : decode code 101 = .ok (.iadd, 1) := by decide +kernel
theorem d_la_102 : decode code 102 = .ok (.iaload, 1) := by decide +kernel
theorem d_la_103 : decode code 103 = .ok (.aload_n 0, 1) := by decide +kernel
theorem d_la_104 : decode code 104 = .ok (.iload 4, 2) := by decide +kernel
theorem d_la_106 : decode code 106 = .ok (.iconst 2, 1) := by decide +kernel
theorem d_la_107 : decode code 107 = .ok (.iadd, 1) := by decide +kernel
theorem d_la_108 : decode code 108 = .ok (.iaload, 1) := by decide +kernel
theorem d_la_109 : decode code 109 = .ok (.invokevirtual 26, 3) := by decide +kernel
theorem d_la_112 : decode code 112 = .ok (.aload_n 2, 1) := by decide +kernel
theorem d_la_113 : decode code 113 = .ok (.aload_n 0, 1) := by decide +kernel
theorem d_la_114 : decode code 114 = .ok (.iload 4, 2) := by decide +kernel
theorem d_la_116 : decode code 116 = .ok (.iconst 1, 1) := by decide +kernel
theorem d_la_117 : decode code 117 = .ok (.iadd, 1) := by decide +kernel
theorem d_la_118 : decode code 118 = .ok (.iaload, 1) := by decide +kernel
theorem d_la_119 : decode code 119 = .ok (.aload_n 0, 1) := by decide +kernel
theorem d_la_120 : decode code 120 = .ok (.iload 4, 2) := by decide +kernel
theorem d_la_122 : decode code 122 = .ok (.iconst 2, 1) := by decide +kernel
theorem d_la_123 : decode code 123 = .ok (.iadd, 1) := by decide +kernel
theorem d_la_124 : decode code 124 = .ok (.iaload, 1) := by decide +kernel
theorem d_la_125 : decode code 125 = .ok (.invokevirtual 30, 3) := by decide +kernel
theorem d_la_128 : decode code 128 = .ok (.if_icmp .eq 426, 3) := by decide +kernel
theorem d_la_131 : decode code 131 = .ok (.iconst 0, 1) := by decide +kernel
theorem d_la_132 : decode code 132 = .ok (.ireturn, 1) := by decide +kernel
theorem d_la_133 : decode code 133 = .ok (.aload_n 1, 1) := by decide +kernel
theorem d_la_134 : decode code 134 = .ok (.aload_n 0, 1) := by decide +kernel
theorem d_la_135 : decode code 135 = .ok (.iload 4, 2) := by decide +kernel
theorem d_la_137 : decode code 137 = .ok (.iconst 1, 1) := by decide +kernel
theorem d_la_138 : decode code 138 = .ok (.iadd, 1) := by decide +kernel
theorem d_la_139 : decode code 139 = .ok (.iaload, 1) := by decide +kernel
theorem d_la_140 : decode code 140 = .ok (.invokevirtual 31, 3) := by decide +kernel
theorem d_la_143 : decode code 143 = .ok (.aload_n 2, 1) := by decide +kernel
theorem d_la_144 : decode code 144 = .ok (.aload_n 0, 1) := by decide +kernel
theorem d_la_145 : decode code 145 = .ok (.iload 4, 2) := by decide +kernel
theorem d_la_147 : decode code 147 = .ok (.iconst 1, 1) := by decide +kernel
theorem d_la_148 : decode code 148 = .ok (.iadd, 1) := by decide +kernel
theorem d_la_149 : decode code 149 = .ok (.iaload, 1) := by decide +kernel
theorem d_la_150 : decode code 150 = .ok (.invokevirtual 35, 3) := by decide +kernel
theorem d_la_153 : decode code 153 = .ok (.if_icmp .eq 401, 3) := by decide +kernel
theorem d_la_156 : decode code 156 = .ok (.iconst 0, 1) := by decide +kernel
theorem d_la_157 : decode code 157 = .ok (.ireturn, 1) := by decide +kernel
theorem d_la_158 : decode code 158 = .ok (.aload_n 1, 1) := by decide +kernel
theorem d_la_159 : decode code 159 = .ok (.aload_n 0, 1) := by decide +kernel
theorem d_la_160 : decode code 160 = .ok (.iload 4, 2) := by decide +kernel
theorem d_la_162 : decode code 162 = .ok (.iconst 1, 1) := by decide +kernel
theorem d_la_163 : decode code 163 = .ok (.iadd, 1) := by decide +kernel
theorem d_la_164 : decode code 164 = .ok (.iaload, 1) := by decide +kernel
theorem d_la_165 : decode code 165 = .ok (.aload_n 0, 1) := by decide +kernel
theorem d_la_166 : decode code 166 = .ok (.iload 4, 2) := by decide +kernel
theorem d_la_168 : decode code 168 = .ok (.iconst 2, 1) := by decide +kernel
theorem d_la_169 : decode code 169 = .ok (.iadd, 1) := by decide +kernel
theorem d_la_170 : decode code 170 = .ok (.iaload, 1) := by decide +kernel
theorem d_la_171 : decode code 171 = .ok (.invokevirtual 36, 3) := by decide +kernel
theorem d_la_174 : decode code 174 = .ok (.aload_n 2, 1) := by decide +kernel
theorem d_la_175 : decode code 175 = .ok (.aload_n 0, 1) := by decide +kernel
theorem d_la_176 : decode code 176 = .ok (.iload 4, 2) := by decide +kernel
theorem d_la_178 : decode code 178 = .ok (.iconst 1, 1) := by decide +kernel
theorem d_la_179 : decode code 179 = .ok (.iadd, 1) := by decide +kernel
theorem d_la_180 : decode code 180 = .ok (.iaload, 1) := by decide +kernel
theorem d_la_181 : decode code 181 = .ok (.aload_n 0, 1) := by decide +kernel
theorem d_la_182 : decode code 182 = .ok (.iload 4, 2) := by decide +kernel
theorem d_la_184 : decode code 184 = .ok (.iconst 2, 1) := by decide +kernel
theorem d_la_185 : decode code 185 = .ok (.iadd, 1) := by decide +kernel
theorem d_la_186 : decode code 186 = .ok (.iaload, 1) := by decide +kernel
theorem d_la_187 : decode code 187 = .ok (.invokevirtual 40, 3) := by decide +kernel
theorem d_la_190 : decode code 190 = .ok (.if_icmp .eq 364, 3) := by decide +kernel
theorem d_la_193 : decode code 193 = .ok (.iconst 0, 1) := by decide +kernel
theorem d_la_194 : decode code 194 = .ok (.ireturn, 1) := by decide +kernel
theorem d_la_195 : decode code 195 = .ok (.aload_n 1, 1) := by decide +kernel
theorem d_la_196 : decode code 196 = .ok (.aload_n 0, 1) := by decide +kernel
theorem d_la_197 : decode code 197 = .ok (.iload 4, 2) := by decide +kernel
theorem d_la_199 : decode code 199 = .ok (.iconst 1, 1) := by decide +kernel
theorem d_la_200 : decode code 200 = .ok (.iadd, 1) := by decide +kernel
theorem d_la_201 : decode code 201 = .ok (.iaload, 1) := by decide +kernel
theorem d_la_202 : decode code 202 = .ok (.aload_n 0, 1) := by decide +kernel
theorem d_la_203 : decode code 203 = .ok (.iload 4, 2) := by decide +kernel
theorem d_la_205 : decode code 205 = .ok (.iconst 2, 1) := by decide +kernel
theorem d_la_206 : decode code 206 = .ok (.iadd, 1) := by decide +kernel
theorem d_la_207 : decode code 207 = .ok (.iaload, 1) := by decide +kernel
theorem d_la_208 : decode code 208 = .ok (.invokevirtual 41, 3) := by decide +kernel
theorem d_la_211 : decode code 211 = .ok (.aload_n 2, 1) := by decide +kernel
theorem d_la_212 : decode code 212 = .ok (.aload_n 0, 1) := by decide +kernel
theorem d_la_213 : decode code 213 = .ok (.iload 4, 2) := by decide +kernel
theorem d_la_215 : decode code 215 = .ok (.iconst 1, 1) := by decide +kernel
theorem d_la_216 : decode code 216 = .ok (.iadd, 1) := by decide +kernel
theorem d_la_217 : decode code 217 = .ok (.iaload, 1) := by decide +kernel
theorem d_la_218 : decode code 218 = .ok (.aload_n 0, 1) := by decide +kernel
theorem d_la_219 : decode code 219 = .ok (.iload 4, 2) := by decide +kernel
theorem d_la_221 : decode code 221 = .ok (.iconst 2, 1) := by decide +kernel
theorem d_la_222 : decode code 222 = .ok (.iadd, 1) := by decide +kernel
theorem d_la_223 : decode code 223 = .ok (.iaload, 1) := by decide +kernel
theorem d_la_224 : decode code 224 = .ok (.invokevirtual 44, 3) := by decide +kernel
theorem d_la_227 : decode code 227 = .ok (.if_icmp .eq 327, 3) := by decide +kernel
theorem d_la_230 : decode code 230 = .ok (.iconst 0, 1) := by decide +kernel
theorem d_la_231 : decode code 231 = .ok (.ireturn, 1) := by decide +kernel
theorem d_la_232 : decode code 232 = .ok (.aload_n 1, 1) := by decide +kernel
theorem d_la_233 : decode code 233 = .ok (.invokevirtual 45, 3) := by decide +kernel
theorem d_la_236 : decode code 236 = .ok (.aload_n 2, 1) := by decide +kernel
theorem d_la_237 : decode code 237 = .ok (.invokevirtual 49, 3) := by decide +kernel
theorem d_la_240 : decode code 240 = .ok (.if_icmp .eq 314, 3) := by decide +kernel
theorem d_la_243 : decode code 243 = .ok (.iconst 0, 1) := by decide +kernel
theorem d_la_244 : decode code 244 = .ok (.ireturn, 1) := by decide +kernel
theorem d_la_245 : decode code 245 = .ok (.aload_n 1, 1) := by decide +kernel
theorem d_la_246 : decode code 246 = .ok (.aload_n 0, 1) := by decide +kernel
theorem d_la_247 : decode code 247 = .ok (.iload 4, 2) := by decide +kernel
theorem d_la_249 : decode code 249 = .ok (.iconst 1, 1) := by decide +kernel
theorem d_la_250 : decode code 250 = .ok (.iadd, 1) := by decide +kernel
theorem d_la_251 : decode code 251 = .ok (.iaload, 1) := by decide +kernel
theorem d_la_252 : decode code 252 = .ok (.aload_n 0, 1) := by decide +kernel
theorem d_la_253 : decode code 253 = .ok (.iload 4, 2) := by decide +kernel
theorem d_la_255 : decode code 255 = .ok (.iconst 2, 1) := by decide +kernel
theorem d_la_256 : decode code 256 = .ok (.iadd, 1) := by decide +kernel
theorem d_la_257 : decode code 257 = .ok (.iaload, 1) := by decide +kernel
theorem d_la_258 : decode code 258 = .ok (.aload_n 0, 1) := by decide +kernel
theorem d_la_259 : decode code 259 = .ok (.iload 4, 2) := by decide +kernel
theorem d_la_261 : decode code 261 = .ok (.iconst 3, 1) := by decide +kernel
theorem d_la_262 : decode code 262 = .ok (.iadd, 1) := by decide +kernel
theorem d_la_263 : decode code 263 = .ok (.iaload, 1) := by decide +kernel
theorem d_la_264 : decode code 264 = .ok (.aload_n 3, 1) := by decide +kernel
theorem d_la_265 : decode code 265 = .ok (.invokestatic 50, 3) := by decide +kernel
theorem d_la_268 : decode code 268 = .ok (.istore 5, 2) := by decide +kernel
theorem d_la_270 : decode code 270 = .ok (.aload_n 2, 1) := by decide +kernel
theorem d_la_271 : decode code 271 = .ok (.aload_n 0, 1) := by decide +kernel
theorem d_la_272 : decode code 272 = .ok (.iload 4, 2) := by decide +kernel
theorem d_la_274 : decode code 274 = .ok (.iconst 1, 1) := by decide +kernel
theorem d_la_275 : decode code 275 = .ok (.iadd, 1) := by decide +kernel
theorem d_la_276 : decode code 276 = .ok (.iaload, 1) := by decide +kernel
theorem d_la_277 : decode code 277 = .ok (.aload_n 0, 1) := by decide +kernel
theorem d_la_278 : decode code 278 = .ok (.iload 4, 2) := by decide +kernel
theorem d_la_280 : decode code 280 = .ok (.iconst 2, 1) := by decide +kernel
theorem d_la_281 : decode code 281 = .ok (.iadd, 1) := by decide +kernel
theorem d_la_282 : decode code 282 = .ok (.iaload, 1) := by decide +kernel
theorem d_la_283 : decode code 283 = .ok (.aload_n 0, 1) := by decide +kernel
theorem d_la_284 : decode code 284 = .ok (.iload 4, 2) := by decide +kernel
theorem d_la_286 : decode code 286 = .ok (.iconst 3, 1) := by decide +kernel
theorem d_la_287 : decode code 287 = .ok (.iadd, 1) := by decide +kernel
theorem d_la_288 : decode code 288 = .ok (.iaload, 1) := by decide +kernel
theorem d_la_289 : decode code 289 = .ok (.invokevirtual 55, 3) := by decide +kernel
theorem d_la_292 : decode code 292 = .ok (.istore 6, 2) := by decide +kernel
theorem d_la_294 : decode code 294 = .ok (.aload_n 2, 1) := by decide +kernel
theorem d_la_295 : decode code 295 = .ok (.invokevirtual 56, 3) := by decide +kernel
theorem d_la_298 : decode code 298 = .ok (.iload 5, 2) := by decide +kernel
theorem d_la_300 : decode code 300 = .ok (.if_icmp .eq 5, 3) := by decide +kernel
theorem d_la_303 : decode code 303 = .ok (.iconst 0, 1) := by decide +kernel
theorem d_la_304 : decode code 304 = .ok (.ireturn, 1) := by decide +kernel
theorem d_la_305 : decode code 305 = .ok (.iload 5, 2) := by decide +kernel
theorem d_la_307 : decode code 307 = .ok (.ifCond .ne 15, 3) := by decide +kernel
theorem d_la_310 : decode code 310 = .ok (.aload_n 3, 1) := by decide +kernel
theorem d_la_311 : decode code 311 = .ok (.iconst 0, 1) := by decide +kernel
theorem d_la_312 : decode code 312 = .ok (.laload, 1) := by decide +kernel
theorem d_la_313 : decode code 313 = .ok (.iload 6, 2) := by decide +kernel
theorem d_la_315 : decode code 315 = .ok (.i2l, 1) := by decide +kernel
theorem d_la_316 : decode code 316 = .ok (.lcmp, 1) := by decide +kernel
theorem d_la_317 : decode code 317 = .ok (.ifCond .eq 5, 3) := by decide +kernel
theorem d_la_320 : decode code 320 = .ok (.iconst 0, 1) := by decide +kernel
theorem d_la_321 : decode code 321 = .ok (.ireturn, 1) := by decide +kernel
theorem d_la_322 : decode code 322 = .ok (.goto 232, 3) := by decide +kernel
theorem d_la_325 : decode code 325 = .ok (.aload_n 1, 1) := by decide +kernel
theorem d_la_326 : decode code 326 = .ok (.aload_n 0, 1) := by decide +kernel
theorem d_la_327 : decode code 327 = .ok (.iload 4, 2) := by decide +kernel
theorem d_la_329 : decode code 329 = .ok (.iconst 1, 1) := by decide +kernel
theorem d_la_330 : decode code 330 = .ok (.iadd, 1) := by decide +kernel
theorem d_la_331 : decode code 331 = .ok (.iaload, 1) := by decide +kernel
theorem d_la_332 : decode code 332 = .ok (.aload_n 0, 1) := by decide +kernel
theorem d_la_333 : decode code 333 = .ok (.iload 4, 2) := by decide +kernel
theorem d_la_335 : decode code 335 = .ok (.iconst 2, 1) := by decide +kernel
theorem d_la_336 : decode code 336 = .ok (.iadd, 1) := by decide +kernel
theorem d_la_337 : decode code 337 = .ok (.iaload, 1) := by decide +kernel
theorem d_la_338 : decode code 338 = .ok (.aload_n 0, 1) := by decide +kernel
theorem d_la_339 : decode code 339 = .ok (.iload 4, 2) := by decide +kernel
theorem d_la_341 : decode code 341 = .ok (.iconst 3, 1) := by decide +kernel
theorem d_la_342 : decode code 342 = .ok (.iadd, 1) := by decide +kernel
theorem d_la_343 : decode code 343 = .ok (.iaload, 1) := by decide +kernel
theorem d_la_344 : decode code 344 = .ok (.aload_n 3, 1) := by decide +kernel
theorem d_la_345 : decode code 345 = .ok (.invokestatic 60, 3) := by decide +kernel
theorem d_la_348 : decode code 348 = .ok (.istore 5, 2) := by decide +kernel
theorem d_la_350 : decode code 350 = .ok (.aload_n 2, 1) := by decide +kernel
theorem d_la_351 : decode code 351 = .ok (.aload_n 0, 1) := by decide +kernel
theorem d_la_352 : decode code 352 = .ok (.iload 4, 2) := by decide +kernel
theorem d_la_354 : decode code 354 = .ok (.iconst 1, 1) := by decide +kernel
theorem d_la_355 : decode code 355 = .ok (.iadd, 1) := by decide +kernel
theorem d_la_356 : decode code 356 = .ok (.iaload, 1) := by decide +kernel
theorem d_la_357 : decode code 357 = .ok (.aload_n 0, 1) := by decide +kernel
theorem d_la_358 : decode code 358 = .ok (.iload 4, 2) := by decide +kernel
theorem d_la_360 : decode code 360 = .ok (.iconst 2, 1) := by decide +kernel
theorem d_la_361 : decode code 361 = .ok (.iadd, 1) := by decide +kernel
theorem d_la_362 : decode code 362 = .ok (.iaload, 1) := by decide +kernel
theorem d_la_363 : decode code 363 = .ok (.aload_n 0, 1) := by decide +kernel
theorem d_la_364 : decode code 364 = .ok (.iload 4, 2) := by decide +kernel
theorem d_la_366 : decode code 366 = .ok (.iconst 3, 1) := by decide +kernel
theorem d_la_367 : decode code 367 = .ok (.iadd, 1) := by decide +kernel
theorem d_la_368 : decode code 368 = .ok (.iaload, 1) := by decide +kernel
theorem d_la_369 : decode code 369 = .ok (.invokevirtual 62, 3) := by decide +kernel
theorem d_la_372 : decode code 372 = .ok (.istore 6, 2) := by decide +kernel
theorem d_la_374 : decode code 374 = .ok (.aload_n 2, 1) := by decide +kernel
theorem d_la_375 : decode code 375 = .ok (.invokevirtual 56, 3) := by decide +kernel
theorem d_la_378 : decode code 378 = .ok (.iload 5, 2) := by decide +kernel
theorem d_la_380 : decode code 380 = .ok (.if_icmp .eq 5, 3) := by decide +kernel
theorem d_la_383 : decode code 383 = .ok (.iconst 0, 1) := by decide +kernel
theorem d_la_384 : decode code 384 = .ok (.ireturn, 1) := by decide +kernel
theorem d_la_385 : decode code 385 = .ok (.iload 5, 2) := by decide +kernel
theorem d_la_387 : decode code 387 = .ok (.ifCond .ne 15, 3) := by decide +kernel
theorem d_la_390 : decode code 390 = .ok (.aload_n 3, 1) := by decide +kernel
theorem d_la_391 : decode code 391 = .ok (.iconst 0, 1) := by decide +kernel
theorem d_la_392 : decode code 392 = .ok (.laload, 1) := by decide +kernel
theorem d_la_393 : decode code 393 = .ok (.iload 6, 2) := by decide +kernel
theorem d_la_395 : decode code 395 = .ok (.i2l, 1) := by decide +kernel
theorem d_la_396 : decode code 396 = .ok (.lcmp, 1) := by decide +kernel
theorem d_la_397 : decode code 397 = .ok (.ifCond .eq 5, 3) := by decide +kernel
theorem d_la_400 : decode code 400 = .ok (.iconst 0, 1) := by decide +kernel
theorem d_la_401 : decode code 401 = .ok (.ireturn, 1) := by decide +kernel
theorem d_la_402 : decode code 402 = .ok (.goto 152, 3) := by decide +kernel
theorem d_la_405 : decode code 405 = .ok (.aload_n 1, 1) := by decide +kernel
theorem d_la_406 : decode code 406 = .ok (.aload_n 0, 1) := by decide +kernel
theorem d_la_407 : decode code 407 = .ok (.iload 4, 2) := by decide +kernel
theorem d_la_409 : decode code 409 = .ok (.iconst 1, 1) := by decide +kernel
theorem d_la_410 : decode code 410 = .ok (.iadd, 1) := by decide +kernel
theorem d_la_411 : decode code 411 = .ok (.iaload, 1) := by decide +kernel
theorem d_la_412 : decode code 412 = .ok (.aload_n 0, 1) := by decide +kernel
theorem d_la_413 : decode code 413 = .ok (.iload 4, 2) := by decide +kernel
theorem d_la_415 : decode code 415 = .ok (.iconst 2, 1) := by decide +kernel
theorem d_la_416 : decode code 416 = .ok (.iadd, 1) := by decide +kernel
theorem d_la_417 : decode code 417 = .ok (.iaload, 1) := by decide +kernel
theorem d_la_418 : decode code 418 = .ok (.aload_n 0, 1) := by decide +kernel
theorem d_la_419 : decode code 419 = .ok (.iload 4, 2) := by decide +kernel
theorem d_la_421 : decode code 421 = .ok (.iconst 3, 1) := by decide +kernel
theorem d_la_422 : decode code 422 = .ok (.iadd, 1) := by decide +kernel
theorem d_la_423 : decode code 423 = .ok (.iaload, 1) := by decide +kernel
theorem d_la_424 : decode code 424 = .ok (.invokevirtual 63, 3) := by decide +kernel
theorem d_la_427 : decode code 427 = .ok (.aload_n 2, 1) := by decide +kernel
theorem d_la_428 : decode code 428 = .ok (.aload_n 0, 1) := by decide +kernel
theorem d_la_429 : decode code 429 = .ok (.iload 4, 2) := by decide +kernel
theorem d_la_431 : decode code 431 = .ok (.iconst 1, 1) := by decide +kernel
theorem d_la_432 : decode code 432 = .ok (.iadd, 1) := by decide +kernel
theorem d_la_433 : decode code 433 = .ok (.iaload, 1) := by decide +kernel
theorem d_la_434 : decode code 434 = .ok (.aload_n 0, 1) := by decide +kernel
theorem d_la_435 : decode code 435 = .ok (.iload 4, 2) := by decide +kernel
theorem d_la_437 : decode code 437 = .ok (.iconst 2, 1) := by decide +kernel
theorem d_la_438 : decode code 438 = .ok (.iadd, 1) := by decide +kernel
theorem d_la_439 : decode code 439 = .ok (.iaload, 1) := by decide +kernel
theorem d_la_440 : decode code 440 = .ok (.aload_n 0, 1) := by decide +kernel
theorem d_la_441 : decode code 441 = .ok (.iload 4, 2) := by decide +kernel
theorem d_la_443 : decode code 443 = .ok (.iconst 3, 1) := by decide +kernel
theorem d_la_444 : decode code 444 = .ok (.iadd, 1) := by decide +kernel
theorem d_la_445 : decode code 445 = .ok (.iaload, 1) := by decide +kernel
theorem d_la_446 : decode code 446 = .ok (.invokevirtual 67, 3) := by decide +kernel
theorem d_la_449 : decode code 449 = .ok (.if_icmp .eq 105, 3) := by decide +kernel
theorem d_la_452 : decode code 452 = .ok (.iconst 0, 1) := by decide +kernel
theorem d_la_453 : decode code 453 = .ok (.ireturn, 1) := by decide +kernel
theorem d_la_454 : decode code 454 = .ok (.aload_n 1, 1) := by decide +kernel
theorem d_la_455 : decode code 455 = .ok (.aload_n 0, 1) := by decide +kernel
theorem d_la_456 : decode code 456 = .ok (.iload 4, 2) := by decide +kernel
theorem d_la_458 : decode code 458 = .ok (.iconst 1, 1) := by decide +kernel
theorem d_la_459 : decode code 459 = .ok (.iadd, 1) := by decide +kernel
theorem d_la_460 : decode code 460 = .ok (.iaload, 1) := by decide +kernel
theorem d_la_461 : decode code 461 = .ok (.aload_n 0, 1) := by decide +kernel
theorem d_la_462 : decode code 462 = .ok (.iload 4, 2) := by decide +kernel
theorem d_la_464 : decode code 464 = .ok (.iconst 2, 1) := by decide +kernel
theorem d_la_465 : decode code 465 = .ok (.iadd, 1) := by decide +kernel
theorem d_la_466 : decode code 466 = .ok (.iaload, 1) := by decide +kernel
theorem d_la_467 : decode code 467 = .ok (.invokevirtual 68, 3) := by decide +kernel
theorem d_la_470 : decode code 470 = .ok (.aload_n 2, 1) := by decide +kernel
theorem d_la_471 : decode code 471 = .ok (.aload_n 0, 1) := by decide +kernel
theorem d_la_472 : decode code 472 = .ok (.iload 4, 2) := by decide +kernel
theorem d_la_474 : decode code 474 = .ok (.iconst 1, 1) := by decide +kernel
theorem d_la_475 : decode code 475 = .ok (.iadd, 1) := by decide +kernel
theorem d_la_476 : decode code 476 = .ok (.iaload, 1) := by decide +kernel
theorem d_la_477 : decode code 477 = .ok (.aload_n 0, 1) := by decide +kernel
theorem d_la_478 : decode code 478 = .ok (.iload 4, 2) := by decide +kernel
theorem d_la_480 : decode code 480 = .ok (.iconst 2, 1) := by decide +kernel
theorem d_la_481 : decode code 481 = .ok (.iadd, 1) := by decide +kernel
theorem d_la_482 : decode code 482 = .ok (.iaload, 1) := by decide +kernel
theorem d_la_483 : decode code 483 = .ok (.invokevirtual 71, 3) := by decide +kernel
theorem d_la_486 : decode code 486 = .ok (.if_icmp .eq 68, 3) := by decide +kernel
theorem d_la_489 : decode code 489 = .ok (.iconst 0, 1) := by decide +kernel
theorem d_la_490 : decode code 490 = .ok (.ireturn, 1) := by decide +kernel
theorem d_la_491 : decode code 491 = .ok (.aload_n 1, 1) := by decide +kernel
theorem d_la_492 : decode code 492 = .ok (.aload_n 0, 1) := by decide +kernel
theorem d_la_493 : decode code 493 = .ok (.iload 4, 2) := by decide +kernel
theorem d_la_495 : decode code 495 = .ok (.iconst 1, 1) := by decide +kernel
theorem d_la_496 : decode code 496 = .ok (.iadd, 1) := by decide +kernel
theorem d_la_497 : decode code 497 = .ok (.iaload, 1) := by decide +kernel
theorem d_la_498 : decode code 498 = .ok (.invokevirtual 72, 3) := by decide +kernel
theorem d_la_501 : decode code 501 = .ok (.aload_n 2, 1) := by decide +kernel
theorem d_la_502 : decode code 502 = .ok (.aload_n 0, 1) := by decide +kernel
theorem d_la_503 : decode code 503 = .ok (.iload 4, 2) := by decide +kernel
theorem d_la_505 : decode code 505 = .ok (.iconst 1, 1) := by decide +kernel
theorem d_la_506 : decode code 506 = .ok (.iadd, 1) := by decide +kernel
theorem d_la_507 : decode code 507 = .ok (.iaload, 1) := by decide +kernel
theorem d_la_508 : decode code 508 = .ok (.invokevirtual 75, 3) := by decide +kernel
theorem d_la_511 : decode code 511 = .ok (.if_icmp .eq 43, 3) := by decide +kernel
theorem d_la_514 : decode code 514 = .ok (.iconst 0, 1) := by decide +kernel
theorem d_la_515 : decode code 515 = .ok (.ireturn, 1) := by decide +kernel
theorem d_la_516 : decode code 516 = .ok (.aload_n 1, 1) := by decide +kernel
theorem d_la_517 : decode code 517 = .ok (.aload_n 0, 1) := by decide +kernel
theorem d_la_518 : decode code 518 = .ok (.iload 4, 2) := by decide +kernel
theorem d_la_520 : decode code 520 = .ok (.iconst 1, 1) := by decide +kernel
theorem d_la_521 : decode code 521 = .ok (.iadd, 1) := by decide +kernel
theorem d_la_522 : decode code 522 = .ok (.iaload, 1) := by decide +kernel
theorem d_la_523 : decode code 523 = .ok (.aload_n 0, 1) := by decide +kernel
theorem d_la_524 : decode code 524 = .ok (.iload 4, 2) := by decide +kernel
theorem d_la_526 : decode code 526 = .ok (.iconst 2, 1) := by decide +kernel
theorem d_la_527 : decode code 527 = .ok (.iadd, 1) := by decide +kernel
theorem d_la_528 : decode code 528 = .ok (.iaload, 1) := by decide +kernel
theorem d_la_529 : decode code 529 = .ok (.invokevirtual 76, 3) := by decide +kernel
theorem d_la_532 : decode code 532 = .ok (.aload_n 2, 1) := by decide +kernel
theorem d_la_533 : decode code 533 = .ok (.aload_n 0, 1) := by decide +kernel
theorem d_la_534 : decode code 534 = .ok (.iload 4, 2) := by decide +kernel
theorem d_la_536 : decode code 536 = .ok (.iconst 1, 1) := by decide +kernel
theorem d_la_537 : decode code 537 = .ok (.iadd, 1) := by decide +kernel
theorem d_la_538 : decode code 538 = .ok (.iaload, 1) := by decide +kernel
theorem d_la_539 : decode code 539 = .ok (.aload_n 0, 1) := by decide +kernel
theorem d_la_540 : decode code 540 = .ok (.iload 4, 2) := by decide +kernel
theorem d_la_542 : decode code 542 = .ok (.iconst 2, 1) := by decide +kernel
theorem d_la_543 : decode code 543 = .ok (.iadd, 1) := by decide +kernel
theorem d_la_544 : decode code 544 = .ok (.iaload, 1) := by decide +kernel
theorem d_la_545 : decode code 545 = .ok (.invokevirtual 80, 3) := by decide +kernel
theorem d_la_548 : decode code 548 = .ok (.lcmp, 1) := by decide +kernel
theorem d_la_549 : decode code 549 = .ok (.ifCond .eq 5, 3) := by decide +kernel
theorem d_la_552 : decode code 552 = .ok (.iconst 0, 1) := by decide +kernel
theorem d_la_553 : decode code 553 = .ok (.ireturn, 1) := by decide +kernel
theorem d_la_554 : decode code 554 = .ok (.iinc 4 4, 3) := by decide +kernel
theorem d_la_557 : decode code 557 = .ok (.goto (-534), 3) := by decide +kernel
theorem d_la_560 : decode code 560 = .ok (.iconst 1, 1) := by decide +kernel
theorem d_la_561 : decode code 561 = .ok (.ireturn, 1) := by decide +kernel

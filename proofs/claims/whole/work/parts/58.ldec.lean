theorem dd_LA_law_0 : decode code 0 = .ok (.new 8, 3) := by decide +kernel
theorem dd_LA_law_3 : decode code 3 = .ok (.dup, 1) := by decide +kernel
theorem dd_LA_law_4 : decode code 4 = .ok (.invokespecial 51, 3) := by decide +kernel
theorem dd_LA_law_7 : decode code 7 = .ok (.astore_n 1, 1) := by decide +kernel
theorem dd_LA_law_8 : decode code 8 = .ok (.new 52, 3) := by decide +kernel
theorem dd_LA_law_11 : decode code 11 = .ok (.dup, 1) := by decide +kernel
theorem dd_LA_law_12 : decode code 12 = .ok (.invokespecial 54, 3) := by decide +kernel
theorem dd_LA_law_15 : decode code 15 = .ok (.astore_n 2, 1) := by decide +kernel
theorem dd_LA_law_16 : decode code 16 = .ok (.iconst 1, 1) := by decide +kernel
theorem dd_LA_law_17 : decode code 17 = .ok (.newarray .long, 2) := by decide +kernel
theorem dd_LA_law_19 : decode code 19 = .ok (.astore_n 3, 1) := by decide +kernel
theorem dd_LA_law_20 : decode code 20 = .ok (.iconst 0, 1) := by decide +kernel
theorem dd_LA_law_21 : decode code 21 = .ok (.istore 4, 2) := by decide +kernel
theorem dd_LA_law_23 : decode code 23 = .ok (.iload 4, 2) := by decide +kernel
theorem dd_LA_law_25 : decode code 25 = .ok (.aload_n 0, 1) := by decide +kernel
theorem dd_LA_law_26 : decode code 26 = .ok (.arraylength, 1) := by decide +kernel
theorem dd_LA_law_27 : decode code 27 = .ok (.iconst 4, 1) := by decide +kernel
theorem dd_LA_law_28 : decode code 28 = .ok (.isub, 1) := by decide +kernel
theorem dd_LA_law_29 : decode code 29 = .ok (.if_icmp .gt 792, 3) := by decide +kernel
theorem dd_LA_law_32 : decode code 32 = .ok (.aload_n 0, 1) := by decide +kernel
theorem dd_LA_law_33 : decode code 33 = .ok (.iload 4, 2) := by decide +kernel
theorem dd_LA_law_35 : decode code 35 = .ok (.iaload, 1) := by decide +kernel
theorem dd_LA_law_36 : decode code 36 = .ok (.bipush 15, 2) := by decide +kernel
theorem dd_LA_law_38 : decode code 38 = .ok (.iand, 1) := by decide +kernel
theorem dd_LA_law_39 : decode code 39 = .ok (.tableswitch 776 0 12 #[65, 125, 193, 273, 353, 421, 477, 490, 570, 638, 651, 664, 720], 65) := by decide +kernel
theorem dd_LA_law_104 : decode code 104 = .ok (.aload_n 1, 1) := by decide +kernel
theorem dd_LA_law_105 : decode code 105 = .ok (.aload_n 0, 1) := by decide +kernel
theorem dd_LA_law_106 : decode code 106 = .ok (.iload 4, 2) := by decide +kernel
theorem dd_LA_law_108 : decode code 108 = .ok (.iconst 1, 1) := by decide +kernel
theorem dd_LA_law_109 : decode code 109 = .ok (.iadd, 1) := by decide +kernel
theorem dd_LA_law_110 : decode code 110 = .ok (.iaload, 1) := by decide +kernel
theorem dd_LA_law_111 : decode code 111 = .ok (.aload_n 0, 1) := by decide +kernel
theorem dd_LA_law_112 : decode code 112 = .ok (.iload 4, 2) := by decide +kernel
theorem dd_LA_law_114 : decode code 114 = .ok (.iconst 2, 1) := by decide +kernel
theorem dd_LA_law_115 : decode code 115 = .ok (.iadd, 1) := by decide +kernel
theorem dd_LA_law_116 : decode code 116 = .ok (.iaload, 1) := by decide +kernel
theorem dd_LA_law_117 : decode code 117 = .ok (.aload_n 0, 1) := by decide +kernel
theorem dd_LA_law_118 : decode code 118 = .ok (.iload 4, 2) := by decide +kernel
theorem dd_LA_law_120 : decode code 120 = .ok (.iconst 3, 1) := by decide +kernel
theorem dd_LA_law_121 : decode code 121 = .ok (.iadd, 1) := by decide +kernel
theorem dd_LA_law_122 : decode code 122 = .ok (.iaload, 1) := by decide +kernel
theorem dd_LA_law_123 : decode code 123 = .ok (.invokestatic 55, 3) := by decide +kernel
theorem dd_LA_law_126 : decode code 126 = .ok (.istore 5, 2) := by decide +kernel
theorem dd_LA_law_128 : decode code 128 = .ok (.aload_n 2, 1) := by decide +kernel
theorem dd_LA_law_129 : decode code 129 = .ok (.aload_n 0, 1) := by decide +kernel
theorem dd_LA_law_130 : decode code 130 = .ok (.iload 4, 2) := by decide +kernel
theorem dd_LA_law_132 : decode code 132 = .ok (.iconst 1, 1) := by decide +kernel
theorem dd_LA_law_133 : decode code 133 = .ok (.iadd, 1) := by decide +kernel
theorem dd_LA_law_134 : decode code 134 = .ok (.iaload, 1) := by decide +kernel
theorem dd_LA_law_135 : decode code 135 = .ok (.aload_n 0, 1) := by decide +kernel
theorem dd_LA_law_136 : decode code 136 = .ok (.iload 4, 2) := by decide +kernel
theorem dd_LA_law_138 : decode code 138 = .ok (.iconst 2, 1) := by decide +kernel
theorem dd_LA_law_139 : decode code 139 = .ok (.iadd, 1) := by decide +kernel
theorem dd_LA_law_140 : decode code 140 = .ok (.iaload, 1) := by decide +kernel
theorem dd_LA_law_141 : decode code 141 = .ok (.aload_n 0, 1) := by decide +kernel
theorem dd_LA_law_142 : decode code 142 = .ok (.iload 4, 2) := by decide +kernel
theorem dd_LA_law_144 : decode code 144 = .ok (.iconst 3, 1) := by decide +kernel
theorem dd_LA_law_145 : decode code 145 = .ok (.iadd, 1) := by decide +kernel
theorem dd_LA_law_146 : decode code 146 = .ok (.iaload, 1) := by decide +kernel
theorem dd_LA_law_147 : decode code 147 = .ok (.invokevirtual 60, 3) := by decide +kernel
theorem dd_LA_law_150 : decode code 150 = .ok (.aload_n 2, 1) := by decide +kernel
theorem dd_LA_law_151 : decode code 151 = .ok (.invokevirtual 61, 3) := by decide +kernel
theorem dd_LA_law_154 : decode code 154 = .ok (.iload 5, 2) := by decide +kernel
theorem dd_LA_law_156 : decode code 156 = .ok (.if_icmp .eq 5, 3) := by decide +kernel
theorem dd_LA_law_159 : decode code 159 = .ok (.iconst 0, 1) := by decide +kernel
theorem dd_LA_law_160 : decode code 160 = .ok (.ireturn, 1) := by decide +kernel
theorem dd_LA_law_161 : decode code 161 = .ok (.goto 654, 3) := by decide +kernel
theorem dd_LA_law_164 : decode code 164 = .ok (.aload_n 1, 1) := by decide +kernel
theorem dd_LA_law_165 : decode code 165 = .ok (.aload_n 0, 1) := by decide +kernel
theorem dd_LA_law_166 : decode code 166 = .ok (.iload 4, 2) := by decide +kernel
theorem dd_LA_law_168 : decode code 168 = .ok (.iconst 1, 1) := by decide +kernel
theorem dd_LA_law_169 : decode code 169 = .ok (.iadd, 1) := by decide +kernel
theorem dd_LA_law_170 : decode code 170 = .ok (.iaload, 1) := by decide +kernel
theorem dd_LA_law_171 : decode code 171 = .ok (.aload_n 0, 1) := by decide +kernel
theorem dd_LA_law_172 : decode code 172 = .ok (.iload 4, 2) := by decide +kernel
theorem dd_LA_law_174 : decode code 174 = .ok (.iconst 2, 1) := by decide +kernel
theorem dd_LA_law_175 : decode code 175 = .ok (.iadd, 1) := by decide +kernel
theorem dd_LA_law_176 : decode code 176 = .ok (.iaload, 1) := by decide +kernel
theorem dd_LA_law_177 : decode code 177 = .ok (.aload_n 3, 1) := by decide +kernel
theorem dd_LA_law_178 : decode code 178 = .ok (.invokestatic 65, 3) := by decide +kernel
theorem dd_LA_law_181 : decode code 181 = .ok (.istore 5, 2) := by decide +kernel
theorem dd_LA_law_183 : decode code 183 = .ok (.aload_n 2, 1) := by decide +kernel
theorem dd_LA_law_184 : decode code 184 = .ok (.aload_n 0, 1) := by decide +kernel
theorem dd_LA_law_185 : decode code 185 = .ok (.iload 4, 2) := by decide +kernel
theorem dd_LA_law_187 : decode code 187 = .ok (.iconst 1, 1) := by decide +kernel
theorem dd_LA_law_188 : decode code 188 = .ok (.iadd, 1) := by decide +kernel
theorem dd_LA_law_189 : decode code 189 = .ok (.iaload, 1) := by decide +kernel
theorem dd_LA_law_190 : decode code 190 = .ok (.aload_n 0, 1) := by decide +kernel
theorem dd_LA_law_191 : decode code 191 = .ok (.iload 4, 2) := by decide +kernel
theorem dd_LA_law_193 : decode code 193 = .ok (.iconst 2, 1) := by decide +kernel
theorem dd_LA_law_194 : decode code 194 = .ok (.iadd, 1) := by decide +kernel
theorem dd_LA_law_195 : decode code 195 = .ok (.iaload, 1) := by decide +kernel
theorem dd_LA_law_196 : decode code 196 = .ok (.invokevirtual 68, 3) := by decide +kernel
theorem dd_LA_law_199 : decode code 199 = .ok (.istore 6, 2) := by decide +kernel
theorem dd_LA_law_201 : decode code 201 = .ok (.aload_n 2, 1) := by decide +kernel
theorem dd_LA_law_202 : decode code 202 = .ok (.invokevirtual 61, 3) := by decide +kernel
theorem dd_LA_law_205 : decode code 205 = .ok (.iload 5, 2) := by decide +kernel
theorem dd_LA_law_207 : decode code 207 = .ok (.if_icmp .eq 5, 3) := by decide +kernel
theorem dd_LA_law_210 : decode code 210 = .ok (.iconst 0, 1) := by decide +kernel
theorem dd_LA_law_211 : decode code 211 = .ok (.ireturn, 1) := by decide +kernel
theorem dd_LA_law_212 : decode code 212 = .ok (.iload 5, 2) := by decide +kernel
theorem dd_LA_law_214 : decode code 214 = .ok (.ifCond .ne 15, 3) := by decide +kernel
theorem dd_LA_law_217 : decode code 217 = .ok (.aload_n 3, 1) := by decide +kernel
theorem dd_LA_law_218 : decode code 218 = .ok (.iconst 0, 1) := by decide +kernel
theorem dd_LA_law_219 : decode code 219 = .ok (.laload, 1) := by decide +kernel
theorem dd_LA_law_220 : decode code 220 = .ok (.iload 6, 2) := by decide +kernel
theorem dd_LA_law_222 : decode code 222 = .ok (.i2l, 1) := by decide +kernel
theorem dd_LA_law_223 : decode code 223 = .ok (.lcmp, 1) := by decide +kernel
theorem dd_LA_law_224 : decode code 224 = .ok (.ifCond .eq 5, 3) := by decide +kernel
theorem dd_LA_law_227 : decode code 227 = .ok (.iconst 0, 1) := by decide +kernel
theorem dd_LA_law_228 : decode code 228 = .ok (.ireturn, 1) := by decide +kernel
theorem dd_LA_law_229 : decode code 229 = .ok (.goto 586, 3) := by decide +kernel
theorem dd_LA_law_232 : decode code 232 = .ok (.aload_n 1, 1) := by decide +kernel
theorem dd_LA_law_233 : decode code 233 = .ok (.aload_n 0, 1) := by decide +kernel
theorem dd_LA_law_234 : decode code 234 = .ok (.iload 4, 2) := by decide +kernel
theorem dd_LA_law_236 : decode code 236 = .ok (.iconst 1, 1) := by decide +kernel
theorem dd_LA_law_237 : decode code 237 = .ok (.iadd, 1) := by decide +kernel
theorem dd_LA_law_238 : decode code 238 = .ok (.iaload, 1) := by decide +kernel
theorem dd_LA_law_239 : decode code 239 = .ok (.aload_n 0, 1) := by decide +kernel
theorem dd_LA_law_240 : decode code 240 = .ok (.iload 4, 2) := by decide +kernel
theorem dd_LA_law_242 : decode code 242 = .ok (.iconst 2, 1) := by decide +kernel
theorem dd_LA_law_243 : decode code 243 = .ok (.iadd, 1) := by decide +kernel
theorem dd_LA_law_244 : decode code 244 = .ok (.iaload, 1) := by decide +kernel
theorem dd_LA_law_245 : decode code 245 = .ok (.aload_n 0, 1) := by decide +kernel
theorem dd_LA_law_246 : decode code 246 = .ok (.iload 4, 2) := by decide +kernel
theorem dd_LA_law_248 : decode code 248 = .ok (.iconst 3, 1) := by decide +kernel
theorem dd_LA_law_249 : decode code 249 = .ok (.iadd, 1) := by decide +kernel
theorem dd_LA_law_250 : decode code 250 = .ok (.iaload, 1) := by decide +kernel
theorem dd_LA_law_251 : decode code 251 = .ok (.aload_n 3, 1) := by decide +kernel
theorem dd_LA_law_252 : decode code 252 = .ok (.invokestatic 69, 3) := by decide +kernel
theorem dd_LA_law_255 : decode code 255 = .ok (.istore 5, 2) := by decide +kernel
theorem dd_LA_law_257 : decode code 257 = .ok (.aload_n 2, 1) := by decide +kernel
theorem dd_LA_law_258 : decode code 258 = .ok (.aload_n 0, 1) := by decide +kernel
theorem dd_LA_law_259 : decode code 259 = .ok (.iload 4, 2) := by decide +kernel
theorem dd_LA_law_261 : decode code 261 = .ok (.iconst 1, 1) := by decide +kernel
theorem dd_LA_law_262 : decode code 262 = .ok (.iadd, 1) := by decide +kernel
theorem dd_LA_law_263 : decode code 263 = .ok (.iaload, 1) := by decide +kernel
theorem dd_LA_law_264 : decode code 264 = .ok (.aload_n 0, 1) := by decide +kernel
theorem dd_LA_law_265 : decode code 265 = .ok (.iload 4, 2) := by decide +kernel
theorem dd_LA_law_267 : decode code 267 = .ok (.iconst 2, 1) := by decide +kernel
theorem dd_LA_law_268 : decode code 268 = .ok (.iadd, 1) := by decide +kernel
theorem dd_LA_law_269 : decode code 269 = .ok (.iaload, 1) := by decide +kernel
theorem dd_LA_law_270 : decode code 270 = .ok (.aload_n 0, 1) := by decide +kernel
theorem dd_LA_law_271 : decode code 271 = .ok (.iload 4, 2) := by decide +kernel
theorem dd_LA_law_273 : decode code 273 = .ok (.iconst 3, 1) := by decide +kernel
theorem dd_LA_law_274 : decode code 274 = .ok (.iadd, 1) := by decide +kernel
theorem dd_LA_law_275 : decode code 275 = .ok (.iaload, 1) := by decide +kernel
theorem dd_LA_law_276 : decode code 276 = .ok (.invokevirtual 72, 3) := by decide +kernel
theorem dd_LA_law_279 : decode code 279 = .ok (.istore 6, 2) := by decide +kernel
theorem dd_LA_law_281 : decode code 281 = .ok (.aload_n 2, 1) := by decide +kernel
theorem dd_LA_law_282 : decode code 282 = .ok (.invokevirtual 61, 3) := by decide +kernel
theorem dd_LA_law_285 : decode code 285 = .ok (.iload 5, 2) := by decide +kernel
theorem dd_LA_law_287 : decode code 287 = .ok (.if_icmp .eq 5, 3) := by decide +kernel
theorem dd_LA_law_290 : decode code 290 = .ok (.iconst 0, 1) := by decide +kernel
theorem dd_LA_law_291 : decode code 291 = .ok (.ireturn, 1) := by decide +kernel
theorem dd_LA_law_292 : decode code 292 = .ok (.iload 5, 2) := by decide +kernel
theorem dd_LA_law_294 : decode code 294 = .ok (.ifCond .ne 15, 3) := by decide +kernel
theorem dd_LA_law_297 : decode code 297 = .ok (.aload_n 3, 1) := by decide +kernel
theorem dd_LA_law_298 : decode code 298 = .ok (.iconst 0, 1) := by decide +kernel
theorem dd_LA_law_299 : decode code 299 = .ok (.laload, 1) := by decide +kernel
theorem dd_LA_law_300 : decode code 300 = .ok (.iload 6, 2) := by decide +kernel
theorem dd_LA_law_302 : decode code 302 = .ok (.i2l, 1) := by decide +kernel
theorem dd_LA_law_303 : decode code 303 = .ok (.lcmp, 1) := by decide +kernel
theorem dd_LA_law_304 : decode code 304 = .ok (.ifCond .eq 5, 3) := by decide +kernel
theorem dd_LA_law_307 : decode code 307 = .ok (.iconst 0, 1) := by decide +kernel
theorem dd_LA_law_308 : decode code 308 = .ok (.ireturn, 1) := by decide +kernel
theorem dd_LA_law_309 : decode code 309 = .ok (.goto 506, 3) := by decide +kernel
theorem dd_LA_law_312 : decode code 312 = .ok (.aload_n 1, 1) := by decide +kernel
theorem dd_LA_law_313 : decode code 313 = .ok (.aload_n 0, 1) := by decide +kernel
theorem dd_LA_law_314 : decode code 314 = .ok (.iload 4, 2) := by decide +kernel
theorem dd_LA_law_316 : decode code 316 = .ok (.iconst 1, 1) := by decide +kernel
theorem dd_LA_law_317 : decode code 317 = .ok (.iadd, 1) := by decide +kernel
theorem dd_LA_law_318 : decode code 318 = .ok (.iaload, 1) := by decide +kernel
theorem dd_LA_law_319 : decode code 319 = .ok (.aload_n 0, 1) := by decide +kernel
theorem dd_LA_law_320 : decode code 320 = .ok (.iload 4, 2) := by decide +kernel
theorem dd_LA_law_322 : decode code 322 = .ok (.iconst 2, 1) := by decide +kernel
theorem dd_LA_law_323 : decode code 323 = .ok (.iadd, 1) := by decide +kernel
theorem dd_LA_law_324 : decode code 324 = .ok (.iaload, 1) := by decide +kernel
theorem dd_LA_law_325 : decode code 325 = .ok (.aload_n 0, 1) := by decide +kernel
theorem dd_LA_law_326 : decode code 326 = .ok (.iload 4, 2) := by decide +kernel
theorem dd_LA_law_328 : decode code 328 = .ok (.iconst 3, 1) := by decide +kernel
theorem dd_LA_law_329 : decode code 329 = .ok (.iadd, 1) := by decide +kernel
theorem dd_LA_law_330 : decode code 330 = .ok (.iaload, 1) := by decide +kernel
theorem dd_LA_law_331 : decode code 331 = .ok (.aload_n 3, 1) := by decide +kernel
theorem dd_LA_law_332 : decode code 332 = .ok (.invokestatic 73, 3) := by decide +kernel
theorem dd_LA_law_335 : decode code 335 = .ok (.istore 5, 2) := by decide +kernel
theorem dd_LA_law_337 : decode code 337 = .ok (.aload_n 2, 1) := by decide +kernel
theorem dd_LA_law_338 : decode code 338 = .ok (.aload_n 0, 1) := by decide +kernel
theorem dd_LA_law_339 : decode code 339 = .ok (.iload 4, 2) := by decide +kernel
theorem dd_LA_law_341 : decode code 341 = .ok (.iconst 1, 1) := by decide +kernel
theorem dd_LA_law_342 : decode code 342 = .ok (.iadd, 1) := by decide +kernel
theorem dd_LA_law_343 : decode code 343 = .ok (.iaload, 1) := by decide +kernel
theorem dd_LA_law_344 : decode code 344 = .ok (.aload_n 0, 1) := by decide +kernel
theorem dd_LA_law_345 : decode code 345 = .ok (.iload 4, 2) := by decide +kernel
theorem dd_LA_law_347 : decode code 347 = .ok (.iconst 2, 1) := by decide +kernel
theorem dd_LA_law_348 : decode code 348 = .ok (.iadd, 1) := by decide +kernel
theorem dd_LA_law_349 : decode code 349 = .ok (.iaload, 1) := by decide +kernel
theorem dd_LA_law_350 : decode code 350 = .ok (.aload_n 0, 1) := by decide +kernel
theorem dd_LA_law_351 : decode code 351 = .ok (.iload 4, 2) := by decide +kernel
theorem dd_LA_law_353 : decode code 353 = .ok (.iconst 3, 1) := by decide +kernel
theorem dd_LA_law_354 : decode code 354 = .ok (.iadd, 1) := by decide +kernel
theorem dd_LA_law_355 : decode code 355 = .ok (.iaload, 1) := by decide +kernel
theorem dd_LA_law_356 : decode code 356 = .ok (.invokevirtual 75, 3) := by decide +kernel
theorem dd_LA_law_359 : decode code 359 = .ok (.istore 6, 2) := by decide +kernel
theorem dd_LA_law_361 : decode code 361 = .ok (.aload_n 2, 1) := by decide +kernel
theorem dd_LA_law_362 : decode code 362 = .ok (.invokevirtual 61, 3) := by decide +kernel
theorem dd_LA_law_365 : decode code 365 = .ok (.iload 5, 2) := by decide +kernel
theorem dd_LA_law_367 : decode code 367 = .ok (.if_icmp .eq 5, 3) := by decide +kernel
theorem dd_LA_law_370 : decode code 370 = .ok (.iconst 0, 1) := by decide +kernel
theorem dd_LA_law_371 : decode code 371 = .ok (.ireturn, 1) := by decide +kernel
theorem dd_LA_law_372 : decode code 372 = .ok (.iload 5, 2) := by decide +kernel
theorem dd_LA_law_374 : decode code 374 = .ok (.ifCond .ne 15, 3) := by decide +kernel
theorem dd_LA_law_377 : decode code 377 = .ok (.aload_n 3, 1) := by decide +kernel
theorem dd_LA_law_378 : decode code 378 = .ok (.iconst 0, 1) := by decide +kernel
theorem dd_LA_law_379 : decode code 379 = .ok (.laload, 1) := by decide +kernel
theorem dd_LA_law_380 : decode code 380 = .ok (.iload 6, 2) := by decide +kernel
theorem dd_LA_law_382 : decode code 382 = .ok (.i2l, 1) := by decide +kernel
theorem dd_LA_law_383 : decode code 383 = .ok (.lcmp, 1) := by decide +kernel
theorem dd_LA_law_384 : decode code 384 = .ok (.ifCond .eq 5, 3) := by decide +kernel
theorem dd_LA_law_387 : decode code 387 = .ok (.iconst 0, 1) := by decide +kernel
theorem dd_LA_law_388 : decode code 388 = .ok (.ireturn, 1) := by decide +kernel
theorem dd_LA_law_389 : decode code 389 = .ok (.goto 426, 3) := by decide +kernel
theorem dd_LA_law_392 : decode code 392 = .ok (.aload_n 1, 1) := by decide +kernel
theorem dd_LA_law_393 : decode code 393 = .ok (.aload_n 0, 1) := by decide +kernel
theorem dd_LA_law_394 : decode code 394 = .ok (.iload 4, 2) := by decide +kernel
theorem dd_LA_law_396 : decode code 396 = .ok (.iconst 1, 1) := by decide +kernel
theorem dd_LA_law_397 : decode code 397 = .ok (.iadd, 1) := by decide +kernel
theorem dd_LA_law_398 : decode code 398 = .ok (.iaload, 1) := by decide +kernel
theorem dd_LA_law_399 : decode code 399 = .ok (.aload_n 0, 1) := by decide +kernel
theorem dd_LA_law_400 : decode code 400 = .ok (.iload 4, 2) := by decide +kernel
theorem dd_LA_law_402 : decode code 402 = .ok (.iconst 2, 1) := by decide +kernel
theorem dd_LA_law_403 : decode code 403 = .ok (.iadd, 1) := by decide +kernel
theorem dd_LA_law_404 : decode code 404 = .ok (.iaload, 1) := by decide +kernel
theorem dd_LA_law_405 : decode code 405 = .ok (.aload_n 3, 1) := by decide +kernel
theorem dd_LA_law_406 : decode code 406 = .ok (.invokestatic 76, 3) := by decide +kernel
theorem dd_LA_law_409 : decode code 409 = .ok (.istore 5, 2) := by decide +kernel
theorem dd_LA_law_411 : decode code 411 = .ok (.aload_n 2, 1) := by decide +kernel
theorem dd_LA_law_412 : decode code 412 = .ok (.aload_n 0, 1) := by decide +kernel
theorem dd_LA_law_413 : decode code 413 = .ok (.iload 4, 2) := by decide +kernel
theorem dd_LA_law_415 : decode code 415 = .ok (.iconst 1, 1) := by decide +kernel
theorem dd_LA_law_416 : decode code 416 = .ok (.iadd, 1) := by decide +kernel
theorem dd_LA_law_417 : decode code 417 = .ok (.iaload, 1) := by decide +kernel
theorem dd_LA_law_418 : decode code 418 = .ok (.aload_n 0, 1) := by decide +kernel
theorem dd_LA_law_419 : decode code 419 = .ok (.iload 4, 2) := by decide +kernel
theorem dd_LA_law_421 : decode code 421 = .ok (.iconst 2, 1) := by decide +kernel
theorem dd_LA_law_422 : decode code 422 = .ok (.iadd, 1) := by decide +kernel
theorem dd_LA_law_423 : decode code 423 = .ok (.iaload, 1) := by decide +kernel
theorem dd_LA_law_424 : decode code 424 = .ok (.invokevirtual 78, 3) := by decide +kernel
theorem dd_LA_law_427 : decode code 427 = .ok (.istore 6, 2) := by decide +kernel
theorem dd_LA_law_429 : decode code 429 = .ok (.aload_n 2, 1) := by decide +kernel
theorem dd_LA_law_430 : decode code 430 = .ok (.invokevirtual 61, 3) := by decide +kernel
theorem dd_LA_law_433 : decode code 433 = .ok (.iload 5, 2) := by decide +kernel
theorem dd_LA_law_435 : decode code 435 = .ok (.if_icmp .eq 5, 3) := by decide +kernel
theorem dd_LA_law_438 : decode code 438 = .ok (.iconst 0, 1) := by decide +kernel
theorem dd_LA_law_439 : decode code 439 = .ok (.ireturn, 1) := by decide +kernel
theorem dd_LA_law_440 : decode code 440 = .ok (.iload 5, 2) := by decide +kernel
theorem dd_LA_law_442 : decode code 442 = .ok (.ifCond .ne 15, 3) := by decide +kernel
theorem dd_LA_law_445 : decode code 445 = .ok (.aload_n 3, 1) := by decide +kernel
theorem dd_LA_law_446 : decode code 446 = .ok (.iconst 0, 1) := by decide +kernel
theorem dd_LA_law_447 : decode code 447 = .ok (.laload, 1) := by decide +kernel
theorem dd_LA_law_448 : decode code 448 = .ok (.iload 6, 2) := by decide +kernel
theorem dd_LA_law_450 : decode code 450 = .ok (.i2l, 1) := by decide +kernel
theorem dd_LA_law_451 : decode code 451 = .ok (.lcmp, 1) := by decide +kernel
theorem dd_LA_law_452 : decode code 452 = .ok (.ifCond .eq 5, 3) := by decide +kernel
theorem dd_LA_law_455 : decode code 455 = .ok (.iconst 0, 1) := by decide +kernel
theorem dd_LA_law_456 : decode code 456 = .ok (.ireturn, 1) := by decide +kernel
theorem dd_LA_law_457 : decode code 457 = .ok (.goto 358, 3) := by decide +kernel
theorem dd_LA_law_460 : decode code 460 = .ok (.aload_n 1, 1) := by decide +kernel
theorem dd_LA_law_461 : decode code 461 = .ok (.aload_n 0, 1) := by decide +kernel
theorem dd_LA_law_462 : decode code 462 = .ok (.iload 4, 2) := by decide +kernel
theorem dd_LA_law_464 : decode code 464 = .ok (.iconst 1, 1) := by decide +kernel
theorem dd_LA_law_465 : decode code 465 = .ok (.iadd, 1) := by decide +kernel
theorem dd_LA_law_466 : decode code 466 = .ok (.iaload, 1) := by decide +kernel
theorem dd_LA_law_467 : decode code 467 = .ok (.aload_n 3, 1) := by decide +kernel
theorem dd_LA_law_468 : decode code 468 = .ok (.invokestatic 79, 3) := by decide +kernel
theorem dd_LA_law_471 : decode code 471 = .ok (.istore 5, 2) := by decide +kernel
theorem dd_LA_law_473 : decode code 473 = .ok (.aload_n 2, 1) := by decide +kernel
theorem dd_LA_law_474 : decode code 474 = .ok (.aload_n 0, 1) := by decide +kernel
theorem dd_LA_law_475 : decode code 475 = .ok (.iload 4, 2) := by decide +kernel
theorem dd_LA_law_477 : decode code 477 = .ok (.iconst 1, 1) := by decide +kernel
theorem dd_LA_law_478 : decode code 478 = .ok (.iadd, 1) := by decide +kernel
theorem dd_LA_law_479 : decode code 479 = .ok (.iaload, 1) := by decide +kernel
theorem dd_LA_law_480 : decode code 480 = .ok (.invokevirtual 82, 3) := by decide +kernel
theorem dd_LA_law_483 : decode code 483 = .ok (.istore 6, 2) := by decide +kernel
theorem dd_LA_law_485 : decode code 485 = .ok (.aload_n 2, 1) := by decide +kernel
theorem dd_LA_law_486 : decode code 486 = .ok (.invokevirtual 61, 3) := by decide +kernel
theorem dd_LA_law_489 : decode code 489 = .ok (.iload 5, 2) := by decide +kernel
theorem dd_LA_law_491 : decode code 491 = .ok (.if_icmp .eq 5, 3) := by decide +kernel
theorem dd_LA_law_494 : decode code 494 = .ok (.iconst 0, 1) := by decide +kernel
theorem dd_LA_law_495 : decode code 495 = .ok (.ireturn, 1) := by decide +kernel
theorem dd_LA_law_496 : decode code 496 = .ok (.iload 5, 2) := by decide +kernel
theorem dd_LA_law_498 : decode code 498 = .ok (.ifCond .ne 15, 3) := by decide +kernel
theorem dd_LA_law_501 : decode code 501 = .ok (.aload_n 3, 1) := by decide +kernel
theorem dd_LA_law_502 : decode code 502 = .ok (.iconst 0, 1) := by decide +kernel
theorem dd_LA_law_503 : decode code 503 = .ok (.laload, 1) := by decide +kernel
theorem dd_LA_law_504 : decode code 504 = .ok (.iload 6, 2) := by decide +kernel
theorem dd_LA_law_506 : decode code 506 = .ok (.i2l, 1) := by decide +kernel
theorem dd_LA_law_507 : decode code 507 = .ok (.lcmp, 1) := by decide +kernel
theorem dd_LA_law_508 : decode code 508 = .ok (.ifCond .eq 5, 3) := by decide +kernel
theorem dd_LA_law_511 : decode code 511 = .ok (.iconst 0, 1) := by decide +kernel
theorem dd_LA_law_512 : decode code 512 = .ok (.ireturn, 1) := by decide +kernel
theorem dd_LA_law_513 : decode code 513 = .ok (.goto 302, 3) := by decide +kernel
theorem dd_LA_law_516 : decode code 516 = .ok (.aload_n 1, 1) := by decide +kernel
theorem dd_LA_law_517 : decode code 517 = .ok (.invokevirtual 83, 3) := by decide +kernel
theorem dd_LA_law_520 : decode code 520 = .ok (.aload_n 2, 1) := by decide +kernel
theorem dd_LA_law_521 : decode code 521 = .ok (.invokevirtual 86, 3) := by decide +kernel
theorem dd_LA_law_524 : decode code 524 = .ok (.if_icmp .eq 291, 3) := by decide +kernel
theorem dd_LA_law_527 : decode code 527 = .ok (.iconst 0, 1) := by decide +kernel
theorem dd_LA_law_528 : decode code 528 = .ok (.ireturn, 1) := by decide +kernel
theorem dd_LA_law_529 : decode code 529 = .ok (.aload_n 1, 1) := by decide +kernel
theorem dd_LA_law_530 : decode code 530 = .ok (.aload_n 0, 1) := by decide +kernel
theorem dd_LA_law_531 : decode code 531 = .ok (.iload 4, 2) := by decide +kernel
theorem dd_LA_law_533 : decode code 533 = .ok (.iconst 1, 1) := by decide +kernel
theorem dd_LA_law_534 : decode code 534 = .ok (.iadd, 1) := by decide +kernel
theorem dd_LA_law_535 : decode code 535 = .ok (.iaload, 1) := by decide +kernel
theorem dd_LA_law_536 : decode code 536 = .ok (.aload_n 0, 1) := by decide +kernel
theorem dd_LA_law_537 : decode code 537 = .ok (.iload 4, 2) := by decide +kernel
theorem dd_LA_law_539 : decode code 539 = .ok (.iconst 2, 1) := by decide +kernel
theorem dd_LA_law_540 : decode code 540 = .ok (.iadd, 1) := by decide +kernel
theorem dd_LA_law_541 : decode code 541 = .ok (.iaload, 1) := by decide +kernel
theorem dd_LA_law_542 : decode code 542 = .ok (.aload_n 0, 1) := by decide +kernel
theorem dd_LA_law_543 : decode code 543 = .ok (.iload 4, 2) := by decide +kernel
theorem dd_LA_law_545 : decode code 545 = .ok (.iconst 3, 1) := by decide +kernel
theorem dd_LA_law_546 : decode code 546 = .ok (.iadd, 1) := by decide +kernel
theorem dd_LA_law_547 : decode code 547 = .ok (.iaload, 1) := by decide +kernel
theorem dd_LA_law_548 : decode code 548 = .ok (.aload_n 3, 1) := by decide +kernel
theorem dd_LA_law_549 : decode code 549 = .ok (.invokestatic 87, 3) := by decide +kernel
theorem dd_LA_law_552 : decode code 552 = .ok (.istore 5, 2) := by decide +kernel
theorem dd_LA_law_554 : decode code 554 = .ok (.aload_n 2, 1) := by decide +kernel
theorem dd_LA_law_555 : decode code 555 = .ok (.aload_n 0, 1) := by decide +kernel
theorem dd_LA_law_556 : decode code 556 = .ok (.iload 4, 2) := by decide +kernel
theorem dd_LA_law_558 : decode code 558 = .ok (.iconst 1, 1) := by decide +kernel
theorem dd_LA_law_559 : decode code 559 = .ok (.iadd, 1) := by decide +kernel
theorem dd_LA_law_560 : decode code 560 = .ok (.iaload, 1) := by decide +kernel
theorem dd_LA_law_561 : decode code 561 = .ok (.aload_n 0, 1) := by decide +kernel
theorem dd_LA_law_562 : decode code 562 = .ok (.iload 4, 2) := by decide +kernel
theorem dd_LA_law_564 : decode code 564 = .ok (.iconst 2, 1) := by decide +kernel
theorem dd_LA_law_565 : decode code 565 = .ok (.iadd, 1) := by decide +kernel
theorem dd_LA_law_566 : decode code 566 = .ok (.iaload, 1) := by decide +kernel
theorem dd_LA_law_567 : decode code 567 = .ok (.aload_n 0, 1) := by decide +kernel
theorem dd_LA_law_568 : decode code 568 = .ok (.iload 4, 2) := by decide +kernel
theorem dd_LA_law_570 : decode code 570 = .ok (.iconst 3, 1) := by decide +kernel
theorem dd_LA_law_571 : decode code 571 = .ok (.iadd, 1) := by decide +kernel
theorem dd_LA_law_572 : decode code 572 = .ok (.iaload, 1) := by decide +kernel
theorem dd_LA_law_573 : decode code 573 = .ok (.invokevirtual 89, 3) := by decide +kernel
theorem dd_LA_law_576 : decode code 576 = .ok (.istore 6, 2) := by decide +kernel
theorem dd_LA_law_578 : decode code 578 = .ok (.aload_n 2, 1) := by decide +kernel
theorem dd_LA_law_579 : decode code 579 = .ok (.invokevirtual 61, 3) := by decide +kernel
theorem dd_LA_law_582 : decode code 582 = .ok (.iload 5, 2) := by decide +kernel
theorem dd_LA_law_584 : decode code 584 = .ok (.if_icmp .eq 5, 3) := by decide +kernel
theorem dd_LA_law_587 : decode code 587 = .ok (.iconst 0, 1) := by decide +kernel
theorem dd_LA_law_588 : decode code 588 = .ok (.ireturn, 1) := by decide +kernel
theorem dd_LA_law_589 : decode code 589 = .ok (.iload 5, 2) := by decide +kernel
theorem dd_LA_law_591 : decode code 591 = .ok (.ifCond .ne 15, 3) := by decide +kernel
theorem dd_LA_law_594 : decode code 594 = .ok (.aload_n 3, 1) := by decide +kernel
theorem dd_LA_law_595 : decode code 595 = .ok (.iconst 0, 1) := by decide +kernel
theorem dd_LA_law_596 : decode code 596 = .ok (.laload, 1) := by decide +kernel
theorem dd_LA_law_597 : decode code 597 = .ok (.iload 6, 2) := by decide +kernel
theorem dd_LA_law_599 : decode code 599 = .ok (.i2l, 1) := by decide +kernel
theorem dd_LA_law_600 : decode code 600 = .ok (.lcmp, 1) := by decide +kernel
theorem dd_LA_law_601 : decode code 601 = .ok (.ifCond .eq 5, 3) := by decide +kernel
theorem dd_LA_law_604 : decode code 604 = .ok (.iconst 0, 1) := by decide +kernel
theorem dd_LA_law_605 : decode code 605 = .ok (.ireturn, 1) := by decide +kernel
theorem dd_LA_law_606 : decode code 606 = .ok (.goto 209, 3) := by decide +kernel
theorem dd_LA_law_609 : decode code 609 = .ok (.aload_n 1, 1) := by decide +kernel
theorem dd_LA_law_610 : decode code 610 = .ok (.aload_n 0, 1) := by decide +kernel
theorem dd_LA_law_611 : decode code 611 = .ok (.iload 4, 2) := by decide +kernel
theorem dd_LA_law_613 : decode code 613 = .ok (.iconst 1, 1) := by decide +kernel
theorem dd_LA_law_614 : decode code 614 = .ok (.iadd, 1) := by decide +kernel
theorem dd_LA_law_615 : decode code 615 = .ok (.iaload, 1) := by decide +kernel
theorem dd_LA_law_616 : decode code 616 = .ok (.aload_n 0, 1) := by decide +kernel
theorem dd_LA_law_617 : decode code 617 = .ok (.iload 4, 2) := by decide +kernel
theorem dd_LA_law_619 : decode code 619 = .ok (.iconst 2, 1) := by decide +kernel
theorem dd_LA_law_620 : decode code 620 = .ok (.iadd, 1) := by decide +kernel
theorem dd_LA_law_621 : decode code 621 = .ok (.iaload, 1) := by decide +kernel
theorem dd_LA_law_622 : decode code 622 = .ok (.aload_n 3, 1) := by decide +kernel
theorem dd_LA_law_623 : decode code 623 = .ok (.invokestatic 90, 3) := by decide +kernel
theorem dd_LA_law_626 : decode code 626 = .ok (.istore 5, 2) := by decide +kernel
theorem dd_LA_law_628 : decode code 628 = .ok (.aload_n 2, 1) := by decide +kernel
theorem dd_LA_law_629 : decode code 629 = .ok (.aload_n 0, 1) := by decide +kernel
theorem dd_LA_law_630 : decode code 630 = .ok (.iload 4, 2) := by decide +kernel
theorem dd_LA_law_632 : decode code 632 = .ok (.iconst 1, 1) := by decide +kernel
theorem dd_LA_law_633 : decode code 633 = .ok (.iadd, 1) := by decide +kernel
theorem dd_LA_law_634 : decode code 634 = .ok (.iaload, 1) := by decide +kernel
theorem dd_LA_law_635 : decode code 635 = .ok (.aload_n 0, 1) := by decide +kernel
theorem dd_LA_law_636 : decode code 636 = .ok (.iload 4, 2) := by decide +kernel
theorem dd_LA_law_638 : decode code 638 = .ok (.iconst 2, 1) := by decide +kernel
theorem dd_LA_law_639 : decode code 639 = .ok (.iadd, 1) := by decide +kernel
theorem dd_LA_law_640 : decode code 640 = .ok (.iaload, 1) := by decide +kernel
theorem dd_LA_law_641 : decode code 641 = .ok (.invokevirtual 92, 3) := by decide +kernel
theorem dd_LA_law_644 : decode code 644 = .ok (.istore 6, 2) := by decide +kernel
theorem dd_LA_law_646 : decode code 646 = .ok (.aload_n 2, 1) := by decide +kernel
theorem dd_LA_law_647 : decode code 647 = .ok (.invokevirtual 61, 3) := by decide +kernel
theorem dd_LA_law_650 : decode code 650 = .ok (.iload 5, 2) := by decide +kernel
theorem dd_LA_law_652 : decode code 652 = .ok (.if_icmp .eq 5, 3) := by decide +kernel
theorem dd_LA_law_655 : decode code 655 = .ok (.iconst 0, 1) := by decide +kernel
theorem dd_LA_law_656 : decode code 656 = .ok (.ireturn, 1) := by decide +kernel
theorem dd_LA_law_657 : decode code 657 = .ok (.iload 5, 2) := by decide +kernel
theorem dd_LA_law_659 : decode code 659 = .ok (.ifCond .ne 15, 3) := by decide +kernel
theorem dd_LA_law_662 : decode code 662 = .ok (.aload_n 3, 1) := by decide +kernel
theorem dd_LA_law_663 : decode code 663 = .ok (.iconst 0, 1) := by decide +kernel
theorem dd_LA_law_664 : decode code 664 = .ok (.laload, 1) := by decide +kernel
theorem dd_LA_law_665 : decode code 665 = .ok (.iload 6, 2) := by decide +kernel
theorem dd_LA_law_667 : decode code 667 = .ok (.i2l, 1) := by decide +kernel
theorem dd_LA_law_668 : decode code 668 = .ok (.lcmp, 1) := by decide +kernel
theorem dd_LA_law_669 : decode code 669 = .ok (.ifCond .eq 5, 3) := by decide +kernel
theorem dd_LA_law_672 : decode code 672 = .ok (.iconst 0, 1) := by decide +kernel
theorem dd_LA_law_673 : decode code 673 = .ok (.ireturn, 1) := by decide +kernel
theorem dd_LA_law_674 : decode code 674 = .ok (.goto 141, 3) := by decide +kernel
theorem dd_LA_law_677 : decode code 677 = .ok (.aload_n 1, 1) := by decide +kernel
theorem dd_LA_law_678 : decode code 678 = .ok (.invokevirtual 93, 3) := by decide +kernel
theorem dd_LA_law_681 : decode code 681 = .ok (.aload_n 2, 1) := by decide +kernel
theorem dd_LA_law_682 : decode code 682 = .ok (.invokevirtual 96, 3) := by decide +kernel
theorem dd_LA_law_685 : decode code 685 = .ok (.if_icmp .eq 130, 3) := by decide +kernel
theorem dd_LA_law_688 : decode code 688 = .ok (.iconst 0, 1) := by decide +kernel
theorem dd_LA_law_689 : decode code 689 = .ok (.ireturn, 1) := by decide +kernel
theorem dd_LA_law_690 : decode code 690 = .ok (.aload_n 1, 1) := by decide +kernel
theorem dd_LA_law_691 : decode code 691 = .ok (.invokevirtual 97, 3) := by decide +kernel
theorem dd_LA_law_694 : decode code 694 = .ok (.aload_n 2, 1) := by decide +kernel
theorem dd_LA_law_695 : decode code 695 = .ok (.invokevirtual 100, 3) := by decide +kernel
theorem dd_LA_law_698 : decode code 698 = .ok (.if_icmp .eq 117, 3) := by decide +kernel
theorem dd_LA_law_701 : decode code 701 = .ok (.iconst 0, 1) := by decide +kernel
theorem dd_LA_law_702 : decode code 702 = .ok (.ireturn, 1) := by decide +kernel
theorem dd_LA_law_703 : decode code 703 = .ok (.aload_n 1, 1) := by decide +kernel
theorem dd_LA_law_704 : decode code 704 = .ok (.aload_n 0, 1) := by decide +kernel
theorem dd_LA_law_705 : decode code 705 = .ok (.iload 4, 2) := by decide +kernel
theorem dd_LA_law_707 : decode code 707 = .ok (.iconst 1, 1) := by decide +kernel
theorem dd_LA_law_708 : decode code 708 = .ok (.iadd, 1) := by decide +kernel
theorem dd_LA_law_709 : decode code 709 = .ok (.iaload, 1) := by decide +kernel
theorem dd_LA_law_710 : decode code 710 = .ok (.aload_n 3, 1) := by decide +kernel
theorem dd_LA_law_711 : decode code 711 = .ok (.invokestatic 101, 3) := by decide +kernel
theorem dd_LA_law_714 : decode code 714 = .ok (.istore 5, 2) := by decide +kernel
theorem dd_LA_law_716 : decode code 716 = .ok (.aload_n 2, 1) := by decide +kernel
theorem dd_LA_law_717 : decode code 717 = .ok (.aload_n 0, 1) := by decide +kernel
theorem dd_LA_law_718 : decode code 718 = .ok (.iload 4, 2) := by decide +kernel
theorem dd_LA_law_720 : decode code 720 = .ok (.iconst 1, 1) := by decide +kernel
theorem dd_LA_law_721 : decode code 721 = .ok (.iadd, 1) := by decide +kernel
theorem dd_LA_law_722 : decode code 722 = .ok (.iaload, 1) := by decide +kernel
theorem dd_LA_law_723 : decode code 723 = .ok (.invokevirtual 103, 3) := by decide +kernel
theorem dd_LA_law_726 : decode code 726 = .ok (.istore 6, 2) := by decide +kernel
theorem dd_LA_law_728 : decode code 728 = .ok (.aload_n 2, 1) := by decide +kernel
theorem dd_LA_law_729 : decode code 729 = .ok (.invokevirtual 61, 3) := by decide +kernel
theorem dd_LA_law_732 : decode code 732 = .ok (.iload 5, 2) := by decide +kernel
theorem dd_LA_law_734 : decode code 734 = .ok (.if_icmp .eq 5, 3) := by decide +kernel
theorem dd_LA_law_737 : decode code 737 = .ok (.iconst 0, 1) := by decide +kernel
theorem dd_LA_law_738 : decode code 738 = .ok (.ireturn, 1) := by decide +kernel
theorem dd_LA_law_739 : decode code 739 = .ok (.iload 5, 2) := by decide +kernel
theorem dd_LA_law_741 : decode code 741 = .ok (.ifCond .ne 15, 3) := by decide +kernel
theorem dd_LA_law_744 : decode code 744 = .ok (.aload_n 3, 1) := by decide +kernel
theorem dd_LA_law_745 : decode code 745 = .ok (.iconst 0, 1) := by decide +kernel
theorem dd_LA_law_746 : decode code 746 = .ok (.laload, 1) := by decide +kernel
theorem dd_LA_law_747 : decode code 747 = .ok (.iload 6, 2) := by decide +kernel
theorem dd_LA_law_749 : decode code 749 = .ok (.i2l, 1) := by decide +kernel
theorem dd_LA_law_750 : decode code 750 = .ok (.lcmp, 1) := by decide +kernel
theorem dd_LA_law_751 : decode code 751 = .ok (.ifCond .eq 5, 3) := by decide +kernel
theorem dd_LA_law_754 : decode code 754 = .ok (.iconst 0, 1) := by decide +kernel
theorem dd_LA_law_755 : decode code 755 = .ok (.ireturn, 1) := by decide +kernel
theorem dd_LA_law_756 : decode code 756 = .ok (.goto 59, 3) := by decide +kernel
theorem dd_LA_law_759 : decode code 759 = .ok (.aload_n 1, 1) := by decide +kernel
theorem dd_LA_law_760 : decode code 760 = .ok (.aload_n 0, 1) := by decide +kernel
theorem dd_LA_law_761 : decode code 761 = .ok (.iload 4, 2) := by decide +kernel
theorem dd_LA_law_763 : decode code 763 = .ok (.iconst 1, 1) := by decide +kernel
theorem dd_LA_law_764 : decode code 764 = .ok (.iadd, 1) := by decide +kernel
theorem dd_LA_law_765 : decode code 765 = .ok (.iaload, 1) := by decide +kernel
theorem dd_LA_law_766 : decode code 766 = .ok (.aload_n 3, 1) := by decide +kernel
theorem dd_LA_law_767 : decode code 767 = .ok (.invokestatic 104, 3) := by decide +kernel
theorem dd_LA_law_770 : decode code 770 = .ok (.istore 5, 2) := by decide +kernel
theorem dd_LA_law_772 : decode code 772 = .ok (.aload_n 2, 1) := by decide +kernel
theorem dd_LA_law_773 : decode code 773 = .ok (.aload_n 0, 1) := by decide +kernel
theorem dd_LA_law_774 : decode code 774 = .ok (.iload 4, 2) := by decide +kernel
theorem dd_LA_law_776 : decode code 776 = .ok (.iconst 1, 1) := by decide +kernel
theorem dd_LA_law_777 : decode code 777 = .ok (.iadd, 1) := by decide +kernel
theorem dd_LA_law_778 : decode code 778 = .ok (.iaload, 1) := by decide +kernel
theorem dd_LA_law_779 : decode code 779 = .ok (.invokevirtual 106, 3) := by decide +kernel
theorem dd_LA_law_782 : decode code 782 = .ok (.istore 6, 2) := by decide +kernel
theorem dd_LA_law_784 : decode code 784 = .ok (.aload_n 2, 1) := by decide +kernel
theorem dd_LA_law_785 : decode code 785 = .ok (.invokevirtual 61, 3) := by decide +kernel
theorem dd_LA_law_788 : decode code 788 = .ok (.iload 5, 2) := by decide +kernel
theorem dd_LA_law_790 : decode code 790 = .ok (.if_icmp .eq 5, 3) := by decide +kernel
theorem dd_LA_law_793 : decode code 793 = .ok (.iconst 0, 1) := by decide +kernel
theorem dd_LA_law_794 : decode code 794 = .ok (.ireturn, 1) := by decide +kernel
theorem dd_LA_law_795 : decode code 795 = .ok (.iload 5, 2) := by decide +kernel
theorem dd_LA_law_797 : decode code 797 = .ok (.ifCond .ne 15, 3) := by decide +kernel
theorem dd_LA_law_800 : decode code 800 = .ok (.aload_n 3, 1) := by decide +kernel
theorem dd_LA_law_801 : decode code 801 = .ok (.iconst 0, 1) := by decide +kernel
theorem dd_LA_law_802 : decode code 802 = .ok (.laload, 1) := by decide +kernel
theorem dd_LA_law_803 : decode code 803 = .ok (.iload 6, 2) := by decide +kernel
theorem dd_LA_law_805 : decode code 805 = .ok (.i2l, 1) := by decide +kernel
theorem dd_LA_law_806 : decode code 806 = .ok (.lcmp, 1) := by decide +kernel
theorem dd_LA_law_807 : decode code 807 = .ok (.ifCond .eq 5, 3) := by decide +kernel
theorem dd_LA_law_810 : decode code 810 = .ok (.iconst 0, 1) := by decide +kernel
theorem dd_LA_law_811 : decode code 811 = .ok (.ireturn, 1) := by decide +kernel
theorem dd_LA_law_812 : decode code 812 = .ok (.goto 3, 3) := by decide +kernel
theorem dd_LA_law_815 : decode code 815 = .ok (.iinc 4 4, 3) := by decide +kernel
theorem dd_LA_law_818 : decode code 818 = .ok (.goto (-795), 3) := by decide +kernel
theorem dd_LA_law_821 : decode code 821 = .ok (.iconst 1, 1) := by decide +kernel
theorem dd_LA_law_822 : decode code 822 = .ok (.ireturn, 1) := by decide +kernel

theorem dd_L_law_0 : decode code 0 = .ok (.new 8, 3) := by decide +kernel
theorem dd_L_law_3 : decode code 3 = .ok (.dup, 1) := by decide +kernel
theorem dd_L_law_4 : decode code 4 = .ok (.invokespecial 37, 3) := by decide +kernel
theorem dd_L_law_7 : decode code 7 = .ok (.astore_n 1, 1) := by decide +kernel
theorem dd_L_law_8 : decode code 8 = .ok (.new 38, 3) := by decide +kernel
theorem dd_L_law_11 : decode code 11 = .ok (.dup, 1) := by decide +kernel
theorem dd_L_law_12 : decode code 12 = .ok (.invokespecial 40, 3) := by decide +kernel
theorem dd_L_law_15 : decode code 15 = .ok (.astore_n 2, 1) := by decide +kernel
theorem dd_L_law_16 : decode code 16 = .ok (.iconst 1, 1) := by decide +kernel
theorem dd_L_law_17 : decode code 17 = .ok (.newarray .long, 2) := by decide +kernel
theorem dd_L_law_19 : decode code 19 = .ok (.astore_n 3, 1) := by decide +kernel
theorem dd_L_law_20 : decode code 20 = .ok (.iconst 0, 1) := by decide +kernel
theorem dd_L_law_21 : decode code 21 = .ok (.istore 4, 2) := by decide +kernel
theorem dd_L_law_23 : decode code 23 = .ok (.iload 4, 2) := by decide +kernel
theorem dd_L_law_25 : decode code 25 = .ok (.aload_n 0, 1) := by decide +kernel
theorem dd_L_law_26 : decode code 26 = .ok (.arraylength, 1) := by decide +kernel
theorem dd_L_law_27 : decode code 27 = .ok (.iconst 4, 1) := by decide +kernel
theorem dd_L_law_28 : decode code 28 = .ok (.isub, 1) := by decide +kernel
theorem dd_L_law_29 : decode code 29 = .ok (.if_icmp .gt 669, 3) := by decide +kernel
theorem dd_L_law_32 : decode code 32 = .ok (.aload_n 0, 1) := by decide +kernel
theorem dd_L_law_33 : decode code 33 = .ok (.iload 4, 2) := by decide +kernel
theorem dd_L_law_35 : decode code 35 = .ok (.iaload, 1) := by decide +kernel
theorem dd_L_law_36 : decode code 36 = .ok (.bipush 15, 2) := by decide +kernel
theorem dd_L_law_38 : decode code 38 = .ok (.iand, 1) := by decide +kernel
theorem dd_L_law_39 : decode code 39 = .ok (.tableswitch 653 0 11 #[61, 117, 217, 273, 342, 353, 397, 422, 490, 534, 559, 628], 61) := by decide +kernel
theorem dd_L_law_100 : decode code 100 = .ok (.aload_n 1, 1) := by decide +kernel
theorem dd_L_law_101 : decode code 101 = .ok (.aload_n 0, 1) := by decide +kernel
theorem dd_L_law_102 : decode code 102 = .ok (.iload 4, 2) := by decide +kernel
theorem dd_L_law_104 : decode code 104 = .ok (.iconst 1, 1) := by decide +kernel
theorem dd_L_law_105 : decode code 105 = .ok (.iadd, 1) := by decide +kernel
theorem dd_L_law_106 : decode code 106 = .ok (.iaload, 1) := by decide +kernel
theorem dd_L_law_107 : decode code 107 = .ok (.aload_n 3, 1) := by decide +kernel
theorem dd_L_law_108 : decode code 108 = .ok (.invokestatic 41, 3) := by decide +kernel
theorem dd_L_law_111 : decode code 111 = .ok (.istore 5, 2) := by decide +kernel
theorem dd_L_law_113 : decode code 113 = .ok (.aload_n 2, 1) := by decide +kernel
theorem dd_L_law_114 : decode code 114 = .ok (.aload_n 0, 1) := by decide +kernel
theorem dd_L_law_115 : decode code 115 = .ok (.iload 4, 2) := by decide +kernel
theorem dd_L_law_117 : decode code 117 = .ok (.iconst 1, 1) := by decide +kernel
theorem dd_L_law_118 : decode code 118 = .ok (.iadd, 1) := by decide +kernel
theorem dd_L_law_119 : decode code 119 = .ok (.iaload, 1) := by decide +kernel
theorem dd_L_law_120 : decode code 120 = .ok (.invokevirtual 46, 3) := by decide +kernel
theorem dd_L_law_123 : decode code 123 = .ok (.istore 6, 2) := by decide +kernel
theorem dd_L_law_125 : decode code 125 = .ok (.aload_n 2, 1) := by decide +kernel
theorem dd_L_law_126 : decode code 126 = .ok (.invokevirtual 47, 3) := by decide +kernel
theorem dd_L_law_129 : decode code 129 = .ok (.iload 5, 2) := by decide +kernel
theorem dd_L_law_131 : decode code 131 = .ok (.if_icmp .eq 5, 3) := by decide +kernel
theorem dd_L_law_134 : decode code 134 = .ok (.iconst 0, 1) := by decide +kernel
theorem dd_L_law_135 : decode code 135 = .ok (.ireturn, 1) := by decide +kernel
theorem dd_L_law_136 : decode code 136 = .ok (.iload 5, 2) := by decide +kernel
theorem dd_L_law_138 : decode code 138 = .ok (.ifCond .ne 15, 3) := by decide +kernel
theorem dd_L_law_141 : decode code 141 = .ok (.aload_n 3, 1) := by decide +kernel
theorem dd_L_law_142 : decode code 142 = .ok (.iconst 0, 1) := by decide +kernel
theorem dd_L_law_143 : decode code 143 = .ok (.laload, 1) := by decide +kernel
theorem dd_L_law_144 : decode code 144 = .ok (.iload 6, 2) := by decide +kernel
theorem dd_L_law_146 : decode code 146 = .ok (.i2l, 1) := by decide +kernel
theorem dd_L_law_147 : decode code 147 = .ok (.lcmp, 1) := by decide +kernel
theorem dd_L_law_148 : decode code 148 = .ok (.ifCond .eq 5, 3) := by decide +kernel
theorem dd_L_law_151 : decode code 151 = .ok (.iconst 0, 1) := by decide +kernel
theorem dd_L_law_152 : decode code 152 = .ok (.ireturn, 1) := by decide +kernel
theorem dd_L_law_153 : decode code 153 = .ok (.goto 539, 3) := by decide +kernel
theorem dd_L_law_156 : decode code 156 = .ok (.aload_n 1, 1) := by decide +kernel
theorem dd_L_law_157 : decode code 157 = .ok (.aload_n 0, 1) := by decide +kernel
theorem dd_L_law_158 : decode code 158 = .ok (.iload 4, 2) := by decide +kernel
theorem dd_L_law_160 : decode code 160 = .ok (.iconst 1, 1) := by decide +kernel
theorem dd_L_law_161 : decode code 161 = .ok (.iadd, 1) := by decide +kernel
theorem dd_L_law_162 : decode code 162 = .ok (.iaload, 1) := by decide +kernel
theorem dd_L_law_163 : decode code 163 = .ok (.i2l, 1) := by decide +kernel
theorem dd_L_law_164 : decode code 164 = .ok (.bipush 32, 2) := by decide +kernel
theorem dd_L_law_166 : decode code 166 = .ok (.lshl, 1) := by decide +kernel
theorem dd_L_law_167 : decode code 167 = .ok (.aload_n 0, 1) := by decide +kernel
theorem dd_L_law_168 : decode code 168 = .ok (.iload 4, 2) := by decide +kernel
theorem dd_L_law_170 : decode code 170 = .ok (.iconst 2, 1) := by decide +kernel
theorem dd_L_law_171 : decode code 171 = .ok (.iadd, 1) := by decide +kernel
theorem dd_L_law_172 : decode code 172 = .ok (.iaload, 1) := by decide +kernel
theorem dd_L_law_173 : decode code 173 = .ok (.i2l, 1) := by decide +kernel
theorem dd_L_law_174 : decode code 174 = .ok (.ldc2_w 50, 3) := by decide +kernel
theorem dd_L_law_177 : decode code 177 = .ok (.land, 1) := by decide +kernel
theorem dd_L_law_178 : decode code 178 = .ok (.lor, 1) := by decide +kernel
theorem dd_L_law_179 : decode code 179 = .ok (.aload_n 0, 1) := by decide +kernel
theorem dd_L_law_180 : decode code 180 = .ok (.iload 4, 2) := by decide +kernel
theorem dd_L_law_182 : decode code 182 = .ok (.iconst 3, 1) := by decide +kernel
theorem dd_L_law_183 : decode code 183 = .ok (.iadd, 1) := by decide +kernel
theorem dd_L_law_184 : decode code 184 = .ok (.iaload, 1) := by decide +kernel
theorem dd_L_law_185 : decode code 185 = .ok (.aload_n 3, 1) := by decide +kernel
theorem dd_L_law_186 : decode code 186 = .ok (.invokestatic 52, 3) := by decide +kernel
theorem dd_L_law_189 : decode code 189 = .ok (.istore 5, 2) := by decide +kernel
theorem dd_L_law_191 : decode code 191 = .ok (.aload_n 2, 1) := by decide +kernel
theorem dd_L_law_192 : decode code 192 = .ok (.aload_n 0, 1) := by decide +kernel
theorem dd_L_law_193 : decode code 193 = .ok (.iload 4, 2) := by decide +kernel
theorem dd_L_law_195 : decode code 195 = .ok (.iconst 1, 1) := by decide +kernel
theorem dd_L_law_196 : decode code 196 = .ok (.iadd, 1) := by decide +kernel
theorem dd_L_law_197 : decode code 197 = .ok (.iaload, 1) := by decide +kernel
theorem dd_L_law_198 : decode code 198 = .ok (.i2l, 1) := by decide +kernel
theorem dd_L_law_199 : decode code 199 = .ok (.bipush 32, 2) := by decide +kernel
theorem dd_L_law_201 : decode code 201 = .ok (.lshl, 1) := by decide +kernel
theorem dd_L_law_202 : decode code 202 = .ok (.aload_n 0, 1) := by decide +kernel
theorem dd_L_law_203 : decode code 203 = .ok (.iload 4, 2) := by decide +kernel
theorem dd_L_law_205 : decode code 205 = .ok (.iconst 2, 1) := by decide +kernel
theorem dd_L_law_206 : decode code 206 = .ok (.iadd, 1) := by decide +kernel
theorem dd_L_law_207 : decode code 207 = .ok (.iaload, 1) := by decide +kernel
theorem dd_L_law_208 : decode code 208 = .ok (.i2l, 1) := by decide +kernel
theorem dd_L_law_209 : decode code 209 = .ok (.ldc2_w 50, 3) := by decide +kernel
theorem dd_L_law_212 : decode code 212 = .ok (.land, 1) := by decide +kernel
theorem dd_L_law_213 : decode code 213 = .ok (.lor, 1) := by decide +kernel
theorem dd_L_law_214 : decode code 214 = .ok (.aload_n 0, 1) := by decide +kernel
theorem dd_L_law_215 : decode code 215 = .ok (.iload 4, 2) := by decide +kernel
theorem dd_L_law_217 : decode code 217 = .ok (.iconst 3, 1) := by decide +kernel
theorem dd_L_law_218 : decode code 218 = .ok (.iadd, 1) := by decide +kernel
theorem dd_L_law_219 : decode code 219 = .ok (.iaload, 1) := by decide +kernel
theorem dd_L_law_220 : decode code 220 = .ok (.invokevirtual 55, 3) := by decide +kernel
theorem dd_L_law_223 : decode code 223 = .ok (.istore 6, 2) := by decide +kernel
theorem dd_L_law_225 : decode code 225 = .ok (.aload_n 2, 1) := by decide +kernel
theorem dd_L_law_226 : decode code 226 = .ok (.invokevirtual 47, 3) := by decide +kernel
theorem dd_L_law_229 : decode code 229 = .ok (.iload 5, 2) := by decide +kernel
theorem dd_L_law_231 : decode code 231 = .ok (.if_icmp .eq 5, 3) := by decide +kernel
theorem dd_L_law_234 : decode code 234 = .ok (.iconst 0, 1) := by decide +kernel
theorem dd_L_law_235 : decode code 235 = .ok (.ireturn, 1) := by decide +kernel
theorem dd_L_law_236 : decode code 236 = .ok (.iload 5, 2) := by decide +kernel
theorem dd_L_law_238 : decode code 238 = .ok (.ifCond .ne 15, 3) := by decide +kernel
theorem dd_L_law_241 : decode code 241 = .ok (.aload_n 3, 1) := by decide +kernel
theorem dd_L_law_242 : decode code 242 = .ok (.iconst 0, 1) := by decide +kernel
theorem dd_L_law_243 : decode code 243 = .ok (.laload, 1) := by decide +kernel
theorem dd_L_law_244 : decode code 244 = .ok (.iload 6, 2) := by decide +kernel
theorem dd_L_law_246 : decode code 246 = .ok (.i2l, 1) := by decide +kernel
theorem dd_L_law_247 : decode code 247 = .ok (.lcmp, 1) := by decide +kernel
theorem dd_L_law_248 : decode code 248 = .ok (.ifCond .eq 5, 3) := by decide +kernel
theorem dd_L_law_251 : decode code 251 = .ok (.iconst 0, 1) := by decide +kernel
theorem dd_L_law_252 : decode code 252 = .ok (.ireturn, 1) := by decide +kernel
theorem dd_L_law_253 : decode code 253 = .ok (.goto 439, 3) := by decide +kernel
theorem dd_L_law_256 : decode code 256 = .ok (.aload_n 1, 1) := by decide +kernel
theorem dd_L_law_257 : decode code 257 = .ok (.aload_n 0, 1) := by decide +kernel
theorem dd_L_law_258 : decode code 258 = .ok (.iload 4, 2) := by decide +kernel
theorem dd_L_law_260 : decode code 260 = .ok (.iconst 1, 1) := by decide +kernel
theorem dd_L_law_261 : decode code 261 = .ok (.iadd, 1) := by decide +kernel
theorem dd_L_law_262 : decode code 262 = .ok (.iaload, 1) := by decide +kernel
theorem dd_L_law_263 : decode code 263 = .ok (.aload_n 3, 1) := by decide +kernel
theorem dd_L_law_264 : decode code 264 = .ok (.invokestatic 56, 3) := by decide +kernel
theorem dd_L_law_267 : decode code 267 = .ok (.istore 5, 2) := by decide +kernel
theorem dd_L_law_269 : decode code 269 = .ok (.aload_n 2, 1) := by decide +kernel
theorem dd_L_law_270 : decode code 270 = .ok (.aload_n 0, 1) := by decide +kernel
theorem dd_L_law_271 : decode code 271 = .ok (.iload 4, 2) := by decide +kernel
theorem dd_L_law_273 : decode code 273 = .ok (.iconst 1, 1) := by decide +kernel
theorem dd_L_law_274 : decode code 274 = .ok (.iadd, 1) := by decide +kernel
theorem dd_L_law_275 : decode code 275 = .ok (.iaload, 1) := by decide +kernel
theorem dd_L_law_276 : decode code 276 = .ok (.invokevirtual 58, 3) := by decide +kernel
theorem dd_L_law_279 : decode code 279 = .ok (.istore 6, 2) := by decide +kernel
theorem dd_L_law_281 : decode code 281 = .ok (.aload_n 2, 1) := by decide +kernel
theorem dd_L_law_282 : decode code 282 = .ok (.invokevirtual 47, 3) := by decide +kernel
theorem dd_L_law_285 : decode code 285 = .ok (.iload 5, 2) := by decide +kernel
theorem dd_L_law_287 : decode code 287 = .ok (.if_icmp .eq 5, 3) := by decide +kernel
theorem dd_L_law_290 : decode code 290 = .ok (.iconst 0, 1) := by decide +kernel
theorem dd_L_law_291 : decode code 291 = .ok (.ireturn, 1) := by decide +kernel
theorem dd_L_law_292 : decode code 292 = .ok (.iload 5, 2) := by decide +kernel
theorem dd_L_law_294 : decode code 294 = .ok (.ifCond .ne 15, 3) := by decide +kernel
theorem dd_L_law_297 : decode code 297 = .ok (.aload_n 3, 1) := by decide +kernel
theorem dd_L_law_298 : decode code 298 = .ok (.iconst 0, 1) := by decide +kernel
theorem dd_L_law_299 : decode code 299 = .ok (.laload, 1) := by decide +kernel
theorem dd_L_law_300 : decode code 300 = .ok (.iload 6, 2) := by decide +kernel
theorem dd_L_law_302 : decode code 302 = .ok (.i2l, 1) := by decide +kernel
theorem dd_L_law_303 : decode code 303 = .ok (.lcmp, 1) := by decide +kernel
theorem dd_L_law_304 : decode code 304 = .ok (.ifCond .eq 5, 3) := by decide +kernel
theorem dd_L_law_307 : decode code 307 = .ok (.iconst 0, 1) := by decide +kernel
theorem dd_L_law_308 : decode code 308 = .ok (.ireturn, 1) := by decide +kernel
theorem dd_L_law_309 : decode code 309 = .ok (.goto 383, 3) := by decide +kernel
theorem dd_L_law_312 : decode code 312 = .ok (.aload_n 1, 1) := by decide +kernel
theorem dd_L_law_313 : decode code 313 = .ok (.aload_n 0, 1) := by decide +kernel
theorem dd_L_law_314 : decode code 314 = .ok (.iload 4, 2) := by decide +kernel
theorem dd_L_law_316 : decode code 316 = .ok (.iconst 1, 1) := by decide +kernel
theorem dd_L_law_317 : decode code 317 = .ok (.iadd, 1) := by decide +kernel
theorem dd_L_law_318 : decode code 318 = .ok (.iaload, 1) := by decide +kernel
theorem dd_L_law_319 : decode code 319 = .ok (.i2l, 1) := by decide +kernel
theorem dd_L_law_320 : decode code 320 = .ok (.bipush 32, 2) := by decide +kernel
theorem dd_L_law_322 : decode code 322 = .ok (.lshl, 1) := by decide +kernel
theorem dd_L_law_323 : decode code 323 = .ok (.aload_n 0, 1) := by decide +kernel
theorem dd_L_law_324 : decode code 324 = .ok (.iload 4, 2) := by decide +kernel
theorem dd_L_law_326 : decode code 326 = .ok (.iconst 2, 1) := by decide +kernel
theorem dd_L_law_327 : decode code 327 = .ok (.iadd, 1) := by decide +kernel
theorem dd_L_law_328 : decode code 328 = .ok (.iaload, 1) := by decide +kernel
theorem dd_L_law_329 : decode code 329 = .ok (.i2l, 1) := by decide +kernel
theorem dd_L_law_330 : decode code 330 = .ok (.ldc2_w 50, 3) := by decide +kernel
theorem dd_L_law_333 : decode code 333 = .ok (.land, 1) := by decide +kernel
theorem dd_L_law_334 : decode code 334 = .ok (.lor, 1) := by decide +kernel
theorem dd_L_law_335 : decode code 335 = .ok (.aload_n 0, 1) := by decide +kernel
theorem dd_L_law_336 : decode code 336 = .ok (.iload 4, 2) := by decide +kernel
theorem dd_L_law_338 : decode code 338 = .ok (.iconst 3, 1) := by decide +kernel
theorem dd_L_law_339 : decode code 339 = .ok (.iadd, 1) := by decide +kernel
theorem dd_L_law_340 : decode code 340 = .ok (.iaload, 1) := by decide +kernel
theorem dd_L_law_341 : decode code 341 = .ok (.invokevirtual 59, 3) := by decide +kernel
theorem dd_L_law_344 : decode code 344 = .ok (.aload_n 2, 1) := by decide +kernel
theorem dd_L_law_345 : decode code 345 = .ok (.aload_n 0, 1) := by decide +kernel
theorem dd_L_law_346 : decode code 346 = .ok (.iload 4, 2) := by decide +kernel
theorem dd_L_law_348 : decode code 348 = .ok (.iconst 1, 1) := by decide +kernel
theorem dd_L_law_349 : decode code 349 = .ok (.iadd, 1) := by decide +kernel
theorem dd_L_law_350 : decode code 350 = .ok (.iaload, 1) := by decide +kernel
theorem dd_L_law_351 : decode code 351 = .ok (.i2l, 1) := by decide +kernel
theorem dd_L_law_352 : decode code 352 = .ok (.bipush 32, 2) := by decide +kernel
theorem dd_L_law_354 : decode code 354 = .ok (.lshl, 1) := by decide +kernel
theorem dd_L_law_355 : decode code 355 = .ok (.aload_n 0, 1) := by decide +kernel
theorem dd_L_law_356 : decode code 356 = .ok (.iload 4, 2) := by decide +kernel
theorem dd_L_law_358 : decode code 358 = .ok (.iconst 2, 1) := by decide +kernel
theorem dd_L_law_359 : decode code 359 = .ok (.iadd, 1) := by decide +kernel
theorem dd_L_law_360 : decode code 360 = .ok (.iaload, 1) := by decide +kernel
theorem dd_L_law_361 : decode code 361 = .ok (.i2l, 1) := by decide +kernel
theorem dd_L_law_362 : decode code 362 = .ok (.ldc2_w 50, 3) := by decide +kernel
theorem dd_L_law_365 : decode code 365 = .ok (.land, 1) := by decide +kernel
theorem dd_L_law_366 : decode code 366 = .ok (.lor, 1) := by decide +kernel
theorem dd_L_law_367 : decode code 367 = .ok (.aload_n 0, 1) := by decide +kernel
theorem dd_L_law_368 : decode code 368 = .ok (.iload 4, 2) := by decide +kernel
theorem dd_L_law_370 : decode code 370 = .ok (.iconst 3, 1) := by decide +kernel
theorem dd_L_law_371 : decode code 371 = .ok (.iadd, 1) := by decide +kernel
theorem dd_L_law_372 : decode code 372 = .ok (.iaload, 1) := by decide +kernel
theorem dd_L_law_373 : decode code 373 = .ok (.invokevirtual 63, 3) := by decide +kernel
theorem dd_L_law_376 : decode code 376 = .ok (.if_icmp .eq 316, 3) := by decide +kernel
theorem dd_L_law_379 : decode code 379 = .ok (.iconst 0, 1) := by decide +kernel
theorem dd_L_law_380 : decode code 380 = .ok (.ireturn, 1) := by decide +kernel
theorem dd_L_law_381 : decode code 381 = .ok (.aload_n 1, 1) := by decide +kernel
theorem dd_L_law_382 : decode code 382 = .ok (.invokevirtual 64, 3) := by decide +kernel
theorem dd_L_law_385 : decode code 385 = .ok (.aload_n 2, 1) := by decide +kernel
theorem dd_L_law_386 : decode code 386 = .ok (.invokevirtual 67, 3) := by decide +kernel
theorem dd_L_law_389 : decode code 389 = .ok (.goto 303, 3) := by decide +kernel
theorem dd_L_law_392 : decode code 392 = .ok (.aload_n 1, 1) := by decide +kernel
theorem dd_L_law_393 : decode code 393 = .ok (.aload_n 3, 1) := by decide +kernel
theorem dd_L_law_394 : decode code 394 = .ok (.invokestatic 68, 3) := by decide +kernel
theorem dd_L_law_397 : decode code 397 = .ok (.istore 5, 2) := by decide +kernel
theorem dd_L_law_399 : decode code 399 = .ok (.aload_n 2, 1) := by decide +kernel
theorem dd_L_law_400 : decode code 400 = .ok (.invokevirtual 71, 3) := by decide +kernel
theorem dd_L_law_403 : decode code 403 = .ok (.istore 6, 2) := by decide +kernel
theorem dd_L_law_405 : decode code 405 = .ok (.aload_n 2, 1) := by decide +kernel
theorem dd_L_law_406 : decode code 406 = .ok (.invokevirtual 47, 3) := by decide +kernel
theorem dd_L_law_409 : decode code 409 = .ok (.iload 5, 2) := by decide +kernel
theorem dd_L_law_411 : decode code 411 = .ok (.if_icmp .eq 5, 3) := by decide +kernel
theorem dd_L_law_414 : decode code 414 = .ok (.iconst 0, 1) := by decide +kernel
theorem dd_L_law_415 : decode code 415 = .ok (.ireturn, 1) := by decide +kernel
theorem dd_L_law_416 : decode code 416 = .ok (.iload 5, 2) := by decide +kernel
theorem dd_L_law_418 : decode code 418 = .ok (.ifCond .ne 15, 3) := by decide +kernel
theorem dd_L_law_421 : decode code 421 = .ok (.aload_n 3, 1) := by decide +kernel
theorem dd_L_law_422 : decode code 422 = .ok (.iconst 0, 1) := by decide +kernel
theorem dd_L_law_423 : decode code 423 = .ok (.laload, 1) := by decide +kernel
theorem dd_L_law_424 : decode code 424 = .ok (.iload 6, 2) := by decide +kernel
theorem dd_L_law_426 : decode code 426 = .ok (.i2l, 1) := by decide +kernel
theorem dd_L_law_427 : decode code 427 = .ok (.lcmp, 1) := by decide +kernel
theorem dd_L_law_428 : decode code 428 = .ok (.ifCond .eq 5, 3) := by decide +kernel
theorem dd_L_law_431 : decode code 431 = .ok (.iconst 0, 1) := by decide +kernel
theorem dd_L_law_432 : decode code 432 = .ok (.ireturn, 1) := by decide +kernel
theorem dd_L_law_433 : decode code 433 = .ok (.goto 259, 3) := by decide +kernel
theorem dd_L_law_436 : decode code 436 = .ok (.aload_n 1, 1) := by decide +kernel
theorem dd_L_law_437 : decode code 437 = .ok (.aload_n 0, 1) := by decide +kernel
theorem dd_L_law_438 : decode code 438 = .ok (.iload 4, 2) := by decide +kernel
theorem dd_L_law_440 : decode code 440 = .ok (.iconst 1, 1) := by decide +kernel
theorem dd_L_law_441 : decode code 441 = .ok (.iadd, 1) := by decide +kernel
theorem dd_L_law_442 : decode code 442 = .ok (.iaload, 1) := by decide +kernel
theorem dd_L_law_443 : decode code 443 = .ok (.invokevirtual 72, 3) := by decide +kernel
theorem dd_L_law_446 : decode code 446 = .ok (.aload_n 2, 1) := by decide +kernel
theorem dd_L_law_447 : decode code 447 = .ok (.aload_n 0, 1) := by decide +kernel
theorem dd_L_law_448 : decode code 448 = .ok (.iload 4, 2) := by decide +kernel
theorem dd_L_law_450 : decode code 450 = .ok (.iconst 1, 1) := by decide +kernel
theorem dd_L_law_451 : decode code 451 = .ok (.iadd, 1) := by decide +kernel
theorem dd_L_law_452 : decode code 452 = .ok (.iaload, 1) := by decide +kernel
theorem dd_L_law_453 : decode code 453 = .ok (.invokevirtual 75, 3) := by decide +kernel
theorem dd_L_law_456 : decode code 456 = .ok (.if_icmp .eq 236, 3) := by decide +kernel
theorem dd_L_law_459 : decode code 459 = .ok (.iconst 0, 1) := by decide +kernel
theorem dd_L_law_460 : decode code 460 = .ok (.ireturn, 1) := by decide +kernel
theorem dd_L_law_461 : decode code 461 = .ok (.aload_n 1, 1) := by decide +kernel
theorem dd_L_law_462 : decode code 462 = .ok (.aload_n 0, 1) := by decide +kernel
theorem dd_L_law_463 : decode code 463 = .ok (.iload 4, 2) := by decide +kernel
theorem dd_L_law_465 : decode code 465 = .ok (.iconst 1, 1) := by decide +kernel
theorem dd_L_law_466 : decode code 466 = .ok (.iadd, 1) := by decide +kernel
theorem dd_L_law_467 : decode code 467 = .ok (.iaload, 1) := by decide +kernel
theorem dd_L_law_468 : decode code 468 = .ok (.aload_n 0, 1) := by decide +kernel
theorem dd_L_law_469 : decode code 469 = .ok (.iload 4, 2) := by decide +kernel
theorem dd_L_law_471 : decode code 471 = .ok (.iconst 2, 1) := by decide +kernel
theorem dd_L_law_472 : decode code 472 = .ok (.iadd, 1) := by decide +kernel
theorem dd_L_law_473 : decode code 473 = .ok (.iaload, 1) := by decide +kernel
theorem dd_L_law_474 : decode code 474 = .ok (.aload_n 3, 1) := by decide +kernel
theorem dd_L_law_475 : decode code 475 = .ok (.invokestatic 76, 3) := by decide +kernel
theorem dd_L_law_478 : decode code 478 = .ok (.istore 5, 2) := by decide +kernel
theorem dd_L_law_480 : decode code 480 = .ok (.aload_n 2, 1) := by decide +kernel
theorem dd_L_law_481 : decode code 481 = .ok (.aload_n 0, 1) := by decide +kernel
theorem dd_L_law_482 : decode code 482 = .ok (.iload 4, 2) := by decide +kernel
theorem dd_L_law_484 : decode code 484 = .ok (.iconst 1, 1) := by decide +kernel
theorem dd_L_law_485 : decode code 485 = .ok (.iadd, 1) := by decide +kernel
theorem dd_L_law_486 : decode code 486 = .ok (.iaload, 1) := by decide +kernel
theorem dd_L_law_487 : decode code 487 = .ok (.aload_n 0, 1) := by decide +kernel
theorem dd_L_law_488 : decode code 488 = .ok (.iload 4, 2) := by decide +kernel
theorem dd_L_law_490 : decode code 490 = .ok (.iconst 2, 1) := by decide +kernel
theorem dd_L_law_491 : decode code 491 = .ok (.iadd, 1) := by decide +kernel
theorem dd_L_law_492 : decode code 492 = .ok (.iaload, 1) := by decide +kernel
theorem dd_L_law_493 : decode code 493 = .ok (.invokevirtual 79, 3) := by decide +kernel
theorem dd_L_law_496 : decode code 496 = .ok (.istore 6, 2) := by decide +kernel
theorem dd_L_law_498 : decode code 498 = .ok (.aload_n 2, 1) := by decide +kernel
theorem dd_L_law_499 : decode code 499 = .ok (.invokevirtual 47, 3) := by decide +kernel
theorem dd_L_law_502 : decode code 502 = .ok (.iload 5, 2) := by decide +kernel
theorem dd_L_law_504 : decode code 504 = .ok (.if_icmp .eq 5, 3) := by decide +kernel
theorem dd_L_law_507 : decode code 507 = .ok (.iconst 0, 1) := by decide +kernel
theorem dd_L_law_508 : decode code 508 = .ok (.ireturn, 1) := by decide +kernel
theorem dd_L_law_509 : decode code 509 = .ok (.iload 5, 2) := by decide +kernel
theorem dd_L_law_511 : decode code 511 = .ok (.ifCond .ne 15, 3) := by decide +kernel
theorem dd_L_law_514 : decode code 514 = .ok (.aload_n 3, 1) := by decide +kernel
theorem dd_L_law_515 : decode code 515 = .ok (.iconst 0, 1) := by decide +kernel
theorem dd_L_law_516 : decode code 516 = .ok (.laload, 1) := by decide +kernel
theorem dd_L_law_517 : decode code 517 = .ok (.iload 6, 2) := by decide +kernel
theorem dd_L_law_519 : decode code 519 = .ok (.i2l, 1) := by decide +kernel
theorem dd_L_law_520 : decode code 520 = .ok (.lcmp, 1) := by decide +kernel
theorem dd_L_law_521 : decode code 521 = .ok (.ifCond .eq 5, 3) := by decide +kernel
theorem dd_L_law_524 : decode code 524 = .ok (.iconst 0, 1) := by decide +kernel
theorem dd_L_law_525 : decode code 525 = .ok (.ireturn, 1) := by decide +kernel
theorem dd_L_law_526 : decode code 526 = .ok (.goto 166, 3) := by decide +kernel
theorem dd_L_law_529 : decode code 529 = .ok (.aload_n 1, 1) := by decide +kernel
theorem dd_L_law_530 : decode code 530 = .ok (.aload_n 3, 1) := by decide +kernel
theorem dd_L_law_531 : decode code 531 = .ok (.invokestatic 80, 3) := by decide +kernel
theorem dd_L_law_534 : decode code 534 = .ok (.istore 5, 2) := by decide +kernel
theorem dd_L_law_536 : decode code 536 = .ok (.aload_n 2, 1) := by decide +kernel
theorem dd_L_law_537 : decode code 537 = .ok (.invokevirtual 82, 3) := by decide +kernel
theorem dd_L_law_540 : decode code 540 = .ok (.istore 6, 2) := by decide +kernel
theorem dd_L_law_542 : decode code 542 = .ok (.aload_n 2, 1) := by decide +kernel
theorem dd_L_law_543 : decode code 543 = .ok (.invokevirtual 47, 3) := by decide +kernel
theorem dd_L_law_546 : decode code 546 = .ok (.iload 5, 2) := by decide +kernel
theorem dd_L_law_548 : decode code 548 = .ok (.if_icmp .eq 5, 3) := by decide +kernel
theorem dd_L_law_551 : decode code 551 = .ok (.iconst 0, 1) := by decide +kernel
theorem dd_L_law_552 : decode code 552 = .ok (.ireturn, 1) := by decide +kernel
theorem dd_L_law_553 : decode code 553 = .ok (.iload 5, 2) := by decide +kernel
theorem dd_L_law_555 : decode code 555 = .ok (.ifCond .ne 15, 3) := by decide +kernel
theorem dd_L_law_558 : decode code 558 = .ok (.aload_n 3, 1) := by decide +kernel
theorem dd_L_law_559 : decode code 559 = .ok (.iconst 0, 1) := by decide +kernel
theorem dd_L_law_560 : decode code 560 = .ok (.laload, 1) := by decide +kernel
theorem dd_L_law_561 : decode code 561 = .ok (.iload 6, 2) := by decide +kernel
theorem dd_L_law_563 : decode code 563 = .ok (.i2l, 1) := by decide +kernel
theorem dd_L_law_564 : decode code 564 = .ok (.lcmp, 1) := by decide +kernel
theorem dd_L_law_565 : decode code 565 = .ok (.ifCond .eq 5, 3) := by decide +kernel
theorem dd_L_law_568 : decode code 568 = .ok (.iconst 0, 1) := by decide +kernel
theorem dd_L_law_569 : decode code 569 = .ok (.ireturn, 1) := by decide +kernel
theorem dd_L_law_570 : decode code 570 = .ok (.goto 122, 3) := by decide +kernel
theorem dd_L_law_573 : decode code 573 = .ok (.aload_n 1, 1) := by decide +kernel
theorem dd_L_law_574 : decode code 574 = .ok (.aload_n 0, 1) := by decide +kernel
theorem dd_L_law_575 : decode code 575 = .ok (.iload 4, 2) := by decide +kernel
theorem dd_L_law_577 : decode code 577 = .ok (.iconst 1, 1) := by decide +kernel
theorem dd_L_law_578 : decode code 578 = .ok (.iadd, 1) := by decide +kernel
theorem dd_L_law_579 : decode code 579 = .ok (.iaload, 1) := by decide +kernel
theorem dd_L_law_580 : decode code 580 = .ok (.invokevirtual 83, 3) := by decide +kernel
theorem dd_L_law_583 : decode code 583 = .ok (.aload_n 2, 1) := by decide +kernel
theorem dd_L_law_584 : decode code 584 = .ok (.aload_n 0, 1) := by decide +kernel
theorem dd_L_law_585 : decode code 585 = .ok (.iload 4, 2) := by decide +kernel
theorem dd_L_law_587 : decode code 587 = .ok (.iconst 1, 1) := by decide +kernel
theorem dd_L_law_588 : decode code 588 = .ok (.iadd, 1) := by decide +kernel
theorem dd_L_law_589 : decode code 589 = .ok (.iaload, 1) := by decide +kernel
theorem dd_L_law_590 : decode code 590 = .ok (.invokevirtual 86, 3) := by decide +kernel
theorem dd_L_law_593 : decode code 593 = .ok (.if_icmp .eq 99, 3) := by decide +kernel
theorem dd_L_law_596 : decode code 596 = .ok (.iconst 0, 1) := by decide +kernel
theorem dd_L_law_597 : decode code 597 = .ok (.ireturn, 1) := by decide +kernel
theorem dd_L_law_598 : decode code 598 = .ok (.aload_n 1, 1) := by decide +kernel
theorem dd_L_law_599 : decode code 599 = .ok (.aload_n 0, 1) := by decide +kernel
theorem dd_L_law_600 : decode code 600 = .ok (.iload 4, 2) := by decide +kernel
theorem dd_L_law_602 : decode code 602 = .ok (.iconst 1, 1) := by decide +kernel
theorem dd_L_law_603 : decode code 603 = .ok (.iadd, 1) := by decide +kernel
theorem dd_L_law_604 : decode code 604 = .ok (.iaload, 1) := by decide +kernel
theorem dd_L_law_605 : decode code 605 = .ok (.i2l, 1) := by decide +kernel
theorem dd_L_law_606 : decode code 606 = .ok (.bipush 32, 2) := by decide +kernel
theorem dd_L_law_608 : decode code 608 = .ok (.lshl, 1) := by decide +kernel
theorem dd_L_law_609 : decode code 609 = .ok (.aload_n 0, 1) := by decide +kernel
theorem dd_L_law_610 : decode code 610 = .ok (.iload 4, 2) := by decide +kernel
theorem dd_L_law_612 : decode code 612 = .ok (.iconst 2, 1) := by decide +kernel
theorem dd_L_law_613 : decode code 613 = .ok (.iadd, 1) := by decide +kernel
theorem dd_L_law_614 : decode code 614 = .ok (.iaload, 1) := by decide +kernel
theorem dd_L_law_615 : decode code 615 = .ok (.i2l, 1) := by decide +kernel
theorem dd_L_law_616 : decode code 616 = .ok (.ldc2_w 50, 3) := by decide +kernel
theorem dd_L_law_619 : decode code 619 = .ok (.land, 1) := by decide +kernel
theorem dd_L_law_620 : decode code 620 = .ok (.lor, 1) := by decide +kernel
theorem dd_L_law_621 : decode code 621 = .ok (.aload_n 0, 1) := by decide +kernel
theorem dd_L_law_622 : decode code 622 = .ok (.iload 4, 2) := by decide +kernel
theorem dd_L_law_624 : decode code 624 = .ok (.iconst 3, 1) := by decide +kernel
theorem dd_L_law_625 : decode code 625 = .ok (.iadd, 1) := by decide +kernel
theorem dd_L_law_626 : decode code 626 = .ok (.iaload, 1) := by decide +kernel
theorem dd_L_law_627 : decode code 627 = .ok (.invokevirtual 87, 3) := by decide +kernel
theorem dd_L_law_630 : decode code 630 = .ok (.aload_n 2, 1) := by decide +kernel
theorem dd_L_law_631 : decode code 631 = .ok (.aload_n 0, 1) := by decide +kernel
theorem dd_L_law_632 : decode code 632 = .ok (.iload 4, 2) := by decide +kernel
theorem dd_L_law_634 : decode code 634 = .ok (.iconst 1, 1) := by decide +kernel
theorem dd_L_law_635 : decode code 635 = .ok (.iadd, 1) := by decide +kernel
theorem dd_L_law_636 : decode code 636 = .ok (.iaload, 1) := by decide +kernel
theorem dd_L_law_637 : decode code 637 = .ok (.i2l, 1) := by decide +kernel
theorem dd_L_law_638 : decode code 638 = .ok (.bipush 32, 2) := by decide +kernel
theorem dd_L_law_640 : decode code 640 = .ok (.lshl, 1) := by decide +kernel
theorem dd_L_law_641 : decode code 641 = .ok (.aload_n 0, 1) := by decide +kernel
theorem dd_L_law_642 : decode code 642 = .ok (.iload 4, 2) := by decide +kernel
theorem dd_L_law_644 : decode code 644 = .ok (.iconst 2, 1) := by decide +kernel
theorem dd_L_law_645 : decode code 645 = .ok (.iadd, 1) := by decide +kernel
theorem dd_L_law_646 : decode code 646 = .ok (.iaload, 1) := by decide +kernel
theorem dd_L_law_647 : decode code 647 = .ok (.i2l, 1) := by decide +kernel
theorem dd_L_law_648 : decode code 648 = .ok (.ldc2_w 50, 3) := by decide +kernel
theorem dd_L_law_651 : decode code 651 = .ok (.land, 1) := by decide +kernel
theorem dd_L_law_652 : decode code 652 = .ok (.lor, 1) := by decide +kernel
theorem dd_L_law_653 : decode code 653 = .ok (.aload_n 0, 1) := by decide +kernel
theorem dd_L_law_654 : decode code 654 = .ok (.iload 4, 2) := by decide +kernel
theorem dd_L_law_656 : decode code 656 = .ok (.iconst 3, 1) := by decide +kernel
theorem dd_L_law_657 : decode code 657 = .ok (.iadd, 1) := by decide +kernel
theorem dd_L_law_658 : decode code 658 = .ok (.iaload, 1) := by decide +kernel
theorem dd_L_law_659 : decode code 659 = .ok (.invokevirtual 90, 3) := by decide +kernel
theorem dd_L_law_662 : decode code 662 = .ok (.if_icmp .eq 30, 3) := by decide +kernel
theorem dd_L_law_665 : decode code 665 = .ok (.iconst 0, 1) := by decide +kernel
theorem dd_L_law_666 : decode code 666 = .ok (.ireturn, 1) := by decide +kernel
theorem dd_L_law_667 : decode code 667 = .ok (.aload_n 1, 1) := by decide +kernel
theorem dd_L_law_668 : decode code 668 = .ok (.aload_n 0, 1) := by decide +kernel
theorem dd_L_law_669 : decode code 669 = .ok (.iload 4, 2) := by decide +kernel
theorem dd_L_law_671 : decode code 671 = .ok (.iconst 1, 1) := by decide +kernel
theorem dd_L_law_672 : decode code 672 = .ok (.iadd, 1) := by decide +kernel
theorem dd_L_law_673 : decode code 673 = .ok (.iaload, 1) := by decide +kernel
theorem dd_L_law_674 : decode code 674 = .ok (.invokevirtual 91, 3) := by decide +kernel
theorem dd_L_law_677 : decode code 677 = .ok (.aload_n 2, 1) := by decide +kernel
theorem dd_L_law_678 : decode code 678 = .ok (.aload_n 0, 1) := by decide +kernel
theorem dd_L_law_679 : decode code 679 = .ok (.iload 4, 2) := by decide +kernel
theorem dd_L_law_681 : decode code 681 = .ok (.iconst 1, 1) := by decide +kernel
theorem dd_L_law_682 : decode code 682 = .ok (.iadd, 1) := by decide +kernel
theorem dd_L_law_683 : decode code 683 = .ok (.iaload, 1) := by decide +kernel
theorem dd_L_law_684 : decode code 684 = .ok (.invokevirtual 94, 3) := by decide +kernel
theorem dd_L_law_687 : decode code 687 = .ok (.if_icmp .eq 5, 3) := by decide +kernel
theorem dd_L_law_690 : decode code 690 = .ok (.iconst 0, 1) := by decide +kernel
theorem dd_L_law_691 : decode code 691 = .ok (.ireturn, 1) := by decide +kernel
theorem dd_L_law_692 : decode code 692 = .ok (.iinc 4 4, 3) := by decide +kernel
theorem dd_L_law_695 : decode code 695 = .ok (.goto (-672), 3) := by decide +kernel
theorem dd_L_law_698 : decode code 698 = .ok (.iconst 1, 1) := by decide +kernel
theorem dd_L_law_699 : decode code 699 = .ok (.ireturn, 1) := by decide +kernel

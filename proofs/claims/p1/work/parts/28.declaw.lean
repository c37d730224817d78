/-! The law itself: decode rows. Written by wip/gen/names2.py. -/
abbrev cLa_law : ByteArray := code
theorem dLa_law_0 : decode code 0 = .ok (.new 8, 3) := by decide +kernel
theorem dLa_law_3 : decode code 3 = .ok (.dup, 1) := by decide +kernel
theorem dLa_law_4 : decode code 4 = .ok (.invokespecial 48, 3) := by decide +kernel
theorem dLa_law_7 : decode code 7 = .ok (.astore_n 1, 1) := by decide +kernel
theorem dLa_law_8 : decode code 8 = .ok (.new 49, 3) := by decide +kernel
theorem dLa_law_11 : decode code 11 = .ok (.dup, 1) := by decide +kernel
theorem dLa_law_12 : decode code 12 = .ok (.invokespecial 51, 3) := by decide +kernel
theorem dLa_law_15 : decode code 15 = .ok (.astore_n 2, 1) := by decide +kernel
theorem dLa_law_16 : decode code 16 = .ok (.iconst 1, 1) := by decide +kernel
theorem dLa_law_17 : decode code 17 = .ok (.newarray .long, 2) := by decide +kernel
theorem dLa_law_19 : decode code 19 = .ok (.astore_n 3, 1) := by decide +kernel
theorem dLa_law_20 : decode code 20 = .ok (.iconst 0, 1) := by decide +kernel
theorem dLa_law_21 : decode code 21 = .ok (.istore 4, 2) := by decide +kernel
theorem dLa_law_23 : decode code 23 = .ok (.iload 4, 2) := by decide +kernel
theorem dLa_law_25 : decode code 25 = .ok (.aload_n 0, 1) := by decide +kernel
theorem dLa_law_26 : decode code 26 = .ok (.arraylength, 1) := by decide +kernel
theorem dLa_law_27 : decode code 27 = .ok (.iconst 4, 1) := by decide +kernel
theorem dLa_law_28 : decode code 28 = .ok (.isub, 1) := by decide +kernel
theorem dLa_law_29 : decode code 29 = .ok (.if_icmp .gt 586, 3) := by decide +kernel
theorem dLa_law_32 : decode code 32 = .ok (.aload_n 0, 1) := by decide +kernel
theorem dLa_law_33 : decode code 33 = .ok (.iload 4, 2) := by decide +kernel
theorem dLa_law_35 : decode code 35 = .ok (.iaload, 1) := by decide +kernel
theorem dLa_law_36 : decode code 36 = .ok (.bipush 15, 2) := by decide +kernel
theorem dLa_law_38 : decode code 38 = .ok (.iand, 1) := by decide +kernel
theorem dLa_law_39 : decode code 39 = .ok (.tableswitch 570 0 10 #[57, 125, 138, 218, 254, 278, 334, 378, 433, 489, 545], 57) := by decide +kernel
theorem dLa_law_96 : decode code 96 = .ok (.aload_n 1, 1) := by decide +kernel
theorem dLa_law_97 : decode code 97 = .ok (.aload_n 0, 1) := by decide +kernel
theorem dLa_law_98 : decode code 98 = .ok (.iload 4, 2) := by decide +kernel
theorem dLa_law_100 : decode code 100 = .ok (.iconst 1, 1) := by decide +kernel
theorem dLa_law_101 : decode code 101 = .ok (.iadd, 1) := by decide +kernel
theorem dLa_law_102 : decode code 102 = .ok (.iaload, 1) := by decide +kernel
theorem dLa_law_103 : decode code 103 = .ok (.aload_n 0, 1) := by decide +kernel
theorem dLa_law_104 : decode code 104 = .ok (.iload 4, 2) := by decide +kernel
theorem dLa_law_106 : decode code 106 = .ok (.iconst 2, 1) := by decide +kernel
theorem dLa_law_107 : decode code 107 = .ok (.iadd, 1) := by decide +kernel
theorem dLa_law_108 : decode code 108 = .ok (.iaload, 1) := by decide +kernel
theorem dLa_law_109 : decode code 109 = .ok (.aload_n 3, 1) := by decide +kernel
theorem dLa_law_110 : decode code 110 = .ok (.invokestatic 52, 3) := by decide +kernel
theorem dLa_law_113 : decode code 113 = .ok (.istore 5, 2) := by decide +kernel
theorem dLa_law_115 : decode code 115 = .ok (.aload_n 2, 1) := by decide +kernel
theorem dLa_law_116 : decode code 116 = .ok (.aload_n 0, 1) := by decide +kernel
theorem dLa_law_117 : decode code 117 = .ok (.iload 4, 2) := by decide +kernel
theorem dLa_law_119 : decode code 119 = .ok (.iconst 1, 1) := by decide +kernel
theorem dLa_law_120 : decode code 120 = .ok (.iadd, 1) := by decide +kernel
theorem dLa_law_121 : decode code 121 = .ok (.iaload, 1) := by decide +kernel
theorem dLa_law_122 : decode code 122 = .ok (.aload_n 0, 1) := by decide +kernel
theorem dLa_law_123 : decode code 123 = .ok (.iload 4, 2) := by decide +kernel
theorem dLa_law_125 : decode code 125 = .ok (.iconst 2, 1) := by decide +kernel
theorem dLa_law_126 : decode code 126 = .ok (.iadd, 1) := by decide +kernel
theorem dLa_law_127 : decode code 127 = .ok (.iaload, 1) := by decide +kernel
theorem dLa_law_128 : decode code 128 = .ok (.invokevirtual 57, 3) := by decide +kernel
theorem dLa_law_131 : decode code 131 = .ok (.istore 6, 2) := by decide +kernel
theorem dLa_law_133 : decode code 133 = .ok (.aload_n 2, 1) := by decide +kernel
theorem dLa_law_134 : decode code 134 = .ok (.invokevirtual 58, 3) := by decide +kernel
theorem dLa_law_137 : decode code 137 = .ok (.iload 5, 2) := by decide +kernel
theorem dLa_law_139 : decode code 139 = .ok (.if_icmp .eq 5, 3) := by decide +kernel
theorem dLa_law_142 : decode code 142 = .ok (.iconst 0, 1) := by decide +kernel
theorem dLa_law_143 : decode code 143 = .ok (.ireturn, 1) := by decide +kernel
theorem dLa_law_144 : decode code 144 = .ok (.iload 5, 2) := by decide +kernel
theorem dLa_law_146 : decode code 146 = .ok (.ifCond .ne 15, 3) := by decide +kernel
theorem dLa_law_149 : decode code 149 = .ok (.aload_n 3, 1) := by decide +kernel
theorem dLa_law_150 : decode code 150 = .ok (.iconst 0, 1) := by decide +kernel
theorem dLa_law_151 : decode code 151 = .ok (.laload, 1) := by decide +kernel
theorem dLa_law_152 : decode code 152 = .ok (.iload 6, 2) := by decide +kernel
theorem dLa_law_154 : decode code 154 = .ok (.i2l, 1) := by decide +kernel
theorem dLa_law_155 : decode code 155 = .ok (.lcmp, 1) := by decide +kernel
theorem dLa_law_156 : decode code 156 = .ok (.ifCond .eq 5, 3) := by decide +kernel
theorem dLa_law_159 : decode code 159 = .ok (.iconst 0, 1) := by decide +kernel
theorem dLa_law_160 : decode code 160 = .ok (.ireturn, 1) := by decide +kernel
theorem dLa_law_161 : decode code 161 = .ok (.goto 448, 3) := by decide +kernel
theorem dLa_law_164 : decode code 164 = .ok (.aload_n 1, 1) := by decide +kernel
theorem dLa_law_165 : decode code 165 = .ok (.invokevirtual 61, 3) := by decide +kernel
theorem dLa_law_168 : decode code 168 = .ok (.aload_n 2, 1) := by decide +kernel
theorem dLa_law_169 : decode code 169 = .ok (.invokevirtual 64, 3) := by decide +kernel
theorem dLa_law_172 : decode code 172 = .ok (.if_icmp .eq 437, 3) := by decide +kernel
theorem dLa_law_175 : decode code 175 = .ok (.iconst 0, 1) := by decide +kernel
theorem dLa_law_176 : decode code 176 = .ok (.ireturn, 1) := by decide +kernel
theorem dLa_law_177 : decode code 177 = .ok (.aload_n 1, 1) := by decide +kernel
theorem dLa_law_178 : decode code 178 = .ok (.aload_n 0, 1) := by decide +kernel
theorem dLa_law_179 : decode code 179 = .ok (.iload 4, 2) := by decide +kernel
theorem dLa_law_181 : decode code 181 = .ok (.iconst 1, 1) := by decide +kernel
theorem dLa_law_182 : decode code 182 = .ok (.iadd, 1) := by decide +kernel
theorem dLa_law_183 : decode code 183 = .ok (.iaload, 1) := by decide +kernel
theorem dLa_law_184 : decode code 184 = .ok (.aload_n 0, 1) := by decide +kernel
theorem dLa_law_185 : decode code 185 = .ok (.iload 4, 2) := by decide +kernel
theorem dLa_law_187 : decode code 187 = .ok (.iconst 2, 1) := by decide +kernel
theorem dLa_law_188 : decode code 188 = .ok (.iadd, 1) := by decide +kernel
theorem dLa_law_189 : decode code 189 = .ok (.iaload, 1) := by decide +kernel
theorem dLa_law_190 : decode code 190 = .ok (.i2l, 1) := by decide +kernel
theorem dLa_law_191 : decode code 191 = .ok (.bipush 32, 2) := by decide +kernel
theorem dLa_law_193 : decode code 193 = .ok (.lshl, 1) := by decide +kernel
theorem dLa_law_194 : decode code 194 = .ok (.aload_n 0, 1) := by decide +kernel
theorem dLa_law_195 : decode code 195 = .ok (.iload 4, 2) := by decide +kernel
theorem dLa_law_197 : decode code 197 = .ok (.iconst 3, 1) := by decide +kernel
theorem dLa_law_198 : decode code 198 = .ok (.iadd, 1) := by decide +kernel
theorem dLa_law_199 : decode code 199 = .ok (.iaload, 1) := by decide +kernel
theorem dLa_law_200 : decode code 200 = .ok (.i2l, 1) := by decide +kernel
theorem dLa_law_201 : decode code 201 = .ok (.ldc2_w 65, 3) := by decide +kernel
theorem dLa_law_204 : decode code 204 = .ok (.land, 1) := by decide +kernel
theorem dLa_law_205 : decode code 205 = .ok (.lor, 1) := by decide +kernel
theorem dLa_law_206 : decode code 206 = .ok (.invokestatic 67, 3) := by decide +kernel
theorem dLa_law_209 : decode code 209 = .ok (.istore 5, 2) := by decide +kernel
theorem dLa_law_211 : decode code 211 = .ok (.aload_n 2, 1) := by decide +kernel
theorem dLa_law_212 : decode code 212 = .ok (.aload_n 0, 1) := by decide +kernel
theorem dLa_law_213 : decode code 213 = .ok (.iload 4, 2) := by decide +kernel
theorem dLa_law_215 : decode code 215 = .ok (.iconst 1, 1) := by decide +kernel
theorem dLa_law_216 : decode code 216 = .ok (.iadd, 1) := by decide +kernel
theorem dLa_law_217 : decode code 217 = .ok (.iaload, 1) := by decide +kernel
theorem dLa_law_218 : decode code 218 = .ok (.aload_n 0, 1) := by decide +kernel
theorem dLa_law_219 : decode code 219 = .ok (.iload 4, 2) := by decide +kernel
theorem dLa_law_221 : decode code 221 = .ok (.iconst 2, 1) := by decide +kernel
theorem dLa_law_222 : decode code 222 = .ok (.iadd, 1) := by decide +kernel
theorem dLa_law_223 : decode code 223 = .ok (.iaload, 1) := by decide +kernel
theorem dLa_law_224 : decode code 224 = .ok (.i2l, 1) := by decide +kernel
theorem dLa_law_225 : decode code 225 = .ok (.bipush 32, 2) := by decide +kernel
theorem dLa_law_227 : decode code 227 = .ok (.lshl, 1) := by decide +kernel
theorem dLa_law_228 : decode code 228 = .ok (.aload_n 0, 1) := by decide +kernel
theorem dLa_law_229 : decode code 229 = .ok (.iload 4, 2) := by decide +kernel
theorem dLa_law_231 : decode code 231 = .ok (.iconst 3, 1) := by decide +kernel
theorem dLa_law_232 : decode code 232 = .ok (.iadd, 1) := by decide +kernel
theorem dLa_law_233 : decode code 233 = .ok (.iaload, 1) := by decide +kernel
theorem dLa_law_234 : decode code 234 = .ok (.i2l, 1) := by decide +kernel
theorem dLa_law_235 : decode code 235 = .ok (.ldc2_w 65, 3) := by decide +kernel
theorem dLa_law_238 : decode code 238 = .ok (.land, 1) := by decide +kernel
theorem dLa_law_239 : decode code 239 = .ok (.lor, 1) := by decide +kernel
theorem dLa_law_240 : decode code 240 = .ok (.invokevirtual 70, 3) := by decide +kernel
theorem dLa_law_243 : decode code 243 = .ok (.aload_n 2, 1) := by decide +kernel
theorem dLa_law_244 : decode code 244 = .ok (.invokevirtual 58, 3) := by decide +kernel
theorem dLa_law_247 : decode code 247 = .ok (.iload 5, 2) := by decide +kernel
theorem dLa_law_249 : decode code 249 = .ok (.if_icmp .eq 5, 3) := by decide +kernel
theorem dLa_law_252 : decode code 252 = .ok (.iconst 0, 1) := by decide +kernel
theorem dLa_law_253 : decode code 253 = .ok (.ireturn, 1) := by decide +kernel
theorem dLa_law_254 : decode code 254 = .ok (.goto 355, 3) := by decide +kernel
theorem dLa_law_257 : decode code 257 = .ok (.aload_n 1, 1) := by decide +kernel
theorem dLa_law_258 : decode code 258 = .ok (.aload_n 0, 1) := by decide +kernel
theorem dLa_law_259 : decode code 259 = .ok (.iload 4, 2) := by decide +kernel
theorem dLa_law_261 : decode code 261 = .ok (.iconst 1, 1) := by decide +kernel
theorem dLa_law_262 : decode code 262 = .ok (.iadd, 1) := by decide +kernel
theorem dLa_law_263 : decode code 263 = .ok (.iaload, 1) := by decide +kernel
theorem dLa_law_264 : decode code 264 = .ok (.invokestatic 71, 3) := by decide +kernel
theorem dLa_law_267 : decode code 267 = .ok (.istore 5, 2) := by decide +kernel
theorem dLa_law_269 : decode code 269 = .ok (.aload_n 2, 1) := by decide +kernel
theorem dLa_law_270 : decode code 270 = .ok (.aload_n 0, 1) := by decide +kernel
theorem dLa_law_271 : decode code 271 = .ok (.iload 4, 2) := by decide +kernel
theorem dLa_law_273 : decode code 273 = .ok (.iconst 1, 1) := by decide +kernel
theorem dLa_law_274 : decode code 274 = .ok (.iadd, 1) := by decide +kernel
theorem dLa_law_275 : decode code 275 = .ok (.iaload, 1) := by decide +kernel
theorem dLa_law_276 : decode code 276 = .ok (.invokevirtual 74, 3) := by decide +kernel
theorem dLa_law_279 : decode code 279 = .ok (.aload_n 2, 1) := by decide +kernel
theorem dLa_law_280 : decode code 280 = .ok (.invokevirtual 58, 3) := by decide +kernel
theorem dLa_law_283 : decode code 283 = .ok (.iload 5, 2) := by decide +kernel
theorem dLa_law_285 : decode code 285 = .ok (.if_icmp .eq 5, 3) := by decide +kernel
theorem dLa_law_288 : decode code 288 = .ok (.iconst 0, 1) := by decide +kernel
theorem dLa_law_289 : decode code 289 = .ok (.ireturn, 1) := by decide +kernel
theorem dLa_law_290 : decode code 290 = .ok (.goto 319, 3) := by decide +kernel
theorem dLa_law_293 : decode code 293 = .ok (.aload_n 1, 1) := by decide +kernel
theorem dLa_law_294 : decode code 294 = .ok (.invokestatic 75, 3) := by decide +kernel
theorem dLa_law_297 : decode code 297 = .ok (.istore 5, 2) := by decide +kernel
theorem dLa_law_299 : decode code 299 = .ok (.aload_n 2, 1) := by decide +kernel
theorem dLa_law_300 : decode code 300 = .ok (.invokevirtual 78, 3) := by decide +kernel
theorem dLa_law_303 : decode code 303 = .ok (.aload_n 2, 1) := by decide +kernel
theorem dLa_law_304 : decode code 304 = .ok (.invokevirtual 58, 3) := by decide +kernel
theorem dLa_law_307 : decode code 307 = .ok (.iload 5, 2) := by decide +kernel
theorem dLa_law_309 : decode code 309 = .ok (.if_icmp .eq 5, 3) := by decide +kernel
theorem dLa_law_312 : decode code 312 = .ok (.iconst 0, 1) := by decide +kernel
theorem dLa_law_313 : decode code 313 = .ok (.ireturn, 1) := by decide +kernel
theorem dLa_law_314 : decode code 314 = .ok (.goto 295, 3) := by decide +kernel
theorem dLa_law_317 : decode code 317 = .ok (.aload_n 1, 1) := by decide +kernel
theorem dLa_law_318 : decode code 318 = .ok (.aload_n 0, 1) := by decide +kernel
theorem dLa_law_319 : decode code 319 = .ok (.iload 4, 2) := by decide +kernel
theorem dLa_law_321 : decode code 321 = .ok (.iconst 1, 1) := by decide +kernel
theorem dLa_law_322 : decode code 322 = .ok (.iadd, 1) := by decide +kernel
theorem dLa_law_323 : decode code 323 = .ok (.iaload, 1) := by decide +kernel
theorem dLa_law_324 : decode code 324 = .ok (.aload_n 3, 1) := by decide +kernel
theorem dLa_law_325 : decode code 325 = .ok (.invokestatic 79, 3) := by decide +kernel
theorem dLa_law_328 : decode code 328 = .ok (.istore 5, 2) := by decide +kernel
theorem dLa_law_330 : decode code 330 = .ok (.aload_n 2, 1) := by decide +kernel
theorem dLa_law_331 : decode code 331 = .ok (.aload_n 0, 1) := by decide +kernel
theorem dLa_law_332 : decode code 332 = .ok (.iload 4, 2) := by decide +kernel
theorem dLa_law_334 : decode code 334 = .ok (.iconst 1, 1) := by decide +kernel
theorem dLa_law_335 : decode code 335 = .ok (.iadd, 1) := by decide +kernel
theorem dLa_law_336 : decode code 336 = .ok (.iaload, 1) := by decide +kernel
theorem dLa_law_337 : decode code 337 = .ok (.invokevirtual 82, 3) := by decide +kernel
theorem dLa_law_340 : decode code 340 = .ok (.istore 6, 2) := by decide +kernel
theorem dLa_law_342 : decode code 342 = .ok (.aload_n 2, 1) := by decide +kernel
theorem dLa_law_343 : decode code 343 = .ok (.invokevirtual 58, 3) := by decide +kernel
theorem dLa_law_346 : decode code 346 = .ok (.iload 5, 2) := by decide +kernel
theorem dLa_law_348 : decode code 348 = .ok (.if_icmp .eq 5, 3) := by decide +kernel
theorem dLa_law_351 : decode code 351 = .ok (.iconst 0, 1) := by decide +kernel
theorem dLa_law_352 : decode code 352 = .ok (.ireturn, 1) := by decide +kernel
theorem dLa_law_353 : decode code 353 = .ok (.iload 5, 2) := by decide +kernel
theorem dLa_law_355 : decode code 355 = .ok (.ifCond .ne 15, 3) := by decide +kernel
theorem dLa_law_358 : decode code 358 = .ok (.aload_n 3, 1) := by decide +kernel
theorem dLa_law_359 : decode code 359 = .ok (.iconst 0, 1) := by decide +kernel
theorem dLa_law_360 : decode code 360 = .ok (.laload, 1) := by decide +kernel
theorem dLa_law_361 : decode code 361 = .ok (.iload 6, 2) := by decide +kernel
theorem dLa_law_363 : decode code 363 = .ok (.i2l, 1) := by decide +kernel
theorem dLa_law_364 : decode code 364 = .ok (.lcmp, 1) := by decide +kernel
theorem dLa_law_365 : decode code 365 = .ok (.ifCond .eq 5, 3) := by decide +kernel
theorem dLa_law_368 : decode code 368 = .ok (.iconst 0, 1) := by decide +kernel
theorem dLa_law_369 : decode code 369 = .ok (.ireturn, 1) := by decide +kernel
theorem dLa_law_370 : decode code 370 = .ok (.goto 239, 3) := by decide +kernel
theorem dLa_law_373 : decode code 373 = .ok (.aload_n 1, 1) := by decide +kernel
theorem dLa_law_374 : decode code 374 = .ok (.aload_n 3, 1) := by decide +kernel
theorem dLa_law_375 : decode code 375 = .ok (.invokestatic 83, 3) := by decide +kernel
theorem dLa_law_378 : decode code 378 = .ok (.istore 5, 2) := by decide +kernel
theorem dLa_law_380 : decode code 380 = .ok (.aload_n 2, 1) := by decide +kernel
theorem dLa_law_381 : decode code 381 = .ok (.invokevirtual 86, 3) := by decide +kernel
theorem dLa_law_384 : decode code 384 = .ok (.istore 6, 2) := by decide +kernel
theorem dLa_law_386 : decode code 386 = .ok (.aload_n 2, 1) := by decide +kernel
theorem dLa_law_387 : decode code 387 = .ok (.invokevirtual 58, 3) := by decide +kernel
theorem dLa_law_390 : decode code 390 = .ok (.iload 5, 2) := by decide +kernel
theorem dLa_law_392 : decode code 392 = .ok (.if_icmp .eq 5, 3) := by decide +kernel
theorem dLa_law_395 : decode code 395 = .ok (.iconst 0, 1) := by decide +kernel
theorem dLa_law_396 : decode code 396 = .ok (.ireturn, 1) := by decide +kernel
theorem dLa_law_397 : decode code 397 = .ok (.iload 5, 2) := by decide +kernel
theorem dLa_law_399 : decode code 399 = .ok (.ifCond .ne 15, 3) := by decide +kernel
theorem dLa_law_402 : decode code 402 = .ok (.aload_n 3, 1) := by decide +kernel
theorem dLa_law_403 : decode code 403 = .ok (.iconst 0, 1) := by decide +kernel
theorem dLa_law_404 : decode code 404 = .ok (.laload, 1) := by decide +kernel
theorem dLa_law_405 : decode code 405 = .ok (.iload 6, 2) := by decide +kernel
theorem dLa_law_407 : decode code 407 = .ok (.i2l, 1) := by decide +kernel
theorem dLa_law_408 : decode code 408 = .ok (.lcmp, 1) := by decide +kernel
theorem dLa_law_409 : decode code 409 = .ok (.ifCond .eq 5, 3) := by decide +kernel
theorem dLa_law_412 : decode code 412 = .ok (.iconst 0, 1) := by decide +kernel
theorem dLa_law_413 : decode code 413 = .ok (.ireturn, 1) := by decide +kernel
theorem dLa_law_414 : decode code 414 = .ok (.goto 195, 3) := by decide +kernel
theorem dLa_law_417 : decode code 417 = .ok (.aload_n 1, 1) := by decide +kernel
theorem dLa_law_418 : decode code 418 = .ok (.aload_n 0, 1) := by decide +kernel
theorem dLa_law_419 : decode code 419 = .ok (.iload 4, 2) := by decide +kernel
theorem dLa_law_421 : decode code 421 = .ok (.iconst 1, 1) := by decide +kernel
theorem dLa_law_422 : decode code 422 = .ok (.iadd, 1) := by decide +kernel
theorem dLa_law_423 : decode code 423 = .ok (.iaload, 1) := by decide +kernel
theorem dLa_law_424 : decode code 424 = .ok (.aload_n 3, 1) := by decide +kernel
theorem dLa_law_425 : decode code 425 = .ok (.invokestatic 87, 3) := by decide +kernel
theorem dLa_law_428 : decode code 428 = .ok (.istore 5, 2) := by decide +kernel
theorem dLa_law_430 : decode code 430 = .ok (.aload_n 2, 1) := by decide +kernel
theorem dLa_law_431 : decode code 431 = .ok (.aload_n 0, 1) := by decide +kernel
theorem dLa_law_432 : decode code 432 = .ok (.iload 4, 2) := by decide +kernel
theorem dLa_law_434 : decode code 434 = .ok (.iconst 1, 1) := by decide +kernel
theorem dLa_law_435 : decode code 435 = .ok (.iadd, 1) := by decide +kernel
theorem dLa_law_436 : decode code 436 = .ok (.iaload, 1) := by decide +kernel
theorem dLa_law_437 : decode code 437 = .ok (.invokevirtual 89, 3) := by decide +kernel
theorem dLa_law_440 : decode code 440 = .ok (.lstore 6, 2) := by decide +kernel
theorem dLa_law_442 : decode code 442 = .ok (.aload_n 2, 1) := by decide +kernel
theorem dLa_law_443 : decode code 443 = .ok (.invokevirtual 58, 3) := by decide +kernel
theorem dLa_law_446 : decode code 446 = .ok (.iload 5, 2) := by decide +kernel
theorem dLa_law_448 : decode code 448 = .ok (.if_icmp .eq 5, 3) := by decide +kernel
theorem dLa_law_451 : decode code 451 = .ok (.iconst 0, 1) := by decide +kernel
theorem dLa_law_452 : decode code 452 = .ok (.ireturn, 1) := by decide +kernel
theorem dLa_law_453 : decode code 453 = .ok (.iload 5, 2) := by decide +kernel
theorem dLa_law_455 : decode code 455 = .ok (.ifCond .ne 14, 3) := by decide +kernel
theorem dLa_law_458 : decode code 458 = .ok (.aload_n 3, 1) := by decide +kernel
theorem dLa_law_459 : decode code 459 = .ok (.iconst 0, 1) := by decide +kernel
theorem dLa_law_460 : decode code 460 = .ok (.laload, 1) := by decide +kernel
theorem dLa_law_461 : decode code 461 = .ok (.lload 6, 2) := by decide +kernel
theorem dLa_law_463 : decode code 463 = .ok (.lcmp, 1) := by decide +kernel
theorem dLa_law_464 : decode code 464 = .ok (.ifCond .eq 5, 3) := by decide +kernel
theorem dLa_law_467 : decode code 467 = .ok (.iconst 0, 1) := by decide +kernel
theorem dLa_law_468 : decode code 468 = .ok (.ireturn, 1) := by decide +kernel
theorem dLa_law_469 : decode code 469 = .ok (.goto 140, 3) := by decide +kernel
theorem dLa_law_472 : decode code 472 = .ok (.aload_n 1, 1) := by decide +kernel
theorem dLa_law_473 : decode code 473 = .ok (.aload_n 0, 1) := by decide +kernel
theorem dLa_law_474 : decode code 474 = .ok (.iload 4, 2) := by decide +kernel
theorem dLa_law_476 : decode code 476 = .ok (.iconst 1, 1) := by decide +kernel
theorem dLa_law_477 : decode code 477 = .ok (.iadd, 1) := by decide +kernel
theorem dLa_law_478 : decode code 478 = .ok (.iaload, 1) := by decide +kernel
theorem dLa_law_479 : decode code 479 = .ok (.aload_n 3, 1) := by decide +kernel
theorem dLa_law_480 : decode code 480 = .ok (.invokestatic 90, 3) := by decide +kernel
theorem dLa_law_483 : decode code 483 = .ok (.istore 5, 2) := by decide +kernel
theorem dLa_law_485 : decode code 485 = .ok (.aload_n 2, 1) := by decide +kernel
theorem dLa_law_486 : decode code 486 = .ok (.aload_n 0, 1) := by decide +kernel
theorem dLa_law_487 : decode code 487 = .ok (.iload 4, 2) := by decide +kernel
theorem dLa_law_489 : decode code 489 = .ok (.iconst 1, 1) := by decide +kernel
theorem dLa_law_490 : decode code 490 = .ok (.iadd, 1) := by decide +kernel
theorem dLa_law_491 : decode code 491 = .ok (.iaload, 1) := by decide +kernel
theorem dLa_law_492 : decode code 492 = .ok (.invokevirtual 92, 3) := by decide +kernel
theorem dLa_law_495 : decode code 495 = .ok (.istore 6, 2) := by decide +kernel
theorem dLa_law_497 : decode code 497 = .ok (.aload_n 2, 1) := by decide +kernel
theorem dLa_law_498 : decode code 498 = .ok (.invokevirtual 58, 3) := by decide +kernel
theorem dLa_law_501 : decode code 501 = .ok (.iload 5, 2) := by decide +kernel
theorem dLa_law_503 : decode code 503 = .ok (.if_icmp .eq 5, 3) := by decide +kernel
theorem dLa_law_506 : decode code 506 = .ok (.iconst 0, 1) := by decide +kernel
theorem dLa_law_507 : decode code 507 = .ok (.ireturn, 1) := by decide +kernel
theorem dLa_law_508 : decode code 508 = .ok (.iload 5, 2) := by decide +kernel
theorem dLa_law_510 : decode code 510 = .ok (.ifCond .ne 15, 3) := by decide +kernel
theorem dLa_law_513 : decode code 513 = .ok (.aload_n 3, 1) := by decide +kernel
theorem dLa_law_514 : decode code 514 = .ok (.iconst 0, 1) := by decide +kernel
theorem dLa_law_515 : decode code 515 = .ok (.laload, 1) := by decide +kernel
theorem dLa_law_516 : decode code 516 = .ok (.iload 6, 2) := by decide +kernel
theorem dLa_law_518 : decode code 518 = .ok (.i2l, 1) := by decide +kernel
theorem dLa_law_519 : decode code 519 = .ok (.lcmp, 1) := by decide +kernel
theorem dLa_law_520 : decode code 520 = .ok (.ifCond .eq 5, 3) := by decide +kernel
theorem dLa_law_523 : decode code 523 = .ok (.iconst 0, 1) := by decide +kernel
theorem dLa_law_524 : decode code 524 = .ok (.ireturn, 1) := by decide +kernel
theorem dLa_law_525 : decode code 525 = .ok (.goto 84, 3) := by decide +kernel
theorem dLa_law_528 : decode code 528 = .ok (.aload_n 1, 1) := by decide +kernel
theorem dLa_law_529 : decode code 529 = .ok (.aload_n 0, 1) := by decide +kernel
theorem dLa_law_530 : decode code 530 = .ok (.iload 4, 2) := by decide +kernel
theorem dLa_law_532 : decode code 532 = .ok (.iconst 1, 1) := by decide +kernel
theorem dLa_law_533 : decode code 533 = .ok (.iadd, 1) := by decide +kernel
theorem dLa_law_534 : decode code 534 = .ok (.iaload, 1) := by decide +kernel
theorem dLa_law_535 : decode code 535 = .ok (.aload_n 3, 1) := by decide +kernel
theorem dLa_law_536 : decode code 536 = .ok (.invokestatic 93, 3) := by decide +kernel
theorem dLa_law_539 : decode code 539 = .ok (.istore 5, 2) := by decide +kernel
theorem dLa_law_541 : decode code 541 = .ok (.aload_n 2, 1) := by decide +kernel
theorem dLa_law_542 : decode code 542 = .ok (.aload_n 0, 1) := by decide +kernel
theorem dLa_law_543 : decode code 543 = .ok (.iload 4, 2) := by decide +kernel
theorem dLa_law_545 : decode code 545 = .ok (.iconst 1, 1) := by decide +kernel
theorem dLa_law_546 : decode code 546 = .ok (.iadd, 1) := by decide +kernel
theorem dLa_law_547 : decode code 547 = .ok (.iaload, 1) := by decide +kernel
theorem dLa_law_548 : decode code 548 = .ok (.invokevirtual 95, 3) := by decide +kernel
theorem dLa_law_551 : decode code 551 = .ok (.istore 6, 2) := by decide +kernel
theorem dLa_law_553 : decode code 553 = .ok (.aload_n 2, 1) := by decide +kernel
theorem dLa_law_554 : decode code 554 = .ok (.invokevirtual 58, 3) := by decide +kernel
theorem dLa_law_557 : decode code 557 = .ok (.iload 5, 2) := by decide +kernel
theorem dLa_law_559 : decode code 559 = .ok (.if_icmp .eq 5, 3) := by decide +kernel
theorem dLa_law_562 : decode code 562 = .ok (.iconst 0, 1) := by decide +kernel
theorem dLa_law_563 : decode code 563 = .ok (.ireturn, 1) := by decide +kernel
theorem dLa_law_564 : decode code 564 = .ok (.iload 5, 2) := by decide +kernel
theorem dLa_law_566 : decode code 566 = .ok (.ifCond .ne 15, 3) := by decide +kernel
theorem dLa_law_569 : decode code 569 = .ok (.aload_n 3, 1) := by decide +kernel
theorem dLa_law_570 : decode code 570 = .ok (.iconst 0, 1) := by decide +kernel
theorem dLa_law_571 : decode code 571 = .ok (.laload, 1) := by decide +kernel
theorem dLa_law_572 : decode code 572 = .ok (.iload 6, 2) := by decide +kernel
theorem dLa_law_574 : decode code 574 = .ok (.i2l, 1) := by decide +kernel
theorem dLa_law_575 : decode code 575 = .ok (.lcmp, 1) := by decide +kernel
theorem dLa_law_576 : decode code 576 = .ok (.ifCond .eq 5, 3) := by decide +kernel
theorem dLa_law_579 : decode code 579 = .ok (.iconst 0, 1) := by decide +kernel
theorem dLa_law_580 : decode code 580 = .ok (.ireturn, 1) := by decide +kernel
theorem dLa_law_581 : decode code 581 = .ok (.goto 28, 3) := by decide +kernel
theorem dLa_law_584 : decode code 584 = .ok (.aload_n 1, 1) := by decide +kernel
theorem dLa_law_585 : decode code 585 = .ok (.aload_n 0, 1) := by decide +kernel
theorem dLa_law_586 : decode code 586 = .ok (.iload 4, 2) := by decide +kernel
theorem dLa_law_588 : decode code 588 = .ok (.iconst 1, 1) := by decide +kernel
theorem dLa_law_589 : decode code 589 = .ok (.iadd, 1) := by decide +kernel
theorem dLa_law_590 : decode code 590 = .ok (.iaload, 1) := by decide +kernel
theorem dLa_law_591 : decode code 591 = .ok (.invokevirtual 96, 3) := by decide +kernel
theorem dLa_law_594 : decode code 594 = .ok (.aload_n 2, 1) := by decide +kernel
theorem dLa_law_595 : decode code 595 = .ok (.aload_n 0, 1) := by decide +kernel
theorem dLa_law_596 : decode code 596 = .ok (.iload 4, 2) := by decide +kernel
theorem dLa_law_598 : decode code 598 = .ok (.iconst 1, 1) := by decide +kernel
theorem dLa_law_599 : decode code 599 = .ok (.iadd, 1) := by decide +kernel
theorem dLa_law_600 : decode code 600 = .ok (.iaload, 1) := by decide +kernel
theorem dLa_law_601 : decode code 601 = .ok (.invokevirtual 99, 3) := by decide +kernel
theorem dLa_law_604 : decode code 604 = .ok (.if_icmp .eq 5, 3) := by decide +kernel
theorem dLa_law_607 : decode code 607 = .ok (.iconst 0, 1) := by decide +kernel
theorem dLa_law_608 : decode code 608 = .ok (.ireturn, 1) := by decide +kernel
theorem dLa_law_609 : decode code 609 = .ok (.iinc 4 4, 3) := by decide +kernel
theorem dLa_law_612 : decode code 612 = .ok (.goto (-589), 3) := by decide +kernel
theorem dLa_law_615 : decode code 615 = .ok (.iconst 1, 1) := by decide +kernel
theorem dLa_law_616 : decode code 616 = .ok (.ireturn, 1) := by decide +kernel

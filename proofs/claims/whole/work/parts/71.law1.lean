/-! THE LAW: its code, its calls, the cases of its switch -/
theorem d_law_0 : decode code 0 = .ok (.new 8, 3) := by decide +kernel
theorem d_law_3 : decode code 3 = .ok (.dup, 1) := by decide +kernel
theorem d_law_4 : decode code 4 = .ok (.invokespecial 38, 3) := by decide +kernel
theorem d_law_7 : decode code 7 = .ok (.astore_n 1, 1) := by decide +kernel
theorem d_law_8 : decode code 8 = .ok (.new 39, 3) := by decide +kernel
theorem d_law_11 : decode code 11 = .ok (.dup, 1) := by decide +kernel
theorem d_law_12 : decode code 12 = .ok (.invokespecial 41, 3) := by decide +kernel
theorem d_law_15 : decode code 15 = .ok (.astore_n 2, 1) := by decide +kernel
theorem d_law_16 : decode code 16 = .ok (.iconst 1, 1) := by decide +kernel
theorem d_law_17 : decode code 17 = .ok (.newarray .long, 2) := by decide +kernel
theorem d_law_19 : decode code 19 = .ok (.astore_n 3, 1) := by decide +kernel
theorem d_law_20 : decode code 20 = .ok (.iconst 0, 1) := by decide +kernel
theorem d_law_21 : decode code 21 = .ok (.istore 4, 2) := by decide +kernel
theorem d_law_23 : decode code 23 = .ok (.iload 4, 2) := by decide +kernel
theorem d_law_25 : decode code 25 = .ok (.aload_n 0, 1) := by decide +kernel
theorem d_law_26 : decode code 26 = .ok (.arraylength, 1) := by decide +kernel
theorem d_law_27 : decode code 27 = .ok (.iconst 4, 1) := by decide +kernel
theorem d_law_28 : decode code 28 = .ok (.isub, 1) := by decide +kernel
theorem d_law_29 : decode code 29 = .ok (.if_icmp .gt 530, 3) := by decide +kernel
theorem d_law_32 : decode code 32 = .ok (.aload_n 0, 1) := by decide +kernel
theorem d_law_33 : decode code 33 = .ok (.iload 4, 2) := by decide +kernel
theorem d_law_35 : decode code 35 = .ok (.iaload, 1) := by decide +kernel
theorem d_law_36 : decode code 36 = .ok (.bipush 7, 2) := by decide +kernel
theorem d_law_38 : decode code 38 = .ok (.iand, 1) := by decide +kernel
theorem d_law_39 : decode code 39 = .ok (.tableswitch 514 0 7 #[45, 101, 126, 186, 266, 322, 378, 446], 45) := by decide +kernel
theorem d_law_84 : decode code 84 = .ok (.aload_n 1, 1) := by decide +kernel
theorem d_law_85 : decode code 85 = .ok (.aload_n 0, 1) := by decide +kernel
theorem d_law_86 : decode code 86 = .ok (.iload 4, 2) := by decide +kernel
theorem d_law_88 : decode code 88 = .ok (.iconst 1, 1) := by decide +kernel
theorem d_law_89 : decode code 89 = .ok (.iadd, 1) := by decide +kernel
theorem d_law_90 : decode code 90 = .ok (.iaload, 1) := by decide +kernel
theorem d_law_91 : decode code 91 = .ok (.aload_n 3, 1) := by decide +kernel
theorem d_law_92 : decode code 92 = .ok (.invokestatic 42, 3) := by decide +kernel
theorem d_law_95 : decode code 95 = .ok (.istore 5, 2) := by decide +kernel
theorem d_law_97 : decode code 97 = .ok (.aload_n 2, 1) := by decide +kernel
theorem d_law_98 : decode code 98 = .ok (.aload_n 0, 1) := by decide +kernel
theorem d_law_99 : decode code 99 = .ok (.iload 4, 2) := by decide +kernel
theorem d_law_101 : decode code 101 = .ok (.iconst 1, 1) := by decide +kernel
theorem d_law_102 : decode code 102 = .ok (.iadd, 1) := by decide +kernel
theorem d_law_103 : decode code 103 = .ok (.iaload, 1) := by decide +kernel
theorem d_law_104 : decode code 104 = .ok (.invokevirtual 47, 3) := by decide +kernel
theorem d_law_107 : decode code 107 = .ok (.istore 6, 2) := by decide +kernel
theorem d_law_109 : decode code 109 = .ok (.aload_n 2, 1) := by decide +kernel
theorem d_law_110 : decode code 110 = .ok (.invokevirtual 48, 3) := by decide +kernel
theorem d_law_113 : decode code 113 = .ok (.iload 5, 2) := by decide +kernel
theorem d_law_115 : decode code 115 = .ok (.if_icmp .eq 5, 3) := by decide +kernel
theorem d_law_118 : decode code 118 = .ok (.iconst 0, 1) := by decide +kernel
theorem d_law_119 : decode code 119 = .ok (.ireturn, 1) := by decide +kernel
theorem d_law_120 : decode code 120 = .ok (.iload 5, 2) := by decide +kernel
theorem d_law_122 : decode code 122 = .ok (.ifCond .ne 15, 3) := by decide +kernel
theorem d_law_125 : decode code 125 = .ok (.aload_n 3, 1) := by decide +kernel
theorem d_law_126 : decode code 126 = .ok (.iconst 0, 1) := by decide +kernel
theorem d_law_127 : decode code 127 = .ok (.laload, 1) := by decide +kernel
theorem d_law_128 : decode code 128 = .ok (.iload 6, 2) := by decide +kernel
theorem d_law_130 : decode code 130 = .ok (.i2l, 1) := by decide +kernel
theorem d_law_131 : decode code 131 = .ok (.lcmp, 1) := by decide +kernel
theorem d_law_132 : decode code 132 = .ok (.ifCond .eq 5, 3) := by decide +kernel
theorem d_law_135 : decode code 135 = .ok (.iconst 0, 1) := by decide +kernel
theorem d_law_136 : decode code 136 = .ok (.ireturn, 1) := by decide +kernel
theorem d_law_137 : decode code 137 = .ok (.goto 416, 3) := by decide +kernel
theorem d_law_140 : decode code 140 = .ok (.aload_n 1, 1) := by decide +kernel
theorem d_law_141 : decode code 141 = .ok (.aload_n 0, 1) := by decide +kernel
theorem d_law_142 : decode code 142 = .ok (.iload 4, 2) := by decide +kernel
theorem d_law_144 : decode code 144 = .ok (.iconst 1, 1) := by decide +kernel
theorem d_law_145 : decode code 145 = .ok (.iadd, 1) := by decide +kernel
theorem d_law_146 : decode code 146 = .ok (.iaload, 1) := by decide +kernel
theorem d_law_147 : decode code 147 = .ok (.invokevirtual 52, 3) := by decide +kernel
theorem d_law_150 : decode code 150 = .ok (.aload_n 2, 1) := by decide +kernel
theorem d_law_151 : decode code 151 = .ok (.aload_n 0, 1) := by decide +kernel
theorem d_law_152 : decode code 152 = .ok (.iload 4, 2) := by decide +kernel
theorem d_law_154 : decode code 154 = .ok (.iconst 1, 1) := by decide +kernel
theorem d_law_155 : decode code 155 = .ok (.iadd, 1) := by decide +kernel
theorem d_law_156 : decode code 156 = .ok (.iaload, 1) := by decide +kernel
theorem d_law_157 : decode code 157 = .ok (.invokevirtual 55, 3) := by decide +kernel
theorem d_law_160 : decode code 160 = .ok (.if_icmp .eq 393, 3) := by decide +kernel
theorem d_law_163 : decode code 163 = .ok (.iconst 0, 1) := by decide +kernel
theorem d_law_164 : decode code 164 = .ok (.ireturn, 1) := by decide +kernel
theorem d_law_165 : decode code 165 = .ok (.aload_n 1, 1) := by decide +kernel
theorem d_law_166 : decode code 166 = .ok (.aload_n 0, 1) := by decide +kernel
theorem d_law_167 : decode code 167 = .ok (.iload 4, 2) := by decide +kernel
theorem d_law_169 : decode code 169 = .ok (.iconst 1, 1) := by decide +kernel
theorem d_law_170 : decode code 170 = .ok (.iadd, 1) := by decide +kernel
theorem d_law_171 : decode code 171 = .ok (.iaload, 1) := by decide +kernel
theorem d_law_172 : decode code 172 = .ok (.aload_n 0, 1) := by decide +kernel
theorem d_law_173 : decode code 173 = .ok (.iload 4, 2) := by decide +kernel
theorem d_law_175 : decode code 175 = .ok (.iconst 2, 1) := by decide +kernel
theorem d_law_176 : decode code 176 = .ok (.iadd, 1) := by decide +kernel
theorem d_law_177 : decode code 177 = .ok (.iaload, 1) := by decide +kernel
theorem d_law_178 : decode code 178 = .ok (.aload_n 0, 1) := by decide +kernel
theorem d_law_179 : decode code 179 = .ok (.iload 4, 2) := by decide +kernel
theorem d_law_181 : decode code 181 = .ok (.iconst 3, 1) := by decide +kernel
theorem d_law_182 : decode code 182 = .ok (.iadd, 1) := by decide +kernel
theorem d_law_183 : decode code 183 = .ok (.iaload, 1) := by decide +kernel
theorem d_law_184 : decode code 184 = .ok (.invokestatic 56, 3) := by decide +kernel
theorem d_law_187 : decode code 187 = .ok (.istore 5, 2) := by decide +kernel
theorem d_law_189 : decode code 189 = .ok (.aload_n 2, 1) := by decide +kernel
theorem d_law_190 : decode code 190 = .ok (.aload_n 0, 1) := by decide +kernel
theorem d_law_191 : decode code 191 = .ok (.iload 4, 2) := by decide +kernel
theorem d_law_193 : decode code 193 = .ok (.iconst 1, 1) := by decide +kernel
theorem d_law_194 : decode code 194 = .ok (.iadd, 1) := by decide +kernel
theorem d_law_195 : decode code 195 = .ok (.iaload, 1) := by decide +kernel
theorem d_law_196 : decode code 196 = .ok (.aload_n 0, 1) := by decide +kernel
theorem d_law_197 : decode code 197 = .ok (.iload 4, 2) := by decide +kernel
theorem d_law_199 : decode code 199 = .ok (.iconst 2, 1) := by decide +kernel
theorem d_law_200 : decode code 200 = .ok (.iadd, 1) := by decide +kernel
theorem d_law_201 : decode code 201 = .ok (.iaload, 1) := by decide +kernel
theorem d_law_202 : decode code 202 = .ok (.aload_n 0, 1) := by decide +kernel
theorem d_law_203 : decode code 203 = .ok (.iload 4, 2) := by decide +kernel
theorem d_law_205 : decode code 205 = .ok (.iconst 3, 1) := by decide +kernel
theorem d_law_206 : decode code 206 = .ok (.iadd, 1) := by decide +kernel
theorem d_law_207 : decode code 207 = .ok (.iaload, 1) := by decide +kernel
theorem d_law_208 : decode code 208 = .ok (.invokevirtual 59, 3) := by decide +kernel
theorem d_law_211 : decode code 211 = .ok (.aload_n 2, 1) := by decide +kernel
theorem d_law_212 : decode code 212 = .ok (.invokevirtual 48, 3) := by decide +kernel
theorem d_law_215 : decode code 215 = .ok (.iload 5, 2) := by decide +kernel
theorem d_law_217 : decode code 217 = .ok (.if_icmp .eq 5, 3) := by decide +kernel
theorem d_law_220 : decode code 220 = .ok (.iconst 0, 1) := by decide +kernel
theorem d_law_221 : decode code 221 = .ok (.ireturn, 1) := by decide +kernel
theorem d_law_222 : decode code 222 = .ok (.goto 331, 3) := by decide +kernel
theorem d_law_225 : decode code 225 = .ok (.aload_n 1, 1) := by decide +kernel
theorem d_law_226 : decode code 226 = .ok (.aload_n 0, 1) := by decide +kernel
theorem d_law_227 : decode code 227 = .ok (.iload 4, 2) := by decide +kernel
theorem d_law_229 : decode code 229 = .ok (.iconst 1, 1) := by decide +kernel
theorem d_law_230 : decode code 230 = .ok (.iadd, 1) := by decide +kernel
theorem d_law_231 : decode code 231 = .ok (.iaload, 1) := by decide +kernel
theorem d_law_232 : decode code 232 = .ok (.aload_n 0, 1) := by decide +kernel
theorem d_law_233 : decode code 233 = .ok (.iload 4, 2) := by decide +kernel
theorem d_law_235 : decode code 235 = .ok (.iconst 2, 1) := by decide +kernel
theorem d_law_236 : decode code 236 = .ok (.iadd, 1) := by decide +kernel
theorem d_law_237 : decode code 237 = .ok (.iaload, 1) := by decide +kernel
theorem d_law_238 : decode code 238 = .ok (.aload_n 0, 1) := by decide +kernel
theorem d_law_239 : decode code 239 = .ok (.iload 4, 2) := by decide +kernel
theorem d_law_241 : decode code 241 = .ok (.iconst 3, 1) := by decide +kernel
theorem d_law_242 : decode code 242 = .ok (.iadd, 1) := by decide +kernel
theorem d_law_243 : decode code 243 = .ok (.iaload, 1) := by decide +kernel
theorem d_law_244 : decode code 244 = .ok (.aload_n 3, 1) := by decide +kernel
theorem d_law_245 : decode code 245 = .ok (.invokestatic 60, 3) := by decide +kernel
theorem d_law_248 : decode code 248 = .ok (.istore 5, 2) := by decide +kernel
theorem d_law_250 : decode code 250 = .ok (.aload_n 2, 1) := by decide +kernel
theorem d_law_251 : decode code 251 = .ok (.aload_n 0, 1) := by decide +kernel
theorem d_law_252 : decode code 252 = .ok (.iload 4, 2) := by decide +kernel
theorem d_law_254 : decode code 254 = .ok (.iconst 1, 1) := by decide +kernel
theorem d_law_255 : decode code 255 = .ok (.iadd, 1) := by decide +kernel
theorem d_law_256 : decode code 256 = .ok (.iaload, 1) := by decide +kernel
theorem d_law_257 : decode code 257 = .ok (.aload_n 0, 1) := by decide +kernel
theorem d_law_258 : decode code 258 = .ok (.iload 4, 2) := by decide +kernel
theorem d_law_260 : decode code 260 = .ok (.iconst 2, 1) := by decide +kernel
theorem d_law_261 : decode code 261 = .ok (.iadd, 1) := by decide +kernel
theorem d_law_262 : decode code 262 = .ok (.iaload, 1) := by decide +kernel
theorem d_law_263 : decode code 263 = .ok (.aload_n 0, 1) := by decide +kernel
theorem d_law_264 : decode code 264 = .ok (.iload 4, 2) := by decide +kernel
theorem d_law_266 : decode code 266 = .ok (.iconst 3, 1) := by decide +kernel
theorem d_law_267 : decode code 267 = .ok (.iadd, 1) := by decide +kernel
theorem d_law_268 : decode code 268 = .ok (.iaload, 1) := by decide +kernel
theorem d_law_269 : decode code 269 = .ok (.invokevirtual 63, 3) := by decide +kernel
theorem d_law_272 : decode code 272 = .ok (.istore 6, 2) := by decide +kernel
theorem d_law_274 : decode code 274 = .ok (.aload_n 2, 1) := by decide +kernel
theorem d_law_275 : decode code 275 = .ok (.invokevirtual 48, 3) := by decide +kernel
theorem d_law_278 : decode code 278 = .ok (.iload 5, 2) := by decide +kernel
theorem d_law_280 : decode code 280 = .ok (.if_icmp .eq 5, 3) := by decide +kernel
theorem d_law_283 : decode code 283 = .ok (.iconst 0, 1) := by decide +kernel
theorem d_law_284 : decode code 284 = .ok (.ireturn, 1) := by decide +kernel
theorem d_law_285 : decode code 285 = .ok (.iload 5, 2) := by decide +kernel
theorem d_law_287 : decode code 287 = .ok (.ifCond .ne 15, 3) := by decide +kernel
theorem d_law_290 : decode code 290 = .ok (.aload_n 3, 1) := by decide +kernel
theorem d_law_291 : decode code 291 = .ok (.iconst 0, 1) := by decide +kernel
theorem d_law_292 : decode code 292 = .ok (.laload, 1) := by decide +kernel
theorem d_law_293 : decode code 293 = .ok (.iload 6, 2) := by decide +kernel
theorem d_law_295 : decode code 295 = .ok (.i2l, 1) := by decide +kernel
theorem d_law_296 : decode code 296 = .ok (.lcmp, 1) := by decide +kernel
theorem d_law_297 : decode code 297 = .ok (.ifCond .eq 5, 3) := by decide +kernel
theorem d_law_300 : decode code 300 = .ok (.iconst 0, 1) := by decide +kernel
theorem d_law_301 : decode code 301 = .ok (.ireturn, 1) := by decide +kernel
theorem d_law_302 : decode code 302 = .ok (.goto 251, 3) := by decide +kernel
theorem d_law_305 : decode code 305 = .ok (.aload_n 1, 1) := by decide +kernel
theorem d_law_306 : decode code 306 = .ok (.aload_n 0, 1) := by decide +kernel
theorem d_law_307 : decode code 307 = .ok (.iload 4, 2) := by decide +kernel
theorem d_law_309 : decode code 309 = .ok (.iconst 1, 1) := by decide +kernel
theorem d_law_310 : decode code 310 = .ok (.iadd, 1) := by decide +kernel
theorem d_law_311 : decode code 311 = .ok (.iaload, 1) := by decide +kernel
theorem d_law_312 : decode code 312 = .ok (.aload_n 3, 1) := by decide +kernel
theorem d_law_313 : decode code 313 = .ok (.invokestatic 64, 3) := by decide +kernel
theorem d_law_316 : decode code 316 = .ok (.istore 5, 2) := by decide +kernel
theorem d_law_318 : decode code 318 = .ok (.aload_n 2, 1) := by decide +kernel
theorem d_law_319 : decode code 319 = .ok (.aload_n 0, 1) := by decide +kernel
theorem d_law_320 : decode code 320 = .ok (.iload 4, 2) := by decide +kernel
theorem d_law_322 : decode code 322 = .ok (.iconst 1, 1) := by decide +kernel
theorem d_law_323 : decode code 323 = .ok (.iadd, 1) := by decide +kernel
theorem d_law_324 : decode code 324 = .ok (.iaload, 1) := by decide +kernel
theorem d_law_325 : decode code 325 = .ok (.invokevirtual 66, 3) := by decide +kernel
theorem d_law_328 : decode code 328 = .ok (.istore 6, 2) := by decide +kernel
theorem d_law_330 : decode code 330 = .ok (.aload_n 2, 1) := by decide +kernel
theorem d_law_331 : decode code 331 = .ok (.invokevirtual 48, 3) := by decide +kernel
theorem d_law_334 : decode code 334 = .ok (.iload 5, 2) := by decide +kernel
theorem d_law_336 : decode code 336 = .ok (.if_icmp .eq 5, 3) := by decide +kernel
theorem d_law_339 : decode code 339 = .ok (.iconst 0, 1) := by decide +kernel
theorem d_law_340 : decode code 340 = .ok (.ireturn, 1) := by decide +kernel
theorem d_law_341 : decode code 341 = .ok (.iload 5, 2) := by decide +kernel
theorem d_law_343 : decode code 343 = .ok (.ifCond .ne 15, 3) := by decide +kernel
theorem d_law_346 : decode code 346 = .ok (.aload_n 3, 1) := by decide +kernel
theorem d_law_347 : decode code 347 = .ok (.iconst 0, 1) := by decide +kernel
theorem d_law_348 : decode code 348 = .ok (.laload, 1) := by decide +kernel
theorem d_law_349 : decode code 349 = .ok (.iload 6, 2) := by decide +kernel
theorem d_law_351 : decode code 351 = .ok (.i2l, 1) := by decide +kernel
theorem d_law_352 : decode code 352 = .ok (.lcmp, 1) := by decide +kernel
theorem d_law_353 : decode code 353 = .ok (.ifCond .eq 5, 3) := by decide +kernel
theorem d_law_356 : decode code 356 = .ok (.iconst 0, 1) := by decide +kernel
theorem d_law_357 : decode code 357 = .ok (.ireturn, 1) := by decide +kernel
theorem d_law_358 : decode code 358 = .ok (.goto 195, 3) := by decide +kernel
theorem d_law_361 : decode code 361 = .ok (.aload_n 1, 1) := by decide +kernel
theorem d_law_362 : decode code 362 = .ok (.aload_n 0, 1) := by decide +kernel
theorem d_law_363 : decode code 363 = .ok (.iload 4, 2) := by decide +kernel
theorem d_law_365 : decode code 365 = .ok (.iconst 1, 1) := by decide +kernel
theorem d_law_366 : decode code 366 = .ok (.iadd, 1) := by decide +kernel
theorem d_law_367 : decode code 367 = .ok (.iaload, 1) := by decide +kernel
theorem d_law_368 : decode code 368 = .ok (.aload_n 3, 1) := by decide +kernel
theorem d_law_369 : decode code 369 = .ok (.invokestatic 67, 3) := by decide +kernel
theorem d_law_372 : decode code 372 = .ok (.istore 5, 2) := by decide +kernel
theorem d_law_374 : decode code 374 = .ok (.aload_n 2, 1) := by decide +kernel
theorem d_law_375 : decode code 375 = .ok (.aload_n 0, 1) := by decide +kernel
theorem d_law_376 : decode code 376 = .ok (.iload 4, 2) := by decide +kernel
theorem d_law_378 : decode code 378 = .ok (.iconst 1, 1) := by decide +kernel
theorem d_law_379 : decode code 379 = .ok (.iadd, 1) := by decide +kernel
theorem d_law_380 : decode code 380 = .ok (.iaload, 1) := by decide +kernel
theorem d_law_381 : decode code 381 = .ok (.invokevirtual 69, 3) := by decide +kernel
theorem d_law_384 : decode code 384 = .ok (.istore 6, 2) := by decide +kernel
theorem d_law_386 : decode code 386 = .ok (.aload_n 2, 1) := by decide +kernel
theorem d_law_387 : decode code 387 = .ok (.invokevirtual 48, 3) := by decide +kernel
theorem d_law_390 : decode code 390 = .ok (.iload 5, 2) := by decide +kernel
theorem d_law_392 : decode code 392 = .ok (.if_icmp .eq 5, 3) := by decide +kernel
theorem d_law_395 : decode code 395 = .ok (.iconst 0, 1) := by decide +kernel
theorem d_law_396 : decode code 396 = .ok (.ireturn, 1) := by decide +kernel
theorem d_law_397 : decode code 397 = .ok (.iload 5, 2) := by decide +kernel
theorem d_law_399 : decode code 399 = .ok (.ifCond .ne 15, 3) := by decide +kernel
theorem d_law_402 : decode code 402 = .ok (.aload_n 3, 1) := by decide +kernel
theorem d_law_403 : decode code 403 = .ok (.iconst 0, 1) := by decide +kernel
theorem d_law_404 : decode code 404 = .ok (.laload, 1) := by decide +kernel
theorem d_law_405 : decode code 405 = .ok (.iload 6, 2) := by decide +kernel
theorem d_law_407 : decode code 407 = .ok (.i2l, 1) := by decide +kernel
theorem d_law_408 : decode code 408 = .ok (.lcmp, 1) := by decide +kernel
theorem d_law_409 : decode code 409 = .ok (.ifCond .eq 5, 3) := by decide +kernel
theorem d_law_412 : decode code 412 = .ok (.iconst 0, 1) := by decide +kernel
theorem d_law_413 : decode code 413 = .ok (.ireturn, 1) := by decide +kernel
theorem d_law_414 : decode code 414 = .ok (.goto 139, 3) := by decide +kernel
theorem d_law_417 : decode code 417 = .ok (.aload_n 1, 1) := by decide +kernel
theorem d_law_418 : decode code 418 = .ok (.aload_n 0, 1) := by decide +kernel
theorem d_law_419 : decode code 419 = .ok (.iload 4, 2) := by decide +kernel
theorem d_law_421 : decode code 421 = .ok (.iconst 1, 1) := by decide +kernel
theorem d_law_422 : decode code 422 = .ok (.iadd, 1) := by decide +kernel
theorem d_law_423 : decode code 423 = .ok (.iaload, 1) := by decide +kernel
theorem d_law_424 : decode code 424 = .ok (.aload_n 0, 1) := by decide +kernel
theorem d_law_425 : decode code 425 = .ok (.iload 4, 2) := by decide +kernel
theorem d_law_427 : decode code 427 = .ok (.iconst 2, 1) := by decide +kernel
theorem d_law_428 : decode code 428 = .ok (.iadd, 1) := by decide +kernel
theorem d_law_429 : decode code 429 = .ok (.iaload, 1) := by decide +kernel
theorem d_law_430 : decode code 430 = .ok (.aload_n 3, 1) := by decide +kernel
theorem d_law_431 : decode code 431 = .ok (.invokestatic 70, 3) := by decide +kernel
theorem d_law_434 : decode code 434 = .ok (.istore 5, 2) := by decide +kernel
theorem d_law_436 : decode code 436 = .ok (.aload_n 2, 1) := by decide +kernel
theorem d_law_437 : decode code 437 = .ok (.aload_n 0, 1) := by decide +kernel
theorem d_law_438 : decode code 438 = .ok (.iload 4, 2) := by decide +kernel
theorem d_law_440 : decode code 440 = .ok (.iconst 1, 1) := by decide +kernel
theorem d_law_441 : decode code 441 = .ok (.iadd, 1) := by decide +kernel
theorem d_law_442 : decode code 442 = .ok (.iaload, 1) := by decide +kernel
theorem d_law_443 : decode code 443 = .ok (.aload_n 0, 1) := by decide +kernel
theorem d_law_444 : decode code 444 = .ok (.iload 4, 2) := by decide +kernel
theorem d_law_446 : decode code 446 = .ok (.iconst 2, 1) := by decide +kernel
theorem d_law_447 : decode code 447 = .ok (.iadd, 1) := by decide +kernel
theorem d_law_448 : decode code 448 = .ok (.iaload, 1) := by decide +kernel
theorem d_law_449 : decode code 449 = .ok (.invokevirtual 73, 3) := by decide +kernel
theorem d_law_452 : decode code 452 = .ok (.istore 6, 2) := by decide +kernel
theorem d_law_454 : decode code 454 = .ok (.aload_n 2, 1) := by decide +kernel
theorem d_law_455 : decode code 455 = .ok (.invokevirtual 48, 3) := by decide +kernel
theorem d_law_458 : decode code 458 = .ok (.iload 5, 2) := by decide +kernel
theorem d_law_460 : decode code 460 = .ok (.if_icmp .eq 5, 3) := by decide +kernel
theorem d_law_463 : decode code 463 = .ok (.iconst 0, 1) := by decide +kernel
theorem d_law_464 : decode code 464 = .ok (.ireturn, 1) := by decide +kernel
theorem d_law_465 : decode code 465 = .ok (.iload 5, 2) := by decide +kernel
theorem d_law_467 : decode code 467 = .ok (.ifCond .ne 15, 3) := by decide +kernel
theorem d_law_470 : decode code 470 = .ok (.aload_n 3, 1) := by decide +kernel
theorem d_law_471 : decode code 471 = .ok (.iconst 0, 1) := by decide +kernel
theorem d_law_472 : decode code 472 = .ok (.laload, 1) := by decide +kernel
theorem d_law_473 : decode code 473 = .ok (.iload 6, 2) := by decide +kernel
theorem d_law_475 : decode code 475 = .ok (.i2l, 1) := by decide +kernel
theorem d_law_476 : decode code 476 = .ok (.lcmp, 1) := by decide +kernel
theorem d_law_477 : decode code 477 = .ok (.ifCond .eq 5, 3) := by decide +kernel
theorem d_law_480 : decode code 480 = .ok (.iconst 0, 1) := by decide +kernel
theorem d_law_481 : decode code 481 = .ok (.ireturn, 1) := by decide +kernel
theorem d_law_482 : decode code 482 = .ok (.goto 71, 3) := by decide +kernel
theorem d_law_485 : decode code 485 = .ok (.aload_n 1, 1) := by decide +kernel
theorem d_law_486 : decode code 486 = .ok (.aload_n 0, 1) := by decide +kernel
theorem d_law_487 : decode code 487 = .ok (.iload 4, 2) := by decide +kernel
theorem d_law_489 : decode code 489 = .ok (.iconst 1, 1) := by decide +kernel
theorem d_law_490 : decode code 490 = .ok (.iadd, 1) := by decide +kernel
theorem d_law_491 : decode code 491 = .ok (.iaload, 1) := by decide +kernel
theorem d_law_492 : decode code 492 = .ok (.aload_n 0, 1) := by decide +kernel
theorem d_law_493 : decode code 493 = .ok (.iload 4, 2) := by decide +kernel
theorem d_law_495 : decode code 495 = .ok (.iconst 2, 1) := by decide +kernel
theorem d_law_496 : decode code 496 = .ok (.iadd, 1) := by decide +kernel
theorem d_law_497 : decode code 497 = .ok (.iaload, 1) := by decide +kernel
theorem d_law_498 : decode code 498 = .ok (.aload_n 3, 1) := by decide +kernel
theorem d_law_499 : decode code 499 = .ok (.invokestatic 74, 3) := by decide +kernel
theorem d_law_502 : decode code 502 = .ok (.istore 5, 2) := by decide +kernel
theorem d_law_504 : decode code 504 = .ok (.aload_n 2, 1) := by decide +kernel
theorem d_law_505 : decode code 505 = .ok (.aload_n 0, 1) := by decide +kernel
theorem d_law_506 : decode code 506 = .ok (.iload 4, 2) := by decide +kernel
theorem d_law_508 : decode code 508 = .ok (.iconst 1, 1) := by decide +kernel
theorem d_law_509 : decode code 509 = .ok (.iadd, 1) := by decide +kernel
theorem d_law_510 : decode code 510 = .ok (.iaload, 1) := by decide +kernel
theorem d_law_511 : decode code 511 = .ok (.aload_n 0, 1) := by decide +kernel
theorem d_law_512 : decode code 512 = .ok (.iload 4, 2) := by decide +kernel
theorem d_law_514 : decode code 514 = .ok (.iconst 2, 1) := by decide +kernel
theorem d_law_515 : decode code 515 = .ok (.iadd, 1) := by decide +kernel
theorem d_law_516 : decode code 516 = .ok (.iaload, 1) := by decide +kernel
theorem d_law_517 : decode code 517 = .ok (.invokevirtual 76, 3) := by decide +kernel
theorem d_law_520 : decode code 520 = .ok (.istore 6, 2) := by decide +kernel
theorem d_law_522 : decode code 522 = .ok (.aload_n 2, 1) := by decide +kernel
theorem d_law_523 : decode code 523 = .ok (.invokevirtual 48, 3) := by decide +kernel
theorem d_law_526 : decode code 526 = .ok (.iload 5, 2) := by decide +kernel
theorem d_law_528 : decode code 528 = .ok (.if_icmp .eq 5, 3) := by decide +kernel
theorem d_law_531 : decode code 531 = .ok (.iconst 0, 1) := by decide +kernel
theorem d_law_532 : decode code 532 = .ok (.ireturn, 1) := by decide +kernel
theorem d_law_533 : decode code 533 = .ok (.iload 5, 2) := by decide +kernel
theorem d_law_535 : decode code 535 = .ok (.ifCond .ne 15, 3) := by decide +kernel
theorem d_law_538 : decode code 538 = .ok (.aload_n 3, 1) := by decide +kernel
theorem d_law_539 : decode code 539 = .ok (.iconst 0, 1) := by decide +kernel
theorem d_law_540 : decode code 540 = .ok (.laload, 1) := by decide +kernel
theorem d_law_541 : decode code 541 = .ok (.iload 6, 2) := by decide +kernel
theorem d_law_543 : decode code 543 = .ok (.i2l, 1) := by decide +kernel
theorem d_law_544 : decode code 544 = .ok (.lcmp, 1) := by decide +kernel
theorem d_law_545 : decode code 545 = .ok (.ifCond .eq 5, 3) := by decide +kernel
theorem d_law_548 : decode code 548 = .ok (.iconst 0, 1) := by decide +kernel
theorem d_law_549 : decode code 549 = .ok (.ireturn, 1) := by decide +kernel
theorem d_law_550 : decode code 550 = .ok (.goto 3, 3) := by decide +kernel
theorem d_law_553 : decode code 553 = .ok (.iinc 4 4, 3) := by decide +kernel
theorem d_law_556 : decode code 556 = .ok (.goto (-533), 3) := by decide +kernel
theorem d_law_559 : decode code 559 = .ok (.iconst 1, 1) := by decide +kernel
theorem d_law_560 : decode code 560 = .ok (.ireturn, 1) := by decide +kernel
theorem zgoodS {own : String} {index : Nat} {y : MethodName} {b : ByteArray} {n : Nat} {r : Option FieldType} {hh : List (Nat × Nat × Nat × Nat)} (h1 : Cond.methodLink own index y ∈ zt) (h2 : Cond.static y ∈ zt) (h3 : Cond.initialized y.cls ∈ zt) (h4 : Cond.codeWith y b n r hh ∈ zt) : GoodIn zt (va_wsS own index y (Cond.codeWith y b n r hh :: zt)) := fun w hw => by
  have hm : w ∈ zt := by
    unfold va_wsS at hw
    rcases List.mem_append.mp hw with q | q
    · rcases List.mem_cons.mp q with e | q
      · rw [e]; exact h1
      · rcases List.mem_cons.mp q with e | q
        · rw [e]; exact h2
        · rcases List.mem_cons.mp q with e | q
          · rw [e]; exact h3
          · cases q
    · exact (List.mem_cons.mp q).elim (fun e => e ▸ h4) id
  exact ⟨hm, good_of_word (List.mem_filter.mp hm).2⟩
theorem w_L_take_st : Cond.static y_L_take ∈ zt := tb_at 231 (by decide +kernel)
theorem w_L_take_co : Cond.codeWith y_L_take b_L_take 4 (some .int) [(0, 9, 12, 13)] ∈ zt := tb_at 232 (by decide +kernel)
theorem w_L_take_cs {s : State} {args : Array Value} (hts : ∀ w ∈ zt, w.before args s = true) : vx_CSW room_1 s args R_L 42 y_L_take b_L_take 4 (some .int) [(0, 9, 12, 13)] (Cond.codeWith y_L_take b_L_take 4 (some .int) [(0, 9, 12, 13)] :: zt) { frames := 9, cells := 1, slots := 6, locals := 190 } 1 6 3 := vx_cwSW 3 hts (zgoodS k_L_42 w_L_take_st q_in_L w_L_take_co) rfl rfl rfl (by decide +kernel) ⟨Nat.le_of_ble_eq_true rfl, Nat.le_of_ble_eq_true rfl⟩
theorem w_L_ask_st : Cond.static y_L_ask ∈ zt := tb_at 319 (by decide +kernel)
theorem w_L_ask_co : Cond.codeWith y_L_ask b_L_ask 5 (some .int) [(0, 7, 10, 13)] ∈ zt := tb_at 320 (by decide +kernel)
theorem w_L_ask_cs {s : State} {args : Array Value} (hts : ∀ w ∈ zt, w.before args s = true) : vx_CSW room_1 s args R_L 56 y_L_ask b_L_ask 5 (some .int) [(0, 7, 10, 13)] (Cond.codeWith y_L_ask b_L_ask 5 (some .int) [(0, 7, 10, 13)] :: zt) { frames := 9, cells := 1, slots := 6, locals := 190 } 1 6 4 := vx_cwSW 4 hts (zgoodS k_L_56 w_L_ask_st q_in_L w_L_ask_co) rfl rfl rfl (by decide +kernel) ⟨Nat.le_of_ble_eq_true rfl, Nat.le_of_ble_eq_true rfl⟩
theorem w_L_power_st : Cond.static y_L_power ∈ zt := tb_at 338 (by decide +kernel)
theorem w_L_power_co : Cond.codeWith y_L_power b_L_power 6 (some .int) [(0, 12, 15, 13)] ∈ zt := tb_at 339 (by decide +kernel)
theorem w_L_power_cs {s : State} {args : Array Value} (hts : ∀ w ∈ zt, w.before args s = true) : vx_CSW room_1 s args R_L 60 y_L_power b_L_power 6 (some .int) [(0, 12, 15, 13)] (Cond.codeWith y_L_power b_L_power 6 (some .int) [(0, 12, 15, 13)] :: zt) { frames := 9, cells := 1, slots := 6, locals := 190 } 1 6 5 := vx_cwSW 5 hts (zgoodS k_L_60 w_L_power_st q_in_L w_L_power_co) rfl rfl rfl (by decide +kernel) ⟨Nat.le_of_ble_eq_true rfl, Nat.le_of_ble_eq_true rfl⟩
theorem w_L_sign_st : Cond.static y_L_sign ∈ zt := tb_at 354 (by decide +kernel)
theorem w_L_sign_co : Cond.codeWith y_L_sign b_L_sign 4 (some .int) [(0, 9, 12, 26)] ∈ zt := tb_at 355 (by decide +kernel)
theorem w_L_sign_cs {s : State} {args : Array Value} (hts : ∀ w ∈ zt, w.before args s = true) : vx_CSW room_1 s args R_L 64 y_L_sign b_L_sign 4 (some .int) [(0, 9, 12, 26)] (Cond.codeWith y_L_sign b_L_sign 4 (some .int) [(0, 9, 12, 26)] :: zt) { frames := 9, cells := 1, slots := 6, locals := 190 } 1 6 3 := vx_cwSW 3 hts (zgoodS k_L_64 w_L_sign_st q_in_L w_L_sign_co) rfl rfl rfl (by decide +kernel) ⟨Nat.le_of_ble_eq_true rfl, Nat.le_of_ble_eq_true rfl⟩
theorem w_L_bits_st : Cond.static y_L_bits ∈ zt := tb_at 382 (by decide +kernel)
theorem w_L_bits_co : Cond.codeWith y_L_bits b_L_bits 4 (some .int) [(0, 9, 12, 26)] ∈ zt := tb_at 383 (by decide +kernel)
theorem w_L_bits_cs {s : State} {args : Array Value} (hts : ∀ w ∈ zt, w.before args s = true) : vx_CSW room_1 s args R_L 67 y_L_bits b_L_bits 4 (some .int) [(0, 9, 12, 26)] (Cond.codeWith y_L_bits b_L_bits 4 (some .int) [(0, 9, 12, 26)] :: zt) { frames := 9, cells := 1, slots := 6, locals := 190 } 1 6 3 := vx_cwSW 3 hts (zgoodS k_L_67 w_L_bits_st q_in_L w_L_bits_co) rfl rfl rfl (by decide +kernel) ⟨Nat.le_of_ble_eq_true rfl, Nat.le_of_ble_eq_true rfl⟩
theorem w_L_word_st : Cond.static y_L_word ∈ zt := tb_at 389 (by decide +kernel)
theorem w_L_word_co : Cond.codeWith y_L_word b_L_word 5 (some .int) [(0, 10, 13, 26)] ∈ zt := tb_at 390 (by decide +kernel)
theorem w_L_word_cs {s : State} {args : Array Value} (hts : ∀ w ∈ zt, w.before args s = true) : vx_CSW room_1 s args R_L 70 y_L_word b_L_word 5 (some .int) [(0, 10, 13, 26)] (Cond.codeWith y_L_word b_L_word 5 (some .int) [(0, 10, 13, 26)] :: zt) { frames := 9, cells := 1, slots := 6, locals := 190 } 1 6 4 := vx_cwSW 4 hts (zgoodS k_L_70 w_L_word_st q_in_L w_L_word_co) rfl rfl rfl (by decide +kernel) ⟨Nat.le_of_ble_eq_true rfl, Nat.le_of_ble_eq_true rfl⟩
theorem w_L_residue_st : Cond.static y_L_residue ∈ zt := tb_at 398 (by decide +kernel)
theorem w_L_residue_co : Cond.codeWith y_L_residue b_L_residue 5 (some .int) [(0, 10, 13, 26), (0, 10, 17, 13)] ∈ zt := tb_at 399 (by decide +kernel)
theorem w_L_residue_cs {s : State} {args : Array Value} (hts : ∀ w ∈ zt, w.before args s = true) : vx_CSW room_1 s args R_L 74 y_L_residue b_L_residue 5 (some .int) [(0, 10, 13, 26), (0, 10, 17, 13)] (Cond.codeWith y_L_residue b_L_residue 5 (some .int) [(0, 10, 13, 26), (0, 10, 17, 13)] :: zt) { frames := 9, cells := 1, slots := 6, locals := 190 } 1 6 4 := vx_cwSW 4 hts (zgoodS k_L_74 w_L_residue_st q_in_L w_L_residue_co) rfl rfl rfl (by decide +kernel) ⟨Nat.le_of_ble_eq_true rfl, Nat.le_of_ble_eq_true rfl⟩
section LawCases
variable {p : Program} {l : Launch} {e : Env} {s : State} {m : MethodId} {below : List Frame} {meth : Method} {c : Code} {H : Heap} {locs : List Loc} {cells slots : Nat} {Q : State → Prop} {ls : Array Slot} {rest : List Value} {sa : Nat → Nat} {z : ZZ} {y : YM} {o : Nat} {cO : ClassId} {g : St} {h : SM} {f : Nat → Int64} {b L : Nat} {xs : Nat → Int32} {i : Int32} {d a0 b0 c0 : Int}
theorem lr_arg {cc : ByteArray} {pc : Nat} {j v : Int32} {n : Int} (hx : p.tables.exec = Jvm.exec) (hb : c.code = cc) (hX : va_X b L xs s s.heap) (hbl : b < s.heap.size) (hS : va_S (aL s) s.heap H locs) (hin : vp_in (i + j) L) (hv : xs (i + j).toNatClampNeg = v) (l0 : ls[0]? = some (.val (.ref b))) (l4 : ls[4]? = some (.val (.int i)))
    (d0 : decode cc pc = .ok (.aload_n 0, 1)) (d1 : decode cc (pc + 1) = .ok (.iload 4, 2)) (d3 : decode cc (pc + 3) = .ok (.iconst n, 1)) (hn : Int32.ofInt n = j) (d4 : decode cc (pc + 4) = .ok (.iadd, 1)) (d5 : decode cc (pc + 5) = .ok (.iaload, 1))
    (kk : W p l e room_1 s m #[Value.ref b] below meth c H locs cells slots Q (F0 m (pc + 6) ls (.int v :: rest))) : W p l e room_1 s m #[Value.ref b] below meth c H locs cells slots Q (F0 m pc ls rest) := by
  refine lv_aload_n hx hb d0 rfl l0 ?_
  refine lv_iload hx hb d1 l4 ?_
  refine lv_iconst hx hb d3 hn ?_
  refine lv_iadd hx hb d4 ?_
  refine va_sld hx hb hX hbl (Nat.not_le.mpr hbl) hS hin d5 ?_
  rw [hv]
  exact kk
/-- thrown, and the two answers -/
theorem lr_thr {pc : Nat} (hx : p.tables.exec = Jvm.exec) (hb : c.code = code) (hml : c.maxLocals = 7) (hown : s.vm.findClass R_L = some m.cls) (hts : ∀ w ∈ zt, w.before #[Value.ref b] s = true) (hF : lvF sa z y o cO s) (hP : lvP z y o cO g h f s H locs) (hsz : ls.size = 7) (l2 : ls[2]? = some (.val (.ref (oM y)))) {k : Int32} (l5 : ls[5]? = some (.val (.int k))) (hk : h.1 = k) (hce : cells ≤ 1057) (hsl : slots ≤ 25517)
    (d0 : decode code pc = .ok (.aload_n 2, 1)) (d1 : decode code (pc + 1) = .ok (.invokevirtual 48, 3)) (d4 : decode code (pc + 4) = .ok (.iload 5, 2)) (d6 : decode code (pc + 6) = .ok (.if_icmp .eq 5, 3))
    (kk : ∀ (H1 : Heap) (locs1 : List Loc), lvP z y o cO g h f s H1 locs1 → W p l e room_1 s m #[Value.ref b] below meth c H1 locs1 cells slots Q (F0 m (pc + 11) ls [])) : W p l e room_1 s m #[Value.ref b] below meth c H locs cells slots Q (F0 m pc ls []) := by
  refine lv_aload_n hx hb d0 rfl l2 ?_
  refine lc_mi hF hP (lc_mrun (As := []) (rest := []) hx hb hml hown hts hF hP (cm_thrown l y _ h) (w_M_thrown_cw hts k_L_48 rfl rfl ⟨Nat.le_of_ble_eq_true rfl, Nat.le_of_ble_eq_true rfl⟩) rfl hsz rfl (lv_room (Nat.le_of_ble_eq_true rfl)) d1 ⟨hce, hsl⟩) (fun r h1 H1 locs1 hp hP1 => ?_)
  obtain ⟨e1, e2⟩ := hp
  rw [e1] at hP1
  refine lv_iload hx hb d4 l5 ?_
  refine lv_icmp_eq (tgt := pc + 11) hx hb d6 (by omega) (fun _ => kk H1 locs1 hP1) (fun q => absurd (e2.trans hk) q)
theorem lr_two {pc : Nat} (hx : p.tables.exec = Jvm.exec) (hb : c.code = code) (hF : lvF sa z y o cO s) (hP : lvP z y o cO g h f s H locs) (l3 : ls[3]? = some (.val (.ref o))) {k b9 : Int32} (l5 : ls[5]? = some (.val (.int k))) (l6 : ls[6]? = some (.val (.int b9))) (hv : k = 0 → f 0 = b9.toInt64) {off : Int} (hof : ((pc + 17 : Nat) : Int) + off = (553 : Nat))
    (d0 : decode code pc = .ok (.iload 5, 2)) (d2 : decode code (pc + 2) = .ok (.ifCond .ne 15, 3)) (d5 : decode code (pc + 5) = .ok (.aload_n 3, 1)) (d6 : decode code (pc + 6) = .ok (.iconst 0, 1)) (d7 : decode code (pc + 7) = .ok (.laload, 1)) (d8 : decode code (pc + 8) = .ok (.iload 6, 2)) (d10 : decode code (pc + 10) = .ok (.i2l, 1)) (d11 : decode code (pc + 11) = .ok (.lcmp, 1)) (d12 : decode code (pc + 12) = .ok (.ifCond .eq 5, 3)) (d17 : decode code (pc + 17) = .ok (.goto off, 3))
    (kk : W p l e room_1 s m #[Value.ref b] below meth c H locs cells slots Q (F0 m 553 ls [])) : W p l e room_1 s m #[Value.ref b] below meth c H locs cells slots Q (F0 m pc ls []) := by
  have kg : W p l e room_1 s m #[Value.ref b] below meth c H locs cells slots Q (F0 m (pc + 17) ls []) := lv_goto (tgt := 553) hx hb d17 hof kk
  refine lv_iload hx hb d0 l5 ?_
  refine lv_if_ne (tgt := pc + 17) hx hb d2 (by omega) (fun _ => kg) (fun q => ?_)
  refine lv_aload_n hx hb d5 rfl l3 ?_
  refine lv_iconst (v := 0) hx hb d6 (by decide) ?_
  refine va_lald (D := z.1) hx hb hF.kz hP.1 22 10 rfl rfl (by show ¬ ((0 : Int32) < 0 ∨ 1 ≤ Int32.toNatClampNeg 0); decide) d7 ?_
  refine lv_iload hx hb d8 l6 ?_
  refine lv_i2l hx hb d10 rfl ?_
  refine W.lcmp hx hb d11 ?_
  refine lv_if_eq (tgt := pc + 17) hx hb d12 (by omega) (fun _ => kg) (fun w => ?_)
  exact absurd ((lg_cmp_eq _ _).mpr (hv q)) w
end LawCases
section LawCases2
variable {p : Program} {l : Launch} {e : Env} {s : State} {m : MethodId} {below : List Frame} {meth : Method} {c : Code} {H : Heap} {locs : List Loc} {cells slots : Nat} {Q : State → Prop} {ls : Array Slot} {rest : List Value} {sa : Nat → Nat} {z : ZZ} {y : YM} {o : Nat} {cO : ClassId} {g : St} {h : SM} {f : Nat → Int64} {b L : Nat} {xs : Nat → Int32} {i : Int32} {d a0 b0 c0 : Int}
set_option maxHeartbeats 4000000 in
set_option maxRecDepth 100000 in
theorem lk_take (hlt : l.stackTraces = false) (hx : p.tables.exec = Jvm.exec) (hb : c.code = code) (hml : c.maxLocals = 7) (hown : s.vm.findClass R_L = some m.cls) (hts : ∀ w ∈ zt, w.before #[Value.ref b] s = true) (hX : va_X b L xs s s.heap) (hbl : b < s.heap.size) (hF : lvF sa z y o cO s) (hin : ∀ j : Int32, 0 ≤ j.toInt → j.toInt ≤ 3 → vp_in (i + j) L) (hP : lvP z y o cO g h f s H locs) (hc : cS g d a0 b0 c0) (hm : mS h d a0 b0 c0) (hd : tk d) (hfo : fO d a0 b0 c0) (hl : lv_has ls 7 [(0, .ref b), (1, .ref (mA z)), (2, .ref (oM y)), (3, .ref o), (4, .int i)]) (hce : cells + 1 ≤ 1057) (hsl : slots + 6 ≤ 25517) (kk : ∀ (g1 : St) (h1 : SM) (f1 : Nat → Int64) (d1 a1 b1 c1 : Int) (H1 : Heap) (locs1 : List Loc) (ls1 : Array Slot), lvP z y o cO g1 h1 f1 s H1 locs1 → cS g1 d1 a1 b1 c1 → mS h1 d1 a1 b1 c1 → tk d1 → fO d1 a1 b1 c1 → lv_has ls1 7 [(0, .ref b), (1, .ref (mA z)), (2, .ref (oM y)), (3, .ref o), (4, .int i)] → W p l e room_1 s m #[Value.ref b] below meth c H1 locs1 (cells + 1) (slots + 6) Q (F0 m 553 ls1 [])) : W p l e room_1 s m #[Value.ref b] below meth c H locs cells slots Q (F0 m 84 ls []) := by
  obtain ⟨v1, e1⟩ : ∃ v, xs (i + 1).toNatClampNeg = v := ⟨_, rfl⟩
  have hq := st_eq hd hfo nt_all hc hm
  have hok : ∀ i, i < 8 → bOk (g.2.2.2 i) := fun i hi => (hq i hi).1
  refine lv_aload_n hx hb d_law_84 rfl (lv_at hl 1 rfl) ?_
  refine lr_arg hx hb hX hbl hP.2.2 (hin 1 (by decide) (by decide)) e1 (lv_at hl 0 rfl) (lv_at hl 4 rfl) d_law_85 d_law_86 d_law_88 (by decide) d_law_89 d_law_90 ?_
  refine lv_aload_n hx hb d_law_91 rfl (lv_at hl 3 rfl) ?_
  refine lc_wrap (As := [.ref (mA z), .int v1, .ref o]) (rest := []) hx hb hml hown hts hF hP (wl_take l hlt sa z _ g o cO f hF.zo v1) (w_L_take_cs hts) rfl hl.1 rfl (lv_room (Nat.le_of_ble_eq_true rfl)) d_law_92 ⟨hce, hsl⟩ (fun k u H1 locs1 hp hP => ?_)
  refine lv_istore (lv' := [(5, .int k), (0, .ref b), (1, .ref (mA z)), (2, .ref (oM y)), (3, .ref o), (4, .int i)]) hx hb d_law_95 hl (by decide) rfl (fun ls hl => ?_)
  refine lv_aload_n hx hb d_law_97 rfl (lv_at hl 3 rfl) ?_
  refine lr_arg hx hb hX hbl hP.2.2 (hin 1 (by decide) (by decide)) e1 (lv_at hl 1 rfl) (lv_at hl 5 rfl) d_law_98 d_law_99 d_law_101 (by decide) d_law_102 d_law_103 ?_
  refine lc_mi hF hP (lc_mrun (As := [.int v1]) (rest := []) hx hb hml hown hts hF hP (cm_take l y _ h v1 nt_all hm.2.2.2.1) (w_M_take_cw hts k_L_47 rfl rfl ⟨Nat.le_of_ble_eq_true rfl, Nat.le_of_ble_eq_true rfl⟩) rfl hl.1 rfl (lv_room (Nat.le_of_ble_eq_true rfl)) d_law_104 ⟨hce, hsl⟩) (fun b9 h1 H1 locs1 hr hP => ?_)
  refine lv_istore (lv' := [(6, .int b9), (5, .int k), (0, .ref b), (1, .ref (mA z)), (2, .ref (oM y)), (3, .ref o), (4, .int i)]) hx hb d_law_107 hl (by decide) rfl (fun ls hl => ?_)
  have hend : h1.1 = k → (k = 0 → u.2 0 = b9.toInt64) → ∀ (d1 a1 b1 c1 : Int), cS u.1 d1 a1 b1 c1 → mS h1 d1 a1 b1 c1 → tk d1 → fO d1 a1 b1 c1 → W p l e room_1 s m #[Value.ref b] below meth c H1 locs1 (cells + 1) (slots + 6) Q (F0 m 109 ls []) := fun w1 w2 d1 a1 b1 c1 w3 w4 w5 w6 => by
    refine lr_thr hx hb hml hown hts hF hP hl.1 (lv_at hl 4 rfl) (lv_at hl 1 rfl) w1 hce hsl d_law_109 d_law_110 d_law_113 d_law_115 (fun H2 locs2 hP2 => ?_)
    refine lr_two hx hb hF hP2 (lv_at hl 5 rfl) (lv_at hl 1 rfl) (lv_at hl 0 rfl) w2 (by decide) d_law_120 d_law_122 d_law_125 d_law_126 d_law_127 d_law_128 d_law_130 d_law_131 d_law_132 d_law_137 ?_
    exact kk _ _ _ _ _ _ _ _ _ _ hP2 w3 w4 w5 w6 (lv_sub hl [2, 3, 4, 5, 6] rfl)
  by_cases hk : tk v1.toInt
  · obtain ⟨p1, p2, p3⟩ := hp.1 hk
    obtain ⟨q1, q2, q3⟩ := hr.1 hk
    exact hend (q1.trans p1.symm) (fun _ => by rw [p3, q3, uO_uW hk nt_all]) _ _ _ _ p2 q2 hk (fO_first hk)
  · obtain ⟨p1, p2⟩ := hp.2 hk
    have q1 := hr.2 hk
    subst q1
    exact hend p1.symm (fun q => absurd (p1.symm.trans q) (by decide)) _ _ _ _ (by rw [p2]; exact hc) hm.code hd hfo
set_option maxHeartbeats 4000000 in
set_option maxRecDepth 100000 in
theorem lk_ask (hlt : l.stackTraces = false) (hx : p.tables.exec = Jvm.exec) (hb : c.code = code) (hml : c.maxLocals = 7) (hown : s.vm.findClass R_L = some m.cls) (hts : ∀ w ∈ zt, w.before #[Value.ref b] s = true) (hX : va_X b L xs s s.heap) (hbl : b < s.heap.size) (hF : lvF sa z y o cO s) (hin : ∀ j : Int32, 0 ≤ j.toInt → j.toInt ≤ 3 → vp_in (i + j) L) (hP : lvP z y o cO g h f s H locs) (hc : cS g d a0 b0 c0) (hm : mS h d a0 b0 c0) (hd : tk d) (hfo : fO d a0 b0 c0) (hl : lv_has ls 7 [(0, .ref b), (1, .ref (mA z)), (2, .ref (oM y)), (3, .ref o), (4, .int i)]) (hce : cells + 1 ≤ 1057) (hsl : slots + 6 ≤ 25517) (kk : ∀ (g1 : St) (h1 : SM) (f1 : Nat → Int64) (d1 a1 b1 c1 : Int) (H1 : Heap) (locs1 : List Loc) (ls1 : Array Slot), lvP z y o cO g1 h1 f1 s H1 locs1 → cS g1 d1 a1 b1 c1 → mS h1 d1 a1 b1 c1 → tk d1 → fO d1 a1 b1 c1 → lv_has ls1 7 [(0, .ref b), (1, .ref (mA z)), (2, .ref (oM y)), (3, .ref o), (4, .int i)] → W p l e room_1 s m #[Value.ref b] below meth c H1 locs1 (cells + 1) (slots + 6) Q (F0 m 553 ls1 [])) : W p l e room_1 s m #[Value.ref b] below meth c H locs cells slots Q (F0 m 165 ls []) := by
  obtain ⟨v1, e1⟩ : ∃ v, xs (i + 1).toNatClampNeg = v := ⟨_, rfl⟩
  obtain ⟨v2, e2⟩ : ∃ v, xs (i + 2).toNatClampNeg = v := ⟨_, rfl⟩
  obtain ⟨v3, e3⟩ : ∃ v, xs (i + 3).toNatClampNeg = v := ⟨_, rfl⟩
  have hq := st_eq hd hfo nt_all hc hm
  have hok : ∀ i, i < 8 → bOk (g.2.2.2 i) := fun i hi => (hq i hi).1
  refine lv_aload_n hx hb d_law_165 rfl (lv_at hl 1 rfl) ?_
  refine lr_arg hx hb hX hbl hP.2.2 (hin 1 (by decide) (by decide)) e1 (lv_at hl 0 rfl) (lv_at hl 4 rfl) d_law_166 d_law_167 d_law_169 (by decide) d_law_170 d_law_171 ?_
  refine lr_arg hx hb hX hbl hP.2.2 (hin 2 (by decide) (by decide)) e2 (lv_at hl 0 rfl) (lv_at hl 4 rfl) d_law_172 d_law_173 d_law_175 (by decide) d_law_176 d_law_177 ?_
  refine lr_arg hx hb hX hbl hP.2.2 (hin 3 (by decide) (by decide)) e3 (lv_at hl 0 rfl) (lv_at hl 4 rfl) d_law_178 d_law_179 d_law_181 (by decide) d_law_182 d_law_183 ?_
  refine lc_wrap (As := [.ref (mA z), .int v1, .int v2, .int v3]) (rest := []) hx hb hml hown hts hF hP (wl_ask l hlt sa z _ g o cO f hF.zo v1 v2 v3 hc) (w_L_ask_cs hts) rfl hl.1 rfl (lv_room (Nat.le_of_ble_eq_true rfl)) d_law_184 ⟨hce, hsl⟩ (fun k u H1 locs1 hp hP => ?_)
  refine lv_istore (lv' := [(5, .int k), (0, .ref b), (1, .ref (mA z)), (2, .ref (oM y)), (3, .ref o), (4, .int i)]) hx hb d_law_187 hl (by decide) rfl (fun ls hl => ?_)
  refine lv_aload_n hx hb d_law_189 rfl (lv_at hl 3 rfl) ?_
  refine lr_arg hx hb hX hbl hP.2.2 (hin 1 (by decide) (by decide)) e1 (lv_at hl 1 rfl) (lv_at hl 5 rfl) d_law_190 d_law_191 d_law_193 (by decide) d_law_194 d_law_195 ?_
  refine lr_arg hx hb hX hbl hP.2.2 (hin 2 (by decide) (by decide)) e2 (lv_at hl 1 rfl) (lv_at hl 5 rfl) d_law_196 d_law_197 d_law_199 (by decide) d_law_200 d_law_201 ?_
  refine lr_arg hx hb hX hbl hP.2.2 (hin 3 (by decide) (by decide)) e3 (lv_at hl 1 rfl) (lv_at hl 5 rfl) d_law_202 d_law_203 d_law_205 (by decide) d_law_206 d_law_207 ?_
  refine lc_mv hF hP (lc_mrun (As := [.int v1, .int v2, .int v3]) (rest := []) hx hb hml hown hts hF hP (cm_ask l y _ h v1 v2 v3 hd nt_all hm) (w_M_ask_cw hts k_L_59 rfl rfl ⟨Nat.le_of_ble_eq_true rfl, Nat.le_of_ble_eq_true rfl⟩) rfl hl.1 rfl (lv_room (Nat.le_of_ble_eq_true rfl)) d_law_208 ⟨hce, hsl⟩) (fun h1 H1 locs1 hr hP => ?_)
  have hend : h1.1 = k → ∀ (d1 a1 b1 c1 : Int), cS u.1 d1 a1 b1 c1 → mS h1 d1 a1 b1 c1 → tk d1 → fO d1 a1 b1 c1 → W p l e room_1 s m #[Value.ref b] below meth c H1 locs1 (cells + 1) (slots + 6) Q (F0 m 211 ls []) := fun w1 d1 a1 b1 c1 w3 w4 w5 w6 => by
    refine lr_thr hx hb hml hown hts hF hP hl.1 (lv_at hl 3 rfl) (lv_at hl 0 rfl) w1 hce hsl d_law_211 d_law_212 d_law_215 d_law_217 (fun H2 locs2 hP2 => ?_)
    refine lv_goto (tgt := 553) hx hb d_law_222 (by decide) ?_
    exact kk _ _ _ _ _ _ _ _ _ _ hP2 w3 w4 w5 w6 (lv_sub hl [1, 2, 3, 4, 5] rfl)
  by_cases hk : akOk d v1.toInt v2.toInt v3.toInt
  · obtain ⟨p1, p2⟩ := hp.1 hk
    obtain ⟨q1, q2⟩ := hr.1 hk
    exact hend (q1.trans p1.symm) _ _ _ _ p2 q2 hd (fO_ak hk)
  · obtain ⟨p1, p2⟩ := hp.2 hk
    have q1 := hr.2 hk
    subst q1
    exact hend p1.symm _ _ _ _ (by rw [p2]; exact hc) hm.code hd hfo
set_option maxHeartbeats 4000000 in
set_option maxRecDepth 100000 in
theorem lk_power (hlt : l.stackTraces = false) (hx : p.tables.exec = Jvm.exec) (hb : c.code = code) (hml : c.maxLocals = 7) (hown : s.vm.findClass R_L = some m.cls) (hts : ∀ w ∈ zt, w.before #[Value.ref b] s = true) (hX : va_X b L xs s s.heap) (hbl : b < s.heap.size) (hF : lvF sa z y o cO s) (hin : ∀ j : Int32, 0 ≤ j.toInt → j.toInt ≤ 3 → vp_in (i + j) L) (hP : lvP z y o cO g h f s H locs) (hc : cS g d a0 b0 c0) (hm : mS h d a0 b0 c0) (hd : tk d) (hfo : fO d a0 b0 c0) (hl : lv_has ls 7 [(0, .ref b), (1, .ref (mA z)), (2, .ref (oM y)), (3, .ref o), (4, .int i)]) (hce : cells + 1 ≤ 1057) (hsl : slots + 6 ≤ 25517) (kk : ∀ (g1 : St) (h1 : SM) (f1 : Nat → Int64) (d1 a1 b1 c1 : Int) (H1 : Heap) (locs1 : List Loc) (ls1 : Array Slot), lvP z y o cO g1 h1 f1 s H1 locs1 → cS g1 d1 a1 b1 c1 → mS h1 d1 a1 b1 c1 → tk d1 → fO d1 a1 b1 c1 → lv_has ls1 7 [(0, .ref b), (1, .ref (mA z)), (2, .ref (oM y)), (3, .ref o), (4, .int i)] → W p l e room_1 s m #[Value.ref b] below meth c H1 locs1 (cells + 1) (slots + 6) Q (F0 m 553 ls1 [])) : W p l e room_1 s m #[Value.ref b] below meth c H locs cells slots Q (F0 m 225 ls []) := by
  obtain ⟨v1, e1⟩ : ∃ v, xs (i + 1).toNatClampNeg = v := ⟨_, rfl⟩
  obtain ⟨v2, e2⟩ : ∃ v, xs (i + 2).toNatClampNeg = v := ⟨_, rfl⟩
  obtain ⟨v3, e3⟩ : ∃ v, xs (i + 3).toNatClampNeg = v := ⟨_, rfl⟩
  have hq := st_eq hd hfo nt_all hc hm
  have hok : ∀ i, i < 8 → bOk (g.2.2.2 i) := fun i hi => (hq i hi).1
  refine lv_aload_n hx hb d_law_225 rfl (lv_at hl 1 rfl) ?_
  refine lr_arg hx hb hX hbl hP.2.2 (hin 1 (by decide) (by decide)) e1 (lv_at hl 0 rfl) (lv_at hl 4 rfl) d_law_226 d_law_227 d_law_229 (by decide) d_law_230 d_law_231 ?_
  refine lr_arg hx hb hX hbl hP.2.2 (hin 2 (by decide) (by decide)) e2 (lv_at hl 0 rfl) (lv_at hl 4 rfl) d_law_232 d_law_233 d_law_235 (by decide) d_law_236 d_law_237 ?_
  refine lr_arg hx hb hX hbl hP.2.2 (hin 3 (by decide) (by decide)) e3 (lv_at hl 0 rfl) (lv_at hl 4 rfl) d_law_238 d_law_239 d_law_241 (by decide) d_law_242 d_law_243 ?_
  refine lv_aload_n hx hb d_law_244 rfl (lv_at hl 3 rfl) ?_
  refine lc_wrap (As := [.ref (mA z), .int v1, .int v2, .int v3, .ref o]) (rest := []) hx hb hml hown hts hF hP (wl_power l hlt sa z _ g o cO f hF.zo v1 v2 v3 (hok 0 (by decide)) (hok 1 (by decide)) ((hq 0 (by decide)).2.trans hm.2.2.2.2.1.1) ((hq 1 (by decide)).2.trans hm.2.2.2.2.1.2.1)) (w_L_power_cs hts) rfl hl.1 rfl (lv_room (Nat.le_of_ble_eq_true rfl)) d_law_245 ⟨hce, hsl⟩ (fun k u H1 locs1 hp hP => ?_)
  refine lv_istore (lv' := [(5, .int k), (0, .ref b), (1, .ref (mA z)), (2, .ref (oM y)), (3, .ref o), (4, .int i)]) hx hb d_law_248 hl (by decide) rfl (fun ls hl => ?_)
  refine lv_aload_n hx hb d_law_250 rfl (lv_at hl 3 rfl) ?_
  refine lr_arg hx hb hX hbl hP.2.2 (hin 1 (by decide) (by decide)) e1 (lv_at hl 1 rfl) (lv_at hl 5 rfl) d_law_251 d_law_252 d_law_254 (by decide) d_law_255 d_law_256 ?_
  refine lr_arg hx hb hX hbl hP.2.2 (hin 2 (by decide) (by decide)) e2 (lv_at hl 1 rfl) (lv_at hl 5 rfl) d_law_257 d_law_258 d_law_260 (by decide) d_law_261 d_law_262 ?_
  refine lr_arg hx hb hX hbl hP.2.2 (hin 3 (by decide) (by decide)) e3 (lv_at hl 1 rfl) (lv_at hl 5 rfl) d_law_263 d_law_264 d_law_266 (by decide) d_law_267 d_law_268 ?_
  refine lc_mi hF hP (lc_mrun (As := [.int v1, .int v2, .int v3]) (rest := []) hx hb hml hown hts hF hP (cm_power l y _ h v1 v2 v3 hm) (w_M_power_cw hts k_L_63 rfl rfl ⟨Nat.le_of_ble_eq_true rfl, Nat.le_of_ble_eq_true rfl⟩) rfl hl.1 rfl (lv_room (Nat.le_of_ble_eq_true rfl)) d_law_269 ⟨hce, hsl⟩) (fun b9 h1 H1 locs1 hr hP => ?_)
  refine lv_istore (lv' := [(6, .int b9), (5, .int k), (0, .ref b), (1, .ref (mA z)), (2, .ref (oM y)), (3, .ref o), (4, .int i)]) hx hb d_law_272 hl (by decide) rfl (fun ls hl => ?_)
  have hend : h1.1 = k → (k = 0 → u.2 0 = b9.toInt64) → ∀ (d1 a1 b1 c1 : Int), cS u.1 d1 a1 b1 c1 → mS h1 d1 a1 b1 c1 → tk d1 → fO d1 a1 b1 c1 → W p l e room_1 s m #[Value.ref b] below meth c H1 locs1 (cells + 1) (slots + 6) Q (F0 m 274 ls []) := fun w1 w2 d1 a1 b1 c1 w3 w4 w5 w6 => by
    refine lr_thr hx hb hml hown hts hF hP hl.1 (lv_at hl 4 rfl) (lv_at hl 1 rfl) w1 hce hsl d_law_274 d_law_275 d_law_278 d_law_280 (fun H2 locs2 hP2 => ?_)
    refine lr_two hx hb hF hP2 (lv_at hl 5 rfl) (lv_at hl 1 rfl) (lv_at hl 0 rfl) w2 (by decide) d_law_285 d_law_287 d_law_290 d_law_291 d_law_292 d_law_293 d_law_295 d_law_296 d_law_297 d_law_302 ?_
    exact kk _ _ _ _ _ _ _ _ _ _ hP2 w3 w4 w5 w6 (lv_sub hl [2, 3, 4, 5, 6] rfl)
  by_cases hk : 0 ≤ v1.toInt ∧ 1 ≤ v2.toInt ∧ (0 ≤ v3.toInt ∧ v3.toInt ≤ 1)
  · obtain ⟨p1, p2, x, p3, p4⟩ := hp.1 hk
    obtain ⟨q1, q2, q3⟩ := hr.1 hk
    exact hend (q1.trans p1.symm) (fun _ => by rw [p3, Int32.toInt_inj.mp (p4.trans q3.symm)]) _ _ _ _ (by rw [p2]; exact hc) q2 hd hfo
  · obtain ⟨p1, p2⟩ := hp.2 hk
    have q1 := hr.2 hk
    subst q1
    exact hend p1.symm (fun q => absurd (p1.symm.trans q) (by decide)) _ _ _ _ (by rw [p2]; exact hc) hm.code hd hfo
set_option maxHeartbeats 4000000 in
set_option maxRecDepth 100000 in
theorem lk_sign (hlt : l.stackTraces = false) (hx : p.tables.exec = Jvm.exec) (hb : c.code = code) (hml : c.maxLocals = 7) (hown : s.vm.findClass R_L = some m.cls) (hts : ∀ w ∈ zt, w.before #[Value.ref b] s = true) (hX : va_X b L xs s s.heap) (hbl : b < s.heap.size) (hF : lvF sa z y o cO s) (hin : ∀ j : Int32, 0 ≤ j.toInt → j.toInt ≤ 3 → vp_in (i + j) L) (hP : lvP z y o cO g h f s H locs) (hc : cS g d a0 b0 c0) (hm : mS h d a0 b0 c0) (hd : tk d) (hfo : fO d a0 b0 c0) (hl : lv_has ls 7 [(0, .ref b), (1, .ref (mA z)), (2, .ref (oM y)), (3, .ref o), (4, .int i)]) (hce : cells + 1 ≤ 1057) (hsl : slots + 6 ≤ 25517) (kk : ∀ (g1 : St) (h1 : SM) (f1 : Nat → Int64) (d1 a1 b1 c1 : Int) (H1 : Heap) (locs1 : List Loc) (ls1 : Array Slot), lvP z y o cO g1 h1 f1 s H1 locs1 → cS g1 d1 a1 b1 c1 → mS h1 d1 a1 b1 c1 → tk d1 → fO d1 a1 b1 c1 → lv_has ls1 7 [(0, .ref b), (1, .ref (mA z)), (2, .ref (oM y)), (3, .ref o), (4, .int i)] → W p l e room_1 s m #[Value.ref b] below meth c H1 locs1 (cells + 1) (slots + 6) Q (F0 m 553 ls1 [])) : W p l e room_1 s m #[Value.ref b] below meth c H locs cells slots Q (F0 m 305 ls []) := by
  obtain ⟨v1, e1⟩ : ∃ v, xs (i + 1).toNatClampNeg = v := ⟨_, rfl⟩
  have hq := st_eq hd hfo nt_all hc hm
  have hok : ∀ i, i < 8 → bOk (g.2.2.2 i) := fun i hi => (hq i hi).1
  refine lv_aload_n hx hb d_law_305 rfl (lv_at hl 1 rfl) ?_
  refine lr_arg hx hb hX hbl hP.2.2 (hin 1 (by decide) (by decide)) e1 (lv_at hl 0 rfl) (lv_at hl 4 rfl) d_law_306 d_law_307 d_law_309 (by decide) d_law_310 d_law_311 ?_
  refine lv_aload_n hx hb d_law_312 rfl (lv_at hl 3 rfl) ?_
  refine lc_wrap (As := [.ref (mA z), .int v1, .ref o]) (rest := []) hx hb hml hown hts hF hP (wl_sign l hlt sa z _ g o cO f hF.zo v1 hok) (w_L_sign_cs hts) rfl hl.1 rfl (lv_room (Nat.le_of_ble_eq_true rfl)) d_law_313 ⟨hce, hsl⟩ (fun k u H1 locs1 hp hP => ?_)
  refine lv_istore (lv' := [(5, .int k), (0, .ref b), (1, .ref (mA z)), (2, .ref (oM y)), (3, .ref o), (4, .int i)]) hx hb d_law_316 hl (by decide) rfl (fun ls hl => ?_)
  refine lv_aload_n hx hb d_law_318 rfl (lv_at hl 3 rfl) ?_
  refine lr_arg hx hb hX hbl hP.2.2 (hin 1 (by decide) (by decide)) e1 (lv_at hl 1 rfl) (lv_at hl 5 rfl) d_law_319 d_law_320 d_law_322 (by decide) d_law_323 d_law_324 ?_
  refine lc_mi hF hP (lc_mrun (As := [.int v1]) (rest := []) hx hb hml hown hts hF hP (cm_sign l y _ h v1 hm.2.2.2.1) (w_M_sign_cw hts k_L_66 rfl rfl ⟨Nat.le_of_ble_eq_true rfl, Nat.le_of_ble_eq_true rfl⟩) rfl hl.1 rfl (lv_room (Nat.le_of_ble_eq_true rfl)) d_law_325 ⟨hce, hsl⟩) (fun b9 h1 H1 locs1 hr hP => ?_)
  refine lv_istore (lv' := [(6, .int b9), (5, .int k), (0, .ref b), (1, .ref (mA z)), (2, .ref (oM y)), (3, .ref o), (4, .int i)]) hx hb d_law_328 hl (by decide) rfl (fun ls hl => ?_)
  have hend : h1.1 = k → (k = 0 → u.2 0 = b9.toInt64) → ∀ (d1 a1 b1 c1 : Int), cS u.1 d1 a1 b1 c1 → mS h1 d1 a1 b1 c1 → tk d1 → fO d1 a1 b1 c1 → W p l e room_1 s m #[Value.ref b] below meth c H1 locs1 (cells + 1) (slots + 6) Q (F0 m 330 ls []) := fun w1 w2 d1 a1 b1 c1 w3 w4 w5 w6 => by
    refine lr_thr hx hb hml hown hts hF hP hl.1 (lv_at hl 4 rfl) (lv_at hl 1 rfl) w1 hce hsl d_law_330 d_law_331 d_law_334 d_law_336 (fun H2 locs2 hP2 => ?_)
    refine lr_two hx hb hF hP2 (lv_at hl 5 rfl) (lv_at hl 1 rfl) (lv_at hl 0 rfl) w2 (by decide) d_law_341 d_law_343 d_law_346 d_law_347 d_law_348 d_law_349 d_law_351 d_law_352 d_law_353 d_law_358 ?_
    exact kk _ _ _ _ _ _ _ _ _ _ hP2 w3 w4 w5 w6 (lv_sub hl [2, 3, 4, 5, 6] rfl)
  by_cases hk : 0 ≤ v1.toInt ∧ v1.toInt ≤ 7
  · obtain ⟨p1, p2, p3⟩ := hp.1 hk
    obtain ⟨t1, t2⟩ := hq v1.toInt.toNat (by omega)
    obtain ⟨q1, q2⟩ := hr.1 hk
    subst q1
    exact hend p1.symm (fun _ => by rw [p3, Int32.toInt_inj.mp ((bz_sign t1).trans (by rw [t2, ← q2]))]) _ _ _ _ (by rw [p2]; exact hc) hm.code hd hfo
  · obtain ⟨p1, p2⟩ := hp.2 hk
    have q1 := hr.2 hk
    subst q1
    exact hend p1.symm (fun q => absurd (p1.symm.trans q) (by decide)) _ _ _ _ (by rw [p2]; exact hc) hm.code hd hfo
set_option maxHeartbeats 4000000 in
set_option maxRecDepth 100000 in
theorem lk_bits (hlt : l.stackTraces = false) (hx : p.tables.exec = Jvm.exec) (hb : c.code = code) (hml : c.maxLocals = 7) (hown : s.vm.findClass R_L = some m.cls) (hts : ∀ w ∈ zt, w.before #[Value.ref b] s = true) (hX : va_X b L xs s s.heap) (hbl : b < s.heap.size) (hF : lvF sa z y o cO s) (hin : ∀ j : Int32, 0 ≤ j.toInt → j.toInt ≤ 3 → vp_in (i + j) L) (hP : lvP z y o cO g h f s H locs) (hc : cS g d a0 b0 c0) (hm : mS h d a0 b0 c0) (hd : tk d) (hfo : fO d a0 b0 c0) (hl : lv_has ls 7 [(0, .ref b), (1, .ref (mA z)), (2, .ref (oM y)), (3, .ref o), (4, .int i)]) (hce : cells + 1 ≤ 1057) (hsl : slots + 6 ≤ 25517) (kk : ∀ (g1 : St) (h1 : SM) (f1 : Nat → Int64) (d1 a1 b1 c1 : Int) (H1 : Heap) (locs1 : List Loc) (ls1 : Array Slot), lvP z y o cO g1 h1 f1 s H1 locs1 → cS g1 d1 a1 b1 c1 → mS h1 d1 a1 b1 c1 → tk d1 → fO d1 a1 b1 c1 → lv_has ls1 7 [(0, .ref b), (1, .ref (mA z)), (2, .ref (oM y)), (3, .ref o), (4, .int i)] → W p l e room_1 s m #[Value.ref b] below meth c H1 locs1 (cells + 1) (slots + 6) Q (F0 m 553 ls1 [])) : W p l e room_1 s m #[Value.ref b] below meth c H locs cells slots Q (F0 m 361 ls []) := by
  obtain ⟨v1, e1⟩ : ∃ v, xs (i + 1).toNatClampNeg = v := ⟨_, rfl⟩
  have hq := st_eq hd hfo nt_all hc hm
  have hok : ∀ i, i < 8 → bOk (g.2.2.2 i) := fun i hi => (hq i hi).1
  refine lv_aload_n hx hb d_law_361 rfl (lv_at hl 1 rfl) ?_
  refine lr_arg hx hb hX hbl hP.2.2 (hin 1 (by decide) (by decide)) e1 (lv_at hl 0 rfl) (lv_at hl 4 rfl) d_law_362 d_law_363 d_law_365 (by decide) d_law_366 d_law_367 ?_
  refine lv_aload_n hx hb d_law_368 rfl (lv_at hl 3 rfl) ?_
  refine lc_wrap (As := [.ref (mA z), .int v1, .ref o]) (rest := []) hx hb hml hown hts hF hP (wl_bits l hlt sa z _ g o cO f hF.zo v1 hok) (w_L_bits_cs hts) rfl hl.1 rfl (lv_room (Nat.le_of_ble_eq_true rfl)) d_law_369 ⟨hce, hsl⟩ (fun k u H1 locs1 hp hP => ?_)
  refine lv_istore (lv' := [(5, .int k), (0, .ref b), (1, .ref (mA z)), (2, .ref (oM y)), (3, .ref o), (4, .int i)]) hx hb d_law_372 hl (by decide) rfl (fun ls hl => ?_)
  refine lv_aload_n hx hb d_law_374 rfl (lv_at hl 3 rfl) ?_
  refine lr_arg hx hb hX hbl hP.2.2 (hin 1 (by decide) (by decide)) e1 (lv_at hl 1 rfl) (lv_at hl 5 rfl) d_law_375 d_law_376 d_law_378 (by decide) d_law_379 d_law_380 ?_
  refine lc_mi hF hP (lc_mrun (As := [.int v1]) (rest := []) hx hb hml hown hts hF hP (cm_bits l y _ h v1 hm.2.2.2.1) (w_M_bits_cw hts k_L_69 rfl rfl ⟨Nat.le_of_ble_eq_true rfl, Nat.le_of_ble_eq_true rfl⟩) rfl hl.1 rfl (lv_room (Nat.le_of_ble_eq_true rfl)) d_law_381 ⟨hce, hsl⟩) (fun b9 h1 H1 locs1 hr hP => ?_)
  refine lv_istore (lv' := [(6, .int b9), (5, .int k), (0, .ref b), (1, .ref (mA z)), (2, .ref (oM y)), (3, .ref o), (4, .int i)]) hx hb d_law_384 hl (by decide) rfl (fun ls hl => ?_)
  have hend : h1.1 = k → (k = 0 → u.2 0 = b9.toInt64) → ∀ (d1 a1 b1 c1 : Int), cS u.1 d1 a1 b1 c1 → mS h1 d1 a1 b1 c1 → tk d1 → fO d1 a1 b1 c1 → W p l e room_1 s m #[Value.ref b] below meth c H1 locs1 (cells + 1) (slots + 6) Q (F0 m 386 ls []) := fun w1 w2 d1 a1 b1 c1 w3 w4 w5 w6 => by
    refine lr_thr hx hb hml hown hts hF hP hl.1 (lv_at hl 4 rfl) (lv_at hl 1 rfl) w1 hce hsl d_law_386 d_law_387 d_law_390 d_law_392 (fun H2 locs2 hP2 => ?_)
    refine lr_two hx hb hF hP2 (lv_at hl 5 rfl) (lv_at hl 1 rfl) (lv_at hl 0 rfl) w2 (by decide) d_law_397 d_law_399 d_law_402 d_law_403 d_law_404 d_law_405 d_law_407 d_law_408 d_law_409 d_law_414 ?_
    exact kk _ _ _ _ _ _ _ _ _ _ hP2 w3 w4 w5 w6 (lv_sub hl [2, 3, 4, 5, 6] rfl)
  by_cases hk : 0 ≤ v1.toInt ∧ v1.toInt ≤ 7
  · obtain ⟨p1, p2, p3⟩ := hp.1 hk
    obtain ⟨t1, t2⟩ := hq v1.toInt.toNat (by omega)
    obtain ⟨⟨f9, q1, q2, q3⟩, q4⟩ := hr.1 hk
    subst q1
    exact hend p1.symm (fun _ => by rw [p3, q4, ← t2, bz_abs]) _ _ _ _ (by rw [p2]; exact hc) (mS.keep (g := mC h 0) hm.code q2 q3) hd hfo
  · obtain ⟨p1, p2⟩ := hp.2 hk
    have q1 := hr.2 hk
    subst q1
    exact hend p1.symm (fun q => absurd (p1.symm.trans q) (by decide)) _ _ _ _ (by rw [p2]; exact hc) hm.code hd hfo
set_option maxHeartbeats 4000000 in
set_option maxRecDepth 100000 in
theorem lk_word (hlt : l.stackTraces = false) (hx : p.tables.exec = Jvm.exec) (hb : c.code = code) (hml : c.maxLocals = 7) (hown : s.vm.findClass R_L = some m.cls) (hts : ∀ w ∈ zt, w.before #[Value.ref b] s = true) (hX : va_X b L xs s s.heap) (hbl : b < s.heap.size) (hF : lvF sa z y o cO s) (hin : ∀ j : Int32, 0 ≤ j.toInt → j.toInt ≤ 3 → vp_in (i + j) L) (hP : lvP z y o cO g h f s H locs) (hc : cS g d a0 b0 c0) (hm : mS h d a0 b0 c0) (hd : tk d) (hfo : fO d a0 b0 c0) (hl : lv_has ls 7 [(0, .ref b), (1, .ref (mA z)), (2, .ref (oM y)), (3, .ref o), (4, .int i)]) (hce : cells + 1 ≤ 1057) (hsl : slots + 6 ≤ 25517) (kk : ∀ (g1 : St) (h1 : SM) (f1 : Nat → Int64) (d1 a1 b1 c1 : Int) (H1 : Heap) (locs1 : List Loc) (ls1 : Array Slot), lvP z y o cO g1 h1 f1 s H1 locs1 → cS g1 d1 a1 b1 c1 → mS h1 d1 a1 b1 c1 → tk d1 → fO d1 a1 b1 c1 → lv_has ls1 7 [(0, .ref b), (1, .ref (mA z)), (2, .ref (oM y)), (3, .ref o), (4, .int i)] → W p l e room_1 s m #[Value.ref b] below meth c H1 locs1 (cells + 1) (slots + 6) Q (F0 m 553 ls1 [])) : W p l e room_1 s m #[Value.ref b] below meth c H locs cells slots Q (F0 m 417 ls []) := by
  obtain ⟨v1, e1⟩ : ∃ v, xs (i + 1).toNatClampNeg = v := ⟨_, rfl⟩
  obtain ⟨v2, e2⟩ : ∃ v, xs (i + 2).toNatClampNeg = v := ⟨_, rfl⟩
  have hq := st_eq hd hfo nt_all hc hm
  have hok : ∀ i, i < 8 → bOk (g.2.2.2 i) := fun i hi => (hq i hi).1
  refine lv_aload_n hx hb d_law_417 rfl (lv_at hl 1 rfl) ?_
  refine lr_arg hx hb hX hbl hP.2.2 (hin 1 (by decide) (by decide)) e1 (lv_at hl 0 rfl) (lv_at hl 4 rfl) d_law_418 d_law_419 d_law_421 (by decide) d_law_422 d_law_423 ?_
  refine lr_arg hx hb hX hbl hP.2.2 (hin 2 (by decide) (by decide)) e2 (lv_at hl 0 rfl) (lv_at hl 4 rfl) d_law_424 d_law_425 d_law_427 (by decide) d_law_428 d_law_429 ?_
  refine lv_aload_n hx hb d_law_430 rfl (lv_at hl 3 rfl) ?_
  refine lc_wrap (As := [.ref (mA z), .int v1, .int v2, .ref o]) (rest := []) hx hb hml hown hts hF hP (wl_word l hlt sa z _ g o cO f hF.zo v1 v2 hok) (w_L_word_cs hts) rfl hl.1 rfl (lv_room (Nat.le_of_ble_eq_true rfl)) d_law_431 ⟨hce, hsl⟩ (fun k u H1 locs1 hp hP => ?_)
  refine lv_istore (lv' := [(5, .int k), (0, .ref b), (1, .ref (mA z)), (2, .ref (oM y)), (3, .ref o), (4, .int i)]) hx hb d_law_434 hl (by decide) rfl (fun ls hl => ?_)
  refine lv_aload_n hx hb d_law_436 rfl (lv_at hl 3 rfl) ?_
  refine lr_arg hx hb hX hbl hP.2.2 (hin 1 (by decide) (by decide)) e1 (lv_at hl 1 rfl) (lv_at hl 5 rfl) d_law_437 d_law_438 d_law_440 (by decide) d_law_441 d_law_442 ?_
  refine lr_arg hx hb hX hbl hP.2.2 (hin 2 (by decide) (by decide)) e2 (lv_at hl 1 rfl) (lv_at hl 5 rfl) d_law_443 d_law_444 d_law_446 (by decide) d_law_447 d_law_448 ?_
  refine lc_mi hF hP (lc_mrun (As := [.int v1, .int v2]) (rest := []) hx hb hml hown hts hF hP (cm_word l y _ h v1 v2 hm.2.2.2.1) (w_M_word_cw hts k_L_73 rfl rfl ⟨Nat.le_of_ble_eq_true rfl, Nat.le_of_ble_eq_true rfl⟩) rfl hl.1 rfl (lv_room (Nat.le_of_ble_eq_true rfl)) d_law_449 ⟨hce, hsl⟩) (fun b9 h1 H1 locs1 hr hP => ?_)
  refine lv_istore (lv' := [(6, .int b9), (5, .int k), (0, .ref b), (1, .ref (mA z)), (2, .ref (oM y)), (3, .ref o), (4, .int i)]) hx hb d_law_452 hl (by decide) rfl (fun ls hl => ?_)
  have hend : h1.1 = k → (k = 0 → u.2 0 = b9.toInt64) → ∀ (d1 a1 b1 c1 : Int), cS u.1 d1 a1 b1 c1 → mS h1 d1 a1 b1 c1 → tk d1 → fO d1 a1 b1 c1 → W p l e room_1 s m #[Value.ref b] below meth c H1 locs1 (cells + 1) (slots + 6) Q (F0 m 454 ls []) := fun w1 w2 d1 a1 b1 c1 w3 w4 w5 w6 => by
    refine lr_thr hx hb hml hown hts hF hP hl.1 (lv_at hl 4 rfl) (lv_at hl 1 rfl) w1 hce hsl d_law_454 d_law_455 d_law_458 d_law_460 (fun H2 locs2 hP2 => ?_)
    refine lr_two hx hb hF hP2 (lv_at hl 5 rfl) (lv_at hl 1 rfl) (lv_at hl 0 rfl) w2 (by decide) d_law_465 d_law_467 d_law_470 d_law_471 d_law_472 d_law_473 d_law_475 d_law_476 d_law_477 d_law_482 ?_
    exact kk _ _ _ _ _ _ _ _ _ _ hP2 w3 w4 w5 w6 (lv_sub hl [2, 3, 4, 5, 6] rfl)
  by_cases hk : (0 ≤ v1.toInt ∧ v1.toInt ≤ 7) ∧ (0 ≤ v2.toInt ∧ v2.toInt ≤ 511)
  · obtain ⟨p1, p2, x, p3, p4⟩ := hp.1 hk
    obtain ⟨t1, t2⟩ := hq v1.toInt.toNat (by omega)
    obtain ⟨⟨f9, q1, q2, q3⟩, q4⟩ := hr.1 hk
    subst q1
    exact hend p1.symm (fun _ => by rw [p3, wn_inj (p4.trans (by rw [q4, ← t2, bz_abs]))]) _ _ _ _ (by rw [p2]; exact hc) (mS.keep (g := mC h 0) hm.code q2 q3) hd hfo
  · obtain ⟨p1, p2⟩ := hp.2 hk
    have q1 := hr.2 hk
    subst q1
    exact hend p1.symm (fun q => absurd (p1.symm.trans q) (by decide)) _ _ _ _ (by rw [p2]; exact hc) hm.code hd hfo
set_option maxHeartbeats 4000000 in
set_option maxRecDepth 100000 in
theorem lk_residue (hlt : l.stackTraces = false) (hx : p.tables.exec = Jvm.exec) (hb : c.code = code) (hml : c.maxLocals = 7) (hown : s.vm.findClass R_L = some m.cls) (hts : ∀ w ∈ zt, w.before #[Value.ref b] s = true) (hX : va_X b L xs s s.heap) (hbl : b < s.heap.size) (hF : lvF sa z y o cO s) (hin : ∀ j : Int32, 0 ≤ j.toInt → j.toInt ≤ 3 → vp_in (i + j) L) (hP : lvP z y o cO g h f s H locs) (hc : cS g d a0 b0 c0) (hm : mS h d a0 b0 c0) (hd : tk d) (hfo : fO d a0 b0 c0) (hl : lv_has ls 7 [(0, .ref b), (1, .ref (mA z)), (2, .ref (oM y)), (3, .ref o), (4, .int i)]) (hce : cells + 1 ≤ 1057) (hsl : slots + 6 ≤ 25517) (kk : ∀ (g1 : St) (h1 : SM) (f1 : Nat → Int64) (d1 a1 b1 c1 : Int) (H1 : Heap) (locs1 : List Loc) (ls1 : Array Slot), lvP z y o cO g1 h1 f1 s H1 locs1 → cS g1 d1 a1 b1 c1 → mS h1 d1 a1 b1 c1 → tk d1 → fO d1 a1 b1 c1 → lv_has ls1 7 [(0, .ref b), (1, .ref (mA z)), (2, .ref (oM y)), (3, .ref o), (4, .int i)] → W p l e room_1 s m #[Value.ref b] below meth c H1 locs1 (cells + 1) (slots + 6) Q (F0 m 553 ls1 [])) : W p l e room_1 s m #[Value.ref b] below meth c H locs cells slots Q (F0 m 485 ls []) := by
  obtain ⟨v1, e1⟩ : ∃ v, xs (i + 1).toNatClampNeg = v := ⟨_, rfl⟩
  obtain ⟨v2, e2⟩ : ∃ v, xs (i + 2).toNatClampNeg = v := ⟨_, rfl⟩
  have hq := st_eq hd hfo nt_all hc hm
  have hok : ∀ i, i < 8 → bOk (g.2.2.2 i) := fun i hi => (hq i hi).1
  refine lv_aload_n hx hb d_law_485 rfl (lv_at hl 1 rfl) ?_
  refine lr_arg hx hb hX hbl hP.2.2 (hin 1 (by decide) (by decide)) e1 (lv_at hl 0 rfl) (lv_at hl 4 rfl) d_law_486 d_law_487 d_law_489 (by decide) d_law_490 d_law_491 ?_
  refine lr_arg hx hb hX hbl hP.2.2 (hin 2 (by decide) (by decide)) e2 (lv_at hl 0 rfl) (lv_at hl 4 rfl) d_law_492 d_law_493 d_law_495 (by decide) d_law_496 d_law_497 ?_
  refine lv_aload_n hx hb d_law_498 rfl (lv_at hl 3 rfl) ?_
  refine lc_wrap (As := [.ref (mA z), .int v1, .int v2, .ref o]) (rest := []) hx hb hml hown hts hF hP (wl_residue l hlt sa z _ g o cO f hF.zo v1 v2 hok) (w_L_residue_cs hts) rfl hl.1 rfl (lv_room (Nat.le_of_ble_eq_true rfl)) d_law_499 ⟨hce, hsl⟩ (fun k u H1 locs1 hp hP => ?_)
  refine lv_istore (lv' := [(5, .int k), (0, .ref b), (1, .ref (mA z)), (2, .ref (oM y)), (3, .ref o), (4, .int i)]) hx hb d_law_502 hl (by decide) rfl (fun ls hl => ?_)
  refine lv_aload_n hx hb d_law_504 rfl (lv_at hl 3 rfl) ?_
  refine lr_arg hx hb hX hbl hP.2.2 (hin 1 (by decide) (by decide)) e1 (lv_at hl 1 rfl) (lv_at hl 5 rfl) d_law_505 d_law_506 d_law_508 (by decide) d_law_509 d_law_510 ?_
  refine lr_arg hx hb hX hbl hP.2.2 (hin 2 (by decide) (by decide)) e2 (lv_at hl 1 rfl) (lv_at hl 5 rfl) d_law_511 d_law_512 d_law_514 (by decide) d_law_515 d_law_516 ?_
  refine lc_mi hF hP (lc_mrun (As := [.int v1, .int v2]) (rest := []) hx hb hml hown hts hF hP (cm_residue l y _ h v1 v2 hm.2.2.2.1) (w_M_residue_cw hts k_L_76 rfl rfl ⟨Nat.le_of_ble_eq_true rfl, Nat.le_of_ble_eq_true rfl⟩) rfl hl.1 rfl (lv_room (Nat.le_of_ble_eq_true rfl)) d_law_517 ⟨hce, hsl⟩) (fun b9 h1 H1 locs1 hr hP => ?_)
  refine lv_istore (lv' := [(6, .int b9), (5, .int k), (0, .ref b), (1, .ref (mA z)), (2, .ref (oM y)), (3, .ref o), (4, .int i)]) hx hb d_law_520 hl (by decide) rfl (fun ls hl => ?_)
  have hend : h1.1 = k → (k = 0 → u.2 0 = b9.toInt64) → ∀ (d1 a1 b1 c1 : Int), cS u.1 d1 a1 b1 c1 → mS h1 d1 a1 b1 c1 → tk d1 → fO d1 a1 b1 c1 → W p l e room_1 s m #[Value.ref b] below meth c H1 locs1 (cells + 1) (slots + 6) Q (F0 m 522 ls []) := fun w1 w2 d1 a1 b1 c1 w3 w4 w5 w6 => by
    refine lr_thr hx hb hml hown hts hF hP hl.1 (lv_at hl 4 rfl) (lv_at hl 1 rfl) w1 hce hsl d_law_522 d_law_523 d_law_526 d_law_528 (fun H2 locs2 hP2 => ?_)
    refine lr_two hx hb hF hP2 (lv_at hl 5 rfl) (lv_at hl 1 rfl) (lv_at hl 0 rfl) w2 (by decide) d_law_533 d_law_535 d_law_538 d_law_539 d_law_540 d_law_541 d_law_543 d_law_544 d_law_545 d_law_550 ?_
    exact kk _ _ _ _ _ _ _ _ _ _ hP2 w3 w4 w5 w6 (lv_sub hl [2, 3, 4, 5, 6] rfl)
  by_cases hk : 0 ≤ v1.toInt ∧ v1.toInt ≤ 7
  · by_cases hj : 1 ≤ v2.toInt
    · obtain ⟨p1, p2, x, p3, p4⟩ := hp.2.2 hk hj
      obtain ⟨t1, t2⟩ := hq v1.toInt.toNat (by omega)
      obtain ⟨⟨f9, q1, q2, q3⟩, q4⟩ := hr.2.2 hk hj
      subst q1
      exact hend p1.symm (fun _ => by rw [p3, Int32.toInt_inj.mp (p4.trans (by rw [q4, ← t2]))]) _ _ _ _ (by rw [p2]; exact hc) (mS.keep (g := mC h 0) hm.code q2 q3) hd hfo
    · obtain ⟨p1, p2⟩ := hp.2.1 hk (by omega)
      have q1 := hr.2.1 hk (by omega)
      subst q1
      exact hend p1.symm (fun q => absurd (p1.symm.trans q) (by decide)) _ _ _ _ (by rw [p2]; exact hc) hm.code hd hfo
  · obtain ⟨p1, p2⟩ := hp.1 hk
    have q1 := hr.1 hk
    subst q1
    exact hend p1.symm (fun q => absurd (p1.symm.trans q) (by decide)) _ _ _ _ (by rw [p2]; exact hc) hm.code hd hfo
set_option maxHeartbeats 4000000 in
set_option maxRecDepth 100000 in
theorem lk_count (hlt : l.stackTraces = false) (hx : p.tables.exec = Jvm.exec) (hb : c.code = code) (hml : c.maxLocals = 7) (hown : s.vm.findClass R_L = some m.cls) (hts : ∀ w ∈ zt, w.before #[Value.ref b] s = true) (hX : va_X b L xs s s.heap) (hbl : b < s.heap.size) (hF : lvF sa z y o cO s) (hin : ∀ j : Int32, 0 ≤ j.toInt → j.toInt ≤ 3 → vp_in (i + j) L) (hP : lvP z y o cO g h f s H locs) (hc : cS g d a0 b0 c0) (hm : mS h d a0 b0 c0) (hd : tk d) (hfo : fO d a0 b0 c0) (hl : lv_has ls 7 [(0, .ref b), (1, .ref (mA z)), (2, .ref (oM y)), (3, .ref o), (4, .int i)]) (hce : cells + 1 ≤ 1057) (hsl : slots + 6 ≤ 25517) (kk : ∀ (g1 : St) (h1 : SM) (f1 : Nat → Int64) (d1 a1 b1 c1 : Int) (H1 : Heap) (locs1 : List Loc) (ls1 : Array Slot), lvP z y o cO g1 h1 f1 s H1 locs1 → cS g1 d1 a1 b1 c1 → mS h1 d1 a1 b1 c1 → tk d1 → fO d1 a1 b1 c1 → lv_has ls1 7 [(0, .ref b), (1, .ref (mA z)), (2, .ref (oM y)), (3, .ref o), (4, .int i)] → W p l e room_1 s m #[Value.ref b] below meth c H1 locs1 (cells + 1) (slots + 6) Q (F0 m 553 ls1 [])) : W p l e room_1 s m #[Value.ref b] below meth c H locs cells slots Q (F0 m 140 ls []) := by
  obtain ⟨v1, e1⟩ : ∃ v, xs (i + 1).toNatClampNeg = v := ⟨_, rfl⟩
  have hq := st_eq hd hfo nt_all hc hm
  have hce0 : cells + 0 ≤ 1057 := by omega
  have hsl0 : slots + 0 ≤ 25517 := by omega
  refine lv_aload_n hx hb d_law_140 rfl (lv_at hl 1 rfl) ?_
  refine lr_arg hx hb hX hbl hP.2.2 (hin 1 (by decide) (by decide)) e1 (lv_at hl 0 rfl) (lv_at hl 4 rfl) d_law_141 d_law_142 d_law_144 (by decide) d_law_145 d_law_146 ?_
  refine lc_ci hF hP (w_run (As := [.int v1]) (rest := []) hx hb hml hown hts (va_pre hP.1) (hF.kz.sub [0, 1, 2, 3, 4, 5, 6, 7, 8, 9] rfl) (zD_of hF.zo.1 (fun _ _ => trivial)) hF.nz (c_count l z _ g v1 (hq 7 (by decide)).1) (w_U_count_cw hts k_L_52 rfl rfl ⟨Nat.le_of_ble_eq_true rfl, Nat.le_of_ble_eq_true rfl⟩) rfl hl.1 rfl (lv_room (Nat.le_of_ble_eq_true rfl)) d_law_147 ⟨hce0, hsl0⟩) (fun r1 g1 H1 locs1 hp hP1 => ?_)
  obtain ⟨p1, p2⟩ := hp
  rw [p1] at hP1
  clear hP
  have hP := hP1
  refine lv_aload_n hx hb d_law_150 rfl (lv_at hl 2 rfl) ?_
  refine lr_arg hx hb hX hbl hP.2.2 (hin 1 (by decide) (by decide)) e1 (lv_at hl 0 rfl) (lv_at hl 4 rfl) d_law_151 d_law_152 d_law_154 (by decide) d_law_155 d_law_156 ?_
  refine lc_mi hF hP (lc_mrun (As := [.int v1]) (rest := [.int r1]) hx hb hml hown hts hF hP (cm_count l y _ h v1 (by rw [hm.2.2.1]; exact mf_01 d)) (w_M_count_cw hts k_L_55 rfl rfl ⟨Nat.le_of_ble_eq_true rfl, Nat.le_of_ble_eq_true rfl⟩) rfl hl.1 rfl (lv_room (Nat.le_of_ble_eq_true rfl)) d_law_157 ⟨hce0, hsl0⟩) (fun r2 h1 H1 locs1 hr hP => ?_)
  obtain ⟨q1, q2⟩ := hr
  subst q1
  refine lv_icmp_eq (tgt := 553) hx hb d_law_160 (by decide) (fun _ => ?_) (fun w => absurd (by rw [p2, q2]; exact st_cnt hd nt_all hc hm v1) w)
  refine W.widen (k := cells + 1) (n := slots + 6) (by omega) (by omega) ?_
  exact kk _ _ _ _ _ _ _ _ _ _ hP hc hm.code hd hfo hl
end LawCases2

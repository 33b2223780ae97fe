/-! the reference: sectionOf -/
abbrev b_MD_sectionOf : ByteArray := prog_15_method_61_code
def y_MD_sectionOf : MethodName := ⟨R_MD, "sectionOf", "(I)V"⟩
abbrev w_MD_sectionOf : List Cond := .code y_MD_sectionOf b_MD_sectionOf 4 none :: lw_g
set_option maxRecDepth 100000 in
theorem kC_MD_sectionOf : Cond.code y_MD_sectionOf b_MD_sectionOf 4 none ∈ lw_g := in_g 2883 rfl rfl
theorem d_MD_sectionOf_0 : decode b_MD_sectionOf 0 = .ok (.iload_n 1, 1) := by decide +kernel
theorem d_MD_sectionOf_1 : decode b_MD_sectionOf 1 = .ok (.tableswitch 607 1 10 #[55, 607, 186, 607, 236, 338, 379, 607, 607, 566], 55) := by decide +kernel
theorem d_MD_sectionOf_56 : decode b_MD_sectionOf 56 = .ok (.aload_n 0, 1) := by decide +kernel
theorem d_MD_sectionOf_57 : decode b_MD_sectionOf 57 = .ok (.getfield 492, 3) := by decide +kernel
theorem d_MD_sectionOf_60 : decode b_MD_sectionOf 60 = .ok (.aload_n 0, 1) := by decide +kernel
theorem d_MD_sectionOf_61 : decode b_MD_sectionOf 61 = .ok (.ldc2_w 531, 3) := by decide +kernel
theorem d_MD_sectionOf_64 : decode b_MD_sectionOf 64 = .ok (.invokevirtual 506, 3) := by decide +kernel
theorem d_MD_sectionOf_67 : decode b_MD_sectionOf 67 = .ok (.putfield 511, 3) := by decide +kernel
theorem d_MD_sectionOf_70 : decode b_MD_sectionOf 70 = .ok (.iconst 0, 1) := by decide +kernel
theorem d_MD_sectionOf_71 : decode b_MD_sectionOf 71 = .ok (.istore_n 2, 1) := by decide +kernel
theorem d_MD_sectionOf_72 : decode b_MD_sectionOf 72 = .ok (.iload_n 2, 1) := by decide +kernel
theorem d_MD_sectionOf_73 : decode b_MD_sectionOf 73 = .ok (.aload_n 0, 1) := by decide +kernel
theorem d_MD_sectionOf_74 : decode b_MD_sectionOf 74 = .ok (.getfield 492, 3) := by decide +kernel
theorem d_MD_sectionOf_77 : decode b_MD_sectionOf 77 = .ok (.getfield 511, 3) := by decide +kernel
theorem d_MD_sectionOf_80 : decode b_MD_sectionOf 80 = .ok (.if_icmp .ge 104, 3) := by decide +kernel
theorem d_MD_sectionOf_83 : decode b_MD_sectionOf 83 = .ok (.aload_n 0, 1) := by decide +kernel
theorem d_MD_sectionOf_84 : decode b_MD_sectionOf 84 = .ok (.aload_n 0, 1) := by decide +kernel
theorem d_MD_sectionOf_85 : decode b_MD_sectionOf 85 = .ok (.invokevirtual 501, 3) := by decide +kernel
theorem d_MD_sectionOf_88 : decode b_MD_sectionOf 88 = .ok (.bipush 96, 2) := by decide +kernel
theorem d_MD_sectionOf_90 : decode b_MD_sectionOf 90 = .ok (.if_icmp .ne 7, 3) := by decide +kernel
theorem d_MD_sectionOf_93 : decode b_MD_sectionOf 93 = .ok (.iconst 1, 1) := by decide +kernel
theorem d_MD_sectionOf_94 : decode b_MD_sectionOf 94 = .ok (.goto 4, 3) := by decide +kernel
theorem d_MD_sectionOf_97 : decode b_MD_sectionOf 97 = .ok (.iconst 0, 1) := by decide +kernel
theorem d_MD_sectionOf_98 : decode b_MD_sectionOf 98 = .ok (.invokevirtual 489, 3) := by decide +kernel
theorem d_MD_sectionOf_101 : decode b_MD_sectionOf 101 = .ok (.aload_n 0, 1) := by decide +kernel
theorem d_MD_sectionOf_102 : decode b_MD_sectionOf 102 = .ok (.getfield 492, 3) := by decide +kernel
theorem d_MD_sectionOf_105 : decode b_MD_sectionOf 105 = .ok (.getfield 533, 3) := by decide +kernel
theorem d_MD_sectionOf_108 : decode b_MD_sectionOf 108 = .ok (.iload_n 2, 1) := by decide +kernel
theorem d_MD_sectionOf_109 : decode b_MD_sectionOf 109 = .ok (.aload_n 0, 1) := by decide +kernel
theorem d_MD_sectionOf_110 : decode b_MD_sectionOf 110 = .ok (.ldc2_w 536, 3) := by decide +kernel
theorem d_MD_sectionOf_113 : decode b_MD_sectionOf 113 = .ok (.invokevirtual 506, 3) := by decide +kernel
theorem d_MD_sectionOf_116 : decode b_MD_sectionOf 116 = .ok (.iastore, 1) := by decide +kernel
theorem d_MD_sectionOf_117 : decode b_MD_sectionOf 117 = .ok (.iconst 0, 1) := by decide +kernel
theorem d_MD_sectionOf_118 : decode b_MD_sectionOf 118 = .ok (.istore_n 3, 1) := by decide +kernel
theorem d_MD_sectionOf_119 : decode b_MD_sectionOf 119 = .ok (.iload_n 3, 1) := by decide +kernel
theorem d_MD_sectionOf_120 : decode b_MD_sectionOf 120 = .ok (.aload_n 0, 1) := by decide +kernel
theorem d_MD_sectionOf_121 : decode b_MD_sectionOf 121 = .ok (.getfield 492, 3) := by decide +kernel
theorem d_MD_sectionOf_124 : decode b_MD_sectionOf 124 = .ok (.getfield 533, 3) := by decide +kernel
theorem d_MD_sectionOf_127 : decode b_MD_sectionOf 127 = .ok (.iload_n 2, 1) := by decide +kernel
theorem d_MD_sectionOf_128 : decode b_MD_sectionOf 128 = .ok (.iaload, 1) := by decide +kernel
theorem d_MD_sectionOf_129 : decode b_MD_sectionOf 129 = .ok (.if_icmp .ge 24, 3) := by decide +kernel
theorem d_MD_sectionOf_132 : decode b_MD_sectionOf 132 = .ok (.aload_n 0, 1) := by decide +kernel
theorem d_MD_sectionOf_133 : decode b_MD_sectionOf 133 = .ok (.getfield 492, 3) := by decide +kernel
theorem d_MD_sectionOf_136 : decode b_MD_sectionOf 136 = .ok (.getfield 538, 3) := by decide +kernel
theorem d_MD_sectionOf_139 : decode b_MD_sectionOf 139 = .ok (.iload_n 2, 1) := by decide +kernel
theorem d_MD_sectionOf_140 : decode b_MD_sectionOf 140 = .ok (.aaload, 1) := by decide +kernel
theorem d_MD_sectionOf_141 : decode b_MD_sectionOf 141 = .ok (.iload_n 3, 1) := by decide +kernel
theorem d_MD_sectionOf_142 : decode b_MD_sectionOf 142 = .ok (.aload_n 0, 1) := by decide +kernel
theorem d_MD_sectionOf_143 : decode b_MD_sectionOf 143 = .ok (.invokevirtual 542, 3) := by decide +kernel
theorem d_MD_sectionOf_146 : decode b_MD_sectionOf 146 = .ok (.iastore, 1) := by decide +kernel
theorem d_MD_sectionOf_147 : decode b_MD_sectionOf 147 = .ok (.iinc 3 1, 3) := by decide +kernel
theorem d_MD_sectionOf_150 : decode b_MD_sectionOf 150 = .ok (.goto (-31), 3) := by decide +kernel
theorem d_MD_sectionOf_153 : decode b_MD_sectionOf 153 = .ok (.aload_n 0, 1) := by decide +kernel
theorem d_MD_sectionOf_154 : decode b_MD_sectionOf 154 = .ok (.getfield 492, 3) := by decide +kernel
theorem d_MD_sectionOf_157 : decode b_MD_sectionOf 157 = .ok (.getfield 545, 3) := by decide +kernel
theorem d_MD_sectionOf_160 : decode b_MD_sectionOf 160 = .ok (.iload_n 2, 1) := by decide +kernel
theorem d_MD_sectionOf_161 : decode b_MD_sectionOf 161 = .ok (.aload_n 0, 1) := by decide +kernel
theorem d_MD_sectionOf_162 : decode b_MD_sectionOf 162 = .ok (.lconst 1, 1) := by decide +kernel
theorem d_MD_sectionOf_163 : decode b_MD_sectionOf 163 = .ok (.invokevirtual 506, 3) := by decide +kernel
theorem d_MD_sectionOf_166 : decode b_MD_sectionOf 166 = .ok (.ifCond .ne 7, 3) := by decide +kernel
theorem d_MD_sectionOf_169 : decode b_MD_sectionOf 169 = .ok (.iconst 0, 1) := by decide +kernel
theorem d_MD_sectionOf_170 : decode b_MD_sectionOf 170 = .ok (.goto 7, 3) := by decide +kernel
theorem d_MD_sectionOf_173 : decode b_MD_sectionOf 173 = .ok (.aload_n 0, 1) := by decide +kernel
theorem d_MD_sectionOf_174 : decode b_MD_sectionOf 174 = .ok (.invokevirtual 542, 3) := by decide +kernel
theorem d_MD_sectionOf_177 : decode b_MD_sectionOf 177 = .ok (.iastore, 1) := by decide +kernel
theorem d_MD_sectionOf_178 : decode b_MD_sectionOf 178 = .ok (.iinc 2 1, 3) := by decide +kernel
theorem d_MD_sectionOf_181 : decode b_MD_sectionOf 181 = .ok (.goto (-109), 3) := by decide +kernel
theorem d_MD_sectionOf_184 : decode b_MD_sectionOf 184 = .ok (.goto 432, 3) := by decide +kernel
theorem d_MD_sectionOf_187 : decode b_MD_sectionOf 187 = .ok (.aload_n 0, 1) := by decide +kernel
theorem d_MD_sectionOf_188 : decode b_MD_sectionOf 188 = .ok (.getfield 492, 3) := by decide +kernel
theorem d_MD_sectionOf_191 : decode b_MD_sectionOf 191 = .ok (.aload_n 0, 1) := by decide +kernel
theorem d_MD_sectionOf_192 : decode b_MD_sectionOf 192 = .ok (.ldc2_w 548, 3) := by decide +kernel
theorem d_MD_sectionOf_195 : decode b_MD_sectionOf 195 = .ok (.invokevirtual 506, 3) := by decide +kernel
theorem d_MD_sectionOf_198 : decode b_MD_sectionOf 198 = .ok (.putfield 513, 3) := by decide +kernel
theorem d_MD_sectionOf_201 : decode b_MD_sectionOf 201 = .ok (.iconst 0, 1) := by decide +kernel
theorem d_MD_sectionOf_202 : decode b_MD_sectionOf 202 = .ok (.istore_n 2, 1) := by decide +kernel
theorem d_MD_sectionOf_203 : decode b_MD_sectionOf 203 = .ok (.iload_n 2, 1) := by decide +kernel
theorem d_MD_sectionOf_204 : decode b_MD_sectionOf 204 = .ok (.aload_n 0, 1) := by decide +kernel
theorem d_MD_sectionOf_205 : decode b_MD_sectionOf 205 = .ok (.getfield 492, 3) := by decide +kernel
theorem d_MD_sectionOf_208 : decode b_MD_sectionOf 208 = .ok (.getfield 513, 3) := by decide +kernel
theorem d_MD_sectionOf_211 : decode b_MD_sectionOf 211 = .ok (.if_icmp .ge 23, 3) := by decide +kernel
theorem d_MD_sectionOf_214 : decode b_MD_sectionOf 214 = .ok (.aload_n 0, 1) := by decide +kernel
theorem d_MD_sectionOf_215 : decode b_MD_sectionOf 215 = .ok (.getfield 492, 3) := by decide +kernel
theorem d_MD_sectionOf_218 : decode b_MD_sectionOf 218 = .ok (.getfield 550, 3) := by decide +kernel
theorem d_MD_sectionOf_221 : decode b_MD_sectionOf 221 = .ok (.iload_n 2, 1) := by decide +kernel
theorem d_MD_sectionOf_222 : decode b_MD_sectionOf 222 = .ok (.aload_n 0, 1) := by decide +kernel
theorem d_MD_sectionOf_223 : decode b_MD_sectionOf 223 = .ok (.invokevirtual 552, 3) := by decide +kernel
theorem d_MD_sectionOf_226 : decode b_MD_sectionOf 226 = .ok (.i2l, 1) := by decide +kernel
theorem d_MD_sectionOf_227 : decode b_MD_sectionOf 227 = .ok (.lastore, 1) := by decide +kernel
theorem d_MD_sectionOf_228 : decode b_MD_sectionOf 228 = .ok (.iinc 2 1, 3) := by decide +kernel
theorem d_MD_sectionOf_231 : decode b_MD_sectionOf 231 = .ok (.goto (-28), 3) := by decide +kernel
theorem d_MD_sectionOf_234 : decode b_MD_sectionOf 234 = .ok (.goto 382, 3) := by decide +kernel
theorem d_MD_sectionOf_237 : decode b_MD_sectionOf 237 = .ok (.aload_n 0, 1) := by decide +kernel
theorem d_MD_sectionOf_238 : decode b_MD_sectionOf 238 = .ok (.getfield 492, 3) := by decide +kernel
theorem d_MD_sectionOf_241 : decode b_MD_sectionOf 241 = .ok (.aload_n 0, 1) := by decide +kernel
theorem d_MD_sectionOf_242 : decode b_MD_sectionOf 242 = .ok (.lconst 1, 1) := by decide +kernel
theorem d_MD_sectionOf_243 : decode b_MD_sectionOf 243 = .ok (.invokevirtual 506, 3) := by decide +kernel
theorem d_MD_sectionOf_246 : decode b_MD_sectionOf 246 = .ok (.putfield 519, 3) := by decide +kernel
theorem d_MD_sectionOf_249 : decode b_MD_sectionOf 249 = .ok (.aload_n 0, 1) := by decide +kernel
theorem d_MD_sectionOf_250 : decode b_MD_sectionOf 250 = .ok (.getfield 492, 3) := by decide +kernel
theorem d_MD_sectionOf_253 : decode b_MD_sectionOf 253 = .ok (.getfield 519, 3) := by decide +kernel
theorem d_MD_sectionOf_256 : decode b_MD_sectionOf 256 = .ok (.ifCond .ne 6, 3) := by decide +kernel
theorem d_MD_sectionOf_259 : decode b_MD_sectionOf 259 = .ok (.goto 357, 3) := by decide +kernel
theorem d_MD_sectionOf_262 : decode b_MD_sectionOf 262 = .ok (.aload_n 0, 1) := by decide +kernel
theorem d_MD_sectionOf_263 : decode b_MD_sectionOf 263 = .ok (.invokevirtual 501, 3) := by decide +kernel
theorem d_MD_sectionOf_266 : decode b_MD_sectionOf 266 = .ok (.istore_n 2, 1) := by decide +kernel
theorem d_MD_sectionOf_267 : decode b_MD_sectionOf 267 = .ok (.aload_n 0, 1) := by decide +kernel
theorem d_MD_sectionOf_268 : decode b_MD_sectionOf 268 = .ok (.iload_n 2, 1) := by decide +kernel
theorem d_MD_sectionOf_269 : decode b_MD_sectionOf 269 = .ok (.iconst 1, 1) := by decide +kernel
theorem d_MD_sectionOf_270 : decode b_MD_sectionOf 270 = .ok (.if_icmp .gt 7, 3) := by decide +kernel
theorem d_MD_sectionOf_273 : decode b_MD_sectionOf 273 = .ok (.iconst 1, 1) := by decide +kernel
theorem d_MD_sectionOf_274 : decode b_MD_sectionOf 274 = .ok (.goto 4, 3) := by decide +kernel
theorem d_MD_sectionOf_277 : decode b_MD_sectionOf 277 = .ok (.iconst 0, 1) := by decide +kernel
theorem d_MD_sectionOf_278 : decode b_MD_sectionOf 278 = .ok (.invokevirtual 489, 3) := by decide +kernel
theorem d_MD_sectionOf_281 : decode b_MD_sectionOf 281 = .ok (.aload_n 0, 1) := by decide +kernel
theorem d_MD_sectionOf_282 : decode b_MD_sectionOf 282 = .ok (.getfield 492, 3) := by decide +kernel
theorem d_MD_sectionOf_285 : decode b_MD_sectionOf 285 = .ok (.iload_n 2, 1) := by decide +kernel
theorem d_MD_sectionOf_286 : decode b_MD_sectionOf 286 = .ok (.iconst 1, 1) := by decide +kernel
theorem d_MD_sectionOf_287 : decode b_MD_sectionOf 287 = .ok (.if_icmp .ne 7, 3) := by decide +kernel
theorem d_MD_sectionOf_290 : decode b_MD_sectionOf 290 = .ok (.iconst 1, 1) := by decide +kernel
theorem d_MD_sectionOf_291 : decode b_MD_sectionOf 291 = .ok (.goto 4, 3) := by decide +kernel
theorem d_MD_sectionOf_294 : decode b_MD_sectionOf 294 = .ok (.iconst 0, 1) := by decide +kernel
theorem d_MD_sectionOf_295 : decode b_MD_sectionOf 295 = .ok (.putfield 554, 3) := by decide +kernel
theorem d_MD_sectionOf_298 : decode b_MD_sectionOf 298 = .ok (.aload_n 0, 1) := by decide +kernel
theorem d_MD_sectionOf_299 : decode b_MD_sectionOf 299 = .ok (.getfield 492, 3) := by decide +kernel
theorem d_MD_sectionOf_302 : decode b_MD_sectionOf 302 = .ok (.aload_n 0, 1) := by decide +kernel
theorem d_MD_sectionOf_303 : decode b_MD_sectionOf 303 = .ok (.invokevirtual 503, 3) := by decide +kernel
theorem d_MD_sectionOf_306 : decode b_MD_sectionOf 306 = .ok (.putfield 557, 3) := by decide +kernel
theorem d_MD_sectionOf_309 : decode b_MD_sectionOf 309 = .ok (.aload_n 0, 1) := by decide +kernel
theorem d_MD_sectionOf_310 : decode b_MD_sectionOf 310 = .ok (.getfield 492, 3) := by decide +kernel
theorem d_MD_sectionOf_313 : decode b_MD_sectionOf 313 = .ok (.aload_n 0, 1) := by decide +kernel
theorem d_MD_sectionOf_314 : decode b_MD_sectionOf 314 = .ok (.getfield 492, 3) := by decide +kernel
theorem d_MD_sectionOf_317 : decode b_MD_sectionOf 317 = .ok (.getfield 554, 3) := by decide +kernel
theorem d_MD_sectionOf_320 : decode b_MD_sectionOf 320 = .ok (.ifCond .eq 10, 3) := by decide +kernel
theorem d_MD_sectionOf_323 : decode b_MD_sectionOf 323 = .ok (.aload_n 0, 1) := by decide +kernel
theorem d_MD_sectionOf_324 : decode b_MD_sectionOf 324 = .ok (.invokevirtual 503, 3) := by decide +kernel
theorem d_MD_sectionOf_327 : decode b_MD_sectionOf 327 = .ok (.goto 6, 3) := by decide +kernel
theorem d_MD_sectionOf_330 : decode b_MD_sectionOf 330 = .ok (.ldc2_w 560, 3) := by decide +kernel
theorem d_MD_sectionOf_333 : decode b_MD_sectionOf 333 = .ok (.putfield 562, 3) := by decide +kernel
theorem d_MD_sectionOf_336 : decode b_MD_sectionOf 336 = .ok (.goto 280, 3) := by decide +kernel
theorem d_MD_sectionOf_339 : decode b_MD_sectionOf 339 = .ok (.aload_n 0, 1) := by decide +kernel
theorem d_MD_sectionOf_340 : decode b_MD_sectionOf 340 = .ok (.getfield 492, 3) := by decide +kernel
theorem d_MD_sectionOf_343 : decode b_MD_sectionOf 343 = .ok (.aload_n 0, 1) := by decide +kernel
theorem d_MD_sectionOf_344 : decode b_MD_sectionOf 344 = .ok (.ldc2_w 531, 3) := by decide +kernel
theorem d_MD_sectionOf_347 : decode b_MD_sectionOf 347 = .ok (.invokevirtual 506, 3) := by decide +kernel
theorem d_MD_sectionOf_350 : decode b_MD_sectionOf 350 = .ok (.putfield 522, 3) := by decide +kernel
theorem d_MD_sectionOf_353 : decode b_MD_sectionOf 353 = .ok (.iconst 0, 1) := by decide +kernel
theorem d_MD_sectionOf_354 : decode b_MD_sectionOf 354 = .ok (.istore_n 3, 1) := by decide +kernel
theorem d_MD_sectionOf_355 : decode b_MD_sectionOf 355 = .ok (.iload_n 3, 1) := by decide +kernel
theorem d_MD_sectionOf_356 : decode b_MD_sectionOf 356 = .ok (.aload_n 0, 1) := by decide +kernel
theorem d_MD_sectionOf_357 : decode b_MD_sectionOf 357 = .ok (.getfield 492, 3) := by decide +kernel
theorem d_MD_sectionOf_360 : decode b_MD_sectionOf 360 = .ok (.getfield 522, 3) := by decide +kernel
theorem d_MD_sectionOf_363 : decode b_MD_sectionOf 363 = .ok (.if_icmp .ge 14, 3) := by decide +kernel
theorem d_MD_sectionOf_366 : decode b_MD_sectionOf 366 = .ok (.aload_n 0, 1) := by decide +kernel
theorem d_MD_sectionOf_367 : decode b_MD_sectionOf 367 = .ok (.iload_n 3, 1) := by decide +kernel
theorem d_MD_sectionOf_368 : decode b_MD_sectionOf 368 = .ok (.invokevirtual 565, 3) := by decide +kernel
theorem d_MD_sectionOf_371 : decode b_MD_sectionOf 371 = .ok (.iinc 3 1, 3) := by decide +kernel
theorem d_MD_sectionOf_374 : decode b_MD_sectionOf 374 = .ok (.goto (-19), 3) := by decide +kernel
theorem d_MD_sectionOf_377 : decode b_MD_sectionOf 377 = .ok (.goto 239, 3) := by decide +kernel
theorem d_MD_sectionOf_380 : decode b_MD_sectionOf 380 = .ok (.aload_n 0, 1) := by decide +kernel
theorem d_MD_sectionOf_381 : decode b_MD_sectionOf 381 = .ok (.getfield 492, 3) := by decide +kernel
theorem d_MD_sectionOf_384 : decode b_MD_sectionOf 384 = .ok (.aload_n 0, 1) := by decide +kernel
theorem d_MD_sectionOf_385 : decode b_MD_sectionOf 385 = .ok (.ldc2_w 568, 3) := by decide +kernel
theorem d_MD_sectionOf_388 : decode b_MD_sectionOf 388 = .ok (.invokevirtual 506, 3) := by decide +kernel
theorem d_MD_sectionOf_391 : decode b_MD_sectionOf 391 = .ok (.putfield 525, 3) := by decide +kernel
theorem d_MD_sectionOf_394 : decode b_MD_sectionOf 394 = .ok (.iconst 0, 1) := by decide +kernel
theorem d_MD_sectionOf_395 : decode b_MD_sectionOf 395 = .ok (.istore_n 3, 1) := by decide +kernel
theorem d_MD_sectionOf_396 : decode b_MD_sectionOf 396 = .ok (.iload_n 3, 1) := by decide +kernel
theorem d_MD_sectionOf_397 : decode b_MD_sectionOf 397 = .ok (.aload_n 0, 1) := by decide +kernel
theorem d_MD_sectionOf_398 : decode b_MD_sectionOf 398 = .ok (.getfield 492, 3) := by decide +kernel
theorem d_MD_sectionOf_401 : decode b_MD_sectionOf 401 = .ok (.getfield 525, 3) := by decide +kernel
theorem d_MD_sectionOf_404 : decode b_MD_sectionOf 404 = .ok (.if_icmp .ge 160, 3) := by decide +kernel
theorem d_MD_sectionOf_407 : decode b_MD_sectionOf 407 = .ok (.aload_n 0, 1) := by decide +kernel
theorem d_MD_sectionOf_408 : decode b_MD_sectionOf 408 = .ok (.getfield 492, 3) := by decide +kernel
theorem d_MD_sectionOf_411 : decode b_MD_sectionOf 411 = .ok (.getfield 570, 3) := by decide +kernel
theorem d_MD_sectionOf_414 : decode b_MD_sectionOf 414 = .ok (.iload_n 3, 1) := by decide +kernel
theorem d_MD_sectionOf_415 : decode b_MD_sectionOf 415 = .ok (.aload_n 0, 1) := by decide +kernel
theorem d_MD_sectionOf_416 : decode b_MD_sectionOf 416 = .ok (.ldc2_w 548, 3) := by decide +kernel
theorem d_MD_sectionOf_419 : decode b_MD_sectionOf 419 = .ok (.invokevirtual 506, 3) := by decide +kernel
theorem d_MD_sectionOf_422 : decode b_MD_sectionOf 422 = .ok (.iastore, 1) := by decide +kernel
theorem d_MD_sectionOf_423 : decode b_MD_sectionOf 423 = .ok (.aload_n 0, 1) := by decide +kernel
theorem d_MD_sectionOf_424 : decode b_MD_sectionOf 424 = .ok (.getfield 492, 3) := by decide +kernel
theorem d_MD_sectionOf_427 : decode b_MD_sectionOf 427 = .ok (.getfield 573, 3) := by decide +kernel
theorem d_MD_sectionOf_430 : decode b_MD_sectionOf 430 = .ok (.iload_n 3, 1) := by decide +kernel
theorem d_MD_sectionOf_431 : decode b_MD_sectionOf 431 = .ok (.aload_n 0, 1) := by decide +kernel
theorem d_MD_sectionOf_432 : decode b_MD_sectionOf 432 = .ok (.getfield 483, 3) := by decide +kernel
theorem d_MD_sectionOf_435 : decode b_MD_sectionOf 435 = .ok (.iastore, 1) := by decide +kernel
theorem d_MD_sectionOf_436 : decode b_MD_sectionOf 436 = .ok (.aload_n 0, 1) := by decide +kernel
theorem d_MD_sectionOf_437 : decode b_MD_sectionOf 437 = .ok (.aload_n 0, 1) := by decide +kernel
theorem d_MD_sectionOf_438 : decode b_MD_sectionOf 438 = .ok (.getfield 492, 3) := by decide +kernel
theorem d_MD_sectionOf_441 : decode b_MD_sectionOf 441 = .ok (.getfield 570, 3) := by decide +kernel
theorem d_MD_sectionOf_444 : decode b_MD_sectionOf 444 = .ok (.iload_n 3, 1) := by decide +kernel
theorem d_MD_sectionOf_445 : decode b_MD_sectionOf 445 = .ok (.iaload, 1) := by decide +kernel
theorem d_MD_sectionOf_446 : decode b_MD_sectionOf 446 = .ok (.aload_n 0, 1) := by decide +kernel
theorem d_MD_sectionOf_447 : decode b_MD_sectionOf 447 = .ok (.getfield 486, 3) := by decide +kernel
theorem d_MD_sectionOf_450 : decode b_MD_sectionOf 450 = .ok (.aload_n 0, 1) := by decide +kernel
theorem d_MD_sectionOf_451 : decode b_MD_sectionOf 451 = .ok (.getfield 483, 3) := by decide +kernel
theorem d_MD_sectionOf_454 : decode b_MD_sectionOf 454 = .ok (.isub, 1) := by decide +kernel
theorem d_MD_sectionOf_455 : decode b_MD_sectionOf 455 = .ok (.if_icmp .gt 7, 3) := by decide +kernel
theorem d_MD_sectionOf_458 : decode b_MD_sectionOf 458 = .ok (.iconst 1, 1) := by decide +kernel
theorem d_MD_sectionOf_459 : decode b_MD_sectionOf 459 = .ok (.goto 4, 3) := by decide +kernel
theorem d_MD_sectionOf_462 : decode b_MD_sectionOf 462 = .ok (.iconst 0, 1) := by decide +kernel
theorem d_MD_sectionOf_463 : decode b_MD_sectionOf 463 = .ok (.invokevirtual 489, 3) := by decide +kernel
theorem d_MD_sectionOf_466 : decode b_MD_sectionOf 466 = .ok (.aload_n 0, 1) := by decide +kernel
theorem d_MD_sectionOf_467 : decode b_MD_sectionOf 467 = .ok (.dup, 1) := by decide +kernel
theorem d_MD_sectionOf_468 : decode b_MD_sectionOf 468 = .ok (.getfield 483, 3) := by decide +kernel
theorem d_MD_sectionOf_471 : decode b_MD_sectionOf 471 = .ok (.aload_n 0, 1) := by decide +kernel
theorem d_MD_sectionOf_472 : decode b_MD_sectionOf 472 = .ok (.getfield 492, 3) := by decide +kernel
theorem d_MD_sectionOf_475 : decode b_MD_sectionOf 475 = .ok (.getfield 570, 3) := by decide +kernel
theorem d_MD_sectionOf_478 : decode b_MD_sectionOf 478 = .ok (.iload_n 3, 1) := by decide +kernel
theorem d_MD_sectionOf_479 : decode b_MD_sectionOf 479 = .ok (.iaload, 1) := by decide +kernel
theorem d_MD_sectionOf_480 : decode b_MD_sectionOf 480 = .ok (.iadd, 1) := by decide +kernel
theorem d_MD_sectionOf_481 : decode b_MD_sectionOf 481 = .ok (.putfield 483, 3) := by decide +kernel
theorem d_MD_sectionOf_484 : decode b_MD_sectionOf 484 = .ok (.aload_n 0, 1) := by decide +kernel
theorem d_MD_sectionOf_485 : decode b_MD_sectionOf 485 = .ok (.getfield 492, 3) := by decide +kernel
theorem d_MD_sectionOf_488 : decode b_MD_sectionOf 488 = .ok (.getfield 576, 3) := by decide +kernel
theorem d_MD_sectionOf_491 : decode b_MD_sectionOf 491 = .ok (.iload_n 3, 1) := by decide +kernel
theorem d_MD_sectionOf_492 : decode b_MD_sectionOf 492 = .ok (.aload_n 0, 1) := by decide +kernel
theorem d_MD_sectionOf_493 : decode b_MD_sectionOf 493 = .ok (.invokevirtual 501, 3) := by decide +kernel
theorem d_MD_sectionOf_496 : decode b_MD_sectionOf 496 = .ok (.iastore, 1) := by decide +kernel
theorem d_MD_sectionOf_497 : decode b_MD_sectionOf 497 = .ok (.aload_n 0, 1) := by decide +kernel
theorem d_MD_sectionOf_498 : decode b_MD_sectionOf 498 = .ok (.aload_n 0, 1) := by decide +kernel
theorem d_MD_sectionOf_499 : decode b_MD_sectionOf 499 = .ok (.getfield 492, 3) := by decide +kernel
theorem d_MD_sectionOf_502 : decode b_MD_sectionOf 502 = .ok (.getfield 576, 3) := by decide +kernel
theorem d_MD_sectionOf_505 : decode b_MD_sectionOf 505 = .ok (.iload_n 3, 1) := by decide +kernel
theorem d_MD_sectionOf_506 : decode b_MD_sectionOf 506 = .ok (.iaload, 1) := by decide +kernel
theorem d_MD_sectionOf_507 : decode b_MD_sectionOf 507 = .ok (.ifCond .eq 29, 3) := by decide +kernel
theorem d_MD_sectionOf_510 : decode b_MD_sectionOf 510 = .ok (.aload_n 0, 1) := by decide +kernel
theorem d_MD_sectionOf_511 : decode b_MD_sectionOf 511 = .ok (.getfield 492, 3) := by decide +kernel
theorem d_MD_sectionOf_514 : decode b_MD_sectionOf 514 = .ok (.getfield 576, 3) := by decide +kernel
theorem d_MD_sectionOf_517 : decode b_MD_sectionOf 517 = .ok (.iload_n 3, 1) := by decide +kernel
theorem d_MD_sectionOf_518 : decode b_MD_sectionOf 518 = .ok (.iaload, 1) := by decide +kernel
theorem d_MD_sectionOf_519 : decode b_MD_sectionOf 519 = .ok (.iconst 2, 1) := by decide +kernel
theorem d_MD_sectionOf_520 : decode b_MD_sectionOf 520 = .ok (.if_icmp .eq 16, 3) := by decide +kernel
theorem d_MD_sectionOf_523 : decode b_MD_sectionOf 523 = .ok (.aload_n 0, 1) := by decide +kernel
theorem d_MD_sectionOf_524 : decode b_MD_sectionOf 524 = .ok (.getfield 492, 3) := by decide +kernel
theorem d_MD_sectionOf_527 : decode b_MD_sectionOf 527 = .ok (.getfield 576, 3) := by decide +kernel
theorem d_MD_sectionOf_530 : decode b_MD_sectionOf 530 = .ok (.iload_n 3, 1) := by decide +kernel
theorem d_MD_sectionOf_531 : decode b_MD_sectionOf 531 = .ok (.iaload, 1) := by decide +kernel
theorem d_MD_sectionOf_532 : decode b_MD_sectionOf 532 = .ok (.iconst 3, 1) := by decide +kernel
theorem d_MD_sectionOf_533 : decode b_MD_sectionOf 533 = .ok (.if_icmp .ne 7, 3) := by decide +kernel
theorem d_MD_sectionOf_536 : decode b_MD_sectionOf 536 = .ok (.iconst 1, 1) := by decide +kernel
theorem d_MD_sectionOf_537 : decode b_MD_sectionOf 537 = .ok (.goto 4, 3) := by decide +kernel
theorem d_MD_sectionOf_540 : decode b_MD_sectionOf 540 = .ok (.iconst 0, 1) := by decide +kernel
theorem d_MD_sectionOf_541 : decode b_MD_sectionOf 541 = .ok (.invokevirtual 489, 3) := by decide +kernel
theorem d_MD_sectionOf_544 : decode b_MD_sectionOf 544 = .ok (.aload_n 0, 1) := by decide +kernel
theorem d_MD_sectionOf_545 : decode b_MD_sectionOf 545 = .ok (.getfield 492, 3) := by decide +kernel
theorem d_MD_sectionOf_548 : decode b_MD_sectionOf 548 = .ok (.getfield 579, 3) := by decide +kernel
theorem d_MD_sectionOf_551 : decode b_MD_sectionOf 551 = .ok (.iload_n 3, 1) := by decide +kernel
theorem d_MD_sectionOf_552 : decode b_MD_sectionOf 552 = .ok (.aload_n 0, 1) := by decide +kernel
theorem d_MD_sectionOf_553 : decode b_MD_sectionOf 553 = .ok (.invokevirtual 552, 3) := by decide +kernel
theorem d_MD_sectionOf_556 : decode b_MD_sectionOf 556 = .ok (.i2l, 1) := by decide +kernel
theorem d_MD_sectionOf_557 : decode b_MD_sectionOf 557 = .ok (.lastore, 1) := by decide +kernel
theorem d_MD_sectionOf_558 : decode b_MD_sectionOf 558 = .ok (.iinc 3 1, 3) := by decide +kernel
theorem d_MD_sectionOf_561 : decode b_MD_sectionOf 561 = .ok (.goto (-165), 3) := by decide +kernel
theorem d_MD_sectionOf_564 : decode b_MD_sectionOf 564 = .ok (.goto 52, 3) := by decide +kernel
theorem d_MD_sectionOf_567 : decode b_MD_sectionOf 567 = .ok (.aload_n 0, 1) := by decide +kernel
theorem d_MD_sectionOf_568 : decode b_MD_sectionOf 568 = .ok (.getfield 492, 3) := by decide +kernel
theorem d_MD_sectionOf_571 : decode b_MD_sectionOf 571 = .ok (.aload_n 0, 1) := by decide +kernel
theorem d_MD_sectionOf_572 : decode b_MD_sectionOf 572 = .ok (.ldc2_w 548, 3) := by decide +kernel
theorem d_MD_sectionOf_575 : decode b_MD_sectionOf 575 = .ok (.invokevirtual 506, 3) := by decide +kernel
theorem d_MD_sectionOf_578 : decode b_MD_sectionOf 578 = .ok (.putfield 516, 3) := by decide +kernel
theorem d_MD_sectionOf_581 : decode b_MD_sectionOf 581 = .ok (.iconst 0, 1) := by decide +kernel
theorem d_MD_sectionOf_582 : decode b_MD_sectionOf 582 = .ok (.istore_n 3, 1) := by decide +kernel
theorem d_MD_sectionOf_583 : decode b_MD_sectionOf 583 = .ok (.iload_n 3, 1) := by decide +kernel
theorem d_MD_sectionOf_584 : decode b_MD_sectionOf 584 = .ok (.aload_n 0, 1) := by decide +kernel
theorem d_MD_sectionOf_585 : decode b_MD_sectionOf 585 = .ok (.getfield 492, 3) := by decide +kernel
theorem d_MD_sectionOf_588 : decode b_MD_sectionOf 588 = .ok (.getfield 516, 3) := by decide +kernel
theorem d_MD_sectionOf_591 : decode b_MD_sectionOf 591 = .ok (.if_icmp .ge 14, 3) := by decide +kernel
theorem d_MD_sectionOf_594 : decode b_MD_sectionOf 594 = .ok (.aload_n 0, 1) := by decide +kernel
theorem d_MD_sectionOf_595 : decode b_MD_sectionOf 595 = .ok (.iload_n 3, 1) := by decide +kernel
theorem d_MD_sectionOf_596 : decode b_MD_sectionOf 596 = .ok (.invokevirtual 582, 3) := by decide +kernel
theorem d_MD_sectionOf_599 : decode b_MD_sectionOf 599 = .ok (.iinc 3 1, 3) := by decide +kernel
theorem d_MD_sectionOf_602 : decode b_MD_sectionOf 602 = .ok (.goto (-19), 3) := by decide +kernel
theorem d_MD_sectionOf_605 : decode b_MD_sectionOf 605 = .ok (.goto 11, 3) := by decide +kernel
theorem d_MD_sectionOf_608 : decode b_MD_sectionOf 608 = .ok (.aload_n 0, 1) := by decide +kernel
theorem d_MD_sectionOf_609 : decode b_MD_sectionOf 609 = .ok (.bipush 7, 2) := by decide +kernel
theorem d_MD_sectionOf_611 : decode b_MD_sectionOf 611 = .ok (.iconst (-1), 1) := by decide +kernel
theorem d_MD_sectionOf_612 : decode b_MD_sectionOf 612 = .ok (.invokevirtual 115, 3) := by decide +kernel
theorem d_MD_sectionOf_615 : decode b_MD_sectionOf 615 = .ok (.athrow, 1) := by decide +kernel
theorem d_MD_sectionOf_616 : decode b_MD_sectionOf 616 = .ok (.return_, 1) := by decide +kernel
theorem kM_MD_565 : Cond.methodLink R_MD 565 y_MD_globalOf ∈ lw_g := in_g 2900 (by decide +kernel) rfl
theorem kV_MD_globalOf : Cond.instanceMethod y_MD_globalOf ∈ lw_g := in_g 2902 (by decide +kernel) rfl
theorem kS_MD_globalOf : Cond.selects R_MD y_MD_globalOf y_MD_globalOf ∈ lw_g := in_s 175 (by decide +kernel) rfl
theorem kM_MD_582 : Cond.methodLink R_MD 582 y_MD_codeOf ∈ lw_g := in_g 2909 (by decide +kernel) rfl
theorem kV_MD_codeOf : Cond.instanceMethod y_MD_codeOf ∈ lw_g := in_g 2911 (by decide +kernel) rfl
theorem kS_MD_codeOf : Cond.selects R_MD y_MD_codeOf y_MD_codeOf ∈ lw_g := in_s 177 (by decide +kernel) rfl
theorem kL_MD_531 : Cond.constantLong R_MD 531 (20) ∈ lw_g := in_g 2884 (by decide +kernel) rfl
theorem kL_MD_536 : Cond.constantLong R_MD 536 (8) ∈ lw_g := in_g 2889 (by decide +kernel) rfl
theorem kL_MD_548 : Cond.constantLong R_MD 548 (30) ∈ lw_g := in_g 2894 (by decide +kernel) rfl
theorem kL_MD_560 : Cond.constantLong R_MD 560 (65536) ∈ lw_g := in_g 2899 (by decide +kernel) rfl
theorem kL_MD_568 : Cond.constantLong R_MD 568 (40) ∈ lw_g := in_g 2908 (by decide +kernel) rfl

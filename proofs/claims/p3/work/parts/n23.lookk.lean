/-! the reference: looking at a statement, as a contract -/
abbrev b_MD_look1 : ByteArray := prog_15_method_32_code
def y_MD_look1 : MethodName := ⟨R_MD, "look", "(LWaferForgeModel$N;)V"⟩
abbrev w_MD_look1 : List Cond := .code y_MD_look1 b_MD_look1 5 none :: lw_g
theorem kC_MD_look1 : Cond.code y_MD_look1 b_MD_look1 5 none ∈ lw_g := in_g 2672 (by decide +kernel) rfl
theorem d_MD_look1_0 : decode b_MD_look1 0 = .ok (.aload_n 1, 1) := by decide +kernel
theorem d_MD_look1_1 : decode b_MD_look1 1 = .ok (.getfield 129, 3) := by decide +kernel
theorem d_MD_look1_4 : decode b_MD_look1 4 = .ok (.tableswitch 483 10 18 #[91, 243, 276, 333, 391, 391, 409, 483, 52], 52) := by decide +kernel
theorem d_MD_look1_56 : decode b_MD_look1 56 = .ok (.aload_n 0, 1) := by decide +kernel
theorem d_MD_look1_57 : decode b_MD_look1 57 = .ok (.getfield 307, 3) := by decide +kernel
theorem d_MD_look1_60 : decode b_MD_look1 60 = .ok (.istore_n 2, 1) := by decide +kernel
theorem d_MD_look1_61 : decode b_MD_look1 61 = .ok (.iconst 0, 1) := by decide +kernel
theorem d_MD_look1_62 : decode b_MD_look1 62 = .ok (.istore_n 3, 1) := by decide +kernel
theorem d_MD_look1_63 : decode b_MD_look1 63 = .ok (.iload_n 3, 1) := by decide +kernel
theorem d_MD_look1_64 : decode b_MD_look1 64 = .ok (.aload_n 1, 1) := by decide +kernel
theorem d_MD_look1_65 : decode b_MD_look1 65 = .ok (.getfield 300, 3) := by decide +kernel
theorem d_MD_look1_68 : decode b_MD_look1 68 = .ok (.if_icmp .ge 19, 3) := by decide +kernel
theorem d_MD_look1_71 : decode b_MD_look1 71 = .ok (.aload_n 0, 1) := by decide +kernel
theorem d_MD_look1_72 : decode b_MD_look1 72 = .ok (.aload_n 1, 1) := by decide +kernel
theorem d_MD_look1_73 : decode b_MD_look1 73 = .ok (.getfield 331, 3) := by decide +kernel
theorem d_MD_look1_76 : decode b_MD_look1 76 = .ok (.iload_n 3, 1) := by decide +kernel
theorem d_MD_look1_77 : decode b_MD_look1 77 = .ok (.aaload, 1) := by decide +kernel
theorem d_MD_look1_78 : decode b_MD_look1 78 = .ok (.invokevirtual 322, 3) := by decide +kernel
theorem d_MD_look1_81 : decode b_MD_look1 81 = .ok (.iinc 3 1, 3) := by decide +kernel
theorem d_MD_look1_84 : decode b_MD_look1 84 = .ok (.goto (-21), 3) := by decide +kernel
theorem d_MD_look1_87 : decode b_MD_look1 87 = .ok (.aload_n 0, 1) := by decide +kernel
theorem d_MD_look1_88 : decode b_MD_look1 88 = .ok (.iload_n 2, 1) := by decide +kernel
theorem d_MD_look1_89 : decode b_MD_look1 89 = .ok (.putfield 307, 3) := by decide +kernel
theorem d_MD_look1_92 : decode b_MD_look1 92 = .ok (.goto 406, 3) := by decide +kernel
theorem d_MD_look1_95 : decode b_MD_look1 95 = .ok (.aload_n 0, 1) := by decide +kernel
theorem d_MD_look1_96 : decode b_MD_look1 96 = .ok (.aload_n 0, 1) := by decide +kernel
theorem d_MD_look1_97 : decode b_MD_look1 97 = .ok (.aload_n 1, 1) := by decide +kernel
theorem d_MD_look1_98 : decode b_MD_look1 98 = .ok (.getfield 331, 3) := by decide +kernel
theorem d_MD_look1_101 : decode b_MD_look1 101 = .ok (.iconst 0, 1) := by decide +kernel
theorem d_MD_look1_102 : decode b_MD_look1 102 = .ok (.aaload, 1) := by decide +kernel
theorem d_MD_look1_103 : decode b_MD_look1 103 = .ok (.invokevirtual 335, 3) := by decide +kernel
theorem d_MD_look1_106 : decode b_MD_look1 106 = .ok (.aload_n 1, 1) := by decide +kernel
theorem d_MD_look1_107 : decode b_MD_look1 107 = .ok (.getfield 259, 3) := by decide +kernel
theorem d_MD_look1_110 : decode b_MD_look1 110 = .ok (.if_icmp .ne 7, 3) := by decide +kernel
theorem d_MD_look1_113 : decode b_MD_look1 113 = .ok (.iconst 1, 1) := by decide +kernel
theorem d_MD_look1_114 : decode b_MD_look1 114 = .ok (.goto 4, 3) := by decide +kernel
theorem d_MD_look1_117 : decode b_MD_look1 117 = .ok (.iconst 0, 1) := by decide +kernel
theorem d_MD_look1_118 : decode b_MD_look1 118 = .ok (.aload_n 1, 1) := by decide +kernel
theorem d_MD_look1_119 : decode b_MD_look1 119 = .ok (.invokevirtual 339, 3) := by decide +kernel
theorem d_MD_look1_122 : decode b_MD_look1 122 = .ok (.aload_n 0, 1) := by decide +kernel
theorem d_MD_look1_123 : decode b_MD_look1 123 = .ok (.aload_n 1, 1) := by decide +kernel
theorem d_MD_look1_124 : decode b_MD_look1 124 = .ok (.getfield 258, 3) := by decide +kernel
theorem d_MD_look1_127 : decode b_MD_look1 127 = .ok (.invokevirtual 313, 3) := by decide +kernel
theorem d_MD_look1_130 : decode b_MD_look1 130 = .ok (.ifCond .lt 13, 3) := by decide +kernel
theorem d_MD_look1_133 : decode b_MD_look1 133 = .ok (.aload_n 0, 1) := by decide +kernel
theorem d_MD_look1_134 : decode b_MD_look1 134 = .ok (.iconst 4, 1) := by decide +kernel
theorem d_MD_look1_135 : decode b_MD_look1 135 = .ok (.aload_n 1, 1) := by decide +kernel
theorem d_MD_look1_136 : decode b_MD_look1 136 = .ok (.getfield 132, 3) := by decide +kernel
theorem d_MD_look1_139 : decode b_MD_look1 139 = .ok (.invokevirtual 115, 3) := by decide +kernel
theorem d_MD_look1_142 : decode b_MD_look1 142 = .ok (.athrow, 1) := by decide +kernel
theorem d_MD_look1_143 : decode b_MD_look1 143 = .ok (.aload_n 0, 1) := by decide +kernel
theorem d_MD_look1_144 : decode b_MD_look1 144 = .ok (.getfield 303, 3) := by decide +kernel
theorem d_MD_look1_147 : decode b_MD_look1 147 = .ok (.getfield 319, 3) := by decide +kernel
theorem d_MD_look1_150 : decode b_MD_look1 150 = .ok (.bipush 50, 2) := by decide +kernel
theorem d_MD_look1_152 : decode b_MD_look1 152 = .ok (.if_icmp .ne 13, 3) := by decide +kernel
theorem d_MD_look1_155 : decode b_MD_look1 155 = .ok (.aload_n 0, 1) := by decide +kernel
theorem d_MD_look1_156 : decode b_MD_look1 156 = .ok (.iconst 5, 1) := by decide +kernel
theorem d_MD_look1_157 : decode b_MD_look1 157 = .ok (.aload_n 1, 1) := by decide +kernel
theorem d_MD_look1_158 : decode b_MD_look1 158 = .ok (.getfield 132, 3) := by decide +kernel
theorem d_MD_look1_161 : decode b_MD_look1 161 = .ok (.invokevirtual 115, 3) := by decide +kernel
theorem d_MD_look1_164 : decode b_MD_look1 164 = .ok (.athrow, 1) := by decide +kernel
theorem d_MD_look1_165 : decode b_MD_look1 165 = .ok (.aload_n 1, 1) := by decide +kernel
theorem d_MD_look1_166 : decode b_MD_look1 166 = .ok (.aload_n 0, 1) := by decide +kernel
theorem d_MD_look1_167 : decode b_MD_look1 167 = .ok (.getfield 303, 3) := by decide +kernel
theorem d_MD_look1_170 : decode b_MD_look1 170 = .ok (.getfield 319, 3) := by decide +kernel
theorem d_MD_look1_173 : decode b_MD_look1 173 = .ok (.putfield 325, 3) := by decide +kernel
theorem d_MD_look1_176 : decode b_MD_look1 176 = .ok (.aload_n 0, 1) := by decide +kernel
theorem d_MD_look1_177 : decode b_MD_look1 177 = .ok (.getfield 303, 3) := by decide +kernel
theorem d_MD_look1_180 : decode b_MD_look1 180 = .ok (.getfield 214, 3) := by decide +kernel
theorem d_MD_look1_183 : decode b_MD_look1 183 = .ok (.aload_n 1, 1) := by decide +kernel
theorem d_MD_look1_184 : decode b_MD_look1 184 = .ok (.getfield 325, 3) := by decide +kernel
theorem d_MD_look1_187 : decode b_MD_look1 187 = .ok (.aload_n 1, 1) := by decide +kernel
theorem d_MD_look1_188 : decode b_MD_look1 188 = .ok (.getfield 258, 3) := by decide +kernel
theorem d_MD_look1_191 : decode b_MD_look1 191 = .ok (.aastore, 1) := by decide +kernel
theorem d_MD_look1_192 : decode b_MD_look1 192 = .ok (.aload_n 0, 1) := by decide +kernel
theorem d_MD_look1_193 : decode b_MD_look1 193 = .ok (.getfield 303, 3) := by decide +kernel
theorem d_MD_look1_196 : decode b_MD_look1 196 = .ok (.getfield 217, 3) := by decide +kernel
theorem d_MD_look1_199 : decode b_MD_look1 199 = .ok (.aload_n 1, 1) := by decide +kernel
theorem d_MD_look1_200 : decode b_MD_look1 200 = .ok (.getfield 325, 3) := by decide +kernel
theorem d_MD_look1_203 : decode b_MD_look1 203 = .ok (.aload_n 1, 1) := by decide +kernel
theorem d_MD_look1_204 : decode b_MD_look1 204 = .ok (.getfield 259, 3) := by decide +kernel
theorem d_MD_look1_207 : decode b_MD_look1 207 = .ok (.iastore, 1) := by decide +kernel
theorem d_MD_look1_208 : decode b_MD_look1 208 = .ok (.aload_n 0, 1) := by decide +kernel
theorem d_MD_look1_209 : decode b_MD_look1 209 = .ok (.getfield 303, 3) := by decide +kernel
theorem d_MD_look1_212 : decode b_MD_look1 212 = .ok (.dup, 1) := by decide +kernel
theorem d_MD_look1_213 : decode b_MD_look1 213 = .ok (.getfield 319, 3) := by decide +kernel
theorem d_MD_look1_216 : decode b_MD_look1 216 = .ok (.iconst 1, 1) := by decide +kernel
theorem d_MD_look1_217 : decode b_MD_look1 217 = .ok (.iadd, 1) := by decide +kernel
theorem d_MD_look1_218 : decode b_MD_look1 218 = .ok (.putfield 319, 3) := by decide +kernel
theorem d_MD_look1_221 : decode b_MD_look1 221 = .ok (.aload_n 0, 1) := by decide +kernel
theorem d_MD_look1_222 : decode b_MD_look1 222 = .ok (.getfield 316, 3) := by decide +kernel
theorem d_MD_look1_225 : decode b_MD_look1 225 = .ok (.aload_n 0, 1) := by decide +kernel
theorem d_MD_look1_226 : decode b_MD_look1 226 = .ok (.getfield 307, 3) := by decide +kernel
theorem d_MD_look1_229 : decode b_MD_look1 229 = .ok (.aload_n 1, 1) := by decide +kernel
theorem d_MD_look1_230 : decode b_MD_look1 230 = .ok (.getfield 325, 3) := by decide +kernel
theorem d_MD_look1_233 : decode b_MD_look1 233 = .ok (.iastore, 1) := by decide +kernel
theorem d_MD_look1_234 : decode b_MD_look1 234 = .ok (.aload_n 0, 1) := by decide +kernel
theorem d_MD_look1_235 : decode b_MD_look1 235 = .ok (.dup, 1) := by decide +kernel
theorem d_MD_look1_236 : decode b_MD_look1 236 = .ok (.getfield 307, 3) := by decide +kernel
theorem d_MD_look1_239 : decode b_MD_look1 239 = .ok (.iconst 1, 1) := by decide +kernel
theorem d_MD_look1_240 : decode b_MD_look1 240 = .ok (.iadd, 1) := by decide +kernel
theorem d_MD_look1_241 : decode b_MD_look1 241 = .ok (.putfield 307, 3) := by decide +kernel
theorem d_MD_look1_244 : decode b_MD_look1 244 = .ok (.goto 254, 3) := by decide +kernel
theorem d_MD_look1_247 : decode b_MD_look1 247 = .ok (.aload_n 0, 1) := by decide +kernel
theorem d_MD_look1_248 : decode b_MD_look1 248 = .ok (.aload_n 1, 1) := by decide +kernel
theorem d_MD_look1_249 : decode b_MD_look1 249 = .ok (.getfield 331, 3) := by decide +kernel
theorem d_MD_look1_252 : decode b_MD_look1 252 = .ok (.iconst 0, 1) := by decide +kernel
theorem d_MD_look1_253 : decode b_MD_look1 253 = .ok (.aaload, 1) := by decide +kernel
theorem d_MD_look1_254 : decode b_MD_look1 254 = .ok (.invokevirtual 335, 3) := by decide +kernel
theorem d_MD_look1_257 : decode b_MD_look1 257 = .ok (.istore_n 3, 1) := by decide +kernel
theorem d_MD_look1_258 : decode b_MD_look1 258 = .ok (.aload_n 0, 1) := by decide +kernel
theorem d_MD_look1_259 : decode b_MD_look1 259 = .ok (.iload_n 3, 1) := by decide +kernel
theorem d_MD_look1_260 : decode b_MD_look1 260 = .ok (.aload_n 0, 1) := by decide +kernel
theorem d_MD_look1_261 : decode b_MD_look1 261 = .ok (.aload_n 1, 1) := by decide +kernel
theorem d_MD_look1_262 : decode b_MD_look1 262 = .ok (.invokevirtual 343, 3) := by decide +kernel
theorem d_MD_look1_265 : decode b_MD_look1 265 = .ok (.if_icmp .ne 7, 3) := by decide +kernel
theorem d_MD_look1_268 : decode b_MD_look1 268 = .ok (.iconst 1, 1) := by decide +kernel
theorem d_MD_look1_269 : decode b_MD_look1 269 = .ok (.goto 4, 3) := by decide +kernel
theorem d_MD_look1_272 : decode b_MD_look1 272 = .ok (.iconst 0, 1) := by decide +kernel
theorem d_MD_look1_273 : decode b_MD_look1 273 = .ok (.aload_n 1, 1) := by decide +kernel
theorem d_MD_look1_274 : decode b_MD_look1 274 = .ok (.invokevirtual 339, 3) := by decide +kernel
theorem d_MD_look1_277 : decode b_MD_look1 277 = .ok (.goto 221, 3) := by decide +kernel
theorem d_MD_look1_280 : decode b_MD_look1 280 = .ok (.aload_n 0, 1) := by decide +kernel
theorem d_MD_look1_281 : decode b_MD_look1 281 = .ok (.aload_n 0, 1) := by decide +kernel
theorem d_MD_look1_282 : decode b_MD_look1 282 = .ok (.aload_n 1, 1) := by decide +kernel
theorem d_MD_look1_283 : decode b_MD_look1 283 = .ok (.getfield 331, 3) := by decide +kernel
theorem d_MD_look1_286 : decode b_MD_look1 286 = .ok (.iconst 0, 1) := by decide +kernel
theorem d_MD_look1_287 : decode b_MD_look1 287 = .ok (.aaload, 1) := by decide +kernel
theorem d_MD_look1_288 : decode b_MD_look1 288 = .ok (.invokevirtual 335, 3) := by decide +kernel
theorem d_MD_look1_291 : decode b_MD_look1 291 = .ok (.bipush 127, 2) := by decide +kernel
theorem d_MD_look1_293 : decode b_MD_look1 293 = .ok (.if_icmp .ne 7, 3) := by decide +kernel
theorem d_MD_look1_296 : decode b_MD_look1 296 = .ok (.iconst 1, 1) := by decide +kernel
theorem d_MD_look1_297 : decode b_MD_look1 297 = .ok (.goto 4, 3) := by decide +kernel
theorem d_MD_look1_300 : decode b_MD_look1 300 = .ok (.iconst 0, 1) := by decide +kernel
theorem d_MD_look1_301 : decode b_MD_look1 301 = .ok (.aload_n 1, 1) := by decide +kernel
theorem d_MD_look1_302 : decode b_MD_look1 302 = .ok (.invokevirtual 339, 3) := by decide +kernel
theorem d_MD_look1_305 : decode b_MD_look1 305 = .ok (.iconst 1, 1) := by decide +kernel
theorem d_MD_look1_306 : decode b_MD_look1 306 = .ok (.istore 4, 2) := by decide +kernel
theorem d_MD_look1_308 : decode b_MD_look1 308 = .ok (.iload 4, 2) := by decide +kernel
theorem d_MD_look1_310 : decode b_MD_look1 310 = .ok (.aload_n 1, 1) := by decide +kernel
theorem d_MD_look1_311 : decode b_MD_look1 311 = .ok (.getfield 300, 3) := by decide +kernel
theorem d_MD_look1_314 : decode b_MD_look1 314 = .ok (.if_icmp .ge 20, 3) := by decide +kernel
theorem d_MD_look1_317 : decode b_MD_look1 317 = .ok (.aload_n 0, 1) := by decide +kernel
theorem d_MD_look1_318 : decode b_MD_look1 318 = .ok (.aload_n 1, 1) := by decide +kernel
theorem d_MD_look1_319 : decode b_MD_look1 319 = .ok (.getfield 331, 3) := by decide +kernel
theorem d_MD_look1_322 : decode b_MD_look1 322 = .ok (.iload 4, 2) := by decide +kernel
theorem d_MD_look1_324 : decode b_MD_look1 324 = .ok (.aaload, 1) := by decide +kernel
theorem d_MD_look1_325 : decode b_MD_look1 325 = .ok (.invokevirtual 322, 3) := by decide +kernel
theorem d_MD_look1_328 : decode b_MD_look1 328 = .ok (.iinc 4 1, 3) := by decide +kernel
theorem d_MD_look1_331 : decode b_MD_look1 331 = .ok (.goto (-23), 3) := by decide +kernel
theorem d_MD_look1_334 : decode b_MD_look1 334 = .ok (.goto 164, 3) := by decide +kernel
theorem d_MD_look1_337 : decode b_MD_look1 337 = .ok (.aload_n 0, 1) := by decide +kernel
theorem d_MD_look1_338 : decode b_MD_look1 338 = .ok (.aload_n 0, 1) := by decide +kernel
theorem d_MD_look1_339 : decode b_MD_look1 339 = .ok (.aload_n 1, 1) := by decide +kernel
theorem d_MD_look1_340 : decode b_MD_look1 340 = .ok (.getfield 331, 3) := by decide +kernel
theorem d_MD_look1_343 : decode b_MD_look1 343 = .ok (.iconst 0, 1) := by decide +kernel
theorem d_MD_look1_344 : decode b_MD_look1 344 = .ok (.aaload, 1) := by decide +kernel
theorem d_MD_look1_345 : decode b_MD_look1 345 = .ok (.invokevirtual 335, 3) := by decide +kernel
theorem d_MD_look1_348 : decode b_MD_look1 348 = .ok (.bipush 127, 2) := by decide +kernel
theorem d_MD_look1_350 : decode b_MD_look1 350 = .ok (.if_icmp .ne 7, 3) := by decide +kernel
theorem d_MD_look1_353 : decode b_MD_look1 353 = .ok (.iconst 1, 1) := by decide +kernel
theorem d_MD_look1_354 : decode b_MD_look1 354 = .ok (.goto 4, 3) := by decide +kernel
theorem d_MD_look1_357 : decode b_MD_look1 357 = .ok (.iconst 0, 1) := by decide +kernel
theorem d_MD_look1_358 : decode b_MD_look1 358 = .ok (.aload_n 1, 1) := by decide +kernel
theorem d_MD_look1_359 : decode b_MD_look1 359 = .ok (.invokevirtual 339, 3) := by decide +kernel
theorem d_MD_look1_362 : decode b_MD_look1 362 = .ok (.aload_n 0, 1) := by decide +kernel
theorem d_MD_look1_363 : decode b_MD_look1 363 = .ok (.dup, 1) := by decide +kernel
theorem d_MD_look1_364 : decode b_MD_look1 364 = .ok (.getfield 310, 3) := by decide +kernel
theorem d_MD_look1_367 : decode b_MD_look1 367 = .ok (.iconst 1, 1) := by decide +kernel
theorem d_MD_look1_368 : decode b_MD_look1 368 = .ok (.iadd, 1) := by decide +kernel
theorem d_MD_look1_369 : decode b_MD_look1 369 = .ok (.putfield 310, 3) := by decide +kernel
theorem d_MD_look1_372 : decode b_MD_look1 372 = .ok (.aload_n 0, 1) := by decide +kernel
theorem d_MD_look1_373 : decode b_MD_look1 373 = .ok (.aload_n 1, 1) := by decide +kernel
theorem d_MD_look1_374 : decode b_MD_look1 374 = .ok (.getfield 331, 3) := by decide +kernel
theorem d_MD_look1_377 : decode b_MD_look1 377 = .ok (.iconst 1, 1) := by decide +kernel
theorem d_MD_look1_378 : decode b_MD_look1 378 = .ok (.aaload, 1) := by decide +kernel
theorem d_MD_look1_379 : decode b_MD_look1 379 = .ok (.invokevirtual 322, 3) := by decide +kernel
theorem d_MD_look1_382 : decode b_MD_look1 382 = .ok (.aload_n 0, 1) := by decide +kernel
theorem d_MD_look1_383 : decode b_MD_look1 383 = .ok (.dup, 1) := by decide +kernel
theorem d_MD_look1_384 : decode b_MD_look1 384 = .ok (.getfield 310, 3) := by decide +kernel
theorem d_MD_look1_387 : decode b_MD_look1 387 = .ok (.iconst 1, 1) := by decide +kernel
theorem d_MD_look1_388 : decode b_MD_look1 388 = .ok (.isub, 1) := by decide +kernel
theorem d_MD_look1_389 : decode b_MD_look1 389 = .ok (.putfield 310, 3) := by decide +kernel
theorem d_MD_look1_392 : decode b_MD_look1 392 = .ok (.goto 106, 3) := by decide +kernel
theorem d_MD_look1_395 : decode b_MD_look1 395 = .ok (.aload_n 0, 1) := by decide +kernel
theorem d_MD_look1_396 : decode b_MD_look1 396 = .ok (.getfield 310, 3) := by decide +kernel
theorem d_MD_look1_399 : decode b_MD_look1 399 = .ok (.ifCond .ne 99, 3) := by decide +kernel
theorem d_MD_look1_402 : decode b_MD_look1 402 = .ok (.aload_n 0, 1) := by decide +kernel
theorem d_MD_look1_403 : decode b_MD_look1 403 = .ok (.bipush 6, 2) := by decide +kernel
theorem d_MD_look1_405 : decode b_MD_look1 405 = .ok (.aload_n 1, 1) := by decide +kernel
theorem d_MD_look1_406 : decode b_MD_look1 406 = .ok (.getfield 132, 3) := by decide +kernel
theorem d_MD_look1_409 : decode b_MD_look1 409 = .ok (.invokevirtual 115, 3) := by decide +kernel
theorem d_MD_look1_412 : decode b_MD_look1 412 = .ok (.athrow, 1) := by decide +kernel
theorem d_MD_look1_413 : decode b_MD_look1 413 = .ok (.aload_n 0, 1) := by decide +kernel
theorem d_MD_look1_414 : decode b_MD_look1 414 = .ok (.aload_n 1, 1) := by decide +kernel
theorem d_MD_look1_415 : decode b_MD_look1 415 = .ok (.getfield 300, 3) := by decide +kernel
theorem d_MD_look1_418 : decode b_MD_look1 418 = .ok (.ifCond .ne 7, 3) := by decide +kernel
theorem d_MD_look1_421 : decode b_MD_look1 421 = .ok (.iconst 0, 1) := by decide +kernel
theorem d_MD_look1_422 : decode b_MD_look1 422 = .ok (.goto 13, 3) := by decide +kernel
theorem d_MD_look1_425 : decode b_MD_look1 425 = .ok (.aload_n 0, 1) := by decide +kernel
theorem d_MD_look1_426 : decode b_MD_look1 426 = .ok (.aload_n 1, 1) := by decide +kernel
theorem d_MD_look1_427 : decode b_MD_look1 427 = .ok (.getfield 331, 3) := by decide +kernel
theorem d_MD_look1_430 : decode b_MD_look1 430 = .ok (.iconst 0, 1) := by decide +kernel
theorem d_MD_look1_431 : decode b_MD_look1 431 = .ok (.aaload, 1) := by decide +kernel
theorem d_MD_look1_432 : decode b_MD_look1 432 = .ok (.invokevirtual 335, 3) := by decide +kernel
theorem d_MD_look1_435 : decode b_MD_look1 435 = .ok (.aload_n 0, 1) := by decide +kernel
theorem d_MD_look1_436 : decode b_MD_look1 436 = .ok (.getfield 303, 3) := by decide +kernel
theorem d_MD_look1_439 : decode b_MD_look1 439 = .ok (.getfield 222, 3) := by decide +kernel
theorem d_MD_look1_442 : decode b_MD_look1 442 = .ok (.if_icmp .ne 37, 3) := by decide +kernel
theorem d_MD_look1_445 : decode b_MD_look1 445 = .ok (.aload_n 1, 1) := by decide +kernel
theorem d_MD_look1_446 : decode b_MD_look1 446 = .ok (.getfield 300, 3) := by decide +kernel
theorem d_MD_look1_449 : decode b_MD_look1 449 = .ok (.ifCond .le 7, 3) := by decide +kernel
theorem d_MD_look1_452 : decode b_MD_look1 452 = .ok (.iconst 1, 1) := by decide +kernel
theorem d_MD_look1_453 : decode b_MD_look1 453 = .ok (.goto 4, 3) := by decide +kernel
theorem d_MD_look1_456 : decode b_MD_look1 456 = .ok (.iconst 0, 1) := by decide +kernel
theorem d_MD_look1_457 : decode b_MD_look1 457 = .ok (.aload_n 0, 1) := by decide +kernel
theorem d_MD_look1_458 : decode b_MD_look1 458 = .ok (.getfield 303, 3) := by decide +kernel
theorem d_MD_look1_461 : decode b_MD_look1 461 = .ok (.getfield 222, 3) := by decide +kernel
theorem d_MD_look1_464 : decode b_MD_look1 464 = .ok (.ifCond .eq 7, 3) := by decide +kernel
theorem d_MD_look1_467 : decode b_MD_look1 467 = .ok (.iconst 1, 1) := by decide +kernel
theorem d_MD_look1_468 : decode b_MD_look1 468 = .ok (.goto 4, 3) := by decide +kernel
theorem d_MD_look1_471 : decode b_MD_look1 471 = .ok (.iconst 0, 1) := by decide +kernel
theorem d_MD_look1_472 : decode b_MD_look1 472 = .ok (.if_icmp .ne 7, 3) := by decide +kernel
theorem d_MD_look1_475 : decode b_MD_look1 475 = .ok (.iconst 1, 1) := by decide +kernel
theorem d_MD_look1_476 : decode b_MD_look1 476 = .ok (.goto 4, 3) := by decide +kernel
theorem d_MD_look1_479 : decode b_MD_look1 479 = .ok (.iconst 0, 1) := by decide +kernel
theorem d_MD_look1_480 : decode b_MD_look1 480 = .ok (.aload_n 1, 1) := by decide +kernel
theorem d_MD_look1_481 : decode b_MD_look1 481 = .ok (.invokevirtual 339, 3) := by decide +kernel
theorem d_MD_look1_484 : decode b_MD_look1 484 = .ok (.goto 14, 3) := by decide +kernel
theorem d_MD_look1_487 : decode b_MD_look1 487 = .ok (.aload_n 0, 1) := by decide +kernel
theorem d_MD_look1_488 : decode b_MD_look1 488 = .ok (.aload_n 1, 1) := by decide +kernel
theorem d_MD_look1_489 : decode b_MD_look1 489 = .ok (.getfield 331, 3) := by decide +kernel
theorem d_MD_look1_492 : decode b_MD_look1 492 = .ok (.iconst 0, 1) := by decide +kernel
theorem d_MD_look1_493 : decode b_MD_look1 493 = .ok (.aaload, 1) := by decide +kernel
theorem d_MD_look1_494 : decode b_MD_look1 494 = .ok (.invokevirtual 335, 3) := by decide +kernel
theorem d_MD_look1_497 : decode b_MD_look1 497 = .ok (.pop, 1) := by decide +kernel
theorem d_MD_look1_498 : decode b_MD_look1 498 = .ok (.return_, 1) := by decide +kernel
theorem kM_MD_322 : Cond.methodLink R_MD 322 y_MD_look1 ∈ lw_g := in_g 2669 (by decide +kernel) rfl
theorem kV_MD_look1 : Cond.instanceMethod y_MD_look1 ∈ lw_g := in_g 2671 (by decide +kernel) rfl
theorem kS_MD_look1 : Cond.selects R_MD y_MD_look1 y_MD_look1 ∈ lw_g := in_s 146 (by decide +kernel) rfl
abbrev at_MD_look1 (dC : Nat → ClassId) (dI : Nat → Nat → Nat) (sz szl : Nat) (sa : Nat → Nat) (h0 rf tap gnm gpl gty gvl fun_ lev po_now kno mad mag h0_smalls_r h0_greats_r h0_module_r h0_spare_r blk stk hgt lab ous kis los mem glo val ffu fre fba fla lat lhe rsl arg : Nat) (cgnm cgty cfun_ ckno cr cpn cpb cps : ClassId) (h0_taped : Int32) (h0_length : Int32) (h0_kind : Int32) (h0_from : Int32) (h0_to : Int32) (h0_word : Value) (h0_numeral : Int64) (h0_globalCount : Int32) (h0_funCount : Int32) (h0_open : Int32) (h0_signs : Int32) (h0_madeLength : Int32) (h0_m : Value) (h0_cursor : Int32) (h0_limit : Int32) (h0_top : Int32) (h0_depth : Int32) (h0_function : Int32) (h0_pages : Int32) (h0_valueTop : Int32) (h0_frames : Int32) (h0_labelTop : Int32) (h0_steps : Int32) (h0_there : Int32) (h0_resultLength : Int32) (h0_reason : Int32) (h0_place : Int32) (h0_argumentCount : Int32) (h0_code : Int32) (rf_backtrace : Value) (rf_detailMessage : Value) (rf_cause : Value) (rf_stackTrace : Value) (rf_depth : Int32) (rf_suppressedExceptions : Value) (ggnm : Nat → Option Nat) (ggty : Nat → Int32) (gfun_ : Nat → Option Nat) (LP : List Nat) (A : Nat → Prop) (u : (Nat → Int32) × Int32 × Int32 × Int32 × Int32 × Nat × Nat × (Nat → va_E)) (t : State) : Prop := match u with | (gkno, h0_knownCount, h0_loops, rf_place, rf_reason, kcz, knz, fP) => va_P (dC, dI) cls2 ([(h0, .inr (11, (.ref rf :: .ref tap :: .int h0_taped :: .int h0_length :: .int h0_kind :: .int h0_from :: .int h0_to :: h0_word :: .long h0_numeral :: .ref gnm :: .ref gpl :: .ref gty :: .ref gvl :: .int h0_globalCount :: .ref fun_ :: .int h0_funCount :: .int h0_open :: .int h0_signs :: .ref lev :: .ref po_now :: .ref kno :: .int h0_knownCount :: .int h0_loops :: .ref mad :: .int h0_madeLength :: .ref mag :: .ref h0_smalls_r :: .ref h0_greats_r :: .ref h0_module_r :: .ref h0_spare_r :: h0_m :: .int h0_cursor :: .int h0_limit :: [ .ref blk, .ref stk, .int h0_top, .ref hgt, .ref lab, .ref ous, .ref kis, .ref los, .int h0_depth, .int h0_function, .ref mem, .int h0_pages, .ref glo, .ref val, .int h0_valueTop, .ref ffu, .ref fre, .ref fba, .ref fla, .int h0_frames, .ref lat, .ref lhe, .int h0_labelTop, .int h0_steps, .int h0_there, .ref rsl, .int h0_resultLength, .int h0_reason, .int h0_place, .ref arg, .int h0_argumentCount, .int h0_code]))), (rf, .inr (15, [rf_backtrace, rf_detailMessage, rf_cause, rf_stackTrace, .int rf_depth, rf_suppressedExceptions, .int rf_reason, .int rf_place])), (gnm, .inl (cgnm, 20, .inr (.inr (.inr (.inr ggnm))))), (gty, .inl (cgty, 20, .inl ggty)), (fun_, .inl (cfun_, 20, .inr (.inr (.inr (.inr gfun_))))), (kno, .inl (ckno, 51, .inl gkno))] ++ va_pl LP fP) t.heap ∧ va_K (dC, dI) cls2 [(cgnm, .object "java/lang/String"), (cgty, .int), (cfun_, .object "WaferForgeModel$Fun"), (ckno, .int), (cr, .int), (cpn, .object "WaferForgeModel$N"), (cpb, .byte), (cps, .object "java/lang/String")] t ∧ va_D A ([(h0, .inr (11, (.ref rf :: .ref tap :: .int h0_taped :: .int h0_length :: .int h0_kind :: .int h0_from :: .int h0_to :: h0_word :: .long h0_numeral :: .ref gnm :: .ref gpl :: .ref gty :: .ref gvl :: .int h0_globalCount :: .ref fun_ :: .int h0_funCount :: .int h0_open :: .int h0_signs :: .ref lev :: .ref po_now :: .ref kno :: .int h0_knownCount :: .int h0_loops :: .ref mad :: .int h0_madeLength :: .ref mag :: .ref h0_smalls_r :: .ref h0_greats_r :: .ref h0_module_r :: .ref h0_spare_r :: h0_m :: .int h0_cursor :: .int h0_limit :: [ .ref blk, .ref stk, .int h0_top, .ref hgt, .ref lab, .ref ous, .ref kis, .ref los, .int h0_depth, .int h0_function, .ref mem, .int h0_pages, .ref glo, .ref val, .int h0_valueTop, .ref ffu, .ref fre, .ref fba, .ref fla, .int h0_frames, .ref lat, .ref lhe, .int h0_labelTop, .int h0_steps, .int h0_there, .ref rsl, .int h0_resultLength, .int h0_reason, .int h0_place, .ref arg, .int h0_argumentCount, .int h0_code]))), (rf, .inr (15, [rf_backtrace, rf_detailMessage, rf_cause, rf_stackTrace, .int rf_depth, rf_suppressedExceptions, .int rf_reason, .int rf_place])), (gnm, .inl (cgnm, 20, .inr (.inr (.inr (.inr ggnm))))), (gty, .inl (cgty, 20, .inl ggty)), (fun_, .inl (cfun_, 20, .inr (.inr (.inr (.inr gfun_))))), (kno, .inl (ckno, 51, .inl gkno))] ++ va_pl LP fP) ∧ t.heap.size ≤ sz + kcz ∧ hsl t.heap ≤ szl + knz
def k_MD_look1 (l : Launch) (dep : Nat) : Prop := ∀ (dC : Nat → ClassId) (dI : Nat → Nat → Nat) (sz : Nat) (szl : Nat) (sa : Nat → Nat) (h0 rf tap gnm gpl gty gvl fun_ lev po_now kno mad mag h0_smalls_r h0_greats_r h0_module_r h0_spare_r blk stk hgt lab ous kis los mem glo val ffu fre fba fla lat lhe rsl arg : Nat) (cgnm cgty cfun_ ckno cr cpn cpb cps : ClassId) (h0_taped : Int32) (h0_length : Int32) (h0_kind : Int32) (h0_from : Int32) (h0_to : Int32) (h0_word : Value) (h0_numeral : Int64) (h0_globalCount : Int32) (h0_funCount : Int32) (h0_open : Int32) (h0_signs : Int32) (h0_knownCount : Int32) (h0_loops : Int32) (h0_madeLength : Int32) (h0_m : Value) (h0_cursor : Int32) (h0_limit : Int32) (h0_top : Int32) (h0_depth : Int32) (h0_function : Int32) (h0_pages : Int32) (h0_valueTop : Int32) (h0_frames : Int32) (h0_labelTop : Int32) (h0_steps : Int32) (h0_there : Int32) (h0_resultLength : Int32) (h0_reason : Int32) (h0_place : Int32) (h0_argumentCount : Int32) (h0_code : Int32) (rf_backtrace : Value) (rf_detailMessage : Value) (rf_cause : Value) (rf_stackTrace : Value) (rf_depth : Int32) (rf_suppressedExceptions : Value) (rf_reason : Int32) (rf_place : Int32) (ggnm : Nat → Option Nat) (ggty : Nat → Int32) (gfun_ : Nat → Option Nat) (gkno : Nat → Int32) (LP : List Nat) (fP : Nat → va_E) (fnm : Value) (fpl : Int32) (po_fns : Nat) (po_fls : Nat) (po_fys : Nat) (fps : Int32) (fN : Int32) (frs : Int32) (po_fbd : Nat) (fsg : Int32) (fgn : Nat → Option Nat) (fT : Nat → Int32) (gM : Nat → Prop) (ggv : Nat → Int) (gtk : Nat → Int) (gg : Int) (gd : Nat) (ge : Nat) (gK : Nat → Prop) (gil : Bool) (gc : Int) (gb : Nat)  (b_h0_globalCount : 0 ≤ h0_globalCount.toInt ∧ h0_globalCount.toInt ≤ 20) (b_h0_funCount : 0 ≤ h0_funCount.toInt ∧ h0_funCount.toInt ≤ 20) (b_h0_knownCount : 0 ≤ h0_knownCount.toInt ∧ h0_knownCount.toInt ≤ 51) (b_h0_loops : 0 ≤ h0_loops.toInt ∧ h0_loops.toInt ≤ 1000) (po_n : Nat)  (hen : bx (env9 LP fP cps cr cpb gM po_now fnm fpl po_fns po_fls po_fys fps frs po_fbd fsg fN fgn fT h0_knownCount.toInt gkno)) (hgl : bx (glt LP fP cpb h0_globalCount.toInt ggnm ggty)) (hft : bx (ftb LP fP cr cpb h0_funCount.toInt gfun_ ggv gtk)) (hus : bx (us LP fP cpn cpb gd po_n gc gb ∧ fp LP fP cpn ge po_n gK)) (hlo : h0_loops.toInt + (gd : Int) ≤ 1000) (hil : bx (h0_loops.toInt ≠ 0 → gil = true)) (hrs : bx ((frs.toInt = 0 → gg = 64) ∧ (frs.toInt = 0 ∨ t27 frs.toInt))) (hdp : gd < dep), tz_Met l y_MD_look1 w_MD_look1 ({ frames := 3 * dep + 23, cells := (2 * gc / 5).toNat, slots := (13 * gc).toNat, locals := 100 * dep + 400 }) (va_Pc [.ref h0, .ref po_n] (fun U => U.heap.size = sz ∧ va_P (dC, dI) cls2 ([(h0, .inr (11, (.ref rf :: .ref tap :: .int h0_taped :: .int h0_length :: .int h0_kind :: .int h0_from :: .int h0_to :: h0_word :: .long h0_numeral :: .ref gnm :: .ref gpl :: .ref gty :: .ref gvl :: .int h0_globalCount :: .ref fun_ :: .int h0_funCount :: .int h0_open :: .int h0_signs :: .ref lev :: .ref po_now :: .ref kno :: .int h0_knownCount :: .int h0_loops :: .ref mad :: .int h0_madeLength :: .ref mag :: .ref h0_smalls_r :: .ref h0_greats_r :: .ref h0_module_r :: .ref h0_spare_r :: h0_m :: .int h0_cursor :: .int h0_limit :: [ .ref blk, .ref stk, .int h0_top, .ref hgt, .ref lab, .ref ous, .ref kis, .ref los, .int h0_depth, .int h0_function, .ref mem, .int h0_pages, .ref glo, .ref val, .int h0_valueTop, .ref ffu, .ref fre, .ref fba, .ref fla, .int h0_frames, .ref lat, .ref lhe, .int h0_labelTop, .int h0_steps, .int h0_there, .ref rsl, .int h0_resultLength, .int h0_reason, .int h0_place, .ref arg, .int h0_argumentCount, .int h0_code]))), (rf, .inr (15, [rf_backtrace, rf_detailMessage, rf_cause, rf_stackTrace, .int rf_depth, rf_suppressedExceptions, .int rf_reason, .int rf_place])), (gnm, .inl (cgnm, 20, .inr (.inr (.inr (.inr ggnm))))), (gty, .inl (cgty, 20, .inl ggty)), (fun_, .inl (cfun_, 20, .inr (.inr (.inr (.inr gfun_))))), (kno, .inl (ckno, 51, .inl gkno))] ++ va_pl LP fP) U.heap ∧ va_K (dC, dI) cls2 [(cgnm, .object "java/lang/String"), (cgty, .int), (cfun_, .object "WaferForgeModel$Fun"), (ckno, .int), (cr, .int), (cpn, .object "WaferForgeModel$N"), (cpb, .byte), (cps, .object "java/lang/String")] U ∧ va_D (fun _ => True) ([(h0, .inr (11, (.ref rf :: .ref tap :: .int h0_taped :: .int h0_length :: .int h0_kind :: .int h0_from :: .int h0_to :: h0_word :: .long h0_numeral :: .ref gnm :: .ref gpl :: .ref gty :: .ref gvl :: .int h0_globalCount :: .ref fun_ :: .int h0_funCount :: .int h0_open :: .int h0_signs :: .ref lev :: .ref po_now :: .ref kno :: .int h0_knownCount :: .int h0_loops :: .ref mad :: .int h0_madeLength :: .ref mag :: .ref h0_smalls_r :: .ref h0_greats_r :: .ref h0_module_r :: .ref h0_spare_r :: h0_m :: .int h0_cursor :: .int h0_limit :: [ .ref blk, .ref stk, .int h0_top, .ref hgt, .ref lab, .ref ous, .ref kis, .ref los, .int h0_depth, .int h0_function, .ref mem, .int h0_pages, .ref glo, .ref val, .int h0_valueTop, .ref ffu, .ref fre, .ref fba, .ref fla, .int h0_frames, .ref lat, .ref lhe, .int h0_labelTop, .int h0_steps, .int h0_there, .ref rsl, .int h0_resultLength, .int h0_reason, .int h0_place, .ref arg, .int h0_argumentCount, .int h0_code]))), (rf, .inr (15, [rf_backtrace, rf_detailMessage, rf_cause, rf_stackTrace, .int rf_depth, rf_suppressedExceptions, .int rf_reason, .int rf_place])), (gnm, .inl (cgnm, 20, .inr (.inr (.inr (.inr ggnm))))), (gty, .inl (cgty, 20, .inl ggty)), (fun_, .inl (cfun_, 20, .inr (.inr (.inr (.inr gfun_))))), (kno, .inl (ckno, 51, .inl gkno))] ++ va_pl LP fP) ∧ sm sa (va_A ([(h0, .inr (11, (.ref rf :: .ref tap :: .int h0_taped :: .int h0_length :: .int h0_kind :: .int h0_from :: .int h0_to :: h0_word :: .long h0_numeral :: .ref gnm :: .ref gpl :: .ref gty :: .ref gvl :: .int h0_globalCount :: .ref fun_ :: .int h0_funCount :: .int h0_open :: .int h0_signs :: .ref lev :: .ref po_now :: .ref kno :: .int h0_knownCount :: .int h0_loops :: .ref mad :: .int h0_madeLength :: .ref mag :: .ref h0_smalls_r :: .ref h0_greats_r :: .ref h0_module_r :: .ref h0_spare_r :: h0_m :: .int h0_cursor :: .int h0_limit :: [ .ref blk, .ref stk, .int h0_top, .ref hgt, .ref lab, .ref ous, .ref kis, .ref los, .int h0_depth, .int h0_function, .ref mem, .int h0_pages, .ref glo, .ref val, .int h0_valueTop, .ref ffu, .ref fre, .ref fba, .ref fla, .int h0_frames, .ref lat, .ref lhe, .int h0_labelTop, .int h0_steps, .int h0_there, .ref rsl, .int h0_resultLength, .int h0_reason, .int h0_place, .ref arg, .int h0_argumentCount, .int h0_code]))), (rf, .inr (15, [rf_backtrace, rf_detailMessage, rf_cause, rf_stackTrace, .int rf_depth, rf_suppressedExceptions, .int rf_reason, .int rf_place])), (gnm, .inl (cgnm, 20, .inr (.inr (.inr (.inr ggnm))))), (gty, .inl (cgty, 20, .inl ggty)), (fun_, .inl (cfun_, 20, .inr (.inr (.inr (.inr gfun_))))), (kno, .inl (ckno, 51, .inl gkno))] ++ va_pl LP fP) sz) U U.heap ∧ hsl U.heap = szl)) (tq_Q (tr_v (fun (u : (Nat → Int32) × Int32 × Int32 × Int32 × Int32 × Nat × Nat × (Nat → va_E)) => match u with | (gkno2, h0_knownCount2, h0_loops2, rf_place2, rf_reason2, kcz2, knz2, fP2) => (0 ≤ h0_knownCount2.toInt ∧ h0_knownCount2.toInt ≤ 51) ∧ (0 ≤ h0_loops2.toInt ∧ h0_loops2.toInt ≤ 1000) ∧ ((∃ (N2 : Int32) (gn2 : Nat → Option Nat) (T2 : Nat → Int32), env9 LP fP2 cps cr cpb gM po_now fnm fpl po_fns po_fls po_fys fps frs po_fbd fsg N2 gn2 T2 h0_knownCount2.toInt gkno2 ∧ fN.toInt ≤ N2.toInt ∧ ts LP fP2 cpn cpb N2.toInt h0_funCount.toInt h0_globalCount.toInt ggv gtk gg gd gil po_n gc gb) ∧ h0_knownCount.toInt ≤ h0_knownCount2.toInt ∧ h0_loops2.toInt = h0_loops.toInt ∧ ftb LP fP2 cr cpb h0_funCount.toInt gfun_ ggv gtk ∧ cgs cpn cpb gK gM fP fP2 ∧ kcz2 ≤ (2 * gc / 5).toNat ∧ knz2 ≤ (8 * gc).toNat)) rf "WaferForgeModel$Refused" (fun (u : (Nat → Int32) × Int32 × Int32 × Int32 × Int32 × Nat × Nat × (Nat → va_E)) => match u with | (gkno2, h0_knownCount2, h0_loops2, rf_place2, rf_reason2, kcz2, knz2, fP2) => (0 ≤ h0_knownCount2.toInt ∧ h0_knownCount2.toInt ≤ 51) ∧ (0 ≤ h0_loops2.toInt ∧ h0_loops2.toInt ≤ 1000))) (at_MD_look1 dC dI sz szl sa h0 rf tap gnm gpl gty gvl fun_ lev po_now kno mad mag h0_smalls_r h0_greats_r h0_module_r h0_spare_r blk stk hgt lab ous kis los mem glo val ffu fre fba fla lat lhe rsl arg cgnm cgty cfun_ ckno cr cpn cpb cps h0_taped h0_length h0_kind h0_from h0_to h0_word h0_numeral h0_globalCount h0_funCount h0_open h0_signs h0_madeLength h0_m h0_cursor h0_limit h0_top h0_depth h0_function h0_pages h0_valueTop h0_frames h0_labelTop h0_steps h0_there h0_resultLength h0_reason h0_place h0_argumentCount h0_code rf_backtrace rf_detailMessage rf_cause rf_stackTrace rf_depth rf_suppressedExceptions ggnm ggty gfun_ LP (va_A ([(h0, .inr (11, (.ref rf :: .ref tap :: .int h0_taped :: .int h0_length :: .int h0_kind :: .int h0_from :: .int h0_to :: h0_word :: .long h0_numeral :: .ref gnm :: .ref gpl :: .ref gty :: .ref gvl :: .int h0_globalCount :: .ref fun_ :: .int h0_funCount :: .int h0_open :: .int h0_signs :: .ref lev :: .ref po_now :: .ref kno :: .int h0_knownCount :: .int h0_loops :: .ref mad :: .int h0_madeLength :: .ref mag :: .ref h0_smalls_r :: .ref h0_greats_r :: .ref h0_module_r :: .ref h0_spare_r :: h0_m :: .int h0_cursor :: .int h0_limit :: [ .ref blk, .ref stk, .int h0_top, .ref hgt, .ref lab, .ref ous, .ref kis, .ref los, .int h0_depth, .int h0_function, .ref mem, .int h0_pages, .ref glo, .ref val, .int h0_valueTop, .ref ffu, .ref fre, .ref fba, .ref fla, .int h0_frames, .ref lat, .ref lhe, .int h0_labelTop, .int h0_steps, .int h0_there, .ref rsl, .int h0_resultLength, .int h0_reason, .int h0_place, .ref arg, .int h0_argumentCount, .int h0_code]))), (rf, .inr (15, [rf_backtrace, rf_detailMessage, rf_cause, rf_stackTrace, .int rf_depth, rf_suppressedExceptions, .int rf_reason, .int rf_place])), (gnm, .inl (cgnm, 20, .inr (.inr (.inr (.inr ggnm))))), (gty, .inl (cgty, 20, .inl ggty)), (fun_, .inl (cfun_, 20, .inr (.inr (.inr (.inr gfun_))))), (kno, .inl (ckno, 51, .inl gkno))] ++ va_pl LP fP) sz)) (va_A ([(h0, .inr (11, (.ref rf :: .ref tap :: .int h0_taped :: .int h0_length :: .int h0_kind :: .int h0_from :: .int h0_to :: h0_word :: .long h0_numeral :: .ref gnm :: .ref gpl :: .ref gty :: .ref gvl :: .int h0_globalCount :: .ref fun_ :: .int h0_funCount :: .int h0_open :: .int h0_signs :: .ref lev :: .ref po_now :: .ref kno :: .int h0_knownCount :: .int h0_loops :: .ref mad :: .int h0_madeLength :: .ref mag :: .ref h0_smalls_r :: .ref h0_greats_r :: .ref h0_module_r :: .ref h0_spare_r :: h0_m :: .int h0_cursor :: .int h0_limit :: [ .ref blk, .ref stk, .int h0_top, .ref hgt, .ref lab, .ref ous, .ref kis, .ref los, .int h0_depth, .int h0_function, .ref mem, .int h0_pages, .ref glo, .ref val, .int h0_valueTop, .ref ffu, .ref fre, .ref fba, .ref fla, .int h0_frames, .ref lat, .ref lhe, .int h0_labelTop, .int h0_steps, .int h0_there, .ref rsl, .int h0_resultLength, .int h0_reason, .int h0_place, .ref arg, .int h0_argumentCount, .int h0_code]))), (rf, .inr (15, [rf_backtrace, rf_detailMessage, rf_cause, rf_stackTrace, .int rf_depth, rf_suppressedExceptions, .int rf_reason, .int rf_place])), (gnm, .inl (cgnm, 20, .inr (.inr (.inr (.inr ggnm))))), (gty, .inl (cgty, 20, .inl ggty)), (fun_, .inl (cfun_, 20, .inr (.inr (.inr (.inr gfun_))))), (kno, .inl (ckno, 51, .inl gkno))] ++ va_pl LP fP) sz)) (tz_k ((2 * gc / 5).toNat) ((13 * gc).toNat) ((2 * gc / 5).toNat) ((13 * gc).toNat)) (va_A ([(h0, .inr (11, (.ref rf :: .ref tap :: .int h0_taped :: .int h0_length :: .int h0_kind :: .int h0_from :: .int h0_to :: h0_word :: .long h0_numeral :: .ref gnm :: .ref gpl :: .ref gty :: .ref gvl :: .int h0_globalCount :: .ref fun_ :: .int h0_funCount :: .int h0_open :: .int h0_signs :: .ref lev :: .ref po_now :: .ref kno :: .int h0_knownCount :: .int h0_loops :: .ref mad :: .int h0_madeLength :: .ref mag :: .ref h0_smalls_r :: .ref h0_greats_r :: .ref h0_module_r :: .ref h0_spare_r :: h0_m :: .int h0_cursor :: .int h0_limit :: [ .ref blk, .ref stk, .int h0_top, .ref hgt, .ref lab, .ref ous, .ref kis, .ref los, .int h0_depth, .int h0_function, .ref mem, .int h0_pages, .ref glo, .ref val, .int h0_valueTop, .ref ffu, .ref fre, .ref fba, .ref fla, .int h0_frames, .ref lat, .ref lhe, .int h0_labelTop, .int h0_steps, .int h0_there, .ref rsl, .int h0_resultLength, .int h0_reason, .int h0_place, .ref arg, .int h0_argumentCount, .int h0_code]))), (rf, .inr (15, [rf_backtrace, rf_detailMessage, rf_cause, rf_stackTrace, .int rf_depth, rf_suppressedExceptions, .int rf_reason, .int rf_place])), (gnm, .inl (cgnm, 20, .inr (.inr (.inr (.inr ggnm))))), (gty, .inl (cgty, 20, .inl ggty)), (fun_, .inl (cfun_, 20, .inr (.inr (.inr (.inr gfun_))))), (kno, .inl (ckno, 51, .inl gkno))] ++ va_pl LP fP) sz)

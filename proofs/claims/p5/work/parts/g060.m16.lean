/-! the reference: worked, numbers -/
theorem and32_mod (x : Int64) : (x &&& 4294967295).toInt = x.toInt % 4294967296 := by
  have h : (x &&& 4294967295).toBitVec.toNat = x.toBitVec.toNat % 4294967296 := by
    rw [Int64.toBitVec_and, BitVec.toNat_and, show (4294967295 : Int64).toBitVec.toNat = 2 ^ 32 - 1 from by decide, Nat.and_two_pow_sub_one_eq_mod]
  have e1 : (x &&& 4294967295).toInt = (x &&& 4294967295).toBitVec.toInt := rfl
  have e2 : x.toInt = x.toBitVec.toInt := rfl
  rw [e1, e2, BitVec.toInt_eq_toNat_cond, BitVec.toInt_eq_toNat_cond, h]
  have := x.toBitVec.isLt
  split <;> split <;> (first | (apply Int.le_antisymm <;> omega) | omega)
abbrev b_MD_worked : ByteArray := prog_15_method_97_code
def y_MD_worked : MethodName := ⟨R_MD, "worked", "(IJJZ)J"⟩
abbrev w_MD_worked : List Cond := .code y_MD_worked b_MD_worked 13 (Option.some .long) :: lw_g
theorem kC_MD_worked : Cond.code y_MD_worked b_MD_worked 13 (Option.some .long) ∈ lw_g := in_c13 197 rfl rfl
theorem d_MD_worked_0 : decode b_MD_worked 0 = .ok (.iload 6, 2) := bz_c21 (by decide +kernel)
theorem d_MD_worked_2 : decode b_MD_worked 2 = .ok (.ifCond .eq 8, 3) := bz_c153 (by decide +kernel)
theorem d_MD_worked_5 : decode b_MD_worked 5 = .ok (.bipush 32, 2) := bz_c16 (by decide +kernel)
theorem d_MD_worked_7 : decode b_MD_worked 7 = .ok (.goto 5, 3) := bz_c167 (by decide +kernel)
theorem d_MD_worked_10 : decode b_MD_worked 10 = .ok (.bipush 64, 2) := bz_c16 (by decide +kernel)
theorem d_MD_worked_12 : decode b_MD_worked 12 = .ok (.istore 7, 2) := bz_c54 (by decide +kernel)
theorem d_MD_worked_14 : decode b_MD_worked 14 = .ok (.lload 4, 2) := bz_c22 (by decide +kernel)
theorem d_MD_worked_16 : decode b_MD_worked 16 = .ok (.l2i, 1) := bz_c136 (by decide +kernel)
theorem d_MD_worked_17 : decode b_MD_worked 17 = .ok (.iload 7, 2) := bz_c21 (by decide +kernel)
theorem d_MD_worked_19 : decode b_MD_worked 19 = .ok (.iconst 1, 1) := bz_c4 (by decide +kernel)
theorem d_MD_worked_20 : decode b_MD_worked 20 = .ok (.isub, 1) := bz_c100 (by decide +kernel)
theorem d_MD_worked_21 : decode b_MD_worked 21 = .ok (.iand, 1) := bz_c126 (by decide +kernel)
theorem d_MD_worked_22 : decode b_MD_worked 22 = .ok (.istore 8, 2) := bz_c54 (by decide +kernel)
theorem d_MD_worked_24 : decode b_MD_worked 24 = .ok (.iload 6, 2) := bz_c21 (by decide +kernel)
theorem d_MD_worked_26 : decode b_MD_worked 26 = .ok (.ifCond .eq 11, 3) := bz_c153 (by decide +kernel)
theorem d_MD_worked_29 : decode b_MD_worked 29 = .ok (.lload_n 2, 1) := bz_c32 (by decide +kernel)
theorem d_MD_worked_30 : decode b_MD_worked 30 = .ok (.ldc2_w 777, 3) := bz_c20 (by decide +kernel)
theorem d_MD_worked_33 : decode b_MD_worked 33 = .ok (.land, 1) := bz_c127 (by decide +kernel)
theorem d_MD_worked_34 : decode b_MD_worked 34 = .ok (.goto 4, 3) := bz_c167 (by decide +kernel)
theorem d_MD_worked_37 : decode b_MD_worked 37 = .ok (.lload_n 2, 1) := bz_c32 (by decide +kernel)
theorem d_MD_worked_38 : decode b_MD_worked 38 = .ok (.lstore 9, 2) := bz_c55 (by decide +kernel)
theorem d_MD_worked_40 : decode b_MD_worked 40 = .ok (.iload 6, 2) := bz_c21 (by decide +kernel)
theorem d_MD_worked_42 : decode b_MD_worked 42 = .ok (.ifCond .eq 12, 3) := bz_c153 (by decide +kernel)
theorem d_MD_worked_45 : decode b_MD_worked 45 = .ok (.lload 4, 2) := bz_c22 (by decide +kernel)
theorem d_MD_worked_47 : decode b_MD_worked 47 = .ok (.ldc2_w 777, 3) := bz_c20 (by decide +kernel)
theorem d_MD_worked_50 : decode b_MD_worked 50 = .ok (.land, 1) := bz_c127 (by decide +kernel)
theorem d_MD_worked_51 : decode b_MD_worked 51 = .ok (.goto 5, 3) := bz_c167 (by decide +kernel)
theorem d_MD_worked_54 : decode b_MD_worked 54 = .ok (.lload 4, 2) := bz_c22 (by decide +kernel)
theorem d_MD_worked_56 : decode b_MD_worked 56 = .ok (.lstore 11, 2) := bz_c55 (by decide +kernel)
theorem d_MD_worked_58 : decode b_MD_worked 58 = .ok (.iload_n 1, 1) := bz_c27 (by decide +kernel)
theorem d_MD_worked_59 : decode b_MD_worked 59 = .ok (.tableswitch 285 106 119 #[69, 74, 79, 84, 146, 194, 146, 230, 235, 240, 245, 250, 255, 261], 69) := by decide +kernel
theorem d_MD_worked_128 : decode b_MD_worked 128 = .ok (.lload_n 2, 1) := bz_c32 (by decide +kernel)
theorem d_MD_worked_129 : decode b_MD_worked 129 = .ok (.lload 4, 2) := bz_c22 (by decide +kernel)
theorem d_MD_worked_131 : decode b_MD_worked 131 = .ok (.ladd, 1) := bz_c97 (by decide +kernel)
theorem d_MD_worked_132 : decode b_MD_worked 132 = .ok (.lreturn, 1) := bz_c173 (by decide +kernel)
theorem d_MD_worked_133 : decode b_MD_worked 133 = .ok (.lload_n 2, 1) := bz_c32 (by decide +kernel)
theorem d_MD_worked_134 : decode b_MD_worked 134 = .ok (.lload 4, 2) := bz_c22 (by decide +kernel)
theorem d_MD_worked_136 : decode b_MD_worked 136 = .ok (.lsub, 1) := by decide +kernel
theorem d_MD_worked_137 : decode b_MD_worked 137 = .ok (.lreturn, 1) := bz_c173 (by decide +kernel)
theorem d_MD_worked_138 : decode b_MD_worked 138 = .ok (.lload_n 2, 1) := bz_c32 (by decide +kernel)
theorem d_MD_worked_139 : decode b_MD_worked 139 = .ok (.lload 4, 2) := bz_c22 (by decide +kernel)
theorem d_MD_worked_141 : decode b_MD_worked 141 = .ok (.lmul, 1) := by decide +kernel
theorem d_MD_worked_142 : decode b_MD_worked 142 = .ok (.lreturn, 1) := bz_c173 (by decide +kernel)
theorem d_MD_worked_143 : decode b_MD_worked 143 = .ok (.aload_n 0, 1) := bz_c42 (by decide +kernel)
theorem d_MD_worked_144 : decode b_MD_worked 144 = .ok (.lload 4, 2) := bz_c22 (by decide +kernel)
theorem d_MD_worked_146 : decode b_MD_worked 146 = .ok (.lconst 0, 1) := bz_c9 (by decide +kernel)
theorem d_MD_worked_147 : decode b_MD_worked 147 = .ok (.lcmp, 1) := bz_c148 (by decide +kernel)
theorem d_MD_worked_148 : decode b_MD_worked 148 = .ok (.ifCond .ne 7, 3) := bz_c154 (by decide +kernel)
theorem d_MD_worked_151 : decode b_MD_worked 151 = .ok (.iconst 1, 1) := bz_c4 (by decide +kernel)
theorem d_MD_worked_152 : decode b_MD_worked 152 = .ok (.goto 4, 3) := bz_c167 (by decide +kernel)
theorem d_MD_worked_155 : decode b_MD_worked 155 = .ok (.iconst 0, 1) := bz_c3 (by decide +kernel)
theorem d_MD_worked_156 : decode b_MD_worked 156 = .ok (.bipush 10, 2) := bz_c16 (by decide +kernel)
theorem d_MD_worked_158 : decode b_MD_worked 158 = .ok (.invokevirtual 706, 3) := bz_c182 (by decide +kernel)
theorem d_MD_worked_161 : decode b_MD_worked 161 = .ok (.aload_n 0, 1) := bz_c42 (by decide +kernel)
theorem d_MD_worked_162 : decode b_MD_worked 162 = .ok (.lload 4, 2) := bz_c22 (by decide +kernel)
theorem d_MD_worked_164 : decode b_MD_worked 164 = .ok (.ldc2_w 473, 3) := bz_c20 (by decide +kernel)
theorem d_MD_worked_167 : decode b_MD_worked 167 = .ok (.lcmp, 1) := bz_c148 (by decide +kernel)
theorem d_MD_worked_168 : decode b_MD_worked 168 = .ok (.ifCond .ne 26, 3) := bz_c154 (by decide +kernel)
theorem d_MD_worked_171 : decode b_MD_worked 171 = .ok (.lload_n 2, 1) := bz_c32 (by decide +kernel)
theorem d_MD_worked_172 : decode b_MD_worked 172 = .ok (.iload 6, 2) := bz_c21 (by decide +kernel)
theorem d_MD_worked_174 : decode b_MD_worked 174 = .ok (.ifCond .eq 9, 3) := bz_c153 (by decide +kernel)
theorem d_MD_worked_177 : decode b_MD_worked 177 = .ok (.ldc2_w 805, 3) := bz_c20 (by decide +kernel)
theorem d_MD_worked_180 : decode b_MD_worked 180 = .ok (.goto 6, 3) := bz_c167 (by decide +kernel)
theorem d_MD_worked_183 : decode b_MD_worked 183 = .ok (.ldc2_w 803, 3) := bz_c20 (by decide +kernel)
theorem d_MD_worked_186 : decode b_MD_worked 186 = .ok (.lcmp, 1) := bz_c148 (by decide +kernel)
theorem d_MD_worked_187 : decode b_MD_worked 187 = .ok (.ifCond .ne 7, 3) := bz_c154 (by decide +kernel)
theorem d_MD_worked_190 : decode b_MD_worked 190 = .ok (.iconst 1, 1) := bz_c4 (by decide +kernel)
theorem d_MD_worked_191 : decode b_MD_worked 191 = .ok (.goto 4, 3) := bz_c167 (by decide +kernel)
theorem d_MD_worked_194 : decode b_MD_worked 194 = .ok (.iconst 0, 1) := bz_c3 (by decide +kernel)
theorem d_MD_worked_195 : decode b_MD_worked 195 = .ok (.bipush 11, 2) := bz_c16 (by decide +kernel)
theorem d_MD_worked_197 : decode b_MD_worked 197 = .ok (.invokevirtual 706, 3) := bz_c182 (by decide +kernel)
theorem d_MD_worked_200 : decode b_MD_worked 200 = .ok (.lload_n 2, 1) := bz_c32 (by decide +kernel)
theorem d_MD_worked_201 : decode b_MD_worked 201 = .ok (.lload 4, 2) := bz_c22 (by decide +kernel)
theorem d_MD_worked_203 : decode b_MD_worked 203 = .ok (.ldiv, 1) := by decide +kernel
theorem d_MD_worked_204 : decode b_MD_worked 204 = .ok (.lreturn, 1) := bz_c173 (by decide +kernel)
theorem d_MD_worked_205 : decode b_MD_worked 205 = .ok (.aload_n 0, 1) := bz_c42 (by decide +kernel)
theorem d_MD_worked_206 : decode b_MD_worked 206 = .ok (.lload 4, 2) := bz_c22 (by decide +kernel)
theorem d_MD_worked_208 : decode b_MD_worked 208 = .ok (.lconst 0, 1) := bz_c9 (by decide +kernel)
theorem d_MD_worked_209 : decode b_MD_worked 209 = .ok (.lcmp, 1) := bz_c148 (by decide +kernel)
theorem d_MD_worked_210 : decode b_MD_worked 210 = .ok (.ifCond .ne 7, 3) := bz_c154 (by decide +kernel)
theorem d_MD_worked_213 : decode b_MD_worked 213 = .ok (.iconst 1, 1) := bz_c4 (by decide +kernel)
theorem d_MD_worked_214 : decode b_MD_worked 214 = .ok (.goto 4, 3) := bz_c167 (by decide +kernel)
theorem d_MD_worked_217 : decode b_MD_worked 217 = .ok (.iconst 0, 1) := bz_c3 (by decide +kernel)
theorem d_MD_worked_218 : decode b_MD_worked 218 = .ok (.bipush 10, 2) := bz_c16 (by decide +kernel)
theorem d_MD_worked_220 : decode b_MD_worked 220 = .ok (.invokevirtual 706, 3) := bz_c182 (by decide +kernel)
theorem d_MD_worked_223 : decode b_MD_worked 223 = .ok (.iload_n 1, 1) := bz_c27 (by decide +kernel)
theorem d_MD_worked_224 : decode b_MD_worked 224 = .ok (.bipush 110, 2) := bz_c16 (by decide +kernel)
theorem d_MD_worked_226 : decode b_MD_worked 226 = .ok (.if_icmp .ne 13, 3) := bz_c160 (by decide +kernel)
theorem d_MD_worked_229 : decode b_MD_worked 229 = .ok (.lload 9, 2) := bz_c22 (by decide +kernel)
theorem d_MD_worked_231 : decode b_MD_worked 231 = .ok (.lload 11, 2) := bz_c22 (by decide +kernel)
theorem d_MD_worked_233 : decode b_MD_worked 233 = .ok (.invokestatic 807, 3) := bz_c184 (by decide +kernel)
theorem d_MD_worked_236 : decode b_MD_worked 236 = .ok (.goto 16, 3) := bz_c167 (by decide +kernel)
theorem d_MD_worked_239 : decode b_MD_worked 239 = .ok (.lload 9, 2) := bz_c22 (by decide +kernel)
theorem d_MD_worked_241 : decode b_MD_worked 241 = .ok (.lload 9, 2) := bz_c22 (by decide +kernel)
theorem d_MD_worked_243 : decode b_MD_worked 243 = .ok (.lload 11, 2) := bz_c22 (by decide +kernel)
theorem d_MD_worked_245 : decode b_MD_worked 245 = .ok (.invokestatic 807, 3) := bz_c184 (by decide +kernel)
theorem d_MD_worked_248 : decode b_MD_worked 248 = .ok (.lload 11, 2) := bz_c22 (by decide +kernel)
theorem d_MD_worked_250 : decode b_MD_worked 250 = .ok (.lmul, 1) := by decide +kernel
theorem d_MD_worked_251 : decode b_MD_worked 251 = .ok (.lsub, 1) := by decide +kernel
theorem d_MD_worked_252 : decode b_MD_worked 252 = .ok (.lreturn, 1) := bz_c173 (by decide +kernel)
theorem d_MD_worked_253 : decode b_MD_worked 253 = .ok (.aload_n 0, 1) := bz_c42 (by decide +kernel)
theorem d_MD_worked_254 : decode b_MD_worked 254 = .ok (.lload 4, 2) := bz_c22 (by decide +kernel)
theorem d_MD_worked_256 : decode b_MD_worked 256 = .ok (.lconst 0, 1) := bz_c9 (by decide +kernel)
theorem d_MD_worked_257 : decode b_MD_worked 257 = .ok (.lcmp, 1) := bz_c148 (by decide +kernel)
theorem d_MD_worked_258 : decode b_MD_worked 258 = .ok (.ifCond .ne 7, 3) := bz_c154 (by decide +kernel)
theorem d_MD_worked_261 : decode b_MD_worked 261 = .ok (.iconst 1, 1) := bz_c4 (by decide +kernel)
theorem d_MD_worked_262 : decode b_MD_worked 262 = .ok (.goto 4, 3) := bz_c167 (by decide +kernel)
theorem d_MD_worked_265 : decode b_MD_worked 265 = .ok (.iconst 0, 1) := bz_c3 (by decide +kernel)
theorem d_MD_worked_266 : decode b_MD_worked 266 = .ok (.bipush 10, 2) := bz_c16 (by decide +kernel)
theorem d_MD_worked_268 : decode b_MD_worked 268 = .ok (.invokevirtual 706, 3) := bz_c182 (by decide +kernel)
theorem d_MD_worked_271 : decode b_MD_worked 271 = .ok (.lload 4, 2) := bz_c22 (by decide +kernel)
theorem d_MD_worked_273 : decode b_MD_worked 273 = .ok (.ldc2_w 473, 3) := bz_c20 (by decide +kernel)
theorem d_MD_worked_276 : decode b_MD_worked 276 = .ok (.lcmp, 1) := bz_c148 (by decide +kernel)
theorem d_MD_worked_277 : decode b_MD_worked 277 = .ok (.ifCond .ne 7, 3) := bz_c154 (by decide +kernel)
theorem d_MD_worked_280 : decode b_MD_worked 280 = .ok (.lconst 0, 1) := bz_c9 (by decide +kernel)
theorem d_MD_worked_281 : decode b_MD_worked 281 = .ok (.goto 7, 3) := bz_c167 (by decide +kernel)
theorem d_MD_worked_284 : decode b_MD_worked 284 = .ok (.lload_n 2, 1) := bz_c32 (by decide +kernel)
theorem d_MD_worked_285 : decode b_MD_worked 285 = .ok (.lload 4, 2) := bz_c22 (by decide +kernel)
theorem d_MD_worked_287 : decode b_MD_worked 287 = .ok (.lrem, 1) := by decide +kernel
theorem d_MD_worked_288 : decode b_MD_worked 288 = .ok (.lreturn, 1) := bz_c173 (by decide +kernel)
theorem d_MD_worked_289 : decode b_MD_worked 289 = .ok (.lload_n 2, 1) := bz_c32 (by decide +kernel)
theorem d_MD_worked_290 : decode b_MD_worked 290 = .ok (.lload 4, 2) := bz_c22 (by decide +kernel)
theorem d_MD_worked_292 : decode b_MD_worked 292 = .ok (.land, 1) := bz_c127 (by decide +kernel)
theorem d_MD_worked_293 : decode b_MD_worked 293 = .ok (.lreturn, 1) := bz_c173 (by decide +kernel)
theorem d_MD_worked_294 : decode b_MD_worked 294 = .ok (.lload_n 2, 1) := bz_c32 (by decide +kernel)
theorem d_MD_worked_295 : decode b_MD_worked 295 = .ok (.lload 4, 2) := bz_c22 (by decide +kernel)
theorem d_MD_worked_297 : decode b_MD_worked 297 = .ok (.lor, 1) := bz_c129 (by decide +kernel)
theorem d_MD_worked_298 : decode b_MD_worked 298 = .ok (.lreturn, 1) := bz_c173 (by decide +kernel)
theorem d_MD_worked_299 : decode b_MD_worked 299 = .ok (.lload_n 2, 1) := bz_c32 (by decide +kernel)
theorem d_MD_worked_300 : decode b_MD_worked 300 = .ok (.lload 4, 2) := bz_c22 (by decide +kernel)
theorem d_MD_worked_302 : decode b_MD_worked 302 = .ok (.lxor, 1) := by decide +kernel
theorem d_MD_worked_303 : decode b_MD_worked 303 = .ok (.lreturn, 1) := bz_c173 (by decide +kernel)
theorem d_MD_worked_304 : decode b_MD_worked 304 = .ok (.lload_n 2, 1) := bz_c32 (by decide +kernel)
theorem d_MD_worked_305 : decode b_MD_worked 305 = .ok (.iload 8, 2) := bz_c21 (by decide +kernel)
theorem d_MD_worked_307 : decode b_MD_worked 307 = .ok (.lshl, 1) := bz_c121 (by decide +kernel)
theorem d_MD_worked_308 : decode b_MD_worked 308 = .ok (.lreturn, 1) := bz_c173 (by decide +kernel)
theorem d_MD_worked_309 : decode b_MD_worked 309 = .ok (.lload_n 2, 1) := bz_c32 (by decide +kernel)
theorem d_MD_worked_310 : decode b_MD_worked 310 = .ok (.iload 8, 2) := bz_c21 (by decide +kernel)
theorem d_MD_worked_312 : decode b_MD_worked 312 = .ok (.lshr, 1) := by decide +kernel
theorem d_MD_worked_313 : decode b_MD_worked 313 = .ok (.lreturn, 1) := bz_c173 (by decide +kernel)
theorem d_MD_worked_314 : decode b_MD_worked 314 = .ok (.lload 9, 2) := bz_c22 (by decide +kernel)
theorem d_MD_worked_316 : decode b_MD_worked 316 = .ok (.iload 8, 2) := bz_c21 (by decide +kernel)
theorem d_MD_worked_318 : decode b_MD_worked 318 = .ok (.lushr, 1) := bz_c125 (by decide +kernel)
theorem d_MD_worked_319 : decode b_MD_worked 319 = .ok (.lreturn, 1) := bz_c173 (by decide +kernel)
theorem d_MD_worked_320 : decode b_MD_worked 320 = .ok (.iload 8, 2) := bz_c21 (by decide +kernel)
theorem d_MD_worked_322 : decode b_MD_worked 322 = .ok (.ifCond .ne 7, 3) := bz_c154 (by decide +kernel)
theorem d_MD_worked_325 : decode b_MD_worked 325 = .ok (.lload_n 2, 1) := bz_c32 (by decide +kernel)
theorem d_MD_worked_326 : decode b_MD_worked 326 = .ok (.goto 17, 3) := bz_c167 (by decide +kernel)
theorem d_MD_worked_329 : decode b_MD_worked 329 = .ok (.lload 9, 2) := bz_c22 (by decide +kernel)
theorem d_MD_worked_331 : decode b_MD_worked 331 = .ok (.iload 8, 2) := bz_c21 (by decide +kernel)
theorem d_MD_worked_333 : decode b_MD_worked 333 = .ok (.lshl, 1) := bz_c121 (by decide +kernel)
theorem d_MD_worked_334 : decode b_MD_worked 334 = .ok (.lload 9, 2) := bz_c22 (by decide +kernel)
theorem d_MD_worked_336 : decode b_MD_worked 336 = .ok (.iload 7, 2) := bz_c21 (by decide +kernel)
theorem d_MD_worked_338 : decode b_MD_worked 338 = .ok (.iload 8, 2) := bz_c21 (by decide +kernel)
theorem d_MD_worked_340 : decode b_MD_worked 340 = .ok (.isub, 1) := bz_c100 (by decide +kernel)
theorem d_MD_worked_341 : decode b_MD_worked 341 = .ok (.lushr, 1) := bz_c125 (by decide +kernel)
theorem d_MD_worked_342 : decode b_MD_worked 342 = .ok (.lor, 1) := bz_c129 (by decide +kernel)
theorem d_MD_worked_343 : decode b_MD_worked 343 = .ok (.lreturn, 1) := bz_c173 (by decide +kernel)
theorem d_MD_worked_344 : decode b_MD_worked 344 = .ok (.iload 8, 2) := bz_c21 (by decide +kernel)
theorem d_MD_worked_346 : decode b_MD_worked 346 = .ok (.ifCond .ne 7, 3) := bz_c154 (by decide +kernel)
theorem d_MD_worked_349 : decode b_MD_worked 349 = .ok (.lload_n 2, 1) := bz_c32 (by decide +kernel)
theorem d_MD_worked_350 : decode b_MD_worked 350 = .ok (.goto 17, 3) := bz_c167 (by decide +kernel)
theorem d_MD_worked_353 : decode b_MD_worked 353 = .ok (.lload 9, 2) := bz_c22 (by decide +kernel)
theorem d_MD_worked_355 : decode b_MD_worked 355 = .ok (.iload 8, 2) := bz_c21 (by decide +kernel)
theorem d_MD_worked_357 : decode b_MD_worked 357 = .ok (.lushr, 1) := bz_c125 (by decide +kernel)
theorem d_MD_worked_358 : decode b_MD_worked 358 = .ok (.lload 9, 2) := bz_c22 (by decide +kernel)
theorem d_MD_worked_360 : decode b_MD_worked 360 = .ok (.iload 7, 2) := bz_c21 (by decide +kernel)
theorem d_MD_worked_362 : decode b_MD_worked 362 = .ok (.iload 8, 2) := bz_c21 (by decide +kernel)
theorem d_MD_worked_364 : decode b_MD_worked 364 = .ok (.isub, 1) := bz_c100 (by decide +kernel)
theorem d_MD_worked_365 : decode b_MD_worked 365 = .ok (.lshl, 1) := bz_c121 (by decide +kernel)
theorem d_MD_worked_366 : decode b_MD_worked 366 = .ok (.lor, 1) := bz_c129 (by decide +kernel)
theorem d_MD_worked_367 : decode b_MD_worked 367 = .ok (.lreturn, 1) := bz_c173 (by decide +kernel)
theorem kM_MD_807 : Cond.methodLink R_MD 807 y_MD_over ∈ lw_g := in_c13 199 rfl rfl
theorem kT_MD_over : Cond.static y_MD_over ∈ lw_g := in_c13 200 rfl rfl
theorem kL_MD_473 : Cond.constantLong R_MD 473 (-1) ∈ lw_g := in_c12 218 rfl rfl
theorem kL_MD_805 : Cond.constantLong R_MD 805 (-2147483648) ∈ lw_g := in_c13 198 rfl rfl
theorem kL_MD_777 : Cond.constantLong R_MD 777 (4294967295) ∈ lw_g := in_c13 173 rfl rfl
abbrev at_MD_worked (dC : Nat → ClassId) (dI : Nat → Nat → Nat) (h0 rf tap h0_globalNames_r h0_globalPlaces_r h0_globalTypes_r h0_globalValues_r h0_funs_r h0_levels_r h0_known_r mad mag h0_smalls_r h0_greats_r h0_module_r h0_spare_r blk stk hgt lab ous kis los mem glo val ffu fre fba fla lat lhe rsl arg : Nat) (h0_taped : Int32) (h0_length : Int32) (h0_kind : Int32) (h0_from : Int32) (h0_to : Int32) (h0_word : Value) (h0_numeral : Int64) (h0_globalCount : Int32) (h0_funCount : Int32) (h0_open : Int32) (h0_signs : Int32) (h0_now : Value) (h0_knownCount : Int32) (h0_loops : Int32) (h0_madeLength : Int32) (h0_m : Value) (h0_cursor : Int32) (h0_limit : Int32) (h0_top : Int32) (h0_depth : Int32) (h0_function : Int32) (h0_pages : Int32) (h0_valueTop : Int32) (h0_frames : Int32) (h0_labelTop : Int32) (h0_steps : Int32) (h0_there : Int32) (h0_resultLength : Int32) (h0_reason : Int32) (h0_place : Int32) (h0_argumentCount : Int32) (h0_code : Int32) (rf_backtrace : Value) (rf_detailMessage : Value) (rf_cause : Value) (rf_stackTrace : Value) (rf_depth : Int32) (rf_suppressedExceptions : Value) (A : Nat → Prop) (u : Int32 × Int32) (t : State) : Prop := match u with | (rf_place, rf_reason) => va_P (dC, dI) cls2 (wz_301 h0 rf tap h0_taped h0_length h0_kind h0_from h0_to h0_word h0_numeral h0_globalNames_r h0_globalPlaces_r h0_globalTypes_r h0_globalValues_r h0_globalCount h0_funs_r h0_funCount h0_open h0_signs h0_levels_r h0_now h0_known_r h0_knownCount h0_loops mad h0_madeLength mag h0_smalls_r h0_greats_r h0_module_r h0_spare_r h0_m h0_cursor h0_limit blk stk h0_top hgt lab ous kis los h0_depth h0_function mem h0_pages glo val h0_valueTop ffu fre fba fla h0_frames lat lhe h0_labelTop h0_steps h0_there rsl h0_resultLength h0_reason h0_place arg h0_argumentCount h0_code rf rf_backtrace rf_detailMessage rf_cause rf_stackTrace rf_depth rf_suppressedExceptions rf_reason rf_place) t.heap ∧ va_K (dC, dI) cls2 [] t ∧ va_D A (wz_301 h0 rf tap h0_taped h0_length h0_kind h0_from h0_to h0_word h0_numeral h0_globalNames_r h0_globalPlaces_r h0_globalTypes_r h0_globalValues_r h0_globalCount h0_funs_r h0_funCount h0_open h0_signs h0_levels_r h0_now h0_known_r h0_knownCount h0_loops mad h0_madeLength mag h0_smalls_r h0_greats_r h0_module_r h0_spare_r h0_m h0_cursor h0_limit blk stk h0_top hgt lab ous kis los h0_depth h0_function mem h0_pages glo val h0_valueTop ffu fre fba fla h0_frames lat lhe h0_labelTop h0_steps h0_there rsl h0_resultLength h0_reason h0_place arg h0_argumentCount h0_code rf rf_backtrace rf_detailMessage rf_cause rf_stackTrace rf_depth rf_suppressedExceptions rf_reason rf_place)
set_option maxHeartbeats 4000000 in
set_option maxRecDepth 100000 in
theorem c_MD_worked (l : Launch) (hlt : l.stackTraces = false) (dC : Nat → ClassId) (dI : Nat → Nat → Nat) (sz : Nat) (h0 rf tap h0_globalNames_r h0_globalPlaces_r h0_globalTypes_r h0_globalValues_r h0_funs_r h0_levels_r h0_known_r mad mag h0_smalls_r h0_greats_r h0_module_r h0_spare_r blk stk hgt lab ous kis los mem glo val ffu fre fba fla lat lhe rsl arg : Nat) (h0_taped : Int32) (h0_length : Int32) (h0_kind : Int32) (h0_from : Int32) (h0_to : Int32) (h0_word : Value) (h0_numeral : Int64) (h0_globalCount : Int32) (h0_funCount : Int32) (h0_open : Int32) (h0_signs : Int32) (h0_now : Value) (h0_knownCount : Int32) (h0_loops : Int32) (h0_madeLength : Int32) (h0_m : Value) (h0_cursor : Int32) (h0_limit : Int32) (h0_top : Int32) (h0_depth : Int32) (h0_function : Int32) (h0_pages : Int32) (h0_valueTop : Int32) (h0_frames : Int32) (h0_labelTop : Int32) (h0_steps : Int32) (h0_there : Int32) (h0_resultLength : Int32) (h0_reason : Int32) (h0_place : Int32) (h0_argumentCount : Int32) (h0_code : Int32) (rf_backtrace : Value) (rf_detailMessage : Value) (rf_cause : Value) (rf_stackTrace : Value) (rf_depth : Int32) (rf_suppressedExceptions : Value) (rf_reason : Int32) (rf_place : Int32)   (p0 : Int32) (p1 : Int64) (p2 : Int64) (p3 : Int32) (ba3 : p3 = 0 ∨ p3 = 1) (hsm : p3.toInt = 1 → p0.toInt = 110 ∨ p0.toInt = 112 → -2147483648 ≤ p2.toInt ∧ p2.toInt ≤ 2147483647) : tz_Met l y_MD_worked w_MD_worked ({ frames := 2, cells := 0, slots := 0, locals := 44 }) (va_Pc [.ref h0, .int p0, .long p1, .long p2, .int p3] (fun U => U.heap.size = sz ∧ va_P (dC, dI) cls2 (wz_301 h0 rf tap h0_taped h0_length h0_kind h0_from h0_to h0_word h0_numeral h0_globalNames_r h0_globalPlaces_r h0_globalTypes_r h0_globalValues_r h0_globalCount h0_funs_r h0_funCount h0_open h0_signs h0_levels_r h0_now h0_known_r h0_knownCount h0_loops mad h0_madeLength mag h0_smalls_r h0_greats_r h0_module_r h0_spare_r h0_m h0_cursor h0_limit blk stk h0_top hgt lab ous kis los h0_depth h0_function mem h0_pages glo val h0_valueTop ffu fre fba fla h0_frames lat lhe h0_labelTop h0_steps h0_there rsl h0_resultLength h0_reason h0_place arg h0_argumentCount h0_code rf rf_backtrace rf_detailMessage rf_cause rf_stackTrace rf_depth rf_suppressedExceptions rf_reason rf_place) U.heap ∧ va_K (dC, dI) cls2 [] U ∧ va_D (fun _ => True) (wz_301 h0 rf tap h0_taped h0_length h0_kind h0_from h0_to h0_word h0_numeral h0_globalNames_r h0_globalPlaces_r h0_globalTypes_r h0_globalValues_r h0_globalCount h0_funs_r h0_funCount h0_open h0_signs h0_levels_r h0_now h0_known_r h0_knownCount h0_loops mad h0_madeLength mag h0_smalls_r h0_greats_r h0_module_r h0_spare_r h0_m h0_cursor h0_limit blk stk h0_top hgt lab ous kis los h0_depth h0_function mem h0_pages glo val h0_valueTop ffu fre fba fla h0_frames lat lhe h0_labelTop h0_steps h0_there rsl h0_resultLength h0_reason h0_place arg h0_argumentCount h0_code rf rf_backtrace rf_detailMessage rf_cause rf_stackTrace rf_depth rf_suppressedExceptions rf_reason rf_place) ∧ sw_nest U)) (tq_Q (tr_l (fun (r : Int64) (u : Int32 × Int32) => match u with | (rf_place2, rf_reason2) => (True)) rf "WaferForgeModel$Refused" (fun (u : Int32 × Int32) => match u with | (rf_place2, rf_reason2) => True)) (at_MD_worked dC dI h0 rf tap h0_globalNames_r h0_globalPlaces_r h0_globalTypes_r h0_globalValues_r h0_funs_r h0_levels_r h0_known_r mad mag h0_smalls_r h0_greats_r h0_module_r h0_spare_r blk stk hgt lab ous kis los mem glo val ffu fre fba fla lat lhe rsl arg h0_taped h0_length h0_kind h0_from h0_to h0_word h0_numeral h0_globalCount h0_funCount h0_open h0_signs h0_now h0_knownCount h0_loops h0_madeLength h0_m h0_cursor h0_limit h0_top h0_depth h0_function h0_pages h0_valueTop h0_frames h0_labelTop h0_steps h0_there h0_resultLength h0_reason h0_place h0_argumentCount h0_code rf_backtrace rf_detailMessage rf_cause rf_stackTrace rf_depth rf_suppressedExceptions (va_A (wz_301 h0 rf tap h0_taped h0_length h0_kind h0_from h0_to h0_word h0_numeral h0_globalNames_r h0_globalPlaces_r h0_globalTypes_r h0_globalValues_r h0_globalCount h0_funs_r h0_funCount h0_open h0_signs h0_levels_r h0_now h0_known_r h0_knownCount h0_loops mad h0_madeLength mag h0_smalls_r h0_greats_r h0_module_r h0_spare_r h0_m h0_cursor h0_limit blk stk h0_top hgt lab ous kis los h0_depth h0_function mem h0_pages glo val h0_valueTop ffu fre fba fla h0_frames lat lhe h0_labelTop h0_steps h0_there rsl h0_resultLength h0_reason h0_place arg h0_argumentCount h0_code rf rf_backtrace rf_detailMessage rf_cause rf_stackTrace rf_depth rf_suppressedExceptions rf_reason rf_place) sz)) (va_A (wz_301 h0 rf tap h0_taped h0_length h0_kind h0_from h0_to h0_word h0_numeral h0_globalNames_r h0_globalPlaces_r h0_globalTypes_r h0_globalValues_r h0_globalCount h0_funs_r h0_funCount h0_open h0_signs h0_levels_r h0_now h0_known_r h0_knownCount h0_loops mad h0_madeLength mag h0_smalls_r h0_greats_r h0_module_r h0_spare_r h0_m h0_cursor h0_limit blk stk h0_top hgt lab ous kis los h0_depth h0_function mem h0_pages glo val h0_valueTop ffu fre fba fla h0_frames lat lhe h0_labelTop h0_steps h0_there rsl h0_resultLength h0_reason h0_place arg h0_argumentCount h0_code rf rf_backtrace rf_detailMessage rf_cause rf_stackTrace rf_depth rf_suppressedExceptions rf_reason rf_place) sz)) (tz_k 0 0 0 0) (va_A (wz_301 h0 rf tap h0_taped h0_length h0_kind h0_from h0_to h0_word h0_numeral h0_globalNames_r h0_globalPlaces_r h0_globalTypes_r h0_globalValues_r h0_globalCount h0_funs_r h0_funCount h0_open h0_signs h0_levels_r h0_now h0_known_r h0_knownCount h0_loops mad h0_madeLength mag h0_smalls_r h0_greats_r h0_module_r h0_spare_r h0_m h0_cursor h0_limit blk stk h0_top hgt lab ous kis los h0_depth h0_function mem h0_pages glo val h0_valueTop ffu fre fba fla h0_frames lat lhe h0_labelTop h0_steps h0_there rsl h0_resultLength h0_reason h0_place arg h0_argumentCount h0_code rf rf_backtrace rf_detailMessage rf_cause rf_stackTrace rf_depth rf_suppressedExceptions rf_reason rf_place) sz) := by
  refine tz_ofW (cc := b_MD_worked) (maxL := 13) (ret := (Option.some .long)) (by decide) rfl ?_
  intro p e s m args below meth c s₁ B hml hno hv
  obtain ⟨rfl, hsz, hP, hK, hD0, hSW⟩ := hv
  have hx := B.exec
  have hb := B.bytes
  have hr := B.returns
  have hts0 := atoms_spec (ws := w_MD_worked) B.pre
  have hts : ∀ w ∈ lw_g, w.before _ s = true := fun w h => hts0 w (List.mem_cons_of_mem _ h)
  have hown : s.vm.findClass R_MD = some m.cls := findClass_of_methodNamed B.named
  have hlocks := B.notSynchronized
  clear hts0
  subst hsz
  have hD := hD0.self (sz := s.heap.size)
  generalize hAe : va_A (wz_301 h0 rf tap h0_taped h0_length h0_kind h0_from h0_to h0_word h0_numeral h0_globalNames_r h0_globalPlaces_r h0_globalTypes_r h0_globalValues_r h0_globalCount h0_funs_r h0_funCount h0_open h0_signs h0_levels_r h0_now h0_known_r h0_knownCount h0_loops mad h0_madeLength mag h0_smalls_r h0_greats_r h0_module_r h0_spare_r h0_m h0_cursor h0_limit blk stk h0_top hgt lab ous kis los h0_depth h0_function mem h0_pages glo val h0_valueTop ffu fre fba fla h0_frames lat lhe h0_labelTop h0_steps h0_there rsl h0_resultLength h0_reason h0_place arg h0_argumentCount h0_code rf rf_backtrace rf_detailMessage rf_cause rf_stackTrace rf_depth rf_suppressedExceptions rf_reason rf_place) s.heap.size = A at hD ⊢
  have hA : ∀ q : Nat, s.heap.size ≤ q → A q := fun q h => by rw [← hAe]; exact Or.inr h
  clear hAe
  have hP : va_P (dC, dI) cls2 (wz_301 h0 rf tap h0_taped h0_length h0_kind h0_from h0_to h0_word h0_numeral h0_globalNames_r h0_globalPlaces_r h0_globalTypes_r h0_globalValues_r h0_globalCount h0_funs_r h0_funCount h0_open h0_signs h0_levels_r h0_now h0_known_r h0_knownCount h0_loops mad h0_madeLength mag h0_smalls_r h0_greats_r h0_module_r h0_spare_r h0_m h0_cursor h0_limit blk stk h0_top hgt lab ous kis los h0_depth h0_function mem h0_pages glo val h0_valueTop ffu fre fba fla h0_frames lat lhe h0_labelTop h0_steps h0_there rsl h0_resultLength h0_reason h0_place arg h0_argumentCount h0_code rf rf_backtrace rf_detailMessage rf_cause rf_stackTrace rf_depth rf_suppressedExceptions rf_reason rf_place) s.heap := hP
  have hl := lv_entry ([.ref h0, .int p0, .long p1, .long p2, .int p3]) (n := 13) (Nat.le_of_ble_eq_true rfl)
  rw [lg_entry_eq]
  generalize (lg_sl ([.ref h0, .int p0, .long p1, .long p2, .int p3]) ++ List.replicate (13 - (lg_sl ([.ref h0, .int p0, .long p1, .long p2, .int p3])).length) Slot.unset).toArray = ls at hl ⊢
  have hl : lv_has ls 13 [(0, .ref h0), (1, .int p0), (2, .long p1), (4, .long p2), (6, .int p3)] := hl
  have k0 : (0 : Int32).toInt = 0 := by decide
  refine w_gen (A := A) hP (fun H locs hP hS => ?_)
  have k1 : (1 : Int32).toInt = 1 := by decide
  have k10 : (10 : Int32).toInt = 10 := by decide
  have k11 : (11 : Int32).toInt = 11 := by decide
  have k32 : (32 : Int32).toInt = 32 := by decide
  have k64 : (64 : Int32).toInt = 64 := by decide
  have k110 : (110 : Int32).toInt = 110 := by decide
  have lo_p0 := i32_lo p0
  have hi_p0 := i32_hi p0
  have lo_p3 := i32_lo p3
  have hi_p3 := i32_hi p3
  have tp3 := b01 ba3
  refine lv_iload hx hb d_MD_worked_0 (lv_at hl 4 rfl) ?_
  refine w_cut (pc2 := 12) (σ := Int32) (fun u H locs ls => match u with | j12_s0 => (j12_s0.toInt = 32 ∨ j12_s0.toInt = 64) ∧ va_P (dC, dI) cls2 (wz_301 h0 rf tap h0_taped h0_length h0_kind h0_from h0_to h0_word h0_numeral h0_globalNames_r h0_globalPlaces_r h0_globalTypes_r h0_globalValues_r h0_globalCount h0_funs_r h0_funCount h0_open h0_signs h0_levels_r h0_now h0_known_r h0_knownCount h0_loops mad h0_madeLength mag h0_smalls_r h0_greats_r h0_module_r h0_spare_r h0_m h0_cursor h0_limit blk stk h0_top hgt lab ous kis los h0_depth h0_function mem h0_pages glo val h0_valueTop ffu fre fba fla h0_frames lat lhe h0_labelTop h0_steps h0_there rsl h0_resultLength h0_reason h0_place arg h0_argumentCount h0_code rf rf_backtrace rf_detailMessage rf_cause rf_stackTrace rf_depth rf_suppressedExceptions rf_reason rf_place) H ∧ va_D A (wz_301 h0 rf tap h0_taped h0_length h0_kind h0_from h0_to h0_word h0_numeral h0_globalNames_r h0_globalPlaces_r h0_globalTypes_r h0_globalValues_r h0_globalCount h0_funs_r h0_funCount h0_open h0_signs h0_levels_r h0_now h0_known_r h0_knownCount h0_loops mad h0_madeLength mag h0_smalls_r h0_greats_r h0_module_r h0_spare_r h0_m h0_cursor h0_limit blk stk h0_top hgt lab ous kis los h0_depth h0_function mem h0_pages glo val h0_valueTop ffu fre fba fla h0_frames lat lhe h0_labelTop h0_steps h0_there rsl h0_resultLength h0_reason h0_place arg h0_argumentCount h0_code rf rf_backtrace rf_detailMessage rf_cause rf_stackTrace rf_depth rf_suppressedExceptions rf_reason rf_place) ∧ va_S A s.heap H locs ∧ lv_has ls 13 [(0, .ref h0), (1, .int p0), (2, .long p1), (4, .long p2), (6, .int p3)]) (fun u => match u with | j12_s0 => [.int j12_s0]) ?_ (fun jn12 => ?_)
  · intro u H locs ls hI
    obtain ⟨j12_s0, rfl⟩ : ∃ z, z = u := ⟨_, rfl⟩
    obtain ⟨y12, hP, hD, hS, hl⟩ := hI
    refine lv_istore (lv' := [(7, .int j12_s0), (0, .ref h0), (1, .int p0), (2, .long p1), (4, .long p2), (6, .int p3)]) hx hb d_MD_worked_12 hl (by decide) rfl (fun ls hl => ?_)
    refine lv_lload hx hb d_MD_worked_14 (lv_at hl 4 rfl) ?_
    refine lv_l2i hx hb d_MD_worked_16 rfl ?_
    refine lv_topi (fun x1 ex1 => ?_)
    refine lv_iload hx hb d_MD_worked_17 (lv_at hl 0 rfl) ?_
    refine lv_iconst (v := 1) hx hb d_MD_worked_19 (by decide) ?_
    refine lv_isub hx hb d_MD_worked_20 ?_
    refine lv_topi (fun x2 ex2 => ?_)
    have tx2 : x2.toInt = j12_s0.toInt - 1 := by have z := i32_sub ex2 (by (first | (apply Int.le_antisymm <;> omega) | omega)) (by (first | (apply Int.le_antisymm <;> omega) | omega)); first | exact z | (first | (apply Int.le_antisymm <;> omega) | omega)
    refine lv_iand hx hb d_MD_worked_21 ?_
    refine lv_topi (fun x3 ex3 => ?_)
    refine lv_istore (lv' := [(8, .int x3), (7, .int j12_s0), (0, .ref h0), (1, .int p0), (2, .long p1), (4, .long p2), (6, .int p3)]) hx hb d_MD_worked_22 hl (by decide) rfl (fun ls hl => ?_)
    refine lv_iload hx hb d_MD_worked_24 (lv_at hl 6 rfl) ?_
    refine w_cut (pc2 := 38) (σ := Int64) (fun u H locs ls => match u with | j38_s0 => va_P (dC, dI) cls2 (wz_301 h0 rf tap h0_taped h0_length h0_kind h0_from h0_to h0_word h0_numeral h0_globalNames_r h0_globalPlaces_r h0_globalTypes_r h0_globalValues_r h0_globalCount h0_funs_r h0_funCount h0_open h0_signs h0_levels_r h0_now h0_known_r h0_knownCount h0_loops mad h0_madeLength mag h0_smalls_r h0_greats_r h0_module_r h0_spare_r h0_m h0_cursor h0_limit blk stk h0_top hgt lab ous kis los h0_depth h0_function mem h0_pages glo val h0_valueTop ffu fre fba fla h0_frames lat lhe h0_labelTop h0_steps h0_there rsl h0_resultLength h0_reason h0_place arg h0_argumentCount h0_code rf rf_backtrace rf_detailMessage rf_cause rf_stackTrace rf_depth rf_suppressedExceptions rf_reason rf_place) H ∧ va_D A (wz_301 h0 rf tap h0_taped h0_length h0_kind h0_from h0_to h0_word h0_numeral h0_globalNames_r h0_globalPlaces_r h0_globalTypes_r h0_globalValues_r h0_globalCount h0_funs_r h0_funCount h0_open h0_signs h0_levels_r h0_now h0_known_r h0_knownCount h0_loops mad h0_madeLength mag h0_smalls_r h0_greats_r h0_module_r h0_spare_r h0_m h0_cursor h0_limit blk stk h0_top hgt lab ous kis los h0_depth h0_function mem h0_pages glo val h0_valueTop ffu fre fba fla h0_frames lat lhe h0_labelTop h0_steps h0_there rsl h0_resultLength h0_reason h0_place arg h0_argumentCount h0_code rf rf_backtrace rf_detailMessage rf_cause rf_stackTrace rf_depth rf_suppressedExceptions rf_reason rf_place) ∧ va_S A s.heap H locs ∧ lv_has ls 13 [(0, .ref h0), (1, .int p0), (2, .long p1), (4, .long p2), (6, .int p3), (7, .int j12_s0), (8, .int x3)]) (fun u => match u with | j38_s0 => [.long j38_s0]) ?_ (fun jn38 => ?_)
    · intro u H locs ls hI
      obtain ⟨j38_s0, rfl⟩ : ∃ z, z = u := ⟨_, rfl⟩
      obtain ⟨hP, hD, hS, hl⟩ := hI
      refine lv_lstore (lv' := [(9, .long j38_s0), (0, .ref h0), (1, .int p0), (2, .long p1), (4, .long p2), (6, .int p3), (7, .int j12_s0), (8, .int x3)]) hx hb d_MD_worked_38 hl (by decide) rfl (fun ls hl => ?_)
      refine lv_iload hx hb d_MD_worked_40 (lv_at hl 5 rfl) ?_
      refine w_cut (pc2 := 56) (σ := Int64) (fun u H locs ls => match u with | j56_s0 => (bx (p0.toInt = 110 ∨ p0.toInt = 112 → p2.toInt ≠ 0 → j56_s0.toInt ≠ 0)) ∧ va_P (dC, dI) cls2 (wz_301 h0 rf tap h0_taped h0_length h0_kind h0_from h0_to h0_word h0_numeral h0_globalNames_r h0_globalPlaces_r h0_globalTypes_r h0_globalValues_r h0_globalCount h0_funs_r h0_funCount h0_open h0_signs h0_levels_r h0_now h0_known_r h0_knownCount h0_loops mad h0_madeLength mag h0_smalls_r h0_greats_r h0_module_r h0_spare_r h0_m h0_cursor h0_limit blk stk h0_top hgt lab ous kis los h0_depth h0_function mem h0_pages glo val h0_valueTop ffu fre fba fla h0_frames lat lhe h0_labelTop h0_steps h0_there rsl h0_resultLength h0_reason h0_place arg h0_argumentCount h0_code rf rf_backtrace rf_detailMessage rf_cause rf_stackTrace rf_depth rf_suppressedExceptions rf_reason rf_place) H ∧ va_D A (wz_301 h0 rf tap h0_taped h0_length h0_kind h0_from h0_to h0_word h0_numeral h0_globalNames_r h0_globalPlaces_r h0_globalTypes_r h0_globalValues_r h0_globalCount h0_funs_r h0_funCount h0_open h0_signs h0_levels_r h0_now h0_known_r h0_knownCount h0_loops mad h0_madeLength mag h0_smalls_r h0_greats_r h0_module_r h0_spare_r h0_m h0_cursor h0_limit blk stk h0_top hgt lab ous kis los h0_depth h0_function mem h0_pages glo val h0_valueTop ffu fre fba fla h0_frames lat lhe h0_labelTop h0_steps h0_there rsl h0_resultLength h0_reason h0_place arg h0_argumentCount h0_code rf rf_backtrace rf_detailMessage rf_cause rf_stackTrace rf_depth rf_suppressedExceptions rf_reason rf_place) ∧ va_S A s.heap H locs ∧ lv_has ls 13 [(0, .ref h0), (1, .int p0), (2, .long p1), (4, .long p2), (6, .int p3), (7, .int j12_s0), (8, .int x3), (9, .long j38_s0)]) (fun u => match u with | j56_s0 => [.long j56_s0]) ?_ (fun jn56 => ?_)
      · intro u H locs ls hI
        obtain ⟨j56_s0, rfl⟩ : ∃ z, z = u := ⟨_, rfl⟩
        obtain ⟨y56, hP, hD, hS, hl⟩ := hI
        refine lv_lstore (lv' := [(11, .long j56_s0), (0, .ref h0), (1, .int p0), (2, .long p1), (4, .long p2), (6, .int p3), (7, .int j12_s0), (8, .int x3), (9, .long j38_s0)]) hx hb d_MD_worked_56 hl (by decide) rfl (fun ls hl => ?_)
        refine lv_iload_n hx hb d_MD_worked_58 rfl (lv_at hl 2 rfl) ?_
        by_cases g59_128 : p0.toInt = 106
        · have ho59 : tab_off 285 106 119 #[69, 74, 79, 84, 146, 194, 146, 230, 235, 240, 245, 250, 255, 261] p0.toInt = 69 := by rw [g59_128]; rfl
          refine lv_tab (tgt := 128) hx hb d_MD_worked_59 (by decide) ho59 (by decide) ?_
          clear ho59
          refine lv_lload_n hx hb d_MD_worked_128 rfl (lv_at hl 3 rfl) ?_
          refine lv_lload hx hb d_MD_worked_129 (lv_at hl 4 rfl) ?_
          refine lv_ladd hx hb d_MD_worked_131 ?_
          refine lv_topl (fun x4 ex4 => ?_)
          have hP9 := hP.sb (wq := (wz_301 h0 rf tap h0_taped h0_length h0_kind h0_from h0_to h0_word h0_numeral h0_globalNames_r h0_globalPlaces_r h0_globalTypes_r h0_globalValues_r h0_globalCount h0_funs_r h0_funCount h0_open h0_signs h0_levels_r h0_now h0_known_r h0_knownCount h0_loops mad h0_madeLength mag h0_smalls_r h0_greats_r h0_module_r h0_spare_r h0_m h0_cursor h0_limit blk stk h0_top hgt lab ous kis los h0_depth h0_function mem h0_pages glo val h0_valueTop ffu fre fba fla h0_frames lat lhe h0_labelTop h0_steps h0_there rsl h0_resultLength h0_reason h0_place arg h0_argumentCount h0_code rf rf_backtrace rf_detailMessage rf_cause rf_stackTrace rf_depth rf_suppressedExceptions rf_reason rf_place)) [0, 1] rfl
          have hD9 := hD.sb (wq := (wz_301 h0 rf tap h0_taped h0_length h0_kind h0_from h0_to h0_word h0_numeral h0_globalNames_r h0_globalPlaces_r h0_globalTypes_r h0_globalValues_r h0_globalCount h0_funs_r h0_funCount h0_open h0_signs h0_levels_r h0_now h0_known_r h0_knownCount h0_loops mad h0_madeLength mag h0_smalls_r h0_greats_r h0_module_r h0_spare_r h0_m h0_cursor h0_limit blk stk h0_top hgt lab ous kis los h0_depth h0_function mem h0_pages glo val h0_valueTop ffu fre fba fla h0_frames lat lhe h0_labelTop h0_steps h0_there rsl h0_resultLength h0_reason h0_place arg h0_argumentCount h0_code rf rf_backtrace rf_detailMessage rf_cause rf_stackTrace rf_depth rf_suppressedExceptions rf_reason rf_place)) [0, 1] (by decide) rfl
          exact tz_up (fun _ => rfl) (W.lret (v := x4) hx hb hr (fun t ht hW => ⟨⟨(rf_place, rf_reason), ⟨x4, rfl, (trivial)⟩, va_P.he ht.symm hP9, va_K.moved hW.alike hK, hD9⟩, hS.F ht⟩) hS.2.2 d_MD_worked_132)
        · skip
          by_cases g59_133 : p0.toInt = 107
          · have ho59 : tab_off 285 106 119 #[69, 74, 79, 84, 146, 194, 146, 230, 235, 240, 245, 250, 255, 261] p0.toInt = 74 := by rw [g59_133]; rfl
            refine lv_tab (tgt := 133) hx hb d_MD_worked_59 (by decide) ho59 (by decide) ?_
            clear ho59
            refine lv_lload_n hx hb d_MD_worked_133 rfl (lv_at hl 3 rfl) ?_
            refine lv_lload hx hb d_MD_worked_134 (lv_at hl 4 rfl) ?_
            refine lv_lsub hx hb d_MD_worked_136 ?_
            refine lv_topl (fun x5 ex5 => ?_)
            have hP9 := hP.sb (wq := (wz_301 h0 rf tap h0_taped h0_length h0_kind h0_from h0_to h0_word h0_numeral h0_globalNames_r h0_globalPlaces_r h0_globalTypes_r h0_globalValues_r h0_globalCount h0_funs_r h0_funCount h0_open h0_signs h0_levels_r h0_now h0_known_r h0_knownCount h0_loops mad h0_madeLength mag h0_smalls_r h0_greats_r h0_module_r h0_spare_r h0_m h0_cursor h0_limit blk stk h0_top hgt lab ous kis los h0_depth h0_function mem h0_pages glo val h0_valueTop ffu fre fba fla h0_frames lat lhe h0_labelTop h0_steps h0_there rsl h0_resultLength h0_reason h0_place arg h0_argumentCount h0_code rf rf_backtrace rf_detailMessage rf_cause rf_stackTrace rf_depth rf_suppressedExceptions rf_reason rf_place)) [0, 1] rfl
            have hD9 := hD.sb (wq := (wz_301 h0 rf tap h0_taped h0_length h0_kind h0_from h0_to h0_word h0_numeral h0_globalNames_r h0_globalPlaces_r h0_globalTypes_r h0_globalValues_r h0_globalCount h0_funs_r h0_funCount h0_open h0_signs h0_levels_r h0_now h0_known_r h0_knownCount h0_loops mad h0_madeLength mag h0_smalls_r h0_greats_r h0_module_r h0_spare_r h0_m h0_cursor h0_limit blk stk h0_top hgt lab ous kis los h0_depth h0_function mem h0_pages glo val h0_valueTop ffu fre fba fla h0_frames lat lhe h0_labelTop h0_steps h0_there rsl h0_resultLength h0_reason h0_place arg h0_argumentCount h0_code rf rf_backtrace rf_detailMessage rf_cause rf_stackTrace rf_depth rf_suppressedExceptions rf_reason rf_place)) [0, 1] (by decide) rfl
            exact tz_up (fun _ => rfl) (W.lret (v := x5) hx hb hr (fun t ht hW => ⟨⟨(rf_place, rf_reason), ⟨x5, rfl, (trivial)⟩, va_P.he ht.symm hP9, va_K.moved hW.alike hK, hD9⟩, hS.F ht⟩) hS.2.2 d_MD_worked_137)
          · skip
            by_cases g59_138 : p0.toInt = 108
            · have ho59 : tab_off 285 106 119 #[69, 74, 79, 84, 146, 194, 146, 230, 235, 240, 245, 250, 255, 261] p0.toInt = 79 := by rw [g59_138]; rfl
              refine lv_tab (tgt := 138) hx hb d_MD_worked_59 (by decide) ho59 (by decide) ?_
              clear ho59
              refine lv_lload_n hx hb d_MD_worked_138 rfl (lv_at hl 3 rfl) ?_
              refine lv_lload hx hb d_MD_worked_139 (lv_at hl 4 rfl) ?_
              refine lv_lmul hx hb d_MD_worked_141 ?_
              refine lv_topl (fun x6 ex6 => ?_)
              have hP9 := hP.sb (wq := (wz_301 h0 rf tap h0_taped h0_length h0_kind h0_from h0_to h0_word h0_numeral h0_globalNames_r h0_globalPlaces_r h0_globalTypes_r h0_globalValues_r h0_globalCount h0_funs_r h0_funCount h0_open h0_signs h0_levels_r h0_now h0_known_r h0_knownCount h0_loops mad h0_madeLength mag h0_smalls_r h0_greats_r h0_module_r h0_spare_r h0_m h0_cursor h0_limit blk stk h0_top hgt lab ous kis los h0_depth h0_function mem h0_pages glo val h0_valueTop ffu fre fba fla h0_frames lat lhe h0_labelTop h0_steps h0_there rsl h0_resultLength h0_reason h0_place arg h0_argumentCount h0_code rf rf_backtrace rf_detailMessage rf_cause rf_stackTrace rf_depth rf_suppressedExceptions rf_reason rf_place)) [0, 1] rfl
              have hD9 := hD.sb (wq := (wz_301 h0 rf tap h0_taped h0_length h0_kind h0_from h0_to h0_word h0_numeral h0_globalNames_r h0_globalPlaces_r h0_globalTypes_r h0_globalValues_r h0_globalCount h0_funs_r h0_funCount h0_open h0_signs h0_levels_r h0_now h0_known_r h0_knownCount h0_loops mad h0_madeLength mag h0_smalls_r h0_greats_r h0_module_r h0_spare_r h0_m h0_cursor h0_limit blk stk h0_top hgt lab ous kis los h0_depth h0_function mem h0_pages glo val h0_valueTop ffu fre fba fla h0_frames lat lhe h0_labelTop h0_steps h0_there rsl h0_resultLength h0_reason h0_place arg h0_argumentCount h0_code rf rf_backtrace rf_detailMessage rf_cause rf_stackTrace rf_depth rf_suppressedExceptions rf_reason rf_place)) [0, 1] (by decide) rfl
              exact tz_up (fun _ => rfl) (W.lret (v := x6) hx hb hr (fun t ht hW => ⟨⟨(rf_place, rf_reason), ⟨x6, rfl, (trivial)⟩, va_P.he ht.symm hP9, va_K.moved hW.alike hK, hD9⟩, hS.F ht⟩) hS.2.2 d_MD_worked_142)
            · skip
              by_cases g59_143 : p0.toInt = 109
              · have ho59 : tab_off 285 106 119 #[69, 74, 79, 84, 146, 194, 146, 230, 235, 240, 245, 250, 255, 261] p0.toInt = 84 := by rw [g59_143]; rfl
                refine lv_tab (tgt := 143) hx hb d_MD_worked_59 (by decide) ho59 (by decide) ?_
                clear ho59
                refine lv_aload_n hx hb d_MD_worked_143 rfl (lv_at hl 1 rfl) ?_
                refine lv_lload hx hb d_MD_worked_144 (lv_at hl 4 rfl) ?_
                refine lv_lconst (v := 0) hx hb d_MD_worked_146 (by decide) ?_
                have kl0 : (0 : Int64).toInt = 0 := by decide
                refine W.lcmp hx hb d_MD_worked_147 ?_
                refine lv_topi (fun x7 ex7 => ?_)
                have tx7 := lgc ex7
                refine lv_if_ne (tgt := 155) hx hb d_MD_worked_148 (by decide) (fun c148 => ?_) (fun c148 => ?_)
                · have q148 := neI c148
                  refine lv_iconst (v := 0) hx hb d_MD_worked_155 (by decide) ?_
                  refine lv_bipush (v := 10) hx hb d_MD_worked_156 (by decide) ?_
                  have hPc := hP.sb (wq := (wz_301 h0 rf tap h0_taped h0_length h0_kind h0_from h0_to h0_word h0_numeral h0_globalNames_r h0_globalPlaces_r h0_globalTypes_r h0_globalValues_r h0_globalCount h0_funs_r h0_funCount h0_open h0_signs h0_levels_r h0_now h0_known_r h0_knownCount h0_loops mad h0_madeLength mag h0_smalls_r h0_greats_r h0_module_r h0_spare_r h0_m h0_cursor h0_limit blk stk h0_top hgt lab ous kis los h0_depth h0_function mem h0_pages glo val h0_valueTop ffu fre fba fla h0_frames lat lhe h0_labelTop h0_steps h0_there rsl h0_resultLength h0_reason h0_place arg h0_argumentCount h0_code rf rf_backtrace rf_detailMessage rf_cause rf_stackTrace rf_depth rf_suppressedExceptions rf_reason rf_place)) [0, 1] rfl
                  have hDc := hD.sb (wq := (wz_301 h0 rf tap h0_taped h0_length h0_kind h0_from h0_to h0_word h0_numeral h0_globalNames_r h0_globalPlaces_r h0_globalTypes_r h0_globalValues_r h0_globalCount h0_funs_r h0_funCount h0_open h0_signs h0_levels_r h0_now h0_known_r h0_knownCount h0_loops mad h0_madeLength mag h0_smalls_r h0_greats_r h0_module_r h0_spare_r h0_m h0_cursor h0_limit blk stk h0_top hgt lab ous kis los h0_depth h0_function mem h0_pages glo val h0_valueTop ffu fre fba fla h0_frames lat lhe h0_labelTop h0_steps h0_there rsl h0_resultLength h0_reason h0_place arg h0_argumentCount h0_code rf rf_backtrace rf_detailMessage rf_cause rf_stackTrace rf_depth rf_suppressedExceptions rf_reason rf_place)) [0, 1] (by decide) rfl
                  have hKc := hK.sb (tyq := []) [] rfl
                  have hFc := va_free (wc := (wz_301 h0 rf tap h0_taped h0_length h0_kind h0_from h0_to h0_word h0_numeral h0_globalNames_r h0_globalPlaces_r h0_globalTypes_r h0_globalValues_r h0_globalCount h0_funs_r h0_funCount h0_open h0_signs h0_levels_r h0_now h0_known_r h0_knownCount h0_loops mad h0_madeLength mag h0_smalls_r h0_greats_r h0_module_r h0_spare_r h0_m h0_cursor h0_limit blk stk h0_top hgt lab ous kis los h0_depth h0_function mem h0_pages glo val h0_valueTop ffu fre fba fla h0_frames lat lhe h0_labelTop h0_steps h0_there rsl h0_resultLength h0_reason h0_place arg h0_argumentCount h0_code rf rf_backtrace rf_detailMessage rf_cause rf_stackTrace rf_depth rf_suppressedExceptions rf_reason rf_place)) hD hS hA [0, 1] rfl
                  refine tr_callv (tz_runV (As := [.int 0, .int 10]) (rest := []) ⟨hx, hb, hml, hown, hts⟩ (c_MD_ends l hlt dC dI H.size h0 rf tap h0_globalNames_r h0_globalPlaces_r h0_globalTypes_r h0_globalValues_r h0_funs_r h0_levels_r h0_known_r mad mag h0_smalls_r h0_greats_r h0_module_r h0_spare_r blk stk hgt lab ous kis los mem glo val ffu fre fba fla lat lhe rsl arg h0_taped h0_length h0_kind h0_from h0_to h0_word h0_numeral h0_globalCount h0_funCount h0_open h0_signs h0_now h0_knownCount h0_loops h0_madeLength h0_m h0_cursor h0_limit h0_top h0_depth h0_function h0_pages h0_valueTop h0_frames h0_labelTop h0_steps h0_there h0_resultLength h0_reason h0_place h0_argumentCount h0_code rf_backtrace rf_detailMessage rf_cause rf_stackTrace rf_depth rf_suppressedExceptions rf_reason rf_place 0 10 (Or.inl rfl)) (cwV 2 hts (gV kM_MD_706 kV_MD_ends kS_MD_ends kI_MD kC_MD_ends) rfl rfl rfl (by decide +kernel) ⟨Nat.le_of_ble_eq_true rfl, Nat.le_of_ble_eq_true rfl⟩) ⟨fun a U g mk z => by obtain ⟨z0, z1, zP, zK, zD, zS⟩ := z; exact ⟨z0, z1, zP, va_K.moved (u := U) (U := U.calling g mk a) (Vm.Alike.refl U.vm) zK, zD, sw_nest.same (s := U) (U := U.calling g mk a) rfl zS⟩, va_recv hKc hPc (ci := 11) (q0 := 0) rfl rfl, fun U hU hW => ⟨rfl, by rw [hU], va_P.he hU.symm hPc, va_K.moved hW.alike hKc, hDc.weaken (fun _ _ _ _ => trivial), hSW.warm hW⟩⟩ rfl rfl hl.1 rfl (lv_room (Nat.le_of_ble_eq_true rfl)) d_MD_worked_158 ⟨Nat.le_of_ble_eq_true rfl, Nat.le_of_ble_eq_true rfl⟩) hS (fun q _ h => hFc q h) hFc (fun u t H1 locs ht hvm hw hB hz1 hk1 hS => ?_) (fun xx u t H1 locs ht hvm hw hXX hB hz1 hk1 hS => ?_)
                  rotate_left
                  · skip
                    obtain ⟨hxa, hXX⟩ := hXX
                    obtain ⟨n9, n10⟩ := u
                    try dsimp only at hw
                    have tq9 := hw
                    exact absurd tq9 (by decide)
                  obtain ⟨n11, n12⟩ := u
                  try dsimp only at hw
                  have xr8 := hw
                  try clear hw
                  obtain ⟨hP1, hK1, hD1⟩ := hB
                  replace hP1 := va_P.he ht hP1
                  obtain ⟨hP, hD⟩ := va_join (wr := []) (w1 := (wz_301 h0 rf tap h0_taped h0_length h0_kind h0_from h0_to h0_word h0_numeral h0_globalNames_r h0_globalPlaces_r h0_globalTypes_r h0_globalValues_r h0_globalCount h0_funs_r h0_funCount h0_open h0_signs h0_levels_r h0_now h0_known_r h0_knownCount h0_loops mad h0_madeLength mag h0_smalls_r h0_greats_r h0_module_r h0_spare_r h0_m h0_cursor h0_limit blk stk h0_top hgt lab ous kis los h0_depth h0_function mem h0_pages glo val h0_valueTop ffu fre fba fla h0_frames lat lhe h0_labelTop h0_steps h0_there rsl h0_resultLength h0_reason h0_place arg h0_argumentCount h0_code rf rf_backtrace rf_detailMessage rf_cause rf_stackTrace rf_depth rf_suppressedExceptions n12 n11)) hP hD [0, 1] [] rfl rfl (by decide) (by decide) hk1 hFc hP1 hD1
                  clear hPc hDc hKc hFc hz1 hk1 hP1 hK1 hD1
                  rename Heap => H
                  have hP : va_P (dC, dI) cls2 (wz_301 h0 rf tap h0_taped h0_length h0_kind h0_from h0_to h0_word h0_numeral h0_globalNames_r h0_globalPlaces_r h0_globalTypes_r h0_globalValues_r h0_globalCount h0_funs_r h0_funCount h0_open h0_signs h0_levels_r h0_now h0_known_r h0_knownCount h0_loops mad h0_madeLength mag h0_smalls_r h0_greats_r h0_module_r h0_spare_r h0_m h0_cursor h0_limit blk stk h0_top hgt lab ous kis los h0_depth h0_function mem h0_pages glo val h0_valueTop ffu fre fba fla h0_frames lat lhe h0_labelTop h0_steps h0_there rsl h0_resultLength h0_reason h0_place arg h0_argumentCount h0_code rf rf_backtrace rf_detailMessage rf_cause rf_stackTrace rf_depth rf_suppressedExceptions n12 n11) H := hP
                  have hD : va_D A (wz_301 h0 rf tap h0_taped h0_length h0_kind h0_from h0_to h0_word h0_numeral h0_globalNames_r h0_globalPlaces_r h0_globalTypes_r h0_globalValues_r h0_globalCount h0_funs_r h0_funCount h0_open h0_signs h0_levels_r h0_now h0_known_r h0_knownCount h0_loops mad h0_madeLength mag h0_smalls_r h0_greats_r h0_module_r h0_spare_r h0_m h0_cursor h0_limit blk stk h0_top hgt lab ous kis los h0_depth h0_function mem h0_pages glo val h0_valueTop ffu fre fba fla h0_frames lat lhe h0_labelTop h0_steps h0_there rsl h0_resultLength h0_reason h0_place arg h0_argumentCount h0_code rf rf_backtrace rf_detailMessage rf_cause rf_stackTrace rf_depth rf_suppressedExceptions n12 n11) := hD
                  refine lv_aload_n hx hb d_MD_worked_161 rfl (lv_at hl 1 rfl) ?_
                  refine lv_lload hx hb d_MD_worked_162 (lv_at hl 4 rfl) ?_
                  refine lv_ldc2 hx hb hown (hts _ kL_MD_473) d_MD_worked_164 ?_
                  refine lv_topl (fun x13 ex13 => ?_)
                  have tx13 : x13.toInt = -1 := by rw [ex13]; decide
                  refine W.lcmp hx hb d_MD_worked_167 ?_
                  refine lv_topi (fun x14 ex14 => ?_)
                  have tx14 := lgc ex14
                  refine w_cut (pc2 := 194) (σ := Unit) (fun u H locs ls => match u with | _ => va_P (dC, dI) cls2 (wz_301 h0 rf tap h0_taped h0_length h0_kind h0_from h0_to h0_word h0_numeral h0_globalNames_r h0_globalPlaces_r h0_globalTypes_r h0_globalValues_r h0_globalCount h0_funs_r h0_funCount h0_open h0_signs h0_levels_r h0_now h0_known_r h0_knownCount h0_loops mad h0_madeLength mag h0_smalls_r h0_greats_r h0_module_r h0_spare_r h0_m h0_cursor h0_limit blk stk h0_top hgt lab ous kis los h0_depth h0_function mem h0_pages glo val h0_valueTop ffu fre fba fla h0_frames lat lhe h0_labelTop h0_steps h0_there rsl h0_resultLength h0_reason h0_place arg h0_argumentCount h0_code rf rf_backtrace rf_detailMessage rf_cause rf_stackTrace rf_depth rf_suppressedExceptions n12 n11) H ∧ va_D A (wz_301 h0 rf tap h0_taped h0_length h0_kind h0_from h0_to h0_word h0_numeral h0_globalNames_r h0_globalPlaces_r h0_globalTypes_r h0_globalValues_r h0_globalCount h0_funs_r h0_funCount h0_open h0_signs h0_levels_r h0_now h0_known_r h0_knownCount h0_loops mad h0_madeLength mag h0_smalls_r h0_greats_r h0_module_r h0_spare_r h0_m h0_cursor h0_limit blk stk h0_top hgt lab ous kis los h0_depth h0_function mem h0_pages glo val h0_valueTop ffu fre fba fla h0_frames lat lhe h0_labelTop h0_steps h0_there rsl h0_resultLength h0_reason h0_place arg h0_argumentCount h0_code rf rf_backtrace rf_detailMessage rf_cause rf_stackTrace rf_depth rf_suppressedExceptions n12 n11) ∧ va_S A s.heap H locs ∧ lv_has ls 13 [(2, .long p1), (4, .long p2)]) (fun u => match u with | _ => [.ref h0]) ?_ (fun jn194 => ?_)
                  · intro u H locs ls hI
                    obtain ⟨hP, hD, hS, hl⟩ := hI
                    refine lv_iconst (v := 0) hx hb d_MD_worked_194 (by decide) ?_
                    refine lv_bipush (v := 11) hx hb d_MD_worked_195 (by decide) ?_
                    have hPc := hP.sb (wq := (wz_301 h0 rf tap h0_taped h0_length h0_kind h0_from h0_to h0_word h0_numeral h0_globalNames_r h0_globalPlaces_r h0_globalTypes_r h0_globalValues_r h0_globalCount h0_funs_r h0_funCount h0_open h0_signs h0_levels_r h0_now h0_known_r h0_knownCount h0_loops mad h0_madeLength mag h0_smalls_r h0_greats_r h0_module_r h0_spare_r h0_m h0_cursor h0_limit blk stk h0_top hgt lab ous kis los h0_depth h0_function mem h0_pages glo val h0_valueTop ffu fre fba fla h0_frames lat lhe h0_labelTop h0_steps h0_there rsl h0_resultLength h0_reason h0_place arg h0_argumentCount h0_code rf rf_backtrace rf_detailMessage rf_cause rf_stackTrace rf_depth rf_suppressedExceptions n12 n11)) [0, 1] rfl
                    have hDc := hD.sb (wq := (wz_301 h0 rf tap h0_taped h0_length h0_kind h0_from h0_to h0_word h0_numeral h0_globalNames_r h0_globalPlaces_r h0_globalTypes_r h0_globalValues_r h0_globalCount h0_funs_r h0_funCount h0_open h0_signs h0_levels_r h0_now h0_known_r h0_knownCount h0_loops mad h0_madeLength mag h0_smalls_r h0_greats_r h0_module_r h0_spare_r h0_m h0_cursor h0_limit blk stk h0_top hgt lab ous kis los h0_depth h0_function mem h0_pages glo val h0_valueTop ffu fre fba fla h0_frames lat lhe h0_labelTop h0_steps h0_there rsl h0_resultLength h0_reason h0_place arg h0_argumentCount h0_code rf rf_backtrace rf_detailMessage rf_cause rf_stackTrace rf_depth rf_suppressedExceptions n12 n11)) [0, 1] (by decide) rfl
                    have hKc := hK.sb (tyq := []) [] rfl
                    have hFc := va_free (wc := (wz_301 h0 rf tap h0_taped h0_length h0_kind h0_from h0_to h0_word h0_numeral h0_globalNames_r h0_globalPlaces_r h0_globalTypes_r h0_globalValues_r h0_globalCount h0_funs_r h0_funCount h0_open h0_signs h0_levels_r h0_now h0_known_r h0_knownCount h0_loops mad h0_madeLength mag h0_smalls_r h0_greats_r h0_module_r h0_spare_r h0_m h0_cursor h0_limit blk stk h0_top hgt lab ous kis los h0_depth h0_function mem h0_pages glo val h0_valueTop ffu fre fba fla h0_frames lat lhe h0_labelTop h0_steps h0_there rsl h0_resultLength h0_reason h0_place arg h0_argumentCount h0_code rf rf_backtrace rf_detailMessage rf_cause rf_stackTrace rf_depth rf_suppressedExceptions n12 n11)) hD hS hA [0, 1] rfl
                    refine tr_callv (tz_runV (As := [.int 0, .int 11]) (rest := []) ⟨hx, hb, hml, hown, hts⟩ (c_MD_ends l hlt dC dI H.size h0 rf tap h0_globalNames_r h0_globalPlaces_r h0_globalTypes_r h0_globalValues_r h0_funs_r h0_levels_r h0_known_r mad mag h0_smalls_r h0_greats_r h0_module_r h0_spare_r blk stk hgt lab ous kis los mem glo val ffu fre fba fla lat lhe rsl arg h0_taped h0_length h0_kind h0_from h0_to h0_word h0_numeral h0_globalCount h0_funCount h0_open h0_signs h0_now h0_knownCount h0_loops h0_madeLength h0_m h0_cursor h0_limit h0_top h0_depth h0_function h0_pages h0_valueTop h0_frames h0_labelTop h0_steps h0_there h0_resultLength h0_reason h0_place h0_argumentCount h0_code rf_backtrace rf_detailMessage rf_cause rf_stackTrace rf_depth rf_suppressedExceptions n12 n11 0 11 (Or.inl rfl)) (cwV 2 hts (gV kM_MD_706 kV_MD_ends kS_MD_ends kI_MD kC_MD_ends) rfl rfl rfl (by decide +kernel) ⟨Nat.le_of_ble_eq_true rfl, Nat.le_of_ble_eq_true rfl⟩) ⟨fun a U g mk z => by obtain ⟨z0, z1, zP, zK, zD, zS⟩ := z; exact ⟨z0, z1, zP, va_K.moved (u := U) (U := U.calling g mk a) (Vm.Alike.refl U.vm) zK, zD, sw_nest.same (s := U) (U := U.calling g mk a) rfl zS⟩, va_recv hKc hPc (ci := 11) (q0 := 0) rfl rfl, fun U hU hW => ⟨rfl, by rw [hU], va_P.he hU.symm hPc, va_K.moved hW.alike hKc, hDc.weaken (fun _ _ _ _ => trivial), hSW.warm hW⟩⟩ rfl rfl hl.1 rfl (lv_room (Nat.le_of_ble_eq_true rfl)) d_MD_worked_197 ⟨Nat.le_of_ble_eq_true rfl, Nat.le_of_ble_eq_true rfl⟩) hS (fun q _ h => hFc q h) hFc (fun u t H1 locs ht hvm hw hB hz1 hk1 hS => ?_) (fun xx u t H1 locs ht hvm hw hXX hB hz1 hk1 hS => ?_)
                    rotate_left
                    · skip
                      obtain ⟨hxa, hXX⟩ := hXX
                      obtain ⟨n16, n17⟩ := u
                      try dsimp only at hw
                      have tq9 := hw
                      exact absurd tq9 (by decide)
                    obtain ⟨n18, n19⟩ := u
                    try dsimp only at hw
                    have xr15 := hw
                    try clear hw
                    obtain ⟨hP1, hK1, hD1⟩ := hB
                    replace hP1 := va_P.he ht hP1
                    obtain ⟨hP, hD⟩ := va_join (wr := []) (w1 := (wz_301 h0 rf tap h0_taped h0_length h0_kind h0_from h0_to h0_word h0_numeral h0_globalNames_r h0_globalPlaces_r h0_globalTypes_r h0_globalValues_r h0_globalCount h0_funs_r h0_funCount h0_open h0_signs h0_levels_r h0_now h0_known_r h0_knownCount h0_loops mad h0_madeLength mag h0_smalls_r h0_greats_r h0_module_r h0_spare_r h0_m h0_cursor h0_limit blk stk h0_top hgt lab ous kis los h0_depth h0_function mem h0_pages glo val h0_valueTop ffu fre fba fla h0_frames lat lhe h0_labelTop h0_steps h0_there rsl h0_resultLength h0_reason h0_place arg h0_argumentCount h0_code rf rf_backtrace rf_detailMessage rf_cause rf_stackTrace rf_depth rf_suppressedExceptions n19 n18)) hP hD [0, 1] [] rfl rfl (by decide) (by decide) hk1 hFc hP1 hD1
                    clear hPc hDc hKc hFc hz1 hk1 hP1 hK1 hD1
                    rename Heap => H
                    have hP : va_P (dC, dI) cls2 (wz_301 h0 rf tap h0_taped h0_length h0_kind h0_from h0_to h0_word h0_numeral h0_globalNames_r h0_globalPlaces_r h0_globalTypes_r h0_globalValues_r h0_globalCount h0_funs_r h0_funCount h0_open h0_signs h0_levels_r h0_now h0_known_r h0_knownCount h0_loops mad h0_madeLength mag h0_smalls_r h0_greats_r h0_module_r h0_spare_r h0_m h0_cursor h0_limit blk stk h0_top hgt lab ous kis los h0_depth h0_function mem h0_pages glo val h0_valueTop ffu fre fba fla h0_frames lat lhe h0_labelTop h0_steps h0_there rsl h0_resultLength h0_reason h0_place arg h0_argumentCount h0_code rf rf_backtrace rf_detailMessage rf_cause rf_stackTrace rf_depth rf_suppressedExceptions n19 n18) H := hP
                    have hD : va_D A (wz_301 h0 rf tap h0_taped h0_length h0_kind h0_from h0_to h0_word h0_numeral h0_globalNames_r h0_globalPlaces_r h0_globalTypes_r h0_globalValues_r h0_globalCount h0_funs_r h0_funCount h0_open h0_signs h0_levels_r h0_now h0_known_r h0_knownCount h0_loops mad h0_madeLength mag h0_smalls_r h0_greats_r h0_module_r h0_spare_r h0_m h0_cursor h0_limit blk stk h0_top hgt lab ous kis los h0_depth h0_function mem h0_pages glo val h0_valueTop ffu fre fba fla h0_frames lat lhe h0_labelTop h0_steps h0_there rsl h0_resultLength h0_reason h0_place arg h0_argumentCount h0_code rf rf_backtrace rf_detailMessage rf_cause rf_stackTrace rf_depth rf_suppressedExceptions n19 n18) := hD
                    refine lv_lload_n hx hb d_MD_worked_200 rfl (lv_at hl 0 rfl) ?_
                    refine lv_lload hx hb d_MD_worked_201 (lv_at hl 1 rfl) ?_
                    refine lv_ldiv hx hb d_MD_worked_203 ((nz64 (by (first | (apply Int.le_antisymm <;> omega) | omega)))) ?_
                    refine lv_topl (fun x20 ex20 => ?_)
                    have hP9 := hP.sb (wq := (wz_301 h0 rf tap h0_taped h0_length h0_kind h0_from h0_to h0_word h0_numeral h0_globalNames_r h0_globalPlaces_r h0_globalTypes_r h0_globalValues_r h0_globalCount h0_funs_r h0_funCount h0_open h0_signs h0_levels_r h0_now h0_known_r h0_knownCount h0_loops mad h0_madeLength mag h0_smalls_r h0_greats_r h0_module_r h0_spare_r h0_m h0_cursor h0_limit blk stk h0_top hgt lab ous kis los h0_depth h0_function mem h0_pages glo val h0_valueTop ffu fre fba fla h0_frames lat lhe h0_labelTop h0_steps h0_there rsl h0_resultLength h0_reason h0_place arg h0_argumentCount h0_code rf rf_backtrace rf_detailMessage rf_cause rf_stackTrace rf_depth rf_suppressedExceptions n19 n18)) [0, 1] rfl
                    have hD9 := hD.sb (wq := (wz_301 h0 rf tap h0_taped h0_length h0_kind h0_from h0_to h0_word h0_numeral h0_globalNames_r h0_globalPlaces_r h0_globalTypes_r h0_globalValues_r h0_globalCount h0_funs_r h0_funCount h0_open h0_signs h0_levels_r h0_now h0_known_r h0_knownCount h0_loops mad h0_madeLength mag h0_smalls_r h0_greats_r h0_module_r h0_spare_r h0_m h0_cursor h0_limit blk stk h0_top hgt lab ous kis los h0_depth h0_function mem h0_pages glo val h0_valueTop ffu fre fba fla h0_frames lat lhe h0_labelTop h0_steps h0_there rsl h0_resultLength h0_reason h0_place arg h0_argumentCount h0_code rf rf_backtrace rf_detailMessage rf_cause rf_stackTrace rf_depth rf_suppressedExceptions n19 n18)) [0, 1] (by decide) rfl
                    exact tz_up (fun _ => rfl) (W.lret (v := x20) hx hb hr (fun t ht hW => ⟨⟨(n18, n19), ⟨x20, rfl, (trivial)⟩, va_P.he ht.symm hP9, va_K.moved hW.alike hK, hD9⟩, hS.F ht⟩) hS.2.2 d_MD_worked_204)
                  · skip
                    refine lv_if_ne (tgt := 194) hx hb d_MD_worked_168 (by decide) (fun c168 => ?_) (fun c168 => ?_)
                    · have q168 := neI c168
                      exact jn194 () _ _ _ ⟨hP, hD, hS, lv_sub hl [3, 4] rfl⟩
                    · have q168 := eqI c168
                      refine lv_lload_n hx hb d_MD_worked_171 rfl (lv_at hl 3 rfl) ?_
                      refine lv_iload hx hb d_MD_worked_172 (lv_at hl 5 rfl) ?_
                      refine w_cut (pc2 := 186) (σ := Int64) (fun u H locs ls => match u with | j186_s0 => va_P (dC, dI) cls2 (wz_301 h0 rf tap h0_taped h0_length h0_kind h0_from h0_to h0_word h0_numeral h0_globalNames_r h0_globalPlaces_r h0_globalTypes_r h0_globalValues_r h0_globalCount h0_funs_r h0_funCount h0_open h0_signs h0_levels_r h0_now h0_known_r h0_knownCount h0_loops mad h0_madeLength mag h0_smalls_r h0_greats_r h0_module_r h0_spare_r h0_m h0_cursor h0_limit blk stk h0_top hgt lab ous kis los h0_depth h0_function mem h0_pages glo val h0_valueTop ffu fre fba fla h0_frames lat lhe h0_labelTop h0_steps h0_there rsl h0_resultLength h0_reason h0_place arg h0_argumentCount h0_code rf rf_backtrace rf_detailMessage rf_cause rf_stackTrace rf_depth rf_suppressedExceptions n12 n11) H ∧ va_D A (wz_301 h0 rf tap h0_taped h0_length h0_kind h0_from h0_to h0_word h0_numeral h0_globalNames_r h0_globalPlaces_r h0_globalTypes_r h0_globalValues_r h0_globalCount h0_funs_r h0_funCount h0_open h0_signs h0_levels_r h0_now h0_known_r h0_knownCount h0_loops mad h0_madeLength mag h0_smalls_r h0_greats_r h0_module_r h0_spare_r h0_m h0_cursor h0_limit blk stk h0_top hgt lab ous kis los h0_depth h0_function mem h0_pages glo val h0_valueTop ffu fre fba fla h0_frames lat lhe h0_labelTop h0_steps h0_there rsl h0_resultLength h0_reason h0_place arg h0_argumentCount h0_code rf rf_backtrace rf_detailMessage rf_cause rf_stackTrace rf_depth rf_suppressedExceptions n12 n11) ∧ va_S A s.heap H locs ∧ lv_has ls 13 [(2, .long p1), (4, .long p2)]) (fun u => match u with | j186_s0 => [.long j186_s0, .long p1, .ref h0]) ?_ (fun jn186 => ?_)
                      · intro u H locs ls hI
                        obtain ⟨j186_s0, rfl⟩ : ∃ z, z = u := ⟨_, rfl⟩
                        obtain ⟨hP, hD, hS, hl⟩ := hI
                        refine W.lcmp hx hb d_MD_worked_186 ?_
                        refine lv_topi (fun x21 ex21 => ?_)
                        have tx21 := lgc ex21
                        refine lv_if_ne (tgt := 194) hx hb d_MD_worked_187 (by decide) (fun c187 => ?_) (fun c187 => ?_)
                        · have q187 := neI c187
                          exact jn194 () _ _ _ ⟨hP, hD, hS, lv_sub hl [0, 1] rfl⟩
                        · have q187 := eqI c187
                          refine lv_iconst (v := 1) hx hb d_MD_worked_190 (by decide) ?_
                          refine lv_goto (tgt := 195) hx hb d_MD_worked_191 (by decide) ?_
                          refine lv_bipush (v := 11) hx hb d_MD_worked_195 (by decide) ?_
                          have hPc := hP.sb (wq := (wz_301 h0 rf tap h0_taped h0_length h0_kind h0_from h0_to h0_word h0_numeral h0_globalNames_r h0_globalPlaces_r h0_globalTypes_r h0_globalValues_r h0_globalCount h0_funs_r h0_funCount h0_open h0_signs h0_levels_r h0_now h0_known_r h0_knownCount h0_loops mad h0_madeLength mag h0_smalls_r h0_greats_r h0_module_r h0_spare_r h0_m h0_cursor h0_limit blk stk h0_top hgt lab ous kis los h0_depth h0_function mem h0_pages glo val h0_valueTop ffu fre fba fla h0_frames lat lhe h0_labelTop h0_steps h0_there rsl h0_resultLength h0_reason h0_place arg h0_argumentCount h0_code rf rf_backtrace rf_detailMessage rf_cause rf_stackTrace rf_depth rf_suppressedExceptions n12 n11)) [0, 1] rfl
                          have hDc := hD.sb (wq := (wz_301 h0 rf tap h0_taped h0_length h0_kind h0_from h0_to h0_word h0_numeral h0_globalNames_r h0_globalPlaces_r h0_globalTypes_r h0_globalValues_r h0_globalCount h0_funs_r h0_funCount h0_open h0_signs h0_levels_r h0_now h0_known_r h0_knownCount h0_loops mad h0_madeLength mag h0_smalls_r h0_greats_r h0_module_r h0_spare_r h0_m h0_cursor h0_limit blk stk h0_top hgt lab ous kis los h0_depth h0_function mem h0_pages glo val h0_valueTop ffu fre fba fla h0_frames lat lhe h0_labelTop h0_steps h0_there rsl h0_resultLength h0_reason h0_place arg h0_argumentCount h0_code rf rf_backtrace rf_detailMessage rf_cause rf_stackTrace rf_depth rf_suppressedExceptions n12 n11)) [0, 1] (by decide) rfl
                          have hKc := hK.sb (tyq := []) [] rfl
                          have hFc := va_free (wc := (wz_301 h0 rf tap h0_taped h0_length h0_kind h0_from h0_to h0_word h0_numeral h0_globalNames_r h0_globalPlaces_r h0_globalTypes_r h0_globalValues_r h0_globalCount h0_funs_r h0_funCount h0_open h0_signs h0_levels_r h0_now h0_known_r h0_knownCount h0_loops mad h0_madeLength mag h0_smalls_r h0_greats_r h0_module_r h0_spare_r h0_m h0_cursor h0_limit blk stk h0_top hgt lab ous kis los h0_depth h0_function mem h0_pages glo val h0_valueTop ffu fre fba fla h0_frames lat lhe h0_labelTop h0_steps h0_there rsl h0_resultLength h0_reason h0_place arg h0_argumentCount h0_code rf rf_backtrace rf_detailMessage rf_cause rf_stackTrace rf_depth rf_suppressedExceptions n12 n11)) hD hS hA [0, 1] rfl
                          refine tr_callv (tz_runV (As := [.int 1, .int 11]) (rest := []) ⟨hx, hb, hml, hown, hts⟩ (c_MD_ends l hlt dC dI H.size h0 rf tap h0_globalNames_r h0_globalPlaces_r h0_globalTypes_r h0_globalValues_r h0_funs_r h0_levels_r h0_known_r mad mag h0_smalls_r h0_greats_r h0_module_r h0_spare_r blk stk hgt lab ous kis los mem glo val ffu fre fba fla lat lhe rsl arg h0_taped h0_length h0_kind h0_from h0_to h0_word h0_numeral h0_globalCount h0_funCount h0_open h0_signs h0_now h0_knownCount h0_loops h0_madeLength h0_m h0_cursor h0_limit h0_top h0_depth h0_function h0_pages h0_valueTop h0_frames h0_labelTop h0_steps h0_there h0_resultLength h0_reason h0_place h0_argumentCount h0_code rf_backtrace rf_detailMessage rf_cause rf_stackTrace rf_depth rf_suppressedExceptions n12 n11 1 11 (Or.inr rfl)) (cwV 2 hts (gV kM_MD_706 kV_MD_ends kS_MD_ends kI_MD kC_MD_ends) rfl rfl rfl (by decide +kernel) ⟨Nat.le_of_ble_eq_true rfl, Nat.le_of_ble_eq_true rfl⟩) ⟨fun a U g mk z => by obtain ⟨z0, z1, zP, zK, zD, zS⟩ := z; exact ⟨z0, z1, zP, va_K.moved (u := U) (U := U.calling g mk a) (Vm.Alike.refl U.vm) zK, zD, sw_nest.same (s := U) (U := U.calling g mk a) rfl zS⟩, va_recv hKc hPc (ci := 11) (q0 := 0) rfl rfl, fun U hU hW => ⟨rfl, by rw [hU], va_P.he hU.symm hPc, va_K.moved hW.alike hKc, hDc.weaken (fun _ _ _ _ => trivial), hSW.warm hW⟩⟩ rfl rfl hl.1 rfl (lv_room (Nat.le_of_ble_eq_true rfl)) d_MD_worked_197 ⟨Nat.le_of_ble_eq_true rfl, Nat.le_of_ble_eq_true rfl⟩) hS (fun q _ h => hFc q h) hFc (fun u t H1 locs ht hvm hw hB hz1 hk1 hS => ?_) (fun xx u t H1 locs ht hvm hw hXX hB hz1 hk1 hS => ?_)
                          rotate_left
                          · skip
                            obtain ⟨hxa, hXX⟩ := hXX
                            obtain ⟨n23, n24⟩ := u
                            try dsimp only at hw
                            have tq9 := hw
                            obtain ⟨hP1, hK1, hD1⟩ := hB
                            replace hP1 := va_P.he ht hP1
                            obtain ⟨hP, hD⟩ := va_join (wr := []) (w1 := (wz_301 h0 rf tap h0_taped h0_length h0_kind h0_from h0_to h0_word h0_numeral h0_globalNames_r h0_globalPlaces_r h0_globalTypes_r h0_globalValues_r h0_globalCount h0_funs_r h0_funCount h0_open h0_signs h0_levels_r h0_now h0_known_r h0_knownCount h0_loops mad h0_madeLength mag h0_smalls_r h0_greats_r h0_module_r h0_spare_r h0_m h0_cursor h0_limit blk stk h0_top hgt lab ous kis los h0_depth h0_function mem h0_pages glo val h0_valueTop ffu fre fba fla h0_frames lat lhe h0_labelTop h0_steps h0_there rsl h0_resultLength h0_reason h0_place arg h0_argumentCount h0_code rf rf_backtrace rf_detailMessage rf_cause rf_stackTrace rf_depth rf_suppressedExceptions n24 n23)) hP hD [0, 1] [] rfl rfl (by decide) (by decide) hk1 hFc hP1 hD1
                            have hP : va_P (dC, dI) cls2 (wz_301 h0 rf tap h0_taped h0_length h0_kind h0_from h0_to h0_word h0_numeral h0_globalNames_r h0_globalPlaces_r h0_globalTypes_r h0_globalValues_r h0_globalCount h0_funs_r h0_funCount h0_open h0_signs h0_levels_r h0_now h0_known_r h0_knownCount h0_loops mad h0_madeLength mag h0_smalls_r h0_greats_r h0_module_r h0_spare_r h0_m h0_cursor h0_limit blk stk h0_top hgt lab ous kis los h0_depth h0_function mem h0_pages glo val h0_valueTop ffu fre fba fla h0_frames lat lhe h0_labelTop h0_steps h0_there rsl h0_resultLength h0_reason h0_place arg h0_argumentCount h0_code rf rf_backtrace rf_detailMessage rf_cause rf_stackTrace rf_depth rf_suppressedExceptions n24 n23) H1 := hP
                            have hD : va_D A (wz_301 h0 rf tap h0_taped h0_length h0_kind h0_from h0_to h0_word h0_numeral h0_globalNames_r h0_globalPlaces_r h0_globalTypes_r h0_globalValues_r h0_globalCount h0_funs_r h0_funCount h0_open h0_signs h0_levels_r h0_now h0_known_r h0_knownCount h0_loops mad h0_madeLength mag h0_smalls_r h0_greats_r h0_module_r h0_spare_r h0_m h0_cursor h0_limit blk stk h0_top hgt lab ous kis los h0_depth h0_function mem h0_pages glo val h0_valueTop ffu fre fba fla h0_frames lat lhe h0_labelTop h0_steps h0_there rsl h0_resultLength h0_reason h0_place arg h0_argumentCount h0_code rf rf_backtrace rf_detailMessage rf_cause rf_stackTrace rf_depth rf_suppressedExceptions n24 n23) := hD
                            have hP9 := hP.sb (wq := (wz_301 h0 rf tap h0_taped h0_length h0_kind h0_from h0_to h0_word h0_numeral h0_globalNames_r h0_globalPlaces_r h0_globalTypes_r h0_globalValues_r h0_globalCount h0_funs_r h0_funCount h0_open h0_signs h0_levels_r h0_now h0_known_r h0_knownCount h0_loops mad h0_madeLength mag h0_smalls_r h0_greats_r h0_module_r h0_spare_r h0_m h0_cursor h0_limit blk stk h0_top hgt lab ous kis los h0_depth h0_function mem h0_pages glo val h0_valueTop ffu fre fba fla h0_frames lat lhe h0_labelTop h0_steps h0_there rsl h0_resultLength h0_reason h0_place arg h0_argumentCount h0_code rf rf_backtrace rf_detailMessage rf_cause rf_stackTrace rf_depth rf_suppressedExceptions n24 n23)) [0, 1] rfl
                            have hD9 := hD.sb (wq := (wz_301 h0 rf tap h0_taped h0_length h0_kind h0_from h0_to h0_word h0_numeral h0_globalNames_r h0_globalPlaces_r h0_globalTypes_r h0_globalValues_r h0_globalCount h0_funs_r h0_funCount h0_open h0_signs h0_levels_r h0_now h0_known_r h0_knownCount h0_loops mad h0_madeLength mag h0_smalls_r h0_greats_r h0_module_r h0_spare_r h0_m h0_cursor h0_limit blk stk h0_top hgt lab ous kis los h0_depth h0_function mem h0_pages glo val h0_valueTop ffu fre fba fla h0_frames lat lhe h0_labelTop h0_steps h0_there rsl h0_resultLength h0_reason h0_place arg h0_argumentCount h0_code rf rf_backtrace rf_detailMessage rf_cause rf_stackTrace rf_depth rf_suppressedExceptions n24 n23)) [0, 1] (by decide) rfl
                            exact tz_leave rfl hno hlocks (fun t ht hW => ⟨⟨(n23, n24), ⟨trivial, hxa, by rw [ht]; exact hXX.moved hW.alike⟩, va_P.he ht.symm hP9, va_K.moved hW.alike hK, hD9⟩, hS.F ht⟩) hS.2.2
                          obtain ⟨n25, n26⟩ := u
                          try dsimp only at hw
                          have xr22 := hw
                          try clear hw
                          exact absurd xr22 (by decide)
                      · skip
                        refine lv_if_eq (tgt := 183) hx hb d_MD_worked_174 (by decide) (fun c174 => ?_) (fun c174 => ?_)
                        · have q174 := eqI c174
                          refine lv_ldc2 hx hb hown (hts _ kL_MD_803) d_MD_worked_183 ?_
                          refine lv_topl (fun x27 ex27 => ?_)
                          have tx27 : x27.toInt = -9223372036854775808 := by rw [ex27]; decide
                          exact jn186 x27 _ _ _ ⟨hP, hD, hS, lv_sub hl [3, 4] rfl⟩
                        · have q174 := neI c174
                          refine lv_ldc2 hx hb hown (hts _ kL_MD_805) d_MD_worked_177 ?_
                          refine lv_topl (fun x28 ex28 => ?_)
                          have tx28 : x28.toInt = -2147483648 := by rw [ex28]; decide
                          refine lv_goto (tgt := 186) hx hb d_MD_worked_180 (by decide) ?_
                          exact jn186 x28 _ _ _ ⟨hP, hD, hS, lv_sub hl [3, 4] rfl⟩
                · have q148 := eqI c148
                  refine lv_iconst (v := 1) hx hb d_MD_worked_151 (by decide) ?_
                  refine lv_goto (tgt := 156) hx hb d_MD_worked_152 (by decide) ?_
                  refine lv_bipush (v := 10) hx hb d_MD_worked_156 (by decide) ?_
                  have hPc := hP.sb (wq := (wz_301 h0 rf tap h0_taped h0_length h0_kind h0_from h0_to h0_word h0_numeral h0_globalNames_r h0_globalPlaces_r h0_globalTypes_r h0_globalValues_r h0_globalCount h0_funs_r h0_funCount h0_open h0_signs h0_levels_r h0_now h0_known_r h0_knownCount h0_loops mad h0_madeLength mag h0_smalls_r h0_greats_r h0_module_r h0_spare_r h0_m h0_cursor h0_limit blk stk h0_top hgt lab ous kis los h0_depth h0_function mem h0_pages glo val h0_valueTop ffu fre fba fla h0_frames lat lhe h0_labelTop h0_steps h0_there rsl h0_resultLength h0_reason h0_place arg h0_argumentCount h0_code rf rf_backtrace rf_detailMessage rf_cause rf_stackTrace rf_depth rf_suppressedExceptions rf_reason rf_place)) [0, 1] rfl
                  have hDc := hD.sb (wq := (wz_301 h0 rf tap h0_taped h0_length h0_kind h0_from h0_to h0_word h0_numeral h0_globalNames_r h0_globalPlaces_r h0_globalTypes_r h0_globalValues_r h0_globalCount h0_funs_r h0_funCount h0_open h0_signs h0_levels_r h0_now h0_known_r h0_knownCount h0_loops mad h0_madeLength mag h0_smalls_r h0_greats_r h0_module_r h0_spare_r h0_m h0_cursor h0_limit blk stk h0_top hgt lab ous kis los h0_depth h0_function mem h0_pages glo val h0_valueTop ffu fre fba fla h0_frames lat lhe h0_labelTop h0_steps h0_there rsl h0_resultLength h0_reason h0_place arg h0_argumentCount h0_code rf rf_backtrace rf_detailMessage rf_cause rf_stackTrace rf_depth rf_suppressedExceptions rf_reason rf_place)) [0, 1] (by decide) rfl
                  have hKc := hK.sb (tyq := []) [] rfl
                  have hFc := va_free (wc := (wz_301 h0 rf tap h0_taped h0_length h0_kind h0_from h0_to h0_word h0_numeral h0_globalNames_r h0_globalPlaces_r h0_globalTypes_r h0_globalValues_r h0_globalCount h0_funs_r h0_funCount h0_open h0_signs h0_levels_r h0_now h0_known_r h0_knownCount h0_loops mad h0_madeLength mag h0_smalls_r h0_greats_r h0_module_r h0_spare_r h0_m h0_cursor h0_limit blk stk h0_top hgt lab ous kis los h0_depth h0_function mem h0_pages glo val h0_valueTop ffu fre fba fla h0_frames lat lhe h0_labelTop h0_steps h0_there rsl h0_resultLength h0_reason h0_place arg h0_argumentCount h0_code rf rf_backtrace rf_detailMessage rf_cause rf_stackTrace rf_depth rf_suppressedExceptions rf_reason rf_place)) hD hS hA [0, 1] rfl
                  refine tr_callv (tz_runV (As := [.int 1, .int 10]) (rest := []) ⟨hx, hb, hml, hown, hts⟩ (c_MD_ends l hlt dC dI H.size h0 rf tap h0_globalNames_r h0_globalPlaces_r h0_globalTypes_r h0_globalValues_r h0_funs_r h0_levels_r h0_known_r mad mag h0_smalls_r h0_greats_r h0_module_r h0_spare_r blk stk hgt lab ous kis los mem glo val ffu fre fba fla lat lhe rsl arg h0_taped h0_length h0_kind h0_from h0_to h0_word h0_numeral h0_globalCount h0_funCount h0_open h0_signs h0_now h0_knownCount h0_loops h0_madeLength h0_m h0_cursor h0_limit h0_top h0_depth h0_function h0_pages h0_valueTop h0_frames h0_labelTop h0_steps h0_there h0_resultLength h0_reason h0_place h0_argumentCount h0_code rf_backtrace rf_detailMessage rf_cause rf_stackTrace rf_depth rf_suppressedExceptions rf_reason rf_place 1 10 (Or.inr rfl)) (cwV 2 hts (gV kM_MD_706 kV_MD_ends kS_MD_ends kI_MD kC_MD_ends) rfl rfl rfl (by decide +kernel) ⟨Nat.le_of_ble_eq_true rfl, Nat.le_of_ble_eq_true rfl⟩) ⟨fun a U g mk z => by obtain ⟨z0, z1, zP, zK, zD, zS⟩ := z; exact ⟨z0, z1, zP, va_K.moved (u := U) (U := U.calling g mk a) (Vm.Alike.refl U.vm) zK, zD, sw_nest.same (s := U) (U := U.calling g mk a) rfl zS⟩, va_recv hKc hPc (ci := 11) (q0 := 0) rfl rfl, fun U hU hW => ⟨rfl, by rw [hU], va_P.he hU.symm hPc, va_K.moved hW.alike hKc, hDc.weaken (fun _ _ _ _ => trivial), hSW.warm hW⟩⟩ rfl rfl hl.1 rfl (lv_room (Nat.le_of_ble_eq_true rfl)) d_MD_worked_158 ⟨Nat.le_of_ble_eq_true rfl, Nat.le_of_ble_eq_true rfl⟩) hS (fun q _ h => hFc q h) hFc (fun u t H1 locs ht hvm hw hB hz1 hk1 hS => ?_) (fun xx u t H1 locs ht hvm hw hXX hB hz1 hk1 hS => ?_)
                  rotate_left
                  · skip
                    obtain ⟨hxa, hXX⟩ := hXX
                    obtain ⟨n30, n31⟩ := u
                    try dsimp only at hw
                    have tq9 := hw
                    obtain ⟨hP1, hK1, hD1⟩ := hB
                    replace hP1 := va_P.he ht hP1
                    obtain ⟨hP, hD⟩ := va_join (wr := []) (w1 := (wz_301 h0 rf tap h0_taped h0_length h0_kind h0_from h0_to h0_word h0_numeral h0_globalNames_r h0_globalPlaces_r h0_globalTypes_r h0_globalValues_r h0_globalCount h0_funs_r h0_funCount h0_open h0_signs h0_levels_r h0_now h0_known_r h0_knownCount h0_loops mad h0_madeLength mag h0_smalls_r h0_greats_r h0_module_r h0_spare_r h0_m h0_cursor h0_limit blk stk h0_top hgt lab ous kis los h0_depth h0_function mem h0_pages glo val h0_valueTop ffu fre fba fla h0_frames lat lhe h0_labelTop h0_steps h0_there rsl h0_resultLength h0_reason h0_place arg h0_argumentCount h0_code rf rf_backtrace rf_detailMessage rf_cause rf_stackTrace rf_depth rf_suppressedExceptions n31 n30)) hP hD [0, 1] [] rfl rfl (by decide) (by decide) hk1 hFc hP1 hD1
                    have hP : va_P (dC, dI) cls2 (wz_301 h0 rf tap h0_taped h0_length h0_kind h0_from h0_to h0_word h0_numeral h0_globalNames_r h0_globalPlaces_r h0_globalTypes_r h0_globalValues_r h0_globalCount h0_funs_r h0_funCount h0_open h0_signs h0_levels_r h0_now h0_known_r h0_knownCount h0_loops mad h0_madeLength mag h0_smalls_r h0_greats_r h0_module_r h0_spare_r h0_m h0_cursor h0_limit blk stk h0_top hgt lab ous kis los h0_depth h0_function mem h0_pages glo val h0_valueTop ffu fre fba fla h0_frames lat lhe h0_labelTop h0_steps h0_there rsl h0_resultLength h0_reason h0_place arg h0_argumentCount h0_code rf rf_backtrace rf_detailMessage rf_cause rf_stackTrace rf_depth rf_suppressedExceptions n31 n30) H1 := hP
                    have hD : va_D A (wz_301 h0 rf tap h0_taped h0_length h0_kind h0_from h0_to h0_word h0_numeral h0_globalNames_r h0_globalPlaces_r h0_globalTypes_r h0_globalValues_r h0_globalCount h0_funs_r h0_funCount h0_open h0_signs h0_levels_r h0_now h0_known_r h0_knownCount h0_loops mad h0_madeLength mag h0_smalls_r h0_greats_r h0_module_r h0_spare_r h0_m h0_cursor h0_limit blk stk h0_top hgt lab ous kis los h0_depth h0_function mem h0_pages glo val h0_valueTop ffu fre fba fla h0_frames lat lhe h0_labelTop h0_steps h0_there rsl h0_resultLength h0_reason h0_place arg h0_argumentCount h0_code rf rf_backtrace rf_detailMessage rf_cause rf_stackTrace rf_depth rf_suppressedExceptions n31 n30) := hD
                    have hP9 := hP.sb (wq := (wz_301 h0 rf tap h0_taped h0_length h0_kind h0_from h0_to h0_word h0_numeral h0_globalNames_r h0_globalPlaces_r h0_globalTypes_r h0_globalValues_r h0_globalCount h0_funs_r h0_funCount h0_open h0_signs h0_levels_r h0_now h0_known_r h0_knownCount h0_loops mad h0_madeLength mag h0_smalls_r h0_greats_r h0_module_r h0_spare_r h0_m h0_cursor h0_limit blk stk h0_top hgt lab ous kis los h0_depth h0_function mem h0_pages glo val h0_valueTop ffu fre fba fla h0_frames lat lhe h0_labelTop h0_steps h0_there rsl h0_resultLength h0_reason h0_place arg h0_argumentCount h0_code rf rf_backtrace rf_detailMessage rf_cause rf_stackTrace rf_depth rf_suppressedExceptions n31 n30)) [0, 1] rfl
                    have hD9 := hD.sb (wq := (wz_301 h0 rf tap h0_taped h0_length h0_kind h0_from h0_to h0_word h0_numeral h0_globalNames_r h0_globalPlaces_r h0_globalTypes_r h0_globalValues_r h0_globalCount h0_funs_r h0_funCount h0_open h0_signs h0_levels_r h0_now h0_known_r h0_knownCount h0_loops mad h0_madeLength mag h0_smalls_r h0_greats_r h0_module_r h0_spare_r h0_m h0_cursor h0_limit blk stk h0_top hgt lab ous kis los h0_depth h0_function mem h0_pages glo val h0_valueTop ffu fre fba fla h0_frames lat lhe h0_labelTop h0_steps h0_there rsl h0_resultLength h0_reason h0_place arg h0_argumentCount h0_code rf rf_backtrace rf_detailMessage rf_cause rf_stackTrace rf_depth rf_suppressedExceptions n31 n30)) [0, 1] (by decide) rfl
                    exact tz_leave rfl hno hlocks (fun t ht hW => ⟨⟨(n30, n31), ⟨trivial, hxa, by rw [ht]; exact hXX.moved hW.alike⟩, va_P.he ht.symm hP9, va_K.moved hW.alike hK, hD9⟩, hS.F ht⟩) hS.2.2
                  obtain ⟨n32, n33⟩ := u
                  try dsimp only at hw
                  have xr29 := hw
                  try clear hw
                  exact absurd xr29 (by decide)
              · skip
                by_cases g59_205 : p0.toInt = 110 ∨ p0.toInt = 112
                · have ho59 : tab_off 285 106 119 #[69, 74, 79, 84, 146, 194, 146, 230, 235, 240, 245, 250, 255, 261] p0.toInt = 146 := by rcases g59_205 with z | z <;> (rw [z]; rfl)
                  refine lv_tab (tgt := 205) hx hb d_MD_worked_59 (by decide) ho59 (by decide) ?_
                  clear ho59
                  refine lv_aload_n hx hb d_MD_worked_205 rfl (lv_at hl 1 rfl) ?_
                  refine lv_lload hx hb d_MD_worked_206 (lv_at hl 4 rfl) ?_
                  refine lv_lconst (v := 0) hx hb d_MD_worked_208 (by decide) ?_
                  have kl0 : (0 : Int64).toInt = 0 := by decide
                  refine W.lcmp hx hb d_MD_worked_209 ?_
                  refine lv_topi (fun x34 ex34 => ?_)
                  have tx34 := lgc ex34
                  refine lv_if_ne (tgt := 217) hx hb d_MD_worked_210 (by decide) (fun c210 => ?_) (fun c210 => ?_)
                  · have q210 := neI c210
                    refine lv_iconst (v := 0) hx hb d_MD_worked_217 (by decide) ?_
                    refine lv_bipush (v := 10) hx hb d_MD_worked_218 (by decide) ?_
                    have hPc := hP.sb (wq := (wz_301 h0 rf tap h0_taped h0_length h0_kind h0_from h0_to h0_word h0_numeral h0_globalNames_r h0_globalPlaces_r h0_globalTypes_r h0_globalValues_r h0_globalCount h0_funs_r h0_funCount h0_open h0_signs h0_levels_r h0_now h0_known_r h0_knownCount h0_loops mad h0_madeLength mag h0_smalls_r h0_greats_r h0_module_r h0_spare_r h0_m h0_cursor h0_limit blk stk h0_top hgt lab ous kis los h0_depth h0_function mem h0_pages glo val h0_valueTop ffu fre fba fla h0_frames lat lhe h0_labelTop h0_steps h0_there rsl h0_resultLength h0_reason h0_place arg h0_argumentCount h0_code rf rf_backtrace rf_detailMessage rf_cause rf_stackTrace rf_depth rf_suppressedExceptions rf_reason rf_place)) [0, 1] rfl
                    have hDc := hD.sb (wq := (wz_301 h0 rf tap h0_taped h0_length h0_kind h0_from h0_to h0_word h0_numeral h0_globalNames_r h0_globalPlaces_r h0_globalTypes_r h0_globalValues_r h0_globalCount h0_funs_r h0_funCount h0_open h0_signs h0_levels_r h0_now h0_known_r h0_knownCount h0_loops mad h0_madeLength mag h0_smalls_r h0_greats_r h0_module_r h0_spare_r h0_m h0_cursor h0_limit blk stk h0_top hgt lab ous kis los h0_depth h0_function mem h0_pages glo val h0_valueTop ffu fre fba fla h0_frames lat lhe h0_labelTop h0_steps h0_there rsl h0_resultLength h0_reason h0_place arg h0_argumentCount h0_code rf rf_backtrace rf_detailMessage rf_cause rf_stackTrace rf_depth rf_suppressedExceptions rf_reason rf_place)) [0, 1] (by decide) rfl
                    have hKc := hK.sb (tyq := []) [] rfl
                    have hFc := va_free (wc := (wz_301 h0 rf tap h0_taped h0_length h0_kind h0_from h0_to h0_word h0_numeral h0_globalNames_r h0_globalPlaces_r h0_globalTypes_r h0_globalValues_r h0_globalCount h0_funs_r h0_funCount h0_open h0_signs h0_levels_r h0_now h0_known_r h0_knownCount h0_loops mad h0_madeLength mag h0_smalls_r h0_greats_r h0_module_r h0_spare_r h0_m h0_cursor h0_limit blk stk h0_top hgt lab ous kis los h0_depth h0_function mem h0_pages glo val h0_valueTop ffu fre fba fla h0_frames lat lhe h0_labelTop h0_steps h0_there rsl h0_resultLength h0_reason h0_place arg h0_argumentCount h0_code rf rf_backtrace rf_detailMessage rf_cause rf_stackTrace rf_depth rf_suppressedExceptions rf_reason rf_place)) hD hS hA [0, 1] rfl
                    refine tr_callv (tz_runV (As := [.int 0, .int 10]) (rest := []) ⟨hx, hb, hml, hown, hts⟩ (c_MD_ends l hlt dC dI H.size h0 rf tap h0_globalNames_r h0_globalPlaces_r h0_globalTypes_r h0_globalValues_r h0_funs_r h0_levels_r h0_known_r mad mag h0_smalls_r h0_greats_r h0_module_r h0_spare_r blk stk hgt lab ous kis los mem glo val ffu fre fba fla lat lhe rsl arg h0_taped h0_length h0_kind h0_from h0_to h0_word h0_numeral h0_globalCount h0_funCount h0_open h0_signs h0_now h0_knownCount h0_loops h0_madeLength h0_m h0_cursor h0_limit h0_top h0_depth h0_function h0_pages h0_valueTop h0_frames h0_labelTop h0_steps h0_there h0_resultLength h0_reason h0_place h0_argumentCount h0_code rf_backtrace rf_detailMessage rf_cause rf_stackTrace rf_depth rf_suppressedExceptions rf_reason rf_place 0 10 (Or.inl rfl)) (cwV 2 hts (gV kM_MD_706 kV_MD_ends kS_MD_ends kI_MD kC_MD_ends) rfl rfl rfl (by decide +kernel) ⟨Nat.le_of_ble_eq_true rfl, Nat.le_of_ble_eq_true rfl⟩) ⟨fun a U g mk z => by obtain ⟨z0, z1, zP, zK, zD, zS⟩ := z; exact ⟨z0, z1, zP, va_K.moved (u := U) (U := U.calling g mk a) (Vm.Alike.refl U.vm) zK, zD, sw_nest.same (s := U) (U := U.calling g mk a) rfl zS⟩, va_recv hKc hPc (ci := 11) (q0 := 0) rfl rfl, fun U hU hW => ⟨rfl, by rw [hU], va_P.he hU.symm hPc, va_K.moved hW.alike hKc, hDc.weaken (fun _ _ _ _ => trivial), hSW.warm hW⟩⟩ rfl rfl hl.1 rfl (lv_room (Nat.le_of_ble_eq_true rfl)) d_MD_worked_220 ⟨Nat.le_of_ble_eq_true rfl, Nat.le_of_ble_eq_true rfl⟩) hS (fun q _ h => hFc q h) hFc (fun u t H1 locs ht hvm hw hB hz1 hk1 hS => ?_) (fun xx u t H1 locs ht hvm hw hXX hB hz1 hk1 hS => ?_)
                    rotate_left
                    · skip
                      obtain ⟨hxa, hXX⟩ := hXX
                      obtain ⟨n36, n37⟩ := u
                      try dsimp only at hw
                      have tq9 := hw
                      exact absurd tq9 (by decide)
                    obtain ⟨n38, n39⟩ := u
                    try dsimp only at hw
                    have xr35 := hw
                    try clear hw
                    obtain ⟨hP1, hK1, hD1⟩ := hB
                    replace hP1 := va_P.he ht hP1
                    obtain ⟨hP, hD⟩ := va_join (wr := []) (w1 := (wz_301 h0 rf tap h0_taped h0_length h0_kind h0_from h0_to h0_word h0_numeral h0_globalNames_r h0_globalPlaces_r h0_globalTypes_r h0_globalValues_r h0_globalCount h0_funs_r h0_funCount h0_open h0_signs h0_levels_r h0_now h0_known_r h0_knownCount h0_loops mad h0_madeLength mag h0_smalls_r h0_greats_r h0_module_r h0_spare_r h0_m h0_cursor h0_limit blk stk h0_top hgt lab ous kis los h0_depth h0_function mem h0_pages glo val h0_valueTop ffu fre fba fla h0_frames lat lhe h0_labelTop h0_steps h0_there rsl h0_resultLength h0_reason h0_place arg h0_argumentCount h0_code rf rf_backtrace rf_detailMessage rf_cause rf_stackTrace rf_depth rf_suppressedExceptions n39 n38)) hP hD [0, 1] [] rfl rfl (by decide) (by decide) hk1 hFc hP1 hD1
                    clear hPc hDc hKc hFc hz1 hk1 hP1 hK1 hD1
                    rename Heap => H
                    have hP : va_P (dC, dI) cls2 (wz_301 h0 rf tap h0_taped h0_length h0_kind h0_from h0_to h0_word h0_numeral h0_globalNames_r h0_globalPlaces_r h0_globalTypes_r h0_globalValues_r h0_globalCount h0_funs_r h0_funCount h0_open h0_signs h0_levels_r h0_now h0_known_r h0_knownCount h0_loops mad h0_madeLength mag h0_smalls_r h0_greats_r h0_module_r h0_spare_r h0_m h0_cursor h0_limit blk stk h0_top hgt lab ous kis los h0_depth h0_function mem h0_pages glo val h0_valueTop ffu fre fba fla h0_frames lat lhe h0_labelTop h0_steps h0_there rsl h0_resultLength h0_reason h0_place arg h0_argumentCount h0_code rf rf_backtrace rf_detailMessage rf_cause rf_stackTrace rf_depth rf_suppressedExceptions n39 n38) H := hP
                    have hD : va_D A (wz_301 h0 rf tap h0_taped h0_length h0_kind h0_from h0_to h0_word h0_numeral h0_globalNames_r h0_globalPlaces_r h0_globalTypes_r h0_globalValues_r h0_globalCount h0_funs_r h0_funCount h0_open h0_signs h0_levels_r h0_now h0_known_r h0_knownCount h0_loops mad h0_madeLength mag h0_smalls_r h0_greats_r h0_module_r h0_spare_r h0_m h0_cursor h0_limit blk stk h0_top hgt lab ous kis los h0_depth h0_function mem h0_pages glo val h0_valueTop ffu fre fba fla h0_frames lat lhe h0_labelTop h0_steps h0_there rsl h0_resultLength h0_reason h0_place arg h0_argumentCount h0_code rf rf_backtrace rf_detailMessage rf_cause rf_stackTrace rf_depth rf_suppressedExceptions n39 n38) := hD
                    refine lv_iload_n hx hb d_MD_worked_223 rfl (lv_at hl 2 rfl) ?_
                    refine lv_bipush (v := 110) hx hb d_MD_worked_224 (by decide) ?_
                    refine lv_icmp_ne (tgt := 239) hx hb d_MD_worked_226 (by decide) (fun c226 => ?_) (fun c226 => ?_)
                    · have q226 := neI c226
                      refine lv_lload hx hb d_MD_worked_239 (lv_at hl 8 rfl) ?_
                      refine lv_lload hx hb d_MD_worked_241 (lv_at hl 8 rfl) ?_
                      refine lv_lload hx hb d_MD_worked_243 (lv_at hl 0 rfl) ?_
                      have hPc := hP.sb (wq := []) [] rfl
                      have hDc := hD.sb (wq := []) [] (by decide) rfl
                      have hKc := hK.sb (tyq := []) [] rfl
                      have hFc := va_free (wc := []) hD hS hA [] rfl
                      refine va_calll (va_runS (As := [.long j38_s0, .long j56_s0]) (rest := [.long j38_s0]) ⟨hx, hb, hml, hown, hts⟩ (c_MD_over l dC dI H.size j38_s0 j56_s0 (y56.out (by (first | (apply Int.le_antisymm <;> omega) | omega)) (by (first | (apply Int.le_antisymm <;> omega) | omega)))) ⟨callB_of 2 hts (gW kC_MD_over) rfl rfl rfl (hts _ kI_MD) (hts _ kM_MD_807) (by decide +kernel) ⟨Nat.le_of_ble_eq_true rfl, Nat.le_of_ble_eq_true rfl⟩, hts _ kT_MD_over⟩ ⟨fun a U g mk z => by obtain ⟨z0, z1, zP, zK, zD⟩ := z; exact ⟨z0, z1, zP, va_K.moved (u := U) (U := U.calling g mk a) (Vm.Alike.refl U.vm) zK, zD⟩, fun U hU hW => ⟨rfl, by rw [hU], va_P.he hU.symm hPc, va_K.moved hW.alike hKc, hDc.weaken (fun _ _ _ _ => trivial)⟩⟩ rfl rfl hl.1 rfl (lv_room (Nat.le_of_ble_eq_true rfl)) d_MD_worked_245 ⟨(Nat.zero_le _), (Nat.zero_le _)⟩) hS (fun q _ h => hFc q h) hFc (fun r40 u t H1 locs ht hvm hw hB hz1 hk1 hS => ?_)
                      try dsimp only at hw
                      have xr40 := hw
                      try clear hw
                      obtain ⟨hP1, hK1, hD1⟩ := hB
                      replace hP1 := va_P.he ht hP1
                      obtain ⟨hP, hD⟩ := va_join (wr := (wz_301 h0 rf tap h0_taped h0_length h0_kind h0_from h0_to h0_word h0_numeral h0_globalNames_r h0_globalPlaces_r h0_globalTypes_r h0_globalValues_r h0_globalCount h0_funs_r h0_funCount h0_open h0_signs h0_levels_r h0_now h0_known_r h0_knownCount h0_loops mad h0_madeLength mag h0_smalls_r h0_greats_r h0_module_r h0_spare_r h0_m h0_cursor h0_limit blk stk h0_top hgt lab ous kis los h0_depth h0_function mem h0_pages glo val h0_valueTop ffu fre fba fla h0_frames lat lhe h0_labelTop h0_steps h0_there rsl h0_resultLength h0_reason h0_place arg h0_argumentCount h0_code rf rf_backtrace rf_detailMessage rf_cause rf_stackTrace rf_depth rf_suppressedExceptions n39 n38)) (w1 := []) hP hD [] [0, 1] rfl rfl (by decide) (by decide) hk1 hFc hP1 hD1
                      clear hPc hDc hKc hFc hz1 hk1 hP1 hK1 hD1
                      rename Heap => H
                      have hP : va_P (dC, dI) cls2 (wz_301 h0 rf tap h0_taped h0_length h0_kind h0_from h0_to h0_word h0_numeral h0_globalNames_r h0_globalPlaces_r h0_globalTypes_r h0_globalValues_r h0_globalCount h0_funs_r h0_funCount h0_open h0_signs h0_levels_r h0_now h0_known_r h0_knownCount h0_loops mad h0_madeLength mag h0_smalls_r h0_greats_r h0_module_r h0_spare_r h0_m h0_cursor h0_limit blk stk h0_top hgt lab ous kis los h0_depth h0_function mem h0_pages glo val h0_valueTop ffu fre fba fla h0_frames lat lhe h0_labelTop h0_steps h0_there rsl h0_resultLength h0_reason h0_place arg h0_argumentCount h0_code rf rf_backtrace rf_detailMessage rf_cause rf_stackTrace rf_depth rf_suppressedExceptions n39 n38) H := hP
                      have hD : va_D A (wz_301 h0 rf tap h0_taped h0_length h0_kind h0_from h0_to h0_word h0_numeral h0_globalNames_r h0_globalPlaces_r h0_globalTypes_r h0_globalValues_r h0_globalCount h0_funs_r h0_funCount h0_open h0_signs h0_levels_r h0_now h0_known_r h0_knownCount h0_loops mad h0_madeLength mag h0_smalls_r h0_greats_r h0_module_r h0_spare_r h0_m h0_cursor h0_limit blk stk h0_top hgt lab ous kis los h0_depth h0_function mem h0_pages glo val h0_valueTop ffu fre fba fla h0_frames lat lhe h0_labelTop h0_steps h0_there rsl h0_resultLength h0_reason h0_place arg h0_argumentCount h0_code rf rf_backtrace rf_detailMessage rf_cause rf_stackTrace rf_depth rf_suppressedExceptions n39 n38) := hD
                      refine lv_lload hx hb d_MD_worked_248 (lv_at hl 0 rfl) ?_
                      refine lv_lmul hx hb d_MD_worked_250 ?_
                      refine lv_topl (fun x41 ex41 => ?_)
                      refine lv_lsub hx hb d_MD_worked_251 ?_
                      refine lv_topl (fun x42 ex42 => ?_)
                      have hP9 := hP.sb (wq := (wz_301 h0 rf tap h0_taped h0_length h0_kind h0_from h0_to h0_word h0_numeral h0_globalNames_r h0_globalPlaces_r h0_globalTypes_r h0_globalValues_r h0_globalCount h0_funs_r h0_funCount h0_open h0_signs h0_levels_r h0_now h0_known_r h0_knownCount h0_loops mad h0_madeLength mag h0_smalls_r h0_greats_r h0_module_r h0_spare_r h0_m h0_cursor h0_limit blk stk h0_top hgt lab ous kis los h0_depth h0_function mem h0_pages glo val h0_valueTop ffu fre fba fla h0_frames lat lhe h0_labelTop h0_steps h0_there rsl h0_resultLength h0_reason h0_place arg h0_argumentCount h0_code rf rf_backtrace rf_detailMessage rf_cause rf_stackTrace rf_depth rf_suppressedExceptions n39 n38)) [0, 1] rfl
                      have hD9 := hD.sb (wq := (wz_301 h0 rf tap h0_taped h0_length h0_kind h0_from h0_to h0_word h0_numeral h0_globalNames_r h0_globalPlaces_r h0_globalTypes_r h0_globalValues_r h0_globalCount h0_funs_r h0_funCount h0_open h0_signs h0_levels_r h0_now h0_known_r h0_knownCount h0_loops mad h0_madeLength mag h0_smalls_r h0_greats_r h0_module_r h0_spare_r h0_m h0_cursor h0_limit blk stk h0_top hgt lab ous kis los h0_depth h0_function mem h0_pages glo val h0_valueTop ffu fre fba fla h0_frames lat lhe h0_labelTop h0_steps h0_there rsl h0_resultLength h0_reason h0_place arg h0_argumentCount h0_code rf rf_backtrace rf_detailMessage rf_cause rf_stackTrace rf_depth rf_suppressedExceptions n39 n38)) [0, 1] (by decide) rfl
                      exact tz_up (fun _ => rfl) (W.lret (v := x42) hx hb hr (fun t ht hW => ⟨⟨(n38, n39), ⟨x42, rfl, (trivial)⟩, va_P.he ht.symm hP9, va_K.moved hW.alike hK, hD9⟩, hS.F ht⟩) hS.2.2 d_MD_worked_252)
                    · have q226 := eqI c226
                      refine lv_lload hx hb d_MD_worked_229 (lv_at hl 8 rfl) ?_
                      refine lv_lload hx hb d_MD_worked_231 (lv_at hl 0 rfl) ?_
                      have hPc := hP.sb (wq := []) [] rfl
                      have hDc := hD.sb (wq := []) [] (by decide) rfl
                      have hKc := hK.sb (tyq := []) [] rfl
                      have hFc := va_free (wc := []) hD hS hA [] rfl
                      refine va_calll (va_runS (As := [.long j38_s0, .long j56_s0]) (rest := []) ⟨hx, hb, hml, hown, hts⟩ (c_MD_over l dC dI H.size j38_s0 j56_s0 (y56.out (by (first | (apply Int.le_antisymm <;> omega) | omega)) (by (first | (apply Int.le_antisymm <;> omega) | omega)))) ⟨callB_of 2 hts (gW kC_MD_over) rfl rfl rfl (hts _ kI_MD) (hts _ kM_MD_807) (by decide +kernel) ⟨Nat.le_of_ble_eq_true rfl, Nat.le_of_ble_eq_true rfl⟩, hts _ kT_MD_over⟩ ⟨fun a U g mk z => by obtain ⟨z0, z1, zP, zK, zD⟩ := z; exact ⟨z0, z1, zP, va_K.moved (u := U) (U := U.calling g mk a) (Vm.Alike.refl U.vm) zK, zD⟩, fun U hU hW => ⟨rfl, by rw [hU], va_P.he hU.symm hPc, va_K.moved hW.alike hKc, hDc.weaken (fun _ _ _ _ => trivial)⟩⟩ rfl rfl hl.1 rfl (lv_room (Nat.le_of_ble_eq_true rfl)) d_MD_worked_233 ⟨(Nat.zero_le _), (Nat.zero_le _)⟩) hS (fun q _ h => hFc q h) hFc (fun r43 u t H1 locs ht hvm hw hB hz1 hk1 hS => ?_)
                      try dsimp only at hw
                      have xr43 := hw
                      try clear hw
                      obtain ⟨hP1, hK1, hD1⟩ := hB
                      replace hP1 := va_P.he ht hP1
                      obtain ⟨hP, hD⟩ := va_join (wr := (wz_301 h0 rf tap h0_taped h0_length h0_kind h0_from h0_to h0_word h0_numeral h0_globalNames_r h0_globalPlaces_r h0_globalTypes_r h0_globalValues_r h0_globalCount h0_funs_r h0_funCount h0_open h0_signs h0_levels_r h0_now h0_known_r h0_knownCount h0_loops mad h0_madeLength mag h0_smalls_r h0_greats_r h0_module_r h0_spare_r h0_m h0_cursor h0_limit blk stk h0_top hgt lab ous kis los h0_depth h0_function mem h0_pages glo val h0_valueTop ffu fre fba fla h0_frames lat lhe h0_labelTop h0_steps h0_there rsl h0_resultLength h0_reason h0_place arg h0_argumentCount h0_code rf rf_backtrace rf_detailMessage rf_cause rf_stackTrace rf_depth rf_suppressedExceptions n39 n38)) (w1 := []) hP hD [] [0, 1] rfl rfl (by decide) (by decide) hk1 hFc hP1 hD1
                      clear hPc hDc hKc hFc hz1 hk1 hP1 hK1 hD1
                      rename Heap => H
                      have hP : va_P (dC, dI) cls2 (wz_301 h0 rf tap h0_taped h0_length h0_kind h0_from h0_to h0_word h0_numeral h0_globalNames_r h0_globalPlaces_r h0_globalTypes_r h0_globalValues_r h0_globalCount h0_funs_r h0_funCount h0_open h0_signs h0_levels_r h0_now h0_known_r h0_knownCount h0_loops mad h0_madeLength mag h0_smalls_r h0_greats_r h0_module_r h0_spare_r h0_m h0_cursor h0_limit blk stk h0_top hgt lab ous kis los h0_depth h0_function mem h0_pages glo val h0_valueTop ffu fre fba fla h0_frames lat lhe h0_labelTop h0_steps h0_there rsl h0_resultLength h0_reason h0_place arg h0_argumentCount h0_code rf rf_backtrace rf_detailMessage rf_cause rf_stackTrace rf_depth rf_suppressedExceptions n39 n38) H := hP
                      have hD : va_D A (wz_301 h0 rf tap h0_taped h0_length h0_kind h0_from h0_to h0_word h0_numeral h0_globalNames_r h0_globalPlaces_r h0_globalTypes_r h0_globalValues_r h0_globalCount h0_funs_r h0_funCount h0_open h0_signs h0_levels_r h0_now h0_known_r h0_knownCount h0_loops mad h0_madeLength mag h0_smalls_r h0_greats_r h0_module_r h0_spare_r h0_m h0_cursor h0_limit blk stk h0_top hgt lab ous kis los h0_depth h0_function mem h0_pages glo val h0_valueTop ffu fre fba fla h0_frames lat lhe h0_labelTop h0_steps h0_there rsl h0_resultLength h0_reason h0_place arg h0_argumentCount h0_code rf rf_backtrace rf_detailMessage rf_cause rf_stackTrace rf_depth rf_suppressedExceptions n39 n38) := hD
                      refine lv_goto (tgt := 252) hx hb d_MD_worked_236 (by decide) ?_
                      have hP9 := hP.sb (wq := (wz_301 h0 rf tap h0_taped h0_length h0_kind h0_from h0_to h0_word h0_numeral h0_globalNames_r h0_globalPlaces_r h0_globalTypes_r h0_globalValues_r h0_globalCount h0_funs_r h0_funCount h0_open h0_signs h0_levels_r h0_now h0_known_r h0_knownCount h0_loops mad h0_madeLength mag h0_smalls_r h0_greats_r h0_module_r h0_spare_r h0_m h0_cursor h0_limit blk stk h0_top hgt lab ous kis los h0_depth h0_function mem h0_pages glo val h0_valueTop ffu fre fba fla h0_frames lat lhe h0_labelTop h0_steps h0_there rsl h0_resultLength h0_reason h0_place arg h0_argumentCount h0_code rf rf_backtrace rf_detailMessage rf_cause rf_stackTrace rf_depth rf_suppressedExceptions n39 n38)) [0, 1] rfl
                      have hD9 := hD.sb (wq := (wz_301 h0 rf tap h0_taped h0_length h0_kind h0_from h0_to h0_word h0_numeral h0_globalNames_r h0_globalPlaces_r h0_globalTypes_r h0_globalValues_r h0_globalCount h0_funs_r h0_funCount h0_open h0_signs h0_levels_r h0_now h0_known_r h0_knownCount h0_loops mad h0_madeLength mag h0_smalls_r h0_greats_r h0_module_r h0_spare_r h0_m h0_cursor h0_limit blk stk h0_top hgt lab ous kis los h0_depth h0_function mem h0_pages glo val h0_valueTop ffu fre fba fla h0_frames lat lhe h0_labelTop h0_steps h0_there rsl h0_resultLength h0_reason h0_place arg h0_argumentCount h0_code rf rf_backtrace rf_detailMessage rf_cause rf_stackTrace rf_depth rf_suppressedExceptions n39 n38)) [0, 1] (by decide) rfl
                      exact tz_up (fun _ => rfl) (W.lret (v := r43) hx hb hr (fun t ht hW => ⟨⟨(n38, n39), ⟨r43, rfl, (trivial)⟩, va_P.he ht.symm hP9, va_K.moved hW.alike hK, hD9⟩, hS.F ht⟩) hS.2.2 d_MD_worked_252)
                  · have q210 := eqI c210
                    refine lv_iconst (v := 1) hx hb d_MD_worked_213 (by decide) ?_
                    refine lv_goto (tgt := 218) hx hb d_MD_worked_214 (by decide) ?_
                    refine lv_bipush (v := 10) hx hb d_MD_worked_218 (by decide) ?_
                    have hPc := hP.sb (wq := (wz_301 h0 rf tap h0_taped h0_length h0_kind h0_from h0_to h0_word h0_numeral h0_globalNames_r h0_globalPlaces_r h0_globalTypes_r h0_globalValues_r h0_globalCount h0_funs_r h0_funCount h0_open h0_signs h0_levels_r h0_now h0_known_r h0_knownCount h0_loops mad h0_madeLength mag h0_smalls_r h0_greats_r h0_module_r h0_spare_r h0_m h0_cursor h0_limit blk stk h0_top hgt lab ous kis los h0_depth h0_function mem h0_pages glo val h0_valueTop ffu fre fba fla h0_frames lat lhe h0_labelTop h0_steps h0_there rsl h0_resultLength h0_reason h0_place arg h0_argumentCount h0_code rf rf_backtrace rf_detailMessage rf_cause rf_stackTrace rf_depth rf_suppressedExceptions rf_reason rf_place)) [0, 1] rfl
                    have hDc := hD.sb (wq := (wz_301 h0 rf tap h0_taped h0_length h0_kind h0_from h0_to h0_word h0_numeral h0_globalNames_r h0_globalPlaces_r h0_globalTypes_r h0_globalValues_r h0_globalCount h0_funs_r h0_funCount h0_open h0_signs h0_levels_r h0_now h0_known_r h0_knownCount h0_loops mad h0_madeLength mag h0_smalls_r h0_greats_r h0_module_r h0_spare_r h0_m h0_cursor h0_limit blk stk h0_top hgt lab ous kis los h0_depth h0_function mem h0_pages glo val h0_valueTop ffu fre fba fla h0_frames lat lhe h0_labelTop h0_steps h0_there rsl h0_resultLength h0_reason h0_place arg h0_argumentCount h0_code rf rf_backtrace rf_detailMessage rf_cause rf_stackTrace rf_depth rf_suppressedExceptions rf_reason rf_place)) [0, 1] (by decide) rfl
                    have hKc := hK.sb (tyq := []) [] rfl
                    have hFc := va_free (wc := (wz_301 h0 rf tap h0_taped h0_length h0_kind h0_from h0_to h0_word h0_numeral h0_globalNames_r h0_globalPlaces_r h0_globalTypes_r h0_globalValues_r h0_globalCount h0_funs_r h0_funCount h0_open h0_signs h0_levels_r h0_now h0_known_r h0_knownCount h0_loops mad h0_madeLength mag h0_smalls_r h0_greats_r h0_module_r h0_spare_r h0_m h0_cursor h0_limit blk stk h0_top hgt lab ous kis los h0_depth h0_function mem h0_pages glo val h0_valueTop ffu fre fba fla h0_frames lat lhe h0_labelTop h0_steps h0_there rsl h0_resultLength h0_reason h0_place arg h0_argumentCount h0_code rf rf_backtrace rf_detailMessage rf_cause rf_stackTrace rf_depth rf_suppressedExceptions rf_reason rf_place)) hD hS hA [0, 1] rfl
                    refine tr_callv (tz_runV (As := [.int 1, .int 10]) (rest := []) ⟨hx, hb, hml, hown, hts⟩ (c_MD_ends l hlt dC dI H.size h0 rf tap h0_globalNames_r h0_globalPlaces_r h0_globalTypes_r h0_globalValues_r h0_funs_r h0_levels_r h0_known_r mad mag h0_smalls_r h0_greats_r h0_module_r h0_spare_r blk stk hgt lab ous kis los mem glo val ffu fre fba fla lat lhe rsl arg h0_taped h0_length h0_kind h0_from h0_to h0_word h0_numeral h0_globalCount h0_funCount h0_open h0_signs h0_now h0_knownCount h0_loops h0_madeLength h0_m h0_cursor h0_limit h0_top h0_depth h0_function h0_pages h0_valueTop h0_frames h0_labelTop h0_steps h0_there h0_resultLength h0_reason h0_place h0_argumentCount h0_code rf_backtrace rf_detailMessage rf_cause rf_stackTrace rf_depth rf_suppressedExceptions rf_reason rf_place 1 10 (Or.inr rfl)) (cwV 2 hts (gV kM_MD_706 kV_MD_ends kS_MD_ends kI_MD kC_MD_ends) rfl rfl rfl (by decide +kernel) ⟨Nat.le_of_ble_eq_true rfl, Nat.le_of_ble_eq_true rfl⟩) ⟨fun a U g mk z => by obtain ⟨z0, z1, zP, zK, zD, zS⟩ := z; exact ⟨z0, z1, zP, va_K.moved (u := U) (U := U.calling g mk a) (Vm.Alike.refl U.vm) zK, zD, sw_nest.same (s := U) (U := U.calling g mk a) rfl zS⟩, va_recv hKc hPc (ci := 11) (q0 := 0) rfl rfl, fun U hU hW => ⟨rfl, by rw [hU], va_P.he hU.symm hPc, va_K.moved hW.alike hKc, hDc.weaken (fun _ _ _ _ => trivial), hSW.warm hW⟩⟩ rfl rfl hl.1 rfl (lv_room (Nat.le_of_ble_eq_true rfl)) d_MD_worked_220 ⟨Nat.le_of_ble_eq_true rfl, Nat.le_of_ble_eq_true rfl⟩) hS (fun q _ h => hFc q h) hFc (fun u t H1 locs ht hvm hw hB hz1 hk1 hS => ?_) (fun xx u t H1 locs ht hvm hw hXX hB hz1 hk1 hS => ?_)
                    rotate_left
                    · skip
                      obtain ⟨hxa, hXX⟩ := hXX
                      obtain ⟨n45, n46⟩ := u
                      try dsimp only at hw
                      have tq9 := hw
                      obtain ⟨hP1, hK1, hD1⟩ := hB
                      replace hP1 := va_P.he ht hP1
                      obtain ⟨hP, hD⟩ := va_join (wr := []) (w1 := (wz_301 h0 rf tap h0_taped h0_length h0_kind h0_from h0_to h0_word h0_numeral h0_globalNames_r h0_globalPlaces_r h0_globalTypes_r h0_globalValues_r h0_globalCount h0_funs_r h0_funCount h0_open h0_signs h0_levels_r h0_now h0_known_r h0_knownCount h0_loops mad h0_madeLength mag h0_smalls_r h0_greats_r h0_module_r h0_spare_r h0_m h0_cursor h0_limit blk stk h0_top hgt lab ous kis los h0_depth h0_function mem h0_pages glo val h0_valueTop ffu fre fba fla h0_frames lat lhe h0_labelTop h0_steps h0_there rsl h0_resultLength h0_reason h0_place arg h0_argumentCount h0_code rf rf_backtrace rf_detailMessage rf_cause rf_stackTrace rf_depth rf_suppressedExceptions n46 n45)) hP hD [0, 1] [] rfl rfl (by decide) (by decide) hk1 hFc hP1 hD1
                      have hP : va_P (dC, dI) cls2 (wz_301 h0 rf tap h0_taped h0_length h0_kind h0_from h0_to h0_word h0_numeral h0_globalNames_r h0_globalPlaces_r h0_globalTypes_r h0_globalValues_r h0_globalCount h0_funs_r h0_funCount h0_open h0_signs h0_levels_r h0_now h0_known_r h0_knownCount h0_loops mad h0_madeLength mag h0_smalls_r h0_greats_r h0_module_r h0_spare_r h0_m h0_cursor h0_limit blk stk h0_top hgt lab ous kis los h0_depth h0_function mem h0_pages glo val h0_valueTop ffu fre fba fla h0_frames lat lhe h0_labelTop h0_steps h0_there rsl h0_resultLength h0_reason h0_place arg h0_argumentCount h0_code rf rf_backtrace rf_detailMessage rf_cause rf_stackTrace rf_depth rf_suppressedExceptions n46 n45) H1 := hP
                      have hD : va_D A (wz_301 h0 rf tap h0_taped h0_length h0_kind h0_from h0_to h0_word h0_numeral h0_globalNames_r h0_globalPlaces_r h0_globalTypes_r h0_globalValues_r h0_globalCount h0_funs_r h0_funCount h0_open h0_signs h0_levels_r h0_now h0_known_r h0_knownCount h0_loops mad h0_madeLength mag h0_smalls_r h0_greats_r h0_module_r h0_spare_r h0_m h0_cursor h0_limit blk stk h0_top hgt lab ous kis los h0_depth h0_function mem h0_pages glo val h0_valueTop ffu fre fba fla h0_frames lat lhe h0_labelTop h0_steps h0_there rsl h0_resultLength h0_reason h0_place arg h0_argumentCount h0_code rf rf_backtrace rf_detailMessage rf_cause rf_stackTrace rf_depth rf_suppressedExceptions n46 n45) := hD
                      have hP9 := hP.sb (wq := (wz_301 h0 rf tap h0_taped h0_length h0_kind h0_from h0_to h0_word h0_numeral h0_globalNames_r h0_globalPlaces_r h0_globalTypes_r h0_globalValues_r h0_globalCount h0_funs_r h0_funCount h0_open h0_signs h0_levels_r h0_now h0_known_r h0_knownCount h0_loops mad h0_madeLength mag h0_smalls_r h0_greats_r h0_module_r h0_spare_r h0_m h0_cursor h0_limit blk stk h0_top hgt lab ous kis los h0_depth h0_function mem h0_pages glo val h0_valueTop ffu fre fba fla h0_frames lat lhe h0_labelTop h0_steps h0_there rsl h0_resultLength h0_reason h0_place arg h0_argumentCount h0_code rf rf_backtrace rf_detailMessage rf_cause rf_stackTrace rf_depth rf_suppressedExceptions n46 n45)) [0, 1] rfl
                      have hD9 := hD.sb (wq := (wz_301 h0 rf tap h0_taped h0_length h0_kind h0_from h0_to h0_word h0_numeral h0_globalNames_r h0_globalPlaces_r h0_globalTypes_r h0_globalValues_r h0_globalCount h0_funs_r h0_funCount h0_open h0_signs h0_levels_r h0_now h0_known_r h0_knownCount h0_loops mad h0_madeLength mag h0_smalls_r h0_greats_r h0_module_r h0_spare_r h0_m h0_cursor h0_limit blk stk h0_top hgt lab ous kis los h0_depth h0_function mem h0_pages glo val h0_valueTop ffu fre fba fla h0_frames lat lhe h0_labelTop h0_steps h0_there rsl h0_resultLength h0_reason h0_place arg h0_argumentCount h0_code rf rf_backtrace rf_detailMessage rf_cause rf_stackTrace rf_depth rf_suppressedExceptions n46 n45)) [0, 1] (by decide) rfl
                      exact tz_leave rfl hno hlocks (fun t ht hW => ⟨⟨(n45, n46), ⟨trivial, hxa, by rw [ht]; exact hXX.moved hW.alike⟩, va_P.he ht.symm hP9, va_K.moved hW.alike hK, hD9⟩, hS.F ht⟩) hS.2.2
                    obtain ⟨n47, n48⟩ := u
                    try dsimp only at hw
                    have xr44 := hw
                    try clear hw
                    exact absurd xr44 (by decide)
                · skip
                  by_cases g59_253 : p0.toInt = 111
                  · have ho59 : tab_off 285 106 119 #[69, 74, 79, 84, 146, 194, 146, 230, 235, 240, 245, 250, 255, 261] p0.toInt = 194 := by rw [g59_253]; rfl
                    refine lv_tab (tgt := 253) hx hb d_MD_worked_59 (by decide) ho59 (by decide) ?_
                    clear ho59
                    refine lv_aload_n hx hb d_MD_worked_253 rfl (lv_at hl 1 rfl) ?_
                    refine lv_lload hx hb d_MD_worked_254 (lv_at hl 4 rfl) ?_
                    refine lv_lconst (v := 0) hx hb d_MD_worked_256 (by decide) ?_
                    have kl0 : (0 : Int64).toInt = 0 := by decide
                    refine W.lcmp hx hb d_MD_worked_257 ?_
                    refine lv_topi (fun x49 ex49 => ?_)
                    have tx49 := lgc ex49
                    refine lv_if_ne (tgt := 265) hx hb d_MD_worked_258 (by decide) (fun c258 => ?_) (fun c258 => ?_)
                    · have q258 := neI c258
                      refine lv_iconst (v := 0) hx hb d_MD_worked_265 (by decide) ?_
                      refine lv_bipush (v := 10) hx hb d_MD_worked_266 (by decide) ?_
                      have hPc := hP.sb (wq := (wz_301 h0 rf tap h0_taped h0_length h0_kind h0_from h0_to h0_word h0_numeral h0_globalNames_r h0_globalPlaces_r h0_globalTypes_r h0_globalValues_r h0_globalCount h0_funs_r h0_funCount h0_open h0_signs h0_levels_r h0_now h0_known_r h0_knownCount h0_loops mad h0_madeLength mag h0_smalls_r h0_greats_r h0_module_r h0_spare_r h0_m h0_cursor h0_limit blk stk h0_top hgt lab ous kis los h0_depth h0_function mem h0_pages glo val h0_valueTop ffu fre fba fla h0_frames lat lhe h0_labelTop h0_steps h0_there rsl h0_resultLength h0_reason h0_place arg h0_argumentCount h0_code rf rf_backtrace rf_detailMessage rf_cause rf_stackTrace rf_depth rf_suppressedExceptions rf_reason rf_place)) [0, 1] rfl
                      have hDc := hD.sb (wq := (wz_301 h0 rf tap h0_taped h0_length h0_kind h0_from h0_to h0_word h0_numeral h0_globalNames_r h0_globalPlaces_r h0_globalTypes_r h0_globalValues_r h0_globalCount h0_funs_r h0_funCount h0_open h0_signs h0_levels_r h0_now h0_known_r h0_knownCount h0_loops mad h0_madeLength mag h0_smalls_r h0_greats_r h0_module_r h0_spare_r h0_m h0_cursor h0_limit blk stk h0_top hgt lab ous kis los h0_depth h0_function mem h0_pages glo val h0_valueTop ffu fre fba fla h0_frames lat lhe h0_labelTop h0_steps h0_there rsl h0_resultLength h0_reason h0_place arg h0_argumentCount h0_code rf rf_backtrace rf_detailMessage rf_cause rf_stackTrace rf_depth rf_suppressedExceptions rf_reason rf_place)) [0, 1] (by decide) rfl
                      have hKc := hK.sb (tyq := []) [] rfl
                      have hFc := va_free (wc := (wz_301 h0 rf tap h0_taped h0_length h0_kind h0_from h0_to h0_word h0_numeral h0_globalNames_r h0_globalPlaces_r h0_globalTypes_r h0_globalValues_r h0_globalCount h0_funs_r h0_funCount h0_open h0_signs h0_levels_r h0_now h0_known_r h0_knownCount h0_loops mad h0_madeLength mag h0_smalls_r h0_greats_r h0_module_r h0_spare_r h0_m h0_cursor h0_limit blk stk h0_top hgt lab ous kis los h0_depth h0_function mem h0_pages glo val h0_valueTop ffu fre fba fla h0_frames lat lhe h0_labelTop h0_steps h0_there rsl h0_resultLength h0_reason h0_place arg h0_argumentCount h0_code rf rf_backtrace rf_detailMessage rf_cause rf_stackTrace rf_depth rf_suppressedExceptions rf_reason rf_place)) hD hS hA [0, 1] rfl
                      refine tr_callv (tz_runV (As := [.int 0, .int 10]) (rest := []) ⟨hx, hb, hml, hown, hts⟩ (c_MD_ends l hlt dC dI H.size h0 rf tap h0_globalNames_r h0_globalPlaces_r h0_globalTypes_r h0_globalValues_r h0_funs_r h0_levels_r h0_known_r mad mag h0_smalls_r h0_greats_r h0_module_r h0_spare_r blk stk hgt lab ous kis los mem glo val ffu fre fba fla lat lhe rsl arg h0_taped h0_length h0_kind h0_from h0_to h0_word h0_numeral h0_globalCount h0_funCount h0_open h0_signs h0_now h0_knownCount h0_loops h0_madeLength h0_m h0_cursor h0_limit h0_top h0_depth h0_function h0_pages h0_valueTop h0_frames h0_labelTop h0_steps h0_there h0_resultLength h0_reason h0_place h0_argumentCount h0_code rf_backtrace rf_detailMessage rf_cause rf_stackTrace rf_depth rf_suppressedExceptions rf_reason rf_place 0 10 (Or.inl rfl)) (cwV 2 hts (gV kM_MD_706 kV_MD_ends kS_MD_ends kI_MD kC_MD_ends) rfl rfl rfl (by decide +kernel) ⟨Nat.le_of_ble_eq_true rfl, Nat.le_of_ble_eq_true rfl⟩) ⟨fun a U g mk z => by obtain ⟨z0, z1, zP, zK, zD, zS⟩ := z; exact ⟨z0, z1, zP, va_K.moved (u := U) (U := U.calling g mk a) (Vm.Alike.refl U.vm) zK, zD, sw_nest.same (s := U) (U := U.calling g mk a) rfl zS⟩, va_recv hKc hPc (ci := 11) (q0 := 0) rfl rfl, fun U hU hW => ⟨rfl, by rw [hU], va_P.he hU.symm hPc, va_K.moved hW.alike hKc, hDc.weaken (fun _ _ _ _ => trivial), hSW.warm hW⟩⟩ rfl rfl hl.1 rfl (lv_room (Nat.le_of_ble_eq_true rfl)) d_MD_worked_268 ⟨Nat.le_of_ble_eq_true rfl, Nat.le_of_ble_eq_true rfl⟩) hS (fun q _ h => hFc q h) hFc (fun u t H1 locs ht hvm hw hB hz1 hk1 hS => ?_) (fun xx u t H1 locs ht hvm hw hXX hB hz1 hk1 hS => ?_)
                      rotate_left
                      · skip
                        obtain ⟨hxa, hXX⟩ := hXX
                        obtain ⟨n51, n52⟩ := u
                        try dsimp only at hw
                        have tq9 := hw
                        exact absurd tq9 (by decide)
                      obtain ⟨n53, n54⟩ := u
                      try dsimp only at hw
                      have xr50 := hw
                      try clear hw
                      obtain ⟨hP1, hK1, hD1⟩ := hB
                      replace hP1 := va_P.he ht hP1
                      obtain ⟨hP, hD⟩ := va_join (wr := []) (w1 := (wz_301 h0 rf tap h0_taped h0_length h0_kind h0_from h0_to h0_word h0_numeral h0_globalNames_r h0_globalPlaces_r h0_globalTypes_r h0_globalValues_r h0_globalCount h0_funs_r h0_funCount h0_open h0_signs h0_levels_r h0_now h0_known_r h0_knownCount h0_loops mad h0_madeLength mag h0_smalls_r h0_greats_r h0_module_r h0_spare_r h0_m h0_cursor h0_limit blk stk h0_top hgt lab ous kis los h0_depth h0_function mem h0_pages glo val h0_valueTop ffu fre fba fla h0_frames lat lhe h0_labelTop h0_steps h0_there rsl h0_resultLength h0_reason h0_place arg h0_argumentCount h0_code rf rf_backtrace rf_detailMessage rf_cause rf_stackTrace rf_depth rf_suppressedExceptions n54 n53)) hP hD [0, 1] [] rfl rfl (by decide) (by decide) hk1 hFc hP1 hD1
                      clear hPc hDc hKc hFc hz1 hk1 hP1 hK1 hD1
                      rename Heap => H
                      have hP : va_P (dC, dI) cls2 (wz_301 h0 rf tap h0_taped h0_length h0_kind h0_from h0_to h0_word h0_numeral h0_globalNames_r h0_globalPlaces_r h0_globalTypes_r h0_globalValues_r h0_globalCount h0_funs_r h0_funCount h0_open h0_signs h0_levels_r h0_now h0_known_r h0_knownCount h0_loops mad h0_madeLength mag h0_smalls_r h0_greats_r h0_module_r h0_spare_r h0_m h0_cursor h0_limit blk stk h0_top hgt lab ous kis los h0_depth h0_function mem h0_pages glo val h0_valueTop ffu fre fba fla h0_frames lat lhe h0_labelTop h0_steps h0_there rsl h0_resultLength h0_reason h0_place arg h0_argumentCount h0_code rf rf_backtrace rf_detailMessage rf_cause rf_stackTrace rf_depth rf_suppressedExceptions n54 n53) H := hP
                      have hD : va_D A (wz_301 h0 rf tap h0_taped h0_length h0_kind h0_from h0_to h0_word h0_numeral h0_globalNames_r h0_globalPlaces_r h0_globalTypes_r h0_globalValues_r h0_globalCount h0_funs_r h0_funCount h0_open h0_signs h0_levels_r h0_now h0_known_r h0_knownCount h0_loops mad h0_madeLength mag h0_smalls_r h0_greats_r h0_module_r h0_spare_r h0_m h0_cursor h0_limit blk stk h0_top hgt lab ous kis los h0_depth h0_function mem h0_pages glo val h0_valueTop ffu fre fba fla h0_frames lat lhe h0_labelTop h0_steps h0_there rsl h0_resultLength h0_reason h0_place arg h0_argumentCount h0_code rf rf_backtrace rf_detailMessage rf_cause rf_stackTrace rf_depth rf_suppressedExceptions n54 n53) := hD
                      refine lv_lload hx hb d_MD_worked_271 (lv_at hl 4 rfl) ?_
                      refine lv_ldc2 hx hb hown (hts _ kL_MD_473) d_MD_worked_273 ?_
                      refine lv_topl (fun x55 ex55 => ?_)
                      have tx55 : x55.toInt = -1 := by rw [ex55]; decide
                      refine W.lcmp hx hb d_MD_worked_276 ?_
                      refine lv_topi (fun x56 ex56 => ?_)
                      have tx56 := lgc ex56
                      refine lv_if_ne (tgt := 284) hx hb d_MD_worked_277 (by decide) (fun c277 => ?_) (fun c277 => ?_)
                      · have q277 := neI c277
                        refine lv_lload_n hx hb d_MD_worked_284 rfl (lv_at hl 3 rfl) ?_
                        refine lv_lload hx hb d_MD_worked_285 (lv_at hl 4 rfl) ?_
                        refine lv_lrem hx hb d_MD_worked_287 ((nz64 (by (first | (apply Int.le_antisymm <;> omega) | omega)))) ?_
                        refine lv_topl (fun x57 ex57 => ?_)
                        have hP9 := hP.sb (wq := (wz_301 h0 rf tap h0_taped h0_length h0_kind h0_from h0_to h0_word h0_numeral h0_globalNames_r h0_globalPlaces_r h0_globalTypes_r h0_globalValues_r h0_globalCount h0_funs_r h0_funCount h0_open h0_signs h0_levels_r h0_now h0_known_r h0_knownCount h0_loops mad h0_madeLength mag h0_smalls_r h0_greats_r h0_module_r h0_spare_r h0_m h0_cursor h0_limit blk stk h0_top hgt lab ous kis los h0_depth h0_function mem h0_pages glo val h0_valueTop ffu fre fba fla h0_frames lat lhe h0_labelTop h0_steps h0_there rsl h0_resultLength h0_reason h0_place arg h0_argumentCount h0_code rf rf_backtrace rf_detailMessage rf_cause rf_stackTrace rf_depth rf_suppressedExceptions n54 n53)) [0, 1] rfl
                        have hD9 := hD.sb (wq := (wz_301 h0 rf tap h0_taped h0_length h0_kind h0_from h0_to h0_word h0_numeral h0_globalNames_r h0_globalPlaces_r h0_globalTypes_r h0_globalValues_r h0_globalCount h0_funs_r h0_funCount h0_open h0_signs h0_levels_r h0_now h0_known_r h0_knownCount h0_loops mad h0_madeLength mag h0_smalls_r h0_greats_r h0_module_r h0_spare_r h0_m h0_cursor h0_limit blk stk h0_top hgt lab ous kis los h0_depth h0_function mem h0_pages glo val h0_valueTop ffu fre fba fla h0_frames lat lhe h0_labelTop h0_steps h0_there rsl h0_resultLength h0_reason h0_place arg h0_argumentCount h0_code rf rf_backtrace rf_detailMessage rf_cause rf_stackTrace rf_depth rf_suppressedExceptions n54 n53)) [0, 1] (by decide) rfl
                        exact tz_up (fun _ => rfl) (W.lret (v := x57) hx hb hr (fun t ht hW => ⟨⟨(n53, n54), ⟨x57, rfl, (trivial)⟩, va_P.he ht.symm hP9, va_K.moved hW.alike hK, hD9⟩, hS.F ht⟩) hS.2.2 d_MD_worked_288)
                      · have q277 := eqI c277
                        refine lv_lconst (v := 0) hx hb d_MD_worked_280 (by decide) ?_
                        have kl0 : (0 : Int64).toInt = 0 := by decide
                        refine lv_goto (tgt := 288) hx hb d_MD_worked_281 (by decide) ?_
                        have hP9 := hP.sb (wq := (wz_301 h0 rf tap h0_taped h0_length h0_kind h0_from h0_to h0_word h0_numeral h0_globalNames_r h0_globalPlaces_r h0_globalTypes_r h0_globalValues_r h0_globalCount h0_funs_r h0_funCount h0_open h0_signs h0_levels_r h0_now h0_known_r h0_knownCount h0_loops mad h0_madeLength mag h0_smalls_r h0_greats_r h0_module_r h0_spare_r h0_m h0_cursor h0_limit blk stk h0_top hgt lab ous kis los h0_depth h0_function mem h0_pages glo val h0_valueTop ffu fre fba fla h0_frames lat lhe h0_labelTop h0_steps h0_there rsl h0_resultLength h0_reason h0_place arg h0_argumentCount h0_code rf rf_backtrace rf_detailMessage rf_cause rf_stackTrace rf_depth rf_suppressedExceptions n54 n53)) [0, 1] rfl
                        have hD9 := hD.sb (wq := (wz_301 h0 rf tap h0_taped h0_length h0_kind h0_from h0_to h0_word h0_numeral h0_globalNames_r h0_globalPlaces_r h0_globalTypes_r h0_globalValues_r h0_globalCount h0_funs_r h0_funCount h0_open h0_signs h0_levels_r h0_now h0_known_r h0_knownCount h0_loops mad h0_madeLength mag h0_smalls_r h0_greats_r h0_module_r h0_spare_r h0_m h0_cursor h0_limit blk stk h0_top hgt lab ous kis los h0_depth h0_function mem h0_pages glo val h0_valueTop ffu fre fba fla h0_frames lat lhe h0_labelTop h0_steps h0_there rsl h0_resultLength h0_reason h0_place arg h0_argumentCount h0_code rf rf_backtrace rf_detailMessage rf_cause rf_stackTrace rf_depth rf_suppressedExceptions n54 n53)) [0, 1] (by decide) rfl
                        exact tz_up (fun _ => rfl) (W.lret (v := 0) hx hb hr (fun t ht hW => ⟨⟨(n53, n54), ⟨0, rfl, (trivial)⟩, va_P.he ht.symm hP9, va_K.moved hW.alike hK, hD9⟩, hS.F ht⟩) hS.2.2 d_MD_worked_288)
                    · have q258 := eqI c258
                      refine lv_iconst (v := 1) hx hb d_MD_worked_261 (by decide) ?_
                      refine lv_goto (tgt := 266) hx hb d_MD_worked_262 (by decide) ?_
                      refine lv_bipush (v := 10) hx hb d_MD_worked_266 (by decide) ?_
                      have hPc := hP.sb (wq := (wz_301 h0 rf tap h0_taped h0_length h0_kind h0_from h0_to h0_word h0_numeral h0_globalNames_r h0_globalPlaces_r h0_globalTypes_r h0_globalValues_r h0_globalCount h0_funs_r h0_funCount h0_open h0_signs h0_levels_r h0_now h0_known_r h0_knownCount h0_loops mad h0_madeLength mag h0_smalls_r h0_greats_r h0_module_r h0_spare_r h0_m h0_cursor h0_limit blk stk h0_top hgt lab ous kis los h0_depth h0_function mem h0_pages glo val h0_valueTop ffu fre fba fla h0_frames lat lhe h0_labelTop h0_steps h0_there rsl h0_resultLength h0_reason h0_place arg h0_argumentCount h0_code rf rf_backtrace rf_detailMessage rf_cause rf_stackTrace rf_depth rf_suppressedExceptions rf_reason rf_place)) [0, 1] rfl
                      have hDc := hD.sb (wq := (wz_301 h0 rf tap h0_taped h0_length h0_kind h0_from h0_to h0_word h0_numeral h0_globalNames_r h0_globalPlaces_r h0_globalTypes_r h0_globalValues_r h0_globalCount h0_funs_r h0_funCount h0_open h0_signs h0_levels_r h0_now h0_known_r h0_knownCount h0_loops mad h0_madeLength mag h0_smalls_r h0_greats_r h0_module_r h0_spare_r h0_m h0_cursor h0_limit blk stk h0_top hgt lab ous kis los h0_depth h0_function mem h0_pages glo val h0_valueTop ffu fre fba fla h0_frames lat lhe h0_labelTop h0_steps h0_there rsl h0_resultLength h0_reason h0_place arg h0_argumentCount h0_code rf rf_backtrace rf_detailMessage rf_cause rf_stackTrace rf_depth rf_suppressedExceptions rf_reason rf_place)) [0, 1] (by decide) rfl
                      have hKc := hK.sb (tyq := []) [] rfl
                      have hFc := va_free (wc := (wz_301 h0 rf tap h0_taped h0_length h0_kind h0_from h0_to h0_word h0_numeral h0_globalNames_r h0_globalPlaces_r h0_globalTypes_r h0_globalValues_r h0_globalCount h0_funs_r h0_funCount h0_open h0_signs h0_levels_r h0_now h0_known_r h0_knownCount h0_loops mad h0_madeLength mag h0_smalls_r h0_greats_r h0_module_r h0_spare_r h0_m h0_cursor h0_limit blk stk h0_top hgt lab ous kis los h0_depth h0_function mem h0_pages glo val h0_valueTop ffu fre fba fla h0_frames lat lhe h0_labelTop h0_steps h0_there rsl h0_resultLength h0_reason h0_place arg h0_argumentCount h0_code rf rf_backtrace rf_detailMessage rf_cause rf_stackTrace rf_depth rf_suppressedExceptions rf_reason rf_place)) hD hS hA [0, 1] rfl
                      refine tr_callv (tz_runV (As := [.int 1, .int 10]) (rest := []) ⟨hx, hb, hml, hown, hts⟩ (c_MD_ends l hlt dC dI H.size h0 rf tap h0_globalNames_r h0_globalPlaces_r h0_globalTypes_r h0_globalValues_r h0_funs_r h0_levels_r h0_known_r mad mag h0_smalls_r h0_greats_r h0_module_r h0_spare_r blk stk hgt lab ous kis los mem glo val ffu fre fba fla lat lhe rsl arg h0_taped h0_length h0_kind h0_from h0_to h0_word h0_numeral h0_globalCount h0_funCount h0_open h0_signs h0_now h0_knownCount h0_loops h0_madeLength h0_m h0_cursor h0_limit h0_top h0_depth h0_function h0_pages h0_valueTop h0_frames h0_labelTop h0_steps h0_there h0_resultLength h0_reason h0_place h0_argumentCount h0_code rf_backtrace rf_detailMessage rf_cause rf_stackTrace rf_depth rf_suppressedExceptions rf_reason rf_place 1 10 (Or.inr rfl)) (cwV 2 hts (gV kM_MD_706 kV_MD_ends kS_MD_ends kI_MD kC_MD_ends) rfl rfl rfl (by decide +kernel) ⟨Nat.le_of_ble_eq_true rfl, Nat.le_of_ble_eq_true rfl⟩) ⟨fun a U g mk z => by obtain ⟨z0, z1, zP, zK, zD, zS⟩ := z; exact ⟨z0, z1, zP, va_K.moved (u := U) (U := U.calling g mk a) (Vm.Alike.refl U.vm) zK, zD, sw_nest.same (s := U) (U := U.calling g mk a) rfl zS⟩, va_recv hKc hPc (ci := 11) (q0 := 0) rfl rfl, fun U hU hW => ⟨rfl, by rw [hU], va_P.he hU.symm hPc, va_K.moved hW.alike hKc, hDc.weaken (fun _ _ _ _ => trivial), hSW.warm hW⟩⟩ rfl rfl hl.1 rfl (lv_room (Nat.le_of_ble_eq_true rfl)) d_MD_worked_268 ⟨Nat.le_of_ble_eq_true rfl, Nat.le_of_ble_eq_true rfl⟩) hS (fun q _ h => hFc q h) hFc (fun u t H1 locs ht hvm hw hB hz1 hk1 hS => ?_) (fun xx u t H1 locs ht hvm hw hXX hB hz1 hk1 hS => ?_)
                      rotate_left
                      · skip
                        obtain ⟨hxa, hXX⟩ := hXX
                        obtain ⟨n59, n60⟩ := u
                        try dsimp only at hw
                        have tq9 := hw
                        obtain ⟨hP1, hK1, hD1⟩ := hB
                        replace hP1 := va_P.he ht hP1
                        obtain ⟨hP, hD⟩ := va_join (wr := []) (w1 := (wz_301 h0 rf tap h0_taped h0_length h0_kind h0_from h0_to h0_word h0_numeral h0_globalNames_r h0_globalPlaces_r h0_globalTypes_r h0_globalValues_r h0_globalCount h0_funs_r h0_funCount h0_open h0_signs h0_levels_r h0_now h0_known_r h0_knownCount h0_loops mad h0_madeLength mag h0_smalls_r h0_greats_r h0_module_r h0_spare_r h0_m h0_cursor h0_limit blk stk h0_top hgt lab ous kis los h0_depth h0_function mem h0_pages glo val h0_valueTop ffu fre fba fla h0_frames lat lhe h0_labelTop h0_steps h0_there rsl h0_resultLength h0_reason h0_place arg h0_argumentCount h0_code rf rf_backtrace rf_detailMessage rf_cause rf_stackTrace rf_depth rf_suppressedExceptions n60 n59)) hP hD [0, 1] [] rfl rfl (by decide) (by decide) hk1 hFc hP1 hD1
                        have hP : va_P (dC, dI) cls2 (wz_301 h0 rf tap h0_taped h0_length h0_kind h0_from h0_to h0_word h0_numeral h0_globalNames_r h0_globalPlaces_r h0_globalTypes_r h0_globalValues_r h0_globalCount h0_funs_r h0_funCount h0_open h0_signs h0_levels_r h0_now h0_known_r h0_knownCount h0_loops mad h0_madeLength mag h0_smalls_r h0_greats_r h0_module_r h0_spare_r h0_m h0_cursor h0_limit blk stk h0_top hgt lab ous kis los h0_depth h0_function mem h0_pages glo val h0_valueTop ffu fre fba fla h0_frames lat lhe h0_labelTop h0_steps h0_there rsl h0_resultLength h0_reason h0_place arg h0_argumentCount h0_code rf rf_backtrace rf_detailMessage rf_cause rf_stackTrace rf_depth rf_suppressedExceptions n60 n59) H1 := hP
                        have hD : va_D A (wz_301 h0 rf tap h0_taped h0_length h0_kind h0_from h0_to h0_word h0_numeral h0_globalNames_r h0_globalPlaces_r h0_globalTypes_r h0_globalValues_r h0_globalCount h0_funs_r h0_funCount h0_open h0_signs h0_levels_r h0_now h0_known_r h0_knownCount h0_loops mad h0_madeLength mag h0_smalls_r h0_greats_r h0_module_r h0_spare_r h0_m h0_cursor h0_limit blk stk h0_top hgt lab ous kis los h0_depth h0_function mem h0_pages glo val h0_valueTop ffu fre fba fla h0_frames lat lhe h0_labelTop h0_steps h0_there rsl h0_resultLength h0_reason h0_place arg h0_argumentCount h0_code rf rf_backtrace rf_detailMessage rf_cause rf_stackTrace rf_depth rf_suppressedExceptions n60 n59) := hD
                        have hP9 := hP.sb (wq := (wz_301 h0 rf tap h0_taped h0_length h0_kind h0_from h0_to h0_word h0_numeral h0_globalNames_r h0_globalPlaces_r h0_globalTypes_r h0_globalValues_r h0_globalCount h0_funs_r h0_funCount h0_open h0_signs h0_levels_r h0_now h0_known_r h0_knownCount h0_loops mad h0_madeLength mag h0_smalls_r h0_greats_r h0_module_r h0_spare_r h0_m h0_cursor h0_limit blk stk h0_top hgt lab ous kis los h0_depth h0_function mem h0_pages glo val h0_valueTop ffu fre fba fla h0_frames lat lhe h0_labelTop h0_steps h0_there rsl h0_resultLength h0_reason h0_place arg h0_argumentCount h0_code rf rf_backtrace rf_detailMessage rf_cause rf_stackTrace rf_depth rf_suppressedExceptions n60 n59)) [0, 1] rfl
                        have hD9 := hD.sb (wq := (wz_301 h0 rf tap h0_taped h0_length h0_kind h0_from h0_to h0_word h0_numeral h0_globalNames_r h0_globalPlaces_r h0_globalTypes_r h0_globalValues_r h0_globalCount h0_funs_r h0_funCount h0_open h0_signs h0_levels_r h0_now h0_known_r h0_knownCount h0_loops mad h0_madeLength mag h0_smalls_r h0_greats_r h0_module_r h0_spare_r h0_m h0_cursor h0_limit blk stk h0_top hgt lab ous kis los h0_depth h0_function mem h0_pages glo val h0_valueTop ffu fre fba fla h0_frames lat lhe h0_labelTop h0_steps h0_there rsl h0_resultLength h0_reason h0_place arg h0_argumentCount h0_code rf rf_backtrace rf_detailMessage rf_cause rf_stackTrace rf_depth rf_suppressedExceptions n60 n59)) [0, 1] (by decide) rfl
                        exact tz_leave rfl hno hlocks (fun t ht hW => ⟨⟨(n59, n60), ⟨trivial, hxa, by rw [ht]; exact hXX.moved hW.alike⟩, va_P.he ht.symm hP9, va_K.moved hW.alike hK, hD9⟩, hS.F ht⟩) hS.2.2
                      obtain ⟨n61, n62⟩ := u
                      try dsimp only at hw
                      have xr58 := hw
                      try clear hw
                      exact absurd xr58 (by decide)
                  · skip
                    by_cases g59_289 : p0.toInt = 113
                    · have ho59 : tab_off 285 106 119 #[69, 74, 79, 84, 146, 194, 146, 230, 235, 240, 245, 250, 255, 261] p0.toInt = 230 := by rw [g59_289]; rfl
                      refine lv_tab (tgt := 289) hx hb d_MD_worked_59 (by decide) ho59 (by decide) ?_
                      clear ho59
                      refine lv_lload_n hx hb d_MD_worked_289 rfl (lv_at hl 3 rfl) ?_
                      refine lv_lload hx hb d_MD_worked_290 (lv_at hl 4 rfl) ?_
                      refine lv_land hx hb d_MD_worked_292 ?_
                      refine lv_topl (fun x63 ex63 => ?_)
                      have hP9 := hP.sb (wq := (wz_301 h0 rf tap h0_taped h0_length h0_kind h0_from h0_to h0_word h0_numeral h0_globalNames_r h0_globalPlaces_r h0_globalTypes_r h0_globalValues_r h0_globalCount h0_funs_r h0_funCount h0_open h0_signs h0_levels_r h0_now h0_known_r h0_knownCount h0_loops mad h0_madeLength mag h0_smalls_r h0_greats_r h0_module_r h0_spare_r h0_m h0_cursor h0_limit blk stk h0_top hgt lab ous kis los h0_depth h0_function mem h0_pages glo val h0_valueTop ffu fre fba fla h0_frames lat lhe h0_labelTop h0_steps h0_there rsl h0_resultLength h0_reason h0_place arg h0_argumentCount h0_code rf rf_backtrace rf_detailMessage rf_cause rf_stackTrace rf_depth rf_suppressedExceptions rf_reason rf_place)) [0, 1] rfl
                      have hD9 := hD.sb (wq := (wz_301 h0 rf tap h0_taped h0_length h0_kind h0_from h0_to h0_word h0_numeral h0_globalNames_r h0_globalPlaces_r h0_globalTypes_r h0_globalValues_r h0_globalCount h0_funs_r h0_funCount h0_open h0_signs h0_levels_r h0_now h0_known_r h0_knownCount h0_loops mad h0_madeLength mag h0_smalls_r h0_greats_r h0_module_r h0_spare_r h0_m h0_cursor h0_limit blk stk h0_top hgt lab ous kis los h0_depth h0_function mem h0_pages glo val h0_valueTop ffu fre fba fla h0_frames lat lhe h0_labelTop h0_steps h0_there rsl h0_resultLength h0_reason h0_place arg h0_argumentCount h0_code rf rf_backtrace rf_detailMessage rf_cause rf_stackTrace rf_depth rf_suppressedExceptions rf_reason rf_place)) [0, 1] (by decide) rfl
                      exact tz_up (fun _ => rfl) (W.lret (v := x63) hx hb hr (fun t ht hW => ⟨⟨(rf_place, rf_reason), ⟨x63, rfl, (trivial)⟩, va_P.he ht.symm hP9, va_K.moved hW.alike hK, hD9⟩, hS.F ht⟩) hS.2.2 d_MD_worked_293)
                    · skip
                      by_cases g59_294 : p0.toInt = 114
                      · have ho59 : tab_off 285 106 119 #[69, 74, 79, 84, 146, 194, 146, 230, 235, 240, 245, 250, 255, 261] p0.toInt = 235 := by rw [g59_294]; rfl
                        refine lv_tab (tgt := 294) hx hb d_MD_worked_59 (by decide) ho59 (by decide) ?_
                        clear ho59
                        refine lv_lload_n hx hb d_MD_worked_294 rfl (lv_at hl 3 rfl) ?_
                        refine lv_lload hx hb d_MD_worked_295 (lv_at hl 4 rfl) ?_
                        refine lv_lor hx hb d_MD_worked_297 ?_
                        refine lv_topl (fun x64 ex64 => ?_)
                        have hP9 := hP.sb (wq := (wz_301 h0 rf tap h0_taped h0_length h0_kind h0_from h0_to h0_word h0_numeral h0_globalNames_r h0_globalPlaces_r h0_globalTypes_r h0_globalValues_r h0_globalCount h0_funs_r h0_funCount h0_open h0_signs h0_levels_r h0_now h0_known_r h0_knownCount h0_loops mad h0_madeLength mag h0_smalls_r h0_greats_r h0_module_r h0_spare_r h0_m h0_cursor h0_limit blk stk h0_top hgt lab ous kis los h0_depth h0_function mem h0_pages glo val h0_valueTop ffu fre fba fla h0_frames lat lhe h0_labelTop h0_steps h0_there rsl h0_resultLength h0_reason h0_place arg h0_argumentCount h0_code rf rf_backtrace rf_detailMessage rf_cause rf_stackTrace rf_depth rf_suppressedExceptions rf_reason rf_place)) [0, 1] rfl
                        have hD9 := hD.sb (wq := (wz_301 h0 rf tap h0_taped h0_length h0_kind h0_from h0_to h0_word h0_numeral h0_globalNames_r h0_globalPlaces_r h0_globalTypes_r h0_globalValues_r h0_globalCount h0_funs_r h0_funCount h0_open h0_signs h0_levels_r h0_now h0_known_r h0_knownCount h0_loops mad h0_madeLength mag h0_smalls_r h0_greats_r h0_module_r h0_spare_r h0_m h0_cursor h0_limit blk stk h0_top hgt lab ous kis los h0_depth h0_function mem h0_pages glo val h0_valueTop ffu fre fba fla h0_frames lat lhe h0_labelTop h0_steps h0_there rsl h0_resultLength h0_reason h0_place arg h0_argumentCount h0_code rf rf_backtrace rf_detailMessage rf_cause rf_stackTrace rf_depth rf_suppressedExceptions rf_reason rf_place)) [0, 1] (by decide) rfl
                        exact tz_up (fun _ => rfl) (W.lret (v := x64) hx hb hr (fun t ht hW => ⟨⟨(rf_place, rf_reason), ⟨x64, rfl, (trivial)⟩, va_P.he ht.symm hP9, va_K.moved hW.alike hK, hD9⟩, hS.F ht⟩) hS.2.2 d_MD_worked_298)
                      · skip
                        by_cases g59_299 : p0.toInt = 115
                        · have ho59 : tab_off 285 106 119 #[69, 74, 79, 84, 146, 194, 146, 230, 235, 240, 245, 250, 255, 261] p0.toInt = 240 := by rw [g59_299]; rfl
                          refine lv_tab (tgt := 299) hx hb d_MD_worked_59 (by decide) ho59 (by decide) ?_
                          clear ho59
                          refine lv_lload_n hx hb d_MD_worked_299 rfl (lv_at hl 3 rfl) ?_
                          refine lv_lload hx hb d_MD_worked_300 (lv_at hl 4 rfl) ?_
                          refine lv_lxor hx hb d_MD_worked_302 ?_
                          refine lv_topl (fun x65 ex65 => ?_)
                          have hP9 := hP.sb (wq := (wz_301 h0 rf tap h0_taped h0_length h0_kind h0_from h0_to h0_word h0_numeral h0_globalNames_r h0_globalPlaces_r h0_globalTypes_r h0_globalValues_r h0_globalCount h0_funs_r h0_funCount h0_open h0_signs h0_levels_r h0_now h0_known_r h0_knownCount h0_loops mad h0_madeLength mag h0_smalls_r h0_greats_r h0_module_r h0_spare_r h0_m h0_cursor h0_limit blk stk h0_top hgt lab ous kis los h0_depth h0_function mem h0_pages glo val h0_valueTop ffu fre fba fla h0_frames lat lhe h0_labelTop h0_steps h0_there rsl h0_resultLength h0_reason h0_place arg h0_argumentCount h0_code rf rf_backtrace rf_detailMessage rf_cause rf_stackTrace rf_depth rf_suppressedExceptions rf_reason rf_place)) [0, 1] rfl
                          have hD9 := hD.sb (wq := (wz_301 h0 rf tap h0_taped h0_length h0_kind h0_from h0_to h0_word h0_numeral h0_globalNames_r h0_globalPlaces_r h0_globalTypes_r h0_globalValues_r h0_globalCount h0_funs_r h0_funCount h0_open h0_signs h0_levels_r h0_now h0_known_r h0_knownCount h0_loops mad h0_madeLength mag h0_smalls_r h0_greats_r h0_module_r h0_spare_r h0_m h0_cursor h0_limit blk stk h0_top hgt lab ous kis los h0_depth h0_function mem h0_pages glo val h0_valueTop ffu fre fba fla h0_frames lat lhe h0_labelTop h0_steps h0_there rsl h0_resultLength h0_reason h0_place arg h0_argumentCount h0_code rf rf_backtrace rf_detailMessage rf_cause rf_stackTrace rf_depth rf_suppressedExceptions rf_reason rf_place)) [0, 1] (by decide) rfl
                          exact tz_up (fun _ => rfl) (W.lret (v := x65) hx hb hr (fun t ht hW => ⟨⟨(rf_place, rf_reason), ⟨x65, rfl, (trivial)⟩, va_P.he ht.symm hP9, va_K.moved hW.alike hK, hD9⟩, hS.F ht⟩) hS.2.2 d_MD_worked_303)
                        · skip
                          by_cases g59_304 : p0.toInt = 116
                          · have ho59 : tab_off 285 106 119 #[69, 74, 79, 84, 146, 194, 146, 230, 235, 240, 245, 250, 255, 261] p0.toInt = 245 := by rw [g59_304]; rfl
                            refine lv_tab (tgt := 304) hx hb d_MD_worked_59 (by decide) ho59 (by decide) ?_
                            clear ho59
                            refine lv_lload_n hx hb d_MD_worked_304 rfl (lv_at hl 3 rfl) ?_
                            refine lv_iload hx hb d_MD_worked_305 (lv_at hl 7 rfl) ?_
                            refine lv_lshl hx hb d_MD_worked_307 rfl ?_
                            refine lv_topl (fun x66 ex66 => ?_)
                            have hP9 := hP.sb (wq := (wz_301 h0 rf tap h0_taped h0_length h0_kind h0_from h0_to h0_word h0_numeral h0_globalNames_r h0_globalPlaces_r h0_globalTypes_r h0_globalValues_r h0_globalCount h0_funs_r h0_funCount h0_open h0_signs h0_levels_r h0_now h0_known_r h0_knownCount h0_loops mad h0_madeLength mag h0_smalls_r h0_greats_r h0_module_r h0_spare_r h0_m h0_cursor h0_limit blk stk h0_top hgt lab ous kis los h0_depth h0_function mem h0_pages glo val h0_valueTop ffu fre fba fla h0_frames lat lhe h0_labelTop h0_steps h0_there rsl h0_resultLength h0_reason h0_place arg h0_argumentCount h0_code rf rf_backtrace rf_detailMessage rf_cause rf_stackTrace rf_depth rf_suppressedExceptions rf_reason rf_place)) [0, 1] rfl
                            have hD9 := hD.sb (wq := (wz_301 h0 rf tap h0_taped h0_length h0_kind h0_from h0_to h0_word h0_numeral h0_globalNames_r h0_globalPlaces_r h0_globalTypes_r h0_globalValues_r h0_globalCount h0_funs_r h0_funCount h0_open h0_signs h0_levels_r h0_now h0_known_r h0_knownCount h0_loops mad h0_madeLength mag h0_smalls_r h0_greats_r h0_module_r h0_spare_r h0_m h0_cursor h0_limit blk stk h0_top hgt lab ous kis los h0_depth h0_function mem h0_pages glo val h0_valueTop ffu fre fba fla h0_frames lat lhe h0_labelTop h0_steps h0_there rsl h0_resultLength h0_reason h0_place arg h0_argumentCount h0_code rf rf_backtrace rf_detailMessage rf_cause rf_stackTrace rf_depth rf_suppressedExceptions rf_reason rf_place)) [0, 1] (by decide) rfl
                            exact tz_up (fun _ => rfl) (W.lret (v := x66) hx hb hr (fun t ht hW => ⟨⟨(rf_place, rf_reason), ⟨x66, rfl, (trivial)⟩, va_P.he ht.symm hP9, va_K.moved hW.alike hK, hD9⟩, hS.F ht⟩) hS.2.2 d_MD_worked_308)
                          · skip
                            by_cases g59_309 : p0.toInt = 117
                            · have ho59 : tab_off 285 106 119 #[69, 74, 79, 84, 146, 194, 146, 230, 235, 240, 245, 250, 255, 261] p0.toInt = 250 := by rw [g59_309]; rfl
                              refine lv_tab (tgt := 309) hx hb d_MD_worked_59 (by decide) ho59 (by decide) ?_
                              clear ho59
                              refine lv_lload_n hx hb d_MD_worked_309 rfl (lv_at hl 3 rfl) ?_
                              refine lv_iload hx hb d_MD_worked_310 (lv_at hl 7 rfl) ?_
                              refine lv_lshr hx hb d_MD_worked_312 rfl ?_
                              refine lv_topl (fun x67 ex67 => ?_)
                              have hP9 := hP.sb (wq := (wz_301 h0 rf tap h0_taped h0_length h0_kind h0_from h0_to h0_word h0_numeral h0_globalNames_r h0_globalPlaces_r h0_globalTypes_r h0_globalValues_r h0_globalCount h0_funs_r h0_funCount h0_open h0_signs h0_levels_r h0_now h0_known_r h0_knownCount h0_loops mad h0_madeLength mag h0_smalls_r h0_greats_r h0_module_r h0_spare_r h0_m h0_cursor h0_limit blk stk h0_top hgt lab ous kis los h0_depth h0_function mem h0_pages glo val h0_valueTop ffu fre fba fla h0_frames lat lhe h0_labelTop h0_steps h0_there rsl h0_resultLength h0_reason h0_place arg h0_argumentCount h0_code rf rf_backtrace rf_detailMessage rf_cause rf_stackTrace rf_depth rf_suppressedExceptions rf_reason rf_place)) [0, 1] rfl
                              have hD9 := hD.sb (wq := (wz_301 h0 rf tap h0_taped h0_length h0_kind h0_from h0_to h0_word h0_numeral h0_globalNames_r h0_globalPlaces_r h0_globalTypes_r h0_globalValues_r h0_globalCount h0_funs_r h0_funCount h0_open h0_signs h0_levels_r h0_now h0_known_r h0_knownCount h0_loops mad h0_madeLength mag h0_smalls_r h0_greats_r h0_module_r h0_spare_r h0_m h0_cursor h0_limit blk stk h0_top hgt lab ous kis los h0_depth h0_function mem h0_pages glo val h0_valueTop ffu fre fba fla h0_frames lat lhe h0_labelTop h0_steps h0_there rsl h0_resultLength h0_reason h0_place arg h0_argumentCount h0_code rf rf_backtrace rf_detailMessage rf_cause rf_stackTrace rf_depth rf_suppressedExceptions rf_reason rf_place)) [0, 1] (by decide) rfl
                              exact tz_up (fun _ => rfl) (W.lret (v := x67) hx hb hr (fun t ht hW => ⟨⟨(rf_place, rf_reason), ⟨x67, rfl, (trivial)⟩, va_P.he ht.symm hP9, va_K.moved hW.alike hK, hD9⟩, hS.F ht⟩) hS.2.2 d_MD_worked_313)
                            · skip
                              by_cases g59_314 : p0.toInt = 118
                              · have ho59 : tab_off 285 106 119 #[69, 74, 79, 84, 146, 194, 146, 230, 235, 240, 245, 250, 255, 261] p0.toInt = 255 := by rw [g59_314]; rfl
                                refine lv_tab (tgt := 314) hx hb d_MD_worked_59 (by decide) ho59 (by decide) ?_
                                clear ho59
                                refine lv_lload hx hb d_MD_worked_314 (lv_at hl 8 rfl) ?_
                                refine lv_iload hx hb d_MD_worked_316 (lv_at hl 7 rfl) ?_
                                refine lv_lushr hx hb d_MD_worked_318 rfl ?_
                                refine lv_topl (fun x68 ex68 => ?_)
                                have hP9 := hP.sb (wq := (wz_301 h0 rf tap h0_taped h0_length h0_kind h0_from h0_to h0_word h0_numeral h0_globalNames_r h0_globalPlaces_r h0_globalTypes_r h0_globalValues_r h0_globalCount h0_funs_r h0_funCount h0_open h0_signs h0_levels_r h0_now h0_known_r h0_knownCount h0_loops mad h0_madeLength mag h0_smalls_r h0_greats_r h0_module_r h0_spare_r h0_m h0_cursor h0_limit blk stk h0_top hgt lab ous kis los h0_depth h0_function mem h0_pages glo val h0_valueTop ffu fre fba fla h0_frames lat lhe h0_labelTop h0_steps h0_there rsl h0_resultLength h0_reason h0_place arg h0_argumentCount h0_code rf rf_backtrace rf_detailMessage rf_cause rf_stackTrace rf_depth rf_suppressedExceptions rf_reason rf_place)) [0, 1] rfl
                                have hD9 := hD.sb (wq := (wz_301 h0 rf tap h0_taped h0_length h0_kind h0_from h0_to h0_word h0_numeral h0_globalNames_r h0_globalPlaces_r h0_globalTypes_r h0_globalValues_r h0_globalCount h0_funs_r h0_funCount h0_open h0_signs h0_levels_r h0_now h0_known_r h0_knownCount h0_loops mad h0_madeLength mag h0_smalls_r h0_greats_r h0_module_r h0_spare_r h0_m h0_cursor h0_limit blk stk h0_top hgt lab ous kis los h0_depth h0_function mem h0_pages glo val h0_valueTop ffu fre fba fla h0_frames lat lhe h0_labelTop h0_steps h0_there rsl h0_resultLength h0_reason h0_place arg h0_argumentCount h0_code rf rf_backtrace rf_detailMessage rf_cause rf_stackTrace rf_depth rf_suppressedExceptions rf_reason rf_place)) [0, 1] (by decide) rfl
                                exact tz_up (fun _ => rfl) (W.lret (v := x68) hx hb hr (fun t ht hW => ⟨⟨(rf_place, rf_reason), ⟨x68, rfl, (trivial)⟩, va_P.he ht.symm hP9, va_K.moved hW.alike hK, hD9⟩, hS.F ht⟩) hS.2.2 d_MD_worked_319)
                              · skip
                                by_cases g59_320 : p0.toInt = 119
                                · have ho59 : tab_off 285 106 119 #[69, 74, 79, 84, 146, 194, 146, 230, 235, 240, 245, 250, 255, 261] p0.toInt = 261 := by rw [g59_320]; rfl
                                  refine lv_tab (tgt := 320) hx hb d_MD_worked_59 (by decide) ho59 (by decide) ?_
                                  clear ho59
                                  refine lv_iload hx hb d_MD_worked_320 (lv_at hl 7 rfl) ?_
                                  refine lv_if_ne (tgt := 329) hx hb d_MD_worked_322 (by decide) (fun c322 => ?_) (fun c322 => ?_)
                                  · have q322 := neI c322
                                    refine lv_lload hx hb d_MD_worked_329 (lv_at hl 8 rfl) ?_
                                    refine lv_iload hx hb d_MD_worked_331 (lv_at hl 7 rfl) ?_
                                    refine lv_lshl hx hb d_MD_worked_333 rfl ?_
                                    refine lv_topl (fun x69 ex69 => ?_)
                                    refine lv_lload hx hb d_MD_worked_334 (lv_at hl 8 rfl) ?_
                                    refine lv_iload hx hb d_MD_worked_336 (lv_at hl 6 rfl) ?_
                                    refine lv_iload hx hb d_MD_worked_338 (lv_at hl 7 rfl) ?_
                                    refine lv_isub hx hb d_MD_worked_340 ?_
                                    refine lv_topi (fun x70 ex70 => ?_)
                                    refine lv_lushr hx hb d_MD_worked_341 rfl ?_
                                    refine lv_topl (fun x71 ex71 => ?_)
                                    refine lv_lor hx hb d_MD_worked_342 ?_
                                    refine lv_topl (fun x72 ex72 => ?_)
                                    have hP9 := hP.sb (wq := (wz_301 h0 rf tap h0_taped h0_length h0_kind h0_from h0_to h0_word h0_numeral h0_globalNames_r h0_globalPlaces_r h0_globalTypes_r h0_globalValues_r h0_globalCount h0_funs_r h0_funCount h0_open h0_signs h0_levels_r h0_now h0_known_r h0_knownCount h0_loops mad h0_madeLength mag h0_smalls_r h0_greats_r h0_module_r h0_spare_r h0_m h0_cursor h0_limit blk stk h0_top hgt lab ous kis los h0_depth h0_function mem h0_pages glo val h0_valueTop ffu fre fba fla h0_frames lat lhe h0_labelTop h0_steps h0_there rsl h0_resultLength h0_reason h0_place arg h0_argumentCount h0_code rf rf_backtrace rf_detailMessage rf_cause rf_stackTrace rf_depth rf_suppressedExceptions rf_reason rf_place)) [0, 1] rfl
                                    have hD9 := hD.sb (wq := (wz_301 h0 rf tap h0_taped h0_length h0_kind h0_from h0_to h0_word h0_numeral h0_globalNames_r h0_globalPlaces_r h0_globalTypes_r h0_globalValues_r h0_globalCount h0_funs_r h0_funCount h0_open h0_signs h0_levels_r h0_now h0_known_r h0_knownCount h0_loops mad h0_madeLength mag h0_smalls_r h0_greats_r h0_module_r h0_spare_r h0_m h0_cursor h0_limit blk stk h0_top hgt lab ous kis los h0_depth h0_function mem h0_pages glo val h0_valueTop ffu fre fba fla h0_frames lat lhe h0_labelTop h0_steps h0_there rsl h0_resultLength h0_reason h0_place arg h0_argumentCount h0_code rf rf_backtrace rf_detailMessage rf_cause rf_stackTrace rf_depth rf_suppressedExceptions rf_reason rf_place)) [0, 1] (by decide) rfl
                                    exact tz_up (fun _ => rfl) (W.lret (v := x72) hx hb hr (fun t ht hW => ⟨⟨(rf_place, rf_reason), ⟨x72, rfl, (trivial)⟩, va_P.he ht.symm hP9, va_K.moved hW.alike hK, hD9⟩, hS.F ht⟩) hS.2.2 d_MD_worked_343)
                                  · have q322 := eqI c322
                                    refine lv_lload_n hx hb d_MD_worked_325 rfl (lv_at hl 3 rfl) ?_
                                    refine lv_goto (tgt := 343) hx hb d_MD_worked_326 (by decide) ?_
                                    have hP9 := hP.sb (wq := (wz_301 h0 rf tap h0_taped h0_length h0_kind h0_from h0_to h0_word h0_numeral h0_globalNames_r h0_globalPlaces_r h0_globalTypes_r h0_globalValues_r h0_globalCount h0_funs_r h0_funCount h0_open h0_signs h0_levels_r h0_now h0_known_r h0_knownCount h0_loops mad h0_madeLength mag h0_smalls_r h0_greats_r h0_module_r h0_spare_r h0_m h0_cursor h0_limit blk stk h0_top hgt lab ous kis los h0_depth h0_function mem h0_pages glo val h0_valueTop ffu fre fba fla h0_frames lat lhe h0_labelTop h0_steps h0_there rsl h0_resultLength h0_reason h0_place arg h0_argumentCount h0_code rf rf_backtrace rf_detailMessage rf_cause rf_stackTrace rf_depth rf_suppressedExceptions rf_reason rf_place)) [0, 1] rfl
                                    have hD9 := hD.sb (wq := (wz_301 h0 rf tap h0_taped h0_length h0_kind h0_from h0_to h0_word h0_numeral h0_globalNames_r h0_globalPlaces_r h0_globalTypes_r h0_globalValues_r h0_globalCount h0_funs_r h0_funCount h0_open h0_signs h0_levels_r h0_now h0_known_r h0_knownCount h0_loops mad h0_madeLength mag h0_smalls_r h0_greats_r h0_module_r h0_spare_r h0_m h0_cursor h0_limit blk stk h0_top hgt lab ous kis los h0_depth h0_function mem h0_pages glo val h0_valueTop ffu fre fba fla h0_frames lat lhe h0_labelTop h0_steps h0_there rsl h0_resultLength h0_reason h0_place arg h0_argumentCount h0_code rf rf_backtrace rf_detailMessage rf_cause rf_stackTrace rf_depth rf_suppressedExceptions rf_reason rf_place)) [0, 1] (by decide) rfl
                                    exact tz_up (fun _ => rfl) (W.lret (v := p1) hx hb hr (fun t ht hW => ⟨⟨(rf_place, rf_reason), ⟨p1, rfl, (trivial)⟩, va_P.he ht.symm hP9, va_K.moved hW.alike hK, hD9⟩, hS.F ht⟩) hS.2.2 d_MD_worked_343)
                                · skip
                                  have ho59 : tab_off 285 106 119 #[69, 74, 79, 84, 146, 194, 146, 230, 235, 240, 245, 250, 255, 261] p0.toInt = 285 := by
                                    unfold tab_off
                                    split
                                    · rfl
                                    · exfalso; (first | (apply Int.le_antisymm <;> omega) | omega)
                                  refine lv_tab (tgt := 344) hx hb d_MD_worked_59 (by decide) ho59 (by decide) ?_
                                  clear ho59
                                  refine lv_iload hx hb d_MD_worked_344 (lv_at hl 7 rfl) ?_
                                  refine lv_if_ne (tgt := 353) hx hb d_MD_worked_346 (by decide) (fun c346 => ?_) (fun c346 => ?_)
                                  · have q346 := neI c346
                                    refine lv_lload hx hb d_MD_worked_353 (lv_at hl 8 rfl) ?_
                                    refine lv_iload hx hb d_MD_worked_355 (lv_at hl 7 rfl) ?_
                                    refine lv_lushr hx hb d_MD_worked_357 rfl ?_
                                    refine lv_topl (fun x73 ex73 => ?_)
                                    refine lv_lload hx hb d_MD_worked_358 (lv_at hl 8 rfl) ?_
                                    refine lv_iload hx hb d_MD_worked_360 (lv_at hl 6 rfl) ?_
                                    refine lv_iload hx hb d_MD_worked_362 (lv_at hl 7 rfl) ?_
                                    refine lv_isub hx hb d_MD_worked_364 ?_
                                    refine lv_topi (fun x74 ex74 => ?_)
                                    refine lv_lshl hx hb d_MD_worked_365 rfl ?_
                                    refine lv_topl (fun x75 ex75 => ?_)
                                    refine lv_lor hx hb d_MD_worked_366 ?_
                                    refine lv_topl (fun x76 ex76 => ?_)
                                    have hP9 := hP.sb (wq := (wz_301 h0 rf tap h0_taped h0_length h0_kind h0_from h0_to h0_word h0_numeral h0_globalNames_r h0_globalPlaces_r h0_globalTypes_r h0_globalValues_r h0_globalCount h0_funs_r h0_funCount h0_open h0_signs h0_levels_r h0_now h0_known_r h0_knownCount h0_loops mad h0_madeLength mag h0_smalls_r h0_greats_r h0_module_r h0_spare_r h0_m h0_cursor h0_limit blk stk h0_top hgt lab ous kis los h0_depth h0_function mem h0_pages glo val h0_valueTop ffu fre fba fla h0_frames lat lhe h0_labelTop h0_steps h0_there rsl h0_resultLength h0_reason h0_place arg h0_argumentCount h0_code rf rf_backtrace rf_detailMessage rf_cause rf_stackTrace rf_depth rf_suppressedExceptions rf_reason rf_place)) [0, 1] rfl
                                    have hD9 := hD.sb (wq := (wz_301 h0 rf tap h0_taped h0_length h0_kind h0_from h0_to h0_word h0_numeral h0_globalNames_r h0_globalPlaces_r h0_globalTypes_r h0_globalValues_r h0_globalCount h0_funs_r h0_funCount h0_open h0_signs h0_levels_r h0_now h0_known_r h0_knownCount h0_loops mad h0_madeLength mag h0_smalls_r h0_greats_r h0_module_r h0_spare_r h0_m h0_cursor h0_limit blk stk h0_top hgt lab ous kis los h0_depth h0_function mem h0_pages glo val h0_valueTop ffu fre fba fla h0_frames lat lhe h0_labelTop h0_steps h0_there rsl h0_resultLength h0_reason h0_place arg h0_argumentCount h0_code rf rf_backtrace rf_detailMessage rf_cause rf_stackTrace rf_depth rf_suppressedExceptions rf_reason rf_place)) [0, 1] (by decide) rfl
                                    exact tz_up (fun _ => rfl) (W.lret (v := x76) hx hb hr (fun t ht hW => ⟨⟨(rf_place, rf_reason), ⟨x76, rfl, (trivial)⟩, va_P.he ht.symm hP9, va_K.moved hW.alike hK, hD9⟩, hS.F ht⟩) hS.2.2 d_MD_worked_367)
                                  · have q346 := eqI c346
                                    refine lv_lload_n hx hb d_MD_worked_349 rfl (lv_at hl 3 rfl) ?_
                                    refine lv_goto (tgt := 367) hx hb d_MD_worked_350 (by decide) ?_
                                    have hP9 := hP.sb (wq := (wz_301 h0 rf tap h0_taped h0_length h0_kind h0_from h0_to h0_word h0_numeral h0_globalNames_r h0_globalPlaces_r h0_globalTypes_r h0_globalValues_r h0_globalCount h0_funs_r h0_funCount h0_open h0_signs h0_levels_r h0_now h0_known_r h0_knownCount h0_loops mad h0_madeLength mag h0_smalls_r h0_greats_r h0_module_r h0_spare_r h0_m h0_cursor h0_limit blk stk h0_top hgt lab ous kis los h0_depth h0_function mem h0_pages glo val h0_valueTop ffu fre fba fla h0_frames lat lhe h0_labelTop h0_steps h0_there rsl h0_resultLength h0_reason h0_place arg h0_argumentCount h0_code rf rf_backtrace rf_detailMessage rf_cause rf_stackTrace rf_depth rf_suppressedExceptions rf_reason rf_place)) [0, 1] rfl
                                    have hD9 := hD.sb (wq := (wz_301 h0 rf tap h0_taped h0_length h0_kind h0_from h0_to h0_word h0_numeral h0_globalNames_r h0_globalPlaces_r h0_globalTypes_r h0_globalValues_r h0_globalCount h0_funs_r h0_funCount h0_open h0_signs h0_levels_r h0_now h0_known_r h0_knownCount h0_loops mad h0_madeLength mag h0_smalls_r h0_greats_r h0_module_r h0_spare_r h0_m h0_cursor h0_limit blk stk h0_top hgt lab ous kis los h0_depth h0_function mem h0_pages glo val h0_valueTop ffu fre fba fla h0_frames lat lhe h0_labelTop h0_steps h0_there rsl h0_resultLength h0_reason h0_place arg h0_argumentCount h0_code rf rf_backtrace rf_detailMessage rf_cause rf_stackTrace rf_depth rf_suppressedExceptions rf_reason rf_place)) [0, 1] (by decide) rfl
                                    exact tz_up (fun _ => rfl) (W.lret (v := p1) hx hb hr (fun t ht hW => ⟨⟨(rf_place, rf_reason), ⟨p1, rfl, (trivial)⟩, va_P.he ht.symm hP9, va_K.moved hW.alike hK, hD9⟩, hS.F ht⟩) hS.2.2 d_MD_worked_367)
      · skip
        refine lv_if_eq (tgt := 54) hx hb d_MD_worked_42 (by decide) (fun c42 => ?_) (fun c42 => ?_)
        · have q42 := eqI c42
          refine lv_lload hx hb d_MD_worked_54 (lv_at hl 4 rfl) ?_
          exact jn56 p2 _ _ _ ⟨fun _ z => z, hP, hD, hS, lv_sub hl [1, 2, 3, 4, 5, 6, 7, 0] rfl⟩
        · have q42 := neI c42
          refine lv_lload hx hb d_MD_worked_45 (lv_at hl 4 rfl) ?_
          refine lv_ldc2 hx hb hown (hts _ kL_MD_777) d_MD_worked_47 ?_
          refine lv_topl (fun x77 ex77 => ?_)
          have tx77 : x77.toInt = 4294967295 := by rw [ex77]; decide
          refine lv_land hx hb d_MD_worked_50 ?_
          refine lv_topl (fun x78 ex78 => ?_)
          refine lv_goto (tgt := 56) hx hb d_MD_worked_51 (by decide) ?_
          exact jn56 x78 _ _ _ ⟨fun k9 z => by have q := and32_mod p2; rw [show (4294967295 : Int64) = x77 from ex77.symm, ← ex78] at q; rw [q]; have := hsm (by (first | (apply Int.le_antisymm <;> omega) | omega)) k9; (first | (apply Int.le_antisymm <;> omega) | omega), hP, hD, hS, lv_sub hl [1, 2, 3, 4, 5, 6, 7, 0] rfl⟩
    · skip
      refine lv_if_eq (tgt := 37) hx hb d_MD_worked_26 (by decide) (fun c26 => ?_) (fun c26 => ?_)
      · have q26 := eqI c26
        refine lv_lload_n hx hb d_MD_worked_37 rfl (lv_at hl 4 rfl) ?_
        exact jn38 p1 _ _ _ ⟨hP, hD, hS, lv_sub hl [2, 3, 4, 5, 6, 1, 0] rfl⟩
      · have q26 := neI c26
        refine lv_lload_n hx hb d_MD_worked_29 rfl (lv_at hl 4 rfl) ?_
        refine lv_ldc2 hx hb hown (hts _ kL_MD_777) d_MD_worked_30 ?_
        refine lv_topl (fun x79 ex79 => ?_)
        have tx79 : x79.toInt = 4294967295 := by rw [ex79]; decide
        refine lv_land hx hb d_MD_worked_33 ?_
        refine lv_topl (fun x80 ex80 => ?_)
        refine lv_goto (tgt := 38) hx hb d_MD_worked_34 (by decide) ?_
        exact jn38 x80 _ _ _ ⟨hP, hD, hS, lv_sub hl [2, 3, 4, 5, 6, 1, 0] rfl⟩
  · skip
    refine lv_if_eq (tgt := 10) hx hb d_MD_worked_2 (by decide) (fun c2 => ?_) (fun c2 => ?_)
    · have q2 := eqI c2
      refine lv_bipush (v := 64) hx hb d_MD_worked_10 (by decide) ?_
      exact jn12 64 _ _ _ ⟨by (try dsimp only) <;> (first | (apply Int.le_antisymm <;> omega) | omega), hP, hD, hS, lv_sub hl [0, 1, 2, 3, 4] rfl⟩
    · have q2 := neI c2
      refine lv_bipush (v := 32) hx hb d_MD_worked_5 (by decide) ?_
      refine lv_goto (tgt := 12) hx hb d_MD_worked_7 (by decide) ?_
      exact jn12 32 _ _ _ ⟨by (try dsimp only) <;> (first | (apply Int.le_antisymm <;> omega) | omega), hP, hD, hS, lv_sub hl [0, 1, 2, 3, 4] rfl⟩

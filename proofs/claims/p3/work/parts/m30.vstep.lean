/-! the reference: validStep, names -/
theorem sel_t {x y A B : Int32} (h : x.toInt = y.toInt ∨ x.toInt = -1 ∨ y.toInt = -1) (hx : A.toInt ≠ -1 → x = A) (hy : B.toInt ≠ -1 → y = B) (h2 : (x.toInt = -1 ∧ y.toInt ≠ 126) ∨ (x.toInt ≠ -1 ∧ x.toInt ≠ 126)) : B.toInt ≠ 126 ∧ A.toInt ≠ 126 := by
  constructor
  · intro z
    have := congrArg Int32.toInt (hy (by omega))
    omega
  · intro z
    have := congrArg Int32.toInt (hx (by omega))
    omega
theorem lt_of {fc gc : Int} {mpc mre mlc mgt : Nat → Int32} {mto : Nat → Int64} {M1 M2 : Nat → Nat → Int32} {lt : Nat → Nat → Int} {rt nl gv tk gt : Nat → Int} {f : Nat} {i : Int} {r : Int32} (H : vctx fc gc mpc mre mlc mgt mto M1 M2 lt rt nl gv tk gt) (hf : (f : Int) < fc) (hi : 0 ≤ i)
    (h : (i < (mpc (mto f).toInt.toNat).toInt → r = M1 (mto f).toInt.toNat i.toNat) ∧ ((mpc (mto f).toInt.toNat).toInt ≤ i → r = M2 f (i - (mpc (mto f).toInt.toNat).toInt).toNat) ∧ i < (mpc (mto f).toInt.toNat).toInt + (mlc f).toInt) : lt f i.toNat = r.toInt ∧ t27 r.toInt ∧ i < nl f := by
  obtain ⟨-, -, h3, -, -, -, h7, h8, h9⟩ := H.1 f hf
  obtain ⟨k1, k2, k3⟩ := h
  by_cases q : i < (mpc (mto f).toInt.toNat).toInt
  · obtain ⟨w1, w2⟩ := h8 i.toNat (by omega)
    rw [← k1 q] at w1
    exact ⟨w1, by rw [← w1]; exact w2, by omega⟩
  · obtain ⟨w1, w2⟩ := h9 i.toNat (by omega) (by omega)
    have e := k2 (by omega)
    rw [show ((i.toNat : Int) - tk f).toNat = (i - (mpc (mto f).toInt.toNat).toInt).toNat by omega, ← e] at w1
    exact ⟨w1, by rw [← w1]; exact w2, by omega⟩
theorem vx_f {fc gc : Int} {mpc mre mlc mgt : Nat → Int32} {mto : Nat → Int64} {M1 M2 : Nat → Nat → Int32} {lt : Nat → Nat → Int} {rt nl gv tk gt : Nat → Int} (H : vctx fc gc mpc mre mlc mgt mto M1 M2 lt rt nl gv tk gt) {f : Nat} (hf : (f : Int) < fc) : 0 ≤ (mto f).toInt ∧ (mto f).toInt < 20 ∧ tk f = (mpc (mto f).toInt.toNat).toInt ∧ rt f = (mre (mto f).toInt.toNat).toInt ∧ (rt f = 0 ∨ rt f = 127 ∨ rt f = 126) ∧ (rt f = 0 → gv f = 0) ∧ (rt f ≠ 0 → gv f = 1) := by
  obtain ⟨a1, a2, a3, a4, a5, a6, -⟩ := H.1 f hf
  refine ⟨a1, a2, a3, a4, by unfold t27 at a5; exact a5, fun z => by rw [a6, if_pos z], fun z => by rw [a6, if_neg z]⟩
theorem vx_p {fc gc : Int} {mpc mre mlc mgt : Nat → Int32} {mto : Nat → Int64} {M1 M2 : Nat → Nat → Int32} {lt : Nat → Nat → Int} {rt nl gv tk gt : Nat → Int} (H : vctx fc gc mpc mre mlc mgt mto M1 M2 lt rt nl gv tk gt) {f k : Nat} (hf : (f : Int) < fc) (hk : (k : Int) < tk f) : lt f k = (M1 (mto f).toInt.toNat k).toInt ∧ (lt f k = 127 ∨ lt f k = 126) := by
  have q := (H.1 f hf).2.2.2.2.2.2.2.1 k hk
  unfold t27 at q
  exact q
abbrev b_MD_validStep : ByteArray := prog_15_method_77_code
def y_MD_validStep : MethodName := ⟨R_MD, "validStep", "(I)V"⟩
abbrev w_MD_validStep : List Cond := .code y_MD_validStep b_MD_validStep 10 none :: lw_g
set_option maxRecDepth 100000 in
theorem kC_MD_validStep : Cond.code y_MD_validStep b_MD_validStep 10 none ∈ lw_g := in_g 2967 rfl rfl
theorem d_MD_validStep_0 : decode b_MD_validStep 0 = .ok (.iload_n 1, 1) := by decide +kernel
theorem d_MD_validStep_1 : decode b_MD_validStep 1 = .ok (.tableswitch 718 0 36 #[163, 170, 173, 173, 173, 221, 718, 718, 718, 718, 718, 718, 290, 310, 343, 350, 367, 718, 718, 718, 718, 718, 718, 718, 718, 718, 466, 475, 718, 718, 718, 718, 559, 579, 600, 631, 631], 163) := by decide +kernel
theorem d_MD_validStep_164 : decode b_MD_validStep 164 = .ok (.aload_n 0, 1) := by decide +kernel
theorem d_MD_validStep_165 : decode b_MD_validStep 165 = .ok (.invokevirtual 684, 3) := by decide +kernel
theorem d_MD_validStep_168 : decode b_MD_validStep 168 = .ok (.goto 556, 3) := by decide +kernel
theorem d_MD_validStep_171 : decode b_MD_validStep 171 = .ok (.goto 553, 3) := by decide +kernel
theorem d_MD_validStep_174 : decode b_MD_validStep 174 = .ok (.aload_n 0, 1) := by decide +kernel
theorem d_MD_validStep_175 : decode b_MD_validStep 175 = .ok (.invokevirtual 501, 3) := by decide +kernel
theorem d_MD_validStep_178 : decode b_MD_validStep 178 = .ok (.istore_n 2, 1) := by decide +kernel
theorem d_MD_validStep_179 : decode b_MD_validStep 179 = .ok (.iload_n 2, 1) := by decide +kernel
theorem d_MD_validStep_180 : decode b_MD_validStep 180 = .ok (.bipush 64, 2) := by decide +kernel
theorem d_MD_validStep_182 : decode b_MD_validStep 182 = .ok (.if_icmp .ne 7, 3) := by decide +kernel
theorem d_MD_validStep_185 : decode b_MD_validStep 185 = .ok (.iconst 0, 1) := by decide +kernel
theorem d_MD_validStep_186 : decode b_MD_validStep 186 = .ok (.goto 4, 3) := by decide +kernel
theorem d_MD_validStep_189 : decode b_MD_validStep 189 = .ok (.iload_n 2, 1) := by decide +kernel
theorem d_MD_validStep_190 : decode b_MD_validStep 190 = .ok (.istore_n 3, 1) := by decide +kernel
theorem d_MD_validStep_191 : decode b_MD_validStep 191 = .ok (.iload_n 1, 1) := by decide +kernel
theorem d_MD_validStep_192 : decode b_MD_validStep 192 = .ok (.iconst 4, 1) := by decide +kernel
theorem d_MD_validStep_193 : decode b_MD_validStep 193 = .ok (.if_icmp .ne 10, 3) := by decide +kernel
theorem d_MD_validStep_196 : decode b_MD_validStep 196 = .ok (.aload_n 0, 1) := by decide +kernel
theorem d_MD_validStep_197 : decode b_MD_validStep 197 = .ok (.bipush 127, 2) := by decide +kernel
theorem d_MD_validStep_199 : decode b_MD_validStep 199 = .ok (.invokevirtual 657, 3) := by decide +kernel
theorem d_MD_validStep_202 : decode b_MD_validStep 202 = .ok (.pop, 1) := by decide +kernel
theorem d_MD_validStep_203 : decode b_MD_validStep 203 = .ok (.aload_n 0, 1) := by decide +kernel
theorem d_MD_validStep_204 : decode b_MD_validStep 204 = .ok (.iload_n 1, 1) := by decide +kernel
theorem d_MD_validStep_205 : decode b_MD_validStep 205 = .ok (.iload_n 1, 1) := by decide +kernel
theorem d_MD_validStep_206 : decode b_MD_validStep 206 = .ok (.iconst 3, 1) := by decide +kernel
theorem d_MD_validStep_207 : decode b_MD_validStep 207 = .ok (.if_icmp .ne 7, 3) := by decide +kernel
theorem d_MD_validStep_210 : decode b_MD_validStep 210 = .ok (.iconst 0, 1) := by decide +kernel
theorem d_MD_validStep_211 : decode b_MD_validStep 211 = .ok (.goto 4, 3) := by decide +kernel
theorem d_MD_validStep_214 : decode b_MD_validStep 214 = .ok (.iload_n 3, 1) := by decide +kernel
theorem d_MD_validStep_215 : decode b_MD_validStep 215 = .ok (.iload_n 3, 1) := by decide +kernel
theorem d_MD_validStep_216 : decode b_MD_validStep 216 = .ok (.invokevirtual 671, 3) := by decide +kernel
theorem d_MD_validStep_219 : decode b_MD_validStep 219 = .ok (.goto 505, 3) := by decide +kernel
theorem d_MD_validStep_222 : decode b_MD_validStep 222 = .ok (.aload_n 0, 1) := by decide +kernel
theorem d_MD_validStep_223 : decode b_MD_validStep 223 = .ok (.aload_n 0, 1) := by decide +kernel
theorem d_MD_validStep_224 : decode b_MD_validStep 224 = .ok (.getfield 666, 3) := by decide +kernel
theorem d_MD_validStep_227 : decode b_MD_validStep 227 = .ok (.aload_n 0, 1) := by decide +kernel
theorem d_MD_validStep_228 : decode b_MD_validStep 228 = .ok (.getfield 651, 3) := by decide +kernel
theorem d_MD_validStep_231 : decode b_MD_validStep 231 = .ok (.iconst 1, 1) := by decide +kernel
theorem d_MD_validStep_232 : decode b_MD_validStep 232 = .ok (.isub, 1) := by decide +kernel
theorem d_MD_validStep_233 : decode b_MD_validStep 233 = .ok (.iaload, 1) := by decide +kernel
theorem d_MD_validStep_234 : decode b_MD_validStep 234 = .ok (.invokevirtual 675, 3) := by decide +kernel
theorem d_MD_validStep_237 : decode b_MD_validStep 237 = .ok (.aload_n 0, 1) := by decide +kernel
theorem d_MD_validStep_238 : decode b_MD_validStep 238 = .ok (.aload_n 0, 1) := by decide +kernel
theorem d_MD_validStep_239 : decode b_MD_validStep 239 = .ok (.getfield 645, 3) := by decide +kernel
theorem d_MD_validStep_242 : decode b_MD_validStep 242 = .ok (.aload_n 0, 1) := by decide +kernel
theorem d_MD_validStep_243 : decode b_MD_validStep 243 = .ok (.getfield 648, 3) := by decide +kernel
theorem d_MD_validStep_246 : decode b_MD_validStep 246 = .ok (.aload_n 0, 1) := by decide +kernel
theorem d_MD_validStep_247 : decode b_MD_validStep 247 = .ok (.getfield 651, 3) := by decide +kernel
theorem d_MD_validStep_250 : decode b_MD_validStep 250 = .ok (.iconst 1, 1) := by decide +kernel
theorem d_MD_validStep_251 : decode b_MD_validStep 251 = .ok (.isub, 1) := by decide +kernel
theorem d_MD_validStep_252 : decode b_MD_validStep 252 = .ok (.iaload, 1) := by decide +kernel
theorem d_MD_validStep_253 : decode b_MD_validStep 253 = .ok (.if_icmp .ne 7, 3) := by decide +kernel
theorem d_MD_validStep_256 : decode b_MD_validStep 256 = .ok (.iconst 1, 1) := by decide +kernel
theorem d_MD_validStep_257 : decode b_MD_validStep 257 = .ok (.goto 4, 3) := by decide +kernel
theorem d_MD_validStep_260 : decode b_MD_validStep 260 = .ok (.iconst 0, 1) := by decide +kernel
theorem d_MD_validStep_261 : decode b_MD_validStep 261 = .ok (.invokevirtual 630, 3) := by decide +kernel
theorem d_MD_validStep_264 : decode b_MD_validStep 264 = .ok (.aload_n 0, 1) := by decide +kernel
theorem d_MD_validStep_265 : decode b_MD_validStep 265 = .ok (.getfield 660, 3) := by decide +kernel
theorem d_MD_validStep_268 : decode b_MD_validStep 268 = .ok (.aload_n 0, 1) := by decide +kernel
theorem d_MD_validStep_269 : decode b_MD_validStep 269 = .ok (.getfield 651, 3) := by decide +kernel
theorem d_MD_validStep_272 : decode b_MD_validStep 272 = .ok (.iconst 1, 1) := by decide +kernel
theorem d_MD_validStep_273 : decode b_MD_validStep 273 = .ok (.isub, 1) := by decide +kernel
theorem d_MD_validStep_274 : decode b_MD_validStep 274 = .ok (.iconst 5, 1) := by decide +kernel
theorem d_MD_validStep_275 : decode b_MD_validStep 275 = .ok (.iastore, 1) := by decide +kernel
theorem d_MD_validStep_276 : decode b_MD_validStep 276 = .ok (.aload_n 0, 1) := by decide +kernel
theorem d_MD_validStep_277 : decode b_MD_validStep 277 = .ok (.getfield 654, 3) := by decide +kernel
theorem d_MD_validStep_280 : decode b_MD_validStep 280 = .ok (.aload_n 0, 1) := by decide +kernel
theorem d_MD_validStep_281 : decode b_MD_validStep 281 = .ok (.getfield 651, 3) := by decide +kernel
theorem d_MD_validStep_284 : decode b_MD_validStep 284 = .ok (.iconst 1, 1) := by decide +kernel
theorem d_MD_validStep_285 : decode b_MD_validStep 285 = .ok (.isub, 1) := by decide +kernel
theorem d_MD_validStep_286 : decode b_MD_validStep 286 = .ok (.iconst 0, 1) := by decide +kernel
theorem d_MD_validStep_287 : decode b_MD_validStep 287 = .ok (.bastore, 1) := by decide +kernel
theorem d_MD_validStep_288 : decode b_MD_validStep 288 = .ok (.goto 436, 3) := by decide +kernel
theorem d_MD_validStep_291 : decode b_MD_validStep 291 = .ok (.aload_n 0, 1) := by decide +kernel
theorem d_MD_validStep_292 : decode b_MD_validStep 292 = .ok (.aload_n 0, 1) := by decide +kernel
theorem d_MD_validStep_293 : decode b_MD_validStep 293 = .ok (.aload_n 0, 1) := by decide +kernel
theorem d_MD_validStep_294 : decode b_MD_validStep 294 = .ok (.invokevirtual 552, 3) := by decide +kernel
theorem d_MD_validStep_297 : decode b_MD_validStep 297 = .ok (.i2l, 1) := by decide +kernel
theorem d_MD_validStep_298 : decode b_MD_validStep 298 = .ok (.invokevirtual 687, 3) := by decide +kernel
theorem d_MD_validStep_301 : decode b_MD_validStep 301 = .ok (.invokevirtual 675, 3) := by decide +kernel
theorem d_MD_validStep_304 : decode b_MD_validStep 304 = .ok (.aload_n 0, 1) := by decide +kernel
theorem d_MD_validStep_305 : decode b_MD_validStep 305 = .ok (.invokevirtual 684, 3) := by decide +kernel
theorem d_MD_validStep_308 : decode b_MD_validStep 308 = .ok (.goto 416, 3) := by decide +kernel
theorem d_MD_validStep_311 : decode b_MD_validStep 311 = .ok (.aload_n 0, 1) := by decide +kernel
theorem d_MD_validStep_312 : decode b_MD_validStep 312 = .ok (.aload_n 0, 1) := by decide +kernel
theorem d_MD_validStep_313 : decode b_MD_validStep 313 = .ok (.invokevirtual 552, 3) := by decide +kernel
theorem d_MD_validStep_316 : decode b_MD_validStep 316 = .ok (.i2l, 1) := by decide +kernel
theorem d_MD_validStep_317 : decode b_MD_validStep 317 = .ok (.invokevirtual 687, 3) := by decide +kernel
theorem d_MD_validStep_320 : decode b_MD_validStep 320 = .ok (.istore 4, 2) := by decide +kernel
theorem d_MD_validStep_322 : decode b_MD_validStep 322 = .ok (.aload_n 0, 1) := by decide +kernel
theorem d_MD_validStep_323 : decode b_MD_validStep 323 = .ok (.bipush 127, 2) := by decide +kernel
theorem d_MD_validStep_325 : decode b_MD_validStep 325 = .ok (.invokevirtual 657, 3) := by decide +kernel
theorem d_MD_validStep_328 : decode b_MD_validStep 328 = .ok (.pop, 1) := by decide +kernel
theorem d_MD_validStep_329 : decode b_MD_validStep 329 = .ok (.aload_n 0, 1) := by decide +kernel
theorem d_MD_validStep_330 : decode b_MD_validStep 330 = .ok (.iload 4, 2) := by decide +kernel
theorem d_MD_validStep_332 : decode b_MD_validStep 332 = .ok (.invokevirtual 675, 3) := by decide +kernel
theorem d_MD_validStep_335 : decode b_MD_validStep 335 = .ok (.aload_n 0, 1) := by decide +kernel
theorem d_MD_validStep_336 : decode b_MD_validStep 336 = .ok (.iload 4, 2) := by decide +kernel
theorem d_MD_validStep_338 : decode b_MD_validStep 338 = .ok (.invokevirtual 678, 3) := by decide +kernel
theorem d_MD_validStep_341 : decode b_MD_validStep 341 = .ok (.goto 383, 3) := by decide +kernel
theorem d_MD_validStep_344 : decode b_MD_validStep 344 = .ok (.aload_n 0, 1) := by decide +kernel
theorem d_MD_validStep_345 : decode b_MD_validStep 345 = .ok (.invokevirtual 690, 3) := by decide +kernel
theorem d_MD_validStep_348 : decode b_MD_validStep 348 = .ok (.goto 376, 3) := by decide +kernel
theorem d_MD_validStep_351 : decode b_MD_validStep 351 = .ok (.aload_n 0, 1) := by decide +kernel
theorem d_MD_validStep_352 : decode b_MD_validStep 352 = .ok (.aload_n 0, 1) := by decide +kernel
theorem d_MD_validStep_353 : decode b_MD_validStep 353 = .ok (.getfield 666, 3) := by decide +kernel
theorem d_MD_validStep_356 : decode b_MD_validStep 356 = .ok (.iconst 0, 1) := by decide +kernel
theorem d_MD_validStep_357 : decode b_MD_validStep 357 = .ok (.iaload, 1) := by decide +kernel
theorem d_MD_validStep_358 : decode b_MD_validStep 358 = .ok (.invokevirtual 675, 3) := by decide +kernel
theorem d_MD_validStep_361 : decode b_MD_validStep 361 = .ok (.aload_n 0, 1) := by decide +kernel
theorem d_MD_validStep_362 : decode b_MD_validStep 362 = .ok (.invokevirtual 684, 3) := by decide +kernel
theorem d_MD_validStep_365 : decode b_MD_validStep 365 = .ok (.goto 359, 3) := by decide +kernel
theorem d_MD_validStep_368 : decode b_MD_validStep 368 = .ok (.aload_n 0, 1) := by decide +kernel
theorem d_MD_validStep_369 : decode b_MD_validStep 369 = .ok (.invokevirtual 552, 3) := by decide +kernel
theorem d_MD_validStep_372 : decode b_MD_validStep 372 = .ok (.istore 5, 2) := by decide +kernel
theorem d_MD_validStep_374 : decode b_MD_validStep 374 = .ok (.aload_n 0, 1) := by decide +kernel
theorem d_MD_validStep_375 : decode b_MD_validStep 375 = .ok (.iload 5, 2) := by decide +kernel
theorem d_MD_validStep_377 : decode b_MD_validStep 377 = .ok (.aload_n 0, 1) := by decide +kernel
theorem d_MD_validStep_378 : decode b_MD_validStep 378 = .ok (.getfield 492, 3) := by decide +kernel
theorem d_MD_validStep_381 : decode b_MD_validStep 381 = .ok (.getfield 513, 3) := by decide +kernel
theorem d_MD_validStep_384 : decode b_MD_validStep 384 = .ok (.if_icmp .ge 7, 3) := by decide +kernel
theorem d_MD_validStep_387 : decode b_MD_validStep 387 = .ok (.iconst 1, 1) := by decide +kernel
theorem d_MD_validStep_388 : decode b_MD_validStep 388 = .ok (.goto 4, 3) := by decide +kernel
theorem d_MD_validStep_391 : decode b_MD_validStep 391 = .ok (.iconst 0, 1) := by decide +kernel
theorem d_MD_validStep_392 : decode b_MD_validStep 392 = .ok (.invokevirtual 630, 3) := by decide +kernel
theorem d_MD_validStep_395 : decode b_MD_validStep 395 = .ok (.aload_n 0, 1) := by decide +kernel
theorem d_MD_validStep_396 : decode b_MD_validStep 396 = .ok (.getfield 492, 3) := by decide +kernel
theorem d_MD_validStep_399 : decode b_MD_validStep 399 = .ok (.getfield 533, 3) := by decide +kernel
theorem d_MD_validStep_402 : decode b_MD_validStep 402 = .ok (.aload_n 0, 1) := by decide +kernel
theorem d_MD_validStep_403 : decode b_MD_validStep 403 = .ok (.iload 5, 2) := by decide +kernel
theorem d_MD_validStep_405 : decode b_MD_validStep 405 = .ok (.invokevirtual 640, 3) := by decide +kernel
theorem d_MD_validStep_408 : decode b_MD_validStep 408 = .ok (.iaload, 1) := by decide +kernel
theorem d_MD_validStep_409 : decode b_MD_validStep 409 = .ok (.iconst 1, 1) := by decide +kernel
theorem d_MD_validStep_410 : decode b_MD_validStep 410 = .ok (.isub, 1) := by decide +kernel
theorem d_MD_validStep_411 : decode b_MD_validStep 411 = .ok (.istore 6, 2) := by decide +kernel
theorem d_MD_validStep_413 : decode b_MD_validStep 413 = .ok (.iload 6, 2) := by decide +kernel
theorem d_MD_validStep_415 : decode b_MD_validStep 415 = .ok (.ifCond .lt 31, 3) := by decide +kernel
theorem d_MD_validStep_418 : decode b_MD_validStep 418 = .ok (.aload_n 0, 1) := by decide +kernel
theorem d_MD_validStep_419 : decode b_MD_validStep 419 = .ok (.aload_n 0, 1) := by decide +kernel
theorem d_MD_validStep_420 : decode b_MD_validStep 420 = .ok (.getfield 492, 3) := by decide +kernel
theorem d_MD_validStep_423 : decode b_MD_validStep 423 = .ok (.getfield 538, 3) := by decide +kernel
theorem d_MD_validStep_426 : decode b_MD_validStep 426 = .ok (.aload_n 0, 1) := by decide +kernel
theorem d_MD_validStep_427 : decode b_MD_validStep 427 = .ok (.iload 5, 2) := by decide +kernel
theorem d_MD_validStep_429 : decode b_MD_validStep 429 = .ok (.invokevirtual 640, 3) := by decide +kernel
theorem d_MD_validStep_432 : decode b_MD_validStep 432 = .ok (.aaload, 1) := by decide +kernel
theorem d_MD_validStep_433 : decode b_MD_validStep 433 = .ok (.iload 6, 2) := by decide +kernel
theorem d_MD_validStep_435 : decode b_MD_validStep 435 = .ok (.iaload, 1) := by decide +kernel
theorem d_MD_validStep_436 : decode b_MD_validStep 436 = .ok (.invokevirtual 657, 3) := by decide +kernel
theorem d_MD_validStep_439 : decode b_MD_validStep 439 = .ok (.pop, 1) := by decide +kernel
theorem d_MD_validStep_440 : decode b_MD_validStep 440 = .ok (.iinc 6 (-1), 3) := by decide +kernel
theorem d_MD_validStep_443 : decode b_MD_validStep 443 = .ok (.goto (-30), 3) := by decide +kernel
theorem d_MD_validStep_446 : decode b_MD_validStep 446 = .ok (.aload_n 0, 1) := by decide +kernel
theorem d_MD_validStep_447 : decode b_MD_validStep 447 = .ok (.aload_n 0, 1) := by decide +kernel
theorem d_MD_validStep_448 : decode b_MD_validStep 448 = .ok (.getfield 492, 3) := by decide +kernel
theorem d_MD_validStep_451 : decode b_MD_validStep 451 = .ok (.getfield 545, 3) := by decide +kernel
theorem d_MD_validStep_454 : decode b_MD_validStep 454 = .ok (.aload_n 0, 1) := by decide +kernel
theorem d_MD_validStep_455 : decode b_MD_validStep 455 = .ok (.iload 5, 2) := by decide +kernel
theorem d_MD_validStep_457 : decode b_MD_validStep 457 = .ok (.invokevirtual 640, 3) := by decide +kernel
theorem d_MD_validStep_460 : decode b_MD_validStep 460 = .ok (.iaload, 1) := by decide +kernel
theorem d_MD_validStep_461 : decode b_MD_validStep 461 = .ok (.invokevirtual 678, 3) := by decide +kernel
theorem d_MD_validStep_464 : decode b_MD_validStep 464 = .ok (.goto 260, 3) := by decide +kernel
theorem d_MD_validStep_467 : decode b_MD_validStep 467 = .ok (.aload_n 0, 1) := by decide +kernel
theorem d_MD_validStep_468 : decode b_MD_validStep 468 = .ok (.iconst 0, 1) := by decide +kernel
theorem d_MD_validStep_469 : decode b_MD_validStep 469 = .ok (.invokevirtual 657, 3) := by decide +kernel
theorem d_MD_validStep_472 : decode b_MD_validStep 472 = .ok (.pop, 1) := by decide +kernel
theorem d_MD_validStep_473 : decode b_MD_validStep 473 = .ok (.goto 251, 3) := by decide +kernel
theorem d_MD_validStep_476 : decode b_MD_validStep 476 = .ok (.aload_n 0, 1) := by decide +kernel
theorem d_MD_validStep_477 : decode b_MD_validStep 477 = .ok (.bipush 127, 2) := by decide +kernel
theorem d_MD_validStep_479 : decode b_MD_validStep 479 = .ok (.invokevirtual 657, 3) := by decide +kernel
theorem d_MD_validStep_482 : decode b_MD_validStep 482 = .ok (.pop, 1) := by decide +kernel
theorem d_MD_validStep_483 : decode b_MD_validStep 483 = .ok (.aload_n 0, 1) := by decide +kernel
theorem d_MD_validStep_484 : decode b_MD_validStep 484 = .ok (.iconst 0, 1) := by decide +kernel
theorem d_MD_validStep_485 : decode b_MD_validStep 485 = .ok (.invokevirtual 657, 3) := by decide +kernel
theorem d_MD_validStep_488 : decode b_MD_validStep 488 = .ok (.istore 6, 2) := by decide +kernel
theorem d_MD_validStep_490 : decode b_MD_validStep 490 = .ok (.aload_n 0, 1) := by decide +kernel
theorem d_MD_validStep_491 : decode b_MD_validStep 491 = .ok (.iconst 0, 1) := by decide +kernel
theorem d_MD_validStep_492 : decode b_MD_validStep 492 = .ok (.invokevirtual 657, 3) := by decide +kernel
theorem d_MD_validStep_495 : decode b_MD_validStep 495 = .ok (.istore 7, 2) := by decide +kernel
theorem d_MD_validStep_497 : decode b_MD_validStep 497 = .ok (.aload_n 0, 1) := by decide +kernel
theorem d_MD_validStep_498 : decode b_MD_validStep 498 = .ok (.iload 6, 2) := by decide +kernel
theorem d_MD_validStep_500 : decode b_MD_validStep 500 = .ok (.iload 7, 2) := by decide +kernel
theorem d_MD_validStep_502 : decode b_MD_validStep 502 = .ok (.if_icmp .eq 15, 3) := by decide +kernel
theorem d_MD_validStep_505 : decode b_MD_validStep 505 = .ok (.iload 6, 2) := by decide +kernel
theorem d_MD_validStep_507 : decode b_MD_validStep 507 = .ok (.iconst (-1), 1) := by decide +kernel
theorem d_MD_validStep_508 : decode b_MD_validStep 508 = .ok (.if_icmp .eq 9, 3) := by decide +kernel
theorem d_MD_validStep_511 : decode b_MD_validStep 511 = .ok (.iload 7, 2) := by decide +kernel
theorem d_MD_validStep_513 : decode b_MD_validStep 513 = .ok (.iconst (-1), 1) := by decide +kernel
theorem d_MD_validStep_514 : decode b_MD_validStep 514 = .ok (.if_icmp .ne 7, 3) := by decide +kernel
theorem d_MD_validStep_517 : decode b_MD_validStep 517 = .ok (.iconst 1, 1) := by decide +kernel
theorem d_MD_validStep_518 : decode b_MD_validStep 518 = .ok (.goto 4, 3) := by decide +kernel
theorem d_MD_validStep_521 : decode b_MD_validStep 521 = .ok (.iconst 0, 1) := by decide +kernel
theorem d_MD_validStep_522 : decode b_MD_validStep 522 = .ok (.invokevirtual 630, 3) := by decide +kernel
theorem d_MD_validStep_525 : decode b_MD_validStep 525 = .ok (.aload_n 0, 1) := by decide +kernel
theorem d_MD_validStep_526 : decode b_MD_validStep 526 = .ok (.getfield 642, 3) := by decide +kernel
theorem d_MD_validStep_529 : decode b_MD_validStep 529 = .ok (.aload_n 0, 1) := by decide +kernel
theorem d_MD_validStep_530 : decode b_MD_validStep 530 = .ok (.getfield 645, 3) := by decide +kernel
theorem d_MD_validStep_533 : decode b_MD_validStep 533 = .ok (.iload 6, 2) := by decide +kernel
theorem d_MD_validStep_535 : decode b_MD_validStep 535 = .ok (.iconst (-1), 1) := by decide +kernel
theorem d_MD_validStep_536 : decode b_MD_validStep 536 = .ok (.if_icmp .ne 8, 3) := by decide +kernel
theorem d_MD_validStep_539 : decode b_MD_validStep 539 = .ok (.iload 7, 2) := by decide +kernel
theorem d_MD_validStep_541 : decode b_MD_validStep 541 = .ok (.goto 5, 3) := by decide +kernel
theorem d_MD_validStep_544 : decode b_MD_validStep 544 = .ok (.iload 6, 2) := by decide +kernel
theorem d_MD_validStep_546 : decode b_MD_validStep 546 = .ok (.iastore, 1) := by decide +kernel
theorem d_MD_validStep_547 : decode b_MD_validStep 547 = .ok (.aload_n 0, 1) := by decide +kernel
theorem d_MD_validStep_548 : decode b_MD_validStep 548 = .ok (.dup, 1) := by decide +kernel
theorem d_MD_validStep_549 : decode b_MD_validStep 549 = .ok (.getfield 645, 3) := by decide +kernel
theorem d_MD_validStep_552 : decode b_MD_validStep 552 = .ok (.iconst 1, 1) := by decide +kernel
theorem d_MD_validStep_553 : decode b_MD_validStep 553 = .ok (.iadd, 1) := by decide +kernel
theorem d_MD_validStep_554 : decode b_MD_validStep 554 = .ok (.putfield 645, 3) := by decide +kernel
theorem d_MD_validStep_557 : decode b_MD_validStep 557 = .ok (.goto 167, 3) := by decide +kernel
theorem d_MD_validStep_560 : decode b_MD_validStep 560 = .ok (.aload_n 0, 1) := by decide +kernel
theorem d_MD_validStep_561 : decode b_MD_validStep 561 = .ok (.aload_n 0, 1) := by decide +kernel
theorem d_MD_validStep_562 : decode b_MD_validStep 562 = .ok (.aload_n 0, 1) := by decide +kernel
theorem d_MD_validStep_563 : decode b_MD_validStep 563 = .ok (.getfield 669, 3) := by decide +kernel
theorem d_MD_validStep_566 : decode b_MD_validStep 566 = .ok (.aload_n 0, 1) := by decide +kernel
theorem d_MD_validStep_567 : decode b_MD_validStep 567 = .ok (.invokevirtual 552, 3) := by decide +kernel
theorem d_MD_validStep_570 : decode b_MD_validStep 570 = .ok (.i2l, 1) := by decide +kernel
theorem d_MD_validStep_571 : decode b_MD_validStep 571 = .ok (.invokevirtual 693, 3) := by decide +kernel
theorem d_MD_validStep_574 : decode b_MD_validStep 574 = .ok (.invokevirtual 678, 3) := by decide +kernel
theorem d_MD_validStep_577 : decode b_MD_validStep 577 = .ok (.goto 147, 3) := by decide +kernel
theorem d_MD_validStep_580 : decode b_MD_validStep 580 = .ok (.aload_n 0, 1) := by decide +kernel
theorem d_MD_validStep_581 : decode b_MD_validStep 581 = .ok (.aload_n 0, 1) := by decide +kernel
theorem d_MD_validStep_582 : decode b_MD_validStep 582 = .ok (.aload_n 0, 1) := by decide +kernel
theorem d_MD_validStep_583 : decode b_MD_validStep 583 = .ok (.getfield 669, 3) := by decide +kernel
theorem d_MD_validStep_586 : decode b_MD_validStep 586 = .ok (.aload_n 0, 1) := by decide +kernel
theorem d_MD_validStep_587 : decode b_MD_validStep 587 = .ok (.invokevirtual 552, 3) := by decide +kernel
theorem d_MD_validStep_590 : decode b_MD_validStep 590 = .ok (.i2l, 1) := by decide +kernel
theorem d_MD_validStep_591 : decode b_MD_validStep 591 = .ok (.invokevirtual 693, 3) := by decide +kernel
theorem d_MD_validStep_594 : decode b_MD_validStep 594 = .ok (.invokevirtual 657, 3) := by decide +kernel
theorem d_MD_validStep_597 : decode b_MD_validStep 597 = .ok (.pop, 1) := by decide +kernel
theorem d_MD_validStep_598 : decode b_MD_validStep 598 = .ok (.goto 126, 3) := by decide +kernel
theorem d_MD_validStep_601 : decode b_MD_validStep 601 = .ok (.aload_n 0, 1) := by decide +kernel
theorem d_MD_validStep_602 : decode b_MD_validStep 602 = .ok (.aload_n 0, 1) := by decide +kernel
theorem d_MD_validStep_603 : decode b_MD_validStep 603 = .ok (.getfield 669, 3) := by decide +kernel
theorem d_MD_validStep_606 : decode b_MD_validStep 606 = .ok (.aload_n 0, 1) := by decide +kernel
theorem d_MD_validStep_607 : decode b_MD_validStep 607 = .ok (.invokevirtual 552, 3) := by decide +kernel
theorem d_MD_validStep_610 : decode b_MD_validStep 610 = .ok (.i2l, 1) := by decide +kernel
theorem d_MD_validStep_611 : decode b_MD_validStep 611 = .ok (.invokevirtual 693, 3) := by decide +kernel
theorem d_MD_validStep_614 : decode b_MD_validStep 614 = .ok (.istore 8, 2) := by decide +kernel
theorem d_MD_validStep_616 : decode b_MD_validStep 616 = .ok (.aload_n 0, 1) := by decide +kernel
theorem d_MD_validStep_617 : decode b_MD_validStep 617 = .ok (.iload 8, 2) := by decide +kernel
theorem d_MD_validStep_619 : decode b_MD_validStep 619 = .ok (.invokevirtual 657, 3) := by decide +kernel
theorem d_MD_validStep_622 : decode b_MD_validStep 622 = .ok (.pop, 1) := by decide +kernel
theorem d_MD_validStep_623 : decode b_MD_validStep 623 = .ok (.aload_n 0, 1) := by decide +kernel
theorem d_MD_validStep_624 : decode b_MD_validStep 624 = .ok (.iload 8, 2) := by decide +kernel
theorem d_MD_validStep_626 : decode b_MD_validStep 626 = .ok (.invokevirtual 678, 3) := by decide +kernel
theorem d_MD_validStep_629 : decode b_MD_validStep 629 = .ok (.goto 95, 3) := by decide +kernel
theorem d_MD_validStep_632 : decode b_MD_validStep 632 = .ok (.aload_n 0, 1) := by decide +kernel
theorem d_MD_validStep_633 : decode b_MD_validStep 633 = .ok (.invokevirtual 552, 3) := by decide +kernel
theorem d_MD_validStep_636 : decode b_MD_validStep 636 = .ok (.istore 9, 2) := by decide +kernel
theorem d_MD_validStep_638 : decode b_MD_validStep 638 = .ok (.aload_n 0, 1) := by decide +kernel
theorem d_MD_validStep_639 : decode b_MD_validStep 639 = .ok (.iload 9, 2) := by decide +kernel
theorem d_MD_validStep_641 : decode b_MD_validStep 641 = .ok (.aload_n 0, 1) := by decide +kernel
theorem d_MD_validStep_642 : decode b_MD_validStep 642 = .ok (.getfield 492, 3) := by decide +kernel
theorem d_MD_validStep_645 : decode b_MD_validStep 645 = .ok (.getfield 522, 3) := by decide +kernel
theorem d_MD_validStep_648 : decode b_MD_validStep 648 = .ok (.if_icmp .ge 26, 3) := by decide +kernel
theorem d_MD_validStep_651 : decode b_MD_validStep 651 = .ok (.iload_n 1, 1) := by decide +kernel
theorem d_MD_validStep_652 : decode b_MD_validStep 652 = .ok (.bipush 35, 2) := by decide +kernel
theorem d_MD_validStep_654 : decode b_MD_validStep 654 = .ok (.if_icmp .eq 16, 3) := by decide +kernel
theorem d_MD_validStep_657 : decode b_MD_validStep 657 = .ok (.aload_n 0, 1) := by decide +kernel
theorem d_MD_validStep_658 : decode b_MD_validStep 658 = .ok (.getfield 492, 3) := by decide +kernel
theorem d_MD_validStep_661 : decode b_MD_validStep 661 = .ok (.getfield 586, 3) := by decide +kernel
theorem d_MD_validStep_664 : decode b_MD_validStep 664 = .ok (.iload 9, 2) := by decide +kernel
theorem d_MD_validStep_666 : decode b_MD_validStep 666 = .ok (.baload, 1) := by decide +kernel
theorem d_MD_validStep_667 : decode b_MD_validStep 667 = .ok (.ifCond .eq 7, 3) := by decide +kernel
theorem d_MD_validStep_670 : decode b_MD_validStep 670 = .ok (.iconst 1, 1) := by decide +kernel
theorem d_MD_validStep_671 : decode b_MD_validStep 671 = .ok (.goto 4, 3) := by decide +kernel
theorem d_MD_validStep_674 : decode b_MD_validStep 674 = .ok (.iconst 0, 1) := by decide +kernel
theorem d_MD_validStep_675 : decode b_MD_validStep 675 = .ok (.invokevirtual 630, 3) := by decide +kernel
theorem d_MD_validStep_678 : decode b_MD_validStep 678 = .ok (.iload_n 1, 1) := by decide +kernel
theorem d_MD_validStep_679 : decode b_MD_validStep 679 = .ok (.bipush 35, 2) := by decide +kernel
theorem d_MD_validStep_681 : decode b_MD_validStep 681 = .ok (.if_icmp .ne 20, 3) := by decide +kernel
theorem d_MD_validStep_684 : decode b_MD_validStep 684 = .ok (.aload_n 0, 1) := by decide +kernel
theorem d_MD_validStep_685 : decode b_MD_validStep 685 = .ok (.aload_n 0, 1) := by decide +kernel
theorem d_MD_validStep_686 : decode b_MD_validStep 686 = .ok (.getfield 492, 3) := by decide +kernel
theorem d_MD_validStep_689 : decode b_MD_validStep 689 = .ok (.getfield 585, 3) := by decide +kernel
theorem d_MD_validStep_692 : decode b_MD_validStep 692 = .ok (.iload 9, 2) := by decide +kernel
theorem d_MD_validStep_694 : decode b_MD_validStep 694 = .ok (.iaload, 1) := by decide +kernel
theorem d_MD_validStep_695 : decode b_MD_validStep 695 = .ok (.invokevirtual 678, 3) := by decide +kernel
theorem d_MD_validStep_698 : decode b_MD_validStep 698 = .ok (.goto 26, 3) := by decide +kernel
theorem d_MD_validStep_701 : decode b_MD_validStep 701 = .ok (.aload_n 0, 1) := by decide +kernel
theorem d_MD_validStep_702 : decode b_MD_validStep 702 = .ok (.aload_n 0, 1) := by decide +kernel
theorem d_MD_validStep_703 : decode b_MD_validStep 703 = .ok (.getfield 492, 3) := by decide +kernel
theorem d_MD_validStep_706 : decode b_MD_validStep 706 = .ok (.getfield 585, 3) := by decide +kernel
theorem d_MD_validStep_709 : decode b_MD_validStep 709 = .ok (.iload 9, 2) := by decide +kernel
theorem d_MD_validStep_711 : decode b_MD_validStep 711 = .ok (.iaload, 1) := by decide +kernel
theorem d_MD_validStep_712 : decode b_MD_validStep 712 = .ok (.invokevirtual 657, 3) := by decide +kernel
theorem d_MD_validStep_715 : decode b_MD_validStep 715 = .ok (.pop, 1) := by decide +kernel
theorem d_MD_validStep_716 : decode b_MD_validStep 716 = .ok (.goto 8, 3) := by decide +kernel
theorem d_MD_validStep_719 : decode b_MD_validStep 719 = .ok (.aload_n 0, 1) := by decide +kernel
theorem d_MD_validStep_720 : decode b_MD_validStep 720 = .ok (.iload_n 1, 1) := by decide +kernel
theorem d_MD_validStep_721 : decode b_MD_validStep 721 = .ok (.invokevirtual 697, 3) := by decide +kernel
theorem d_MD_validStep_724 : decode b_MD_validStep 724 = .ok (.return_, 1) := by decide +kernel
theorem kM_MD_671 : Cond.methodLink R_MD 671 y_MD_enter ∈ lw_g := in_g 2948 (by decide +kernel) rfl
theorem kV_MD_enter : Cond.instanceMethod y_MD_enter ∈ lw_g := in_g 2950 (by decide +kernel) rfl
theorem kS_MD_enter : Cond.selects R_MD y_MD_enter y_MD_enter ∈ lw_g := in_s 185 (by decide +kernel) rfl
theorem kM_MD_690 : Cond.methodLink R_MD 690 y_MD_validTable ∈ lw_g := in_g 2976 (by decide +kernel) rfl
theorem kV_MD_validTable : Cond.instanceMethod y_MD_validTable ∈ lw_g := in_g 2978 (by decide +kernel) rfl
theorem kS_MD_validTable : Cond.selects R_MD y_MD_validTable y_MD_validTable ∈ lw_g := in_s 192 (by decide +kernel) rfl
theorem kM_MD_693 : Cond.methodLink R_MD 693 y_MD_localType ∈ lw_g := in_g 2980 (by decide +kernel) rfl
theorem kV_MD_localType : Cond.instanceMethod y_MD_localType ∈ lw_g := in_g 2982 (by decide +kernel) rfl
theorem kS_MD_localType : Cond.selects R_MD y_MD_localType y_MD_localType ∈ lw_g := in_s 193 (by decide +kernel) rfl
theorem kM_MD_697 : Cond.methodLink R_MD 697 y_MD_validPlain ∈ lw_g := in_g 2984 (by decide +kernel) rfl
theorem kV_MD_validPlain : Cond.instanceMethod y_MD_validPlain ∈ lw_g := in_g 2986 (by decide +kernel) rfl
theorem kS_MD_validPlain : Cond.selects R_MD y_MD_validPlain y_MD_validPlain ∈ lw_g := in_s 194 (by decide +kernel) rfl
theorem kF_MD_669 : Cond.fieldLink R_MD 669 "WaferForgeModel" "function" "I" ∈ lw_g := in_g 1943 (by decide +kernel) rfl

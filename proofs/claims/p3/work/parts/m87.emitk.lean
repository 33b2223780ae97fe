/-! the reference: the code of statements, as a contract -/
abbrev stkW (N fc gc : Int) (gv tk : Nat → Int) (l : List ci) (bk lp : Nat) (gg c : Int) (b : Nat) : Prop := stk N fc gc gv tk l bk lp gg c b
def opn9 (f : Nat → va_E) (a : Nat) (k k2 : Int) : Prop := ∃ (op pl : Int32) (nm : Value) (v : Int64) (t : Int32) (p : Nat) (cnt ix gl : Int32), nP f a op pl nm v t p cnt ix gl ∧ (op.toInt = k ∨ op.toInt = k2)
abbrev b_MD_emit1 : ByteArray := prog_15_method_47_code
def y_MD_emit1 : MethodName := ⟨R_MD, "emit", "(LWaferForgeModel$N;II)V"⟩
abbrev w_MD_emit1 : List Cond := .code y_MD_emit1 b_MD_emit1 5 none :: lw_g
theorem kC_MD_emit1 : Cond.code y_MD_emit1 b_MD_emit1 5 none ∈ lw_g := in_g 2789 (by decide +kernel) rfl
theorem d_MD_emit1_0 : decode b_MD_emit1 0 = .ok (.aload_n 1, 1) := by decide +kernel
theorem d_MD_emit1_1 : decode b_MD_emit1 1 = .ok (.getfield 129, 3) := by decide +kernel
theorem d_MD_emit1_4 : decode b_MD_emit1 4 = .ok (.tableswitch 346 10 18 #[86, 86, 126, 197, 288, 288, 320, 346, 52], 52) := by decide +kernel
theorem d_MD_emit1_56 : decode b_MD_emit1 56 = .ok (.iconst 0, 1) := by decide +kernel
theorem d_MD_emit1_57 : decode b_MD_emit1 57 = .ok (.istore 4, 2) := by decide +kernel
theorem d_MD_emit1_59 : decode b_MD_emit1 59 = .ok (.iload 4, 2) := by decide +kernel
theorem d_MD_emit1_61 : decode b_MD_emit1 61 = .ok (.aload_n 1, 1) := by decide +kernel
theorem d_MD_emit1_62 : decode b_MD_emit1 62 = .ok (.getfield 300, 3) := by decide +kernel
theorem d_MD_emit1_65 : decode b_MD_emit1 65 = .ok (.if_icmp .ge 22, 3) := by decide +kernel
theorem d_MD_emit1_68 : decode b_MD_emit1 68 = .ok (.aload_n 0, 1) := by decide +kernel
theorem d_MD_emit1_69 : decode b_MD_emit1 69 = .ok (.aload_n 1, 1) := by decide +kernel
theorem d_MD_emit1_70 : decode b_MD_emit1 70 = .ok (.getfield 331, 3) := by decide +kernel
theorem d_MD_emit1_73 : decode b_MD_emit1 73 = .ok (.iload 4, 2) := by decide +kernel
theorem d_MD_emit1_75 : decode b_MD_emit1 75 = .ok (.aaload, 1) := by decide +kernel
theorem d_MD_emit1_76 : decode b_MD_emit1 76 = .ok (.iload_n 2, 1) := by decide +kernel
theorem d_MD_emit1_77 : decode b_MD_emit1 77 = .ok (.iload_n 3, 1) := by decide +kernel
theorem d_MD_emit1_78 : decode b_MD_emit1 78 = .ok (.invokevirtual 440, 3) := by decide +kernel
theorem d_MD_emit1_81 : decode b_MD_emit1 81 = .ok (.iinc 4 1, 3) := by decide +kernel
theorem d_MD_emit1_84 : decode b_MD_emit1 84 = .ok (.goto (-25), 3) := by decide +kernel
theorem d_MD_emit1_87 : decode b_MD_emit1 87 = .ok (.goto 291, 3) := by decide +kernel
theorem d_MD_emit1_90 : decode b_MD_emit1 90 = .ok (.aload_n 0, 1) := by decide +kernel
theorem d_MD_emit1_91 : decode b_MD_emit1 91 = .ok (.aload_n 1, 1) := by decide +kernel
theorem d_MD_emit1_92 : decode b_MD_emit1 92 = .ok (.getfield 331, 3) := by decide +kernel
theorem d_MD_emit1_95 : decode b_MD_emit1 95 = .ok (.iconst 0, 1) := by decide +kernel
theorem d_MD_emit1_96 : decode b_MD_emit1 96 = .ok (.aaload, 1) := by decide +kernel
theorem d_MD_emit1_97 : decode b_MD_emit1 97 = .ok (.invokevirtual 444, 3) := by decide +kernel
theorem d_MD_emit1_100 : decode b_MD_emit1 100 = .ok (.aload_n 0, 1) := by decide +kernel
theorem d_MD_emit1_101 : decode b_MD_emit1 101 = .ok (.aload_n 1, 1) := by decide +kernel
theorem d_MD_emit1_102 : decode b_MD_emit1 102 = .ok (.getfield 328, 3) := by decide +kernel
theorem d_MD_emit1_105 : decode b_MD_emit1 105 = .ok (.ifCond .eq 8, 3) := by decide +kernel
theorem d_MD_emit1_108 : decode b_MD_emit1 108 = .ok (.bipush 36, 2) := by decide +kernel
theorem d_MD_emit1_110 : decode b_MD_emit1 110 = .ok (.goto 5, 3) := by decide +kernel
theorem d_MD_emit1_113 : decode b_MD_emit1 113 = .ok (.bipush 33, 2) := by decide +kernel
theorem d_MD_emit1_115 : decode b_MD_emit1 115 = .ok (.invokevirtual 398, 3) := by decide +kernel
theorem d_MD_emit1_118 : decode b_MD_emit1 118 = .ok (.aload_n 0, 1) := by decide +kernel
theorem d_MD_emit1_119 : decode b_MD_emit1 119 = .ok (.aload_n 1, 1) := by decide +kernel
theorem d_MD_emit1_120 : decode b_MD_emit1 120 = .ok (.getfield 325, 3) := by decide +kernel
theorem d_MD_emit1_123 : decode b_MD_emit1 123 = .ok (.i2l, 1) := by decide +kernel
theorem d_MD_emit1_124 : decode b_MD_emit1 124 = .ok (.invokevirtual 409, 3) := by decide +kernel
theorem d_MD_emit1_127 : decode b_MD_emit1 127 = .ok (.goto 251, 3) := by decide +kernel
theorem d_MD_emit1_130 : decode b_MD_emit1 130 = .ok (.aload_n 0, 1) := by decide +kernel
theorem d_MD_emit1_131 : decode b_MD_emit1 131 = .ok (.aload_n 1, 1) := by decide +kernel
theorem d_MD_emit1_132 : decode b_MD_emit1 132 = .ok (.getfield 331, 3) := by decide +kernel
theorem d_MD_emit1_135 : decode b_MD_emit1 135 = .ok (.iconst 0, 1) := by decide +kernel
theorem d_MD_emit1_136 : decode b_MD_emit1 136 = .ok (.aaload, 1) := by decide +kernel
theorem d_MD_emit1_137 : decode b_MD_emit1 137 = .ok (.invokevirtual 444, 3) := by decide +kernel
theorem d_MD_emit1_140 : decode b_MD_emit1 140 = .ok (.aload_n 0, 1) := by decide +kernel
theorem d_MD_emit1_141 : decode b_MD_emit1 141 = .ok (.iconst 4, 1) := by decide +kernel
theorem d_MD_emit1_142 : decode b_MD_emit1 142 = .ok (.invokevirtual 398, 3) := by decide +kernel
theorem d_MD_emit1_145 : decode b_MD_emit1 145 = .ok (.aload_n 0, 1) := by decide +kernel
theorem d_MD_emit1_146 : decode b_MD_emit1 146 = .ok (.bipush 64, 2) := by decide +kernel
theorem d_MD_emit1_148 : decode b_MD_emit1 148 = .ok (.invokevirtual 398, 3) := by decide +kernel
theorem d_MD_emit1_151 : decode b_MD_emit1 151 = .ok (.aload_n 0, 1) := by decide +kernel
theorem d_MD_emit1_152 : decode b_MD_emit1 152 = .ok (.aload_n 1, 1) := by decide +kernel
theorem d_MD_emit1_153 : decode b_MD_emit1 153 = .ok (.getfield 331, 3) := by decide +kernel
theorem d_MD_emit1_156 : decode b_MD_emit1 156 = .ok (.iconst 1, 1) := by decide +kernel
theorem d_MD_emit1_157 : decode b_MD_emit1 157 = .ok (.aaload, 1) := by decide +kernel
theorem d_MD_emit1_158 : decode b_MD_emit1 158 = .ok (.iload_n 2, 1) := by decide +kernel
theorem d_MD_emit1_159 : decode b_MD_emit1 159 = .ok (.iconst 1, 1) := by decide +kernel
theorem d_MD_emit1_160 : decode b_MD_emit1 160 = .ok (.iadd, 1) := by decide +kernel
theorem d_MD_emit1_161 : decode b_MD_emit1 161 = .ok (.iload_n 3, 1) := by decide +kernel
theorem d_MD_emit1_162 : decode b_MD_emit1 162 = .ok (.invokevirtual 440, 3) := by decide +kernel
theorem d_MD_emit1_165 : decode b_MD_emit1 165 = .ok (.aload_n 1, 1) := by decide +kernel
theorem d_MD_emit1_166 : decode b_MD_emit1 166 = .ok (.getfield 300, 3) := by decide +kernel
theorem d_MD_emit1_169 : decode b_MD_emit1 169 = .ok (.iconst 2, 1) := by decide +kernel
theorem d_MD_emit1_170 : decode b_MD_emit1 170 = .ok (.if_icmp .le 22, 3) := by decide +kernel
theorem d_MD_emit1_173 : decode b_MD_emit1 173 = .ok (.aload_n 0, 1) := by decide +kernel
theorem d_MD_emit1_174 : decode b_MD_emit1 174 = .ok (.iconst 5, 1) := by decide +kernel
theorem d_MD_emit1_175 : decode b_MD_emit1 175 = .ok (.invokevirtual 398, 3) := by decide +kernel
theorem d_MD_emit1_178 : decode b_MD_emit1 178 = .ok (.aload_n 0, 1) := by decide +kernel
theorem d_MD_emit1_179 : decode b_MD_emit1 179 = .ok (.aload_n 1, 1) := by decide +kernel
theorem d_MD_emit1_180 : decode b_MD_emit1 180 = .ok (.getfield 331, 3) := by decide +kernel
theorem d_MD_emit1_183 : decode b_MD_emit1 183 = .ok (.iconst 2, 1) := by decide +kernel
theorem d_MD_emit1_184 : decode b_MD_emit1 184 = .ok (.aaload, 1) := by decide +kernel
theorem d_MD_emit1_185 : decode b_MD_emit1 185 = .ok (.iload_n 2, 1) := by decide +kernel
theorem d_MD_emit1_186 : decode b_MD_emit1 186 = .ok (.iconst 1, 1) := by decide +kernel
theorem d_MD_emit1_187 : decode b_MD_emit1 187 = .ok (.iadd, 1) := by decide +kernel
theorem d_MD_emit1_188 : decode b_MD_emit1 188 = .ok (.iload_n 3, 1) := by decide +kernel
theorem d_MD_emit1_189 : decode b_MD_emit1 189 = .ok (.invokevirtual 440, 3) := by decide +kernel
theorem d_MD_emit1_192 : decode b_MD_emit1 192 = .ok (.aload_n 0, 1) := by decide +kernel
theorem d_MD_emit1_193 : decode b_MD_emit1 193 = .ok (.bipush 11, 2) := by decide +kernel
theorem d_MD_emit1_195 : decode b_MD_emit1 195 = .ok (.invokevirtual 398, 3) := by decide +kernel
theorem d_MD_emit1_198 : decode b_MD_emit1 198 = .ok (.goto 180, 3) := by decide +kernel
theorem d_MD_emit1_201 : decode b_MD_emit1 201 = .ok (.aload_n 0, 1) := by decide +kernel
theorem d_MD_emit1_202 : decode b_MD_emit1 202 = .ok (.iconst 2, 1) := by decide +kernel
theorem d_MD_emit1_203 : decode b_MD_emit1 203 = .ok (.invokevirtual 398, 3) := by decide +kernel
theorem d_MD_emit1_206 : decode b_MD_emit1 206 = .ok (.aload_n 0, 1) := by decide +kernel
theorem d_MD_emit1_207 : decode b_MD_emit1 207 = .ok (.bipush 64, 2) := by decide +kernel
theorem d_MD_emit1_209 : decode b_MD_emit1 209 = .ok (.invokevirtual 398, 3) := by decide +kernel
theorem d_MD_emit1_212 : decode b_MD_emit1 212 = .ok (.aload_n 0, 1) := by decide +kernel
theorem d_MD_emit1_213 : decode b_MD_emit1 213 = .ok (.iconst 3, 1) := by decide +kernel
theorem d_MD_emit1_214 : decode b_MD_emit1 214 = .ok (.invokevirtual 398, 3) := by decide +kernel
theorem d_MD_emit1_217 : decode b_MD_emit1 217 = .ok (.aload_n 0, 1) := by decide +kernel
theorem d_MD_emit1_218 : decode b_MD_emit1 218 = .ok (.bipush 64, 2) := by decide +kernel
theorem d_MD_emit1_220 : decode b_MD_emit1 220 = .ok (.invokevirtual 398, 3) := by decide +kernel
theorem d_MD_emit1_223 : decode b_MD_emit1 223 = .ok (.aload_n 0, 1) := by decide +kernel
theorem d_MD_emit1_224 : decode b_MD_emit1 224 = .ok (.aload_n 1, 1) := by decide +kernel
theorem d_MD_emit1_225 : decode b_MD_emit1 225 = .ok (.getfield 331, 3) := by decide +kernel
theorem d_MD_emit1_228 : decode b_MD_emit1 228 = .ok (.iconst 0, 1) := by decide +kernel
theorem d_MD_emit1_229 : decode b_MD_emit1 229 = .ok (.aaload, 1) := by decide +kernel
theorem d_MD_emit1_230 : decode b_MD_emit1 230 = .ok (.invokevirtual 444, 3) := by decide +kernel
theorem d_MD_emit1_233 : decode b_MD_emit1 233 = .ok (.aload_n 0, 1) := by decide +kernel
theorem d_MD_emit1_234 : decode b_MD_emit1 234 = .ok (.bipush 69, 2) := by decide +kernel
theorem d_MD_emit1_236 : decode b_MD_emit1 236 = .ok (.invokevirtual 398, 3) := by decide +kernel
theorem d_MD_emit1_239 : decode b_MD_emit1 239 = .ok (.aload_n 0, 1) := by decide +kernel
theorem d_MD_emit1_240 : decode b_MD_emit1 240 = .ok (.bipush 13, 2) := by decide +kernel
theorem d_MD_emit1_242 : decode b_MD_emit1 242 = .ok (.invokevirtual 398, 3) := by decide +kernel
theorem d_MD_emit1_245 : decode b_MD_emit1 245 = .ok (.aload_n 0, 1) := by decide +kernel
theorem d_MD_emit1_246 : decode b_MD_emit1 246 = .ok (.iconst 1, 1) := by decide +kernel
theorem d_MD_emit1_247 : decode b_MD_emit1 247 = .ok (.invokevirtual 398, 3) := by decide +kernel
theorem d_MD_emit1_250 : decode b_MD_emit1 250 = .ok (.aload_n 0, 1) := by decide +kernel
theorem d_MD_emit1_251 : decode b_MD_emit1 251 = .ok (.aload_n 1, 1) := by decide +kernel
theorem d_MD_emit1_252 : decode b_MD_emit1 252 = .ok (.getfield 331, 3) := by decide +kernel
theorem d_MD_emit1_255 : decode b_MD_emit1 255 = .ok (.iconst 1, 1) := by decide +kernel
theorem d_MD_emit1_256 : decode b_MD_emit1 256 = .ok (.aaload, 1) := by decide +kernel
theorem d_MD_emit1_257 : decode b_MD_emit1 257 = .ok (.iload_n 2, 1) := by decide +kernel
theorem d_MD_emit1_258 : decode b_MD_emit1 258 = .ok (.iconst 2, 1) := by decide +kernel
theorem d_MD_emit1_259 : decode b_MD_emit1 259 = .ok (.iadd, 1) := by decide +kernel
theorem d_MD_emit1_260 : decode b_MD_emit1 260 = .ok (.iload_n 2, 1) := by decide +kernel
theorem d_MD_emit1_261 : decode b_MD_emit1 261 = .ok (.iconst 2, 1) := by decide +kernel
theorem d_MD_emit1_262 : decode b_MD_emit1 262 = .ok (.iadd, 1) := by decide +kernel
theorem d_MD_emit1_263 : decode b_MD_emit1 263 = .ok (.invokevirtual 440, 3) := by decide +kernel
theorem d_MD_emit1_266 : decode b_MD_emit1 266 = .ok (.aload_n 0, 1) := by decide +kernel
theorem d_MD_emit1_267 : decode b_MD_emit1 267 = .ok (.bipush 12, 2) := by decide +kernel
theorem d_MD_emit1_269 : decode b_MD_emit1 269 = .ok (.invokevirtual 398, 3) := by decide +kernel
theorem d_MD_emit1_272 : decode b_MD_emit1 272 = .ok (.aload_n 0, 1) := by decide +kernel
theorem d_MD_emit1_273 : decode b_MD_emit1 273 = .ok (.iconst 0, 1) := by decide +kernel
theorem d_MD_emit1_274 : decode b_MD_emit1 274 = .ok (.invokevirtual 398, 3) := by decide +kernel
theorem d_MD_emit1_277 : decode b_MD_emit1 277 = .ok (.aload_n 0, 1) := by decide +kernel
theorem d_MD_emit1_278 : decode b_MD_emit1 278 = .ok (.bipush 11, 2) := by decide +kernel
theorem d_MD_emit1_280 : decode b_MD_emit1 280 = .ok (.invokevirtual 398, 3) := by decide +kernel
theorem d_MD_emit1_283 : decode b_MD_emit1 283 = .ok (.aload_n 0, 1) := by decide +kernel
theorem d_MD_emit1_284 : decode b_MD_emit1 284 = .ok (.bipush 11, 2) := by decide +kernel
theorem d_MD_emit1_286 : decode b_MD_emit1 286 = .ok (.invokevirtual 398, 3) := by decide +kernel
theorem d_MD_emit1_289 : decode b_MD_emit1 289 = .ok (.goto 89, 3) := by decide +kernel
theorem d_MD_emit1_292 : decode b_MD_emit1 292 = .ok (.aload_n 0, 1) := by decide +kernel
theorem d_MD_emit1_293 : decode b_MD_emit1 293 = .ok (.bipush 12, 2) := by decide +kernel
theorem d_MD_emit1_295 : decode b_MD_emit1 295 = .ok (.invokevirtual 398, 3) := by decide +kernel
theorem d_MD_emit1_298 : decode b_MD_emit1 298 = .ok (.aload_n 0, 1) := by decide +kernel
theorem d_MD_emit1_299 : decode b_MD_emit1 299 = .ok (.iload_n 2, 1) := by decide +kernel
theorem d_MD_emit1_300 : decode b_MD_emit1 300 = .ok (.iload_n 3, 1) := by decide +kernel
theorem d_MD_emit1_301 : decode b_MD_emit1 301 = .ok (.isub, 1) := by decide +kernel
theorem d_MD_emit1_302 : decode b_MD_emit1 302 = .ok (.aload_n 1, 1) := by decide +kernel
theorem d_MD_emit1_303 : decode b_MD_emit1 303 = .ok (.getfield 129, 3) := by decide +kernel
theorem d_MD_emit1_306 : decode b_MD_emit1 306 = .ok (.bipush 14, 2) := by decide +kernel
theorem d_MD_emit1_308 : decode b_MD_emit1 308 = .ok (.if_icmp .ne 7, 3) := by decide +kernel
theorem d_MD_emit1_311 : decode b_MD_emit1 311 = .ok (.iconst 1, 1) := by decide +kernel
theorem d_MD_emit1_312 : decode b_MD_emit1 312 = .ok (.goto 4, 3) := by decide +kernel
theorem d_MD_emit1_315 : decode b_MD_emit1 315 = .ok (.iconst 0, 1) := by decide +kernel
theorem d_MD_emit1_316 : decode b_MD_emit1 316 = .ok (.iadd, 1) := by decide +kernel
theorem d_MD_emit1_317 : decode b_MD_emit1 317 = .ok (.i2l, 1) := by decide +kernel
theorem d_MD_emit1_318 : decode b_MD_emit1 318 = .ok (.invokevirtual 409, 3) := by decide +kernel
theorem d_MD_emit1_321 : decode b_MD_emit1 321 = .ok (.goto 57, 3) := by decide +kernel
theorem d_MD_emit1_324 : decode b_MD_emit1 324 = .ok (.aload_n 1, 1) := by decide +kernel
theorem d_MD_emit1_325 : decode b_MD_emit1 325 = .ok (.getfield 300, 3) := by decide +kernel
theorem d_MD_emit1_328 : decode b_MD_emit1 328 = .ok (.ifCond .le 13, 3) := by decide +kernel
theorem d_MD_emit1_331 : decode b_MD_emit1 331 = .ok (.aload_n 0, 1) := by decide +kernel
theorem d_MD_emit1_332 : decode b_MD_emit1 332 = .ok (.aload_n 1, 1) := by decide +kernel
theorem d_MD_emit1_333 : decode b_MD_emit1 333 = .ok (.getfield 331, 3) := by decide +kernel
theorem d_MD_emit1_336 : decode b_MD_emit1 336 = .ok (.iconst 0, 1) := by decide +kernel
theorem d_MD_emit1_337 : decode b_MD_emit1 337 = .ok (.aaload, 1) := by decide +kernel
theorem d_MD_emit1_338 : decode b_MD_emit1 338 = .ok (.invokevirtual 444, 3) := by decide +kernel
theorem d_MD_emit1_341 : decode b_MD_emit1 341 = .ok (.aload_n 0, 1) := by decide +kernel
theorem d_MD_emit1_342 : decode b_MD_emit1 342 = .ok (.bipush 15, 2) := by decide +kernel
theorem d_MD_emit1_344 : decode b_MD_emit1 344 = .ok (.invokevirtual 398, 3) := by decide +kernel
theorem d_MD_emit1_347 : decode b_MD_emit1 347 = .ok (.goto 31, 3) := by decide +kernel
theorem d_MD_emit1_350 : decode b_MD_emit1 350 = .ok (.aload_n 0, 1) := by decide +kernel
theorem d_MD_emit1_351 : decode b_MD_emit1 351 = .ok (.aload_n 1, 1) := by decide +kernel
theorem d_MD_emit1_352 : decode b_MD_emit1 352 = .ok (.getfield 331, 3) := by decide +kernel
theorem d_MD_emit1_355 : decode b_MD_emit1 355 = .ok (.iconst 0, 1) := by decide +kernel
theorem d_MD_emit1_356 : decode b_MD_emit1 356 = .ok (.aaload, 1) := by decide +kernel
theorem d_MD_emit1_357 : decode b_MD_emit1 357 = .ok (.invokevirtual 444, 3) := by decide +kernel
theorem d_MD_emit1_360 : decode b_MD_emit1 360 = .ok (.aload_n 1, 1) := by decide +kernel
theorem d_MD_emit1_361 : decode b_MD_emit1 361 = .ok (.getfield 331, 3) := by decide +kernel
theorem d_MD_emit1_364 : decode b_MD_emit1 364 = .ok (.iconst 0, 1) := by decide +kernel
theorem d_MD_emit1_365 : decode b_MD_emit1 365 = .ok (.aaload, 1) := by decide +kernel
theorem d_MD_emit1_366 : decode b_MD_emit1 366 = .ok (.getfield 259, 3) := by decide +kernel
theorem d_MD_emit1_369 : decode b_MD_emit1 369 = .ok (.ifCond .eq 9, 3) := by decide +kernel
theorem d_MD_emit1_372 : decode b_MD_emit1 372 = .ok (.aload_n 0, 1) := by decide +kernel
theorem d_MD_emit1_373 : decode b_MD_emit1 373 = .ok (.bipush 26, 2) := by decide +kernel
theorem d_MD_emit1_375 : decode b_MD_emit1 375 = .ok (.invokevirtual 398, 3) := by decide +kernel
theorem d_MD_emit1_378 : decode b_MD_emit1 378 = .ok (.return_, 1) := by decide +kernel
theorem kM_MD_440 : Cond.methodLink R_MD 440 y_MD_emit1 ∈ lw_g := in_g 2786 (by decide +kernel) rfl
theorem kV_MD_emit1 : Cond.instanceMethod y_MD_emit1 ∈ lw_g := in_g 2788 (by decide +kernel) rfl
theorem kS_MD_emit1 : Cond.selects R_MD y_MD_emit1 y_MD_emit1 ∈ lw_g := in_s 161 (by decide +kernel) rfl
abbrev at_MD_emit1 (dC : Nat → ClassId) (dI : Nat → Nat → Nat) (sz szl : Nat) (sa : Nat → Nat) (h0 rf tap h0_globalNames_r h0_globalPlaces_r h0_globalTypes_r h0_globalValues_r h0_funs_r h0_levels_r h0_known_r mad mag sml grt h0_module_r h0_spare_r blk stk hgt lab ous kis los mem glo val ffu fre fba fla lat lhe rsl arg : Nat) (cmad csml cgrt cr cpn cpb : ClassId) (h0_taped : Int32) (h0_length : Int32) (h0_kind : Int32) (h0_from : Int32) (h0_to : Int32) (h0_word : Value) (h0_numeral : Int64) (h0_globalCount : Int32) (h0_funCount : Int32) (h0_open : Int32) (h0_signs : Int32) (h0_now : Value) (h0_knownCount : Int32) (h0_loops : Int32) (h0_m : Value) (h0_cursor : Int32) (h0_limit : Int32) (h0_top : Int32) (h0_depth : Int32) (h0_function : Int32) (h0_pages : Int32) (h0_valueTop : Int32) (h0_frames : Int32) (h0_labelTop : Int32) (h0_steps : Int32) (h0_there : Int32) (h0_resultLength : Int32) (h0_reason : Int32) (h0_place : Int32) (h0_argumentCount : Int32) (h0_code : Int32) (gsml : Nat → Int32) (ggrt : Nat → Int32) (LP : List Nat) (A : Nat → Prop) (u : (Nat → Int32) × Int32 × Nat × Nat × (Nat → va_E)) (t : State) : Prop := match u with | (gmad, h0_madeLength, kcz, knz, fP) => va_P (dC, dI) cls2 ([(h0, .inr (11, (.ref rf :: .ref tap :: .int h0_taped :: .int h0_length :: .int h0_kind :: .int h0_from :: .int h0_to :: h0_word :: .long h0_numeral :: .ref h0_globalNames_r :: .ref h0_globalPlaces_r :: .ref h0_globalTypes_r :: .ref h0_globalValues_r :: .int h0_globalCount :: .ref h0_funs_r :: .int h0_funCount :: .int h0_open :: .int h0_signs :: .ref h0_levels_r :: h0_now :: .ref h0_known_r :: .int h0_knownCount :: .int h0_loops :: .ref mad :: .int h0_madeLength :: .ref mag :: .ref sml :: .ref grt :: .ref h0_module_r :: .ref h0_spare_r :: h0_m :: .int h0_cursor :: .int h0_limit :: [ .ref blk, .ref stk, .int h0_top, .ref hgt, .ref lab, .ref ous, .ref kis, .ref los, .int h0_depth, .int h0_function, .ref mem, .int h0_pages, .ref glo, .ref val, .int h0_valueTop, .ref ffu, .ref fre, .ref fba, .ref fla, .int h0_frames, .ref lat, .ref lhe, .int h0_labelTop, .int h0_steps, .int h0_there, .ref rsl, .int h0_resultLength, .int h0_reason, .int h0_place, .ref arg, .int h0_argumentCount, .int h0_code]))), (mad, .inl (cmad, 32768, .inl gmad)), (sml, .inl (csml, 17, .inl gsml)), (grt, .inl (cgrt, 17, .inl ggrt))] ++ va_pl LP fP) t.heap ∧ va_K (dC, dI) cls2 [(cmad, .byte), (csml, .int), (cgrt, .int), (cr, .int), (cpn, .object "WaferForgeModel$N"), (cpb, .byte)] t ∧ va_D A ([(h0, .inr (11, (.ref rf :: .ref tap :: .int h0_taped :: .int h0_length :: .int h0_kind :: .int h0_from :: .int h0_to :: h0_word :: .long h0_numeral :: .ref h0_globalNames_r :: .ref h0_globalPlaces_r :: .ref h0_globalTypes_r :: .ref h0_globalValues_r :: .int h0_globalCount :: .ref h0_funs_r :: .int h0_funCount :: .int h0_open :: .int h0_signs :: .ref h0_levels_r :: h0_now :: .ref h0_known_r :: .int h0_knownCount :: .int h0_loops :: .ref mad :: .int h0_madeLength :: .ref mag :: .ref sml :: .ref grt :: .ref h0_module_r :: .ref h0_spare_r :: h0_m :: .int h0_cursor :: .int h0_limit :: [ .ref blk, .ref stk, .int h0_top, .ref hgt, .ref lab, .ref ous, .ref kis, .ref los, .int h0_depth, .int h0_function, .ref mem, .int h0_pages, .ref glo, .ref val, .int h0_valueTop, .ref ffu, .ref fre, .ref fba, .ref fla, .int h0_frames, .ref lat, .ref lhe, .int h0_labelTop, .int h0_steps, .int h0_there, .ref rsl, .int h0_resultLength, .int h0_reason, .int h0_place, .ref arg, .int h0_argumentCount, .int h0_code]))), (mad, .inl (cmad, 32768, .inl gmad)), (sml, .inl (csml, 17, .inl gsml)), (grt, .inl (cgrt, 17, .inl ggrt))] ++ va_pl LP fP) ∧ t.heap.size ≤ sz + kcz ∧ hsl t.heap ≤ szl + knz
def k_MD_emit1 (l : Launch) (dep : Nat) : Prop := ∀ (dC : Nat → ClassId) (dI : Nat → Nat → Nat) (sz : Nat) (szl : Nat) (sa : Nat → Nat) (h0 rf tap h0_globalNames_r h0_globalPlaces_r h0_globalTypes_r h0_globalValues_r h0_funs_r h0_levels_r h0_known_r mad mag sml grt h0_module_r h0_spare_r blk stk hgt lab ous kis los mem glo val ffu fre fba fla lat lhe rsl arg : Nat) (cmad csml cgrt cr cpn cpb : ClassId) (h0_taped : Int32) (h0_length : Int32) (h0_kind : Int32) (h0_from : Int32) (h0_to : Int32) (h0_word : Value) (h0_numeral : Int64) (h0_globalCount : Int32) (h0_funCount : Int32) (h0_open : Int32) (h0_signs : Int32) (h0_now : Value) (h0_knownCount : Int32) (h0_loops : Int32) (h0_madeLength : Int32) (h0_m : Value) (h0_cursor : Int32) (h0_limit : Int32) (h0_top : Int32) (h0_depth : Int32) (h0_function : Int32) (h0_pages : Int32) (h0_valueTop : Int32) (h0_frames : Int32) (h0_labelTop : Int32) (h0_steps : Int32) (h0_there : Int32) (h0_resultLength : Int32) (h0_reason : Int32) (h0_place : Int32) (h0_argumentCount : Int32) (h0_code : Int32) (gmad : Nat → Int32) (gsml : Nat → Int32) (ggrt : Nat → Int32) (LP : List Nat) (fP : Nat → va_E) (gN : Int) (gfc : Int) (ggc : Int) (ggv : Nat → Int) (gtk : Nat → Int) (gg : Int) (gd : Nat) (gil : Bool) (gc : Int) (gb : Nat) (bk : Nat) (lp : Nat)  (b_h0_madeLength : 0 ≤ h0_madeLength.toInt ∧ h0_madeLength.toInt ≤ 32768) (b_gsml : ∀ j : Nat, (j < 17 → tw9 (gsml j))) (b_ggrt : ∀ j : Nat, (j < 17 → tw9 (ggrt j))) (po_na : Nat) (p2 : Int32) (p3 : Int32)  (hts_ : bx (ts LP fP cpn cpb gN gfc ggc ggv gtk gg gd gil po_na gc gb)) (hdp : gd < dep) (hm : 5 * h0_madeLength.toInt + gc ≤ 160000) (hgk : bx (∀ v : Nat, (v : Int) < gfc → 0 ≤ ggv v ∧ 0 ≤ gtk v)) (har : p2.toInt = (bk : Int) ∧ p3.toInt = (lp : Int) ∧ bk + gb ≤ 100 ∧ lp ≤ bk) (hil : bx (gil = true → lp ≠ 0)), Met l y_MD_emit1 w_MD_emit1 ({ frames := 3 * dep + 40, cells := gc.toNat, slots := 8 * gc.toNat, locals := 80 * dep + 520 }) (va_Pc [.ref h0, .ref po_na, .int p2, .int p3] (fun U => U.heap.size = sz ∧ va_P (dC, dI) cls2 ([(h0, .inr (11, (.ref rf :: .ref tap :: .int h0_taped :: .int h0_length :: .int h0_kind :: .int h0_from :: .int h0_to :: h0_word :: .long h0_numeral :: .ref h0_globalNames_r :: .ref h0_globalPlaces_r :: .ref h0_globalTypes_r :: .ref h0_globalValues_r :: .int h0_globalCount :: .ref h0_funs_r :: .int h0_funCount :: .int h0_open :: .int h0_signs :: .ref h0_levels_r :: h0_now :: .ref h0_known_r :: .int h0_knownCount :: .int h0_loops :: .ref mad :: .int h0_madeLength :: .ref mag :: .ref sml :: .ref grt :: .ref h0_module_r :: .ref h0_spare_r :: h0_m :: .int h0_cursor :: .int h0_limit :: [ .ref blk, .ref stk, .int h0_top, .ref hgt, .ref lab, .ref ous, .ref kis, .ref los, .int h0_depth, .int h0_function, .ref mem, .int h0_pages, .ref glo, .ref val, .int h0_valueTop, .ref ffu, .ref fre, .ref fba, .ref fla, .int h0_frames, .ref lat, .ref lhe, .int h0_labelTop, .int h0_steps, .int h0_there, .ref rsl, .int h0_resultLength, .int h0_reason, .int h0_place, .ref arg, .int h0_argumentCount, .int h0_code]))), (mad, .inl (cmad, 32768, .inl gmad)), (sml, .inl (csml, 17, .inl gsml)), (grt, .inl (cgrt, 17, .inl ggrt))] ++ va_pl LP fP) U.heap ∧ va_K (dC, dI) cls2 [(cmad, .byte), (csml, .int), (cgrt, .int), (cr, .int), (cpn, .object "WaferForgeModel$N"), (cpb, .byte)] U ∧ va_D (fun _ => True) ([(h0, .inr (11, (.ref rf :: .ref tap :: .int h0_taped :: .int h0_length :: .int h0_kind :: .int h0_from :: .int h0_to :: h0_word :: .long h0_numeral :: .ref h0_globalNames_r :: .ref h0_globalPlaces_r :: .ref h0_globalTypes_r :: .ref h0_globalValues_r :: .int h0_globalCount :: .ref h0_funs_r :: .int h0_funCount :: .int h0_open :: .int h0_signs :: .ref h0_levels_r :: h0_now :: .ref h0_known_r :: .int h0_knownCount :: .int h0_loops :: .ref mad :: .int h0_madeLength :: .ref mag :: .ref sml :: .ref grt :: .ref h0_module_r :: .ref h0_spare_r :: h0_m :: .int h0_cursor :: .int h0_limit :: [ .ref blk, .ref stk, .int h0_top, .ref hgt, .ref lab, .ref ous, .ref kis, .ref los, .int h0_depth, .int h0_function, .ref mem, .int h0_pages, .ref glo, .ref val, .int h0_valueTop, .ref ffu, .ref fre, .ref fba, .ref fla, .int h0_frames, .ref lat, .ref lhe, .int h0_labelTop, .int h0_steps, .int h0_there, .ref rsl, .int h0_resultLength, .int h0_reason, .int h0_place, .ref arg, .int h0_argumentCount, .int h0_code]))), (mad, .inl (cmad, 32768, .inl gmad)), (sml, .inl (csml, 17, .inl gsml)), (grt, .inl (cgrt, 17, .inl ggrt))] ++ va_pl LP fP) ∧ sm sa (va_A ([(h0, .inr (11, (.ref rf :: .ref tap :: .int h0_taped :: .int h0_length :: .int h0_kind :: .int h0_from :: .int h0_to :: h0_word :: .long h0_numeral :: .ref h0_globalNames_r :: .ref h0_globalPlaces_r :: .ref h0_globalTypes_r :: .ref h0_globalValues_r :: .int h0_globalCount :: .ref h0_funs_r :: .int h0_funCount :: .int h0_open :: .int h0_signs :: .ref h0_levels_r :: h0_now :: .ref h0_known_r :: .int h0_knownCount :: .int h0_loops :: .ref mad :: .int h0_madeLength :: .ref mag :: .ref sml :: .ref grt :: .ref h0_module_r :: .ref h0_spare_r :: h0_m :: .int h0_cursor :: .int h0_limit :: [ .ref blk, .ref stk, .int h0_top, .ref hgt, .ref lab, .ref ous, .ref kis, .ref los, .int h0_depth, .int h0_function, .ref mem, .int h0_pages, .ref glo, .ref val, .int h0_valueTop, .ref ffu, .ref fre, .ref fba, .ref fla, .int h0_frames, .ref lat, .ref lhe, .int h0_labelTop, .int h0_steps, .int h0_there, .ref rsl, .int h0_resultLength, .int h0_reason, .int h0_place, .ref arg, .int h0_argumentCount, .int h0_code]))), (mad, .inl (cmad, 32768, .inl gmad)), (sml, .inl (csml, 17, .inl gsml)), (grt, .inl (cgrt, 17, .inl ggrt))] ++ va_pl LP fP) sz) U U.heap ∧ hsl U.heap = szl)) (va_Qv (fun (u : (Nat → Int32) × Int32 × Nat × Nat × (Nat → va_E)) => match u with | (gmad2, h0_madeLength2, kcz2, knz2, fP2) => (0 ≤ h0_madeLength2.toInt ∧ h0_madeLength2.toInt ≤ 32768) ∧ ((∃ l : List ci, bl gmad2 h0_madeLength2.toNatClampNeg = bl gmad h0_madeLength.toNatClampNeg ++ enl l ∧ h0_madeLength2.toInt = h0_madeLength.toInt + ((enl l).length : Int) ∧ stkW gN gfc ggc ggv gtk l bk lp gg gc gb ∧ hsh fP fP2) ∧ kcz2 ≤ gc.toNat ∧ knz2 ≤ 8 * gc.toNat)) (at_MD_emit1 dC dI sz szl sa h0 rf tap h0_globalNames_r h0_globalPlaces_r h0_globalTypes_r h0_globalValues_r h0_funs_r h0_levels_r h0_known_r mad mag sml grt h0_module_r h0_spare_r blk stk hgt lab ous kis los mem glo val ffu fre fba fla lat lhe rsl arg cmad csml cgrt cr cpn cpb h0_taped h0_length h0_kind h0_from h0_to h0_word h0_numeral h0_globalCount h0_funCount h0_open h0_signs h0_now h0_knownCount h0_loops h0_m h0_cursor h0_limit h0_top h0_depth h0_function h0_pages h0_valueTop h0_frames h0_labelTop h0_steps h0_there h0_resultLength h0_reason h0_place h0_argumentCount h0_code gsml ggrt LP (va_A ([(h0, .inr (11, (.ref rf :: .ref tap :: .int h0_taped :: .int h0_length :: .int h0_kind :: .int h0_from :: .int h0_to :: h0_word :: .long h0_numeral :: .ref h0_globalNames_r :: .ref h0_globalPlaces_r :: .ref h0_globalTypes_r :: .ref h0_globalValues_r :: .int h0_globalCount :: .ref h0_funs_r :: .int h0_funCount :: .int h0_open :: .int h0_signs :: .ref h0_levels_r :: h0_now :: .ref h0_known_r :: .int h0_knownCount :: .int h0_loops :: .ref mad :: .int h0_madeLength :: .ref mag :: .ref sml :: .ref grt :: .ref h0_module_r :: .ref h0_spare_r :: h0_m :: .int h0_cursor :: .int h0_limit :: [ .ref blk, .ref stk, .int h0_top, .ref hgt, .ref lab, .ref ous, .ref kis, .ref los, .int h0_depth, .int h0_function, .ref mem, .int h0_pages, .ref glo, .ref val, .int h0_valueTop, .ref ffu, .ref fre, .ref fba, .ref fla, .int h0_frames, .ref lat, .ref lhe, .int h0_labelTop, .int h0_steps, .int h0_there, .ref rsl, .int h0_resultLength, .int h0_reason, .int h0_place, .ref arg, .int h0_argumentCount, .int h0_code]))), (mad, .inl (cmad, 32768, .inl gmad)), (sml, .inl (csml, 17, .inl gsml)), (grt, .inl (cgrt, 17, .inl ggrt))] ++ va_pl LP fP) sz)) (va_A ([(h0, .inr (11, (.ref rf :: .ref tap :: .int h0_taped :: .int h0_length :: .int h0_kind :: .int h0_from :: .int h0_to :: h0_word :: .long h0_numeral :: .ref h0_globalNames_r :: .ref h0_globalPlaces_r :: .ref h0_globalTypes_r :: .ref h0_globalValues_r :: .int h0_globalCount :: .ref h0_funs_r :: .int h0_funCount :: .int h0_open :: .int h0_signs :: .ref h0_levels_r :: h0_now :: .ref h0_known_r :: .int h0_knownCount :: .int h0_loops :: .ref mad :: .int h0_madeLength :: .ref mag :: .ref sml :: .ref grt :: .ref h0_module_r :: .ref h0_spare_r :: h0_m :: .int h0_cursor :: .int h0_limit :: [ .ref blk, .ref stk, .int h0_top, .ref hgt, .ref lab, .ref ous, .ref kis, .ref los, .int h0_depth, .int h0_function, .ref mem, .int h0_pages, .ref glo, .ref val, .int h0_valueTop, .ref ffu, .ref fre, .ref fba, .ref fla, .int h0_frames, .ref lat, .ref lhe, .int h0_labelTop, .int h0_steps, .int h0_there, .ref rsl, .int h0_resultLength, .int h0_reason, .int h0_place, .ref arg, .int h0_argumentCount, .int h0_code]))), (mad, .inl (cmad, 32768, .inl gmad)), (sml, .inl (csml, 17, .inl gsml)), (grt, .inl (cgrt, 17, .inl ggrt))] ++ va_pl LP fP) sz)) (gc.toNat) (8 * gc.toNat) (va_A ([(h0, .inr (11, (.ref rf :: .ref tap :: .int h0_taped :: .int h0_length :: .int h0_kind :: .int h0_from :: .int h0_to :: h0_word :: .long h0_numeral :: .ref h0_globalNames_r :: .ref h0_globalPlaces_r :: .ref h0_globalTypes_r :: .ref h0_globalValues_r :: .int h0_globalCount :: .ref h0_funs_r :: .int h0_funCount :: .int h0_open :: .int h0_signs :: .ref h0_levels_r :: h0_now :: .ref h0_known_r :: .int h0_knownCount :: .int h0_loops :: .ref mad :: .int h0_madeLength :: .ref mag :: .ref sml :: .ref grt :: .ref h0_module_r :: .ref h0_spare_r :: h0_m :: .int h0_cursor :: .int h0_limit :: [ .ref blk, .ref stk, .int h0_top, .ref hgt, .ref lab, .ref ous, .ref kis, .ref los, .int h0_depth, .int h0_function, .ref mem, .int h0_pages, .ref glo, .ref val, .int h0_valueTop, .ref ffu, .ref fre, .ref fba, .ref fla, .int h0_frames, .ref lat, .ref lhe, .int h0_labelTop, .int h0_steps, .int h0_there, .ref rsl, .int h0_resultLength, .int h0_reason, .int h0_place, .ref arg, .int h0_argumentCount, .int h0_code]))), (mad, .inl (cmad, 32768, .inl gmad)), (sml, .inl (csml, 17, .inl gsml)), (grt, .inl (cgrt, 17, .inl ggrt))] ++ va_pl LP fP) sz)

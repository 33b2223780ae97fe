/-! the reference: emission, a segment -/
abbrev b_MD_emitAll : ByteArray := prog_15_method_43_code
def y_MD_emitAll : MethodName := ⟨R_MD, "emitAll", "()V"⟩
abbrev w_MD_emitAll : List Cond := .code y_MD_emitAll b_MD_emitAll 6 none :: lw_g
set_option maxRecDepth 100000 in
theorem kC_MD_emitAll : Cond.code y_MD_emitAll b_MD_emitAll 6 none ∈ lw_g := in_c12 105 rfl rfl
theorem d_MD_emitAll_0 : decode b_MD_emitAll 0 = .ok (.aload_n 0, 1) := bz_c42 (by decide +kernel)
theorem d_MD_emitAll_1 : decode b_MD_emitAll 1 = .ok (.iconst 0, 1) := bz_c3 (by decide +kernel)
theorem d_MD_emitAll_2 : decode b_MD_emitAll 2 = .ok (.putfield 391, 3) := bz_c181 (by decide +kernel)
theorem d_MD_emitAll_5 : decode b_MD_emitAll 5 = .ok (.iconst 0, 1) := bz_c3 (by decide +kernel)
theorem d_MD_emitAll_6 : decode b_MD_emitAll 6 = .ok (.istore_n 1, 1) := bz_c60 (by decide +kernel)
theorem d_MD_emitAll_7 : decode b_MD_emitAll 7 = .ok (.iload_n 1, 1) := bz_c27 (by decide +kernel)
theorem d_MD_emitAll_8 : decode b_MD_emitAll 8 = .ok (.bipush 8, 2) := bz_c16 (by decide +kernel)
theorem d_MD_emitAll_10 : decode b_MD_emitAll 10 = .ok (.if_icmp .ge 19, 3) := bz_c162 (by decide +kernel)
theorem d_MD_emitAll_13 : decode b_MD_emitAll 13 = .ok (.aload_n 0, 1) := bz_c42 (by decide +kernel)
theorem d_MD_emitAll_14 : decode b_MD_emitAll 14 = .ok (.aload_n 0, 1) := bz_c42 (by decide +kernel)
theorem d_MD_emitAll_15 : decode b_MD_emitAll 15 = .ok (.getfield 412, 3) := bz_c180 (by decide +kernel)
theorem d_MD_emitAll_18 : decode b_MD_emitAll 18 = .ok (.iload_n 1, 1) := bz_c27 (by decide +kernel)
theorem d_MD_emitAll_19 : decode b_MD_emitAll 19 = .ok (.iaload, 1) := bz_c46 (by decide +kernel)
theorem d_MD_emitAll_20 : decode b_MD_emitAll 20 = .ok (.invokevirtual 398, 3) := bz_c182 (by decide +kernel)
theorem d_MD_emitAll_23 : decode b_MD_emitAll 23 = .ok (.iinc 1 1, 3) := by decide +kernel
theorem d_MD_emitAll_26 : decode b_MD_emitAll 26 = .ok (.goto (-19), 3) := bz_c167 (by decide +kernel)
theorem d_MD_emitAll_29 : decode b_MD_emitAll 29 = .ok (.iconst 0, 1) := bz_c3 (by decide +kernel)
theorem d_MD_emitAll_30 : decode b_MD_emitAll 30 = .ok (.istore_n 1, 1) := bz_c60 (by decide +kernel)
theorem d_MD_emitAll_31 : decode b_MD_emitAll 31 = .ok (.iconst 0, 1) := bz_c3 (by decide +kernel)
theorem d_MD_emitAll_32 : decode b_MD_emitAll 32 = .ok (.istore_n 2, 1) := bz_c61 (by decide +kernel)
theorem d_MD_emitAll_33 : decode b_MD_emitAll 33 = .ok (.iload_n 2, 1) := bz_c28 (by decide +kernel)
theorem d_MD_emitAll_34 : decode b_MD_emitAll 34 = .ok (.aload_n 0, 1) := bz_c42 (by decide +kernel)
theorem d_MD_emitAll_35 : decode b_MD_emitAll 35 = .ok (.getfield 140, 3) := bz_c180 (by decide +kernel)
theorem d_MD_emitAll_38 : decode b_MD_emitAll 38 = .ok (.if_icmp .ge 96, 3) := bz_c162 (by decide +kernel)
theorem d_MD_emitAll_41 : decode b_MD_emitAll 41 = .ok (.aload_n 0, 1) := bz_c42 (by decide +kernel)
theorem d_MD_emitAll_42 : decode b_MD_emitAll 42 = .ok (.getfield 194, 3) := bz_c180 (by decide +kernel)
theorem d_MD_emitAll_45 : decode b_MD_emitAll 45 = .ok (.iload_n 2, 1) := bz_c28 (by decide +kernel)
theorem d_MD_emitAll_46 : decode b_MD_emitAll 46 = .ok (.aaload, 1) := bz_c50 (by decide +kernel)
theorem d_MD_emitAll_47 : decode b_MD_emitAll 47 = .ok (.iconst (-1), 1) := bz_c2 (by decide +kernel)
theorem d_MD_emitAll_48 : decode b_MD_emitAll 48 = .ok (.putfield 415, 3) := bz_c181 (by decide +kernel)
theorem d_MD_emitAll_51 : decode b_MD_emitAll 51 = .ok (.iconst 0, 1) := bz_c3 (by decide +kernel)
theorem d_MD_emitAll_52 : decode b_MD_emitAll 52 = .ok (.istore_n 3, 1) := bz_c62 (by decide +kernel)
theorem d_MD_emitAll_53 : decode b_MD_emitAll 53 = .ok (.iload_n 3, 1) := bz_c29 (by decide +kernel)
theorem d_MD_emitAll_54 : decode b_MD_emitAll 54 = .ok (.iload_n 2, 1) := bz_c28 (by decide +kernel)
theorem d_MD_emitAll_55 : decode b_MD_emitAll 55 = .ok (.if_icmp .ge 45, 3) := bz_c162 (by decide +kernel)
theorem d_MD_emitAll_58 : decode b_MD_emitAll 58 = .ok (.aload_n 0, 1) := bz_c42 (by decide +kernel)
theorem d_MD_emitAll_59 : decode b_MD_emitAll 59 = .ok (.getfield 194, 3) := bz_c180 (by decide +kernel)
theorem d_MD_emitAll_62 : decode b_MD_emitAll 62 = .ok (.iload_n 3, 1) := bz_c29 (by decide +kernel)
theorem d_MD_emitAll_63 : decode b_MD_emitAll 63 = .ok (.aaload, 1) := bz_c50 (by decide +kernel)
theorem d_MD_emitAll_64 : decode b_MD_emitAll 64 = .ok (.aload_n 0, 1) := bz_c42 (by decide +kernel)
theorem d_MD_emitAll_65 : decode b_MD_emitAll 65 = .ok (.getfield 194, 3) := bz_c180 (by decide +kernel)
theorem d_MD_emitAll_68 : decode b_MD_emitAll 68 = .ok (.iload_n 2, 1) := bz_c28 (by decide +kernel)
theorem d_MD_emitAll_69 : decode b_MD_emitAll 69 = .ok (.aaload, 1) := bz_c50 (by decide +kernel)
theorem d_MD_emitAll_70 : decode b_MD_emitAll 70 = .ok (.invokestatic 418, 3) := bz_c184 (by decide +kernel)
theorem d_MD_emitAll_73 : decode b_MD_emitAll 73 = .ok (.ifCond .eq 21, 3) := bz_c153 (by decide +kernel)
theorem d_MD_emitAll_76 : decode b_MD_emitAll 76 = .ok (.aload_n 0, 1) := bz_c42 (by decide +kernel)
theorem d_MD_emitAll_77 : decode b_MD_emitAll 77 = .ok (.getfield 194, 3) := bz_c180 (by decide +kernel)
theorem d_MD_emitAll_80 : decode b_MD_emitAll 80 = .ok (.iload_n 2, 1) := bz_c28 (by decide +kernel)
theorem d_MD_emitAll_81 : decode b_MD_emitAll 81 = .ok (.aaload, 1) := bz_c50 (by decide +kernel)
theorem d_MD_emitAll_82 : decode b_MD_emitAll 82 = .ok (.aload_n 0, 1) := bz_c42 (by decide +kernel)
theorem d_MD_emitAll_83 : decode b_MD_emitAll 83 = .ok (.getfield 194, 3) := bz_c180 (by decide +kernel)
theorem d_MD_emitAll_86 : decode b_MD_emitAll 86 = .ok (.iload_n 3, 1) := bz_c29 (by decide +kernel)
theorem d_MD_emitAll_87 : decode b_MD_emitAll 87 = .ok (.aaload, 1) := bz_c50 (by decide +kernel)
theorem d_MD_emitAll_88 : decode b_MD_emitAll 88 = .ok (.getfield 415, 3) := bz_c180 (by decide +kernel)
theorem d_MD_emitAll_91 : decode b_MD_emitAll 91 = .ok (.putfield 415, 3) := bz_c181 (by decide +kernel)
theorem d_MD_emitAll_94 : decode b_MD_emitAll 94 = .ok (.iinc 3 1, 3) := by decide +kernel
theorem d_MD_emitAll_97 : decode b_MD_emitAll 97 = .ok (.goto (-44), 3) := bz_c167 (by decide +kernel)
theorem d_MD_emitAll_100 : decode b_MD_emitAll 100 = .ok (.aload_n 0, 1) := bz_c42 (by decide +kernel)
theorem d_MD_emitAll_101 : decode b_MD_emitAll 101 = .ok (.getfield 194, 3) := bz_c180 (by decide +kernel)
theorem d_MD_emitAll_104 : decode b_MD_emitAll 104 = .ok (.iload_n 2, 1) := bz_c28 (by decide +kernel)
theorem d_MD_emitAll_105 : decode b_MD_emitAll 105 = .ok (.aaload, 1) := bz_c50 (by decide +kernel)
theorem d_MD_emitAll_106 : decode b_MD_emitAll 106 = .ok (.getfield 415, 3) := bz_c180 (by decide +kernel)
theorem d_MD_emitAll_109 : decode b_MD_emitAll 109 = .ok (.ifCond .lt 6, 3) := bz_c155 (by decide +kernel)
theorem d_MD_emitAll_112 : decode b_MD_emitAll 112 = .ok (.goto 16, 3) := bz_c167 (by decide +kernel)
theorem d_MD_emitAll_115 : decode b_MD_emitAll 115 = .ok (.aload_n 0, 1) := bz_c42 (by decide +kernel)
theorem d_MD_emitAll_116 : decode b_MD_emitAll 116 = .ok (.getfield 194, 3) := bz_c180 (by decide +kernel)
theorem d_MD_emitAll_119 : decode b_MD_emitAll 119 = .ok (.iload_n 2, 1) := bz_c28 (by decide +kernel)
theorem d_MD_emitAll_120 : decode b_MD_emitAll 120 = .ok (.aaload, 1) := bz_c50 (by decide +kernel)
theorem d_MD_emitAll_121 : decode b_MD_emitAll 121 = .ok (.iload_n 1, 1) := bz_c27 (by decide +kernel)
theorem d_MD_emitAll_122 : decode b_MD_emitAll 122 = .ok (.putfield 415, 3) := bz_c181 (by decide +kernel)
theorem d_MD_emitAll_125 : decode b_MD_emitAll 125 = .ok (.iinc 1 1, 3) := by decide +kernel
theorem d_MD_emitAll_128 : decode b_MD_emitAll 128 = .ok (.iinc 2 1, 3) := by decide +kernel
theorem d_MD_emitAll_131 : decode b_MD_emitAll 131 = .ok (.goto (-98), 3) := bz_c167 (by decide +kernel)
theorem d_MD_emitAll_134 : decode b_MD_emitAll 134 = .ok (.aload_n 0, 1) := bz_c42 (by decide +kernel)
theorem d_MD_emitAll_135 : decode b_MD_emitAll 135 = .ok (.iconst 1, 1) := bz_c4 (by decide +kernel)
theorem d_MD_emitAll_136 : decode b_MD_emitAll 136 = .ok (.invokevirtual 422, 3) := bz_c182 (by decide +kernel)
theorem d_MD_emitAll_139 : decode b_MD_emitAll 139 = .ok (.istore_n 2, 1) := bz_c61 (by decide +kernel)
theorem d_MD_emitAll_140 : decode b_MD_emitAll 140 = .ok (.aload_n 0, 1) := bz_c42 (by decide +kernel)
theorem d_MD_emitAll_141 : decode b_MD_emitAll 141 = .ok (.iload_n 1, 1) := bz_c27 (by decide +kernel)
theorem d_MD_emitAll_142 : decode b_MD_emitAll 142 = .ok (.i2l, 1) := bz_c133 (by decide +kernel)
theorem d_MD_emitAll_143 : decode b_MD_emitAll 143 = .ok (.invokevirtual 409, 3) := bz_c182 (by decide +kernel)
theorem d_MD_emitAll_146 : decode b_MD_emitAll 146 = .ok (.iconst 0, 1) := bz_c3 (by decide +kernel)
theorem d_MD_emitAll_147 : decode b_MD_emitAll 147 = .ok (.istore_n 3, 1) := bz_c62 (by decide +kernel)
theorem d_MD_emitAll_148 : decode b_MD_emitAll 148 = .ok (.iconst 0, 1) := bz_c3 (by decide +kernel)
theorem d_MD_emitAll_149 : decode b_MD_emitAll 149 = .ok (.istore 4, 2) := bz_c54 (by decide +kernel)
theorem d_MD_emitAll_151 : decode b_MD_emitAll 151 = .ok (.iload 4, 2) := bz_c21 (by decide +kernel)
theorem d_MD_emitAll_153 : decode b_MD_emitAll 153 = .ok (.aload_n 0, 1) := bz_c42 (by decide +kernel)
theorem d_MD_emitAll_154 : decode b_MD_emitAll 154 = .ok (.getfield 140, 3) := bz_c180 (by decide +kernel)
theorem d_MD_emitAll_157 : decode b_MD_emitAll 157 = .ok (.if_icmp .ge 140, 3) := bz_c162 (by decide +kernel)
theorem d_MD_emitAll_160 : decode b_MD_emitAll 160 = .ok (.aload_n 0, 1) := bz_c42 (by decide +kernel)
theorem d_MD_emitAll_161 : decode b_MD_emitAll 161 = .ok (.getfield 194, 3) := bz_c180 (by decide +kernel)
theorem d_MD_emitAll_164 : decode b_MD_emitAll 164 = .ok (.iload 4, 2) := bz_c21 (by decide +kernel)
theorem d_MD_emitAll_166 : decode b_MD_emitAll 166 = .ok (.aaload, 1) := bz_c50 (by decide +kernel)
theorem d_MD_emitAll_167 : decode b_MD_emitAll 167 = .ok (.getfield 415, 3) := bz_c180 (by decide +kernel)
theorem d_MD_emitAll_170 : decode b_MD_emitAll 170 = .ok (.iload_n 3, 1) := bz_c29 (by decide +kernel)
theorem d_MD_emitAll_171 : decode b_MD_emitAll 171 = .ok (.if_icmp .eq 6, 3) := bz_c159 (by decide +kernel)
theorem d_MD_emitAll_174 : decode b_MD_emitAll 174 = .ok (.goto 117, 3) := bz_c167 (by decide +kernel)
theorem d_MD_emitAll_177 : decode b_MD_emitAll 177 = .ok (.iinc 3 1, 3) := by decide +kernel
theorem d_MD_emitAll_180 : decode b_MD_emitAll 180 = .ok (.aload_n 0, 1) := bz_c42 (by decide +kernel)
theorem d_MD_emitAll_181 : decode b_MD_emitAll 181 = .ok (.bipush 96, 2) := bz_c16 (by decide +kernel)
theorem d_MD_emitAll_183 : decode b_MD_emitAll 183 = .ok (.invokevirtual 398, 3) := bz_c182 (by decide +kernel)
theorem d_MD_emitAll_186 : decode b_MD_emitAll 186 = .ok (.aload_n 0, 1) := bz_c42 (by decide +kernel)
theorem d_MD_emitAll_187 : decode b_MD_emitAll 187 = .ok (.aload_n 0, 1) := bz_c42 (by decide +kernel)
theorem d_MD_emitAll_188 : decode b_MD_emitAll 188 = .ok (.getfield 194, 3) := bz_c180 (by decide +kernel)
theorem d_MD_emitAll_191 : decode b_MD_emitAll 191 = .ok (.iload 4, 2) := bz_c21 (by decide +kernel)
theorem d_MD_emitAll_193 : decode b_MD_emitAll 193 = .ok (.aaload, 1) := bz_c50 (by decide +kernel)
theorem d_MD_emitAll_194 : decode b_MD_emitAll 194 = .ok (.getfield 208, 3) := bz_c180 (by decide +kernel)
theorem d_MD_emitAll_197 : decode b_MD_emitAll 197 = .ok (.i2l, 1) := bz_c133 (by decide +kernel)
theorem d_MD_emitAll_198 : decode b_MD_emitAll 198 = .ok (.invokevirtual 409, 3) := bz_c182 (by decide +kernel)
theorem d_MD_emitAll_201 : decode b_MD_emitAll 201 = .ok (.iconst 0, 1) := bz_c3 (by decide +kernel)
theorem d_MD_emitAll_202 : decode b_MD_emitAll 202 = .ok (.istore 5, 2) := bz_c54 (by decide +kernel)
theorem d_MD_emitAll_204 : decode b_MD_emitAll 204 = .ok (.iload 5, 2) := bz_c21 (by decide +kernel)
theorem d_MD_emitAll_206 : decode b_MD_emitAll 206 = .ok (.aload_n 0, 1) := bz_c42 (by decide +kernel)
theorem d_MD_emitAll_207 : decode b_MD_emitAll 207 = .ok (.getfield 194, 3) := bz_c180 (by decide +kernel)
theorem d_MD_emitAll_210 : decode b_MD_emitAll 210 = .ok (.iload 4, 2) := bz_c21 (by decide +kernel)
theorem d_MD_emitAll_212 : decode b_MD_emitAll 212 = .ok (.aaload, 1) := bz_c50 (by decide +kernel)
theorem d_MD_emitAll_213 : decode b_MD_emitAll 213 = .ok (.getfield 208, 3) := bz_c180 (by decide +kernel)
theorem d_MD_emitAll_216 : decode b_MD_emitAll 216 = .ok (.if_icmp .ge 26, 3) := bz_c162 (by decide +kernel)
theorem d_MD_emitAll_219 : decode b_MD_emitAll 219 = .ok (.aload_n 0, 1) := bz_c42 (by decide +kernel)
theorem d_MD_emitAll_220 : decode b_MD_emitAll 220 = .ok (.aload_n 0, 1) := bz_c42 (by decide +kernel)
theorem d_MD_emitAll_221 : decode b_MD_emitAll 221 = .ok (.getfield 194, 3) := bz_c180 (by decide +kernel)
theorem d_MD_emitAll_224 : decode b_MD_emitAll 224 = .ok (.iload 4, 2) := bz_c21 (by decide +kernel)
theorem d_MD_emitAll_226 : decode b_MD_emitAll 226 = .ok (.aaload, 1) := bz_c50 (by decide +kernel)
theorem d_MD_emitAll_227 : decode b_MD_emitAll 227 = .ok (.getfield 217, 3) := bz_c180 (by decide +kernel)
theorem d_MD_emitAll_230 : decode b_MD_emitAll 230 = .ok (.iload 5, 2) := bz_c21 (by decide +kernel)
theorem d_MD_emitAll_232 : decode b_MD_emitAll 232 = .ok (.iaload, 1) := bz_c46 (by decide +kernel)
theorem d_MD_emitAll_233 : decode b_MD_emitAll 233 = .ok (.invokevirtual 398, 3) := bz_c182 (by decide +kernel)
theorem d_MD_emitAll_236 : decode b_MD_emitAll 236 = .ok (.iinc 5 1, 3) := by decide +kernel
theorem d_MD_emitAll_239 : decode b_MD_emitAll 239 = .ok (.goto (-35), 3) := bz_c167 (by decide +kernel)
theorem d_MD_emitAll_242 : decode b_MD_emitAll 242 = .ok (.aload_n 0, 1) := bz_c42 (by decide +kernel)
theorem d_MD_emitAll_243 : decode b_MD_emitAll 243 = .ok (.aload_n 0, 1) := bz_c42 (by decide +kernel)
theorem d_MD_emitAll_244 : decode b_MD_emitAll 244 = .ok (.getfield 194, 3) := bz_c180 (by decide +kernel)
theorem d_MD_emitAll_247 : decode b_MD_emitAll 247 = .ok (.iload 4, 2) := bz_c21 (by decide +kernel)
theorem d_MD_emitAll_249 : decode b_MD_emitAll 249 = .ok (.aaload, 1) := bz_c50 (by decide +kernel)
theorem d_MD_emitAll_250 : decode b_MD_emitAll 250 = .ok (.getfield 222, 3) := bz_c180 (by decide +kernel)
theorem d_MD_emitAll_253 : decode b_MD_emitAll 253 = .ok (.ifCond .ne 7, 3) := bz_c154 (by decide +kernel)
theorem d_MD_emitAll_256 : decode b_MD_emitAll 256 = .ok (.lconst 0, 1) := bz_c9 (by decide +kernel)
theorem d_MD_emitAll_257 : decode b_MD_emitAll 257 = .ok (.goto 4, 3) := bz_c167 (by decide +kernel)
theorem d_MD_emitAll_260 : decode b_MD_emitAll 260 = .ok (.lconst 1, 1) := bz_c10 (by decide +kernel)
theorem d_MD_emitAll_261 : decode b_MD_emitAll 261 = .ok (.invokevirtual 409, 3) := bz_c182 (by decide +kernel)
theorem d_MD_emitAll_264 : decode b_MD_emitAll 264 = .ok (.aload_n 0, 1) := bz_c42 (by decide +kernel)
theorem d_MD_emitAll_265 : decode b_MD_emitAll 265 = .ok (.getfield 194, 3) := bz_c180 (by decide +kernel)
theorem d_MD_emitAll_268 : decode b_MD_emitAll 268 = .ok (.iload 4, 2) := bz_c21 (by decide +kernel)
theorem d_MD_emitAll_270 : decode b_MD_emitAll 270 = .ok (.aaload, 1) := bz_c50 (by decide +kernel)
theorem d_MD_emitAll_271 : decode b_MD_emitAll 271 = .ok (.getfield 222, 3) := bz_c180 (by decide +kernel)
theorem d_MD_emitAll_274 : decode b_MD_emitAll 274 = .ok (.ifCond .eq 17, 3) := bz_c153 (by decide +kernel)
theorem d_MD_emitAll_277 : decode b_MD_emitAll 277 = .ok (.aload_n 0, 1) := bz_c42 (by decide +kernel)
theorem d_MD_emitAll_278 : decode b_MD_emitAll 278 = .ok (.aload_n 0, 1) := bz_c42 (by decide +kernel)
theorem d_MD_emitAll_279 : decode b_MD_emitAll 279 = .ok (.getfield 194, 3) := bz_c180 (by decide +kernel)
theorem d_MD_emitAll_282 : decode b_MD_emitAll 282 = .ok (.iload 4, 2) := bz_c21 (by decide +kernel)
theorem d_MD_emitAll_284 : decode b_MD_emitAll 284 = .ok (.aaload, 1) := bz_c50 (by decide +kernel)
theorem d_MD_emitAll_285 : decode b_MD_emitAll 285 = .ok (.getfield 222, 3) := bz_c180 (by decide +kernel)
theorem d_MD_emitAll_288 : decode b_MD_emitAll 288 = .ok (.invokevirtual 398, 3) := bz_c182 (by decide +kernel)
theorem d_MD_emitAll_291 : decode b_MD_emitAll 291 = .ok (.iinc 4 1, 3) := by decide +kernel
theorem d_MD_emitAll_294 : decode b_MD_emitAll 294 = .ok (.goto (-143), 3) := bz_c167 (by decide +kernel)
theorem d_MD_emitAll_297 : decode b_MD_emitAll 297 = .ok (.aload_n 0, 1) := bz_c42 (by decide +kernel)
theorem d_MD_emitAll_298 : decode b_MD_emitAll 298 = .ok (.iload_n 2, 1) := bz_c28 (by decide +kernel)
theorem d_MD_emitAll_299 : decode b_MD_emitAll 299 = .ok (.invokevirtual 425, 3) := bz_c182 (by decide +kernel)
theorem d_MD_emitAll_302 : decode b_MD_emitAll 302 = .ok (.aload_n 0, 1) := bz_c42 (by decide +kernel)
theorem d_MD_emitAll_303 : decode b_MD_emitAll 303 = .ok (.iconst 3, 1) := bz_c6 (by decide +kernel)
theorem d_MD_emitAll_304 : decode b_MD_emitAll 304 = .ok (.invokevirtual 422, 3) := bz_c182 (by decide +kernel)
theorem d_MD_emitAll_307 : decode b_MD_emitAll 307 = .ok (.istore_n 2, 1) := bz_c61 (by decide +kernel)
theorem d_MD_emitAll_308 : decode b_MD_emitAll 308 = .ok (.aload_n 0, 1) := bz_c42 (by decide +kernel)
theorem d_MD_emitAll_309 : decode b_MD_emitAll 309 = .ok (.aload_n 0, 1) := bz_c42 (by decide +kernel)
theorem d_MD_emitAll_310 : decode b_MD_emitAll 310 = .ok (.getfield 140, 3) := bz_c180 (by decide +kernel)
theorem d_MD_emitAll_313 : decode b_MD_emitAll 313 = .ok (.i2l, 1) := bz_c133 (by decide +kernel)
theorem d_MD_emitAll_314 : decode b_MD_emitAll 314 = .ok (.invokevirtual 409, 3) := bz_c182 (by decide +kernel)
theorem d_MD_emitAll_317 : decode b_MD_emitAll 317 = .ok (.iconst 0, 1) := bz_c3 (by decide +kernel)
theorem d_MD_emitAll_318 : decode b_MD_emitAll 318 = .ok (.istore 4, 2) := bz_c54 (by decide +kernel)
theorem d_MD_emitAll_320 : decode b_MD_emitAll 320 = .ok (.iload 4, 2) := bz_c21 (by decide +kernel)
theorem d_MD_emitAll_322 : decode b_MD_emitAll 322 = .ok (.aload_n 0, 1) := bz_c42 (by decide +kernel)
theorem d_MD_emitAll_323 : decode b_MD_emitAll 323 = .ok (.getfield 140, 3) := bz_c180 (by decide +kernel)
theorem d_MD_emitAll_326 : decode b_MD_emitAll 326 = .ok (.if_icmp .ge 24, 3) := bz_c162 (by decide +kernel)
theorem d_MD_emitAll_329 : decode b_MD_emitAll 329 = .ok (.aload_n 0, 1) := bz_c42 (by decide +kernel)
theorem d_MD_emitAll_330 : decode b_MD_emitAll 330 = .ok (.aload_n 0, 1) := bz_c42 (by decide +kernel)
theorem d_MD_emitAll_331 : decode b_MD_emitAll 331 = .ok (.getfield 194, 3) := bz_c180 (by decide +kernel)
theorem d_MD_emitAll_334 : decode b_MD_emitAll 334 = .ok (.iload 4, 2) := bz_c21 (by decide +kernel)
theorem d_MD_emitAll_336 : decode b_MD_emitAll 336 = .ok (.aaload, 1) := bz_c50 (by decide +kernel)
theorem d_MD_emitAll_337 : decode b_MD_emitAll 337 = .ok (.getfield 415, 3) := bz_c180 (by decide +kernel)
theorem d_MD_emitAll_340 : decode b_MD_emitAll 340 = .ok (.i2l, 1) := bz_c133 (by decide +kernel)
theorem d_MD_emitAll_341 : decode b_MD_emitAll 341 = .ok (.invokevirtual 409, 3) := bz_c182 (by decide +kernel)
theorem d_MD_emitAll_344 : decode b_MD_emitAll 344 = .ok (.iinc 4 1, 3) := by decide +kernel
theorem d_MD_emitAll_347 : decode b_MD_emitAll 347 = .ok (.goto (-27), 3) := bz_c167 (by decide +kernel)
theorem d_MD_emitAll_350 : decode b_MD_emitAll 350 = .ok (.aload_n 0, 1) := bz_c42 (by decide +kernel)
theorem d_MD_emitAll_351 : decode b_MD_emitAll 351 = .ok (.iload_n 2, 1) := bz_c28 (by decide +kernel)
theorem d_MD_emitAll_352 : decode b_MD_emitAll 352 = .ok (.invokevirtual 425, 3) := bz_c182 (by decide +kernel)
theorem d_MD_emitAll_355 : decode b_MD_emitAll 355 = .ok (.aload_n 0, 1) := bz_c42 (by decide +kernel)
theorem d_MD_emitAll_356 : decode b_MD_emitAll 356 = .ok (.iconst 5, 1) := bz_c8 (by decide +kernel)
theorem d_MD_emitAll_357 : decode b_MD_emitAll 357 = .ok (.invokevirtual 422, 3) := bz_c182 (by decide +kernel)
theorem d_MD_emitAll_360 : decode b_MD_emitAll 360 = .ok (.istore_n 2, 1) := bz_c61 (by decide +kernel)
theorem d_MD_emitAll_361 : decode b_MD_emitAll 361 = .ok (.aload_n 0, 1) := bz_c42 (by decide +kernel)
theorem d_MD_emitAll_362 : decode b_MD_emitAll 362 = .ok (.iconst 1, 1) := bz_c4 (by decide +kernel)
theorem d_MD_emitAll_363 : decode b_MD_emitAll 363 = .ok (.invokevirtual 398, 3) := bz_c182 (by decide +kernel)
theorem d_MD_emitAll_366 : decode b_MD_emitAll 366 = .ok (.aload_n 0, 1) := bz_c42 (by decide +kernel)
theorem d_MD_emitAll_367 : decode b_MD_emitAll 367 = .ok (.iconst 1, 1) := bz_c4 (by decide +kernel)
theorem d_MD_emitAll_368 : decode b_MD_emitAll 368 = .ok (.invokevirtual 398, 3) := bz_c182 (by decide +kernel)
theorem d_MD_emitAll_371 : decode b_MD_emitAll 371 = .ok (.aload_n 0, 1) := bz_c42 (by decide +kernel)
theorem d_MD_emitAll_372 : decode b_MD_emitAll 372 = .ok (.iconst 1, 1) := bz_c4 (by decide +kernel)
theorem d_MD_emitAll_373 : decode b_MD_emitAll 373 = .ok (.invokevirtual 398, 3) := bz_c182 (by decide +kernel)
theorem d_MD_emitAll_376 : decode b_MD_emitAll 376 = .ok (.aload_n 0, 1) := bz_c42 (by decide +kernel)
theorem d_MD_emitAll_377 : decode b_MD_emitAll 377 = .ok (.iconst 2, 1) := bz_c5 (by decide +kernel)
theorem d_MD_emitAll_378 : decode b_MD_emitAll 378 = .ok (.invokevirtual 398, 3) := bz_c182 (by decide +kernel)
theorem d_MD_emitAll_381 : decode b_MD_emitAll 381 = .ok (.aload_n 0, 1) := bz_c42 (by decide +kernel)
theorem d_MD_emitAll_382 : decode b_MD_emitAll 382 = .ok (.iload_n 2, 1) := bz_c28 (by decide +kernel)
theorem d_MD_emitAll_383 : decode b_MD_emitAll 383 = .ok (.invokevirtual 425, 3) := bz_c182 (by decide +kernel)
theorem d_MD_emitAll_386 : decode b_MD_emitAll 386 = .ok (.aload_n 0, 1) := bz_c42 (by decide +kernel)
theorem d_MD_emitAll_387 : decode b_MD_emitAll 387 = .ok (.getfield 137, 3) := bz_c180 (by decide +kernel)
theorem d_MD_emitAll_390 : decode b_MD_emitAll 390 = .ok (.ifCond .le 82, 3) := bz_c158 (by decide +kernel)
theorem d_MD_emitAll_393 : decode b_MD_emitAll 393 = .ok (.aload_n 0, 1) := bz_c42 (by decide +kernel)
theorem d_MD_emitAll_394 : decode b_MD_emitAll 394 = .ok (.bipush 6, 2) := bz_c16 (by decide +kernel)
theorem d_MD_emitAll_396 : decode b_MD_emitAll 396 = .ok (.invokevirtual 422, 3) := bz_c182 (by decide +kernel)
theorem d_MD_emitAll_399 : decode b_MD_emitAll 399 = .ok (.istore_n 2, 1) := bz_c61 (by decide +kernel)
theorem d_MD_emitAll_400 : decode b_MD_emitAll 400 = .ok (.aload_n 0, 1) := bz_c42 (by decide +kernel)
theorem d_MD_emitAll_401 : decode b_MD_emitAll 401 = .ok (.aload_n 0, 1) := bz_c42 (by decide +kernel)
theorem d_MD_emitAll_402 : decode b_MD_emitAll 402 = .ok (.getfield 137, 3) := bz_c180 (by decide +kernel)
theorem d_MD_emitAll_405 : decode b_MD_emitAll 405 = .ok (.i2l, 1) := bz_c133 (by decide +kernel)
theorem d_MD_emitAll_406 : decode b_MD_emitAll 406 = .ok (.invokevirtual 409, 3) := bz_c182 (by decide +kernel)
theorem d_MD_emitAll_409 : decode b_MD_emitAll 409 = .ok (.iconst 0, 1) := bz_c3 (by decide +kernel)
theorem d_MD_emitAll_410 : decode b_MD_emitAll 410 = .ok (.istore 4, 2) := bz_c54 (by decide +kernel)
theorem d_MD_emitAll_412 : decode b_MD_emitAll 412 = .ok (.iload 4, 2) := bz_c21 (by decide +kernel)
theorem d_MD_emitAll_414 : decode b_MD_emitAll 414 = .ok (.aload_n 0, 1) := bz_c42 (by decide +kernel)
theorem d_MD_emitAll_415 : decode b_MD_emitAll 415 = .ok (.getfield 137, 3) := bz_c180 (by decide +kernel)
theorem d_MD_emitAll_418 : decode b_MD_emitAll 418 = .ok (.if_icmp .ge 49, 3) := bz_c162 (by decide +kernel)
theorem d_MD_emitAll_421 : decode b_MD_emitAll 421 = .ok (.aload_n 0, 1) := bz_c42 (by decide +kernel)
theorem d_MD_emitAll_422 : decode b_MD_emitAll 422 = .ok (.aload_n 0, 1) := bz_c42 (by decide +kernel)
theorem d_MD_emitAll_423 : decode b_MD_emitAll 423 = .ok (.getfield 175, 3) := bz_c180 (by decide +kernel)
theorem d_MD_emitAll_426 : decode b_MD_emitAll 426 = .ok (.iload 4, 2) := bz_c21 (by decide +kernel)
theorem d_MD_emitAll_428 : decode b_MD_emitAll 428 = .ok (.iaload, 1) := bz_c46 (by decide +kernel)
theorem d_MD_emitAll_429 : decode b_MD_emitAll 429 = .ok (.invokevirtual 398, 3) := bz_c182 (by decide +kernel)
theorem d_MD_emitAll_432 : decode b_MD_emitAll 432 = .ok (.aload_n 0, 1) := bz_c42 (by decide +kernel)
theorem d_MD_emitAll_433 : decode b_MD_emitAll 433 = .ok (.iconst 1, 1) := bz_c4 (by decide +kernel)
theorem d_MD_emitAll_434 : decode b_MD_emitAll 434 = .ok (.invokevirtual 398, 3) := bz_c182 (by decide +kernel)
theorem d_MD_emitAll_437 : decode b_MD_emitAll 437 = .ok (.aload_n 0, 1) := bz_c42 (by decide +kernel)
theorem d_MD_emitAll_438 : decode b_MD_emitAll 438 = .ok (.aload_n 0, 1) := bz_c42 (by decide +kernel)
theorem d_MD_emitAll_439 : decode b_MD_emitAll 439 = .ok (.getfield 175, 3) := bz_c180 (by decide +kernel)
theorem d_MD_emitAll_442 : decode b_MD_emitAll 442 = .ok (.iload 4, 2) := bz_c21 (by decide +kernel)
theorem d_MD_emitAll_444 : decode b_MD_emitAll 444 = .ok (.iaload, 1) := bz_c46 (by decide +kernel)
theorem d_MD_emitAll_445 : decode b_MD_emitAll 445 = .ok (.aload_n 0, 1) := bz_c42 (by decide +kernel)
theorem d_MD_emitAll_446 : decode b_MD_emitAll 446 = .ok (.getfield 185, 3) := bz_c180 (by decide +kernel)
theorem d_MD_emitAll_449 : decode b_MD_emitAll 449 = .ok (.iload 4, 2) := bz_c21 (by decide +kernel)
theorem d_MD_emitAll_451 : decode b_MD_emitAll 451 = .ok (.laload, 1) := bz_c47 (by decide +kernel)
theorem d_MD_emitAll_452 : decode b_MD_emitAll 452 = .ok (.invokevirtual 428, 3) := bz_c182 (by decide +kernel)
theorem d_MD_emitAll_455 : decode b_MD_emitAll 455 = .ok (.aload_n 0, 1) := bz_c42 (by decide +kernel)
theorem d_MD_emitAll_456 : decode b_MD_emitAll 456 = .ok (.bipush 11, 2) := bz_c16 (by decide +kernel)
theorem d_MD_emitAll_458 : decode b_MD_emitAll 458 = .ok (.invokevirtual 398, 3) := bz_c182 (by decide +kernel)
theorem d_MD_emitAll_461 : decode b_MD_emitAll 461 = .ok (.iinc 4 1, 3) := by decide +kernel
theorem d_MD_emitAll_464 : decode b_MD_emitAll 464 = .ok (.goto (-52), 3) := bz_c167 (by decide +kernel)
theorem d_MD_emitAll_467 : decode b_MD_emitAll 467 = .ok (.aload_n 0, 1) := bz_c42 (by decide +kernel)
theorem d_MD_emitAll_468 : decode b_MD_emitAll 468 = .ok (.iload_n 2, 1) := bz_c28 (by decide +kernel)
theorem d_MD_emitAll_469 : decode b_MD_emitAll 469 = .ok (.invokevirtual 425, 3) := bz_c182 (by decide +kernel)
theorem d_MD_emitAll_472 : decode b_MD_emitAll 472 = .ok (.aload_n 0, 1) := bz_c42 (by decide +kernel)
theorem d_MD_emitAll_473 : decode b_MD_emitAll 473 = .ok (.bipush 7, 2) := bz_c16 (by decide +kernel)
theorem d_MD_emitAll_475 : decode b_MD_emitAll 475 = .ok (.invokevirtual 422, 3) := bz_c182 (by decide +kernel)
theorem d_MD_emitAll_478 : decode b_MD_emitAll 478 = .ok (.istore_n 2, 1) := bz_c61 (by decide +kernel)
theorem d_MD_emitAll_479 : decode b_MD_emitAll 479 = .ok (.aload_n 0, 1) := bz_c42 (by decide +kernel)
theorem d_MD_emitAll_480 : decode b_MD_emitAll 480 = .ok (.aload_n 0, 1) := bz_c42 (by decide +kernel)
theorem d_MD_emitAll_481 : decode b_MD_emitAll 481 = .ok (.getfield 140, 3) := bz_c180 (by decide +kernel)
theorem d_MD_emitAll_484 : decode b_MD_emitAll 484 = .ok (.iconst 1, 1) := bz_c4 (by decide +kernel)
theorem d_MD_emitAll_485 : decode b_MD_emitAll 485 = .ok (.iadd, 1) := bz_c96 (by decide +kernel)
theorem d_MD_emitAll_486 : decode b_MD_emitAll 486 = .ok (.i2l, 1) := bz_c133 (by decide +kernel)
theorem d_MD_emitAll_487 : decode b_MD_emitAll 487 = .ok (.invokevirtual 409, 3) := bz_c182 (by decide +kernel)
theorem d_MD_emitAll_490 : decode b_MD_emitAll 490 = .ok (.iconst 0, 1) := bz_c3 (by decide +kernel)
theorem d_MD_emitAll_491 : decode b_MD_emitAll 491 = .ok (.istore 4, 2) := bz_c54 (by decide +kernel)
theorem d_MD_emitAll_493 : decode b_MD_emitAll 493 = .ok (.iload 4, 2) := bz_c21 (by decide +kernel)
theorem d_MD_emitAll_495 : decode b_MD_emitAll 495 = .ok (.aload_n 0, 1) := bz_c42 (by decide +kernel)
theorem d_MD_emitAll_496 : decode b_MD_emitAll 496 = .ok (.getfield 140, 3) := bz_c180 (by decide +kernel)
theorem d_MD_emitAll_499 : decode b_MD_emitAll 499 = .ok (.if_icmp .ge 35, 3) := bz_c162 (by decide +kernel)
theorem d_MD_emitAll_502 : decode b_MD_emitAll 502 = .ok (.aload_n 0, 1) := bz_c42 (by decide +kernel)
theorem d_MD_emitAll_503 : decode b_MD_emitAll 503 = .ok (.aload_n 0, 1) := bz_c42 (by decide +kernel)
theorem d_MD_emitAll_504 : decode b_MD_emitAll 504 = .ok (.getfield 194, 3) := bz_c180 (by decide +kernel)
theorem d_MD_emitAll_507 : decode b_MD_emitAll 507 = .ok (.iload 4, 2) := bz_c21 (by decide +kernel)
theorem d_MD_emitAll_509 : decode b_MD_emitAll 509 = .ok (.aaload, 1) := bz_c50 (by decide +kernel)
theorem d_MD_emitAll_510 : decode b_MD_emitAll 510 = .ok (.getfield 202, 3) := bz_c180 (by decide +kernel)
theorem d_MD_emitAll_513 : decode b_MD_emitAll 513 = .ok (.invokevirtual 432, 3) := bz_c182 (by decide +kernel)
theorem d_MD_emitAll_516 : decode b_MD_emitAll 516 = .ok (.aload_n 0, 1) := bz_c42 (by decide +kernel)
theorem d_MD_emitAll_517 : decode b_MD_emitAll 517 = .ok (.iconst 0, 1) := bz_c3 (by decide +kernel)
theorem d_MD_emitAll_518 : decode b_MD_emitAll 518 = .ok (.invokevirtual 398, 3) := bz_c182 (by decide +kernel)
theorem d_MD_emitAll_521 : decode b_MD_emitAll 521 = .ok (.aload_n 0, 1) := bz_c42 (by decide +kernel)
theorem d_MD_emitAll_522 : decode b_MD_emitAll 522 = .ok (.iload 4, 2) := bz_c21 (by decide +kernel)
theorem d_MD_emitAll_524 : decode b_MD_emitAll 524 = .ok (.i2l, 1) := bz_c133 (by decide +kernel)
theorem d_MD_emitAll_525 : decode b_MD_emitAll 525 = .ok (.invokevirtual 409, 3) := bz_c182 (by decide +kernel)
theorem d_MD_emitAll_528 : decode b_MD_emitAll 528 = .ok (.iinc 4 1, 3) := by decide +kernel
theorem d_MD_emitAll_531 : decode b_MD_emitAll 531 = .ok (.goto (-38), 3) := bz_c167 (by decide +kernel)
theorem d_MD_emitAll_534 : decode b_MD_emitAll 534 = .ok (.aload_n 0, 1) := bz_c42 (by decide +kernel)
theorem d_MD_emitAll_535 : decode b_MD_emitAll 535 = .ok (.ldc_w 435, 3) := bz_c19 (by decide +kernel)
theorem d_MD_emitAll_538 : decode b_MD_emitAll 538 = .ok (.invokevirtual 432, 3) := bz_c182 (by decide +kernel)
theorem d_MD_emitAll_541 : decode b_MD_emitAll 541 = .ok (.aload_n 0, 1) := bz_c42 (by decide +kernel)
theorem d_MD_emitAll_542 : decode b_MD_emitAll 542 = .ok (.iconst 2, 1) := bz_c5 (by decide +kernel)
theorem d_MD_emitAll_543 : decode b_MD_emitAll 543 = .ok (.invokevirtual 398, 3) := bz_c182 (by decide +kernel)
theorem d_MD_emitAll_546 : decode b_MD_emitAll 546 = .ok (.aload_n 0, 1) := bz_c42 (by decide +kernel)
theorem d_MD_emitAll_547 : decode b_MD_emitAll 547 = .ok (.iconst 0, 1) := bz_c3 (by decide +kernel)
theorem d_MD_emitAll_548 : decode b_MD_emitAll 548 = .ok (.invokevirtual 398, 3) := bz_c182 (by decide +kernel)
theorem d_MD_emitAll_551 : decode b_MD_emitAll 551 = .ok (.aload_n 0, 1) := bz_c42 (by decide +kernel)
theorem d_MD_emitAll_552 : decode b_MD_emitAll 552 = .ok (.iload_n 2, 1) := bz_c28 (by decide +kernel)
theorem d_MD_emitAll_553 : decode b_MD_emitAll 553 = .ok (.invokevirtual 425, 3) := bz_c182 (by decide +kernel)
theorem d_MD_emitAll_556 : decode b_MD_emitAll 556 = .ok (.aload_n 0, 1) := bz_c42 (by decide +kernel)
theorem d_MD_emitAll_557 : decode b_MD_emitAll 557 = .ok (.bipush 10, 2) := bz_c16 (by decide +kernel)
theorem d_MD_emitAll_559 : decode b_MD_emitAll 559 = .ok (.invokevirtual 422, 3) := bz_c182 (by decide +kernel)
theorem d_MD_emitAll_562 : decode b_MD_emitAll 562 = .ok (.istore_n 2, 1) := bz_c61 (by decide +kernel)
theorem d_MD_emitAll_563 : decode b_MD_emitAll 563 = .ok (.aload_n 0, 1) := bz_c42 (by decide +kernel)
theorem d_MD_emitAll_564 : decode b_MD_emitAll 564 = .ok (.aload_n 0, 1) := bz_c42 (by decide +kernel)
theorem d_MD_emitAll_565 : decode b_MD_emitAll 565 = .ok (.getfield 140, 3) := bz_c180 (by decide +kernel)
theorem d_MD_emitAll_568 : decode b_MD_emitAll 568 = .ok (.i2l, 1) := bz_c133 (by decide +kernel)
theorem d_MD_emitAll_569 : decode b_MD_emitAll 569 = .ok (.invokevirtual 409, 3) := bz_c182 (by decide +kernel)
theorem d_MD_emitAll_572 : decode b_MD_emitAll 572 = .ok (.iconst 0, 1) := bz_c3 (by decide +kernel)
theorem d_MD_emitAll_573 : decode b_MD_emitAll 573 = .ok (.istore 4, 2) := bz_c54 (by decide +kernel)
theorem d_MD_emitAll_575 : decode b_MD_emitAll 575 = .ok (.iload 4, 2) := bz_c21 (by decide +kernel)
theorem d_MD_emitAll_577 : decode b_MD_emitAll 577 = .ok (.aload_n 0, 1) := bz_c42 (by decide +kernel)
theorem d_MD_emitAll_578 : decode b_MD_emitAll 578 = .ok (.getfield 140, 3) := bz_c180 (by decide +kernel)
theorem d_MD_emitAll_581 : decode b_MD_emitAll 581 = .ok (.if_icmp .ge 32, 3) := bz_c162 (by decide +kernel)
theorem d_MD_emitAll_584 : decode b_MD_emitAll 584 = .ok (.aload_n 0, 1) := bz_c42 (by decide +kernel)
theorem d_MD_emitAll_585 : decode b_MD_emitAll 585 = .ok (.getfield 391, 3) := bz_c180 (by decide +kernel)
theorem d_MD_emitAll_588 : decode b_MD_emitAll 588 = .ok (.istore 5, 2) := bz_c54 (by decide +kernel)
theorem d_MD_emitAll_590 : decode b_MD_emitAll 590 = .ok (.aload_n 0, 1) := bz_c42 (by decide +kernel)
theorem d_MD_emitAll_591 : decode b_MD_emitAll 591 = .ok (.aload_n 0, 1) := bz_c42 (by decide +kernel)
theorem d_MD_emitAll_592 : decode b_MD_emitAll 592 = .ok (.getfield 194, 3) := bz_c180 (by decide +kernel)
theorem d_MD_emitAll_595 : decode b_MD_emitAll 595 = .ok (.iload 4, 2) := bz_c21 (by decide +kernel)
theorem d_MD_emitAll_597 : decode b_MD_emitAll 597 = .ok (.aaload, 1) := bz_c50 (by decide +kernel)
theorem d_MD_emitAll_598 : decode b_MD_emitAll 598 = .ok (.invokevirtual 437, 3) := bz_c182 (by decide +kernel)
theorem d_MD_emitAll_601 : decode b_MD_emitAll 601 = .ok (.aload_n 0, 1) := bz_c42 (by decide +kernel)
theorem d_MD_emitAll_602 : decode b_MD_emitAll 602 = .ok (.iload 5, 2) := bz_c21 (by decide +kernel)
theorem d_MD_emitAll_604 : decode b_MD_emitAll 604 = .ok (.invokevirtual 425, 3) := bz_c182 (by decide +kernel)
theorem d_MD_emitAll_607 : decode b_MD_emitAll 607 = .ok (.iinc 4 1, 3) := by decide +kernel
theorem d_MD_emitAll_610 : decode b_MD_emitAll 610 = .ok (.goto (-35), 3) := bz_c167 (by decide +kernel)
theorem d_MD_emitAll_613 : decode b_MD_emitAll 613 = .ok (.aload_n 0, 1) := bz_c42 (by decide +kernel)
theorem d_MD_emitAll_614 : decode b_MD_emitAll 614 = .ok (.iload_n 2, 1) := bz_c28 (by decide +kernel)
theorem d_MD_emitAll_615 : decode b_MD_emitAll 615 = .ok (.invokevirtual 425, 3) := bz_c182 (by decide +kernel)
theorem d_MD_emitAll_618 : decode b_MD_emitAll 618 = .ok (.return_, 1) := bz_c177 (by decide +kernel)
theorem kM_MD_418 : Cond.methodLink R_MD 418 y_MD_alike ∈ lw_g := in_c12 110 rfl rfl
theorem kT_MD_alike : Cond.static y_MD_alike ∈ lw_g := in_c12 111 rfl rfl
theorem kM_MD_422 : Cond.methodLink R_MD 422 y_MD_section ∈ lw_g := in_c12 113 rfl rfl
theorem kV_MD_section : Cond.instanceMethod y_MD_section ∈ lw_g := in_c12 115 rfl rfl
theorem kS_MD_section : Cond.selects R_MD y_MD_section y_MD_section ∈ lw_g := in_s 154 (by decide +kernel) rfl
theorem kM_MD_425 : Cond.methodLink R_MD 425 y_MD_sized ∈ lw_g := in_c12 123 rfl rfl
theorem kV_MD_sized : Cond.instanceMethod y_MD_sized ∈ lw_g := in_c12 125 rfl rfl
theorem kS_MD_sized : Cond.selects R_MD y_MD_sized y_MD_sized ∈ lw_g := in_s 156 (by decide +kernel) rfl
theorem kM_MD_432 : Cond.methodLink R_MD 432 y_MD_putName ∈ lw_g := in_c12 137 rfl rfl
theorem kV_MD_putName : Cond.instanceMethod y_MD_putName ∈ lw_g := in_c12 139 rfl rfl
theorem kS_MD_putName : Cond.selects R_MD y_MD_putName y_MD_putName ∈ lw_g := in_s 159 (by decide +kernel) rfl
theorem kM_MD_437 : Cond.methodLink R_MD 437 y_MD_body ∈ lw_g := in_c12 142 rfl rfl
theorem kV_MD_body : Cond.instanceMethod y_MD_body ∈ lw_g := in_c12 144 rfl rfl
theorem kS_MD_body : Cond.selects R_MD y_MD_body y_MD_body ∈ lw_g := in_s 160 (by decide +kernel) rfl
set_option maxHeartbeats 0 in
theorem sg_MD_emitAll_134 (l : Launch) (hlt : l.stackTraces = false) (dC : Nat → ClassId) (dI : Nat → Nat → Nat) (sa : Nat → Nat) (h0 rf tap gnm gpl gty gvl fun_ lev kno mad mag sml grt h0_module_r h0_spare_r blk stk hgt lab ous kis los mem glo val ffu fre fba fla lat lhe rsl arg : Nat) (cmad cmag cgty cgvl cfun_ csml cgrt cr cpn cpb cps : ClassId) (h0_taped : Int32) (h0_length : Int32) (h0_kind : Int32) (h0_from : Int32) (h0_to : Int32) (h0_word : Value) (h0_numeral : Int64) (h0_globalCount : Int32) (h0_funCount : Int32) (h0_open : Int32) (h0_signs : Int32) (h0_now : Value) (h0_knownCount : Int32) (h0_loops : Int32) (h0_madeLength : Int32) (h0_m : Value) (h0_cursor : Int32) (h0_limit : Int32) (h0_top : Int32) (h0_depth : Int32) (h0_function : Int32) (h0_pages : Int32) (h0_valueTop : Int32) (h0_frames : Int32) (h0_labelTop : Int32) (h0_steps : Int32) (h0_there : Int32) (h0_resultLength : Int32) (h0_reason : Int32) (h0_place : Int32) (h0_argumentCount : Int32) (h0_code : Int32) (gmad : Nat → Int32) (gmag : Nat → Int32) (ggty : Nat → Int32) (ggvl : Nat → Int64) (gfun_ : Nat → Option Nat) (gsml : Nat → Int32) (ggrt : Nat → Int32) (LP : List Nat) (fP : Nat → va_E) (dep : Nat) (hK_emit : k_MD_emit1 l dep) (hdp9 : 373 ≤ dep) (fa : Nat → Nat) (kf : Nat → Int) (nmf : Nat → Value) (plf : Nat → Int32) (nsf : Nat → Nat) (lsf : Nat → Nat) (yf : Nat → Nat) (psf : Nat → Int32) (Nf : Nat → Int32) (rsf : Nat → Int32) (bf : Nat → Nat) (Tf : Nat → Nat → Int32) (df : Nat → Nat) (sgf : Nat → Int32) (ggv : Nat → Int) (gtk : Nat → Int) (gC : Int)  (b_h0_globalCount : 0 ≤ h0_globalCount.toInt ∧ h0_globalCount.toInt ≤ 20) (b_h0_funCount : 0 ≤ h0_funCount.toInt ∧ h0_funCount.toInt ≤ 20) (b_h0_madeLength : 0 ≤ h0_madeLength.toInt ∧ h0_madeLength.toInt ≤ 32768) (b_gsml : ∀ j : Nat, (j < 17 → tw9 (gsml j))) (b_ggrt : ∀ j : Nat, (j < 17 → tw9 (ggrt j)))  (hf : bx (fte LP fP cr cpn cpb h0_funCount.toInt h0_globalCount.toInt ggv gtk h0_funCount.toInt gfun_ fa kf nmf plf nsf lsf yf psf Nf rsf bf Tf df sgf)) (hfp : bx (ffp LP fP cpn h0_funCount.toInt df bf)) (hin : bx (inj9 h0_funCount.toInt fa)) (hgl : bx (∀ j : Nat, (j : Int) < h0_globalCount.toInt → t27 (ggty j).toInt ∧ ((ggty j).toInt = 127 → in32 (ggvl j)))) (hks : 1 ≤ h0_funCount.toInt ∧ ksum kf h0_funCount.toInt.toNat ≤ gC ∧ gC + 16 * h0_funCount.toInt ≤ 40000) (hgk : bx (∀ v : Nat, 0 ≤ ggv v ∧ 0 ≤ gtk v)) {p : Program} {e : Env} {s : State} {m : MethodId} {below : List Frame} {meth : Method} {c : Code} {A : Nat → Prop} {Q : State → Prop} (hml : c.maxLocals = 6) (hx : p.tables.exec = Jvm.exec) (hb : c.code = b_MD_emitAll) (hr : meth.sig.returnType = none) (hts : ∀ w ∈ lw_g, w.before #[.ref h0] s = true) (hown : s.vm.findClass R_MD = some m.cls) (hlocks : meth.locks = false) (hK : va_K (dC, dI) cls2 [(cmad, .byte), (cmag, .int), (cgty, .int), (cgvl, .long), (cfun_, .object "WaferForgeModel$Fun"), (csml, .int), (cgrt, .int), (cr, .int), (cpn, .object "WaferForgeModel$N"), (cpb, .byte), (cps, .object "java/lang/String")] s) (hSW : sm sa A s s.heap) (hA : ∀ q : Nat, s.heap.size ≤ q → A q) (jn302 : ∀ (u : (Nat → Int32) × Int32 × (Nat → va_E)) (H : Heap) (locs : List Loc) (ls : Array Slot), (fun u H locs ls => match u with | (j302_mad, j302_h0_madeLength, j302_PO) => (0 ≤ j302_h0_madeLength.toInt ∧ j302_h0_madeLength.toInt ≤ 32768) ∧ (bx (∃ (sg : Nat → Int32) (R tb : List Nat), fte LP j302_PO cr cpn cpb h0_funCount.toInt h0_globalCount.toInt ggv gtk h0_funCount.toInt gfun_ fa kf nmf plf nsf lsf yf psf Nf rsf bf Tf df sg ∧ tyI sg gtk (qf9 rsf) h0_funCount.toNatClampNeg R ∧ tB gtk (qf9 rsf) R tb ∧ mdl j302_mad j302_h0_madeLength (bl gmag 8 ++ sec 1 (leb 5 R.length ++ tb)))) ∧ (9 ≤ j302_h0_madeLength.toInt ∧ j302_h0_madeLength.toInt ≤ 520) ∧ va_P (dC, dI) cls2 (((wz_605 h0 rf tap h0_taped h0_length h0_kind h0_from h0_to h0_word h0_numeral gnm gpl gty gvl h0_globalCount fun_ h0_funCount h0_open h0_signs lev h0_now kno h0_knownCount h0_loops mad j302_h0_madeLength mag sml grt h0_module_r h0_spare_r h0_m h0_cursor h0_limit blk stk h0_top hgt lab ous kis los h0_depth h0_function mem h0_pages glo val h0_valueTop ffu fre fba fla h0_frames lat lhe h0_labelTop h0_steps h0_there rsl h0_resultLength h0_reason h0_place arg h0_argumentCount h0_code mad cmad j302_mad mag cmag gmag gty cgty ggty gvl cgvl ggvl fun_ cfun_ gfun_ sml csml gsml grt cgrt ggrt) : va_W) ++ va_pl LP j302_PO) H ∧ va_D A (((wz_605 h0 rf tap h0_taped h0_length h0_kind h0_from h0_to h0_word h0_numeral gnm gpl gty gvl h0_globalCount fun_ h0_funCount h0_open h0_signs lev h0_now kno h0_knownCount h0_loops mad j302_h0_madeLength mag sml grt h0_module_r h0_spare_r h0_m h0_cursor h0_limit blk stk h0_top hgt lab ous kis los h0_depth h0_function mem h0_pages glo val h0_valueTop ffu fre fba fla h0_frames lat lhe h0_labelTop h0_steps h0_there rsl h0_resultLength h0_reason h0_place arg h0_argumentCount h0_code mad cmad j302_mad mag cmag gmag gty cgty ggty gvl cgvl ggvl fun_ cfun_ gfun_ sml csml gsml grt cgrt ggrt) : va_W) ++ va_pl LP j302_PO) ∧ va_S A s.heap H locs ∧ lv_has ls 6 [(0, .ref h0)]) u H locs ls → W p l e (headSpec w_MD_emitAll { frames := 3 * dep + 46, cells := gC.toNat, slots := 8 * gC.toNat, locals := 80 * dep + 640 }).room s m #[.ref h0] below meth c H locs 0 0 Q (F0 m 302 ls ((fun u : (Nat → Int32) × Int32 × (Nat → va_E) => match u with | (j302_mad, j302_h0_madeLength, j302_PO) => []) u))) : ∀ (u : Int32 × (Nat → Int32) × Int32 × (Nat → va_E)) (H : Heap) (locs : List Loc) (ls : Array Slot), (fun u H locs ls => match u with | (j134_l1, j134_mad, j134_h0_madeLength, j134_PO) => (0 ≤ j134_h0_madeLength.toInt ∧ j134_h0_madeLength.toInt ≤ 32768) ∧ (bx (∃ (sg : Nat → Int32) (R : List Nat), fte LP j134_PO cr cpn cpb h0_funCount.toInt h0_globalCount.toInt ggv gtk h0_funCount.toInt gfun_ fa kf nmf plf nsf lsf yf psf Nf rsf bf Tf df sg ∧ tyI sg gtk (qf9 rsf) h0_funCount.toNatClampNeg R ∧ (R.length : Int) = j134_l1.toInt ∧ mdl j134_mad j134_h0_madeLength (bl gmag 8))) ∧ (j134_h0_madeLength.toInt = 8) ∧ va_P (dC, dI) cls2 (((wz_605 h0 rf tap h0_taped h0_length h0_kind h0_from h0_to h0_word h0_numeral gnm gpl gty gvl h0_globalCount fun_ h0_funCount h0_open h0_signs lev h0_now kno h0_knownCount h0_loops mad j134_h0_madeLength mag sml grt h0_module_r h0_spare_r h0_m h0_cursor h0_limit blk stk h0_top hgt lab ous kis los h0_depth h0_function mem h0_pages glo val h0_valueTop ffu fre fba fla h0_frames lat lhe h0_labelTop h0_steps h0_there rsl h0_resultLength h0_reason h0_place arg h0_argumentCount h0_code mad cmad j134_mad mag cmag gmag gty cgty ggty gvl cgvl ggvl fun_ cfun_ gfun_ sml csml gsml grt cgrt ggrt) : va_W) ++ va_pl LP j134_PO) H ∧ va_D A (((wz_605 h0 rf tap h0_taped h0_length h0_kind h0_from h0_to h0_word h0_numeral gnm gpl gty gvl h0_globalCount fun_ h0_funCount h0_open h0_signs lev h0_now kno h0_knownCount h0_loops mad j134_h0_madeLength mag sml grt h0_module_r h0_spare_r h0_m h0_cursor h0_limit blk stk h0_top hgt lab ous kis los h0_depth h0_function mem h0_pages glo val h0_valueTop ffu fre fba fla h0_frames lat lhe h0_labelTop h0_steps h0_there rsl h0_resultLength h0_reason h0_place arg h0_argumentCount h0_code mad cmad j134_mad mag cmag gmag gty cgty ggty gvl cgvl ggvl fun_ cfun_ gfun_ sml csml gsml grt cgrt ggrt) : va_W) ++ va_pl LP j134_PO) ∧ va_S A s.heap H locs ∧ lv_has ls 6 [(0, .ref h0), (1, .int j134_l1)]) u H locs ls → W p l e (headSpec w_MD_emitAll { frames := 3 * dep + 46, cells := gC.toNat, slots := 8 * gC.toNat, locals := 80 * dep + 640 }).room s m #[.ref h0] below meth c H locs 0 0 Q (F0 m 134 ls ((fun u : Int32 × (Nat → Int32) × Int32 × (Nat → va_E) => match u with | (j134_l1, j134_mad, j134_h0_madeLength, j134_PO) => []) u)) := by
  intro u H locs ls hI
  obtain ⟨j134_l1, j134_mad, j134_h0_madeLength, j134_PO⟩ := u
  obtain ⟨b_j134_h0_madeLength, e1, e2, hP, hD, hS, hl⟩ := hI
  try dsimp only
  have k0 : (0 : Int32).toInt = 0 := by decide
  have km1 : (-1 : Int32).toInt = -1 := by decide
  have k1 : (1 : Int32).toInt = 1 := by decide
  have k2 : (2 : Int32).toInt = 2 := by decide
  have k3 : (3 : Int32).toInt = 3 := by decide
  have k5 : (5 : Int32).toInt = 5 := by decide
  have k6 : (6 : Int32).toInt = 6 := by decide
  have k7 : (7 : Int32).toInt = 7 := by decide
  have k8 : (8 : Int32).toInt = 8 := by decide
  have k10 : (10 : Int32).toInt = 10 := by decide
  have k11 : (11 : Int32).toInt = 11 := by decide
  have k96 : (96 : Int32).toInt = 96 := by decide
  have hnd := vq_nd hD
  have md0 : (0 : Int32).toInt = 0 := by decide
  have hk1 := hks.1
  have hk2 := hks.2.1
  have hk3 := hks.2.2
  have ksn : 0 ≤ ksum kf h0_funCount.toInt.toNat := ks_0 (fun i hi => (hf.out i (by (first | (apply Int.le_antisymm <;> omega) | omega))).2.1)
  refine lv_aload_n hx hb d_MD_emitAll_134 rfl (lv_at hl 0 rfl) ?_
  obtain ⟨sg, R, hf, tyr, tyl, md⟩ := e1.out
  replace tyr : bx _ := tyr
  have hf : bx (fte LP j134_PO cr cpn cpb h0_funCount.toInt h0_globalCount.toInt ggv gtk h0_funCount.toInt gfun_ fa kf nmf plf nsf lsf yf psf Nf rsf bf Tf df sg) := hf
  obtain ⟨Amg, eAmg⟩ : ∃ z : List Nat, z = bl gmag 8 := ⟨_, rfl⟩
  rw [← eAmg] at md
  have md : bx (mdl j134_mad j134_h0_madeLength Amg) := md
  have hAl : Amg.length = 8 := by rw [eAmg, bl_len]
  have zfc := i32_clamp (x := h0_funCount) (by (first | (apply Int.le_antisymm <;> omega) | omega))
  have tyn2 := tyI_len _ tyr.out
  refine lv_iconst (v := 1) hx hb d_MD_emitAll_135 (by decide) ?_
  have hPc := hP.sb (wq := (wz_311 h0 rf tap h0_taped h0_length h0_kind h0_from h0_to h0_word h0_numeral gnm gpl gty gvl h0_globalCount fun_ h0_funCount h0_open h0_signs lev h0_now kno h0_knownCount h0_loops mad j134_h0_madeLength mag sml grt h0_module_r h0_spare_r h0_m h0_cursor h0_limit blk stk h0_top hgt lab ous kis los h0_depth h0_function mem h0_pages glo val h0_valueTop ffu fre fba fla h0_frames lat lhe h0_labelTop h0_steps h0_there rsl h0_resultLength h0_reason h0_place arg h0_argumentCount h0_code mad cmad j134_mad)) [0, 1] rfl
  have hDc := hD.sb (wq := (wz_311 h0 rf tap h0_taped h0_length h0_kind h0_from h0_to h0_word h0_numeral gnm gpl gty gvl h0_globalCount fun_ h0_funCount h0_open h0_signs lev h0_now kno h0_knownCount h0_loops mad j134_h0_madeLength mag sml grt h0_module_r h0_spare_r h0_m h0_cursor h0_limit blk stk h0_top hgt lab ous kis los h0_depth h0_function mem h0_pages glo val h0_valueTop ffu fre fba fla h0_frames lat lhe h0_labelTop h0_steps h0_there rsl h0_resultLength h0_reason h0_place arg h0_argumentCount h0_code mad cmad j134_mad)) [0, 1] (by decide) rfl
  have hKc := hK.sb (tyq := [(cmad, .byte)]) [0] rfl
  have hFc := va_free (wc := (wz_311 h0 rf tap h0_taped h0_length h0_kind h0_from h0_to h0_word h0_numeral gnm gpl gty gvl h0_globalCount fun_ h0_funCount h0_open h0_signs lev h0_now kno h0_knownCount h0_loops mad j134_h0_madeLength mag sml grt h0_module_r h0_spare_r h0_m h0_cursor h0_limit blk stk h0_top hgt lab ous kis los h0_depth h0_function mem h0_pages glo val h0_valueTop ffu fre fba fla h0_frames lat lhe h0_labelTop h0_steps h0_there rsl h0_resultLength h0_reason h0_place arg h0_argumentCount h0_code mad cmad j134_mad)) hD hS hA [0, 1] rfl
  refine va_calli (va_runV (As := [.int 1]) (rest := []) ⟨hx, hb, hml, hown, hts⟩ (c_MD_section l dC dI H.size h0 rf tap gnm gpl gty gvl fun_ lev kno mad mag sml grt h0_module_r h0_spare_r blk stk hgt lab ous kis los mem glo val ffu fre fba fla lat lhe rsl arg cmad h0_taped h0_length h0_kind h0_from h0_to h0_word h0_numeral h0_globalCount h0_funCount h0_open h0_signs h0_now h0_knownCount h0_loops j134_h0_madeLength h0_m h0_cursor h0_limit h0_top h0_depth h0_function h0_pages h0_valueTop h0_frames h0_labelTop h0_steps h0_there h0_resultLength h0_reason h0_place h0_argumentCount h0_code j134_mad (b_j134_h0_madeLength) 1 (by (first | (apply Int.le_antisymm <;> omega) | omega))) (cwV 1 hts (gV kM_MD_422 kV_MD_section kS_MD_section kI_MD kC_MD_section) rfl rfl rfl (by decide +kernel) ⟨(show 1 + 1 ≤ 3 * dep + 46 from by (first | (apply Int.le_antisymm <;> omega) | omega)), (show 8 + (2 + 11) + (21) ≤ 80 * dep + 640 from by (first | (apply Int.le_antisymm <;> omega) | omega))⟩) ⟨fun a U g mk z => by obtain ⟨z0, z1, zP, zK, zD, zS⟩ := z; exact ⟨z0, z1, zP, va_K.moved (u := U) (U := U.calling g mk a) (Vm.Alike.refl U.vm) zK, zD, sw_nest.same (s := U) (U := U.calling g mk a) rfl zS⟩, va_recv hKc hPc (ci := 11) (q0 := 0) rfl rfl, fun U hU hW => ⟨rfl, by rw [hU], va_P.he hU.symm hPc, va_K.moved hW.alike hKc, hDc.weaken (fun _ _ _ _ => trivial), hSW.nest.warm hW⟩⟩ rfl rfl hl.1 rfl (lv_room (Nat.le_of_ble_eq_true rfl)) d_MD_emitAll_136 ⟨by dsimp only [headSpec]; (first | (apply Int.le_antisymm <;> omega) | omega), by dsimp only [headSpec]; (first | (apply Int.le_antisymm <;> omega) | omega)⟩) hS (fun q _ h => hFc q h) hFc (fun r1 u t H1 locs ht hvm hw hB hz1 hk1 hS => ?_)
  obtain ⟨n2, n3⟩ := u
  try dsimp only at hw
  obtain ⟨bn3, xr1⟩ := hw
  try clear hw
  obtain ⟨s1_, s2_, s3_⟩ := xr1
  obtain ⟨hP1, hK1, hD1⟩ := hB
  replace hP1 := va_P.he ht hP1
  obtain ⟨hP, hD⟩ := va_joinQ (wr := (wz_606 mag cmag gmag gty cgty ggty gvl cgvl ggvl fun_ cfun_ gfun_ sml csml gsml grt cgrt ggrt)) (w1 := (wz_311 h0 rf tap h0_taped h0_length h0_kind h0_from h0_to h0_word h0_numeral gnm gpl gty gvl h0_globalCount fun_ h0_funCount h0_open h0_signs lev h0_now kno h0_knownCount h0_loops mad n3 mag sml grt h0_module_r h0_spare_r h0_m h0_cursor h0_limit blk stk h0_top hgt lab ous kis los h0_depth h0_function mem h0_pages glo val h0_valueTop ffu fre fba fla h0_frames lat lhe h0_labelTop h0_steps h0_there rsl h0_resultLength h0_reason h0_place arg h0_argumentCount h0_code mad cmad n2)) hP hD [0, 1] [2, 3, 4, 5, 6, 7] rfl rfl (by decide) (by decide) hk1 hFc hP1 hD1
  clear hPc hDc hKc hFc hz1 hk1 hP1 hK1 hD1
  rename Heap => H
  have hP : va_P (dC, dI) cls2 (((wz_607 mag cmag gmag gty cgty ggty gvl cgvl ggvl fun_ cfun_ gfun_ sml csml gsml grt cgrt ggrt h0 rf tap h0_taped h0_length h0_kind h0_from h0_to h0_word h0_numeral gnm gpl gty gvl h0_globalCount fun_ h0_funCount h0_open h0_signs lev h0_now kno h0_knownCount h0_loops mad n3 mag sml grt h0_module_r h0_spare_r h0_m h0_cursor h0_limit blk stk h0_top hgt lab ous kis los h0_depth h0_function mem h0_pages glo val h0_valueTop ffu fre fba fla h0_frames lat lhe h0_labelTop h0_steps h0_there rsl h0_resultLength h0_reason h0_place arg h0_argumentCount h0_code mad cmad n2) : va_W) ++ va_pl LP j134_PO) H := hP
  have hD : va_D A (((wz_607 mag cmag gmag gty cgty ggty gvl cgvl ggvl fun_ cfun_ gfun_ sml csml gsml grt cgrt ggrt h0 rf tap h0_taped h0_length h0_kind h0_from h0_to h0_word h0_numeral gnm gpl gty gvl h0_globalCount fun_ h0_funCount h0_open h0_signs lev h0_now kno h0_knownCount h0_loops mad n3 mag sml grt h0_module_r h0_spare_r h0_m h0_cursor h0_limit blk stk h0_top hgt lab ous kis los h0_depth h0_function mem h0_pages glo val h0_valueTop ffu fre fba fla h0_frames lat lhe h0_labelTop h0_steps h0_there rsl h0_resultLength h0_reason h0_place arg h0_argumentCount h0_code mad cmad n2) : va_W) ++ va_pl LP j134_PO) := hD
  rw [show bn (1 : Int32) = 1 from by decide] at s2_
  have md : bx (mdl n2 n3 (Amg ++ [1])) := mdl_app md.out s2_ (by (first | (apply Int.le_antisymm <;> omega) | omega))
  have hst1 : r1.toInt = (((Amg ++ [1]) : List Nat).length : Int) := (by rw [s3_]; exact md.out.1)
  refine lv_istore_n (lv' := [(2, .int r1), (0, .ref h0), (1, .int j134_l1)]) hx hb d_MD_emitAll_139 rfl hl (by decide) rfl (fun ls hl => ?_)
  refine lv_aload_n hx hb d_MD_emitAll_140 rfl (lv_at hl 1 rfl) ?_
  refine lv_iload_n hx hb d_MD_emitAll_141 rfl (lv_at hl 2 rfl) ?_
  refine lv_i2l hx hb d_MD_emitAll_142 rfl ?_
  refine lv_topl (fun x6 ex6 => ?_)
  have tx6 := i2l_t ex6
  have hPc := hP.sb (wq := (wz_311 h0 rf tap h0_taped h0_length h0_kind h0_from h0_to h0_word h0_numeral gnm gpl gty gvl h0_globalCount fun_ h0_funCount h0_open h0_signs lev h0_now kno h0_knownCount h0_loops mad n3 mag sml grt h0_module_r h0_spare_r h0_m h0_cursor h0_limit blk stk h0_top hgt lab ous kis los h0_depth h0_function mem h0_pages glo val h0_valueTop ffu fre fba fla h0_frames lat lhe h0_labelTop h0_steps h0_there rsl h0_resultLength h0_reason h0_place arg h0_argumentCount h0_code mad cmad n2)) [6, 7] rfl
  have hDc := hD.sb (wq := (wz_311 h0 rf tap h0_taped h0_length h0_kind h0_from h0_to h0_word h0_numeral gnm gpl gty gvl h0_globalCount fun_ h0_funCount h0_open h0_signs lev h0_now kno h0_knownCount h0_loops mad n3 mag sml grt h0_module_r h0_spare_r h0_m h0_cursor h0_limit blk stk h0_top hgt lab ous kis los h0_depth h0_function mem h0_pages glo val h0_valueTop ffu fre fba fla h0_frames lat lhe h0_labelTop h0_steps h0_there rsl h0_resultLength h0_reason h0_place arg h0_argumentCount h0_code mad cmad n2)) [6, 7] (by decide) rfl
  have hKc := hK.sb (tyq := [(cmad, .byte)]) [0] rfl
  have hFc := va_free (wc := (wz_311 h0 rf tap h0_taped h0_length h0_kind h0_from h0_to h0_word h0_numeral gnm gpl gty gvl h0_globalCount fun_ h0_funCount h0_open h0_signs lev h0_now kno h0_knownCount h0_loops mad n3 mag sml grt h0_module_r h0_spare_r h0_m h0_cursor h0_limit blk stk h0_top hgt lab ous kis los h0_depth h0_function mem h0_pages glo val h0_valueTop ffu fre fba fla h0_frames lat lhe h0_labelTop h0_steps h0_there rsl h0_resultLength h0_reason h0_place arg h0_argumentCount h0_code mad cmad n2)) hD hS hA [6, 7] rfl
  refine va_callv (va_runV (As := [.long x6]) (rest := []) ⟨hx, hb, hml, hown, hts⟩ (c_MD_putCount l dC dI H.size h0 rf tap gnm gpl gty gvl fun_ lev kno mad mag sml grt h0_module_r h0_spare_r blk stk hgt lab ous kis los mem glo val ffu fre fba fla lat lhe rsl arg cmad h0_taped h0_length h0_kind h0_from h0_to h0_word h0_numeral h0_globalCount h0_funCount h0_open h0_signs h0_now h0_knownCount h0_loops n3 h0_m h0_cursor h0_limit h0_top h0_depth h0_function h0_pages h0_valueTop h0_frames h0_labelTop h0_steps h0_there h0_resultLength h0_reason h0_place h0_argumentCount h0_code n2 (bn3) x6 (by (first | (apply Int.le_antisymm <;> omega) | omega)) (by (first | (apply Int.le_antisymm <;> omega) | omega))) (cwV 1 hts (gV kM_MD_409 kV_MD_putCount kS_MD_putCount kI_MD kC_MD_putCount) rfl rfl rfl (by decide +kernel) ⟨(show 1 + 1 ≤ 3 * dep + 46 from by (first | (apply Int.le_antisymm <;> omega) | omega)), (show 8 + (5 + 11) + (21) ≤ 80 * dep + 640 from by (first | (apply Int.le_antisymm <;> omega) | omega))⟩) ⟨fun a U g mk z => by obtain ⟨z0, z1, zP, zK, zD, zS⟩ := z; exact ⟨z0, z1, zP, va_K.moved (u := U) (U := U.calling g mk a) (Vm.Alike.refl U.vm) zK, zD, sw_nest.same (s := U) (U := U.calling g mk a) rfl zS⟩, va_recv hKc hPc (ci := 11) (q0 := 0) rfl rfl, fun U hU hW => ⟨rfl, by rw [hU], va_P.he hU.symm hPc, va_K.moved hW.alike hKc, hDc.weaken (fun _ _ _ _ => trivial), hSW.nest.warm hW⟩⟩ rfl rfl hl.1 rfl (lv_room (Nat.le_of_ble_eq_true rfl)) d_MD_emitAll_143 ⟨by dsimp only [headSpec]; (first | (apply Int.le_antisymm <;> omega) | omega), by dsimp only [headSpec]; (first | (apply Int.le_antisymm <;> omega) | omega)⟩) hS (fun q _ h => hFc q h) hFc (fun u t H1 locs ht hvm hw hB hz1 hk1 hS => ?_)
  obtain ⟨n8, n9⟩ := u
  try dsimp only at hw
  obtain ⟨bn9, xr7⟩ := hw
  try clear hw
  obtain ⟨b_1, b_2, -⟩ := xr7
  have b_3 := leb_len 5 (R.length)
  rw [show x6.toInt.toNat = R.length from by (first | (apply Int.le_antisymm <;> omega) | omega)] at b_1
  obtain ⟨hP1, hK1, hD1⟩ := hB
  replace hP1 := va_P.he ht hP1
  obtain ⟨hP, hD⟩ := va_joinQ (wr := (wz_606 mag cmag gmag gty cgty ggty gvl cgvl ggvl fun_ cfun_ gfun_ sml csml gsml grt cgrt ggrt)) (w1 := (wz_311 h0 rf tap h0_taped h0_length h0_kind h0_from h0_to h0_word h0_numeral gnm gpl gty gvl h0_globalCount fun_ h0_funCount h0_open h0_signs lev h0_now kno h0_knownCount h0_loops mad n9 mag sml grt h0_module_r h0_spare_r h0_m h0_cursor h0_limit blk stk h0_top hgt lab ous kis los h0_depth h0_function mem h0_pages glo val h0_valueTop ffu fre fba fla h0_frames lat lhe h0_labelTop h0_steps h0_there rsl h0_resultLength h0_reason h0_place arg h0_argumentCount h0_code mad cmad n8)) hP hD [6, 7] [0, 1, 2, 3, 4, 5] rfl rfl (by decide) (by decide) hk1 hFc hP1 hD1
  clear hPc hDc hKc hFc hz1 hk1 hP1 hK1 hD1
  rename Heap => H
  have hP : va_P (dC, dI) cls2 (((wz_607 mag cmag gmag gty cgty ggty gvl cgvl ggvl fun_ cfun_ gfun_ sml csml gsml grt cgrt ggrt h0 rf tap h0_taped h0_length h0_kind h0_from h0_to h0_word h0_numeral gnm gpl gty gvl h0_globalCount fun_ h0_funCount h0_open h0_signs lev h0_now kno h0_knownCount h0_loops mad n9 mag sml grt h0_module_r h0_spare_r h0_m h0_cursor h0_limit blk stk h0_top hgt lab ous kis los h0_depth h0_function mem h0_pages glo val h0_valueTop ffu fre fba fla h0_frames lat lhe h0_labelTop h0_steps h0_there rsl h0_resultLength h0_reason h0_place arg h0_argumentCount h0_code mad cmad n8) : va_W) ++ va_pl LP j134_PO) H := hP
  have hD : va_D A (((wz_607 mag cmag gmag gty cgty ggty gvl cgvl ggvl fun_ cfun_ gfun_ sml csml gsml grt cgrt ggrt h0 rf tap h0_taped h0_length h0_kind h0_from h0_to h0_word h0_numeral gnm gpl gty gvl h0_globalCount fun_ h0_funCount h0_open h0_signs lev h0_now kno h0_knownCount h0_loops mad n9 mag sml grt h0_module_r h0_spare_r h0_m h0_cursor h0_limit blk stk h0_top hgt lab ous kis los h0_depth h0_function mem h0_pages glo val h0_valueTop ffu fre fba fla h0_frames lat lhe h0_labelTop h0_steps h0_there rsl h0_resultLength h0_reason h0_place arg h0_argumentCount h0_code mad cmad n8) : va_W) ++ va_pl LP j134_PO) := hD
  rw [show x6.toInt.toNat = R.length from by (first | (apply Int.le_antisymm <;> omega) | omega)] at b_2
  have md : bx (mdl n8 n9 ((Amg ++ [1]) ++ leb 5 R.length)) := mdl_app md.out (b_2) (by (first | (apply Int.le_antisymm <;> omega) | omega))
  refine lv_iconst (v := 0) hx hb d_MD_emitAll_146 (by decide) ?_
  refine lv_istore_n (lv' := [(3, .int 0), (2, .int r1), (0, .ref h0), (1, .int j134_l1)]) hx hb d_MD_emitAll_147 rfl hl (by decide) rfl (fun ls hl => ?_)
  refine lv_iconst (v := 0) hx hb d_MD_emitAll_148 (by decide) ?_
  refine lv_istore (lv' := [(4, .int 0), (3, .int 0), (2, .int r1), (0, .ref h0), (1, .int j134_l1)]) hx hb d_MD_emitAll_149 hl (by decide) rfl (fun ls hl => ?_)
  refine w_loop (σ := Int32 × Int32 × (Nat → Int32) × Int32) (fun u H locs ls => match u with | (j151_l3, j151_l4, j151_mad, j151_h0_madeLength) => (0 ≤ j151_l3.toInt ∧ j151_l3.toInt ≤ 20) ∧ (0 ≤ j151_l4.toInt ∧ j151_l4.toInt ≤ 20) ∧ (0 ≤ j151_h0_madeLength.toInt ∧ j151_h0_madeLength.toInt ≤ 32768) ∧ (bx (∃ Rl tb : List Nat, tyI sg gtk (qf9 rsf) j151_l4.toNatClampNeg Rl ∧ (Rl.length : Int) = j151_l3.toInt ∧ tB gtk (qf9 rsf) Rl tb ∧ mdl j151_mad j151_h0_madeLength ((Amg ++ [1]) ++ (leb 5 R.length ++ tb)))) ∧ (j151_l4.toInt ≤ h0_funCount.toInt ∧ j151_l3.toInt ≤ j151_l4.toInt ∧ 9 ≤ j151_h0_madeLength.toInt ∧ j151_h0_madeLength.toInt ≤ 16 + 24 * j151_l4.toInt) ∧ va_P (dC, dI) cls2 (((wz_607 mag cmag gmag gty cgty ggty gvl cgvl ggvl fun_ cfun_ gfun_ sml csml gsml grt cgrt ggrt h0 rf tap h0_taped h0_length h0_kind h0_from h0_to h0_word h0_numeral gnm gpl gty gvl h0_globalCount fun_ h0_funCount h0_open h0_signs lev h0_now kno h0_knownCount h0_loops mad j151_h0_madeLength mag sml grt h0_module_r h0_spare_r h0_m h0_cursor h0_limit blk stk h0_top hgt lab ous kis los h0_depth h0_function mem h0_pages glo val h0_valueTop ffu fre fba fla h0_frames lat lhe h0_labelTop h0_steps h0_there rsl h0_resultLength h0_reason h0_place arg h0_argumentCount h0_code mad cmad j151_mad) : va_W) ++ va_pl LP j134_PO) H ∧ va_D A (((wz_607 mag cmag gmag gty cgty ggty gvl cgvl ggvl fun_ cfun_ gfun_ sml csml gsml grt cgrt ggrt h0 rf tap h0_taped h0_length h0_kind h0_from h0_to h0_word h0_numeral gnm gpl gty gvl h0_globalCount fun_ h0_funCount h0_open h0_signs lev h0_now kno h0_knownCount h0_loops mad j151_h0_madeLength mag sml grt h0_module_r h0_spare_r h0_m h0_cursor h0_limit blk stk h0_top hgt lab ous kis los h0_depth h0_function mem h0_pages glo val h0_valueTop ffu fre fba fla h0_frames lat lhe h0_labelTop h0_steps h0_there rsl h0_resultLength h0_reason h0_place arg h0_argumentCount h0_code mad cmad j151_mad) : va_W) ++ va_pl LP j134_PO) ∧ va_S A s.heap H locs ∧ lv_has ls 6 [(0, .ref h0), (2, .int r1), (3, .int j151_l3), (4, .int j151_l4)]) (fun u => match u with | (j151_l3, j151_l4, j151_mad, j151_h0_madeLength) => (20 - j151_l4.toInt).toNat) ?_ (0, 0, n8, n9) ⟨by (try dsimp only) <;> (first | (apply Int.le_antisymm <;> omega) | omega), by (try dsimp only) <;> (first | (apply Int.le_antisymm <;> omega) | omega), bn9, ⟨[], [], (show tyI _ _ _ 0 [] from rfl), rfl, rfl, (by rw [List.append_nil]; exact md.out)⟩, by (try dsimp only) <;> (first | (apply Int.le_antisymm <;> omega) | omega), hP, hD, hS, lv_sub hl [3, 2, 1, 0] rfl⟩
  intro N151 ih151 u H locs ls hN151 hI
  obtain ⟨j151_l3, j151_l4, j151_mad, j151_h0_madeLength⟩ := u
  obtain ⟨b_j151_l3, b_j151_l4, b_j151_h0_madeLength, tx, u4, hP, hD, hS, hl⟩ := hI
  have hN151 : (20 - j151_l4.toInt).toNat < N151 + 1 := hN151
  refine lv_iload hx hb d_MD_emitAll_151 (lv_at hl 3 rfl) ?_
  obtain ⟨Rl, tb, tyq, tlq, tbq, md⟩ := tx.out
  replace tyq : bx _ := tyq
  replace tbq : bx _ := tbq
  replace md : bx _ := md
  have md1 := md.out.1
  have md : bx (mdl j151_mad j151_h0_madeLength ((Amg ++ [1]) ++ (leb 5 R.length ++ tb))) := md
  refine lv_aload_n hx hb d_MD_emitAll_153 rfl (lv_at hl 0 rfl) ?_
  refine va_get (D := (dC, dI)) (ci := 11) (v := .int h0_funCount) (C := R_MD) (T := F_MD) (N := 65) hx hb hts i_MD hown hK hP 6 rfl rfl 15 (by decide) (hts _ kF_MD_140) (fun _ h9 => h9) rfl d_MD_emitAll_154 ?_
  refine lv_icmp_ge (tgt := 297) hx hb d_MD_emitAll_157 (by decide) (fun c157 => ?_) (fun c157 => ?_)
  · have q157 := leI c157
    have tbe : tB gtk (qf9 rsf) R tb := (by have q := tyI_uniq _ tyr.out (by rw [show h0_funCount.toNatClampNeg = j151_l4.toNatClampNeg from by have z1 := i32_clamp (x := j151_l4) (by (first | (apply Int.le_antisymm <;> omega) | omega)); have z2 := i32_clamp (x := h0_funCount) (by (first | (apply Int.le_antisymm <;> omega) | omega)); (first | (apply Int.le_antisymm <;> omega) | omega)]; exact tyq.out); rw [q]; exact tbq.out)
    replace tbe : bx _ := tbe
    refine lv_aload_n hx hb d_MD_emitAll_297 rfl (lv_at hl 0 rfl) ?_
    refine lv_iload_n hx hb d_MD_emitAll_298 rfl (lv_at hl 1 rfl) ?_
    have md : bx (mdl j151_mad j151_h0_madeLength ((Amg ++ [1]) ++ (leb 5 R.length ++ tb))) := (by first | exact md.out | simpa using md.out)
    have hPc := hP.sb (wq := (wz_311 h0 rf tap h0_taped h0_length h0_kind h0_from h0_to h0_word h0_numeral gnm gpl gty gvl h0_globalCount fun_ h0_funCount h0_open h0_signs lev h0_now kno h0_knownCount h0_loops mad j151_h0_madeLength mag sml grt h0_module_r h0_spare_r h0_m h0_cursor h0_limit blk stk h0_top hgt lab ous kis los h0_depth h0_function mem h0_pages glo val h0_valueTop ffu fre fba fla h0_frames lat lhe h0_labelTop h0_steps h0_there rsl h0_resultLength h0_reason h0_place arg h0_argumentCount h0_code mad cmad j151_mad)) [6, 7] rfl
    have hDc := hD.sb (wq := (wz_311 h0 rf tap h0_taped h0_length h0_kind h0_from h0_to h0_word h0_numeral gnm gpl gty gvl h0_globalCount fun_ h0_funCount h0_open h0_signs lev h0_now kno h0_knownCount h0_loops mad j151_h0_madeLength mag sml grt h0_module_r h0_spare_r h0_m h0_cursor h0_limit blk stk h0_top hgt lab ous kis los h0_depth h0_function mem h0_pages glo val h0_valueTop ffu fre fba fla h0_frames lat lhe h0_labelTop h0_steps h0_there rsl h0_resultLength h0_reason h0_place arg h0_argumentCount h0_code mad cmad j151_mad)) [6, 7] (by decide) rfl
    have hKc := hK.sb (tyq := [(cmad, .byte)]) [0] rfl
    have hFc := va_free (wc := (wz_311 h0 rf tap h0_taped h0_length h0_kind h0_from h0_to h0_word h0_numeral gnm gpl gty gvl h0_globalCount fun_ h0_funCount h0_open h0_signs lev h0_now kno h0_knownCount h0_loops mad j151_h0_madeLength mag sml grt h0_module_r h0_spare_r h0_m h0_cursor h0_limit blk stk h0_top hgt lab ous kis los h0_depth h0_function mem h0_pages glo val h0_valueTop ffu fre fba fla h0_frames lat lhe h0_labelTop h0_steps h0_there rsl h0_resultLength h0_reason h0_place arg h0_argumentCount h0_code mad cmad j151_mad)) hD hS hA [6, 7] rfl
    refine va_callv (va_runV (As := [.int r1]) (rest := []) ⟨hx, hb, hml, hown, hts⟩ (c_MD_sized l dC dI H.size h0 rf tap gnm gpl gty gvl fun_ lev kno mad mag sml grt h0_module_r h0_spare_r blk stk hgt lab ous kis los mem glo val ffu fre fba fla lat lhe rsl arg cmad h0_taped h0_length h0_kind h0_from h0_to h0_word h0_numeral h0_globalCount h0_funCount h0_open h0_signs h0_now h0_knownCount h0_loops j151_h0_madeLength h0_m h0_cursor h0_limit h0_top h0_depth h0_function h0_pages h0_valueTop h0_frames h0_labelTop h0_steps h0_there h0_resultLength h0_reason h0_place h0_argumentCount h0_code j151_mad (b_j151_h0_madeLength) r1 ((by have q := md.out.1; rw [List.length_append] at q; (first | (apply Int.le_antisymm <;> omega) | omega))) (by (first | (apply Int.le_antisymm <;> omega) | omega))) (cwV 1 hts (gV kM_MD_425 kV_MD_sized kS_MD_sized kI_MD kC_MD_sized) rfl rfl rfl (by decide +kernel) ⟨(show 2 + 1 ≤ 3 * dep + 46 from by (first | (apply Int.le_antisymm <;> omega) | omega)), (show 8 + (5 + 11) + (45) ≤ 80 * dep + 640 from by (first | (apply Int.le_antisymm <;> omega) | omega))⟩) ⟨fun a U g mk z => by obtain ⟨z0, z1, zP, zK, zD, zS⟩ := z; exact ⟨z0, z1, zP, va_K.moved (u := U) (U := U.calling g mk a) (Vm.Alike.refl U.vm) zK, zD, sw_nest.same (s := U) (U := U.calling g mk a) rfl zS⟩, va_recv hKc hPc (ci := 11) (q0 := 0) rfl rfl, fun U hU hW => ⟨rfl, by rw [hU], va_P.he hU.symm hPc, va_K.moved hW.alike hKc, hDc.weaken (fun _ _ _ _ => trivial), hSW.nest.warm hW⟩⟩ rfl rfl hl.1 rfl (lv_room (Nat.le_of_ble_eq_true rfl)) d_MD_emitAll_299 ⟨by dsimp only [headSpec]; (first | (apply Int.le_antisymm <;> omega) | omega), by dsimp only [headSpec]; (first | (apply Int.le_antisymm <;> omega) | omega)⟩) hS (fun q _ h => hFc q h) hFc (fun u t H1 locs ht hvm hw hB hz1 hk1 hS => ?_)
    obtain ⟨n13, n14⟩ := u
    try dsimp only at hw
    obtain ⟨bn14, xr12⟩ := hw
    try clear hw
    obtain ⟨z1_, z2_⟩ := xr12
    have zl_ := leb_len 5 (j151_h0_madeLength.toInt - r1.toInt).toNat
    obtain ⟨hP1, hK1, hD1⟩ := hB
    replace hP1 := va_P.he ht hP1
    obtain ⟨hP, hD⟩ := va_joinQ (wr := (wz_606 mag cmag gmag gty cgty ggty gvl cgvl ggvl fun_ cfun_ gfun_ sml csml gsml grt cgrt ggrt)) (w1 := (wz_311 h0 rf tap h0_taped h0_length h0_kind h0_from h0_to h0_word h0_numeral gnm gpl gty gvl h0_globalCount fun_ h0_funCount h0_open h0_signs lev h0_now kno h0_knownCount h0_loops mad n14 mag sml grt h0_module_r h0_spare_r h0_m h0_cursor h0_limit blk stk h0_top hgt lab ous kis los h0_depth h0_function mem h0_pages glo val h0_valueTop ffu fre fba fla h0_frames lat lhe h0_labelTop h0_steps h0_there rsl h0_resultLength h0_reason h0_place arg h0_argumentCount h0_code mad cmad n13)) hP hD [6, 7] [0, 1, 2, 3, 4, 5] rfl rfl (by decide) (by decide) hk1 hFc hP1 hD1
    clear hPc hDc hKc hFc hz1 hk1 hP1 hK1 hD1
    rename Heap => H
    have hP : va_P (dC, dI) cls2 (((wz_607 mag cmag gmag gty cgty ggty gvl cgvl ggvl fun_ cfun_ gfun_ sml csml gsml grt cgrt ggrt h0 rf tap h0_taped h0_length h0_kind h0_from h0_to h0_word h0_numeral gnm gpl gty gvl h0_globalCount fun_ h0_funCount h0_open h0_signs lev h0_now kno h0_knownCount h0_loops mad n14 mag sml grt h0_module_r h0_spare_r h0_m h0_cursor h0_limit blk stk h0_top hgt lab ous kis los h0_depth h0_function mem h0_pages glo val h0_valueTop ffu fre fba fla h0_frames lat lhe h0_labelTop h0_steps h0_there rsl h0_resultLength h0_reason h0_place arg h0_argumentCount h0_code mad cmad n13) : va_W) ++ va_pl LP j134_PO) H := hP
    have hD : va_D A (((wz_607 mag cmag gmag gty cgty ggty gvl cgvl ggvl fun_ cfun_ gfun_ sml csml gsml grt cgrt ggrt h0 rf tap h0_taped h0_length h0_kind h0_from h0_to h0_word h0_numeral gnm gpl gty gvl h0_globalCount fun_ h0_funCount h0_open h0_signs lev h0_now kno h0_knownCount h0_loops mad n14 mag sml grt h0_module_r h0_spare_r h0_m h0_cursor h0_limit blk stk h0_top hgt lab ous kis los h0_depth h0_function mem h0_pages glo val h0_valueTop ffu fre fba fla h0_frames lat lhe h0_labelTop h0_steps h0_there rsl h0_resultLength h0_reason h0_place arg h0_argumentCount h0_code mad cmad n13) : va_W) ++ va_pl LP j134_PO) := hD
    have md : bx (mdl n13 n14 (Amg ++ sec 1 (leb 5 R.length ++ tb))) := mdl_sec (mdl_sz md.out hst1 z2_ (by (first | (apply Int.le_antisymm <;> omega) | omega)))
    obtain ⟨W1, eW1⟩ : ∃ z, z = Amg ++ sec 1 (leb 5 R.length ++ tb) := ⟨_, rfl⟩
    rw [← eW1] at md
    exact jn302 (n13, n14, j134_PO) _ _ _ ⟨bn14, ⟨sg, R, tb, hf.out, tyr.out, tbe.out, (by rw [eW1, eAmg] at md; exact md.out)⟩, by (try dsimp only) <;> (first | (apply Int.le_antisymm <;> omega) | omega), hP.part [6, 7, 0, 1, 2, 3, 4, 5] rfl, hD.part [6, 7, 0, 1, 2, 3, 4, 5] (by decide) rfl, hS, lv_sub hl [0] rfl⟩
  · have q157 := nleI c157
    refine lv_aload_n hx hb d_MD_emitAll_160 rfl (lv_at hl 0 rfl) ?_
    refine va_get (D := (dC, dI)) (ci := 11) (v := .ref fun_) (C := R_MD) (T := F_MD) (N := 65) hx hb hts i_MD hown hK hP 6 rfl rfl 14 (by decide) (hts _ kF_MD_194) (fun _ h9 => h9) rfl d_MD_emitAll_161 ?_
    refine lv_iload hx hb d_MD_emitAll_164 (lv_at hl 3 rfl) ?_
    have zcu17 := i32_clamp (x := j151_l4) (by (first | (apply Int.le_antisymm <;> omega) | omega))
    obtain ⟨gu17, knu17, ⟨yu17, zu17⟩, ⟨au17, bu17⟩, nu17, pu17, tu17, ru17, gvu17, tku17, du17, tsu17⟩ := hf.out j151_l4.toNatClampNeg (by (first | (apply Int.le_antisymm <;> omega) | omega))
    replace tu17 : bx _ := tu17
    replace ru17 : bx _ := ru17
    replace tsu17 : bx _ := tsu17
    replace nu17 : bx _ := nu17
    have g166 : vp_in j151_l4 20 := vp_in_iff.mpr ⟨by (first | (apply Int.le_antisymm <;> omega) | omega), by (first | (apply Int.le_antisymm <;> omega) | omega)⟩
    refine vq_aldo hx hb hK hP 3 4 rfl rfl g166 (y := (fa j151_l4.toNatClampNeg)) gu17 d_MD_emitAll_166 ?_
    obtain ⟨q18, hq18⟩ := pl_ix (X := (wz_607 mag cmag gmag gty cgty ggty gvl cgvl ggvl fun_ cfun_ gfun_ sml csml gsml grt cgrt ggrt h0 rf tap h0_taped h0_length h0_kind h0_from h0_to h0_word h0_numeral gnm gpl gty gvl h0_globalCount fun_ h0_funCount h0_open h0_signs lev h0_now kno h0_knownCount h0_loops mad j151_h0_madeLength mag sml grt h0_module_r h0_spare_r h0_m h0_cursor h0_limit blk stk h0_top hgt lab ous kis los h0_depth h0_function mem h0_pages glo val h0_valueTop ffu fre fba fla h0_frames lat lhe h0_labelTop h0_steps h0_there rsl h0_resultLength h0_reason h0_place arg h0_argumentCount h0_code mad cmad j151_mad)) (L := LP) (f := j134_PO) yu17 zu17
    refine va_getN (D := (dC, dI)) (ci := 14) (v := .int ((sg j151_l4.toNatClampNeg))) (C := R_MF) (T := F_MF) (N := 10) hx hb hts i_MF hown hK hP q18 hq18 rfl 9 (by decide) (sm_f (k := 43) hSW rfl) (fun _ h9 => h9) rfl d_MD_emitAll_167 ?_
    refine lv_iload_n hx hb d_MD_emitAll_170 rfl (lv_at hl 2 rfl) ?_
    refine lv_icmp_eq (tgt := 177) hx hb d_MD_emitAll_171 (by decide) (fun c171 => ?_) (fun c171 => ?_)
    · have q171 := eqI c171
      obtain ⟨x19, ex19⟩ : ∃ z : Int32, z = j151_l3 + 1 := ⟨_, rfl⟩
      have tx19 : x19.toInt = j151_l3.toInt + 1 := by have z := i32_add ex19 (by (first | (apply Int.le_antisymm <;> omega) | omega)) (by (first | (apply Int.le_antisymm <;> omega) | omega)); first | exact z | (first | (apply Int.le_antisymm <;> omega) | omega)
      refine lv_iinc (v := x19) (lv' := [(3, .int x19), (0, .ref h0), (2, .int r1), (4, .int j151_l4)]) hx hb d_MD_emitAll_177 hl (k := 2) rfl (by rw [ex19]; rfl) (by decide) rfl (fun ls hl => ?_)
      refine lv_aload_n hx hb d_MD_emitAll_180 rfl (lv_at hl 1 rfl) ?_
      refine lv_bipush (v := 96) hx hb d_MD_emitAll_181 (by decide) ?_
      have hPc := hP.sb (wq := (wz_311 h0 rf tap h0_taped h0_length h0_kind h0_from h0_to h0_word h0_numeral gnm gpl gty gvl h0_globalCount fun_ h0_funCount h0_open h0_signs lev h0_now kno h0_knownCount h0_loops mad j151_h0_madeLength mag sml grt h0_module_r h0_spare_r h0_m h0_cursor h0_limit blk stk h0_top hgt lab ous kis los h0_depth h0_function mem h0_pages glo val h0_valueTop ffu fre fba fla h0_frames lat lhe h0_labelTop h0_steps h0_there rsl h0_resultLength h0_reason h0_place arg h0_argumentCount h0_code mad cmad j151_mad)) [6, 7] rfl
      have hDc := hD.sb (wq := (wz_311 h0 rf tap h0_taped h0_length h0_kind h0_from h0_to h0_word h0_numeral gnm gpl gty gvl h0_globalCount fun_ h0_funCount h0_open h0_signs lev h0_now kno h0_knownCount h0_loops mad j151_h0_madeLength mag sml grt h0_module_r h0_spare_r h0_m h0_cursor h0_limit blk stk h0_top hgt lab ous kis los h0_depth h0_function mem h0_pages glo val h0_valueTop ffu fre fba fla h0_frames lat lhe h0_labelTop h0_steps h0_there rsl h0_resultLength h0_reason h0_place arg h0_argumentCount h0_code mad cmad j151_mad)) [6, 7] (by decide) rfl
      have hKc := hK.sb (tyq := [(cmad, .byte)]) [0] rfl
      have hFc := va_free (wc := (wz_311 h0 rf tap h0_taped h0_length h0_kind h0_from h0_to h0_word h0_numeral gnm gpl gty gvl h0_globalCount fun_ h0_funCount h0_open h0_signs lev h0_now kno h0_knownCount h0_loops mad j151_h0_madeLength mag sml grt h0_module_r h0_spare_r h0_m h0_cursor h0_limit blk stk h0_top hgt lab ous kis los h0_depth h0_function mem h0_pages glo val h0_valueTop ffu fre fba fla h0_frames lat lhe h0_labelTop h0_steps h0_there rsl h0_resultLength h0_reason h0_place arg h0_argumentCount h0_code mad cmad j151_mad)) hD hS hA [6, 7] rfl
      refine va_callv (va_runV (As := [.int 96]) (rest := []) ⟨hx, hb, hml, hown, hts⟩ (c_MD_put l dC dI H.size h0 rf tap gnm gpl gty gvl fun_ lev kno mad mag sml grt h0_module_r h0_spare_r blk stk hgt lab ous kis los mem glo val ffu fre fba fla lat lhe rsl arg cmad h0_taped h0_length h0_kind h0_from h0_to h0_word h0_numeral h0_globalCount h0_funCount h0_open h0_signs h0_now h0_knownCount h0_loops j151_h0_madeLength h0_m h0_cursor h0_limit h0_top h0_depth h0_function h0_pages h0_valueTop h0_frames h0_labelTop h0_steps h0_there h0_resultLength h0_reason h0_place h0_argumentCount h0_code j151_mad (b_j151_h0_madeLength) 96 (by (first | (apply Int.le_antisymm <;> omega) | omega))) (cwV 1 hts (gV kM_MD_398 kV_MD_put kS_MD_put kI_MD kC_MD_put) rfl rfl rfl (by decide +kernel) ⟨(show 0 + 1 ≤ 3 * dep + 46 from by (first | (apply Int.le_antisymm <;> omega) | omega)), (show 8 + (2 + 11) + (0) ≤ 80 * dep + 640 from by (first | (apply Int.le_antisymm <;> omega) | omega))⟩) ⟨fun a U g mk z => by obtain ⟨z0, z1, zP, zK, zD, zS⟩ := z; exact ⟨z0, z1, zP, va_K.moved (u := U) (U := U.calling g mk a) (Vm.Alike.refl U.vm) zK, zD, sw_nest.same (s := U) (U := U.calling g mk a) rfl zS⟩, va_recv hKc hPc (ci := 11) (q0 := 0) rfl rfl, fun U hU hW => ⟨rfl, by rw [hU], va_P.he hU.symm hPc, va_K.moved hW.alike hKc, hDc.weaken (fun _ _ _ _ => trivial), hSW.nest.warm hW⟩⟩ rfl rfl hl.1 rfl (lv_room (Nat.le_of_ble_eq_true rfl)) d_MD_emitAll_183 ⟨by dsimp only [headSpec]; (first | (apply Int.le_antisymm <;> omega) | omega), by dsimp only [headSpec]; (first | (apply Int.le_antisymm <;> omega) | omega)⟩) hS (fun q _ h => hFc q h) hFc (fun u t H1 locs ht hvm hw hB hz1 hk1 hS => ?_)
      obtain ⟨n21, n22⟩ := u
      try dsimp only at hw
      obtain ⟨bn22, xr20⟩ := hw
      try clear hw
      obtain ⟨c_1, c_2, -⟩ := xr20
      rw [show bn (96 : Int32) = 96 from by decide] at c_2
      obtain ⟨hP1, hK1, hD1⟩ := hB
      replace hP1 := va_P.he ht hP1
      obtain ⟨hP, hD⟩ := va_joinQ (wr := (wz_606 mag cmag gmag gty cgty ggty gvl cgvl ggvl fun_ cfun_ gfun_ sml csml gsml grt cgrt ggrt)) (w1 := (wz_311 h0 rf tap h0_taped h0_length h0_kind h0_from h0_to h0_word h0_numeral gnm gpl gty gvl h0_globalCount fun_ h0_funCount h0_open h0_signs lev h0_now kno h0_knownCount h0_loops mad n22 mag sml grt h0_module_r h0_spare_r h0_m h0_cursor h0_limit blk stk h0_top hgt lab ous kis los h0_depth h0_function mem h0_pages glo val h0_valueTop ffu fre fba fla h0_frames lat lhe h0_labelTop h0_steps h0_there rsl h0_resultLength h0_reason h0_place arg h0_argumentCount h0_code mad cmad n21)) hP hD [6, 7] [0, 1, 2, 3, 4, 5] rfl rfl (by decide) (by decide) hk1 hFc hP1 hD1
      clear hPc hDc hKc hFc hz1 hk1 hP1 hK1 hD1
      rename Heap => H
      have hP : va_P (dC, dI) cls2 (((wz_607 mag cmag gmag gty cgty ggty gvl cgvl ggvl fun_ cfun_ gfun_ sml csml gsml grt cgrt ggrt h0 rf tap h0_taped h0_length h0_kind h0_from h0_to h0_word h0_numeral gnm gpl gty gvl h0_globalCount fun_ h0_funCount h0_open h0_signs lev h0_now kno h0_knownCount h0_loops mad n22 mag sml grt h0_module_r h0_spare_r h0_m h0_cursor h0_limit blk stk h0_top hgt lab ous kis los h0_depth h0_function mem h0_pages glo val h0_valueTop ffu fre fba fla h0_frames lat lhe h0_labelTop h0_steps h0_there rsl h0_resultLength h0_reason h0_place arg h0_argumentCount h0_code mad cmad n21) : va_W) ++ va_pl LP j134_PO) H := hP
      have hD : va_D A (((wz_607 mag cmag gmag gty cgty ggty gvl cgvl ggvl fun_ cfun_ gfun_ sml csml gsml grt cgrt ggrt h0 rf tap h0_taped h0_length h0_kind h0_from h0_to h0_word h0_numeral gnm gpl gty gvl h0_globalCount fun_ h0_funCount h0_open h0_signs lev h0_now kno h0_knownCount h0_loops mad n22 mag sml grt h0_module_r h0_spare_r h0_m h0_cursor h0_limit blk stk h0_top hgt lab ous kis los h0_depth h0_function mem h0_pages glo val h0_valueTop ffu fre fba fla h0_frames lat lhe h0_labelTop h0_steps h0_there rsl h0_resultLength h0_reason h0_place arg h0_argumentCount h0_code mad cmad n21) : va_W) ++ va_pl LP j134_PO) := hD
      have md : bx (mdl n21 n22 ((Amg ++ [1]) ++ ((leb 5 R.length ++ tb) ++ [96]))) := mdl_ap2 md.out (c_2) (by (first | (apply Int.le_antisymm <;> omega) | omega))
      refine lv_aload_n hx hb d_MD_emitAll_186 rfl (lv_at hl 1 rfl) ?_
      refine lv_aload_n hx hb d_MD_emitAll_187 rfl (lv_at hl 1 rfl) ?_
      refine va_get (D := (dC, dI)) (ci := 11) (v := .ref fun_) (C := R_MD) (T := F_MD) (N := 65) hx hb hts i_MD hown hK hP 6 rfl rfl 14 (by decide) (hts _ kF_MD_194) (fun _ h9 => h9) rfl d_MD_emitAll_188 ?_
      refine lv_iload hx hb d_MD_emitAll_191 (lv_at hl 3 rfl) ?_
      have zcu25 := i32_clamp (x := j151_l4) (by (first | (apply Int.le_antisymm <;> omega) | omega))
      obtain ⟨gu25, knu25, ⟨yu25, zu25⟩, ⟨au25, bu25⟩, nu25, pu25, tu25, ru25, gvu25, tku25, du25, tsu25⟩ := hf.out j151_l4.toNatClampNeg (by (first | (apply Int.le_antisymm <;> omega) | omega))
      replace tu25 : bx _ := tu25
      replace ru25 : bx _ := ru25
      replace tsu25 : bx _ := tsu25
      replace nu25 : bx _ := nu25
      have g193 : vp_in j151_l4 20 := vp_in_iff.mpr ⟨by (first | (apply Int.le_antisymm <;> omega) | omega), by (first | (apply Int.le_antisymm <;> omega) | omega)⟩
      refine vq_aldo hx hb hK hP 3 4 rfl rfl g193 (y := (fa j151_l4.toNatClampNeg)) gu25 d_MD_emitAll_193 ?_
      obtain ⟨q26, hq26⟩ := pl_ix (X := (wz_607 mag cmag gmag gty cgty ggty gvl cgvl ggvl fun_ cfun_ gfun_ sml csml gsml grt cgrt ggrt h0 rf tap h0_taped h0_length h0_kind h0_from h0_to h0_word h0_numeral gnm gpl gty gvl h0_globalCount fun_ h0_funCount h0_open h0_signs lev h0_now kno h0_knownCount h0_loops mad n22 mag sml grt h0_module_r h0_spare_r h0_m h0_cursor h0_limit blk stk h0_top hgt lab ous kis los h0_depth h0_function mem h0_pages glo val h0_valueTop ffu fre fba fla h0_frames lat lhe h0_labelTop h0_steps h0_there rsl h0_resultLength h0_reason h0_place arg h0_argumentCount h0_code mad cmad n21)) (L := LP) (f := j134_PO) yu25 zu25
      refine va_getN (D := (dC, dI)) (ci := 14) (v := .int ((psf j151_l4.toNatClampNeg))) (C := R_MF) (T := F_MF) (N := 10) hx hb hts i_MF hown hK hP q26 hq26 rfl 5 (by decide) (sm_f (k := 39) hSW rfl) (fun _ h9 => h9) rfl d_MD_emitAll_194 ?_
      refine lv_i2l hx hb d_MD_emitAll_197 rfl ?_
      refine lv_topl (fun x27 ex27 => ?_)
      have tx27 := i2l_t ex27
      have hPc := hP.sb (wq := (wz_311 h0 rf tap h0_taped h0_length h0_kind h0_from h0_to h0_word h0_numeral gnm gpl gty gvl h0_globalCount fun_ h0_funCount h0_open h0_signs lev h0_now kno h0_knownCount h0_loops mad n22 mag sml grt h0_module_r h0_spare_r h0_m h0_cursor h0_limit blk stk h0_top hgt lab ous kis los h0_depth h0_function mem h0_pages glo val h0_valueTop ffu fre fba fla h0_frames lat lhe h0_labelTop h0_steps h0_there rsl h0_resultLength h0_reason h0_place arg h0_argumentCount h0_code mad cmad n21)) [6, 7] rfl
      have hDc := hD.sb (wq := (wz_311 h0 rf tap h0_taped h0_length h0_kind h0_from h0_to h0_word h0_numeral gnm gpl gty gvl h0_globalCount fun_ h0_funCount h0_open h0_signs lev h0_now kno h0_knownCount h0_loops mad n22 mag sml grt h0_module_r h0_spare_r h0_m h0_cursor h0_limit blk stk h0_top hgt lab ous kis los h0_depth h0_function mem h0_pages glo val h0_valueTop ffu fre fba fla h0_frames lat lhe h0_labelTop h0_steps h0_there rsl h0_resultLength h0_reason h0_place arg h0_argumentCount h0_code mad cmad n21)) [6, 7] (by decide) rfl
      have hKc := hK.sb (tyq := [(cmad, .byte)]) [0] rfl
      have hFc := va_free (wc := (wz_311 h0 rf tap h0_taped h0_length h0_kind h0_from h0_to h0_word h0_numeral gnm gpl gty gvl h0_globalCount fun_ h0_funCount h0_open h0_signs lev h0_now kno h0_knownCount h0_loops mad n22 mag sml grt h0_module_r h0_spare_r h0_m h0_cursor h0_limit blk stk h0_top hgt lab ous kis los h0_depth h0_function mem h0_pages glo val h0_valueTop ffu fre fba fla h0_frames lat lhe h0_labelTop h0_steps h0_there rsl h0_resultLength h0_reason h0_place arg h0_argumentCount h0_code mad cmad n21)) hD hS hA [6, 7] rfl
      refine va_callv (va_runV (As := [.long x27]) (rest := []) ⟨hx, hb, hml, hown, hts⟩ (c_MD_putCount l dC dI H.size h0 rf tap gnm gpl gty gvl fun_ lev kno mad mag sml grt h0_module_r h0_spare_r blk stk hgt lab ous kis los mem glo val ffu fre fba fla lat lhe rsl arg cmad h0_taped h0_length h0_kind h0_from h0_to h0_word h0_numeral h0_globalCount h0_funCount h0_open h0_signs h0_now h0_knownCount h0_loops n22 h0_m h0_cursor h0_limit h0_top h0_depth h0_function h0_pages h0_valueTop h0_frames h0_labelTop h0_steps h0_there h0_resultLength h0_reason h0_place h0_argumentCount h0_code n21 (bn22) x27 (by (first | (apply Int.le_antisymm <;> omega) | omega)) (by (first | (apply Int.le_antisymm <;> omega) | omega))) (cwV 1 hts (gV kM_MD_409 kV_MD_putCount kS_MD_putCount kI_MD kC_MD_putCount) rfl rfl rfl (by decide +kernel) ⟨(show 1 + 1 ≤ 3 * dep + 46 from by (first | (apply Int.le_antisymm <;> omega) | omega)), (show 8 + (5 + 11) + (21) ≤ 80 * dep + 640 from by (first | (apply Int.le_antisymm <;> omega) | omega))⟩) ⟨fun a U g mk z => by obtain ⟨z0, z1, zP, zK, zD, zS⟩ := z; exact ⟨z0, z1, zP, va_K.moved (u := U) (U := U.calling g mk a) (Vm.Alike.refl U.vm) zK, zD, sw_nest.same (s := U) (U := U.calling g mk a) rfl zS⟩, va_recv hKc hPc (ci := 11) (q0 := 0) rfl rfl, fun U hU hW => ⟨rfl, by rw [hU], va_P.he hU.symm hPc, va_K.moved hW.alike hKc, hDc.weaken (fun _ _ _ _ => trivial), hSW.nest.warm hW⟩⟩ rfl rfl hl.1 rfl (lv_room (Nat.le_of_ble_eq_true rfl)) d_MD_emitAll_198 ⟨by dsimp only [headSpec]; (first | (apply Int.le_antisymm <;> omega) | omega), by dsimp only [headSpec]; (first | (apply Int.le_antisymm <;> omega) | omega)⟩) hS (fun q _ h => hFc q h) hFc (fun u t H1 locs ht hvm hw hB hz1 hk1 hS => ?_)
      obtain ⟨n29, n30⟩ := u
      try dsimp only at hw
      obtain ⟨bn30, xr28⟩ := hw
      try clear hw
      obtain ⟨d_1, d_2, -⟩ := xr28
      have d_3 := leb_len 5 ((psf j151_l4.toNatClampNeg).toInt.toNat)
      rw [show x27.toInt.toNat = (psf j151_l4.toNatClampNeg).toInt.toNat from by (first | (apply Int.le_antisymm <;> omega) | omega)] at d_1
      obtain ⟨hP1, hK1, hD1⟩ := hB
      replace hP1 := va_P.he ht hP1
      obtain ⟨hP, hD⟩ := va_joinQ (wr := (wz_606 mag cmag gmag gty cgty ggty gvl cgvl ggvl fun_ cfun_ gfun_ sml csml gsml grt cgrt ggrt)) (w1 := (wz_311 h0 rf tap h0_taped h0_length h0_kind h0_from h0_to h0_word h0_numeral gnm gpl gty gvl h0_globalCount fun_ h0_funCount h0_open h0_signs lev h0_now kno h0_knownCount h0_loops mad n30 mag sml grt h0_module_r h0_spare_r h0_m h0_cursor h0_limit blk stk h0_top hgt lab ous kis los h0_depth h0_function mem h0_pages glo val h0_valueTop ffu fre fba fla h0_frames lat lhe h0_labelTop h0_steps h0_there rsl h0_resultLength h0_reason h0_place arg h0_argumentCount h0_code mad cmad n29)) hP hD [6, 7] [0, 1, 2, 3, 4, 5] rfl rfl (by decide) (by decide) hk1 hFc hP1 hD1
      clear hPc hDc hKc hFc hz1 hk1 hP1 hK1 hD1
      rename Heap => H
      have hP : va_P (dC, dI) cls2 (((wz_607 mag cmag gmag gty cgty ggty gvl cgvl ggvl fun_ cfun_ gfun_ sml csml gsml grt cgrt ggrt h0 rf tap h0_taped h0_length h0_kind h0_from h0_to h0_word h0_numeral gnm gpl gty gvl h0_globalCount fun_ h0_funCount h0_open h0_signs lev h0_now kno h0_knownCount h0_loops mad n30 mag sml grt h0_module_r h0_spare_r h0_m h0_cursor h0_limit blk stk h0_top hgt lab ous kis los h0_depth h0_function mem h0_pages glo val h0_valueTop ffu fre fba fla h0_frames lat lhe h0_labelTop h0_steps h0_there rsl h0_resultLength h0_reason h0_place arg h0_argumentCount h0_code mad cmad n29) : va_W) ++ va_pl LP j134_PO) H := hP
      have hD : va_D A (((wz_607 mag cmag gmag gty cgty ggty gvl cgvl ggvl fun_ cfun_ gfun_ sml csml gsml grt cgrt ggrt h0 rf tap h0_taped h0_length h0_kind h0_from h0_to h0_word h0_numeral gnm gpl gty gvl h0_globalCount fun_ h0_funCount h0_open h0_signs lev h0_now kno h0_knownCount h0_loops mad n30 mag sml grt h0_module_r h0_spare_r h0_m h0_cursor h0_limit blk stk h0_top hgt lab ous kis los h0_depth h0_function mem h0_pages glo val h0_valueTop ffu fre fba fla h0_frames lat lhe h0_labelTop h0_steps h0_there rsl h0_resultLength h0_reason h0_place arg h0_argumentCount h0_code mad cmad n29) : va_W) ++ va_pl LP j134_PO) := hD
      rw [show x27.toInt.toNat = (psf j151_l4.toNatClampNeg).toInt.toNat from by (first | (apply Int.le_antisymm <;> omega) | omega)] at d_2
      have md : bx (mdl n29 n30 ((Amg ++ [1]) ++ (((leb 5 R.length ++ tb) ++ [96]) ++ leb 5 (psf j151_l4.toNatClampNeg).toInt.toNat))) := mdl_ap2 md.out (d_2) (by (first | (apply Int.le_antisymm <;> omega) | omega))
      refine lv_iconst (v := 0) hx hb d_MD_emitAll_201 (by decide) ?_
      refine lv_istore (lv' := [(5, .int 0), (3, .int x19), (0, .ref h0), (2, .int r1), (4, .int j151_l4)]) hx hb d_MD_emitAll_202 hl (by decide) rfl (fun ls hl => ?_)
      refine w_loop (σ := Int32 × (Nat → Int32) × Int32) (fun u H locs ls => match u with | (j204_l5, j204_mad, j204_h0_madeLength) => (0 ≤ j204_l5.toInt ∧ j204_l5.toInt ≤ 8) ∧ (0 ≤ j204_h0_madeLength.toInt ∧ j204_h0_madeLength.toInt ≤ 32768) ∧ (bx (mdl j204_mad j204_h0_madeLength ((Amg ++ [1]) ++ ((((leb 5 R.length ++ tb) ++ [96]) ++ leb 5 (psf j151_l4.toNatClampNeg).toInt.toNat) ++ bl (Tf j151_l4.toNatClampNeg) j204_l5.toNatClampNeg)))) ∧ (j204_l5.toInt ≤ (psf j151_l4.toNatClampNeg).toInt ∧ 9 ≤ j204_h0_madeLength.toInt ∧ j204_h0_madeLength.toInt ≤ 24 + 24 * j151_l4.toInt + j204_l5.toInt) ∧ va_P (dC, dI) cls2 (((wz_607 mag cmag gmag gty cgty ggty gvl cgvl ggvl fun_ cfun_ gfun_ sml csml gsml grt cgrt ggrt h0 rf tap h0_taped h0_length h0_kind h0_from h0_to h0_word h0_numeral gnm gpl gty gvl h0_globalCount fun_ h0_funCount h0_open h0_signs lev h0_now kno h0_knownCount h0_loops mad j204_h0_madeLength mag sml grt h0_module_r h0_spare_r h0_m h0_cursor h0_limit blk stk h0_top hgt lab ous kis los h0_depth h0_function mem h0_pages glo val h0_valueTop ffu fre fba fla h0_frames lat lhe h0_labelTop h0_steps h0_there rsl h0_resultLength h0_reason h0_place arg h0_argumentCount h0_code mad cmad j204_mad) : va_W) ++ va_pl LP j134_PO) H ∧ va_D A (((wz_607 mag cmag gmag gty cgty ggty gvl cgvl ggvl fun_ cfun_ gfun_ sml csml gsml grt cgrt ggrt h0 rf tap h0_taped h0_length h0_kind h0_from h0_to h0_word h0_numeral gnm gpl gty gvl h0_globalCount fun_ h0_funCount h0_open h0_signs lev h0_now kno h0_knownCount h0_loops mad j204_h0_madeLength mag sml grt h0_module_r h0_spare_r h0_m h0_cursor h0_limit blk stk h0_top hgt lab ous kis los h0_depth h0_function mem h0_pages glo val h0_valueTop ffu fre fba fla h0_frames lat lhe h0_labelTop h0_steps h0_there rsl h0_resultLength h0_reason h0_place arg h0_argumentCount h0_code mad cmad j204_mad) : va_W) ++ va_pl LP j134_PO) ∧ va_S A s.heap H locs ∧ lv_has ls 6 [(0, .ref h0), (2, .int r1), (3, .int x19), (4, .int j151_l4), (5, .int j204_l5)]) (fun u => match u with | (j204_l5, j204_mad, j204_h0_madeLength) => (8 - j204_l5.toInt).toNat) ?_ (0, n29, n30) ⟨by (try dsimp only) <;> (first | (apply Int.le_antisymm <;> omega) | omega), bn30, (by rw [show bl (Tf j151_l4.toNatClampNeg) (0 : Int32).toNatClampNeg = [] from rfl, List.append_nil]; exact md.out), by (try dsimp only) <;> (first | (apply Int.le_antisymm <;> omega) | omega), hP, hD, hS, lv_sub hl [2, 3, 1, 4, 0] rfl⟩
      intro N204 ih204 u H locs ls hN204 hI
      obtain ⟨j204_l5, j204_mad, j204_h0_madeLength⟩ := u
      obtain ⟨b_j204_l5, b_j204_h0_madeLength, mp, u5, hP, hD, hS, hl⟩ := hI
      have hN204 : (8 - j204_l5.toInt).toNat < N204 + 1 := hN204
      refine lv_iload hx hb d_MD_emitAll_204 (lv_at hl 4 rfl) ?_
      have zc5 := i32_clamp (x := j204_l5) (by (first | (apply Int.le_antisymm <;> omega) | omega))
      refine lv_aload_n hx hb d_MD_emitAll_206 rfl (lv_at hl 0 rfl) ?_
      refine va_get (D := (dC, dI)) (ci := 11) (v := .ref fun_) (C := R_MD) (T := F_MD) (N := 65) hx hb hts i_MD hown hK hP 6 rfl rfl 14 (by decide) (hts _ kF_MD_194) (fun _ h9 => h9) rfl d_MD_emitAll_207 ?_
      refine lv_iload hx hb d_MD_emitAll_210 (lv_at hl 3 rfl) ?_
      have zcu33 := i32_clamp (x := j151_l4) (by (first | (apply Int.le_antisymm <;> omega) | omega))
      obtain ⟨gu33, knu33, ⟨yu33, zu33⟩, ⟨au33, bu33⟩, nu33, pu33, tu33, ru33, gvu33, tku33, du33, tsu33⟩ := hf.out j151_l4.toNatClampNeg (by (first | (apply Int.le_antisymm <;> omega) | omega))
      replace tu33 : bx _ := tu33
      replace ru33 : bx _ := ru33
      replace tsu33 : bx _ := tsu33
      replace nu33 : bx _ := nu33
      have g212 : vp_in j151_l4 20 := vp_in_iff.mpr ⟨by (first | (apply Int.le_antisymm <;> omega) | omega), by (first | (apply Int.le_antisymm <;> omega) | omega)⟩
      refine vq_aldo hx hb hK hP 3 4 rfl rfl g212 (y := (fa j151_l4.toNatClampNeg)) gu33 d_MD_emitAll_212 ?_
      obtain ⟨q34, hq34⟩ := pl_ix (X := (wz_607 mag cmag gmag gty cgty ggty gvl cgvl ggvl fun_ cfun_ gfun_ sml csml gsml grt cgrt ggrt h0 rf tap h0_taped h0_length h0_kind h0_from h0_to h0_word h0_numeral gnm gpl gty gvl h0_globalCount fun_ h0_funCount h0_open h0_signs lev h0_now kno h0_knownCount h0_loops mad j204_h0_madeLength mag sml grt h0_module_r h0_spare_r h0_m h0_cursor h0_limit blk stk h0_top hgt lab ous kis los h0_depth h0_function mem h0_pages glo val h0_valueTop ffu fre fba fla h0_frames lat lhe h0_labelTop h0_steps h0_there rsl h0_resultLength h0_reason h0_place arg h0_argumentCount h0_code mad cmad j204_mad)) (L := LP) (f := j134_PO) yu33 zu33
      refine va_getN (D := (dC, dI)) (ci := 14) (v := .int ((psf j151_l4.toNatClampNeg))) (C := R_MF) (T := F_MF) (N := 10) hx hb hts i_MF hown hK hP q34 hq34 rfl 5 (by decide) (sm_f (k := 39) hSW rfl) (fun _ h9 => h9) rfl d_MD_emitAll_213 ?_
      refine lv_icmp_ge (tgt := 242) hx hb d_MD_emitAll_216 (by decide) (fun c216 => ?_) (fun c216 => ?_)
      · have q216 := leI c216
        have md : bx (mdl j204_mad j204_h0_madeLength ((Amg ++ [1]) ++ ((((leb 5 R.length ++ tb) ++ [96]) ++ leb 5 (psf j151_l4.toNatClampNeg).toInt.toNat) ++ bl (Tf j151_l4.toNatClampNeg) (psf j151_l4.toNatClampNeg).toInt.toNat))) := (by have q := mp.out; rw [show j204_l5.toNatClampNeg = (psf j151_l4.toNatClampNeg).toInt.toNat from by (first | (apply Int.le_antisymm <;> omega) | omega)] at q; exact q)
        refine lv_aload_n hx hb d_MD_emitAll_242 rfl (lv_at hl 0 rfl) ?_
        refine lv_aload_n hx hb d_MD_emitAll_243 rfl (lv_at hl 0 rfl) ?_
        refine va_get (D := (dC, dI)) (ci := 11) (v := .ref fun_) (C := R_MD) (T := F_MD) (N := 65) hx hb hts i_MD hown hK hP 6 rfl rfl 14 (by decide) (hts _ kF_MD_194) (fun _ h9 => h9) rfl d_MD_emitAll_244 ?_
        refine lv_iload hx hb d_MD_emitAll_247 (lv_at hl 3 rfl) ?_
        have zcu35 := i32_clamp (x := j151_l4) (by (first | (apply Int.le_antisymm <;> omega) | omega))
        obtain ⟨gu35, knu35, ⟨yu35, zu35⟩, ⟨au35, bu35⟩, nu35, pu35, tu35, ru35, gvu35, tku35, du35, tsu35⟩ := hf.out j151_l4.toNatClampNeg (by (first | (apply Int.le_antisymm <;> omega) | omega))
        replace tu35 : bx _ := tu35
        replace ru35 : bx _ := ru35
        replace tsu35 : bx _ := tsu35
        replace nu35 : bx _ := nu35
        have g249 : vp_in j151_l4 20 := vp_in_iff.mpr ⟨by (first | (apply Int.le_antisymm <;> omega) | omega), by (first | (apply Int.le_antisymm <;> omega) | omega)⟩
        refine vq_aldo hx hb hK hP 3 4 rfl rfl g249 (y := (fa j151_l4.toNatClampNeg)) gu35 d_MD_emitAll_249 ?_
        obtain ⟨q36, hq36⟩ := pl_ix (X := (wz_607 mag cmag gmag gty cgty ggty gvl cgvl ggvl fun_ cfun_ gfun_ sml csml gsml grt cgrt ggrt h0 rf tap h0_taped h0_length h0_kind h0_from h0_to h0_word h0_numeral gnm gpl gty gvl h0_globalCount fun_ h0_funCount h0_open h0_signs lev h0_now kno h0_knownCount h0_loops mad j204_h0_madeLength mag sml grt h0_module_r h0_spare_r h0_m h0_cursor h0_limit blk stk h0_top hgt lab ous kis los h0_depth h0_function mem h0_pages glo val h0_valueTop ffu fre fba fla h0_frames lat lhe h0_labelTop h0_steps h0_there rsl h0_resultLength h0_reason h0_place arg h0_argumentCount h0_code mad cmad j204_mad)) (L := LP) (f := j134_PO) yu35 zu35
        refine va_getN (D := (dC, dI)) (ci := 14) (v := .int ((rsf j151_l4.toNatClampNeg))) (C := R_MF) (T := F_MF) (N := 10) hx hb hts i_MF hown hK hP q36 hq36 rfl 7 (by decide) (sm_f (k := 41) hSW rfl) (fun _ h9 => h9) rfl d_MD_emitAll_250 ?_
        refine lv_if_ne (tgt := 260) hx hb d_MD_emitAll_253 (by decide) (fun c253 => ?_) (fun c253 => ?_)
        · have q253 := neI c253
          refine lv_lconst (v := 1) hx hb d_MD_emitAll_260 (by decide) ?_
          have kl1 : (1 : Int64).toInt = 1 := by decide
          have hPc := hP.sb (wq := (wz_311 h0 rf tap h0_taped h0_length h0_kind h0_from h0_to h0_word h0_numeral gnm gpl gty gvl h0_globalCount fun_ h0_funCount h0_open h0_signs lev h0_now kno h0_knownCount h0_loops mad j204_h0_madeLength mag sml grt h0_module_r h0_spare_r h0_m h0_cursor h0_limit blk stk h0_top hgt lab ous kis los h0_depth h0_function mem h0_pages glo val h0_valueTop ffu fre fba fla h0_frames lat lhe h0_labelTop h0_steps h0_there rsl h0_resultLength h0_reason h0_place arg h0_argumentCount h0_code mad cmad j204_mad)) [6, 7] rfl
          have hDc := hD.sb (wq := (wz_311 h0 rf tap h0_taped h0_length h0_kind h0_from h0_to h0_word h0_numeral gnm gpl gty gvl h0_globalCount fun_ h0_funCount h0_open h0_signs lev h0_now kno h0_knownCount h0_loops mad j204_h0_madeLength mag sml grt h0_module_r h0_spare_r h0_m h0_cursor h0_limit blk stk h0_top hgt lab ous kis los h0_depth h0_function mem h0_pages glo val h0_valueTop ffu fre fba fla h0_frames lat lhe h0_labelTop h0_steps h0_there rsl h0_resultLength h0_reason h0_place arg h0_argumentCount h0_code mad cmad j204_mad)) [6, 7] (by decide) rfl
          have hKc := hK.sb (tyq := [(cmad, .byte)]) [0] rfl
          have hFc := va_free (wc := (wz_311 h0 rf tap h0_taped h0_length h0_kind h0_from h0_to h0_word h0_numeral gnm gpl gty gvl h0_globalCount fun_ h0_funCount h0_open h0_signs lev h0_now kno h0_knownCount h0_loops mad j204_h0_madeLength mag sml grt h0_module_r h0_spare_r h0_m h0_cursor h0_limit blk stk h0_top hgt lab ous kis los h0_depth h0_function mem h0_pages glo val h0_valueTop ffu fre fba fla h0_frames lat lhe h0_labelTop h0_steps h0_there rsl h0_resultLength h0_reason h0_place arg h0_argumentCount h0_code mad cmad j204_mad)) hD hS hA [6, 7] rfl
          refine va_callv (va_runV (As := [.long 1]) (rest := []) ⟨hx, hb, hml, hown, hts⟩ (c_MD_putCount l dC dI H.size h0 rf tap gnm gpl gty gvl fun_ lev kno mad mag sml grt h0_module_r h0_spare_r blk stk hgt lab ous kis los mem glo val ffu fre fba fla lat lhe rsl arg cmad h0_taped h0_length h0_kind h0_from h0_to h0_word h0_numeral h0_globalCount h0_funCount h0_open h0_signs h0_now h0_knownCount h0_loops j204_h0_madeLength h0_m h0_cursor h0_limit h0_top h0_depth h0_function h0_pages h0_valueTop h0_frames h0_labelTop h0_steps h0_there h0_resultLength h0_reason h0_place h0_argumentCount h0_code j204_mad (b_j204_h0_madeLength) 1 (by decide) (by (first | (apply Int.le_antisymm <;> omega) | omega))) (cwV 1 hts (gV kM_MD_409 kV_MD_putCount kS_MD_putCount kI_MD kC_MD_putCount) rfl rfl rfl (by decide +kernel) ⟨(show 1 + 1 ≤ 3 * dep + 46 from by (first | (apply Int.le_antisymm <;> omega) | omega)), (show 8 + (5 + 11) + (21) ≤ 80 * dep + 640 from by (first | (apply Int.le_antisymm <;> omega) | omega))⟩) ⟨fun a U g mk z => by obtain ⟨z0, z1, zP, zK, zD, zS⟩ := z; exact ⟨z0, z1, zP, va_K.moved (u := U) (U := U.calling g mk a) (Vm.Alike.refl U.vm) zK, zD, sw_nest.same (s := U) (U := U.calling g mk a) rfl zS⟩, va_recv hKc hPc (ci := 11) (q0 := 0) rfl rfl, fun U hU hW => ⟨rfl, by rw [hU], va_P.he hU.symm hPc, va_K.moved hW.alike hKc, hDc.weaken (fun _ _ _ _ => trivial), hSW.nest.warm hW⟩⟩ rfl rfl hl.1 rfl (lv_room (Nat.le_of_ble_eq_true rfl)) d_MD_emitAll_261 ⟨by dsimp only [headSpec]; (first | (apply Int.le_antisymm <;> omega) | omega), by dsimp only [headSpec]; (first | (apply Int.le_antisymm <;> omega) | omega)⟩) hS (fun q _ h => hFc q h) hFc (fun u t H1 locs ht hvm hw hB hz1 hk1 hS => ?_)
          obtain ⟨n38, n39⟩ := u
          try dsimp only at hw
          obtain ⟨bn39, xr37⟩ := hw
          try clear hw
          obtain ⟨h_1, h_2, -⟩ := xr37
          have h_3 : (1 : Int64).toInt.toNat = 1 := rfl
          rw [h_3] at h_1 h_2
          have h_4 := leb_len 5 1
          obtain ⟨hP1, hK1, hD1⟩ := hB
          replace hP1 := va_P.he ht hP1
          obtain ⟨hP, hD⟩ := va_joinQ (wr := (wz_606 mag cmag gmag gty cgty ggty gvl cgvl ggvl fun_ cfun_ gfun_ sml csml gsml grt cgrt ggrt)) (w1 := (wz_311 h0 rf tap h0_taped h0_length h0_kind h0_from h0_to h0_word h0_numeral gnm gpl gty gvl h0_globalCount fun_ h0_funCount h0_open h0_signs lev h0_now kno h0_knownCount h0_loops mad n39 mag sml grt h0_module_r h0_spare_r h0_m h0_cursor h0_limit blk stk h0_top hgt lab ous kis los h0_depth h0_function mem h0_pages glo val h0_valueTop ffu fre fba fla h0_frames lat lhe h0_labelTop h0_steps h0_there rsl h0_resultLength h0_reason h0_place arg h0_argumentCount h0_code mad cmad n38)) hP hD [6, 7] [0, 1, 2, 3, 4, 5] rfl rfl (by decide) (by decide) hk1 hFc hP1 hD1
          clear hPc hDc hKc hFc hz1 hk1 hP1 hK1 hD1
          rename Heap => H
          have hP : va_P (dC, dI) cls2 (((wz_607 mag cmag gmag gty cgty ggty gvl cgvl ggvl fun_ cfun_ gfun_ sml csml gsml grt cgrt ggrt h0 rf tap h0_taped h0_length h0_kind h0_from h0_to h0_word h0_numeral gnm gpl gty gvl h0_globalCount fun_ h0_funCount h0_open h0_signs lev h0_now kno h0_knownCount h0_loops mad n39 mag sml grt h0_module_r h0_spare_r h0_m h0_cursor h0_limit blk stk h0_top hgt lab ous kis los h0_depth h0_function mem h0_pages glo val h0_valueTop ffu fre fba fla h0_frames lat lhe h0_labelTop h0_steps h0_there rsl h0_resultLength h0_reason h0_place arg h0_argumentCount h0_code mad cmad n38) : va_W) ++ va_pl LP j134_PO) H := hP
          have hD : va_D A (((wz_607 mag cmag gmag gty cgty ggty gvl cgvl ggvl fun_ cfun_ gfun_ sml csml gsml grt cgrt ggrt h0 rf tap h0_taped h0_length h0_kind h0_from h0_to h0_word h0_numeral gnm gpl gty gvl h0_globalCount fun_ h0_funCount h0_open h0_signs lev h0_now kno h0_knownCount h0_loops mad n39 mag sml grt h0_module_r h0_spare_r h0_m h0_cursor h0_limit blk stk h0_top hgt lab ous kis los h0_depth h0_function mem h0_pages glo val h0_valueTop ffu fre fba fla h0_frames lat lhe h0_labelTop h0_steps h0_there rsl h0_resultLength h0_reason h0_place arg h0_argumentCount h0_code mad cmad n38) : va_W) ++ va_pl LP j134_PO) := hD
          have md : bx (mdl n38 n39 ((Amg ++ [1]) ++ (((((leb 5 R.length ++ tb) ++ [96]) ++ leb 5 (psf j151_l4.toNatClampNeg).toInt.toNat) ++ bl (Tf j151_l4.toNatClampNeg) (psf j151_l4.toNatClampNeg).toInt.toNat) ++ leb 5 1))) := mdl_ap2 md.out (h_2) (by (first | (apply Int.le_antisymm <;> omega) | omega))
          refine lv_aload_n hx hb d_MD_emitAll_264 rfl (lv_at hl 0 rfl) ?_
          refine va_get (D := (dC, dI)) (ci := 11) (v := .ref fun_) (C := R_MD) (T := F_MD) (N := 65) hx hb hts i_MD hown hK hP 6 rfl rfl 14 (by decide) (hts _ kF_MD_194) (fun _ h9 => h9) rfl d_MD_emitAll_265 ?_
          refine lv_iload hx hb d_MD_emitAll_268 (lv_at hl 3 rfl) ?_
          have zcu42 := i32_clamp (x := j151_l4) (by (first | (apply Int.le_antisymm <;> omega) | omega))
          obtain ⟨gu42, knu42, ⟨yu42, zu42⟩, ⟨au42, bu42⟩, nu42, pu42, tu42, ru42, gvu42, tku42, du42, tsu42⟩ := hf.out j151_l4.toNatClampNeg (by (first | (apply Int.le_antisymm <;> omega) | omega))
          replace tu42 : bx _ := tu42
          replace ru42 : bx _ := ru42
          replace tsu42 : bx _ := tsu42
          replace nu42 : bx _ := nu42
          have g270 : vp_in j151_l4 20 := vp_in_iff.mpr ⟨by (first | (apply Int.le_antisymm <;> omega) | omega), by (first | (apply Int.le_antisymm <;> omega) | omega)⟩
          refine vq_aldo hx hb hK hP 3 4 rfl rfl g270 (y := (fa j151_l4.toNatClampNeg)) gu42 d_MD_emitAll_270 ?_
          obtain ⟨q43, hq43⟩ := pl_ix (X := (wz_607 mag cmag gmag gty cgty ggty gvl cgvl ggvl fun_ cfun_ gfun_ sml csml gsml grt cgrt ggrt h0 rf tap h0_taped h0_length h0_kind h0_from h0_to h0_word h0_numeral gnm gpl gty gvl h0_globalCount fun_ h0_funCount h0_open h0_signs lev h0_now kno h0_knownCount h0_loops mad n39 mag sml grt h0_module_r h0_spare_r h0_m h0_cursor h0_limit blk stk h0_top hgt lab ous kis los h0_depth h0_function mem h0_pages glo val h0_valueTop ffu fre fba fla h0_frames lat lhe h0_labelTop h0_steps h0_there rsl h0_resultLength h0_reason h0_place arg h0_argumentCount h0_code mad cmad n38)) (L := LP) (f := j134_PO) yu42 zu42
          refine va_getN (D := (dC, dI)) (ci := 14) (v := .int ((rsf j151_l4.toNatClampNeg))) (C := R_MF) (T := F_MF) (N := 10) hx hb hts i_MF hown hK hP q43 hq43 rfl 7 (by decide) (sm_f (k := 41) hSW rfl) (fun _ h9 => h9) rfl d_MD_emitAll_271 ?_
          refine lv_if_eq (tgt := 291) hx hb d_MD_emitAll_274 (by decide) (fun c274 => absurd (eqI c274) (by (first | (apply Int.le_antisymm <;> omega) | omega))) (fun c274 => ?_)
          have q274 := neI c274
          refine lv_aload_n hx hb d_MD_emitAll_277 rfl (lv_at hl 0 rfl) ?_
          refine lv_aload_n hx hb d_MD_emitAll_278 rfl (lv_at hl 0 rfl) ?_
          refine va_get (D := (dC, dI)) (ci := 11) (v := .ref fun_) (C := R_MD) (T := F_MD) (N := 65) hx hb hts i_MD hown hK hP 6 rfl rfl 14 (by decide) (hts _ kF_MD_194) (fun _ h9 => h9) rfl d_MD_emitAll_279 ?_
          refine lv_iload hx hb d_MD_emitAll_282 (lv_at hl 3 rfl) ?_
          have zcu44 := i32_clamp (x := j151_l4) (by (first | (apply Int.le_antisymm <;> omega) | omega))
          obtain ⟨gu44, knu44, ⟨yu44, zu44⟩, ⟨au44, bu44⟩, nu44, pu44, tu44, ru44, gvu44, tku44, du44, tsu44⟩ := hf.out j151_l4.toNatClampNeg (by (first | (apply Int.le_antisymm <;> omega) | omega))
          replace tu44 : bx _ := tu44
          replace ru44 : bx _ := ru44
          replace tsu44 : bx _ := tsu44
          replace nu44 : bx _ := nu44
          have g284 : vp_in j151_l4 20 := vp_in_iff.mpr ⟨by (first | (apply Int.le_antisymm <;> omega) | omega), by (first | (apply Int.le_antisymm <;> omega) | omega)⟩
          refine vq_aldo hx hb hK hP 3 4 rfl rfl g284 (y := (fa j151_l4.toNatClampNeg)) gu44 d_MD_emitAll_284 ?_
          obtain ⟨q45, hq45⟩ := pl_ix (X := (wz_607 mag cmag gmag gty cgty ggty gvl cgvl ggvl fun_ cfun_ gfun_ sml csml gsml grt cgrt ggrt h0 rf tap h0_taped h0_length h0_kind h0_from h0_to h0_word h0_numeral gnm gpl gty gvl h0_globalCount fun_ h0_funCount h0_open h0_signs lev h0_now kno h0_knownCount h0_loops mad n39 mag sml grt h0_module_r h0_spare_r h0_m h0_cursor h0_limit blk stk h0_top hgt lab ous kis los h0_depth h0_function mem h0_pages glo val h0_valueTop ffu fre fba fla h0_frames lat lhe h0_labelTop h0_steps h0_there rsl h0_resultLength h0_reason h0_place arg h0_argumentCount h0_code mad cmad n38)) (L := LP) (f := j134_PO) yu44 zu44
          refine va_getN (D := (dC, dI)) (ci := 14) (v := .int ((rsf j151_l4.toNatClampNeg))) (C := R_MF) (T := F_MF) (N := 10) hx hb hts i_MF hown hK hP q45 hq45 rfl 7 (by decide) (sm_f (k := 41) hSW rfl) (fun _ h9 => h9) rfl d_MD_emitAll_285 ?_
          have hPc := hP.sb (wq := (wz_311 h0 rf tap h0_taped h0_length h0_kind h0_from h0_to h0_word h0_numeral gnm gpl gty gvl h0_globalCount fun_ h0_funCount h0_open h0_signs lev h0_now kno h0_knownCount h0_loops mad n39 mag sml grt h0_module_r h0_spare_r h0_m h0_cursor h0_limit blk stk h0_top hgt lab ous kis los h0_depth h0_function mem h0_pages glo val h0_valueTop ffu fre fba fla h0_frames lat lhe h0_labelTop h0_steps h0_there rsl h0_resultLength h0_reason h0_place arg h0_argumentCount h0_code mad cmad n38)) [6, 7] rfl
          have hDc := hD.sb (wq := (wz_311 h0 rf tap h0_taped h0_length h0_kind h0_from h0_to h0_word h0_numeral gnm gpl gty gvl h0_globalCount fun_ h0_funCount h0_open h0_signs lev h0_now kno h0_knownCount h0_loops mad n39 mag sml grt h0_module_r h0_spare_r h0_m h0_cursor h0_limit blk stk h0_top hgt lab ous kis los h0_depth h0_function mem h0_pages glo val h0_valueTop ffu fre fba fla h0_frames lat lhe h0_labelTop h0_steps h0_there rsl h0_resultLength h0_reason h0_place arg h0_argumentCount h0_code mad cmad n38)) [6, 7] (by decide) rfl
          have hKc := hK.sb (tyq := [(cmad, .byte)]) [0] rfl
          have hFc := va_free (wc := (wz_311 h0 rf tap h0_taped h0_length h0_kind h0_from h0_to h0_word h0_numeral gnm gpl gty gvl h0_globalCount fun_ h0_funCount h0_open h0_signs lev h0_now kno h0_knownCount h0_loops mad n39 mag sml grt h0_module_r h0_spare_r h0_m h0_cursor h0_limit blk stk h0_top hgt lab ous kis los h0_depth h0_function mem h0_pages glo val h0_valueTop ffu fre fba fla h0_frames lat lhe h0_labelTop h0_steps h0_there rsl h0_resultLength h0_reason h0_place arg h0_argumentCount h0_code mad cmad n38)) hD hS hA [6, 7] rfl
          refine va_callv (va_runV (As := [.int ((rsf j151_l4.toNatClampNeg))]) (rest := []) ⟨hx, hb, hml, hown, hts⟩ (c_MD_put l dC dI H.size h0 rf tap gnm gpl gty gvl fun_ lev kno mad mag sml grt h0_module_r h0_spare_r blk stk hgt lab ous kis los mem glo val ffu fre fba fla lat lhe rsl arg cmad h0_taped h0_length h0_kind h0_from h0_to h0_word h0_numeral h0_globalCount h0_funCount h0_open h0_signs h0_now h0_knownCount h0_loops n39 h0_m h0_cursor h0_limit h0_top h0_depth h0_function h0_pages h0_valueTop h0_frames h0_labelTop h0_steps h0_there h0_resultLength h0_reason h0_place h0_argumentCount h0_code n38 (bn39) ((rsf j151_l4.toNatClampNeg)) (by (first | (apply Int.le_antisymm <;> omega) | omega))) (cwV 1 hts (gV kM_MD_398 kV_MD_put kS_MD_put kI_MD kC_MD_put) rfl rfl rfl (by decide +kernel) ⟨(show 0 + 1 ≤ 3 * dep + 46 from by (first | (apply Int.le_antisymm <;> omega) | omega)), (show 8 + (2 + 11) + (0) ≤ 80 * dep + 640 from by (first | (apply Int.le_antisymm <;> omega) | omega))⟩) ⟨fun a U g mk z => by obtain ⟨z0, z1, zP, zK, zD, zS⟩ := z; exact ⟨z0, z1, zP, va_K.moved (u := U) (U := U.calling g mk a) (Vm.Alike.refl U.vm) zK, zD, sw_nest.same (s := U) (U := U.calling g mk a) rfl zS⟩, va_recv hKc hPc (ci := 11) (q0 := 0) rfl rfl, fun U hU hW => ⟨rfl, by rw [hU], va_P.he hU.symm hPc, va_K.moved hW.alike hKc, hDc.weaken (fun _ _ _ _ => trivial), hSW.nest.warm hW⟩⟩ rfl rfl hl.1 rfl (lv_room (Nat.le_of_ble_eq_true rfl)) d_MD_emitAll_288 ⟨by dsimp only [headSpec]; (first | (apply Int.le_antisymm <;> omega) | omega), by dsimp only [headSpec]; (first | (apply Int.le_antisymm <;> omega) | omega)⟩) hS (fun q _ h => hFc q h) hFc (fun u t H1 locs ht hvm hw hB hz1 hk1 hS => ?_)
          obtain ⟨n47, n48⟩ := u
          try dsimp only at hw
          obtain ⟨bn48, xr46⟩ := hw
          try clear hw
          obtain ⟨i_1, i_2, -⟩ := xr46
          obtain ⟨hP1, hK1, hD1⟩ := hB
          replace hP1 := va_P.he ht hP1
          obtain ⟨hP, hD⟩ := va_joinQ (wr := (wz_606 mag cmag gmag gty cgty ggty gvl cgvl ggvl fun_ cfun_ gfun_ sml csml gsml grt cgrt ggrt)) (w1 := (wz_311 h0 rf tap h0_taped h0_length h0_kind h0_from h0_to h0_word h0_numeral gnm gpl gty gvl h0_globalCount fun_ h0_funCount h0_open h0_signs lev h0_now kno h0_knownCount h0_loops mad n48 mag sml grt h0_module_r h0_spare_r h0_m h0_cursor h0_limit blk stk h0_top hgt lab ous kis los h0_depth h0_function mem h0_pages glo val h0_valueTop ffu fre fba fla h0_frames lat lhe h0_labelTop h0_steps h0_there rsl h0_resultLength h0_reason h0_place arg h0_argumentCount h0_code mad cmad n47)) hP hD [6, 7] [0, 1, 2, 3, 4, 5] rfl rfl (by decide) (by decide) hk1 hFc hP1 hD1
          clear hPc hDc hKc hFc hz1 hk1 hP1 hK1 hD1
          rename Heap => H
          have hP : va_P (dC, dI) cls2 (((wz_607 mag cmag gmag gty cgty ggty gvl cgvl ggvl fun_ cfun_ gfun_ sml csml gsml grt cgrt ggrt h0 rf tap h0_taped h0_length h0_kind h0_from h0_to h0_word h0_numeral gnm gpl gty gvl h0_globalCount fun_ h0_funCount h0_open h0_signs lev h0_now kno h0_knownCount h0_loops mad n48 mag sml grt h0_module_r h0_spare_r h0_m h0_cursor h0_limit blk stk h0_top hgt lab ous kis los h0_depth h0_function mem h0_pages glo val h0_valueTop ffu fre fba fla h0_frames lat lhe h0_labelTop h0_steps h0_there rsl h0_resultLength h0_reason h0_place arg h0_argumentCount h0_code mad cmad n47) : va_W) ++ va_pl LP j134_PO) H := hP
          have hD : va_D A (((wz_607 mag cmag gmag gty cgty ggty gvl cgvl ggvl fun_ cfun_ gfun_ sml csml gsml grt cgrt ggrt h0 rf tap h0_taped h0_length h0_kind h0_from h0_to h0_word h0_numeral gnm gpl gty gvl h0_globalCount fun_ h0_funCount h0_open h0_signs lev h0_now kno h0_knownCount h0_loops mad n48 mag sml grt h0_module_r h0_spare_r h0_m h0_cursor h0_limit blk stk h0_top hgt lab ous kis los h0_depth h0_function mem h0_pages glo val h0_valueTop ffu fre fba fla h0_frames lat lhe h0_labelTop h0_steps h0_there rsl h0_resultLength h0_reason h0_place arg h0_argumentCount h0_code mad cmad n47) : va_W) ++ va_pl LP j134_PO) := hD
          have md : bx (mdl n47 n48 ((Amg ++ [1]) ++ ((((((leb 5 R.length ++ tb) ++ [96]) ++ leb 5 (psf j151_l4.toNatClampNeg).toInt.toNat) ++ bl (Tf j151_l4.toNatClampNeg) (psf j151_l4.toNatClampNeg).toInt.toNat) ++ leb 5 1) ++ [bn (rsf j151_l4.toNatClampNeg)]))) := mdl_ap2 md.out (i_2) (by (first | (apply Int.le_antisymm <;> omega) | omega))
          obtain ⟨x51, ex51⟩ : ∃ z : Int32, z = j151_l4 + 1 := ⟨_, rfl⟩
          have tx51 : x51.toInt = j151_l4.toInt + 1 := by have z := i32_add ex51 (by (first | (apply Int.le_antisymm <;> omega) | omega)) (by (first | (apply Int.le_antisymm <;> omega) | omega)); first | exact z | (first | (apply Int.le_antisymm <;> omega) | omega)
          refine lv_iinc (v := x51) (lv' := [(4, .int x51), (0, .ref h0), (2, .int r1), (3, .int x19), (5, .int j204_l5)]) hx hb d_MD_emitAll_291 hl (k := 3) rfl (by rw [ex51]; rfl) (by decide) rfl (fun ls hl => ?_)
          refine lv_goto (tgt := 151) hx hb d_MD_emitAll_294 (by decide) ?_
          exact ih151 (x19, x51, n47, n48) _ _ _ (by show (20 - x51.toInt).toNat < N151; (first | (apply Int.le_antisymm <;> omega) | omega)) ⟨by (try dsimp only) <;> (first | (apply Int.le_antisymm <;> omega) | omega), by (try dsimp only) <;> (first | (apply Int.le_antisymm <;> omega) | omega), bn48, ⟨Rl ++ [j151_l4.toNatClampNeg], tb ++ ((([96] ++ leb 5 (psf j151_l4.toNatClampNeg).toInt.toNat) ++ bl (Tf j151_l4.toNatClampNeg) (psf j151_l4.toNatClampNeg).toInt.toNat) ++ (leb 5 1 ++ [bn (rsf j151_l4.toNatClampNeg)])), (by rw [show x51.toNatClampNeg = j151_l4.toNatClampNeg + 1 from clampN (by (first | (apply Int.le_antisymm <;> omega) | omega))]; exact (tyI_new tyr.out (by (first | (apply Int.le_antisymm <;> omega) | omega)) tyq.out).1 (by (first | (apply Int.le_antisymm <;> omega) | omega))), (by rw [List.length_append, List.length_singleton]; (first | (apply Int.le_antisymm <;> omega) | omega)), tB_snoc (isT_9 (n := (psf j151_l4.toNatClampNeg).toInt.toNat) (T := Tf j151_l4.toNatClampNeg) (by rw [tku44]; (first | (apply Int.le_antisymm <;> omega) | omega)) (by (first | (apply Int.le_antisymm <;> omega) | omega)) (fun i hi => tu44.out i (by (first | (apply Int.le_antisymm <;> omega) | omega))) ru44.out (by rw [if_neg (by (first | (apply Int.le_antisymm <;> omega) | omega))])) Rl tbq.out, (by have q := md.out; simp only [List.append_assoc, List.nil_append] at q ⊢; exact q)⟩, by (try dsimp only) <;> (first | (apply Int.le_antisymm <;> omega) | omega), hP, hD, hS, lv_sub hl [1, 2, 3, 0] rfl⟩
        · have q253 := eqI c253
          refine lv_lconst (v := 0) hx hb d_MD_emitAll_256 (by decide) ?_
          have kl0 : (0 : Int64).toInt = 0 := by decide
          refine lv_goto (tgt := 261) hx hb d_MD_emitAll_257 (by decide) ?_
          have hPc := hP.sb (wq := (wz_311 h0 rf tap h0_taped h0_length h0_kind h0_from h0_to h0_word h0_numeral gnm gpl gty gvl h0_globalCount fun_ h0_funCount h0_open h0_signs lev h0_now kno h0_knownCount h0_loops mad j204_h0_madeLength mag sml grt h0_module_r h0_spare_r h0_m h0_cursor h0_limit blk stk h0_top hgt lab ous kis los h0_depth h0_function mem h0_pages glo val h0_valueTop ffu fre fba fla h0_frames lat lhe h0_labelTop h0_steps h0_there rsl h0_resultLength h0_reason h0_place arg h0_argumentCount h0_code mad cmad j204_mad)) [6, 7] rfl
          have hDc := hD.sb (wq := (wz_311 h0 rf tap h0_taped h0_length h0_kind h0_from h0_to h0_word h0_numeral gnm gpl gty gvl h0_globalCount fun_ h0_funCount h0_open h0_signs lev h0_now kno h0_knownCount h0_loops mad j204_h0_madeLength mag sml grt h0_module_r h0_spare_r h0_m h0_cursor h0_limit blk stk h0_top hgt lab ous kis los h0_depth h0_function mem h0_pages glo val h0_valueTop ffu fre fba fla h0_frames lat lhe h0_labelTop h0_steps h0_there rsl h0_resultLength h0_reason h0_place arg h0_argumentCount h0_code mad cmad j204_mad)) [6, 7] (by decide) rfl
          have hKc := hK.sb (tyq := [(cmad, .byte)]) [0] rfl
          have hFc := va_free (wc := (wz_311 h0 rf tap h0_taped h0_length h0_kind h0_from h0_to h0_word h0_numeral gnm gpl gty gvl h0_globalCount fun_ h0_funCount h0_open h0_signs lev h0_now kno h0_knownCount h0_loops mad j204_h0_madeLength mag sml grt h0_module_r h0_spare_r h0_m h0_cursor h0_limit blk stk h0_top hgt lab ous kis los h0_depth h0_function mem h0_pages glo val h0_valueTop ffu fre fba fla h0_frames lat lhe h0_labelTop h0_steps h0_there rsl h0_resultLength h0_reason h0_place arg h0_argumentCount h0_code mad cmad j204_mad)) hD hS hA [6, 7] rfl
          refine va_callv (va_runV (As := [.long 0]) (rest := []) ⟨hx, hb, hml, hown, hts⟩ (c_MD_putCount l dC dI H.size h0 rf tap gnm gpl gty gvl fun_ lev kno mad mag sml grt h0_module_r h0_spare_r blk stk hgt lab ous kis los mem glo val ffu fre fba fla lat lhe rsl arg cmad h0_taped h0_length h0_kind h0_from h0_to h0_word h0_numeral h0_globalCount h0_funCount h0_open h0_signs h0_now h0_knownCount h0_loops j204_h0_madeLength h0_m h0_cursor h0_limit h0_top h0_depth h0_function h0_pages h0_valueTop h0_frames h0_labelTop h0_steps h0_there h0_resultLength h0_reason h0_place h0_argumentCount h0_code j204_mad (b_j204_h0_madeLength) 0 (by decide) (by (first | (apply Int.le_antisymm <;> omega) | omega))) (cwV 1 hts (gV kM_MD_409 kV_MD_putCount kS_MD_putCount kI_MD kC_MD_putCount) rfl rfl rfl (by decide +kernel) ⟨(show 1 + 1 ≤ 3 * dep + 46 from by (first | (apply Int.le_antisymm <;> omega) | omega)), (show 8 + (5 + 11) + (21) ≤ 80 * dep + 640 from by (first | (apply Int.le_antisymm <;> omega) | omega))⟩) ⟨fun a U g mk z => by obtain ⟨z0, z1, zP, zK, zD, zS⟩ := z; exact ⟨z0, z1, zP, va_K.moved (u := U) (U := U.calling g mk a) (Vm.Alike.refl U.vm) zK, zD, sw_nest.same (s := U) (U := U.calling g mk a) rfl zS⟩, va_recv hKc hPc (ci := 11) (q0 := 0) rfl rfl, fun U hU hW => ⟨rfl, by rw [hU], va_P.he hU.symm hPc, va_K.moved hW.alike hKc, hDc.weaken (fun _ _ _ _ => trivial), hSW.nest.warm hW⟩⟩ rfl rfl hl.1 rfl (lv_room (Nat.le_of_ble_eq_true rfl)) d_MD_emitAll_261 ⟨by dsimp only [headSpec]; (first | (apply Int.le_antisymm <;> omega) | omega), by dsimp only [headSpec]; (first | (apply Int.le_antisymm <;> omega) | omega)⟩) hS (fun q _ h => hFc q h) hFc (fun u t H1 locs ht hvm hw hB hz1 hk1 hS => ?_)
          obtain ⟨n53, n54⟩ := u
          try dsimp only at hw
          obtain ⟨bn54, xr52⟩ := hw
          try clear hw
          obtain ⟨h_1, h_2, -⟩ := xr52
          have h_3 : (0 : Int64).toInt.toNat = 0 := rfl
          rw [h_3] at h_1 h_2
          have h_4 := leb_len 5 0
          obtain ⟨hP1, hK1, hD1⟩ := hB
          replace hP1 := va_P.he ht hP1
          obtain ⟨hP, hD⟩ := va_joinQ (wr := (wz_606 mag cmag gmag gty cgty ggty gvl cgvl ggvl fun_ cfun_ gfun_ sml csml gsml grt cgrt ggrt)) (w1 := (wz_311 h0 rf tap h0_taped h0_length h0_kind h0_from h0_to h0_word h0_numeral gnm gpl gty gvl h0_globalCount fun_ h0_funCount h0_open h0_signs lev h0_now kno h0_knownCount h0_loops mad n54 mag sml grt h0_module_r h0_spare_r h0_m h0_cursor h0_limit blk stk h0_top hgt lab ous kis los h0_depth h0_function mem h0_pages glo val h0_valueTop ffu fre fba fla h0_frames lat lhe h0_labelTop h0_steps h0_there rsl h0_resultLength h0_reason h0_place arg h0_argumentCount h0_code mad cmad n53)) hP hD [6, 7] [0, 1, 2, 3, 4, 5] rfl rfl (by decide) (by decide) hk1 hFc hP1 hD1
          clear hPc hDc hKc hFc hz1 hk1 hP1 hK1 hD1
          rename Heap => H
          have hP : va_P (dC, dI) cls2 (((wz_607 mag cmag gmag gty cgty ggty gvl cgvl ggvl fun_ cfun_ gfun_ sml csml gsml grt cgrt ggrt h0 rf tap h0_taped h0_length h0_kind h0_from h0_to h0_word h0_numeral gnm gpl gty gvl h0_globalCount fun_ h0_funCount h0_open h0_signs lev h0_now kno h0_knownCount h0_loops mad n54 mag sml grt h0_module_r h0_spare_r h0_m h0_cursor h0_limit blk stk h0_top hgt lab ous kis los h0_depth h0_function mem h0_pages glo val h0_valueTop ffu fre fba fla h0_frames lat lhe h0_labelTop h0_steps h0_there rsl h0_resultLength h0_reason h0_place arg h0_argumentCount h0_code mad cmad n53) : va_W) ++ va_pl LP j134_PO) H := hP
          have hD : va_D A (((wz_607 mag cmag gmag gty cgty ggty gvl cgvl ggvl fun_ cfun_ gfun_ sml csml gsml grt cgrt ggrt h0 rf tap h0_taped h0_length h0_kind h0_from h0_to h0_word h0_numeral gnm gpl gty gvl h0_globalCount fun_ h0_funCount h0_open h0_signs lev h0_now kno h0_knownCount h0_loops mad n54 mag sml grt h0_module_r h0_spare_r h0_m h0_cursor h0_limit blk stk h0_top hgt lab ous kis los h0_depth h0_function mem h0_pages glo val h0_valueTop ffu fre fba fla h0_frames lat lhe h0_labelTop h0_steps h0_there rsl h0_resultLength h0_reason h0_place arg h0_argumentCount h0_code mad cmad n53) : va_W) ++ va_pl LP j134_PO) := hD
          have md : bx (mdl n53 n54 ((Amg ++ [1]) ++ (((((leb 5 R.length ++ tb) ++ [96]) ++ leb 5 (psf j151_l4.toNatClampNeg).toInt.toNat) ++ bl (Tf j151_l4.toNatClampNeg) (psf j151_l4.toNatClampNeg).toInt.toNat) ++ leb 5 0))) := mdl_ap2 md.out (h_2) (by (first | (apply Int.le_antisymm <;> omega) | omega))
          refine lv_aload_n hx hb d_MD_emitAll_264 rfl (lv_at hl 0 rfl) ?_
          refine va_get (D := (dC, dI)) (ci := 11) (v := .ref fun_) (C := R_MD) (T := F_MD) (N := 65) hx hb hts i_MD hown hK hP 6 rfl rfl 14 (by decide) (hts _ kF_MD_194) (fun _ h9 => h9) rfl d_MD_emitAll_265 ?_
          refine lv_iload hx hb d_MD_emitAll_268 (lv_at hl 3 rfl) ?_
          have zcu57 := i32_clamp (x := j151_l4) (by (first | (apply Int.le_antisymm <;> omega) | omega))
          obtain ⟨gu57, knu57, ⟨yu57, zu57⟩, ⟨au57, bu57⟩, nu57, pu57, tu57, ru57, gvu57, tku57, du57, tsu57⟩ := hf.out j151_l4.toNatClampNeg (by (first | (apply Int.le_antisymm <;> omega) | omega))
          replace tu57 : bx _ := tu57
          replace ru57 : bx _ := ru57
          replace tsu57 : bx _ := tsu57
          replace nu57 : bx _ := nu57
          have g270 : vp_in j151_l4 20 := vp_in_iff.mpr ⟨by (first | (apply Int.le_antisymm <;> omega) | omega), by (first | (apply Int.le_antisymm <;> omega) | omega)⟩
          refine vq_aldo hx hb hK hP 3 4 rfl rfl g270 (y := (fa j151_l4.toNatClampNeg)) gu57 d_MD_emitAll_270 ?_
          obtain ⟨q58, hq58⟩ := pl_ix (X := (wz_607 mag cmag gmag gty cgty ggty gvl cgvl ggvl fun_ cfun_ gfun_ sml csml gsml grt cgrt ggrt h0 rf tap h0_taped h0_length h0_kind h0_from h0_to h0_word h0_numeral gnm gpl gty gvl h0_globalCount fun_ h0_funCount h0_open h0_signs lev h0_now kno h0_knownCount h0_loops mad n54 mag sml grt h0_module_r h0_spare_r h0_m h0_cursor h0_limit blk stk h0_top hgt lab ous kis los h0_depth h0_function mem h0_pages glo val h0_valueTop ffu fre fba fla h0_frames lat lhe h0_labelTop h0_steps h0_there rsl h0_resultLength h0_reason h0_place arg h0_argumentCount h0_code mad cmad n53)) (L := LP) (f := j134_PO) yu57 zu57
          refine va_getN (D := (dC, dI)) (ci := 14) (v := .int ((rsf j151_l4.toNatClampNeg))) (C := R_MF) (T := F_MF) (N := 10) hx hb hts i_MF hown hK hP q58 hq58 rfl 7 (by decide) (sm_f (k := 41) hSW rfl) (fun _ h9 => h9) rfl d_MD_emitAll_271 ?_
          refine lv_if_eq (tgt := 291) hx hb d_MD_emitAll_274 (by decide) (fun c274 => ?_) (fun c274 => absurd (neI c274) (by (first | (apply Int.le_antisymm <;> omega) | omega)))
          have q274 := eqI c274
          obtain ⟨x59, ex59⟩ : ∃ z : Int32, z = j151_l4 + 1 := ⟨_, rfl⟩
          have tx59 : x59.toInt = j151_l4.toInt + 1 := by have z := i32_add ex59 (by (first | (apply Int.le_antisymm <;> omega) | omega)) (by (first | (apply Int.le_antisymm <;> omega) | omega)); first | exact z | (first | (apply Int.le_antisymm <;> omega) | omega)
          refine lv_iinc (v := x59) (lv' := [(4, .int x59), (0, .ref h0), (2, .int r1), (3, .int x19), (5, .int j204_l5)]) hx hb d_MD_emitAll_291 hl (k := 3) rfl (by rw [ex59]; rfl) (by decide) rfl (fun ls hl => ?_)
          refine lv_goto (tgt := 151) hx hb d_MD_emitAll_294 (by decide) ?_
          exact ih151 (x19, x59, n53, n54) _ _ _ (by show (20 - x59.toInt).toNat < N151; (first | (apply Int.le_antisymm <;> omega) | omega)) ⟨by (try dsimp only) <;> (first | (apply Int.le_antisymm <;> omega) | omega), by (try dsimp only) <;> (first | (apply Int.le_antisymm <;> omega) | omega), bn54, ⟨Rl ++ [j151_l4.toNatClampNeg], tb ++ ((([96] ++ leb 5 (psf j151_l4.toNatClampNeg).toInt.toNat) ++ bl (Tf j151_l4.toNatClampNeg) (psf j151_l4.toNatClampNeg).toInt.toNat) ++ leb 5 0), (by rw [show x59.toNatClampNeg = j151_l4.toNatClampNeg + 1 from clampN (by (first | (apply Int.le_antisymm <;> omega) | omega))]; exact (tyI_new tyr.out (by (first | (apply Int.le_antisymm <;> omega) | omega)) tyq.out).1 (by (first | (apply Int.le_antisymm <;> omega) | omega))), (by rw [List.length_append, List.length_singleton]; (first | (apply Int.le_antisymm <;> omega) | omega)), tB_snoc (isT_9 (n := (psf j151_l4.toNatClampNeg).toInt.toNat) (T := Tf j151_l4.toNatClampNeg) (by rw [tku57]; (first | (apply Int.le_antisymm <;> omega) | omega)) (by (first | (apply Int.le_antisymm <;> omega) | omega)) (fun i hi => tu57.out i (by (first | (apply Int.le_antisymm <;> omega) | omega))) ru57.out (by rw [if_pos (by (first | (apply Int.le_antisymm <;> omega) | omega))])) Rl tbq.out, (by have q := md.out; simp only [List.append_assoc, List.nil_append] at q ⊢; exact q)⟩, by (try dsimp only) <;> (first | (apply Int.le_antisymm <;> omega) | omega), hP, hD, hS, lv_sub hl [1, 2, 3, 0] rfl⟩
      · have q216 := nleI c216
        refine lv_aload_n hx hb d_MD_emitAll_219 rfl (lv_at hl 0 rfl) ?_
        refine lv_aload_n hx hb d_MD_emitAll_220 rfl (lv_at hl 0 rfl) ?_
        refine va_get (D := (dC, dI)) (ci := 11) (v := .ref fun_) (C := R_MD) (T := F_MD) (N := 65) hx hb hts i_MD hown hK hP 6 rfl rfl 14 (by decide) (hts _ kF_MD_194) (fun _ h9 => h9) rfl d_MD_emitAll_221 ?_
        refine lv_iload hx hb d_MD_emitAll_224 (lv_at hl 3 rfl) ?_
        have zcu60 := i32_clamp (x := j151_l4) (by (first | (apply Int.le_antisymm <;> omega) | omega))
        obtain ⟨gu60, knu60, ⟨yu60, zu60⟩, ⟨au60, bu60⟩, nu60, pu60, tu60, ru60, gvu60, tku60, du60, tsu60⟩ := hf.out j151_l4.toNatClampNeg (by (first | (apply Int.le_antisymm <;> omega) | omega))
        replace tu60 : bx _ := tu60
        replace ru60 : bx _ := ru60
        replace tsu60 : bx _ := tsu60
        replace nu60 : bx _ := nu60
        have g226 : vp_in j151_l4 20 := vp_in_iff.mpr ⟨by (first | (apply Int.le_antisymm <;> omega) | omega), by (first | (apply Int.le_antisymm <;> omega) | omega)⟩
        refine vq_aldo hx hb hK hP 3 4 rfl rfl g226 (y := (fa j151_l4.toNatClampNeg)) gu60 d_MD_emitAll_226 ?_
        obtain ⟨q61, hq61⟩ := pl_ix (X := (wz_607 mag cmag gmag gty cgty ggty gvl cgvl ggvl fun_ cfun_ gfun_ sml csml gsml grt cgrt ggrt h0 rf tap h0_taped h0_length h0_kind h0_from h0_to h0_word h0_numeral gnm gpl gty gvl h0_globalCount fun_ h0_funCount h0_open h0_signs lev h0_now kno h0_knownCount h0_loops mad j204_h0_madeLength mag sml grt h0_module_r h0_spare_r h0_m h0_cursor h0_limit blk stk h0_top hgt lab ous kis los h0_depth h0_function mem h0_pages glo val h0_valueTop ffu fre fba fla h0_frames lat lhe h0_labelTop h0_steps h0_there rsl h0_resultLength h0_reason h0_place arg h0_argumentCount h0_code mad cmad j204_mad)) (L := LP) (f := j134_PO) yu60 zu60
        refine va_getN (D := (dC, dI)) (ci := 14) (v := .ref (yf j151_l4.toNatClampNeg)) (C := R_MF) (T := F_MF) (N := 10) hx hb hts i_MF hown hK hP q61 hq61 rfl 4 (by decide) (sm_f (k := 38) hSW rfl) (fun _ h9 => h9) rfl d_MD_emitAll_227 ?_
        refine lv_iload hx hb d_MD_emitAll_230 (lv_at hl 4 rfl) ?_
        obtain ⟨q62, hq62⟩ := pl_ix (X := (wz_607 mag cmag gmag gty cgty ggty gvl cgvl ggvl fun_ cfun_ gfun_ sml csml gsml grt cgrt ggrt h0 rf tap h0_taped h0_length h0_kind h0_from h0_to h0_word h0_numeral gnm gpl gty gvl h0_globalCount fun_ h0_funCount h0_open h0_signs lev h0_now kno h0_knownCount h0_loops mad j204_h0_madeLength mag sml grt h0_module_r h0_spare_r h0_m h0_cursor h0_limit blk stk h0_top hgt lab ous kis los h0_depth h0_function mem h0_pages glo val h0_valueTop ffu fre fba fla h0_frames lat lhe h0_labelTop h0_steps h0_there rsl h0_resultLength h0_reason h0_place arg h0_argumentCount h0_code mad cmad j204_mad)) (L := LP) (f := j134_PO) au60 bu60
        have g232 : vp_in j204_l5 51 := vp_in_iff.mpr ⟨by (first | (apply Int.le_antisymm <;> omega) | omega), by (first | (apply Int.le_antisymm <;> omega) | omega)⟩
        refine va_iald hx hb hK hP q62 7 hq62 rfl g232 d_MD_emitAll_232 ?_
        refine lv_topi (fun x63 ex63 => ?_)
        have hPc := hP.sb (wq := (wz_311 h0 rf tap h0_taped h0_length h0_kind h0_from h0_to h0_word h0_numeral gnm gpl gty gvl h0_globalCount fun_ h0_funCount h0_open h0_signs lev h0_now kno h0_knownCount h0_loops mad j204_h0_madeLength mag sml grt h0_module_r h0_spare_r h0_m h0_cursor h0_limit blk stk h0_top hgt lab ous kis los h0_depth h0_function mem h0_pages glo val h0_valueTop ffu fre fba fla h0_frames lat lhe h0_labelTop h0_steps h0_there rsl h0_resultLength h0_reason h0_place arg h0_argumentCount h0_code mad cmad j204_mad)) [6, 7] rfl
        have hDc := hD.sb (wq := (wz_311 h0 rf tap h0_taped h0_length h0_kind h0_from h0_to h0_word h0_numeral gnm gpl gty gvl h0_globalCount fun_ h0_funCount h0_open h0_signs lev h0_now kno h0_knownCount h0_loops mad j204_h0_madeLength mag sml grt h0_module_r h0_spare_r h0_m h0_cursor h0_limit blk stk h0_top hgt lab ous kis los h0_depth h0_function mem h0_pages glo val h0_valueTop ffu fre fba fla h0_frames lat lhe h0_labelTop h0_steps h0_there rsl h0_resultLength h0_reason h0_place arg h0_argumentCount h0_code mad cmad j204_mad)) [6, 7] (by decide) rfl
        have hKc := hK.sb (tyq := [(cmad, .byte)]) [0] rfl
        have hFc := va_free (wc := (wz_311 h0 rf tap h0_taped h0_length h0_kind h0_from h0_to h0_word h0_numeral gnm gpl gty gvl h0_globalCount fun_ h0_funCount h0_open h0_signs lev h0_now kno h0_knownCount h0_loops mad j204_h0_madeLength mag sml grt h0_module_r h0_spare_r h0_m h0_cursor h0_limit blk stk h0_top hgt lab ous kis los h0_depth h0_function mem h0_pages glo val h0_valueTop ffu fre fba fla h0_frames lat lhe h0_labelTop h0_steps h0_there rsl h0_resultLength h0_reason h0_place arg h0_argumentCount h0_code mad cmad j204_mad)) hD hS hA [6, 7] rfl
        refine va_callv (va_runV (As := [.int x63]) (rest := []) ⟨hx, hb, hml, hown, hts⟩ (c_MD_put l dC dI H.size h0 rf tap gnm gpl gty gvl fun_ lev kno mad mag sml grt h0_module_r h0_spare_r blk stk hgt lab ous kis los mem glo val ffu fre fba fla lat lhe rsl arg cmad h0_taped h0_length h0_kind h0_from h0_to h0_word h0_numeral h0_globalCount h0_funCount h0_open h0_signs h0_now h0_knownCount h0_loops j204_h0_madeLength h0_m h0_cursor h0_limit h0_top h0_depth h0_function h0_pages h0_valueTop h0_frames h0_labelTop h0_steps h0_there h0_resultLength h0_reason h0_place h0_argumentCount h0_code j204_mad (b_j204_h0_madeLength) x63 (by (first | (apply Int.le_antisymm <;> omega) | omega))) (cwV 1 hts (gV kM_MD_398 kV_MD_put kS_MD_put kI_MD kC_MD_put) rfl rfl rfl (by decide +kernel) ⟨(show 0 + 1 ≤ 3 * dep + 46 from by (first | (apply Int.le_antisymm <;> omega) | omega)), (show 8 + (2 + 11) + (0) ≤ 80 * dep + 640 from by (first | (apply Int.le_antisymm <;> omega) | omega))⟩) ⟨fun a U g mk z => by obtain ⟨z0, z1, zP, zK, zD, zS⟩ := z; exact ⟨z0, z1, zP, va_K.moved (u := U) (U := U.calling g mk a) (Vm.Alike.refl U.vm) zK, zD, sw_nest.same (s := U) (U := U.calling g mk a) rfl zS⟩, va_recv hKc hPc (ci := 11) (q0 := 0) rfl rfl, fun U hU hW => ⟨rfl, by rw [hU], va_P.he hU.symm hPc, va_K.moved hW.alike hKc, hDc.weaken (fun _ _ _ _ => trivial), hSW.nest.warm hW⟩⟩ rfl rfl hl.1 rfl (lv_room (Nat.le_of_ble_eq_true rfl)) d_MD_emitAll_233 ⟨by dsimp only [headSpec]; (first | (apply Int.le_antisymm <;> omega) | omega), by dsimp only [headSpec]; (first | (apply Int.le_antisymm <;> omega) | omega)⟩) hS (fun q _ h => hFc q h) hFc (fun u t H1 locs ht hvm hw hB hz1 hk1 hS => ?_)
        obtain ⟨n65, n66⟩ := u
        try dsimp only at hw
        obtain ⟨bn66, xr64⟩ := hw
        try clear hw
        obtain ⟨f_1, f_2, -⟩ := xr64
        obtain ⟨hP1, hK1, hD1⟩ := hB
        replace hP1 := va_P.he ht hP1
        obtain ⟨hP, hD⟩ := va_joinQ (wr := (wz_606 mag cmag gmag gty cgty ggty gvl cgvl ggvl fun_ cfun_ gfun_ sml csml gsml grt cgrt ggrt)) (w1 := (wz_311 h0 rf tap h0_taped h0_length h0_kind h0_from h0_to h0_word h0_numeral gnm gpl gty gvl h0_globalCount fun_ h0_funCount h0_open h0_signs lev h0_now kno h0_knownCount h0_loops mad n66 mag sml grt h0_module_r h0_spare_r h0_m h0_cursor h0_limit blk stk h0_top hgt lab ous kis los h0_depth h0_function mem h0_pages glo val h0_valueTop ffu fre fba fla h0_frames lat lhe h0_labelTop h0_steps h0_there rsl h0_resultLength h0_reason h0_place arg h0_argumentCount h0_code mad cmad n65)) hP hD [6, 7] [0, 1, 2, 3, 4, 5] rfl rfl (by decide) (by decide) hk1 hFc hP1 hD1
        clear hPc hDc hKc hFc hz1 hk1 hP1 hK1 hD1
        rename Heap => H
        have hP : va_P (dC, dI) cls2 (((wz_607 mag cmag gmag gty cgty ggty gvl cgvl ggvl fun_ cfun_ gfun_ sml csml gsml grt cgrt ggrt h0 rf tap h0_taped h0_length h0_kind h0_from h0_to h0_word h0_numeral gnm gpl gty gvl h0_globalCount fun_ h0_funCount h0_open h0_signs lev h0_now kno h0_knownCount h0_loops mad n66 mag sml grt h0_module_r h0_spare_r h0_m h0_cursor h0_limit blk stk h0_top hgt lab ous kis los h0_depth h0_function mem h0_pages glo val h0_valueTop ffu fre fba fla h0_frames lat lhe h0_labelTop h0_steps h0_there rsl h0_resultLength h0_reason h0_place arg h0_argumentCount h0_code mad cmad n65) : va_W) ++ va_pl LP j134_PO) H := hP
        have hD : va_D A (((wz_607 mag cmag gmag gty cgty ggty gvl cgvl ggvl fun_ cfun_ gfun_ sml csml gsml grt cgrt ggrt h0 rf tap h0_taped h0_length h0_kind h0_from h0_to h0_word h0_numeral gnm gpl gty gvl h0_globalCount fun_ h0_funCount h0_open h0_signs lev h0_now kno h0_knownCount h0_loops mad n66 mag sml grt h0_module_r h0_spare_r h0_m h0_cursor h0_limit blk stk h0_top hgt lab ous kis los h0_depth h0_function mem h0_pages glo val h0_valueTop ffu fre fba fla h0_frames lat lhe h0_labelTop h0_steps h0_there rsl h0_resultLength h0_reason h0_place arg h0_argumentCount h0_code mad cmad n65) : va_W) ++ va_pl LP j134_PO) := hD
        obtain ⟨x69, ex69⟩ : ∃ z : Int32, z = j204_l5 + 1 := ⟨_, rfl⟩
        have tx69 : x69.toInt = j204_l5.toInt + 1 := by have z := i32_add ex69 (by (first | (apply Int.le_antisymm <;> omega) | omega)) (by (first | (apply Int.le_antisymm <;> omega) | omega)); first | exact z | (first | (apply Int.le_antisymm <;> omega) | omega)
        refine lv_iinc (v := x69) (lv' := [(5, .int x69), (0, .ref h0), (2, .int r1), (3, .int x19), (4, .int j151_l4)]) hx hb d_MD_emitAll_236 hl (k := 4) rfl (by rw [ex69]; rfl) (by decide) rfl (fun ls hl => ?_)
        refine lv_goto (tgt := 204) hx hb d_MD_emitAll_239 (by decide) ?_
        exact ih204 (x69, n65, n66) _ _ _ (by show (8 - x69.toInt).toNat < N204; (first | (apply Int.le_antisymm <;> omega) | omega)) ⟨by (try dsimp only) <;> (first | (apply Int.le_antisymm <;> omega) | omega), bn66, (by rw [show x69.toNatClampNeg = j204_l5.toNatClampNeg + 1 from clampN (by (first | (apply Int.le_antisymm <;> omega) | omega)), bl_succ, ← ex63]; have q := mdl_ap2 mp.out f_2 (by (first | (apply Int.le_antisymm <;> omega) | omega)); simp only [List.append_assoc] at q ⊢; exact q), by (try dsimp only) <;> (first | (apply Int.le_antisymm <;> omega) | omega), hP, hD, hS, lv_sub hl [1, 2, 3, 4, 0] rfl⟩
    · have q171 := neI c171
      refine lv_goto (tgt := 291) hx hb d_MD_emitAll_174 (by decide) ?_
      obtain ⟨x70, ex70⟩ : ∃ z : Int32, z = j151_l4 + 1 := ⟨_, rfl⟩
      have tx70 : x70.toInt = j151_l4.toInt + 1 := by have z := i32_add ex70 (by (first | (apply Int.le_antisymm <;> omega) | omega)) (by (first | (apply Int.le_antisymm <;> omega) | omega)); first | exact z | (first | (apply Int.le_antisymm <;> omega) | omega)
      refine lv_iinc (v := x70) (lv' := [(4, .int x70), (0, .ref h0), (2, .int r1), (3, .int j151_l3)]) hx hb d_MD_emitAll_291 hl (k := 3) rfl (by rw [ex70]; rfl) (by decide) rfl (fun ls hl => ?_)
      refine lv_goto (tgt := 151) hx hb d_MD_emitAll_294 (by decide) ?_
      exact ih151 (j151_l3, x70, j151_mad, j151_h0_madeLength) _ _ _ (by show (20 - x70.toInt).toNat < N151; (first | (apply Int.le_antisymm <;> omega) | omega)) ⟨b_j151_l3, by (try dsimp only) <;> (first | (apply Int.le_antisymm <;> omega) | omega), b_j151_h0_madeLength, ⟨Rl, tb, (by rw [show x70.toNatClampNeg = j151_l4.toNatClampNeg + 1 from clampN (by (first | (apply Int.le_antisymm <;> omega) | omega))]; exact (tyI_new tyr.out (by (first | (apply Int.le_antisymm <;> omega) | omega)) tyq.out).2 (by (first | (apply Int.le_antisymm <;> omega) | omega))), by (first | (apply Int.le_antisymm <;> omega) | omega), tbq.out, md.out⟩, by (try dsimp only) <;> (first | (apply Int.le_antisymm <;> omega) | omega), hP, hD, hS, lv_sub hl [1, 2, 3, 0] rfl⟩

/-! the law: its instructions, calls over two worlds -/
theorem kI_LW : Cond.initialized R_LW ∈ lw_g := in_g 0 (by decide +kernel) rfl
theorem kM_LW_57 : Cond.methodLink R_LW 57 y_WF_init ∈ lw_g := in_g 43 (by decide +kernel) rfl
theorem kV_WF_init : Cond.instanceMethod y_WF_init ∈ lw_g := in_g 44 (by decide +kernel) rfl
theorem kM_LW_60 : Cond.methodLink R_LW 60 y_MD_init ∈ lw_g := in_g 1739 (by decide +kernel) rfl
theorem kV_MD_init : Cond.instanceMethod y_MD_init ∈ lw_g := in_g 1740 (by decide +kernel) rfl
theorem kM_LW_61 : Cond.methodLink R_LW 61 y_LW_feed ∈ lw_g := in_g 651 (by decide +kernel) rfl
theorem kT_LW_feed : Cond.static y_LW_feed ∈ lw_g := in_g 652 (by decide +kernel) rfl
theorem kM_LW_66 : Cond.methodLink R_LW 66 y_MD_feed ∈ lw_g := in_g 2101 (by decide +kernel) rfl
theorem kV_MD_feed : Cond.instanceMethod y_MD_feed ∈ lw_g := in_g 2102 (by decide +kernel) rfl
theorem kS_MD_feed : Cond.selects R_MD y_MD_feed y_MD_feed ∈ lw_g := in_g 2103 (by decide +kernel) rfl
theorem kM_LW_67 : Cond.methodLink R_LW 67 y_LW_end ∈ lw_g := in_g 734 (by decide +kernel) rfl
theorem kT_LW_end : Cond.static y_LW_end ∈ lw_g := in_g 735 (by decide +kernel) rfl
theorem kM_LW_70 : Cond.methodLink R_LW 70 y_MD_end ∈ lw_g := in_g 2113 (by decide +kernel) rfl
theorem kV_MD_end : Cond.instanceMethod y_MD_end ∈ lw_g := in_g 2114 (by decide +kernel) rfl
theorem kS_MD_end : Cond.selects R_MD y_MD_end y_MD_end ∈ lw_g := in_g 2115 (by decide +kernel) rfl
theorem kM_LW_71 : Cond.methodLink R_LW 71 y_MD_thrown ∈ lw_g := in_g 2097 (by decide +kernel) rfl
theorem kV_MD_thrown : Cond.instanceMethod y_MD_thrown ∈ lw_g := in_g 2098 (by decide +kernel) rfl
theorem kS_MD_thrown : Cond.selects R_MD y_MD_thrown y_MD_thrown ∈ lw_g := in_g 2099 (by decide +kernel) rfl
theorem kM_LW_74 : Cond.methodLink R_LW 74 y_LW_compile ∈ lw_g := in_g 757 (by decide +kernel) rfl
theorem kT_LW_compile : Cond.static y_LW_compile ∈ lw_g := in_g 758 (by decide +kernel) rfl
theorem kM_LW_77 : Cond.methodLink R_LW 77 y_MD_compile ∈ lw_g := in_g 2117 (by decide +kernel) rfl
theorem kV_MD_compile : Cond.instanceMethod y_MD_compile ∈ lw_g := in_g 2118 (by decide +kernel) rfl
theorem kS_MD_compile : Cond.selects R_MD y_MD_compile y_MD_compile ∈ lw_g := in_g 2119 (by decide +kernel) rfl
theorem kM_LW_78 : Cond.methodLink R_LW 78 y_LW_module ∈ lw_g := in_g 1377 (by decide +kernel) rfl
theorem kT_LW_module : Cond.static y_LW_module ∈ lw_g := in_g 1378 (by decide +kernel) rfl
theorem kM_LW_80 : Cond.methodLink R_LW 80 y_MD_module ∈ lw_g := in_g 2923 (by decide +kernel) rfl
theorem kV_MD_module : Cond.instanceMethod y_MD_module ∈ lw_g := in_g 2924 (by decide +kernel) rfl
theorem kS_MD_module : Cond.selects R_MD y_MD_module y_MD_module ∈ lw_g := in_g 2925 (by decide +kernel) rfl
theorem kM_LW_81 : Cond.methodLink R_LW 81 y_LW_emit ∈ lw_g := in_g 1495 (by decide +kernel) rfl
theorem kT_LW_emit : Cond.static y_LW_emit ∈ lw_g := in_g 1496 (by decide +kernel) rfl
theorem kM_LW_83 : Cond.methodLink R_LW 83 y_MD_emit0 ∈ lw_g := in_g 2992 (by decide +kernel) rfl
theorem kV_MD_emit0 : Cond.instanceMethod y_MD_emit0 ∈ lw_g := in_g 2993 (by decide +kernel) rfl
theorem kS_MD_emit0 : Cond.selects R_MD y_MD_emit0 y_MD_emit0 ∈ lw_g := in_g 2994 (by decide +kernel) rfl
theorem kM_LW_84 : Cond.methodLink R_LW 84 y_WF_find ∈ lw_g := in_g 639 (by decide +kernel) rfl
theorem kV_WF_find : Cond.instanceMethod y_WF_find ∈ lw_g := in_g 640 (by decide +kernel) rfl
theorem kS_WF_find : Cond.selects R_WF y_WF_find y_WF_find ∈ lw_g := in_g 641 (by decide +kernel) rfl
theorem kM_LW_87 : Cond.methodLink R_LW 87 y_MD_find ∈ lw_g := in_g 2996 (by decide +kernel) rfl
theorem kV_MD_find : Cond.instanceMethod y_MD_find ∈ lw_g := in_g 2997 (by decide +kernel) rfl
theorem kS_MD_find : Cond.selects R_MD y_MD_find y_MD_find ∈ lw_g := in_g 2998 (by decide +kernel) rfl
theorem kM_LW_90 : Cond.methodLink R_LW 90 y_LW_argument ∈ lw_g := in_g 1518 (by decide +kernel) rfl
theorem kT_LW_argument : Cond.static y_LW_argument ∈ lw_g := in_g 1519 (by decide +kernel) rfl
theorem kM_LW_93 : Cond.methodLink R_LW 93 y_MD_argument ∈ lw_g := in_g 3000 (by decide +kernel) rfl
theorem kV_MD_argument : Cond.instanceMethod y_MD_argument ∈ lw_g := in_g 3001 (by decide +kernel) rfl
theorem kS_MD_argument : Cond.selects R_MD y_MD_argument y_MD_argument ∈ lw_g := in_g 3002 (by decide +kernel) rfl
theorem kM_LW_94 : Cond.methodLink R_LW 94 y_LW_call ∈ lw_g := in_g 1525 (by decide +kernel) rfl
theorem kT_LW_call : Cond.static y_LW_call ∈ lw_g := in_g 1526 (by decide +kernel) rfl
theorem kM_LW_96 : Cond.methodLink R_LW 96 y_MD_call ∈ lw_g := in_g 3004 (by decide +kernel) rfl
theorem kV_MD_call : Cond.instanceMethod y_MD_call ∈ lw_g := in_g 3005 (by decide +kernel) rfl
theorem kS_MD_call : Cond.selects R_MD y_MD_call y_MD_call ∈ lw_g := in_g 3006 (by decide +kernel) rfl
theorem kM_LW_97 : Cond.methodLink R_LW 97 y_LW_global ∈ lw_g := in_g 1706 (by decide +kernel) rfl
theorem kT_LW_global : Cond.static y_LW_global ∈ lw_g := in_g 1707 (by decide +kernel) rfl
theorem kM_LW_99 : Cond.methodLink R_LW 99 y_MD_global1 ∈ lw_g := in_g 3082 (by decide +kernel) rfl
theorem kV_MD_global1 : Cond.instanceMethod y_MD_global1 ∈ lw_g := in_g 3083 (by decide +kernel) rfl
theorem kS_MD_global1 : Cond.selects R_MD y_MD_global1 y_MD_global1 ∈ lw_g := in_g 3084 (by decide +kernel) rfl
theorem kM_LW_100 : Cond.methodLink R_LW 100 y_LW_memory ∈ lw_g := in_g 1713 (by decide +kernel) rfl
theorem kT_LW_memory : Cond.static y_LW_memory ∈ lw_g := in_g 1714 (by decide +kernel) rfl
theorem kM_LW_102 : Cond.methodLink R_LW 102 y_MD_memory0 ∈ lw_g := in_g 3086 (by decide +kernel) rfl
theorem kV_MD_memory0 : Cond.instanceMethod y_MD_memory0 ∈ lw_g := in_g 3087 (by decide +kernel) rfl
theorem kS_MD_memory0 : Cond.selects R_MD y_MD_memory0 y_MD_memory0 ∈ lw_g := in_g 3088 (by decide +kernel) rfl
theorem kM_LW_103 : Cond.methodLink R_LW 103 y_LW_word ∈ lw_g := in_g 1722 (by decide +kernel) rfl
theorem kT_LW_word : Cond.static y_LW_word ∈ lw_g := in_g 1723 (by decide +kernel) rfl
theorem kM_LW_105 : Cond.methodLink R_LW 105 y_MD_word ∈ lw_g := in_g 3091 (by decide +kernel) rfl
theorem kV_MD_word : Cond.instanceMethod y_MD_word ∈ lw_g := in_g 3092 (by decide +kernel) rfl
theorem kS_MD_word : Cond.selects R_MD y_MD_word y_MD_word ∈ lw_g := in_g 3093 (by decide +kernel) rfl
theorem kM_LW_106 : Cond.methodLink R_LW 106 y_LW_count ∈ lw_g := in_g 1730 (by decide +kernel) rfl
theorem kT_LW_count : Cond.static y_LW_count ∈ lw_g := in_g 1731 (by decide +kernel) rfl
theorem kM_LW_108 : Cond.methodLink R_LW 108 y_MD_count1 ∈ lw_g := in_g 3095 (by decide +kernel) rfl
theorem kV_MD_count1 : Cond.instanceMethod y_MD_count1 ∈ lw_g := in_g 3096 (by decide +kernel) rfl
theorem kS_MD_count1 : Cond.selects R_MD y_MD_count1 y_MD_count1 ∈ lw_g := in_g 3097 (by decide +kernel) rfl
theorem kL_LW_88 : Cond.constantLong R_LW 88 (4294967295) ∈ lw_g := in_g 3099 (by decide +kernel) rfl
theorem d_law_0 : decode code 0 = .ok (.new 8, 3) := by decide +kernel
theorem d_law_3 : decode code 3 = .ok (.dup, 1) := by decide +kernel
theorem d_law_4 : decode code 4 = .ok (.invokespecial 57, 3) := by decide +kernel
theorem d_law_7 : decode code 7 = .ok (.astore_n 1, 1) := by decide +kernel
theorem d_law_8 : decode code 8 = .ok (.new 58, 3) := by decide +kernel
theorem d_law_11 : decode code 11 = .ok (.dup, 1) := by decide +kernel
theorem d_law_12 : decode code 12 = .ok (.invokespecial 60, 3) := by decide +kernel
theorem d_law_15 : decode code 15 = .ok (.astore_n 2, 1) := by decide +kernel
theorem d_law_16 : decode code 16 = .ok (.iconst 1, 1) := by decide +kernel
theorem d_law_17 : decode code 17 = .ok (.newarray .long, 2) := by decide +kernel
theorem d_law_19 : decode code 19 = .ok (.astore_n 3, 1) := by decide +kernel
theorem d_law_20 : decode code 20 = .ok (.iconst 0, 1) := by decide +kernel
theorem d_law_21 : decode code 21 = .ok (.istore 4, 2) := by decide +kernel
theorem d_law_23 : decode code 23 = .ok (.iload 4, 2) := by decide +kernel
theorem d_law_25 : decode code 25 = .ok (.aload_n 0, 1) := by decide +kernel
theorem d_law_26 : decode code 26 = .ok (.arraylength, 1) := by decide +kernel
theorem d_law_27 : decode code 27 = .ok (.bipush 6, 2) := by decide +kernel
theorem d_law_29 : decode code 29 = .ok (.isub, 1) := by decide +kernel
theorem d_law_30 : decode code 30 = .ok (.if_icmp .gt 473, 3) := by decide +kernel
theorem d_law_33 : decode code 33 = .ok (.aload_n 0, 1) := by decide +kernel
theorem d_law_34 : decode code 34 = .ok (.iload 4, 2) := by decide +kernel
theorem d_law_36 : decode code 36 = .ok (.iaload, 1) := by decide +kernel
theorem d_law_37 : decode code 37 = .ok (.bipush 15, 2) := by decide +kernel
theorem d_law_39 : decode code 39 = .ok (.iand, 1) := by decide +kernel
theorem d_law_40 : decode code 40 = .ok (.tableswitch 457 0 11 #[64, 140, 196, 212, 228, 244, 257, 317, 345, 373, 401, 429], 64) := by decide +kernel
theorem d_law_104 : decode code 104 = .ok (.aload_n 1, 1) := by decide +kernel
theorem d_law_105 : decode code 105 = .ok (.aload_n 0, 1) := by decide +kernel
theorem d_law_106 : decode code 106 = .ok (.iload 4, 2) := by decide +kernel
theorem d_law_108 : decode code 108 = .ok (.iconst 1, 1) := by decide +kernel
theorem d_law_109 : decode code 109 = .ok (.iadd, 1) := by decide +kernel
theorem d_law_110 : decode code 110 = .ok (.iaload, 1) := by decide +kernel
theorem d_law_111 : decode code 111 = .ok (.aload_n 0, 1) := by decide +kernel
theorem d_law_112 : decode code 112 = .ok (.iload 4, 2) := by decide +kernel
theorem d_law_114 : decode code 114 = .ok (.iconst 2, 1) := by decide +kernel
theorem d_law_115 : decode code 115 = .ok (.iadd, 1) := by decide +kernel
theorem d_law_116 : decode code 116 = .ok (.iaload, 1) := by decide +kernel
theorem d_law_117 : decode code 117 = .ok (.aload_n 0, 1) := by decide +kernel
theorem d_law_118 : decode code 118 = .ok (.iload 4, 2) := by decide +kernel
theorem d_law_120 : decode code 120 = .ok (.iconst 3, 1) := by decide +kernel
theorem d_law_121 : decode code 121 = .ok (.iadd, 1) := by decide +kernel
theorem d_law_122 : decode code 122 = .ok (.iaload, 1) := by decide +kernel
theorem d_law_123 : decode code 123 = .ok (.aload_n 0, 1) := by decide +kernel
theorem d_law_124 : decode code 124 = .ok (.iload 4, 2) := by decide +kernel
theorem d_law_126 : decode code 126 = .ok (.iconst 4, 1) := by decide +kernel
theorem d_law_127 : decode code 127 = .ok (.iadd, 1) := by decide +kernel
theorem d_law_128 : decode code 128 = .ok (.iaload, 1) := by decide +kernel
theorem d_law_129 : decode code 129 = .ok (.aload_n 0, 1) := by decide +kernel
theorem d_law_130 : decode code 130 = .ok (.iload 4, 2) := by decide +kernel
theorem d_law_132 : decode code 132 = .ok (.iconst 5, 1) := by decide +kernel
theorem d_law_133 : decode code 133 = .ok (.iadd, 1) := by decide +kernel
theorem d_law_134 : decode code 134 = .ok (.iaload, 1) := by decide +kernel
theorem d_law_135 : decode code 135 = .ok (.aload_n 3, 1) := by decide +kernel
theorem d_law_136 : decode code 136 = .ok (.invokestatic 61, 3) := by decide +kernel
theorem d_law_139 : decode code 139 = .ok (.istore 5, 2) := by decide +kernel
theorem d_law_141 : decode code 141 = .ok (.aload_n 2, 1) := by decide +kernel
theorem d_law_142 : decode code 142 = .ok (.aload_n 0, 1) := by decide +kernel
theorem d_law_143 : decode code 143 = .ok (.iload 4, 2) := by decide +kernel
theorem d_law_145 : decode code 145 = .ok (.iconst 1, 1) := by decide +kernel
theorem d_law_146 : decode code 146 = .ok (.iadd, 1) := by decide +kernel
theorem d_law_147 : decode code 147 = .ok (.iaload, 1) := by decide +kernel
theorem d_law_148 : decode code 148 = .ok (.aload_n 0, 1) := by decide +kernel
theorem d_law_149 : decode code 149 = .ok (.iload 4, 2) := by decide +kernel
theorem d_law_151 : decode code 151 = .ok (.iconst 2, 1) := by decide +kernel
theorem d_law_152 : decode code 152 = .ok (.iadd, 1) := by decide +kernel
theorem d_law_153 : decode code 153 = .ok (.iaload, 1) := by decide +kernel
theorem d_law_154 : decode code 154 = .ok (.aload_n 0, 1) := by decide +kernel
theorem d_law_155 : decode code 155 = .ok (.iload 4, 2) := by decide +kernel
theorem d_law_157 : decode code 157 = .ok (.iconst 3, 1) := by decide +kernel
theorem d_law_158 : decode code 158 = .ok (.iadd, 1) := by decide +kernel
theorem d_law_159 : decode code 159 = .ok (.iaload, 1) := by decide +kernel
theorem d_law_160 : decode code 160 = .ok (.aload_n 0, 1) := by decide +kernel
theorem d_law_161 : decode code 161 = .ok (.iload 4, 2) := by decide +kernel
theorem d_law_163 : decode code 163 = .ok (.iconst 4, 1) := by decide +kernel
theorem d_law_164 : decode code 164 = .ok (.iadd, 1) := by decide +kernel
theorem d_law_165 : decode code 165 = .ok (.iaload, 1) := by decide +kernel
theorem d_law_166 : decode code 166 = .ok (.aload_n 0, 1) := by decide +kernel
theorem d_law_167 : decode code 167 = .ok (.iload 4, 2) := by decide +kernel
theorem d_law_169 : decode code 169 = .ok (.iconst 5, 1) := by decide +kernel
theorem d_law_170 : decode code 170 = .ok (.iadd, 1) := by decide +kernel
theorem d_law_171 : decode code 171 = .ok (.iaload, 1) := by decide +kernel
theorem d_law_172 : decode code 172 = .ok (.invokevirtual 66, 3) := by decide +kernel
theorem d_law_175 : decode code 175 = .ok (.istore 6, 2) := by decide +kernel
theorem d_law_177 : decode code 177 = .ok (.goto 320, 3) := by decide +kernel
theorem d_law_180 : decode code 180 = .ok (.aload_n 1, 1) := by decide +kernel
theorem d_law_181 : decode code 181 = .ok (.aload_n 0, 1) := by decide +kernel
theorem d_law_182 : decode code 182 = .ok (.iload 4, 2) := by decide +kernel
theorem d_law_184 : decode code 184 = .ok (.iconst 1, 1) := by decide +kernel
theorem d_law_185 : decode code 185 = .ok (.iadd, 1) := by decide +kernel
theorem d_law_186 : decode code 186 = .ok (.iaload, 1) := by decide +kernel
theorem d_law_187 : decode code 187 = .ok (.aload_n 3, 1) := by decide +kernel
theorem d_law_188 : decode code 188 = .ok (.invokestatic 67, 3) := by decide +kernel
theorem d_law_191 : decode code 191 = .ok (.istore 5, 2) := by decide +kernel
theorem d_law_193 : decode code 193 = .ok (.aload_n 2, 1) := by decide +kernel
theorem d_law_194 : decode code 194 = .ok (.aload_n 0, 1) := by decide +kernel
theorem d_law_195 : decode code 195 = .ok (.iload 4, 2) := by decide +kernel
theorem d_law_197 : decode code 197 = .ok (.iconst 1, 1) := by decide +kernel
theorem d_law_198 : decode code 198 = .ok (.iadd, 1) := by decide +kernel
theorem d_law_199 : decode code 199 = .ok (.iaload, 1) := by decide +kernel
theorem d_law_200 : decode code 200 = .ok (.invokevirtual 70, 3) := by decide +kernel
theorem d_law_203 : decode code 203 = .ok (.istore 6, 2) := by decide +kernel
theorem d_law_205 : decode code 205 = .ok (.aload_n 2, 1) := by decide +kernel
theorem d_law_206 : decode code 206 = .ok (.invokevirtual 71, 3) := by decide +kernel
theorem d_law_209 : decode code 209 = .ok (.iload 5, 2) := by decide +kernel
theorem d_law_211 : decode code 211 = .ok (.if_icmp .eq 5, 3) := by decide +kernel
theorem d_law_214 : decode code 214 = .ok (.iconst 0, 1) := by decide +kernel
theorem d_law_215 : decode code 215 = .ok (.ireturn, 1) := by decide +kernel
theorem d_law_216 : decode code 216 = .ok (.iload 5, 2) := by decide +kernel
theorem d_law_218 : decode code 218 = .ok (.ifCond .ne 15, 3) := by decide +kernel
theorem d_law_221 : decode code 221 = .ok (.aload_n 3, 1) := by decide +kernel
theorem d_law_222 : decode code 222 = .ok (.iconst 0, 1) := by decide +kernel
theorem d_law_223 : decode code 223 = .ok (.laload, 1) := by decide +kernel
theorem d_law_224 : decode code 224 = .ok (.iload 6, 2) := by decide +kernel
theorem d_law_226 : decode code 226 = .ok (.i2l, 1) := by decide +kernel
theorem d_law_227 : decode code 227 = .ok (.lcmp, 1) := by decide +kernel
theorem d_law_228 : decode code 228 = .ok (.ifCond .eq 5, 3) := by decide +kernel
theorem d_law_231 : decode code 231 = .ok (.iconst 0, 1) := by decide +kernel
theorem d_law_232 : decode code 232 = .ok (.ireturn, 1) := by decide +kernel
theorem d_law_233 : decode code 233 = .ok (.goto 264, 3) := by decide +kernel
theorem d_law_236 : decode code 236 = .ok (.aload_n 1, 1) := by decide +kernel
theorem d_law_237 : decode code 237 = .ok (.aload_n 3, 1) := by decide +kernel
theorem d_law_238 : decode code 238 = .ok (.invokestatic 74, 3) := by decide +kernel
theorem d_law_241 : decode code 241 = .ok (.istore 5, 2) := by decide +kernel
theorem d_law_243 : decode code 243 = .ok (.aload_n 2, 1) := by decide +kernel
theorem d_law_244 : decode code 244 = .ok (.invokevirtual 77, 3) := by decide +kernel
theorem d_law_247 : decode code 247 = .ok (.istore 6, 2) := by decide +kernel
theorem d_law_249 : decode code 249 = .ok (.goto 248, 3) := by decide +kernel
theorem d_law_252 : decode code 252 = .ok (.aload_n 1, 1) := by decide +kernel
theorem d_law_253 : decode code 253 = .ok (.aload_n 3, 1) := by decide +kernel
theorem d_law_254 : decode code 254 = .ok (.invokestatic 78, 3) := by decide +kernel
theorem d_law_257 : decode code 257 = .ok (.istore 5, 2) := by decide +kernel
theorem d_law_259 : decode code 259 = .ok (.aload_n 2, 1) := by decide +kernel
theorem d_law_260 : decode code 260 = .ok (.invokevirtual 80, 3) := by decide +kernel
theorem d_law_263 : decode code 263 = .ok (.istore 6, 2) := by decide +kernel
theorem d_law_265 : decode code 265 = .ok (.goto 232, 3) := by decide +kernel
theorem d_law_268 : decode code 268 = .ok (.aload_n 1, 1) := by decide +kernel
theorem d_law_269 : decode code 269 = .ok (.aload_n 3, 1) := by decide +kernel
theorem d_law_270 : decode code 270 = .ok (.invokestatic 81, 3) := by decide +kernel
theorem d_law_273 : decode code 273 = .ok (.istore 5, 2) := by decide +kernel
theorem d_law_275 : decode code 275 = .ok (.aload_n 2, 1) := by decide +kernel
theorem d_law_276 : decode code 276 = .ok (.invokevirtual 83, 3) := by decide +kernel
theorem d_law_279 : decode code 279 = .ok (.istore 6, 2) := by decide +kernel
theorem d_law_281 : decode code 281 = .ok (.goto 216, 3) := by decide +kernel
theorem d_law_284 : decode code 284 = .ok (.aload_n 1, 1) := by decide +kernel
theorem d_law_285 : decode code 285 = .ok (.invokevirtual 84, 3) := by decide +kernel
theorem d_law_288 : decode code 288 = .ok (.pop, 1) := by decide +kernel
theorem d_law_289 : decode code 289 = .ok (.aload_n 2, 1) := by decide +kernel
theorem d_law_290 : decode code 290 = .ok (.invokevirtual 87, 3) := by decide +kernel
theorem d_law_293 : decode code 293 = .ok (.pop, 1) := by decide +kernel
theorem d_law_294 : decode code 294 = .ok (.goto 203, 3) := by decide +kernel
theorem d_law_297 : decode code 297 = .ok (.aload_n 1, 1) := by decide +kernel
theorem d_law_298 : decode code 298 = .ok (.aload_n 0, 1) := by decide +kernel
theorem d_law_299 : decode code 299 = .ok (.iload 4, 2) := by decide +kernel
theorem d_law_301 : decode code 301 = .ok (.iconst 1, 1) := by decide +kernel
theorem d_law_302 : decode code 302 = .ok (.iadd, 1) := by decide +kernel
theorem d_law_303 : decode code 303 = .ok (.iaload, 1) := by decide +kernel
theorem d_law_304 : decode code 304 = .ok (.i2l, 1) := by decide +kernel
theorem d_law_305 : decode code 305 = .ok (.bipush 32, 2) := by decide +kernel
theorem d_law_307 : decode code 307 = .ok (.lshl, 1) := by decide +kernel
theorem d_law_308 : decode code 308 = .ok (.aload_n 0, 1) := by decide +kernel
theorem d_law_309 : decode code 309 = .ok (.iload 4, 2) := by decide +kernel
theorem d_law_311 : decode code 311 = .ok (.iconst 2, 1) := by decide +kernel
theorem d_law_312 : decode code 312 = .ok (.iadd, 1) := by decide +kernel
theorem d_law_313 : decode code 313 = .ok (.iaload, 1) := by decide +kernel
theorem d_law_314 : decode code 314 = .ok (.i2l, 1) := by decide +kernel
theorem d_law_315 : decode code 315 = .ok (.ldc2_w 88, 3) := by decide +kernel
theorem d_law_318 : decode code 318 = .ok (.land, 1) := by decide +kernel
theorem d_law_319 : decode code 319 = .ok (.lor, 1) := by decide +kernel
theorem d_law_320 : decode code 320 = .ok (.aload_n 3, 1) := by decide +kernel
theorem d_law_321 : decode code 321 = .ok (.invokestatic 90, 3) := by decide +kernel
theorem d_law_324 : decode code 324 = .ok (.istore 5, 2) := by decide +kernel
theorem d_law_326 : decode code 326 = .ok (.aload_n 2, 1) := by decide +kernel
theorem d_law_327 : decode code 327 = .ok (.aload_n 0, 1) := by decide +kernel
theorem d_law_328 : decode code 328 = .ok (.iload 4, 2) := by decide +kernel
theorem d_law_330 : decode code 330 = .ok (.iconst 1, 1) := by decide +kernel
theorem d_law_331 : decode code 331 = .ok (.iadd, 1) := by decide +kernel
theorem d_law_332 : decode code 332 = .ok (.iaload, 1) := by decide +kernel
theorem d_law_333 : decode code 333 = .ok (.i2l, 1) := by decide +kernel
theorem d_law_334 : decode code 334 = .ok (.bipush 32, 2) := by decide +kernel
theorem d_law_336 : decode code 336 = .ok (.lshl, 1) := by decide +kernel
theorem d_law_337 : decode code 337 = .ok (.aload_n 0, 1) := by decide +kernel
theorem d_law_338 : decode code 338 = .ok (.iload 4, 2) := by decide +kernel
theorem d_law_340 : decode code 340 = .ok (.iconst 2, 1) := by decide +kernel
theorem d_law_341 : decode code 341 = .ok (.iadd, 1) := by decide +kernel
theorem d_law_342 : decode code 342 = .ok (.iaload, 1) := by decide +kernel
theorem d_law_343 : decode code 343 = .ok (.i2l, 1) := by decide +kernel
theorem d_law_344 : decode code 344 = .ok (.ldc2_w 88, 3) := by decide +kernel
theorem d_law_347 : decode code 347 = .ok (.land, 1) := by decide +kernel
theorem d_law_348 : decode code 348 = .ok (.lor, 1) := by decide +kernel
theorem d_law_349 : decode code 349 = .ok (.invokevirtual 93, 3) := by decide +kernel
theorem d_law_352 : decode code 352 = .ok (.istore 6, 2) := by decide +kernel
theorem d_law_354 : decode code 354 = .ok (.goto 143, 3) := by decide +kernel
theorem d_law_357 : decode code 357 = .ok (.aload_n 1, 1) := by decide +kernel
theorem d_law_358 : decode code 358 = .ok (.aload_n 0, 1) := by decide +kernel
theorem d_law_359 : decode code 359 = .ok (.iload 4, 2) := by decide +kernel
theorem d_law_361 : decode code 361 = .ok (.iconst 1, 1) := by decide +kernel
theorem d_law_362 : decode code 362 = .ok (.iadd, 1) := by decide +kernel
theorem d_law_363 : decode code 363 = .ok (.iaload, 1) := by decide +kernel
theorem d_law_364 : decode code 364 = .ok (.aload_n 3, 1) := by decide +kernel
theorem d_law_365 : decode code 365 = .ok (.invokestatic 94, 3) := by decide +kernel
theorem d_law_368 : decode code 368 = .ok (.istore 5, 2) := by decide +kernel
theorem d_law_370 : decode code 370 = .ok (.aload_n 2, 1) := by decide +kernel
theorem d_law_371 : decode code 371 = .ok (.aload_n 0, 1) := by decide +kernel
theorem d_law_372 : decode code 372 = .ok (.iload 4, 2) := by decide +kernel
theorem d_law_374 : decode code 374 = .ok (.iconst 1, 1) := by decide +kernel
theorem d_law_375 : decode code 375 = .ok (.iadd, 1) := by decide +kernel
theorem d_law_376 : decode code 376 = .ok (.iaload, 1) := by decide +kernel
theorem d_law_377 : decode code 377 = .ok (.invokevirtual 96, 3) := by decide +kernel
theorem d_law_380 : decode code 380 = .ok (.lstore 6, 2) := by decide +kernel
theorem d_law_382 : decode code 382 = .ok (.goto 115, 3) := by decide +kernel
theorem d_law_385 : decode code 385 = .ok (.aload_n 1, 1) := by decide +kernel
theorem d_law_386 : decode code 386 = .ok (.aload_n 0, 1) := by decide +kernel
theorem d_law_387 : decode code 387 = .ok (.iload 4, 2) := by decide +kernel
theorem d_law_389 : decode code 389 = .ok (.iconst 1, 1) := by decide +kernel
theorem d_law_390 : decode code 390 = .ok (.iadd, 1) := by decide +kernel
theorem d_law_391 : decode code 391 = .ok (.iaload, 1) := by decide +kernel
theorem d_law_392 : decode code 392 = .ok (.aload_n 3, 1) := by decide +kernel
theorem d_law_393 : decode code 393 = .ok (.invokestatic 97, 3) := by decide +kernel
theorem d_law_396 : decode code 396 = .ok (.istore 5, 2) := by decide +kernel
theorem d_law_398 : decode code 398 = .ok (.aload_n 2, 1) := by decide +kernel
theorem d_law_399 : decode code 399 = .ok (.aload_n 0, 1) := by decide +kernel
theorem d_law_400 : decode code 400 = .ok (.iload 4, 2) := by decide +kernel
theorem d_law_402 : decode code 402 = .ok (.iconst 1, 1) := by decide +kernel
theorem d_law_403 : decode code 403 = .ok (.iadd, 1) := by decide +kernel
theorem d_law_404 : decode code 404 = .ok (.iaload, 1) := by decide +kernel
theorem d_law_405 : decode code 405 = .ok (.invokevirtual 99, 3) := by decide +kernel
theorem d_law_408 : decode code 408 = .ok (.lstore 6, 2) := by decide +kernel
theorem d_law_410 : decode code 410 = .ok (.goto 87, 3) := by decide +kernel
theorem d_law_413 : decode code 413 = .ok (.aload_n 1, 1) := by decide +kernel
theorem d_law_414 : decode code 414 = .ok (.aload_n 0, 1) := by decide +kernel
theorem d_law_415 : decode code 415 = .ok (.iload 4, 2) := by decide +kernel
theorem d_law_417 : decode code 417 = .ok (.iconst 1, 1) := by decide +kernel
theorem d_law_418 : decode code 418 = .ok (.iadd, 1) := by decide +kernel
theorem d_law_419 : decode code 419 = .ok (.iaload, 1) := by decide +kernel
theorem d_law_420 : decode code 420 = .ok (.aload_n 3, 1) := by decide +kernel
theorem d_law_421 : decode code 421 = .ok (.invokestatic 100, 3) := by decide +kernel
theorem d_law_424 : decode code 424 = .ok (.istore 5, 2) := by decide +kernel
theorem d_law_426 : decode code 426 = .ok (.aload_n 2, 1) := by decide +kernel
theorem d_law_427 : decode code 427 = .ok (.aload_n 0, 1) := by decide +kernel
theorem d_law_428 : decode code 428 = .ok (.iload 4, 2) := by decide +kernel
theorem d_law_430 : decode code 430 = .ok (.iconst 1, 1) := by decide +kernel
theorem d_law_431 : decode code 431 = .ok (.iadd, 1) := by decide +kernel
theorem d_law_432 : decode code 432 = .ok (.iaload, 1) := by decide +kernel
theorem d_law_433 : decode code 433 = .ok (.invokevirtual 102, 3) := by decide +kernel
theorem d_law_436 : decode code 436 = .ok (.istore 6, 2) := by decide +kernel
theorem d_law_438 : decode code 438 = .ok (.goto 59, 3) := by decide +kernel
theorem d_law_441 : decode code 441 = .ok (.aload_n 1, 1) := by decide +kernel
theorem d_law_442 : decode code 442 = .ok (.aload_n 0, 1) := by decide +kernel
theorem d_law_443 : decode code 443 = .ok (.iload 4, 2) := by decide +kernel
theorem d_law_445 : decode code 445 = .ok (.iconst 1, 1) := by decide +kernel
theorem d_law_446 : decode code 446 = .ok (.iadd, 1) := by decide +kernel
theorem d_law_447 : decode code 447 = .ok (.iaload, 1) := by decide +kernel
theorem d_law_448 : decode code 448 = .ok (.aload_n 3, 1) := by decide +kernel
theorem d_law_449 : decode code 449 = .ok (.invokestatic 103, 3) := by decide +kernel
theorem d_law_452 : decode code 452 = .ok (.istore 5, 2) := by decide +kernel
theorem d_law_454 : decode code 454 = .ok (.aload_n 2, 1) := by decide +kernel
theorem d_law_455 : decode code 455 = .ok (.aload_n 0, 1) := by decide +kernel
theorem d_law_456 : decode code 456 = .ok (.iload 4, 2) := by decide +kernel
theorem d_law_458 : decode code 458 = .ok (.iconst 1, 1) := by decide +kernel
theorem d_law_459 : decode code 459 = .ok (.iadd, 1) := by decide +kernel
theorem d_law_460 : decode code 460 = .ok (.iaload, 1) := by decide +kernel
theorem d_law_461 : decode code 461 = .ok (.invokevirtual 105, 3) := by decide +kernel
theorem d_law_464 : decode code 464 = .ok (.lstore 6, 2) := by decide +kernel
theorem d_law_466 : decode code 466 = .ok (.goto 31, 3) := by decide +kernel
theorem d_law_469 : decode code 469 = .ok (.aload_n 1, 1) := by decide +kernel
theorem d_law_470 : decode code 470 = .ok (.aload_n 0, 1) := by decide +kernel
theorem d_law_471 : decode code 471 = .ok (.iload 4, 2) := by decide +kernel
theorem d_law_473 : decode code 473 = .ok (.iconst 1, 1) := by decide +kernel
theorem d_law_474 : decode code 474 = .ok (.iadd, 1) := by decide +kernel
theorem d_law_475 : decode code 475 = .ok (.iaload, 1) := by decide +kernel
theorem d_law_476 : decode code 476 = .ok (.aload_n 3, 1) := by decide +kernel
theorem d_law_477 : decode code 477 = .ok (.invokestatic 106, 3) := by decide +kernel
theorem d_law_480 : decode code 480 = .ok (.istore 5, 2) := by decide +kernel
theorem d_law_482 : decode code 482 = .ok (.aload_n 2, 1) := by decide +kernel
theorem d_law_483 : decode code 483 = .ok (.aload_n 0, 1) := by decide +kernel
theorem d_law_484 : decode code 484 = .ok (.iload 4, 2) := by decide +kernel
theorem d_law_486 : decode code 486 = .ok (.iconst 1, 1) := by decide +kernel
theorem d_law_487 : decode code 487 = .ok (.iadd, 1) := by decide +kernel
theorem d_law_488 : decode code 488 = .ok (.iaload, 1) := by decide +kernel
theorem d_law_489 : decode code 489 = .ok (.invokevirtual 108, 3) := by decide +kernel
theorem d_law_492 : decode code 492 = .ok (.istore 6, 2) := by decide +kernel
theorem d_law_494 : decode code 494 = .ok (.goto 3, 3) := by decide +kernel
theorem d_law_497 : decode code 497 = .ok (.iinc 4 6, 3) := by decide +kernel
theorem d_law_500 : decode code 500 = .ok (.goto (-477), 3) := by decide +kernel
theorem d_law_503 : decode code 503 = .ok (.iconst 1, 1) := by decide +kernel
theorem d_law_504 : decode code 504 = .ok (.ireturn, 1) := by decide +kernel
theorem XW.rcv {dC : Nat → ClassId} {dI : Nat → Nat → Nat} {sa : Nat → Nat} {U : State} {h0 ou : Nat} {tl : Int} {ov : Int64} {wl : va_W} {H : Heap} (h : XW dC dI sa U h0 ou tl ov wl) (hP : va_P (dC, dI) cls2 wl H) : ∃ cell : Cell, H[h0]? = some cell ∧ cell.vm.isStatics = false ∧ U.vm.findClass R_WF = some cell.cls := by
  obtain ⟨ad, cd, iv, lv, fi, fl, vv, a1, a2, a3, a4, rfl, hK, -⟩ := h
  exact va_recv hK ((p2_iff rfl).mpr hP) (ci := 0) (q0 := 0) rfl rfl
theorem XW.tl {dC : Nat → ClassId} {dI : Nat → Nat → Nat} {sa : Nat → Nat} {U : State} {h0 ou : Nat} {tl : Int} {ov : Int64} {wl : va_W} (h : XW dC dI sa U h0 ou tl ov wl) : 0 ≤ tl ∧ tl ≤ 2000 := by
  obtain ⟨ad, cd, iv, lv, fi, fl, vv, a1, a2, a3, a4, rfl, hK, hr⟩ := h
  have h1 := hr.2.1
  have h2 := hr.2.2.2.2.2.2.2.2.2.2.2.2.2.2.2.2.2.2.2.2.2.2.2.2.2.2.2.2.2.2.2.2.2.2.2.2.2.2.2.2.2.2.2.2.2.2.2.2.2.2.2.2.1
  rw [← h2]
  exact h1
theorem YW.rcv {dC : Nat → ClassId} {dI : Nat → Nat → Nat} {sa : Nat → Nat} {U : State} {h0 : Nat} {tl : Int} {cv : Int32} {wl : va_W} {H : Heap} (h : YW dC dI sa U h0 tl cv wl) (hP : va_P (dC, dI) cls2 wl H) : ∃ cell : Cell, H[h0]? = some cell ∧ cell.vm.isStatics = false ∧ U.vm.findClass R_MD = some cell.cls := by
  obtain ⟨ad, cd, iv, lv, fi, fl, vv, fo, LD, LS, hq9r⟩ := h
  obtain ⟨fD, fS, M1, M2, lt, TT, rt, nl, gv, tk, hq9r⟩ := hq9r
  obtain ⟨gt, an, pos, gop, gpt, gel, gla, gva, rfl, hK, -⟩ := hq9r
  exact va_recv hK hP (ci := 11) (q0 := 0) rfl rfl
theorem YW.kk {dC : Nat → ClassId} {dI : Nat → Nat → Nat} {sa : Nat → Nat} {U : State} {h0 : Nat} {tl : Int} {cv : Int32} {wl : va_W} (h : YW dC dI sa U h0 tl cv wl) : va_K (dC, dI) cls2 [] U := by
  obtain ⟨ad, cd, iv, lv, fi, fl, vv, fo, LD, LS, hq9r⟩ := h
  obtain ⟨fD, fS, M1, M2, lt, TT, rt, nl, gv, tk, hq9r⟩ := hq9r
  obtain ⟨gt, an, pos, gop, gpt, gel, gla, gva, rfl, hK, -⟩ := hq9r
  exact hK.sub [] rfl
section LCL
variable {p : Program} {l : Launch} {e : Env} {R : Room} {s : State} {m : MethodId} {args : Array Value} {below : List Frame} {meth : Method} {c : Code} {H : Heap} {locs : List Loc} {cells slots : Nat} {Q : State → Prop}
variable {As rest st0 : List Value} {pc mc ms : Nat} {ls : Array Slot} {dC : Nat → ClassId} {dI : Nat → Nat → Nat} {sa : Nat → Nat} {h0 h1 ou : Nat} {tl : Int} {ov : Int64} {cv : Int32} {wx wy : va_W} {A : Nat → Prop}
theorem xi_blind {av : List Value} {sz : Nat} : FrameBlind (va_Pc av (XI dC dI sz sa h0 ou tl ov wx)) := fun a U g mk z => by
  obtain ⟨z0, z1, zP, zX, zD, zS⟩ := z
  exact ⟨z0, z1, zP, XW.moved (u := U) (U := U.calling g mk a) (Vm.Alike.refl U.vm) zX, zD, sw.same (u := U) (U := U.calling g mk a) rfl zS⟩
theorem yi_blind {av : List Value} {sz : Nat} : FrameBlind (va_Pc av (YI dC dI sz sa h1 tl cv wy)) := fun a U g mk z => by
  obtain ⟨z0, z1, zP, zX, zD, zS⟩ := z
  exact ⟨z0, z1, zP, YW.moved (u := U) (U := U.calling g mk a) (Vm.Alike.refl U.vm) zX, zD, sm.same (u := U) (U := U.calling g mk a) rfl zS⟩
theorem lx_i {post : Int32 → va_W × Int × Int64 → Prop}
    (hrun : PreS s H (va_Pc As (XI dC dI H.size sa h0 ou tl ov wx)) As → va_Run p l e R s m args below meth c H locs cells slots mc ms (F0 m pc ls st0) rest (va_Qi post (XO dC dI sa h0 ou (va_A wx H.size)) (va_A wx H.size) As.toArray) (va_A wx H.size))
    (hX : XW dC dI sa s h0 ou tl ov wx) (hP : va_P (dC, dI) cls2 (wx ++ wy) H) (hD : va_D A (wx ++ wy)) (hS : va_S A s.heap H locs) (hA : ∀ q, s.heap.size ≤ q → A q) (hSM : sm sa A s s.heap)
    (kk : ∀ (r : Int32) (w2 : va_W) (t2 : Int) (o2 : Int64) (H1 : Heap) (locs1 : List Loc), post r (w2, t2, o2) → XW dC dI sa s h0 ou t2 o2 w2 → va_P (dC, dI) cls2 (w2 ++ wy) H1 → va_D A (w2 ++ wy) → va_S A s.heap H1 locs1 → W p l e R s m args below meth c H1 locs1 (cells + mc) (slots + ms) Q (F0 m (pc + 3) ls (.int r :: rest))) :
    W p l e R s m args below meth c H locs cells slots Q (F0 m pc ls st0) := by
  have hFc := lj_F (lj_Dx hD) hS hA
  refine va_calli (hrun ⟨xi_blind, fun U hU hW => ⟨rfl, by rw [hU], by rw [hU]; exact lj_Px hP, hX.moved hW.alike, (lj_Dx hD).weaken (fun _ _ _ _ => trivial), hSM.1.call hS hFc hW hU⟩⟩) hS (fun q _ h => hFc q h) hFc (fun r u t H1 locs ht hvm hw hB hz1 hk1 hS => ?_)
  obtain ⟨hP1, hX1, hD1⟩ := hB
  rw [ht] at hP1
  obtain ⟨hP2, hD2⟩ := lj_x hP hD hk1 hFc hP1 hD1
  exact kk r u.1 u.2.1 u.2.2 H1 locs hw (hX1.moved hvm.symm) hP2 hD2 hS
theorem lx_v {post : Int32 → va_W × Int × Int64 → Prop}
    (hrun : PreV s H R_WF h0 (va_Pc (.ref h0 :: As) (XI dC dI H.size sa h0 ou tl ov wx)) As → va_Run p l e R s m args below meth c H locs cells slots mc ms (F0 m pc ls st0) rest (va_Qi post (XO dC dI sa h0 ou (va_A wx H.size)) (va_A wx H.size) (Value.ref h0 :: As).toArray) (va_A wx H.size))
    (hX : XW dC dI sa s h0 ou tl ov wx) (hP : va_P (dC, dI) cls2 (wx ++ wy) H) (hD : va_D A (wx ++ wy)) (hS : va_S A s.heap H locs) (hA : ∀ q, s.heap.size ≤ q → A q) (hSM : sm sa A s s.heap)
    (kk : ∀ (r : Int32) (w2 : va_W) (t2 : Int) (o2 : Int64) (H1 : Heap) (locs1 : List Loc), post r (w2, t2, o2) → XW dC dI sa s h0 ou t2 o2 w2 → va_P (dC, dI) cls2 (w2 ++ wy) H1 → va_D A (w2 ++ wy) → va_S A s.heap H1 locs1 → W p l e R s m args below meth c H1 locs1 (cells + mc) (slots + ms) Q (F0 m (pc + 3) ls (.int r :: rest))) :
    W p l e R s m args below meth c H locs cells slots Q (F0 m pc ls st0) := by
  have hFc := lj_F (lj_Dx hD) hS hA
  refine va_calli (hrun ⟨xi_blind, hX.rcv (lj_Px hP), fun U hU hW => ⟨rfl, by rw [hU], by rw [hU]; exact lj_Px hP, hX.moved hW.alike, (lj_Dx hD).weaken (fun _ _ _ _ => trivial), hSM.1.call hS hFc hW hU⟩⟩) hS (fun q _ h => hFc q h) hFc (fun r u t H1 locs ht hvm hw hB hz1 hk1 hS => ?_)
  obtain ⟨hP1, hX1, hD1⟩ := hB
  rw [ht] at hP1
  obtain ⟨hP2, hD2⟩ := lj_x hP hD hk1 hFc hP1 hD1
  exact kk r u.1 u.2.1 u.2.2 H1 locs hw (hX1.moved hvm.symm) hP2 hD2 hS
theorem ly_i {post : Int32 → va_W × Int × Int32 → Prop}
    (hrun : PreV s H R_MD h1 (va_Pc (.ref h1 :: As) (YI dC dI H.size sa h1 tl cv wy)) As → va_Run p l e R s m args below meth c H locs cells slots mc ms (F0 m pc ls st0) rest (va_Qi post (YO dC dI sa h1 (va_A wy H.size)) (va_A wy H.size) (Value.ref h1 :: As).toArray) (va_A wy H.size))
    (hY : YW dC dI sa s h1 tl cv wy) (hP : va_P (dC, dI) cls2 (wx ++ wy) H) (hD : va_D A (wx ++ wy)) (hS : va_S A s.heap H locs) (hA : ∀ q, s.heap.size ≤ q → A q) (hSM : sm sa A s s.heap)
    (kk : ∀ (r : Int32) (w2 : va_W) (t2 : Int) (c2 : Int32) (H1 : Heap) (locs1 : List Loc), post r (w2, t2, c2) → YW dC dI sa s h1 t2 c2 w2 → va_P (dC, dI) cls2 (wx ++ w2) H1 → va_D A (wx ++ w2) → va_S A s.heap H1 locs1 → W p l e R s m args below meth c H1 locs1 (cells + mc) (slots + ms) Q (F0 m (pc + 3) ls (.int r :: rest))) :
    W p l e R s m args below meth c H locs cells slots Q (F0 m pc ls st0) := by
  have hFc := lj_F (lj_Dy hD) hS hA
  refine va_calli (hrun ⟨yi_blind, hY.rcv (lj_Py hP), fun U hU hW => ⟨rfl, by rw [hU], by rw [hU]; exact lj_Py hP, hY.moved hW.alike, (lj_Dy hD).weaken (fun _ _ _ _ => trivial), hSM.call hS hFc hW hU⟩⟩) hS (fun q _ h => hFc q h) hFc (fun r u t H1 locs ht hvm hw hB hz1 hk1 hS => ?_)
  obtain ⟨hP1, hX1, hD1⟩ := hB
  rw [ht] at hP1
  obtain ⟨hP2, hD2⟩ := lj_y hP hD hk1 hFc hP1 hD1
  exact kk r u.1 u.2.1 u.2.2 H1 locs hw (hX1.moved hvm.symm) hP2 hD2 hS
theorem ly_l {post : Int64 → va_W × Int × Int32 → Prop}
    (hrun : PreV s H R_MD h1 (va_Pc (.ref h1 :: As) (YI dC dI H.size sa h1 tl cv wy)) As → va_Run p l e R s m args below meth c H locs cells slots mc ms (F0 m pc ls st0) rest (va_Ql post (YO dC dI sa h1 (va_A wy H.size)) (va_A wy H.size) (Value.ref h1 :: As).toArray) (va_A wy H.size))
    (hY : YW dC dI sa s h1 tl cv wy) (hP : va_P (dC, dI) cls2 (wx ++ wy) H) (hD : va_D A (wx ++ wy)) (hS : va_S A s.heap H locs) (hA : ∀ q, s.heap.size ≤ q → A q) (hSM : sm sa A s s.heap)
    (kk : ∀ (r : Int64) (w2 : va_W) (t2 : Int) (c2 : Int32) (H1 : Heap) (locs1 : List Loc), post r (w2, t2, c2) → YW dC dI sa s h1 t2 c2 w2 → va_P (dC, dI) cls2 (wx ++ w2) H1 → va_D A (wx ++ w2) → va_S A s.heap H1 locs1 → W p l e R s m args below meth c H1 locs1 (cells + mc) (slots + ms) Q (F0 m (pc + 3) ls (.long r :: rest))) :
    W p l e R s m args below meth c H locs cells slots Q (F0 m pc ls st0) := by
  have hFc := lj_F (lj_Dy hD) hS hA
  refine va_calll (hrun ⟨yi_blind, hY.rcv (lj_Py hP), fun U hU hW => ⟨rfl, by rw [hU], by rw [hU]; exact lj_Py hP, hY.moved hW.alike, (lj_Dy hD).weaken (fun _ _ _ _ => trivial), hSM.call hS hFc hW hU⟩⟩) hS (fun q _ h => hFc q h) hFc (fun r u t H1 locs ht hvm hw hB hz1 hk1 hS => ?_)
  obtain ⟨hP1, hX1, hD1⟩ := hB
  rw [ht] at hP1
  obtain ⟨hP2, hD2⟩ := lj_y hP hD hk1 hFc hP1 hD1
  exact kk r u.1 u.2.1 u.2.2 H1 locs hw (hX1.moved hvm.symm) hP2 hD2 hS
end LCL
/-- what the law knows where its loop begins and where a call's case ends -/
def LST (dC : Nat → ClassId) (dI : Nat → Nat → Nat) (sa : Nat → Nat) (s : State) (A : Nat → Prop) (h0 h1 ou : Nat) (tl : Int) (H : Heap) (locs : List Loc) : Prop := ∃ (ov : Int64) (cv : Int32) (wx wy : va_W), XW dC dI sa s h0 ou tl ov wx ∧ YW dC dI sa s h1 tl cv wy ∧ va_P (dC, dI) cls2 (wx ++ wy) H ∧ va_D A (wx ++ wy) ∧ va_S A s.heap H locs

section q_39
/-! Scanner: numbers, a sign, all signs -/
abbrev b_SC_readInteger : ByteArray := prog_10_method_9_code
def y_SC_readInteger : MethodName := ⟨R_SC, "readInteger", "()V"⟩
abbrev w_SC_readInteger : List Cond := .code y_SC_readInteger b_SC_readInteger 3 none :: lw_g
theorem kC_SC_readInteger : Cond.code y_SC_readInteger b_SC_readInteger 3 none ∈ lw_g := in_c4 143 rfl rfl
theorem d_SC_readInteger_0 : decode b_SC_readInteger 0 = .ok (.iconst 0, 1) := bz_c3 (by decide +kernel)
theorem d_SC_readInteger_1 : decode b_SC_readInteger 1 = .ok (.istore_n 1, 1) := bz_c60 (by decide +kernel)
theorem d_SC_readInteger_2 : decode b_SC_readInteger 2 = .ok (.aload_n 0, 1) := bz_c42 (by decide +kernel)
theorem d_SC_readInteger_3 : decode b_SC_readInteger 3 = .ok (.lconst 0, 1) := bz_c9 (by decide +kernel)
theorem d_SC_readInteger_4 : decode b_SC_readInteger 4 = .ok (.putfield 70, 3) := bz_c181 (by decide +kernel)
theorem d_SC_readInteger_7 : decode b_SC_readInteger 7 = .ok (.aload_n 0, 1) := bz_c42 (by decide +kernel)
theorem d_SC_readInteger_8 : decode b_SC_readInteger 8 = .ok (.iconst 0, 1) := bz_c3 (by decide +kernel)
theorem d_SC_readInteger_9 : decode b_SC_readInteger 9 = .ok (.putfield 43, 3) := bz_c181 (by decide +kernel)
theorem d_SC_readInteger_12 : decode b_SC_readInteger 12 = .ok (.aload_n 0, 1) := bz_c42 (by decide +kernel)
theorem d_SC_readInteger_13 : decode b_SC_readInteger 13 = .ok (.getfield 39, 3) := bz_c180 (by decide +kernel)
theorem d_SC_readInteger_16 : decode b_SC_readInteger 16 = .ok (.aload_n 0, 1) := bz_c42 (by decide +kernel)
theorem d_SC_readInteger_17 : decode b_SC_readInteger 17 = .ok (.getfield 43, 3) := bz_c180 (by decide +kernel)
theorem d_SC_readInteger_20 : decode b_SC_readInteger 20 = .ok (.iadd, 1) := bz_c96 (by decide +kernel)
theorem d_SC_readInteger_21 : decode b_SC_readInteger 21 = .ok (.aload_n 0, 1) := bz_c42 (by decide +kernel)
theorem d_SC_readInteger_22 : decode b_SC_readInteger 22 = .ok (.getfield 35, 3) := bz_c180 (by decide +kernel)
theorem d_SC_readInteger_25 : decode b_SC_readInteger 25 = .ok (.getfield 77, 3) := bz_c180 (by decide +kernel)
theorem d_SC_readInteger_28 : decode b_SC_readInteger 28 = .ok (.if_icmp .ge 101, 3) := bz_c162 (by decide +kernel)
theorem d_SC_readInteger_31 : decode b_SC_readInteger 31 = .ok (.aload_n 0, 1) := bz_c42 (by decide +kernel)
theorem d_SC_readInteger_32 : decode b_SC_readInteger 32 = .ok (.getfield 35, 3) := bz_c180 (by decide +kernel)
theorem d_SC_readInteger_35 : decode b_SC_readInteger 35 = .ok (.aload_n 0, 1) := bz_c42 (by decide +kernel)
theorem d_SC_readInteger_36 : decode b_SC_readInteger 36 = .ok (.getfield 39, 3) := bz_c180 (by decide +kernel)
theorem d_SC_readInteger_39 : decode b_SC_readInteger 39 = .ok (.aload_n 0, 1) := bz_c42 (by decide +kernel)
theorem d_SC_readInteger_40 : decode b_SC_readInteger 40 = .ok (.getfield 43, 3) := bz_c180 (by decide +kernel)
theorem d_SC_readInteger_43 : decode b_SC_readInteger 43 = .ok (.iadd, 1) := bz_c96 (by decide +kernel)
theorem d_SC_readInteger_44 : decode b_SC_readInteger 44 = .ok (.invokevirtual 80, 3) := bz_c182 (by decide +kernel)
theorem d_SC_readInteger_47 : decode b_SC_readInteger 47 = .ok (.invokestatic 90, 3) := bz_c184 (by decide +kernel)
theorem d_SC_readInteger_50 : decode b_SC_readInteger 50 = .ok (.ifCond .eq 79, 3) := bz_c153 (by decide +kernel)
theorem d_SC_readInteger_53 : decode b_SC_readInteger 53 = .ok (.aload_n 0, 1) := bz_c42 (by decide +kernel)
theorem d_SC_readInteger_54 : decode b_SC_readInteger 54 = .ok (.getfield 35, 3) := bz_c180 (by decide +kernel)
theorem d_SC_readInteger_57 : decode b_SC_readInteger 57 = .ok (.aload_n 0, 1) := bz_c42 (by decide +kernel)
theorem d_SC_readInteger_58 : decode b_SC_readInteger 58 = .ok (.getfield 39, 3) := bz_c180 (by decide +kernel)
theorem d_SC_readInteger_61 : decode b_SC_readInteger 61 = .ok (.aload_n 0, 1) := bz_c42 (by decide +kernel)
theorem d_SC_readInteger_62 : decode b_SC_readInteger 62 = .ok (.getfield 43, 3) := bz_c180 (by decide +kernel)
theorem d_SC_readInteger_65 : decode b_SC_readInteger 65 = .ok (.iadd, 1) := bz_c96 (by decide +kernel)
theorem d_SC_readInteger_66 : decode b_SC_readInteger 66 = .ok (.invokevirtual 80, 3) := bz_c182 (by decide +kernel)
theorem d_SC_readInteger_69 : decode b_SC_readInteger 69 = .ok (.bipush 48, 2) := bz_c16 (by decide +kernel)
theorem d_SC_readInteger_71 : decode b_SC_readInteger 71 = .ok (.isub, 1) := bz_c100 (by decide +kernel)
theorem d_SC_readInteger_72 : decode b_SC_readInteger 72 = .ok (.istore_n 2, 1) := bz_c61 (by decide +kernel)
theorem d_SC_readInteger_73 : decode b_SC_readInteger 73 = .ok (.iload_n 1, 1) := bz_c27 (by decide +kernel)
theorem d_SC_readInteger_74 : decode b_SC_readInteger 74 = .ok (.ifCond .ne 21, 3) := bz_c154 (by decide +kernel)
theorem d_SC_readInteger_77 : decode b_SC_readInteger 77 = .ok (.aload_n 0, 1) := bz_c42 (by decide +kernel)
theorem d_SC_readInteger_78 : decode b_SC_readInteger 78 = .ok (.getfield 70, 3) := bz_c180 (by decide +kernel)
theorem d_SC_readInteger_81 : decode b_SC_readInteger 81 = .ok (.ldc2_w 119, 3) := bz_c20 (by decide +kernel)
theorem d_SC_readInteger_84 : decode b_SC_readInteger 84 = .ok (.iload_n 2, 1) := bz_c28 (by decide +kernel)
theorem d_SC_readInteger_85 : decode b_SC_readInteger 85 = .ok (.i2l, 1) := bz_c133 (by decide +kernel)
theorem d_SC_readInteger_86 : decode b_SC_readInteger 86 = .ok (.lsub, 1) := by decide +kernel
theorem d_SC_readInteger_87 : decode b_SC_readInteger 87 = .ok (.ldc2_w 121, 3) := bz_c20 (by decide +kernel)
theorem d_SC_readInteger_90 : decode b_SC_readInteger 90 = .ok (.ldiv, 1) := by decide +kernel
theorem d_SC_readInteger_91 : decode b_SC_readInteger 91 = .ok (.lcmp, 1) := bz_c148 (by decide +kernel)
theorem d_SC_readInteger_92 : decode b_SC_readInteger 92 = .ok (.ifCond .le 7, 3) := bz_c158 (by decide +kernel)
theorem d_SC_readInteger_95 : decode b_SC_readInteger 95 = .ok (.iconst 1, 1) := bz_c4 (by decide +kernel)
theorem d_SC_readInteger_96 : decode b_SC_readInteger 96 = .ok (.goto 4, 3) := bz_c167 (by decide +kernel)
theorem d_SC_readInteger_99 : decode b_SC_readInteger 99 = .ok (.iconst 0, 1) := bz_c3 (by decide +kernel)
theorem d_SC_readInteger_100 : decode b_SC_readInteger 100 = .ok (.istore_n 1, 1) := bz_c60 (by decide +kernel)
theorem d_SC_readInteger_101 : decode b_SC_readInteger 101 = .ok (.aload_n 0, 1) := bz_c42 (by decide +kernel)
theorem d_SC_readInteger_102 : decode b_SC_readInteger 102 = .ok (.aload_n 0, 1) := bz_c42 (by decide +kernel)
theorem d_SC_readInteger_103 : decode b_SC_readInteger 103 = .ok (.getfield 70, 3) := bz_c180 (by decide +kernel)
theorem d_SC_readInteger_106 : decode b_SC_readInteger 106 = .ok (.ldc2_w 121, 3) := bz_c20 (by decide +kernel)
theorem d_SC_readInteger_109 : decode b_SC_readInteger 109 = .ok (.lmul, 1) := by decide +kernel
theorem d_SC_readInteger_110 : decode b_SC_readInteger 110 = .ok (.iload_n 2, 1) := bz_c28 (by decide +kernel)
theorem d_SC_readInteger_111 : decode b_SC_readInteger 111 = .ok (.i2l, 1) := bz_c133 (by decide +kernel)
theorem d_SC_readInteger_112 : decode b_SC_readInteger 112 = .ok (.ladd, 1) := bz_c97 (by decide +kernel)
theorem d_SC_readInteger_113 : decode b_SC_readInteger 113 = .ok (.putfield 70, 3) := bz_c181 (by decide +kernel)
theorem d_SC_readInteger_116 : decode b_SC_readInteger 116 = .ok (.aload_n 0, 1) := bz_c42 (by decide +kernel)
theorem d_SC_readInteger_117 : decode b_SC_readInteger 117 = .ok (.dup, 1) := bz_c89 (by decide +kernel)
theorem d_SC_readInteger_118 : decode b_SC_readInteger 118 = .ok (.getfield 43, 3) := bz_c180 (by decide +kernel)
theorem d_SC_readInteger_121 : decode b_SC_readInteger 121 = .ok (.iconst 1, 1) := bz_c4 (by decide +kernel)
theorem d_SC_readInteger_122 : decode b_SC_readInteger 122 = .ok (.iadd, 1) := bz_c96 (by decide +kernel)
theorem d_SC_readInteger_123 : decode b_SC_readInteger 123 = .ok (.putfield 43, 3) := bz_c181 (by decide +kernel)
theorem d_SC_readInteger_126 : decode b_SC_readInteger 126 = .ok (.goto (-114), 3) := bz_c167 (by decide +kernel)
theorem d_SC_readInteger_129 : decode b_SC_readInteger 129 = .ok (.aload_n 0, 1) := bz_c42 (by decide +kernel)
theorem d_SC_readInteger_130 : decode b_SC_readInteger 130 = .ok (.getfield 35, 3) := bz_c180 (by decide +kernel)
theorem d_SC_readInteger_133 : decode b_SC_readInteger 133 = .ok (.aload_n 0, 1) := bz_c42 (by decide +kernel)
theorem d_SC_readInteger_134 : decode b_SC_readInteger 134 = .ok (.getfield 39, 3) := bz_c180 (by decide +kernel)
theorem d_SC_readInteger_137 : decode b_SC_readInteger 137 = .ok (.aload_n 0, 1) := bz_c42 (by decide +kernel)
theorem d_SC_readInteger_138 : decode b_SC_readInteger 138 = .ok (.getfield 43, 3) := bz_c180 (by decide +kernel)
theorem d_SC_readInteger_141 : decode b_SC_readInteger 141 = .ok (.iadd, 1) := bz_c96 (by decide +kernel)
theorem d_SC_readInteger_142 : decode b_SC_readInteger 142 = .ok (.invokevirtual 80, 3) := bz_c182 (by decide +kernel)
theorem d_SC_readInteger_145 : decode b_SC_readInteger 145 = .ok (.bipush 76, 2) := bz_c16 (by decide +kernel)
theorem d_SC_readInteger_147 : decode b_SC_readInteger 147 = .ok (.if_icmp .ne 7, 3) := bz_c160 (by decide +kernel)
theorem d_SC_readInteger_150 : decode b_SC_readInteger 150 = .ok (.iconst 1, 1) := bz_c4 (by decide +kernel)
theorem d_SC_readInteger_151 : decode b_SC_readInteger 151 = .ok (.goto 4, 3) := bz_c167 (by decide +kernel)
theorem d_SC_readInteger_154 : decode b_SC_readInteger 154 = .ok (.iconst 0, 1) := bz_c3 (by decide +kernel)
theorem d_SC_readInteger_155 : decode b_SC_readInteger 155 = .ok (.istore_n 2, 1) := bz_c61 (by decide +kernel)
theorem d_SC_readInteger_156 : decode b_SC_readInteger 156 = .ok (.iload_n 2, 1) := bz_c28 (by decide +kernel)
theorem d_SC_readInteger_157 : decode b_SC_readInteger 157 = .ok (.ifCond .eq 16, 3) := bz_c153 (by decide +kernel)
theorem d_SC_readInteger_160 : decode b_SC_readInteger 160 = .ok (.aload_n 0, 1) := bz_c42 (by decide +kernel)
theorem d_SC_readInteger_161 : decode b_SC_readInteger 161 = .ok (.dup, 1) := bz_c89 (by decide +kernel)
theorem d_SC_readInteger_162 : decode b_SC_readInteger 162 = .ok (.getfield 43, 3) := bz_c180 (by decide +kernel)
theorem d_SC_readInteger_165 : decode b_SC_readInteger 165 = .ok (.iconst 1, 1) := bz_c4 (by decide +kernel)
theorem d_SC_readInteger_166 : decode b_SC_readInteger 166 = .ok (.iadd, 1) := bz_c96 (by decide +kernel)
theorem d_SC_readInteger_167 : decode b_SC_readInteger 167 = .ok (.putfield 43, 3) := bz_c181 (by decide +kernel)
theorem d_SC_readInteger_170 : decode b_SC_readInteger 170 = .ok (.goto 24, 3) := bz_c167 (by decide +kernel)
theorem d_SC_readInteger_173 : decode b_SC_readInteger 173 = .ok (.iload_n 1, 1) := bz_c27 (by decide +kernel)
theorem d_SC_readInteger_174 : decode b_SC_readInteger 174 = .ok (.ifCond .ne 14, 3) := bz_c154 (by decide +kernel)
theorem d_SC_readInteger_177 : decode b_SC_readInteger 177 = .ok (.aload_n 0, 1) := bz_c42 (by decide +kernel)
theorem d_SC_readInteger_178 : decode b_SC_readInteger 178 = .ok (.getfield 70, 3) := bz_c180 (by decide +kernel)
theorem d_SC_readInteger_181 : decode b_SC_readInteger 181 = .ok (.ldc2_w 125, 3) := bz_c20 (by decide +kernel)
theorem d_SC_readInteger_184 : decode b_SC_readInteger 184 = .ok (.lcmp, 1) := bz_c148 (by decide +kernel)
theorem d_SC_readInteger_185 : decode b_SC_readInteger 185 = .ok (.ifCond .le 7, 3) := bz_c158 (by decide +kernel)
theorem d_SC_readInteger_188 : decode b_SC_readInteger 188 = .ok (.iconst 1, 1) := bz_c4 (by decide +kernel)
theorem d_SC_readInteger_189 : decode b_SC_readInteger 189 = .ok (.goto 4, 3) := bz_c167 (by decide +kernel)
theorem d_SC_readInteger_192 : decode b_SC_readInteger 192 = .ok (.iconst 0, 1) := bz_c3 (by decide +kernel)
theorem d_SC_readInteger_193 : decode b_SC_readInteger 193 = .ok (.istore_n 1, 1) := bz_c60 (by decide +kernel)
theorem d_SC_readInteger_194 : decode b_SC_readInteger 194 = .ok (.aload_n 0, 1) := bz_c42 (by decide +kernel)
theorem d_SC_readInteger_195 : decode b_SC_readInteger 195 = .ok (.iload_n 1, 1) := bz_c27 (by decide +kernel)
theorem d_SC_readInteger_196 : decode b_SC_readInteger 196 = .ok (.ifCond .eq 9, 3) := bz_c153 (by decide +kernel)
theorem d_SC_readInteger_199 : decode b_SC_readInteger 199 = .ok (.getstatic 52, 3) := bz_c178 (by decide +kernel)
theorem d_SC_readInteger_202 : decode b_SC_readInteger 202 = .ok (.goto 16, 3) := bz_c167 (by decide +kernel)
theorem d_SC_readInteger_205 : decode b_SC_readInteger 205 = .ok (.iload_n 2, 1) := bz_c28 (by decide +kernel)
theorem d_SC_readInteger_206 : decode b_SC_readInteger 206 = .ok (.ifCond .eq 9, 3) := bz_c153 (by decide +kernel)
theorem d_SC_readInteger_209 : decode b_SC_readInteger 209 = .ok (.getstatic 127, 3) := bz_c178 (by decide +kernel)
theorem d_SC_readInteger_212 : decode b_SC_readInteger 212 = .ok (.goto 6, 3) := bz_c167 (by decide +kernel)
theorem d_SC_readInteger_215 : decode b_SC_readInteger 215 = .ok (.getstatic 130, 3) := bz_c178 (by decide +kernel)
theorem d_SC_readInteger_218 : decode b_SC_readInteger 218 = .ok (.putfield 15, 3) := bz_c181 (by decide +kernel)
theorem d_SC_readInteger_221 : decode b_SC_readInteger 221 = .ok (.return_, 1) := bz_c177 (by decide +kernel)
theorem kF_SC_70 : Cond.fieldLink R_SC 70 "WaferForge$Scanner" "value" "J" ∈ lw_g := in_c2 32 rfl rfl
theorem kF_SC_130 : Cond.fieldLink R_SC 130 "WaferForge$Sign" "INTEGER" "LWaferForge$Sign;" ∈ lw_g := in_c4 149 rfl rfl
theorem kF_SC_127 : Cond.fieldLink R_SC 127 "WaferForge$Sign" "LONG_INTEGER" "LWaferForge$Sign;" ∈ lw_g := in_c4 147 rfl rfl
theorem kL_SC_125 : Cond.constantLong R_SC 125 (2147483647) ∈ lw_g := in_c4 146 rfl rfl
theorem kL_SC_121 : Cond.constantLong R_SC 121 (10) ∈ lw_g := in_c4 145 rfl rfl
theorem kL_SC_119 : Cond.constantLong R_SC 119 (9223372036854775807) ∈ lw_g := in_c4 144 rfl rfl
abbrev at_SC_readInteger (dC : Nat → ClassId) (dI : Nat → Nat → Nat) (sa : Nat → Nat) (h0 tr ss sp szs sv tx : Nat) (ctx : ClassId) (h0_place : Int32) (h0_length : Int32) (h0_at : Int32) (tr_length : Int32) (gtx : Nat → Int32) (A : Nat → Prop) (u : Nat × Int32 × Int64) (t : State) : Prop := match u with | (h0_sign, h0_size, h0_value) => va_P (dC, dI) cls (wz_104 h0 tr (sg sa h0_sign) h0_place h0_size h0_value ss sp szs sv h0_length h0_at tr tx tr_length tx ctx gtx) t.heap ∧ va_K (dC, dI) cls [(ctx, .byte)] t ∧ va_D A (wz_104 h0 tr (sg sa h0_sign) h0_place h0_size h0_value ss sp szs sv h0_length h0_at tr tx tr_length tx ctx gtx)
set_option maxHeartbeats 4000000 in
set_option maxRecDepth 100000 in
theorem c_SC_readInteger (l : Launch) (dC : Nat → ClassId) (dI : Nat → Nat → Nat) (sz : Nat) (sa : Nat → Nat) (h0 tr ss sp szs sv tx : Nat) (ctx : ClassId) (h0_sign : Nat) (h0_place : Int32) (h0_size : Int32) (h0_value : Int64) (h0_length : Int32) (h0_at : Int32) (tr_length : Int32) (gtx : Nat → Int32)  (b_h0_sign : h0_sign < 55) (b_h0_place : 0 ≤ h0_place.toInt ∧ h0_place.toInt ≤ 2000) (b_h0_size : 0 ≤ h0_size.toInt ∧ h0_size.toInt ≤ 2000) (b_tr_length : 0 ≤ tr_length.toInt ∧ tr_length.toInt ≤ 2000)   (hpl : h0_place.toInt < tr_length.toInt) (hdg : 48 ≤ (br_get gtx tr_length h0_place).toInt ∧ (br_get gtx tr_length h0_place).toInt ≤ 57) : Met l y_SC_readInteger w_SC_readInteger ({ frames := 1, cells := 0, slots := 0, locals := 21 }) (va_Pc [.ref h0] (fun U => U.heap.size = sz ∧ va_P (dC, dI) cls (wz_104 h0 tr (sg sa h0_sign) h0_place h0_size h0_value ss sp szs sv h0_length h0_at tr tx tr_length tx ctx gtx) U.heap ∧ va_K (dC, dI) cls [(ctx, .byte)] U ∧ va_D (fun _ => True) (wz_104 h0 tr (sg sa h0_sign) h0_place h0_size h0_value ss sp szs sv h0_length h0_at tr tx tr_length tx ctx gtx) ∧ sw sa (va_A (wz_104 h0 tr (sg sa h0_sign) h0_place h0_size h0_value ss sp szs sv h0_length h0_at tr tx tr_length tx ctx gtx) sz) U U.heap)) (va_Qv (fun (u : Nat × Int32 × Int64) => match u with | (h0_sign2, h0_size2, h0_value2) => (h0_sign2 < 55) ∧ (0 ≤ h0_size2.toInt ∧ h0_size2.toInt ≤ 2000) ∧ ((h0_place.toInt + h0_size2.toInt ≤ tr_length.toInt) ∧ (h0_sign2 = 1 ∨ (h0_sign2 = 3 ∧ 1 ≤ h0_size2.toInt ∧ 0 ≤ h0_value2.toInt ∧ h0_value2.toInt < pt h0_size2.toInt ∧ h0_value2.toInt ≤ 2147483647) ∨ (h0_sign2 = 4 ∧ 2 ≤ h0_size2.toInt ∧ 0 ≤ h0_value2.toInt ∧ h0_value2.toInt < pt (h0_size2.toInt - 1))))) (at_SC_readInteger dC dI sa h0 tr ss sp szs sv tx ctx h0_place h0_length h0_at tr_length gtx (va_A (wz_104 h0 tr (sg sa h0_sign) h0_place h0_size h0_value ss sp szs sv h0_length h0_at tr tx tr_length tx ctx gtx) sz)) (va_A (wz_104 h0 tr (sg sa h0_sign) h0_place h0_size h0_value ss sp szs sv h0_length h0_at tr tx tr_length tx ctx gtx) sz)) 0 0 (va_A (wz_104 h0 tr (sg sa h0_sign) h0_place h0_size h0_value ss sp szs sv h0_length h0_at tr tx tr_length tx ctx gtx) sz) := by
  refine Met.ofW (cc := b_SC_readInteger) (maxL := 3) (ret := none) (by decide) rfl ?_
  intro p e s m args below meth c s₁ B hml hv
  obtain ⟨rfl, hsz, hP, hK, hD0, hSW⟩ := hv
  have hx := B.exec
  have hb := B.bytes
  have hr := B.returns
  have hts0 := atoms_spec (ws := w_SC_readInteger) B.pre
  have hts : ∀ w ∈ lw_g, w.before _ s = true := fun w h => hts0 w (List.mem_cons_of_mem _ h)
  have hown : s.vm.findClass R_SC = some m.cls := findClass_of_methodNamed B.named
  have hlocks := B.notSynchronized
  clear hts0
  subst hsz
  have hD := hD0.self (sz := s.heap.size)
  generalize hAe : va_A (wz_104 h0 tr (sg sa h0_sign) h0_place h0_size h0_value ss sp szs sv h0_length h0_at tr tx tr_length tx ctx gtx) s.heap.size = A at hD hSW ⊢
  have hA : ∀ q : Nat, s.heap.size ≤ q → A q := fun q h => by rw [← hAe]; exact Or.inr h
  clear hAe
  have hP : va_P (dC, dI) cls (wz_104 h0 tr (sg sa h0_sign) h0_place h0_size h0_value ss sp szs sv h0_length h0_at tr tx tr_length tx ctx gtx) s.heap := hP
  have hl := lv_entry ([.ref h0]) (n := 3) (Nat.le_of_ble_eq_true rfl)
  rw [lg_entry_eq]
  generalize (lg_sl ([.ref h0]) ++ List.replicate (3 - (lg_sl ([.ref h0])).length) Slot.unset).toArray = ls at hl ⊢
  have hl : lv_has ls 3 [(0, .ref h0)] := hl
  have k0 : (0 : Int32).toInt = 0 := by decide
  refine w_gen (A := A) hP (fun H locs hP hS => ?_)
  have k1 : (1 : Int32).toInt = 1 := by decide
  have k48 : (48 : Int32).toInt = 48 := by decide
  have k76 : (76 : Int32).toInt = 76 := by decide
  refine lv_iconst (v := 0) hx hb d_SC_readInteger_0 (by decide) ?_
  refine lv_istore_n (lv' := [(1, .int 0), (0, .ref h0)]) hx hb d_SC_readInteger_1 rfl hl (by decide) rfl (fun ls hl => ?_)
  refine lv_aload_n hx hb d_SC_readInteger_2 rfl (lv_at hl 1 rfl) ?_
  refine lv_lconst (v := 0) hx hb d_SC_readInteger_3 (by decide) ?_
  have kl0 : (0 : Int64).toInt = 0 := by decide
  refine va_put (D := (dC, dI)) (ci := 8) (v := .long 0) (ty := .long) (C := R_SC) (T := F_SC) (N := 11) hx hb hts i_SC t_SC t_SC_ok n_SC hown hK hP hD hS 0 rfl rfl 4 (by decide) (hts _ kF_SC_70) (fun _ h9 => h9) rfl (by decide +kernel) rfl rfl (Nat.le_of_ble_eq_true rfl) d_SC_readInteger_4 (fun H locs hP hD hS => ?_)
  refine lv_aload_n hx hb d_SC_readInteger_7 rfl (lv_at hl 1 rfl) ?_
  refine lv_iconst (v := 0) hx hb d_SC_readInteger_8 (by decide) ?_
  refine va_put (D := (dC, dI)) (ci := 8) (v := .int 0) (ty := .int) (C := R_SC) (T := F_SC) (N := 11) hx hb hts i_SC t_SC t_SC_ok n_SC hown hK hP hD hS 0 rfl rfl 3 (by decide) (hts _ kF_SC_43) (fun _ h9 => h9) rfl (by decide +kernel) rfl rfl (Nat.le_of_ble_eq_true rfl) d_SC_readInteger_9 (fun H locs hP hD hS => ?_)
  refine w_loop (σ := Int32 × Int32 × Int64) (fun u H locs ls => match u with | (j12_l1, j12_h0_size, j12_h0_value) => (j12_l1 = 0 ∨ j12_l1 = 1) ∧ (0 ≤ j12_h0_size.toInt ∧ j12_h0_size.toInt ≤ 2000) ∧ (0 ≤ j12_h0_size.toInt ∧ h0_place.toInt + j12_h0_size.toInt ≤ tr_length.toInt) ∧ (j12_l1.toInt = 0 → 0 ≤ j12_h0_value.toInt ∧ j12_h0_value.toInt < pt j12_h0_size.toInt) ∧ va_P (dC, dI) cls (wz_104 h0 tr (sg sa h0_sign) h0_place j12_h0_size j12_h0_value ss sp szs sv h0_length h0_at tr tx tr_length tx ctx gtx) H ∧ va_D A (wz_104 h0 tr (sg sa h0_sign) h0_place j12_h0_size j12_h0_value ss sp szs sv h0_length h0_at tr tx tr_length tx ctx gtx) ∧ va_S A s.heap H locs ∧ lv_has ls 3 [(0, .ref h0), (1, .int j12_l1)]) (fun u => match u with | (j12_l1, j12_h0_size, j12_h0_value) => (tr_length.toInt - j12_h0_size.toInt).toNat) ?_ (0, 0, 0) ⟨Or.inl rfl, by (try dsimp only) <;> (first | (apply Int.le_antisymm <;> omega) | omega), by (try dsimp only) <;> (first | (apply Int.le_antisymm <;> omega) | omega), fun _ => ⟨by decide, by decide⟩, hP, hD, hS, lv_sub hl [1, 0] rfl⟩
  intro N12 ih12 u H locs ls hN12 hI
  obtain ⟨j12_l1, j12_h0_size, j12_h0_value⟩ := u
  obtain ⟨b_j12_l1, b_j12_h0_size, v1, v2, hP, hD, hS, hl⟩ := hI
  have tj12_l1 := b01 b_j12_l1
  have hN12 : (tr_length.toInt - j12_h0_size.toInt).toNat < N12 + 1 := hN12
  refine lv_aload_n hx hb d_SC_readInteger_12 rfl (lv_at hl 0 rfl) ?_
  refine va_get (D := (dC, dI)) (ci := 8) (v := .int h0_place) (C := R_SC) (T := F_SC) (N := 11) hx hb hts i_SC hown hK hP 0 rfl rfl 2 (by decide) (hts _ kF_SC_39) (fun _ h9 => h9) rfl d_SC_readInteger_13 ?_
  refine lv_aload_n hx hb d_SC_readInteger_16 rfl (lv_at hl 0 rfl) ?_
  refine va_get (D := (dC, dI)) (ci := 8) (v := .int j12_h0_size) (C := R_SC) (T := F_SC) (N := 11) hx hb hts i_SC hown hK hP 0 rfl rfl 3 (by decide) (hts _ kF_SC_43) (fun _ h9 => h9) rfl d_SC_readInteger_17 ?_
  refine lv_iadd hx hb d_SC_readInteger_20 ?_
  refine lv_topi (fun x1 ex1 => ?_)
  have tx1 : x1.toInt = h0_place.toInt + j12_h0_size.toInt := by have z := i32_add ex1 (by (first | (apply Int.le_antisymm <;> omega) | omega)) (by (first | (apply Int.le_antisymm <;> omega) | omega)); first | exact z | (first | (apply Int.le_antisymm <;> omega) | omega)
  refine lv_aload_n hx hb d_SC_readInteger_21 rfl (lv_at hl 0 rfl) ?_
  refine va_get (D := (dC, dI)) (ci := 8) (v := .ref tr) (C := R_SC) (T := F_SC) (N := 11) hx hb hts i_SC hown hK hP 0 rfl rfl 0 (by decide) (hts _ kF_SC_35) (fun _ h9 => h9) rfl d_SC_readInteger_22 ?_
  refine va_get (D := (dC, dI)) (ci := 1) (v := .int tr_length) (C := R_BR) (T := F_BR) (N := 2) hx hb hts i_BR hown hK hP 1 rfl rfl 1 (by decide) (hts _ kF_SC_77) (fun _ h9 => h9) rfl d_SC_readInteger_25 ?_
  refine w_cut (pc2 := 129) (σ := Unit) (fun u H locs ls => match u with | _ => (1 ≤ j12_h0_size.toInt) ∧ va_P (dC, dI) cls (wz_104 h0 tr (sg sa h0_sign) h0_place j12_h0_size j12_h0_value ss sp szs sv h0_length h0_at tr tx tr_length tx ctx gtx) H ∧ va_D A (wz_104 h0 tr (sg sa h0_sign) h0_place j12_h0_size j12_h0_value ss sp szs sv h0_length h0_at tr tx tr_length tx ctx gtx) ∧ va_S A s.heap H locs ∧ lv_has ls 3 [(0, .ref h0), (1, .int j12_l1)]) (fun u => match u with | _ => []) ?_ (fun jn129 => ?_)
  · intro u H locs ls hI
    obtain ⟨u1, hP, hD, hS, hl⟩ := hI
    refine lv_aload_n hx hb d_SC_readInteger_129 rfl (lv_at hl 0 rfl) ?_
    refine va_get (D := (dC, dI)) (ci := 8) (v := .ref tr) (C := R_SC) (T := F_SC) (N := 11) hx hb hts i_SC hown hK hP 0 rfl rfl 0 (by decide) (hts _ kF_SC_35) (fun _ h9 => h9) rfl d_SC_readInteger_130 ?_
    refine lv_aload_n hx hb d_SC_readInteger_133 rfl (lv_at hl 0 rfl) ?_
    refine va_get (D := (dC, dI)) (ci := 8) (v := .int h0_place) (C := R_SC) (T := F_SC) (N := 11) hx hb hts i_SC hown hK hP 0 rfl rfl 2 (by decide) (hts _ kF_SC_39) (fun _ h9 => h9) rfl d_SC_readInteger_134 ?_
    refine lv_aload_n hx hb d_SC_readInteger_137 rfl (lv_at hl 0 rfl) ?_
    refine va_get (D := (dC, dI)) (ci := 8) (v := .int j12_h0_size) (C := R_SC) (T := F_SC) (N := 11) hx hb hts i_SC hown hK hP 0 rfl rfl 3 (by decide) (hts _ kF_SC_43) (fun _ h9 => h9) rfl d_SC_readInteger_138 ?_
    refine lv_iadd hx hb d_SC_readInteger_141 ?_
    refine lv_topi (fun x2 ex2 => ?_)
    have tx2 : x2.toInt = h0_place.toInt + j12_h0_size.toInt := by have z := i32_add ex2 (by (first | (apply Int.le_antisymm <;> omega) | omega)) (by (first | (apply Int.le_antisymm <;> omega) | omega)); first | exact z | (first | (apply Int.le_antisymm <;> omega) | omega)
    have hPc := hP.sb (wq := [(tr, .inr (1, [.ref tx, .int tr_length])), (tx, .inl (ctx, 2000, .inl gtx))]) [1, 2] rfl
    have hDc := hD.sb (wq := [(tr, .inr (1, [.ref tx, .int tr_length])), (tx, .inl (ctx, 2000, .inl gtx))]) [1, 2] (by decide) rfl
    have hKc := hK.sb (tyq := [(ctx, .byte)]) [0] rfl
    have hFc := va_free (wc := [(tr, .inr (1, [.ref tx, .int tr_length])), (tx, .inl (ctx, 2000, .inl gtx))]) hD hS hA [1, 2] rfl
    refine va_calli (va_runV (As := [.int x2]) (rest := []) ⟨hx, hb, hml, hown, hts⟩ (c_BR_at l dC dI tr tx H.size ctx 2000 tr_length gtx (by (first | (apply Int.le_antisymm <;> omega) | omega)) (by (first | (apply Int.le_antisymm <;> omega) | omega)) (by (first | (apply Int.le_antisymm <;> omega) | omega)) x2) (cwV 1 hts (gV kM_SC_80 kV_BR_at kS_BR_at kI_BR kC_BR_at) rfl rfl rfl (by decide +kernel) ⟨Nat.le_of_ble_eq_true rfl, Nat.le_of_ble_eq_true rfl⟩) ⟨fun a U g mk z => by obtain ⟨z0, z1, zP, zK, zD⟩ := z; exact ⟨z0, z1, zP, va_K.moved (u := U) (U := U.calling g mk a) (Vm.Alike.refl U.vm) zK, zD⟩, va_recv hKc hPc (ci := 1) (q0 := 0) rfl rfl, fun U hU hW => ⟨rfl, by rw [hU], va_P.he hU.symm hPc, va_K.moved hW.alike hKc, hDc.weaken (fun _ _ _ _ => trivial)⟩⟩ rfl rfl hl.1 rfl (lv_room (Nat.le_of_ble_eq_true rfl)) d_SC_readInteger_142 ⟨(Nat.zero_le _), (Nat.zero_le _)⟩) hS (fun q _ h => hFc q h) hFc (fun r3 u t H1 locs ht hvm hw hB hz1 hk1 hS => ?_)
    obtain ⟨er3, rfl⟩ := hw
    have tr3 := br_get_in gtx tr_length x2
    rw [← er3] at tr3
    obtain ⟨hP1, hK1, hD1⟩ := hB
    replace hP1 := va_P.he ht hP1
    obtain ⟨hP, hD⟩ := va_join (wr := (wz_105 h0 tr (sg sa h0_sign) h0_place j12_h0_size j12_h0_value ss sp szs sv h0_length h0_at)) (w1 := [(tr, .inr (1, [.ref tx, .int tr_length])), (tx, .inl (ctx, 2000, .inl gtx))]) hP hD [1, 2] [0] rfl rfl (by decide) (by decide) hk1 hFc hP1 hD1
    clear hPc hDc hKc hFc hz1 hk1 hP1 hK1 hD1
    rename Heap => H
    have hP : va_P (dC, dI) cls (wz_104 h0 tr (sg sa h0_sign) h0_place j12_h0_size j12_h0_value ss sp szs sv h0_length h0_at tr tx tr_length tx ctx gtx) H := hP
    have hD : va_D A (wz_104 h0 tr (sg sa h0_sign) h0_place j12_h0_size j12_h0_value ss sp szs sv h0_length h0_at tr tx tr_length tx ctx gtx) := hD
    refine lv_bipush (v := 76) hx hb d_SC_readInteger_145 (by decide) ?_
    refine w_cut (pc2 := 155) (σ := Int32) (fun u H locs ls => match u with | j155_s0 => (j155_s0 = 0 ∨ j155_s0 = 1) ∧ (j155_s0.toInt = 1 → h0_place.toInt + j12_h0_size.toInt + 1 ≤ tr_length.toInt) ∧ va_P (dC, dI) cls (wz_104 h0 tr (sg sa h0_sign) h0_place j12_h0_size j12_h0_value ss sp szs sv h0_length h0_at tr tx tr_length tx ctx gtx) H ∧ va_D A (wz_104 h0 tr (sg sa h0_sign) h0_place j12_h0_size j12_h0_value ss sp szs sv h0_length h0_at tr tx tr_length tx ctx gtx) ∧ va_S A s.heap H locs ∧ lv_has ls 3 [(0, .ref h0), (1, .int j12_l1)]) (fun u => match u with | j155_s0 => [.int j155_s0]) ?_ (fun jn155 => ?_)
    · intro u H locs ls hI
      obtain ⟨j155_s0, rfl⟩ : ∃ z, z = u := ⟨_, rfl⟩
      obtain ⟨b_j155_s0, y155, hP, hD, hS, hl⟩ := hI
      have tj155_s0 := b01 b_j155_s0
      refine lv_istore_n (lv' := [(2, .int j155_s0), (0, .ref h0), (1, .int j12_l1)]) hx hb d_SC_readInteger_155 rfl hl (by decide) rfl (fun ls hl => ?_)
      refine lv_iload_n hx hb d_SC_readInteger_156 rfl (lv_at hl 0 rfl) ?_
      refine w_cut (pc2 := 194) (σ := Int32 × Int32) (fun u H locs ls => match u with | (j194_l1, j194_h0_size) => (j194_l1 = 0 ∨ j194_l1 = 1) ∧ (0 ≤ j194_h0_size.toInt ∧ j194_h0_size.toInt ≤ 2000) ∧ (h0_place.toInt + j194_h0_size.toInt ≤ tr_length.toInt) ∧ (j194_l1.toInt = 0 → 0 ≤ j12_h0_value.toInt ∧ (j155_s0.toInt = 1 → 2 ≤ j194_h0_size.toInt ∧ j12_h0_value.toInt < pt (j194_h0_size.toInt - 1)) ∧ (j155_s0.toInt = 0 → 1 ≤ j194_h0_size.toInt ∧ j12_h0_value.toInt < pt j194_h0_size.toInt ∧ j12_h0_value.toInt ≤ 2147483647)) ∧ va_P (dC, dI) cls (wz_104 h0 tr (sg sa h0_sign) h0_place j194_h0_size j12_h0_value ss sp szs sv h0_length h0_at tr tx tr_length tx ctx gtx) H ∧ va_D A (wz_104 h0 tr (sg sa h0_sign) h0_place j194_h0_size j12_h0_value ss sp szs sv h0_length h0_at tr tx tr_length tx ctx gtx) ∧ va_S A s.heap H locs ∧ lv_has ls 3 [(0, .ref h0), (1, .int j194_l1), (2, .int j155_s0)]) (fun u => match u with | (j194_l1, j194_h0_size) => []) ?_ (fun jn194 => ?_)
      · intro u H locs ls hI
        obtain ⟨j194_l1, j194_h0_size⟩ := u
        obtain ⟨b_j194_l1, b_j194_h0_size, y194, y195, hP, hD, hS, hl⟩ := hI
        have tj194_l1 := b01 b_j194_l1
        refine lv_aload_n hx hb d_SC_readInteger_194 rfl (lv_at hl 0 rfl) ?_
        refine lv_iload_n hx hb d_SC_readInteger_195 rfl (lv_at hl 1 rfl) ?_
        refine w_cut (pc2 := 218) (σ := Nat) (fun u H locs ls => match u with | j218_s0 => (j218_s0 < 55) ∧ (j218_s0 = 1 ∨ (j218_s0 = 3 ∧ j194_l1.toInt = 0 ∧ j155_s0.toInt = 0) ∨ (j218_s0 = 4 ∧ j194_l1.toInt = 0 ∧ j155_s0.toInt = 1)) ∧ va_P (dC, dI) cls (wz_104 h0 tr (sg sa h0_sign) h0_place j194_h0_size j12_h0_value ss sp szs sv h0_length h0_at tr tx tr_length tx ctx gtx) H ∧ va_D A (wz_104 h0 tr (sg sa h0_sign) h0_place j194_h0_size j12_h0_value ss sp szs sv h0_length h0_at tr tx tr_length tx ctx gtx) ∧ va_S A s.heap H locs ∧ lv_has ls 3 []) (fun u => match u with | j218_s0 => [.ref (sg sa j218_s0), .ref h0]) ?_ (fun jn218 => ?_)
        · intro u H locs ls hI
          obtain ⟨j218_s0, rfl⟩ : ∃ z, z = u := ⟨_, rfl⟩
          obtain ⟨b_j218_s0, y218, hP, hD, hS, hl⟩ := hI
          refine va_put (D := (dC, dI)) (ci := 8) (v := .ref (sg sa j218_s0)) (ty := .object "WaferForge$Sign") (C := R_SC) (T := F_SC) (N := 11) hx hb hts i_SC t_SC t_SC_ok n_SC hown hK hP hD hS 0 rfl rfl 1 (by decide) (hts _ kF_SC_15) (fun _ h9 => h9) rfl (by decide +kernel) rfl rfl (Nat.le_of_ble_eq_true rfl) d_SC_readInteger_218 (fun H locs hP hD hS => ?_)
          have hP9 := hP.sb (wq := (wz_104 h0 tr (sg sa j218_s0) h0_place j194_h0_size j12_h0_value ss sp szs sv h0_length h0_at tr tx tr_length tx ctx gtx)) [0, 1, 2] rfl
          have hD9 := hD.sb (wq := (wz_104 h0 tr (sg sa j218_s0) h0_place j194_h0_size j12_h0_value ss sp szs sv h0_length h0_at tr tx tr_length tx ctx gtx)) [0, 1, 2] (by decide) rfl
          exact W.vret hx hb hr (fun t ht hW => ⟨⟨(j218_s0, j194_h0_size, j12_h0_value), rfl, ⟨b_j218_s0, b_j194_h0_size, ⟨y194, by rcases y218 with z | ⟨z, z1, z2⟩ | ⟨z, z1, z2⟩; exact Or.inl z; (have q9 := y195 z1; exact Or.inr (Or.inl ⟨z, (q9.2.2 z2).1, q9.1, (q9.2.2 z2).2⟩)); (have q9 := y195 z1; exact Or.inr (Or.inr ⟨z, (q9.2.1 z2).1, q9.1, (q9.2.1 z2).2⟩))⟩⟩, va_P.he ht.symm hP9, va_K.moved hW.alike hK, hD9⟩, hS.F ht⟩) hS.2.2 d_SC_readInteger_221
        · skip
          refine lv_if_eq (tgt := 205) hx hb d_SC_readInteger_196 (by decide) (fun c196 => ?_) (fun c196 => ?_)
          · have q196 := eqI c196
            refine lv_iload_n hx hb d_SC_readInteger_205 rfl (lv_at hl 2 rfl) ?_
            refine lv_if_eq (tgt := 215) hx hb d_SC_readInteger_206 (by decide) (fun c206 => ?_) (fun c206 => ?_)
            · have q206 := eqI c206
              refine va_gets (C := "WaferForge$Sign") (n := "INTEGER") (d := "LWaferForge$Sign;") (v := .ref (sg sa 3)) hx hb ((hSW.2.2.2.1.1 3 (by decide)).1) hS hown (hts _ kF_SC_130) (fun _ h9 => h9) d_SC_readInteger_215 ?_
              exact jn218 3 _ _ _ ⟨(by decide : 3 < 55), by (try dsimp only) <;> (first | (apply Int.le_antisymm <;> omega) | omega), hP, hD, hS, lv_sub hl [] rfl⟩
            · have q206 := neI c206
              refine va_gets (C := "WaferForge$Sign") (n := "LONG_INTEGER") (d := "LWaferForge$Sign;") (v := .ref (sg sa 4)) hx hb ((hSW.2.2.2.1.1 4 (by decide)).1) hS hown (hts _ kF_SC_127) (fun _ h9 => h9) d_SC_readInteger_209 ?_
              refine lv_goto (tgt := 218) hx hb d_SC_readInteger_212 (by decide) ?_
              exact jn218 4 _ _ _ ⟨(by decide : 4 < 55), by (try dsimp only) <;> (first | (apply Int.le_antisymm <;> omega) | omega), hP, hD, hS, lv_sub hl [] rfl⟩
          · have q196 := neI c196
            refine va_gets (C := "WaferForge$Sign") (n := "WRONG") (d := "LWaferForge$Sign;") (v := .ref (sg sa 1)) hx hb ((hSW.2.2.2.1.1 1 (by decide)).1) hS hown (hts _ kF_SC_52) (fun _ h9 => h9) d_SC_readInteger_199 ?_
            refine lv_goto (tgt := 218) hx hb d_SC_readInteger_202 (by decide) ?_
            exact jn218 1 _ _ _ ⟨(by decide : 1 < 55), by (try dsimp only) <;> (first | (apply Int.le_antisymm <;> omega) | omega), hP, hD, hS, lv_sub hl [] rfl⟩
      · skip
        refine lv_if_eq (tgt := 173) hx hb d_SC_readInteger_157 (by decide) (fun c157 => ?_) (fun c157 => ?_)
        · have q157 := eqI c157
          refine lv_iload_n hx hb d_SC_readInteger_173 rfl (lv_at hl 2 rfl) ?_
          refine w_cut (pc2 := 193) (σ := Int32) (fun u H locs ls => match u with | j193_s0 => (j193_s0 = 0 ∨ j193_s0 = 1) ∧ (j193_s0.toInt = 0 → j12_l1.toInt = 0 ∧ j12_h0_value.toInt ≤ 2147483647) ∧ va_P (dC, dI) cls (wz_104 h0 tr (sg sa h0_sign) h0_place j12_h0_size j12_h0_value ss sp szs sv h0_length h0_at tr tx tr_length tx ctx gtx) H ∧ va_D A (wz_104 h0 tr (sg sa h0_sign) h0_place j12_h0_size j12_h0_value ss sp szs sv h0_length h0_at tr tx tr_length tx ctx gtx) ∧ va_S A s.heap H locs ∧ lv_has ls 3 [(0, .ref h0), (2, .int j155_s0)]) (fun u => match u with | j193_s0 => [.int j193_s0]) ?_ (fun jn193 => ?_)
          · intro u H locs ls hI
            obtain ⟨j193_s0, rfl⟩ : ∃ z, z = u := ⟨_, rfl⟩
            obtain ⟨b_j193_s0, y193, hP, hD, hS, hl⟩ := hI
            have tj193_s0 := b01 b_j193_s0
            refine lv_istore_n (lv' := [(1, .int j193_s0), (0, .ref h0), (2, .int j155_s0)]) hx hb d_SC_readInteger_193 rfl hl (by decide) rfl (fun ls hl => ?_)
            exact jn194 (j193_s0, j12_h0_size) _ _ _ ⟨b_j193_s0, b_j12_h0_size, by (try dsimp only) <;> (first | (apply Int.le_antisymm <;> omega) | omega), fun z => by have z1 := v2 (by (first | (apply Int.le_antisymm <;> omega) | omega)); exact ⟨z1.1, fun z2 => absurd z2 (by (first | (apply Int.le_antisymm <;> omega) | omega)), fun _ => ⟨by (first | (apply Int.le_antisymm <;> omega) | omega), z1.2, by (first | (apply Int.le_antisymm <;> omega) | omega)⟩⟩, hP, hD, hS, lv_sub hl [1, 0, 2] rfl⟩
          · skip
            refine lv_if_ne (tgt := 188) hx hb d_SC_readInteger_174 (by decide) (fun c174 => ?_) (fun c174 => ?_)
            · have q174 := neI c174
              refine lv_iconst (v := 1) hx hb d_SC_readInteger_188 (by decide) ?_
              refine lv_goto (tgt := 193) hx hb d_SC_readInteger_189 (by decide) ?_
              exact jn193 1 _ _ _ ⟨Or.inr rfl, by (try dsimp only) <;> (first | (apply Int.le_antisymm <;> omega) | omega), hP, hD, hS, lv_sub hl [1, 0] rfl⟩
            · have q174 := eqI c174
              refine lv_aload_n hx hb d_SC_readInteger_177 rfl (lv_at hl 1 rfl) ?_
              refine va_get (D := (dC, dI)) (ci := 8) (v := .long j12_h0_value) (C := R_SC) (T := F_SC) (N := 11) hx hb hts i_SC hown hK hP 0 rfl rfl 4 (by decide) (hts _ kF_SC_70) (fun _ h9 => h9) rfl d_SC_readInteger_178 ?_
              refine lv_ldc2 hx hb hown (hts _ kL_SC_125) d_SC_readInteger_181 ?_
              refine lv_topl (fun x4 ex4 => ?_)
              have tx4 : x4.toInt = 2147483647 := by rw [ex4]; decide
              refine W.lcmp hx hb d_SC_readInteger_184 ?_
              refine lv_topi (fun x5 ex5 => ?_)
              have tx5 := lgc ex5
              refine lv_if_le (tgt := 192) hx hb d_SC_readInteger_185 (by decide) (fun c185 => ?_) (fun c185 => ?_)
              · have q185 := leI c185
                refine lv_iconst (v := 0) hx hb d_SC_readInteger_192 (by decide) ?_
                exact jn193 0 _ _ _ ⟨Or.inl rfl, by (try dsimp only) <;> (first | (apply Int.le_antisymm <;> omega) | omega), hP, hD, hS, lv_sub hl [1, 0] rfl⟩
              · have q185 := nleI c185
                refine lv_iconst (v := 1) hx hb d_SC_readInteger_188 (by decide) ?_
                refine lv_goto (tgt := 193) hx hb d_SC_readInteger_189 (by decide) ?_
                exact jn193 1 _ _ _ ⟨Or.inr rfl, by (try dsimp only) <;> (first | (apply Int.le_antisymm <;> omega) | omega), hP, hD, hS, lv_sub hl [1, 0] rfl⟩
        · have q157 := neI c157
          refine lv_aload_n hx hb d_SC_readInteger_160 rfl (lv_at hl 1 rfl) ?_
          refine lv_dup hx hb d_SC_readInteger_161 rfl ?_
          refine va_get (D := (dC, dI)) (ci := 8) (v := .int j12_h0_size) (C := R_SC) (T := F_SC) (N := 11) hx hb hts i_SC hown hK hP 0 rfl rfl 3 (by decide) (hts _ kF_SC_43) (fun _ h9 => h9) rfl d_SC_readInteger_162 ?_
          refine lv_iconst (v := 1) hx hb d_SC_readInteger_165 (by decide) ?_
          refine lv_iadd hx hb d_SC_readInteger_166 ?_
          refine lv_topi (fun x6 ex6 => ?_)
          have tx6 : x6.toInt = j12_h0_size.toInt + 1 := by have z := i32_add ex6 (by (first | (apply Int.le_antisymm <;> omega) | omega)) (by (first | (apply Int.le_antisymm <;> omega) | omega)); first | exact z | (first | (apply Int.le_antisymm <;> omega) | omega)
          refine va_put (D := (dC, dI)) (ci := 8) (v := .int x6) (ty := .int) (C := R_SC) (T := F_SC) (N := 11) hx hb hts i_SC t_SC t_SC_ok n_SC hown hK hP hD hS 0 rfl rfl 3 (by decide) (hts _ kF_SC_43) (fun _ h9 => h9) rfl (by decide +kernel) rfl rfl (Nat.le_of_ble_eq_true rfl) d_SC_readInteger_167 (fun H locs hP hD hS => ?_)
          refine lv_goto (tgt := 194) hx hb d_SC_readInteger_170 (by decide) ?_
          exact jn194 (j12_l1, x6) _ _ _ ⟨b_j12_l1, by (try dsimp only) <;> (first | (apply Int.le_antisymm <;> omega) | omega), by (try dsimp only) <;> (first | (apply Int.le_antisymm <;> omega) | omega), fun z => by have z1 := v2 (by (first | (apply Int.le_antisymm <;> omega) | omega)); exact ⟨z1.1, fun _ => ⟨by (first | (apply Int.le_antisymm <;> omega) | omega), by rw [show x6.toInt - 1 = j12_h0_size.toInt from by (first | (apply Int.le_antisymm <;> omega) | omega)]; exact z1.2⟩, fun z2 => absurd z2 (by (first | (apply Int.le_antisymm <;> omega) | omega))⟩, hP, hD, hS, lv_sub hl [1, 2, 0] rfl⟩
    · skip
      refine lv_icmp_ne (tgt := 154) hx hb d_SC_readInteger_147 (by decide) (fun c147 => ?_) (fun c147 => ?_)
      · have q147 := neI c147
        refine lv_iconst (v := 0) hx hb d_SC_readInteger_154 (by decide) ?_
        exact jn155 0 _ _ _ ⟨Or.inl rfl, by (try dsimp only) <;> (first | (apply Int.le_antisymm <;> omega) | omega), hP, hD, hS, lv_sub hl [0, 1] rfl⟩
      · have q147 := eqI c147
        have z150 := br_get_lt er3 (by (first | (apply Int.le_antisymm <;> omega) | omega))
        refine lv_iconst (v := 1) hx hb d_SC_readInteger_150 (by decide) ?_
        refine lv_goto (tgt := 155) hx hb d_SC_readInteger_151 (by decide) ?_
        exact jn155 1 _ _ _ ⟨Or.inr rfl, by (try dsimp only) <;> (first | (apply Int.le_antisymm <;> omega) | omega), hP, hD, hS, lv_sub hl [0, 1] rfl⟩
  · skip
    refine lv_icmp_ge (tgt := 129) hx hb d_SC_readInteger_28 (by decide) (fun c28 => ?_) (fun c28 => ?_)
    · have q28 := leI c28
      have u9 : 1 ≤ j12_h0_size.toInt := by (first | (apply Int.le_antisymm <;> omega) | omega)
      exact jn129 () _ _ _ ⟨u9, hP, hD, hS, lv_sub hl [0, 1] rfl⟩
    · have q28 := nleI c28
      refine lv_aload_n hx hb d_SC_readInteger_31 rfl (lv_at hl 0 rfl) ?_
      refine va_get (D := (dC, dI)) (ci := 8) (v := .ref tr) (C := R_SC) (T := F_SC) (N := 11) hx hb hts i_SC hown hK hP 0 rfl rfl 0 (by decide) (hts _ kF_SC_35) (fun _ h9 => h9) rfl d_SC_readInteger_32 ?_
      refine lv_aload_n hx hb d_SC_readInteger_35 rfl (lv_at hl 0 rfl) ?_
      refine va_get (D := (dC, dI)) (ci := 8) (v := .int h0_place) (C := R_SC) (T := F_SC) (N := 11) hx hb hts i_SC hown hK hP 0 rfl rfl 2 (by decide) (hts _ kF_SC_39) (fun _ h9 => h9) rfl d_SC_readInteger_36 ?_
      refine lv_aload_n hx hb d_SC_readInteger_39 rfl (lv_at hl 0 rfl) ?_
      refine va_get (D := (dC, dI)) (ci := 8) (v := .int j12_h0_size) (C := R_SC) (T := F_SC) (N := 11) hx hb hts i_SC hown hK hP 0 rfl rfl 3 (by decide) (hts _ kF_SC_43) (fun _ h9 => h9) rfl d_SC_readInteger_40 ?_
      refine lv_iadd hx hb d_SC_readInteger_43 ?_
      refine lv_topi (fun x7 ex7 => ?_)
      have tx7 : x7.toInt = h0_place.toInt + j12_h0_size.toInt := by have z := i32_add ex7 (by (first | (apply Int.le_antisymm <;> omega) | omega)) (by (first | (apply Int.le_antisymm <;> omega) | omega)); first | exact z | (first | (apply Int.le_antisymm <;> omega) | omega)
      have hPc := hP.sb (wq := [(tr, .inr (1, [.ref tx, .int tr_length])), (tx, .inl (ctx, 2000, .inl gtx))]) [1, 2] rfl
      have hDc := hD.sb (wq := [(tr, .inr (1, [.ref tx, .int tr_length])), (tx, .inl (ctx, 2000, .inl gtx))]) [1, 2] (by decide) rfl
      have hKc := hK.sb (tyq := [(ctx, .byte)]) [0] rfl
      have hFc := va_free (wc := [(tr, .inr (1, [.ref tx, .int tr_length])), (tx, .inl (ctx, 2000, .inl gtx))]) hD hS hA [1, 2] rfl
      refine va_calli (va_runV (As := [.int x7]) (rest := []) ⟨hx, hb, hml, hown, hts⟩ (c_BR_at l dC dI tr tx H.size ctx 2000 tr_length gtx (by (first | (apply Int.le_antisymm <;> omega) | omega)) (by (first | (apply Int.le_antisymm <;> omega) | omega)) (by (first | (apply Int.le_antisymm <;> omega) | omega)) x7) (cwV 1 hts (gV kM_SC_80 kV_BR_at kS_BR_at kI_BR kC_BR_at) rfl rfl rfl (by decide +kernel) ⟨Nat.le_of_ble_eq_true rfl, Nat.le_of_ble_eq_true rfl⟩) ⟨fun a U g mk z => by obtain ⟨z0, z1, zP, zK, zD⟩ := z; exact ⟨z0, z1, zP, va_K.moved (u := U) (U := U.calling g mk a) (Vm.Alike.refl U.vm) zK, zD⟩, va_recv hKc hPc (ci := 1) (q0 := 0) rfl rfl, fun U hU hW => ⟨rfl, by rw [hU], va_P.he hU.symm hPc, va_K.moved hW.alike hKc, hDc.weaken (fun _ _ _ _ => trivial)⟩⟩ rfl rfl hl.1 rfl (lv_room (Nat.le_of_ble_eq_true rfl)) d_SC_readInteger_44 ⟨(Nat.zero_le _), (Nat.zero_le _)⟩) hS (fun q _ h => hFc q h) hFc (fun r8 u t H1 locs ht hvm hw hB hz1 hk1 hS => ?_)
      obtain ⟨er8, rfl⟩ := hw
      have tr8 := br_get_in gtx tr_length x7
      rw [← er8] at tr8
      obtain ⟨hP1, hK1, hD1⟩ := hB
      replace hP1 := va_P.he ht hP1
      obtain ⟨hP, hD⟩ := va_join (wr := (wz_105 h0 tr (sg sa h0_sign) h0_place j12_h0_size j12_h0_value ss sp szs sv h0_length h0_at)) (w1 := [(tr, .inr (1, [.ref tx, .int tr_length])), (tx, .inl (ctx, 2000, .inl gtx))]) hP hD [1, 2] [0] rfl rfl (by decide) (by decide) hk1 hFc hP1 hD1
      clear hPc hDc hKc hFc hz1 hk1 hP1 hK1 hD1
      rename Heap => H
      have hP : va_P (dC, dI) cls (wz_104 h0 tr (sg sa h0_sign) h0_place j12_h0_size j12_h0_value ss sp szs sv h0_length h0_at tr tx tr_length tx ctx gtx) H := hP
      have hD : va_D A (wz_104 h0 tr (sg sa h0_sign) h0_place j12_h0_size j12_h0_value ss sp szs sv h0_length h0_at tr tx tr_length tx ctx gtx) := hD
      have hPc := hP.sb (wq := []) [] rfl
      have hDc := hD.sb (wq := []) [] (by decide) rfl
      have hKc := hK.sb (tyq := []) [] rfl
      have hFc := va_free (wc := []) hD hS hA [] rfl
      refine va_calli (va_runS (As := [.int r8]) (rest := []) ⟨hx, hb, hml, hown, hts⟩ (c_SC_isDigit l dC dI H.size r8) ⟨callB_of 1 hts (gW kC_SC_isDigit) rfl rfl rfl (hts _ kI_SC) (hts _ kM_SC_90) (by decide +kernel) ⟨Nat.le_of_ble_eq_true rfl, Nat.le_of_ble_eq_true rfl⟩, hts _ kT_SC_isDigit⟩ ⟨fun a U g mk z => by obtain ⟨z0, z1, zP, zK, zD⟩ := z; exact ⟨z0, z1, zP, va_K.moved (u := U) (U := U.calling g mk a) (Vm.Alike.refl U.vm) zK, zD⟩, fun U hU hW => ⟨rfl, by rw [hU], va_P.he hU.symm hPc, va_K.moved hW.alike hKc, hDc.weaken (fun _ _ _ _ => trivial)⟩⟩ rfl rfl hl.1 rfl (lv_room (Nat.le_of_ble_eq_true rfl)) d_SC_readInteger_47 ⟨(Nat.zero_le _), (Nat.zero_le _)⟩) hS (fun q _ h => hFc q h) hFc (fun r9 u t H1 locs ht hvm hw hB hz1 hk1 hS => ?_)
      try dsimp only at hw
      obtain ⟨br9, xr9⟩ := hw
      try clear hw
      have tr9 := b01 br9
      obtain ⟨hP1, hK1, hD1⟩ := hB
      replace hP1 := va_P.he ht hP1
      obtain ⟨hP, hD⟩ := va_join (wr := (wz_104 h0 tr (sg sa h0_sign) h0_place j12_h0_size j12_h0_value ss sp szs sv h0_length h0_at tr tx tr_length tx ctx gtx)) (w1 := []) hP hD [] [0, 1, 2] rfl rfl (by decide) (by decide) hk1 hFc hP1 hD1
      clear hPc hDc hKc hFc hz1 hk1 hP1 hK1 hD1
      rename Heap => H
      have hP : va_P (dC, dI) cls (wz_104 h0 tr (sg sa h0_sign) h0_place j12_h0_size j12_h0_value ss sp szs sv h0_length h0_at tr tx tr_length tx ctx gtx) H := hP
      have hD : va_D A (wz_104 h0 tr (sg sa h0_sign) h0_place j12_h0_size j12_h0_value ss sp szs sv h0_length h0_at tr tx tr_length tx ctx gtx) := hD
      refine lv_if_eq (tgt := 129) hx hb d_SC_readInteger_50 (by decide) (fun c50 => ?_) (fun c50 => ?_)
      · have q50 := eqI c50
        have u9 : 1 ≤ j12_h0_size.toInt := by
          have z9 : ¬ j12_h0_size.toInt = 0 := fun z => by
            have ex : x7 = h0_place := Int32.toInt_inj.mp (by (first | (apply Int.le_antisymm <;> omega) | omega))
            rw [ex] at er8
            rw [← er8] at hdg
            have z8 := xr9.2 (by rcases br9 with z7 | z7; exact z7; (exfalso; rw [z7] at q50; exact absurd q50 (by decide)))
            (first | (apply Int.le_antisymm <;> omega) | omega)
          (first | (apply Int.le_antisymm <;> omega) | omega)
        exact jn129 () _ _ _ ⟨u9, hP, hD, hS, lv_sub hl [0, 1] rfl⟩
      · have q50 := neI c50
        have dg := xr9.1 (by rcases br9 with z7 | z7; (exfalso; rw [z7] at q50; exact q50 rfl); exact z7)
        refine lv_aload_n hx hb d_SC_readInteger_53 rfl (lv_at hl 0 rfl) ?_
        refine va_get (D := (dC, dI)) (ci := 8) (v := .ref tr) (C := R_SC) (T := F_SC) (N := 11) hx hb hts i_SC hown hK hP 0 rfl rfl 0 (by decide) (hts _ kF_SC_35) (fun _ h9 => h9) rfl d_SC_readInteger_54 ?_
        refine lv_aload_n hx hb d_SC_readInteger_57 rfl (lv_at hl 0 rfl) ?_
        refine va_get (D := (dC, dI)) (ci := 8) (v := .int h0_place) (C := R_SC) (T := F_SC) (N := 11) hx hb hts i_SC hown hK hP 0 rfl rfl 2 (by decide) (hts _ kF_SC_39) (fun _ h9 => h9) rfl d_SC_readInteger_58 ?_
        refine lv_aload_n hx hb d_SC_readInteger_61 rfl (lv_at hl 0 rfl) ?_
        refine va_get (D := (dC, dI)) (ci := 8) (v := .int j12_h0_size) (C := R_SC) (T := F_SC) (N := 11) hx hb hts i_SC hown hK hP 0 rfl rfl 3 (by decide) (hts _ kF_SC_43) (fun _ h9 => h9) rfl d_SC_readInteger_62 ?_
        refine lv_iadd hx hb d_SC_readInteger_65 ?_
        refine lv_topi (fun x10 ex10 => ?_)
        have tx10 : x10.toInt = h0_place.toInt + j12_h0_size.toInt := by have z := i32_add ex10 (by (first | (apply Int.le_antisymm <;> omega) | omega)) (by (first | (apply Int.le_antisymm <;> omega) | omega)); first | exact z | (first | (apply Int.le_antisymm <;> omega) | omega)
        have hPc := hP.sb (wq := [(tr, .inr (1, [.ref tx, .int tr_length])), (tx, .inl (ctx, 2000, .inl gtx))]) [1, 2] rfl
        have hDc := hD.sb (wq := [(tr, .inr (1, [.ref tx, .int tr_length])), (tx, .inl (ctx, 2000, .inl gtx))]) [1, 2] (by decide) rfl
        have hKc := hK.sb (tyq := [(ctx, .byte)]) [0] rfl
        have hFc := va_free (wc := [(tr, .inr (1, [.ref tx, .int tr_length])), (tx, .inl (ctx, 2000, .inl gtx))]) hD hS hA [1, 2] rfl
        refine va_calli (va_runV (As := [.int x10]) (rest := []) ⟨hx, hb, hml, hown, hts⟩ (c_BR_at l dC dI tr tx H.size ctx 2000 tr_length gtx (by (first | (apply Int.le_antisymm <;> omega) | omega)) (by (first | (apply Int.le_antisymm <;> omega) | omega)) (by (first | (apply Int.le_antisymm <;> omega) | omega)) x10) (cwV 1 hts (gV kM_SC_80 kV_BR_at kS_BR_at kI_BR kC_BR_at) rfl rfl rfl (by decide +kernel) ⟨Nat.le_of_ble_eq_true rfl, Nat.le_of_ble_eq_true rfl⟩) ⟨fun a U g mk z => by obtain ⟨z0, z1, zP, zK, zD⟩ := z; exact ⟨z0, z1, zP, va_K.moved (u := U) (U := U.calling g mk a) (Vm.Alike.refl U.vm) zK, zD⟩, va_recv hKc hPc (ci := 1) (q0 := 0) rfl rfl, fun U hU hW => ⟨rfl, by rw [hU], va_P.he hU.symm hPc, va_K.moved hW.alike hKc, hDc.weaken (fun _ _ _ _ => trivial)⟩⟩ rfl rfl hl.1 rfl (lv_room (Nat.le_of_ble_eq_true rfl)) d_SC_readInteger_66 ⟨(Nat.zero_le _), (Nat.zero_le _)⟩) hS (fun q _ h => hFc q h) hFc (fun r11 u t H1 locs ht hvm hw hB hz1 hk1 hS => ?_)
        obtain ⟨er11, rfl⟩ := hw
        have tr11 := br_get_in gtx tr_length x10
        rw [← er11] at tr11
        obtain ⟨hP1, hK1, hD1⟩ := hB
        replace hP1 := va_P.he ht hP1
        obtain ⟨hP, hD⟩ := va_join (wr := (wz_105 h0 tr (sg sa h0_sign) h0_place j12_h0_size j12_h0_value ss sp szs sv h0_length h0_at)) (w1 := [(tr, .inr (1, [.ref tx, .int tr_length])), (tx, .inl (ctx, 2000, .inl gtx))]) hP hD [1, 2] [0] rfl rfl (by decide) (by decide) hk1 hFc hP1 hD1
        clear hPc hDc hKc hFc hz1 hk1 hP1 hK1 hD1
        rename Heap => H
        have hP : va_P (dC, dI) cls (wz_104 h0 tr (sg sa h0_sign) h0_place j12_h0_size j12_h0_value ss sp szs sv h0_length h0_at tr tx tr_length tx ctx gtx) H := hP
        have hD : va_D A (wz_104 h0 tr (sg sa h0_sign) h0_place j12_h0_size j12_h0_value ss sp szs sv h0_length h0_at tr tx tr_length tx ctx gtx) := hD
        refine lv_bipush (v := 48) hx hb d_SC_readInteger_69 (by decide) ?_
        refine lv_isub hx hb d_SC_readInteger_71 ?_
        refine lv_topi (fun x12 ex12 => ?_)
        have tx12 : x12.toInt = r11.toInt - 48 := by have z := i32_sub ex12 (by (first | (apply Int.le_antisymm <;> omega) | omega)) (by (first | (apply Int.le_antisymm <;> omega) | omega)); first | exact z | (first | (apply Int.le_antisymm <;> omega) | omega)
        refine lv_istore_n (lv' := [(2, .int x12), (0, .ref h0), (1, .int j12_l1)]) hx hb d_SC_readInteger_72 rfl hl (by decide) rfl (fun ls hl => ?_)
        have dg2 : 0 ≤ x12.toInt ∧ x12.toInt ≤ 9 := by
          have ez : r11 = r8 := by rw [er11, er8]; congr 1; exact Int32.toInt_inj.mp (by (first | (apply Int.le_antisymm <;> omega) | omega))
          rw [← ez] at dg
          (first | (apply Int.le_antisymm <;> omega) | omega)
        refine lv_iload_n hx hb d_SC_readInteger_73 rfl (lv_at hl 2 rfl) ?_
        refine w_cut (pc2 := 100) (σ := Int32) (fun u H locs ls => match u with | j100_s0 => (j100_s0 = 0 ∨ j100_s0 = 1) ∧ (j100_s0.toInt = 0 → j12_l1.toInt = 0 ∧ j12_h0_value.toInt * 10 + x12.toInt ≤ 9223372036854775807) ∧ va_P (dC, dI) cls (wz_104 h0 tr (sg sa h0_sign) h0_place j12_h0_size j12_h0_value ss sp szs sv h0_length h0_at tr tx tr_length tx ctx gtx) H ∧ va_D A (wz_104 h0 tr (sg sa h0_sign) h0_place j12_h0_size j12_h0_value ss sp szs sv h0_length h0_at tr tx tr_length tx ctx gtx) ∧ va_S A s.heap H locs ∧ lv_has ls 3 [(0, .ref h0), (2, .int x12)]) (fun u => match u with | j100_s0 => [.int j100_s0]) ?_ (fun jn100 => ?_)
        · intro u H locs ls hI
          obtain ⟨j100_s0, rfl⟩ : ∃ z, z = u := ⟨_, rfl⟩
          obtain ⟨b_j100_s0, y100, hP, hD, hS, hl⟩ := hI
          have tj100_s0 := b01 b_j100_s0
          refine lv_istore_n (lv' := [(1, .int j100_s0), (0, .ref h0), (2, .int x12)]) hx hb d_SC_readInteger_100 rfl hl (by decide) rfl (fun ls hl => ?_)
          refine lv_aload_n hx hb d_SC_readInteger_101 rfl (lv_at hl 1 rfl) ?_
          refine lv_aload_n hx hb d_SC_readInteger_102 rfl (lv_at hl 1 rfl) ?_
          refine va_get (D := (dC, dI)) (ci := 8) (v := .long j12_h0_value) (C := R_SC) (T := F_SC) (N := 11) hx hb hts i_SC hown hK hP 0 rfl rfl 4 (by decide) (hts _ kF_SC_70) (fun _ h9 => h9) rfl d_SC_readInteger_103 ?_
          refine lv_ldc2 hx hb hown (hts _ kL_SC_121) d_SC_readInteger_106 ?_
          refine lv_topl (fun x13 ex13 => ?_)
          have tx13 : x13.toInt = 10 := by rw [ex13]; decide
          refine lv_lmul hx hb d_SC_readInteger_109 ?_
          refine lv_topl (fun x14 ex14 => ?_)
          refine lv_iload_n hx hb d_SC_readInteger_110 rfl (lv_at hl 2 rfl) ?_
          refine lv_i2l hx hb d_SC_readInteger_111 rfl ?_
          refine lv_topl (fun x15 ex15 => ?_)
          have tx15 := i2l_t ex15
          refine lv_ladd hx hb d_SC_readInteger_112 ?_
          refine lv_topl (fun x16 ex16 => ?_)
          refine va_put (D := (dC, dI)) (ci := 8) (v := .long x16) (ty := .long) (C := R_SC) (T := F_SC) (N := 11) hx hb hts i_SC t_SC t_SC_ok n_SC hown hK hP hD hS 0 rfl rfl 4 (by decide) (hts _ kF_SC_70) (fun _ h9 => h9) rfl (by decide +kernel) rfl rfl (Nat.le_of_ble_eq_true rfl) d_SC_readInteger_113 (fun H locs hP hD hS => ?_)
          refine lv_aload_n hx hb d_SC_readInteger_116 rfl (lv_at hl 1 rfl) ?_
          refine lv_dup hx hb d_SC_readInteger_117 rfl ?_
          refine va_get (D := (dC, dI)) (ci := 8) (v := .int j12_h0_size) (C := R_SC) (T := F_SC) (N := 11) hx hb hts i_SC hown hK hP 0 rfl rfl 3 (by decide) (hts _ kF_SC_43) (fun _ h9 => h9) rfl d_SC_readInteger_118 ?_
          refine lv_iconst (v := 1) hx hb d_SC_readInteger_121 (by decide) ?_
          refine lv_iadd hx hb d_SC_readInteger_122 ?_
          refine lv_topi (fun x17 ex17 => ?_)
          have tx17 : x17.toInt = j12_h0_size.toInt + 1 := by have z := i32_add ex17 (by (first | (apply Int.le_antisymm <;> omega) | omega)) (by (first | (apply Int.le_antisymm <;> omega) | omega)); first | exact z | (first | (apply Int.le_antisymm <;> omega) | omega)
          refine va_put (D := (dC, dI)) (ci := 8) (v := .int x17) (ty := .int) (C := R_SC) (T := F_SC) (N := 11) hx hb hts i_SC t_SC t_SC_ok n_SC hown hK hP hD hS 0 rfl rfl 3 (by decide) (hts _ kF_SC_43) (fun _ h9 => h9) rfl (by decide +kernel) rfl rfl (Nat.le_of_ble_eq_true rfl) d_SC_readInteger_123 (fun H locs hP hD hS => ?_)
          refine lv_goto (tgt := 12) hx hb d_SC_readInteger_126 (by decide) ?_
          have w2 : j100_s0.toInt = 0 → 0 ≤ x16.toInt ∧ x16.toInt < pt x17.toInt := fun z => by
            obtain ⟨z1, z2⟩ := y100 z
            obtain ⟨z3, z4⟩ := v2 z1
            have m1 := i64_mul ex14 (by rw [tx13]; (first | (apply Int.le_antisymm <;> omega) | omega)) (by rw [tx13]; (first | (apply Int.le_antisymm <;> omega) | omega))
            rw [tx13] at m1
            have m2 := i64_add ex16 (by (first | (apply Int.le_antisymm <;> omega) | omega)) (by (first | (apply Int.le_antisymm <;> omega) | omega))
            rw [tx17, pt_succ v1.1]
            (first | (apply Int.le_antisymm <;> omega) | omega)
          exact ih12 (j100_s0, x17, x16) _ _ _ (by show (tr_length.toInt - x17.toInt).toNat < N12; (first | (apply Int.le_antisymm <;> omega) | omega)) ⟨b_j100_s0, by (try dsimp only) <;> (first | (apply Int.le_antisymm <;> omega) | omega), by (try dsimp only) <;> (first | (apply Int.le_antisymm <;> omega) | omega), w2, hP, hD, hS, lv_sub hl [1, 0] rfl⟩
        · skip
          refine lv_if_ne (tgt := 95) hx hb d_SC_readInteger_74 (by decide) (fun c74 => ?_) (fun c74 => ?_)
          · have q74 := neI c74
            refine lv_iconst (v := 1) hx hb d_SC_readInteger_95 (by decide) ?_
            refine lv_goto (tgt := 100) hx hb d_SC_readInteger_96 (by decide) ?_
            exact jn100 1 _ _ _ ⟨Or.inr rfl, by (try dsimp only) <;> (first | (apply Int.le_antisymm <;> omega) | omega), hP, hD, hS, lv_sub hl [1, 0] rfl⟩
          · have q74 := eqI c74
            refine lv_aload_n hx hb d_SC_readInteger_77 rfl (lv_at hl 1 rfl) ?_
            refine va_get (D := (dC, dI)) (ci := 8) (v := .long j12_h0_value) (C := R_SC) (T := F_SC) (N := 11) hx hb hts i_SC hown hK hP 0 rfl rfl 4 (by decide) (hts _ kF_SC_70) (fun _ h9 => h9) rfl d_SC_readInteger_78 ?_
            refine lv_ldc2 hx hb hown (hts _ kL_SC_119) d_SC_readInteger_81 ?_
            refine lv_topl (fun x18 ex18 => ?_)
            have tx18 : x18.toInt = 9223372036854775807 := by rw [ex18]; decide
            refine lv_iload_n hx hb d_SC_readInteger_84 rfl (lv_at hl 0 rfl) ?_
            refine lv_i2l hx hb d_SC_readInteger_85 rfl ?_
            refine lv_topl (fun x19 ex19 => ?_)
            have tx19 := i2l_t ex19
            refine lv_lsub hx hb d_SC_readInteger_86 ?_
            refine lv_topl (fun x20 ex20 => ?_)
            have tx20 : x20.toInt = x18.toInt - x19.toInt := by have z := i64_sub ex20 (by (first | (apply Int.le_antisymm <;> omega) | omega)) (by (first | (apply Int.le_antisymm <;> omega) | omega)); first | exact z | (first | (apply Int.le_antisymm <;> omega) | omega)
            refine lv_ldc2 hx hb hown (hts _ kL_SC_121) d_SC_readInteger_87 ?_
            refine lv_topl (fun x21 ex21 => ?_)
            have tx21 : x21.toInt = 10 := by rw [ex21]; decide
            refine lv_ldiv hx hb d_SC_readInteger_90 (fun z => by rw [z] at tx21; exact absurd tx21 (by decide)) ?_
            refine lv_topl (fun x22 ex22 => ?_)
            have tx22 := i64_div10 ex22 tx21 (by (first | (apply Int.le_antisymm <;> omega) | omega))
            refine W.lcmp hx hb d_SC_readInteger_91 ?_
            refine lv_topi (fun x23 ex23 => ?_)
            have tx23 := lgc ex23
            refine lv_if_le (tgt := 99) hx hb d_SC_readInteger_92 (by decide) (fun c92 => ?_) (fun c92 => ?_)
            · have q92 := leI c92
              refine lv_iconst (v := 0) hx hb d_SC_readInteger_99 (by decide) ?_
              exact jn100 0 _ _ _ ⟨Or.inl rfl, by (try dsimp only) <;> (first | (apply Int.le_antisymm <;> omega) | omega), hP, hD, hS, lv_sub hl [1, 0] rfl⟩
            · have q92 := nleI c92
              refine lv_iconst (v := 1) hx hb d_SC_readInteger_95 (by decide) ?_
              refine lv_goto (tgt := 100) hx hb d_SC_readInteger_96 (by decide) ?_
              exact jn100 1 _ _ _ ⟨Or.inr rfl, by (try dsimp only) <;> (first | (apply Int.le_antisymm <;> omega) | omega), hP, hD, hS, lv_sub hl [1, 0] rfl⟩
end q_39
section q_40
/-! Scanner: a sign, all signs -/
theorem tkT_n {k : Nat} {z v : Int} (h1 : 1 ≤ z) (h : k = 1 ∨ (k = 2 ∧ z ≤ 20) ∨ (5 ≤ k ∧ z = (sgB.getD k []).length)) : tkT k z v :=
  ⟨fun _ _ => h1, fun e => by (first | (apply Int.le_antisymm <;> omega) | omega), fun e => by (first | (apply Int.le_antisymm <;> omega) | omega), fun e => by (first | (apply Int.le_antisymm <;> omega) | omega), fun e => by (first | (apply Int.le_antisymm <;> omega) | omega)⟩
theorem tkT_i {k : Nat} {z v : Int} (h : k = 1 ∨ (k = 3 ∧ 1 ≤ z ∧ 0 ≤ v ∧ v < pt z ∧ v ≤ 2147483647) ∨ (k = 4 ∧ 2 ≤ z ∧ 0 ≤ v ∧ v < pt (z - 1))) : tkT k z v :=
  ⟨fun _ _ => by (first | (apply Int.le_antisymm <;> omega) | omega), fun e => by (first | (apply Int.le_antisymm <;> omega) | omega), fun e => by (first | (apply Int.le_antisymm <;> omega) | omega), fun e => by (first | (apply Int.le_antisymm <;> omega) | omega), fun e => by (first | (apply Int.le_antisymm <;> omega) | omega)⟩
theorem tkT_m {k : Nat} {z v : Int} (hk : k < 55) (h : (k = 1 ∧ z = 0) ∨ (5 ≤ k ∧ z = (sgB.getD k []).length)) : tkT k z v := by
  have q := sgB_len k hk
  exact ⟨fun _ _ => by (first | (apply Int.le_antisymm <;> omega) | omega), fun e => by (first | (apply Int.le_antisymm <;> omega) | omega), fun e => by (first | (apply Int.le_antisymm <;> omega) | omega), fun e => by (first | (apply Int.le_antisymm <;> omega) | omega), fun e => by (first | (apply Int.le_antisymm <;> omega) | omega)⟩
theorem tkT_0 {z v : Int} : tkT 0 z v := ⟨fun e => absurd rfl e, fun e => by (first | (apply Int.le_antisymm <;> omega) | omega), fun e => by (first | (apply Int.le_antisymm <;> omega) | omega), fun e => by (first | (apply Int.le_antisymm <;> omega) | omega), fun e => by (first | (apply Int.le_antisymm <;> omega) | omega)⟩
abbrev b_SC_readSign : ByteArray := prog_10_method_7_code
def y_SC_readSign : MethodName := ⟨R_SC, "readSign", "()V"⟩
abbrev w_SC_readSign : List Cond := .code y_SC_readSign b_SC_readSign 2 none :: lw_g
theorem kC_SC_readSign : Cond.code y_SC_readSign b_SC_readSign 2 none ∈ lw_g := in_c4 70 rfl rfl
theorem d_SC_readSign_0 : decode b_SC_readSign 0 = .ok (.aload_n 0, 1) := bz_c42 (by decide +kernel)
theorem d_SC_readSign_1 : decode b_SC_readSign 1 = .ok (.getfield 35, 3) := bz_c180 (by decide +kernel)
theorem d_SC_readSign_4 : decode b_SC_readSign 4 = .ok (.aload_n 0, 1) := bz_c42 (by decide +kernel)
theorem d_SC_readSign_5 : decode b_SC_readSign 5 = .ok (.getfield 39, 3) := bz_c180 (by decide +kernel)
theorem d_SC_readSign_8 : decode b_SC_readSign 8 = .ok (.invokevirtual 80, 3) := bz_c182 (by decide +kernel)
theorem d_SC_readSign_11 : decode b_SC_readSign 11 = .ok (.istore_n 1, 1) := bz_c60 (by decide +kernel)
theorem d_SC_readSign_12 : decode b_SC_readSign 12 = .ok (.iload_n 1, 1) := bz_c27 (by decide +kernel)
theorem d_SC_readSign_13 : decode b_SC_readSign 13 = .ok (.ifCond .ge 18, 3) := bz_c156 (by decide +kernel)
theorem d_SC_readSign_16 : decode b_SC_readSign 16 = .ok (.aload_n 0, 1) := bz_c42 (by decide +kernel)
theorem d_SC_readSign_17 : decode b_SC_readSign 17 = .ok (.getstatic 9, 3) := bz_c178 (by decide +kernel)
theorem d_SC_readSign_20 : decode b_SC_readSign 20 = .ok (.putfield 15, 3) := bz_c181 (by decide +kernel)
theorem d_SC_readSign_23 : decode b_SC_readSign 23 = .ok (.aload_n 0, 1) := bz_c42 (by decide +kernel)
theorem d_SC_readSign_24 : decode b_SC_readSign 24 = .ok (.iconst 0, 1) := bz_c3 (by decide +kernel)
theorem d_SC_readSign_25 : decode b_SC_readSign 25 = .ok (.putfield 43, 3) := bz_c181 (by decide +kernel)
theorem d_SC_readSign_28 : decode b_SC_readSign 28 = .ok (.goto 35, 3) := bz_c167 (by decide +kernel)
theorem d_SC_readSign_31 : decode b_SC_readSign 31 = .ok (.iload_n 1, 1) := bz_c27 (by decide +kernel)
theorem d_SC_readSign_32 : decode b_SC_readSign 32 = .ok (.invokestatic 83, 3) := bz_c184 (by decide +kernel)
theorem d_SC_readSign_35 : decode b_SC_readSign 35 = .ok (.ifCond .eq 10, 3) := bz_c153 (by decide +kernel)
theorem d_SC_readSign_38 : decode b_SC_readSign 38 = .ok (.aload_n 0, 1) := bz_c42 (by decide +kernel)
theorem d_SC_readSign_39 : decode b_SC_readSign 39 = .ok (.invokevirtual 87, 3) := bz_c182 (by decide +kernel)
theorem d_SC_readSign_42 : decode b_SC_readSign 42 = .ok (.goto 21, 3) := bz_c167 (by decide +kernel)
theorem d_SC_readSign_45 : decode b_SC_readSign 45 = .ok (.iload_n 1, 1) := bz_c27 (by decide +kernel)
theorem d_SC_readSign_46 : decode b_SC_readSign 46 = .ok (.invokestatic 90, 3) := bz_c184 (by decide +kernel)
theorem d_SC_readSign_49 : decode b_SC_readSign 49 = .ok (.ifCond .eq 10, 3) := bz_c153 (by decide +kernel)
theorem d_SC_readSign_52 : decode b_SC_readSign 52 = .ok (.aload_n 0, 1) := bz_c42 (by decide +kernel)
theorem d_SC_readSign_53 : decode b_SC_readSign 53 = .ok (.invokevirtual 93, 3) := bz_c182 (by decide +kernel)
theorem d_SC_readSign_56 : decode b_SC_readSign 56 = .ok (.goto 7, 3) := bz_c167 (by decide +kernel)
theorem d_SC_readSign_59 : decode b_SC_readSign 59 = .ok (.aload_n 0, 1) := bz_c42 (by decide +kernel)
theorem d_SC_readSign_60 : decode b_SC_readSign 60 = .ok (.invokevirtual 96, 3) := bz_c182 (by decide +kernel)
theorem d_SC_readSign_63 : decode b_SC_readSign 63 = .ok (.return_, 1) := bz_c177 (by decide +kernel)
theorem kM_SC_87 : Cond.methodLink R_SC 87 y_SC_readName ∈ lw_g := in_c4 74 rfl rfl
theorem kV_SC_readName : Cond.instanceMethod y_SC_readName ∈ lw_g := in_c4 76 rfl rfl
theorem kS_SC_readName : Cond.selects R_SC y_SC_readName y_SC_readName ∈ lw_g := in_s 4 (by decide +kernel) rfl
theorem kM_SC_93 : Cond.methodLink R_SC 93 y_SC_readInteger ∈ lw_g := in_c4 140 rfl rfl
theorem kV_SC_readInteger : Cond.instanceMethod y_SC_readInteger ∈ lw_g := in_c4 142 rfl rfl
theorem kS_SC_readInteger : Cond.selects R_SC y_SC_readInteger y_SC_readInteger ∈ lw_g := in_s 5 (by decide +kernel) rfl
theorem kM_SC_96 : Cond.methodLink R_SC 96 y_SC_readMark ∈ lw_g := in_c4 151 rfl rfl
theorem kV_SC_readMark : Cond.instanceMethod y_SC_readMark ∈ lw_g := in_c4 153 rfl rfl
theorem kS_SC_readMark : Cond.selects R_SC y_SC_readMark y_SC_readMark ∈ lw_g := in_s 6 (by decide +kernel) rfl
theorem kF_SC_9 : Cond.fieldLink R_SC 9 "WaferForge$Sign" "END" "LWaferForge$Sign;" ∈ lw_g := in_c2 20 rfl rfl
abbrev at_SC_readSign (dC : Nat → ClassId) (dI : Nat → Nat → Nat) (sa : Nat → Nat) (h0 tr ss sp szs sv tx : Nat) (ctx : ClassId) (h0_place : Int32) (h0_length : Int32) (h0_at : Int32) (tr_length : Int32) (gtx : Nat → Int32) (A : Nat → Prop) (u : Nat × Int32 × Int64) (t : State) : Prop := match u with | (h0_sign, h0_size, h0_value) => va_P (dC, dI) cls (wz_104 h0 tr (sg sa h0_sign) h0_place h0_size h0_value ss sp szs sv h0_length h0_at tr tx tr_length tx ctx gtx) t.heap ∧ va_K (dC, dI) cls [(ctx, .byte)] t ∧ va_D A (wz_104 h0 tr (sg sa h0_sign) h0_place h0_size h0_value ss sp szs sv h0_length h0_at tr tx tr_length tx ctx gtx)
set_option maxHeartbeats 4000000 in
set_option maxRecDepth 100000 in
theorem c_SC_readSign (l : Launch) (dC : Nat → ClassId) (dI : Nat → Nat → Nat) (sz : Nat) (sa : Nat → Nat) (h0 tr ss sp szs sv tx : Nat) (ctx : ClassId) (h0_sign : Nat) (h0_place : Int32) (h0_size : Int32) (h0_value : Int64) (h0_length : Int32) (h0_at : Int32) (tr_length : Int32) (gtx : Nat → Int32)  (b_h0_sign : h0_sign < 55) (b_h0_place : 0 ≤ h0_place.toInt ∧ h0_place.toInt ≤ 2000) (b_h0_size : 0 ≤ h0_size.toInt ∧ h0_size.toInt ≤ 2000) (b_tr_length : 0 ≤ tr_length.toInt ∧ tr_length.toInt ≤ 2000)   (hpl : h0_place.toInt ≤ tr_length.toInt) : Met l y_SC_readSign w_SC_readSign ({ frames := 6, cells := 0, slots := 0, locals := 129 }) (va_Pc [.ref h0] (fun U => U.heap.size = sz ∧ va_P (dC, dI) cls (wz_104 h0 tr (sg sa h0_sign) h0_place h0_size h0_value ss sp szs sv h0_length h0_at tr tx tr_length tx ctx gtx) U.heap ∧ va_K (dC, dI) cls [(ctx, .byte)] U ∧ va_D (fun _ => True) (wz_104 h0 tr (sg sa h0_sign) h0_place h0_size h0_value ss sp szs sv h0_length h0_at tr tx tr_length tx ctx gtx) ∧ sw sa (va_A (wz_104 h0 tr (sg sa h0_sign) h0_place h0_size h0_value ss sp szs sv h0_length h0_at tr tx tr_length tx ctx gtx) sz) U U.heap)) (va_Qv (fun (u : Nat × Int32 × Int64) => match u with | (h0_sign2, h0_size2, h0_value2) => (h0_sign2 < 55) ∧ (0 ≤ h0_size2.toInt ∧ h0_size2.toInt ≤ 2000) ∧ ((h0_place.toInt + h0_size2.toInt ≤ tr_length.toInt) ∧ (tkT h0_sign2 h0_size2.toInt h0_value2.toInt))) (at_SC_readSign dC dI sa h0 tr ss sp szs sv tx ctx h0_place h0_length h0_at tr_length gtx (va_A (wz_104 h0 tr (sg sa h0_sign) h0_place h0_size h0_value ss sp szs sv h0_length h0_at tr tx tr_length tx ctx gtx) sz)) (va_A (wz_104 h0 tr (sg sa h0_sign) h0_place h0_size h0_value ss sp szs sv h0_length h0_at tr tx tr_length tx ctx gtx) sz)) 0 0 (va_A (wz_104 h0 tr (sg sa h0_sign) h0_place h0_size h0_value ss sp szs sv h0_length h0_at tr tx tr_length tx ctx gtx) sz) := by
  refine Met.ofW (cc := b_SC_readSign) (maxL := 2) (ret := none) (by decide) rfl ?_
  intro p e s m args below meth c s₁ B hml hv
  obtain ⟨rfl, hsz, hP, hK, hD0, hSW⟩ := hv
  have hx := B.exec
  have hb := B.bytes
  have hr := B.returns
  have hts0 := atoms_spec (ws := w_SC_readSign) B.pre
  have hts : ∀ w ∈ lw_g, w.before _ s = true := fun w h => hts0 w (List.mem_cons_of_mem _ h)
  have hown : s.vm.findClass R_SC = some m.cls := findClass_of_methodNamed B.named
  have hlocks := B.notSynchronized
  clear hts0
  subst hsz
  have hD := hD0.self (sz := s.heap.size)
  generalize hAe : va_A (wz_104 h0 tr (sg sa h0_sign) h0_place h0_size h0_value ss sp szs sv h0_length h0_at tr tx tr_length tx ctx gtx) s.heap.size = A at hD hSW ⊢
  have hA : ∀ q : Nat, s.heap.size ≤ q → A q := fun q h => by rw [← hAe]; exact Or.inr h
  clear hAe
  have hP : va_P (dC, dI) cls (wz_104 h0 tr (sg sa h0_sign) h0_place h0_size h0_value ss sp szs sv h0_length h0_at tr tx tr_length tx ctx gtx) s.heap := hP
  have hl := lv_entry ([.ref h0]) (n := 2) (Nat.le_of_ble_eq_true rfl)
  rw [lg_entry_eq]
  generalize (lg_sl ([.ref h0]) ++ List.replicate (2 - (lg_sl ([.ref h0])).length) Slot.unset).toArray = ls at hl ⊢
  have hl : lv_has ls 2 [(0, .ref h0)] := hl
  have k0 : (0 : Int32).toInt = 0 := by decide
  refine w_gen (A := A) hP (fun H locs hP hS => ?_)
  refine lv_aload_n hx hb d_SC_readSign_0 rfl (lv_at hl 0 rfl) ?_
  refine va_get (D := (dC, dI)) (ci := 8) (v := .ref tr) (C := R_SC) (T := F_SC) (N := 11) hx hb hts i_SC hown hK hP 0 rfl rfl 0 (by decide) (hts _ kF_SC_35) (fun _ h9 => h9) rfl d_SC_readSign_1 ?_
  refine lv_aload_n hx hb d_SC_readSign_4 rfl (lv_at hl 0 rfl) ?_
  refine va_get (D := (dC, dI)) (ci := 8) (v := .int h0_place) (C := R_SC) (T := F_SC) (N := 11) hx hb hts i_SC hown hK hP 0 rfl rfl 2 (by decide) (hts _ kF_SC_39) (fun _ h9 => h9) rfl d_SC_readSign_5 ?_
  have hPc := hP.sb (wq := [(tr, .inr (1, [.ref tx, .int tr_length])), (tx, .inl (ctx, 2000, .inl gtx))]) [1, 2] rfl
  have hDc := hD.sb (wq := [(tr, .inr (1, [.ref tx, .int tr_length])), (tx, .inl (ctx, 2000, .inl gtx))]) [1, 2] (by decide) rfl
  have hKc := hK.sb (tyq := [(ctx, .byte)]) [0] rfl
  have hFc := va_free (wc := [(tr, .inr (1, [.ref tx, .int tr_length])), (tx, .inl (ctx, 2000, .inl gtx))]) hD hS hA [1, 2] rfl
  refine va_calli (va_runV (As := [.int h0_place]) (rest := []) ⟨hx, hb, hml, hown, hts⟩ (c_BR_at l dC dI tr tx H.size ctx 2000 tr_length gtx (by (first | (apply Int.le_antisymm <;> omega) | omega)) (by (first | (apply Int.le_antisymm <;> omega) | omega)) (by (first | (apply Int.le_antisymm <;> omega) | omega)) h0_place) (cwV 1 hts (gV kM_SC_80 kV_BR_at kS_BR_at kI_BR kC_BR_at) rfl rfl rfl (by decide +kernel) ⟨Nat.le_of_ble_eq_true rfl, Nat.le_of_ble_eq_true rfl⟩) ⟨fun a U g mk z => by obtain ⟨z0, z1, zP, zK, zD⟩ := z; exact ⟨z0, z1, zP, va_K.moved (u := U) (U := U.calling g mk a) (Vm.Alike.refl U.vm) zK, zD⟩, va_recv hKc hPc (ci := 1) (q0 := 0) rfl rfl, fun U hU hW => ⟨rfl, by rw [hU], va_P.he hU.symm hPc, va_K.moved hW.alike hKc, hDc.weaken (fun _ _ _ _ => trivial)⟩⟩ rfl rfl hl.1 rfl (lv_room (Nat.le_of_ble_eq_true rfl)) d_SC_readSign_8 ⟨(Nat.zero_le _), (Nat.zero_le _)⟩) hS (fun q _ h => hFc q h) hFc (fun r1 u t H1 locs ht hvm hw hB hz1 hk1 hS => ?_)
  obtain ⟨er1, rfl⟩ := hw
  have tr1 := br_get_in gtx tr_length h0_place
  rw [← er1] at tr1
  obtain ⟨hP1, hK1, hD1⟩ := hB
  replace hP1 := va_P.he ht hP1
  obtain ⟨hP, hD⟩ := va_join (wr := (wz_105 h0 tr (sg sa h0_sign) h0_place h0_size h0_value ss sp szs sv h0_length h0_at)) (w1 := [(tr, .inr (1, [.ref tx, .int tr_length])), (tx, .inl (ctx, 2000, .inl gtx))]) hP hD [1, 2] [0] rfl rfl (by decide) (by decide) hk1 hFc hP1 hD1
  clear hPc hDc hKc hFc hz1 hk1 hP1 hK1 hD1
  rename Heap => H
  have hP : va_P (dC, dI) cls (wz_104 h0 tr (sg sa h0_sign) h0_place h0_size h0_value ss sp szs sv h0_length h0_at tr tx tr_length tx ctx gtx) H := hP
  have hD : va_D A (wz_104 h0 tr (sg sa h0_sign) h0_place h0_size h0_value ss sp szs sv h0_length h0_at tr tx tr_length tx ctx gtx) := hD
  refine lv_istore_n (lv' := [(1, .int r1), (0, .ref h0)]) hx hb d_SC_readSign_11 rfl hl (by decide) rfl (fun ls hl => ?_)
  refine lv_iload_n hx hb d_SC_readSign_12 rfl (lv_at hl 0 rfl) ?_
  refine lv_if_ge (tgt := 31) hx hb d_SC_readSign_13 (by decide) (fun c13 => ?_) (fun c13 => ?_)
  · have q13 := leI c13
    have z31 := br_get_lt er1 (by (first | (apply Int.le_antisymm <;> omega) | omega))
    refine lv_iload_n hx hb d_SC_readSign_31 rfl (lv_at hl 0 rfl) ?_
    have hPc := hP.sb (wq := []) [] rfl
    have hDc := hD.sb (wq := []) [] (by decide) rfl
    have hKc := hK.sb (tyq := []) [] rfl
    have hFc := va_free (wc := []) hD hS hA [] rfl
    refine va_calli (va_runS (As := [.int r1]) (rest := []) ⟨hx, hb, hml, hown, hts⟩ (c_SC_isLetter l dC dI H.size r1) ⟨callB_of 1 hts (gW kC_SC_isLetter) rfl rfl rfl (hts _ kI_SC) (hts _ kM_SC_83) (by decide +kernel) ⟨Nat.le_of_ble_eq_true rfl, Nat.le_of_ble_eq_true rfl⟩, hts _ kT_SC_isLetter⟩ ⟨fun a U g mk z => by obtain ⟨z0, z1, zP, zK, zD⟩ := z; exact ⟨z0, z1, zP, va_K.moved (u := U) (U := U.calling g mk a) (Vm.Alike.refl U.vm) zK, zD⟩, fun U hU hW => ⟨rfl, by rw [hU], va_P.he hU.symm hPc, va_K.moved hW.alike hKc, hDc.weaken (fun _ _ _ _ => trivial)⟩⟩ rfl rfl hl.1 rfl (lv_room (Nat.le_of_ble_eq_true rfl)) d_SC_readSign_32 ⟨(Nat.zero_le _), (Nat.zero_le _)⟩) hS (fun q _ h => hFc q h) hFc (fun r2 u t H1 locs ht hvm hw hB hz1 hk1 hS => ?_)
    try dsimp only at hw
    have br2 := hw
    try clear hw
    have tr2 := b01 br2
    obtain ⟨hP1, hK1, hD1⟩ := hB
    replace hP1 := va_P.he ht hP1
    obtain ⟨hP, hD⟩ := va_join (wr := (wz_104 h0 tr (sg sa h0_sign) h0_place h0_size h0_value ss sp szs sv h0_length h0_at tr tx tr_length tx ctx gtx)) (w1 := []) hP hD [] [0, 1, 2] rfl rfl (by decide) (by decide) hk1 hFc hP1 hD1
    clear hPc hDc hKc hFc hz1 hk1 hP1 hK1 hD1
    rename Heap => H
    have hP : va_P (dC, dI) cls (wz_104 h0 tr (sg sa h0_sign) h0_place h0_size h0_value ss sp szs sv h0_length h0_at tr tx tr_length tx ctx gtx) H := hP
    have hD : va_D A (wz_104 h0 tr (sg sa h0_sign) h0_place h0_size h0_value ss sp szs sv h0_length h0_at tr tx tr_length tx ctx gtx) := hD
    refine lv_if_eq (tgt := 45) hx hb d_SC_readSign_35 (by decide) (fun c35 => ?_) (fun c35 => ?_)
    · have q35 := eqI c35
      refine lv_iload_n hx hb d_SC_readSign_45 rfl (lv_at hl 0 rfl) ?_
      have hPc := hP.sb (wq := []) [] rfl
      have hDc := hD.sb (wq := []) [] (by decide) rfl
      have hKc := hK.sb (tyq := []) [] rfl
      have hFc := va_free (wc := []) hD hS hA [] rfl
      refine va_calli (va_runS (As := [.int r1]) (rest := []) ⟨hx, hb, hml, hown, hts⟩ (c_SC_isDigit l dC dI H.size r1) ⟨callB_of 1 hts (gW kC_SC_isDigit) rfl rfl rfl (hts _ kI_SC) (hts _ kM_SC_90) (by decide +kernel) ⟨Nat.le_of_ble_eq_true rfl, Nat.le_of_ble_eq_true rfl⟩, hts _ kT_SC_isDigit⟩ ⟨fun a U g mk z => by obtain ⟨z0, z1, zP, zK, zD⟩ := z; exact ⟨z0, z1, zP, va_K.moved (u := U) (U := U.calling g mk a) (Vm.Alike.refl U.vm) zK, zD⟩, fun U hU hW => ⟨rfl, by rw [hU], va_P.he hU.symm hPc, va_K.moved hW.alike hKc, hDc.weaken (fun _ _ _ _ => trivial)⟩⟩ rfl rfl hl.1 rfl (lv_room (Nat.le_of_ble_eq_true rfl)) d_SC_readSign_46 ⟨(Nat.zero_le _), (Nat.zero_le _)⟩) hS (fun q _ h => hFc q h) hFc (fun r3 u t H1 locs ht hvm hw hB hz1 hk1 hS => ?_)
      try dsimp only at hw
      obtain ⟨br3, xr3⟩ := hw
      try clear hw
      have tr3 := b01 br3
      obtain ⟨hP1, hK1, hD1⟩ := hB
      replace hP1 := va_P.he ht hP1
      obtain ⟨hP, hD⟩ := va_join (wr := (wz_104 h0 tr (sg sa h0_sign) h0_place h0_size h0_value ss sp szs sv h0_length h0_at tr tx tr_length tx ctx gtx)) (w1 := []) hP hD [] [0, 1, 2] rfl rfl (by decide) (by decide) hk1 hFc hP1 hD1
      clear hPc hDc hKc hFc hz1 hk1 hP1 hK1 hD1
      rename Heap => H
      have hP : va_P (dC, dI) cls (wz_104 h0 tr (sg sa h0_sign) h0_place h0_size h0_value ss sp szs sv h0_length h0_at tr tx tr_length tx ctx gtx) H := hP
      have hD : va_D A (wz_104 h0 tr (sg sa h0_sign) h0_place h0_size h0_value ss sp szs sv h0_length h0_at tr tx tr_length tx ctx gtx) := hD
      refine lv_if_eq (tgt := 59) hx hb d_SC_readSign_49 (by decide) (fun c49 => ?_) (fun c49 => ?_)
      · have q49 := eqI c49
        refine lv_aload_n hx hb d_SC_readSign_59 rfl (lv_at hl 1 rfl) ?_
        have hPc := hP.sb (wq := (wz_104 h0 tr (sg sa h0_sign) h0_place h0_size h0_value ss sp szs sv h0_length h0_at tr tx tr_length tx ctx gtx)) [0, 1, 2] rfl
        have hDc := hD.sb (wq := (wz_104 h0 tr (sg sa h0_sign) h0_place h0_size h0_value ss sp szs sv h0_length h0_at tr tx tr_length tx ctx gtx)) [0, 1, 2] (by decide) rfl
        have hKc := hK.sb (tyq := [(ctx, .byte)]) [0] rfl
        have hFc := va_free (wc := (wz_104 h0 tr (sg sa h0_sign) h0_place h0_size h0_value ss sp szs sv h0_length h0_at tr tx tr_length tx ctx gtx)) hD hS hA [0, 1, 2] rfl
        refine va_callv (va_runV (As := []) (rest := []) ⟨hx, hb, hml, hown, hts⟩ (c_SC_readMark l dC dI H.size sa h0 tr ss sp szs sv tx ctx h0_sign h0_place h0_size h0_value h0_length h0_at tr_length gtx (b_h0_sign) (b_h0_place) (b_h0_size) (b_tr_length) (by (first | (apply Int.le_antisymm <;> omega) | omega))) (cwV 0 hts (gV kM_SC_96 kV_SC_readMark kS_SC_readMark kI_SC kC_SC_readMark) rfl rfl rfl (by decide +kernel) ⟨Nat.le_of_ble_eq_true rfl, Nat.le_of_ble_eq_true rfl⟩) ⟨fun a U g mk z => by obtain ⟨z0, z1, zP, zK, zD, zS⟩ := z; exact ⟨z0, z1, zP, va_K.moved (u := U) (U := U.calling g mk a) (Vm.Alike.refl U.vm) zK, zD, sw.same (u := U) (U := U.calling g mk a) rfl zS⟩, va_recv hKc hPc (ci := 8) (q0 := 0) rfl rfl, fun U hU hW => ⟨rfl, by rw [hU], va_P.he hU.symm hPc, va_K.moved hW.alike hKc, hDc.weaken (fun _ _ _ _ => trivial), hSW.call hS hFc hW hU⟩⟩ rfl rfl hl.1 rfl (lv_room (Nat.le_of_ble_eq_true rfl)) d_SC_readSign_60 ⟨(Nat.zero_le _), (Nat.zero_le _)⟩) hS (fun q _ h => hFc q h) hFc (fun u t H1 locs ht hvm hw hB hz1 hk1 hS => ?_)
        obtain ⟨n5, n6⟩ := u
        try dsimp only at hw
        obtain ⟨bn5, bn6, xr4⟩ := hw
        try clear hw
        obtain ⟨hP1, hK1, hD1⟩ := hB
        replace hP1 := va_P.he ht hP1
        obtain ⟨hP, hD⟩ := va_join (wr := []) (w1 := (wz_104 h0 tr (sg sa n5) h0_place n6 h0_value ss sp szs sv h0_length h0_at tr tx tr_length tx ctx gtx)) hP hD [0, 1, 2] [] rfl rfl (by decide) (by decide) hk1 hFc hP1 hD1
        clear hPc hDc hKc hFc hz1 hk1 hP1 hK1 hD1
        rename Heap => H
        have hP : va_P (dC, dI) cls (wz_104 h0 tr (sg sa n5) h0_place n6 h0_value ss sp szs sv h0_length h0_at tr tx tr_length tx ctx gtx) H := hP
        have hD : va_D A (wz_104 h0 tr (sg sa n5) h0_place n6 h0_value ss sp szs sv h0_length h0_at tr tx tr_length tx ctx gtx) := hD
        have hP9 := hP.sb (wq := (wz_104 h0 tr (sg sa n5) h0_place n6 h0_value ss sp szs sv h0_length h0_at tr tx tr_length tx ctx gtx)) [0, 1, 2] rfl
        have hD9 := hD.sb (wq := (wz_104 h0 tr (sg sa n5) h0_place n6 h0_value ss sp szs sv h0_length h0_at tr tx tr_length tx ctx gtx)) [0, 1, 2] (by decide) rfl
        exact W.vret hx hb hr (fun t ht hW => ⟨⟨(n5, n6, h0_value), rfl, ⟨bn5, bn6, ⟨by (try dsimp only); (first | (apply Int.le_antisymm <;> omega) | omega), tkT_m bn5 (by rcases xr4 with z | z; exact Or.inl z; exact Or.inr ⟨z.1, z.2.1⟩)⟩⟩, va_P.he ht.symm hP9, va_K.moved hW.alike hK, hD9⟩, hS.F ht⟩) hS.2.2 d_SC_readSign_63
      · have q49 := neI c49
        have dg := xr3.1 (by rcases br3 with z7 | z7; (exfalso; rw [z7] at q49; exact q49 rfl); exact z7)
        rw [er1] at dg
        refine lv_aload_n hx hb d_SC_readSign_52 rfl (lv_at hl 1 rfl) ?_
        have hPc := hP.sb (wq := (wz_104 h0 tr (sg sa h0_sign) h0_place h0_size h0_value ss sp szs sv h0_length h0_at tr tx tr_length tx ctx gtx)) [0, 1, 2] rfl
        have hDc := hD.sb (wq := (wz_104 h0 tr (sg sa h0_sign) h0_place h0_size h0_value ss sp szs sv h0_length h0_at tr tx tr_length tx ctx gtx)) [0, 1, 2] (by decide) rfl
        have hKc := hK.sb (tyq := [(ctx, .byte)]) [0] rfl
        have hFc := va_free (wc := (wz_104 h0 tr (sg sa h0_sign) h0_place h0_size h0_value ss sp szs sv h0_length h0_at tr tx tr_length tx ctx gtx)) hD hS hA [0, 1, 2] rfl
        refine va_callv (va_runV (As := []) (rest := []) ⟨hx, hb, hml, hown, hts⟩ (c_SC_readInteger l dC dI H.size sa h0 tr ss sp szs sv tx ctx h0_sign h0_place h0_size h0_value h0_length h0_at tr_length gtx (b_h0_sign) (b_h0_place) (b_h0_size) (b_tr_length) (by (first | (apply Int.le_antisymm <;> omega) | omega)) (dg)) (cwV 0 hts (gV kM_SC_93 kV_SC_readInteger kS_SC_readInteger kI_SC kC_SC_readInteger) rfl rfl rfl (by decide +kernel) ⟨Nat.le_of_ble_eq_true rfl, Nat.le_of_ble_eq_true rfl⟩) ⟨fun a U g mk z => by obtain ⟨z0, z1, zP, zK, zD, zS⟩ := z; exact ⟨z0, z1, zP, va_K.moved (u := U) (U := U.calling g mk a) (Vm.Alike.refl U.vm) zK, zD, sw.same (u := U) (U := U.calling g mk a) rfl zS⟩, va_recv hKc hPc (ci := 8) (q0 := 0) rfl rfl, fun U hU hW => ⟨rfl, by rw [hU], va_P.he hU.symm hPc, va_K.moved hW.alike hKc, hDc.weaken (fun _ _ _ _ => trivial), hSW.call hS hFc hW hU⟩⟩ rfl rfl hl.1 rfl (lv_room (Nat.le_of_ble_eq_true rfl)) d_SC_readSign_53 ⟨(Nat.zero_le _), (Nat.zero_le _)⟩) hS (fun q _ h => hFc q h) hFc (fun u t H1 locs ht hvm hw hB hz1 hk1 hS => ?_)
        obtain ⟨n8, n9, n10⟩ := u
        try dsimp only at hw
        obtain ⟨bn8, bn9, xr7⟩ := hw
        try clear hw
        obtain ⟨hP1, hK1, hD1⟩ := hB
        replace hP1 := va_P.he ht hP1
        obtain ⟨hP, hD⟩ := va_join (wr := []) (w1 := (wz_104 h0 tr (sg sa n8) h0_place n9 n10 ss sp szs sv h0_length h0_at tr tx tr_length tx ctx gtx)) hP hD [0, 1, 2] [] rfl rfl (by decide) (by decide) hk1 hFc hP1 hD1
        clear hPc hDc hKc hFc hz1 hk1 hP1 hK1 hD1
        rename Heap => H
        have hP : va_P (dC, dI) cls (wz_104 h0 tr (sg sa n8) h0_place n9 n10 ss sp szs sv h0_length h0_at tr tx tr_length tx ctx gtx) H := hP
        have hD : va_D A (wz_104 h0 tr (sg sa n8) h0_place n9 n10 ss sp szs sv h0_length h0_at tr tx tr_length tx ctx gtx) := hD
        refine lv_goto (tgt := 63) hx hb d_SC_readSign_56 (by decide) ?_
        have hP9 := hP.sb (wq := (wz_104 h0 tr (sg sa n8) h0_place n9 n10 ss sp szs sv h0_length h0_at tr tx tr_length tx ctx gtx)) [0, 1, 2] rfl
        have hD9 := hD.sb (wq := (wz_104 h0 tr (sg sa n8) h0_place n9 n10 ss sp szs sv h0_length h0_at tr tx tr_length tx ctx gtx)) [0, 1, 2] (by decide) rfl
        exact W.vret hx hb hr (fun t ht hW => ⟨⟨(n8, n9, n10), rfl, ⟨bn8, bn9, ⟨xr7.1, tkT_i xr7.2⟩⟩, va_P.he ht.symm hP9, va_K.moved hW.alike hK, hD9⟩, hS.F ht⟩) hS.2.2 d_SC_readSign_63
    · have q35 := neI c35
      refine lv_aload_n hx hb d_SC_readSign_38 rfl (lv_at hl 1 rfl) ?_
      have hPc := hP.sb (wq := (wz_104 h0 tr (sg sa h0_sign) h0_place h0_size h0_value ss sp szs sv h0_length h0_at tr tx tr_length tx ctx gtx)) [0, 1, 2] rfl
      have hDc := hD.sb (wq := (wz_104 h0 tr (sg sa h0_sign) h0_place h0_size h0_value ss sp szs sv h0_length h0_at tr tx tr_length tx ctx gtx)) [0, 1, 2] (by decide) rfl
      have hKc := hK.sb (tyq := [(ctx, .byte)]) [0] rfl
      have hFc := va_free (wc := (wz_104 h0 tr (sg sa h0_sign) h0_place h0_size h0_value ss sp szs sv h0_length h0_at tr tx tr_length tx ctx gtx)) hD hS hA [0, 1, 2] rfl
      refine va_callv (va_runV (As := []) (rest := []) ⟨hx, hb, hml, hown, hts⟩ (c_SC_readName l dC dI H.size sa h0 tr ss sp szs sv tx ctx h0_sign h0_place h0_size h0_value h0_length h0_at tr_length gtx (b_h0_sign) (b_h0_place) (b_h0_size) (b_tr_length) (by (first | (apply Int.le_antisymm <;> omega) | omega))) (cwV 0 hts (gV kM_SC_87 kV_SC_readName kS_SC_readName kI_SC kC_SC_readName) rfl rfl rfl (by decide +kernel) ⟨Nat.le_of_ble_eq_true rfl, Nat.le_of_ble_eq_true rfl⟩) ⟨fun a U g mk z => by obtain ⟨z0, z1, zP, zK, zD, zS⟩ := z; exact ⟨z0, z1, zP, va_K.moved (u := U) (U := U.calling g mk a) (Vm.Alike.refl U.vm) zK, zD, sw.same (u := U) (U := U.calling g mk a) rfl zS⟩, va_recv hKc hPc (ci := 8) (q0 := 0) rfl rfl, fun U hU hW => ⟨rfl, by rw [hU], va_P.he hU.symm hPc, va_K.moved hW.alike hKc, hDc.weaken (fun _ _ _ _ => trivial), hSW.call hS hFc hW hU⟩⟩ rfl rfl hl.1 rfl (lv_room (Nat.le_of_ble_eq_true rfl)) d_SC_readSign_39 ⟨(Nat.zero_le _), (Nat.zero_le _)⟩) hS (fun q _ h => hFc q h) hFc (fun u t H1 locs ht hvm hw hB hz1 hk1 hS => ?_)
      obtain ⟨n12, n13⟩ := u
      try dsimp only at hw
      obtain ⟨bn12, bn13, xr11⟩ := hw
      try clear hw
      obtain ⟨hP1, hK1, hD1⟩ := hB
      replace hP1 := va_P.he ht hP1
      obtain ⟨hP, hD⟩ := va_join (wr := []) (w1 := (wz_104 h0 tr (sg sa n12) h0_place n13 h0_value ss sp szs sv h0_length h0_at tr tx tr_length tx ctx gtx)) hP hD [0, 1, 2] [] rfl rfl (by decide) (by decide) hk1 hFc hP1 hD1
      clear hPc hDc hKc hFc hz1 hk1 hP1 hK1 hD1
      rename Heap => H
      have hP : va_P (dC, dI) cls (wz_104 h0 tr (sg sa n12) h0_place n13 h0_value ss sp szs sv h0_length h0_at tr tx tr_length tx ctx gtx) H := hP
      have hD : va_D A (wz_104 h0 tr (sg sa n12) h0_place n13 h0_value ss sp szs sv h0_length h0_at tr tx tr_length tx ctx gtx) := hD
      refine lv_goto (tgt := 63) hx hb d_SC_readSign_42 (by decide) ?_
      have hP9 := hP.sb (wq := (wz_104 h0 tr (sg sa n12) h0_place n13 h0_value ss sp szs sv h0_length h0_at tr tx tr_length tx ctx gtx)) [0, 1, 2] rfl
      have hD9 := hD.sb (wq := (wz_104 h0 tr (sg sa n12) h0_place n13 h0_value ss sp szs sv h0_length h0_at tr tx tr_length tx ctx gtx)) [0, 1, 2] (by decide) rfl
      exact W.vret hx hb hr (fun t ht hW => ⟨⟨(n12, n13, h0_value), rfl, ⟨bn12, bn13, ⟨xr11.1.2, tkT_n xr11.1.1 xr11.2⟩⟩, va_P.he ht.symm hP9, va_K.moved hW.alike hK, hD9⟩, hS.F ht⟩) hS.2.2 d_SC_readSign_63
  · have q13 := nleI c13
    refine lv_aload_n hx hb d_SC_readSign_16 rfl (lv_at hl 1 rfl) ?_
    refine va_gets (C := "WaferForge$Sign") (n := "END") (d := "LWaferForge$Sign;") (v := .ref (sg sa 0)) hx hb ((hSW.2.2.2.1.1 0 (by decide)).1) hS hown (hts _ kF_SC_9) (fun _ h9 => h9) d_SC_readSign_17 ?_
    refine va_put (D := (dC, dI)) (ci := 8) (v := .ref (sg sa 0)) (ty := .object "WaferForge$Sign") (C := R_SC) (T := F_SC) (N := 11) hx hb hts i_SC t_SC t_SC_ok n_SC hown hK hP hD hS 0 rfl rfl 1 (by decide) (hts _ kF_SC_15) (fun _ h9 => h9) rfl (by decide +kernel) rfl rfl (Nat.le_of_ble_eq_true rfl) d_SC_readSign_20 (fun H locs hP hD hS => ?_)
    refine lv_aload_n hx hb d_SC_readSign_23 rfl (lv_at hl 1 rfl) ?_
    refine lv_iconst (v := 0) hx hb d_SC_readSign_24 (by decide) ?_
    refine va_put (D := (dC, dI)) (ci := 8) (v := .int 0) (ty := .int) (C := R_SC) (T := F_SC) (N := 11) hx hb hts i_SC t_SC t_SC_ok n_SC hown hK hP hD hS 0 rfl rfl 3 (by decide) (hts _ kF_SC_43) (fun _ h9 => h9) rfl (by decide +kernel) rfl rfl (Nat.le_of_ble_eq_true rfl) d_SC_readSign_25 (fun H locs hP hD hS => ?_)
    refine lv_goto (tgt := 63) hx hb d_SC_readSign_28 (by decide) ?_
    have hP9 := hP.sb (wq := (wz_104 h0 tr (sg sa 0) h0_place 0 h0_value ss sp szs sv h0_length h0_at tr tx tr_length tx ctx gtx)) [0, 1, 2] rfl
    have hD9 := hD.sb (wq := (wz_104 h0 tr (sg sa 0) h0_place 0 h0_value ss sp szs sv h0_length h0_at tr tx tr_length tx ctx gtx)) [0, 1, 2] (by decide) rfl
    exact W.vret hx hb hr (fun t ht hW => ⟨⟨(0, 0, h0_value), rfl, ⟨(by decide : 0 < 55), by (try dsimp only) <;> (first | (apply Int.le_antisymm <;> omega) | omega), ⟨by (try dsimp only); (first | (apply Int.le_antisymm <;> omega) | omega), tkT_0⟩⟩, va_P.he ht.symm hP9, va_K.moved hW.alike hK, hD9⟩, hS.F ht⟩) hS.2.2 d_SC_readSign_63
abbrev b_SC_keep : ByteArray := prog_10_method_5_code
def y_SC_keep : MethodName := ⟨R_SC, "keep", "()V"⟩
abbrev w_SC_keep : List Cond := .code y_SC_keep b_SC_keep 1 none :: lw_g
theorem kC_SC_keep : Cond.code y_SC_keep b_SC_keep 1 none ∈ lw_g := in_c4 158 rfl rfl
theorem d_SC_keep_0 : decode b_SC_keep 0 = .ok (.aload_n 0, 1) := bz_c42 (by decide +kernel)
theorem d_SC_keep_1 : decode b_SC_keep 1 = .ok (.getfield 49, 3) := bz_c180 (by decide +kernel)
theorem d_SC_keep_4 : decode b_SC_keep 4 = .ok (.aload_n 0, 1) := bz_c42 (by decide +kernel)
theorem d_SC_keep_5 : decode b_SC_keep 5 = .ok (.getfield 20, 3) := bz_c180 (by decide +kernel)
theorem d_SC_keep_8 : decode b_SC_keep 8 = .ok (.arraylength, 1) := bz_c190 (by decide +kernel)
theorem d_SC_keep_9 : decode b_SC_keep 9 = .ok (.if_icmp .ge 65, 3) := bz_c162 (by decide +kernel)
theorem d_SC_keep_12 : decode b_SC_keep 12 = .ok (.aload_n 0, 1) := bz_c42 (by decide +kernel)
theorem d_SC_keep_13 : decode b_SC_keep 13 = .ok (.getfield 20, 3) := bz_c180 (by decide +kernel)
theorem d_SC_keep_16 : decode b_SC_keep 16 = .ok (.aload_n 0, 1) := bz_c42 (by decide +kernel)
theorem d_SC_keep_17 : decode b_SC_keep 17 = .ok (.getfield 49, 3) := bz_c180 (by decide +kernel)
theorem d_SC_keep_20 : decode b_SC_keep 20 = .ok (.aload_n 0, 1) := bz_c42 (by decide +kernel)
theorem d_SC_keep_21 : decode b_SC_keep 21 = .ok (.getfield 15, 3) := bz_c180 (by decide +kernel)
theorem d_SC_keep_24 : decode b_SC_keep 24 = .ok (.aastore, 1) := bz_c83 (by decide +kernel)
theorem d_SC_keep_25 : decode b_SC_keep 25 = .ok (.aload_n 0, 1) := bz_c42 (by decide +kernel)
theorem d_SC_keep_26 : decode b_SC_keep 26 = .ok (.getfield 24, 3) := bz_c180 (by decide +kernel)
theorem d_SC_keep_29 : decode b_SC_keep 29 = .ok (.aload_n 0, 1) := bz_c42 (by decide +kernel)
theorem d_SC_keep_30 : decode b_SC_keep 30 = .ok (.getfield 49, 3) := bz_c180 (by decide +kernel)
theorem d_SC_keep_33 : decode b_SC_keep 33 = .ok (.aload_n 0, 1) := bz_c42 (by decide +kernel)
theorem d_SC_keep_34 : decode b_SC_keep 34 = .ok (.getfield 39, 3) := bz_c180 (by decide +kernel)
theorem d_SC_keep_37 : decode b_SC_keep 37 = .ok (.iastore, 1) := bz_c79 (by decide +kernel)
theorem d_SC_keep_38 : decode b_SC_keep 38 = .ok (.aload_n 0, 1) := bz_c42 (by decide +kernel)
theorem d_SC_keep_39 : decode b_SC_keep 39 = .ok (.getfield 28, 3) := bz_c180 (by decide +kernel)
theorem d_SC_keep_42 : decode b_SC_keep 42 = .ok (.aload_n 0, 1) := bz_c42 (by decide +kernel)
theorem d_SC_keep_43 : decode b_SC_keep 43 = .ok (.getfield 49, 3) := bz_c180 (by decide +kernel)
theorem d_SC_keep_46 : decode b_SC_keep 46 = .ok (.aload_n 0, 1) := bz_c42 (by decide +kernel)
theorem d_SC_keep_47 : decode b_SC_keep 47 = .ok (.getfield 43, 3) := bz_c180 (by decide +kernel)
theorem d_SC_keep_50 : decode b_SC_keep 50 = .ok (.iastore, 1) := bz_c79 (by decide +kernel)
theorem d_SC_keep_51 : decode b_SC_keep 51 = .ok (.aload_n 0, 1) := bz_c42 (by decide +kernel)
theorem d_SC_keep_52 : decode b_SC_keep 52 = .ok (.getfield 31, 3) := bz_c180 (by decide +kernel)
theorem d_SC_keep_55 : decode b_SC_keep 55 = .ok (.aload_n 0, 1) := bz_c42 (by decide +kernel)
theorem d_SC_keep_56 : decode b_SC_keep 56 = .ok (.getfield 49, 3) := bz_c180 (by decide +kernel)
theorem d_SC_keep_59 : decode b_SC_keep 59 = .ok (.aload_n 0, 1) := bz_c42 (by decide +kernel)
theorem d_SC_keep_60 : decode b_SC_keep 60 = .ok (.getfield 70, 3) := bz_c180 (by decide +kernel)
theorem d_SC_keep_63 : decode b_SC_keep 63 = .ok (.lastore, 1) := bz_c80 (by decide +kernel)
theorem d_SC_keep_64 : decode b_SC_keep 64 = .ok (.aload_n 0, 1) := bz_c42 (by decide +kernel)
theorem d_SC_keep_65 : decode b_SC_keep 65 = .ok (.dup, 1) := bz_c89 (by decide +kernel)
theorem d_SC_keep_66 : decode b_SC_keep 66 = .ok (.getfield 49, 3) := bz_c180 (by decide +kernel)
theorem d_SC_keep_69 : decode b_SC_keep 69 = .ok (.iconst 1, 1) := bz_c4 (by decide +kernel)
theorem d_SC_keep_70 : decode b_SC_keep 70 = .ok (.iadd, 1) := bz_c96 (by decide +kernel)
theorem d_SC_keep_71 : decode b_SC_keep 71 = .ok (.putfield 49, 3) := bz_c181 (by decide +kernel)
theorem d_SC_keep_74 : decode b_SC_keep 74 = .ok (.return_, 1) := bz_c177 (by decide +kernel)
theorem kF_SC_49 : Cond.fieldLink R_SC 49 "WaferForge$Scanner" "length" "I" ∈ lw_g := in_c2 38 rfl rfl
theorem kF_SC_20 : Cond.fieldLink R_SC 20 "WaferForge$Scanner" "signs" "[LWaferForge$Sign;" ∈ lw_g := in_c2 34 rfl rfl
theorem kF_SC_24 : Cond.fieldLink R_SC 24 "WaferForge$Scanner" "places" "[I" ∈ lw_g := in_c2 35 rfl rfl
theorem kF_SC_28 : Cond.fieldLink R_SC 28 "WaferForge$Scanner" "sizes" "[I" ∈ lw_g := in_c2 36 rfl rfl
theorem kF_SC_31 : Cond.fieldLink R_SC 31 "WaferForge$Scanner" "values" "[J" ∈ lw_g := in_c2 37 rfl rfl
abbrev at_SC_keep (dC : Nat → ClassId) (dI : Nat → Nat → Nat) (sa : Nat → Nat) (h0 tr ss sp szs sv : Nat) (css csp cszs csv : ClassId) (h0_sign : Nat) (h0_place : Int32) (h0_size : Int32) (h0_value : Int64) (h0_at : Int32) (A : Nat → Prop) (u : (Nat → Int32) × (Nat → Option Nat) × (Nat → Int64) × (Nat → Int32) × Int32) (t : State) : Prop := match u with | (gsp, gss, gsv, gszs, h0_length) => va_P (dC, dI) cls (wz_106 h0 tr (sg sa h0_sign) h0_place h0_size h0_value ss sp szs sv h0_length h0_at ss css (fun j => (gss j).map (sg sa)) sp csp gsp szs cszs gszs sv csv gsv) t.heap ∧ va_K (dC, dI) cls [(css, .object "WaferForge$Sign"), (csp, .int), (cszs, .int), (csv, .long)] t ∧ va_D A (wz_106 h0 tr (sg sa h0_sign) h0_place h0_size h0_value ss sp szs sv h0_length h0_at ss css (fun j => (gss j).map (sg sa)) sp csp gsp szs cszs gszs sv csv gsv)
set_option maxHeartbeats 4000000 in
set_option maxRecDepth 100000 in
theorem c_SC_keep (l : Launch) (dC : Nat → ClassId) (dI : Nat → Nat → Nat) (sz : Nat) (sa : Nat → Nat) (h0 tr ss sp szs sv : Nat) (css csp cszs csv : ClassId) (h0_sign : Nat) (h0_place : Int32) (h0_size : Int32) (h0_value : Int64) (h0_length : Int32) (h0_at : Int32) (gss : Nat → Option Nat) (gsp : Nat → Int32) (gszs : Nat → Int32) (gsv : Nat → Int64)  (b_h0_sign : h0_sign < 55) (b_h0_place : 0 ≤ h0_place.toInt ∧ h0_place.toInt ≤ 2000) (b_h0_size : 0 ≤ h0_size.toInt ∧ h0_size.toInt ≤ 2000) (b_h0_length : 0 ≤ h0_length.toInt ∧ h0_length.toInt ≤ 2001)   (hl : h0_length.toInt < 2001) : Met l y_SC_keep w_SC_keep ({ frames := 0, cells := 0, slots := 0, locals := 0 }) (va_Pc [.ref h0] (fun U => U.heap.size = sz ∧ va_P (dC, dI) cls (wz_106 h0 tr (sg sa h0_sign) h0_place h0_size h0_value ss sp szs sv h0_length h0_at ss css (fun j => (gss j).map (sg sa)) sp csp gsp szs cszs gszs sv csv gsv) U.heap ∧ va_K (dC, dI) cls [(css, .object "WaferForge$Sign"), (csp, .int), (cszs, .int), (csv, .long)] U ∧ va_D (fun _ => True) (wz_106 h0 tr (sg sa h0_sign) h0_place h0_size h0_value ss sp szs sv h0_length h0_at ss css (fun j => (gss j).map (sg sa)) sp csp gsp szs cszs gszs sv csv gsv) ∧ sw sa (va_A (wz_106 h0 tr (sg sa h0_sign) h0_place h0_size h0_value ss sp szs sv h0_length h0_at ss css (fun j => (gss j).map (sg sa)) sp csp gsp szs cszs gszs sv csv gsv) sz) U U.heap)) (va_Qv (fun (u : (Nat → Int32) × (Nat → Option Nat) × (Nat → Int64) × (Nat → Int32) × Int32) => match u with | (gsp2, gss2, gsv2, gszs2, h0_length2) => (0 ≤ h0_length2.toInt ∧ h0_length2.toInt ≤ 2001) ∧ (h0_length2.toInt = h0_length.toInt + 1 ∧ gss2 = va_up gss h0_length.toNatClampNeg (some h0_sign) ∧ gsp2 = upd gsp h0_length.toNatClampNeg h0_place ∧ gszs2 = upd gszs h0_length.toNatClampNeg h0_size ∧ gsv2 = vp_updL gsv h0_length.toNatClampNeg h0_value)) (at_SC_keep dC dI sa h0 tr ss sp szs sv css csp cszs csv h0_sign h0_place h0_size h0_value h0_at (va_A (wz_106 h0 tr (sg sa h0_sign) h0_place h0_size h0_value ss sp szs sv h0_length h0_at ss css (fun j => (gss j).map (sg sa)) sp csp gsp szs cszs gszs sv csv gsv) sz)) (va_A (wz_106 h0 tr (sg sa h0_sign) h0_place h0_size h0_value ss sp szs sv h0_length h0_at ss css (fun j => (gss j).map (sg sa)) sp csp gsp szs cszs gszs sv csv gsv) sz)) 0 0 (va_A (wz_106 h0 tr (sg sa h0_sign) h0_place h0_size h0_value ss sp szs sv h0_length h0_at ss css (fun j => (gss j).map (sg sa)) sp csp gsp szs cszs gszs sv csv gsv) sz) := by
  refine Met.ofW (cc := b_SC_keep) (maxL := 1) (ret := none) (by decide) rfl ?_
  intro p e s m args below meth c s₁ B hml hv
  obtain ⟨rfl, hsz, hP, hK, hD0, hSW⟩ := hv
  have hx := B.exec
  have hb := B.bytes
  have hr := B.returns
  have hts0 := atoms_spec (ws := w_SC_keep) B.pre
  have hts : ∀ w ∈ lw_g, w.before _ s = true := fun w h => hts0 w (List.mem_cons_of_mem _ h)
  have hown : s.vm.findClass R_SC = some m.cls := findClass_of_methodNamed B.named
  have hlocks := B.notSynchronized
  clear hts0
  subst hsz
  have hD := hD0.self (sz := s.heap.size)
  generalize hAe : va_A (wz_106 h0 tr (sg sa h0_sign) h0_place h0_size h0_value ss sp szs sv h0_length h0_at ss css (fun j => (gss j).map (sg sa)) sp csp gsp szs cszs gszs sv csv gsv) s.heap.size = A at hD hSW ⊢
  have hA : ∀ q : Nat, s.heap.size ≤ q → A q := fun q h => by rw [← hAe]; exact Or.inr h
  clear hAe
  have hP : va_P (dC, dI) cls (wz_106 h0 tr (sg sa h0_sign) h0_place h0_size h0_value ss sp szs sv h0_length h0_at ss css (fun j => (gss j).map (sg sa)) sp csp gsp szs cszs gszs sv csv gsv) s.heap := hP
  have hl := lv_entry ([.ref h0]) (n := 1) (Nat.le_of_ble_eq_true rfl)
  rw [lg_entry_eq]
  generalize (lg_sl ([.ref h0]) ++ List.replicate (1 - (lg_sl ([.ref h0])).length) Slot.unset).toArray = ls at hl ⊢
  have hl : lv_has ls 1 [(0, .ref h0)] := hl
  have k0 : (0 : Int32).toInt = 0 := by decide
  refine w_gen (A := A) hP (fun H locs hP hS => ?_)
  have k1 : (1 : Int32).toInt = 1 := by decide
  refine lv_aload_n hx hb d_SC_keep_0 rfl (lv_at hl 0 rfl) ?_
  refine va_get (D := (dC, dI)) (ci := 8) (v := .int h0_length) (C := R_SC) (T := F_SC) (N := 11) hx hb hts i_SC hown hK hP 0 rfl rfl 9 (by decide) (hts _ kF_SC_49) (fun _ h9 => h9) rfl d_SC_keep_1 ?_
  refine lv_aload_n hx hb d_SC_keep_4 rfl (lv_at hl 0 rfl) ?_
  refine va_get (D := (dC, dI)) (ci := 8) (v := .ref ss) (C := R_SC) (T := F_SC) (N := 11) hx hb hts i_SC hown hK hP 0 rfl rfl 5 (by decide) (hts _ kF_SC_20) (fun _ h9 => h9) rfl d_SC_keep_5 ?_
  refine va_alen hx hb hK hP 1 0 rfl rfl rfl d_SC_keep_8 ?_
  refine lv_topi (fun x1 ex1 => ?_)
  have tx1 : x1.toInt = 2001 := by rw [ex1]; exact i32_len (by (first | (apply Int.le_antisymm <;> omega) | omega))
  refine lv_icmp_ge (tgt := 74) hx hb d_SC_keep_9 (by decide) (fun c9 => absurd (leI c9) (by (first | (apply Int.le_antisymm <;> omega) | omega))) (fun c9 => ?_)
  have q9 := nleI c9
  refine lv_aload_n hx hb d_SC_keep_12 rfl (lv_at hl 0 rfl) ?_
  refine va_get (D := (dC, dI)) (ci := 8) (v := .ref ss) (C := R_SC) (T := F_SC) (N := 11) hx hb hts i_SC hown hK hP 0 rfl rfl 5 (by decide) (hts _ kF_SC_20) (fun _ h9 => h9) rfl d_SC_keep_13 ?_
  refine lv_aload_n hx hb d_SC_keep_16 rfl (lv_at hl 0 rfl) ?_
  refine va_get (D := (dC, dI)) (ci := 8) (v := .int h0_length) (C := R_SC) (T := F_SC) (N := 11) hx hb hts i_SC hown hK hP 0 rfl rfl 9 (by decide) (hts _ kF_SC_49) (fun _ h9 => h9) rfl d_SC_keep_17 ?_
  refine lv_aload_n hx hb d_SC_keep_20 rfl (lv_at hl 0 rfl) ?_
  refine va_get (D := (dC, dI)) (ci := 8) (v := .ref (sg sa h0_sign)) (C := R_SC) (T := F_SC) (N := 11) hx hb hts i_SC hown hK hP 0 rfl rfl 1 (by decide) (hts _ kF_SC_15) (fun _ h9 => h9) rfl d_SC_keep_21 ?_
  have g24 : vp_in h0_length 2001 := vp_in_iff.mpr ⟨by (first | (apply Int.le_antisymm <;> omega) | omega), by (first | (apply Int.le_antisymm <;> omega) | omega)⟩
  refine va_astqM hx hb hK hP hD hS 1 0 rfl rfl (sg_any hSW hS b_h0_sign) g24 d_SC_keep_24 (fun H locs hP hD hS => ?_)
  rw [sg_up] at hP hD
  have hP : va_P (dC, dI) cls (wz_106 h0 tr (sg sa h0_sign) h0_place h0_size h0_value ss sp szs sv h0_length h0_at ss css (fun j => (((va_up gss h0_length.toNatClampNeg (some h0_sign))) j).map (sg sa)) sp csp gsp szs cszs gszs sv csv gsv) H := hP
  have hD : va_D A (wz_106 h0 tr (sg sa h0_sign) h0_place h0_size h0_value ss sp szs sv h0_length h0_at ss css (fun j => (((va_up gss h0_length.toNatClampNeg (some h0_sign))) j).map (sg sa)) sp csp gsp szs cszs gszs sv csv gsv) := hD
  generalize ef2 : va_up gss h0_length.toNatClampNeg (some h0_sign) = f2 at hP hD
  refine lv_aload_n hx hb d_SC_keep_25 rfl (lv_at hl 0 rfl) ?_
  refine va_get (D := (dC, dI)) (ci := 8) (v := .ref sp) (C := R_SC) (T := F_SC) (N := 11) hx hb hts i_SC hown hK hP 0 rfl rfl 6 (by decide) (hts _ kF_SC_24) (fun _ h9 => h9) rfl d_SC_keep_26 ?_
  refine lv_aload_n hx hb d_SC_keep_29 rfl (lv_at hl 0 rfl) ?_
  refine va_get (D := (dC, dI)) (ci := 8) (v := .int h0_length) (C := R_SC) (T := F_SC) (N := 11) hx hb hts i_SC hown hK hP 0 rfl rfl 9 (by decide) (hts _ kF_SC_49) (fun _ h9 => h9) rfl d_SC_keep_30 ?_
  refine lv_aload_n hx hb d_SC_keep_33 rfl (lv_at hl 0 rfl) ?_
  refine va_get (D := (dC, dI)) (ci := 8) (v := .int h0_place) (C := R_SC) (T := F_SC) (N := 11) hx hb hts i_SC hown hK hP 0 rfl rfl 2 (by decide) (hts _ kF_SC_39) (fun _ h9 => h9) rfl d_SC_keep_34 ?_
  have g37 : vp_in h0_length 2001 := vp_in_iff.mpr ⟨by (first | (apply Int.le_antisymm <;> omega) | omega), by (first | (apply Int.le_antisymm <;> omega) | omega)⟩
  refine va_iast hx hb hK hP hD hS 2 1 rfl rfl g37 d_SC_keep_37 (fun H locs hP hD hS => ?_)
  generalize ef3 : upd gsp h0_length.toNatClampNeg h0_place = f3 at hP hD
  refine lv_aload_n hx hb d_SC_keep_38 rfl (lv_at hl 0 rfl) ?_
  refine va_get (D := (dC, dI)) (ci := 8) (v := .ref szs) (C := R_SC) (T := F_SC) (N := 11) hx hb hts i_SC hown hK hP 0 rfl rfl 7 (by decide) (hts _ kF_SC_28) (fun _ h9 => h9) rfl d_SC_keep_39 ?_
  refine lv_aload_n hx hb d_SC_keep_42 rfl (lv_at hl 0 rfl) ?_
  refine va_get (D := (dC, dI)) (ci := 8) (v := .int h0_length) (C := R_SC) (T := F_SC) (N := 11) hx hb hts i_SC hown hK hP 0 rfl rfl 9 (by decide) (hts _ kF_SC_49) (fun _ h9 => h9) rfl d_SC_keep_43 ?_
  refine lv_aload_n hx hb d_SC_keep_46 rfl (lv_at hl 0 rfl) ?_
  refine va_get (D := (dC, dI)) (ci := 8) (v := .int h0_size) (C := R_SC) (T := F_SC) (N := 11) hx hb hts i_SC hown hK hP 0 rfl rfl 3 (by decide) (hts _ kF_SC_43) (fun _ h9 => h9) rfl d_SC_keep_47 ?_
  have g50 : vp_in h0_length 2001 := vp_in_iff.mpr ⟨by (first | (apply Int.le_antisymm <;> omega) | omega), by (first | (apply Int.le_antisymm <;> omega) | omega)⟩
  refine va_iast hx hb hK hP hD hS 3 2 rfl rfl g50 d_SC_keep_50 (fun H locs hP hD hS => ?_)
  generalize ef4 : upd gszs h0_length.toNatClampNeg h0_size = f4 at hP hD
  refine lv_aload_n hx hb d_SC_keep_51 rfl (lv_at hl 0 rfl) ?_
  refine va_get (D := (dC, dI)) (ci := 8) (v := .ref sv) (C := R_SC) (T := F_SC) (N := 11) hx hb hts i_SC hown hK hP 0 rfl rfl 8 (by decide) (hts _ kF_SC_31) (fun _ h9 => h9) rfl d_SC_keep_52 ?_
  refine lv_aload_n hx hb d_SC_keep_55 rfl (lv_at hl 0 rfl) ?_
  refine va_get (D := (dC, dI)) (ci := 8) (v := .int h0_length) (C := R_SC) (T := F_SC) (N := 11) hx hb hts i_SC hown hK hP 0 rfl rfl 9 (by decide) (hts _ kF_SC_49) (fun _ h9 => h9) rfl d_SC_keep_56 ?_
  refine lv_aload_n hx hb d_SC_keep_59 rfl (lv_at hl 0 rfl) ?_
  refine va_get (D := (dC, dI)) (ci := 8) (v := .long h0_value) (C := R_SC) (T := F_SC) (N := 11) hx hb hts i_SC hown hK hP 0 rfl rfl 4 (by decide) (hts _ kF_SC_70) (fun _ h9 => h9) rfl d_SC_keep_60 ?_
  have g63 : vp_in h0_length 2001 := vp_in_iff.mpr ⟨by (first | (apply Int.le_antisymm <;> omega) | omega), by (first | (apply Int.le_antisymm <;> omega) | omega)⟩
  refine va_last hx hb hK hP hD hS 4 3 rfl rfl g63 d_SC_keep_63 (fun H locs hP hD hS => ?_)
  generalize ef5 : vp_updL gsv h0_length.toNatClampNeg h0_value = f5 at hP hD
  refine lv_aload_n hx hb d_SC_keep_64 rfl (lv_at hl 0 rfl) ?_
  refine lv_dup hx hb d_SC_keep_65 rfl ?_
  refine va_get (D := (dC, dI)) (ci := 8) (v := .int h0_length) (C := R_SC) (T := F_SC) (N := 11) hx hb hts i_SC hown hK hP 0 rfl rfl 9 (by decide) (hts _ kF_SC_49) (fun _ h9 => h9) rfl d_SC_keep_66 ?_
  refine lv_iconst (v := 1) hx hb d_SC_keep_69 (by decide) ?_
  refine lv_iadd hx hb d_SC_keep_70 ?_
  refine lv_topi (fun x6 ex6 => ?_)
  have tx6 : x6.toInt = h0_length.toInt + 1 := by have z := i32_add ex6 (by (first | (apply Int.le_antisymm <;> omega) | omega)) (by (first | (apply Int.le_antisymm <;> omega) | omega)); first | exact z | (first | (apply Int.le_antisymm <;> omega) | omega)
  refine va_put (D := (dC, dI)) (ci := 8) (v := .int x6) (ty := .int) (C := R_SC) (T := F_SC) (N := 11) hx hb hts i_SC t_SC t_SC_ok n_SC hown hK hP hD hS 0 rfl rfl 9 (by decide) (hts _ kF_SC_49) (fun _ h9 => h9) rfl (by decide +kernel) rfl rfl (Nat.le_of_ble_eq_true rfl) d_SC_keep_71 (fun H locs hP hD hS => ?_)
  have hP9 := hP.sb (wq := (wz_106 h0 tr (sg sa h0_sign) h0_place h0_size h0_value ss sp szs sv x6 h0_at ss css (fun j => (f2 j).map (sg sa)) sp csp f3 szs cszs f4 sv csv f5)) [0, 1, 2, 3, 4] rfl
  have hD9 := hD.sb (wq := (wz_106 h0 tr (sg sa h0_sign) h0_place h0_size h0_value ss sp szs sv x6 h0_at ss css (fun j => (f2 j).map (sg sa)) sp csp f3 szs cszs f4 sv csv f5)) [0, 1, 2, 3, 4] (by decide) rfl
  exact W.vret hx hb hr (fun t ht hW => ⟨⟨(f3, f2, f5, f4, x6), rfl, ⟨by (try dsimp only) <;> (first | (apply Int.le_antisymm <;> omega) | omega), ⟨by (try dsimp only); (first | (apply Int.le_antisymm <;> omega) | omega), by (try dsimp only) <;> exact ef2.symm, by (try dsimp only) <;> exact ef3.symm, by (try dsimp only) <;> exact ef4.symm, by (try dsimp only) <;> exact ef5.symm⟩⟩, va_P.he ht.symm hP9, va_K.moved hW.alike hK, hD9⟩, hS.F ht⟩) hS.2.2 d_SC_keep_74
abbrev b_SC_next : ByteArray := prog_10_method_3_code
def y_SC_next : MethodName := ⟨R_SC, "next", "()V"⟩
abbrev w_SC_next : List Cond := .code y_SC_next b_SC_next 1 none :: lw_g
theorem kC_SC_next : Cond.code y_SC_next b_SC_next 1 none ∈ lw_g := in_c4 162 rfl rfl
theorem d_SC_next_0 : decode b_SC_next 0 = .ok (.aload_n 0, 1) := bz_c42 (by decide +kernel)
theorem d_SC_next_1 : decode b_SC_next 1 = .ok (.getfield 64, 3) := bz_c180 (by decide +kernel)
theorem d_SC_next_4 : decode b_SC_next 4 = .ok (.iconst 1, 1) := bz_c4 (by decide +kernel)
theorem d_SC_next_5 : decode b_SC_next 5 = .ok (.iadd, 1) := bz_c96 (by decide +kernel)
theorem d_SC_next_6 : decode b_SC_next 6 = .ok (.aload_n 0, 1) := bz_c42 (by decide +kernel)
theorem d_SC_next_7 : decode b_SC_next 7 = .ok (.getfield 49, 3) := bz_c180 (by decide +kernel)
theorem d_SC_next_10 : decode b_SC_next 10 = .ok (.if_icmp .ge 65, 3) := bz_c162 (by decide +kernel)
theorem d_SC_next_13 : decode b_SC_next 13 = .ok (.aload_n 0, 1) := bz_c42 (by decide +kernel)
theorem d_SC_next_14 : decode b_SC_next 14 = .ok (.dup, 1) := bz_c89 (by decide +kernel)
theorem d_SC_next_15 : decode b_SC_next 15 = .ok (.getfield 64, 3) := bz_c180 (by decide +kernel)
theorem d_SC_next_18 : decode b_SC_next 18 = .ok (.iconst 1, 1) := bz_c4 (by decide +kernel)
theorem d_SC_next_19 : decode b_SC_next 19 = .ok (.iadd, 1) := bz_c96 (by decide +kernel)
theorem d_SC_next_20 : decode b_SC_next 20 = .ok (.putfield 64, 3) := bz_c181 (by decide +kernel)
theorem d_SC_next_23 : decode b_SC_next 23 = .ok (.aload_n 0, 1) := bz_c42 (by decide +kernel)
theorem d_SC_next_24 : decode b_SC_next 24 = .ok (.aload_n 0, 1) := bz_c42 (by decide +kernel)
theorem d_SC_next_25 : decode b_SC_next 25 = .ok (.getfield 20, 3) := bz_c180 (by decide +kernel)
theorem d_SC_next_28 : decode b_SC_next 28 = .ok (.aload_n 0, 1) := bz_c42 (by decide +kernel)
theorem d_SC_next_29 : decode b_SC_next 29 = .ok (.getfield 64, 3) := bz_c180 (by decide +kernel)
theorem d_SC_next_32 : decode b_SC_next 32 = .ok (.aaload, 1) := bz_c50 (by decide +kernel)
theorem d_SC_next_33 : decode b_SC_next 33 = .ok (.putfield 15, 3) := bz_c181 (by decide +kernel)
theorem d_SC_next_36 : decode b_SC_next 36 = .ok (.aload_n 0, 1) := bz_c42 (by decide +kernel)
theorem d_SC_next_37 : decode b_SC_next 37 = .ok (.aload_n 0, 1) := bz_c42 (by decide +kernel)
theorem d_SC_next_38 : decode b_SC_next 38 = .ok (.getfield 24, 3) := bz_c180 (by decide +kernel)
theorem d_SC_next_41 : decode b_SC_next 41 = .ok (.aload_n 0, 1) := bz_c42 (by decide +kernel)
theorem d_SC_next_42 : decode b_SC_next 42 = .ok (.getfield 64, 3) := bz_c180 (by decide +kernel)
theorem d_SC_next_45 : decode b_SC_next 45 = .ok (.iaload, 1) := bz_c46 (by decide +kernel)
theorem d_SC_next_46 : decode b_SC_next 46 = .ok (.putfield 39, 3) := bz_c181 (by decide +kernel)
theorem d_SC_next_49 : decode b_SC_next 49 = .ok (.aload_n 0, 1) := bz_c42 (by decide +kernel)
theorem d_SC_next_50 : decode b_SC_next 50 = .ok (.aload_n 0, 1) := bz_c42 (by decide +kernel)
theorem d_SC_next_51 : decode b_SC_next 51 = .ok (.getfield 28, 3) := bz_c180 (by decide +kernel)
theorem d_SC_next_54 : decode b_SC_next 54 = .ok (.aload_n 0, 1) := bz_c42 (by decide +kernel)
theorem d_SC_next_55 : decode b_SC_next 55 = .ok (.getfield 64, 3) := bz_c180 (by decide +kernel)
theorem d_SC_next_58 : decode b_SC_next 58 = .ok (.iaload, 1) := bz_c46 (by decide +kernel)
theorem d_SC_next_59 : decode b_SC_next 59 = .ok (.putfield 43, 3) := bz_c181 (by decide +kernel)
theorem d_SC_next_62 : decode b_SC_next 62 = .ok (.aload_n 0, 1) := bz_c42 (by decide +kernel)
theorem d_SC_next_63 : decode b_SC_next 63 = .ok (.aload_n 0, 1) := bz_c42 (by decide +kernel)
theorem d_SC_next_64 : decode b_SC_next 64 = .ok (.getfield 31, 3) := bz_c180 (by decide +kernel)
theorem d_SC_next_67 : decode b_SC_next 67 = .ok (.aload_n 0, 1) := bz_c42 (by decide +kernel)
theorem d_SC_next_68 : decode b_SC_next 68 = .ok (.getfield 64, 3) := bz_c180 (by decide +kernel)
theorem d_SC_next_71 : decode b_SC_next 71 = .ok (.laload, 1) := bz_c47 (by decide +kernel)
theorem d_SC_next_72 : decode b_SC_next 72 = .ok (.putfield 70, 3) := bz_c181 (by decide +kernel)
theorem d_SC_next_75 : decode b_SC_next 75 = .ok (.return_, 1) := bz_c177 (by decide +kernel)
theorem kF_SC_64 : Cond.fieldLink R_SC 64 "WaferForge$Scanner" "at" "I" ∈ lw_g := in_c2 39 rfl rfl
abbrev at_SC_next (dC : Nat → ClassId) (dI : Nat → Nat → Nat) (sa : Nat → Nat) (h0 tr ss sp szs sv tx : Nat) (css csp cszs csv : ClassId) (h0_length : Int32) (tr_length : Int32) (gss : Nat → Option Nat) (gsp : Nat → Int32) (gszs : Nat → Int32) (gsv : Nat → Int64) (A : Nat → Prop) (u : Int32 × Int32 × Nat × Int32 × Int64) (t : State) : Prop := match u with | (h0_at, h0_place, h0_sign, h0_size, h0_value) => va_P (dC, dI) cls (wz_107 h0 tr (sg sa h0_sign) h0_place h0_size h0_value ss sp szs sv h0_length h0_at tr tx tr_length ss css (fun j => (gss j).map (sg sa)) sp csp gsp szs cszs gszs sv csv gsv) t.heap ∧ va_K (dC, dI) cls [(css, .object "WaferForge$Sign"), (csp, .int), (cszs, .int), (csv, .long)] t ∧ va_D A (wz_107 h0 tr (sg sa h0_sign) h0_place h0_size h0_value ss sp szs sv h0_length h0_at tr tx tr_length ss css (fun j => (gss j).map (sg sa)) sp csp gsp szs cszs gszs sv csv gsv)
set_option maxHeartbeats 4000000 in
set_option maxRecDepth 100000 in
theorem c_SC_next (l : Launch) (dC : Nat → ClassId) (dI : Nat → Nat → Nat) (sz : Nat) (sa : Nat → Nat) (h0 tr ss sp szs sv tx : Nat) (css csp cszs csv : ClassId) (h0_sign : Nat) (h0_place : Int32) (h0_size : Int32) (h0_value : Int64) (h0_length : Int32) (h0_at : Int32) (tr_length : Int32) (gss : Nat → Option Nat) (gsp : Nat → Int32) (gszs : Nat → Int32) (gsv : Nat → Int64)  (b_h0_sign : h0_sign < 55) (b_h0_place : 0 ≤ h0_place.toInt ∧ h0_place.toInt ≤ 2000) (b_h0_size : 0 ≤ h0_size.toInt ∧ h0_size.toInt ≤ 2000) (b_h0_length : 0 ≤ h0_length.toInt ∧ h0_length.toInt ≤ 2001) (b_h0_at : -1 ≤ h0_at.toInt ∧ h0_at.toInt ≤ 2000) (b_tr_length : 0 ≤ tr_length.toInt ∧ tr_length.toInt ≤ 2000)   (htk : tkP tr_length.toInt h0_length.toInt gss gsp gszs gsv) : Met l y_SC_next w_SC_next ({ frames := 0, cells := 0, slots := 0, locals := 0 }) (va_Pc [.ref h0] (fun U => U.heap.size = sz ∧ va_P (dC, dI) cls (wz_107 h0 tr (sg sa h0_sign) h0_place h0_size h0_value ss sp szs sv h0_length h0_at tr tx tr_length ss css (fun j => (gss j).map (sg sa)) sp csp gsp szs cszs gszs sv csv gsv) U.heap ∧ va_K (dC, dI) cls [(css, .object "WaferForge$Sign"), (csp, .int), (cszs, .int), (csv, .long)] U ∧ va_D (fun _ => True) (wz_107 h0 tr (sg sa h0_sign) h0_place h0_size h0_value ss sp szs sv h0_length h0_at tr tx tr_length ss css (fun j => (gss j).map (sg sa)) sp csp gsp szs cszs gszs sv csv gsv) ∧ sw sa (va_A (wz_107 h0 tr (sg sa h0_sign) h0_place h0_size h0_value ss sp szs sv h0_length h0_at tr tx tr_length ss css (fun j => (gss j).map (sg sa)) sp csp gsp szs cszs gszs sv csv gsv) sz) U U.heap)) (va_Qv (fun (u : Int32 × Int32 × Nat × Int32 × Int64) => match u with | (h0_at2, h0_place2, h0_sign2, h0_size2, h0_value2) => (-1 ≤ h0_at2.toInt ∧ h0_at2.toInt ≤ 2000) ∧ (0 ≤ h0_place2.toInt ∧ h0_place2.toInt ≤ 2000) ∧ (h0_sign2 < 55) ∧ (0 ≤ h0_size2.toInt ∧ h0_size2.toInt ≤ 2000) ∧ ((h0_at.toInt + 1 < h0_length.toInt → h0_at2.toInt = h0_at.toInt + 1 ∧ gss h0_at2.toNatClampNeg = some h0_sign2 ∧ h0_place2 = gsp h0_at2.toNatClampNeg ∧ h0_size2 = gszs h0_at2.toNatClampNeg ∧ h0_value2 = gsv h0_at2.toNatClampNeg) ∧ (h0_length.toInt ≤ h0_at.toInt + 1 → h0_at2 = h0_at ∧ h0_sign2 = h0_sign ∧ h0_place2 = h0_place ∧ h0_size2 = h0_size ∧ h0_value2 = h0_value))) (at_SC_next dC dI sa h0 tr ss sp szs sv tx css csp cszs csv h0_length tr_length gss gsp gszs gsv (va_A (wz_107 h0 tr (sg sa h0_sign) h0_place h0_size h0_value ss sp szs sv h0_length h0_at tr tx tr_length ss css (fun j => (gss j).map (sg sa)) sp csp gsp szs cszs gszs sv csv gsv) sz)) (va_A (wz_107 h0 tr (sg sa h0_sign) h0_place h0_size h0_value ss sp szs sv h0_length h0_at tr tx tr_length ss css (fun j => (gss j).map (sg sa)) sp csp gsp szs cszs gszs sv csv gsv) sz)) 0 0 (va_A (wz_107 h0 tr (sg sa h0_sign) h0_place h0_size h0_value ss sp szs sv h0_length h0_at tr tx tr_length ss css (fun j => (gss j).map (sg sa)) sp csp gsp szs cszs gszs sv csv gsv) sz) := by
  refine Met.ofW (cc := b_SC_next) (maxL := 1) (ret := none) (by decide) rfl ?_
  intro p e s m args below meth c s₁ B hml hv
  obtain ⟨rfl, hsz, hP, hK, hD0, hSW⟩ := hv
  have hx := B.exec
  have hb := B.bytes
  have hr := B.returns
  have hts0 := atoms_spec (ws := w_SC_next) B.pre
  have hts : ∀ w ∈ lw_g, w.before _ s = true := fun w h => hts0 w (List.mem_cons_of_mem _ h)
  have hown : s.vm.findClass R_SC = some m.cls := findClass_of_methodNamed B.named
  have hlocks := B.notSynchronized
  clear hts0
  subst hsz
  have hD := hD0.self (sz := s.heap.size)
  generalize hAe : va_A (wz_107 h0 tr (sg sa h0_sign) h0_place h0_size h0_value ss sp szs sv h0_length h0_at tr tx tr_length ss css (fun j => (gss j).map (sg sa)) sp csp gsp szs cszs gszs sv csv gsv) s.heap.size = A at hD hSW ⊢
  have hA : ∀ q : Nat, s.heap.size ≤ q → A q := fun q h => by rw [← hAe]; exact Or.inr h
  clear hAe
  have hP : va_P (dC, dI) cls (wz_107 h0 tr (sg sa h0_sign) h0_place h0_size h0_value ss sp szs sv h0_length h0_at tr tx tr_length ss css (fun j => (gss j).map (sg sa)) sp csp gsp szs cszs gszs sv csv gsv) s.heap := hP
  have hl := lv_entry ([.ref h0]) (n := 1) (Nat.le_of_ble_eq_true rfl)
  rw [lg_entry_eq]
  generalize (lg_sl ([.ref h0]) ++ List.replicate (1 - (lg_sl ([.ref h0])).length) Slot.unset).toArray = ls at hl ⊢
  have hl : lv_has ls 1 [(0, .ref h0)] := hl
  have k0 : (0 : Int32).toInt = 0 := by decide
  refine w_gen (A := A) hP (fun H locs hP hS => ?_)
  have k1 : (1 : Int32).toInt = 1 := by decide
  have hb2 : ∀ j : Nat, (j : Int) < h0_length.toInt → 0 ≤ (gsp j).toInt ∧ (gsp j).toInt ≤ 2000 ∧ 0 ≤ (gszs j).toInt ∧ (gszs j).toInt ≤ 2000 := fun j q => by obtain ⟨k9, -, -, h1, h2, h3, -⟩ := htk j q; exact ⟨h1, by (first | (apply Int.le_antisymm <;> omega) | omega), h2, by (first | (apply Int.le_antisymm <;> omega) | omega)⟩
  refine lv_aload_n hx hb d_SC_next_0 rfl (lv_at hl 0 rfl) ?_
  refine va_get (D := (dC, dI)) (ci := 8) (v := .int h0_at) (C := R_SC) (T := F_SC) (N := 11) hx hb hts i_SC hown hK hP 0 rfl rfl 10 (by decide) (hts _ kF_SC_64) (fun _ h9 => h9) rfl d_SC_next_1 ?_
  refine lv_iconst (v := 1) hx hb d_SC_next_4 (by decide) ?_
  refine lv_iadd hx hb d_SC_next_5 ?_
  refine lv_topi (fun x1 ex1 => ?_)
  have tx1 : x1.toInt = h0_at.toInt + 1 := by have z := i32_add ex1 (by (first | (apply Int.le_antisymm <;> omega) | omega)) (by (first | (apply Int.le_antisymm <;> omega) | omega)); first | exact z | (first | (apply Int.le_antisymm <;> omega) | omega)
  refine lv_aload_n hx hb d_SC_next_6 rfl (lv_at hl 0 rfl) ?_
  refine va_get (D := (dC, dI)) (ci := 8) (v := .int h0_length) (C := R_SC) (T := F_SC) (N := 11) hx hb hts i_SC hown hK hP 0 rfl rfl 9 (by decide) (hts _ kF_SC_49) (fun _ h9 => h9) rfl d_SC_next_7 ?_
  refine lv_icmp_ge (tgt := 75) hx hb d_SC_next_10 (by decide) (fun c10 => ?_) (fun c10 => ?_)
  · have q10 := leI c10
    have hP9 := hP.sb (wq := (wz_107 h0 tr (sg sa h0_sign) h0_place h0_size h0_value ss sp szs sv h0_length h0_at tr tx tr_length ss css (fun j => (gss j).map (sg sa)) sp csp gsp szs cszs gszs sv csv gsv)) [0, 1, 2, 3, 4, 5] rfl
    have hD9 := hD.sb (wq := (wz_107 h0 tr (sg sa h0_sign) h0_place h0_size h0_value ss sp szs sv h0_length h0_at tr tx tr_length ss css (fun j => (gss j).map (sg sa)) sp csp gsp szs cszs gszs sv csv gsv)) [0, 1, 2, 3, 4, 5] (by decide) rfl
    exact W.vret hx hb hr (fun t ht hW => ⟨⟨(h0_at, h0_place, h0_sign, h0_size, h0_value), rfl, ⟨b_h0_at, b_h0_place, b_h0_sign, b_h0_size, ⟨fun z => absurd z (by (first | (apply Int.le_antisymm <;> omega) | omega)), fun _ => ⟨rfl, rfl, rfl, rfl, rfl⟩⟩⟩, va_P.he ht.symm hP9, va_K.moved hW.alike hK, hD9⟩, hS.F ht⟩) hS.2.2 d_SC_next_75
  · have q10 := nleI c10
    refine lv_aload_n hx hb d_SC_next_13 rfl (lv_at hl 0 rfl) ?_
    refine lv_dup hx hb d_SC_next_14 rfl ?_
    refine va_get (D := (dC, dI)) (ci := 8) (v := .int h0_at) (C := R_SC) (T := F_SC) (N := 11) hx hb hts i_SC hown hK hP 0 rfl rfl 10 (by decide) (hts _ kF_SC_64) (fun _ h9 => h9) rfl d_SC_next_15 ?_
    refine lv_iconst (v := 1) hx hb d_SC_next_18 (by decide) ?_
    refine lv_iadd hx hb d_SC_next_19 ?_
    refine lv_topi (fun x2 ex2 => ?_)
    have tx2 : x2.toInt = h0_at.toInt + 1 := by have z := i32_add ex2 (by (first | (apply Int.le_antisymm <;> omega) | omega)) (by (first | (apply Int.le_antisymm <;> omega) | omega)); first | exact z | (first | (apply Int.le_antisymm <;> omega) | omega)
    refine va_put (D := (dC, dI)) (ci := 8) (v := .int x2) (ty := .int) (C := R_SC) (T := F_SC) (N := 11) hx hb hts i_SC t_SC t_SC_ok n_SC hown hK hP hD hS 0 rfl rfl 10 (by decide) (hts _ kF_SC_64) (fun _ h9 => h9) rfl (by decide +kernel) rfl rfl (Nat.le_of_ble_eq_true rfl) d_SC_next_20 (fun H locs hP hD hS => ?_)
    refine lv_aload_n hx hb d_SC_next_23 rfl (lv_at hl 0 rfl) ?_
    refine lv_aload_n hx hb d_SC_next_24 rfl (lv_at hl 0 rfl) ?_
    refine va_get (D := (dC, dI)) (ci := 8) (v := .ref ss) (C := R_SC) (T := F_SC) (N := 11) hx hb hts i_SC hown hK hP 0 rfl rfl 5 (by decide) (hts _ kF_SC_20) (fun _ h9 => h9) rfl d_SC_next_25 ?_
    refine lv_aload_n hx hb d_SC_next_28 rfl (lv_at hl 0 rfl) ?_
    refine va_get (D := (dC, dI)) (ci := 8) (v := .int x2) (C := R_SC) (T := F_SC) (N := 11) hx hb hts i_SC hown hK hP 0 rfl rfl 10 (by decide) (hts _ kF_SC_64) (fun _ h9 => h9) rfl d_SC_next_29 ?_
    have g32 : vp_in x2 2001 := vp_in_iff.mpr ⟨by (first | (apply Int.le_antisymm <;> omega) | omega), by (first | (apply Int.le_antisymm <;> omega) | omega)⟩
    obtain ⟨k3, hk3, ek3⟩ : ∃ z : Nat, z < 55 ∧ gss x2.toNatClampNeg = some z := by obtain ⟨k9, hk9⟩ := htk x2.toNatClampNeg (by have := i32_clamp (x := x2) (by (first | (apply Int.le_antisymm <;> omega) | omega)); (first | (apply Int.le_antisymm <;> omega) | omega)); exact ⟨k9, hk9.1, hk9.2.1⟩
    refine va_aldq hx hb hK hP 2 0 rfl rfl g32 d_SC_next_32 ?_
    refine w_top (v2 := .ref (sg sa k3)) (by show va_rf ((gss x2.toNatClampNeg).map (sg sa)) = _; rw [ek3]; rfl) ?_
    refine va_put (D := (dC, dI)) (ci := 8) (v := .ref (sg sa k3)) (ty := .object "WaferForge$Sign") (C := R_SC) (T := F_SC) (N := 11) hx hb hts i_SC t_SC t_SC_ok n_SC hown hK hP hD hS 0 rfl rfl 1 (by decide) (hts _ kF_SC_15) (fun _ h9 => h9) rfl (by decide +kernel) rfl rfl (Nat.le_of_ble_eq_true rfl) d_SC_next_33 (fun H locs hP hD hS => ?_)
    refine lv_aload_n hx hb d_SC_next_36 rfl (lv_at hl 0 rfl) ?_
    refine lv_aload_n hx hb d_SC_next_37 rfl (lv_at hl 0 rfl) ?_
    refine va_get (D := (dC, dI)) (ci := 8) (v := .ref sp) (C := R_SC) (T := F_SC) (N := 11) hx hb hts i_SC hown hK hP 0 rfl rfl 6 (by decide) (hts _ kF_SC_24) (fun _ h9 => h9) rfl d_SC_next_38 ?_
    refine lv_aload_n hx hb d_SC_next_41 rfl (lv_at hl 0 rfl) ?_
    refine va_get (D := (dC, dI)) (ci := 8) (v := .int x2) (C := R_SC) (T := F_SC) (N := 11) hx hb hts i_SC hown hK hP 0 rfl rfl 10 (by decide) (hts _ kF_SC_64) (fun _ h9 => h9) rfl d_SC_next_42 ?_
    have g45 : vp_in x2 2001 := vp_in_iff.mpr ⟨by (first | (apply Int.le_antisymm <;> omega) | omega), by (first | (apply Int.le_antisymm <;> omega) | omega)⟩
    refine va_iald hx hb hK hP 3 1 rfl rfl g45 d_SC_next_45 ?_
    refine lv_topi (fun x4 ex4 => ?_)
    have yx4 := hb2 x2.toNatClampNeg (by have := i32_clamp (x := x2) (by (first | (apply Int.le_antisymm <;> omega) | omega)); (first | (apply Int.le_antisymm <;> omega) | omega))
    rw [← ex4] at yx4
    refine va_put (D := (dC, dI)) (ci := 8) (v := .int x4) (ty := .int) (C := R_SC) (T := F_SC) (N := 11) hx hb hts i_SC t_SC t_SC_ok n_SC hown hK hP hD hS 0 rfl rfl 2 (by decide) (hts _ kF_SC_39) (fun _ h9 => h9) rfl (by decide +kernel) rfl rfl (Nat.le_of_ble_eq_true rfl) d_SC_next_46 (fun H locs hP hD hS => ?_)
    refine lv_aload_n hx hb d_SC_next_49 rfl (lv_at hl 0 rfl) ?_
    refine lv_aload_n hx hb d_SC_next_50 rfl (lv_at hl 0 rfl) ?_
    refine va_get (D := (dC, dI)) (ci := 8) (v := .ref szs) (C := R_SC) (T := F_SC) (N := 11) hx hb hts i_SC hown hK hP 0 rfl rfl 7 (by decide) (hts _ kF_SC_28) (fun _ h9 => h9) rfl d_SC_next_51 ?_
    refine lv_aload_n hx hb d_SC_next_54 rfl (lv_at hl 0 rfl) ?_
    refine va_get (D := (dC, dI)) (ci := 8) (v := .int x2) (C := R_SC) (T := F_SC) (N := 11) hx hb hts i_SC hown hK hP 0 rfl rfl 10 (by decide) (hts _ kF_SC_64) (fun _ h9 => h9) rfl d_SC_next_55 ?_
    have g58 : vp_in x2 2001 := vp_in_iff.mpr ⟨by (first | (apply Int.le_antisymm <;> omega) | omega), by (first | (apply Int.le_antisymm <;> omega) | omega)⟩
    refine va_iald hx hb hK hP 4 2 rfl rfl g58 d_SC_next_58 ?_
    refine lv_topi (fun x5 ex5 => ?_)
    have yx5 := hb2 x2.toNatClampNeg (by have := i32_clamp (x := x2) (by (first | (apply Int.le_antisymm <;> omega) | omega)); (first | (apply Int.le_antisymm <;> omega) | omega))
    rw [← ex5] at yx5
    refine va_put (D := (dC, dI)) (ci := 8) (v := .int x5) (ty := .int) (C := R_SC) (T := F_SC) (N := 11) hx hb hts i_SC t_SC t_SC_ok n_SC hown hK hP hD hS 0 rfl rfl 3 (by decide) (hts _ kF_SC_43) (fun _ h9 => h9) rfl (by decide +kernel) rfl rfl (Nat.le_of_ble_eq_true rfl) d_SC_next_59 (fun H locs hP hD hS => ?_)
    refine lv_aload_n hx hb d_SC_next_62 rfl (lv_at hl 0 rfl) ?_
    refine lv_aload_n hx hb d_SC_next_63 rfl (lv_at hl 0 rfl) ?_
    refine va_get (D := (dC, dI)) (ci := 8) (v := .ref sv) (C := R_SC) (T := F_SC) (N := 11) hx hb hts i_SC hown hK hP 0 rfl rfl 8 (by decide) (hts _ kF_SC_31) (fun _ h9 => h9) rfl d_SC_next_64 ?_
    refine lv_aload_n hx hb d_SC_next_67 rfl (lv_at hl 0 rfl) ?_
    refine va_get (D := (dC, dI)) (ci := 8) (v := .int x2) (C := R_SC) (T := F_SC) (N := 11) hx hb hts i_SC hown hK hP 0 rfl rfl 10 (by decide) (hts _ kF_SC_64) (fun _ h9 => h9) rfl d_SC_next_68 ?_
    have g71 : vp_in x2 2001 := vp_in_iff.mpr ⟨by (first | (apply Int.le_antisymm <;> omega) | omega), by (first | (apply Int.le_antisymm <;> omega) | omega)⟩
    refine va_lald hx hb hK hP 5 3 rfl rfl g71 d_SC_next_71 ?_
    refine lv_topl (fun x6 ex6 => ?_)
    refine va_put (D := (dC, dI)) (ci := 8) (v := .long x6) (ty := .long) (C := R_SC) (T := F_SC) (N := 11) hx hb hts i_SC t_SC t_SC_ok n_SC hown hK hP hD hS 0 rfl rfl 4 (by decide) (hts _ kF_SC_70) (fun _ h9 => h9) rfl (by decide +kernel) rfl rfl (Nat.le_of_ble_eq_true rfl) d_SC_next_72 (fun H locs hP hD hS => ?_)
    have hP9 := hP.sb (wq := (wz_107 h0 tr (sg sa k3) x4 x5 x6 ss sp szs sv h0_length x2 tr tx tr_length ss css (fun j => (gss j).map (sg sa)) sp csp gsp szs cszs gszs sv csv gsv)) [0, 1, 2, 3, 4, 5] rfl
    have hD9 := hD.sb (wq := (wz_107 h0 tr (sg sa k3) x4 x5 x6 ss sp szs sv h0_length x2 tr tx tr_length ss css (fun j => (gss j).map (sg sa)) sp csp gsp szs cszs gszs sv csv gsv)) [0, 1, 2, 3, 4, 5] (by decide) rfl
    exact W.vret hx hb hr (fun t ht hW => ⟨⟨(x2, x4, k3, x5, x6), rfl, ⟨by (try dsimp only) <;> (first | (apply Int.le_antisymm <;> omega) | omega), by (try dsimp only) <;> (first | (apply Int.le_antisymm <;> omega) | omega), hk3, by (try dsimp only) <;> (first | (apply Int.le_antisymm <;> omega) | omega), ⟨fun _ => ⟨by (try dsimp only); (first | (apply Int.le_antisymm <;> omega) | omega), ek3, ex4, ex5, ex6⟩, fun z => absurd z (by (first | (apply Int.le_antisymm <;> omega) | omega))⟩⟩, va_P.he ht.symm hP9, va_K.moved hW.alike hK, hD9⟩, hS.F ht⟩) hS.2.2 d_SC_next_75
abbrev b_SC_isBeforeAssign : ByteArray := prog_10_method_4_code
def y_SC_isBeforeAssign : MethodName := ⟨R_SC, "isBeforeAssign", "()Z"⟩
abbrev w_SC_isBeforeAssign : List Cond := .code y_SC_isBeforeAssign b_SC_isBeforeAssign 1 (Option.some .boolean) :: lw_g
theorem kC_SC_isBeforeAssign : Cond.code y_SC_isBeforeAssign b_SC_isBeforeAssign 1 (Option.some .boolean) ∈ lw_g := in_c5 112 rfl rfl
theorem d_SC_isBeforeAssign_0 : decode b_SC_isBeforeAssign 0 = .ok (.aload_n 0, 1) := bz_c42 (by decide +kernel)
theorem d_SC_isBeforeAssign_1 : decode b_SC_isBeforeAssign 1 = .ok (.getfield 64, 3) := bz_c180 (by decide +kernel)
theorem d_SC_isBeforeAssign_4 : decode b_SC_isBeforeAssign 4 = .ok (.iconst 1, 1) := bz_c4 (by decide +kernel)
theorem d_SC_isBeforeAssign_5 : decode b_SC_isBeforeAssign 5 = .ok (.iadd, 1) := bz_c96 (by decide +kernel)
theorem d_SC_isBeforeAssign_6 : decode b_SC_isBeforeAssign 6 = .ok (.aload_n 0, 1) := bz_c42 (by decide +kernel)
theorem d_SC_isBeforeAssign_7 : decode b_SC_isBeforeAssign 7 = .ok (.getfield 49, 3) := bz_c180 (by decide +kernel)
theorem d_SC_isBeforeAssign_10 : decode b_SC_isBeforeAssign 10 = .ok (.if_icmp .ge 24, 3) := bz_c162 (by decide +kernel)
theorem d_SC_isBeforeAssign_13 : decode b_SC_isBeforeAssign 13 = .ok (.aload_n 0, 1) := bz_c42 (by decide +kernel)
theorem d_SC_isBeforeAssign_14 : decode b_SC_isBeforeAssign 14 = .ok (.getfield 20, 3) := bz_c180 (by decide +kernel)
theorem d_SC_isBeforeAssign_17 : decode b_SC_isBeforeAssign 17 = .ok (.aload_n 0, 1) := bz_c42 (by decide +kernel)
theorem d_SC_isBeforeAssign_18 : decode b_SC_isBeforeAssign 18 = .ok (.getfield 64, 3) := bz_c180 (by decide +kernel)
theorem d_SC_isBeforeAssign_21 : decode b_SC_isBeforeAssign 21 = .ok (.iconst 1, 1) := bz_c4 (by decide +kernel)
theorem d_SC_isBeforeAssign_22 : decode b_SC_isBeforeAssign 22 = .ok (.iadd, 1) := bz_c96 (by decide +kernel)
theorem d_SC_isBeforeAssign_23 : decode b_SC_isBeforeAssign 23 = .ok (.aaload, 1) := bz_c50 (by decide +kernel)
theorem d_SC_isBeforeAssign_24 : decode b_SC_isBeforeAssign 24 = .ok (.getstatic 74, 3) := bz_c178 (by decide +kernel)
theorem d_SC_isBeforeAssign_27 : decode b_SC_isBeforeAssign 27 = .ok (.if_acmp .ne 7, 3) := bz_c166 (by decide +kernel)
theorem d_SC_isBeforeAssign_30 : decode b_SC_isBeforeAssign 30 = .ok (.iconst 1, 1) := bz_c4 (by decide +kernel)
theorem d_SC_isBeforeAssign_31 : decode b_SC_isBeforeAssign 31 = .ok (.goto 4, 3) := bz_c167 (by decide +kernel)
theorem d_SC_isBeforeAssign_34 : decode b_SC_isBeforeAssign 34 = .ok (.iconst 0, 1) := bz_c3 (by decide +kernel)
theorem d_SC_isBeforeAssign_35 : decode b_SC_isBeforeAssign 35 = .ok (.ireturn, 1) := bz_c172 (by decide +kernel)
theorem kF_SC_74 : Cond.fieldLink R_SC 74 "WaferForge$Sign" "ASSIGN" "LWaferForge$Sign;" ∈ lw_g := in_c5 113 rfl rfl
abbrev at_SC_isBeforeAssign (dC : Nat → ClassId) (dI : Nat → Nat → Nat) (sa : Nat → Nat) (h0 tr ss sp szs sv tx : Nat) (css csp cszs csv : ClassId) (h0_sign : Nat) (h0_place : Int32) (h0_size : Int32) (h0_value : Int64) (h0_length : Int32) (h0_at : Int32) (tr_length : Int32) (gss : Nat → Option Nat) (gsp : Nat → Int32) (gszs : Nat → Int32) (gsv : Nat → Int64) (A : Nat → Prop) (u : Unit) (t : State) : Prop := match u with | _ => va_P (dC, dI) cls (wz_107 h0 tr (sg sa h0_sign) h0_place h0_size h0_value ss sp szs sv h0_length h0_at tr tx tr_length ss css (fun j => (gss j).map (sg sa)) sp csp gsp szs cszs gszs sv csv gsv) t.heap ∧ va_K (dC, dI) cls [(css, .object "WaferForge$Sign"), (csp, .int), (cszs, .int), (csv, .long)] t ∧ va_D A (wz_107 h0 tr (sg sa h0_sign) h0_place h0_size h0_value ss sp szs sv h0_length h0_at tr tx tr_length ss css (fun j => (gss j).map (sg sa)) sp csp gsp szs cszs gszs sv csv gsv)
set_option maxHeartbeats 4000000 in
set_option maxRecDepth 100000 in
theorem c_SC_isBeforeAssign (l : Launch) (dC : Nat → ClassId) (dI : Nat → Nat → Nat) (sz : Nat) (sa : Nat → Nat) (h0 tr ss sp szs sv tx : Nat) (css csp cszs csv : ClassId) (h0_sign : Nat) (h0_place : Int32) (h0_size : Int32) (h0_value : Int64) (h0_length : Int32) (h0_at : Int32) (tr_length : Int32) (gss : Nat → Option Nat) (gsp : Nat → Int32) (gszs : Nat → Int32) (gsv : Nat → Int64)  (b_h0_length : 0 ≤ h0_length.toInt ∧ h0_length.toInt ≤ 2001) (b_h0_at : -1 ≤ h0_at.toInt ∧ h0_at.toInt ≤ 2000) (b_tr_length : 0 ≤ tr_length.toInt ∧ tr_length.toInt ≤ 2000)   (htk : tkP tr_length.toInt h0_length.toInt gss gsp gszs gsv) : Met l y_SC_isBeforeAssign w_SC_isBeforeAssign ({ frames := 0, cells := 0, slots := 0, locals := 0 }) (va_Pc [.ref h0] (fun U => U.heap.size = sz ∧ va_P (dC, dI) cls (wz_107 h0 tr (sg sa h0_sign) h0_place h0_size h0_value ss sp szs sv h0_length h0_at tr tx tr_length ss css (fun j => (gss j).map (sg sa)) sp csp gsp szs cszs gszs sv csv gsv) U.heap ∧ va_K (dC, dI) cls [(css, .object "WaferForge$Sign"), (csp, .int), (cszs, .int), (csv, .long)] U ∧ va_D (fun _ => True) (wz_107 h0 tr (sg sa h0_sign) h0_place h0_size h0_value ss sp szs sv h0_length h0_at tr tx tr_length ss css (fun j => (gss j).map (sg sa)) sp csp gsp szs cszs gszs sv csv gsv) ∧ sw sa (va_A (wz_107 h0 tr (sg sa h0_sign) h0_place h0_size h0_value ss sp szs sv h0_length h0_at tr tx tr_length ss css (fun j => (gss j).map (sg sa)) sp csp gsp szs cszs gszs sv csv gsv) sz) U U.heap)) (va_Qi (fun (r : Int32) (u : Unit) => match u with | _ => (r = 0 ∨ r = 1) ∧ (r = 1 → h0_at.toInt + 1 < h0_length.toInt ∧ gss (h0_at.toInt + 1).toNat = some 33)) (at_SC_isBeforeAssign dC dI sa h0 tr ss sp szs sv tx css csp cszs csv h0_sign h0_place h0_size h0_value h0_length h0_at tr_length gss gsp gszs gsv (va_A (wz_107 h0 tr (sg sa h0_sign) h0_place h0_size h0_value ss sp szs sv h0_length h0_at tr tx tr_length ss css (fun j => (gss j).map (sg sa)) sp csp gsp szs cszs gszs sv csv gsv) sz)) (va_A (wz_107 h0 tr (sg sa h0_sign) h0_place h0_size h0_value ss sp szs sv h0_length h0_at tr tx tr_length ss css (fun j => (gss j).map (sg sa)) sp csp gsp szs cszs gszs sv csv gsv) sz)) 0 0 (va_A (wz_107 h0 tr (sg sa h0_sign) h0_place h0_size h0_value ss sp szs sv h0_length h0_at tr tx tr_length ss css (fun j => (gss j).map (sg sa)) sp csp gsp szs cszs gszs sv csv gsv) sz) := by
  refine Met.ofW (cc := b_SC_isBeforeAssign) (maxL := 1) (ret := (Option.some .boolean)) (by decide) rfl ?_
  intro p e s m args below meth c s₁ B hml hv
  obtain ⟨rfl, hsz, hP, hK, hD0, hSW⟩ := hv
  have hx := B.exec
  have hb := B.bytes
  have hr := B.returns
  have hts0 := atoms_spec (ws := w_SC_isBeforeAssign) B.pre
  have hts : ∀ w ∈ lw_g, w.before _ s = true := fun w h => hts0 w (List.mem_cons_of_mem _ h)
  have hown : s.vm.findClass R_SC = some m.cls := findClass_of_methodNamed B.named
  have hlocks := B.notSynchronized
  clear hts0
  subst hsz
  have hD := hD0.self (sz := s.heap.size)
  generalize hAe : va_A (wz_107 h0 tr (sg sa h0_sign) h0_place h0_size h0_value ss sp szs sv h0_length h0_at tr tx tr_length ss css (fun j => (gss j).map (sg sa)) sp csp gsp szs cszs gszs sv csv gsv) s.heap.size = A at hD hSW ⊢
  have hA : ∀ q : Nat, s.heap.size ≤ q → A q := fun q h => by rw [← hAe]; exact Or.inr h
  clear hAe
  have hP : va_P (dC, dI) cls (wz_107 h0 tr (sg sa h0_sign) h0_place h0_size h0_value ss sp szs sv h0_length h0_at tr tx tr_length ss css (fun j => (gss j).map (sg sa)) sp csp gsp szs cszs gszs sv csv gsv) s.heap := hP
  have hl := lv_entry ([.ref h0]) (n := 1) (Nat.le_of_ble_eq_true rfl)
  rw [lg_entry_eq]
  generalize (lg_sl ([.ref h0]) ++ List.replicate (1 - (lg_sl ([.ref h0])).length) Slot.unset).toArray = ls at hl ⊢
  have hl : lv_has ls 1 [(0, .ref h0)] := hl
  have k0 : (0 : Int32).toInt = 0 := by decide
  refine w_gen (A := A) hP (fun H locs hP hS => ?_)
  have k1 : (1 : Int32).toInt = 1 := by decide
  refine lv_aload_n hx hb d_SC_isBeforeAssign_0 rfl (lv_at hl 0 rfl) ?_
  refine va_get (D := (dC, dI)) (ci := 8) (v := .int h0_at) (C := R_SC) (T := F_SC) (N := 11) hx hb hts i_SC hown hK hP 0 rfl rfl 10 (by decide) (hts _ kF_SC_64) (fun _ h9 => h9) rfl d_SC_isBeforeAssign_1 ?_
  refine lv_iconst (v := 1) hx hb d_SC_isBeforeAssign_4 (by decide) ?_
  refine lv_iadd hx hb d_SC_isBeforeAssign_5 ?_
  refine lv_topi (fun x1 ex1 => ?_)
  have tx1 : x1.toInt = h0_at.toInt + 1 := by have z := i32_add ex1 (by (first | (apply Int.le_antisymm <;> omega) | omega)) (by (first | (apply Int.le_antisymm <;> omega) | omega)); first | exact z | (first | (apply Int.le_antisymm <;> omega) | omega)
  refine lv_aload_n hx hb d_SC_isBeforeAssign_6 rfl (lv_at hl 0 rfl) ?_
  refine va_get (D := (dC, dI)) (ci := 8) (v := .int h0_length) (C := R_SC) (T := F_SC) (N := 11) hx hb hts i_SC hown hK hP 0 rfl rfl 9 (by decide) (hts _ kF_SC_49) (fun _ h9 => h9) rfl d_SC_isBeforeAssign_7 ?_
  refine lv_icmp_ge (tgt := 34) hx hb d_SC_isBeforeAssign_10 (by decide) (fun c10 => ?_) (fun c10 => ?_)
  · have q10 := leI c10
    refine lv_iconst (v := 0) hx hb d_SC_isBeforeAssign_34 (by decide) ?_
    have hP9 := hP.sb (wq := (wz_107 h0 tr (sg sa h0_sign) h0_place h0_size h0_value ss sp szs sv h0_length h0_at tr tx tr_length ss css (fun j => (gss j).map (sg sa)) sp csp gsp szs cszs gszs sv csv gsv)) [0, 1, 2, 3, 4, 5] rfl
    have hD9 := hD.sb (wq := (wz_107 h0 tr (sg sa h0_sign) h0_place h0_size h0_value ss sp szs sv h0_length h0_at tr tx tr_length ss css (fun j => (gss j).map (sg sa)) sp csp gsp szs cszs gszs sv csv gsv)) [0, 1, 2, 3, 4, 5] (by decide) rfl
    exact W.zret (v := 0) hx hb hr (zn01 (Or.inl rfl)) (fun t ht hW => ⟨⟨0, (), rfl, ⟨Or.inl rfl, fun z => absurd z (by decide)⟩, va_P.he ht.symm hP9, va_K.moved hW.alike hK, hD9⟩, hS.F ht⟩) hS.2.2 d_SC_isBeforeAssign_35
  · have q10 := nleI c10
    refine lv_aload_n hx hb d_SC_isBeforeAssign_13 rfl (lv_at hl 0 rfl) ?_
    refine va_get (D := (dC, dI)) (ci := 8) (v := .ref ss) (C := R_SC) (T := F_SC) (N := 11) hx hb hts i_SC hown hK hP 0 rfl rfl 5 (by decide) (hts _ kF_SC_20) (fun _ h9 => h9) rfl d_SC_isBeforeAssign_14 ?_
    refine lv_aload_n hx hb d_SC_isBeforeAssign_17 rfl (lv_at hl 0 rfl) ?_
    refine va_get (D := (dC, dI)) (ci := 8) (v := .int h0_at) (C := R_SC) (T := F_SC) (N := 11) hx hb hts i_SC hown hK hP 0 rfl rfl 10 (by decide) (hts _ kF_SC_64) (fun _ h9 => h9) rfl d_SC_isBeforeAssign_18 ?_
    refine lv_iconst (v := 1) hx hb d_SC_isBeforeAssign_21 (by decide) ?_
    refine lv_iadd hx hb d_SC_isBeforeAssign_22 ?_
    refine lv_topi (fun x2 ex2 => ?_)
    have tx2 : x2.toInt = h0_at.toInt + 1 := by have z := i32_add ex2 (by (first | (apply Int.le_antisymm <;> omega) | omega)) (by (first | (apply Int.le_antisymm <;> omega) | omega)); first | exact z | (first | (apply Int.le_antisymm <;> omega) | omega)
    have g23 : vp_in x2 2001 := vp_in_iff.mpr ⟨by (first | (apply Int.le_antisymm <;> omega) | omega), by (first | (apply Int.le_antisymm <;> omega) | omega)⟩
    obtain ⟨k3, hk3, ek3⟩ : ∃ z : Nat, z < 55 ∧ gss x2.toNatClampNeg = some z := by obtain ⟨k9, hk9⟩ := htk x2.toNatClampNeg (by have := i32_clamp (x := x2) (by (first | (apply Int.le_antisymm <;> omega) | omega)); (first | (apply Int.le_antisymm <;> omega) | omega)); exact ⟨k9, hk9.1, hk9.2.1⟩
    refine va_aldq hx hb hK hP 2 0 rfl rfl g23 d_SC_isBeforeAssign_23 ?_
    refine w_top (v2 := .ref (sg sa k3)) (by show va_rf ((gss x2.toNatClampNeg).map (sg sa)) = _; rw [ek3]; rfl) ?_
    refine va_gets (C := "WaferForge$Sign") (n := "ASSIGN") (d := "LWaferForge$Sign;") (v := .ref (sg sa 33)) hx hb ((hSW.2.2.2.1.1 33 (by decide)).1) hS hown (hts _ kF_SC_74) (fun _ h9 => h9) d_SC_isBeforeAssign_24 ?_
    refine lv_acmp_ne (rx := some (sg sa k3)) (ry := some (sg sa 33)) (tgt := 34) hx hb d_SC_isBeforeAssign_27 (by decide) (fun c27 => ?_) (fun c27 => ?_)
    · have q27 : k3 ≠ 33 := fun z => c27 (by rw [z])
      refine lv_iconst (v := 0) hx hb d_SC_isBeforeAssign_34 (by decide) ?_
      have hP9 := hP.sb (wq := (wz_107 h0 tr (sg sa h0_sign) h0_place h0_size h0_value ss sp szs sv h0_length h0_at tr tx tr_length ss css (fun j => (gss j).map (sg sa)) sp csp gsp szs cszs gszs sv csv gsv)) [0, 1, 2, 3, 4, 5] rfl
      have hD9 := hD.sb (wq := (wz_107 h0 tr (sg sa h0_sign) h0_place h0_size h0_value ss sp szs sv h0_length h0_at tr tx tr_length ss css (fun j => (gss j).map (sg sa)) sp csp gsp szs cszs gszs sv csv gsv)) [0, 1, 2, 3, 4, 5] (by decide) rfl
      exact W.zret (v := 0) hx hb hr (zn01 (Or.inl rfl)) (fun t ht hW => ⟨⟨0, (), rfl, ⟨Or.inl rfl, fun z => absurd z (by decide)⟩, va_P.he ht.symm hP9, va_K.moved hW.alike hK, hD9⟩, hS.F ht⟩) hS.2.2 d_SC_isBeforeAssign_35
    · have q27 : k3 = 33 := hSW.2.2.2.1.2 k3 33 hk3 (by decide : 33 < 55) (Option.some.inj c27)
      refine lv_iconst (v := 1) hx hb d_SC_isBeforeAssign_30 (by decide) ?_
      refine lv_goto (tgt := 35) hx hb d_SC_isBeforeAssign_31 (by decide) ?_
      have hP9 := hP.sb (wq := (wz_107 h0 tr (sg sa h0_sign) h0_place h0_size h0_value ss sp szs sv h0_length h0_at tr tx tr_length ss css (fun j => (gss j).map (sg sa)) sp csp gsp szs cszs gszs sv csv gsv)) [0, 1, 2, 3, 4, 5] rfl
      have hD9 := hD.sb (wq := (wz_107 h0 tr (sg sa h0_sign) h0_place h0_size h0_value ss sp szs sv h0_length h0_at tr tx tr_length ss css (fun j => (gss j).map (sg sa)) sp csp gsp szs cszs gszs sv csv gsv)) [0, 1, 2, 3, 4, 5] (by decide) rfl
      exact W.zret (v := 1) hx hb hr (zn01 (Or.inr rfl)) (fun t ht hW => ⟨⟨1, (), rfl, ⟨Or.inr rfl, fun _ => ⟨by (first | (apply Int.le_antisymm <;> omega) | omega), by rw [← i32_natI (x := x2) (by (first | (apply Int.le_antisymm <;> omega) | omega))]; rw [q27] at ek3; exact ek3⟩⟩, va_P.he ht.symm hP9, va_K.moved hW.alike hK, hD9⟩, hS.F ht⟩) hS.2.2 d_SC_isBeforeAssign_35
end q_40
section q_41
/-! Scanner: begin -/
theorem tkP_next {L : Int} {len k : Nat} {p z : Int32} {v : Int64} {ss : Nat → Option Nat} {sp sz : Nat → Int32} {sv : Nat → Int64} (h : tkP L len ss sp sz sv) (hc : len = 0 ∨ ∃ k0, ss (len - 1) = some k0 ∧ k0 ≠ 0 ∧ k0 ≠ 1 ∧ (sp (len - 1)).toInt + (sz (len - 1)).toInt ≤ p.toInt) (hk : k < 55) (hp : 0 ≤ p.toInt ∧ 0 ≤ z.toInt ∧ p.toInt + z.toInt ≤ L) (ht : tkT k z.toInt v.toInt) :
    tkP L ((len : Int) + 1) (va_up ss len (some k)) (upd sp len p) (upd sz len z) (vp_updL sv len v) := by
  intro i hi
  by_cases e : i = len
  · subst e
    refine ⟨k, hk, va_us, ?_⟩
    rw [pk_us, pk_us, pk_uLs]
    exact ⟨hp.1, hp.2.1, hp.2.2, ht, fun q => by (first | (apply Int.le_antisymm <;> omega) | omega)⟩
  · obtain ⟨k1, a1, a2, a3, a4, a5, a6, a7⟩ := h i (by (first | (apply Int.le_antisymm <;> omega) | omega))
    refine ⟨k1, a1, by rw [va_un e]; exact a2, ?_⟩
    rw [pk_un e, pk_un e, pk_uLn e]
    refine ⟨a3, a4, a5, a6, fun q => ?_⟩
    by_cases e2 : i + 1 = len
    · rw [e2, pk_us]
      rcases hc with c | ⟨k0, c1, c2, c3, c4⟩
      · (first | (apply Int.le_antisymm <;> omega) | omega)
      · have e3 : len - 1 = i := by (first | (apply Int.le_antisymm <;> omega) | omega)
        rw [e3] at c1 c4
        rw [a2] at c1
        have e4 := Option.some.inj c1
        rw [e4]
        exact ⟨c2, c3, c4⟩
    · rw [pk_un e2]
      exact a7 (by (first | (apply Int.le_antisymm <;> omega) | omega))
abbrev b_SC_begin : ByteArray := prog_10_method_2_code
def y_SC_begin : MethodName := ⟨R_SC, "begin", "()V"⟩
abbrev w_SC_begin : List Cond := .code y_SC_begin b_SC_begin 2 none :: lw_g
theorem kC_SC_begin : Cond.code y_SC_begin b_SC_begin 2 none ∈ lw_g := in_c4 57 rfl rfl
theorem d_SC_begin_0 : decode b_SC_begin 0 = .ok (.aload_n 0, 1) := bz_c42 (by decide +kernel)
theorem d_SC_begin_1 : decode b_SC_begin 1 = .ok (.iconst 0, 1) := bz_c3 (by decide +kernel)
theorem d_SC_begin_2 : decode b_SC_begin 2 = .ok (.putfield 39, 3) := bz_c181 (by decide +kernel)
theorem d_SC_begin_5 : decode b_SC_begin 5 = .ok (.aload_n 0, 1) := bz_c42 (by decide +kernel)
theorem d_SC_begin_6 : decode b_SC_begin 6 = .ok (.iconst 0, 1) := bz_c3 (by decide +kernel)
theorem d_SC_begin_7 : decode b_SC_begin 7 = .ok (.putfield 43, 3) := bz_c181 (by decide +kernel)
theorem d_SC_begin_10 : decode b_SC_begin 10 = .ok (.aload_n 0, 1) := bz_c42 (by decide +kernel)
theorem d_SC_begin_11 : decode b_SC_begin 11 = .ok (.getstatic 46, 3) := bz_c178 (by decide +kernel)
theorem d_SC_begin_14 : decode b_SC_begin 14 = .ok (.putfield 15, 3) := bz_c181 (by decide +kernel)
theorem d_SC_begin_17 : decode b_SC_begin 17 = .ok (.aload_n 0, 1) := bz_c42 (by decide +kernel)
theorem d_SC_begin_18 : decode b_SC_begin 18 = .ok (.iconst 0, 1) := bz_c3 (by decide +kernel)
theorem d_SC_begin_19 : decode b_SC_begin 19 = .ok (.putfield 49, 3) := bz_c181 (by decide +kernel)
theorem d_SC_begin_22 : decode b_SC_begin 22 = .ok (.iconst 0, 1) := bz_c3 (by decide +kernel)
theorem d_SC_begin_23 : decode b_SC_begin 23 = .ok (.istore_n 1, 1) := bz_c60 (by decide +kernel)
theorem d_SC_begin_24 : decode b_SC_begin 24 = .ok (.iload_n 1, 1) := bz_c27 (by decide +kernel)
theorem d_SC_begin_25 : decode b_SC_begin 25 = .ok (.sipush 2000, 3) := bz_c17 (by decide +kernel)
theorem d_SC_begin_28 : decode b_SC_begin 28 = .ok (.if_icmp .gt 41, 3) := bz_c163 (by decide +kernel)
theorem d_SC_begin_31 : decode b_SC_begin 31 = .ok (.aload_n 0, 1) := bz_c42 (by decide +kernel)
theorem d_SC_begin_32 : decode b_SC_begin 32 = .ok (.getfield 15, 3) := bz_c180 (by decide +kernel)
theorem d_SC_begin_35 : decode b_SC_begin 35 = .ok (.getstatic 9, 3) := bz_c178 (by decide +kernel)
theorem d_SC_begin_38 : decode b_SC_begin 38 = .ok (.if_acmp .eq 31, 3) := bz_c165 (by decide +kernel)
theorem d_SC_begin_41 : decode b_SC_begin 41 = .ok (.aload_n 0, 1) := bz_c42 (by decide +kernel)
theorem d_SC_begin_42 : decode b_SC_begin 42 = .ok (.getfield 15, 3) := bz_c180 (by decide +kernel)
theorem d_SC_begin_45 : decode b_SC_begin 45 = .ok (.getstatic 52, 3) := bz_c178 (by decide +kernel)
theorem d_SC_begin_48 : decode b_SC_begin 48 = .ok (.if_acmp .eq 21, 3) := bz_c165 (by decide +kernel)
theorem d_SC_begin_51 : decode b_SC_begin 51 = .ok (.aload_n 0, 1) := bz_c42 (by decide +kernel)
theorem d_SC_begin_52 : decode b_SC_begin 52 = .ok (.invokevirtual 55, 3) := bz_c182 (by decide +kernel)
theorem d_SC_begin_55 : decode b_SC_begin 55 = .ok (.aload_n 0, 1) := bz_c42 (by decide +kernel)
theorem d_SC_begin_56 : decode b_SC_begin 56 = .ok (.invokevirtual 58, 3) := bz_c182 (by decide +kernel)
theorem d_SC_begin_59 : decode b_SC_begin 59 = .ok (.aload_n 0, 1) := bz_c42 (by decide +kernel)
theorem d_SC_begin_60 : decode b_SC_begin 60 = .ok (.invokevirtual 61, 3) := bz_c182 (by decide +kernel)
theorem d_SC_begin_63 : decode b_SC_begin 63 = .ok (.iinc 1 1, 3) := by decide +kernel
theorem d_SC_begin_66 : decode b_SC_begin 66 = .ok (.goto (-42), 3) := bz_c167 (by decide +kernel)
theorem d_SC_begin_69 : decode b_SC_begin 69 = .ok (.aload_n 0, 1) := bz_c42 (by decide +kernel)
theorem d_SC_begin_70 : decode b_SC_begin 70 = .ok (.iconst (-1), 1) := bz_c2 (by decide +kernel)
theorem d_SC_begin_71 : decode b_SC_begin 71 = .ok (.putfield 64, 3) := bz_c181 (by decide +kernel)
theorem d_SC_begin_74 : decode b_SC_begin 74 = .ok (.aload_n 0, 1) := bz_c42 (by decide +kernel)
theorem d_SC_begin_75 : decode b_SC_begin 75 = .ok (.invokevirtual 67, 3) := bz_c182 (by decide +kernel)
theorem d_SC_begin_78 : decode b_SC_begin 78 = .ok (.return_, 1) := bz_c177 (by decide +kernel)
theorem kM_SC_55 : Cond.methodLink R_SC 55 y_SC_skipBlanks ∈ lw_g := in_c4 62 rfl rfl
theorem kV_SC_skipBlanks : Cond.instanceMethod y_SC_skipBlanks ∈ lw_g := in_c4 64 rfl rfl
theorem kS_SC_skipBlanks : Cond.selects R_SC y_SC_skipBlanks y_SC_skipBlanks ∈ lw_g := in_s 2 (by decide +kernel) rfl
theorem kM_SC_58 : Cond.methodLink R_SC 58 y_SC_readSign ∈ lw_g := in_c4 67 rfl rfl
theorem kV_SC_readSign : Cond.instanceMethod y_SC_readSign ∈ lw_g := in_c4 69 rfl rfl
theorem kS_SC_readSign : Cond.selects R_SC y_SC_readSign y_SC_readSign ∈ lw_g := in_s 3 (by decide +kernel) rfl
theorem kM_SC_61 : Cond.methodLink R_SC 61 y_SC_keep ∈ lw_g := in_c4 155 rfl rfl
theorem kV_SC_keep : Cond.instanceMethod y_SC_keep ∈ lw_g := in_c4 157 rfl rfl
theorem kS_SC_keep : Cond.selects R_SC y_SC_keep y_SC_keep ∈ lw_g := in_s 7 (by decide +kernel) rfl
theorem kM_SC_67 : Cond.methodLink R_SC 67 y_SC_next ∈ lw_g := in_c4 159 rfl rfl
theorem kV_SC_next : Cond.instanceMethod y_SC_next ∈ lw_g := in_c4 160 rfl rfl
theorem kS_SC_next : Cond.selects R_SC y_SC_next y_SC_next ∈ lw_g := in_c4 161 rfl rfl
abbrev at_SC_begin (dC : Nat → ClassId) (dI : Nat → Nat → Nat) (sa : Nat → Nat) (h0 tr ss sp szs sv tx : Nat) (ctx css csp cszs csv : ClassId) (tr_length : Int32) (gtx : Nat → Int32) (A : Nat → Prop) (u : (Nat → Int32) × (Nat → Option Nat) × (Nat → Int64) × (Nat → Int32) × Int32 × Int32 × Int32 × Nat × Int32 × Int64) (t : State) : Prop := match u with | (gsp, gss, gsv, gszs, h0_at, h0_length, h0_place, h0_sign, h0_size, h0_value) => va_P (dC, dI) cls (wz_108 h0 tr (sg sa h0_sign) h0_place h0_size h0_value ss sp szs sv h0_length h0_at tr tx tr_length tx ctx gtx ss css (fun j => (gss j).map (sg sa)) sp csp gsp szs cszs gszs sv csv gsv) t.heap ∧ va_K (dC, dI) cls [(ctx, .byte), (css, .object "WaferForge$Sign"), (csp, .int), (cszs, .int), (csv, .long)] t ∧ va_D A (wz_108 h0 tr (sg sa h0_sign) h0_place h0_size h0_value ss sp szs sv h0_length h0_at tr tx tr_length tx ctx gtx ss css (fun j => (gss j).map (sg sa)) sp csp gsp szs cszs gszs sv csv gsv)
set_option maxHeartbeats 4000000 in
set_option maxRecDepth 100000 in
theorem c_SC_begin (l : Launch) (dC : Nat → ClassId) (dI : Nat → Nat → Nat) (sz : Nat) (sa : Nat → Nat) (h0 tr ss sp szs sv tx : Nat) (ctx css csp cszs csv : ClassId) (h0_sign : Nat) (h0_place : Int32) (h0_size : Int32) (h0_value : Int64) (h0_length : Int32) (h0_at : Int32) (tr_length : Int32) (gtx : Nat → Int32) (gss : Nat → Option Nat) (gsp : Nat → Int32) (gszs : Nat → Int32) (gsv : Nat → Int64)  (b_h0_sign : h0_sign < 55) (b_h0_place : 0 ≤ h0_place.toInt ∧ h0_place.toInt ≤ 2000) (b_h0_size : 0 ≤ h0_size.toInt ∧ h0_size.toInt ≤ 2000) (b_h0_length : 0 ≤ h0_length.toInt ∧ h0_length.toInt ≤ 2001) (b_h0_at : -1 ≤ h0_at.toInt ∧ h0_at.toInt ≤ 2000) (b_tr_length : 0 ≤ tr_length.toInt ∧ tr_length.toInt ≤ 2000)    : Met l y_SC_begin w_SC_begin ({ frames := 7, cells := 0, slots := 0, locals := 150 }) (va_Pc [.ref h0] (fun U => U.heap.size = sz ∧ va_P (dC, dI) cls (wz_108 h0 tr (sg sa h0_sign) h0_place h0_size h0_value ss sp szs sv h0_length h0_at tr tx tr_length tx ctx gtx ss css (fun j => (gss j).map (sg sa)) sp csp gsp szs cszs gszs sv csv gsv) U.heap ∧ va_K (dC, dI) cls [(ctx, .byte), (css, .object "WaferForge$Sign"), (csp, .int), (cszs, .int), (csv, .long)] U ∧ va_D (fun _ => True) (wz_108 h0 tr (sg sa h0_sign) h0_place h0_size h0_value ss sp szs sv h0_length h0_at tr tx tr_length tx ctx gtx ss css (fun j => (gss j).map (sg sa)) sp csp gsp szs cszs gszs sv csv gsv) ∧ sw sa (va_A (wz_108 h0 tr (sg sa h0_sign) h0_place h0_size h0_value ss sp szs sv h0_length h0_at tr tx tr_length tx ctx gtx ss css (fun j => (gss j).map (sg sa)) sp csp gsp szs cszs gszs sv csv gsv) sz) U U.heap)) (va_Qv (fun (u : (Nat → Int32) × (Nat → Option Nat) × (Nat → Int64) × (Nat → Int32) × Int32 × Int32 × Int32 × Nat × Int32 × Int64) => match u with | (gsp2, gss2, gsv2, gszs2, h0_at2, h0_length2, h0_place2, h0_sign2, h0_size2, h0_value2) => (-1 ≤ h0_at2.toInt ∧ h0_at2.toInt ≤ 2000) ∧ (0 ≤ h0_length2.toInt ∧ h0_length2.toInt ≤ 2001) ∧ (0 ≤ h0_place2.toInt ∧ h0_place2.toInt ≤ 2000) ∧ (h0_sign2 < 55) ∧ (0 ≤ h0_size2.toInt ∧ h0_size2.toInt ≤ 2000) ∧ (h0_at2.toInt = 0 ∧ tkOK tr_length.toInt h0_length2.toInt gss2 gsp2 gszs2 gsv2 ∧ gss2 h0_at2.toNatClampNeg = some h0_sign2 ∧ h0_place2 = gsp2 h0_at2.toNatClampNeg ∧ h0_size2 = gszs2 h0_at2.toNatClampNeg ∧ h0_value2 = gsv2 h0_at2.toNatClampNeg)) (at_SC_begin dC dI sa h0 tr ss sp szs sv tx ctx css csp cszs csv tr_length gtx (va_A (wz_108 h0 tr (sg sa h0_sign) h0_place h0_size h0_value ss sp szs sv h0_length h0_at tr tx tr_length tx ctx gtx ss css (fun j => (gss j).map (sg sa)) sp csp gsp szs cszs gszs sv csv gsv) sz)) (va_A (wz_108 h0 tr (sg sa h0_sign) h0_place h0_size h0_value ss sp szs sv h0_length h0_at tr tx tr_length tx ctx gtx ss css (fun j => (gss j).map (sg sa)) sp csp gsp szs cszs gszs sv csv gsv) sz)) 0 0 (va_A (wz_108 h0 tr (sg sa h0_sign) h0_place h0_size h0_value ss sp szs sv h0_length h0_at tr tx tr_length tx ctx gtx ss css (fun j => (gss j).map (sg sa)) sp csp gsp szs cszs gszs sv csv gsv) sz) := by
  refine Met.ofW (cc := b_SC_begin) (maxL := 2) (ret := none) (by decide) rfl ?_
  intro p e s m args below meth c s₁ B hml hv
  obtain ⟨rfl, hsz, hP, hK, hD0, hSW⟩ := hv
  have hx := B.exec
  have hb := B.bytes
  have hr := B.returns
  have hts0 := atoms_spec (ws := w_SC_begin) B.pre
  have hts : ∀ w ∈ lw_g, w.before _ s = true := fun w h => hts0 w (List.mem_cons_of_mem _ h)
  have hown : s.vm.findClass R_SC = some m.cls := findClass_of_methodNamed B.named
  have hlocks := B.notSynchronized
  clear hts0
  subst hsz
  have hD := hD0.self (sz := s.heap.size)
  generalize hAe : va_A (wz_108 h0 tr (sg sa h0_sign) h0_place h0_size h0_value ss sp szs sv h0_length h0_at tr tx tr_length tx ctx gtx ss css (fun j => (gss j).map (sg sa)) sp csp gsp szs cszs gszs sv csv gsv) s.heap.size = A at hD hSW ⊢
  have hA : ∀ q : Nat, s.heap.size ≤ q → A q := fun q h => by rw [← hAe]; exact Or.inr h
  clear hAe
  have hP : va_P (dC, dI) cls (wz_108 h0 tr (sg sa h0_sign) h0_place h0_size h0_value ss sp szs sv h0_length h0_at tr tx tr_length tx ctx gtx ss css (fun j => (gss j).map (sg sa)) sp csp gsp szs cszs gszs sv csv gsv) s.heap := hP
  have hl := lv_entry ([.ref h0]) (n := 2) (Nat.le_of_ble_eq_true rfl)
  rw [lg_entry_eq]
  generalize (lg_sl ([.ref h0]) ++ List.replicate (2 - (lg_sl ([.ref h0])).length) Slot.unset).toArray = ls at hl ⊢
  have hl : lv_has ls 2 [(0, .ref h0)] := hl
  have k0 : (0 : Int32).toInt = 0 := by decide
  refine w_gen (A := A) hP (fun H locs hP hS => ?_)
  have km1 : (-1 : Int32).toInt = -1 := by decide
  have k1 : (1 : Int32).toInt = 1 := by decide
  have k2000 : (2000 : Int32).toInt = 2000 := by decide
  refine lv_aload_n hx hb d_SC_begin_0 rfl (lv_at hl 0 rfl) ?_
  refine lv_iconst (v := 0) hx hb d_SC_begin_1 (by decide) ?_
  refine va_put (D := (dC, dI)) (ci := 8) (v := .int 0) (ty := .int) (C := R_SC) (T := F_SC) (N := 11) hx hb hts i_SC t_SC t_SC_ok n_SC hown hK hP hD hS 0 rfl rfl 2 (by decide) (hts _ kF_SC_39) (fun _ h9 => h9) rfl (by decide +kernel) rfl rfl (Nat.le_of_ble_eq_true rfl) d_SC_begin_2 (fun H locs hP hD hS => ?_)
  refine lv_aload_n hx hb d_SC_begin_5 rfl (lv_at hl 0 rfl) ?_
  refine lv_iconst (v := 0) hx hb d_SC_begin_6 (by decide) ?_
  refine va_put (D := (dC, dI)) (ci := 8) (v := .int 0) (ty := .int) (C := R_SC) (T := F_SC) (N := 11) hx hb hts i_SC t_SC t_SC_ok n_SC hown hK hP hD hS 0 rfl rfl 3 (by decide) (hts _ kF_SC_43) (fun _ h9 => h9) rfl (by decide +kernel) rfl rfl (Nat.le_of_ble_eq_true rfl) d_SC_begin_7 (fun H locs hP hD hS => ?_)
  refine lv_aload_n hx hb d_SC_begin_10 rfl (lv_at hl 0 rfl) ?_
  refine va_gets (C := "WaferForge$Sign") (n := "NAME") (d := "LWaferForge$Sign;") (v := .ref (sg sa 2)) hx hb ((hSW.2.2.2.1.1 2 (by decide)).1) hS hown (hts _ kF_SC_46) (fun _ h9 => h9) d_SC_begin_11 ?_
  refine va_put (D := (dC, dI)) (ci := 8) (v := .ref (sg sa 2)) (ty := .object "WaferForge$Sign") (C := R_SC) (T := F_SC) (N := 11) hx hb hts i_SC t_SC t_SC_ok n_SC hown hK hP hD hS 0 rfl rfl 1 (by decide) (hts _ kF_SC_15) (fun _ h9 => h9) rfl (by decide +kernel) rfl rfl (Nat.le_of_ble_eq_true rfl) d_SC_begin_14 (fun H locs hP hD hS => ?_)
  refine lv_aload_n hx hb d_SC_begin_17 rfl (lv_at hl 0 rfl) ?_
  refine lv_iconst (v := 0) hx hb d_SC_begin_18 (by decide) ?_
  refine va_put (D := (dC, dI)) (ci := 8) (v := .int 0) (ty := .int) (C := R_SC) (T := F_SC) (N := 11) hx hb hts i_SC t_SC t_SC_ok n_SC hown hK hP hD hS 0 rfl rfl 9 (by decide) (hts _ kF_SC_49) (fun _ h9 => h9) rfl (by decide +kernel) rfl rfl (Nat.le_of_ble_eq_true rfl) d_SC_begin_19 (fun H locs hP hD hS => ?_)
  refine lv_iconst (v := 0) hx hb d_SC_begin_22 (by decide) ?_
  refine lv_istore_n (lv' := [(1, .int 0), (0, .ref h0)]) hx hb d_SC_begin_23 rfl hl (by decide) rfl (fun ls hl => ?_)
  refine w_loop (σ := Int32 × (Nat → Int32) × (Nat → Option Nat) × (Nat → Int64) × (Nat → Int32) × Int32 × Int32 × Nat × Int32 × Int64) (fun u H locs ls => match u with | (j24_l1, j24_sp, j24_ss, j24_sv, j24_szs, j24_h0_length, j24_h0_place, j24_h0_sign, j24_h0_size, j24_h0_value) => (0 ≤ j24_l1.toInt ∧ j24_l1.toInt ≤ 2001) ∧ (0 ≤ j24_h0_length.toInt ∧ j24_h0_length.toInt ≤ 2001) ∧ (0 ≤ j24_h0_place.toInt ∧ j24_h0_place.toInt ≤ 2000) ∧ (j24_h0_sign < 55) ∧ (0 ≤ j24_h0_size.toInt ∧ j24_h0_size.toInt ≤ 2000) ∧ (j24_h0_length.toInt = j24_l1.toInt) ∧ (j24_h0_place.toInt + j24_h0_size.toInt ≤ tr_length.toInt) ∧ (tkP tr_length.toInt j24_h0_length.toInt j24_ss j24_sp j24_szs j24_sv) ∧ ((j24_l1.toInt = 0 → j24_h0_sign = 2) ∧ (1 ≤ j24_l1.toInt → j24_ss (j24_l1.toInt - 1).toNat = some j24_h0_sign ∧ j24_sp (j24_l1.toInt - 1).toNat = j24_h0_place ∧ j24_szs (j24_l1.toInt - 1).toNat = j24_h0_size)) ∧ (j24_h0_sign ≠ 0 → j24_h0_sign ≠ 1 → j24_l1.toInt ≤ j24_h0_place.toInt + j24_h0_size.toInt) ∧ va_P (dC, dI) cls (wz_108 h0 tr (sg sa j24_h0_sign) j24_h0_place j24_h0_size j24_h0_value ss sp szs sv j24_h0_length h0_at tr tx tr_length tx ctx gtx ss css (fun j => (j24_ss j).map (sg sa)) sp csp j24_sp szs cszs j24_szs sv csv j24_sv) H ∧ va_D A (wz_108 h0 tr (sg sa j24_h0_sign) j24_h0_place j24_h0_size j24_h0_value ss sp szs sv j24_h0_length h0_at tr tx tr_length tx ctx gtx ss css (fun j => (j24_ss j).map (sg sa)) sp csp j24_sp szs cszs j24_szs sv csv j24_sv) ∧ va_S A s.heap H locs ∧ lv_has ls 2 [(0, .ref h0), (1, .int j24_l1)]) (fun u => match u with | (j24_l1, j24_sp, j24_ss, j24_sv, j24_szs, j24_h0_length, j24_h0_place, j24_h0_sign, j24_h0_size, j24_h0_value) => (2001 - j24_l1.toInt).toNat) ?_ (0, gsp, gss, gsv, gszs, 0, 0, 2, 0, h0_value) ⟨by (try dsimp only) <;> (first | (apply Int.le_antisymm <;> omega) | omega), by (try dsimp only) <;> (first | (apply Int.le_antisymm <;> omega) | omega), by (try dsimp only) <;> (first | (apply Int.le_antisymm <;> omega) | omega), (by decide : 2 < 55), by (try dsimp only) <;> (first | (apply Int.le_antisymm <;> omega) | omega), by (try dsimp only) <;> (first | (apply Int.le_antisymm <;> omega) | omega), by (try dsimp only) <;> (first | (apply Int.le_antisymm <;> omega) | omega), fun i q => absurd q (by (try dsimp only); (first | (apply Int.le_antisymm <;> omega) | omega)), ⟨fun _ => rfl, fun z => absurd z (by (try dsimp only); (first | (apply Int.le_antisymm <;> omega) | omega))⟩, fun _ _ => by (try dsimp only); (first | (apply Int.le_antisymm <;> omega) | omega), hP, hD, hS, lv_sub hl [1, 0] rfl⟩
  intro N24 ih24 u H locs ls hN24 hI
  obtain ⟨j24_l1, j24_sp, j24_ss, j24_sv, j24_szs, j24_h0_length, j24_h0_place, j24_h0_sign, j24_h0_size, j24_h0_value⟩ := u
  obtain ⟨b_j24_l1, b_j24_h0_length, b_j24_h0_place, b_j24_h0_sign, b_j24_h0_size, v0, v1, v2, v3, v4, hP, hD, hS, hl⟩ := hI
  have hN24 : (2001 - j24_l1.toInt).toNat < N24 + 1 := hN24
  refine lv_iload_n hx hb d_SC_begin_24 rfl (lv_at hl 1 rfl) ?_
  refine lv_sipush (v := 2000) hx hb d_SC_begin_25 (by decide) ?_
  refine w_cut (pc2 := 69) (σ := Unit) (fun u H locs ls => match u with | _ => (j24_h0_sign = 0 ∨ j24_h0_sign = 1) ∧ va_P (dC, dI) cls (wz_108 h0 tr (sg sa j24_h0_sign) j24_h0_place j24_h0_size j24_h0_value ss sp szs sv j24_h0_length h0_at tr tx tr_length tx ctx gtx ss css (fun j => (j24_ss j).map (sg sa)) sp csp j24_sp szs cszs j24_szs sv csv j24_sv) H ∧ va_D A (wz_108 h0 tr (sg sa j24_h0_sign) j24_h0_place j24_h0_size j24_h0_value ss sp szs sv j24_h0_length h0_at tr tx tr_length tx ctx gtx ss css (fun j => (j24_ss j).map (sg sa)) sp csp j24_sp szs cszs j24_szs sv csv j24_sv) ∧ va_S A s.heap H locs ∧ lv_has ls 2 [(0, .ref h0)]) (fun u => match u with | _ => []) ?_ (fun jn69 => ?_)
  · intro u H locs ls hI
    obtain ⟨z69, hP, hD, hS, hl⟩ := hI
    refine lv_aload_n hx hb d_SC_begin_69 rfl (lv_at hl 0 rfl) ?_
    refine lv_iconst (v := (-1)) hx hb d_SC_begin_70 (by decide) ?_
    refine va_put (D := (dC, dI)) (ci := 8) (v := .int ((-1))) (ty := .int) (C := R_SC) (T := F_SC) (N := 11) hx hb hts i_SC t_SC t_SC_ok n_SC hown hK hP hD hS 0 rfl rfl 10 (by decide) (hts _ kF_SC_64) (fun _ h9 => h9) rfl (by decide +kernel) rfl rfl (Nat.le_of_ble_eq_true rfl) d_SC_begin_71 (fun H locs hP hD hS => ?_)
    refine lv_aload_n hx hb d_SC_begin_74 rfl (lv_at hl 0 rfl) ?_
    have hPc := hP.sb (wq := (wz_107 h0 tr (sg sa j24_h0_sign) j24_h0_place j24_h0_size j24_h0_value ss sp szs sv j24_h0_length ((-1)) tr tx tr_length ss css (fun j => (j24_ss j).map (sg sa)) sp csp j24_sp szs cszs j24_szs sv csv j24_sv)) [0, 1, 3, 4, 5, 6] rfl
    have hDc := hD.sb (wq := (wz_107 h0 tr (sg sa j24_h0_sign) j24_h0_place j24_h0_size j24_h0_value ss sp szs sv j24_h0_length ((-1)) tr tx tr_length ss css (fun j => (j24_ss j).map (sg sa)) sp csp j24_sp szs cszs j24_szs sv csv j24_sv)) [0, 1, 3, 4, 5, 6] (by decide) rfl
    have hKc := hK.sb (tyq := [(css, .object "WaferForge$Sign"), (csp, .int), (cszs, .int), (csv, .long)]) [1, 2, 3, 4] rfl
    have hFc := va_free (wc := (wz_107 h0 tr (sg sa j24_h0_sign) j24_h0_place j24_h0_size j24_h0_value ss sp szs sv j24_h0_length ((-1)) tr tx tr_length ss css (fun j => (j24_ss j).map (sg sa)) sp csp j24_sp szs cszs j24_szs sv csv j24_sv)) hD hS hA [0, 1, 3, 4, 5, 6] rfl
    refine va_callv (va_runV (As := []) (rest := []) ⟨hx, hb, hml, hown, hts⟩ (c_SC_next l dC dI H.size sa h0 tr ss sp szs sv tx css csp cszs csv j24_h0_sign j24_h0_place j24_h0_size j24_h0_value j24_h0_length ((-1)) tr_length j24_ss j24_sp j24_szs j24_sv (b_j24_h0_sign) (b_j24_h0_place) (b_j24_h0_size) (b_j24_h0_length) (by (try dsimp only) <;> (first | (apply Int.le_antisymm <;> omega) | omega)) (b_tr_length) (v2)) (cwV 0 hts (gV kM_SC_67 kV_SC_next kS_SC_next kI_SC kC_SC_next) rfl rfl rfl (by decide +kernel) ⟨Nat.le_of_ble_eq_true rfl, Nat.le_of_ble_eq_true rfl⟩) ⟨fun a U g mk z => by obtain ⟨z0, z1, zP, zK, zD, zS⟩ := z; exact ⟨z0, z1, zP, va_K.moved (u := U) (U := U.calling g mk a) (Vm.Alike.refl U.vm) zK, zD, sw.same (u := U) (U := U.calling g mk a) rfl zS⟩, va_recv hKc hPc (ci := 8) (q0 := 0) rfl rfl, fun U hU hW => ⟨rfl, by rw [hU], va_P.he hU.symm hPc, va_K.moved hW.alike hKc, hDc.weaken (fun _ _ _ _ => trivial), hSW.call hS hFc hW hU⟩⟩ rfl rfl hl.1 rfl (lv_room (Nat.le_of_ble_eq_true rfl)) d_SC_begin_75 ⟨(Nat.zero_le _), (Nat.zero_le _)⟩) hS (fun q _ h => hFc q h) hFc (fun u t H1 locs ht hvm hw hB hz1 hk1 hS => ?_)
    obtain ⟨n2, n3, n4, n5, n6⟩ := u
    try dsimp only at hw
    obtain ⟨bn2, bn3, bn4, bn5, xr1⟩ := hw
    try clear hw
    obtain ⟨hP1, hK1, hD1⟩ := hB
    replace hP1 := va_P.he ht hP1
    obtain ⟨hP, hD⟩ := va_join (wr := [(tx, .inl (ctx, 2000, .inl gtx))]) (w1 := (wz_107 h0 tr (sg sa n4) n3 n5 n6 ss sp szs sv j24_h0_length n2 tr tx tr_length ss css (fun j => (j24_ss j).map (sg sa)) sp csp j24_sp szs cszs j24_szs sv csv j24_sv)) hP hD [0, 1, 3, 4, 5, 6] [2] rfl rfl (by decide) (by decide) hk1 hFc hP1 hD1
    clear hPc hDc hKc hFc hz1 hk1 hP1 hK1 hD1
    rename Heap => H
    have hP : va_P (dC, dI) cls [(tx, .inl (ctx, 2000, .inl gtx)), (h0, .inr (8, [.ref tr, .ref (sg sa n4), .int n3, .int n5, .long n6, .ref ss, .ref sp, .ref szs, .ref sv, .int j24_h0_length, .int n2])), (tr, .inr (1, [.ref tx, .int tr_length])), (ss, .inl (css, 2001, .inr (.inr (.inr (.inr (fun j => (j24_ss j).map (sg sa))))))), (sp, .inl (csp, 2001, .inl j24_sp)), (szs, .inl (cszs, 2001, .inl j24_szs)), (sv, .inl (csv, 2001, .inr (.inl j24_sv)))] H := hP
    have hD : va_D A [(tx, .inl (ctx, 2000, .inl gtx)), (h0, .inr (8, [.ref tr, .ref (sg sa n4), .int n3, .int n5, .long n6, .ref ss, .ref sp, .ref szs, .ref sv, .int j24_h0_length, .int n2])), (tr, .inr (1, [.ref tx, .int tr_length])), (ss, .inl (css, 2001, .inr (.inr (.inr (.inr (fun j => (j24_ss j).map (sg sa))))))), (sp, .inl (csp, 2001, .inl j24_sp)), (szs, .inl (cszs, 2001, .inl j24_szs)), (sv, .inl (csv, 2001, .inr (.inl j24_sv)))] := hD
    have hP9 := hP.sb (wq := (wz_108 h0 tr (sg sa n4) n3 n5 n6 ss sp szs sv j24_h0_length n2 tr tx tr_length tx ctx gtx ss css (fun j => (j24_ss j).map (sg sa)) sp csp j24_sp szs cszs j24_szs sv csv j24_sv)) [1, 2, 0, 3, 4, 5, 6] rfl
    have hD9 := hD.sb (wq := (wz_108 h0 tr (sg sa n4) n3 n5 n6 ss sp szs sv j24_h0_length n2 tr tx tr_length tx ctx gtx ss css (fun j => (j24_ss j).map (sg sa)) sp csp j24_sp szs cszs j24_szs sv csv j24_sv)) [1, 2, 0, 3, 4, 5, 6] (by decide) rfl
    exact W.vret hx hb hr (fun t ht hW => ⟨⟨(j24_sp, j24_ss, j24_sv, j24_szs, n2, j24_h0_length, n3, n4, n5, n6), rfl, ⟨bn2, b_j24_h0_length, bn3, bn4, bn5, by have z1 := xr1.1 (by (first | (apply Int.le_antisymm <;> omega) | omega)); exact ⟨by (try dsimp only); (first | (apply Int.le_antisymm <;> omega) | omega), ⟨by (try dsimp only); (first | (apply Int.le_antisymm <;> omega) | omega), v2, fun i q => by rw [show i = (j24_l1.toInt - 1).toNat from by (first | (apply Int.le_antisymm <;> omega) | omega), (v3.2 (by (first | (apply Int.le_antisymm <;> omega) | omega))).1]; rcases z69 with z | z; (rw [z]; exact Or.inl rfl); (rw [z]; exact Or.inr rfl)⟩, z1.2⟩⟩, va_P.he ht.symm hP9, va_K.moved hW.alike hK, hD9⟩, hS.F ht⟩) hS.2.2 d_SC_begin_78
  · skip
    refine lv_icmp_gt (tgt := 69) hx hb d_SC_begin_28 (by decide) (fun c28 => ?_) (fun c28 => ?_)
    · have q28 := ltI c28
      exact jn69 () _ _ _ ⟨by (try dsimp only) <;> (first | (apply Int.le_antisymm <;> omega) | omega), hP, hD, hS, lv_sub hl [0] rfl⟩
    · have q28 := nltI c28
      refine lv_aload_n hx hb d_SC_begin_31 rfl (lv_at hl 0 rfl) ?_
      refine va_get (D := (dC, dI)) (ci := 8) (v := .ref (sg sa j24_h0_sign)) (C := R_SC) (T := F_SC) (N := 11) hx hb hts i_SC hown hK hP 0 rfl rfl 1 (by decide) (hts _ kF_SC_15) (fun _ h9 => h9) rfl d_SC_begin_32 ?_
      refine va_gets (C := "WaferForge$Sign") (n := "END") (d := "LWaferForge$Sign;") (v := .ref (sg sa 0)) hx hb ((hSW.2.2.2.1.1 0 (by decide)).1) hS hown (hts _ kF_SC_9) (fun _ h9 => h9) d_SC_begin_35 ?_
      refine lv_acmp_eq (rx := some (sg sa j24_h0_sign)) (ry := some (sg sa 0)) (tgt := 69) hx hb d_SC_begin_38 (by decide) (fun c38 => ?_) (fun c38 => ?_)
      · have q38 : j24_h0_sign = 0 := hSW.2.2.2.1.2 j24_h0_sign 0 b_j24_h0_sign (by decide : 0 < 55) (Option.some.inj c38)
        exact jn69 () _ _ _ ⟨by (try dsimp only) <;> (first | (apply Int.le_antisymm <;> omega) | omega), hP, hD, hS, lv_sub hl [0] rfl⟩
      · have q38 : j24_h0_sign ≠ 0 := fun z => c38 (by rw [z])
        refine lv_aload_n hx hb d_SC_begin_41 rfl (lv_at hl 0 rfl) ?_
        refine va_get (D := (dC, dI)) (ci := 8) (v := .ref (sg sa j24_h0_sign)) (C := R_SC) (T := F_SC) (N := 11) hx hb hts i_SC hown hK hP 0 rfl rfl 1 (by decide) (hts _ kF_SC_15) (fun _ h9 => h9) rfl d_SC_begin_42 ?_
        refine va_gets (C := "WaferForge$Sign") (n := "WRONG") (d := "LWaferForge$Sign;") (v := .ref (sg sa 1)) hx hb ((hSW.2.2.2.1.1 1 (by decide)).1) hS hown (hts _ kF_SC_52) (fun _ h9 => h9) d_SC_begin_45 ?_
        refine lv_acmp_eq (rx := some (sg sa j24_h0_sign)) (ry := some (sg sa 1)) (tgt := 69) hx hb d_SC_begin_48 (by decide) (fun c48 => ?_) (fun c48 => ?_)
        · have q48 : j24_h0_sign = 1 := hSW.2.2.2.1.2 j24_h0_sign 1 b_j24_h0_sign (by decide : 1 < 55) (Option.some.inj c48)
          exact jn69 () _ _ _ ⟨by (try dsimp only) <;> (first | (apply Int.le_antisymm <;> omega) | omega), hP, hD, hS, lv_sub hl [0] rfl⟩
        · have q48 : j24_h0_sign ≠ 1 := fun z => c48 (by rw [z])
          refine lv_aload_n hx hb d_SC_begin_51 rfl (lv_at hl 0 rfl) ?_
          have hPc := hP.sb (wq := (wz_104 h0 tr (sg sa j24_h0_sign) j24_h0_place j24_h0_size j24_h0_value ss sp szs sv j24_h0_length h0_at tr tx tr_length tx ctx gtx)) [0, 1, 2] rfl
          have hDc := hD.sb (wq := (wz_104 h0 tr (sg sa j24_h0_sign) j24_h0_place j24_h0_size j24_h0_value ss sp szs sv j24_h0_length h0_at tr tx tr_length tx ctx gtx)) [0, 1, 2] (by decide) rfl
          have hKc := hK.sb (tyq := [(ctx, .byte)]) [0] rfl
          have hFc := va_free (wc := (wz_104 h0 tr (sg sa j24_h0_sign) j24_h0_place j24_h0_size j24_h0_value ss sp szs sv j24_h0_length h0_at tr tx tr_length tx ctx gtx)) hD hS hA [0, 1, 2] rfl
          refine va_callv (va_runV (As := []) (rest := []) ⟨hx, hb, hml, hown, hts⟩ (c_SC_skipBlanks l dC dI H.size sa h0 tr ss sp szs sv tx ctx j24_h0_sign j24_h0_place j24_h0_size j24_h0_value j24_h0_length h0_at tr_length gtx (b_j24_h0_place) (b_j24_h0_size) (b_tr_length) (v1)) (cwV 0 hts (gV kM_SC_55 kV_SC_skipBlanks kS_SC_skipBlanks kI_SC kC_SC_skipBlanks) rfl rfl rfl (by decide +kernel) ⟨Nat.le_of_ble_eq_true rfl, Nat.le_of_ble_eq_true rfl⟩) ⟨fun a U g mk z => by obtain ⟨z0, z1, zP, zK, zD, zS⟩ := z; exact ⟨z0, z1, zP, va_K.moved (u := U) (U := U.calling g mk a) (Vm.Alike.refl U.vm) zK, zD, sw.same (u := U) (U := U.calling g mk a) rfl zS⟩, va_recv hKc hPc (ci := 8) (q0 := 0) rfl rfl, fun U hU hW => ⟨rfl, by rw [hU], va_P.he hU.symm hPc, va_K.moved hW.alike hKc, hDc.weaken (fun _ _ _ _ => trivial), hSW.call hS hFc hW hU⟩⟩ rfl rfl hl.1 rfl (lv_room (Nat.le_of_ble_eq_true rfl)) d_SC_begin_52 ⟨(Nat.zero_le _), (Nat.zero_le _)⟩) hS (fun q _ h => hFc q h) hFc (fun u t H1 locs ht hvm hw hB hz1 hk1 hS => ?_)
          obtain ⟨n8, rfl⟩ : ∃ z, z = u := ⟨_, rfl⟩
          try dsimp only at hw
          obtain ⟨bn8, xr7⟩ := hw
          try clear hw
          obtain ⟨hP1, hK1, hD1⟩ := hB
          replace hP1 := va_P.he ht hP1
          obtain ⟨hP, hD⟩ := va_join (wr := [(ss, .inl (css, 2001, .inr (.inr (.inr (.inr (fun j => (j24_ss j).map (sg sa))))))), (sp, .inl (csp, 2001, .inl j24_sp)), (szs, .inl (cszs, 2001, .inl j24_szs)), (sv, .inl (csv, 2001, .inr (.inl j24_sv)))]) (w1 := (wz_104 h0 tr (sg sa j24_h0_sign) n8 j24_h0_size j24_h0_value ss sp szs sv j24_h0_length h0_at tr tx tr_length tx ctx gtx)) hP hD [0, 1, 2] [3, 4, 5, 6] rfl rfl (by decide) (by decide) hk1 hFc hP1 hD1
          clear hPc hDc hKc hFc hz1 hk1 hP1 hK1 hD1
          rename Heap => H
          have hP : va_P (dC, dI) cls (wz_109 ss css (fun j => (j24_ss j).map (sg sa)) sp csp j24_sp szs cszs j24_szs sv csv j24_sv h0 tr (sg sa j24_h0_sign) n8 j24_h0_size j24_h0_value ss sp szs sv j24_h0_length h0_at tr tx tr_length tx ctx gtx) H := hP
          have hD : va_D A (wz_109 ss css (fun j => (j24_ss j).map (sg sa)) sp csp j24_sp szs cszs j24_szs sv csv j24_sv h0 tr (sg sa j24_h0_sign) n8 j24_h0_size j24_h0_value ss sp szs sv j24_h0_length h0_at tr tx tr_length tx ctx gtx) := hD
          refine lv_aload_n hx hb d_SC_begin_55 rfl (lv_at hl 0 rfl) ?_
          have hPc := hP.sb (wq := (wz_104 h0 tr (sg sa j24_h0_sign) n8 j24_h0_size j24_h0_value ss sp szs sv j24_h0_length h0_at tr tx tr_length tx ctx gtx)) [4, 5, 6] rfl
          have hDc := hD.sb (wq := (wz_104 h0 tr (sg sa j24_h0_sign) n8 j24_h0_size j24_h0_value ss sp szs sv j24_h0_length h0_at tr tx tr_length tx ctx gtx)) [4, 5, 6] (by decide) rfl
          have hKc := hK.sb (tyq := [(ctx, .byte)]) [0] rfl
          have hFc := va_free (wc := (wz_104 h0 tr (sg sa j24_h0_sign) n8 j24_h0_size j24_h0_value ss sp szs sv j24_h0_length h0_at tr tx tr_length tx ctx gtx)) hD hS hA [4, 5, 6] rfl
          refine va_callv (va_runV (As := []) (rest := []) ⟨hx, hb, hml, hown, hts⟩ (c_SC_readSign l dC dI H.size sa h0 tr ss sp szs sv tx ctx j24_h0_sign n8 j24_h0_size j24_h0_value j24_h0_length h0_at tr_length gtx (b_j24_h0_sign) (bn8) (b_j24_h0_size) (b_tr_length) (by (first | (apply Int.le_antisymm <;> omega) | omega))) (cwV 0 hts (gV kM_SC_58 kV_SC_readSign kS_SC_readSign kI_SC kC_SC_readSign) rfl rfl rfl (by decide +kernel) ⟨Nat.le_of_ble_eq_true rfl, Nat.le_of_ble_eq_true rfl⟩) ⟨fun a U g mk z => by obtain ⟨z0, z1, zP, zK, zD, zS⟩ := z; exact ⟨z0, z1, zP, va_K.moved (u := U) (U := U.calling g mk a) (Vm.Alike.refl U.vm) zK, zD, sw.same (u := U) (U := U.calling g mk a) rfl zS⟩, va_recv hKc hPc (ci := 8) (q0 := 0) rfl rfl, fun U hU hW => ⟨rfl, by rw [hU], va_P.he hU.symm hPc, va_K.moved hW.alike hKc, hDc.weaken (fun _ _ _ _ => trivial), hSW.call hS hFc hW hU⟩⟩ rfl rfl hl.1 rfl (lv_room (Nat.le_of_ble_eq_true rfl)) d_SC_begin_56 ⟨(Nat.zero_le _), (Nat.zero_le _)⟩) hS (fun q _ h => hFc q h) hFc (fun u t H1 locs ht hvm hw hB hz1 hk1 hS => ?_)
          obtain ⟨n10, n11, n12⟩ := u
          try dsimp only at hw
          obtain ⟨bn10, bn11, xr9⟩ := hw
          try clear hw
          obtain ⟨hP1, hK1, hD1⟩ := hB
          replace hP1 := va_P.he ht hP1
          obtain ⟨hP, hD⟩ := va_join (wr := [(ss, .inl (css, 2001, .inr (.inr (.inr (.inr (fun j => (j24_ss j).map (sg sa))))))), (sp, .inl (csp, 2001, .inl j24_sp)), (szs, .inl (cszs, 2001, .inl j24_szs)), (sv, .inl (csv, 2001, .inr (.inl j24_sv)))]) (w1 := (wz_104 h0 tr (sg sa n10) n8 n11 n12 ss sp szs sv j24_h0_length h0_at tr tx tr_length tx ctx gtx)) hP hD [4, 5, 6] [0, 1, 2, 3] rfl rfl (by decide) (by decide) hk1 hFc hP1 hD1
          clear hPc hDc hKc hFc hz1 hk1 hP1 hK1 hD1
          rename Heap => H
          have hP : va_P (dC, dI) cls (wz_109 ss css (fun j => (j24_ss j).map (sg sa)) sp csp j24_sp szs cszs j24_szs sv csv j24_sv h0 tr (sg sa n10) n8 n11 n12 ss sp szs sv j24_h0_length h0_at tr tx tr_length tx ctx gtx) H := hP
          have hD : va_D A (wz_109 ss css (fun j => (j24_ss j).map (sg sa)) sp csp j24_sp szs cszs j24_szs sv csv j24_sv h0 tr (sg sa n10) n8 n11 n12 ss sp szs sv j24_h0_length h0_at tr tx tr_length tx ctx gtx) := hD
          refine lv_aload_n hx hb d_SC_begin_59 rfl (lv_at hl 0 rfl) ?_
          have hPc := hP.sb (wq := (wz_106 h0 tr (sg sa n10) n8 n11 n12 ss sp szs sv j24_h0_length h0_at ss css (fun j => (j24_ss j).map (sg sa)) sp csp j24_sp szs cszs j24_szs sv csv j24_sv)) [4, 0, 1, 2, 3] rfl
          have hDc := hD.sb (wq := (wz_106 h0 tr (sg sa n10) n8 n11 n12 ss sp szs sv j24_h0_length h0_at ss css (fun j => (j24_ss j).map (sg sa)) sp csp j24_sp szs cszs j24_szs sv csv j24_sv)) [4, 0, 1, 2, 3] (by decide) rfl
          have hKc := hK.sb (tyq := [(css, .object "WaferForge$Sign"), (csp, .int), (cszs, .int), (csv, .long)]) [1, 2, 3, 4] rfl
          have hFc := va_free (wc := (wz_106 h0 tr (sg sa n10) n8 n11 n12 ss sp szs sv j24_h0_length h0_at ss css (fun j => (j24_ss j).map (sg sa)) sp csp j24_sp szs cszs j24_szs sv csv j24_sv)) hD hS hA [4, 0, 1, 2, 3] rfl
          refine va_callv (va_runV (As := []) (rest := []) ⟨hx, hb, hml, hown, hts⟩ (c_SC_keep l dC dI H.size sa h0 tr ss sp szs sv css csp cszs csv n10 n8 n11 n12 j24_h0_length h0_at j24_ss j24_sp j24_szs j24_sv (bn10) (bn8) (bn11) (b_j24_h0_length) (by (first | (apply Int.le_antisymm <;> omega) | omega))) (cwV 0 hts (gV kM_SC_61 kV_SC_keep kS_SC_keep kI_SC kC_SC_keep) rfl rfl rfl (by decide +kernel) ⟨Nat.le_of_ble_eq_true rfl, Nat.le_of_ble_eq_true rfl⟩) ⟨fun a U g mk z => by obtain ⟨z0, z1, zP, zK, zD, zS⟩ := z; exact ⟨z0, z1, zP, va_K.moved (u := U) (U := U.calling g mk a) (Vm.Alike.refl U.vm) zK, zD, sw.same (u := U) (U := U.calling g mk a) rfl zS⟩, va_recv hKc hPc (ci := 8) (q0 := 0) rfl rfl, fun U hU hW => ⟨rfl, by rw [hU], va_P.he hU.symm hPc, va_K.moved hW.alike hKc, hDc.weaken (fun _ _ _ _ => trivial), hSW.call hS hFc hW hU⟩⟩ rfl rfl hl.1 rfl (lv_room (Nat.le_of_ble_eq_true rfl)) d_SC_begin_60 ⟨(Nat.zero_le _), (Nat.zero_le _)⟩) hS (fun q _ h => hFc q h) hFc (fun u t H1 locs ht hvm hw hB hz1 hk1 hS => ?_)
          obtain ⟨n14, n15, n16, n17, n18⟩ := u
          try dsimp only at hw
          obtain ⟨bn18, xr13⟩ := hw
          try clear hw
          obtain ⟨hP1, hK1, hD1⟩ := hB
          replace hP1 := va_P.he ht hP1
          obtain ⟨hP, hD⟩ := va_join (wr := [(tr, .inr (1, [.ref tx, .int tr_length])), (tx, .inl (ctx, 2000, .inl gtx))]) (w1 := (wz_106 h0 tr (sg sa n10) n8 n11 n12 ss sp szs sv n18 h0_at ss css (fun j => (n15 j).map (sg sa)) sp csp n14 szs cszs n17 sv csv n16)) hP hD [4, 0, 1, 2, 3] [5, 6] rfl rfl (by decide) (by decide) hk1 hFc hP1 hD1
          clear hPc hDc hKc hFc hz1 hk1 hP1 hK1 hD1
          rename Heap => H
          have hP : va_P (dC, dI) cls [(tr, .inr (1, [.ref tx, .int tr_length])), (tx, .inl (ctx, 2000, .inl gtx)), (h0, .inr (8, [.ref tr, .ref (sg sa n10), .int n8, .int n11, .long n12, .ref ss, .ref sp, .ref szs, .ref sv, .int n18, .int h0_at])), (ss, .inl (css, 2001, .inr (.inr (.inr (.inr (fun j => (n15 j).map (sg sa))))))), (sp, .inl (csp, 2001, .inl n14)), (szs, .inl (cszs, 2001, .inl n17)), (sv, .inl (csv, 2001, .inr (.inl n16)))] H := hP
          have hD : va_D A [(tr, .inr (1, [.ref tx, .int tr_length])), (tx, .inl (ctx, 2000, .inl gtx)), (h0, .inr (8, [.ref tr, .ref (sg sa n10), .int n8, .int n11, .long n12, .ref ss, .ref sp, .ref szs, .ref sv, .int n18, .int h0_at])), (ss, .inl (css, 2001, .inr (.inr (.inr (.inr (fun j => (n15 j).map (sg sa))))))), (sp, .inl (csp, 2001, .inl n14)), (szs, .inl (cszs, 2001, .inl n17)), (sv, .inl (csv, 2001, .inr (.inl n16)))] := hD
          obtain ⟨x19, ex19⟩ : ∃ z : Int32, z = j24_l1 + 1 := ⟨_, rfl⟩
          have tx19 : x19.toInt = j24_l1.toInt + 1 := by have z := i32_add ex19 (by (first | (apply Int.le_antisymm <;> omega) | omega)) (by (first | (apply Int.le_antisymm <;> omega) | omega)); first | exact z | (first | (apply Int.le_antisymm <;> omega) | omega)
          refine lv_iinc (v := x19) (lv' := [(1, .int x19), (0, .ref h0)]) hx hb d_SC_begin_63 hl (k := 1) rfl (by rw [ex19]; rfl) (by decide) rfl (fun ls hl => ?_)
          refine lv_goto (tgt := 24) hx hb d_SC_begin_66 (by decide) ?_
          obtain ⟨y1, y2, y3, y4, y5⟩ := xr13
          have c9 := i32_clamp (x := j24_h0_length) (by (first | (apply Int.le_antisymm <;> omega) | omega))
          have N9 := tkP_next (len := j24_h0_length.toNatClampNeg) (p := n8) (z := n11) (v := n12) (by rw [c9]; exact v2) (by by_cases z : j24_l1.toInt = 0; exact Or.inl (by (first | (apply Int.le_antisymm <;> omega) | omega)); exact Or.inr ⟨j24_h0_sign, by rw [show j24_h0_length.toNatClampNeg - 1 = (j24_l1.toInt - 1).toNat from by (first | (apply Int.le_antisymm <;> omega) | omega)]; exact (v3.2 (by (first | (apply Int.le_antisymm <;> omega) | omega))).1, by (first | (apply Int.le_antisymm <;> omega) | omega), by (first | (apply Int.le_antisymm <;> omega) | omega), by rw [show j24_h0_length.toNatClampNeg - 1 = (j24_l1.toInt - 1).toNat from by (first | (apply Int.le_antisymm <;> omega) | omega), (v3.2 (by (first | (apply Int.le_antisymm <;> omega) | omega))).2.1, (v3.2 (by (first | (apply Int.le_antisymm <;> omega) | omega))).2.2]; (first | (apply Int.le_antisymm <;> omega) | omega)⟩) bn10 ⟨by (first | (apply Int.le_antisymm <;> omega) | omega), by (first | (apply Int.le_antisymm <;> omega) | omega), by (first | (apply Int.le_antisymm <;> omega) | omega)⟩ xr9.2
          rw [← y2, ← y3, ← y4, ← y5, show ((j24_h0_length.toNatClampNeg : Nat) : Int) + 1 = n18.toInt from by (first | (apply Int.le_antisymm <;> omega) | omega)] at N9
          exact ih24 (x19, n14, n15, n16, n17, n18, n8, n10, n11, n12) _ _ _ (by show (2001 - x19.toInt).toNat < N24; (first | (apply Int.le_antisymm <;> omega) | omega)) ⟨by (try dsimp only) <;> (first | (apply Int.le_antisymm <;> omega) | omega), bn18, bn8, bn10, bn11, by (try dsimp only) <;> (first | (apply Int.le_antisymm <;> omega) | omega), xr9.1, N9, ⟨fun z => absurd z (by (try dsimp only); (first | (apply Int.le_antisymm <;> omega) | omega)), fun _ => by rw [show (x19.toInt - 1).toNat = j24_h0_length.toNatClampNeg from by (first | (apply Int.le_antisymm <;> omega) | omega), y2, y3, y4]; exact ⟨va_us, pk_us, pk_us⟩⟩, fun z1 z2 => by have z3 := xr9.2.1 z1 z2; (try dsimp only); have z4 := v4 (by (first | (apply Int.le_antisymm <;> omega) | omega)) (by (first | (apply Int.le_antisymm <;> omega) | omega)); (first | (apply Int.le_antisymm <;> omega) | omega), hP.sub [2, 0, 1, 3, 4, 5, 6] rfl, hD.sub [2, 0, 1, 3, 4, 5, 6] (by decide) rfl, hS, lv_sub hl [1, 0] rfl⟩
end q_41
section q_42
/-! Program: refusals, steps -/
abbrev b_PR_refuse : ByteArray := prog_8_method_2_code
def y_PR_refuse : MethodName := ⟨R_PR, "refuse", "(II)V"⟩
abbrev w_PR_refuse : List Cond := .code y_PR_refuse b_PR_refuse 3 none :: lw_g
theorem kC_PR_refuse : Cond.code y_PR_refuse b_PR_refuse 3 none ∈ lw_g := in_c4 179 rfl rfl
theorem d_PR_refuse_0 : decode b_PR_refuse 0 = .ok (.aload_n 0, 1) := bz_c42 (by decide +kernel)
theorem d_PR_refuse_1 : decode b_PR_refuse 1 = .ok (.iload_n 1, 1) := bz_c27 (by decide +kernel)
theorem d_PR_refuse_2 : decode b_PR_refuse 2 = .ok (.putfield 68, 3) := bz_c181 (by decide +kernel)
theorem d_PR_refuse_5 : decode b_PR_refuse 5 = .ok (.aload_n 0, 1) := bz_c42 (by decide +kernel)
theorem d_PR_refuse_6 : decode b_PR_refuse 6 = .ok (.iload_n 2, 1) := bz_c28 (by decide +kernel)
theorem d_PR_refuse_7 : decode b_PR_refuse 7 = .ok (.putfield 72, 3) := bz_c181 (by decide +kernel)
theorem d_PR_refuse_10 : decode b_PR_refuse 10 = .ok (.new 75, 3) := bz_c187 (by decide +kernel)
theorem d_PR_refuse_13 : decode b_PR_refuse 13 = .ok (.dup, 1) := bz_c89 (by decide +kernel)
theorem d_PR_refuse_14 : decode b_PR_refuse 14 = .ok (.invokespecial 77, 3) := bz_c183 (by decide +kernel)
theorem d_PR_refuse_17 : decode b_PR_refuse 17 = .ok (.athrow, 1) := bz_c191 (by decide +kernel)
theorem kF_PR_68 : Cond.fieldLink R_PR 68 "WaferForge$Program" "reason" "I" ∈ lw_g := in_c2 120 rfl rfl
theorem kF_PR_72 : Cond.fieldLink R_PR 72 "WaferForge$Program" "place" "I" ∈ lw_g := in_c2 122 rfl rfl
abbrev at_PR_refuse (dC : Nat → ClassId) (dI : Nat → Nat → Nat) (sa : Nat → Nat) (h0 gl fu pa pf sf pk pg pp pz pv sc wg wp : Nat) (h0_stepCount : Int32) (h0_open : Int32) (h0_twoSides : Int32) (h0_waitingCount : Int32) (A : Nat → Prop) (u : Int32 × Int32) (t : State) : Prop := match u with | (h0_place, h0_reason) => va_P (dC, dI) cls (wz_110 h0 gl fu pa pf sf pk pg pp pz pv h0_reason h0_place sc h0_stepCount h0_open h0_twoSides wg wp h0_waitingCount) t.heap ∧ va_K (dC, dI) cls [] t ∧ va_D A (wz_110 h0 gl fu pa pf sf pk pg pp pz pv h0_reason h0_place sc h0_stepCount h0_open h0_twoSides wg wp h0_waitingCount)
set_option maxHeartbeats 4000000 in
set_option maxRecDepth 100000 in
theorem c_PR_refuse (l : Launch) (hlt : l.stackTraces = false) (dC : Nat → ClassId) (dI : Nat → Nat → Nat) (sz : Nat) (sa : Nat → Nat) (h0 gl fu pa pf sf pk pg pp pz pv sc wg wp : Nat) (h0_reason : Int32) (h0_place : Int32) (h0_stepCount : Int32) (h0_open : Int32) (h0_twoSides : Int32) (h0_waitingCount : Int32)   (p0 : Int32) (p1 : Int32)   : tz_Met l y_PR_refuse w_PR_refuse ({ frames := 6, cells := 1, slots := 6, locals := 90 }) (va_Pc [.ref h0, .int p0, .int p1] (fun U => U.heap.size = sz ∧ va_P (dC, dI) cls (wz_110 h0 gl fu pa pf sf pk pg pp pz pv h0_reason h0_place sc h0_stepCount h0_open h0_twoSides wg wp h0_waitingCount) U.heap ∧ va_K (dC, dI) cls [] U ∧ va_D (fun _ => True) (wz_110 h0 gl fu pa pf sf pk pg pp pz pv h0_reason h0_place sc h0_stepCount h0_open h0_twoSides wg wp h0_waitingCount) ∧ sw sa (va_A (wz_110 h0 gl fu pa pf sf pk pg pp pz pv h0_reason h0_place sc h0_stepCount h0_open h0_twoSides wg wp h0_waitingCount) sz) U U.heap)) (tq_Q (tq_v (fun (u : Int32 × Int32) => match u with | (h0_place2, h0_reason2) => (False)) "java/lang/UnsupportedOperationException" (fun (u : Int32 × Int32) => match u with | (h0_place2, h0_reason2) => True)) (at_PR_refuse dC dI sa h0 gl fu pa pf sf pk pg pp pz pv sc wg wp h0_stepCount h0_open h0_twoSides h0_waitingCount (va_A (wz_110 h0 gl fu pa pf sf pk pg pp pz pv h0_reason h0_place sc h0_stepCount h0_open h0_twoSides wg wp h0_waitingCount) sz)) (va_A (wz_110 h0 gl fu pa pf sf pk pg pp pz pv h0_reason h0_place sc h0_stepCount h0_open h0_twoSides wg wp h0_waitingCount) sz)) (tz_k 0 0 1 6) (va_A (wz_110 h0 gl fu pa pf sf pk pg pp pz pv h0_reason h0_place sc h0_stepCount h0_open h0_twoSides wg wp h0_waitingCount) sz) := by
  refine tz_ofW (cc := b_PR_refuse) (maxL := 3) (ret := none) (by decide) rfl ?_
  intro p e s m args below meth c s₁ B hml hno hv
  obtain ⟨rfl, hsz, hP, hK, hD0, hSW⟩ := hv
  have hx := B.exec
  have hb := B.bytes
  have hr := B.returns
  have hts0 := atoms_spec (ws := w_PR_refuse) B.pre
  have hts : ∀ w ∈ lw_g, w.before _ s = true := fun w h => hts0 w (List.mem_cons_of_mem _ h)
  have hown : s.vm.findClass R_PR = some m.cls := findClass_of_methodNamed B.named
  have hlocks := B.notSynchronized
  clear hts0
  subst hsz
  have hD := hD0.self (sz := s.heap.size)
  generalize hAe : va_A (wz_110 h0 gl fu pa pf sf pk pg pp pz pv h0_reason h0_place sc h0_stepCount h0_open h0_twoSides wg wp h0_waitingCount) s.heap.size = A at hD hSW ⊢
  have hA : ∀ q : Nat, s.heap.size ≤ q → A q := fun q h => by rw [← hAe]; exact Or.inr h
  clear hAe
  have hP : va_P (dC, dI) cls (wz_110 h0 gl fu pa pf sf pk pg pp pz pv h0_reason h0_place sc h0_stepCount h0_open h0_twoSides wg wp h0_waitingCount) s.heap := hP
  have hl := lv_entry ([.ref h0, .int p0, .int p1]) (n := 3) (Nat.le_of_ble_eq_true rfl)
  rw [lg_entry_eq]
  generalize (lg_sl ([.ref h0, .int p0, .int p1]) ++ List.replicate (3 - (lg_sl ([.ref h0, .int p0, .int p1])).length) Slot.unset).toArray = ls at hl ⊢
  have hl : lv_has ls 3 [(0, .ref h0), (1, .int p0), (2, .int p1)] := hl
  have k0 : (0 : Int32).toInt = 0 := by decide
  refine w_gen (A := A) hP (fun H locs hP hS => ?_)
  have lo_p0 := i32_lo p0
  have hi_p0 := i32_hi p0
  have lo_p1 := i32_lo p1
  have hi_p1 := i32_hi p1
  refine lv_aload_n hx hb d_PR_refuse_0 rfl (lv_at hl 0 rfl) ?_
  refine lv_iload_n hx hb d_PR_refuse_1 rfl (lv_at hl 1 rfl) ?_
  refine va_put (D := (dC, dI)) (ci := 6) (v := .int p0) (ty := .int) (C := R_PR) (T := F_PR) (N := 19) hx hb hts i_PR t_PR t_PR_ok n_PR hown hK hP hD hS 0 rfl rfl 10 (by decide) (hts _ kF_PR_68) (fun _ h9 => h9) rfl (by decide +kernel) rfl rfl (Nat.le_of_ble_eq_true rfl) d_PR_refuse_2 (fun H locs hP hD hS => ?_)
  refine lv_aload_n hx hb d_PR_refuse_5 rfl (lv_at hl 0 rfl) ?_
  refine lv_iload_n hx hb d_PR_refuse_6 rfl (lv_at hl 2 rfl) ?_
  refine va_put (D := (dC, dI)) (ci := 6) (v := .int p1) (ty := .int) (C := R_PR) (T := F_PR) (N := 19) hx hb hts i_PR t_PR t_PR_ok n_PR hown hK hP hD hS 0 rfl rfl 11 (by decide) (hts _ kF_PR_72) (fun _ h9 => h9) rfl (by decide +kernel) rfl rfl (Nat.le_of_ble_eq_true rfl) d_PR_refuse_7 (fun H locs hP hD hS => ?_)
  have hP9 := hP.sb (wq := (wz_110 h0 gl fu pa pf sf pk pg pp pz pv p0 p1 sc h0_stepCount h0_open h0_twoSides wg wp h0_waitingCount)) [0] rfl
  have hD9 := hD.sb (wq := (wz_110 h0 gl fu pa pf sf pk pg pp pz pv p0 p1 sc h0_stepCount h0_open h0_twoSides wg wp h0_waitingCount)) [0] (by decide) rfl
  exact tz_throwNew hx hb hno hlocks hlt (hl.1.trans hml.symm) hown (by decide +kernel) (by decide +kernel) (fun U hU hW => eb_PR_uo hts hSW hS U hU hW) d_PR_refuse_10 d_PR_refuse_13 d_PR_refuse_14 d_PR_refuse_17 (by decide) (Nat.le_of_ble_eq_true rfl) (Nat.le_of_ble_eq_true rfl) (Nat.le_of_ble_eq_true rfl) (fun _ => rfl) (fun x t h1 h2 h3 h4 => ⟨⟨(p1, p0), ⟨trivial, h3⟩, vp_ext hP9 h2, va_K.moved h4.alike hK, hD9⟩, vs_ext hS h1 h2⟩) hS.2.2
abbrev b_PR_refuseOneMore : ByteArray := prog_8_method_23_code
def y_PR_refuseOneMore : MethodName := ⟨R_PR, "refuseOneMore", "()V"⟩
abbrev w_PR_refuseOneMore : List Cond := .code y_PR_refuseOneMore b_PR_refuseOneMore 1 none :: lw_g
theorem kC_PR_refuseOneMore : Cond.code y_PR_refuseOneMore b_PR_refuseOneMore 1 none ∈ lw_g := in_c4 174 rfl rfl
theorem d_PR_refuseOneMore_0 : decode b_PR_refuseOneMore 0 = .ok (.aload_n 0, 1) := bz_c42 (by decide +kernel)
theorem d_PR_refuseOneMore_1 : decode b_PR_refuseOneMore 1 = .ok (.aload_n 0, 1) := bz_c42 (by decide +kernel)
theorem d_PR_refuseOneMore_2 : decode b_PR_refuseOneMore 2 = .ok (.getfield 43, 3) := bz_c180 (by decide +kernel)
theorem d_PR_refuseOneMore_5 : decode b_PR_refuseOneMore 5 = .ok (.getfield 93, 3) := bz_c180 (by decide +kernel)
theorem d_PR_refuseOneMore_8 : decode b_PR_refuseOneMore 8 = .ok (.getstatic 277, 3) := bz_c178 (by decide +kernel)
theorem d_PR_refuseOneMore_11 : decode b_PR_refuseOneMore 11 = .ok (.if_acmp .ne 7, 3) := bz_c166 (by decide +kernel)
theorem d_PR_refuseOneMore_14 : decode b_PR_refuseOneMore 14 = .ok (.iconst 1, 1) := bz_c4 (by decide +kernel)
theorem d_PR_refuseOneMore_15 : decode b_PR_refuseOneMore 15 = .ok (.goto 4, 3) := bz_c167 (by decide +kernel)
theorem d_PR_refuseOneMore_18 : decode b_PR_refuseOneMore 18 = .ok (.iconst 5, 1) := bz_c8 (by decide +kernel)
theorem d_PR_refuseOneMore_19 : decode b_PR_refuseOneMore 19 = .ok (.aload_n 0, 1) := bz_c42 (by decide +kernel)
theorem d_PR_refuseOneMore_20 : decode b_PR_refuseOneMore 20 = .ok (.getfield 43, 3) := bz_c180 (by decide +kernel)
theorem d_PR_refuseOneMore_23 : decode b_PR_refuseOneMore 23 = .ok (.getfield 109, 3) := bz_c180 (by decide +kernel)
theorem d_PR_refuseOneMore_26 : decode b_PR_refuseOneMore 26 = .ok (.invokevirtual 110, 3) := bz_c182 (by decide +kernel)
theorem d_PR_refuseOneMore_29 : decode b_PR_refuseOneMore 29 = .ok (.return_, 1) := bz_c177 (by decide +kernel)
theorem kM_PR_110 : Cond.methodLink R_PR 110 y_PR_refuse ∈ lw_g := in_c4 176 rfl rfl
theorem kV_PR_refuse : Cond.instanceMethod y_PR_refuse ∈ lw_g := in_c4 177 rfl rfl
theorem kS_PR_refuse : Cond.selects R_PR y_PR_refuse y_PR_refuse ∈ lw_g := in_c4 178 rfl rfl
theorem kF_PR_43 : Cond.fieldLink R_PR 43 "WaferForge$Program" "scanner" "LWaferForge$Scanner;" ∈ lw_g := in_c2 124 rfl rfl
theorem kF_PR_93 : Cond.fieldLink R_PR 93 "WaferForge$Scanner" "sign" "LWaferForge$Sign;" ∈ lw_g := in_c2 27 rfl rfl
theorem kF_PR_277 : Cond.fieldLink R_PR 277 "WaferForge$Sign" "WRONG" "LWaferForge$Sign;" ∈ lw_g := in_c4 175 rfl rfl
theorem kF_PR_109 : Cond.fieldLink R_PR 109 "WaferForge$Scanner" "place" "I" ∈ lw_g := in_c2 29 rfl rfl
abbrev at_PR_refuseOneMore (dC : Nat → ClassId) (dI : Nat → Nat → Nat) (sa : Nat → Nat) (h0 gl fu pa pf sf pk pg pp pz pv sc wg wp tr ss sp szs sv : Nat) (h0_stepCount : Int32) (h0_open : Int32) (h0_twoSides : Int32) (h0_waitingCount : Int32) (sc_sign : Nat) (sc_place : Int32) (sc_size : Int32) (sc_value : Int64) (sc_length : Int32) (sc_at : Int32) (A : Nat → Prop) (u : Int32 × Int32) (t : State) : Prop := match u with | (h0_place, h0_reason) => va_P (dC, dI) cls (wz_111 h0 gl fu pa pf sf pk pg pp pz pv h0_reason h0_place sc h0_stepCount h0_open h0_twoSides wg wp h0_waitingCount sc tr (sg sa sc_sign) sc_place sc_size sc_value ss sp szs sv sc_length sc_at) t.heap ∧ va_K (dC, dI) cls [] t ∧ va_D A (wz_111 h0 gl fu pa pf sf pk pg pp pz pv h0_reason h0_place sc h0_stepCount h0_open h0_twoSides wg wp h0_waitingCount sc tr (sg sa sc_sign) sc_place sc_size sc_value ss sp szs sv sc_length sc_at)
set_option maxHeartbeats 4000000 in
set_option maxRecDepth 100000 in
theorem c_PR_refuseOneMore (l : Launch) (hlt : l.stackTraces = false) (dC : Nat → ClassId) (dI : Nat → Nat → Nat) (sz : Nat) (sa : Nat → Nat) (h0 gl fu pa pf sf pk pg pp pz pv sc wg wp tr ss sp szs sv : Nat) (h0_reason : Int32) (h0_place : Int32) (h0_stepCount : Int32) (h0_open : Int32) (h0_twoSides : Int32) (h0_waitingCount : Int32) (sc_sign : Nat) (sc_place : Int32) (sc_size : Int32) (sc_value : Int64) (sc_length : Int32) (sc_at : Int32)  (b_sc_sign : sc_sign < 55) (b_sc_place : 0 ≤ sc_place.toInt ∧ sc_place.toInt ≤ 2000)    : tz_Met l y_PR_refuseOneMore w_PR_refuseOneMore ({ frames := 7, cells := 1, slots := 6, locals := 112 }) (va_Pc [.ref h0] (fun U => U.heap.size = sz ∧ va_P (dC, dI) cls (wz_111 h0 gl fu pa pf sf pk pg pp pz pv h0_reason h0_place sc h0_stepCount h0_open h0_twoSides wg wp h0_waitingCount sc tr (sg sa sc_sign) sc_place sc_size sc_value ss sp szs sv sc_length sc_at) U.heap ∧ va_K (dC, dI) cls [] U ∧ va_D (fun _ => True) (wz_111 h0 gl fu pa pf sf pk pg pp pz pv h0_reason h0_place sc h0_stepCount h0_open h0_twoSides wg wp h0_waitingCount sc tr (sg sa sc_sign) sc_place sc_size sc_value ss sp szs sv sc_length sc_at) ∧ sw sa (va_A (wz_111 h0 gl fu pa pf sf pk pg pp pz pv h0_reason h0_place sc h0_stepCount h0_open h0_twoSides wg wp h0_waitingCount sc tr (sg sa sc_sign) sc_place sc_size sc_value ss sp szs sv sc_length sc_at) sz) U U.heap)) (tq_Q (tq_v (fun (u : Int32 × Int32) => match u with | (h0_place2, h0_reason2) => (False)) "java/lang/UnsupportedOperationException" (fun (u : Int32 × Int32) => match u with | (h0_place2, h0_reason2) => True)) (at_PR_refuseOneMore dC dI sa h0 gl fu pa pf sf pk pg pp pz pv sc wg wp tr ss sp szs sv h0_stepCount h0_open h0_twoSides h0_waitingCount sc_sign sc_place sc_size sc_value sc_length sc_at (va_A (wz_111 h0 gl fu pa pf sf pk pg pp pz pv h0_reason h0_place sc h0_stepCount h0_open h0_twoSides wg wp h0_waitingCount sc tr (sg sa sc_sign) sc_place sc_size sc_value ss sp szs sv sc_length sc_at) sz)) (va_A (wz_111 h0 gl fu pa pf sf pk pg pp pz pv h0_reason h0_place sc h0_stepCount h0_open h0_twoSides wg wp h0_waitingCount sc tr (sg sa sc_sign) sc_place sc_size sc_value ss sp szs sv sc_length sc_at) sz)) (tz_k 0 0 1 6) (va_A (wz_111 h0 gl fu pa pf sf pk pg pp pz pv h0_reason h0_place sc h0_stepCount h0_open h0_twoSides wg wp h0_waitingCount sc tr (sg sa sc_sign) sc_place sc_size sc_value ss sp szs sv sc_length sc_at) sz) := by
  refine tz_ofW (cc := b_PR_refuseOneMore) (maxL := 1) (ret := none) (by decide) rfl ?_
  intro p e s m args below meth c s₁ B hml hno hv
  obtain ⟨rfl, hsz, hP, hK, hD0, hSW⟩ := hv
  have hx := B.exec
  have hb := B.bytes
  have hr := B.returns
  have hts0 := atoms_spec (ws := w_PR_refuseOneMore) B.pre
  have hts : ∀ w ∈ lw_g, w.before _ s = true := fun w h => hts0 w (List.mem_cons_of_mem _ h)
  have hown : s.vm.findClass R_PR = some m.cls := findClass_of_methodNamed B.named
  have hlocks := B.notSynchronized
  clear hts0
  subst hsz
  have hD := hD0.self (sz := s.heap.size)
  generalize hAe : va_A (wz_111 h0 gl fu pa pf sf pk pg pp pz pv h0_reason h0_place sc h0_stepCount h0_open h0_twoSides wg wp h0_waitingCount sc tr (sg sa sc_sign) sc_place sc_size sc_value ss sp szs sv sc_length sc_at) s.heap.size = A at hD hSW ⊢
  have hA : ∀ q : Nat, s.heap.size ≤ q → A q := fun q h => by rw [← hAe]; exact Or.inr h
  clear hAe
  have hP : va_P (dC, dI) cls (wz_111 h0 gl fu pa pf sf pk pg pp pz pv h0_reason h0_place sc h0_stepCount h0_open h0_twoSides wg wp h0_waitingCount sc tr (sg sa sc_sign) sc_place sc_size sc_value ss sp szs sv sc_length sc_at) s.heap := hP
  have hl := lv_entry ([.ref h0]) (n := 1) (Nat.le_of_ble_eq_true rfl)
  rw [lg_entry_eq]
  generalize (lg_sl ([.ref h0]) ++ List.replicate (1 - (lg_sl ([.ref h0])).length) Slot.unset).toArray = ls at hl ⊢
  have hl : lv_has ls 1 [(0, .ref h0)] := hl
  have k0 : (0 : Int32).toInt = 0 := by decide
  refine w_gen (A := A) hP (fun H locs hP hS => ?_)
  have k1 : (1 : Int32).toInt = 1 := by decide
  have k5 : (5 : Int32).toInt = 5 := by decide
  refine lv_aload_n hx hb d_PR_refuseOneMore_0 rfl (lv_at hl 0 rfl) ?_
  refine lv_aload_n hx hb d_PR_refuseOneMore_1 rfl (lv_at hl 0 rfl) ?_
  refine va_get (D := (dC, dI)) (ci := 6) (v := .ref sc) (C := R_PR) (T := F_PR) (N := 19) hx hb hts i_PR hown hK hP 0 rfl rfl 12 (by decide) (hts _ kF_PR_43) (fun _ h9 => h9) rfl d_PR_refuseOneMore_2 ?_
  refine va_get (D := (dC, dI)) (ci := 8) (v := .ref (sg sa sc_sign)) (C := R_SC) (T := F_SC) (N := 11) hx hb hts i_SC hown hK hP 1 rfl rfl 1 (by decide) (hts _ kF_PR_93) (fun _ h9 => h9) rfl d_PR_refuseOneMore_5 ?_
  refine va_gets (C := "WaferForge$Sign") (n := "WRONG") (d := "LWaferForge$Sign;") (v := .ref (sg sa 1)) hx hb ((hSW.2.2.2.1.1 1 (by decide)).1) hS hown (hts _ kF_PR_277) (fun _ h9 => h9) d_PR_refuseOneMore_8 ?_
  refine w_cut (pc2 := 19) (σ := Int32) (fun u H locs ls => match u with | j19_s0 => va_P (dC, dI) cls (wz_111 h0 gl fu pa pf sf pk pg pp pz pv h0_reason h0_place sc h0_stepCount h0_open h0_twoSides wg wp h0_waitingCount sc tr (sg sa sc_sign) sc_place sc_size sc_value ss sp szs sv sc_length sc_at) H ∧ va_D A (wz_111 h0 gl fu pa pf sf pk pg pp pz pv h0_reason h0_place sc h0_stepCount h0_open h0_twoSides wg wp h0_waitingCount sc tr (sg sa sc_sign) sc_place sc_size sc_value ss sp szs sv sc_length sc_at) ∧ va_S A s.heap H locs ∧ lv_has ls 1 [(0, .ref h0)]) (fun u => match u with | j19_s0 => [.int j19_s0, .ref h0]) ?_ (fun jn19 => ?_)
  · intro u H locs ls hI
    obtain ⟨j19_s0, rfl⟩ : ∃ z, z = u := ⟨_, rfl⟩
    obtain ⟨hP, hD, hS, hl⟩ := hI
    refine lv_aload_n hx hb d_PR_refuseOneMore_19 rfl (lv_at hl 0 rfl) ?_
    refine va_get (D := (dC, dI)) (ci := 6) (v := .ref sc) (C := R_PR) (T := F_PR) (N := 19) hx hb hts i_PR hown hK hP 0 rfl rfl 12 (by decide) (hts _ kF_PR_43) (fun _ h9 => h9) rfl d_PR_refuseOneMore_20 ?_
    refine va_get (D := (dC, dI)) (ci := 8) (v := .int sc_place) (C := R_SC) (T := F_SC) (N := 11) hx hb hts i_SC hown hK hP 1 rfl rfl 2 (by decide) (hts _ kF_PR_109) (fun _ h9 => h9) rfl d_PR_refuseOneMore_23 ?_
    have hPc := hP.sb (wq := (wz_110 h0 gl fu pa pf sf pk pg pp pz pv h0_reason h0_place sc h0_stepCount h0_open h0_twoSides wg wp h0_waitingCount)) [0] rfl
    have hDc := hD.sb (wq := (wz_110 h0 gl fu pa pf sf pk pg pp pz pv h0_reason h0_place sc h0_stepCount h0_open h0_twoSides wg wp h0_waitingCount)) [0] (by decide) rfl
    have hKc := hK.sb (tyq := []) [] rfl
    have hFc := va_free (wc := (wz_110 h0 gl fu pa pf sf pk pg pp pz pv h0_reason h0_place sc h0_stepCount h0_open h0_twoSides wg wp h0_waitingCount)) hD hS hA [0] rfl
    refine tq_callv (tz_runV (As := [.int j19_s0, .int sc_place]) (rest := []) ⟨hx, hb, hml, hown, hts⟩ (c_PR_refuse l hlt dC dI H.size sa h0 gl fu pa pf sf pk pg pp pz pv sc wg wp h0_reason h0_place h0_stepCount h0_open h0_twoSides h0_waitingCount j19_s0 sc_place) (cwV 2 hts (gV kM_PR_110 kV_PR_refuse kS_PR_refuse kI_PR kC_PR_refuse) rfl rfl rfl (by decide +kernel) ⟨Nat.le_of_ble_eq_true rfl, Nat.le_of_ble_eq_true rfl⟩) ⟨fun a U g mk z => by obtain ⟨z0, z1, zP, zK, zD, zS⟩ := z; exact ⟨z0, z1, zP, va_K.moved (u := U) (U := U.calling g mk a) (Vm.Alike.refl U.vm) zK, zD, sw.same (u := U) (U := U.calling g mk a) rfl zS⟩, va_recv hKc hPc (ci := 6) (q0 := 0) rfl rfl, fun U hU hW => ⟨rfl, by rw [hU], va_P.he hU.symm hPc, va_K.moved hW.alike hKc, hDc.weaken (fun _ _ _ _ => trivial), hSW.call hS hFc hW hU⟩⟩ rfl rfl hl.1 rfl (lv_room (Nat.le_of_ble_eq_true rfl)) d_PR_refuseOneMore_26 ⟨Nat.le_of_ble_eq_true rfl, Nat.le_of_ble_eq_true rfl⟩) hS (fun q _ h => hFc q h) hFc (fun u t H1 locs ht hvm hw hB hz1 hk1 hS => ?_) (fun xx u t H1 locs ht hvm hw hXX hB hz1 hk1 hS => ?_)
    rotate_left
    · skip
      obtain ⟨n2, n3⟩ := u
      try dsimp only at hw
      obtain ⟨hP1, hK1, hD1⟩ := hB
      replace hP1 := va_P.he ht hP1
      obtain ⟨hP, hD⟩ := va_join (wr := (wz_105 sc tr (sg sa sc_sign) sc_place sc_size sc_value ss sp szs sv sc_length sc_at)) (w1 := (wz_110 h0 gl fu pa pf sf pk pg pp pz pv n3 n2 sc h0_stepCount h0_open h0_twoSides wg wp h0_waitingCount)) hP hD [0] [1] rfl rfl (by decide) (by decide) hk1 hFc hP1 hD1
      have hP : va_P (dC, dI) cls [(sc, .inr (8, [.ref tr, .ref (sg sa sc_sign), .int sc_place, .int sc_size, .long sc_value, .ref ss, .ref sp, .ref szs, .ref sv, .int sc_length, .int sc_at])), (h0, .inr (6, [.ref gl, .ref fu, .ref pa, .ref pf, .ref sf, .ref pk, .ref pg, .ref pp, .ref pz, .ref pv, .int n3, .int n2, .ref sc, .int h0_stepCount, .int h0_open, .int h0_twoSides, .ref wg, .ref wp, .int h0_waitingCount]))] H1 := hP
      have hD : va_D A [(sc, .inr (8, [.ref tr, .ref (sg sa sc_sign), .int sc_place, .int sc_size, .long sc_value, .ref ss, .ref sp, .ref szs, .ref sv, .int sc_length, .int sc_at])), (h0, .inr (6, [.ref gl, .ref fu, .ref pa, .ref pf, .ref sf, .ref pk, .ref pg, .ref pp, .ref pz, .ref pv, .int n3, .int n2, .ref sc, .int h0_stepCount, .int h0_open, .int h0_twoSides, .ref wg, .ref wp, .int h0_waitingCount]))] := hD
      have hP9 := hP.sb (wq := (wz_111 h0 gl fu pa pf sf pk pg pp pz pv n3 n2 sc h0_stepCount h0_open h0_twoSides wg wp h0_waitingCount sc tr (sg sa sc_sign) sc_place sc_size sc_value ss sp szs sv sc_length sc_at)) [1, 0] rfl
      have hD9 := hD.sb (wq := (wz_111 h0 gl fu pa pf sf pk pg pp pz pv n3 n2 sc h0_stepCount h0_open h0_twoSides wg wp h0_waitingCount sc tr (sg sa sc_sign) sc_place sc_size sc_value ss sp szs sv sc_length sc_at)) [1, 0] (by decide) rfl
      exact tz_leave rfl hno hlocks (fun t ht hW => ⟨⟨(n2, n3), ⟨trivial, by rw [ht]; exact hXX.moved hW.alike⟩, va_P.he ht.symm hP9, va_K.moved hW.alike hK, hD9⟩, hS.F ht⟩) hS.2.2
    exact (show False from hw).elim
  · skip
    refine lv_acmp_ne (rx := some (sg sa sc_sign)) (ry := some (sg sa 1)) (tgt := 18) hx hb d_PR_refuseOneMore_11 (by decide) (fun c11 => ?_) (fun c11 => ?_)
    · have q11 : sc_sign ≠ 1 := fun z => c11 (by rw [z])
      refine lv_iconst (v := 5) hx hb d_PR_refuseOneMore_18 (by decide) ?_
      exact jn19 5 _ _ _ ⟨hP, hD, hS, lv_sub hl [0] rfl⟩
    · have q11 : sc_sign = 1 := hSW.2.2.2.1.2 sc_sign 1 b_sc_sign (by decide : 1 < 55) (Option.some.inj c11)
      refine lv_iconst (v := 1) hx hb d_PR_refuseOneMore_14 (by decide) ?_
      refine lv_goto (tgt := 19) hx hb d_PR_refuseOneMore_15 (by decide) ?_
      exact jn19 1 _ _ _ ⟨hP, hD, hS, lv_sub hl [0] rfl⟩
abbrev b_PR_enter : ByteArray := prog_8_method_22_code
def y_PR_enter : MethodName := ⟨R_PR, "enter", "()V"⟩
abbrev w_PR_enter : List Cond := .code y_PR_enter b_PR_enter 1 none :: lw_g
theorem kC_PR_enter : Cond.code y_PR_enter b_PR_enter 1 none ∈ lw_g := in_c5 13 rfl rfl
theorem d_PR_enter_0 : decode b_PR_enter 0 = .ok (.aload_n 0, 1) := bz_c42 (by decide +kernel)
theorem d_PR_enter_1 : decode b_PR_enter 1 = .ok (.getfield 84, 3) := bz_c180 (by decide +kernel)
theorem d_PR_enter_4 : decode b_PR_enter 4 = .ok (.bipush 40, 2) := bz_c16 (by decide +kernel)
theorem d_PR_enter_6 : decode b_PR_enter 6 = .ok (.if_icmp .lt 7, 3) := bz_c161 (by decide +kernel)
theorem d_PR_enter_9 : decode b_PR_enter 9 = .ok (.aload_n 0, 1) := bz_c42 (by decide +kernel)
theorem d_PR_enter_10 : decode b_PR_enter 10 = .ok (.invokevirtual 117, 3) := bz_c182 (by decide +kernel)
theorem d_PR_enter_13 : decode b_PR_enter 13 = .ok (.aload_n 0, 1) := bz_c42 (by decide +kernel)
theorem d_PR_enter_14 : decode b_PR_enter 14 = .ok (.dup, 1) := bz_c89 (by decide +kernel)
theorem d_PR_enter_15 : decode b_PR_enter 15 = .ok (.getfield 84, 3) := bz_c180 (by decide +kernel)
theorem d_PR_enter_18 : decode b_PR_enter 18 = .ok (.iconst 1, 1) := bz_c4 (by decide +kernel)
theorem d_PR_enter_19 : decode b_PR_enter 19 = .ok (.iadd, 1) := bz_c96 (by decide +kernel)
theorem d_PR_enter_20 : decode b_PR_enter 20 = .ok (.putfield 84, 3) := bz_c181 (by decide +kernel)
theorem d_PR_enter_23 : decode b_PR_enter 23 = .ok (.return_, 1) := bz_c177 (by decide +kernel)
theorem kM_PR_117 : Cond.methodLink R_PR 117 y_PR_refuseOneMore ∈ lw_g := in_c4 171 rfl rfl
theorem kV_PR_refuseOneMore : Cond.instanceMethod y_PR_refuseOneMore ∈ lw_g := in_c4 173 rfl rfl
theorem kS_PR_refuseOneMore : Cond.selects R_PR y_PR_refuseOneMore y_PR_refuseOneMore ∈ lw_g := in_s 9 (by decide +kernel) rfl
theorem kF_PR_84 : Cond.fieldLink R_PR 84 "WaferForge$Program" "open" "I" ∈ lw_g := in_c2 126 rfl rfl
abbrev at_PR_enter (dC : Nat → ClassId) (dI : Nat → Nat → Nat) (sa : Nat → Nat) (h0 gl fu pa pf sf pk pg pp pz pv sc wg wp tr ss sp szs sv : Nat) (h0_stepCount : Int32) (h0_twoSides : Int32) (h0_waitingCount : Int32) (sc_sign : Nat) (sc_place : Int32) (sc_size : Int32) (sc_value : Int64) (sc_length : Int32) (sc_at : Int32) (A : Nat → Prop) (u : Int32 × Int32 × Int32) (t : State) : Prop := match u with | (h0_open, h0_place, h0_reason) => va_P (dC, dI) cls (wz_111 h0 gl fu pa pf sf pk pg pp pz pv h0_reason h0_place sc h0_stepCount h0_open h0_twoSides wg wp h0_waitingCount sc tr (sg sa sc_sign) sc_place sc_size sc_value ss sp szs sv sc_length sc_at) t.heap ∧ va_K (dC, dI) cls [] t ∧ va_D A (wz_111 h0 gl fu pa pf sf pk pg pp pz pv h0_reason h0_place sc h0_stepCount h0_open h0_twoSides wg wp h0_waitingCount sc tr (sg sa sc_sign) sc_place sc_size sc_value ss sp szs sv sc_length sc_at)
set_option maxHeartbeats 4000000 in
set_option maxRecDepth 100000 in
theorem c_PR_enter (l : Launch) (hlt : l.stackTraces = false) (dC : Nat → ClassId) (dI : Nat → Nat → Nat) (sz : Nat) (sa : Nat → Nat) (h0 gl fu pa pf sf pk pg pp pz pv sc wg wp tr ss sp szs sv : Nat) (h0_reason : Int32) (h0_place : Int32) (h0_stepCount : Int32) (h0_open : Int32) (h0_twoSides : Int32) (h0_waitingCount : Int32) (sc_sign : Nat) (sc_place : Int32) (sc_size : Int32) (sc_value : Int64) (sc_length : Int32) (sc_at : Int32)  (b_h0_open : 0 ≤ h0_open.toInt ∧ h0_open.toInt ≤ 40) (b_sc_sign : sc_sign < 55) (b_sc_place : 0 ≤ sc_place.toInt ∧ sc_place.toInt ≤ 2000)    : tz_Met l y_PR_enter w_PR_enter ({ frames := 8, cells := 1, slots := 6, locals := 132 }) (va_Pc [.ref h0] (fun U => U.heap.size = sz ∧ va_P (dC, dI) cls (wz_111 h0 gl fu pa pf sf pk pg pp pz pv h0_reason h0_place sc h0_stepCount h0_open h0_twoSides wg wp h0_waitingCount sc tr (sg sa sc_sign) sc_place sc_size sc_value ss sp szs sv sc_length sc_at) U.heap ∧ va_K (dC, dI) cls [] U ∧ va_D (fun _ => True) (wz_111 h0 gl fu pa pf sf pk pg pp pz pv h0_reason h0_place sc h0_stepCount h0_open h0_twoSides wg wp h0_waitingCount sc tr (sg sa sc_sign) sc_place sc_size sc_value ss sp szs sv sc_length sc_at) ∧ sw sa (va_A (wz_111 h0 gl fu pa pf sf pk pg pp pz pv h0_reason h0_place sc h0_stepCount h0_open h0_twoSides wg wp h0_waitingCount sc tr (sg sa sc_sign) sc_place sc_size sc_value ss sp szs sv sc_length sc_at) sz) U U.heap)) (tq_Q (tq_v (fun (u : Int32 × Int32 × Int32) => match u with | (h0_open2, h0_place2, h0_reason2) => (0 ≤ h0_open2.toInt ∧ h0_open2.toInt ≤ 40) ∧ (h0_open2.toInt = h0_open.toInt + 1)) "java/lang/UnsupportedOperationException" (fun (u : Int32 × Int32 × Int32) => match u with | (h0_open2, h0_place2, h0_reason2) => (0 ≤ h0_open2.toInt ∧ h0_open2.toInt ≤ 40))) (at_PR_enter dC dI sa h0 gl fu pa pf sf pk pg pp pz pv sc wg wp tr ss sp szs sv h0_stepCount h0_twoSides h0_waitingCount sc_sign sc_place sc_size sc_value sc_length sc_at (va_A (wz_111 h0 gl fu pa pf sf pk pg pp pz pv h0_reason h0_place sc h0_stepCount h0_open h0_twoSides wg wp h0_waitingCount sc tr (sg sa sc_sign) sc_place sc_size sc_value ss sp szs sv sc_length sc_at) sz)) (va_A (wz_111 h0 gl fu pa pf sf pk pg pp pz pv h0_reason h0_place sc h0_stepCount h0_open h0_twoSides wg wp h0_waitingCount sc tr (sg sa sc_sign) sc_place sc_size sc_value ss sp szs sv sc_length sc_at) sz)) (tz_k 0 0 1 6) (va_A (wz_111 h0 gl fu pa pf sf pk pg pp pz pv h0_reason h0_place sc h0_stepCount h0_open h0_twoSides wg wp h0_waitingCount sc tr (sg sa sc_sign) sc_place sc_size sc_value ss sp szs sv sc_length sc_at) sz) := by
  refine tz_ofW (cc := b_PR_enter) (maxL := 1) (ret := none) (by decide) rfl ?_
  intro p e s m args below meth c s₁ B hml hno hv
  obtain ⟨rfl, hsz, hP, hK, hD0, hSW⟩ := hv
  have hx := B.exec
  have hb := B.bytes
  have hr := B.returns
  have hts0 := atoms_spec (ws := w_PR_enter) B.pre
  have hts : ∀ w ∈ lw_g, w.before _ s = true := fun w h => hts0 w (List.mem_cons_of_mem _ h)
  have hown : s.vm.findClass R_PR = some m.cls := findClass_of_methodNamed B.named
  have hlocks := B.notSynchronized
  clear hts0
  subst hsz
  have hD := hD0.self (sz := s.heap.size)
  generalize hAe : va_A (wz_111 h0 gl fu pa pf sf pk pg pp pz pv h0_reason h0_place sc h0_stepCount h0_open h0_twoSides wg wp h0_waitingCount sc tr (sg sa sc_sign) sc_place sc_size sc_value ss sp szs sv sc_length sc_at) s.heap.size = A at hD hSW ⊢
  have hA : ∀ q : Nat, s.heap.size ≤ q → A q := fun q h => by rw [← hAe]; exact Or.inr h
  clear hAe
  have hP : va_P (dC, dI) cls (wz_111 h0 gl fu pa pf sf pk pg pp pz pv h0_reason h0_place sc h0_stepCount h0_open h0_twoSides wg wp h0_waitingCount sc tr (sg sa sc_sign) sc_place sc_size sc_value ss sp szs sv sc_length sc_at) s.heap := hP
  have hl := lv_entry ([.ref h0]) (n := 1) (Nat.le_of_ble_eq_true rfl)
  rw [lg_entry_eq]
  generalize (lg_sl ([.ref h0]) ++ List.replicate (1 - (lg_sl ([.ref h0])).length) Slot.unset).toArray = ls at hl ⊢
  have hl : lv_has ls 1 [(0, .ref h0)] := hl
  have k0 : (0 : Int32).toInt = 0 := by decide
  refine w_gen (A := A) hP (fun H locs hP hS => ?_)
  have k1 : (1 : Int32).toInt = 1 := by decide
  have k40 : (40 : Int32).toInt = 40 := by decide
  refine lv_aload_n hx hb d_PR_enter_0 rfl (lv_at hl 0 rfl) ?_
  refine va_get (D := (dC, dI)) (ci := 6) (v := .int h0_open) (C := R_PR) (T := F_PR) (N := 19) hx hb hts i_PR hown hK hP 0 rfl rfl 14 (by decide) (hts _ kF_PR_84) (fun _ h9 => h9) rfl d_PR_enter_1 ?_
  refine lv_bipush (v := 40) hx hb d_PR_enter_4 (by decide) ?_
  refine lv_icmp_lt (tgt := 13) hx hb d_PR_enter_6 (by decide) (fun c6 => ?_) (fun c6 => ?_)
  · have q6 := ltI c6
    refine lv_aload_n hx hb d_PR_enter_13 rfl (lv_at hl 0 rfl) ?_
    refine lv_dup hx hb d_PR_enter_14 rfl ?_
    refine va_get (D := (dC, dI)) (ci := 6) (v := .int h0_open) (C := R_PR) (T := F_PR) (N := 19) hx hb hts i_PR hown hK hP 0 rfl rfl 14 (by decide) (hts _ kF_PR_84) (fun _ h9 => h9) rfl d_PR_enter_15 ?_
    refine lv_iconst (v := 1) hx hb d_PR_enter_18 (by decide) ?_
    refine lv_iadd hx hb d_PR_enter_19 ?_
    refine lv_topi (fun x1 ex1 => ?_)
    have tx1 : x1.toInt = h0_open.toInt + 1 := by have z := i32_add ex1 (by (first | (apply Int.le_antisymm <;> omega) | omega)) (by (first | (apply Int.le_antisymm <;> omega) | omega)); first | exact z | (first | (apply Int.le_antisymm <;> omega) | omega)
    refine va_put (D := (dC, dI)) (ci := 6) (v := .int x1) (ty := .int) (C := R_PR) (T := F_PR) (N := 19) hx hb hts i_PR t_PR t_PR_ok n_PR hown hK hP hD hS 0 rfl rfl 14 (by decide) (hts _ kF_PR_84) (fun _ h9 => h9) rfl (by decide +kernel) rfl rfl (Nat.le_of_ble_eq_true rfl) d_PR_enter_20 (fun H locs hP hD hS => ?_)
    have hP9 := hP.sb (wq := (wz_111 h0 gl fu pa pf sf pk pg pp pz pv h0_reason h0_place sc h0_stepCount x1 h0_twoSides wg wp h0_waitingCount sc tr (sg sa sc_sign) sc_place sc_size sc_value ss sp szs sv sc_length sc_at)) [0, 1] rfl
    have hD9 := hD.sb (wq := (wz_111 h0 gl fu pa pf sf pk pg pp pz pv h0_reason h0_place sc h0_stepCount x1 h0_twoSides wg wp h0_waitingCount sc tr (sg sa sc_sign) sc_place sc_size sc_value ss sp szs sv sc_length sc_at)) [0, 1] (by decide) rfl
    exact tz_up (fun _ => rfl) (W.vret hx hb hr (fun t ht hW => ⟨⟨(x1, h0_place, h0_reason), ⟨rfl, ⟨by (try dsimp only) <;> (first | (apply Int.le_antisymm <;> omega) | omega), by (try dsimp only) <;> (first | (apply Int.le_antisymm <;> omega) | omega)⟩⟩, va_P.he ht.symm hP9, va_K.moved hW.alike hK, hD9⟩, hS.F ht⟩) hS.2.2 d_PR_enter_23)
  · have q6 := nltI c6
    refine lv_aload_n hx hb d_PR_enter_9 rfl (lv_at hl 0 rfl) ?_
    have hPc := hP.sb (wq := (wz_111 h0 gl fu pa pf sf pk pg pp pz pv h0_reason h0_place sc h0_stepCount h0_open h0_twoSides wg wp h0_waitingCount sc tr (sg sa sc_sign) sc_place sc_size sc_value ss sp szs sv sc_length sc_at)) [0, 1] rfl
    have hDc := hD.sb (wq := (wz_111 h0 gl fu pa pf sf pk pg pp pz pv h0_reason h0_place sc h0_stepCount h0_open h0_twoSides wg wp h0_waitingCount sc tr (sg sa sc_sign) sc_place sc_size sc_value ss sp szs sv sc_length sc_at)) [0, 1] (by decide) rfl
    have hKc := hK.sb (tyq := []) [] rfl
    have hFc := va_free (wc := (wz_111 h0 gl fu pa pf sf pk pg pp pz pv h0_reason h0_place sc h0_stepCount h0_open h0_twoSides wg wp h0_waitingCount sc tr (sg sa sc_sign) sc_place sc_size sc_value ss sp szs sv sc_length sc_at)) hD hS hA [0, 1] rfl
    refine tq_callv (tz_runV (As := []) (rest := []) ⟨hx, hb, hml, hown, hts⟩ (c_PR_refuseOneMore l hlt dC dI H.size sa h0 gl fu pa pf sf pk pg pp pz pv sc wg wp tr ss sp szs sv h0_reason h0_place h0_stepCount h0_open h0_twoSides h0_waitingCount sc_sign sc_place sc_size sc_value sc_length sc_at (b_sc_sign) (b_sc_place)) (cwV 0 hts (gV kM_PR_117 kV_PR_refuseOneMore kS_PR_refuseOneMore kI_PR kC_PR_refuseOneMore) rfl rfl rfl (by decide +kernel) ⟨Nat.le_of_ble_eq_true rfl, Nat.le_of_ble_eq_true rfl⟩) ⟨fun a U g mk z => by obtain ⟨z0, z1, zP, zK, zD, zS⟩ := z; exact ⟨z0, z1, zP, va_K.moved (u := U) (U := U.calling g mk a) (Vm.Alike.refl U.vm) zK, zD, sw.same (u := U) (U := U.calling g mk a) rfl zS⟩, va_recv hKc hPc (ci := 6) (q0 := 0) rfl rfl, fun U hU hW => ⟨rfl, by rw [hU], va_P.he hU.symm hPc, va_K.moved hW.alike hKc, hDc.weaken (fun _ _ _ _ => trivial), hSW.call hS hFc hW hU⟩⟩ rfl rfl hl.1 rfl (lv_room (Nat.le_of_ble_eq_true rfl)) d_PR_enter_10 ⟨Nat.le_of_ble_eq_true rfl, Nat.le_of_ble_eq_true rfl⟩) hS (fun q _ h => hFc q h) hFc (fun u t H1 locs ht hvm hw hB hz1 hk1 hS => ?_) (fun xx u t H1 locs ht hvm hw hXX hB hz1 hk1 hS => ?_)
    rotate_left
    · skip
      obtain ⟨n3, n4⟩ := u
      try dsimp only at hw
      obtain ⟨hP1, hK1, hD1⟩ := hB
      replace hP1 := va_P.he ht hP1
      obtain ⟨hP, hD⟩ := va_join (wr := []) (w1 := (wz_111 h0 gl fu pa pf sf pk pg pp pz pv n4 n3 sc h0_stepCount h0_open h0_twoSides wg wp h0_waitingCount sc tr (sg sa sc_sign) sc_place sc_size sc_value ss sp szs sv sc_length sc_at)) hP hD [0, 1] [] rfl rfl (by decide) (by decide) hk1 hFc hP1 hD1
      have hP : va_P (dC, dI) cls (wz_111 h0 gl fu pa pf sf pk pg pp pz pv n4 n3 sc h0_stepCount h0_open h0_twoSides wg wp h0_waitingCount sc tr (sg sa sc_sign) sc_place sc_size sc_value ss sp szs sv sc_length sc_at) H1 := hP
      have hD : va_D A (wz_111 h0 gl fu pa pf sf pk pg pp pz pv n4 n3 sc h0_stepCount h0_open h0_twoSides wg wp h0_waitingCount sc tr (sg sa sc_sign) sc_place sc_size sc_value ss sp szs sv sc_length sc_at) := hD
      have hP9 := hP.sb (wq := (wz_111 h0 gl fu pa pf sf pk pg pp pz pv n4 n3 sc h0_stepCount h0_open h0_twoSides wg wp h0_waitingCount sc tr (sg sa sc_sign) sc_place sc_size sc_value ss sp szs sv sc_length sc_at)) [0, 1] rfl
      have hD9 := hD.sb (wq := (wz_111 h0 gl fu pa pf sf pk pg pp pz pv n4 n3 sc h0_stepCount h0_open h0_twoSides wg wp h0_waitingCount sc tr (sg sa sc_sign) sc_place sc_size sc_value ss sp szs sv sc_length sc_at)) [0, 1] (by decide) rfl
      exact tz_leave rfl hno hlocks (fun t ht hW => ⟨⟨(h0_open, n3, n4), ⟨(b_h0_open), by rw [ht]; exact hXX.moved hW.alike⟩, va_P.he ht.symm hP9, va_K.moved hW.alike hK, hD9⟩, hS.F ht⟩) hS.2.2
    exact (show False from hw).elim
end q_42
section q_43
/-! Program: the sign that is read, the steps as a list -/
def sk (L len a : Int) (k : Nat) (p z : Int32) (v : Int64) (ss : Nat → Option Nat) (sp sz : Nat → Int32) (sv : Nat → Int64) : Prop :=
  tkOK L len ss sp sz sv ∧ 0 ≤ a ∧ a < len ∧ ss a.toNat = some k ∧ p = sp a.toNat ∧ z = sz a.toNat ∧ v = sv a.toNat
theorem sk_is {L len a : Int} {k : Nat} {p z : Int32} {v : Int64} {ss : Nat → Option Nat} {sp sz : Nat → Int32} {sv : Nat → Int64} (h : sk L len a k p z v ss sp sz sv) :
    k < 55 ∧ 0 ≤ p.toInt ∧ 0 ≤ z.toInt ∧ p.toInt + z.toInt ≤ L ∧ tkT k z.toInt v.toInt := by
  obtain ⟨⟨h1, h2, h3⟩, ha, hb, hs, rfl, rfl, rfl⟩ := h
  obtain ⟨k1, q1, q2, q3, q4, q5, q6, q7⟩ := h2 a.toNat (by (first | (apply Int.le_antisymm <;> omega) | omega))
  rw [hs] at q2
  obtain rfl := Option.some.inj q2
  exact ⟨q1, q3, q4, q5, q6⟩
theorem sk_next {L len : Int} {a a2 : Int32} {k k2 : Nat} {p z p2 z2 : Int32} {v v2 : Int64} {ss : Nat → Option Nat} {sp sz : Nat → Int32} {sv : Nat → Int64} (h : sk L len a.toInt k p z v ss sp sz sv)
    (h1 : a.toInt + 1 < len → a2.toInt = a.toInt + 1 ∧ ss a2.toNatClampNeg = some k2 ∧ p2 = sp a2.toNatClampNeg ∧ z2 = sz a2.toNatClampNeg ∧ v2 = sv a2.toNatClampNeg) (h2 : len ≤ a.toInt + 1 → a2 = a ∧ k2 = k ∧ p2 = p ∧ z2 = z ∧ v2 = v) :
    sk L len a2.toInt k2 p2 z2 v2 ss sp sz sv ∧ p.toInt ≤ p2.toInt ∧ (k ≠ 0 → k ≠ 1 → a2.toInt = a.toInt + 1 ∧ p.toInt + z.toInt ≤ p2.toInt) ∧ (k = 0 ∨ k = 1 → a2 = a ∧ k2 = k ∧ p2 = p) := by
  have h0 := h
  obtain ⟨⟨t1, t2, t3⟩, ha, hb, hs, hp, hz, hv⟩ := h
  obtain ⟨k1, q1, q2, q3, q4, q5, q6, q7⟩ := t2 a.toInt.toNat (by (first | (apply Int.le_antisymm <;> omega) | omega))
  rw [hs] at q2
  obtain rfl := Option.some.inj q2
  by_cases e : a.toInt + 1 < len
  · obtain ⟨b1, b2, b3, b4, b5⟩ := h1 e
    have c := q7 (by (first | (apply Int.le_antisymm <;> omega) | omega))
    have e2 : a.toInt.toNat + 1 = a2.toInt.toNat := by (first | (apply Int.le_antisymm <;> omega) | omega)
    have b3' : p2 = sp a2.toInt.toNat := b3
    rw [e2, ← b3', ← hp, ← hz] at c
    rw [← hz] at q4
    refine ⟨⟨⟨t1, t2, t3⟩, by (first | (apply Int.le_antisymm <;> omega) | omega), by (first | (apply Int.le_antisymm <;> omega) | omega), b2, b3, b4, b5⟩, by (first | (apply Int.le_antisymm <;> omega) | omega), fun _ _ => ⟨b1, c.2.2⟩, fun z => by (first | (apply Int.le_antisymm <;> omega) | omega)⟩
  · obtain ⟨b1, b2, b3, b4, b5⟩ := h2 (by (first | (apply Int.le_antisymm <;> omega) | omega))
    subst b1; subst b2; subst b3; subst b4; subst b5
    have c := t3 a2.toInt.toNat (by (first | (apply Int.le_antisymm <;> omega) | omega))
    rw [hs] at c
    refine ⟨h0, by (first | (apply Int.le_antisymm <;> omega) | omega), fun z1 z2 => ?_, fun _ => ⟨rfl, rfl, rfl⟩⟩
    rcases c with c | c
    · exact absurd (Option.some.inj c) z1
    · exact absurd (Option.some.inj c) z2
abbrev pS := Int32 × Option Nat × Int32 × Int32 × Int64
def sl (K : Nat → Int32) (G : Nat → Option Nat) (Pp Z : Nat → Int32) (V : Nat → Int64) (n : Int) : List pS := (List.range n.toNat).map fun i => (K i, G i, Pp i, Z i, V i)
theorem sl_len {K : Nat → Int32} {G : Nat → Option Nat} {Pp Z : Nat → Int32} {V : Nat → Int64} {n : Int} : (sl K G Pp Z V n).length = n.toNat := by
  unfold sl
  rw [List.length_map, List.length_range]
theorem sl_add {K K2 : Nat → Int32} {G G2 : Nat → Option Nat} {Pp P2 Z Z2 : Nat → Int32} {V V2 : Nat → Int64} {n : Nat} {m m2 : Int} {k : Int32} {g : Option Nat} {p z : Int32} {v : Int64}
    (hm : m = n) (hm2 : m2 = m + 1) (h1 : K2 = upd K n k) (h2 : G2 = va_up G n g) (h3 : P2 = upd Pp n p) (h4 : Z2 = upd Z n z) (h5 : V2 = vp_updL V n v) : sl K2 G2 P2 Z2 V2 m2 = sl K G Pp Z V m ++ [(k, g, p, z, v)] := by
  subst h1; subst h2; subst h3; subst h4; subst h5; subst hm; subst hm2
  unfold sl
  rw [show ((n : Int) + 1).toNat = n + 1 by (first | (apply Int.le_antisymm <;> omega) | omega), show ((n : Int)).toNat = n by (first | (apply Int.le_antisymm <;> omega) | omega), List.range_succ, List.map_append]
  congr 1
  · apply List.map_congr_left
    intro i hi
    have q := List.mem_range.mp hi
    rw [pk_un (by (first | (apply Int.le_antisymm <;> omega) | omega)), va_un (by (first | (apply Int.le_antisymm <;> omega) | omega)), pk_un (by (first | (apply Int.le_antisymm <;> omega) | omega)), pk_un (by (first | (apply Int.le_antisymm <;> omega) | omega)), pk_uLn (by (first | (apply Int.le_antisymm <;> omega) | omega))]
  · rw [List.map_cons, List.map_nil, pk_us, va_us, pk_us, pk_us, pk_uLs]
abbrev b_PR_take : ByteArray := prog_8_method_24_code
def y_PR_take : MethodName := ⟨R_PR, "take", "(LWaferForge$Sign;)V"⟩
abbrev w_PR_take : List Cond := .code y_PR_take b_PR_take 2 none :: lw_g
theorem kC_PR_take : Cond.code y_PR_take b_PR_take 2 none ∈ lw_g := in_c4 199 rfl rfl
theorem d_PR_take_0 : decode b_PR_take 0 = .ok (.aload_n 0, 1) := bz_c42 (by decide +kernel)
theorem d_PR_take_1 : decode b_PR_take 1 = .ok (.getfield 43, 3) := bz_c180 (by decide +kernel)
theorem d_PR_take_4 : decode b_PR_take 4 = .ok (.getfield 93, 3) := bz_c180 (by decide +kernel)
theorem d_PR_take_7 : decode b_PR_take 7 = .ok (.aload_n 1, 1) := bz_c43 (by decide +kernel)
theorem d_PR_take_8 : decode b_PR_take 8 = .ok (.if_acmp .eq 15, 3) := bz_c165 (by decide +kernel)
theorem d_PR_take_11 : decode b_PR_take 11 = .ok (.aload_n 0, 1) := bz_c42 (by decide +kernel)
theorem d_PR_take_12 : decode b_PR_take 12 = .ok (.iconst 1, 1) := bz_c4 (by decide +kernel)
theorem d_PR_take_13 : decode b_PR_take 13 = .ok (.aload_n 0, 1) := bz_c42 (by decide +kernel)
theorem d_PR_take_14 : decode b_PR_take 14 = .ok (.getfield 43, 3) := bz_c180 (by decide +kernel)
theorem d_PR_take_17 : decode b_PR_take 17 = .ok (.getfield 109, 3) := bz_c180 (by decide +kernel)
theorem d_PR_take_20 : decode b_PR_take 20 = .ok (.invokevirtual 110, 3) := bz_c182 (by decide +kernel)
theorem d_PR_take_23 : decode b_PR_take 23 = .ok (.aload_n 0, 1) := bz_c42 (by decide +kernel)
theorem d_PR_take_24 : decode b_PR_take 24 = .ok (.getfield 43, 3) := bz_c180 (by decide +kernel)
theorem d_PR_take_27 : decode b_PR_take 27 = .ok (.invokevirtual 114, 3) := bz_c182 (by decide +kernel)
theorem d_PR_take_30 : decode b_PR_take 30 = .ok (.return_, 1) := bz_c177 (by decide +kernel)
theorem kM_PR_114 : Cond.methodLink R_PR 114 y_SC_next ∈ lw_g := in_c4 170 rfl rfl
abbrev at_PR_take (dC : Nat → ClassId) (dI : Nat → Nat → Nat) (sa : Nat → Nat) (h0 gl fu pa pf sf pk pg pp pz pv sc wg wp tr ss sp szs sv tx : Nat) (css csp cszs csv : ClassId) (h0_stepCount : Int32) (h0_open : Int32) (h0_twoSides : Int32) (h0_waitingCount : Int32) (sc_length : Int32) (tr_length : Int32) (gss : Nat → Option Nat) (gsp : Nat → Int32) (gszs : Nat → Int32) (gsv : Nat → Int64) (A : Nat → Prop) (u : Int32 × Int32 × Int32 × Int32 × Nat × Int32 × Int64) (t : State) : Prop := match u with | (h0_place, h0_reason, sc_at, sc_place, sc_sign, sc_size, sc_value) => va_P (dC, dI) cls (wz_112 h0 gl fu pa pf sf pk pg pp pz pv h0_reason h0_place sc h0_stepCount h0_open h0_twoSides wg wp h0_waitingCount sc tr (sg sa sc_sign) sc_place sc_size sc_value ss sp szs sv sc_length sc_at tr tx tr_length ss css (fun j => (gss j).map (sg sa)) sp csp gsp szs cszs gszs sv csv gsv) t.heap ∧ va_K (dC, dI) cls [(css, .object "WaferForge$Sign"), (csp, .int), (cszs, .int), (csv, .long)] t ∧ va_D A (wz_112 h0 gl fu pa pf sf pk pg pp pz pv h0_reason h0_place sc h0_stepCount h0_open h0_twoSides wg wp h0_waitingCount sc tr (sg sa sc_sign) sc_place sc_size sc_value ss sp szs sv sc_length sc_at tr tx tr_length ss css (fun j => (gss j).map (sg sa)) sp csp gsp szs cszs gszs sv csv gsv)
set_option maxHeartbeats 4000000 in
set_option maxRecDepth 100000 in
theorem c_PR_take (l : Launch) (hlt : l.stackTraces = false) (dC : Nat → ClassId) (dI : Nat → Nat → Nat) (sz : Nat) (sa : Nat → Nat) (h0 gl fu pa pf sf pk pg pp pz pv sc wg wp tr ss sp szs sv tx : Nat) (css csp cszs csv : ClassId) (h0_reason : Int32) (h0_place : Int32) (h0_stepCount : Int32) (h0_open : Int32) (h0_twoSides : Int32) (h0_waitingCount : Int32) (sc_sign : Nat) (sc_place : Int32) (sc_size : Int32) (sc_value : Int64) (sc_length : Int32) (sc_at : Int32) (tr_length : Int32) (gss : Nat → Option Nat) (gsp : Nat → Int32) (gszs : Nat → Int32) (gsv : Nat → Int64)  (b_sc_sign : sc_sign < 55) (b_sc_place : 0 ≤ sc_place.toInt ∧ sc_place.toInt ≤ 2000) (b_sc_size : 0 ≤ sc_size.toInt ∧ sc_size.toInt ≤ 2000) (b_sc_length : 0 ≤ sc_length.toInt ∧ sc_length.toInt ≤ 2001) (b_sc_at : -1 ≤ sc_at.toInt ∧ sc_at.toInt ≤ 2000) (b_tr_length : 0 ≤ tr_length.toInt ∧ tr_length.toInt ≤ 2000) (ka : Nat) (ba0 : ka < 55) (hsk : sk tr_length.toInt sc_length.toInt sc_at.toInt sc_sign sc_place sc_size sc_value gss gsp gszs gsv) (hk1 : ka ≠ 0 ∧ ka ≠ 1) : tz_Met l y_PR_take w_PR_take ({ frames := 7, cells := 1, slots := 6, locals := 112 }) (va_Pc [.ref h0, .ref (sg sa ka)] (fun U => U.heap.size = sz ∧ va_P (dC, dI) cls (wz_112 h0 gl fu pa pf sf pk pg pp pz pv h0_reason h0_place sc h0_stepCount h0_open h0_twoSides wg wp h0_waitingCount sc tr (sg sa sc_sign) sc_place sc_size sc_value ss sp szs sv sc_length sc_at tr tx tr_length ss css (fun j => (gss j).map (sg sa)) sp csp gsp szs cszs gszs sv csv gsv) U.heap ∧ va_K (dC, dI) cls [(css, .object "WaferForge$Sign"), (csp, .int), (cszs, .int), (csv, .long)] U ∧ va_D (fun _ => True) (wz_112 h0 gl fu pa pf sf pk pg pp pz pv h0_reason h0_place sc h0_stepCount h0_open h0_twoSides wg wp h0_waitingCount sc tr (sg sa sc_sign) sc_place sc_size sc_value ss sp szs sv sc_length sc_at tr tx tr_length ss css (fun j => (gss j).map (sg sa)) sp csp gsp szs cszs gszs sv csv gsv) ∧ sw sa (va_A (wz_112 h0 gl fu pa pf sf pk pg pp pz pv h0_reason h0_place sc h0_stepCount h0_open h0_twoSides wg wp h0_waitingCount sc tr (sg sa sc_sign) sc_place sc_size sc_value ss sp szs sv sc_length sc_at tr tx tr_length ss css (fun j => (gss j).map (sg sa)) sp csp gsp szs cszs gszs sv csv gsv) sz) U U.heap)) (tq_Q (tq_v (fun (u : Int32 × Int32 × Int32 × Int32 × Nat × Int32 × Int64) => match u with | (h0_place2, h0_reason2, sc_at2, sc_place2, sc_sign2, sc_size2, sc_value2) => (-1 ≤ sc_at2.toInt ∧ sc_at2.toInt ≤ 2000) ∧ (0 ≤ sc_place2.toInt ∧ sc_place2.toInt ≤ 2000) ∧ (sc_sign2 < 55) ∧ (0 ≤ sc_size2.toInt ∧ sc_size2.toInt ≤ 2000) ∧ (sc_sign = ka ∧ sk tr_length.toInt sc_length.toInt sc_at2.toInt sc_sign2 sc_place2 sc_size2 sc_value2 gss gsp gszs gsv ∧ sc_place.toInt + sc_size.toInt ≤ sc_place2.toInt ∧ sc_at2.toInt = sc_at.toInt + 1)) "java/lang/UnsupportedOperationException" (fun (u : Int32 × Int32 × Int32 × Int32 × Nat × Int32 × Int64) => match u with | (h0_place2, h0_reason2, sc_at2, sc_place2, sc_sign2, sc_size2, sc_value2) => (-1 ≤ sc_at2.toInt ∧ sc_at2.toInt ≤ 2000) ∧ (0 ≤ sc_place2.toInt ∧ sc_place2.toInt ≤ 2000) ∧ (sc_sign2 < 55) ∧ (0 ≤ sc_size2.toInt ∧ sc_size2.toInt ≤ 2000))) (at_PR_take dC dI sa h0 gl fu pa pf sf pk pg pp pz pv sc wg wp tr ss sp szs sv tx css csp cszs csv h0_stepCount h0_open h0_twoSides h0_waitingCount sc_length tr_length gss gsp gszs gsv (va_A (wz_112 h0 gl fu pa pf sf pk pg pp pz pv h0_reason h0_place sc h0_stepCount h0_open h0_twoSides wg wp h0_waitingCount sc tr (sg sa sc_sign) sc_place sc_size sc_value ss sp szs sv sc_length sc_at tr tx tr_length ss css (fun j => (gss j).map (sg sa)) sp csp gsp szs cszs gszs sv csv gsv) sz)) (va_A (wz_112 h0 gl fu pa pf sf pk pg pp pz pv h0_reason h0_place sc h0_stepCount h0_open h0_twoSides wg wp h0_waitingCount sc tr (sg sa sc_sign) sc_place sc_size sc_value ss sp szs sv sc_length sc_at tr tx tr_length ss css (fun j => (gss j).map (sg sa)) sp csp gsp szs cszs gszs sv csv gsv) sz)) (tz_k 0 0 1 6) (va_A (wz_112 h0 gl fu pa pf sf pk pg pp pz pv h0_reason h0_place sc h0_stepCount h0_open h0_twoSides wg wp h0_waitingCount sc tr (sg sa sc_sign) sc_place sc_size sc_value ss sp szs sv sc_length sc_at tr tx tr_length ss css (fun j => (gss j).map (sg sa)) sp csp gsp szs cszs gszs sv csv gsv) sz) := by
  refine tz_ofW (cc := b_PR_take) (maxL := 2) (ret := none) (by decide) rfl ?_
  intro p e s m args below meth c s₁ B hml hno hv
  obtain ⟨rfl, hsz, hP, hK, hD0, hSW⟩ := hv
  have hx := B.exec
  have hb := B.bytes
  have hr := B.returns
  have hts0 := atoms_spec (ws := w_PR_take) B.pre
  have hts : ∀ w ∈ lw_g, w.before _ s = true := fun w h => hts0 w (List.mem_cons_of_mem _ h)
  have hown : s.vm.findClass R_PR = some m.cls := findClass_of_methodNamed B.named
  have hlocks := B.notSynchronized
  clear hts0
  subst hsz
  have hD := hD0.self (sz := s.heap.size)
  generalize hAe : va_A (wz_112 h0 gl fu pa pf sf pk pg pp pz pv h0_reason h0_place sc h0_stepCount h0_open h0_twoSides wg wp h0_waitingCount sc tr (sg sa sc_sign) sc_place sc_size sc_value ss sp szs sv sc_length sc_at tr tx tr_length ss css (fun j => (gss j).map (sg sa)) sp csp gsp szs cszs gszs sv csv gsv) s.heap.size = A at hD hSW ⊢
  have hA : ∀ q : Nat, s.heap.size ≤ q → A q := fun q h => by rw [← hAe]; exact Or.inr h
  clear hAe
  have hP : va_P (dC, dI) cls (wz_112 h0 gl fu pa pf sf pk pg pp pz pv h0_reason h0_place sc h0_stepCount h0_open h0_twoSides wg wp h0_waitingCount sc tr (sg sa sc_sign) sc_place sc_size sc_value ss sp szs sv sc_length sc_at tr tx tr_length ss css (fun j => (gss j).map (sg sa)) sp csp gsp szs cszs gszs sv csv gsv) s.heap := hP
  have hl := lv_entry ([.ref h0, .ref (sg sa ka)]) (n := 2) (Nat.le_of_ble_eq_true rfl)
  rw [lg_entry_eq]
  generalize (lg_sl ([.ref h0, .ref (sg sa ka)]) ++ List.replicate (2 - (lg_sl ([.ref h0, .ref (sg sa ka)])).length) Slot.unset).toArray = ls at hl ⊢
  have hl : lv_has ls 2 [(0, .ref h0), (1, .ref (sg sa ka))] := hl
  have k0 : (0 : Int32).toInt = 0 := by decide
  refine w_gen (A := A) hP (fun H locs hP hS => ?_)
  have k1 : (1 : Int32).toInt = 1 := by decide
  refine lv_aload_n hx hb d_PR_take_0 rfl (lv_at hl 0 rfl) ?_
  refine va_get (D := (dC, dI)) (ci := 6) (v := .ref sc) (C := R_PR) (T := F_PR) (N := 19) hx hb hts i_PR hown hK hP 0 rfl rfl 12 (by decide) (hts _ kF_PR_43) (fun _ h9 => h9) rfl d_PR_take_1 ?_
  refine va_get (D := (dC, dI)) (ci := 8) (v := .ref (sg sa sc_sign)) (C := R_SC) (T := F_SC) (N := 11) hx hb hts i_SC hown hK hP 1 rfl rfl 1 (by decide) (hts _ kF_PR_93) (fun _ h9 => h9) rfl d_PR_take_4 ?_
  refine lv_aload_n hx hb d_PR_take_7 rfl (lv_at hl 1 rfl) ?_
  refine lv_acmp_eq (rx := some (sg sa sc_sign)) (ry := some (sg sa ka)) (tgt := 23) hx hb d_PR_take_8 (by decide) (fun c8 => ?_) (fun c8 => ?_)
  · have q8 : sc_sign = ka := hSW.2.2.2.1.2 sc_sign ka b_sc_sign ba0 (Option.some.inj c8)
    refine lv_aload_n hx hb d_PR_take_23 rfl (lv_at hl 0 rfl) ?_
    refine va_get (D := (dC, dI)) (ci := 6) (v := .ref sc) (C := R_PR) (T := F_PR) (N := 19) hx hb hts i_PR hown hK hP 0 rfl rfl 12 (by decide) (hts _ kF_PR_43) (fun _ h9 => h9) rfl d_PR_take_24 ?_
    have hPc := hP.sb (wq := (wz_107 sc tr (sg sa sc_sign) sc_place sc_size sc_value ss sp szs sv sc_length sc_at tr tx tr_length ss css (fun j => (gss j).map (sg sa)) sp csp gsp szs cszs gszs sv csv gsv)) [1, 2, 3, 4, 5, 6] rfl
    have hDc := hD.sb (wq := (wz_107 sc tr (sg sa sc_sign) sc_place sc_size sc_value ss sp szs sv sc_length sc_at tr tx tr_length ss css (fun j => (gss j).map (sg sa)) sp csp gsp szs cszs gszs sv csv gsv)) [1, 2, 3, 4, 5, 6] (by decide) rfl
    have hKc := hK.sb (tyq := [(css, .object "WaferForge$Sign"), (csp, .int), (cszs, .int), (csv, .long)]) [0, 1, 2, 3] rfl
    have hFc := va_free (wc := (wz_107 sc tr (sg sa sc_sign) sc_place sc_size sc_value ss sp szs sv sc_length sc_at tr tx tr_length ss css (fun j => (gss j).map (sg sa)) sp csp gsp szs cszs gszs sv csv gsv)) hD hS hA [1, 2, 3, 4, 5, 6] rfl
    refine va_callv (va_runV (As := []) (rest := []) ⟨hx, hb, hml, hown, hts⟩ (c_SC_next l dC dI H.size sa sc tr ss sp szs sv tx css csp cszs csv sc_sign sc_place sc_size sc_value sc_length sc_at tr_length gss gsp gszs gsv (b_sc_sign) (b_sc_place) (b_sc_size) (b_sc_length) (b_sc_at) (b_tr_length) (hsk.1.2.1)) (cwV 0 hts (gV kM_PR_114 kV_SC_next kS_SC_next kI_SC kC_SC_next) rfl rfl rfl (by decide +kernel) ⟨Nat.le_of_ble_eq_true rfl, Nat.le_of_ble_eq_true rfl⟩) ⟨fun a U g mk z => by obtain ⟨z0, z1, zP, zK, zD, zS⟩ := z; exact ⟨z0, z1, zP, va_K.moved (u := U) (U := U.calling g mk a) (Vm.Alike.refl U.vm) zK, zD, sw.same (u := U) (U := U.calling g mk a) rfl zS⟩, va_recv hKc hPc (ci := 8) (q0 := 0) rfl rfl, fun U hU hW => ⟨rfl, by rw [hU], va_P.he hU.symm hPc, va_K.moved hW.alike hKc, hDc.weaken (fun _ _ _ _ => trivial), hSW.call hS hFc hW hU⟩⟩ rfl rfl hl.1 rfl (lv_room (Nat.le_of_ble_eq_true rfl)) d_PR_take_27 ⟨(Nat.zero_le _), (Nat.zero_le _)⟩) hS (fun q _ h => hFc q h) hFc (fun u t H1 locs ht hvm hw hB hz1 hk1 hS => ?_)
    obtain ⟨n2, n3, n4, n5, n6⟩ := u
    try dsimp only at hw
    obtain ⟨bn2, bn3, bn4, bn5, xr1⟩ := hw
    try clear hw
    obtain ⟨hP1, hK1, hD1⟩ := hB
    replace hP1 := va_P.he ht hP1
    obtain ⟨hP, hD⟩ := va_join (wr := (wz_110 h0 gl fu pa pf sf pk pg pp pz pv h0_reason h0_place sc h0_stepCount h0_open h0_twoSides wg wp h0_waitingCount)) (w1 := (wz_107 sc tr (sg sa n4) n3 n5 n6 ss sp szs sv sc_length n2 tr tx tr_length ss css (fun j => (gss j).map (sg sa)) sp csp gsp szs cszs gszs sv csv gsv)) hP hD [1, 2, 3, 4, 5, 6] [0] rfl rfl (by decide) (by decide) hk1 hFc hP1 hD1
    clear hPc hDc hKc hFc hz1 hk1 hP1 hK1 hD1
    rename Heap => H
    have hP : va_P (dC, dI) cls (wz_112 h0 gl fu pa pf sf pk pg pp pz pv h0_reason h0_place sc h0_stepCount h0_open h0_twoSides wg wp h0_waitingCount sc tr (sg sa n4) n3 n5 n6 ss sp szs sv sc_length n2 tr tx tr_length ss css (fun j => (gss j).map (sg sa)) sp csp gsp szs cszs gszs sv csv gsv) H := hP
    have hD : va_D A (wz_112 h0 gl fu pa pf sf pk pg pp pz pv h0_reason h0_place sc h0_stepCount h0_open h0_twoSides wg wp h0_waitingCount sc tr (sg sa n4) n3 n5 n6 ss sp szs sv sc_length n2 tr tx tr_length ss css (fun j => (gss j).map (sg sa)) sp csp gsp szs cszs gszs sv csv gsv) := hD
    have hP9 := hP.sb (wq := (wz_112 h0 gl fu pa pf sf pk pg pp pz pv h0_reason h0_place sc h0_stepCount h0_open h0_twoSides wg wp h0_waitingCount sc tr (sg sa n4) n3 n5 n6 ss sp szs sv sc_length n2 tr tx tr_length ss css (fun j => (gss j).map (sg sa)) sp csp gsp szs cszs gszs sv csv gsv)) [0, 1, 2, 3, 4, 5, 6] rfl
    have hD9 := hD.sb (wq := (wz_112 h0 gl fu pa pf sf pk pg pp pz pv h0_reason h0_place sc h0_stepCount h0_open h0_twoSides wg wp h0_waitingCount sc tr (sg sa n4) n3 n5 n6 ss sp szs sv sc_length n2 tr tx tr_length ss css (fun j => (gss j).map (sg sa)) sp csp gsp szs cszs gszs sv csv gsv)) [0, 1, 2, 3, 4, 5, 6] (by decide) rfl
    exact tz_up (fun _ => rfl) (W.vret hx hb hr (fun t ht hW => ⟨⟨(h0_place, h0_reason, n2, n3, n4, n5, n6), ⟨rfl, ⟨bn2, bn3, bn4, bn5, by have z := sk_next hsk xr1.1 xr1.2; have z2 := z.2.2.1 (by rw [q8]; exact hk1.1) (by rw [q8]; exact hk1.2); exact ⟨q8, z.1, z2.2, z2.1⟩⟩⟩, va_P.he ht.symm hP9, va_K.moved hW.alike hK, hD9⟩, hS.F ht⟩) hS.2.2 d_PR_take_30)
  · have q8 : sc_sign ≠ ka := fun z => c8 (by rw [z])
    refine lv_aload_n hx hb d_PR_take_11 rfl (lv_at hl 0 rfl) ?_
    refine lv_iconst (v := 1) hx hb d_PR_take_12 (by decide) ?_
    refine lv_aload_n hx hb d_PR_take_13 rfl (lv_at hl 0 rfl) ?_
    refine va_get (D := (dC, dI)) (ci := 6) (v := .ref sc) (C := R_PR) (T := F_PR) (N := 19) hx hb hts i_PR hown hK hP 0 rfl rfl 12 (by decide) (hts _ kF_PR_43) (fun _ h9 => h9) rfl d_PR_take_14 ?_
    refine va_get (D := (dC, dI)) (ci := 8) (v := .int sc_place) (C := R_SC) (T := F_SC) (N := 11) hx hb hts i_SC hown hK hP 1 rfl rfl 2 (by decide) (hts _ kF_PR_109) (fun _ h9 => h9) rfl d_PR_take_17 ?_
    have hPc := hP.sb (wq := (wz_110 h0 gl fu pa pf sf pk pg pp pz pv h0_reason h0_place sc h0_stepCount h0_open h0_twoSides wg wp h0_waitingCount)) [0] rfl
    have hDc := hD.sb (wq := (wz_110 h0 gl fu pa pf sf pk pg pp pz pv h0_reason h0_place sc h0_stepCount h0_open h0_twoSides wg wp h0_waitingCount)) [0] (by decide) rfl
    have hKc := hK.sb (tyq := []) [] rfl
    have hFc := va_free (wc := (wz_110 h0 gl fu pa pf sf pk pg pp pz pv h0_reason h0_place sc h0_stepCount h0_open h0_twoSides wg wp h0_waitingCount)) hD hS hA [0] rfl
    refine tq_callv (tz_runV (As := [.int 1, .int sc_place]) (rest := []) ⟨hx, hb, hml, hown, hts⟩ (c_PR_refuse l hlt dC dI H.size sa h0 gl fu pa pf sf pk pg pp pz pv sc wg wp h0_reason h0_place h0_stepCount h0_open h0_twoSides h0_waitingCount 1 sc_place) (cwV 2 hts (gV kM_PR_110 kV_PR_refuse kS_PR_refuse kI_PR kC_PR_refuse) rfl rfl rfl (by decide +kernel) ⟨Nat.le_of_ble_eq_true rfl, Nat.le_of_ble_eq_true rfl⟩) ⟨fun a U g mk z => by obtain ⟨z0, z1, zP, zK, zD, zS⟩ := z; exact ⟨z0, z1, zP, va_K.moved (u := U) (U := U.calling g mk a) (Vm.Alike.refl U.vm) zK, zD, sw.same (u := U) (U := U.calling g mk a) rfl zS⟩, va_recv hKc hPc (ci := 6) (q0 := 0) rfl rfl, fun U hU hW => ⟨rfl, by rw [hU], va_P.he hU.symm hPc, va_K.moved hW.alike hKc, hDc.weaken (fun _ _ _ _ => trivial), hSW.call hS hFc hW hU⟩⟩ rfl rfl hl.1 rfl (lv_room (Nat.le_of_ble_eq_true rfl)) d_PR_take_20 ⟨Nat.le_of_ble_eq_true rfl, Nat.le_of_ble_eq_true rfl⟩) hS (fun q _ h => hFc q h) hFc (fun u t H1 locs ht hvm hw hB hz1 hk1 hS => ?_) (fun xx u t H1 locs ht hvm hw hXX hB hz1 hk1 hS => ?_)
    rotate_left
    · skip
      obtain ⟨n8, n9⟩ := u
      try dsimp only at hw
      obtain ⟨hP1, hK1, hD1⟩ := hB
      replace hP1 := va_P.he ht hP1
      obtain ⟨hP, hD⟩ := va_join (wr := (wz_107 sc tr (sg sa sc_sign) sc_place sc_size sc_value ss sp szs sv sc_length sc_at tr tx tr_length ss css (fun j => (gss j).map (sg sa)) sp csp gsp szs cszs gszs sv csv gsv)) (w1 := (wz_110 h0 gl fu pa pf sf pk pg pp pz pv n9 n8 sc h0_stepCount h0_open h0_twoSides wg wp h0_waitingCount)) hP hD [0] [1, 2, 3, 4, 5, 6] rfl rfl (by decide) (by decide) hk1 hFc hP1 hD1
      have hP : va_P (dC, dI) cls [(sc, .inr (8, [.ref tr, .ref (sg sa sc_sign), .int sc_place, .int sc_size, .long sc_value, .ref ss, .ref sp, .ref szs, .ref sv, .int sc_length, .int sc_at])), (tr, .inr (1, [.ref tx, .int tr_length])), (ss, .inl (css, 2001, .inr (.inr (.inr (.inr (fun j => (gss j).map (sg sa))))))), (sp, .inl (csp, 2001, .inl gsp)), (szs, .inl (cszs, 2001, .inl gszs)), (sv, .inl (csv, 2001, .inr (.inl gsv))), (h0, .inr (6, [.ref gl, .ref fu, .ref pa, .ref pf, .ref sf, .ref pk, .ref pg, .ref pp, .ref pz, .ref pv, .int n9, .int n8, .ref sc, .int h0_stepCount, .int h0_open, .int h0_twoSides, .ref wg, .ref wp, .int h0_waitingCount]))] H1 := hP
      have hD : va_D A [(sc, .inr (8, [.ref tr, .ref (sg sa sc_sign), .int sc_place, .int sc_size, .long sc_value, .ref ss, .ref sp, .ref szs, .ref sv, .int sc_length, .int sc_at])), (tr, .inr (1, [.ref tx, .int tr_length])), (ss, .inl (css, 2001, .inr (.inr (.inr (.inr (fun j => (gss j).map (sg sa))))))), (sp, .inl (csp, 2001, .inl gsp)), (szs, .inl (cszs, 2001, .inl gszs)), (sv, .inl (csv, 2001, .inr (.inl gsv))), (h0, .inr (6, [.ref gl, .ref fu, .ref pa, .ref pf, .ref sf, .ref pk, .ref pg, .ref pp, .ref pz, .ref pv, .int n9, .int n8, .ref sc, .int h0_stepCount, .int h0_open, .int h0_twoSides, .ref wg, .ref wp, .int h0_waitingCount]))] := hD
      have hP9 := hP.sb (wq := (wz_112 h0 gl fu pa pf sf pk pg pp pz pv n9 n8 sc h0_stepCount h0_open h0_twoSides wg wp h0_waitingCount sc tr (sg sa sc_sign) sc_place sc_size sc_value ss sp szs sv sc_length sc_at tr tx tr_length ss css (fun j => (gss j).map (sg sa)) sp csp gsp szs cszs gszs sv csv gsv)) [6, 0, 1, 2, 3, 4, 5] rfl
      have hD9 := hD.sb (wq := (wz_112 h0 gl fu pa pf sf pk pg pp pz pv n9 n8 sc h0_stepCount h0_open h0_twoSides wg wp h0_waitingCount sc tr (sg sa sc_sign) sc_place sc_size sc_value ss sp szs sv sc_length sc_at tr tx tr_length ss css (fun j => (gss j).map (sg sa)) sp csp gsp szs cszs gszs sv csv gsv)) [6, 0, 1, 2, 3, 4, 5] (by decide) rfl
      exact tz_leave rfl hno hlocks (fun t ht hW => ⟨⟨(n8, n9, sc_at, sc_place, sc_sign, sc_size, sc_value), ⟨⟨b_sc_at, b_sc_place, b_sc_sign, b_sc_size⟩, by rw [ht]; exact hXX.moved hW.alike⟩, va_P.he ht.symm hP9, va_K.moved hW.alike hK, hD9⟩, hS.F ht⟩) hS.2.2
    exact (show False from hw).elim
abbrev b_PR_hold : ByteArray := prog_8_method_26_code
def y_PR_hold : MethodName := ⟨R_PR, "hold", "(LWaferForge$Sign;I)V"⟩
abbrev w_PR_hold : List Cond := .code y_PR_hold b_PR_hold 3 none :: lw_g
theorem kC_PR_hold : Cond.code y_PR_hold b_PR_hold 3 none ∈ lw_g := in_c5 56 rfl rfl
theorem d_PR_hold_0 : decode b_PR_hold 0 = .ok (.aload_n 0, 1) := bz_c42 (by decide +kernel)
theorem d_PR_hold_1 : decode b_PR_hold 1 = .ok (.getfield 87, 3) := bz_c180 (by decide +kernel)
theorem d_PR_hold_4 : decode b_PR_hold 4 = .ok (.aload_n 0, 1) := bz_c42 (by decide +kernel)
theorem d_PR_hold_5 : decode b_PR_hold 5 = .ok (.getfield 37, 3) := bz_c180 (by decide +kernel)
theorem d_PR_hold_8 : decode b_PR_hold 8 = .ok (.arraylength, 1) := bz_c190 (by decide +kernel)
theorem d_PR_hold_9 : decode b_PR_hold 9 = .ok (.if_icmp .ge 33, 3) := bz_c162 (by decide +kernel)
theorem d_PR_hold_12 : decode b_PR_hold 12 = .ok (.aload_n 0, 1) := bz_c42 (by decide +kernel)
theorem d_PR_hold_13 : decode b_PR_hold 13 = .ok (.getfield 37, 3) := bz_c180 (by decide +kernel)
theorem d_PR_hold_16 : decode b_PR_hold 16 = .ok (.aload_n 0, 1) := bz_c42 (by decide +kernel)
theorem d_PR_hold_17 : decode b_PR_hold 17 = .ok (.getfield 87, 3) := bz_c180 (by decide +kernel)
theorem d_PR_hold_20 : decode b_PR_hold 20 = .ok (.aload_n 1, 1) := bz_c43 (by decide +kernel)
theorem d_PR_hold_21 : decode b_PR_hold 21 = .ok (.aastore, 1) := bz_c83 (by decide +kernel)
theorem d_PR_hold_22 : decode b_PR_hold 22 = .ok (.aload_n 0, 1) := bz_c42 (by decide +kernel)
theorem d_PR_hold_23 : decode b_PR_hold 23 = .ok (.getfield 40, 3) := bz_c180 (by decide +kernel)
theorem d_PR_hold_26 : decode b_PR_hold 26 = .ok (.aload_n 0, 1) := bz_c42 (by decide +kernel)
theorem d_PR_hold_27 : decode b_PR_hold 27 = .ok (.getfield 87, 3) := bz_c180 (by decide +kernel)
theorem d_PR_hold_30 : decode b_PR_hold 30 = .ok (.iload_n 2, 1) := bz_c28 (by decide +kernel)
theorem d_PR_hold_31 : decode b_PR_hold 31 = .ok (.iastore, 1) := bz_c79 (by decide +kernel)
theorem d_PR_hold_32 : decode b_PR_hold 32 = .ok (.aload_n 0, 1) := bz_c42 (by decide +kernel)
theorem d_PR_hold_33 : decode b_PR_hold 33 = .ok (.dup, 1) := bz_c89 (by decide +kernel)
theorem d_PR_hold_34 : decode b_PR_hold 34 = .ok (.getfield 87, 3) := bz_c180 (by decide +kernel)
theorem d_PR_hold_37 : decode b_PR_hold 37 = .ok (.iconst 1, 1) := bz_c4 (by decide +kernel)
theorem d_PR_hold_38 : decode b_PR_hold 38 = .ok (.iadd, 1) := bz_c96 (by decide +kernel)
theorem d_PR_hold_39 : decode b_PR_hold 39 = .ok (.putfield 87, 3) := bz_c181 (by decide +kernel)
theorem d_PR_hold_42 : decode b_PR_hold 42 = .ok (.return_, 1) := bz_c177 (by decide +kernel)
theorem kF_PR_87 : Cond.fieldLink R_PR 87 "WaferForge$Program" "waitingCount" "I" ∈ lw_g := in_c2 130 rfl rfl
theorem kF_PR_37 : Cond.fieldLink R_PR 37 "WaferForge$Program" "waiting" "[LWaferForge$Sign;" ∈ lw_g := in_c2 128 rfl rfl
theorem kF_PR_40 : Cond.fieldLink R_PR 40 "WaferForge$Program" "waitingPlaces" "[I" ∈ lw_g := in_c2 129 rfl rfl
abbrev at_PR_hold (dC : Nat → ClassId) (dI : Nat → Nat → Nat) (sa : Nat → Nat) (h0 gl fu pa pf sf pk pg pp pz pv sc wg wp : Nat) (cwg cwp : ClassId) (h0_reason : Int32) (h0_place : Int32) (h0_stepCount : Int32) (h0_open : Int32) (h0_twoSides : Int32) (A : Nat → Prop) (u : (Nat → Option Nat) × (Nat → Int32) × Int32) (t : State) : Prop := match u with | (gwg, gwp, h0_waitingCount) => va_P (dC, dI) cls (wz_113 h0 gl fu pa pf sf pk pg pp pz pv h0_reason h0_place sc h0_stepCount h0_open h0_twoSides wg wp h0_waitingCount wg cwg (fun j => (gwg j).map (sg sa)) wp cwp gwp) t.heap ∧ va_K (dC, dI) cls [(cwg, .object "WaferForge$Sign"), (cwp, .int)] t ∧ va_D A (wz_113 h0 gl fu pa pf sf pk pg pp pz pv h0_reason h0_place sc h0_stepCount h0_open h0_twoSides wg wp h0_waitingCount wg cwg (fun j => (gwg j).map (sg sa)) wp cwp gwp)
set_option maxHeartbeats 4000000 in
set_option maxRecDepth 100000 in
theorem c_PR_hold (l : Launch) (dC : Nat → ClassId) (dI : Nat → Nat → Nat) (sz : Nat) (sa : Nat → Nat) (h0 gl fu pa pf sf pk pg pp pz pv sc wg wp : Nat) (cwg cwp : ClassId) (h0_reason : Int32) (h0_place : Int32) (h0_stepCount : Int32) (h0_open : Int32) (h0_twoSides : Int32) (h0_waitingCount : Int32) (gwg : Nat → Option Nat) (gwp : Nat → Int32)  (b_h0_waitingCount : 0 ≤ h0_waitingCount.toInt ∧ h0_waitingCount.toInt ≤ 360) (ka : Nat) (p1 : Int32) (ba0 : ka < 55) (hwc : h0_waitingCount.toInt < 360) : Met l y_PR_hold w_PR_hold ({ frames := 0, cells := 0, slots := 0, locals := 0 }) (va_Pc [.ref h0, .ref (sg sa ka), .int p1] (fun U => U.heap.size = sz ∧ va_P (dC, dI) cls (wz_113 h0 gl fu pa pf sf pk pg pp pz pv h0_reason h0_place sc h0_stepCount h0_open h0_twoSides wg wp h0_waitingCount wg cwg (fun j => (gwg j).map (sg sa)) wp cwp gwp) U.heap ∧ va_K (dC, dI) cls [(cwg, .object "WaferForge$Sign"), (cwp, .int)] U ∧ va_D (fun _ => True) (wz_113 h0 gl fu pa pf sf pk pg pp pz pv h0_reason h0_place sc h0_stepCount h0_open h0_twoSides wg wp h0_waitingCount wg cwg (fun j => (gwg j).map (sg sa)) wp cwp gwp) ∧ sw sa (va_A (wz_113 h0 gl fu pa pf sf pk pg pp pz pv h0_reason h0_place sc h0_stepCount h0_open h0_twoSides wg wp h0_waitingCount wg cwg (fun j => (gwg j).map (sg sa)) wp cwp gwp) sz) U U.heap)) (va_Qv (fun (u : (Nat → Option Nat) × (Nat → Int32) × Int32) => match u with | (gwg2, gwp2, h0_waitingCount2) => (0 ≤ h0_waitingCount2.toInt ∧ h0_waitingCount2.toInt ≤ 360) ∧ (h0_waitingCount2.toInt = h0_waitingCount.toInt + 1 ∧ gwg2 = va_up gwg h0_waitingCount.toNatClampNeg (some ka) ∧ gwp2 = upd gwp h0_waitingCount.toNatClampNeg p1)) (at_PR_hold dC dI sa h0 gl fu pa pf sf pk pg pp pz pv sc wg wp cwg cwp h0_reason h0_place h0_stepCount h0_open h0_twoSides (va_A (wz_113 h0 gl fu pa pf sf pk pg pp pz pv h0_reason h0_place sc h0_stepCount h0_open h0_twoSides wg wp h0_waitingCount wg cwg (fun j => (gwg j).map (sg sa)) wp cwp gwp) sz)) (va_A (wz_113 h0 gl fu pa pf sf pk pg pp pz pv h0_reason h0_place sc h0_stepCount h0_open h0_twoSides wg wp h0_waitingCount wg cwg (fun j => (gwg j).map (sg sa)) wp cwp gwp) sz)) 0 0 (va_A (wz_113 h0 gl fu pa pf sf pk pg pp pz pv h0_reason h0_place sc h0_stepCount h0_open h0_twoSides wg wp h0_waitingCount wg cwg (fun j => (gwg j).map (sg sa)) wp cwp gwp) sz) := by
  refine Met.ofW (cc := b_PR_hold) (maxL := 3) (ret := none) (by decide) rfl ?_
  intro p e s m args below meth c s₁ B hml hv
  obtain ⟨rfl, hsz, hP, hK, hD0, hSW⟩ := hv
  have hx := B.exec
  have hb := B.bytes
  have hr := B.returns
  have hts0 := atoms_spec (ws := w_PR_hold) B.pre
  have hts : ∀ w ∈ lw_g, w.before _ s = true := fun w h => hts0 w (List.mem_cons_of_mem _ h)
  have hown : s.vm.findClass R_PR = some m.cls := findClass_of_methodNamed B.named
  have hlocks := B.notSynchronized
  clear hts0
  subst hsz
  have hD := hD0.self (sz := s.heap.size)
  generalize hAe : va_A (wz_113 h0 gl fu pa pf sf pk pg pp pz pv h0_reason h0_place sc h0_stepCount h0_open h0_twoSides wg wp h0_waitingCount wg cwg (fun j => (gwg j).map (sg sa)) wp cwp gwp) s.heap.size = A at hD hSW ⊢
  have hA : ∀ q : Nat, s.heap.size ≤ q → A q := fun q h => by rw [← hAe]; exact Or.inr h
  clear hAe
  have hP : va_P (dC, dI) cls (wz_113 h0 gl fu pa pf sf pk pg pp pz pv h0_reason h0_place sc h0_stepCount h0_open h0_twoSides wg wp h0_waitingCount wg cwg (fun j => (gwg j).map (sg sa)) wp cwp gwp) s.heap := hP
  have hl := lv_entry ([.ref h0, .ref (sg sa ka), .int p1]) (n := 3) (Nat.le_of_ble_eq_true rfl)
  rw [lg_entry_eq]
  generalize (lg_sl ([.ref h0, .ref (sg sa ka), .int p1]) ++ List.replicate (3 - (lg_sl ([.ref h0, .ref (sg sa ka), .int p1])).length) Slot.unset).toArray = ls at hl ⊢
  have hl : lv_has ls 3 [(0, .ref h0), (1, .ref (sg sa ka)), (2, .int p1)] := hl
  have k0 : (0 : Int32).toInt = 0 := by decide
  refine w_gen (A := A) hP (fun H locs hP hS => ?_)
  have k1 : (1 : Int32).toInt = 1 := by decide
  have lo_p1 := i32_lo p1
  have hi_p1 := i32_hi p1
  refine lv_aload_n hx hb d_PR_hold_0 rfl (lv_at hl 0 rfl) ?_
  refine va_get (D := (dC, dI)) (ci := 6) (v := .int h0_waitingCount) (C := R_PR) (T := F_PR) (N := 19) hx hb hts i_PR hown hK hP 0 rfl rfl 18 (by decide) (hts _ kF_PR_87) (fun _ h9 => h9) rfl d_PR_hold_1 ?_
  refine lv_aload_n hx hb d_PR_hold_4 rfl (lv_at hl 0 rfl) ?_
  refine va_get (D := (dC, dI)) (ci := 6) (v := .ref wg) (C := R_PR) (T := F_PR) (N := 19) hx hb hts i_PR hown hK hP 0 rfl rfl 16 (by decide) (hts _ kF_PR_37) (fun _ h9 => h9) rfl d_PR_hold_5 ?_
  refine va_alen hx hb hK hP 1 0 rfl rfl rfl d_PR_hold_8 ?_
  refine lv_topi (fun x1 ex1 => ?_)
  have tx1 : x1.toInt = 360 := by rw [ex1]; exact i32_len (by (first | (apply Int.le_antisymm <;> omega) | omega))
  refine lv_icmp_ge (tgt := 42) hx hb d_PR_hold_9 (by decide) (fun c9 => absurd (leI c9) (by (first | (apply Int.le_antisymm <;> omega) | omega))) (fun c9 => ?_)
  have q9 := nleI c9
  refine lv_aload_n hx hb d_PR_hold_12 rfl (lv_at hl 0 rfl) ?_
  refine va_get (D := (dC, dI)) (ci := 6) (v := .ref wg) (C := R_PR) (T := F_PR) (N := 19) hx hb hts i_PR hown hK hP 0 rfl rfl 16 (by decide) (hts _ kF_PR_37) (fun _ h9 => h9) rfl d_PR_hold_13 ?_
  refine lv_aload_n hx hb d_PR_hold_16 rfl (lv_at hl 0 rfl) ?_
  refine va_get (D := (dC, dI)) (ci := 6) (v := .int h0_waitingCount) (C := R_PR) (T := F_PR) (N := 19) hx hb hts i_PR hown hK hP 0 rfl rfl 18 (by decide) (hts _ kF_PR_87) (fun _ h9 => h9) rfl d_PR_hold_17 ?_
  refine lv_aload_n hx hb d_PR_hold_20 rfl (lv_at hl 1 rfl) ?_
  have g21 : vp_in h0_waitingCount 360 := vp_in_iff.mpr ⟨by (first | (apply Int.le_antisymm <;> omega) | omega), by (first | (apply Int.le_antisymm <;> omega) | omega)⟩
  refine va_astqM hx hb hK hP hD hS 1 0 rfl rfl (sg_any hSW hS ba0) g21 d_PR_hold_21 (fun H locs hP hD hS => ?_)
  rw [sg_up] at hP hD
  have hP : va_P (dC, dI) cls (wz_113 h0 gl fu pa pf sf pk pg pp pz pv h0_reason h0_place sc h0_stepCount h0_open h0_twoSides wg wp h0_waitingCount wg cwg (fun j => (((va_up gwg h0_waitingCount.toNatClampNeg (some ka))) j).map (sg sa)) wp cwp gwp) H := hP
  have hD : va_D A (wz_113 h0 gl fu pa pf sf pk pg pp pz pv h0_reason h0_place sc h0_stepCount h0_open h0_twoSides wg wp h0_waitingCount wg cwg (fun j => (((va_up gwg h0_waitingCount.toNatClampNeg (some ka))) j).map (sg sa)) wp cwp gwp) := hD
  generalize ef2 : va_up gwg h0_waitingCount.toNatClampNeg (some ka) = f2 at hP hD
  refine lv_aload_n hx hb d_PR_hold_22 rfl (lv_at hl 0 rfl) ?_
  refine va_get (D := (dC, dI)) (ci := 6) (v := .ref wp) (C := R_PR) (T := F_PR) (N := 19) hx hb hts i_PR hown hK hP 0 rfl rfl 17 (by decide) (hts _ kF_PR_40) (fun _ h9 => h9) rfl d_PR_hold_23 ?_
  refine lv_aload_n hx hb d_PR_hold_26 rfl (lv_at hl 0 rfl) ?_
  refine va_get (D := (dC, dI)) (ci := 6) (v := .int h0_waitingCount) (C := R_PR) (T := F_PR) (N := 19) hx hb hts i_PR hown hK hP 0 rfl rfl 18 (by decide) (hts _ kF_PR_87) (fun _ h9 => h9) rfl d_PR_hold_27 ?_
  refine lv_iload_n hx hb d_PR_hold_30 rfl (lv_at hl 2 rfl) ?_
  have g31 : vp_in h0_waitingCount 360 := vp_in_iff.mpr ⟨by (first | (apply Int.le_antisymm <;> omega) | omega), by (first | (apply Int.le_antisymm <;> omega) | omega)⟩
  refine va_iast hx hb hK hP hD hS 2 1 rfl rfl g31 d_PR_hold_31 (fun H locs hP hD hS => ?_)
  generalize ef3 : upd gwp h0_waitingCount.toNatClampNeg p1 = f3 at hP hD
  refine lv_aload_n hx hb d_PR_hold_32 rfl (lv_at hl 0 rfl) ?_
  refine lv_dup hx hb d_PR_hold_33 rfl ?_
  refine va_get (D := (dC, dI)) (ci := 6) (v := .int h0_waitingCount) (C := R_PR) (T := F_PR) (N := 19) hx hb hts i_PR hown hK hP 0 rfl rfl 18 (by decide) (hts _ kF_PR_87) (fun _ h9 => h9) rfl d_PR_hold_34 ?_
  refine lv_iconst (v := 1) hx hb d_PR_hold_37 (by decide) ?_
  refine lv_iadd hx hb d_PR_hold_38 ?_
  refine lv_topi (fun x4 ex4 => ?_)
  have tx4 : x4.toInt = h0_waitingCount.toInt + 1 := by have z := i32_add ex4 (by (first | (apply Int.le_antisymm <;> omega) | omega)) (by (first | (apply Int.le_antisymm <;> omega) | omega)); first | exact z | (first | (apply Int.le_antisymm <;> omega) | omega)
  refine va_put (D := (dC, dI)) (ci := 6) (v := .int x4) (ty := .int) (C := R_PR) (T := F_PR) (N := 19) hx hb hts i_PR t_PR t_PR_ok n_PR hown hK hP hD hS 0 rfl rfl 18 (by decide) (hts _ kF_PR_87) (fun _ h9 => h9) rfl (by decide +kernel) rfl rfl (Nat.le_of_ble_eq_true rfl) d_PR_hold_39 (fun H locs hP hD hS => ?_)
  have hP9 := hP.sb (wq := (wz_113 h0 gl fu pa pf sf pk pg pp pz pv h0_reason h0_place sc h0_stepCount h0_open h0_twoSides wg wp x4 wg cwg (fun j => (f2 j).map (sg sa)) wp cwp f3)) [0, 1, 2] rfl
  have hD9 := hD.sb (wq := (wz_113 h0 gl fu pa pf sf pk pg pp pz pv h0_reason h0_place sc h0_stepCount h0_open h0_twoSides wg wp x4 wg cwg (fun j => (f2 j).map (sg sa)) wp cwp f3)) [0, 1, 2] (by decide) rfl
  exact W.vret hx hb hr (fun t ht hW => ⟨⟨(f2, f3, x4), rfl, ⟨by (try dsimp only) <;> (first | (apply Int.le_antisymm <;> omega) | omega), ⟨by (try dsimp only); (first | (apply Int.le_antisymm <;> omega) | omega), by (try dsimp only) <;> exact ef2.symm, by (try dsimp only) <;> exact ef3.symm⟩⟩, va_P.he ht.symm hP9, va_K.moved hW.alike hK, hD9⟩, hS.F ht⟩) hS.2.2 d_PR_hold_42
abbrev b_PR_add : ByteArray := prog_8_method_27_code
def y_PR_add : MethodName := ⟨R_PR, "add", "(ILWaferForge$Sign;IIJ)V"⟩
abbrev w_PR_add : List Cond := .code y_PR_add b_PR_add 7 none :: lw_g
theorem kC_PR_add : Cond.code y_PR_add b_PR_add 7 none ∈ lw_g := in_c5 17 rfl rfl
theorem d_PR_add_0 : decode b_PR_add 0 = .ok (.aload_n 0, 1) := bz_c42 (by decide +kernel)
theorem d_PR_add_1 : decode b_PR_add 1 = .ok (.getfield 81, 3) := bz_c180 (by decide +kernel)
theorem d_PR_add_4 : decode b_PR_add 4 = .ok (.sipush 4100, 3) := bz_c17 (by decide +kernel)
theorem d_PR_add_7 : decode b_PR_add 7 = .ok (.if_icmp .ge 65, 3) := bz_c162 (by decide +kernel)
theorem d_PR_add_10 : decode b_PR_add 10 = .ok (.aload_n 0, 1) := bz_c42 (by decide +kernel)
theorem d_PR_add_11 : decode b_PR_add 11 = .ok (.getfield 18, 3) := bz_c180 (by decide +kernel)
theorem d_PR_add_14 : decode b_PR_add 14 = .ok (.aload_n 0, 1) := bz_c42 (by decide +kernel)
theorem d_PR_add_15 : decode b_PR_add 15 = .ok (.getfield 81, 3) := bz_c180 (by decide +kernel)
theorem d_PR_add_18 : decode b_PR_add 18 = .ok (.iload_n 1, 1) := bz_c27 (by decide +kernel)
theorem d_PR_add_19 : decode b_PR_add 19 = .ok (.iastore, 1) := bz_c79 (by decide +kernel)
theorem d_PR_add_20 : decode b_PR_add 20 = .ok (.aload_n 0, 1) := bz_c42 (by decide +kernel)
theorem d_PR_add_21 : decode b_PR_add 21 = .ok (.getfield 23, 3) := bz_c180 (by decide +kernel)
theorem d_PR_add_24 : decode b_PR_add 24 = .ok (.aload_n 0, 1) := bz_c42 (by decide +kernel)
theorem d_PR_add_25 : decode b_PR_add 25 = .ok (.getfield 81, 3) := bz_c180 (by decide +kernel)
theorem d_PR_add_28 : decode b_PR_add 28 = .ok (.aload_n 2, 1) := bz_c44 (by decide +kernel)
theorem d_PR_add_29 : decode b_PR_add 29 = .ok (.aastore, 1) := bz_c83 (by decide +kernel)
theorem d_PR_add_30 : decode b_PR_add 30 = .ok (.aload_n 0, 1) := bz_c42 (by decide +kernel)
theorem d_PR_add_31 : decode b_PR_add 31 = .ok (.getfield 27, 3) := bz_c180 (by decide +kernel)
theorem d_PR_add_34 : decode b_PR_add 34 = .ok (.aload_n 0, 1) := bz_c42 (by decide +kernel)
theorem d_PR_add_35 : decode b_PR_add 35 = .ok (.getfield 81, 3) := bz_c180 (by decide +kernel)
theorem d_PR_add_38 : decode b_PR_add 38 = .ok (.iload_n 3, 1) := bz_c29 (by decide +kernel)
theorem d_PR_add_39 : decode b_PR_add 39 = .ok (.iastore, 1) := bz_c79 (by decide +kernel)
theorem d_PR_add_40 : decode b_PR_add 40 = .ok (.aload_n 0, 1) := bz_c42 (by decide +kernel)
theorem d_PR_add_41 : decode b_PR_add 41 = .ok (.getfield 30, 3) := bz_c180 (by decide +kernel)
theorem d_PR_add_44 : decode b_PR_add 44 = .ok (.aload_n 0, 1) := bz_c42 (by decide +kernel)
theorem d_PR_add_45 : decode b_PR_add 45 = .ok (.getfield 81, 3) := bz_c180 (by decide +kernel)
theorem d_PR_add_48 : decode b_PR_add 48 = .ok (.iload 4, 2) := bz_c21 (by decide +kernel)
theorem d_PR_add_50 : decode b_PR_add 50 = .ok (.iastore, 1) := bz_c79 (by decide +kernel)
theorem d_PR_add_51 : decode b_PR_add 51 = .ok (.aload_n 0, 1) := bz_c42 (by decide +kernel)
theorem d_PR_add_52 : decode b_PR_add 52 = .ok (.getfield 33, 3) := bz_c180 (by decide +kernel)
theorem d_PR_add_55 : decode b_PR_add 55 = .ok (.aload_n 0, 1) := bz_c42 (by decide +kernel)
theorem d_PR_add_56 : decode b_PR_add 56 = .ok (.getfield 81, 3) := bz_c180 (by decide +kernel)
theorem d_PR_add_59 : decode b_PR_add 59 = .ok (.lload 5, 2) := bz_c22 (by decide +kernel)
theorem d_PR_add_61 : decode b_PR_add 61 = .ok (.lastore, 1) := bz_c80 (by decide +kernel)
theorem d_PR_add_62 : decode b_PR_add 62 = .ok (.aload_n 0, 1) := bz_c42 (by decide +kernel)
theorem d_PR_add_63 : decode b_PR_add 63 = .ok (.dup, 1) := bz_c89 (by decide +kernel)
theorem d_PR_add_64 : decode b_PR_add 64 = .ok (.getfield 81, 3) := bz_c180 (by decide +kernel)
theorem d_PR_add_67 : decode b_PR_add 67 = .ok (.iconst 1, 1) := bz_c4 (by decide +kernel)
theorem d_PR_add_68 : decode b_PR_add 68 = .ok (.iadd, 1) := bz_c96 (by decide +kernel)
theorem d_PR_add_69 : decode b_PR_add 69 = .ok (.putfield 81, 3) := bz_c181 (by decide +kernel)
theorem d_PR_add_72 : decode b_PR_add 72 = .ok (.return_, 1) := bz_c177 (by decide +kernel)
theorem kF_PR_81 : Cond.fieldLink R_PR 81 "WaferForge$Program" "stepCount" "I" ∈ lw_g := in_c2 125 rfl rfl
theorem kF_PR_18 : Cond.fieldLink R_PR 18 "WaferForge$Program" "kinds" "[I" ∈ lw_g := in_c2 110 rfl rfl
theorem kF_PR_23 : Cond.fieldLink R_PR 23 "WaferForge$Program" "signs" "[LWaferForge$Sign;" ∈ lw_g := in_c2 112 rfl rfl
theorem kF_PR_27 : Cond.fieldLink R_PR 27 "WaferForge$Program" "places" "[I" ∈ lw_g := in_c2 114 rfl rfl
theorem kF_PR_30 : Cond.fieldLink R_PR 30 "WaferForge$Program" "sizes" "[I" ∈ lw_g := in_c2 116 rfl rfl
theorem kF_PR_33 : Cond.fieldLink R_PR 33 "WaferForge$Program" "values" "[J" ∈ lw_g := in_c2 118 rfl rfl
abbrev at_PR_add (dC : Nat → ClassId) (dI : Nat → Nat → Nat) (sa : Nat → Nat) (h0 gl fu pa pf sf pk pg pp pz pv sc wg wp : Nat) (cpk cpg cpp cpz cpv : ClassId) (h0_reason : Int32) (h0_place : Int32) (h0_open : Int32) (h0_twoSides : Int32) (h0_waitingCount : Int32) (A : Nat → Prop) (u : (Nat → Option Nat) × (Nat → Int32) × (Nat → Int32) × (Nat → Int64) × (Nat → Int32) × Int32) (t : State) : Prop := match u with | (gpg, gpk, gpp, gpv, gpz, h0_stepCount) => va_P (dC, dI) cls (wz_114 h0 gl fu pa pf sf pk pg pp pz pv h0_reason h0_place sc h0_stepCount h0_open h0_twoSides wg wp h0_waitingCount pk cpk gpk pg cpg (fun j => (gpg j).map (sg sa)) pp cpp gpp pz cpz gpz pv cpv gpv) t.heap ∧ va_K (dC, dI) cls [(cpk, .int), (cpg, .object "WaferForge$Sign"), (cpp, .int), (cpz, .int), (cpv, .long)] t ∧ va_D A (wz_114 h0 gl fu pa pf sf pk pg pp pz pv h0_reason h0_place sc h0_stepCount h0_open h0_twoSides wg wp h0_waitingCount pk cpk gpk pg cpg (fun j => (gpg j).map (sg sa)) pp cpp gpp pz cpz gpz pv cpv gpv)
set_option maxHeartbeats 4000000 in
set_option maxRecDepth 100000 in
theorem c_PR_add (l : Launch) (dC : Nat → ClassId) (dI : Nat → Nat → Nat) (sz : Nat) (sa : Nat → Nat) (h0 gl fu pa pf sf pk pg pp pz pv sc wg wp : Nat) (cpk cpg cpp cpz cpv : ClassId) (h0_reason : Int32) (h0_place : Int32) (h0_stepCount : Int32) (h0_open : Int32) (h0_twoSides : Int32) (h0_waitingCount : Int32) (gpk : Nat → Int32) (gpg : Nat → Option Nat) (gpp : Nat → Int32) (gpz : Nat → Int32) (gpv : Nat → Int64)  (b_h0_stepCount : 0 ≤ h0_stepCount.toInt ∧ h0_stepCount.toInt ≤ 4100) (p0 : Int32) (ka : Nat) (p2 : Int32) (p3 : Int32) (p4 : Int64) (ba1 : ka < 55) (hst : h0_stepCount.toInt < 4100) : Met l y_PR_add w_PR_add ({ frames := 0, cells := 0, slots := 0, locals := 0 }) (va_Pc [.ref h0, .int p0, .ref (sg sa ka), .int p2, .int p3, .long p4] (fun U => U.heap.size = sz ∧ va_P (dC, dI) cls (wz_114 h0 gl fu pa pf sf pk pg pp pz pv h0_reason h0_place sc h0_stepCount h0_open h0_twoSides wg wp h0_waitingCount pk cpk gpk pg cpg (fun j => (gpg j).map (sg sa)) pp cpp gpp pz cpz gpz pv cpv gpv) U.heap ∧ va_K (dC, dI) cls [(cpk, .int), (cpg, .object "WaferForge$Sign"), (cpp, .int), (cpz, .int), (cpv, .long)] U ∧ va_D (fun _ => True) (wz_114 h0 gl fu pa pf sf pk pg pp pz pv h0_reason h0_place sc h0_stepCount h0_open h0_twoSides wg wp h0_waitingCount pk cpk gpk pg cpg (fun j => (gpg j).map (sg sa)) pp cpp gpp pz cpz gpz pv cpv gpv) ∧ sw sa (va_A (wz_114 h0 gl fu pa pf sf pk pg pp pz pv h0_reason h0_place sc h0_stepCount h0_open h0_twoSides wg wp h0_waitingCount pk cpk gpk pg cpg (fun j => (gpg j).map (sg sa)) pp cpp gpp pz cpz gpz pv cpv gpv) sz) U U.heap)) (va_Qv (fun (u : (Nat → Option Nat) × (Nat → Int32) × (Nat → Int32) × (Nat → Int64) × (Nat → Int32) × Int32) => match u with | (gpg2, gpk2, gpp2, gpv2, gpz2, h0_stepCount2) => (0 ≤ h0_stepCount2.toInt ∧ h0_stepCount2.toInt ≤ 4100) ∧ (h0_stepCount2.toInt = h0_stepCount.toInt + 1 ∧ sl gpk2 gpg2 gpp2 gpz2 gpv2 h0_stepCount2.toInt = sl gpk gpg gpp gpz gpv h0_stepCount.toInt ++ [(p0, some ka, p2, p3, p4)])) (at_PR_add dC dI sa h0 gl fu pa pf sf pk pg pp pz pv sc wg wp cpk cpg cpp cpz cpv h0_reason h0_place h0_open h0_twoSides h0_waitingCount (va_A (wz_114 h0 gl fu pa pf sf pk pg pp pz pv h0_reason h0_place sc h0_stepCount h0_open h0_twoSides wg wp h0_waitingCount pk cpk gpk pg cpg (fun j => (gpg j).map (sg sa)) pp cpp gpp pz cpz gpz pv cpv gpv) sz)) (va_A (wz_114 h0 gl fu pa pf sf pk pg pp pz pv h0_reason h0_place sc h0_stepCount h0_open h0_twoSides wg wp h0_waitingCount pk cpk gpk pg cpg (fun j => (gpg j).map (sg sa)) pp cpp gpp pz cpz gpz pv cpv gpv) sz)) 0 0 (va_A (wz_114 h0 gl fu pa pf sf pk pg pp pz pv h0_reason h0_place sc h0_stepCount h0_open h0_twoSides wg wp h0_waitingCount pk cpk gpk pg cpg (fun j => (gpg j).map (sg sa)) pp cpp gpp pz cpz gpz pv cpv gpv) sz) := by
  refine Met.ofW (cc := b_PR_add) (maxL := 7) (ret := none) (by decide) rfl ?_
  intro p e s m args below meth c s₁ B hml hv
  obtain ⟨rfl, hsz, hP, hK, hD0, hSW⟩ := hv
  have hx := B.exec
  have hb := B.bytes
  have hr := B.returns
  have hts0 := atoms_spec (ws := w_PR_add) B.pre
  have hts : ∀ w ∈ lw_g, w.before _ s = true := fun w h => hts0 w (List.mem_cons_of_mem _ h)
  have hown : s.vm.findClass R_PR = some m.cls := findClass_of_methodNamed B.named
  have hlocks := B.notSynchronized
  clear hts0
  subst hsz
  have hD := hD0.self (sz := s.heap.size)
  generalize hAe : va_A (wz_114 h0 gl fu pa pf sf pk pg pp pz pv h0_reason h0_place sc h0_stepCount h0_open h0_twoSides wg wp h0_waitingCount pk cpk gpk pg cpg (fun j => (gpg j).map (sg sa)) pp cpp gpp pz cpz gpz pv cpv gpv) s.heap.size = A at hD hSW ⊢
  have hA : ∀ q : Nat, s.heap.size ≤ q → A q := fun q h => by rw [← hAe]; exact Or.inr h
  clear hAe
  have hP : va_P (dC, dI) cls (wz_114 h0 gl fu pa pf sf pk pg pp pz pv h0_reason h0_place sc h0_stepCount h0_open h0_twoSides wg wp h0_waitingCount pk cpk gpk pg cpg (fun j => (gpg j).map (sg sa)) pp cpp gpp pz cpz gpz pv cpv gpv) s.heap := hP
  have hl := lv_entry ([.ref h0, .int p0, .ref (sg sa ka), .int p2, .int p3, .long p4]) (n := 7) (Nat.le_of_ble_eq_true rfl)
  rw [lg_entry_eq]
  generalize (lg_sl ([.ref h0, .int p0, .ref (sg sa ka), .int p2, .int p3, .long p4]) ++ List.replicate (7 - (lg_sl ([.ref h0, .int p0, .ref (sg sa ka), .int p2, .int p3, .long p4])).length) Slot.unset).toArray = ls at hl ⊢
  have hl : lv_has ls 7 [(0, .ref h0), (1, .int p0), (2, .ref (sg sa ka)), (3, .int p2), (4, .int p3), (5, .long p4)] := hl
  have k0 : (0 : Int32).toInt = 0 := by decide
  refine w_gen (A := A) hP (fun H locs hP hS => ?_)
  have k1 : (1 : Int32).toInt = 1 := by decide
  have k4100 : (4100 : Int32).toInt = 4100 := by decide
  have lo_p0 := i32_lo p0
  have hi_p0 := i32_hi p0
  have lo_p2 := i32_lo p2
  have hi_p2 := i32_hi p2
  have lo_p3 := i32_lo p3
  have hi_p3 := i32_hi p3
  refine lv_aload_n hx hb d_PR_add_0 rfl (lv_at hl 0 rfl) ?_
  refine va_get (D := (dC, dI)) (ci := 6) (v := .int h0_stepCount) (C := R_PR) (T := F_PR) (N := 19) hx hb hts i_PR hown hK hP 0 rfl rfl 13 (by decide) (hts _ kF_PR_81) (fun _ h9 => h9) rfl d_PR_add_1 ?_
  refine lv_sipush (v := 4100) hx hb d_PR_add_4 (by decide) ?_
  refine lv_icmp_ge (tgt := 72) hx hb d_PR_add_7 (by decide) (fun c7 => absurd (leI c7) (by (first | (apply Int.le_antisymm <;> omega) | omega))) (fun c7 => ?_)
  have q7 := nleI c7
  refine lv_aload_n hx hb d_PR_add_10 rfl (lv_at hl 0 rfl) ?_
  refine va_get (D := (dC, dI)) (ci := 6) (v := .ref pk) (C := R_PR) (T := F_PR) (N := 19) hx hb hts i_PR hown hK hP 0 rfl rfl 5 (by decide) (hts _ kF_PR_18) (fun _ h9 => h9) rfl d_PR_add_11 ?_
  refine lv_aload_n hx hb d_PR_add_14 rfl (lv_at hl 0 rfl) ?_
  refine va_get (D := (dC, dI)) (ci := 6) (v := .int h0_stepCount) (C := R_PR) (T := F_PR) (N := 19) hx hb hts i_PR hown hK hP 0 rfl rfl 13 (by decide) (hts _ kF_PR_81) (fun _ h9 => h9) rfl d_PR_add_15 ?_
  refine lv_iload_n hx hb d_PR_add_18 rfl (lv_at hl 1 rfl) ?_
  have g19 : vp_in h0_stepCount 4100 := vp_in_iff.mpr ⟨by (first | (apply Int.le_antisymm <;> omega) | omega), by (first | (apply Int.le_antisymm <;> omega) | omega)⟩
  refine va_iast hx hb hK hP hD hS 1 0 rfl rfl g19 d_PR_add_19 (fun H locs hP hD hS => ?_)
  generalize ef1 : upd gpk h0_stepCount.toNatClampNeg p0 = f1 at hP hD
  refine lv_aload_n hx hb d_PR_add_20 rfl (lv_at hl 0 rfl) ?_
  refine va_get (D := (dC, dI)) (ci := 6) (v := .ref pg) (C := R_PR) (T := F_PR) (N := 19) hx hb hts i_PR hown hK hP 0 rfl rfl 6 (by decide) (hts _ kF_PR_23) (fun _ h9 => h9) rfl d_PR_add_21 ?_
  refine lv_aload_n hx hb d_PR_add_24 rfl (lv_at hl 0 rfl) ?_
  refine va_get (D := (dC, dI)) (ci := 6) (v := .int h0_stepCount) (C := R_PR) (T := F_PR) (N := 19) hx hb hts i_PR hown hK hP 0 rfl rfl 13 (by decide) (hts _ kF_PR_81) (fun _ h9 => h9) rfl d_PR_add_25 ?_
  refine lv_aload_n hx hb d_PR_add_28 rfl (lv_at hl 2 rfl) ?_
  have g29 : vp_in h0_stepCount 4100 := vp_in_iff.mpr ⟨by (first | (apply Int.le_antisymm <;> omega) | omega), by (first | (apply Int.le_antisymm <;> omega) | omega)⟩
  refine va_astqM hx hb hK hP hD hS 2 1 rfl rfl (sg_any hSW hS ba1) g29 d_PR_add_29 (fun H locs hP hD hS => ?_)
  rw [sg_up] at hP hD
  have hP : va_P (dC, dI) cls (wz_114 h0 gl fu pa pf sf pk pg pp pz pv h0_reason h0_place sc h0_stepCount h0_open h0_twoSides wg wp h0_waitingCount pk cpk f1 pg cpg (fun j => (((va_up gpg h0_stepCount.toNatClampNeg (some ka))) j).map (sg sa)) pp cpp gpp pz cpz gpz pv cpv gpv) H := hP
  have hD : va_D A (wz_114 h0 gl fu pa pf sf pk pg pp pz pv h0_reason h0_place sc h0_stepCount h0_open h0_twoSides wg wp h0_waitingCount pk cpk f1 pg cpg (fun j => (((va_up gpg h0_stepCount.toNatClampNeg (some ka))) j).map (sg sa)) pp cpp gpp pz cpz gpz pv cpv gpv) := hD
  generalize ef2 : va_up gpg h0_stepCount.toNatClampNeg (some ka) = f2 at hP hD
  refine lv_aload_n hx hb d_PR_add_30 rfl (lv_at hl 0 rfl) ?_
  refine va_get (D := (dC, dI)) (ci := 6) (v := .ref pp) (C := R_PR) (T := F_PR) (N := 19) hx hb hts i_PR hown hK hP 0 rfl rfl 7 (by decide) (hts _ kF_PR_27) (fun _ h9 => h9) rfl d_PR_add_31 ?_
  refine lv_aload_n hx hb d_PR_add_34 rfl (lv_at hl 0 rfl) ?_
  refine va_get (D := (dC, dI)) (ci := 6) (v := .int h0_stepCount) (C := R_PR) (T := F_PR) (N := 19) hx hb hts i_PR hown hK hP 0 rfl rfl 13 (by decide) (hts _ kF_PR_81) (fun _ h9 => h9) rfl d_PR_add_35 ?_
  refine lv_iload_n hx hb d_PR_add_38 rfl (lv_at hl 3 rfl) ?_
  have g39 : vp_in h0_stepCount 4100 := vp_in_iff.mpr ⟨by (first | (apply Int.le_antisymm <;> omega) | omega), by (first | (apply Int.le_antisymm <;> omega) | omega)⟩
  refine va_iast hx hb hK hP hD hS 3 2 rfl rfl g39 d_PR_add_39 (fun H locs hP hD hS => ?_)
  generalize ef3 : upd gpp h0_stepCount.toNatClampNeg p2 = f3 at hP hD
  refine lv_aload_n hx hb d_PR_add_40 rfl (lv_at hl 0 rfl) ?_
  refine va_get (D := (dC, dI)) (ci := 6) (v := .ref pz) (C := R_PR) (T := F_PR) (N := 19) hx hb hts i_PR hown hK hP 0 rfl rfl 8 (by decide) (hts _ kF_PR_30) (fun _ h9 => h9) rfl d_PR_add_41 ?_
  refine lv_aload_n hx hb d_PR_add_44 rfl (lv_at hl 0 rfl) ?_
  refine va_get (D := (dC, dI)) (ci := 6) (v := .int h0_stepCount) (C := R_PR) (T := F_PR) (N := 19) hx hb hts i_PR hown hK hP 0 rfl rfl 13 (by decide) (hts _ kF_PR_81) (fun _ h9 => h9) rfl d_PR_add_45 ?_
  refine lv_iload hx hb d_PR_add_48 (lv_at hl 4 rfl) ?_
  have g50 : vp_in h0_stepCount 4100 := vp_in_iff.mpr ⟨by (first | (apply Int.le_antisymm <;> omega) | omega), by (first | (apply Int.le_antisymm <;> omega) | omega)⟩
  refine va_iast hx hb hK hP hD hS 4 3 rfl rfl g50 d_PR_add_50 (fun H locs hP hD hS => ?_)
  generalize ef4 : upd gpz h0_stepCount.toNatClampNeg p3 = f4 at hP hD
  refine lv_aload_n hx hb d_PR_add_51 rfl (lv_at hl 0 rfl) ?_
  refine va_get (D := (dC, dI)) (ci := 6) (v := .ref pv) (C := R_PR) (T := F_PR) (N := 19) hx hb hts i_PR hown hK hP 0 rfl rfl 9 (by decide) (hts _ kF_PR_33) (fun _ h9 => h9) rfl d_PR_add_52 ?_
  refine lv_aload_n hx hb d_PR_add_55 rfl (lv_at hl 0 rfl) ?_
  refine va_get (D := (dC, dI)) (ci := 6) (v := .int h0_stepCount) (C := R_PR) (T := F_PR) (N := 19) hx hb hts i_PR hown hK hP 0 rfl rfl 13 (by decide) (hts _ kF_PR_81) (fun _ h9 => h9) rfl d_PR_add_56 ?_
  refine lv_lload hx hb d_PR_add_59 (lv_at hl 5 rfl) ?_
  have g61 : vp_in h0_stepCount 4100 := vp_in_iff.mpr ⟨by (first | (apply Int.le_antisymm <;> omega) | omega), by (first | (apply Int.le_antisymm <;> omega) | omega)⟩
  refine va_last hx hb hK hP hD hS 5 4 rfl rfl g61 d_PR_add_61 (fun H locs hP hD hS => ?_)
  generalize ef5 : vp_updL gpv h0_stepCount.toNatClampNeg p4 = f5 at hP hD
  refine lv_aload_n hx hb d_PR_add_62 rfl (lv_at hl 0 rfl) ?_
  refine lv_dup hx hb d_PR_add_63 rfl ?_
  refine va_get (D := (dC, dI)) (ci := 6) (v := .int h0_stepCount) (C := R_PR) (T := F_PR) (N := 19) hx hb hts i_PR hown hK hP 0 rfl rfl 13 (by decide) (hts _ kF_PR_81) (fun _ h9 => h9) rfl d_PR_add_64 ?_
  refine lv_iconst (v := 1) hx hb d_PR_add_67 (by decide) ?_
  refine lv_iadd hx hb d_PR_add_68 ?_
  refine lv_topi (fun x6 ex6 => ?_)
  have tx6 : x6.toInt = h0_stepCount.toInt + 1 := by have z := i32_add ex6 (by (first | (apply Int.le_antisymm <;> omega) | omega)) (by (first | (apply Int.le_antisymm <;> omega) | omega)); first | exact z | (first | (apply Int.le_antisymm <;> omega) | omega)
  refine va_put (D := (dC, dI)) (ci := 6) (v := .int x6) (ty := .int) (C := R_PR) (T := F_PR) (N := 19) hx hb hts i_PR t_PR t_PR_ok n_PR hown hK hP hD hS 0 rfl rfl 13 (by decide) (hts _ kF_PR_81) (fun _ h9 => h9) rfl (by decide +kernel) rfl rfl (Nat.le_of_ble_eq_true rfl) d_PR_add_69 (fun H locs hP hD hS => ?_)
  have hP9 := hP.sb (wq := (wz_114 h0 gl fu pa pf sf pk pg pp pz pv h0_reason h0_place sc x6 h0_open h0_twoSides wg wp h0_waitingCount pk cpk f1 pg cpg (fun j => (f2 j).map (sg sa)) pp cpp f3 pz cpz f4 pv cpv f5)) [0, 1, 2, 3, 4, 5] rfl
  have hD9 := hD.sb (wq := (wz_114 h0 gl fu pa pf sf pk pg pp pz pv h0_reason h0_place sc x6 h0_open h0_twoSides wg wp h0_waitingCount pk cpk f1 pg cpg (fun j => (f2 j).map (sg sa)) pp cpp f3 pz cpz f4 pv cpv f5)) [0, 1, 2, 3, 4, 5] (by decide) rfl
  exact W.vret hx hb hr (fun t ht hW => ⟨⟨(f2, f1, f3, f5, f4, x6), rfl, ⟨by (try dsimp only) <;> (first | (apply Int.le_antisymm <;> omega) | omega), ⟨by (try dsimp only); (first | (apply Int.le_antisymm <;> omega) | omega), sl_add (n := h0_stepCount.toNatClampNeg) (by have := i32_clamp (x := h0_stepCount) (by (first | (apply Int.le_antisymm <;> omega) | omega)); (first | (apply Int.le_antisymm <;> omega) | omega)) (by (try dsimp only); (first | (apply Int.le_antisymm <;> omega) | omega)) (by (try dsimp only) <;> exact ef1.symm) (by (try dsimp only) <;> exact ef2.symm) (by (try dsimp only) <;> exact ef3.symm) (by (try dsimp only) <;> exact ef4.symm) (by (try dsimp only) <;> exact ef5.symm)⟩⟩, va_P.he ht.symm hP9, va_K.moved hW.alike hK, hD9⟩, hS.F ht⟩) hS.2.2 d_PR_add_72
abbrev b_PR_takeType : ByteArray := prog_8_method_25_code
def y_PR_takeType : MethodName := ⟨R_PR, "takeType", "()I"⟩
abbrev w_PR_takeType : List Cond := .code y_PR_takeType b_PR_takeType 2 (Option.some .int) :: lw_g
theorem kC_PR_takeType : Cond.code y_PR_takeType b_PR_takeType 2 (Option.some .int) ∈ lw_g := in_c4 205 rfl rfl
theorem d_PR_takeType_0 : decode b_PR_takeType 0 = .ok (.aload_n 0, 1) := bz_c42 (by decide +kernel)
theorem d_PR_takeType_1 : decode b_PR_takeType 1 = .ok (.getfield 43, 3) := bz_c180 (by decide +kernel)
theorem d_PR_takeType_4 : decode b_PR_takeType 4 = .ok (.getfield 93, 3) := bz_c180 (by decide +kernel)
theorem d_PR_takeType_7 : decode b_PR_takeType 7 = .ok (.astore_n 1, 1) := bz_c76 (by decide +kernel)
theorem d_PR_takeType_8 : decode b_PR_takeType 8 = .ok (.aload_n 0, 1) := bz_c42 (by decide +kernel)
theorem d_PR_takeType_9 : decode b_PR_takeType 9 = .ok (.aload_n 1, 1) := bz_c43 (by decide +kernel)
theorem d_PR_takeType_10 : decode b_PR_takeType 10 = .ok (.getstatic 280, 3) := bz_c178 (by decide +kernel)
theorem d_PR_takeType_13 : decode b_PR_takeType 13 = .ok (.if_acmp .ne 9, 3) := bz_c166 (by decide +kernel)
theorem d_PR_takeType_16 : decode b_PR_takeType 16 = .ok (.getstatic 280, 3) := bz_c178 (by decide +kernel)
theorem d_PR_takeType_19 : decode b_PR_takeType 19 = .ok (.goto 6, 3) := bz_c167 (by decide +kernel)
theorem d_PR_takeType_22 : decode b_PR_takeType 22 = .ok (.getstatic 283, 3) := bz_c178 (by decide +kernel)
theorem d_PR_takeType_25 : decode b_PR_takeType 25 = .ok (.invokevirtual 126, 3) := bz_c182 (by decide +kernel)
theorem d_PR_takeType_28 : decode b_PR_takeType 28 = .ok (.aload_n 1, 1) := bz_c43 (by decide +kernel)
theorem d_PR_takeType_29 : decode b_PR_takeType 29 = .ok (.invokevirtual 286, 3) := bz_c182 (by decide +kernel)
theorem d_PR_takeType_32 : decode b_PR_takeType 32 = .ok (.ireturn, 1) := bz_c172 (by decide +kernel)
theorem kM_PR_126 : Cond.methodLink R_PR 126 y_PR_take ∈ lw_g := in_c4 196 rfl rfl
theorem kV_PR_take : Cond.instanceMethod y_PR_take ∈ lw_g := in_c4 198 rfl rfl
theorem kS_PR_take : Cond.selects R_PR y_PR_take y_PR_take ∈ lw_g := in_s 10 (by decide +kernel) rfl
theorem kM_PR_286 : Cond.methodLink R_PR 286 y_SG_type ∈ lw_g := in_c4 210 rfl rfl
theorem kV_SG_type : Cond.instanceMethod y_SG_type ∈ lw_g := in_c4 211 rfl rfl
theorem kS_SG_type : Cond.selects R_SG y_SG_type y_SG_type ∈ lw_g := in_c4 212 rfl rfl
theorem kF_PR_280 : Cond.fieldLink R_PR 280 "WaferForge$Sign" "I64" "LWaferForge$Sign;" ∈ lw_g := in_c4 206 rfl rfl
theorem kF_PR_283 : Cond.fieldLink R_PR 283 "WaferForge$Sign" "I32" "LWaferForge$Sign;" ∈ lw_g := in_c4 208 rfl rfl
abbrev at_PR_takeType (dC : Nat → ClassId) (dI : Nat → Nat → Nat) (sa : Nat → Nat) (h0 gl fu pa pf sf pk pg pp pz pv sc wg wp tr ss sp szs sv tx : Nat) (css csp cszs csv : ClassId) (h0_stepCount : Int32) (h0_open : Int32) (h0_twoSides : Int32) (h0_waitingCount : Int32) (sc_length : Int32) (tr_length : Int32) (gss : Nat → Option Nat) (gsp : Nat → Int32) (gszs : Nat → Int32) (gsv : Nat → Int64) (A : Nat → Prop) (u : Int32 × Int32 × Int32 × Int32 × Nat × Int32 × Int64) (t : State) : Prop := match u with | (h0_place, h0_reason, sc_at, sc_place, sc_sign, sc_size, sc_value) => va_P (dC, dI) cls (wz_112 h0 gl fu pa pf sf pk pg pp pz pv h0_reason h0_place sc h0_stepCount h0_open h0_twoSides wg wp h0_waitingCount sc tr (sg sa sc_sign) sc_place sc_size sc_value ss sp szs sv sc_length sc_at tr tx tr_length ss css (fun j => (gss j).map (sg sa)) sp csp gsp szs cszs gszs sv csv gsv) t.heap ∧ va_K (dC, dI) cls [(css, .object "WaferForge$Sign"), (csp, .int), (cszs, .int), (csv, .long)] t ∧ va_D A (wz_112 h0 gl fu pa pf sf pk pg pp pz pv h0_reason h0_place sc h0_stepCount h0_open h0_twoSides wg wp h0_waitingCount sc tr (sg sa sc_sign) sc_place sc_size sc_value ss sp szs sv sc_length sc_at tr tx tr_length ss css (fun j => (gss j).map (sg sa)) sp csp gsp szs cszs gszs sv csv gsv)
set_option maxHeartbeats 4000000 in
set_option maxRecDepth 100000 in
theorem c_PR_takeType (l : Launch) (hlt : l.stackTraces = false) (dC : Nat → ClassId) (dI : Nat → Nat → Nat) (sz : Nat) (sa : Nat → Nat) (h0 gl fu pa pf sf pk pg pp pz pv sc wg wp tr ss sp szs sv tx : Nat) (css csp cszs csv : ClassId) (h0_reason : Int32) (h0_place : Int32) (h0_stepCount : Int32) (h0_open : Int32) (h0_twoSides : Int32) (h0_waitingCount : Int32) (sc_sign : Nat) (sc_place : Int32) (sc_size : Int32) (sc_value : Int64) (sc_length : Int32) (sc_at : Int32) (tr_length : Int32) (gss : Nat → Option Nat) (gsp : Nat → Int32) (gszs : Nat → Int32) (gsv : Nat → Int64)  (b_sc_sign : sc_sign < 55) (b_sc_place : 0 ≤ sc_place.toInt ∧ sc_place.toInt ≤ 2000) (b_sc_size : 0 ≤ sc_size.toInt ∧ sc_size.toInt ≤ 2000) (b_sc_length : 0 ≤ sc_length.toInt ∧ sc_length.toInt ≤ 2001) (b_sc_at : -1 ≤ sc_at.toInt ∧ sc_at.toInt ≤ 2000) (b_tr_length : 0 ≤ tr_length.toInt ∧ tr_length.toInt ≤ 2000)   (hsk : sk tr_length.toInt sc_length.toInt sc_at.toInt sc_sign sc_place sc_size sc_value gss gsp gszs gsv) : tz_Met l y_PR_takeType w_PR_takeType ({ frames := 8, cells := 1, slots := 6, locals := 133 }) (va_Pc [.ref h0] (fun U => U.heap.size = sz ∧ va_P (dC, dI) cls (wz_112 h0 gl fu pa pf sf pk pg pp pz pv h0_reason h0_place sc h0_stepCount h0_open h0_twoSides wg wp h0_waitingCount sc tr (sg sa sc_sign) sc_place sc_size sc_value ss sp szs sv sc_length sc_at tr tx tr_length ss css (fun j => (gss j).map (sg sa)) sp csp gsp szs cszs gszs sv csv gsv) U.heap ∧ va_K (dC, dI) cls [(css, .object "WaferForge$Sign"), (csp, .int), (cszs, .int), (csv, .long)] U ∧ va_D (fun _ => True) (wz_112 h0 gl fu pa pf sf pk pg pp pz pv h0_reason h0_place sc h0_stepCount h0_open h0_twoSides wg wp h0_waitingCount sc tr (sg sa sc_sign) sc_place sc_size sc_value ss sp szs sv sc_length sc_at tr tx tr_length ss css (fun j => (gss j).map (sg sa)) sp csp gsp szs cszs gszs sv csv gsv) ∧ sw sa (va_A (wz_112 h0 gl fu pa pf sf pk pg pp pz pv h0_reason h0_place sc h0_stepCount h0_open h0_twoSides wg wp h0_waitingCount sc tr (sg sa sc_sign) sc_place sc_size sc_value ss sp szs sv sc_length sc_at tr tx tr_length ss css (fun j => (gss j).map (sg sa)) sp csp gsp szs cszs gszs sv csv gsv) sz) U U.heap)) (tq_Q (tq_i (fun (r : Int32) (u : Int32 × Int32 × Int32 × Int32 × Nat × Int32 × Int64) => match u with | (h0_place2, h0_reason2, sc_at2, sc_place2, sc_sign2, sc_size2, sc_value2) => (126 ≤ r.toInt ∧ r.toInt ≤ 127) ∧ (-1 ≤ sc_at2.toInt ∧ sc_at2.toInt ≤ 2000) ∧ (0 ≤ sc_place2.toInt ∧ sc_place2.toInt ≤ 2000) ∧ (sc_sign2 < 55) ∧ (0 ≤ sc_size2.toInt ∧ sc_size2.toInt ≤ 2000) ∧ (((sc_sign = 14 ∧ r.toInt = 127) ∨ (sc_sign = 15 ∧ r.toInt = 126)) ∧ sk tr_length.toInt sc_length.toInt sc_at2.toInt sc_sign2 sc_place2 sc_size2 sc_value2 gss gsp gszs gsv ∧ sc_place.toInt + sc_size.toInt ≤ sc_place2.toInt ∧ sc_at2.toInt = sc_at.toInt + 1)) "java/lang/UnsupportedOperationException" (fun (u : Int32 × Int32 × Int32 × Int32 × Nat × Int32 × Int64) => match u with | (h0_place2, h0_reason2, sc_at2, sc_place2, sc_sign2, sc_size2, sc_value2) => (-1 ≤ sc_at2.toInt ∧ sc_at2.toInt ≤ 2000) ∧ (0 ≤ sc_place2.toInt ∧ sc_place2.toInt ≤ 2000) ∧ (sc_sign2 < 55) ∧ (0 ≤ sc_size2.toInt ∧ sc_size2.toInt ≤ 2000))) (at_PR_takeType dC dI sa h0 gl fu pa pf sf pk pg pp pz pv sc wg wp tr ss sp szs sv tx css csp cszs csv h0_stepCount h0_open h0_twoSides h0_waitingCount sc_length tr_length gss gsp gszs gsv (va_A (wz_112 h0 gl fu pa pf sf pk pg pp pz pv h0_reason h0_place sc h0_stepCount h0_open h0_twoSides wg wp h0_waitingCount sc tr (sg sa sc_sign) sc_place sc_size sc_value ss sp szs sv sc_length sc_at tr tx tr_length ss css (fun j => (gss j).map (sg sa)) sp csp gsp szs cszs gszs sv csv gsv) sz)) (va_A (wz_112 h0 gl fu pa pf sf pk pg pp pz pv h0_reason h0_place sc h0_stepCount h0_open h0_twoSides wg wp h0_waitingCount sc tr (sg sa sc_sign) sc_place sc_size sc_value ss sp szs sv sc_length sc_at tr tx tr_length ss css (fun j => (gss j).map (sg sa)) sp csp gsp szs cszs gszs sv csv gsv) sz)) (tz_k 0 0 1 6) (va_A (wz_112 h0 gl fu pa pf sf pk pg pp pz pv h0_reason h0_place sc h0_stepCount h0_open h0_twoSides wg wp h0_waitingCount sc tr (sg sa sc_sign) sc_place sc_size sc_value ss sp szs sv sc_length sc_at tr tx tr_length ss css (fun j => (gss j).map (sg sa)) sp csp gsp szs cszs gszs sv csv gsv) sz) := by
  refine tz_ofW (cc := b_PR_takeType) (maxL := 2) (ret := (Option.some .int)) (by decide) rfl ?_
  intro p e s m args below meth c s₁ B hml hno hv
  obtain ⟨rfl, hsz, hP, hK, hD0, hSW⟩ := hv
  have hx := B.exec
  have hb := B.bytes
  have hr := B.returns
  have hts0 := atoms_spec (ws := w_PR_takeType) B.pre
  have hts : ∀ w ∈ lw_g, w.before _ s = true := fun w h => hts0 w (List.mem_cons_of_mem _ h)
  have hown : s.vm.findClass R_PR = some m.cls := findClass_of_methodNamed B.named
  have hlocks := B.notSynchronized
  clear hts0
  subst hsz
  have hD := hD0.self (sz := s.heap.size)
  generalize hAe : va_A (wz_112 h0 gl fu pa pf sf pk pg pp pz pv h0_reason h0_place sc h0_stepCount h0_open h0_twoSides wg wp h0_waitingCount sc tr (sg sa sc_sign) sc_place sc_size sc_value ss sp szs sv sc_length sc_at tr tx tr_length ss css (fun j => (gss j).map (sg sa)) sp csp gsp szs cszs gszs sv csv gsv) s.heap.size = A at hD hSW ⊢
  have hA : ∀ q : Nat, s.heap.size ≤ q → A q := fun q h => by rw [← hAe]; exact Or.inr h
  clear hAe
  have hP : va_P (dC, dI) cls (wz_112 h0 gl fu pa pf sf pk pg pp pz pv h0_reason h0_place sc h0_stepCount h0_open h0_twoSides wg wp h0_waitingCount sc tr (sg sa sc_sign) sc_place sc_size sc_value ss sp szs sv sc_length sc_at tr tx tr_length ss css (fun j => (gss j).map (sg sa)) sp csp gsp szs cszs gszs sv csv gsv) s.heap := hP
  have hl := lv_entry ([.ref h0]) (n := 2) (Nat.le_of_ble_eq_true rfl)
  rw [lg_entry_eq]
  generalize (lg_sl ([.ref h0]) ++ List.replicate (2 - (lg_sl ([.ref h0])).length) Slot.unset).toArray = ls at hl ⊢
  have hl : lv_has ls 2 [(0, .ref h0)] := hl
  have k0 : (0 : Int32).toInt = 0 := by decide
  refine w_gen (A := A) hP (fun H locs hP hS => ?_)
  refine lv_aload_n hx hb d_PR_takeType_0 rfl (lv_at hl 0 rfl) ?_
  refine va_get (D := (dC, dI)) (ci := 6) (v := .ref sc) (C := R_PR) (T := F_PR) (N := 19) hx hb hts i_PR hown hK hP 0 rfl rfl 12 (by decide) (hts _ kF_PR_43) (fun _ h9 => h9) rfl d_PR_takeType_1 ?_
  refine va_get (D := (dC, dI)) (ci := 8) (v := .ref (sg sa sc_sign)) (C := R_SC) (T := F_SC) (N := 11) hx hb hts i_SC hown hK hP 1 rfl rfl 1 (by decide) (hts _ kF_PR_93) (fun _ h9 => h9) rfl d_PR_takeType_4 ?_
  refine lv_astore_n (lv' := [(1, .ref (sg sa sc_sign)), (0, .ref h0)]) hx hb d_PR_takeType_7 rfl hl (by decide) rfl (fun ls hl => ?_)
  refine lv_aload_n hx hb d_PR_takeType_8 rfl (lv_at hl 1 rfl) ?_
  refine lv_aload_n hx hb d_PR_takeType_9 rfl (lv_at hl 0 rfl) ?_
  refine va_gets (C := "WaferForge$Sign") (n := "I64") (d := "LWaferForge$Sign;") (v := .ref (sg sa 15)) hx hb ((hSW.2.2.2.1.1 15 (by decide)).1) hS hown (hts _ kF_PR_280) (fun _ h9 => h9) d_PR_takeType_10 ?_
  refine w_cut (pc2 := 25) (σ := Nat) (fun u H locs ls => match u with | j25_s0 => (j25_s0 < 55) ∧ (j25_s0 = 15 ∨ j25_s0 = 14) ∧ (j25_s0 = 14 → sc_sign ≠ 15) ∧ va_P (dC, dI) cls (wz_112 h0 gl fu pa pf sf pk pg pp pz pv h0_reason h0_place sc h0_stepCount h0_open h0_twoSides wg wp h0_waitingCount sc tr (sg sa sc_sign) sc_place sc_size sc_value ss sp szs sv sc_length sc_at tr tx tr_length ss css (fun j => (gss j).map (sg sa)) sp csp gsp szs cszs gszs sv csv gsv) H ∧ va_D A (wz_112 h0 gl fu pa pf sf pk pg pp pz pv h0_reason h0_place sc h0_stepCount h0_open h0_twoSides wg wp h0_waitingCount sc tr (sg sa sc_sign) sc_place sc_size sc_value ss sp szs sv sc_length sc_at tr tx tr_length ss css (fun j => (gss j).map (sg sa)) sp csp gsp szs cszs gszs sv csv gsv) ∧ va_S A s.heap H locs ∧ lv_has ls 2 [(1, .ref (sg sa sc_sign))]) (fun u => match u with | j25_s0 => [.ref (sg sa j25_s0), .ref h0]) ?_ (fun jn25 => ?_)
  · intro u H locs ls hI
    obtain ⟨j25_s0, rfl⟩ : ∃ z, z = u := ⟨_, rfl⟩
    obtain ⟨b_j25_s0, y25, y26, hP, hD, hS, hl⟩ := hI
    have hPc := hP.sb (wq := (wz_112 h0 gl fu pa pf sf pk pg pp pz pv h0_reason h0_place sc h0_stepCount h0_open h0_twoSides wg wp h0_waitingCount sc tr (sg sa sc_sign) sc_place sc_size sc_value ss sp szs sv sc_length sc_at tr tx tr_length ss css (fun j => (gss j).map (sg sa)) sp csp gsp szs cszs gszs sv csv gsv)) [0, 1, 2, 3, 4, 5, 6] rfl
    have hDc := hD.sb (wq := (wz_112 h0 gl fu pa pf sf pk pg pp pz pv h0_reason h0_place sc h0_stepCount h0_open h0_twoSides wg wp h0_waitingCount sc tr (sg sa sc_sign) sc_place sc_size sc_value ss sp szs sv sc_length sc_at tr tx tr_length ss css (fun j => (gss j).map (sg sa)) sp csp gsp szs cszs gszs sv csv gsv)) [0, 1, 2, 3, 4, 5, 6] (by decide) rfl
    have hKc := hK.sb (tyq := [(css, .object "WaferForge$Sign"), (csp, .int), (cszs, .int), (csv, .long)]) [0, 1, 2, 3] rfl
    have hFc := va_free (wc := (wz_112 h0 gl fu pa pf sf pk pg pp pz pv h0_reason h0_place sc h0_stepCount h0_open h0_twoSides wg wp h0_waitingCount sc tr (sg sa sc_sign) sc_place sc_size sc_value ss sp szs sv sc_length sc_at tr tx tr_length ss css (fun j => (gss j).map (sg sa)) sp csp gsp szs cszs gszs sv csv gsv)) hD hS hA [0, 1, 2, 3, 4, 5, 6] rfl
    refine tq_callv (tz_runV (As := [.ref (sg sa j25_s0)]) (rest := []) ⟨hx, hb, hml, hown, hts⟩ (c_PR_take l hlt dC dI H.size sa h0 gl fu pa pf sf pk pg pp pz pv sc wg wp tr ss sp szs sv tx css csp cszs csv h0_reason h0_place h0_stepCount h0_open h0_twoSides h0_waitingCount sc_sign sc_place sc_size sc_value sc_length sc_at tr_length gss gsp gszs gsv (b_sc_sign) (b_sc_place) (b_sc_size) (b_sc_length) (b_sc_at) (b_tr_length) j25_s0 (b_j25_s0) (hsk) (by (first | (apply Int.le_antisymm <;> omega) | omega))) (cwV 1 hts (gV kM_PR_126 kV_PR_take kS_PR_take kI_PR kC_PR_take) rfl rfl rfl (by decide +kernel) ⟨Nat.le_of_ble_eq_true rfl, Nat.le_of_ble_eq_true rfl⟩) ⟨fun a U g mk z => by obtain ⟨z0, z1, zP, zK, zD, zS⟩ := z; exact ⟨z0, z1, zP, va_K.moved (u := U) (U := U.calling g mk a) (Vm.Alike.refl U.vm) zK, zD, sw.same (u := U) (U := U.calling g mk a) rfl zS⟩, va_recv hKc hPc (ci := 6) (q0 := 0) rfl rfl, fun U hU hW => ⟨rfl, by rw [hU], va_P.he hU.symm hPc, va_K.moved hW.alike hKc, hDc.weaken (fun _ _ _ _ => trivial), hSW.call hS hFc hW hU⟩⟩ rfl rfl hl.1 rfl (lv_room (Nat.le_of_ble_eq_true rfl)) d_PR_takeType_25 ⟨Nat.le_of_ble_eq_true rfl, Nat.le_of_ble_eq_true rfl⟩) hS (fun q _ h => hFc q h) hFc (fun u t H1 locs ht hvm hw hB hz1 hk1 hS => ?_) (fun xx u t H1 locs ht hvm hw hXX hB hz1 hk1 hS => ?_)
    rotate_left
    · skip
      obtain ⟨n2, n3, n4, n5, n6, n7, n8⟩ := u
      try dsimp only at hw
      obtain ⟨bn4, bn5, bn6, bn7⟩ := hw
      obtain ⟨hP1, hK1, hD1⟩ := hB
      replace hP1 := va_P.he ht hP1
      obtain ⟨hP, hD⟩ := va_join (wr := []) (w1 := (wz_112 h0 gl fu pa pf sf pk pg pp pz pv n3 n2 sc h0_stepCount h0_open h0_twoSides wg wp h0_waitingCount sc tr (sg sa n6) n5 n7 n8 ss sp szs sv sc_length n4 tr tx tr_length ss css (fun j => (gss j).map (sg sa)) sp csp gsp szs cszs gszs sv csv gsv)) hP hD [0, 1, 2, 3, 4, 5, 6] [] rfl rfl (by decide) (by decide) hk1 hFc hP1 hD1
      have hP : va_P (dC, dI) cls (wz_112 h0 gl fu pa pf sf pk pg pp pz pv n3 n2 sc h0_stepCount h0_open h0_twoSides wg wp h0_waitingCount sc tr (sg sa n6) n5 n7 n8 ss sp szs sv sc_length n4 tr tx tr_length ss css (fun j => (gss j).map (sg sa)) sp csp gsp szs cszs gszs sv csv gsv) H1 := hP
      have hD : va_D A (wz_112 h0 gl fu pa pf sf pk pg pp pz pv n3 n2 sc h0_stepCount h0_open h0_twoSides wg wp h0_waitingCount sc tr (sg sa n6) n5 n7 n8 ss sp szs sv sc_length n4 tr tx tr_length ss css (fun j => (gss j).map (sg sa)) sp csp gsp szs cszs gszs sv csv gsv) := hD
      have hP9 := hP.sb (wq := (wz_112 h0 gl fu pa pf sf pk pg pp pz pv n3 n2 sc h0_stepCount h0_open h0_twoSides wg wp h0_waitingCount sc tr (sg sa n6) n5 n7 n8 ss sp szs sv sc_length n4 tr tx tr_length ss css (fun j => (gss j).map (sg sa)) sp csp gsp szs cszs gszs sv csv gsv)) [0, 1, 2, 3, 4, 5, 6] rfl
      have hD9 := hD.sb (wq := (wz_112 h0 gl fu pa pf sf pk pg pp pz pv n3 n2 sc h0_stepCount h0_open h0_twoSides wg wp h0_waitingCount sc tr (sg sa n6) n5 n7 n8 ss sp szs sv sc_length n4 tr tx tr_length ss css (fun j => (gss j).map (sg sa)) sp csp gsp szs cszs gszs sv csv gsv)) [0, 1, 2, 3, 4, 5, 6] (by decide) rfl
      exact tz_leave rfl hno hlocks (fun t ht hW => ⟨⟨(n2, n3, n4, n5, n6, n7, n8), ⟨⟨bn4, bn5, bn6, bn7⟩, by rw [ht]; exact hXX.moved hW.alike⟩, va_P.he ht.symm hP9, va_K.moved hW.alike hK, hD9⟩, hS.F ht⟩) hS.2.2
    obtain ⟨n9, n10, n11, n12, n13, n14, n15⟩ := u
    try dsimp only at hw
    obtain ⟨bn11, bn12, bn13, bn14, xr1⟩ := hw
    try clear hw
    have w25 := xr1
    clear xr1
    have v25 := w25.1
    obtain ⟨hP1, hK1, hD1⟩ := hB
    replace hP1 := va_P.he ht hP1
    obtain ⟨hP, hD⟩ := va_join (wr := []) (w1 := (wz_112 h0 gl fu pa pf sf pk pg pp pz pv n10 n9 sc h0_stepCount h0_open h0_twoSides wg wp h0_waitingCount sc tr (sg sa n13) n12 n14 n15 ss sp szs sv sc_length n11 tr tx tr_length ss css (fun j => (gss j).map (sg sa)) sp csp gsp szs cszs gszs sv csv gsv)) hP hD [0, 1, 2, 3, 4, 5, 6] [] rfl rfl (by decide) (by decide) hk1 hFc hP1 hD1
    clear hPc hDc hKc hFc hz1 hk1 hP1 hK1 hD1
    rename Heap => H
    have hP : va_P (dC, dI) cls (wz_112 h0 gl fu pa pf sf pk pg pp pz pv n10 n9 sc h0_stepCount h0_open h0_twoSides wg wp h0_waitingCount sc tr (sg sa n13) n12 n14 n15 ss sp szs sv sc_length n11 tr tx tr_length ss css (fun j => (gss j).map (sg sa)) sp csp gsp szs cszs gszs sv csv gsv) H := hP
    have hD : va_D A (wz_112 h0 gl fu pa pf sf pk pg pp pz pv n10 n9 sc h0_stepCount h0_open h0_twoSides wg wp h0_waitingCount sc tr (sg sa n13) n12 n14 n15 ss sp szs sv sc_length n11 tr tx tr_length ss css (fun j => (gss j).map (sg sa)) sp csp gsp szs cszs gszs sv csv gsv) := hD
    refine lv_aload_n hx hb d_PR_takeType_28 rfl (lv_at hl 0 rfl) ?_
    have hPc := hP.sb (wq := []) [] rfl
    have hDc := hD.sb (wq := []) [] (by decide) rfl
    have hKc := hK.sb (tyq := []) [] rfl
    have hFc := va_free (wc := []) hD hS hA [] rfl
    refine va_calli (va_runV (As := []) (rest := []) ⟨hx, hb, hml, hown, hts⟩ (c_SG_type l dC dI H.size sa sc_sign b_sc_sign ) (cwV 0 hts (gV kM_PR_286 kV_SG_type kS_SG_type kI_SG kC_SG_type) rfl rfl rfl (by decide +kernel) ⟨Nat.le_of_ble_eq_true rfl, Nat.le_of_ble_eq_true rfl⟩) ⟨fun a U g mk z => by obtain ⟨z0, z1, zP, zK, zD, zS⟩ := z; exact ⟨z0, z1, zP, va_K.moved (u := U) (U := U.calling g mk a) (Vm.Alike.refl U.vm) zK, zD, sw.same (u := U) (U := U.calling g mk a) rfl zS⟩, va_recvE (i := sc_sign) hSW.2.2.2.1 b_sc_sign hS, fun U hU hW => ⟨rfl, by rw [hU], va_P.he hU.symm hPc, va_K.moved hW.alike hKc, hDc.weaken (fun _ _ _ _ => trivial), hSW.call hS hFc hW hU⟩⟩ rfl rfl hl.1 rfl (lv_room (Nat.le_of_ble_eq_true rfl)) d_PR_takeType_29 ⟨(Nat.zero_le _), (Nat.zero_le _)⟩) hS (fun q _ h => hFc q h) hFc (fun r16 u t H1 locs ht hvm hw hB hz1 hk1 hS => ?_)
    try dsimp only at hw
    have xr16 := hw
    try clear hw
    obtain ⟨hP1, hK1, hD1⟩ := hB
    replace hP1 := va_P.he ht hP1
    obtain ⟨hP, hD⟩ := va_join (wr := (wz_112 h0 gl fu pa pf sf pk pg pp pz pv n10 n9 sc h0_stepCount h0_open h0_twoSides wg wp h0_waitingCount sc tr (sg sa n13) n12 n14 n15 ss sp szs sv sc_length n11 tr tx tr_length ss css (fun j => (gss j).map (sg sa)) sp csp gsp szs cszs gszs sv csv gsv)) (w1 := []) hP hD [] [0, 1, 2, 3, 4, 5, 6] rfl rfl (by decide) (by decide) hk1 hFc hP1 hD1
    clear hPc hDc hKc hFc hz1 hk1 hP1 hK1 hD1
    rename Heap => H
    have hP : va_P (dC, dI) cls (wz_112 h0 gl fu pa pf sf pk pg pp pz pv n10 n9 sc h0_stepCount h0_open h0_twoSides wg wp h0_waitingCount sc tr (sg sa n13) n12 n14 n15 ss sp szs sv sc_length n11 tr tx tr_length ss css (fun j => (gss j).map (sg sa)) sp csp gsp szs cszs gszs sv csv gsv) H := hP
    have hD : va_D A (wz_112 h0 gl fu pa pf sf pk pg pp pz pv n10 n9 sc h0_stepCount h0_open h0_twoSides wg wp h0_waitingCount sc tr (sg sa n13) n12 n14 n15 ss sp szs sv sc_length n11 tr tx tr_length ss css (fun j => (gss j).map (sg sa)) sp csp gsp szs cszs gszs sv csv gsv) := hD
    have hP9 := hP.sb (wq := (wz_112 h0 gl fu pa pf sf pk pg pp pz pv n10 n9 sc h0_stepCount h0_open h0_twoSides wg wp h0_waitingCount sc tr (sg sa n13) n12 n14 n15 ss sp szs sv sc_length n11 tr tx tr_length ss css (fun j => (gss j).map (sg sa)) sp csp gsp szs cszs gszs sv csv gsv)) [0, 1, 2, 3, 4, 5, 6] rfl
    have hD9 := hD.sb (wq := (wz_112 h0 gl fu pa pf sf pk pg pp pz pv n10 n9 sc h0_stepCount h0_open h0_twoSides wg wp h0_waitingCount sc tr (sg sa n13) n12 n14 n15 ss sp szs sv sc_length n11 tr tx tr_length ss css (fun j => (gss j).map (sg sa)) sp csp gsp szs cszs gszs sv csv gsv)) [0, 1, 2, 3, 4, 5, 6] (by decide) rfl
    exact tz_up (fun _ => rfl) (W.iret (v := r16) hx hb hr (fun t ht hW => ⟨⟨(n9, n10, n11, n12, n13, n14, n15), ⟨r16, rfl, ⟨by (try dsimp only) <;> (first | (apply Int.le_antisymm <;> omega) | omega), bn11, bn12, bn13, bn14, ⟨by (try dsimp only); (first | (apply Int.le_antisymm <;> omega) | omega), w25.2⟩⟩⟩, va_P.he ht.symm hP9, va_K.moved hW.alike hK, hD9⟩, hS.F ht⟩) hS.2.2 d_PR_takeType_32)
  · skip
    refine lv_acmp_ne (rx := some (sg sa sc_sign)) (ry := some (sg sa 15)) (tgt := 22) hx hb d_PR_takeType_13 (by decide) (fun c13 => ?_) (fun c13 => ?_)
    · have q13 : sc_sign ≠ 15 := fun z => c13 (by rw [z])
      refine va_gets (C := "WaferForge$Sign") (n := "I32") (d := "LWaferForge$Sign;") (v := .ref (sg sa 14)) hx hb ((hSW.2.2.2.1.1 14 (by decide)).1) hS hown (hts _ kF_PR_283) (fun _ h9 => h9) d_PR_takeType_22 ?_
      exact jn25 14 _ _ _ ⟨(by decide : 14 < 55), by (try dsimp only) <;> (first | (apply Int.le_antisymm <;> omega) | omega), by (try dsimp only) <;> (first | (apply Int.le_antisymm <;> omega) | omega), hP, hD, hS, lv_sub hl [0] rfl⟩
    · have q13 : sc_sign = 15 := hSW.2.2.2.1.2 sc_sign 15 b_sc_sign (by decide : 15 < 55) (Option.some.inj c13)
      refine va_gets (C := "WaferForge$Sign") (n := "I64") (d := "LWaferForge$Sign;") (v := .ref (sg sa 15)) hx hb ((hSW.2.2.2.1.1 15 (by decide)).1) hS hown (hts _ kF_PR_280) (fun _ h9 => h9) d_PR_takeType_16 ?_
      refine lv_goto (tgt := 25) hx hb d_PR_takeType_19 (by decide) ?_
      exact jn25 15 _ _ _ ⟨(by decide : 15 < 55), by (try dsimp only) <;> (first | (apply Int.le_antisymm <;> omega) | omega), by (try dsimp only) <;> (first | (apply Int.le_antisymm <;> omega) | omega), hP, hD, hS, lv_sub hl [0] rfl⟩
end q_43

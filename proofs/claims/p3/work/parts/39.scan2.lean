/-! Scanner: numbers, a sign, all signs -/
abbrev b_SC_readInteger : ByteArray := prog_10_method_9_code
def y_SC_readInteger : MethodName := ⟨R_SC, "readInteger", "()V"⟩
abbrev w_SC_readInteger : List Cond := .code y_SC_readInteger b_SC_readInteger 3 none :: lw_g
theorem kC_SC_readInteger : Cond.code y_SC_readInteger b_SC_readInteger 3 none ∈ lw_g := in_g 863 (by decide +kernel) rfl
theorem d_SC_readInteger_0 : decode b_SC_readInteger 0 = .ok (.iconst 0, 1) := by decide +kernel
theorem d_SC_readInteger_1 : decode b_SC_readInteger 1 = .ok (.istore_n 1, 1) := by decide +kernel
theorem d_SC_readInteger_2 : decode b_SC_readInteger 2 = .ok (.aload_n 0, 1) := by decide +kernel
theorem d_SC_readInteger_3 : decode b_SC_readInteger 3 = .ok (.lconst 0, 1) := by decide +kernel
theorem d_SC_readInteger_4 : decode b_SC_readInteger 4 = .ok (.putfield 70, 3) := by decide +kernel
theorem d_SC_readInteger_7 : decode b_SC_readInteger 7 = .ok (.aload_n 0, 1) := by decide +kernel
theorem d_SC_readInteger_8 : decode b_SC_readInteger 8 = .ok (.iconst 0, 1) := by decide +kernel
theorem d_SC_readInteger_9 : decode b_SC_readInteger 9 = .ok (.putfield 43, 3) := by decide +kernel
theorem d_SC_readInteger_12 : decode b_SC_readInteger 12 = .ok (.aload_n 0, 1) := by decide +kernel
theorem d_SC_readInteger_13 : decode b_SC_readInteger 13 = .ok (.getfield 39, 3) := by decide +kernel
theorem d_SC_readInteger_16 : decode b_SC_readInteger 16 = .ok (.aload_n 0, 1) := by decide +kernel
theorem d_SC_readInteger_17 : decode b_SC_readInteger 17 = .ok (.getfield 43, 3) := by decide +kernel
theorem d_SC_readInteger_20 : decode b_SC_readInteger 20 = .ok (.iadd, 1) := by decide +kernel
theorem d_SC_readInteger_21 : decode b_SC_readInteger 21 = .ok (.aload_n 0, 1) := by decide +kernel
theorem d_SC_readInteger_22 : decode b_SC_readInteger 22 = .ok (.getfield 35, 3) := by decide +kernel
theorem d_SC_readInteger_25 : decode b_SC_readInteger 25 = .ok (.getfield 77, 3) := by decide +kernel
theorem d_SC_readInteger_28 : decode b_SC_readInteger 28 = .ok (.if_icmp .ge 101, 3) := by decide +kernel
theorem d_SC_readInteger_31 : decode b_SC_readInteger 31 = .ok (.aload_n 0, 1) := by decide +kernel
theorem d_SC_readInteger_32 : decode b_SC_readInteger 32 = .ok (.getfield 35, 3) := by decide +kernel
theorem d_SC_readInteger_35 : decode b_SC_readInteger 35 = .ok (.aload_n 0, 1) := by decide +kernel
theorem d_SC_readInteger_36 : decode b_SC_readInteger 36 = .ok (.getfield 39, 3) := by decide +kernel
theorem d_SC_readInteger_39 : decode b_SC_readInteger 39 = .ok (.aload_n 0, 1) := by decide +kernel
theorem d_SC_readInteger_40 : decode b_SC_readInteger 40 = .ok (.getfield 43, 3) := by decide +kernel
theorem d_SC_readInteger_43 : decode b_SC_readInteger 43 = .ok (.iadd, 1) := by decide +kernel
theorem d_SC_readInteger_44 : decode b_SC_readInteger 44 = .ok (.invokevirtual 80, 3) := by decide +kernel
theorem d_SC_readInteger_47 : decode b_SC_readInteger 47 = .ok (.invokestatic 90, 3) := by decide +kernel
theorem d_SC_readInteger_50 : decode b_SC_readInteger 50 = .ok (.ifCond .eq 79, 3) := by decide +kernel
theorem d_SC_readInteger_53 : decode b_SC_readInteger 53 = .ok (.aload_n 0, 1) := by decide +kernel
theorem d_SC_readInteger_54 : decode b_SC_readInteger 54 = .ok (.getfield 35, 3) := by decide +kernel
theorem d_SC_readInteger_57 : decode b_SC_readInteger 57 = .ok (.aload_n 0, 1) := by decide +kernel
theorem d_SC_readInteger_58 : decode b_SC_readInteger 58 = .ok (.getfield 39, 3) := by decide +kernel
theorem d_SC_readInteger_61 : decode b_SC_readInteger 61 = .ok (.aload_n 0, 1) := by decide +kernel
theorem d_SC_readInteger_62 : decode b_SC_readInteger 62 = .ok (.getfield 43, 3) := by decide +kernel
theorem d_SC_readInteger_65 : decode b_SC_readInteger 65 = .ok (.iadd, 1) := by decide +kernel
theorem d_SC_readInteger_66 : decode b_SC_readInteger 66 = .ok (.invokevirtual 80, 3) := by decide +kernel
theorem d_SC_readInteger_69 : decode b_SC_readInteger 69 = .ok (.bipush 48, 2) := by decide +kernel
theorem d_SC_readInteger_71 : decode b_SC_readInteger 71 = .ok (.isub, 1) := by decide +kernel
theorem d_SC_readInteger_72 : decode b_SC_readInteger 72 = .ok (.istore_n 2, 1) := by decide +kernel
theorem d_SC_readInteger_73 : decode b_SC_readInteger 73 = .ok (.iload_n 1, 1) := by decide +kernel
theorem d_SC_readInteger_74 : decode b_SC_readInteger 74 = .ok (.ifCond .ne 21, 3) := by decide +kernel
theorem d_SC_readInteger_77 : decode b_SC_readInteger 77 = .ok (.aload_n 0, 1) := by decide +kernel
theorem d_SC_readInteger_78 : decode b_SC_readInteger 78 = .ok (.getfield 70, 3) := by decide +kernel
theorem d_SC_readInteger_81 : decode b_SC_readInteger 81 = .ok (.ldc2_w 119, 3) := by decide +kernel
theorem d_SC_readInteger_84 : decode b_SC_readInteger 84 = .ok (.iload_n 2, 1) := by decide +kernel
theorem d_SC_readInteger_85 : decode b_SC_readInteger 85 = .ok (.i2l, 1) := by decide +kernel
theorem d_SC_readInteger_86 : decode b_SC_readInteger 86 = .ok (.lsub, 1) := by decide +kernel
theorem d_SC_readInteger_87 : decode b_SC_readInteger 87 = .ok (.ldc2_w 121, 3) := by decide +kernel
theorem d_SC_readInteger_90 : decode b_SC_readInteger 90 = .ok (.ldiv, 1) := by decide +kernel
theorem d_SC_readInteger_91 : decode b_SC_readInteger 91 = .ok (.lcmp, 1) := by decide +kernel
theorem d_SC_readInteger_92 : decode b_SC_readInteger 92 = .ok (.ifCond .le 7, 3) := by decide +kernel
theorem d_SC_readInteger_95 : decode b_SC_readInteger 95 = .ok (.iconst 1, 1) := by decide +kernel
theorem d_SC_readInteger_96 : decode b_SC_readInteger 96 = .ok (.goto 4, 3) := by decide +kernel
theorem d_SC_readInteger_99 : decode b_SC_readInteger 99 = .ok (.iconst 0, 1) := by decide +kernel
theorem d_SC_readInteger_100 : decode b_SC_readInteger 100 = .ok (.istore_n 1, 1) := by decide +kernel
theorem d_SC_readInteger_101 : decode b_SC_readInteger 101 = .ok (.aload_n 0, 1) := by decide +kernel
theorem d_SC_readInteger_102 : decode b_SC_readInteger 102 = .ok (.aload_n 0, 1) := by decide +kernel
theorem d_SC_readInteger_103 : decode b_SC_readInteger 103 = .ok (.getfield 70, 3) := by decide +kernel
theorem d_SC_readInteger_106 : decode b_SC_readInteger 106 = .ok (.ldc2_w 121, 3) := by decide +kernel
theorem d_SC_readInteger_109 : decode b_SC_readInteger 109 = .ok (.lmul, 1) := by decide +kernel
theorem d_SC_readInteger_110 : decode b_SC_readInteger 110 = .ok (.iload_n 2, 1) := by decide +kernel
theorem d_SC_readInteger_111 : decode b_SC_readInteger 111 = .ok (.i2l, 1) := by decide +kernel
theorem d_SC_readInteger_112 : decode b_SC_readInteger 112 = .ok (.ladd, 1) := by decide +kernel
theorem d_SC_readInteger_113 : decode b_SC_readInteger 113 = .ok (.putfield 70, 3) := by decide +kernel
theorem d_SC_readInteger_116 : decode b_SC_readInteger 116 = .ok (.aload_n 0, 1) := by decide +kernel
theorem d_SC_readInteger_117 : decode b_SC_readInteger 117 = .ok (.dup, 1) := by decide +kernel
theorem d_SC_readInteger_118 : decode b_SC_readInteger 118 = .ok (.getfield 43, 3) := by decide +kernel
theorem d_SC_readInteger_121 : decode b_SC_readInteger 121 = .ok (.iconst 1, 1) := by decide +kernel
theorem d_SC_readInteger_122 : decode b_SC_readInteger 122 = .ok (.iadd, 1) := by decide +kernel
theorem d_SC_readInteger_123 : decode b_SC_readInteger 123 = .ok (.putfield 43, 3) := by decide +kernel
theorem d_SC_readInteger_126 : decode b_SC_readInteger 126 = .ok (.goto (-114), 3) := by decide +kernel
theorem d_SC_readInteger_129 : decode b_SC_readInteger 129 = .ok (.aload_n 0, 1) := by decide +kernel
theorem d_SC_readInteger_130 : decode b_SC_readInteger 130 = .ok (.getfield 35, 3) := by decide +kernel
theorem d_SC_readInteger_133 : decode b_SC_readInteger 133 = .ok (.aload_n 0, 1) := by decide +kernel
theorem d_SC_readInteger_134 : decode b_SC_readInteger 134 = .ok (.getfield 39, 3) := by decide +kernel
theorem d_SC_readInteger_137 : decode b_SC_readInteger 137 = .ok (.aload_n 0, 1) := by decide +kernel
theorem d_SC_readInteger_138 : decode b_SC_readInteger 138 = .ok (.getfield 43, 3) := by decide +kernel
theorem d_SC_readInteger_141 : decode b_SC_readInteger 141 = .ok (.iadd, 1) := by decide +kernel
theorem d_SC_readInteger_142 : decode b_SC_readInteger 142 = .ok (.invokevirtual 80, 3) := by decide +kernel
theorem d_SC_readInteger_145 : decode b_SC_readInteger 145 = .ok (.bipush 76, 2) := by decide +kernel
theorem d_SC_readInteger_147 : decode b_SC_readInteger 147 = .ok (.if_icmp .ne 7, 3) := by decide +kernel
theorem d_SC_readInteger_150 : decode b_SC_readInteger 150 = .ok (.iconst 1, 1) := by decide +kernel
theorem d_SC_readInteger_151 : decode b_SC_readInteger 151 = .ok (.goto 4, 3) := by decide +kernel
theorem d_SC_readInteger_154 : decode b_SC_readInteger 154 = .ok (.iconst 0, 1) := by decide +kernel
theorem d_SC_readInteger_155 : decode b_SC_readInteger 155 = .ok (.istore_n 2, 1) := by decide +kernel
theorem d_SC_readInteger_156 : decode b_SC_readInteger 156 = .ok (.iload_n 2, 1) := by decide +kernel
theorem d_SC_readInteger_157 : decode b_SC_readInteger 157 = .ok (.ifCond .eq 16, 3) := by decide +kernel
theorem d_SC_readInteger_160 : decode b_SC_readInteger 160 = .ok (.aload_n 0, 1) := by decide +kernel
theorem d_SC_readInteger_161 : decode b_SC_readInteger 161 = .ok (.dup, 1) := by decide +kernel
theorem d_SC_readInteger_162 : decode b_SC_readInteger 162 = .ok (.getfield 43, 3) := by decide +kernel
theorem d_SC_readInteger_165 : decode b_SC_readInteger 165 = .ok (.iconst 1, 1) := by decide +kernel
theorem d_SC_readInteger_166 : decode b_SC_readInteger 166 = .ok (.iadd, 1) := by decide +kernel
theorem d_SC_readInteger_167 : decode b_SC_readInteger 167 = .ok (.putfield 43, 3) := by decide +kernel
theorem d_SC_readInteger_170 : decode b_SC_readInteger 170 = .ok (.goto 24, 3) := by decide +kernel
theorem d_SC_readInteger_173 : decode b_SC_readInteger 173 = .ok (.iload_n 1, 1) := by decide +kernel
theorem d_SC_readInteger_174 : decode b_SC_readInteger 174 = .ok (.ifCond .ne 14, 3) := by decide +kernel
theorem d_SC_readInteger_177 : decode b_SC_readInteger 177 = .ok (.aload_n 0, 1) := by decide +kernel
theorem d_SC_readInteger_178 : decode b_SC_readInteger 178 = .ok (.getfield 70, 3) := by decide +kernel
theorem d_SC_readInteger_181 : decode b_SC_readInteger 181 = .ok (.ldc2_w 125, 3) := by decide +kernel
theorem d_SC_readInteger_184 : decode b_SC_readInteger 184 = .ok (.lcmp, 1) := by decide +kernel
theorem d_SC_readInteger_185 : decode b_SC_readInteger 185 = .ok (.ifCond .le 7, 3) := by decide +kernel
theorem d_SC_readInteger_188 : decode b_SC_readInteger 188 = .ok (.iconst 1, 1) := by decide +kernel
theorem d_SC_readInteger_189 : decode b_SC_readInteger 189 = .ok (.goto 4, 3) := by decide +kernel
theorem d_SC_readInteger_192 : decode b_SC_readInteger 192 = .ok (.iconst 0, 1) := by decide +kernel
theorem d_SC_readInteger_193 : decode b_SC_readInteger 193 = .ok (.istore_n 1, 1) := by decide +kernel
theorem d_SC_readInteger_194 : decode b_SC_readInteger 194 = .ok (.aload_n 0, 1) := by decide +kernel
theorem d_SC_readInteger_195 : decode b_SC_readInteger 195 = .ok (.iload_n 1, 1) := by decide +kernel
theorem d_SC_readInteger_196 : decode b_SC_readInteger 196 = .ok (.ifCond .eq 9, 3) := by decide +kernel
theorem d_SC_readInteger_199 : decode b_SC_readInteger 199 = .ok (.getstatic 52, 3) := by decide +kernel
theorem d_SC_readInteger_202 : decode b_SC_readInteger 202 = .ok (.goto 16, 3) := by decide +kernel
theorem d_SC_readInteger_205 : decode b_SC_readInteger 205 = .ok (.iload_n 2, 1) := by decide +kernel
theorem d_SC_readInteger_206 : decode b_SC_readInteger 206 = .ok (.ifCond .eq 9, 3) := by decide +kernel
theorem d_SC_readInteger_209 : decode b_SC_readInteger 209 = .ok (.getstatic 127, 3) := by decide +kernel
theorem d_SC_readInteger_212 : decode b_SC_readInteger 212 = .ok (.goto 6, 3) := by decide +kernel
theorem d_SC_readInteger_215 : decode b_SC_readInteger 215 = .ok (.getstatic 130, 3) := by decide +kernel
theorem d_SC_readInteger_218 : decode b_SC_readInteger 218 = .ok (.putfield 15, 3) := by decide +kernel
theorem d_SC_readInteger_221 : decode b_SC_readInteger 221 = .ok (.return_, 1) := by decide +kernel
theorem kF_SC_70 : Cond.fieldLink R_SC 70 "WaferForge$Scanner" "value" "J" ∈ lw_g := in_g 272 (by decide +kernel) rfl
theorem kF_SC_130 : Cond.fieldLink R_SC 130 "WaferForge$Sign" "INTEGER" "LWaferForge$Sign;" ∈ lw_g := in_g 869 (by decide +kernel) rfl
theorem kF_SC_127 : Cond.fieldLink R_SC 127 "WaferForge$Sign" "LONG_INTEGER" "LWaferForge$Sign;" ∈ lw_g := in_g 867 (by decide +kernel) rfl
theorem kL_SC_125 : Cond.constantLong R_SC 125 (2147483647) ∈ lw_g := in_g 866 (by decide +kernel) rfl
theorem kL_SC_121 : Cond.constantLong R_SC 121 (10) ∈ lw_g := in_g 865 (by decide +kernel) rfl
theorem kL_SC_119 : Cond.constantLong R_SC 119 (9223372036854775807) ∈ lw_g := in_g 864 (by decide +kernel) rfl
abbrev at_SC_readInteger (dC : Nat → ClassId) (dI : Nat → Nat → Nat) (sa : Nat → Nat) (h0 tr ss sp szs sv tx : Nat) (ctx : ClassId) (h0_place : Int32) (h0_length : Int32) (h0_at : Int32) (tr_length : Int32) (gtx : Nat → Int32) (A : Nat → Prop) (u : Nat × Int32 × Int64) (t : State) : Prop := match u with | (h0_sign, h0_size, h0_value) => va_P (dC, dI) cls [(h0, .inr (8, [.ref tr, .ref (sg sa h0_sign), .int h0_place, .int h0_size, .long h0_value, .ref ss, .ref sp, .ref szs, .ref sv, .int h0_length, .int h0_at])), (tr, .inr (1, [.ref tx, .int tr_length])), (tx, .inl (ctx, 2000, .inl gtx))] t.heap ∧ va_K (dC, dI) cls [(ctx, .byte)] t ∧ va_D A [(h0, .inr (8, [.ref tr, .ref (sg sa h0_sign), .int h0_place, .int h0_size, .long h0_value, .ref ss, .ref sp, .ref szs, .ref sv, .int h0_length, .int h0_at])), (tr, .inr (1, [.ref tx, .int tr_length])), (tx, .inl (ctx, 2000, .inl gtx))]
set_option maxHeartbeats 4000000 in
set_option maxRecDepth 100000 in
theorem c_SC_readInteger (l : Launch) (dC : Nat → ClassId) (dI : Nat → Nat → Nat) (sz : Nat) (sa : Nat → Nat) (h0 tr ss sp szs sv tx : Nat) (ctx : ClassId) (h0_sign : Nat) (h0_place : Int32) (h0_size : Int32) (h0_value : Int64) (h0_length : Int32) (h0_at : Int32) (tr_length : Int32) (gtx : Nat → Int32)  (b_h0_sign : h0_sign < 55) (b_h0_place : 0 ≤ h0_place.toInt ∧ h0_place.toInt ≤ 2000) (b_h0_size : 0 ≤ h0_size.toInt ∧ h0_size.toInt ≤ 2000) (b_tr_length : 0 ≤ tr_length.toInt ∧ tr_length.toInt ≤ 2000)   (hpl : h0_place.toInt < tr_length.toInt) (hdg : 48 ≤ (br_get gtx tr_length h0_place).toInt ∧ (br_get gtx tr_length h0_place).toInt ≤ 57) : Met l y_SC_readInteger w_SC_readInteger ({ frames := 1, cells := 0, slots := 0, locals := 21 }) (va_Pc [.ref h0] (fun U => U.heap.size = sz ∧ va_P (dC, dI) cls [(h0, .inr (8, [.ref tr, .ref (sg sa h0_sign), .int h0_place, .int h0_size, .long h0_value, .ref ss, .ref sp, .ref szs, .ref sv, .int h0_length, .int h0_at])), (tr, .inr (1, [.ref tx, .int tr_length])), (tx, .inl (ctx, 2000, .inl gtx))] U.heap ∧ va_K (dC, dI) cls [(ctx, .byte)] U ∧ va_D (fun _ => True) [(h0, .inr (8, [.ref tr, .ref (sg sa h0_sign), .int h0_place, .int h0_size, .long h0_value, .ref ss, .ref sp, .ref szs, .ref sv, .int h0_length, .int h0_at])), (tr, .inr (1, [.ref tx, .int tr_length])), (tx, .inl (ctx, 2000, .inl gtx))] ∧ sw sa (va_A [(h0, .inr (8, [.ref tr, .ref (sg sa h0_sign), .int h0_place, .int h0_size, .long h0_value, .ref ss, .ref sp, .ref szs, .ref sv, .int h0_length, .int h0_at])), (tr, .inr (1, [.ref tx, .int tr_length])), (tx, .inl (ctx, 2000, .inl gtx))] sz) U U.heap)) (va_Qv (fun (u : Nat × Int32 × Int64) => match u with | (h0_sign2, h0_size2, h0_value2) => (h0_sign2 < 55) ∧ (0 ≤ h0_size2.toInt ∧ h0_size2.toInt ≤ 2000) ∧ ((h0_place.toInt + h0_size2.toInt ≤ tr_length.toInt) ∧ (h0_sign2 = 1 ∨ (h0_sign2 = 3 ∧ 1 ≤ h0_size2.toInt ∧ 0 ≤ h0_value2.toInt ∧ h0_value2.toInt < pt h0_size2.toInt ∧ h0_value2.toInt ≤ 2147483647) ∨ (h0_sign2 = 4 ∧ 2 ≤ h0_size2.toInt ∧ 0 ≤ h0_value2.toInt ∧ h0_value2.toInt < pt (h0_size2.toInt - 1))))) (at_SC_readInteger dC dI sa h0 tr ss sp szs sv tx ctx h0_place h0_length h0_at tr_length gtx (va_A [(h0, .inr (8, [.ref tr, .ref (sg sa h0_sign), .int h0_place, .int h0_size, .long h0_value, .ref ss, .ref sp, .ref szs, .ref sv, .int h0_length, .int h0_at])), (tr, .inr (1, [.ref tx, .int tr_length])), (tx, .inl (ctx, 2000, .inl gtx))] sz)) (va_A [(h0, .inr (8, [.ref tr, .ref (sg sa h0_sign), .int h0_place, .int h0_size, .long h0_value, .ref ss, .ref sp, .ref szs, .ref sv, .int h0_length, .int h0_at])), (tr, .inr (1, [.ref tx, .int tr_length])), (tx, .inl (ctx, 2000, .inl gtx))] sz)) 0 0 (va_A [(h0, .inr (8, [.ref tr, .ref (sg sa h0_sign), .int h0_place, .int h0_size, .long h0_value, .ref ss, .ref sp, .ref szs, .ref sv, .int h0_length, .int h0_at])), (tr, .inr (1, [.ref tx, .int tr_length])), (tx, .inl (ctx, 2000, .inl gtx))] sz) := by
  refine Met.ofW (cc := b_SC_readInteger) (maxL := 3) (ret := none) (by decide) rfl ?_
  intro p e s m args below meth c s₁ B hml hv
  obtain ⟨rfl, hsz, hP, hK, hD0, hSW⟩ := hv
  have hx := B.exec
  have hb := B.bytes
  have hr := B.returns
  have hts0 := atoms_spec (ws := w_SC_readInteger) B.pre
  have hts : ∀ w ∈ lw_g, w.before _ s = true := fun w h => hts0 w (List.mem_cons_of_mem _ h)
  have hown : s.vm.findClass R_SC = some m.cls := findClass_of_methodNamed B.named
  have hlocks := B.notSynchronized
  clear hts0
  subst hsz
  have hD := hD0.self (sz := s.heap.size)
  generalize hAe : va_A [(h0, .inr (8, [.ref tr, .ref (sg sa h0_sign), .int h0_place, .int h0_size, .long h0_value, .ref ss, .ref sp, .ref szs, .ref sv, .int h0_length, .int h0_at])), (tr, .inr (1, [.ref tx, .int tr_length])), (tx, .inl (ctx, 2000, .inl gtx))] s.heap.size = A at hD hSW ⊢
  have hA : ∀ q : Nat, s.heap.size ≤ q → A q := fun q h => by rw [← hAe]; exact Or.inr h
  clear hAe
  have hP : va_P (dC, dI) cls [(h0, .inr (8, [.ref tr, .ref (sg sa h0_sign), .int h0_place, .int h0_size, .long h0_value, .ref ss, .ref sp, .ref szs, .ref sv, .int h0_length, .int h0_at])), (tr, .inr (1, [.ref tx, .int tr_length])), (tx, .inl (ctx, 2000, .inl gtx))] s.heap := hP
  have hl := lv_entry ([.ref h0]) (n := 3) (Nat.le_of_ble_eq_true rfl)
  rw [lg_entry_eq]
  generalize (lg_sl ([.ref h0]) ++ List.replicate (3 - (lg_sl ([.ref h0])).length) Slot.unset).toArray = ls at hl ⊢
  have hl : lv_has ls 3 [(0, .ref h0)] := hl
  have k0 : (0 : Int32).toInt = 0 := by decide
  refine w_gen (A := A) hP (fun H locs hP hS => ?_)
  have k1 : (1 : Int32).toInt = 1 := by decide
  have k48 : (48 : Int32).toInt = 48 := by decide
  have k76 : (76 : Int32).toInt = 76 := by decide
  refine lv_iconst (v := 0) hx hb d_SC_readInteger_0 (by decide) ?_
  refine lv_istore_n (lv' := [(1, .int 0), (0, .ref h0)]) hx hb d_SC_readInteger_1 rfl hl (by decide) rfl (fun ls hl => ?_)
  refine lv_aload_n hx hb d_SC_readInteger_2 rfl (lv_at hl 1 rfl) ?_
  refine lv_lconst (v := 0) hx hb d_SC_readInteger_3 (by decide) ?_
  have kl0 : (0 : Int64).toInt = 0 := by decide
  refine va_put (D := (dC, dI)) (ci := 8) (v := .long 0) (ty := .long) (C := R_SC) (T := F_SC) (N := 11) hx hb hts i_SC t_SC t_SC_ok n_SC hown hK hP hD hS 0 rfl rfl 4 (by decide) (hts _ kF_SC_70) (fun _ h9 => h9) rfl (by decide +kernel) rfl rfl (Nat.le_of_ble_eq_true rfl) d_SC_readInteger_4 (fun H locs hP hD hS => ?_)
  refine lv_aload_n hx hb d_SC_readInteger_7 rfl (lv_at hl 1 rfl) ?_
  refine lv_iconst (v := 0) hx hb d_SC_readInteger_8 (by decide) ?_
  refine va_put (D := (dC, dI)) (ci := 8) (v := .int 0) (ty := .int) (C := R_SC) (T := F_SC) (N := 11) hx hb hts i_SC t_SC t_SC_ok n_SC hown hK hP hD hS 0 rfl rfl 3 (by decide) (hts _ kF_SC_43) (fun _ h9 => h9) rfl (by decide +kernel) rfl rfl (Nat.le_of_ble_eq_true rfl) d_SC_readInteger_9 (fun H locs hP hD hS => ?_)
  refine w_loop (σ := Int32 × Int32 × Int64) (fun u H locs ls => match u with | (j12_l1, j12_h0_size, j12_h0_value) => (j12_l1 = 0 ∨ j12_l1 = 1) ∧ (0 ≤ j12_h0_size.toInt ∧ j12_h0_size.toInt ≤ 2000) ∧ (0 ≤ j12_h0_size.toInt ∧ h0_place.toInt + j12_h0_size.toInt ≤ tr_length.toInt) ∧ (j12_l1.toInt = 0 → 0 ≤ j12_h0_value.toInt ∧ j12_h0_value.toInt < pt j12_h0_size.toInt) ∧ va_P (dC, dI) cls [(h0, .inr (8, [.ref tr, .ref (sg sa h0_sign), .int h0_place, .int j12_h0_size, .long j12_h0_value, .ref ss, .ref sp, .ref szs, .ref sv, .int h0_length, .int h0_at])), (tr, .inr (1, [.ref tx, .int tr_length])), (tx, .inl (ctx, 2000, .inl gtx))] H ∧ va_D A [(h0, .inr (8, [.ref tr, .ref (sg sa h0_sign), .int h0_place, .int j12_h0_size, .long j12_h0_value, .ref ss, .ref sp, .ref szs, .ref sv, .int h0_length, .int h0_at])), (tr, .inr (1, [.ref tx, .int tr_length])), (tx, .inl (ctx, 2000, .inl gtx))] ∧ va_S A s.heap H locs ∧ lv_has ls 3 [(0, .ref h0), (1, .int j12_l1)]) (fun u => match u with | (j12_l1, j12_h0_size, j12_h0_value) => (tr_length.toInt - j12_h0_size.toInt).toNat) ?_ (0, 0, 0) ⟨Or.inl rfl, by (try dsimp only) <;> omega, by (try dsimp only) <;> omega, fun _ => ⟨by decide, by decide⟩, hP, hD, hS, lv_sub hl [1, 0] rfl⟩
  intro N12 ih12 u H locs ls hN12 hI
  obtain ⟨j12_l1, j12_h0_size, j12_h0_value⟩ := u
  obtain ⟨b_j12_l1, b_j12_h0_size, v1, v2, hP, hD, hS, hl⟩ := hI
  have tj12_l1 := b01 b_j12_l1
  have hN12 : (tr_length.toInt - j12_h0_size.toInt).toNat < N12 + 1 := hN12
  refine lv_aload_n hx hb d_SC_readInteger_12 rfl (lv_at hl 0 rfl) ?_
  refine va_get (D := (dC, dI)) (ci := 8) (v := .int h0_place) (C := R_SC) (T := F_SC) (N := 11) hx hb hts i_SC hown hK hP 0 rfl rfl 2 (by decide) (hts _ kF_SC_39) (fun _ h9 => h9) rfl d_SC_readInteger_13 ?_
  refine lv_aload_n hx hb d_SC_readInteger_16 rfl (lv_at hl 0 rfl) ?_
  refine va_get (D := (dC, dI)) (ci := 8) (v := .int j12_h0_size) (C := R_SC) (T := F_SC) (N := 11) hx hb hts i_SC hown hK hP 0 rfl rfl 3 (by decide) (hts _ kF_SC_43) (fun _ h9 => h9) rfl d_SC_readInteger_17 ?_
  refine lv_iadd hx hb d_SC_readInteger_20 ?_
  refine lv_topi (fun x1 ex1 => ?_)
  have tx1 : x1.toInt = h0_place.toInt + j12_h0_size.toInt := by have z := i32_add ex1 (by omega) (by omega); omega
  refine lv_aload_n hx hb d_SC_readInteger_21 rfl (lv_at hl 0 rfl) ?_
  refine va_get (D := (dC, dI)) (ci := 8) (v := .ref tr) (C := R_SC) (T := F_SC) (N := 11) hx hb hts i_SC hown hK hP 0 rfl rfl 0 (by decide) (hts _ kF_SC_35) (fun _ h9 => h9) rfl d_SC_readInteger_22 ?_
  refine va_get (D := (dC, dI)) (ci := 1) (v := .int tr_length) (C := R_BR) (T := F_BR) (N := 2) hx hb hts i_BR hown hK hP 1 rfl rfl 1 (by decide) (hts _ kF_SC_77) (fun _ h9 => h9) rfl d_SC_readInteger_25 ?_
  refine w_cut (pc2 := 129) (σ := Unit) (fun u H locs ls => match u with | _ => (1 ≤ j12_h0_size.toInt) ∧ va_P (dC, dI) cls [(h0, .inr (8, [.ref tr, .ref (sg sa h0_sign), .int h0_place, .int j12_h0_size, .long j12_h0_value, .ref ss, .ref sp, .ref szs, .ref sv, .int h0_length, .int h0_at])), (tr, .inr (1, [.ref tx, .int tr_length])), (tx, .inl (ctx, 2000, .inl gtx))] H ∧ va_D A [(h0, .inr (8, [.ref tr, .ref (sg sa h0_sign), .int h0_place, .int j12_h0_size, .long j12_h0_value, .ref ss, .ref sp, .ref szs, .ref sv, .int h0_length, .int h0_at])), (tr, .inr (1, [.ref tx, .int tr_length])), (tx, .inl (ctx, 2000, .inl gtx))] ∧ va_S A s.heap H locs ∧ lv_has ls 3 [(0, .ref h0), (1, .int j12_l1)]) (fun u => match u with | _ => []) ?_ (fun jn129 => ?_)
  · intro u H locs ls hI
    obtain ⟨u1, hP, hD, hS, hl⟩ := hI
    refine lv_aload_n hx hb d_SC_readInteger_129 rfl (lv_at hl 0 rfl) ?_
    refine va_get (D := (dC, dI)) (ci := 8) (v := .ref tr) (C := R_SC) (T := F_SC) (N := 11) hx hb hts i_SC hown hK hP 0 rfl rfl 0 (by decide) (hts _ kF_SC_35) (fun _ h9 => h9) rfl d_SC_readInteger_130 ?_
    refine lv_aload_n hx hb d_SC_readInteger_133 rfl (lv_at hl 0 rfl) ?_
    refine va_get (D := (dC, dI)) (ci := 8) (v := .int h0_place) (C := R_SC) (T := F_SC) (N := 11) hx hb hts i_SC hown hK hP 0 rfl rfl 2 (by decide) (hts _ kF_SC_39) (fun _ h9 => h9) rfl d_SC_readInteger_134 ?_
    refine lv_aload_n hx hb d_SC_readInteger_137 rfl (lv_at hl 0 rfl) ?_
    refine va_get (D := (dC, dI)) (ci := 8) (v := .int j12_h0_size) (C := R_SC) (T := F_SC) (N := 11) hx hb hts i_SC hown hK hP 0 rfl rfl 3 (by decide) (hts _ kF_SC_43) (fun _ h9 => h9) rfl d_SC_readInteger_138 ?_
    refine lv_iadd hx hb d_SC_readInteger_141 ?_
    refine lv_topi (fun x2 ex2 => ?_)
    have tx2 : x2.toInt = h0_place.toInt + j12_h0_size.toInt := by have z := i32_add ex2 (by omega) (by omega); omega
    have hPc := hP.sub (ws' := [(tr, .inr (1, [.ref tx, .int tr_length])), (tx, .inl (ctx, 2000, .inl gtx))]) [1, 2] rfl
    have hDc := hD.sub (ws' := [(tr, .inr (1, [.ref tx, .int tr_length])), (tx, .inl (ctx, 2000, .inl gtx))]) [1, 2] (by decide) rfl
    have hKc := hK.sub (tys' := [(ctx, .byte)]) [0] rfl
    have hFc := va_free (wc := [(tr, .inr (1, [.ref tx, .int tr_length])), (tx, .inl (ctx, 2000, .inl gtx))]) hD hS hA [1, 2] rfl
    refine va_calli (va_runV (As := [.int x2]) (rest := []) ⟨hx, hb, hml, hown, hts⟩ (c_BR_at l dC dI tr tx H.size ctx 2000 tr_length gtx (by omega) (by omega) (by omega) x2) (cwV 1 hts (gV kM_SC_80 kV_BR_at kS_BR_at kI_BR kC_BR_at) rfl rfl rfl (by decide +kernel) ⟨Nat.le_of_ble_eq_true rfl, Nat.le_of_ble_eq_true rfl⟩) ⟨fun a U g mk z => by obtain ⟨z0, z1, zP, zK, zD⟩ := z; exact ⟨z0, z1, zP, va_K.moved (u := U) (U := U.calling g mk a) (Vm.Alike.refl U.vm) zK, zD⟩, va_recv hKc hPc (ci := 1) (q0 := 0) rfl rfl, fun U hU hW => ⟨rfl, by rw [hU], by rw [hU]; exact hPc, va_K.moved hW.alike hKc, hDc.weaken (fun _ _ _ _ => trivial)⟩⟩ rfl rfl hl.1 rfl (lv_room (Nat.le_of_ble_eq_true rfl)) d_SC_readInteger_142 ⟨(Nat.zero_le _), (Nat.zero_le _)⟩) hS (fun q _ h => hFc q h) hFc (fun r3 u t H1 locs ht hvm hw hB hz1 hk1 hS => ?_)
    obtain ⟨er3, rfl⟩ := hw
    have tr3 := br_get_in gtx tr_length x2
    rw [← er3] at tr3
    obtain ⟨hP1, hK1, hD1⟩ := hB
    rw [ht] at hP1
    obtain ⟨hP, hD⟩ := va_join (wr := [(h0, .inr (8, [.ref tr, .ref (sg sa h0_sign), .int h0_place, .int j12_h0_size, .long j12_h0_value, .ref ss, .ref sp, .ref szs, .ref sv, .int h0_length, .int h0_at]))]) (w1 := [(tr, .inr (1, [.ref tx, .int tr_length])), (tx, .inl (ctx, 2000, .inl gtx))]) hP hD [1, 2] [0] rfl rfl (by decide) (by decide) hk1 hFc hP1 hD1
    clear hPc hDc hKc hFc hz1 hk1 hP1 hK1 hD1
    generalize H1 = H at hP hS ⊢
    have hP : va_P (dC, dI) cls [(h0, .inr (8, [.ref tr, .ref (sg sa h0_sign), .int h0_place, .int j12_h0_size, .long j12_h0_value, .ref ss, .ref sp, .ref szs, .ref sv, .int h0_length, .int h0_at])), (tr, .inr (1, [.ref tx, .int tr_length])), (tx, .inl (ctx, 2000, .inl gtx))] H := hP
    have hD : va_D A [(h0, .inr (8, [.ref tr, .ref (sg sa h0_sign), .int h0_place, .int j12_h0_size, .long j12_h0_value, .ref ss, .ref sp, .ref szs, .ref sv, .int h0_length, .int h0_at])), (tr, .inr (1, [.ref tx, .int tr_length])), (tx, .inl (ctx, 2000, .inl gtx))] := hD
    refine lv_bipush (v := 76) hx hb d_SC_readInteger_145 (by decide) ?_
    refine w_cut (pc2 := 155) (σ := Int32) (fun u H locs ls => match u with | j155_s0 => (j155_s0 = 0 ∨ j155_s0 = 1) ∧ (j155_s0.toInt = 1 → h0_place.toInt + j12_h0_size.toInt + 1 ≤ tr_length.toInt) ∧ va_P (dC, dI) cls [(h0, .inr (8, [.ref tr, .ref (sg sa h0_sign), .int h0_place, .int j12_h0_size, .long j12_h0_value, .ref ss, .ref sp, .ref szs, .ref sv, .int h0_length, .int h0_at])), (tr, .inr (1, [.ref tx, .int tr_length])), (tx, .inl (ctx, 2000, .inl gtx))] H ∧ va_D A [(h0, .inr (8, [.ref tr, .ref (sg sa h0_sign), .int h0_place, .int j12_h0_size, .long j12_h0_value, .ref ss, .ref sp, .ref szs, .ref sv, .int h0_length, .int h0_at])), (tr, .inr (1, [.ref tx, .int tr_length])), (tx, .inl (ctx, 2000, .inl gtx))] ∧ va_S A s.heap H locs ∧ lv_has ls 3 [(0, .ref h0), (1, .int j12_l1)]) (fun u => match u with | j155_s0 => [.int j155_s0]) ?_ (fun jn155 => ?_)
    · intro u H locs ls hI
      obtain ⟨j155_s0, rfl⟩ : ∃ z, z = u := ⟨_, rfl⟩
      obtain ⟨b_j155_s0, y155, hP, hD, hS, hl⟩ := hI
      have tj155_s0 := b01 b_j155_s0
      refine lv_istore_n (lv' := [(2, .int j155_s0), (0, .ref h0), (1, .int j12_l1)]) hx hb d_SC_readInteger_155 rfl hl (by decide) rfl (fun ls hl => ?_)
      refine lv_iload_n hx hb d_SC_readInteger_156 rfl (lv_at hl 0 rfl) ?_
      refine w_cut (pc2 := 194) (σ := Int32 × Int32) (fun u H locs ls => match u with | (j194_l1, j194_h0_size) => (j194_l1 = 0 ∨ j194_l1 = 1) ∧ (0 ≤ j194_h0_size.toInt ∧ j194_h0_size.toInt ≤ 2000) ∧ (h0_place.toInt + j194_h0_size.toInt ≤ tr_length.toInt) ∧ (j194_l1.toInt = 0 → 0 ≤ j12_h0_value.toInt ∧ (j155_s0.toInt = 1 → 2 ≤ j194_h0_size.toInt ∧ j12_h0_value.toInt < pt (j194_h0_size.toInt - 1)) ∧ (j155_s0.toInt = 0 → 1 ≤ j194_h0_size.toInt ∧ j12_h0_value.toInt < pt j194_h0_size.toInt ∧ j12_h0_value.toInt ≤ 2147483647)) ∧ va_P (dC, dI) cls [(h0, .inr (8, [.ref tr, .ref (sg sa h0_sign), .int h0_place, .int j194_h0_size, .long j12_h0_value, .ref ss, .ref sp, .ref szs, .ref sv, .int h0_length, .int h0_at])), (tr, .inr (1, [.ref tx, .int tr_length])), (tx, .inl (ctx, 2000, .inl gtx))] H ∧ va_D A [(h0, .inr (8, [.ref tr, .ref (sg sa h0_sign), .int h0_place, .int j194_h0_size, .long j12_h0_value, .ref ss, .ref sp, .ref szs, .ref sv, .int h0_length, .int h0_at])), (tr, .inr (1, [.ref tx, .int tr_length])), (tx, .inl (ctx, 2000, .inl gtx))] ∧ va_S A s.heap H locs ∧ lv_has ls 3 [(0, .ref h0), (1, .int j194_l1), (2, .int j155_s0)]) (fun u => match u with | (j194_l1, j194_h0_size) => []) ?_ (fun jn194 => ?_)
      · intro u H locs ls hI
        obtain ⟨j194_l1, j194_h0_size⟩ := u
        obtain ⟨b_j194_l1, b_j194_h0_size, y194, y195, hP, hD, hS, hl⟩ := hI
        have tj194_l1 := b01 b_j194_l1
        refine lv_aload_n hx hb d_SC_readInteger_194 rfl (lv_at hl 0 rfl) ?_
        refine lv_iload_n hx hb d_SC_readInteger_195 rfl (lv_at hl 1 rfl) ?_
        refine w_cut (pc2 := 218) (σ := Nat) (fun u H locs ls => match u with | j218_s0 => (j218_s0 < 55) ∧ (j218_s0 = 1 ∨ (j218_s0 = 3 ∧ j194_l1.toInt = 0 ∧ j155_s0.toInt = 0) ∨ (j218_s0 = 4 ∧ j194_l1.toInt = 0 ∧ j155_s0.toInt = 1)) ∧ va_P (dC, dI) cls [(h0, .inr (8, [.ref tr, .ref (sg sa h0_sign), .int h0_place, .int j194_h0_size, .long j12_h0_value, .ref ss, .ref sp, .ref szs, .ref sv, .int h0_length, .int h0_at])), (tr, .inr (1, [.ref tx, .int tr_length])), (tx, .inl (ctx, 2000, .inl gtx))] H ∧ va_D A [(h0, .inr (8, [.ref tr, .ref (sg sa h0_sign), .int h0_place, .int j194_h0_size, .long j12_h0_value, .ref ss, .ref sp, .ref szs, .ref sv, .int h0_length, .int h0_at])), (tr, .inr (1, [.ref tx, .int tr_length])), (tx, .inl (ctx, 2000, .inl gtx))] ∧ va_S A s.heap H locs ∧ lv_has ls 3 []) (fun u => match u with | j218_s0 => [.ref (sg sa j218_s0), .ref h0]) ?_ (fun jn218 => ?_)
        · intro u H locs ls hI
          obtain ⟨j218_s0, rfl⟩ : ∃ z, z = u := ⟨_, rfl⟩
          obtain ⟨b_j218_s0, y218, hP, hD, hS, hl⟩ := hI
          refine va_put (D := (dC, dI)) (ci := 8) (v := .ref (sg sa j218_s0)) (ty := .object "WaferForge$Sign") (C := R_SC) (T := F_SC) (N := 11) hx hb hts i_SC t_SC t_SC_ok n_SC hown hK hP hD hS 0 rfl rfl 1 (by decide) (hts _ kF_SC_15) (fun _ h9 => h9) rfl (by decide +kernel) rfl rfl (Nat.le_of_ble_eq_true rfl) d_SC_readInteger_218 (fun H locs hP hD hS => ?_)
          have hP9 := hP.sub (ws' := [(h0, .inr (8, [.ref tr, .ref (sg sa j218_s0), .int h0_place, .int j194_h0_size, .long j12_h0_value, .ref ss, .ref sp, .ref szs, .ref sv, .int h0_length, .int h0_at])), (tr, .inr (1, [.ref tx, .int tr_length])), (tx, .inl (ctx, 2000, .inl gtx))]) [0, 1, 2] rfl
          have hD9 := hD.sub (ws' := [(h0, .inr (8, [.ref tr, .ref (sg sa j218_s0), .int h0_place, .int j194_h0_size, .long j12_h0_value, .ref ss, .ref sp, .ref szs, .ref sv, .int h0_length, .int h0_at])), (tr, .inr (1, [.ref tx, .int tr_length])), (tx, .inl (ctx, 2000, .inl gtx))]) [0, 1, 2] (by decide) rfl
          exact W.vret hx hb hr (fun t ht hW => ⟨⟨(j218_s0, j194_h0_size, j12_h0_value), rfl, ⟨b_j218_s0, b_j194_h0_size, ⟨y194, by rcases y218 with z | ⟨z, z1, z2⟩ | ⟨z, z1, z2⟩; exact Or.inl z; (have q9 := y195 z1; exact Or.inr (Or.inl ⟨z, (q9.2.2 z2).1, q9.1, (q9.2.2 z2).2⟩)); (have q9 := y195 z1; exact Or.inr (Or.inr ⟨z, (q9.2.1 z2).1, q9.1, (q9.2.1 z2).2⟩))⟩⟩, by rw [ht]; exact hP9, va_K.moved hW.alike hK, hD9⟩, hS.F ht⟩) hS.2.2 d_SC_readInteger_221
        · skip
          refine lv_if_eq (tgt := 205) hx hb d_SC_readInteger_196 (by decide) (fun c196 => ?_) (fun c196 => ?_)
          · have q196 := eqI c196
            refine lv_iload_n hx hb d_SC_readInteger_205 rfl (lv_at hl 2 rfl) ?_
            refine lv_if_eq (tgt := 215) hx hb d_SC_readInteger_206 (by decide) (fun c206 => ?_) (fun c206 => ?_)
            · have q206 := eqI c206
              refine va_gets (C := "WaferForge$Sign") (n := "INTEGER") (d := "LWaferForge$Sign;") (v := .ref (sg sa 3)) hx hb ((hSW.2.2.2.1.1 3 (by decide)).1) hS hown (hts _ kF_SC_130) (fun _ h9 => h9) d_SC_readInteger_215 ?_
              exact jn218 3 _ _ _ ⟨(by decide : 3 < 55), by (try dsimp only) <;> omega, hP, hD, hS, lv_sub hl [] rfl⟩
            · have q206 := neI c206
              refine va_gets (C := "WaferForge$Sign") (n := "LONG_INTEGER") (d := "LWaferForge$Sign;") (v := .ref (sg sa 4)) hx hb ((hSW.2.2.2.1.1 4 (by decide)).1) hS hown (hts _ kF_SC_127) (fun _ h9 => h9) d_SC_readInteger_209 ?_
              refine lv_goto (tgt := 218) hx hb d_SC_readInteger_212 (by decide) ?_
              exact jn218 4 _ _ _ ⟨(by decide : 4 < 55), by (try dsimp only) <;> omega, hP, hD, hS, lv_sub hl [] rfl⟩
          · have q196 := neI c196
            refine va_gets (C := "WaferForge$Sign") (n := "WRONG") (d := "LWaferForge$Sign;") (v := .ref (sg sa 1)) hx hb ((hSW.2.2.2.1.1 1 (by decide)).1) hS hown (hts _ kF_SC_52) (fun _ h9 => h9) d_SC_readInteger_199 ?_
            refine lv_goto (tgt := 218) hx hb d_SC_readInteger_202 (by decide) ?_
            exact jn218 1 _ _ _ ⟨(by decide : 1 < 55), by (try dsimp only) <;> omega, hP, hD, hS, lv_sub hl [] rfl⟩
      · skip
        refine lv_if_eq (tgt := 173) hx hb d_SC_readInteger_157 (by decide) (fun c157 => ?_) (fun c157 => ?_)
        · have q157 := eqI c157
          refine lv_iload_n hx hb d_SC_readInteger_173 rfl (lv_at hl 2 rfl) ?_
          refine w_cut (pc2 := 193) (σ := Int32) (fun u H locs ls => match u with | j193_s0 => (j193_s0 = 0 ∨ j193_s0 = 1) ∧ (j193_s0.toInt = 0 → j12_l1.toInt = 0 ∧ j12_h0_value.toInt ≤ 2147483647) ∧ va_P (dC, dI) cls [(h0, .inr (8, [.ref tr, .ref (sg sa h0_sign), .int h0_place, .int j12_h0_size, .long j12_h0_value, .ref ss, .ref sp, .ref szs, .ref sv, .int h0_length, .int h0_at])), (tr, .inr (1, [.ref tx, .int tr_length])), (tx, .inl (ctx, 2000, .inl gtx))] H ∧ va_D A [(h0, .inr (8, [.ref tr, .ref (sg sa h0_sign), .int h0_place, .int j12_h0_size, .long j12_h0_value, .ref ss, .ref sp, .ref szs, .ref sv, .int h0_length, .int h0_at])), (tr, .inr (1, [.ref tx, .int tr_length])), (tx, .inl (ctx, 2000, .inl gtx))] ∧ va_S A s.heap H locs ∧ lv_has ls 3 [(0, .ref h0), (2, .int j155_s0)]) (fun u => match u with | j193_s0 => [.int j193_s0]) ?_ (fun jn193 => ?_)
          · intro u H locs ls hI
            obtain ⟨j193_s0, rfl⟩ : ∃ z, z = u := ⟨_, rfl⟩
            obtain ⟨b_j193_s0, y193, hP, hD, hS, hl⟩ := hI
            have tj193_s0 := b01 b_j193_s0
            refine lv_istore_n (lv' := [(1, .int j193_s0), (0, .ref h0), (2, .int j155_s0)]) hx hb d_SC_readInteger_193 rfl hl (by decide) rfl (fun ls hl => ?_)
            exact jn194 (j193_s0, j12_h0_size) _ _ _ ⟨b_j193_s0, b_j12_h0_size, by (try dsimp only) <;> omega, fun z => by have z1 := v2 (by omega); exact ⟨z1.1, fun z2 => absurd z2 (by omega), fun _ => ⟨by omega, z1.2, by omega⟩⟩, hP, hD, hS, lv_sub hl [1, 0, 2] rfl⟩
          · skip
            refine lv_if_ne (tgt := 188) hx hb d_SC_readInteger_174 (by decide) (fun c174 => ?_) (fun c174 => ?_)
            · have q174 := neI c174
              refine lv_iconst (v := 1) hx hb d_SC_readInteger_188 (by decide) ?_
              refine lv_goto (tgt := 193) hx hb d_SC_readInteger_189 (by decide) ?_
              exact jn193 1 _ _ _ ⟨Or.inr rfl, by (try dsimp only) <;> omega, hP, hD, hS, lv_sub hl [1, 0] rfl⟩
            · have q174 := eqI c174
              refine lv_aload_n hx hb d_SC_readInteger_177 rfl (lv_at hl 1 rfl) ?_
              refine va_get (D := (dC, dI)) (ci := 8) (v := .long j12_h0_value) (C := R_SC) (T := F_SC) (N := 11) hx hb hts i_SC hown hK hP 0 rfl rfl 4 (by decide) (hts _ kF_SC_70) (fun _ h9 => h9) rfl d_SC_readInteger_178 ?_
              refine lv_ldc2 hx hb hown (hts _ kL_SC_125) d_SC_readInteger_181 ?_
              refine lv_topl (fun x4 ex4 => ?_)
              have tx4 : x4.toInt = 2147483647 := by rw [ex4]; decide
              refine W.lcmp hx hb d_SC_readInteger_184 ?_
              refine lv_topi (fun x5 ex5 => ?_)
              have tx5 := lgc ex5
              refine lv_if_le (tgt := 192) hx hb d_SC_readInteger_185 (by decide) (fun c185 => ?_) (fun c185 => ?_)
              · have q185 := leI c185
                refine lv_iconst (v := 0) hx hb d_SC_readInteger_192 (by decide) ?_
                exact jn193 0 _ _ _ ⟨Or.inl rfl, by (try dsimp only) <;> omega, hP, hD, hS, lv_sub hl [1, 0] rfl⟩
              · have q185 := nleI c185
                refine lv_iconst (v := 1) hx hb d_SC_readInteger_188 (by decide) ?_
                refine lv_goto (tgt := 193) hx hb d_SC_readInteger_189 (by decide) ?_
                exact jn193 1 _ _ _ ⟨Or.inr rfl, by (try dsimp only) <;> omega, hP, hD, hS, lv_sub hl [1, 0] rfl⟩
        · have q157 := neI c157
          refine lv_aload_n hx hb d_SC_readInteger_160 rfl (lv_at hl 1 rfl) ?_
          refine lv_dup hx hb d_SC_readInteger_161 rfl ?_
          refine va_get (D := (dC, dI)) (ci := 8) (v := .int j12_h0_size) (C := R_SC) (T := F_SC) (N := 11) hx hb hts i_SC hown hK hP 0 rfl rfl 3 (by decide) (hts _ kF_SC_43) (fun _ h9 => h9) rfl d_SC_readInteger_162 ?_
          refine lv_iconst (v := 1) hx hb d_SC_readInteger_165 (by decide) ?_
          refine lv_iadd hx hb d_SC_readInteger_166 ?_
          refine lv_topi (fun x6 ex6 => ?_)
          have tx6 : x6.toInt = j12_h0_size.toInt + 1 := by have z := i32_add ex6 (by omega) (by omega); omega
          refine va_put (D := (dC, dI)) (ci := 8) (v := .int x6) (ty := .int) (C := R_SC) (T := F_SC) (N := 11) hx hb hts i_SC t_SC t_SC_ok n_SC hown hK hP hD hS 0 rfl rfl 3 (by decide) (hts _ kF_SC_43) (fun _ h9 => h9) rfl (by decide +kernel) rfl rfl (Nat.le_of_ble_eq_true rfl) d_SC_readInteger_167 (fun H locs hP hD hS => ?_)
          refine lv_goto (tgt := 194) hx hb d_SC_readInteger_170 (by decide) ?_
          exact jn194 (j12_l1, x6) _ _ _ ⟨b_j12_l1, by (try dsimp only) <;> omega, by (try dsimp only) <;> omega, fun z => by have z1 := v2 (by omega); exact ⟨z1.1, fun _ => ⟨by omega, by rw [show x6.toInt - 1 = j12_h0_size.toInt from by omega]; exact z1.2⟩, fun z2 => absurd z2 (by omega)⟩, hP, hD, hS, lv_sub hl [1, 2, 0] rfl⟩
    · skip
      refine lv_icmp_ne (tgt := 154) hx hb d_SC_readInteger_147 (by decide) (fun c147 => ?_) (fun c147 => ?_)
      · have q147 := neI c147
        refine lv_iconst (v := 0) hx hb d_SC_readInteger_154 (by decide) ?_
        exact jn155 0 _ _ _ ⟨Or.inl rfl, by (try dsimp only) <;> omega, hP, hD, hS, lv_sub hl [0, 1] rfl⟩
      · have q147 := eqI c147
        have z150 := br_get_lt er3 (by omega)
        refine lv_iconst (v := 1) hx hb d_SC_readInteger_150 (by decide) ?_
        refine lv_goto (tgt := 155) hx hb d_SC_readInteger_151 (by decide) ?_
        exact jn155 1 _ _ _ ⟨Or.inr rfl, by (try dsimp only) <;> omega, hP, hD, hS, lv_sub hl [0, 1] rfl⟩
  · skip
    refine lv_icmp_ge (tgt := 129) hx hb d_SC_readInteger_28 (by decide) (fun c28 => ?_) (fun c28 => ?_)
    · have q28 := leI c28
      have u9 : 1 ≤ j12_h0_size.toInt := by omega
      exact jn129 () _ _ _ ⟨u9, hP, hD, hS, lv_sub hl [0, 1] rfl⟩
    · have q28 := nleI c28
      refine lv_aload_n hx hb d_SC_readInteger_31 rfl (lv_at hl 0 rfl) ?_
      refine va_get (D := (dC, dI)) (ci := 8) (v := .ref tr) (C := R_SC) (T := F_SC) (N := 11) hx hb hts i_SC hown hK hP 0 rfl rfl 0 (by decide) (hts _ kF_SC_35) (fun _ h9 => h9) rfl d_SC_readInteger_32 ?_
      refine lv_aload_n hx hb d_SC_readInteger_35 rfl (lv_at hl 0 rfl) ?_
      refine va_get (D := (dC, dI)) (ci := 8) (v := .int h0_place) (C := R_SC) (T := F_SC) (N := 11) hx hb hts i_SC hown hK hP 0 rfl rfl 2 (by decide) (hts _ kF_SC_39) (fun _ h9 => h9) rfl d_SC_readInteger_36 ?_
      refine lv_aload_n hx hb d_SC_readInteger_39 rfl (lv_at hl 0 rfl) ?_
      refine va_get (D := (dC, dI)) (ci := 8) (v := .int j12_h0_size) (C := R_SC) (T := F_SC) (N := 11) hx hb hts i_SC hown hK hP 0 rfl rfl 3 (by decide) (hts _ kF_SC_43) (fun _ h9 => h9) rfl d_SC_readInteger_40 ?_
      refine lv_iadd hx hb d_SC_readInteger_43 ?_
      refine lv_topi (fun x7 ex7 => ?_)
      have tx7 : x7.toInt = h0_place.toInt + j12_h0_size.toInt := by have z := i32_add ex7 (by omega) (by omega); omega
      have hPc := hP.sub (ws' := [(tr, .inr (1, [.ref tx, .int tr_length])), (tx, .inl (ctx, 2000, .inl gtx))]) [1, 2] rfl
      have hDc := hD.sub (ws' := [(tr, .inr (1, [.ref tx, .int tr_length])), (tx, .inl (ctx, 2000, .inl gtx))]) [1, 2] (by decide) rfl
      have hKc := hK.sub (tys' := [(ctx, .byte)]) [0] rfl
      have hFc := va_free (wc := [(tr, .inr (1, [.ref tx, .int tr_length])), (tx, .inl (ctx, 2000, .inl gtx))]) hD hS hA [1, 2] rfl
      refine va_calli (va_runV (As := [.int x7]) (rest := []) ⟨hx, hb, hml, hown, hts⟩ (c_BR_at l dC dI tr tx H.size ctx 2000 tr_length gtx (by omega) (by omega) (by omega) x7) (cwV 1 hts (gV kM_SC_80 kV_BR_at kS_BR_at kI_BR kC_BR_at) rfl rfl rfl (by decide +kernel) ⟨Nat.le_of_ble_eq_true rfl, Nat.le_of_ble_eq_true rfl⟩) ⟨fun a U g mk z => by obtain ⟨z0, z1, zP, zK, zD⟩ := z; exact ⟨z0, z1, zP, va_K.moved (u := U) (U := U.calling g mk a) (Vm.Alike.refl U.vm) zK, zD⟩, va_recv hKc hPc (ci := 1) (q0 := 0) rfl rfl, fun U hU hW => ⟨rfl, by rw [hU], by rw [hU]; exact hPc, va_K.moved hW.alike hKc, hDc.weaken (fun _ _ _ _ => trivial)⟩⟩ rfl rfl hl.1 rfl (lv_room (Nat.le_of_ble_eq_true rfl)) d_SC_readInteger_44 ⟨(Nat.zero_le _), (Nat.zero_le _)⟩) hS (fun q _ h => hFc q h) hFc (fun r8 u t H1 locs ht hvm hw hB hz1 hk1 hS => ?_)
      obtain ⟨er8, rfl⟩ := hw
      have tr8 := br_get_in gtx tr_length x7
      rw [← er8] at tr8
      obtain ⟨hP1, hK1, hD1⟩ := hB
      rw [ht] at hP1
      obtain ⟨hP, hD⟩ := va_join (wr := [(h0, .inr (8, [.ref tr, .ref (sg sa h0_sign), .int h0_place, .int j12_h0_size, .long j12_h0_value, .ref ss, .ref sp, .ref szs, .ref sv, .int h0_length, .int h0_at]))]) (w1 := [(tr, .inr (1, [.ref tx, .int tr_length])), (tx, .inl (ctx, 2000, .inl gtx))]) hP hD [1, 2] [0] rfl rfl (by decide) (by decide) hk1 hFc hP1 hD1
      clear hPc hDc hKc hFc hz1 hk1 hP1 hK1 hD1
      generalize H1 = H at hP hS ⊢
      have hP : va_P (dC, dI) cls [(h0, .inr (8, [.ref tr, .ref (sg sa h0_sign), .int h0_place, .int j12_h0_size, .long j12_h0_value, .ref ss, .ref sp, .ref szs, .ref sv, .int h0_length, .int h0_at])), (tr, .inr (1, [.ref tx, .int tr_length])), (tx, .inl (ctx, 2000, .inl gtx))] H := hP
      have hD : va_D A [(h0, .inr (8, [.ref tr, .ref (sg sa h0_sign), .int h0_place, .int j12_h0_size, .long j12_h0_value, .ref ss, .ref sp, .ref szs, .ref sv, .int h0_length, .int h0_at])), (tr, .inr (1, [.ref tx, .int tr_length])), (tx, .inl (ctx, 2000, .inl gtx))] := hD
      have hPc := hP.sub (ws' := []) [] rfl
      have hDc := hD.sub (ws' := []) [] (by decide) rfl
      have hKc := hK.sub (tys' := []) [] rfl
      have hFc := va_free (wc := []) hD hS hA [] rfl
      refine va_calli (va_runS (As := [.int r8]) (rest := []) ⟨hx, hb, hml, hown, hts⟩ (c_SC_isDigit l dC dI H.size r8) ⟨callB_of 1 hts (gW kC_SC_isDigit) rfl rfl rfl (hts _ kI_SC) (hts _ kM_SC_90) (by decide +kernel) ⟨Nat.le_of_ble_eq_true rfl, Nat.le_of_ble_eq_true rfl⟩, hts _ kT_SC_isDigit⟩ ⟨fun a U g mk z => by obtain ⟨z0, z1, zP, zK, zD⟩ := z; exact ⟨z0, z1, zP, va_K.moved (u := U) (U := U.calling g mk a) (Vm.Alike.refl U.vm) zK, zD⟩, fun U hU hW => ⟨rfl, by rw [hU], by rw [hU]; exact hPc, va_K.moved hW.alike hKc, hDc.weaken (fun _ _ _ _ => trivial)⟩⟩ rfl rfl hl.1 rfl (lv_room (Nat.le_of_ble_eq_true rfl)) d_SC_readInteger_47 ⟨(Nat.zero_le _), (Nat.zero_le _)⟩) hS (fun q _ h => hFc q h) hFc (fun r9 u t H1 locs ht hvm hw hB hz1 hk1 hS => ?_)
      try dsimp only at hw
      obtain ⟨br9, xr9⟩ := hw
      try clear hw
      have tr9 := b01 br9
      obtain ⟨hP1, hK1, hD1⟩ := hB
      rw [ht] at hP1
      obtain ⟨hP, hD⟩ := va_join (wr := [(h0, .inr (8, [.ref tr, .ref (sg sa h0_sign), .int h0_place, .int j12_h0_size, .long j12_h0_value, .ref ss, .ref sp, .ref szs, .ref sv, .int h0_length, .int h0_at])), (tr, .inr (1, [.ref tx, .int tr_length])), (tx, .inl (ctx, 2000, .inl gtx))]) (w1 := []) hP hD [] [0, 1, 2] rfl rfl (by decide) (by decide) hk1 hFc hP1 hD1
      clear hPc hDc hKc hFc hz1 hk1 hP1 hK1 hD1
      generalize H1 = H at hP hS ⊢
      have hP : va_P (dC, dI) cls [(h0, .inr (8, [.ref tr, .ref (sg sa h0_sign), .int h0_place, .int j12_h0_size, .long j12_h0_value, .ref ss, .ref sp, .ref szs, .ref sv, .int h0_length, .int h0_at])), (tr, .inr (1, [.ref tx, .int tr_length])), (tx, .inl (ctx, 2000, .inl gtx))] H := hP
      have hD : va_D A [(h0, .inr (8, [.ref tr, .ref (sg sa h0_sign), .int h0_place, .int j12_h0_size, .long j12_h0_value, .ref ss, .ref sp, .ref szs, .ref sv, .int h0_length, .int h0_at])), (tr, .inr (1, [.ref tx, .int tr_length])), (tx, .inl (ctx, 2000, .inl gtx))] := hD
      refine lv_if_eq (tgt := 129) hx hb d_SC_readInteger_50 (by decide) (fun c50 => ?_) (fun c50 => ?_)
      · have q50 := eqI c50
        have u9 : 1 ≤ j12_h0_size.toInt := by
          have z9 : ¬ j12_h0_size.toInt = 0 := fun z => by
            have ex : x7 = h0_place := Int32.toInt_inj.mp (by omega)
            rw [ex] at er8
            rw [← er8] at hdg
            have z8 := xr9.2 (by rcases br9 with z7 | z7; exact z7; (exfalso; rw [z7] at q50; exact absurd q50 (by decide)))
            omega
          omega
        exact jn129 () _ _ _ ⟨u9, hP, hD, hS, lv_sub hl [0, 1] rfl⟩
      · have q50 := neI c50
        have dg := xr9.1 (by rcases br9 with z7 | z7; (exfalso; rw [z7] at q50; exact q50 rfl); exact z7)
        refine lv_aload_n hx hb d_SC_readInteger_53 rfl (lv_at hl 0 rfl) ?_
        refine va_get (D := (dC, dI)) (ci := 8) (v := .ref tr) (C := R_SC) (T := F_SC) (N := 11) hx hb hts i_SC hown hK hP 0 rfl rfl 0 (by decide) (hts _ kF_SC_35) (fun _ h9 => h9) rfl d_SC_readInteger_54 ?_
        refine lv_aload_n hx hb d_SC_readInteger_57 rfl (lv_at hl 0 rfl) ?_
        refine va_get (D := (dC, dI)) (ci := 8) (v := .int h0_place) (C := R_SC) (T := F_SC) (N := 11) hx hb hts i_SC hown hK hP 0 rfl rfl 2 (by decide) (hts _ kF_SC_39) (fun _ h9 => h9) rfl d_SC_readInteger_58 ?_
        refine lv_aload_n hx hb d_SC_readInteger_61 rfl (lv_at hl 0 rfl) ?_
        refine va_get (D := (dC, dI)) (ci := 8) (v := .int j12_h0_size) (C := R_SC) (T := F_SC) (N := 11) hx hb hts i_SC hown hK hP 0 rfl rfl 3 (by decide) (hts _ kF_SC_43) (fun _ h9 => h9) rfl d_SC_readInteger_62 ?_
        refine lv_iadd hx hb d_SC_readInteger_65 ?_
        refine lv_topi (fun x10 ex10 => ?_)
        have tx10 : x10.toInt = h0_place.toInt + j12_h0_size.toInt := by have z := i32_add ex10 (by omega) (by omega); omega
        have hPc := hP.sub (ws' := [(tr, .inr (1, [.ref tx, .int tr_length])), (tx, .inl (ctx, 2000, .inl gtx))]) [1, 2] rfl
        have hDc := hD.sub (ws' := [(tr, .inr (1, [.ref tx, .int tr_length])), (tx, .inl (ctx, 2000, .inl gtx))]) [1, 2] (by decide) rfl
        have hKc := hK.sub (tys' := [(ctx, .byte)]) [0] rfl
        have hFc := va_free (wc := [(tr, .inr (1, [.ref tx, .int tr_length])), (tx, .inl (ctx, 2000, .inl gtx))]) hD hS hA [1, 2] rfl
        refine va_calli (va_runV (As := [.int x10]) (rest := []) ⟨hx, hb, hml, hown, hts⟩ (c_BR_at l dC dI tr tx H.size ctx 2000 tr_length gtx (by omega) (by omega) (by omega) x10) (cwV 1 hts (gV kM_SC_80 kV_BR_at kS_BR_at kI_BR kC_BR_at) rfl rfl rfl (by decide +kernel) ⟨Nat.le_of_ble_eq_true rfl, Nat.le_of_ble_eq_true rfl⟩) ⟨fun a U g mk z => by obtain ⟨z0, z1, zP, zK, zD⟩ := z; exact ⟨z0, z1, zP, va_K.moved (u := U) (U := U.calling g mk a) (Vm.Alike.refl U.vm) zK, zD⟩, va_recv hKc hPc (ci := 1) (q0 := 0) rfl rfl, fun U hU hW => ⟨rfl, by rw [hU], by rw [hU]; exact hPc, va_K.moved hW.alike hKc, hDc.weaken (fun _ _ _ _ => trivial)⟩⟩ rfl rfl hl.1 rfl (lv_room (Nat.le_of_ble_eq_true rfl)) d_SC_readInteger_66 ⟨(Nat.zero_le _), (Nat.zero_le _)⟩) hS (fun q _ h => hFc q h) hFc (fun r11 u t H1 locs ht hvm hw hB hz1 hk1 hS => ?_)
        obtain ⟨er11, rfl⟩ := hw
        have tr11 := br_get_in gtx tr_length x10
        rw [← er11] at tr11
        obtain ⟨hP1, hK1, hD1⟩ := hB
        rw [ht] at hP1
        obtain ⟨hP, hD⟩ := va_join (wr := [(h0, .inr (8, [.ref tr, .ref (sg sa h0_sign), .int h0_place, .int j12_h0_size, .long j12_h0_value, .ref ss, .ref sp, .ref szs, .ref sv, .int h0_length, .int h0_at]))]) (w1 := [(tr, .inr (1, [.ref tx, .int tr_length])), (tx, .inl (ctx, 2000, .inl gtx))]) hP hD [1, 2] [0] rfl rfl (by decide) (by decide) hk1 hFc hP1 hD1
        clear hPc hDc hKc hFc hz1 hk1 hP1 hK1 hD1
        generalize H1 = H at hP hS ⊢
        have hP : va_P (dC, dI) cls [(h0, .inr (8, [.ref tr, .ref (sg sa h0_sign), .int h0_place, .int j12_h0_size, .long j12_h0_value, .ref ss, .ref sp, .ref szs, .ref sv, .int h0_length, .int h0_at])), (tr, .inr (1, [.ref tx, .int tr_length])), (tx, .inl (ctx, 2000, .inl gtx))] H := hP
        have hD : va_D A [(h0, .inr (8, [.ref tr, .ref (sg sa h0_sign), .int h0_place, .int j12_h0_size, .long j12_h0_value, .ref ss, .ref sp, .ref szs, .ref sv, .int h0_length, .int h0_at])), (tr, .inr (1, [.ref tx, .int tr_length])), (tx, .inl (ctx, 2000, .inl gtx))] := hD
        refine lv_bipush (v := 48) hx hb d_SC_readInteger_69 (by decide) ?_
        refine lv_isub hx hb d_SC_readInteger_71 ?_
        refine lv_topi (fun x12 ex12 => ?_)
        have tx12 : x12.toInt = r11.toInt - 48 := by have z := i32_sub ex12 (by omega) (by omega); omega
        refine lv_istore_n (lv' := [(2, .int x12), (0, .ref h0), (1, .int j12_l1)]) hx hb d_SC_readInteger_72 rfl hl (by decide) rfl (fun ls hl => ?_)
        have dg2 : 0 ≤ x12.toInt ∧ x12.toInt ≤ 9 := by
          have ez : r11 = r8 := by rw [er11, er8]; congr 1; exact Int32.toInt_inj.mp (by omega)
          rw [← ez] at dg
          omega
        refine lv_iload_n hx hb d_SC_readInteger_73 rfl (lv_at hl 2 rfl) ?_
        refine w_cut (pc2 := 100) (σ := Int32) (fun u H locs ls => match u with | j100_s0 => (j100_s0 = 0 ∨ j100_s0 = 1) ∧ (j100_s0.toInt = 0 → j12_l1.toInt = 0 ∧ j12_h0_value.toInt * 10 + x12.toInt ≤ 9223372036854775807) ∧ va_P (dC, dI) cls [(h0, .inr (8, [.ref tr, .ref (sg sa h0_sign), .int h0_place, .int j12_h0_size, .long j12_h0_value, .ref ss, .ref sp, .ref szs, .ref sv, .int h0_length, .int h0_at])), (tr, .inr (1, [.ref tx, .int tr_length])), (tx, .inl (ctx, 2000, .inl gtx))] H ∧ va_D A [(h0, .inr (8, [.ref tr, .ref (sg sa h0_sign), .int h0_place, .int j12_h0_size, .long j12_h0_value, .ref ss, .ref sp, .ref szs, .ref sv, .int h0_length, .int h0_at])), (tr, .inr (1, [.ref tx, .int tr_length])), (tx, .inl (ctx, 2000, .inl gtx))] ∧ va_S A s.heap H locs ∧ lv_has ls 3 [(0, .ref h0), (2, .int x12)]) (fun u => match u with | j100_s0 => [.int j100_s0]) ?_ (fun jn100 => ?_)
        · intro u H locs ls hI
          obtain ⟨j100_s0, rfl⟩ : ∃ z, z = u := ⟨_, rfl⟩
          obtain ⟨b_j100_s0, y100, hP, hD, hS, hl⟩ := hI
          have tj100_s0 := b01 b_j100_s0
          refine lv_istore_n (lv' := [(1, .int j100_s0), (0, .ref h0), (2, .int x12)]) hx hb d_SC_readInteger_100 rfl hl (by decide) rfl (fun ls hl => ?_)
          refine lv_aload_n hx hb d_SC_readInteger_101 rfl (lv_at hl 1 rfl) ?_
          refine lv_aload_n hx hb d_SC_readInteger_102 rfl (lv_at hl 1 rfl) ?_
          refine va_get (D := (dC, dI)) (ci := 8) (v := .long j12_h0_value) (C := R_SC) (T := F_SC) (N := 11) hx hb hts i_SC hown hK hP 0 rfl rfl 4 (by decide) (hts _ kF_SC_70) (fun _ h9 => h9) rfl d_SC_readInteger_103 ?_
          refine lv_ldc2 hx hb hown (hts _ kL_SC_121) d_SC_readInteger_106 ?_
          refine lv_topl (fun x13 ex13 => ?_)
          have tx13 : x13.toInt = 10 := by rw [ex13]; decide
          refine lv_lmul hx hb d_SC_readInteger_109 ?_
          refine lv_topl (fun x14 ex14 => ?_)
          refine lv_iload_n hx hb d_SC_readInteger_110 rfl (lv_at hl 2 rfl) ?_
          refine lv_i2l hx hb d_SC_readInteger_111 rfl ?_
          refine lv_topl (fun x15 ex15 => ?_)
          have tx15 := i2l_t ex15
          refine lv_ladd hx hb d_SC_readInteger_112 ?_
          refine lv_topl (fun x16 ex16 => ?_)
          refine va_put (D := (dC, dI)) (ci := 8) (v := .long x16) (ty := .long) (C := R_SC) (T := F_SC) (N := 11) hx hb hts i_SC t_SC t_SC_ok n_SC hown hK hP hD hS 0 rfl rfl 4 (by decide) (hts _ kF_SC_70) (fun _ h9 => h9) rfl (by decide +kernel) rfl rfl (Nat.le_of_ble_eq_true rfl) d_SC_readInteger_113 (fun H locs hP hD hS => ?_)
          refine lv_aload_n hx hb d_SC_readInteger_116 rfl (lv_at hl 1 rfl) ?_
          refine lv_dup hx hb d_SC_readInteger_117 rfl ?_
          refine va_get (D := (dC, dI)) (ci := 8) (v := .int j12_h0_size) (C := R_SC) (T := F_SC) (N := 11) hx hb hts i_SC hown hK hP 0 rfl rfl 3 (by decide) (hts _ kF_SC_43) (fun _ h9 => h9) rfl d_SC_readInteger_118 ?_
          refine lv_iconst (v := 1) hx hb d_SC_readInteger_121 (by decide) ?_
          refine lv_iadd hx hb d_SC_readInteger_122 ?_
          refine lv_topi (fun x17 ex17 => ?_)
          have tx17 : x17.toInt = j12_h0_size.toInt + 1 := by have z := i32_add ex17 (by omega) (by omega); omega
          refine va_put (D := (dC, dI)) (ci := 8) (v := .int x17) (ty := .int) (C := R_SC) (T := F_SC) (N := 11) hx hb hts i_SC t_SC t_SC_ok n_SC hown hK hP hD hS 0 rfl rfl 3 (by decide) (hts _ kF_SC_43) (fun _ h9 => h9) rfl (by decide +kernel) rfl rfl (Nat.le_of_ble_eq_true rfl) d_SC_readInteger_123 (fun H locs hP hD hS => ?_)
          refine lv_goto (tgt := 12) hx hb d_SC_readInteger_126 (by decide) ?_
          have w2 : j100_s0.toInt = 0 → 0 ≤ x16.toInt ∧ x16.toInt < pt x17.toInt := fun z => by
            obtain ⟨z1, z2⟩ := y100 z
            obtain ⟨z3, z4⟩ := v2 z1
            have m1 := i64_mul ex14 (by rw [tx13]; omega) (by rw [tx13]; omega)
            rw [tx13] at m1
            have m2 := i64_add ex16 (by omega) (by omega)
            rw [tx17, pt_succ v1.1]
            omega
          exact ih12 (j100_s0, x17, x16) _ _ _ (by show (tr_length.toInt - x17.toInt).toNat < N12; omega) ⟨b_j100_s0, by (try dsimp only) <;> omega, by (try dsimp only) <;> omega, w2, hP, hD, hS, lv_sub hl [1, 0] rfl⟩
        · skip
          refine lv_if_ne (tgt := 95) hx hb d_SC_readInteger_74 (by decide) (fun c74 => ?_) (fun c74 => ?_)
          · have q74 := neI c74
            refine lv_iconst (v := 1) hx hb d_SC_readInteger_95 (by decide) ?_
            refine lv_goto (tgt := 100) hx hb d_SC_readInteger_96 (by decide) ?_
            exact jn100 1 _ _ _ ⟨Or.inr rfl, by (try dsimp only) <;> omega, hP, hD, hS, lv_sub hl [1, 0] rfl⟩
          · have q74 := eqI c74
            refine lv_aload_n hx hb d_SC_readInteger_77 rfl (lv_at hl 1 rfl) ?_
            refine va_get (D := (dC, dI)) (ci := 8) (v := .long j12_h0_value) (C := R_SC) (T := F_SC) (N := 11) hx hb hts i_SC hown hK hP 0 rfl rfl 4 (by decide) (hts _ kF_SC_70) (fun _ h9 => h9) rfl d_SC_readInteger_78 ?_
            refine lv_ldc2 hx hb hown (hts _ kL_SC_119) d_SC_readInteger_81 ?_
            refine lv_topl (fun x18 ex18 => ?_)
            have tx18 : x18.toInt = 9223372036854775807 := by rw [ex18]; decide
            refine lv_iload_n hx hb d_SC_readInteger_84 rfl (lv_at hl 0 rfl) ?_
            refine lv_i2l hx hb d_SC_readInteger_85 rfl ?_
            refine lv_topl (fun x19 ex19 => ?_)
            have tx19 := i2l_t ex19
            refine lv_lsub hx hb d_SC_readInteger_86 ?_
            refine lv_topl (fun x20 ex20 => ?_)
            have tx20 : x20.toInt = x18.toInt - x19.toInt := by have z := i64_sub ex20 (by omega) (by omega); omega
            refine lv_ldc2 hx hb hown (hts _ kL_SC_121) d_SC_readInteger_87 ?_
            refine lv_topl (fun x21 ex21 => ?_)
            have tx21 : x21.toInt = 10 := by rw [ex21]; decide
            refine lv_ldiv hx hb d_SC_readInteger_90 (fun z => by rw [z] at tx21; exact absurd tx21 (by decide)) ?_
            refine lv_topl (fun x22 ex22 => ?_)
            have tx22 := i64_div10 ex22 tx21 (by omega)
            refine W.lcmp hx hb d_SC_readInteger_91 ?_
            refine lv_topi (fun x23 ex23 => ?_)
            have tx23 := lgc ex23
            refine lv_if_le (tgt := 99) hx hb d_SC_readInteger_92 (by decide) (fun c92 => ?_) (fun c92 => ?_)
            · have q92 := leI c92
              refine lv_iconst (v := 0) hx hb d_SC_readInteger_99 (by decide) ?_
              exact jn100 0 _ _ _ ⟨Or.inl rfl, by (try dsimp only) <;> omega, hP, hD, hS, lv_sub hl [1, 0] rfl⟩
            · have q92 := nleI c92
              refine lv_iconst (v := 1) hx hb d_SC_readInteger_95 (by decide) ?_
              refine lv_goto (tgt := 100) hx hb d_SC_readInteger_96 (by decide) ?_
              exact jn100 1 _ _ _ ⟨Or.inr rfl, by (try dsimp only) <;> omega, hP, hD, hS, lv_sub hl [1, 0] rfl⟩

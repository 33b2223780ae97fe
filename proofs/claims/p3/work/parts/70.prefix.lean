/-! Coder: signs in front -/
abbrev b_CO_codePrefix : ByteArray := prog_4_method_10_code
def y_CO_codePrefix : MethodName := ⟨R_CO, "codePrefix", "(LWaferForge$Sign;I)V"⟩
abbrev w_CO_codePrefix : List Cond := .code y_CO_codePrefix b_CO_codePrefix 5 none :: lw_g
theorem kC_CO_codePrefix : Cond.code y_CO_codePrefix b_CO_codePrefix 5 none ∈ lw_g := in_g 1147 (by decide +kernel) rfl
theorem d_CO_codePrefix_0 : decode b_CO_codePrefix 0 = .ok (.aload_n 0, 1) := by decide +kernel
theorem d_CO_codePrefix_1 : decode b_CO_codePrefix 1 = .ok (.invokevirtual 224, 3) := by decide +kernel
theorem d_CO_codePrefix_4 : decode b_CO_codePrefix 4 = .ok (.istore_n 3, 1) := by decide +kernel
theorem d_CO_codePrefix_5 : decode b_CO_codePrefix 5 = .ok (.iload_n 3, 1) := by decide +kernel
theorem d_CO_codePrefix_6 : decode b_CO_codePrefix 6 = .ok (.bipush 64, 2) := by decide +kernel
theorem d_CO_codePrefix_8 : decode b_CO_codePrefix 8 = .ok (.if_icmp .eq 16, 3) := by decide +kernel
theorem d_CO_codePrefix_11 : decode b_CO_codePrefix 11 = .ok (.aload_n 1, 1) := by decide +kernel
theorem d_CO_codePrefix_12 : decode b_CO_codePrefix 12 = .ok (.getstatic 239, 3) := by decide +kernel
theorem d_CO_codePrefix_15 : decode b_CO_codePrefix 15 = .ok (.if_acmp .ne 18, 3) := by decide +kernel
theorem d_CO_codePrefix_18 : decode b_CO_codePrefix 18 = .ok (.iload_n 3, 1) := by decide +kernel
theorem d_CO_codePrefix_19 : decode b_CO_codePrefix 19 = .ok (.bipush 127, 2) := by decide +kernel
theorem d_CO_codePrefix_21 : decode b_CO_codePrefix 21 = .ok (.if_icmp .eq 12, 3) := by decide +kernel
theorem d_CO_codePrefix_24 : decode b_CO_codePrefix 24 = .ok (.aload_n 0, 1) := by decide +kernel
theorem d_CO_codePrefix_25 : decode b_CO_codePrefix 25 = .ok (.getfield 36, 3) := by decide +kernel
theorem d_CO_codePrefix_28 : decode b_CO_codePrefix 28 = .ok (.iconst 3, 1) := by decide +kernel
theorem d_CO_codePrefix_29 : decode b_CO_codePrefix 29 = .ok (.iload_n 2, 1) := by decide +kernel
theorem d_CO_codePrefix_30 : decode b_CO_codePrefix 30 = .ok (.invokevirtual 105, 3) := by decide +kernel
theorem d_CO_codePrefix_33 : decode b_CO_codePrefix 33 = .ok (.iload_n 3, 1) := by decide +kernel
theorem d_CO_codePrefix_34 : decode b_CO_codePrefix 34 = .ok (.bipush 127, 2) := by decide +kernel
theorem d_CO_codePrefix_36 : decode b_CO_codePrefix 36 = .ok (.if_icmp .ne 7, 3) := by decide +kernel
theorem d_CO_codePrefix_39 : decode b_CO_codePrefix 39 = .ok (.iconst 1, 1) := by decide +kernel
theorem d_CO_codePrefix_40 : decode b_CO_codePrefix 40 = .ok (.goto 4, 3) := by decide +kernel
theorem d_CO_codePrefix_43 : decode b_CO_codePrefix 43 = .ok (.iconst 0, 1) := by decide +kernel
theorem d_CO_codePrefix_44 : decode b_CO_codePrefix 44 = .ok (.istore 4, 2) := by decide +kernel
theorem d_CO_codePrefix_46 : decode b_CO_codePrefix 46 = .ok (.aload_n 1, 1) := by decide +kernel
theorem d_CO_codePrefix_47 : decode b_CO_codePrefix 47 = .ok (.getstatic 239, 3) := by decide +kernel
theorem d_CO_codePrefix_50 : decode b_CO_codePrefix 50 = .ok (.if_acmp .ne 15, 3) := by decide +kernel
theorem d_CO_codePrefix_53 : decode b_CO_codePrefix 53 = .ok (.aload_n 0, 1) := by decide +kernel
theorem d_CO_codePrefix_54 : decode b_CO_codePrefix 54 = .ok (.getfield 26, 3) := by decide +kernel
theorem d_CO_codePrefix_57 : decode b_CO_codePrefix 57 = .ok (.bipush 69, 2) := by decide +kernel
theorem d_CO_codePrefix_59 : decode b_CO_codePrefix 59 = .ok (.invokevirtual 76, 3) := by decide +kernel
theorem d_CO_codePrefix_62 : decode b_CO_codePrefix 62 = .ok (.goto 104, 3) := by decide +kernel
theorem d_CO_codePrefix_65 : decode b_CO_codePrefix 65 = .ok (.aload_n 1, 1) := by decide +kernel
theorem d_CO_codePrefix_66 : decode b_CO_codePrefix 66 = .ok (.getstatic 242, 3) := by decide +kernel
theorem d_CO_codePrefix_69 : decode b_CO_codePrefix 69 = .ok (.if_acmp .ne 48, 3) := by decide +kernel
theorem d_CO_codePrefix_72 : decode b_CO_codePrefix 72 = .ok (.aload_n 0, 1) := by decide +kernel
theorem d_CO_codePrefix_73 : decode b_CO_codePrefix 73 = .ok (.getfield 26, 3) := by decide +kernel
theorem d_CO_codePrefix_76 : decode b_CO_codePrefix 76 = .ok (.aload_n 0, 1) := by decide +kernel
theorem d_CO_codePrefix_77 : decode b_CO_codePrefix 77 = .ok (.invokevirtual 224, 3) := by decide +kernel
theorem d_CO_codePrefix_80 : decode b_CO_codePrefix 80 = .ok (.iload 4, 2) := by decide +kernel
theorem d_CO_codePrefix_82 : decode b_CO_codePrefix 82 = .ok (.ifCond .eq 8, 3) := by decide +kernel
theorem d_CO_codePrefix_85 : decode b_CO_codePrefix 85 = .ok (.bipush 65, 2) := by decide +kernel
theorem d_CO_codePrefix_87 : decode b_CO_codePrefix 87 = .ok (.goto 5, 3) := by decide +kernel
theorem d_CO_codePrefix_90 : decode b_CO_codePrefix 90 = .ok (.bipush 66, 2) := by decide +kernel
theorem d_CO_codePrefix_92 : decode b_CO_codePrefix 92 = .ok (.invokevirtual 245, 3) := by decide +kernel
theorem d_CO_codePrefix_95 : decode b_CO_codePrefix 95 = .ok (.aload_n 0, 1) := by decide +kernel
theorem d_CO_codePrefix_96 : decode b_CO_codePrefix 96 = .ok (.getfield 26, 3) := by decide +kernel
theorem d_CO_codePrefix_99 : decode b_CO_codePrefix 99 = .ok (.iload 4, 2) := by decide +kernel
theorem d_CO_codePrefix_101 : decode b_CO_codePrefix 101 = .ok (.ifCond .eq 8, 3) := by decide +kernel
theorem d_CO_codePrefix_104 : decode b_CO_codePrefix 104 = .ok (.bipush 107, 2) := by decide +kernel
theorem d_CO_codePrefix_106 : decode b_CO_codePrefix 106 = .ok (.goto 5, 3) := by decide +kernel
theorem d_CO_codePrefix_109 : decode b_CO_codePrefix 109 = .ok (.bipush 125, 2) := by decide +kernel
theorem d_CO_codePrefix_111 : decode b_CO_codePrefix 111 = .ok (.invokevirtual 76, 3) := by decide +kernel
theorem d_CO_codePrefix_114 : decode b_CO_codePrefix 114 = .ok (.goto 52, 3) := by decide +kernel
theorem d_CO_codePrefix_117 : decode b_CO_codePrefix 117 = .ok (.aload_n 0, 1) := by decide +kernel
theorem d_CO_codePrefix_118 : decode b_CO_codePrefix 118 = .ok (.getfield 26, 3) := by decide +kernel
theorem d_CO_codePrefix_121 : decode b_CO_codePrefix 121 = .ok (.iload 4, 2) := by decide +kernel
theorem d_CO_codePrefix_123 : decode b_CO_codePrefix 123 = .ok (.ifCond .eq 8, 3) := by decide +kernel
theorem d_CO_codePrefix_126 : decode b_CO_codePrefix 126 = .ok (.bipush 65, 2) := by decide +kernel
theorem d_CO_codePrefix_128 : decode b_CO_codePrefix 128 = .ok (.goto 5, 3) := by decide +kernel
theorem d_CO_codePrefix_131 : decode b_CO_codePrefix 131 = .ok (.bipush 66, 2) := by decide +kernel
theorem d_CO_codePrefix_133 : decode b_CO_codePrefix 133 = .ok (.invokevirtual 76, 3) := by decide +kernel
theorem d_CO_codePrefix_136 : decode b_CO_codePrefix 136 = .ok (.aload_n 0, 1) := by decide +kernel
theorem d_CO_codePrefix_137 : decode b_CO_codePrefix 137 = .ok (.getfield 26, 3) := by decide +kernel
theorem d_CO_codePrefix_140 : decode b_CO_codePrefix 140 = .ok (.ldc2_w 248, 3) := by decide +kernel
theorem d_CO_codePrefix_143 : decode b_CO_codePrefix 143 = .ok (.invokevirtual 179, 3) := by decide +kernel
theorem d_CO_codePrefix_146 : decode b_CO_codePrefix 146 = .ok (.aload_n 0, 1) := by decide +kernel
theorem d_CO_codePrefix_147 : decode b_CO_codePrefix 147 = .ok (.getfield 26, 3) := by decide +kernel
theorem d_CO_codePrefix_150 : decode b_CO_codePrefix 150 = .ok (.iload 4, 2) := by decide +kernel
theorem d_CO_codePrefix_152 : decode b_CO_codePrefix 152 = .ok (.ifCond .eq 8, 3) := by decide +kernel
theorem d_CO_codePrefix_155 : decode b_CO_codePrefix 155 = .ok (.bipush 115, 2) := by decide +kernel
theorem d_CO_codePrefix_157 : decode b_CO_codePrefix 157 = .ok (.goto 6, 3) := by decide +kernel
theorem d_CO_codePrefix_160 : decode b_CO_codePrefix 160 = .ok (.sipush 133, 3) := by decide +kernel
theorem d_CO_codePrefix_163 : decode b_CO_codePrefix 163 = .ok (.invokevirtual 76, 3) := by decide +kernel
theorem d_CO_codePrefix_166 : decode b_CO_codePrefix 166 = .ok (.aload_n 0, 1) := by decide +kernel
theorem d_CO_codePrefix_167 : decode b_CO_codePrefix 167 = .ok (.iload_n 3, 1) := by decide +kernel
theorem d_CO_codePrefix_168 : decode b_CO_codePrefix 168 = .ok (.invokevirtual 183, 3) := by decide +kernel
theorem d_CO_codePrefix_171 : decode b_CO_codePrefix 171 = .ok (.return_, 1) := by decide +kernel
theorem kM_CO_245 : Cond.methodLink R_CO 245 y_BR_change ∈ lw_g := in_g 1150 (by decide +kernel) rfl
theorem kV_BR_change : Cond.instanceMethod y_BR_change ∈ lw_g := in_g 1151 (by decide +kernel) rfl
theorem kS_BR_change : Cond.selects R_BR y_BR_change y_BR_change ∈ lw_g := in_g 1152 (by decide +kernel) rfl
theorem kM_CO_179 : Cond.methodLink R_CO 179 y_BR_putSigned ∈ lw_g := in_g 1111 (by decide +kernel) rfl
theorem kV_BR_putSigned : Cond.instanceMethod y_BR_putSigned ∈ lw_g := in_g 1112 (by decide +kernel) rfl
theorem kS_BR_putSigned : Cond.selects R_BR y_BR_putSigned y_BR_putSigned ∈ lw_g := in_g 1113 (by decide +kernel) rfl
theorem kF_CO_239 : Cond.fieldLink R_CO 239 "WaferForge$Sign" "NOT" "LWaferForge$Sign;" ∈ lw_g := in_g 1148 (by decide +kernel) rfl
theorem kF_CO_242 : Cond.fieldLink R_CO 242 "WaferForge$Sign" "MINUS" "LWaferForge$Sign;" ∈ lw_g := in_g 1149 (by decide +kernel) rfl
theorem kL_CO_248 : Cond.constantLong R_CO 248 (-1) ∈ lw_g := in_g 1154 (by decide +kernel) rfl
abbrev at_CO_codePrefix (dC : Nat → ClassId) (dI : Nat → Nat → Nat) (sa : Nat → Nat) (h0 pr kn lt pe to bo cs se gl fu pa pf sf pk pg pp pz pv pr_scanner_r pr_waiting_r pr_waitingPlaces_r bob : Nat) (cpe cbob : ClassId) (h0_localCount : Int32) (h0_gives : Int32) (h0_depth : Int32) (h0_loopDepth : Int32) (pr_stepCount : Int32) (pr_open : Int32) (pr_twoSides : Int32) (pr_waitingCount : Int32) (A : Nat → Prop) (u : (Nat → Int32) × (Nat → Int32) × Int32 × Int32 × Int32 × Int32) (t : State) : Prop := match u with | (gbob, gpe, bo_length, h0_pendingCount, pr_place, pr_reason) => va_P (dC, dI) cls [(h0, .inr (2, [.ref pr, .ref kn, .ref lt, .int h0_localCount, .ref pe, .int h0_pendingCount, .int h0_gives, .int h0_depth, .int h0_loopDepth, .ref to, .ref bo, .ref cs, .ref se])), (pr, .inr (6, [.ref gl, .ref fu, .ref pa, .ref pf, .ref sf, .ref pk, .ref pg, .ref pp, .ref pz, .ref pv, .int pr_reason, .int pr_place, .ref pr_scanner_r, .int pr_stepCount, .int pr_open, .int pr_twoSides, .ref pr_waiting_r, .ref pr_waitingPlaces_r, .int pr_waitingCount])), (pe, .inl (cpe, 680, .inl gpe)), (bo, .inr (1, [.ref bob, .int bo_length])), (bob, .inl (cbob, 8192, .inl gbob))] t.heap ∧ va_K (dC, dI) cls [(cpe, .int), (cbob, .byte)] t ∧ va_D A [(h0, .inr (2, [.ref pr, .ref kn, .ref lt, .int h0_localCount, .ref pe, .int h0_pendingCount, .int h0_gives, .int h0_depth, .int h0_loopDepth, .ref to, .ref bo, .ref cs, .ref se])), (pr, .inr (6, [.ref gl, .ref fu, .ref pa, .ref pf, .ref sf, .ref pk, .ref pg, .ref pp, .ref pz, .ref pv, .int pr_reason, .int pr_place, .ref pr_scanner_r, .int pr_stepCount, .int pr_open, .int pr_twoSides, .ref pr_waiting_r, .ref pr_waitingPlaces_r, .int pr_waitingCount])), (pe, .inl (cpe, 680, .inl gpe)), (bo, .inr (1, [.ref bob, .int bo_length])), (bob, .inl (cbob, 8192, .inl gbob))]
set_option maxHeartbeats 4000000 in
set_option maxRecDepth 100000 in
theorem c_CO_codePrefix (l : Launch) (hlt : l.stackTraces = false) (dC : Nat → ClassId) (dI : Nat → Nat → Nat) (sz : Nat) (sa : Nat → Nat) (h0 pr kn lt pe to bo cs se gl fu pa pf sf pk pg pp pz pv pr_scanner_r pr_waiting_r pr_waitingPlaces_r bob : Nat) (cpe cbob : ClassId) (h0_localCount : Int32) (h0_pendingCount : Int32) (h0_gives : Int32) (h0_depth : Int32) (h0_loopDepth : Int32) (pr_reason : Int32) (pr_place : Int32) (pr_stepCount : Int32) (pr_open : Int32) (pr_twoSides : Int32) (pr_waitingCount : Int32) (gpe : Nat → Int32) (bo_length : Int32) (gbob : Nat → Int32)  (b_h0_pendingCount : 0 ≤ h0_pendingCount.toInt ∧ h0_pendingCount.toInt ≤ 680) (b_bo_length : 0 ≤ bo_length.toInt ∧ bo_length.toInt ≤ 8192) (ka : Nat) (p1 : Int32) (ba0 : ka < 55) (hpc : 1 ≤ h0_pendingCount.toInt) (hka : ka = 34 ∨ ka = 35 ∨ ka = 51) (hmi : bx (ka = 51 → 2 ≤ h0_pendingCount.toInt ∧ 0 ≤ (gpe (h0_pendingCount.toInt - 2).toNat).toInt ∧ (gpe (h0_pendingCount.toInt - 2).toNat).toInt < bo_length.toInt)) (hbo : bo_length.toInt + 13 ≤ 8192) : tz_Met l y_CO_codePrefix w_CO_codePrefix ({ frames := 7, cells := 1, slots := 6, locals := 112 }) (va_Pc [.ref h0, .ref (sg sa ka), .int p1] (fun U => U.heap.size = sz ∧ va_P (dC, dI) cls [(h0, .inr (2, [.ref pr, .ref kn, .ref lt, .int h0_localCount, .ref pe, .int h0_pendingCount, .int h0_gives, .int h0_depth, .int h0_loopDepth, .ref to, .ref bo, .ref cs, .ref se])), (pr, .inr (6, [.ref gl, .ref fu, .ref pa, .ref pf, .ref sf, .ref pk, .ref pg, .ref pp, .ref pz, .ref pv, .int pr_reason, .int pr_place, .ref pr_scanner_r, .int pr_stepCount, .int pr_open, .int pr_twoSides, .ref pr_waiting_r, .ref pr_waitingPlaces_r, .int pr_waitingCount])), (pe, .inl (cpe, 680, .inl gpe)), (bo, .inr (1, [.ref bob, .int bo_length])), (bob, .inl (cbob, 8192, .inl gbob))] U.heap ∧ va_K (dC, dI) cls [(cpe, .int), (cbob, .byte)] U ∧ va_D (fun _ => True) [(h0, .inr (2, [.ref pr, .ref kn, .ref lt, .int h0_localCount, .ref pe, .int h0_pendingCount, .int h0_gives, .int h0_depth, .int h0_loopDepth, .ref to, .ref bo, .ref cs, .ref se])), (pr, .inr (6, [.ref gl, .ref fu, .ref pa, .ref pf, .ref sf, .ref pk, .ref pg, .ref pp, .ref pz, .ref pv, .int pr_reason, .int pr_place, .ref pr_scanner_r, .int pr_stepCount, .int pr_open, .int pr_twoSides, .ref pr_waiting_r, .ref pr_waitingPlaces_r, .int pr_waitingCount])), (pe, .inl (cpe, 680, .inl gpe)), (bo, .inr (1, [.ref bob, .int bo_length])), (bob, .inl (cbob, 8192, .inl gbob))] ∧ sw sa (va_A [(h0, .inr (2, [.ref pr, .ref kn, .ref lt, .int h0_localCount, .ref pe, .int h0_pendingCount, .int h0_gives, .int h0_depth, .int h0_loopDepth, .ref to, .ref bo, .ref cs, .ref se])), (pr, .inr (6, [.ref gl, .ref fu, .ref pa, .ref pf, .ref sf, .ref pk, .ref pg, .ref pp, .ref pz, .ref pv, .int pr_reason, .int pr_place, .ref pr_scanner_r, .int pr_stepCount, .int pr_open, .int pr_twoSides, .ref pr_waiting_r, .ref pr_waitingPlaces_r, .int pr_waitingCount])), (pe, .inl (cpe, 680, .inl gpe)), (bo, .inr (1, [.ref bob, .int bo_length])), (bob, .inl (cbob, 8192, .inl gbob))] sz) U U.heap)) (tq_Q (tq_v (fun (u : (Nat → Int32) × (Nat → Int32) × Int32 × Int32 × Int32 × Int32) => match u with | (gbob2, gpe2, bo_length2, h0_pendingCount2, pr_place2, pr_reason2) => (0 ≤ bo_length2.toInt ∧ bo_length2.toInt ≤ 8192) ∧ (0 ≤ h0_pendingCount2.toInt ∧ h0_pendingCount2.toInt ≤ 680) ∧ ((gpe (h0_pendingCount.toInt - 1).toNat).toInt ≠ 64 ∧ (ka = 34 → h0_pendingCount2.toInt = h0_pendingCount.toInt ∧ (gpe (h0_pendingCount.toInt - 1).toNat).toInt = 127 ∧ gpe2 = upd gpe (h0_pendingCount.toInt - 1).toNat (gpe (h0_pendingCount.toInt - 1).toNat) ∧ bo_length2.toInt = bo_length.toInt + 1 ∧ bl gbob2 bo_length2.toNatClampNeg = bl gbob bo_length.toNatClampNeg ++ [69]) ∧ (ka = 35 → h0_pendingCount2.toInt = h0_pendingCount.toInt ∧ gpe2 = upd gpe (h0_pendingCount.toInt - 1).toNat (gpe (h0_pendingCount.toInt - 1).toNat) ∧ bo_length2.toInt = bo_length.toInt + 3 ∧ ∃ a b : Nat, (a = 65 ∨ a = 66) ∧ (b = 115 ∨ b = 133) ∧ bl gbob2 bo_length2.toNatClampNeg = bl gbob bo_length.toNatClampNeg ++ [a, 127, b]) ∧ (ka = 51 → h0_pendingCount2.toInt = h0_pendingCount.toInt - 1 ∧ gpe2 = upd gpe (h0_pendingCount.toInt - 2).toNat (gpe (h0_pendingCount.toInt - 1).toNat) ∧ bo_length2.toInt = bo_length.toInt + 1 ∧ ∃ a b : Nat, (a = 65 ∨ a = 66) ∧ (b = 107 ∨ b = 125) ∧ bl gbob2 bo_length2.toNatClampNeg = (bl gbob bo_length.toNatClampNeg).set (gpe (h0_pendingCount.toInt - 2).toNat).toInt.toNat a ++ [b]))) "java/lang/UnsupportedOperationException" (fun (u : (Nat → Int32) × (Nat → Int32) × Int32 × Int32 × Int32 × Int32) => match u with | (gbob2, gpe2, bo_length2, h0_pendingCount2, pr_place2, pr_reason2) => (0 ≤ bo_length2.toInt ∧ bo_length2.toInt ≤ 8192) ∧ (0 ≤ h0_pendingCount2.toInt ∧ h0_pendingCount2.toInt ≤ 680))) (at_CO_codePrefix dC dI sa h0 pr kn lt pe to bo cs se gl fu pa pf sf pk pg pp pz pv pr_scanner_r pr_waiting_r pr_waitingPlaces_r bob cpe cbob h0_localCount h0_gives h0_depth h0_loopDepth pr_stepCount pr_open pr_twoSides pr_waitingCount (va_A [(h0, .inr (2, [.ref pr, .ref kn, .ref lt, .int h0_localCount, .ref pe, .int h0_pendingCount, .int h0_gives, .int h0_depth, .int h0_loopDepth, .ref to, .ref bo, .ref cs, .ref se])), (pr, .inr (6, [.ref gl, .ref fu, .ref pa, .ref pf, .ref sf, .ref pk, .ref pg, .ref pp, .ref pz, .ref pv, .int pr_reason, .int pr_place, .ref pr_scanner_r, .int pr_stepCount, .int pr_open, .int pr_twoSides, .ref pr_waiting_r, .ref pr_waitingPlaces_r, .int pr_waitingCount])), (pe, .inl (cpe, 680, .inl gpe)), (bo, .inr (1, [.ref bob, .int bo_length])), (bob, .inl (cbob, 8192, .inl gbob))] sz)) (va_A [(h0, .inr (2, [.ref pr, .ref kn, .ref lt, .int h0_localCount, .ref pe, .int h0_pendingCount, .int h0_gives, .int h0_depth, .int h0_loopDepth, .ref to, .ref bo, .ref cs, .ref se])), (pr, .inr (6, [.ref gl, .ref fu, .ref pa, .ref pf, .ref sf, .ref pk, .ref pg, .ref pp, .ref pz, .ref pv, .int pr_reason, .int pr_place, .ref pr_scanner_r, .int pr_stepCount, .int pr_open, .int pr_twoSides, .ref pr_waiting_r, .ref pr_waitingPlaces_r, .int pr_waitingCount])), (pe, .inl (cpe, 680, .inl gpe)), (bo, .inr (1, [.ref bob, .int bo_length])), (bob, .inl (cbob, 8192, .inl gbob))] sz)) (tz_k 0 0 1 6) (va_A [(h0, .inr (2, [.ref pr, .ref kn, .ref lt, .int h0_localCount, .ref pe, .int h0_pendingCount, .int h0_gives, .int h0_depth, .int h0_loopDepth, .ref to, .ref bo, .ref cs, .ref se])), (pr, .inr (6, [.ref gl, .ref fu, .ref pa, .ref pf, .ref sf, .ref pk, .ref pg, .ref pp, .ref pz, .ref pv, .int pr_reason, .int pr_place, .ref pr_scanner_r, .int pr_stepCount, .int pr_open, .int pr_twoSides, .ref pr_waiting_r, .ref pr_waitingPlaces_r, .int pr_waitingCount])), (pe, .inl (cpe, 680, .inl gpe)), (bo, .inr (1, [.ref bob, .int bo_length])), (bob, .inl (cbob, 8192, .inl gbob))] sz) := by
  refine tz_ofW (cc := b_CO_codePrefix) (maxL := 5) (ret := none) (by decide) rfl ?_
  intro p e s m args below meth c s₁ B hml hno hv
  obtain ⟨rfl, hsz, hP, hK, hD0, hSW⟩ := hv
  have hx := B.exec
  have hb := B.bytes
  have hr := B.returns
  have hts0 := atoms_spec (ws := w_CO_codePrefix) B.pre
  have hts : ∀ w ∈ lw_g, w.before _ s = true := fun w h => hts0 w (List.mem_cons_of_mem _ h)
  have hown : s.vm.findClass R_CO = some m.cls := findClass_of_methodNamed B.named
  have hlocks := B.notSynchronized
  clear hts0
  subst hsz
  have hD := hD0.self (sz := s.heap.size)
  generalize hAe : va_A [(h0, .inr (2, [.ref pr, .ref kn, .ref lt, .int h0_localCount, .ref pe, .int h0_pendingCount, .int h0_gives, .int h0_depth, .int h0_loopDepth, .ref to, .ref bo, .ref cs, .ref se])), (pr, .inr (6, [.ref gl, .ref fu, .ref pa, .ref pf, .ref sf, .ref pk, .ref pg, .ref pp, .ref pz, .ref pv, .int pr_reason, .int pr_place, .ref pr_scanner_r, .int pr_stepCount, .int pr_open, .int pr_twoSides, .ref pr_waiting_r, .ref pr_waitingPlaces_r, .int pr_waitingCount])), (pe, .inl (cpe, 680, .inl gpe)), (bo, .inr (1, [.ref bob, .int bo_length])), (bob, .inl (cbob, 8192, .inl gbob))] s.heap.size = A at hD hSW ⊢
  have hA : ∀ q : Nat, s.heap.size ≤ q → A q := fun q h => by rw [← hAe]; exact Or.inr h
  clear hAe
  have hP : va_P (dC, dI) cls [(h0, .inr (2, [.ref pr, .ref kn, .ref lt, .int h0_localCount, .ref pe, .int h0_pendingCount, .int h0_gives, .int h0_depth, .int h0_loopDepth, .ref to, .ref bo, .ref cs, .ref se])), (pr, .inr (6, [.ref gl, .ref fu, .ref pa, .ref pf, .ref sf, .ref pk, .ref pg, .ref pp, .ref pz, .ref pv, .int pr_reason, .int pr_place, .ref pr_scanner_r, .int pr_stepCount, .int pr_open, .int pr_twoSides, .ref pr_waiting_r, .ref pr_waitingPlaces_r, .int pr_waitingCount])), (pe, .inl (cpe, 680, .inl gpe)), (bo, .inr (1, [.ref bob, .int bo_length])), (bob, .inl (cbob, 8192, .inl gbob))] s.heap := hP
  have hl := lv_entry ([.ref h0, .ref (sg sa ka), .int p1]) (n := 5) (Nat.le_of_ble_eq_true rfl)
  rw [lg_entry_eq]
  generalize (lg_sl ([.ref h0, .ref (sg sa ka), .int p1]) ++ List.replicate (5 - (lg_sl ([.ref h0, .ref (sg sa ka), .int p1])).length) Slot.unset).toArray = ls at hl ⊢
  have hl : lv_has ls 5 [(0, .ref h0), (1, .ref (sg sa ka)), (2, .int p1)] := hl
  have k0 : (0 : Int32).toInt = 0 := by decide
  refine w_gen (A := A) hP (fun H locs hP hS => ?_)
  have k1 : (1 : Int32).toInt = 1 := by decide
  have k3 : (3 : Int32).toInt = 3 := by decide
  have k64 : (64 : Int32).toInt = 64 := by decide
  have k65 : (65 : Int32).toInt = 65 := by decide
  have k66 : (66 : Int32).toInt = 66 := by decide
  have k69 : (69 : Int32).toInt = 69 := by decide
  have k107 : (107 : Int32).toInt = 107 := by decide
  have k115 : (115 : Int32).toInt = 115 := by decide
  have k125 : (125 : Int32).toInt = 125 := by decide
  have k127 : (127 : Int32).toInt = 127 := by decide
  have k133 : (133 : Int32).toInt = 133 := by decide
  have lo_p1 := i32_lo p1
  have hi_p1 := i32_hi p1
  refine lv_aload_n hx hb d_CO_codePrefix_0 rfl (lv_at hl 0 rfl) ?_
  have hPc := hP.sub (ws' := [(h0, .inr (2, [.ref pr, .ref kn, .ref lt, .int h0_localCount, .ref pe, .int h0_pendingCount, .int h0_gives, .int h0_depth, .int h0_loopDepth, .ref to, .ref bo, .ref cs, .ref se])), (pe, .inl (cpe, 680, .inl gpe))]) [0, 2] rfl
  have hDc := hD.sub (ws' := [(h0, .inr (2, [.ref pr, .ref kn, .ref lt, .int h0_localCount, .ref pe, .int h0_pendingCount, .int h0_gives, .int h0_depth, .int h0_loopDepth, .ref to, .ref bo, .ref cs, .ref se])), (pe, .inl (cpe, 680, .inl gpe))]) [0, 2] (by decide) rfl
  have hKc := hK.sub (tys' := [(cpe, .int)]) [0] rfl
  have hFc := va_free (wc := [(h0, .inr (2, [.ref pr, .ref kn, .ref lt, .int h0_localCount, .ref pe, .int h0_pendingCount, .int h0_gives, .int h0_depth, .int h0_loopDepth, .ref to, .ref bo, .ref cs, .ref se])), (pe, .inl (cpe, 680, .inl gpe))]) hD hS hA [0, 2] rfl
  refine va_calli (va_runV (As := []) (rest := []) ⟨hx, hb, hml, hown, hts⟩ (c_CO_pop l dC dI H.size h0 pr kn lt pe to bo cs se cpe h0_localCount h0_pendingCount h0_gives h0_depth h0_loopDepth gpe (b_h0_pendingCount) (by (try dsimp only) <;> omega)) (cwV 0 hts (gV kM_CO_224 kV_CO_pop kS_CO_pop kI_CO kC_CO_pop) rfl rfl rfl (by decide +kernel) ⟨Nat.le_of_ble_eq_true rfl, Nat.le_of_ble_eq_true rfl⟩) ⟨fun a U g mk z => by obtain ⟨z0, z1, zP, zK, zD⟩ := z; exact ⟨z0, z1, zP, va_K.moved (u := U) (U := U.calling g mk a) (Vm.Alike.refl U.vm) zK, zD⟩, va_recv hKc hPc (ci := 2) (q0 := 0) rfl rfl, fun U hU hW => ⟨rfl, by rw [hU], by rw [hU]; exact hPc, va_K.moved hW.alike hKc, hDc.weaken (fun _ _ _ _ => trivial)⟩⟩ rfl rfl hl.1 rfl (lv_room (Nat.le_of_ble_eq_true rfl)) d_CO_codePrefix_1 ⟨(Nat.zero_le _), (Nat.zero_le _)⟩) hS (fun q _ h => hFc q h) hFc (fun r1 u t H1 locs ht hvm hw hB hz1 hk1 hS => ?_)
  obtain ⟨n2, rfl⟩ : ∃ z, z = u := ⟨_, rfl⟩
  try dsimp only at hw
  obtain ⟨bn2, xr1⟩ := hw
  try clear hw
  obtain ⟨hP1, hK1, hD1⟩ := hB
  rw [ht] at hP1
  obtain ⟨hP, hD⟩ := va_join (wr := [(pr, .inr (6, [.ref gl, .ref fu, .ref pa, .ref pf, .ref sf, .ref pk, .ref pg, .ref pp, .ref pz, .ref pv, .int pr_reason, .int pr_place, .ref pr_scanner_r, .int pr_stepCount, .int pr_open, .int pr_twoSides, .ref pr_waiting_r, .ref pr_waitingPlaces_r, .int pr_waitingCount])), (bo, .inr (1, [.ref bob, .int bo_length])), (bob, .inl (cbob, 8192, .inl gbob))]) (w1 := [(h0, .inr (2, [.ref pr, .ref kn, .ref lt, .int h0_localCount, .ref pe, .int n2, .int h0_gives, .int h0_depth, .int h0_loopDepth, .ref to, .ref bo, .ref cs, .ref se])), (pe, .inl (cpe, 680, .inl gpe))]) hP hD [0, 2] [1, 3, 4] rfl rfl (by decide) (by decide) hk1 hFc hP1 hD1
  clear hPc hDc hKc hFc hz1 hk1 hP1 hK1 hD1
  generalize H1 = H at hP hS ⊢
  have hP : va_P (dC, dI) cls [(pr, .inr (6, [.ref gl, .ref fu, .ref pa, .ref pf, .ref sf, .ref pk, .ref pg, .ref pp, .ref pz, .ref pv, .int pr_reason, .int pr_place, .ref pr_scanner_r, .int pr_stepCount, .int pr_open, .int pr_twoSides, .ref pr_waiting_r, .ref pr_waitingPlaces_r, .int pr_waitingCount])), (bo, .inr (1, [.ref bob, .int bo_length])), (bob, .inl (cbob, 8192, .inl gbob)), (h0, .inr (2, [.ref pr, .ref kn, .ref lt, .int h0_localCount, .ref pe, .int n2, .int h0_gives, .int h0_depth, .int h0_loopDepth, .ref to, .ref bo, .ref cs, .ref se])), (pe, .inl (cpe, 680, .inl gpe))] H := hP
  have hD : va_D A [(pr, .inr (6, [.ref gl, .ref fu, .ref pa, .ref pf, .ref sf, .ref pk, .ref pg, .ref pp, .ref pz, .ref pv, .int pr_reason, .int pr_place, .ref pr_scanner_r, .int pr_stepCount, .int pr_open, .int pr_twoSides, .ref pr_waiting_r, .ref pr_waitingPlaces_r, .int pr_waitingCount])), (bo, .inr (1, [.ref bob, .int bo_length])), (bob, .inl (cbob, 8192, .inl gbob)), (h0, .inr (2, [.ref pr, .ref kn, .ref lt, .int h0_localCount, .ref pe, .int n2, .int h0_gives, .int h0_depth, .int h0_loopDepth, .ref to, .ref bo, .ref cs, .ref se])), (pe, .inl (cpe, 680, .inl gpe))] := hD
  refine lv_istore_n (lv' := [(3, .int r1), (0, .ref h0), (1, .ref (sg sa ka)), (2, .int p1)]) hx hb d_CO_codePrefix_4 rfl hl (by decide) rfl (fun ls hl => ?_)
  refine lv_iload_n hx hb d_CO_codePrefix_5 rfl (lv_at hl 0 rfl) ?_
  refine lv_bipush (v := 64) hx hb d_CO_codePrefix_6 (by decide) ?_
  refine w_cut (pc2 := 24) (σ := Unit) (fun u H locs ls => match u with | _ => va_P (dC, dI) cls [(pr, .inr (6, [.ref gl, .ref fu, .ref pa, .ref pf, .ref sf, .ref pk, .ref pg, .ref pp, .ref pz, .ref pv, .int pr_reason, .int pr_place, .ref pr_scanner_r, .int pr_stepCount, .int pr_open, .int pr_twoSides, .ref pr_waiting_r, .ref pr_waitingPlaces_r, .int pr_waitingCount])), (bo, .inr (1, [.ref bob, .int bo_length])), (bob, .inl (cbob, 8192, .inl gbob)), (h0, .inr (2, [.ref pr, .ref kn, .ref lt, .int h0_localCount, .ref pe, .int n2, .int h0_gives, .int h0_depth, .int h0_loopDepth, .ref to, .ref bo, .ref cs, .ref se])), (pe, .inl (cpe, 680, .inl gpe))] H ∧ va_D A [(pr, .inr (6, [.ref gl, .ref fu, .ref pa, .ref pf, .ref sf, .ref pk, .ref pg, .ref pp, .ref pz, .ref pv, .int pr_reason, .int pr_place, .ref pr_scanner_r, .int pr_stepCount, .int pr_open, .int pr_twoSides, .ref pr_waiting_r, .ref pr_waitingPlaces_r, .int pr_waitingCount])), (bo, .inr (1, [.ref bob, .int bo_length])), (bob, .inl (cbob, 8192, .inl gbob)), (h0, .inr (2, [.ref pr, .ref kn, .ref lt, .int h0_localCount, .ref pe, .int n2, .int h0_gives, .int h0_depth, .int h0_loopDepth, .ref to, .ref bo, .ref cs, .ref se])), (pe, .inl (cpe, 680, .inl gpe))] ∧ va_S A s.heap H locs ∧ lv_has ls 5 [(0, .ref h0), (2, .int p1)]) (fun u => match u with | _ => []) ?_ (fun jn24 => ?_)
  · intro u H locs ls hI
    obtain ⟨hP, hD, hS, hl⟩ := hI
    refine lv_aload_n hx hb d_CO_codePrefix_24 rfl (lv_at hl 0 rfl) ?_
    refine va_get (D := (dC, dI)) (ci := 2) (v := .ref pr) (C := R_CO) (T := F_CO) (N := 13) hx hb hts i_CO hown hK hP 3 rfl rfl 0 (by decide) (hts _ kF_CO_36) (fun _ h9 => h9) rfl d_CO_codePrefix_25 ?_
    refine lv_iconst (v := 3) hx hb d_CO_codePrefix_28 (by decide) ?_
    refine lv_iload_n hx hb d_CO_codePrefix_29 rfl (lv_at hl 1 rfl) ?_
    have hPc := hP.sub (ws' := [(pr, .inr (6, [.ref gl, .ref fu, .ref pa, .ref pf, .ref sf, .ref pk, .ref pg, .ref pp, .ref pz, .ref pv, .int pr_reason, .int pr_place, .ref pr_scanner_r, .int pr_stepCount, .int pr_open, .int pr_twoSides, .ref pr_waiting_r, .ref pr_waitingPlaces_r, .int pr_waitingCount]))]) [0] rfl
    have hDc := hD.sub (ws' := [(pr, .inr (6, [.ref gl, .ref fu, .ref pa, .ref pf, .ref sf, .ref pk, .ref pg, .ref pp, .ref pz, .ref pv, .int pr_reason, .int pr_place, .ref pr_scanner_r, .int pr_stepCount, .int pr_open, .int pr_twoSides, .ref pr_waiting_r, .ref pr_waitingPlaces_r, .int pr_waitingCount]))]) [0] (by decide) rfl
    have hKc := hK.sub (tys' := []) [] rfl
    have hFc := va_free (wc := [(pr, .inr (6, [.ref gl, .ref fu, .ref pa, .ref pf, .ref sf, .ref pk, .ref pg, .ref pp, .ref pz, .ref pv, .int pr_reason, .int pr_place, .ref pr_scanner_r, .int pr_stepCount, .int pr_open, .int pr_twoSides, .ref pr_waiting_r, .ref pr_waitingPlaces_r, .int pr_waitingCount]))]) hD hS hA [0] rfl
    refine tq_callv (tz_runV (As := [.int 3, .int p1]) (rest := []) ⟨hx, hb, hml, hown, hts⟩ (c_PR_refuse l hlt dC dI H.size sa pr gl fu pa pf sf pk pg pp pz pv pr_scanner_r pr_waiting_r pr_waitingPlaces_r pr_reason pr_place pr_stepCount pr_open pr_twoSides pr_waitingCount 3 p1) (cwV 2 hts (gV kM_CO_105 kV_PR_refuse kS_PR_refuse kI_PR kC_PR_refuse) rfl rfl rfl (by decide +kernel) ⟨Nat.le_of_ble_eq_true rfl, Nat.le_of_ble_eq_true rfl⟩) ⟨fun a U g mk z => by obtain ⟨z0, z1, zP, zK, zD, zS⟩ := z; exact ⟨z0, z1, zP, va_K.moved (u := U) (U := U.calling g mk a) (Vm.Alike.refl U.vm) zK, zD, sw.same (u := U) (U := U.calling g mk a) rfl zS⟩, va_recv hKc hPc (ci := 6) (q0 := 0) rfl rfl, fun U hU hW => ⟨rfl, by rw [hU], by rw [hU]; exact hPc, va_K.moved hW.alike hKc, hDc.weaken (fun _ _ _ _ => trivial), hSW.call hS hFc hW hU⟩⟩ rfl rfl hl.1 rfl (lv_room (Nat.le_of_ble_eq_true rfl)) d_CO_codePrefix_30 ⟨Nat.le_of_ble_eq_true rfl, Nat.le_of_ble_eq_true rfl⟩) hS (fun q _ h => hFc q h) hFc (fun u t H1 locs ht hvm hw hB hz1 hk1 hS => ?_) (fun xx u t H1 locs ht hvm hw hXX hB hz1 hk1 hS => ?_)
    rotate_left
    · skip
      obtain ⟨n4, n5⟩ := u
      try dsimp only at hw
      obtain ⟨hP1, hK1, hD1⟩ := hB
      rw [ht] at hP1
      obtain ⟨hP, hD⟩ := va_join (wr := [(bo, .inr (1, [.ref bob, .int bo_length])), (bob, .inl (cbob, 8192, .inl gbob)), (h0, .inr (2, [.ref pr, .ref kn, .ref lt, .int h0_localCount, .ref pe, .int n2, .int h0_gives, .int h0_depth, .int h0_loopDepth, .ref to, .ref bo, .ref cs, .ref se])), (pe, .inl (cpe, 680, .inl gpe))]) (w1 := [(pr, .inr (6, [.ref gl, .ref fu, .ref pa, .ref pf, .ref sf, .ref pk, .ref pg, .ref pp, .ref pz, .ref pv, .int n5, .int n4, .ref pr_scanner_r, .int pr_stepCount, .int pr_open, .int pr_twoSides, .ref pr_waiting_r, .ref pr_waitingPlaces_r, .int pr_waitingCount]))]) hP hD [0] [1, 2, 3, 4] rfl rfl (by decide) (by decide) hk1 hFc hP1 hD1
      have hP : va_P (dC, dI) cls [(bo, .inr (1, [.ref bob, .int bo_length])), (bob, .inl (cbob, 8192, .inl gbob)), (h0, .inr (2, [.ref pr, .ref kn, .ref lt, .int h0_localCount, .ref pe, .int n2, .int h0_gives, .int h0_depth, .int h0_loopDepth, .ref to, .ref bo, .ref cs, .ref se])), (pe, .inl (cpe, 680, .inl gpe)), (pr, .inr (6, [.ref gl, .ref fu, .ref pa, .ref pf, .ref sf, .ref pk, .ref pg, .ref pp, .ref pz, .ref pv, .int n5, .int n4, .ref pr_scanner_r, .int pr_stepCount, .int pr_open, .int pr_twoSides, .ref pr_waiting_r, .ref pr_waitingPlaces_r, .int pr_waitingCount]))] H1 := hP
      have hD : va_D A [(bo, .inr (1, [.ref bob, .int bo_length])), (bob, .inl (cbob, 8192, .inl gbob)), (h0, .inr (2, [.ref pr, .ref kn, .ref lt, .int h0_localCount, .ref pe, .int n2, .int h0_gives, .int h0_depth, .int h0_loopDepth, .ref to, .ref bo, .ref cs, .ref se])), (pe, .inl (cpe, 680, .inl gpe)), (pr, .inr (6, [.ref gl, .ref fu, .ref pa, .ref pf, .ref sf, .ref pk, .ref pg, .ref pp, .ref pz, .ref pv, .int n5, .int n4, .ref pr_scanner_r, .int pr_stepCount, .int pr_open, .int pr_twoSides, .ref pr_waiting_r, .ref pr_waitingPlaces_r, .int pr_waitingCount]))] := hD
      have hP9 := hP.sub (ws' := [(h0, .inr (2, [.ref pr, .ref kn, .ref lt, .int h0_localCount, .ref pe, .int n2, .int h0_gives, .int h0_depth, .int h0_loopDepth, .ref to, .ref bo, .ref cs, .ref se])), (pr, .inr (6, [.ref gl, .ref fu, .ref pa, .ref pf, .ref sf, .ref pk, .ref pg, .ref pp, .ref pz, .ref pv, .int n5, .int n4, .ref pr_scanner_r, .int pr_stepCount, .int pr_open, .int pr_twoSides, .ref pr_waiting_r, .ref pr_waitingPlaces_r, .int pr_waitingCount])), (pe, .inl (cpe, 680, .inl gpe)), (bo, .inr (1, [.ref bob, .int bo_length])), (bob, .inl (cbob, 8192, .inl gbob))]) [2, 4, 3, 0, 1] rfl
      have hD9 := hD.sub (ws' := [(h0, .inr (2, [.ref pr, .ref kn, .ref lt, .int h0_localCount, .ref pe, .int n2, .int h0_gives, .int h0_depth, .int h0_loopDepth, .ref to, .ref bo, .ref cs, .ref se])), (pr, .inr (6, [.ref gl, .ref fu, .ref pa, .ref pf, .ref sf, .ref pk, .ref pg, .ref pp, .ref pz, .ref pv, .int n5, .int n4, .ref pr_scanner_r, .int pr_stepCount, .int pr_open, .int pr_twoSides, .ref pr_waiting_r, .ref pr_waitingPlaces_r, .int pr_waitingCount])), (pe, .inl (cpe, 680, .inl gpe)), (bo, .inr (1, [.ref bob, .int bo_length])), (bob, .inl (cbob, 8192, .inl gbob))]) [2, 4, 3, 0, 1] (by decide) rfl
      exact tz_leave rfl hno hlocks (fun t ht hW => ⟨⟨(gbob, gpe, bo_length, n2, n4, n5), ⟨⟨b_bo_length, bn2⟩, by rw [ht]; exact hXX.moved hW.alike⟩, by rw [ht]; exact hP9, va_K.moved hW.alike hK, hD9⟩, hS.F ht⟩) hS.2.2
    exact (show False from hw).elim
  · skip
    refine lv_icmp_eq (tgt := 24) hx hb d_CO_codePrefix_8 (by decide) (fun c8 => ?_) (fun c8 => ?_)
    · have q8 := eqI c8
      exact jn24 () _ _ _ ⟨hP, hD, hS, lv_sub hl [1, 3] rfl⟩
    · have q8 := neI c8
      refine lv_aload_n hx hb d_CO_codePrefix_11 rfl (lv_at hl 2 rfl) ?_
      refine va_gets (C := "WaferForge$Sign") (n := "NOT") (d := "LWaferForge$Sign;") (v := .ref (sg sa 34)) hx hb ((hSW.2.2.2.1.1 34 (by decide)).1) hS hown (hts _ kF_CO_239) (fun _ h9 => h9) d_CO_codePrefix_12 ?_
      refine w_cut (pc2 := 33) (σ := Unit) (fun u H locs ls => match u with | _ => (r1.toInt ≠ 64 ∧ (ka = 34 → r1.toInt = 127)) ∧ va_P (dC, dI) cls [(pr, .inr (6, [.ref gl, .ref fu, .ref pa, .ref pf, .ref sf, .ref pk, .ref pg, .ref pp, .ref pz, .ref pv, .int pr_reason, .int pr_place, .ref pr_scanner_r, .int pr_stepCount, .int pr_open, .int pr_twoSides, .ref pr_waiting_r, .ref pr_waitingPlaces_r, .int pr_waitingCount])), (bo, .inr (1, [.ref bob, .int bo_length])), (bob, .inl (cbob, 8192, .inl gbob)), (h0, .inr (2, [.ref pr, .ref kn, .ref lt, .int h0_localCount, .ref pe, .int n2, .int h0_gives, .int h0_depth, .int h0_loopDepth, .ref to, .ref bo, .ref cs, .ref se])), (pe, .inl (cpe, 680, .inl gpe))] H ∧ va_D A [(pr, .inr (6, [.ref gl, .ref fu, .ref pa, .ref pf, .ref sf, .ref pk, .ref pg, .ref pp, .ref pz, .ref pv, .int pr_reason, .int pr_place, .ref pr_scanner_r, .int pr_stepCount, .int pr_open, .int pr_twoSides, .ref pr_waiting_r, .ref pr_waitingPlaces_r, .int pr_waitingCount])), (bo, .inr (1, [.ref bob, .int bo_length])), (bob, .inl (cbob, 8192, .inl gbob)), (h0, .inr (2, [.ref pr, .ref kn, .ref lt, .int h0_localCount, .ref pe, .int n2, .int h0_gives, .int h0_depth, .int h0_loopDepth, .ref to, .ref bo, .ref cs, .ref se])), (pe, .inl (cpe, 680, .inl gpe))] ∧ va_S A s.heap H locs ∧ lv_has ls 5 [(0, .ref h0), (1, .ref (sg sa ka)), (3, .int r1)]) (fun u => match u with | _ => []) ?_ (fun jn33 => ?_)
      · intro u H locs ls hI
        obtain ⟨y33, hP, hD, hS, hl⟩ := hI
        refine lv_iload_n hx hb d_CO_codePrefix_33 rfl (lv_at hl 2 rfl) ?_
        refine lv_bipush (v := 127) hx hb d_CO_codePrefix_34 (by decide) ?_
        refine w_cut (pc2 := 44) (σ := Int32) (fun u H locs ls => match u with | j44_s0 => (j44_s0 = 0 ∨ j44_s0 = 1) ∧ va_P (dC, dI) cls [(pr, .inr (6, [.ref gl, .ref fu, .ref pa, .ref pf, .ref sf, .ref pk, .ref pg, .ref pp, .ref pz, .ref pv, .int pr_reason, .int pr_place, .ref pr_scanner_r, .int pr_stepCount, .int pr_open, .int pr_twoSides, .ref pr_waiting_r, .ref pr_waitingPlaces_r, .int pr_waitingCount])), (bo, .inr (1, [.ref bob, .int bo_length])), (bob, .inl (cbob, 8192, .inl gbob)), (h0, .inr (2, [.ref pr, .ref kn, .ref lt, .int h0_localCount, .ref pe, .int n2, .int h0_gives, .int h0_depth, .int h0_loopDepth, .ref to, .ref bo, .ref cs, .ref se])), (pe, .inl (cpe, 680, .inl gpe))] H ∧ va_D A [(pr, .inr (6, [.ref gl, .ref fu, .ref pa, .ref pf, .ref sf, .ref pk, .ref pg, .ref pp, .ref pz, .ref pv, .int pr_reason, .int pr_place, .ref pr_scanner_r, .int pr_stepCount, .int pr_open, .int pr_twoSides, .ref pr_waiting_r, .ref pr_waitingPlaces_r, .int pr_waitingCount])), (bo, .inr (1, [.ref bob, .int bo_length])), (bob, .inl (cbob, 8192, .inl gbob)), (h0, .inr (2, [.ref pr, .ref kn, .ref lt, .int h0_localCount, .ref pe, .int n2, .int h0_gives, .int h0_depth, .int h0_loopDepth, .ref to, .ref bo, .ref cs, .ref se])), (pe, .inl (cpe, 680, .inl gpe))] ∧ va_S A s.heap H locs ∧ lv_has ls 5 [(0, .ref h0), (1, .ref (sg sa ka)), (3, .int r1)]) (fun u => match u with | j44_s0 => [.int j44_s0]) ?_ (fun jn44 => ?_)
        · intro u H locs ls hI
          obtain ⟨j44_s0, rfl⟩ : ∃ z, z = u := ⟨_, rfl⟩
          obtain ⟨b_j44_s0, hP, hD, hS, hl⟩ := hI
          have tj44_s0 := b01 b_j44_s0
          refine lv_istore (lv' := [(4, .int j44_s0), (0, .ref h0), (1, .ref (sg sa ka)), (3, .int r1)]) hx hb d_CO_codePrefix_44 hl (by decide) rfl (fun ls hl => ?_)
          refine lv_aload_n hx hb d_CO_codePrefix_46 rfl (lv_at hl 2 rfl) ?_
          refine va_gets (C := "WaferForge$Sign") (n := "NOT") (d := "LWaferForge$Sign;") (v := .ref (sg sa 34)) hx hb ((hSW.2.2.2.1.1 34 (by decide)).1) hS hown (hts _ kF_CO_239) (fun _ h9 => h9) d_CO_codePrefix_47 ?_
          refine lv_acmp_ne (rx := some (sg sa ka)) (ry := some (sg sa 34)) (tgt := 65) hx hb d_CO_codePrefix_50 (by decide) (fun c50 => ?_) (fun c50 => ?_)
          · have q50 : ka ≠ 34 := fun z => c50 (by rw [z])
            refine lv_aload_n hx hb d_CO_codePrefix_65 rfl (lv_at hl 2 rfl) ?_
            refine va_gets (C := "WaferForge$Sign") (n := "MINUS") (d := "LWaferForge$Sign;") (v := .ref (sg sa 51)) hx hb ((hSW.2.2.2.1.1 51 (by decide)).1) hS hown (hts _ kF_CO_242) (fun _ h9 => h9) d_CO_codePrefix_66 ?_
            refine lv_acmp_ne (rx := some (sg sa ka)) (ry := some (sg sa 51)) (tgt := 117) hx hb d_CO_codePrefix_69 (by decide) (fun c69 => ?_) (fun c69 => ?_)
            · have q69 : ka ≠ 51 := fun z => c69 (by rw [z])
              refine lv_aload_n hx hb d_CO_codePrefix_117 rfl (lv_at hl 1 rfl) ?_
              refine va_get (D := (dC, dI)) (ci := 2) (v := .ref bo) (C := R_CO) (T := F_CO) (N := 13) hx hb hts i_CO hown hK hP 3 rfl rfl 10 (by decide) (hts _ kF_CO_26) (fun _ h9 => h9) rfl d_CO_codePrefix_118 ?_
              refine lv_iload hx hb d_CO_codePrefix_121 (lv_at hl 0 rfl) ?_
              refine w_cut (pc2 := 133) (σ := Int32) (fun u H locs ls => match u with | j133_s0 => (j133_s0 = 65 ∨ j133_s0 = 66) ∧ va_P (dC, dI) cls [(pr, .inr (6, [.ref gl, .ref fu, .ref pa, .ref pf, .ref sf, .ref pk, .ref pg, .ref pp, .ref pz, .ref pv, .int pr_reason, .int pr_place, .ref pr_scanner_r, .int pr_stepCount, .int pr_open, .int pr_twoSides, .ref pr_waiting_r, .ref pr_waitingPlaces_r, .int pr_waitingCount])), (bo, .inr (1, [.ref bob, .int bo_length])), (bob, .inl (cbob, 8192, .inl gbob)), (h0, .inr (2, [.ref pr, .ref kn, .ref lt, .int h0_localCount, .ref pe, .int n2, .int h0_gives, .int h0_depth, .int h0_loopDepth, .ref to, .ref bo, .ref cs, .ref se])), (pe, .inl (cpe, 680, .inl gpe))] H ∧ va_D A [(pr, .inr (6, [.ref gl, .ref fu, .ref pa, .ref pf, .ref sf, .ref pk, .ref pg, .ref pp, .ref pz, .ref pv, .int pr_reason, .int pr_place, .ref pr_scanner_r, .int pr_stepCount, .int pr_open, .int pr_twoSides, .ref pr_waiting_r, .ref pr_waitingPlaces_r, .int pr_waitingCount])), (bo, .inr (1, [.ref bob, .int bo_length])), (bob, .inl (cbob, 8192, .inl gbob)), (h0, .inr (2, [.ref pr, .ref kn, .ref lt, .int h0_localCount, .ref pe, .int n2, .int h0_gives, .int h0_depth, .int h0_loopDepth, .ref to, .ref bo, .ref cs, .ref se])), (pe, .inl (cpe, 680, .inl gpe))] ∧ va_S A s.heap H locs ∧ lv_has ls 5 [(0, .ref h0), (3, .int r1), (4, .int j44_s0)]) (fun u => match u with | j133_s0 => [.int j133_s0, .ref bo]) ?_ (fun jn133 => ?_)
              · intro u H locs ls hI
                obtain ⟨j133_s0, rfl⟩ : ∃ z, z = u := ⟨_, rfl⟩
                obtain ⟨y133, hP, hD, hS, hl⟩ := hI
                have bb133 : bn j133_s0 = 65 ∨ bn j133_s0 = 66 := by rcases y133 with z | z <;> rw [z]; exact Or.inl rfl; exact Or.inr rfl
                have rg133 : j133_s0.toInt = 65 ∨ j133_s0.toInt = 66 := by rcases y133 with z | z <;> rw [z]; exact Or.inl rfl; exact Or.inr rfl
                have hPc := hP.sub (ws' := [(bo, .inr (1, [.ref bob, .int bo_length])), (bob, .inl (cbob, 8192, .inl gbob))]) [1, 2] rfl
                have hDc := hD.sub (ws' := [(bo, .inr (1, [.ref bob, .int bo_length])), (bob, .inl (cbob, 8192, .inl gbob))]) [1, 2] (by decide) rfl
                have hKc := hK.sub (tys' := [(cbob, .byte)]) [1] rfl
                have hFc := va_free (wc := [(bo, .inr (1, [.ref bob, .int bo_length])), (bob, .inl (cbob, 8192, .inl gbob))]) hD hS hA [1, 2] rfl
                refine va_callv (va_runV (As := [.int j133_s0]) (rest := []) ⟨hx, hb, hml, hown, hts⟩ (c_BR_put l dC dI bo bob H.size cbob 8192 bo_length gbob (by omega) (by omega) (by omega) j133_s0) (cwV 1 hts (gV kM_CO_76 kV_BR_put kS_BR_put kI_BR kC_BR_put) rfl rfl rfl (by decide +kernel) ⟨Nat.le_of_ble_eq_true rfl, Nat.le_of_ble_eq_true rfl⟩) ⟨fun a U g mk z => by obtain ⟨z0, z1, zP, zK, zD⟩ := z; exact ⟨z0, z1, zP, va_K.moved (u := U) (U := U.calling g mk a) (Vm.Alike.refl U.vm) zK, zD⟩, va_recv hKc hPc (ci := 1) (q0 := 0) rfl rfl, fun U hU hW => ⟨rfl, by rw [hU], by rw [hU]; exact hPc, va_K.moved hW.alike hKc, hDc.weaken (fun _ _ _ _ => trivial)⟩⟩ rfl rfl hl.1 rfl (lv_room (Nat.le_of_ble_eq_true rfl)) d_CO_codePrefix_133 ⟨(Nat.zero_le _), (Nat.zero_le _)⟩) hS (fun q _ h => hFc q h) hFc (fun u t H1 locs ht hvm hw hB hz1 hk1 hS => ?_)
                obtain ⟨n7, f8⟩ := u
                try dsimp only at hw
                have tn7 := br_put_in (by omega) (by omega) (by omega) hw
                have bn7 := br_put_bl (by omega) (by omega) (by omega) hw
                obtain ⟨hP1, hK1, hD1⟩ := hB
                rw [ht] at hP1
                obtain ⟨hP, hD⟩ := va_join (wr := [(pr, .inr (6, [.ref gl, .ref fu, .ref pa, .ref pf, .ref sf, .ref pk, .ref pg, .ref pp, .ref pz, .ref pv, .int pr_reason, .int pr_place, .ref pr_scanner_r, .int pr_stepCount, .int pr_open, .int pr_twoSides, .ref pr_waiting_r, .ref pr_waitingPlaces_r, .int pr_waitingCount])), (h0, .inr (2, [.ref pr, .ref kn, .ref lt, .int h0_localCount, .ref pe, .int n2, .int h0_gives, .int h0_depth, .int h0_loopDepth, .ref to, .ref bo, .ref cs, .ref se])), (pe, .inl (cpe, 680, .inl gpe))]) (w1 := [(bo, .inr (1, [.ref bob, .int n7])), (bob, .inl (cbob, 8192, .inl f8))]) hP hD [1, 2] [0, 3, 4] rfl rfl (by decide) (by decide) hk1 hFc hP1 hD1
                clear hPc hDc hKc hFc hz1 hk1 hP1 hK1 hD1
                generalize H1 = H at hP hS ⊢
                have hP : va_P (dC, dI) cls [(pr, .inr (6, [.ref gl, .ref fu, .ref pa, .ref pf, .ref sf, .ref pk, .ref pg, .ref pp, .ref pz, .ref pv, .int pr_reason, .int pr_place, .ref pr_scanner_r, .int pr_stepCount, .int pr_open, .int pr_twoSides, .ref pr_waiting_r, .ref pr_waitingPlaces_r, .int pr_waitingCount])), (h0, .inr (2, [.ref pr, .ref kn, .ref lt, .int h0_localCount, .ref pe, .int n2, .int h0_gives, .int h0_depth, .int h0_loopDepth, .ref to, .ref bo, .ref cs, .ref se])), (pe, .inl (cpe, 680, .inl gpe)), (bo, .inr (1, [.ref bob, .int n7])), (bob, .inl (cbob, 8192, .inl f8))] H := hP
                have hD : va_D A [(pr, .inr (6, [.ref gl, .ref fu, .ref pa, .ref pf, .ref sf, .ref pk, .ref pg, .ref pp, .ref pz, .ref pv, .int pr_reason, .int pr_place, .ref pr_scanner_r, .int pr_stepCount, .int pr_open, .int pr_twoSides, .ref pr_waiting_r, .ref pr_waitingPlaces_r, .int pr_waitingCount])), (h0, .inr (2, [.ref pr, .ref kn, .ref lt, .int h0_localCount, .ref pe, .int n2, .int h0_gives, .int h0_depth, .int h0_loopDepth, .ref to, .ref bo, .ref cs, .ref se])), (pe, .inl (cpe, 680, .inl gpe)), (bo, .inr (1, [.ref bob, .int n7])), (bob, .inl (cbob, 8192, .inl f8))] := hD
                refine lv_aload_n hx hb d_CO_codePrefix_136 rfl (lv_at hl 0 rfl) ?_
                refine va_get (D := (dC, dI)) (ci := 2) (v := .ref bo) (C := R_CO) (T := F_CO) (N := 13) hx hb hts i_CO hown hK hP 1 rfl rfl 10 (by decide) (hts _ kF_CO_26) (fun _ h9 => h9) rfl d_CO_codePrefix_137 ?_
                refine lv_ldc2 hx hb hown (hts _ kL_CO_248) d_CO_codePrefix_140 ?_
                refine lv_topl (fun x9 ex9 => ?_)
                have tx9 : x9.toInt = -1 := by rw [ex9]; decide
                have hPc := hP.sub (ws' := [(bo, .inr (1, [.ref bob, .int n7])), (bob, .inl (cbob, 8192, .inl f8))]) [3, 4] rfl
                have hDc := hD.sub (ws' := [(bo, .inr (1, [.ref bob, .int n7])), (bob, .inl (cbob, 8192, .inl f8))]) [3, 4] (by decide) rfl
                have hKc := hK.sub (tys' := [(cbob, .byte)]) [1] rfl
                have hFc := va_free (wc := [(bo, .inr (1, [.ref bob, .int n7])), (bob, .inl (cbob, 8192, .inl f8))]) hD hS hA [3, 4] rfl
                refine va_callv (va_runV (As := [.long x9]) (rest := []) ⟨hx, hb, hml, hown, hts⟩ (c_BR_putSigned l dC dI H.size bo bob cbob n7 8192 f8 x9 (by (try dsimp only) <;> omega)) (cwV 1 hts (gV kM_CO_179 kV_BR_putSigned kS_BR_putSigned kI_BR kC_BR_putSigned) rfl rfl rfl (by decide +kernel) ⟨Nat.le_of_ble_eq_true rfl, Nat.le_of_ble_eq_true rfl⟩) ⟨fun a U g mk z => by obtain ⟨z0, z1, zP, zK, zD⟩ := z; exact ⟨z0, z1, zP, va_K.moved (u := U) (U := U.calling g mk a) (Vm.Alike.refl U.vm) zK, zD⟩, va_recv hKc hPc (ci := 1) (q0 := 0) rfl rfl, fun U hU hW => ⟨rfl, by rw [hU], by rw [hU]; exact hPc, va_K.moved hW.alike hKc, hDc.weaken (fun _ _ _ _ => trivial)⟩⟩ rfl rfl hl.1 rfl (lv_room (Nat.le_of_ble_eq_true rfl)) d_CO_codePrefix_143 ⟨(Nat.zero_le _), (Nat.zero_le _)⟩) hS (fun q _ h => hFc q h) hFc (fun u t H1 locs ht hvm hw hB hz1 hk1 hS => ?_)
                obtain ⟨n11, n12⟩ := u
                try dsimp only at hw
                have xr10 := hw
                try clear hw
                have l143 : (sleb 10 x9.toInt).length = 1 := by rw [tx9]; decide
                have s143 : sleb 10 x9.toInt = [127] := by rw [tx9]; decide
                obtain ⟨hP1, hK1, hD1⟩ := hB
                rw [ht] at hP1
                obtain ⟨hP, hD⟩ := va_join (wr := [(pr, .inr (6, [.ref gl, .ref fu, .ref pa, .ref pf, .ref sf, .ref pk, .ref pg, .ref pp, .ref pz, .ref pv, .int pr_reason, .int pr_place, .ref pr_scanner_r, .int pr_stepCount, .int pr_open, .int pr_twoSides, .ref pr_waiting_r, .ref pr_waitingPlaces_r, .int pr_waitingCount])), (h0, .inr (2, [.ref pr, .ref kn, .ref lt, .int h0_localCount, .ref pe, .int n2, .int h0_gives, .int h0_depth, .int h0_loopDepth, .ref to, .ref bo, .ref cs, .ref se])), (pe, .inl (cpe, 680, .inl gpe))]) (w1 := [(bo, .inr (1, [.ref bob, .int n12])), (bob, .inl (cbob, 8192, .inl n11))]) hP hD [3, 4] [0, 1, 2] rfl rfl (by decide) (by decide) hk1 hFc hP1 hD1
                clear hPc hDc hKc hFc hz1 hk1 hP1 hK1 hD1
                generalize H1 = H at hP hS ⊢
                have hP : va_P (dC, dI) cls [(pr, .inr (6, [.ref gl, .ref fu, .ref pa, .ref pf, .ref sf, .ref pk, .ref pg, .ref pp, .ref pz, .ref pv, .int pr_reason, .int pr_place, .ref pr_scanner_r, .int pr_stepCount, .int pr_open, .int pr_twoSides, .ref pr_waiting_r, .ref pr_waitingPlaces_r, .int pr_waitingCount])), (h0, .inr (2, [.ref pr, .ref kn, .ref lt, .int h0_localCount, .ref pe, .int n2, .int h0_gives, .int h0_depth, .int h0_loopDepth, .ref to, .ref bo, .ref cs, .ref se])), (pe, .inl (cpe, 680, .inl gpe)), (bo, .inr (1, [.ref bob, .int n12])), (bob, .inl (cbob, 8192, .inl n11))] H := hP
                have hD : va_D A [(pr, .inr (6, [.ref gl, .ref fu, .ref pa, .ref pf, .ref sf, .ref pk, .ref pg, .ref pp, .ref pz, .ref pv, .int pr_reason, .int pr_place, .ref pr_scanner_r, .int pr_stepCount, .int pr_open, .int pr_twoSides, .ref pr_waiting_r, .ref pr_waitingPlaces_r, .int pr_waitingCount])), (h0, .inr (2, [.ref pr, .ref kn, .ref lt, .int h0_localCount, .ref pe, .int n2, .int h0_gives, .int h0_depth, .int h0_loopDepth, .ref to, .ref bo, .ref cs, .ref se])), (pe, .inl (cpe, 680, .inl gpe)), (bo, .inr (1, [.ref bob, .int n12])), (bob, .inl (cbob, 8192, .inl n11))] := hD
                refine lv_aload_n hx hb d_CO_codePrefix_146 rfl (lv_at hl 0 rfl) ?_
                refine va_get (D := (dC, dI)) (ci := 2) (v := .ref bo) (C := R_CO) (T := F_CO) (N := 13) hx hb hts i_CO hown hK hP 1 rfl rfl 10 (by decide) (hts _ kF_CO_26) (fun _ h9 => h9) rfl d_CO_codePrefix_147 ?_
                refine lv_iload hx hb d_CO_codePrefix_150 (lv_at hl 2 rfl) ?_
                refine w_cut (pc2 := 163) (σ := Int32) (fun u H locs ls => match u with | j163_s0 => (j163_s0 = 115 ∨ j163_s0 = 133) ∧ va_P (dC, dI) cls [(pr, .inr (6, [.ref gl, .ref fu, .ref pa, .ref pf, .ref sf, .ref pk, .ref pg, .ref pp, .ref pz, .ref pv, .int pr_reason, .int pr_place, .ref pr_scanner_r, .int pr_stepCount, .int pr_open, .int pr_twoSides, .ref pr_waiting_r, .ref pr_waitingPlaces_r, .int pr_waitingCount])), (h0, .inr (2, [.ref pr, .ref kn, .ref lt, .int h0_localCount, .ref pe, .int n2, .int h0_gives, .int h0_depth, .int h0_loopDepth, .ref to, .ref bo, .ref cs, .ref se])), (pe, .inl (cpe, 680, .inl gpe)), (bo, .inr (1, [.ref bob, .int n12])), (bob, .inl (cbob, 8192, .inl n11))] H ∧ va_D A [(pr, .inr (6, [.ref gl, .ref fu, .ref pa, .ref pf, .ref sf, .ref pk, .ref pg, .ref pp, .ref pz, .ref pv, .int pr_reason, .int pr_place, .ref pr_scanner_r, .int pr_stepCount, .int pr_open, .int pr_twoSides, .ref pr_waiting_r, .ref pr_waitingPlaces_r, .int pr_waitingCount])), (h0, .inr (2, [.ref pr, .ref kn, .ref lt, .int h0_localCount, .ref pe, .int n2, .int h0_gives, .int h0_depth, .int h0_loopDepth, .ref to, .ref bo, .ref cs, .ref se])), (pe, .inl (cpe, 680, .inl gpe)), (bo, .inr (1, [.ref bob, .int n12])), (bob, .inl (cbob, 8192, .inl n11))] ∧ va_S A s.heap H locs ∧ lv_has ls 5 [(0, .ref h0), (3, .int r1)]) (fun u => match u with | j163_s0 => [.int j163_s0, .ref bo]) ?_ (fun jn163 => ?_)
                · intro u H locs ls hI
                  obtain ⟨j163_s0, rfl⟩ : ∃ z, z = u := ⟨_, rfl⟩
                  obtain ⟨y163, hP, hD, hS, hl⟩ := hI
                  have bb163 : bn j163_s0 = 115 ∨ bn j163_s0 = 133 := by rcases y163 with z | z <;> rw [z]; exact Or.inl rfl; exact Or.inr rfl
                  have rg163 : j163_s0.toInt = 115 ∨ j163_s0.toInt = 133 := by rcases y163 with z | z <;> rw [z]; exact Or.inl rfl; exact Or.inr rfl
                  have hPc := hP.sub (ws' := [(bo, .inr (1, [.ref bob, .int n12])), (bob, .inl (cbob, 8192, .inl n11))]) [3, 4] rfl
                  have hDc := hD.sub (ws' := [(bo, .inr (1, [.ref bob, .int n12])), (bob, .inl (cbob, 8192, .inl n11))]) [3, 4] (by decide) rfl
                  have hKc := hK.sub (tys' := [(cbob, .byte)]) [1] rfl
                  have hFc := va_free (wc := [(bo, .inr (1, [.ref bob, .int n12])), (bob, .inl (cbob, 8192, .inl n11))]) hD hS hA [3, 4] rfl
                  refine va_callv (va_runV (As := [.int j163_s0]) (rest := []) ⟨hx, hb, hml, hown, hts⟩ (c_BR_put l dC dI bo bob H.size cbob 8192 n12 n11 (by omega) (by omega) (by omega) j163_s0) (cwV 1 hts (gV kM_CO_76 kV_BR_put kS_BR_put kI_BR kC_BR_put) rfl rfl rfl (by decide +kernel) ⟨Nat.le_of_ble_eq_true rfl, Nat.le_of_ble_eq_true rfl⟩) ⟨fun a U g mk z => by obtain ⟨z0, z1, zP, zK, zD⟩ := z; exact ⟨z0, z1, zP, va_K.moved (u := U) (U := U.calling g mk a) (Vm.Alike.refl U.vm) zK, zD⟩, va_recv hKc hPc (ci := 1) (q0 := 0) rfl rfl, fun U hU hW => ⟨rfl, by rw [hU], by rw [hU]; exact hPc, va_K.moved hW.alike hKc, hDc.weaken (fun _ _ _ _ => trivial)⟩⟩ rfl rfl hl.1 rfl (lv_room (Nat.le_of_ble_eq_true rfl)) d_CO_codePrefix_163 ⟨(Nat.zero_le _), (Nat.zero_le _)⟩) hS (fun q _ h => hFc q h) hFc (fun u t H1 locs ht hvm hw hB hz1 hk1 hS => ?_)
                  obtain ⟨n14, f15⟩ := u
                  try dsimp only at hw
                  have tn14 := br_put_in (by omega) (by omega) (by omega) hw
                  have bn14 := br_put_bl (by omega) (by omega) (by omega) hw
                  obtain ⟨hP1, hK1, hD1⟩ := hB
                  rw [ht] at hP1
                  obtain ⟨hP, hD⟩ := va_join (wr := [(pr, .inr (6, [.ref gl, .ref fu, .ref pa, .ref pf, .ref sf, .ref pk, .ref pg, .ref pp, .ref pz, .ref pv, .int pr_reason, .int pr_place, .ref pr_scanner_r, .int pr_stepCount, .int pr_open, .int pr_twoSides, .ref pr_waiting_r, .ref pr_waitingPlaces_r, .int pr_waitingCount])), (h0, .inr (2, [.ref pr, .ref kn, .ref lt, .int h0_localCount, .ref pe, .int n2, .int h0_gives, .int h0_depth, .int h0_loopDepth, .ref to, .ref bo, .ref cs, .ref se])), (pe, .inl (cpe, 680, .inl gpe))]) (w1 := [(bo, .inr (1, [.ref bob, .int n14])), (bob, .inl (cbob, 8192, .inl f15))]) hP hD [3, 4] [0, 1, 2] rfl rfl (by decide) (by decide) hk1 hFc hP1 hD1
                  clear hPc hDc hKc hFc hz1 hk1 hP1 hK1 hD1
                  generalize H1 = H at hP hS ⊢
                  have hP : va_P (dC, dI) cls [(pr, .inr (6, [.ref gl, .ref fu, .ref pa, .ref pf, .ref sf, .ref pk, .ref pg, .ref pp, .ref pz, .ref pv, .int pr_reason, .int pr_place, .ref pr_scanner_r, .int pr_stepCount, .int pr_open, .int pr_twoSides, .ref pr_waiting_r, .ref pr_waitingPlaces_r, .int pr_waitingCount])), (h0, .inr (2, [.ref pr, .ref kn, .ref lt, .int h0_localCount, .ref pe, .int n2, .int h0_gives, .int h0_depth, .int h0_loopDepth, .ref to, .ref bo, .ref cs, .ref se])), (pe, .inl (cpe, 680, .inl gpe)), (bo, .inr (1, [.ref bob, .int n14])), (bob, .inl (cbob, 8192, .inl f15))] H := hP
                  have hD : va_D A [(pr, .inr (6, [.ref gl, .ref fu, .ref pa, .ref pf, .ref sf, .ref pk, .ref pg, .ref pp, .ref pz, .ref pv, .int pr_reason, .int pr_place, .ref pr_scanner_r, .int pr_stepCount, .int pr_open, .int pr_twoSides, .ref pr_waiting_r, .ref pr_waitingPlaces_r, .int pr_waitingCount])), (h0, .inr (2, [.ref pr, .ref kn, .ref lt, .int h0_localCount, .ref pe, .int n2, .int h0_gives, .int h0_depth, .int h0_loopDepth, .ref to, .ref bo, .ref cs, .ref se])), (pe, .inl (cpe, 680, .inl gpe)), (bo, .inr (1, [.ref bob, .int n14])), (bob, .inl (cbob, 8192, .inl f15))] := hD
                  refine lv_aload_n hx hb d_CO_codePrefix_166 rfl (lv_at hl 0 rfl) ?_
                  refine lv_iload_n hx hb d_CO_codePrefix_167 rfl (lv_at hl 1 rfl) ?_
                  have hPc := hP.sub (ws' := [(h0, .inr (2, [.ref pr, .ref kn, .ref lt, .int h0_localCount, .ref pe, .int n2, .int h0_gives, .int h0_depth, .int h0_loopDepth, .ref to, .ref bo, .ref cs, .ref se])), (pe, .inl (cpe, 680, .inl gpe))]) [1, 2] rfl
                  have hDc := hD.sub (ws' := [(h0, .inr (2, [.ref pr, .ref kn, .ref lt, .int h0_localCount, .ref pe, .int n2, .int h0_gives, .int h0_depth, .int h0_loopDepth, .ref to, .ref bo, .ref cs, .ref se])), (pe, .inl (cpe, 680, .inl gpe))]) [1, 2] (by decide) rfl
                  have hKc := hK.sub (tys' := [(cpe, .int)]) [0] rfl
                  have hFc := va_free (wc := [(h0, .inr (2, [.ref pr, .ref kn, .ref lt, .int h0_localCount, .ref pe, .int n2, .int h0_gives, .int h0_depth, .int h0_loopDepth, .ref to, .ref bo, .ref cs, .ref se])), (pe, .inl (cpe, 680, .inl gpe))]) hD hS hA [1, 2] rfl
                  refine va_callv (va_runV (As := [.int r1]) (rest := []) ⟨hx, hb, hml, hown, hts⟩ (c_CO_push l dC dI H.size h0 pr kn lt pe to bo cs se cpe h0_localCount n2 h0_gives h0_depth h0_loopDepth gpe (bn2) r1 (by (try dsimp only) <;> omega)) (cwV 1 hts (gV kM_CO_183 kV_CO_push kS_CO_push kI_CO kC_CO_push) rfl rfl rfl (by decide +kernel) ⟨Nat.le_of_ble_eq_true rfl, Nat.le_of_ble_eq_true rfl⟩) ⟨fun a U g mk z => by obtain ⟨z0, z1, zP, zK, zD⟩ := z; exact ⟨z0, z1, zP, va_K.moved (u := U) (U := U.calling g mk a) (Vm.Alike.refl U.vm) zK, zD⟩, va_recv hKc hPc (ci := 2) (q0 := 0) rfl rfl, fun U hU hW => ⟨rfl, by rw [hU], by rw [hU]; exact hPc, va_K.moved hW.alike hKc, hDc.weaken (fun _ _ _ _ => trivial)⟩⟩ rfl rfl hl.1 rfl (lv_room (Nat.le_of_ble_eq_true rfl)) d_CO_codePrefix_168 ⟨(Nat.zero_le _), (Nat.zero_le _)⟩) hS (fun q _ h => hFc q h) hFc (fun u t H1 locs ht hvm hw hB hz1 hk1 hS => ?_)
                  obtain ⟨n17, n18⟩ := u
                  try dsimp only at hw
                  obtain ⟨bn18, xr16⟩ := hw
                  try clear hw
                  obtain ⟨hP1, hK1, hD1⟩ := hB
                  rw [ht] at hP1
                  obtain ⟨hP, hD⟩ := va_join (wr := [(pr, .inr (6, [.ref gl, .ref fu, .ref pa, .ref pf, .ref sf, .ref pk, .ref pg, .ref pp, .ref pz, .ref pv, .int pr_reason, .int pr_place, .ref pr_scanner_r, .int pr_stepCount, .int pr_open, .int pr_twoSides, .ref pr_waiting_r, .ref pr_waitingPlaces_r, .int pr_waitingCount])), (bo, .inr (1, [.ref bob, .int n14])), (bob, .inl (cbob, 8192, .inl f15))]) (w1 := [(h0, .inr (2, [.ref pr, .ref kn, .ref lt, .int h0_localCount, .ref pe, .int n18, .int h0_gives, .int h0_depth, .int h0_loopDepth, .ref to, .ref bo, .ref cs, .ref se])), (pe, .inl (cpe, 680, .inl n17))]) hP hD [1, 2] [0, 3, 4] rfl rfl (by decide) (by decide) hk1 hFc hP1 hD1
                  clear hPc hDc hKc hFc hz1 hk1 hP1 hK1 hD1
                  generalize H1 = H at hP hS ⊢
                  have hP : va_P (dC, dI) cls [(pr, .inr (6, [.ref gl, .ref fu, .ref pa, .ref pf, .ref sf, .ref pk, .ref pg, .ref pp, .ref pz, .ref pv, .int pr_reason, .int pr_place, .ref pr_scanner_r, .int pr_stepCount, .int pr_open, .int pr_twoSides, .ref pr_waiting_r, .ref pr_waitingPlaces_r, .int pr_waitingCount])), (bo, .inr (1, [.ref bob, .int n14])), (bob, .inl (cbob, 8192, .inl f15)), (h0, .inr (2, [.ref pr, .ref kn, .ref lt, .int h0_localCount, .ref pe, .int n18, .int h0_gives, .int h0_depth, .int h0_loopDepth, .ref to, .ref bo, .ref cs, .ref se])), (pe, .inl (cpe, 680, .inl n17))] H := hP
                  have hD : va_D A [(pr, .inr (6, [.ref gl, .ref fu, .ref pa, .ref pf, .ref sf, .ref pk, .ref pg, .ref pp, .ref pz, .ref pv, .int pr_reason, .int pr_place, .ref pr_scanner_r, .int pr_stepCount, .int pr_open, .int pr_twoSides, .ref pr_waiting_r, .ref pr_waitingPlaces_r, .int pr_waitingCount])), (bo, .inr (1, [.ref bob, .int n14])), (bob, .inl (cbob, 8192, .inl f15)), (h0, .inr (2, [.ref pr, .ref kn, .ref lt, .int h0_localCount, .ref pe, .int n18, .int h0_gives, .int h0_depth, .int h0_loopDepth, .ref to, .ref bo, .ref cs, .ref se])), (pe, .inl (cpe, 680, .inl n17))] := hD
                  have hP9 := hP.sub (ws' := [(h0, .inr (2, [.ref pr, .ref kn, .ref lt, .int h0_localCount, .ref pe, .int n18, .int h0_gives, .int h0_depth, .int h0_loopDepth, .ref to, .ref bo, .ref cs, .ref se])), (pr, .inr (6, [.ref gl, .ref fu, .ref pa, .ref pf, .ref sf, .ref pk, .ref pg, .ref pp, .ref pz, .ref pv, .int pr_reason, .int pr_place, .ref pr_scanner_r, .int pr_stepCount, .int pr_open, .int pr_twoSides, .ref pr_waiting_r, .ref pr_waitingPlaces_r, .int pr_waitingCount])), (pe, .inl (cpe, 680, .inl n17)), (bo, .inr (1, [.ref bob, .int n14])), (bob, .inl (cbob, 8192, .inl f15))]) [3, 0, 4, 1, 2] rfl
                  have hD9 := hD.sub (ws' := [(h0, .inr (2, [.ref pr, .ref kn, .ref lt, .int h0_localCount, .ref pe, .int n18, .int h0_gives, .int h0_depth, .int h0_loopDepth, .ref to, .ref bo, .ref cs, .ref se])), (pr, .inr (6, [.ref gl, .ref fu, .ref pa, .ref pf, .ref sf, .ref pk, .ref pg, .ref pp, .ref pz, .ref pv, .int pr_reason, .int pr_place, .ref pr_scanner_r, .int pr_stepCount, .int pr_open, .int pr_twoSides, .ref pr_waiting_r, .ref pr_waitingPlaces_r, .int pr_waitingCount])), (pe, .inl (cpe, 680, .inl n17)), (bo, .inr (1, [.ref bob, .int n14])), (bob, .inl (cbob, 8192, .inl f15))]) [3, 0, 4, 1, 2] (by decide) rfl
                  exact tz_up (fun _ => rfl) (W.vret hx hb hr (fun t ht hW => ⟨⟨(f15, n17, n14, n18, pr_place, pr_reason), ⟨rfl, ⟨by (try dsimp only) <;> omega, bn18, ⟨by rw [show (h0_pendingCount.toInt - 1).toNat = n2.toNatClampNeg from by have := i32_clamp (x := n2) (by omega); omega, ← xr1.2]; omega, fun z => absurd z (by omega), fun _ => ⟨by (try dsimp only) <;> omega, by rw [show (h0_pendingCount.toInt - 1).toNat = n2.toNatClampNeg from by have := i32_clamp (x := n2) (by omega); omega, ← xr1.2]; exact xr16.2, by (try dsimp only) <;> omega, _, _, bb133, bb163, by (try dsimp only); rw [bn14 (by omega), xr10.2, s143, bn7 (by omega)]; simp only [List.append_assoc]; rfl⟩, fun z => absurd z (by omega)⟩⟩⟩, by rw [ht]; exact hP9, va_K.moved hW.alike hK, hD9⟩, hS.F ht⟩) hS.2.2 d_CO_codePrefix_171)
                · skip
                  refine lv_if_eq (tgt := 160) hx hb d_CO_codePrefix_152 (by decide) (fun c152 => ?_) (fun c152 => ?_)
                  · have q152 := eqI c152
                    refine lv_sipush (v := 133) hx hb d_CO_codePrefix_160 (by decide) ?_
                    exact jn163 133 _ _ _ ⟨Or.inr rfl, hP, hD, hS, lv_sub hl [0, 1] rfl⟩
                  · have q152 := neI c152
                    refine lv_bipush (v := 115) hx hb d_CO_codePrefix_155 (by decide) ?_
                    refine lv_goto (tgt := 163) hx hb d_CO_codePrefix_157 (by decide) ?_
                    exact jn163 115 _ _ _ ⟨Or.inl rfl, hP, hD, hS, lv_sub hl [0, 1] rfl⟩
              · skip
                refine lv_if_eq (tgt := 131) hx hb d_CO_codePrefix_123 (by decide) (fun c123 => ?_) (fun c123 => ?_)
                · have q123 := eqI c123
                  refine lv_bipush (v := 66) hx hb d_CO_codePrefix_131 (by decide) ?_
                  exact jn133 66 _ _ _ ⟨Or.inr rfl, hP, hD, hS, lv_sub hl [1, 3, 0] rfl⟩
                · have q123 := neI c123
                  refine lv_bipush (v := 65) hx hb d_CO_codePrefix_126 (by decide) ?_
                  refine lv_goto (tgt := 133) hx hb d_CO_codePrefix_128 (by decide) ?_
                  exact jn133 65 _ _ _ ⟨Or.inl rfl, hP, hD, hS, lv_sub hl [1, 3, 0] rfl⟩
            · have q69 : ka = 51 := hSW.2.2.2.1.2 ka 51 ba0 (by decide : 51 < 55) (Option.some.inj c69)
              have k72 := hmi.out q69
              refine lv_aload_n hx hb d_CO_codePrefix_72 rfl (lv_at hl 1 rfl) ?_
              refine va_get (D := (dC, dI)) (ci := 2) (v := .ref bo) (C := R_CO) (T := F_CO) (N := 13) hx hb hts i_CO hown hK hP 3 rfl rfl 10 (by decide) (hts _ kF_CO_26) (fun _ h9 => h9) rfl d_CO_codePrefix_73 ?_
              refine lv_aload_n hx hb d_CO_codePrefix_76 rfl (lv_at hl 1 rfl) ?_
              have hPc := hP.sub (ws' := [(h0, .inr (2, [.ref pr, .ref kn, .ref lt, .int h0_localCount, .ref pe, .int n2, .int h0_gives, .int h0_depth, .int h0_loopDepth, .ref to, .ref bo, .ref cs, .ref se])), (pe, .inl (cpe, 680, .inl gpe))]) [3, 4] rfl
              have hDc := hD.sub (ws' := [(h0, .inr (2, [.ref pr, .ref kn, .ref lt, .int h0_localCount, .ref pe, .int n2, .int h0_gives, .int h0_depth, .int h0_loopDepth, .ref to, .ref bo, .ref cs, .ref se])), (pe, .inl (cpe, 680, .inl gpe))]) [3, 4] (by decide) rfl
              have hKc := hK.sub (tys' := [(cpe, .int)]) [0] rfl
              have hFc := va_free (wc := [(h0, .inr (2, [.ref pr, .ref kn, .ref lt, .int h0_localCount, .ref pe, .int n2, .int h0_gives, .int h0_depth, .int h0_loopDepth, .ref to, .ref bo, .ref cs, .ref se])), (pe, .inl (cpe, 680, .inl gpe))]) hD hS hA [3, 4] rfl
              refine va_calli (va_runV (As := []) (rest := [.ref bo]) ⟨hx, hb, hml, hown, hts⟩ (c_CO_pop l dC dI H.size h0 pr kn lt pe to bo cs se cpe h0_localCount n2 h0_gives h0_depth h0_loopDepth gpe (bn2) (by (try dsimp only) <;> omega)) (cwV 0 hts (gV kM_CO_224 kV_CO_pop kS_CO_pop kI_CO kC_CO_pop) rfl rfl rfl (by decide +kernel) ⟨Nat.le_of_ble_eq_true rfl, Nat.le_of_ble_eq_true rfl⟩) ⟨fun a U g mk z => by obtain ⟨z0, z1, zP, zK, zD⟩ := z; exact ⟨z0, z1, zP, va_K.moved (u := U) (U := U.calling g mk a) (Vm.Alike.refl U.vm) zK, zD⟩, va_recv hKc hPc (ci := 2) (q0 := 0) rfl rfl, fun U hU hW => ⟨rfl, by rw [hU], by rw [hU]; exact hPc, va_K.moved hW.alike hKc, hDc.weaken (fun _ _ _ _ => trivial)⟩⟩ rfl rfl hl.1 rfl (lv_room (Nat.le_of_ble_eq_true rfl)) d_CO_codePrefix_77 ⟨(Nat.zero_le _), (Nat.zero_le _)⟩) hS (fun q _ h => hFc q h) hFc (fun r19 u t H1 locs ht hvm hw hB hz1 hk1 hS => ?_)
              obtain ⟨n20, rfl⟩ : ∃ z, z = u := ⟨_, rfl⟩
              try dsimp only at hw
              obtain ⟨bn20, xr19⟩ := hw
              try clear hw
              have k77 := k72.2
              rw [show (h0_pendingCount.toInt - 2).toNat = n20.toNatClampNeg from by have := i32_clamp (x := n20) (by omega); omega, ← xr19.2] at k77
              obtain ⟨hP1, hK1, hD1⟩ := hB
              rw [ht] at hP1
              obtain ⟨hP, hD⟩ := va_join (wr := [(pr, .inr (6, [.ref gl, .ref fu, .ref pa, .ref pf, .ref sf, .ref pk, .ref pg, .ref pp, .ref pz, .ref pv, .int pr_reason, .int pr_place, .ref pr_scanner_r, .int pr_stepCount, .int pr_open, .int pr_twoSides, .ref pr_waiting_r, .ref pr_waitingPlaces_r, .int pr_waitingCount])), (bo, .inr (1, [.ref bob, .int bo_length])), (bob, .inl (cbob, 8192, .inl gbob))]) (w1 := [(h0, .inr (2, [.ref pr, .ref kn, .ref lt, .int h0_localCount, .ref pe, .int n20, .int h0_gives, .int h0_depth, .int h0_loopDepth, .ref to, .ref bo, .ref cs, .ref se])), (pe, .inl (cpe, 680, .inl gpe))]) hP hD [3, 4] [0, 1, 2] rfl rfl (by decide) (by decide) hk1 hFc hP1 hD1
              clear hPc hDc hKc hFc hz1 hk1 hP1 hK1 hD1
              generalize H1 = H at hP hS ⊢
              have hP : va_P (dC, dI) cls [(pr, .inr (6, [.ref gl, .ref fu, .ref pa, .ref pf, .ref sf, .ref pk, .ref pg, .ref pp, .ref pz, .ref pv, .int pr_reason, .int pr_place, .ref pr_scanner_r, .int pr_stepCount, .int pr_open, .int pr_twoSides, .ref pr_waiting_r, .ref pr_waitingPlaces_r, .int pr_waitingCount])), (bo, .inr (1, [.ref bob, .int bo_length])), (bob, .inl (cbob, 8192, .inl gbob)), (h0, .inr (2, [.ref pr, .ref kn, .ref lt, .int h0_localCount, .ref pe, .int n20, .int h0_gives, .int h0_depth, .int h0_loopDepth, .ref to, .ref bo, .ref cs, .ref se])), (pe, .inl (cpe, 680, .inl gpe))] H := hP
              have hD : va_D A [(pr, .inr (6, [.ref gl, .ref fu, .ref pa, .ref pf, .ref sf, .ref pk, .ref pg, .ref pp, .ref pz, .ref pv, .int pr_reason, .int pr_place, .ref pr_scanner_r, .int pr_stepCount, .int pr_open, .int pr_twoSides, .ref pr_waiting_r, .ref pr_waitingPlaces_r, .int pr_waitingCount])), (bo, .inr (1, [.ref bob, .int bo_length])), (bob, .inl (cbob, 8192, .inl gbob)), (h0, .inr (2, [.ref pr, .ref kn, .ref lt, .int h0_localCount, .ref pe, .int n20, .int h0_gives, .int h0_depth, .int h0_loopDepth, .ref to, .ref bo, .ref cs, .ref se])), (pe, .inl (cpe, 680, .inl gpe))] := hD
              refine lv_iload hx hb d_CO_codePrefix_80 (lv_at hl 0 rfl) ?_
              refine w_cut (pc2 := 92) (σ := Int32) (fun u H locs ls => match u with | j92_s0 => (j92_s0 = 65 ∨ j92_s0 = 66) ∧ va_P (dC, dI) cls [(pr, .inr (6, [.ref gl, .ref fu, .ref pa, .ref pf, .ref sf, .ref pk, .ref pg, .ref pp, .ref pz, .ref pv, .int pr_reason, .int pr_place, .ref pr_scanner_r, .int pr_stepCount, .int pr_open, .int pr_twoSides, .ref pr_waiting_r, .ref pr_waitingPlaces_r, .int pr_waitingCount])), (bo, .inr (1, [.ref bob, .int bo_length])), (bob, .inl (cbob, 8192, .inl gbob)), (h0, .inr (2, [.ref pr, .ref kn, .ref lt, .int h0_localCount, .ref pe, .int n20, .int h0_gives, .int h0_depth, .int h0_loopDepth, .ref to, .ref bo, .ref cs, .ref se])), (pe, .inl (cpe, 680, .inl gpe))] H ∧ va_D A [(pr, .inr (6, [.ref gl, .ref fu, .ref pa, .ref pf, .ref sf, .ref pk, .ref pg, .ref pp, .ref pz, .ref pv, .int pr_reason, .int pr_place, .ref pr_scanner_r, .int pr_stepCount, .int pr_open, .int pr_twoSides, .ref pr_waiting_r, .ref pr_waitingPlaces_r, .int pr_waitingCount])), (bo, .inr (1, [.ref bob, .int bo_length])), (bob, .inl (cbob, 8192, .inl gbob)), (h0, .inr (2, [.ref pr, .ref kn, .ref lt, .int h0_localCount, .ref pe, .int n20, .int h0_gives, .int h0_depth, .int h0_loopDepth, .ref to, .ref bo, .ref cs, .ref se])), (pe, .inl (cpe, 680, .inl gpe))] ∧ va_S A s.heap H locs ∧ lv_has ls 5 [(0, .ref h0), (3, .int r1), (4, .int j44_s0)]) (fun u => match u with | j92_s0 => [.int j92_s0, .int r19, .ref bo]) ?_ (fun jn92 => ?_)
              · intro u H locs ls hI
                obtain ⟨j92_s0, rfl⟩ : ∃ z, z = u := ⟨_, rfl⟩
                obtain ⟨y92, hP, hD, hS, hl⟩ := hI
                have bb92 : bn j92_s0 = 65 ∨ bn j92_s0 = 66 := by rcases y92 with z | z <;> rw [z]; exact Or.inl rfl; exact Or.inr rfl
                have rg92 : j92_s0.toInt = 65 ∨ j92_s0.toInt = 66 := by rcases y92 with z | z <;> rw [z]; exact Or.inl rfl; exact Or.inr rfl
                have hPc := hP.sub (ws' := [(bo, .inr (1, [.ref bob, .int bo_length])), (bob, .inl (cbob, 8192, .inl gbob))]) [1, 2] rfl
                have hDc := hD.sub (ws' := [(bo, .inr (1, [.ref bob, .int bo_length])), (bob, .inl (cbob, 8192, .inl gbob))]) [1, 2] (by decide) rfl
                have hKc := hK.sub (tys' := [(cbob, .byte)]) [1] rfl
                have hFc := va_free (wc := [(bo, .inr (1, [.ref bob, .int bo_length])), (bob, .inl (cbob, 8192, .inl gbob))]) hD hS hA [1, 2] rfl
                refine va_callv (va_runV (As := [.int r19, .int j92_s0]) (rest := []) ⟨hx, hb, hml, hown, hts⟩ (c_BR_change l dC dI bo bob H.size cbob 8192 bo_length gbob (by omega) (by omega) (by omega) r19 j92_s0) (cwV 2 hts (gV kM_CO_245 kV_BR_change kS_BR_change kI_BR kC_BR_change) rfl rfl rfl (by decide +kernel) ⟨Nat.le_of_ble_eq_true rfl, Nat.le_of_ble_eq_true rfl⟩) ⟨fun a U g mk z => by obtain ⟨z0, z1, zP, zK, zD⟩ := z; exact ⟨z0, z1, zP, va_K.moved (u := U) (U := U.calling g mk a) (Vm.Alike.refl U.vm) zK, zD⟩, va_recv hKc hPc (ci := 1) (q0 := 0) rfl rfl, fun U hU hW => ⟨rfl, by rw [hU], by rw [hU]; exact hPc, va_K.moved hW.alike hKc, hDc.weaken (fun _ _ _ _ => trivial)⟩⟩ rfl rfl hl.1 rfl (lv_room (Nat.le_of_ble_eq_true rfl)) d_CO_codePrefix_92 ⟨(Nat.zero_le _), (Nat.zero_le _)⟩) hS (fun q _ h => hFc q h) hFc (fun u t H1 locs ht hvm hw hB hz1 hk1 hS => ?_)
                obtain ⟨n22, f23⟩ := u
                try dsimp only at hw
                obtain ⟨tn22, cn22, -⟩ := hw
                have tn22 := congrArg Int32.toInt tn22
                obtain ⟨hP1, hK1, hD1⟩ := hB
                rw [ht] at hP1
                obtain ⟨hP, hD⟩ := va_join (wr := [(pr, .inr (6, [.ref gl, .ref fu, .ref pa, .ref pf, .ref sf, .ref pk, .ref pg, .ref pp, .ref pz, .ref pv, .int pr_reason, .int pr_place, .ref pr_scanner_r, .int pr_stepCount, .int pr_open, .int pr_twoSides, .ref pr_waiting_r, .ref pr_waitingPlaces_r, .int pr_waitingCount])), (h0, .inr (2, [.ref pr, .ref kn, .ref lt, .int h0_localCount, .ref pe, .int n20, .int h0_gives, .int h0_depth, .int h0_loopDepth, .ref to, .ref bo, .ref cs, .ref se])), (pe, .inl (cpe, 680, .inl gpe))]) (w1 := [(bo, .inr (1, [.ref bob, .int n22])), (bob, .inl (cbob, 8192, .inl f23))]) hP hD [1, 2] [0, 3, 4] rfl rfl (by decide) (by decide) hk1 hFc hP1 hD1
                clear hPc hDc hKc hFc hz1 hk1 hP1 hK1 hD1
                generalize H1 = H at hP hS ⊢
                have hP : va_P (dC, dI) cls [(pr, .inr (6, [.ref gl, .ref fu, .ref pa, .ref pf, .ref sf, .ref pk, .ref pg, .ref pp, .ref pz, .ref pv, .int pr_reason, .int pr_place, .ref pr_scanner_r, .int pr_stepCount, .int pr_open, .int pr_twoSides, .ref pr_waiting_r, .ref pr_waitingPlaces_r, .int pr_waitingCount])), (h0, .inr (2, [.ref pr, .ref kn, .ref lt, .int h0_localCount, .ref pe, .int n20, .int h0_gives, .int h0_depth, .int h0_loopDepth, .ref to, .ref bo, .ref cs, .ref se])), (pe, .inl (cpe, 680, .inl gpe)), (bo, .inr (1, [.ref bob, .int n22])), (bob, .inl (cbob, 8192, .inl f23))] H := hP
                have hD : va_D A [(pr, .inr (6, [.ref gl, .ref fu, .ref pa, .ref pf, .ref sf, .ref pk, .ref pg, .ref pp, .ref pz, .ref pv, .int pr_reason, .int pr_place, .ref pr_scanner_r, .int pr_stepCount, .int pr_open, .int pr_twoSides, .ref pr_waiting_r, .ref pr_waitingPlaces_r, .int pr_waitingCount])), (h0, .inr (2, [.ref pr, .ref kn, .ref lt, .int h0_localCount, .ref pe, .int n20, .int h0_gives, .int h0_depth, .int h0_loopDepth, .ref to, .ref bo, .ref cs, .ref se])), (pe, .inl (cpe, 680, .inl gpe)), (bo, .inr (1, [.ref bob, .int n22])), (bob, .inl (cbob, 8192, .inl f23))] := hD
                refine lv_aload_n hx hb d_CO_codePrefix_95 rfl (lv_at hl 0 rfl) ?_
                refine va_get (D := (dC, dI)) (ci := 2) (v := .ref bo) (C := R_CO) (T := F_CO) (N := 13) hx hb hts i_CO hown hK hP 1 rfl rfl 10 (by decide) (hts _ kF_CO_26) (fun _ h9 => h9) rfl d_CO_codePrefix_96 ?_
                refine lv_iload hx hb d_CO_codePrefix_99 (lv_at hl 2 rfl) ?_
                refine w_cut (pc2 := 111) (σ := Int32) (fun u H locs ls => match u with | j111_s0 => (j111_s0 = 107 ∨ j111_s0 = 125) ∧ va_P (dC, dI) cls [(pr, .inr (6, [.ref gl, .ref fu, .ref pa, .ref pf, .ref sf, .ref pk, .ref pg, .ref pp, .ref pz, .ref pv, .int pr_reason, .int pr_place, .ref pr_scanner_r, .int pr_stepCount, .int pr_open, .int pr_twoSides, .ref pr_waiting_r, .ref pr_waitingPlaces_r, .int pr_waitingCount])), (h0, .inr (2, [.ref pr, .ref kn, .ref lt, .int h0_localCount, .ref pe, .int n20, .int h0_gives, .int h0_depth, .int h0_loopDepth, .ref to, .ref bo, .ref cs, .ref se])), (pe, .inl (cpe, 680, .inl gpe)), (bo, .inr (1, [.ref bob, .int n22])), (bob, .inl (cbob, 8192, .inl f23))] H ∧ va_D A [(pr, .inr (6, [.ref gl, .ref fu, .ref pa, .ref pf, .ref sf, .ref pk, .ref pg, .ref pp, .ref pz, .ref pv, .int pr_reason, .int pr_place, .ref pr_scanner_r, .int pr_stepCount, .int pr_open, .int pr_twoSides, .ref pr_waiting_r, .ref pr_waitingPlaces_r, .int pr_waitingCount])), (h0, .inr (2, [.ref pr, .ref kn, .ref lt, .int h0_localCount, .ref pe, .int n20, .int h0_gives, .int h0_depth, .int h0_loopDepth, .ref to, .ref bo, .ref cs, .ref se])), (pe, .inl (cpe, 680, .inl gpe)), (bo, .inr (1, [.ref bob, .int n22])), (bob, .inl (cbob, 8192, .inl f23))] ∧ va_S A s.heap H locs ∧ lv_has ls 5 [(0, .ref h0), (3, .int r1)]) (fun u => match u with | j111_s0 => [.int j111_s0, .ref bo]) ?_ (fun jn111 => ?_)
                · intro u H locs ls hI
                  obtain ⟨j111_s0, rfl⟩ : ∃ z, z = u := ⟨_, rfl⟩
                  obtain ⟨y111, hP, hD, hS, hl⟩ := hI
                  have bb111 : bn j111_s0 = 107 ∨ bn j111_s0 = 125 := by rcases y111 with z | z <;> rw [z]; exact Or.inl rfl; exact Or.inr rfl
                  have rg111 : j111_s0.toInt = 107 ∨ j111_s0.toInt = 125 := by rcases y111 with z | z <;> rw [z]; exact Or.inl rfl; exact Or.inr rfl
                  have hPc := hP.sub (ws' := [(bo, .inr (1, [.ref bob, .int n22])), (bob, .inl (cbob, 8192, .inl f23))]) [3, 4] rfl
                  have hDc := hD.sub (ws' := [(bo, .inr (1, [.ref bob, .int n22])), (bob, .inl (cbob, 8192, .inl f23))]) [3, 4] (by decide) rfl
                  have hKc := hK.sub (tys' := [(cbob, .byte)]) [1] rfl
                  have hFc := va_free (wc := [(bo, .inr (1, [.ref bob, .int n22])), (bob, .inl (cbob, 8192, .inl f23))]) hD hS hA [3, 4] rfl
                  refine va_callv (va_runV (As := [.int j111_s0]) (rest := []) ⟨hx, hb, hml, hown, hts⟩ (c_BR_put l dC dI bo bob H.size cbob 8192 n22 f23 (by omega) (by omega) (by omega) j111_s0) (cwV 1 hts (gV kM_CO_76 kV_BR_put kS_BR_put kI_BR kC_BR_put) rfl rfl rfl (by decide +kernel) ⟨Nat.le_of_ble_eq_true rfl, Nat.le_of_ble_eq_true rfl⟩) ⟨fun a U g mk z => by obtain ⟨z0, z1, zP, zK, zD⟩ := z; exact ⟨z0, z1, zP, va_K.moved (u := U) (U := U.calling g mk a) (Vm.Alike.refl U.vm) zK, zD⟩, va_recv hKc hPc (ci := 1) (q0 := 0) rfl rfl, fun U hU hW => ⟨rfl, by rw [hU], by rw [hU]; exact hPc, va_K.moved hW.alike hKc, hDc.weaken (fun _ _ _ _ => trivial)⟩⟩ rfl rfl hl.1 rfl (lv_room (Nat.le_of_ble_eq_true rfl)) d_CO_codePrefix_111 ⟨(Nat.zero_le _), (Nat.zero_le _)⟩) hS (fun q _ h => hFc q h) hFc (fun u t H1 locs ht hvm hw hB hz1 hk1 hS => ?_)
                  obtain ⟨n25, f26⟩ := u
                  try dsimp only at hw
                  have tn25 := br_put_in (by omega) (by omega) (by omega) hw
                  have bn25 := br_put_bl (by omega) (by omega) (by omega) hw
                  obtain ⟨hP1, hK1, hD1⟩ := hB
                  rw [ht] at hP1
                  obtain ⟨hP, hD⟩ := va_join (wr := [(pr, .inr (6, [.ref gl, .ref fu, .ref pa, .ref pf, .ref sf, .ref pk, .ref pg, .ref pp, .ref pz, .ref pv, .int pr_reason, .int pr_place, .ref pr_scanner_r, .int pr_stepCount, .int pr_open, .int pr_twoSides, .ref pr_waiting_r, .ref pr_waitingPlaces_r, .int pr_waitingCount])), (h0, .inr (2, [.ref pr, .ref kn, .ref lt, .int h0_localCount, .ref pe, .int n20, .int h0_gives, .int h0_depth, .int h0_loopDepth, .ref to, .ref bo, .ref cs, .ref se])), (pe, .inl (cpe, 680, .inl gpe))]) (w1 := [(bo, .inr (1, [.ref bob, .int n25])), (bob, .inl (cbob, 8192, .inl f26))]) hP hD [3, 4] [0, 1, 2] rfl rfl (by decide) (by decide) hk1 hFc hP1 hD1
                  clear hPc hDc hKc hFc hz1 hk1 hP1 hK1 hD1
                  generalize H1 = H at hP hS ⊢
                  have hP : va_P (dC, dI) cls [(pr, .inr (6, [.ref gl, .ref fu, .ref pa, .ref pf, .ref sf, .ref pk, .ref pg, .ref pp, .ref pz, .ref pv, .int pr_reason, .int pr_place, .ref pr_scanner_r, .int pr_stepCount, .int pr_open, .int pr_twoSides, .ref pr_waiting_r, .ref pr_waitingPlaces_r, .int pr_waitingCount])), (h0, .inr (2, [.ref pr, .ref kn, .ref lt, .int h0_localCount, .ref pe, .int n20, .int h0_gives, .int h0_depth, .int h0_loopDepth, .ref to, .ref bo, .ref cs, .ref se])), (pe, .inl (cpe, 680, .inl gpe)), (bo, .inr (1, [.ref bob, .int n25])), (bob, .inl (cbob, 8192, .inl f26))] H := hP
                  have hD : va_D A [(pr, .inr (6, [.ref gl, .ref fu, .ref pa, .ref pf, .ref sf, .ref pk, .ref pg, .ref pp, .ref pz, .ref pv, .int pr_reason, .int pr_place, .ref pr_scanner_r, .int pr_stepCount, .int pr_open, .int pr_twoSides, .ref pr_waiting_r, .ref pr_waitingPlaces_r, .int pr_waitingCount])), (h0, .inr (2, [.ref pr, .ref kn, .ref lt, .int h0_localCount, .ref pe, .int n20, .int h0_gives, .int h0_depth, .int h0_loopDepth, .ref to, .ref bo, .ref cs, .ref se])), (pe, .inl (cpe, 680, .inl gpe)), (bo, .inr (1, [.ref bob, .int n25])), (bob, .inl (cbob, 8192, .inl f26))] := hD
                  refine lv_goto (tgt := 166) hx hb d_CO_codePrefix_114 (by decide) ?_
                  refine lv_aload_n hx hb d_CO_codePrefix_166 rfl (lv_at hl 0 rfl) ?_
                  refine lv_iload_n hx hb d_CO_codePrefix_167 rfl (lv_at hl 1 rfl) ?_
                  have hPc := hP.sub (ws' := [(h0, .inr (2, [.ref pr, .ref kn, .ref lt, .int h0_localCount, .ref pe, .int n20, .int h0_gives, .int h0_depth, .int h0_loopDepth, .ref to, .ref bo, .ref cs, .ref se])), (pe, .inl (cpe, 680, .inl gpe))]) [1, 2] rfl
                  have hDc := hD.sub (ws' := [(h0, .inr (2, [.ref pr, .ref kn, .ref lt, .int h0_localCount, .ref pe, .int n20, .int h0_gives, .int h0_depth, .int h0_loopDepth, .ref to, .ref bo, .ref cs, .ref se])), (pe, .inl (cpe, 680, .inl gpe))]) [1, 2] (by decide) rfl
                  have hKc := hK.sub (tys' := [(cpe, .int)]) [0] rfl
                  have hFc := va_free (wc := [(h0, .inr (2, [.ref pr, .ref kn, .ref lt, .int h0_localCount, .ref pe, .int n20, .int h0_gives, .int h0_depth, .int h0_loopDepth, .ref to, .ref bo, .ref cs, .ref se])), (pe, .inl (cpe, 680, .inl gpe))]) hD hS hA [1, 2] rfl
                  refine va_callv (va_runV (As := [.int r1]) (rest := []) ⟨hx, hb, hml, hown, hts⟩ (c_CO_push l dC dI H.size h0 pr kn lt pe to bo cs se cpe h0_localCount n20 h0_gives h0_depth h0_loopDepth gpe (bn20) r1 (by (try dsimp only) <;> omega)) (cwV 1 hts (gV kM_CO_183 kV_CO_push kS_CO_push kI_CO kC_CO_push) rfl rfl rfl (by decide +kernel) ⟨Nat.le_of_ble_eq_true rfl, Nat.le_of_ble_eq_true rfl⟩) ⟨fun a U g mk z => by obtain ⟨z0, z1, zP, zK, zD⟩ := z; exact ⟨z0, z1, zP, va_K.moved (u := U) (U := U.calling g mk a) (Vm.Alike.refl U.vm) zK, zD⟩, va_recv hKc hPc (ci := 2) (q0 := 0) rfl rfl, fun U hU hW => ⟨rfl, by rw [hU], by rw [hU]; exact hPc, va_K.moved hW.alike hKc, hDc.weaken (fun _ _ _ _ => trivial)⟩⟩ rfl rfl hl.1 rfl (lv_room (Nat.le_of_ble_eq_true rfl)) d_CO_codePrefix_168 ⟨(Nat.zero_le _), (Nat.zero_le _)⟩) hS (fun q _ h => hFc q h) hFc (fun u t H1 locs ht hvm hw hB hz1 hk1 hS => ?_)
                  obtain ⟨n28, n29⟩ := u
                  try dsimp only at hw
                  obtain ⟨bn29, xr27⟩ := hw
                  try clear hw
                  obtain ⟨hP1, hK1, hD1⟩ := hB
                  rw [ht] at hP1
                  obtain ⟨hP, hD⟩ := va_join (wr := [(pr, .inr (6, [.ref gl, .ref fu, .ref pa, .ref pf, .ref sf, .ref pk, .ref pg, .ref pp, .ref pz, .ref pv, .int pr_reason, .int pr_place, .ref pr_scanner_r, .int pr_stepCount, .int pr_open, .int pr_twoSides, .ref pr_waiting_r, .ref pr_waitingPlaces_r, .int pr_waitingCount])), (bo, .inr (1, [.ref bob, .int n25])), (bob, .inl (cbob, 8192, .inl f26))]) (w1 := [(h0, .inr (2, [.ref pr, .ref kn, .ref lt, .int h0_localCount, .ref pe, .int n29, .int h0_gives, .int h0_depth, .int h0_loopDepth, .ref to, .ref bo, .ref cs, .ref se])), (pe, .inl (cpe, 680, .inl n28))]) hP hD [1, 2] [0, 3, 4] rfl rfl (by decide) (by decide) hk1 hFc hP1 hD1
                  clear hPc hDc hKc hFc hz1 hk1 hP1 hK1 hD1
                  generalize H1 = H at hP hS ⊢
                  have hP : va_P (dC, dI) cls [(pr, .inr (6, [.ref gl, .ref fu, .ref pa, .ref pf, .ref sf, .ref pk, .ref pg, .ref pp, .ref pz, .ref pv, .int pr_reason, .int pr_place, .ref pr_scanner_r, .int pr_stepCount, .int pr_open, .int pr_twoSides, .ref pr_waiting_r, .ref pr_waitingPlaces_r, .int pr_waitingCount])), (bo, .inr (1, [.ref bob, .int n25])), (bob, .inl (cbob, 8192, .inl f26)), (h0, .inr (2, [.ref pr, .ref kn, .ref lt, .int h0_localCount, .ref pe, .int n29, .int h0_gives, .int h0_depth, .int h0_loopDepth, .ref to, .ref bo, .ref cs, .ref se])), (pe, .inl (cpe, 680, .inl n28))] H := hP
                  have hD : va_D A [(pr, .inr (6, [.ref gl, .ref fu, .ref pa, .ref pf, .ref sf, .ref pk, .ref pg, .ref pp, .ref pz, .ref pv, .int pr_reason, .int pr_place, .ref pr_scanner_r, .int pr_stepCount, .int pr_open, .int pr_twoSides, .ref pr_waiting_r, .ref pr_waitingPlaces_r, .int pr_waitingCount])), (bo, .inr (1, [.ref bob, .int n25])), (bob, .inl (cbob, 8192, .inl f26)), (h0, .inr (2, [.ref pr, .ref kn, .ref lt, .int h0_localCount, .ref pe, .int n29, .int h0_gives, .int h0_depth, .int h0_loopDepth, .ref to, .ref bo, .ref cs, .ref se])), (pe, .inl (cpe, 680, .inl n28))] := hD
                  have hP9 := hP.sub (ws' := [(h0, .inr (2, [.ref pr, .ref kn, .ref lt, .int h0_localCount, .ref pe, .int n29, .int h0_gives, .int h0_depth, .int h0_loopDepth, .ref to, .ref bo, .ref cs, .ref se])), (pr, .inr (6, [.ref gl, .ref fu, .ref pa, .ref pf, .ref sf, .ref pk, .ref pg, .ref pp, .ref pz, .ref pv, .int pr_reason, .int pr_place, .ref pr_scanner_r, .int pr_stepCount, .int pr_open, .int pr_twoSides, .ref pr_waiting_r, .ref pr_waitingPlaces_r, .int pr_waitingCount])), (pe, .inl (cpe, 680, .inl n28)), (bo, .inr (1, [.ref bob, .int n25])), (bob, .inl (cbob, 8192, .inl f26))]) [3, 0, 4, 1, 2] rfl
                  have hD9 := hD.sub (ws' := [(h0, .inr (2, [.ref pr, .ref kn, .ref lt, .int h0_localCount, .ref pe, .int n29, .int h0_gives, .int h0_depth, .int h0_loopDepth, .ref to, .ref bo, .ref cs, .ref se])), (pr, .inr (6, [.ref gl, .ref fu, .ref pa, .ref pf, .ref sf, .ref pk, .ref pg, .ref pp, .ref pz, .ref pv, .int pr_reason, .int pr_place, .ref pr_scanner_r, .int pr_stepCount, .int pr_open, .int pr_twoSides, .ref pr_waiting_r, .ref pr_waitingPlaces_r, .int pr_waitingCount])), (pe, .inl (cpe, 680, .inl n28)), (bo, .inr (1, [.ref bob, .int n25])), (bob, .inl (cbob, 8192, .inl f26))]) [3, 0, 4, 1, 2] (by decide) rfl
                  exact tz_up (fun _ => rfl) (W.vret hx hb hr (fun t ht hW => ⟨⟨(f26, n28, n25, n29, pr_place, pr_reason), ⟨rfl, ⟨by (try dsimp only) <;> omega, bn29, ⟨by rw [show (h0_pendingCount.toInt - 1).toNat = n2.toNatClampNeg from by have := i32_clamp (x := n2) (by omega); omega, ← xr1.2]; omega, fun z => absurd z (by omega), fun z => absurd z (by omega), fun _ => ⟨by (try dsimp only) <;> omega, by rw [show (h0_pendingCount.toInt - 2).toNat = n20.toNatClampNeg from by have := i32_clamp (x := n20) (by omega); omega, show (h0_pendingCount.toInt - 1).toNat = n2.toNatClampNeg from by have := i32_clamp (x := n2) (by omega); omega, ← xr1.2]; exact xr27.2, by (try dsimp only) <;> omega, _, _, bb92, bb111, by (try dsimp only); rw [bn25 (by omega), cn22 (by omega) (by omega), show n22 = bo_length from Int32.toInt_inj.mp (by omega), bl_set, show (gpe (h0_pendingCount.toInt - 2).toNat).toInt.toNat = r19.toNatClampNeg from by rw [show (h0_pendingCount.toInt - 2).toNat = n20.toNatClampNeg from by have := i32_clamp (x := n20) (by omega); omega, ← xr19.2]; have := i32_clamp (x := r19) (by omega); omega]⟩⟩⟩⟩, by rw [ht]; exact hP9, va_K.moved hW.alike hK, hD9⟩, hS.F ht⟩) hS.2.2 d_CO_codePrefix_171)
                · skip
                  refine lv_if_eq (tgt := 109) hx hb d_CO_codePrefix_101 (by decide) (fun c101 => ?_) (fun c101 => ?_)
                  · have q101 := eqI c101
                    refine lv_bipush (v := 125) hx hb d_CO_codePrefix_109 (by decide) ?_
                    exact jn111 125 _ _ _ ⟨Or.inr rfl, hP, hD, hS, lv_sub hl [0, 1] rfl⟩
                  · have q101 := neI c101
                    refine lv_bipush (v := 107) hx hb d_CO_codePrefix_104 (by decide) ?_
                    refine lv_goto (tgt := 111) hx hb d_CO_codePrefix_106 (by decide) ?_
                    exact jn111 107 _ _ _ ⟨Or.inl rfl, hP, hD, hS, lv_sub hl [0, 1] rfl⟩
              · skip
                refine lv_if_eq (tgt := 90) hx hb d_CO_codePrefix_82 (by decide) (fun c82 => ?_) (fun c82 => ?_)
                · have q82 := eqI c82
                  refine lv_bipush (v := 66) hx hb d_CO_codePrefix_90 (by decide) ?_
                  exact jn92 66 _ _ _ ⟨Or.inr rfl, hP, hD, hS, lv_sub hl [1, 3, 0] rfl⟩
                · have q82 := neI c82
                  refine lv_bipush (v := 65) hx hb d_CO_codePrefix_85 (by decide) ?_
                  refine lv_goto (tgt := 92) hx hb d_CO_codePrefix_87 (by decide) ?_
                  exact jn92 65 _ _ _ ⟨Or.inl rfl, hP, hD, hS, lv_sub hl [1, 3, 0] rfl⟩
          · have q50 : ka = 34 := hSW.2.2.2.1.2 ka 34 ba0 (by decide : 34 < 55) (Option.some.inj c50)
            have k53 := y33.2 q50
            refine lv_aload_n hx hb d_CO_codePrefix_53 rfl (lv_at hl 1 rfl) ?_
            refine va_get (D := (dC, dI)) (ci := 2) (v := .ref bo) (C := R_CO) (T := F_CO) (N := 13) hx hb hts i_CO hown hK hP 3 rfl rfl 10 (by decide) (hts _ kF_CO_26) (fun _ h9 => h9) rfl d_CO_codePrefix_54 ?_
            refine lv_bipush (v := 69) hx hb d_CO_codePrefix_57 (by decide) ?_
            have hPc := hP.sub (ws' := [(bo, .inr (1, [.ref bob, .int bo_length])), (bob, .inl (cbob, 8192, .inl gbob))]) [1, 2] rfl
            have hDc := hD.sub (ws' := [(bo, .inr (1, [.ref bob, .int bo_length])), (bob, .inl (cbob, 8192, .inl gbob))]) [1, 2] (by decide) rfl
            have hKc := hK.sub (tys' := [(cbob, .byte)]) [1] rfl
            have hFc := va_free (wc := [(bo, .inr (1, [.ref bob, .int bo_length])), (bob, .inl (cbob, 8192, .inl gbob))]) hD hS hA [1, 2] rfl
            refine va_callv (va_runV (As := [.int 69]) (rest := []) ⟨hx, hb, hml, hown, hts⟩ (c_BR_put l dC dI bo bob H.size cbob 8192 bo_length gbob (by omega) (by omega) (by omega) 69) (cwV 1 hts (gV kM_CO_76 kV_BR_put kS_BR_put kI_BR kC_BR_put) rfl rfl rfl (by decide +kernel) ⟨Nat.le_of_ble_eq_true rfl, Nat.le_of_ble_eq_true rfl⟩) ⟨fun a U g mk z => by obtain ⟨z0, z1, zP, zK, zD⟩ := z; exact ⟨z0, z1, zP, va_K.moved (u := U) (U := U.calling g mk a) (Vm.Alike.refl U.vm) zK, zD⟩, va_recv hKc hPc (ci := 1) (q0 := 0) rfl rfl, fun U hU hW => ⟨rfl, by rw [hU], by rw [hU]; exact hPc, va_K.moved hW.alike hKc, hDc.weaken (fun _ _ _ _ => trivial)⟩⟩ rfl rfl hl.1 rfl (lv_room (Nat.le_of_ble_eq_true rfl)) d_CO_codePrefix_59 ⟨(Nat.zero_le _), (Nat.zero_le _)⟩) hS (fun q _ h => hFc q h) hFc (fun u t H1 locs ht hvm hw hB hz1 hk1 hS => ?_)
            obtain ⟨n31, f32⟩ := u
            try dsimp only at hw
            have tn31 := br_put_in (by omega) (by omega) (by omega) hw
            have bn31 := br_put_bl (by omega) (by omega) (by omega) hw
            obtain ⟨hP1, hK1, hD1⟩ := hB
            rw [ht] at hP1
            obtain ⟨hP, hD⟩ := va_join (wr := [(pr, .inr (6, [.ref gl, .ref fu, .ref pa, .ref pf, .ref sf, .ref pk, .ref pg, .ref pp, .ref pz, .ref pv, .int pr_reason, .int pr_place, .ref pr_scanner_r, .int pr_stepCount, .int pr_open, .int pr_twoSides, .ref pr_waiting_r, .ref pr_waitingPlaces_r, .int pr_waitingCount])), (h0, .inr (2, [.ref pr, .ref kn, .ref lt, .int h0_localCount, .ref pe, .int n2, .int h0_gives, .int h0_depth, .int h0_loopDepth, .ref to, .ref bo, .ref cs, .ref se])), (pe, .inl (cpe, 680, .inl gpe))]) (w1 := [(bo, .inr (1, [.ref bob, .int n31])), (bob, .inl (cbob, 8192, .inl f32))]) hP hD [1, 2] [0, 3, 4] rfl rfl (by decide) (by decide) hk1 hFc hP1 hD1
            clear hPc hDc hKc hFc hz1 hk1 hP1 hK1 hD1
            generalize H1 = H at hP hS ⊢
            have hP : va_P (dC, dI) cls [(pr, .inr (6, [.ref gl, .ref fu, .ref pa, .ref pf, .ref sf, .ref pk, .ref pg, .ref pp, .ref pz, .ref pv, .int pr_reason, .int pr_place, .ref pr_scanner_r, .int pr_stepCount, .int pr_open, .int pr_twoSides, .ref pr_waiting_r, .ref pr_waitingPlaces_r, .int pr_waitingCount])), (h0, .inr (2, [.ref pr, .ref kn, .ref lt, .int h0_localCount, .ref pe, .int n2, .int h0_gives, .int h0_depth, .int h0_loopDepth, .ref to, .ref bo, .ref cs, .ref se])), (pe, .inl (cpe, 680, .inl gpe)), (bo, .inr (1, [.ref bob, .int n31])), (bob, .inl (cbob, 8192, .inl f32))] H := hP
            have hD : va_D A [(pr, .inr (6, [.ref gl, .ref fu, .ref pa, .ref pf, .ref sf, .ref pk, .ref pg, .ref pp, .ref pz, .ref pv, .int pr_reason, .int pr_place, .ref pr_scanner_r, .int pr_stepCount, .int pr_open, .int pr_twoSides, .ref pr_waiting_r, .ref pr_waitingPlaces_r, .int pr_waitingCount])), (h0, .inr (2, [.ref pr, .ref kn, .ref lt, .int h0_localCount, .ref pe, .int n2, .int h0_gives, .int h0_depth, .int h0_loopDepth, .ref to, .ref bo, .ref cs, .ref se])), (pe, .inl (cpe, 680, .inl gpe)), (bo, .inr (1, [.ref bob, .int n31])), (bob, .inl (cbob, 8192, .inl f32))] := hD
            refine lv_goto (tgt := 166) hx hb d_CO_codePrefix_62 (by decide) ?_
            refine lv_aload_n hx hb d_CO_codePrefix_166 rfl (lv_at hl 1 rfl) ?_
            refine lv_iload_n hx hb d_CO_codePrefix_167 rfl (lv_at hl 3 rfl) ?_
            have hPc := hP.sub (ws' := [(h0, .inr (2, [.ref pr, .ref kn, .ref lt, .int h0_localCount, .ref pe, .int n2, .int h0_gives, .int h0_depth, .int h0_loopDepth, .ref to, .ref bo, .ref cs, .ref se])), (pe, .inl (cpe, 680, .inl gpe))]) [1, 2] rfl
            have hDc := hD.sub (ws' := [(h0, .inr (2, [.ref pr, .ref kn, .ref lt, .int h0_localCount, .ref pe, .int n2, .int h0_gives, .int h0_depth, .int h0_loopDepth, .ref to, .ref bo, .ref cs, .ref se])), (pe, .inl (cpe, 680, .inl gpe))]) [1, 2] (by decide) rfl
            have hKc := hK.sub (tys' := [(cpe, .int)]) [0] rfl
            have hFc := va_free (wc := [(h0, .inr (2, [.ref pr, .ref kn, .ref lt, .int h0_localCount, .ref pe, .int n2, .int h0_gives, .int h0_depth, .int h0_loopDepth, .ref to, .ref bo, .ref cs, .ref se])), (pe, .inl (cpe, 680, .inl gpe))]) hD hS hA [1, 2] rfl
            refine va_callv (va_runV (As := [.int r1]) (rest := []) ⟨hx, hb, hml, hown, hts⟩ (c_CO_push l dC dI H.size h0 pr kn lt pe to bo cs se cpe h0_localCount n2 h0_gives h0_depth h0_loopDepth gpe (bn2) r1 (by (try dsimp only) <;> omega)) (cwV 1 hts (gV kM_CO_183 kV_CO_push kS_CO_push kI_CO kC_CO_push) rfl rfl rfl (by decide +kernel) ⟨Nat.le_of_ble_eq_true rfl, Nat.le_of_ble_eq_true rfl⟩) ⟨fun a U g mk z => by obtain ⟨z0, z1, zP, zK, zD⟩ := z; exact ⟨z0, z1, zP, va_K.moved (u := U) (U := U.calling g mk a) (Vm.Alike.refl U.vm) zK, zD⟩, va_recv hKc hPc (ci := 2) (q0 := 0) rfl rfl, fun U hU hW => ⟨rfl, by rw [hU], by rw [hU]; exact hPc, va_K.moved hW.alike hKc, hDc.weaken (fun _ _ _ _ => trivial)⟩⟩ rfl rfl hl.1 rfl (lv_room (Nat.le_of_ble_eq_true rfl)) d_CO_codePrefix_168 ⟨(Nat.zero_le _), (Nat.zero_le _)⟩) hS (fun q _ h => hFc q h) hFc (fun u t H1 locs ht hvm hw hB hz1 hk1 hS => ?_)
            obtain ⟨n34, n35⟩ := u
            try dsimp only at hw
            obtain ⟨bn35, xr33⟩ := hw
            try clear hw
            obtain ⟨hP1, hK1, hD1⟩ := hB
            rw [ht] at hP1
            obtain ⟨hP, hD⟩ := va_join (wr := [(pr, .inr (6, [.ref gl, .ref fu, .ref pa, .ref pf, .ref sf, .ref pk, .ref pg, .ref pp, .ref pz, .ref pv, .int pr_reason, .int pr_place, .ref pr_scanner_r, .int pr_stepCount, .int pr_open, .int pr_twoSides, .ref pr_waiting_r, .ref pr_waitingPlaces_r, .int pr_waitingCount])), (bo, .inr (1, [.ref bob, .int n31])), (bob, .inl (cbob, 8192, .inl f32))]) (w1 := [(h0, .inr (2, [.ref pr, .ref kn, .ref lt, .int h0_localCount, .ref pe, .int n35, .int h0_gives, .int h0_depth, .int h0_loopDepth, .ref to, .ref bo, .ref cs, .ref se])), (pe, .inl (cpe, 680, .inl n34))]) hP hD [1, 2] [0, 3, 4] rfl rfl (by decide) (by decide) hk1 hFc hP1 hD1
            clear hPc hDc hKc hFc hz1 hk1 hP1 hK1 hD1
            generalize H1 = H at hP hS ⊢
            have hP : va_P (dC, dI) cls [(pr, .inr (6, [.ref gl, .ref fu, .ref pa, .ref pf, .ref sf, .ref pk, .ref pg, .ref pp, .ref pz, .ref pv, .int pr_reason, .int pr_place, .ref pr_scanner_r, .int pr_stepCount, .int pr_open, .int pr_twoSides, .ref pr_waiting_r, .ref pr_waitingPlaces_r, .int pr_waitingCount])), (bo, .inr (1, [.ref bob, .int n31])), (bob, .inl (cbob, 8192, .inl f32)), (h0, .inr (2, [.ref pr, .ref kn, .ref lt, .int h0_localCount, .ref pe, .int n35, .int h0_gives, .int h0_depth, .int h0_loopDepth, .ref to, .ref bo, .ref cs, .ref se])), (pe, .inl (cpe, 680, .inl n34))] H := hP
            have hD : va_D A [(pr, .inr (6, [.ref gl, .ref fu, .ref pa, .ref pf, .ref sf, .ref pk, .ref pg, .ref pp, .ref pz, .ref pv, .int pr_reason, .int pr_place, .ref pr_scanner_r, .int pr_stepCount, .int pr_open, .int pr_twoSides, .ref pr_waiting_r, .ref pr_waitingPlaces_r, .int pr_waitingCount])), (bo, .inr (1, [.ref bob, .int n31])), (bob, .inl (cbob, 8192, .inl f32)), (h0, .inr (2, [.ref pr, .ref kn, .ref lt, .int h0_localCount, .ref pe, .int n35, .int h0_gives, .int h0_depth, .int h0_loopDepth, .ref to, .ref bo, .ref cs, .ref se])), (pe, .inl (cpe, 680, .inl n34))] := hD
            have hP9 := hP.sub (ws' := [(h0, .inr (2, [.ref pr, .ref kn, .ref lt, .int h0_localCount, .ref pe, .int n35, .int h0_gives, .int h0_depth, .int h0_loopDepth, .ref to, .ref bo, .ref cs, .ref se])), (pr, .inr (6, [.ref gl, .ref fu, .ref pa, .ref pf, .ref sf, .ref pk, .ref pg, .ref pp, .ref pz, .ref pv, .int pr_reason, .int pr_place, .ref pr_scanner_r, .int pr_stepCount, .int pr_open, .int pr_twoSides, .ref pr_waiting_r, .ref pr_waitingPlaces_r, .int pr_waitingCount])), (pe, .inl (cpe, 680, .inl n34)), (bo, .inr (1, [.ref bob, .int n31])), (bob, .inl (cbob, 8192, .inl f32))]) [3, 0, 4, 1, 2] rfl
            have hD9 := hD.sub (ws' := [(h0, .inr (2, [.ref pr, .ref kn, .ref lt, .int h0_localCount, .ref pe, .int n35, .int h0_gives, .int h0_depth, .int h0_loopDepth, .ref to, .ref bo, .ref cs, .ref se])), (pr, .inr (6, [.ref gl, .ref fu, .ref pa, .ref pf, .ref sf, .ref pk, .ref pg, .ref pp, .ref pz, .ref pv, .int pr_reason, .int pr_place, .ref pr_scanner_r, .int pr_stepCount, .int pr_open, .int pr_twoSides, .ref pr_waiting_r, .ref pr_waitingPlaces_r, .int pr_waitingCount])), (pe, .inl (cpe, 680, .inl n34)), (bo, .inr (1, [.ref bob, .int n31])), (bob, .inl (cbob, 8192, .inl f32))]) [3, 0, 4, 1, 2] (by decide) rfl
            exact tz_up (fun _ => rfl) (W.vret hx hb hr (fun t ht hW => ⟨⟨(f32, n34, n31, n35, pr_place, pr_reason), ⟨rfl, ⟨by (try dsimp only) <;> omega, bn35, ⟨by rw [show (h0_pendingCount.toInt - 1).toNat = n2.toNatClampNeg from by have := i32_clamp (x := n2) (by omega); omega, ← xr1.2]; omega, fun _ => ⟨by (try dsimp only) <;> omega, by rw [show (h0_pendingCount.toInt - 1).toNat = n2.toNatClampNeg from by have := i32_clamp (x := n2) (by omega); omega, ← xr1.2]; omega, by rw [show (h0_pendingCount.toInt - 1).toNat = n2.toNatClampNeg from by have := i32_clamp (x := n2) (by omega); omega, ← xr1.2]; exact xr33.2, by (try dsimp only) <;> omega, by (try dsimp only); rw [bn31 (by omega)]; rfl⟩, fun z => absurd z (by omega), fun z => absurd z (by omega)⟩⟩⟩, by rw [ht]; exact hP9, va_K.moved hW.alike hK, hD9⟩, hS.F ht⟩) hS.2.2 d_CO_codePrefix_171)
        · skip
          refine lv_icmp_ne (tgt := 43) hx hb d_CO_codePrefix_36 (by decide) (fun c36 => ?_) (fun c36 => ?_)
          · have q36 := neI c36
            refine lv_iconst (v := 0) hx hb d_CO_codePrefix_43 (by decide) ?_
            exact jn44 0 _ _ _ ⟨Or.inl rfl, hP, hD, hS, lv_sub hl [0, 1, 2] rfl⟩
          · have q36 := eqI c36
            refine lv_iconst (v := 1) hx hb d_CO_codePrefix_39 (by decide) ?_
            refine lv_goto (tgt := 44) hx hb d_CO_codePrefix_40 (by decide) ?_
            exact jn44 1 _ _ _ ⟨Or.inr rfl, hP, hD, hS, lv_sub hl [0, 1, 2] rfl⟩
      · skip
        refine lv_acmp_ne (rx := some (sg sa ka)) (ry := some (sg sa 34)) (tgt := 33) hx hb d_CO_codePrefix_15 (by decide) (fun c15 => ?_) (fun c15 => ?_)
        · have q15 : ka ≠ 34 := fun z => c15 (by rw [z])
          exact jn33 () _ _ _ ⟨⟨by omega, fun z => absurd z q15⟩, hP, hD, hS, lv_sub hl [1, 2, 0] rfl⟩
        · have q15 : ka = 34 := hSW.2.2.2.1.2 ka 34 ba0 (by decide : 34 < 55) (Option.some.inj c15)
          refine lv_iload_n hx hb d_CO_codePrefix_18 rfl (lv_at hl 0 rfl) ?_
          refine lv_bipush (v := 127) hx hb d_CO_codePrefix_19 (by decide) ?_
          refine lv_icmp_eq (tgt := 33) hx hb d_CO_codePrefix_21 (by decide) (fun c21 => ?_) (fun c21 => ?_)
          · have q21 := eqI c21
            exact jn33 () _ _ _ ⟨⟨by omega, fun _ => by omega⟩, hP, hD, hS, lv_sub hl [1, 2, 0] rfl⟩
          · have q21 := neI c21
            exact jn24 () _ _ _ ⟨hP, hD, hS, lv_sub hl [1, 3] rfl⟩

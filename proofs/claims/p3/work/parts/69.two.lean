/-! Coder: signs of two sides -/
theorem sg_two : ∀ k, k < 55 → 38 ≤ k → two (sg_code32.getD k 0).toInt ∧ two (sg_code64.getD k 0).toInt := by
  intro k h1 h2
  have q : k = 38 ∨ k = 39 ∨ k = 40 ∨ k = 41 ∨ k = 42 ∨ k = 43 ∨ k = 44 ∨ k = 45 ∨ k = 46 ∨ k = 47 ∨ k = 48 ∨ k = 49 ∨ k = 50 ∨ k = 51 ∨ k = 52 ∨ k = 53 ∨ k = 54 := by omega
  unfold two
  rcases q with rfl | rfl | rfl | rfl | rfl | rfl | rfl | rfl | rfl | rfl | rfl | rfl | rfl | rfl | rfl | rfl | rfl <;> decide
theorem sg_or : (sg_code32.getD 36 0).toInt = 71 ∧ (sg_code32.getD 37 0).toInt = 71 := by decide
abbrev b_CO_codeTwoSides : ByteArray := prog_4_method_9_code
def y_CO_codeTwoSides : MethodName := ⟨R_CO, "codeTwoSides", "(LWaferForge$Sign;I)V"⟩
abbrev w_CO_codeTwoSides : List Cond := .code y_CO_codeTwoSides b_CO_codeTwoSides 6 none :: lw_g
theorem kC_CO_codeTwoSides : Cond.code y_CO_codeTwoSides b_CO_codeTwoSides 6 none ∈ lw_g := in_g 1138 (by decide +kernel) rfl
theorem d_CO_codeTwoSides_0 : decode b_CO_codeTwoSides 0 = .ok (.aload_n 0, 1) := by decide +kernel
theorem d_CO_codeTwoSides_1 : decode b_CO_codeTwoSides 1 = .ok (.invokevirtual 224, 3) := by decide +kernel
theorem d_CO_codeTwoSides_4 : decode b_CO_codeTwoSides 4 = .ok (.istore_n 3, 1) := by decide +kernel
theorem d_CO_codeTwoSides_5 : decode b_CO_codeTwoSides 5 = .ok (.aload_n 0, 1) := by decide +kernel
theorem d_CO_codeTwoSides_6 : decode b_CO_codeTwoSides 6 = .ok (.invokevirtual 224, 3) := by decide +kernel
theorem d_CO_codeTwoSides_9 : decode b_CO_codeTwoSides 9 = .ok (.istore 4, 2) := by decide +kernel
theorem d_CO_codeTwoSides_11 : decode b_CO_codeTwoSides 11 = .ok (.aload_n 1, 1) := by decide +kernel
theorem d_CO_codeTwoSides_12 : decode b_CO_codeTwoSides 12 = .ok (.getstatic 221, 3) := by decide +kernel
theorem d_CO_codeTwoSides_15 : decode b_CO_codeTwoSides 15 = .ok (.if_acmp .eq 10, 3) := by decide +kernel
theorem d_CO_codeTwoSides_18 : decode b_CO_codeTwoSides 18 = .ok (.aload_n 1, 1) := by decide +kernel
theorem d_CO_codeTwoSides_19 : decode b_CO_codeTwoSides 19 = .ok (.getstatic 227, 3) := by decide +kernel
theorem d_CO_codeTwoSides_22 : decode b_CO_codeTwoSides 22 = .ok (.if_acmp .ne 7, 3) := by decide +kernel
theorem d_CO_codeTwoSides_25 : decode b_CO_codeTwoSides 25 = .ok (.iconst 1, 1) := by decide +kernel
theorem d_CO_codeTwoSides_26 : decode b_CO_codeTwoSides 26 = .ok (.goto 4, 3) := by decide +kernel
theorem d_CO_codeTwoSides_29 : decode b_CO_codeTwoSides 29 = .ok (.iconst 0, 1) := by decide +kernel
theorem d_CO_codeTwoSides_30 : decode b_CO_codeTwoSides 30 = .ok (.istore 5, 2) := by decide +kernel
theorem d_CO_codeTwoSides_32 : decode b_CO_codeTwoSides 32 = .ok (.iload 4, 2) := by decide +kernel
theorem d_CO_codeTwoSides_34 : decode b_CO_codeTwoSides 34 = .ok (.iload_n 3, 1) := by decide +kernel
theorem d_CO_codeTwoSides_35 : decode b_CO_codeTwoSides 35 = .ok (.if_icmp .ne 22, 3) := by decide +kernel
theorem d_CO_codeTwoSides_38 : decode b_CO_codeTwoSides 38 = .ok (.iload 4, 2) := by decide +kernel
theorem d_CO_codeTwoSides_40 : decode b_CO_codeTwoSides 40 = .ok (.bipush 64, 2) := by decide +kernel
theorem d_CO_codeTwoSides_42 : decode b_CO_codeTwoSides 42 = .ok (.if_icmp .eq 15, 3) := by decide +kernel
theorem d_CO_codeTwoSides_45 : decode b_CO_codeTwoSides 45 = .ok (.iload 5, 2) := by decide +kernel
theorem d_CO_codeTwoSides_47 : decode b_CO_codeTwoSides 47 = .ok (.ifCond .eq 19, 3) := by decide +kernel
theorem d_CO_codeTwoSides_50 : decode b_CO_codeTwoSides 50 = .ok (.iload 4, 2) := by decide +kernel
theorem d_CO_codeTwoSides_52 : decode b_CO_codeTwoSides 52 = .ok (.bipush 127, 2) := by decide +kernel
theorem d_CO_codeTwoSides_54 : decode b_CO_codeTwoSides 54 = .ok (.if_icmp .eq 12, 3) := by decide +kernel
theorem d_CO_codeTwoSides_57 : decode b_CO_codeTwoSides 57 = .ok (.aload_n 0, 1) := by decide +kernel
theorem d_CO_codeTwoSides_58 : decode b_CO_codeTwoSides 58 = .ok (.getfield 36, 3) := by decide +kernel
theorem d_CO_codeTwoSides_61 : decode b_CO_codeTwoSides 61 = .ok (.iconst 3, 1) := by decide +kernel
theorem d_CO_codeTwoSides_62 : decode b_CO_codeTwoSides 62 = .ok (.iload_n 2, 1) := by decide +kernel
theorem d_CO_codeTwoSides_63 : decode b_CO_codeTwoSides 63 = .ok (.invokevirtual 105, 3) := by decide +kernel
theorem d_CO_codeTwoSides_66 : decode b_CO_codeTwoSides 66 = .ok (.iload 5, 2) := by decide +kernel
theorem d_CO_codeTwoSides_68 : decode b_CO_codeTwoSides 68 = .ok (.ifCond .eq 20, 3) := by decide +kernel
theorem d_CO_codeTwoSides_71 : decode b_CO_codeTwoSides 71 = .ok (.aload_n 0, 1) := by decide +kernel
theorem d_CO_codeTwoSides_72 : decode b_CO_codeTwoSides 72 = .ok (.getfield 26, 3) := by decide +kernel
theorem d_CO_codeTwoSides_75 : decode b_CO_codeTwoSides 75 = .ok (.bipush 65, 2) := by decide +kernel
theorem d_CO_codeTwoSides_77 : decode b_CO_codeTwoSides 77 = .ok (.invokevirtual 76, 3) := by decide +kernel
theorem d_CO_codeTwoSides_80 : decode b_CO_codeTwoSides 80 = .ok (.aload_n 0, 1) := by decide +kernel
theorem d_CO_codeTwoSides_81 : decode b_CO_codeTwoSides 81 = .ok (.getfield 26, 3) := by decide +kernel
theorem d_CO_codeTwoSides_84 : decode b_CO_codeTwoSides 84 = .ok (.iconst 0, 1) := by decide +kernel
theorem d_CO_codeTwoSides_85 : decode b_CO_codeTwoSides 85 = .ok (.invokevirtual 76, 3) := by decide +kernel
theorem d_CO_codeTwoSides_88 : decode b_CO_codeTwoSides 88 = .ok (.aload_n 0, 1) := by decide +kernel
theorem d_CO_codeTwoSides_89 : decode b_CO_codeTwoSides 89 = .ok (.getfield 26, 3) := by decide +kernel
theorem d_CO_codeTwoSides_92 : decode b_CO_codeTwoSides 92 = .ok (.iload 4, 2) := by decide +kernel
theorem d_CO_codeTwoSides_94 : decode b_CO_codeTwoSides 94 = .ok (.bipush 127, 2) := by decide +kernel
theorem d_CO_codeTwoSides_96 : decode b_CO_codeTwoSides 96 = .ok (.if_icmp .ne 10, 3) := by decide +kernel
theorem d_CO_codeTwoSides_99 : decode b_CO_codeTwoSides 99 = .ok (.aload_n 1, 1) := by decide +kernel
theorem d_CO_codeTwoSides_100 : decode b_CO_codeTwoSides 100 = .ok (.getfield 230, 3) := by decide +kernel
theorem d_CO_codeTwoSides_103 : decode b_CO_codeTwoSides 103 = .ok (.goto 7, 3) := by decide +kernel
theorem d_CO_codeTwoSides_106 : decode b_CO_codeTwoSides 106 = .ok (.aload_n 1, 1) := by decide +kernel
theorem d_CO_codeTwoSides_107 : decode b_CO_codeTwoSides 107 = .ok (.getfield 233, 3) := by decide +kernel
theorem d_CO_codeTwoSides_110 : decode b_CO_codeTwoSides 110 = .ok (.invokevirtual 76, 3) := by decide +kernel
theorem d_CO_codeTwoSides_113 : decode b_CO_codeTwoSides 113 = .ok (.aload_n 1, 1) := by decide +kernel
theorem d_CO_codeTwoSides_114 : decode b_CO_codeTwoSides 114 = .ok (.getstatic 227, 3) := by decide +kernel
theorem d_CO_codeTwoSides_117 : decode b_CO_codeTwoSides 117 = .ok (.if_acmp .ne 28, 3) := by decide +kernel
theorem d_CO_codeTwoSides_120 : decode b_CO_codeTwoSides 120 = .ok (.aload_n 0, 1) := by decide +kernel
theorem d_CO_codeTwoSides_121 : decode b_CO_codeTwoSides 121 = .ok (.getfield 26, 3) := by decide +kernel
theorem d_CO_codeTwoSides_124 : decode b_CO_codeTwoSides 124 = .ok (.iconst 5, 1) := by decide +kernel
theorem d_CO_codeTwoSides_125 : decode b_CO_codeTwoSides 125 = .ok (.invokevirtual 76, 3) := by decide +kernel
theorem d_CO_codeTwoSides_128 : decode b_CO_codeTwoSides 128 = .ok (.aload_n 0, 1) := by decide +kernel
theorem d_CO_codeTwoSides_129 : decode b_CO_codeTwoSides 129 = .ok (.getfield 26, 3) := by decide +kernel
theorem d_CO_codeTwoSides_132 : decode b_CO_codeTwoSides 132 = .ok (.bipush 65, 2) := by decide +kernel
theorem d_CO_codeTwoSides_134 : decode b_CO_codeTwoSides 134 = .ok (.invokevirtual 76, 3) := by decide +kernel
theorem d_CO_codeTwoSides_137 : decode b_CO_codeTwoSides 137 = .ok (.aload_n 0, 1) := by decide +kernel
theorem d_CO_codeTwoSides_138 : decode b_CO_codeTwoSides 138 = .ok (.getfield 26, 3) := by decide +kernel
theorem d_CO_codeTwoSides_141 : decode b_CO_codeTwoSides 141 = .ok (.iconst 0, 1) := by decide +kernel
theorem d_CO_codeTwoSides_142 : decode b_CO_codeTwoSides 142 = .ok (.invokevirtual 76, 3) := by decide +kernel
theorem d_CO_codeTwoSides_145 : decode b_CO_codeTwoSides 145 = .ok (.iload 5, 2) := by decide +kernel
theorem d_CO_codeTwoSides_147 : decode b_CO_codeTwoSides 147 = .ok (.ifCond .eq 12, 3) := by decide +kernel
theorem d_CO_codeTwoSides_150 : decode b_CO_codeTwoSides 150 = .ok (.aload_n 0, 1) := by decide +kernel
theorem d_CO_codeTwoSides_151 : decode b_CO_codeTwoSides 151 = .ok (.getfield 26, 3) := by decide +kernel
theorem d_CO_codeTwoSides_154 : decode b_CO_codeTwoSides 154 = .ok (.bipush 11, 2) := by decide +kernel
theorem d_CO_codeTwoSides_156 : decode b_CO_codeTwoSides 156 = .ok (.invokevirtual 76, 3) := by decide +kernel
theorem d_CO_codeTwoSides_159 : decode b_CO_codeTwoSides 159 = .ok (.aload_n 0, 1) := by decide +kernel
theorem d_CO_codeTwoSides_160 : decode b_CO_codeTwoSides 160 = .ok (.aload_n 1, 1) := by decide +kernel
theorem d_CO_codeTwoSides_161 : decode b_CO_codeTwoSides 161 = .ok (.getfield 236, 3) := by decide +kernel
theorem d_CO_codeTwoSides_164 : decode b_CO_codeTwoSides 164 = .ok (.iconst 3, 1) := by decide +kernel
theorem d_CO_codeTwoSides_165 : decode b_CO_codeTwoSides 165 = .ok (.if_icmp .ne 8, 3) := by decide +kernel
theorem d_CO_codeTwoSides_168 : decode b_CO_codeTwoSides 168 = .ok (.bipush 127, 2) := by decide +kernel
theorem d_CO_codeTwoSides_170 : decode b_CO_codeTwoSides 170 = .ok (.goto 5, 3) := by decide +kernel
theorem d_CO_codeTwoSides_173 : decode b_CO_codeTwoSides 173 = .ok (.iload 4, 2) := by decide +kernel
theorem d_CO_codeTwoSides_175 : decode b_CO_codeTwoSides 175 = .ok (.invokevirtual 183, 3) := by decide +kernel
theorem d_CO_codeTwoSides_178 : decode b_CO_codeTwoSides 178 = .ok (.return_, 1) := by decide +kernel
theorem kF_CO_227 : Cond.fieldLink R_CO 227 "WaferForge$Sign" "AND" "LWaferForge$Sign;" ∈ lw_g := in_g 1143 (by decide +kernel) rfl
theorem kF_CO_236 : Cond.fieldLink R_CO 236 "WaferForge$Sign" "level" "I" ∈ lw_g := in_g 3117 (by decide +kernel) rfl
theorem kF_CO_233 : Cond.fieldLink R_CO 233 "WaferForge$Sign" "code64" "I" ∈ lw_g := in_g 3116 (by decide +kernel) rfl
theorem kF_CO_230 : Cond.fieldLink R_CO 230 "WaferForge$Sign" "code32" "I" ∈ lw_g := in_g 3115 (by decide +kernel) rfl
abbrev at_CO_codeTwoSides (dC : Nat → ClassId) (dI : Nat → Nat → Nat) (sa : Nat → Nat) (h0 pr kn lt pe to bo cs se gl fu pa pf sf pk pg pp pz pv pr_scanner_r pr_waiting_r pr_waitingPlaces_r bob : Nat) (cpe cbob : ClassId) (h0_localCount : Int32) (h0_gives : Int32) (h0_depth : Int32) (h0_loopDepth : Int32) (pr_stepCount : Int32) (pr_open : Int32) (pr_twoSides : Int32) (pr_waitingCount : Int32) (A : Nat → Prop) (u : (Nat → Int32) × (Nat → Int32) × Int32 × Int32 × Int32 × Int32) (t : State) : Prop := match u with | (gbob, gpe, bo_length, h0_pendingCount, pr_place, pr_reason) => va_P (dC, dI) cls [(h0, .inr (2, [.ref pr, .ref kn, .ref lt, .int h0_localCount, .ref pe, .int h0_pendingCount, .int h0_gives, .int h0_depth, .int h0_loopDepth, .ref to, .ref bo, .ref cs, .ref se])), (pr, .inr (6, [.ref gl, .ref fu, .ref pa, .ref pf, .ref sf, .ref pk, .ref pg, .ref pp, .ref pz, .ref pv, .int pr_reason, .int pr_place, .ref pr_scanner_r, .int pr_stepCount, .int pr_open, .int pr_twoSides, .ref pr_waiting_r, .ref pr_waitingPlaces_r, .int pr_waitingCount])), (pe, .inl (cpe, 680, .inl gpe)), (bo, .inr (1, [.ref bob, .int bo_length])), (bob, .inl (cbob, 8192, .inl gbob))] t.heap ∧ va_K (dC, dI) cls [(cpe, .int), (cbob, .byte)] t ∧ va_D A [(h0, .inr (2, [.ref pr, .ref kn, .ref lt, .int h0_localCount, .ref pe, .int h0_pendingCount, .int h0_gives, .int h0_depth, .int h0_loopDepth, .ref to, .ref bo, .ref cs, .ref se])), (pr, .inr (6, [.ref gl, .ref fu, .ref pa, .ref pf, .ref sf, .ref pk, .ref pg, .ref pp, .ref pz, .ref pv, .int pr_reason, .int pr_place, .ref pr_scanner_r, .int pr_stepCount, .int pr_open, .int pr_twoSides, .ref pr_waiting_r, .ref pr_waitingPlaces_r, .int pr_waitingCount])), (pe, .inl (cpe, 680, .inl gpe)), (bo, .inr (1, [.ref bob, .int bo_length])), (bob, .inl (cbob, 8192, .inl gbob))]
set_option maxHeartbeats 4000000 in
set_option maxRecDepth 100000 in
theorem c_CO_codeTwoSides (l : Launch) (hlt : l.stackTraces = false) (dC : Nat → ClassId) (dI : Nat → Nat → Nat) (sz : Nat) (sa : Nat → Nat) (h0 pr kn lt pe to bo cs se gl fu pa pf sf pk pg pp pz pv pr_scanner_r pr_waiting_r pr_waitingPlaces_r bob : Nat) (cpe cbob : ClassId) (h0_localCount : Int32) (h0_pendingCount : Int32) (h0_gives : Int32) (h0_depth : Int32) (h0_loopDepth : Int32) (pr_reason : Int32) (pr_place : Int32) (pr_stepCount : Int32) (pr_open : Int32) (pr_twoSides : Int32) (pr_waitingCount : Int32) (gpe : Nat → Int32) (bo_length : Int32) (gbob : Nat → Int32)  (b_h0_pendingCount : 0 ≤ h0_pendingCount.toInt ∧ h0_pendingCount.toInt ≤ 680) (b_bo_length : 0 ≤ bo_length.toInt ∧ bo_length.toInt ≤ 8192) (ka : Nat) (p1 : Int32) (ba0 : ka < 55) (hpc : 2 ≤ h0_pendingCount.toInt) (hka : 36 ≤ ka ∧ ka < 55) (hty : (gpe (h0_pendingCount.toInt - 2).toNat).toInt = 127 ∨ (gpe (h0_pendingCount.toInt - 2).toNat).toInt = 126 ∨ (gpe (h0_pendingCount.toInt - 2).toNat).toInt = 64) (hbo : bo_length.toInt + 7 ≤ 8192) : tz_Met l y_CO_codeTwoSides w_CO_codeTwoSides ({ frames := 7, cells := 1, slots := 6, locals := 112 }) (va_Pc [.ref h0, .ref (sg sa ka), .int p1] (fun U => U.heap.size = sz ∧ va_P (dC, dI) cls [(h0, .inr (2, [.ref pr, .ref kn, .ref lt, .int h0_localCount, .ref pe, .int h0_pendingCount, .int h0_gives, .int h0_depth, .int h0_loopDepth, .ref to, .ref bo, .ref cs, .ref se])), (pr, .inr (6, [.ref gl, .ref fu, .ref pa, .ref pf, .ref sf, .ref pk, .ref pg, .ref pp, .ref pz, .ref pv, .int pr_reason, .int pr_place, .ref pr_scanner_r, .int pr_stepCount, .int pr_open, .int pr_twoSides, .ref pr_waiting_r, .ref pr_waitingPlaces_r, .int pr_waitingCount])), (pe, .inl (cpe, 680, .inl gpe)), (bo, .inr (1, [.ref bob, .int bo_length])), (bob, .inl (cbob, 8192, .inl gbob))] U.heap ∧ va_K (dC, dI) cls [(cpe, .int), (cbob, .byte)] U ∧ va_D (fun _ => True) [(h0, .inr (2, [.ref pr, .ref kn, .ref lt, .int h0_localCount, .ref pe, .int h0_pendingCount, .int h0_gives, .int h0_depth, .int h0_loopDepth, .ref to, .ref bo, .ref cs, .ref se])), (pr, .inr (6, [.ref gl, .ref fu, .ref pa, .ref pf, .ref sf, .ref pk, .ref pg, .ref pp, .ref pz, .ref pv, .int pr_reason, .int pr_place, .ref pr_scanner_r, .int pr_stepCount, .int pr_open, .int pr_twoSides, .ref pr_waiting_r, .ref pr_waitingPlaces_r, .int pr_waitingCount])), (pe, .inl (cpe, 680, .inl gpe)), (bo, .inr (1, [.ref bob, .int bo_length])), (bob, .inl (cbob, 8192, .inl gbob))] ∧ sw sa (va_A [(h0, .inr (2, [.ref pr, .ref kn, .ref lt, .int h0_localCount, .ref pe, .int h0_pendingCount, .int h0_gives, .int h0_depth, .int h0_loopDepth, .ref to, .ref bo, .ref cs, .ref se])), (pr, .inr (6, [.ref gl, .ref fu, .ref pa, .ref pf, .ref sf, .ref pk, .ref pg, .ref pp, .ref pz, .ref pv, .int pr_reason, .int pr_place, .ref pr_scanner_r, .int pr_stepCount, .int pr_open, .int pr_twoSides, .ref pr_waiting_r, .ref pr_waitingPlaces_r, .int pr_waitingCount])), (pe, .inl (cpe, 680, .inl gpe)), (bo, .inr (1, [.ref bob, .int bo_length])), (bob, .inl (cbob, 8192, .inl gbob))] sz) U U.heap)) (tq_Q (tq_v (fun (u : (Nat → Int32) × (Nat → Int32) × Int32 × Int32 × Int32 × Int32) => match u with | (gbob2, gpe2, bo_length2, h0_pendingCount2, pr_place2, pr_reason2) => (0 ≤ bo_length2.toInt ∧ bo_length2.toInt ≤ 8192) ∧ (0 ≤ h0_pendingCount2.toInt ∧ h0_pendingCount2.toInt ≤ 680) ∧ (h0_pendingCount2.toInt = h0_pendingCount.toInt - 1 ∧ (gpe (h0_pendingCount.toInt - 1).toNat).toInt ≠ 64 ∧ (gpe (h0_pendingCount.toInt - 2).toNat).toInt ≠ 64 ∧ ((ka = 36 ∨ ka = 37) → (gpe (h0_pendingCount.toInt - 1).toNat).toInt = 127 ∧ (gpe (h0_pendingCount.toInt - 2).toNat).toInt = 127) ∧ (∃ y : Int32, gpe2 = upd gpe (h0_pendingCount.toInt - 2).toNat y ∧ ((ka = 36 ∨ ka = 37) → y.toInt = 127) ∧ (y.toInt = 127 ∨ y.toInt = 126)) ∧ ∃ M : List Nat, bl gbob2 bo_length2.toNatClampNeg = bl gbob bo_length.toNatClampNeg ++ M ∧ ((ka = 36 → M = [65, 0, 71, 11]) ∧ (ka = 37 → M = [65, 0, 71, 5, 65, 0, 11]) ∧ (38 ≤ ka → ∃ op : Int, two op ∧ M = [op.toNat])) ∧ bo_length2.toInt = bo_length.toInt + (M.length : Int))) "java/lang/UnsupportedOperationException" (fun (u : (Nat → Int32) × (Nat → Int32) × Int32 × Int32 × Int32 × Int32) => match u with | (gbob2, gpe2, bo_length2, h0_pendingCount2, pr_place2, pr_reason2) => (0 ≤ bo_length2.toInt ∧ bo_length2.toInt ≤ 8192) ∧ (0 ≤ h0_pendingCount2.toInt ∧ h0_pendingCount2.toInt ≤ 680))) (at_CO_codeTwoSides dC dI sa h0 pr kn lt pe to bo cs se gl fu pa pf sf pk pg pp pz pv pr_scanner_r pr_waiting_r pr_waitingPlaces_r bob cpe cbob h0_localCount h0_gives h0_depth h0_loopDepth pr_stepCount pr_open pr_twoSides pr_waitingCount (va_A [(h0, .inr (2, [.ref pr, .ref kn, .ref lt, .int h0_localCount, .ref pe, .int h0_pendingCount, .int h0_gives, .int h0_depth, .int h0_loopDepth, .ref to, .ref bo, .ref cs, .ref se])), (pr, .inr (6, [.ref gl, .ref fu, .ref pa, .ref pf, .ref sf, .ref pk, .ref pg, .ref pp, .ref pz, .ref pv, .int pr_reason, .int pr_place, .ref pr_scanner_r, .int pr_stepCount, .int pr_open, .int pr_twoSides, .ref pr_waiting_r, .ref pr_waitingPlaces_r, .int pr_waitingCount])), (pe, .inl (cpe, 680, .inl gpe)), (bo, .inr (1, [.ref bob, .int bo_length])), (bob, .inl (cbob, 8192, .inl gbob))] sz)) (va_A [(h0, .inr (2, [.ref pr, .ref kn, .ref lt, .int h0_localCount, .ref pe, .int h0_pendingCount, .int h0_gives, .int h0_depth, .int h0_loopDepth, .ref to, .ref bo, .ref cs, .ref se])), (pr, .inr (6, [.ref gl, .ref fu, .ref pa, .ref pf, .ref sf, .ref pk, .ref pg, .ref pp, .ref pz, .ref pv, .int pr_reason, .int pr_place, .ref pr_scanner_r, .int pr_stepCount, .int pr_open, .int pr_twoSides, .ref pr_waiting_r, .ref pr_waitingPlaces_r, .int pr_waitingCount])), (pe, .inl (cpe, 680, .inl gpe)), (bo, .inr (1, [.ref bob, .int bo_length])), (bob, .inl (cbob, 8192, .inl gbob))] sz)) (tz_k 0 0 1 6) (va_A [(h0, .inr (2, [.ref pr, .ref kn, .ref lt, .int h0_localCount, .ref pe, .int h0_pendingCount, .int h0_gives, .int h0_depth, .int h0_loopDepth, .ref to, .ref bo, .ref cs, .ref se])), (pr, .inr (6, [.ref gl, .ref fu, .ref pa, .ref pf, .ref sf, .ref pk, .ref pg, .ref pp, .ref pz, .ref pv, .int pr_reason, .int pr_place, .ref pr_scanner_r, .int pr_stepCount, .int pr_open, .int pr_twoSides, .ref pr_waiting_r, .ref pr_waitingPlaces_r, .int pr_waitingCount])), (pe, .inl (cpe, 680, .inl gpe)), (bo, .inr (1, [.ref bob, .int bo_length])), (bob, .inl (cbob, 8192, .inl gbob))] sz) := by
  refine tz_ofW (cc := b_CO_codeTwoSides) (maxL := 6) (ret := none) (by decide) rfl ?_
  intro p e s m args below meth c s₁ B hml hno hv
  obtain ⟨rfl, hsz, hP, hK, hD0, hSW⟩ := hv
  have hx := B.exec
  have hb := B.bytes
  have hr := B.returns
  have hts0 := atoms_spec (ws := w_CO_codeTwoSides) B.pre
  have hts : ∀ w ∈ lw_g, w.before _ s = true := fun w h => hts0 w (List.mem_cons_of_mem _ h)
  have hown : s.vm.findClass R_CO = some m.cls := findClass_of_methodNamed B.named
  have hlocks := B.notSynchronized
  clear hts0
  subst hsz
  have hD := hD0.self (sz := s.heap.size)
  generalize hAe : va_A [(h0, .inr (2, [.ref pr, .ref kn, .ref lt, .int h0_localCount, .ref pe, .int h0_pendingCount, .int h0_gives, .int h0_depth, .int h0_loopDepth, .ref to, .ref bo, .ref cs, .ref se])), (pr, .inr (6, [.ref gl, .ref fu, .ref pa, .ref pf, .ref sf, .ref pk, .ref pg, .ref pp, .ref pz, .ref pv, .int pr_reason, .int pr_place, .ref pr_scanner_r, .int pr_stepCount, .int pr_open, .int pr_twoSides, .ref pr_waiting_r, .ref pr_waitingPlaces_r, .int pr_waitingCount])), (pe, .inl (cpe, 680, .inl gpe)), (bo, .inr (1, [.ref bob, .int bo_length])), (bob, .inl (cbob, 8192, .inl gbob))] s.heap.size = A at hD hSW ⊢
  have hA : ∀ q : Nat, s.heap.size ≤ q → A q := fun q h => by rw [← hAe]; exact Or.inr h
  clear hAe
  have hP : va_P (dC, dI) cls [(h0, .inr (2, [.ref pr, .ref kn, .ref lt, .int h0_localCount, .ref pe, .int h0_pendingCount, .int h0_gives, .int h0_depth, .int h0_loopDepth, .ref to, .ref bo, .ref cs, .ref se])), (pr, .inr (6, [.ref gl, .ref fu, .ref pa, .ref pf, .ref sf, .ref pk, .ref pg, .ref pp, .ref pz, .ref pv, .int pr_reason, .int pr_place, .ref pr_scanner_r, .int pr_stepCount, .int pr_open, .int pr_twoSides, .ref pr_waiting_r, .ref pr_waitingPlaces_r, .int pr_waitingCount])), (pe, .inl (cpe, 680, .inl gpe)), (bo, .inr (1, [.ref bob, .int bo_length])), (bob, .inl (cbob, 8192, .inl gbob))] s.heap := hP
  have hl := lv_entry ([.ref h0, .ref (sg sa ka), .int p1]) (n := 6) (Nat.le_of_ble_eq_true rfl)
  rw [lg_entry_eq]
  generalize (lg_sl ([.ref h0, .ref (sg sa ka), .int p1]) ++ List.replicate (6 - (lg_sl ([.ref h0, .ref (sg sa ka), .int p1])).length) Slot.unset).toArray = ls at hl ⊢
  have hl : lv_has ls 6 [(0, .ref h0), (1, .ref (sg sa ka)), (2, .int p1)] := hl
  have k0 : (0 : Int32).toInt = 0 := by decide
  refine w_gen (A := A) hP (fun H locs hP hS => ?_)
  have k1 : (1 : Int32).toInt = 1 := by decide
  have k3 : (3 : Int32).toInt = 3 := by decide
  have k5 : (5 : Int32).toInt = 5 := by decide
  have k11 : (11 : Int32).toInt = 11 := by decide
  have k64 : (64 : Int32).toInt = 64 := by decide
  have k65 : (65 : Int32).toInt = 65 := by decide
  have k127 : (127 : Int32).toInt = 127 := by decide
  have lo_p1 := i32_lo p1
  have hi_p1 := i32_hi p1
  refine lv_aload_n hx hb d_CO_codeTwoSides_0 rfl (lv_at hl 0 rfl) ?_
  have hPc := hP.sub (ws' := [(h0, .inr (2, [.ref pr, .ref kn, .ref lt, .int h0_localCount, .ref pe, .int h0_pendingCount, .int h0_gives, .int h0_depth, .int h0_loopDepth, .ref to, .ref bo, .ref cs, .ref se])), (pe, .inl (cpe, 680, .inl gpe))]) [0, 2] rfl
  have hDc := hD.sub (ws' := [(h0, .inr (2, [.ref pr, .ref kn, .ref lt, .int h0_localCount, .ref pe, .int h0_pendingCount, .int h0_gives, .int h0_depth, .int h0_loopDepth, .ref to, .ref bo, .ref cs, .ref se])), (pe, .inl (cpe, 680, .inl gpe))]) [0, 2] (by decide) rfl
  have hKc := hK.sub (tys' := [(cpe, .int)]) [0] rfl
  have hFc := va_free (wc := [(h0, .inr (2, [.ref pr, .ref kn, .ref lt, .int h0_localCount, .ref pe, .int h0_pendingCount, .int h0_gives, .int h0_depth, .int h0_loopDepth, .ref to, .ref bo, .ref cs, .ref se])), (pe, .inl (cpe, 680, .inl gpe))]) hD hS hA [0, 2] rfl
  refine va_calli (va_runV (As := []) (rest := []) ⟨hx, hb, hml, hown, hts⟩ (c_CO_pop l dC dI H.size h0 pr kn lt pe to bo cs se cpe h0_localCount h0_pendingCount h0_gives h0_depth h0_loopDepth gpe (b_h0_pendingCount) (by (try dsimp only) <;> omega)) (cwV 0 hts (gV kM_CO_224 kV_CO_pop kS_CO_pop kI_CO kC_CO_pop) rfl rfl rfl (by decide +kernel) ⟨Nat.le_of_ble_eq_true rfl, Nat.le_of_ble_eq_true rfl⟩) ⟨fun a U g mk z => by obtain ⟨z0, z1, zP, zK, zD⟩ := z; exact ⟨z0, z1, zP, va_K.moved (u := U) (U := U.calling g mk a) (Vm.Alike.refl U.vm) zK, zD⟩, va_recv hKc hPc (ci := 2) (q0 := 0) rfl rfl, fun U hU hW => ⟨rfl, by rw [hU], by rw [hU]; exact hPc, va_K.moved hW.alike hKc, hDc.weaken (fun _ _ _ _ => trivial)⟩⟩ rfl rfl hl.1 rfl (lv_room (Nat.le_of_ble_eq_true rfl)) d_CO_codeTwoSides_1 ⟨(Nat.zero_le _), (Nat.zero_le _)⟩) hS (fun q _ h => hFc q h) hFc (fun r1 u t H1 locs ht hvm hw hB hz1 hk1 hS => ?_)
  obtain ⟨n2, rfl⟩ : ∃ z, z = u := ⟨_, rfl⟩
  try dsimp only at hw
  obtain ⟨bn2, xr1⟩ := hw
  try clear hw
  obtain ⟨hP1, hK1, hD1⟩ := hB
  rw [ht] at hP1
  obtain ⟨hP, hD⟩ := va_join (wr := [(pr, .inr (6, [.ref gl, .ref fu, .ref pa, .ref pf, .ref sf, .ref pk, .ref pg, .ref pp, .ref pz, .ref pv, .int pr_reason, .int pr_place, .ref pr_scanner_r, .int pr_stepCount, .int pr_open, .int pr_twoSides, .ref pr_waiting_r, .ref pr_waitingPlaces_r, .int pr_waitingCount])), (bo, .inr (1, [.ref bob, .int bo_length])), (bob, .inl (cbob, 8192, .inl gbob))]) (w1 := [(h0, .inr (2, [.ref pr, .ref kn, .ref lt, .int h0_localCount, .ref pe, .int n2, .int h0_gives, .int h0_depth, .int h0_loopDepth, .ref to, .ref bo, .ref cs, .ref se])), (pe, .inl (cpe, 680, .inl gpe))]) hP hD [0, 2] [1, 3, 4] rfl rfl (by decide) (by decide) hk1 hFc hP1 hD1
  clear hPc hDc hKc hFc hz1 hk1 hP1 hK1 hD1
  generalize H1 = H at hP hS ⊢
  have hP : va_P (dC, dI) cls [(pr, .inr (6, [.ref gl, .ref fu, .ref pa, .ref pf, .ref sf, .ref pk, .ref pg, .ref pp, .ref pz, .ref pv, .int pr_reason, .int pr_place, .ref pr_scanner_r, .int pr_stepCount, .int pr_open, .int pr_twoSides, .ref pr_waiting_r, .ref pr_waitingPlaces_r, .int pr_waitingCount])), (bo, .inr (1, [.ref bob, .int bo_length])), (bob, .inl (cbob, 8192, .inl gbob)), (h0, .inr (2, [.ref pr, .ref kn, .ref lt, .int h0_localCount, .ref pe, .int n2, .int h0_gives, .int h0_depth, .int h0_loopDepth, .ref to, .ref bo, .ref cs, .ref se])), (pe, .inl (cpe, 680, .inl gpe))] H := hP
  have hD : va_D A [(pr, .inr (6, [.ref gl, .ref fu, .ref pa, .ref pf, .ref sf, .ref pk, .ref pg, .ref pp, .ref pz, .ref pv, .int pr_reason, .int pr_place, .ref pr_scanner_r, .int pr_stepCount, .int pr_open, .int pr_twoSides, .ref pr_waiting_r, .ref pr_waitingPlaces_r, .int pr_waitingCount])), (bo, .inr (1, [.ref bob, .int bo_length])), (bob, .inl (cbob, 8192, .inl gbob)), (h0, .inr (2, [.ref pr, .ref kn, .ref lt, .int h0_localCount, .ref pe, .int n2, .int h0_gives, .int h0_depth, .int h0_loopDepth, .ref to, .ref bo, .ref cs, .ref se])), (pe, .inl (cpe, 680, .inl gpe))] := hD
  refine lv_istore_n (lv' := [(3, .int r1), (0, .ref h0), (1, .ref (sg sa ka)), (2, .int p1)]) hx hb d_CO_codeTwoSides_4 rfl hl (by decide) rfl (fun ls hl => ?_)
  refine lv_aload_n hx hb d_CO_codeTwoSides_5 rfl (lv_at hl 1 rfl) ?_
  have hPc := hP.sub (ws' := [(h0, .inr (2, [.ref pr, .ref kn, .ref lt, .int h0_localCount, .ref pe, .int n2, .int h0_gives, .int h0_depth, .int h0_loopDepth, .ref to, .ref bo, .ref cs, .ref se])), (pe, .inl (cpe, 680, .inl gpe))]) [3, 4] rfl
  have hDc := hD.sub (ws' := [(h0, .inr (2, [.ref pr, .ref kn, .ref lt, .int h0_localCount, .ref pe, .int n2, .int h0_gives, .int h0_depth, .int h0_loopDepth, .ref to, .ref bo, .ref cs, .ref se])), (pe, .inl (cpe, 680, .inl gpe))]) [3, 4] (by decide) rfl
  have hKc := hK.sub (tys' := [(cpe, .int)]) [0] rfl
  have hFc := va_free (wc := [(h0, .inr (2, [.ref pr, .ref kn, .ref lt, .int h0_localCount, .ref pe, .int n2, .int h0_gives, .int h0_depth, .int h0_loopDepth, .ref to, .ref bo, .ref cs, .ref se])), (pe, .inl (cpe, 680, .inl gpe))]) hD hS hA [3, 4] rfl
  refine va_calli (va_runV (As := []) (rest := []) ⟨hx, hb, hml, hown, hts⟩ (c_CO_pop l dC dI H.size h0 pr kn lt pe to bo cs se cpe h0_localCount n2 h0_gives h0_depth h0_loopDepth gpe (bn2) (by (try dsimp only) <;> omega)) (cwV 0 hts (gV kM_CO_224 kV_CO_pop kS_CO_pop kI_CO kC_CO_pop) rfl rfl rfl (by decide +kernel) ⟨Nat.le_of_ble_eq_true rfl, Nat.le_of_ble_eq_true rfl⟩) ⟨fun a U g mk z => by obtain ⟨z0, z1, zP, zK, zD⟩ := z; exact ⟨z0, z1, zP, va_K.moved (u := U) (U := U.calling g mk a) (Vm.Alike.refl U.vm) zK, zD⟩, va_recv hKc hPc (ci := 2) (q0 := 0) rfl rfl, fun U hU hW => ⟨rfl, by rw [hU], by rw [hU]; exact hPc, va_K.moved hW.alike hKc, hDc.weaken (fun _ _ _ _ => trivial)⟩⟩ rfl rfl hl.1 rfl (lv_room (Nat.le_of_ble_eq_true rfl)) d_CO_codeTwoSides_6 ⟨(Nat.zero_le _), (Nat.zero_le _)⟩) hS (fun q _ h => hFc q h) hFc (fun r3 u t H1 locs ht hvm hw hB hz1 hk1 hS => ?_)
  obtain ⟨n4, rfl⟩ : ∃ z, z = u := ⟨_, rfl⟩
  try dsimp only at hw
  obtain ⟨bn4, xr3⟩ := hw
  try clear hw
  obtain ⟨hP1, hK1, hD1⟩ := hB
  rw [ht] at hP1
  obtain ⟨hP, hD⟩ := va_join (wr := [(pr, .inr (6, [.ref gl, .ref fu, .ref pa, .ref pf, .ref sf, .ref pk, .ref pg, .ref pp, .ref pz, .ref pv, .int pr_reason, .int pr_place, .ref pr_scanner_r, .int pr_stepCount, .int pr_open, .int pr_twoSides, .ref pr_waiting_r, .ref pr_waitingPlaces_r, .int pr_waitingCount])), (bo, .inr (1, [.ref bob, .int bo_length])), (bob, .inl (cbob, 8192, .inl gbob))]) (w1 := [(h0, .inr (2, [.ref pr, .ref kn, .ref lt, .int h0_localCount, .ref pe, .int n4, .int h0_gives, .int h0_depth, .int h0_loopDepth, .ref to, .ref bo, .ref cs, .ref se])), (pe, .inl (cpe, 680, .inl gpe))]) hP hD [3, 4] [0, 1, 2] rfl rfl (by decide) (by decide) hk1 hFc hP1 hD1
  clear hPc hDc hKc hFc hz1 hk1 hP1 hK1 hD1
  generalize H1 = H at hP hS ⊢
  have hP : va_P (dC, dI) cls [(pr, .inr (6, [.ref gl, .ref fu, .ref pa, .ref pf, .ref sf, .ref pk, .ref pg, .ref pp, .ref pz, .ref pv, .int pr_reason, .int pr_place, .ref pr_scanner_r, .int pr_stepCount, .int pr_open, .int pr_twoSides, .ref pr_waiting_r, .ref pr_waitingPlaces_r, .int pr_waitingCount])), (bo, .inr (1, [.ref bob, .int bo_length])), (bob, .inl (cbob, 8192, .inl gbob)), (h0, .inr (2, [.ref pr, .ref kn, .ref lt, .int h0_localCount, .ref pe, .int n4, .int h0_gives, .int h0_depth, .int h0_loopDepth, .ref to, .ref bo, .ref cs, .ref se])), (pe, .inl (cpe, 680, .inl gpe))] H := hP
  have hD : va_D A [(pr, .inr (6, [.ref gl, .ref fu, .ref pa, .ref pf, .ref sf, .ref pk, .ref pg, .ref pp, .ref pz, .ref pv, .int pr_reason, .int pr_place, .ref pr_scanner_r, .int pr_stepCount, .int pr_open, .int pr_twoSides, .ref pr_waiting_r, .ref pr_waitingPlaces_r, .int pr_waitingCount])), (bo, .inr (1, [.ref bob, .int bo_length])), (bob, .inl (cbob, 8192, .inl gbob)), (h0, .inr (2, [.ref pr, .ref kn, .ref lt, .int h0_localCount, .ref pe, .int n4, .int h0_gives, .int h0_depth, .int h0_loopDepth, .ref to, .ref bo, .ref cs, .ref se])), (pe, .inl (cpe, 680, .inl gpe))] := hD
  refine lv_istore (lv' := [(4, .int r3), (3, .int r1), (0, .ref h0), (1, .ref (sg sa ka)), (2, .int p1)]) hx hb d_CO_codeTwoSides_9 hl (by decide) rfl (fun ls hl => ?_)
  refine lv_aload_n hx hb d_CO_codeTwoSides_11 rfl (lv_at hl 3 rfl) ?_
  refine va_gets (C := "WaferForge$Sign") (n := "OR") (d := "LWaferForge$Sign;") (v := .ref (sg sa 36)) hx hb ((hSW.2.2.2.1.1 36 (by decide)).1) hS hown (hts _ kF_CO_221) (fun _ h9 => h9) d_CO_codeTwoSides_12 ?_
  refine w_cut (pc2 := 30) (σ := Int32) (fun u H locs ls => match u with | j30_s0 => (j30_s0 = 0 ∨ j30_s0 = 1) ∧ ((j30_s0 = 1 ∧ (ka = 36 ∨ ka = 37)) ∨ (j30_s0 = 0 ∧ (ka ≠ 36 ∧ ka ≠ 37))) ∧ va_P (dC, dI) cls [(pr, .inr (6, [.ref gl, .ref fu, .ref pa, .ref pf, .ref sf, .ref pk, .ref pg, .ref pp, .ref pz, .ref pv, .int pr_reason, .int pr_place, .ref pr_scanner_r, .int pr_stepCount, .int pr_open, .int pr_twoSides, .ref pr_waiting_r, .ref pr_waitingPlaces_r, .int pr_waitingCount])), (bo, .inr (1, [.ref bob, .int bo_length])), (bob, .inl (cbob, 8192, .inl gbob)), (h0, .inr (2, [.ref pr, .ref kn, .ref lt, .int h0_localCount, .ref pe, .int n4, .int h0_gives, .int h0_depth, .int h0_loopDepth, .ref to, .ref bo, .ref cs, .ref se])), (pe, .inl (cpe, 680, .inl gpe))] H ∧ va_D A [(pr, .inr (6, [.ref gl, .ref fu, .ref pa, .ref pf, .ref sf, .ref pk, .ref pg, .ref pp, .ref pz, .ref pv, .int pr_reason, .int pr_place, .ref pr_scanner_r, .int pr_stepCount, .int pr_open, .int pr_twoSides, .ref pr_waiting_r, .ref pr_waitingPlaces_r, .int pr_waitingCount])), (bo, .inr (1, [.ref bob, .int bo_length])), (bob, .inl (cbob, 8192, .inl gbob)), (h0, .inr (2, [.ref pr, .ref kn, .ref lt, .int h0_localCount, .ref pe, .int n4, .int h0_gives, .int h0_depth, .int h0_loopDepth, .ref to, .ref bo, .ref cs, .ref se])), (pe, .inl (cpe, 680, .inl gpe))] ∧ va_S A s.heap H locs ∧ lv_has ls 6 [(0, .ref h0), (1, .ref (sg sa ka)), (2, .int p1), (3, .int r1), (4, .int r3)]) (fun u => match u with | j30_s0 => [.int j30_s0]) ?_ (fun jn30 => ?_)
  · intro u H locs ls hI
    obtain ⟨j30_s0, rfl⟩ : ∃ z, z = u := ⟨_, rfl⟩
    obtain ⟨b_j30_s0, y30, hP, hD, hS, hl⟩ := hI
    have tj30_s0 := b01 b_j30_s0
    refine lv_istore (lv' := [(5, .int j30_s0), (0, .ref h0), (1, .ref (sg sa ka)), (2, .int p1), (3, .int r1), (4, .int r3)]) hx hb d_CO_codeTwoSides_30 hl (by decide) rfl (fun ls hl => ?_)
    refine lv_iload hx hb d_CO_codeTwoSides_32 (lv_at hl 5 rfl) ?_
    refine lv_iload_n hx hb d_CO_codeTwoSides_34 rfl (lv_at hl 4 rfl) ?_
    refine w_cut (pc2 := 57) (σ := Unit) (fun u H locs ls => match u with | _ => va_P (dC, dI) cls [(pr, .inr (6, [.ref gl, .ref fu, .ref pa, .ref pf, .ref sf, .ref pk, .ref pg, .ref pp, .ref pz, .ref pv, .int pr_reason, .int pr_place, .ref pr_scanner_r, .int pr_stepCount, .int pr_open, .int pr_twoSides, .ref pr_waiting_r, .ref pr_waitingPlaces_r, .int pr_waitingCount])), (bo, .inr (1, [.ref bob, .int bo_length])), (bob, .inl (cbob, 8192, .inl gbob)), (h0, .inr (2, [.ref pr, .ref kn, .ref lt, .int h0_localCount, .ref pe, .int n4, .int h0_gives, .int h0_depth, .int h0_loopDepth, .ref to, .ref bo, .ref cs, .ref se])), (pe, .inl (cpe, 680, .inl gpe))] H ∧ va_D A [(pr, .inr (6, [.ref gl, .ref fu, .ref pa, .ref pf, .ref sf, .ref pk, .ref pg, .ref pp, .ref pz, .ref pv, .int pr_reason, .int pr_place, .ref pr_scanner_r, .int pr_stepCount, .int pr_open, .int pr_twoSides, .ref pr_waiting_r, .ref pr_waitingPlaces_r, .int pr_waitingCount])), (bo, .inr (1, [.ref bob, .int bo_length])), (bob, .inl (cbob, 8192, .inl gbob)), (h0, .inr (2, [.ref pr, .ref kn, .ref lt, .int h0_localCount, .ref pe, .int n4, .int h0_gives, .int h0_depth, .int h0_loopDepth, .ref to, .ref bo, .ref cs, .ref se])), (pe, .inl (cpe, 680, .inl gpe))] ∧ va_S A s.heap H locs ∧ lv_has ls 6 [(0, .ref h0), (2, .int p1)]) (fun u => match u with | _ => []) ?_ (fun jn57 => ?_)
    · intro u H locs ls hI
      obtain ⟨hP, hD, hS, hl⟩ := hI
      refine lv_aload_n hx hb d_CO_codeTwoSides_57 rfl (lv_at hl 0 rfl) ?_
      refine va_get (D := (dC, dI)) (ci := 2) (v := .ref pr) (C := R_CO) (T := F_CO) (N := 13) hx hb hts i_CO hown hK hP 3 rfl rfl 0 (by decide) (hts _ kF_CO_36) (fun _ h9 => h9) rfl d_CO_codeTwoSides_58 ?_
      refine lv_iconst (v := 3) hx hb d_CO_codeTwoSides_61 (by decide) ?_
      refine lv_iload_n hx hb d_CO_codeTwoSides_62 rfl (lv_at hl 1 rfl) ?_
      have hPc := hP.sub (ws' := [(pr, .inr (6, [.ref gl, .ref fu, .ref pa, .ref pf, .ref sf, .ref pk, .ref pg, .ref pp, .ref pz, .ref pv, .int pr_reason, .int pr_place, .ref pr_scanner_r, .int pr_stepCount, .int pr_open, .int pr_twoSides, .ref pr_waiting_r, .ref pr_waitingPlaces_r, .int pr_waitingCount]))]) [0] rfl
      have hDc := hD.sub (ws' := [(pr, .inr (6, [.ref gl, .ref fu, .ref pa, .ref pf, .ref sf, .ref pk, .ref pg, .ref pp, .ref pz, .ref pv, .int pr_reason, .int pr_place, .ref pr_scanner_r, .int pr_stepCount, .int pr_open, .int pr_twoSides, .ref pr_waiting_r, .ref pr_waitingPlaces_r, .int pr_waitingCount]))]) [0] (by decide) rfl
      have hKc := hK.sub (tys' := []) [] rfl
      have hFc := va_free (wc := [(pr, .inr (6, [.ref gl, .ref fu, .ref pa, .ref pf, .ref sf, .ref pk, .ref pg, .ref pp, .ref pz, .ref pv, .int pr_reason, .int pr_place, .ref pr_scanner_r, .int pr_stepCount, .int pr_open, .int pr_twoSides, .ref pr_waiting_r, .ref pr_waitingPlaces_r, .int pr_waitingCount]))]) hD hS hA [0] rfl
      refine tq_callv (tz_runV (As := [.int 3, .int p1]) (rest := []) ⟨hx, hb, hml, hown, hts⟩ (c_PR_refuse l hlt dC dI H.size sa pr gl fu pa pf sf pk pg pp pz pv pr_scanner_r pr_waiting_r pr_waitingPlaces_r pr_reason pr_place pr_stepCount pr_open pr_twoSides pr_waitingCount 3 p1) (cwV 2 hts (gV kM_CO_105 kV_PR_refuse kS_PR_refuse kI_PR kC_PR_refuse) rfl rfl rfl (by decide +kernel) ⟨Nat.le_of_ble_eq_true rfl, Nat.le_of_ble_eq_true rfl⟩) ⟨fun a U g mk z => by obtain ⟨z0, z1, zP, zK, zD, zS⟩ := z; exact ⟨z0, z1, zP, va_K.moved (u := U) (U := U.calling g mk a) (Vm.Alike.refl U.vm) zK, zD, sw.same (u := U) (U := U.calling g mk a) rfl zS⟩, va_recv hKc hPc (ci := 6) (q0 := 0) rfl rfl, fun U hU hW => ⟨rfl, by rw [hU], by rw [hU]; exact hPc, va_K.moved hW.alike hKc, hDc.weaken (fun _ _ _ _ => trivial), hSW.call hS hFc hW hU⟩⟩ rfl rfl hl.1 rfl (lv_room (Nat.le_of_ble_eq_true rfl)) d_CO_codeTwoSides_63 ⟨Nat.le_of_ble_eq_true rfl, Nat.le_of_ble_eq_true rfl⟩) hS (fun q _ h => hFc q h) hFc (fun u t H1 locs ht hvm hw hB hz1 hk1 hS => ?_) (fun xx u t H1 locs ht hvm hw hXX hB hz1 hk1 hS => ?_)
      rotate_left
      · skip
        obtain ⟨n6, n7⟩ := u
        try dsimp only at hw
        obtain ⟨hP1, hK1, hD1⟩ := hB
        rw [ht] at hP1
        obtain ⟨hP, hD⟩ := va_join (wr := [(bo, .inr (1, [.ref bob, .int bo_length])), (bob, .inl (cbob, 8192, .inl gbob)), (h0, .inr (2, [.ref pr, .ref kn, .ref lt, .int h0_localCount, .ref pe, .int n4, .int h0_gives, .int h0_depth, .int h0_loopDepth, .ref to, .ref bo, .ref cs, .ref se])), (pe, .inl (cpe, 680, .inl gpe))]) (w1 := [(pr, .inr (6, [.ref gl, .ref fu, .ref pa, .ref pf, .ref sf, .ref pk, .ref pg, .ref pp, .ref pz, .ref pv, .int n7, .int n6, .ref pr_scanner_r, .int pr_stepCount, .int pr_open, .int pr_twoSides, .ref pr_waiting_r, .ref pr_waitingPlaces_r, .int pr_waitingCount]))]) hP hD [0] [1, 2, 3, 4] rfl rfl (by decide) (by decide) hk1 hFc hP1 hD1
        have hP : va_P (dC, dI) cls [(bo, .inr (1, [.ref bob, .int bo_length])), (bob, .inl (cbob, 8192, .inl gbob)), (h0, .inr (2, [.ref pr, .ref kn, .ref lt, .int h0_localCount, .ref pe, .int n4, .int h0_gives, .int h0_depth, .int h0_loopDepth, .ref to, .ref bo, .ref cs, .ref se])), (pe, .inl (cpe, 680, .inl gpe)), (pr, .inr (6, [.ref gl, .ref fu, .ref pa, .ref pf, .ref sf, .ref pk, .ref pg, .ref pp, .ref pz, .ref pv, .int n7, .int n6, .ref pr_scanner_r, .int pr_stepCount, .int pr_open, .int pr_twoSides, .ref pr_waiting_r, .ref pr_waitingPlaces_r, .int pr_waitingCount]))] H1 := hP
        have hD : va_D A [(bo, .inr (1, [.ref bob, .int bo_length])), (bob, .inl (cbob, 8192, .inl gbob)), (h0, .inr (2, [.ref pr, .ref kn, .ref lt, .int h0_localCount, .ref pe, .int n4, .int h0_gives, .int h0_depth, .int h0_loopDepth, .ref to, .ref bo, .ref cs, .ref se])), (pe, .inl (cpe, 680, .inl gpe)), (pr, .inr (6, [.ref gl, .ref fu, .ref pa, .ref pf, .ref sf, .ref pk, .ref pg, .ref pp, .ref pz, .ref pv, .int n7, .int n6, .ref pr_scanner_r, .int pr_stepCount, .int pr_open, .int pr_twoSides, .ref pr_waiting_r, .ref pr_waitingPlaces_r, .int pr_waitingCount]))] := hD
        have hP9 := hP.sub (ws' := [(h0, .inr (2, [.ref pr, .ref kn, .ref lt, .int h0_localCount, .ref pe, .int n4, .int h0_gives, .int h0_depth, .int h0_loopDepth, .ref to, .ref bo, .ref cs, .ref se])), (pr, .inr (6, [.ref gl, .ref fu, .ref pa, .ref pf, .ref sf, .ref pk, .ref pg, .ref pp, .ref pz, .ref pv, .int n7, .int n6, .ref pr_scanner_r, .int pr_stepCount, .int pr_open, .int pr_twoSides, .ref pr_waiting_r, .ref pr_waitingPlaces_r, .int pr_waitingCount])), (pe, .inl (cpe, 680, .inl gpe)), (bo, .inr (1, [.ref bob, .int bo_length])), (bob, .inl (cbob, 8192, .inl gbob))]) [2, 4, 3, 0, 1] rfl
        have hD9 := hD.sub (ws' := [(h0, .inr (2, [.ref pr, .ref kn, .ref lt, .int h0_localCount, .ref pe, .int n4, .int h0_gives, .int h0_depth, .int h0_loopDepth, .ref to, .ref bo, .ref cs, .ref se])), (pr, .inr (6, [.ref gl, .ref fu, .ref pa, .ref pf, .ref sf, .ref pk, .ref pg, .ref pp, .ref pz, .ref pv, .int n7, .int n6, .ref pr_scanner_r, .int pr_stepCount, .int pr_open, .int pr_twoSides, .ref pr_waiting_r, .ref pr_waitingPlaces_r, .int pr_waitingCount])), (pe, .inl (cpe, 680, .inl gpe)), (bo, .inr (1, [.ref bob, .int bo_length])), (bob, .inl (cbob, 8192, .inl gbob))]) [2, 4, 3, 0, 1] (by decide) rfl
        exact tz_leave rfl hno hlocks (fun t ht hW => ⟨⟨(gbob, gpe, bo_length, n4, n6, n7), ⟨⟨b_bo_length, bn4⟩, by rw [ht]; exact hXX.moved hW.alike⟩, by rw [ht]; exact hP9, va_K.moved hW.alike hK, hD9⟩, hS.F ht⟩) hS.2.2
      exact (show False from hw).elim
    · skip
      refine lv_icmp_ne (tgt := 57) hx hb d_CO_codeTwoSides_35 (by decide) (fun c35 => ?_) (fun c35 => ?_)
      · have q35 := neI c35
        exact jn57 () _ _ _ ⟨hP, hD, hS, lv_sub hl [1, 3] rfl⟩
      · have q35 := eqI c35
        refine lv_iload hx hb d_CO_codeTwoSides_38 (lv_at hl 5 rfl) ?_
        refine lv_bipush (v := 64) hx hb d_CO_codeTwoSides_40 (by decide) ?_
        refine lv_icmp_eq (tgt := 57) hx hb d_CO_codeTwoSides_42 (by decide) (fun c42 => ?_) (fun c42 => ?_)
        · have q42 := eqI c42
          exact jn57 () _ _ _ ⟨hP, hD, hS, lv_sub hl [1, 3] rfl⟩
        · have q42 := neI c42
          refine lv_iload hx hb d_CO_codeTwoSides_45 (lv_at hl 0 rfl) ?_
          refine w_cut (pc2 := 66) (σ := Unit) (fun u H locs ls => match u with | _ => (r3.toInt = r1.toInt ∧ r3.toInt ≠ 64 ∧ ((ka = 36 ∨ ka = 37) → r3.toInt = 127)) ∧ va_P (dC, dI) cls [(pr, .inr (6, [.ref gl, .ref fu, .ref pa, .ref pf, .ref sf, .ref pk, .ref pg, .ref pp, .ref pz, .ref pv, .int pr_reason, .int pr_place, .ref pr_scanner_r, .int pr_stepCount, .int pr_open, .int pr_twoSides, .ref pr_waiting_r, .ref pr_waitingPlaces_r, .int pr_waitingCount])), (bo, .inr (1, [.ref bob, .int bo_length])), (bob, .inl (cbob, 8192, .inl gbob)), (h0, .inr (2, [.ref pr, .ref kn, .ref lt, .int h0_localCount, .ref pe, .int n4, .int h0_gives, .int h0_depth, .int h0_loopDepth, .ref to, .ref bo, .ref cs, .ref se])), (pe, .inl (cpe, 680, .inl gpe))] H ∧ va_D A [(pr, .inr (6, [.ref gl, .ref fu, .ref pa, .ref pf, .ref sf, .ref pk, .ref pg, .ref pp, .ref pz, .ref pv, .int pr_reason, .int pr_place, .ref pr_scanner_r, .int pr_stepCount, .int pr_open, .int pr_twoSides, .ref pr_waiting_r, .ref pr_waitingPlaces_r, .int pr_waitingCount])), (bo, .inr (1, [.ref bob, .int bo_length])), (bob, .inl (cbob, 8192, .inl gbob)), (h0, .inr (2, [.ref pr, .ref kn, .ref lt, .int h0_localCount, .ref pe, .int n4, .int h0_gives, .int h0_depth, .int h0_loopDepth, .ref to, .ref bo, .ref cs, .ref se])), (pe, .inl (cpe, 680, .inl gpe))] ∧ va_S A s.heap H locs ∧ lv_has ls 6 [(0, .ref h0), (1, .ref (sg sa ka)), (4, .int r3), (5, .int j30_s0)]) (fun u => match u with | _ => []) ?_ (fun jn66 => ?_)
          · intro u H locs ls hI
            obtain ⟨y66, hP, hD, hS, hl⟩ := hI
            refine lv_iload hx hb d_CO_codeTwoSides_66 (lv_at hl 3 rfl) ?_
            refine w_cut (pc2 := 88) (σ := (Nat → Int32) × Int32) (fun u H locs ls => match u with | (j88_bob, j88_bo_length) => (0 ≤ j88_bo_length.toInt ∧ j88_bo_length.toInt ≤ 8192) ∧ (∃ M : List Nat, bl j88_bob j88_bo_length.toNatClampNeg = bl gbob bo_length.toNatClampNeg ++ M ∧ (((ka = 36 ∨ ka = 37) ∧ M = [65, 0]) ∨ ((ka ≠ 36 ∧ ka ≠ 37) ∧ M = [])) ∧ j88_bo_length.toInt = bo_length.toInt + (M.length : Int)) ∧ va_P (dC, dI) cls [(pr, .inr (6, [.ref gl, .ref fu, .ref pa, .ref pf, .ref sf, .ref pk, .ref pg, .ref pp, .ref pz, .ref pv, .int pr_reason, .int pr_place, .ref pr_scanner_r, .int pr_stepCount, .int pr_open, .int pr_twoSides, .ref pr_waiting_r, .ref pr_waitingPlaces_r, .int pr_waitingCount])), (bo, .inr (1, [.ref bob, .int j88_bo_length])), (bob, .inl (cbob, 8192, .inl j88_bob)), (h0, .inr (2, [.ref pr, .ref kn, .ref lt, .int h0_localCount, .ref pe, .int n4, .int h0_gives, .int h0_depth, .int h0_loopDepth, .ref to, .ref bo, .ref cs, .ref se])), (pe, .inl (cpe, 680, .inl gpe))] H ∧ va_D A [(pr, .inr (6, [.ref gl, .ref fu, .ref pa, .ref pf, .ref sf, .ref pk, .ref pg, .ref pp, .ref pz, .ref pv, .int pr_reason, .int pr_place, .ref pr_scanner_r, .int pr_stepCount, .int pr_open, .int pr_twoSides, .ref pr_waiting_r, .ref pr_waitingPlaces_r, .int pr_waitingCount])), (bo, .inr (1, [.ref bob, .int j88_bo_length])), (bob, .inl (cbob, 8192, .inl j88_bob)), (h0, .inr (2, [.ref pr, .ref kn, .ref lt, .int h0_localCount, .ref pe, .int n4, .int h0_gives, .int h0_depth, .int h0_loopDepth, .ref to, .ref bo, .ref cs, .ref se])), (pe, .inl (cpe, 680, .inl gpe))] ∧ va_S A s.heap H locs ∧ lv_has ls 6 [(0, .ref h0), (1, .ref (sg sa ka)), (4, .int r3), (5, .int j30_s0)]) (fun u => match u with | (j88_bob, j88_bo_length) => []) ?_ (fun jn88 => ?_)
            · intro u H locs ls hI
              obtain ⟨j88_bob, j88_bo_length⟩ := u
              obtain ⟨b_j88_bo_length, hm, hP, hD, hS, hl⟩ := hI
              obtain ⟨M88, e88, c88, n88⟩ := hm
              have l88 : (M88.length : Int) ≤ 2 := by rcases c88 with z | z <;> rw [z.2] <;> decide
              refine lv_aload_n hx hb d_CO_codeTwoSides_88 rfl (lv_at hl 0 rfl) ?_
              refine va_get (D := (dC, dI)) (ci := 2) (v := .ref bo) (C := R_CO) (T := F_CO) (N := 13) hx hb hts i_CO hown hK hP 3 rfl rfl 10 (by decide) (hts _ kF_CO_26) (fun _ h9 => h9) rfl d_CO_codeTwoSides_89 ?_
              refine lv_iload hx hb d_CO_codeTwoSides_92 (lv_at hl 2 rfl) ?_
              refine lv_bipush (v := 127) hx hb d_CO_codeTwoSides_94 (by decide) ?_
              refine w_cut (pc2 := 110) (σ := Int32) (fun u H locs ls => match u with | j110_s0 => ((j110_s0 = sg_code32.getD ka 0 ∧ r3.toInt = 127) ∨ (j110_s0 = sg_code64.getD ka 0 ∧ r3.toInt ≠ 127)) ∧ va_P (dC, dI) cls [(pr, .inr (6, [.ref gl, .ref fu, .ref pa, .ref pf, .ref sf, .ref pk, .ref pg, .ref pp, .ref pz, .ref pv, .int pr_reason, .int pr_place, .ref pr_scanner_r, .int pr_stepCount, .int pr_open, .int pr_twoSides, .ref pr_waiting_r, .ref pr_waitingPlaces_r, .int pr_waitingCount])), (bo, .inr (1, [.ref bob, .int j88_bo_length])), (bob, .inl (cbob, 8192, .inl j88_bob)), (h0, .inr (2, [.ref pr, .ref kn, .ref lt, .int h0_localCount, .ref pe, .int n4, .int h0_gives, .int h0_depth, .int h0_loopDepth, .ref to, .ref bo, .ref cs, .ref se])), (pe, .inl (cpe, 680, .inl gpe))] H ∧ va_D A [(pr, .inr (6, [.ref gl, .ref fu, .ref pa, .ref pf, .ref sf, .ref pk, .ref pg, .ref pp, .ref pz, .ref pv, .int pr_reason, .int pr_place, .ref pr_scanner_r, .int pr_stepCount, .int pr_open, .int pr_twoSides, .ref pr_waiting_r, .ref pr_waitingPlaces_r, .int pr_waitingCount])), (bo, .inr (1, [.ref bob, .int j88_bo_length])), (bob, .inl (cbob, 8192, .inl j88_bob)), (h0, .inr (2, [.ref pr, .ref kn, .ref lt, .int h0_localCount, .ref pe, .int n4, .int h0_gives, .int h0_depth, .int h0_loopDepth, .ref to, .ref bo, .ref cs, .ref se])), (pe, .inl (cpe, 680, .inl gpe))] ∧ va_S A s.heap H locs ∧ lv_has ls 6 [(0, .ref h0), (1, .ref (sg sa ka)), (4, .int r3), (5, .int j30_s0)]) (fun u => match u with | j110_s0 => [.int j110_s0, .ref bo]) ?_ (fun jn110 => ?_)
              · intro u H locs ls hI
                obtain ⟨j110_s0, rfl⟩ : ∃ z, z = u := ⟨_, rfl⟩
                obtain ⟨y110, hP, hD, hS, hl⟩ := hI
                have hPc := hP.sub (ws' := [(bo, .inr (1, [.ref bob, .int j88_bo_length])), (bob, .inl (cbob, 8192, .inl j88_bob))]) [1, 2] rfl
                have hDc := hD.sub (ws' := [(bo, .inr (1, [.ref bob, .int j88_bo_length])), (bob, .inl (cbob, 8192, .inl j88_bob))]) [1, 2] (by decide) rfl
                have hKc := hK.sub (tys' := [(cbob, .byte)]) [1] rfl
                have hFc := va_free (wc := [(bo, .inr (1, [.ref bob, .int j88_bo_length])), (bob, .inl (cbob, 8192, .inl j88_bob))]) hD hS hA [1, 2] rfl
                refine va_callv (va_runV (As := [.int j110_s0]) (rest := []) ⟨hx, hb, hml, hown, hts⟩ (c_BR_put l dC dI bo bob H.size cbob 8192 j88_bo_length j88_bob (by omega) (by omega) (by omega) j110_s0) (cwV 1 hts (gV kM_CO_76 kV_BR_put kS_BR_put kI_BR kC_BR_put) rfl rfl rfl (by decide +kernel) ⟨Nat.le_of_ble_eq_true rfl, Nat.le_of_ble_eq_true rfl⟩) ⟨fun a U g mk z => by obtain ⟨z0, z1, zP, zK, zD⟩ := z; exact ⟨z0, z1, zP, va_K.moved (u := U) (U := U.calling g mk a) (Vm.Alike.refl U.vm) zK, zD⟩, va_recv hKc hPc (ci := 1) (q0 := 0) rfl rfl, fun U hU hW => ⟨rfl, by rw [hU], by rw [hU]; exact hPc, va_K.moved hW.alike hKc, hDc.weaken (fun _ _ _ _ => trivial)⟩⟩ rfl rfl hl.1 rfl (lv_room (Nat.le_of_ble_eq_true rfl)) d_CO_codeTwoSides_110 ⟨(Nat.zero_le _), (Nat.zero_le _)⟩) hS (fun q _ h => hFc q h) hFc (fun u t H1 locs ht hvm hw hB hz1 hk1 hS => ?_)
                obtain ⟨n9, f10⟩ := u
                try dsimp only at hw
                have tn9 := br_put_in (by omega) (by omega) (by omega) hw
                have bn9 := br_put_bl (by omega) (by omega) (by omega) hw
                obtain ⟨hP1, hK1, hD1⟩ := hB
                rw [ht] at hP1
                obtain ⟨hP, hD⟩ := va_join (wr := [(pr, .inr (6, [.ref gl, .ref fu, .ref pa, .ref pf, .ref sf, .ref pk, .ref pg, .ref pp, .ref pz, .ref pv, .int pr_reason, .int pr_place, .ref pr_scanner_r, .int pr_stepCount, .int pr_open, .int pr_twoSides, .ref pr_waiting_r, .ref pr_waitingPlaces_r, .int pr_waitingCount])), (h0, .inr (2, [.ref pr, .ref kn, .ref lt, .int h0_localCount, .ref pe, .int n4, .int h0_gives, .int h0_depth, .int h0_loopDepth, .ref to, .ref bo, .ref cs, .ref se])), (pe, .inl (cpe, 680, .inl gpe))]) (w1 := [(bo, .inr (1, [.ref bob, .int n9])), (bob, .inl (cbob, 8192, .inl f10))]) hP hD [1, 2] [0, 3, 4] rfl rfl (by decide) (by decide) hk1 hFc hP1 hD1
                clear hPc hDc hKc hFc hz1 hk1 hP1 hK1 hD1
                generalize H1 = H at hP hS ⊢
                have hP : va_P (dC, dI) cls [(pr, .inr (6, [.ref gl, .ref fu, .ref pa, .ref pf, .ref sf, .ref pk, .ref pg, .ref pp, .ref pz, .ref pv, .int pr_reason, .int pr_place, .ref pr_scanner_r, .int pr_stepCount, .int pr_open, .int pr_twoSides, .ref pr_waiting_r, .ref pr_waitingPlaces_r, .int pr_waitingCount])), (h0, .inr (2, [.ref pr, .ref kn, .ref lt, .int h0_localCount, .ref pe, .int n4, .int h0_gives, .int h0_depth, .int h0_loopDepth, .ref to, .ref bo, .ref cs, .ref se])), (pe, .inl (cpe, 680, .inl gpe)), (bo, .inr (1, [.ref bob, .int n9])), (bob, .inl (cbob, 8192, .inl f10))] H := hP
                have hD : va_D A [(pr, .inr (6, [.ref gl, .ref fu, .ref pa, .ref pf, .ref sf, .ref pk, .ref pg, .ref pp, .ref pz, .ref pv, .int pr_reason, .int pr_place, .ref pr_scanner_r, .int pr_stepCount, .int pr_open, .int pr_twoSides, .ref pr_waiting_r, .ref pr_waitingPlaces_r, .int pr_waitingCount])), (h0, .inr (2, [.ref pr, .ref kn, .ref lt, .int h0_localCount, .ref pe, .int n4, .int h0_gives, .int h0_depth, .int h0_loopDepth, .ref to, .ref bo, .ref cs, .ref se])), (pe, .inl (cpe, 680, .inl gpe)), (bo, .inr (1, [.ref bob, .int n9])), (bob, .inl (cbob, 8192, .inl f10))] := hD
                have hm3 := bn9 (by omega)
                rw [e88, List.append_assoc] at hm3
                have cm3 : (ka = 36 → (M88 ++ [bn j110_s0]) = [65, 0, 71]) ∧ (ka = 37 → (M88 ++ [bn j110_s0]) = [65, 0, 71]) ∧ (38 ≤ ka → ∃ op : Int, two op ∧ (M88 ++ [bn j110_s0]) = [op.toNat]) := by
                  refine ⟨fun z => ?_, fun z => ?_, fun z => ?_⟩
                  · have q : j110_s0 = sg_code32.getD 36 0 := by rcases y110 with y | y; (rw [z] at y; exact y.1); exact absurd (y66.2.2 (Or.inl z)) y.2
                    rcases c88 with w | w; (rw [w.2, q]; decide); exact absurd z w.1.1
                  · have q : j110_s0 = sg_code32.getD 37 0 := by rcases y110 with y | y; (rw [z] at y; exact y.1); exact absurd (y66.2.2 (Or.inr z)) y.2
                    rcases c88 with w | w; (rw [w.2, q]; decide); exact absurd z w.1.2
                  · have q : two j110_s0.toInt := by have q := sg_two ka hka.2 z; rcases y110 with y | y; (rw [y.1]; exact q.1); (rw [y.1]; exact q.2)
                    have q2 := q; unfold two at q2
                    rcases c88 with w | w; (exfalso; omega); exact ⟨_, q, by rw [w.2, bn_s (by omega) (by omega)]; rfl⟩
                refine lv_aload_n hx hb d_CO_codeTwoSides_113 rfl (lv_at hl 1 rfl) ?_
                refine va_gets (C := "WaferForge$Sign") (n := "AND") (d := "LWaferForge$Sign;") (v := .ref (sg sa 37)) hx hb ((hSW.2.2.2.1.1 37 (by decide)).1) hS hown (hts _ kF_CO_227) (fun _ h9 => h9) d_CO_codeTwoSides_114 ?_
                refine w_cut (pc2 := 145) (σ := (Nat → Int32) × Int32) (fun u H locs ls => match u with | (j145_bob, j145_bo_length) => (0 ≤ j145_bo_length.toInt ∧ j145_bo_length.toInt ≤ 8192) ∧ (∃ M : List Nat, bl j145_bob j145_bo_length.toNatClampNeg = bl gbob bo_length.toNatClampNeg ++ M ∧ ((ka = 36 → M = [65, 0, 71]) ∧ (ka = 37 → M = [65, 0, 71, 5, 65, 0]) ∧ (38 ≤ ka → ∃ op : Int, two op ∧ M = [op.toNat])) ∧ j145_bo_length.toInt = bo_length.toInt + (M.length : Int)) ∧ va_P (dC, dI) cls [(pr, .inr (6, [.ref gl, .ref fu, .ref pa, .ref pf, .ref sf, .ref pk, .ref pg, .ref pp, .ref pz, .ref pv, .int pr_reason, .int pr_place, .ref pr_scanner_r, .int pr_stepCount, .int pr_open, .int pr_twoSides, .ref pr_waiting_r, .ref pr_waitingPlaces_r, .int pr_waitingCount])), (h0, .inr (2, [.ref pr, .ref kn, .ref lt, .int h0_localCount, .ref pe, .int n4, .int h0_gives, .int h0_depth, .int h0_loopDepth, .ref to, .ref bo, .ref cs, .ref se])), (pe, .inl (cpe, 680, .inl gpe)), (bo, .inr (1, [.ref bob, .int j145_bo_length])), (bob, .inl (cbob, 8192, .inl j145_bob))] H ∧ va_D A [(pr, .inr (6, [.ref gl, .ref fu, .ref pa, .ref pf, .ref sf, .ref pk, .ref pg, .ref pp, .ref pz, .ref pv, .int pr_reason, .int pr_place, .ref pr_scanner_r, .int pr_stepCount, .int pr_open, .int pr_twoSides, .ref pr_waiting_r, .ref pr_waitingPlaces_r, .int pr_waitingCount])), (h0, .inr (2, [.ref pr, .ref kn, .ref lt, .int h0_localCount, .ref pe, .int n4, .int h0_gives, .int h0_depth, .int h0_loopDepth, .ref to, .ref bo, .ref cs, .ref se])), (pe, .inl (cpe, 680, .inl gpe)), (bo, .inr (1, [.ref bob, .int j145_bo_length])), (bob, .inl (cbob, 8192, .inl j145_bob))] ∧ va_S A s.heap H locs ∧ lv_has ls 6 [(0, .ref h0), (1, .ref (sg sa ka)), (4, .int r3), (5, .int j30_s0)]) (fun u => match u with | (j145_bob, j145_bo_length) => []) ?_ (fun jn145 => ?_)
                · intro u H locs ls hI
                  obtain ⟨j145_bob, j145_bo_length⟩ := u
                  obtain ⟨b_j145_bo_length, hm, hP, hD, hS, hl⟩ := hI
                  obtain ⟨M145, e145, cc145, n145⟩ := hm
                  have l145 : (M145.length : Int) ≤ 6 := by rcases (show ka = 36 ∨ ka = 37 ∨ 38 ≤ ka from by clear cc145 n145; omega) with z | z | z; (rw [cc145.1 z]; decide); (rw [cc145.2.1 z]; decide); (obtain ⟨op, -, e⟩ := cc145.2.2 z; rw [e, List.length_singleton]; decide)
                  have cb145 := (show bx _ from cc145)
                  refine lv_iload hx hb d_CO_codeTwoSides_145 (lv_at hl 3 rfl) ?_
                  refine w_cut (pc2 := 159) (σ := (Nat → Int32) × Int32) (fun u H locs ls => match u with | (j159_bob, j159_bo_length) => (0 ≤ j159_bo_length.toInt ∧ j159_bo_length.toInt ≤ 8192) ∧ (∃ M : List Nat, bl j159_bob j159_bo_length.toNatClampNeg = bl gbob bo_length.toNatClampNeg ++ M ∧ ((ka = 36 → M = [65, 0, 71, 11]) ∧ (ka = 37 → M = [65, 0, 71, 5, 65, 0, 11]) ∧ (38 ≤ ka → ∃ op : Int, two op ∧ M = [op.toNat])) ∧ j159_bo_length.toInt = bo_length.toInt + (M.length : Int)) ∧ va_P (dC, dI) cls [(pr, .inr (6, [.ref gl, .ref fu, .ref pa, .ref pf, .ref sf, .ref pk, .ref pg, .ref pp, .ref pz, .ref pv, .int pr_reason, .int pr_place, .ref pr_scanner_r, .int pr_stepCount, .int pr_open, .int pr_twoSides, .ref pr_waiting_r, .ref pr_waitingPlaces_r, .int pr_waitingCount])), (h0, .inr (2, [.ref pr, .ref kn, .ref lt, .int h0_localCount, .ref pe, .int n4, .int h0_gives, .int h0_depth, .int h0_loopDepth, .ref to, .ref bo, .ref cs, .ref se])), (pe, .inl (cpe, 680, .inl gpe)), (bo, .inr (1, [.ref bob, .int j159_bo_length])), (bob, .inl (cbob, 8192, .inl j159_bob))] H ∧ va_D A [(pr, .inr (6, [.ref gl, .ref fu, .ref pa, .ref pf, .ref sf, .ref pk, .ref pg, .ref pp, .ref pz, .ref pv, .int pr_reason, .int pr_place, .ref pr_scanner_r, .int pr_stepCount, .int pr_open, .int pr_twoSides, .ref pr_waiting_r, .ref pr_waitingPlaces_r, .int pr_waitingCount])), (h0, .inr (2, [.ref pr, .ref kn, .ref lt, .int h0_localCount, .ref pe, .int n4, .int h0_gives, .int h0_depth, .int h0_loopDepth, .ref to, .ref bo, .ref cs, .ref se])), (pe, .inl (cpe, 680, .inl gpe)), (bo, .inr (1, [.ref bob, .int j159_bo_length])), (bob, .inl (cbob, 8192, .inl j159_bob))] ∧ va_S A s.heap H locs ∧ lv_has ls 6 [(0, .ref h0), (1, .ref (sg sa ka)), (4, .int r3)]) (fun u => match u with | (j159_bob, j159_bo_length) => []) ?_ (fun jn159 => ?_)
                  · intro u H locs ls hI
                    obtain ⟨j159_bob, j159_bo_length⟩ := u
                    obtain ⟨b_j159_bo_length, hm, hP, hD, hS, hl⟩ := hI
                    obtain ⟨M159, e159, cc159, n159⟩ := hm
                    refine lv_aload_n hx hb d_CO_codeTwoSides_159 rfl (lv_at hl 0 rfl) ?_
                    refine lv_aload_n hx hb d_CO_codeTwoSides_160 rfl (lv_at hl 1 rfl) ?_
                    refine va_getE (i := ka) (q := ("WaferForge$Sign", "level", "I", sg_level)) hx hb hSW.2.2.2.1 ba0 hS hown (List.mem_of_getElem? (i := 1) rfl) (hts _ kF_CO_236) (fun _ h9 => h9) d_CO_codeTwoSides_161 ?_
                    refine lv_topi (fun x11 ex11 => ?_)
                    have ex11 : x11 = sg_level.getD ka 0 := ex11
                    refine lv_iconst (v := 3) hx hb d_CO_codeTwoSides_164 (by decide) ?_
                    refine w_cut (pc2 := 175) (σ := Int32) (fun u H locs ls => match u with | j175_s0 => (((ka = 36 ∨ ka = 37) → j175_s0.toInt = 127) ∧ (j175_s0.toInt = 127 ∨ j175_s0.toInt = r3.toInt)) ∧ va_P (dC, dI) cls [(pr, .inr (6, [.ref gl, .ref fu, .ref pa, .ref pf, .ref sf, .ref pk, .ref pg, .ref pp, .ref pz, .ref pv, .int pr_reason, .int pr_place, .ref pr_scanner_r, .int pr_stepCount, .int pr_open, .int pr_twoSides, .ref pr_waiting_r, .ref pr_waitingPlaces_r, .int pr_waitingCount])), (h0, .inr (2, [.ref pr, .ref kn, .ref lt, .int h0_localCount, .ref pe, .int n4, .int h0_gives, .int h0_depth, .int h0_loopDepth, .ref to, .ref bo, .ref cs, .ref se])), (pe, .inl (cpe, 680, .inl gpe)), (bo, .inr (1, [.ref bob, .int j159_bo_length])), (bob, .inl (cbob, 8192, .inl j159_bob))] H ∧ va_D A [(pr, .inr (6, [.ref gl, .ref fu, .ref pa, .ref pf, .ref sf, .ref pk, .ref pg, .ref pp, .ref pz, .ref pv, .int pr_reason, .int pr_place, .ref pr_scanner_r, .int pr_stepCount, .int pr_open, .int pr_twoSides, .ref pr_waiting_r, .ref pr_waitingPlaces_r, .int pr_waitingCount])), (h0, .inr (2, [.ref pr, .ref kn, .ref lt, .int h0_localCount, .ref pe, .int n4, .int h0_gives, .int h0_depth, .int h0_loopDepth, .ref to, .ref bo, .ref cs, .ref se])), (pe, .inl (cpe, 680, .inl gpe)), (bo, .inr (1, [.ref bob, .int j159_bo_length])), (bob, .inl (cbob, 8192, .inl j159_bob))] ∧ va_S A s.heap H locs ∧ lv_has ls 6 []) (fun u => match u with | j175_s0 => [.int j175_s0, .ref h0]) ?_ (fun jn175 => ?_)
                    · intro u H locs ls hI
                      obtain ⟨j175_s0, rfl⟩ : ∃ z, z = u := ⟨_, rfl⟩
                      obtain ⟨y175, hP, hD, hS, hl⟩ := hI
                      have hPc := hP.sub (ws' := [(h0, .inr (2, [.ref pr, .ref kn, .ref lt, .int h0_localCount, .ref pe, .int n4, .int h0_gives, .int h0_depth, .int h0_loopDepth, .ref to, .ref bo, .ref cs, .ref se])), (pe, .inl (cpe, 680, .inl gpe))]) [1, 2] rfl
                      have hDc := hD.sub (ws' := [(h0, .inr (2, [.ref pr, .ref kn, .ref lt, .int h0_localCount, .ref pe, .int n4, .int h0_gives, .int h0_depth, .int h0_loopDepth, .ref to, .ref bo, .ref cs, .ref se])), (pe, .inl (cpe, 680, .inl gpe))]) [1, 2] (by decide) rfl
                      have hKc := hK.sub (tys' := [(cpe, .int)]) [0] rfl
                      have hFc := va_free (wc := [(h0, .inr (2, [.ref pr, .ref kn, .ref lt, .int h0_localCount, .ref pe, .int n4, .int h0_gives, .int h0_depth, .int h0_loopDepth, .ref to, .ref bo, .ref cs, .ref se])), (pe, .inl (cpe, 680, .inl gpe))]) hD hS hA [1, 2] rfl
                      refine va_callv (va_runV (As := [.int j175_s0]) (rest := []) ⟨hx, hb, hml, hown, hts⟩ (c_CO_push l dC dI H.size h0 pr kn lt pe to bo cs se cpe h0_localCount n4 h0_gives h0_depth h0_loopDepth gpe (bn4) j175_s0 (by (try dsimp only) <;> omega)) (cwV 1 hts (gV kM_CO_183 kV_CO_push kS_CO_push kI_CO kC_CO_push) rfl rfl rfl (by decide +kernel) ⟨Nat.le_of_ble_eq_true rfl, Nat.le_of_ble_eq_true rfl⟩) ⟨fun a U g mk z => by obtain ⟨z0, z1, zP, zK, zD⟩ := z; exact ⟨z0, z1, zP, va_K.moved (u := U) (U := U.calling g mk a) (Vm.Alike.refl U.vm) zK, zD⟩, va_recv hKc hPc (ci := 2) (q0 := 0) rfl rfl, fun U hU hW => ⟨rfl, by rw [hU], by rw [hU]; exact hPc, va_K.moved hW.alike hKc, hDc.weaken (fun _ _ _ _ => trivial)⟩⟩ rfl rfl hl.1 rfl (lv_room (Nat.le_of_ble_eq_true rfl)) d_CO_codeTwoSides_175 ⟨(Nat.zero_le _), (Nat.zero_le _)⟩) hS (fun q _ h => hFc q h) hFc (fun u t H1 locs ht hvm hw hB hz1 hk1 hS => ?_)
                      obtain ⟨n13, n14⟩ := u
                      try dsimp only at hw
                      obtain ⟨bn14, xr12⟩ := hw
                      try clear hw
                      obtain ⟨hP1, hK1, hD1⟩ := hB
                      rw [ht] at hP1
                      obtain ⟨hP, hD⟩ := va_join (wr := [(pr, .inr (6, [.ref gl, .ref fu, .ref pa, .ref pf, .ref sf, .ref pk, .ref pg, .ref pp, .ref pz, .ref pv, .int pr_reason, .int pr_place, .ref pr_scanner_r, .int pr_stepCount, .int pr_open, .int pr_twoSides, .ref pr_waiting_r, .ref pr_waitingPlaces_r, .int pr_waitingCount])), (bo, .inr (1, [.ref bob, .int j159_bo_length])), (bob, .inl (cbob, 8192, .inl j159_bob))]) (w1 := [(h0, .inr (2, [.ref pr, .ref kn, .ref lt, .int h0_localCount, .ref pe, .int n14, .int h0_gives, .int h0_depth, .int h0_loopDepth, .ref to, .ref bo, .ref cs, .ref se])), (pe, .inl (cpe, 680, .inl n13))]) hP hD [1, 2] [0, 3, 4] rfl rfl (by decide) (by decide) hk1 hFc hP1 hD1
                      clear hPc hDc hKc hFc hz1 hk1 hP1 hK1 hD1
                      generalize H1 = H at hP hS ⊢
                      have hP : va_P (dC, dI) cls [(pr, .inr (6, [.ref gl, .ref fu, .ref pa, .ref pf, .ref sf, .ref pk, .ref pg, .ref pp, .ref pz, .ref pv, .int pr_reason, .int pr_place, .ref pr_scanner_r, .int pr_stepCount, .int pr_open, .int pr_twoSides, .ref pr_waiting_r, .ref pr_waitingPlaces_r, .int pr_waitingCount])), (bo, .inr (1, [.ref bob, .int j159_bo_length])), (bob, .inl (cbob, 8192, .inl j159_bob)), (h0, .inr (2, [.ref pr, .ref kn, .ref lt, .int h0_localCount, .ref pe, .int n14, .int h0_gives, .int h0_depth, .int h0_loopDepth, .ref to, .ref bo, .ref cs, .ref se])), (pe, .inl (cpe, 680, .inl n13))] H := hP
                      have hD : va_D A [(pr, .inr (6, [.ref gl, .ref fu, .ref pa, .ref pf, .ref sf, .ref pk, .ref pg, .ref pp, .ref pz, .ref pv, .int pr_reason, .int pr_place, .ref pr_scanner_r, .int pr_stepCount, .int pr_open, .int pr_twoSides, .ref pr_waiting_r, .ref pr_waitingPlaces_r, .int pr_waitingCount])), (bo, .inr (1, [.ref bob, .int j159_bo_length])), (bob, .inl (cbob, 8192, .inl j159_bob)), (h0, .inr (2, [.ref pr, .ref kn, .ref lt, .int h0_localCount, .ref pe, .int n14, .int h0_gives, .int h0_depth, .int h0_loopDepth, .ref to, .ref bo, .ref cs, .ref se])), (pe, .inl (cpe, 680, .inl n13))] := hD
                      have hP9 := hP.sub (ws' := [(h0, .inr (2, [.ref pr, .ref kn, .ref lt, .int h0_localCount, .ref pe, .int n14, .int h0_gives, .int h0_depth, .int h0_loopDepth, .ref to, .ref bo, .ref cs, .ref se])), (pr, .inr (6, [.ref gl, .ref fu, .ref pa, .ref pf, .ref sf, .ref pk, .ref pg, .ref pp, .ref pz, .ref pv, .int pr_reason, .int pr_place, .ref pr_scanner_r, .int pr_stepCount, .int pr_open, .int pr_twoSides, .ref pr_waiting_r, .ref pr_waitingPlaces_r, .int pr_waitingCount])), (pe, .inl (cpe, 680, .inl n13)), (bo, .inr (1, [.ref bob, .int j159_bo_length])), (bob, .inl (cbob, 8192, .inl j159_bob))]) [3, 0, 4, 1, 2] rfl
                      have hD9 := hD.sub (ws' := [(h0, .inr (2, [.ref pr, .ref kn, .ref lt, .int h0_localCount, .ref pe, .int n14, .int h0_gives, .int h0_depth, .int h0_loopDepth, .ref to, .ref bo, .ref cs, .ref se])), (pr, .inr (6, [.ref gl, .ref fu, .ref pa, .ref pf, .ref sf, .ref pk, .ref pg, .ref pp, .ref pz, .ref pv, .int pr_reason, .int pr_place, .ref pr_scanner_r, .int pr_stepCount, .int pr_open, .int pr_twoSides, .ref pr_waiting_r, .ref pr_waitingPlaces_r, .int pr_waitingCount])), (pe, .inl (cpe, 680, .inl n13)), (bo, .inr (1, [.ref bob, .int j159_bo_length])), (bob, .inl (cbob, 8192, .inl j159_bob))]) [3, 0, 4, 1, 2] (by decide) rfl
                      exact tz_up (fun _ => rfl) (W.vret hx hb hr (fun t ht hW => ⟨⟨(j159_bob, n13, j159_bo_length, n14, pr_place, pr_reason), ⟨rfl, ⟨b_j159_bo_length, bn14, ⟨by (try dsimp only) <;> omega, by rw [show (h0_pendingCount.toInt - 1).toNat = n2.toNatClampNeg from by have := i32_clamp (x := n2) (by omega); omega, ← xr1.2]; omega, by rw [show (h0_pendingCount.toInt - 2).toNat = n4.toNatClampNeg from by have := i32_clamp (x := n4) (by omega); omega, ← xr3.2]; omega, by rw [show (h0_pendingCount.toInt - 1).toNat = n2.toNatClampNeg from by have := i32_clamp (x := n2) (by omega); omega, ← xr1.2, show (h0_pendingCount.toInt - 2).toNat = n4.toNatClampNeg from by have := i32_clamp (x := n4) (by omega); omega, ← xr3.2]; intro z; have := y66.2.2 z; omega, ⟨j175_s0, by rw [show (h0_pendingCount.toInt - 2).toNat = n4.toNatClampNeg from by have := i32_clamp (x := n4) (by omega); omega]; exact xr12.2, y175.1, by have := hty; rw [show (h0_pendingCount.toInt - 2).toNat = n4.toNatClampNeg from by have := i32_clamp (x := n4) (by omega); omega, ← xr3.2] at this; have := y175.2; omega⟩, M159, e159, cc159, n159⟩⟩⟩, by rw [ht]; exact hP9, va_K.moved hW.alike hK, hD9⟩, hS.F ht⟩) hS.2.2 d_CO_codeTwoSides_178)
                    · skip
                      refine lv_icmp_ne (tgt := 173) hx hb d_CO_codeTwoSides_165 (by decide) (fun c165 => ?_) (fun c165 => ?_)
                      · have q165 := neI c165
                        refine lv_iload hx hb d_CO_codeTwoSides_173 (lv_at hl 2 rfl) ?_
                        exact jn175 r3 _ _ _ ⟨⟨fun z => y66.2.2 z, Or.inr rfl⟩, hP, hD, hS, lv_sub hl [] rfl⟩
                      · have q165 := eqI c165
                        refine lv_bipush (v := 127) hx hb d_CO_codeTwoSides_168 (by decide) ?_
                        refine lv_goto (tgt := 175) hx hb d_CO_codeTwoSides_170 (by decide) ?_
                        exact jn175 127 _ _ _ ⟨⟨fun _ => by decide, Or.inl (by decide)⟩, hP, hD, hS, lv_sub hl [] rfl⟩
                  · skip
                    refine lv_if_eq (tgt := 159) hx hb d_CO_codeTwoSides_147 (by decide) (fun c147 => ?_) (fun c147 => ?_)
                    · have q147 := eqI c147
                      exact jn159 (j145_bob, j145_bo_length) _ _ _ ⟨b_j145_bo_length, ⟨M145, e145, (by have nl : (ka ≠ 36 ∧ ka ≠ 37) := (by rcases y30 with z | z; (exfalso; rw [z.1] at c147; exact absurd c147 (by decide)); exact z.2); exact ⟨fun z => absurd z nl.1, fun z => absurd z nl.2, cc145.2.2⟩), n145⟩, hP, hD, hS, lv_sub hl [0, 1, 2] rfl⟩
                    · have q147 := neI c147
                      have k150 : (ka = 36 ∨ ka = 37) := (by rcases y30 with z | z; exact z.2; (exfalso; rw [z.1] at q147; exact q147 rfl))
                      refine lv_aload_n hx hb d_CO_codeTwoSides_150 rfl (lv_at hl 0 rfl) ?_
                      refine va_get (D := (dC, dI)) (ci := 2) (v := .ref bo) (C := R_CO) (T := F_CO) (N := 13) hx hb hts i_CO hown hK hP 1 rfl rfl 10 (by decide) (hts _ kF_CO_26) (fun _ h9 => h9) rfl d_CO_codeTwoSides_151 ?_
                      refine lv_bipush (v := 11) hx hb d_CO_codeTwoSides_154 (by decide) ?_
                      have hPc := hP.sub (ws' := [(bo, .inr (1, [.ref bob, .int j145_bo_length])), (bob, .inl (cbob, 8192, .inl j145_bob))]) [3, 4] rfl
                      have hDc := hD.sub (ws' := [(bo, .inr (1, [.ref bob, .int j145_bo_length])), (bob, .inl (cbob, 8192, .inl j145_bob))]) [3, 4] (by decide) rfl
                      have hKc := hK.sub (tys' := [(cbob, .byte)]) [1] rfl
                      have hFc := va_free (wc := [(bo, .inr (1, [.ref bob, .int j145_bo_length])), (bob, .inl (cbob, 8192, .inl j145_bob))]) hD hS hA [3, 4] rfl
                      refine va_callv (va_runV (As := [.int 11]) (rest := []) ⟨hx, hb, hml, hown, hts⟩ (c_BR_put l dC dI bo bob H.size cbob 8192 j145_bo_length j145_bob (by omega) (by omega) (by omega) 11) (cwV 1 hts (gV kM_CO_76 kV_BR_put kS_BR_put kI_BR kC_BR_put) rfl rfl rfl (by decide +kernel) ⟨Nat.le_of_ble_eq_true rfl, Nat.le_of_ble_eq_true rfl⟩) ⟨fun a U g mk z => by obtain ⟨z0, z1, zP, zK, zD⟩ := z; exact ⟨z0, z1, zP, va_K.moved (u := U) (U := U.calling g mk a) (Vm.Alike.refl U.vm) zK, zD⟩, va_recv hKc hPc (ci := 1) (q0 := 0) rfl rfl, fun U hU hW => ⟨rfl, by rw [hU], by rw [hU]; exact hPc, va_K.moved hW.alike hKc, hDc.weaken (fun _ _ _ _ => trivial)⟩⟩ rfl rfl hl.1 rfl (lv_room (Nat.le_of_ble_eq_true rfl)) d_CO_codeTwoSides_156 ⟨(Nat.zero_le _), (Nat.zero_le _)⟩) hS (fun q _ h => hFc q h) hFc (fun u t H1 locs ht hvm hw hB hz1 hk1 hS => ?_)
                      obtain ⟨n16, f17⟩ := u
                      try dsimp only at hw
                      have tn16 := br_put_in (by omega) (by omega) (by omega) hw
                      have bn16 := br_put_bl (by omega) (by omega) (by omega) hw
                      obtain ⟨hP1, hK1, hD1⟩ := hB
                      rw [ht] at hP1
                      obtain ⟨hP, hD⟩ := va_join (wr := [(pr, .inr (6, [.ref gl, .ref fu, .ref pa, .ref pf, .ref sf, .ref pk, .ref pg, .ref pp, .ref pz, .ref pv, .int pr_reason, .int pr_place, .ref pr_scanner_r, .int pr_stepCount, .int pr_open, .int pr_twoSides, .ref pr_waiting_r, .ref pr_waitingPlaces_r, .int pr_waitingCount])), (h0, .inr (2, [.ref pr, .ref kn, .ref lt, .int h0_localCount, .ref pe, .int n4, .int h0_gives, .int h0_depth, .int h0_loopDepth, .ref to, .ref bo, .ref cs, .ref se])), (pe, .inl (cpe, 680, .inl gpe))]) (w1 := [(bo, .inr (1, [.ref bob, .int n16])), (bob, .inl (cbob, 8192, .inl f17))]) hP hD [3, 4] [0, 1, 2] rfl rfl (by decide) (by decide) hk1 hFc hP1 hD1
                      clear hPc hDc hKc hFc hz1 hk1 hP1 hK1 hD1
                      generalize H1 = H at hP hS ⊢
                      have hP : va_P (dC, dI) cls [(pr, .inr (6, [.ref gl, .ref fu, .ref pa, .ref pf, .ref sf, .ref pk, .ref pg, .ref pp, .ref pz, .ref pv, .int pr_reason, .int pr_place, .ref pr_scanner_r, .int pr_stepCount, .int pr_open, .int pr_twoSides, .ref pr_waiting_r, .ref pr_waitingPlaces_r, .int pr_waitingCount])), (h0, .inr (2, [.ref pr, .ref kn, .ref lt, .int h0_localCount, .ref pe, .int n4, .int h0_gives, .int h0_depth, .int h0_loopDepth, .ref to, .ref bo, .ref cs, .ref se])), (pe, .inl (cpe, 680, .inl gpe)), (bo, .inr (1, [.ref bob, .int n16])), (bob, .inl (cbob, 8192, .inl f17))] H := hP
                      have hD : va_D A [(pr, .inr (6, [.ref gl, .ref fu, .ref pa, .ref pf, .ref sf, .ref pk, .ref pg, .ref pp, .ref pz, .ref pv, .int pr_reason, .int pr_place, .ref pr_scanner_r, .int pr_stepCount, .int pr_open, .int pr_twoSides, .ref pr_waiting_r, .ref pr_waitingPlaces_r, .int pr_waitingCount])), (h0, .inr (2, [.ref pr, .ref kn, .ref lt, .int h0_localCount, .ref pe, .int n4, .int h0_gives, .int h0_depth, .int h0_loopDepth, .ref to, .ref bo, .ref cs, .ref se])), (pe, .inl (cpe, 680, .inl gpe)), (bo, .inr (1, [.ref bob, .int n16])), (bob, .inl (cbob, 8192, .inl f17))] := hD
                      exact jn159 (f17, n16) _ _ _ ⟨by (try dsimp only) <;> omega, ⟨M145 ++ [11], by rw [bn16 (by omega), e145, List.append_assoc]; rfl, ⟨fun z => by rw [cc145.1 z]; rfl, fun z => by rw [cc145.2.1 z]; rfl, fun z => absurd k150 (by omega)⟩, by rw [List.length_append, List.length_singleton]; omega⟩, hP, hD, hS, lv_sub hl [0, 1, 2] rfl⟩
                · skip
                  refine lv_acmp_ne (rx := some (sg sa ka)) (ry := some (sg sa 37)) (tgt := 145) hx hb d_CO_codeTwoSides_117 (by decide) (fun c117 => ?_) (fun c117 => ?_)
                  · have q117 : ka ≠ 37 := fun z => c117 (by rw [z])
                    exact jn145 (f10, n9) _ _ _ ⟨by (try dsimp only) <;> omega, ⟨M88 ++ [bn j110_s0], hm3, ⟨cm3.1, fun z => absurd z q117, cm3.2.2⟩, by rw [List.length_append, List.length_singleton]; omega⟩, hP, hD, hS, lv_sub hl [0, 1, 2, 3] rfl⟩
                  · have q117 : ka = 37 := hSW.2.2.2.1.2 ka 37 ba0 (by decide : 37 < 55) (Option.some.inj c117)
                    refine lv_aload_n hx hb d_CO_codeTwoSides_120 rfl (lv_at hl 0 rfl) ?_
                    refine va_get (D := (dC, dI)) (ci := 2) (v := .ref bo) (C := R_CO) (T := F_CO) (N := 13) hx hb hts i_CO hown hK hP 1 rfl rfl 10 (by decide) (hts _ kF_CO_26) (fun _ h9 => h9) rfl d_CO_codeTwoSides_121 ?_
                    refine lv_iconst (v := 5) hx hb d_CO_codeTwoSides_124 (by decide) ?_
                    have hPc := hP.sub (ws' := [(bo, .inr (1, [.ref bob, .int n9])), (bob, .inl (cbob, 8192, .inl f10))]) [3, 4] rfl
                    have hDc := hD.sub (ws' := [(bo, .inr (1, [.ref bob, .int n9])), (bob, .inl (cbob, 8192, .inl f10))]) [3, 4] (by decide) rfl
                    have hKc := hK.sub (tys' := [(cbob, .byte)]) [1] rfl
                    have hFc := va_free (wc := [(bo, .inr (1, [.ref bob, .int n9])), (bob, .inl (cbob, 8192, .inl f10))]) hD hS hA [3, 4] rfl
                    refine va_callv (va_runV (As := [.int 5]) (rest := []) ⟨hx, hb, hml, hown, hts⟩ (c_BR_put l dC dI bo bob H.size cbob 8192 n9 f10 (by omega) (by omega) (by omega) 5) (cwV 1 hts (gV kM_CO_76 kV_BR_put kS_BR_put kI_BR kC_BR_put) rfl rfl rfl (by decide +kernel) ⟨Nat.le_of_ble_eq_true rfl, Nat.le_of_ble_eq_true rfl⟩) ⟨fun a U g mk z => by obtain ⟨z0, z1, zP, zK, zD⟩ := z; exact ⟨z0, z1, zP, va_K.moved (u := U) (U := U.calling g mk a) (Vm.Alike.refl U.vm) zK, zD⟩, va_recv hKc hPc (ci := 1) (q0 := 0) rfl rfl, fun U hU hW => ⟨rfl, by rw [hU], by rw [hU]; exact hPc, va_K.moved hW.alike hKc, hDc.weaken (fun _ _ _ _ => trivial)⟩⟩ rfl rfl hl.1 rfl (lv_room (Nat.le_of_ble_eq_true rfl)) d_CO_codeTwoSides_125 ⟨(Nat.zero_le _), (Nat.zero_le _)⟩) hS (fun q _ h => hFc q h) hFc (fun u t H1 locs ht hvm hw hB hz1 hk1 hS => ?_)
                    obtain ⟨n19, f20⟩ := u
                    try dsimp only at hw
                    have tn19 := br_put_in (by omega) (by omega) (by omega) hw
                    have bn19 := br_put_bl (by omega) (by omega) (by omega) hw
                    obtain ⟨hP1, hK1, hD1⟩ := hB
                    rw [ht] at hP1
                    obtain ⟨hP, hD⟩ := va_join (wr := [(pr, .inr (6, [.ref gl, .ref fu, .ref pa, .ref pf, .ref sf, .ref pk, .ref pg, .ref pp, .ref pz, .ref pv, .int pr_reason, .int pr_place, .ref pr_scanner_r, .int pr_stepCount, .int pr_open, .int pr_twoSides, .ref pr_waiting_r, .ref pr_waitingPlaces_r, .int pr_waitingCount])), (h0, .inr (2, [.ref pr, .ref kn, .ref lt, .int h0_localCount, .ref pe, .int n4, .int h0_gives, .int h0_depth, .int h0_loopDepth, .ref to, .ref bo, .ref cs, .ref se])), (pe, .inl (cpe, 680, .inl gpe))]) (w1 := [(bo, .inr (1, [.ref bob, .int n19])), (bob, .inl (cbob, 8192, .inl f20))]) hP hD [3, 4] [0, 1, 2] rfl rfl (by decide) (by decide) hk1 hFc hP1 hD1
                    clear hPc hDc hKc hFc hz1 hk1 hP1 hK1 hD1
                    generalize H1 = H at hP hS ⊢
                    have hP : va_P (dC, dI) cls [(pr, .inr (6, [.ref gl, .ref fu, .ref pa, .ref pf, .ref sf, .ref pk, .ref pg, .ref pp, .ref pz, .ref pv, .int pr_reason, .int pr_place, .ref pr_scanner_r, .int pr_stepCount, .int pr_open, .int pr_twoSides, .ref pr_waiting_r, .ref pr_waitingPlaces_r, .int pr_waitingCount])), (h0, .inr (2, [.ref pr, .ref kn, .ref lt, .int h0_localCount, .ref pe, .int n4, .int h0_gives, .int h0_depth, .int h0_loopDepth, .ref to, .ref bo, .ref cs, .ref se])), (pe, .inl (cpe, 680, .inl gpe)), (bo, .inr (1, [.ref bob, .int n19])), (bob, .inl (cbob, 8192, .inl f20))] H := hP
                    have hD : va_D A [(pr, .inr (6, [.ref gl, .ref fu, .ref pa, .ref pf, .ref sf, .ref pk, .ref pg, .ref pp, .ref pz, .ref pv, .int pr_reason, .int pr_place, .ref pr_scanner_r, .int pr_stepCount, .int pr_open, .int pr_twoSides, .ref pr_waiting_r, .ref pr_waitingPlaces_r, .int pr_waitingCount])), (h0, .inr (2, [.ref pr, .ref kn, .ref lt, .int h0_localCount, .ref pe, .int n4, .int h0_gives, .int h0_depth, .int h0_loopDepth, .ref to, .ref bo, .ref cs, .ref se])), (pe, .inl (cpe, 680, .inl gpe)), (bo, .inr (1, [.ref bob, .int n19])), (bob, .inl (cbob, 8192, .inl f20))] := hD
                    refine lv_aload_n hx hb d_CO_codeTwoSides_128 rfl (lv_at hl 0 rfl) ?_
                    refine va_get (D := (dC, dI)) (ci := 2) (v := .ref bo) (C := R_CO) (T := F_CO) (N := 13) hx hb hts i_CO hown hK hP 1 rfl rfl 10 (by decide) (hts _ kF_CO_26) (fun _ h9 => h9) rfl d_CO_codeTwoSides_129 ?_
                    refine lv_bipush (v := 65) hx hb d_CO_codeTwoSides_132 (by decide) ?_
                    have hPc := hP.sub (ws' := [(bo, .inr (1, [.ref bob, .int n19])), (bob, .inl (cbob, 8192, .inl f20))]) [3, 4] rfl
                    have hDc := hD.sub (ws' := [(bo, .inr (1, [.ref bob, .int n19])), (bob, .inl (cbob, 8192, .inl f20))]) [3, 4] (by decide) rfl
                    have hKc := hK.sub (tys' := [(cbob, .byte)]) [1] rfl
                    have hFc := va_free (wc := [(bo, .inr (1, [.ref bob, .int n19])), (bob, .inl (cbob, 8192, .inl f20))]) hD hS hA [3, 4] rfl
                    refine va_callv (va_runV (As := [.int 65]) (rest := []) ⟨hx, hb, hml, hown, hts⟩ (c_BR_put l dC dI bo bob H.size cbob 8192 n19 f20 (by omega) (by omega) (by omega) 65) (cwV 1 hts (gV kM_CO_76 kV_BR_put kS_BR_put kI_BR kC_BR_put) rfl rfl rfl (by decide +kernel) ⟨Nat.le_of_ble_eq_true rfl, Nat.le_of_ble_eq_true rfl⟩) ⟨fun a U g mk z => by obtain ⟨z0, z1, zP, zK, zD⟩ := z; exact ⟨z0, z1, zP, va_K.moved (u := U) (U := U.calling g mk a) (Vm.Alike.refl U.vm) zK, zD⟩, va_recv hKc hPc (ci := 1) (q0 := 0) rfl rfl, fun U hU hW => ⟨rfl, by rw [hU], by rw [hU]; exact hPc, va_K.moved hW.alike hKc, hDc.weaken (fun _ _ _ _ => trivial)⟩⟩ rfl rfl hl.1 rfl (lv_room (Nat.le_of_ble_eq_true rfl)) d_CO_codeTwoSides_134 ⟨(Nat.zero_le _), (Nat.zero_le _)⟩) hS (fun q _ h => hFc q h) hFc (fun u t H1 locs ht hvm hw hB hz1 hk1 hS => ?_)
                    obtain ⟨n22, f23⟩ := u
                    try dsimp only at hw
                    have tn22 := br_put_in (by omega) (by omega) (by omega) hw
                    have bn22 := br_put_bl (by omega) (by omega) (by omega) hw
                    obtain ⟨hP1, hK1, hD1⟩ := hB
                    rw [ht] at hP1
                    obtain ⟨hP, hD⟩ := va_join (wr := [(pr, .inr (6, [.ref gl, .ref fu, .ref pa, .ref pf, .ref sf, .ref pk, .ref pg, .ref pp, .ref pz, .ref pv, .int pr_reason, .int pr_place, .ref pr_scanner_r, .int pr_stepCount, .int pr_open, .int pr_twoSides, .ref pr_waiting_r, .ref pr_waitingPlaces_r, .int pr_waitingCount])), (h0, .inr (2, [.ref pr, .ref kn, .ref lt, .int h0_localCount, .ref pe, .int n4, .int h0_gives, .int h0_depth, .int h0_loopDepth, .ref to, .ref bo, .ref cs, .ref se])), (pe, .inl (cpe, 680, .inl gpe))]) (w1 := [(bo, .inr (1, [.ref bob, .int n22])), (bob, .inl (cbob, 8192, .inl f23))]) hP hD [3, 4] [0, 1, 2] rfl rfl (by decide) (by decide) hk1 hFc hP1 hD1
                    clear hPc hDc hKc hFc hz1 hk1 hP1 hK1 hD1
                    generalize H1 = H at hP hS ⊢
                    have hP : va_P (dC, dI) cls [(pr, .inr (6, [.ref gl, .ref fu, .ref pa, .ref pf, .ref sf, .ref pk, .ref pg, .ref pp, .ref pz, .ref pv, .int pr_reason, .int pr_place, .ref pr_scanner_r, .int pr_stepCount, .int pr_open, .int pr_twoSides, .ref pr_waiting_r, .ref pr_waitingPlaces_r, .int pr_waitingCount])), (h0, .inr (2, [.ref pr, .ref kn, .ref lt, .int h0_localCount, .ref pe, .int n4, .int h0_gives, .int h0_depth, .int h0_loopDepth, .ref to, .ref bo, .ref cs, .ref se])), (pe, .inl (cpe, 680, .inl gpe)), (bo, .inr (1, [.ref bob, .int n22])), (bob, .inl (cbob, 8192, .inl f23))] H := hP
                    have hD : va_D A [(pr, .inr (6, [.ref gl, .ref fu, .ref pa, .ref pf, .ref sf, .ref pk, .ref pg, .ref pp, .ref pz, .ref pv, .int pr_reason, .int pr_place, .ref pr_scanner_r, .int pr_stepCount, .int pr_open, .int pr_twoSides, .ref pr_waiting_r, .ref pr_waitingPlaces_r, .int pr_waitingCount])), (h0, .inr (2, [.ref pr, .ref kn, .ref lt, .int h0_localCount, .ref pe, .int n4, .int h0_gives, .int h0_depth, .int h0_loopDepth, .ref to, .ref bo, .ref cs, .ref se])), (pe, .inl (cpe, 680, .inl gpe)), (bo, .inr (1, [.ref bob, .int n22])), (bob, .inl (cbob, 8192, .inl f23))] := hD
                    refine lv_aload_n hx hb d_CO_codeTwoSides_137 rfl (lv_at hl 0 rfl) ?_
                    refine va_get (D := (dC, dI)) (ci := 2) (v := .ref bo) (C := R_CO) (T := F_CO) (N := 13) hx hb hts i_CO hown hK hP 1 rfl rfl 10 (by decide) (hts _ kF_CO_26) (fun _ h9 => h9) rfl d_CO_codeTwoSides_138 ?_
                    refine lv_iconst (v := 0) hx hb d_CO_codeTwoSides_141 (by decide) ?_
                    have hPc := hP.sub (ws' := [(bo, .inr (1, [.ref bob, .int n22])), (bob, .inl (cbob, 8192, .inl f23))]) [3, 4] rfl
                    have hDc := hD.sub (ws' := [(bo, .inr (1, [.ref bob, .int n22])), (bob, .inl (cbob, 8192, .inl f23))]) [3, 4] (by decide) rfl
                    have hKc := hK.sub (tys' := [(cbob, .byte)]) [1] rfl
                    have hFc := va_free (wc := [(bo, .inr (1, [.ref bob, .int n22])), (bob, .inl (cbob, 8192, .inl f23))]) hD hS hA [3, 4] rfl
                    refine va_callv (va_runV (As := [.int 0]) (rest := []) ⟨hx, hb, hml, hown, hts⟩ (c_BR_put l dC dI bo bob H.size cbob 8192 n22 f23 (by omega) (by omega) (by omega) 0) (cwV 1 hts (gV kM_CO_76 kV_BR_put kS_BR_put kI_BR kC_BR_put) rfl rfl rfl (by decide +kernel) ⟨Nat.le_of_ble_eq_true rfl, Nat.le_of_ble_eq_true rfl⟩) ⟨fun a U g mk z => by obtain ⟨z0, z1, zP, zK, zD⟩ := z; exact ⟨z0, z1, zP, va_K.moved (u := U) (U := U.calling g mk a) (Vm.Alike.refl U.vm) zK, zD⟩, va_recv hKc hPc (ci := 1) (q0 := 0) rfl rfl, fun U hU hW => ⟨rfl, by rw [hU], by rw [hU]; exact hPc, va_K.moved hW.alike hKc, hDc.weaken (fun _ _ _ _ => trivial)⟩⟩ rfl rfl hl.1 rfl (lv_room (Nat.le_of_ble_eq_true rfl)) d_CO_codeTwoSides_142 ⟨(Nat.zero_le _), (Nat.zero_le _)⟩) hS (fun q _ h => hFc q h) hFc (fun u t H1 locs ht hvm hw hB hz1 hk1 hS => ?_)
                    obtain ⟨n25, f26⟩ := u
                    try dsimp only at hw
                    have tn25 := br_put_in (by omega) (by omega) (by omega) hw
                    have bn25 := br_put_bl (by omega) (by omega) (by omega) hw
                    obtain ⟨hP1, hK1, hD1⟩ := hB
                    rw [ht] at hP1
                    obtain ⟨hP, hD⟩ := va_join (wr := [(pr, .inr (6, [.ref gl, .ref fu, .ref pa, .ref pf, .ref sf, .ref pk, .ref pg, .ref pp, .ref pz, .ref pv, .int pr_reason, .int pr_place, .ref pr_scanner_r, .int pr_stepCount, .int pr_open, .int pr_twoSides, .ref pr_waiting_r, .ref pr_waitingPlaces_r, .int pr_waitingCount])), (h0, .inr (2, [.ref pr, .ref kn, .ref lt, .int h0_localCount, .ref pe, .int n4, .int h0_gives, .int h0_depth, .int h0_loopDepth, .ref to, .ref bo, .ref cs, .ref se])), (pe, .inl (cpe, 680, .inl gpe))]) (w1 := [(bo, .inr (1, [.ref bob, .int n25])), (bob, .inl (cbob, 8192, .inl f26))]) hP hD [3, 4] [0, 1, 2] rfl rfl (by decide) (by decide) hk1 hFc hP1 hD1
                    clear hPc hDc hKc hFc hz1 hk1 hP1 hK1 hD1
                    generalize H1 = H at hP hS ⊢
                    have hP : va_P (dC, dI) cls [(pr, .inr (6, [.ref gl, .ref fu, .ref pa, .ref pf, .ref sf, .ref pk, .ref pg, .ref pp, .ref pz, .ref pv, .int pr_reason, .int pr_place, .ref pr_scanner_r, .int pr_stepCount, .int pr_open, .int pr_twoSides, .ref pr_waiting_r, .ref pr_waitingPlaces_r, .int pr_waitingCount])), (h0, .inr (2, [.ref pr, .ref kn, .ref lt, .int h0_localCount, .ref pe, .int n4, .int h0_gives, .int h0_depth, .int h0_loopDepth, .ref to, .ref bo, .ref cs, .ref se])), (pe, .inl (cpe, 680, .inl gpe)), (bo, .inr (1, [.ref bob, .int n25])), (bob, .inl (cbob, 8192, .inl f26))] H := hP
                    have hD : va_D A [(pr, .inr (6, [.ref gl, .ref fu, .ref pa, .ref pf, .ref sf, .ref pk, .ref pg, .ref pp, .ref pz, .ref pv, .int pr_reason, .int pr_place, .ref pr_scanner_r, .int pr_stepCount, .int pr_open, .int pr_twoSides, .ref pr_waiting_r, .ref pr_waitingPlaces_r, .int pr_waitingCount])), (h0, .inr (2, [.ref pr, .ref kn, .ref lt, .int h0_localCount, .ref pe, .int n4, .int h0_gives, .int h0_depth, .int h0_loopDepth, .ref to, .ref bo, .ref cs, .ref se])), (pe, .inl (cpe, 680, .inl gpe)), (bo, .inr (1, [.ref bob, .int n25])), (bob, .inl (cbob, 8192, .inl f26))] := hD
                    exact jn145 (f26, n25) _ _ _ ⟨by (try dsimp only) <;> omega, ⟨(M88 ++ [bn j110_s0]) ++ [5, 65, 0], by rw [bn25 (by omega), bn22 (by omega), bn19 (by omega), hm3]; simp only [List.append_assoc]; rfl, ⟨fun z => absurd (q117.symm.trans z) (by decide), fun z => by rw [cm3.2.1 z]; rfl, fun z => absurd q117 (by omega)⟩, by rw [List.length_append, List.length_append, List.length_singleton]; simp only [List.length_cons, List.length_nil]; omega⟩, hP, hD, hS, lv_sub hl [0, 1, 2, 3] rfl⟩
              · skip
                refine lv_icmp_ne (tgt := 106) hx hb d_CO_codeTwoSides_96 (by decide) (fun c96 => ?_) (fun c96 => ?_)
                · have q96 := neI c96
                  refine lv_aload_n hx hb d_CO_codeTwoSides_106 rfl (lv_at hl 1 rfl) ?_
                  refine va_getE (i := ka) (q := ("WaferForge$Sign", "code64", "I", sg_code64)) hx hb hSW.2.2.2.1 ba0 hS hown (List.mem_of_getElem? (i := 3) rfl) (hts _ kF_CO_233) (fun _ h9 => h9) d_CO_codeTwoSides_107 ?_
                  refine lv_topi (fun x27 ex27 => ?_)
                  have ex27 : x27 = sg_code64.getD ka 0 := ex27
                  exact jn110 x27 _ _ _ ⟨Or.inr ⟨ex27, by omega⟩, hP, hD, hS, lv_sub hl [0, 1, 2, 3] rfl⟩
                · have q96 := eqI c96
                  refine lv_aload_n hx hb d_CO_codeTwoSides_99 rfl (lv_at hl 1 rfl) ?_
                  refine va_getE (i := ka) (q := ("WaferForge$Sign", "code32", "I", sg_code32)) hx hb hSW.2.2.2.1 ba0 hS hown (List.mem_of_getElem? (i := 2) rfl) (hts _ kF_CO_230) (fun _ h9 => h9) d_CO_codeTwoSides_100 ?_
                  refine lv_topi (fun x28 ex28 => ?_)
                  have ex28 : x28 = sg_code32.getD ka 0 := ex28
                  refine lv_goto (tgt := 110) hx hb d_CO_codeTwoSides_103 (by decide) ?_
                  exact jn110 x28 _ _ _ ⟨Or.inl ⟨ex28, by omega⟩, hP, hD, hS, lv_sub hl [0, 1, 2, 3] rfl⟩
            · skip
              refine lv_if_eq (tgt := 88) hx hb d_CO_codeTwoSides_68 (by decide) (fun c68 => ?_) (fun c68 => ?_)
              · have q68 := eqI c68
                exact jn88 (gbob, bo_length) _ _ _ ⟨b_bo_length, ⟨[], by simp, Or.inr ⟨(by rcases y30 with z | z; (exfalso; rw [z.1] at c68; exact absurd c68 (by decide)); exact z.2), rfl⟩, by simp⟩, hP, hD, hS, lv_sub hl [0, 1, 2, 3] rfl⟩
              · have q68 := neI c68
                have k71 : (ka = 36 ∨ ka = 37) := (by rcases y30 with z | z; exact z.2; (exfalso; rw [z.1] at q68; exact q68 rfl))
                refine lv_aload_n hx hb d_CO_codeTwoSides_71 rfl (lv_at hl 0 rfl) ?_
                refine va_get (D := (dC, dI)) (ci := 2) (v := .ref bo) (C := R_CO) (T := F_CO) (N := 13) hx hb hts i_CO hown hK hP 3 rfl rfl 10 (by decide) (hts _ kF_CO_26) (fun _ h9 => h9) rfl d_CO_codeTwoSides_72 ?_
                refine lv_bipush (v := 65) hx hb d_CO_codeTwoSides_75 (by decide) ?_
                have hPc := hP.sub (ws' := [(bo, .inr (1, [.ref bob, .int bo_length])), (bob, .inl (cbob, 8192, .inl gbob))]) [1, 2] rfl
                have hDc := hD.sub (ws' := [(bo, .inr (1, [.ref bob, .int bo_length])), (bob, .inl (cbob, 8192, .inl gbob))]) [1, 2] (by decide) rfl
                have hKc := hK.sub (tys' := [(cbob, .byte)]) [1] rfl
                have hFc := va_free (wc := [(bo, .inr (1, [.ref bob, .int bo_length])), (bob, .inl (cbob, 8192, .inl gbob))]) hD hS hA [1, 2] rfl
                refine va_callv (va_runV (As := [.int 65]) (rest := []) ⟨hx, hb, hml, hown, hts⟩ (c_BR_put l dC dI bo bob H.size cbob 8192 bo_length gbob (by omega) (by omega) (by omega) 65) (cwV 1 hts (gV kM_CO_76 kV_BR_put kS_BR_put kI_BR kC_BR_put) rfl rfl rfl (by decide +kernel) ⟨Nat.le_of_ble_eq_true rfl, Nat.le_of_ble_eq_true rfl⟩) ⟨fun a U g mk z => by obtain ⟨z0, z1, zP, zK, zD⟩ := z; exact ⟨z0, z1, zP, va_K.moved (u := U) (U := U.calling g mk a) (Vm.Alike.refl U.vm) zK, zD⟩, va_recv hKc hPc (ci := 1) (q0 := 0) rfl rfl, fun U hU hW => ⟨rfl, by rw [hU], by rw [hU]; exact hPc, va_K.moved hW.alike hKc, hDc.weaken (fun _ _ _ _ => trivial)⟩⟩ rfl rfl hl.1 rfl (lv_room (Nat.le_of_ble_eq_true rfl)) d_CO_codeTwoSides_77 ⟨(Nat.zero_le _), (Nat.zero_le _)⟩) hS (fun q _ h => hFc q h) hFc (fun u t H1 locs ht hvm hw hB hz1 hk1 hS => ?_)
                obtain ⟨n30, f31⟩ := u
                try dsimp only at hw
                have tn30 := br_put_in (by omega) (by omega) (by omega) hw
                have bn30 := br_put_bl (by omega) (by omega) (by omega) hw
                obtain ⟨hP1, hK1, hD1⟩ := hB
                rw [ht] at hP1
                obtain ⟨hP, hD⟩ := va_join (wr := [(pr, .inr (6, [.ref gl, .ref fu, .ref pa, .ref pf, .ref sf, .ref pk, .ref pg, .ref pp, .ref pz, .ref pv, .int pr_reason, .int pr_place, .ref pr_scanner_r, .int pr_stepCount, .int pr_open, .int pr_twoSides, .ref pr_waiting_r, .ref pr_waitingPlaces_r, .int pr_waitingCount])), (h0, .inr (2, [.ref pr, .ref kn, .ref lt, .int h0_localCount, .ref pe, .int n4, .int h0_gives, .int h0_depth, .int h0_loopDepth, .ref to, .ref bo, .ref cs, .ref se])), (pe, .inl (cpe, 680, .inl gpe))]) (w1 := [(bo, .inr (1, [.ref bob, .int n30])), (bob, .inl (cbob, 8192, .inl f31))]) hP hD [1, 2] [0, 3, 4] rfl rfl (by decide) (by decide) hk1 hFc hP1 hD1
                clear hPc hDc hKc hFc hz1 hk1 hP1 hK1 hD1
                generalize H1 = H at hP hS ⊢
                have hP : va_P (dC, dI) cls [(pr, .inr (6, [.ref gl, .ref fu, .ref pa, .ref pf, .ref sf, .ref pk, .ref pg, .ref pp, .ref pz, .ref pv, .int pr_reason, .int pr_place, .ref pr_scanner_r, .int pr_stepCount, .int pr_open, .int pr_twoSides, .ref pr_waiting_r, .ref pr_waitingPlaces_r, .int pr_waitingCount])), (h0, .inr (2, [.ref pr, .ref kn, .ref lt, .int h0_localCount, .ref pe, .int n4, .int h0_gives, .int h0_depth, .int h0_loopDepth, .ref to, .ref bo, .ref cs, .ref se])), (pe, .inl (cpe, 680, .inl gpe)), (bo, .inr (1, [.ref bob, .int n30])), (bob, .inl (cbob, 8192, .inl f31))] H := hP
                have hD : va_D A [(pr, .inr (6, [.ref gl, .ref fu, .ref pa, .ref pf, .ref sf, .ref pk, .ref pg, .ref pp, .ref pz, .ref pv, .int pr_reason, .int pr_place, .ref pr_scanner_r, .int pr_stepCount, .int pr_open, .int pr_twoSides, .ref pr_waiting_r, .ref pr_waitingPlaces_r, .int pr_waitingCount])), (h0, .inr (2, [.ref pr, .ref kn, .ref lt, .int h0_localCount, .ref pe, .int n4, .int h0_gives, .int h0_depth, .int h0_loopDepth, .ref to, .ref bo, .ref cs, .ref se])), (pe, .inl (cpe, 680, .inl gpe)), (bo, .inr (1, [.ref bob, .int n30])), (bob, .inl (cbob, 8192, .inl f31))] := hD
                refine lv_aload_n hx hb d_CO_codeTwoSides_80 rfl (lv_at hl 0 rfl) ?_
                refine va_get (D := (dC, dI)) (ci := 2) (v := .ref bo) (C := R_CO) (T := F_CO) (N := 13) hx hb hts i_CO hown hK hP 1 rfl rfl 10 (by decide) (hts _ kF_CO_26) (fun _ h9 => h9) rfl d_CO_codeTwoSides_81 ?_
                refine lv_iconst (v := 0) hx hb d_CO_codeTwoSides_84 (by decide) ?_
                have hPc := hP.sub (ws' := [(bo, .inr (1, [.ref bob, .int n30])), (bob, .inl (cbob, 8192, .inl f31))]) [3, 4] rfl
                have hDc := hD.sub (ws' := [(bo, .inr (1, [.ref bob, .int n30])), (bob, .inl (cbob, 8192, .inl f31))]) [3, 4] (by decide) rfl
                have hKc := hK.sub (tys' := [(cbob, .byte)]) [1] rfl
                have hFc := va_free (wc := [(bo, .inr (1, [.ref bob, .int n30])), (bob, .inl (cbob, 8192, .inl f31))]) hD hS hA [3, 4] rfl
                refine va_callv (va_runV (As := [.int 0]) (rest := []) ⟨hx, hb, hml, hown, hts⟩ (c_BR_put l dC dI bo bob H.size cbob 8192 n30 f31 (by omega) (by omega) (by omega) 0) (cwV 1 hts (gV kM_CO_76 kV_BR_put kS_BR_put kI_BR kC_BR_put) rfl rfl rfl (by decide +kernel) ⟨Nat.le_of_ble_eq_true rfl, Nat.le_of_ble_eq_true rfl⟩) ⟨fun a U g mk z => by obtain ⟨z0, z1, zP, zK, zD⟩ := z; exact ⟨z0, z1, zP, va_K.moved (u := U) (U := U.calling g mk a) (Vm.Alike.refl U.vm) zK, zD⟩, va_recv hKc hPc (ci := 1) (q0 := 0) rfl rfl, fun U hU hW => ⟨rfl, by rw [hU], by rw [hU]; exact hPc, va_K.moved hW.alike hKc, hDc.weaken (fun _ _ _ _ => trivial)⟩⟩ rfl rfl hl.1 rfl (lv_room (Nat.le_of_ble_eq_true rfl)) d_CO_codeTwoSides_85 ⟨(Nat.zero_le _), (Nat.zero_le _)⟩) hS (fun q _ h => hFc q h) hFc (fun u t H1 locs ht hvm hw hB hz1 hk1 hS => ?_)
                obtain ⟨n33, f34⟩ := u
                try dsimp only at hw
                have tn33 := br_put_in (by omega) (by omega) (by omega) hw
                have bn33 := br_put_bl (by omega) (by omega) (by omega) hw
                obtain ⟨hP1, hK1, hD1⟩ := hB
                rw [ht] at hP1
                obtain ⟨hP, hD⟩ := va_join (wr := [(pr, .inr (6, [.ref gl, .ref fu, .ref pa, .ref pf, .ref sf, .ref pk, .ref pg, .ref pp, .ref pz, .ref pv, .int pr_reason, .int pr_place, .ref pr_scanner_r, .int pr_stepCount, .int pr_open, .int pr_twoSides, .ref pr_waiting_r, .ref pr_waitingPlaces_r, .int pr_waitingCount])), (h0, .inr (2, [.ref pr, .ref kn, .ref lt, .int h0_localCount, .ref pe, .int n4, .int h0_gives, .int h0_depth, .int h0_loopDepth, .ref to, .ref bo, .ref cs, .ref se])), (pe, .inl (cpe, 680, .inl gpe))]) (w1 := [(bo, .inr (1, [.ref bob, .int n33])), (bob, .inl (cbob, 8192, .inl f34))]) hP hD [3, 4] [0, 1, 2] rfl rfl (by decide) (by decide) hk1 hFc hP1 hD1
                clear hPc hDc hKc hFc hz1 hk1 hP1 hK1 hD1
                generalize H1 = H at hP hS ⊢
                have hP : va_P (dC, dI) cls [(pr, .inr (6, [.ref gl, .ref fu, .ref pa, .ref pf, .ref sf, .ref pk, .ref pg, .ref pp, .ref pz, .ref pv, .int pr_reason, .int pr_place, .ref pr_scanner_r, .int pr_stepCount, .int pr_open, .int pr_twoSides, .ref pr_waiting_r, .ref pr_waitingPlaces_r, .int pr_waitingCount])), (h0, .inr (2, [.ref pr, .ref kn, .ref lt, .int h0_localCount, .ref pe, .int n4, .int h0_gives, .int h0_depth, .int h0_loopDepth, .ref to, .ref bo, .ref cs, .ref se])), (pe, .inl (cpe, 680, .inl gpe)), (bo, .inr (1, [.ref bob, .int n33])), (bob, .inl (cbob, 8192, .inl f34))] H := hP
                have hD : va_D A [(pr, .inr (6, [.ref gl, .ref fu, .ref pa, .ref pf, .ref sf, .ref pk, .ref pg, .ref pp, .ref pz, .ref pv, .int pr_reason, .int pr_place, .ref pr_scanner_r, .int pr_stepCount, .int pr_open, .int pr_twoSides, .ref pr_waiting_r, .ref pr_waitingPlaces_r, .int pr_waitingCount])), (h0, .inr (2, [.ref pr, .ref kn, .ref lt, .int h0_localCount, .ref pe, .int n4, .int h0_gives, .int h0_depth, .int h0_loopDepth, .ref to, .ref bo, .ref cs, .ref se])), (pe, .inl (cpe, 680, .inl gpe)), (bo, .inr (1, [.ref bob, .int n33])), (bob, .inl (cbob, 8192, .inl f34))] := hD
                exact jn88 (f34, n33) _ _ _ ⟨by (try dsimp only) <;> omega, ⟨[65, 0], by rw [bn33 (by omega), bn30 (by omega), List.append_assoc]; rfl, Or.inl ⟨k71, rfl⟩, by rw [List.length_cons, List.length_singleton]; omega⟩, hP.sub [0, 3, 4, 1, 2] rfl, hD.sub [0, 3, 4, 1, 2] (by decide) rfl, hS, lv_sub hl [0, 1, 2, 3] rfl⟩
          · skip
            refine lv_if_eq (tgt := 66) hx hb d_CO_codeTwoSides_47 (by decide) (fun c47 => ?_) (fun c47 => ?_)
            · have q47 := eqI c47
              exact jn66 () _ _ _ ⟨⟨by omega, by omega, fun z => absurd z (by have nl : (ka ≠ 36 ∧ ka ≠ 37) := (by rcases y30 with z | z; (exfalso; rw [z.1] at c47; exact absurd c47 (by decide)); exact z.2); omega)⟩, hP, hD, hS, lv_sub hl [1, 2, 5, 0] rfl⟩
            · have q47 := neI c47
              refine lv_iload hx hb d_CO_codeTwoSides_50 (lv_at hl 5 rfl) ?_
              refine lv_bipush (v := 127) hx hb d_CO_codeTwoSides_52 (by decide) ?_
              refine lv_icmp_eq (tgt := 66) hx hb d_CO_codeTwoSides_54 (by decide) (fun c54 => ?_) (fun c54 => ?_)
              · have q54 := eqI c54
                exact jn66 () _ _ _ ⟨⟨by omega, by omega, fun z => by omega⟩, hP, hD, hS, lv_sub hl [1, 2, 5, 0] rfl⟩
              · have q54 := neI c54
                exact jn57 () _ _ _ ⟨hP, hD, hS, lv_sub hl [1, 3] rfl⟩
  · skip
    refine w_cut (pc2 := 25) (σ := Unit) (fun u H locs ls => match u with | _ => ((ka = 36 ∨ ka = 37)) ∧ va_P (dC, dI) cls [(pr, .inr (6, [.ref gl, .ref fu, .ref pa, .ref pf, .ref sf, .ref pk, .ref pg, .ref pp, .ref pz, .ref pv, .int pr_reason, .int pr_place, .ref pr_scanner_r, .int pr_stepCount, .int pr_open, .int pr_twoSides, .ref pr_waiting_r, .ref pr_waitingPlaces_r, .int pr_waitingCount])), (bo, .inr (1, [.ref bob, .int bo_length])), (bob, .inl (cbob, 8192, .inl gbob)), (h0, .inr (2, [.ref pr, .ref kn, .ref lt, .int h0_localCount, .ref pe, .int n4, .int h0_gives, .int h0_depth, .int h0_loopDepth, .ref to, .ref bo, .ref cs, .ref se])), (pe, .inl (cpe, 680, .inl gpe))] H ∧ va_D A [(pr, .inr (6, [.ref gl, .ref fu, .ref pa, .ref pf, .ref sf, .ref pk, .ref pg, .ref pp, .ref pz, .ref pv, .int pr_reason, .int pr_place, .ref pr_scanner_r, .int pr_stepCount, .int pr_open, .int pr_twoSides, .ref pr_waiting_r, .ref pr_waitingPlaces_r, .int pr_waitingCount])), (bo, .inr (1, [.ref bob, .int bo_length])), (bob, .inl (cbob, 8192, .inl gbob)), (h0, .inr (2, [.ref pr, .ref kn, .ref lt, .int h0_localCount, .ref pe, .int n4, .int h0_gives, .int h0_depth, .int h0_loopDepth, .ref to, .ref bo, .ref cs, .ref se])), (pe, .inl (cpe, 680, .inl gpe))] ∧ va_S A s.heap H locs ∧ lv_has ls 6 [(0, .ref h0), (1, .ref (sg sa ka)), (2, .int p1), (3, .int r1), (4, .int r3)]) (fun u => match u with | _ => []) ?_ (fun jn25 => ?_)
    · intro u H locs ls hI
      obtain ⟨y25, hP, hD, hS, hl⟩ := hI
      refine lv_iconst (v := 1) hx hb d_CO_codeTwoSides_25 (by decide) ?_
      refine lv_goto (tgt := 30) hx hb d_CO_codeTwoSides_26 (by decide) ?_
      exact jn30 1 _ _ _ ⟨Or.inr rfl, Or.inl ⟨rfl, y25⟩, hP, hD, hS, lv_sub hl [0, 1, 2, 3, 4] rfl⟩
    · skip
      refine lv_acmp_eq (rx := some (sg sa ka)) (ry := some (sg sa 36)) (tgt := 25) hx hb d_CO_codeTwoSides_15 (by decide) (fun c15 => ?_) (fun c15 => ?_)
      · have q15 : ka = 36 := hSW.2.2.2.1.2 ka 36 ba0 (by decide : 36 < 55) (Option.some.inj c15)
        exact jn25 () _ _ _ ⟨Or.inl q15, hP, hD, hS, lv_sub hl [2, 3, 4, 1, 0] rfl⟩
      · have q15 : ka ≠ 36 := fun z => c15 (by rw [z])
        refine lv_aload_n hx hb d_CO_codeTwoSides_18 rfl (lv_at hl 3 rfl) ?_
        refine va_gets (C := "WaferForge$Sign") (n := "AND") (d := "LWaferForge$Sign;") (v := .ref (sg sa 37)) hx hb ((hSW.2.2.2.1.1 37 (by decide)).1) hS hown (hts _ kF_CO_227) (fun _ h9 => h9) d_CO_codeTwoSides_19 ?_
        refine lv_acmp_ne (rx := some (sg sa ka)) (ry := some (sg sa 37)) (tgt := 29) hx hb d_CO_codeTwoSides_22 (by decide) (fun c22 => ?_) (fun c22 => ?_)
        · have q22 : ka ≠ 37 := fun z => c22 (by rw [z])
          refine lv_iconst (v := 0) hx hb d_CO_codeTwoSides_29 (by decide) ?_
          exact jn30 0 _ _ _ ⟨Or.inl rfl, Or.inr ⟨rfl, q15, q22⟩, hP, hD, hS, lv_sub hl [2, 3, 4, 1, 0] rfl⟩
        · have q22 : ka = 37 := hSW.2.2.2.1.2 ka 37 ba0 (by decide : 37 < 55) (Option.some.inj c22)
          exact jn25 () _ _ _ ⟨Or.inr q22, hP, hD, hS, lv_sub hl [2, 3, 4, 1, 0] rfl⟩

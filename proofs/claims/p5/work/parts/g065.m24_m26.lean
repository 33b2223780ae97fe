section q_m24
/-! the reference: validNumbers -/
def nin (o : Int) : Int := if o ≤ 79 ∨ (103 ≤ o ∧ o ≤ 120) ∨ 172 ≤ o then 127 else 126
def nout (o : Int) : Int := if o ≤ 90 ∨ o = 167 then 127 else if 172 ≤ o then 126 else nin o
theorem nin_r (o : Int) : nin o = 127 ∨ nin o = 126 := by unfold nin; split <;> (first | (apply Int.le_antisymm <;> omega) | omega)
theorem nout_r (o : Int) : nout o = 127 ∨ nout o = 126 := by
  unfold nout
  split
  · exact Or.inl rfl
  · split
    · exact Or.inr rfl
    · exact nin_r o
abbrev b_MD_validNumbers : ByteArray := prog_15_method_80_code
def y_MD_validNumbers : MethodName := ⟨R_MD, "validNumbers", "(I)V"⟩
abbrev w_MD_validNumbers : List Cond := .code y_MD_validNumbers b_MD_validNumbers 5 none :: lw_g
theorem kC_MD_validNumbers : Cond.code y_MD_validNumbers b_MD_validNumbers 5 none ∈ lw_g := in_c13 111 rfl rfl
theorem d_MD_validNumbers_0 : decode b_MD_validNumbers 0 = .ok (.iload_n 1, 1) := bz_c27 (by decide +kernel)
theorem d_MD_validNumbers_1 : decode b_MD_validNumbers 1 = .ok (.bipush 79, 2) := bz_c16 (by decide +kernel)
theorem d_MD_validNumbers_3 : decode b_MD_validNumbers 3 = .ok (.if_icmp .le 22, 3) := bz_c164 (by decide +kernel)
theorem d_MD_validNumbers_6 : decode b_MD_validNumbers 6 = .ok (.iload_n 1, 1) := bz_c27 (by decide +kernel)
theorem d_MD_validNumbers_7 : decode b_MD_validNumbers 7 = .ok (.bipush 103, 2) := bz_c16 (by decide +kernel)
theorem d_MD_validNumbers_9 : decode b_MD_validNumbers 9 = .ok (.if_icmp .lt 9, 3) := bz_c161 (by decide +kernel)
theorem d_MD_validNumbers_12 : decode b_MD_validNumbers 12 = .ok (.iload_n 1, 1) := bz_c27 (by decide +kernel)
theorem d_MD_validNumbers_13 : decode b_MD_validNumbers 13 = .ok (.bipush 120, 2) := bz_c16 (by decide +kernel)
theorem d_MD_validNumbers_15 : decode b_MD_validNumbers 15 = .ok (.if_icmp .le 10, 3) := bz_c164 (by decide +kernel)
theorem d_MD_validNumbers_18 : decode b_MD_validNumbers 18 = .ok (.iload_n 1, 1) := bz_c27 (by decide +kernel)
theorem d_MD_validNumbers_19 : decode b_MD_validNumbers 19 = .ok (.sipush 172, 3) := bz_c17 (by decide +kernel)
theorem d_MD_validNumbers_22 : decode b_MD_validNumbers 22 = .ok (.if_icmp .lt 8, 3) := bz_c161 (by decide +kernel)
theorem d_MD_validNumbers_25 : decode b_MD_validNumbers 25 = .ok (.bipush 127, 2) := bz_c16 (by decide +kernel)
theorem d_MD_validNumbers_27 : decode b_MD_validNumbers 27 = .ok (.goto 5, 3) := bz_c167 (by decide +kernel)
theorem d_MD_validNumbers_30 : decode b_MD_validNumbers 30 = .ok (.bipush 126, 2) := bz_c16 (by decide +kernel)
theorem d_MD_validNumbers_32 : decode b_MD_validNumbers 32 = .ok (.istore_n 2, 1) := bz_c61 (by decide +kernel)
theorem d_MD_validNumbers_33 : decode b_MD_validNumbers 33 = .ok (.iload_n 1, 1) := bz_c27 (by decide +kernel)
theorem d_MD_validNumbers_34 : decode b_MD_validNumbers 34 = .ok (.bipush 90, 2) := bz_c16 (by decide +kernel)
theorem d_MD_validNumbers_36 : decode b_MD_validNumbers 36 = .ok (.if_icmp .le 10, 3) := bz_c164 (by decide +kernel)
theorem d_MD_validNumbers_39 : decode b_MD_validNumbers 39 = .ok (.iload_n 1, 1) := bz_c27 (by decide +kernel)
theorem d_MD_validNumbers_40 : decode b_MD_validNumbers 40 = .ok (.sipush 167, 3) := bz_c17 (by decide +kernel)
theorem d_MD_validNumbers_43 : decode b_MD_validNumbers 43 = .ok (.if_icmp .ne 8, 3) := bz_c160 (by decide +kernel)
theorem d_MD_validNumbers_46 : decode b_MD_validNumbers 46 = .ok (.bipush 127, 2) := bz_c16 (by decide +kernel)
theorem d_MD_validNumbers_48 : decode b_MD_validNumbers 48 = .ok (.goto 16, 3) := bz_c167 (by decide +kernel)
theorem d_MD_validNumbers_51 : decode b_MD_validNumbers 51 = .ok (.iload_n 1, 1) := bz_c27 (by decide +kernel)
theorem d_MD_validNumbers_52 : decode b_MD_validNumbers 52 = .ok (.sipush 172, 3) := bz_c17 (by decide +kernel)
theorem d_MD_validNumbers_55 : decode b_MD_validNumbers 55 = .ok (.if_icmp .lt 8, 3) := bz_c161 (by decide +kernel)
theorem d_MD_validNumbers_58 : decode b_MD_validNumbers 58 = .ok (.bipush 126, 2) := bz_c16 (by decide +kernel)
theorem d_MD_validNumbers_60 : decode b_MD_validNumbers 60 = .ok (.goto 4, 3) := bz_c167 (by decide +kernel)
theorem d_MD_validNumbers_63 : decode b_MD_validNumbers 63 = .ok (.iload_n 2, 1) := bz_c28 (by decide +kernel)
theorem d_MD_validNumbers_64 : decode b_MD_validNumbers 64 = .ok (.istore_n 3, 1) := bz_c62 (by decide +kernel)
theorem d_MD_validNumbers_65 : decode b_MD_validNumbers 65 = .ok (.iload_n 1, 1) := bz_c27 (by decide +kernel)
theorem d_MD_validNumbers_66 : decode b_MD_validNumbers 66 = .ok (.bipush 69, 2) := bz_c16 (by decide +kernel)
theorem d_MD_validNumbers_68 : decode b_MD_validNumbers 68 = .ok (.if_icmp .eq 40, 3) := bz_c159 (by decide +kernel)
theorem d_MD_validNumbers_71 : decode b_MD_validNumbers 71 = .ok (.iload_n 1, 1) := bz_c27 (by decide +kernel)
theorem d_MD_validNumbers_72 : decode b_MD_validNumbers 72 = .ok (.bipush 80, 2) := bz_c16 (by decide +kernel)
theorem d_MD_validNumbers_74 : decode b_MD_validNumbers 74 = .ok (.if_icmp .eq 34, 3) := bz_c159 (by decide +kernel)
theorem d_MD_validNumbers_77 : decode b_MD_validNumbers 77 = .ok (.iload_n 1, 1) := bz_c27 (by decide +kernel)
theorem d_MD_validNumbers_78 : decode b_MD_validNumbers 78 = .ok (.bipush 103, 2) := bz_c16 (by decide +kernel)
theorem d_MD_validNumbers_80 : decode b_MD_validNumbers 80 = .ok (.if_icmp .lt 9, 3) := bz_c161 (by decide +kernel)
theorem d_MD_validNumbers_83 : decode b_MD_validNumbers 83 = .ok (.iload_n 1, 1) := bz_c27 (by decide +kernel)
theorem d_MD_validNumbers_84 : decode b_MD_validNumbers 84 = .ok (.bipush 105, 2) := bz_c16 (by decide +kernel)
theorem d_MD_validNumbers_86 : decode b_MD_validNumbers 86 = .ok (.if_icmp .le 22, 3) := bz_c164 (by decide +kernel)
theorem d_MD_validNumbers_89 : decode b_MD_validNumbers 89 = .ok (.iload_n 1, 1) := bz_c27 (by decide +kernel)
theorem d_MD_validNumbers_90 : decode b_MD_validNumbers 90 = .ok (.bipush 121, 2) := bz_c16 (by decide +kernel)
theorem d_MD_validNumbers_92 : decode b_MD_validNumbers 92 = .ok (.if_icmp .lt 9, 3) := bz_c161 (by decide +kernel)
theorem d_MD_validNumbers_95 : decode b_MD_validNumbers 95 = .ok (.iload_n 1, 1) := bz_c27 (by decide +kernel)
theorem d_MD_validNumbers_96 : decode b_MD_validNumbers 96 = .ok (.bipush 123, 2) := bz_c16 (by decide +kernel)
theorem d_MD_validNumbers_98 : decode b_MD_validNumbers 98 = .ok (.if_icmp .le 10, 3) := bz_c164 (by decide +kernel)
theorem d_MD_validNumbers_101 : decode b_MD_validNumbers 101 = .ok (.iload_n 1, 1) := bz_c27 (by decide +kernel)
theorem d_MD_validNumbers_102 : decode b_MD_validNumbers 102 = .ok (.sipush 167, 3) := bz_c17 (by decide +kernel)
theorem d_MD_validNumbers_105 : decode b_MD_validNumbers 105 = .ok (.if_icmp .lt 7, 3) := bz_c161 (by decide +kernel)
theorem d_MD_validNumbers_108 : decode b_MD_validNumbers 108 = .ok (.iconst 1, 1) := bz_c4 (by decide +kernel)
theorem d_MD_validNumbers_109 : decode b_MD_validNumbers 109 = .ok (.goto 4, 3) := bz_c167 (by decide +kernel)
theorem d_MD_validNumbers_112 : decode b_MD_validNumbers 112 = .ok (.iconst 0, 1) := bz_c3 (by decide +kernel)
theorem d_MD_validNumbers_113 : decode b_MD_validNumbers 113 = .ok (.istore 4, 2) := bz_c54 (by decide +kernel)
theorem d_MD_validNumbers_115 : decode b_MD_validNumbers 115 = .ok (.aload_n 0, 1) := bz_c42 (by decide +kernel)
theorem d_MD_validNumbers_116 : decode b_MD_validNumbers 116 = .ok (.iload_n 2, 1) := bz_c28 (by decide +kernel)
theorem d_MD_validNumbers_117 : decode b_MD_validNumbers 117 = .ok (.invokevirtual 657, 3) := bz_c182 (by decide +kernel)
theorem d_MD_validNumbers_120 : decode b_MD_validNumbers 120 = .ok (.pop, 1) := bz_c87 (by decide +kernel)
theorem d_MD_validNumbers_121 : decode b_MD_validNumbers 121 = .ok (.iload 4, 2) := bz_c21 (by decide +kernel)
theorem d_MD_validNumbers_123 : decode b_MD_validNumbers 123 = .ok (.ifCond .ne 9, 3) := bz_c154 (by decide +kernel)
theorem d_MD_validNumbers_126 : decode b_MD_validNumbers 126 = .ok (.aload_n 0, 1) := bz_c42 (by decide +kernel)
theorem d_MD_validNumbers_127 : decode b_MD_validNumbers 127 = .ok (.iload_n 2, 1) := bz_c28 (by decide +kernel)
theorem d_MD_validNumbers_128 : decode b_MD_validNumbers 128 = .ok (.invokevirtual 657, 3) := bz_c182 (by decide +kernel)
theorem d_MD_validNumbers_131 : decode b_MD_validNumbers 131 = .ok (.pop, 1) := bz_c87 (by decide +kernel)
theorem d_MD_validNumbers_132 : decode b_MD_validNumbers 132 = .ok (.aload_n 0, 1) := bz_c42 (by decide +kernel)
theorem d_MD_validNumbers_133 : decode b_MD_validNumbers 133 = .ok (.iload_n 3, 1) := bz_c29 (by decide +kernel)
theorem d_MD_validNumbers_134 : decode b_MD_validNumbers 134 = .ok (.invokevirtual 678, 3) := bz_c182 (by decide +kernel)
theorem d_MD_validNumbers_137 : decode b_MD_validNumbers 137 = .ok (.return_, 1) := bz_c177 (by decide +kernel)
theorem kM_MD_678 : Cond.methodLink R_MD 678 y_MD_push ∈ lw_g := in_c13 80 rfl rfl
theorem kV_MD_push : Cond.instanceMethod y_MD_push ∈ lw_g := in_c13 82 rfl rfl
theorem kS_MD_push : Cond.selects R_MD y_MD_push y_MD_push ∈ lw_g := in_s 188 (by decide +kernel) rfl
abbrev at_MD_validNumbers (dC : Nat → ClassId) (dI : Nat → Nat → Nat) (h0 rf tap h0_globalNames_r h0_globalPlaces_r h0_globalTypes_r h0_globalValues_r h0_funs_r h0_levels_r h0_known_r mad mag h0_smalls_r h0_greats_r h0_module_r h0_spare_r mm blk stk hgt lab ous kis los mem glo val ffu fre fba fla lat lhe rsl arg : Nat) (cstk chgt clos : ClassId) (h0_taped : Int32) (h0_length : Int32) (h0_kind : Int32) (h0_from : Int32) (h0_to : Int32) (h0_word : Value) (h0_numeral : Int64) (h0_globalCount : Int32) (h0_funCount : Int32) (h0_open : Int32) (h0_signs : Int32) (h0_now : Value) (h0_knownCount : Int32) (h0_loops : Int32) (h0_madeLength : Int32) (h0_cursor : Int32) (h0_limit : Int32) (h0_depth : Int32) (h0_function : Int32) (h0_pages : Int32) (h0_valueTop : Int32) (h0_frames : Int32) (h0_labelTop : Int32) (h0_steps : Int32) (h0_there : Int32) (h0_resultLength : Int32) (h0_reason : Int32) (h0_place : Int32) (h0_argumentCount : Int32) (h0_code : Int32) (rf_backtrace : Value) (rf_detailMessage : Value) (rf_cause : Value) (rf_stackTrace : Value) (rf_depth : Int32) (rf_suppressedExceptions : Value) (ghgt : Nat → Int32) (glos : Nat → Int32) (A : Nat → Prop) (u : (Nat → Int32) × Int32 × Int32 × Int32) (t : State) : Prop := match u with | (gstk, h0_top, rf_place, rf_reason) => va_P (dC, dI) cls2 (wz_338 h0 rf tap h0_taped h0_length h0_kind h0_from h0_to h0_word h0_numeral h0_globalNames_r h0_globalPlaces_r h0_globalTypes_r h0_globalValues_r h0_globalCount h0_funs_r h0_funCount h0_open h0_signs h0_levels_r h0_now h0_known_r h0_knownCount h0_loops mad h0_madeLength mag h0_smalls_r h0_greats_r h0_module_r h0_spare_r mm h0_cursor h0_limit blk stk h0_top hgt lab ous kis los h0_depth h0_function mem h0_pages glo val h0_valueTop ffu fre fba fla h0_frames lat lhe h0_labelTop h0_steps h0_there rsl h0_resultLength h0_reason h0_place arg h0_argumentCount h0_code rf rf_backtrace rf_detailMessage rf_cause rf_stackTrace rf_depth rf_suppressedExceptions rf_reason rf_place stk cstk gstk hgt chgt ghgt los clos glos) t.heap ∧ va_K (dC, dI) cls2 [(cstk, .int), (chgt, .int), (clos, .boolean)] t ∧ va_D A (wz_338 h0 rf tap h0_taped h0_length h0_kind h0_from h0_to h0_word h0_numeral h0_globalNames_r h0_globalPlaces_r h0_globalTypes_r h0_globalValues_r h0_globalCount h0_funs_r h0_funCount h0_open h0_signs h0_levels_r h0_now h0_known_r h0_knownCount h0_loops mad h0_madeLength mag h0_smalls_r h0_greats_r h0_module_r h0_spare_r mm h0_cursor h0_limit blk stk h0_top hgt lab ous kis los h0_depth h0_function mem h0_pages glo val h0_valueTop ffu fre fba fla h0_frames lat lhe h0_labelTop h0_steps h0_there rsl h0_resultLength h0_reason h0_place arg h0_argumentCount h0_code rf rf_backtrace rf_detailMessage rf_cause rf_stackTrace rf_depth rf_suppressedExceptions rf_reason rf_place stk cstk gstk hgt chgt ghgt los clos glos)
set_option maxHeartbeats 4000000 in
set_option maxRecDepth 100000 in
theorem c_MD_validNumbers (l : Launch) (hlt : l.stackTraces = false) (dC : Nat → ClassId) (dI : Nat → Nat → Nat) (sz : Nat) (h0 rf tap h0_globalNames_r h0_globalPlaces_r h0_globalTypes_r h0_globalValues_r h0_funs_r h0_levels_r h0_known_r mad mag h0_smalls_r h0_greats_r h0_module_r h0_spare_r mm blk stk hgt lab ous kis los mem glo val ffu fre fba fla lat lhe rsl arg : Nat) (cstk chgt clos : ClassId) (h0_taped : Int32) (h0_length : Int32) (h0_kind : Int32) (h0_from : Int32) (h0_to : Int32) (h0_word : Value) (h0_numeral : Int64) (h0_globalCount : Int32) (h0_funCount : Int32) (h0_open : Int32) (h0_signs : Int32) (h0_now : Value) (h0_knownCount : Int32) (h0_loops : Int32) (h0_madeLength : Int32) (h0_cursor : Int32) (h0_limit : Int32) (h0_top : Int32) (h0_depth : Int32) (h0_function : Int32) (h0_pages : Int32) (h0_valueTop : Int32) (h0_frames : Int32) (h0_labelTop : Int32) (h0_steps : Int32) (h0_there : Int32) (h0_resultLength : Int32) (h0_reason : Int32) (h0_place : Int32) (h0_argumentCount : Int32) (h0_code : Int32) (rf_backtrace : Value) (rf_detailMessage : Value) (rf_cause : Value) (rf_stackTrace : Value) (rf_depth : Int32) (rf_suppressedExceptions : Value) (rf_reason : Int32) (rf_place : Int32) (gstk : Nat → Int32) (ghgt : Nat → Int32) (glos : Nat → Int32)  (b_h0_top : 0 ≤ h0_top.toInt ∧ h0_top.toInt ≤ 5000) (b_h0_depth : 0 ≤ h0_depth.toInt ∧ h0_depth.toInt ≤ 102) (b_ghgt : ∀ j : Nat, 0 ≤ (ghgt j).toInt ∧ (ghgt j).toInt ≤ 5000) (b_glos : ∀ j : Nat, 0 ≤ (glos j).toInt ∧ (glos j).toInt ≤ 1) (p0 : Int32)  (hd9 : 1 ≤ h0_depth.toInt ∧ (ghgt (h0_depth.toInt - 1).toNat).toInt ≤ h0_top.toInt) (ht9 : h0_top.toInt < 5000) : tz_Met l y_MD_validNumbers w_MD_validNumbers ({ frames := 3, cells := 0, slots := 0, locals := 65 }) (va_Pc [.ref h0, .int p0] (fun U => U.heap.size = sz ∧ va_P (dC, dI) cls2 (wz_338 h0 rf tap h0_taped h0_length h0_kind h0_from h0_to h0_word h0_numeral h0_globalNames_r h0_globalPlaces_r h0_globalTypes_r h0_globalValues_r h0_globalCount h0_funs_r h0_funCount h0_open h0_signs h0_levels_r h0_now h0_known_r h0_knownCount h0_loops mad h0_madeLength mag h0_smalls_r h0_greats_r h0_module_r h0_spare_r mm h0_cursor h0_limit blk stk h0_top hgt lab ous kis los h0_depth h0_function mem h0_pages glo val h0_valueTop ffu fre fba fla h0_frames lat lhe h0_labelTop h0_steps h0_there rsl h0_resultLength h0_reason h0_place arg h0_argumentCount h0_code rf rf_backtrace rf_detailMessage rf_cause rf_stackTrace rf_depth rf_suppressedExceptions rf_reason rf_place stk cstk gstk hgt chgt ghgt los clos glos) U.heap ∧ va_K (dC, dI) cls2 [(cstk, .int), (chgt, .int), (clos, .boolean)] U ∧ va_D (fun _ => True) (wz_338 h0 rf tap h0_taped h0_length h0_kind h0_from h0_to h0_word h0_numeral h0_globalNames_r h0_globalPlaces_r h0_globalTypes_r h0_globalValues_r h0_globalCount h0_funs_r h0_funCount h0_open h0_signs h0_levels_r h0_now h0_known_r h0_knownCount h0_loops mad h0_madeLength mag h0_smalls_r h0_greats_r h0_module_r h0_spare_r mm h0_cursor h0_limit blk stk h0_top hgt lab ous kis los h0_depth h0_function mem h0_pages glo val h0_valueTop ffu fre fba fla h0_frames lat lhe h0_labelTop h0_steps h0_there rsl h0_resultLength h0_reason h0_place arg h0_argumentCount h0_code rf rf_backtrace rf_detailMessage rf_cause rf_stackTrace rf_depth rf_suppressedExceptions rf_reason rf_place stk cstk gstk hgt chgt ghgt los clos glos) ∧ sw_nest U)) (tq_Q (tr_v (fun (u : (Nat → Int32) × Int32 × Int32 × Int32) => match u with | (gstk2, h0_top2, rf_place2, rf_reason2) => (0 ≤ h0_top2.toInt ∧ h0_top2.toInt ≤ 5000) ∧ (((ghgt (h0_depth.toInt - 1).toNat).toInt + 1 ≤ h0_top2.toInt ∧ h0_top2.toInt ≤ h0_top.toInt + 1) ∧ ((glos (h0_depth.toInt - 1).toNat).toInt = 0 → (sgl p0.toInt → (ghgt (h0_depth.toInt - 1).toNat).toInt + 1 ≤ h0_top.toInt ∧ h0_top2.toInt = h0_top.toInt ∧ ((gstk (h0_top.toInt - 1).toNat).toInt = nin p0.toInt ∨ (gstk (h0_top.toInt - 1).toNat).toInt = -1)) ∧ (¬ sgl p0.toInt → (ghgt (h0_depth.toInt - 1).toNat).toInt + 2 ≤ h0_top.toInt ∧ h0_top2.toInt = h0_top.toInt - 1 ∧ ((gstk (h0_top.toInt - 1).toNat).toInt = nin p0.toInt ∨ (gstk (h0_top.toInt - 1).toNat).toInt = -1) ∧ ((gstk (h0_top.toInt - 2).toNat).toInt = nin p0.toInt ∨ (gstk (h0_top.toInt - 2).toNat).toInt = -1))) ∧ (∃ x : Int32, x.toInt = nout p0.toInt ∧ gstk2 = upd gstk (h0_top2.toInt - 1).toNat x) ∧ (∀ k : Nat, (k : Int) < (ghgt (h0_depth.toInt - 1).toNat).toInt → gstk2 k = gstk k))) rf "WaferForgeModel$Refused" (fun (u : (Nat → Int32) × Int32 × Int32 × Int32) => match u with | (gstk2, h0_top2, rf_place2, rf_reason2) => (0 ≤ h0_top2.toInt ∧ h0_top2.toInt ≤ 5000) ∧ (True))) (at_MD_validNumbers dC dI h0 rf tap h0_globalNames_r h0_globalPlaces_r h0_globalTypes_r h0_globalValues_r h0_funs_r h0_levels_r h0_known_r mad mag h0_smalls_r h0_greats_r h0_module_r h0_spare_r mm blk stk hgt lab ous kis los mem glo val ffu fre fba fla lat lhe rsl arg cstk chgt clos h0_taped h0_length h0_kind h0_from h0_to h0_word h0_numeral h0_globalCount h0_funCount h0_open h0_signs h0_now h0_knownCount h0_loops h0_madeLength h0_cursor h0_limit h0_depth h0_function h0_pages h0_valueTop h0_frames h0_labelTop h0_steps h0_there h0_resultLength h0_reason h0_place h0_argumentCount h0_code rf_backtrace rf_detailMessage rf_cause rf_stackTrace rf_depth rf_suppressedExceptions ghgt glos (va_A (wz_338 h0 rf tap h0_taped h0_length h0_kind h0_from h0_to h0_word h0_numeral h0_globalNames_r h0_globalPlaces_r h0_globalTypes_r h0_globalValues_r h0_globalCount h0_funs_r h0_funCount h0_open h0_signs h0_levels_r h0_now h0_known_r h0_knownCount h0_loops mad h0_madeLength mag h0_smalls_r h0_greats_r h0_module_r h0_spare_r mm h0_cursor h0_limit blk stk h0_top hgt lab ous kis los h0_depth h0_function mem h0_pages glo val h0_valueTop ffu fre fba fla h0_frames lat lhe h0_labelTop h0_steps h0_there rsl h0_resultLength h0_reason h0_place arg h0_argumentCount h0_code rf rf_backtrace rf_detailMessage rf_cause rf_stackTrace rf_depth rf_suppressedExceptions rf_reason rf_place stk cstk gstk hgt chgt ghgt los clos glos) sz)) (va_A (wz_338 h0 rf tap h0_taped h0_length h0_kind h0_from h0_to h0_word h0_numeral h0_globalNames_r h0_globalPlaces_r h0_globalTypes_r h0_globalValues_r h0_globalCount h0_funs_r h0_funCount h0_open h0_signs h0_levels_r h0_now h0_known_r h0_knownCount h0_loops mad h0_madeLength mag h0_smalls_r h0_greats_r h0_module_r h0_spare_r mm h0_cursor h0_limit blk stk h0_top hgt lab ous kis los h0_depth h0_function mem h0_pages glo val h0_valueTop ffu fre fba fla h0_frames lat lhe h0_labelTop h0_steps h0_there rsl h0_resultLength h0_reason h0_place arg h0_argumentCount h0_code rf rf_backtrace rf_detailMessage rf_cause rf_stackTrace rf_depth rf_suppressedExceptions rf_reason rf_place stk cstk gstk hgt chgt ghgt los clos glos) sz)) (tz_k 0 0 0 0) (va_A (wz_338 h0 rf tap h0_taped h0_length h0_kind h0_from h0_to h0_word h0_numeral h0_globalNames_r h0_globalPlaces_r h0_globalTypes_r h0_globalValues_r h0_globalCount h0_funs_r h0_funCount h0_open h0_signs h0_levels_r h0_now h0_known_r h0_knownCount h0_loops mad h0_madeLength mag h0_smalls_r h0_greats_r h0_module_r h0_spare_r mm h0_cursor h0_limit blk stk h0_top hgt lab ous kis los h0_depth h0_function mem h0_pages glo val h0_valueTop ffu fre fba fla h0_frames lat lhe h0_labelTop h0_steps h0_there rsl h0_resultLength h0_reason h0_place arg h0_argumentCount h0_code rf rf_backtrace rf_detailMessage rf_cause rf_stackTrace rf_depth rf_suppressedExceptions rf_reason rf_place stk cstk gstk hgt chgt ghgt los clos glos) sz) := by
  refine tz_ofW (cc := b_MD_validNumbers) (maxL := 5) (ret := none) (by decide) rfl ?_
  intro p e s m args below meth c s₁ B hml hno hv
  obtain ⟨rfl, hsz, hP, hK, hD0, hSW⟩ := hv
  have hx := B.exec
  have hb := B.bytes
  have hr := B.returns
  have hts0 := atoms_spec (ws := w_MD_validNumbers) B.pre
  have hts : ∀ w ∈ lw_g, w.before _ s = true := fun w h => hts0 w (List.mem_cons_of_mem _ h)
  have hown : s.vm.findClass R_MD = some m.cls := findClass_of_methodNamed B.named
  have hlocks := B.notSynchronized
  clear hts0
  subst hsz
  have hD := hD0.self (sz := s.heap.size)
  generalize hAe : va_A (wz_338 h0 rf tap h0_taped h0_length h0_kind h0_from h0_to h0_word h0_numeral h0_globalNames_r h0_globalPlaces_r h0_globalTypes_r h0_globalValues_r h0_globalCount h0_funs_r h0_funCount h0_open h0_signs h0_levels_r h0_now h0_known_r h0_knownCount h0_loops mad h0_madeLength mag h0_smalls_r h0_greats_r h0_module_r h0_spare_r mm h0_cursor h0_limit blk stk h0_top hgt lab ous kis los h0_depth h0_function mem h0_pages glo val h0_valueTop ffu fre fba fla h0_frames lat lhe h0_labelTop h0_steps h0_there rsl h0_resultLength h0_reason h0_place arg h0_argumentCount h0_code rf rf_backtrace rf_detailMessage rf_cause rf_stackTrace rf_depth rf_suppressedExceptions rf_reason rf_place stk cstk gstk hgt chgt ghgt los clos glos) s.heap.size = A at hD ⊢
  have hA : ∀ q : Nat, s.heap.size ≤ q → A q := fun q h => by rw [← hAe]; exact Or.inr h
  clear hAe
  have hP : va_P (dC, dI) cls2 (wz_338 h0 rf tap h0_taped h0_length h0_kind h0_from h0_to h0_word h0_numeral h0_globalNames_r h0_globalPlaces_r h0_globalTypes_r h0_globalValues_r h0_globalCount h0_funs_r h0_funCount h0_open h0_signs h0_levels_r h0_now h0_known_r h0_knownCount h0_loops mad h0_madeLength mag h0_smalls_r h0_greats_r h0_module_r h0_spare_r mm h0_cursor h0_limit blk stk h0_top hgt lab ous kis los h0_depth h0_function mem h0_pages glo val h0_valueTop ffu fre fba fla h0_frames lat lhe h0_labelTop h0_steps h0_there rsl h0_resultLength h0_reason h0_place arg h0_argumentCount h0_code rf rf_backtrace rf_detailMessage rf_cause rf_stackTrace rf_depth rf_suppressedExceptions rf_reason rf_place stk cstk gstk hgt chgt ghgt los clos glos) s.heap := hP
  have hl := lv_entry ([.ref h0, .int p0]) (n := 5) (Nat.le_of_ble_eq_true rfl)
  rw [lg_entry_eq]
  generalize (lg_sl ([.ref h0, .int p0]) ++ List.replicate (5 - (lg_sl ([.ref h0, .int p0])).length) Slot.unset).toArray = ls at hl ⊢
  have hl : lv_has ls 5 [(0, .ref h0), (1, .int p0)] := hl
  have k0 : (0 : Int32).toInt = 0 := by decide
  refine w_gen (A := A) hP (fun H locs hP hS => ?_)
  have k1 : (1 : Int32).toInt = 1 := by decide
  have k69 : (69 : Int32).toInt = 69 := by decide
  have k79 : (79 : Int32).toInt = 79 := by decide
  have k80 : (80 : Int32).toInt = 80 := by decide
  have k90 : (90 : Int32).toInt = 90 := by decide
  have k103 : (103 : Int32).toInt = 103 := by decide
  have k105 : (105 : Int32).toInt = 105 := by decide
  have k120 : (120 : Int32).toInt = 120 := by decide
  have k121 : (121 : Int32).toInt = 121 := by decide
  have k123 : (123 : Int32).toInt = 123 := by decide
  have k126 : (126 : Int32).toInt = 126 := by decide
  have k127 : (127 : Int32).toInt = 127 := by decide
  have k167 : (167 : Int32).toInt = 167 := by decide
  have k172 : (172 : Int32).toInt = 172 := by decide
  have lo_p0 := i32_lo p0
  have hi_p0 := i32_hi p0
  have zd := i32_clamp (x := h0_depth) (by (first | (apply Int.le_antisymm <;> omega) | omega))
  have zt := i32_clamp (x := h0_top) (by (first | (apply Int.le_antisymm <;> omega) | omega))
  refine lv_iload_n hx hb d_MD_validNumbers_0 rfl (lv_at hl 1 rfl) ?_
  refine lv_bipush (v := 79) hx hb d_MD_validNumbers_1 (by decide) ?_
  refine w_cut (pc2 := 32) (σ := Int32) (fun u H locs ls => match u with | j32_s0 => (j32_s0.toInt = nin p0.toInt) ∧ va_P (dC, dI) cls2 (wz_338 h0 rf tap h0_taped h0_length h0_kind h0_from h0_to h0_word h0_numeral h0_globalNames_r h0_globalPlaces_r h0_globalTypes_r h0_globalValues_r h0_globalCount h0_funs_r h0_funCount h0_open h0_signs h0_levels_r h0_now h0_known_r h0_knownCount h0_loops mad h0_madeLength mag h0_smalls_r h0_greats_r h0_module_r h0_spare_r mm h0_cursor h0_limit blk stk h0_top hgt lab ous kis los h0_depth h0_function mem h0_pages glo val h0_valueTop ffu fre fba fla h0_frames lat lhe h0_labelTop h0_steps h0_there rsl h0_resultLength h0_reason h0_place arg h0_argumentCount h0_code rf rf_backtrace rf_detailMessage rf_cause rf_stackTrace rf_depth rf_suppressedExceptions rf_reason rf_place stk cstk gstk hgt chgt ghgt los clos glos) H ∧ va_D A (wz_338 h0 rf tap h0_taped h0_length h0_kind h0_from h0_to h0_word h0_numeral h0_globalNames_r h0_globalPlaces_r h0_globalTypes_r h0_globalValues_r h0_globalCount h0_funs_r h0_funCount h0_open h0_signs h0_levels_r h0_now h0_known_r h0_knownCount h0_loops mad h0_madeLength mag h0_smalls_r h0_greats_r h0_module_r h0_spare_r mm h0_cursor h0_limit blk stk h0_top hgt lab ous kis los h0_depth h0_function mem h0_pages glo val h0_valueTop ffu fre fba fla h0_frames lat lhe h0_labelTop h0_steps h0_there rsl h0_resultLength h0_reason h0_place arg h0_argumentCount h0_code rf rf_backtrace rf_detailMessage rf_cause rf_stackTrace rf_depth rf_suppressedExceptions rf_reason rf_place stk cstk gstk hgt chgt ghgt los clos glos) ∧ va_S A s.heap H locs ∧ lv_has ls 5 [(0, .ref h0), (1, .int p0)]) (fun u => match u with | j32_s0 => [.int j32_s0]) ?_ (fun jn32 => ?_)
  · intro u H locs ls hI
    obtain ⟨j32_s0, rfl⟩ : ∃ z, z = u := ⟨_, rfl⟩
    obtain ⟨y32, hP, hD, hS, hl⟩ := hI
    refine lv_istore_n (lv' := [(2, .int j32_s0), (0, .ref h0), (1, .int p0)]) hx hb d_MD_validNumbers_32 rfl hl (by decide) rfl (fun ls hl => ?_)
    refine lv_iload_n hx hb d_MD_validNumbers_33 rfl (lv_at hl 2 rfl) ?_
    refine lv_bipush (v := 90) hx hb d_MD_validNumbers_34 (by decide) ?_
    refine w_cut (pc2 := 64) (σ := Int32) (fun u H locs ls => match u with | j64_s0 => (j64_s0.toInt = nout p0.toInt) ∧ va_P (dC, dI) cls2 (wz_338 h0 rf tap h0_taped h0_length h0_kind h0_from h0_to h0_word h0_numeral h0_globalNames_r h0_globalPlaces_r h0_globalTypes_r h0_globalValues_r h0_globalCount h0_funs_r h0_funCount h0_open h0_signs h0_levels_r h0_now h0_known_r h0_knownCount h0_loops mad h0_madeLength mag h0_smalls_r h0_greats_r h0_module_r h0_spare_r mm h0_cursor h0_limit blk stk h0_top hgt lab ous kis los h0_depth h0_function mem h0_pages glo val h0_valueTop ffu fre fba fla h0_frames lat lhe h0_labelTop h0_steps h0_there rsl h0_resultLength h0_reason h0_place arg h0_argumentCount h0_code rf rf_backtrace rf_detailMessage rf_cause rf_stackTrace rf_depth rf_suppressedExceptions rf_reason rf_place stk cstk gstk hgt chgt ghgt los clos glos) H ∧ va_D A (wz_338 h0 rf tap h0_taped h0_length h0_kind h0_from h0_to h0_word h0_numeral h0_globalNames_r h0_globalPlaces_r h0_globalTypes_r h0_globalValues_r h0_globalCount h0_funs_r h0_funCount h0_open h0_signs h0_levels_r h0_now h0_known_r h0_knownCount h0_loops mad h0_madeLength mag h0_smalls_r h0_greats_r h0_module_r h0_spare_r mm h0_cursor h0_limit blk stk h0_top hgt lab ous kis los h0_depth h0_function mem h0_pages glo val h0_valueTop ffu fre fba fla h0_frames lat lhe h0_labelTop h0_steps h0_there rsl h0_resultLength h0_reason h0_place arg h0_argumentCount h0_code rf rf_backtrace rf_detailMessage rf_cause rf_stackTrace rf_depth rf_suppressedExceptions rf_reason rf_place stk cstk gstk hgt chgt ghgt los clos glos) ∧ va_S A s.heap H locs ∧ lv_has ls 5 [(0, .ref h0), (1, .int p0), (2, .int j32_s0)]) (fun u => match u with | j64_s0 => [.int j64_s0]) ?_ (fun jn64 => ?_)
    · intro u H locs ls hI
      obtain ⟨j64_s0, rfl⟩ : ∃ z, z = u := ⟨_, rfl⟩
      obtain ⟨y64, hP, hD, hS, hl⟩ := hI
      refine lv_istore_n (lv' := [(3, .int j64_s0), (0, .ref h0), (1, .int p0), (2, .int j32_s0)]) hx hb d_MD_validNumbers_64 rfl hl (by decide) rfl (fun ls hl => ?_)
      refine lv_iload_n hx hb d_MD_validNumbers_65 rfl (lv_at hl 2 rfl) ?_
      refine lv_bipush (v := 69) hx hb d_MD_validNumbers_66 (by decide) ?_
      refine w_cut (pc2 := 113) (σ := Int32) (fun u H locs ls => match u with | j113_s0 => (j113_s0 = 0 ∨ j113_s0 = 1) ∧ ((j113_s0.toInt = 1 → sgl p0.toInt) ∧ (j113_s0.toInt = 0 → ¬ sgl p0.toInt)) ∧ va_P (dC, dI) cls2 (wz_338 h0 rf tap h0_taped h0_length h0_kind h0_from h0_to h0_word h0_numeral h0_globalNames_r h0_globalPlaces_r h0_globalTypes_r h0_globalValues_r h0_globalCount h0_funs_r h0_funCount h0_open h0_signs h0_levels_r h0_now h0_known_r h0_knownCount h0_loops mad h0_madeLength mag h0_smalls_r h0_greats_r h0_module_r h0_spare_r mm h0_cursor h0_limit blk stk h0_top hgt lab ous kis los h0_depth h0_function mem h0_pages glo val h0_valueTop ffu fre fba fla h0_frames lat lhe h0_labelTop h0_steps h0_there rsl h0_resultLength h0_reason h0_place arg h0_argumentCount h0_code rf rf_backtrace rf_detailMessage rf_cause rf_stackTrace rf_depth rf_suppressedExceptions rf_reason rf_place stk cstk gstk hgt chgt ghgt los clos glos) H ∧ va_D A (wz_338 h0 rf tap h0_taped h0_length h0_kind h0_from h0_to h0_word h0_numeral h0_globalNames_r h0_globalPlaces_r h0_globalTypes_r h0_globalValues_r h0_globalCount h0_funs_r h0_funCount h0_open h0_signs h0_levels_r h0_now h0_known_r h0_knownCount h0_loops mad h0_madeLength mag h0_smalls_r h0_greats_r h0_module_r h0_spare_r mm h0_cursor h0_limit blk stk h0_top hgt lab ous kis los h0_depth h0_function mem h0_pages glo val h0_valueTop ffu fre fba fla h0_frames lat lhe h0_labelTop h0_steps h0_there rsl h0_resultLength h0_reason h0_place arg h0_argumentCount h0_code rf rf_backtrace rf_detailMessage rf_cause rf_stackTrace rf_depth rf_suppressedExceptions rf_reason rf_place stk cstk gstk hgt chgt ghgt los clos glos) ∧ va_S A s.heap H locs ∧ lv_has ls 5 [(0, .ref h0), (2, .int j32_s0), (3, .int j64_s0)]) (fun u => match u with | j113_s0 => [.int j113_s0]) ?_ (fun jn113 => ?_)
      · intro u H locs ls hI
        obtain ⟨j113_s0, rfl⟩ : ∃ z, z = u := ⟨_, rfl⟩
        obtain ⟨b_j113_s0, y113, hP, hD, hS, hl⟩ := hI
        have tj113_s0 := b01 b_j113_s0
        refine lv_istore (lv' := [(4, .int j113_s0), (0, .ref h0), (2, .int j32_s0), (3, .int j64_s0)]) hx hb d_MD_validNumbers_113 hl (by decide) rfl (fun ls hl => ?_)
        refine lv_aload_n hx hb d_MD_validNumbers_115 rfl (lv_at hl 1 rfl) ?_
        refine lv_iload_n hx hb d_MD_validNumbers_116 rfl (lv_at hl 2 rfl) ?_
        have hPc := hP.sb (wq := (wz_338 h0 rf tap h0_taped h0_length h0_kind h0_from h0_to h0_word h0_numeral h0_globalNames_r h0_globalPlaces_r h0_globalTypes_r h0_globalValues_r h0_globalCount h0_funs_r h0_funCount h0_open h0_signs h0_levels_r h0_now h0_known_r h0_knownCount h0_loops mad h0_madeLength mag h0_smalls_r h0_greats_r h0_module_r h0_spare_r mm h0_cursor h0_limit blk stk h0_top hgt lab ous kis los h0_depth h0_function mem h0_pages glo val h0_valueTop ffu fre fba fla h0_frames lat lhe h0_labelTop h0_steps h0_there rsl h0_resultLength h0_reason h0_place arg h0_argumentCount h0_code rf rf_backtrace rf_detailMessage rf_cause rf_stackTrace rf_depth rf_suppressedExceptions rf_reason rf_place stk cstk gstk hgt chgt ghgt los clos glos)) [0, 1, 2, 3, 4] rfl
        have hDc := hD.sb (wq := (wz_338 h0 rf tap h0_taped h0_length h0_kind h0_from h0_to h0_word h0_numeral h0_globalNames_r h0_globalPlaces_r h0_globalTypes_r h0_globalValues_r h0_globalCount h0_funs_r h0_funCount h0_open h0_signs h0_levels_r h0_now h0_known_r h0_knownCount h0_loops mad h0_madeLength mag h0_smalls_r h0_greats_r h0_module_r h0_spare_r mm h0_cursor h0_limit blk stk h0_top hgt lab ous kis los h0_depth h0_function mem h0_pages glo val h0_valueTop ffu fre fba fla h0_frames lat lhe h0_labelTop h0_steps h0_there rsl h0_resultLength h0_reason h0_place arg h0_argumentCount h0_code rf rf_backtrace rf_detailMessage rf_cause rf_stackTrace rf_depth rf_suppressedExceptions rf_reason rf_place stk cstk gstk hgt chgt ghgt los clos glos)) [0, 1, 2, 3, 4] (by decide) rfl
        have hKc := hK.sb (tyq := [(cstk, .int), (chgt, .int), (clos, .boolean)]) [0, 1, 2] rfl
        have hFc := va_free (wc := (wz_338 h0 rf tap h0_taped h0_length h0_kind h0_from h0_to h0_word h0_numeral h0_globalNames_r h0_globalPlaces_r h0_globalTypes_r h0_globalValues_r h0_globalCount h0_funs_r h0_funCount h0_open h0_signs h0_levels_r h0_now h0_known_r h0_knownCount h0_loops mad h0_madeLength mag h0_smalls_r h0_greats_r h0_module_r h0_spare_r mm h0_cursor h0_limit blk stk h0_top hgt lab ous kis los h0_depth h0_function mem h0_pages glo val h0_valueTop ffu fre fba fla h0_frames lat lhe h0_labelTop h0_steps h0_there rsl h0_resultLength h0_reason h0_place arg h0_argumentCount h0_code rf rf_backtrace rf_detailMessage rf_cause rf_stackTrace rf_depth rf_suppressedExceptions rf_reason rf_place stk cstk gstk hgt chgt ghgt los clos glos)) hD hS hA [0, 1, 2, 3, 4] rfl
        refine tr_calli (tz_runV (As := [.int j32_s0]) (rest := []) ⟨hx, hb, hml, hown, hts⟩ (c_MD_pop l hlt dC dI H.size h0 rf tap h0_globalNames_r h0_globalPlaces_r h0_globalTypes_r h0_globalValues_r h0_funs_r h0_levels_r h0_known_r mad mag h0_smalls_r h0_greats_r h0_module_r h0_spare_r mm blk stk hgt lab ous kis los mem glo val ffu fre fba fla lat lhe rsl arg cstk chgt clos h0_taped h0_length h0_kind h0_from h0_to h0_word h0_numeral h0_globalCount h0_funCount h0_open h0_signs h0_now h0_knownCount h0_loops h0_madeLength h0_cursor h0_limit h0_top h0_depth h0_function h0_pages h0_valueTop h0_frames h0_labelTop h0_steps h0_there h0_resultLength h0_reason h0_place h0_argumentCount h0_code rf_backtrace rf_detailMessage rf_cause rf_stackTrace rf_depth rf_suppressedExceptions rf_reason rf_place gstk ghgt glos (b_h0_top) (b_h0_depth) (b_ghgt) (b_glos) j32_s0 (hd9)) (cwV 1 hts (gV kM_MD_657 kV_MD_pop kS_MD_pop kI_MD kC_MD_pop) rfl rfl rfl (by decide +kernel) ⟨Nat.le_of_ble_eq_true rfl, Nat.le_of_ble_eq_true rfl⟩) ⟨fun a U g mk z => by obtain ⟨z0, z1, zP, zK, zD, zS⟩ := z; exact ⟨z0, z1, zP, va_K.moved (u := U) (U := U.calling g mk a) (Vm.Alike.refl U.vm) zK, zD, sw_nest.same (s := U) (U := U.calling g mk a) rfl zS⟩, va_recv hKc hPc (ci := 11) (q0 := 0) rfl rfl, fun U hU hW => ⟨rfl, by rw [hU], va_P.he hU.symm hPc, va_K.moved hW.alike hKc, hDc.weaken (fun _ _ _ _ => trivial), hSW.warm hW⟩⟩ rfl rfl hl.1 rfl (lv_room (Nat.le_of_ble_eq_true rfl)) d_MD_validNumbers_117 ⟨Nat.le_of_ble_eq_true rfl, Nat.le_of_ble_eq_true rfl⟩) hS (fun q _ h => hFc q h) hFc (fun r1 u t H1 locs ht hvm hw hB hz1 hk1 hS => ?_) (fun xx u t H1 locs ht hvm hw hXX hB hz1 hk1 hS => ?_)
        rotate_left
        · skip
          obtain ⟨hxa, hXX⟩ := hXX
          obtain ⟨n2, n3, n4⟩ := u
          try dsimp only at hw
          obtain ⟨bn2, tq9⟩ := hw
          obtain ⟨hP1, hK1, hD1⟩ := hB
          replace hP1 := va_P.he ht hP1
          obtain ⟨hP, hD⟩ := va_join (wr := []) (w1 := (wz_338 h0 rf tap h0_taped h0_length h0_kind h0_from h0_to h0_word h0_numeral h0_globalNames_r h0_globalPlaces_r h0_globalTypes_r h0_globalValues_r h0_globalCount h0_funs_r h0_funCount h0_open h0_signs h0_levels_r h0_now h0_known_r h0_knownCount h0_loops mad h0_madeLength mag h0_smalls_r h0_greats_r h0_module_r h0_spare_r mm h0_cursor h0_limit blk stk n2 hgt lab ous kis los h0_depth h0_function mem h0_pages glo val h0_valueTop ffu fre fba fla h0_frames lat lhe h0_labelTop h0_steps h0_there rsl h0_resultLength h0_reason h0_place arg h0_argumentCount h0_code rf rf_backtrace rf_detailMessage rf_cause rf_stackTrace rf_depth rf_suppressedExceptions n4 n3 stk cstk gstk hgt chgt ghgt los clos glos)) hP hD [0, 1, 2, 3, 4] [] rfl rfl (by decide) (by decide) hk1 hFc hP1 hD1
          have hP : va_P (dC, dI) cls2 (wz_338 h0 rf tap h0_taped h0_length h0_kind h0_from h0_to h0_word h0_numeral h0_globalNames_r h0_globalPlaces_r h0_globalTypes_r h0_globalValues_r h0_globalCount h0_funs_r h0_funCount h0_open h0_signs h0_levels_r h0_now h0_known_r h0_knownCount h0_loops mad h0_madeLength mag h0_smalls_r h0_greats_r h0_module_r h0_spare_r mm h0_cursor h0_limit blk stk n2 hgt lab ous kis los h0_depth h0_function mem h0_pages glo val h0_valueTop ffu fre fba fla h0_frames lat lhe h0_labelTop h0_steps h0_there rsl h0_resultLength h0_reason h0_place arg h0_argumentCount h0_code rf rf_backtrace rf_detailMessage rf_cause rf_stackTrace rf_depth rf_suppressedExceptions n4 n3 stk cstk gstk hgt chgt ghgt los clos glos) H1 := hP
          have hD : va_D A (wz_338 h0 rf tap h0_taped h0_length h0_kind h0_from h0_to h0_word h0_numeral h0_globalNames_r h0_globalPlaces_r h0_globalTypes_r h0_globalValues_r h0_globalCount h0_funs_r h0_funCount h0_open h0_signs h0_levels_r h0_now h0_known_r h0_knownCount h0_loops mad h0_madeLength mag h0_smalls_r h0_greats_r h0_module_r h0_spare_r mm h0_cursor h0_limit blk stk n2 hgt lab ous kis los h0_depth h0_function mem h0_pages glo val h0_valueTop ffu fre fba fla h0_frames lat lhe h0_labelTop h0_steps h0_there rsl h0_resultLength h0_reason h0_place arg h0_argumentCount h0_code rf rf_backtrace rf_detailMessage rf_cause rf_stackTrace rf_depth rf_suppressedExceptions n4 n3 stk cstk gstk hgt chgt ghgt los clos glos) := hD
          have hP9 := hP.sb (wq := (wz_338 h0 rf tap h0_taped h0_length h0_kind h0_from h0_to h0_word h0_numeral h0_globalNames_r h0_globalPlaces_r h0_globalTypes_r h0_globalValues_r h0_globalCount h0_funs_r h0_funCount h0_open h0_signs h0_levels_r h0_now h0_known_r h0_knownCount h0_loops mad h0_madeLength mag h0_smalls_r h0_greats_r h0_module_r h0_spare_r mm h0_cursor h0_limit blk stk n2 hgt lab ous kis los h0_depth h0_function mem h0_pages glo val h0_valueTop ffu fre fba fla h0_frames lat lhe h0_labelTop h0_steps h0_there rsl h0_resultLength h0_reason h0_place arg h0_argumentCount h0_code rf rf_backtrace rf_detailMessage rf_cause rf_stackTrace rf_depth rf_suppressedExceptions n4 n3 stk cstk gstk hgt chgt ghgt los clos glos)) [0, 1, 2, 3, 4] rfl
          have hD9 := hD.sb (wq := (wz_338 h0 rf tap h0_taped h0_length h0_kind h0_from h0_to h0_word h0_numeral h0_globalNames_r h0_globalPlaces_r h0_globalTypes_r h0_globalValues_r h0_globalCount h0_funs_r h0_funCount h0_open h0_signs h0_levels_r h0_now h0_known_r h0_knownCount h0_loops mad h0_madeLength mag h0_smalls_r h0_greats_r h0_module_r h0_spare_r mm h0_cursor h0_limit blk stk n2 hgt lab ous kis los h0_depth h0_function mem h0_pages glo val h0_valueTop ffu fre fba fla h0_frames lat lhe h0_labelTop h0_steps h0_there rsl h0_resultLength h0_reason h0_place arg h0_argumentCount h0_code rf rf_backtrace rf_detailMessage rf_cause rf_stackTrace rf_depth rf_suppressedExceptions n4 n3 stk cstk gstk hgt chgt ghgt los clos glos)) [0, 1, 2, 3, 4] (by decide) rfl
          exact tz_leave rfl hno hlocks (fun t ht hW => ⟨⟨(gstk, n2, n3, n4), ⟨⟨bn2, trivial⟩, hxa, by rw [ht]; exact hXX.moved hW.alike⟩, va_P.he ht.symm hP9, va_K.moved hW.alike hK, hD9⟩, hS.F ht⟩) hS.2.2
        obtain ⟨n5, n6, n7⟩ := u
        try dsimp only at hw
        obtain ⟨bn5, xr1⟩ := hw
        try clear hw
        obtain ⟨a1, a2, a3⟩ := xr1
        replace a3 : bx _ := a3
        obtain ⟨hP1, hK1, hD1⟩ := hB
        replace hP1 := va_P.he ht hP1
        obtain ⟨hP, hD⟩ := va_join (wr := []) (w1 := (wz_338 h0 rf tap h0_taped h0_length h0_kind h0_from h0_to h0_word h0_numeral h0_globalNames_r h0_globalPlaces_r h0_globalTypes_r h0_globalValues_r h0_globalCount h0_funs_r h0_funCount h0_open h0_signs h0_levels_r h0_now h0_known_r h0_knownCount h0_loops mad h0_madeLength mag h0_smalls_r h0_greats_r h0_module_r h0_spare_r mm h0_cursor h0_limit blk stk n5 hgt lab ous kis los h0_depth h0_function mem h0_pages glo val h0_valueTop ffu fre fba fla h0_frames lat lhe h0_labelTop h0_steps h0_there rsl h0_resultLength h0_reason h0_place arg h0_argumentCount h0_code rf rf_backtrace rf_detailMessage rf_cause rf_stackTrace rf_depth rf_suppressedExceptions n7 n6 stk cstk gstk hgt chgt ghgt los clos glos)) hP hD [0, 1, 2, 3, 4] [] rfl rfl (by decide) (by decide) hk1 hFc hP1 hD1
        clear hPc hDc hKc hFc hz1 hk1 hP1 hK1 hD1
        rename Heap => H
        have hP : va_P (dC, dI) cls2 (wz_338 h0 rf tap h0_taped h0_length h0_kind h0_from h0_to h0_word h0_numeral h0_globalNames_r h0_globalPlaces_r h0_globalTypes_r h0_globalValues_r h0_globalCount h0_funs_r h0_funCount h0_open h0_signs h0_levels_r h0_now h0_known_r h0_knownCount h0_loops mad h0_madeLength mag h0_smalls_r h0_greats_r h0_module_r h0_spare_r mm h0_cursor h0_limit blk stk n5 hgt lab ous kis los h0_depth h0_function mem h0_pages glo val h0_valueTop ffu fre fba fla h0_frames lat lhe h0_labelTop h0_steps h0_there rsl h0_resultLength h0_reason h0_place arg h0_argumentCount h0_code rf rf_backtrace rf_detailMessage rf_cause rf_stackTrace rf_depth rf_suppressedExceptions n7 n6 stk cstk gstk hgt chgt ghgt los clos glos) H := hP
        have hD : va_D A (wz_338 h0 rf tap h0_taped h0_length h0_kind h0_from h0_to h0_word h0_numeral h0_globalNames_r h0_globalPlaces_r h0_globalTypes_r h0_globalValues_r h0_globalCount h0_funs_r h0_funCount h0_open h0_signs h0_levels_r h0_now h0_known_r h0_knownCount h0_loops mad h0_madeLength mag h0_smalls_r h0_greats_r h0_module_r h0_spare_r mm h0_cursor h0_limit blk stk n5 hgt lab ous kis los h0_depth h0_function mem h0_pages glo val h0_valueTop ffu fre fba fla h0_frames lat lhe h0_labelTop h0_steps h0_there rsl h0_resultLength h0_reason h0_place arg h0_argumentCount h0_code rf rf_backtrace rf_detailMessage rf_cause rf_stackTrace rf_depth rf_suppressedExceptions n7 n6 stk cstk gstk hgt chgt ghgt los clos glos) := hD
        refine lv_pop hx hb d_MD_validNumbers_120 rfl ?_
        refine lv_iload hx hb d_MD_validNumbers_121 (lv_at hl 0 rfl) ?_
        refine lv_if_ne (tgt := 132) hx hb d_MD_validNumbers_123 (by decide) (fun c123 => ?_) (fun c123 => ?_)
        · have q123 := neI c123
          refine lv_aload_n hx hb d_MD_validNumbers_132 rfl (lv_at hl 1 rfl) ?_
          refine lv_iload_n hx hb d_MD_validNumbers_133 rfl (lv_at hl 3 rfl) ?_
          have nz9 := nout_r p0.toInt
          have hPc := hP.sb (wq := (wz_337 h0 rf tap h0_taped h0_length h0_kind h0_from h0_to h0_word h0_numeral h0_globalNames_r h0_globalPlaces_r h0_globalTypes_r h0_globalValues_r h0_globalCount h0_funs_r h0_funCount h0_open h0_signs h0_levels_r h0_now h0_known_r h0_knownCount h0_loops mad h0_madeLength mag h0_smalls_r h0_greats_r h0_module_r h0_spare_r mm h0_cursor h0_limit blk stk n5 hgt lab ous kis los h0_depth h0_function mem h0_pages glo val h0_valueTop ffu fre fba fla h0_frames lat lhe h0_labelTop h0_steps h0_there rsl h0_resultLength h0_reason h0_place arg h0_argumentCount h0_code stk cstk gstk)) [0, 2] rfl
          have hDc := hD.sb (wq := (wz_337 h0 rf tap h0_taped h0_length h0_kind h0_from h0_to h0_word h0_numeral h0_globalNames_r h0_globalPlaces_r h0_globalTypes_r h0_globalValues_r h0_globalCount h0_funs_r h0_funCount h0_open h0_signs h0_levels_r h0_now h0_known_r h0_knownCount h0_loops mad h0_madeLength mag h0_smalls_r h0_greats_r h0_module_r h0_spare_r mm h0_cursor h0_limit blk stk n5 hgt lab ous kis los h0_depth h0_function mem h0_pages glo val h0_valueTop ffu fre fba fla h0_frames lat lhe h0_labelTop h0_steps h0_there rsl h0_resultLength h0_reason h0_place arg h0_argumentCount h0_code stk cstk gstk)) [0, 2] (by decide) rfl
          have hKc := hK.sb (tyq := [(cstk, .int)]) [0] rfl
          have hFc := va_free (wc := (wz_337 h0 rf tap h0_taped h0_length h0_kind h0_from h0_to h0_word h0_numeral h0_globalNames_r h0_globalPlaces_r h0_globalTypes_r h0_globalValues_r h0_globalCount h0_funs_r h0_funCount h0_open h0_signs h0_levels_r h0_now h0_known_r h0_knownCount h0_loops mad h0_madeLength mag h0_smalls_r h0_greats_r h0_module_r h0_spare_r mm h0_cursor h0_limit blk stk n5 hgt lab ous kis los h0_depth h0_function mem h0_pages glo val h0_valueTop ffu fre fba fla h0_frames lat lhe h0_labelTop h0_steps h0_there rsl h0_resultLength h0_reason h0_place arg h0_argumentCount h0_code stk cstk gstk)) hD hS hA [0, 2] rfl
          refine va_callv (va_runV (As := [.int j64_s0]) (rest := []) ⟨hx, hb, hml, hown, hts⟩ (c_MD_push l dC dI H.size h0 rf tap h0_globalNames_r h0_globalPlaces_r h0_globalTypes_r h0_globalValues_r h0_funs_r h0_levels_r h0_known_r mad mag h0_smalls_r h0_greats_r h0_module_r h0_spare_r mm blk stk hgt lab ous kis los mem glo val ffu fre fba fla lat lhe rsl arg cstk h0_taped h0_length h0_kind h0_from h0_to h0_word h0_numeral h0_globalCount h0_funCount h0_open h0_signs h0_now h0_knownCount h0_loops h0_madeLength h0_cursor h0_limit n5 h0_depth h0_function h0_pages h0_valueTop h0_frames h0_labelTop h0_steps h0_there h0_resultLength h0_reason h0_place h0_argumentCount h0_code gstk (bn5) j64_s0 (by (first | (apply Int.le_antisymm <;> omega) | omega))) (cwV 1 hts (gV kM_MD_678 kV_MD_push kS_MD_push kI_MD kC_MD_push) rfl rfl rfl (by decide +kernel) ⟨Nat.le_of_ble_eq_true rfl, Nat.le_of_ble_eq_true rfl⟩) ⟨fun a U g mk z => by obtain ⟨z0, z1, zP, zK, zD, zS⟩ := z; exact ⟨z0, z1, zP, va_K.moved (u := U) (U := U.calling g mk a) (Vm.Alike.refl U.vm) zK, zD, sw_nest.same (s := U) (U := U.calling g mk a) rfl zS⟩, va_recv hKc hPc (ci := 11) (q0 := 0) rfl rfl, fun U hU hW => ⟨rfl, by rw [hU], va_P.he hU.symm hPc, va_K.moved hW.alike hKc, hDc.weaken (fun _ _ _ _ => trivial), hSW.warm hW⟩⟩ rfl rfl hl.1 rfl (lv_room (Nat.le_of_ble_eq_true rfl)) d_MD_validNumbers_134 ⟨(Nat.zero_le _), (Nat.zero_le _)⟩) hS (fun q _ h => hFc q h) hFc (fun u t H1 locs ht hvm hw hB hz1 hk1 hS => ?_)
          obtain ⟨n9, n10⟩ := u
          try dsimp only at hw
          obtain ⟨bn10, xr8⟩ := hw
          try clear hw
          obtain ⟨pu1, pu2⟩ := xr8.2 (by (first | (apply Int.le_antisymm <;> omega) | omega))
          obtain ⟨hP1, hK1, hD1⟩ := hB
          replace hP1 := va_P.he ht hP1
          obtain ⟨hP, hD⟩ := va_join (wr := [(rf, .inr (15, [rf_backtrace, rf_detailMessage, rf_cause, rf_stackTrace, .int rf_depth, rf_suppressedExceptions, .int n7, .int n6])), (hgt, .inl (chgt, 102, .inl ghgt)), (los, .inl (clos, 102, .inl glos))]) (w1 := (wz_337 h0 rf tap h0_taped h0_length h0_kind h0_from h0_to h0_word h0_numeral h0_globalNames_r h0_globalPlaces_r h0_globalTypes_r h0_globalValues_r h0_globalCount h0_funs_r h0_funCount h0_open h0_signs h0_levels_r h0_now h0_known_r h0_knownCount h0_loops mad h0_madeLength mag h0_smalls_r h0_greats_r h0_module_r h0_spare_r mm h0_cursor h0_limit blk stk n10 hgt lab ous kis los h0_depth h0_function mem h0_pages glo val h0_valueTop ffu fre fba fla h0_frames lat lhe h0_labelTop h0_steps h0_there rsl h0_resultLength h0_reason h0_place arg h0_argumentCount h0_code stk cstk n9)) hP hD [0, 2] [1, 3, 4] rfl rfl (by decide) (by decide) hk1 hFc hP1 hD1
          clear hPc hDc hKc hFc hz1 hk1 hP1 hK1 hD1
          rename Heap => H
          have hP : va_P (dC, dI) cls2 (wz_391 rf rf_backtrace rf_detailMessage rf_cause rf_stackTrace rf_depth rf_suppressedExceptions n7 n6 hgt chgt ghgt los clos glos h0 rf tap h0_taped h0_length h0_kind h0_from h0_to h0_word h0_numeral h0_globalNames_r h0_globalPlaces_r h0_globalTypes_r h0_globalValues_r h0_globalCount h0_funs_r h0_funCount h0_open h0_signs h0_levels_r h0_now h0_known_r h0_knownCount h0_loops mad h0_madeLength mag h0_smalls_r h0_greats_r h0_module_r h0_spare_r mm h0_cursor h0_limit blk stk n10 hgt lab ous kis los h0_depth h0_function mem h0_pages glo val h0_valueTop ffu fre fba fla h0_frames lat lhe h0_labelTop h0_steps h0_there rsl h0_resultLength h0_reason h0_place arg h0_argumentCount h0_code stk cstk n9) H := hP
          have hD : va_D A (wz_391 rf rf_backtrace rf_detailMessage rf_cause rf_stackTrace rf_depth rf_suppressedExceptions n7 n6 hgt chgt ghgt los clos glos h0 rf tap h0_taped h0_length h0_kind h0_from h0_to h0_word h0_numeral h0_globalNames_r h0_globalPlaces_r h0_globalTypes_r h0_globalValues_r h0_globalCount h0_funs_r h0_funCount h0_open h0_signs h0_levels_r h0_now h0_known_r h0_knownCount h0_loops mad h0_madeLength mag h0_smalls_r h0_greats_r h0_module_r h0_spare_r mm h0_cursor h0_limit blk stk n10 hgt lab ous kis los h0_depth h0_function mem h0_pages glo val h0_valueTop ffu fre fba fla h0_frames lat lhe h0_labelTop h0_steps h0_there rsl h0_resultLength h0_reason h0_place arg h0_argumentCount h0_code stk cstk n9) := hD
          have hP9 := hP.sb (wq := (wz_338 h0 rf tap h0_taped h0_length h0_kind h0_from h0_to h0_word h0_numeral h0_globalNames_r h0_globalPlaces_r h0_globalTypes_r h0_globalValues_r h0_globalCount h0_funs_r h0_funCount h0_open h0_signs h0_levels_r h0_now h0_known_r h0_knownCount h0_loops mad h0_madeLength mag h0_smalls_r h0_greats_r h0_module_r h0_spare_r mm h0_cursor h0_limit blk stk n10 hgt lab ous kis los h0_depth h0_function mem h0_pages glo val h0_valueTop ffu fre fba fla h0_frames lat lhe h0_labelTop h0_steps h0_there rsl h0_resultLength h0_reason h0_place arg h0_argumentCount h0_code rf rf_backtrace rf_detailMessage rf_cause rf_stackTrace rf_depth rf_suppressedExceptions n7 n6 stk cstk n9 hgt chgt ghgt los clos glos)) [3, 0, 4, 1, 2] rfl
          have hD9 := hD.sb (wq := (wz_338 h0 rf tap h0_taped h0_length h0_kind h0_from h0_to h0_word h0_numeral h0_globalNames_r h0_globalPlaces_r h0_globalTypes_r h0_globalValues_r h0_globalCount h0_funs_r h0_funCount h0_open h0_signs h0_levels_r h0_now h0_known_r h0_knownCount h0_loops mad h0_madeLength mag h0_smalls_r h0_greats_r h0_module_r h0_spare_r mm h0_cursor h0_limit blk stk n10 hgt lab ous kis los h0_depth h0_function mem h0_pages glo val h0_valueTop ffu fre fba fla h0_frames lat lhe h0_labelTop h0_steps h0_there rsl h0_resultLength h0_reason h0_place arg h0_argumentCount h0_code rf rf_backtrace rf_detailMessage rf_cause rf_stackTrace rf_depth rf_suppressedExceptions n7 n6 stk cstk n9 hgt chgt ghgt los clos glos)) [3, 0, 4, 1, 2] (by decide) rfl
          exact tz_up (fun _ => rfl) (W.vret hx hb hr (fun t ht hW => ⟨⟨(n9, n10, n6, n7), ⟨rfl, ⟨bn10, (by have nr := nin_r p0.toInt; have sE : n9 = upd gstk (n10.toInt - 1).toNat j64_s0 := (by rw [pu2, show n5.toNatClampNeg = (n10.toInt - 1).toNat from (by have := i32_clamp (x := n5) (by (first | (apply Int.le_antisymm <;> omega) | omega)); (first | (apply Int.le_antisymm <;> omega) | omega))]); have o1 : h0_top.toInt ≠ (ghgt (h0_depth.toInt - 1).toNat).toInt → ((gstk (h0_top.toInt - 1).toNat).toInt = nin p0.toInt ∨ (gstk (h0_top.toInt - 1).toNat).toInt = -1) := (fun z => by have q := (a3.out z).1; (first | (apply Int.le_antisymm <;> omega) | omega)); refine ⟨⟨by (first | (apply Int.le_antisymm <;> omega) | omega), by (first | (apply Int.le_antisymm <;> omega) | omega)⟩, fun z => ⟨fun y => ?_, fun y => ?_⟩, ⟨j64_s0, y64, sE⟩, fun k hk => by rw [sE]; exact pk_un (by (first | (apply Int.le_antisymm <;> omega) | omega))⟩; (have n1 : h0_top.toInt ≠ (ghgt (h0_depth.toInt - 1).toNat).toInt := (fun e => by have := (a1 e).2; (first | (apply Int.le_antisymm <;> omega) | omega)); exact ⟨by (first | (apply Int.le_antisymm <;> omega) | omega), by (first | (apply Int.le_antisymm <;> omega) | omega), o1 n1⟩); (exact absurd (y113.1 (by (first | (apply Int.le_antisymm <;> omega) | omega))) y))⟩⟩, va_P.he ht.symm hP9, va_K.moved hW.alike hK, hD9⟩, hS.F ht⟩) hS.2.2 d_MD_validNumbers_137)
        · have q123 := eqI c123
          refine lv_aload_n hx hb d_MD_validNumbers_126 rfl (lv_at hl 1 rfl) ?_
          refine lv_iload_n hx hb d_MD_validNumbers_127 rfl (lv_at hl 2 rfl) ?_
          have hPc := hP.sb (wq := (wz_338 h0 rf tap h0_taped h0_length h0_kind h0_from h0_to h0_word h0_numeral h0_globalNames_r h0_globalPlaces_r h0_globalTypes_r h0_globalValues_r h0_globalCount h0_funs_r h0_funCount h0_open h0_signs h0_levels_r h0_now h0_known_r h0_knownCount h0_loops mad h0_madeLength mag h0_smalls_r h0_greats_r h0_module_r h0_spare_r mm h0_cursor h0_limit blk stk n5 hgt lab ous kis los h0_depth h0_function mem h0_pages glo val h0_valueTop ffu fre fba fla h0_frames lat lhe h0_labelTop h0_steps h0_there rsl h0_resultLength h0_reason h0_place arg h0_argumentCount h0_code rf rf_backtrace rf_detailMessage rf_cause rf_stackTrace rf_depth rf_suppressedExceptions n7 n6 stk cstk gstk hgt chgt ghgt los clos glos)) [0, 1, 2, 3, 4] rfl
          have hDc := hD.sb (wq := (wz_338 h0 rf tap h0_taped h0_length h0_kind h0_from h0_to h0_word h0_numeral h0_globalNames_r h0_globalPlaces_r h0_globalTypes_r h0_globalValues_r h0_globalCount h0_funs_r h0_funCount h0_open h0_signs h0_levels_r h0_now h0_known_r h0_knownCount h0_loops mad h0_madeLength mag h0_smalls_r h0_greats_r h0_module_r h0_spare_r mm h0_cursor h0_limit blk stk n5 hgt lab ous kis los h0_depth h0_function mem h0_pages glo val h0_valueTop ffu fre fba fla h0_frames lat lhe h0_labelTop h0_steps h0_there rsl h0_resultLength h0_reason h0_place arg h0_argumentCount h0_code rf rf_backtrace rf_detailMessage rf_cause rf_stackTrace rf_depth rf_suppressedExceptions n7 n6 stk cstk gstk hgt chgt ghgt los clos glos)) [0, 1, 2, 3, 4] (by decide) rfl
          have hKc := hK.sb (tyq := [(cstk, .int), (chgt, .int), (clos, .boolean)]) [0, 1, 2] rfl
          have hFc := va_free (wc := (wz_338 h0 rf tap h0_taped h0_length h0_kind h0_from h0_to h0_word h0_numeral h0_globalNames_r h0_globalPlaces_r h0_globalTypes_r h0_globalValues_r h0_globalCount h0_funs_r h0_funCount h0_open h0_signs h0_levels_r h0_now h0_known_r h0_knownCount h0_loops mad h0_madeLength mag h0_smalls_r h0_greats_r h0_module_r h0_spare_r mm h0_cursor h0_limit blk stk n5 hgt lab ous kis los h0_depth h0_function mem h0_pages glo val h0_valueTop ffu fre fba fla h0_frames lat lhe h0_labelTop h0_steps h0_there rsl h0_resultLength h0_reason h0_place arg h0_argumentCount h0_code rf rf_backtrace rf_detailMessage rf_cause rf_stackTrace rf_depth rf_suppressedExceptions n7 n6 stk cstk gstk hgt chgt ghgt los clos glos)) hD hS hA [0, 1, 2, 3, 4] rfl
          refine tr_calli (tz_runV (As := [.int j32_s0]) (rest := []) ⟨hx, hb, hml, hown, hts⟩ (c_MD_pop l hlt dC dI H.size h0 rf tap h0_globalNames_r h0_globalPlaces_r h0_globalTypes_r h0_globalValues_r h0_funs_r h0_levels_r h0_known_r mad mag h0_smalls_r h0_greats_r h0_module_r h0_spare_r mm blk stk hgt lab ous kis los mem glo val ffu fre fba fla lat lhe rsl arg cstk chgt clos h0_taped h0_length h0_kind h0_from h0_to h0_word h0_numeral h0_globalCount h0_funCount h0_open h0_signs h0_now h0_knownCount h0_loops h0_madeLength h0_cursor h0_limit n5 h0_depth h0_function h0_pages h0_valueTop h0_frames h0_labelTop h0_steps h0_there h0_resultLength h0_reason h0_place h0_argumentCount h0_code rf_backtrace rf_detailMessage rf_cause rf_stackTrace rf_depth rf_suppressedExceptions n7 n6 gstk ghgt glos (bn5) (b_h0_depth) (b_ghgt) (b_glos) j32_s0 (⟨by (first | (apply Int.le_antisymm <;> omega) | omega), by (first | (apply Int.le_antisymm <;> omega) | omega)⟩)) (cwV 1 hts (gV kM_MD_657 kV_MD_pop kS_MD_pop kI_MD kC_MD_pop) rfl rfl rfl (by decide +kernel) ⟨Nat.le_of_ble_eq_true rfl, Nat.le_of_ble_eq_true rfl⟩) ⟨fun a U g mk z => by obtain ⟨z0, z1, zP, zK, zD, zS⟩ := z; exact ⟨z0, z1, zP, va_K.moved (u := U) (U := U.calling g mk a) (Vm.Alike.refl U.vm) zK, zD, sw_nest.same (s := U) (U := U.calling g mk a) rfl zS⟩, va_recv hKc hPc (ci := 11) (q0 := 0) rfl rfl, fun U hU hW => ⟨rfl, by rw [hU], va_P.he hU.symm hPc, va_K.moved hW.alike hKc, hDc.weaken (fun _ _ _ _ => trivial), hSW.warm hW⟩⟩ rfl rfl hl.1 rfl (lv_room (Nat.le_of_ble_eq_true rfl)) d_MD_validNumbers_128 ⟨Nat.le_of_ble_eq_true rfl, Nat.le_of_ble_eq_true rfl⟩) hS (fun q _ h => hFc q h) hFc (fun r11 u t H1 locs ht hvm hw hB hz1 hk1 hS => ?_) (fun xx u t H1 locs ht hvm hw hXX hB hz1 hk1 hS => ?_)
          rotate_left
          · skip
            obtain ⟨hxa, hXX⟩ := hXX
            obtain ⟨n12, n13, n14⟩ := u
            try dsimp only at hw
            obtain ⟨bn12, tq9⟩ := hw
            obtain ⟨hP1, hK1, hD1⟩ := hB
            replace hP1 := va_P.he ht hP1
            obtain ⟨hP, hD⟩ := va_join (wr := []) (w1 := (wz_338 h0 rf tap h0_taped h0_length h0_kind h0_from h0_to h0_word h0_numeral h0_globalNames_r h0_globalPlaces_r h0_globalTypes_r h0_globalValues_r h0_globalCount h0_funs_r h0_funCount h0_open h0_signs h0_levels_r h0_now h0_known_r h0_knownCount h0_loops mad h0_madeLength mag h0_smalls_r h0_greats_r h0_module_r h0_spare_r mm h0_cursor h0_limit blk stk n12 hgt lab ous kis los h0_depth h0_function mem h0_pages glo val h0_valueTop ffu fre fba fla h0_frames lat lhe h0_labelTop h0_steps h0_there rsl h0_resultLength h0_reason h0_place arg h0_argumentCount h0_code rf rf_backtrace rf_detailMessage rf_cause rf_stackTrace rf_depth rf_suppressedExceptions n14 n13 stk cstk gstk hgt chgt ghgt los clos glos)) hP hD [0, 1, 2, 3, 4] [] rfl rfl (by decide) (by decide) hk1 hFc hP1 hD1
            have hP : va_P (dC, dI) cls2 (wz_338 h0 rf tap h0_taped h0_length h0_kind h0_from h0_to h0_word h0_numeral h0_globalNames_r h0_globalPlaces_r h0_globalTypes_r h0_globalValues_r h0_globalCount h0_funs_r h0_funCount h0_open h0_signs h0_levels_r h0_now h0_known_r h0_knownCount h0_loops mad h0_madeLength mag h0_smalls_r h0_greats_r h0_module_r h0_spare_r mm h0_cursor h0_limit blk stk n12 hgt lab ous kis los h0_depth h0_function mem h0_pages glo val h0_valueTop ffu fre fba fla h0_frames lat lhe h0_labelTop h0_steps h0_there rsl h0_resultLength h0_reason h0_place arg h0_argumentCount h0_code rf rf_backtrace rf_detailMessage rf_cause rf_stackTrace rf_depth rf_suppressedExceptions n14 n13 stk cstk gstk hgt chgt ghgt los clos glos) H1 := hP
            have hD : va_D A (wz_338 h0 rf tap h0_taped h0_length h0_kind h0_from h0_to h0_word h0_numeral h0_globalNames_r h0_globalPlaces_r h0_globalTypes_r h0_globalValues_r h0_globalCount h0_funs_r h0_funCount h0_open h0_signs h0_levels_r h0_now h0_known_r h0_knownCount h0_loops mad h0_madeLength mag h0_smalls_r h0_greats_r h0_module_r h0_spare_r mm h0_cursor h0_limit blk stk n12 hgt lab ous kis los h0_depth h0_function mem h0_pages glo val h0_valueTop ffu fre fba fla h0_frames lat lhe h0_labelTop h0_steps h0_there rsl h0_resultLength h0_reason h0_place arg h0_argumentCount h0_code rf rf_backtrace rf_detailMessage rf_cause rf_stackTrace rf_depth rf_suppressedExceptions n14 n13 stk cstk gstk hgt chgt ghgt los clos glos) := hD
            have hP9 := hP.sb (wq := (wz_338 h0 rf tap h0_taped h0_length h0_kind h0_from h0_to h0_word h0_numeral h0_globalNames_r h0_globalPlaces_r h0_globalTypes_r h0_globalValues_r h0_globalCount h0_funs_r h0_funCount h0_open h0_signs h0_levels_r h0_now h0_known_r h0_knownCount h0_loops mad h0_madeLength mag h0_smalls_r h0_greats_r h0_module_r h0_spare_r mm h0_cursor h0_limit blk stk n12 hgt lab ous kis los h0_depth h0_function mem h0_pages glo val h0_valueTop ffu fre fba fla h0_frames lat lhe h0_labelTop h0_steps h0_there rsl h0_resultLength h0_reason h0_place arg h0_argumentCount h0_code rf rf_backtrace rf_detailMessage rf_cause rf_stackTrace rf_depth rf_suppressedExceptions n14 n13 stk cstk gstk hgt chgt ghgt los clos glos)) [0, 1, 2, 3, 4] rfl
            have hD9 := hD.sb (wq := (wz_338 h0 rf tap h0_taped h0_length h0_kind h0_from h0_to h0_word h0_numeral h0_globalNames_r h0_globalPlaces_r h0_globalTypes_r h0_globalValues_r h0_globalCount h0_funs_r h0_funCount h0_open h0_signs h0_levels_r h0_now h0_known_r h0_knownCount h0_loops mad h0_madeLength mag h0_smalls_r h0_greats_r h0_module_r h0_spare_r mm h0_cursor h0_limit blk stk n12 hgt lab ous kis los h0_depth h0_function mem h0_pages glo val h0_valueTop ffu fre fba fla h0_frames lat lhe h0_labelTop h0_steps h0_there rsl h0_resultLength h0_reason h0_place arg h0_argumentCount h0_code rf rf_backtrace rf_detailMessage rf_cause rf_stackTrace rf_depth rf_suppressedExceptions n14 n13 stk cstk gstk hgt chgt ghgt los clos glos)) [0, 1, 2, 3, 4] (by decide) rfl
            exact tz_leave rfl hno hlocks (fun t ht hW => ⟨⟨(gstk, n12, n13, n14), ⟨⟨bn12, trivial⟩, hxa, by rw [ht]; exact hXX.moved hW.alike⟩, va_P.he ht.symm hP9, va_K.moved hW.alike hK, hD9⟩, hS.F ht⟩) hS.2.2
          obtain ⟨n15, n16, n17⟩ := u
          try dsimp only at hw
          obtain ⟨bn15, xr11⟩ := hw
          try clear hw
          obtain ⟨b1, b2, b3⟩ := xr11
          replace b3 : bx _ := b3
          obtain ⟨hP1, hK1, hD1⟩ := hB
          replace hP1 := va_P.he ht hP1
          obtain ⟨hP, hD⟩ := va_join (wr := []) (w1 := (wz_338 h0 rf tap h0_taped h0_length h0_kind h0_from h0_to h0_word h0_numeral h0_globalNames_r h0_globalPlaces_r h0_globalTypes_r h0_globalValues_r h0_globalCount h0_funs_r h0_funCount h0_open h0_signs h0_levels_r h0_now h0_known_r h0_knownCount h0_loops mad h0_madeLength mag h0_smalls_r h0_greats_r h0_module_r h0_spare_r mm h0_cursor h0_limit blk stk n15 hgt lab ous kis los h0_depth h0_function mem h0_pages glo val h0_valueTop ffu fre fba fla h0_frames lat lhe h0_labelTop h0_steps h0_there rsl h0_resultLength h0_reason h0_place arg h0_argumentCount h0_code rf rf_backtrace rf_detailMessage rf_cause rf_stackTrace rf_depth rf_suppressedExceptions n17 n16 stk cstk gstk hgt chgt ghgt los clos glos)) hP hD [0, 1, 2, 3, 4] [] rfl rfl (by decide) (by decide) hk1 hFc hP1 hD1
          clear hPc hDc hKc hFc hz1 hk1 hP1 hK1 hD1
          rename Heap => H
          have hP : va_P (dC, dI) cls2 (wz_338 h0 rf tap h0_taped h0_length h0_kind h0_from h0_to h0_word h0_numeral h0_globalNames_r h0_globalPlaces_r h0_globalTypes_r h0_globalValues_r h0_globalCount h0_funs_r h0_funCount h0_open h0_signs h0_levels_r h0_now h0_known_r h0_knownCount h0_loops mad h0_madeLength mag h0_smalls_r h0_greats_r h0_module_r h0_spare_r mm h0_cursor h0_limit blk stk n15 hgt lab ous kis los h0_depth h0_function mem h0_pages glo val h0_valueTop ffu fre fba fla h0_frames lat lhe h0_labelTop h0_steps h0_there rsl h0_resultLength h0_reason h0_place arg h0_argumentCount h0_code rf rf_backtrace rf_detailMessage rf_cause rf_stackTrace rf_depth rf_suppressedExceptions n17 n16 stk cstk gstk hgt chgt ghgt los clos glos) H := hP
          have hD : va_D A (wz_338 h0 rf tap h0_taped h0_length h0_kind h0_from h0_to h0_word h0_numeral h0_globalNames_r h0_globalPlaces_r h0_globalTypes_r h0_globalValues_r h0_globalCount h0_funs_r h0_funCount h0_open h0_signs h0_levels_r h0_now h0_known_r h0_knownCount h0_loops mad h0_madeLength mag h0_smalls_r h0_greats_r h0_module_r h0_spare_r mm h0_cursor h0_limit blk stk n15 hgt lab ous kis los h0_depth h0_function mem h0_pages glo val h0_valueTop ffu fre fba fla h0_frames lat lhe h0_labelTop h0_steps h0_there rsl h0_resultLength h0_reason h0_place arg h0_argumentCount h0_code rf rf_backtrace rf_detailMessage rf_cause rf_stackTrace rf_depth rf_suppressedExceptions n17 n16 stk cstk gstk hgt chgt ghgt los clos glos) := hD
          refine lv_pop hx hb d_MD_validNumbers_131 rfl ?_
          refine lv_aload_n hx hb d_MD_validNumbers_132 rfl (lv_at hl 1 rfl) ?_
          refine lv_iload_n hx hb d_MD_validNumbers_133 rfl (lv_at hl 3 rfl) ?_
          have nz9 := nout_r p0.toInt
          have hPc := hP.sb (wq := (wz_337 h0 rf tap h0_taped h0_length h0_kind h0_from h0_to h0_word h0_numeral h0_globalNames_r h0_globalPlaces_r h0_globalTypes_r h0_globalValues_r h0_globalCount h0_funs_r h0_funCount h0_open h0_signs h0_levels_r h0_now h0_known_r h0_knownCount h0_loops mad h0_madeLength mag h0_smalls_r h0_greats_r h0_module_r h0_spare_r mm h0_cursor h0_limit blk stk n15 hgt lab ous kis los h0_depth h0_function mem h0_pages glo val h0_valueTop ffu fre fba fla h0_frames lat lhe h0_labelTop h0_steps h0_there rsl h0_resultLength h0_reason h0_place arg h0_argumentCount h0_code stk cstk gstk)) [0, 2] rfl
          have hDc := hD.sb (wq := (wz_337 h0 rf tap h0_taped h0_length h0_kind h0_from h0_to h0_word h0_numeral h0_globalNames_r h0_globalPlaces_r h0_globalTypes_r h0_globalValues_r h0_globalCount h0_funs_r h0_funCount h0_open h0_signs h0_levels_r h0_now h0_known_r h0_knownCount h0_loops mad h0_madeLength mag h0_smalls_r h0_greats_r h0_module_r h0_spare_r mm h0_cursor h0_limit blk stk n15 hgt lab ous kis los h0_depth h0_function mem h0_pages glo val h0_valueTop ffu fre fba fla h0_frames lat lhe h0_labelTop h0_steps h0_there rsl h0_resultLength h0_reason h0_place arg h0_argumentCount h0_code stk cstk gstk)) [0, 2] (by decide) rfl
          have hKc := hK.sb (tyq := [(cstk, .int)]) [0] rfl
          have hFc := va_free (wc := (wz_337 h0 rf tap h0_taped h0_length h0_kind h0_from h0_to h0_word h0_numeral h0_globalNames_r h0_globalPlaces_r h0_globalTypes_r h0_globalValues_r h0_globalCount h0_funs_r h0_funCount h0_open h0_signs h0_levels_r h0_now h0_known_r h0_knownCount h0_loops mad h0_madeLength mag h0_smalls_r h0_greats_r h0_module_r h0_spare_r mm h0_cursor h0_limit blk stk n15 hgt lab ous kis los h0_depth h0_function mem h0_pages glo val h0_valueTop ffu fre fba fla h0_frames lat lhe h0_labelTop h0_steps h0_there rsl h0_resultLength h0_reason h0_place arg h0_argumentCount h0_code stk cstk gstk)) hD hS hA [0, 2] rfl
          refine va_callv (va_runV (As := [.int j64_s0]) (rest := []) ⟨hx, hb, hml, hown, hts⟩ (c_MD_push l dC dI H.size h0 rf tap h0_globalNames_r h0_globalPlaces_r h0_globalTypes_r h0_globalValues_r h0_funs_r h0_levels_r h0_known_r mad mag h0_smalls_r h0_greats_r h0_module_r h0_spare_r mm blk stk hgt lab ous kis los mem glo val ffu fre fba fla lat lhe rsl arg cstk h0_taped h0_length h0_kind h0_from h0_to h0_word h0_numeral h0_globalCount h0_funCount h0_open h0_signs h0_now h0_knownCount h0_loops h0_madeLength h0_cursor h0_limit n15 h0_depth h0_function h0_pages h0_valueTop h0_frames h0_labelTop h0_steps h0_there h0_resultLength h0_reason h0_place h0_argumentCount h0_code gstk (bn15) j64_s0 (by (first | (apply Int.le_antisymm <;> omega) | omega))) (cwV 1 hts (gV kM_MD_678 kV_MD_push kS_MD_push kI_MD kC_MD_push) rfl rfl rfl (by decide +kernel) ⟨Nat.le_of_ble_eq_true rfl, Nat.le_of_ble_eq_true rfl⟩) ⟨fun a U g mk z => by obtain ⟨z0, z1, zP, zK, zD, zS⟩ := z; exact ⟨z0, z1, zP, va_K.moved (u := U) (U := U.calling g mk a) (Vm.Alike.refl U.vm) zK, zD, sw_nest.same (s := U) (U := U.calling g mk a) rfl zS⟩, va_recv hKc hPc (ci := 11) (q0 := 0) rfl rfl, fun U hU hW => ⟨rfl, by rw [hU], va_P.he hU.symm hPc, va_K.moved hW.alike hKc, hDc.weaken (fun _ _ _ _ => trivial), hSW.warm hW⟩⟩ rfl rfl hl.1 rfl (lv_room (Nat.le_of_ble_eq_true rfl)) d_MD_validNumbers_134 ⟨(Nat.zero_le _), (Nat.zero_le _)⟩) hS (fun q _ h => hFc q h) hFc (fun u t H1 locs ht hvm hw hB hz1 hk1 hS => ?_)
          obtain ⟨n19, n20⟩ := u
          try dsimp only at hw
          obtain ⟨bn20, xr18⟩ := hw
          try clear hw
          obtain ⟨pu1, pu2⟩ := xr18.2 (by (first | (apply Int.le_antisymm <;> omega) | omega))
          obtain ⟨hP1, hK1, hD1⟩ := hB
          replace hP1 := va_P.he ht hP1
          obtain ⟨hP, hD⟩ := va_join (wr := [(rf, .inr (15, [rf_backtrace, rf_detailMessage, rf_cause, rf_stackTrace, .int rf_depth, rf_suppressedExceptions, .int n17, .int n16])), (hgt, .inl (chgt, 102, .inl ghgt)), (los, .inl (clos, 102, .inl glos))]) (w1 := (wz_337 h0 rf tap h0_taped h0_length h0_kind h0_from h0_to h0_word h0_numeral h0_globalNames_r h0_globalPlaces_r h0_globalTypes_r h0_globalValues_r h0_globalCount h0_funs_r h0_funCount h0_open h0_signs h0_levels_r h0_now h0_known_r h0_knownCount h0_loops mad h0_madeLength mag h0_smalls_r h0_greats_r h0_module_r h0_spare_r mm h0_cursor h0_limit blk stk n20 hgt lab ous kis los h0_depth h0_function mem h0_pages glo val h0_valueTop ffu fre fba fla h0_frames lat lhe h0_labelTop h0_steps h0_there rsl h0_resultLength h0_reason h0_place arg h0_argumentCount h0_code stk cstk n19)) hP hD [0, 2] [1, 3, 4] rfl rfl (by decide) (by decide) hk1 hFc hP1 hD1
          clear hPc hDc hKc hFc hz1 hk1 hP1 hK1 hD1
          rename Heap => H
          have hP : va_P (dC, dI) cls2 (wz_391 rf rf_backtrace rf_detailMessage rf_cause rf_stackTrace rf_depth rf_suppressedExceptions n17 n16 hgt chgt ghgt los clos glos h0 rf tap h0_taped h0_length h0_kind h0_from h0_to h0_word h0_numeral h0_globalNames_r h0_globalPlaces_r h0_globalTypes_r h0_globalValues_r h0_globalCount h0_funs_r h0_funCount h0_open h0_signs h0_levels_r h0_now h0_known_r h0_knownCount h0_loops mad h0_madeLength mag h0_smalls_r h0_greats_r h0_module_r h0_spare_r mm h0_cursor h0_limit blk stk n20 hgt lab ous kis los h0_depth h0_function mem h0_pages glo val h0_valueTop ffu fre fba fla h0_frames lat lhe h0_labelTop h0_steps h0_there rsl h0_resultLength h0_reason h0_place arg h0_argumentCount h0_code stk cstk n19) H := hP
          have hD : va_D A (wz_391 rf rf_backtrace rf_detailMessage rf_cause rf_stackTrace rf_depth rf_suppressedExceptions n17 n16 hgt chgt ghgt los clos glos h0 rf tap h0_taped h0_length h0_kind h0_from h0_to h0_word h0_numeral h0_globalNames_r h0_globalPlaces_r h0_globalTypes_r h0_globalValues_r h0_globalCount h0_funs_r h0_funCount h0_open h0_signs h0_levels_r h0_now h0_known_r h0_knownCount h0_loops mad h0_madeLength mag h0_smalls_r h0_greats_r h0_module_r h0_spare_r mm h0_cursor h0_limit blk stk n20 hgt lab ous kis los h0_depth h0_function mem h0_pages glo val h0_valueTop ffu fre fba fla h0_frames lat lhe h0_labelTop h0_steps h0_there rsl h0_resultLength h0_reason h0_place arg h0_argumentCount h0_code stk cstk n19) := hD
          have hP9 := hP.sb (wq := (wz_338 h0 rf tap h0_taped h0_length h0_kind h0_from h0_to h0_word h0_numeral h0_globalNames_r h0_globalPlaces_r h0_globalTypes_r h0_globalValues_r h0_globalCount h0_funs_r h0_funCount h0_open h0_signs h0_levels_r h0_now h0_known_r h0_knownCount h0_loops mad h0_madeLength mag h0_smalls_r h0_greats_r h0_module_r h0_spare_r mm h0_cursor h0_limit blk stk n20 hgt lab ous kis los h0_depth h0_function mem h0_pages glo val h0_valueTop ffu fre fba fla h0_frames lat lhe h0_labelTop h0_steps h0_there rsl h0_resultLength h0_reason h0_place arg h0_argumentCount h0_code rf rf_backtrace rf_detailMessage rf_cause rf_stackTrace rf_depth rf_suppressedExceptions n17 n16 stk cstk n19 hgt chgt ghgt los clos glos)) [3, 0, 4, 1, 2] rfl
          have hD9 := hD.sb (wq := (wz_338 h0 rf tap h0_taped h0_length h0_kind h0_from h0_to h0_word h0_numeral h0_globalNames_r h0_globalPlaces_r h0_globalTypes_r h0_globalValues_r h0_globalCount h0_funs_r h0_funCount h0_open h0_signs h0_levels_r h0_now h0_known_r h0_knownCount h0_loops mad h0_madeLength mag h0_smalls_r h0_greats_r h0_module_r h0_spare_r mm h0_cursor h0_limit blk stk n20 hgt lab ous kis los h0_depth h0_function mem h0_pages glo val h0_valueTop ffu fre fba fla h0_frames lat lhe h0_labelTop h0_steps h0_there rsl h0_resultLength h0_reason h0_place arg h0_argumentCount h0_code rf rf_backtrace rf_detailMessage rf_cause rf_stackTrace rf_depth rf_suppressedExceptions n17 n16 stk cstk n19 hgt chgt ghgt los clos glos)) [3, 0, 4, 1, 2] (by decide) rfl
          exact tz_up (fun _ => rfl) (W.vret hx hb hr (fun t ht hW => ⟨⟨(n19, n20, n16, n17), ⟨rfl, ⟨bn20, (by have nr := nin_r p0.toInt; have sE : n19 = upd gstk (n20.toInt - 1).toNat j64_s0 := (by rw [pu2, show n15.toNatClampNeg = (n20.toInt - 1).toNat from (by have := i32_clamp (x := n15) (by (first | (apply Int.le_antisymm <;> omega) | omega)); (first | (apply Int.le_antisymm <;> omega) | omega))]); have o1 : h0_top.toInt ≠ (ghgt (h0_depth.toInt - 1).toNat).toInt → ((gstk (h0_top.toInt - 1).toNat).toInt = nin p0.toInt ∨ (gstk (h0_top.toInt - 1).toNat).toInt = -1) := (fun z => by have q := (a3.out z).1; (first | (apply Int.le_antisymm <;> omega) | omega)); have o2 : h0_top.toInt ≠ (ghgt (h0_depth.toInt - 1).toNat).toInt → n5.toInt ≠ (ghgt (h0_depth.toInt - 1).toNat).toInt → ((gstk (h0_top.toInt - 2).toNat).toInt = nin p0.toInt ∨ (gstk (h0_top.toInt - 2).toNat).toInt = -1) := (fun z1 z2 => by have q := (b3.out z2).1; rw [show (n5.toInt - 1).toNat = (h0_top.toInt - 2).toNat from by (first | (apply Int.le_antisymm <;> omega) | omega)] at q; (first | (apply Int.le_antisymm <;> omega) | omega)); refine ⟨⟨by (first | (apply Int.le_antisymm <;> omega) | omega), by (first | (apply Int.le_antisymm <;> omega) | omega)⟩, fun z => ⟨fun y => ?_, fun y => ?_⟩, ⟨j64_s0, y64, sE⟩, fun k hk => by rw [sE]; exact pk_un (by (first | (apply Int.le_antisymm <;> omega) | omega))⟩; (exact absurd y (y113.2 (by (first | (apply Int.le_antisymm <;> omega) | omega)))); (have n1 : h0_top.toInt ≠ (ghgt (h0_depth.toInt - 1).toNat).toInt := (fun e => by have := (a1 e).2; (first | (apply Int.le_antisymm <;> omega) | omega)); have n2 : n5.toInt ≠ (ghgt (h0_depth.toInt - 1).toNat).toInt := (fun e => by have := (b1 e).2; (first | (apply Int.le_antisymm <;> omega) | omega)); exact ⟨by (first | (apply Int.le_antisymm <;> omega) | omega), by (first | (apply Int.le_antisymm <;> omega) | omega), o1 n1, o2 n1 n2⟩))⟩⟩, va_P.he ht.symm hP9, va_K.moved hW.alike hK, hD9⟩, hS.F ht⟩) hS.2.2 d_MD_validNumbers_137)
      · skip
        refine w_cut (pc2 := 108) (σ := Unit) (fun u H locs ls => match u with | _ => (sgl p0.toInt) ∧ va_P (dC, dI) cls2 (wz_338 h0 rf tap h0_taped h0_length h0_kind h0_from h0_to h0_word h0_numeral h0_globalNames_r h0_globalPlaces_r h0_globalTypes_r h0_globalValues_r h0_globalCount h0_funs_r h0_funCount h0_open h0_signs h0_levels_r h0_now h0_known_r h0_knownCount h0_loops mad h0_madeLength mag h0_smalls_r h0_greats_r h0_module_r h0_spare_r mm h0_cursor h0_limit blk stk h0_top hgt lab ous kis los h0_depth h0_function mem h0_pages glo val h0_valueTop ffu fre fba fla h0_frames lat lhe h0_labelTop h0_steps h0_there rsl h0_resultLength h0_reason h0_place arg h0_argumentCount h0_code rf rf_backtrace rf_detailMessage rf_cause rf_stackTrace rf_depth rf_suppressedExceptions rf_reason rf_place stk cstk gstk hgt chgt ghgt los clos glos) H ∧ va_D A (wz_338 h0 rf tap h0_taped h0_length h0_kind h0_from h0_to h0_word h0_numeral h0_globalNames_r h0_globalPlaces_r h0_globalTypes_r h0_globalValues_r h0_globalCount h0_funs_r h0_funCount h0_open h0_signs h0_levels_r h0_now h0_known_r h0_knownCount h0_loops mad h0_madeLength mag h0_smalls_r h0_greats_r h0_module_r h0_spare_r mm h0_cursor h0_limit blk stk h0_top hgt lab ous kis los h0_depth h0_function mem h0_pages glo val h0_valueTop ffu fre fba fla h0_frames lat lhe h0_labelTop h0_steps h0_there rsl h0_resultLength h0_reason h0_place arg h0_argumentCount h0_code rf rf_backtrace rf_detailMessage rf_cause rf_stackTrace rf_depth rf_suppressedExceptions rf_reason rf_place stk cstk gstk hgt chgt ghgt los clos glos) ∧ va_S A s.heap H locs ∧ lv_has ls 5 [(0, .ref h0), (2, .int j32_s0), (3, .int j64_s0)]) (fun u => match u with | _ => []) ?_ (fun jn108 => ?_)
        · intro u H locs ls hI
          obtain ⟨y108, hP, hD, hS, hl⟩ := hI
          refine lv_iconst (v := 1) hx hb d_MD_validNumbers_108 (by decide) ?_
          refine lv_goto (tgt := 113) hx hb d_MD_validNumbers_109 (by decide) ?_
          exact jn113 1 _ _ _ ⟨Or.inr rfl, ⟨fun _ => y108, fun z => absurd z (by decide)⟩, hP, hD, hS, lv_sub hl [0, 1, 2] rfl⟩
        · skip
          refine lv_icmp_eq (tgt := 108) hx hb d_MD_validNumbers_68 (by decide) (fun c68 => ?_) (fun c68 => ?_)
          · have q68 := eqI c68
            exact jn108 () _ _ _ ⟨(by unfold sgl; (first | (apply Int.le_antisymm <;> omega) | omega)), hP, hD, hS, lv_sub hl [1, 3, 0] rfl⟩
          · have q68 := neI c68
            refine lv_iload_n hx hb d_MD_validNumbers_71 rfl (lv_at hl 2 rfl) ?_
            refine lv_bipush (v := 80) hx hb d_MD_validNumbers_72 (by decide) ?_
            refine lv_icmp_eq (tgt := 108) hx hb d_MD_validNumbers_74 (by decide) (fun c74 => ?_) (fun c74 => ?_)
            · have q74 := eqI c74
              exact jn108 () _ _ _ ⟨(by unfold sgl; (first | (apply Int.le_antisymm <;> omega) | omega)), hP, hD, hS, lv_sub hl [1, 3, 0] rfl⟩
            · have q74 := neI c74
              refine lv_iload_n hx hb d_MD_validNumbers_77 rfl (lv_at hl 2 rfl) ?_
              refine lv_bipush (v := 103) hx hb d_MD_validNumbers_78 (by decide) ?_
              refine w_cut (pc2 := 89) (σ := Unit) (fun u H locs ls => match u with | _ => (p0.toInt < 103 ∨ 105 < p0.toInt) ∧ va_P (dC, dI) cls2 (wz_338 h0 rf tap h0_taped h0_length h0_kind h0_from h0_to h0_word h0_numeral h0_globalNames_r h0_globalPlaces_r h0_globalTypes_r h0_globalValues_r h0_globalCount h0_funs_r h0_funCount h0_open h0_signs h0_levels_r h0_now h0_known_r h0_knownCount h0_loops mad h0_madeLength mag h0_smalls_r h0_greats_r h0_module_r h0_spare_r mm h0_cursor h0_limit blk stk h0_top hgt lab ous kis los h0_depth h0_function mem h0_pages glo val h0_valueTop ffu fre fba fla h0_frames lat lhe h0_labelTop h0_steps h0_there rsl h0_resultLength h0_reason h0_place arg h0_argumentCount h0_code rf rf_backtrace rf_detailMessage rf_cause rf_stackTrace rf_depth rf_suppressedExceptions rf_reason rf_place stk cstk gstk hgt chgt ghgt los clos glos) H ∧ va_D A (wz_338 h0 rf tap h0_taped h0_length h0_kind h0_from h0_to h0_word h0_numeral h0_globalNames_r h0_globalPlaces_r h0_globalTypes_r h0_globalValues_r h0_globalCount h0_funs_r h0_funCount h0_open h0_signs h0_levels_r h0_now h0_known_r h0_knownCount h0_loops mad h0_madeLength mag h0_smalls_r h0_greats_r h0_module_r h0_spare_r mm h0_cursor h0_limit blk stk h0_top hgt lab ous kis los h0_depth h0_function mem h0_pages glo val h0_valueTop ffu fre fba fla h0_frames lat lhe h0_labelTop h0_steps h0_there rsl h0_resultLength h0_reason h0_place arg h0_argumentCount h0_code rf rf_backtrace rf_detailMessage rf_cause rf_stackTrace rf_depth rf_suppressedExceptions rf_reason rf_place stk cstk gstk hgt chgt ghgt los clos glos) ∧ va_S A s.heap H locs ∧ lv_has ls 5 [(0, .ref h0), (1, .int p0), (2, .int j32_s0), (3, .int j64_s0)]) (fun u => match u with | _ => []) ?_ (fun jn89 => ?_)
              · intro u H locs ls hI
                obtain ⟨y89, hP, hD, hS, hl⟩ := hI
                refine lv_iload_n hx hb d_MD_validNumbers_89 rfl (lv_at hl 1 rfl) ?_
                refine lv_bipush (v := 121) hx hb d_MD_validNumbers_90 (by decide) ?_
                refine w_cut (pc2 := 101) (σ := Unit) (fun u H locs ls => match u with | _ => (p0.toInt < 121 ∨ 123 < p0.toInt) ∧ va_P (dC, dI) cls2 (wz_338 h0 rf tap h0_taped h0_length h0_kind h0_from h0_to h0_word h0_numeral h0_globalNames_r h0_globalPlaces_r h0_globalTypes_r h0_globalValues_r h0_globalCount h0_funs_r h0_funCount h0_open h0_signs h0_levels_r h0_now h0_known_r h0_knownCount h0_loops mad h0_madeLength mag h0_smalls_r h0_greats_r h0_module_r h0_spare_r mm h0_cursor h0_limit blk stk h0_top hgt lab ous kis los h0_depth h0_function mem h0_pages glo val h0_valueTop ffu fre fba fla h0_frames lat lhe h0_labelTop h0_steps h0_there rsl h0_resultLength h0_reason h0_place arg h0_argumentCount h0_code rf rf_backtrace rf_detailMessage rf_cause rf_stackTrace rf_depth rf_suppressedExceptions rf_reason rf_place stk cstk gstk hgt chgt ghgt los clos glos) H ∧ va_D A (wz_338 h0 rf tap h0_taped h0_length h0_kind h0_from h0_to h0_word h0_numeral h0_globalNames_r h0_globalPlaces_r h0_globalTypes_r h0_globalValues_r h0_globalCount h0_funs_r h0_funCount h0_open h0_signs h0_levels_r h0_now h0_known_r h0_knownCount h0_loops mad h0_madeLength mag h0_smalls_r h0_greats_r h0_module_r h0_spare_r mm h0_cursor h0_limit blk stk h0_top hgt lab ous kis los h0_depth h0_function mem h0_pages glo val h0_valueTop ffu fre fba fla h0_frames lat lhe h0_labelTop h0_steps h0_there rsl h0_resultLength h0_reason h0_place arg h0_argumentCount h0_code rf rf_backtrace rf_detailMessage rf_cause rf_stackTrace rf_depth rf_suppressedExceptions rf_reason rf_place stk cstk gstk hgt chgt ghgt los clos glos) ∧ va_S A s.heap H locs ∧ lv_has ls 5 [(0, .ref h0), (1, .int p0), (2, .int j32_s0), (3, .int j64_s0)]) (fun u => match u with | _ => []) ?_ (fun jn101 => ?_)
                · intro u H locs ls hI
                  obtain ⟨y101, hP, hD, hS, hl⟩ := hI
                  refine lv_iload_n hx hb d_MD_validNumbers_101 rfl (lv_at hl 1 rfl) ?_
                  refine lv_sipush (v := 167) hx hb d_MD_validNumbers_102 (by decide) ?_
                  refine lv_icmp_lt (tgt := 112) hx hb d_MD_validNumbers_105 (by decide) (fun c105 => ?_) (fun c105 => ?_)
                  · have q105 := ltI c105
                    refine lv_iconst (v := 0) hx hb d_MD_validNumbers_112 (by decide) ?_
                    exact jn113 0 _ _ _ ⟨Or.inl rfl, ⟨fun z => absurd z (by decide), fun _ => by unfold sgl; (first | (apply Int.le_antisymm <;> omega) | omega)⟩, hP, hD, hS, lv_sub hl [0, 2, 3] rfl⟩
                  · have q105 := nltI c105
                    exact jn108 () _ _ _ ⟨(by unfold sgl; (first | (apply Int.le_antisymm <;> omega) | omega)), hP, hD, hS, lv_sub hl [0, 2, 3] rfl⟩
                · skip
                  refine lv_icmp_lt (tgt := 101) hx hb d_MD_validNumbers_92 (by decide) (fun c92 => ?_) (fun c92 => ?_)
                  · have q92 := ltI c92
                    exact jn101 () _ _ _ ⟨by (try dsimp only) <;> (first | (apply Int.le_antisymm <;> omega) | omega), hP, hD, hS, lv_sub hl [0, 1, 2, 3] rfl⟩
                  · have q92 := nltI c92
                    refine lv_iload_n hx hb d_MD_validNumbers_95 rfl (lv_at hl 1 rfl) ?_
                    refine lv_bipush (v := 123) hx hb d_MD_validNumbers_96 (by decide) ?_
                    refine lv_icmp_le (tgt := 108) hx hb d_MD_validNumbers_98 (by decide) (fun c98 => ?_) (fun c98 => ?_)
                    · have q98 := leI c98
                      exact jn108 () _ _ _ ⟨(by unfold sgl; (first | (apply Int.le_antisymm <;> omega) | omega)), hP, hD, hS, lv_sub hl [0, 2, 3] rfl⟩
                    · have q98 := nleI c98
                      exact jn101 () _ _ _ ⟨by (try dsimp only) <;> (first | (apply Int.le_antisymm <;> omega) | omega), hP, hD, hS, lv_sub hl [0, 1, 2, 3] rfl⟩
              · skip
                refine lv_icmp_lt (tgt := 89) hx hb d_MD_validNumbers_80 (by decide) (fun c80 => ?_) (fun c80 => ?_)
                · have q80 := ltI c80
                  exact jn89 () _ _ _ ⟨by (try dsimp only) <;> (first | (apply Int.le_antisymm <;> omega) | omega), hP, hD, hS, lv_sub hl [1, 2, 3, 0] rfl⟩
                · have q80 := nltI c80
                  refine lv_iload_n hx hb d_MD_validNumbers_83 rfl (lv_at hl 2 rfl) ?_
                  refine lv_bipush (v := 105) hx hb d_MD_validNumbers_84 (by decide) ?_
                  refine lv_icmp_le (tgt := 108) hx hb d_MD_validNumbers_86 (by decide) (fun c86 => ?_) (fun c86 => ?_)
                  · have q86 := leI c86
                    exact jn108 () _ _ _ ⟨(by unfold sgl; (first | (apply Int.le_antisymm <;> omega) | omega)), hP, hD, hS, lv_sub hl [1, 3, 0] rfl⟩
                  · have q86 := nleI c86
                    exact jn89 () _ _ _ ⟨by (try dsimp only) <;> (first | (apply Int.le_antisymm <;> omega) | omega), hP, hD, hS, lv_sub hl [1, 2, 3, 0] rfl⟩
    · skip
      refine w_cut (pc2 := 46) (σ := Unit) (fun u H locs ls => match u with | _ => (nout p0.toInt = 127) ∧ va_P (dC, dI) cls2 (wz_338 h0 rf tap h0_taped h0_length h0_kind h0_from h0_to h0_word h0_numeral h0_globalNames_r h0_globalPlaces_r h0_globalTypes_r h0_globalValues_r h0_globalCount h0_funs_r h0_funCount h0_open h0_signs h0_levels_r h0_now h0_known_r h0_knownCount h0_loops mad h0_madeLength mag h0_smalls_r h0_greats_r h0_module_r h0_spare_r mm h0_cursor h0_limit blk stk h0_top hgt lab ous kis los h0_depth h0_function mem h0_pages glo val h0_valueTop ffu fre fba fla h0_frames lat lhe h0_labelTop h0_steps h0_there rsl h0_resultLength h0_reason h0_place arg h0_argumentCount h0_code rf rf_backtrace rf_detailMessage rf_cause rf_stackTrace rf_depth rf_suppressedExceptions rf_reason rf_place stk cstk gstk hgt chgt ghgt los clos glos) H ∧ va_D A (wz_338 h0 rf tap h0_taped h0_length h0_kind h0_from h0_to h0_word h0_numeral h0_globalNames_r h0_globalPlaces_r h0_globalTypes_r h0_globalValues_r h0_globalCount h0_funs_r h0_funCount h0_open h0_signs h0_levels_r h0_now h0_known_r h0_knownCount h0_loops mad h0_madeLength mag h0_smalls_r h0_greats_r h0_module_r h0_spare_r mm h0_cursor h0_limit blk stk h0_top hgt lab ous kis los h0_depth h0_function mem h0_pages glo val h0_valueTop ffu fre fba fla h0_frames lat lhe h0_labelTop h0_steps h0_there rsl h0_resultLength h0_reason h0_place arg h0_argumentCount h0_code rf rf_backtrace rf_detailMessage rf_cause rf_stackTrace rf_depth rf_suppressedExceptions rf_reason rf_place stk cstk gstk hgt chgt ghgt los clos glos) ∧ va_S A s.heap H locs ∧ lv_has ls 5 [(0, .ref h0), (1, .int p0), (2, .int j32_s0)]) (fun u => match u with | _ => []) ?_ (fun jn46 => ?_)
      · intro u H locs ls hI
        obtain ⟨y46, hP, hD, hS, hl⟩ := hI
        refine lv_bipush (v := 127) hx hb d_MD_validNumbers_46 (by decide) ?_
        refine lv_goto (tgt := 64) hx hb d_MD_validNumbers_48 (by decide) ?_
        exact jn64 127 _ _ _ ⟨(by rw [y46]; decide), hP, hD, hS, lv_sub hl [0, 1, 2] rfl⟩
      · skip
        refine lv_icmp_le (tgt := 46) hx hb d_MD_validNumbers_36 (by decide) (fun c36 => ?_) (fun c36 => ?_)
        · have q36 := leI c36
          exact jn46 () _ _ _ ⟨(by unfold nout; rw [if_pos (by (first | (apply Int.le_antisymm <;> omega) | omega))]), hP, hD, hS, lv_sub hl [1, 2, 0] rfl⟩
        · have q36 := nleI c36
          refine lv_iload_n hx hb d_MD_validNumbers_39 rfl (lv_at hl 2 rfl) ?_
          refine lv_sipush (v := 167) hx hb d_MD_validNumbers_40 (by decide) ?_
          refine lv_icmp_ne (tgt := 51) hx hb d_MD_validNumbers_43 (by decide) (fun c43 => ?_) (fun c43 => ?_)
          · have q43 := neI c43
            refine lv_iload_n hx hb d_MD_validNumbers_51 rfl (lv_at hl 2 rfl) ?_
            refine lv_sipush (v := 172) hx hb d_MD_validNumbers_52 (by decide) ?_
            refine lv_icmp_lt (tgt := 63) hx hb d_MD_validNumbers_55 (by decide) (fun c55 => ?_) (fun c55 => ?_)
            · have q55 := ltI c55
              refine lv_iload_n hx hb d_MD_validNumbers_63 rfl (lv_at hl 0 rfl) ?_
              exact jn64 j32_s0 _ _ _ ⟨(by unfold nout; rw [if_neg (by (first | (apply Int.le_antisymm <;> omega) | omega)), if_neg (by (first | (apply Int.le_antisymm <;> omega) | omega))]; exact y32), hP, hD, hS, lv_sub hl [1, 2, 0] rfl⟩
            · have q55 := nltI c55
              refine lv_bipush (v := 126) hx hb d_MD_validNumbers_58 (by decide) ?_
              refine lv_goto (tgt := 64) hx hb d_MD_validNumbers_60 (by decide) ?_
              exact jn64 126 _ _ _ ⟨(by unfold nout; rw [if_neg (by (first | (apply Int.le_antisymm <;> omega) | omega)), if_pos (by (first | (apply Int.le_antisymm <;> omega) | omega))]; decide), hP, hD, hS, lv_sub hl [1, 2, 0] rfl⟩
          · have q43 := eqI c43
            exact jn46 () _ _ _ ⟨(by unfold nout; rw [if_pos (by (first | (apply Int.le_antisymm <;> omega) | omega))]), hP, hD, hS, lv_sub hl [1, 2, 0] rfl⟩
  · skip
    refine w_cut (pc2 := 25) (σ := Unit) (fun u H locs ls => match u with | _ => (nin p0.toInt = 127) ∧ va_P (dC, dI) cls2 (wz_338 h0 rf tap h0_taped h0_length h0_kind h0_from h0_to h0_word h0_numeral h0_globalNames_r h0_globalPlaces_r h0_globalTypes_r h0_globalValues_r h0_globalCount h0_funs_r h0_funCount h0_open h0_signs h0_levels_r h0_now h0_known_r h0_knownCount h0_loops mad h0_madeLength mag h0_smalls_r h0_greats_r h0_module_r h0_spare_r mm h0_cursor h0_limit blk stk h0_top hgt lab ous kis los h0_depth h0_function mem h0_pages glo val h0_valueTop ffu fre fba fla h0_frames lat lhe h0_labelTop h0_steps h0_there rsl h0_resultLength h0_reason h0_place arg h0_argumentCount h0_code rf rf_backtrace rf_detailMessage rf_cause rf_stackTrace rf_depth rf_suppressedExceptions rf_reason rf_place stk cstk gstk hgt chgt ghgt los clos glos) H ∧ va_D A (wz_338 h0 rf tap h0_taped h0_length h0_kind h0_from h0_to h0_word h0_numeral h0_globalNames_r h0_globalPlaces_r h0_globalTypes_r h0_globalValues_r h0_globalCount h0_funs_r h0_funCount h0_open h0_signs h0_levels_r h0_now h0_known_r h0_knownCount h0_loops mad h0_madeLength mag h0_smalls_r h0_greats_r h0_module_r h0_spare_r mm h0_cursor h0_limit blk stk h0_top hgt lab ous kis los h0_depth h0_function mem h0_pages glo val h0_valueTop ffu fre fba fla h0_frames lat lhe h0_labelTop h0_steps h0_there rsl h0_resultLength h0_reason h0_place arg h0_argumentCount h0_code rf rf_backtrace rf_detailMessage rf_cause rf_stackTrace rf_depth rf_suppressedExceptions rf_reason rf_place stk cstk gstk hgt chgt ghgt los clos glos) ∧ va_S A s.heap H locs ∧ lv_has ls 5 [(0, .ref h0), (1, .int p0)]) (fun u => match u with | _ => []) ?_ (fun jn25 => ?_)
    · intro u H locs ls hI
      obtain ⟨y25, hP, hD, hS, hl⟩ := hI
      refine lv_bipush (v := 127) hx hb d_MD_validNumbers_25 (by decide) ?_
      refine lv_goto (tgt := 32) hx hb d_MD_validNumbers_27 (by decide) ?_
      exact jn32 127 _ _ _ ⟨(by rw [y25]; decide), hP, hD, hS, lv_sub hl [0, 1] rfl⟩
    · skip
      refine lv_icmp_le (tgt := 25) hx hb d_MD_validNumbers_3 (by decide) (fun c3 => ?_) (fun c3 => ?_)
      · have q3 := leI c3
        exact jn25 () _ _ _ ⟨(by unfold nin; rw [if_pos (by (first | (apply Int.le_antisymm <;> omega) | omega))]), hP, hD, hS, lv_sub hl [0, 1] rfl⟩
      · have q3 := nleI c3
        refine lv_iload_n hx hb d_MD_validNumbers_6 rfl (lv_at hl 1 rfl) ?_
        refine lv_bipush (v := 103) hx hb d_MD_validNumbers_7 (by decide) ?_
        refine w_cut (pc2 := 18) (σ := Unit) (fun u H locs ls => match u with | _ => (79 < p0.toInt ∧ (p0.toInt < 103 ∨ 120 < p0.toInt)) ∧ va_P (dC, dI) cls2 (wz_338 h0 rf tap h0_taped h0_length h0_kind h0_from h0_to h0_word h0_numeral h0_globalNames_r h0_globalPlaces_r h0_globalTypes_r h0_globalValues_r h0_globalCount h0_funs_r h0_funCount h0_open h0_signs h0_levels_r h0_now h0_known_r h0_knownCount h0_loops mad h0_madeLength mag h0_smalls_r h0_greats_r h0_module_r h0_spare_r mm h0_cursor h0_limit blk stk h0_top hgt lab ous kis los h0_depth h0_function mem h0_pages glo val h0_valueTop ffu fre fba fla h0_frames lat lhe h0_labelTop h0_steps h0_there rsl h0_resultLength h0_reason h0_place arg h0_argumentCount h0_code rf rf_backtrace rf_detailMessage rf_cause rf_stackTrace rf_depth rf_suppressedExceptions rf_reason rf_place stk cstk gstk hgt chgt ghgt los clos glos) H ∧ va_D A (wz_338 h0 rf tap h0_taped h0_length h0_kind h0_from h0_to h0_word h0_numeral h0_globalNames_r h0_globalPlaces_r h0_globalTypes_r h0_globalValues_r h0_globalCount h0_funs_r h0_funCount h0_open h0_signs h0_levels_r h0_now h0_known_r h0_knownCount h0_loops mad h0_madeLength mag h0_smalls_r h0_greats_r h0_module_r h0_spare_r mm h0_cursor h0_limit blk stk h0_top hgt lab ous kis los h0_depth h0_function mem h0_pages glo val h0_valueTop ffu fre fba fla h0_frames lat lhe h0_labelTop h0_steps h0_there rsl h0_resultLength h0_reason h0_place arg h0_argumentCount h0_code rf rf_backtrace rf_detailMessage rf_cause rf_stackTrace rf_depth rf_suppressedExceptions rf_reason rf_place stk cstk gstk hgt chgt ghgt los clos glos) ∧ va_S A s.heap H locs ∧ lv_has ls 5 [(0, .ref h0), (1, .int p0)]) (fun u => match u with | _ => []) ?_ (fun jn18 => ?_)
        · intro u H locs ls hI
          obtain ⟨y18, hP, hD, hS, hl⟩ := hI
          refine lv_iload_n hx hb d_MD_validNumbers_18 rfl (lv_at hl 1 rfl) ?_
          refine lv_sipush (v := 172) hx hb d_MD_validNumbers_19 (by decide) ?_
          refine lv_icmp_lt (tgt := 30) hx hb d_MD_validNumbers_22 (by decide) (fun c22 => ?_) (fun c22 => ?_)
          · have q22 := ltI c22
            refine lv_bipush (v := 126) hx hb d_MD_validNumbers_30 (by decide) ?_
            exact jn32 126 _ _ _ ⟨(by unfold nin; rw [if_neg (by (first | (apply Int.le_antisymm <;> omega) | omega))]; decide), hP, hD, hS, lv_sub hl [0, 1] rfl⟩
          · have q22 := nltI c22
            exact jn25 () _ _ _ ⟨(by unfold nin; rw [if_pos (by (first | (apply Int.le_antisymm <;> omega) | omega))]), hP, hD, hS, lv_sub hl [0, 1] rfl⟩
        · skip
          refine lv_icmp_lt (tgt := 18) hx hb d_MD_validNumbers_9 (by decide) (fun c9 => ?_) (fun c9 => ?_)
          · have q9 := ltI c9
            exact jn18 () _ _ _ ⟨by (try dsimp only) <;> (first | (apply Int.le_antisymm <;> omega) | omega), hP, hD, hS, lv_sub hl [0, 1] rfl⟩
          · have q9 := nltI c9
            refine lv_iload_n hx hb d_MD_validNumbers_12 rfl (lv_at hl 1 rfl) ?_
            refine lv_bipush (v := 120) hx hb d_MD_validNumbers_13 (by decide) ?_
            refine lv_icmp_le (tgt := 25) hx hb d_MD_validNumbers_15 (by decide) (fun c15 => ?_) (fun c15 => ?_)
            · have q15 := leI c15
              exact jn25 () _ _ _ ⟨(by unfold nin; rw [if_pos (by (first | (apply Int.le_antisymm <;> omega) | omega))]), hP, hD, hS, lv_sub hl [0, 1] rfl⟩
            · have q15 := nleI c15
              exact jn18 () _ _ _ ⟨by (try dsimp only) <;> (first | (apply Int.le_antisymm <;> omega) | omega), hP, hD, hS, lv_sub hl [0, 1] rfl⟩
end q_m24
section q_m25
/-! the reference: types on the stack, beside the heights of part 24 -/
def pn (o : Int) : Int := if o = 63 ∨ o = 65 ∨ o = 66 then 0 else if o = 40 ∨ o = 41 ∨ o = 44 ∨ o = 45 ∨ o = 64 ∨ o = 69 ∨ o = 80 ∨ (103 ≤ o ∧ o ≤ 105) ∨ (121 ≤ o ∧ o ≤ 123) ∨ 167 ≤ o then 1 else 2
def pm (o : Int) : Int := if o = 54 ∨ o = 55 ∨ o = 58 then 0 else 1
def pout (o : Int) : Int := if o = 41 ∨ o = 66 then 126 else if o ≤ 66 then 127 else nout o
def opl (o : Int) : Prop := o = 40 ∨ o = 41 ∨ o = 44 ∨ o = 45 ∨ o = 54 ∨ o = 55 ∨ o = 58 ∨ o = 63 ∨ o = 64 ∨ o = 65 ∨ o = 66 ∨ (69 ≤ o ∧ o ≤ 90) ∨ (103 ≤ o ∧ o ≤ 138) ∨ o = 167 ∨ o = 172 ∨ o = 173
/-- a label that carries finds what it carries -/
def crr (B : List vt) (l hb h : Int) (T : Nat → Int) : Prop := ∃ x : vt, B[l.toNat]? = some x ∧ (x.1 ≠ 3 → x.2.1 ≠ 64 → hb + 1 ≤ h ∧ (x.2.1 = 127 → T (h - 1).toNat ≠ 126))
def sgt (T T2 : Nat → Int) (n : Int) : Prop := ∀ k : Nat, (k : Int) < n → T2 k = T k
/-- whoever is told to be an i32 after was so before -/
def tle (T T2 : Nat → Int) (n : Int) : Prop := ∀ k : Nat, (k : Int) < n → T2 k ≠ 126 → T k ≠ 126
def vtd (lt : Nat → Nat → Int) (rt tk gt : Nat → Int) (f : Nat) (op v ln : Int) (lbs : Nat → Int) (B : List vt) (g hb h : Int) (n : Nat) (T T2 : Nat → Int) : Prop :=
  (op = 1 ∨ op = 2 ∨ op = 3 → sgt T T2 h) ∧ (op = 4 → sgt T T2 (h - 1)) ∧
  (op = 5 ∨ op = 11 → g ≠ 64 → hb + 1 ≤ h ∧ (g = 127 → T (h - 1).toNat ≠ 126)) ∧
  (op = 12 → crr B v hb h T) ∧ (op = 13 → crr B v hb (h - 1) T ∧ tle T T2 (h - 1)) ∧
  (op = 14 → ∀ k : Nat, (k : Int) ≤ ln → crr B (lbs k) hb (h - 1) T) ∧ (op = 15 → crr B n hb h T) ∧
  (op = 16 → sgt T T2 (h - tk v.toNat) ∧ (∀ k : Nat, (k : Int) < tk v.toNat → lt v.toNat k = 127 → T (h - tk v.toNat + k).toNat ≠ 126) ∧ (rt v.toNat ≠ 0 → T2 (h - tk v.toNat).toNat = rt v.toNat)) ∧
  (op = 26 → sgt T T2 (h - 1)) ∧ (op = 27 → sgt T T2 (h - 3) ∧ (T2 (h - 3).toNat ≠ 126 → T (h - 3).toNat ≠ 126 ∧ T (h - 2).toNat ≠ 126)) ∧
  (op = 32 → sgt T T2 h ∧ T2 h.toNat = lt f v.toNat) ∧ (op = 33 → sgt T T2 (h - 1) ∧ (lt f v.toNat = 127 → T (h - 1).toNat ≠ 126)) ∧
  (op = 34 → sgt T T2 (h - 1) ∧ (T2 (h - 1).toNat ≠ 126 → T (h - 1).toNat ≠ 126) ∧ (lt f v.toNat = 127 → T (h - 1).toNat ≠ 126)) ∧
  (op = 35 → sgt T T2 h ∧ T2 h.toNat = gt v.toNat) ∧ (op = 36 → sgt T T2 (h - 1) ∧ (gt v.toNat = 127 → T (h - 1).toNat ≠ 126)) ∧
  (opl op → sgt T T2 (h - pn op) ∧ (pm op = 1 → T2 (h - pn op).toNat = pout op) ∧ (69 ≤ op → sm32 op → T (h - 1).toNat ≠ 126))
def vty (lt : Nat → Nat → Int) (rt tk gt : Nat → Int) (f : Nat) (op v ln : Int) (lbs : Nat → Int) (B : List vt) (h : Int) (T T2 : Nat → Int) : Prop :=
  ∃ (o g hb d : Int) (R : List vt), B = (o, g, hb, d) :: R ∧ sgt T T2 hb ∧ (∀ x ∈ B, x.2.2.1 ≤ hb) ∧
  (∃ x : vt, B[R.length]? = some x ∧ x.1 ≠ 3 ∧ (rt f ≠ 0 → x.2.1 ≠ 64) ∧ (rt f = 127 → x.2.1 = 127)) ∧
  (op = 11 → R ≠ [] → g ≠ 64 → T2 hb.toNat = g) ∧ (d = 0 → vtd lt rt tk gt f op v ln lbs B g hb h R.length T T2)
def mr_lab (an : mc_A) (T : Nat → Nat → Int) (rtf : Int) (gop gpt : Nat → Int32) (gva : Nat → Int64) (f : Nat) (bs : List (Nat × Int)) (i : Nat) (h l : Int) : Prop :=
  0 ≤ l ∧ l ≤ bs.length ∧ (l = bs.length → rtf ≠ 0 → 1 ≤ h ∧ (rtf = 127 → T i (h - 1).toNat ≠ 126)) ∧
  ∀ (n : Nat) (b : Nat × Int), (n : Int) = l → bs[n]? = some b → ((gop b.1).toInt = 3 → an (b.1 + 1) = some (f, bs.drop n, b.2) ∧ b.2 ≤ h ∧ tle (T i) (T (b.1 + 1)) b.2) ∧
    ((gop b.1).toInt ≠ 3 → an ((gpt b.1).toNatClampNeg + 1) = some (f, bs.drop (n + 1), b.2 + ga (gva b.1).toInt) ∧ b.2 ≤ h ∧ tle (T i) (T ((gpt b.1).toNatClampNeg + 1)) b.2 ∧ ((gva b.1).toInt ≠ 64 → b.2 + 1 ≤ h ∧ (T ((gpt b.1).toNatClampNeg + 1) b.2.toNat ≠ 126 → T i (h - 1).toNat ≠ 126)))
def mr_at (an : mc_A) (T : Nat → Nat → Int) (lt : Nat → Nat → Int) (rt nl gv tk gt : Nat → Int) (fc gc : Int) (gop gpt gel gla : Nat → Int32) (gva : Nat → Int64) (i f : Nat) (bs : List (Nat × Int)) (h : Int) : Prop :=
  ((gop i).toInt = 1 → an (i + 1) = some (f, bs, h) ∧ tle (T i) (T (i + 1)) h) ∧
  ((gop i).toInt = 2 ∨ (gop i).toInt = 3 → bs.length < 100 ∧ an (i + 1) = some (f, (i, h) :: bs, h) ∧ tle (T i) (T (i + 1)) h) ∧
  ((gop i).toInt = 4 → 1 ≤ h ∧ bs.length < 100 ∧ an (i + 1) = some (f, (i, h - 1) :: bs, h - 1) ∧ tle (T i) (T (i + 1)) (h - 1) ∧ (0 ≤ (gel i).toInt → an ((gel i).toNatClampNeg + 1) = some (f, (i, h - 1) :: bs, h - 1) ∧ tle (T i) (T ((gel i).toNatClampNeg + 1)) (h - 1)) ∧ ((gel i).toInt < 0 → an ((gpt i).toNatClampNeg + 1) = some (f, bs, h - 1) ∧ tle (T i) (T ((gpt i).toNatClampNeg + 1)) (h - 1))) ∧
  ((gop i).toInt = 5 → ∃ b r, bs = b :: r ∧ blk3 (gop b.1).toInt ∧ an ((gpt b.1).toNatClampNeg + 1) = some (f, r, h) ∧ tle (T i) (T ((gpt b.1).toNatClampNeg + 1)) h) ∧
  ((gop i).toInt = 11 → (∀ b r, bs = b :: r → an (i + 1) = some (f, r, h) ∧ tle (T i) (T (i + 1)) h)) ∧
  ((gop i).toInt = 15 ∨ ((gop i).toInt = 11 ∧ bs = []) → rt f ≠ 0 → 1 ≤ h ∧ (rt f = 127 → T i (h - 1).toNat ≠ 126)) ∧
  ((gop i).toInt = 12 → mr_lab an T (rt f) gop gpt gva f bs i h (gva i).toInt) ∧
  ((gop i).toInt = 13 → 1 ≤ h ∧ mr_lab an T (rt f) gop gpt gva f bs i (h - 1) (gva i).toInt ∧ an (i + 1) = some (f, bs, h - 1) ∧ tle (T i) (T (i + 1)) (h - 1)) ∧
  ((gop i).toInt = 14 → 1 ≤ h ∧ ∀ k : Nat, (k : Int) ≤ (gpt i).toInt → mr_lab an T (rt f) gop gpt gva f bs i (h - 1) (gla ((gva i).toInt.toNat + k)).toInt) ∧
  ((gop i).toInt = 16 → 0 ≤ (gva i).toInt ∧ (gva i).toInt < fc ∧ tk (gva i).toInt.toNat ≤ h ∧ an (i + 1) = some (f, bs, h - tk (gva i).toInt.toNat + gv (gva i).toInt.toNat) ∧ tle (T i) (T (i + 1)) (h - tk (gva i).toInt.toNat) ∧ (∀ k : Nat, (k : Int) < tk (gva i).toInt.toNat → lt (gva i).toInt.toNat k = 127 → T i (h - tk (gva i).toInt.toNat + k).toNat ≠ 126) ∧ (rt (gva i).toInt.toNat ≠ 0 → T (i + 1) (h - tk (gva i).toInt.toNat).toNat ≠ 126 → rt (gva i).toInt.toNat = 127 ∨ T (i + 1) (h - tk (gva i).toInt.toNat).toNat = rt (gva i).toInt.toNat)) ∧
  ((gop i).toInt = 26 → 1 ≤ h ∧ an (i + 1) = some (f, bs, h - 1) ∧ tle (T i) (T (i + 1)) (h - 1)) ∧
  ((gop i).toInt = 27 → 3 ≤ h ∧ an (i + 1) = some (f, bs, h - 2) ∧ tle (T i) (T (i + 1)) (h - 3) ∧ (T (i + 1) (h - 3).toNat ≠ 126 → T i (h - 3).toNat ≠ 126 ∧ T i (h - 2).toNat ≠ 126)) ∧
  (32 ≤ (gop i).toInt ∧ (gop i).toInt ≤ 34 → 0 ≤ (gva i).toInt ∧ (gva i).toInt < nl f) ∧
  ((gop i).toInt = 32 → an (i + 1) = some (f, bs, h + 1) ∧ tle (T i) (T (i + 1)) h ∧ (T (i + 1) h.toNat ≠ 126 → lt f (gva i).toInt.toNat ≠ 126)) ∧
  ((gop i).toInt = 33 → 1 ≤ h ∧ an (i + 1) = some (f, bs, h - 1) ∧ tle (T i) (T (i + 1)) (h - 1) ∧ (lt f (gva i).toInt.toNat = 127 → T i (h - 1).toNat ≠ 126)) ∧
  ((gop i).toInt = 34 → 1 ≤ h ∧ an (i + 1) = some (f, bs, h) ∧ tle (T i) (T (i + 1)) h ∧ (lt f (gva i).toInt.toNat = 127 → T i (h - 1).toNat ≠ 126)) ∧
  ((gop i).toInt = 35 ∨ (gop i).toInt = 36 → 0 ≤ (gva i).toInt ∧ (gva i).toInt < gc) ∧
  ((gop i).toInt = 35 → an (i + 1) = some (f, bs, h + 1) ∧ tle (T i) (T (i + 1)) h ∧ (T (i + 1) h.toNat ≠ 126 → gt (gva i).toInt.toNat ≠ 126)) ∧
  ((gop i).toInt = 36 → 1 ≤ h ∧ an (i + 1) = some (f, bs, h - 1) ∧ tle (T i) (T (i + 1)) (h - 1) ∧ (gt (gva i).toInt.toNat = 127 → T i (h - 1).toNat ≠ 126)) ∧
  (opl (gop i).toInt → pn (gop i).toInt ≤ h ∧ an (i + 1) = some (f, bs, h - pn (gop i).toInt + pm (gop i).toInt) ∧ tle (T i) (T (i + 1)) (h - pn (gop i).toInt) ∧ (pm (gop i).toInt = 1 → T (i + 1) (h - pn (gop i).toInt).toNat ≠ 126 → pout (gop i).toInt ≠ 126) ∧ ((gop i).toInt = 110 ∨ (gop i).toInt = 112 → T i (h - 1).toNat ≠ 126))
theorem sgt.tle {T T2 : Nat → Int} {n : Int} (h : sgt T T2 n) : tle T T2 n := fun k hk z => by rw [← h k hk]; exact z
theorem sgt.le {T T2 : Nat → Int} {n n2 : Int} (h : sgt T T2 n) (q : n2 ≤ n) : sgt T T2 n2 := fun k hk => h k (by (first | (apply Int.le_antisymm <;> omega) | omega))
theorem sgt.trans {T T2 T3 : Nat → Int} {n : Int} (h : sgt T T2 n) (q : sgt T2 T3 n) : sgt T T3 n := fun k hk => (q k hk).trans (h k hk)
theorem sgt.symm {T T2 : Nat → Int} {n : Int} (h : sgt T T2 n) : sgt T2 T n := fun k hk => (h k hk).symm
section WA
variable {lt : Nat → Nat → Int} {rt nl gv tk gt : Nat → Int} {fc gc lc : Int} {f a m : Nat} {gop gpt gel gla : Nat → Int32} {gva : Nat → Int64} {sb : Nat → List Nat} {B : Nat → List vt} {hh : Nat → Int} {an : mc_A} {T : Nat → Nat → Int}
def wann (f : Nat) (sb : Nat → List Nat) (B : Nat → List vt) (hh : Nat → Int) : mc_A := fun i => if vlive (B i) = true then some (f, vzp (sb i) (B i), hh i) else none
theorem wann_live {i : Nat} (h : vlive (B i) = true) : wann f sb B hh i = some (f, vzp (sb i) (B i), hh i) := if_pos h
theorem wann_inv {i f2 : Nat} {bs : List (Nat × Int)} {h : Int} (e : wann f sb B hh i = some (f2, bs, h)) : f2 = f ∧ bs = vzp (sb i) (B i) ∧ vlive (B i) = true ∧ h = hh i := by
  unfold wann at e
  split at e
  · rename_i w
    injection e with e
    injection e with e1 e2
    injection e2 with e2 e3
    exact ⟨e1.symm, e2.symm, w, e3.symm⟩
  · cases e
/-- what an instruction does to what is open -/
theorem vr_shape {op v h h2 : Int} {B B2 : List vt} {o g hb d : Int} {R : List vt} (hV : vr nl gv tk fc gc f op v B h B2 h2) (eB : B = (o, g, hb, d) :: R) (hop : op = 2 ∨ op = 3 ∨ op = 4 ∨ op = 5 ∨ op = 11 ∨ op = 12 ∨ op = 13 ∨ op = 16 ∨ op = 32 ∨ op = 33 ∨ op = 34 ∨ op = 35 ∨ op = 36 ∨ op = 14 ∨ op = 63 ∨ op = 64 ∨ op = 0 ∨ op = 1 ∨ op = 15 ∨ op = 26 ∨ op = 27 ∨ (69 ≤ op ∧ op ≤ 90) ∨ (103 ≤ op ∧ op ≤ 138) ∨ op = 167 ∨ op = 172 ∨ op = 173 ∨ op = 65 ∨ op = 66 ∨ op = 44 ∨ op = 45 ∨ op = 58 ∨ op = 40 ∨ op = 54 ∨ op = 41 ∨ op = 55) :
    (op = 2 ∨ op = 3 ∨ op = 4 → ∃ x, B2 = (op, v, x, 0) :: B) ∧ (op = 5 → B2 = (5, g, hb, 0) :: R) ∧ (op = 11 → R ≠ [] → B2 = R) ∧ (op ≠ 2 → op ≠ 3 → op ≠ 4 → op ≠ 5 → op ≠ 11 → ∃ d', B2 = (o, g, hb, d') :: R) := by
  obtain ⟨o', g', hb', d', R', eB', hbh, c0, -, c1, hq9r⟩ := hV
  obtain ⟨c2, c4, c5, c11, c13, c16, c26, c27, -, -, hq9r⟩ := hq9r
  obtain ⟨c01, c10, c20, c11b, c21⟩ := hq9r
  rw [eB] at eB'
  injection eB' with e1 e2
  injection e1 with e1 e3
  injection e3 with e3 e4
  injection e4 with e4 e5
  subst e1 e3 e4 e5 e2
  refine ⟨fun z => ?_, fun z => (c5 z).1, fun z r => ((c11 z).2.2 r).1, fun n2 n3 n4 n5 n11 => ?_⟩
  · by_cases p4 : op = 4
    · exact ⟨h2, by rw [(c4 p4).1, p4]⟩
    · exact ⟨h, (c2 (by (first | (apply Int.le_antisymm <;> omega) | omega))).1⟩
  · rw [eB] at c1 c13 c16 c26 c27 c01 c10 c20 c11b c21
    by_cases q : op = 0 ∨ op = 12 ∨ op = 14 ∨ op = 15
    · obtain ⟨d2, w, -⟩ := c0 q
      exact ⟨d2, w⟩
    refine ⟨d, ?_⟩
    clear c0 c2 c4 c5 c11
    by_cases q1 : op = 1
    · exact (c1 q1).1
    by_cases q13 : op = 13
    · exact (c13 q13).1
    by_cases q16 : op = 16
    · exact (c16 q16).2.2.1
    by_cases q26 : op = 26
    · exact (c26 q26).1
    by_cases q27 : op = 27
    · exact (c27 q27).1
    by_cases q01 : op = 32 ∨ op = 35 ∨ op = 63 ∨ op = 65 ∨ op = 66
    · exact (c01 q01).1
    by_cases q10 : op = 33 ∨ op = 36
    · exact (c10 q10).1
    by_cases q20 : op = 54 ∨ op = 55 ∨ op = 58
    · exact (c20 q20).1
    by_cases q11 : op = 34 ∨ op = 64 ∨ op = 40 ∨ op = 41 ∨ op = 44 ∨ op = 45 ∨ op = 69 ∨ op = 80 ∨ (103 ≤ op ∧ op < 106) ∨ (121 ≤ op ∧ op < 124) ∨ 138 < op
    · exact (c11b q11).1
    · exact (c21 (by clear c1 c13 c16 c26 c27 c01 c10 c20 c11b c21; (first | (apply Int.le_antisymm <;> omega) | omega))).1
/-- a loop is told to be a loop -/
def vk (gop : Nat → Int32) (sb : Nat → List Nat) (B : Nat → List vt) (i : Nat) : Prop := ∀ (k b : Nat), (sb i)[k]? = some b → ∃ x, (B i)[k]? = some x ∧ (x.1 = 3 → (gop b).toInt = 3)
theorem vk_all (hI : rs_I a m gop gpt gel gva lc sb) (hV : ∀ i, a ≤ i → i < m → vr nl gv tk fc gc f (gop i).toInt (gva i).toInt (B i) (hh i) (B (i + 1)) (hh (i + 1))) (hB : (B a).length = 1) : ∀ k, a + k ≤ m → vk gop sb B (a + k)
  | 0, _ => fun k b hk => by rw [Nat.add_zero, hI.2.1] at hk; simp at hk
  | k + 1, h => by
    have ih := vk_all hI hV hB k (by (first | (apply Int.le_antisymm <;> omega) | omega))
    have hL := (vh_all hI hV hB k (by (first | (apply Int.le_antisymm <;> omega) | omega))).1
    generalize hi : a + k = i at ih hL
    have e1 : a + (k + 1) = i + 1 := by (first | (apply Int.le_antisymm <;> omega) | omega)
    rw [e1]
    obtain ⟨v1, v2, v3, v4, v5, v6, v7⟩ := hI.2.2.2 i (by (first | (apply Int.le_antisymm <;> omega) | omega)) (by (first | (apply Int.le_antisymm <;> omega) | omega))
    obtain ⟨o, g, hb, d, R, eB, -⟩ := hV i (by (first | (apply Int.le_antisymm <;> omega) | omega)) (by (first | (apply Int.le_antisymm <;> omega) | omega))
    obtain ⟨s2, s5, s11, s0⟩ := vr_shape (hV i (by (first | (apply Int.le_antisymm <;> omega) | omega)) (by (first | (apply Int.le_antisymm <;> omega) | omega))) eB v1.2.2.2
    have keep : ∀ o' d', (o' = 3 → o = 3) → B (i + 1) = (o', g, hb, d') :: R → sb (i + 1) = sb i → vk gop sb B (i + 1) := by
      intro o' d' ho w1 w2 n b hn
      rw [w2] at hn
      obtain ⟨x, q1, q2⟩ := ih n b hn
      rw [eB] at q1
      cases n with
      | zero =>
        have ex : (o, g, hb, d) = x := by simpa using q1
        exact ⟨(o', g, hb, d'), by rw [w1]; rfl, fun z => q2 (by rw [← ex]; exact ho z)⟩
      | succ n => exact ⟨x, by rw [w1]; simpa using q1, q2⟩
    by_cases p2 : (gop i).toInt = 2 ∨ (gop i).toInt = 3 ∨ (gop i).toInt = 4
    · obtain ⟨y, w⟩ := s2 p2
      intro n b hn
      rw [v2 p2] at hn
      rw [w]
      cases n with
      | zero =>
        have e : b = i := by simpa using hn.symm
        subst e
        exact ⟨_, rfl, fun z => z⟩
      | succ n =>
        obtain ⟨x, q1, q2⟩ := ih n b (by simpa using hn)
        exact ⟨x, by simpa using q1, q2⟩
    by_cases p11 : (gop i).toInt = 11
    · obtain ⟨b, r, w1, w2, -⟩ := v5 p11
      have hR : R ≠ [] := by
        intro e
        rw [eB, e, w1] at hL
        simp at hL
      intro n b' hn
      rw [w2] at hn
      obtain ⟨x, q1, q2⟩ := ih (n + 1) b' (by rw [w1]; simpa using hn)
      rw [eB] at q1
      exact ⟨x, by rw [s11 p11 hR]; simpa using q1, q2⟩
    have es := v6 (by (first | (apply Int.le_antisymm <;> omega) | omega)) (by (first | (apply Int.le_antisymm <;> omega) | omega)) (by (first | (apply Int.le_antisymm <;> omega) | omega)) p11
    by_cases p5 : (gop i).toInt = 5
    · exact keep 5 0 (fun z => by (first | (apply Int.le_antisymm <;> omega) | omega)) (s5 p5) es
    · obtain ⟨d', w⟩ := s0 (by (first | (apply Int.le_antisymm <;> omega) | omega)) (by (first | (apply Int.le_antisymm <;> omega) | omega)) (by (first | (apply Int.le_antisymm <;> omega) | omega)) p5 p11
      exact keep o d' (fun z => z) w es
theorem rs_back (hI : rs_I a m gop gpt gel gva lc sb) {b j : Nat} (h1 : a ≤ j) (h2 : j < m) (hb : b ∈ sb (j + 1)) (hj : b < j) : b ∈ sb j := by
  obtain ⟨-, v2, -, -, v5, v6, -⟩ := hI.2.2.2 j h1 h2
  by_cases p2 : (gop j).toInt = 2 ∨ (gop j).toInt = 3 ∨ (gop j).toInt = 4
  · rw [v2 p2] at hb
    rcases List.mem_cons.mp hb with w | w
    · (first | (apply Int.le_antisymm <;> omega) | omega)
    · exact w
  by_cases p11 : (gop j).toInt = 11
  · obtain ⟨b', r, e1, e2, -⟩ := v5 p11
    rw [e1, ← e2]
    exact List.mem_cons_of_mem _ hb
  · rw [← v6 (by (first | (apply Int.le_antisymm <;> omega) | omega)) (by (first | (apply Int.le_antisymm <;> omega) | omega)) (by (first | (apply Int.le_antisymm <;> omega) | omega)) p11]
    exact hb
theorem rs_in (hI : rs_I a m gop gpt gel gva lc sb) {b p : Nat} (ha : a ≤ b) (hp : p ≤ m) (hb : b ∈ sb p) : ∀ (k j : Nat), j + k = p → b < j → b ∈ sb j
  | 0, j, e, _ => by rw [show j = p by (first | (apply Int.le_antisymm <;> omega) | omega)]; exact hb
  | k + 1, j, e, h => rs_back hI (by (first | (apply Int.le_antisymm <;> omega) | omega)) (by (first | (apply Int.le_antisymm <;> omega) | omega)) (rs_in hI ha hp hb k (j + 1) (by (first | (apply Int.le_antisymm <;> omega) | omega)) (by (first | (apply Int.le_antisymm <;> omega) | omega))) h
/-- below a block nothing changes while it is open -/
theorem wt_frame (hI : rs_I a m gop gpt gel gva lc sb) (hV : ∀ i, a ≤ i → i < m → vr nl gv tk fc gc f (gop i).toInt (gva i).toInt (B i) (hh i) (B (i + 1)) (hh (i + 1))) (hB : (B a).length = 1)
    (hY : ∀ i, a ≤ i → i < m → vty lt rt tk gt f (gop i).toInt (gva i).toInt (gpt i).toInt (fun k => (gla ((gva i).toInt.toNat + k)).toInt) (B i) (hh i) (T i) (T (i + 1))) {b p : Nat} (ha : a ≤ b) (hp : p < m) (hb : b ∈ sb p) : ∀ (k j : Nat), b + 1 + k = j → j ≤ p + 1 → sgt (T (b + 1)) (T j) (hh (b + 1))
  | 0, j, e, _ => by rw [← e]; exact fun _ _ => rfl
  | k + 1, j, e, h => by
    have ih := wt_frame hI hV hB hY ha hp hb k (b + 1 + k) rfl (by (first | (apply Int.le_antisymm <;> omega) | omega))
    have hm := rs_in hI ha (Nat.le_of_lt hp) hb (p - (b + 1 + k)) (b + 1 + k) (by (first | (apply Int.le_antisymm <;> omega) | omega)) (by (first | (apply Int.le_antisymm <;> omega) | omega))
    obtain ⟨n, hn⟩ := List.getElem?_of_mem hm
    have VH := vh_all hI hV hB (b + 1 + k - a) (by (first | (apply Int.le_antisymm <;> omega) | omega))
    rw [show a + (b + 1 + k - a) = b + 1 + k by (first | (apply Int.le_antisymm <;> omega) | omega)] at VH
    obtain ⟨o, d, q1, -⟩ := VH.2 n b hn
    obtain ⟨o2, g, hb2, d2, R, eB, s, mx, -⟩ := hY (b + 1 + k) (by (first | (apply Int.le_antisymm <;> omega) | omega)) (by (first | (apply Int.le_antisymm <;> omega) | omega))
    have w := mx _ (List.mem_of_getElem? q1)
    rw [← e, show b + 1 + (k + 1) = b + 1 + k + 1 by (first | (apply Int.le_antisymm <;> omega) | omega)]
    exact ih.trans (s.le w)
theorem vr_pl {op v h h2 : Int} {B B2 : List vt} {o g hb d : Int} {R : List vt} (hV : vr nl gv tk fc gc f op v B h B2 h2) (eB : B = (o, g, hb, d) :: R) (hop : opl op) : vq B B2 hb d h h2 (pn op) (pm op) := by
  obtain ⟨o', g', hb', d', R', eB', -, -, -, -, hq9r⟩ := hV
  obtain ⟨-, -, -, -, -, -, -, -, -, -, hq9r⟩ := hq9r
  obtain ⟨c01, -, c20, c11b, c21⟩ := hq9r
  rw [eB] at eB'
  injection eB' with e1 e2
  injection e1 with e1 e3
  injection e3 with e3 e4
  injection e4 with e4 e5
  subst e1 e3 e4 e5 e2
  unfold opl at hop
  unfold pn pm
  by_cases q0 : op = 63 ∨ op = 65 ∨ op = 66
  · rw [if_pos q0, if_neg (by (first | (apply Int.le_antisymm <;> omega) | omega))]
    exact c01 (by (first | (apply Int.le_antisymm <;> omega) | omega))
  · rw [if_neg q0]
    by_cases q1 : op = 40 ∨ op = 41 ∨ op = 44 ∨ op = 45 ∨ op = 64 ∨ op = 69 ∨ op = 80 ∨ (103 ≤ op ∧ op ≤ 105) ∨ (121 ≤ op ∧ op ≤ 123) ∨ 167 ≤ op
    · rw [if_pos q1, if_neg (by (first | (apply Int.le_antisymm <;> omega) | omega))]
      exact c11b (by (first | (apply Int.le_antisymm <;> omega) | omega))
    · rw [if_neg q1]
      by_cases q2 : op = 54 ∨ op = 55 ∨ op = 58
      · rw [if_pos q2]
        exact c20 q2
      · rw [if_neg q2]
        exact c21 (by (first | (apply Int.le_antisymm <;> omega) | omega))
end WA
end q_m25
section q_m26
section WB
variable {lt : Nat → Nat → Int} {rt nl gv tk gt : Nat → Int} {fc gc lc : Int} {f a m : Nat} {gop gpt gel gla : Nat → Int32} {gva : Nat → Int64} {sb : Nat → List Nat} {B : Nat → List vt} {hh : Nat → Int} {an : mc_A} {T : Nat → Nat → Int}
theorem wn_lab {i : Nat} {l h' hb : Int} (hI : rs_I a m gop gpt gel gva lc sb) (hm : sb m = []) (hV : ∀ i, a ≤ i → i < m → vr nl gv tk fc gc f (gop i).toInt (gva i).toInt (B i) (hh i) (B (i + 1)) (hh (i + 1)))
    (hY : ∀ i, a ≤ i → i < m → vty lt rt tk gt f (gop i).toInt (gva i).toInt (gpt i).toInt (fun k => (gla ((gva i).toInt.toNat + k)).toInt) (B i) (hh i) (T i) (T (i + 1))) (hB : (B a).length = 1) (h00 : ∀ i, a ≤ i → i ≤ m → 0 ≤ hh i ∧ ∀ x ∈ B i, 0 ≤ x.2.2.1)
    (han : ∀ i, a ≤ i → i ≤ m → an i = wann f sb B hh i) (h1 : a ≤ i) (h2 : i < m) (hl : vlive (B i) = true) (hb0 : 0 ≤ hb) (hbh : hb ≤ h') (hbx : ∀ x ∈ B i, x.2.2.1 ≤ hb) (h0 : 0 ≤ l) (hc : crr (B i) l hb h' (T i)) : mr_lab an T (rt f) gop gpt gva f (vzp (sb i) (B i)) i h' l := by
  have VH : ∀ j, a ≤ j → j ≤ m → vh gop gel gva sb B hh j := fun j q1 q2 => by
    have := vh_all hI hV hB (j - a) (by (first | (apply Int.le_antisymm <;> omega) | omega))
    rw [show a + (j - a) = j by (first | (apply Int.le_antisymm <;> omega) | omega)] at this
    exact this
  have VK : ∀ j, a ≤ j → j ≤ m → vk gop sb B j := fun j q1 q2 => by
    have := vk_all hI hV hB (j - a) (by (first | (apply Int.le_antisymm <;> omega) | omega))
    rw [show a + (j - a) = j by (first | (apply Int.le_antisymm <;> omega) | omega)] at this
    exact this
  have hL := (VH i h1 (by (first | (apply Int.le_antisymm <;> omega) | omega))).1
  have hlen : (vzp (sb i) (B i)).length = (sb i).length := vzp_len hL
  obtain ⟨x, hx, hxc⟩ := hc
  have hlt : l.toNat < (B i).length := (List.getElem?_eq_some_iff.mp hx).1
  refine ⟨h0, by (first | (apply Int.le_antisymm <;> omega) | omega), fun e r0 => ?_, fun n b hn hb' => ?_⟩
  · obtain ⟨o, g, hb2, d, R, eB, -, -, ⟨y, y1, y2, y3, y4⟩, -⟩ := hY i h1 (by (first | (apply Int.le_antisymm <;> omega) | omega))
    have hR : R.length = (sb i).length := by rw [eB, List.length_cons] at hL; (first | (apply Int.le_antisymm <;> omega) | omega)
    rw [show l.toNat = R.length by (first | (apply Int.le_antisymm <;> omega) | omega), y1] at hx
    have exy : y = x := Option.some.inj hx
    subst exy
    obtain ⟨k1, k2⟩ := hxc y2 (y3 r0)
    exact ⟨by (first | (apply Int.le_antisymm <;> omega) | omega), fun z => k2 (y4 z)⟩
  · obtain ⟨y, e1, e2, e3⟩ := vzp_get hb'
    obtain ⟨o, d, q1, q2, q3, -⟩ := (VH i h1 (by (first | (apply Int.le_antisymm <;> omega) | omega))).2 n b.1 e1
    obtain ⟨y9, k1, k2⟩ := VK i h1 (by (first | (apply Int.le_antisymm <;> omega) | omega)) n b.1 e1
    rw [e2] at k1
    have ey9 := (Option.some.inj k1).symm
    subst ey9
    rw [show l.toNat = n by (first | (apply Int.le_antisymm <;> omega) | omega), e2] at hx
    have exy := (Option.some.inj hx).symm
    subst exy
    have ey : x = (o, (gva b.1).toInt, hh (b.1 + 1), d) := by rw [e2] at q1; exact Option.some.inj q1
    have hxm := hbx x (List.mem_of_getElem? e2)
    rw [ey] at e3 hxc hxm k2
    have hmem : b.1 ∈ sb i := List.mem_of_getElem? e1
    obtain ⟨b1, b2, b3⟩ := (hI.2.2.1 i h1 (by (first | (apply Int.le_antisymm <;> omega) | omega))).1 b.1 hmem
    have hlx : vlive (B b.1) = true := by rw [← q3]; exact vlive_drop _ hl
    have dn1 : (vzp (sb i) (B i)).drop (n + 1) = vzp (sb b.1) (B b.1) := by rw [vzp_drop, q2, q3]
    have hbm : b.1 + 1 ≤ m := by (first | (apply Int.le_antisymm <;> omega) | omega)
    have e3' : b.2 = hh (b.1 + 1) := e3
    have hxm' : hh (b.1 + 1) ≤ hb := hxm
    have sgi : sgt (T (b.1 + 1)) (T i) (hh (b.1 + 1)) := wt_frame hI hV hB hY b1 (show i < m by (first | (apply Int.le_antisymm <;> omega) | omega)) hmem (i - (b.1 + 1)) i (by (first | (apply Int.le_antisymm <;> omega) | omega)) (by (first | (apply Int.le_antisymm <;> omega) | omega))
    constructor
    · intro z3
      obtain ⟨ob, gb, hbb, db, Rb, eB, -, -, -, -, c2, -⟩ := hV b.1 b1 (by (first | (apply Int.le_antisymm <;> omega) | omega))
      obtain ⟨p1, p2⟩ := c2 (Or.inr z3)
      have hs := (hI.2.2.2 b.1 b1 (by (first | (apply Int.le_antisymm <;> omega) | omega))).2.1 (by (first | (apply Int.le_antisymm <;> omega) | omega))
      have hl1 : vlive (B (b.1 + 1)) = true := by rw [p1]; exact vlive_cons.mpr ⟨rfl, hlx⟩
      refine ⟨?_, by (first | (apply Int.le_antisymm <;> omega) | omega), by rw [e3']; exact sgi.symm.tle⟩
      rw [han _ (by (first | (apply Int.le_antisymm <;> omega) | omega)) hbm, wann_live hl1, e3]
      have ed : (vzp (sb i) (B i)).drop n = b :: (vzp (sb i) (B i)).drop (n + 1) := by
        obtain ⟨w1, w2⟩ := List.getElem?_eq_some_iff.mp hb'
        rw [List.drop_eq_getElem_cons w1, w2]
      rw [ed, dn1, hs, p1]
      have : vzp (b.1 :: sb b.1) (((gop b.1).toInt, (gva b.1).toInt, hh b.1, 0) :: B b.1) = (b.1, hh b.1) :: vzp (sb b.1) (B b.1) := rfl
      rw [this, ← p2, show (b.1, hh (b.1 + 1)) = b from Prod.ext rfl e3.symm]
    · intro z3
      obtain ⟨p, p1, p2, p3, ⟨r, p4, p5⟩, p6, -⟩ := rs_close hI hm (m - i) i (by (first | (apply Int.le_antisymm <;> omega) | omega)) h1 hmem
      obtain ⟨o9, d9, w1, w2, w3, -⟩ := (VH p (by (first | (apply Int.le_antisymm <;> omega) | omega)) (by (first | (apply Int.le_antisymm <;> omega) | omega))).2 0 b.1 (by rw [p4]; rfl)
      obtain ⟨op_, gp_, hbp, dp_, Rp, eB, -, -, -, -, -, -, -, c11, -⟩ := hV p (by (first | (apply Int.le_antisymm <;> omega) | omega)) p2
      obtain ⟨oy, gy, hby, dy, Ry, eBy, -, -, -, t11, -⟩ := hY p (by (first | (apply Int.le_antisymm <;> omega) | omega)) (by (first | (apply Int.le_antisymm <;> omega) | omega))
      rw [eB] at w1 w3
      have w3' : Rp = B b.1 := by simpa using w3
      have w1' : (op_, gp_, hbp, dp_) = (o9, (gva b.1).toInt, hh (b.1 + 1), d9) := by simpa using w1
      rw [eB] at eBy
      injection eBy with u1 u2
      injection w1' with x1 x2
      injection x2 with x2 x3
      injection x3 with x3 x4
      injection u1 with u3 u4
      injection u4 with u4 u5
      injection u5 with u5 u6
      have hR : Rp ≠ [] := by
        rw [w3']
        intro e
        have := (VH b.1 b1 (by (first | (apply Int.le_antisymm <;> omega) | omega))).1
        rw [e] at this
        simp at this
      obtain ⟨y1, y2⟩ := (c11 p3).2.2 hR
      rw [w3'] at y1
      rw [p4] at w2
      have w2' : r = sb b.1 := by simpa using w2
      have e9 : (gpt b.1).toNatClampNeg = p := i32_nat p6
      rw [e9]
      have hmp : b.1 ∈ sb p := by rw [p4]; exact List.mem_cons_self
      have sgp : sgt (T (b.1 + 1)) (T (p + 1)) (hh (b.1 + 1)) := wt_frame hI hV hB hY b1 (show p < m by (first | (apply Int.le_antisymm <;> omega) | omega)) hmp (p - b.1) (p + 1) (by (first | (apply Int.le_antisymm <;> omega) | omega)) (by (first | (apply Int.le_antisymm <;> omega) | omega))
      refine ⟨?_, by (first | (apply Int.le_antisymm <;> omega) | omega), by rw [e3']; exact (sgi.symm.trans sgp).tle, fun g6 => ?_⟩
      · rw [han _ (by (first | (apply Int.le_antisymm <;> omega) | omega)) (by (first | (apply Int.le_antisymm <;> omega) | omega)), wann_live (by rw [y1]; exact hlx), dn1, p5, w2', y1, y2, x2, x3, e3]
      · have o3 : o ≠ 3 := fun z => z3 (k2 z)
        obtain ⟨k3, k4⟩ := hxc o3 g6
        refine ⟨by (first | (apply Int.le_antisymm <;> omega) | omega), fun z => k4 ?_⟩
        have tg := t11 p3 (by rw [← u2]; exact hR) (by rw [← u4, x2]; exact g6)
        rw [← u5, x3, ← u4, x2] at tg
        rw [e3', tg] at z
        have w := (hI.2.2.2 b.1 b1 (by (first | (apply Int.le_antisymm <;> omega) | omega))).1.1 b3
        show (gva b.1).toInt = 127
        (first | (apply Int.le_antisymm <;> omega) | omega)
set_option maxHeartbeats 4000000 in
theorem wn_at {i f2 : Nat} {bs : List (Nat × Int)} {h : Int} (hI : rs_I a m gop gpt gel gva lc sb) (hm : sb m = []) (hmo : (gop m).toInt = 11) (hV : ∀ i, a ≤ i → i < m → vr nl gv tk fc gc f (gop i).toInt (gva i).toInt (B i) (hh i) (B (i + 1)) (hh (i + 1)))
    (hY0 : ∀ i, a ≤ i → i ≤ m → ∃ T2 : Nat → Int, (i < m → T2 = T (i + 1)) ∧ vty lt rt tk gt f (gop i).toInt (gva i).toInt (gpt i).toInt (fun k => (gla ((gva i).toInt.toNat + k)).toInt) (B i) (hh i) (T i) T2) (hB : (B a).length = 1) (h00 : ∀ i, a ≤ i → i ≤ m → 0 ≤ hh i ∧ ∀ x ∈ B i, 0 ≤ x.2.2.1) (hla : ∀ i, a ≤ i → i < m → (gop i).toInt = 14 → ∀ k : Nat, (k : Int) ≤ (gpt i).toInt → 0 ≤ (gla ((gva i).toInt.toNat + k)).toInt)
    (han : ∀ i, a ≤ i → i ≤ m → an i = wann f sb B hh i) (h1 : a ≤ i) (h2 : i ≤ m) (e : an i = some (f2, bs, h)) : f2 = f ∧ 0 ≤ h ∧ mr_at an T lt rt nl gv tk gt fc gc gop gpt gel gla gva i f bs h := by
  rw [han i h1 h2] at e
  obtain ⟨ef, rfl, hlv, rfl⟩ := wann_inv e
  have ef := ef.symm
  subst ef
  have h0 := (h00 i h1 h2).1
  have VH : ∀ j, a ≤ j → j ≤ m → vh gop gel gva sb B hh j := fun j q1 q2 => by
    have := vh_all hI hV hB (j - a) (by (first | (apply Int.le_antisymm <;> omega) | omega))
    rw [show a + (j - a) = j by (first | (apply Int.le_antisymm <;> omega) | omega)] at this
    exact this
  have hY : ∀ i, a ≤ i → i < m → vty lt rt tk gt f (gop i).toInt (gva i).toInt (gpt i).toInt (fun k => (gla ((gva i).toInt.toNat + k)).toInt) (B i) (hh i) (T i) (T (i + 1)) := fun i q1 q2 => by
    obtain ⟨T2, e, v⟩ := hY0 i q1 (by (first | (apply Int.le_antisymm <;> omega) | omega))
    rw [← e q2]
    exact v
  obtain ⟨T2, eT2, o, g, hb, d, R, eB, sg, mx, ⟨y, y1, y2, y3, y4⟩, t11, td⟩ := hY0 i h1 h2
  have hd : d = 0 := by rw [eB] at hlv; exact (vlive_cons.mp hlv).1
  obtain ⟨t1, t4, t5, t12, t13, t14, t15, t16, t26, t27, hq9r⟩ := td hd
  obtain ⟨t32, t33, t34, t35, t36, tpl⟩ := hq9r
  have hb0 : 0 ≤ hb := (h00 i h1 h2).2 (o, g, hb, d) (by rw [eB]; exact List.mem_cons_self)
  have hL := (VH i h1 h2).1
  have hlen : (vzp (sb i) (B i)).length = (sb i).length := vzp_len hL
  have hRl : R.length = (sb i).length := by rw [eB, List.length_cons] at hL; (first | (apply Int.le_antisymm <;> omega) | omega)
  have ret : crr (B i) R.length hb (hh i) (T i) → rt f ≠ 0 → 1 ≤ hh i ∧ (rt f = 127 → T i (hh i - 1).toNat ≠ 126) := by
    rintro ⟨x, hx, hxc⟩ r0
    rw [Int.toNat_natCast, y1] at hx
    have exy := (Option.some.inj hx).symm
    subst exy
    obtain ⟨k1, k2⟩ := hxc y2 (y3 r0)
    exact ⟨by (first | (apply Int.le_antisymm <;> omega) | omega), fun z => k2 (y4 z)⟩
  refine ⟨rfl, h0, ?_⟩
  by_cases hne : ¬ i < m
  · have him : i = m := by (first | (apply Int.le_antisymm <;> omega) | omega)
    subst him
    have hR0 : R = [] := by rw [hm] at hRl; exact List.eq_nil_of_length_eq_zero hRl
    unfold mr_at
    unfold opl
    rw [hm, hmo]
    refine ⟨fun z => by (first | (apply Int.le_antisymm <;> omega) | omega), fun z => by (first | (apply Int.le_antisymm <;> omega) | omega), fun z => by (first | (apply Int.le_antisymm <;> omega) | omega), fun z => by (first | (apply Int.le_antisymm <;> omega) | omega), fun _ b r z => ?_, fun _ r0 => ?_, fun z => by (first | (apply Int.le_antisymm <;> omega) | omega), fun z => by (first | (apply Int.le_antisymm <;> omega) | omega), fun z => by (first | (apply Int.le_antisymm <;> omega) | omega), fun z => by (first | (apply Int.le_antisymm <;> omega) | omega), fun z => by (first | (apply Int.le_antisymm <;> omega) | omega), fun z => by (first | (apply Int.le_antisymm <;> omega) | omega), fun z => by (first | (apply Int.le_antisymm <;> omega) | omega), fun z => by (first | (apply Int.le_antisymm <;> omega) | omega), fun z => by (first | (apply Int.le_antisymm <;> omega) | omega), fun z => by (first | (apply Int.le_antisymm <;> omega) | omega), fun z => by (first | (apply Int.le_antisymm <;> omega) | omega), fun z => by (first | (apply Int.le_antisymm <;> omega) | omega), fun z => by (first | (apply Int.le_antisymm <;> omega) | omega), fun z => by (first | (apply Int.le_antisymm <;> omega) | omega)⟩
    · cases z
    · rw [eB, hR0] at y1
      have ex : (o, g, hb, d) = y := by simpa using y1
      have g64 := y3 r0
      rw [← ex] at g64 y4
      obtain ⟨k1, k2⟩ := t5 (Or.inr hmo) g64
      exact ⟨by (first | (apply Int.le_antisymm <;> omega) | omega), fun z => k2 (y4 z)⟩
  have him : i < m := Decidable.not_not.mp hne
  have eT := eT2 him
  subst eT
  obtain ⟨v1, v2, v3, v4, v5, v6, v7⟩ := hI.2.2.2 i h1 him
  have hS := (hI.2.2.1 i h1 h2)
  have hop := v1.2.2.2
  obtain ⟨o', g', hb', d', R', eB', hbh, c0, c14, c1, hq9r⟩ := hV i h1 him
  obtain ⟨c2, c4, c5, c11, c13, c16, c26, c27, cv, cg, hq9r⟩ := hq9r
  obtain ⟨c01, c10, c20, c11b, c21⟩ := hq9r
  have vpl := vr_pl (hV i h1 him) eB
  rw [eB] at eB'
  injection eB' with w1 w2
  injection w1 with w1 w3
  injection w3 with w3 w4
  injection w4 with w4 w5
  subst w1 w3 w4 w5 w2
  have nx : ∀ h', B (i + 1) = B i → hh (i + 1) = h' → (gop i).toInt ≠ 2 → (gop i).toInt ≠ 3 → (gop i).toInt ≠ 4 → (gop i).toInt ≠ 11 → an (i + 1) = some (f, vzp (sb i) (B i), h') := by
    intro h' y1 y2 n2 n3 n4 n11
    rw [han _ (by (first | (apply Int.le_antisymm <;> omega) | omega)) (by (first | (apply Int.le_antisymm <;> omega) | omega)), wann_live (by rw [y1]; exact hlv), v6 n2 n3 n4 n11, y1, y2]
  have nq : ∀ n m', vq (B i) (B (i + 1)) hb d (hh i) (hh (i + 1)) n m' → (gop i).toInt ≠ 2 → (gop i).toInt ≠ 3 → (gop i).toInt ≠ 4 → (gop i).toInt ≠ 11 → hb + n ≤ hh i ∧ an (i + 1) = some (f, vzp (sb i) (B i), hh i - n + m') := by
    intro n m' q n2 n3 n4 n11
    obtain ⟨q1, q2, q3⟩ := q
    obtain ⟨q4, q5⟩ := q3 hd
    exact ⟨q4, nx _ q1 q5 n2 n3 n4 n11⟩
  have lab : ∀ l h' : Int, hb ≤ h' → 0 ≤ l → crr (B i) l hb h' (T i) → mr_lab an T (rt f) gop gpt gva f (vzp (sb i) (B i)) i h' l := fun l h' q hl hc => wn_lab hI hm hV hY hB h00 han h1 him hlv hb0 q mx hl hc
  unfold mr_at
  refine ⟨fun z => ?_, fun z => ?_, fun z => ?_, fun z => ?_, fun z => ?_, fun z => ?_, fun z => ?_, fun z => ?_, fun z => ?_, fun z => ?_, fun z => ?_, fun z => ?_, fun z => ?_, fun z => ?_, fun z => ?_, fun z => ?_, fun z => ?_, fun z => ?_, fun z => ?_, fun z => ?_⟩
  · obtain ⟨y1, y2⟩ := c1 z
    exact ⟨nx _ y1 y2 (by (first | (apply Int.le_antisymm <;> omega) | omega)) (by (first | (apply Int.le_antisymm <;> omega) | omega)) (by (first | (apply Int.le_antisymm <;> omega) | omega)) (by (first | (apply Int.le_antisymm <;> omega) | omega)), (t1 (Or.inl z)).tle⟩
  · obtain ⟨y1, y2⟩ := c2 z
    have es := v2 (by (first | (apply Int.le_antisymm <;> omega) | omega))
    have hlen2 := ((hI.2.2.1 (i + 1) (by (first | (apply Int.le_antisymm <;> omega) | omega)) (by (first | (apply Int.le_antisymm <;> omega) | omega))).2.2)
    rw [es, List.length_cons] at hlen2
    refine ⟨by (first | (apply Int.le_antisymm <;> omega) | omega), ?_, (t1 (Or.inr z)).tle⟩
    rw [han _ (by (first | (apply Int.le_antisymm <;> omega) | omega)) (by (first | (apply Int.le_antisymm <;> omega) | omega)), wann_live (by rw [y1]; exact vlive_cons.mpr ⟨rfl, hlv⟩), es, y1, y2]
    rfl
  · obtain ⟨y1, y2, y3⟩ := c4 z
    obtain ⟨y4, y5⟩ := y3 hd
    have es := v2 (by (first | (apply Int.le_antisymm <;> omega) | omega))
    have hlen2 := ((hI.2.2.1 (i + 1) (by (first | (apply Int.le_antisymm <;> omega) | omega)) (by (first | (apply Int.le_antisymm <;> omega) | omega))).2.2)
    rw [es, List.length_cons] at hlen2
    have hmem : i ∈ sb (i + 1) := by rw [es]; exact List.mem_cons_self
    obtain ⟨p, p1, p2, p3, ⟨r, p4, p5⟩, p6, p7⟩ := rs_close hI hm (m - (i + 1)) (i + 1) (by (first | (apply Int.le_antisymm <;> omega) | omega)) (by (first | (apply Int.le_antisymm <;> omega) | omega)) hmem
    obtain ⟨o9, d9, w1, w2, w3, w4⟩ := (VH p (by (first | (apply Int.le_antisymm <;> omega) | omega)) (by (first | (apply Int.le_antisymm <;> omega) | omega))).2 0 i (by rw [p4]; rfl)
    have hmp : i ∈ sb p := by rw [p4]; exact List.mem_cons_self
    have s1 := t4 z
    refine ⟨by (first | (apply Int.le_antisymm <;> omega) | omega), by (first | (apply Int.le_antisymm <;> omega) | omega), ?_, s1.tle, fun z1 => ?_, fun z1 => ?_⟩
    · rw [han _ (by (first | (apply Int.le_antisymm <;> omega) | omega)) (by (first | (apply Int.le_antisymm <;> omega) | omega)), wann_live (by rw [y1]; exact vlive_cons.mpr ⟨rfl, hlv⟩), es, y1, y5]
      rfl
    · rcases v3 z with w | ⟨e9, x1, x2, x3, x4, r9, x5⟩
      · (first | (apply Int.le_antisymm <;> omega) | omega)
      · rw [show (gel i).toNatClampNeg = e9 from i32_nat x1]
        obtain ⟨o8, d8, u1, u2, u3, -⟩ := (VH e9 (by (first | (apply Int.le_antisymm <;> omega) | omega)) (by (first | (apply Int.le_antisymm <;> omega) | omega))).2 0 i (by rw [x5]; rfl)
        obtain ⟨oe, ge, he, de, Re, eBe, -, -, -, -, -, -, ce5, -⟩ := hV e9 (by (first | (apply Int.le_antisymm <;> omega) | omega)) x3
        obtain ⟨s5, s6, -⟩ := ce5 x4
        rw [eBe] at u1 u3
        have u3' : Re = B i := by simpa using u3
        have u1' : (oe, ge, he, de) = (o8, (gva i).toInt, hh (i + 1), d8) := by simpa using u1
        injection u1' with k1 k2
        injection k2 with k2 k3
        injection k3 with k3 k4
        have es9 : sb (e9 + 1) = sb e9 := (hI.2.2.2 e9 (by (first | (apply Int.le_antisymm <;> omega) | omega)) x3).2.2.2.2.2.1 (by (first | (apply Int.le_antisymm <;> omega) | omega)) (by (first | (apply Int.le_antisymm <;> omega) | omega)) (by (first | (apply Int.le_antisymm <;> omega) | omega)) (by (first | (apply Int.le_antisymm <;> omega) | omega))
        rw [x5] at u2
        have u2' : r9 = sb i := by simpa using u2
        have hme : i ∈ sb e9 := by rw [x5]; exact List.mem_cons_self
        refine ⟨?_, ?_⟩
        · rw [han _ (by (first | (apply Int.le_antisymm <;> omega) | omega)) (by (first | (apply Int.le_antisymm <;> omega) | omega)), wann_live (by rw [s5, u3']; exact vlive_cons.mpr ⟨rfl, hlv⟩), es9, x5, s5, s6, u2', u3', k3, y5]
          rfl
        · have q := wt_frame hI hV hB hY h1 (show e9 < m by (first | (apply Int.le_antisymm <;> omega) | omega)) hme (e9 - i) (e9 + 1) (by (first | (apply Int.le_antisymm <;> omega) | omega)) (by (first | (apply Int.le_antisymm <;> omega) | omega))
          rw [y5] at q
          exact (s1.trans q).tle
    · obtain ⟨op_, gp_, hbp, dp_, Rp, eBp, -, -, -, -, -, -, -, cp11, -⟩ := hV p (by (first | (apply Int.le_antisymm <;> omega) | omega)) p2
      rw [eBp] at w1 w3
      have w3' : Rp = B i := by simpa using w3
      have w1' : (op_, gp_, hbp, dp_) = (o9, (gva i).toInt, hh (i + 1), d9) := by simpa using w1
      injection w1' with x1 x2
      injection x2 with x2 x3
      injection x3 with x3 x4
      have hR : Rp ≠ [] := by
        rw [w3', eB]
        intro e
        cases e
      obtain ⟨k1, k2⟩ := (cp11 p3).2.2 hR
      have g64 := (cp11 p3).2.1 (by rw [x1]; exact w4 z z1)
      rw [p4] at w2
      have w2' : r = sb i := by simpa using w2
      have e9 : (gpt i).toNatClampNeg = p := i32_nat p6
      rw [e9]
      refine ⟨?_, ?_⟩
      · rw [han _ (by (first | (apply Int.le_antisymm <;> omega) | omega)) (by (first | (apply Int.le_antisymm <;> omega) | omega)), wann_live (by rw [k1, w3']; exact hlv), p5, w2', k1, w3', k2, g64, x3, y5]
        show some (f, vzp (sb i) (B i), hh i - 1 + 0) = _
        rw [Int.add_zero]
      · have q := wt_frame hI hV hB hY h1 (show p < m by (first | (apply Int.le_antisymm <;> omega) | omega)) hmp (p - i) (p + 1) (by (first | (apply Int.le_antisymm <;> omega) | omega)) (by (first | (apply Int.le_antisymm <;> omega) | omega))
        rw [y5] at q
        exact (s1.trans q).tle
  · obtain ⟨b, r, q1, q2, q3⟩ := v4 z
    have hmb : b ∈ sb i := by rw [q1]; exact List.mem_cons_self
    obtain ⟨p, p1, p2, p3, ⟨r2, p4, p5⟩, p6, p7⟩ := rs_close (b := b) hI hm (m - i) i (by (first | (apply Int.le_antisymm <;> omega) | omega)) h1 hmb
    obtain ⟨o9, d9, w1, w2, w3, -⟩ := (VH p (by (first | (apply Int.le_antisymm <;> omega) | omega)) (by (first | (apply Int.le_antisymm <;> omega) | omega))).2 0 b (by rw [p4]; rfl)
    obtain ⟨o8, d8, u1, u2, u3, -⟩ := (VH i h1 h2).2 0 b (by rw [q1]; rfl)
    obtain ⟨op_, gp_, hbp, dp_, Rp, eBp, -, -, -, -, -, -, -, cp11, -⟩ := hV p (by (first | (apply Int.le_antisymm <;> omega) | omega)) p2
    obtain ⟨oy, gy, hby, dy, Ry, eBy, -, -, -, tp11, -⟩ := hY p (by (first | (apply Int.le_antisymm <;> omega) | omega)) (by (first | (apply Int.le_antisymm <;> omega) | omega))
    have b1 := ((hI.2.2.1 i h1 h2).1 b hmb)
    rw [eBp] at eBy
    injection eBy with a1 a2
    injection a1 with a3 a4
    injection a4 with a4 a5
    injection a5 with a5 a6
    rw [eBp] at w1 w3
    rw [eB] at u1 u3
    have w3' : Rp = B b := by simpa using w3
    have w1' : (op_, gp_, hbp, dp_) = (o9, (gva b).toInt, hh (b + 1), d9) := by simpa using w1
    injection w1' with x1 x2
    injection x2 with x2 x3
    injection x3 with x3 x4
    have u3' : R = B b := by simpa using u3
    have u1' : (o, g, hb, d) = (o8, (gva b).toInt, hh (b + 1), d8) := by simpa using u1
    injection u1' with k1 k2
    injection k2 with k2 k3
    injection k3 with k3 k4
    have hR : R = Rp := by rw [w3', u3']
    have hRn : R ≠ [] := by
      rw [u3']
      intro e
      have := (VH b b1.1 (by (first | (apply Int.le_antisymm <;> omega) | omega))).1
      rw [e] at this
      simp at this
    rw [q1] at u2
    have u2' : r = sb b := by simpa using u2
    rw [p4] at w2
    have w2' : r2 = sb b := by simpa using w2
    have hlR : vlive R = true := by rw [eB] at hlv; exact (vlive_cons.mp hlv).2
    obtain ⟨z1, z2⟩ := (cp11 p3).2.2 (by rw [← hR]; exact hRn)
    have eh : hh i = hb + ga g := (c5 z).2.2 hd
    have e9 : (gpt b).toNatClampNeg = p := i32_nat p6
    refine ⟨(b, hb), vzp r R, by rw [q1, eB]; rfl, b1.2.2, ?_, ?_⟩
    · show an ((gpt b).toNatClampNeg + 1) = _
      rw [e9, han _ (by (first | (apply Int.le_antisymm <;> omega) | omega)) (by (first | (apply Int.le_antisymm <;> omega) | omega)), wann_live (by rw [z1, ← hR]; exact hlR), p5, z1, z2, ← hR, w2', u2', x2, x3, eh, k2, k3]
    · show tle (T i) (T ((gpt b).toNatClampNeg + 1)) _
      rw [e9]
      have hmp : b ∈ sb p := by rw [p4]; exact List.mem_cons_self
      have sgp : sgt (T (b + 1)) (T (p + 1)) (hh (b + 1)) := wt_frame hI hV hB hY b1.1 (show p < m by (first | (apply Int.le_antisymm <;> omega) | omega)) hmp (p - b) (p + 1) (by (first | (apply Int.le_antisymm <;> omega) | omega)) (by (first | (apply Int.le_antisymm <;> omega) | omega))
      have sgi : sgt (T (b + 1)) (T i) (hh (b + 1)) := wt_frame hI hV hB hY b1.1 (show i < m by (first | (apply Int.le_antisymm <;> omega) | omega)) hmb (i - (b + 1)) i (by (first | (apply Int.le_antisymm <;> omega) | omega)) (by (first | (apply Int.le_antisymm <;> omega) | omega))
      intro k hk kz
      by_cases q : (k : Int) < hb
      · exact (sgi.symm.trans sgp).tle k (by rw [← k3]; exact q) kz
      · have g6 : g ≠ 64 := by
          intro w
          rw [w] at eh
          unfold ga at eh
          rw [if_pos rfl] at eh
          (first | (apply Int.le_antisymm <;> omega) | omega)
        have ga1 : ga g = 1 := by unfold ga; rw [if_neg g6]
        obtain ⟨k5, k6⟩ := t5 (Or.inl z) g6
        have tg := tp11 p3 (by rw [← a2, ← hR]; exact hRn) (by rw [← a4, x2, ← k2]; exact g6)
        rw [← a5, x3, ← a4, x2, ← k2, ← k3] at tg
        rw [show k = hb.toNat by (first | (apply Int.le_antisymm <;> omega) | omega), tg] at kz
        have w := (hI.2.2.2 b b1.1 (by (first | (apply Int.le_antisymm <;> omega) | omega))).1.1 b1.2.2
        rw [show k = (hh i - 1).toNat by (first | (apply Int.le_antisymm <;> omega) | omega)]
        exact k6 (by (first | (apply Int.le_antisymm <;> omega) | omega))
  · intro b9 r9 zz
    obtain ⟨b, r, e1, e2, -⟩ := v5 z
    have hR : R ≠ [] := by
      intro w
      rw [w, e1] at hRl
      simp at hRl
    obtain ⟨y1, y2⟩ := (c11 z).2.2 hR
    have eh : hh i = hb + ga g := (c11 z).1 hd
    rw [e1, eB] at zz
    have zz' : (b, hb) :: vzp r R = b9 :: r9 := zz
    injection zz' with z1 z2
    have hlR : vlive R = true := by rw [eB] at hlv; exact (vlive_cons.mp hlv).2
    refine ⟨by rw [← z2, han _ (by (first | (apply Int.le_antisymm <;> omega) | omega)) (by (first | (apply Int.le_antisymm <;> omega) | omega)), wann_live (by rw [y1]; exact hlR), e2, y1, y2, eh], ?_⟩
    intro k hk kz
    by_cases q : (k : Int) < hb
    · exact sg.tle k q kz
    · have g6 : g ≠ 64 := by
        intro w
        rw [w] at eh
        unfold ga at eh
        rw [if_pos rfl] at eh
        (first | (apply Int.le_antisymm <;> omega) | omega)
      have ga1 : ga g = 1 := by unfold ga; rw [if_neg g6]
      obtain ⟨k5, k6⟩ := t5 (Or.inr z) g6
      have tg := t11 z hR g6
      have hmb : b ∈ sb i := by rw [e1]; exact List.mem_cons_self
      have b1 := ((hI.2.2.1 i h1 h2).1 b hmb)
      obtain ⟨o8, d8, u1, u2, u3, -⟩ := (VH i h1 h2).2 0 b (by rw [e1]; rfl)
      rw [eB] at u1
      have u1' : (o, g, hb, d) = (o8, (gva b).toInt, hh (b + 1), d8) := by simpa using u1
      injection u1' with k1 k2
      injection k2 with k2 k3
      have w := (hI.2.2.2 b b1.1 (by (first | (apply Int.le_antisymm <;> omega) | omega))).1.1 b1.2.2
      rw [show k = hb.toNat by (first | (apply Int.le_antisymm <;> omega) | omega), tg] at kz
      rw [show k = (hh i - 1).toNat by (first | (apply Int.le_antisymm <;> omega) | omega)]
      exact k6 (by (first | (apply Int.le_antisymm <;> omega) | omega))
  · rcases z with z | ⟨z, zz⟩
    · exact ret (t15 z)
    · intro r0
      obtain ⟨b, r, e1, e2, -⟩ := v5 z
      rw [e1, eB] at zz
      cases zz
  · have w := v1.2.1 (by (first | (apply Int.le_antisymm <;> omega) | omega))
    exact lab _ _ hbh w.1 (t12 z)
  · have w := v1.2.1 (by (first | (apply Int.le_antisymm <;> omega) | omega))
    obtain ⟨y1, y2⟩ := nq _ _ (c13 z) (by (first | (apply Int.le_antisymm <;> omega) | omega)) (by (first | (apply Int.le_antisymm <;> omega) | omega)) (by (first | (apply Int.le_antisymm <;> omega) | omega)) (by (first | (apply Int.le_antisymm <;> omega) | omega))
    exact ⟨by (first | (apply Int.le_antisymm <;> omega) | omega), lab _ _ (by (first | (apply Int.le_antisymm <;> omega) | omega)) w.1 (t13 z).1, by rw [y2, Int.add_zero], (t13 z).2⟩
  · obtain ⟨w1, w2, w3⟩ := v1.2.2.1 z
    have y := c14 z hd
    exact ⟨by (first | (apply Int.le_antisymm <;> omega) | omega), fun k hk => lab _ _ (by (first | (apply Int.le_antisymm <;> omega) | omega)) (hla i h1 him z k hk) (t14 z k hk)⟩
  · obtain ⟨y1, y2, y3⟩ := c16 z
    obtain ⟨y4, y5⟩ := nq _ _ y3 (by (first | (apply Int.le_antisymm <;> omega) | omega)) (by (first | (apply Int.le_antisymm <;> omega) | omega)) (by (first | (apply Int.le_antisymm <;> omega) | omega)) (by (first | (apply Int.le_antisymm <;> omega) | omega))
    obtain ⟨s1, s2, s3⟩ := t16 z
    exact ⟨y1, y2, by (first | (apply Int.le_antisymm <;> omega) | omega), y5, s1.tle, s2, fun r0 _ => Or.inr (s3 r0)⟩
  · obtain ⟨y1, y2⟩ := nq _ _ (c26 z) (by (first | (apply Int.le_antisymm <;> omega) | omega)) (by (first | (apply Int.le_antisymm <;> omega) | omega)) (by (first | (apply Int.le_antisymm <;> omega) | omega)) (by (first | (apply Int.le_antisymm <;> omega) | omega))
    exact ⟨by (first | (apply Int.le_antisymm <;> omega) | omega), by rw [y2, Int.add_zero], (t26 z).tle⟩
  · obtain ⟨y1, y2⟩ := nq _ _ (c27 z) (by (first | (apply Int.le_antisymm <;> omega) | omega)) (by (first | (apply Int.le_antisymm <;> omega) | omega)) (by (first | (apply Int.le_antisymm <;> omega) | omega)) (by (first | (apply Int.le_antisymm <;> omega) | omega))
    exact ⟨by (first | (apply Int.le_antisymm <;> omega) | omega), by rw [y2, show hh i - 3 + 1 = hh i - 2 by (first | (apply Int.le_antisymm <;> omega) | omega)], (t27 z).1.tle, (t27 z).2⟩
  · exact cv z
  · obtain ⟨y1, y2⟩ := nq _ _ (c01 (by (first | (apply Int.le_antisymm <;> omega) | omega))) (by (first | (apply Int.le_antisymm <;> omega) | omega)) (by (first | (apply Int.le_antisymm <;> omega) | omega)) (by (first | (apply Int.le_antisymm <;> omega) | omega)) (by (first | (apply Int.le_antisymm <;> omega) | omega))
    exact ⟨by rw [y2, Int.sub_zero], (t32 z).1.tle, fun q => by rw [← (t32 z).2]; exact q⟩
  · obtain ⟨y1, y2⟩ := nq _ _ (c10 (by (first | (apply Int.le_antisymm <;> omega) | omega))) (by (first | (apply Int.le_antisymm <;> omega) | omega)) (by (first | (apply Int.le_antisymm <;> omega) | omega)) (by (first | (apply Int.le_antisymm <;> omega) | omega)) (by (first | (apply Int.le_antisymm <;> omega) | omega))
    exact ⟨by (first | (apply Int.le_antisymm <;> omega) | omega), by rw [y2, Int.add_zero], (t33 z).1.tle, (t33 z).2⟩
  · obtain ⟨y1, y2⟩ := nq _ _ (c11b (by (first | (apply Int.le_antisymm <;> omega) | omega))) (by (first | (apply Int.le_antisymm <;> omega) | omega)) (by (first | (apply Int.le_antisymm <;> omega) | omega)) (by (first | (apply Int.le_antisymm <;> omega) | omega)) (by (first | (apply Int.le_antisymm <;> omega) | omega))
    obtain ⟨s1, s2, s3⟩ := t34 z
    refine ⟨by (first | (apply Int.le_antisymm <;> omega) | omega), by rw [y2, show hh i - 1 + 1 = hh i by (first | (apply Int.le_antisymm <;> omega) | omega)], fun k hk kz => ?_, s3⟩
    by_cases q : (k : Int) < hh i - 1
    · exact s1.tle k q kz
    · rw [show k = (hh i - 1).toNat by (first | (apply Int.le_antisymm <;> omega) | omega)] at kz ⊢
      exact s2 kz
  · exact cg z
  · obtain ⟨y1, y2⟩ := nq _ _ (c01 (by (first | (apply Int.le_antisymm <;> omega) | omega))) (by (first | (apply Int.le_antisymm <;> omega) | omega)) (by (first | (apply Int.le_antisymm <;> omega) | omega)) (by (first | (apply Int.le_antisymm <;> omega) | omega)) (by (first | (apply Int.le_antisymm <;> omega) | omega))
    exact ⟨by rw [y2, Int.sub_zero], (t35 z).1.tle, fun q => by rw [← (t35 z).2]; exact q⟩
  · obtain ⟨y1, y2⟩ := nq _ _ (c10 (by (first | (apply Int.le_antisymm <;> omega) | omega))) (by (first | (apply Int.le_antisymm <;> omega) | omega)) (by (first | (apply Int.le_antisymm <;> omega) | omega)) (by (first | (apply Int.le_antisymm <;> omega) | omega)) (by (first | (apply Int.le_antisymm <;> omega) | omega))
    exact ⟨by (first | (apply Int.le_antisymm <;> omega) | omega), by rw [y2, Int.add_zero], (t36 z).1.tle, (t36 z).2⟩
  · have z' := z
    unfold opl at z'
    obtain ⟨y1, y2⟩ := nq _ _ (vpl z) (by (first | (apply Int.le_antisymm <;> omega) | omega)) (by (first | (apply Int.le_antisymm <;> omega) | omega)) (by (first | (apply Int.le_antisymm <;> omega) | omega)) (by (first | (apply Int.le_antisymm <;> omega) | omega))
    obtain ⟨s1, s2, s3⟩ := tpl z
    exact ⟨by (first | (apply Int.le_antisymm <;> omega) | omega), y2, s1.tle, fun q k => by rw [← s2 q]; exact k, fun q => s3 (by (first | (apply Int.le_antisymm <;> omega) | omega)) (by unfold sm32; (first | (apply Int.le_antisymm <;> omega) | omega))⟩
end WB
end q_m26

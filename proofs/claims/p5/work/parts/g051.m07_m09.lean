section q_m07
/-! the reference: local types (rows), globalOf, sameName, push, pop .. -/
abbrev b_MD_localType : ByteArray := prog_15_method_69_code
def y_MD_localType : MethodName := ⟨R_MD, "localType", "(IJ)I"⟩
abbrev w_MD_localType : List Cond := .code y_MD_localType b_MD_localType 5 (Option.some .int) :: lw_g
theorem kC_MD_localType : Cond.code y_MD_localType b_MD_localType 5 (Option.some .int) ∈ lw_g := in_c13 103 rfl rfl
theorem d_MD_localType_0 : decode b_MD_localType 0 = .ok (.aload_n 0, 1) := bz_c42 (by decide +kernel)
theorem d_MD_localType_1 : decode b_MD_localType 1 = .ok (.getfield 492, 3) := bz_c180 (by decide +kernel)
theorem d_MD_localType_4 : decode b_MD_localType 4 = .ok (.getfield 533, 3) := bz_c180 (by decide +kernel)
theorem d_MD_localType_7 : decode b_MD_localType 7 = .ok (.aload_n 0, 1) := bz_c42 (by decide +kernel)
theorem d_MD_localType_8 : decode b_MD_localType 8 = .ok (.iload_n 1, 1) := bz_c27 (by decide +kernel)
theorem d_MD_localType_9 : decode b_MD_localType 9 = .ok (.invokevirtual 640, 3) := bz_c182 (by decide +kernel)
theorem d_MD_localType_12 : decode b_MD_localType 12 = .ok (.iaload, 1) := bz_c46 (by decide +kernel)
theorem d_MD_localType_13 : decode b_MD_localType 13 = .ok (.istore 4, 2) := bz_c54 (by decide +kernel)
theorem d_MD_localType_15 : decode b_MD_localType 15 = .ok (.aload_n 0, 1) := bz_c42 (by decide +kernel)
theorem d_MD_localType_16 : decode b_MD_localType 16 = .ok (.lload_n 2, 1) := bz_c32 (by decide +kernel)
theorem d_MD_localType_17 : decode b_MD_localType 17 = .ok (.iload 4, 2) := bz_c21 (by decide +kernel)
theorem d_MD_localType_19 : decode b_MD_localType 19 = .ok (.aload_n 0, 1) := bz_c42 (by decide +kernel)
theorem d_MD_localType_20 : decode b_MD_localType 20 = .ok (.getfield 492, 3) := bz_c180 (by decide +kernel)
theorem d_MD_localType_23 : decode b_MD_localType 23 = .ok (.getfield 602, 3) := bz_c180 (by decide +kernel)
theorem d_MD_localType_26 : decode b_MD_localType 26 = .ok (.iload_n 1, 1) := bz_c27 (by decide +kernel)
theorem d_MD_localType_27 : decode b_MD_localType 27 = .ok (.iaload, 1) := bz_c46 (by decide +kernel)
theorem d_MD_localType_28 : decode b_MD_localType 28 = .ok (.iadd, 1) := bz_c96 (by decide +kernel)
theorem d_MD_localType_29 : decode b_MD_localType 29 = .ok (.i2l, 1) := bz_c133 (by decide +kernel)
theorem d_MD_localType_30 : decode b_MD_localType 30 = .ok (.lcmp, 1) := bz_c148 (by decide +kernel)
theorem d_MD_localType_31 : decode b_MD_localType 31 = .ok (.ifCond .ge 7, 3) := bz_c156 (by decide +kernel)
theorem d_MD_localType_34 : decode b_MD_localType 34 = .ok (.iconst 1, 1) := bz_c4 (by decide +kernel)
theorem d_MD_localType_35 : decode b_MD_localType 35 = .ok (.goto 4, 3) := bz_c167 (by decide +kernel)
theorem d_MD_localType_38 : decode b_MD_localType 38 = .ok (.iconst 0, 1) := bz_c3 (by decide +kernel)
theorem d_MD_localType_39 : decode b_MD_localType 39 = .ok (.invokevirtual 630, 3) := bz_c182 (by decide +kernel)
theorem d_MD_localType_42 : decode b_MD_localType 42 = .ok (.lload_n 2, 1) := bz_c32 (by decide +kernel)
theorem d_MD_localType_43 : decode b_MD_localType 43 = .ok (.iload 4, 2) := bz_c21 (by decide +kernel)
theorem d_MD_localType_45 : decode b_MD_localType 45 = .ok (.i2l, 1) := bz_c133 (by decide +kernel)
theorem d_MD_localType_46 : decode b_MD_localType 46 = .ok (.lcmp, 1) := bz_c148 (by decide +kernel)
theorem d_MD_localType_47 : decode b_MD_localType 47 = .ok (.ifCond .ge 22, 3) := bz_c156 (by decide +kernel)
theorem d_MD_localType_50 : decode b_MD_localType 50 = .ok (.aload_n 0, 1) := bz_c42 (by decide +kernel)
theorem d_MD_localType_51 : decode b_MD_localType 51 = .ok (.getfield 492, 3) := bz_c180 (by decide +kernel)
theorem d_MD_localType_54 : decode b_MD_localType 54 = .ok (.getfield 538, 3) := bz_c180 (by decide +kernel)
theorem d_MD_localType_57 : decode b_MD_localType 57 = .ok (.aload_n 0, 1) := bz_c42 (by decide +kernel)
theorem d_MD_localType_58 : decode b_MD_localType 58 = .ok (.iload_n 1, 1) := bz_c27 (by decide +kernel)
theorem d_MD_localType_59 : decode b_MD_localType 59 = .ok (.invokevirtual 640, 3) := bz_c182 (by decide +kernel)
theorem d_MD_localType_62 : decode b_MD_localType 62 = .ok (.aaload, 1) := bz_c50 (by decide +kernel)
theorem d_MD_localType_63 : decode b_MD_localType 63 = .ok (.lload_n 2, 1) := bz_c32 (by decide +kernel)
theorem d_MD_localType_64 : decode b_MD_localType 64 = .ok (.l2i, 1) := bz_c136 (by decide +kernel)
theorem d_MD_localType_65 : decode b_MD_localType 65 = .ok (.iaload, 1) := bz_c46 (by decide +kernel)
theorem d_MD_localType_66 : decode b_MD_localType 66 = .ok (.goto 18, 3) := bz_c167 (by decide +kernel)
theorem d_MD_localType_69 : decode b_MD_localType 69 = .ok (.aload_n 0, 1) := bz_c42 (by decide +kernel)
theorem d_MD_localType_70 : decode b_MD_localType 70 = .ok (.getfield 492, 3) := bz_c180 (by decide +kernel)
theorem d_MD_localType_73 : decode b_MD_localType 73 = .ok (.getfield 605, 3) := bz_c180 (by decide +kernel)
theorem d_MD_localType_76 : decode b_MD_localType 76 = .ok (.iload_n 1, 1) := bz_c27 (by decide +kernel)
theorem d_MD_localType_77 : decode b_MD_localType 77 = .ok (.aaload, 1) := bz_c50 (by decide +kernel)
theorem d_MD_localType_78 : decode b_MD_localType 78 = .ok (.lload_n 2, 1) := bz_c32 (by decide +kernel)
theorem d_MD_localType_79 : decode b_MD_localType 79 = .ok (.l2i, 1) := bz_c136 (by decide +kernel)
theorem d_MD_localType_80 : decode b_MD_localType 80 = .ok (.iload 4, 2) := bz_c21 (by decide +kernel)
theorem d_MD_localType_82 : decode b_MD_localType 82 = .ok (.isub, 1) := bz_c100 (by decide +kernel)
theorem d_MD_localType_83 : decode b_MD_localType 83 = .ok (.iaload, 1) := bz_c46 (by decide +kernel)
theorem d_MD_localType_84 : decode b_MD_localType 84 = .ok (.ireturn, 1) := bz_c172 (by decide +kernel)
theorem kM_MD_640 : Cond.methodLink R_MD 640 y_MD_type1 ∈ lw_g := in_c13 64 rfl rfl
theorem kV_MD_type1 : Cond.instanceMethod y_MD_type1 ∈ lw_g := in_c13 66 rfl rfl
theorem kS_MD_type1 : Cond.selects R_MD y_MD_type1 y_MD_type1 ∈ lw_g := in_s 184 (by decide +kernel) rfl
theorem kM_MD_630 : Cond.methodLink R_MD 630 y_MD_valid ∈ lw_g := in_c13 52 rfl rfl
theorem kV_MD_valid : Cond.instanceMethod y_MD_valid ∈ lw_g := in_c13 54 rfl rfl
theorem kS_MD_valid : Cond.selects R_MD y_MD_valid y_MD_valid ∈ lw_g := in_s 181 (by decide +kernel) rfl
abbrev at_MD_localType (dC : Nat → ClassId) (dI : Nat → Nat → Nat) (h0 rf tap h0_globalNames_r h0_globalPlaces_r h0_globalTypes_r h0_globalValues_r h0_funs_r h0_levels_r h0_known_r mad mag h0_smalls_r h0_greats_r h0_module_r h0_spare_r mm blk stk hgt lab ous kis los mem glo val ffu fre fba fla lat lhe rsl arg mby mpc mpt mre mto mca mce mlc mlt mgt mgk mgc mst mek meo mna mnl men mel : Nat) (cmpt cmlt cmpc cmto cmlc cr : ClassId) (h0_taped : Int32) (h0_length : Int32) (h0_kind : Int32) (h0_from : Int32) (h0_to : Int32) (h0_word : Value) (h0_numeral : Int64) (h0_globalCount : Int32) (h0_funCount : Int32) (h0_open : Int32) (h0_signs : Int32) (h0_now : Value) (h0_knownCount : Int32) (h0_loops : Int32) (h0_madeLength : Int32) (h0_cursor : Int32) (h0_limit : Int32) (h0_top : Int32) (h0_depth : Int32) (h0_function : Int32) (h0_pages : Int32) (h0_valueTop : Int32) (h0_frames : Int32) (h0_labelTop : Int32) (h0_steps : Int32) (h0_there : Int32) (h0_resultLength : Int32) (h0_reason : Int32) (h0_place : Int32) (h0_argumentCount : Int32) (h0_code : Int32) (rf_backtrace : Value) (rf_detailMessage : Value) (rf_cause : Value) (rf_stackTrace : Value) (rf_depth : Int32) (rf_suppressedExceptions : Value) (mm_length : Int32) (mm_types : Int32) (mm_functions : Int32) (mm_codes : Int32) (mm_memories : Int32) (mm_least : Int64) (mm_most : Int64) (mm_hasMost : Int32) (mm_globals : Int32) (mm_exports : Int32) (gmpt : Nat → Option Nat) (gmlt : Nat → Option Nat) (gmpc : Nat → Int32) (gmto : Nat → Int64) (gmlc : Nat → Int32) (LP : List Nat) (fP : Nat → va_E) (A : Nat → Prop) (u : Int32 × Int32) (t : State) : Prop := match u with | (rf_place, rf_reason) => va_P (dC, dI) cls2 (((wz_323 h0 rf tap h0_taped h0_length h0_kind h0_from h0_to h0_word h0_numeral h0_globalNames_r h0_globalPlaces_r h0_globalTypes_r h0_globalValues_r h0_globalCount h0_funs_r h0_funCount h0_open h0_signs h0_levels_r h0_now h0_known_r h0_knownCount h0_loops mad h0_madeLength mag h0_smalls_r h0_greats_r h0_module_r h0_spare_r mm h0_cursor h0_limit blk stk h0_top hgt lab ous kis los h0_depth h0_function mem h0_pages glo val h0_valueTop ffu fre fba fla h0_frames lat lhe h0_labelTop h0_steps h0_there rsl h0_resultLength h0_reason h0_place arg h0_argumentCount h0_code rf rf_backtrace rf_detailMessage rf_cause rf_stackTrace rf_depth rf_suppressedExceptions rf_reason rf_place mm mby mm_length mm_types mpc mpt mre mm_functions mto mm_codes mca mce mlc mlt mm_memories mm_least mm_most mm_hasMost mm_globals mgt mgk mgc mst mm_exports mek meo mna mnl men mel mpt cmpt gmpt mlt cmlt gmlt mpc cmpc gmpc mto cmto gmto mlc cmlc gmlc) : va_W) ++ va_pl LP fP) t.heap ∧ va_K (dC, dI) cls2 [(cmpt, .array .int), (cmlt, .array .int), (cmpc, .int), (cmto, .long), (cmlc, .int), (cr, .int)] t ∧ va_D A (((wz_323 h0 rf tap h0_taped h0_length h0_kind h0_from h0_to h0_word h0_numeral h0_globalNames_r h0_globalPlaces_r h0_globalTypes_r h0_globalValues_r h0_globalCount h0_funs_r h0_funCount h0_open h0_signs h0_levels_r h0_now h0_known_r h0_knownCount h0_loops mad h0_madeLength mag h0_smalls_r h0_greats_r h0_module_r h0_spare_r mm h0_cursor h0_limit blk stk h0_top hgt lab ous kis los h0_depth h0_function mem h0_pages glo val h0_valueTop ffu fre fba fla h0_frames lat lhe h0_labelTop h0_steps h0_there rsl h0_resultLength h0_reason h0_place arg h0_argumentCount h0_code rf rf_backtrace rf_detailMessage rf_cause rf_stackTrace rf_depth rf_suppressedExceptions rf_reason rf_place mm mby mm_length mm_types mpc mpt mre mm_functions mto mm_codes mca mce mlc mlt mm_memories mm_least mm_most mm_hasMost mm_globals mgt mgk mgc mst mm_exports mek meo mna mnl men mel mpt cmpt gmpt mlt cmlt gmlt mpc cmpc gmpc mto cmto gmto mlc cmlc gmlc) : va_W) ++ va_pl LP fP)
set_option maxHeartbeats 4000000 in
set_option maxRecDepth 100000 in
theorem c_MD_localType (l : Launch) (hlt : l.stackTraces = false) (dC : Nat → ClassId) (dI : Nat → Nat → Nat) (sz : Nat) (h0 rf tap h0_globalNames_r h0_globalPlaces_r h0_globalTypes_r h0_globalValues_r h0_funs_r h0_levels_r h0_known_r mad mag h0_smalls_r h0_greats_r h0_module_r h0_spare_r mm blk stk hgt lab ous kis los mem glo val ffu fre fba fla lat lhe rsl arg mby mpc mpt mre mto mca mce mlc mlt mgt mgk mgc mst mek meo mna mnl men mel : Nat) (cmpt cmlt cmpc cmto cmlc cr : ClassId) (h0_taped : Int32) (h0_length : Int32) (h0_kind : Int32) (h0_from : Int32) (h0_to : Int32) (h0_word : Value) (h0_numeral : Int64) (h0_globalCount : Int32) (h0_funCount : Int32) (h0_open : Int32) (h0_signs : Int32) (h0_now : Value) (h0_knownCount : Int32) (h0_loops : Int32) (h0_madeLength : Int32) (h0_cursor : Int32) (h0_limit : Int32) (h0_top : Int32) (h0_depth : Int32) (h0_function : Int32) (h0_pages : Int32) (h0_valueTop : Int32) (h0_frames : Int32) (h0_labelTop : Int32) (h0_steps : Int32) (h0_there : Int32) (h0_resultLength : Int32) (h0_reason : Int32) (h0_place : Int32) (h0_argumentCount : Int32) (h0_code : Int32) (rf_backtrace : Value) (rf_detailMessage : Value) (rf_cause : Value) (rf_stackTrace : Value) (rf_depth : Int32) (rf_suppressedExceptions : Value) (rf_reason : Int32) (rf_place : Int32) (mm_length : Int32) (mm_types : Int32) (mm_functions : Int32) (mm_codes : Int32) (mm_memories : Int32) (mm_least : Int64) (mm_most : Int64) (mm_hasMost : Int32) (mm_globals : Int32) (mm_exports : Int32) (gmpt : Nat → Option Nat) (gmlt : Nat → Option Nat) (gmpc : Nat → Int32) (gmto : Nat → Int64) (gmlc : Nat → Int32) (LP : List Nat) (fP : Nat → va_E) (M1 : Nat → Nat → Int32) (M2 : Nat → Nat → Int32)  (b_gmpc : ∀ j : Nat, 0 ≤ (gmpc j).toInt ∧ (gmpc j).toInt ≤ 8) (b_gmlc : ∀ j : Nat, 0 ≤ (gmlc j).toInt ∧ (gmlc j).toInt ≤ 60) (p0 : Int32) (p1 : Int64) (ba0 : 0 ≤ p0.toInt ∧ p0.toInt ≤ 29) (hg1 : bx (grd LP fP cr gmpt 20 8 M1)) (hg2 : bx (grd LP fP cr gmlt 30 60 M2)) (ht9 : 0 ≤ (gmto p0.toNatClampNeg).toInt ∧ (gmto p0.toNatClampNeg).toInt < 20) (hp : 0 ≤ p1.toInt) : tz_Met l y_MD_localType w_MD_localType ({ frames := 2, cells := 0, slots := 0, locals := 43 }) (va_Pc [.ref h0, .int p0, .long p1] (fun U => U.heap.size = sz ∧ va_P (dC, dI) cls2 (((wz_323 h0 rf tap h0_taped h0_length h0_kind h0_from h0_to h0_word h0_numeral h0_globalNames_r h0_globalPlaces_r h0_globalTypes_r h0_globalValues_r h0_globalCount h0_funs_r h0_funCount h0_open h0_signs h0_levels_r h0_now h0_known_r h0_knownCount h0_loops mad h0_madeLength mag h0_smalls_r h0_greats_r h0_module_r h0_spare_r mm h0_cursor h0_limit blk stk h0_top hgt lab ous kis los h0_depth h0_function mem h0_pages glo val h0_valueTop ffu fre fba fla h0_frames lat lhe h0_labelTop h0_steps h0_there rsl h0_resultLength h0_reason h0_place arg h0_argumentCount h0_code rf rf_backtrace rf_detailMessage rf_cause rf_stackTrace rf_depth rf_suppressedExceptions rf_reason rf_place mm mby mm_length mm_types mpc mpt mre mm_functions mto mm_codes mca mce mlc mlt mm_memories mm_least mm_most mm_hasMost mm_globals mgt mgk mgc mst mm_exports mek meo mna mnl men mel mpt cmpt gmpt mlt cmlt gmlt mpc cmpc gmpc mto cmto gmto mlc cmlc gmlc) : va_W) ++ va_pl LP fP) U.heap ∧ va_K (dC, dI) cls2 [(cmpt, .array .int), (cmlt, .array .int), (cmpc, .int), (cmto, .long), (cmlc, .int), (cr, .int)] U ∧ va_D (fun _ => True) (((wz_323 h0 rf tap h0_taped h0_length h0_kind h0_from h0_to h0_word h0_numeral h0_globalNames_r h0_globalPlaces_r h0_globalTypes_r h0_globalValues_r h0_globalCount h0_funs_r h0_funCount h0_open h0_signs h0_levels_r h0_now h0_known_r h0_knownCount h0_loops mad h0_madeLength mag h0_smalls_r h0_greats_r h0_module_r h0_spare_r mm h0_cursor h0_limit blk stk h0_top hgt lab ous kis los h0_depth h0_function mem h0_pages glo val h0_valueTop ffu fre fba fla h0_frames lat lhe h0_labelTop h0_steps h0_there rsl h0_resultLength h0_reason h0_place arg h0_argumentCount h0_code rf rf_backtrace rf_detailMessage rf_cause rf_stackTrace rf_depth rf_suppressedExceptions rf_reason rf_place mm mby mm_length mm_types mpc mpt mre mm_functions mto mm_codes mca mce mlc mlt mm_memories mm_least mm_most mm_hasMost mm_globals mgt mgk mgc mst mm_exports mek meo mna mnl men mel mpt cmpt gmpt mlt cmlt gmlt mpc cmpc gmpc mto cmto gmto mlc cmlc gmlc) : va_W) ++ va_pl LP fP) ∧ sw_nest U)) (tq_Q (tr_i (fun (r : Int32) (u : Int32 × Int32) => match u with | (rf_place2, rf_reason2) => ((p1.toInt < (gmpc (gmto p0.toNatClampNeg).toInt.toNat).toInt → r = M1 (gmto p0.toNatClampNeg).toInt.toNat p1.toInt.toNat) ∧ ((gmpc (gmto p0.toNatClampNeg).toInt.toNat).toInt ≤ p1.toInt → r = M2 p0.toNatClampNeg (p1.toInt - (gmpc (gmto p0.toNatClampNeg).toInt.toNat).toInt).toNat) ∧ p1.toInt < (gmpc (gmto p0.toNatClampNeg).toInt.toNat).toInt + (gmlc p0.toNatClampNeg).toInt)) rf "WaferForgeModel$Refused" (fun (u : Int32 × Int32) => match u with | (rf_place2, rf_reason2) => True)) (at_MD_localType dC dI h0 rf tap h0_globalNames_r h0_globalPlaces_r h0_globalTypes_r h0_globalValues_r h0_funs_r h0_levels_r h0_known_r mad mag h0_smalls_r h0_greats_r h0_module_r h0_spare_r mm blk stk hgt lab ous kis los mem glo val ffu fre fba fla lat lhe rsl arg mby mpc mpt mre mto mca mce mlc mlt mgt mgk mgc mst mek meo mna mnl men mel cmpt cmlt cmpc cmto cmlc cr h0_taped h0_length h0_kind h0_from h0_to h0_word h0_numeral h0_globalCount h0_funCount h0_open h0_signs h0_now h0_knownCount h0_loops h0_madeLength h0_cursor h0_limit h0_top h0_depth h0_function h0_pages h0_valueTop h0_frames h0_labelTop h0_steps h0_there h0_resultLength h0_reason h0_place h0_argumentCount h0_code rf_backtrace rf_detailMessage rf_cause rf_stackTrace rf_depth rf_suppressedExceptions mm_length mm_types mm_functions mm_codes mm_memories mm_least mm_most mm_hasMost mm_globals mm_exports gmpt gmlt gmpc gmto gmlc LP fP (va_A (((wz_323 h0 rf tap h0_taped h0_length h0_kind h0_from h0_to h0_word h0_numeral h0_globalNames_r h0_globalPlaces_r h0_globalTypes_r h0_globalValues_r h0_globalCount h0_funs_r h0_funCount h0_open h0_signs h0_levels_r h0_now h0_known_r h0_knownCount h0_loops mad h0_madeLength mag h0_smalls_r h0_greats_r h0_module_r h0_spare_r mm h0_cursor h0_limit blk stk h0_top hgt lab ous kis los h0_depth h0_function mem h0_pages glo val h0_valueTop ffu fre fba fla h0_frames lat lhe h0_labelTop h0_steps h0_there rsl h0_resultLength h0_reason h0_place arg h0_argumentCount h0_code rf rf_backtrace rf_detailMessage rf_cause rf_stackTrace rf_depth rf_suppressedExceptions rf_reason rf_place mm mby mm_length mm_types mpc mpt mre mm_functions mto mm_codes mca mce mlc mlt mm_memories mm_least mm_most mm_hasMost mm_globals mgt mgk mgc mst mm_exports mek meo mna mnl men mel mpt cmpt gmpt mlt cmlt gmlt mpc cmpc gmpc mto cmto gmto mlc cmlc gmlc) : va_W) ++ va_pl LP fP) sz)) (va_A (((wz_323 h0 rf tap h0_taped h0_length h0_kind h0_from h0_to h0_word h0_numeral h0_globalNames_r h0_globalPlaces_r h0_globalTypes_r h0_globalValues_r h0_globalCount h0_funs_r h0_funCount h0_open h0_signs h0_levels_r h0_now h0_known_r h0_knownCount h0_loops mad h0_madeLength mag h0_smalls_r h0_greats_r h0_module_r h0_spare_r mm h0_cursor h0_limit blk stk h0_top hgt lab ous kis los h0_depth h0_function mem h0_pages glo val h0_valueTop ffu fre fba fla h0_frames lat lhe h0_labelTop h0_steps h0_there rsl h0_resultLength h0_reason h0_place arg h0_argumentCount h0_code rf rf_backtrace rf_detailMessage rf_cause rf_stackTrace rf_depth rf_suppressedExceptions rf_reason rf_place mm mby mm_length mm_types mpc mpt mre mm_functions mto mm_codes mca mce mlc mlt mm_memories mm_least mm_most mm_hasMost mm_globals mgt mgk mgc mst mm_exports mek meo mna mnl men mel mpt cmpt gmpt mlt cmlt gmlt mpc cmpc gmpc mto cmto gmto mlc cmlc gmlc) : va_W) ++ va_pl LP fP) sz)) (tz_k 0 0 0 0) (va_A (((wz_323 h0 rf tap h0_taped h0_length h0_kind h0_from h0_to h0_word h0_numeral h0_globalNames_r h0_globalPlaces_r h0_globalTypes_r h0_globalValues_r h0_globalCount h0_funs_r h0_funCount h0_open h0_signs h0_levels_r h0_now h0_known_r h0_knownCount h0_loops mad h0_madeLength mag h0_smalls_r h0_greats_r h0_module_r h0_spare_r mm h0_cursor h0_limit blk stk h0_top hgt lab ous kis los h0_depth h0_function mem h0_pages glo val h0_valueTop ffu fre fba fla h0_frames lat lhe h0_labelTop h0_steps h0_there rsl h0_resultLength h0_reason h0_place arg h0_argumentCount h0_code rf rf_backtrace rf_detailMessage rf_cause rf_stackTrace rf_depth rf_suppressedExceptions rf_reason rf_place mm mby mm_length mm_types mpc mpt mre mm_functions mto mm_codes mca mce mlc mlt mm_memories mm_least mm_most mm_hasMost mm_globals mgt mgk mgc mst mm_exports mek meo mna mnl men mel mpt cmpt gmpt mlt cmlt gmlt mpc cmpc gmpc mto cmto gmto mlc cmlc gmlc) : va_W) ++ va_pl LP fP) sz) := by
  refine tz_ofW (cc := b_MD_localType) (maxL := 5) (ret := (Option.some .int)) (by decide) rfl ?_
  intro p e s m args below meth c s₁ B hml hno hv
  obtain ⟨rfl, hsz, hP, hK, hD0, hSW⟩ := hv
  have hx := B.exec
  have hb := B.bytes
  have hr := B.returns
  have hts0 := atoms_spec (ws := w_MD_localType) B.pre
  have hts : ∀ w ∈ lw_g, w.before _ s = true := fun w h => hts0 w (List.mem_cons_of_mem _ h)
  have hown : s.vm.findClass R_MD = some m.cls := findClass_of_methodNamed B.named
  have hlocks := B.notSynchronized
  clear hts0
  subst hsz
  have hD := hD0.self (sz := s.heap.size)
  generalize hAe : va_A (((wz_323 h0 rf tap h0_taped h0_length h0_kind h0_from h0_to h0_word h0_numeral h0_globalNames_r h0_globalPlaces_r h0_globalTypes_r h0_globalValues_r h0_globalCount h0_funs_r h0_funCount h0_open h0_signs h0_levels_r h0_now h0_known_r h0_knownCount h0_loops mad h0_madeLength mag h0_smalls_r h0_greats_r h0_module_r h0_spare_r mm h0_cursor h0_limit blk stk h0_top hgt lab ous kis los h0_depth h0_function mem h0_pages glo val h0_valueTop ffu fre fba fla h0_frames lat lhe h0_labelTop h0_steps h0_there rsl h0_resultLength h0_reason h0_place arg h0_argumentCount h0_code rf rf_backtrace rf_detailMessage rf_cause rf_stackTrace rf_depth rf_suppressedExceptions rf_reason rf_place mm mby mm_length mm_types mpc mpt mre mm_functions mto mm_codes mca mce mlc mlt mm_memories mm_least mm_most mm_hasMost mm_globals mgt mgk mgc mst mm_exports mek meo mna mnl men mel mpt cmpt gmpt mlt cmlt gmlt mpc cmpc gmpc mto cmto gmto mlc cmlc gmlc) : va_W) ++ va_pl LP fP) s.heap.size = A at hD ⊢
  have hA : ∀ q : Nat, s.heap.size ≤ q → A q := fun q h => by rw [← hAe]; exact Or.inr h
  clear hAe
  have hP : va_P (dC, dI) cls2 (((wz_323 h0 rf tap h0_taped h0_length h0_kind h0_from h0_to h0_word h0_numeral h0_globalNames_r h0_globalPlaces_r h0_globalTypes_r h0_globalValues_r h0_globalCount h0_funs_r h0_funCount h0_open h0_signs h0_levels_r h0_now h0_known_r h0_knownCount h0_loops mad h0_madeLength mag h0_smalls_r h0_greats_r h0_module_r h0_spare_r mm h0_cursor h0_limit blk stk h0_top hgt lab ous kis los h0_depth h0_function mem h0_pages glo val h0_valueTop ffu fre fba fla h0_frames lat lhe h0_labelTop h0_steps h0_there rsl h0_resultLength h0_reason h0_place arg h0_argumentCount h0_code rf rf_backtrace rf_detailMessage rf_cause rf_stackTrace rf_depth rf_suppressedExceptions rf_reason rf_place mm mby mm_length mm_types mpc mpt mre mm_functions mto mm_codes mca mce mlc mlt mm_memories mm_least mm_most mm_hasMost mm_globals mgt mgk mgc mst mm_exports mek meo mna mnl men mel mpt cmpt gmpt mlt cmlt gmlt mpc cmpc gmpc mto cmto gmto mlc cmlc gmlc) : va_W) ++ va_pl LP fP) s.heap := hP
  have hl := lv_entry ([.ref h0, .int p0, .long p1]) (n := 5) (Nat.le_of_ble_eq_true rfl)
  rw [lg_entry_eq]
  generalize (lg_sl ([.ref h0, .int p0, .long p1]) ++ List.replicate (5 - (lg_sl ([.ref h0, .int p0, .long p1])).length) Slot.unset).toArray = ls at hl ⊢
  have hl : lv_has ls 5 [(0, .ref h0), (1, .int p0), (2, .long p1)] := hl
  have k0 : (0 : Int32).toInt = 0 := by decide
  refine w_gen (A := A) hP (fun H locs hP hS => ?_)
  have k1 : (1 : Int32).toInt = 1 := by decide
  have lo_p0 := i32_lo p0
  have hi_p0 := i32_hi p0
  have hnd := vq_nd hD
  have hc9 := i32_clamp (x := p0) (by (first | (apply Int.le_antisymm <;> omega) | omega))
  refine lv_aload_n hx hb d_MD_localType_0 rfl (lv_at hl 0 rfl) ?_
  refine va_get (D := (dC, dI)) (ci := 11) (v := .ref mm) (C := R_MD) (T := F_MD) (N := 65) hx hb hts i_MD hown hK hP 0 rfl rfl 30 (by decide) (hts _ kF_MD_492) (fun _ h9 => h9) rfl d_MD_localType_1 ?_
  refine va_getN (D := (dC, dI)) (ci := 12) (v := .ref mpc) (C := R_MM) (T := F_MM) (N := 29) hx hb hts i_MM hown hK hP 2 rfl rfl 3 (by decide) (sn_f (k := 8) hSW rfl) (fun _ h9 => h9) rfl d_MD_localType_4 ?_
  refine lv_aload_n hx hb d_MD_localType_7 rfl (lv_at hl 0 rfl) ?_
  refine lv_iload_n hx hb d_MD_localType_8 rfl (lv_at hl 1 rfl) ?_
  have hPc := hP.sb (wq := (wz_322 h0 rf tap h0_taped h0_length h0_kind h0_from h0_to h0_word h0_numeral h0_globalNames_r h0_globalPlaces_r h0_globalTypes_r h0_globalValues_r h0_globalCount h0_funs_r h0_funCount h0_open h0_signs h0_levels_r h0_now h0_known_r h0_knownCount h0_loops mad h0_madeLength mag h0_smalls_r h0_greats_r h0_module_r h0_spare_r mm h0_cursor h0_limit blk stk h0_top hgt lab ous kis los h0_depth h0_function mem h0_pages glo val h0_valueTop ffu fre fba fla h0_frames lat lhe h0_labelTop h0_steps h0_there rsl h0_resultLength h0_reason h0_place arg h0_argumentCount h0_code mm mby mm_length mm_types mpc mpt mre mm_functions mto mm_codes mca mce mlc mlt mm_memories mm_least mm_most mm_hasMost mm_globals mgt mgk mgc mst mm_exports mek meo mna mnl men mel mto cmto gmto)) [0, 2, 6] rfl
  have hDc := hD.sb (wq := (wz_322 h0 rf tap h0_taped h0_length h0_kind h0_from h0_to h0_word h0_numeral h0_globalNames_r h0_globalPlaces_r h0_globalTypes_r h0_globalValues_r h0_globalCount h0_funs_r h0_funCount h0_open h0_signs h0_levels_r h0_now h0_known_r h0_knownCount h0_loops mad h0_madeLength mag h0_smalls_r h0_greats_r h0_module_r h0_spare_r mm h0_cursor h0_limit blk stk h0_top hgt lab ous kis los h0_depth h0_function mem h0_pages glo val h0_valueTop ffu fre fba fla h0_frames lat lhe h0_labelTop h0_steps h0_there rsl h0_resultLength h0_reason h0_place arg h0_argumentCount h0_code mm mby mm_length mm_types mpc mpt mre mm_functions mto mm_codes mca mce mlc mlt mm_memories mm_least mm_most mm_hasMost mm_globals mgt mgk mgc mst mm_exports mek meo mna mnl men mel mto cmto gmto)) [0, 2, 6] (by decide) rfl
  have hKc := hK.sb (tyq := [(cmto, .long)]) [3] rfl
  have hFc := va_free (wc := (wz_322 h0 rf tap h0_taped h0_length h0_kind h0_from h0_to h0_word h0_numeral h0_globalNames_r h0_globalPlaces_r h0_globalTypes_r h0_globalValues_r h0_globalCount h0_funs_r h0_funCount h0_open h0_signs h0_levels_r h0_now h0_known_r h0_knownCount h0_loops mad h0_madeLength mag h0_smalls_r h0_greats_r h0_module_r h0_spare_r mm h0_cursor h0_limit blk stk h0_top hgt lab ous kis los h0_depth h0_function mem h0_pages glo val h0_valueTop ffu fre fba fla h0_frames lat lhe h0_labelTop h0_steps h0_there rsl h0_resultLength h0_reason h0_place arg h0_argumentCount h0_code mm mby mm_length mm_types mpc mpt mre mm_functions mto mm_codes mca mce mlc mlt mm_memories mm_least mm_most mm_hasMost mm_globals mgt mgk mgc mst mm_exports mek meo mna mnl men mel mto cmto gmto)) hD hS hA [0, 2, 6] rfl
  refine va_calli (va_runV (As := [.int p0]) (rest := [.ref mpc]) ⟨hx, hb, hml, hown, hts⟩ (c_MD_type1 l dC dI H.size h0 rf tap h0_globalNames_r h0_globalPlaces_r h0_globalTypes_r h0_globalValues_r h0_funs_r h0_levels_r h0_known_r mad mag h0_smalls_r h0_greats_r h0_module_r h0_spare_r mm blk stk hgt lab ous kis los mem glo val ffu fre fba fla lat lhe rsl arg mby mpc mpt mre mto mca mce mlc mlt mgt mgk mgc mst mek meo mna mnl men mel cmto h0_taped h0_length h0_kind h0_from h0_to h0_word h0_numeral h0_globalCount h0_funCount h0_open h0_signs h0_now h0_knownCount h0_loops h0_madeLength h0_cursor h0_limit h0_top h0_depth h0_function h0_pages h0_valueTop h0_frames h0_labelTop h0_steps h0_there h0_resultLength h0_reason h0_place h0_argumentCount h0_code mm_length mm_types mm_functions mm_codes mm_memories mm_least mm_most mm_hasMost mm_globals mm_exports gmto p0 (ba0) (by (first | (apply Int.le_antisymm <;> omega) | omega))) (cwV 1 hts (gV kM_MD_640 kV_MD_type1 kS_MD_type1 kI_MD kC_MD_type1) rfl rfl rfl (by decide +kernel) ⟨Nat.le_of_ble_eq_true rfl, Nat.le_of_ble_eq_true rfl⟩) ⟨fun a U g mk z => by obtain ⟨z0, z1, zP, zK, zD, zS⟩ := z; exact ⟨z0, z1, zP, va_K.moved (u := U) (U := U.calling g mk a) (Vm.Alike.refl U.vm) zK, zD, sw_nest.same (s := U) (U := U.calling g mk a) rfl zS⟩, va_recv hKc hPc (ci := 11) (q0 := 0) rfl rfl, fun U hU hW => ⟨rfl, by rw [hU], va_P.he hU.symm hPc, va_K.moved hW.alike hKc, hDc.weaken (fun _ _ _ _ => trivial), hSW.warm hW⟩⟩ rfl rfl hl.1 rfl (lv_room (Nat.le_of_ble_eq_true rfl)) d_MD_localType_9 ⟨(Nat.zero_le _), (Nat.zero_le _)⟩) hS (fun q _ h => hFc q h) hFc (fun r1 u t H1 locs ht hvm hw hB hz1 hk1 hS => ?_)
  try dsimp only at hw
  have xr1 := hw
  try clear hw
  have tr1 := xr1
  obtain ⟨hP1, hK1, hD1⟩ := hB
  replace hP1 := va_P.he ht hP1
  obtain ⟨hP, hD⟩ := va_joinQ (wr := [(rf, .inr (15, [rf_backtrace, rf_detailMessage, rf_cause, rf_stackTrace, .int rf_depth, rf_suppressedExceptions, .int rf_reason, .int rf_place])), (mpt, .inl (cmpt, 20, .inr (.inr (.inr (.inr gmpt))))), (mlt, .inl (cmlt, 30, .inr (.inr (.inr (.inr gmlt))))), (mpc, .inl (cmpc, 20, .inl gmpc)), (mlc, .inl (cmlc, 30, .inl gmlc))]) (w1 := (wz_322 h0 rf tap h0_taped h0_length h0_kind h0_from h0_to h0_word h0_numeral h0_globalNames_r h0_globalPlaces_r h0_globalTypes_r h0_globalValues_r h0_globalCount h0_funs_r h0_funCount h0_open h0_signs h0_levels_r h0_now h0_known_r h0_knownCount h0_loops mad h0_madeLength mag h0_smalls_r h0_greats_r h0_module_r h0_spare_r mm h0_cursor h0_limit blk stk h0_top hgt lab ous kis los h0_depth h0_function mem h0_pages glo val h0_valueTop ffu fre fba fla h0_frames lat lhe h0_labelTop h0_steps h0_there rsl h0_resultLength h0_reason h0_place arg h0_argumentCount h0_code mm mby mm_length mm_types mpc mpt mre mm_functions mto mm_codes mca mce mlc mlt mm_memories mm_least mm_most mm_hasMost mm_globals mgt mgk mgc mst mm_exports mek meo mna mnl men mel mto cmto gmto)) hP hD [0, 2, 6] [1, 3, 4, 5, 7] rfl rfl (by decide) (by decide) hk1 hFc hP1 hD1
  clear hPc hDc hKc hFc hz1 hk1 hP1 hK1 hD1
  rename Heap => H
  have hP : va_P (dC, dI) cls2 (([(rf, .inr (15, [rf_backtrace, rf_detailMessage, rf_cause, rf_stackTrace, .int rf_depth, rf_suppressedExceptions, .int rf_reason, .int rf_place])), (mpt, .inl (cmpt, 20, .inr (.inr (.inr (.inr gmpt))))), (mlt, .inl (cmlt, 30, .inr (.inr (.inr (.inr gmlt))))), (mpc, .inl (cmpc, 20, .inl gmpc)), (mlc, .inl (cmlc, 30, .inl gmlc)), (h0, .inr (11, (.ref rf :: .ref tap :: .int h0_taped :: .int h0_length :: .int h0_kind :: .int h0_from :: .int h0_to :: h0_word :: .long h0_numeral :: .ref h0_globalNames_r :: .ref h0_globalPlaces_r :: .ref h0_globalTypes_r :: .ref h0_globalValues_r :: .int h0_globalCount :: .ref h0_funs_r :: .int h0_funCount :: .int h0_open :: .int h0_signs :: .ref h0_levels_r :: h0_now :: .ref h0_known_r :: .int h0_knownCount :: .int h0_loops :: .ref mad :: .int h0_madeLength :: .ref mag :: .ref h0_smalls_r :: .ref h0_greats_r :: .ref h0_module_r :: .ref h0_spare_r :: .ref mm :: .int h0_cursor :: .int h0_limit :: [ .ref blk, .ref stk, .int h0_top, .ref hgt, .ref lab, .ref ous, .ref kis, .ref los, .int h0_depth, .int h0_function, .ref mem, .int h0_pages, .ref glo, .ref val, .int h0_valueTop, .ref ffu, .ref fre, .ref fba, .ref fla, .int h0_frames, .ref lat, .ref lhe, .int h0_labelTop, .int h0_steps, .int h0_there, .ref rsl, .int h0_resultLength, .int h0_reason, .int h0_place, .ref arg, .int h0_argumentCount, .int h0_code]))), (mm, .inr (12, [.ref mby, .int mm_length, .int mm_types, .ref mpc, .ref mpt, .ref mre, .int mm_functions, .ref mto, .int mm_codes, .ref mca, .ref mce, .ref mlc, .ref mlt, .int mm_memories, .long mm_least, .long mm_most, .int mm_hasMost, .int mm_globals, .ref mgt, .ref mgk, .ref mgc, .ref mst, .int mm_exports, .ref mek, .ref meo, .ref mna, .ref mnl, .ref men, .ref mel])), (mto, .inl (cmto, 30, .inr (.inl gmto)))] : va_W) ++ va_pl LP fP) H := hP
  have hD : va_D A (([(rf, .inr (15, [rf_backtrace, rf_detailMessage, rf_cause, rf_stackTrace, .int rf_depth, rf_suppressedExceptions, .int rf_reason, .int rf_place])), (mpt, .inl (cmpt, 20, .inr (.inr (.inr (.inr gmpt))))), (mlt, .inl (cmlt, 30, .inr (.inr (.inr (.inr gmlt))))), (mpc, .inl (cmpc, 20, .inl gmpc)), (mlc, .inl (cmlc, 30, .inl gmlc)), (h0, .inr (11, (.ref rf :: .ref tap :: .int h0_taped :: .int h0_length :: .int h0_kind :: .int h0_from :: .int h0_to :: h0_word :: .long h0_numeral :: .ref h0_globalNames_r :: .ref h0_globalPlaces_r :: .ref h0_globalTypes_r :: .ref h0_globalValues_r :: .int h0_globalCount :: .ref h0_funs_r :: .int h0_funCount :: .int h0_open :: .int h0_signs :: .ref h0_levels_r :: h0_now :: .ref h0_known_r :: .int h0_knownCount :: .int h0_loops :: .ref mad :: .int h0_madeLength :: .ref mag :: .ref h0_smalls_r :: .ref h0_greats_r :: .ref h0_module_r :: .ref h0_spare_r :: .ref mm :: .int h0_cursor :: .int h0_limit :: [ .ref blk, .ref stk, .int h0_top, .ref hgt, .ref lab, .ref ous, .ref kis, .ref los, .int h0_depth, .int h0_function, .ref mem, .int h0_pages, .ref glo, .ref val, .int h0_valueTop, .ref ffu, .ref fre, .ref fba, .ref fla, .int h0_frames, .ref lat, .ref lhe, .int h0_labelTop, .int h0_steps, .int h0_there, .ref rsl, .int h0_resultLength, .int h0_reason, .int h0_place, .ref arg, .int h0_argumentCount, .int h0_code]))), (mm, .inr (12, [.ref mby, .int mm_length, .int mm_types, .ref mpc, .ref mpt, .ref mre, .int mm_functions, .ref mto, .int mm_codes, .ref mca, .ref mce, .ref mlc, .ref mlt, .int mm_memories, .long mm_least, .long mm_most, .int mm_hasMost, .int mm_globals, .ref mgt, .ref mgk, .ref mgc, .ref mst, .int mm_exports, .ref mek, .ref meo, .ref mna, .ref mnl, .ref men, .ref mel])), (mto, .inl (cmto, 30, .inr (.inl gmto)))] : va_W) ++ va_pl LP fP) := hD
  have g12 : vp_in r1 20 := vp_in_iff.mpr ⟨by (first | (apply Int.le_antisymm <;> omega) | omega), by (first | (apply Int.le_antisymm <;> omega) | omega)⟩
  refine va_iald hx hb hK hP 3 2 rfl rfl g12 d_MD_localType_12 ?_
  refine lv_topi (fun x2 ex2 => ?_)
  have tx2 := b_gmpc r1.toNatClampNeg
  rw [← ex2] at tx2
  have tc9 : x2.toInt = (gmpc (gmto p0.toNatClampNeg).toInt.toNat).toInt := by rw [ex2, show r1.toNatClampNeg = (gmto p0.toNatClampNeg).toInt.toNat from clampN (by (first | (apply Int.le_antisymm <;> omega) | omega))]
  refine lv_istore (lv' := [(4, .int x2), (0, .ref h0), (1, .int p0), (2, .long p1)]) hx hb d_MD_localType_13 hl (by decide) rfl (fun ls hl => ?_)
  refine lv_aload_n hx hb d_MD_localType_15 rfl (lv_at hl 1 rfl) ?_
  refine lv_lload_n hx hb d_MD_localType_16 rfl (lv_at hl 3 rfl) ?_
  refine lv_iload hx hb d_MD_localType_17 (lv_at hl 0 rfl) ?_
  refine lv_aload_n hx hb d_MD_localType_19 rfl (lv_at hl 1 rfl) ?_
  refine va_get (D := (dC, dI)) (ci := 11) (v := .ref mm) (C := R_MD) (T := F_MD) (N := 65) hx hb hts i_MD hown hK hP 5 rfl rfl 30 (by decide) (hts _ kF_MD_492) (fun _ h9 => h9) rfl d_MD_localType_20 ?_
  refine va_getN (D := (dC, dI)) (ci := 12) (v := .ref mlc) (C := R_MM) (T := F_MM) (N := 29) hx hb hts i_MM hown hK hP 6 rfl rfl 11 (by decide) (sn_f (k := 16) hSW rfl) (fun _ h9 => h9) rfl d_MD_localType_23 ?_
  refine lv_iload_n hx hb d_MD_localType_26 rfl (lv_at hl 2 rfl) ?_
  have g27 : vp_in p0 30 := vp_in_iff.mpr ⟨by (first | (apply Int.le_antisymm <;> omega) | omega), by (first | (apply Int.le_antisymm <;> omega) | omega)⟩
  refine va_iald hx hb hK hP 4 4 rfl rfl g27 d_MD_localType_27 ?_
  refine lv_topi (fun x3 ex3 => ?_)
  have tx3 := b_gmlc p0.toNatClampNeg
  rw [← ex3] at tx3
  have tl9 : x3.toInt = (gmlc p0.toNatClampNeg).toInt := by rw [ex3]
  refine lv_iadd hx hb d_MD_localType_28 ?_
  refine lv_topi (fun x4 ex4 => ?_)
  have tx4 : x4.toInt = x2.toInt + x3.toInt := by have z := i32_add ex4 (by (first | (apply Int.le_antisymm <;> omega) | omega)) (by (first | (apply Int.le_antisymm <;> omega) | omega)); first | exact z | (first | (apply Int.le_antisymm <;> omega) | omega)
  refine lv_i2l hx hb d_MD_localType_29 rfl ?_
  refine lv_topl (fun x5 ex5 => ?_)
  have tx5 := i2l_t ex5
  refine W.lcmp hx hb d_MD_localType_30 ?_
  refine lv_topi (fun x6 ex6 => ?_)
  have tx6 := lgc ex6
  refine lv_if_ge (tgt := 38) hx hb d_MD_localType_31 (by decide) (fun c31 => ?_) (fun c31 => ?_)
  · have q31 := leI c31
    refine lv_iconst (v := 0) hx hb d_MD_localType_38 (by decide) ?_
    have hPc := hP.sb (wq := (wz_303 h0 rf tap h0_taped h0_length h0_kind h0_from h0_to h0_word h0_numeral h0_globalNames_r h0_globalPlaces_r h0_globalTypes_r h0_globalValues_r h0_globalCount h0_funs_r h0_funCount h0_open h0_signs h0_levels_r h0_now h0_known_r h0_knownCount h0_loops mad h0_madeLength mag h0_smalls_r h0_greats_r h0_module_r h0_spare_r mm h0_cursor h0_limit blk stk h0_top hgt lab ous kis los h0_depth h0_function mem h0_pages glo val h0_valueTop ffu fre fba fla h0_frames lat lhe h0_labelTop h0_steps h0_there rsl h0_resultLength h0_reason h0_place arg h0_argumentCount h0_code rf rf_backtrace rf_detailMessage rf_cause rf_stackTrace rf_depth rf_suppressedExceptions rf_reason rf_place)) [5, 0] rfl
    have hDc := hD.sb (wq := (wz_303 h0 rf tap h0_taped h0_length h0_kind h0_from h0_to h0_word h0_numeral h0_globalNames_r h0_globalPlaces_r h0_globalTypes_r h0_globalValues_r h0_globalCount h0_funs_r h0_funCount h0_open h0_signs h0_levels_r h0_now h0_known_r h0_knownCount h0_loops mad h0_madeLength mag h0_smalls_r h0_greats_r h0_module_r h0_spare_r mm h0_cursor h0_limit blk stk h0_top hgt lab ous kis los h0_depth h0_function mem h0_pages glo val h0_valueTop ffu fre fba fla h0_frames lat lhe h0_labelTop h0_steps h0_there rsl h0_resultLength h0_reason h0_place arg h0_argumentCount h0_code rf rf_backtrace rf_detailMessage rf_cause rf_stackTrace rf_depth rf_suppressedExceptions rf_reason rf_place)) [5, 0] (by decide) rfl
    have hKc := hK.sb (tyq := []) [] rfl
    have hFc := va_free (wc := (wz_303 h0 rf tap h0_taped h0_length h0_kind h0_from h0_to h0_word h0_numeral h0_globalNames_r h0_globalPlaces_r h0_globalTypes_r h0_globalValues_r h0_globalCount h0_funs_r h0_funCount h0_open h0_signs h0_levels_r h0_now h0_known_r h0_knownCount h0_loops mad h0_madeLength mag h0_smalls_r h0_greats_r h0_module_r h0_spare_r mm h0_cursor h0_limit blk stk h0_top hgt lab ous kis los h0_depth h0_function mem h0_pages glo val h0_valueTop ffu fre fba fla h0_frames lat lhe h0_labelTop h0_steps h0_there rsl h0_resultLength h0_reason h0_place arg h0_argumentCount h0_code rf rf_backtrace rf_detailMessage rf_cause rf_stackTrace rf_depth rf_suppressedExceptions rf_reason rf_place)) hD hS hA [5, 0] rfl
    refine tr_callv (tz_runV (As := [.int 0]) (rest := []) ⟨hx, hb, hml, hown, hts⟩ (c_MD_valid l hlt dC dI H.size h0 rf tap h0_globalNames_r h0_globalPlaces_r h0_globalTypes_r h0_globalValues_r h0_funs_r h0_levels_r h0_known_r mad mag h0_smalls_r h0_greats_r h0_module_r h0_spare_r blk stk hgt lab ous kis los mem glo val ffu fre fba fla lat lhe rsl arg h0_taped h0_length h0_kind h0_from h0_to h0_word h0_numeral h0_globalCount h0_funCount h0_open h0_signs h0_now h0_knownCount h0_loops h0_madeLength (.ref mm) h0_cursor h0_limit h0_top h0_depth h0_function h0_pages h0_valueTop h0_frames h0_labelTop h0_steps h0_there h0_resultLength h0_reason h0_place h0_argumentCount h0_code rf_backtrace rf_detailMessage rf_cause rf_stackTrace rf_depth rf_suppressedExceptions rf_reason rf_place 0 (Or.inl rfl)) (cwV 1 hts (gV kM_MD_630 kV_MD_valid kS_MD_valid kI_MD kC_MD_valid) rfl rfl rfl (by decide +kernel) ⟨Nat.le_of_ble_eq_true rfl, Nat.le_of_ble_eq_true rfl⟩) ⟨fun a U g mk z => by obtain ⟨z0, z1, zP, zK, zD, zS⟩ := z; exact ⟨z0, z1, zP, va_K.moved (u := U) (U := U.calling g mk a) (Vm.Alike.refl U.vm) zK, zD, sw_nest.same (s := U) (U := U.calling g mk a) rfl zS⟩, va_recv hKc hPc (ci := 11) (q0 := 0) rfl rfl, fun U hU hW => ⟨rfl, by rw [hU], va_P.he hU.symm hPc, va_K.moved hW.alike hKc, hDc.weaken (fun _ _ _ _ => trivial), hSW.warm hW⟩⟩ rfl rfl hl.1 rfl (lv_room (Nat.le_of_ble_eq_true rfl)) d_MD_localType_39 ⟨Nat.le_of_ble_eq_true rfl, Nat.le_of_ble_eq_true rfl⟩) hS (fun q _ h => hFc q h) hFc (fun u t H1 locs ht hvm hw hB hz1 hk1 hS => ?_) (fun xx u t H1 locs ht hvm hw hXX hB hz1 hk1 hS => ?_)
    rotate_left
    · skip
      obtain ⟨hxa, hXX⟩ := hXX
      obtain ⟨n8, n9⟩ := u
      try dsimp only at hw
      have tq9 := hw
      obtain ⟨hP1, hK1, hD1⟩ := hB
      replace hP1 := va_P.he ht hP1
      obtain ⟨hP, hD⟩ := va_joinQ (wr := [(mpt, .inl (cmpt, 20, .inr (.inr (.inr (.inr gmpt))))), (mlt, .inl (cmlt, 30, .inr (.inr (.inr (.inr gmlt))))), (mpc, .inl (cmpc, 20, .inl gmpc)), (mlc, .inl (cmlc, 30, .inl gmlc)), (mm, .inr (12, [.ref mby, .int mm_length, .int mm_types, .ref mpc, .ref mpt, .ref mre, .int mm_functions, .ref mto, .int mm_codes, .ref mca, .ref mce, .ref mlc, .ref mlt, .int mm_memories, .long mm_least, .long mm_most, .int mm_hasMost, .int mm_globals, .ref mgt, .ref mgk, .ref mgc, .ref mst, .int mm_exports, .ref mek, .ref meo, .ref mna, .ref mnl, .ref men, .ref mel])), (mto, .inl (cmto, 30, .inr (.inl gmto)))]) (w1 := (wz_303 h0 rf tap h0_taped h0_length h0_kind h0_from h0_to h0_word h0_numeral h0_globalNames_r h0_globalPlaces_r h0_globalTypes_r h0_globalValues_r h0_globalCount h0_funs_r h0_funCount h0_open h0_signs h0_levels_r h0_now h0_known_r h0_knownCount h0_loops mad h0_madeLength mag h0_smalls_r h0_greats_r h0_module_r h0_spare_r mm h0_cursor h0_limit blk stk h0_top hgt lab ous kis los h0_depth h0_function mem h0_pages glo val h0_valueTop ffu fre fba fla h0_frames lat lhe h0_labelTop h0_steps h0_there rsl h0_resultLength h0_reason h0_place arg h0_argumentCount h0_code rf rf_backtrace rf_detailMessage rf_cause rf_stackTrace rf_depth rf_suppressedExceptions n9 n8)) hP hD [5, 0] [1, 2, 3, 4, 6, 7] rfl rfl (by decide) (by decide) hk1 hFc hP1 hD1
      have hP : va_P (dC, dI) cls2 (((wz_324 mpt cmpt gmpt mlt cmlt gmlt mpc cmpc gmpc mlc cmlc gmlc mm mby mm_length mm_types mpc mpt mre mm_functions mto mm_codes mca mce mlc mlt mm_memories mm_least mm_most mm_hasMost mm_globals mgt mgk mgc mst mm_exports mek meo mna mnl men mel mto cmto gmto h0 rf tap h0_taped h0_length h0_kind h0_from h0_to h0_word h0_numeral h0_globalNames_r h0_globalPlaces_r h0_globalTypes_r h0_globalValues_r h0_globalCount h0_funs_r h0_funCount h0_open h0_signs h0_levels_r h0_now h0_known_r h0_knownCount h0_loops mad h0_madeLength mag h0_smalls_r h0_greats_r h0_module_r h0_spare_r mm h0_cursor h0_limit blk stk h0_top hgt lab ous kis los h0_depth h0_function mem h0_pages glo val h0_valueTop ffu fre fba fla h0_frames lat lhe h0_labelTop h0_steps h0_there rsl h0_resultLength h0_reason h0_place arg h0_argumentCount h0_code rf rf_backtrace rf_detailMessage rf_cause rf_stackTrace rf_depth rf_suppressedExceptions n9 n8) : va_W) ++ va_pl LP fP) H1 := hP
      have hD : va_D A (((wz_324 mpt cmpt gmpt mlt cmlt gmlt mpc cmpc gmpc mlc cmlc gmlc mm mby mm_length mm_types mpc mpt mre mm_functions mto mm_codes mca mce mlc mlt mm_memories mm_least mm_most mm_hasMost mm_globals mgt mgk mgc mst mm_exports mek meo mna mnl men mel mto cmto gmto h0 rf tap h0_taped h0_length h0_kind h0_from h0_to h0_word h0_numeral h0_globalNames_r h0_globalPlaces_r h0_globalTypes_r h0_globalValues_r h0_globalCount h0_funs_r h0_funCount h0_open h0_signs h0_levels_r h0_now h0_known_r h0_knownCount h0_loops mad h0_madeLength mag h0_smalls_r h0_greats_r h0_module_r h0_spare_r mm h0_cursor h0_limit blk stk h0_top hgt lab ous kis los h0_depth h0_function mem h0_pages glo val h0_valueTop ffu fre fba fla h0_frames lat lhe h0_labelTop h0_steps h0_there rsl h0_resultLength h0_reason h0_place arg h0_argumentCount h0_code rf rf_backtrace rf_detailMessage rf_cause rf_stackTrace rf_depth rf_suppressedExceptions n9 n8) : va_W) ++ va_pl LP fP) := hD
      have hP9 := hP.part (cx := (wz_323 h0 rf tap h0_taped h0_length h0_kind h0_from h0_to h0_word h0_numeral h0_globalNames_r h0_globalPlaces_r h0_globalTypes_r h0_globalValues_r h0_globalCount h0_funs_r h0_funCount h0_open h0_signs h0_levels_r h0_now h0_known_r h0_knownCount h0_loops mad h0_madeLength mag h0_smalls_r h0_greats_r h0_module_r h0_spare_r mm h0_cursor h0_limit blk stk h0_top hgt lab ous kis los h0_depth h0_function mem h0_pages glo val h0_valueTop ffu fre fba fla h0_frames lat lhe h0_labelTop h0_steps h0_there rsl h0_resultLength h0_reason h0_place arg h0_argumentCount h0_code rf rf_backtrace rf_detailMessage rf_cause rf_stackTrace rf_depth rf_suppressedExceptions n9 n8 mm mby mm_length mm_types mpc mpt mre mm_functions mto mm_codes mca mce mlc mlt mm_memories mm_least mm_most mm_hasMost mm_globals mgt mgk mgc mst mm_exports mek meo mna mnl men mel mpt cmpt gmpt mlt cmlt gmlt mpc cmpc gmpc mto cmto gmto mlc cmlc gmlc)) [6, 7, 4, 0, 1, 2, 5, 3] rfl
      have hD9 := hD.part (cx := (wz_323 h0 rf tap h0_taped h0_length h0_kind h0_from h0_to h0_word h0_numeral h0_globalNames_r h0_globalPlaces_r h0_globalTypes_r h0_globalValues_r h0_globalCount h0_funs_r h0_funCount h0_open h0_signs h0_levels_r h0_now h0_known_r h0_knownCount h0_loops mad h0_madeLength mag h0_smalls_r h0_greats_r h0_module_r h0_spare_r mm h0_cursor h0_limit blk stk h0_top hgt lab ous kis los h0_depth h0_function mem h0_pages glo val h0_valueTop ffu fre fba fla h0_frames lat lhe h0_labelTop h0_steps h0_there rsl h0_resultLength h0_reason h0_place arg h0_argumentCount h0_code rf rf_backtrace rf_detailMessage rf_cause rf_stackTrace rf_depth rf_suppressedExceptions n9 n8 mm mby mm_length mm_types mpc mpt mre mm_functions mto mm_codes mca mce mlc mlt mm_memories mm_least mm_most mm_hasMost mm_globals mgt mgk mgc mst mm_exports mek meo mna mnl men mel mpt cmpt gmpt mlt cmlt gmlt mpc cmpc gmpc mto cmto gmto mlc cmlc gmlc)) [6, 7, 4, 0, 1, 2, 5, 3] (by decide) rfl
      exact tz_leave rfl hno hlocks (fun t ht hW => ⟨⟨(n8, n9), ⟨trivial, hxa, by rw [ht]; exact hXX.moved hW.alike⟩, va_P.he ht.symm hP9, va_K.moved hW.alike hK, hD9⟩, hS.F ht⟩) hS.2.2
    obtain ⟨n10, n11⟩ := u
    try dsimp only at hw
    have xr7 := hw
    try clear hw
    exact absurd xr7 (by decide)
  · have q31 := nleI c31
    refine lv_iconst (v := 1) hx hb d_MD_localType_34 (by decide) ?_
    refine lv_goto (tgt := 39) hx hb d_MD_localType_35 (by decide) ?_
    have hPc := hP.sb (wq := (wz_303 h0 rf tap h0_taped h0_length h0_kind h0_from h0_to h0_word h0_numeral h0_globalNames_r h0_globalPlaces_r h0_globalTypes_r h0_globalValues_r h0_globalCount h0_funs_r h0_funCount h0_open h0_signs h0_levels_r h0_now h0_known_r h0_knownCount h0_loops mad h0_madeLength mag h0_smalls_r h0_greats_r h0_module_r h0_spare_r mm h0_cursor h0_limit blk stk h0_top hgt lab ous kis los h0_depth h0_function mem h0_pages glo val h0_valueTop ffu fre fba fla h0_frames lat lhe h0_labelTop h0_steps h0_there rsl h0_resultLength h0_reason h0_place arg h0_argumentCount h0_code rf rf_backtrace rf_detailMessage rf_cause rf_stackTrace rf_depth rf_suppressedExceptions rf_reason rf_place)) [5, 0] rfl
    have hDc := hD.sb (wq := (wz_303 h0 rf tap h0_taped h0_length h0_kind h0_from h0_to h0_word h0_numeral h0_globalNames_r h0_globalPlaces_r h0_globalTypes_r h0_globalValues_r h0_globalCount h0_funs_r h0_funCount h0_open h0_signs h0_levels_r h0_now h0_known_r h0_knownCount h0_loops mad h0_madeLength mag h0_smalls_r h0_greats_r h0_module_r h0_spare_r mm h0_cursor h0_limit blk stk h0_top hgt lab ous kis los h0_depth h0_function mem h0_pages glo val h0_valueTop ffu fre fba fla h0_frames lat lhe h0_labelTop h0_steps h0_there rsl h0_resultLength h0_reason h0_place arg h0_argumentCount h0_code rf rf_backtrace rf_detailMessage rf_cause rf_stackTrace rf_depth rf_suppressedExceptions rf_reason rf_place)) [5, 0] (by decide) rfl
    have hKc := hK.sb (tyq := []) [] rfl
    have hFc := va_free (wc := (wz_303 h0 rf tap h0_taped h0_length h0_kind h0_from h0_to h0_word h0_numeral h0_globalNames_r h0_globalPlaces_r h0_globalTypes_r h0_globalValues_r h0_globalCount h0_funs_r h0_funCount h0_open h0_signs h0_levels_r h0_now h0_known_r h0_knownCount h0_loops mad h0_madeLength mag h0_smalls_r h0_greats_r h0_module_r h0_spare_r mm h0_cursor h0_limit blk stk h0_top hgt lab ous kis los h0_depth h0_function mem h0_pages glo val h0_valueTop ffu fre fba fla h0_frames lat lhe h0_labelTop h0_steps h0_there rsl h0_resultLength h0_reason h0_place arg h0_argumentCount h0_code rf rf_backtrace rf_detailMessage rf_cause rf_stackTrace rf_depth rf_suppressedExceptions rf_reason rf_place)) hD hS hA [5, 0] rfl
    refine tr_callv (tz_runV (As := [.int 1]) (rest := []) ⟨hx, hb, hml, hown, hts⟩ (c_MD_valid l hlt dC dI H.size h0 rf tap h0_globalNames_r h0_globalPlaces_r h0_globalTypes_r h0_globalValues_r h0_funs_r h0_levels_r h0_known_r mad mag h0_smalls_r h0_greats_r h0_module_r h0_spare_r blk stk hgt lab ous kis los mem glo val ffu fre fba fla lat lhe rsl arg h0_taped h0_length h0_kind h0_from h0_to h0_word h0_numeral h0_globalCount h0_funCount h0_open h0_signs h0_now h0_knownCount h0_loops h0_madeLength (.ref mm) h0_cursor h0_limit h0_top h0_depth h0_function h0_pages h0_valueTop h0_frames h0_labelTop h0_steps h0_there h0_resultLength h0_reason h0_place h0_argumentCount h0_code rf_backtrace rf_detailMessage rf_cause rf_stackTrace rf_depth rf_suppressedExceptions rf_reason rf_place 1 (Or.inr rfl)) (cwV 1 hts (gV kM_MD_630 kV_MD_valid kS_MD_valid kI_MD kC_MD_valid) rfl rfl rfl (by decide +kernel) ⟨Nat.le_of_ble_eq_true rfl, Nat.le_of_ble_eq_true rfl⟩) ⟨fun a U g mk z => by obtain ⟨z0, z1, zP, zK, zD, zS⟩ := z; exact ⟨z0, z1, zP, va_K.moved (u := U) (U := U.calling g mk a) (Vm.Alike.refl U.vm) zK, zD, sw_nest.same (s := U) (U := U.calling g mk a) rfl zS⟩, va_recv hKc hPc (ci := 11) (q0 := 0) rfl rfl, fun U hU hW => ⟨rfl, by rw [hU], va_P.he hU.symm hPc, va_K.moved hW.alike hKc, hDc.weaken (fun _ _ _ _ => trivial), hSW.warm hW⟩⟩ rfl rfl hl.1 rfl (lv_room (Nat.le_of_ble_eq_true rfl)) d_MD_localType_39 ⟨Nat.le_of_ble_eq_true rfl, Nat.le_of_ble_eq_true rfl⟩) hS (fun q _ h => hFc q h) hFc (fun u t H1 locs ht hvm hw hB hz1 hk1 hS => ?_) (fun xx u t H1 locs ht hvm hw hXX hB hz1 hk1 hS => ?_)
    rotate_left
    · skip
      obtain ⟨hxa, hXX⟩ := hXX
      obtain ⟨n13, n14⟩ := u
      try dsimp only at hw
      have tq9 := hw
      exact absurd tq9 (by decide)
    obtain ⟨n15, n16⟩ := u
    try dsimp only at hw
    have xr12 := hw
    try clear hw
    obtain ⟨hP1, hK1, hD1⟩ := hB
    replace hP1 := va_P.he ht hP1
    obtain ⟨hP, hD⟩ := va_joinQ (wr := [(mpt, .inl (cmpt, 20, .inr (.inr (.inr (.inr gmpt))))), (mlt, .inl (cmlt, 30, .inr (.inr (.inr (.inr gmlt))))), (mpc, .inl (cmpc, 20, .inl gmpc)), (mlc, .inl (cmlc, 30, .inl gmlc)), (mm, .inr (12, [.ref mby, .int mm_length, .int mm_types, .ref mpc, .ref mpt, .ref mre, .int mm_functions, .ref mto, .int mm_codes, .ref mca, .ref mce, .ref mlc, .ref mlt, .int mm_memories, .long mm_least, .long mm_most, .int mm_hasMost, .int mm_globals, .ref mgt, .ref mgk, .ref mgc, .ref mst, .int mm_exports, .ref mek, .ref meo, .ref mna, .ref mnl, .ref men, .ref mel])), (mto, .inl (cmto, 30, .inr (.inl gmto)))]) (w1 := (wz_303 h0 rf tap h0_taped h0_length h0_kind h0_from h0_to h0_word h0_numeral h0_globalNames_r h0_globalPlaces_r h0_globalTypes_r h0_globalValues_r h0_globalCount h0_funs_r h0_funCount h0_open h0_signs h0_levels_r h0_now h0_known_r h0_knownCount h0_loops mad h0_madeLength mag h0_smalls_r h0_greats_r h0_module_r h0_spare_r mm h0_cursor h0_limit blk stk h0_top hgt lab ous kis los h0_depth h0_function mem h0_pages glo val h0_valueTop ffu fre fba fla h0_frames lat lhe h0_labelTop h0_steps h0_there rsl h0_resultLength h0_reason h0_place arg h0_argumentCount h0_code rf rf_backtrace rf_detailMessage rf_cause rf_stackTrace rf_depth rf_suppressedExceptions n16 n15)) hP hD [5, 0] [1, 2, 3, 4, 6, 7] rfl rfl (by decide) (by decide) hk1 hFc hP1 hD1
    clear hPc hDc hKc hFc hz1 hk1 hP1 hK1 hD1
    rename Heap => H
    have hP : va_P (dC, dI) cls2 (((wz_324 mpt cmpt gmpt mlt cmlt gmlt mpc cmpc gmpc mlc cmlc gmlc mm mby mm_length mm_types mpc mpt mre mm_functions mto mm_codes mca mce mlc mlt mm_memories mm_least mm_most mm_hasMost mm_globals mgt mgk mgc mst mm_exports mek meo mna mnl men mel mto cmto gmto h0 rf tap h0_taped h0_length h0_kind h0_from h0_to h0_word h0_numeral h0_globalNames_r h0_globalPlaces_r h0_globalTypes_r h0_globalValues_r h0_globalCount h0_funs_r h0_funCount h0_open h0_signs h0_levels_r h0_now h0_known_r h0_knownCount h0_loops mad h0_madeLength mag h0_smalls_r h0_greats_r h0_module_r h0_spare_r mm h0_cursor h0_limit blk stk h0_top hgt lab ous kis los h0_depth h0_function mem h0_pages glo val h0_valueTop ffu fre fba fla h0_frames lat lhe h0_labelTop h0_steps h0_there rsl h0_resultLength h0_reason h0_place arg h0_argumentCount h0_code rf rf_backtrace rf_detailMessage rf_cause rf_stackTrace rf_depth rf_suppressedExceptions n16 n15) : va_W) ++ va_pl LP fP) H := hP
    have hD : va_D A (((wz_324 mpt cmpt gmpt mlt cmlt gmlt mpc cmpc gmpc mlc cmlc gmlc mm mby mm_length mm_types mpc mpt mre mm_functions mto mm_codes mca mce mlc mlt mm_memories mm_least mm_most mm_hasMost mm_globals mgt mgk mgc mst mm_exports mek meo mna mnl men mel mto cmto gmto h0 rf tap h0_taped h0_length h0_kind h0_from h0_to h0_word h0_numeral h0_globalNames_r h0_globalPlaces_r h0_globalTypes_r h0_globalValues_r h0_globalCount h0_funs_r h0_funCount h0_open h0_signs h0_levels_r h0_now h0_known_r h0_knownCount h0_loops mad h0_madeLength mag h0_smalls_r h0_greats_r h0_module_r h0_spare_r mm h0_cursor h0_limit blk stk h0_top hgt lab ous kis los h0_depth h0_function mem h0_pages glo val h0_valueTop ffu fre fba fla h0_frames lat lhe h0_labelTop h0_steps h0_there rsl h0_resultLength h0_reason h0_place arg h0_argumentCount h0_code rf rf_backtrace rf_detailMessage rf_cause rf_stackTrace rf_depth rf_suppressedExceptions n16 n15) : va_W) ++ va_pl LP fP) := hD
    refine lv_lload_n hx hb d_MD_localType_42 rfl (lv_at hl 3 rfl) ?_
    refine lv_iload hx hb d_MD_localType_43 (lv_at hl 0 rfl) ?_
    refine lv_i2l hx hb d_MD_localType_45 rfl ?_
    refine lv_topl (fun x17 ex17 => ?_)
    have tx17 := i2l_t ex17
    refine W.lcmp hx hb d_MD_localType_46 ?_
    refine lv_topi (fun x18 ex18 => ?_)
    have tx18 := lgc ex18
    refine lv_if_ge (tgt := 69) hx hb d_MD_localType_47 (by decide) (fun c47 => ?_) (fun c47 => ?_)
    · have q47 := leI c47
      refine lv_aload_n hx hb d_MD_localType_69 rfl (lv_at hl 1 rfl) ?_
      refine va_get (D := (dC, dI)) (ci := 11) (v := .ref mm) (C := R_MD) (T := F_MD) (N := 65) hx hb hts i_MD hown hK hP 6 rfl rfl 30 (by decide) (hts _ kF_MD_492) (fun _ h9 => h9) rfl d_MD_localType_70 ?_
      refine va_getN (D := (dC, dI)) (ci := 12) (v := .ref mlt) (C := R_MM) (T := F_MM) (N := 29) hx hb hts i_MM hown hK hP 4 rfl rfl 12 (by decide) (sn_f (k := 17) hSW rfl) (fun _ h9 => h9) rfl d_MD_localType_73 ?_
      refine lv_iload_n hx hb d_MD_localType_76 rfl (lv_at hl 2 rfl) ?_
      have zy19 := i32_clamp (x := p0) (by (first | (apply Int.le_antisymm <;> omega) | omega))
      obtain ⟨y19, ay19, my19, fy19⟩ := hg2.out p0.toNatClampNeg (by (first | (apply Int.le_antisymm <;> omega) | omega))
      have g77 : vp_in p0 30 := vp_in_iff.mpr ⟨by (first | (apply Int.le_antisymm <;> omega) | omega), by (first | (apply Int.le_antisymm <;> omega) | omega)⟩
      refine vq_ald hx hb hK hP 1 1 rfl rfl g77 ay19 d_MD_localType_77 ?_
      obtain ⟨hP, hD⟩ := vq_out hP hD my19 fy19
      have hP : va_P (dC, dI) cls2 (([(mpt, .inl (cmpt, 20, .inr (.inr (.inr (.inr gmpt))))), (mlt, .inl (cmlt, 30, .inr (.inr (.inr (.inr gmlt))))), (mpc, .inl (cmpc, 20, .inl gmpc)), (mlc, .inl (cmlc, 30, .inl gmlc)), (mm, .inr (12, [.ref mby, .int mm_length, .int mm_types, .ref mpc, .ref mpt, .ref mre, .int mm_functions, .ref mto, .int mm_codes, .ref mca, .ref mce, .ref mlc, .ref mlt, .int mm_memories, .long mm_least, .long mm_most, .int mm_hasMost, .int mm_globals, .ref mgt, .ref mgk, .ref mgc, .ref mst, .int mm_exports, .ref mek, .ref meo, .ref mna, .ref mnl, .ref men, .ref mel])), (mto, .inl (cmto, 30, .inr (.inl gmto))), (h0, .inr (11, (.ref rf :: .ref tap :: .int h0_taped :: .int h0_length :: .int h0_kind :: .int h0_from :: .int h0_to :: h0_word :: .long h0_numeral :: .ref h0_globalNames_r :: .ref h0_globalPlaces_r :: .ref h0_globalTypes_r :: .ref h0_globalValues_r :: .int h0_globalCount :: .ref h0_funs_r :: .int h0_funCount :: .int h0_open :: .int h0_signs :: .ref h0_levels_r :: h0_now :: .ref h0_known_r :: .int h0_knownCount :: .int h0_loops :: .ref mad :: .int h0_madeLength :: .ref mag :: .ref h0_smalls_r :: .ref h0_greats_r :: .ref h0_module_r :: .ref h0_spare_r :: .ref mm :: .int h0_cursor :: .int h0_limit :: [ .ref blk, .ref stk, .int h0_top, .ref hgt, .ref lab, .ref ous, .ref kis, .ref los, .int h0_depth, .int h0_function, .ref mem, .int h0_pages, .ref glo, .ref val, .int h0_valueTop, .ref ffu, .ref fre, .ref fba, .ref fla, .int h0_frames, .ref lat, .ref lhe, .int h0_labelTop, .int h0_steps, .int h0_there, .ref rsl, .int h0_resultLength, .int h0_reason, .int h0_place, .ref arg, .int h0_argumentCount, .int h0_code]))), (rf, .inr (15, [rf_backtrace, rf_detailMessage, rf_cause, rf_stackTrace, .int rf_depth, rf_suppressedExceptions, .int n16, .int n15])), (y19, .inl (cr, 60, .inl ((M2 p0.toNatClampNeg))))] : va_W) ++ va_pl ((LP.erase y19)) fP) H := hP
      have hD : va_D A (([(mpt, .inl (cmpt, 20, .inr (.inr (.inr (.inr gmpt))))), (mlt, .inl (cmlt, 30, .inr (.inr (.inr (.inr gmlt))))), (mpc, .inl (cmpc, 20, .inl gmpc)), (mlc, .inl (cmlc, 30, .inl gmlc)), (mm, .inr (12, [.ref mby, .int mm_length, .int mm_types, .ref mpc, .ref mpt, .ref mre, .int mm_functions, .ref mto, .int mm_codes, .ref mca, .ref mce, .ref mlc, .ref mlt, .int mm_memories, .long mm_least, .long mm_most, .int mm_hasMost, .int mm_globals, .ref mgt, .ref mgk, .ref mgc, .ref mst, .int mm_exports, .ref mek, .ref meo, .ref mna, .ref mnl, .ref men, .ref mel])), (mto, .inl (cmto, 30, .inr (.inl gmto))), (h0, .inr (11, (.ref rf :: .ref tap :: .int h0_taped :: .int h0_length :: .int h0_kind :: .int h0_from :: .int h0_to :: h0_word :: .long h0_numeral :: .ref h0_globalNames_r :: .ref h0_globalPlaces_r :: .ref h0_globalTypes_r :: .ref h0_globalValues_r :: .int h0_globalCount :: .ref h0_funs_r :: .int h0_funCount :: .int h0_open :: .int h0_signs :: .ref h0_levels_r :: h0_now :: .ref h0_known_r :: .int h0_knownCount :: .int h0_loops :: .ref mad :: .int h0_madeLength :: .ref mag :: .ref h0_smalls_r :: .ref h0_greats_r :: .ref h0_module_r :: .ref h0_spare_r :: .ref mm :: .int h0_cursor :: .int h0_limit :: [ .ref blk, .ref stk, .int h0_top, .ref hgt, .ref lab, .ref ous, .ref kis, .ref los, .int h0_depth, .int h0_function, .ref mem, .int h0_pages, .ref glo, .ref val, .int h0_valueTop, .ref ffu, .ref fre, .ref fba, .ref fla, .int h0_frames, .ref lat, .ref lhe, .int h0_labelTop, .int h0_steps, .int h0_there, .ref rsl, .int h0_resultLength, .int h0_reason, .int h0_place, .ref arg, .int h0_argumentCount, .int h0_code]))), (rf, .inr (15, [rf_backtrace, rf_detailMessage, rf_cause, rf_stackTrace, .int rf_depth, rf_suppressedExceptions, .int n16, .int n15])), (y19, .inl (cr, 60, .inl ((M2 p0.toNatClampNeg))))] : va_W) ++ va_pl ((LP.erase y19)) fP) := hD
      refine lv_lload_n hx hb d_MD_localType_78 rfl (lv_at hl 3 rfl) ?_
      refine lv_l2i hx hb d_MD_localType_79 rfl ?_
      refine lv_topi (fun x20 ex20 => ?_)
      have tx20 := l2i_t ex20 (by (first | (apply Int.le_antisymm <;> omega) | omega)) (by (first | (apply Int.le_antisymm <;> omega) | omega))
      refine lv_iload hx hb d_MD_localType_80 (lv_at hl 0 rfl) ?_
      refine lv_isub hx hb d_MD_localType_82 ?_
      refine lv_topi (fun x21 ex21 => ?_)
      have tx21 : x21.toInt = x20.toInt - x2.toInt := by have z := i32_sub ex21 (by (first | (apply Int.le_antisymm <;> omega) | omega)) (by (first | (apply Int.le_antisymm <;> omega) | omega)); first | exact z | (first | (apply Int.le_antisymm <;> omega) | omega)
      have g83 : vp_in x21 60 := vp_in_iff.mpr ⟨by (first | (apply Int.le_antisymm <;> omega) | omega), by (first | (apply Int.le_antisymm <;> omega) | omega)⟩
      refine va_iald hx hb hK hP 8 5 rfl rfl g83 d_MD_localType_83 ?_
      refine lv_topi (fun x22 ex22 => ?_)
      have hP := hP.part (cx := ((wz_324 mpt cmpt gmpt mlt cmlt gmlt mpc cmpc gmpc mlc cmlc gmlc mm mby mm_length mm_types mpc mpt mre mm_functions mto mm_codes mca mce mlc mlt mm_memories mm_least mm_most mm_hasMost mm_globals mgt mgk mgc mst mm_exports mek meo mna mnl men mel mto cmto gmto h0 rf tap h0_taped h0_length h0_kind h0_from h0_to h0_word h0_numeral h0_globalNames_r h0_globalPlaces_r h0_globalTypes_r h0_globalValues_r h0_globalCount h0_funs_r h0_funCount h0_open h0_signs h0_levels_r h0_now h0_known_r h0_knownCount h0_loops mad h0_madeLength mag h0_smalls_r h0_greats_r h0_module_r h0_spare_r mm h0_cursor h0_limit blk stk h0_top hgt lab ous kis los h0_depth h0_function mem h0_pages glo val h0_valueTop ffu fre fba fla h0_frames lat lhe h0_labelTop h0_steps h0_there rsl h0_resultLength h0_reason h0_place arg h0_argumentCount h0_code rf rf_backtrace rf_detailMessage rf_cause rf_stackTrace rf_depth rf_suppressedExceptions n16 n15) : va_W) ++ ([(y19, .inl (cr, 60, .inl ((M2 p0.toNatClampNeg))))] : va_W)) [0, 1, 2, 3, 4, 5, 6, 7, 8] rfl
      have hD := hD.part (cx := ((wz_324 mpt cmpt gmpt mlt cmlt gmlt mpc cmpc gmpc mlc cmlc gmlc mm mby mm_length mm_types mpc mpt mre mm_functions mto mm_codes mca mce mlc mlt mm_memories mm_least mm_most mm_hasMost mm_globals mgt mgk mgc mst mm_exports mek meo mna mnl men mel mto cmto gmto h0 rf tap h0_taped h0_length h0_kind h0_from h0_to h0_word h0_numeral h0_globalNames_r h0_globalPlaces_r h0_globalTypes_r h0_globalValues_r h0_globalCount h0_funs_r h0_funCount h0_open h0_signs h0_levels_r h0_now h0_known_r h0_knownCount h0_loops mad h0_madeLength mag h0_smalls_r h0_greats_r h0_module_r h0_spare_r mm h0_cursor h0_limit blk stk h0_top hgt lab ous kis los h0_depth h0_function mem h0_pages glo val h0_valueTop ffu fre fba fla h0_frames lat lhe h0_labelTop h0_steps h0_there rsl h0_resultLength h0_reason h0_place arg h0_argumentCount h0_code rf rf_backtrace rf_detailMessage rf_cause rf_stackTrace rf_depth rf_suppressedExceptions n16 n15) : va_W) ++ ([(y19, .inl (cr, 60, .inl ((M2 p0.toNatClampNeg))))] : va_W)) [0, 1, 2, 3, 4, 5, 6, 7, 8] (by decide) rfl
      obtain ⟨hP, hD⟩ := vq_in0 my19 hnd fy19 hP hD
      have hP : va_P (dC, dI) cls2 (((wz_324 mpt cmpt gmpt mlt cmlt gmlt mpc cmpc gmpc mlc cmlc gmlc mm mby mm_length mm_types mpc mpt mre mm_functions mto mm_codes mca mce mlc mlt mm_memories mm_least mm_most mm_hasMost mm_globals mgt mgk mgc mst mm_exports mek meo mna mnl men mel mto cmto gmto h0 rf tap h0_taped h0_length h0_kind h0_from h0_to h0_word h0_numeral h0_globalNames_r h0_globalPlaces_r h0_globalTypes_r h0_globalValues_r h0_globalCount h0_funs_r h0_funCount h0_open h0_signs h0_levels_r h0_now h0_known_r h0_knownCount h0_loops mad h0_madeLength mag h0_smalls_r h0_greats_r h0_module_r h0_spare_r mm h0_cursor h0_limit blk stk h0_top hgt lab ous kis los h0_depth h0_function mem h0_pages glo val h0_valueTop ffu fre fba fla h0_frames lat lhe h0_labelTop h0_steps h0_there rsl h0_resultLength h0_reason h0_place arg h0_argumentCount h0_code rf rf_backtrace rf_detailMessage rf_cause rf_stackTrace rf_depth rf_suppressedExceptions n16 n15) : va_W) ++ va_pl LP fP) H := hP
      have hD : va_D A (((wz_324 mpt cmpt gmpt mlt cmlt gmlt mpc cmpc gmpc mlc cmlc gmlc mm mby mm_length mm_types mpc mpt mre mm_functions mto mm_codes mca mce mlc mlt mm_memories mm_least mm_most mm_hasMost mm_globals mgt mgk mgc mst mm_exports mek meo mna mnl men mel mto cmto gmto h0 rf tap h0_taped h0_length h0_kind h0_from h0_to h0_word h0_numeral h0_globalNames_r h0_globalPlaces_r h0_globalTypes_r h0_globalValues_r h0_globalCount h0_funs_r h0_funCount h0_open h0_signs h0_levels_r h0_now h0_known_r h0_knownCount h0_loops mad h0_madeLength mag h0_smalls_r h0_greats_r h0_module_r h0_spare_r mm h0_cursor h0_limit blk stk h0_top hgt lab ous kis los h0_depth h0_function mem h0_pages glo val h0_valueTop ffu fre fba fla h0_frames lat lhe h0_labelTop h0_steps h0_there rsl h0_resultLength h0_reason h0_place arg h0_argumentCount h0_code rf rf_backtrace rf_detailMessage rf_cause rf_stackTrace rf_depth rf_suppressedExceptions n16 n15) : va_W) ++ va_pl LP fP) := hD
      have hP9 := hP.part (cx := (wz_323 h0 rf tap h0_taped h0_length h0_kind h0_from h0_to h0_word h0_numeral h0_globalNames_r h0_globalPlaces_r h0_globalTypes_r h0_globalValues_r h0_globalCount h0_funs_r h0_funCount h0_open h0_signs h0_levels_r h0_now h0_known_r h0_knownCount h0_loops mad h0_madeLength mag h0_smalls_r h0_greats_r h0_module_r h0_spare_r mm h0_cursor h0_limit blk stk h0_top hgt lab ous kis los h0_depth h0_function mem h0_pages glo val h0_valueTop ffu fre fba fla h0_frames lat lhe h0_labelTop h0_steps h0_there rsl h0_resultLength h0_reason h0_place arg h0_argumentCount h0_code rf rf_backtrace rf_detailMessage rf_cause rf_stackTrace rf_depth rf_suppressedExceptions n16 n15 mm mby mm_length mm_types mpc mpt mre mm_functions mto mm_codes mca mce mlc mlt mm_memories mm_least mm_most mm_hasMost mm_globals mgt mgk mgc mst mm_exports mek meo mna mnl men mel mpt cmpt gmpt mlt cmlt gmlt mpc cmpc gmpc mto cmto gmto mlc cmlc gmlc)) [6, 7, 4, 0, 1, 2, 5, 3] rfl
      have hD9 := hD.part (cx := (wz_323 h0 rf tap h0_taped h0_length h0_kind h0_from h0_to h0_word h0_numeral h0_globalNames_r h0_globalPlaces_r h0_globalTypes_r h0_globalValues_r h0_globalCount h0_funs_r h0_funCount h0_open h0_signs h0_levels_r h0_now h0_known_r h0_knownCount h0_loops mad h0_madeLength mag h0_smalls_r h0_greats_r h0_module_r h0_spare_r mm h0_cursor h0_limit blk stk h0_top hgt lab ous kis los h0_depth h0_function mem h0_pages glo val h0_valueTop ffu fre fba fla h0_frames lat lhe h0_labelTop h0_steps h0_there rsl h0_resultLength h0_reason h0_place arg h0_argumentCount h0_code rf rf_backtrace rf_detailMessage rf_cause rf_stackTrace rf_depth rf_suppressedExceptions n16 n15 mm mby mm_length mm_types mpc mpt mre mm_functions mto mm_codes mca mce mlc mlt mm_memories mm_least mm_most mm_hasMost mm_globals mgt mgk mgc mst mm_exports mek meo mna mnl men mel mpt cmpt gmpt mlt cmlt gmlt mpc cmpc gmpc mto cmto gmto mlc cmlc gmlc)) [6, 7, 4, 0, 1, 2, 5, 3] (by decide) rfl
      exact tz_up (fun _ => rfl) (W.iret (v := x22) hx hb hr (fun t ht hW => ⟨⟨(n15, n16), ⟨x22, rfl, (⟨fun z => absurd z (by rw [← tc9]; (first | (apply Int.le_antisymm <;> omega) | omega)), fun _ => by rw [ex22, show x21.toNatClampNeg = (p1.toInt - (gmpc (gmto p0.toNatClampNeg).toInt.toNat).toInt).toNat from clampN (by rw [← tc9]; (first | (apply Int.le_antisymm <;> omega) | omega))], by rw [← tc9, ← tl9]; (first | (apply Int.le_antisymm <;> omega) | omega)⟩)⟩, va_P.he ht.symm hP9, va_K.moved hW.alike hK, hD9⟩, hS.F ht⟩) hS.2.2 d_MD_localType_84)
    · have q47 := nleI c47
      refine lv_aload_n hx hb d_MD_localType_50 rfl (lv_at hl 1 rfl) ?_
      refine va_get (D := (dC, dI)) (ci := 11) (v := .ref mm) (C := R_MD) (T := F_MD) (N := 65) hx hb hts i_MD hown hK hP 6 rfl rfl 30 (by decide) (hts _ kF_MD_492) (fun _ h9 => h9) rfl d_MD_localType_51 ?_
      refine va_getN (D := (dC, dI)) (ci := 12) (v := .ref mpt) (C := R_MM) (T := F_MM) (N := 29) hx hb hts i_MM hown hK hP 4 rfl rfl 4 (by decide) (sn_f (k := 9) hSW rfl) (fun _ h9 => h9) rfl d_MD_localType_54 ?_
      refine lv_aload_n hx hb d_MD_localType_57 rfl (lv_at hl 1 rfl) ?_
      refine lv_iload_n hx hb d_MD_localType_58 rfl (lv_at hl 2 rfl) ?_
      have hPc := hP.sb (wq := (wz_322 h0 rf tap h0_taped h0_length h0_kind h0_from h0_to h0_word h0_numeral h0_globalNames_r h0_globalPlaces_r h0_globalTypes_r h0_globalValues_r h0_globalCount h0_funs_r h0_funCount h0_open h0_signs h0_levels_r h0_now h0_known_r h0_knownCount h0_loops mad h0_madeLength mag h0_smalls_r h0_greats_r h0_module_r h0_spare_r mm h0_cursor h0_limit blk stk h0_top hgt lab ous kis los h0_depth h0_function mem h0_pages glo val h0_valueTop ffu fre fba fla h0_frames lat lhe h0_labelTop h0_steps h0_there rsl h0_resultLength h0_reason h0_place arg h0_argumentCount h0_code mm mby mm_length mm_types mpc mpt mre mm_functions mto mm_codes mca mce mlc mlt mm_memories mm_least mm_most mm_hasMost mm_globals mgt mgk mgc mst mm_exports mek meo mna mnl men mel mto cmto gmto)) [6, 4, 5] rfl
      have hDc := hD.sb (wq := (wz_322 h0 rf tap h0_taped h0_length h0_kind h0_from h0_to h0_word h0_numeral h0_globalNames_r h0_globalPlaces_r h0_globalTypes_r h0_globalValues_r h0_globalCount h0_funs_r h0_funCount h0_open h0_signs h0_levels_r h0_now h0_known_r h0_knownCount h0_loops mad h0_madeLength mag h0_smalls_r h0_greats_r h0_module_r h0_spare_r mm h0_cursor h0_limit blk stk h0_top hgt lab ous kis los h0_depth h0_function mem h0_pages glo val h0_valueTop ffu fre fba fla h0_frames lat lhe h0_labelTop h0_steps h0_there rsl h0_resultLength h0_reason h0_place arg h0_argumentCount h0_code mm mby mm_length mm_types mpc mpt mre mm_functions mto mm_codes mca mce mlc mlt mm_memories mm_least mm_most mm_hasMost mm_globals mgt mgk mgc mst mm_exports mek meo mna mnl men mel mto cmto gmto)) [6, 4, 5] (by decide) rfl
      have hKc := hK.sb (tyq := [(cmto, .long)]) [3] rfl
      have hFc := va_free (wc := (wz_322 h0 rf tap h0_taped h0_length h0_kind h0_from h0_to h0_word h0_numeral h0_globalNames_r h0_globalPlaces_r h0_globalTypes_r h0_globalValues_r h0_globalCount h0_funs_r h0_funCount h0_open h0_signs h0_levels_r h0_now h0_known_r h0_knownCount h0_loops mad h0_madeLength mag h0_smalls_r h0_greats_r h0_module_r h0_spare_r mm h0_cursor h0_limit blk stk h0_top hgt lab ous kis los h0_depth h0_function mem h0_pages glo val h0_valueTop ffu fre fba fla h0_frames lat lhe h0_labelTop h0_steps h0_there rsl h0_resultLength h0_reason h0_place arg h0_argumentCount h0_code mm mby mm_length mm_types mpc mpt mre mm_functions mto mm_codes mca mce mlc mlt mm_memories mm_least mm_most mm_hasMost mm_globals mgt mgk mgc mst mm_exports mek meo mna mnl men mel mto cmto gmto)) hD hS hA [6, 4, 5] rfl
      refine va_calli (va_runV (As := [.int p0]) (rest := [.ref mpt]) ⟨hx, hb, hml, hown, hts⟩ (c_MD_type1 l dC dI H.size h0 rf tap h0_globalNames_r h0_globalPlaces_r h0_globalTypes_r h0_globalValues_r h0_funs_r h0_levels_r h0_known_r mad mag h0_smalls_r h0_greats_r h0_module_r h0_spare_r mm blk stk hgt lab ous kis los mem glo val ffu fre fba fla lat lhe rsl arg mby mpc mpt mre mto mca mce mlc mlt mgt mgk mgc mst mek meo mna mnl men mel cmto h0_taped h0_length h0_kind h0_from h0_to h0_word h0_numeral h0_globalCount h0_funCount h0_open h0_signs h0_now h0_knownCount h0_loops h0_madeLength h0_cursor h0_limit h0_top h0_depth h0_function h0_pages h0_valueTop h0_frames h0_labelTop h0_steps h0_there h0_resultLength h0_reason h0_place h0_argumentCount h0_code mm_length mm_types mm_functions mm_codes mm_memories mm_least mm_most mm_hasMost mm_globals mm_exports gmto p0 (ba0) (by (first | (apply Int.le_antisymm <;> omega) | omega))) (cwV 1 hts (gV kM_MD_640 kV_MD_type1 kS_MD_type1 kI_MD kC_MD_type1) rfl rfl rfl (by decide +kernel) ⟨Nat.le_of_ble_eq_true rfl, Nat.le_of_ble_eq_true rfl⟩) ⟨fun a U g mk z => by obtain ⟨z0, z1, zP, zK, zD, zS⟩ := z; exact ⟨z0, z1, zP, va_K.moved (u := U) (U := U.calling g mk a) (Vm.Alike.refl U.vm) zK, zD, sw_nest.same (s := U) (U := U.calling g mk a) rfl zS⟩, va_recv hKc hPc (ci := 11) (q0 := 0) rfl rfl, fun U hU hW => ⟨rfl, by rw [hU], va_P.he hU.symm hPc, va_K.moved hW.alike hKc, hDc.weaken (fun _ _ _ _ => trivial), hSW.warm hW⟩⟩ rfl rfl hl.1 rfl (lv_room (Nat.le_of_ble_eq_true rfl)) d_MD_localType_59 ⟨(Nat.zero_le _), (Nat.zero_le _)⟩) hS (fun q _ h => hFc q h) hFc (fun r23 u t H1 locs ht hvm hw hB hz1 hk1 hS => ?_)
      try dsimp only at hw
      have xr23 := hw
      try clear hw
      have tr23 := xr23
      obtain ⟨hP1, hK1, hD1⟩ := hB
      replace hP1 := va_P.he ht hP1
      obtain ⟨hP, hD⟩ := va_joinQ (wr := [(mpt, .inl (cmpt, 20, .inr (.inr (.inr (.inr gmpt))))), (mlt, .inl (cmlt, 30, .inr (.inr (.inr (.inr gmlt))))), (mpc, .inl (cmpc, 20, .inl gmpc)), (mlc, .inl (cmlc, 30, .inl gmlc)), (rf, .inr (15, [rf_backtrace, rf_detailMessage, rf_cause, rf_stackTrace, .int rf_depth, rf_suppressedExceptions, .int n16, .int n15]))]) (w1 := (wz_322 h0 rf tap h0_taped h0_length h0_kind h0_from h0_to h0_word h0_numeral h0_globalNames_r h0_globalPlaces_r h0_globalTypes_r h0_globalValues_r h0_globalCount h0_funs_r h0_funCount h0_open h0_signs h0_levels_r h0_now h0_known_r h0_knownCount h0_loops mad h0_madeLength mag h0_smalls_r h0_greats_r h0_module_r h0_spare_r mm h0_cursor h0_limit blk stk h0_top hgt lab ous kis los h0_depth h0_function mem h0_pages glo val h0_valueTop ffu fre fba fla h0_frames lat lhe h0_labelTop h0_steps h0_there rsl h0_resultLength h0_reason h0_place arg h0_argumentCount h0_code mm mby mm_length mm_types mpc mpt mre mm_functions mto mm_codes mca mce mlc mlt mm_memories mm_least mm_most mm_hasMost mm_globals mgt mgk mgc mst mm_exports mek meo mna mnl men mel mto cmto gmto)) hP hD [6, 4, 5] [0, 1, 2, 3, 7] rfl rfl (by decide) (by decide) hk1 hFc hP1 hD1
      clear hPc hDc hKc hFc hz1 hk1 hP1 hK1 hD1
      rename Heap => H
      have hP : va_P (dC, dI) cls2 (((wz_325 mpt cmpt gmpt mlt cmlt gmlt mpc cmpc gmpc mlc cmlc gmlc rf rf_backtrace rf_detailMessage rf_cause rf_stackTrace rf_depth rf_suppressedExceptions n16 n15 h0 rf tap h0_taped h0_length h0_kind h0_from h0_to h0_word h0_numeral h0_globalNames_r h0_globalPlaces_r h0_globalTypes_r h0_globalValues_r h0_globalCount h0_funs_r h0_funCount h0_open h0_signs h0_levels_r h0_now h0_known_r h0_knownCount h0_loops mad h0_madeLength mag h0_smalls_r h0_greats_r h0_module_r h0_spare_r mm h0_cursor h0_limit blk stk h0_top hgt lab ous kis los h0_depth h0_function mem h0_pages glo val h0_valueTop ffu fre fba fla h0_frames lat lhe h0_labelTop h0_steps h0_there rsl h0_resultLength h0_reason h0_place arg h0_argumentCount h0_code mm mby mm_length mm_types mpc mpt mre mm_functions mto mm_codes mca mce mlc mlt mm_memories mm_least mm_most mm_hasMost mm_globals mgt mgk mgc mst mm_exports mek meo mna mnl men mel mto cmto gmto) : va_W) ++ va_pl LP fP) H := hP
      have hD : va_D A (((wz_325 mpt cmpt gmpt mlt cmlt gmlt mpc cmpc gmpc mlc cmlc gmlc rf rf_backtrace rf_detailMessage rf_cause rf_stackTrace rf_depth rf_suppressedExceptions n16 n15 h0 rf tap h0_taped h0_length h0_kind h0_from h0_to h0_word h0_numeral h0_globalNames_r h0_globalPlaces_r h0_globalTypes_r h0_globalValues_r h0_globalCount h0_funs_r h0_funCount h0_open h0_signs h0_levels_r h0_now h0_known_r h0_knownCount h0_loops mad h0_madeLength mag h0_smalls_r h0_greats_r h0_module_r h0_spare_r mm h0_cursor h0_limit blk stk h0_top hgt lab ous kis los h0_depth h0_function mem h0_pages glo val h0_valueTop ffu fre fba fla h0_frames lat lhe h0_labelTop h0_steps h0_there rsl h0_resultLength h0_reason h0_place arg h0_argumentCount h0_code mm mby mm_length mm_types mpc mpt mre mm_functions mto mm_codes mca mce mlc mlt mm_memories mm_least mm_most mm_hasMost mm_globals mgt mgk mgc mst mm_exports mek meo mna mnl men mel mto cmto gmto) : va_W) ++ va_pl LP fP) := hD
      have zy24 := i32_clamp (x := r23) (by (first | (apply Int.le_antisymm <;> omega) | omega))
      obtain ⟨y24, ay24, my24, fy24⟩ := hg1.out r23.toNatClampNeg (by (first | (apply Int.le_antisymm <;> omega) | omega))
      have g62 : vp_in r23 20 := vp_in_iff.mpr ⟨by (first | (apply Int.le_antisymm <;> omega) | omega), by (first | (apply Int.le_antisymm <;> omega) | omega)⟩
      refine vq_ald hx hb hK hP 0 0 rfl rfl g62 ay24 d_MD_localType_62 ?_
      obtain ⟨hP, hD⟩ := vq_out hP hD my24 fy24
      have hP : va_P (dC, dI) cls2 (([(mpt, .inl (cmpt, 20, .inr (.inr (.inr (.inr gmpt))))), (mlt, .inl (cmlt, 30, .inr (.inr (.inr (.inr gmlt))))), (mpc, .inl (cmpc, 20, .inl gmpc)), (mlc, .inl (cmlc, 30, .inl gmlc)), (rf, .inr (15, [rf_backtrace, rf_detailMessage, rf_cause, rf_stackTrace, .int rf_depth, rf_suppressedExceptions, .int n16, .int n15])), (h0, .inr (11, (.ref rf :: .ref tap :: .int h0_taped :: .int h0_length :: .int h0_kind :: .int h0_from :: .int h0_to :: h0_word :: .long h0_numeral :: .ref h0_globalNames_r :: .ref h0_globalPlaces_r :: .ref h0_globalTypes_r :: .ref h0_globalValues_r :: .int h0_globalCount :: .ref h0_funs_r :: .int h0_funCount :: .int h0_open :: .int h0_signs :: .ref h0_levels_r :: h0_now :: .ref h0_known_r :: .int h0_knownCount :: .int h0_loops :: .ref mad :: .int h0_madeLength :: .ref mag :: .ref h0_smalls_r :: .ref h0_greats_r :: .ref h0_module_r :: .ref h0_spare_r :: .ref mm :: .int h0_cursor :: .int h0_limit :: [ .ref blk, .ref stk, .int h0_top, .ref hgt, .ref lab, .ref ous, .ref kis, .ref los, .int h0_depth, .int h0_function, .ref mem, .int h0_pages, .ref glo, .ref val, .int h0_valueTop, .ref ffu, .ref fre, .ref fba, .ref fla, .int h0_frames, .ref lat, .ref lhe, .int h0_labelTop, .int h0_steps, .int h0_there, .ref rsl, .int h0_resultLength, .int h0_reason, .int h0_place, .ref arg, .int h0_argumentCount, .int h0_code]))), (mm, .inr (12, [.ref mby, .int mm_length, .int mm_types, .ref mpc, .ref mpt, .ref mre, .int mm_functions, .ref mto, .int mm_codes, .ref mca, .ref mce, .ref mlc, .ref mlt, .int mm_memories, .long mm_least, .long mm_most, .int mm_hasMost, .int mm_globals, .ref mgt, .ref mgk, .ref mgc, .ref mst, .int mm_exports, .ref mek, .ref meo, .ref mna, .ref mnl, .ref men, .ref mel])), (mto, .inl (cmto, 30, .inr (.inl gmto))), (y24, .inl (cr, 8, .inl ((M1 r23.toNatClampNeg))))] : va_W) ++ va_pl ((LP.erase y24)) fP) H := hP
      have hD : va_D A (([(mpt, .inl (cmpt, 20, .inr (.inr (.inr (.inr gmpt))))), (mlt, .inl (cmlt, 30, .inr (.inr (.inr (.inr gmlt))))), (mpc, .inl (cmpc, 20, .inl gmpc)), (mlc, .inl (cmlc, 30, .inl gmlc)), (rf, .inr (15, [rf_backtrace, rf_detailMessage, rf_cause, rf_stackTrace, .int rf_depth, rf_suppressedExceptions, .int n16, .int n15])), (h0, .inr (11, (.ref rf :: .ref tap :: .int h0_taped :: .int h0_length :: .int h0_kind :: .int h0_from :: .int h0_to :: h0_word :: .long h0_numeral :: .ref h0_globalNames_r :: .ref h0_globalPlaces_r :: .ref h0_globalTypes_r :: .ref h0_globalValues_r :: .int h0_globalCount :: .ref h0_funs_r :: .int h0_funCount :: .int h0_open :: .int h0_signs :: .ref h0_levels_r :: h0_now :: .ref h0_known_r :: .int h0_knownCount :: .int h0_loops :: .ref mad :: .int h0_madeLength :: .ref mag :: .ref h0_smalls_r :: .ref h0_greats_r :: .ref h0_module_r :: .ref h0_spare_r :: .ref mm :: .int h0_cursor :: .int h0_limit :: [ .ref blk, .ref stk, .int h0_top, .ref hgt, .ref lab, .ref ous, .ref kis, .ref los, .int h0_depth, .int h0_function, .ref mem, .int h0_pages, .ref glo, .ref val, .int h0_valueTop, .ref ffu, .ref fre, .ref fba, .ref fla, .int h0_frames, .ref lat, .ref lhe, .int h0_labelTop, .int h0_steps, .int h0_there, .ref rsl, .int h0_resultLength, .int h0_reason, .int h0_place, .ref arg, .int h0_argumentCount, .int h0_code]))), (mm, .inr (12, [.ref mby, .int mm_length, .int mm_types, .ref mpc, .ref mpt, .ref mre, .int mm_functions, .ref mto, .int mm_codes, .ref mca, .ref mce, .ref mlc, .ref mlt, .int mm_memories, .long mm_least, .long mm_most, .int mm_hasMost, .int mm_globals, .ref mgt, .ref mgk, .ref mgc, .ref mst, .int mm_exports, .ref mek, .ref meo, .ref mna, .ref mnl, .ref men, .ref mel])), (mto, .inl (cmto, 30, .inr (.inl gmto))), (y24, .inl (cr, 8, .inl ((M1 r23.toNatClampNeg))))] : va_W) ++ va_pl ((LP.erase y24)) fP) := hD
      refine lv_lload_n hx hb d_MD_localType_63 rfl (lv_at hl 3 rfl) ?_
      refine lv_l2i hx hb d_MD_localType_64 rfl ?_
      refine lv_topi (fun x25 ex25 => ?_)
      have tx25 := l2i_t ex25 (by (first | (apply Int.le_antisymm <;> omega) | omega)) (by (first | (apply Int.le_antisymm <;> omega) | omega))
      have g65 : vp_in x25 8 := vp_in_iff.mpr ⟨by (first | (apply Int.le_antisymm <;> omega) | omega), by (first | (apply Int.le_antisymm <;> omega) | omega)⟩
      refine va_iald hx hb hK hP 8 5 rfl rfl g65 d_MD_localType_65 ?_
      refine lv_topi (fun x26 ex26 => ?_)
      refine lv_goto (tgt := 84) hx hb d_MD_localType_66 (by decide) ?_
      have hP := hP.part (cx := ((wz_325 mpt cmpt gmpt mlt cmlt gmlt mpc cmpc gmpc mlc cmlc gmlc rf rf_backtrace rf_detailMessage rf_cause rf_stackTrace rf_depth rf_suppressedExceptions n16 n15 h0 rf tap h0_taped h0_length h0_kind h0_from h0_to h0_word h0_numeral h0_globalNames_r h0_globalPlaces_r h0_globalTypes_r h0_globalValues_r h0_globalCount h0_funs_r h0_funCount h0_open h0_signs h0_levels_r h0_now h0_known_r h0_knownCount h0_loops mad h0_madeLength mag h0_smalls_r h0_greats_r h0_module_r h0_spare_r mm h0_cursor h0_limit blk stk h0_top hgt lab ous kis los h0_depth h0_function mem h0_pages glo val h0_valueTop ffu fre fba fla h0_frames lat lhe h0_labelTop h0_steps h0_there rsl h0_resultLength h0_reason h0_place arg h0_argumentCount h0_code mm mby mm_length mm_types mpc mpt mre mm_functions mto mm_codes mca mce mlc mlt mm_memories mm_least mm_most mm_hasMost mm_globals mgt mgk mgc mst mm_exports mek meo mna mnl men mel mto cmto gmto) : va_W) ++ ([(y24, .inl (cr, 8, .inl ((M1 r23.toNatClampNeg))))] : va_W)) [0, 1, 2, 3, 4, 5, 6, 7, 8] rfl
      have hD := hD.part (cx := ((wz_325 mpt cmpt gmpt mlt cmlt gmlt mpc cmpc gmpc mlc cmlc gmlc rf rf_backtrace rf_detailMessage rf_cause rf_stackTrace rf_depth rf_suppressedExceptions n16 n15 h0 rf tap h0_taped h0_length h0_kind h0_from h0_to h0_word h0_numeral h0_globalNames_r h0_globalPlaces_r h0_globalTypes_r h0_globalValues_r h0_globalCount h0_funs_r h0_funCount h0_open h0_signs h0_levels_r h0_now h0_known_r h0_knownCount h0_loops mad h0_madeLength mag h0_smalls_r h0_greats_r h0_module_r h0_spare_r mm h0_cursor h0_limit blk stk h0_top hgt lab ous kis los h0_depth h0_function mem h0_pages glo val h0_valueTop ffu fre fba fla h0_frames lat lhe h0_labelTop h0_steps h0_there rsl h0_resultLength h0_reason h0_place arg h0_argumentCount h0_code mm mby mm_length mm_types mpc mpt mre mm_functions mto mm_codes mca mce mlc mlt mm_memories mm_least mm_most mm_hasMost mm_globals mgt mgk mgc mst mm_exports mek meo mna mnl men mel mto cmto gmto) : va_W) ++ ([(y24, .inl (cr, 8, .inl ((M1 r23.toNatClampNeg))))] : va_W)) [0, 1, 2, 3, 4, 5, 6, 7, 8] (by decide) rfl
      obtain ⟨hP, hD⟩ := vq_in0 my24 hnd fy24 hP hD
      have hP : va_P (dC, dI) cls2 (((wz_325 mpt cmpt gmpt mlt cmlt gmlt mpc cmpc gmpc mlc cmlc gmlc rf rf_backtrace rf_detailMessage rf_cause rf_stackTrace rf_depth rf_suppressedExceptions n16 n15 h0 rf tap h0_taped h0_length h0_kind h0_from h0_to h0_word h0_numeral h0_globalNames_r h0_globalPlaces_r h0_globalTypes_r h0_globalValues_r h0_globalCount h0_funs_r h0_funCount h0_open h0_signs h0_levels_r h0_now h0_known_r h0_knownCount h0_loops mad h0_madeLength mag h0_smalls_r h0_greats_r h0_module_r h0_spare_r mm h0_cursor h0_limit blk stk h0_top hgt lab ous kis los h0_depth h0_function mem h0_pages glo val h0_valueTop ffu fre fba fla h0_frames lat lhe h0_labelTop h0_steps h0_there rsl h0_resultLength h0_reason h0_place arg h0_argumentCount h0_code mm mby mm_length mm_types mpc mpt mre mm_functions mto mm_codes mca mce mlc mlt mm_memories mm_least mm_most mm_hasMost mm_globals mgt mgk mgc mst mm_exports mek meo mna mnl men mel mto cmto gmto) : va_W) ++ va_pl LP fP) H := hP
      have hD : va_D A (((wz_325 mpt cmpt gmpt mlt cmlt gmlt mpc cmpc gmpc mlc cmlc gmlc rf rf_backtrace rf_detailMessage rf_cause rf_stackTrace rf_depth rf_suppressedExceptions n16 n15 h0 rf tap h0_taped h0_length h0_kind h0_from h0_to h0_word h0_numeral h0_globalNames_r h0_globalPlaces_r h0_globalTypes_r h0_globalValues_r h0_globalCount h0_funs_r h0_funCount h0_open h0_signs h0_levels_r h0_now h0_known_r h0_knownCount h0_loops mad h0_madeLength mag h0_smalls_r h0_greats_r h0_module_r h0_spare_r mm h0_cursor h0_limit blk stk h0_top hgt lab ous kis los h0_depth h0_function mem h0_pages glo val h0_valueTop ffu fre fba fla h0_frames lat lhe h0_labelTop h0_steps h0_there rsl h0_resultLength h0_reason h0_place arg h0_argumentCount h0_code mm mby mm_length mm_types mpc mpt mre mm_functions mto mm_codes mca mce mlc mlt mm_memories mm_least mm_most mm_hasMost mm_globals mgt mgk mgc mst mm_exports mek meo mna mnl men mel mto cmto gmto) : va_W) ++ va_pl LP fP) := hD
      have hP9 := hP.part (cx := (wz_323 h0 rf tap h0_taped h0_length h0_kind h0_from h0_to h0_word h0_numeral h0_globalNames_r h0_globalPlaces_r h0_globalTypes_r h0_globalValues_r h0_globalCount h0_funs_r h0_funCount h0_open h0_signs h0_levels_r h0_now h0_known_r h0_knownCount h0_loops mad h0_madeLength mag h0_smalls_r h0_greats_r h0_module_r h0_spare_r mm h0_cursor h0_limit blk stk h0_top hgt lab ous kis los h0_depth h0_function mem h0_pages glo val h0_valueTop ffu fre fba fla h0_frames lat lhe h0_labelTop h0_steps h0_there rsl h0_resultLength h0_reason h0_place arg h0_argumentCount h0_code rf rf_backtrace rf_detailMessage rf_cause rf_stackTrace rf_depth rf_suppressedExceptions n16 n15 mm mby mm_length mm_types mpc mpt mre mm_functions mto mm_codes mca mce mlc mlt mm_memories mm_least mm_most mm_hasMost mm_globals mgt mgk mgc mst mm_exports mek meo mna mnl men mel mpt cmpt gmpt mlt cmlt gmlt mpc cmpc gmpc mto cmto gmto mlc cmlc gmlc)) [5, 4, 6, 0, 1, 2, 7, 3] rfl
      have hD9 := hD.part (cx := (wz_323 h0 rf tap h0_taped h0_length h0_kind h0_from h0_to h0_word h0_numeral h0_globalNames_r h0_globalPlaces_r h0_globalTypes_r h0_globalValues_r h0_globalCount h0_funs_r h0_funCount h0_open h0_signs h0_levels_r h0_now h0_known_r h0_knownCount h0_loops mad h0_madeLength mag h0_smalls_r h0_greats_r h0_module_r h0_spare_r mm h0_cursor h0_limit blk stk h0_top hgt lab ous kis los h0_depth h0_function mem h0_pages glo val h0_valueTop ffu fre fba fla h0_frames lat lhe h0_labelTop h0_steps h0_there rsl h0_resultLength h0_reason h0_place arg h0_argumentCount h0_code rf rf_backtrace rf_detailMessage rf_cause rf_stackTrace rf_depth rf_suppressedExceptions n16 n15 mm mby mm_length mm_types mpc mpt mre mm_functions mto mm_codes mca mce mlc mlt mm_memories mm_least mm_most mm_hasMost mm_globals mgt mgk mgc mst mm_exports mek meo mna mnl men mel mpt cmpt gmpt mlt cmlt gmlt mpc cmpc gmpc mto cmto gmto mlc cmlc gmlc)) [5, 4, 6, 0, 1, 2, 7, 3] (by decide) rfl
      exact tz_up (fun _ => rfl) (W.iret (v := x26) hx hb hr (fun t ht hW => ⟨⟨(n15, n16), ⟨x26, rfl, (⟨fun _ => by rw [ex26, show r23.toNatClampNeg = (gmto p0.toNatClampNeg).toInt.toNat from by (first | (apply Int.le_antisymm <;> omega) | omega), show x25.toNatClampNeg = p1.toInt.toNat from clampN (by (first | (apply Int.le_antisymm <;> omega) | omega))], fun z => absurd z (by rw [← tc9]; (first | (apply Int.le_antisymm <;> omega) | omega)), by rw [← tc9, ← tl9]; (first | (apply Int.le_antisymm <;> omega) | omega)⟩)⟩, va_P.he ht.symm hP9, va_K.moved hW.alike hK, hD9⟩, hS.F ht⟩) hS.2.2 d_MD_localType_84)
end q_m07
section q_m08
/-! the reference reads code: its bytes, and the numbered instructions that they are -/
def lkD (b : Nat → Int32) (pos : Nat → Nat) (gop gpt glb : Nat → Int32) (gva : Nat → Int64) (j : Nat) : Prop :=
  (b (pos j) &&& 255).toInt = (gop j).toInt ∧
  (opI (gop j).toInt → (gva j).toInt = (uF b 5 (pos j + 1) 0 0).toInt) ∧
  ((gop j).toInt = 2 ∨ (gop j).toInt = 3 ∨ (gop j).toInt = 4 → (gva j).toInt = (b (pos j + 1) &&& 255).toInt) ∧
  ((gop j).toInt = 14 → (gpt j).toInt = (uF b 5 (pos j + 1) 0 0).toInt ∧ ∀ k : Nat, (k : Int) ≤ (gpt j).toInt → (glb ((gva j).toInt.toNat + k)).toInt = (uF b 5 (tbl b (nF b 5 (pos j + 1)) k) 0 0).toInt)
def lkB (en el : Nat → Int32) (pos : Nat → Nat) (gpt gel : Nat → Int32) (op : Nat → Prop) (nn j : Nat) : Prop :=
  ((gel j).toInt < 0 → (el (pos j)).toInt < 0) ∧ (0 ≤ (gel j).toInt → (el (pos j)).toInt = (pos (gel j).toNatClampNeg : Int)) ∧ (¬ op j → (en (pos j)).toInt = (pos (gpt j).toNatClampNeg : Int) ∧ (gpt j).toNatClampNeg < nn)
def isop (go : Nat → Int32) (oc : Int32) (j : Nat) : Prop := ∃ k : Nat, (k : Int) < oc.toInt ∧ (go k).toNatClampNeg = j
def blk3 (o : Int) : Prop := o = 2 ∨ o = 3 ∨ o = 4
def ckI (b en el : Nat → Int32) (a : Nat) (n oc lc : Int32) (gop gpt gel glb go : Nat → Int32) (gva : Nat → Int64) (pos : Nat → Nat) (bk : Nat → Int32) (cu : Int) : Prop :=
  rc_inv a 1 n oc lc gop gpt gel go gva ∧ ((a : Int) ≤ n.toInt ∧ n.toInt ≤ cu ∧ 0 ≤ lc.toInt ∧ lc.toInt ≤ cu ∧ (pos n.toNatClampNeg : Int) = cu) ∧
  (∀ j, a ≤ j → j < n.toNatClampNeg → pos j < pos (j + 1) ∧ lkD b pos gop gpt glb gva j ∧ pos (j + 1) = nxo b (gop j).toInt (pos j + 1) ∧ (blk3 (gop j).toInt → lkB en el pos gpt gel (isop go oc) n.toNatClampNeg j)) ∧
  (∀ k : Nat, (k : Int) < oc.toInt → (bk k).toInt = (pos (go k).toNatClampNeg : Int) ∧ a ≤ (go k).toNatClampNeg ∧ (go k).toNatClampNeg < n.toNatClampNeg)
def ckS (a : Nat) (lc0 : Int) (start : Nat) (gop0 gpt0 gel0 glb0 en0 el0 gop gpt gel glb en el : Nat → Int32) (gva0 gva : Nat → Int64) (pos0 pos : Nat → Nat) : Prop :=
  rc_same a gop0 gpt0 gel0 gop gpt gel gva0 gva ∧ (∀ i : Nat, (i : Int) < lc0 → glb i = glb0 i) ∧ (∀ j, j < a → pos j = pos0 j) ∧ pos a = start ∧ ∀ p, p < start → en p = en0 p ∧ el p = el0 p
section CK
variable {b en el gop gpt gel glb go bk : Nat → Int32} {gva : Nat → Int64} {pos : Nat → Nat} {a : Nat} {n oc lc : Int32} {cu : Int}
theorem ck_mono (h : ∀ j, a ≤ j → j < n.toNatClampNeg → pos j < pos (j + 1)) {i : Nat} (hi : a ≤ i) : ∀ k : Nat, i + k ≤ n.toNatClampNeg → (k = 0 ∨ pos i < pos (i + k))
  | 0, _ => Or.inl rfl
  | k + 1, hk => by
    right
    have h1 := h (i + k) (by (first | (apply Int.le_antisymm <;> omega) | omega)) (by (first | (apply Int.le_antisymm <;> omega) | omega))
    rcases ck_mono h hi k (by (first | (apply Int.le_antisymm <;> omega) | omega)) with rfl | h2
    · exact h1
    · exact Nat.lt_trans h2 h1
theorem ck_lt (h : ∀ j, a ≤ j → j < n.toNatClampNeg → pos j < pos (j + 1)) {i j : Nat} (hi : a ≤ i) (hij : i < j) (hj : j ≤ n.toNatClampNeg) : pos i < pos j := by
  rcases ck_mono h hi (j - i) (by (first | (apply Int.le_antisymm <;> omega) | omega)) with q | q
  · (first | (apply Int.le_antisymm <;> omega) | omega)
  · rw [show i + (j - i) = j by (first | (apply Int.le_antisymm <;> omega) | omega)] at q
    exact q
theorem lkD_eq {pos2 : Nat → Nat} {gop2 gpt2 glb2 : Nat → Int32} {gva2 : Nat → Int64} {j : Nat} (h : lkD b pos gop gpt glb gva j) (e1 : pos2 j = pos j) (e2 : gop2 j = gop j) (e3 : (gop j).toInt = 14 → gpt2 j = gpt j) (e4 : gva2 j = gva j) (e5 : (gop j).toInt = 14 → ∀ k : Nat, (k : Int) ≤ (gpt j).toInt → glb2 ((gva j).toInt.toNat + k) = glb ((gva j).toInt.toNat + k)) : lkD b pos2 gop2 gpt2 glb2 gva2 j := by
  obtain ⟨h1, h2, h3, h4⟩ := h
  unfold lkD
  rw [e1, e2, e4]
  refine ⟨h1, h2, h3, fun z => ?_⟩
  obtain ⟨h5, h6⟩ := h4 z
  rw [e3 z]
  exact ⟨h5, fun k hk => by rw [e5 z k hk]; exact h6 k hk⟩
/-- the table's labels lie below lc -/
theorem ck_lab (h : rc_inv a 1 n oc lc gop gpt gel go gva) {j : Nat} (h1 : a ≤ j) (h2 : j < n.toNatClampNeg) (h3 : (gop j).toInt = 14) : 0 ≤ (gva j).toInt ∧ 0 ≤ (gpt j).toInt ∧ (gva j).toInt + (gpt j).toInt < lc.toInt := by
  obtain ⟨sb, k1, -⟩ := h.2.1 (by decide)
  exact (k1.2.2.2 j h1 h2).1.2.2.1 h3
/-- an instruction that opens and closes nothing -/
theorem ck_plain (h : ckI b en el a n oc lc gop gpt gel glb go gva pos bk cu) {o lc2 n2 : Int32} {gpt2 gel2 glb2 : Nat → Int32} {gva2 : Nat → Int64} {c2 : Nat} (hn2 : n2.toInt = n.toInt + 1) (hcu : cu < (c2 : Int)) (hc2 : n.toInt < 5000) (hoc : 0 ≤ oc.toInt ∧ oc.toInt ≤ 100)
    (st : rstep n o oc lc 1 oc lc2 gop gpt gel glb go (upd gop n.toNatClampNeg o) gpt2 gel2 glb2 go gva gva2) (ho : ¬ blk3 o.toInt)
    (hp : ∀ j, j ≠ n.toNatClampNeg → gpt2 j = gpt j ∧ gel2 j = gel j ∧ gva2 j = gva j) (hlb : ∀ i : Nat, (i : Int) < lc.toInt → glb2 i = glb i) (hlc : 0 ≤ lc2.toInt ∧ lc2.toInt ≤ (c2 : Int))
    (hD : lkD b (va_up pos (n.toNatClampNeg + 1) c2) (upd gop n.toNatClampNeg o) gpt2 glb2 gva2 n.toNatClampNeg) (hx : c2 = nxo b o.toInt (pos n.toNatClampNeg + 1)) :
    ckI b en el a n2 oc lc2 (upd gop n.toNatClampNeg o) gpt2 gel2 glb2 go gva2 (va_up pos (n.toNatClampNeg + 1) c2) bk (c2 : Int) := by
  obtain ⟨h1, ⟨a1, a2, a3, a4, a5⟩, h3, h4⟩ := h
  have zn := i32_clamp (x := n) (by (first | (apply Int.le_antisymm <;> omega) | omega))
  have e2 : n2.toNatClampNeg = n.toNatClampNeg + 1 := by rw [i32_natI hn2]; (first | (apply Int.le_antisymm <;> omega) | omega)
  have R := (rc_next (gop0 := gop) (gpt0 := gpt) (gel0 := gel) (gva0 := gva) h1 (fun j _ => ⟨rfl, rfl, rfl, rfl⟩) (by decide) ⟨by (first | (apply Int.le_antisymm <;> omega) | omega), hc2⟩ hn2 hoc a3 (Or.inr (by decide)) st).1
  refine ⟨R, ⟨by (first | (apply Int.le_antisymm <;> omega) | omega), by (first | (apply Int.le_antisymm <;> omega) | omega), hlc.1, hlc.2, by rw [e2, va_up_self]⟩, fun j j1 j2 => ?_, fun k hk => ?_⟩
  · rw [e2] at j2
    by_cases ej : j = n.toNatClampNeg
    · subst ej
      refine ⟨by rw [va_up_self, va_up_ne _ _ (by (first | (apply Int.le_antisymm <;> omega) | omega))]; (first | (apply Int.le_antisymm <;> omega) | omega), hD, by rw [va_up_self, va_up_ne _ _ (by (first | (apply Int.le_antisymm <;> omega) | omega)), pk_us]; exact hx, fun z => absurd z (by rw [pk_us]; exact ho)⟩
    · obtain ⟨q1, q2, q3, q4⟩ := h3 j j1 (by (first | (apply Int.le_antisymm <;> omega) | omega))
      have p1 : va_up pos (n.toNatClampNeg + 1) c2 j = pos j := va_up_ne _ _ (by (first | (apply Int.le_antisymm <;> omega) | omega))
      have p2 : va_up pos (n.toNatClampNeg + 1) c2 (j + 1) = pos (j + 1) := va_up_ne _ _ (by (first | (apply Int.le_antisymm <;> omega) | omega))
      refine ⟨by rw [p1, p2]; exact q1, lkD_eq q2 p1 (pk_un ej) (fun _ => (hp j ej).1) (hp j ej).2.2 (fun z k hk => ?_), by rw [p1, p2, pk_un ej]; exact q3, fun z => ?_⟩
      · have := ck_lab h1 j1 (by (first | (apply Int.le_antisymm <;> omega) | omega)) z
        exact hlb _ (by (first | (apply Int.le_antisymm <;> omega) | omega))
      · rw [pk_un ej] at z
        have q5 := q4 z
        unfold lkB at q5 ⊢
        obtain ⟨sb, k1, -⟩ := h1.2.1 (by decide)
        have k2 := k1.2.2.2 j j1 (by (first | (apply Int.le_antisymm <;> omega) | omega))
        rw [(hp j ej).1, (hp j ej).2.1, p1]
        refine ⟨q5.1, fun y => ?_, fun y => ?_⟩
        · rw [q5.2.1 y, va_up_ne _ _ (fun q => ?_)]
          have := rs_els k1 j1 (by (first | (apply Int.le_antisymm <;> omega) | omega)) y
          (first | (apply Int.le_antisymm <;> omega) | omega)
        · obtain ⟨y1, y2⟩ := q5.2.2 y
          exact ⟨by rw [y1, va_up_ne _ _ (by (first | (apply Int.le_antisymm <;> omega) | omega))], by (first | (apply Int.le_antisymm <;> omega) | omega)⟩
  · obtain ⟨q1, q2, q3⟩ := h4 k hk
    exact ⟨by rw [va_up_ne _ _ (by (first | (apply Int.le_antisymm <;> omega) | omega))]; exact q1, q2, by (first | (apply Int.le_antisymm <;> omega) | omega)⟩
/-- a block is opened -/
theorem ck_open (h : ckI b en el a n oc lc gop gpt gel glb go gva pos bk cu) {o n2 oc2 x : Int32} {v : Int64} {c2 : Nat} (hn2 : n2.toInt = n.toInt + 1) (hcu : cu < (c2 : Int)) (hc2 : n.toInt < 5000) (hoc : 0 ≤ oc.toInt ∧ oc.toInt < 100) (ho : blk3 o.toInt) (hoc2 : oc2.toInt = oc.toInt + 1)
    (hv : v.toInt = 64 ∨ v.toInt = 127 ∨ v.toInt = 126) (hxx : x.toInt = cu) (hb1 : (b (pos n.toNatClampNeg) &&& 255).toInt = o.toInt) (hb2 : v.toInt = (b (pos n.toNatClampNeg + 1) &&& 255).toInt) (hx : c2 = nxo b o.toInt (pos n.toNatClampNeg + 1)) :
    ckI b en (upd el (pos n.toNatClampNeg) (-1)) a n2 oc2 lc (upd gop n.toNatClampNeg o) (upd gpt n.toNatClampNeg 0) (upd gel n.toNatClampNeg (-1)) glb (upd go oc.toNatClampNeg n) (vp_updL (vp_updL gva n.toNatClampNeg 0) n.toNatClampNeg v) (va_up pos (n.toNatClampNeg + 1) c2) (upd bk oc.toNatClampNeg x) (c2 : Int) := by
  obtain ⟨h1, ⟨a1, a2, a3, a4, a5⟩, h3, h4⟩ := h
  have zn := i32_clamp (x := n) (by (first | (apply Int.le_antisymm <;> omega) | omega))
  have zo := i32_clamp (x := oc) (by (first | (apply Int.le_antisymm <;> omega) | omega))
  have km : (-1 : Int32).toInt = -1 := by decide
  have e2 : n2.toNatClampNeg = n.toNatClampNeg + 1 := by rw [i32_natI hn2]; (first | (apply Int.le_antisymm <;> omega) | omega)
  have st : rstep n o oc lc 1 oc2 lc gop gpt gel glb go (upd gop n.toNatClampNeg o) (upd gpt n.toNatClampNeg 0) (upd gel n.toNatClampNeg (-1)) glb (upd go oc.toNatClampNeg n) gva (vp_updL (vp_updL gva n.toNatClampNeg 0) n.toNatClampNeg v) := ⟨rfl, Or.inl ⟨ho, by decide, by (first | (apply Int.le_antisymm <;> omega) | omega), hoc2, rfl, rfl, rfl, rfl, rfl, v, hv, rfl⟩⟩
  have R := (rc_next (gop0 := gop) (gpt0 := gpt) (gel0 := gel) (gva0 := gva) h1 (fun j _ => ⟨rfl, rfl, rfl, rfl⟩) (by decide) ⟨by (first | (apply Int.le_antisymm <;> omega) | omega), hc2⟩ hn2 ⟨by (first | (apply Int.le_antisymm <;> omega) | omega), by (first | (apply Int.le_antisymm <;> omega) | omega)⟩ a3 (Or.inr (by decide)) st).1
  have mono : ∀ j, a ≤ j → j < n.toNatClampNeg → pos j < pos (j + 1) := fun j q1 q2 => (h3 j q1 q2).1
  have go2 : ∀ k : Nat, (k : Int) < oc.toInt → upd go oc.toNatClampNeg n k = go k := fun k hk => pk_un (by (first | (apply Int.le_antisymm <;> omega) | omega))
  refine ⟨R, ⟨by (first | (apply Int.le_antisymm <;> omega) | omega), by (first | (apply Int.le_antisymm <;> omega) | omega), a3, by (first | (apply Int.le_antisymm <;> omega) | omega), by rw [e2, va_up_self]⟩, fun j j1 j2 => ?_, fun k hk => ?_⟩
  · rw [e2] at j2
    by_cases ej : j = n.toNatClampNeg
    · subst ej
      have p1 : va_up pos (n.toNatClampNeg + 1) c2 n.toNatClampNeg = pos n.toNatClampNeg := va_up_ne _ _ (by (first | (apply Int.le_antisymm <;> omega) | omega))
      refine ⟨by rw [va_up_self, p1]; (first | (apply Int.le_antisymm <;> omega) | omega), ⟨by rw [p1, pk_us]; exact hb1, fun z => ?_, fun _ => ?_, fun z => ?_⟩, by rw [va_up_self, p1, pk_us]; exact hx, fun _ => ⟨fun _ => ?_, fun z => ?_, fun z => absurd ⟨oc.toNatClampNeg, by (first | (apply Int.le_antisymm <;> omega) | omega), by rw [pk_us]⟩ z⟩⟩
      · rw [pk_us] at z
        unfold opI at z
        unfold blk3 at ho
        (first | (apply Int.le_antisymm <;> omega) | omega)
      · rw [p1, show vp_updL (vp_updL gva n.toNatClampNeg 0) n.toNatClampNeg v n.toNatClampNeg = v from if_pos rfl]
        exact hb2
      · rw [pk_us] at z
        unfold blk3 at ho
        (first | (apply Int.le_antisymm <;> omega) | omega)
      · rw [p1, pk_us, km]
        (first | (apply Int.le_antisymm <;> omega) | omega)
      · rw [pk_us, km] at z
        (first | (apply Int.le_antisymm <;> omega) | omega)
    · obtain ⟨q1, q2, q3, q4⟩ := h3 j j1 (by (first | (apply Int.le_antisymm <;> omega) | omega))
      have p1 : va_up pos (n.toNatClampNeg + 1) c2 j = pos j := va_up_ne _ _ (by (first | (apply Int.le_antisymm <;> omega) | omega))
      have p2 : va_up pos (n.toNatClampNeg + 1) c2 (j + 1) = pos (j + 1) := va_up_ne _ _ (by (first | (apply Int.le_antisymm <;> omega) | omega))
      refine ⟨by rw [p1, p2]; exact q1, lkD_eq q2 p1 (pk_un ej) (fun _ => pk_un ej) (by rw [uL_un ej, uL_un ej]) (fun _ _ _ => rfl), by rw [p1, p2, pk_un ej]; exact q3, fun z => ?_⟩
      rw [pk_un ej] at z
      have q5 := q4 z
      have lt := ck_lt mono j1 (show j < n.toNatClampNeg by (first | (apply Int.le_antisymm <;> omega) | omega)) (Nat.le_refl _)
      obtain ⟨sb, k1, -⟩ := h1.2.1 (by decide)
      unfold lkB at q5 ⊢
      rw [pk_un ej, pk_un ej, p1, pk_un (show pos j ≠ pos n.toNatClampNeg by (first | (apply Int.le_antisymm <;> omega) | omega))]
      refine ⟨q5.1, fun y => ?_, fun y => ?_⟩
      · rw [q5.2.1 y, va_up_ne _ _ (fun q => ?_)]
        have := rs_els k1 j1 (by (first | (apply Int.le_antisymm <;> omega) | omega)) y
        (first | (apply Int.le_antisymm <;> omega) | omega)
      · obtain ⟨y1, y2⟩ := q5.2.2 (fun ⟨k, k1, k2⟩ => y ⟨k, by (first | (apply Int.le_antisymm <;> omega) | omega), by rw [go2 k k1]; exact k2⟩)
        exact ⟨by rw [y1, va_up_ne _ _ (by (first | (apply Int.le_antisymm <;> omega) | omega))], by (first | (apply Int.le_antisymm <;> omega) | omega)⟩
  · by_cases ek : k = oc.toNatClampNeg
    · subst ek
      rw [pk_us, pk_us, va_up_ne _ _ (by (first | (apply Int.le_antisymm <;> omega) | omega))]
      (first | (apply Int.le_antisymm <;> omega) | omega)
    · obtain ⟨q1, q2, q3⟩ := h4 k (by (first | (apply Int.le_antisymm <;> omega) | omega))
      rw [pk_un ek, pk_un ek, va_up_ne _ _ (by (first | (apply Int.le_antisymm <;> omega) | omega))]
      exact ⟨q1, q2, by (first | (apply Int.le_antisymm <;> omega) | omega)⟩
/-- an else -/
theorem ck_else (h : ckI b en el a n oc lc gop gpt gel glb go gva pos bk cu) {o n2 x : Int32} {c2 : Nat} (hn2 : n2.toInt = n.toInt + 1) (hcu : cu < (c2 : Int)) (hc2 : n.toInt < 5000) (hoc : 0 < oc.toInt ∧ oc.toInt ≤ 100) (ho : o.toInt = 5) (hxx : x.toInt = cu)
    (hb1 : (b (pos n.toNatClampNeg) &&& 255).toInt = o.toInt) (h4b : (b (pos (go (oc.toNatClampNeg - 1)).toNatClampNeg) &&& 255).toInt = 4) (hel : (el (pos (go (oc.toNatClampNeg - 1)).toNatClampNeg)).toInt < 0) (hx : c2 = nxo b o.toInt (pos n.toNatClampNeg + 1)) :
    ckI b en (upd el (pos (go (oc.toNatClampNeg - 1)).toNatClampNeg) x) a n2 oc lc (upd gop n.toNatClampNeg o) (upd gpt n.toNatClampNeg 0) (upd (upd gel n.toNatClampNeg (-1)) (go (oc.toNatClampNeg - 1)).toNatClampNeg n) glb go (vp_updL gva n.toNatClampNeg 0) (va_up pos (n.toNatClampNeg + 1) c2) bk (c2 : Int) := by
  obtain ⟨h1, ⟨a1, a2, a3, a4, a5⟩, h3, h4⟩ := h
  have zn := i32_clamp (x := n) (by (first | (apply Int.le_antisymm <;> omega) | omega))
  have zo := i32_clamp (x := oc) (by (first | (apply Int.le_antisymm <;> omega) | omega))
  have km : (-1 : Int32).toInt = -1 := by decide
  have e2 : n2.toNatClampNeg = n.toNatClampNeg + 1 := by rw [i32_natI hn2]; (first | (apply Int.le_antisymm <;> omega) | omega)
  generalize hB : (go (oc.toNatClampNeg - 1)).toNatClampNeg = B at h4b hel ⊢
  obtain ⟨w1, w2, w3⟩ := h4 (oc.toNatClampNeg - 1) (by (first | (apply Int.le_antisymm <;> omega) | omega))
  rw [hB] at w1 w2 w3
  obtain ⟨c1, c3, c4, c5⟩ := h3 B w2 w3
  have g4 : (gop B).toInt = 4 := by rw [← c3.1]; exact h4b
  have gel0 : (gel B).toInt < 0 := by
    have q := c5 (Or.inr (Or.inr g4))
    by_cases w : (gel B).toInt < 0
    · exact w
    · have := q.2.1 (by (first | (apply Int.le_antisymm <;> omega) | omega)); (first | (apply Int.le_antisymm <;> omega) | omega)
  have st : rstep n o oc lc 1 oc lc gop gpt gel glb go (upd gop n.toNatClampNeg o) (upd gpt n.toNatClampNeg 0) (upd (upd gel n.toNatClampNeg (-1)) B n) glb go gva (vp_updL gva n.toNatClampNeg 0) := ⟨rfl, Or.inr (Or.inl ⟨ho, by decide, rfl, rfl, rfl, rfl, rfl, rfl, by (first | (apply Int.le_antisymm <;> omega) | omega), by rw [hB, pk_un (by (first | (apply Int.le_antisymm <;> omega) | omega))]; exact g4, by rw [hB, pk_un (by (first | (apply Int.le_antisymm <;> omega) | omega))]; exact gel0, by rw [hB]⟩)⟩
  have R := (rc_next (gop0 := gop) (gpt0 := gpt) (gel0 := gel) (gva0 := gva) h1 (fun j _ => ⟨rfl, rfl, rfl, rfl⟩) (by decide) ⟨by (first | (apply Int.le_antisymm <;> omega) | omega), hc2⟩ hn2 ⟨by (first | (apply Int.le_antisymm <;> omega) | omega), by (first | (apply Int.le_antisymm <;> omega) | omega)⟩ a3 (Or.inr (by decide)) st).1
  have mono : ∀ j, a ≤ j → j < n.toNatClampNeg → pos j < pos (j + 1) := fun j q1 q2 => (h3 j q1 q2).1
  refine ⟨R, ⟨by (first | (apply Int.le_antisymm <;> omega) | omega), by (first | (apply Int.le_antisymm <;> omega) | omega), a3, by (first | (apply Int.le_antisymm <;> omega) | omega), by rw [e2, va_up_self]⟩, fun j j1 j2 => ?_, fun k hk => ?_⟩
  · rw [e2] at j2
    by_cases ej : j = n.toNatClampNeg
    · subst ej
      have p1 : va_up pos (n.toNatClampNeg + 1) c2 n.toNatClampNeg = pos n.toNatClampNeg := va_up_ne _ _ (by (first | (apply Int.le_antisymm <;> omega) | omega))
      refine ⟨by rw [va_up_self, p1]; (first | (apply Int.le_antisymm <;> omega) | omega), ⟨by rw [p1, pk_us]; exact hb1, fun z => ?_, fun z => ?_, fun z => ?_⟩, by rw [va_up_self, p1, pk_us]; exact hx, fun z => ?_⟩
      · rw [pk_us] at z; unfold opI at z; (first | (apply Int.le_antisymm <;> omega) | omega)
      · rw [pk_us] at z; (first | (apply Int.le_antisymm <;> omega) | omega)
      · rw [pk_us] at z; (first | (apply Int.le_antisymm <;> omega) | omega)
      · rw [pk_us] at z; unfold blk3 at z; (first | (apply Int.le_antisymm <;> omega) | omega)
    · obtain ⟨q1, q2, q3, q4⟩ := h3 j j1 (by (first | (apply Int.le_antisymm <;> omega) | omega))
      have p1 : va_up pos (n.toNatClampNeg + 1) c2 j = pos j := va_up_ne _ _ (by (first | (apply Int.le_antisymm <;> omega) | omega))
      have p2 : va_up pos (n.toNatClampNeg + 1) c2 (j + 1) = pos (j + 1) := va_up_ne _ _ (by (first | (apply Int.le_antisymm <;> omega) | omega))
      refine ⟨by rw [p1, p2]; exact q1, lkD_eq q2 p1 (pk_un ej) (fun _ => pk_un ej) (by rw [uL_un ej]) (fun _ _ _ => rfl), by rw [p1, p2, pk_un ej]; exact q3, fun z => ?_⟩
      rw [pk_un ej] at z
      have q5 := q4 z
      obtain ⟨sb, k1, -⟩ := h1.2.1 (by decide)
      unfold lkB at q5 ⊢
      rw [pk_un ej, p1]
      refine ⟨fun y => ?_, fun y => ?_, fun y => ?_⟩
      · by_cases eB : j = B
        · rw [eB, pk_us] at y; (first | (apply Int.le_antisymm <;> omega) | omega)
        · rw [pk_un eB, pk_un ej] at y
          have : pos j ≠ pos B := by
            rcases Nat.lt_or_ge j B with w | w
            · have := ck_lt mono j1 w (by (first | (apply Int.le_antisymm <;> omega) | omega)); (first | (apply Int.le_antisymm <;> omega) | omega)
            · have := ck_lt mono w2 (show B < j by (first | (apply Int.le_antisymm <;> omega) | omega)) (by (first | (apply Int.le_antisymm <;> omega) | omega)); (first | (apply Int.le_antisymm <;> omega) | omega)
          rw [pk_un this]
          exact q5.1 y
      · by_cases eB : j = B
        · rw [eB, pk_us, pk_us, va_up_ne _ _ (by (first | (apply Int.le_antisymm <;> omega) | omega)), hxx]; (first | (apply Int.le_antisymm <;> omega) | omega)
        · rw [pk_un eB, pk_un ej] at y ⊢
          have : pos j ≠ pos B := by
            rcases Nat.lt_or_ge j B with w | w
            · have := ck_lt mono j1 w (by (first | (apply Int.le_antisymm <;> omega) | omega)); (first | (apply Int.le_antisymm <;> omega) | omega)
            · have := ck_lt mono w2 (show B < j by (first | (apply Int.le_antisymm <;> omega) | omega)) (by (first | (apply Int.le_antisymm <;> omega) | omega)); (first | (apply Int.le_antisymm <;> omega) | omega)
          have ee := rs_els k1 j1 (by (first | (apply Int.le_antisymm <;> omega) | omega)) y
          rw [pk_un this, q5.2.1 y, va_up_ne _ _ (by (first | (apply Int.le_antisymm <;> omega) | omega))]
      · obtain ⟨y1, y2⟩ := q5.2.2 y
        exact ⟨by rw [y1, va_up_ne _ _ (by (first | (apply Int.le_antisymm <;> omega) | omega))], by (first | (apply Int.le_antisymm <;> omega) | omega)⟩
  · obtain ⟨q1, q2, q3⟩ := h4 k hk
    exact ⟨by rw [va_up_ne _ _ (by (first | (apply Int.le_antisymm <;> omega) | omega))]; exact q1, q2, by (first | (apply Int.le_antisymm <;> omega) | omega)⟩
/-- an end that closes a block -/
theorem ck_end (h : ckI b en el a n oc lc gop gpt gel glb go gva pos bk cu) {o n2 oc2 x : Int32} {c2 : Nat} (hn2 : n2.toInt = n.toInt + 1) (hcu : cu < (c2 : Int)) (hc2 : n.toInt < 5000) (hoc : 0 < oc.toInt ∧ oc.toInt ≤ 100) (ho : o.toInt = 11) (hoc2 : oc2.toInt = oc.toInt - 1) (hxx : x.toInt = cu)
    (hb1 : (b (pos n.toNatClampNeg) &&& 255).toInt = o.toInt) (hx : c2 = nxo b o.toInt (pos n.toNatClampNeg + 1)) :
    ∃ gpt2 : Nat → Int32, rstep n o oc lc 1 oc2 lc gop gpt gel glb go (upd gop n.toNatClampNeg o) gpt2 (upd gel n.toNatClampNeg (-1)) glb go gva (vp_updL gva n.toNatClampNeg 0) ∧
    ckI b (upd en (pos (go (oc.toNatClampNeg - 1)).toNatClampNeg) x) el a n2 oc2 lc (upd gop n.toNatClampNeg o) gpt2 (upd gel n.toNatClampNeg (-1)) glb go (vp_updL gva n.toNatClampNeg 0) (va_up pos (n.toNatClampNeg + 1) c2) bk (c2 : Int) := by
  obtain ⟨h1, ⟨a1, a2, a3, a4, a5⟩, h3, h4⟩ := h
  have zn := i32_clamp (x := n) (by (first | (apply Int.le_antisymm <;> omega) | omega))
  have zo := i32_clamp (x := oc) (by (first | (apply Int.le_antisymm <;> omega) | omega))
  have km : (-1 : Int32).toInt = -1 := by decide
  have e2 : n2.toNatClampNeg = n.toNatClampNeg + 1 := by rw [i32_natI hn2]; (first | (apply Int.le_antisymm <;> omega) | omega)
  generalize hB : (go (oc.toNatClampNeg - 1)).toNatClampNeg = B
  obtain ⟨w1, w2, w3⟩ := h4 (oc.toNatClampNeg - 1) (by (first | (apply Int.le_antisymm <;> omega) | omega))
  rw [hB] at w1 w2 w3
  obtain ⟨gpt2, hg⟩ : ∃ g : Nat → Int32, g = if 0 ≤ (upd gel n.toNatClampNeg (-1) B).toInt then upd (upd (upd gpt n.toNatClampNeg 0) B n) (upd gel n.toNatClampNeg (-1) B).toNatClampNeg n else upd (upd gpt n.toNatClampNeg 0) B n := ⟨_, rfl⟩
  have st : rstep n o oc lc 1 oc2 lc gop gpt gel glb go (upd gop n.toNatClampNeg o) gpt2 (upd gel n.toNatClampNeg (-1)) glb go gva (vp_updL gva n.toNatClampNeg 0) :=
    ⟨rfl, Or.inr (Or.inr (Or.inl ⟨ho, rfl, rfl, rfl, rfl, rfl, fun z => absurd z (by decide), fun _ => ⟨by (first | (apply Int.le_antisymm <;> omega) | omega), hoc2, by rw [hB]; exact hg⟩⟩))⟩
  have R := (rc_next (gop0 := gop) (gpt0 := gpt) (gel0 := gel) (gva0 := gva) h1 (fun j _ => ⟨rfl, rfl, rfl, rfl⟩) (by decide) ⟨by (first | (apply Int.le_antisymm <;> omega) | omega), hc2⟩ hn2 ⟨by (first | (apply Int.le_antisymm <;> omega) | omega), by (first | (apply Int.le_antisymm <;> omega) | omega)⟩ a3 (Or.inr (by decide)) st).1
  have mono : ∀ j, a ≤ j → j < n.toNatClampNeg → pos j < pos (j + 1) := fun j q1 q2 => (h3 j q1 q2).1
  obtain ⟨sb, k1, ksb⟩ := h1.2.1 (by decide)
  have gpB : gpt2 B = n := by
    rw [hg]
    split
    · rename_i w
      rw [pk_un (show B ≠ n.toNatClampNeg by (first | (apply Int.le_antisymm <;> omega) | omega))] at w ⊢
      have := rs_els k1 w2 w3 w
      rw [pk_un (by (first | (apply Int.le_antisymm <;> omega) | omega)), pk_us]
    · rw [pk_us]
  have gpO : ∀ j, a ≤ j → j < n.toNatClampNeg → j ≠ B → (gop j).toInt ≠ 5 → gpt2 j = gpt j := by
    intro j j1 j2 j3 j5
    rw [hg]
    split
    · rename_i w
      rw [pk_un (show B ≠ n.toNatClampNeg by (first | (apply Int.le_antisymm <;> omega) | omega))] at w ⊢
      have q := rs_els k1 w2 w3 w
      rw [pk_un (fun z => j5 (by rw [z]; exact q.2.2.2.1)), pk_un j3, pk_un (by (first | (apply Int.le_antisymm <;> omega) | omega))]
    · rw [pk_un j3, pk_un (by (first | (apply Int.le_antisymm <;> omega) | omega))]
  refine ⟨gpt2, st, R, ⟨by (first | (apply Int.le_antisymm <;> omega) | omega), by (first | (apply Int.le_antisymm <;> omega) | omega), a3, by (first | (apply Int.le_antisymm <;> omega) | omega), by rw [e2, va_up_self]⟩, fun j j1 j2 => ?_, fun k hk => ?_⟩
  · rw [e2] at j2
    by_cases ej : j = n.toNatClampNeg
    · subst ej
      have p1 : va_up pos (n.toNatClampNeg + 1) c2 n.toNatClampNeg = pos n.toNatClampNeg := va_up_ne _ _ (by (first | (apply Int.le_antisymm <;> omega) | omega))
      refine ⟨by rw [va_up_self, p1]; (first | (apply Int.le_antisymm <;> omega) | omega), ⟨by rw [p1, pk_us]; exact hb1, fun z => ?_, fun z => ?_, fun z => ?_⟩, by rw [va_up_self, p1, pk_us]; exact hx, fun z => ?_⟩
      · rw [pk_us] at z; unfold opI at z; (first | (apply Int.le_antisymm <;> omega) | omega)
      · rw [pk_us] at z; (first | (apply Int.le_antisymm <;> omega) | omega)
      · rw [pk_us] at z; (first | (apply Int.le_antisymm <;> omega) | omega)
      · rw [pk_us] at z; unfold blk3 at z; (first | (apply Int.le_antisymm <;> omega) | omega)
    · obtain ⟨q1, q2, q3, q4⟩ := h3 j j1 (by (first | (apply Int.le_antisymm <;> omega) | omega))
      have p1 : va_up pos (n.toNatClampNeg + 1) c2 j = pos j := va_up_ne _ _ (by (first | (apply Int.le_antisymm <;> omega) | omega))
      have p2 : va_up pos (n.toNatClampNeg + 1) c2 (j + 1) = pos (j + 1) := va_up_ne _ _ (by (first | (apply Int.le_antisymm <;> omega) | omega))
      have B3 : blk3 (gop B).toInt := by
        have q := (k1.2.2.1 n.toNatClampNeg (by (first | (apply Int.le_antisymm <;> omega) | omega)) (Nat.le_refl _)).1 B (by
          rw [ksb, show oc.toNatClampNeg = (oc.toNatClampNeg - 1) + 1 by (first | (apply Int.le_antisymm <;> omega) | omega)]
          exact List.mem_cons.mpr (Or.inl hB.symm))
        exact q.2.2
      refine ⟨by rw [p1, p2]; exact q1, lkD_eq q2 p1 (pk_un ej) (fun z => gpO j j1 (by (first | (apply Int.le_antisymm <;> omega) | omega)) (fun y => by subst y; unfold blk3 at B3; (first | (apply Int.le_antisymm <;> omega) | omega)) (by (first | (apply Int.le_antisymm <;> omega) | omega))) (by rw [uL_un ej]) (fun _ _ _ => rfl), by rw [p1, p2, pk_un ej]; exact q3, fun z => ?_⟩
      rw [pk_un ej] at z
      have q5 := q4 z
      unfold lkB at q5 ⊢
      rw [pk_un ej, p1]
      refine ⟨q5.1, fun y => ?_, fun y => ?_⟩
      · have ee := rs_els k1 j1 (by (first | (apply Int.le_antisymm <;> omega) | omega)) y
        rw [q5.2.1 y, va_up_ne _ _ (by (first | (apply Int.le_antisymm <;> omega) | omega))]
      · by_cases eB : j = B
        · rw [eB, pk_us, gpB, va_up_ne _ _ (by (first | (apply Int.le_antisymm <;> omega) | omega)), hxx]
          exact ⟨by (first | (apply Int.le_antisymm <;> omega) | omega), by (first | (apply Int.le_antisymm <;> omega) | omega)⟩
        · have : pos j ≠ pos B := by
            rcases Nat.lt_or_ge j B with w | w
            · have := ck_lt mono j1 w (by (first | (apply Int.le_antisymm <;> omega) | omega)); (first | (apply Int.le_antisymm <;> omega) | omega)
            · have := ck_lt mono w2 (show B < j by (first | (apply Int.le_antisymm <;> omega) | omega)) (by (first | (apply Int.le_antisymm <;> omega) | omega)); (first | (apply Int.le_antisymm <;> omega) | omega)
          rw [pk_un this, gpO j j1 (by (first | (apply Int.le_antisymm <;> omega) | omega)) eB (by unfold blk3 at z; (first | (apply Int.le_antisymm <;> omega) | omega))]
          obtain ⟨y1, y2⟩ := q5.2.2 (fun ⟨k, z1, z2⟩ => y ⟨k, by
            by_cases ek : k = oc.toNatClampNeg - 1
            · subst ek; exact absurd (z2.symm.trans hB) eB
            · (first | (apply Int.le_antisymm <;> omega) | omega), z2⟩)
          exact ⟨by rw [y1, va_up_ne _ _ (by (first | (apply Int.le_antisymm <;> omega) | omega))], by (first | (apply Int.le_antisymm <;> omega) | omega)⟩
  · obtain ⟨q1, q2, q3⟩ := h4 k (by (first | (apply Int.le_antisymm <;> omega) | omega))
    exact ⟨by rw [va_up_ne _ _ (by (first | (apply Int.le_antisymm <;> omega) | omega))]; exact q1, q2, by (first | (apply Int.le_antisymm <;> omega) | omega)⟩
/-- what stays: what was read before -/
theorem ckS_step {lc0 : Int} {start : Nat} {gop0 gpt0 gel0 glb0 en0 el0 gop2 gpt2 gel2 glb2 go2 en2 el2 : Nat → Int32} {gva0 gva2 : Nat → Int64} {pos0 : Nat → Nat} {o r oc2 lc2 n2 : Int32} {c2 : Nat} (h : ckI b en el a n oc lc gop gpt gel glb go gva pos bk cu) (hS : ckS a lc0 start gop0 gpt0 gel0 glb0 en0 el0 gop gpt gel glb en el gva0 gva pos0 pos)
    (hn2 : n2.toInt = n.toInt + 1) (hc2 : n.toInt < 5000) (hoc : 0 ≤ oc.toInt ∧ oc.toInt ≤ 100) (hr : r.toInt = 0 ∨ r.toInt = 1) (st : rstep n o oc lc r oc2 lc2 gop gpt gel glb go gop2 gpt2 gel2 glb2 go2 gva gva2)
    (hlb : ∀ i : Nat, (i : Int) < lc0 → glb2 i = glb i) (he : ∀ p, p < start → en2 p = en p ∧ el2 p = el p) : ckS a lc0 start gop0 gpt0 gel0 glb0 en0 el0 gop2 gpt2 gel2 glb2 en2 el2 gva0 gva2 pos0 (va_up pos (n.toNatClampNeg + 1) c2) := by
  obtain ⟨h1, ⟨a1, a2, a3, a4, a5⟩, h3, h4⟩ := h
  obtain ⟨s1, s2, s3, s4, s5⟩ := hS
  have zn := i32_clamp (x := n) (by (first | (apply Int.le_antisymm <;> omega) | omega))
  exact ⟨(rc_next h1 s1 (by decide) ⟨by (first | (apply Int.le_antisymm <;> omega) | omega), hc2⟩ hn2 hoc a3 hr st).2, fun i hi => (hlb i hi).trans (s2 i hi), fun j hj => by rw [va_up_ne _ _ (by (first | (apply Int.le_antisymm <;> omega) | omega))]; exact s3 j hj, by rw [va_up_ne _ _ (by (first | (apply Int.le_antisymm <;> omega) | omega))]; exact s4, fun p hp => ⟨(he p hp).1.trans (s5 p hp).1, (he p hp).2.trans (s5 p hp).2⟩⟩
/-- a function's code, read to its end -/
def ckF (b en el : Nat → Int32) (a m : Nat) (lc : Int) (gop gpt gel glb : Nat → Int32) (gva : Nat → Int64) (pos : Nat → Nat) : Prop :=
  rc_fin a m gop gpt gel gva lc ∧ ∀ j, a ≤ j → j < m → (j + 1 < m → pos j < pos (j + 1) ∧ pos (j + 1) = nxo b (gop j).toInt (pos j + 1)) ∧ lkD b pos gop gpt glb gva j ∧ (blk3 (gop j).toInt → lkB en el pos gpt gel (fun _ => False) m j)
theorem ck_last (h : ckI b en el a n oc lc gop gpt gel glb go gva pos bk cu) {o n2 : Int32} (hn2 : n2.toInt = n.toInt + 1) (hc2 : n.toInt < 5000) (hoc : oc.toInt = 0) (ho : o.toInt = 11) (hb1 : (b (pos n.toNatClampNeg) &&& 255).toInt = o.toInt) :
    rstep n o oc lc 0 oc lc gop gpt gel glb go (upd gop n.toNatClampNeg o) (upd gpt n.toNatClampNeg 0) (upd gel n.toNatClampNeg (-1)) glb go gva (vp_updL gva n.toNatClampNeg 0) ∧
    ckF b en el a n2.toNatClampNeg lc.toInt (upd gop n.toNatClampNeg o) (upd gpt n.toNatClampNeg 0) (upd gel n.toNatClampNeg (-1)) glb (vp_updL gva n.toNatClampNeg 0) pos := by
  obtain ⟨h1, ⟨a1, a2, a3, a4, a5⟩, h3, h4⟩ := h
  have zn := i32_clamp (x := n) (by (first | (apply Int.le_antisymm <;> omega) | omega))
  have e2 : n2.toNatClampNeg = n.toNatClampNeg + 1 := by rw [i32_natI hn2]; (first | (apply Int.le_antisymm <;> omega) | omega)
  have st : rstep n o oc lc 0 oc lc gop gpt gel glb go (upd gop n.toNatClampNeg o) (upd gpt n.toNatClampNeg 0) (upd gel n.toNatClampNeg (-1)) glb go gva (vp_updL gva n.toNatClampNeg 0) :=
    ⟨rfl, Or.inr (Or.inr (Or.inl ⟨ho, rfl, rfl, rfl, rfl, rfl, fun _ => ⟨hoc, rfl, rfl⟩, fun z => absurd z (by decide)⟩))⟩
  have R := (rc_next (gop0 := gop) (gpt0 := gpt) (gel0 := gel) (gva0 := gva) h1 (fun j _ => ⟨rfl, rfl, rfl, rfl⟩) (by decide) ⟨by (first | (apply Int.le_antisymm <;> omega) | omega), hc2⟩ hn2 ⟨by (first | (apply Int.le_antisymm <;> omega) | omega), by (first | (apply Int.le_antisymm <;> omega) | omega)⟩ a3 (Or.inl (by decide)) st).1
  refine ⟨st, R.2.2 (by decide), fun j j1 j2 => ?_⟩
  rw [e2] at j2 ⊢
  by_cases ej : j = n.toNatClampNeg
  · subst ej
    refine ⟨fun z => absurd z (by (first | (apply Int.le_antisymm <;> omega) | omega)), ⟨by rw [pk_us]; exact hb1, fun z => ?_, fun z => ?_, fun z => ?_⟩, fun z => ?_⟩
    · rw [pk_us] at z; unfold opI at z; (first | (apply Int.le_antisymm <;> omega) | omega)
    · rw [pk_us] at z; (first | (apply Int.le_antisymm <;> omega) | omega)
    · rw [pk_us] at z; (first | (apply Int.le_antisymm <;> omega) | omega)
    · rw [pk_us] at z; unfold blk3 at z; (first | (apply Int.le_antisymm <;> omega) | omega)
  · obtain ⟨q1, q2, q3, q4⟩ := h3 j j1 (by (first | (apply Int.le_antisymm <;> omega) | omega))
    refine ⟨fun _ => ⟨q1, by rw [pk_un ej]; exact q3⟩, lkD_eq q2 rfl (pk_un ej) (fun _ => pk_un ej) (by rw [uL_un ej]) (fun _ _ _ => rfl), fun z => ?_⟩
    rw [pk_un ej] at z
    have q5 := q4 z
    unfold lkB at q5 ⊢
    rw [pk_un ej, pk_un ej]
    refine ⟨q5.1, q5.2.1, fun _ => ?_⟩
    obtain ⟨y1, y2⟩ := q5.2.2 (fun ⟨k, z1, z2⟩ => absurd z1 (by (first | (apply Int.le_antisymm <;> omega) | omega)))
    exact ⟨y1, by (first | (apply Int.le_antisymm <;> omega) | omega)⟩
theorem ck_begin {n oc lc : Int32} (ho : oc.toInt = 0) (hn : 0 ≤ n.toInt ∧ n.toInt ≤ cu) (hl : 0 ≤ lc.toInt ∧ lc.toInt ≤ cu) (hp : (pos n.toNatClampNeg : Int) = cu) : ckI b en el n.toNatClampNeg n oc lc gop gpt gel glb go gva pos bk cu := by
  have zn := i32_clamp (x := n) (by (first | (apply Int.le_antisymm <;> omega) | omega))
  exact ⟨rc_begin ho, ⟨by (first | (apply Int.le_antisymm <;> omega) | omega), hn.2, hl.1, hl.2, hp⟩, fun j h1 h2 => absurd h2 (by (first | (apply Int.le_antisymm <;> omega) | omega)), fun k hk => absurd hk (by (first | (apply Int.le_antisymm <;> omega) | omega))⟩
end CK
end q_m08
section q_m09
/-! the reference reads code: an instruction of any other kind -/
theorem i32_mk {z : Int} (h1 : -2147483648 ≤ z) (h2 : z ≤ 2147483647) : ∃ x : Int32, x.toInt = z := ⟨Int32.ofInt z, Int32.toInt_ofInt_of_le (by (first | (apply Int.le_antisymm <;> omega) | omega)) (by (first | (apply Int.le_antisymm <;> omega) | omega))⟩
theorem i64_mk {z : Int} (h1 : -2147483648 ≤ z) (h2 : z ≤ 2147483647) : ∃ x : Int64, x.toInt = z := ⟨Int64.ofInt z, Int64.toInt_ofInt_of_le (by (first | (apply Int.le_antisymm <;> omega) | omega)) (by (first | (apply Int.le_antisymm <;> omega) | omega))⟩
theorem nF_ge (g : Nat → Int32) : ∀ (f p : Nat), p ≤ nF g f p ∧ (0 < f → p < nF g f p)
  | 0, p => ⟨Nat.le_refl _, fun h => absurd h (by (first | (apply Int.le_antisymm <;> omega) | omega))⟩
  | f + 1, p => by
    by_cases h : (g p &&& 255).toInt < 128
    · rw [nF_end h]; (first | (apply Int.le_antisymm <;> omega) | omega)
    · rw [nF_go h]
      have := (nF_ge g f (p + 1)).1
      (first | (apply Int.le_antisymm <;> omega) | omega)
theorem tbl_ge (g : Nat → Int32) (p : Nat) : ∀ k, p + k ≤ tbl g p k
  | 0 => Nat.le_refl _
  | k + 1 => by
    have h1 := tbl_ge g p k
    have h2 := (nF_ge g 5 (tbl g p k)).2 (by (first | (apply Int.le_antisymm <;> omega) | omega))
    show p + (k + 1) ≤ nF g 5 (tbl g p k)
    (first | (apply Int.le_antisymm <;> omega) | omega)
theorem opO_not {b : Nat → Int32} {o : Int} {q : Nat} (h : opO b o q) : ¬ blk3 o ∧ o ≠ 5 ∧ o ≠ 11 := by
  unfold opO opI opM opP at h
  unfold blk3
  rcases h with ⟨h, -⟩ | ⟨h, -⟩ | h | h | h | h | h | h <;> (first | (apply Int.le_antisymm <;> omega) | omega)
theorem uLs {f : Nat → Int64} {k : Nat} {x : Int64} : vp_updL f k x k = x := if_pos rfl
section CK2
variable {b en el gop gpt gel glb go bk : Nat → Int32} {gva : Nat → Int64} {pos : Nat → Nat} {a : Nat} {n oc lc : Int32} {cu : Int}
theorem ck_imm (h : ckI b en el a n oc lc gop gpt gel glb go gva pos bk cu) {o n2 : Int32} {c2 : Nat} (hn2 : n2.toInt = n.toInt + 1) (hcu : cu < (c2 : Int)) (hc2 : (c2 : Int) ≤ 4999) (hoc : 0 ≤ oc.toInt ∧ oc.toInt ≤ 100)
    (hO : opO b o.toInt (pos n.toNatClampNeg + 1)) (hb1 : (b (pos n.toNatClampNeg) &&& 255).toInt = o.toInt) (hx : c2 = nxo b o.toInt (pos n.toNatClampNeg + 1)) :
    ∃ (lc2 : Int32) (gpt2 gel2 glb2 : Nat → Int32) (gva2 : Nat → Int64), rstep n o oc lc 1 oc lc2 gop gpt gel glb go (upd gop n.toNatClampNeg o) gpt2 gel2 glb2 go gva gva2 ∧ lc.toInt ≤ lc2.toInt ∧ (∀ i : Nat, (i : Int) < lc.toInt → glb2 i = glb i) ∧
      ckI b en el a n2 oc lc2 (upd gop n.toNatClampNeg o) gpt2 gel2 glb2 go gva2 (va_up pos (n.toNatClampNeg + 1) c2) bk (c2 : Int) := by
  obtain ⟨n3, n5, n11⟩ := opO_not hO
  have hh := h
  obtain ⟨h1, ⟨a1, a2, a3, a4, a5⟩, h3, h4⟩ := hh
  have p1 : va_up pos (n.toNatClampNeg + 1) c2 n.toNatClampNeg = pos n.toNatClampNeg := va_up_ne _ _ (by (first | (apply Int.le_antisymm <;> omega) | omega))
  have hD0 : ∀ {gpt2 glb2 : Nat → Int32} {gva2 : Nat → Int64}, (opI o.toInt → (gva2 n.toNatClampNeg).toInt = (uF b 5 (pos n.toNatClampNeg + 1) 0 0).toInt) → (o.toInt = 14 → (gpt2 n.toNatClampNeg).toInt = (uF b 5 (pos n.toNatClampNeg + 1) 0 0).toInt ∧ ∀ k : Nat, (k : Int) ≤ (gpt2 n.toNatClampNeg).toInt → (glb2 ((gva2 n.toNatClampNeg).toInt.toNat + k)).toInt = (uF b 5 (tbl b (nF b 5 (pos n.toNatClampNeg + 1)) k) 0 0).toInt) →
      lkD b (va_up pos (n.toNatClampNeg + 1) c2) (upd gop n.toNatClampNeg o) gpt2 glb2 gva2 n.toNatClampNeg := by
    intro gpt2 glb2 gva2 x1 x2
    unfold lkD
    rw [p1, pk_us]
    exact ⟨hb1, x1, fun z => absurd z n3, x2⟩
  have kp : ∀ {v : Int64}, ∀ j, j ≠ n.toNatClampNeg → upd gpt n.toNatClampNeg 0 j = gpt j ∧ upd gel n.toNatClampNeg (-1) j = gel j ∧ vp_updL (vp_updL gva n.toNatClampNeg 0) n.toNatClampNeg v j = gva j := fun j e => ⟨pk_un e, pk_un e, by rw [uL_un e, uL_un e]⟩
  have hO2 := hO
  unfold opO at hO2
  rcases hO2 with ⟨q1, q2, q3⟩ | ⟨q1, q2, q3, q4⟩ | q1 | q1 | q1 | q1 | q1 | q1
  · have st : rstep n o oc lc 1 oc lc gop gpt gel glb go (upd gop n.toNatClampNeg o) (upd gpt n.toNatClampNeg 0) (upd gel n.toNatClampNeg (-1)) glb go gva (vp_updL (vp_updL gva n.toNatClampNeg 0) n.toNatClampNeg (uF b 5 (pos n.toNatClampNeg + 1) 0 0)) :=
      ⟨rfl, Or.inr (Or.inr (Or.inr (Or.inl ⟨by unfold opI at q1; (first | (apply Int.le_antisymm <;> omega) | omega), by decide, rfl, rfl, rfl, rfl, rfl, rfl, _, q2, q3, rfl⟩)))⟩
    exact ⟨lc, _, _, glb, _, st, Int.le_refl _, fun _ _ => rfl, ck_plain h hn2 hcu (by (first | (apply Int.le_antisymm <;> omega) | omega)) hoc st n3 kp (fun _ _ => rfl) ⟨a3, by (first | (apply Int.le_antisymm <;> omega) | omega)⟩ (hD0 (fun _ => by rw [uLs]) (fun z => by unfold opI at q1; (first | (apply Int.le_antisymm <;> omega) | omega))) hx⟩
  · obtain ⟨bb, hbb⟩ := i32_mk (z := (uF b 5 (pos n.toNatClampNeg + 1) 0 0).toInt) (by (first | (apply Int.le_antisymm <;> omega) | omega)) (by (first | (apply Int.le_antisymm <;> omega) | omega))
    have hlen : (c2 : Int) ≥ pos n.toNatClampNeg + 1 + ((uF b 5 (pos n.toNatClampNeg + 1) 0 0).toInt + 1) := by
      rw [hx, nxo_14 q1]
      have t1 := tbl_ge b (nF b 5 (pos n.toNatClampNeg + 1)) ((uF b 5 (pos n.toNatClampNeg + 1) 0 0).toInt.toNat + 1)
      have t2 := (nF_ge b 5 (pos n.toNatClampNeg + 1)).1
      (first | (apply Int.le_antisymm <;> omega) | omega)
    obtain ⟨lc2, hl2⟩ := i32_mk (z := lc.toInt + bb.toInt + 1) (by (first | (apply Int.le_antisymm <;> omega) | omega)) (by (first | (apply Int.le_antisymm <;> omega) | omega))
    obtain ⟨xx, hxx⟩ := i64_mk (z := lc.toInt) (by (first | (apply Int.le_antisymm <;> omega) | omega)) (by (first | (apply Int.le_antisymm <;> omega) | omega))
    have hlab : ∀ i : Nat, ∃ y : Int32, ((i : Int) < lc.toInt → y = glb i) ∧ (lc.toInt ≤ (i : Int) → (i : Int) ≤ lc.toInt + bb.toInt → y.toInt = (uF b 5 (tbl b (nF b 5 (pos n.toNatClampNeg + 1)) (i - lc.toInt.toNat)) 0 0).toInt) := by
      intro i
      by_cases z : (i : Int) < lc.toInt
      · exact ⟨glb i, fun _ => rfl, fun y => absurd z (by (first | (apply Int.le_antisymm <;> omega) | omega))⟩
      · by_cases z2 : (i : Int) ≤ lc.toInt + bb.toInt
        · obtain ⟨r1, r2⟩ := q4 (i - lc.toInt.toNat) (by (first | (apply Int.le_antisymm <;> omega) | omega))
          obtain ⟨y, hy⟩ := i32_mk (z := (uF b 5 (tbl b (nF b 5 (pos n.toNatClampNeg + 1)) (i - lc.toInt.toNat)) 0 0).toInt) (by (first | (apply Int.le_antisymm <;> omega) | omega)) (by (first | (apply Int.le_antisymm <;> omega) | omega))
          exact ⟨y, fun w => absurd w z, fun _ _ => hy⟩
        · exact ⟨0, fun w => absurd w z, fun _ w => absurd w z2⟩
    obtain ⟨gl2, hgl⟩ : ∃ g : Nat → Int32, ∀ i : Nat, ((i : Int) < lc.toInt → g i = glb i) ∧ (lc.toInt ≤ (i : Int) → (i : Int) ≤ lc.toInt + bb.toInt → (g i).toInt = (uF b 5 (tbl b (nF b 5 (pos n.toNatClampNeg + 1)) (i - lc.toInt.toNat)) 0 0).toInt) := ⟨fun i => Classical.choose (hlab i), fun i => Classical.choose_spec (hlab i)⟩
    have st : rstep n o oc lc 1 oc lc2 gop gpt gel glb go (upd gop n.toNatClampNeg o) (upd (upd gpt n.toNatClampNeg 0) n.toNatClampNeg bb) (upd gel n.toNatClampNeg (-1)) gl2 go gva (vp_updL (vp_updL gva n.toNatClampNeg 0) n.toNatClampNeg xx) :=
      ⟨rfl, Or.inr (Or.inr (Or.inr (Or.inr (Or.inl ⟨q1, by decide, rfl, rfl, rfl, bb, xx, by (first | (apply Int.le_antisymm <;> omega) | omega), by (first | (apply Int.le_antisymm <;> omega) | omega), hxx, hl2, rfl, rfl⟩))))⟩
    have hlb : ∀ i : Nat, (i : Int) < lc.toInt → gl2 i = glb i := fun i hi => (hgl i).1 hi
    refine ⟨lc2, _, _, _, _, st, by (first | (apply Int.le_antisymm <;> omega) | omega), hlb, ck_plain h hn2 hcu (by (first | (apply Int.le_antisymm <;> omega) | omega)) hoc st n3 (fun j e => ⟨by rw [pk_un e, pk_un e], pk_un e, by rw [uL_un e, uL_un e]⟩) hlb ⟨by (first | (apply Int.le_antisymm <;> omega) | omega), by (first | (apply Int.le_antisymm <;> omega) | omega)⟩ (hD0 (fun z => by unfold opI at z; (first | (apply Int.le_antisymm <;> omega) | omega)) (fun _ => ⟨by rw [pk_us]; exact hbb, fun k hk => ?_⟩)) hx⟩
    rw [pk_us] at hk
    rw [uLs, hxx]
    have := (hgl (lc.toInt.toNat + k)).2 (by (first | (apply Int.le_antisymm <;> omega) | omega)) (by (first | (apply Int.le_antisymm <;> omega) | omega))
    rw [show lc.toInt.toNat + k - lc.toInt.toNat = k by (first | (apply Int.le_antisymm <;> omega) | omega)] at this
    exact this
  · have st : rstep n o oc lc 1 oc lc gop gpt gel glb go (upd gop n.toNatClampNeg o) (upd (upd gpt n.toNatClampNeg 0) n.toNatClampNeg 0) (upd gel n.toNatClampNeg (-1)) glb go gva (vp_updL (vp_updL gva n.toNatClampNeg 0) n.toNatClampNeg 0) :=
      ⟨rfl, Or.inr (Or.inr (Or.inr (Or.inr (Or.inr (Or.inr (Or.inr ⟨by unfold opM at q1; (first | (apply Int.le_antisymm <;> omega) | omega), by decide, rfl, rfl, rfl, rfl, rfl, 0, 0, by decide, by decide, by decide, rfl, rfl⟩))))))⟩
    exact ⟨lc, _, _, glb, _, st, Int.le_refl _, fun _ _ => rfl, ck_plain h hn2 hcu (by (first | (apply Int.le_antisymm <;> omega) | omega)) hoc st n3 (fun j e => ⟨by rw [pk_un e, pk_un e], pk_un e, by rw [uL_un e, uL_un e]⟩) (fun _ _ => rfl) ⟨a3, by (first | (apply Int.le_antisymm <;> omega) | omega)⟩ (hD0 (fun z => by unfold opI at z; unfold opM at q1; (first | (apply Int.le_antisymm <;> omega) | omega)) (fun z => by unfold opM at q1; (first | (apply Int.le_antisymm <;> omega) | omega))) hx⟩
  all_goals first
    | (have st : rstep n o oc lc 1 oc lc gop gpt gel glb go (upd gop n.toNatClampNeg o) (upd gpt n.toNatClampNeg 0) (upd gel n.toNatClampNeg (-1)) glb go gva (vp_updL gva n.toNatClampNeg 0) :=
        ⟨rfl, Or.inr (Or.inr (Or.inr (Or.inr (Or.inr (Or.inl ⟨by (try unfold opP at q1); (first | (apply Int.le_antisymm <;> omega) | omega), by decide, rfl, rfl, rfl, rfl, rfl, rfl, rfl⟩)))))⟩
       exact ⟨lc, _, _, glb, _, st, Int.le_refl _, fun _ _ => rfl, ck_plain h hn2 hcu (by (first | (apply Int.le_antisymm <;> omega) | omega)) hoc st n3 (fun j e => ⟨pk_un e, pk_un e, uL_un e⟩) (fun _ _ => rfl) ⟨a3, by (first | (apply Int.le_antisymm <;> omega) | omega)⟩ (hD0 (fun z => by unfold opI at z; (try unfold opP at q1); (first | (apply Int.le_antisymm <;> omega) | omega)) (fun z => by (try unfold opP at q1); (first | (apply Int.le_antisymm <;> omega) | omega))) hx⟩)
    | (have st : rstep n o oc lc 1 oc lc gop gpt gel glb go (upd gop n.toNatClampNeg o) (upd gpt n.toNatClampNeg 0) (upd gel n.toNatClampNeg (-1)) glb go gva (vp_updL (vp_updL gva n.toNatClampNeg 0) n.toNatClampNeg 0) :=
        ⟨rfl, Or.inr (Or.inr (Or.inr (Or.inr (Or.inr (Or.inr (Or.inl ⟨by (first | (apply Int.le_antisymm <;> omega) | omega), by decide, rfl, rfl, rfl, rfl, rfl, rfl, 0, rfl⟩))))))⟩
       exact ⟨lc, _, _, glb, _, st, Int.le_refl _, fun _ _ => rfl, ck_plain h hn2 hcu (by (first | (apply Int.le_antisymm <;> omega) | omega)) hoc st n3 (fun j e => ⟨pk_un e, pk_un e, by rw [uL_un e, uL_un e]⟩) (fun _ _ => rfl) ⟨a3, by (first | (apply Int.le_antisymm <;> omega) | omega)⟩ (hD0 (fun z => by unfold opI at z; (first | (apply Int.le_antisymm <;> omega) | omega)) (fun z => by (first | (apply Int.le_antisymm <;> omega) | omega))) hx⟩)
end CK2
end q_m09

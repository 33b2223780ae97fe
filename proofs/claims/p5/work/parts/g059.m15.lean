/-! the reference: the machine small methods -/
abbrev b_MD_pushValue : ByteArray := prog_15_method_82_code
def y_MD_pushValue : MethodName := ⟨R_MD, "pushValue", "(J)V"⟩
abbrev w_MD_pushValue : List Cond := .code y_MD_pushValue b_MD_pushValue 3 none :: lw_g
theorem kC_MD_pushValue : Cond.code y_MD_pushValue b_MD_pushValue 3 none ∈ lw_g := in_c13 143 rfl rfl
theorem d_MD_pushValue_0 : decode b_MD_pushValue 0 = .ok (.aload_n 0, 1) := bz_c42 (by decide +kernel)
theorem d_MD_pushValue_1 : decode b_MD_pushValue 1 = .ok (.aload_n 0, 1) := bz_c42 (by decide +kernel)
theorem d_MD_pushValue_2 : decode b_MD_pushValue 2 = .ok (.getfield 703, 3) := bz_c180 (by decide +kernel)
theorem d_MD_pushValue_5 : decode b_MD_pushValue 5 = .ok (.sipush 12096, 3) := bz_c17 (by decide +kernel)
theorem d_MD_pushValue_8 : decode b_MD_pushValue 8 = .ok (.if_icmp .ne 7, 3) := bz_c160 (by decide +kernel)
theorem d_MD_pushValue_11 : decode b_MD_pushValue 11 = .ok (.iconst 1, 1) := bz_c4 (by decide +kernel)
theorem d_MD_pushValue_12 : decode b_MD_pushValue 12 = .ok (.goto 4, 3) := bz_c167 (by decide +kernel)
theorem d_MD_pushValue_15 : decode b_MD_pushValue 15 = .ok (.iconst 0, 1) := bz_c3 (by decide +kernel)
theorem d_MD_pushValue_16 : decode b_MD_pushValue 16 = .ok (.bipush 13, 2) := bz_c16 (by decide +kernel)
theorem d_MD_pushValue_18 : decode b_MD_pushValue 18 = .ok (.invokevirtual 706, 3) := bz_c182 (by decide +kernel)
theorem d_MD_pushValue_21 : decode b_MD_pushValue 21 = .ok (.aload_n 0, 1) := bz_c42 (by decide +kernel)
theorem d_MD_pushValue_22 : decode b_MD_pushValue 22 = .ok (.getfield 710, 3) := bz_c180 (by decide +kernel)
theorem d_MD_pushValue_25 : decode b_MD_pushValue 25 = .ok (.aload_n 0, 1) := bz_c42 (by decide +kernel)
theorem d_MD_pushValue_26 : decode b_MD_pushValue 26 = .ok (.getfield 703, 3) := bz_c180 (by decide +kernel)
theorem d_MD_pushValue_29 : decode b_MD_pushValue 29 = .ok (.lload_n 1, 1) := bz_c31 (by decide +kernel)
theorem d_MD_pushValue_30 : decode b_MD_pushValue 30 = .ok (.lastore, 1) := bz_c80 (by decide +kernel)
theorem d_MD_pushValue_31 : decode b_MD_pushValue 31 = .ok (.aload_n 0, 1) := bz_c42 (by decide +kernel)
theorem d_MD_pushValue_32 : decode b_MD_pushValue 32 = .ok (.dup, 1) := bz_c89 (by decide +kernel)
theorem d_MD_pushValue_33 : decode b_MD_pushValue 33 = .ok (.getfield 703, 3) := bz_c180 (by decide +kernel)
theorem d_MD_pushValue_36 : decode b_MD_pushValue 36 = .ok (.iconst 1, 1) := bz_c4 (by decide +kernel)
theorem d_MD_pushValue_37 : decode b_MD_pushValue 37 = .ok (.iadd, 1) := bz_c96 (by decide +kernel)
theorem d_MD_pushValue_38 : decode b_MD_pushValue 38 = .ok (.putfield 703, 3) := bz_c181 (by decide +kernel)
theorem d_MD_pushValue_41 : decode b_MD_pushValue 41 = .ok (.return_, 1) := bz_c177 (by decide +kernel)
theorem kM_MD_706 : Cond.methodLink R_MD 706 y_MD_ends ∈ lw_g := in_c13 136 rfl rfl
theorem kV_MD_ends : Cond.instanceMethod y_MD_ends ∈ lw_g := in_c13 138 rfl rfl
theorem kS_MD_ends : Cond.selects R_MD y_MD_ends y_MD_ends ∈ lw_g := in_s 198 (by decide +kernel) rfl
theorem kF_MD_703 : Cond.fieldLink R_MD 703 "WaferForgeModel" "valueTop" "I" ∈ lw_g := in_c9 28 rfl rfl
theorem kF_MD_710 : Cond.fieldLink R_MD 710 "WaferForgeModel" "values" "[J" ∈ lw_g := in_c9 27 rfl rfl
abbrev at_MD_pushValue (dC : Nat → ClassId) (dI : Nat → Nat → Nat) (h0 rf tap h0_globalNames_r h0_globalPlaces_r h0_globalTypes_r h0_globalValues_r h0_funs_r h0_levels_r h0_known_r mad mag h0_smalls_r h0_greats_r h0_module_r h0_spare_r mm blk stk hgt lab ous kis los mem glo val ffu fre fba fla lat lhe rsl arg : Nat) (cval : ClassId) (h0_taped : Int32) (h0_length : Int32) (h0_kind : Int32) (h0_from : Int32) (h0_to : Int32) (h0_word : Value) (h0_numeral : Int64) (h0_globalCount : Int32) (h0_funCount : Int32) (h0_open : Int32) (h0_signs : Int32) (h0_now : Value) (h0_knownCount : Int32) (h0_loops : Int32) (h0_madeLength : Int32) (h0_cursor : Int32) (h0_limit : Int32) (h0_top : Int32) (h0_depth : Int32) (h0_function : Int32) (h0_pages : Int32) (h0_frames : Int32) (h0_labelTop : Int32) (h0_steps : Int32) (h0_there : Int32) (h0_resultLength : Int32) (h0_reason : Int32) (h0_place : Int32) (h0_argumentCount : Int32) (h0_code : Int32) (rf_backtrace : Value) (rf_detailMessage : Value) (rf_cause : Value) (rf_stackTrace : Value) (rf_depth : Int32) (rf_suppressedExceptions : Value) (A : Nat → Prop) (u : (Nat → Int64) × Int32 × Int32 × Int32) (t : State) : Prop := match u with | (gval, h0_valueTop, rf_place, rf_reason) => va_P (dC, dI) cls2 (wz_369 h0 rf tap h0_taped h0_length h0_kind h0_from h0_to h0_word h0_numeral h0_globalNames_r h0_globalPlaces_r h0_globalTypes_r h0_globalValues_r h0_globalCount h0_funs_r h0_funCount h0_open h0_signs h0_levels_r h0_now h0_known_r h0_knownCount h0_loops mad h0_madeLength mag h0_smalls_r h0_greats_r h0_module_r h0_spare_r mm h0_cursor h0_limit blk stk h0_top hgt lab ous kis los h0_depth h0_function mem h0_pages glo val h0_valueTop ffu fre fba fla h0_frames lat lhe h0_labelTop h0_steps h0_there rsl h0_resultLength h0_reason h0_place arg h0_argumentCount h0_code rf rf_backtrace rf_detailMessage rf_cause rf_stackTrace rf_depth rf_suppressedExceptions rf_reason rf_place val cval gval) t.heap ∧ va_K (dC, dI) cls2 [(cval, .long)] t ∧ va_D A (wz_369 h0 rf tap h0_taped h0_length h0_kind h0_from h0_to h0_word h0_numeral h0_globalNames_r h0_globalPlaces_r h0_globalTypes_r h0_globalValues_r h0_globalCount h0_funs_r h0_funCount h0_open h0_signs h0_levels_r h0_now h0_known_r h0_knownCount h0_loops mad h0_madeLength mag h0_smalls_r h0_greats_r h0_module_r h0_spare_r mm h0_cursor h0_limit blk stk h0_top hgt lab ous kis los h0_depth h0_function mem h0_pages glo val h0_valueTop ffu fre fba fla h0_frames lat lhe h0_labelTop h0_steps h0_there rsl h0_resultLength h0_reason h0_place arg h0_argumentCount h0_code rf rf_backtrace rf_detailMessage rf_cause rf_stackTrace rf_depth rf_suppressedExceptions rf_reason rf_place val cval gval)
set_option maxHeartbeats 4000000 in
set_option maxRecDepth 100000 in
theorem c_MD_pushValue (l : Launch) (hlt : l.stackTraces = false) (dC : Nat → ClassId) (dI : Nat → Nat → Nat) (sz : Nat) (h0 rf tap h0_globalNames_r h0_globalPlaces_r h0_globalTypes_r h0_globalValues_r h0_funs_r h0_levels_r h0_known_r mad mag h0_smalls_r h0_greats_r h0_module_r h0_spare_r mm blk stk hgt lab ous kis los mem glo val ffu fre fba fla lat lhe rsl arg : Nat) (cval : ClassId) (h0_taped : Int32) (h0_length : Int32) (h0_kind : Int32) (h0_from : Int32) (h0_to : Int32) (h0_word : Value) (h0_numeral : Int64) (h0_globalCount : Int32) (h0_funCount : Int32) (h0_open : Int32) (h0_signs : Int32) (h0_now : Value) (h0_knownCount : Int32) (h0_loops : Int32) (h0_madeLength : Int32) (h0_cursor : Int32) (h0_limit : Int32) (h0_top : Int32) (h0_depth : Int32) (h0_function : Int32) (h0_pages : Int32) (h0_valueTop : Int32) (h0_frames : Int32) (h0_labelTop : Int32) (h0_steps : Int32) (h0_there : Int32) (h0_resultLength : Int32) (h0_reason : Int32) (h0_place : Int32) (h0_argumentCount : Int32) (h0_code : Int32) (rf_backtrace : Value) (rf_detailMessage : Value) (rf_cause : Value) (rf_stackTrace : Value) (rf_depth : Int32) (rf_suppressedExceptions : Value) (rf_reason : Int32) (rf_place : Int32) (gval : Nat → Int64)  (b_h0_valueTop : 0 ≤ h0_valueTop.toInt ∧ h0_valueTop.toInt ≤ 12096) (p0 : Int64)   : tz_Met l y_MD_pushValue w_MD_pushValue ({ frames := 2, cells := 0, slots := 0, locals := 44 }) (va_Pc [.ref h0, .long p0] (fun U => U.heap.size = sz ∧ va_P (dC, dI) cls2 (wz_369 h0 rf tap h0_taped h0_length h0_kind h0_from h0_to h0_word h0_numeral h0_globalNames_r h0_globalPlaces_r h0_globalTypes_r h0_globalValues_r h0_globalCount h0_funs_r h0_funCount h0_open h0_signs h0_levels_r h0_now h0_known_r h0_knownCount h0_loops mad h0_madeLength mag h0_smalls_r h0_greats_r h0_module_r h0_spare_r mm h0_cursor h0_limit blk stk h0_top hgt lab ous kis los h0_depth h0_function mem h0_pages glo val h0_valueTop ffu fre fba fla h0_frames lat lhe h0_labelTop h0_steps h0_there rsl h0_resultLength h0_reason h0_place arg h0_argumentCount h0_code rf rf_backtrace rf_detailMessage rf_cause rf_stackTrace rf_depth rf_suppressedExceptions rf_reason rf_place val cval gval) U.heap ∧ va_K (dC, dI) cls2 [(cval, .long)] U ∧ va_D (fun _ => True) (wz_369 h0 rf tap h0_taped h0_length h0_kind h0_from h0_to h0_word h0_numeral h0_globalNames_r h0_globalPlaces_r h0_globalTypes_r h0_globalValues_r h0_globalCount h0_funs_r h0_funCount h0_open h0_signs h0_levels_r h0_now h0_known_r h0_knownCount h0_loops mad h0_madeLength mag h0_smalls_r h0_greats_r h0_module_r h0_spare_r mm h0_cursor h0_limit blk stk h0_top hgt lab ous kis los h0_depth h0_function mem h0_pages glo val h0_valueTop ffu fre fba fla h0_frames lat lhe h0_labelTop h0_steps h0_there rsl h0_resultLength h0_reason h0_place arg h0_argumentCount h0_code rf rf_backtrace rf_detailMessage rf_cause rf_stackTrace rf_depth rf_suppressedExceptions rf_reason rf_place val cval gval) ∧ sw_nest U)) (tq_Q (tr_v (fun (u : (Nat → Int64) × Int32 × Int32 × Int32) => match u with | (gval2, h0_valueTop2, rf_place2, rf_reason2) => (0 ≤ h0_valueTop2.toInt ∧ h0_valueTop2.toInt ≤ 12096) ∧ (h0_valueTop2.toInt = h0_valueTop.toInt + 1 ∧ gval2 = vp_updL gval h0_valueTop.toNatClampNeg p0)) rf "WaferForgeModel$Refused" (fun (u : (Nat → Int64) × Int32 × Int32 × Int32) => match u with | (gval2, h0_valueTop2, rf_place2, rf_reason2) => (0 ≤ h0_valueTop2.toInt ∧ h0_valueTop2.toInt ≤ 12096) ∧ (h0_valueTop2 = h0_valueTop))) (at_MD_pushValue dC dI h0 rf tap h0_globalNames_r h0_globalPlaces_r h0_globalTypes_r h0_globalValues_r h0_funs_r h0_levels_r h0_known_r mad mag h0_smalls_r h0_greats_r h0_module_r h0_spare_r mm blk stk hgt lab ous kis los mem glo val ffu fre fba fla lat lhe rsl arg cval h0_taped h0_length h0_kind h0_from h0_to h0_word h0_numeral h0_globalCount h0_funCount h0_open h0_signs h0_now h0_knownCount h0_loops h0_madeLength h0_cursor h0_limit h0_top h0_depth h0_function h0_pages h0_frames h0_labelTop h0_steps h0_there h0_resultLength h0_reason h0_place h0_argumentCount h0_code rf_backtrace rf_detailMessage rf_cause rf_stackTrace rf_depth rf_suppressedExceptions (va_A (wz_369 h0 rf tap h0_taped h0_length h0_kind h0_from h0_to h0_word h0_numeral h0_globalNames_r h0_globalPlaces_r h0_globalTypes_r h0_globalValues_r h0_globalCount h0_funs_r h0_funCount h0_open h0_signs h0_levels_r h0_now h0_known_r h0_knownCount h0_loops mad h0_madeLength mag h0_smalls_r h0_greats_r h0_module_r h0_spare_r mm h0_cursor h0_limit blk stk h0_top hgt lab ous kis los h0_depth h0_function mem h0_pages glo val h0_valueTop ffu fre fba fla h0_frames lat lhe h0_labelTop h0_steps h0_there rsl h0_resultLength h0_reason h0_place arg h0_argumentCount h0_code rf rf_backtrace rf_detailMessage rf_cause rf_stackTrace rf_depth rf_suppressedExceptions rf_reason rf_place val cval gval) sz)) (va_A (wz_369 h0 rf tap h0_taped h0_length h0_kind h0_from h0_to h0_word h0_numeral h0_globalNames_r h0_globalPlaces_r h0_globalTypes_r h0_globalValues_r h0_globalCount h0_funs_r h0_funCount h0_open h0_signs h0_levels_r h0_now h0_known_r h0_knownCount h0_loops mad h0_madeLength mag h0_smalls_r h0_greats_r h0_module_r h0_spare_r mm h0_cursor h0_limit blk stk h0_top hgt lab ous kis los h0_depth h0_function mem h0_pages glo val h0_valueTop ffu fre fba fla h0_frames lat lhe h0_labelTop h0_steps h0_there rsl h0_resultLength h0_reason h0_place arg h0_argumentCount h0_code rf rf_backtrace rf_detailMessage rf_cause rf_stackTrace rf_depth rf_suppressedExceptions rf_reason rf_place val cval gval) sz)) (tz_k 0 0 0 0) (va_A (wz_369 h0 rf tap h0_taped h0_length h0_kind h0_from h0_to h0_word h0_numeral h0_globalNames_r h0_globalPlaces_r h0_globalTypes_r h0_globalValues_r h0_globalCount h0_funs_r h0_funCount h0_open h0_signs h0_levels_r h0_now h0_known_r h0_knownCount h0_loops mad h0_madeLength mag h0_smalls_r h0_greats_r h0_module_r h0_spare_r mm h0_cursor h0_limit blk stk h0_top hgt lab ous kis los h0_depth h0_function mem h0_pages glo val h0_valueTop ffu fre fba fla h0_frames lat lhe h0_labelTop h0_steps h0_there rsl h0_resultLength h0_reason h0_place arg h0_argumentCount h0_code rf rf_backtrace rf_detailMessage rf_cause rf_stackTrace rf_depth rf_suppressedExceptions rf_reason rf_place val cval gval) sz) := by
  refine tz_ofW (cc := b_MD_pushValue) (maxL := 3) (ret := none) (by decide) rfl ?_
  intro p e s m args below meth c s₁ B hml hno hv
  obtain ⟨rfl, hsz, hP, hK, hD0, hSW⟩ := hv
  have hx := B.exec
  have hb := B.bytes
  have hr := B.returns
  have hts0 := atoms_spec (ws := w_MD_pushValue) B.pre
  have hts : ∀ w ∈ lw_g, w.before _ s = true := fun w h => hts0 w (List.mem_cons_of_mem _ h)
  have hown : s.vm.findClass R_MD = some m.cls := findClass_of_methodNamed B.named
  have hlocks := B.notSynchronized
  clear hts0
  subst hsz
  have hD := hD0.self (sz := s.heap.size)
  generalize hAe : va_A (wz_369 h0 rf tap h0_taped h0_length h0_kind h0_from h0_to h0_word h0_numeral h0_globalNames_r h0_globalPlaces_r h0_globalTypes_r h0_globalValues_r h0_globalCount h0_funs_r h0_funCount h0_open h0_signs h0_levels_r h0_now h0_known_r h0_knownCount h0_loops mad h0_madeLength mag h0_smalls_r h0_greats_r h0_module_r h0_spare_r mm h0_cursor h0_limit blk stk h0_top hgt lab ous kis los h0_depth h0_function mem h0_pages glo val h0_valueTop ffu fre fba fla h0_frames lat lhe h0_labelTop h0_steps h0_there rsl h0_resultLength h0_reason h0_place arg h0_argumentCount h0_code rf rf_backtrace rf_detailMessage rf_cause rf_stackTrace rf_depth rf_suppressedExceptions rf_reason rf_place val cval gval) s.heap.size = A at hD ⊢
  have hA : ∀ q : Nat, s.heap.size ≤ q → A q := fun q h => by rw [← hAe]; exact Or.inr h
  clear hAe
  have hP : va_P (dC, dI) cls2 (wz_369 h0 rf tap h0_taped h0_length h0_kind h0_from h0_to h0_word h0_numeral h0_globalNames_r h0_globalPlaces_r h0_globalTypes_r h0_globalValues_r h0_globalCount h0_funs_r h0_funCount h0_open h0_signs h0_levels_r h0_now h0_known_r h0_knownCount h0_loops mad h0_madeLength mag h0_smalls_r h0_greats_r h0_module_r h0_spare_r mm h0_cursor h0_limit blk stk h0_top hgt lab ous kis los h0_depth h0_function mem h0_pages glo val h0_valueTop ffu fre fba fla h0_frames lat lhe h0_labelTop h0_steps h0_there rsl h0_resultLength h0_reason h0_place arg h0_argumentCount h0_code rf rf_backtrace rf_detailMessage rf_cause rf_stackTrace rf_depth rf_suppressedExceptions rf_reason rf_place val cval gval) s.heap := hP
  have hl := lv_entry ([.ref h0, .long p0]) (n := 3) (Nat.le_of_ble_eq_true rfl)
  rw [lg_entry_eq]
  generalize (lg_sl ([.ref h0, .long p0]) ++ List.replicate (3 - (lg_sl ([.ref h0, .long p0])).length) Slot.unset).toArray = ls at hl ⊢
  have hl : lv_has ls 3 [(0, .ref h0), (1, .long p0)] := hl
  have k0 : (0 : Int32).toInt = 0 := by decide
  refine w_gen (A := A) hP (fun H locs hP hS => ?_)
  have k1 : (1 : Int32).toInt = 1 := by decide
  have k13 : (13 : Int32).toInt = 13 := by decide
  have k12096 : (12096 : Int32).toInt = 12096 := by decide
  refine lv_aload_n hx hb d_MD_pushValue_0 rfl (lv_at hl 0 rfl) ?_
  refine lv_aload_n hx hb d_MD_pushValue_1 rfl (lv_at hl 0 rfl) ?_
  refine va_get (D := (dC, dI)) (ci := 11) (v := .int h0_valueTop) (C := R_MD) (T := F_MD) (N := 65) hx hb hts i_MD hown hK hP 0 rfl rfl 47 (by decide) (hts _ kF_MD_703) (fun _ h9 => h9) rfl d_MD_pushValue_2 ?_
  refine lv_sipush (v := 12096) hx hb d_MD_pushValue_5 (by decide) ?_
  refine lv_icmp_ne (tgt := 15) hx hb d_MD_pushValue_8 (by decide) (fun c8 => ?_) (fun c8 => ?_)
  · have q8 := neI c8
    refine lv_iconst (v := 0) hx hb d_MD_pushValue_15 (by decide) ?_
    refine lv_bipush (v := 13) hx hb d_MD_pushValue_16 (by decide) ?_
    have hPc := hP.sb (wq := (wz_303 h0 rf tap h0_taped h0_length h0_kind h0_from h0_to h0_word h0_numeral h0_globalNames_r h0_globalPlaces_r h0_globalTypes_r h0_globalValues_r h0_globalCount h0_funs_r h0_funCount h0_open h0_signs h0_levels_r h0_now h0_known_r h0_knownCount h0_loops mad h0_madeLength mag h0_smalls_r h0_greats_r h0_module_r h0_spare_r mm h0_cursor h0_limit blk stk h0_top hgt lab ous kis los h0_depth h0_function mem h0_pages glo val h0_valueTop ffu fre fba fla h0_frames lat lhe h0_labelTop h0_steps h0_there rsl h0_resultLength h0_reason h0_place arg h0_argumentCount h0_code rf rf_backtrace rf_detailMessage rf_cause rf_stackTrace rf_depth rf_suppressedExceptions rf_reason rf_place)) [0, 1] rfl
    have hDc := hD.sb (wq := (wz_303 h0 rf tap h0_taped h0_length h0_kind h0_from h0_to h0_word h0_numeral h0_globalNames_r h0_globalPlaces_r h0_globalTypes_r h0_globalValues_r h0_globalCount h0_funs_r h0_funCount h0_open h0_signs h0_levels_r h0_now h0_known_r h0_knownCount h0_loops mad h0_madeLength mag h0_smalls_r h0_greats_r h0_module_r h0_spare_r mm h0_cursor h0_limit blk stk h0_top hgt lab ous kis los h0_depth h0_function mem h0_pages glo val h0_valueTop ffu fre fba fla h0_frames lat lhe h0_labelTop h0_steps h0_there rsl h0_resultLength h0_reason h0_place arg h0_argumentCount h0_code rf rf_backtrace rf_detailMessage rf_cause rf_stackTrace rf_depth rf_suppressedExceptions rf_reason rf_place)) [0, 1] (by decide) rfl
    have hKc := hK.sb (tyq := []) [] rfl
    have hFc := va_free (wc := (wz_303 h0 rf tap h0_taped h0_length h0_kind h0_from h0_to h0_word h0_numeral h0_globalNames_r h0_globalPlaces_r h0_globalTypes_r h0_globalValues_r h0_globalCount h0_funs_r h0_funCount h0_open h0_signs h0_levels_r h0_now h0_known_r h0_knownCount h0_loops mad h0_madeLength mag h0_smalls_r h0_greats_r h0_module_r h0_spare_r mm h0_cursor h0_limit blk stk h0_top hgt lab ous kis los h0_depth h0_function mem h0_pages glo val h0_valueTop ffu fre fba fla h0_frames lat lhe h0_labelTop h0_steps h0_there rsl h0_resultLength h0_reason h0_place arg h0_argumentCount h0_code rf rf_backtrace rf_detailMessage rf_cause rf_stackTrace rf_depth rf_suppressedExceptions rf_reason rf_place)) hD hS hA [0, 1] rfl
    refine tr_callv (tz_runV (As := [.int 0, .int 13]) (rest := []) ⟨hx, hb, hml, hown, hts⟩ (c_MD_ends l hlt dC dI H.size h0 rf tap h0_globalNames_r h0_globalPlaces_r h0_globalTypes_r h0_globalValues_r h0_funs_r h0_levels_r h0_known_r mad mag h0_smalls_r h0_greats_r h0_module_r h0_spare_r blk stk hgt lab ous kis los mem glo val ffu fre fba fla lat lhe rsl arg h0_taped h0_length h0_kind h0_from h0_to h0_word h0_numeral h0_globalCount h0_funCount h0_open h0_signs h0_now h0_knownCount h0_loops h0_madeLength (.ref mm) h0_cursor h0_limit h0_top h0_depth h0_function h0_pages h0_valueTop h0_frames h0_labelTop h0_steps h0_there h0_resultLength h0_reason h0_place h0_argumentCount h0_code rf_backtrace rf_detailMessage rf_cause rf_stackTrace rf_depth rf_suppressedExceptions rf_reason rf_place 0 13 (Or.inl rfl)) (cwV 2 hts (gV kM_MD_706 kV_MD_ends kS_MD_ends kI_MD kC_MD_ends) rfl rfl rfl (by decide +kernel) ⟨Nat.le_of_ble_eq_true rfl, Nat.le_of_ble_eq_true rfl⟩) ⟨fun a U g mk z => by obtain ⟨z0, z1, zP, zK, zD, zS⟩ := z; exact ⟨z0, z1, zP, va_K.moved (u := U) (U := U.calling g mk a) (Vm.Alike.refl U.vm) zK, zD, sw_nest.same (s := U) (U := U.calling g mk a) rfl zS⟩, va_recv hKc hPc (ci := 11) (q0 := 0) rfl rfl, fun U hU hW => ⟨rfl, by rw [hU], va_P.he hU.symm hPc, va_K.moved hW.alike hKc, hDc.weaken (fun _ _ _ _ => trivial), hSW.warm hW⟩⟩ rfl rfl hl.1 rfl (lv_room (Nat.le_of_ble_eq_true rfl)) d_MD_pushValue_18 ⟨Nat.le_of_ble_eq_true rfl, Nat.le_of_ble_eq_true rfl⟩) hS (fun q _ h => hFc q h) hFc (fun u t H1 locs ht hvm hw hB hz1 hk1 hS => ?_) (fun xx u t H1 locs ht hvm hw hXX hB hz1 hk1 hS => ?_)
    rotate_left
    · skip
      obtain ⟨hxa, hXX⟩ := hXX
      obtain ⟨n2, n3⟩ := u
      try dsimp only at hw
      have tq9 := hw
      exact absurd tq9 (by decide)
    obtain ⟨n4, n5⟩ := u
    try dsimp only at hw
    have xr1 := hw
    try clear hw
    obtain ⟨hP1, hK1, hD1⟩ := hB
    replace hP1 := va_P.he ht hP1
    obtain ⟨hP, hD⟩ := va_join (wr := [(val, .inl (cval, 12097, .inr (.inl gval)))]) (w1 := (wz_303 h0 rf tap h0_taped h0_length h0_kind h0_from h0_to h0_word h0_numeral h0_globalNames_r h0_globalPlaces_r h0_globalTypes_r h0_globalValues_r h0_globalCount h0_funs_r h0_funCount h0_open h0_signs h0_levels_r h0_now h0_known_r h0_knownCount h0_loops mad h0_madeLength mag h0_smalls_r h0_greats_r h0_module_r h0_spare_r mm h0_cursor h0_limit blk stk h0_top hgt lab ous kis los h0_depth h0_function mem h0_pages glo val h0_valueTop ffu fre fba fla h0_frames lat lhe h0_labelTop h0_steps h0_there rsl h0_resultLength h0_reason h0_place arg h0_argumentCount h0_code rf rf_backtrace rf_detailMessage rf_cause rf_stackTrace rf_depth rf_suppressedExceptions n5 n4)) hP hD [0, 1] [2] rfl rfl (by decide) (by decide) hk1 hFc hP1 hD1
    clear hPc hDc hKc hFc hz1 hk1 hP1 hK1 hD1
    rename Heap => H
    have hP : va_P (dC, dI) cls2 (wz_370 val cval gval h0 rf tap h0_taped h0_length h0_kind h0_from h0_to h0_word h0_numeral h0_globalNames_r h0_globalPlaces_r h0_globalTypes_r h0_globalValues_r h0_globalCount h0_funs_r h0_funCount h0_open h0_signs h0_levels_r h0_now h0_known_r h0_knownCount h0_loops mad h0_madeLength mag h0_smalls_r h0_greats_r h0_module_r h0_spare_r mm h0_cursor h0_limit blk stk h0_top hgt lab ous kis los h0_depth h0_function mem h0_pages glo val h0_valueTop ffu fre fba fla h0_frames lat lhe h0_labelTop h0_steps h0_there rsl h0_resultLength h0_reason h0_place arg h0_argumentCount h0_code rf rf_backtrace rf_detailMessage rf_cause rf_stackTrace rf_depth rf_suppressedExceptions n5 n4) H := hP
    have hD : va_D A (wz_370 val cval gval h0 rf tap h0_taped h0_length h0_kind h0_from h0_to h0_word h0_numeral h0_globalNames_r h0_globalPlaces_r h0_globalTypes_r h0_globalValues_r h0_globalCount h0_funs_r h0_funCount h0_open h0_signs h0_levels_r h0_now h0_known_r h0_knownCount h0_loops mad h0_madeLength mag h0_smalls_r h0_greats_r h0_module_r h0_spare_r mm h0_cursor h0_limit blk stk h0_top hgt lab ous kis los h0_depth h0_function mem h0_pages glo val h0_valueTop ffu fre fba fla h0_frames lat lhe h0_labelTop h0_steps h0_there rsl h0_resultLength h0_reason h0_place arg h0_argumentCount h0_code rf rf_backtrace rf_detailMessage rf_cause rf_stackTrace rf_depth rf_suppressedExceptions n5 n4) := hD
    refine lv_aload_n hx hb d_MD_pushValue_21 rfl (lv_at hl 0 rfl) ?_
    refine va_get (D := (dC, dI)) (ci := 11) (v := .ref val) (C := R_MD) (T := F_MD) (N := 65) hx hb hts i_MD hown hK hP 1 rfl rfl 46 (by decide) (hts _ kF_MD_710) (fun _ h9 => h9) rfl d_MD_pushValue_22 ?_
    refine lv_aload_n hx hb d_MD_pushValue_25 rfl (lv_at hl 0 rfl) ?_
    refine va_get (D := (dC, dI)) (ci := 11) (v := .int h0_valueTop) (C := R_MD) (T := F_MD) (N := 65) hx hb hts i_MD hown hK hP 1 rfl rfl 47 (by decide) (hts _ kF_MD_703) (fun _ h9 => h9) rfl d_MD_pushValue_26 ?_
    refine lv_lload_n hx hb d_MD_pushValue_29 rfl (lv_at hl 1 rfl) ?_
    have g30 : vp_in h0_valueTop 12097 := vp_in_iff.mpr ⟨by (first | (apply Int.le_antisymm <;> omega) | omega), by (first | (apply Int.le_antisymm <;> omega) | omega)⟩
    refine va_last hx hb hK hP hD hS 0 0 rfl rfl g30 d_MD_pushValue_30 (fun H locs hP hD hS => ?_)
    generalize ef6 : vp_updL gval h0_valueTop.toNatClampNeg p0 = f6 at hP hD
    refine lv_aload_n hx hb d_MD_pushValue_31 rfl (lv_at hl 0 rfl) ?_
    refine lv_dup hx hb d_MD_pushValue_32 rfl ?_
    refine va_get (D := (dC, dI)) (ci := 11) (v := .int h0_valueTop) (C := R_MD) (T := F_MD) (N := 65) hx hb hts i_MD hown hK hP 1 rfl rfl 47 (by decide) (hts _ kF_MD_703) (fun _ h9 => h9) rfl d_MD_pushValue_33 ?_
    refine lv_iconst (v := 1) hx hb d_MD_pushValue_36 (by decide) ?_
    refine lv_iadd hx hb d_MD_pushValue_37 ?_
    refine lv_topi (fun x7 ex7 => ?_)
    have tx7 : x7.toInt = h0_valueTop.toInt + 1 := by have z := i32_add ex7 (by (first | (apply Int.le_antisymm <;> omega) | omega)) (by (first | (apply Int.le_antisymm <;> omega) | omega)); first | exact z | (first | (apply Int.le_antisymm <;> omega) | omega)
    refine va_put (D := (dC, dI)) (ci := 11) (v := .int x7) (ty := .int) (C := R_MD) (T := F_MD) (N := 65) hx hb hts i_MD t_MD t_MD_ok n_MD hown hK hP hD hS 1 rfl rfl 47 (by decide) (hts _ kF_MD_703) (fun _ h9 => h9) rfl (by decide +kernel) rfl rfl (Nat.le_of_ble_eq_true rfl) d_MD_pushValue_38 (fun H locs hP hD hS => ?_)
    have hP9 := hP.sb (wq := (wz_369 h0 rf tap h0_taped h0_length h0_kind h0_from h0_to h0_word h0_numeral h0_globalNames_r h0_globalPlaces_r h0_globalTypes_r h0_globalValues_r h0_globalCount h0_funs_r h0_funCount h0_open h0_signs h0_levels_r h0_now h0_known_r h0_knownCount h0_loops mad h0_madeLength mag h0_smalls_r h0_greats_r h0_module_r h0_spare_r mm h0_cursor h0_limit blk stk h0_top hgt lab ous kis los h0_depth h0_function mem h0_pages glo val x7 ffu fre fba fla h0_frames lat lhe h0_labelTop h0_steps h0_there rsl h0_resultLength h0_reason h0_place arg h0_argumentCount h0_code rf rf_backtrace rf_detailMessage rf_cause rf_stackTrace rf_depth rf_suppressedExceptions n5 n4 val cval f6)) [1, 2, 0] rfl
    have hD9 := hD.sb (wq := (wz_369 h0 rf tap h0_taped h0_length h0_kind h0_from h0_to h0_word h0_numeral h0_globalNames_r h0_globalPlaces_r h0_globalTypes_r h0_globalValues_r h0_globalCount h0_funs_r h0_funCount h0_open h0_signs h0_levels_r h0_now h0_known_r h0_knownCount h0_loops mad h0_madeLength mag h0_smalls_r h0_greats_r h0_module_r h0_spare_r mm h0_cursor h0_limit blk stk h0_top hgt lab ous kis los h0_depth h0_function mem h0_pages glo val x7 ffu fre fba fla h0_frames lat lhe h0_labelTop h0_steps h0_there rsl h0_resultLength h0_reason h0_place arg h0_argumentCount h0_code rf rf_backtrace rf_detailMessage rf_cause rf_stackTrace rf_depth rf_suppressedExceptions n5 n4 val cval f6)) [1, 2, 0] (by decide) rfl
    exact tz_up (fun _ => rfl) (W.vret hx hb hr (fun t ht hW => ⟨⟨(f6, x7, n4, n5), ⟨rfl, ⟨by (try dsimp only) <;> (first | (apply Int.le_antisymm <;> omega) | omega), ⟨by (try dsimp only) <;> (first | (apply Int.le_antisymm <;> omega) | omega), by first | rfl | exact ef6.symm⟩⟩⟩, va_P.he ht.symm hP9, va_K.moved hW.alike hK, hD9⟩, hS.F ht⟩) hS.2.2 d_MD_pushValue_41)
  · have q8 := eqI c8
    refine lv_iconst (v := 1) hx hb d_MD_pushValue_11 (by decide) ?_
    refine lv_goto (tgt := 16) hx hb d_MD_pushValue_12 (by decide) ?_
    refine lv_bipush (v := 13) hx hb d_MD_pushValue_16 (by decide) ?_
    have hPc := hP.sb (wq := (wz_303 h0 rf tap h0_taped h0_length h0_kind h0_from h0_to h0_word h0_numeral h0_globalNames_r h0_globalPlaces_r h0_globalTypes_r h0_globalValues_r h0_globalCount h0_funs_r h0_funCount h0_open h0_signs h0_levels_r h0_now h0_known_r h0_knownCount h0_loops mad h0_madeLength mag h0_smalls_r h0_greats_r h0_module_r h0_spare_r mm h0_cursor h0_limit blk stk h0_top hgt lab ous kis los h0_depth h0_function mem h0_pages glo val h0_valueTop ffu fre fba fla h0_frames lat lhe h0_labelTop h0_steps h0_there rsl h0_resultLength h0_reason h0_place arg h0_argumentCount h0_code rf rf_backtrace rf_detailMessage rf_cause rf_stackTrace rf_depth rf_suppressedExceptions rf_reason rf_place)) [0, 1] rfl
    have hDc := hD.sb (wq := (wz_303 h0 rf tap h0_taped h0_length h0_kind h0_from h0_to h0_word h0_numeral h0_globalNames_r h0_globalPlaces_r h0_globalTypes_r h0_globalValues_r h0_globalCount h0_funs_r h0_funCount h0_open h0_signs h0_levels_r h0_now h0_known_r h0_knownCount h0_loops mad h0_madeLength mag h0_smalls_r h0_greats_r h0_module_r h0_spare_r mm h0_cursor h0_limit blk stk h0_top hgt lab ous kis los h0_depth h0_function mem h0_pages glo val h0_valueTop ffu fre fba fla h0_frames lat lhe h0_labelTop h0_steps h0_there rsl h0_resultLength h0_reason h0_place arg h0_argumentCount h0_code rf rf_backtrace rf_detailMessage rf_cause rf_stackTrace rf_depth rf_suppressedExceptions rf_reason rf_place)) [0, 1] (by decide) rfl
    have hKc := hK.sb (tyq := []) [] rfl
    have hFc := va_free (wc := (wz_303 h0 rf tap h0_taped h0_length h0_kind h0_from h0_to h0_word h0_numeral h0_globalNames_r h0_globalPlaces_r h0_globalTypes_r h0_globalValues_r h0_globalCount h0_funs_r h0_funCount h0_open h0_signs h0_levels_r h0_now h0_known_r h0_knownCount h0_loops mad h0_madeLength mag h0_smalls_r h0_greats_r h0_module_r h0_spare_r mm h0_cursor h0_limit blk stk h0_top hgt lab ous kis los h0_depth h0_function mem h0_pages glo val h0_valueTop ffu fre fba fla h0_frames lat lhe h0_labelTop h0_steps h0_there rsl h0_resultLength h0_reason h0_place arg h0_argumentCount h0_code rf rf_backtrace rf_detailMessage rf_cause rf_stackTrace rf_depth rf_suppressedExceptions rf_reason rf_place)) hD hS hA [0, 1] rfl
    refine tr_callv (tz_runV (As := [.int 1, .int 13]) (rest := []) ⟨hx, hb, hml, hown, hts⟩ (c_MD_ends l hlt dC dI H.size h0 rf tap h0_globalNames_r h0_globalPlaces_r h0_globalTypes_r h0_globalValues_r h0_funs_r h0_levels_r h0_known_r mad mag h0_smalls_r h0_greats_r h0_module_r h0_spare_r blk stk hgt lab ous kis los mem glo val ffu fre fba fla lat lhe rsl arg h0_taped h0_length h0_kind h0_from h0_to h0_word h0_numeral h0_globalCount h0_funCount h0_open h0_signs h0_now h0_knownCount h0_loops h0_madeLength (.ref mm) h0_cursor h0_limit h0_top h0_depth h0_function h0_pages h0_valueTop h0_frames h0_labelTop h0_steps h0_there h0_resultLength h0_reason h0_place h0_argumentCount h0_code rf_backtrace rf_detailMessage rf_cause rf_stackTrace rf_depth rf_suppressedExceptions rf_reason rf_place 1 13 (Or.inr rfl)) (cwV 2 hts (gV kM_MD_706 kV_MD_ends kS_MD_ends kI_MD kC_MD_ends) rfl rfl rfl (by decide +kernel) ⟨Nat.le_of_ble_eq_true rfl, Nat.le_of_ble_eq_true rfl⟩) ⟨fun a U g mk z => by obtain ⟨z0, z1, zP, zK, zD, zS⟩ := z; exact ⟨z0, z1, zP, va_K.moved (u := U) (U := U.calling g mk a) (Vm.Alike.refl U.vm) zK, zD, sw_nest.same (s := U) (U := U.calling g mk a) rfl zS⟩, va_recv hKc hPc (ci := 11) (q0 := 0) rfl rfl, fun U hU hW => ⟨rfl, by rw [hU], va_P.he hU.symm hPc, va_K.moved hW.alike hKc, hDc.weaken (fun _ _ _ _ => trivial), hSW.warm hW⟩⟩ rfl rfl hl.1 rfl (lv_room (Nat.le_of_ble_eq_true rfl)) d_MD_pushValue_18 ⟨Nat.le_of_ble_eq_true rfl, Nat.le_of_ble_eq_true rfl⟩) hS (fun q _ h => hFc q h) hFc (fun u t H1 locs ht hvm hw hB hz1 hk1 hS => ?_) (fun xx u t H1 locs ht hvm hw hXX hB hz1 hk1 hS => ?_)
    rotate_left
    · skip
      obtain ⟨hxa, hXX⟩ := hXX
      obtain ⟨n9, n10⟩ := u
      try dsimp only at hw
      have tq9 := hw
      obtain ⟨hP1, hK1, hD1⟩ := hB
      replace hP1 := va_P.he ht hP1
      obtain ⟨hP, hD⟩ := va_join (wr := [(val, .inl (cval, 12097, .inr (.inl gval)))]) (w1 := (wz_303 h0 rf tap h0_taped h0_length h0_kind h0_from h0_to h0_word h0_numeral h0_globalNames_r h0_globalPlaces_r h0_globalTypes_r h0_globalValues_r h0_globalCount h0_funs_r h0_funCount h0_open h0_signs h0_levels_r h0_now h0_known_r h0_knownCount h0_loops mad h0_madeLength mag h0_smalls_r h0_greats_r h0_module_r h0_spare_r mm h0_cursor h0_limit blk stk h0_top hgt lab ous kis los h0_depth h0_function mem h0_pages glo val h0_valueTop ffu fre fba fla h0_frames lat lhe h0_labelTop h0_steps h0_there rsl h0_resultLength h0_reason h0_place arg h0_argumentCount h0_code rf rf_backtrace rf_detailMessage rf_cause rf_stackTrace rf_depth rf_suppressedExceptions n10 n9)) hP hD [0, 1] [2] rfl rfl (by decide) (by decide) hk1 hFc hP1 hD1
      have hP : va_P (dC, dI) cls2 (wz_370 val cval gval h0 rf tap h0_taped h0_length h0_kind h0_from h0_to h0_word h0_numeral h0_globalNames_r h0_globalPlaces_r h0_globalTypes_r h0_globalValues_r h0_globalCount h0_funs_r h0_funCount h0_open h0_signs h0_levels_r h0_now h0_known_r h0_knownCount h0_loops mad h0_madeLength mag h0_smalls_r h0_greats_r h0_module_r h0_spare_r mm h0_cursor h0_limit blk stk h0_top hgt lab ous kis los h0_depth h0_function mem h0_pages glo val h0_valueTop ffu fre fba fla h0_frames lat lhe h0_labelTop h0_steps h0_there rsl h0_resultLength h0_reason h0_place arg h0_argumentCount h0_code rf rf_backtrace rf_detailMessage rf_cause rf_stackTrace rf_depth rf_suppressedExceptions n10 n9) H1 := hP
      have hD : va_D A (wz_370 val cval gval h0 rf tap h0_taped h0_length h0_kind h0_from h0_to h0_word h0_numeral h0_globalNames_r h0_globalPlaces_r h0_globalTypes_r h0_globalValues_r h0_globalCount h0_funs_r h0_funCount h0_open h0_signs h0_levels_r h0_now h0_known_r h0_knownCount h0_loops mad h0_madeLength mag h0_smalls_r h0_greats_r h0_module_r h0_spare_r mm h0_cursor h0_limit blk stk h0_top hgt lab ous kis los h0_depth h0_function mem h0_pages glo val h0_valueTop ffu fre fba fla h0_frames lat lhe h0_labelTop h0_steps h0_there rsl h0_resultLength h0_reason h0_place arg h0_argumentCount h0_code rf rf_backtrace rf_detailMessage rf_cause rf_stackTrace rf_depth rf_suppressedExceptions n10 n9) := hD
      have hP9 := hP.sb (wq := (wz_369 h0 rf tap h0_taped h0_length h0_kind h0_from h0_to h0_word h0_numeral h0_globalNames_r h0_globalPlaces_r h0_globalTypes_r h0_globalValues_r h0_globalCount h0_funs_r h0_funCount h0_open h0_signs h0_levels_r h0_now h0_known_r h0_knownCount h0_loops mad h0_madeLength mag h0_smalls_r h0_greats_r h0_module_r h0_spare_r mm h0_cursor h0_limit blk stk h0_top hgt lab ous kis los h0_depth h0_function mem h0_pages glo val h0_valueTop ffu fre fba fla h0_frames lat lhe h0_labelTop h0_steps h0_there rsl h0_resultLength h0_reason h0_place arg h0_argumentCount h0_code rf rf_backtrace rf_detailMessage rf_cause rf_stackTrace rf_depth rf_suppressedExceptions n10 n9 val cval gval)) [1, 2, 0] rfl
      have hD9 := hD.sb (wq := (wz_369 h0 rf tap h0_taped h0_length h0_kind h0_from h0_to h0_word h0_numeral h0_globalNames_r h0_globalPlaces_r h0_globalTypes_r h0_globalValues_r h0_globalCount h0_funs_r h0_funCount h0_open h0_signs h0_levels_r h0_now h0_known_r h0_knownCount h0_loops mad h0_madeLength mag h0_smalls_r h0_greats_r h0_module_r h0_spare_r mm h0_cursor h0_limit blk stk h0_top hgt lab ous kis los h0_depth h0_function mem h0_pages glo val h0_valueTop ffu fre fba fla h0_frames lat lhe h0_labelTop h0_steps h0_there rsl h0_resultLength h0_reason h0_place arg h0_argumentCount h0_code rf rf_backtrace rf_detailMessage rf_cause rf_stackTrace rf_depth rf_suppressedExceptions n10 n9 val cval gval)) [1, 2, 0] (by decide) rfl
      exact tz_leave rfl hno hlocks (fun t ht hW => ⟨⟨(gval, h0_valueTop, n9, n10), ⟨⟨b_h0_valueTop, rfl⟩, hxa, by rw [ht]; exact hXX.moved hW.alike⟩, va_P.he ht.symm hP9, va_K.moved hW.alike hK, hD9⟩, hS.F ht⟩) hS.2.2
    obtain ⟨n11, n12⟩ := u
    try dsimp only at hw
    have xr8 := hw
    try clear hw
    exact absurd xr8 (by decide)
abbrev b_MD_popValue : ByteArray := prog_15_method_83_code
def y_MD_popValue : MethodName := ⟨R_MD, "popValue", "()J"⟩
abbrev w_MD_popValue : List Cond := .code y_MD_popValue b_MD_popValue 1 (Option.some .long) :: lw_g
theorem kC_MD_popValue : Cond.code y_MD_popValue b_MD_popValue 1 (Option.some .long) ∈ lw_g := in_c13 151 rfl rfl
theorem d_MD_popValue_0 : decode b_MD_popValue 0 = .ok (.aload_n 0, 1) := bz_c42 (by decide +kernel)
theorem d_MD_popValue_1 : decode b_MD_popValue 1 = .ok (.dup, 1) := bz_c89 (by decide +kernel)
theorem d_MD_popValue_2 : decode b_MD_popValue 2 = .ok (.getfield 703, 3) := bz_c180 (by decide +kernel)
theorem d_MD_popValue_5 : decode b_MD_popValue 5 = .ok (.iconst 1, 1) := bz_c4 (by decide +kernel)
theorem d_MD_popValue_6 : decode b_MD_popValue 6 = .ok (.isub, 1) := bz_c100 (by decide +kernel)
theorem d_MD_popValue_7 : decode b_MD_popValue 7 = .ok (.putfield 703, 3) := bz_c181 (by decide +kernel)
theorem d_MD_popValue_10 : decode b_MD_popValue 10 = .ok (.aload_n 0, 1) := bz_c42 (by decide +kernel)
theorem d_MD_popValue_11 : decode b_MD_popValue 11 = .ok (.getfield 710, 3) := bz_c180 (by decide +kernel)
theorem d_MD_popValue_14 : decode b_MD_popValue 14 = .ok (.aload_n 0, 1) := bz_c42 (by decide +kernel)
theorem d_MD_popValue_15 : decode b_MD_popValue 15 = .ok (.getfield 703, 3) := bz_c180 (by decide +kernel)
theorem d_MD_popValue_18 : decode b_MD_popValue 18 = .ok (.laload, 1) := bz_c47 (by decide +kernel)
theorem d_MD_popValue_19 : decode b_MD_popValue 19 = .ok (.lreturn, 1) := bz_c173 (by decide +kernel)
abbrev at_MD_popValue (dC : Nat → ClassId) (dI : Nat → Nat → Nat) (h0 rf tap h0_globalNames_r h0_globalPlaces_r h0_globalTypes_r h0_globalValues_r h0_funs_r h0_levels_r h0_known_r mad mag h0_smalls_r h0_greats_r h0_module_r h0_spare_r mm blk stk hgt lab ous kis los mem glo val ffu fre fba fla lat lhe rsl arg : Nat) (cval : ClassId) (h0_taped : Int32) (h0_length : Int32) (h0_kind : Int32) (h0_from : Int32) (h0_to : Int32) (h0_word : Value) (h0_numeral : Int64) (h0_globalCount : Int32) (h0_funCount : Int32) (h0_open : Int32) (h0_signs : Int32) (h0_now : Value) (h0_knownCount : Int32) (h0_loops : Int32) (h0_madeLength : Int32) (h0_cursor : Int32) (h0_limit : Int32) (h0_top : Int32) (h0_depth : Int32) (h0_function : Int32) (h0_pages : Int32) (h0_frames : Int32) (h0_labelTop : Int32) (h0_steps : Int32) (h0_there : Int32) (h0_resultLength : Int32) (h0_reason : Int32) (h0_place : Int32) (h0_argumentCount : Int32) (h0_code : Int32) (gval : Nat → Int64) (A : Nat → Prop) (u : Int32) (t : State) : Prop := match u with | h0_valueTop => va_P (dC, dI) cls2 (wz_371 h0 rf tap h0_taped h0_length h0_kind h0_from h0_to h0_word h0_numeral h0_globalNames_r h0_globalPlaces_r h0_globalTypes_r h0_globalValues_r h0_globalCount h0_funs_r h0_funCount h0_open h0_signs h0_levels_r h0_now h0_known_r h0_knownCount h0_loops mad h0_madeLength mag h0_smalls_r h0_greats_r h0_module_r h0_spare_r mm h0_cursor h0_limit blk stk h0_top hgt lab ous kis los h0_depth h0_function mem h0_pages glo val h0_valueTop ffu fre fba fla h0_frames lat lhe h0_labelTop h0_steps h0_there rsl h0_resultLength h0_reason h0_place arg h0_argumentCount h0_code val cval gval) t.heap ∧ va_K (dC, dI) cls2 [(cval, .long)] t ∧ va_D A (wz_371 h0 rf tap h0_taped h0_length h0_kind h0_from h0_to h0_word h0_numeral h0_globalNames_r h0_globalPlaces_r h0_globalTypes_r h0_globalValues_r h0_globalCount h0_funs_r h0_funCount h0_open h0_signs h0_levels_r h0_now h0_known_r h0_knownCount h0_loops mad h0_madeLength mag h0_smalls_r h0_greats_r h0_module_r h0_spare_r mm h0_cursor h0_limit blk stk h0_top hgt lab ous kis los h0_depth h0_function mem h0_pages glo val h0_valueTop ffu fre fba fla h0_frames lat lhe h0_labelTop h0_steps h0_there rsl h0_resultLength h0_reason h0_place arg h0_argumentCount h0_code val cval gval)
set_option maxHeartbeats 4000000 in
set_option maxRecDepth 100000 in
theorem c_MD_popValue (l : Launch) (dC : Nat → ClassId) (dI : Nat → Nat → Nat) (sz : Nat) (h0 rf tap h0_globalNames_r h0_globalPlaces_r h0_globalTypes_r h0_globalValues_r h0_funs_r h0_levels_r h0_known_r mad mag h0_smalls_r h0_greats_r h0_module_r h0_spare_r mm blk stk hgt lab ous kis los mem glo val ffu fre fba fla lat lhe rsl arg : Nat) (cval : ClassId) (h0_taped : Int32) (h0_length : Int32) (h0_kind : Int32) (h0_from : Int32) (h0_to : Int32) (h0_word : Value) (h0_numeral : Int64) (h0_globalCount : Int32) (h0_funCount : Int32) (h0_open : Int32) (h0_signs : Int32) (h0_now : Value) (h0_knownCount : Int32) (h0_loops : Int32) (h0_madeLength : Int32) (h0_cursor : Int32) (h0_limit : Int32) (h0_top : Int32) (h0_depth : Int32) (h0_function : Int32) (h0_pages : Int32) (h0_valueTop : Int32) (h0_frames : Int32) (h0_labelTop : Int32) (h0_steps : Int32) (h0_there : Int32) (h0_resultLength : Int32) (h0_reason : Int32) (h0_place : Int32) (h0_argumentCount : Int32) (h0_code : Int32) (gval : Nat → Int64)  (b_h0_valueTop : 0 ≤ h0_valueTop.toInt ∧ h0_valueTop.toInt ≤ 12096)   (hv9 : 1 ≤ h0_valueTop.toInt) : Met l y_MD_popValue w_MD_popValue ({ frames := 0, cells := 0, slots := 0, locals := 0 }) (va_Pc [.ref h0] (fun U => U.heap.size = sz ∧ va_P (dC, dI) cls2 (wz_371 h0 rf tap h0_taped h0_length h0_kind h0_from h0_to h0_word h0_numeral h0_globalNames_r h0_globalPlaces_r h0_globalTypes_r h0_globalValues_r h0_globalCount h0_funs_r h0_funCount h0_open h0_signs h0_levels_r h0_now h0_known_r h0_knownCount h0_loops mad h0_madeLength mag h0_smalls_r h0_greats_r h0_module_r h0_spare_r mm h0_cursor h0_limit blk stk h0_top hgt lab ous kis los h0_depth h0_function mem h0_pages glo val h0_valueTop ffu fre fba fla h0_frames lat lhe h0_labelTop h0_steps h0_there rsl h0_resultLength h0_reason h0_place arg h0_argumentCount h0_code val cval gval) U.heap ∧ va_K (dC, dI) cls2 [(cval, .long)] U ∧ va_D (fun _ => True) (wz_371 h0 rf tap h0_taped h0_length h0_kind h0_from h0_to h0_word h0_numeral h0_globalNames_r h0_globalPlaces_r h0_globalTypes_r h0_globalValues_r h0_globalCount h0_funs_r h0_funCount h0_open h0_signs h0_levels_r h0_now h0_known_r h0_knownCount h0_loops mad h0_madeLength mag h0_smalls_r h0_greats_r h0_module_r h0_spare_r mm h0_cursor h0_limit blk stk h0_top hgt lab ous kis los h0_depth h0_function mem h0_pages glo val h0_valueTop ffu fre fba fla h0_frames lat lhe h0_labelTop h0_steps h0_there rsl h0_resultLength h0_reason h0_place arg h0_argumentCount h0_code val cval gval) ∧ sw_nest U)) (va_Ql (fun (r : Int64) (u : Int32) => match u with | h0_valueTop2 => (0 ≤ h0_valueTop2.toInt ∧ h0_valueTop2.toInt ≤ 12096) ∧ (h0_valueTop2.toInt = h0_valueTop.toInt - 1 ∧ r = gval (h0_valueTop.toInt - 1).toNat)) (at_MD_popValue dC dI h0 rf tap h0_globalNames_r h0_globalPlaces_r h0_globalTypes_r h0_globalValues_r h0_funs_r h0_levels_r h0_known_r mad mag h0_smalls_r h0_greats_r h0_module_r h0_spare_r mm blk stk hgt lab ous kis los mem glo val ffu fre fba fla lat lhe rsl arg cval h0_taped h0_length h0_kind h0_from h0_to h0_word h0_numeral h0_globalCount h0_funCount h0_open h0_signs h0_now h0_knownCount h0_loops h0_madeLength h0_cursor h0_limit h0_top h0_depth h0_function h0_pages h0_frames h0_labelTop h0_steps h0_there h0_resultLength h0_reason h0_place h0_argumentCount h0_code gval (va_A (wz_371 h0 rf tap h0_taped h0_length h0_kind h0_from h0_to h0_word h0_numeral h0_globalNames_r h0_globalPlaces_r h0_globalTypes_r h0_globalValues_r h0_globalCount h0_funs_r h0_funCount h0_open h0_signs h0_levels_r h0_now h0_known_r h0_knownCount h0_loops mad h0_madeLength mag h0_smalls_r h0_greats_r h0_module_r h0_spare_r mm h0_cursor h0_limit blk stk h0_top hgt lab ous kis los h0_depth h0_function mem h0_pages glo val h0_valueTop ffu fre fba fla h0_frames lat lhe h0_labelTop h0_steps h0_there rsl h0_resultLength h0_reason h0_place arg h0_argumentCount h0_code val cval gval) sz)) (va_A (wz_371 h0 rf tap h0_taped h0_length h0_kind h0_from h0_to h0_word h0_numeral h0_globalNames_r h0_globalPlaces_r h0_globalTypes_r h0_globalValues_r h0_globalCount h0_funs_r h0_funCount h0_open h0_signs h0_levels_r h0_now h0_known_r h0_knownCount h0_loops mad h0_madeLength mag h0_smalls_r h0_greats_r h0_module_r h0_spare_r mm h0_cursor h0_limit blk stk h0_top hgt lab ous kis los h0_depth h0_function mem h0_pages glo val h0_valueTop ffu fre fba fla h0_frames lat lhe h0_labelTop h0_steps h0_there rsl h0_resultLength h0_reason h0_place arg h0_argumentCount h0_code val cval gval) sz)) 0 0 (va_A (wz_371 h0 rf tap h0_taped h0_length h0_kind h0_from h0_to h0_word h0_numeral h0_globalNames_r h0_globalPlaces_r h0_globalTypes_r h0_globalValues_r h0_globalCount h0_funs_r h0_funCount h0_open h0_signs h0_levels_r h0_now h0_known_r h0_knownCount h0_loops mad h0_madeLength mag h0_smalls_r h0_greats_r h0_module_r h0_spare_r mm h0_cursor h0_limit blk stk h0_top hgt lab ous kis los h0_depth h0_function mem h0_pages glo val h0_valueTop ffu fre fba fla h0_frames lat lhe h0_labelTop h0_steps h0_there rsl h0_resultLength h0_reason h0_place arg h0_argumentCount h0_code val cval gval) sz) := by
  refine Met.ofW (cc := b_MD_popValue) (maxL := 1) (ret := (Option.some .long)) (by decide) rfl ?_
  intro p e s m args below meth c s₁ B hml hv
  obtain ⟨rfl, hsz, hP, hK, hD0, hSW⟩ := hv
  have hx := B.exec
  have hb := B.bytes
  have hr := B.returns
  have hts0 := atoms_spec (ws := w_MD_popValue) B.pre
  have hts : ∀ w ∈ lw_g, w.before _ s = true := fun w h => hts0 w (List.mem_cons_of_mem _ h)
  have hown : s.vm.findClass R_MD = some m.cls := findClass_of_methodNamed B.named
  have hlocks := B.notSynchronized
  clear hts0
  subst hsz
  have hD := hD0.self (sz := s.heap.size)
  generalize hAe : va_A (wz_371 h0 rf tap h0_taped h0_length h0_kind h0_from h0_to h0_word h0_numeral h0_globalNames_r h0_globalPlaces_r h0_globalTypes_r h0_globalValues_r h0_globalCount h0_funs_r h0_funCount h0_open h0_signs h0_levels_r h0_now h0_known_r h0_knownCount h0_loops mad h0_madeLength mag h0_smalls_r h0_greats_r h0_module_r h0_spare_r mm h0_cursor h0_limit blk stk h0_top hgt lab ous kis los h0_depth h0_function mem h0_pages glo val h0_valueTop ffu fre fba fla h0_frames lat lhe h0_labelTop h0_steps h0_there rsl h0_resultLength h0_reason h0_place arg h0_argumentCount h0_code val cval gval) s.heap.size = A at hD ⊢
  have hA : ∀ q : Nat, s.heap.size ≤ q → A q := fun q h => by rw [← hAe]; exact Or.inr h
  clear hAe
  have hP : va_P (dC, dI) cls2 (wz_371 h0 rf tap h0_taped h0_length h0_kind h0_from h0_to h0_word h0_numeral h0_globalNames_r h0_globalPlaces_r h0_globalTypes_r h0_globalValues_r h0_globalCount h0_funs_r h0_funCount h0_open h0_signs h0_levels_r h0_now h0_known_r h0_knownCount h0_loops mad h0_madeLength mag h0_smalls_r h0_greats_r h0_module_r h0_spare_r mm h0_cursor h0_limit blk stk h0_top hgt lab ous kis los h0_depth h0_function mem h0_pages glo val h0_valueTop ffu fre fba fla h0_frames lat lhe h0_labelTop h0_steps h0_there rsl h0_resultLength h0_reason h0_place arg h0_argumentCount h0_code val cval gval) s.heap := hP
  have hl := lv_entry ([.ref h0]) (n := 1) (Nat.le_of_ble_eq_true rfl)
  rw [lg_entry_eq]
  generalize (lg_sl ([.ref h0]) ++ List.replicate (1 - (lg_sl ([.ref h0])).length) Slot.unset).toArray = ls at hl ⊢
  have hl : lv_has ls 1 [(0, .ref h0)] := hl
  have k0 : (0 : Int32).toInt = 0 := by decide
  refine w_gen (A := A) hP (fun H locs hP hS => ?_)
  have k1 : (1 : Int32).toInt = 1 := by decide
  have zv := i32_clamp (x := h0_valueTop) (by (first | (apply Int.le_antisymm <;> omega) | omega))
  refine lv_aload_n hx hb d_MD_popValue_0 rfl (lv_at hl 0 rfl) ?_
  refine lv_dup hx hb d_MD_popValue_1 rfl ?_
  refine va_get (D := (dC, dI)) (ci := 11) (v := .int h0_valueTop) (C := R_MD) (T := F_MD) (N := 65) hx hb hts i_MD hown hK hP 0 rfl rfl 47 (by decide) (hts _ kF_MD_703) (fun _ h9 => h9) rfl d_MD_popValue_2 ?_
  refine lv_iconst (v := 1) hx hb d_MD_popValue_5 (by decide) ?_
  refine lv_isub hx hb d_MD_popValue_6 ?_
  refine lv_topi (fun x1 ex1 => ?_)
  have tx1 : x1.toInt = h0_valueTop.toInt - 1 := by have z := i32_sub ex1 (by (first | (apply Int.le_antisymm <;> omega) | omega)) (by (first | (apply Int.le_antisymm <;> omega) | omega)); first | exact z | (first | (apply Int.le_antisymm <;> omega) | omega)
  refine va_put (D := (dC, dI)) (ci := 11) (v := .int x1) (ty := .int) (C := R_MD) (T := F_MD) (N := 65) hx hb hts i_MD t_MD t_MD_ok n_MD hown hK hP hD hS 0 rfl rfl 47 (by decide) (hts _ kF_MD_703) (fun _ h9 => h9) rfl (by decide +kernel) rfl rfl (Nat.le_of_ble_eq_true rfl) d_MD_popValue_7 (fun H locs hP hD hS => ?_)
  refine lv_aload_n hx hb d_MD_popValue_10 rfl (lv_at hl 0 rfl) ?_
  refine va_get (D := (dC, dI)) (ci := 11) (v := .ref val) (C := R_MD) (T := F_MD) (N := 65) hx hb hts i_MD hown hK hP 0 rfl rfl 46 (by decide) (hts _ kF_MD_710) (fun _ h9 => h9) rfl d_MD_popValue_11 ?_
  refine lv_aload_n hx hb d_MD_popValue_14 rfl (lv_at hl 0 rfl) ?_
  refine va_get (D := (dC, dI)) (ci := 11) (v := .int x1) (C := R_MD) (T := F_MD) (N := 65) hx hb hts i_MD hown hK hP 0 rfl rfl 47 (by decide) (hts _ kF_MD_703) (fun _ h9 => h9) rfl d_MD_popValue_15 ?_
  have g18 : vp_in x1 12097 := vp_in_iff.mpr ⟨by (first | (apply Int.le_antisymm <;> omega) | omega), by (first | (apply Int.le_antisymm <;> omega) | omega)⟩
  refine va_lald hx hb hK hP 1 0 rfl rfl g18 d_MD_popValue_18 ?_
  refine lv_topl (fun x2 ex2 => ?_)
  have hP9 := hP.sb (wq := (wz_371 h0 rf tap h0_taped h0_length h0_kind h0_from h0_to h0_word h0_numeral h0_globalNames_r h0_globalPlaces_r h0_globalTypes_r h0_globalValues_r h0_globalCount h0_funs_r h0_funCount h0_open h0_signs h0_levels_r h0_now h0_known_r h0_knownCount h0_loops mad h0_madeLength mag h0_smalls_r h0_greats_r h0_module_r h0_spare_r mm h0_cursor h0_limit blk stk h0_top hgt lab ous kis los h0_depth h0_function mem h0_pages glo val x1 ffu fre fba fla h0_frames lat lhe h0_labelTop h0_steps h0_there rsl h0_resultLength h0_reason h0_place arg h0_argumentCount h0_code val cval gval)) [0, 1] rfl
  have hD9 := hD.sb (wq := (wz_371 h0 rf tap h0_taped h0_length h0_kind h0_from h0_to h0_word h0_numeral h0_globalNames_r h0_globalPlaces_r h0_globalTypes_r h0_globalValues_r h0_globalCount h0_funs_r h0_funCount h0_open h0_signs h0_levels_r h0_now h0_known_r h0_knownCount h0_loops mad h0_madeLength mag h0_smalls_r h0_greats_r h0_module_r h0_spare_r mm h0_cursor h0_limit blk stk h0_top hgt lab ous kis los h0_depth h0_function mem h0_pages glo val x1 ffu fre fba fla h0_frames lat lhe h0_labelTop h0_steps h0_there rsl h0_resultLength h0_reason h0_place arg h0_argumentCount h0_code val cval gval)) [0, 1] (by decide) rfl
  exact W.lret (v := x2) hx hb hr (fun t ht hW => ⟨⟨x2, x1, rfl, ⟨by (try dsimp only) <;> (first | (apply Int.le_antisymm <;> omega) | omega), ⟨by (try dsimp only) <;> (first | (apply Int.le_antisymm <;> omega) | omega), by rw [ex2, show x1.toNatClampNeg = (h0_valueTop.toInt - 1).toNat from clampN (by (first | (apply Int.le_antisymm <;> omega) | omega))]⟩⟩, va_P.he ht.symm hP9, va_K.moved hW.alike hK, hD9⟩, hS.F ht⟩) hS.2.2 d_MD_popValue_19
abbrev b_MD_enterBlock : ByteArray := prog_15_method_90_code
def y_MD_enterBlock : MethodName := ⟨R_MD, "enterBlock", "(I)V"⟩
abbrev w_MD_enterBlock : List Cond := .code y_MD_enterBlock b_MD_enterBlock 2 none :: lw_g
theorem kC_MD_enterBlock : Cond.code y_MD_enterBlock b_MD_enterBlock 2 none ∈ lw_g := in_c13 160 rfl rfl
theorem d_MD_enterBlock_0 : decode b_MD_enterBlock 0 = .ok (.aload_n 0, 1) := bz_c42 (by decide +kernel)
theorem d_MD_enterBlock_1 : decode b_MD_enterBlock 1 = .ok (.getfield 734, 3) := bz_c180 (by decide +kernel)
theorem d_MD_enterBlock_4 : decode b_MD_enterBlock 4 = .ok (.aload_n 0, 1) := bz_c42 (by decide +kernel)
theorem d_MD_enterBlock_5 : decode b_MD_enterBlock 5 = .ok (.getfield 731, 3) := bz_c180 (by decide +kernel)
theorem d_MD_enterBlock_8 : decode b_MD_enterBlock 8 = .ok (.iload_n 1, 1) := bz_c27 (by decide +kernel)
theorem d_MD_enterBlock_9 : decode b_MD_enterBlock 9 = .ok (.iastore, 1) := bz_c79 (by decide +kernel)
theorem d_MD_enterBlock_10 : decode b_MD_enterBlock 10 = .ok (.aload_n 0, 1) := bz_c42 (by decide +kernel)
theorem d_MD_enterBlock_11 : decode b_MD_enterBlock 11 = .ok (.getfield 737, 3) := bz_c180 (by decide +kernel)
theorem d_MD_enterBlock_14 : decode b_MD_enterBlock 14 = .ok (.aload_n 0, 1) := bz_c42 (by decide +kernel)
theorem d_MD_enterBlock_15 : decode b_MD_enterBlock 15 = .ok (.getfield 731, 3) := bz_c180 (by decide +kernel)
theorem d_MD_enterBlock_18 : decode b_MD_enterBlock 18 = .ok (.aload_n 0, 1) := bz_c42 (by decide +kernel)
theorem d_MD_enterBlock_19 : decode b_MD_enterBlock 19 = .ok (.getfield 703, 3) := bz_c180 (by decide +kernel)
theorem d_MD_enterBlock_22 : decode b_MD_enterBlock 22 = .ok (.iastore, 1) := bz_c79 (by decide +kernel)
theorem d_MD_enterBlock_23 : decode b_MD_enterBlock 23 = .ok (.aload_n 0, 1) := bz_c42 (by decide +kernel)
theorem d_MD_enterBlock_24 : decode b_MD_enterBlock 24 = .ok (.dup, 1) := bz_c89 (by decide +kernel)
theorem d_MD_enterBlock_25 : decode b_MD_enterBlock 25 = .ok (.getfield 731, 3) := bz_c180 (by decide +kernel)
theorem d_MD_enterBlock_28 : decode b_MD_enterBlock 28 = .ok (.iconst 1, 1) := bz_c4 (by decide +kernel)
theorem d_MD_enterBlock_29 : decode b_MD_enterBlock 29 = .ok (.iadd, 1) := bz_c96 (by decide +kernel)
theorem d_MD_enterBlock_30 : decode b_MD_enterBlock 30 = .ok (.putfield 731, 3) := bz_c181 (by decide +kernel)
theorem d_MD_enterBlock_33 : decode b_MD_enterBlock 33 = .ok (.return_, 1) := bz_c177 (by decide +kernel)
theorem kF_MD_734 : Cond.fieldLink R_MD 734 "WaferForgeModel" "labelAt" "[I" ∈ lw_g := in_c9 34 rfl rfl
theorem kF_MD_731 : Cond.fieldLink R_MD 731 "WaferForgeModel" "labelTop" "I" ∈ lw_g := in_c9 36 rfl rfl
theorem kF_MD_737 : Cond.fieldLink R_MD 737 "WaferForgeModel" "labelHeight" "[I" ∈ lw_g := in_c9 35 rfl rfl
abbrev at_MD_enterBlock (dC : Nat → ClassId) (dI : Nat → Nat → Nat) (h0 rf tap h0_globalNames_r h0_globalPlaces_r h0_globalTypes_r h0_globalValues_r h0_funs_r h0_levels_r h0_known_r mad mag h0_smalls_r h0_greats_r h0_module_r h0_spare_r mm blk stk hgt lab ous kis los mem glo val ffu fre fba fla lat lhe rsl arg : Nat) (clat clhe : ClassId) (h0_taped : Int32) (h0_length : Int32) (h0_kind : Int32) (h0_from : Int32) (h0_to : Int32) (h0_word : Value) (h0_numeral : Int64) (h0_globalCount : Int32) (h0_funCount : Int32) (h0_open : Int32) (h0_signs : Int32) (h0_now : Value) (h0_knownCount : Int32) (h0_loops : Int32) (h0_madeLength : Int32) (h0_cursor : Int32) (h0_limit : Int32) (h0_top : Int32) (h0_depth : Int32) (h0_function : Int32) (h0_pages : Int32) (h0_valueTop : Int32) (h0_frames : Int32) (h0_steps : Int32) (h0_there : Int32) (h0_resultLength : Int32) (h0_reason : Int32) (h0_place : Int32) (h0_argumentCount : Int32) (h0_code : Int32) (A : Nat → Prop) (u : (Nat → Int32) × (Nat → Int32) × Int32) (t : State) : Prop := match u with | (glat, glhe, h0_labelTop) => va_P (dC, dI) cls2 (wz_372 h0 rf tap h0_taped h0_length h0_kind h0_from h0_to h0_word h0_numeral h0_globalNames_r h0_globalPlaces_r h0_globalTypes_r h0_globalValues_r h0_globalCount h0_funs_r h0_funCount h0_open h0_signs h0_levels_r h0_now h0_known_r h0_knownCount h0_loops mad h0_madeLength mag h0_smalls_r h0_greats_r h0_module_r h0_spare_r mm h0_cursor h0_limit blk stk h0_top hgt lab ous kis los h0_depth h0_function mem h0_pages glo val h0_valueTop ffu fre fba fla h0_frames lat lhe h0_labelTop h0_steps h0_there rsl h0_resultLength h0_reason h0_place arg h0_argumentCount h0_code lat clat glat lhe clhe glhe) t.heap ∧ va_K (dC, dI) cls2 [(clat, .int), (clhe, .int)] t ∧ va_D A (wz_372 h0 rf tap h0_taped h0_length h0_kind h0_from h0_to h0_word h0_numeral h0_globalNames_r h0_globalPlaces_r h0_globalTypes_r h0_globalValues_r h0_globalCount h0_funs_r h0_funCount h0_open h0_signs h0_levels_r h0_now h0_known_r h0_knownCount h0_loops mad h0_madeLength mag h0_smalls_r h0_greats_r h0_module_r h0_spare_r mm h0_cursor h0_limit blk stk h0_top hgt lab ous kis los h0_depth h0_function mem h0_pages glo val h0_valueTop ffu fre fba fla h0_frames lat lhe h0_labelTop h0_steps h0_there rsl h0_resultLength h0_reason h0_place arg h0_argumentCount h0_code lat clat glat lhe clhe glhe)
set_option maxHeartbeats 4000000 in
set_option maxRecDepth 100000 in
theorem c_MD_enterBlock (l : Launch) (dC : Nat → ClassId) (dI : Nat → Nat → Nat) (sz : Nat) (h0 rf tap h0_globalNames_r h0_globalPlaces_r h0_globalTypes_r h0_globalValues_r h0_funs_r h0_levels_r h0_known_r mad mag h0_smalls_r h0_greats_r h0_module_r h0_spare_r mm blk stk hgt lab ous kis los mem glo val ffu fre fba fla lat lhe rsl arg : Nat) (clat clhe : ClassId) (h0_taped : Int32) (h0_length : Int32) (h0_kind : Int32) (h0_from : Int32) (h0_to : Int32) (h0_word : Value) (h0_numeral : Int64) (h0_globalCount : Int32) (h0_funCount : Int32) (h0_open : Int32) (h0_signs : Int32) (h0_now : Value) (h0_knownCount : Int32) (h0_loops : Int32) (h0_madeLength : Int32) (h0_cursor : Int32) (h0_limit : Int32) (h0_top : Int32) (h0_depth : Int32) (h0_function : Int32) (h0_pages : Int32) (h0_valueTop : Int32) (h0_frames : Int32) (h0_labelTop : Int32) (h0_steps : Int32) (h0_there : Int32) (h0_resultLength : Int32) (h0_reason : Int32) (h0_place : Int32) (h0_argumentCount : Int32) (h0_code : Int32) (glat : Nat → Int32) (glhe : Nat → Int32)  (b_h0_valueTop : 0 ≤ h0_valueTop.toInt ∧ h0_valueTop.toInt ≤ 12096) (b_h0_labelTop : 0 ≤ h0_labelTop.toInt ∧ h0_labelTop.toInt ≤ 24000) (b_glhe : ∀ j : Nat, 0 ≤ (glhe j).toInt ∧ (glhe j).toInt ≤ 12096) (p0 : Int32)  (hl9 : h0_labelTop.toInt < 24000) : Met l y_MD_enterBlock w_MD_enterBlock ({ frames := 0, cells := 0, slots := 0, locals := 0 }) (va_Pc [.ref h0, .int p0] (fun U => U.heap.size = sz ∧ va_P (dC, dI) cls2 (wz_372 h0 rf tap h0_taped h0_length h0_kind h0_from h0_to h0_word h0_numeral h0_globalNames_r h0_globalPlaces_r h0_globalTypes_r h0_globalValues_r h0_globalCount h0_funs_r h0_funCount h0_open h0_signs h0_levels_r h0_now h0_known_r h0_knownCount h0_loops mad h0_madeLength mag h0_smalls_r h0_greats_r h0_module_r h0_spare_r mm h0_cursor h0_limit blk stk h0_top hgt lab ous kis los h0_depth h0_function mem h0_pages glo val h0_valueTop ffu fre fba fla h0_frames lat lhe h0_labelTop h0_steps h0_there rsl h0_resultLength h0_reason h0_place arg h0_argumentCount h0_code lat clat glat lhe clhe glhe) U.heap ∧ va_K (dC, dI) cls2 [(clat, .int), (clhe, .int)] U ∧ va_D (fun _ => True) (wz_372 h0 rf tap h0_taped h0_length h0_kind h0_from h0_to h0_word h0_numeral h0_globalNames_r h0_globalPlaces_r h0_globalTypes_r h0_globalValues_r h0_globalCount h0_funs_r h0_funCount h0_open h0_signs h0_levels_r h0_now h0_known_r h0_knownCount h0_loops mad h0_madeLength mag h0_smalls_r h0_greats_r h0_module_r h0_spare_r mm h0_cursor h0_limit blk stk h0_top hgt lab ous kis los h0_depth h0_function mem h0_pages glo val h0_valueTop ffu fre fba fla h0_frames lat lhe h0_labelTop h0_steps h0_there rsl h0_resultLength h0_reason h0_place arg h0_argumentCount h0_code lat clat glat lhe clhe glhe) ∧ sw_nest U)) (va_Qv (fun (u : (Nat → Int32) × (Nat → Int32) × Int32) => match u with | (glat2, glhe2, h0_labelTop2) => (∀ j : Nat, 0 ≤ (glhe2 j).toInt ∧ (glhe2 j).toInt ≤ 12096) ∧ (0 ≤ h0_labelTop2.toInt ∧ h0_labelTop2.toInt ≤ 24000) ∧ (h0_labelTop2.toInt = h0_labelTop.toInt + 1 ∧ glat2 = upd glat h0_labelTop.toNatClampNeg p0 ∧ glhe2 = upd glhe h0_labelTop.toNatClampNeg h0_valueTop)) (at_MD_enterBlock dC dI h0 rf tap h0_globalNames_r h0_globalPlaces_r h0_globalTypes_r h0_globalValues_r h0_funs_r h0_levels_r h0_known_r mad mag h0_smalls_r h0_greats_r h0_module_r h0_spare_r mm blk stk hgt lab ous kis los mem glo val ffu fre fba fla lat lhe rsl arg clat clhe h0_taped h0_length h0_kind h0_from h0_to h0_word h0_numeral h0_globalCount h0_funCount h0_open h0_signs h0_now h0_knownCount h0_loops h0_madeLength h0_cursor h0_limit h0_top h0_depth h0_function h0_pages h0_valueTop h0_frames h0_steps h0_there h0_resultLength h0_reason h0_place h0_argumentCount h0_code (va_A (wz_372 h0 rf tap h0_taped h0_length h0_kind h0_from h0_to h0_word h0_numeral h0_globalNames_r h0_globalPlaces_r h0_globalTypes_r h0_globalValues_r h0_globalCount h0_funs_r h0_funCount h0_open h0_signs h0_levels_r h0_now h0_known_r h0_knownCount h0_loops mad h0_madeLength mag h0_smalls_r h0_greats_r h0_module_r h0_spare_r mm h0_cursor h0_limit blk stk h0_top hgt lab ous kis los h0_depth h0_function mem h0_pages glo val h0_valueTop ffu fre fba fla h0_frames lat lhe h0_labelTop h0_steps h0_there rsl h0_resultLength h0_reason h0_place arg h0_argumentCount h0_code lat clat glat lhe clhe glhe) sz)) (va_A (wz_372 h0 rf tap h0_taped h0_length h0_kind h0_from h0_to h0_word h0_numeral h0_globalNames_r h0_globalPlaces_r h0_globalTypes_r h0_globalValues_r h0_globalCount h0_funs_r h0_funCount h0_open h0_signs h0_levels_r h0_now h0_known_r h0_knownCount h0_loops mad h0_madeLength mag h0_smalls_r h0_greats_r h0_module_r h0_spare_r mm h0_cursor h0_limit blk stk h0_top hgt lab ous kis los h0_depth h0_function mem h0_pages glo val h0_valueTop ffu fre fba fla h0_frames lat lhe h0_labelTop h0_steps h0_there rsl h0_resultLength h0_reason h0_place arg h0_argumentCount h0_code lat clat glat lhe clhe glhe) sz)) 0 0 (va_A (wz_372 h0 rf tap h0_taped h0_length h0_kind h0_from h0_to h0_word h0_numeral h0_globalNames_r h0_globalPlaces_r h0_globalTypes_r h0_globalValues_r h0_globalCount h0_funs_r h0_funCount h0_open h0_signs h0_levels_r h0_now h0_known_r h0_knownCount h0_loops mad h0_madeLength mag h0_smalls_r h0_greats_r h0_module_r h0_spare_r mm h0_cursor h0_limit blk stk h0_top hgt lab ous kis los h0_depth h0_function mem h0_pages glo val h0_valueTop ffu fre fba fla h0_frames lat lhe h0_labelTop h0_steps h0_there rsl h0_resultLength h0_reason h0_place arg h0_argumentCount h0_code lat clat glat lhe clhe glhe) sz) := by
  refine Met.ofW (cc := b_MD_enterBlock) (maxL := 2) (ret := none) (by decide) rfl ?_
  intro p e s m args below meth c s₁ B hml hv
  obtain ⟨rfl, hsz, hP, hK, hD0, hSW⟩ := hv
  have hx := B.exec
  have hb := B.bytes
  have hr := B.returns
  have hts0 := atoms_spec (ws := w_MD_enterBlock) B.pre
  have hts : ∀ w ∈ lw_g, w.before _ s = true := fun w h => hts0 w (List.mem_cons_of_mem _ h)
  have hown : s.vm.findClass R_MD = some m.cls := findClass_of_methodNamed B.named
  have hlocks := B.notSynchronized
  clear hts0
  subst hsz
  have hD := hD0.self (sz := s.heap.size)
  generalize hAe : va_A (wz_372 h0 rf tap h0_taped h0_length h0_kind h0_from h0_to h0_word h0_numeral h0_globalNames_r h0_globalPlaces_r h0_globalTypes_r h0_globalValues_r h0_globalCount h0_funs_r h0_funCount h0_open h0_signs h0_levels_r h0_now h0_known_r h0_knownCount h0_loops mad h0_madeLength mag h0_smalls_r h0_greats_r h0_module_r h0_spare_r mm h0_cursor h0_limit blk stk h0_top hgt lab ous kis los h0_depth h0_function mem h0_pages glo val h0_valueTop ffu fre fba fla h0_frames lat lhe h0_labelTop h0_steps h0_there rsl h0_resultLength h0_reason h0_place arg h0_argumentCount h0_code lat clat glat lhe clhe glhe) s.heap.size = A at hD ⊢
  have hA : ∀ q : Nat, s.heap.size ≤ q → A q := fun q h => by rw [← hAe]; exact Or.inr h
  clear hAe
  have hP : va_P (dC, dI) cls2 (wz_372 h0 rf tap h0_taped h0_length h0_kind h0_from h0_to h0_word h0_numeral h0_globalNames_r h0_globalPlaces_r h0_globalTypes_r h0_globalValues_r h0_globalCount h0_funs_r h0_funCount h0_open h0_signs h0_levels_r h0_now h0_known_r h0_knownCount h0_loops mad h0_madeLength mag h0_smalls_r h0_greats_r h0_module_r h0_spare_r mm h0_cursor h0_limit blk stk h0_top hgt lab ous kis los h0_depth h0_function mem h0_pages glo val h0_valueTop ffu fre fba fla h0_frames lat lhe h0_labelTop h0_steps h0_there rsl h0_resultLength h0_reason h0_place arg h0_argumentCount h0_code lat clat glat lhe clhe glhe) s.heap := hP
  have hl := lv_entry ([.ref h0, .int p0]) (n := 2) (Nat.le_of_ble_eq_true rfl)
  rw [lg_entry_eq]
  generalize (lg_sl ([.ref h0, .int p0]) ++ List.replicate (2 - (lg_sl ([.ref h0, .int p0])).length) Slot.unset).toArray = ls at hl ⊢
  have hl : lv_has ls 2 [(0, .ref h0), (1, .int p0)] := hl
  have k0 : (0 : Int32).toInt = 0 := by decide
  refine w_gen (A := A) hP (fun H locs hP hS => ?_)
  have k1 : (1 : Int32).toInt = 1 := by decide
  have lo_p0 := i32_lo p0
  have hi_p0 := i32_hi p0
  refine lv_aload_n hx hb d_MD_enterBlock_0 rfl (lv_at hl 0 rfl) ?_
  refine va_get (D := (dC, dI)) (ci := 11) (v := .ref lat) (C := R_MD) (T := F_MD) (N := 65) hx hb hts i_MD hown hK hP 0 rfl rfl 53 (by decide) (hts _ kF_MD_734) (fun _ h9 => h9) rfl d_MD_enterBlock_1 ?_
  refine lv_aload_n hx hb d_MD_enterBlock_4 rfl (lv_at hl 0 rfl) ?_
  refine va_get (D := (dC, dI)) (ci := 11) (v := .int h0_labelTop) (C := R_MD) (T := F_MD) (N := 65) hx hb hts i_MD hown hK hP 0 rfl rfl 55 (by decide) (hts _ kF_MD_731) (fun _ h9 => h9) rfl d_MD_enterBlock_5 ?_
  refine lv_iload_n hx hb d_MD_enterBlock_8 rfl (lv_at hl 1 rfl) ?_
  have g9 : vp_in h0_labelTop 24000 := vp_in_iff.mpr ⟨by (first | (apply Int.le_antisymm <;> omega) | omega), by (first | (apply Int.le_antisymm <;> omega) | omega)⟩
  refine va_iast hx hb hK hP hD hS 1 0 rfl rfl g9 d_MD_enterBlock_9 (fun H locs hP hD hS => ?_)
  generalize ef1 : upd glat h0_labelTop.toNatClampNeg p0 = f1 at hP hD
  refine lv_aload_n hx hb d_MD_enterBlock_10 rfl (lv_at hl 0 rfl) ?_
  refine va_get (D := (dC, dI)) (ci := 11) (v := .ref lhe) (C := R_MD) (T := F_MD) (N := 65) hx hb hts i_MD hown hK hP 0 rfl rfl 54 (by decide) (hts _ kF_MD_737) (fun _ h9 => h9) rfl d_MD_enterBlock_11 ?_
  refine lv_aload_n hx hb d_MD_enterBlock_14 rfl (lv_at hl 0 rfl) ?_
  refine va_get (D := (dC, dI)) (ci := 11) (v := .int h0_labelTop) (C := R_MD) (T := F_MD) (N := 65) hx hb hts i_MD hown hK hP 0 rfl rfl 55 (by decide) (hts _ kF_MD_731) (fun _ h9 => h9) rfl d_MD_enterBlock_15 ?_
  refine lv_aload_n hx hb d_MD_enterBlock_18 rfl (lv_at hl 0 rfl) ?_
  refine va_get (D := (dC, dI)) (ci := 11) (v := .int h0_valueTop) (C := R_MD) (T := F_MD) (N := 65) hx hb hts i_MD hown hK hP 0 rfl rfl 47 (by decide) (hts _ kF_MD_703) (fun _ h9 => h9) rfl d_MD_enterBlock_19 ?_
  have g22 : vp_in h0_labelTop 24000 := vp_in_iff.mpr ⟨by (first | (apply Int.le_antisymm <;> omega) | omega), by (first | (apply Int.le_antisymm <;> omega) | omega)⟩
  refine va_iast hx hb hK hP hD hS 2 1 rfl rfl g22 d_MD_enterBlock_22 (fun H locs hP hD hS => ?_)
  generalize ef2 : upd glhe h0_labelTop.toNatClampNeg h0_valueTop = f2 at hP hD
  have b_f2 : ∀ j : Nat, 0 ≤ (f2 j).toInt ∧ (f2 j).toInt ≤ 12096 := by rw [← ef2]; exact upd_b b_glhe (b_h0_valueTop)
  refine lv_aload_n hx hb d_MD_enterBlock_23 rfl (lv_at hl 0 rfl) ?_
  refine lv_dup hx hb d_MD_enterBlock_24 rfl ?_
  refine va_get (D := (dC, dI)) (ci := 11) (v := .int h0_labelTop) (C := R_MD) (T := F_MD) (N := 65) hx hb hts i_MD hown hK hP 0 rfl rfl 55 (by decide) (hts _ kF_MD_731) (fun _ h9 => h9) rfl d_MD_enterBlock_25 ?_
  refine lv_iconst (v := 1) hx hb d_MD_enterBlock_28 (by decide) ?_
  refine lv_iadd hx hb d_MD_enterBlock_29 ?_
  refine lv_topi (fun x3 ex3 => ?_)
  have tx3 : x3.toInt = h0_labelTop.toInt + 1 := by have z := i32_add ex3 (by (first | (apply Int.le_antisymm <;> omega) | omega)) (by (first | (apply Int.le_antisymm <;> omega) | omega)); first | exact z | (first | (apply Int.le_antisymm <;> omega) | omega)
  refine va_put (D := (dC, dI)) (ci := 11) (v := .int x3) (ty := .int) (C := R_MD) (T := F_MD) (N := 65) hx hb hts i_MD t_MD t_MD_ok n_MD hown hK hP hD hS 0 rfl rfl 55 (by decide) (hts _ kF_MD_731) (fun _ h9 => h9) rfl (by decide +kernel) rfl rfl (Nat.le_of_ble_eq_true rfl) d_MD_enterBlock_30 (fun H locs hP hD hS => ?_)
  have hP9 := hP.sb (wq := (wz_372 h0 rf tap h0_taped h0_length h0_kind h0_from h0_to h0_word h0_numeral h0_globalNames_r h0_globalPlaces_r h0_globalTypes_r h0_globalValues_r h0_globalCount h0_funs_r h0_funCount h0_open h0_signs h0_levels_r h0_now h0_known_r h0_knownCount h0_loops mad h0_madeLength mag h0_smalls_r h0_greats_r h0_module_r h0_spare_r mm h0_cursor h0_limit blk stk h0_top hgt lab ous kis los h0_depth h0_function mem h0_pages glo val h0_valueTop ffu fre fba fla h0_frames lat lhe x3 h0_steps h0_there rsl h0_resultLength h0_reason h0_place arg h0_argumentCount h0_code lat clat f1 lhe clhe f2)) [0, 1, 2] rfl
  have hD9 := hD.sb (wq := (wz_372 h0 rf tap h0_taped h0_length h0_kind h0_from h0_to h0_word h0_numeral h0_globalNames_r h0_globalPlaces_r h0_globalTypes_r h0_globalValues_r h0_globalCount h0_funs_r h0_funCount h0_open h0_signs h0_levels_r h0_now h0_known_r h0_knownCount h0_loops mad h0_madeLength mag h0_smalls_r h0_greats_r h0_module_r h0_spare_r mm h0_cursor h0_limit blk stk h0_top hgt lab ous kis los h0_depth h0_function mem h0_pages glo val h0_valueTop ffu fre fba fla h0_frames lat lhe x3 h0_steps h0_there rsl h0_resultLength h0_reason h0_place arg h0_argumentCount h0_code lat clat f1 lhe clhe f2)) [0, 1, 2] (by decide) rfl
  exact W.vret hx hb hr (fun t ht hW => ⟨⟨(f1, f2, x3), rfl, ⟨b_f2, by (try dsimp only) <;> (first | (apply Int.le_antisymm <;> omega) | omega), ⟨by (try dsimp only) <;> (first | (apply Int.le_antisymm <;> omega) | omega), by first | rfl | exact ef1.symm, by first | rfl | exact ef2.symm⟩⟩, va_P.he ht.symm hP9, va_K.moved hW.alike hK, hD9⟩, hS.F ht⟩) hS.2.2 d_MD_enterBlock_33
abbrev b_MD_blockType : ByteArray := prog_15_method_86_code
def y_MD_blockType : MethodName := ⟨R_MD, "blockType", "(I)I"⟩
abbrev w_MD_blockType : List Cond := .code y_MD_blockType b_MD_blockType 2 (Option.some .int) :: lw_g
theorem kC_MD_blockType : Cond.code y_MD_blockType b_MD_blockType 2 (Option.some .int) ∈ lw_g := in_c13 168 rfl rfl
theorem d_MD_blockType_0 : decode b_MD_blockType 0 = .ok (.aload_n 0, 1) := bz_c42 (by decide +kernel)
theorem d_MD_blockType_1 : decode b_MD_blockType 1 = .ok (.getfield 492, 3) := bz_c180 (by decide +kernel)
theorem d_MD_blockType_4 : decode b_MD_blockType 4 = .ok (.getfield 496, 3) := bz_c180 (by decide +kernel)
theorem d_MD_blockType_7 : decode b_MD_blockType 7 = .ok (.iload_n 1, 1) := bz_c27 (by decide +kernel)
theorem d_MD_blockType_8 : decode b_MD_blockType 8 = .ok (.iconst 1, 1) := bz_c4 (by decide +kernel)
theorem d_MD_blockType_9 : decode b_MD_blockType 9 = .ok (.iadd, 1) := bz_c96 (by decide +kernel)
theorem d_MD_blockType_10 : decode b_MD_blockType 10 = .ok (.baload, 1) := bz_c51 (by decide +kernel)
theorem d_MD_blockType_11 : decode b_MD_blockType 11 = .ok (.sipush 255, 3) := bz_c17 (by decide +kernel)
theorem d_MD_blockType_14 : decode b_MD_blockType 14 = .ok (.iand, 1) := bz_c126 (by decide +kernel)
theorem d_MD_blockType_15 : decode b_MD_blockType 15 = .ok (.ireturn, 1) := bz_c172 (by decide +kernel)
abbrev at_MD_blockType (dC : Nat → ClassId) (dI : Nat → Nat → Nat) (h0 rf tap h0_globalNames_r h0_globalPlaces_r h0_globalTypes_r h0_globalValues_r h0_funs_r h0_levels_r h0_known_r mad mag h0_smalls_r h0_greats_r h0_module_r h0_spare_r mm blk stk hgt lab ous kis los mem glo val ffu fre fba fla lat lhe rsl arg mby mpc mm_parameterTypes_r mre mto mca mce mlc mm_localTypes_r mgt mgk mgc mst mek meo mna mnl men mel : Nat) (cmby : ClassId) (h0_taped : Int32) (h0_length : Int32) (h0_kind : Int32) (h0_from : Int32) (h0_to : Int32) (h0_word : Value) (h0_numeral : Int64) (h0_globalCount : Int32) (h0_funCount : Int32) (h0_open : Int32) (h0_signs : Int32) (h0_now : Value) (h0_knownCount : Int32) (h0_loops : Int32) (h0_madeLength : Int32) (h0_cursor : Int32) (h0_limit : Int32) (h0_top : Int32) (h0_depth : Int32) (h0_function : Int32) (h0_pages : Int32) (h0_valueTop : Int32) (h0_frames : Int32) (h0_labelTop : Int32) (h0_steps : Int32) (h0_there : Int32) (h0_resultLength : Int32) (h0_reason : Int32) (h0_place : Int32) (h0_argumentCount : Int32) (h0_code : Int32) (mm_length : Int32) (mm_types : Int32) (mm_functions : Int32) (mm_codes : Int32) (mm_memories : Int32) (mm_least : Int64) (mm_most : Int64) (mm_hasMost : Int32) (mm_globals : Int32) (mm_exports : Int32) (gmby : Nat → Int32) (A : Nat → Prop) (u : Unit) (t : State) : Prop := match u with | _ => va_P (dC, dI) cls2 (wz_373 h0 rf tap h0_taped h0_length h0_kind h0_from h0_to h0_word h0_numeral h0_globalNames_r h0_globalPlaces_r h0_globalTypes_r h0_globalValues_r h0_globalCount h0_funs_r h0_funCount h0_open h0_signs h0_levels_r h0_now h0_known_r h0_knownCount h0_loops mad h0_madeLength mag h0_smalls_r h0_greats_r h0_module_r h0_spare_r mm h0_cursor h0_limit blk stk h0_top hgt lab ous kis los h0_depth h0_function mem h0_pages glo val h0_valueTop ffu fre fba fla h0_frames lat lhe h0_labelTop h0_steps h0_there rsl h0_resultLength h0_reason h0_place arg h0_argumentCount h0_code mm mby mm_length mm_types mpc mm_parameterTypes_r mre mm_functions mto mm_codes mca mce mlc mm_localTypes_r mm_memories mm_least mm_most mm_hasMost mm_globals mgt mgk mgc mst mm_exports mek meo mna mnl men mel mby cmby gmby) t.heap ∧ va_K (dC, dI) cls2 [(cmby, .byte)] t ∧ va_D A (wz_373 h0 rf tap h0_taped h0_length h0_kind h0_from h0_to h0_word h0_numeral h0_globalNames_r h0_globalPlaces_r h0_globalTypes_r h0_globalValues_r h0_globalCount h0_funs_r h0_funCount h0_open h0_signs h0_levels_r h0_now h0_known_r h0_knownCount h0_loops mad h0_madeLength mag h0_smalls_r h0_greats_r h0_module_r h0_spare_r mm h0_cursor h0_limit blk stk h0_top hgt lab ous kis los h0_depth h0_function mem h0_pages glo val h0_valueTop ffu fre fba fla h0_frames lat lhe h0_labelTop h0_steps h0_there rsl h0_resultLength h0_reason h0_place arg h0_argumentCount h0_code mm mby mm_length mm_types mpc mm_parameterTypes_r mre mm_functions mto mm_codes mca mce mlc mm_localTypes_r mm_memories mm_least mm_most mm_hasMost mm_globals mgt mgk mgc mst mm_exports mek meo mna mnl men mel mby cmby gmby)
set_option maxHeartbeats 4000000 in
set_option maxRecDepth 100000 in
theorem c_MD_blockType (l : Launch) (dC : Nat → ClassId) (dI : Nat → Nat → Nat) (sz : Nat) (h0 rf tap h0_globalNames_r h0_globalPlaces_r h0_globalTypes_r h0_globalValues_r h0_funs_r h0_levels_r h0_known_r mad mag h0_smalls_r h0_greats_r h0_module_r h0_spare_r mm blk stk hgt lab ous kis los mem glo val ffu fre fba fla lat lhe rsl arg mby mpc mm_parameterTypes_r mre mto mca mce mlc mm_localTypes_r mgt mgk mgc mst mek meo mna mnl men mel : Nat) (cmby : ClassId) (h0_taped : Int32) (h0_length : Int32) (h0_kind : Int32) (h0_from : Int32) (h0_to : Int32) (h0_word : Value) (h0_numeral : Int64) (h0_globalCount : Int32) (h0_funCount : Int32) (h0_open : Int32) (h0_signs : Int32) (h0_now : Value) (h0_knownCount : Int32) (h0_loops : Int32) (h0_madeLength : Int32) (h0_cursor : Int32) (h0_limit : Int32) (h0_top : Int32) (h0_depth : Int32) (h0_function : Int32) (h0_pages : Int32) (h0_valueTop : Int32) (h0_frames : Int32) (h0_labelTop : Int32) (h0_steps : Int32) (h0_there : Int32) (h0_resultLength : Int32) (h0_reason : Int32) (h0_place : Int32) (h0_argumentCount : Int32) (h0_code : Int32) (mm_length : Int32) (mm_types : Int32) (mm_functions : Int32) (mm_codes : Int32) (mm_memories : Int32) (mm_least : Int64) (mm_most : Int64) (mm_hasMost : Int32) (mm_globals : Int32) (mm_exports : Int32) (gmby : Nat → Int32)   (p0 : Int32) (ba0 : 0 ≤ p0.toInt ∧ p0.toInt ≤ 32766)  : Met l y_MD_blockType w_MD_blockType ({ frames := 0, cells := 0, slots := 0, locals := 0 }) (va_Pc [.ref h0, .int p0] (fun U => U.heap.size = sz ∧ va_P (dC, dI) cls2 (wz_373 h0 rf tap h0_taped h0_length h0_kind h0_from h0_to h0_word h0_numeral h0_globalNames_r h0_globalPlaces_r h0_globalTypes_r h0_globalValues_r h0_globalCount h0_funs_r h0_funCount h0_open h0_signs h0_levels_r h0_now h0_known_r h0_knownCount h0_loops mad h0_madeLength mag h0_smalls_r h0_greats_r h0_module_r h0_spare_r mm h0_cursor h0_limit blk stk h0_top hgt lab ous kis los h0_depth h0_function mem h0_pages glo val h0_valueTop ffu fre fba fla h0_frames lat lhe h0_labelTop h0_steps h0_there rsl h0_resultLength h0_reason h0_place arg h0_argumentCount h0_code mm mby mm_length mm_types mpc mm_parameterTypes_r mre mm_functions mto mm_codes mca mce mlc mm_localTypes_r mm_memories mm_least mm_most mm_hasMost mm_globals mgt mgk mgc mst mm_exports mek meo mna mnl men mel mby cmby gmby) U.heap ∧ va_K (dC, dI) cls2 [(cmby, .byte)] U ∧ va_D (fun _ => True) (wz_373 h0 rf tap h0_taped h0_length h0_kind h0_from h0_to h0_word h0_numeral h0_globalNames_r h0_globalPlaces_r h0_globalTypes_r h0_globalValues_r h0_globalCount h0_funs_r h0_funCount h0_open h0_signs h0_levels_r h0_now h0_known_r h0_knownCount h0_loops mad h0_madeLength mag h0_smalls_r h0_greats_r h0_module_r h0_spare_r mm h0_cursor h0_limit blk stk h0_top hgt lab ous kis los h0_depth h0_function mem h0_pages glo val h0_valueTop ffu fre fba fla h0_frames lat lhe h0_labelTop h0_steps h0_there rsl h0_resultLength h0_reason h0_place arg h0_argumentCount h0_code mm mby mm_length mm_types mpc mm_parameterTypes_r mre mm_functions mto mm_codes mca mce mlc mm_localTypes_r mm_memories mm_least mm_most mm_hasMost mm_globals mgt mgk mgc mst mm_exports mek meo mna mnl men mel mby cmby gmby) ∧ sw_nest U)) (va_Qi (fun (r : Int32) (u : Unit) => match u with | _ => (r = gmby (p0.toNatClampNeg + 1) &&& 255)) (at_MD_blockType dC dI h0 rf tap h0_globalNames_r h0_globalPlaces_r h0_globalTypes_r h0_globalValues_r h0_funs_r h0_levels_r h0_known_r mad mag h0_smalls_r h0_greats_r h0_module_r h0_spare_r mm blk stk hgt lab ous kis los mem glo val ffu fre fba fla lat lhe rsl arg mby mpc mm_parameterTypes_r mre mto mca mce mlc mm_localTypes_r mgt mgk mgc mst mek meo mna mnl men mel cmby h0_taped h0_length h0_kind h0_from h0_to h0_word h0_numeral h0_globalCount h0_funCount h0_open h0_signs h0_now h0_knownCount h0_loops h0_madeLength h0_cursor h0_limit h0_top h0_depth h0_function h0_pages h0_valueTop h0_frames h0_labelTop h0_steps h0_there h0_resultLength h0_reason h0_place h0_argumentCount h0_code mm_length mm_types mm_functions mm_codes mm_memories mm_least mm_most mm_hasMost mm_globals mm_exports gmby (va_A (wz_373 h0 rf tap h0_taped h0_length h0_kind h0_from h0_to h0_word h0_numeral h0_globalNames_r h0_globalPlaces_r h0_globalTypes_r h0_globalValues_r h0_globalCount h0_funs_r h0_funCount h0_open h0_signs h0_levels_r h0_now h0_known_r h0_knownCount h0_loops mad h0_madeLength mag h0_smalls_r h0_greats_r h0_module_r h0_spare_r mm h0_cursor h0_limit blk stk h0_top hgt lab ous kis los h0_depth h0_function mem h0_pages glo val h0_valueTop ffu fre fba fla h0_frames lat lhe h0_labelTop h0_steps h0_there rsl h0_resultLength h0_reason h0_place arg h0_argumentCount h0_code mm mby mm_length mm_types mpc mm_parameterTypes_r mre mm_functions mto mm_codes mca mce mlc mm_localTypes_r mm_memories mm_least mm_most mm_hasMost mm_globals mgt mgk mgc mst mm_exports mek meo mna mnl men mel mby cmby gmby) sz)) (va_A (wz_373 h0 rf tap h0_taped h0_length h0_kind h0_from h0_to h0_word h0_numeral h0_globalNames_r h0_globalPlaces_r h0_globalTypes_r h0_globalValues_r h0_globalCount h0_funs_r h0_funCount h0_open h0_signs h0_levels_r h0_now h0_known_r h0_knownCount h0_loops mad h0_madeLength mag h0_smalls_r h0_greats_r h0_module_r h0_spare_r mm h0_cursor h0_limit blk stk h0_top hgt lab ous kis los h0_depth h0_function mem h0_pages glo val h0_valueTop ffu fre fba fla h0_frames lat lhe h0_labelTop h0_steps h0_there rsl h0_resultLength h0_reason h0_place arg h0_argumentCount h0_code mm mby mm_length mm_types mpc mm_parameterTypes_r mre mm_functions mto mm_codes mca mce mlc mm_localTypes_r mm_memories mm_least mm_most mm_hasMost mm_globals mgt mgk mgc mst mm_exports mek meo mna mnl men mel mby cmby gmby) sz)) 0 0 (va_A (wz_373 h0 rf tap h0_taped h0_length h0_kind h0_from h0_to h0_word h0_numeral h0_globalNames_r h0_globalPlaces_r h0_globalTypes_r h0_globalValues_r h0_globalCount h0_funs_r h0_funCount h0_open h0_signs h0_levels_r h0_now h0_known_r h0_knownCount h0_loops mad h0_madeLength mag h0_smalls_r h0_greats_r h0_module_r h0_spare_r mm h0_cursor h0_limit blk stk h0_top hgt lab ous kis los h0_depth h0_function mem h0_pages glo val h0_valueTop ffu fre fba fla h0_frames lat lhe h0_labelTop h0_steps h0_there rsl h0_resultLength h0_reason h0_place arg h0_argumentCount h0_code mm mby mm_length mm_types mpc mm_parameterTypes_r mre mm_functions mto mm_codes mca mce mlc mm_localTypes_r mm_memories mm_least mm_most mm_hasMost mm_globals mgt mgk mgc mst mm_exports mek meo mna mnl men mel mby cmby gmby) sz) := by
  refine Met.ofW (cc := b_MD_blockType) (maxL := 2) (ret := (Option.some .int)) (by decide) rfl ?_
  intro p e s m args below meth c s₁ B hml hv
  obtain ⟨rfl, hsz, hP, hK, hD0, hSW⟩ := hv
  have hx := B.exec
  have hb := B.bytes
  have hr := B.returns
  have hts0 := atoms_spec (ws := w_MD_blockType) B.pre
  have hts : ∀ w ∈ lw_g, w.before _ s = true := fun w h => hts0 w (List.mem_cons_of_mem _ h)
  have hown : s.vm.findClass R_MD = some m.cls := findClass_of_methodNamed B.named
  have hlocks := B.notSynchronized
  clear hts0
  subst hsz
  have hD := hD0.self (sz := s.heap.size)
  generalize hAe : va_A (wz_373 h0 rf tap h0_taped h0_length h0_kind h0_from h0_to h0_word h0_numeral h0_globalNames_r h0_globalPlaces_r h0_globalTypes_r h0_globalValues_r h0_globalCount h0_funs_r h0_funCount h0_open h0_signs h0_levels_r h0_now h0_known_r h0_knownCount h0_loops mad h0_madeLength mag h0_smalls_r h0_greats_r h0_module_r h0_spare_r mm h0_cursor h0_limit blk stk h0_top hgt lab ous kis los h0_depth h0_function mem h0_pages glo val h0_valueTop ffu fre fba fla h0_frames lat lhe h0_labelTop h0_steps h0_there rsl h0_resultLength h0_reason h0_place arg h0_argumentCount h0_code mm mby mm_length mm_types mpc mm_parameterTypes_r mre mm_functions mto mm_codes mca mce mlc mm_localTypes_r mm_memories mm_least mm_most mm_hasMost mm_globals mgt mgk mgc mst mm_exports mek meo mna mnl men mel mby cmby gmby) s.heap.size = A at hD ⊢
  have hA : ∀ q : Nat, s.heap.size ≤ q → A q := fun q h => by rw [← hAe]; exact Or.inr h
  clear hAe
  have hP : va_P (dC, dI) cls2 (wz_373 h0 rf tap h0_taped h0_length h0_kind h0_from h0_to h0_word h0_numeral h0_globalNames_r h0_globalPlaces_r h0_globalTypes_r h0_globalValues_r h0_globalCount h0_funs_r h0_funCount h0_open h0_signs h0_levels_r h0_now h0_known_r h0_knownCount h0_loops mad h0_madeLength mag h0_smalls_r h0_greats_r h0_module_r h0_spare_r mm h0_cursor h0_limit blk stk h0_top hgt lab ous kis los h0_depth h0_function mem h0_pages glo val h0_valueTop ffu fre fba fla h0_frames lat lhe h0_labelTop h0_steps h0_there rsl h0_resultLength h0_reason h0_place arg h0_argumentCount h0_code mm mby mm_length mm_types mpc mm_parameterTypes_r mre mm_functions mto mm_codes mca mce mlc mm_localTypes_r mm_memories mm_least mm_most mm_hasMost mm_globals mgt mgk mgc mst mm_exports mek meo mna mnl men mel mby cmby gmby) s.heap := hP
  have hl := lv_entry ([.ref h0, .int p0]) (n := 2) (Nat.le_of_ble_eq_true rfl)
  rw [lg_entry_eq]
  generalize (lg_sl ([.ref h0, .int p0]) ++ List.replicate (2 - (lg_sl ([.ref h0, .int p0])).length) Slot.unset).toArray = ls at hl ⊢
  have hl : lv_has ls 2 [(0, .ref h0), (1, .int p0)] := hl
  have k0 : (0 : Int32).toInt = 0 := by decide
  refine w_gen (A := A) hP (fun H locs hP hS => ?_)
  have k1 : (1 : Int32).toInt = 1 := by decide
  have k255 : (255 : Int32).toInt = 255 := by decide
  have lo_p0 := i32_lo p0
  have hi_p0 := i32_hi p0
  have zp := i32_clamp (x := p0) (by (first | (apply Int.le_antisymm <;> omega) | omega))
  refine lv_aload_n hx hb d_MD_blockType_0 rfl (lv_at hl 0 rfl) ?_
  refine va_get (D := (dC, dI)) (ci := 11) (v := .ref mm) (C := R_MD) (T := F_MD) (N := 65) hx hb hts i_MD hown hK hP 0 rfl rfl 30 (by decide) (hts _ kF_MD_492) (fun _ h9 => h9) rfl d_MD_blockType_1 ?_
  refine va_getN (D := (dC, dI)) (ci := 12) (v := .ref mby) (C := R_MM) (T := F_MM) (N := 29) hx hb hts i_MM hown hK hP 1 rfl rfl 0 (by decide) (sn_f (k := 5) hSW rfl) (fun _ h9 => h9) rfl d_MD_blockType_4 ?_
  refine lv_iload_n hx hb d_MD_blockType_7 rfl (lv_at hl 1 rfl) ?_
  refine lv_iconst (v := 1) hx hb d_MD_blockType_8 (by decide) ?_
  refine lv_iadd hx hb d_MD_blockType_9 ?_
  refine lv_topi (fun x1 ex1 => ?_)
  have tx1 : x1.toInt = p0.toInt + 1 := by have z := i32_add ex1 (by (first | (apply Int.le_antisymm <;> omega) | omega)) (by (first | (apply Int.le_antisymm <;> omega) | omega)); first | exact z | (first | (apply Int.le_antisymm <;> omega) | omega)
  have g10 : vp_in x1 32768 := vp_in_iff.mpr ⟨by (first | (apply Int.le_antisymm <;> omega) | omega), by (first | (apply Int.le_antisymm <;> omega) | omega)⟩
  refine va_bald hx hb hK hP 2 0 rfl rfl g10 d_MD_blockType_10 ?_
  refine lv_topi (fun x2 ex2 => ?_)
  refine lv_sipush (v := 255) hx hb d_MD_blockType_11 (by decide) ?_
  refine lv_iand hx hb d_MD_blockType_14 ?_
  refine lv_topi (fun x3 ex3 => ?_)
  have hP9 := hP.sb (wq := (wz_373 h0 rf tap h0_taped h0_length h0_kind h0_from h0_to h0_word h0_numeral h0_globalNames_r h0_globalPlaces_r h0_globalTypes_r h0_globalValues_r h0_globalCount h0_funs_r h0_funCount h0_open h0_signs h0_levels_r h0_now h0_known_r h0_knownCount h0_loops mad h0_madeLength mag h0_smalls_r h0_greats_r h0_module_r h0_spare_r mm h0_cursor h0_limit blk stk h0_top hgt lab ous kis los h0_depth h0_function mem h0_pages glo val h0_valueTop ffu fre fba fla h0_frames lat lhe h0_labelTop h0_steps h0_there rsl h0_resultLength h0_reason h0_place arg h0_argumentCount h0_code mm mby mm_length mm_types mpc mm_parameterTypes_r mre mm_functions mto mm_codes mca mce mlc mm_localTypes_r mm_memories mm_least mm_most mm_hasMost mm_globals mgt mgk mgc mst mm_exports mek meo mna mnl men mel mby cmby gmby)) [0, 1, 2] rfl
  have hD9 := hD.sb (wq := (wz_373 h0 rf tap h0_taped h0_length h0_kind h0_from h0_to h0_word h0_numeral h0_globalNames_r h0_globalPlaces_r h0_globalTypes_r h0_globalValues_r h0_globalCount h0_funs_r h0_funCount h0_open h0_signs h0_levels_r h0_now h0_known_r h0_knownCount h0_loops mad h0_madeLength mag h0_smalls_r h0_greats_r h0_module_r h0_spare_r mm h0_cursor h0_limit blk stk h0_top hgt lab ous kis los h0_depth h0_function mem h0_pages glo val h0_valueTop ffu fre fba fla h0_frames lat lhe h0_labelTop h0_steps h0_there rsl h0_resultLength h0_reason h0_place arg h0_argumentCount h0_code mm mby mm_length mm_types mpc mm_parameterTypes_r mre mm_functions mto mm_codes mca mce mlc mm_localTypes_r mm_memories mm_least mm_most mm_hasMost mm_globals mgt mgk mgc mst mm_exports mek meo mna mnl men mel mby cmby gmby)) [0, 1, 2] (by decide) rfl
  exact W.iret (v := x3) hx hb hr (fun t ht hW => ⟨⟨x3, (), rfl, ((by rw [ex3, ex2, show x1.toNatClampNeg = p0.toNatClampNeg + 1 from clampN (by (first | (apply Int.le_antisymm <;> omega) | omega))])), va_P.he ht.symm hP9, va_K.moved hW.alike hK, hD9⟩, hS.F ht⟩) hS.2.2 d_MD_blockType_15
abbrev b_MD_counted32 : ByteArray := prog_15_method_94_code
def y_MD_counted32 : MethodName := ⟨R_MD, "counted32", "(II)J"⟩
abbrev w_MD_counted32 : List Cond := .code y_MD_counted32 b_MD_counted32 4 (Option.some .long) :: lw_g
theorem kC_MD_counted32 : Cond.code y_MD_counted32 b_MD_counted32 4 (Option.some .long) ∈ lw_g := in_c13 185 rfl rfl
theorem d_MD_counted32_0 : decode b_MD_counted32 0 = .ok (.iconst 0, 1) := bz_c3 (by decide +kernel)
theorem d_MD_counted32_1 : decode b_MD_counted32 1 = .ok (.istore_n 2, 1) := bz_c61 (by decide +kernel)
theorem d_MD_counted32_2 : decode b_MD_counted32 2 = .ok (.iload_n 0, 1) := bz_c26 (by decide +kernel)
theorem d_MD_counted32_3 : decode b_MD_counted32 3 = .ok (.bipush 103, 2) := bz_c16 (by decide +kernel)
theorem d_MD_counted32_5 : decode b_MD_counted32 5 = .ok (.if_icmp .ne 21, 3) := bz_c160 (by decide +kernel)
theorem d_MD_counted32_8 : decode b_MD_counted32 8 = .ok (.iload_n 2, 1) := bz_c28 (by decide +kernel)
theorem d_MD_counted32_9 : decode b_MD_counted32 9 = .ok (.bipush 32, 2) := bz_c16 (by decide +kernel)
theorem d_MD_counted32_11 : decode b_MD_counted32 11 = .ok (.if_icmp .ge 63, 3) := bz_c162 (by decide +kernel)
theorem d_MD_counted32_14 : decode b_MD_counted32 14 = .ok (.iload_n 1, 1) := bz_c27 (by decide +kernel)
theorem d_MD_counted32_15 : decode b_MD_counted32 15 = .ok (.iload_n 2, 1) := bz_c28 (by decide +kernel)
theorem d_MD_counted32_16 : decode b_MD_counted32 16 = .ok (.ishl, 1) := by decide +kernel
theorem d_MD_counted32_17 : decode b_MD_counted32 17 = .ok (.ifCond .lt 57, 3) := bz_c155 (by decide +kernel)
theorem d_MD_counted32_20 : decode b_MD_counted32 20 = .ok (.iinc 2 1, 3) := by decide +kernel
theorem d_MD_counted32_23 : decode b_MD_counted32 23 = .ok (.goto (-15), 3) := bz_c167 (by decide +kernel)
theorem d_MD_counted32_26 : decode b_MD_counted32 26 = .ok (.iload_n 0, 1) := bz_c26 (by decide +kernel)
theorem d_MD_counted32_27 : decode b_MD_counted32 27 = .ok (.bipush 104, 2) := bz_c16 (by decide +kernel)
theorem d_MD_counted32_29 : decode b_MD_counted32 29 = .ok (.if_icmp .ne 23, 3) := bz_c160 (by decide +kernel)
theorem d_MD_counted32_32 : decode b_MD_counted32 32 = .ok (.iload_n 2, 1) := bz_c28 (by decide +kernel)
theorem d_MD_counted32_33 : decode b_MD_counted32 33 = .ok (.bipush 32, 2) := bz_c16 (by decide +kernel)
theorem d_MD_counted32_35 : decode b_MD_counted32 35 = .ok (.if_icmp .ge 39, 3) := bz_c162 (by decide +kernel)
theorem d_MD_counted32_38 : decode b_MD_counted32 38 = .ok (.iload_n 1, 1) := bz_c27 (by decide +kernel)
theorem d_MD_counted32_39 : decode b_MD_counted32 39 = .ok (.iload_n 2, 1) := bz_c28 (by decide +kernel)
theorem d_MD_counted32_40 : decode b_MD_counted32 40 = .ok (.ishr, 1) := by decide +kernel
theorem d_MD_counted32_41 : decode b_MD_counted32 41 = .ok (.iconst 1, 1) := bz_c4 (by decide +kernel)
theorem d_MD_counted32_42 : decode b_MD_counted32 42 = .ok (.iand, 1) := bz_c126 (by decide +kernel)
theorem d_MD_counted32_43 : decode b_MD_counted32 43 = .ok (.ifCond .ne 31, 3) := bz_c154 (by decide +kernel)
theorem d_MD_counted32_46 : decode b_MD_counted32 46 = .ok (.iinc 2 1, 3) := by decide +kernel
theorem d_MD_counted32_49 : decode b_MD_counted32 49 = .ok (.goto (-17), 3) := bz_c167 (by decide +kernel)
theorem d_MD_counted32_52 : decode b_MD_counted32 52 = .ok (.iconst 0, 1) := bz_c3 (by decide +kernel)
theorem d_MD_counted32_53 : decode b_MD_counted32 53 = .ok (.istore_n 3, 1) := bz_c62 (by decide +kernel)
theorem d_MD_counted32_54 : decode b_MD_counted32 54 = .ok (.iload_n 3, 1) := bz_c29 (by decide +kernel)
theorem d_MD_counted32_55 : decode b_MD_counted32 55 = .ok (.bipush 32, 2) := bz_c16 (by decide +kernel)
theorem d_MD_counted32_57 : decode b_MD_counted32 57 = .ok (.if_icmp .ge 17, 3) := bz_c162 (by decide +kernel)
theorem d_MD_counted32_60 : decode b_MD_counted32 60 = .ok (.iload_n 2, 1) := bz_c28 (by decide +kernel)
theorem d_MD_counted32_61 : decode b_MD_counted32 61 = .ok (.iload_n 1, 1) := bz_c27 (by decide +kernel)
theorem d_MD_counted32_62 : decode b_MD_counted32 62 = .ok (.iload_n 3, 1) := bz_c29 (by decide +kernel)
theorem d_MD_counted32_63 : decode b_MD_counted32 63 = .ok (.ishr, 1) := by decide +kernel
theorem d_MD_counted32_64 : decode b_MD_counted32 64 = .ok (.iconst 1, 1) := bz_c4 (by decide +kernel)
theorem d_MD_counted32_65 : decode b_MD_counted32 65 = .ok (.iand, 1) := bz_c126 (by decide +kernel)
theorem d_MD_counted32_66 : decode b_MD_counted32 66 = .ok (.iadd, 1) := bz_c96 (by decide +kernel)
theorem d_MD_counted32_67 : decode b_MD_counted32 67 = .ok (.istore_n 2, 1) := bz_c61 (by decide +kernel)
theorem d_MD_counted32_68 : decode b_MD_counted32 68 = .ok (.iinc 3 1, 3) := by decide +kernel
theorem d_MD_counted32_71 : decode b_MD_counted32 71 = .ok (.goto (-17), 3) := bz_c167 (by decide +kernel)
theorem d_MD_counted32_74 : decode b_MD_counted32 74 = .ok (.iload_n 0, 1) := bz_c26 (by decide +kernel)
theorem d_MD_counted32_75 : decode b_MD_counted32 75 = .ok (.bipush 103, 2) := bz_c16 (by decide +kernel)
theorem d_MD_counted32_77 : decode b_MD_counted32 77 = .ok (.if_icmp .ne 13, 3) := bz_c160 (by decide +kernel)
theorem d_MD_counted32_80 : decode b_MD_counted32 80 = .ok (.iload_n 1, 1) := bz_c27 (by decide +kernel)
theorem d_MD_counted32_81 : decode b_MD_counted32 81 = .ok (.ifCond .ne 9, 3) := bz_c154 (by decide +kernel)
theorem d_MD_counted32_84 : decode b_MD_counted32 84 = .ok (.ldc2_w 801, 3) := bz_c20 (by decide +kernel)
theorem d_MD_counted32_87 : decode b_MD_counted32 87 = .ok (.goto 5, 3) := bz_c167 (by decide +kernel)
theorem d_MD_counted32_90 : decode b_MD_counted32 90 = .ok (.iload_n 2, 1) := bz_c28 (by decide +kernel)
theorem d_MD_counted32_91 : decode b_MD_counted32 91 = .ok (.i2l, 1) := bz_c133 (by decide +kernel)
theorem d_MD_counted32_92 : decode b_MD_counted32 92 = .ok (.lreturn, 1) := bz_c173 (by decide +kernel)
theorem kL_MD_801 : Cond.constantLong R_MD 801 (32) ∈ lw_g := in_c13 186 rfl rfl
abbrev at_MD_counted32 (dC : Nat → ClassId) (dI : Nat → Nat → Nat)  (A : Nat → Prop) (u : Unit) (t : State) : Prop := match u with | _ => va_P (dC, dI) cls2 [] t.heap ∧ va_K (dC, dI) cls2 [] t ∧ va_D A []
set_option maxHeartbeats 4000000 in
set_option maxRecDepth 100000 in
theorem c_MD_counted32 (l : Launch) (dC : Nat → ClassId) (dI : Nat → Nat → Nat) (sz : Nat)    (p0 : Int32) (p1 : Int32)   : Met l y_MD_counted32 w_MD_counted32 ({ frames := 0, cells := 0, slots := 0, locals := 0 }) (va_Pc [.int p0, .int p1] (fun U => U.heap.size = sz ∧ va_P (dC, dI) cls2 [] U.heap ∧ va_K (dC, dI) cls2 [] U ∧ va_D (fun _ => True) [])) (va_Ql (fun (r : Int64) (u : Unit) => match u with | _ => (-2147483648 ≤ r.toInt ∧ r.toInt ≤ 2147483647)) (at_MD_counted32 dC dI  (va_A [] sz)) (va_A [] sz)) 0 0 (va_A [] sz) := by
  refine Met.ofW (cc := b_MD_counted32) (maxL := 4) (ret := (Option.some .long)) (by decide) rfl ?_
  intro p e s m args below meth c s₁ B hml hv
  obtain ⟨rfl, hsz, hP, hK, hD0⟩ := hv
  have hx := B.exec
  have hb := B.bytes
  have hr := B.returns
  have hts0 := atoms_spec (ws := w_MD_counted32) B.pre
  have hts : ∀ w ∈ lw_g, w.before _ s = true := fun w h => hts0 w (List.mem_cons_of_mem _ h)
  have hown : s.vm.findClass R_MD = some m.cls := findClass_of_methodNamed B.named
  have hlocks := B.notSynchronized
  clear hts0
  subst hsz
  have hD := hD0.self (sz := s.heap.size)
  generalize hAe : va_A [] s.heap.size = A at hD ⊢
  have hA : ∀ q : Nat, s.heap.size ≤ q → A q := fun q h => by rw [← hAe]; exact Or.inr h
  clear hAe
  have hP : va_P (dC, dI) cls2 [] s.heap := hP
  have hl := lv_entry ([.int p0, .int p1]) (n := 4) (Nat.le_of_ble_eq_true rfl)
  rw [lg_entry_eq]
  generalize (lg_sl ([.int p0, .int p1]) ++ List.replicate (4 - (lg_sl ([.int p0, .int p1])).length) Slot.unset).toArray = ls at hl ⊢
  have hl : lv_has ls 4 [(0, .int p0), (1, .int p1)] := hl
  have k0 : (0 : Int32).toInt = 0 := by decide
  refine w_gen (A := A) hP (fun H locs hP hS => ?_)
  have k1 : (1 : Int32).toInt = 1 := by decide
  have k32 : (32 : Int32).toInt = 32 := by decide
  have k103 : (103 : Int32).toInt = 103 := by decide
  have k104 : (104 : Int32).toInt = 104 := by decide
  have lo_p0 := i32_lo p0
  have hi_p0 := i32_hi p0
  have lo_p1 := i32_lo p1
  have hi_p1 := i32_hi p1
  refine lv_iconst (v := 0) hx hb d_MD_counted32_0 (by decide) ?_
  refine lv_istore_n (lv' := [(2, .int 0), (0, .int p0), (1, .int p1)]) hx hb d_MD_counted32_1 rfl hl (by decide) rfl (fun ls hl => ?_)
  refine lv_iload_n hx hb d_MD_counted32_2 rfl (lv_at hl 1 rfl) ?_
  refine lv_bipush (v := 103) hx hb d_MD_counted32_3 (by decide) ?_
  refine lv_icmp_ne (tgt := 26) hx hb d_MD_counted32_5 (by decide) (fun c5 => ?_) (fun c5 => ?_)
  · have q5 := neI c5
    refine lv_iload_n hx hb d_MD_counted32_26 rfl (lv_at hl 1 rfl) ?_
    refine lv_bipush (v := 104) hx hb d_MD_counted32_27 (by decide) ?_
    refine lv_icmp_ne (tgt := 52) hx hb d_MD_counted32_29 (by decide) (fun c29 => ?_) (fun c29 => ?_)
    · have q29 := neI c29
      refine lv_iconst (v := 0) hx hb d_MD_counted32_52 (by decide) ?_
      refine lv_istore_n (lv' := [(3, .int 0), (2, .int 0), (0, .int p0), (1, .int p1)]) hx hb d_MD_counted32_53 rfl hl (by decide) rfl (fun ls hl => ?_)
      refine w_loop (σ := Int32 × Int32) (fun u H locs ls => match u with | (j54_l2, j54_l3) => (0 ≤ j54_l3.toInt ∧ j54_l3.toInt ≤ 32) ∧ va_P (dC, dI) cls2 [] H ∧ va_D A [] ∧ va_S A s.heap H locs ∧ lv_has ls 4 [(0, .int p0), (1, .int p1), (2, .int j54_l2), (3, .int j54_l3)]) (fun u => match u with | (j54_l2, j54_l3) => (32 - j54_l3.toInt).toNat) ?_ (0, 0) ⟨by (try dsimp only) <;> (first | (apply Int.le_antisymm <;> omega) | omega), hP, hD, hS, lv_sub hl [2, 3, 1, 0] rfl⟩
      intro N54 ih54 u H locs ls hN54 hI
      obtain ⟨j54_l2, j54_l3⟩ := u
      obtain ⟨b_j54_l3, hP, hD, hS, hl⟩ := hI
      have hN54 : (32 - j54_l3.toInt).toNat < N54 + 1 := hN54
      refine lv_iload_n hx hb d_MD_counted32_54 rfl (lv_at hl 3 rfl) ?_
      refine lv_bipush (v := 32) hx hb d_MD_counted32_55 (by decide) ?_
      refine lv_icmp_ge (tgt := 74) hx hb d_MD_counted32_57 (by decide) (fun c57 => ?_) (fun c57 => ?_)
      · have q57 := leI c57
        refine lv_iload_n hx hb d_MD_counted32_74 rfl (lv_at hl 0 rfl) ?_
        refine lv_bipush (v := 103) hx hb d_MD_counted32_75 (by decide) ?_
        refine lv_icmp_ne (tgt := 90) hx hb d_MD_counted32_77 (by decide) (fun c77 => ?_) (fun c77 => ?_)
        · have q77 := neI c77
          refine lv_iload_n hx hb d_MD_counted32_90 rfl (lv_at hl 2 rfl) ?_
          refine lv_i2l hx hb d_MD_counted32_91 rfl ?_
          refine lv_topl (fun x1 ex1 => ?_)
          have tx1 := i2l_t ex1
          have hP9 := hP.sb (wq := []) [] rfl
          have hD9 := hD.sb (wq := []) [] (by decide) rfl
          exact W.lret (v := x1) hx hb hr (fun t ht hW => ⟨⟨x1, (), rfl, ((by first | (constructor <;> (first | (apply Int.le_antisymm <;> omega) | omega)) | (have a9 := i32_lo j54_l2; have b9 := i32_hi j54_l2; constructor <;> (first | (apply Int.le_antisymm <;> omega) | omega)))), va_P.he ht.symm hP9, va_K.moved hW.alike hK, hD9⟩, hS.F ht⟩) hS.2.2 d_MD_counted32_92
        · have q77 := eqI c77
          refine lv_iload_n hx hb d_MD_counted32_80 rfl (lv_at hl 1 rfl) ?_
          refine lv_if_ne (tgt := 90) hx hb d_MD_counted32_81 (by decide) (fun c81 => ?_) (fun c81 => ?_)
          · have q81 := neI c81
            refine lv_iload_n hx hb d_MD_counted32_90 rfl (lv_at hl 2 rfl) ?_
            refine lv_i2l hx hb d_MD_counted32_91 rfl ?_
            refine lv_topl (fun x2 ex2 => ?_)
            have tx2 := i2l_t ex2
            have hP9 := hP.sb (wq := []) [] rfl
            have hD9 := hD.sb (wq := []) [] (by decide) rfl
            exact W.lret (v := x2) hx hb hr (fun t ht hW => ⟨⟨x2, (), rfl, ((by first | (constructor <;> (first | (apply Int.le_antisymm <;> omega) | omega)) | (have a9 := i32_lo j54_l2; have b9 := i32_hi j54_l2; constructor <;> (first | (apply Int.le_antisymm <;> omega) | omega)))), va_P.he ht.symm hP9, va_K.moved hW.alike hK, hD9⟩, hS.F ht⟩) hS.2.2 d_MD_counted32_92
          · have q81 := eqI c81
            refine lv_ldc2 hx hb hown (hts _ kL_MD_801) d_MD_counted32_84 ?_
            refine lv_topl (fun x3 ex3 => ?_)
            have tx3 : x3.toInt = 32 := by rw [ex3]; decide
            refine lv_goto (tgt := 92) hx hb d_MD_counted32_87 (by decide) ?_
            have hP9 := hP.sb (wq := []) [] rfl
            have hD9 := hD.sb (wq := []) [] (by decide) rfl
            exact W.lret (v := x3) hx hb hr (fun t ht hW => ⟨⟨x3, (), rfl, ((by first | (constructor <;> (first | (apply Int.le_antisymm <;> omega) | omega)) | (have a9 := i32_lo j54_l2; have b9 := i32_hi j54_l2; constructor <;> (first | (apply Int.le_antisymm <;> omega) | omega)))), va_P.he ht.symm hP9, va_K.moved hW.alike hK, hD9⟩, hS.F ht⟩) hS.2.2 d_MD_counted32_92
      · have q57 := nleI c57
        refine lv_iload_n hx hb d_MD_counted32_60 rfl (lv_at hl 2 rfl) ?_
        refine lv_iload_n hx hb d_MD_counted32_61 rfl (lv_at hl 1 rfl) ?_
        refine lv_iload_n hx hb d_MD_counted32_62 rfl (lv_at hl 3 rfl) ?_
        refine lv_ishr hx hb d_MD_counted32_63 ?_
        refine lv_topi (fun x4 ex4 => ?_)
        refine lv_iconst (v := 1) hx hb d_MD_counted32_64 (by decide) ?_
        refine lv_iand hx hb d_MD_counted32_65 ?_
        refine lv_topi (fun x5 ex5 => ?_)
        refine lv_iadd hx hb d_MD_counted32_66 ?_
        refine lv_topi (fun x6 ex6 => ?_)
        refine lv_istore_n (lv' := [(2, .int x6), (0, .int p0), (1, .int p1), (3, .int j54_l3)]) hx hb d_MD_counted32_67 rfl hl (by decide) rfl (fun ls hl => ?_)
        obtain ⟨x7, ex7⟩ : ∃ z : Int32, z = j54_l3 + 1 := ⟨_, rfl⟩
        have tx7 : x7.toInt = j54_l3.toInt + 1 := by have z := i32_add ex7 (by (first | (apply Int.le_antisymm <;> omega) | omega)) (by (first | (apply Int.le_antisymm <;> omega) | omega)); first | exact z | (first | (apply Int.le_antisymm <;> omega) | omega)
        refine lv_iinc (v := x7) (lv' := [(3, .int x7), (2, .int x6), (0, .int p0), (1, .int p1)]) hx hb d_MD_counted32_68 hl (k := 3) rfl (by rw [ex7]; rfl) (by decide) rfl (fun ls hl => ?_)
        refine lv_goto (tgt := 54) hx hb d_MD_counted32_71 (by decide) ?_
        exact ih54 (x6, x7) _ _ _ (by show (32 - x7.toInt).toNat < N54; (first | (apply Int.le_antisymm <;> omega) | omega)) ⟨by (try dsimp only) <;> (first | (apply Int.le_antisymm <;> omega) | omega), hP, hD, hS, lv_sub hl [2, 3, 1, 0] rfl⟩
    · have q29 := eqI c29
      refine w_loop (σ := Int32) (fun u H locs ls => match u with | j32_l2 => (0 ≤ j32_l2.toInt ∧ j32_l2.toInt ≤ 32) ∧ va_P (dC, dI) cls2 [] H ∧ va_D A [] ∧ va_S A s.heap H locs ∧ lv_has ls 4 [(0, .int p0), (1, .int p1), (2, .int j32_l2)]) (fun u => match u with | j32_l2 => (32 - j32_l2.toInt).toNat) ?_ 0 ⟨by (try dsimp only) <;> (first | (apply Int.le_antisymm <;> omega) | omega), hP, hD, hS, lv_sub hl [1, 2, 0] rfl⟩
      intro N32 ih32 u H locs ls hN32 hI
      obtain ⟨j32_l2, rfl⟩ : ∃ z, z = u := ⟨_, rfl⟩
      obtain ⟨b_j32_l2, hP, hD, hS, hl⟩ := hI
      have hN32 : (32 - j32_l2.toInt).toNat < N32 + 1 := hN32
      refine lv_iload_n hx hb d_MD_counted32_32 rfl (lv_at hl 2 rfl) ?_
      refine lv_bipush (v := 32) hx hb d_MD_counted32_33 (by decide) ?_
      refine lv_icmp_ge (tgt := 74) hx hb d_MD_counted32_35 (by decide) (fun c35 => ?_) (fun c35 => ?_)
      · have q35 := leI c35
        refine lv_iload_n hx hb d_MD_counted32_74 rfl (lv_at hl 0 rfl) ?_
        refine lv_bipush (v := 103) hx hb d_MD_counted32_75 (by decide) ?_
        refine lv_icmp_ne (tgt := 90) hx hb d_MD_counted32_77 (by decide) (fun c77 => ?_) (fun c77 => ?_)
        · have q77 := neI c77
          refine lv_iload_n hx hb d_MD_counted32_90 rfl (lv_at hl 2 rfl) ?_
          refine lv_i2l hx hb d_MD_counted32_91 rfl ?_
          refine lv_topl (fun x8 ex8 => ?_)
          have tx8 := i2l_t ex8
          have hP9 := hP.sb (wq := []) [] rfl
          have hD9 := hD.sb (wq := []) [] (by decide) rfl
          exact W.lret (v := x8) hx hb hr (fun t ht hW => ⟨⟨x8, (), rfl, ((by first | (constructor <;> (first | (apply Int.le_antisymm <;> omega) | omega)) | (have a9 := i32_lo j32_l2; have b9 := i32_hi j32_l2; constructor <;> (first | (apply Int.le_antisymm <;> omega) | omega)))), va_P.he ht.symm hP9, va_K.moved hW.alike hK, hD9⟩, hS.F ht⟩) hS.2.2 d_MD_counted32_92
        · have q77 := eqI c77
          refine lv_iload_n hx hb d_MD_counted32_80 rfl (lv_at hl 1 rfl) ?_
          refine lv_if_ne (tgt := 90) hx hb d_MD_counted32_81 (by decide) (fun c81 => ?_) (fun c81 => ?_)
          · have q81 := neI c81
            refine lv_iload_n hx hb d_MD_counted32_90 rfl (lv_at hl 2 rfl) ?_
            refine lv_i2l hx hb d_MD_counted32_91 rfl ?_
            refine lv_topl (fun x9 ex9 => ?_)
            have tx9 := i2l_t ex9
            have hP9 := hP.sb (wq := []) [] rfl
            have hD9 := hD.sb (wq := []) [] (by decide) rfl
            exact W.lret (v := x9) hx hb hr (fun t ht hW => ⟨⟨x9, (), rfl, ((by first | (constructor <;> (first | (apply Int.le_antisymm <;> omega) | omega)) | (have a9 := i32_lo j32_l2; have b9 := i32_hi j32_l2; constructor <;> (first | (apply Int.le_antisymm <;> omega) | omega)))), va_P.he ht.symm hP9, va_K.moved hW.alike hK, hD9⟩, hS.F ht⟩) hS.2.2 d_MD_counted32_92
          · have q81 := eqI c81
            refine lv_ldc2 hx hb hown (hts _ kL_MD_801) d_MD_counted32_84 ?_
            refine lv_topl (fun x10 ex10 => ?_)
            have tx10 : x10.toInt = 32 := by rw [ex10]; decide
            refine lv_goto (tgt := 92) hx hb d_MD_counted32_87 (by decide) ?_
            have hP9 := hP.sb (wq := []) [] rfl
            have hD9 := hD.sb (wq := []) [] (by decide) rfl
            exact W.lret (v := x10) hx hb hr (fun t ht hW => ⟨⟨x10, (), rfl, ((by first | (constructor <;> (first | (apply Int.le_antisymm <;> omega) | omega)) | (have a9 := i32_lo j32_l2; have b9 := i32_hi j32_l2; constructor <;> (first | (apply Int.le_antisymm <;> omega) | omega)))), va_P.he ht.symm hP9, va_K.moved hW.alike hK, hD9⟩, hS.F ht⟩) hS.2.2 d_MD_counted32_92
      · have q35 := nleI c35
        refine lv_iload_n hx hb d_MD_counted32_38 rfl (lv_at hl 1 rfl) ?_
        refine lv_iload_n hx hb d_MD_counted32_39 rfl (lv_at hl 2 rfl) ?_
        refine lv_ishr hx hb d_MD_counted32_40 ?_
        refine lv_topi (fun x11 ex11 => ?_)
        refine lv_iconst (v := 1) hx hb d_MD_counted32_41 (by decide) ?_
        refine lv_iand hx hb d_MD_counted32_42 ?_
        refine lv_topi (fun x12 ex12 => ?_)
        refine lv_if_ne (tgt := 74) hx hb d_MD_counted32_43 (by decide) (fun c43 => ?_) (fun c43 => ?_)
        · have q43 := neI c43
          refine lv_iload_n hx hb d_MD_counted32_74 rfl (lv_at hl 0 rfl) ?_
          refine lv_bipush (v := 103) hx hb d_MD_counted32_75 (by decide) ?_
          refine lv_icmp_ne (tgt := 90) hx hb d_MD_counted32_77 (by decide) (fun c77 => ?_) (fun c77 => ?_)
          · have q77 := neI c77
            refine lv_iload_n hx hb d_MD_counted32_90 rfl (lv_at hl 2 rfl) ?_
            refine lv_i2l hx hb d_MD_counted32_91 rfl ?_
            refine lv_topl (fun x13 ex13 => ?_)
            have tx13 := i2l_t ex13
            have hP9 := hP.sb (wq := []) [] rfl
            have hD9 := hD.sb (wq := []) [] (by decide) rfl
            exact W.lret (v := x13) hx hb hr (fun t ht hW => ⟨⟨x13, (), rfl, ((by first | (constructor <;> (first | (apply Int.le_antisymm <;> omega) | omega)) | (have a9 := i32_lo j32_l2; have b9 := i32_hi j32_l2; constructor <;> (first | (apply Int.le_antisymm <;> omega) | omega)))), va_P.he ht.symm hP9, va_K.moved hW.alike hK, hD9⟩, hS.F ht⟩) hS.2.2 d_MD_counted32_92
          · have q77 := eqI c77
            refine lv_iload_n hx hb d_MD_counted32_80 rfl (lv_at hl 1 rfl) ?_
            refine lv_if_ne (tgt := 90) hx hb d_MD_counted32_81 (by decide) (fun c81 => ?_) (fun c81 => ?_)
            · have q81 := neI c81
              refine lv_iload_n hx hb d_MD_counted32_90 rfl (lv_at hl 2 rfl) ?_
              refine lv_i2l hx hb d_MD_counted32_91 rfl ?_
              refine lv_topl (fun x14 ex14 => ?_)
              have tx14 := i2l_t ex14
              have hP9 := hP.sb (wq := []) [] rfl
              have hD9 := hD.sb (wq := []) [] (by decide) rfl
              exact W.lret (v := x14) hx hb hr (fun t ht hW => ⟨⟨x14, (), rfl, ((by first | (constructor <;> (first | (apply Int.le_antisymm <;> omega) | omega)) | (have a9 := i32_lo j32_l2; have b9 := i32_hi j32_l2; constructor <;> (first | (apply Int.le_antisymm <;> omega) | omega)))), va_P.he ht.symm hP9, va_K.moved hW.alike hK, hD9⟩, hS.F ht⟩) hS.2.2 d_MD_counted32_92
            · have q81 := eqI c81
              refine lv_ldc2 hx hb hown (hts _ kL_MD_801) d_MD_counted32_84 ?_
              refine lv_topl (fun x15 ex15 => ?_)
              have tx15 : x15.toInt = 32 := by rw [ex15]; decide
              refine lv_goto (tgt := 92) hx hb d_MD_counted32_87 (by decide) ?_
              have hP9 := hP.sb (wq := []) [] rfl
              have hD9 := hD.sb (wq := []) [] (by decide) rfl
              exact W.lret (v := x15) hx hb hr (fun t ht hW => ⟨⟨x15, (), rfl, ((by first | (constructor <;> (first | (apply Int.le_antisymm <;> omega) | omega)) | (have a9 := i32_lo j32_l2; have b9 := i32_hi j32_l2; constructor <;> (first | (apply Int.le_antisymm <;> omega) | omega)))), va_P.he ht.symm hP9, va_K.moved hW.alike hK, hD9⟩, hS.F ht⟩) hS.2.2 d_MD_counted32_92
        · have q43 := eqI c43
          obtain ⟨x16, ex16⟩ : ∃ z : Int32, z = j32_l2 + 1 := ⟨_, rfl⟩
          have tx16 : x16.toInt = j32_l2.toInt + 1 := by have z := i32_add ex16 (by (first | (apply Int.le_antisymm <;> omega) | omega)) (by (first | (apply Int.le_antisymm <;> omega) | omega)); first | exact z | (first | (apply Int.le_antisymm <;> omega) | omega)
          refine lv_iinc (v := x16) (lv' := [(2, .int x16), (0, .int p0), (1, .int p1)]) hx hb d_MD_counted32_46 hl (k := 2) rfl (by rw [ex16]; rfl) (by decide) rfl (fun ls hl => ?_)
          refine lv_goto (tgt := 32) hx hb d_MD_counted32_49 (by decide) ?_
          exact ih32 x16 _ _ _ (by show (32 - x16.toInt).toNat < N32; (first | (apply Int.le_antisymm <;> omega) | omega)) ⟨by (try dsimp only) <;> (first | (apply Int.le_antisymm <;> omega) | omega), hP, hD, hS, lv_sub hl [1, 2, 0] rfl⟩
  · have q5 := eqI c5
    refine w_loop (σ := Int32) (fun u H locs ls => match u with | j8_l2 => (0 ≤ j8_l2.toInt ∧ j8_l2.toInt ≤ 32) ∧ va_P (dC, dI) cls2 [] H ∧ va_D A [] ∧ va_S A s.heap H locs ∧ lv_has ls 4 [(0, .int p0), (1, .int p1), (2, .int j8_l2)]) (fun u => match u with | j8_l2 => (32 - j8_l2.toInt).toNat) ?_ 0 ⟨by (try dsimp only) <;> (first | (apply Int.le_antisymm <;> omega) | omega), hP, hD, hS, lv_sub hl [1, 2, 0] rfl⟩
    intro N8 ih8 u H locs ls hN8 hI
    obtain ⟨j8_l2, rfl⟩ : ∃ z, z = u := ⟨_, rfl⟩
    obtain ⟨b_j8_l2, hP, hD, hS, hl⟩ := hI
    have hN8 : (32 - j8_l2.toInt).toNat < N8 + 1 := hN8
    refine lv_iload_n hx hb d_MD_counted32_8 rfl (lv_at hl 2 rfl) ?_
    refine lv_bipush (v := 32) hx hb d_MD_counted32_9 (by decide) ?_
    refine lv_icmp_ge (tgt := 74) hx hb d_MD_counted32_11 (by decide) (fun c11 => ?_) (fun c11 => ?_)
    · have q11 := leI c11
      refine lv_iload_n hx hb d_MD_counted32_74 rfl (lv_at hl 0 rfl) ?_
      refine lv_bipush (v := 103) hx hb d_MD_counted32_75 (by decide) ?_
      refine lv_icmp_ne (tgt := 90) hx hb d_MD_counted32_77 (by decide) (fun c77 => ?_) (fun c77 => ?_)
      · have q77 := neI c77
        refine lv_iload_n hx hb d_MD_counted32_90 rfl (lv_at hl 2 rfl) ?_
        refine lv_i2l hx hb d_MD_counted32_91 rfl ?_
        refine lv_topl (fun x17 ex17 => ?_)
        have tx17 := i2l_t ex17
        have hP9 := hP.sb (wq := []) [] rfl
        have hD9 := hD.sb (wq := []) [] (by decide) rfl
        exact W.lret (v := x17) hx hb hr (fun t ht hW => ⟨⟨x17, (), rfl, ((by first | (constructor <;> (first | (apply Int.le_antisymm <;> omega) | omega)) | (have a9 := i32_lo j8_l2; have b9 := i32_hi j8_l2; constructor <;> (first | (apply Int.le_antisymm <;> omega) | omega)))), va_P.he ht.symm hP9, va_K.moved hW.alike hK, hD9⟩, hS.F ht⟩) hS.2.2 d_MD_counted32_92
      · have q77 := eqI c77
        refine lv_iload_n hx hb d_MD_counted32_80 rfl (lv_at hl 1 rfl) ?_
        refine lv_if_ne (tgt := 90) hx hb d_MD_counted32_81 (by decide) (fun c81 => ?_) (fun c81 => ?_)
        · have q81 := neI c81
          refine lv_iload_n hx hb d_MD_counted32_90 rfl (lv_at hl 2 rfl) ?_
          refine lv_i2l hx hb d_MD_counted32_91 rfl ?_
          refine lv_topl (fun x18 ex18 => ?_)
          have tx18 := i2l_t ex18
          have hP9 := hP.sb (wq := []) [] rfl
          have hD9 := hD.sb (wq := []) [] (by decide) rfl
          exact W.lret (v := x18) hx hb hr (fun t ht hW => ⟨⟨x18, (), rfl, ((by first | (constructor <;> (first | (apply Int.le_antisymm <;> omega) | omega)) | (have a9 := i32_lo j8_l2; have b9 := i32_hi j8_l2; constructor <;> (first | (apply Int.le_antisymm <;> omega) | omega)))), va_P.he ht.symm hP9, va_K.moved hW.alike hK, hD9⟩, hS.F ht⟩) hS.2.2 d_MD_counted32_92
        · have q81 := eqI c81
          refine lv_ldc2 hx hb hown (hts _ kL_MD_801) d_MD_counted32_84 ?_
          refine lv_topl (fun x19 ex19 => ?_)
          have tx19 : x19.toInt = 32 := by rw [ex19]; decide
          refine lv_goto (tgt := 92) hx hb d_MD_counted32_87 (by decide) ?_
          have hP9 := hP.sb (wq := []) [] rfl
          have hD9 := hD.sb (wq := []) [] (by decide) rfl
          exact W.lret (v := x19) hx hb hr (fun t ht hW => ⟨⟨x19, (), rfl, ((by first | (constructor <;> (first | (apply Int.le_antisymm <;> omega) | omega)) | (have a9 := i32_lo j8_l2; have b9 := i32_hi j8_l2; constructor <;> (first | (apply Int.le_antisymm <;> omega) | omega)))), va_P.he ht.symm hP9, va_K.moved hW.alike hK, hD9⟩, hS.F ht⟩) hS.2.2 d_MD_counted32_92
    · have q11 := nleI c11
      refine lv_iload_n hx hb d_MD_counted32_14 rfl (lv_at hl 1 rfl) ?_
      refine lv_iload_n hx hb d_MD_counted32_15 rfl (lv_at hl 2 rfl) ?_
      refine lv_ishl hx hb d_MD_counted32_16 ?_
      refine lv_topi (fun x20 ex20 => ?_)
      refine lv_if_lt (tgt := 74) hx hb d_MD_counted32_17 (by decide) (fun c17 => ?_) (fun c17 => ?_)
      · have q17 := ltI c17
        refine lv_iload_n hx hb d_MD_counted32_74 rfl (lv_at hl 0 rfl) ?_
        refine lv_bipush (v := 103) hx hb d_MD_counted32_75 (by decide) ?_
        refine lv_icmp_ne (tgt := 90) hx hb d_MD_counted32_77 (by decide) (fun c77 => ?_) (fun c77 => ?_)
        · have q77 := neI c77
          refine lv_iload_n hx hb d_MD_counted32_90 rfl (lv_at hl 2 rfl) ?_
          refine lv_i2l hx hb d_MD_counted32_91 rfl ?_
          refine lv_topl (fun x21 ex21 => ?_)
          have tx21 := i2l_t ex21
          have hP9 := hP.sb (wq := []) [] rfl
          have hD9 := hD.sb (wq := []) [] (by decide) rfl
          exact W.lret (v := x21) hx hb hr (fun t ht hW => ⟨⟨x21, (), rfl, ((by first | (constructor <;> (first | (apply Int.le_antisymm <;> omega) | omega)) | (have a9 := i32_lo j8_l2; have b9 := i32_hi j8_l2; constructor <;> (first | (apply Int.le_antisymm <;> omega) | omega)))), va_P.he ht.symm hP9, va_K.moved hW.alike hK, hD9⟩, hS.F ht⟩) hS.2.2 d_MD_counted32_92
        · have q77 := eqI c77
          refine lv_iload_n hx hb d_MD_counted32_80 rfl (lv_at hl 1 rfl) ?_
          refine lv_if_ne (tgt := 90) hx hb d_MD_counted32_81 (by decide) (fun c81 => ?_) (fun c81 => ?_)
          · have q81 := neI c81
            refine lv_iload_n hx hb d_MD_counted32_90 rfl (lv_at hl 2 rfl) ?_
            refine lv_i2l hx hb d_MD_counted32_91 rfl ?_
            refine lv_topl (fun x22 ex22 => ?_)
            have tx22 := i2l_t ex22
            have hP9 := hP.sb (wq := []) [] rfl
            have hD9 := hD.sb (wq := []) [] (by decide) rfl
            exact W.lret (v := x22) hx hb hr (fun t ht hW => ⟨⟨x22, (), rfl, ((by first | (constructor <;> (first | (apply Int.le_antisymm <;> omega) | omega)) | (have a9 := i32_lo j8_l2; have b9 := i32_hi j8_l2; constructor <;> (first | (apply Int.le_antisymm <;> omega) | omega)))), va_P.he ht.symm hP9, va_K.moved hW.alike hK, hD9⟩, hS.F ht⟩) hS.2.2 d_MD_counted32_92
          · have q81 := eqI c81
            refine lv_ldc2 hx hb hown (hts _ kL_MD_801) d_MD_counted32_84 ?_
            refine lv_topl (fun x23 ex23 => ?_)
            have tx23 : x23.toInt = 32 := by rw [ex23]; decide
            refine lv_goto (tgt := 92) hx hb d_MD_counted32_87 (by decide) ?_
            have hP9 := hP.sb (wq := []) [] rfl
            have hD9 := hD.sb (wq := []) [] (by decide) rfl
            exact W.lret (v := x23) hx hb hr (fun t ht hW => ⟨⟨x23, (), rfl, ((by first | (constructor <;> (first | (apply Int.le_antisymm <;> omega) | omega)) | (have a9 := i32_lo j8_l2; have b9 := i32_hi j8_l2; constructor <;> (first | (apply Int.le_antisymm <;> omega) | omega)))), va_P.he ht.symm hP9, va_K.moved hW.alike hK, hD9⟩, hS.F ht⟩) hS.2.2 d_MD_counted32_92
      · have q17 := nltI c17
        obtain ⟨x24, ex24⟩ : ∃ z : Int32, z = j8_l2 + 1 := ⟨_, rfl⟩
        have tx24 : x24.toInt = j8_l2.toInt + 1 := by have z := i32_add ex24 (by (first | (apply Int.le_antisymm <;> omega) | omega)) (by (first | (apply Int.le_antisymm <;> omega) | omega)); first | exact z | (first | (apply Int.le_antisymm <;> omega) | omega)
        refine lv_iinc (v := x24) (lv' := [(2, .int x24), (0, .int p0), (1, .int p1)]) hx hb d_MD_counted32_20 hl (k := 2) rfl (by rw [ex24]; rfl) (by decide) rfl (fun ls hl => ?_)
        refine lv_goto (tgt := 8) hx hb d_MD_counted32_23 (by decide) ?_
        exact ih8 x24 _ _ _ (by show (32 - x24.toInt).toNat < N8; (first | (apply Int.le_antisymm <;> omega) | omega)) ⟨by (try dsimp only) <;> (first | (apply Int.le_antisymm <;> omega) | omega), hP, hD, hS, lv_sub hl [1, 2, 0] rfl⟩
abbrev b_MD_counted64 : ByteArray := prog_15_method_95_code
def y_MD_counted64 : MethodName := ⟨R_MD, "counted64", "(IJ)J"⟩
abbrev w_MD_counted64 : List Cond := .code y_MD_counted64 b_MD_counted64 5 (Option.some .long) :: lw_g
theorem kC_MD_counted64 : Cond.code y_MD_counted64 b_MD_counted64 5 (Option.some .long) ∈ lw_g := in_c13 189 rfl rfl
theorem d_MD_counted64_0 : decode b_MD_counted64 0 = .ok (.iconst 0, 1) := bz_c3 (by decide +kernel)
theorem d_MD_counted64_1 : decode b_MD_counted64 1 = .ok (.istore_n 3, 1) := bz_c62 (by decide +kernel)
theorem d_MD_counted64_2 : decode b_MD_counted64 2 = .ok (.iload_n 0, 1) := bz_c26 (by decide +kernel)
theorem d_MD_counted64_3 : decode b_MD_counted64 3 = .ok (.bipush 103, 2) := bz_c16 (by decide +kernel)
theorem d_MD_counted64_5 : decode b_MD_counted64 5 = .ok (.if_icmp .ne 23, 3) := bz_c160 (by decide +kernel)
theorem d_MD_counted64_8 : decode b_MD_counted64 8 = .ok (.iload_n 3, 1) := bz_c29 (by decide +kernel)
theorem d_MD_counted64_9 : decode b_MD_counted64 9 = .ok (.bipush 64, 2) := bz_c16 (by decide +kernel)
theorem d_MD_counted64_11 : decode b_MD_counted64 11 = .ok (.if_icmp .ge 71, 3) := bz_c162 (by decide +kernel)
theorem d_MD_counted64_14 : decode b_MD_counted64 14 = .ok (.lload_n 1, 1) := bz_c31 (by decide +kernel)
theorem d_MD_counted64_15 : decode b_MD_counted64 15 = .ok (.iload_n 3, 1) := bz_c29 (by decide +kernel)
theorem d_MD_counted64_16 : decode b_MD_counted64 16 = .ok (.lshl, 1) := bz_c121 (by decide +kernel)
theorem d_MD_counted64_17 : decode b_MD_counted64 17 = .ok (.lconst 0, 1) := bz_c9 (by decide +kernel)
theorem d_MD_counted64_18 : decode b_MD_counted64 18 = .ok (.lcmp, 1) := bz_c148 (by decide +kernel)
theorem d_MD_counted64_19 : decode b_MD_counted64 19 = .ok (.ifCond .lt 63, 3) := bz_c155 (by decide +kernel)
theorem d_MD_counted64_22 : decode b_MD_counted64 22 = .ok (.iinc 3 1, 3) := by decide +kernel
theorem d_MD_counted64_25 : decode b_MD_counted64 25 = .ok (.goto (-17), 3) := bz_c167 (by decide +kernel)
theorem d_MD_counted64_28 : decode b_MD_counted64 28 = .ok (.iload_n 0, 1) := bz_c26 (by decide +kernel)
theorem d_MD_counted64_29 : decode b_MD_counted64 29 = .ok (.bipush 104, 2) := bz_c16 (by decide +kernel)
theorem d_MD_counted64_31 : decode b_MD_counted64 31 = .ok (.if_icmp .ne 25, 3) := bz_c160 (by decide +kernel)
theorem d_MD_counted64_34 : decode b_MD_counted64 34 = .ok (.iload_n 3, 1) := bz_c29 (by decide +kernel)
theorem d_MD_counted64_35 : decode b_MD_counted64 35 = .ok (.bipush 64, 2) := bz_c16 (by decide +kernel)
theorem d_MD_counted64_37 : decode b_MD_counted64 37 = .ok (.if_icmp .ge 45, 3) := bz_c162 (by decide +kernel)
theorem d_MD_counted64_40 : decode b_MD_counted64 40 = .ok (.lload_n 1, 1) := bz_c31 (by decide +kernel)
theorem d_MD_counted64_41 : decode b_MD_counted64 41 = .ok (.iload_n 3, 1) := bz_c29 (by decide +kernel)
theorem d_MD_counted64_42 : decode b_MD_counted64 42 = .ok (.lshr, 1) := by decide +kernel
theorem d_MD_counted64_43 : decode b_MD_counted64 43 = .ok (.lconst 1, 1) := bz_c10 (by decide +kernel)
theorem d_MD_counted64_44 : decode b_MD_counted64 44 = .ok (.land, 1) := bz_c127 (by decide +kernel)
theorem d_MD_counted64_45 : decode b_MD_counted64 45 = .ok (.lconst 0, 1) := bz_c9 (by decide +kernel)
theorem d_MD_counted64_46 : decode b_MD_counted64 46 = .ok (.lcmp, 1) := bz_c148 (by decide +kernel)
theorem d_MD_counted64_47 : decode b_MD_counted64 47 = .ok (.ifCond .ne 35, 3) := bz_c154 (by decide +kernel)
theorem d_MD_counted64_50 : decode b_MD_counted64 50 = .ok (.iinc 3 1, 3) := by decide +kernel
theorem d_MD_counted64_53 : decode b_MD_counted64 53 = .ok (.goto (-19), 3) := bz_c167 (by decide +kernel)
theorem d_MD_counted64_56 : decode b_MD_counted64 56 = .ok (.iconst 0, 1) := bz_c3 (by decide +kernel)
theorem d_MD_counted64_57 : decode b_MD_counted64 57 = .ok (.istore 4, 2) := bz_c54 (by decide +kernel)
theorem d_MD_counted64_59 : decode b_MD_counted64 59 = .ok (.iload 4, 2) := bz_c21 (by decide +kernel)
theorem d_MD_counted64_61 : decode b_MD_counted64 61 = .ok (.bipush 64, 2) := bz_c16 (by decide +kernel)
theorem d_MD_counted64_63 : decode b_MD_counted64 63 = .ok (.if_icmp .ge 19, 3) := bz_c162 (by decide +kernel)
theorem d_MD_counted64_66 : decode b_MD_counted64 66 = .ok (.iload_n 3, 1) := bz_c29 (by decide +kernel)
theorem d_MD_counted64_67 : decode b_MD_counted64 67 = .ok (.lload_n 1, 1) := bz_c31 (by decide +kernel)
theorem d_MD_counted64_68 : decode b_MD_counted64 68 = .ok (.iload 4, 2) := bz_c21 (by decide +kernel)
theorem d_MD_counted64_70 : decode b_MD_counted64 70 = .ok (.lshr, 1) := by decide +kernel
theorem d_MD_counted64_71 : decode b_MD_counted64 71 = .ok (.lconst 1, 1) := bz_c10 (by decide +kernel)
theorem d_MD_counted64_72 : decode b_MD_counted64 72 = .ok (.land, 1) := bz_c127 (by decide +kernel)
theorem d_MD_counted64_73 : decode b_MD_counted64 73 = .ok (.l2i, 1) := bz_c136 (by decide +kernel)
theorem d_MD_counted64_74 : decode b_MD_counted64 74 = .ok (.iadd, 1) := bz_c96 (by decide +kernel)
theorem d_MD_counted64_75 : decode b_MD_counted64 75 = .ok (.istore_n 3, 1) := bz_c62 (by decide +kernel)
theorem d_MD_counted64_76 : decode b_MD_counted64 76 = .ok (.iinc 4 1, 3) := by decide +kernel
theorem d_MD_counted64_79 : decode b_MD_counted64 79 = .ok (.goto (-20), 3) := bz_c167 (by decide +kernel)
theorem d_MD_counted64_82 : decode b_MD_counted64 82 = .ok (.iload_n 0, 1) := bz_c26 (by decide +kernel)
theorem d_MD_counted64_83 : decode b_MD_counted64 83 = .ok (.bipush 103, 2) := bz_c16 (by decide +kernel)
theorem d_MD_counted64_85 : decode b_MD_counted64 85 = .ok (.if_icmp .ne 15, 3) := bz_c160 (by decide +kernel)
theorem d_MD_counted64_88 : decode b_MD_counted64 88 = .ok (.lload_n 1, 1) := bz_c31 (by decide +kernel)
theorem d_MD_counted64_89 : decode b_MD_counted64 89 = .ok (.lconst 0, 1) := bz_c9 (by decide +kernel)
theorem d_MD_counted64_90 : decode b_MD_counted64 90 = .ok (.lcmp, 1) := bz_c148 (by decide +kernel)
theorem d_MD_counted64_91 : decode b_MD_counted64 91 = .ok (.ifCond .ne 9, 3) := bz_c154 (by decide +kernel)
theorem d_MD_counted64_94 : decode b_MD_counted64 94 = .ok (.ldc2_w 403, 3) := bz_c20 (by decide +kernel)
theorem d_MD_counted64_97 : decode b_MD_counted64 97 = .ok (.goto 5, 3) := bz_c167 (by decide +kernel)
theorem d_MD_counted64_100 : decode b_MD_counted64 100 = .ok (.iload_n 3, 1) := bz_c29 (by decide +kernel)
theorem d_MD_counted64_101 : decode b_MD_counted64 101 = .ok (.i2l, 1) := bz_c133 (by decide +kernel)
theorem d_MD_counted64_102 : decode b_MD_counted64 102 = .ok (.lreturn, 1) := bz_c173 (by decide +kernel)
theorem kL_MD_403 : Cond.constantLong R_MD 403 (64) ∈ lw_g := in_c12 136 rfl rfl
abbrev at_MD_counted64 (dC : Nat → ClassId) (dI : Nat → Nat → Nat)  (A : Nat → Prop) (u : Unit) (t : State) : Prop := match u with | _ => va_P (dC, dI) cls2 [] t.heap ∧ va_K (dC, dI) cls2 [] t ∧ va_D A []
set_option maxHeartbeats 4000000 in
set_option maxRecDepth 100000 in
theorem c_MD_counted64 (l : Launch) (dC : Nat → ClassId) (dI : Nat → Nat → Nat) (sz : Nat)    (p0 : Int32) (p1 : Int64)   : Met l y_MD_counted64 w_MD_counted64 ({ frames := 0, cells := 0, slots := 0, locals := 0 }) (va_Pc [.int p0, .long p1] (fun U => U.heap.size = sz ∧ va_P (dC, dI) cls2 [] U.heap ∧ va_K (dC, dI) cls2 [] U ∧ va_D (fun _ => True) [])) (va_Ql (fun (r : Int64) (u : Unit) => match u with | _ => (True)) (at_MD_counted64 dC dI  (va_A [] sz)) (va_A [] sz)) 0 0 (va_A [] sz) := by
  refine Met.ofW (cc := b_MD_counted64) (maxL := 5) (ret := (Option.some .long)) (by decide) rfl ?_
  intro p e s m args below meth c s₁ B hml hv
  obtain ⟨rfl, hsz, hP, hK, hD0⟩ := hv
  have hx := B.exec
  have hb := B.bytes
  have hr := B.returns
  have hts0 := atoms_spec (ws := w_MD_counted64) B.pre
  have hts : ∀ w ∈ lw_g, w.before _ s = true := fun w h => hts0 w (List.mem_cons_of_mem _ h)
  have hown : s.vm.findClass R_MD = some m.cls := findClass_of_methodNamed B.named
  have hlocks := B.notSynchronized
  clear hts0
  subst hsz
  have hD := hD0.self (sz := s.heap.size)
  generalize hAe : va_A [] s.heap.size = A at hD ⊢
  have hA : ∀ q : Nat, s.heap.size ≤ q → A q := fun q h => by rw [← hAe]; exact Or.inr h
  clear hAe
  have hP : va_P (dC, dI) cls2 [] s.heap := hP
  have hl := lv_entry ([.int p0, .long p1]) (n := 5) (Nat.le_of_ble_eq_true rfl)
  rw [lg_entry_eq]
  generalize (lg_sl ([.int p0, .long p1]) ++ List.replicate (5 - (lg_sl ([.int p0, .long p1])).length) Slot.unset).toArray = ls at hl ⊢
  have hl : lv_has ls 5 [(0, .int p0), (1, .long p1)] := hl
  have k0 : (0 : Int32).toInt = 0 := by decide
  refine w_gen (A := A) hP (fun H locs hP hS => ?_)
  have k1 : (1 : Int32).toInt = 1 := by decide
  have k64 : (64 : Int32).toInt = 64 := by decide
  have k103 : (103 : Int32).toInt = 103 := by decide
  have k104 : (104 : Int32).toInt = 104 := by decide
  have lo_p0 := i32_lo p0
  have hi_p0 := i32_hi p0
  refine lv_iconst (v := 0) hx hb d_MD_counted64_0 (by decide) ?_
  refine lv_istore_n (lv' := [(3, .int 0), (0, .int p0), (1, .long p1)]) hx hb d_MD_counted64_1 rfl hl (by decide) rfl (fun ls hl => ?_)
  refine lv_iload_n hx hb d_MD_counted64_2 rfl (lv_at hl 1 rfl) ?_
  refine lv_bipush (v := 103) hx hb d_MD_counted64_3 (by decide) ?_
  refine lv_icmp_ne (tgt := 28) hx hb d_MD_counted64_5 (by decide) (fun c5 => ?_) (fun c5 => ?_)
  · have q5 := neI c5
    refine lv_iload_n hx hb d_MD_counted64_28 rfl (lv_at hl 1 rfl) ?_
    refine lv_bipush (v := 104) hx hb d_MD_counted64_29 (by decide) ?_
    refine lv_icmp_ne (tgt := 56) hx hb d_MD_counted64_31 (by decide) (fun c31 => ?_) (fun c31 => ?_)
    · have q31 := neI c31
      refine lv_iconst (v := 0) hx hb d_MD_counted64_56 (by decide) ?_
      refine lv_istore (lv' := [(4, .int 0), (3, .int 0), (0, .int p0), (1, .long p1)]) hx hb d_MD_counted64_57 hl (by decide) rfl (fun ls hl => ?_)
      refine w_loop (σ := Int32 × Int32) (fun u H locs ls => match u with | (j59_l3, j59_l4) => (0 ≤ j59_l4.toInt ∧ j59_l4.toInt ≤ 64) ∧ va_P (dC, dI) cls2 [] H ∧ va_D A [] ∧ va_S A s.heap H locs ∧ lv_has ls 5 [(0, .int p0), (1, .long p1), (3, .int j59_l3), (4, .int j59_l4)]) (fun u => match u with | (j59_l3, j59_l4) => (64 - j59_l4.toInt).toNat) ?_ (0, 0) ⟨by (try dsimp only) <;> (first | (apply Int.le_antisymm <;> omega) | omega), hP, hD, hS, lv_sub hl [2, 3, 1, 0] rfl⟩
      intro N59 ih59 u H locs ls hN59 hI
      obtain ⟨j59_l3, j59_l4⟩ := u
      obtain ⟨b_j59_l4, hP, hD, hS, hl⟩ := hI
      have hN59 : (64 - j59_l4.toInt).toNat < N59 + 1 := hN59
      refine lv_iload hx hb d_MD_counted64_59 (lv_at hl 3 rfl) ?_
      refine lv_bipush (v := 64) hx hb d_MD_counted64_61 (by decide) ?_
      refine lv_icmp_ge (tgt := 82) hx hb d_MD_counted64_63 (by decide) (fun c63 => ?_) (fun c63 => ?_)
      · have q63 := leI c63
        refine lv_iload_n hx hb d_MD_counted64_82 rfl (lv_at hl 0 rfl) ?_
        refine lv_bipush (v := 103) hx hb d_MD_counted64_83 (by decide) ?_
        refine lv_icmp_ne (tgt := 100) hx hb d_MD_counted64_85 (by decide) (fun c85 => ?_) (fun c85 => ?_)
        · have q85 := neI c85
          refine lv_iload_n hx hb d_MD_counted64_100 rfl (lv_at hl 2 rfl) ?_
          refine lv_i2l hx hb d_MD_counted64_101 rfl ?_
          refine lv_topl (fun x1 ex1 => ?_)
          have tx1 := i2l_t ex1
          have hP9 := hP.sb (wq := []) [] rfl
          have hD9 := hD.sb (wq := []) [] (by decide) rfl
          exact W.lret (v := x1) hx hb hr (fun t ht hW => ⟨⟨x1, (), rfl, (trivial), va_P.he ht.symm hP9, va_K.moved hW.alike hK, hD9⟩, hS.F ht⟩) hS.2.2 d_MD_counted64_102
        · have q85 := eqI c85
          refine lv_lload_n hx hb d_MD_counted64_88 rfl (lv_at hl 1 rfl) ?_
          refine lv_lconst (v := 0) hx hb d_MD_counted64_89 (by decide) ?_
          have kl0 : (0 : Int64).toInt = 0 := by decide
          refine W.lcmp hx hb d_MD_counted64_90 ?_
          refine lv_topi (fun x2 ex2 => ?_)
          have tx2 := lgc ex2
          refine lv_if_ne (tgt := 100) hx hb d_MD_counted64_91 (by decide) (fun c91 => ?_) (fun c91 => ?_)
          · have q91 := neI c91
            refine lv_iload_n hx hb d_MD_counted64_100 rfl (lv_at hl 2 rfl) ?_
            refine lv_i2l hx hb d_MD_counted64_101 rfl ?_
            refine lv_topl (fun x3 ex3 => ?_)
            have tx3 := i2l_t ex3
            have hP9 := hP.sb (wq := []) [] rfl
            have hD9 := hD.sb (wq := []) [] (by decide) rfl
            exact W.lret (v := x3) hx hb hr (fun t ht hW => ⟨⟨x3, (), rfl, (trivial), va_P.he ht.symm hP9, va_K.moved hW.alike hK, hD9⟩, hS.F ht⟩) hS.2.2 d_MD_counted64_102
          · have q91 := eqI c91
            refine lv_ldc2 hx hb hown (hts _ kL_MD_403) d_MD_counted64_94 ?_
            refine lv_topl (fun x4 ex4 => ?_)
            have tx4 : x4.toInt = 64 := by rw [ex4]; decide
            refine lv_goto (tgt := 102) hx hb d_MD_counted64_97 (by decide) ?_
            have hP9 := hP.sb (wq := []) [] rfl
            have hD9 := hD.sb (wq := []) [] (by decide) rfl
            exact W.lret (v := x4) hx hb hr (fun t ht hW => ⟨⟨x4, (), rfl, (trivial), va_P.he ht.symm hP9, va_K.moved hW.alike hK, hD9⟩, hS.F ht⟩) hS.2.2 d_MD_counted64_102
      · have q63 := nleI c63
        refine lv_iload_n hx hb d_MD_counted64_66 rfl (lv_at hl 2 rfl) ?_
        refine lv_lload_n hx hb d_MD_counted64_67 rfl (lv_at hl 1 rfl) ?_
        refine lv_iload hx hb d_MD_counted64_68 (lv_at hl 3 rfl) ?_
        refine lv_lshr hx hb d_MD_counted64_70 rfl ?_
        refine lv_topl (fun x5 ex5 => ?_)
        refine lv_lconst (v := 1) hx hb d_MD_counted64_71 (by decide) ?_
        have kl1 : (1 : Int64).toInt = 1 := by decide
        refine lv_land hx hb d_MD_counted64_72 ?_
        refine lv_topl (fun x6 ex6 => ?_)
        refine lv_l2i hx hb d_MD_counted64_73 rfl ?_
        refine lv_topi (fun x7 ex7 => ?_)
        refine lv_iadd hx hb d_MD_counted64_74 ?_
        refine lv_topi (fun x8 ex8 => ?_)
        refine lv_istore_n (lv' := [(3, .int x8), (0, .int p0), (1, .long p1), (4, .int j59_l4)]) hx hb d_MD_counted64_75 rfl hl (by decide) rfl (fun ls hl => ?_)
        obtain ⟨x9, ex9⟩ : ∃ z : Int32, z = j59_l4 + 1 := ⟨_, rfl⟩
        have tx9 : x9.toInt = j59_l4.toInt + 1 := by have z := i32_add ex9 (by (first | (apply Int.le_antisymm <;> omega) | omega)) (by (first | (apply Int.le_antisymm <;> omega) | omega)); first | exact z | (first | (apply Int.le_antisymm <;> omega) | omega)
        refine lv_iinc (v := x9) (lv' := [(4, .int x9), (3, .int x8), (0, .int p0), (1, .long p1)]) hx hb d_MD_counted64_76 hl (k := 3) rfl (by rw [ex9]; rfl) (by decide) rfl (fun ls hl => ?_)
        refine lv_goto (tgt := 59) hx hb d_MD_counted64_79 (by decide) ?_
        exact ih59 (x8, x9) _ _ _ (by show (64 - x9.toInt).toNat < N59; (first | (apply Int.le_antisymm <;> omega) | omega)) ⟨by (try dsimp only) <;> (first | (apply Int.le_antisymm <;> omega) | omega), hP, hD, hS, lv_sub hl [2, 3, 1, 0] rfl⟩
    · have q31 := eqI c31
      refine w_loop (σ := Int32) (fun u H locs ls => match u with | j34_l3 => (0 ≤ j34_l3.toInt ∧ j34_l3.toInt ≤ 64) ∧ va_P (dC, dI) cls2 [] H ∧ va_D A [] ∧ va_S A s.heap H locs ∧ lv_has ls 5 [(0, .int p0), (1, .long p1), (3, .int j34_l3)]) (fun u => match u with | j34_l3 => (64 - j34_l3.toInt).toNat) ?_ 0 ⟨by (try dsimp only) <;> (first | (apply Int.le_antisymm <;> omega) | omega), hP, hD, hS, lv_sub hl [1, 2, 0] rfl⟩
      intro N34 ih34 u H locs ls hN34 hI
      obtain ⟨j34_l3, rfl⟩ : ∃ z, z = u := ⟨_, rfl⟩
      obtain ⟨b_j34_l3, hP, hD, hS, hl⟩ := hI
      have hN34 : (64 - j34_l3.toInt).toNat < N34 + 1 := hN34
      refine lv_iload_n hx hb d_MD_counted64_34 rfl (lv_at hl 2 rfl) ?_
      refine lv_bipush (v := 64) hx hb d_MD_counted64_35 (by decide) ?_
      refine lv_icmp_ge (tgt := 82) hx hb d_MD_counted64_37 (by decide) (fun c37 => ?_) (fun c37 => ?_)
      · have q37 := leI c37
        refine lv_iload_n hx hb d_MD_counted64_82 rfl (lv_at hl 0 rfl) ?_
        refine lv_bipush (v := 103) hx hb d_MD_counted64_83 (by decide) ?_
        refine lv_icmp_ne (tgt := 100) hx hb d_MD_counted64_85 (by decide) (fun c85 => ?_) (fun c85 => ?_)
        · have q85 := neI c85
          refine lv_iload_n hx hb d_MD_counted64_100 rfl (lv_at hl 2 rfl) ?_
          refine lv_i2l hx hb d_MD_counted64_101 rfl ?_
          refine lv_topl (fun x10 ex10 => ?_)
          have tx10 := i2l_t ex10
          have hP9 := hP.sb (wq := []) [] rfl
          have hD9 := hD.sb (wq := []) [] (by decide) rfl
          exact W.lret (v := x10) hx hb hr (fun t ht hW => ⟨⟨x10, (), rfl, (trivial), va_P.he ht.symm hP9, va_K.moved hW.alike hK, hD9⟩, hS.F ht⟩) hS.2.2 d_MD_counted64_102
        · have q85 := eqI c85
          refine lv_lload_n hx hb d_MD_counted64_88 rfl (lv_at hl 1 rfl) ?_
          refine lv_lconst (v := 0) hx hb d_MD_counted64_89 (by decide) ?_
          have kl0 : (0 : Int64).toInt = 0 := by decide
          refine W.lcmp hx hb d_MD_counted64_90 ?_
          refine lv_topi (fun x11 ex11 => ?_)
          have tx11 := lgc ex11
          refine lv_if_ne (tgt := 100) hx hb d_MD_counted64_91 (by decide) (fun c91 => ?_) (fun c91 => ?_)
          · have q91 := neI c91
            refine lv_iload_n hx hb d_MD_counted64_100 rfl (lv_at hl 2 rfl) ?_
            refine lv_i2l hx hb d_MD_counted64_101 rfl ?_
            refine lv_topl (fun x12 ex12 => ?_)
            have tx12 := i2l_t ex12
            have hP9 := hP.sb (wq := []) [] rfl
            have hD9 := hD.sb (wq := []) [] (by decide) rfl
            exact W.lret (v := x12) hx hb hr (fun t ht hW => ⟨⟨x12, (), rfl, (trivial), va_P.he ht.symm hP9, va_K.moved hW.alike hK, hD9⟩, hS.F ht⟩) hS.2.2 d_MD_counted64_102
          · have q91 := eqI c91
            refine lv_ldc2 hx hb hown (hts _ kL_MD_403) d_MD_counted64_94 ?_
            refine lv_topl (fun x13 ex13 => ?_)
            have tx13 : x13.toInt = 64 := by rw [ex13]; decide
            refine lv_goto (tgt := 102) hx hb d_MD_counted64_97 (by decide) ?_
            have hP9 := hP.sb (wq := []) [] rfl
            have hD9 := hD.sb (wq := []) [] (by decide) rfl
            exact W.lret (v := x13) hx hb hr (fun t ht hW => ⟨⟨x13, (), rfl, (trivial), va_P.he ht.symm hP9, va_K.moved hW.alike hK, hD9⟩, hS.F ht⟩) hS.2.2 d_MD_counted64_102
      · have q37 := nleI c37
        refine lv_lload_n hx hb d_MD_counted64_40 rfl (lv_at hl 1 rfl) ?_
        refine lv_iload_n hx hb d_MD_counted64_41 rfl (lv_at hl 2 rfl) ?_
        refine lv_lshr hx hb d_MD_counted64_42 rfl ?_
        refine lv_topl (fun x14 ex14 => ?_)
        refine lv_lconst (v := 1) hx hb d_MD_counted64_43 (by decide) ?_
        have kl1 : (1 : Int64).toInt = 1 := by decide
        refine lv_land hx hb d_MD_counted64_44 ?_
        refine lv_topl (fun x15 ex15 => ?_)
        refine lv_lconst (v := 0) hx hb d_MD_counted64_45 (by decide) ?_
        have kl0 : (0 : Int64).toInt = 0 := by decide
        refine W.lcmp hx hb d_MD_counted64_46 ?_
        refine lv_topi (fun x16 ex16 => ?_)
        have tx16 := lgc ex16
        refine lv_if_ne (tgt := 82) hx hb d_MD_counted64_47 (by decide) (fun c47 => ?_) (fun c47 => ?_)
        · have q47 := neI c47
          refine lv_iload_n hx hb d_MD_counted64_82 rfl (lv_at hl 0 rfl) ?_
          refine lv_bipush (v := 103) hx hb d_MD_counted64_83 (by decide) ?_
          refine lv_icmp_ne (tgt := 100) hx hb d_MD_counted64_85 (by decide) (fun c85 => ?_) (fun c85 => ?_)
          · have q85 := neI c85
            refine lv_iload_n hx hb d_MD_counted64_100 rfl (lv_at hl 2 rfl) ?_
            refine lv_i2l hx hb d_MD_counted64_101 rfl ?_
            refine lv_topl (fun x17 ex17 => ?_)
            have tx17 := i2l_t ex17
            have hP9 := hP.sb (wq := []) [] rfl
            have hD9 := hD.sb (wq := []) [] (by decide) rfl
            exact W.lret (v := x17) hx hb hr (fun t ht hW => ⟨⟨x17, (), rfl, (trivial), va_P.he ht.symm hP9, va_K.moved hW.alike hK, hD9⟩, hS.F ht⟩) hS.2.2 d_MD_counted64_102
          · have q85 := eqI c85
            refine lv_lload_n hx hb d_MD_counted64_88 rfl (lv_at hl 1 rfl) ?_
            refine lv_lconst (v := 0) hx hb d_MD_counted64_89 (by decide) ?_
            have kl0 : (0 : Int64).toInt = 0 := by decide
            refine W.lcmp hx hb d_MD_counted64_90 ?_
            refine lv_topi (fun x18 ex18 => ?_)
            have tx18 := lgc ex18
            refine lv_if_ne (tgt := 100) hx hb d_MD_counted64_91 (by decide) (fun c91 => ?_) (fun c91 => ?_)
            · have q91 := neI c91
              refine lv_iload_n hx hb d_MD_counted64_100 rfl (lv_at hl 2 rfl) ?_
              refine lv_i2l hx hb d_MD_counted64_101 rfl ?_
              refine lv_topl (fun x19 ex19 => ?_)
              have tx19 := i2l_t ex19
              have hP9 := hP.sb (wq := []) [] rfl
              have hD9 := hD.sb (wq := []) [] (by decide) rfl
              exact W.lret (v := x19) hx hb hr (fun t ht hW => ⟨⟨x19, (), rfl, (trivial), va_P.he ht.symm hP9, va_K.moved hW.alike hK, hD9⟩, hS.F ht⟩) hS.2.2 d_MD_counted64_102
            · have q91 := eqI c91
              refine lv_ldc2 hx hb hown (hts _ kL_MD_403) d_MD_counted64_94 ?_
              refine lv_topl (fun x20 ex20 => ?_)
              have tx20 : x20.toInt = 64 := by rw [ex20]; decide
              refine lv_goto (tgt := 102) hx hb d_MD_counted64_97 (by decide) ?_
              have hP9 := hP.sb (wq := []) [] rfl
              have hD9 := hD.sb (wq := []) [] (by decide) rfl
              exact W.lret (v := x20) hx hb hr (fun t ht hW => ⟨⟨x20, (), rfl, (trivial), va_P.he ht.symm hP9, va_K.moved hW.alike hK, hD9⟩, hS.F ht⟩) hS.2.2 d_MD_counted64_102
        · have q47 := eqI c47
          obtain ⟨x21, ex21⟩ : ∃ z : Int32, z = j34_l3 + 1 := ⟨_, rfl⟩
          have tx21 : x21.toInt = j34_l3.toInt + 1 := by have z := i32_add ex21 (by (first | (apply Int.le_antisymm <;> omega) | omega)) (by (first | (apply Int.le_antisymm <;> omega) | omega)); first | exact z | (first | (apply Int.le_antisymm <;> omega) | omega)
          refine lv_iinc (v := x21) (lv' := [(3, .int x21), (0, .int p0), (1, .long p1)]) hx hb d_MD_counted64_50 hl (k := 2) rfl (by rw [ex21]; rfl) (by decide) rfl (fun ls hl => ?_)
          refine lv_goto (tgt := 34) hx hb d_MD_counted64_53 (by decide) ?_
          exact ih34 x21 _ _ _ (by show (64 - x21.toInt).toNat < N34; (first | (apply Int.le_antisymm <;> omega) | omega)) ⟨by (try dsimp only) <;> (first | (apply Int.le_antisymm <;> omega) | omega), hP, hD, hS, lv_sub hl [1, 2, 0] rfl⟩
  · have q5 := eqI c5
    refine w_loop (σ := Int32) (fun u H locs ls => match u with | j8_l3 => (0 ≤ j8_l3.toInt ∧ j8_l3.toInt ≤ 64) ∧ va_P (dC, dI) cls2 [] H ∧ va_D A [] ∧ va_S A s.heap H locs ∧ lv_has ls 5 [(0, .int p0), (1, .long p1), (3, .int j8_l3)]) (fun u => match u with | j8_l3 => (64 - j8_l3.toInt).toNat) ?_ 0 ⟨by (try dsimp only) <;> (first | (apply Int.le_antisymm <;> omega) | omega), hP, hD, hS, lv_sub hl [1, 2, 0] rfl⟩
    intro N8 ih8 u H locs ls hN8 hI
    obtain ⟨j8_l3, rfl⟩ : ∃ z, z = u := ⟨_, rfl⟩
    obtain ⟨b_j8_l3, hP, hD, hS, hl⟩ := hI
    have hN8 : (64 - j8_l3.toInt).toNat < N8 + 1 := hN8
    refine lv_iload_n hx hb d_MD_counted64_8 rfl (lv_at hl 2 rfl) ?_
    refine lv_bipush (v := 64) hx hb d_MD_counted64_9 (by decide) ?_
    refine lv_icmp_ge (tgt := 82) hx hb d_MD_counted64_11 (by decide) (fun c11 => ?_) (fun c11 => ?_)
    · have q11 := leI c11
      refine lv_iload_n hx hb d_MD_counted64_82 rfl (lv_at hl 0 rfl) ?_
      refine lv_bipush (v := 103) hx hb d_MD_counted64_83 (by decide) ?_
      refine lv_icmp_ne (tgt := 100) hx hb d_MD_counted64_85 (by decide) (fun c85 => ?_) (fun c85 => ?_)
      · have q85 := neI c85
        refine lv_iload_n hx hb d_MD_counted64_100 rfl (lv_at hl 2 rfl) ?_
        refine lv_i2l hx hb d_MD_counted64_101 rfl ?_
        refine lv_topl (fun x22 ex22 => ?_)
        have tx22 := i2l_t ex22
        have hP9 := hP.sb (wq := []) [] rfl
        have hD9 := hD.sb (wq := []) [] (by decide) rfl
        exact W.lret (v := x22) hx hb hr (fun t ht hW => ⟨⟨x22, (), rfl, (trivial), va_P.he ht.symm hP9, va_K.moved hW.alike hK, hD9⟩, hS.F ht⟩) hS.2.2 d_MD_counted64_102
      · have q85 := eqI c85
        refine lv_lload_n hx hb d_MD_counted64_88 rfl (lv_at hl 1 rfl) ?_
        refine lv_lconst (v := 0) hx hb d_MD_counted64_89 (by decide) ?_
        have kl0 : (0 : Int64).toInt = 0 := by decide
        refine W.lcmp hx hb d_MD_counted64_90 ?_
        refine lv_topi (fun x23 ex23 => ?_)
        have tx23 := lgc ex23
        refine lv_if_ne (tgt := 100) hx hb d_MD_counted64_91 (by decide) (fun c91 => ?_) (fun c91 => ?_)
        · have q91 := neI c91
          refine lv_iload_n hx hb d_MD_counted64_100 rfl (lv_at hl 2 rfl) ?_
          refine lv_i2l hx hb d_MD_counted64_101 rfl ?_
          refine lv_topl (fun x24 ex24 => ?_)
          have tx24 := i2l_t ex24
          have hP9 := hP.sb (wq := []) [] rfl
          have hD9 := hD.sb (wq := []) [] (by decide) rfl
          exact W.lret (v := x24) hx hb hr (fun t ht hW => ⟨⟨x24, (), rfl, (trivial), va_P.he ht.symm hP9, va_K.moved hW.alike hK, hD9⟩, hS.F ht⟩) hS.2.2 d_MD_counted64_102
        · have q91 := eqI c91
          refine lv_ldc2 hx hb hown (hts _ kL_MD_403) d_MD_counted64_94 ?_
          refine lv_topl (fun x25 ex25 => ?_)
          have tx25 : x25.toInt = 64 := by rw [ex25]; decide
          refine lv_goto (tgt := 102) hx hb d_MD_counted64_97 (by decide) ?_
          have hP9 := hP.sb (wq := []) [] rfl
          have hD9 := hD.sb (wq := []) [] (by decide) rfl
          exact W.lret (v := x25) hx hb hr (fun t ht hW => ⟨⟨x25, (), rfl, (trivial), va_P.he ht.symm hP9, va_K.moved hW.alike hK, hD9⟩, hS.F ht⟩) hS.2.2 d_MD_counted64_102
    · have q11 := nleI c11
      refine lv_lload_n hx hb d_MD_counted64_14 rfl (lv_at hl 1 rfl) ?_
      refine lv_iload_n hx hb d_MD_counted64_15 rfl (lv_at hl 2 rfl) ?_
      refine lv_lshl hx hb d_MD_counted64_16 rfl ?_
      refine lv_topl (fun x26 ex26 => ?_)
      refine lv_lconst (v := 0) hx hb d_MD_counted64_17 (by decide) ?_
      have kl0 : (0 : Int64).toInt = 0 := by decide
      refine W.lcmp hx hb d_MD_counted64_18 ?_
      refine lv_topi (fun x27 ex27 => ?_)
      have tx27 := lgc ex27
      refine lv_if_lt (tgt := 82) hx hb d_MD_counted64_19 (by decide) (fun c19 => ?_) (fun c19 => ?_)
      · have q19 := ltI c19
        refine lv_iload_n hx hb d_MD_counted64_82 rfl (lv_at hl 0 rfl) ?_
        refine lv_bipush (v := 103) hx hb d_MD_counted64_83 (by decide) ?_
        refine lv_icmp_ne (tgt := 100) hx hb d_MD_counted64_85 (by decide) (fun c85 => ?_) (fun c85 => ?_)
        · have q85 := neI c85
          refine lv_iload_n hx hb d_MD_counted64_100 rfl (lv_at hl 2 rfl) ?_
          refine lv_i2l hx hb d_MD_counted64_101 rfl ?_
          refine lv_topl (fun x28 ex28 => ?_)
          have tx28 := i2l_t ex28
          have hP9 := hP.sb (wq := []) [] rfl
          have hD9 := hD.sb (wq := []) [] (by decide) rfl
          exact W.lret (v := x28) hx hb hr (fun t ht hW => ⟨⟨x28, (), rfl, (trivial), va_P.he ht.symm hP9, va_K.moved hW.alike hK, hD9⟩, hS.F ht⟩) hS.2.2 d_MD_counted64_102
        · have q85 := eqI c85
          refine lv_lload_n hx hb d_MD_counted64_88 rfl (lv_at hl 1 rfl) ?_
          refine lv_lconst (v := 0) hx hb d_MD_counted64_89 (by decide) ?_
          have kl0 : (0 : Int64).toInt = 0 := by decide
          refine W.lcmp hx hb d_MD_counted64_90 ?_
          refine lv_topi (fun x29 ex29 => ?_)
          have tx29 := lgc ex29
          refine lv_if_ne (tgt := 100) hx hb d_MD_counted64_91 (by decide) (fun c91 => ?_) (fun c91 => ?_)
          · have q91 := neI c91
            refine lv_iload_n hx hb d_MD_counted64_100 rfl (lv_at hl 2 rfl) ?_
            refine lv_i2l hx hb d_MD_counted64_101 rfl ?_
            refine lv_topl (fun x30 ex30 => ?_)
            have tx30 := i2l_t ex30
            have hP9 := hP.sb (wq := []) [] rfl
            have hD9 := hD.sb (wq := []) [] (by decide) rfl
            exact W.lret (v := x30) hx hb hr (fun t ht hW => ⟨⟨x30, (), rfl, (trivial), va_P.he ht.symm hP9, va_K.moved hW.alike hK, hD9⟩, hS.F ht⟩) hS.2.2 d_MD_counted64_102
          · have q91 := eqI c91
            refine lv_ldc2 hx hb hown (hts _ kL_MD_403) d_MD_counted64_94 ?_
            refine lv_topl (fun x31 ex31 => ?_)
            have tx31 : x31.toInt = 64 := by rw [ex31]; decide
            refine lv_goto (tgt := 102) hx hb d_MD_counted64_97 (by decide) ?_
            have hP9 := hP.sb (wq := []) [] rfl
            have hD9 := hD.sb (wq := []) [] (by decide) rfl
            exact W.lret (v := x31) hx hb hr (fun t ht hW => ⟨⟨x31, (), rfl, (trivial), va_P.he ht.symm hP9, va_K.moved hW.alike hK, hD9⟩, hS.F ht⟩) hS.2.2 d_MD_counted64_102
      · have q19 := nltI c19
        obtain ⟨x32, ex32⟩ : ∃ z : Int32, z = j8_l3 + 1 := ⟨_, rfl⟩
        have tx32 : x32.toInt = j8_l3.toInt + 1 := by have z := i32_add ex32 (by (first | (apply Int.le_antisymm <;> omega) | omega)) (by (first | (apply Int.le_antisymm <;> omega) | omega)); first | exact z | (first | (apply Int.le_antisymm <;> omega) | omega)
        refine lv_iinc (v := x32) (lv' := [(3, .int x32), (0, .int p0), (1, .long p1)]) hx hb d_MD_counted64_22 hl (k := 2) rfl (by rw [ex32]; rfl) (by decide) rfl (fun ls hl => ?_)
        refine lv_goto (tgt := 8) hx hb d_MD_counted64_25 (by decide) ?_
        exact ih8 x32 _ _ _ (by show (64 - x32.toInt).toNat < N8; (first | (apply Int.le_antisymm <;> omega) | omega)) ⟨by (try dsimp only) <;> (first | (apply Int.le_antisymm <;> omega) | omega), hP, hD, hS, lv_sub hl [1, 2, 0] rfl⟩
abbrev b_MD_compared : ByteArray := prog_15_method_96_code
def y_MD_compared : MethodName := ⟨R_MD, "compared", "(IJJZ)J"⟩
abbrev w_MD_compared : List Cond := .code y_MD_compared b_MD_compared 12 (Option.some .long) :: lw_g
theorem kC_MD_compared : Cond.code y_MD_compared b_MD_compared 12 (Option.some .long) ∈ lw_g := in_c13 192 rfl rfl
theorem d_MD_compared_0 : decode b_MD_compared 0 = .ok (.iload_n 0, 1) := bz_c26 (by decide +kernel)
theorem d_MD_compared_1 : decode b_MD_compared 1 = .ok (.bipush 73, 2) := bz_c16 (by decide +kernel)
theorem d_MD_compared_3 : decode b_MD_compared 3 = .ok (.if_icmp .eq 21, 3) := bz_c159 (by decide +kernel)
theorem d_MD_compared_6 : decode b_MD_compared 6 = .ok (.iload_n 0, 1) := bz_c26 (by decide +kernel)
theorem d_MD_compared_7 : decode b_MD_compared 7 = .ok (.bipush 75, 2) := bz_c16 (by decide +kernel)
theorem d_MD_compared_9 : decode b_MD_compared 9 = .ok (.if_icmp .eq 15, 3) := bz_c159 (by decide +kernel)
theorem d_MD_compared_12 : decode b_MD_compared 12 = .ok (.iload_n 0, 1) := bz_c26 (by decide +kernel)
theorem d_MD_compared_13 : decode b_MD_compared 13 = .ok (.bipush 77, 2) := bz_c16 (by decide +kernel)
theorem d_MD_compared_15 : decode b_MD_compared 15 = .ok (.if_icmp .eq 9, 3) := bz_c159 (by decide +kernel)
theorem d_MD_compared_18 : decode b_MD_compared 18 = .ok (.iload_n 0, 1) := bz_c26 (by decide +kernel)
theorem d_MD_compared_19 : decode b_MD_compared 19 = .ok (.bipush 79, 2) := bz_c16 (by decide +kernel)
theorem d_MD_compared_21 : decode b_MD_compared 21 = .ok (.if_icmp .ne 7, 3) := bz_c160 (by decide +kernel)
theorem d_MD_compared_24 : decode b_MD_compared 24 = .ok (.iconst 1, 1) := bz_c4 (by decide +kernel)
theorem d_MD_compared_25 : decode b_MD_compared 25 = .ok (.goto 4, 3) := bz_c167 (by decide +kernel)
theorem d_MD_compared_28 : decode b_MD_compared 28 = .ok (.iconst 0, 1) := bz_c3 (by decide +kernel)
theorem d_MD_compared_29 : decode b_MD_compared 29 = .ok (.istore 6, 2) := bz_c54 (by decide +kernel)
theorem d_MD_compared_31 : decode b_MD_compared 31 = .ok (.iload 6, 2) := bz_c21 (by decide +kernel)
theorem d_MD_compared_33 : decode b_MD_compared 33 = .ok (.ifCond .eq 11, 3) := bz_c153 (by decide +kernel)
theorem d_MD_compared_36 : decode b_MD_compared 36 = .ok (.lload_n 1, 1) := bz_c31 (by decide +kernel)
theorem d_MD_compared_37 : decode b_MD_compared 37 = .ok (.ldc2_w 803, 3) := bz_c20 (by decide +kernel)
theorem d_MD_compared_40 : decode b_MD_compared 40 = .ok (.ladd, 1) := bz_c97 (by decide +kernel)
theorem d_MD_compared_41 : decode b_MD_compared 41 = .ok (.goto 4, 3) := bz_c167 (by decide +kernel)
theorem d_MD_compared_44 : decode b_MD_compared 44 = .ok (.lload_n 1, 1) := bz_c31 (by decide +kernel)
theorem d_MD_compared_45 : decode b_MD_compared 45 = .ok (.lstore 7, 2) := bz_c55 (by decide +kernel)
theorem d_MD_compared_47 : decode b_MD_compared 47 = .ok (.iload 6, 2) := bz_c21 (by decide +kernel)
theorem d_MD_compared_49 : decode b_MD_compared 49 = .ok (.ifCond .eq 11, 3) := bz_c153 (by decide +kernel)
theorem d_MD_compared_52 : decode b_MD_compared 52 = .ok (.lload_n 3, 1) := bz_c33 (by decide +kernel)
theorem d_MD_compared_53 : decode b_MD_compared 53 = .ok (.ldc2_w 803, 3) := bz_c20 (by decide +kernel)
theorem d_MD_compared_56 : decode b_MD_compared 56 = .ok (.ladd, 1) := bz_c97 (by decide +kernel)
theorem d_MD_compared_57 : decode b_MD_compared 57 = .ok (.goto 4, 3) := bz_c167 (by decide +kernel)
theorem d_MD_compared_60 : decode b_MD_compared 60 = .ok (.lload_n 3, 1) := bz_c33 (by decide +kernel)
theorem d_MD_compared_61 : decode b_MD_compared 61 = .ok (.lstore 9, 2) := bz_c55 (by decide +kernel)
theorem d_MD_compared_63 : decode b_MD_compared 63 = .ok (.iload_n 0, 1) := bz_c26 (by decide +kernel)
theorem d_MD_compared_64 : decode b_MD_compared 64 = .ok (.bipush 70, 2) := bz_c16 (by decide +kernel)
theorem d_MD_compared_66 : decode b_MD_compared 66 = .ok (.if_icmp .ne 19, 3) := bz_c160 (by decide +kernel)
theorem d_MD_compared_69 : decode b_MD_compared 69 = .ok (.lload 7, 2) := bz_c22 (by decide +kernel)
theorem d_MD_compared_71 : decode b_MD_compared 71 = .ok (.lload 9, 2) := bz_c22 (by decide +kernel)
theorem d_MD_compared_73 : decode b_MD_compared 73 = .ok (.lcmp, 1) := bz_c148 (by decide +kernel)
theorem d_MD_compared_74 : decode b_MD_compared 74 = .ok (.ifCond .ne 7, 3) := bz_c154 (by decide +kernel)
theorem d_MD_compared_77 : decode b_MD_compared 77 = .ok (.iconst 1, 1) := bz_c4 (by decide +kernel)
theorem d_MD_compared_78 : decode b_MD_compared 78 = .ok (.goto 108, 3) := bz_c167 (by decide +kernel)
theorem d_MD_compared_81 : decode b_MD_compared 81 = .ok (.iconst 0, 1) := bz_c3 (by decide +kernel)
theorem d_MD_compared_82 : decode b_MD_compared 82 = .ok (.goto 104, 3) := bz_c167 (by decide +kernel)
theorem d_MD_compared_85 : decode b_MD_compared 85 = .ok (.iload_n 0, 1) := bz_c26 (by decide +kernel)
theorem d_MD_compared_86 : decode b_MD_compared 86 = .ok (.bipush 71, 2) := bz_c16 (by decide +kernel)
theorem d_MD_compared_88 : decode b_MD_compared 88 = .ok (.if_icmp .ne 19, 3) := bz_c160 (by decide +kernel)
theorem d_MD_compared_91 : decode b_MD_compared 91 = .ok (.lload 7, 2) := bz_c22 (by decide +kernel)
theorem d_MD_compared_93 : decode b_MD_compared 93 = .ok (.lload 9, 2) := bz_c22 (by decide +kernel)
theorem d_MD_compared_95 : decode b_MD_compared 95 = .ok (.lcmp, 1) := bz_c148 (by decide +kernel)
theorem d_MD_compared_96 : decode b_MD_compared 96 = .ok (.ifCond .eq 7, 3) := bz_c153 (by decide +kernel)
theorem d_MD_compared_99 : decode b_MD_compared 99 = .ok (.iconst 1, 1) := bz_c4 (by decide +kernel)
theorem d_MD_compared_100 : decode b_MD_compared 100 = .ok (.goto 86, 3) := bz_c167 (by decide +kernel)
theorem d_MD_compared_103 : decode b_MD_compared 103 = .ok (.iconst 0, 1) := bz_c3 (by decide +kernel)
theorem d_MD_compared_104 : decode b_MD_compared 104 = .ok (.goto 82, 3) := bz_c167 (by decide +kernel)
theorem d_MD_compared_107 : decode b_MD_compared 107 = .ok (.iload_n 0, 1) := bz_c26 (by decide +kernel)
theorem d_MD_compared_108 : decode b_MD_compared 108 = .ok (.bipush 73, 2) := bz_c16 (by decide +kernel)
theorem d_MD_compared_110 : decode b_MD_compared 110 = .ok (.if_icmp .gt 19, 3) := bz_c163 (by decide +kernel)
theorem d_MD_compared_113 : decode b_MD_compared 113 = .ok (.lload 7, 2) := bz_c22 (by decide +kernel)
theorem d_MD_compared_115 : decode b_MD_compared 115 = .ok (.lload 9, 2) := bz_c22 (by decide +kernel)
theorem d_MD_compared_117 : decode b_MD_compared 117 = .ok (.lcmp, 1) := bz_c148 (by decide +kernel)
theorem d_MD_compared_118 : decode b_MD_compared 118 = .ok (.ifCond .ge 7, 3) := bz_c156 (by decide +kernel)
theorem d_MD_compared_121 : decode b_MD_compared 121 = .ok (.iconst 1, 1) := bz_c4 (by decide +kernel)
theorem d_MD_compared_122 : decode b_MD_compared 122 = .ok (.goto 64, 3) := bz_c167 (by decide +kernel)
theorem d_MD_compared_125 : decode b_MD_compared 125 = .ok (.iconst 0, 1) := bz_c3 (by decide +kernel)
theorem d_MD_compared_126 : decode b_MD_compared 126 = .ok (.goto 60, 3) := bz_c167 (by decide +kernel)
theorem d_MD_compared_129 : decode b_MD_compared 129 = .ok (.iload_n 0, 1) := bz_c26 (by decide +kernel)
theorem d_MD_compared_130 : decode b_MD_compared 130 = .ok (.bipush 75, 2) := bz_c16 (by decide +kernel)
theorem d_MD_compared_132 : decode b_MD_compared 132 = .ok (.if_icmp .gt 19, 3) := bz_c163 (by decide +kernel)
theorem d_MD_compared_135 : decode b_MD_compared 135 = .ok (.lload 7, 2) := bz_c22 (by decide +kernel)
theorem d_MD_compared_137 : decode b_MD_compared 137 = .ok (.lload 9, 2) := bz_c22 (by decide +kernel)
theorem d_MD_compared_139 : decode b_MD_compared 139 = .ok (.lcmp, 1) := bz_c148 (by decide +kernel)
theorem d_MD_compared_140 : decode b_MD_compared 140 = .ok (.ifCond .le 7, 3) := bz_c158 (by decide +kernel)
theorem d_MD_compared_143 : decode b_MD_compared 143 = .ok (.iconst 1, 1) := bz_c4 (by decide +kernel)
theorem d_MD_compared_144 : decode b_MD_compared 144 = .ok (.goto 42, 3) := bz_c167 (by decide +kernel)
theorem d_MD_compared_147 : decode b_MD_compared 147 = .ok (.iconst 0, 1) := bz_c3 (by decide +kernel)
theorem d_MD_compared_148 : decode b_MD_compared 148 = .ok (.goto 38, 3) := bz_c167 (by decide +kernel)
theorem d_MD_compared_151 : decode b_MD_compared 151 = .ok (.iload_n 0, 1) := bz_c26 (by decide +kernel)
theorem d_MD_compared_152 : decode b_MD_compared 152 = .ok (.bipush 77, 2) := bz_c16 (by decide +kernel)
theorem d_MD_compared_154 : decode b_MD_compared 154 = .ok (.if_icmp .gt 19, 3) := bz_c163 (by decide +kernel)
theorem d_MD_compared_157 : decode b_MD_compared 157 = .ok (.lload 7, 2) := bz_c22 (by decide +kernel)
theorem d_MD_compared_159 : decode b_MD_compared 159 = .ok (.lload 9, 2) := bz_c22 (by decide +kernel)
theorem d_MD_compared_161 : decode b_MD_compared 161 = .ok (.lcmp, 1) := bz_c148 (by decide +kernel)
theorem d_MD_compared_162 : decode b_MD_compared 162 = .ok (.ifCond .gt 7, 3) := bz_c157 (by decide +kernel)
theorem d_MD_compared_165 : decode b_MD_compared 165 = .ok (.iconst 1, 1) := bz_c4 (by decide +kernel)
theorem d_MD_compared_166 : decode b_MD_compared 166 = .ok (.goto 20, 3) := bz_c167 (by decide +kernel)
theorem d_MD_compared_169 : decode b_MD_compared 169 = .ok (.iconst 0, 1) := bz_c3 (by decide +kernel)
theorem d_MD_compared_170 : decode b_MD_compared 170 = .ok (.goto 16, 3) := bz_c167 (by decide +kernel)
theorem d_MD_compared_173 : decode b_MD_compared 173 = .ok (.lload 7, 2) := bz_c22 (by decide +kernel)
theorem d_MD_compared_175 : decode b_MD_compared 175 = .ok (.lload 9, 2) := bz_c22 (by decide +kernel)
theorem d_MD_compared_177 : decode b_MD_compared 177 = .ok (.lcmp, 1) := bz_c148 (by decide +kernel)
theorem d_MD_compared_178 : decode b_MD_compared 178 = .ok (.ifCond .lt 7, 3) := bz_c155 (by decide +kernel)
theorem d_MD_compared_181 : decode b_MD_compared 181 = .ok (.iconst 1, 1) := bz_c4 (by decide +kernel)
theorem d_MD_compared_182 : decode b_MD_compared 182 = .ok (.goto 4, 3) := bz_c167 (by decide +kernel)
theorem d_MD_compared_185 : decode b_MD_compared 185 = .ok (.iconst 0, 1) := bz_c3 (by decide +kernel)
theorem d_MD_compared_186 : decode b_MD_compared 186 = .ok (.istore 11, 2) := bz_c54 (by decide +kernel)
theorem d_MD_compared_188 : decode b_MD_compared 188 = .ok (.iload 11, 2) := bz_c21 (by decide +kernel)
theorem d_MD_compared_190 : decode b_MD_compared 190 = .ok (.ifCond .eq 7, 3) := bz_c153 (by decide +kernel)
theorem d_MD_compared_193 : decode b_MD_compared 193 = .ok (.lconst 1, 1) := bz_c10 (by decide +kernel)
theorem d_MD_compared_194 : decode b_MD_compared 194 = .ok (.goto 4, 3) := bz_c167 (by decide +kernel)
theorem d_MD_compared_197 : decode b_MD_compared 197 = .ok (.lconst 0, 1) := bz_c9 (by decide +kernel)
theorem d_MD_compared_198 : decode b_MD_compared 198 = .ok (.lreturn, 1) := bz_c173 (by decide +kernel)
theorem kL_MD_803 : Cond.constantLong R_MD 803 (-9223372036854775808) ∈ lw_g := in_c13 193 rfl rfl
abbrev at_MD_compared (dC : Nat → ClassId) (dI : Nat → Nat → Nat)  (A : Nat → Prop) (u : Unit) (t : State) : Prop := match u with | _ => va_P (dC, dI) cls2 [] t.heap ∧ va_K (dC, dI) cls2 [] t ∧ va_D A []
set_option maxHeartbeats 4000000 in
set_option maxRecDepth 100000 in
theorem c_MD_compared (l : Launch) (dC : Nat → ClassId) (dI : Nat → Nat → Nat) (sz : Nat)    (p0 : Int32) (p1 : Int64) (p2 : Int64) (p3 : Int32)   : Met l y_MD_compared w_MD_compared ({ frames := 0, cells := 0, slots := 0, locals := 0 }) (va_Pc [.int p0, .long p1, .long p2, .int p3] (fun U => U.heap.size = sz ∧ va_P (dC, dI) cls2 [] U.heap ∧ va_K (dC, dI) cls2 [] U ∧ va_D (fun _ => True) [])) (va_Ql (fun (r : Int64) (u : Unit) => match u with | _ => (0 ≤ r.toInt ∧ r.toInt ≤ 1)) (at_MD_compared dC dI  (va_A [] sz)) (va_A [] sz)) 0 0 (va_A [] sz) := by
  refine Met.ofW (cc := b_MD_compared) (maxL := 12) (ret := (Option.some .long)) (by decide) rfl ?_
  intro p e s m args below meth c s₁ B hml hv
  obtain ⟨rfl, hsz, hP, hK, hD0⟩ := hv
  have hx := B.exec
  have hb := B.bytes
  have hr := B.returns
  have hts0 := atoms_spec (ws := w_MD_compared) B.pre
  have hts : ∀ w ∈ lw_g, w.before _ s = true := fun w h => hts0 w (List.mem_cons_of_mem _ h)
  have hown : s.vm.findClass R_MD = some m.cls := findClass_of_methodNamed B.named
  have hlocks := B.notSynchronized
  clear hts0
  subst hsz
  have hD := hD0.self (sz := s.heap.size)
  generalize hAe : va_A [] s.heap.size = A at hD ⊢
  have hA : ∀ q : Nat, s.heap.size ≤ q → A q := fun q h => by rw [← hAe]; exact Or.inr h
  clear hAe
  have hP : va_P (dC, dI) cls2 [] s.heap := hP
  have hl := lv_entry ([.int p0, .long p1, .long p2, .int p3]) (n := 12) (Nat.le_of_ble_eq_true rfl)
  rw [lg_entry_eq]
  generalize (lg_sl ([.int p0, .long p1, .long p2, .int p3]) ++ List.replicate (12 - (lg_sl ([.int p0, .long p1, .long p2, .int p3])).length) Slot.unset).toArray = ls at hl ⊢
  have hl : lv_has ls 12 [(0, .int p0), (1, .long p1), (3, .long p2), (5, .int p3)] := hl
  have k0 : (0 : Int32).toInt = 0 := by decide
  refine w_gen (A := A) hP (fun H locs hP hS => ?_)
  have k1 : (1 : Int32).toInt = 1 := by decide
  have k70 : (70 : Int32).toInt = 70 := by decide
  have k71 : (71 : Int32).toInt = 71 := by decide
  have k73 : (73 : Int32).toInt = 73 := by decide
  have k75 : (75 : Int32).toInt = 75 := by decide
  have k77 : (77 : Int32).toInt = 77 := by decide
  have k79 : (79 : Int32).toInt = 79 := by decide
  have lo_p0 := i32_lo p0
  have hi_p0 := i32_hi p0
  have lo_p3 := i32_lo p3
  have hi_p3 := i32_hi p3
  refine lv_iload_n hx hb d_MD_compared_0 rfl (lv_at hl 0 rfl) ?_
  refine lv_bipush (v := 73) hx hb d_MD_compared_1 (by decide) ?_
  refine w_cut (pc2 := 29) (σ := Int32) (fun u H locs ls => match u with | j29_s0 => (j29_s0 = 0 ∨ j29_s0 = 1) ∧ va_P (dC, dI) cls2 [] H ∧ va_D A [] ∧ va_S A s.heap H locs ∧ lv_has ls 12 [(0, .int p0), (1, .long p1), (3, .long p2)]) (fun u => match u with | j29_s0 => [.int j29_s0]) ?_ (fun jn29 => ?_)
  · intro u H locs ls hI
    obtain ⟨j29_s0, rfl⟩ : ∃ z, z = u := ⟨_, rfl⟩
    obtain ⟨b_j29_s0, hP, hD, hS, hl⟩ := hI
    have tj29_s0 := b01 b_j29_s0
    refine lv_istore (lv' := [(6, .int j29_s0), (0, .int p0), (1, .long p1), (3, .long p2)]) hx hb d_MD_compared_29 hl (by decide) rfl (fun ls hl => ?_)
    refine lv_iload hx hb d_MD_compared_31 (lv_at hl 0 rfl) ?_
    refine w_cut (pc2 := 45) (σ := Int64) (fun u H locs ls => match u with | j45_s0 => va_P (dC, dI) cls2 [] H ∧ va_D A [] ∧ va_S A s.heap H locs ∧ lv_has ls 12 [(0, .int p0), (3, .long p2), (6, .int j29_s0)]) (fun u => match u with | j45_s0 => [.long j45_s0]) ?_ (fun jn45 => ?_)
    · intro u H locs ls hI
      obtain ⟨j45_s0, rfl⟩ : ∃ z, z = u := ⟨_, rfl⟩
      obtain ⟨hP, hD, hS, hl⟩ := hI
      refine lv_lstore (lv' := [(7, .long j45_s0), (0, .int p0), (3, .long p2), (6, .int j29_s0)]) hx hb d_MD_compared_45 hl (by decide) rfl (fun ls hl => ?_)
      refine lv_iload hx hb d_MD_compared_47 (lv_at hl 3 rfl) ?_
      refine w_cut (pc2 := 61) (σ := Int64) (fun u H locs ls => match u with | j61_s0 => va_P (dC, dI) cls2 [] H ∧ va_D A [] ∧ va_S A s.heap H locs ∧ lv_has ls 12 [(0, .int p0), (7, .long j45_s0)]) (fun u => match u with | j61_s0 => [.long j61_s0]) ?_ (fun jn61 => ?_)
      · intro u H locs ls hI
        obtain ⟨j61_s0, rfl⟩ : ∃ z, z = u := ⟨_, rfl⟩
        obtain ⟨hP, hD, hS, hl⟩ := hI
        refine lv_lstore (lv' := [(9, .long j61_s0), (0, .int p0), (7, .long j45_s0)]) hx hb d_MD_compared_61 hl (by decide) rfl (fun ls hl => ?_)
        refine lv_iload_n hx hb d_MD_compared_63 rfl (lv_at hl 1 rfl) ?_
        refine lv_bipush (v := 70) hx hb d_MD_compared_64 (by decide) ?_
        refine w_cut (pc2 := 186) (σ := Int32) (fun u H locs ls => match u with | j186_s0 => (j186_s0 = 0 ∨ j186_s0 = 1) ∧ va_P (dC, dI) cls2 [] H ∧ va_D A [] ∧ va_S A s.heap H locs ∧ lv_has ls 12 []) (fun u => match u with | j186_s0 => [.int j186_s0]) ?_ (fun jn186 => ?_)
        · intro u H locs ls hI
          obtain ⟨j186_s0, rfl⟩ : ∃ z, z = u := ⟨_, rfl⟩
          obtain ⟨b_j186_s0, hP, hD, hS, hl⟩ := hI
          have tj186_s0 := b01 b_j186_s0
          refine lv_istore (lv' := [(11, .int j186_s0)]) hx hb d_MD_compared_186 hl (by decide) rfl (fun ls hl => ?_)
          refine lv_iload hx hb d_MD_compared_188 (lv_at hl 0 rfl) ?_
          refine lv_if_eq (tgt := 197) hx hb d_MD_compared_190 (by decide) (fun c190 => ?_) (fun c190 => ?_)
          · have q190 := eqI c190
            refine lv_lconst (v := 0) hx hb d_MD_compared_197 (by decide) ?_
            have kl0 : (0 : Int64).toInt = 0 := by decide
            have hP9 := hP.sb (wq := []) [] rfl
            have hD9 := hD.sb (wq := []) [] (by decide) rfl
            exact W.lret (v := 0) hx hb hr (fun t ht hW => ⟨⟨0, (), rfl, (⟨by decide, by decide⟩), va_P.he ht.symm hP9, va_K.moved hW.alike hK, hD9⟩, hS.F ht⟩) hS.2.2 d_MD_compared_198
          · have q190 := neI c190
            refine lv_lconst (v := 1) hx hb d_MD_compared_193 (by decide) ?_
            have kl1 : (1 : Int64).toInt = 1 := by decide
            refine lv_goto (tgt := 198) hx hb d_MD_compared_194 (by decide) ?_
            have hP9 := hP.sb (wq := []) [] rfl
            have hD9 := hD.sb (wq := []) [] (by decide) rfl
            exact W.lret (v := 1) hx hb hr (fun t ht hW => ⟨⟨1, (), rfl, (⟨by decide, by decide⟩), va_P.he ht.symm hP9, va_K.moved hW.alike hK, hD9⟩, hS.F ht⟩) hS.2.2 d_MD_compared_198
        · skip
          refine lv_icmp_ne (tgt := 85) hx hb d_MD_compared_66 (by decide) (fun c66 => ?_) (fun c66 => ?_)
          · have q66 := neI c66
            refine lv_iload_n hx hb d_MD_compared_85 rfl (lv_at hl 1 rfl) ?_
            refine lv_bipush (v := 71) hx hb d_MD_compared_86 (by decide) ?_
            refine lv_icmp_ne (tgt := 107) hx hb d_MD_compared_88 (by decide) (fun c88 => ?_) (fun c88 => ?_)
            · have q88 := neI c88
              refine lv_iload_n hx hb d_MD_compared_107 rfl (lv_at hl 1 rfl) ?_
              refine lv_bipush (v := 73) hx hb d_MD_compared_108 (by decide) ?_
              refine lv_icmp_gt (tgt := 129) hx hb d_MD_compared_110 (by decide) (fun c110 => ?_) (fun c110 => ?_)
              · have q110 := ltI c110
                refine lv_iload_n hx hb d_MD_compared_129 rfl (lv_at hl 1 rfl) ?_
                refine lv_bipush (v := 75) hx hb d_MD_compared_130 (by decide) ?_
                refine lv_icmp_gt (tgt := 151) hx hb d_MD_compared_132 (by decide) (fun c132 => ?_) (fun c132 => ?_)
                · have q132 := ltI c132
                  refine lv_iload_n hx hb d_MD_compared_151 rfl (lv_at hl 1 rfl) ?_
                  refine lv_bipush (v := 77) hx hb d_MD_compared_152 (by decide) ?_
                  refine lv_icmp_gt (tgt := 173) hx hb d_MD_compared_154 (by decide) (fun c154 => ?_) (fun c154 => ?_)
                  · have q154 := ltI c154
                    refine lv_lload hx hb d_MD_compared_173 (lv_at hl 2 rfl) ?_
                    refine lv_lload hx hb d_MD_compared_175 (lv_at hl 0 rfl) ?_
                    refine W.lcmp hx hb d_MD_compared_177 ?_
                    refine lv_topi (fun x1 ex1 => ?_)
                    have tx1 := lgc ex1
                    refine lv_if_lt (tgt := 185) hx hb d_MD_compared_178 (by decide) (fun c178 => ?_) (fun c178 => ?_)
                    · have q178 := ltI c178
                      refine lv_iconst (v := 0) hx hb d_MD_compared_185 (by decide) ?_
                      exact jn186 0 _ _ _ ⟨Or.inl rfl, hP, hD, hS, lv_sub hl [] rfl⟩
                    · have q178 := nltI c178
                      refine lv_iconst (v := 1) hx hb d_MD_compared_181 (by decide) ?_
                      refine lv_goto (tgt := 186) hx hb d_MD_compared_182 (by decide) ?_
                      exact jn186 1 _ _ _ ⟨Or.inr rfl, hP, hD, hS, lv_sub hl [] rfl⟩
                  · have q154 := nltI c154
                    refine lv_lload hx hb d_MD_compared_157 (lv_at hl 2 rfl) ?_
                    refine lv_lload hx hb d_MD_compared_159 (lv_at hl 0 rfl) ?_
                    refine W.lcmp hx hb d_MD_compared_161 ?_
                    refine lv_topi (fun x2 ex2 => ?_)
                    have tx2 := lgc ex2
                    refine lv_if_gt (tgt := 169) hx hb d_MD_compared_162 (by decide) (fun c162 => ?_) (fun c162 => ?_)
                    · have q162 := ltI c162
                      refine lv_iconst (v := 0) hx hb d_MD_compared_169 (by decide) ?_
                      refine lv_goto (tgt := 186) hx hb d_MD_compared_170 (by decide) ?_
                      exact jn186 0 _ _ _ ⟨Or.inl rfl, hP, hD, hS, lv_sub hl [] rfl⟩
                    · have q162 := nltI c162
                      refine lv_iconst (v := 1) hx hb d_MD_compared_165 (by decide) ?_
                      refine lv_goto (tgt := 186) hx hb d_MD_compared_166 (by decide) ?_
                      exact jn186 1 _ _ _ ⟨Or.inr rfl, hP, hD, hS, lv_sub hl [] rfl⟩
                · have q132 := nltI c132
                  refine lv_lload hx hb d_MD_compared_135 (lv_at hl 2 rfl) ?_
                  refine lv_lload hx hb d_MD_compared_137 (lv_at hl 0 rfl) ?_
                  refine W.lcmp hx hb d_MD_compared_139 ?_
                  refine lv_topi (fun x3 ex3 => ?_)
                  have tx3 := lgc ex3
                  refine lv_if_le (tgt := 147) hx hb d_MD_compared_140 (by decide) (fun c140 => ?_) (fun c140 => ?_)
                  · have q140 := leI c140
                    refine lv_iconst (v := 0) hx hb d_MD_compared_147 (by decide) ?_
                    refine lv_goto (tgt := 186) hx hb d_MD_compared_148 (by decide) ?_
                    exact jn186 0 _ _ _ ⟨Or.inl rfl, hP, hD, hS, lv_sub hl [] rfl⟩
                  · have q140 := nleI c140
                    refine lv_iconst (v := 1) hx hb d_MD_compared_143 (by decide) ?_
                    refine lv_goto (tgt := 186) hx hb d_MD_compared_144 (by decide) ?_
                    exact jn186 1 _ _ _ ⟨Or.inr rfl, hP, hD, hS, lv_sub hl [] rfl⟩
              · have q110 := nltI c110
                refine lv_lload hx hb d_MD_compared_113 (lv_at hl 2 rfl) ?_
                refine lv_lload hx hb d_MD_compared_115 (lv_at hl 0 rfl) ?_
                refine W.lcmp hx hb d_MD_compared_117 ?_
                refine lv_topi (fun x4 ex4 => ?_)
                have tx4 := lgc ex4
                refine lv_if_ge (tgt := 125) hx hb d_MD_compared_118 (by decide) (fun c118 => ?_) (fun c118 => ?_)
                · have q118 := leI c118
                  refine lv_iconst (v := 0) hx hb d_MD_compared_125 (by decide) ?_
                  refine lv_goto (tgt := 186) hx hb d_MD_compared_126 (by decide) ?_
                  exact jn186 0 _ _ _ ⟨Or.inl rfl, hP, hD, hS, lv_sub hl [] rfl⟩
                · have q118 := nleI c118
                  refine lv_iconst (v := 1) hx hb d_MD_compared_121 (by decide) ?_
                  refine lv_goto (tgt := 186) hx hb d_MD_compared_122 (by decide) ?_
                  exact jn186 1 _ _ _ ⟨Or.inr rfl, hP, hD, hS, lv_sub hl [] rfl⟩
            · have q88 := eqI c88
              refine lv_lload hx hb d_MD_compared_91 (lv_at hl 2 rfl) ?_
              refine lv_lload hx hb d_MD_compared_93 (lv_at hl 0 rfl) ?_
              refine W.lcmp hx hb d_MD_compared_95 ?_
              refine lv_topi (fun x5 ex5 => ?_)
              have tx5 := lgc ex5
              refine lv_if_eq (tgt := 103) hx hb d_MD_compared_96 (by decide) (fun c96 => ?_) (fun c96 => ?_)
              · have q96 := eqI c96
                refine lv_iconst (v := 0) hx hb d_MD_compared_103 (by decide) ?_
                refine lv_goto (tgt := 186) hx hb d_MD_compared_104 (by decide) ?_
                exact jn186 0 _ _ _ ⟨Or.inl rfl, hP, hD, hS, lv_sub hl [] rfl⟩
              · have q96 := neI c96
                refine lv_iconst (v := 1) hx hb d_MD_compared_99 (by decide) ?_
                refine lv_goto (tgt := 186) hx hb d_MD_compared_100 (by decide) ?_
                exact jn186 1 _ _ _ ⟨Or.inr rfl, hP, hD, hS, lv_sub hl [] rfl⟩
          · have q66 := eqI c66
            refine lv_lload hx hb d_MD_compared_69 (lv_at hl 2 rfl) ?_
            refine lv_lload hx hb d_MD_compared_71 (lv_at hl 0 rfl) ?_
            refine W.lcmp hx hb d_MD_compared_73 ?_
            refine lv_topi (fun x6 ex6 => ?_)
            have tx6 := lgc ex6
            refine lv_if_ne (tgt := 81) hx hb d_MD_compared_74 (by decide) (fun c74 => ?_) (fun c74 => ?_)
            · have q74 := neI c74
              refine lv_iconst (v := 0) hx hb d_MD_compared_81 (by decide) ?_
              refine lv_goto (tgt := 186) hx hb d_MD_compared_82 (by decide) ?_
              exact jn186 0 _ _ _ ⟨Or.inl rfl, hP, hD, hS, lv_sub hl [] rfl⟩
            · have q74 := eqI c74
              refine lv_iconst (v := 1) hx hb d_MD_compared_77 (by decide) ?_
              refine lv_goto (tgt := 186) hx hb d_MD_compared_78 (by decide) ?_
              exact jn186 1 _ _ _ ⟨Or.inr rfl, hP, hD, hS, lv_sub hl [] rfl⟩
      · skip
        refine lv_if_eq (tgt := 60) hx hb d_MD_compared_49 (by decide) (fun c49 => ?_) (fun c49 => ?_)
        · have q49 := eqI c49
          refine lv_lload_n hx hb d_MD_compared_60 rfl (lv_at hl 2 rfl) ?_
          exact jn61 p2 _ _ _ ⟨hP, hD, hS, lv_sub hl [1, 0] rfl⟩
        · have q49 := neI c49
          refine lv_lload_n hx hb d_MD_compared_52 rfl (lv_at hl 2 rfl) ?_
          refine lv_ldc2 hx hb hown (hts _ kL_MD_803) d_MD_compared_53 ?_
          refine lv_topl (fun x7 ex7 => ?_)
          have tx7 : x7.toInt = -9223372036854775808 := by rw [ex7]; decide
          refine lv_ladd hx hb d_MD_compared_56 ?_
          refine lv_topl (fun x8 ex8 => ?_)
          refine lv_goto (tgt := 61) hx hb d_MD_compared_57 (by decide) ?_
          exact jn61 x8 _ _ _ ⟨hP, hD, hS, lv_sub hl [1, 0] rfl⟩
    · skip
      refine lv_if_eq (tgt := 44) hx hb d_MD_compared_33 (by decide) (fun c33 => ?_) (fun c33 => ?_)
      · have q33 := eqI c33
        refine lv_lload_n hx hb d_MD_compared_44 rfl (lv_at hl 2 rfl) ?_
        exact jn45 p1 _ _ _ ⟨hP, hD, hS, lv_sub hl [1, 3, 0] rfl⟩
      · have q33 := neI c33
        refine lv_lload_n hx hb d_MD_compared_36 rfl (lv_at hl 2 rfl) ?_
        refine lv_ldc2 hx hb hown (hts _ kL_MD_803) d_MD_compared_37 ?_
        refine lv_topl (fun x9 ex9 => ?_)
        have tx9 : x9.toInt = -9223372036854775808 := by rw [ex9]; decide
        refine lv_ladd hx hb d_MD_compared_40 ?_
        refine lv_topl (fun x10 ex10 => ?_)
        refine lv_goto (tgt := 45) hx hb d_MD_compared_41 (by decide) ?_
        exact jn45 x10 _ _ _ ⟨hP, hD, hS, lv_sub hl [1, 3, 0] rfl⟩
  · skip
    refine w_cut (pc2 := 24) (σ := Unit) (fun u H locs ls => match u with | _ => va_P (dC, dI) cls2 [] H ∧ va_D A [] ∧ va_S A s.heap H locs ∧ lv_has ls 12 [(0, .int p0), (1, .long p1), (3, .long p2)]) (fun u => match u with | _ => []) ?_ (fun jn24 => ?_)
    · intro u H locs ls hI
      obtain ⟨hP, hD, hS, hl⟩ := hI
      refine lv_iconst (v := 1) hx hb d_MD_compared_24 (by decide) ?_
      refine lv_goto (tgt := 29) hx hb d_MD_compared_25 (by decide) ?_
      exact jn29 1 _ _ _ ⟨Or.inr rfl, hP, hD, hS, lv_sub hl [0, 1, 2] rfl⟩
    · skip
      refine lv_icmp_eq (tgt := 24) hx hb d_MD_compared_3 (by decide) (fun c3 => ?_) (fun c3 => ?_)
      · have q3 := eqI c3
        exact jn24 () _ _ _ ⟨hP, hD, hS, lv_sub hl [0, 1, 2] rfl⟩
      · have q3 := neI c3
        refine lv_iload_n hx hb d_MD_compared_6 rfl (lv_at hl 0 rfl) ?_
        refine lv_bipush (v := 75) hx hb d_MD_compared_7 (by decide) ?_
        refine lv_icmp_eq (tgt := 24) hx hb d_MD_compared_9 (by decide) (fun c9 => ?_) (fun c9 => ?_)
        · have q9 := eqI c9
          exact jn24 () _ _ _ ⟨hP, hD, hS, lv_sub hl [0, 1, 2] rfl⟩
        · have q9 := neI c9
          refine lv_iload_n hx hb d_MD_compared_12 rfl (lv_at hl 0 rfl) ?_
          refine lv_bipush (v := 77) hx hb d_MD_compared_13 (by decide) ?_
          refine lv_icmp_eq (tgt := 24) hx hb d_MD_compared_15 (by decide) (fun c15 => ?_) (fun c15 => ?_)
          · have q15 := eqI c15
            exact jn24 () _ _ _ ⟨hP, hD, hS, lv_sub hl [0, 1, 2] rfl⟩
          · have q15 := neI c15
            refine lv_iload_n hx hb d_MD_compared_18 rfl (lv_at hl 0 rfl) ?_
            refine lv_bipush (v := 79) hx hb d_MD_compared_19 (by decide) ?_
            refine lv_icmp_ne (tgt := 28) hx hb d_MD_compared_21 (by decide) (fun c21 => ?_) (fun c21 => ?_)
            · have q21 := neI c21
              refine lv_iconst (v := 0) hx hb d_MD_compared_28 (by decide) ?_
              exact jn29 0 _ _ _ ⟨Or.inl rfl, hP, hD, hS, lv_sub hl [0, 1, 2] rfl⟩
            · have q21 := eqI c21
              exact jn24 () _ _ _ ⟨hP, hD, hS, lv_sub hl [0, 1, 2] rfl⟩
abbrev b_MD_over : ByteArray := prog_15_method_98_code
def y_MD_over : MethodName := ⟨R_MD, "over", "(JJ)J"⟩
abbrev w_MD_over : List Cond := .code y_MD_over b_MD_over 8 (Option.some .long) :: lw_g
theorem kC_MD_over : Cond.code y_MD_over b_MD_over 8 (Option.some .long) ∈ lw_g := in_c13 201 rfl rfl
theorem d_MD_over_0 : decode b_MD_over 0 = .ok (.lload_n 2, 1) := bz_c32 (by decide +kernel)
theorem d_MD_over_1 : decode b_MD_over 1 = .ok (.lconst 0, 1) := bz_c9 (by decide +kernel)
theorem d_MD_over_2 : decode b_MD_over 2 = .ok (.lcmp, 1) := bz_c148 (by decide +kernel)
theorem d_MD_over_3 : decode b_MD_over 3 = .ok (.ifCond .ge 23, 3) := bz_c156 (by decide +kernel)
theorem d_MD_over_6 : decode b_MD_over 6 = .ok (.lload_n 0, 1) := bz_c30 (by decide +kernel)
theorem d_MD_over_7 : decode b_MD_over 7 = .ok (.ldc2_w 803, 3) := bz_c20 (by decide +kernel)
theorem d_MD_over_10 : decode b_MD_over 10 = .ok (.ladd, 1) := bz_c97 (by decide +kernel)
theorem d_MD_over_11 : decode b_MD_over 11 = .ok (.lload_n 2, 1) := bz_c32 (by decide +kernel)
theorem d_MD_over_12 : decode b_MD_over 12 = .ok (.ldc2_w 803, 3) := bz_c20 (by decide +kernel)
theorem d_MD_over_15 : decode b_MD_over 15 = .ok (.ladd, 1) := bz_c97 (by decide +kernel)
theorem d_MD_over_16 : decode b_MD_over 16 = .ok (.lcmp, 1) := bz_c148 (by decide +kernel)
theorem d_MD_over_17 : decode b_MD_over 17 = .ok (.ifCond .lt 7, 3) := bz_c155 (by decide +kernel)
theorem d_MD_over_20 : decode b_MD_over 20 = .ok (.lconst 1, 1) := bz_c10 (by decide +kernel)
theorem d_MD_over_21 : decode b_MD_over 21 = .ok (.goto 4, 3) := bz_c167 (by decide +kernel)
theorem d_MD_over_24 : decode b_MD_over 24 = .ok (.lconst 0, 1) := bz_c9 (by decide +kernel)
theorem d_MD_over_25 : decode b_MD_over 25 = .ok (.lreturn, 1) := bz_c173 (by decide +kernel)
theorem d_MD_over_26 : decode b_MD_over 26 = .ok (.lload_n 0, 1) := bz_c30 (by decide +kernel)
theorem d_MD_over_27 : decode b_MD_over 27 = .ok (.lconst 0, 1) := bz_c9 (by decide +kernel)
theorem d_MD_over_28 : decode b_MD_over 28 = .ok (.lcmp, 1) := bz_c148 (by decide +kernel)
theorem d_MD_over_29 : decode b_MD_over 29 = .ok (.ifCond .lt 7, 3) := bz_c155 (by decide +kernel)
theorem d_MD_over_32 : decode b_MD_over 32 = .ok (.lload_n 0, 1) := bz_c30 (by decide +kernel)
theorem d_MD_over_33 : decode b_MD_over 33 = .ok (.lload_n 2, 1) := bz_c32 (by decide +kernel)
theorem d_MD_over_34 : decode b_MD_over 34 = .ok (.ldiv, 1) := by decide +kernel
theorem d_MD_over_35 : decode b_MD_over 35 = .ok (.lreturn, 1) := bz_c173 (by decide +kernel)
theorem d_MD_over_36 : decode b_MD_over 36 = .ok (.lload_n 0, 1) := bz_c30 (by decide +kernel)
theorem d_MD_over_37 : decode b_MD_over 37 = .ok (.iconst 1, 1) := bz_c4 (by decide +kernel)
theorem d_MD_over_38 : decode b_MD_over 38 = .ok (.lushr, 1) := bz_c125 (by decide +kernel)
theorem d_MD_over_39 : decode b_MD_over 39 = .ok (.lload_n 2, 1) := bz_c32 (by decide +kernel)
theorem d_MD_over_40 : decode b_MD_over 40 = .ok (.ldiv, 1) := by decide +kernel
theorem d_MD_over_41 : decode b_MD_over 41 = .ok (.iconst 1, 1) := bz_c4 (by decide +kernel)
theorem d_MD_over_42 : decode b_MD_over 42 = .ok (.lshl, 1) := bz_c121 (by decide +kernel)
theorem d_MD_over_43 : decode b_MD_over 43 = .ok (.lstore 4, 2) := bz_c55 (by decide +kernel)
theorem d_MD_over_45 : decode b_MD_over 45 = .ok (.lload_n 0, 1) := bz_c30 (by decide +kernel)
theorem d_MD_over_46 : decode b_MD_over 46 = .ok (.lload 4, 2) := bz_c22 (by decide +kernel)
theorem d_MD_over_48 : decode b_MD_over 48 = .ok (.lload_n 2, 1) := bz_c32 (by decide +kernel)
theorem d_MD_over_49 : decode b_MD_over 49 = .ok (.lmul, 1) := by decide +kernel
theorem d_MD_over_50 : decode b_MD_over 50 = .ok (.lsub, 1) := by decide +kernel
theorem d_MD_over_51 : decode b_MD_over 51 = .ok (.lstore 6, 2) := bz_c55 (by decide +kernel)
theorem d_MD_over_53 : decode b_MD_over 53 = .ok (.lload 4, 2) := bz_c22 (by decide +kernel)
theorem d_MD_over_55 : decode b_MD_over 55 = .ok (.lload 6, 2) := bz_c22 (by decide +kernel)
theorem d_MD_over_57 : decode b_MD_over 57 = .ok (.ldc2_w 803, 3) := bz_c20 (by decide +kernel)
theorem d_MD_over_60 : decode b_MD_over 60 = .ok (.ladd, 1) := bz_c97 (by decide +kernel)
theorem d_MD_over_61 : decode b_MD_over 61 = .ok (.lload_n 2, 1) := bz_c32 (by decide +kernel)
theorem d_MD_over_62 : decode b_MD_over 62 = .ok (.ldc2_w 803, 3) := bz_c20 (by decide +kernel)
theorem d_MD_over_65 : decode b_MD_over 65 = .ok (.ladd, 1) := bz_c97 (by decide +kernel)
theorem d_MD_over_66 : decode b_MD_over 66 = .ok (.lcmp, 1) := bz_c148 (by decide +kernel)
theorem d_MD_over_67 : decode b_MD_over 67 = .ok (.ifCond .lt 7, 3) := bz_c155 (by decide +kernel)
theorem d_MD_over_70 : decode b_MD_over 70 = .ok (.lconst 1, 1) := bz_c10 (by decide +kernel)
theorem d_MD_over_71 : decode b_MD_over 71 = .ok (.goto 4, 3) := bz_c167 (by decide +kernel)
theorem d_MD_over_74 : decode b_MD_over 74 = .ok (.lconst 0, 1) := bz_c9 (by decide +kernel)
theorem d_MD_over_75 : decode b_MD_over 75 = .ok (.ladd, 1) := bz_c97 (by decide +kernel)
theorem d_MD_over_76 : decode b_MD_over 76 = .ok (.lreturn, 1) := bz_c173 (by decide +kernel)
abbrev at_MD_over (dC : Nat → ClassId) (dI : Nat → Nat → Nat)  (A : Nat → Prop) (u : Unit) (t : State) : Prop := match u with | _ => va_P (dC, dI) cls2 [] t.heap ∧ va_K (dC, dI) cls2 [] t ∧ va_D A []
set_option maxHeartbeats 4000000 in
set_option maxRecDepth 100000 in
theorem c_MD_over (l : Launch) (dC : Nat → ClassId) (dI : Nat → Nat → Nat) (sz : Nat)    (p0 : Int64) (p1 : Int64)  (hz : p1.toInt ≠ 0) : Met l y_MD_over w_MD_over ({ frames := 0, cells := 0, slots := 0, locals := 0 }) (va_Pc [.long p0, .long p1] (fun U => U.heap.size = sz ∧ va_P (dC, dI) cls2 [] U.heap ∧ va_K (dC, dI) cls2 [] U ∧ va_D (fun _ => True) [])) (va_Ql (fun (r : Int64) (u : Unit) => match u with | _ => (True)) (at_MD_over dC dI  (va_A [] sz)) (va_A [] sz)) 0 0 (va_A [] sz) := by
  refine Met.ofW (cc := b_MD_over) (maxL := 8) (ret := (Option.some .long)) (by decide) rfl ?_
  intro p e s m args below meth c s₁ B hml hv
  obtain ⟨rfl, hsz, hP, hK, hD0⟩ := hv
  have hx := B.exec
  have hb := B.bytes
  have hr := B.returns
  have hts0 := atoms_spec (ws := w_MD_over) B.pre
  have hts : ∀ w ∈ lw_g, w.before _ s = true := fun w h => hts0 w (List.mem_cons_of_mem _ h)
  have hown : s.vm.findClass R_MD = some m.cls := findClass_of_methodNamed B.named
  have hlocks := B.notSynchronized
  clear hts0
  subst hsz
  have hD := hD0.self (sz := s.heap.size)
  generalize hAe : va_A [] s.heap.size = A at hD ⊢
  have hA : ∀ q : Nat, s.heap.size ≤ q → A q := fun q h => by rw [← hAe]; exact Or.inr h
  clear hAe
  have hP : va_P (dC, dI) cls2 [] s.heap := hP
  have hl := lv_entry ([.long p0, .long p1]) (n := 8) (Nat.le_of_ble_eq_true rfl)
  rw [lg_entry_eq]
  generalize (lg_sl ([.long p0, .long p1]) ++ List.replicate (8 - (lg_sl ([.long p0, .long p1])).length) Slot.unset).toArray = ls at hl ⊢
  have hl : lv_has ls 8 [(0, .long p0), (2, .long p1)] := hl
  have k0 : (0 : Int32).toInt = 0 := by decide
  refine w_gen (A := A) hP (fun H locs hP hS => ?_)
  have k1 : (1 : Int32).toInt = 1 := by decide
  refine lv_lload_n hx hb d_MD_over_0 rfl (lv_at hl 1 rfl) ?_
  refine lv_lconst (v := 0) hx hb d_MD_over_1 (by decide) ?_
  have kl0 : (0 : Int64).toInt = 0 := by decide
  refine W.lcmp hx hb d_MD_over_2 ?_
  refine lv_topi (fun x1 ex1 => ?_)
  have tx1 := lgc ex1
  refine lv_if_ge (tgt := 26) hx hb d_MD_over_3 (by decide) (fun c3 => ?_) (fun c3 => ?_)
  · have q3 := leI c3
    refine lv_lload_n hx hb d_MD_over_26 rfl (lv_at hl 0 rfl) ?_
    refine lv_lconst (v := 0) hx hb d_MD_over_27 (by decide) ?_
    have kl0 : (0 : Int64).toInt = 0 := by decide
    refine W.lcmp hx hb d_MD_over_28 ?_
    refine lv_topi (fun x2 ex2 => ?_)
    have tx2 := lgc ex2
    refine lv_if_lt (tgt := 36) hx hb d_MD_over_29 (by decide) (fun c29 => ?_) (fun c29 => ?_)
    · have q29 := ltI c29
      refine lv_lload_n hx hb d_MD_over_36 rfl (lv_at hl 0 rfl) ?_
      refine lv_iconst (v := 1) hx hb d_MD_over_37 (by decide) ?_
      refine lv_lushr hx hb d_MD_over_38 rfl ?_
      refine lv_topl (fun x3 ex3 => ?_)
      refine lv_lload_n hx hb d_MD_over_39 rfl (lv_at hl 1 rfl) ?_
      refine lv_ldiv hx hb d_MD_over_40 ((fun z => hz (by rw [z]; decide))) ?_
      refine lv_topl (fun x4 ex4 => ?_)
      refine lv_iconst (v := 1) hx hb d_MD_over_41 (by decide) ?_
      refine lv_lshl hx hb d_MD_over_42 rfl ?_
      refine lv_topl (fun x5 ex5 => ?_)
      refine lv_lstore (lv' := [(4, .long x5), (0, .long p0), (2, .long p1)]) hx hb d_MD_over_43 hl (by decide) rfl (fun ls hl => ?_)
      refine lv_lload_n hx hb d_MD_over_45 rfl (lv_at hl 1 rfl) ?_
      refine lv_lload hx hb d_MD_over_46 (lv_at hl 0 rfl) ?_
      refine lv_lload_n hx hb d_MD_over_48 rfl (lv_at hl 2 rfl) ?_
      refine lv_lmul hx hb d_MD_over_49 ?_
      refine lv_topl (fun x6 ex6 => ?_)
      refine lv_lsub hx hb d_MD_over_50 ?_
      refine lv_topl (fun x7 ex7 => ?_)
      refine lv_lstore (lv' := [(6, .long x7), (4, .long x5), (0, .long p0), (2, .long p1)]) hx hb d_MD_over_51 hl (by decide) rfl (fun ls hl => ?_)
      refine lv_lload hx hb d_MD_over_53 (lv_at hl 1 rfl) ?_
      refine lv_lload hx hb d_MD_over_55 (lv_at hl 0 rfl) ?_
      refine lv_ldc2 hx hb hown (hts _ kL_MD_803) d_MD_over_57 ?_
      refine lv_topl (fun x8 ex8 => ?_)
      have tx8 : x8.toInt = -9223372036854775808 := by rw [ex8]; decide
      refine lv_ladd hx hb d_MD_over_60 ?_
      refine lv_topl (fun x9 ex9 => ?_)
      refine lv_lload_n hx hb d_MD_over_61 rfl (lv_at hl 3 rfl) ?_
      refine lv_ldc2 hx hb hown (hts _ kL_MD_803) d_MD_over_62 ?_
      refine lv_topl (fun x10 ex10 => ?_)
      have tx10 : x10.toInt = -9223372036854775808 := by rw [ex10]; decide
      refine lv_ladd hx hb d_MD_over_65 ?_
      refine lv_topl (fun x11 ex11 => ?_)
      refine W.lcmp hx hb d_MD_over_66 ?_
      refine lv_topi (fun x12 ex12 => ?_)
      have tx12 := lgc ex12
      refine lv_if_lt (tgt := 74) hx hb d_MD_over_67 (by decide) (fun c67 => ?_) (fun c67 => ?_)
      · have q67 := ltI c67
        refine lv_lconst (v := 0) hx hb d_MD_over_74 (by decide) ?_
        have kl0 : (0 : Int64).toInt = 0 := by decide
        refine lv_ladd hx hb d_MD_over_75 ?_
        refine lv_topl (fun x13 ex13 => ?_)
        have hP9 := hP.sb (wq := []) [] rfl
        have hD9 := hD.sb (wq := []) [] (by decide) rfl
        exact W.lret (v := x13) hx hb hr (fun t ht hW => ⟨⟨x13, (), rfl, (trivial), va_P.he ht.symm hP9, va_K.moved hW.alike hK, hD9⟩, hS.F ht⟩) hS.2.2 d_MD_over_76
      · have q67 := nltI c67
        refine lv_lconst (v := 1) hx hb d_MD_over_70 (by decide) ?_
        have kl1 : (1 : Int64).toInt = 1 := by decide
        refine lv_goto (tgt := 75) hx hb d_MD_over_71 (by decide) ?_
        refine lv_ladd hx hb d_MD_over_75 ?_
        refine lv_topl (fun x14 ex14 => ?_)
        have hP9 := hP.sb (wq := []) [] rfl
        have hD9 := hD.sb (wq := []) [] (by decide) rfl
        exact W.lret (v := x14) hx hb hr (fun t ht hW => ⟨⟨x14, (), rfl, (trivial), va_P.he ht.symm hP9, va_K.moved hW.alike hK, hD9⟩, hS.F ht⟩) hS.2.2 d_MD_over_76
    · have q29 := nltI c29
      refine lv_lload_n hx hb d_MD_over_32 rfl (lv_at hl 0 rfl) ?_
      refine lv_lload_n hx hb d_MD_over_33 rfl (lv_at hl 1 rfl) ?_
      refine lv_ldiv hx hb d_MD_over_34 ((fun z => hz (by rw [z]; decide))) ?_
      refine lv_topl (fun x15 ex15 => ?_)
      have hP9 := hP.sb (wq := []) [] rfl
      have hD9 := hD.sb (wq := []) [] (by decide) rfl
      exact W.lret (v := x15) hx hb hr (fun t ht hW => ⟨⟨x15, (), rfl, (trivial), va_P.he ht.symm hP9, va_K.moved hW.alike hK, hD9⟩, hS.F ht⟩) hS.2.2 d_MD_over_35
  · have q3 := nleI c3
    refine lv_lload_n hx hb d_MD_over_6 rfl (lv_at hl 0 rfl) ?_
    refine lv_ldc2 hx hb hown (hts _ kL_MD_803) d_MD_over_7 ?_
    refine lv_topl (fun x16 ex16 => ?_)
    have tx16 : x16.toInt = -9223372036854775808 := by rw [ex16]; decide
    refine lv_ladd hx hb d_MD_over_10 ?_
    refine lv_topl (fun x17 ex17 => ?_)
    refine lv_lload_n hx hb d_MD_over_11 rfl (lv_at hl 1 rfl) ?_
    refine lv_ldc2 hx hb hown (hts _ kL_MD_803) d_MD_over_12 ?_
    refine lv_topl (fun x18 ex18 => ?_)
    have tx18 : x18.toInt = -9223372036854775808 := by rw [ex18]; decide
    refine lv_ladd hx hb d_MD_over_15 ?_
    refine lv_topl (fun x19 ex19 => ?_)
    refine W.lcmp hx hb d_MD_over_16 ?_
    refine lv_topi (fun x20 ex20 => ?_)
    have tx20 := lgc ex20
    refine lv_if_lt (tgt := 24) hx hb d_MD_over_17 (by decide) (fun c17 => ?_) (fun c17 => ?_)
    · have q17 := ltI c17
      refine lv_lconst (v := 0) hx hb d_MD_over_24 (by decide) ?_
      have kl0 : (0 : Int64).toInt = 0 := by decide
      have hP9 := hP.sb (wq := []) [] rfl
      have hD9 := hD.sb (wq := []) [] (by decide) rfl
      exact W.lret (v := 0) hx hb hr (fun t ht hW => ⟨⟨0, (), rfl, (trivial), va_P.he ht.symm hP9, va_K.moved hW.alike hK, hD9⟩, hS.F ht⟩) hS.2.2 d_MD_over_25
    · have q17 := nltI c17
      refine lv_lconst (v := 1) hx hb d_MD_over_20 (by decide) ?_
      have kl1 : (1 : Int64).toInt = 1 := by decide
      refine lv_goto (tgt := 25) hx hb d_MD_over_21 (by decide) ?_
      have hP9 := hP.sb (wq := []) [] rfl
      have hD9 := hD.sb (wq := []) [] (by decide) rfl
      exact W.lret (v := 1) hx hb hr (fun t ht hW => ⟨⟨1, (), rfl, (trivial), va_P.he ht.symm hP9, va_K.moved hW.alike hK, hD9⟩, hS.F ht⟩) hS.2.2 d_MD_over_25

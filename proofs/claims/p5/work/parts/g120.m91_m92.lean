section q_m91
/-! the reference: a sign -/
theorem sg_32 {g : Nat → Int32} {fr len p d n x : Int32} {j : Nat} (h0 : 0 ≤ fr.toInt) (hx0 : 0 ≤ x.toInt) (h1 : p.toInt = (bn (g fr.toNatClampNeg) : Int)) (h2 : p.toInt ≠ 32) (h3 : x.toInt < len.toInt → d.toInt = (bn (g x.toNatClampNeg) : Int)) (h4 : x.toInt = fr.toInt + 1) (h5 : 1 ≤ n.toInt ∧ n.toInt ≤ 3 ∧ fr.toInt + n.toInt ≤ len.toInt ∧ (2 ≤ n.toInt → d.toInt ≠ 32) ∧ (3 ≤ n.toInt → (bn (g (fr.toNatClampNeg + 2)) : Int) = 62)) (h6 : fr.toInt ≤ (j : Int)) (h7 : (j : Int) < fr.toInt + n.toInt) : (bn (g j) : Int) ≠ 32 := by
  have z1 := i32_clamp (x := fr) h0
  have z2 := i32_clamp (x := x) hx0
  obtain ⟨a, b, c, d1, d2⟩ := h5
  by_cases q : j = fr.toNatClampNeg
  · rw [q]; (first | (apply Int.le_antisymm <;> omega) | omega)
  · by_cases q2 : j = x.toNatClampNeg
    · rw [q2, ← h3 (by (first | (apply Int.le_antisymm <;> omega) | omega))]
      exact d1 (by (first | (apply Int.le_antisymm <;> omega) | omega))
    · rw [show j = fr.toNatClampNeg + 2 from by (first | (apply Int.le_antisymm <;> omega) | omega), d2 (by (first | (apply Int.le_antisymm <;> omega) | omega))]
      decide
abbrev b_MD_sign : ByteArray := prog_15_method_7_code
def y_MD_sign : MethodName := ⟨R_MD, "sign", "(I)V"⟩
abbrev w_MD_sign : List Cond := .code y_MD_sign b_MD_sign 4 none :: lw_g
theorem kC_MD_sign : Cond.code y_MD_sign b_MD_sign 4 none ∈ lw_g := in_c11 19 rfl rfl
theorem d_MD_sign_0 : decode b_MD_sign 0 = .ok (.aload_n 0, 1) := bz_c42 (by decide +kernel)
theorem d_MD_sign_1 : decode b_MD_sign 1 = .ok (.aload_n 0, 1) := bz_c42 (by decide +kernel)
theorem d_MD_sign_2 : decode b_MD_sign 2 = .ok (.getfield 30, 3) := bz_c180 (by decide +kernel)
theorem d_MD_sign_5 : decode b_MD_sign 5 = .ok (.iconst 1, 1) := bz_c4 (by decide +kernel)
theorem d_MD_sign_6 : decode b_MD_sign 6 = .ok (.iadd, 1) := bz_c96 (by decide +kernel)
theorem d_MD_sign_7 : decode b_MD_sign 7 = .ok (.invokevirtual 26, 3) := bz_c182 (by decide +kernel)
theorem d_MD_sign_10 : decode b_MD_sign 10 = .ok (.istore_n 2, 1) := bz_c61 (by decide +kernel)
theorem d_MD_sign_11 : decode b_MD_sign 11 = .ok (.iconst 1, 1) := bz_c4 (by decide +kernel)
theorem d_MD_sign_12 : decode b_MD_sign 12 = .ok (.istore_n 3, 1) := bz_c62 (by decide +kernel)
theorem d_MD_sign_13 : decode b_MD_sign 13 = .ok (.iload_n 1, 1) := bz_c27 (by decide +kernel)
theorem d_MD_sign_14 : decode b_MD_sign 14 = .ok (.bipush 124, 2) := bz_c16 (by decide +kernel)
theorem d_MD_sign_16 : decode b_MD_sign 16 = .ok (.if_icmp .eq 27, 3) := bz_c159 (by decide +kernel)
theorem d_MD_sign_19 : decode b_MD_sign 19 = .ok (.iload_n 1, 1) := bz_c27 (by decide +kernel)
theorem d_MD_sign_20 : decode b_MD_sign 20 = .ok (.bipush 38, 2) := bz_c16 (by decide +kernel)
theorem d_MD_sign_22 : decode b_MD_sign 22 = .ok (.if_icmp .eq 21, 3) := bz_c159 (by decide +kernel)
theorem d_MD_sign_25 : decode b_MD_sign 25 = .ok (.iload_n 1, 1) := bz_c27 (by decide +kernel)
theorem d_MD_sign_26 : decode b_MD_sign 26 = .ok (.bipush 61, 2) := bz_c16 (by decide +kernel)
theorem d_MD_sign_28 : decode b_MD_sign 28 = .ok (.if_icmp .eq 15, 3) := bz_c159 (by decide +kernel)
theorem d_MD_sign_31 : decode b_MD_sign 31 = .ok (.iload_n 1, 1) := bz_c27 (by decide +kernel)
theorem d_MD_sign_32 : decode b_MD_sign 32 = .ok (.bipush 60, 2) := bz_c16 (by decide +kernel)
theorem d_MD_sign_34 : decode b_MD_sign 34 = .ok (.if_icmp .eq 9, 3) := bz_c159 (by decide +kernel)
theorem d_MD_sign_37 : decode b_MD_sign 37 = .ok (.iload_n 1, 1) := bz_c27 (by decide +kernel)
theorem d_MD_sign_38 : decode b_MD_sign 38 = .ok (.bipush 62, 2) := bz_c16 (by decide +kernel)
theorem d_MD_sign_40 : decode b_MD_sign 40 = .ok (.if_icmp .ne 10, 3) := bz_c160 (by decide +kernel)
theorem d_MD_sign_43 : decode b_MD_sign 43 = .ok (.iload_n 2, 1) := bz_c28 (by decide +kernel)
theorem d_MD_sign_44 : decode b_MD_sign 44 = .ok (.iload_n 1, 1) := bz_c27 (by decide +kernel)
theorem d_MD_sign_45 : decode b_MD_sign 45 = .ok (.if_icmp .ne 5, 3) := bz_c160 (by decide +kernel)
theorem d_MD_sign_48 : decode b_MD_sign 48 = .ok (.iconst 2, 1) := bz_c5 (by decide +kernel)
theorem d_MD_sign_49 : decode b_MD_sign 49 = .ok (.istore_n 3, 1) := bz_c62 (by decide +kernel)
theorem d_MD_sign_50 : decode b_MD_sign 50 = .ok (.iload_n 1, 1) := bz_c27 (by decide +kernel)
theorem d_MD_sign_51 : decode b_MD_sign 51 = .ok (.bipush 33, 2) := bz_c16 (by decide +kernel)
theorem d_MD_sign_53 : decode b_MD_sign 53 = .ok (.if_icmp .eq 15, 3) := bz_c159 (by decide +kernel)
theorem d_MD_sign_56 : decode b_MD_sign 56 = .ok (.iload_n 1, 1) := bz_c27 (by decide +kernel)
theorem d_MD_sign_57 : decode b_MD_sign 57 = .ok (.bipush 60, 2) := bz_c16 (by decide +kernel)
theorem d_MD_sign_59 : decode b_MD_sign 59 = .ok (.if_icmp .eq 9, 3) := bz_c159 (by decide +kernel)
theorem d_MD_sign_62 : decode b_MD_sign 62 = .ok (.iload_n 1, 1) := bz_c27 (by decide +kernel)
theorem d_MD_sign_63 : decode b_MD_sign 63 = .ok (.bipush 62, 2) := bz_c16 (by decide +kernel)
theorem d_MD_sign_65 : decode b_MD_sign 65 = .ok (.if_icmp .ne 11, 3) := bz_c160 (by decide +kernel)
theorem d_MD_sign_68 : decode b_MD_sign 68 = .ok (.iload_n 2, 1) := bz_c28 (by decide +kernel)
theorem d_MD_sign_69 : decode b_MD_sign 69 = .ok (.bipush 61, 2) := bz_c16 (by decide +kernel)
theorem d_MD_sign_71 : decode b_MD_sign 71 = .ok (.if_icmp .ne 5, 3) := bz_c160 (by decide +kernel)
theorem d_MD_sign_74 : decode b_MD_sign 74 = .ok (.iconst 2, 1) := bz_c5 (by decide +kernel)
theorem d_MD_sign_75 : decode b_MD_sign 75 = .ok (.istore_n 3, 1) := bz_c62 (by decide +kernel)
theorem d_MD_sign_76 : decode b_MD_sign 76 = .ok (.iload_n 1, 1) := bz_c27 (by decide +kernel)
theorem d_MD_sign_77 : decode b_MD_sign 77 = .ok (.bipush 62, 2) := bz_c16 (by decide +kernel)
theorem d_MD_sign_79 : decode b_MD_sign 79 = .ok (.if_icmp .ne 26, 3) := bz_c160 (by decide +kernel)
theorem d_MD_sign_82 : decode b_MD_sign 82 = .ok (.iload_n 2, 1) := bz_c28 (by decide +kernel)
theorem d_MD_sign_83 : decode b_MD_sign 83 = .ok (.bipush 62, 2) := bz_c16 (by decide +kernel)
theorem d_MD_sign_85 : decode b_MD_sign 85 = .ok (.if_icmp .ne 20, 3) := bz_c160 (by decide +kernel)
theorem d_MD_sign_88 : decode b_MD_sign 88 = .ok (.aload_n 0, 1) := bz_c42 (by decide +kernel)
theorem d_MD_sign_89 : decode b_MD_sign 89 = .ok (.aload_n 0, 1) := bz_c42 (by decide +kernel)
theorem d_MD_sign_90 : decode b_MD_sign 90 = .ok (.getfield 30, 3) := bz_c180 (by decide +kernel)
theorem d_MD_sign_93 : decode b_MD_sign 93 = .ok (.iconst 2, 1) := bz_c5 (by decide +kernel)
theorem d_MD_sign_94 : decode b_MD_sign 94 = .ok (.iadd, 1) := bz_c96 (by decide +kernel)
theorem d_MD_sign_95 : decode b_MD_sign 95 = .ok (.invokevirtual 26, 3) := bz_c182 (by decide +kernel)
theorem d_MD_sign_98 : decode b_MD_sign 98 = .ok (.bipush 62, 2) := bz_c16 (by decide +kernel)
theorem d_MD_sign_100 : decode b_MD_sign 100 = .ok (.if_icmp .ne 5, 3) := bz_c160 (by decide +kernel)
theorem d_MD_sign_103 : decode b_MD_sign 103 = .ok (.iconst 3, 1) := bz_c6 (by decide +kernel)
theorem d_MD_sign_104 : decode b_MD_sign 104 = .ok (.istore_n 3, 1) := bz_c62 (by decide +kernel)
theorem d_MD_sign_105 : decode b_MD_sign 105 = .ok (.aload_n 0, 1) := bz_c42 (by decide +kernel)
theorem d_MD_sign_106 : decode b_MD_sign 106 = .ok (.aload_n 0, 1) := bz_c42 (by decide +kernel)
theorem d_MD_sign_107 : decode b_MD_sign 107 = .ok (.getfield 30, 3) := bz_c180 (by decide +kernel)
theorem d_MD_sign_110 : decode b_MD_sign 110 = .ok (.iload_n 3, 1) := bz_c29 (by decide +kernel)
theorem d_MD_sign_111 : decode b_MD_sign 111 = .ok (.iadd, 1) := bz_c96 (by decide +kernel)
theorem d_MD_sign_112 : decode b_MD_sign 112 = .ok (.putfield 23, 3) := bz_c181 (by decide +kernel)
theorem d_MD_sign_115 : decode b_MD_sign 115 = .ok (.aload_n 0, 1) := bz_c42 (by decide +kernel)
theorem d_MD_sign_116 : decode b_MD_sign 116 = .ok (.iload_n 3, 1) := bz_c29 (by decide +kernel)
theorem d_MD_sign_117 : decode b_MD_sign 117 = .ok (.iconst 1, 1) := bz_c4 (by decide +kernel)
theorem d_MD_sign_118 : decode b_MD_sign 118 = .ok (.if_icmp .gt 12, 3) := bz_c163 (by decide +kernel)
theorem d_MD_sign_121 : decode b_MD_sign 121 = .ok (.ldc 96, 2) := bz_c18 (by decide +kernel)
theorem d_MD_sign_123 : decode b_MD_sign 123 = .ok (.iload_n 1, 1) := bz_c27 (by decide +kernel)
theorem d_MD_sign_124 : decode b_MD_sign 124 = .ok (.invokevirtual 98, 3) := bz_c182 (by decide +kernel)
theorem d_MD_sign_127 : decode b_MD_sign 127 = .ok (.ifCond .lt 7, 3) := bz_c155 (by decide +kernel)
theorem d_MD_sign_130 : decode b_MD_sign 130 = .ok (.iconst 5, 1) := bz_c8 (by decide +kernel)
theorem d_MD_sign_131 : decode b_MD_sign 131 = .ok (.goto 5, 3) := bz_c167 (by decide +kernel)
theorem d_MD_sign_134 : decode b_MD_sign 134 = .ok (.bipush 6, 2) := bz_c16 (by decide +kernel)
theorem d_MD_sign_136 : decode b_MD_sign 136 = .ok (.putfield 33, 3) := bz_c181 (by decide +kernel)
theorem d_MD_sign_139 : decode b_MD_sign 139 = .ok (.return_, 1) := bz_c177 (by decide +kernel)
theorem kM_MD_98 : Cond.methodLink R_MD 98 y_JS_indexOf0 ∈ lw_g := in_c11 21 rfl rfl
theorem kV_JS_indexOf0 : Cond.instanceMethod y_JS_indexOf0 ∈ lw_g := in_c11 22 rfl rfl
theorem kS_JS_indexOf0 : Cond.selects R_JS y_JS_indexOf0 y_JS_indexOf0 ∈ lw_g := in_c11 23 rfl rfl
abbrev at_MD_sign (dC : Nat → ClassId) (dI : Nat → Nat → Nat) (sa : Nat → Nat) (h0 rf tap h0_globalNames_r h0_globalPlaces_r h0_globalTypes_r h0_globalValues_r h0_funs_r h0_levels_r h0_known_r mad mag h0_smalls_r h0_greats_r h0_module_r h0_spare_r blk stk hgt lab ous kis los mem glo val ffu fre fba fla lat lhe rsl arg : Nat) (ctap : ClassId) (h0_taped : Int32) (h0_length : Int32) (h0_from : Int32) (h0_word : Value) (h0_numeral : Int64) (h0_globalCount : Int32) (h0_funCount : Int32) (h0_open : Int32) (h0_signs : Int32) (h0_now : Value) (h0_knownCount : Int32) (h0_loops : Int32) (h0_madeLength : Int32) (h0_m : Value) (h0_cursor : Int32) (h0_limit : Int32) (h0_top : Int32) (h0_depth : Int32) (h0_function : Int32) (h0_pages : Int32) (h0_valueTop : Int32) (h0_frames : Int32) (h0_labelTop : Int32) (h0_steps : Int32) (h0_there : Int32) (h0_resultLength : Int32) (h0_reason : Int32) (h0_place : Int32) (h0_argumentCount : Int32) (h0_code : Int32) (gtap : Nat → Int32) (A : Nat → Prop) (u : Int32 × Int32) (t : State) : Prop := match u with | (h0_kind, h0_to) => va_P (dC, dI) cls2 (wz_307 h0 rf tap h0_taped h0_length h0_kind h0_from h0_to h0_word h0_numeral h0_globalNames_r h0_globalPlaces_r h0_globalTypes_r h0_globalValues_r h0_globalCount h0_funs_r h0_funCount h0_open h0_signs h0_levels_r h0_now h0_known_r h0_knownCount h0_loops mad h0_madeLength mag h0_smalls_r h0_greats_r h0_module_r h0_spare_r h0_m h0_cursor h0_limit blk stk h0_top hgt lab ous kis los h0_depth h0_function mem h0_pages glo val h0_valueTop ffu fre fba fla h0_frames lat lhe h0_labelTop h0_steps h0_there rsl h0_resultLength h0_reason h0_place arg h0_argumentCount h0_code tap ctap gtap) t.heap ∧ va_K (dC, dI) cls2 [(ctap, .byte)] t ∧ va_D A (wz_307 h0 rf tap h0_taped h0_length h0_kind h0_from h0_to h0_word h0_numeral h0_globalNames_r h0_globalPlaces_r h0_globalTypes_r h0_globalValues_r h0_globalCount h0_funs_r h0_funCount h0_open h0_signs h0_levels_r h0_now h0_known_r h0_knownCount h0_loops mad h0_madeLength mag h0_smalls_r h0_greats_r h0_module_r h0_spare_r h0_m h0_cursor h0_limit blk stk h0_top hgt lab ous kis los h0_depth h0_function mem h0_pages glo val h0_valueTop ffu fre fba fla h0_frames lat lhe h0_labelTop h0_steps h0_there rsl h0_resultLength h0_reason h0_place arg h0_argumentCount h0_code tap ctap gtap)
set_option maxHeartbeats 4000000 in
set_option maxRecDepth 100000 in
theorem c_MD_sign (l : Launch) (hlt : l.stackTraces = false) (dC : Nat → ClassId) (dI : Nat → Nat → Nat) (sz : Nat) (sa : Nat → Nat) (h0 rf tap h0_globalNames_r h0_globalPlaces_r h0_globalTypes_r h0_globalValues_r h0_funs_r h0_levels_r h0_known_r mad mag h0_smalls_r h0_greats_r h0_module_r h0_spare_r blk stk hgt lab ous kis los mem glo val ffu fre fba fla lat lhe rsl arg : Nat) (ctap : ClassId) (h0_taped : Int32) (h0_length : Int32) (h0_kind : Int32) (h0_from : Int32) (h0_to : Int32) (h0_word : Value) (h0_numeral : Int64) (h0_globalCount : Int32) (h0_funCount : Int32) (h0_open : Int32) (h0_signs : Int32) (h0_now : Value) (h0_knownCount : Int32) (h0_loops : Int32) (h0_madeLength : Int32) (h0_m : Value) (h0_cursor : Int32) (h0_limit : Int32) (h0_top : Int32) (h0_depth : Int32) (h0_function : Int32) (h0_pages : Int32) (h0_valueTop : Int32) (h0_frames : Int32) (h0_labelTop : Int32) (h0_steps : Int32) (h0_there : Int32) (h0_resultLength : Int32) (h0_reason : Int32) (h0_place : Int32) (h0_argumentCount : Int32) (h0_code : Int32) (gtap : Nat → Int32)  (b_h0_length : 0 ≤ h0_length.toInt ∧ h0_length.toInt ≤ 2000) (b_h0_from : 0 ≤ h0_from.toInt ∧ h0_from.toInt ≤ 2000) (b_h0_to : 0 ≤ h0_to.toInt ∧ h0_to.toInt ≤ 2000) (p1 : Int32) (ba0 : 0 ≤ p1.toInt ∧ p1.toInt ≤ 255) (hc : h0_from.toInt < h0_length.toInt) (hc2 : p1.toInt = (bn (gtap h0_from.toNatClampNeg) : Int) ∧ p1.toInt ≠ 32) : Met l y_MD_sign w_MD_sign ({ frames := 4, cells := 0, slots := 0, locals := 91 }) (va_Pc [.ref h0, .int p1] (fun U => U.heap.size = sz ∧ va_P (dC, dI) cls2 (wz_307 h0 rf tap h0_taped h0_length h0_kind h0_from h0_to h0_word h0_numeral h0_globalNames_r h0_globalPlaces_r h0_globalTypes_r h0_globalValues_r h0_globalCount h0_funs_r h0_funCount h0_open h0_signs h0_levels_r h0_now h0_known_r h0_knownCount h0_loops mad h0_madeLength mag h0_smalls_r h0_greats_r h0_module_r h0_spare_r h0_m h0_cursor h0_limit blk stk h0_top hgt lab ous kis los h0_depth h0_function mem h0_pages glo val h0_valueTop ffu fre fba fla h0_frames lat lhe h0_labelTop h0_steps h0_there rsl h0_resultLength h0_reason h0_place arg h0_argumentCount h0_code tap ctap gtap) U.heap ∧ va_K (dC, dI) cls2 [(ctap, .byte)] U ∧ va_D (fun _ => True) (wz_307 h0 rf tap h0_taped h0_length h0_kind h0_from h0_to h0_word h0_numeral h0_globalNames_r h0_globalPlaces_r h0_globalTypes_r h0_globalValues_r h0_globalCount h0_funs_r h0_funCount h0_open h0_signs h0_levels_r h0_now h0_known_r h0_knownCount h0_loops mad h0_madeLength mag h0_smalls_r h0_greats_r h0_module_r h0_spare_r h0_m h0_cursor h0_limit blk stk h0_top hgt lab ous kis los h0_depth h0_function mem h0_pages glo val h0_valueTop ffu fre fba fla h0_frames lat lhe h0_labelTop h0_steps h0_there rsl h0_resultLength h0_reason h0_place arg h0_argumentCount h0_code tap ctap gtap) ∧ sm sa (va_A (wz_307 h0 rf tap h0_taped h0_length h0_kind h0_from h0_to h0_word h0_numeral h0_globalNames_r h0_globalPlaces_r h0_globalTypes_r h0_globalValues_r h0_globalCount h0_funs_r h0_funCount h0_open h0_signs h0_levels_r h0_now h0_known_r h0_knownCount h0_loops mad h0_madeLength mag h0_smalls_r h0_greats_r h0_module_r h0_spare_r h0_m h0_cursor h0_limit blk stk h0_top hgt lab ous kis los h0_depth h0_function mem h0_pages glo val h0_valueTop ffu fre fba fla h0_frames lat lhe h0_labelTop h0_steps h0_there rsl h0_resultLength h0_reason h0_place arg h0_argumentCount h0_code tap ctap gtap) sz) U U.heap)) (va_Qv (fun (u : Int32 × Int32) => match u with | (h0_kind2, h0_to2) => (0 ≤ h0_to2.toInt ∧ h0_to2.toInt ≤ 2000) ∧ (h0_from.toInt < h0_to2.toInt ∧ h0_to2.toInt ≤ h0_length.toInt ∧ h0_to2.toInt ≤ h0_from.toInt + 3 ∧ (h0_kind2.toInt = 5 ∨ h0_kind2.toInt = 6) ∧ ∀ j : Nat, h0_from.toInt ≤ (j : Int) → (j : Int) < h0_to2.toInt → (bn (gtap j) : Int) ≠ 32)) (at_MD_sign dC dI sa h0 rf tap h0_globalNames_r h0_globalPlaces_r h0_globalTypes_r h0_globalValues_r h0_funs_r h0_levels_r h0_known_r mad mag h0_smalls_r h0_greats_r h0_module_r h0_spare_r blk stk hgt lab ous kis los mem glo val ffu fre fba fla lat lhe rsl arg ctap h0_taped h0_length h0_from h0_word h0_numeral h0_globalCount h0_funCount h0_open h0_signs h0_now h0_knownCount h0_loops h0_madeLength h0_m h0_cursor h0_limit h0_top h0_depth h0_function h0_pages h0_valueTop h0_frames h0_labelTop h0_steps h0_there h0_resultLength h0_reason h0_place h0_argumentCount h0_code gtap (va_A (wz_307 h0 rf tap h0_taped h0_length h0_kind h0_from h0_to h0_word h0_numeral h0_globalNames_r h0_globalPlaces_r h0_globalTypes_r h0_globalValues_r h0_globalCount h0_funs_r h0_funCount h0_open h0_signs h0_levels_r h0_now h0_known_r h0_knownCount h0_loops mad h0_madeLength mag h0_smalls_r h0_greats_r h0_module_r h0_spare_r h0_m h0_cursor h0_limit blk stk h0_top hgt lab ous kis los h0_depth h0_function mem h0_pages glo val h0_valueTop ffu fre fba fla h0_frames lat lhe h0_labelTop h0_steps h0_there rsl h0_resultLength h0_reason h0_place arg h0_argumentCount h0_code tap ctap gtap) sz)) (va_A (wz_307 h0 rf tap h0_taped h0_length h0_kind h0_from h0_to h0_word h0_numeral h0_globalNames_r h0_globalPlaces_r h0_globalTypes_r h0_globalValues_r h0_globalCount h0_funs_r h0_funCount h0_open h0_signs h0_levels_r h0_now h0_known_r h0_knownCount h0_loops mad h0_madeLength mag h0_smalls_r h0_greats_r h0_module_r h0_spare_r h0_m h0_cursor h0_limit blk stk h0_top hgt lab ous kis los h0_depth h0_function mem h0_pages glo val h0_valueTop ffu fre fba fla h0_frames lat lhe h0_labelTop h0_steps h0_there rsl h0_resultLength h0_reason h0_place arg h0_argumentCount h0_code tap ctap gtap) sz)) 0 0 (va_A (wz_307 h0 rf tap h0_taped h0_length h0_kind h0_from h0_to h0_word h0_numeral h0_globalNames_r h0_globalPlaces_r h0_globalTypes_r h0_globalValues_r h0_globalCount h0_funs_r h0_funCount h0_open h0_signs h0_levels_r h0_now h0_known_r h0_knownCount h0_loops mad h0_madeLength mag h0_smalls_r h0_greats_r h0_module_r h0_spare_r h0_m h0_cursor h0_limit blk stk h0_top hgt lab ous kis los h0_depth h0_function mem h0_pages glo val h0_valueTop ffu fre fba fla h0_frames lat lhe h0_labelTop h0_steps h0_there rsl h0_resultLength h0_reason h0_place arg h0_argumentCount h0_code tap ctap gtap) sz) := by
  refine Met.ofW (cc := b_MD_sign) (maxL := 4) (ret := none) (by decide) rfl ?_
  intro p e s m args below meth c s₁ B hml hv
  obtain ⟨rfl, hsz, hP, hK, hD0, hSW⟩ := hv
  have hx := B.exec
  have hb := B.bytes
  have hr := B.returns
  have hts0 := atoms_spec (ws := w_MD_sign) B.pre
  have hts : ∀ w ∈ lw_g, w.before _ s = true := fun w h => hts0 w (List.mem_cons_of_mem _ h)
  have hown : s.vm.findClass R_MD = some m.cls := findClass_of_methodNamed B.named
  have hlocks := B.notSynchronized
  clear hts0
  subst hsz
  have hD := hD0.self (sz := s.heap.size)
  generalize hAe : va_A (wz_307 h0 rf tap h0_taped h0_length h0_kind h0_from h0_to h0_word h0_numeral h0_globalNames_r h0_globalPlaces_r h0_globalTypes_r h0_globalValues_r h0_globalCount h0_funs_r h0_funCount h0_open h0_signs h0_levels_r h0_now h0_known_r h0_knownCount h0_loops mad h0_madeLength mag h0_smalls_r h0_greats_r h0_module_r h0_spare_r h0_m h0_cursor h0_limit blk stk h0_top hgt lab ous kis los h0_depth h0_function mem h0_pages glo val h0_valueTop ffu fre fba fla h0_frames lat lhe h0_labelTop h0_steps h0_there rsl h0_resultLength h0_reason h0_place arg h0_argumentCount h0_code tap ctap gtap) s.heap.size = A at hD hSW ⊢
  have hA : ∀ q : Nat, s.heap.size ≤ q → A q := fun q h => by rw [← hAe]; exact Or.inr h
  clear hAe
  have hP : va_P (dC, dI) cls2 (wz_307 h0 rf tap h0_taped h0_length h0_kind h0_from h0_to h0_word h0_numeral h0_globalNames_r h0_globalPlaces_r h0_globalTypes_r h0_globalValues_r h0_globalCount h0_funs_r h0_funCount h0_open h0_signs h0_levels_r h0_now h0_known_r h0_knownCount h0_loops mad h0_madeLength mag h0_smalls_r h0_greats_r h0_module_r h0_spare_r h0_m h0_cursor h0_limit blk stk h0_top hgt lab ous kis los h0_depth h0_function mem h0_pages glo val h0_valueTop ffu fre fba fla h0_frames lat lhe h0_labelTop h0_steps h0_there rsl h0_resultLength h0_reason h0_place arg h0_argumentCount h0_code tap ctap gtap) s.heap := hP
  have hl := lv_entry ([.ref h0, .int p1]) (n := 4) (Nat.le_of_ble_eq_true rfl)
  rw [lg_entry_eq]
  generalize (lg_sl ([.ref h0, .int p1]) ++ List.replicate (4 - (lg_sl ([.ref h0, .int p1])).length) Slot.unset).toArray = ls at hl ⊢
  have hl : lv_has ls 4 [(0, .ref h0), (1, .int p1)] := hl
  have k0 : (0 : Int32).toInt = 0 := by decide
  refine w_gen (A := A) hP (fun H locs hP hS => ?_)
  have k1 : (1 : Int32).toInt = 1 := by decide
  have k2 : (2 : Int32).toInt = 2 := by decide
  have k3 : (3 : Int32).toInt = 3 := by decide
  have k5 : (5 : Int32).toInt = 5 := by decide
  have k6 : (6 : Int32).toInt = 6 := by decide
  have k33 : (33 : Int32).toInt = 33 := by decide
  have k38 : (38 : Int32).toInt = 38 := by decide
  have k60 : (60 : Int32).toInt = 60 := by decide
  have k61 : (61 : Int32).toInt = 61 := by decide
  have k62 : (62 : Int32).toInt = 62 := by decide
  have k124 : (124 : Int32).toInt = 124 := by decide
  have lo_p1 := i32_lo p1
  have hi_p1 := i32_hi p1
  refine lv_aload_n hx hb d_MD_sign_0 rfl (lv_at hl 0 rfl) ?_
  refine lv_aload_n hx hb d_MD_sign_1 rfl (lv_at hl 0 rfl) ?_
  refine va_get (D := (dC, dI)) (ci := 11) (v := .int h0_from) (C := R_MD) (T := F_MD) (N := 65) hx hb hts i_MD hown hK hP 0 rfl rfl 5 (by decide) (hts _ kF_MD_30) (fun _ h9 => h9) rfl d_MD_sign_2 ?_
  refine lv_iconst (v := 1) hx hb d_MD_sign_5 (by decide) ?_
  refine lv_iadd hx hb d_MD_sign_6 ?_
  refine lv_topi (fun x1 ex1 => ?_)
  have tx1 : x1.toInt = h0_from.toInt + 1 := by have z := i32_add ex1 (by (first | (apply Int.le_antisymm <;> omega) | omega)) (by (first | (apply Int.le_antisymm <;> omega) | omega)); first | exact z | (first | (apply Int.le_antisymm <;> omega) | omega)
  have hPc := hP.sb (wq := (wz_307 h0 rf tap h0_taped h0_length h0_kind h0_from h0_to h0_word h0_numeral h0_globalNames_r h0_globalPlaces_r h0_globalTypes_r h0_globalValues_r h0_globalCount h0_funs_r h0_funCount h0_open h0_signs h0_levels_r h0_now h0_known_r h0_knownCount h0_loops mad h0_madeLength mag h0_smalls_r h0_greats_r h0_module_r h0_spare_r h0_m h0_cursor h0_limit blk stk h0_top hgt lab ous kis los h0_depth h0_function mem h0_pages glo val h0_valueTop ffu fre fba fla h0_frames lat lhe h0_labelTop h0_steps h0_there rsl h0_resultLength h0_reason h0_place arg h0_argumentCount h0_code tap ctap gtap)) [0, 1] rfl
  have hDc := hD.sb (wq := (wz_307 h0 rf tap h0_taped h0_length h0_kind h0_from h0_to h0_word h0_numeral h0_globalNames_r h0_globalPlaces_r h0_globalTypes_r h0_globalValues_r h0_globalCount h0_funs_r h0_funCount h0_open h0_signs h0_levels_r h0_now h0_known_r h0_knownCount h0_loops mad h0_madeLength mag h0_smalls_r h0_greats_r h0_module_r h0_spare_r h0_m h0_cursor h0_limit blk stk h0_top hgt lab ous kis los h0_depth h0_function mem h0_pages glo val h0_valueTop ffu fre fba fla h0_frames lat lhe h0_labelTop h0_steps h0_there rsl h0_resultLength h0_reason h0_place arg h0_argumentCount h0_code tap ctap gtap)) [0, 1] (by decide) rfl
  have hKc := hK.sb (tyq := [(ctap, .byte)]) [0] rfl
  have hFc := va_free (wc := (wz_307 h0 rf tap h0_taped h0_length h0_kind h0_from h0_to h0_word h0_numeral h0_globalNames_r h0_globalPlaces_r h0_globalTypes_r h0_globalValues_r h0_globalCount h0_funs_r h0_funCount h0_open h0_signs h0_levels_r h0_now h0_known_r h0_knownCount h0_loops mad h0_madeLength mag h0_smalls_r h0_greats_r h0_module_r h0_spare_r h0_m h0_cursor h0_limit blk stk h0_top hgt lab ous kis los h0_depth h0_function mem h0_pages glo val h0_valueTop ffu fre fba fla h0_frames lat lhe h0_labelTop h0_steps h0_there rsl h0_resultLength h0_reason h0_place arg h0_argumentCount h0_code tap ctap gtap)) hD hS hA [0, 1] rfl
  refine va_calli (va_runV (As := [.int x1]) (rest := []) ⟨hx, hb, hml, hown, hts⟩ (c_MD_at l dC dI H.size h0 rf tap h0_globalNames_r h0_globalPlaces_r h0_globalTypes_r h0_globalValues_r h0_funs_r h0_levels_r h0_known_r mad mag h0_smalls_r h0_greats_r h0_module_r h0_spare_r blk stk hgt lab ous kis los mem glo val ffu fre fba fla lat lhe rsl arg ctap h0_taped h0_length h0_kind h0_from h0_to h0_word h0_numeral h0_globalCount h0_funCount h0_open h0_signs h0_now h0_knownCount h0_loops h0_madeLength h0_m h0_cursor h0_limit h0_top h0_depth h0_function h0_pages h0_valueTop h0_frames h0_labelTop h0_steps h0_there h0_resultLength h0_reason h0_place h0_argumentCount h0_code gtap (b_h0_length) x1 (by (try dsimp only) <;> (first | (apply Int.le_antisymm <;> omega) | omega))) (cwV 1 hts (gV kM_MD_26 kV_MD_at kS_MD_at kI_MD kC_MD_at) rfl rfl rfl (by decide +kernel) ⟨Nat.le_of_ble_eq_true rfl, Nat.le_of_ble_eq_true rfl⟩) ⟨fun a U g mk z => by obtain ⟨z0, z1, zP, zK, zD, zS⟩ := z; exact ⟨z0, z1, zP, va_K.moved (u := U) (U := U.calling g mk a) (Vm.Alike.refl U.vm) zK, zD, sw_nest.same (s := U) (U := U.calling g mk a) rfl zS⟩, va_recv hKc hPc (ci := 11) (q0 := 0) rfl rfl, fun U hU hW => ⟨rfl, by rw [hU], va_P.he hU.symm hPc, va_K.moved hW.alike hKc, hDc.weaken (fun _ _ _ _ => trivial), hSW.nest.warm hW⟩⟩ rfl rfl hl.1 rfl (lv_room (Nat.le_of_ble_eq_true rfl)) d_MD_sign_7 ⟨(Nat.zero_le _), (Nat.zero_le _)⟩) hS (fun q _ h => hFc q h) hFc (fun r2 u t H1 locs ht hvm hw hB hz1 hk1 hS => ?_)
  try dsimp only at hw
  have xr2 := hw
  try clear hw
  obtain ⟨a1, a2, a3, a4⟩ := xr2
  obtain ⟨hP1, hK1, hD1⟩ := hB
  replace hP1 := va_P.he ht hP1
  obtain ⟨hP, hD⟩ := va_join (wr := []) (w1 := (wz_307 h0 rf tap h0_taped h0_length h0_kind h0_from h0_to h0_word h0_numeral h0_globalNames_r h0_globalPlaces_r h0_globalTypes_r h0_globalValues_r h0_globalCount h0_funs_r h0_funCount h0_open h0_signs h0_levels_r h0_now h0_known_r h0_knownCount h0_loops mad h0_madeLength mag h0_smalls_r h0_greats_r h0_module_r h0_spare_r h0_m h0_cursor h0_limit blk stk h0_top hgt lab ous kis los h0_depth h0_function mem h0_pages glo val h0_valueTop ffu fre fba fla h0_frames lat lhe h0_labelTop h0_steps h0_there rsl h0_resultLength h0_reason h0_place arg h0_argumentCount h0_code tap ctap gtap)) hP hD [0, 1] [] rfl rfl (by decide) (by decide) hk1 hFc hP1 hD1
  clear hPc hDc hKc hFc hz1 hk1 hP1 hK1 hD1
  rename Heap => H
  have hP : va_P (dC, dI) cls2 (wz_307 h0 rf tap h0_taped h0_length h0_kind h0_from h0_to h0_word h0_numeral h0_globalNames_r h0_globalPlaces_r h0_globalTypes_r h0_globalValues_r h0_globalCount h0_funs_r h0_funCount h0_open h0_signs h0_levels_r h0_now h0_known_r h0_knownCount h0_loops mad h0_madeLength mag h0_smalls_r h0_greats_r h0_module_r h0_spare_r h0_m h0_cursor h0_limit blk stk h0_top hgt lab ous kis los h0_depth h0_function mem h0_pages glo val h0_valueTop ffu fre fba fla h0_frames lat lhe h0_labelTop h0_steps h0_there rsl h0_resultLength h0_reason h0_place arg h0_argumentCount h0_code tap ctap gtap) H := hP
  have hD : va_D A (wz_307 h0 rf tap h0_taped h0_length h0_kind h0_from h0_to h0_word h0_numeral h0_globalNames_r h0_globalPlaces_r h0_globalTypes_r h0_globalValues_r h0_globalCount h0_funs_r h0_funCount h0_open h0_signs h0_levels_r h0_now h0_known_r h0_knownCount h0_loops mad h0_madeLength mag h0_smalls_r h0_greats_r h0_module_r h0_spare_r h0_m h0_cursor h0_limit blk stk h0_top hgt lab ous kis los h0_depth h0_function mem h0_pages glo val h0_valueTop ffu fre fba fla h0_frames lat lhe h0_labelTop h0_steps h0_there rsl h0_resultLength h0_reason h0_place arg h0_argumentCount h0_code tap ctap gtap) := hD
  refine lv_istore_n (lv' := [(2, .int r2), (0, .ref h0), (1, .int p1)]) hx hb d_MD_sign_10 rfl hl (by decide) rfl (fun ls hl => ?_)
  refine lv_iconst (v := 1) hx hb d_MD_sign_11 (by decide) ?_
  refine lv_istore_n (lv' := [(3, .int 1), (2, .int r2), (0, .ref h0), (1, .int p1)]) hx hb d_MD_sign_12 rfl hl (by decide) rfl (fun ls hl => ?_)
  refine lv_iload_n hx hb d_MD_sign_13 rfl (lv_at hl 3 rfl) ?_
  refine lv_bipush (v := 124) hx hb d_MD_sign_14 (by decide) ?_
  refine w_cut (pc2 := 50) (σ := Int32) (fun u H locs ls => match u with | j50_l3 => (1 ≤ j50_l3.toInt ∧ j50_l3.toInt ≤ 2 ∧ h0_from.toInt + j50_l3.toInt ≤ h0_length.toInt ∧ (2 ≤ j50_l3.toInt → r2.toInt ≠ 32)) ∧ va_P (dC, dI) cls2 (wz_307 h0 rf tap h0_taped h0_length h0_kind h0_from h0_to h0_word h0_numeral h0_globalNames_r h0_globalPlaces_r h0_globalTypes_r h0_globalValues_r h0_globalCount h0_funs_r h0_funCount h0_open h0_signs h0_levels_r h0_now h0_known_r h0_knownCount h0_loops mad h0_madeLength mag h0_smalls_r h0_greats_r h0_module_r h0_spare_r h0_m h0_cursor h0_limit blk stk h0_top hgt lab ous kis los h0_depth h0_function mem h0_pages glo val h0_valueTop ffu fre fba fla h0_frames lat lhe h0_labelTop h0_steps h0_there rsl h0_resultLength h0_reason h0_place arg h0_argumentCount h0_code tap ctap gtap) H ∧ va_D A (wz_307 h0 rf tap h0_taped h0_length h0_kind h0_from h0_to h0_word h0_numeral h0_globalNames_r h0_globalPlaces_r h0_globalTypes_r h0_globalValues_r h0_globalCount h0_funs_r h0_funCount h0_open h0_signs h0_levels_r h0_now h0_known_r h0_knownCount h0_loops mad h0_madeLength mag h0_smalls_r h0_greats_r h0_module_r h0_spare_r h0_m h0_cursor h0_limit blk stk h0_top hgt lab ous kis los h0_depth h0_function mem h0_pages glo val h0_valueTop ffu fre fba fla h0_frames lat lhe h0_labelTop h0_steps h0_there rsl h0_resultLength h0_reason h0_place arg h0_argumentCount h0_code tap ctap gtap) ∧ va_S A s.heap H locs ∧ lv_has ls 4 [(0, .ref h0), (1, .int p1), (2, .int r2), (3, .int j50_l3)]) (fun u => match u with | j50_l3 => []) ?_ (fun jn50 => ?_)
  · intro u H locs ls hI
    obtain ⟨j50_l3, rfl⟩ : ∃ z, z = u := ⟨_, rfl⟩
    obtain ⟨y50, hP, hD, hS, hl⟩ := hI
    refine lv_iload_n hx hb d_MD_sign_50 rfl (lv_at hl 1 rfl) ?_
    refine lv_bipush (v := 33) hx hb d_MD_sign_51 (by decide) ?_
    refine w_cut (pc2 := 76) (σ := Int32) (fun u H locs ls => match u with | j76_l3 => (1 ≤ j76_l3.toInt ∧ j76_l3.toInt ≤ 2 ∧ h0_from.toInt + j76_l3.toInt ≤ h0_length.toInt ∧ (2 ≤ j76_l3.toInt → r2.toInt ≠ 32)) ∧ va_P (dC, dI) cls2 (wz_307 h0 rf tap h0_taped h0_length h0_kind h0_from h0_to h0_word h0_numeral h0_globalNames_r h0_globalPlaces_r h0_globalTypes_r h0_globalValues_r h0_globalCount h0_funs_r h0_funCount h0_open h0_signs h0_levels_r h0_now h0_known_r h0_knownCount h0_loops mad h0_madeLength mag h0_smalls_r h0_greats_r h0_module_r h0_spare_r h0_m h0_cursor h0_limit blk stk h0_top hgt lab ous kis los h0_depth h0_function mem h0_pages glo val h0_valueTop ffu fre fba fla h0_frames lat lhe h0_labelTop h0_steps h0_there rsl h0_resultLength h0_reason h0_place arg h0_argumentCount h0_code tap ctap gtap) H ∧ va_D A (wz_307 h0 rf tap h0_taped h0_length h0_kind h0_from h0_to h0_word h0_numeral h0_globalNames_r h0_globalPlaces_r h0_globalTypes_r h0_globalValues_r h0_globalCount h0_funs_r h0_funCount h0_open h0_signs h0_levels_r h0_now h0_known_r h0_knownCount h0_loops mad h0_madeLength mag h0_smalls_r h0_greats_r h0_module_r h0_spare_r h0_m h0_cursor h0_limit blk stk h0_top hgt lab ous kis los h0_depth h0_function mem h0_pages glo val h0_valueTop ffu fre fba fla h0_frames lat lhe h0_labelTop h0_steps h0_there rsl h0_resultLength h0_reason h0_place arg h0_argumentCount h0_code tap ctap gtap) ∧ va_S A s.heap H locs ∧ lv_has ls 4 [(0, .ref h0), (1, .int p1), (2, .int r2), (3, .int j76_l3)]) (fun u => match u with | j76_l3 => []) ?_ (fun jn76 => ?_)
    · intro u H locs ls hI
      obtain ⟨j76_l3, rfl⟩ : ∃ z, z = u := ⟨_, rfl⟩
      obtain ⟨y76, hP, hD, hS, hl⟩ := hI
      refine lv_iload_n hx hb d_MD_sign_76 rfl (lv_at hl 1 rfl) ?_
      refine lv_bipush (v := 62) hx hb d_MD_sign_77 (by decide) ?_
      refine w_cut (pc2 := 105) (σ := Int32) (fun u H locs ls => match u with | j105_l3 => (1 ≤ j105_l3.toInt ∧ j105_l3.toInt ≤ 3 ∧ h0_from.toInt + j105_l3.toInt ≤ h0_length.toInt ∧ (2 ≤ j105_l3.toInt → r2.toInt ≠ 32) ∧ (3 ≤ j105_l3.toInt → (bn (gtap (h0_from.toNatClampNeg + 2)) : Int) = 62)) ∧ va_P (dC, dI) cls2 (wz_307 h0 rf tap h0_taped h0_length h0_kind h0_from h0_to h0_word h0_numeral h0_globalNames_r h0_globalPlaces_r h0_globalTypes_r h0_globalValues_r h0_globalCount h0_funs_r h0_funCount h0_open h0_signs h0_levels_r h0_now h0_known_r h0_knownCount h0_loops mad h0_madeLength mag h0_smalls_r h0_greats_r h0_module_r h0_spare_r h0_m h0_cursor h0_limit blk stk h0_top hgt lab ous kis los h0_depth h0_function mem h0_pages glo val h0_valueTop ffu fre fba fla h0_frames lat lhe h0_labelTop h0_steps h0_there rsl h0_resultLength h0_reason h0_place arg h0_argumentCount h0_code tap ctap gtap) H ∧ va_D A (wz_307 h0 rf tap h0_taped h0_length h0_kind h0_from h0_to h0_word h0_numeral h0_globalNames_r h0_globalPlaces_r h0_globalTypes_r h0_globalValues_r h0_globalCount h0_funs_r h0_funCount h0_open h0_signs h0_levels_r h0_now h0_known_r h0_knownCount h0_loops mad h0_madeLength mag h0_smalls_r h0_greats_r h0_module_r h0_spare_r h0_m h0_cursor h0_limit blk stk h0_top hgt lab ous kis los h0_depth h0_function mem h0_pages glo val h0_valueTop ffu fre fba fla h0_frames lat lhe h0_labelTop h0_steps h0_there rsl h0_resultLength h0_reason h0_place arg h0_argumentCount h0_code tap ctap gtap) ∧ va_S A s.heap H locs ∧ lv_has ls 4 [(0, .ref h0), (1, .int p1), (3, .int j105_l3)]) (fun u => match u with | j105_l3 => []) ?_ (fun jn105 => ?_)
      · intro u H locs ls hI
        obtain ⟨j105_l3, rfl⟩ : ∃ z, z = u := ⟨_, rfl⟩
        obtain ⟨y105, hP, hD, hS, hl⟩ := hI
        refine lv_aload_n hx hb d_MD_sign_105 rfl (lv_at hl 0 rfl) ?_
        refine lv_aload_n hx hb d_MD_sign_106 rfl (lv_at hl 0 rfl) ?_
        refine va_get (D := (dC, dI)) (ci := 11) (v := .int h0_from) (C := R_MD) (T := F_MD) (N := 65) hx hb hts i_MD hown hK hP 0 rfl rfl 5 (by decide) (hts _ kF_MD_30) (fun _ h9 => h9) rfl d_MD_sign_107 ?_
        refine lv_iload_n hx hb d_MD_sign_110 rfl (lv_at hl 2 rfl) ?_
        refine lv_iadd hx hb d_MD_sign_111 ?_
        refine lv_topi (fun x3 ex3 => ?_)
        have tx3 : x3.toInt = h0_from.toInt + j105_l3.toInt := by have z := i32_add ex3 (by (first | (apply Int.le_antisymm <;> omega) | omega)) (by (first | (apply Int.le_antisymm <;> omega) | omega)); first | exact z | (first | (apply Int.le_antisymm <;> omega) | omega)
        refine va_put (D := (dC, dI)) (ci := 11) (v := .int x3) (ty := .int) (C := R_MD) (T := F_MD) (N := 65) hx hb hts i_MD t_MD t_MD_ok n_MD hown hK hP hD hS 0 rfl rfl 6 (by decide) (hts _ kF_MD_23) (fun _ h9 => h9) rfl (by decide +kernel) rfl rfl (Nat.le_of_ble_eq_true rfl) d_MD_sign_112 (fun H locs hP hD hS => ?_)
        refine lv_aload_n hx hb d_MD_sign_115 rfl (lv_at hl 0 rfl) ?_
        refine lv_iload_n hx hb d_MD_sign_116 rfl (lv_at hl 2 rfl) ?_
        refine lv_iconst (v := 1) hx hb d_MD_sign_117 (by decide) ?_
        refine w_cut (pc2 := 130) (σ := Unit) (fun u H locs ls => match u with | _ => va_P (dC, dI) cls2 (wz_307 h0 rf tap h0_taped h0_length h0_kind h0_from x3 h0_word h0_numeral h0_globalNames_r h0_globalPlaces_r h0_globalTypes_r h0_globalValues_r h0_globalCount h0_funs_r h0_funCount h0_open h0_signs h0_levels_r h0_now h0_known_r h0_knownCount h0_loops mad h0_madeLength mag h0_smalls_r h0_greats_r h0_module_r h0_spare_r h0_m h0_cursor h0_limit blk stk h0_top hgt lab ous kis los h0_depth h0_function mem h0_pages glo val h0_valueTop ffu fre fba fla h0_frames lat lhe h0_labelTop h0_steps h0_there rsl h0_resultLength h0_reason h0_place arg h0_argumentCount h0_code tap ctap gtap) H ∧ va_D A (wz_307 h0 rf tap h0_taped h0_length h0_kind h0_from x3 h0_word h0_numeral h0_globalNames_r h0_globalPlaces_r h0_globalTypes_r h0_globalValues_r h0_globalCount h0_funs_r h0_funCount h0_open h0_signs h0_levels_r h0_now h0_known_r h0_knownCount h0_loops mad h0_madeLength mag h0_smalls_r h0_greats_r h0_module_r h0_spare_r h0_m h0_cursor h0_limit blk stk h0_top hgt lab ous kis los h0_depth h0_function mem h0_pages glo val h0_valueTop ffu fre fba fla h0_frames lat lhe h0_labelTop h0_steps h0_there rsl h0_resultLength h0_reason h0_place arg h0_argumentCount h0_code tap ctap gtap) ∧ va_S A s.heap H locs ∧ lv_has ls 4 []) (fun u => match u with | _ => [.ref h0]) ?_ (fun jn130 => ?_)
        · intro u H locs ls hI
          obtain ⟨hP, hD, hS, hl⟩ := hI
          refine lv_iconst (v := 5) hx hb d_MD_sign_130 (by decide) ?_
          refine lv_goto (tgt := 136) hx hb d_MD_sign_131 (by decide) ?_
          refine va_put (D := (dC, dI)) (ci := 11) (v := .int 5) (ty := .int) (C := R_MD) (T := F_MD) (N := 65) hx hb hts i_MD t_MD t_MD_ok n_MD hown hK hP hD hS 0 rfl rfl 4 (by decide) (hts _ kF_MD_33) (fun _ h9 => h9) rfl (by decide +kernel) rfl rfl (Nat.le_of_ble_eq_true rfl) d_MD_sign_136 (fun H locs hP hD hS => ?_)
          have hP9 := hP.sb (wq := (wz_307 h0 rf tap h0_taped h0_length 5 h0_from x3 h0_word h0_numeral h0_globalNames_r h0_globalPlaces_r h0_globalTypes_r h0_globalValues_r h0_globalCount h0_funs_r h0_funCount h0_open h0_signs h0_levels_r h0_now h0_known_r h0_knownCount h0_loops mad h0_madeLength mag h0_smalls_r h0_greats_r h0_module_r h0_spare_r h0_m h0_cursor h0_limit blk stk h0_top hgt lab ous kis los h0_depth h0_function mem h0_pages glo val h0_valueTop ffu fre fba fla h0_frames lat lhe h0_labelTop h0_steps h0_there rsl h0_resultLength h0_reason h0_place arg h0_argumentCount h0_code tap ctap gtap)) [0, 1] rfl
          have hD9 := hD.sb (wq := (wz_307 h0 rf tap h0_taped h0_length 5 h0_from x3 h0_word h0_numeral h0_globalNames_r h0_globalPlaces_r h0_globalTypes_r h0_globalValues_r h0_globalCount h0_funs_r h0_funCount h0_open h0_signs h0_levels_r h0_now h0_known_r h0_knownCount h0_loops mad h0_madeLength mag h0_smalls_r h0_greats_r h0_module_r h0_spare_r h0_m h0_cursor h0_limit blk stk h0_top hgt lab ous kis los h0_depth h0_function mem h0_pages glo val h0_valueTop ffu fre fba fla h0_frames lat lhe h0_labelTop h0_steps h0_there rsl h0_resultLength h0_reason h0_place arg h0_argumentCount h0_code tap ctap gtap)) [0, 1] (by decide) rfl
          exact W.vret hx hb hr (fun t ht hW => ⟨⟨(5, x3), rfl, ⟨by (try dsimp only) <;> (first | (apply Int.le_antisymm <;> omega) | omega), ⟨by (first | (apply Int.le_antisymm <;> omega) | omega), by (first | (apply Int.le_antisymm <;> omega) | omega), by (first | (apply Int.le_antisymm <;> omega) | omega), by decide, fun j h1 h2 => sg_32 (j := j) (by (first | (apply Int.le_antisymm <;> omega) | omega)) (by (first | (apply Int.le_antisymm <;> omega) | omega)) hc2.1 hc2.2 a1 (show x1.toInt = h0_from.toInt + 1 from by (first | (apply Int.le_antisymm <;> omega) | omega)) y105 h1 (by (try dsimp only at h2) <;> (first | (apply Int.le_antisymm <;> omega) | omega))⟩⟩, va_P.he ht.symm hP9, va_K.moved hW.alike hK, hD9⟩, hS.F ht⟩) hS.2.2 d_MD_sign_139
        · skip
          refine lv_icmp_gt (tgt := 130) hx hb d_MD_sign_118 (by decide) (fun c118 => ?_) (fun c118 => ?_)
          · have q118 := ltI c118
            exact jn130 () _ _ _ ⟨hP, hD, hS, lv_sub hl [] rfl⟩
          · have q118 := nltI c118
            refine va_ldcS hx hb hown (hSW.lr 8 rfl) d_MD_sign_121 ?_
            refine lv_iload_n hx hb d_MD_sign_123 rfl (lv_at hl 1 rfl) ?_
            have hPc := @vp_nil
            have hDc := hD.sb (wq := []) [] (by decide) rfl
            have hKc := hK.sb (tyq := []) [] rfl
            have hFc := va_free (wc := []) hD hS hA [] rfl
            refine va_calli (va_runV (As := [.int p1]) (rest := [.ref h0]) ⟨hx, hb, hml, hown, hts⟩ (c_JS_indexOf0 l hlt dC dI H.size sa ((sa 408)) ((sa 508)) ((litB.getD 8 [])) p1 (by decide)) (cwV 1 hts (gV kM_MD_98 kV_JS_indexOf0 kS_JS_indexOf0 kI_JS kC_JS_indexOf0) rfl rfl rfl (by decide +kernel) ⟨Nat.le_of_ble_eq_true rfl, Nat.le_of_ble_eq_true rfl⟩) ⟨fun a U g mk z => by obtain ⟨z0, z1, zP, zK, zD, zS, zR0⟩ := z; exact ⟨z0, z1, zP, va_K.moved (u := U) (U := U.calling g mk a) (Vm.Alike.refl U.vm) zK, zD, sm.same (u := U) (U := U.calling g mk a) rfl zS, zR0.moved (u := U) (U := U.calling g mk a) (Vm.Alike.refl U.vm)⟩, so_recv ((hSW.ls 8 (by decide)).1) hS, fun U hU hW => ⟨rfl, by rw [hU], va_P.he hU.symm hPc, va_K.moved hW.alike hKc, hDc.weaken (fun _ _ _ _ => trivial), hSW.call hS hFc hW hU, ((hSW.ls 8 (by decide))).call hS hFc hW hU⟩⟩ rfl rfl hl.1 rfl (lv_room (Nat.le_of_ble_eq_true rfl)) d_MD_sign_124 ⟨(Nat.zero_le _), (Nat.zero_le _)⟩) hS (fun q _ h => hFc q h) hFc (fun r4 u t H1 locs ht hvm hw hB hz1 hk1 hS => ?_)
            try dsimp only at hw
            have xr4 := hw
            try clear hw
            obtain ⟨hP1, hK1, hD1⟩ := hB
            replace hP1 := va_P.he ht hP1
            replace hP1 := @vp_nil (dC, dI) cls2 H1
            obtain ⟨hP, hD⟩ := va_join (wr := (wz_307 h0 rf tap h0_taped h0_length h0_kind h0_from x3 h0_word h0_numeral h0_globalNames_r h0_globalPlaces_r h0_globalTypes_r h0_globalValues_r h0_globalCount h0_funs_r h0_funCount h0_open h0_signs h0_levels_r h0_now h0_known_r h0_knownCount h0_loops mad h0_madeLength mag h0_smalls_r h0_greats_r h0_module_r h0_spare_r h0_m h0_cursor h0_limit blk stk h0_top hgt lab ous kis los h0_depth h0_function mem h0_pages glo val h0_valueTop ffu fre fba fla h0_frames lat lhe h0_labelTop h0_steps h0_there rsl h0_resultLength h0_reason h0_place arg h0_argumentCount h0_code tap ctap gtap)) (w1 := []) hP hD [] [0, 1] rfl rfl (by decide) (by decide) hk1 hFc hP1 hD1
            clear hPc hDc hKc hFc hz1 hk1 hP1 hK1 hD1
            rename Heap => H
            have hP : va_P (dC, dI) cls2 (wz_307 h0 rf tap h0_taped h0_length h0_kind h0_from x3 h0_word h0_numeral h0_globalNames_r h0_globalPlaces_r h0_globalTypes_r h0_globalValues_r h0_globalCount h0_funs_r h0_funCount h0_open h0_signs h0_levels_r h0_now h0_known_r h0_knownCount h0_loops mad h0_madeLength mag h0_smalls_r h0_greats_r h0_module_r h0_spare_r h0_m h0_cursor h0_limit blk stk h0_top hgt lab ous kis los h0_depth h0_function mem h0_pages glo val h0_valueTop ffu fre fba fla h0_frames lat lhe h0_labelTop h0_steps h0_there rsl h0_resultLength h0_reason h0_place arg h0_argumentCount h0_code tap ctap gtap) H := hP
            have hD : va_D A (wz_307 h0 rf tap h0_taped h0_length h0_kind h0_from x3 h0_word h0_numeral h0_globalNames_r h0_globalPlaces_r h0_globalTypes_r h0_globalValues_r h0_globalCount h0_funs_r h0_funCount h0_open h0_signs h0_levels_r h0_now h0_known_r h0_knownCount h0_loops mad h0_madeLength mag h0_smalls_r h0_greats_r h0_module_r h0_spare_r h0_m h0_cursor h0_limit blk stk h0_top hgt lab ous kis los h0_depth h0_function mem h0_pages glo val h0_valueTop ffu fre fba fla h0_frames lat lhe h0_labelTop h0_steps h0_there rsl h0_resultLength h0_reason h0_place arg h0_argumentCount h0_code tap ctap gtap) := hD
            refine lv_if_lt (tgt := 134) hx hb d_MD_sign_127 (by decide) (fun c127 => ?_) (fun c127 => ?_)
            · have q127 := ltI c127
              refine lv_bipush (v := 6) hx hb d_MD_sign_134 (by decide) ?_
              refine va_put (D := (dC, dI)) (ci := 11) (v := .int 6) (ty := .int) (C := R_MD) (T := F_MD) (N := 65) hx hb hts i_MD t_MD t_MD_ok n_MD hown hK hP hD hS 0 rfl rfl 4 (by decide) (hts _ kF_MD_33) (fun _ h9 => h9) rfl (by decide +kernel) rfl rfl (Nat.le_of_ble_eq_true rfl) d_MD_sign_136 (fun H locs hP hD hS => ?_)
              have hP9 := hP.sb (wq := (wz_307 h0 rf tap h0_taped h0_length 6 h0_from x3 h0_word h0_numeral h0_globalNames_r h0_globalPlaces_r h0_globalTypes_r h0_globalValues_r h0_globalCount h0_funs_r h0_funCount h0_open h0_signs h0_levels_r h0_now h0_known_r h0_knownCount h0_loops mad h0_madeLength mag h0_smalls_r h0_greats_r h0_module_r h0_spare_r h0_m h0_cursor h0_limit blk stk h0_top hgt lab ous kis los h0_depth h0_function mem h0_pages glo val h0_valueTop ffu fre fba fla h0_frames lat lhe h0_labelTop h0_steps h0_there rsl h0_resultLength h0_reason h0_place arg h0_argumentCount h0_code tap ctap gtap)) [0, 1] rfl
              have hD9 := hD.sb (wq := (wz_307 h0 rf tap h0_taped h0_length 6 h0_from x3 h0_word h0_numeral h0_globalNames_r h0_globalPlaces_r h0_globalTypes_r h0_globalValues_r h0_globalCount h0_funs_r h0_funCount h0_open h0_signs h0_levels_r h0_now h0_known_r h0_knownCount h0_loops mad h0_madeLength mag h0_smalls_r h0_greats_r h0_module_r h0_spare_r h0_m h0_cursor h0_limit blk stk h0_top hgt lab ous kis los h0_depth h0_function mem h0_pages glo val h0_valueTop ffu fre fba fla h0_frames lat lhe h0_labelTop h0_steps h0_there rsl h0_resultLength h0_reason h0_place arg h0_argumentCount h0_code tap ctap gtap)) [0, 1] (by decide) rfl
              exact W.vret hx hb hr (fun t ht hW => ⟨⟨(6, x3), rfl, ⟨by (try dsimp only) <;> (first | (apply Int.le_antisymm <;> omega) | omega), ⟨by (first | (apply Int.le_antisymm <;> omega) | omega), by (first | (apply Int.le_antisymm <;> omega) | omega), by (first | (apply Int.le_antisymm <;> omega) | omega), by decide, fun j h1 h2 => sg_32 (j := j) (by (first | (apply Int.le_antisymm <;> omega) | omega)) (by (first | (apply Int.le_antisymm <;> omega) | omega)) hc2.1 hc2.2 a1 (show x1.toInt = h0_from.toInt + 1 from by (first | (apply Int.le_antisymm <;> omega) | omega)) y105 h1 (by (try dsimp only at h2) <;> (first | (apply Int.le_antisymm <;> omega) | omega))⟩⟩, va_P.he ht.symm hP9, va_K.moved hW.alike hK, hD9⟩, hS.F ht⟩) hS.2.2 d_MD_sign_139
            · have q127 := nltI c127
              exact jn130 () _ _ _ ⟨hP, hD, hS, lv_sub hl [] rfl⟩
      · skip
        refine lv_icmp_ne (tgt := 105) hx hb d_MD_sign_79 (by decide) (fun c79 => ?_) (fun c79 => ?_)
        · have q79 := neI c79
          exact jn105 j76_l3 _ _ _ ⟨(by first | (first | (apply Int.le_antisymm <;> omega) | omega) | (have g9 := b1 (by (first | (apply Int.le_antisymm <;> omega) | omega)); have z8 := i32_clamp (x := h0_from) (by (first | (apply Int.le_antisymm <;> omega) | omega)); have z9 := i32_clamp (x := h0_from) (by (first | (apply Int.le_antisymm <;> omega) | omega)); rw [show h0_from.toNatClampNeg = h0_from.toNatClampNeg + 2 from by (first | (apply Int.le_antisymm <;> omega) | omega)] at g9; (first | (apply Int.le_antisymm <;> omega) | omega))), hP, hD, hS, lv_sub hl [0, 1, 3] rfl⟩
        · have q79 := eqI c79
          refine lv_iload_n hx hb d_MD_sign_82 rfl (lv_at hl 2 rfl) ?_
          refine lv_bipush (v := 62) hx hb d_MD_sign_83 (by decide) ?_
          refine lv_icmp_ne (tgt := 105) hx hb d_MD_sign_85 (by decide) (fun c85 => ?_) (fun c85 => ?_)
          · have q85 := neI c85
            exact jn105 j76_l3 _ _ _ ⟨(by first | (first | (apply Int.le_antisymm <;> omega) | omega) | (have g9 := b1 (by (first | (apply Int.le_antisymm <;> omega) | omega)); have z8 := i32_clamp (x := h0_from) (by (first | (apply Int.le_antisymm <;> omega) | omega)); have z9 := i32_clamp (x := h0_from) (by (first | (apply Int.le_antisymm <;> omega) | omega)); rw [show h0_from.toNatClampNeg = h0_from.toNatClampNeg + 2 from by (first | (apply Int.le_antisymm <;> omega) | omega)] at g9; (first | (apply Int.le_antisymm <;> omega) | omega))), hP, hD, hS, lv_sub hl [0, 1, 3] rfl⟩
          · have q85 := eqI c85
            refine lv_aload_n hx hb d_MD_sign_88 rfl (lv_at hl 0 rfl) ?_
            refine lv_aload_n hx hb d_MD_sign_89 rfl (lv_at hl 0 rfl) ?_
            refine va_get (D := (dC, dI)) (ci := 11) (v := .int h0_from) (C := R_MD) (T := F_MD) (N := 65) hx hb hts i_MD hown hK hP 0 rfl rfl 5 (by decide) (hts _ kF_MD_30) (fun _ h9 => h9) rfl d_MD_sign_90 ?_
            refine lv_iconst (v := 2) hx hb d_MD_sign_93 (by decide) ?_
            refine lv_iadd hx hb d_MD_sign_94 ?_
            refine lv_topi (fun x5 ex5 => ?_)
            have tx5 : x5.toInt = h0_from.toInt + 2 := by have z := i32_add ex5 (by (first | (apply Int.le_antisymm <;> omega) | omega)) (by (first | (apply Int.le_antisymm <;> omega) | omega)); first | exact z | (first | (apply Int.le_antisymm <;> omega) | omega)
            have hPc := hP.sb (wq := (wz_307 h0 rf tap h0_taped h0_length h0_kind h0_from h0_to h0_word h0_numeral h0_globalNames_r h0_globalPlaces_r h0_globalTypes_r h0_globalValues_r h0_globalCount h0_funs_r h0_funCount h0_open h0_signs h0_levels_r h0_now h0_known_r h0_knownCount h0_loops mad h0_madeLength mag h0_smalls_r h0_greats_r h0_module_r h0_spare_r h0_m h0_cursor h0_limit blk stk h0_top hgt lab ous kis los h0_depth h0_function mem h0_pages glo val h0_valueTop ffu fre fba fla h0_frames lat lhe h0_labelTop h0_steps h0_there rsl h0_resultLength h0_reason h0_place arg h0_argumentCount h0_code tap ctap gtap)) [0, 1] rfl
            have hDc := hD.sb (wq := (wz_307 h0 rf tap h0_taped h0_length h0_kind h0_from h0_to h0_word h0_numeral h0_globalNames_r h0_globalPlaces_r h0_globalTypes_r h0_globalValues_r h0_globalCount h0_funs_r h0_funCount h0_open h0_signs h0_levels_r h0_now h0_known_r h0_knownCount h0_loops mad h0_madeLength mag h0_smalls_r h0_greats_r h0_module_r h0_spare_r h0_m h0_cursor h0_limit blk stk h0_top hgt lab ous kis los h0_depth h0_function mem h0_pages glo val h0_valueTop ffu fre fba fla h0_frames lat lhe h0_labelTop h0_steps h0_there rsl h0_resultLength h0_reason h0_place arg h0_argumentCount h0_code tap ctap gtap)) [0, 1] (by decide) rfl
            have hKc := hK.sb (tyq := [(ctap, .byte)]) [0] rfl
            have hFc := va_free (wc := (wz_307 h0 rf tap h0_taped h0_length h0_kind h0_from h0_to h0_word h0_numeral h0_globalNames_r h0_globalPlaces_r h0_globalTypes_r h0_globalValues_r h0_globalCount h0_funs_r h0_funCount h0_open h0_signs h0_levels_r h0_now h0_known_r h0_knownCount h0_loops mad h0_madeLength mag h0_smalls_r h0_greats_r h0_module_r h0_spare_r h0_m h0_cursor h0_limit blk stk h0_top hgt lab ous kis los h0_depth h0_function mem h0_pages glo val h0_valueTop ffu fre fba fla h0_frames lat lhe h0_labelTop h0_steps h0_there rsl h0_resultLength h0_reason h0_place arg h0_argumentCount h0_code tap ctap gtap)) hD hS hA [0, 1] rfl
            refine va_calli (va_runV (As := [.int x5]) (rest := []) ⟨hx, hb, hml, hown, hts⟩ (c_MD_at l dC dI H.size h0 rf tap h0_globalNames_r h0_globalPlaces_r h0_globalTypes_r h0_globalValues_r h0_funs_r h0_levels_r h0_known_r mad mag h0_smalls_r h0_greats_r h0_module_r h0_spare_r blk stk hgt lab ous kis los mem glo val ffu fre fba fla lat lhe rsl arg ctap h0_taped h0_length h0_kind h0_from h0_to h0_word h0_numeral h0_globalCount h0_funCount h0_open h0_signs h0_now h0_knownCount h0_loops h0_madeLength h0_m h0_cursor h0_limit h0_top h0_depth h0_function h0_pages h0_valueTop h0_frames h0_labelTop h0_steps h0_there h0_resultLength h0_reason h0_place h0_argumentCount h0_code gtap (b_h0_length) x5 (by (try dsimp only) <;> (first | (apply Int.le_antisymm <;> omega) | omega))) (cwV 1 hts (gV kM_MD_26 kV_MD_at kS_MD_at kI_MD kC_MD_at) rfl rfl rfl (by decide +kernel) ⟨Nat.le_of_ble_eq_true rfl, Nat.le_of_ble_eq_true rfl⟩) ⟨fun a U g mk z => by obtain ⟨z0, z1, zP, zK, zD, zS⟩ := z; exact ⟨z0, z1, zP, va_K.moved (u := U) (U := U.calling g mk a) (Vm.Alike.refl U.vm) zK, zD, sw_nest.same (s := U) (U := U.calling g mk a) rfl zS⟩, va_recv hKc hPc (ci := 11) (q0 := 0) rfl rfl, fun U hU hW => ⟨rfl, by rw [hU], va_P.he hU.symm hPc, va_K.moved hW.alike hKc, hDc.weaken (fun _ _ _ _ => trivial), hSW.nest.warm hW⟩⟩ rfl rfl hl.1 rfl (lv_room (Nat.le_of_ble_eq_true rfl)) d_MD_sign_95 ⟨(Nat.zero_le _), (Nat.zero_le _)⟩) hS (fun q _ h => hFc q h) hFc (fun r6 u t H1 locs ht hvm hw hB hz1 hk1 hS => ?_)
            try dsimp only at hw
            have xr6 := hw
            try clear hw
            obtain ⟨b1, b2, b3, b4⟩ := xr6
            obtain ⟨hP1, hK1, hD1⟩ := hB
            replace hP1 := va_P.he ht hP1
            obtain ⟨hP, hD⟩ := va_join (wr := []) (w1 := (wz_307 h0 rf tap h0_taped h0_length h0_kind h0_from h0_to h0_word h0_numeral h0_globalNames_r h0_globalPlaces_r h0_globalTypes_r h0_globalValues_r h0_globalCount h0_funs_r h0_funCount h0_open h0_signs h0_levels_r h0_now h0_known_r h0_knownCount h0_loops mad h0_madeLength mag h0_smalls_r h0_greats_r h0_module_r h0_spare_r h0_m h0_cursor h0_limit blk stk h0_top hgt lab ous kis los h0_depth h0_function mem h0_pages glo val h0_valueTop ffu fre fba fla h0_frames lat lhe h0_labelTop h0_steps h0_there rsl h0_resultLength h0_reason h0_place arg h0_argumentCount h0_code tap ctap gtap)) hP hD [0, 1] [] rfl rfl (by decide) (by decide) hk1 hFc hP1 hD1
            clear hPc hDc hKc hFc hz1 hk1 hP1 hK1 hD1
            rename Heap => H
            have hP : va_P (dC, dI) cls2 (wz_307 h0 rf tap h0_taped h0_length h0_kind h0_from h0_to h0_word h0_numeral h0_globalNames_r h0_globalPlaces_r h0_globalTypes_r h0_globalValues_r h0_globalCount h0_funs_r h0_funCount h0_open h0_signs h0_levels_r h0_now h0_known_r h0_knownCount h0_loops mad h0_madeLength mag h0_smalls_r h0_greats_r h0_module_r h0_spare_r h0_m h0_cursor h0_limit blk stk h0_top hgt lab ous kis los h0_depth h0_function mem h0_pages glo val h0_valueTop ffu fre fba fla h0_frames lat lhe h0_labelTop h0_steps h0_there rsl h0_resultLength h0_reason h0_place arg h0_argumentCount h0_code tap ctap gtap) H := hP
            have hD : va_D A (wz_307 h0 rf tap h0_taped h0_length h0_kind h0_from h0_to h0_word h0_numeral h0_globalNames_r h0_globalPlaces_r h0_globalTypes_r h0_globalValues_r h0_globalCount h0_funs_r h0_funCount h0_open h0_signs h0_levels_r h0_now h0_known_r h0_knownCount h0_loops mad h0_madeLength mag h0_smalls_r h0_greats_r h0_module_r h0_spare_r h0_m h0_cursor h0_limit blk stk h0_top hgt lab ous kis los h0_depth h0_function mem h0_pages glo val h0_valueTop ffu fre fba fla h0_frames lat lhe h0_labelTop h0_steps h0_there rsl h0_resultLength h0_reason h0_place arg h0_argumentCount h0_code tap ctap gtap) := hD
            refine lv_bipush (v := 62) hx hb d_MD_sign_98 (by decide) ?_
            refine lv_icmp_ne (tgt := 105) hx hb d_MD_sign_100 (by decide) (fun c100 => ?_) (fun c100 => ?_)
            · have q100 := neI c100
              exact jn105 j76_l3 _ _ _ ⟨(by first | (first | (apply Int.le_antisymm <;> omega) | omega) | (have g9 := b1 (by (first | (apply Int.le_antisymm <;> omega) | omega)); have z8 := i32_clamp (x := h0_from) (by (first | (apply Int.le_antisymm <;> omega) | omega)); have z9 := i32_clamp (x := x5) (by (first | (apply Int.le_antisymm <;> omega) | omega)); rw [show x5.toNatClampNeg = h0_from.toNatClampNeg + 2 from by (first | (apply Int.le_antisymm <;> omega) | omega)] at g9; (first | (apply Int.le_antisymm <;> omega) | omega))), hP, hD, hS, lv_sub hl [0, 1, 3] rfl⟩
            · have q100 := eqI c100
              refine lv_iconst (v := 3) hx hb d_MD_sign_103 (by decide) ?_
              refine lv_istore_n (lv' := [(3, .int 3), (0, .ref h0), (1, .int p1), (2, .int r2)]) hx hb d_MD_sign_104 rfl hl (by decide) rfl (fun ls hl => ?_)
              exact jn105 3 _ _ _ ⟨(by first | (first | (apply Int.le_antisymm <;> omega) | omega) | (have g9 := b1 (by (first | (apply Int.le_antisymm <;> omega) | omega)); have z8 := i32_clamp (x := h0_from) (by (first | (apply Int.le_antisymm <;> omega) | omega)); have z9 := i32_clamp (x := x5) (by (first | (apply Int.le_antisymm <;> omega) | omega)); rw [show x5.toNatClampNeg = h0_from.toNatClampNeg + 2 from by (first | (apply Int.le_antisymm <;> omega) | omega)] at g9; (first | (apply Int.le_antisymm <;> omega) | omega))), hP, hD, hS, lv_sub hl [1, 2, 0] rfl⟩
    · skip
      refine w_cut (pc2 := 68) (σ := Unit) (fun u H locs ls => match u with | _ => va_P (dC, dI) cls2 (wz_307 h0 rf tap h0_taped h0_length h0_kind h0_from h0_to h0_word h0_numeral h0_globalNames_r h0_globalPlaces_r h0_globalTypes_r h0_globalValues_r h0_globalCount h0_funs_r h0_funCount h0_open h0_signs h0_levels_r h0_now h0_known_r h0_knownCount h0_loops mad h0_madeLength mag h0_smalls_r h0_greats_r h0_module_r h0_spare_r h0_m h0_cursor h0_limit blk stk h0_top hgt lab ous kis los h0_depth h0_function mem h0_pages glo val h0_valueTop ffu fre fba fla h0_frames lat lhe h0_labelTop h0_steps h0_there rsl h0_resultLength h0_reason h0_place arg h0_argumentCount h0_code tap ctap gtap) H ∧ va_D A (wz_307 h0 rf tap h0_taped h0_length h0_kind h0_from h0_to h0_word h0_numeral h0_globalNames_r h0_globalPlaces_r h0_globalTypes_r h0_globalValues_r h0_globalCount h0_funs_r h0_funCount h0_open h0_signs h0_levels_r h0_now h0_known_r h0_knownCount h0_loops mad h0_madeLength mag h0_smalls_r h0_greats_r h0_module_r h0_spare_r h0_m h0_cursor h0_limit blk stk h0_top hgt lab ous kis los h0_depth h0_function mem h0_pages glo val h0_valueTop ffu fre fba fla h0_frames lat lhe h0_labelTop h0_steps h0_there rsl h0_resultLength h0_reason h0_place arg h0_argumentCount h0_code tap ctap gtap) ∧ va_S A s.heap H locs ∧ lv_has ls 4 [(0, .ref h0), (1, .int p1), (2, .int r2), (3, .int j50_l3)]) (fun u => match u with | _ => []) ?_ (fun jn68 => ?_)
      · intro u H locs ls hI
        obtain ⟨hP, hD, hS, hl⟩ := hI
        refine lv_iload_n hx hb d_MD_sign_68 rfl (lv_at hl 2 rfl) ?_
        refine lv_bipush (v := 61) hx hb d_MD_sign_69 (by decide) ?_
        refine lv_icmp_ne (tgt := 76) hx hb d_MD_sign_71 (by decide) (fun c71 => ?_) (fun c71 => ?_)
        · have q71 := neI c71
          exact jn76 j50_l3 _ _ _ ⟨(by first | (first | (apply Int.le_antisymm <;> omega) | omega) | (have g9 := b1 (by (first | (apply Int.le_antisymm <;> omega) | omega)); have z8 := i32_clamp (x := h0_from) (by (first | (apply Int.le_antisymm <;> omega) | omega)); have z9 := i32_clamp (x := x5) (by (first | (apply Int.le_antisymm <;> omega) | omega)); rw [show x5.toNatClampNeg = h0_from.toNatClampNeg + 2 from by (first | (apply Int.le_antisymm <;> omega) | omega)] at g9; (first | (apply Int.le_antisymm <;> omega) | omega))), hP, hD, hS, lv_sub hl [0, 1, 2, 3] rfl⟩
        · have q71 := eqI c71
          refine lv_iconst (v := 2) hx hb d_MD_sign_74 (by decide) ?_
          refine lv_istore_n (lv' := [(3, .int 2), (0, .ref h0), (1, .int p1), (2, .int r2)]) hx hb d_MD_sign_75 rfl hl (by decide) rfl (fun ls hl => ?_)
          exact jn76 2 _ _ _ ⟨(by first | (first | (apply Int.le_antisymm <;> omega) | omega) | (have g9 := b1 (by (first | (apply Int.le_antisymm <;> omega) | omega)); have z8 := i32_clamp (x := h0_from) (by (first | (apply Int.le_antisymm <;> omega) | omega)); have z9 := i32_clamp (x := x5) (by (first | (apply Int.le_antisymm <;> omega) | omega)); rw [show x5.toNatClampNeg = h0_from.toNatClampNeg + 2 from by (first | (apply Int.le_antisymm <;> omega) | omega)] at g9; (first | (apply Int.le_antisymm <;> omega) | omega))), hP, hD, hS, lv_sub hl [1, 2, 3, 0] rfl⟩
      · skip
        refine lv_icmp_eq (tgt := 68) hx hb d_MD_sign_53 (by decide) (fun c53 => ?_) (fun c53 => ?_)
        · have q53 := eqI c53
          exact jn68 () _ _ _ ⟨hP, hD, hS, lv_sub hl [0, 1, 2, 3] rfl⟩
        · have q53 := neI c53
          refine lv_iload_n hx hb d_MD_sign_56 rfl (lv_at hl 1 rfl) ?_
          refine lv_bipush (v := 60) hx hb d_MD_sign_57 (by decide) ?_
          refine lv_icmp_eq (tgt := 68) hx hb d_MD_sign_59 (by decide) (fun c59 => ?_) (fun c59 => ?_)
          · have q59 := eqI c59
            exact jn68 () _ _ _ ⟨hP, hD, hS, lv_sub hl [0, 1, 2, 3] rfl⟩
          · have q59 := neI c59
            refine lv_iload_n hx hb d_MD_sign_62 rfl (lv_at hl 1 rfl) ?_
            refine lv_bipush (v := 62) hx hb d_MD_sign_63 (by decide) ?_
            refine lv_icmp_ne (tgt := 76) hx hb d_MD_sign_65 (by decide) (fun c65 => ?_) (fun c65 => ?_)
            · have q65 := neI c65
              exact jn76 j50_l3 _ _ _ ⟨(by first | (first | (apply Int.le_antisymm <;> omega) | omega) | (have g9 := b1 (by (first | (apply Int.le_antisymm <;> omega) | omega)); have z8 := i32_clamp (x := h0_from) (by (first | (apply Int.le_antisymm <;> omega) | omega)); have z9 := i32_clamp (x := x5) (by (first | (apply Int.le_antisymm <;> omega) | omega)); rw [show x5.toNatClampNeg = h0_from.toNatClampNeg + 2 from by (first | (apply Int.le_antisymm <;> omega) | omega)] at g9; (first | (apply Int.le_antisymm <;> omega) | omega))), hP, hD, hS, lv_sub hl [0, 1, 2, 3] rfl⟩
            · have q65 := eqI c65
              exact jn68 () _ _ _ ⟨hP, hD, hS, lv_sub hl [0, 1, 2, 3] rfl⟩
  · skip
    refine w_cut (pc2 := 43) (σ := Unit) (fun u H locs ls => match u with | _ => va_P (dC, dI) cls2 (wz_307 h0 rf tap h0_taped h0_length h0_kind h0_from h0_to h0_word h0_numeral h0_globalNames_r h0_globalPlaces_r h0_globalTypes_r h0_globalValues_r h0_globalCount h0_funs_r h0_funCount h0_open h0_signs h0_levels_r h0_now h0_known_r h0_knownCount h0_loops mad h0_madeLength mag h0_smalls_r h0_greats_r h0_module_r h0_spare_r h0_m h0_cursor h0_limit blk stk h0_top hgt lab ous kis los h0_depth h0_function mem h0_pages glo val h0_valueTop ffu fre fba fla h0_frames lat lhe h0_labelTop h0_steps h0_there rsl h0_resultLength h0_reason h0_place arg h0_argumentCount h0_code tap ctap gtap) H ∧ va_D A (wz_307 h0 rf tap h0_taped h0_length h0_kind h0_from h0_to h0_word h0_numeral h0_globalNames_r h0_globalPlaces_r h0_globalTypes_r h0_globalValues_r h0_globalCount h0_funs_r h0_funCount h0_open h0_signs h0_levels_r h0_now h0_known_r h0_knownCount h0_loops mad h0_madeLength mag h0_smalls_r h0_greats_r h0_module_r h0_spare_r h0_m h0_cursor h0_limit blk stk h0_top hgt lab ous kis los h0_depth h0_function mem h0_pages glo val h0_valueTop ffu fre fba fla h0_frames lat lhe h0_labelTop h0_steps h0_there rsl h0_resultLength h0_reason h0_place arg h0_argumentCount h0_code tap ctap gtap) ∧ va_S A s.heap H locs ∧ lv_has ls 4 [(0, .ref h0), (1, .int p1), (2, .int r2), (3, .int 1)]) (fun u => match u with | _ => []) ?_ (fun jn43 => ?_)
    · intro u H locs ls hI
      obtain ⟨hP, hD, hS, hl⟩ := hI
      refine lv_iload_n hx hb d_MD_sign_43 rfl (lv_at hl 2 rfl) ?_
      refine lv_iload_n hx hb d_MD_sign_44 rfl (lv_at hl 1 rfl) ?_
      refine lv_icmp_ne (tgt := 50) hx hb d_MD_sign_45 (by decide) (fun c45 => ?_) (fun c45 => ?_)
      · have q45 := neI c45
        exact jn50 1 _ _ _ ⟨(by first | (first | (apply Int.le_antisymm <;> omega) | omega) | (have g9 := b1 (by (first | (apply Int.le_antisymm <;> omega) | omega)); have z8 := i32_clamp (x := h0_from) (by (first | (apply Int.le_antisymm <;> omega) | omega)); have z9 := i32_clamp (x := x5) (by (first | (apply Int.le_antisymm <;> omega) | omega)); rw [show x5.toNatClampNeg = h0_from.toNatClampNeg + 2 from by (first | (apply Int.le_antisymm <;> omega) | omega)] at g9; (first | (apply Int.le_antisymm <;> omega) | omega))), hP, hD, hS, lv_sub hl [0, 1, 2, 3] rfl⟩
      · have q45 := eqI c45
        refine lv_iconst (v := 2) hx hb d_MD_sign_48 (by decide) ?_
        refine lv_istore_n (lv' := [(3, .int 2), (0, .ref h0), (1, .int p1), (2, .int r2)]) hx hb d_MD_sign_49 rfl hl (by decide) rfl (fun ls hl => ?_)
        exact jn50 2 _ _ _ ⟨(by first | (first | (apply Int.le_antisymm <;> omega) | omega) | (have g9 := b1 (by (first | (apply Int.le_antisymm <;> omega) | omega)); have z8 := i32_clamp (x := h0_from) (by (first | (apply Int.le_antisymm <;> omega) | omega)); have z9 := i32_clamp (x := x5) (by (first | (apply Int.le_antisymm <;> omega) | omega)); rw [show x5.toNatClampNeg = h0_from.toNatClampNeg + 2 from by (first | (apply Int.le_antisymm <;> omega) | omega)] at g9; (first | (apply Int.le_antisymm <;> omega) | omega))), hP, hD, hS, lv_sub hl [1, 2, 3, 0] rfl⟩
    · skip
      refine lv_icmp_eq (tgt := 43) hx hb d_MD_sign_16 (by decide) (fun c16 => ?_) (fun c16 => ?_)
      · have q16 := eqI c16
        exact jn43 () _ _ _ ⟨hP, hD, hS, lv_sub hl [2, 3, 1, 0] rfl⟩
      · have q16 := neI c16
        refine lv_iload_n hx hb d_MD_sign_19 rfl (lv_at hl 3 rfl) ?_
        refine lv_bipush (v := 38) hx hb d_MD_sign_20 (by decide) ?_
        refine lv_icmp_eq (tgt := 43) hx hb d_MD_sign_22 (by decide) (fun c22 => ?_) (fun c22 => ?_)
        · have q22 := eqI c22
          exact jn43 () _ _ _ ⟨hP, hD, hS, lv_sub hl [2, 3, 1, 0] rfl⟩
        · have q22 := neI c22
          refine lv_iload_n hx hb d_MD_sign_25 rfl (lv_at hl 3 rfl) ?_
          refine lv_bipush (v := 61) hx hb d_MD_sign_26 (by decide) ?_
          refine lv_icmp_eq (tgt := 43) hx hb d_MD_sign_28 (by decide) (fun c28 => ?_) (fun c28 => ?_)
          · have q28 := eqI c28
            exact jn43 () _ _ _ ⟨hP, hD, hS, lv_sub hl [2, 3, 1, 0] rfl⟩
          · have q28 := neI c28
            refine lv_iload_n hx hb d_MD_sign_31 rfl (lv_at hl 3 rfl) ?_
            refine lv_bipush (v := 60) hx hb d_MD_sign_32 (by decide) ?_
            refine lv_icmp_eq (tgt := 43) hx hb d_MD_sign_34 (by decide) (fun c34 => ?_) (fun c34 => ?_)
            · have q34 := eqI c34
              exact jn43 () _ _ _ ⟨hP, hD, hS, lv_sub hl [2, 3, 1, 0] rfl⟩
            · have q34 := neI c34
              refine lv_iload_n hx hb d_MD_sign_37 rfl (lv_at hl 3 rfl) ?_
              refine lv_bipush (v := 62) hx hb d_MD_sign_38 (by decide) ?_
              refine lv_icmp_ne (tgt := 50) hx hb d_MD_sign_40 (by decide) (fun c40 => ?_) (fun c40 => ?_)
              · have q40 := neI c40
                exact jn50 1 _ _ _ ⟨(by first | (first | (apply Int.le_antisymm <;> omega) | omega) | (have g9 := b1 (by (first | (apply Int.le_antisymm <;> omega) | omega)); have z8 := i32_clamp (x := h0_from) (by (first | (apply Int.le_antisymm <;> omega) | omega)); have z9 := i32_clamp (x := x5) (by (first | (apply Int.le_antisymm <;> omega) | omega)); rw [show x5.toNatClampNeg = h0_from.toNatClampNeg + 2 from by (first | (apply Int.le_antisymm <;> omega) | omega)] at g9; (first | (apply Int.le_antisymm <;> omega) | omega))), hP, hD, hS, lv_sub hl [2, 3, 1, 0] rfl⟩
              · have q40 := eqI c40
                exact jn43 () _ _ _ ⟨hP, hD, hS, lv_sub hl [2, 3, 1, 0] rfl⟩
end q_m91
section q_m92
/-! the reference: is the next one this -/
abbrev b_MD_is : ByteArray := prog_15_method_8_code
def y_MD_is : MethodName := ⟨R_MD, "is", "(Ljava/lang/String;)Z"⟩
abbrev w_MD_is : List Cond := .code y_MD_is b_MD_is 3 (Option.some .boolean) :: lw_g
theorem kC_MD_is : Cond.code y_MD_is b_MD_is 3 (Option.some .boolean) ∈ lw_g := in_c11 75 rfl rfl
theorem d_MD_is_0 : decode b_MD_is 0 = .ok (.aload_n 0, 1) := bz_c42 (by decide +kernel)
theorem d_MD_is_1 : decode b_MD_is 1 = .ok (.getfield 33, 3) := bz_c180 (by decide +kernel)
theorem d_MD_is_4 : decode b_MD_is 4 = .ok (.iconst 2, 1) := bz_c5 (by decide +kernel)
theorem d_MD_is_5 : decode b_MD_is 5 = .ok (.if_icmp .ne 12, 3) := bz_c160 (by decide +kernel)
theorem d_MD_is_8 : decode b_MD_is 8 = .ok (.aload_n 0, 1) := bz_c42 (by decide +kernel)
theorem d_MD_is_9 : decode b_MD_is 9 = .ok (.getfield 57, 3) := bz_c180 (by decide +kernel)
theorem d_MD_is_12 : decode b_MD_is 12 = .ok (.aload_n 1, 1) := bz_c43 (by decide +kernel)
theorem d_MD_is_13 : decode b_MD_is 13 = .ok (.invokevirtual 100, 3) := bz_c182 (by decide +kernel)
theorem d_MD_is_16 : decode b_MD_is 16 = .ok (.ireturn, 1) := bz_c172 (by decide +kernel)
theorem d_MD_is_17 : decode b_MD_is 17 = .ok (.aload_n 0, 1) := bz_c42 (by decide +kernel)
theorem d_MD_is_18 : decode b_MD_is 18 = .ok (.getfield 33, 3) := bz_c180 (by decide +kernel)
theorem d_MD_is_21 : decode b_MD_is 21 = .ok (.iconst 5, 1) := bz_c8 (by decide +kernel)
theorem d_MD_is_22 : decode b_MD_is 22 = .ok (.if_icmp .ne 19, 3) := bz_c160 (by decide +kernel)
theorem d_MD_is_25 : decode b_MD_is 25 = .ok (.aload_n 0, 1) := bz_c42 (by decide +kernel)
theorem d_MD_is_26 : decode b_MD_is 26 = .ok (.getfield 23, 3) := bz_c180 (by decide +kernel)
theorem d_MD_is_29 : decode b_MD_is 29 = .ok (.aload_n 0, 1) := bz_c42 (by decide +kernel)
theorem d_MD_is_30 : decode b_MD_is 30 = .ok (.getfield 30, 3) := bz_c180 (by decide +kernel)
theorem d_MD_is_33 : decode b_MD_is 33 = .ok (.isub, 1) := bz_c100 (by decide +kernel)
theorem d_MD_is_34 : decode b_MD_is 34 = .ok (.aload_n 1, 1) := bz_c43 (by decide +kernel)
theorem d_MD_is_35 : decode b_MD_is 35 = .ok (.invokevirtual 72, 3) := bz_c182 (by decide +kernel)
theorem d_MD_is_38 : decode b_MD_is 38 = .ok (.if_icmp .eq 5, 3) := bz_c159 (by decide +kernel)
theorem d_MD_is_41 : decode b_MD_is 41 = .ok (.iconst 0, 1) := bz_c3 (by decide +kernel)
theorem d_MD_is_42 : decode b_MD_is 42 = .ok (.ireturn, 1) := bz_c172 (by decide +kernel)
theorem d_MD_is_43 : decode b_MD_is 43 = .ok (.iconst 0, 1) := bz_c3 (by decide +kernel)
theorem d_MD_is_44 : decode b_MD_is 44 = .ok (.istore_n 2, 1) := bz_c61 (by decide +kernel)
theorem d_MD_is_45 : decode b_MD_is 45 = .ok (.iload_n 2, 1) := bz_c28 (by decide +kernel)
theorem d_MD_is_46 : decode b_MD_is 46 = .ok (.aload_n 1, 1) := bz_c43 (by decide +kernel)
theorem d_MD_is_47 : decode b_MD_is 47 = .ok (.invokevirtual 72, 3) := bz_c182 (by decide +kernel)
theorem d_MD_is_50 : decode b_MD_is 50 = .ok (.if_icmp .ge 29, 3) := bz_c162 (by decide +kernel)
theorem d_MD_is_53 : decode b_MD_is 53 = .ok (.aload_n 0, 1) := bz_c42 (by decide +kernel)
theorem d_MD_is_54 : decode b_MD_is 54 = .ok (.aload_n 0, 1) := bz_c42 (by decide +kernel)
theorem d_MD_is_55 : decode b_MD_is 55 = .ok (.getfield 30, 3) := bz_c180 (by decide +kernel)
theorem d_MD_is_58 : decode b_MD_is 58 = .ok (.iload_n 2, 1) := bz_c28 (by decide +kernel)
theorem d_MD_is_59 : decode b_MD_is 59 = .ok (.iadd, 1) := bz_c96 (by decide +kernel)
theorem d_MD_is_60 : decode b_MD_is 60 = .ok (.invokevirtual 26, 3) := bz_c182 (by decide +kernel)
theorem d_MD_is_63 : decode b_MD_is 63 = .ok (.aload_n 1, 1) := bz_c43 (by decide +kernel)
theorem d_MD_is_64 : decode b_MD_is 64 = .ok (.iload_n 2, 1) := bz_c28 (by decide +kernel)
theorem d_MD_is_65 : decode b_MD_is 65 = .ok (.invokevirtual 104, 3) := bz_c182 (by decide +kernel)
theorem d_MD_is_68 : decode b_MD_is 68 = .ok (.if_icmp .eq 5, 3) := bz_c159 (by decide +kernel)
theorem d_MD_is_71 : decode b_MD_is 71 = .ok (.iconst 0, 1) := bz_c3 (by decide +kernel)
theorem d_MD_is_72 : decode b_MD_is 72 = .ok (.ireturn, 1) := bz_c172 (by decide +kernel)
theorem d_MD_is_73 : decode b_MD_is 73 = .ok (.iinc 2 1, 3) := by decide +kernel
theorem d_MD_is_76 : decode b_MD_is 76 = .ok (.goto (-31), 3) := bz_c167 (by decide +kernel)
theorem d_MD_is_79 : decode b_MD_is 79 = .ok (.iconst 1, 1) := bz_c4 (by decide +kernel)
theorem d_MD_is_80 : decode b_MD_is 80 = .ok (.ireturn, 1) := bz_c172 (by decide +kernel)
theorem kF_MD_57 : Cond.fieldLink R_MD 57 "WaferForgeModel" "word" "Ljava/lang/String;" ∈ lw_g := in_c8 228 rfl rfl
abbrev at_MD_is (dC : Nat → ClassId) (dI : Nat → Nat → Nat) (sa : Nat → Nat) (h0 rf tap h0_globalNames_r h0_globalPlaces_r h0_globalTypes_r h0_globalValues_r h0_funs_r h0_levels_r h0_known_r mad mag h0_smalls_r h0_greats_r h0_module_r h0_spare_r blk stk hgt lab ous kis los mem glo val ffu fre fba fla lat lhe rsl arg : Nat) (ctap cr cpn cpb : ClassId) (h0_taped : Int32) (h0_length : Int32) (h0_kind : Int32) (h0_from : Int32) (h0_to : Int32) (h0_word : Value) (h0_numeral : Int64) (h0_globalCount : Int32) (h0_funCount : Int32) (h0_open : Int32) (h0_signs : Int32) (h0_now : Value) (h0_knownCount : Int32) (h0_loops : Int32) (h0_madeLength : Int32) (h0_m : Value) (h0_cursor : Int32) (h0_limit : Int32) (h0_top : Int32) (h0_depth : Int32) (h0_function : Int32) (h0_pages : Int32) (h0_valueTop : Int32) (h0_frames : Int32) (h0_labelTop : Int32) (h0_steps : Int32) (h0_there : Int32) (h0_resultLength : Int32) (h0_reason : Int32) (h0_place : Int32) (h0_argumentCount : Int32) (h0_code : Int32) (gtap : Nat → Int32) (LP : List Nat) (fP : Nat → va_E) (A : Nat → Prop) (u : Unit) (t : State) : Prop := match u with | _ => va_P (dC, dI) cls2 (((wz_307 h0 rf tap h0_taped h0_length h0_kind h0_from h0_to h0_word h0_numeral h0_globalNames_r h0_globalPlaces_r h0_globalTypes_r h0_globalValues_r h0_globalCount h0_funs_r h0_funCount h0_open h0_signs h0_levels_r h0_now h0_known_r h0_knownCount h0_loops mad h0_madeLength mag h0_smalls_r h0_greats_r h0_module_r h0_spare_r h0_m h0_cursor h0_limit blk stk h0_top hgt lab ous kis los h0_depth h0_function mem h0_pages glo val h0_valueTop ffu fre fba fla h0_frames lat lhe h0_labelTop h0_steps h0_there rsl h0_resultLength h0_reason h0_place arg h0_argumentCount h0_code tap ctap gtap) : va_W) ++ va_pl LP fP) t.heap ∧ va_K (dC, dI) cls2 [(ctap, .byte), (cr, .int), (cpn, .object "WaferForgeModel$N"), (cpb, .byte)] t ∧ va_D A (((wz_307 h0 rf tap h0_taped h0_length h0_kind h0_from h0_to h0_word h0_numeral h0_globalNames_r h0_globalPlaces_r h0_globalTypes_r h0_globalValues_r h0_globalCount h0_funs_r h0_funCount h0_open h0_signs h0_levels_r h0_now h0_known_r h0_knownCount h0_loops mad h0_madeLength mag h0_smalls_r h0_greats_r h0_module_r h0_spare_r h0_m h0_cursor h0_limit blk stk h0_top hgt lab ous kis los h0_depth h0_function mem h0_pages glo val h0_valueTop ffu fre fba fla h0_frames lat lhe h0_labelTop h0_steps h0_there rsl h0_resultLength h0_reason h0_place arg h0_argumentCount h0_code tap ctap gtap) : va_W) ++ va_pl LP fP)
set_option maxHeartbeats 4000000 in
set_option maxRecDepth 100000 in
theorem c_MD_is (l : Launch) (hlt : l.stackTraces = false) (dC : Nat → ClassId) (dI : Nat → Nat → Nat) (sz : Nat) (sa : Nat → Nat) (tx tv : Nat) (b : List Int32) (h0 rf tap h0_globalNames_r h0_globalPlaces_r h0_globalTypes_r h0_globalValues_r h0_funs_r h0_levels_r h0_known_r mad mag h0_smalls_r h0_greats_r h0_module_r h0_spare_r blk stk hgt lab ous kis los mem glo val ffu fre fba fla lat lhe rsl arg : Nat) (ctap cr cpn cpb : ClassId) (h0_taped : Int32) (h0_length : Int32) (h0_kind : Int32) (h0_from : Int32) (h0_to : Int32) (h0_word : Value) (h0_numeral : Int64) (h0_globalCount : Int32) (h0_funCount : Int32) (h0_open : Int32) (h0_signs : Int32) (h0_now : Value) (h0_knownCount : Int32) (h0_loops : Int32) (h0_madeLength : Int32) (h0_m : Value) (h0_cursor : Int32) (h0_limit : Int32) (h0_top : Int32) (h0_depth : Int32) (h0_function : Int32) (h0_pages : Int32) (h0_valueTop : Int32) (h0_frames : Int32) (h0_labelTop : Int32) (h0_steps : Int32) (h0_there : Int32) (h0_resultLength : Int32) (h0_reason : Int32) (h0_place : Int32) (h0_argumentCount : Int32) (h0_code : Int32) (gtap : Nat → Int32) (LP : List Nat) (fP : Nat → va_E) (gw : List Int32)  (b_h0_length : 0 ≤ h0_length.toInt ∧ h0_length.toInt ≤ 2000) (b_h0_from : 0 ≤ h0_from.toInt ∧ h0_from.toInt ≤ 2000) (b_h0_to : 0 ≤ h0_to.toInt ∧ h0_to.toInt ≤ 2000)   (hbl : (b.length : Int) ≤ 4000) (hwd : bx (h0_kind.toInt = 2 → ∃ po_w, h0_word = .ref po_w ∧ strP LP fP cpb po_w gw)) : Met l y_MD_is w_MD_is ({ frames := 4, cells := 0, slots := 0, locals := 85 }) (va_Pc [.ref h0, .ref tx] (fun U => U.heap.size = sz ∧ va_P (dC, dI) cls2 (((wz_307 h0 rf tap h0_taped h0_length h0_kind h0_from h0_to h0_word h0_numeral h0_globalNames_r h0_globalPlaces_r h0_globalTypes_r h0_globalValues_r h0_globalCount h0_funs_r h0_funCount h0_open h0_signs h0_levels_r h0_now h0_known_r h0_knownCount h0_loops mad h0_madeLength mag h0_smalls_r h0_greats_r h0_module_r h0_spare_r h0_m h0_cursor h0_limit blk stk h0_top hgt lab ous kis los h0_depth h0_function mem h0_pages glo val h0_valueTop ffu fre fba fla h0_frames lat lhe h0_labelTop h0_steps h0_there rsl h0_resultLength h0_reason h0_place arg h0_argumentCount h0_code tap ctap gtap) : va_W) ++ va_pl LP fP) U.heap ∧ va_K (dC, dI) cls2 [(ctap, .byte), (cr, .int), (cpn, .object "WaferForgeModel$N"), (cpb, .byte)] U ∧ va_D (fun _ => True) (((wz_307 h0 rf tap h0_taped h0_length h0_kind h0_from h0_to h0_word h0_numeral h0_globalNames_r h0_globalPlaces_r h0_globalTypes_r h0_globalValues_r h0_globalCount h0_funs_r h0_funCount h0_open h0_signs h0_levels_r h0_now h0_known_r h0_knownCount h0_loops mad h0_madeLength mag h0_smalls_r h0_greats_r h0_module_r h0_spare_r h0_m h0_cursor h0_limit blk stk h0_top hgt lab ous kis los h0_depth h0_function mem h0_pages glo val h0_valueTop ffu fre fba fla h0_frames lat lhe h0_labelTop h0_steps h0_there rsl h0_resultLength h0_reason h0_place arg h0_argumentCount h0_code tap ctap gtap) : va_W) ++ va_pl LP fP) ∧ sm sa (va_A (((wz_307 h0 rf tap h0_taped h0_length h0_kind h0_from h0_to h0_word h0_numeral h0_globalNames_r h0_globalPlaces_r h0_globalTypes_r h0_globalValues_r h0_globalCount h0_funs_r h0_funCount h0_open h0_signs h0_levels_r h0_now h0_known_r h0_knownCount h0_loops mad h0_madeLength mag h0_smalls_r h0_greats_r h0_module_r h0_spare_r h0_m h0_cursor h0_limit blk stk h0_top hgt lab ous kis los h0_depth h0_function mem h0_pages glo val h0_valueTop ffu fre fba fla h0_frames lat lhe h0_labelTop h0_steps h0_there rsl h0_resultLength h0_reason h0_place arg h0_argumentCount h0_code tap ctap gtap) : va_W) ++ va_pl LP fP) sz) U U.heap ∧ sw_str tx tv b (va_A (((wz_307 h0 rf tap h0_taped h0_length h0_kind h0_from h0_to h0_word h0_numeral h0_globalNames_r h0_globalPlaces_r h0_globalTypes_r h0_globalValues_r h0_globalCount h0_funs_r h0_funCount h0_open h0_signs h0_levels_r h0_now h0_known_r h0_knownCount h0_loops mad h0_madeLength mag h0_smalls_r h0_greats_r h0_module_r h0_spare_r h0_m h0_cursor h0_limit blk stk h0_top hgt lab ous kis los h0_depth h0_function mem h0_pages glo val h0_valueTop ffu fre fba fla h0_frames lat lhe h0_labelTop h0_steps h0_there rsl h0_resultLength h0_reason h0_place arg h0_argumentCount h0_code tap ctap gtap) : va_W) ++ va_pl LP fP) sz) U U.heap)) (va_Qi (fun (r : Int32) (u : Unit) => match u with | _ => (r = 0 ∨ r = 1) ∧ ((r.toInt = 1 ∧ ((h0_kind.toInt = 2 ∧ gw = b) ∨ (h0_kind.toInt = 5 ∧ h0_to.toInt - h0_from.toInt = (b.length : Int) ∧ ∀ j : Nat, j < b.length → bn (gtap (h0_from.toNatClampNeg + j)) = bn (b.getD j 0)))) ∨ r.toInt = 0)) (at_MD_is dC dI sa h0 rf tap h0_globalNames_r h0_globalPlaces_r h0_globalTypes_r h0_globalValues_r h0_funs_r h0_levels_r h0_known_r mad mag h0_smalls_r h0_greats_r h0_module_r h0_spare_r blk stk hgt lab ous kis los mem glo val ffu fre fba fla lat lhe rsl arg ctap cr cpn cpb h0_taped h0_length h0_kind h0_from h0_to h0_word h0_numeral h0_globalCount h0_funCount h0_open h0_signs h0_now h0_knownCount h0_loops h0_madeLength h0_m h0_cursor h0_limit h0_top h0_depth h0_function h0_pages h0_valueTop h0_frames h0_labelTop h0_steps h0_there h0_resultLength h0_reason h0_place h0_argumentCount h0_code gtap LP fP (va_A (((wz_307 h0 rf tap h0_taped h0_length h0_kind h0_from h0_to h0_word h0_numeral h0_globalNames_r h0_globalPlaces_r h0_globalTypes_r h0_globalValues_r h0_globalCount h0_funs_r h0_funCount h0_open h0_signs h0_levels_r h0_now h0_known_r h0_knownCount h0_loops mad h0_madeLength mag h0_smalls_r h0_greats_r h0_module_r h0_spare_r h0_m h0_cursor h0_limit blk stk h0_top hgt lab ous kis los h0_depth h0_function mem h0_pages glo val h0_valueTop ffu fre fba fla h0_frames lat lhe h0_labelTop h0_steps h0_there rsl h0_resultLength h0_reason h0_place arg h0_argumentCount h0_code tap ctap gtap) : va_W) ++ va_pl LP fP) sz)) (va_A (((wz_307 h0 rf tap h0_taped h0_length h0_kind h0_from h0_to h0_word h0_numeral h0_globalNames_r h0_globalPlaces_r h0_globalTypes_r h0_globalValues_r h0_globalCount h0_funs_r h0_funCount h0_open h0_signs h0_levels_r h0_now h0_known_r h0_knownCount h0_loops mad h0_madeLength mag h0_smalls_r h0_greats_r h0_module_r h0_spare_r h0_m h0_cursor h0_limit blk stk h0_top hgt lab ous kis los h0_depth h0_function mem h0_pages glo val h0_valueTop ffu fre fba fla h0_frames lat lhe h0_labelTop h0_steps h0_there rsl h0_resultLength h0_reason h0_place arg h0_argumentCount h0_code tap ctap gtap) : va_W) ++ va_pl LP fP) sz)) 0 0 (va_A (((wz_307 h0 rf tap h0_taped h0_length h0_kind h0_from h0_to h0_word h0_numeral h0_globalNames_r h0_globalPlaces_r h0_globalTypes_r h0_globalValues_r h0_globalCount h0_funs_r h0_funCount h0_open h0_signs h0_levels_r h0_now h0_known_r h0_knownCount h0_loops mad h0_madeLength mag h0_smalls_r h0_greats_r h0_module_r h0_spare_r h0_m h0_cursor h0_limit blk stk h0_top hgt lab ous kis los h0_depth h0_function mem h0_pages glo val h0_valueTop ffu fre fba fla h0_frames lat lhe h0_labelTop h0_steps h0_there rsl h0_resultLength h0_reason h0_place arg h0_argumentCount h0_code tap ctap gtap) : va_W) ++ va_pl LP fP) sz) := by
  refine Met.ofW (cc := b_MD_is) (maxL := 3) (ret := (Option.some .boolean)) (by decide) rfl ?_
  intro p e s m args below meth c s₁ B hml hv
  obtain ⟨rfl, hsz, hP, hK, hD0, hSW, hR0⟩ := hv
  have hx := B.exec
  have hb := B.bytes
  have hr := B.returns
  have hts0 := atoms_spec (ws := w_MD_is) B.pre
  have hts : ∀ w ∈ lw_g, w.before _ s = true := fun w h => hts0 w (List.mem_cons_of_mem _ h)
  have hown : s.vm.findClass R_MD = some m.cls := findClass_of_methodNamed B.named
  have hlocks := B.notSynchronized
  clear hts0
  subst hsz
  have hD := hD0.self (sz := s.heap.size)
  generalize hAe : va_A (((wz_307 h0 rf tap h0_taped h0_length h0_kind h0_from h0_to h0_word h0_numeral h0_globalNames_r h0_globalPlaces_r h0_globalTypes_r h0_globalValues_r h0_globalCount h0_funs_r h0_funCount h0_open h0_signs h0_levels_r h0_now h0_known_r h0_knownCount h0_loops mad h0_madeLength mag h0_smalls_r h0_greats_r h0_module_r h0_spare_r h0_m h0_cursor h0_limit blk stk h0_top hgt lab ous kis los h0_depth h0_function mem h0_pages glo val h0_valueTop ffu fre fba fla h0_frames lat lhe h0_labelTop h0_steps h0_there rsl h0_resultLength h0_reason h0_place arg h0_argumentCount h0_code tap ctap gtap) : va_W) ++ va_pl LP fP) s.heap.size = A at hD hSW hR0 ⊢
  have hA : ∀ q : Nat, s.heap.size ≤ q → A q := fun q h => by rw [← hAe]; exact Or.inr h
  clear hAe
  have hP : va_P (dC, dI) cls2 (((wz_307 h0 rf tap h0_taped h0_length h0_kind h0_from h0_to h0_word h0_numeral h0_globalNames_r h0_globalPlaces_r h0_globalTypes_r h0_globalValues_r h0_globalCount h0_funs_r h0_funCount h0_open h0_signs h0_levels_r h0_now h0_known_r h0_knownCount h0_loops mad h0_madeLength mag h0_smalls_r h0_greats_r h0_module_r h0_spare_r h0_m h0_cursor h0_limit blk stk h0_top hgt lab ous kis los h0_depth h0_function mem h0_pages glo val h0_valueTop ffu fre fba fla h0_frames lat lhe h0_labelTop h0_steps h0_there rsl h0_resultLength h0_reason h0_place arg h0_argumentCount h0_code tap ctap gtap) : va_W) ++ va_pl LP fP) s.heap := hP
  have hl := lv_entry ([.ref h0, .ref tx]) (n := 3) (Nat.le_of_ble_eq_true rfl)
  rw [lg_entry_eq]
  generalize (lg_sl ([.ref h0, .ref tx]) ++ List.replicate (3 - (lg_sl ([.ref h0, .ref tx])).length) Slot.unset).toArray = ls at hl ⊢
  have hl : lv_has ls 3 [(0, .ref h0), (1, .ref tx)] := hl
  have k0 : (0 : Int32).toInt = 0 := by decide
  refine w_gen (A := A) hP (fun H locs hP hS => ?_)
  have k1 : (1 : Int32).toInt = 1 := by decide
  have k2 : (2 : Int32).toInt = 2 := by decide
  have k5 : (5 : Int32).toInt = 5 := by decide
  have hnd := vq_nd hD
  refine lv_aload_n hx hb d_MD_is_0 rfl (lv_at hl 0 rfl) ?_
  refine va_get (D := (dC, dI)) (ci := 11) (v := .int h0_kind) (C := R_MD) (T := F_MD) (N := 65) hx hb hts i_MD hown hK hP 0 rfl rfl 4 (by decide) (hts _ kF_MD_33) (fun _ h9 => h9) rfl d_MD_is_1 ?_
  refine lv_iconst (v := 2) hx hb d_MD_is_4 (by decide) ?_
  refine lv_icmp_ne (tgt := 17) hx hb d_MD_is_5 (by decide) (fun c5 => ?_) (fun c5 => ?_)
  · have q5 := neI c5
    refine lv_aload_n hx hb d_MD_is_17 rfl (lv_at hl 0 rfl) ?_
    refine va_get (D := (dC, dI)) (ci := 11) (v := .int h0_kind) (C := R_MD) (T := F_MD) (N := 65) hx hb hts i_MD hown hK hP 0 rfl rfl 4 (by decide) (hts _ kF_MD_33) (fun _ h9 => h9) rfl d_MD_is_18 ?_
    refine lv_iconst (v := 5) hx hb d_MD_is_21 (by decide) ?_
    refine lv_icmp_ne (tgt := 41) hx hb d_MD_is_22 (by decide) (fun c22 => ?_) (fun c22 => ?_)
    · have q22 := neI c22
      refine lv_iconst (v := 0) hx hb d_MD_is_41 (by decide) ?_
      have hP9 := hP.part (cx := (wz_307 h0 rf tap h0_taped h0_length h0_kind h0_from h0_to h0_word h0_numeral h0_globalNames_r h0_globalPlaces_r h0_globalTypes_r h0_globalValues_r h0_globalCount h0_funs_r h0_funCount h0_open h0_signs h0_levels_r h0_now h0_known_r h0_knownCount h0_loops mad h0_madeLength mag h0_smalls_r h0_greats_r h0_module_r h0_spare_r h0_m h0_cursor h0_limit blk stk h0_top hgt lab ous kis los h0_depth h0_function mem h0_pages glo val h0_valueTop ffu fre fba fla h0_frames lat lhe h0_labelTop h0_steps h0_there rsl h0_resultLength h0_reason h0_place arg h0_argumentCount h0_code tap ctap gtap)) [0, 1] rfl
      have hD9 := hD.part (cx := (wz_307 h0 rf tap h0_taped h0_length h0_kind h0_from h0_to h0_word h0_numeral h0_globalNames_r h0_globalPlaces_r h0_globalTypes_r h0_globalValues_r h0_globalCount h0_funs_r h0_funCount h0_open h0_signs h0_levels_r h0_now h0_known_r h0_knownCount h0_loops mad h0_madeLength mag h0_smalls_r h0_greats_r h0_module_r h0_spare_r h0_m h0_cursor h0_limit blk stk h0_top hgt lab ous kis los h0_depth h0_function mem h0_pages glo val h0_valueTop ffu fre fba fla h0_frames lat lhe h0_labelTop h0_steps h0_there rsl h0_resultLength h0_reason h0_place arg h0_argumentCount h0_code tap ctap gtap)) [0, 1] (by decide) rfl
      exact W.zret (v := 0) hx hb hr (zn01 (Or.inl rfl)) (fun t ht hW => ⟨⟨0, (), rfl, ⟨Or.inl rfl, (Or.inr (by decide))⟩, va_P.he ht.symm hP9, va_K.moved hW.alike hK, hD9⟩, hS.F ht⟩) hS.2.2 d_MD_is_42
    · have q22 := eqI c22
      refine lv_aload_n hx hb d_MD_is_25 rfl (lv_at hl 0 rfl) ?_
      refine va_get (D := (dC, dI)) (ci := 11) (v := .int h0_to) (C := R_MD) (T := F_MD) (N := 65) hx hb hts i_MD hown hK hP 0 rfl rfl 6 (by decide) (hts _ kF_MD_23) (fun _ h9 => h9) rfl d_MD_is_26 ?_
      refine lv_aload_n hx hb d_MD_is_29 rfl (lv_at hl 0 rfl) ?_
      refine va_get (D := (dC, dI)) (ci := 11) (v := .int h0_from) (C := R_MD) (T := F_MD) (N := 65) hx hb hts i_MD hown hK hP 0 rfl rfl 5 (by decide) (hts _ kF_MD_30) (fun _ h9 => h9) rfl d_MD_is_30 ?_
      refine lv_isub hx hb d_MD_is_33 ?_
      refine lv_topi (fun x1 ex1 => ?_)
      have tx1 : x1.toInt = h0_to.toInt - h0_from.toInt := by have z := i32_sub ex1 (by (first | (apply Int.le_antisymm <;> omega) | omega)) (by (first | (apply Int.le_antisymm <;> omega) | omega)); first | exact z | (first | (apply Int.le_antisymm <;> omega) | omega)
      refine lv_aload_n hx hb d_MD_is_34 rfl (lv_at hl 1 rfl) ?_
      have hPc := @vp_nil
      have hDc := hD.part0
      have hKc := (k2_of hK).sb (tyq := []) [] rfl
      have hFc := va_free (wc := []) hD hS hA [] rfl
      refine va_calli (va_runV (As := []) (rest := [.int x1]) ⟨hx, hb, hml, hown, hts⟩ (c_JS_length l dC dI H.size sa tx tv b (by (first | (apply Int.le_antisymm <;> omega) | omega))) (cwV 0 hts (gV kM_MD_72 kV_JS_length kS_JS_length kI_JS kC_JS_length) rfl rfl rfl (by decide +kernel) ⟨Nat.le_of_ble_eq_true rfl, Nat.le_of_ble_eq_true rfl⟩) ⟨fun a U g mk z => by obtain ⟨z0, z1, zP, zK, zD, zS, zR0⟩ := z; exact ⟨z0, z1, zP, va_K.moved (u := U) (U := U.calling g mk a) (Vm.Alike.refl U.vm) zK, zD, sw.same (u := U) (U := U.calling g mk a) rfl zS, zR0.moved (u := U) (U := U.calling g mk a) (Vm.Alike.refl U.vm)⟩, so_recv (hR0.1) hS, fun U hU hW => ⟨rfl, by rw [hU], va_P.he hU.symm hPc, va_K.moved hW.alike hKc, hDc.weaken (fun _ _ _ _ => trivial), hSW.1.call hS hFc hW hU, (hR0).call hS hFc hW hU⟩⟩ rfl rfl hl.1 rfl (lv_room (Nat.le_of_ble_eq_true rfl)) d_MD_is_35 ⟨(Nat.zero_le _), (Nat.zero_le _)⟩) hS (fun q _ h => hFc q h) hFc (fun r2 u t H1 locs ht hvm hw hB hz1 hk1 hS => ?_)
      try dsimp only at hw
      have xr2 := hw
      try clear hw
      have tr2 := xr2
      obtain ⟨hP1, hK1, hD1⟩ := hB
      replace hP1 := va_P.he ht hP1
      replace hP1 := @vp_nil (dC, dI) cls2 H1
      obtain ⟨hP, hD⟩ := va_joinQ (wr := (wz_307 h0 rf tap h0_taped h0_length h0_kind h0_from h0_to h0_word h0_numeral h0_globalNames_r h0_globalPlaces_r h0_globalTypes_r h0_globalValues_r h0_globalCount h0_funs_r h0_funCount h0_open h0_signs h0_levels_r h0_now h0_known_r h0_knownCount h0_loops mad h0_madeLength mag h0_smalls_r h0_greats_r h0_module_r h0_spare_r h0_m h0_cursor h0_limit blk stk h0_top hgt lab ous kis los h0_depth h0_function mem h0_pages glo val h0_valueTop ffu fre fba fla h0_frames lat lhe h0_labelTop h0_steps h0_there rsl h0_resultLength h0_reason h0_place arg h0_argumentCount h0_code tap ctap gtap)) (w1 := []) hP hD [] [0, 1] rfl rfl (by decide) (by decide) hk1 hFc hP1 hD1
      clear hPc hDc hKc hFc hz1 hk1 hP1 hK1 hD1
      rename Heap => H
      have hP : va_P (dC, dI) cls2 (((wz_307 h0 rf tap h0_taped h0_length h0_kind h0_from h0_to h0_word h0_numeral h0_globalNames_r h0_globalPlaces_r h0_globalTypes_r h0_globalValues_r h0_globalCount h0_funs_r h0_funCount h0_open h0_signs h0_levels_r h0_now h0_known_r h0_knownCount h0_loops mad h0_madeLength mag h0_smalls_r h0_greats_r h0_module_r h0_spare_r h0_m h0_cursor h0_limit blk stk h0_top hgt lab ous kis los h0_depth h0_function mem h0_pages glo val h0_valueTop ffu fre fba fla h0_frames lat lhe h0_labelTop h0_steps h0_there rsl h0_resultLength h0_reason h0_place arg h0_argumentCount h0_code tap ctap gtap) : va_W) ++ va_pl LP fP) H := hP
      have hD : va_D A (((wz_307 h0 rf tap h0_taped h0_length h0_kind h0_from h0_to h0_word h0_numeral h0_globalNames_r h0_globalPlaces_r h0_globalTypes_r h0_globalValues_r h0_globalCount h0_funs_r h0_funCount h0_open h0_signs h0_levels_r h0_now h0_known_r h0_knownCount h0_loops mad h0_madeLength mag h0_smalls_r h0_greats_r h0_module_r h0_spare_r h0_m h0_cursor h0_limit blk stk h0_top hgt lab ous kis los h0_depth h0_function mem h0_pages glo val h0_valueTop ffu fre fba fla h0_frames lat lhe h0_labelTop h0_steps h0_there rsl h0_resultLength h0_reason h0_place arg h0_argumentCount h0_code tap ctap gtap) : va_W) ++ va_pl LP fP) := hD
      refine lv_icmp_eq (tgt := 43) hx hb d_MD_is_38 (by decide) (fun c38 => ?_) (fun c38 => ?_)
      · have q38 := eqI c38
        refine lv_iconst (v := 0) hx hb d_MD_is_43 (by decide) ?_
        refine lv_istore_n (lv' := [(2, .int 0), (0, .ref h0), (1, .ref tx)]) hx hb d_MD_is_44 rfl hl (by decide) rfl (fun ls hl => ?_)
        refine w_loop (σ := Int32) (fun u H locs ls => match u with | j45_l2 => (0 ≤ j45_l2.toInt ∧ j45_l2.toInt ≤ 4000) ∧ (j45_l2.toInt ≤ (b.length : Int)) ∧ (bx (∀ j : Nat, (j : Int) < j45_l2.toInt → bn (gtap (h0_from.toNatClampNeg + j)) = bn (b.getD j 0))) ∧ va_P (dC, dI) cls2 (((wz_307 h0 rf tap h0_taped h0_length h0_kind h0_from h0_to h0_word h0_numeral h0_globalNames_r h0_globalPlaces_r h0_globalTypes_r h0_globalValues_r h0_globalCount h0_funs_r h0_funCount h0_open h0_signs h0_levels_r h0_now h0_known_r h0_knownCount h0_loops mad h0_madeLength mag h0_smalls_r h0_greats_r h0_module_r h0_spare_r h0_m h0_cursor h0_limit blk stk h0_top hgt lab ous kis los h0_depth h0_function mem h0_pages glo val h0_valueTop ffu fre fba fla h0_frames lat lhe h0_labelTop h0_steps h0_there rsl h0_resultLength h0_reason h0_place arg h0_argumentCount h0_code tap ctap gtap) : va_W) ++ va_pl LP fP) H ∧ va_D A (((wz_307 h0 rf tap h0_taped h0_length h0_kind h0_from h0_to h0_word h0_numeral h0_globalNames_r h0_globalPlaces_r h0_globalTypes_r h0_globalValues_r h0_globalCount h0_funs_r h0_funCount h0_open h0_signs h0_levels_r h0_now h0_known_r h0_knownCount h0_loops mad h0_madeLength mag h0_smalls_r h0_greats_r h0_module_r h0_spare_r h0_m h0_cursor h0_limit blk stk h0_top hgt lab ous kis los h0_depth h0_function mem h0_pages glo val h0_valueTop ffu fre fba fla h0_frames lat lhe h0_labelTop h0_steps h0_there rsl h0_resultLength h0_reason h0_place arg h0_argumentCount h0_code tap ctap gtap) : va_W) ++ va_pl LP fP) ∧ va_S A s.heap H locs ∧ lv_has ls 3 [(0, .ref h0), (1, .ref tx), (2, .int j45_l2)]) (fun u => match u with | j45_l2 => ((b.length : Int) - j45_l2.toInt).toNat) ?_ 0 ⟨by (try dsimp only) <;> (first | (apply Int.le_antisymm <;> omega) | omega), by (try dsimp only) <;> (first | (apply Int.le_antisymm <;> omega) | omega), (fun j hj => absurd hj (by rw [k0]; (first | (apply Int.le_antisymm <;> omega) | omega))), hP, hD, hS, lv_sub hl [1, 2, 0] rfl⟩
        intro N45 ih45 u H locs ls hN45 hI
        obtain ⟨j45_l2, rfl⟩ : ∃ z, z = u := ⟨_, rfl⟩
        obtain ⟨b_j45_l2, u1, u2, hP, hD, hS, hl⟩ := hI
        have hN45 : ((b.length : Int) - j45_l2.toInt).toNat < N45 + 1 := hN45
        refine lv_iload_n hx hb d_MD_is_45 rfl (lv_at hl 2 rfl) ?_
        refine lv_aload_n hx hb d_MD_is_46 rfl (lv_at hl 1 rfl) ?_
        have hPc := @vp_nil
        have hDc := hD.part0
        have hKc := (k2_of hK).sb (tyq := []) [] rfl
        have hFc := va_free (wc := []) hD hS hA [] rfl
        refine va_calli (va_runV (As := []) (rest := [.int j45_l2]) ⟨hx, hb, hml, hown, hts⟩ (c_JS_length l dC dI H.size sa tx tv b (by (first | (apply Int.le_antisymm <;> omega) | omega))) (cwV 0 hts (gV kM_MD_72 kV_JS_length kS_JS_length kI_JS kC_JS_length) rfl rfl rfl (by decide +kernel) ⟨Nat.le_of_ble_eq_true rfl, Nat.le_of_ble_eq_true rfl⟩) ⟨fun a U g mk z => by obtain ⟨z0, z1, zP, zK, zD, zS, zR0⟩ := z; exact ⟨z0, z1, zP, va_K.moved (u := U) (U := U.calling g mk a) (Vm.Alike.refl U.vm) zK, zD, sw.same (u := U) (U := U.calling g mk a) rfl zS, zR0.moved (u := U) (U := U.calling g mk a) (Vm.Alike.refl U.vm)⟩, so_recv (hR0.1) hS, fun U hU hW => ⟨rfl, by rw [hU], va_P.he hU.symm hPc, va_K.moved hW.alike hKc, hDc.weaken (fun _ _ _ _ => trivial), hSW.1.call hS hFc hW hU, (hR0).call hS hFc hW hU⟩⟩ rfl rfl hl.1 rfl (lv_room (Nat.le_of_ble_eq_true rfl)) d_MD_is_47 ⟨(Nat.zero_le _), (Nat.zero_le _)⟩) hS (fun q _ h => hFc q h) hFc (fun r3 u t H1 locs ht hvm hw hB hz1 hk1 hS => ?_)
        try dsimp only at hw
        have xr3 := hw
        try clear hw
        have tr3 := xr3
        obtain ⟨hP1, hK1, hD1⟩ := hB
        replace hP1 := va_P.he ht hP1
        replace hP1 := @vp_nil (dC, dI) cls2 H1
        obtain ⟨hP, hD⟩ := va_joinQ (wr := (wz_307 h0 rf tap h0_taped h0_length h0_kind h0_from h0_to h0_word h0_numeral h0_globalNames_r h0_globalPlaces_r h0_globalTypes_r h0_globalValues_r h0_globalCount h0_funs_r h0_funCount h0_open h0_signs h0_levels_r h0_now h0_known_r h0_knownCount h0_loops mad h0_madeLength mag h0_smalls_r h0_greats_r h0_module_r h0_spare_r h0_m h0_cursor h0_limit blk stk h0_top hgt lab ous kis los h0_depth h0_function mem h0_pages glo val h0_valueTop ffu fre fba fla h0_frames lat lhe h0_labelTop h0_steps h0_there rsl h0_resultLength h0_reason h0_place arg h0_argumentCount h0_code tap ctap gtap)) (w1 := []) hP hD [] [0, 1] rfl rfl (by decide) (by decide) hk1 hFc hP1 hD1
        clear hPc hDc hKc hFc hz1 hk1 hP1 hK1 hD1
        rename Heap => H
        have hP : va_P (dC, dI) cls2 (((wz_307 h0 rf tap h0_taped h0_length h0_kind h0_from h0_to h0_word h0_numeral h0_globalNames_r h0_globalPlaces_r h0_globalTypes_r h0_globalValues_r h0_globalCount h0_funs_r h0_funCount h0_open h0_signs h0_levels_r h0_now h0_known_r h0_knownCount h0_loops mad h0_madeLength mag h0_smalls_r h0_greats_r h0_module_r h0_spare_r h0_m h0_cursor h0_limit blk stk h0_top hgt lab ous kis los h0_depth h0_function mem h0_pages glo val h0_valueTop ffu fre fba fla h0_frames lat lhe h0_labelTop h0_steps h0_there rsl h0_resultLength h0_reason h0_place arg h0_argumentCount h0_code tap ctap gtap) : va_W) ++ va_pl LP fP) H := hP
        have hD : va_D A (((wz_307 h0 rf tap h0_taped h0_length h0_kind h0_from h0_to h0_word h0_numeral h0_globalNames_r h0_globalPlaces_r h0_globalTypes_r h0_globalValues_r h0_globalCount h0_funs_r h0_funCount h0_open h0_signs h0_levels_r h0_now h0_known_r h0_knownCount h0_loops mad h0_madeLength mag h0_smalls_r h0_greats_r h0_module_r h0_spare_r h0_m h0_cursor h0_limit blk stk h0_top hgt lab ous kis los h0_depth h0_function mem h0_pages glo val h0_valueTop ffu fre fba fla h0_frames lat lhe h0_labelTop h0_steps h0_there rsl h0_resultLength h0_reason h0_place arg h0_argumentCount h0_code tap ctap gtap) : va_W) ++ va_pl LP fP) := hD
        refine lv_icmp_ge (tgt := 79) hx hb d_MD_is_50 (by decide) (fun c50 => ?_) (fun c50 => ?_)
        · have q50 := leI c50
          refine lv_iconst (v := 1) hx hb d_MD_is_79 (by decide) ?_
          have hP9 := hP.part (cx := (wz_307 h0 rf tap h0_taped h0_length h0_kind h0_from h0_to h0_word h0_numeral h0_globalNames_r h0_globalPlaces_r h0_globalTypes_r h0_globalValues_r h0_globalCount h0_funs_r h0_funCount h0_open h0_signs h0_levels_r h0_now h0_known_r h0_knownCount h0_loops mad h0_madeLength mag h0_smalls_r h0_greats_r h0_module_r h0_spare_r h0_m h0_cursor h0_limit blk stk h0_top hgt lab ous kis los h0_depth h0_function mem h0_pages glo val h0_valueTop ffu fre fba fla h0_frames lat lhe h0_labelTop h0_steps h0_there rsl h0_resultLength h0_reason h0_place arg h0_argumentCount h0_code tap ctap gtap)) [0, 1] rfl
          have hD9 := hD.part (cx := (wz_307 h0 rf tap h0_taped h0_length h0_kind h0_from h0_to h0_word h0_numeral h0_globalNames_r h0_globalPlaces_r h0_globalTypes_r h0_globalValues_r h0_globalCount h0_funs_r h0_funCount h0_open h0_signs h0_levels_r h0_now h0_known_r h0_knownCount h0_loops mad h0_madeLength mag h0_smalls_r h0_greats_r h0_module_r h0_spare_r h0_m h0_cursor h0_limit blk stk h0_top hgt lab ous kis los h0_depth h0_function mem h0_pages glo val h0_valueTop ffu fre fba fla h0_frames lat lhe h0_labelTop h0_steps h0_there rsl h0_resultLength h0_reason h0_place arg h0_argumentCount h0_code tap ctap gtap)) [0, 1] (by decide) rfl
          exact W.zret (v := 1) hx hb hr (zn01 (Or.inr rfl)) (fun t ht hW => ⟨⟨1, (), rfl, ⟨Or.inr rfl, (Or.inl ⟨by decide, Or.inr ⟨by (first | (apply Int.le_antisymm <;> omega) | omega), by (first | (apply Int.le_antisymm <;> omega) | omega), fun j hj => u2.out j (by (first | (apply Int.le_antisymm <;> omega) | omega))⟩⟩)⟩, va_P.he ht.symm hP9, va_K.moved hW.alike hK, hD9⟩, hS.F ht⟩) hS.2.2 d_MD_is_80
        · have q50 := nleI c50
          refine lv_aload_n hx hb d_MD_is_53 rfl (lv_at hl 0 rfl) ?_
          refine lv_aload_n hx hb d_MD_is_54 rfl (lv_at hl 0 rfl) ?_
          refine va_get (D := (dC, dI)) (ci := 11) (v := .int h0_from) (C := R_MD) (T := F_MD) (N := 65) hx hb hts i_MD hown hK hP 0 rfl rfl 5 (by decide) (hts _ kF_MD_30) (fun _ h9 => h9) rfl d_MD_is_55 ?_
          refine lv_iload_n hx hb d_MD_is_58 rfl (lv_at hl 2 rfl) ?_
          refine lv_iadd hx hb d_MD_is_59 ?_
          refine lv_topi (fun x4 ex4 => ?_)
          have tx4 : x4.toInt = h0_from.toInt + j45_l2.toInt := by have z := i32_add ex4 (by (first | (apply Int.le_antisymm <;> omega) | omega)) (by (first | (apply Int.le_antisymm <;> omega) | omega)); first | exact z | (first | (apply Int.le_antisymm <;> omega) | omega)
          have hPc := hP.sb (wq := (wz_307 h0 rf tap h0_taped h0_length h0_kind h0_from h0_to h0_word h0_numeral h0_globalNames_r h0_globalPlaces_r h0_globalTypes_r h0_globalValues_r h0_globalCount h0_funs_r h0_funCount h0_open h0_signs h0_levels_r h0_now h0_known_r h0_knownCount h0_loops mad h0_madeLength mag h0_smalls_r h0_greats_r h0_module_r h0_spare_r h0_m h0_cursor h0_limit blk stk h0_top hgt lab ous kis los h0_depth h0_function mem h0_pages glo val h0_valueTop ffu fre fba fla h0_frames lat lhe h0_labelTop h0_steps h0_there rsl h0_resultLength h0_reason h0_place arg h0_argumentCount h0_code tap ctap gtap)) [0, 1] rfl
          have hDc := hD.sb (wq := (wz_307 h0 rf tap h0_taped h0_length h0_kind h0_from h0_to h0_word h0_numeral h0_globalNames_r h0_globalPlaces_r h0_globalTypes_r h0_globalValues_r h0_globalCount h0_funs_r h0_funCount h0_open h0_signs h0_levels_r h0_now h0_known_r h0_knownCount h0_loops mad h0_madeLength mag h0_smalls_r h0_greats_r h0_module_r h0_spare_r h0_m h0_cursor h0_limit blk stk h0_top hgt lab ous kis los h0_depth h0_function mem h0_pages glo val h0_valueTop ffu fre fba fla h0_frames lat lhe h0_labelTop h0_steps h0_there rsl h0_resultLength h0_reason h0_place arg h0_argumentCount h0_code tap ctap gtap)) [0, 1] (by decide) rfl
          have hKc := hK.sb (tyq := [(ctap, .byte)]) [0] rfl
          have hFc := va_free (wc := (wz_307 h0 rf tap h0_taped h0_length h0_kind h0_from h0_to h0_word h0_numeral h0_globalNames_r h0_globalPlaces_r h0_globalTypes_r h0_globalValues_r h0_globalCount h0_funs_r h0_funCount h0_open h0_signs h0_levels_r h0_now h0_known_r h0_knownCount h0_loops mad h0_madeLength mag h0_smalls_r h0_greats_r h0_module_r h0_spare_r h0_m h0_cursor h0_limit blk stk h0_top hgt lab ous kis los h0_depth h0_function mem h0_pages glo val h0_valueTop ffu fre fba fla h0_frames lat lhe h0_labelTop h0_steps h0_there rsl h0_resultLength h0_reason h0_place arg h0_argumentCount h0_code tap ctap gtap)) hD hS hA [0, 1] rfl
          refine va_calli (va_runV (As := [.int x4]) (rest := []) ⟨hx, hb, hml, hown, hts⟩ (c_MD_at l dC dI H.size h0 rf tap h0_globalNames_r h0_globalPlaces_r h0_globalTypes_r h0_globalValues_r h0_funs_r h0_levels_r h0_known_r mad mag h0_smalls_r h0_greats_r h0_module_r h0_spare_r blk stk hgt lab ous kis los mem glo val ffu fre fba fla lat lhe rsl arg ctap h0_taped h0_length h0_kind h0_from h0_to h0_word h0_numeral h0_globalCount h0_funCount h0_open h0_signs h0_now h0_knownCount h0_loops h0_madeLength h0_m h0_cursor h0_limit h0_top h0_depth h0_function h0_pages h0_valueTop h0_frames h0_labelTop h0_steps h0_there h0_resultLength h0_reason h0_place h0_argumentCount h0_code gtap (b_h0_length) x4 (by (try dsimp only) <;> (first | (apply Int.le_antisymm <;> omega) | omega))) (cwV 1 hts (gV kM_MD_26 kV_MD_at kS_MD_at kI_MD kC_MD_at) rfl rfl rfl (by decide +kernel) ⟨Nat.le_of_ble_eq_true rfl, Nat.le_of_ble_eq_true rfl⟩) ⟨fun a U g mk z => by obtain ⟨z0, z1, zP, zK, zD, zS⟩ := z; exact ⟨z0, z1, zP, va_K.moved (u := U) (U := U.calling g mk a) (Vm.Alike.refl U.vm) zK, zD, sw_nest.same (s := U) (U := U.calling g mk a) rfl zS⟩, va_recv hKc hPc (ci := 11) (q0 := 0) rfl rfl, fun U hU hW => ⟨rfl, by rw [hU], va_P.he hU.symm hPc, va_K.moved hW.alike hKc, hDc.weaken (fun _ _ _ _ => trivial), hSW.nest.warm hW⟩⟩ rfl rfl hl.1 rfl (lv_room (Nat.le_of_ble_eq_true rfl)) d_MD_is_60 ⟨(Nat.zero_le _), (Nat.zero_le _)⟩) hS (fun q _ h => hFc q h) hFc (fun r5 u t H1 locs ht hvm hw hB hz1 hk1 hS => ?_)
          try dsimp only at hw
          have xr5 := hw
          try clear hw
          obtain ⟨a1, a2, a3, a4⟩ := xr5
          obtain ⟨hP1, hK1, hD1⟩ := hB
          replace hP1 := va_P.he ht hP1
          obtain ⟨hP, hD⟩ := va_joinQ (wr := []) (w1 := (wz_307 h0 rf tap h0_taped h0_length h0_kind h0_from h0_to h0_word h0_numeral h0_globalNames_r h0_globalPlaces_r h0_globalTypes_r h0_globalValues_r h0_globalCount h0_funs_r h0_funCount h0_open h0_signs h0_levels_r h0_now h0_known_r h0_knownCount h0_loops mad h0_madeLength mag h0_smalls_r h0_greats_r h0_module_r h0_spare_r h0_m h0_cursor h0_limit blk stk h0_top hgt lab ous kis los h0_depth h0_function mem h0_pages glo val h0_valueTop ffu fre fba fla h0_frames lat lhe h0_labelTop h0_steps h0_there rsl h0_resultLength h0_reason h0_place arg h0_argumentCount h0_code tap ctap gtap)) hP hD [0, 1] [] rfl rfl (by decide) (by decide) hk1 hFc hP1 hD1
          clear hPc hDc hKc hFc hz1 hk1 hP1 hK1 hD1
          rename Heap => H
          have hP : va_P (dC, dI) cls2 (((wz_307 h0 rf tap h0_taped h0_length h0_kind h0_from h0_to h0_word h0_numeral h0_globalNames_r h0_globalPlaces_r h0_globalTypes_r h0_globalValues_r h0_globalCount h0_funs_r h0_funCount h0_open h0_signs h0_levels_r h0_now h0_known_r h0_knownCount h0_loops mad h0_madeLength mag h0_smalls_r h0_greats_r h0_module_r h0_spare_r h0_m h0_cursor h0_limit blk stk h0_top hgt lab ous kis los h0_depth h0_function mem h0_pages glo val h0_valueTop ffu fre fba fla h0_frames lat lhe h0_labelTop h0_steps h0_there rsl h0_resultLength h0_reason h0_place arg h0_argumentCount h0_code tap ctap gtap) : va_W) ++ va_pl LP fP) H := hP
          have hD : va_D A (((wz_307 h0 rf tap h0_taped h0_length h0_kind h0_from h0_to h0_word h0_numeral h0_globalNames_r h0_globalPlaces_r h0_globalTypes_r h0_globalValues_r h0_globalCount h0_funs_r h0_funCount h0_open h0_signs h0_levels_r h0_now h0_known_r h0_knownCount h0_loops mad h0_madeLength mag h0_smalls_r h0_greats_r h0_module_r h0_spare_r h0_m h0_cursor h0_limit blk stk h0_top hgt lab ous kis los h0_depth h0_function mem h0_pages glo val h0_valueTop ffu fre fba fla h0_frames lat lhe h0_labelTop h0_steps h0_there rsl h0_resultLength h0_reason h0_place arg h0_argumentCount h0_code tap ctap gtap) : va_W) ++ va_pl LP fP) := hD
          refine lv_aload_n hx hb d_MD_is_63 rfl (lv_at hl 1 rfl) ?_
          refine lv_iload_n hx hb d_MD_is_64 rfl (lv_at hl 2 rfl) ?_
          have hPc := @vp_nil
          have hDc := hD.part0
          have hKc := (k2_of hK).sb (tyq := []) [] rfl
          have hFc := va_free (wc := []) hD hS hA [] rfl
          refine va_calli (va_runV (As := [.int j45_l2]) (rest := [.int r5]) ⟨hx, hb, hml, hown, hts⟩ (c_JS_charAt l dC dI H.size sa tx tv b j45_l2 (by (first | (apply Int.le_antisymm <;> omega) | omega)) (by (first | (apply Int.le_antisymm <;> omega) | omega))) (cwV 1 hts (gV kM_MD_104 kV_JS_charAt kS_JS_charAt kI_JS kC_JS_charAt) rfl rfl rfl (by decide +kernel) ⟨Nat.le_of_ble_eq_true rfl, Nat.le_of_ble_eq_true rfl⟩) ⟨fun a U g mk z => by obtain ⟨z0, z1, zP, zK, zD, zS, zR0⟩ := z; exact ⟨z0, z1, zP, va_K.moved (u := U) (U := U.calling g mk a) (Vm.Alike.refl U.vm) zK, zD, sw.same (u := U) (U := U.calling g mk a) rfl zS, zR0.moved (u := U) (U := U.calling g mk a) (Vm.Alike.refl U.vm)⟩, so_recv (hR0.1) hS, fun U hU hW => ⟨rfl, by rw [hU], va_P.he hU.symm hPc, va_K.moved hW.alike hKc, hDc.weaken (fun _ _ _ _ => trivial), hSW.1.call hS hFc hW hU, (hR0).call hS hFc hW hU⟩⟩ rfl rfl hl.1 rfl (lv_room (Nat.le_of_ble_eq_true rfl)) d_MD_is_65 ⟨(Nat.zero_le _), (Nat.zero_le _)⟩) hS (fun q _ h => hFc q h) hFc (fun r6 u t H1 locs ht hvm hw hB hz1 hk1 hS => ?_)
          try dsimp only at hw
          have xr6 := hw
          try clear hw
          have z65 := and255 (b.getD j45_l2.toNatClampNeg 0)
          rw [← xr6] at z65
          obtain ⟨hP1, hK1, hD1⟩ := hB
          replace hP1 := va_P.he ht hP1
          replace hP1 := @vp_nil (dC, dI) cls2 H1
          obtain ⟨hP, hD⟩ := va_joinQ (wr := (wz_307 h0 rf tap h0_taped h0_length h0_kind h0_from h0_to h0_word h0_numeral h0_globalNames_r h0_globalPlaces_r h0_globalTypes_r h0_globalValues_r h0_globalCount h0_funs_r h0_funCount h0_open h0_signs h0_levels_r h0_now h0_known_r h0_knownCount h0_loops mad h0_madeLength mag h0_smalls_r h0_greats_r h0_module_r h0_spare_r h0_m h0_cursor h0_limit blk stk h0_top hgt lab ous kis los h0_depth h0_function mem h0_pages glo val h0_valueTop ffu fre fba fla h0_frames lat lhe h0_labelTop h0_steps h0_there rsl h0_resultLength h0_reason h0_place arg h0_argumentCount h0_code tap ctap gtap)) (w1 := []) hP hD [] [0, 1] rfl rfl (by decide) (by decide) hk1 hFc hP1 hD1
          clear hPc hDc hKc hFc hz1 hk1 hP1 hK1 hD1
          rename Heap => H
          have hP : va_P (dC, dI) cls2 (((wz_307 h0 rf tap h0_taped h0_length h0_kind h0_from h0_to h0_word h0_numeral h0_globalNames_r h0_globalPlaces_r h0_globalTypes_r h0_globalValues_r h0_globalCount h0_funs_r h0_funCount h0_open h0_signs h0_levels_r h0_now h0_known_r h0_knownCount h0_loops mad h0_madeLength mag h0_smalls_r h0_greats_r h0_module_r h0_spare_r h0_m h0_cursor h0_limit blk stk h0_top hgt lab ous kis los h0_depth h0_function mem h0_pages glo val h0_valueTop ffu fre fba fla h0_frames lat lhe h0_labelTop h0_steps h0_there rsl h0_resultLength h0_reason h0_place arg h0_argumentCount h0_code tap ctap gtap) : va_W) ++ va_pl LP fP) H := hP
          have hD : va_D A (((wz_307 h0 rf tap h0_taped h0_length h0_kind h0_from h0_to h0_word h0_numeral h0_globalNames_r h0_globalPlaces_r h0_globalTypes_r h0_globalValues_r h0_globalCount h0_funs_r h0_funCount h0_open h0_signs h0_levels_r h0_now h0_known_r h0_knownCount h0_loops mad h0_madeLength mag h0_smalls_r h0_greats_r h0_module_r h0_spare_r h0_m h0_cursor h0_limit blk stk h0_top hgt lab ous kis los h0_depth h0_function mem h0_pages glo val h0_valueTop ffu fre fba fla h0_frames lat lhe h0_labelTop h0_steps h0_there rsl h0_resultLength h0_reason h0_place arg h0_argumentCount h0_code tap ctap gtap) : va_W) ++ va_pl LP fP) := hD
          refine lv_icmp_eq (tgt := 73) hx hb d_MD_is_68 (by decide) (fun c68 => ?_) (fun c68 => ?_)
          · have q68 := eqI c68
            obtain ⟨x7, ex7⟩ : ∃ z : Int32, z = j45_l2 + 1 := ⟨_, rfl⟩
            have tx7 : x7.toInt = j45_l2.toInt + 1 := by have z := i32_add ex7 (by (first | (apply Int.le_antisymm <;> omega) | omega)) (by (first | (apply Int.le_antisymm <;> omega) | omega)); first | exact z | (first | (apply Int.le_antisymm <;> omega) | omega)
            refine lv_iinc (v := x7) (lv' := [(2, .int x7), (0, .ref h0), (1, .ref tx)]) hx hb d_MD_is_73 hl (k := 2) rfl (by rw [ex7]; rfl) (by decide) rfl (fun ls hl => ?_)
            refine lv_goto (tgt := 45) hx hb d_MD_is_76 (by decide) ?_
            exact ih45 x7 _ _ _ (by show ((b.length : Int) - x7.toInt).toNat < N45; (first | (apply Int.le_antisymm <;> omega) | omega)) ⟨by (try dsimp only) <;> (first | (apply Int.le_antisymm <;> omega) | omega), by (try dsimp only) <;> (first | (apply Int.le_antisymm <;> omega) | omega), (fun j hj => by by_cases q : (j : Int) < j45_l2.toInt; (exact u2.out j q); (have z7 := i32_clamp (x := j45_l2) (by (first | (apply Int.le_antisymm <;> omega) | omega)); have z8 := i32_clamp (x := h0_from) (by (first | (apply Int.le_antisymm <;> omega) | omega)); have z9 := i32_clamp (x := x4) (by (first | (apply Int.le_antisymm <;> omega) | omega)); have e9 := a1 (by (first | (apply Int.le_antisymm <;> omega) | omega)); rw [show h0_from.toNatClampNeg + j = x4.toNatClampNeg from by (first | (apply Int.le_antisymm <;> omega) | omega), show j = j45_l2.toNatClampNeg from by (first | (apply Int.le_antisymm <;> omega) | omega)]; (first | (apply Int.le_antisymm <;> omega) | omega))), hP, hD, hS, lv_sub hl [1, 2, 0] rfl⟩
          · have q68 := neI c68
            refine lv_iconst (v := 0) hx hb d_MD_is_71 (by decide) ?_
            have hP9 := hP.part (cx := (wz_307 h0 rf tap h0_taped h0_length h0_kind h0_from h0_to h0_word h0_numeral h0_globalNames_r h0_globalPlaces_r h0_globalTypes_r h0_globalValues_r h0_globalCount h0_funs_r h0_funCount h0_open h0_signs h0_levels_r h0_now h0_known_r h0_knownCount h0_loops mad h0_madeLength mag h0_smalls_r h0_greats_r h0_module_r h0_spare_r h0_m h0_cursor h0_limit blk stk h0_top hgt lab ous kis los h0_depth h0_function mem h0_pages glo val h0_valueTop ffu fre fba fla h0_frames lat lhe h0_labelTop h0_steps h0_there rsl h0_resultLength h0_reason h0_place arg h0_argumentCount h0_code tap ctap gtap)) [0, 1] rfl
            have hD9 := hD.part (cx := (wz_307 h0 rf tap h0_taped h0_length h0_kind h0_from h0_to h0_word h0_numeral h0_globalNames_r h0_globalPlaces_r h0_globalTypes_r h0_globalValues_r h0_globalCount h0_funs_r h0_funCount h0_open h0_signs h0_levels_r h0_now h0_known_r h0_knownCount h0_loops mad h0_madeLength mag h0_smalls_r h0_greats_r h0_module_r h0_spare_r h0_m h0_cursor h0_limit blk stk h0_top hgt lab ous kis los h0_depth h0_function mem h0_pages glo val h0_valueTop ffu fre fba fla h0_frames lat lhe h0_labelTop h0_steps h0_there rsl h0_resultLength h0_reason h0_place arg h0_argumentCount h0_code tap ctap gtap)) [0, 1] (by decide) rfl
            exact W.zret (v := 0) hx hb hr (zn01 (Or.inl rfl)) (fun t ht hW => ⟨⟨0, (), rfl, ⟨Or.inl rfl, (Or.inr (by decide))⟩, va_P.he ht.symm hP9, va_K.moved hW.alike hK, hD9⟩, hS.F ht⟩) hS.2.2 d_MD_is_72
      · have q38 := neI c38
        refine lv_iconst (v := 0) hx hb d_MD_is_41 (by decide) ?_
        have hP9 := hP.part (cx := (wz_307 h0 rf tap h0_taped h0_length h0_kind h0_from h0_to h0_word h0_numeral h0_globalNames_r h0_globalPlaces_r h0_globalTypes_r h0_globalValues_r h0_globalCount h0_funs_r h0_funCount h0_open h0_signs h0_levels_r h0_now h0_known_r h0_knownCount h0_loops mad h0_madeLength mag h0_smalls_r h0_greats_r h0_module_r h0_spare_r h0_m h0_cursor h0_limit blk stk h0_top hgt lab ous kis los h0_depth h0_function mem h0_pages glo val h0_valueTop ffu fre fba fla h0_frames lat lhe h0_labelTop h0_steps h0_there rsl h0_resultLength h0_reason h0_place arg h0_argumentCount h0_code tap ctap gtap)) [0, 1] rfl
        have hD9 := hD.part (cx := (wz_307 h0 rf tap h0_taped h0_length h0_kind h0_from h0_to h0_word h0_numeral h0_globalNames_r h0_globalPlaces_r h0_globalTypes_r h0_globalValues_r h0_globalCount h0_funs_r h0_funCount h0_open h0_signs h0_levels_r h0_now h0_known_r h0_knownCount h0_loops mad h0_madeLength mag h0_smalls_r h0_greats_r h0_module_r h0_spare_r h0_m h0_cursor h0_limit blk stk h0_top hgt lab ous kis los h0_depth h0_function mem h0_pages glo val h0_valueTop ffu fre fba fla h0_frames lat lhe h0_labelTop h0_steps h0_there rsl h0_resultLength h0_reason h0_place arg h0_argumentCount h0_code tap ctap gtap)) [0, 1] (by decide) rfl
        exact W.zret (v := 0) hx hb hr (zn01 (Or.inl rfl)) (fun t ht hW => ⟨⟨0, (), rfl, ⟨Or.inl rfl, (Or.inr (by decide))⟩, va_P.he ht.symm hP9, va_K.moved hW.alike hK, hD9⟩, hS.F ht⟩) hS.2.2 d_MD_is_42
  · have q5 := eqI c5
    obtain ⟨po_w, ew, hstr⟩ := hwd.out (by (first | (apply Int.le_antisymm <;> omega) | omega))
    subst ew
    obtain ⟨s1, sv, sh, sz9, sg, s2, s3, s4, s5, s6, s7, s8, sel⟩ := hstr
    have hP : va_P (dC, dI) cls2 (((wz_501 h0 rf tap h0_taped h0_length h0_kind h0_from h0_to po_w h0_numeral h0_globalNames_r h0_globalPlaces_r h0_globalTypes_r h0_globalValues_r h0_globalCount h0_funs_r h0_funCount h0_open h0_signs h0_levels_r h0_now h0_known_r h0_knownCount h0_loops mad h0_madeLength mag h0_smalls_r h0_greats_r h0_module_r h0_spare_r h0_m h0_cursor h0_limit blk stk h0_top hgt lab ous kis los h0_depth h0_function mem h0_pages glo val h0_valueTop ffu fre fba fla h0_frames lat lhe h0_labelTop h0_steps h0_there rsl h0_resultLength h0_reason h0_place arg h0_argumentCount h0_code tap ctap gtap) : va_W) ++ va_pl LP fP) H := hP
    have hD : va_D A (((wz_501 h0 rf tap h0_taped h0_length h0_kind h0_from h0_to po_w h0_numeral h0_globalNames_r h0_globalPlaces_r h0_globalTypes_r h0_globalValues_r h0_globalCount h0_funs_r h0_funCount h0_open h0_signs h0_levels_r h0_now h0_known_r h0_knownCount h0_loops mad h0_madeLength mag h0_smalls_r h0_greats_r h0_module_r h0_spare_r h0_m h0_cursor h0_limit blk stk h0_top hgt lab ous kis los h0_depth h0_function mem h0_pages glo val h0_valueTop ffu fre fba fla h0_frames lat lhe h0_labelTop h0_steps h0_there rsl h0_resultLength h0_reason h0_place arg h0_argumentCount h0_code tap ctap gtap) : va_W) ++ va_pl LP fP) := hD
    refine lv_aload_n hx hb d_MD_is_8 rfl (lv_at hl 0 rfl) ?_
    refine va_get (D := (dC, dI)) (ci := 11) (v := .ref po_w) (C := R_MD) (T := F_MD) (N := 65) hx hb hts i_MD hown hK hP 0 rfl rfl 7 (by decide) (hts _ kF_MD_57) (fun _ h9 => h9) rfl d_MD_is_9 ?_
    refine lv_aload_n hx hb d_MD_is_12 rfl (lv_at hl 1 rfl) ?_
    have hPc := @vp_nil
    have hDc := hD.part0
    have hKc := hK.sb (tyq := []) [] rfl
    have hFc := va_free (wc := []) hD hS hA [] rfl
    refine va_calli (va_runV (As := [.ref tx]) (rest := []) ⟨hx, hb, hml, hown, hts⟩ (c_JS_equals l hlt dC dI H.size sa po_w sv gw tx tv b (by (first | (apply Int.le_antisymm <;> omega) | omega)) (by (first | (apply Int.le_antisymm <;> omega) | omega))) (cwV 1 hts (gV kM_MD_100 kV_JS_equals kS_JS_equals kI_JS kC_JS_equals) rfl rfl rfl (by decide +kernel) ⟨Nat.le_of_ble_eq_true rfl, Nat.le_of_ble_eq_true rfl⟩) ⟨fun a U g mk z => by obtain ⟨z0, z1, zP, zK, zD, zS, zR0, zR1⟩ := z; exact ⟨z0, z1, zP, va_K.moved (u := U) (U := U.calling g mk a) (Vm.Alike.refl U.vm) zK, zD, sm.same (u := U) (U := U.calling g mk a) rfl zS, zR0.moved (u := U) (U := U.calling g mk a) (Vm.Alike.refl U.vm), zR1.moved (u := U) (U := U.calling g mk a) (Vm.Alike.refl U.vm)⟩, ro_rv (ro_Sp hts hK hP (t0 := 3) rfl s1 s2 s3 s4 s5 (no_A hP)).1, fun U hU hW => ⟨rfl, by rw [hU], va_P.he hU.symm hPc, va_K.moved hW.alike hKc, hDc.weaken (fun _ _ _ _ => trivial), hSW.call hS hFc hW hU, by rw [hU]; exact (ro_Sp hts hK hP (t0 := 3) rfl s1 s2 s3 s4 s5 (no_A hP)).moved hW.alike, (hR0).call hS hFc hW hU⟩⟩ rfl rfl hl.1 rfl (lv_room (Nat.le_of_ble_eq_true rfl)) d_MD_is_13 ⟨(Nat.zero_le _), (Nat.zero_le _)⟩) hS (fun q _ h => hFc q h) hFc (fun r8 u t H1 locs ht hvm hw hB hz1 hk1 hS => ?_)
    try dsimp only at hw
    obtain ⟨br8, xr8⟩ := hw
    try clear hw
    have tr8 := b01 br8
    obtain ⟨hP1, hK1, hD1⟩ := hB
    replace hP1 := va_P.he ht hP1
    replace hP1 := @vp_nil (dC, dI) cls2 H1
    obtain ⟨hP, hD⟩ := va_joinQ (wr := (wz_501 h0 rf tap h0_taped h0_length h0_kind h0_from h0_to po_w h0_numeral h0_globalNames_r h0_globalPlaces_r h0_globalTypes_r h0_globalValues_r h0_globalCount h0_funs_r h0_funCount h0_open h0_signs h0_levels_r h0_now h0_known_r h0_knownCount h0_loops mad h0_madeLength mag h0_smalls_r h0_greats_r h0_module_r h0_spare_r h0_m h0_cursor h0_limit blk stk h0_top hgt lab ous kis los h0_depth h0_function mem h0_pages glo val h0_valueTop ffu fre fba fla h0_frames lat lhe h0_labelTop h0_steps h0_there rsl h0_resultLength h0_reason h0_place arg h0_argumentCount h0_code tap ctap gtap)) (w1 := []) hP hD [] [0, 1] rfl rfl (by decide) (by decide) hk1 hFc hP1 hD1
    clear hPc hDc hKc hFc hz1 hk1 hP1 hK1 hD1
    rename Heap => H
    have hP : va_P (dC, dI) cls2 (((wz_501 h0 rf tap h0_taped h0_length h0_kind h0_from h0_to po_w h0_numeral h0_globalNames_r h0_globalPlaces_r h0_globalTypes_r h0_globalValues_r h0_globalCount h0_funs_r h0_funCount h0_open h0_signs h0_levels_r h0_now h0_known_r h0_knownCount h0_loops mad h0_madeLength mag h0_smalls_r h0_greats_r h0_module_r h0_spare_r h0_m h0_cursor h0_limit blk stk h0_top hgt lab ous kis los h0_depth h0_function mem h0_pages glo val h0_valueTop ffu fre fba fla h0_frames lat lhe h0_labelTop h0_steps h0_there rsl h0_resultLength h0_reason h0_place arg h0_argumentCount h0_code tap ctap gtap) : va_W) ++ va_pl LP fP) H := hP
    have hD : va_D A (((wz_501 h0 rf tap h0_taped h0_length h0_kind h0_from h0_to po_w h0_numeral h0_globalNames_r h0_globalPlaces_r h0_globalTypes_r h0_globalValues_r h0_globalCount h0_funs_r h0_funCount h0_open h0_signs h0_levels_r h0_now h0_known_r h0_knownCount h0_loops mad h0_madeLength mag h0_smalls_r h0_greats_r h0_module_r h0_spare_r h0_m h0_cursor h0_limit blk stk h0_top hgt lab ous kis los h0_depth h0_function mem h0_pages glo val h0_valueTop ffu fre fba fla h0_frames lat lhe h0_labelTop h0_steps h0_there rsl h0_resultLength h0_reason h0_place arg h0_argumentCount h0_code tap ctap gtap) : va_W) ++ va_pl LP fP) := hD
    have hP9 := hP.part (cx := (wz_501 h0 rf tap h0_taped h0_length h0_kind h0_from h0_to po_w h0_numeral h0_globalNames_r h0_globalPlaces_r h0_globalTypes_r h0_globalValues_r h0_globalCount h0_funs_r h0_funCount h0_open h0_signs h0_levels_r h0_now h0_known_r h0_knownCount h0_loops mad h0_madeLength mag h0_smalls_r h0_greats_r h0_module_r h0_spare_r h0_m h0_cursor h0_limit blk stk h0_top hgt lab ous kis los h0_depth h0_function mem h0_pages glo val h0_valueTop ffu fre fba fla h0_frames lat lhe h0_labelTop h0_steps h0_there rsl h0_resultLength h0_reason h0_place arg h0_argumentCount h0_code tap ctap gtap)) [0, 1] rfl
    have hD9 := hD.part (cx := (wz_501 h0 rf tap h0_taped h0_length h0_kind h0_from h0_to po_w h0_numeral h0_globalNames_r h0_globalPlaces_r h0_globalTypes_r h0_globalValues_r h0_globalCount h0_funs_r h0_funCount h0_open h0_signs h0_levels_r h0_now h0_known_r h0_knownCount h0_loops mad h0_madeLength mag h0_smalls_r h0_greats_r h0_module_r h0_spare_r h0_m h0_cursor h0_limit blk stk h0_top hgt lab ous kis los h0_depth h0_function mem h0_pages glo val h0_valueTop ffu fre fba fla h0_frames lat lhe h0_labelTop h0_steps h0_there rsl h0_resultLength h0_reason h0_place arg h0_argumentCount h0_code tap ctap gtap)) [0, 1] (by decide) rfl
    exact W.zret (v := r8) hx hb hr (zn01 (br8)) (fun t ht hW => ⟨⟨r8, (), rfl, ⟨br8, (by rcases xr8 with q | q; (exact Or.inl ⟨q.1, Or.inl ⟨by (first | (apply Int.le_antisymm <;> omega) | omega), q.2⟩⟩); (exact Or.inr q.1))⟩, va_P.he ht.symm hP9, va_K.moved hW.alike hK, hD9⟩, hS.F ht⟩) hS.2.2 d_MD_is_16
end q_m92

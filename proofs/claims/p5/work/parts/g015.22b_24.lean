section q_22b
/-! Validator: variables, calls -/
abbrev b_VA_checkVariable : ByteArray := prog_12_method_10_code
def y_VA_checkVariable : MethodName := ⟨R_VA, "checkVariable", "(II)V"⟩
abbrev w_VA_checkVariable : List Cond := .code y_VA_checkVariable b_VA_checkVariable 5 none :: lw_g
theorem kC_VA_checkVariable : Cond.code y_VA_checkVariable b_VA_checkVariable 5 none ∈ lw_g := in_c7 28 rfl rfl
theorem d_VA_checkVariable_0 : decode b_VA_checkVariable 0 = .ok (.iload_n 1, 1) := bz_c27 (by decide +kernel)
theorem d_VA_checkVariable_1 : decode b_VA_checkVariable 1 = .ok (.bipush 26, 2) := bz_c16 (by decide +kernel)
theorem d_VA_checkVariable_3 : decode b_VA_checkVariable 3 = .ok (.if_icmp .ne 9, 3) := bz_c160 (by decide +kernel)
theorem d_VA_checkVariable_6 : decode b_VA_checkVariable 6 = .ok (.aload_n 0, 1) := bz_c42 (by decide +kernel)
theorem d_VA_checkVariable_7 : decode b_VA_checkVariable 7 = .ok (.invokevirtual 189, 3) := bz_c182 (by decide +kernel)
theorem d_VA_checkVariable_10 : decode b_VA_checkVariable 10 = .ok (.pop, 1) := bz_c87 (by decide +kernel)
theorem d_VA_checkVariable_11 : decode b_VA_checkVariable 11 = .ok (.return_, 1) := bz_c177 (by decide +kernel)
theorem d_VA_checkVariable_12 : decode b_VA_checkVariable 12 = .ok (.iload_n 1, 1) := bz_c27 (by decide +kernel)
theorem d_VA_checkVariable_13 : decode b_VA_checkVariable 13 = .ok (.bipush 27, 2) := bz_c16 (by decide +kernel)
theorem d_VA_checkVariable_15 : decode b_VA_checkVariable 15 = .ok (.if_icmp .ne 8, 3) := bz_c160 (by decide +kernel)
theorem d_VA_checkVariable_18 : decode b_VA_checkVariable 18 = .ok (.aload_n 0, 1) := bz_c42 (by decide +kernel)
theorem d_VA_checkVariable_19 : decode b_VA_checkVariable 19 = .ok (.invokevirtual 193, 3) := bz_c182 (by decide +kernel)
theorem d_VA_checkVariable_22 : decode b_VA_checkVariable 22 = .ok (.return_, 1) := bz_c177 (by decide +kernel)
theorem d_VA_checkVariable_23 : decode b_VA_checkVariable 23 = .ok (.iload_n 1, 1) := bz_c27 (by decide +kernel)
theorem d_VA_checkVariable_24 : decode b_VA_checkVariable 24 = .ok (.bipush 35, 2) := bz_c16 (by decide +kernel)
theorem d_VA_checkVariable_26 : decode b_VA_checkVariable 26 = .ok (.if_icmp .lt 7, 3) := bz_c161 (by decide +kernel)
theorem d_VA_checkVariable_29 : decode b_VA_checkVariable 29 = .ok (.iconst 1, 1) := bz_c4 (by decide +kernel)
theorem d_VA_checkVariable_30 : decode b_VA_checkVariable 30 = .ok (.goto 4, 3) := bz_c167 (by decide +kernel)
theorem d_VA_checkVariable_33 : decode b_VA_checkVariable 33 = .ok (.iconst 0, 1) := bz_c3 (by decide +kernel)
theorem d_VA_checkVariable_34 : decode b_VA_checkVariable 34 = .ok (.istore_n 3, 1) := bz_c62 (by decide +kernel)
theorem d_VA_checkVariable_35 : decode b_VA_checkVariable 35 = .ok (.iload_n 3, 1) := bz_c29 (by decide +kernel)
theorem d_VA_checkVariable_36 : decode b_VA_checkVariable 36 = .ok (.ifCond .ne 18, 3) := bz_c154 (by decide +kernel)
theorem d_VA_checkVariable_39 : decode b_VA_checkVariable 39 = .ok (.aload_n 0, 1) := bz_c42 (by decide +kernel)
theorem d_VA_checkVariable_40 : decode b_VA_checkVariable 40 = .ok (.getfield 28, 3) := bz_c180 (by decide +kernel)
theorem d_VA_checkVariable_43 : decode b_VA_checkVariable 43 = .ok (.aload_n 0, 1) := bz_c42 (by decide +kernel)
theorem d_VA_checkVariable_44 : decode b_VA_checkVariable 44 = .ok (.getfield 111, 3) := bz_c180 (by decide +kernel)
theorem d_VA_checkVariable_47 : decode b_VA_checkVariable 47 = .ok (.iload_n 2, 1) := bz_c28 (by decide +kernel)
theorem d_VA_checkVariable_48 : decode b_VA_checkVariable 48 = .ok (.invokevirtual 185, 3) := bz_c182 (by decide +kernel)
theorem d_VA_checkVariable_51 : decode b_VA_checkVariable 51 = .ok (.goto 27, 3) := bz_c167 (by decide +kernel)
theorem d_VA_checkVariable_54 : decode b_VA_checkVariable 54 = .ok (.iload_n 2, 1) := bz_c28 (by decide +kernel)
theorem d_VA_checkVariable_55 : decode b_VA_checkVariable 55 = .ok (.aload_n 0, 1) := bz_c42 (by decide +kernel)
theorem d_VA_checkVariable_56 : decode b_VA_checkVariable 56 = .ok (.getfield 28, 3) := bz_c180 (by decide +kernel)
theorem d_VA_checkVariable_59 : decode b_VA_checkVariable 59 = .ok (.getfield 63, 3) := bz_c180 (by decide +kernel)
theorem d_VA_checkVariable_62 : decode b_VA_checkVariable 62 = .ok (.if_icmp .ge 15, 3) := bz_c162 (by decide +kernel)
theorem d_VA_checkVariable_65 : decode b_VA_checkVariable 65 = .ok (.aload_n 0, 1) := bz_c42 (by decide +kernel)
theorem d_VA_checkVariable_66 : decode b_VA_checkVariable 66 = .ok (.getfield 28, 3) := bz_c180 (by decide +kernel)
theorem d_VA_checkVariable_69 : decode b_VA_checkVariable 69 = .ok (.getfield 66, 3) := bz_c180 (by decide +kernel)
theorem d_VA_checkVariable_72 : decode b_VA_checkVariable 72 = .ok (.iload_n 2, 1) := bz_c28 (by decide +kernel)
theorem d_VA_checkVariable_73 : decode b_VA_checkVariable 73 = .ok (.iaload, 1) := bz_c46 (by decide +kernel)
theorem d_VA_checkVariable_74 : decode b_VA_checkVariable 74 = .ok (.goto 4, 3) := bz_c167 (by decide +kernel)
theorem d_VA_checkVariable_77 : decode b_VA_checkVariable 77 = .ok (.iconst 0, 1) := bz_c3 (by decide +kernel)
theorem d_VA_checkVariable_78 : decode b_VA_checkVariable 78 = .ok (.istore 4, 2) := bz_c54 (by decide +kernel)
theorem d_VA_checkVariable_80 : decode b_VA_checkVariable 80 = .ok (.iload 4, 2) := bz_c21 (by decide +kernel)
theorem d_VA_checkVariable_82 : decode b_VA_checkVariable 82 = .ok (.ifCond .eq 21, 3) := bz_c153 (by decide +kernel)
theorem d_VA_checkVariable_85 : decode b_VA_checkVariable 85 = .ok (.iload_n 1, 1) := bz_c27 (by decide +kernel)
theorem d_VA_checkVariable_86 : decode b_VA_checkVariable 86 = .ok (.bipush 36, 2) := bz_c16 (by decide +kernel)
theorem d_VA_checkVariable_88 : decode b_VA_checkVariable 88 = .ok (.if_icmp .ne 21, 3) := bz_c160 (by decide +kernel)
theorem d_VA_checkVariable_91 : decode b_VA_checkVariable 91 = .ok (.aload_n 0, 1) := bz_c42 (by decide +kernel)
theorem d_VA_checkVariable_92 : decode b_VA_checkVariable 92 = .ok (.getfield 28, 3) := bz_c180 (by decide +kernel)
theorem d_VA_checkVariable_95 : decode b_VA_checkVariable 95 = .ok (.getfield 196, 3) := bz_c180 (by decide +kernel)
theorem d_VA_checkVariable_98 : decode b_VA_checkVariable 98 = .ok (.iload_n 2, 1) := bz_c28 (by decide +kernel)
theorem d_VA_checkVariable_99 : decode b_VA_checkVariable 99 = .ok (.baload, 1) := bz_c51 (by decide +kernel)
theorem d_VA_checkVariable_100 : decode b_VA_checkVariable 100 = .ok (.ifCond .ne 9, 3) := bz_c154 (by decide +kernel)
theorem d_VA_checkVariable_103 : decode b_VA_checkVariable 103 = .ok (.aload_n 0, 1) := bz_c42 (by decide +kernel)
theorem d_VA_checkVariable_104 : decode b_VA_checkVariable 104 = .ok (.iconst 0, 1) := bz_c3 (by decide +kernel)
theorem d_VA_checkVariable_105 : decode b_VA_checkVariable 105 = .ok (.putfield 39, 3) := bz_c181 (by decide +kernel)
theorem d_VA_checkVariable_108 : decode b_VA_checkVariable 108 = .ok (.return_, 1) := bz_c177 (by decide +kernel)
theorem d_VA_checkVariable_109 : decode b_VA_checkVariable 109 = .ok (.iload_n 1, 1) := bz_c27 (by decide +kernel)
theorem d_VA_checkVariable_110 : decode b_VA_checkVariable 110 = .ok (.bipush 33, 2) := bz_c16 (by decide +kernel)
theorem d_VA_checkVariable_112 : decode b_VA_checkVariable 112 = .ok (.if_icmp .eq 15, 3) := bz_c159 (by decide +kernel)
theorem d_VA_checkVariable_115 : decode b_VA_checkVariable 115 = .ok (.iload_n 1, 1) := bz_c27 (by decide +kernel)
theorem d_VA_checkVariable_116 : decode b_VA_checkVariable 116 = .ok (.bipush 34, 2) := bz_c16 (by decide +kernel)
theorem d_VA_checkVariable_118 : decode b_VA_checkVariable 118 = .ok (.if_icmp .eq 9, 3) := bz_c159 (by decide +kernel)
theorem d_VA_checkVariable_121 : decode b_VA_checkVariable 121 = .ok (.iload_n 1, 1) := bz_c27 (by decide +kernel)
theorem d_VA_checkVariable_122 : decode b_VA_checkVariable 122 = .ok (.bipush 36, 2) := bz_c16 (by decide +kernel)
theorem d_VA_checkVariable_124 : decode b_VA_checkVariable 124 = .ok (.if_icmp .ne 9, 3) := bz_c160 (by decide +kernel)
theorem d_VA_checkVariable_127 : decode b_VA_checkVariable 127 = .ok (.aload_n 0, 1) := bz_c42 (by decide +kernel)
theorem d_VA_checkVariable_128 : decode b_VA_checkVariable 128 = .ok (.iload 4, 2) := bz_c21 (by decide +kernel)
theorem d_VA_checkVariable_130 : decode b_VA_checkVariable 130 = .ok (.invokevirtual 161, 3) := bz_c182 (by decide +kernel)
theorem d_VA_checkVariable_133 : decode b_VA_checkVariable 133 = .ok (.iload_n 1, 1) := bz_c27 (by decide +kernel)
theorem d_VA_checkVariable_134 : decode b_VA_checkVariable 134 = .ok (.bipush 32, 2) := bz_c16 (by decide +kernel)
theorem d_VA_checkVariable_136 : decode b_VA_checkVariable 136 = .ok (.if_icmp .eq 15, 3) := bz_c159 (by decide +kernel)
theorem d_VA_checkVariable_139 : decode b_VA_checkVariable 139 = .ok (.iload_n 1, 1) := bz_c27 (by decide +kernel)
theorem d_VA_checkVariable_140 : decode b_VA_checkVariable 140 = .ok (.bipush 34, 2) := bz_c16 (by decide +kernel)
theorem d_VA_checkVariable_142 : decode b_VA_checkVariable 142 = .ok (.if_icmp .eq 9, 3) := bz_c159 (by decide +kernel)
theorem d_VA_checkVariable_145 : decode b_VA_checkVariable 145 = .ok (.iload_n 1, 1) := bz_c27 (by decide +kernel)
theorem d_VA_checkVariable_146 : decode b_VA_checkVariable 146 = .ok (.bipush 35, 2) := bz_c16 (by decide +kernel)
theorem d_VA_checkVariable_148 : decode b_VA_checkVariable 148 = .ok (.if_icmp .ne 9, 3) := bz_c160 (by decide +kernel)
theorem d_VA_checkVariable_151 : decode b_VA_checkVariable 151 = .ok (.aload_n 0, 1) := bz_c42 (by decide +kernel)
theorem d_VA_checkVariable_152 : decode b_VA_checkVariable 152 = .ok (.iload 4, 2) := bz_c21 (by decide +kernel)
theorem d_VA_checkVariable_154 : decode b_VA_checkVariable 154 = .ok (.invokevirtual 167, 3) := bz_c182 (by decide +kernel)
theorem d_VA_checkVariable_157 : decode b_VA_checkVariable 157 = .ok (.return_, 1) := bz_c177 (by decide +kernel)
theorem kM_VA_193 : Cond.methodLink R_VA 193 y_VA_checkSelect ∈ lw_g := in_c7 29 rfl rfl
theorem kV_VA_checkSelect : Cond.instanceMethod y_VA_checkSelect ∈ lw_g := in_c7 31 rfl rfl
theorem kS_VA_checkSelect : Cond.selects R_VA y_VA_checkSelect y_VA_checkSelect ∈ lw_g := in_s 96 (by decide +kernel) rfl
theorem kM_VA_185 : Cond.methodLink R_VA 185 y_WA_localType ∈ lw_g := in_c7 20 rfl rfl
theorem kF_VA_196 : Cond.fieldLink R_VA 196 "WaferForge$Wafer" "globalChanges" "[Z" ∈ lw_g := in_c1 192 rfl rfl
theorem kF_VA_63 : Cond.fieldLink R_VA 63 "WaferForge$Wafer" "globalCount" "I" ∈ lw_g := in_c1 178 rfl rfl
theorem kF_VA_66 : Cond.fieldLink R_VA 66 "WaferForge$Wafer" "globalTypes" "[I" ∈ lw_g := in_c1 182 rfl rfl
theorem kF_VA_111 : Cond.fieldLink R_VA 111 "WaferForge$Validator" "function" "I" ∈ lw_g := in_c3 20 rfl rfl
abbrev at_VA_checkVariable (dC : Nat → ClassId) (dI : Nat → Nat → Nat) (h0 aw ac ty bo bg bh bd wat wap waf wgt wgc cfi clk clt cop cva cpt cel cla : Nat) (cty cbh cbd cwaf cwat cwap cwgt cwgc cclk cclt : ClassId) (h0_function : Int32) (h0_depth : Int32) (law : List Value) (aw_functionCount : Int32) (aw_globalCount : Int32) (ac_length : Int32) (ac_labelCount : Int32) (gbh : Nat → Int32) (gbd : Nat → Int32) (gwaf : Nat → Int32) (gwat : Nat → Int32) (gwap : Nat → Int32) (gwgt : Nat → Int32) (gwgc : Nat → Int32) (gclk : Nat → Int32) (gclt : Nat → Int32) (A : Nat → Prop) (u : (Nat → Int32) × Int32 × Int32) (t : State) : Prop := match u with | (gty, h0_height, h0_sound) => va_P (dC, dI) cls (wz_75 h0 aw ac h0_sound h0_function ty h0_height bo bg bh bd h0_depth aw law ac cfi clk clt ac_length cop cva cpt cel ac_labelCount cla ty cty gty bh cbh gbh bd cbd gbd waf cwaf gwaf wat cwat gwat wap cwap gwap wgt cwgt gwgt wgc cwgc gwgc clk cclk gclk clt cclt gclt) t.heap ∧ va_K (dC, dI) cls [(cty, .int), (cbh, .int), (cbd, .boolean), (cwaf, .int), (cwat, .int), (cwap, .int), (cwgt, .int), (cwgc, .boolean), (cclk, .int), (cclt, .int)] t ∧ va_D A (wz_75 h0 aw ac h0_sound h0_function ty h0_height bo bg bh bd h0_depth aw law ac cfi clk clt ac_length cop cva cpt cel ac_labelCount cla ty cty gty bh cbh gbh bd cbd gbd waf cwaf gwaf wat cwat gwat wap cwap gwap wgt cwgt gwgt wgc cwgc gwgc clk cclk gclk clt cclt gclt)
set_option maxHeartbeats 4000000 in
set_option maxRecDepth 100000 in
theorem c_VA_checkVariable (l : Launch) (dC : Nat → ClassId) (dI : Nat → Nat → Nat) (sz : Nat) (h0 aw ac ty bo bg bh bd wat wap waf wgt wgc cfi clk clt cop cva cpt cel cla : Nat) (cty cbh cbd cwaf cwat cwap cwgt cwgc cclk cclt : ClassId) (h0_sound : Int32) (h0_function : Int32) (h0_height : Int32) (h0_depth : Int32) (law : List Value) (aw_functionCount : Int32) (aw_globalCount : Int32) (ac_length : Int32) (ac_labelCount : Int32) (gty : Nat → Int32) (gbh : Nat → Int32) (gbd : Nat → Int32) (gwaf : Nat → Int32) (gwat : Nat → Int32) (gwap : Nat → Int32) (gwgt : Nat → Int32) (gwgc : Nat → Int32) (gclk : Nat → Int32) (gclt : Nat → Int32) (paw_1 : law[1]? = some (.ref ac)) (paw_3 : law[3]? = some (.ref wat)) (paw_4 : law[4]? = some (.ref wap)) (paw_6 : law[6]? = some (.int aw_functionCount)) (paw_7 : law[7]? = some (.ref waf)) (paw_11 : law[11]? = some (.int aw_globalCount)) (paw_12 : law[12]? = some (.ref wgt)) (paw_15 : law[15]? = some (.ref wgc)) (plaw : law.length = 21) (b_h0_sound : h0_sound = 0 ∨ h0_sound = 1) (b_h0_height : 0 ≤ h0_height.toInt ∧ h0_height.toInt ≤ 5000) (b_h0_depth : 0 ≤ h0_depth.toInt ∧ h0_depth.toInt ≤ 101) (b_gty : ∀ j : Nat, (gty j).toInt ≠ 64) (b_gbh : ∀ j : Nat, 0 ≤ (gbh j).toInt ∧ (gbh j).toInt ≤ 5000) (b_aw_functionCount : 0 ≤ aw_functionCount.toInt ∧ aw_functionCount.toInt ≤ 30) (b_aw_globalCount : 0 ≤ aw_globalCount.toInt ∧ aw_globalCount.toInt ≤ 20) (p0 : Int32) (p1 : Int32)  (hd1 : 1 ≤ h0_depth.toInt) (hbh : (gbh (h0_depth.toInt - 1).toNat).toInt ≤ h0_height.toInt) (hh5 : h0_height.toInt < 5000) (hfu : 0 ≤ h0_function.toInt ∧ h0_function.toInt < aw_functionCount.toInt ∧ aw_functionCount.toInt ≤ 30) (hwf : ∀ f : Nat, (f : Int) < aw_functionCount.toInt → vw_fun gwaf gwat gwap gclk gclt f) (hrg : rd_G aw_globalCount.toInt gwgt) (hop : p0.toInt = 26 ∨ p0.toInt = 27 ∨ (32 ≤ p0.toInt ∧ p0.toInt ≤ 36)) (hp1 : 32 ≤ p0.toInt → 0 ≤ p1.toInt) : Met l y_VA_checkVariable w_VA_checkVariable ({ frames := 3, cells := 0, slots := 0, locals := 64 }) (va_Pc [.ref h0, .int p0, .int p1] (fun U => U.heap.size = sz ∧ va_P (dC, dI) cls (wz_75 h0 aw ac h0_sound h0_function ty h0_height bo bg bh bd h0_depth aw law ac cfi clk clt ac_length cop cva cpt cel ac_labelCount cla ty cty gty bh cbh gbh bd cbd gbd waf cwaf gwaf wat cwat gwat wap cwap gwap wgt cwgt gwgt wgc cwgc gwgc clk cclk gclk clt cclt gclt) U.heap ∧ va_K (dC, dI) cls [(cty, .int), (cbh, .int), (cbd, .boolean), (cwaf, .int), (cwat, .int), (cwap, .int), (cwgt, .int), (cwgc, .boolean), (cclk, .int), (cclt, .int)] U ∧ va_D (fun _ => True) (wz_75 h0 aw ac h0_sound h0_function ty h0_height bo bg bh bd h0_depth aw law ac cfi clk clt ac_length cop cva cpt cel ac_labelCount cla ty cty gty bh cbh gbh bd cbd gbd waf cwaf gwaf wat cwat gwat wap cwap gwap wgt cwgt gwgt wgc cwgc gwgc clk cclk gclk clt cclt gclt))) (va_Qv (fun (u : (Nat → Int32) × Int32 × Int32) => match u with | (gty2, h0_height2, h0_sound2) => (∀ j : Nat, (gty2 j).toInt ≠ 64) ∧ (0 ≤ h0_height2.toInt ∧ h0_height2.toInt ≤ 5000) ∧ (h0_sound2 = 0 ∨ h0_sound2 = 1) ∧ (((gbh (h0_depth.toInt - 1).toNat).toInt ≤ h0_height2.toInt ∧ h0_height2.toInt ≤ h0_height.toInt + 1) ∧ (h0_sound2.toInt = 1 → h0_sound.toInt = 1 ∧ (32 ≤ p0.toInt ∧ p0.toInt ≤ 34 → p1.toInt < (gwat (gwaf h0_function.toNatClampNeg).toNatClampNeg).toInt + (gclk h0_function.toNatClampNeg).toInt) ∧ (35 ≤ p0.toInt → p1.toInt < aw_globalCount.toInt) ∧ ((gbd (h0_depth.toInt - 1).toNat).toInt = 0 → (p0.toInt = 26 → (gbh (h0_depth.toInt - 1).toNat).toInt + 1 ≤ h0_height.toInt ∧ h0_height2.toInt = h0_height.toInt - 1 + 0) ∧ (p0.toInt = 27 → (gbh (h0_depth.toInt - 1).toNat).toInt + 3 ≤ h0_height.toInt ∧ h0_height2.toInt = h0_height.toInt - 3 + 1) ∧ (p0.toInt = 32 ∨ p0.toInt = 35 → (gbh (h0_depth.toInt - 1).toNat).toInt + 0 ≤ h0_height.toInt ∧ h0_height2.toInt = h0_height.toInt - 0 + 1) ∧ (p0.toInt = 33 ∨ p0.toInt = 36 → (gbh (h0_depth.toInt - 1).toNat).toInt + 1 ≤ h0_height.toInt ∧ h0_height2.toInt = h0_height.toInt - 1 + 0) ∧ (p0.toInt = 34 → (gbh (h0_depth.toInt - 1).toNat).toInt + 1 ≤ h0_height.toInt ∧ h0_height2.toInt = h0_height.toInt - 1 + 1))))) (at_VA_checkVariable dC dI h0 aw ac ty bo bg bh bd wat wap waf wgt wgc cfi clk clt cop cva cpt cel cla cty cbh cbd cwaf cwat cwap cwgt cwgc cclk cclt h0_function h0_depth law aw_functionCount aw_globalCount ac_length ac_labelCount gbh gbd gwaf gwat gwap gwgt gwgc gclk gclt (va_A (wz_75 h0 aw ac h0_sound h0_function ty h0_height bo bg bh bd h0_depth aw law ac cfi clk clt ac_length cop cva cpt cel ac_labelCount cla ty cty gty bh cbh gbh bd cbd gbd waf cwaf gwaf wat cwat gwat wap cwap gwap wgt cwgt gwgt wgc cwgc gwgc clk cclk gclk clt cclt gclt) sz)) (va_A (wz_75 h0 aw ac h0_sound h0_function ty h0_height bo bg bh bd h0_depth aw law ac cfi clk clt ac_length cop cva cpt cel ac_labelCount cla ty cty gty bh cbh gbh bd cbd gbd waf cwaf gwaf wat cwat gwat wap cwap gwap wgt cwgt gwgt wgc cwgc gwgc clk cclk gclk clt cclt gclt) sz)) 0 0 (va_A (wz_75 h0 aw ac h0_sound h0_function ty h0_height bo bg bh bd h0_depth aw law ac cfi clk clt ac_length cop cva cpt cel ac_labelCount cla ty cty gty bh cbh gbh bd cbd gbd waf cwaf gwaf wat cwat gwat wap cwap gwap wgt cwgt gwgt wgc cwgc gwgc clk cclk gclk clt cclt gclt) sz) := by
  refine Met.ofW (cc := b_VA_checkVariable) (maxL := 5) (ret := none) (by decide) rfl ?_
  intro p e s m args below meth c s₁ B hml hv
  obtain ⟨rfl, hsz, hP, hK, hD0⟩ := hv
  have hx := B.exec
  have hb := B.bytes
  have hr := B.returns
  have hts0 := atoms_spec (ws := w_VA_checkVariable) B.pre
  have hts : ∀ w ∈ lw_g, w.before _ s = true := fun w h => hts0 w (List.mem_cons_of_mem _ h)
  have hown : s.vm.findClass R_VA = some m.cls := findClass_of_methodNamed B.named
  have hlocks := B.notSynchronized
  clear hts0
  subst hsz
  have hD := hD0.self (sz := s.heap.size)
  generalize hAe : va_A (wz_75 h0 aw ac h0_sound h0_function ty h0_height bo bg bh bd h0_depth aw law ac cfi clk clt ac_length cop cva cpt cel ac_labelCount cla ty cty gty bh cbh gbh bd cbd gbd waf cwaf gwaf wat cwat gwat wap cwap gwap wgt cwgt gwgt wgc cwgc gwgc clk cclk gclk clt cclt gclt) s.heap.size = A at hD ⊢
  have hA : ∀ q : Nat, s.heap.size ≤ q → A q := fun q h => by rw [← hAe]; exact Or.inr h
  clear hAe
  have hP : va_P (dC, dI) cls (wz_75 h0 aw ac h0_sound h0_function ty h0_height bo bg bh bd h0_depth aw law ac cfi clk clt ac_length cop cva cpt cel ac_labelCount cla ty cty gty bh cbh gbh bd cbd gbd waf cwaf gwaf wat cwat gwat wap cwap gwap wgt cwgt gwgt wgc cwgc gwgc clk cclk gclk clt cclt gclt) s.heap := hP
  have hl := lv_entry ([.ref h0, .int p0, .int p1]) (n := 5) (Nat.le_of_ble_eq_true rfl)
  rw [lg_entry_eq]
  generalize (lg_sl ([.ref h0, .int p0, .int p1]) ++ List.replicate (5 - (lg_sl ([.ref h0, .int p0, .int p1])).length) Slot.unset).toArray = ls at hl ⊢
  have hl : lv_has ls 5 [(0, .ref h0), (1, .int p0), (2, .int p1)] := hl
  have k0 : (0 : Int32).toInt = 0 := by decide
  refine w_gen (A := A) hP (fun H locs hP hS => ?_)
  have k1 : (1 : Int32).toInt = 1 := by decide
  have k26 : (26 : Int32).toInt = 26 := by decide
  have k27 : (27 : Int32).toInt = 27 := by decide
  have k32 : (32 : Int32).toInt = 32 := by decide
  have k33 : (33 : Int32).toInt = 33 := by decide
  have k34 : (34 : Int32).toInt = 34 := by decide
  have k35 : (35 : Int32).toInt = 35 := by decide
  have k36 : (36 : Int32).toInt = 36 := by decide
  have lo_p0 := i32_lo p0
  have hi_p0 := i32_hi p0
  have lo_p1 := i32_lo p1
  have hi_p1 := i32_hi p1
  have th0_sound := b01 b_h0_sound
  have c9 := i32_clamp (x := h0_function) (by (first | (apply Int.le_antisymm <;> omega) | omega))
  have w9 := hwf h0_function.toNatClampNeg (by (first | (apply Int.le_antisymm <;> omega) | omega))
  have w8 := w9.1
  have w7 := w9.2.1
  refine lv_iload_n hx hb d_VA_checkVariable_0 rfl (lv_at hl 1 rfl) ?_
  refine lv_bipush (v := 26) hx hb d_VA_checkVariable_1 (by decide) ?_
  refine lv_icmp_ne (tgt := 12) hx hb d_VA_checkVariable_3 (by decide) (fun c3 => ?_) (fun c3 => ?_)
  · have q3 := neI c3
    refine lv_iload_n hx hb d_VA_checkVariable_12 rfl (lv_at hl 1 rfl) ?_
    refine lv_bipush (v := 27) hx hb d_VA_checkVariable_13 (by decide) ?_
    refine lv_icmp_ne (tgt := 23) hx hb d_VA_checkVariable_15 (by decide) (fun c15 => ?_) (fun c15 => ?_)
    · have q15 := neI c15
      refine lv_iload_n hx hb d_VA_checkVariable_23 rfl (lv_at hl 1 rfl) ?_
      refine lv_bipush (v := 35) hx hb d_VA_checkVariable_24 (by decide) ?_
      refine w_cut (pc2 := 34) (σ := Int32) (fun u H locs ls => match u with | j34_s0 => (j34_s0 = 0 ∨ j34_s0 = 1) ∧ ((j34_s0.toInt = 1 → 35 ≤ p0.toInt) ∧ (j34_s0.toInt = 0 → p0.toInt < 35)) ∧ va_P (dC, dI) cls (wz_75 h0 aw ac h0_sound h0_function ty h0_height bo bg bh bd h0_depth aw law ac cfi clk clt ac_length cop cva cpt cel ac_labelCount cla ty cty gty bh cbh gbh bd cbd gbd waf cwaf gwaf wat cwat gwat wap cwap gwap wgt cwgt gwgt wgc cwgc gwgc clk cclk gclk clt cclt gclt) H ∧ va_D A (wz_75 h0 aw ac h0_sound h0_function ty h0_height bo bg bh bd h0_depth aw law ac cfi clk clt ac_length cop cva cpt cel ac_labelCount cla ty cty gty bh cbh gbh bd cbd gbd waf cwaf gwaf wat cwat gwat wap cwap gwap wgt cwgt gwgt wgc cwgc gwgc clk cclk gclk clt cclt gclt) ∧ va_S A s.heap H locs ∧ lv_has ls 5 [(0, .ref h0), (1, .int p0), (2, .int p1)]) (fun u => match u with | j34_s0 => [.int j34_s0]) ?_ (fun jn34 => ?_)
      · intro u H locs ls hI
        obtain ⟨j34_s0, rfl⟩ : ∃ z, z = u := ⟨_, rfl⟩
        obtain ⟨b_j34_s0, y34, hP, hD, hS, hl⟩ := hI
        have tj34_s0 := b01 b_j34_s0
        refine lv_istore_n (lv' := [(3, .int j34_s0), (0, .ref h0), (1, .int p0), (2, .int p1)]) hx hb d_VA_checkVariable_34 rfl hl (by decide) rfl (fun ls hl => ?_)
        refine lv_iload_n hx hb d_VA_checkVariable_35 rfl (lv_at hl 0 rfl) ?_
        refine w_cut (pc2 := 78) (σ := Int32) (fun u H locs ls => match u with | j78_s0 => ((j78_s0.toInt = 0 ∨ j78_s0.toInt = 127 ∨ j78_s0.toInt = 126) ∧ (j78_s0.toInt ≠ 0 → (p0.toInt < 35 → p1.toInt < (gwat (gwaf h0_function.toNatClampNeg).toNatClampNeg).toInt + (gclk h0_function.toNatClampNeg).toInt) ∧ (35 ≤ p0.toInt → p1.toInt < aw_globalCount.toInt))) ∧ va_P (dC, dI) cls (wz_75 h0 aw ac h0_sound h0_function ty h0_height bo bg bh bd h0_depth aw law ac cfi clk clt ac_length cop cva cpt cel ac_labelCount cla ty cty gty bh cbh gbh bd cbd gbd waf cwaf gwaf wat cwat gwat wap cwap gwap wgt cwgt gwgt wgc cwgc gwgc clk cclk gclk clt cclt gclt) H ∧ va_D A (wz_75 h0 aw ac h0_sound h0_function ty h0_height bo bg bh bd h0_depth aw law ac cfi clk clt ac_length cop cva cpt cel ac_labelCount cla ty cty gty bh cbh gbh bd cbd gbd waf cwaf gwaf wat cwat gwat wap cwap gwap wgt cwgt gwgt wgc cwgc gwgc clk cclk gclk clt cclt gclt) ∧ va_S A s.heap H locs ∧ lv_has ls 5 [(0, .ref h0), (1, .int p0), (2, .int p1)]) (fun u => match u with | j78_s0 => [.int j78_s0]) ?_ (fun jn78 => ?_)
        · intro u H locs ls hI
          obtain ⟨j78_s0, rfl⟩ : ∃ z, z = u := ⟨_, rfl⟩
          obtain ⟨y78, hP, hD, hS, hl⟩ := hI
          refine lv_istore (lv' := [(4, .int j78_s0), (0, .ref h0), (1, .int p0), (2, .int p1)]) hx hb d_VA_checkVariable_78 hl (by decide) rfl (fun ls hl => ?_)
          refine lv_iload hx hb d_VA_checkVariable_80 (lv_at hl 0 rfl) ?_
          refine lv_if_eq (tgt := 103) hx hb d_VA_checkVariable_82 (by decide) (fun c82 => ?_) (fun c82 => ?_)
          · have q82 := eqI c82
            refine lv_aload_n hx hb d_VA_checkVariable_103 rfl (lv_at hl 1 rfl) ?_
            refine lv_iconst (v := 0) hx hb d_VA_checkVariable_104 (by decide) ?_
            refine va_put (D := (dC, dI)) (ci := 9) (v := .int 0) (ty := .boolean) (C := R_VA) (T := F_VA) (N := 11) hx hb hts i_VA t_VA t_VA_ok n_VA hown hK hP hD hS 0 rfl rfl 2 (by decide) (hts _ kF_VA_39) (fun _ h9 => h9) rfl (by decide +kernel) rfl rfl (Nat.le_of_ble_eq_true rfl) d_VA_checkVariable_105 (fun H locs hP hD hS => ?_)
            have hP9 := hP.sb (wq := (wz_75 h0 aw ac 0 h0_function ty h0_height bo bg bh bd h0_depth aw law ac cfi clk clt ac_length cop cva cpt cel ac_labelCount cla ty cty gty bh cbh gbh bd cbd gbd waf cwaf gwaf wat cwat gwat wap cwap gwap wgt cwgt gwgt wgc cwgc gwgc clk cclk gclk clt cclt gclt)) [0, 1, 2, 3, 4, 5, 6, 7, 8, 9, 10, 11, 12] rfl
            have hD9 := hD.sb (wq := (wz_75 h0 aw ac 0 h0_function ty h0_height bo bg bh bd h0_depth aw law ac cfi clk clt ac_length cop cva cpt cel ac_labelCount cla ty cty gty bh cbh gbh bd cbd gbd waf cwaf gwaf wat cwat gwat wap cwap gwap wgt cwgt gwgt wgc cwgc gwgc clk cclk gclk clt cclt gclt)) [0, 1, 2, 3, 4, 5, 6, 7, 8, 9, 10, 11, 12] (by decide) rfl
            exact W.vret hx hb hr (fun t ht hW => ⟨⟨(gty, h0_height, 0), rfl, ⟨b_gty, b_h0_height, Or.inl rfl, by (try dsimp only) <;> (first | (apply Int.le_antisymm <;> omega) | omega)⟩, va_P.he ht.symm hP9, va_K.moved hW.alike hK, hD9⟩, hS.F ht⟩) hS.2.2 d_VA_checkVariable_108
          · have q82 := neI c82
            refine lv_iload_n hx hb d_VA_checkVariable_85 rfl (lv_at hl 2 rfl) ?_
            refine lv_bipush (v := 36) hx hb d_VA_checkVariable_86 (by decide) ?_
            refine w_cut (pc2 := 109) (σ := Unit) (fun u H locs ls => match u with | _ => va_P (dC, dI) cls (wz_75 h0 aw ac h0_sound h0_function ty h0_height bo bg bh bd h0_depth aw law ac cfi clk clt ac_length cop cva cpt cel ac_labelCount cla ty cty gty bh cbh gbh bd cbd gbd waf cwaf gwaf wat cwat gwat wap cwap gwap wgt cwgt gwgt wgc cwgc gwgc clk cclk gclk clt cclt gclt) H ∧ va_D A (wz_75 h0 aw ac h0_sound h0_function ty h0_height bo bg bh bd h0_depth aw law ac cfi clk clt ac_length cop cva cpt cel ac_labelCount cla ty cty gty bh cbh gbh bd cbd gbd waf cwaf gwaf wat cwat gwat wap cwap gwap wgt cwgt gwgt wgc cwgc gwgc clk cclk gclk clt cclt gclt) ∧ va_S A s.heap H locs ∧ lv_has ls 5 [(0, .ref h0), (1, .int p0), (4, .int j78_s0)]) (fun u => match u with | _ => []) ?_ (fun jn109 => ?_)
            · intro u H locs ls hI
              obtain ⟨hP, hD, hS, hl⟩ := hI
              refine lv_iload_n hx hb d_VA_checkVariable_109 rfl (lv_at hl 1 rfl) ?_
              refine lv_bipush (v := 33) hx hb d_VA_checkVariable_110 (by decide) ?_
              refine w_cut (pc2 := 133) (σ := Int32 × Int32) (fun u H locs ls => match u with | (j133_h0_height, j133_h0_sound) => (0 ≤ j133_h0_height.toInt ∧ j133_h0_height.toInt ≤ 5000) ∧ (j133_h0_sound = 0 ∨ j133_h0_sound = 1) ∧ (((gbh (h0_depth.toInt - 1).toNat).toInt ≤ j133_h0_height.toInt ∧ j133_h0_height.toInt ≤ h0_height.toInt) ∧ (j133_h0_sound.toInt = 1 → h0_sound.toInt = 1 ∧ ((gbd (h0_depth.toInt - 1).toNat).toInt = 0 → (p0.toInt = 33 ∨ p0.toInt = 34 ∨ p0.toInt = 36 → (gbh (h0_depth.toInt - 1).toNat).toInt + 1 ≤ h0_height.toInt ∧ j133_h0_height.toInt = h0_height.toInt - 1) ∧ (¬ (p0.toInt = 33 ∨ p0.toInt = 34 ∨ p0.toInt = 36) → j133_h0_height.toInt = h0_height.toInt)))) ∧ va_P (dC, dI) cls (wz_75 h0 aw ac j133_h0_sound h0_function ty j133_h0_height bo bg bh bd h0_depth aw law ac cfi clk clt ac_length cop cva cpt cel ac_labelCount cla ty cty gty bh cbh gbh bd cbd gbd waf cwaf gwaf wat cwat gwat wap cwap gwap wgt cwgt gwgt wgc cwgc gwgc clk cclk gclk clt cclt gclt) H ∧ va_D A (wz_75 h0 aw ac j133_h0_sound h0_function ty j133_h0_height bo bg bh bd h0_depth aw law ac cfi clk clt ac_length cop cva cpt cel ac_labelCount cla ty cty gty bh cbh gbh bd cbd gbd waf cwaf gwaf wat cwat gwat wap cwap gwap wgt cwgt gwgt wgc cwgc gwgc clk cclk gclk clt cclt gclt) ∧ va_S A s.heap H locs ∧ lv_has ls 5 [(0, .ref h0), (1, .int p0), (4, .int j78_s0)]) (fun u => match u with | (j133_h0_height, j133_h0_sound) => []) ?_ (fun jn133 => ?_)
              · intro u H locs ls hI
                obtain ⟨j133_h0_height, j133_h0_sound⟩ := u
                obtain ⟨b_j133_h0_height, b_j133_h0_sound, y133, hP, hD, hS, hl⟩ := hI
                have tj133_h0_sound := b01 b_j133_h0_sound
                refine lv_iload_n hx hb d_VA_checkVariable_133 rfl (lv_at hl 1 rfl) ?_
                refine lv_bipush (v := 32) hx hb d_VA_checkVariable_134 (by decide) ?_
                refine w_cut (pc2 := 151) (σ := Unit) (fun u H locs ls => match u with | _ => (p0.toInt = 32 ∨ p0.toInt = 34 ∨ p0.toInt = 35) ∧ va_P (dC, dI) cls (wz_75 h0 aw ac j133_h0_sound h0_function ty j133_h0_height bo bg bh bd h0_depth aw law ac cfi clk clt ac_length cop cva cpt cel ac_labelCount cla ty cty gty bh cbh gbh bd cbd gbd waf cwaf gwaf wat cwat gwat wap cwap gwap wgt cwgt gwgt wgc cwgc gwgc clk cclk gclk clt cclt gclt) H ∧ va_D A (wz_75 h0 aw ac j133_h0_sound h0_function ty j133_h0_height bo bg bh bd h0_depth aw law ac cfi clk clt ac_length cop cva cpt cel ac_labelCount cla ty cty gty bh cbh gbh bd cbd gbd waf cwaf gwaf wat cwat gwat wap cwap gwap wgt cwgt gwgt wgc cwgc gwgc clk cclk gclk clt cclt gclt) ∧ va_S A s.heap H locs ∧ lv_has ls 5 [(0, .ref h0), (4, .int j78_s0)]) (fun u => match u with | _ => []) ?_ (fun jn151 => ?_)
                · intro u H locs ls hI
                  obtain ⟨y151, hP, hD, hS, hl⟩ := hI
                  refine lv_aload_n hx hb d_VA_checkVariable_151 rfl (lv_at hl 0 rfl) ?_
                  refine lv_iload hx hb d_VA_checkVariable_152 (lv_at hl 1 rfl) ?_
                  have hPc := hP.sb (wq := (wz_66 h0 aw ac j133_h0_sound h0_function ty j133_h0_height bo bg bh bd h0_depth ty cty gty)) [0, 3] rfl
                  have hDc := hD.sb (wq := (wz_66 h0 aw ac j133_h0_sound h0_function ty j133_h0_height bo bg bh bd h0_depth ty cty gty)) [0, 3] (by decide) rfl
                  have hKc := hK.sb (tyq := [(cty, .int)]) [0] rfl
                  have hFc := va_free (wc := (wz_66 h0 aw ac j133_h0_sound h0_function ty j133_h0_height bo bg bh bd h0_depth ty cty gty)) hD hS hA [0, 3] rfl
                  refine va_callv (va_runV (As := [.int j78_s0]) (rest := []) ⟨hx, hb, hml, hown, hts⟩ (c_VA_push l dC dI H.size h0 aw ac ty bo bg bh bd cty j133_h0_sound h0_function j133_h0_height h0_depth gty (b_j133_h0_height) (b_gty) j78_s0 (by (try dsimp only) <;> (first | (apply Int.le_antisymm <;> omega) | omega))) (cwV 1 hts (gV kM_VA_167 kV_VA_push kS_VA_push kI_VA kC_VA_push) rfl rfl rfl (by decide +kernel) ⟨Nat.le_of_ble_eq_true rfl, Nat.le_of_ble_eq_true rfl⟩) ⟨fun a U g mk z => by obtain ⟨z0, z1, zP, zK, zD⟩ := z; exact ⟨z0, z1, zP, va_K.moved (u := U) (U := U.calling g mk a) (Vm.Alike.refl U.vm) zK, zD⟩, va_recv hKc hPc (ci := 9) (q0 := 0) rfl rfl, fun U hU hW => ⟨rfl, by rw [hU], va_P.he hU.symm hPc, va_K.moved hW.alike hKc, hDc.weaken (fun _ _ _ _ => trivial)⟩⟩ rfl rfl hl.1 rfl (lv_room (Nat.le_of_ble_eq_true rfl)) d_VA_checkVariable_154 ⟨(Nat.zero_le _), (Nat.zero_le _)⟩) hS (fun q _ h => hFc q h) hFc (fun u t H1 locs ht hvm hw hB hz1 hk1 hS => ?_)
                  obtain ⟨n2, n3⟩ := u
                  try dsimp only at hw
                  obtain ⟨bn2, bn3, xr1⟩ := hw
                  try clear hw
                  obtain ⟨hP1, hK1, hD1⟩ := hB
                  replace hP1 := va_P.he ht hP1
                  obtain ⟨hP, hD⟩ := va_join (wr := [(aw, .inr (10, law)), (ac, .inr (3, [.ref cfi, .ref clk, .ref clt, .int ac_length, .ref cop, .ref cva, .ref cpt, .ref cel, .int ac_labelCount, .ref cla])), (bh, .inl (cbh, 101, .inl gbh)), (bd, .inl (cbd, 101, .inl gbd)), (waf, .inl (cwaf, 30, .inl gwaf)), (wat, .inl (cwat, 20, .inl gwat)), (wap, .inl (cwap, 160, .inl gwap)), (wgt, .inl (cwgt, 20, .inl gwgt)), (wgc, .inl (cwgc, 20, .inl gwgc)), (clk, .inl (cclk, 30, .inl gclk)), (clt, .inl (cclt, 1800, .inl gclt))]) (w1 := (wz_66 h0 aw ac j133_h0_sound h0_function ty n3 bo bg bh bd h0_depth ty cty n2)) hP hD [0, 3] [1, 2, 4, 5, 6, 7, 8, 9, 10, 11, 12] rfl rfl (by decide) (by decide) hk1 hFc hP1 hD1
                  clear hPc hDc hKc hFc hz1 hk1 hP1 hK1 hD1
                  rename Heap => H
                  have hP : va_P (dC, dI) cls [(aw, .inr (10, law)), (ac, .inr (3, [.ref cfi, .ref clk, .ref clt, .int ac_length, .ref cop, .ref cva, .ref cpt, .ref cel, .int ac_labelCount, .ref cla])), (bh, .inl (cbh, 101, .inl gbh)), (bd, .inl (cbd, 101, .inl gbd)), (waf, .inl (cwaf, 30, .inl gwaf)), (wat, .inl (cwat, 20, .inl gwat)), (wap, .inl (cwap, 160, .inl gwap)), (wgt, .inl (cwgt, 20, .inl gwgt)), (wgc, .inl (cwgc, 20, .inl gwgc)), (clk, .inl (cclk, 30, .inl gclk)), (clt, .inl (cclt, 1800, .inl gclt)), (h0, .inr (9, [.ref aw, .ref ac, .int j133_h0_sound, .int h0_function, .ref ty, .int n3, .ref bo, .ref bg, .ref bh, .ref bd, .int h0_depth])), (ty, .inl (cty, 5000, .inl n2))] H := hP
                  have hD : va_D A [(aw, .inr (10, law)), (ac, .inr (3, [.ref cfi, .ref clk, .ref clt, .int ac_length, .ref cop, .ref cva, .ref cpt, .ref cel, .int ac_labelCount, .ref cla])), (bh, .inl (cbh, 101, .inl gbh)), (bd, .inl (cbd, 101, .inl gbd)), (waf, .inl (cwaf, 30, .inl gwaf)), (wat, .inl (cwat, 20, .inl gwat)), (wap, .inl (cwap, 160, .inl gwap)), (wgt, .inl (cwgt, 20, .inl gwgt)), (wgc, .inl (cwgc, 20, .inl gwgc)), (clk, .inl (cclk, 30, .inl gclk)), (clt, .inl (cclt, 1800, .inl gclt)), (h0, .inr (9, [.ref aw, .ref ac, .int j133_h0_sound, .int h0_function, .ref ty, .int n3, .ref bo, .ref bg, .ref bh, .ref bd, .int h0_depth])), (ty, .inl (cty, 5000, .inl n2))] := hD
                  have hP9 := hP.sb (wq := (wz_75 h0 aw ac j133_h0_sound h0_function ty n3 bo bg bh bd h0_depth aw law ac cfi clk clt ac_length cop cva cpt cel ac_labelCount cla ty cty n2 bh cbh gbh bd cbd gbd waf cwaf gwaf wat cwat gwat wap cwap gwap wgt cwgt gwgt wgc cwgc gwgc clk cclk gclk clt cclt gclt)) [11, 0, 1, 12, 2, 3, 4, 5, 6, 7, 8, 9, 10] rfl
                  have hD9 := hD.sb (wq := (wz_75 h0 aw ac j133_h0_sound h0_function ty n3 bo bg bh bd h0_depth aw law ac cfi clk clt ac_length cop cva cpt cel ac_labelCount cla ty cty n2 bh cbh gbh bd cbd gbd waf cwaf gwaf wat cwat gwat wap cwap gwap wgt cwgt gwgt wgc cwgc gwgc clk cclk gclk clt cclt gclt)) [11, 0, 1, 12, 2, 3, 4, 5, 6, 7, 8, 9, 10] (by decide) rfl
                  exact W.vret hx hb hr (fun t ht hW => ⟨⟨(n2, n3, j133_h0_sound), rfl, ⟨bn2, bn3, b_j133_h0_sound, by (try dsimp only) <;> (first | (apply Int.le_antisymm <;> omega) | omega)⟩, va_P.he ht.symm hP9, va_K.moved hW.alike hK, hD9⟩, hS.F ht⟩) hS.2.2 d_VA_checkVariable_157
                · skip
                  refine lv_icmp_eq (tgt := 151) hx hb d_VA_checkVariable_136 (by decide) (fun c136 => ?_) (fun c136 => ?_)
                  · have q136 := eqI c136
                    exact jn151 () _ _ _ ⟨by (try dsimp only) <;> (first | (apply Int.le_antisymm <;> omega) | omega), hP, hD, hS, lv_sub hl [0, 2] rfl⟩
                  · have q136 := neI c136
                    refine lv_iload_n hx hb d_VA_checkVariable_139 rfl (lv_at hl 1 rfl) ?_
                    refine lv_bipush (v := 34) hx hb d_VA_checkVariable_140 (by decide) ?_
                    refine lv_icmp_eq (tgt := 151) hx hb d_VA_checkVariable_142 (by decide) (fun c142 => ?_) (fun c142 => ?_)
                    · have q142 := eqI c142
                      exact jn151 () _ _ _ ⟨by (try dsimp only) <;> (first | (apply Int.le_antisymm <;> omega) | omega), hP, hD, hS, lv_sub hl [0, 2] rfl⟩
                    · have q142 := neI c142
                      refine lv_iload_n hx hb d_VA_checkVariable_145 rfl (lv_at hl 1 rfl) ?_
                      refine lv_bipush (v := 35) hx hb d_VA_checkVariable_146 (by decide) ?_
                      refine lv_icmp_ne (tgt := 157) hx hb d_VA_checkVariable_148 (by decide) (fun c148 => ?_) (fun c148 => ?_)
                      · have q148 := neI c148
                        have hP9 := hP.sb (wq := (wz_75 h0 aw ac j133_h0_sound h0_function ty j133_h0_height bo bg bh bd h0_depth aw law ac cfi clk clt ac_length cop cva cpt cel ac_labelCount cla ty cty gty bh cbh gbh bd cbd gbd waf cwaf gwaf wat cwat gwat wap cwap gwap wgt cwgt gwgt wgc cwgc gwgc clk cclk gclk clt cclt gclt)) [0, 1, 2, 3, 4, 5, 6, 7, 8, 9, 10, 11, 12] rfl
                        have hD9 := hD.sb (wq := (wz_75 h0 aw ac j133_h0_sound h0_function ty j133_h0_height bo bg bh bd h0_depth aw law ac cfi clk clt ac_length cop cva cpt cel ac_labelCount cla ty cty gty bh cbh gbh bd cbd gbd waf cwaf gwaf wat cwat gwat wap cwap gwap wgt cwgt gwgt wgc cwgc gwgc clk cclk gclk clt cclt gclt)) [0, 1, 2, 3, 4, 5, 6, 7, 8, 9, 10, 11, 12] (by decide) rfl
                        exact W.vret hx hb hr (fun t ht hW => ⟨⟨(gty, j133_h0_height, j133_h0_sound), rfl, ⟨b_gty, b_j133_h0_height, b_j133_h0_sound, by (try dsimp only) <;> (first | (apply Int.le_antisymm <;> omega) | omega)⟩, va_P.he ht.symm hP9, va_K.moved hW.alike hK, hD9⟩, hS.F ht⟩) hS.2.2 d_VA_checkVariable_157
                      · have q148 := eqI c148
                        exact jn151 () _ _ _ ⟨by (try dsimp only) <;> (first | (apply Int.le_antisymm <;> omega) | omega), hP, hD, hS, lv_sub hl [0, 2] rfl⟩
              · skip
                refine w_cut (pc2 := 127) (σ := Unit) (fun u H locs ls => match u with | _ => (p0.toInt = 33 ∨ p0.toInt = 34 ∨ p0.toInt = 36) ∧ va_P (dC, dI) cls (wz_75 h0 aw ac h0_sound h0_function ty h0_height bo bg bh bd h0_depth aw law ac cfi clk clt ac_length cop cva cpt cel ac_labelCount cla ty cty gty bh cbh gbh bd cbd gbd waf cwaf gwaf wat cwat gwat wap cwap gwap wgt cwgt gwgt wgc cwgc gwgc clk cclk gclk clt cclt gclt) H ∧ va_D A (wz_75 h0 aw ac h0_sound h0_function ty h0_height bo bg bh bd h0_depth aw law ac cfi clk clt ac_length cop cva cpt cel ac_labelCount cla ty cty gty bh cbh gbh bd cbd gbd waf cwaf gwaf wat cwat gwat wap cwap gwap wgt cwgt gwgt wgc cwgc gwgc clk cclk gclk clt cclt gclt) ∧ va_S A s.heap H locs ∧ lv_has ls 5 [(0, .ref h0), (1, .int p0), (4, .int j78_s0)]) (fun u => match u with | _ => []) ?_ (fun jn127 => ?_)
                · intro u H locs ls hI
                  obtain ⟨y127, hP, hD, hS, hl⟩ := hI
                  refine lv_aload_n hx hb d_VA_checkVariable_127 rfl (lv_at hl 0 rfl) ?_
                  refine lv_iload hx hb d_VA_checkVariable_128 (lv_at hl 2 rfl) ?_
                  have hPc := hP.sb (wq := (wz_65 h0 aw ac h0_sound h0_function ty h0_height bo bg bh bd h0_depth ty cty gty bh cbh gbh bd cbd gbd)) [0, 3, 4, 5] rfl
                  have hDc := hD.sb (wq := (wz_65 h0 aw ac h0_sound h0_function ty h0_height bo bg bh bd h0_depth ty cty gty bh cbh gbh bd cbd gbd)) [0, 3, 4, 5] (by decide) rfl
                  have hKc := hK.sb (tyq := [(cty, .int), (cbh, .int), (cbd, .boolean)]) [0, 1, 2] rfl
                  have hFc := va_free (wc := (wz_65 h0 aw ac h0_sound h0_function ty h0_height bo bg bh bd h0_depth ty cty gty bh cbh gbh bd cbd gbd)) hD hS hA [0, 3, 4, 5] rfl
                  refine va_callv (va_runV (As := [.int j78_s0]) (rest := []) ⟨hx, hb, hml, hown, hts⟩ (c_VA_pop l dC dI H.size h0 aw ac ty bo bg bh bd cty cbh cbd h0_sound h0_function h0_height h0_depth gty gbh gbd (b_h0_sound) (b_h0_height) (b_h0_depth) (b_gty) (b_gbh) j78_s0 (by (try dsimp only) <;> (first | (apply Int.le_antisymm <;> omega) | omega)) (by (try dsimp only) <;> (first | (apply Int.le_antisymm <;> omega) | omega))) (cwV 1 hts (gV kM_VA_161 kV_VA_pop kS_VA_pop kI_VA kC_VA_pop) rfl rfl rfl (by decide +kernel) ⟨Nat.le_of_ble_eq_true rfl, Nat.le_of_ble_eq_true rfl⟩) ⟨fun a U g mk z => by obtain ⟨z0, z1, zP, zK, zD⟩ := z; exact ⟨z0, z1, zP, va_K.moved (u := U) (U := U.calling g mk a) (Vm.Alike.refl U.vm) zK, zD⟩, va_recv hKc hPc (ci := 9) (q0 := 0) rfl rfl, fun U hU hW => ⟨rfl, by rw [hU], va_P.he hU.symm hPc, va_K.moved hW.alike hKc, hDc.weaken (fun _ _ _ _ => trivial)⟩⟩ rfl rfl hl.1 rfl (lv_room (Nat.le_of_ble_eq_true rfl)) d_VA_checkVariable_130 ⟨(Nat.zero_le _), (Nat.zero_le _)⟩) hS (fun q _ h => hFc q h) hFc (fun u t H1 locs ht hvm hw hB hz1 hk1 hS => ?_)
                  obtain ⟨n5, n6⟩ := u
                  try dsimp only at hw
                  obtain ⟨bn5, bn6, xr4⟩ := hw
                  try clear hw
                  have tn6 := b01 bn6
                  obtain ⟨hP1, hK1, hD1⟩ := hB
                  replace hP1 := va_P.he ht hP1
                  obtain ⟨hP, hD⟩ := va_join (wr := (wz_76 aw law ac cfi clk clt ac_length cop cva cpt cel ac_labelCount cla waf cwaf gwaf wat cwat gwat wap cwap gwap wgt cwgt gwgt wgc cwgc gwgc clk cclk gclk clt cclt gclt)) (w1 := (wz_65 h0 aw ac n6 h0_function ty n5 bo bg bh bd h0_depth ty cty gty bh cbh gbh bd cbd gbd)) hP hD [0, 3, 4, 5] [1, 2, 6, 7, 8, 9, 10, 11, 12] rfl rfl (by decide) (by decide) hk1 hFc hP1 hD1
                  clear hPc hDc hKc hFc hz1 hk1 hP1 hK1 hD1
                  rename Heap => H
                  have hP : va_P (dC, dI) cls (wz_77 aw law ac cfi clk clt ac_length cop cva cpt cel ac_labelCount cla waf cwaf gwaf wat cwat gwat wap cwap gwap wgt cwgt gwgt wgc cwgc gwgc clk cclk gclk clt cclt gclt h0 aw ac n6 h0_function ty n5 bo bg bh bd h0_depth ty cty gty bh cbh gbh bd cbd gbd) H := hP
                  have hD : va_D A (wz_77 aw law ac cfi clk clt ac_length cop cva cpt cel ac_labelCount cla waf cwaf gwaf wat cwat gwat wap cwap gwap wgt cwgt gwgt wgc cwgc gwgc clk cclk gclk clt cclt gclt h0 aw ac n6 h0_function ty n5 bo bg bh bd h0_depth ty cty gty bh cbh gbh bd cbd gbd) := hD
                  exact jn133 (n5, n6) _ _ _ ⟨bn5, bn6, by (try dsimp only) <;> (first | (apply Int.le_antisymm <;> omega) | omega), hP.sub [9, 0, 1, 10, 11, 12, 2, 3, 4, 5, 6, 7, 8] rfl, hD.sub [9, 0, 1, 10, 11, 12, 2, 3, 4, 5, 6, 7, 8] (by decide) rfl, hS, lv_sub hl [0, 1, 2] rfl⟩
                · skip
                  refine lv_icmp_eq (tgt := 127) hx hb d_VA_checkVariable_112 (by decide) (fun c112 => ?_) (fun c112 => ?_)
                  · have q112 := eqI c112
                    exact jn127 () _ _ _ ⟨by (try dsimp only) <;> (first | (apply Int.le_antisymm <;> omega) | omega), hP, hD, hS, lv_sub hl [0, 1, 2] rfl⟩
                  · have q112 := neI c112
                    refine lv_iload_n hx hb d_VA_checkVariable_115 rfl (lv_at hl 1 rfl) ?_
                    refine lv_bipush (v := 34) hx hb d_VA_checkVariable_116 (by decide) ?_
                    refine lv_icmp_eq (tgt := 127) hx hb d_VA_checkVariable_118 (by decide) (fun c118 => ?_) (fun c118 => ?_)
                    · have q118 := eqI c118
                      exact jn127 () _ _ _ ⟨by (try dsimp only) <;> (first | (apply Int.le_antisymm <;> omega) | omega), hP, hD, hS, lv_sub hl [0, 1, 2] rfl⟩
                    · have q118 := neI c118
                      refine lv_iload_n hx hb d_VA_checkVariable_121 rfl (lv_at hl 1 rfl) ?_
                      refine lv_bipush (v := 36) hx hb d_VA_checkVariable_122 (by decide) ?_
                      refine lv_icmp_ne (tgt := 133) hx hb d_VA_checkVariable_124 (by decide) (fun c124 => ?_) (fun c124 => ?_)
                      · have q124 := neI c124
                        exact jn133 (h0_height, h0_sound) _ _ _ ⟨b_h0_height, b_h0_sound, by (try dsimp only) <;> (first | (apply Int.le_antisymm <;> omega) | omega), hP, hD, hS, lv_sub hl [0, 1, 2] rfl⟩
                      · have q124 := eqI c124
                        exact jn127 () _ _ _ ⟨by (try dsimp only) <;> (first | (apply Int.le_antisymm <;> omega) | omega), hP, hD, hS, lv_sub hl [0, 1, 2] rfl⟩
            · skip
              refine lv_icmp_ne (tgt := 109) hx hb d_VA_checkVariable_88 (by decide) (fun c88 => ?_) (fun c88 => ?_)
              · have q88 := neI c88
                exact jn109 () _ _ _ ⟨hP, hD, hS, lv_sub hl [1, 2, 0] rfl⟩
              · have q88 := eqI c88
                refine lv_aload_n hx hb d_VA_checkVariable_91 rfl (lv_at hl 1 rfl) ?_
                refine va_get (D := (dC, dI)) (ci := 9) (v := .ref aw) (C := R_VA) (T := F_VA) (N := 11) hx hb hts i_VA hown hK hP 0 rfl rfl 0 (by decide) (hts _ kF_VA_28) (fun _ h9 => h9) rfl d_VA_checkVariable_92 ?_
                refine va_get (D := (dC, dI)) (ci := 10) (v := .ref wgc) (C := R_WA) (T := F_WA) (N := 21) hx hb hts i_WA hown hK hP 1 rfl rfl 15 (by decide) (hts _ kF_VA_196) (fun _ h9 => h9) paw_15 d_VA_checkVariable_95 ?_
                refine lv_iload_n hx hb d_VA_checkVariable_98 rfl (lv_at hl 3 rfl) ?_
                have g99 : vp_in p1 20 := vp_in_iff.mpr ⟨by (first | (apply Int.le_antisymm <;> omega) | omega), by (first | (apply Int.le_antisymm <;> omega) | omega)⟩
                refine va_zald hx hb hK hP 10 7 rfl rfl g99 d_VA_checkVariable_99 ?_
                refine lv_topi (fun x7 ex7 => ?_)
                refine lv_if_ne (tgt := 109) hx hb d_VA_checkVariable_100 (by decide) (fun c100 => ?_) (fun c100 => ?_)
                · have q100 := neI c100
                  exact jn109 () _ _ _ ⟨hP, hD, hS, lv_sub hl [1, 2, 0] rfl⟩
                · have q100 := eqI c100
                  refine lv_aload_n hx hb d_VA_checkVariable_103 rfl (lv_at hl 1 rfl) ?_
                  refine lv_iconst (v := 0) hx hb d_VA_checkVariable_104 (by decide) ?_
                  refine va_put (D := (dC, dI)) (ci := 9) (v := .int 0) (ty := .boolean) (C := R_VA) (T := F_VA) (N := 11) hx hb hts i_VA t_VA t_VA_ok n_VA hown hK hP hD hS 0 rfl rfl 2 (by decide) (hts _ kF_VA_39) (fun _ h9 => h9) rfl (by decide +kernel) rfl rfl (Nat.le_of_ble_eq_true rfl) d_VA_checkVariable_105 (fun H locs hP hD hS => ?_)
                  have hP9 := hP.sb (wq := (wz_75 h0 aw ac 0 h0_function ty h0_height bo bg bh bd h0_depth aw law ac cfi clk clt ac_length cop cva cpt cel ac_labelCount cla ty cty gty bh cbh gbh bd cbd gbd waf cwaf gwaf wat cwat gwat wap cwap gwap wgt cwgt gwgt wgc cwgc gwgc clk cclk gclk clt cclt gclt)) [0, 1, 2, 3, 4, 5, 6, 7, 8, 9, 10, 11, 12] rfl
                  have hD9 := hD.sb (wq := (wz_75 h0 aw ac 0 h0_function ty h0_height bo bg bh bd h0_depth aw law ac cfi clk clt ac_length cop cva cpt cel ac_labelCount cla ty cty gty bh cbh gbh bd cbd gbd waf cwaf gwaf wat cwat gwat wap cwap gwap wgt cwgt gwgt wgc cwgc gwgc clk cclk gclk clt cclt gclt)) [0, 1, 2, 3, 4, 5, 6, 7, 8, 9, 10, 11, 12] (by decide) rfl
                  exact W.vret hx hb hr (fun t ht hW => ⟨⟨(gty, h0_height, 0), rfl, ⟨b_gty, b_h0_height, Or.inl rfl, by (try dsimp only) <;> (first | (apply Int.le_antisymm <;> omega) | omega)⟩, va_P.he ht.symm hP9, va_K.moved hW.alike hK, hD9⟩, hS.F ht⟩) hS.2.2 d_VA_checkVariable_108
        · skip
          refine lv_if_ne (tgt := 54) hx hb d_VA_checkVariable_36 (by decide) (fun c36 => ?_) (fun c36 => ?_)
          · have q36 := neI c36
            refine lv_iload_n hx hb d_VA_checkVariable_54 rfl (lv_at hl 3 rfl) ?_
            refine lv_aload_n hx hb d_VA_checkVariable_55 rfl (lv_at hl 1 rfl) ?_
            refine va_get (D := (dC, dI)) (ci := 9) (v := .ref aw) (C := R_VA) (T := F_VA) (N := 11) hx hb hts i_VA hown hK hP 0 rfl rfl 0 (by decide) (hts _ kF_VA_28) (fun _ h9 => h9) rfl d_VA_checkVariable_56 ?_
            refine va_get (D := (dC, dI)) (ci := 10) (v := .int aw_globalCount) (C := R_WA) (T := F_WA) (N := 21) hx hb hts i_WA hown hK hP 1 rfl rfl 11 (by decide) (hts _ kF_VA_63) (fun _ h9 => h9) paw_11 d_VA_checkVariable_59 ?_
            refine lv_icmp_ge (tgt := 77) hx hb d_VA_checkVariable_62 (by decide) (fun c62 => ?_) (fun c62 => ?_)
            · have q62 := leI c62
              refine lv_iconst (v := 0) hx hb d_VA_checkVariable_77 (by decide) ?_
              exact jn78 0 _ _ _ ⟨by (try dsimp only) <;> (first | (apply Int.le_antisymm <;> omega) | omega), hP, hD, hS, lv_sub hl [1, 2, 3] rfl⟩
            · have q62 := nleI c62
              refine lv_aload_n hx hb d_VA_checkVariable_65 rfl (lv_at hl 1 rfl) ?_
              refine va_get (D := (dC, dI)) (ci := 9) (v := .ref aw) (C := R_VA) (T := F_VA) (N := 11) hx hb hts i_VA hown hK hP 0 rfl rfl 0 (by decide) (hts _ kF_VA_28) (fun _ h9 => h9) rfl d_VA_checkVariable_66 ?_
              refine va_get (D := (dC, dI)) (ci := 10) (v := .ref wgt) (C := R_WA) (T := F_WA) (N := 21) hx hb hts i_WA hown hK hP 1 rfl rfl 12 (by decide) (hts _ kF_VA_66) (fun _ h9 => h9) paw_12 d_VA_checkVariable_69 ?_
              refine lv_iload_n hx hb d_VA_checkVariable_72 rfl (lv_at hl 3 rfl) ?_
              have g73 : vp_in p1 20 := vp_in_iff.mpr ⟨by (first | (apply Int.le_antisymm <;> omega) | omega), by (first | (apply Int.le_antisymm <;> omega) | omega)⟩
              refine va_iald hx hb hK hP 9 6 rfl rfl g73 d_VA_checkVariable_73 ?_
              refine lv_topi (fun x8 ex8 => ?_)
              have tx8 := hrg p1.toNatClampNeg (by have := i32_clamp (x := p1) (by (first | (apply Int.le_antisymm <;> omega) | omega)); (first | (apply Int.le_antisymm <;> omega) | omega))
              rw [← ex8] at tx8
              refine lv_goto (tgt := 78) hx hb d_VA_checkVariable_74 (by decide) ?_
              exact jn78 x8 _ _ _ ⟨by (try dsimp only) <;> (first | (apply Int.le_antisymm <;> omega) | omega), hP, hD, hS, lv_sub hl [1, 2, 3] rfl⟩
          · have q36 := eqI c36
            refine lv_aload_n hx hb d_VA_checkVariable_39 rfl (lv_at hl 1 rfl) ?_
            refine va_get (D := (dC, dI)) (ci := 9) (v := .ref aw) (C := R_VA) (T := F_VA) (N := 11) hx hb hts i_VA hown hK hP 0 rfl rfl 0 (by decide) (hts _ kF_VA_28) (fun _ h9 => h9) rfl d_VA_checkVariable_40 ?_
            refine lv_aload_n hx hb d_VA_checkVariable_43 rfl (lv_at hl 1 rfl) ?_
            refine va_get (D := (dC, dI)) (ci := 9) (v := .int h0_function) (C := R_VA) (T := F_VA) (N := 11) hx hb hts i_VA hown hK hP 0 rfl rfl 3 (by decide) (hts _ kF_VA_111) (fun _ h9 => h9) rfl d_VA_checkVariable_44 ?_
            refine lv_iload_n hx hb d_VA_checkVariable_47 rfl (lv_at hl 3 rfl) ?_
            have hPc := hP.sb (wq := (wz_32 aw law ac cfi clk clt ac_length cop cva cpt cel ac_labelCount cla waf cwaf gwaf wat cwat gwat wap cwap gwap clk cclk gclk clt cclt gclt)) [1, 2, 6, 7, 8, 11, 12] rfl
            have hDc := hD.sb (wq := (wz_32 aw law ac cfi clk clt ac_length cop cva cpt cel ac_labelCount cla waf cwaf gwaf wat cwat gwat wap cwap gwap clk cclk gclk clt cclt gclt)) [1, 2, 6, 7, 8, 11, 12] (by decide) rfl
            have hKc := hK.sb (tyq := [(cwaf, .int), (cwat, .int), (cwap, .int), (cclk, .int), (cclt, .int)]) [3, 4, 5, 8, 9] rfl
            have hFc := va_free (wc := (wz_32 aw law ac cfi clk clt ac_length cop cva cpt cel ac_labelCount cla waf cwaf gwaf wat cwat gwat wap cwap gwap clk cclk gclk clt cclt gclt)) hD hS hA [1, 2, 6, 7, 8, 11, 12] rfl
            refine va_calli (va_runV (As := [.int h0_function, .int p1]) (rest := []) ⟨hx, hb, hml, hown, hts⟩ (c_WA_localTypex l dC dI H.size aw ac wat wap waf cfi clk clt cop cva cpt cel cla cwaf cwat cwap cclk cclt law ac_length ac_labelCount gwaf gwat gwap gclk gclt paw_1 paw_3 paw_4 paw_7 plaw h0_function p1 (by (try dsimp only) <;> (first | (apply Int.le_antisymm <;> omega) | omega)) (w8) (w7)) (cwV 2 hts (gV kM_VA_185 kV_WA_localType kS_WA_localType kI_WA kC_WA_localType) rfl rfl rfl (by decide +kernel) ⟨Nat.le_of_ble_eq_true rfl, Nat.le_of_ble_eq_true rfl⟩) ⟨fun a U g mk z => by obtain ⟨z0, z1, zP, zK, zD⟩ := z; exact ⟨z0, z1, zP, va_K.moved (u := U) (U := U.calling g mk a) (Vm.Alike.refl U.vm) zK, zD⟩, va_recv hKc hPc (ci := 10) (q0 := 0) rfl rfl, fun U hU hW => ⟨rfl, by rw [hU], va_P.he hU.symm hPc, va_K.moved hW.alike hKc, hDc.weaken (fun _ _ _ _ => trivial)⟩⟩ rfl rfl hl.1 rfl (lv_room (Nat.le_of_ble_eq_true rfl)) d_VA_checkVariable_48 ⟨(Nat.zero_le _), (Nat.zero_le _)⟩) hS (fun q _ h => hFc q h) hFc (fun r9 u t H1 locs ht hvm hw hB hz1 hk1 hS => ?_)
            try dsimp only at hw
            have xr9 := hw
            try clear hw
            have l48 := vw_loc w9 (by (first | (apply Int.le_antisymm <;> omega) | omega)) xr9
            clear xr9
            obtain ⟨hP1, hK1, hD1⟩ := hB
            replace hP1 := va_P.he ht hP1
            obtain ⟨hP, hD⟩ := va_join (wr := [(h0, .inr (9, [.ref aw, .ref ac, .int h0_sound, .int h0_function, .ref ty, .int h0_height, .ref bo, .ref bg, .ref bh, .ref bd, .int h0_depth])), (ty, .inl (cty, 5000, .inl gty)), (bh, .inl (cbh, 101, .inl gbh)), (bd, .inl (cbd, 101, .inl gbd)), (wgt, .inl (cwgt, 20, .inl gwgt)), (wgc, .inl (cwgc, 20, .inl gwgc))]) (w1 := (wz_32 aw law ac cfi clk clt ac_length cop cva cpt cel ac_labelCount cla waf cwaf gwaf wat cwat gwat wap cwap gwap clk cclk gclk clt cclt gclt)) hP hD [1, 2, 6, 7, 8, 11, 12] [0, 3, 4, 5, 9, 10] rfl rfl (by decide) (by decide) hk1 hFc hP1 hD1
            clear hPc hDc hKc hFc hz1 hk1 hP1 hK1 hD1
            rename Heap => H
            have hP : va_P (dC, dI) cls [(h0, .inr (9, [.ref aw, .ref ac, .int h0_sound, .int h0_function, .ref ty, .int h0_height, .ref bo, .ref bg, .ref bh, .ref bd, .int h0_depth])), (ty, .inl (cty, 5000, .inl gty)), (bh, .inl (cbh, 101, .inl gbh)), (bd, .inl (cbd, 101, .inl gbd)), (wgt, .inl (cwgt, 20, .inl gwgt)), (wgc, .inl (cwgc, 20, .inl gwgc)), (aw, .inr (10, law)), (ac, .inr (3, [.ref cfi, .ref clk, .ref clt, .int ac_length, .ref cop, .ref cva, .ref cpt, .ref cel, .int ac_labelCount, .ref cla])), (waf, .inl (cwaf, 30, .inl gwaf)), (wat, .inl (cwat, 20, .inl gwat)), (wap, .inl (cwap, 160, .inl gwap)), (clk, .inl (cclk, 30, .inl gclk)), (clt, .inl (cclt, 1800, .inl gclt))] H := hP
            have hD : va_D A [(h0, .inr (9, [.ref aw, .ref ac, .int h0_sound, .int h0_function, .ref ty, .int h0_height, .ref bo, .ref bg, .ref bh, .ref bd, .int h0_depth])), (ty, .inl (cty, 5000, .inl gty)), (bh, .inl (cbh, 101, .inl gbh)), (bd, .inl (cbd, 101, .inl gbd)), (wgt, .inl (cwgt, 20, .inl gwgt)), (wgc, .inl (cwgc, 20, .inl gwgc)), (aw, .inr (10, law)), (ac, .inr (3, [.ref cfi, .ref clk, .ref clt, .int ac_length, .ref cop, .ref cva, .ref cpt, .ref cel, .int ac_labelCount, .ref cla])), (waf, .inl (cwaf, 30, .inl gwaf)), (wat, .inl (cwat, 20, .inl gwat)), (wap, .inl (cwap, 160, .inl gwap)), (clk, .inl (cclk, 30, .inl gclk)), (clt, .inl (cclt, 1800, .inl gclt))] := hD
            refine lv_goto (tgt := 78) hx hb d_VA_checkVariable_51 (by decide) ?_
            exact jn78 r9 _ _ _ ⟨by (try dsimp only) <;> (first | (apply Int.le_antisymm <;> omega) | omega), hP.sub [0, 6, 7, 1, 2, 3, 8, 9, 10, 4, 5, 11, 12] rfl, hD.sub [0, 6, 7, 1, 2, 3, 8, 9, 10, 4, 5, 11, 12] (by decide) rfl, hS, lv_sub hl [1, 2, 3] rfl⟩
      · skip
        refine lv_icmp_lt (tgt := 33) hx hb d_VA_checkVariable_26 (by decide) (fun c26 => ?_) (fun c26 => ?_)
        · have q26 := ltI c26
          refine lv_iconst (v := 0) hx hb d_VA_checkVariable_33 (by decide) ?_
          exact jn34 0 _ _ _ ⟨Or.inl rfl, by (try dsimp only) <;> (first | (apply Int.le_antisymm <;> omega) | omega), hP, hD, hS, lv_sub hl [0, 1, 2] rfl⟩
        · have q26 := nltI c26
          refine lv_iconst (v := 1) hx hb d_VA_checkVariable_29 (by decide) ?_
          refine lv_goto (tgt := 34) hx hb d_VA_checkVariable_30 (by decide) ?_
          exact jn34 1 _ _ _ ⟨Or.inr rfl, by (try dsimp only) <;> (first | (apply Int.le_antisymm <;> omega) | omega), hP, hD, hS, lv_sub hl [0, 1, 2] rfl⟩
    · have q15 := eqI c15
      refine lv_aload_n hx hb d_VA_checkVariable_18 rfl (lv_at hl 0 rfl) ?_
      have hPc := hP.sb (wq := (wz_65 h0 aw ac h0_sound h0_function ty h0_height bo bg bh bd h0_depth ty cty gty bh cbh gbh bd cbd gbd)) [0, 3, 4, 5] rfl
      have hDc := hD.sb (wq := (wz_65 h0 aw ac h0_sound h0_function ty h0_height bo bg bh bd h0_depth ty cty gty bh cbh gbh bd cbd gbd)) [0, 3, 4, 5] (by decide) rfl
      have hKc := hK.sb (tyq := [(cty, .int), (cbh, .int), (cbd, .boolean)]) [0, 1, 2] rfl
      have hFc := va_free (wc := (wz_65 h0 aw ac h0_sound h0_function ty h0_height bo bg bh bd h0_depth ty cty gty bh cbh gbh bd cbd gbd)) hD hS hA [0, 3, 4, 5] rfl
      refine va_callv (va_runV (As := []) (rest := []) ⟨hx, hb, hml, hown, hts⟩ (c_VA_checkSelect l dC dI H.size h0 aw ac ty bo bg bh bd cty cbh cbd h0_sound h0_function h0_height h0_depth gty gbh gbd (b_h0_sound) (b_h0_height) (b_h0_depth) (b_gty) (b_gbh) (by (try dsimp only) <;> (first | (apply Int.le_antisymm <;> omega) | omega)) (by (try dsimp only) <;> (first | (apply Int.le_antisymm <;> omega) | omega)) (by (try dsimp only) <;> (first | (apply Int.le_antisymm <;> omega) | omega))) (cwV 0 hts (gV kM_VA_193 kV_VA_checkSelect kS_VA_checkSelect kI_VA kC_VA_checkSelect) rfl rfl rfl (by decide +kernel) ⟨Nat.le_of_ble_eq_true rfl, Nat.le_of_ble_eq_true rfl⟩) ⟨fun a U g mk z => by obtain ⟨z0, z1, zP, zK, zD⟩ := z; exact ⟨z0, z1, zP, va_K.moved (u := U) (U := U.calling g mk a) (Vm.Alike.refl U.vm) zK, zD⟩, va_recv hKc hPc (ci := 9) (q0 := 0) rfl rfl, fun U hU hW => ⟨rfl, by rw [hU], va_P.he hU.symm hPc, va_K.moved hW.alike hKc, hDc.weaken (fun _ _ _ _ => trivial)⟩⟩ rfl rfl hl.1 rfl (lv_room (Nat.le_of_ble_eq_true rfl)) d_VA_checkVariable_19 ⟨(Nat.zero_le _), (Nat.zero_le _)⟩) hS (fun q _ h => hFc q h) hFc (fun u t H1 locs ht hvm hw hB hz1 hk1 hS => ?_)
      obtain ⟨n11, n12, n13⟩ := u
      try dsimp only at hw
      obtain ⟨bn11, bn12, bn13, xr10⟩ := hw
      try clear hw
      have tn13 := b01 bn13
      obtain ⟨hP1, hK1, hD1⟩ := hB
      replace hP1 := va_P.he ht hP1
      obtain ⟨hP, hD⟩ := va_join (wr := (wz_76 aw law ac cfi clk clt ac_length cop cva cpt cel ac_labelCount cla waf cwaf gwaf wat cwat gwat wap cwap gwap wgt cwgt gwgt wgc cwgc gwgc clk cclk gclk clt cclt gclt)) (w1 := (wz_65 h0 aw ac n13 h0_function ty n12 bo bg bh bd h0_depth ty cty n11 bh cbh gbh bd cbd gbd)) hP hD [0, 3, 4, 5] [1, 2, 6, 7, 8, 9, 10, 11, 12] rfl rfl (by decide) (by decide) hk1 hFc hP1 hD1
      clear hPc hDc hKc hFc hz1 hk1 hP1 hK1 hD1
      rename Heap => H
      have hP : va_P (dC, dI) cls (wz_77 aw law ac cfi clk clt ac_length cop cva cpt cel ac_labelCount cla waf cwaf gwaf wat cwat gwat wap cwap gwap wgt cwgt gwgt wgc cwgc gwgc clk cclk gclk clt cclt gclt h0 aw ac n13 h0_function ty n12 bo bg bh bd h0_depth ty cty n11 bh cbh gbh bd cbd gbd) H := hP
      have hD : va_D A (wz_77 aw law ac cfi clk clt ac_length cop cva cpt cel ac_labelCount cla waf cwaf gwaf wat cwat gwat wap cwap gwap wgt cwgt gwgt wgc cwgc gwgc clk cclk gclk clt cclt gclt h0 aw ac n13 h0_function ty n12 bo bg bh bd h0_depth ty cty n11 bh cbh gbh bd cbd gbd) := hD
      have hP9 := hP.sb (wq := (wz_75 h0 aw ac n13 h0_function ty n12 bo bg bh bd h0_depth aw law ac cfi clk clt ac_length cop cva cpt cel ac_labelCount cla ty cty n11 bh cbh gbh bd cbd gbd waf cwaf gwaf wat cwat gwat wap cwap gwap wgt cwgt gwgt wgc cwgc gwgc clk cclk gclk clt cclt gclt)) [9, 0, 1, 10, 11, 12, 2, 3, 4, 5, 6, 7, 8] rfl
      have hD9 := hD.sb (wq := (wz_75 h0 aw ac n13 h0_function ty n12 bo bg bh bd h0_depth aw law ac cfi clk clt ac_length cop cva cpt cel ac_labelCount cla ty cty n11 bh cbh gbh bd cbd gbd waf cwaf gwaf wat cwat gwat wap cwap gwap wgt cwgt gwgt wgc cwgc gwgc clk cclk gclk clt cclt gclt)) [9, 0, 1, 10, 11, 12, 2, 3, 4, 5, 6, 7, 8] (by decide) rfl
      exact W.vret hx hb hr (fun t ht hW => ⟨⟨(n11, n12, n13), rfl, ⟨bn11, bn12, bn13, by (try dsimp only) <;> (first | (apply Int.le_antisymm <;> omega) | omega)⟩, va_P.he ht.symm hP9, va_K.moved hW.alike hK, hD9⟩, hS.F ht⟩) hS.2.2 d_VA_checkVariable_22
  · have q3 := eqI c3
    refine lv_aload_n hx hb d_VA_checkVariable_6 rfl (lv_at hl 0 rfl) ?_
    have hPc := hP.sb (wq := (wz_65 h0 aw ac h0_sound h0_function ty h0_height bo bg bh bd h0_depth ty cty gty bh cbh gbh bd cbd gbd)) [0, 3, 4, 5] rfl
    have hDc := hD.sb (wq := (wz_65 h0 aw ac h0_sound h0_function ty h0_height bo bg bh bd h0_depth ty cty gty bh cbh gbh bd cbd gbd)) [0, 3, 4, 5] (by decide) rfl
    have hKc := hK.sb (tyq := [(cty, .int), (cbh, .int), (cbd, .boolean)]) [0, 1, 2] rfl
    have hFc := va_free (wc := (wz_65 h0 aw ac h0_sound h0_function ty h0_height bo bg bh bd h0_depth ty cty gty bh cbh gbh bd cbd gbd)) hD hS hA [0, 3, 4, 5] rfl
    refine va_calli (va_runV (As := []) (rest := []) ⟨hx, hb, hml, hown, hts⟩ (c_VA_popAny l dC dI H.size h0 aw ac ty bo bg bh bd cty cbh cbd h0_sound h0_function h0_height h0_depth gty gbh gbd (b_h0_sound) (b_h0_height) (b_h0_depth) (b_gty) (b_gbh) (by (try dsimp only) <;> (first | (apply Int.le_antisymm <;> omega) | omega)) (by (try dsimp only) <;> (first | (apply Int.le_antisymm <;> omega) | omega))) (cwV 0 hts (gV kM_VA_189 kV_VA_popAny kS_VA_popAny kI_VA kC_VA_popAny) rfl rfl rfl (by decide +kernel) ⟨Nat.le_of_ble_eq_true rfl, Nat.le_of_ble_eq_true rfl⟩) ⟨fun a U g mk z => by obtain ⟨z0, z1, zP, zK, zD⟩ := z; exact ⟨z0, z1, zP, va_K.moved (u := U) (U := U.calling g mk a) (Vm.Alike.refl U.vm) zK, zD⟩, va_recv hKc hPc (ci := 9) (q0 := 0) rfl rfl, fun U hU hW => ⟨rfl, by rw [hU], va_P.he hU.symm hPc, va_K.moved hW.alike hKc, hDc.weaken (fun _ _ _ _ => trivial)⟩⟩ rfl rfl hl.1 rfl (lv_room (Nat.le_of_ble_eq_true rfl)) d_VA_checkVariable_7 ⟨(Nat.zero_le _), (Nat.zero_le _)⟩) hS (fun q _ h => hFc q h) hFc (fun r14 u t H1 locs ht hvm hw hB hz1 hk1 hS => ?_)
    obtain ⟨n15, n16⟩ := u
    try dsimp only at hw
    obtain ⟨bn15, bn16, xr14⟩ := hw
    try clear hw
    have tn16 := b01 bn16
    obtain ⟨hP1, hK1, hD1⟩ := hB
    replace hP1 := va_P.he ht hP1
    obtain ⟨hP, hD⟩ := va_join (wr := (wz_76 aw law ac cfi clk clt ac_length cop cva cpt cel ac_labelCount cla waf cwaf gwaf wat cwat gwat wap cwap gwap wgt cwgt gwgt wgc cwgc gwgc clk cclk gclk clt cclt gclt)) (w1 := (wz_65 h0 aw ac n16 h0_function ty n15 bo bg bh bd h0_depth ty cty gty bh cbh gbh bd cbd gbd)) hP hD [0, 3, 4, 5] [1, 2, 6, 7, 8, 9, 10, 11, 12] rfl rfl (by decide) (by decide) hk1 hFc hP1 hD1
    clear hPc hDc hKc hFc hz1 hk1 hP1 hK1 hD1
    rename Heap => H
    have hP : va_P (dC, dI) cls (wz_77 aw law ac cfi clk clt ac_length cop cva cpt cel ac_labelCount cla waf cwaf gwaf wat cwat gwat wap cwap gwap wgt cwgt gwgt wgc cwgc gwgc clk cclk gclk clt cclt gclt h0 aw ac n16 h0_function ty n15 bo bg bh bd h0_depth ty cty gty bh cbh gbh bd cbd gbd) H := hP
    have hD : va_D A (wz_77 aw law ac cfi clk clt ac_length cop cva cpt cel ac_labelCount cla waf cwaf gwaf wat cwat gwat wap cwap gwap wgt cwgt gwgt wgc cwgc gwgc clk cclk gclk clt cclt gclt h0 aw ac n16 h0_function ty n15 bo bg bh bd h0_depth ty cty gty bh cbh gbh bd cbd gbd) := hD
    refine lv_pop hx hb d_VA_checkVariable_10 rfl ?_
    have hP9 := hP.sb (wq := (wz_75 h0 aw ac n16 h0_function ty n15 bo bg bh bd h0_depth aw law ac cfi clk clt ac_length cop cva cpt cel ac_labelCount cla ty cty gty bh cbh gbh bd cbd gbd waf cwaf gwaf wat cwat gwat wap cwap gwap wgt cwgt gwgt wgc cwgc gwgc clk cclk gclk clt cclt gclt)) [9, 0, 1, 10, 11, 12, 2, 3, 4, 5, 6, 7, 8] rfl
    have hD9 := hD.sb (wq := (wz_75 h0 aw ac n16 h0_function ty n15 bo bg bh bd h0_depth aw law ac cfi clk clt ac_length cop cva cpt cel ac_labelCount cla ty cty gty bh cbh gbh bd cbd gbd waf cwaf gwaf wat cwat gwat wap cwap gwap wgt cwgt gwgt wgc cwgc gwgc clk cclk gclk clt cclt gclt)) [9, 0, 1, 10, 11, 12, 2, 3, 4, 5, 6, 7, 8] (by decide) rfl
    exact W.vret hx hb hr (fun t ht hW => ⟨⟨(gty, n15, n16), rfl, ⟨b_gty, bn15, bn16, by (try dsimp only) <;> (first | (apply Int.le_antisymm <;> omega) | omega)⟩, va_P.he ht.symm hP9, va_K.moved hW.alike hK, hD9⟩, hS.F ht⟩) hS.2.2 d_VA_checkVariable_11
abbrev b_VA_checkCall : ByteArray := prog_12_method_9_code
def y_VA_checkCall : MethodName := ⟨R_VA, "checkCall", "(I)V"⟩
abbrev w_VA_checkCall : List Cond := .code y_VA_checkCall b_VA_checkCall 3 none :: lw_g
theorem kC_VA_checkCall : Cond.code y_VA_checkCall b_VA_checkCall 3 none ∈ lw_g := in_c7 15 rfl rfl
theorem d_VA_checkCall_0 : decode b_VA_checkCall 0 = .ok (.iload_n 1, 1) := bz_c27 (by decide +kernel)
theorem d_VA_checkCall_1 : decode b_VA_checkCall 1 = .ok (.aload_n 0, 1) := bz_c42 (by decide +kernel)
theorem d_VA_checkCall_2 : decode b_VA_checkCall 2 = .ok (.getfield 28, 3) := bz_c180 (by decide +kernel)
theorem d_VA_checkCall_5 : decode b_VA_checkCall 5 = .ok (.getfield 49, 3) := bz_c180 (by decide +kernel)
theorem d_VA_checkCall_8 : decode b_VA_checkCall 8 = .ok (.if_icmp .lt 9, 3) := bz_c161 (by decide +kernel)
theorem d_VA_checkCall_11 : decode b_VA_checkCall 11 = .ok (.aload_n 0, 1) := bz_c42 (by decide +kernel)
theorem d_VA_checkCall_12 : decode b_VA_checkCall 12 = .ok (.iconst 0, 1) := bz_c3 (by decide +kernel)
theorem d_VA_checkCall_13 : decode b_VA_checkCall 13 = .ok (.putfield 39, 3) := bz_c181 (by decide +kernel)
theorem d_VA_checkCall_16 : decode b_VA_checkCall 16 = .ok (.return_, 1) := bz_c177 (by decide +kernel)
theorem d_VA_checkCall_17 : decode b_VA_checkCall 17 = .ok (.aload_n 0, 1) := bz_c42 (by decide +kernel)
theorem d_VA_checkCall_18 : decode b_VA_checkCall 18 = .ok (.getfield 28, 3) := bz_c180 (by decide +kernel)
theorem d_VA_checkCall_21 : decode b_VA_checkCall 21 = .ok (.iload_n 1, 1) := bz_c27 (by decide +kernel)
theorem d_VA_checkCall_22 : decode b_VA_checkCall 22 = .ok (.invokevirtual 182, 3) := bz_c182 (by decide +kernel)
theorem d_VA_checkCall_25 : decode b_VA_checkCall 25 = .ok (.iconst 1, 1) := bz_c4 (by decide +kernel)
theorem d_VA_checkCall_26 : decode b_VA_checkCall 26 = .ok (.isub, 1) := bz_c100 (by decide +kernel)
theorem d_VA_checkCall_27 : decode b_VA_checkCall 27 = .ok (.istore_n 2, 1) := bz_c61 (by decide +kernel)
theorem d_VA_checkCall_28 : decode b_VA_checkCall 28 = .ok (.iload_n 2, 1) := bz_c28 (by decide +kernel)
theorem d_VA_checkCall_29 : decode b_VA_checkCall 29 = .ok (.ifCond .lt 22, 3) := bz_c155 (by decide +kernel)
theorem d_VA_checkCall_32 : decode b_VA_checkCall 32 = .ok (.aload_n 0, 1) := bz_c42 (by decide +kernel)
theorem d_VA_checkCall_33 : decode b_VA_checkCall 33 = .ok (.aload_n 0, 1) := bz_c42 (by decide +kernel)
theorem d_VA_checkCall_34 : decode b_VA_checkCall 34 = .ok (.getfield 28, 3) := bz_c180 (by decide +kernel)
theorem d_VA_checkCall_37 : decode b_VA_checkCall 37 = .ok (.iload_n 1, 1) := bz_c27 (by decide +kernel)
theorem d_VA_checkCall_38 : decode b_VA_checkCall 38 = .ok (.iload_n 2, 1) := bz_c28 (by decide +kernel)
theorem d_VA_checkCall_39 : decode b_VA_checkCall 39 = .ok (.invokevirtual 185, 3) := bz_c182 (by decide +kernel)
theorem d_VA_checkCall_42 : decode b_VA_checkCall 42 = .ok (.invokevirtual 161, 3) := bz_c182 (by decide +kernel)
theorem d_VA_checkCall_45 : decode b_VA_checkCall 45 = .ok (.iinc 2 (-1), 3) := by decide +kernel
theorem d_VA_checkCall_48 : decode b_VA_checkCall 48 = .ok (.goto (-20), 3) := bz_c167 (by decide +kernel)
theorem d_VA_checkCall_51 : decode b_VA_checkCall 51 = .ok (.aload_n 0, 1) := bz_c42 (by decide +kernel)
theorem d_VA_checkCall_52 : decode b_VA_checkCall 52 = .ok (.aload_n 0, 1) := bz_c42 (by decide +kernel)
theorem d_VA_checkCall_53 : decode b_VA_checkCall 53 = .ok (.getfield 28, 3) := bz_c180 (by decide +kernel)
theorem d_VA_checkCall_56 : decode b_VA_checkCall 56 = .ok (.iload_n 1, 1) := bz_c27 (by decide +kernel)
theorem d_VA_checkCall_57 : decode b_VA_checkCall 57 = .ok (.invokevirtual 120, 3) := bz_c182 (by decide +kernel)
theorem d_VA_checkCall_60 : decode b_VA_checkCall 60 = .ok (.invokevirtual 167, 3) := bz_c182 (by decide +kernel)
theorem d_VA_checkCall_63 : decode b_VA_checkCall 63 = .ok (.return_, 1) := bz_c177 (by decide +kernel)
theorem kM_VA_182 : Cond.methodLink R_VA 182 y_WA_takes ∈ lw_g := in_c7 16 rfl rfl
theorem kM_VA_120 : Cond.methodLink R_VA 120 y_WA_gives ∈ lw_g := in_c6 208 rfl rfl
theorem kF_VA_49 : Cond.fieldLink R_VA 49 "WaferForge$Wafer" "functionCount" "I" ∈ lw_g := in_c1 159 rfl rfl
abbrev at_VA_checkCall (dC : Nat → ClassId) (dI : Nat → Nat → Nat) (h0 aw ac ty bo bg bh bd wat wap wag waf cfi clk clt cop cva cpt cel cla : Nat) (cty cbh cbd cwaf cwat cwap cwag cclk cclt : ClassId) (h0_function : Int32) (h0_depth : Int32) (law : List Value) (aw_functionCount : Int32) (ac_length : Int32) (ac_labelCount : Int32) (gbh : Nat → Int32) (gbd : Nat → Int32) (gwaf : Nat → Int32) (gwat : Nat → Int32) (gwap : Nat → Int32) (gwag : Nat → Int32) (gclk : Nat → Int32) (gclt : Nat → Int32) (A : Nat → Prop) (u : (Nat → Int32) × Int32 × Int32) (t : State) : Prop := match u with | (gty, h0_height, h0_sound) => va_P (dC, dI) cls (wz_78 h0 aw ac h0_sound h0_function ty h0_height bo bg bh bd h0_depth aw law ac cfi clk clt ac_length cop cva cpt cel ac_labelCount cla ty cty gty bh cbh gbh bd cbd gbd waf cwaf gwaf wat cwat gwat wap cwap gwap wag cwag gwag clk cclk gclk clt cclt gclt) t.heap ∧ va_K (dC, dI) cls [(cty, .int), (cbh, .int), (cbd, .boolean), (cwaf, .int), (cwat, .int), (cwap, .int), (cwag, .int), (cclk, .int), (cclt, .int)] t ∧ va_D A (wz_78 h0 aw ac h0_sound h0_function ty h0_height bo bg bh bd h0_depth aw law ac cfi clk clt ac_length cop cva cpt cel ac_labelCount cla ty cty gty bh cbh gbh bd cbd gbd waf cwaf gwaf wat cwat gwat wap cwap gwap wag cwag gwag clk cclk gclk clt cclt gclt)
set_option maxHeartbeats 4000000 in
set_option maxRecDepth 100000 in
theorem c_VA_checkCall (l : Launch) (dC : Nat → ClassId) (dI : Nat → Nat → Nat) (sz : Nat) (h0 aw ac ty bo bg bh bd wat wap wag waf cfi clk clt cop cva cpt cel cla : Nat) (cty cbh cbd cwaf cwat cwap cwag cclk cclt : ClassId) (h0_sound : Int32) (h0_function : Int32) (h0_height : Int32) (h0_depth : Int32) (law : List Value) (aw_functionCount : Int32) (ac_length : Int32) (ac_labelCount : Int32) (gty : Nat → Int32) (gbh : Nat → Int32) (gbd : Nat → Int32) (gwaf : Nat → Int32) (gwat : Nat → Int32) (gwap : Nat → Int32) (gwag : Nat → Int32) (gclk : Nat → Int32) (gclt : Nat → Int32) (paw_1 : law[1]? = some (.ref ac)) (paw_3 : law[3]? = some (.ref wat)) (paw_4 : law[4]? = some (.ref wap)) (paw_5 : law[5]? = some (.ref wag)) (paw_6 : law[6]? = some (.int aw_functionCount)) (paw_7 : law[7]? = some (.ref waf)) (plaw : law.length = 21) (b_h0_sound : h0_sound = 0 ∨ h0_sound = 1) (b_h0_height : 0 ≤ h0_height.toInt ∧ h0_height.toInt ≤ 5000) (b_h0_depth : 0 ≤ h0_depth.toInt ∧ h0_depth.toInt ≤ 101) (b_gty : ∀ j : Nat, (gty j).toInt ≠ 64) (b_gbh : ∀ j : Nat, 0 ≤ (gbh j).toInt ∧ (gbh j).toInt ≤ 5000) (b_aw_functionCount : 0 ≤ aw_functionCount.toInt ∧ aw_functionCount.toInt ≤ 30) (p0 : Int32) (ba0 : 0 ≤ p0.toInt ∧ p0.toInt ≤ 2147483647) (hd1 : 1 ≤ h0_depth.toInt) (hbh : (gbh (h0_depth.toInt - 1).toNat).toInt ≤ h0_height.toInt) (hh5 : h0_height.toInt < 5000) (hfc : aw_functionCount.toInt ≤ 30) (hwf : ∀ f : Nat, (f : Int) < aw_functionCount.toInt → vw_fun gwaf gwat gwap gclk gclt f) : Met l y_VA_checkCall w_VA_checkCall ({ frames := 2, cells := 0, slots := 0, locals := 44 }) (va_Pc [.ref h0, .int p0] (fun U => U.heap.size = sz ∧ va_P (dC, dI) cls (wz_78 h0 aw ac h0_sound h0_function ty h0_height bo bg bh bd h0_depth aw law ac cfi clk clt ac_length cop cva cpt cel ac_labelCount cla ty cty gty bh cbh gbh bd cbd gbd waf cwaf gwaf wat cwat gwat wap cwap gwap wag cwag gwag clk cclk gclk clt cclt gclt) U.heap ∧ va_K (dC, dI) cls [(cty, .int), (cbh, .int), (cbd, .boolean), (cwaf, .int), (cwat, .int), (cwap, .int), (cwag, .int), (cclk, .int), (cclt, .int)] U ∧ va_D (fun _ => True) (wz_78 h0 aw ac h0_sound h0_function ty h0_height bo bg bh bd h0_depth aw law ac cfi clk clt ac_length cop cva cpt cel ac_labelCount cla ty cty gty bh cbh gbh bd cbd gbd waf cwaf gwaf wat cwat gwat wap cwap gwap wag cwag gwag clk cclk gclk clt cclt gclt))) (va_Qv (fun (u : (Nat → Int32) × Int32 × Int32) => match u with | (gty2, h0_height2, h0_sound2) => (∀ j : Nat, (gty2 j).toInt ≠ 64) ∧ (0 ≤ h0_height2.toInt ∧ h0_height2.toInt ≤ 5000) ∧ (h0_sound2 = 0 ∨ h0_sound2 = 1) ∧ (((gbh (h0_depth.toInt - 1).toNat).toInt ≤ h0_height2.toInt ∧ h0_height2.toInt ≤ h0_height.toInt + 1) ∧ (h0_sound2.toInt = 1 → h0_sound.toInt = 1 ∧ p0.toInt < aw_functionCount.toInt ∧ ((gbd (h0_depth.toInt - 1).toNat).toInt = 0 → (gbh (h0_depth.toInt - 1).toNat).toInt + (gwat (gwaf p0.toNatClampNeg).toNatClampNeg).toInt ≤ h0_height.toInt ∧ h0_height2.toInt = h0_height.toInt - (gwat (gwaf p0.toNatClampNeg).toNatClampNeg).toInt + (if (gwag (gwaf p0.toNatClampNeg).toNatClampNeg).toInt = 64 then 0 else 1))))) (at_VA_checkCall dC dI h0 aw ac ty bo bg bh bd wat wap wag waf cfi clk clt cop cva cpt cel cla cty cbh cbd cwaf cwat cwap cwag cclk cclt h0_function h0_depth law aw_functionCount ac_length ac_labelCount gbh gbd gwaf gwat gwap gwag gclk gclt (va_A (wz_78 h0 aw ac h0_sound h0_function ty h0_height bo bg bh bd h0_depth aw law ac cfi clk clt ac_length cop cva cpt cel ac_labelCount cla ty cty gty bh cbh gbh bd cbd gbd waf cwaf gwaf wat cwat gwat wap cwap gwap wag cwag gwag clk cclk gclk clt cclt gclt) sz)) (va_A (wz_78 h0 aw ac h0_sound h0_function ty h0_height bo bg bh bd h0_depth aw law ac cfi clk clt ac_length cop cva cpt cel ac_labelCount cla ty cty gty bh cbh gbh bd cbd gbd waf cwaf gwaf wat cwat gwat wap cwap gwap wag cwag gwag clk cclk gclk clt cclt gclt) sz)) 0 0 (va_A (wz_78 h0 aw ac h0_sound h0_function ty h0_height bo bg bh bd h0_depth aw law ac cfi clk clt ac_length cop cva cpt cel ac_labelCount cla ty cty gty bh cbh gbh bd cbd gbd waf cwaf gwaf wat cwat gwat wap cwap gwap wag cwag gwag clk cclk gclk clt cclt gclt) sz) := by
  refine Met.ofW (cc := b_VA_checkCall) (maxL := 3) (ret := none) (by decide) rfl ?_
  intro p e s m args below meth c s₁ B hml hv
  obtain ⟨rfl, hsz, hP, hK, hD0⟩ := hv
  have hx := B.exec
  have hb := B.bytes
  have hr := B.returns
  have hts0 := atoms_spec (ws := w_VA_checkCall) B.pre
  have hts : ∀ w ∈ lw_g, w.before _ s = true := fun w h => hts0 w (List.mem_cons_of_mem _ h)
  have hown : s.vm.findClass R_VA = some m.cls := findClass_of_methodNamed B.named
  have hlocks := B.notSynchronized
  clear hts0
  subst hsz
  have hD := hD0.self (sz := s.heap.size)
  generalize hAe : va_A (wz_78 h0 aw ac h0_sound h0_function ty h0_height bo bg bh bd h0_depth aw law ac cfi clk clt ac_length cop cva cpt cel ac_labelCount cla ty cty gty bh cbh gbh bd cbd gbd waf cwaf gwaf wat cwat gwat wap cwap gwap wag cwag gwag clk cclk gclk clt cclt gclt) s.heap.size = A at hD ⊢
  have hA : ∀ q : Nat, s.heap.size ≤ q → A q := fun q h => by rw [← hAe]; exact Or.inr h
  clear hAe
  have hP : va_P (dC, dI) cls (wz_78 h0 aw ac h0_sound h0_function ty h0_height bo bg bh bd h0_depth aw law ac cfi clk clt ac_length cop cva cpt cel ac_labelCount cla ty cty gty bh cbh gbh bd cbd gbd waf cwaf gwaf wat cwat gwat wap cwap gwap wag cwag gwag clk cclk gclk clt cclt gclt) s.heap := hP
  have hl := lv_entry ([.ref h0, .int p0]) (n := 3) (Nat.le_of_ble_eq_true rfl)
  rw [lg_entry_eq]
  generalize (lg_sl ([.ref h0, .int p0]) ++ List.replicate (3 - (lg_sl ([.ref h0, .int p0])).length) Slot.unset).toArray = ls at hl ⊢
  have hl : lv_has ls 3 [(0, .ref h0), (1, .int p0)] := hl
  have k0 : (0 : Int32).toInt = 0 := by decide
  refine w_gen (A := A) hP (fun H locs hP hS => ?_)
  have km1 : (-1 : Int32).toInt = -1 := by decide
  have k1 : (1 : Int32).toInt = 1 := by decide
  have lo_p0 := i32_lo p0
  have hi_p0 := i32_hi p0
  have th0_sound := b01 b_h0_sound
  have c9 := i32_clamp (x := p0) (by (first | (apply Int.le_antisymm <;> omega) | omega))
  refine lv_iload_n hx hb d_VA_checkCall_0 rfl (lv_at hl 1 rfl) ?_
  refine lv_aload_n hx hb d_VA_checkCall_1 rfl (lv_at hl 0 rfl) ?_
  refine va_get (D := (dC, dI)) (ci := 9) (v := .ref aw) (C := R_VA) (T := F_VA) (N := 11) hx hb hts i_VA hown hK hP 0 rfl rfl 0 (by decide) (hts _ kF_VA_28) (fun _ h9 => h9) rfl d_VA_checkCall_2 ?_
  refine va_get (D := (dC, dI)) (ci := 10) (v := .int aw_functionCount) (C := R_WA) (T := F_WA) (N := 21) hx hb hts i_WA hown hK hP 1 rfl rfl 6 (by decide) (hts _ kF_VA_49) (fun _ h9 => h9) paw_6 d_VA_checkCall_5 ?_
  refine lv_icmp_lt (tgt := 17) hx hb d_VA_checkCall_8 (by decide) (fun c8 => ?_) (fun c8 => ?_)
  · have q8 := ltI c8
    have w9 := hwf p0.toNatClampNeg (by (first | (apply Int.le_antisymm <;> omega) | omega))
    have w8 := w9.1
    have w7 := w9.2.1
    refine lv_aload_n hx hb d_VA_checkCall_17 rfl (lv_at hl 0 rfl) ?_
    refine va_get (D := (dC, dI)) (ci := 9) (v := .ref aw) (C := R_VA) (T := F_VA) (N := 11) hx hb hts i_VA hown hK hP 0 rfl rfl 0 (by decide) (hts _ kF_VA_28) (fun _ h9 => h9) rfl d_VA_checkCall_18 ?_
    refine lv_iload_n hx hb d_VA_checkCall_21 rfl (lv_at hl 1 rfl) ?_
    have hPc := hP.sb (wq := (wz_16 aw law waf cwaf gwaf wat cwat gwat)) [1, 6, 7] rfl
    have hDc := hD.sb (wq := (wz_16 aw law waf cwaf gwaf wat cwat gwat)) [1, 6, 7] (by decide) rfl
    have hKc := hK.sb (tyq := [(cwaf, .int), (cwat, .int)]) [3, 4] rfl
    have hFc := va_free (wc := (wz_16 aw law waf cwaf gwaf wat cwat gwat)) hD hS hA [1, 6, 7] rfl
    refine va_calli (va_runV (As := [.int p0]) (rest := []) ⟨hx, hb, hml, hown, hts⟩ (c_WA_takes l dC dI aw waf wat H.size cwaf cwat gwaf gwat law paw_7 paw_3 plaw p0 (by (first | (apply Int.le_antisymm <;> omega) | omega)) (w8)) (cwV 1 hts (gV kM_VA_182 kV_WA_takes kS_WA_takes kI_WA kC_WA_takes) rfl rfl rfl (by decide +kernel) ⟨Nat.le_of_ble_eq_true rfl, Nat.le_of_ble_eq_true rfl⟩) ⟨fun a U g mk z => by obtain ⟨z0, z1, zP, zK, zD⟩ := z; exact ⟨z0, z1, zP, va_K.moved (u := U) (U := U.calling g mk a) (Vm.Alike.refl U.vm) zK, zD⟩, va_recv hKc hPc (ci := 10) (q0 := 0) rfl rfl, fun U hU hW => ⟨rfl, by rw [hU], va_P.he hU.symm hPc, va_K.moved hW.alike hKc, hDc.weaken (fun _ _ _ _ => trivial)⟩⟩ rfl rfl hl.1 rfl (lv_room (Nat.le_of_ble_eq_true rfl)) d_VA_checkCall_22 ⟨(Nat.zero_le _), (Nat.zero_le _)⟩) hS (fun q _ h => hFc q h) hFc (fun r1 u t H1 locs ht hvm hw hB hz1 hk1 hS => ?_)
    try dsimp only at hw
    have er1 := hw
    try clear hw
    have tr1 : r1.toInt = (gwat (gwaf p0.toNatClampNeg).toNatClampNeg).toInt := by rw [er1]
    obtain ⟨hP1, hK1, hD1⟩ := hB
    replace hP1 := va_P.he ht hP1
    obtain ⟨hP, hD⟩ := va_join (wr := [(h0, .inr (9, [.ref aw, .ref ac, .int h0_sound, .int h0_function, .ref ty, .int h0_height, .ref bo, .ref bg, .ref bh, .ref bd, .int h0_depth])), (ac, .inr (3, [.ref cfi, .ref clk, .ref clt, .int ac_length, .ref cop, .ref cva, .ref cpt, .ref cel, .int ac_labelCount, .ref cla])), (ty, .inl (cty, 5000, .inl gty)), (bh, .inl (cbh, 101, .inl gbh)), (bd, .inl (cbd, 101, .inl gbd)), (wap, .inl (cwap, 160, .inl gwap)), (wag, .inl (cwag, 20, .inl gwag)), (clk, .inl (cclk, 30, .inl gclk)), (clt, .inl (cclt, 1800, .inl gclt))]) (w1 := (wz_16 aw law waf cwaf gwaf wat cwat gwat)) hP hD [1, 6, 7] [0, 2, 3, 4, 5, 8, 9, 10, 11] rfl rfl (by decide) (by decide) hk1 hFc hP1 hD1
    clear hPc hDc hKc hFc hz1 hk1 hP1 hK1 hD1
    rename Heap => H
    have hP : va_P (dC, dI) cls (wz_79 h0 aw ac h0_sound h0_function ty h0_height bo bg bh bd h0_depth ac cfi clk clt ac_length cop cva cpt cel ac_labelCount cla ty cty gty bh cbh gbh bd cbd gbd wap cwap gwap wag cwag gwag clk cclk gclk clt cclt gclt aw law waf cwaf gwaf wat cwat gwat) H := hP
    have hD : va_D A (wz_79 h0 aw ac h0_sound h0_function ty h0_height bo bg bh bd h0_depth ac cfi clk clt ac_length cop cva cpt cel ac_labelCount cla ty cty gty bh cbh gbh bd cbd gbd wap cwap gwap wag cwag gwag clk cclk gclk clt cclt gclt aw law waf cwaf gwaf wat cwat gwat) := hD
    refine lv_iconst (v := 1) hx hb d_VA_checkCall_25 (by decide) ?_
    refine lv_isub hx hb d_VA_checkCall_26 ?_
    refine lv_topi (fun x2 ex2 => ?_)
    have tx2 : x2.toInt = r1.toInt - 1 := by have z := i32_sub ex2 (by (first | (apply Int.le_antisymm <;> omega) | omega)) (by (first | (apply Int.le_antisymm <;> omega) | omega)); first | exact z | (first | (apply Int.le_antisymm <;> omega) | omega)
    refine lv_istore_n (lv' := [(2, .int x2), (0, .ref h0), (1, .int p0)]) hx hb d_VA_checkCall_27 rfl hl (by decide) rfl (fun ls hl => ?_)
    refine w_loop (σ := Int32 × Int32 × Int32) (fun u H locs ls => match u with | (j28_l2, j28_h0_height, j28_h0_sound) => (-1 ≤ j28_l2.toInt ∧ j28_l2.toInt ≤ 7) ∧ (0 ≤ j28_h0_height.toInt ∧ j28_h0_height.toInt ≤ 5000) ∧ (j28_h0_sound = 0 ∨ j28_h0_sound = 1) ∧ (j28_l2.toInt < (gwat (gwaf p0.toNatClampNeg).toNatClampNeg).toInt ∧ ((gbh (h0_depth.toInt - 1).toNat).toInt ≤ j28_h0_height.toInt ∧ j28_h0_height.toInt ≤ h0_height.toInt) ∧ (j28_h0_sound.toInt = 1 → h0_sound.toInt = 1 ∧ ((gbd (h0_depth.toInt - 1).toNat).toInt = 0 → (gbh (h0_depth.toInt - 1).toNat).toInt + ((gwat (gwaf p0.toNatClampNeg).toNatClampNeg).toInt - 1 - j28_l2.toInt) ≤ h0_height.toInt ∧ j28_h0_height.toInt = h0_height.toInt - ((gwat (gwaf p0.toNatClampNeg).toNatClampNeg).toInt - 1 - j28_l2.toInt)))) ∧ va_P (dC, dI) cls (wz_79 h0 aw ac j28_h0_sound h0_function ty j28_h0_height bo bg bh bd h0_depth ac cfi clk clt ac_length cop cva cpt cel ac_labelCount cla ty cty gty bh cbh gbh bd cbd gbd wap cwap gwap wag cwag gwag clk cclk gclk clt cclt gclt aw law waf cwaf gwaf wat cwat gwat) H ∧ va_D A (wz_79 h0 aw ac j28_h0_sound h0_function ty j28_h0_height bo bg bh bd h0_depth ac cfi clk clt ac_length cop cva cpt cel ac_labelCount cla ty cty gty bh cbh gbh bd cbd gbd wap cwap gwap wag cwag gwag clk cclk gclk clt cclt gclt aw law waf cwaf gwaf wat cwat gwat) ∧ va_S A s.heap H locs ∧ lv_has ls 3 [(0, .ref h0), (1, .int p0), (2, .int j28_l2)]) (fun u => match u with | (j28_l2, j28_h0_height, j28_h0_sound) => (j28_l2.toInt + 1).toNat) ?_ (x2, h0_height, h0_sound) ⟨by (try dsimp only) <;> (first | (apply Int.le_antisymm <;> omega) | omega), b_h0_height, b_h0_sound, by (try dsimp only) <;> (first | (apply Int.le_antisymm <;> omega) | omega), hP, hD, hS, lv_sub hl [1, 2, 0] rfl⟩
    intro N28 ih28 u H locs ls hN28 hI
    obtain ⟨j28_l2, j28_h0_height, j28_h0_sound⟩ := u
    obtain ⟨b_j28_l2, b_j28_h0_height, b_j28_h0_sound, v1, hP, hD, hS, hl⟩ := hI
    have tj28_h0_sound := b01 b_j28_h0_sound
    have hN28 : (j28_l2.toInt + 1).toNat < N28 + 1 := hN28
    refine lv_iload_n hx hb d_VA_checkCall_28 rfl (lv_at hl 2 rfl) ?_
    refine lv_if_lt (tgt := 51) hx hb d_VA_checkCall_29 (by decide) (fun c29 => ?_) (fun c29 => ?_)
    · have q29 := ltI c29
      refine lv_aload_n hx hb d_VA_checkCall_51 rfl (lv_at hl 0 rfl) ?_
      refine lv_aload_n hx hb d_VA_checkCall_52 rfl (lv_at hl 0 rfl) ?_
      refine va_get (D := (dC, dI)) (ci := 9) (v := .ref aw) (C := R_VA) (T := F_VA) (N := 11) hx hb hts i_VA hown hK hP 0 rfl rfl 0 (by decide) (hts _ kF_VA_28) (fun _ h9 => h9) rfl d_VA_checkCall_53 ?_
      refine lv_iload_n hx hb d_VA_checkCall_56 rfl (lv_at hl 1 rfl) ?_
      have hPc := hP.sb (wq := (wz_16 aw law waf cwaf gwaf wag cwag gwag)) [9, 10, 6] rfl
      have hDc := hD.sb (wq := (wz_16 aw law waf cwaf gwaf wag cwag gwag)) [9, 10, 6] (by decide) rfl
      have hKc := hK.sb (tyq := [(cwaf, .int), (cwag, .int)]) [3, 6] rfl
      have hFc := va_free (wc := (wz_16 aw law waf cwaf gwaf wag cwag gwag)) hD hS hA [9, 10, 6] rfl
      refine va_calli (va_runV (As := [.int p0]) (rest := [.ref h0]) ⟨hx, hb, hml, hown, hts⟩ (c_WA_gives l dC dI aw waf wag H.size cwaf cwag gwaf gwag law paw_7 paw_5 plaw p0 (by (first | (apply Int.le_antisymm <;> omega) | omega)) (w8)) (cwV 1 hts (gV kM_VA_120 kV_WA_gives kS_WA_gives kI_WA kC_WA_gives) rfl rfl rfl (by decide +kernel) ⟨Nat.le_of_ble_eq_true rfl, Nat.le_of_ble_eq_true rfl⟩) ⟨fun a U g mk z => by obtain ⟨z0, z1, zP, zK, zD⟩ := z; exact ⟨z0, z1, zP, va_K.moved (u := U) (U := U.calling g mk a) (Vm.Alike.refl U.vm) zK, zD⟩, va_recv hKc hPc (ci := 10) (q0 := 0) rfl rfl, fun U hU hW => ⟨rfl, by rw [hU], va_P.he hU.symm hPc, va_K.moved hW.alike hKc, hDc.weaken (fun _ _ _ _ => trivial)⟩⟩ rfl rfl hl.1 rfl (lv_room (Nat.le_of_ble_eq_true rfl)) d_VA_checkCall_57 ⟨(Nat.zero_le _), (Nat.zero_le _)⟩) hS (fun q _ h => hFc q h) hFc (fun r3 u t H1 locs ht hvm hw hB hz1 hk1 hS => ?_)
      try dsimp only at hw
      have er3 := hw
      try clear hw
      have u57 : r3.toInt = (gwag (gwaf p0.toNatClampNeg).toNatClampNeg).toInt := by rw [er3]
      obtain ⟨hP1, hK1, hD1⟩ := hB
      replace hP1 := va_P.he ht hP1
      obtain ⟨hP, hD⟩ := va_join (wr := [(h0, .inr (9, [.ref aw, .ref ac, .int j28_h0_sound, .int h0_function, .ref ty, .int j28_h0_height, .ref bo, .ref bg, .ref bh, .ref bd, .int h0_depth])), (ac, .inr (3, [.ref cfi, .ref clk, .ref clt, .int ac_length, .ref cop, .ref cva, .ref cpt, .ref cel, .int ac_labelCount, .ref cla])), (ty, .inl (cty, 5000, .inl gty)), (bh, .inl (cbh, 101, .inl gbh)), (bd, .inl (cbd, 101, .inl gbd)), (wap, .inl (cwap, 160, .inl gwap)), (clk, .inl (cclk, 30, .inl gclk)), (clt, .inl (cclt, 1800, .inl gclt)), (wat, .inl (cwat, 20, .inl gwat))]) (w1 := (wz_16 aw law waf cwaf gwaf wag cwag gwag)) hP hD [9, 10, 6] [0, 1, 2, 3, 4, 5, 7, 8, 11] rfl rfl (by decide) (by decide) hk1 hFc hP1 hD1
      clear hPc hDc hKc hFc hz1 hk1 hP1 hK1 hD1
      rename Heap => H
      have hP : va_P (dC, dI) cls [(h0, .inr (9, [.ref aw, .ref ac, .int j28_h0_sound, .int h0_function, .ref ty, .int j28_h0_height, .ref bo, .ref bg, .ref bh, .ref bd, .int h0_depth])), (ac, .inr (3, [.ref cfi, .ref clk, .ref clt, .int ac_length, .ref cop, .ref cva, .ref cpt, .ref cel, .int ac_labelCount, .ref cla])), (ty, .inl (cty, 5000, .inl gty)), (bh, .inl (cbh, 101, .inl gbh)), (bd, .inl (cbd, 101, .inl gbd)), (wap, .inl (cwap, 160, .inl gwap)), (clk, .inl (cclk, 30, .inl gclk)), (clt, .inl (cclt, 1800, .inl gclt)), (wat, .inl (cwat, 20, .inl gwat)), (aw, .inr (10, law)), (waf, .inl (cwaf, 30, .inl gwaf)), (wag, .inl (cwag, 20, .inl gwag))] H := hP
      have hD : va_D A [(h0, .inr (9, [.ref aw, .ref ac, .int j28_h0_sound, .int h0_function, .ref ty, .int j28_h0_height, .ref bo, .ref bg, .ref bh, .ref bd, .int h0_depth])), (ac, .inr (3, [.ref cfi, .ref clk, .ref clt, .int ac_length, .ref cop, .ref cva, .ref cpt, .ref cel, .int ac_labelCount, .ref cla])), (ty, .inl (cty, 5000, .inl gty)), (bh, .inl (cbh, 101, .inl gbh)), (bd, .inl (cbd, 101, .inl gbd)), (wap, .inl (cwap, 160, .inl gwap)), (clk, .inl (cclk, 30, .inl gclk)), (clt, .inl (cclt, 1800, .inl gclt)), (wat, .inl (cwat, 20, .inl gwat)), (aw, .inr (10, law)), (waf, .inl (cwaf, 30, .inl gwaf)), (wag, .inl (cwag, 20, .inl gwag))] := hD
      have hPc := hP.sb (wq := (wz_66 h0 aw ac j28_h0_sound h0_function ty j28_h0_height bo bg bh bd h0_depth ty cty gty)) [0, 2] rfl
      have hDc := hD.sb (wq := (wz_66 h0 aw ac j28_h0_sound h0_function ty j28_h0_height bo bg bh bd h0_depth ty cty gty)) [0, 2] (by decide) rfl
      have hKc := hK.sb (tyq := [(cty, .int)]) [0] rfl
      have hFc := va_free (wc := (wz_66 h0 aw ac j28_h0_sound h0_function ty j28_h0_height bo bg bh bd h0_depth ty cty gty)) hD hS hA [0, 2] rfl
      refine va_callv (va_runV (As := [.int r3]) (rest := []) ⟨hx, hb, hml, hown, hts⟩ (c_VA_push l dC dI H.size h0 aw ac ty bo bg bh bd cty j28_h0_sound h0_function j28_h0_height h0_depth gty (b_j28_h0_height) (b_gty) r3 (by (try dsimp only) <;> (first | (apply Int.le_antisymm <;> omega) | omega))) (cwV 1 hts (gV kM_VA_167 kV_VA_push kS_VA_push kI_VA kC_VA_push) rfl rfl rfl (by decide +kernel) ⟨Nat.le_of_ble_eq_true rfl, Nat.le_of_ble_eq_true rfl⟩) ⟨fun a U g mk z => by obtain ⟨z0, z1, zP, zK, zD⟩ := z; exact ⟨z0, z1, zP, va_K.moved (u := U) (U := U.calling g mk a) (Vm.Alike.refl U.vm) zK, zD⟩, va_recv hKc hPc (ci := 9) (q0 := 0) rfl rfl, fun U hU hW => ⟨rfl, by rw [hU], va_P.he hU.symm hPc, va_K.moved hW.alike hKc, hDc.weaken (fun _ _ _ _ => trivial)⟩⟩ rfl rfl hl.1 rfl (lv_room (Nat.le_of_ble_eq_true rfl)) d_VA_checkCall_60 ⟨(Nat.zero_le _), (Nat.zero_le _)⟩) hS (fun q _ h => hFc q h) hFc (fun u t H1 locs ht hvm hw hB hz1 hk1 hS => ?_)
      obtain ⟨n5, n6⟩ := u
      try dsimp only at hw
      obtain ⟨bn5, bn6, xr4⟩ := hw
      try clear hw
      obtain ⟨hP1, hK1, hD1⟩ := hB
      replace hP1 := va_P.he ht hP1
      obtain ⟨hP, hD⟩ := va_join (wr := [(ac, .inr (3, [.ref cfi, .ref clk, .ref clt, .int ac_length, .ref cop, .ref cva, .ref cpt, .ref cel, .int ac_labelCount, .ref cla])), (bh, .inl (cbh, 101, .inl gbh)), (bd, .inl (cbd, 101, .inl gbd)), (wap, .inl (cwap, 160, .inl gwap)), (clk, .inl (cclk, 30, .inl gclk)), (clt, .inl (cclt, 1800, .inl gclt)), (wat, .inl (cwat, 20, .inl gwat)), (aw, .inr (10, law)), (waf, .inl (cwaf, 30, .inl gwaf)), (wag, .inl (cwag, 20, .inl gwag))]) (w1 := (wz_66 h0 aw ac j28_h0_sound h0_function ty n6 bo bg bh bd h0_depth ty cty n5)) hP hD [0, 2] [1, 3, 4, 5, 6, 7, 8, 9, 10, 11] rfl rfl (by decide) (by decide) hk1 hFc hP1 hD1
      clear hPc hDc hKc hFc hz1 hk1 hP1 hK1 hD1
      rename Heap => H
      have hP : va_P (dC, dI) cls [(ac, .inr (3, [.ref cfi, .ref clk, .ref clt, .int ac_length, .ref cop, .ref cva, .ref cpt, .ref cel, .int ac_labelCount, .ref cla])), (bh, .inl (cbh, 101, .inl gbh)), (bd, .inl (cbd, 101, .inl gbd)), (wap, .inl (cwap, 160, .inl gwap)), (clk, .inl (cclk, 30, .inl gclk)), (clt, .inl (cclt, 1800, .inl gclt)), (wat, .inl (cwat, 20, .inl gwat)), (aw, .inr (10, law)), (waf, .inl (cwaf, 30, .inl gwaf)), (wag, .inl (cwag, 20, .inl gwag)), (h0, .inr (9, [.ref aw, .ref ac, .int j28_h0_sound, .int h0_function, .ref ty, .int n6, .ref bo, .ref bg, .ref bh, .ref bd, .int h0_depth])), (ty, .inl (cty, 5000, .inl n5))] H := hP
      have hD : va_D A [(ac, .inr (3, [.ref cfi, .ref clk, .ref clt, .int ac_length, .ref cop, .ref cva, .ref cpt, .ref cel, .int ac_labelCount, .ref cla])), (bh, .inl (cbh, 101, .inl gbh)), (bd, .inl (cbd, 101, .inl gbd)), (wap, .inl (cwap, 160, .inl gwap)), (clk, .inl (cclk, 30, .inl gclk)), (clt, .inl (cclt, 1800, .inl gclt)), (wat, .inl (cwat, 20, .inl gwat)), (aw, .inr (10, law)), (waf, .inl (cwaf, 30, .inl gwaf)), (wag, .inl (cwag, 20, .inl gwag)), (h0, .inr (9, [.ref aw, .ref ac, .int j28_h0_sound, .int h0_function, .ref ty, .int n6, .ref bo, .ref bg, .ref bh, .ref bd, .int h0_depth])), (ty, .inl (cty, 5000, .inl n5))] := hD
      have hP9 := hP.sb (wq := (wz_78 h0 aw ac j28_h0_sound h0_function ty n6 bo bg bh bd h0_depth aw law ac cfi clk clt ac_length cop cva cpt cel ac_labelCount cla ty cty n5 bh cbh gbh bd cbd gbd waf cwaf gwaf wat cwat gwat wap cwap gwap wag cwag gwag clk cclk gclk clt cclt gclt)) [10, 7, 0, 11, 1, 2, 8, 6, 3, 9, 4, 5] rfl
      have hD9 := hD.sb (wq := (wz_78 h0 aw ac j28_h0_sound h0_function ty n6 bo bg bh bd h0_depth aw law ac cfi clk clt ac_length cop cva cpt cel ac_labelCount cla ty cty n5 bh cbh gbh bd cbd gbd waf cwaf gwaf wat cwat gwat wap cwap gwap wag cwag gwag clk cclk gclk clt cclt gclt)) [10, 7, 0, 11, 1, 2, 8, 6, 3, 9, 4, 5] (by decide) rfl
      exact W.vret hx hb hr (fun t ht hW => ⟨⟨(n5, n6, j28_h0_sound), rfl, ⟨bn5, bn6, b_j28_h0_sound, by rw [← u57]; split <;> ((try dsimp only) <;> (first | (apply Int.le_antisymm <;> omega) | omega))⟩, va_P.he ht.symm hP9, va_K.moved hW.alike hK, hD9⟩, hS.F ht⟩) hS.2.2 d_VA_checkCall_63
    · have q29 := nltI c29
      refine lv_aload_n hx hb d_VA_checkCall_32 rfl (lv_at hl 0 rfl) ?_
      refine lv_aload_n hx hb d_VA_checkCall_33 rfl (lv_at hl 0 rfl) ?_
      refine va_get (D := (dC, dI)) (ci := 9) (v := .ref aw) (C := R_VA) (T := F_VA) (N := 11) hx hb hts i_VA hown hK hP 0 rfl rfl 0 (by decide) (hts _ kF_VA_28) (fun _ h9 => h9) rfl d_VA_checkCall_34 ?_
      refine lv_iload_n hx hb d_VA_checkCall_37 rfl (lv_at hl 1 rfl) ?_
      refine lv_iload_n hx hb d_VA_checkCall_38 rfl (lv_at hl 2 rfl) ?_
      have hPc := hP.sb (wq := (wz_32 aw law ac cfi clk clt ac_length cop cva cpt cel ac_labelCount cla waf cwaf gwaf wat cwat gwat wap cwap gwap clk cclk gclk clt cclt gclt)) [9, 1, 10, 11, 5, 7, 8] rfl
      have hDc := hD.sb (wq := (wz_32 aw law ac cfi clk clt ac_length cop cva cpt cel ac_labelCount cla waf cwaf gwaf wat cwat gwat wap cwap gwap clk cclk gclk clt cclt gclt)) [9, 1, 10, 11, 5, 7, 8] (by decide) rfl
      have hKc := hK.sb (tyq := [(cwaf, .int), (cwat, .int), (cwap, .int), (cclk, .int), (cclt, .int)]) [3, 4, 5, 7, 8] rfl
      have hFc := va_free (wc := (wz_32 aw law ac cfi clk clt ac_length cop cva cpt cel ac_labelCount cla waf cwaf gwaf wat cwat gwat wap cwap gwap clk cclk gclk clt cclt gclt)) hD hS hA [9, 1, 10, 11, 5, 7, 8] rfl
      refine va_calli (va_runV (As := [.int p0, .int j28_l2]) (rest := [.ref h0]) ⟨hx, hb, hml, hown, hts⟩ (c_WA_localTypex l dC dI H.size aw ac wat wap waf cfi clk clt cop cva cpt cel cla cwaf cwat cwap cclk cclt law ac_length ac_labelCount gwaf gwat gwap gclk gclt paw_1 paw_3 paw_4 paw_7 plaw p0 j28_l2 (by (try dsimp only) <;> (first | (apply Int.le_antisymm <;> omega) | omega)) (w8) (w7)) (cwV 2 hts (gV kM_VA_185 kV_WA_localType kS_WA_localType kI_WA kC_WA_localType) rfl rfl rfl (by decide +kernel) ⟨Nat.le_of_ble_eq_true rfl, Nat.le_of_ble_eq_true rfl⟩) ⟨fun a U g mk z => by obtain ⟨z0, z1, zP, zK, zD⟩ := z; exact ⟨z0, z1, zP, va_K.moved (u := U) (U := U.calling g mk a) (Vm.Alike.refl U.vm) zK, zD⟩, va_recv hKc hPc (ci := 10) (q0 := 0) rfl rfl, fun U hU hW => ⟨rfl, by rw [hU], va_P.he hU.symm hPc, va_K.moved hW.alike hKc, hDc.weaken (fun _ _ _ _ => trivial)⟩⟩ rfl rfl hl.1 rfl (lv_room (Nat.le_of_ble_eq_true rfl)) d_VA_checkCall_39 ⟨(Nat.zero_le _), (Nat.zero_le _)⟩) hS (fun q _ h => hFc q h) hFc (fun r7 u t H1 locs ht hvm hw hB hz1 hk1 hS => ?_)
      try dsimp only at hw
      have xr7 := hw
      try clear hw
      have l39 := vw_loc w9 (by (first | (apply Int.le_antisymm <;> omega) | omega)) xr7
      clear xr7
      obtain ⟨hP1, hK1, hD1⟩ := hB
      replace hP1 := va_P.he ht hP1
      obtain ⟨hP, hD⟩ := va_join (wr := [(h0, .inr (9, [.ref aw, .ref ac, .int j28_h0_sound, .int h0_function, .ref ty, .int j28_h0_height, .ref bo, .ref bg, .ref bh, .ref bd, .int h0_depth])), (ty, .inl (cty, 5000, .inl gty)), (bh, .inl (cbh, 101, .inl gbh)), (bd, .inl (cbd, 101, .inl gbd)), (wag, .inl (cwag, 20, .inl gwag))]) (w1 := (wz_32 aw law ac cfi clk clt ac_length cop cva cpt cel ac_labelCount cla waf cwaf gwaf wat cwat gwat wap cwap gwap clk cclk gclk clt cclt gclt)) hP hD [9, 1, 10, 11, 5, 7, 8] [0, 2, 3, 4, 6] rfl rfl (by decide) (by decide) hk1 hFc hP1 hD1
      clear hPc hDc hKc hFc hz1 hk1 hP1 hK1 hD1
      rename Heap => H
      have hP : va_P (dC, dI) cls [(h0, .inr (9, [.ref aw, .ref ac, .int j28_h0_sound, .int h0_function, .ref ty, .int j28_h0_height, .ref bo, .ref bg, .ref bh, .ref bd, .int h0_depth])), (ty, .inl (cty, 5000, .inl gty)), (bh, .inl (cbh, 101, .inl gbh)), (bd, .inl (cbd, 101, .inl gbd)), (wag, .inl (cwag, 20, .inl gwag)), (aw, .inr (10, law)), (ac, .inr (3, [.ref cfi, .ref clk, .ref clt, .int ac_length, .ref cop, .ref cva, .ref cpt, .ref cel, .int ac_labelCount, .ref cla])), (waf, .inl (cwaf, 30, .inl gwaf)), (wat, .inl (cwat, 20, .inl gwat)), (wap, .inl (cwap, 160, .inl gwap)), (clk, .inl (cclk, 30, .inl gclk)), (clt, .inl (cclt, 1800, .inl gclt))] H := hP
      have hD : va_D A [(h0, .inr (9, [.ref aw, .ref ac, .int j28_h0_sound, .int h0_function, .ref ty, .int j28_h0_height, .ref bo, .ref bg, .ref bh, .ref bd, .int h0_depth])), (ty, .inl (cty, 5000, .inl gty)), (bh, .inl (cbh, 101, .inl gbh)), (bd, .inl (cbd, 101, .inl gbd)), (wag, .inl (cwag, 20, .inl gwag)), (aw, .inr (10, law)), (ac, .inr (3, [.ref cfi, .ref clk, .ref clt, .int ac_length, .ref cop, .ref cva, .ref cpt, .ref cel, .int ac_labelCount, .ref cla])), (waf, .inl (cwaf, 30, .inl gwaf)), (wat, .inl (cwat, 20, .inl gwat)), (wap, .inl (cwap, 160, .inl gwap)), (clk, .inl (cclk, 30, .inl gclk)), (clt, .inl (cclt, 1800, .inl gclt))] := hD
      have hPc := hP.sb (wq := (wz_65 h0 aw ac j28_h0_sound h0_function ty j28_h0_height bo bg bh bd h0_depth ty cty gty bh cbh gbh bd cbd gbd)) [0, 1, 2, 3] rfl
      have hDc := hD.sb (wq := (wz_65 h0 aw ac j28_h0_sound h0_function ty j28_h0_height bo bg bh bd h0_depth ty cty gty bh cbh gbh bd cbd gbd)) [0, 1, 2, 3] (by decide) rfl
      have hKc := hK.sb (tyq := [(cty, .int), (cbh, .int), (cbd, .boolean)]) [0, 1, 2] rfl
      have hFc := va_free (wc := (wz_65 h0 aw ac j28_h0_sound h0_function ty j28_h0_height bo bg bh bd h0_depth ty cty gty bh cbh gbh bd cbd gbd)) hD hS hA [0, 1, 2, 3] rfl
      refine va_callv (va_runV (As := [.int r7]) (rest := []) ⟨hx, hb, hml, hown, hts⟩ (c_VA_pop l dC dI H.size h0 aw ac ty bo bg bh bd cty cbh cbd j28_h0_sound h0_function j28_h0_height h0_depth gty gbh gbd (b_j28_h0_sound) (b_j28_h0_height) (b_h0_depth) (b_gty) (b_gbh) r7 (by (try dsimp only) <;> (first | (apply Int.le_antisymm <;> omega) | omega)) (by (try dsimp only) <;> (first | (apply Int.le_antisymm <;> omega) | omega))) (cwV 1 hts (gV kM_VA_161 kV_VA_pop kS_VA_pop kI_VA kC_VA_pop) rfl rfl rfl (by decide +kernel) ⟨Nat.le_of_ble_eq_true rfl, Nat.le_of_ble_eq_true rfl⟩) ⟨fun a U g mk z => by obtain ⟨z0, z1, zP, zK, zD⟩ := z; exact ⟨z0, z1, zP, va_K.moved (u := U) (U := U.calling g mk a) (Vm.Alike.refl U.vm) zK, zD⟩, va_recv hKc hPc (ci := 9) (q0 := 0) rfl rfl, fun U hU hW => ⟨rfl, by rw [hU], va_P.he hU.symm hPc, va_K.moved hW.alike hKc, hDc.weaken (fun _ _ _ _ => trivial)⟩⟩ rfl rfl hl.1 rfl (lv_room (Nat.le_of_ble_eq_true rfl)) d_VA_checkCall_42 ⟨(Nat.zero_le _), (Nat.zero_le _)⟩) hS (fun q _ h => hFc q h) hFc (fun u t H1 locs ht hvm hw hB hz1 hk1 hS => ?_)
      obtain ⟨n9, n10⟩ := u
      try dsimp only at hw
      obtain ⟨bn9, bn10, xr8⟩ := hw
      try clear hw
      have tn10 := b01 bn10
      obtain ⟨hP1, hK1, hD1⟩ := hB
      replace hP1 := va_P.he ht hP1
      obtain ⟨hP, hD⟩ := va_join (wr := [(wag, .inl (cwag, 20, .inl gwag)), (aw, .inr (10, law)), (ac, .inr (3, [.ref cfi, .ref clk, .ref clt, .int ac_length, .ref cop, .ref cva, .ref cpt, .ref cel, .int ac_labelCount, .ref cla])), (waf, .inl (cwaf, 30, .inl gwaf)), (wat, .inl (cwat, 20, .inl gwat)), (wap, .inl (cwap, 160, .inl gwap)), (clk, .inl (cclk, 30, .inl gclk)), (clt, .inl (cclt, 1800, .inl gclt))]) (w1 := (wz_65 h0 aw ac n10 h0_function ty n9 bo bg bh bd h0_depth ty cty gty bh cbh gbh bd cbd gbd)) hP hD [0, 1, 2, 3] [4, 5, 6, 7, 8, 9, 10, 11] rfl rfl (by decide) (by decide) hk1 hFc hP1 hD1
      clear hPc hDc hKc hFc hz1 hk1 hP1 hK1 hD1
      rename Heap => H
      have hP : va_P (dC, dI) cls [(wag, .inl (cwag, 20, .inl gwag)), (aw, .inr (10, law)), (ac, .inr (3, [.ref cfi, .ref clk, .ref clt, .int ac_length, .ref cop, .ref cva, .ref cpt, .ref cel, .int ac_labelCount, .ref cla])), (waf, .inl (cwaf, 30, .inl gwaf)), (wat, .inl (cwat, 20, .inl gwat)), (wap, .inl (cwap, 160, .inl gwap)), (clk, .inl (cclk, 30, .inl gclk)), (clt, .inl (cclt, 1800, .inl gclt)), (h0, .inr (9, [.ref aw, .ref ac, .int n10, .int h0_function, .ref ty, .int n9, .ref bo, .ref bg, .ref bh, .ref bd, .int h0_depth])), (ty, .inl (cty, 5000, .inl gty)), (bh, .inl (cbh, 101, .inl gbh)), (bd, .inl (cbd, 101, .inl gbd))] H := hP
      have hD : va_D A [(wag, .inl (cwag, 20, .inl gwag)), (aw, .inr (10, law)), (ac, .inr (3, [.ref cfi, .ref clk, .ref clt, .int ac_length, .ref cop, .ref cva, .ref cpt, .ref cel, .int ac_labelCount, .ref cla])), (waf, .inl (cwaf, 30, .inl gwaf)), (wat, .inl (cwat, 20, .inl gwat)), (wap, .inl (cwap, 160, .inl gwap)), (clk, .inl (cclk, 30, .inl gclk)), (clt, .inl (cclt, 1800, .inl gclt)), (h0, .inr (9, [.ref aw, .ref ac, .int n10, .int h0_function, .ref ty, .int n9, .ref bo, .ref bg, .ref bh, .ref bd, .int h0_depth])), (ty, .inl (cty, 5000, .inl gty)), (bh, .inl (cbh, 101, .inl gbh)), (bd, .inl (cbd, 101, .inl gbd))] := hD
      obtain ⟨x11, ex11⟩ : ∃ z : Int32, z = j28_l2 + (-1) := ⟨_, rfl⟩
      have tx11 : x11.toInt = j28_l2.toInt + (-1) := by have z := i32_add ex11 (by (first | (apply Int.le_antisymm <;> omega) | omega)) (by (first | (apply Int.le_antisymm <;> omega) | omega)); first | exact z | (first | (apply Int.le_antisymm <;> omega) | omega)
      refine lv_iinc (v := x11) (lv' := [(2, .int x11), (0, .ref h0), (1, .int p0)]) hx hb d_VA_checkCall_45 hl (k := 2) rfl (by rw [ex11]; rfl) (by decide) rfl (fun ls hl => ?_)
      refine lv_goto (tgt := 28) hx hb d_VA_checkCall_48 (by decide) ?_
      exact ih28 (x11, n9, n10) _ _ _ (by show (x11.toInt + 1).toNat < N28; (first | (apply Int.le_antisymm <;> omega) | omega)) ⟨by (try dsimp only) <;> (first | (apply Int.le_antisymm <;> omega) | omega), bn9, bn10, by (try dsimp only) <;> (first | (apply Int.le_antisymm <;> omega) | omega), hP.sub [8, 2, 9, 10, 11, 5, 0, 6, 7, 1, 3, 4] rfl, hD.sub [8, 2, 9, 10, 11, 5, 0, 6, 7, 1, 3, 4] (by decide) rfl, hS, lv_sub hl [1, 2, 0] rfl⟩
  · have q8 := nltI c8
    refine lv_aload_n hx hb d_VA_checkCall_11 rfl (lv_at hl 0 rfl) ?_
    refine lv_iconst (v := 0) hx hb d_VA_checkCall_12 (by decide) ?_
    refine va_put (D := (dC, dI)) (ci := 9) (v := .int 0) (ty := .boolean) (C := R_VA) (T := F_VA) (N := 11) hx hb hts i_VA t_VA t_VA_ok n_VA hown hK hP hD hS 0 rfl rfl 2 (by decide) (hts _ kF_VA_39) (fun _ h9 => h9) rfl (by decide +kernel) rfl rfl (Nat.le_of_ble_eq_true rfl) d_VA_checkCall_13 (fun H locs hP hD hS => ?_)
    have hP9 := hP.sb (wq := (wz_78 h0 aw ac 0 h0_function ty h0_height bo bg bh bd h0_depth aw law ac cfi clk clt ac_length cop cva cpt cel ac_labelCount cla ty cty gty bh cbh gbh bd cbd gbd waf cwaf gwaf wat cwat gwat wap cwap gwap wag cwag gwag clk cclk gclk clt cclt gclt)) [0, 1, 2, 3, 4, 5, 6, 7, 8, 9, 10, 11] rfl
    have hD9 := hD.sb (wq := (wz_78 h0 aw ac 0 h0_function ty h0_height bo bg bh bd h0_depth aw law ac cfi clk clt ac_length cop cva cpt cel ac_labelCount cla ty cty gty bh cbh gbh bd cbd gbd waf cwaf gwaf wat cwat gwat wap cwap gwap wag cwag gwag clk cclk gclk clt cclt gclt)) [0, 1, 2, 3, 4, 5, 6, 7, 8, 9, 10, 11] (by decide) rfl
    exact W.vret hx hb hr (fun t ht hW => ⟨⟨(gty, h0_height, 0), rfl, ⟨b_gty, b_h0_height, Or.inl rfl, ⟨⟨by (first | (apply Int.le_antisymm <;> omega) | omega), by (first | (apply Int.le_antisymm <;> omega) | omega)⟩, fun z => absurd z (by (try dsimp only); decide)⟩⟩, va_P.he ht.symm hP9, va_K.moved hW.alike hK, hD9⟩, hS.F ht⟩) hS.2.2 d_VA_checkCall_16
end q_22b
section q_23
/-! Validator: jumps and blocks -/
abbrev b_VA_checkTable : ByteArray := prog_12_method_8_code
def y_VA_checkTable : MethodName := ⟨R_VA, "checkTable", "(II)V"⟩
abbrev w_VA_checkTable : List Cond := .code y_VA_checkTable b_VA_checkTable 6 none :: lw_g
theorem kC_VA_checkTable : Cond.code y_VA_checkTable b_VA_checkTable 6 none ∈ lw_g := in_c7 11 rfl rfl
theorem d_VA_checkTable_0 : decode b_VA_checkTable 0 = .ok (.aload_n 0, 1) := bz_c42 (by decide +kernel)
theorem d_VA_checkTable_1 : decode b_VA_checkTable 1 = .ok (.aload_n 0, 1) := bz_c42 (by decide +kernel)
theorem d_VA_checkTable_2 : decode b_VA_checkTable 2 = .ok (.getfield 38, 3) := bz_c180 (by decide +kernel)
theorem d_VA_checkTable_5 : decode b_VA_checkTable 5 = .ok (.getfield 179, 3) := bz_c180 (by decide +kernel)
theorem d_VA_checkTable_8 : decode b_VA_checkTable 8 = .ok (.iload_n 1, 1) := bz_c27 (by decide +kernel)
theorem d_VA_checkTable_9 : decode b_VA_checkTable 9 = .ok (.iload_n 2, 1) := bz_c28 (by decide +kernel)
theorem d_VA_checkTable_10 : decode b_VA_checkTable 10 = .ok (.iadd, 1) := bz_c96 (by decide +kernel)
theorem d_VA_checkTable_11 : decode b_VA_checkTable 11 = .ok (.iaload, 1) := bz_c46 (by decide +kernel)
theorem d_VA_checkTable_12 : decode b_VA_checkTable 12 = .ok (.invokevirtual 170, 3) := bz_c182 (by decide +kernel)
theorem d_VA_checkTable_15 : decode b_VA_checkTable 15 = .ok (.istore_n 3, 1) := bz_c62 (by decide +kernel)
theorem d_VA_checkTable_16 : decode b_VA_checkTable 16 = .ok (.iconst 0, 1) := bz_c3 (by decide +kernel)
theorem d_VA_checkTable_17 : decode b_VA_checkTable 17 = .ok (.istore 4, 2) := bz_c54 (by decide +kernel)
theorem d_VA_checkTable_19 : decode b_VA_checkTable 19 = .ok (.iload 4, 2) := bz_c21 (by decide +kernel)
theorem d_VA_checkTable_21 : decode b_VA_checkTable 21 = .ok (.iload_n 2, 1) := bz_c28 (by decide +kernel)
theorem d_VA_checkTable_22 : decode b_VA_checkTable 22 = .ok (.if_icmp .ge 49, 3) := bz_c162 (by decide +kernel)
theorem d_VA_checkTable_25 : decode b_VA_checkTable 25 = .ok (.aload_n 0, 1) := bz_c42 (by decide +kernel)
theorem d_VA_checkTable_26 : decode b_VA_checkTable 26 = .ok (.aload_n 0, 1) := bz_c42 (by decide +kernel)
theorem d_VA_checkTable_27 : decode b_VA_checkTable 27 = .ok (.getfield 38, 3) := bz_c180 (by decide +kernel)
theorem d_VA_checkTable_30 : decode b_VA_checkTable 30 = .ok (.getfield 179, 3) := bz_c180 (by decide +kernel)
theorem d_VA_checkTable_33 : decode b_VA_checkTable 33 = .ok (.iload_n 1, 1) := bz_c27 (by decide +kernel)
theorem d_VA_checkTable_34 : decode b_VA_checkTable 34 = .ok (.iload 4, 2) := bz_c21 (by decide +kernel)
theorem d_VA_checkTable_36 : decode b_VA_checkTable 36 = .ok (.iadd, 1) := bz_c96 (by decide +kernel)
theorem d_VA_checkTable_37 : decode b_VA_checkTable 37 = .ok (.iaload, 1) := bz_c46 (by decide +kernel)
theorem d_VA_checkTable_38 : decode b_VA_checkTable 38 = .ok (.invokevirtual 170, 3) := bz_c182 (by decide +kernel)
theorem d_VA_checkTable_41 : decode b_VA_checkTable 41 = .ok (.istore 5, 2) := bz_c54 (by decide +kernel)
theorem d_VA_checkTable_43 : decode b_VA_checkTable 43 = .ok (.aload_n 0, 1) := bz_c42 (by decide +kernel)
theorem d_VA_checkTable_44 : decode b_VA_checkTable 44 = .ok (.aload_n 0, 1) := bz_c42 (by decide +kernel)
theorem d_VA_checkTable_45 : decode b_VA_checkTable 45 = .ok (.getfield 39, 3) := bz_c180 (by decide +kernel)
theorem d_VA_checkTable_48 : decode b_VA_checkTable 48 = .ok (.ifCond .eq 13, 3) := bz_c153 (by decide +kernel)
theorem d_VA_checkTable_51 : decode b_VA_checkTable 51 = .ok (.iload 5, 2) := bz_c21 (by decide +kernel)
theorem d_VA_checkTable_53 : decode b_VA_checkTable 53 = .ok (.iload_n 3, 1) := bz_c29 (by decide +kernel)
theorem d_VA_checkTable_54 : decode b_VA_checkTable 54 = .ok (.if_icmp .ne 7, 3) := bz_c160 (by decide +kernel)
theorem d_VA_checkTable_57 : decode b_VA_checkTable 57 = .ok (.iconst 1, 1) := bz_c4 (by decide +kernel)
theorem d_VA_checkTable_58 : decode b_VA_checkTable 58 = .ok (.goto 4, 3) := bz_c167 (by decide +kernel)
theorem d_VA_checkTable_61 : decode b_VA_checkTable 61 = .ok (.iconst 0, 1) := bz_c3 (by decide +kernel)
theorem d_VA_checkTable_62 : decode b_VA_checkTable 62 = .ok (.putfield 39, 3) := bz_c181 (by decide +kernel)
theorem d_VA_checkTable_65 : decode b_VA_checkTable 65 = .ok (.iinc 4 1, 3) := by decide +kernel
theorem d_VA_checkTable_68 : decode b_VA_checkTable 68 = .ok (.goto (-49), 3) := bz_c167 (by decide +kernel)
theorem d_VA_checkTable_71 : decode b_VA_checkTable 71 = .ok (.aload_n 0, 1) := bz_c42 (by decide +kernel)
theorem d_VA_checkTable_72 : decode b_VA_checkTable 72 = .ok (.bipush 127, 2) := bz_c16 (by decide +kernel)
theorem d_VA_checkTable_74 : decode b_VA_checkTable 74 = .ok (.invokevirtual 161, 3) := bz_c182 (by decide +kernel)
theorem d_VA_checkTable_77 : decode b_VA_checkTable 77 = .ok (.aload_n 0, 1) := bz_c42 (by decide +kernel)
theorem d_VA_checkTable_78 : decode b_VA_checkTable 78 = .ok (.iload_n 3, 1) := bz_c29 (by decide +kernel)
theorem d_VA_checkTable_79 : decode b_VA_checkTable 79 = .ok (.invokevirtual 161, 3) := bz_c182 (by decide +kernel)
theorem d_VA_checkTable_82 : decode b_VA_checkTable 82 = .ok (.aload_n 0, 1) := bz_c42 (by decide +kernel)
theorem d_VA_checkTable_83 : decode b_VA_checkTable 83 = .ok (.invokevirtual 158, 3) := bz_c182 (by decide +kernel)
theorem d_VA_checkTable_86 : decode b_VA_checkTable 86 = .ok (.return_, 1) := bz_c177 (by decide +kernel)
theorem kM_VA_170 : Cond.methodLink R_VA 170 y_VA_labelType ∈ lw_g := in_c7 4 rfl rfl
theorem kV_VA_labelType : Cond.instanceMethod y_VA_labelType ∈ lw_g := in_c7 6 rfl rfl
theorem kS_VA_labelType : Cond.selects R_VA y_VA_labelType y_VA_labelType ∈ lw_g := in_s 92 (by decide +kernel) rfl
theorem kM_VA_158 : Cond.methodLink R_VA 158 y_VA_die ∈ lw_g := in_c6 220 rfl rfl
theorem kV_VA_die : Cond.instanceMethod y_VA_die ∈ lw_g := in_c6 222 rfl rfl
theorem kS_VA_die : Cond.selects R_VA y_VA_die y_VA_die ∈ lw_g := in_s 86 (by decide +kernel) rfl
theorem kF_VA_38 : Cond.fieldLink R_VA 38 "WaferForge$Validator" "codes" "LWaferForge$Codes;" ∈ lw_g := in_c3 18 rfl rfl
theorem kF_VA_179 : Cond.fieldLink R_VA 179 "WaferForge$Codes" "labels" "[I" ∈ lw_g := in_c1 116 rfl rfl
abbrev at_VA_checkTable (dC : Nat → ClassId) (dI : Nat → Nat → Nat) (h0 aw ac ty bo bg bh bd cfi clk clt cop cva cpt cel cla : Nat) (cty cbo cbg cbh cbd ccla : ClassId) (h0_function : Int32) (h0_depth : Int32) (ac_length : Int32) (ac_labelCount : Int32) (gty : Nat → Int32) (gbo : Nat → Int32) (gbg : Nat → Int32) (gbh : Nat → Int32) (gcla : Nat → Int32) (A : Nat → Prop) (u : (Nat → Int32) × Int32 × Int32) (t : State) : Prop := match u with | (gbd, h0_height, h0_sound) => va_P (dC, dI) cls (wz_80 h0 aw ac h0_sound h0_function ty h0_height bo bg bh bd h0_depth ac cfi clk clt ac_length cop cva cpt cel ac_labelCount cla ty cty gty bo cbo gbo bg cbg gbg bh cbh gbh bd cbd gbd cla ccla gcla) t.heap ∧ va_K (dC, dI) cls [(cty, .int), (cbo, .int), (cbg, .int), (cbh, .int), (cbd, .boolean), (ccla, .int)] t ∧ va_D A (wz_80 h0 aw ac h0_sound h0_function ty h0_height bo bg bh bd h0_depth ac cfi clk clt ac_length cop cva cpt cel ac_labelCount cla ty cty gty bo cbo gbo bg cbg gbg bh cbh gbh bd cbd gbd cla ccla gcla)
set_option maxHeartbeats 4000000 in
set_option maxRecDepth 100000 in
theorem c_VA_checkTable (l : Launch) (dC : Nat → ClassId) (dI : Nat → Nat → Nat) (sz : Nat) (h0 aw ac ty bo bg bh bd cfi clk clt cop cva cpt cel cla : Nat) (cty cbo cbg cbh cbd ccla : ClassId) (h0_sound : Int32) (h0_function : Int32) (h0_height : Int32) (h0_depth : Int32) (ac_length : Int32) (ac_labelCount : Int32) (gty : Nat → Int32) (gbo : Nat → Int32) (gbg : Nat → Int32) (gbh : Nat → Int32) (gbd : Nat → Int32) (gcla : Nat → Int32)  (b_h0_sound : h0_sound = 0 ∨ h0_sound = 1) (b_h0_height : 0 ≤ h0_height.toInt ∧ h0_height.toInt ≤ 5000) (b_h0_depth : 0 ≤ h0_depth.toInt ∧ h0_depth.toInt ≤ 101) (b_ac_labelCount : 0 ≤ ac_labelCount.toInt ∧ ac_labelCount.toInt ≤ 2000) (b_gty : ∀ j : Nat, (gty j).toInt ≠ 64) (b_gbh : ∀ j : Nat, 0 ≤ (gbh j).toInt ∧ (gbh j).toInt ≤ 5000) (p0 : Int32) (p1 : Int32)  (hd1 : 1 ≤ h0_depth.toInt) (hbh : (gbh (h0_depth.toInt - 1).toNat).toInt ≤ h0_height.toInt) (hh5 : h0_height.toInt < 5000) (hlt : 0 ≤ p0.toInt ∧ 0 ≤ p1.toInt ∧ p0.toInt + p1.toInt < ac_labelCount.toInt) (hlb : ∀ j : Nat, (j : Int) < ac_labelCount.toInt → 0 ≤ (gcla j).toInt) : Met l y_VA_checkTable w_VA_checkTable ({ frames := 2, cells := 0, slots := 0, locals := 42 }) (va_Pc [.ref h0, .int p0, .int p1] (fun U => U.heap.size = sz ∧ va_P (dC, dI) cls (wz_80 h0 aw ac h0_sound h0_function ty h0_height bo bg bh bd h0_depth ac cfi clk clt ac_length cop cva cpt cel ac_labelCount cla ty cty gty bo cbo gbo bg cbg gbg bh cbh gbh bd cbd gbd cla ccla gcla) U.heap ∧ va_K (dC, dI) cls [(cty, .int), (cbo, .int), (cbg, .int), (cbh, .int), (cbd, .boolean), (ccla, .int)] U ∧ va_D (fun _ => True) (wz_80 h0 aw ac h0_sound h0_function ty h0_height bo bg bh bd h0_depth ac cfi clk clt ac_length cop cva cpt cel ac_labelCount cla ty cty gty bo cbo gbo bg cbg gbg bh cbh gbh bd cbd gbd cla ccla gcla))) (va_Qv (fun (u : (Nat → Int32) × Int32 × Int32) => match u with | (gbd2, h0_height2, h0_sound2) => (0 ≤ h0_height2.toInt ∧ h0_height2.toInt ≤ 5000) ∧ (h0_sound2 = 0 ∨ h0_sound2 = 1) ∧ ((h0_height2.toInt = (gbh (h0_depth.toInt - 1).toNat).toInt ∧ gbd2 = upd gbd (h0_depth.toInt - 1).toNat (vp_nar .boolean 1)) ∧ (h0_sound2.toInt = 1 → h0_sound.toInt = 1 ∧ ((gbd (h0_depth.toInt - 1).toNat).toInt = 0 → (gbh (h0_depth.toInt - 1).toNat).toInt + 1 ≤ h0_height.toInt)))) (at_VA_checkTable dC dI h0 aw ac ty bo bg bh bd cfi clk clt cop cva cpt cel cla cty cbo cbg cbh cbd ccla h0_function h0_depth ac_length ac_labelCount gty gbo gbg gbh gcla (va_A (wz_80 h0 aw ac h0_sound h0_function ty h0_height bo bg bh bd h0_depth ac cfi clk clt ac_length cop cva cpt cel ac_labelCount cla ty cty gty bo cbo gbo bg cbg gbg bh cbh gbh bd cbd gbd cla ccla gcla) sz)) (va_A (wz_80 h0 aw ac h0_sound h0_function ty h0_height bo bg bh bd h0_depth ac cfi clk clt ac_length cop cva cpt cel ac_labelCount cla ty cty gty bo cbo gbo bg cbg gbg bh cbh gbh bd cbd gbd cla ccla gcla) sz)) 0 0 (va_A (wz_80 h0 aw ac h0_sound h0_function ty h0_height bo bg bh bd h0_depth ac cfi clk clt ac_length cop cva cpt cel ac_labelCount cla ty cty gty bo cbo gbo bg cbg gbg bh cbh gbh bd cbd gbd cla ccla gcla) sz) := by
  refine Met.ofW (cc := b_VA_checkTable) (maxL := 6) (ret := none) (by decide) rfl ?_
  intro p e s m args below meth c s₁ B hml hv
  obtain ⟨rfl, hsz, hP, hK, hD0⟩ := hv
  have hx := B.exec
  have hb := B.bytes
  have hr := B.returns
  have hts0 := atoms_spec (ws := w_VA_checkTable) B.pre
  have hts : ∀ w ∈ lw_g, w.before _ s = true := fun w h => hts0 w (List.mem_cons_of_mem _ h)
  have hown : s.vm.findClass R_VA = some m.cls := findClass_of_methodNamed B.named
  have hlocks := B.notSynchronized
  clear hts0
  subst hsz
  have hD := hD0.self (sz := s.heap.size)
  generalize hAe : va_A (wz_80 h0 aw ac h0_sound h0_function ty h0_height bo bg bh bd h0_depth ac cfi clk clt ac_length cop cva cpt cel ac_labelCount cla ty cty gty bo cbo gbo bg cbg gbg bh cbh gbh bd cbd gbd cla ccla gcla) s.heap.size = A at hD ⊢
  have hA : ∀ q : Nat, s.heap.size ≤ q → A q := fun q h => by rw [← hAe]; exact Or.inr h
  clear hAe
  have hP : va_P (dC, dI) cls (wz_80 h0 aw ac h0_sound h0_function ty h0_height bo bg bh bd h0_depth ac cfi clk clt ac_length cop cva cpt cel ac_labelCount cla ty cty gty bo cbo gbo bg cbg gbg bh cbh gbh bd cbd gbd cla ccla gcla) s.heap := hP
  have hl := lv_entry ([.ref h0, .int p0, .int p1]) (n := 6) (Nat.le_of_ble_eq_true rfl)
  rw [lg_entry_eq]
  generalize (lg_sl ([.ref h0, .int p0, .int p1]) ++ List.replicate (6 - (lg_sl ([.ref h0, .int p0, .int p1])).length) Slot.unset).toArray = ls at hl ⊢
  have hl : lv_has ls 6 [(0, .ref h0), (1, .int p0), (2, .int p1)] := hl
  have k0 : (0 : Int32).toInt = 0 := by decide
  refine w_gen (A := A) hP (fun H locs hP hS => ?_)
  have k1 : (1 : Int32).toInt = 1 := by decide
  have k127 : (127 : Int32).toInt = 127 := by decide
  have lo_p0 := i32_lo p0
  have hi_p0 := i32_hi p0
  have lo_p1 := i32_lo p1
  have hi_p1 := i32_hi p1
  have th0_sound := b01 b_h0_sound
  refine lv_aload_n hx hb d_VA_checkTable_0 rfl (lv_at hl 0 rfl) ?_
  refine lv_aload_n hx hb d_VA_checkTable_1 rfl (lv_at hl 0 rfl) ?_
  refine va_get (D := (dC, dI)) (ci := 9) (v := .ref ac) (C := R_VA) (T := F_VA) (N := 11) hx hb hts i_VA hown hK hP 0 rfl rfl 1 (by decide) (hts _ kF_VA_38) (fun _ h9 => h9) rfl d_VA_checkTable_2 ?_
  refine va_get (D := (dC, dI)) (ci := 3) (v := .ref cla) (C := R_CD) (T := F_CD) (N := 10) hx hb hts i_CD hown hK hP 1 rfl rfl 9 (by decide) (hts _ kF_VA_179) (fun _ h9 => h9) rfl d_VA_checkTable_5 ?_
  refine lv_iload_n hx hb d_VA_checkTable_8 rfl (lv_at hl 1 rfl) ?_
  refine lv_iload_n hx hb d_VA_checkTable_9 rfl (lv_at hl 2 rfl) ?_
  refine lv_iadd hx hb d_VA_checkTable_10 ?_
  refine lv_topi (fun x1 ex1 => ?_)
  have tx1 : x1.toInt = p0.toInt + p1.toInt := by have z := i32_add ex1 (by (first | (apply Int.le_antisymm <;> omega) | omega)) (by (first | (apply Int.le_antisymm <;> omega) | omega)); first | exact z | (first | (apply Int.le_antisymm <;> omega) | omega)
  have g11 : vp_in x1 2000 := vp_in_iff.mpr ⟨by (first | (apply Int.le_antisymm <;> omega) | omega), by (first | (apply Int.le_antisymm <;> omega) | omega)⟩
  refine va_iald hx hb hK hP 7 5 rfl rfl g11 d_VA_checkTable_11 ?_
  refine lv_topi (fun x2 ex2 => ?_)
  have tx2 := hlb x1.toNatClampNeg (by have := i32_clamp (x := x1) (by (first | (apply Int.le_antisymm <;> omega) | omega)); (first | (apply Int.le_antisymm <;> omega) | omega))
  rw [← ex2] at tx2
  have hix2 := i32_hi x2
  have hPc := hP.sb (wq := (wz_68 h0 aw ac h0_sound h0_function ty h0_height bo bg bh bd h0_depth bo cbo gbo bg cbg gbg)) [0, 3, 4] rfl
  have hDc := hD.sb (wq := (wz_68 h0 aw ac h0_sound h0_function ty h0_height bo bg bh bd h0_depth bo cbo gbo bg cbg gbg)) [0, 3, 4] (by decide) rfl
  have hKc := hK.sb (tyq := [(cbo, .int), (cbg, .int)]) [1, 2] rfl
  have hFc := va_free (wc := (wz_68 h0 aw ac h0_sound h0_function ty h0_height bo bg bh bd h0_depth bo cbo gbo bg cbg gbg)) hD hS hA [0, 3, 4] rfl
  refine va_calli (va_runV (As := [.int x2]) (rest := []) ⟨hx, hb, hml, hown, hts⟩ (c_VA_labelType l dC dI H.size h0 aw ac ty bo bg bh bd cbo cbg h0_sound h0_function h0_height h0_depth gbo gbg (b_h0_sound) (b_h0_depth) x2 (by (try dsimp only) <;> (first | (apply Int.le_antisymm <;> omega) | omega))) (cwV 1 hts (gV kM_VA_170 kV_VA_labelType kS_VA_labelType kI_VA kC_VA_labelType) rfl rfl rfl (by decide +kernel) ⟨Nat.le_of_ble_eq_true rfl, Nat.le_of_ble_eq_true rfl⟩) ⟨fun a U g mk z => by obtain ⟨z0, z1, zP, zK, zD⟩ := z; exact ⟨z0, z1, zP, va_K.moved (u := U) (U := U.calling g mk a) (Vm.Alike.refl U.vm) zK, zD⟩, va_recv hKc hPc (ci := 9) (q0 := 0) rfl rfl, fun U hU hW => ⟨rfl, by rw [hU], va_P.he hU.symm hPc, va_K.moved hW.alike hKc, hDc.weaken (fun _ _ _ _ => trivial)⟩⟩ rfl rfl hl.1 rfl (lv_room (Nat.le_of_ble_eq_true rfl)) d_VA_checkTable_12 ⟨(Nat.zero_le _), (Nat.zero_le _)⟩) hS (fun q _ h => hFc q h) hFc (fun r3 u t H1 locs ht hvm hw hB hz1 hk1 hS => ?_)
  obtain ⟨n4, rfl⟩ : ∃ z, z = u := ⟨_, rfl⟩
  try dsimp only at hw
  obtain ⟨bn4, xr3⟩ := hw
  try clear hw
  have tn4 := b01 bn4
  obtain ⟨hP1, hK1, hD1⟩ := hB
  replace hP1 := va_P.he ht hP1
  obtain ⟨hP, hD⟩ := va_join (wr := [(ac, .inr (3, [.ref cfi, .ref clk, .ref clt, .int ac_length, .ref cop, .ref cva, .ref cpt, .ref cel, .int ac_labelCount, .ref cla])), (ty, .inl (cty, 5000, .inl gty)), (bh, .inl (cbh, 101, .inl gbh)), (bd, .inl (cbd, 101, .inl gbd)), (cla, .inl (ccla, 2000, .inl gcla))]) (w1 := (wz_68 h0 aw ac n4 h0_function ty h0_height bo bg bh bd h0_depth bo cbo gbo bg cbg gbg)) hP hD [0, 3, 4] [1, 2, 5, 6, 7] rfl rfl (by decide) (by decide) hk1 hFc hP1 hD1
  clear hPc hDc hKc hFc hz1 hk1 hP1 hK1 hD1
  rename Heap => H
  have hP : va_P (dC, dI) cls (wz_81 ac cfi clk clt ac_length cop cva cpt cel ac_labelCount cla ty cty gty bh cbh gbh bd cbd gbd cla ccla gcla h0 aw ac n4 h0_function ty h0_height bo bg bh bd h0_depth bo cbo gbo bg cbg gbg) H := hP
  have hD : va_D A (wz_81 ac cfi clk clt ac_length cop cva cpt cel ac_labelCount cla ty cty gty bh cbh gbh bd cbd gbd cla ccla gcla h0 aw ac n4 h0_function ty h0_height bo bg bh bd h0_depth bo cbo gbo bg cbg gbg) := hD
  refine lv_istore_n (lv' := [(3, .int r3), (0, .ref h0), (1, .int p0), (2, .int p1)]) hx hb d_VA_checkTable_15 rfl hl (by decide) rfl (fun ls hl => ?_)
  refine lv_iconst (v := 0) hx hb d_VA_checkTable_16 (by decide) ?_
  refine lv_istore (lv' := [(4, .int 0), (3, .int r3), (0, .ref h0), (1, .int p0), (2, .int p1)]) hx hb d_VA_checkTable_17 hl (by decide) rfl (fun ls hl => ?_)
  refine w_loop (σ := Int32 × Int32) (fun u H locs ls => match u with | (j19_l4, j19_h0_sound) => (j19_h0_sound = 0 ∨ j19_h0_sound = 1) ∧ (0 ≤ j19_l4.toInt ∧ j19_l4.toInt ≤ p1.toInt) ∧ (j19_h0_sound.toInt = 1 → h0_sound.toInt = 1) ∧ va_P (dC, dI) cls (wz_81 ac cfi clk clt ac_length cop cva cpt cel ac_labelCount cla ty cty gty bh cbh gbh bd cbd gbd cla ccla gcla h0 aw ac j19_h0_sound h0_function ty h0_height bo bg bh bd h0_depth bo cbo gbo bg cbg gbg) H ∧ va_D A (wz_81 ac cfi clk clt ac_length cop cva cpt cel ac_labelCount cla ty cty gty bh cbh gbh bd cbd gbd cla ccla gcla h0 aw ac j19_h0_sound h0_function ty h0_height bo bg bh bd h0_depth bo cbo gbo bg cbg gbg) ∧ va_S A s.heap H locs ∧ lv_has ls 6 [(0, .ref h0), (1, .int p0), (2, .int p1), (3, .int r3), (4, .int j19_l4)]) (fun u => match u with | (j19_l4, j19_h0_sound) => (p1.toInt - j19_l4.toInt).toNat) ?_ (0, n4) ⟨bn4, by (try dsimp only) <;> (first | (apply Int.le_antisymm <;> omega) | omega), by (try dsimp only) <;> (first | (apply Int.le_antisymm <;> omega) | omega), hP, hD, hS, lv_sub hl [2, 3, 4, 1, 0] rfl⟩
  intro N19 ih19 u H locs ls hN19 hI
  obtain ⟨j19_l4, j19_h0_sound⟩ := u
  obtain ⟨b_j19_h0_sound, v1, v2, hP, hD, hS, hl⟩ := hI
  have tj19_h0_sound := b01 b_j19_h0_sound
  have hN19 : (p1.toInt - j19_l4.toInt).toNat < N19 + 1 := hN19
  refine lv_iload hx hb d_VA_checkTable_19 (lv_at hl 4 rfl) ?_
  refine lv_iload_n hx hb d_VA_checkTable_21 rfl (lv_at hl 2 rfl) ?_
  refine lv_icmp_ge (tgt := 71) hx hb d_VA_checkTable_22 (by decide) (fun c22 => ?_) (fun c22 => ?_)
  · have q22 := leI c22
    refine lv_aload_n hx hb d_VA_checkTable_71 rfl (lv_at hl 0 rfl) ?_
    refine lv_bipush (v := 127) hx hb d_VA_checkTable_72 (by decide) ?_
    have hPc := hP.sb (wq := (wz_65 h0 aw ac j19_h0_sound h0_function ty h0_height bo bg bh bd h0_depth ty cty gty bh cbh gbh bd cbd gbd)) [5, 1, 2, 3] rfl
    have hDc := hD.sb (wq := (wz_65 h0 aw ac j19_h0_sound h0_function ty h0_height bo bg bh bd h0_depth ty cty gty bh cbh gbh bd cbd gbd)) [5, 1, 2, 3] (by decide) rfl
    have hKc := hK.sb (tyq := [(cty, .int), (cbh, .int), (cbd, .boolean)]) [0, 3, 4] rfl
    have hFc := va_free (wc := (wz_65 h0 aw ac j19_h0_sound h0_function ty h0_height bo bg bh bd h0_depth ty cty gty bh cbh gbh bd cbd gbd)) hD hS hA [5, 1, 2, 3] rfl
    refine va_callv (va_runV (As := [.int 127]) (rest := []) ⟨hx, hb, hml, hown, hts⟩ (c_VA_pop l dC dI H.size h0 aw ac ty bo bg bh bd cty cbh cbd j19_h0_sound h0_function h0_height h0_depth gty gbh gbd (b_j19_h0_sound) (b_h0_height) (b_h0_depth) (b_gty) (b_gbh) 127 (by (try dsimp only) <;> (first | (apply Int.le_antisymm <;> omega) | omega)) (by (try dsimp only) <;> (first | (apply Int.le_antisymm <;> omega) | omega))) (cwV 1 hts (gV kM_VA_161 kV_VA_pop kS_VA_pop kI_VA kC_VA_pop) rfl rfl rfl (by decide +kernel) ⟨Nat.le_of_ble_eq_true rfl, Nat.le_of_ble_eq_true rfl⟩) ⟨fun a U g mk z => by obtain ⟨z0, z1, zP, zK, zD⟩ := z; exact ⟨z0, z1, zP, va_K.moved (u := U) (U := U.calling g mk a) (Vm.Alike.refl U.vm) zK, zD⟩, va_recv hKc hPc (ci := 9) (q0 := 0) rfl rfl, fun U hU hW => ⟨rfl, by rw [hU], va_P.he hU.symm hPc, va_K.moved hW.alike hKc, hDc.weaken (fun _ _ _ _ => trivial)⟩⟩ rfl rfl hl.1 rfl (lv_room (Nat.le_of_ble_eq_true rfl)) d_VA_checkTable_74 ⟨(Nat.zero_le _), (Nat.zero_le _)⟩) hS (fun q _ h => hFc q h) hFc (fun u t H1 locs ht hvm hw hB hz1 hk1 hS => ?_)
    obtain ⟨n6, n7⟩ := u
    try dsimp only at hw
    obtain ⟨bn6, bn7, xr5⟩ := hw
    try clear hw
    have tn7 := b01 bn7
    obtain ⟨hP1, hK1, hD1⟩ := hB
    replace hP1 := va_P.he ht hP1
    obtain ⟨hP, hD⟩ := va_join (wr := [(ac, .inr (3, [.ref cfi, .ref clk, .ref clt, .int ac_length, .ref cop, .ref cva, .ref cpt, .ref cel, .int ac_labelCount, .ref cla])), (cla, .inl (ccla, 2000, .inl gcla)), (bo, .inl (cbo, 101, .inl gbo)), (bg, .inl (cbg, 101, .inl gbg))]) (w1 := (wz_65 h0 aw ac n7 h0_function ty n6 bo bg bh bd h0_depth ty cty gty bh cbh gbh bd cbd gbd)) hP hD [5, 1, 2, 3] [0, 4, 6, 7] rfl rfl (by decide) (by decide) hk1 hFc hP1 hD1
    clear hPc hDc hKc hFc hz1 hk1 hP1 hK1 hD1
    rename Heap => H
    have hP : va_P (dC, dI) cls (wz_82 ac cfi clk clt ac_length cop cva cpt cel ac_labelCount cla cla ccla gcla bo cbo gbo bg cbg gbg h0 aw ac n7 h0_function ty n6 bo bg bh bd h0_depth ty cty gty bh cbh gbh bd cbd gbd) H := hP
    have hD : va_D A (wz_82 ac cfi clk clt ac_length cop cva cpt cel ac_labelCount cla cla ccla gcla bo cbo gbo bg cbg gbg h0 aw ac n7 h0_function ty n6 bo bg bh bd h0_depth ty cty gty bh cbh gbh bd cbd gbd) := hD
    refine lv_aload_n hx hb d_VA_checkTable_77 rfl (lv_at hl 0 rfl) ?_
    refine lv_iload_n hx hb d_VA_checkTable_78 rfl (lv_at hl 3 rfl) ?_
    have hPc := hP.sb (wq := (wz_65 h0 aw ac n7 h0_function ty n6 bo bg bh bd h0_depth ty cty gty bh cbh gbh bd cbd gbd)) [4, 5, 6, 7] rfl
    have hDc := hD.sb (wq := (wz_65 h0 aw ac n7 h0_function ty n6 bo bg bh bd h0_depth ty cty gty bh cbh gbh bd cbd gbd)) [4, 5, 6, 7] (by decide) rfl
    have hKc := hK.sb (tyq := [(cty, .int), (cbh, .int), (cbd, .boolean)]) [0, 3, 4] rfl
    have hFc := va_free (wc := (wz_65 h0 aw ac n7 h0_function ty n6 bo bg bh bd h0_depth ty cty gty bh cbh gbh bd cbd gbd)) hD hS hA [4, 5, 6, 7] rfl
    refine va_callv (va_runV (As := [.int r3]) (rest := []) ⟨hx, hb, hml, hown, hts⟩ (c_VA_pop l dC dI H.size h0 aw ac ty bo bg bh bd cty cbh cbd n7 h0_function n6 h0_depth gty gbh gbd (bn7) (bn6) (b_h0_depth) (b_gty) (b_gbh) r3 (by (try dsimp only) <;> (first | (apply Int.le_antisymm <;> omega) | omega)) (by (try dsimp only) <;> (first | (apply Int.le_antisymm <;> omega) | omega))) (cwV 1 hts (gV kM_VA_161 kV_VA_pop kS_VA_pop kI_VA kC_VA_pop) rfl rfl rfl (by decide +kernel) ⟨Nat.le_of_ble_eq_true rfl, Nat.le_of_ble_eq_true rfl⟩) ⟨fun a U g mk z => by obtain ⟨z0, z1, zP, zK, zD⟩ := z; exact ⟨z0, z1, zP, va_K.moved (u := U) (U := U.calling g mk a) (Vm.Alike.refl U.vm) zK, zD⟩, va_recv hKc hPc (ci := 9) (q0 := 0) rfl rfl, fun U hU hW => ⟨rfl, by rw [hU], va_P.he hU.symm hPc, va_K.moved hW.alike hKc, hDc.weaken (fun _ _ _ _ => trivial)⟩⟩ rfl rfl hl.1 rfl (lv_room (Nat.le_of_ble_eq_true rfl)) d_VA_checkTable_79 ⟨(Nat.zero_le _), (Nat.zero_le _)⟩) hS (fun q _ h => hFc q h) hFc (fun u t H1 locs ht hvm hw hB hz1 hk1 hS => ?_)
    obtain ⟨n9, n10⟩ := u
    try dsimp only at hw
    obtain ⟨bn9, bn10, xr8⟩ := hw
    try clear hw
    have tn10 := b01 bn10
    obtain ⟨hP1, hK1, hD1⟩ := hB
    replace hP1 := va_P.he ht hP1
    obtain ⟨hP, hD⟩ := va_join (wr := [(ac, .inr (3, [.ref cfi, .ref clk, .ref clt, .int ac_length, .ref cop, .ref cva, .ref cpt, .ref cel, .int ac_labelCount, .ref cla])), (cla, .inl (ccla, 2000, .inl gcla)), (bo, .inl (cbo, 101, .inl gbo)), (bg, .inl (cbg, 101, .inl gbg))]) (w1 := (wz_65 h0 aw ac n10 h0_function ty n9 bo bg bh bd h0_depth ty cty gty bh cbh gbh bd cbd gbd)) hP hD [4, 5, 6, 7] [0, 1, 2, 3] rfl rfl (by decide) (by decide) hk1 hFc hP1 hD1
    clear hPc hDc hKc hFc hz1 hk1 hP1 hK1 hD1
    rename Heap => H
    have hP : va_P (dC, dI) cls (wz_82 ac cfi clk clt ac_length cop cva cpt cel ac_labelCount cla cla ccla gcla bo cbo gbo bg cbg gbg h0 aw ac n10 h0_function ty n9 bo bg bh bd h0_depth ty cty gty bh cbh gbh bd cbd gbd) H := hP
    have hD : va_D A (wz_82 ac cfi clk clt ac_length cop cva cpt cel ac_labelCount cla cla ccla gcla bo cbo gbo bg cbg gbg h0 aw ac n10 h0_function ty n9 bo bg bh bd h0_depth ty cty gty bh cbh gbh bd cbd gbd) := hD
    refine lv_aload_n hx hb d_VA_checkTable_82 rfl (lv_at hl 0 rfl) ?_
    have hPc := hP.sb (wq := (wz_68 h0 aw ac n10 h0_function ty n9 bo bg bh bd h0_depth bh cbh gbh bd cbd gbd)) [4, 6, 7] rfl
    have hDc := hD.sb (wq := (wz_68 h0 aw ac n10 h0_function ty n9 bo bg bh bd h0_depth bh cbh gbh bd cbd gbd)) [4, 6, 7] (by decide) rfl
    have hKc := hK.sb (tyq := [(cbh, .int), (cbd, .boolean)]) [3, 4] rfl
    have hFc := va_free (wc := (wz_68 h0 aw ac n10 h0_function ty n9 bo bg bh bd h0_depth bh cbh gbh bd cbd gbd)) hD hS hA [4, 6, 7] rfl
    refine va_callv (va_runV (As := []) (rest := []) ⟨hx, hb, hml, hown, hts⟩ (c_VA_die l dC dI H.size h0 aw ac ty bo bg bh bd cbh cbd n10 h0_function n9 h0_depth gbh gbd (bn9) (b_h0_depth) (b_gbh) (by (try dsimp only) <;> (first | (apply Int.le_antisymm <;> omega) | omega))) (cwV 0 hts (gV kM_VA_158 kV_VA_die kS_VA_die kI_VA kC_VA_die) rfl rfl rfl (by decide +kernel) ⟨Nat.le_of_ble_eq_true rfl, Nat.le_of_ble_eq_true rfl⟩) ⟨fun a U g mk z => by obtain ⟨z0, z1, zP, zK, zD⟩ := z; exact ⟨z0, z1, zP, va_K.moved (u := U) (U := U.calling g mk a) (Vm.Alike.refl U.vm) zK, zD⟩, va_recv hKc hPc (ci := 9) (q0 := 0) rfl rfl, fun U hU hW => ⟨rfl, by rw [hU], va_P.he hU.symm hPc, va_K.moved hW.alike hKc, hDc.weaken (fun _ _ _ _ => trivial)⟩⟩ rfl rfl hl.1 rfl (lv_room (Nat.le_of_ble_eq_true rfl)) d_VA_checkTable_83 ⟨(Nat.zero_le _), (Nat.zero_le _)⟩) hS (fun q _ h => hFc q h) hFc (fun u t H1 locs ht hvm hw hB hz1 hk1 hS => ?_)
    obtain ⟨n12, n13⟩ := u
    try dsimp only at hw
    obtain ⟨bn13, xr11⟩ := hw
    try clear hw
    obtain ⟨hP1, hK1, hD1⟩ := hB
    replace hP1 := va_P.he ht hP1
    obtain ⟨hP, hD⟩ := va_join (wr := [(ac, .inr (3, [.ref cfi, .ref clk, .ref clt, .int ac_length, .ref cop, .ref cva, .ref cpt, .ref cel, .int ac_labelCount, .ref cla])), (cla, .inl (ccla, 2000, .inl gcla)), (bo, .inl (cbo, 101, .inl gbo)), (bg, .inl (cbg, 101, .inl gbg)), (ty, .inl (cty, 5000, .inl gty))]) (w1 := (wz_68 h0 aw ac n10 h0_function ty n13 bo bg bh bd h0_depth bh cbh gbh bd cbd n12)) hP hD [4, 6, 7] [0, 1, 2, 3, 5] rfl rfl (by decide) (by decide) hk1 hFc hP1 hD1
    clear hPc hDc hKc hFc hz1 hk1 hP1 hK1 hD1
    rename Heap => H
    have hP : va_P (dC, dI) cls [(ac, .inr (3, [.ref cfi, .ref clk, .ref clt, .int ac_length, .ref cop, .ref cva, .ref cpt, .ref cel, .int ac_labelCount, .ref cla])), (cla, .inl (ccla, 2000, .inl gcla)), (bo, .inl (cbo, 101, .inl gbo)), (bg, .inl (cbg, 101, .inl gbg)), (ty, .inl (cty, 5000, .inl gty)), (h0, .inr (9, [.ref aw, .ref ac, .int n10, .int h0_function, .ref ty, .int n13, .ref bo, .ref bg, .ref bh, .ref bd, .int h0_depth])), (bh, .inl (cbh, 101, .inl gbh)), (bd, .inl (cbd, 101, .inl n12))] H := hP
    have hD : va_D A [(ac, .inr (3, [.ref cfi, .ref clk, .ref clt, .int ac_length, .ref cop, .ref cva, .ref cpt, .ref cel, .int ac_labelCount, .ref cla])), (cla, .inl (ccla, 2000, .inl gcla)), (bo, .inl (cbo, 101, .inl gbo)), (bg, .inl (cbg, 101, .inl gbg)), (ty, .inl (cty, 5000, .inl gty)), (h0, .inr (9, [.ref aw, .ref ac, .int n10, .int h0_function, .ref ty, .int n13, .ref bo, .ref bg, .ref bh, .ref bd, .int h0_depth])), (bh, .inl (cbh, 101, .inl gbh)), (bd, .inl (cbd, 101, .inl n12))] := hD
    have hP9 := hP.sb (wq := (wz_80 h0 aw ac n10 h0_function ty n13 bo bg bh bd h0_depth ac cfi clk clt ac_length cop cva cpt cel ac_labelCount cla ty cty gty bo cbo gbo bg cbg gbg bh cbh gbh bd cbd n12 cla ccla gcla)) [5, 0, 4, 2, 3, 6, 7, 1] rfl
    have hD9 := hD.sb (wq := (wz_80 h0 aw ac n10 h0_function ty n13 bo bg bh bd h0_depth ac cfi clk clt ac_length cop cva cpt cel ac_labelCount cla ty cty gty bo cbo gbo bg cbg gbg bh cbh gbh bd cbd n12 cla ccla gcla)) [5, 0, 4, 2, 3, 6, 7, 1] (by decide) rfl
    exact W.vret hx hb hr (fun t ht hW => ⟨⟨(n12, n13, n10), rfl, ⟨bn13, bn10, ⟨⟨xr11.1, xr11.2⟩, by (try dsimp only) <;> (first | (apply Int.le_antisymm <;> omega) | omega)⟩⟩, va_P.he ht.symm hP9, va_K.moved hW.alike hK, hD9⟩, hS.F ht⟩) hS.2.2 d_VA_checkTable_86
  · have q22 := nleI c22
    refine lv_aload_n hx hb d_VA_checkTable_25 rfl (lv_at hl 0 rfl) ?_
    refine lv_aload_n hx hb d_VA_checkTable_26 rfl (lv_at hl 0 rfl) ?_
    refine va_get (D := (dC, dI)) (ci := 9) (v := .ref ac) (C := R_VA) (T := F_VA) (N := 11) hx hb hts i_VA hown hK hP 5 rfl rfl 1 (by decide) (hts _ kF_VA_38) (fun _ h9 => h9) rfl d_VA_checkTable_27 ?_
    refine va_get (D := (dC, dI)) (ci := 3) (v := .ref cla) (C := R_CD) (T := F_CD) (N := 10) hx hb hts i_CD hown hK hP 0 rfl rfl 9 (by decide) (hts _ kF_VA_179) (fun _ h9 => h9) rfl d_VA_checkTable_30 ?_
    refine lv_iload_n hx hb d_VA_checkTable_33 rfl (lv_at hl 1 rfl) ?_
    refine lv_iload hx hb d_VA_checkTable_34 (lv_at hl 4 rfl) ?_
    refine lv_iadd hx hb d_VA_checkTable_36 ?_
    refine lv_topi (fun x14 ex14 => ?_)
    have tx14 : x14.toInt = p0.toInt + j19_l4.toInt := by have z := i32_add ex14 (by (first | (apply Int.le_antisymm <;> omega) | omega)) (by (first | (apply Int.le_antisymm <;> omega) | omega)); first | exact z | (first | (apply Int.le_antisymm <;> omega) | omega)
    have g37 : vp_in x14 2000 := vp_in_iff.mpr ⟨by (first | (apply Int.le_antisymm <;> omega) | omega), by (first | (apply Int.le_antisymm <;> omega) | omega)⟩
    refine va_iald hx hb hK hP 4 5 rfl rfl g37 d_VA_checkTable_37 ?_
    refine lv_topi (fun x15 ex15 => ?_)
    have tx15 := hlb x14.toNatClampNeg (by have := i32_clamp (x := x14) (by (first | (apply Int.le_antisymm <;> omega) | omega)); (first | (apply Int.le_antisymm <;> omega) | omega))
    rw [← ex15] at tx15
    have hix15 := i32_hi x15
    have hPc := hP.sb (wq := (wz_68 h0 aw ac j19_h0_sound h0_function ty h0_height bo bg bh bd h0_depth bo cbo gbo bg cbg gbg)) [5, 6, 7] rfl
    have hDc := hD.sb (wq := (wz_68 h0 aw ac j19_h0_sound h0_function ty h0_height bo bg bh bd h0_depth bo cbo gbo bg cbg gbg)) [5, 6, 7] (by decide) rfl
    have hKc := hK.sb (tyq := [(cbo, .int), (cbg, .int)]) [1, 2] rfl
    have hFc := va_free (wc := (wz_68 h0 aw ac j19_h0_sound h0_function ty h0_height bo bg bh bd h0_depth bo cbo gbo bg cbg gbg)) hD hS hA [5, 6, 7] rfl
    refine va_calli (va_runV (As := [.int x15]) (rest := []) ⟨hx, hb, hml, hown, hts⟩ (c_VA_labelType l dC dI H.size h0 aw ac ty bo bg bh bd cbo cbg j19_h0_sound h0_function h0_height h0_depth gbo gbg (b_j19_h0_sound) (b_h0_depth) x15 (by (try dsimp only) <;> (first | (apply Int.le_antisymm <;> omega) | omega))) (cwV 1 hts (gV kM_VA_170 kV_VA_labelType kS_VA_labelType kI_VA kC_VA_labelType) rfl rfl rfl (by decide +kernel) ⟨Nat.le_of_ble_eq_true rfl, Nat.le_of_ble_eq_true rfl⟩) ⟨fun a U g mk z => by obtain ⟨z0, z1, zP, zK, zD⟩ := z; exact ⟨z0, z1, zP, va_K.moved (u := U) (U := U.calling g mk a) (Vm.Alike.refl U.vm) zK, zD⟩, va_recv hKc hPc (ci := 9) (q0 := 0) rfl rfl, fun U hU hW => ⟨rfl, by rw [hU], va_P.he hU.symm hPc, va_K.moved hW.alike hKc, hDc.weaken (fun _ _ _ _ => trivial)⟩⟩ rfl rfl hl.1 rfl (lv_room (Nat.le_of_ble_eq_true rfl)) d_VA_checkTable_38 ⟨(Nat.zero_le _), (Nat.zero_le _)⟩) hS (fun q _ h => hFc q h) hFc (fun r16 u t H1 locs ht hvm hw hB hz1 hk1 hS => ?_)
    obtain ⟨n17, rfl⟩ : ∃ z, z = u := ⟨_, rfl⟩
    try dsimp only at hw
    obtain ⟨bn17, xr16⟩ := hw
    try clear hw
    have tn17 := b01 bn17
    obtain ⟨hP1, hK1, hD1⟩ := hB
    replace hP1 := va_P.he ht hP1
    obtain ⟨hP, hD⟩ := va_join (wr := [(ac, .inr (3, [.ref cfi, .ref clk, .ref clt, .int ac_length, .ref cop, .ref cva, .ref cpt, .ref cel, .int ac_labelCount, .ref cla])), (ty, .inl (cty, 5000, .inl gty)), (bh, .inl (cbh, 101, .inl gbh)), (bd, .inl (cbd, 101, .inl gbd)), (cla, .inl (ccla, 2000, .inl gcla))]) (w1 := (wz_68 h0 aw ac n17 h0_function ty h0_height bo bg bh bd h0_depth bo cbo gbo bg cbg gbg)) hP hD [5, 6, 7] [0, 1, 2, 3, 4] rfl rfl (by decide) (by decide) hk1 hFc hP1 hD1
    clear hPc hDc hKc hFc hz1 hk1 hP1 hK1 hD1
    rename Heap => H
    have hP : va_P (dC, dI) cls (wz_81 ac cfi clk clt ac_length cop cva cpt cel ac_labelCount cla ty cty gty bh cbh gbh bd cbd gbd cla ccla gcla h0 aw ac n17 h0_function ty h0_height bo bg bh bd h0_depth bo cbo gbo bg cbg gbg) H := hP
    have hD : va_D A (wz_81 ac cfi clk clt ac_length cop cva cpt cel ac_labelCount cla ty cty gty bh cbh gbh bd cbd gbd cla ccla gcla h0 aw ac n17 h0_function ty h0_height bo bg bh bd h0_depth bo cbo gbo bg cbg gbg) := hD
    refine lv_istore (lv' := [(5, .int r16), (0, .ref h0), (1, .int p0), (2, .int p1), (3, .int r3), (4, .int j19_l4)]) hx hb d_VA_checkTable_41 hl (by decide) rfl (fun ls hl => ?_)
    refine lv_aload_n hx hb d_VA_checkTable_43 rfl (lv_at hl 1 rfl) ?_
    refine lv_aload_n hx hb d_VA_checkTable_44 rfl (lv_at hl 1 rfl) ?_
    refine va_get (D := (dC, dI)) (ci := 9) (v := .int n17) (C := R_VA) (T := F_VA) (N := 11) hx hb hts i_VA hown hK hP 5 rfl rfl 2 (by decide) (hts _ kF_VA_39) (fun _ h9 => h9) rfl d_VA_checkTable_45 ?_
    refine w_cut (pc2 := 62) (σ := Int32) (fun u H locs ls => match u with | j62_s0 => (j62_s0 = 0 ∨ j62_s0 = 1) ∧ (j62_s0.toInt = 1 → n17.toInt = 1) ∧ va_P (dC, dI) cls (wz_81 ac cfi clk clt ac_length cop cva cpt cel ac_labelCount cla ty cty gty bh cbh gbh bd cbd gbd cla ccla gcla h0 aw ac n17 h0_function ty h0_height bo bg bh bd h0_depth bo cbo gbo bg cbg gbg) H ∧ va_D A (wz_81 ac cfi clk clt ac_length cop cva cpt cel ac_labelCount cla ty cty gty bh cbh gbh bd cbd gbd cla ccla gcla h0 aw ac n17 h0_function ty h0_height bo bg bh bd h0_depth bo cbo gbo bg cbg gbg) ∧ va_S A s.heap H locs ∧ lv_has ls 6 [(0, .ref h0), (1, .int p0), (2, .int p1), (3, .int r3), (4, .int j19_l4)]) (fun u => match u with | j62_s0 => [.int j62_s0, .ref h0]) ?_ (fun jn62 => ?_)
    · intro u H locs ls hI
      obtain ⟨j62_s0, rfl⟩ : ∃ z, z = u := ⟨_, rfl⟩
      obtain ⟨b_j62_s0, x0, hP, hD, hS, hl⟩ := hI
      have tj62_s0 := b01 b_j62_s0
      refine va_put (D := (dC, dI)) (ci := 9) (v := .int j62_s0) (ty := .boolean) (C := R_VA) (T := F_VA) (N := 11) hx hb hts i_VA t_VA t_VA_ok n_VA hown hK hP hD hS 5 rfl rfl 2 (by decide) (hts _ kF_VA_39) (fun _ h9 => h9) rfl (by decide +kernel) (zn01 (b_j62_s0)) (fz01 (b_j62_s0)) (Nat.le_of_ble_eq_true rfl) d_VA_checkTable_62 (fun H locs hP hD hS => ?_)
      obtain ⟨x18, ex18⟩ : ∃ z : Int32, z = j19_l4 + 1 := ⟨_, rfl⟩
      have tx18 : x18.toInt = j19_l4.toInt + 1 := by have z := i32_add ex18 (by (first | (apply Int.le_antisymm <;> omega) | omega)) (by (first | (apply Int.le_antisymm <;> omega) | omega)); first | exact z | (first | (apply Int.le_antisymm <;> omega) | omega)
      refine lv_iinc (v := x18) (lv' := [(4, .int x18), (0, .ref h0), (1, .int p0), (2, .int p1), (3, .int r3)]) hx hb d_VA_checkTable_65 hl (k := 4) rfl (by rw [ex18]; rfl) (by decide) rfl (fun ls hl => ?_)
      refine lv_goto (tgt := 19) hx hb d_VA_checkTable_68 (by decide) ?_
      exact ih19 (x18, j62_s0) _ _ _ (by show (p1.toInt - x18.toInt).toNat < N19; (first | (apply Int.le_antisymm <;> omega) | omega)) ⟨b_j62_s0, by (try dsimp only) <;> (first | (apply Int.le_antisymm <;> omega) | omega), by (try dsimp only) <;> (first | (apply Int.le_antisymm <;> omega) | omega), hP, hD, hS, lv_sub hl [1, 2, 3, 4, 0] rfl⟩
    · skip
      refine w_cut (pc2 := 61) (σ := Unit) (fun u H locs ls => match u with | _ => va_P (dC, dI) cls (wz_81 ac cfi clk clt ac_length cop cva cpt cel ac_labelCount cla ty cty gty bh cbh gbh bd cbd gbd cla ccla gcla h0 aw ac n17 h0_function ty h0_height bo bg bh bd h0_depth bo cbo gbo bg cbg gbg) H ∧ va_D A (wz_81 ac cfi clk clt ac_length cop cva cpt cel ac_labelCount cla ty cty gty bh cbh gbh bd cbd gbd cla ccla gcla h0 aw ac n17 h0_function ty h0_height bo bg bh bd h0_depth bo cbo gbo bg cbg gbg) ∧ va_S A s.heap H locs ∧ lv_has ls 6 [(0, .ref h0), (1, .int p0), (2, .int p1), (3, .int r3), (4, .int j19_l4)]) (fun u => match u with | _ => [.ref h0]) ?_ (fun jn61 => ?_)
      · intro u H locs ls hI
        obtain ⟨hP, hD, hS, hl⟩ := hI
        refine lv_iconst (v := 0) hx hb d_VA_checkTable_61 (by decide) ?_
        exact jn62 0 _ _ _ ⟨Or.inl rfl, by (try dsimp only) <;> (first | (apply Int.le_antisymm <;> omega) | omega), hP, hD, hS, lv_sub hl [0, 1, 2, 3, 4] rfl⟩
      · skip
        refine lv_if_eq (tgt := 61) hx hb d_VA_checkTable_48 (by decide) (fun c48 => ?_) (fun c48 => ?_)
        · have q48 := eqI c48
          exact jn61 () _ _ _ ⟨hP, hD, hS, lv_sub hl [1, 2, 3, 4, 5] rfl⟩
        · have q48 := neI c48
          refine lv_iload hx hb d_VA_checkTable_51 (lv_at hl 0 rfl) ?_
          refine lv_iload_n hx hb d_VA_checkTable_53 rfl (lv_at hl 4 rfl) ?_
          refine lv_icmp_ne (tgt := 61) hx hb d_VA_checkTable_54 (by decide) (fun c54 => ?_) (fun c54 => ?_)
          · have q54 := neI c54
            exact jn61 () _ _ _ ⟨hP, hD, hS, lv_sub hl [1, 2, 3, 4, 5] rfl⟩
          · have q54 := eqI c54
            refine lv_iconst (v := 1) hx hb d_VA_checkTable_57 (by decide) ?_
            refine lv_goto (tgt := 62) hx hb d_VA_checkTable_58 (by decide) ?_
            exact jn62 1 _ _ _ ⟨Or.inr rfl, by (try dsimp only) <;> (first | (apply Int.le_antisymm <;> omega) | omega), hP, hD, hS, lv_sub hl [1, 2, 3, 4, 5] rfl⟩
abbrev b_VA_checkJump : ByteArray := prog_12_method_7_code
def y_VA_checkJump : MethodName := ⟨R_VA, "checkJump", "(II)V"⟩
abbrev w_VA_checkJump : List Cond := .code y_VA_checkJump b_VA_checkJump 4 none :: lw_g
theorem kC_VA_checkJump : Cond.code y_VA_checkJump b_VA_checkJump 4 none ∈ lw_g := in_c7 3 rfl rfl
theorem d_VA_checkJump_0 : decode b_VA_checkJump 0 = .ok (.aload_n 0, 1) := bz_c42 (by decide +kernel)
theorem d_VA_checkJump_1 : decode b_VA_checkJump 1 = .ok (.getfield 38, 3) := bz_c180 (by decide +kernel)
theorem d_VA_checkJump_4 : decode b_VA_checkJump 4 = .ok (.getfield 136, 3) := bz_c180 (by decide +kernel)
theorem d_VA_checkJump_7 : decode b_VA_checkJump 7 = .ok (.iload_n 2, 1) := bz_c28 (by decide +kernel)
theorem d_VA_checkJump_8 : decode b_VA_checkJump 8 = .ok (.laload, 1) := bz_c47 (by decide +kernel)
theorem d_VA_checkJump_9 : decode b_VA_checkJump 9 = .ok (.l2i, 1) := bz_c136 (by decide +kernel)
theorem d_VA_checkJump_10 : decode b_VA_checkJump 10 = .ok (.istore_n 3, 1) := bz_c62 (by decide +kernel)
theorem d_VA_checkJump_11 : decode b_VA_checkJump 11 = .ok (.iload_n 1, 1) := bz_c27 (by decide +kernel)
theorem d_VA_checkJump_12 : decode b_VA_checkJump 12 = .ok (.tableswitch 114 12 15 #[32, 48, 75, 92], 32) := by decide +kernel
theorem d_VA_checkJump_44 : decode b_VA_checkJump 44 = .ok (.aload_n 0, 1) := bz_c42 (by decide +kernel)
theorem d_VA_checkJump_45 : decode b_VA_checkJump 45 = .ok (.aload_n 0, 1) := bz_c42 (by decide +kernel)
theorem d_VA_checkJump_46 : decode b_VA_checkJump 46 = .ok (.iload_n 3, 1) := bz_c29 (by decide +kernel)
theorem d_VA_checkJump_47 : decode b_VA_checkJump 47 = .ok (.invokevirtual 170, 3) := bz_c182 (by decide +kernel)
theorem d_VA_checkJump_50 : decode b_VA_checkJump 50 = .ok (.invokevirtual 161, 3) := bz_c182 (by decide +kernel)
theorem d_VA_checkJump_53 : decode b_VA_checkJump 53 = .ok (.aload_n 0, 1) := bz_c42 (by decide +kernel)
theorem d_VA_checkJump_54 : decode b_VA_checkJump 54 = .ok (.invokevirtual 158, 3) := bz_c182 (by decide +kernel)
theorem d_VA_checkJump_57 : decode b_VA_checkJump 57 = .ok (.goto 74, 3) := bz_c167 (by decide +kernel)
theorem d_VA_checkJump_60 : decode b_VA_checkJump 60 = .ok (.aload_n 0, 1) := bz_c42 (by decide +kernel)
theorem d_VA_checkJump_61 : decode b_VA_checkJump 61 = .ok (.bipush 127, 2) := bz_c16 (by decide +kernel)
theorem d_VA_checkJump_63 : decode b_VA_checkJump 63 = .ok (.invokevirtual 161, 3) := bz_c182 (by decide +kernel)
theorem d_VA_checkJump_66 : decode b_VA_checkJump 66 = .ok (.aload_n 0, 1) := bz_c42 (by decide +kernel)
theorem d_VA_checkJump_67 : decode b_VA_checkJump 67 = .ok (.aload_n 0, 1) := bz_c42 (by decide +kernel)
theorem d_VA_checkJump_68 : decode b_VA_checkJump 68 = .ok (.iload_n 3, 1) := bz_c29 (by decide +kernel)
theorem d_VA_checkJump_69 : decode b_VA_checkJump 69 = .ok (.invokevirtual 170, 3) := bz_c182 (by decide +kernel)
theorem d_VA_checkJump_72 : decode b_VA_checkJump 72 = .ok (.invokevirtual 161, 3) := bz_c182 (by decide +kernel)
theorem d_VA_checkJump_75 : decode b_VA_checkJump 75 = .ok (.aload_n 0, 1) := bz_c42 (by decide +kernel)
theorem d_VA_checkJump_76 : decode b_VA_checkJump 76 = .ok (.aload_n 0, 1) := bz_c42 (by decide +kernel)
theorem d_VA_checkJump_77 : decode b_VA_checkJump 77 = .ok (.iload_n 3, 1) := bz_c29 (by decide +kernel)
theorem d_VA_checkJump_78 : decode b_VA_checkJump 78 = .ok (.invokevirtual 170, 3) := bz_c182 (by decide +kernel)
theorem d_VA_checkJump_81 : decode b_VA_checkJump 81 = .ok (.invokevirtual 167, 3) := bz_c182 (by decide +kernel)
theorem d_VA_checkJump_84 : decode b_VA_checkJump 84 = .ok (.goto 47, 3) := bz_c167 (by decide +kernel)
theorem d_VA_checkJump_87 : decode b_VA_checkJump 87 = .ok (.aload_n 0, 1) := bz_c42 (by decide +kernel)
theorem d_VA_checkJump_88 : decode b_VA_checkJump 88 = .ok (.iload_n 3, 1) := bz_c29 (by decide +kernel)
theorem d_VA_checkJump_89 : decode b_VA_checkJump 89 = .ok (.aload_n 0, 1) := bz_c42 (by decide +kernel)
theorem d_VA_checkJump_90 : decode b_VA_checkJump 90 = .ok (.getfield 38, 3) := bz_c180 (by decide +kernel)
theorem d_VA_checkJump_93 : decode b_VA_checkJump 93 = .ok (.getfield 149, 3) := bz_c180 (by decide +kernel)
theorem d_VA_checkJump_96 : decode b_VA_checkJump 96 = .ok (.iload_n 2, 1) := bz_c28 (by decide +kernel)
theorem d_VA_checkJump_97 : decode b_VA_checkJump 97 = .ok (.iaload, 1) := bz_c46 (by decide +kernel)
theorem d_VA_checkJump_98 : decode b_VA_checkJump 98 = .ok (.invokevirtual 173, 3) := bz_c182 (by decide +kernel)
theorem d_VA_checkJump_101 : decode b_VA_checkJump 101 = .ok (.goto 30, 3) := bz_c167 (by decide +kernel)
theorem d_VA_checkJump_104 : decode b_VA_checkJump 104 = .ok (.aload_n 0, 1) := bz_c42 (by decide +kernel)
theorem d_VA_checkJump_105 : decode b_VA_checkJump 105 = .ok (.aload_n 0, 1) := bz_c42 (by decide +kernel)
theorem d_VA_checkJump_106 : decode b_VA_checkJump 106 = .ok (.getfield 28, 3) := bz_c180 (by decide +kernel)
theorem d_VA_checkJump_109 : decode b_VA_checkJump 109 = .ok (.aload_n 0, 1) := bz_c42 (by decide +kernel)
theorem d_VA_checkJump_110 : decode b_VA_checkJump 110 = .ok (.getfield 111, 3) := bz_c180 (by decide +kernel)
theorem d_VA_checkJump_113 : decode b_VA_checkJump 113 = .ok (.invokevirtual 120, 3) := bz_c182 (by decide +kernel)
theorem d_VA_checkJump_116 : decode b_VA_checkJump 116 = .ok (.invokevirtual 161, 3) := bz_c182 (by decide +kernel)
theorem d_VA_checkJump_119 : decode b_VA_checkJump 119 = .ok (.aload_n 0, 1) := bz_c42 (by decide +kernel)
theorem d_VA_checkJump_120 : decode b_VA_checkJump 120 = .ok (.invokevirtual 158, 3) := bz_c182 (by decide +kernel)
theorem d_VA_checkJump_123 : decode b_VA_checkJump 123 = .ok (.goto 8, 3) := bz_c167 (by decide +kernel)
theorem d_VA_checkJump_126 : decode b_VA_checkJump 126 = .ok (.aload_n 0, 1) := bz_c42 (by decide +kernel)
theorem d_VA_checkJump_127 : decode b_VA_checkJump 127 = .ok (.iload_n 3, 1) := bz_c29 (by decide +kernel)
theorem d_VA_checkJump_128 : decode b_VA_checkJump 128 = .ok (.invokevirtual 176, 3) := bz_c182 (by decide +kernel)
theorem d_VA_checkJump_131 : decode b_VA_checkJump 131 = .ok (.return_, 1) := bz_c177 (by decide +kernel)
theorem kM_VA_176 : Cond.methodLink R_VA 176 y_VA_checkCall ∈ lw_g := in_c7 12 rfl rfl
theorem kV_VA_checkCall : Cond.instanceMethod y_VA_checkCall ∈ lw_g := in_c7 14 rfl rfl
theorem kS_VA_checkCall : Cond.selects R_VA y_VA_checkCall y_VA_checkCall ∈ lw_g := in_s 94 (by decide +kernel) rfl
theorem kM_VA_173 : Cond.methodLink R_VA 173 y_VA_checkTable ∈ lw_g := in_c7 8 rfl rfl
theorem kV_VA_checkTable : Cond.instanceMethod y_VA_checkTable ∈ lw_g := in_c7 10 rfl rfl
theorem kS_VA_checkTable : Cond.selects R_VA y_VA_checkTable y_VA_checkTable ∈ lw_g := in_s 93 (by decide +kernel) rfl
theorem kF_VA_136 : Cond.fieldLink R_VA 136 "WaferForge$Codes" "values" "[J" ∈ lw_g := in_c1 102 rfl rfl
theorem kF_VA_149 : Cond.fieldLink R_VA 149 "WaferForge$Codes" "partners" "[I" ∈ lw_g := in_c1 107 rfl rfl
abbrev at_VA_checkJump (dC : Nat → ClassId) (dI : Nat → Nat → Nat) (h0 aw ac ty bo bg bh bd wat wap wag waf cfi clk clt cop cva cpt cel cla : Nat) (cty cbo cbg cbh cbd cwaf cwat cwap cwag cclk cclt ccop ccva ccpt ccla : ClassId) (h0_function : Int32) (h0_depth : Int32) (law : List Value) (aw_functionCount : Int32) (ac_length : Int32) (ac_labelCount : Int32) (gbo : Nat → Int32) (gbg : Nat → Int32) (gbh : Nat → Int32) (gwaf : Nat → Int32) (gwat : Nat → Int32) (gwap : Nat → Int32) (gwag : Nat → Int32) (gclk : Nat → Int32) (gclt : Nat → Int32) (gcop : Nat → Int32) (gcva : Nat → Int64) (gcpt : Nat → Int32) (gcla : Nat → Int32) (A : Nat → Prop) (u : (Nat → Int32) × (Nat → Int32) × Int32 × Int32) (t : State) : Prop := match u with | (gbd, gty, h0_height, h0_sound) => va_P (dC, dI) cls (wz_83 h0 aw ac h0_sound h0_function ty h0_height bo bg bh bd h0_depth aw law ac cfi clk clt ac_length cop cva cpt cel ac_labelCount cla ty cty gty bo cbo gbo bg cbg gbg bh cbh gbh bd cbd gbd waf cwaf gwaf wat cwat gwat wap cwap gwap wag cwag gwag clk cclk gclk clt cclt gclt cop ccop gcop cva ccva gcva cpt ccpt gcpt cla ccla gcla) t.heap ∧ va_K (dC, dI) cls [(cty, .int), (cbo, .int), (cbg, .int), (cbh, .int), (cbd, .boolean), (cwaf, .int), (cwat, .int), (cwap, .int), (cwag, .int), (cclk, .int), (cclt, .int), (ccop, .int), (ccva, .long), (ccpt, .int), (ccla, .int)] t ∧ va_D A (wz_83 h0 aw ac h0_sound h0_function ty h0_height bo bg bh bd h0_depth aw law ac cfi clk clt ac_length cop cva cpt cel ac_labelCount cla ty cty gty bo cbo gbo bg cbg gbg bh cbh gbh bd cbd gbd waf cwaf gwaf wat cwat gwat wap cwap gwap wag cwag gwag clk cclk gclk clt cclt gclt cop ccop gcop cva ccva gcva cpt ccpt gcpt cla ccla gcla)
set_option maxHeartbeats 4000000 in
set_option maxRecDepth 100000 in
theorem c_VA_checkJump (l : Launch) (dC : Nat → ClassId) (dI : Nat → Nat → Nat) (sz : Nat) (h0 aw ac ty bo bg bh bd wat wap wag waf cfi clk clt cop cva cpt cel cla : Nat) (cty cbo cbg cbh cbd cwaf cwat cwap cwag cclk cclt ccop ccva ccpt ccla : ClassId) (h0_sound : Int32) (h0_function : Int32) (h0_height : Int32) (h0_depth : Int32) (law : List Value) (aw_functionCount : Int32) (ac_length : Int32) (ac_labelCount : Int32) (gty : Nat → Int32) (gbo : Nat → Int32) (gbg : Nat → Int32) (gbh : Nat → Int32) (gbd : Nat → Int32) (gwaf : Nat → Int32) (gwat : Nat → Int32) (gwap : Nat → Int32) (gwag : Nat → Int32) (gclk : Nat → Int32) (gclt : Nat → Int32) (gcop : Nat → Int32) (gcva : Nat → Int64) (gcpt : Nat → Int32) (gcla : Nat → Int32) (paw_1 : law[1]? = some (.ref ac)) (paw_3 : law[3]? = some (.ref wat)) (paw_4 : law[4]? = some (.ref wap)) (paw_5 : law[5]? = some (.ref wag)) (paw_6 : law[6]? = some (.int aw_functionCount)) (paw_7 : law[7]? = some (.ref waf)) (plaw : law.length = 21) (b_h0_sound : h0_sound = 0 ∨ h0_sound = 1) (b_h0_height : 0 ≤ h0_height.toInt ∧ h0_height.toInt ≤ 5000) (b_h0_depth : 0 ≤ h0_depth.toInt ∧ h0_depth.toInt ≤ 101) (b_ac_labelCount : 0 ≤ ac_labelCount.toInt ∧ ac_labelCount.toInt ≤ 2000) (b_gty : ∀ j : Nat, (gty j).toInt ≠ 64) (b_gbh : ∀ j : Nat, 0 ≤ (gbh j).toInt ∧ (gbh j).toInt ≤ 5000) (b_aw_functionCount : 0 ≤ aw_functionCount.toInt ∧ aw_functionCount.toInt ≤ 30) (p0 : Int32) (p1 : Int32) (ba1 : 0 ≤ p1.toInt ∧ p1.toInt ≤ 4999) (hd1 : 1 ≤ h0_depth.toInt) (hbh : (gbh (h0_depth.toInt - 1).toNat).toInt ≤ h0_height.toInt) (hh5 : h0_height.toInt < 5000) (hfu : 0 ≤ h0_function.toInt ∧ h0_function.toInt < aw_functionCount.toInt ∧ aw_functionCount.toInt ≤ 30) (hwf : ∀ f : Nat, (f : Int) < aw_functionCount.toInt → vw_fun gwaf gwat gwap gclk gclt f) (hlb : ∀ j : Nat, (j : Int) < ac_labelCount.toInt → 0 ≤ (gcla j).toInt) (ho : p0 = gcop p1.toNatClampNeg) (hvl : rs_val gcop gcpt gcva ac_labelCount.toInt p1.toNatClampNeg) (hop : 12 ≤ p0.toInt ∧ p0.toInt ≤ 16) : Met l y_VA_checkJump w_VA_checkJump ({ frames := 3, cells := 0, slots := 0, locals := 67 }) (va_Pc [.ref h0, .int p0, .int p1] (fun U => U.heap.size = sz ∧ va_P (dC, dI) cls (wz_83 h0 aw ac h0_sound h0_function ty h0_height bo bg bh bd h0_depth aw law ac cfi clk clt ac_length cop cva cpt cel ac_labelCount cla ty cty gty bo cbo gbo bg cbg gbg bh cbh gbh bd cbd gbd waf cwaf gwaf wat cwat gwat wap cwap gwap wag cwag gwag clk cclk gclk clt cclt gclt cop ccop gcop cva ccva gcva cpt ccpt gcpt cla ccla gcla) U.heap ∧ va_K (dC, dI) cls [(cty, .int), (cbo, .int), (cbg, .int), (cbh, .int), (cbd, .boolean), (cwaf, .int), (cwat, .int), (cwap, .int), (cwag, .int), (cclk, .int), (cclt, .int), (ccop, .int), (ccva, .long), (ccpt, .int), (ccla, .int)] U ∧ va_D (fun _ => True) (wz_83 h0 aw ac h0_sound h0_function ty h0_height bo bg bh bd h0_depth aw law ac cfi clk clt ac_length cop cva cpt cel ac_labelCount cla ty cty gty bo cbo gbo bg cbg gbg bh cbh gbh bd cbd gbd waf cwaf gwaf wat cwat gwat wap cwap gwap wag cwag gwag clk cclk gclk clt cclt gclt cop ccop gcop cva ccva gcva cpt ccpt gcpt cla ccla gcla))) (va_Qv (fun (u : (Nat → Int32) × (Nat → Int32) × Int32 × Int32) => match u with | (gbd2, gty2, h0_height2, h0_sound2) => (∀ j : Nat, (gty2 j).toInt ≠ 64) ∧ (0 ≤ h0_height2.toInt ∧ h0_height2.toInt ≤ 5000) ∧ (h0_sound2 = 0 ∨ h0_sound2 = 1) ∧ ((p0.toInt = 12 ∨ p0.toInt = 14 ∨ p0.toInt = 15 → (h0_height2.toInt = (gbh (h0_depth.toInt - 1).toNat).toInt ∧ gbd2 = upd gbd (h0_depth.toInt - 1).toNat (vp_nar .boolean 1)) ∧ (h0_sound2.toInt = 1 → h0_sound.toInt = 1 ∧ (p0.toInt = 14 → (gbd (h0_depth.toInt - 1).toNat).toInt = 0 → (gbh (h0_depth.toInt - 1).toNat).toInt + 1 ≤ h0_height.toInt))) ∧ (p0.toInt = 13 → gbd2 = gbd ∧ ((gbh (h0_depth.toInt - 1).toNat).toInt ≤ h0_height2.toInt ∧ h0_height2.toInt ≤ h0_height.toInt + 1) ∧ (h0_sound2.toInt = 1 → h0_sound.toInt = 1 ∧ ((gbd (h0_depth.toInt - 1).toNat).toInt = 0 → (gbh (h0_depth.toInt - 1).toNat).toInt + 1 ≤ h0_height.toInt ∧ h0_height2.toInt = h0_height.toInt - 1))) ∧ (p0.toInt = 16 → gbd2 = gbd ∧ ((gbh (h0_depth.toInt - 1).toNat).toInt ≤ h0_height2.toInt ∧ h0_height2.toInt ≤ h0_height.toInt + 1) ∧ (h0_sound2.toInt = 1 → h0_sound.toInt = 1 ∧ (gcva p1.toNatClampNeg).toInt < aw_functionCount.toInt ∧ ((gbd (h0_depth.toInt - 1).toNat).toInt = 0 → (gbh (h0_depth.toInt - 1).toNat).toInt + (gwat (gwaf (gcva p1.toNatClampNeg).toInt.toNat).toNatClampNeg).toInt ≤ h0_height.toInt ∧ h0_height2.toInt = h0_height.toInt - (gwat (gwaf (gcva p1.toNatClampNeg).toInt.toNat).toNatClampNeg).toInt + (if (gwag (gwaf (gcva p1.toNatClampNeg).toInt.toNat).toNatClampNeg).toInt = 64 then 0 else 1)))))) (at_VA_checkJump dC dI h0 aw ac ty bo bg bh bd wat wap wag waf cfi clk clt cop cva cpt cel cla cty cbo cbg cbh cbd cwaf cwat cwap cwag cclk cclt ccop ccva ccpt ccla h0_function h0_depth law aw_functionCount ac_length ac_labelCount gbo gbg gbh gwaf gwat gwap gwag gclk gclt gcop gcva gcpt gcla (va_A (wz_83 h0 aw ac h0_sound h0_function ty h0_height bo bg bh bd h0_depth aw law ac cfi clk clt ac_length cop cva cpt cel ac_labelCount cla ty cty gty bo cbo gbo bg cbg gbg bh cbh gbh bd cbd gbd waf cwaf gwaf wat cwat gwat wap cwap gwap wag cwag gwag clk cclk gclk clt cclt gclt cop ccop gcop cva ccva gcva cpt ccpt gcpt cla ccla gcla) sz)) (va_A (wz_83 h0 aw ac h0_sound h0_function ty h0_height bo bg bh bd h0_depth aw law ac cfi clk clt ac_length cop cva cpt cel ac_labelCount cla ty cty gty bo cbo gbo bg cbg gbg bh cbh gbh bd cbd gbd waf cwaf gwaf wat cwat gwat wap cwap gwap wag cwag gwag clk cclk gclk clt cclt gclt cop ccop gcop cva ccva gcva cpt ccpt gcpt cla ccla gcla) sz)) 0 0 (va_A (wz_83 h0 aw ac h0_sound h0_function ty h0_height bo bg bh bd h0_depth aw law ac cfi clk clt ac_length cop cva cpt cel ac_labelCount cla ty cty gty bo cbo gbo bg cbg gbg bh cbh gbh bd cbd gbd waf cwaf gwaf wat cwat gwat wap cwap gwap wag cwag gwag clk cclk gclk clt cclt gclt cop ccop gcop cva ccva gcva cpt ccpt gcpt cla ccla gcla) sz) := by
  refine Met.ofW (cc := b_VA_checkJump) (maxL := 4) (ret := none) (by decide) rfl ?_
  intro p e s m args below meth c s₁ B hml hv
  obtain ⟨rfl, hsz, hP, hK, hD0⟩ := hv
  have hx := B.exec
  have hb := B.bytes
  have hr := B.returns
  have hts0 := atoms_spec (ws := w_VA_checkJump) B.pre
  have hts : ∀ w ∈ lw_g, w.before _ s = true := fun w h => hts0 w (List.mem_cons_of_mem _ h)
  have hown : s.vm.findClass R_VA = some m.cls := findClass_of_methodNamed B.named
  have hlocks := B.notSynchronized
  clear hts0
  subst hsz
  have hD := hD0.self (sz := s.heap.size)
  generalize hAe : va_A (wz_83 h0 aw ac h0_sound h0_function ty h0_height bo bg bh bd h0_depth aw law ac cfi clk clt ac_length cop cva cpt cel ac_labelCount cla ty cty gty bo cbo gbo bg cbg gbg bh cbh gbh bd cbd gbd waf cwaf gwaf wat cwat gwat wap cwap gwap wag cwag gwag clk cclk gclk clt cclt gclt cop ccop gcop cva ccva gcva cpt ccpt gcpt cla ccla gcla) s.heap.size = A at hD ⊢
  have hA : ∀ q : Nat, s.heap.size ≤ q → A q := fun q h => by rw [← hAe]; exact Or.inr h
  clear hAe
  have hP : va_P (dC, dI) cls (wz_83 h0 aw ac h0_sound h0_function ty h0_height bo bg bh bd h0_depth aw law ac cfi clk clt ac_length cop cva cpt cel ac_labelCount cla ty cty gty bo cbo gbo bg cbg gbg bh cbh gbh bd cbd gbd waf cwaf gwaf wat cwat gwat wap cwap gwap wag cwag gwag clk cclk gclk clt cclt gclt cop ccop gcop cva ccva gcva cpt ccpt gcpt cla ccla gcla) s.heap := hP
  have hl := lv_entry ([.ref h0, .int p0, .int p1]) (n := 4) (Nat.le_of_ble_eq_true rfl)
  rw [lg_entry_eq]
  generalize (lg_sl ([.ref h0, .int p0, .int p1]) ++ List.replicate (4 - (lg_sl ([.ref h0, .int p0, .int p1])).length) Slot.unset).toArray = ls at hl ⊢
  have hl : lv_has ls 4 [(0, .ref h0), (1, .int p0), (2, .int p1)] := hl
  have k0 : (0 : Int32).toInt = 0 := by decide
  refine w_gen (A := A) hP (fun H locs hP hS => ?_)
  have k127 : (127 : Int32).toInt = 127 := by decide
  have lo_p0 := i32_lo p0
  have hi_p0 := i32_hi p0
  have lo_p1 := i32_lo p1
  have hi_p1 := i32_hi p1
  have th0_sound := b01 b_h0_sound
  have ho9 : (gcop p1.toNatClampNeg).toInt = p0.toInt := by rw [← ho]
  have c9 := i32_clamp (x := h0_function) (by (first | (apply Int.le_antisymm <;> omega) | omega))
  have w9 := hwf h0_function.toNatClampNeg (by (first | (apply Int.le_antisymm <;> omega) | omega))
  have w8 := w9.1
  have A1 : p0.toInt ≠ 14 → p0.toInt ≠ 15 → 0 ≤ (gcva p1.toNatClampNeg).toInt ∧ (gcva p1.toNatClampNeg).toInt ≤ 2147483647 := fun z1 z2 => hvl.2.1 (by (first | (apply Int.le_antisymm <;> omega) | omega))
  have A2 : p0.toInt = 14 → 0 ≤ (gcva p1.toNatClampNeg).toInt ∧ 0 ≤ (gcpt p1.toNatClampNeg).toInt ∧ (gcva p1.toNatClampNeg).toInt + (gcpt p1.toNatClampNeg).toInt < ac_labelCount.toInt := fun z => hvl.2.2.1 (by (first | (apply Int.le_antisymm <;> omega) | omega))
  refine lv_aload_n hx hb d_VA_checkJump_0 rfl (lv_at hl 0 rfl) ?_
  refine va_get (D := (dC, dI)) (ci := 9) (v := .ref ac) (C := R_VA) (T := F_VA) (N := 11) hx hb hts i_VA hown hK hP 0 rfl rfl 1 (by decide) (hts _ kF_VA_38) (fun _ h9 => h9) rfl d_VA_checkJump_1 ?_
  refine va_get (D := (dC, dI)) (ci := 3) (v := .ref cva) (C := R_CD) (T := F_CD) (N := 10) hx hb hts i_CD hown hK hP 2 rfl rfl 5 (by decide) (hts _ kF_VA_136) (fun _ h9 => h9) rfl d_VA_checkJump_4 ?_
  refine lv_iload_n hx hb d_VA_checkJump_7 rfl (lv_at hl 2 rfl) ?_
  have g8 : vp_in p1 5000 := vp_in_iff.mpr ⟨by (first | (apply Int.le_antisymm <;> omega) | omega), by (first | (apply Int.le_antisymm <;> omega) | omega)⟩
  refine va_lald hx hb hK hP 15 12 rfl rfl g8 d_VA_checkJump_8 ?_
  refine lv_topl (fun x1 ex1 => ?_)
  refine lv_l2i hx hb d_VA_checkJump_9 rfl ?_
  refine lv_topi (fun x2 ex2 => ?_)
  have v9 : 0 ≤ (gcva p1.toNatClampNeg).toInt ∧ (gcva p1.toNatClampNeg).toInt ≤ 2147483647 → x2.toInt = (gcva p1.toNatClampNeg).toInt := fun z => by have y := l2i_t ex2 (by rw [ex1]; (first | (apply Int.le_antisymm <;> omega) | omega)) (by rw [ex1]; (first | (apply Int.le_antisymm <;> omega) | omega)); rw [y, ex1]
  refine lv_istore_n (lv' := [(3, .int x2), (0, .ref h0), (1, .int p0), (2, .int p1)]) hx hb d_VA_checkJump_10 rfl hl (by decide) rfl (fun ls hl => ?_)
  refine lv_iload_n hx hb d_VA_checkJump_11 rfl (lv_at hl 2 rfl) ?_
  by_cases g12_44 : p0.toInt = 12
  · have ho12 : tab_off 114 12 15 #[32, 48, 75, 92] p0.toInt = 32 := by rw [g12_44]; rfl
    refine lv_tab (tgt := 44) hx hb d_VA_checkJump_12 (by decide) ho12 (by decide) ?_
    clear ho12
    have tv3 := v9 (A1 (by (first | (apply Int.le_antisymm <;> omega) | omega)) (by (first | (apply Int.le_antisymm <;> omega) | omega)))
    refine lv_aload_n hx hb d_VA_checkJump_44 rfl (lv_at hl 1 rfl) ?_
    refine lv_aload_n hx hb d_VA_checkJump_45 rfl (lv_at hl 1 rfl) ?_
    refine lv_iload_n hx hb d_VA_checkJump_46 rfl (lv_at hl 0 rfl) ?_
    have hPc := hP.sb (wq := (wz_68 h0 aw ac h0_sound h0_function ty h0_height bo bg bh bd h0_depth bo cbo gbo bg cbg gbg)) [0, 4, 5] rfl
    have hDc := hD.sb (wq := (wz_68 h0 aw ac h0_sound h0_function ty h0_height bo bg bh bd h0_depth bo cbo gbo bg cbg gbg)) [0, 4, 5] (by decide) rfl
    have hKc := hK.sb (tyq := [(cbo, .int), (cbg, .int)]) [1, 2] rfl
    have hFc := va_free (wc := (wz_68 h0 aw ac h0_sound h0_function ty h0_height bo bg bh bd h0_depth bo cbo gbo bg cbg gbg)) hD hS hA [0, 4, 5] rfl
    refine va_calli (va_runV (As := [.int x2]) (rest := [.ref h0]) ⟨hx, hb, hml, hown, hts⟩ (c_VA_labelType l dC dI H.size h0 aw ac ty bo bg bh bd cbo cbg h0_sound h0_function h0_height h0_depth gbo gbg (b_h0_sound) (b_h0_depth) x2 (by (try dsimp only) <;> (first | (apply Int.le_antisymm <;> omega) | omega))) (cwV 1 hts (gV kM_VA_170 kV_VA_labelType kS_VA_labelType kI_VA kC_VA_labelType) rfl rfl rfl (by decide +kernel) ⟨Nat.le_of_ble_eq_true rfl, Nat.le_of_ble_eq_true rfl⟩) ⟨fun a U g mk z => by obtain ⟨z0, z1, zP, zK, zD⟩ := z; exact ⟨z0, z1, zP, va_K.moved (u := U) (U := U.calling g mk a) (Vm.Alike.refl U.vm) zK, zD⟩, va_recv hKc hPc (ci := 9) (q0 := 0) rfl rfl, fun U hU hW => ⟨rfl, by rw [hU], va_P.he hU.symm hPc, va_K.moved hW.alike hKc, hDc.weaken (fun _ _ _ _ => trivial)⟩⟩ rfl rfl hl.1 rfl (lv_room (Nat.le_of_ble_eq_true rfl)) d_VA_checkJump_47 ⟨(Nat.zero_le _), (Nat.zero_le _)⟩) hS (fun q _ h => hFc q h) hFc (fun r3 u t H1 locs ht hvm hw hB hz1 hk1 hS => ?_)
    obtain ⟨n4, rfl⟩ : ∃ z, z = u := ⟨_, rfl⟩
    try dsimp only at hw
    obtain ⟨bn4, xr3⟩ := hw
    try clear hw
    have tn4 := b01 bn4
    obtain ⟨hP1, hK1, hD1⟩ := hB
    replace hP1 := va_P.he ht hP1
    obtain ⟨hP, hD⟩ := va_join (wr := [(aw, .inr (10, law)), (ac, .inr (3, [.ref cfi, .ref clk, .ref clt, .int ac_length, .ref cop, .ref cva, .ref cpt, .ref cel, .int ac_labelCount, .ref cla])), (ty, .inl (cty, 5000, .inl gty)), (bh, .inl (cbh, 101, .inl gbh)), (bd, .inl (cbd, 101, .inl gbd)), (waf, .inl (cwaf, 30, .inl gwaf)), (wat, .inl (cwat, 20, .inl gwat)), (wap, .inl (cwap, 160, .inl gwap)), (wag, .inl (cwag, 20, .inl gwag)), (clk, .inl (cclk, 30, .inl gclk)), (clt, .inl (cclt, 1800, .inl gclt)), (cop, .inl (ccop, 5000, .inl gcop)), (cva, .inl (ccva, 5000, .inr (.inl gcva))), (cpt, .inl (ccpt, 5000, .inl gcpt)), (cla, .inl (ccla, 2000, .inl gcla))]) (w1 := (wz_68 h0 aw ac n4 h0_function ty h0_height bo bg bh bd h0_depth bo cbo gbo bg cbg gbg)) hP hD [0, 4, 5] [1, 2, 3, 6, 7, 8, 9, 10, 11, 12, 13, 14, 15, 16, 17] rfl rfl (by decide) (by decide) hk1 hFc hP1 hD1
    clear hPc hDc hKc hFc hz1 hk1 hP1 hK1 hD1
    rename Heap => H
    have hP : va_P (dC, dI) cls [(aw, .inr (10, law)), (ac, .inr (3, [.ref cfi, .ref clk, .ref clt, .int ac_length, .ref cop, .ref cva, .ref cpt, .ref cel, .int ac_labelCount, .ref cla])), (ty, .inl (cty, 5000, .inl gty)), (bh, .inl (cbh, 101, .inl gbh)), (bd, .inl (cbd, 101, .inl gbd)), (waf, .inl (cwaf, 30, .inl gwaf)), (wat, .inl (cwat, 20, .inl gwat)), (wap, .inl (cwap, 160, .inl gwap)), (wag, .inl (cwag, 20, .inl gwag)), (clk, .inl (cclk, 30, .inl gclk)), (clt, .inl (cclt, 1800, .inl gclt)), (cop, .inl (ccop, 5000, .inl gcop)), (cva, .inl (ccva, 5000, .inr (.inl gcva))), (cpt, .inl (ccpt, 5000, .inl gcpt)), (cla, .inl (ccla, 2000, .inl gcla)), (h0, .inr (9, [.ref aw, .ref ac, .int n4, .int h0_function, .ref ty, .int h0_height, .ref bo, .ref bg, .ref bh, .ref bd, .int h0_depth])), (bo, .inl (cbo, 101, .inl gbo)), (bg, .inl (cbg, 101, .inl gbg))] H := hP
    have hD : va_D A [(aw, .inr (10, law)), (ac, .inr (3, [.ref cfi, .ref clk, .ref clt, .int ac_length, .ref cop, .ref cva, .ref cpt, .ref cel, .int ac_labelCount, .ref cla])), (ty, .inl (cty, 5000, .inl gty)), (bh, .inl (cbh, 101, .inl gbh)), (bd, .inl (cbd, 101, .inl gbd)), (waf, .inl (cwaf, 30, .inl gwaf)), (wat, .inl (cwat, 20, .inl gwat)), (wap, .inl (cwap, 160, .inl gwap)), (wag, .inl (cwag, 20, .inl gwag)), (clk, .inl (cclk, 30, .inl gclk)), (clt, .inl (cclt, 1800, .inl gclt)), (cop, .inl (ccop, 5000, .inl gcop)), (cva, .inl (ccva, 5000, .inr (.inl gcva))), (cpt, .inl (ccpt, 5000, .inl gcpt)), (cla, .inl (ccla, 2000, .inl gcla)), (h0, .inr (9, [.ref aw, .ref ac, .int n4, .int h0_function, .ref ty, .int h0_height, .ref bo, .ref bg, .ref bh, .ref bd, .int h0_depth])), (bo, .inl (cbo, 101, .inl gbo)), (bg, .inl (cbg, 101, .inl gbg))] := hD
    have hPc := hP.sb (wq := (wz_65 h0 aw ac n4 h0_function ty h0_height bo bg bh bd h0_depth ty cty gty bh cbh gbh bd cbd gbd)) [15, 2, 3, 4] rfl
    have hDc := hD.sb (wq := (wz_65 h0 aw ac n4 h0_function ty h0_height bo bg bh bd h0_depth ty cty gty bh cbh gbh bd cbd gbd)) [15, 2, 3, 4] (by decide) rfl
    have hKc := hK.sb (tyq := [(cty, .int), (cbh, .int), (cbd, .boolean)]) [0, 3, 4] rfl
    have hFc := va_free (wc := (wz_65 h0 aw ac n4 h0_function ty h0_height bo bg bh bd h0_depth ty cty gty bh cbh gbh bd cbd gbd)) hD hS hA [15, 2, 3, 4] rfl
    refine va_callv (va_runV (As := [.int r3]) (rest := []) ⟨hx, hb, hml, hown, hts⟩ (c_VA_pop l dC dI H.size h0 aw ac ty bo bg bh bd cty cbh cbd n4 h0_function h0_height h0_depth gty gbh gbd (bn4) (b_h0_height) (b_h0_depth) (b_gty) (b_gbh) r3 (by (try dsimp only) <;> (first | (apply Int.le_antisymm <;> omega) | omega)) (by (try dsimp only) <;> (first | (apply Int.le_antisymm <;> omega) | omega))) (cwV 1 hts (gV kM_VA_161 kV_VA_pop kS_VA_pop kI_VA kC_VA_pop) rfl rfl rfl (by decide +kernel) ⟨Nat.le_of_ble_eq_true rfl, Nat.le_of_ble_eq_true rfl⟩) ⟨fun a U g mk z => by obtain ⟨z0, z1, zP, zK, zD⟩ := z; exact ⟨z0, z1, zP, va_K.moved (u := U) (U := U.calling g mk a) (Vm.Alike.refl U.vm) zK, zD⟩, va_recv hKc hPc (ci := 9) (q0 := 0) rfl rfl, fun U hU hW => ⟨rfl, by rw [hU], va_P.he hU.symm hPc, va_K.moved hW.alike hKc, hDc.weaken (fun _ _ _ _ => trivial)⟩⟩ rfl rfl hl.1 rfl (lv_room (Nat.le_of_ble_eq_true rfl)) d_VA_checkJump_50 ⟨(Nat.zero_le _), (Nat.zero_le _)⟩) hS (fun q _ h => hFc q h) hFc (fun u t H1 locs ht hvm hw hB hz1 hk1 hS => ?_)
    obtain ⟨n6, n7⟩ := u
    try dsimp only at hw
    obtain ⟨bn6, bn7, xr5⟩ := hw
    try clear hw
    have tn7 := b01 bn7
    obtain ⟨hP1, hK1, hD1⟩ := hB
    replace hP1 := va_P.he ht hP1
    obtain ⟨hP, hD⟩ := va_join (wr := [(aw, .inr (10, law)), (ac, .inr (3, [.ref cfi, .ref clk, .ref clt, .int ac_length, .ref cop, .ref cva, .ref cpt, .ref cel, .int ac_labelCount, .ref cla])), (waf, .inl (cwaf, 30, .inl gwaf)), (wat, .inl (cwat, 20, .inl gwat)), (wap, .inl (cwap, 160, .inl gwap)), (wag, .inl (cwag, 20, .inl gwag)), (clk, .inl (cclk, 30, .inl gclk)), (clt, .inl (cclt, 1800, .inl gclt)), (cop, .inl (ccop, 5000, .inl gcop)), (cva, .inl (ccva, 5000, .inr (.inl gcva))), (cpt, .inl (ccpt, 5000, .inl gcpt)), (cla, .inl (ccla, 2000, .inl gcla)), (bo, .inl (cbo, 101, .inl gbo)), (bg, .inl (cbg, 101, .inl gbg))]) (w1 := (wz_65 h0 aw ac n7 h0_function ty n6 bo bg bh bd h0_depth ty cty gty bh cbh gbh bd cbd gbd)) hP hD [15, 2, 3, 4] [0, 1, 5, 6, 7, 8, 9, 10, 11, 12, 13, 14, 16, 17] rfl rfl (by decide) (by decide) hk1 hFc hP1 hD1
    clear hPc hDc hKc hFc hz1 hk1 hP1 hK1 hD1
    rename Heap => H
    have hP : va_P (dC, dI) cls (wz_84 aw law ac cfi clk clt ac_length cop cva cpt cel ac_labelCount cla waf cwaf gwaf wat cwat gwat wap cwap gwap wag cwag gwag clk cclk gclk clt cclt gclt cop ccop gcop cva ccva gcva cpt ccpt gcpt cla ccla gcla bo cbo gbo bg cbg gbg h0 aw ac n7 h0_function ty n6 bo bg bh bd h0_depth ty cty gty bh cbh gbh bd cbd gbd) H := hP
    have hD : va_D A (wz_84 aw law ac cfi clk clt ac_length cop cva cpt cel ac_labelCount cla waf cwaf gwaf wat cwat gwat wap cwap gwap wag cwag gwag clk cclk gclk clt cclt gclt cop ccop gcop cva ccva gcva cpt ccpt gcpt cla ccla gcla bo cbo gbo bg cbg gbg h0 aw ac n7 h0_function ty n6 bo bg bh bd h0_depth ty cty gty bh cbh gbh bd cbd gbd) := hD
    refine lv_aload_n hx hb d_VA_checkJump_53 rfl (lv_at hl 1 rfl) ?_
    have hPc := hP.sb (wq := (wz_68 h0 aw ac n7 h0_function ty n6 bo bg bh bd h0_depth bh cbh gbh bd cbd gbd)) [14, 16, 17] rfl
    have hDc := hD.sb (wq := (wz_68 h0 aw ac n7 h0_function ty n6 bo bg bh bd h0_depth bh cbh gbh bd cbd gbd)) [14, 16, 17] (by decide) rfl
    have hKc := hK.sb (tyq := [(cbh, .int), (cbd, .boolean)]) [3, 4] rfl
    have hFc := va_free (wc := (wz_68 h0 aw ac n7 h0_function ty n6 bo bg bh bd h0_depth bh cbh gbh bd cbd gbd)) hD hS hA [14, 16, 17] rfl
    refine va_callv (va_runV (As := []) (rest := []) ⟨hx, hb, hml, hown, hts⟩ (c_VA_die l dC dI H.size h0 aw ac ty bo bg bh bd cbh cbd n7 h0_function n6 h0_depth gbh gbd (bn6) (b_h0_depth) (b_gbh) (by (try dsimp only) <;> (first | (apply Int.le_antisymm <;> omega) | omega))) (cwV 0 hts (gV kM_VA_158 kV_VA_die kS_VA_die kI_VA kC_VA_die) rfl rfl rfl (by decide +kernel) ⟨Nat.le_of_ble_eq_true rfl, Nat.le_of_ble_eq_true rfl⟩) ⟨fun a U g mk z => by obtain ⟨z0, z1, zP, zK, zD⟩ := z; exact ⟨z0, z1, zP, va_K.moved (u := U) (U := U.calling g mk a) (Vm.Alike.refl U.vm) zK, zD⟩, va_recv hKc hPc (ci := 9) (q0 := 0) rfl rfl, fun U hU hW => ⟨rfl, by rw [hU], va_P.he hU.symm hPc, va_K.moved hW.alike hKc, hDc.weaken (fun _ _ _ _ => trivial)⟩⟩ rfl rfl hl.1 rfl (lv_room (Nat.le_of_ble_eq_true rfl)) d_VA_checkJump_54 ⟨(Nat.zero_le _), (Nat.zero_le _)⟩) hS (fun q _ h => hFc q h) hFc (fun u t H1 locs ht hvm hw hB hz1 hk1 hS => ?_)
    obtain ⟨n9, n10⟩ := u
    try dsimp only at hw
    obtain ⟨bn10, xr8⟩ := hw
    try clear hw
    obtain ⟨hP1, hK1, hD1⟩ := hB
    replace hP1 := va_P.he ht hP1
    obtain ⟨hP, hD⟩ := va_join (wr := [(aw, .inr (10, law)), (ac, .inr (3, [.ref cfi, .ref clk, .ref clt, .int ac_length, .ref cop, .ref cva, .ref cpt, .ref cel, .int ac_labelCount, .ref cla])), (waf, .inl (cwaf, 30, .inl gwaf)), (wat, .inl (cwat, 20, .inl gwat)), (wap, .inl (cwap, 160, .inl gwap)), (wag, .inl (cwag, 20, .inl gwag)), (clk, .inl (cclk, 30, .inl gclk)), (clt, .inl (cclt, 1800, .inl gclt)), (cop, .inl (ccop, 5000, .inl gcop)), (cva, .inl (ccva, 5000, .inr (.inl gcva))), (cpt, .inl (ccpt, 5000, .inl gcpt)), (cla, .inl (ccla, 2000, .inl gcla)), (bo, .inl (cbo, 101, .inl gbo)), (bg, .inl (cbg, 101, .inl gbg)), (ty, .inl (cty, 5000, .inl gty))]) (w1 := (wz_68 h0 aw ac n7 h0_function ty n10 bo bg bh bd h0_depth bh cbh gbh bd cbd n9)) hP hD [14, 16, 17] [0, 1, 2, 3, 4, 5, 6, 7, 8, 9, 10, 11, 12, 13, 15] rfl rfl (by decide) (by decide) hk1 hFc hP1 hD1
    clear hPc hDc hKc hFc hz1 hk1 hP1 hK1 hD1
    rename Heap => H
    have hP : va_P (dC, dI) cls [(aw, .inr (10, law)), (ac, .inr (3, [.ref cfi, .ref clk, .ref clt, .int ac_length, .ref cop, .ref cva, .ref cpt, .ref cel, .int ac_labelCount, .ref cla])), (waf, .inl (cwaf, 30, .inl gwaf)), (wat, .inl (cwat, 20, .inl gwat)), (wap, .inl (cwap, 160, .inl gwap)), (wag, .inl (cwag, 20, .inl gwag)), (clk, .inl (cclk, 30, .inl gclk)), (clt, .inl (cclt, 1800, .inl gclt)), (cop, .inl (ccop, 5000, .inl gcop)), (cva, .inl (ccva, 5000, .inr (.inl gcva))), (cpt, .inl (ccpt, 5000, .inl gcpt)), (cla, .inl (ccla, 2000, .inl gcla)), (bo, .inl (cbo, 101, .inl gbo)), (bg, .inl (cbg, 101, .inl gbg)), (ty, .inl (cty, 5000, .inl gty)), (h0, .inr (9, [.ref aw, .ref ac, .int n7, .int h0_function, .ref ty, .int n10, .ref bo, .ref bg, .ref bh, .ref bd, .int h0_depth])), (bh, .inl (cbh, 101, .inl gbh)), (bd, .inl (cbd, 101, .inl n9))] H := hP
    have hD : va_D A [(aw, .inr (10, law)), (ac, .inr (3, [.ref cfi, .ref clk, .ref clt, .int ac_length, .ref cop, .ref cva, .ref cpt, .ref cel, .int ac_labelCount, .ref cla])), (waf, .inl (cwaf, 30, .inl gwaf)), (wat, .inl (cwat, 20, .inl gwat)), (wap, .inl (cwap, 160, .inl gwap)), (wag, .inl (cwag, 20, .inl gwag)), (clk, .inl (cclk, 30, .inl gclk)), (clt, .inl (cclt, 1800, .inl gclt)), (cop, .inl (ccop, 5000, .inl gcop)), (cva, .inl (ccva, 5000, .inr (.inl gcva))), (cpt, .inl (ccpt, 5000, .inl gcpt)), (cla, .inl (ccla, 2000, .inl gcla)), (bo, .inl (cbo, 101, .inl gbo)), (bg, .inl (cbg, 101, .inl gbg)), (ty, .inl (cty, 5000, .inl gty)), (h0, .inr (9, [.ref aw, .ref ac, .int n7, .int h0_function, .ref ty, .int n10, .ref bo, .ref bg, .ref bh, .ref bd, .int h0_depth])), (bh, .inl (cbh, 101, .inl gbh)), (bd, .inl (cbd, 101, .inl n9))] := hD
    refine lv_goto (tgt := 131) hx hb d_VA_checkJump_57 (by decide) ?_
    have hP9 := hP.sb (wq := (wz_83 h0 aw ac n7 h0_function ty n10 bo bg bh bd h0_depth aw law ac cfi clk clt ac_length cop cva cpt cel ac_labelCount cla ty cty gty bo cbo gbo bg cbg gbg bh cbh gbh bd cbd n9 waf cwaf gwaf wat cwat gwat wap cwap gwap wag cwag gwag clk cclk gclk clt cclt gclt cop ccop gcop cva ccva gcva cpt ccpt gcpt cla ccla gcla)) [15, 0, 1, 14, 12, 13, 16, 17, 2, 3, 4, 5, 6, 7, 8, 9, 10, 11] rfl
    have hD9 := hD.sb (wq := (wz_83 h0 aw ac n7 h0_function ty n10 bo bg bh bd h0_depth aw law ac cfi clk clt ac_length cop cva cpt cel ac_labelCount cla ty cty gty bo cbo gbo bg cbg gbg bh cbh gbh bd cbd n9 waf cwaf gwaf wat cwat gwat wap cwap gwap wag cwag gwag clk cclk gclk clt cclt gclt cop ccop gcop cva ccva gcva cpt ccpt gcpt cla ccla gcla)) [15, 0, 1, 14, 12, 13, 16, 17, 2, 3, 4, 5, 6, 7, 8, 9, 10, 11] (by decide) rfl
    exact W.vret hx hb hr (fun t ht hW => ⟨⟨(n9, gty, n10, n7), rfl, ⟨b_gty, bn10, bn7, ⟨fun _ => ⟨⟨xr8.1, xr8.2⟩, by (try dsimp only) <;> (first | (apply Int.le_antisymm <;> omega) | omega)⟩, fun z => absurd z (by (first | (apply Int.le_antisymm <;> omega) | omega)), fun z => absurd z (by (first | (apply Int.le_antisymm <;> omega) | omega))⟩⟩, va_P.he ht.symm hP9, va_K.moved hW.alike hK, hD9⟩, hS.F ht⟩) hS.2.2 d_VA_checkJump_131
  · skip
    by_cases g12_60 : p0.toInt = 13
    · have ho12 : tab_off 114 12 15 #[32, 48, 75, 92] p0.toInt = 48 := by rw [g12_60]; rfl
      refine lv_tab (tgt := 60) hx hb d_VA_checkJump_12 (by decide) ho12 (by decide) ?_
      clear ho12
      have tv3 := v9 (A1 (by (first | (apply Int.le_antisymm <;> omega) | omega)) (by (first | (apply Int.le_antisymm <;> omega) | omega)))
      refine lv_aload_n hx hb d_VA_checkJump_60 rfl (lv_at hl 1 rfl) ?_
      refine lv_bipush (v := 127) hx hb d_VA_checkJump_61 (by decide) ?_
      have hPc := hP.sb (wq := (wz_65 h0 aw ac h0_sound h0_function ty h0_height bo bg bh bd h0_depth ty cty gty bh cbh gbh bd cbd gbd)) [0, 3, 6, 7] rfl
      have hDc := hD.sb (wq := (wz_65 h0 aw ac h0_sound h0_function ty h0_height bo bg bh bd h0_depth ty cty gty bh cbh gbh bd cbd gbd)) [0, 3, 6, 7] (by decide) rfl
      have hKc := hK.sb (tyq := [(cty, .int), (cbh, .int), (cbd, .boolean)]) [0, 3, 4] rfl
      have hFc := va_free (wc := (wz_65 h0 aw ac h0_sound h0_function ty h0_height bo bg bh bd h0_depth ty cty gty bh cbh gbh bd cbd gbd)) hD hS hA [0, 3, 6, 7] rfl
      refine va_callv (va_runV (As := [.int 127]) (rest := []) ⟨hx, hb, hml, hown, hts⟩ (c_VA_pop l dC dI H.size h0 aw ac ty bo bg bh bd cty cbh cbd h0_sound h0_function h0_height h0_depth gty gbh gbd (b_h0_sound) (b_h0_height) (b_h0_depth) (b_gty) (b_gbh) 127 (by (try dsimp only) <;> (first | (apply Int.le_antisymm <;> omega) | omega)) (by (try dsimp only) <;> (first | (apply Int.le_antisymm <;> omega) | omega))) (cwV 1 hts (gV kM_VA_161 kV_VA_pop kS_VA_pop kI_VA kC_VA_pop) rfl rfl rfl (by decide +kernel) ⟨Nat.le_of_ble_eq_true rfl, Nat.le_of_ble_eq_true rfl⟩) ⟨fun a U g mk z => by obtain ⟨z0, z1, zP, zK, zD⟩ := z; exact ⟨z0, z1, zP, va_K.moved (u := U) (U := U.calling g mk a) (Vm.Alike.refl U.vm) zK, zD⟩, va_recv hKc hPc (ci := 9) (q0 := 0) rfl rfl, fun U hU hW => ⟨rfl, by rw [hU], va_P.he hU.symm hPc, va_K.moved hW.alike hKc, hDc.weaken (fun _ _ _ _ => trivial)⟩⟩ rfl rfl hl.1 rfl (lv_room (Nat.le_of_ble_eq_true rfl)) d_VA_checkJump_63 ⟨(Nat.zero_le _), (Nat.zero_le _)⟩) hS (fun q _ h => hFc q h) hFc (fun u t H1 locs ht hvm hw hB hz1 hk1 hS => ?_)
      obtain ⟨n12, n13⟩ := u
      try dsimp only at hw
      obtain ⟨bn12, bn13, xr11⟩ := hw
      try clear hw
      have tn13 := b01 bn13
      obtain ⟨hP1, hK1, hD1⟩ := hB
      replace hP1 := va_P.he ht hP1
      obtain ⟨hP, hD⟩ := va_join (wr := [(aw, .inr (10, law)), (ac, .inr (3, [.ref cfi, .ref clk, .ref clt, .int ac_length, .ref cop, .ref cva, .ref cpt, .ref cel, .int ac_labelCount, .ref cla])), (bo, .inl (cbo, 101, .inl gbo)), (bg, .inl (cbg, 101, .inl gbg)), (waf, .inl (cwaf, 30, .inl gwaf)), (wat, .inl (cwat, 20, .inl gwat)), (wap, .inl (cwap, 160, .inl gwap)), (wag, .inl (cwag, 20, .inl gwag)), (clk, .inl (cclk, 30, .inl gclk)), (clt, .inl (cclt, 1800, .inl gclt)), (cop, .inl (ccop, 5000, .inl gcop)), (cva, .inl (ccva, 5000, .inr (.inl gcva))), (cpt, .inl (ccpt, 5000, .inl gcpt)), (cla, .inl (ccla, 2000, .inl gcla))]) (w1 := (wz_65 h0 aw ac n13 h0_function ty n12 bo bg bh bd h0_depth ty cty gty bh cbh gbh bd cbd gbd)) hP hD [0, 3, 6, 7] [1, 2, 4, 5, 8, 9, 10, 11, 12, 13, 14, 15, 16, 17] rfl rfl (by decide) (by decide) hk1 hFc hP1 hD1
      clear hPc hDc hKc hFc hz1 hk1 hP1 hK1 hD1
      rename Heap => H
      have hP : va_P (dC, dI) cls [(aw, .inr (10, law)), (ac, .inr (3, [.ref cfi, .ref clk, .ref clt, .int ac_length, .ref cop, .ref cva, .ref cpt, .ref cel, .int ac_labelCount, .ref cla])), (bo, .inl (cbo, 101, .inl gbo)), (bg, .inl (cbg, 101, .inl gbg)), (waf, .inl (cwaf, 30, .inl gwaf)), (wat, .inl (cwat, 20, .inl gwat)), (wap, .inl (cwap, 160, .inl gwap)), (wag, .inl (cwag, 20, .inl gwag)), (clk, .inl (cclk, 30, .inl gclk)), (clt, .inl (cclt, 1800, .inl gclt)), (cop, .inl (ccop, 5000, .inl gcop)), (cva, .inl (ccva, 5000, .inr (.inl gcva))), (cpt, .inl (ccpt, 5000, .inl gcpt)), (cla, .inl (ccla, 2000, .inl gcla)), (h0, .inr (9, [.ref aw, .ref ac, .int n13, .int h0_function, .ref ty, .int n12, .ref bo, .ref bg, .ref bh, .ref bd, .int h0_depth])), (ty, .inl (cty, 5000, .inl gty)), (bh, .inl (cbh, 101, .inl gbh)), (bd, .inl (cbd, 101, .inl gbd))] H := hP
      have hD : va_D A [(aw, .inr (10, law)), (ac, .inr (3, [.ref cfi, .ref clk, .ref clt, .int ac_length, .ref cop, .ref cva, .ref cpt, .ref cel, .int ac_labelCount, .ref cla])), (bo, .inl (cbo, 101, .inl gbo)), (bg, .inl (cbg, 101, .inl gbg)), (waf, .inl (cwaf, 30, .inl gwaf)), (wat, .inl (cwat, 20, .inl gwat)), (wap, .inl (cwap, 160, .inl gwap)), (wag, .inl (cwag, 20, .inl gwag)), (clk, .inl (cclk, 30, .inl gclk)), (clt, .inl (cclt, 1800, .inl gclt)), (cop, .inl (ccop, 5000, .inl gcop)), (cva, .inl (ccva, 5000, .inr (.inl gcva))), (cpt, .inl (ccpt, 5000, .inl gcpt)), (cla, .inl (ccla, 2000, .inl gcla)), (h0, .inr (9, [.ref aw, .ref ac, .int n13, .int h0_function, .ref ty, .int n12, .ref bo, .ref bg, .ref bh, .ref bd, .int h0_depth])), (ty, .inl (cty, 5000, .inl gty)), (bh, .inl (cbh, 101, .inl gbh)), (bd, .inl (cbd, 101, .inl gbd))] := hD
      refine lv_aload_n hx hb d_VA_checkJump_66 rfl (lv_at hl 1 rfl) ?_
      refine lv_aload_n hx hb d_VA_checkJump_67 rfl (lv_at hl 1 rfl) ?_
      refine lv_iload_n hx hb d_VA_checkJump_68 rfl (lv_at hl 0 rfl) ?_
      have hPc := hP.sb (wq := (wz_68 h0 aw ac n13 h0_function ty n12 bo bg bh bd h0_depth bo cbo gbo bg cbg gbg)) [14, 2, 3] rfl
      have hDc := hD.sb (wq := (wz_68 h0 aw ac n13 h0_function ty n12 bo bg bh bd h0_depth bo cbo gbo bg cbg gbg)) [14, 2, 3] (by decide) rfl
      have hKc := hK.sb (tyq := [(cbo, .int), (cbg, .int)]) [1, 2] rfl
      have hFc := va_free (wc := (wz_68 h0 aw ac n13 h0_function ty n12 bo bg bh bd h0_depth bo cbo gbo bg cbg gbg)) hD hS hA [14, 2, 3] rfl
      refine va_calli (va_runV (As := [.int x2]) (rest := [.ref h0]) ⟨hx, hb, hml, hown, hts⟩ (c_VA_labelType l dC dI H.size h0 aw ac ty bo bg bh bd cbo cbg n13 h0_function n12 h0_depth gbo gbg (bn13) (b_h0_depth) x2 (by (try dsimp only) <;> (first | (apply Int.le_antisymm <;> omega) | omega))) (cwV 1 hts (gV kM_VA_170 kV_VA_labelType kS_VA_labelType kI_VA kC_VA_labelType) rfl rfl rfl (by decide +kernel) ⟨Nat.le_of_ble_eq_true rfl, Nat.le_of_ble_eq_true rfl⟩) ⟨fun a U g mk z => by obtain ⟨z0, z1, zP, zK, zD⟩ := z; exact ⟨z0, z1, zP, va_K.moved (u := U) (U := U.calling g mk a) (Vm.Alike.refl U.vm) zK, zD⟩, va_recv hKc hPc (ci := 9) (q0 := 0) rfl rfl, fun U hU hW => ⟨rfl, by rw [hU], va_P.he hU.symm hPc, va_K.moved hW.alike hKc, hDc.weaken (fun _ _ _ _ => trivial)⟩⟩ rfl rfl hl.1 rfl (lv_room (Nat.le_of_ble_eq_true rfl)) d_VA_checkJump_69 ⟨(Nat.zero_le _), (Nat.zero_le _)⟩) hS (fun q _ h => hFc q h) hFc (fun r14 u t H1 locs ht hvm hw hB hz1 hk1 hS => ?_)
      obtain ⟨n15, rfl⟩ : ∃ z, z = u := ⟨_, rfl⟩
      try dsimp only at hw
      obtain ⟨bn15, xr14⟩ := hw
      try clear hw
      have tn15 := b01 bn15
      obtain ⟨hP1, hK1, hD1⟩ := hB
      replace hP1 := va_P.he ht hP1
      obtain ⟨hP, hD⟩ := va_join (wr := [(aw, .inr (10, law)), (ac, .inr (3, [.ref cfi, .ref clk, .ref clt, .int ac_length, .ref cop, .ref cva, .ref cpt, .ref cel, .int ac_labelCount, .ref cla])), (waf, .inl (cwaf, 30, .inl gwaf)), (wat, .inl (cwat, 20, .inl gwat)), (wap, .inl (cwap, 160, .inl gwap)), (wag, .inl (cwag, 20, .inl gwag)), (clk, .inl (cclk, 30, .inl gclk)), (clt, .inl (cclt, 1800, .inl gclt)), (cop, .inl (ccop, 5000, .inl gcop)), (cva, .inl (ccva, 5000, .inr (.inl gcva))), (cpt, .inl (ccpt, 5000, .inl gcpt)), (cla, .inl (ccla, 2000, .inl gcla)), (ty, .inl (cty, 5000, .inl gty)), (bh, .inl (cbh, 101, .inl gbh)), (bd, .inl (cbd, 101, .inl gbd))]) (w1 := (wz_68 h0 aw ac n15 h0_function ty n12 bo bg bh bd h0_depth bo cbo gbo bg cbg gbg)) hP hD [14, 2, 3] [0, 1, 4, 5, 6, 7, 8, 9, 10, 11, 12, 13, 15, 16, 17] rfl rfl (by decide) (by decide) hk1 hFc hP1 hD1
      clear hPc hDc hKc hFc hz1 hk1 hP1 hK1 hD1
      rename Heap => H
      have hP : va_P (dC, dI) cls (wz_85 aw law ac cfi clk clt ac_length cop cva cpt cel ac_labelCount cla waf cwaf gwaf wat cwat gwat wap cwap gwap wag cwag gwag clk cclk gclk clt cclt gclt cop ccop gcop cva ccva gcva cpt ccpt gcpt cla ccla gcla ty cty gty bh cbh gbh bd cbd gbd h0 aw ac n15 h0_function ty n12 bo bg bh bd h0_depth bo cbo gbo bg cbg gbg) H := hP
      have hD : va_D A (wz_85 aw law ac cfi clk clt ac_length cop cva cpt cel ac_labelCount cla waf cwaf gwaf wat cwat gwat wap cwap gwap wag cwag gwag clk cclk gclk clt cclt gclt cop ccop gcop cva ccva gcva cpt ccpt gcpt cla ccla gcla ty cty gty bh cbh gbh bd cbd gbd h0 aw ac n15 h0_function ty n12 bo bg bh bd h0_depth bo cbo gbo bg cbg gbg) := hD
      have hPc := hP.sb (wq := (wz_65 h0 aw ac n15 h0_function ty n12 bo bg bh bd h0_depth ty cty gty bh cbh gbh bd cbd gbd)) [15, 12, 13, 14] rfl
      have hDc := hD.sb (wq := (wz_65 h0 aw ac n15 h0_function ty n12 bo bg bh bd h0_depth ty cty gty bh cbh gbh bd cbd gbd)) [15, 12, 13, 14] (by decide) rfl
      have hKc := hK.sb (tyq := [(cty, .int), (cbh, .int), (cbd, .boolean)]) [0, 3, 4] rfl
      have hFc := va_free (wc := (wz_65 h0 aw ac n15 h0_function ty n12 bo bg bh bd h0_depth ty cty gty bh cbh gbh bd cbd gbd)) hD hS hA [15, 12, 13, 14] rfl
      refine va_callv (va_runV (As := [.int r14]) (rest := []) ⟨hx, hb, hml, hown, hts⟩ (c_VA_pop l dC dI H.size h0 aw ac ty bo bg bh bd cty cbh cbd n15 h0_function n12 h0_depth gty gbh gbd (bn15) (bn12) (b_h0_depth) (b_gty) (b_gbh) r14 (by (try dsimp only) <;> (first | (apply Int.le_antisymm <;> omega) | omega)) (by (try dsimp only) <;> (first | (apply Int.le_antisymm <;> omega) | omega))) (cwV 1 hts (gV kM_VA_161 kV_VA_pop kS_VA_pop kI_VA kC_VA_pop) rfl rfl rfl (by decide +kernel) ⟨Nat.le_of_ble_eq_true rfl, Nat.le_of_ble_eq_true rfl⟩) ⟨fun a U g mk z => by obtain ⟨z0, z1, zP, zK, zD⟩ := z; exact ⟨z0, z1, zP, va_K.moved (u := U) (U := U.calling g mk a) (Vm.Alike.refl U.vm) zK, zD⟩, va_recv hKc hPc (ci := 9) (q0 := 0) rfl rfl, fun U hU hW => ⟨rfl, by rw [hU], va_P.he hU.symm hPc, va_K.moved hW.alike hKc, hDc.weaken (fun _ _ _ _ => trivial)⟩⟩ rfl rfl hl.1 rfl (lv_room (Nat.le_of_ble_eq_true rfl)) d_VA_checkJump_72 ⟨(Nat.zero_le _), (Nat.zero_le _)⟩) hS (fun q _ h => hFc q h) hFc (fun u t H1 locs ht hvm hw hB hz1 hk1 hS => ?_)
      obtain ⟨n17, n18⟩ := u
      try dsimp only at hw
      obtain ⟨bn17, bn18, xr16⟩ := hw
      try clear hw
      have tn18 := b01 bn18
      obtain ⟨hP1, hK1, hD1⟩ := hB
      replace hP1 := va_P.he ht hP1
      obtain ⟨hP, hD⟩ := va_join (wr := [(aw, .inr (10, law)), (ac, .inr (3, [.ref cfi, .ref clk, .ref clt, .int ac_length, .ref cop, .ref cva, .ref cpt, .ref cel, .int ac_labelCount, .ref cla])), (waf, .inl (cwaf, 30, .inl gwaf)), (wat, .inl (cwat, 20, .inl gwat)), (wap, .inl (cwap, 160, .inl gwap)), (wag, .inl (cwag, 20, .inl gwag)), (clk, .inl (cclk, 30, .inl gclk)), (clt, .inl (cclt, 1800, .inl gclt)), (cop, .inl (ccop, 5000, .inl gcop)), (cva, .inl (ccva, 5000, .inr (.inl gcva))), (cpt, .inl (ccpt, 5000, .inl gcpt)), (cla, .inl (ccla, 2000, .inl gcla)), (bo, .inl (cbo, 101, .inl gbo)), (bg, .inl (cbg, 101, .inl gbg))]) (w1 := (wz_65 h0 aw ac n18 h0_function ty n17 bo bg bh bd h0_depth ty cty gty bh cbh gbh bd cbd gbd)) hP hD [15, 12, 13, 14] [0, 1, 2, 3, 4, 5, 6, 7, 8, 9, 10, 11, 16, 17] rfl rfl (by decide) (by decide) hk1 hFc hP1 hD1
      clear hPc hDc hKc hFc hz1 hk1 hP1 hK1 hD1
      rename Heap => H
      have hP : va_P (dC, dI) cls (wz_84 aw law ac cfi clk clt ac_length cop cva cpt cel ac_labelCount cla waf cwaf gwaf wat cwat gwat wap cwap gwap wag cwag gwag clk cclk gclk clt cclt gclt cop ccop gcop cva ccva gcva cpt ccpt gcpt cla ccla gcla bo cbo gbo bg cbg gbg h0 aw ac n18 h0_function ty n17 bo bg bh bd h0_depth ty cty gty bh cbh gbh bd cbd gbd) H := hP
      have hD : va_D A (wz_84 aw law ac cfi clk clt ac_length cop cva cpt cel ac_labelCount cla waf cwaf gwaf wat cwat gwat wap cwap gwap wag cwag gwag clk cclk gclk clt cclt gclt cop ccop gcop cva ccva gcva cpt ccpt gcpt cla ccla gcla bo cbo gbo bg cbg gbg h0 aw ac n18 h0_function ty n17 bo bg bh bd h0_depth ty cty gty bh cbh gbh bd cbd gbd) := hD
      refine lv_aload_n hx hb d_VA_checkJump_75 rfl (lv_at hl 1 rfl) ?_
      refine lv_aload_n hx hb d_VA_checkJump_76 rfl (lv_at hl 1 rfl) ?_
      refine lv_iload_n hx hb d_VA_checkJump_77 rfl (lv_at hl 0 rfl) ?_
      have hPc := hP.sb (wq := (wz_68 h0 aw ac n18 h0_function ty n17 bo bg bh bd h0_depth bo cbo gbo bg cbg gbg)) [14, 12, 13] rfl
      have hDc := hD.sb (wq := (wz_68 h0 aw ac n18 h0_function ty n17 bo bg bh bd h0_depth bo cbo gbo bg cbg gbg)) [14, 12, 13] (by decide) rfl
      have hKc := hK.sb (tyq := [(cbo, .int), (cbg, .int)]) [1, 2] rfl
      have hFc := va_free (wc := (wz_68 h0 aw ac n18 h0_function ty n17 bo bg bh bd h0_depth bo cbo gbo bg cbg gbg)) hD hS hA [14, 12, 13] rfl
      refine va_calli (va_runV (As := [.int x2]) (rest := [.ref h0]) ⟨hx, hb, hml, hown, hts⟩ (c_VA_labelType l dC dI H.size h0 aw ac ty bo bg bh bd cbo cbg n18 h0_function n17 h0_depth gbo gbg (bn18) (b_h0_depth) x2 (by (try dsimp only) <;> (first | (apply Int.le_antisymm <;> omega) | omega))) (cwV 1 hts (gV kM_VA_170 kV_VA_labelType kS_VA_labelType kI_VA kC_VA_labelType) rfl rfl rfl (by decide +kernel) ⟨Nat.le_of_ble_eq_true rfl, Nat.le_of_ble_eq_true rfl⟩) ⟨fun a U g mk z => by obtain ⟨z0, z1, zP, zK, zD⟩ := z; exact ⟨z0, z1, zP, va_K.moved (u := U) (U := U.calling g mk a) (Vm.Alike.refl U.vm) zK, zD⟩, va_recv hKc hPc (ci := 9) (q0 := 0) rfl rfl, fun U hU hW => ⟨rfl, by rw [hU], va_P.he hU.symm hPc, va_K.moved hW.alike hKc, hDc.weaken (fun _ _ _ _ => trivial)⟩⟩ rfl rfl hl.1 rfl (lv_room (Nat.le_of_ble_eq_true rfl)) d_VA_checkJump_78 ⟨(Nat.zero_le _), (Nat.zero_le _)⟩) hS (fun q _ h => hFc q h) hFc (fun r19 u t H1 locs ht hvm hw hB hz1 hk1 hS => ?_)
      obtain ⟨n20, rfl⟩ : ∃ z, z = u := ⟨_, rfl⟩
      try dsimp only at hw
      obtain ⟨bn20, xr19⟩ := hw
      try clear hw
      have tn20 := b01 bn20
      obtain ⟨hP1, hK1, hD1⟩ := hB
      replace hP1 := va_P.he ht hP1
      obtain ⟨hP, hD⟩ := va_join (wr := [(aw, .inr (10, law)), (ac, .inr (3, [.ref cfi, .ref clk, .ref clt, .int ac_length, .ref cop, .ref cva, .ref cpt, .ref cel, .int ac_labelCount, .ref cla])), (waf, .inl (cwaf, 30, .inl gwaf)), (wat, .inl (cwat, 20, .inl gwat)), (wap, .inl (cwap, 160, .inl gwap)), (wag, .inl (cwag, 20, .inl gwag)), (clk, .inl (cclk, 30, .inl gclk)), (clt, .inl (cclt, 1800, .inl gclt)), (cop, .inl (ccop, 5000, .inl gcop)), (cva, .inl (ccva, 5000, .inr (.inl gcva))), (cpt, .inl (ccpt, 5000, .inl gcpt)), (cla, .inl (ccla, 2000, .inl gcla)), (ty, .inl (cty, 5000, .inl gty)), (bh, .inl (cbh, 101, .inl gbh)), (bd, .inl (cbd, 101, .inl gbd))]) (w1 := (wz_68 h0 aw ac n20 h0_function ty n17 bo bg bh bd h0_depth bo cbo gbo bg cbg gbg)) hP hD [14, 12, 13] [0, 1, 2, 3, 4, 5, 6, 7, 8, 9, 10, 11, 15, 16, 17] rfl rfl (by decide) (by decide) hk1 hFc hP1 hD1
      clear hPc hDc hKc hFc hz1 hk1 hP1 hK1 hD1
      rename Heap => H
      have hP : va_P (dC, dI) cls (wz_85 aw law ac cfi clk clt ac_length cop cva cpt cel ac_labelCount cla waf cwaf gwaf wat cwat gwat wap cwap gwap wag cwag gwag clk cclk gclk clt cclt gclt cop ccop gcop cva ccva gcva cpt ccpt gcpt cla ccla gcla ty cty gty bh cbh gbh bd cbd gbd h0 aw ac n20 h0_function ty n17 bo bg bh bd h0_depth bo cbo gbo bg cbg gbg) H := hP
      have hD : va_D A (wz_85 aw law ac cfi clk clt ac_length cop cva cpt cel ac_labelCount cla waf cwaf gwaf wat cwat gwat wap cwap gwap wag cwag gwag clk cclk gclk clt cclt gclt cop ccop gcop cva ccva gcva cpt ccpt gcpt cla ccla gcla ty cty gty bh cbh gbh bd cbd gbd h0 aw ac n20 h0_function ty n17 bo bg bh bd h0_depth bo cbo gbo bg cbg gbg) := hD
      have hPc := hP.sb (wq := (wz_66 h0 aw ac n20 h0_function ty n17 bo bg bh bd h0_depth ty cty gty)) [15, 12] rfl
      have hDc := hD.sb (wq := (wz_66 h0 aw ac n20 h0_function ty n17 bo bg bh bd h0_depth ty cty gty)) [15, 12] (by decide) rfl
      have hKc := hK.sb (tyq := [(cty, .int)]) [0] rfl
      have hFc := va_free (wc := (wz_66 h0 aw ac n20 h0_function ty n17 bo bg bh bd h0_depth ty cty gty)) hD hS hA [15, 12] rfl
      refine va_callv (va_runV (As := [.int r19]) (rest := []) ⟨hx, hb, hml, hown, hts⟩ (c_VA_push l dC dI H.size h0 aw ac ty bo bg bh bd cty n20 h0_function n17 h0_depth gty (bn17) (b_gty) r19 (by (try dsimp only) <;> (first | (apply Int.le_antisymm <;> omega) | omega))) (cwV 1 hts (gV kM_VA_167 kV_VA_push kS_VA_push kI_VA kC_VA_push) rfl rfl rfl (by decide +kernel) ⟨Nat.le_of_ble_eq_true rfl, Nat.le_of_ble_eq_true rfl⟩) ⟨fun a U g mk z => by obtain ⟨z0, z1, zP, zK, zD⟩ := z; exact ⟨z0, z1, zP, va_K.moved (u := U) (U := U.calling g mk a) (Vm.Alike.refl U.vm) zK, zD⟩, va_recv hKc hPc (ci := 9) (q0 := 0) rfl rfl, fun U hU hW => ⟨rfl, by rw [hU], va_P.he hU.symm hPc, va_K.moved hW.alike hKc, hDc.weaken (fun _ _ _ _ => trivial)⟩⟩ rfl rfl hl.1 rfl (lv_room (Nat.le_of_ble_eq_true rfl)) d_VA_checkJump_81 ⟨(Nat.zero_le _), (Nat.zero_le _)⟩) hS (fun q _ h => hFc q h) hFc (fun u t H1 locs ht hvm hw hB hz1 hk1 hS => ?_)
      obtain ⟨n22, n23⟩ := u
      try dsimp only at hw
      obtain ⟨bn22, bn23, xr21⟩ := hw
      try clear hw
      obtain ⟨hP1, hK1, hD1⟩ := hB
      replace hP1 := va_P.he ht hP1
      obtain ⟨hP, hD⟩ := va_join (wr := [(aw, .inr (10, law)), (ac, .inr (3, [.ref cfi, .ref clk, .ref clt, .int ac_length, .ref cop, .ref cva, .ref cpt, .ref cel, .int ac_labelCount, .ref cla])), (waf, .inl (cwaf, 30, .inl gwaf)), (wat, .inl (cwat, 20, .inl gwat)), (wap, .inl (cwap, 160, .inl gwap)), (wag, .inl (cwag, 20, .inl gwag)), (clk, .inl (cclk, 30, .inl gclk)), (clt, .inl (cclt, 1800, .inl gclt)), (cop, .inl (ccop, 5000, .inl gcop)), (cva, .inl (ccva, 5000, .inr (.inl gcva))), (cpt, .inl (ccpt, 5000, .inl gcpt)), (cla, .inl (ccla, 2000, .inl gcla)), (bh, .inl (cbh, 101, .inl gbh)), (bd, .inl (cbd, 101, .inl gbd)), (bo, .inl (cbo, 101, .inl gbo)), (bg, .inl (cbg, 101, .inl gbg))]) (w1 := (wz_66 h0 aw ac n20 h0_function ty n23 bo bg bh bd h0_depth ty cty n22)) hP hD [15, 12] [0, 1, 2, 3, 4, 5, 6, 7, 8, 9, 10, 11, 13, 14, 16, 17] rfl rfl (by decide) (by decide) hk1 hFc hP1 hD1
      clear hPc hDc hKc hFc hz1 hk1 hP1 hK1 hD1
      rename Heap => H
      have hP : va_P (dC, dI) cls [(aw, .inr (10, law)), (ac, .inr (3, [.ref cfi, .ref clk, .ref clt, .int ac_length, .ref cop, .ref cva, .ref cpt, .ref cel, .int ac_labelCount, .ref cla])), (waf, .inl (cwaf, 30, .inl gwaf)), (wat, .inl (cwat, 20, .inl gwat)), (wap, .inl (cwap, 160, .inl gwap)), (wag, .inl (cwag, 20, .inl gwag)), (clk, .inl (cclk, 30, .inl gclk)), (clt, .inl (cclt, 1800, .inl gclt)), (cop, .inl (ccop, 5000, .inl gcop)), (cva, .inl (ccva, 5000, .inr (.inl gcva))), (cpt, .inl (ccpt, 5000, .inl gcpt)), (cla, .inl (ccla, 2000, .inl gcla)), (bh, .inl (cbh, 101, .inl gbh)), (bd, .inl (cbd, 101, .inl gbd)), (bo, .inl (cbo, 101, .inl gbo)), (bg, .inl (cbg, 101, .inl gbg)), (h0, .inr (9, [.ref aw, .ref ac, .int n20, .int h0_function, .ref ty, .int n23, .ref bo, .ref bg, .ref bh, .ref bd, .int h0_depth])), (ty, .inl (cty, 5000, .inl n22))] H := hP
      have hD : va_D A [(aw, .inr (10, law)), (ac, .inr (3, [.ref cfi, .ref clk, .ref clt, .int ac_length, .ref cop, .ref cva, .ref cpt, .ref cel, .int ac_labelCount, .ref cla])), (waf, .inl (cwaf, 30, .inl gwaf)), (wat, .inl (cwat, 20, .inl gwat)), (wap, .inl (cwap, 160, .inl gwap)), (wag, .inl (cwag, 20, .inl gwag)), (clk, .inl (cclk, 30, .inl gclk)), (clt, .inl (cclt, 1800, .inl gclt)), (cop, .inl (ccop, 5000, .inl gcop)), (cva, .inl (ccva, 5000, .inr (.inl gcva))), (cpt, .inl (ccpt, 5000, .inl gcpt)), (cla, .inl (ccla, 2000, .inl gcla)), (bh, .inl (cbh, 101, .inl gbh)), (bd, .inl (cbd, 101, .inl gbd)), (bo, .inl (cbo, 101, .inl gbo)), (bg, .inl (cbg, 101, .inl gbg)), (h0, .inr (9, [.ref aw, .ref ac, .int n20, .int h0_function, .ref ty, .int n23, .ref bo, .ref bg, .ref bh, .ref bd, .int h0_depth])), (ty, .inl (cty, 5000, .inl n22))] := hD
      refine lv_goto (tgt := 131) hx hb d_VA_checkJump_84 (by decide) ?_
      have hP9 := hP.sb (wq := (wz_83 h0 aw ac n20 h0_function ty n23 bo bg bh bd h0_depth aw law ac cfi clk clt ac_length cop cva cpt cel ac_labelCount cla ty cty n22 bo cbo gbo bg cbg gbg bh cbh gbh bd cbd gbd waf cwaf gwaf wat cwat gwat wap cwap gwap wag cwag gwag clk cclk gclk clt cclt gclt cop ccop gcop cva ccva gcva cpt ccpt gcpt cla ccla gcla)) [16, 0, 1, 17, 14, 15, 12, 13, 2, 3, 4, 5, 6, 7, 8, 9, 10, 11] rfl
      have hD9 := hD.sb (wq := (wz_83 h0 aw ac n20 h0_function ty n23 bo bg bh bd h0_depth aw law ac cfi clk clt ac_length cop cva cpt cel ac_labelCount cla ty cty n22 bo cbo gbo bg cbg gbg bh cbh gbh bd cbd gbd waf cwaf gwaf wat cwat gwat wap cwap gwap wag cwag gwag clk cclk gclk clt cclt gclt cop ccop gcop cva ccva gcva cpt ccpt gcpt cla ccla gcla)) [16, 0, 1, 17, 14, 15, 12, 13, 2, 3, 4, 5, 6, 7, 8, 9, 10, 11] (by decide) rfl
      exact W.vret hx hb hr (fun t ht hW => ⟨⟨(gbd, n22, n23, n20), rfl, ⟨bn22, bn23, bn20, ⟨fun z => absurd z (by (first | (apply Int.le_antisymm <;> omega) | omega)), fun _ => ⟨rfl, by (try dsimp only) <;> (first | (apply Int.le_antisymm <;> omega) | omega), by (try dsimp only) <;> (first | (apply Int.le_antisymm <;> omega) | omega)⟩, fun z => absurd z (by (first | (apply Int.le_antisymm <;> omega) | omega))⟩⟩, va_P.he ht.symm hP9, va_K.moved hW.alike hK, hD9⟩, hS.F ht⟩) hS.2.2 d_VA_checkJump_131
    · skip
      by_cases g12_87 : p0.toInt = 14
      · have ho12 : tab_off 114 12 15 #[32, 48, 75, 92] p0.toInt = 75 := by rw [g12_87]; rfl
        refine lv_tab (tgt := 87) hx hb d_VA_checkJump_12 (by decide) ho12 (by decide) ?_
        clear ho12
        have a2 := A2 (by (first | (apply Int.le_antisymm <;> omega) | omega))
        have tv3 := v9 ⟨by (first | (apply Int.le_antisymm <;> omega) | omega), by (first | (apply Int.le_antisymm <;> omega) | omega)⟩
        refine lv_aload_n hx hb d_VA_checkJump_87 rfl (lv_at hl 1 rfl) ?_
        refine lv_iload_n hx hb d_VA_checkJump_88 rfl (lv_at hl 0 rfl) ?_
        refine lv_aload_n hx hb d_VA_checkJump_89 rfl (lv_at hl 1 rfl) ?_
        refine va_get (D := (dC, dI)) (ci := 9) (v := .ref ac) (C := R_VA) (T := F_VA) (N := 11) hx hb hts i_VA hown hK hP 0 rfl rfl 1 (by decide) (hts _ kF_VA_38) (fun _ h9 => h9) rfl d_VA_checkJump_90 ?_
        refine va_get (D := (dC, dI)) (ci := 3) (v := .ref cpt) (C := R_CD) (T := F_CD) (N := 10) hx hb hts i_CD hown hK hP 2 rfl rfl 6 (by decide) (hts _ kF_VA_149) (fun _ h9 => h9) rfl d_VA_checkJump_93 ?_
        refine lv_iload_n hx hb d_VA_checkJump_96 rfl (lv_at hl 3 rfl) ?_
        have g97 : vp_in p1 5000 := vp_in_iff.mpr ⟨by (first | (apply Int.le_antisymm <;> omega) | omega), by (first | (apply Int.le_antisymm <;> omega) | omega)⟩
        refine va_iald hx hb hK hP 16 13 rfl rfl g97 d_VA_checkJump_97 ?_
        refine lv_topi (fun x24 ex24 => ?_)
        have tx24 : x24.toInt = (gcpt p1.toNatClampNeg).toInt := by rw [ex24]
        have hPc := hP.sb (wq := (wz_80 h0 aw ac h0_sound h0_function ty h0_height bo bg bh bd h0_depth ac cfi clk clt ac_length cop cva cpt cel ac_labelCount cla ty cty gty bo cbo gbo bg cbg gbg bh cbh gbh bd cbd gbd cla ccla gcla)) [0, 2, 3, 4, 5, 6, 7, 17] rfl
        have hDc := hD.sb (wq := (wz_80 h0 aw ac h0_sound h0_function ty h0_height bo bg bh bd h0_depth ac cfi clk clt ac_length cop cva cpt cel ac_labelCount cla ty cty gty bo cbo gbo bg cbg gbg bh cbh gbh bd cbd gbd cla ccla gcla)) [0, 2, 3, 4, 5, 6, 7, 17] (by decide) rfl
        have hKc := hK.sb (tyq := [(cty, .int), (cbo, .int), (cbg, .int), (cbh, .int), (cbd, .boolean), (ccla, .int)]) [0, 1, 2, 3, 4, 14] rfl
        have hFc := va_free (wc := (wz_80 h0 aw ac h0_sound h0_function ty h0_height bo bg bh bd h0_depth ac cfi clk clt ac_length cop cva cpt cel ac_labelCount cla ty cty gty bo cbo gbo bg cbg gbg bh cbh gbh bd cbd gbd cla ccla gcla)) hD hS hA [0, 2, 3, 4, 5, 6, 7, 17] rfl
        refine va_callv (va_runV (As := [.int x2, .int x24]) (rest := []) ⟨hx, hb, hml, hown, hts⟩ (c_VA_checkTable l dC dI H.size h0 aw ac ty bo bg bh bd cfi clk clt cop cva cpt cel cla cty cbo cbg cbh cbd ccla h0_sound h0_function h0_height h0_depth ac_length ac_labelCount gty gbo gbg gbh gbd gcla (b_h0_sound) (b_h0_height) (b_h0_depth) (b_ac_labelCount) (b_gty) (b_gbh) x2 x24 (hd1) (hbh) (hh5) (by (try dsimp only) <;> (first | (apply Int.le_antisymm <;> omega) | omega)) (hlb)) (cwV 2 hts (gV kM_VA_173 kV_VA_checkTable kS_VA_checkTable kI_VA kC_VA_checkTable) rfl rfl rfl (by decide +kernel) ⟨Nat.le_of_ble_eq_true rfl, Nat.le_of_ble_eq_true rfl⟩) ⟨fun a U g mk z => by obtain ⟨z0, z1, zP, zK, zD⟩ := z; exact ⟨z0, z1, zP, va_K.moved (u := U) (U := U.calling g mk a) (Vm.Alike.refl U.vm) zK, zD⟩, va_recv hKc hPc (ci := 9) (q0 := 0) rfl rfl, fun U hU hW => ⟨rfl, by rw [hU], va_P.he hU.symm hPc, va_K.moved hW.alike hKc, hDc.weaken (fun _ _ _ _ => trivial)⟩⟩ rfl rfl hl.1 rfl (lv_room (Nat.le_of_ble_eq_true rfl)) d_VA_checkJump_98 ⟨(Nat.zero_le _), (Nat.zero_le _)⟩) hS (fun q _ h => hFc q h) hFc (fun u t H1 locs ht hvm hw hB hz1 hk1 hS => ?_)
        obtain ⟨n26, n27, n28⟩ := u
        try dsimp only at hw
        obtain ⟨bn27, bn28, xr25⟩ := hw
        try clear hw
        have tn28 := b01 bn28
        obtain ⟨hP1, hK1, hD1⟩ := hB
        replace hP1 := va_P.he ht hP1
        obtain ⟨hP, hD⟩ := va_join (wr := [(aw, .inr (10, law)), (waf, .inl (cwaf, 30, .inl gwaf)), (wat, .inl (cwat, 20, .inl gwat)), (wap, .inl (cwap, 160, .inl gwap)), (wag, .inl (cwag, 20, .inl gwag)), (clk, .inl (cclk, 30, .inl gclk)), (clt, .inl (cclt, 1800, .inl gclt)), (cop, .inl (ccop, 5000, .inl gcop)), (cva, .inl (ccva, 5000, .inr (.inl gcva))), (cpt, .inl (ccpt, 5000, .inl gcpt))]) (w1 := (wz_80 h0 aw ac n28 h0_function ty n27 bo bg bh bd h0_depth ac cfi clk clt ac_length cop cva cpt cel ac_labelCount cla ty cty gty bo cbo gbo bg cbg gbg bh cbh gbh bd cbd n26 cla ccla gcla)) hP hD [0, 2, 3, 4, 5, 6, 7, 17] [1, 8, 9, 10, 11, 12, 13, 14, 15, 16] rfl rfl (by decide) (by decide) hk1 hFc hP1 hD1
        clear hPc hDc hKc hFc hz1 hk1 hP1 hK1 hD1
        rename Heap => H
        have hP : va_P (dC, dI) cls [(aw, .inr (10, law)), (waf, .inl (cwaf, 30, .inl gwaf)), (wat, .inl (cwat, 20, .inl gwat)), (wap, .inl (cwap, 160, .inl gwap)), (wag, .inl (cwag, 20, .inl gwag)), (clk, .inl (cclk, 30, .inl gclk)), (clt, .inl (cclt, 1800, .inl gclt)), (cop, .inl (ccop, 5000, .inl gcop)), (cva, .inl (ccva, 5000, .inr (.inl gcva))), (cpt, .inl (ccpt, 5000, .inl gcpt)), (h0, .inr (9, [.ref aw, .ref ac, .int n28, .int h0_function, .ref ty, .int n27, .ref bo, .ref bg, .ref bh, .ref bd, .int h0_depth])), (ac, .inr (3, [.ref cfi, .ref clk, .ref clt, .int ac_length, .ref cop, .ref cva, .ref cpt, .ref cel, .int ac_labelCount, .ref cla])), (ty, .inl (cty, 5000, .inl gty)), (bo, .inl (cbo, 101, .inl gbo)), (bg, .inl (cbg, 101, .inl gbg)), (bh, .inl (cbh, 101, .inl gbh)), (bd, .inl (cbd, 101, .inl n26)), (cla, .inl (ccla, 2000, .inl gcla))] H := hP
        have hD : va_D A [(aw, .inr (10, law)), (waf, .inl (cwaf, 30, .inl gwaf)), (wat, .inl (cwat, 20, .inl gwat)), (wap, .inl (cwap, 160, .inl gwap)), (wag, .inl (cwag, 20, .inl gwag)), (clk, .inl (cclk, 30, .inl gclk)), (clt, .inl (cclt, 1800, .inl gclt)), (cop, .inl (ccop, 5000, .inl gcop)), (cva, .inl (ccva, 5000, .inr (.inl gcva))), (cpt, .inl (ccpt, 5000, .inl gcpt)), (h0, .inr (9, [.ref aw, .ref ac, .int n28, .int h0_function, .ref ty, .int n27, .ref bo, .ref bg, .ref bh, .ref bd, .int h0_depth])), (ac, .inr (3, [.ref cfi, .ref clk, .ref clt, .int ac_length, .ref cop, .ref cva, .ref cpt, .ref cel, .int ac_labelCount, .ref cla])), (ty, .inl (cty, 5000, .inl gty)), (bo, .inl (cbo, 101, .inl gbo)), (bg, .inl (cbg, 101, .inl gbg)), (bh, .inl (cbh, 101, .inl gbh)), (bd, .inl (cbd, 101, .inl n26)), (cla, .inl (ccla, 2000, .inl gcla))] := hD
        refine lv_goto (tgt := 131) hx hb d_VA_checkJump_101 (by decide) ?_
        have hP9 := hP.sb (wq := (wz_83 h0 aw ac n28 h0_function ty n27 bo bg bh bd h0_depth aw law ac cfi clk clt ac_length cop cva cpt cel ac_labelCount cla ty cty gty bo cbo gbo bg cbg gbg bh cbh gbh bd cbd n26 waf cwaf gwaf wat cwat gwat wap cwap gwap wag cwag gwag clk cclk gclk clt cclt gclt cop ccop gcop cva ccva gcva cpt ccpt gcpt cla ccla gcla)) [10, 0, 11, 12, 13, 14, 15, 16, 1, 2, 3, 4, 5, 6, 7, 8, 9, 17] rfl
        have hD9 := hD.sb (wq := (wz_83 h0 aw ac n28 h0_function ty n27 bo bg bh bd h0_depth aw law ac cfi clk clt ac_length cop cva cpt cel ac_labelCount cla ty cty gty bo cbo gbo bg cbg gbg bh cbh gbh bd cbd n26 waf cwaf gwaf wat cwat gwat wap cwap gwap wag cwag gwag clk cclk gclk clt cclt gclt cop ccop gcop cva ccva gcva cpt ccpt gcpt cla ccla gcla)) [10, 0, 11, 12, 13, 14, 15, 16, 1, 2, 3, 4, 5, 6, 7, 8, 9, 17] (by decide) rfl
        exact W.vret hx hb hr (fun t ht hW => ⟨⟨(n26, gty, n27, n28), rfl, ⟨b_gty, bn27, bn28, ⟨fun _ => ⟨xr25.1, by (try dsimp only) <;> (first | (apply Int.le_antisymm <;> omega) | omega)⟩, fun z => absurd z (by (first | (apply Int.le_antisymm <;> omega) | omega)), fun z => absurd z (by (first | (apply Int.le_antisymm <;> omega) | omega))⟩⟩, va_P.he ht.symm hP9, va_K.moved hW.alike hK, hD9⟩, hS.F ht⟩) hS.2.2 d_VA_checkJump_131
      · skip
        by_cases g12_104 : p0.toInt = 15
        · have ho12 : tab_off 114 12 15 #[32, 48, 75, 92] p0.toInt = 92 := by rw [g12_104]; rfl
          refine lv_tab (tgt := 104) hx hb d_VA_checkJump_12 (by decide) ho12 (by decide) ?_
          clear ho12
          refine lv_aload_n hx hb d_VA_checkJump_104 rfl (lv_at hl 1 rfl) ?_
          refine lv_aload_n hx hb d_VA_checkJump_105 rfl (lv_at hl 1 rfl) ?_
          refine va_get (D := (dC, dI)) (ci := 9) (v := .ref aw) (C := R_VA) (T := F_VA) (N := 11) hx hb hts i_VA hown hK hP 0 rfl rfl 0 (by decide) (hts _ kF_VA_28) (fun _ h9 => h9) rfl d_VA_checkJump_106 ?_
          refine lv_aload_n hx hb d_VA_checkJump_109 rfl (lv_at hl 1 rfl) ?_
          refine va_get (D := (dC, dI)) (ci := 9) (v := .int h0_function) (C := R_VA) (T := F_VA) (N := 11) hx hb hts i_VA hown hK hP 0 rfl rfl 3 (by decide) (hts _ kF_VA_111) (fun _ h9 => h9) rfl d_VA_checkJump_110 ?_
          have hPc := hP.sb (wq := (wz_16 aw law waf cwaf gwaf wag cwag gwag)) [1, 8, 11] rfl
          have hDc := hD.sb (wq := (wz_16 aw law waf cwaf gwaf wag cwag gwag)) [1, 8, 11] (by decide) rfl
          have hKc := hK.sb (tyq := [(cwaf, .int), (cwag, .int)]) [5, 8] rfl
          have hFc := va_free (wc := (wz_16 aw law waf cwaf gwaf wag cwag gwag)) hD hS hA [1, 8, 11] rfl
          refine va_calli (va_runV (As := [.int h0_function]) (rest := [.ref h0]) ⟨hx, hb, hml, hown, hts⟩ (c_WA_gives l dC dI aw waf wag H.size cwaf cwag gwaf gwag law paw_7 paw_5 plaw h0_function (by (first | (apply Int.le_antisymm <;> omega) | omega)) (w8)) (cwV 1 hts (gV kM_VA_120 kV_WA_gives kS_WA_gives kI_WA kC_WA_gives) rfl rfl rfl (by decide +kernel) ⟨Nat.le_of_ble_eq_true rfl, Nat.le_of_ble_eq_true rfl⟩) ⟨fun a U g mk z => by obtain ⟨z0, z1, zP, zK, zD⟩ := z; exact ⟨z0, z1, zP, va_K.moved (u := U) (U := U.calling g mk a) (Vm.Alike.refl U.vm) zK, zD⟩, va_recv hKc hPc (ci := 10) (q0 := 0) rfl rfl, fun U hU hW => ⟨rfl, by rw [hU], va_P.he hU.symm hPc, va_K.moved hW.alike hKc, hDc.weaken (fun _ _ _ _ => trivial)⟩⟩ rfl rfl hl.1 rfl (lv_room (Nat.le_of_ble_eq_true rfl)) d_VA_checkJump_113 ⟨(Nat.zero_le _), (Nat.zero_le _)⟩) hS (fun q _ h => hFc q h) hFc (fun r29 u t H1 locs ht hvm hw hB hz1 hk1 hS => ?_)
          try dsimp only at hw
          have er29 := hw
          try clear hw
          obtain ⟨hP1, hK1, hD1⟩ := hB
          replace hP1 := va_P.he ht hP1
          obtain ⟨hP, hD⟩ := va_join (wr := [(h0, .inr (9, [.ref aw, .ref ac, .int h0_sound, .int h0_function, .ref ty, .int h0_height, .ref bo, .ref bg, .ref bh, .ref bd, .int h0_depth])), (ac, .inr (3, [.ref cfi, .ref clk, .ref clt, .int ac_length, .ref cop, .ref cva, .ref cpt, .ref cel, .int ac_labelCount, .ref cla])), (ty, .inl (cty, 5000, .inl gty)), (bo, .inl (cbo, 101, .inl gbo)), (bg, .inl (cbg, 101, .inl gbg)), (bh, .inl (cbh, 101, .inl gbh)), (bd, .inl (cbd, 101, .inl gbd)), (wat, .inl (cwat, 20, .inl gwat)), (wap, .inl (cwap, 160, .inl gwap)), (clk, .inl (cclk, 30, .inl gclk)), (clt, .inl (cclt, 1800, .inl gclt)), (cop, .inl (ccop, 5000, .inl gcop)), (cva, .inl (ccva, 5000, .inr (.inl gcva))), (cpt, .inl (ccpt, 5000, .inl gcpt)), (cla, .inl (ccla, 2000, .inl gcla))]) (w1 := (wz_16 aw law waf cwaf gwaf wag cwag gwag)) hP hD [1, 8, 11] [0, 2, 3, 4, 5, 6, 7, 9, 10, 12, 13, 14, 15, 16, 17] rfl rfl (by decide) (by decide) hk1 hFc hP1 hD1
          clear hPc hDc hKc hFc hz1 hk1 hP1 hK1 hD1
          rename Heap => H
          have hP : va_P (dC, dI) cls [(h0, .inr (9, [.ref aw, .ref ac, .int h0_sound, .int h0_function, .ref ty, .int h0_height, .ref bo, .ref bg, .ref bh, .ref bd, .int h0_depth])), (ac, .inr (3, [.ref cfi, .ref clk, .ref clt, .int ac_length, .ref cop, .ref cva, .ref cpt, .ref cel, .int ac_labelCount, .ref cla])), (ty, .inl (cty, 5000, .inl gty)), (bo, .inl (cbo, 101, .inl gbo)), (bg, .inl (cbg, 101, .inl gbg)), (bh, .inl (cbh, 101, .inl gbh)), (bd, .inl (cbd, 101, .inl gbd)), (wat, .inl (cwat, 20, .inl gwat)), (wap, .inl (cwap, 160, .inl gwap)), (clk, .inl (cclk, 30, .inl gclk)), (clt, .inl (cclt, 1800, .inl gclt)), (cop, .inl (ccop, 5000, .inl gcop)), (cva, .inl (ccva, 5000, .inr (.inl gcva))), (cpt, .inl (ccpt, 5000, .inl gcpt)), (cla, .inl (ccla, 2000, .inl gcla)), (aw, .inr (10, law)), (waf, .inl (cwaf, 30, .inl gwaf)), (wag, .inl (cwag, 20, .inl gwag))] H := hP
          have hD : va_D A [(h0, .inr (9, [.ref aw, .ref ac, .int h0_sound, .int h0_function, .ref ty, .int h0_height, .ref bo, .ref bg, .ref bh, .ref bd, .int h0_depth])), (ac, .inr (3, [.ref cfi, .ref clk, .ref clt, .int ac_length, .ref cop, .ref cva, .ref cpt, .ref cel, .int ac_labelCount, .ref cla])), (ty, .inl (cty, 5000, .inl gty)), (bo, .inl (cbo, 101, .inl gbo)), (bg, .inl (cbg, 101, .inl gbg)), (bh, .inl (cbh, 101, .inl gbh)), (bd, .inl (cbd, 101, .inl gbd)), (wat, .inl (cwat, 20, .inl gwat)), (wap, .inl (cwap, 160, .inl gwap)), (clk, .inl (cclk, 30, .inl gclk)), (clt, .inl (cclt, 1800, .inl gclt)), (cop, .inl (ccop, 5000, .inl gcop)), (cva, .inl (ccva, 5000, .inr (.inl gcva))), (cpt, .inl (ccpt, 5000, .inl gcpt)), (cla, .inl (ccla, 2000, .inl gcla)), (aw, .inr (10, law)), (waf, .inl (cwaf, 30, .inl gwaf)), (wag, .inl (cwag, 20, .inl gwag))] := hD
          have hPc := hP.sb (wq := (wz_65 h0 aw ac h0_sound h0_function ty h0_height bo bg bh bd h0_depth ty cty gty bh cbh gbh bd cbd gbd)) [0, 2, 5, 6] rfl
          have hDc := hD.sb (wq := (wz_65 h0 aw ac h0_sound h0_function ty h0_height bo bg bh bd h0_depth ty cty gty bh cbh gbh bd cbd gbd)) [0, 2, 5, 6] (by decide) rfl
          have hKc := hK.sb (tyq := [(cty, .int), (cbh, .int), (cbd, .boolean)]) [0, 3, 4] rfl
          have hFc := va_free (wc := (wz_65 h0 aw ac h0_sound h0_function ty h0_height bo bg bh bd h0_depth ty cty gty bh cbh gbh bd cbd gbd)) hD hS hA [0, 2, 5, 6] rfl
          refine va_callv (va_runV (As := [.int r29]) (rest := []) ⟨hx, hb, hml, hown, hts⟩ (c_VA_pop l dC dI H.size h0 aw ac ty bo bg bh bd cty cbh cbd h0_sound h0_function h0_height h0_depth gty gbh gbd (b_h0_sound) (b_h0_height) (b_h0_depth) (b_gty) (b_gbh) r29 (by (try dsimp only) <;> (first | (apply Int.le_antisymm <;> omega) | omega)) (by (try dsimp only) <;> (first | (apply Int.le_antisymm <;> omega) | omega))) (cwV 1 hts (gV kM_VA_161 kV_VA_pop kS_VA_pop kI_VA kC_VA_pop) rfl rfl rfl (by decide +kernel) ⟨Nat.le_of_ble_eq_true rfl, Nat.le_of_ble_eq_true rfl⟩) ⟨fun a U g mk z => by obtain ⟨z0, z1, zP, zK, zD⟩ := z; exact ⟨z0, z1, zP, va_K.moved (u := U) (U := U.calling g mk a) (Vm.Alike.refl U.vm) zK, zD⟩, va_recv hKc hPc (ci := 9) (q0 := 0) rfl rfl, fun U hU hW => ⟨rfl, by rw [hU], va_P.he hU.symm hPc, va_K.moved hW.alike hKc, hDc.weaken (fun _ _ _ _ => trivial)⟩⟩ rfl rfl hl.1 rfl (lv_room (Nat.le_of_ble_eq_true rfl)) d_VA_checkJump_116 ⟨(Nat.zero_le _), (Nat.zero_le _)⟩) hS (fun q _ h => hFc q h) hFc (fun u t H1 locs ht hvm hw hB hz1 hk1 hS => ?_)
          obtain ⟨n31, n32⟩ := u
          try dsimp only at hw
          obtain ⟨bn31, bn32, xr30⟩ := hw
          try clear hw
          have tn32 := b01 bn32
          obtain ⟨hP1, hK1, hD1⟩ := hB
          replace hP1 := va_P.he ht hP1
          obtain ⟨hP, hD⟩ := va_join (wr := [(ac, .inr (3, [.ref cfi, .ref clk, .ref clt, .int ac_length, .ref cop, .ref cva, .ref cpt, .ref cel, .int ac_labelCount, .ref cla])), (bo, .inl (cbo, 101, .inl gbo)), (bg, .inl (cbg, 101, .inl gbg)), (wat, .inl (cwat, 20, .inl gwat)), (wap, .inl (cwap, 160, .inl gwap)), (clk, .inl (cclk, 30, .inl gclk)), (clt, .inl (cclt, 1800, .inl gclt)), (cop, .inl (ccop, 5000, .inl gcop)), (cva, .inl (ccva, 5000, .inr (.inl gcva))), (cpt, .inl (ccpt, 5000, .inl gcpt)), (cla, .inl (ccla, 2000, .inl gcla)), (aw, .inr (10, law)), (waf, .inl (cwaf, 30, .inl gwaf)), (wag, .inl (cwag, 20, .inl gwag))]) (w1 := (wz_65 h0 aw ac n32 h0_function ty n31 bo bg bh bd h0_depth ty cty gty bh cbh gbh bd cbd gbd)) hP hD [0, 2, 5, 6] [1, 3, 4, 7, 8, 9, 10, 11, 12, 13, 14, 15, 16, 17] rfl rfl (by decide) (by decide) hk1 hFc hP1 hD1
          clear hPc hDc hKc hFc hz1 hk1 hP1 hK1 hD1
          rename Heap => H
          have hP : va_P (dC, dI) cls [(ac, .inr (3, [.ref cfi, .ref clk, .ref clt, .int ac_length, .ref cop, .ref cva, .ref cpt, .ref cel, .int ac_labelCount, .ref cla])), (bo, .inl (cbo, 101, .inl gbo)), (bg, .inl (cbg, 101, .inl gbg)), (wat, .inl (cwat, 20, .inl gwat)), (wap, .inl (cwap, 160, .inl gwap)), (clk, .inl (cclk, 30, .inl gclk)), (clt, .inl (cclt, 1800, .inl gclt)), (cop, .inl (ccop, 5000, .inl gcop)), (cva, .inl (ccva, 5000, .inr (.inl gcva))), (cpt, .inl (ccpt, 5000, .inl gcpt)), (cla, .inl (ccla, 2000, .inl gcla)), (aw, .inr (10, law)), (waf, .inl (cwaf, 30, .inl gwaf)), (wag, .inl (cwag, 20, .inl gwag)), (h0, .inr (9, [.ref aw, .ref ac, .int n32, .int h0_function, .ref ty, .int n31, .ref bo, .ref bg, .ref bh, .ref bd, .int h0_depth])), (ty, .inl (cty, 5000, .inl gty)), (bh, .inl (cbh, 101, .inl gbh)), (bd, .inl (cbd, 101, .inl gbd))] H := hP
          have hD : va_D A [(ac, .inr (3, [.ref cfi, .ref clk, .ref clt, .int ac_length, .ref cop, .ref cva, .ref cpt, .ref cel, .int ac_labelCount, .ref cla])), (bo, .inl (cbo, 101, .inl gbo)), (bg, .inl (cbg, 101, .inl gbg)), (wat, .inl (cwat, 20, .inl gwat)), (wap, .inl (cwap, 160, .inl gwap)), (clk, .inl (cclk, 30, .inl gclk)), (clt, .inl (cclt, 1800, .inl gclt)), (cop, .inl (ccop, 5000, .inl gcop)), (cva, .inl (ccva, 5000, .inr (.inl gcva))), (cpt, .inl (ccpt, 5000, .inl gcpt)), (cla, .inl (ccla, 2000, .inl gcla)), (aw, .inr (10, law)), (waf, .inl (cwaf, 30, .inl gwaf)), (wag, .inl (cwag, 20, .inl gwag)), (h0, .inr (9, [.ref aw, .ref ac, .int n32, .int h0_function, .ref ty, .int n31, .ref bo, .ref bg, .ref bh, .ref bd, .int h0_depth])), (ty, .inl (cty, 5000, .inl gty)), (bh, .inl (cbh, 101, .inl gbh)), (bd, .inl (cbd, 101, .inl gbd))] := hD
          refine lv_aload_n hx hb d_VA_checkJump_119 rfl (lv_at hl 1 rfl) ?_
          have hPc := hP.sb (wq := (wz_68 h0 aw ac n32 h0_function ty n31 bo bg bh bd h0_depth bh cbh gbh bd cbd gbd)) [14, 16, 17] rfl
          have hDc := hD.sb (wq := (wz_68 h0 aw ac n32 h0_function ty n31 bo bg bh bd h0_depth bh cbh gbh bd cbd gbd)) [14, 16, 17] (by decide) rfl
          have hKc := hK.sb (tyq := [(cbh, .int), (cbd, .boolean)]) [3, 4] rfl
          have hFc := va_free (wc := (wz_68 h0 aw ac n32 h0_function ty n31 bo bg bh bd h0_depth bh cbh gbh bd cbd gbd)) hD hS hA [14, 16, 17] rfl
          refine va_callv (va_runV (As := []) (rest := []) ⟨hx, hb, hml, hown, hts⟩ (c_VA_die l dC dI H.size h0 aw ac ty bo bg bh bd cbh cbd n32 h0_function n31 h0_depth gbh gbd (bn31) (b_h0_depth) (b_gbh) (by (try dsimp only) <;> (first | (apply Int.le_antisymm <;> omega) | omega))) (cwV 0 hts (gV kM_VA_158 kV_VA_die kS_VA_die kI_VA kC_VA_die) rfl rfl rfl (by decide +kernel) ⟨Nat.le_of_ble_eq_true rfl, Nat.le_of_ble_eq_true rfl⟩) ⟨fun a U g mk z => by obtain ⟨z0, z1, zP, zK, zD⟩ := z; exact ⟨z0, z1, zP, va_K.moved (u := U) (U := U.calling g mk a) (Vm.Alike.refl U.vm) zK, zD⟩, va_recv hKc hPc (ci := 9) (q0 := 0) rfl rfl, fun U hU hW => ⟨rfl, by rw [hU], va_P.he hU.symm hPc, va_K.moved hW.alike hKc, hDc.weaken (fun _ _ _ _ => trivial)⟩⟩ rfl rfl hl.1 rfl (lv_room (Nat.le_of_ble_eq_true rfl)) d_VA_checkJump_120 ⟨(Nat.zero_le _), (Nat.zero_le _)⟩) hS (fun q _ h => hFc q h) hFc (fun u t H1 locs ht hvm hw hB hz1 hk1 hS => ?_)
          obtain ⟨n34, n35⟩ := u
          try dsimp only at hw
          obtain ⟨bn35, xr33⟩ := hw
          try clear hw
          obtain ⟨hP1, hK1, hD1⟩ := hB
          replace hP1 := va_P.he ht hP1
          obtain ⟨hP, hD⟩ := va_join (wr := [(ac, .inr (3, [.ref cfi, .ref clk, .ref clt, .int ac_length, .ref cop, .ref cva, .ref cpt, .ref cel, .int ac_labelCount, .ref cla])), (bo, .inl (cbo, 101, .inl gbo)), (bg, .inl (cbg, 101, .inl gbg)), (wat, .inl (cwat, 20, .inl gwat)), (wap, .inl (cwap, 160, .inl gwap)), (clk, .inl (cclk, 30, .inl gclk)), (clt, .inl (cclt, 1800, .inl gclt)), (cop, .inl (ccop, 5000, .inl gcop)), (cva, .inl (ccva, 5000, .inr (.inl gcva))), (cpt, .inl (ccpt, 5000, .inl gcpt)), (cla, .inl (ccla, 2000, .inl gcla)), (aw, .inr (10, law)), (waf, .inl (cwaf, 30, .inl gwaf)), (wag, .inl (cwag, 20, .inl gwag)), (ty, .inl (cty, 5000, .inl gty))]) (w1 := (wz_68 h0 aw ac n32 h0_function ty n35 bo bg bh bd h0_depth bh cbh gbh bd cbd n34)) hP hD [14, 16, 17] [0, 1, 2, 3, 4, 5, 6, 7, 8, 9, 10, 11, 12, 13, 15] rfl rfl (by decide) (by decide) hk1 hFc hP1 hD1
          clear hPc hDc hKc hFc hz1 hk1 hP1 hK1 hD1
          rename Heap => H
          have hP : va_P (dC, dI) cls [(ac, .inr (3, [.ref cfi, .ref clk, .ref clt, .int ac_length, .ref cop, .ref cva, .ref cpt, .ref cel, .int ac_labelCount, .ref cla])), (bo, .inl (cbo, 101, .inl gbo)), (bg, .inl (cbg, 101, .inl gbg)), (wat, .inl (cwat, 20, .inl gwat)), (wap, .inl (cwap, 160, .inl gwap)), (clk, .inl (cclk, 30, .inl gclk)), (clt, .inl (cclt, 1800, .inl gclt)), (cop, .inl (ccop, 5000, .inl gcop)), (cva, .inl (ccva, 5000, .inr (.inl gcva))), (cpt, .inl (ccpt, 5000, .inl gcpt)), (cla, .inl (ccla, 2000, .inl gcla)), (aw, .inr (10, law)), (waf, .inl (cwaf, 30, .inl gwaf)), (wag, .inl (cwag, 20, .inl gwag)), (ty, .inl (cty, 5000, .inl gty)), (h0, .inr (9, [.ref aw, .ref ac, .int n32, .int h0_function, .ref ty, .int n35, .ref bo, .ref bg, .ref bh, .ref bd, .int h0_depth])), (bh, .inl (cbh, 101, .inl gbh)), (bd, .inl (cbd, 101, .inl n34))] H := hP
          have hD : va_D A [(ac, .inr (3, [.ref cfi, .ref clk, .ref clt, .int ac_length, .ref cop, .ref cva, .ref cpt, .ref cel, .int ac_labelCount, .ref cla])), (bo, .inl (cbo, 101, .inl gbo)), (bg, .inl (cbg, 101, .inl gbg)), (wat, .inl (cwat, 20, .inl gwat)), (wap, .inl (cwap, 160, .inl gwap)), (clk, .inl (cclk, 30, .inl gclk)), (clt, .inl (cclt, 1800, .inl gclt)), (cop, .inl (ccop, 5000, .inl gcop)), (cva, .inl (ccva, 5000, .inr (.inl gcva))), (cpt, .inl (ccpt, 5000, .inl gcpt)), (cla, .inl (ccla, 2000, .inl gcla)), (aw, .inr (10, law)), (waf, .inl (cwaf, 30, .inl gwaf)), (wag, .inl (cwag, 20, .inl gwag)), (ty, .inl (cty, 5000, .inl gty)), (h0, .inr (9, [.ref aw, .ref ac, .int n32, .int h0_function, .ref ty, .int n35, .ref bo, .ref bg, .ref bh, .ref bd, .int h0_depth])), (bh, .inl (cbh, 101, .inl gbh)), (bd, .inl (cbd, 101, .inl n34))] := hD
          refine lv_goto (tgt := 131) hx hb d_VA_checkJump_123 (by decide) ?_
          have hP9 := hP.sb (wq := (wz_83 h0 aw ac n32 h0_function ty n35 bo bg bh bd h0_depth aw law ac cfi clk clt ac_length cop cva cpt cel ac_labelCount cla ty cty gty bo cbo gbo bg cbg gbg bh cbh gbh bd cbd n34 waf cwaf gwaf wat cwat gwat wap cwap gwap wag cwag gwag clk cclk gclk clt cclt gclt cop ccop gcop cva ccva gcva cpt ccpt gcpt cla ccla gcla)) [15, 11, 0, 14, 1, 2, 16, 17, 12, 3, 4, 13, 5, 6, 7, 8, 9, 10] rfl
          have hD9 := hD.sb (wq := (wz_83 h0 aw ac n32 h0_function ty n35 bo bg bh bd h0_depth aw law ac cfi clk clt ac_length cop cva cpt cel ac_labelCount cla ty cty gty bo cbo gbo bg cbg gbg bh cbh gbh bd cbd n34 waf cwaf gwaf wat cwat gwat wap cwap gwap wag cwag gwag clk cclk gclk clt cclt gclt cop ccop gcop cva ccva gcva cpt ccpt gcpt cla ccla gcla)) [15, 11, 0, 14, 1, 2, 16, 17, 12, 3, 4, 13, 5, 6, 7, 8, 9, 10] (by decide) rfl
          exact W.vret hx hb hr (fun t ht hW => ⟨⟨(n34, gty, n35, n32), rfl, ⟨b_gty, bn35, bn32, ⟨fun _ => ⟨⟨xr33.1, xr33.2⟩, by (try dsimp only) <;> (first | (apply Int.le_antisymm <;> omega) | omega)⟩, fun z => absurd z (by (first | (apply Int.le_antisymm <;> omega) | omega)), fun z => absurd z (by (first | (apply Int.le_antisymm <;> omega) | omega))⟩⟩, va_P.he ht.symm hP9, va_K.moved hW.alike hK, hD9⟩, hS.F ht⟩) hS.2.2 d_VA_checkJump_131
        · skip
          have ho12 : tab_off 114 12 15 #[32, 48, 75, 92] p0.toInt = 114 := by
            unfold tab_off
            split
            · rfl
            · exfalso; (first | (apply Int.le_antisymm <;> omega) | omega)
          refine lv_tab (tgt := 126) hx hb d_VA_checkJump_12 (by decide) ho12 (by decide) ?_
          clear ho12
          have tv3 := v9 (A1 (by (first | (apply Int.le_antisymm <;> omega) | omega)) (by (first | (apply Int.le_antisymm <;> omega) | omega)))
          refine lv_aload_n hx hb d_VA_checkJump_126 rfl (lv_at hl 1 rfl) ?_
          refine lv_iload_n hx hb d_VA_checkJump_127 rfl (lv_at hl 0 rfl) ?_
          have hPc := hP.sb (wq := (wz_78 h0 aw ac h0_sound h0_function ty h0_height bo bg bh bd h0_depth aw law ac cfi clk clt ac_length cop cva cpt cel ac_labelCount cla ty cty gty bh cbh gbh bd cbd gbd waf cwaf gwaf wat cwat gwat wap cwap gwap wag cwag gwag clk cclk gclk clt cclt gclt)) [0, 1, 2, 3, 6, 7, 8, 9, 10, 11, 12, 13] rfl
          have hDc := hD.sb (wq := (wz_78 h0 aw ac h0_sound h0_function ty h0_height bo bg bh bd h0_depth aw law ac cfi clk clt ac_length cop cva cpt cel ac_labelCount cla ty cty gty bh cbh gbh bd cbd gbd waf cwaf gwaf wat cwat gwat wap cwap gwap wag cwag gwag clk cclk gclk clt cclt gclt)) [0, 1, 2, 3, 6, 7, 8, 9, 10, 11, 12, 13] (by decide) rfl
          have hKc := hK.sb (tyq := [(cty, .int), (cbh, .int), (cbd, .boolean), (cwaf, .int), (cwat, .int), (cwap, .int), (cwag, .int), (cclk, .int), (cclt, .int)]) [0, 3, 4, 5, 6, 7, 8, 9, 10] rfl
          have hFc := va_free (wc := (wz_78 h0 aw ac h0_sound h0_function ty h0_height bo bg bh bd h0_depth aw law ac cfi clk clt ac_length cop cva cpt cel ac_labelCount cla ty cty gty bh cbh gbh bd cbd gbd waf cwaf gwaf wat cwat gwat wap cwap gwap wag cwag gwag clk cclk gclk clt cclt gclt)) hD hS hA [0, 1, 2, 3, 6, 7, 8, 9, 10, 11, 12, 13] rfl
          refine va_callv (va_runV (As := [.int x2]) (rest := []) ⟨hx, hb, hml, hown, hts⟩ (c_VA_checkCall l dC dI H.size h0 aw ac ty bo bg bh bd wat wap wag waf cfi clk clt cop cva cpt cel cla cty cbh cbd cwaf cwat cwap cwag cclk cclt h0_sound h0_function h0_height h0_depth law aw_functionCount ac_length ac_labelCount gty gbh gbd gwaf gwat gwap gwag gclk gclt paw_1 paw_3 paw_4 paw_5 paw_6 paw_7 plaw (b_h0_sound) (b_h0_height) (b_h0_depth) (b_gty) (b_gbh) (b_aw_functionCount) x2 (by (try dsimp only) <;> (first | (apply Int.le_antisymm <;> omega) | omega)) (hd1) (hbh) (hh5) (by (first | (apply Int.le_antisymm <;> omega) | omega)) (hwf)) (cwV 1 hts (gV kM_VA_176 kV_VA_checkCall kS_VA_checkCall kI_VA kC_VA_checkCall) rfl rfl rfl (by decide +kernel) ⟨Nat.le_of_ble_eq_true rfl, Nat.le_of_ble_eq_true rfl⟩) ⟨fun a U g mk z => by obtain ⟨z0, z1, zP, zK, zD⟩ := z; exact ⟨z0, z1, zP, va_K.moved (u := U) (U := U.calling g mk a) (Vm.Alike.refl U.vm) zK, zD⟩, va_recv hKc hPc (ci := 9) (q0 := 0) rfl rfl, fun U hU hW => ⟨rfl, by rw [hU], va_P.he hU.symm hPc, va_K.moved hW.alike hKc, hDc.weaken (fun _ _ _ _ => trivial)⟩⟩ rfl rfl hl.1 rfl (lv_room (Nat.le_of_ble_eq_true rfl)) d_VA_checkJump_128 ⟨(Nat.zero_le _), (Nat.zero_le _)⟩) hS (fun q _ h => hFc q h) hFc (fun u t H1 locs ht hvm hw hB hz1 hk1 hS => ?_)
          obtain ⟨n37, n38, n39⟩ := u
          try dsimp only at hw
          obtain ⟨bn37, bn38, bn39, xr36⟩ := hw
          try clear hw
          have tn39 := b01 bn39
          obtain ⟨hP1, hK1, hD1⟩ := hB
          replace hP1 := va_P.he ht hP1
          obtain ⟨hP, hD⟩ := va_join (wr := [(bo, .inl (cbo, 101, .inl gbo)), (bg, .inl (cbg, 101, .inl gbg)), (cop, .inl (ccop, 5000, .inl gcop)), (cva, .inl (ccva, 5000, .inr (.inl gcva))), (cpt, .inl (ccpt, 5000, .inl gcpt)), (cla, .inl (ccla, 2000, .inl gcla))]) (w1 := (wz_78 h0 aw ac n39 h0_function ty n38 bo bg bh bd h0_depth aw law ac cfi clk clt ac_length cop cva cpt cel ac_labelCount cla ty cty n37 bh cbh gbh bd cbd gbd waf cwaf gwaf wat cwat gwat wap cwap gwap wag cwag gwag clk cclk gclk clt cclt gclt)) hP hD [0, 1, 2, 3, 6, 7, 8, 9, 10, 11, 12, 13] [4, 5, 14, 15, 16, 17] rfl rfl (by decide) (by decide) hk1 hFc hP1 hD1
          clear hPc hDc hKc hFc hz1 hk1 hP1 hK1 hD1
          rename Heap => H
          have hP : va_P (dC, dI) cls [(bo, .inl (cbo, 101, .inl gbo)), (bg, .inl (cbg, 101, .inl gbg)), (cop, .inl (ccop, 5000, .inl gcop)), (cva, .inl (ccva, 5000, .inr (.inl gcva))), (cpt, .inl (ccpt, 5000, .inl gcpt)), (cla, .inl (ccla, 2000, .inl gcla)), (h0, .inr (9, [.ref aw, .ref ac, .int n39, .int h0_function, .ref ty, .int n38, .ref bo, .ref bg, .ref bh, .ref bd, .int h0_depth])), (aw, .inr (10, law)), (ac, .inr (3, [.ref cfi, .ref clk, .ref clt, .int ac_length, .ref cop, .ref cva, .ref cpt, .ref cel, .int ac_labelCount, .ref cla])), (ty, .inl (cty, 5000, .inl n37)), (bh, .inl (cbh, 101, .inl gbh)), (bd, .inl (cbd, 101, .inl gbd)), (waf, .inl (cwaf, 30, .inl gwaf)), (wat, .inl (cwat, 20, .inl gwat)), (wap, .inl (cwap, 160, .inl gwap)), (wag, .inl (cwag, 20, .inl gwag)), (clk, .inl (cclk, 30, .inl gclk)), (clt, .inl (cclt, 1800, .inl gclt))] H := hP
          have hD : va_D A [(bo, .inl (cbo, 101, .inl gbo)), (bg, .inl (cbg, 101, .inl gbg)), (cop, .inl (ccop, 5000, .inl gcop)), (cva, .inl (ccva, 5000, .inr (.inl gcva))), (cpt, .inl (ccpt, 5000, .inl gcpt)), (cla, .inl (ccla, 2000, .inl gcla)), (h0, .inr (9, [.ref aw, .ref ac, .int n39, .int h0_function, .ref ty, .int n38, .ref bo, .ref bg, .ref bh, .ref bd, .int h0_depth])), (aw, .inr (10, law)), (ac, .inr (3, [.ref cfi, .ref clk, .ref clt, .int ac_length, .ref cop, .ref cva, .ref cpt, .ref cel, .int ac_labelCount, .ref cla])), (ty, .inl (cty, 5000, .inl n37)), (bh, .inl (cbh, 101, .inl gbh)), (bd, .inl (cbd, 101, .inl gbd)), (waf, .inl (cwaf, 30, .inl gwaf)), (wat, .inl (cwat, 20, .inl gwat)), (wap, .inl (cwap, 160, .inl gwap)), (wag, .inl (cwag, 20, .inl gwag)), (clk, .inl (cclk, 30, .inl gclk)), (clt, .inl (cclt, 1800, .inl gclt))] := hD
          have hP9 := hP.sb (wq := (wz_83 h0 aw ac n39 h0_function ty n38 bo bg bh bd h0_depth aw law ac cfi clk clt ac_length cop cva cpt cel ac_labelCount cla ty cty n37 bo cbo gbo bg cbg gbg bh cbh gbh bd cbd gbd waf cwaf gwaf wat cwat gwat wap cwap gwap wag cwag gwag clk cclk gclk clt cclt gclt cop ccop gcop cva ccva gcva cpt ccpt gcpt cla ccla gcla)) [6, 7, 8, 9, 0, 1, 10, 11, 12, 13, 14, 15, 16, 17, 2, 3, 4, 5] rfl
          have hD9 := hD.sb (wq := (wz_83 h0 aw ac n39 h0_function ty n38 bo bg bh bd h0_depth aw law ac cfi clk clt ac_length cop cva cpt cel ac_labelCount cla ty cty n37 bo cbo gbo bg cbg gbg bh cbh gbh bd cbd gbd waf cwaf gwaf wat cwat gwat wap cwap gwap wag cwag gwag clk cclk gclk clt cclt gclt cop ccop gcop cva ccva gcva cpt ccpt gcpt cla ccla gcla)) [6, 7, 8, 9, 0, 1, 10, 11, 12, 13, 14, 15, 16, 17, 2, 3, 4, 5] (by decide) rfl
          exact W.vret hx hb hr (fun t ht hW => ⟨⟨(gbd, n37, n38, n39), rfl, ⟨bn37, bn38, bn39, ⟨fun z => absurd z (by (first | (apply Int.le_antisymm <;> omega) | omega)), fun z => absurd z (by (first | (apply Int.le_antisymm <;> omega) | omega)), fun _ => ⟨rfl, xr36.1, by rw [← tv3]; have q9 := xr36.2; rw [i32_natI (x := x2) rfl] at q9; exact q9⟩⟩⟩, va_P.he ht.symm hP9, va_K.moved hW.alike hK, hD9⟩, hS.F ht⟩) hS.2.2 d_VA_checkJump_131
abbrev b_VA_checkBlocks : ByteArray := prog_12_method_6_code
def y_VA_checkBlocks : MethodName := ⟨R_VA, "checkBlocks", "(II)V"⟩
abbrev w_VA_checkBlocks : List Cond := .code y_VA_checkBlocks b_VA_checkBlocks 3 none :: lw_g
theorem kC_VA_checkBlocks : Cond.code y_VA_checkBlocks b_VA_checkBlocks 3 none ∈ lw_g := in_c6 219 rfl rfl
theorem d_VA_checkBlocks_0 : decode b_VA_checkBlocks 0 = .ok (.iload_n 1, 1) := bz_c27 (by decide +kernel)
theorem d_VA_checkBlocks_1 : decode b_VA_checkBlocks 1 = .ok (.tableswitch 179 0 11 #[63, 70, 179, 179, 73, 88, 179, 179, 179, 179, 179, 109], 63) := by decide +kernel
theorem d_VA_checkBlocks_64 : decode b_VA_checkBlocks 64 = .ok (.aload_n 0, 1) := bz_c42 (by decide +kernel)
theorem d_VA_checkBlocks_65 : decode b_VA_checkBlocks 65 = .ok (.invokevirtual 158, 3) := bz_c182 (by decide +kernel)
theorem d_VA_checkBlocks_68 : decode b_VA_checkBlocks 68 = .ok (.goto 118, 3) := bz_c167 (by decide +kernel)
theorem d_VA_checkBlocks_71 : decode b_VA_checkBlocks 71 = .ok (.goto 115, 3) := bz_c167 (by decide +kernel)
theorem d_VA_checkBlocks_74 : decode b_VA_checkBlocks 74 = .ok (.aload_n 0, 1) := bz_c42 (by decide +kernel)
theorem d_VA_checkBlocks_75 : decode b_VA_checkBlocks 75 = .ok (.bipush 127, 2) := bz_c16 (by decide +kernel)
theorem d_VA_checkBlocks_77 : decode b_VA_checkBlocks 77 = .ok (.invokevirtual 161, 3) := bz_c182 (by decide +kernel)
theorem d_VA_checkBlocks_80 : decode b_VA_checkBlocks 80 = .ok (.aload_n 0, 1) := bz_c42 (by decide +kernel)
theorem d_VA_checkBlocks_81 : decode b_VA_checkBlocks 81 = .ok (.iload_n 1, 1) := bz_c27 (by decide +kernel)
theorem d_VA_checkBlocks_82 : decode b_VA_checkBlocks 82 = .ok (.iload_n 2, 1) := bz_c28 (by decide +kernel)
theorem d_VA_checkBlocks_83 : decode b_VA_checkBlocks 83 = .ok (.invokevirtual 124, 3) := bz_c182 (by decide +kernel)
theorem d_VA_checkBlocks_86 : decode b_VA_checkBlocks 86 = .ok (.goto 100, 3) := bz_c167 (by decide +kernel)
theorem d_VA_checkBlocks_89 : decode b_VA_checkBlocks 89 = .ok (.aload_n 0, 1) := bz_c42 (by decide +kernel)
theorem d_VA_checkBlocks_90 : decode b_VA_checkBlocks 90 = .ok (.invokevirtual 164, 3) := bz_c182 (by decide +kernel)
theorem d_VA_checkBlocks_93 : decode b_VA_checkBlocks 93 = .ok (.aload_n 0, 1) := bz_c42 (by decide +kernel)
theorem d_VA_checkBlocks_94 : decode b_VA_checkBlocks 94 = .ok (.iload_n 1, 1) := bz_c27 (by decide +kernel)
theorem d_VA_checkBlocks_95 : decode b_VA_checkBlocks 95 = .ok (.aload_n 0, 1) := bz_c42 (by decide +kernel)
theorem d_VA_checkBlocks_96 : decode b_VA_checkBlocks 96 = .ok (.getfield 18, 3) := bz_c180 (by decide +kernel)
theorem d_VA_checkBlocks_99 : decode b_VA_checkBlocks 99 = .ok (.aload_n 0, 1) := bz_c42 (by decide +kernel)
theorem d_VA_checkBlocks_100 : decode b_VA_checkBlocks 100 = .ok (.getfield 117, 3) := bz_c180 (by decide +kernel)
theorem d_VA_checkBlocks_103 : decode b_VA_checkBlocks 103 = .ok (.iaload, 1) := bz_c46 (by decide +kernel)
theorem d_VA_checkBlocks_104 : decode b_VA_checkBlocks 104 = .ok (.invokevirtual 124, 3) := bz_c182 (by decide +kernel)
theorem d_VA_checkBlocks_107 : decode b_VA_checkBlocks 107 = .ok (.goto 79, 3) := bz_c167 (by decide +kernel)
theorem d_VA_checkBlocks_110 : decode b_VA_checkBlocks 110 = .ok (.aload_n 0, 1) := bz_c42 (by decide +kernel)
theorem d_VA_checkBlocks_111 : decode b_VA_checkBlocks 111 = .ok (.invokevirtual 164, 3) := bz_c182 (by decide +kernel)
theorem d_VA_checkBlocks_114 : decode b_VA_checkBlocks 114 = .ok (.aload_n 0, 1) := bz_c42 (by decide +kernel)
theorem d_VA_checkBlocks_115 : decode b_VA_checkBlocks 115 = .ok (.aload_n 0, 1) := bz_c42 (by decide +kernel)
theorem d_VA_checkBlocks_116 : decode b_VA_checkBlocks 116 = .ok (.getfield 39, 3) := bz_c180 (by decide +kernel)
theorem d_VA_checkBlocks_119 : decode b_VA_checkBlocks 119 = .ok (.ifCond .eq 34, 3) := bz_c153 (by decide +kernel)
theorem d_VA_checkBlocks_122 : decode b_VA_checkBlocks 122 = .ok (.aload_n 0, 1) := bz_c42 (by decide +kernel)
theorem d_VA_checkBlocks_123 : decode b_VA_checkBlocks 123 = .ok (.getfield 15, 3) := bz_c180 (by decide +kernel)
theorem d_VA_checkBlocks_126 : decode b_VA_checkBlocks 126 = .ok (.aload_n 0, 1) := bz_c42 (by decide +kernel)
theorem d_VA_checkBlocks_127 : decode b_VA_checkBlocks 127 = .ok (.getfield 117, 3) := bz_c180 (by decide +kernel)
theorem d_VA_checkBlocks_130 : decode b_VA_checkBlocks 130 = .ok (.iaload, 1) := bz_c46 (by decide +kernel)
theorem d_VA_checkBlocks_131 : decode b_VA_checkBlocks 131 = .ok (.iconst 4, 1) := bz_c7 (by decide +kernel)
theorem d_VA_checkBlocks_132 : decode b_VA_checkBlocks 132 = .ok (.if_icmp .ne 17, 3) := bz_c160 (by decide +kernel)
theorem d_VA_checkBlocks_135 : decode b_VA_checkBlocks 135 = .ok (.aload_n 0, 1) := bz_c42 (by decide +kernel)
theorem d_VA_checkBlocks_136 : decode b_VA_checkBlocks 136 = .ok (.getfield 18, 3) := bz_c180 (by decide +kernel)
theorem d_VA_checkBlocks_139 : decode b_VA_checkBlocks 139 = .ok (.aload_n 0, 1) := bz_c42 (by decide +kernel)
theorem d_VA_checkBlocks_140 : decode b_VA_checkBlocks 140 = .ok (.getfield 117, 3) := bz_c180 (by decide +kernel)
theorem d_VA_checkBlocks_143 : decode b_VA_checkBlocks 143 = .ok (.iaload, 1) := bz_c46 (by decide +kernel)
theorem d_VA_checkBlocks_144 : decode b_VA_checkBlocks 144 = .ok (.bipush 64, 2) := bz_c16 (by decide +kernel)
theorem d_VA_checkBlocks_146 : decode b_VA_checkBlocks 146 = .ok (.if_icmp .ne 7, 3) := bz_c160 (by decide +kernel)
theorem d_VA_checkBlocks_149 : decode b_VA_checkBlocks 149 = .ok (.iconst 1, 1) := bz_c4 (by decide +kernel)
theorem d_VA_checkBlocks_150 : decode b_VA_checkBlocks 150 = .ok (.goto 4, 3) := bz_c167 (by decide +kernel)
theorem d_VA_checkBlocks_153 : decode b_VA_checkBlocks 153 = .ok (.iconst 0, 1) := bz_c3 (by decide +kernel)
theorem d_VA_checkBlocks_154 : decode b_VA_checkBlocks 154 = .ok (.putfield 39, 3) := bz_c181 (by decide +kernel)
theorem d_VA_checkBlocks_157 : decode b_VA_checkBlocks 157 = .ok (.aload_n 0, 1) := bz_c42 (by decide +kernel)
theorem d_VA_checkBlocks_158 : decode b_VA_checkBlocks 158 = .ok (.getfield 117, 3) := bz_c180 (by decide +kernel)
theorem d_VA_checkBlocks_161 : decode b_VA_checkBlocks 161 = .ok (.ifCond .le 25, 3) := bz_c158 (by decide +kernel)
theorem d_VA_checkBlocks_164 : decode b_VA_checkBlocks 164 = .ok (.aload_n 0, 1) := bz_c42 (by decide +kernel)
theorem d_VA_checkBlocks_165 : decode b_VA_checkBlocks 165 = .ok (.aload_n 0, 1) := bz_c42 (by decide +kernel)
theorem d_VA_checkBlocks_166 : decode b_VA_checkBlocks 166 = .ok (.getfield 18, 3) := bz_c180 (by decide +kernel)
theorem d_VA_checkBlocks_169 : decode b_VA_checkBlocks 169 = .ok (.aload_n 0, 1) := bz_c42 (by decide +kernel)
theorem d_VA_checkBlocks_170 : decode b_VA_checkBlocks 170 = .ok (.getfield 117, 3) := bz_c180 (by decide +kernel)
theorem d_VA_checkBlocks_173 : decode b_VA_checkBlocks 173 = .ok (.iaload, 1) := bz_c46 (by decide +kernel)
theorem d_VA_checkBlocks_174 : decode b_VA_checkBlocks 174 = .ok (.invokevirtual 167, 3) := bz_c182 (by decide +kernel)
theorem d_VA_checkBlocks_177 : decode b_VA_checkBlocks 177 = .ok (.goto 9, 3) := bz_c167 (by decide +kernel)
theorem d_VA_checkBlocks_180 : decode b_VA_checkBlocks 180 = .ok (.aload_n 0, 1) := bz_c42 (by decide +kernel)
theorem d_VA_checkBlocks_181 : decode b_VA_checkBlocks 181 = .ok (.iload_n 1, 1) := bz_c27 (by decide +kernel)
theorem d_VA_checkBlocks_182 : decode b_VA_checkBlocks 182 = .ok (.iload_n 2, 1) := bz_c28 (by decide +kernel)
theorem d_VA_checkBlocks_183 : decode b_VA_checkBlocks 183 = .ok (.invokevirtual 124, 3) := bz_c182 (by decide +kernel)
theorem d_VA_checkBlocks_186 : decode b_VA_checkBlocks 186 = .ok (.return_, 1) := bz_c177 (by decide +kernel)
theorem kM_VA_124 : Cond.methodLink R_VA 124 y_VA_open ∈ lw_g := in_c6 212 rfl rfl
theorem kV_VA_open : Cond.instanceMethod y_VA_open ∈ lw_g := in_c6 214 rfl rfl
theorem kS_VA_open : Cond.selects R_VA y_VA_open y_VA_open ∈ lw_g := in_s 84 (by decide +kernel) rfl
theorem kM_VA_164 : Cond.methodLink R_VA 164 y_VA_close ∈ lw_g := in_c6 232 rfl rfl
theorem kV_VA_close : Cond.instanceMethod y_VA_close ∈ lw_g := in_c6 234 rfl rfl
theorem kS_VA_close : Cond.selects R_VA y_VA_close y_VA_close ∈ lw_g := in_s 89 (by decide +kernel) rfl
abbrev at_VA_checkBlocks (dC : Nat → ClassId) (dI : Nat → Nat → Nat) (h0 aw ac ty bo bg bh bd : Nat) (cty cbo cbg cbh cbd : ClassId) (h0_function : Int32) (A : Nat → Prop) (u : (Nat → Int32) × (Nat → Int32) × (Nat → Int32) × (Nat → Int32) × (Nat → Int32) × Int32 × Int32 × Int32) (t : State) : Prop := match u with | (gbd, gbg, gbh, gbo, gty, h0_depth, h0_height, h0_sound) => va_P (dC, dI) cls (wz_86 h0 aw ac h0_sound h0_function ty h0_height bo bg bh bd h0_depth ty cty gty bo cbo gbo bg cbg gbg bh cbh gbh bd cbd gbd) t.heap ∧ va_K (dC, dI) cls [(cty, .int), (cbo, .int), (cbg, .int), (cbh, .int), (cbd, .boolean)] t ∧ va_D A (wz_86 h0 aw ac h0_sound h0_function ty h0_height bo bg bh bd h0_depth ty cty gty bo cbo gbo bg cbg gbg bh cbh gbh bd cbd gbd)
set_option maxHeartbeats 4000000 in
set_option maxRecDepth 100000 in
theorem c_VA_checkBlocks (l : Launch) (dC : Nat → ClassId) (dI : Nat → Nat → Nat) (sz : Nat) (h0 aw ac ty bo bg bh bd : Nat) (cty cbo cbg cbh cbd : ClassId) (h0_sound : Int32) (h0_function : Int32) (h0_height : Int32) (h0_depth : Int32) (gty : Nat → Int32) (gbo : Nat → Int32) (gbg : Nat → Int32) (gbh : Nat → Int32) (gbd : Nat → Int32)  (b_h0_sound : h0_sound = 0 ∨ h0_sound = 1) (b_h0_height : 0 ≤ h0_height.toInt ∧ h0_height.toInt ≤ 5000) (b_h0_depth : 0 ≤ h0_depth.toInt ∧ h0_depth.toInt ≤ 101) (b_gty : ∀ j : Nat, (gty j).toInt ≠ 64) (b_gbh : ∀ j : Nat, 0 ≤ (gbh j).toInt ∧ (gbh j).toInt ≤ 5000) (p0 : Int32) (p1 : Int32)  (hd1 : 1 ≤ h0_depth.toInt) (hbh : (gbh (h0_depth.toInt - 1).toNat).toInt ≤ h0_height.toInt) (hh5 : h0_height.toInt < 5000) (hd2 : p0.toInt = 2 ∨ p0.toInt = 3 ∨ p0.toInt = 4 → h0_depth.toInt ≤ 100) (hop : (0 ≤ p0.toInt ∧ p0.toInt ≤ 5) ∨ p0.toInt = 11) : Met l y_VA_checkBlocks w_VA_checkBlocks ({ frames := 3, cells := 0, slots := 0, locals := 62 }) (va_Pc [.ref h0, .int p0, .int p1] (fun U => U.heap.size = sz ∧ va_P (dC, dI) cls (wz_86 h0 aw ac h0_sound h0_function ty h0_height bo bg bh bd h0_depth ty cty gty bo cbo gbo bg cbg gbg bh cbh gbh bd cbd gbd) U.heap ∧ va_K (dC, dI) cls [(cty, .int), (cbo, .int), (cbg, .int), (cbh, .int), (cbd, .boolean)] U ∧ va_D (fun _ => True) (wz_86 h0 aw ac h0_sound h0_function ty h0_height bo bg bh bd h0_depth ty cty gty bo cbo gbo bg cbg gbg bh cbh gbh bd cbd gbd))) (va_Qv (fun (u : (Nat → Int32) × (Nat → Int32) × (Nat → Int32) × (Nat → Int32) × (Nat → Int32) × Int32 × Int32 × Int32) => match u with | (gbd2, gbg2, gbh2, gbo2, gty2, h0_depth2, h0_height2, h0_sound2) => (∀ j : Nat, 0 ≤ (gbh2 j).toInt ∧ (gbh2 j).toInt ≤ 5000) ∧ (∀ j : Nat, (gty2 j).toInt ≠ 64) ∧ (0 ≤ h0_depth2.toInt ∧ h0_depth2.toInt ≤ 101) ∧ (0 ≤ h0_height2.toInt ∧ h0_height2.toInt ≤ 5000) ∧ (h0_sound2 = 0 ∨ h0_sound2 = 1) ∧ ((p0.toInt = 0 → (h0_height2.toInt = (gbh (h0_depth.toInt - 1).toNat).toInt ∧ gbd2 = upd gbd (h0_depth.toInt - 1).toNat (vp_nar .boolean 1)) ∧ h0_depth2 = h0_depth ∧ gbo2 = gbo ∧ gbg2 = gbg ∧ gbh2 = gbh ∧ (h0_sound2.toInt = 1 → h0_sound.toInt = 1)) ∧ (p0.toInt = 1 → h0_height2 = h0_height ∧ gbd2 = gbd ∧ h0_depth2 = h0_depth ∧ gbo2 = gbo ∧ gbg2 = gbg ∧ gbh2 = gbh ∧ (h0_sound2.toInt = 1 → h0_sound.toInt = 1)) ∧ (p0.toInt = 2 ∨ p0.toInt = 3 → (h0_depth2.toInt = h0_depth.toInt + 1 ∧ gbo2 = upd gbo h0_depth.toNatClampNeg p0 ∧ gbg2 = upd gbg h0_depth.toNatClampNeg p1 ∧ gbh2 = upd gbh h0_depth.toNatClampNeg h0_height2 ∧ gbd2 = upd gbd h0_depth.toNatClampNeg (vp_nar .boolean 0)) ∧ h0_height2 = h0_height ∧ (h0_sound2.toInt = 1 → h0_sound.toInt = 1)) ∧ (p0.toInt = 4 → (h0_depth2.toInt = h0_depth.toInt + 1 ∧ gbo2 = upd gbo h0_depth.toNatClampNeg p0 ∧ gbg2 = upd gbg h0_depth.toNatClampNeg p1 ∧ gbh2 = upd gbh h0_depth.toNatClampNeg h0_height2 ∧ gbd2 = upd gbd h0_depth.toNatClampNeg (vp_nar .boolean 0)) ∧ ((gbh (h0_depth.toInt - 1).toNat).toInt ≤ h0_height2.toInt ∧ h0_height2.toInt ≤ h0_height.toInt) ∧ (h0_sound2.toInt = 1 → h0_sound.toInt = 1 ∧ ((gbd (h0_depth.toInt - 1).toNat).toInt = 0 → (gbh (h0_depth.toInt - 1).toNat).toInt + 1 ≤ h0_height.toInt ∧ h0_height2.toInt = h0_height.toInt - 1))) ∧ (p0.toInt = 5 → h0_depth2.toInt = h0_depth.toInt ∧ (gbo2 = upd gbo (h0_depth.toInt - 1).toNat p0 ∧ (∃ v : Int32, v = gbg (h0_depth.toInt - 1).toNat ∧ gbg2 = upd gbg (h0_depth.toInt - 1).toNat v) ∧ gbh2 = upd gbh (h0_depth.toInt - 1).toNat h0_height2 ∧ gbd2 = upd gbd (h0_depth.toInt - 1).toNat (vp_nar .boolean 0)) ∧ (h0_sound2.toInt = 1 → h0_sound.toInt = 1 ∧ h0_height2.toInt = (gbh (h0_depth.toInt - 1).toNat).toInt ∧ ((gbd (h0_depth.toInt - 1).toNat).toInt = 0 → ((gbg (h0_depth.toInt - 1).toNat).toInt = 64 → h0_height.toInt = (gbh (h0_depth.toInt - 1).toNat).toInt) ∧ ((gbg (h0_depth.toInt - 1).toNat).toInt ≠ 64 → h0_height.toInt = (gbh (h0_depth.toInt - 1).toNat).toInt + 1)))) ∧ (p0.toInt = 11 → gbo2 = gbo ∧ gbg2 = gbg ∧ gbh2 = gbh ∧ gbd2 = gbd ∧ h0_depth2.toInt = h0_depth.toInt - 1 ∧ (h0_sound2.toInt = 1 → h0_sound.toInt = 1 ∧ ((gbd (h0_depth.toInt - 1).toNat).toInt = 0 → ((gbg (h0_depth.toInt - 1).toNat).toInt = 64 → h0_height.toInt = (gbh (h0_depth.toInt - 1).toNat).toInt) ∧ ((gbg (h0_depth.toInt - 1).toNat).toInt ≠ 64 → h0_height.toInt = (gbh (h0_depth.toInt - 1).toNat).toInt + 1)) ∧ ((gbo (h0_depth.toInt - 1).toNat).toInt = 4 → (gbg (h0_depth.toInt - 1).toNat).toInt = 64) ∧ (2 ≤ h0_depth.toInt → ((gbg (h0_depth.toInt - 1).toNat).toInt = 64 → h0_height2.toInt = (gbh (h0_depth.toInt - 1).toNat).toInt) ∧ ((gbg (h0_depth.toInt - 1).toNat).toInt ≠ 64 → h0_height2.toInt = (gbh (h0_depth.toInt - 1).toNat).toInt + 1)))))) (at_VA_checkBlocks dC dI h0 aw ac ty bo bg bh bd cty cbo cbg cbh cbd h0_function (va_A (wz_86 h0 aw ac h0_sound h0_function ty h0_height bo bg bh bd h0_depth ty cty gty bo cbo gbo bg cbg gbg bh cbh gbh bd cbd gbd) sz)) (va_A (wz_86 h0 aw ac h0_sound h0_function ty h0_height bo bg bh bd h0_depth ty cty gty bo cbo gbo bg cbg gbg bh cbh gbh bd cbd gbd) sz)) 0 0 (va_A (wz_86 h0 aw ac h0_sound h0_function ty h0_height bo bg bh bd h0_depth ty cty gty bo cbo gbo bg cbg gbg bh cbh gbh bd cbd gbd) sz) := by
  refine Met.ofW (cc := b_VA_checkBlocks) (maxL := 3) (ret := none) (by decide) rfl ?_
  intro p e s m args below meth c s₁ B hml hv
  obtain ⟨rfl, hsz, hP, hK, hD0⟩ := hv
  have hx := B.exec
  have hb := B.bytes
  have hr := B.returns
  have hts0 := atoms_spec (ws := w_VA_checkBlocks) B.pre
  have hts : ∀ w ∈ lw_g, w.before _ s = true := fun w h => hts0 w (List.mem_cons_of_mem _ h)
  have hown : s.vm.findClass R_VA = some m.cls := findClass_of_methodNamed B.named
  have hlocks := B.notSynchronized
  clear hts0
  subst hsz
  have hD := hD0.self (sz := s.heap.size)
  generalize hAe : va_A (wz_86 h0 aw ac h0_sound h0_function ty h0_height bo bg bh bd h0_depth ty cty gty bo cbo gbo bg cbg gbg bh cbh gbh bd cbd gbd) s.heap.size = A at hD ⊢
  have hA : ∀ q : Nat, s.heap.size ≤ q → A q := fun q h => by rw [← hAe]; exact Or.inr h
  clear hAe
  have hP : va_P (dC, dI) cls (wz_86 h0 aw ac h0_sound h0_function ty h0_height bo bg bh bd h0_depth ty cty gty bo cbo gbo bg cbg gbg bh cbh gbh bd cbd gbd) s.heap := hP
  have hl := lv_entry ([.ref h0, .int p0, .int p1]) (n := 3) (Nat.le_of_ble_eq_true rfl)
  rw [lg_entry_eq]
  generalize (lg_sl ([.ref h0, .int p0, .int p1]) ++ List.replicate (3 - (lg_sl ([.ref h0, .int p0, .int p1])).length) Slot.unset).toArray = ls at hl ⊢
  have hl : lv_has ls 3 [(0, .ref h0), (1, .int p0), (2, .int p1)] := hl
  have k0 : (0 : Int32).toInt = 0 := by decide
  refine w_gen (A := A) hP (fun H locs hP hS => ?_)
  have k1 : (1 : Int32).toInt = 1 := by decide
  have k4 : (4 : Int32).toInt = 4 := by decide
  have k64 : (64 : Int32).toInt = 64 := by decide
  have k127 : (127 : Int32).toInt = 127 := by decide
  have lo_p0 := i32_lo p0
  have hi_p0 := i32_hi p0
  have lo_p1 := i32_lo p1
  have hi_p1 := i32_hi p1
  have th0_sound := b01 b_h0_sound
  refine lv_iload_n hx hb d_VA_checkBlocks_0 rfl (lv_at hl 1 rfl) ?_
  by_cases g1_64 : p0.toInt = 0
  · have ho1 : tab_off 179 0 11 #[63, 70, 179, 179, 73, 88, 179, 179, 179, 179, 179, 109] p0.toInt = 63 := by rw [g1_64]; rfl
    refine lv_tab (tgt := 64) hx hb d_VA_checkBlocks_1 (by decide) ho1 (by decide) ?_
    clear ho1
    refine lv_aload_n hx hb d_VA_checkBlocks_64 rfl (lv_at hl 0 rfl) ?_
    have hPc := hP.sb (wq := (wz_68 h0 aw ac h0_sound h0_function ty h0_height bo bg bh bd h0_depth bh cbh gbh bd cbd gbd)) [0, 4, 5] rfl
    have hDc := hD.sb (wq := (wz_68 h0 aw ac h0_sound h0_function ty h0_height bo bg bh bd h0_depth bh cbh gbh bd cbd gbd)) [0, 4, 5] (by decide) rfl
    have hKc := hK.sb (tyq := [(cbh, .int), (cbd, .boolean)]) [3, 4] rfl
    have hFc := va_free (wc := (wz_68 h0 aw ac h0_sound h0_function ty h0_height bo bg bh bd h0_depth bh cbh gbh bd cbd gbd)) hD hS hA [0, 4, 5] rfl
    refine va_callv (va_runV (As := []) (rest := []) ⟨hx, hb, hml, hown, hts⟩ (c_VA_die l dC dI H.size h0 aw ac ty bo bg bh bd cbh cbd h0_sound h0_function h0_height h0_depth gbh gbd (b_h0_height) (b_h0_depth) (b_gbh) (by (try dsimp only) <;> (first | (apply Int.le_antisymm <;> omega) | omega))) (cwV 0 hts (gV kM_VA_158 kV_VA_die kS_VA_die kI_VA kC_VA_die) rfl rfl rfl (by decide +kernel) ⟨Nat.le_of_ble_eq_true rfl, Nat.le_of_ble_eq_true rfl⟩) ⟨fun a U g mk z => by obtain ⟨z0, z1, zP, zK, zD⟩ := z; exact ⟨z0, z1, zP, va_K.moved (u := U) (U := U.calling g mk a) (Vm.Alike.refl U.vm) zK, zD⟩, va_recv hKc hPc (ci := 9) (q0 := 0) rfl rfl, fun U hU hW => ⟨rfl, by rw [hU], va_P.he hU.symm hPc, va_K.moved hW.alike hKc, hDc.weaken (fun _ _ _ _ => trivial)⟩⟩ rfl rfl hl.1 rfl (lv_room (Nat.le_of_ble_eq_true rfl)) d_VA_checkBlocks_65 ⟨(Nat.zero_le _), (Nat.zero_le _)⟩) hS (fun q _ h => hFc q h) hFc (fun u t H1 locs ht hvm hw hB hz1 hk1 hS => ?_)
    obtain ⟨n2, n3⟩ := u
    try dsimp only at hw
    obtain ⟨bn3, xr1⟩ := hw
    try clear hw
    obtain ⟨hP1, hK1, hD1⟩ := hB
    replace hP1 := va_P.he ht hP1
    obtain ⟨hP, hD⟩ := va_join (wr := [(ty, .inl (cty, 5000, .inl gty)), (bo, .inl (cbo, 101, .inl gbo)), (bg, .inl (cbg, 101, .inl gbg))]) (w1 := (wz_68 h0 aw ac h0_sound h0_function ty n3 bo bg bh bd h0_depth bh cbh gbh bd cbd n2)) hP hD [0, 4, 5] [1, 2, 3] rfl rfl (by decide) (by decide) hk1 hFc hP1 hD1
    clear hPc hDc hKc hFc hz1 hk1 hP1 hK1 hD1
    rename Heap => H
    have hP : va_P (dC, dI) cls [(ty, .inl (cty, 5000, .inl gty)), (bo, .inl (cbo, 101, .inl gbo)), (bg, .inl (cbg, 101, .inl gbg)), (h0, .inr (9, [.ref aw, .ref ac, .int h0_sound, .int h0_function, .ref ty, .int n3, .ref bo, .ref bg, .ref bh, .ref bd, .int h0_depth])), (bh, .inl (cbh, 101, .inl gbh)), (bd, .inl (cbd, 101, .inl n2))] H := hP
    have hD : va_D A [(ty, .inl (cty, 5000, .inl gty)), (bo, .inl (cbo, 101, .inl gbo)), (bg, .inl (cbg, 101, .inl gbg)), (h0, .inr (9, [.ref aw, .ref ac, .int h0_sound, .int h0_function, .ref ty, .int n3, .ref bo, .ref bg, .ref bh, .ref bd, .int h0_depth])), (bh, .inl (cbh, 101, .inl gbh)), (bd, .inl (cbd, 101, .inl n2))] := hD
    refine lv_goto (tgt := 186) hx hb d_VA_checkBlocks_68 (by decide) ?_
    have hP9 := hP.sb (wq := (wz_86 h0 aw ac h0_sound h0_function ty n3 bo bg bh bd h0_depth ty cty gty bo cbo gbo bg cbg gbg bh cbh gbh bd cbd n2)) [3, 0, 1, 2, 4, 5] rfl
    have hD9 := hD.sb (wq := (wz_86 h0 aw ac h0_sound h0_function ty n3 bo bg bh bd h0_depth ty cty gty bo cbo gbo bg cbg gbg bh cbh gbh bd cbd n2)) [3, 0, 1, 2, 4, 5] (by decide) rfl
    exact W.vret hx hb hr (fun t ht hW => ⟨⟨(n2, gbg, gbh, gbo, gty, h0_depth, n3, h0_sound), rfl, ⟨b_gbh, b_gty, b_h0_depth, bn3, b_h0_sound, ⟨fun _ => ⟨⟨xr1.1, xr1.2⟩, rfl, rfl, rfl, rfl, fun z => z⟩, fun z => absurd z (by (first | (apply Int.le_antisymm <;> omega) | omega)), fun z => absurd z (by (first | (apply Int.le_antisymm <;> omega) | omega)), fun z => absurd z (by (first | (apply Int.le_antisymm <;> omega) | omega)), fun z => absurd z (by (first | (apply Int.le_antisymm <;> omega) | omega)), fun z => absurd z (by (first | (apply Int.le_antisymm <;> omega) | omega))⟩⟩, va_P.he ht.symm hP9, va_K.moved hW.alike hK, hD9⟩, hS.F ht⟩) hS.2.2 d_VA_checkBlocks_186
  · skip
    by_cases g1_71 : p0.toInt = 1
    · have ho1 : tab_off 179 0 11 #[63, 70, 179, 179, 73, 88, 179, 179, 179, 179, 179, 109] p0.toInt = 70 := by rw [g1_71]; rfl
      refine lv_tab (tgt := 71) hx hb d_VA_checkBlocks_1 (by decide) ho1 (by decide) ?_
      clear ho1
      refine lv_goto (tgt := 186) hx hb d_VA_checkBlocks_71 (by decide) ?_
      have hP9 := hP.sb (wq := (wz_86 h0 aw ac h0_sound h0_function ty h0_height bo bg bh bd h0_depth ty cty gty bo cbo gbo bg cbg gbg bh cbh gbh bd cbd gbd)) [0, 1, 2, 3, 4, 5] rfl
      have hD9 := hD.sb (wq := (wz_86 h0 aw ac h0_sound h0_function ty h0_height bo bg bh bd h0_depth ty cty gty bo cbo gbo bg cbg gbg bh cbh gbh bd cbd gbd)) [0, 1, 2, 3, 4, 5] (by decide) rfl
      exact W.vret hx hb hr (fun t ht hW => ⟨⟨(gbd, gbg, gbh, gbo, gty, h0_depth, h0_height, h0_sound), rfl, ⟨b_gbh, b_gty, b_h0_depth, b_h0_height, b_h0_sound, ⟨fun z => absurd z (by (first | (apply Int.le_antisymm <;> omega) | omega)), fun _ => ⟨rfl, rfl, rfl, rfl, rfl, rfl, fun z => z⟩, fun z => absurd z (by (first | (apply Int.le_antisymm <;> omega) | omega)), fun z => absurd z (by (first | (apply Int.le_antisymm <;> omega) | omega)), fun z => absurd z (by (first | (apply Int.le_antisymm <;> omega) | omega)), fun z => absurd z (by (first | (apply Int.le_antisymm <;> omega) | omega))⟩⟩, va_P.he ht.symm hP9, va_K.moved hW.alike hK, hD9⟩, hS.F ht⟩) hS.2.2 d_VA_checkBlocks_186
    · skip
      by_cases g1_74 : p0.toInt = 4
      · have ho1 : tab_off 179 0 11 #[63, 70, 179, 179, 73, 88, 179, 179, 179, 179, 179, 109] p0.toInt = 73 := by rw [g1_74]; rfl
        refine lv_tab (tgt := 74) hx hb d_VA_checkBlocks_1 (by decide) ho1 (by decide) ?_
        clear ho1
        refine lv_aload_n hx hb d_VA_checkBlocks_74 rfl (lv_at hl 0 rfl) ?_
        refine lv_bipush (v := 127) hx hb d_VA_checkBlocks_75 (by decide) ?_
        have hPc := hP.sb (wq := (wz_65 h0 aw ac h0_sound h0_function ty h0_height bo bg bh bd h0_depth ty cty gty bh cbh gbh bd cbd gbd)) [0, 1, 4, 5] rfl
        have hDc := hD.sb (wq := (wz_65 h0 aw ac h0_sound h0_function ty h0_height bo bg bh bd h0_depth ty cty gty bh cbh gbh bd cbd gbd)) [0, 1, 4, 5] (by decide) rfl
        have hKc := hK.sb (tyq := [(cty, .int), (cbh, .int), (cbd, .boolean)]) [0, 3, 4] rfl
        have hFc := va_free (wc := (wz_65 h0 aw ac h0_sound h0_function ty h0_height bo bg bh bd h0_depth ty cty gty bh cbh gbh bd cbd gbd)) hD hS hA [0, 1, 4, 5] rfl
        refine va_callv (va_runV (As := [.int 127]) (rest := []) ⟨hx, hb, hml, hown, hts⟩ (c_VA_pop l dC dI H.size h0 aw ac ty bo bg bh bd cty cbh cbd h0_sound h0_function h0_height h0_depth gty gbh gbd (b_h0_sound) (b_h0_height) (b_h0_depth) (b_gty) (b_gbh) 127 (by (try dsimp only) <;> (first | (apply Int.le_antisymm <;> omega) | omega)) (by (try dsimp only) <;> (first | (apply Int.le_antisymm <;> omega) | omega))) (cwV 1 hts (gV kM_VA_161 kV_VA_pop kS_VA_pop kI_VA kC_VA_pop) rfl rfl rfl (by decide +kernel) ⟨Nat.le_of_ble_eq_true rfl, Nat.le_of_ble_eq_true rfl⟩) ⟨fun a U g mk z => by obtain ⟨z0, z1, zP, zK, zD⟩ := z; exact ⟨z0, z1, zP, va_K.moved (u := U) (U := U.calling g mk a) (Vm.Alike.refl U.vm) zK, zD⟩, va_recv hKc hPc (ci := 9) (q0 := 0) rfl rfl, fun U hU hW => ⟨rfl, by rw [hU], va_P.he hU.symm hPc, va_K.moved hW.alike hKc, hDc.weaken (fun _ _ _ _ => trivial)⟩⟩ rfl rfl hl.1 rfl (lv_room (Nat.le_of_ble_eq_true rfl)) d_VA_checkBlocks_77 ⟨(Nat.zero_le _), (Nat.zero_le _)⟩) hS (fun q _ h => hFc q h) hFc (fun u t H1 locs ht hvm hw hB hz1 hk1 hS => ?_)
        obtain ⟨n5, n6⟩ := u
        try dsimp only at hw
        obtain ⟨bn5, bn6, xr4⟩ := hw
        try clear hw
        have tn6 := b01 bn6
        obtain ⟨hP1, hK1, hD1⟩ := hB
        replace hP1 := va_P.he ht hP1
        obtain ⟨hP, hD⟩ := va_join (wr := [(bo, .inl (cbo, 101, .inl gbo)), (bg, .inl (cbg, 101, .inl gbg))]) (w1 := (wz_65 h0 aw ac n6 h0_function ty n5 bo bg bh bd h0_depth ty cty gty bh cbh gbh bd cbd gbd)) hP hD [0, 1, 4, 5] [2, 3] rfl rfl (by decide) (by decide) hk1 hFc hP1 hD1
        clear hPc hDc hKc hFc hz1 hk1 hP1 hK1 hD1
        rename Heap => H
        have hP : va_P (dC, dI) cls [(bo, .inl (cbo, 101, .inl gbo)), (bg, .inl (cbg, 101, .inl gbg)), (h0, .inr (9, [.ref aw, .ref ac, .int n6, .int h0_function, .ref ty, .int n5, .ref bo, .ref bg, .ref bh, .ref bd, .int h0_depth])), (ty, .inl (cty, 5000, .inl gty)), (bh, .inl (cbh, 101, .inl gbh)), (bd, .inl (cbd, 101, .inl gbd))] H := hP
        have hD : va_D A [(bo, .inl (cbo, 101, .inl gbo)), (bg, .inl (cbg, 101, .inl gbg)), (h0, .inr (9, [.ref aw, .ref ac, .int n6, .int h0_function, .ref ty, .int n5, .ref bo, .ref bg, .ref bh, .ref bd, .int h0_depth])), (ty, .inl (cty, 5000, .inl gty)), (bh, .inl (cbh, 101, .inl gbh)), (bd, .inl (cbd, 101, .inl gbd))] := hD
        refine lv_aload_n hx hb d_VA_checkBlocks_80 rfl (lv_at hl 0 rfl) ?_
        refine lv_iload_n hx hb d_VA_checkBlocks_81 rfl (lv_at hl 1 rfl) ?_
        refine lv_iload_n hx hb d_VA_checkBlocks_82 rfl (lv_at hl 2 rfl) ?_
        have hPc := hP.sb (wq := (wz_67 h0 aw ac n6 h0_function ty n5 bo bg bh bd h0_depth bo cbo gbo bg cbg gbg bh cbh gbh bd cbd gbd)) [2, 0, 1, 4, 5] rfl
        have hDc := hD.sb (wq := (wz_67 h0 aw ac n6 h0_function ty n5 bo bg bh bd h0_depth bo cbo gbo bg cbg gbg bh cbh gbh bd cbd gbd)) [2, 0, 1, 4, 5] (by decide) rfl
        have hKc := hK.sb (tyq := [(cbo, .int), (cbg, .int), (cbh, .int), (cbd, .boolean)]) [1, 2, 3, 4] rfl
        have hFc := va_free (wc := (wz_67 h0 aw ac n6 h0_function ty n5 bo bg bh bd h0_depth bo cbo gbo bg cbg gbg bh cbh gbh bd cbd gbd)) hD hS hA [2, 0, 1, 4, 5] rfl
        refine va_callv (va_runV (As := [.int p0, .int p1]) (rest := []) ⟨hx, hb, hml, hown, hts⟩ (c_VA_open l dC dI H.size h0 aw ac ty bo bg bh bd cbo cbg cbh cbd n6 h0_function n5 h0_depth gbo gbg gbh gbd (bn5) (b_h0_depth) (b_gbh) p0 p1 (by (try dsimp only) <;> (first | (apply Int.le_antisymm <;> omega) | omega))) (cwV 2 hts (gV kM_VA_124 kV_VA_open kS_VA_open kI_VA kC_VA_open) rfl rfl rfl (by decide +kernel) ⟨Nat.le_of_ble_eq_true rfl, Nat.le_of_ble_eq_true rfl⟩) ⟨fun a U g mk z => by obtain ⟨z0, z1, zP, zK, zD⟩ := z; exact ⟨z0, z1, zP, va_K.moved (u := U) (U := U.calling g mk a) (Vm.Alike.refl U.vm) zK, zD⟩, va_recv hKc hPc (ci := 9) (q0 := 0) rfl rfl, fun U hU hW => ⟨rfl, by rw [hU], va_P.he hU.symm hPc, va_K.moved hW.alike hKc, hDc.weaken (fun _ _ _ _ => trivial)⟩⟩ rfl rfl hl.1 rfl (lv_room (Nat.le_of_ble_eq_true rfl)) d_VA_checkBlocks_83 ⟨(Nat.zero_le _), (Nat.zero_le _)⟩) hS (fun q _ h => hFc q h) hFc (fun u t H1 locs ht hvm hw hB hz1 hk1 hS => ?_)
        obtain ⟨n8, n9, n10, n11, n12⟩ := u
        try dsimp only at hw
        obtain ⟨bn10, bn12, xr7⟩ := hw
        try clear hw
        obtain ⟨hP1, hK1, hD1⟩ := hB
        replace hP1 := va_P.he ht hP1
        obtain ⟨hP, hD⟩ := va_join (wr := [(ty, .inl (cty, 5000, .inl gty))]) (w1 := (wz_67 h0 aw ac n6 h0_function ty n5 bo bg bh bd n12 bo cbo n11 bg cbg n9 bh cbh n10 bd cbd n8)) hP hD [2, 0, 1, 4, 5] [3] rfl rfl (by decide) (by decide) hk1 hFc hP1 hD1
        clear hPc hDc hKc hFc hz1 hk1 hP1 hK1 hD1
        rename Heap => H
        have hP : va_P (dC, dI) cls (wz_87 ty cty gty h0 aw ac n6 h0_function ty n5 bo bg bh bd n12 bo cbo n11 bg cbg n9 bh cbh n10 bd cbd n8) H := hP
        have hD : va_D A (wz_87 ty cty gty h0 aw ac n6 h0_function ty n5 bo bg bh bd n12 bo cbo n11 bg cbg n9 bh cbh n10 bd cbd n8) := hD
        refine lv_goto (tgt := 186) hx hb d_VA_checkBlocks_86 (by decide) ?_
        have hP9 := hP.sb (wq := (wz_86 h0 aw ac n6 h0_function ty n5 bo bg bh bd n12 ty cty gty bo cbo n11 bg cbg n9 bh cbh n10 bd cbd n8)) [1, 0, 2, 3, 4, 5] rfl
        have hD9 := hD.sb (wq := (wz_86 h0 aw ac n6 h0_function ty n5 bo bg bh bd n12 ty cty gty bo cbo n11 bg cbg n9 bh cbh n10 bd cbd n8)) [1, 0, 2, 3, 4, 5] (by decide) rfl
        exact W.vret hx hb hr (fun t ht hW => ⟨⟨(n8, n9, n10, n11, gty, n12, n5, n6), rfl, ⟨bn10, b_gty, bn12, bn5, bn6, ⟨fun z => absurd z (by (first | (apply Int.le_antisymm <;> omega) | omega)), fun z => absurd z (by (first | (apply Int.le_antisymm <;> omega) | omega)), fun z => absurd z (by (first | (apply Int.le_antisymm <;> omega) | omega)), fun _ => ⟨xr7, by (try dsimp only) <;> (first | (apply Int.le_antisymm <;> omega) | omega), by (try dsimp only) <;> (first | (apply Int.le_antisymm <;> omega) | omega)⟩, fun z => absurd z (by (first | (apply Int.le_antisymm <;> omega) | omega)), fun z => absurd z (by (first | (apply Int.le_antisymm <;> omega) | omega))⟩⟩, va_P.he ht.symm hP9, va_K.moved hW.alike hK, hD9⟩, hS.F ht⟩) hS.2.2 d_VA_checkBlocks_186
      · skip
        by_cases g1_89 : p0.toInt = 5
        · have ho1 : tab_off 179 0 11 #[63, 70, 179, 179, 73, 88, 179, 179, 179, 179, 179, 109] p0.toInt = 88 := by rw [g1_89]; rfl
          refine lv_tab (tgt := 89) hx hb d_VA_checkBlocks_1 (by decide) ho1 (by decide) ?_
          clear ho1
          refine lv_aload_n hx hb d_VA_checkBlocks_89 rfl (lv_at hl 0 rfl) ?_
          have hPc := hP.sb (wq := (wz_69 h0 aw ac h0_sound h0_function ty h0_height bo bg bh bd h0_depth ty cty gty bg cbg gbg bh cbh gbh bd cbd gbd)) [0, 1, 3, 4, 5] rfl
          have hDc := hD.sb (wq := (wz_69 h0 aw ac h0_sound h0_function ty h0_height bo bg bh bd h0_depth ty cty gty bg cbg gbg bh cbh gbh bd cbd gbd)) [0, 1, 3, 4, 5] (by decide) rfl
          have hKc := hK.sb (tyq := [(cty, .int), (cbg, .int), (cbh, .int), (cbd, .boolean)]) [0, 2, 3, 4] rfl
          have hFc := va_free (wc := (wz_69 h0 aw ac h0_sound h0_function ty h0_height bo bg bh bd h0_depth ty cty gty bg cbg gbg bh cbh gbh bd cbd gbd)) hD hS hA [0, 1, 3, 4, 5] rfl
          refine va_callv (va_runV (As := []) (rest := []) ⟨hx, hb, hml, hown, hts⟩ (c_VA_close l dC dI H.size h0 aw ac ty bo bg bh bd cty cbg cbh cbd h0_sound h0_function h0_height h0_depth gty gbg gbh gbd (b_h0_sound) (b_h0_height) (b_h0_depth) (b_gty) (b_gbh) (by (try dsimp only) <;> (first | (apply Int.le_antisymm <;> omega) | omega)) (by (try dsimp only) <;> (first | (apply Int.le_antisymm <;> omega) | omega))) (cwV 0 hts (gV kM_VA_164 kV_VA_close kS_VA_close kI_VA kC_VA_close) rfl rfl rfl (by decide +kernel) ⟨Nat.le_of_ble_eq_true rfl, Nat.le_of_ble_eq_true rfl⟩) ⟨fun a U g mk z => by obtain ⟨z0, z1, zP, zK, zD⟩ := z; exact ⟨z0, z1, zP, va_K.moved (u := U) (U := U.calling g mk a) (Vm.Alike.refl U.vm) zK, zD⟩, va_recv hKc hPc (ci := 9) (q0 := 0) rfl rfl, fun U hU hW => ⟨rfl, by rw [hU], va_P.he hU.symm hPc, va_K.moved hW.alike hKc, hDc.weaken (fun _ _ _ _ => trivial)⟩⟩ rfl rfl hl.1 rfl (lv_room (Nat.le_of_ble_eq_true rfl)) d_VA_checkBlocks_90 ⟨(Nat.zero_le _), (Nat.zero_le _)⟩) hS (fun q _ h => hFc q h) hFc (fun u t H1 locs ht hvm hw hB hz1 hk1 hS => ?_)
          obtain ⟨n14, n15, n16⟩ := u
          try dsimp only at hw
          obtain ⟨bn14, bn15, bn16, xr13⟩ := hw
          try clear hw
          have tn16 := b01 bn16
          obtain ⟨hP1, hK1, hD1⟩ := hB
          replace hP1 := va_P.he ht hP1
          obtain ⟨hP, hD⟩ := va_join (wr := [(bo, .inl (cbo, 101, .inl gbo))]) (w1 := (wz_69 h0 aw ac n16 h0_function ty n15 bo bg bh bd n14 ty cty gty bg cbg gbg bh cbh gbh bd cbd gbd)) hP hD [0, 1, 3, 4, 5] [2] rfl rfl (by decide) (by decide) hk1 hFc hP1 hD1
          clear hPc hDc hKc hFc hz1 hk1 hP1 hK1 hD1
          rename Heap => H
          have hP : va_P (dC, dI) cls (wz_88 bo cbo gbo h0 aw ac n16 h0_function ty n15 bo bg bh bd n14 ty cty gty bg cbg gbg bh cbh gbh bd cbd gbd) H := hP
          have hD : va_D A (wz_88 bo cbo gbo h0 aw ac n16 h0_function ty n15 bo bg bh bd n14 ty cty gty bg cbg gbg bh cbh gbh bd cbd gbd) := hD
          refine lv_aload_n hx hb d_VA_checkBlocks_93 rfl (lv_at hl 0 rfl) ?_
          refine lv_iload_n hx hb d_VA_checkBlocks_94 rfl (lv_at hl 1 rfl) ?_
          refine lv_aload_n hx hb d_VA_checkBlocks_95 rfl (lv_at hl 0 rfl) ?_
          refine va_get (D := (dC, dI)) (ci := 9) (v := .ref bg) (C := R_VA) (T := F_VA) (N := 11) hx hb hts i_VA hown hK hP 1 rfl rfl 7 (by decide) (hts _ kF_VA_18) (fun _ h9 => h9) rfl d_VA_checkBlocks_96 ?_
          refine lv_aload_n hx hb d_VA_checkBlocks_99 rfl (lv_at hl 0 rfl) ?_
          refine va_get (D := (dC, dI)) (ci := 9) (v := .int n14) (C := R_VA) (T := F_VA) (N := 11) hx hb hts i_VA hown hK hP 1 rfl rfl 10 (by decide) (hts _ kF_VA_117) (fun _ h9 => h9) rfl d_VA_checkBlocks_100 ?_
          have g103 : vp_in n14 101 := vp_in_iff.mpr ⟨by (first | (apply Int.le_antisymm <;> omega) | omega), by (first | (apply Int.le_antisymm <;> omega) | omega)⟩
          refine va_iald hx hb hK hP 3 2 rfl rfl g103 d_VA_checkBlocks_103 ?_
          refine lv_topi (fun x17 ex17 => ?_)
          rw [i32_natI (x := n14) (n := h0_depth.toInt - 1) (by (first | (apply Int.le_antisymm <;> omega) | omega))] at ex17
          have u103 := ex17
          have e9T := i32_natI (x := n14) (n := h0_depth.toInt - 1) (by (first | (apply Int.le_antisymm <;> omega) | omega))
          have hPc := hP.sb (wq := (wz_67 h0 aw ac n16 h0_function ty n15 bo bg bh bd n14 bo cbo gbo bg cbg gbg bh cbh gbh bd cbd gbd)) [1, 0, 3, 4, 5] rfl
          have hDc := hD.sb (wq := (wz_67 h0 aw ac n16 h0_function ty n15 bo bg bh bd n14 bo cbo gbo bg cbg gbg bh cbh gbh bd cbd gbd)) [1, 0, 3, 4, 5] (by decide) rfl
          have hKc := hK.sb (tyq := [(cbo, .int), (cbg, .int), (cbh, .int), (cbd, .boolean)]) [1, 2, 3, 4] rfl
          have hFc := va_free (wc := (wz_67 h0 aw ac n16 h0_function ty n15 bo bg bh bd n14 bo cbo gbo bg cbg gbg bh cbh gbh bd cbd gbd)) hD hS hA [1, 0, 3, 4, 5] rfl
          refine va_callv (va_runV (As := [.int p0, .int x17]) (rest := []) ⟨hx, hb, hml, hown, hts⟩ (c_VA_open l dC dI H.size h0 aw ac ty bo bg bh bd cbo cbg cbh cbd n16 h0_function n15 n14 gbo gbg gbh gbd (bn15) (bn14) (b_gbh) p0 x17 (by (try dsimp only) <;> (first | (apply Int.le_antisymm <;> omega) | omega))) (cwV 2 hts (gV kM_VA_124 kV_VA_open kS_VA_open kI_VA kC_VA_open) rfl rfl rfl (by decide +kernel) ⟨Nat.le_of_ble_eq_true rfl, Nat.le_of_ble_eq_true rfl⟩) ⟨fun a U g mk z => by obtain ⟨z0, z1, zP, zK, zD⟩ := z; exact ⟨z0, z1, zP, va_K.moved (u := U) (U := U.calling g mk a) (Vm.Alike.refl U.vm) zK, zD⟩, va_recv hKc hPc (ci := 9) (q0 := 0) rfl rfl, fun U hU hW => ⟨rfl, by rw [hU], va_P.he hU.symm hPc, va_K.moved hW.alike hKc, hDc.weaken (fun _ _ _ _ => trivial)⟩⟩ rfl rfl hl.1 rfl (lv_room (Nat.le_of_ble_eq_true rfl)) d_VA_checkBlocks_104 ⟨(Nat.zero_le _), (Nat.zero_le _)⟩) hS (fun q _ h => hFc q h) hFc (fun u t H1 locs ht hvm hw hB hz1 hk1 hS => ?_)
          obtain ⟨n19, n20, n21, n22, n23⟩ := u
          try dsimp only at hw
          obtain ⟨bn21, bn23, xr18⟩ := hw
          try clear hw
          obtain ⟨hP1, hK1, hD1⟩ := hB
          replace hP1 := va_P.he ht hP1
          obtain ⟨hP, hD⟩ := va_join (wr := [(ty, .inl (cty, 5000, .inl gty))]) (w1 := (wz_67 h0 aw ac n16 h0_function ty n15 bo bg bh bd n23 bo cbo n22 bg cbg n20 bh cbh n21 bd cbd n19)) hP hD [1, 0, 3, 4, 5] [2] rfl rfl (by decide) (by decide) hk1 hFc hP1 hD1
          clear hPc hDc hKc hFc hz1 hk1 hP1 hK1 hD1
          rename Heap => H
          have hP : va_P (dC, dI) cls (wz_87 ty cty gty h0 aw ac n16 h0_function ty n15 bo bg bh bd n23 bo cbo n22 bg cbg n20 bh cbh n21 bd cbd n19) H := hP
          have hD : va_D A (wz_87 ty cty gty h0 aw ac n16 h0_function ty n15 bo bg bh bd n23 bo cbo n22 bg cbg n20 bh cbh n21 bd cbd n19) := hD
          refine lv_goto (tgt := 186) hx hb d_VA_checkBlocks_107 (by decide) ?_
          have hP9 := hP.sb (wq := (wz_86 h0 aw ac n16 h0_function ty n15 bo bg bh bd n23 ty cty gty bo cbo n22 bg cbg n20 bh cbh n21 bd cbd n19)) [1, 0, 2, 3, 4, 5] rfl
          have hD9 := hD.sb (wq := (wz_86 h0 aw ac n16 h0_function ty n15 bo bg bh bd n23 ty cty gty bo cbo n22 bg cbg n20 bh cbh n21 bd cbd n19)) [1, 0, 2, 3, 4, 5] (by decide) rfl
          exact W.vret hx hb hr (fun t ht hW => ⟨⟨(n19, n20, n21, n22, gty, n23, n15, n16), rfl, ⟨bn21, b_gty, bn23, bn15, bn16, ⟨fun z => absurd z (by (first | (apply Int.le_antisymm <;> omega) | omega)), fun z => absurd z (by (first | (apply Int.le_antisymm <;> omega) | omega)), fun z => absurd z (by (first | (apply Int.le_antisymm <;> omega) | omega)), fun z => absurd z (by (first | (apply Int.le_antisymm <;> omega) | omega)), fun _ => ⟨by have q := xr18.1; (try dsimp only) <;> (first | (apply Int.le_antisymm <;> omega) | omega), by have q := xr18; rw [e9T] at q; exact ⟨q.2.1, ⟨x17, by rw [u103], q.2.2.1⟩, q.2.2.2.1, q.2.2.2.2⟩, by (try dsimp only) <;> (first | (apply Int.le_antisymm <;> omega) | omega)⟩, fun z => absurd z (by (first | (apply Int.le_antisymm <;> omega) | omega))⟩⟩, va_P.he ht.symm hP9, va_K.moved hW.alike hK, hD9⟩, hS.F ht⟩) hS.2.2 d_VA_checkBlocks_186
        · skip
          by_cases g1_110 : p0.toInt = 11
          · have ho1 : tab_off 179 0 11 #[63, 70, 179, 179, 73, 88, 179, 179, 179, 179, 179, 109] p0.toInt = 109 := by rw [g1_110]; rfl
            refine lv_tab (tgt := 110) hx hb d_VA_checkBlocks_1 (by decide) ho1 (by decide) ?_
            clear ho1
            refine lv_aload_n hx hb d_VA_checkBlocks_110 rfl (lv_at hl 0 rfl) ?_
            have hPc := hP.sb (wq := (wz_69 h0 aw ac h0_sound h0_function ty h0_height bo bg bh bd h0_depth ty cty gty bg cbg gbg bh cbh gbh bd cbd gbd)) [0, 1, 3, 4, 5] rfl
            have hDc := hD.sb (wq := (wz_69 h0 aw ac h0_sound h0_function ty h0_height bo bg bh bd h0_depth ty cty gty bg cbg gbg bh cbh gbh bd cbd gbd)) [0, 1, 3, 4, 5] (by decide) rfl
            have hKc := hK.sb (tyq := [(cty, .int), (cbg, .int), (cbh, .int), (cbd, .boolean)]) [0, 2, 3, 4] rfl
            have hFc := va_free (wc := (wz_69 h0 aw ac h0_sound h0_function ty h0_height bo bg bh bd h0_depth ty cty gty bg cbg gbg bh cbh gbh bd cbd gbd)) hD hS hA [0, 1, 3, 4, 5] rfl
            refine va_callv (va_runV (As := []) (rest := []) ⟨hx, hb, hml, hown, hts⟩ (c_VA_close l dC dI H.size h0 aw ac ty bo bg bh bd cty cbg cbh cbd h0_sound h0_function h0_height h0_depth gty gbg gbh gbd (b_h0_sound) (b_h0_height) (b_h0_depth) (b_gty) (b_gbh) (by (try dsimp only) <;> (first | (apply Int.le_antisymm <;> omega) | omega)) (by (try dsimp only) <;> (first | (apply Int.le_antisymm <;> omega) | omega))) (cwV 0 hts (gV kM_VA_164 kV_VA_close kS_VA_close kI_VA kC_VA_close) rfl rfl rfl (by decide +kernel) ⟨Nat.le_of_ble_eq_true rfl, Nat.le_of_ble_eq_true rfl⟩) ⟨fun a U g mk z => by obtain ⟨z0, z1, zP, zK, zD⟩ := z; exact ⟨z0, z1, zP, va_K.moved (u := U) (U := U.calling g mk a) (Vm.Alike.refl U.vm) zK, zD⟩, va_recv hKc hPc (ci := 9) (q0 := 0) rfl rfl, fun U hU hW => ⟨rfl, by rw [hU], va_P.he hU.symm hPc, va_K.moved hW.alike hKc, hDc.weaken (fun _ _ _ _ => trivial)⟩⟩ rfl rfl hl.1 rfl (lv_room (Nat.le_of_ble_eq_true rfl)) d_VA_checkBlocks_111 ⟨(Nat.zero_le _), (Nat.zero_le _)⟩) hS (fun q _ h => hFc q h) hFc (fun u t H1 locs ht hvm hw hB hz1 hk1 hS => ?_)
            obtain ⟨n25, n26, n27⟩ := u
            try dsimp only at hw
            obtain ⟨bn25, bn26, bn27, xr24⟩ := hw
            try clear hw
            have tn27 := b01 bn27
            obtain ⟨hP1, hK1, hD1⟩ := hB
            replace hP1 := va_P.he ht hP1
            obtain ⟨hP, hD⟩ := va_join (wr := [(bo, .inl (cbo, 101, .inl gbo))]) (w1 := (wz_69 h0 aw ac n27 h0_function ty n26 bo bg bh bd n25 ty cty gty bg cbg gbg bh cbh gbh bd cbd gbd)) hP hD [0, 1, 3, 4, 5] [2] rfl rfl (by decide) (by decide) hk1 hFc hP1 hD1
            clear hPc hDc hKc hFc hz1 hk1 hP1 hK1 hD1
            rename Heap => H
            have hP : va_P (dC, dI) cls (wz_88 bo cbo gbo h0 aw ac n27 h0_function ty n26 bo bg bh bd n25 ty cty gty bg cbg gbg bh cbh gbh bd cbd gbd) H := hP
            have hD : va_D A (wz_88 bo cbo gbo h0 aw ac n27 h0_function ty n26 bo bg bh bd n25 ty cty gty bg cbg gbg bh cbh gbh bd cbd gbd) := hD
            refine lv_aload_n hx hb d_VA_checkBlocks_114 rfl (lv_at hl 0 rfl) ?_
            refine lv_aload_n hx hb d_VA_checkBlocks_115 rfl (lv_at hl 0 rfl) ?_
            refine va_get (D := (dC, dI)) (ci := 9) (v := .int n27) (C := R_VA) (T := F_VA) (N := 11) hx hb hts i_VA hown hK hP 1 rfl rfl 2 (by decide) (hts _ kF_VA_39) (fun _ h9 => h9) rfl d_VA_checkBlocks_116 ?_
            refine w_cut (pc2 := 154) (σ := Int32) (fun u H locs ls => match u with | j154_s0 => (j154_s0 = 0 ∨ j154_s0 = 1) ∧ (j154_s0.toInt = 1 → n27.toInt = 1 ∧ ((gbo (h0_depth.toInt - 1).toNat).toInt = 4 → (gbg (h0_depth.toInt - 1).toNat).toInt = 64)) ∧ va_P (dC, dI) cls (wz_88 bo cbo gbo h0 aw ac n27 h0_function ty n26 bo bg bh bd n25 ty cty gty bg cbg gbg bh cbh gbh bd cbd gbd) H ∧ va_D A (wz_88 bo cbo gbo h0 aw ac n27 h0_function ty n26 bo bg bh bd n25 ty cty gty bg cbg gbg bh cbh gbh bd cbd gbd) ∧ va_S A s.heap H locs ∧ lv_has ls 3 [(0, .ref h0)]) (fun u => match u with | j154_s0 => [.int j154_s0, .ref h0]) ?_ (fun jn154 => ?_)
            · intro u H locs ls hI
              obtain ⟨j154_s0, rfl⟩ : ∃ z, z = u := ⟨_, rfl⟩
              obtain ⟨b_j154_s0, x0, hP, hD, hS, hl⟩ := hI
              have tj154_s0 := b01 b_j154_s0
              refine va_put (D := (dC, dI)) (ci := 9) (v := .int j154_s0) (ty := .boolean) (C := R_VA) (T := F_VA) (N := 11) hx hb hts i_VA t_VA t_VA_ok n_VA hown hK hP hD hS 1 rfl rfl 2 (by decide) (hts _ kF_VA_39) (fun _ h9 => h9) rfl (by decide +kernel) (zn01 (b_j154_s0)) (fz01 (b_j154_s0)) (Nat.le_of_ble_eq_true rfl) d_VA_checkBlocks_154 (fun H locs hP hD hS => ?_)
              refine lv_aload_n hx hb d_VA_checkBlocks_157 rfl (lv_at hl 0 rfl) ?_
              refine va_get (D := (dC, dI)) (ci := 9) (v := .int n25) (C := R_VA) (T := F_VA) (N := 11) hx hb hts i_VA hown hK hP 1 rfl rfl 10 (by decide) (hts _ kF_VA_117) (fun _ h9 => h9) rfl d_VA_checkBlocks_158 ?_
              refine lv_if_le (tgt := 186) hx hb d_VA_checkBlocks_161 (by decide) (fun c161 => ?_) (fun c161 => ?_)
              · have q161 := leI c161
                have hP9 := hP.sb (wq := (wz_86 h0 aw ac j154_s0 h0_function ty n26 bo bg bh bd n25 ty cty gty bo cbo gbo bg cbg gbg bh cbh gbh bd cbd gbd)) [1, 2, 0, 3, 4, 5] rfl
                have hD9 := hD.sb (wq := (wz_86 h0 aw ac j154_s0 h0_function ty n26 bo bg bh bd n25 ty cty gty bo cbo gbo bg cbg gbg bh cbh gbh bd cbd gbd)) [1, 2, 0, 3, 4, 5] (by decide) rfl
                exact W.vret hx hb hr (fun t ht hW => ⟨⟨(gbd, gbg, gbh, gbo, gty, n25, n26, j154_s0), rfl, ⟨b_gbh, b_gty, bn25, bn26, b_j154_s0, ⟨fun z => absurd z (by (first | (apply Int.le_antisymm <;> omega) | omega)), fun z => absurd z (by (first | (apply Int.le_antisymm <;> omega) | omega)), fun z => absurd z (by (first | (apply Int.le_antisymm <;> omega) | omega)), fun z => absurd z (by (first | (apply Int.le_antisymm <;> omega) | omega)), fun z => absurd z (by (first | (apply Int.le_antisymm <;> omega) | omega)), fun _ => ⟨rfl, rfl, rfl, rfl, by (try dsimp only) <;> (first | (apply Int.le_antisymm <;> omega) | omega), by (try dsimp only) <;> (first | (apply Int.le_antisymm <;> omega) | omega)⟩⟩⟩, va_P.he ht.symm hP9, va_K.moved hW.alike hK, hD9⟩, hS.F ht⟩) hS.2.2 d_VA_checkBlocks_186
              · have q161 := nleI c161
                refine lv_aload_n hx hb d_VA_checkBlocks_164 rfl (lv_at hl 0 rfl) ?_
                refine lv_aload_n hx hb d_VA_checkBlocks_165 rfl (lv_at hl 0 rfl) ?_
                refine va_get (D := (dC, dI)) (ci := 9) (v := .ref bg) (C := R_VA) (T := F_VA) (N := 11) hx hb hts i_VA hown hK hP 1 rfl rfl 7 (by decide) (hts _ kF_VA_18) (fun _ h9 => h9) rfl d_VA_checkBlocks_166 ?_
                refine lv_aload_n hx hb d_VA_checkBlocks_169 rfl (lv_at hl 0 rfl) ?_
                refine va_get (D := (dC, dI)) (ci := 9) (v := .int n25) (C := R_VA) (T := F_VA) (N := 11) hx hb hts i_VA hown hK hP 1 rfl rfl 10 (by decide) (hts _ kF_VA_117) (fun _ h9 => h9) rfl d_VA_checkBlocks_170 ?_
                have g173 : vp_in n25 101 := vp_in_iff.mpr ⟨by (first | (apply Int.le_antisymm <;> omega) | omega), by (first | (apply Int.le_antisymm <;> omega) | omega)⟩
                refine va_iald hx hb hK hP 3 2 rfl rfl g173 d_VA_checkBlocks_173 ?_
                refine lv_topi (fun x28 ex28 => ?_)
                rw [i32_natI (x := n25) (n := h0_depth.toInt - 1) (by (first | (apply Int.le_antisymm <;> omega) | omega))] at ex28
                have u173 : x28.toInt = (gbg (h0_depth.toInt - 1).toNat).toInt := by rw [ex28]
                have hPc := hP.sb (wq := (wz_66 h0 aw ac j154_s0 h0_function ty n26 bo bg bh bd n25 ty cty gty)) [1, 2] rfl
                have hDc := hD.sb (wq := (wz_66 h0 aw ac j154_s0 h0_function ty n26 bo bg bh bd n25 ty cty gty)) [1, 2] (by decide) rfl
                have hKc := hK.sb (tyq := [(cty, .int)]) [0] rfl
                have hFc := va_free (wc := (wz_66 h0 aw ac j154_s0 h0_function ty n26 bo bg bh bd n25 ty cty gty)) hD hS hA [1, 2] rfl
                refine va_callv (va_runV (As := [.int x28]) (rest := []) ⟨hx, hb, hml, hown, hts⟩ (c_VA_push l dC dI H.size h0 aw ac ty bo bg bh bd cty j154_s0 h0_function n26 n25 gty (bn26) (b_gty) x28 (by (try dsimp only) <;> (first | (apply Int.le_antisymm <;> omega) | omega))) (cwV 1 hts (gV kM_VA_167 kV_VA_push kS_VA_push kI_VA kC_VA_push) rfl rfl rfl (by decide +kernel) ⟨Nat.le_of_ble_eq_true rfl, Nat.le_of_ble_eq_true rfl⟩) ⟨fun a U g mk z => by obtain ⟨z0, z1, zP, zK, zD⟩ := z; exact ⟨z0, z1, zP, va_K.moved (u := U) (U := U.calling g mk a) (Vm.Alike.refl U.vm) zK, zD⟩, va_recv hKc hPc (ci := 9) (q0 := 0) rfl rfl, fun U hU hW => ⟨rfl, by rw [hU], va_P.he hU.symm hPc, va_K.moved hW.alike hKc, hDc.weaken (fun _ _ _ _ => trivial)⟩⟩ rfl rfl hl.1 rfl (lv_room (Nat.le_of_ble_eq_true rfl)) d_VA_checkBlocks_174 ⟨(Nat.zero_le _), (Nat.zero_le _)⟩) hS (fun q _ h => hFc q h) hFc (fun u t H1 locs ht hvm hw hB hz1 hk1 hS => ?_)
                obtain ⟨n30, n31⟩ := u
                try dsimp only at hw
                obtain ⟨bn30, bn31, xr29⟩ := hw
                try clear hw
                obtain ⟨hP1, hK1, hD1⟩ := hB
                replace hP1 := va_P.he ht hP1
                obtain ⟨hP, hD⟩ := va_join (wr := [(bo, .inl (cbo, 101, .inl gbo)), (bg, .inl (cbg, 101, .inl gbg)), (bh, .inl (cbh, 101, .inl gbh)), (bd, .inl (cbd, 101, .inl gbd))]) (w1 := (wz_66 h0 aw ac j154_s0 h0_function ty n31 bo bg bh bd n25 ty cty n30)) hP hD [1, 2] [0, 3, 4, 5] rfl rfl (by decide) (by decide) hk1 hFc hP1 hD1
                clear hPc hDc hKc hFc hz1 hk1 hP1 hK1 hD1
                rename Heap => H
                have hP : va_P (dC, dI) cls [(bo, .inl (cbo, 101, .inl gbo)), (bg, .inl (cbg, 101, .inl gbg)), (bh, .inl (cbh, 101, .inl gbh)), (bd, .inl (cbd, 101, .inl gbd)), (h0, .inr (9, [.ref aw, .ref ac, .int j154_s0, .int h0_function, .ref ty, .int n31, .ref bo, .ref bg, .ref bh, .ref bd, .int n25])), (ty, .inl (cty, 5000, .inl n30))] H := hP
                have hD : va_D A [(bo, .inl (cbo, 101, .inl gbo)), (bg, .inl (cbg, 101, .inl gbg)), (bh, .inl (cbh, 101, .inl gbh)), (bd, .inl (cbd, 101, .inl gbd)), (h0, .inr (9, [.ref aw, .ref ac, .int j154_s0, .int h0_function, .ref ty, .int n31, .ref bo, .ref bg, .ref bh, .ref bd, .int n25])), (ty, .inl (cty, 5000, .inl n30))] := hD
                refine lv_goto (tgt := 186) hx hb d_VA_checkBlocks_177 (by decide) ?_
                have hP9 := hP.sb (wq := (wz_86 h0 aw ac j154_s0 h0_function ty n31 bo bg bh bd n25 ty cty n30 bo cbo gbo bg cbg gbg bh cbh gbh bd cbd gbd)) [4, 5, 0, 1, 2, 3] rfl
                have hD9 := hD.sb (wq := (wz_86 h0 aw ac j154_s0 h0_function ty n31 bo bg bh bd n25 ty cty n30 bo cbo gbo bg cbg gbg bh cbh gbh bd cbd gbd)) [4, 5, 0, 1, 2, 3] (by decide) rfl
                exact W.vret hx hb hr (fun t ht hW => ⟨⟨(gbd, gbg, gbh, gbo, n30, n25, n31, j154_s0), rfl, ⟨b_gbh, bn30, bn25, bn31, b_j154_s0, ⟨fun z => absurd z (by (first | (apply Int.le_antisymm <;> omega) | omega)), fun z => absurd z (by (first | (apply Int.le_antisymm <;> omega) | omega)), fun z => absurd z (by (first | (apply Int.le_antisymm <;> omega) | omega)), fun z => absurd z (by (first | (apply Int.le_antisymm <;> omega) | omega)), fun z => absurd z (by (first | (apply Int.le_antisymm <;> omega) | omega)), fun _ => ⟨rfl, rfl, rfl, rfl, by (try dsimp only) <;> (first | (apply Int.le_antisymm <;> omega) | omega), by (try dsimp only) <;> (first | (apply Int.le_antisymm <;> omega) | omega)⟩⟩⟩, va_P.he ht.symm hP9, va_K.moved hW.alike hK, hD9⟩, hS.F ht⟩) hS.2.2 d_VA_checkBlocks_186
            · skip
              refine w_cut (pc2 := 153) (σ := Unit) (fun u H locs ls => match u with | _ => va_P (dC, dI) cls (wz_88 bo cbo gbo h0 aw ac n27 h0_function ty n26 bo bg bh bd n25 ty cty gty bg cbg gbg bh cbh gbh bd cbd gbd) H ∧ va_D A (wz_88 bo cbo gbo h0 aw ac n27 h0_function ty n26 bo bg bh bd n25 ty cty gty bg cbg gbg bh cbh gbh bd cbd gbd) ∧ va_S A s.heap H locs ∧ lv_has ls 3 [(0, .ref h0)]) (fun u => match u with | _ => [.ref h0]) ?_ (fun jn153 => ?_)
              · intro u H locs ls hI
                obtain ⟨hP, hD, hS, hl⟩ := hI
                refine lv_iconst (v := 0) hx hb d_VA_checkBlocks_153 (by decide) ?_
                exact jn154 0 _ _ _ ⟨Or.inl rfl, by (try dsimp only) <;> (first | (apply Int.le_antisymm <;> omega) | omega), hP, hD, hS, lv_sub hl [0] rfl⟩
              · skip
                refine lv_if_eq (tgt := 153) hx hb d_VA_checkBlocks_119 (by decide) (fun c119 => ?_) (fun c119 => ?_)
                · have q119 := eqI c119
                  exact jn153 () _ _ _ ⟨hP, hD, hS, lv_sub hl [0] rfl⟩
                · have q119 := neI c119
                  refine lv_aload_n hx hb d_VA_checkBlocks_122 rfl (lv_at hl 0 rfl) ?_
                  refine va_get (D := (dC, dI)) (ci := 9) (v := .ref bo) (C := R_VA) (T := F_VA) (N := 11) hx hb hts i_VA hown hK hP 1 rfl rfl 6 (by decide) (hts _ kF_VA_15) (fun _ h9 => h9) rfl d_VA_checkBlocks_123 ?_
                  refine lv_aload_n hx hb d_VA_checkBlocks_126 rfl (lv_at hl 0 rfl) ?_
                  refine va_get (D := (dC, dI)) (ci := 9) (v := .int n25) (C := R_VA) (T := F_VA) (N := 11) hx hb hts i_VA hown hK hP 1 rfl rfl 10 (by decide) (hts _ kF_VA_117) (fun _ h9 => h9) rfl d_VA_checkBlocks_127 ?_
                  have g130 : vp_in n25 101 := vp_in_iff.mpr ⟨by (first | (apply Int.le_antisymm <;> omega) | omega), by (first | (apply Int.le_antisymm <;> omega) | omega)⟩
                  refine va_iald hx hb hK hP 0 1 rfl rfl g130 d_VA_checkBlocks_130 ?_
                  refine lv_topi (fun x32 ex32 => ?_)
                  rw [i32_natI (x := n25) (n := h0_depth.toInt - 1) (by (first | (apply Int.le_antisymm <;> omega) | omega))] at ex32
                  have u130 : x32.toInt = (gbo (h0_depth.toInt - 1).toNat).toInt := by rw [ex32]
                  refine lv_iconst (v := 4) hx hb d_VA_checkBlocks_131 (by decide) ?_
                  refine lv_icmp_ne (tgt := 149) hx hb d_VA_checkBlocks_132 (by decide) (fun c132 => ?_) (fun c132 => ?_)
                  · have q132 := neI c132
                    refine lv_iconst (v := 1) hx hb d_VA_checkBlocks_149 (by decide) ?_
                    refine lv_goto (tgt := 154) hx hb d_VA_checkBlocks_150 (by decide) ?_
                    exact jn154 1 _ _ _ ⟨Or.inr rfl, by (try dsimp only) <;> (first | (apply Int.le_antisymm <;> omega) | omega), hP, hD, hS, lv_sub hl [0] rfl⟩
                  · have q132 := eqI c132
                    refine lv_aload_n hx hb d_VA_checkBlocks_135 rfl (lv_at hl 0 rfl) ?_
                    refine va_get (D := (dC, dI)) (ci := 9) (v := .ref bg) (C := R_VA) (T := F_VA) (N := 11) hx hb hts i_VA hown hK hP 1 rfl rfl 7 (by decide) (hts _ kF_VA_18) (fun _ h9 => h9) rfl d_VA_checkBlocks_136 ?_
                    refine lv_aload_n hx hb d_VA_checkBlocks_139 rfl (lv_at hl 0 rfl) ?_
                    refine va_get (D := (dC, dI)) (ci := 9) (v := .int n25) (C := R_VA) (T := F_VA) (N := 11) hx hb hts i_VA hown hK hP 1 rfl rfl 10 (by decide) (hts _ kF_VA_117) (fun _ h9 => h9) rfl d_VA_checkBlocks_140 ?_
                    have g143 : vp_in n25 101 := vp_in_iff.mpr ⟨by (first | (apply Int.le_antisymm <;> omega) | omega), by (first | (apply Int.le_antisymm <;> omega) | omega)⟩
                    refine va_iald hx hb hK hP 3 2 rfl rfl g143 d_VA_checkBlocks_143 ?_
                    refine lv_topi (fun x33 ex33 => ?_)
                    rw [i32_natI (x := n25) (n := h0_depth.toInt - 1) (by (first | (apply Int.le_antisymm <;> omega) | omega))] at ex33
                    have u143 : x33.toInt = (gbg (h0_depth.toInt - 1).toNat).toInt := by rw [ex33]
                    refine lv_bipush (v := 64) hx hb d_VA_checkBlocks_144 (by decide) ?_
                    refine lv_icmp_ne (tgt := 153) hx hb d_VA_checkBlocks_146 (by decide) (fun c146 => ?_) (fun c146 => ?_)
                    · have q146 := neI c146
                      exact jn153 () _ _ _ ⟨hP, hD, hS, lv_sub hl [0] rfl⟩
                    · have q146 := eqI c146
                      refine lv_iconst (v := 1) hx hb d_VA_checkBlocks_149 (by decide) ?_
                      refine lv_goto (tgt := 154) hx hb d_VA_checkBlocks_150 (by decide) ?_
                      exact jn154 1 _ _ _ ⟨Or.inr rfl, by (try dsimp only) <;> (first | (apply Int.le_antisymm <;> omega) | omega), hP, hD, hS, lv_sub hl [0] rfl⟩
          · skip
            have ho1 : tab_off 179 0 11 #[63, 70, 179, 179, 73, 88, 179, 179, 179, 179, 179, 109] p0.toInt = 179 := by
              unfold tab_off
              split
              · rfl
              · rcases (by (first | (apply Int.le_antisymm <;> omega) | omega) : p0.toInt = 2 ∨ p0.toInt = 3 ∨ p0.toInt = 6 ∨ p0.toInt = 7 ∨ p0.toInt = 8 ∨ p0.toInt = 9 ∨ p0.toInt = 10) with z | z | z | z | z | z | z <;> (rw [z]; rfl)
            refine lv_tab (tgt := 180) hx hb d_VA_checkBlocks_1 (by decide) ho1 (by decide) ?_
            clear ho1
            refine lv_aload_n hx hb d_VA_checkBlocks_180 rfl (lv_at hl 0 rfl) ?_
            refine lv_iload_n hx hb d_VA_checkBlocks_181 rfl (lv_at hl 1 rfl) ?_
            refine lv_iload_n hx hb d_VA_checkBlocks_182 rfl (lv_at hl 2 rfl) ?_
            have hPc := hP.sb (wq := (wz_67 h0 aw ac h0_sound h0_function ty h0_height bo bg bh bd h0_depth bo cbo gbo bg cbg gbg bh cbh gbh bd cbd gbd)) [0, 2, 3, 4, 5] rfl
            have hDc := hD.sb (wq := (wz_67 h0 aw ac h0_sound h0_function ty h0_height bo bg bh bd h0_depth bo cbo gbo bg cbg gbg bh cbh gbh bd cbd gbd)) [0, 2, 3, 4, 5] (by decide) rfl
            have hKc := hK.sb (tyq := [(cbo, .int), (cbg, .int), (cbh, .int), (cbd, .boolean)]) [1, 2, 3, 4] rfl
            have hFc := va_free (wc := (wz_67 h0 aw ac h0_sound h0_function ty h0_height bo bg bh bd h0_depth bo cbo gbo bg cbg gbg bh cbh gbh bd cbd gbd)) hD hS hA [0, 2, 3, 4, 5] rfl
            refine va_callv (va_runV (As := [.int p0, .int p1]) (rest := []) ⟨hx, hb, hml, hown, hts⟩ (c_VA_open l dC dI H.size h0 aw ac ty bo bg bh bd cbo cbg cbh cbd h0_sound h0_function h0_height h0_depth gbo gbg gbh gbd (b_h0_height) (b_h0_depth) (b_gbh) p0 p1 (by (try dsimp only) <;> (first | (apply Int.le_antisymm <;> omega) | omega))) (cwV 2 hts (gV kM_VA_124 kV_VA_open kS_VA_open kI_VA kC_VA_open) rfl rfl rfl (by decide +kernel) ⟨Nat.le_of_ble_eq_true rfl, Nat.le_of_ble_eq_true rfl⟩) ⟨fun a U g mk z => by obtain ⟨z0, z1, zP, zK, zD⟩ := z; exact ⟨z0, z1, zP, va_K.moved (u := U) (U := U.calling g mk a) (Vm.Alike.refl U.vm) zK, zD⟩, va_recv hKc hPc (ci := 9) (q0 := 0) rfl rfl, fun U hU hW => ⟨rfl, by rw [hU], va_P.he hU.symm hPc, va_K.moved hW.alike hKc, hDc.weaken (fun _ _ _ _ => trivial)⟩⟩ rfl rfl hl.1 rfl (lv_room (Nat.le_of_ble_eq_true rfl)) d_VA_checkBlocks_183 ⟨(Nat.zero_le _), (Nat.zero_le _)⟩) hS (fun q _ h => hFc q h) hFc (fun u t H1 locs ht hvm hw hB hz1 hk1 hS => ?_)
            obtain ⟨n35, n36, n37, n38, n39⟩ := u
            try dsimp only at hw
            obtain ⟨bn37, bn39, xr34⟩ := hw
            try clear hw
            obtain ⟨hP1, hK1, hD1⟩ := hB
            replace hP1 := va_P.he ht hP1
            obtain ⟨hP, hD⟩ := va_join (wr := [(ty, .inl (cty, 5000, .inl gty))]) (w1 := (wz_67 h0 aw ac h0_sound h0_function ty h0_height bo bg bh bd n39 bo cbo n38 bg cbg n36 bh cbh n37 bd cbd n35)) hP hD [0, 2, 3, 4, 5] [1] rfl rfl (by decide) (by decide) hk1 hFc hP1 hD1
            clear hPc hDc hKc hFc hz1 hk1 hP1 hK1 hD1
            rename Heap => H
            have hP : va_P (dC, dI) cls (wz_87 ty cty gty h0 aw ac h0_sound h0_function ty h0_height bo bg bh bd n39 bo cbo n38 bg cbg n36 bh cbh n37 bd cbd n35) H := hP
            have hD : va_D A (wz_87 ty cty gty h0 aw ac h0_sound h0_function ty h0_height bo bg bh bd n39 bo cbo n38 bg cbg n36 bh cbh n37 bd cbd n35) := hD
            have hP9 := hP.sb (wq := (wz_86 h0 aw ac h0_sound h0_function ty h0_height bo bg bh bd n39 ty cty gty bo cbo n38 bg cbg n36 bh cbh n37 bd cbd n35)) [1, 0, 2, 3, 4, 5] rfl
            have hD9 := hD.sb (wq := (wz_86 h0 aw ac h0_sound h0_function ty h0_height bo bg bh bd n39 ty cty gty bo cbo n38 bg cbg n36 bh cbh n37 bd cbd n35)) [1, 0, 2, 3, 4, 5] (by decide) rfl
            exact W.vret hx hb hr (fun t ht hW => ⟨⟨(n35, n36, n37, n38, gty, n39, h0_height, h0_sound), rfl, ⟨bn37, b_gty, bn39, b_h0_height, b_h0_sound, ⟨fun z => absurd z (by (first | (apply Int.le_antisymm <;> omega) | omega)), fun z => absurd z (by (first | (apply Int.le_antisymm <;> omega) | omega)), fun _ => ⟨xr34, rfl, fun z => z⟩, fun z => absurd z (by (first | (apply Int.le_antisymm <;> omega) | omega)), fun z => absurd z (by (first | (apply Int.le_antisymm <;> omega) | omega)), fun z => absurd z (by (first | (apply Int.le_antisymm <;> omega) | omega))⟩⟩, va_P.he ht.symm hP9, va_K.moved hW.alike hK, hD9⟩, hS.F ht⟩) hS.2.2 d_VA_checkBlocks_186
end q_23
section q_24
/-! from the states between a function's instructions to the picture 'an': a state is the stack of what is open (op, gives, height, dead), the function itself at its bottom, and the height -/
abbrev vt : Type := Int × Int × Int × Int
def ga (g : Int) : Int := if g = 64 then 0 else 1
def vq (B B2 : List vt) (hb d h h2 n m : Int) : Prop := B2 = B ∧ hb ≤ h2 ∧ (d = 0 → hb + n ≤ h ∧ h2 = h - n + m)
def vr (nl gv tk : Nat → Int) (fc gc : Int) (f : Nat) (op : Int) (v : Int) (B : List vt) (h : Int) (B2 : List vt) (h2 : Int) : Prop :=
  ∃ (o g hb d : Int) (R : List vt), B = (o, g, hb, d) :: R ∧ hb ≤ h ∧
  (op = 0 ∨ op = 12 ∨ op = 14 ∨ op = 15 → ∃ d2, B2 = (o, g, hb, d2) :: R ∧ hb ≤ h2) ∧
  (op = 14 → d = 0 → hb + 1 ≤ h) ∧
  (op = 1 → B2 = B ∧ h2 = h) ∧
  (op = 2 ∨ op = 3 → B2 = (op, v, h, 0) :: B ∧ h2 = h) ∧
  (op = 4 → B2 = (4, v, h2, 0) :: B ∧ hb ≤ h2 ∧ (d = 0 → hb + 1 ≤ h ∧ h2 = h - 1)) ∧
  (op = 5 → B2 = (5, g, hb, 0) :: R ∧ h2 = hb ∧ (d = 0 → h = hb + ga g)) ∧
  (op = 11 → (d = 0 → h = hb + ga g) ∧ (o = 4 → g = 64) ∧ (R ≠ [] → B2 = R ∧ h2 = hb + ga g)) ∧
  (op = 13 → vq B B2 hb d h h2 1 0) ∧
  (op = 16 → 0 ≤ v ∧ v < fc ∧ vq B B2 hb d h h2 (tk v.toNat) (gv v.toNat)) ∧
  (op = 26 → vq B B2 hb d h h2 1 0) ∧ (op = 27 → vq B B2 hb d h h2 3 1) ∧
  (32 ≤ op ∧ op ≤ 34 → 0 ≤ v ∧ v < nl f) ∧ (op = 35 ∨ op = 36 → 0 ≤ v ∧ v < gc) ∧
  (op = 32 ∨ op = 35 ∨ op = 63 ∨ op = 65 ∨ op = 66 → vq B B2 hb d h h2 0 1) ∧ (op = 33 ∨ op = 36 → vq B B2 hb d h h2 1 0) ∧
  (op = 54 ∨ op = 55 ∨ op = 58 → vq B B2 hb d h h2 2 0) ∧
  (op = 34 ∨ op = 64 ∨ op = 40 ∨ op = 41 ∨ op = 44 ∨ op = 45 ∨ op = 69 ∨ op = 80 ∨ (103 ≤ op ∧ op < 106) ∨ (121 ≤ op ∧ op < 124) ∨ 138 < op → vq B B2 hb d h h2 1 1) ∧
  ((69 < op ∧ op < 80) ∨ (80 < op ∧ op ≤ 90) ∨ (106 ≤ op ∧ op < 121) ∨ (124 ≤ op ∧ op ≤ 138) → vq B B2 hb d h h2 2 1)
def vlive (L : List vt) : Bool := L.all (fun x => x.2.2.2 == 0)
def vzp (s : List Nat) (b : List vt) : List (Nat × Int) := List.zipWith (fun x y => (x, y.2.2.1)) s b
def vtop (L : List vt) : Int := match L with | [] => 0 | x :: _ => x.2.2.1 + ga x.2.1
def vann (f : Nat) (gop : Nat → Int32) (sb : Nat → List Nat) (B : Nat → List vt) (hh : Nat → Int) : mc_A := fun i =>
  if (gop i).toInt = 11 ∧ sb i ≠ [] then (if vlive (B i).tail = true then some (f, vzp (sb i) (B i), vtop (B i)) else none)
  else if vlive (B i) = true then some (f, vzp (sb i) (B i), hh i) else none
def vh (gop gel : Nat → Int32) (gva : Nat → Int64) (sb : Nat → List Nat) (B : Nat → List vt) (hh : Nat → Int) (i : Nat) : Prop :=
  (B i).length = (sb i).length + 1 ∧ ∀ (k b : Nat), (sb i)[k]? = some b → ∃ o d, (B i)[k]? = some (o, (gva b).toInt, hh (b + 1), d) ∧ (sb i).drop (k + 1) = sb b ∧ (B i).drop (k + 1) = B b ∧ ((gop b).toInt = 4 → (gel b).toInt < 0 → o = 4)
theorem vlive_cons {x : vt} {L : List vt} : vlive (x :: L) = true ↔ x.2.2.2 = 0 ∧ vlive L = true := by
  unfold vlive
  rw [List.all_cons, Bool.and_eq_true, beq_iff_eq]
theorem vlive_drop {L : List vt} (k : Nat) (h : vlive L = true) : vlive (L.drop k) = true := by
  unfold vlive at *
  rw [List.all_eq_true] at *
  exact fun x hx => h x (List.mem_of_mem_drop hx)
theorem vzp_drop (s : List Nat) (b : List vt) (k : Nat) : (vzp s b).drop k = vzp (s.drop k) (b.drop k) := by
  unfold vzp
  rw [List.drop_zipWith]
theorem vzp_len {s : List Nat} {b : List vt} (h : b.length = s.length + 1) : (vzp s b).length = s.length := by
  unfold vzp
  rw [List.length_zipWith]
  (first | (apply Int.le_antisymm <;> omega) | omega)
theorem vzp_get {s : List Nat} {b : List vt} {n : Nat} {x : Nat × Int} (h : (vzp s b)[n]? = some x) : ∃ y, s[n]? = some x.1 ∧ b[n]? = some y ∧ x.2 = y.2.2.1 := by
  unfold vzp at h
  rw [List.getElem?_zipWith] at h
  cases e1 : s[n]? with
  | none => rw [e1] at h; cases h
  | some z =>
    cases e2 : b[n]? with
    | none => rw [e1, e2] at h; cases h
    | some y =>
      rw [e1, e2] at h
      have e := Option.some.inj h
      exact ⟨y, by rw [← e], rfl, by rw [← e]⟩
section VA
variable {nl gv tk : Nat → Int} {fc gc lc : Int} {f a m : Nat} {gop gpt gel gla : Nat → Int32} {gva : Nat → Int64} {sb : Nat → List Nat} {B : Nat → List vt} {hh : Nat → Int} {an : mc_A}
theorem vh_step {i : Nat} (hI : rs_I a m gop gpt gel gva lc sb) (h1 : a ≤ i) (h2 : i < m) (hV : vr nl gv tk fc gc f (gop i).toInt (gva i).toInt (B i) (hh i) (B (i + 1)) (hh (i + 1))) (H : vh gop gel gva sb B hh i) : vh gop gel gva sb B hh (i + 1) := by
  obtain ⟨hL, hK⟩ := H
  obtain ⟨v1, v2, v3, v4, v5, v6, v7⟩ := hI.2.2.2 i h1 h2
  obtain ⟨o, g, hb, d, R, eB, hbh, c0, -, c1, hq9r⟩ := hV
  obtain ⟨c2, c4, c5, c11, c13, c16, c26, c27, -, -, hq9r⟩ := hq9r
  obtain ⟨c01, c10, c20, c11b, c21⟩ := hq9r
  have hop := v1.2.2.2
  have push : ∀ o', (B (i + 1)) = (o', (gva i).toInt, hh (i + 1), 0) :: B i → sb (i + 1) = i :: sb i → ((gop i).toInt = 4 → o' = 4) → vh gop gel gva sb B hh (i + 1) := by
    intro o' e1 e2 e3
    refine ⟨by rw [e1, e2, List.length_cons, List.length_cons, hL], fun k b hk => ?_⟩
    rw [e2] at hk
    cases k with
    | zero =>
      have e : b = i := by simpa using hk.symm
      subst e
      exact ⟨o', 0, by rw [e1]; rfl, by rw [e2]; rfl, by rw [e1]; rfl, fun z _ => e3 z⟩
    | succ k =>
      obtain ⟨o2, d2, q1, q2, q3, q4⟩ := hK k b (by simpa using hk)
      exact ⟨o2, d2, by rw [e1]; simpa using q1, by rw [e2]; simpa using q2, by rw [e1]; simpa using q3, q4⟩
  have keep : ∀ o' d', (B (i + 1)) = (o', g, hb, d') :: R → sb (i + 1) = sb i → (∀ b r, sb i = b :: r → (gop b).toInt = 4 → (gel b).toInt < 0 → o = 4 → o' = 4) → vh gop gel gva sb B hh (i + 1) := by
    intro o' d' e1 e2 e3
    rw [eB] at hL hK
    refine ⟨by rw [e1, e2]; simpa using hL, fun k b hk => ?_⟩
    rw [e2] at hk
    obtain ⟨o2, d2, q1, q2, q3, q4⟩ := hK k b hk
    cases k with
    | zero =>
      have e : (o, g, hb, d) = (o2, (gva b).toInt, hh (b + 1), d2) := by simpa using q1
      injection e with e4 e5
      injection e5 with e5 e6
      injection e6 with e6 e7
      refine ⟨o', d', by rw [e1, ← e5, ← e6]; rfl, by rw [e2]; exact q2, by rw [e1]; simpa using q3, fun z1 z2 => ?_⟩
      cases es : sb i with
      | nil => rw [es] at hk; cases hk
      | cons b' r =>
        rw [es] at hk
        have eb : b' = b := by simpa using hk
        subst eb
        exact e3 b' r es z1 z2 (by rw [e4]; exact q4 z1 z2)
    | succ k =>
      exact ⟨o2, d2, by rw [e1]; simpa using q1, by rw [e2]; exact q2, by rw [e1]; simpa using q3, q4⟩
  by_cases p2 : (gop i).toInt = 2 ∨ (gop i).toInt = 3
  · obtain ⟨e1, e2⟩ := c2 p2
    rw [← e2] at e1
    exact push _ e1 (v2 (by (first | (apply Int.le_antisymm <;> omega) | omega))) (fun z => by (first | (apply Int.le_antisymm <;> omega) | omega))
  by_cases p4 : (gop i).toInt = 4
  · exact push _ (c4 p4).1 (v2 (by (first | (apply Int.le_antisymm <;> omega) | omega))) (fun _ => rfl)
  by_cases p11 : (gop i).toInt = 11
  · obtain ⟨b, r, e1, e2, -⟩ := v5 p11
    have hR : R ≠ [] := by
      intro e
      rw [eB, e, e1] at hL
      simp at hL
    obtain ⟨e3, -⟩ := (c11 p11).2.2 hR
    rw [eB, e1] at hL
    refine ⟨by rw [e3, e2]; simpa using hL, fun k b' hk => ?_⟩
    rw [e2] at hk
    obtain ⟨o2, d2, q1, q2, q3, q4⟩ := hK (k + 1) b' (by rw [e1]; simpa using hk)
    rw [eB] at q1 q3
    rw [e1] at q2
    exact ⟨o2, d2, by rw [e3]; simpa using q1, by rw [e2]; simpa using q2, by rw [e3]; simpa using q3, q4⟩
  have es := v6 (by (first | (apply Int.le_antisymm <;> omega) | omega)) (by (first | (apply Int.le_antisymm <;> omega) | omega)) p4 p11
  by_cases p5 : (gop i).toInt = 5
  · obtain ⟨b, r, y1, y2, y3⟩ := v4 p5
    refine keep 5 0 (c5 p5).1 es (fun b' r' w1 w2 w3 _ => ?_)
    rw [y1] at w1
    injection w1 with w1 _
    subst w1
    (first | (apply Int.le_antisymm <;> omega) | omega)
  have pl : ∃ d', B (i + 1) = (o, g, hb, d') :: R := by
    rw [eB] at c1 c13 c16 c26 c27 c01 c10 c20 c11b c21
    clear v1 v2 v3 v4 v5 v6 v7 hK push keep c2 c4 c5 c11 hI
    by_cases q : (gop i).toInt = 0 ∨ (gop i).toInt = 12 ∨ (gop i).toInt = 14 ∨ (gop i).toInt = 15
    · obtain ⟨d2, w, -⟩ := c0 q
      exact ⟨d2, w⟩
    refine ⟨d, ?_⟩
    clear c0 hL
    by_cases q1 : (gop i).toInt = 1
    · exact (c1 q1).1
    by_cases q13 : (gop i).toInt = 13
    · exact (c13 q13).1
    by_cases q16 : (gop i).toInt = 16
    · exact (c16 q16).2.2.1
    by_cases q26 : (gop i).toInt = 26
    · exact (c26 q26).1
    by_cases q27 : (gop i).toInt = 27
    · exact (c27 q27).1
    by_cases q01 : (gop i).toInt = 32 ∨ (gop i).toInt = 35 ∨ (gop i).toInt = 63 ∨ (gop i).toInt = 65 ∨ (gop i).toInt = 66
    · exact (c01 q01).1
    by_cases q10 : (gop i).toInt = 33 ∨ (gop i).toInt = 36
    · exact (c10 q10).1
    by_cases q20 : (gop i).toInt = 54 ∨ (gop i).toInt = 55 ∨ (gop i).toInt = 58
    · exact (c20 q20).1
    by_cases q11 : (gop i).toInt = 34 ∨ (gop i).toInt = 64 ∨ (gop i).toInt = 40 ∨ (gop i).toInt = 41 ∨ (gop i).toInt = 44 ∨ (gop i).toInt = 45 ∨ (gop i).toInt = 69 ∨ (gop i).toInt = 80 ∨ (103 ≤ (gop i).toInt ∧ (gop i).toInt < 106) ∨ (121 ≤ (gop i).toInt ∧ (gop i).toInt < 124) ∨ 138 < (gop i).toInt
    · exact (c11b q11).1
    · exact (c21 (by clear c1 c13 c16 c26 c27 c01 c10 c20 c11b c21; (first | (apply Int.le_antisymm <;> omega) | omega))).1
  obtain ⟨d', e1⟩ := pl
  exact keep o d' e1 es (fun _ _ _ _ _ w => w)
theorem vh_all (hI : rs_I a m gop gpt gel gva lc sb) (hV : ∀ i, a ≤ i → i < m → vr nl gv tk fc gc f (gop i).toInt (gva i).toInt (B i) (hh i) (B (i + 1)) (hh (i + 1))) (hB : (B a).length = 1) : ∀ k, a + k ≤ m → vh gop gel gva sb B hh (a + k)
  | 0, _ => ⟨by rw [Nat.add_zero, hB, hI.2.1]; rfl, fun k b hk => by rw [Nat.add_zero, hI.2.1] at hk; simp at hk⟩
  | k + 1, h => vh_step (i := a + k) hI (by (first | (apply Int.le_antisymm <;> omega) | omega)) (by (first | (apply Int.le_antisymm <;> omega) | omega)) (hV (a + k) (by (first | (apply Int.le_antisymm <;> omega) | omega)) (by (first | (apply Int.le_antisymm <;> omega) | omega))) (vh_all hI hV hB k (by (first | (apply Int.le_antisymm <;> omega) | omega)))
theorem rs_close (hI : rs_I a m gop gpt gel gva lc sb) (hm : sb m = []) {b : Nat} : ∀ (k i : Nat), i + k = m → a ≤ i → b ∈ sb i → ∃ p, i ≤ p ∧ p < m ∧ (gop p).toInt = 11 ∧ (∃ r, sb p = b :: r ∧ sb (p + 1) = r) ∧ (gpt b).toInt = p ∧ (0 ≤ (gel b).toInt → (gpt (gel b).toNatClampNeg).toInt = p)
  | 0, i, e, _, hb => by rw [show i = m by (first | (apply Int.le_antisymm <;> omega) | omega), hm] at hb; cases hb
  | k + 1, i, e, h, hb => by
    by_cases q : b ∈ sb (i + 1)
    · obtain ⟨p, p1, p2⟩ := rs_close hI hm k (i + 1) (by (first | (apply Int.le_antisymm <;> omega) | omega)) (by (first | (apply Int.le_antisymm <;> omega) | omega)) q
      exact ⟨p, by (first | (apply Int.le_antisymm <;> omega) | omega), p2⟩
    · obtain ⟨-, v2, -, -, v5, v6, -⟩ := hI.2.2.2 i h (by (first | (apply Int.le_antisymm <;> omega) | omega))
      by_cases p11 : (gop i).toInt = 11
      · obtain ⟨b', r, e1, e2, -, e3, e4⟩ := v5 p11
        rw [e1] at hb
        rcases List.mem_cons.mp hb with w | w
        · subst w
          exact ⟨i, Nat.le_refl _, by (first | (apply Int.le_antisymm <;> omega) | omega), p11, ⟨r, e1, e2⟩, e3, e4⟩
        · exact absurd (by rw [e2]; exact w) q
      · exfalso
        by_cases p2 : (gop i).toInt = 2 ∨ (gop i).toInt = 3 ∨ (gop i).toInt = 4
        · exact q (by rw [v2 p2]; exact List.mem_cons_of_mem _ hb)
        · exact q (by rw [v6 (by (first | (apply Int.le_antisymm <;> omega) | omega)) (by (first | (apply Int.le_antisymm <;> omega) | omega)) (by (first | (apply Int.le_antisymm <;> omega) | omega)) p11]; exact hb)
end VA
end q_24

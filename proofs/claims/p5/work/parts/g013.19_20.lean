section q_19
/-! Reader: globals, exports, sections -/
abbrev b_RE_readGlobals : ByteArray := prog_9_method_6_code
def y_RE_readGlobals : MethodName := ⟨R_RE, "readGlobals", "()V"⟩
abbrev w_RE_readGlobals : List Cond := .code y_RE_readGlobals b_RE_readGlobals 3 none :: lw_g
theorem kC_RE_readGlobals : Cond.code y_RE_readGlobals b_RE_readGlobals 3 none ∈ lw_g := in_c6 118 rfl rfl
theorem d_RE_readGlobals_0 : decode b_RE_readGlobals 0 = .ok (.aload_n 0, 1) := bz_c42 (by decide +kernel)
theorem d_RE_readGlobals_1 : decode b_RE_readGlobals 1 = .ok (.getfield 15, 3) := bz_c180 (by decide +kernel)
theorem d_RE_readGlobals_4 : decode b_RE_readGlobals 4 = .ok (.aload_n 0, 1) := bz_c42 (by decide +kernel)
theorem d_RE_readGlobals_5 : decode b_RE_readGlobals 5 = .ok (.ldc2_w 96, 3) := bz_c20 (by decide +kernel)
theorem d_RE_readGlobals_8 : decode b_RE_readGlobals 8 = .ok (.invokevirtual 64, 3) := bz_c182 (by decide +kernel)
theorem d_RE_readGlobals_11 : decode b_RE_readGlobals 11 = .ok (.l2i, 1) := bz_c136 (by decide +kernel)
theorem d_RE_readGlobals_12 : decode b_RE_readGlobals 12 = .ok (.putfield 132, 3) := bz_c181 (by decide +kernel)
theorem d_RE_readGlobals_15 : decode b_RE_readGlobals 15 = .ok (.iconst 0, 1) := bz_c3 (by decide +kernel)
theorem d_RE_readGlobals_16 : decode b_RE_readGlobals 16 = .ok (.istore_n 1, 1) := bz_c60 (by decide +kernel)
theorem d_RE_readGlobals_17 : decode b_RE_readGlobals 17 = .ok (.iload_n 1, 1) := bz_c27 (by decide +kernel)
theorem d_RE_readGlobals_18 : decode b_RE_readGlobals 18 = .ok (.aload_n 0, 1) := bz_c42 (by decide +kernel)
theorem d_RE_readGlobals_19 : decode b_RE_readGlobals 19 = .ok (.getfield 15, 3) := bz_c180 (by decide +kernel)
theorem d_RE_readGlobals_22 : decode b_RE_readGlobals 22 = .ok (.getfield 132, 3) := bz_c180 (by decide +kernel)
theorem d_RE_readGlobals_25 : decode b_RE_readGlobals 25 = .ok (.if_icmp .ge 138, 3) := bz_c162 (by decide +kernel)
theorem d_RE_readGlobals_28 : decode b_RE_readGlobals 28 = .ok (.aload_n 0, 1) := bz_c42 (by decide +kernel)
theorem d_RE_readGlobals_29 : decode b_RE_readGlobals 29 = .ok (.getfield 45, 3) := bz_c180 (by decide +kernel)
theorem d_RE_readGlobals_32 : decode b_RE_readGlobals 32 = .ok (.ifCond .eq 131, 3) := bz_c153 (by decide +kernel)
theorem d_RE_readGlobals_35 : decode b_RE_readGlobals 35 = .ok (.aload_n 0, 1) := bz_c42 (by decide +kernel)
theorem d_RE_readGlobals_36 : decode b_RE_readGlobals 36 = .ok (.getfield 15, 3) := bz_c180 (by decide +kernel)
theorem d_RE_readGlobals_39 : decode b_RE_readGlobals 39 = .ok (.getfield 135, 3) := bz_c180 (by decide +kernel)
theorem d_RE_readGlobals_42 : decode b_RE_readGlobals 42 = .ok (.iload_n 1, 1) := bz_c27 (by decide +kernel)
theorem d_RE_readGlobals_43 : decode b_RE_readGlobals 43 = .ok (.aload_n 0, 1) := bz_c42 (by decide +kernel)
theorem d_RE_readGlobals_44 : decode b_RE_readGlobals 44 = .ok (.invokevirtual 109, 3) := bz_c182 (by decide +kernel)
theorem d_RE_readGlobals_47 : decode b_RE_readGlobals 47 = .ok (.iastore, 1) := bz_c79 (by decide +kernel)
theorem d_RE_readGlobals_48 : decode b_RE_readGlobals 48 = .ok (.aload_n 0, 1) := bz_c42 (by decide +kernel)
theorem d_RE_readGlobals_49 : decode b_RE_readGlobals 49 = .ok (.getfield 15, 3) := bz_c180 (by decide +kernel)
theorem d_RE_readGlobals_52 : decode b_RE_readGlobals 52 = .ok (.getfield 138, 3) := bz_c180 (by decide +kernel)
theorem d_RE_readGlobals_55 : decode b_RE_readGlobals 55 = .ok (.iload_n 1, 1) := bz_c27 (by decide +kernel)
theorem d_RE_readGlobals_56 : decode b_RE_readGlobals 56 = .ok (.aload_n 0, 1) := bz_c42 (by decide +kernel)
theorem d_RE_readGlobals_57 : decode b_RE_readGlobals 57 = .ok (.invokevirtual 118, 3) := bz_c182 (by decide +kernel)
theorem d_RE_readGlobals_60 : decode b_RE_readGlobals 60 = .ok (.iconst 1, 1) := bz_c4 (by decide +kernel)
theorem d_RE_readGlobals_61 : decode b_RE_readGlobals 61 = .ok (.if_icmp .ne 7, 3) := bz_c160 (by decide +kernel)
theorem d_RE_readGlobals_64 : decode b_RE_readGlobals 64 = .ok (.iconst 1, 1) := bz_c4 (by decide +kernel)
theorem d_RE_readGlobals_65 : decode b_RE_readGlobals 65 = .ok (.goto 4, 3) := bz_c167 (by decide +kernel)
theorem d_RE_readGlobals_68 : decode b_RE_readGlobals 68 = .ok (.iconst 0, 1) := bz_c3 (by decide +kernel)
theorem d_RE_readGlobals_69 : decode b_RE_readGlobals 69 = .ok (.bastore, 1) := bz_c84 (by decide +kernel)
theorem d_RE_readGlobals_70 : decode b_RE_readGlobals 70 = .ok (.aload_n 0, 1) := bz_c42 (by decide +kernel)
theorem d_RE_readGlobals_71 : decode b_RE_readGlobals 71 = .ok (.invokevirtual 60, 3) := bz_c182 (by decide +kernel)
theorem d_RE_readGlobals_74 : decode b_RE_readGlobals 74 = .ok (.istore_n 2, 1) := bz_c61 (by decide +kernel)
theorem d_RE_readGlobals_75 : decode b_RE_readGlobals 75 = .ok (.aload_n 0, 1) := bz_c42 (by decide +kernel)
theorem d_RE_readGlobals_76 : decode b_RE_readGlobals 76 = .ok (.aload_n 0, 1) := bz_c42 (by decide +kernel)
theorem d_RE_readGlobals_77 : decode b_RE_readGlobals 77 = .ok (.getfield 45, 3) := bz_c180 (by decide +kernel)
theorem d_RE_readGlobals_80 : decode b_RE_readGlobals 80 = .ok (.ifCond .eq 19, 3) := bz_c153 (by decide +kernel)
theorem d_RE_readGlobals_83 : decode b_RE_readGlobals 83 = .ok (.iload_n 2, 1) := bz_c28 (by decide +kernel)
theorem d_RE_readGlobals_84 : decode b_RE_readGlobals 84 = .ok (.bipush 65, 2) := bz_c16 (by decide +kernel)
theorem d_RE_readGlobals_86 : decode b_RE_readGlobals 86 = .ok (.if_icmp .eq 9, 3) := bz_c159 (by decide +kernel)
theorem d_RE_readGlobals_89 : decode b_RE_readGlobals 89 = .ok (.iload_n 2, 1) := bz_c28 (by decide +kernel)
theorem d_RE_readGlobals_90 : decode b_RE_readGlobals 90 = .ok (.bipush 66, 2) := bz_c16 (by decide +kernel)
theorem d_RE_readGlobals_92 : decode b_RE_readGlobals 92 = .ok (.if_icmp .ne 7, 3) := bz_c160 (by decide +kernel)
theorem d_RE_readGlobals_95 : decode b_RE_readGlobals 95 = .ok (.iconst 1, 1) := bz_c4 (by decide +kernel)
theorem d_RE_readGlobals_96 : decode b_RE_readGlobals 96 = .ok (.goto 4, 3) := bz_c167 (by decide +kernel)
theorem d_RE_readGlobals_99 : decode b_RE_readGlobals 99 = .ok (.iconst 0, 1) := bz_c3 (by decide +kernel)
theorem d_RE_readGlobals_100 : decode b_RE_readGlobals 100 = .ok (.putfield 45, 3) := bz_c181 (by decide +kernel)
theorem d_RE_readGlobals_103 : decode b_RE_readGlobals 103 = .ok (.aload_n 0, 1) := bz_c42 (by decide +kernel)
theorem d_RE_readGlobals_104 : decode b_RE_readGlobals 104 = .ok (.getfield 15, 3) := bz_c180 (by decide +kernel)
theorem d_RE_readGlobals_107 : decode b_RE_readGlobals 107 = .ok (.getfield 142, 3) := bz_c180 (by decide +kernel)
theorem d_RE_readGlobals_110 : decode b_RE_readGlobals 110 = .ok (.iload_n 1, 1) := bz_c27 (by decide +kernel)
theorem d_RE_readGlobals_111 : decode b_RE_readGlobals 111 = .ok (.iload_n 2, 1) := bz_c28 (by decide +kernel)
theorem d_RE_readGlobals_112 : decode b_RE_readGlobals 112 = .ok (.bipush 65, 2) := bz_c16 (by decide +kernel)
theorem d_RE_readGlobals_114 : decode b_RE_readGlobals 114 = .ok (.if_icmp .ne 8, 3) := bz_c160 (by decide +kernel)
theorem d_RE_readGlobals_117 : decode b_RE_readGlobals 117 = .ok (.bipush 127, 2) := bz_c16 (by decide +kernel)
theorem d_RE_readGlobals_119 : decode b_RE_readGlobals 119 = .ok (.goto 5, 3) := bz_c167 (by decide +kernel)
theorem d_RE_readGlobals_122 : decode b_RE_readGlobals 122 = .ok (.bipush 126, 2) := bz_c16 (by decide +kernel)
theorem d_RE_readGlobals_124 : decode b_RE_readGlobals 124 = .ok (.iastore, 1) := bz_c79 (by decide +kernel)
theorem d_RE_readGlobals_125 : decode b_RE_readGlobals 125 = .ok (.aload_n 0, 1) := bz_c42 (by decide +kernel)
theorem d_RE_readGlobals_126 : decode b_RE_readGlobals 126 = .ok (.getfield 15, 3) := bz_c180 (by decide +kernel)
theorem d_RE_readGlobals_129 : decode b_RE_readGlobals 129 = .ok (.getfield 145, 3) := bz_c180 (by decide +kernel)
theorem d_RE_readGlobals_132 : decode b_RE_readGlobals 132 = .ok (.iload_n 1, 1) := bz_c27 (by decide +kernel)
theorem d_RE_readGlobals_133 : decode b_RE_readGlobals 133 = .ok (.aload_n 0, 1) := bz_c42 (by decide +kernel)
theorem d_RE_readGlobals_134 : decode b_RE_readGlobals 134 = .ok (.iload_n 2, 1) := bz_c28 (by decide +kernel)
theorem d_RE_readGlobals_135 : decode b_RE_readGlobals 135 = .ok (.bipush 65, 2) := bz_c16 (by decide +kernel)
theorem d_RE_readGlobals_137 : decode b_RE_readGlobals 137 = .ok (.if_icmp .ne 8, 3) := bz_c160 (by decide +kernel)
theorem d_RE_readGlobals_140 : decode b_RE_readGlobals 140 = .ok (.bipush 32, 2) := bz_c16 (by decide +kernel)
theorem d_RE_readGlobals_142 : decode b_RE_readGlobals 142 = .ok (.goto 5, 3) := bz_c167 (by decide +kernel)
theorem d_RE_readGlobals_145 : decode b_RE_readGlobals 145 = .ok (.bipush 64, 2) := bz_c16 (by decide +kernel)
theorem d_RE_readGlobals_147 : decode b_RE_readGlobals 147 = .ok (.invokevirtual 149, 3) := bz_c182 (by decide +kernel)
theorem d_RE_readGlobals_150 : decode b_RE_readGlobals 150 = .ok (.lastore, 1) := bz_c80 (by decide +kernel)
theorem d_RE_readGlobals_151 : decode b_RE_readGlobals 151 = .ok (.aload_n 0, 1) := bz_c42 (by decide +kernel)
theorem d_RE_readGlobals_152 : decode b_RE_readGlobals 152 = .ok (.bipush 11, 2) := bz_c16 (by decide +kernel)
theorem d_RE_readGlobals_154 : decode b_RE_readGlobals 154 = .ok (.invokevirtual 56, 3) := bz_c182 (by decide +kernel)
theorem d_RE_readGlobals_157 : decode b_RE_readGlobals 157 = .ok (.iinc 1 1, 3) := by decide +kernel
theorem d_RE_readGlobals_160 : decode b_RE_readGlobals 160 = .ok (.goto (-143), 3) := bz_c167 (by decide +kernel)
theorem d_RE_readGlobals_163 : decode b_RE_readGlobals 163 = .ok (.return_, 1) := bz_c177 (by decide +kernel)
theorem kF_RE_132 : Cond.fieldLink R_RE 132 "WaferForge$Wafer" "globalCount" "I" ∈ lw_g := in_c1 179 rfl rfl
theorem kF_RE_135 : Cond.fieldLink R_RE 135 "WaferForge$Wafer" "globalTypes" "[I" ∈ lw_g := in_c1 183 rfl rfl
theorem kF_RE_138 : Cond.fieldLink R_RE 138 "WaferForge$Wafer" "globalChanges" "[Z" ∈ lw_g := in_c1 191 rfl rfl
theorem kF_RE_142 : Cond.fieldLink R_RE 142 "WaferForge$Wafer" "firstTypes" "[I" ∈ lw_g := in_c1 186 rfl rfl
theorem kF_RE_145 : Cond.fieldLink R_RE 145 "WaferForge$Wafer" "firstValues" "[J" ∈ lw_g := in_c1 189 rfl rfl
abbrev at_RE_readGlobals (dC : Nat → ClassId) (dI : Nat → Nat → Nat) (h0 aw ac ob ab wat wap wag waf wgt wft wfv wgc wek wei wes wez ax : Nat) (cax cwgt cwft cwfv cwgc : ClassId) (h0_limit : Int32) (h0_codeCount : Int32) (h0_openCount : Int32) (aw_typeCount : Int32) (aw_functionCount : Int32) (aw_hasMemory : Int32) (aw_pagesLeast : Int64) (aw_pagesMost : Int64) (aw_exportCount : Int32) (ab_length : Int32) (gax : Nat → Int32) (A : Nat → Prop) (u : (Nat → Int32) × (Nat → Int64) × (Nat → Int32) × (Nat → Int32) × Int32 × Int32 × Int32) (t : State) : Prop := match u with | (gwft, gwfv, gwgc, gwgt, aw_globalCount, h0_at, h0_sound) => va_P (dC, dI) cls (wz_55 h0 aw ac h0_at h0_limit h0_sound h0_codeCount ob h0_openCount aw ab ac aw_typeCount wat wap wag aw_functionCount waf aw_hasMemory aw_pagesLeast aw_pagesMost aw_globalCount wgt wft wfv wgc aw_exportCount wek wei wes wez ab ax ab_length ax cax gax wgt cwgt gwgt wft cwft gwft wfv cwfv gwfv wgc cwgc gwgc) t.heap ∧ va_K (dC, dI) cls [(cax, .byte), (cwgt, .int), (cwft, .int), (cwfv, .long), (cwgc, .boolean)] t ∧ va_D A (wz_55 h0 aw ac h0_at h0_limit h0_sound h0_codeCount ob h0_openCount aw ab ac aw_typeCount wat wap wag aw_functionCount waf aw_hasMemory aw_pagesLeast aw_pagesMost aw_globalCount wgt wft wfv wgc aw_exportCount wek wei wes wez ab ax ab_length ax cax gax wgt cwgt gwgt wft cwft gwft wfv cwfv gwfv wgc cwgc gwgc)
set_option maxHeartbeats 4000000 in
set_option maxRecDepth 100000 in
theorem c_RE_readGlobals (l : Launch) (dC : Nat → ClassId) (dI : Nat → Nat → Nat) (sz : Nat) (h0 aw ac ob ab wat wap wag waf wgt wft wfv wgc wek wei wes wez ax : Nat) (cax cwgt cwft cwfv cwgc : ClassId) (h0_at : Int32) (h0_limit : Int32) (h0_sound : Int32) (h0_codeCount : Int32) (h0_openCount : Int32) (aw_typeCount : Int32) (aw_functionCount : Int32) (aw_hasMemory : Int32) (aw_pagesLeast : Int64) (aw_pagesMost : Int64) (aw_globalCount : Int32) (aw_exportCount : Int32) (ab_length : Int32) (gax : Nat → Int32) (gwgt : Nat → Int32) (gwft : Nat → Int32) (gwfv : Nat → Int64) (gwgc : Nat → Int32)  (b_h0_sound : h0_sound = 0 ∨ h0_sound = 1) (b_aw_globalCount : 0 ≤ aw_globalCount.toInt ∧ aw_globalCount.toInt ≤ 20)   (ha : 0 ≤ h0_at.toInt ∧ h0_at.toInt ≤ h0_limit.toInt ∧ h0_limit.toInt ≤ ab_length.toInt ∧ ab_length.toInt ≤ 8192) : Met l y_RE_readGlobals w_RE_readGlobals ({ frames := 2, cells := 0, slots := 0, locals := 47 }) (va_Pc [.ref h0] (fun U => U.heap.size = sz ∧ va_P (dC, dI) cls (wz_55 h0 aw ac h0_at h0_limit h0_sound h0_codeCount ob h0_openCount aw ab ac aw_typeCount wat wap wag aw_functionCount waf aw_hasMemory aw_pagesLeast aw_pagesMost aw_globalCount wgt wft wfv wgc aw_exportCount wek wei wes wez ab ax ab_length ax cax gax wgt cwgt gwgt wft cwft gwft wfv cwfv gwfv wgc cwgc gwgc) U.heap ∧ va_K (dC, dI) cls [(cax, .byte), (cwgt, .int), (cwft, .int), (cwfv, .long), (cwgc, .boolean)] U ∧ va_D (fun _ => True) (wz_55 h0 aw ac h0_at h0_limit h0_sound h0_codeCount ob h0_openCount aw ab ac aw_typeCount wat wap wag aw_functionCount waf aw_hasMemory aw_pagesLeast aw_pagesMost aw_globalCount wgt wft wfv wgc aw_exportCount wek wei wes wez ab ax ab_length ax cax gax wgt cwgt gwgt wft cwft gwft wfv cwfv gwfv wgc cwgc gwgc))) (va_Qv (fun (u : (Nat → Int32) × (Nat → Int64) × (Nat → Int32) × (Nat → Int32) × Int32 × Int32 × Int32) => match u with | (gwft2, gwfv2, gwgc2, gwgt2, aw_globalCount2, h0_at2, h0_sound2) => (0 ≤ aw_globalCount2.toInt ∧ aw_globalCount2.toInt ≤ 20) ∧ (h0_sound2 = 0 ∨ h0_sound2 = 1) ∧ ((h0_at.toInt ≤ h0_at2.toInt ∧ h0_at2.toInt ≤ h0_limit.toInt) ∧ (h0_sound2.toInt = 1 → h0_sound.toInt = 1) ∧ (h0_sound2.toInt = 1 → rd_G aw_globalCount2.toInt gwgt2))) (at_RE_readGlobals dC dI h0 aw ac ob ab wat wap wag waf wgt wft wfv wgc wek wei wes wez ax cax cwgt cwft cwfv cwgc h0_limit h0_codeCount h0_openCount aw_typeCount aw_functionCount aw_hasMemory aw_pagesLeast aw_pagesMost aw_exportCount ab_length gax (va_A (wz_55 h0 aw ac h0_at h0_limit h0_sound h0_codeCount ob h0_openCount aw ab ac aw_typeCount wat wap wag aw_functionCount waf aw_hasMemory aw_pagesLeast aw_pagesMost aw_globalCount wgt wft wfv wgc aw_exportCount wek wei wes wez ab ax ab_length ax cax gax wgt cwgt gwgt wft cwft gwft wfv cwfv gwfv wgc cwgc gwgc) sz)) (va_A (wz_55 h0 aw ac h0_at h0_limit h0_sound h0_codeCount ob h0_openCount aw ab ac aw_typeCount wat wap wag aw_functionCount waf aw_hasMemory aw_pagesLeast aw_pagesMost aw_globalCount wgt wft wfv wgc aw_exportCount wek wei wes wez ab ax ab_length ax cax gax wgt cwgt gwgt wft cwft gwft wfv cwfv gwfv wgc cwgc gwgc) sz)) 0 0 (va_A (wz_55 h0 aw ac h0_at h0_limit h0_sound h0_codeCount ob h0_openCount aw ab ac aw_typeCount wat wap wag aw_functionCount waf aw_hasMemory aw_pagesLeast aw_pagesMost aw_globalCount wgt wft wfv wgc aw_exportCount wek wei wes wez ab ax ab_length ax cax gax wgt cwgt gwgt wft cwft gwft wfv cwfv gwfv wgc cwgc gwgc) sz) := by
  refine Met.ofW (cc := b_RE_readGlobals) (maxL := 3) (ret := none) (by decide) rfl ?_
  intro p e s m args below meth c s₁ B hml hv
  obtain ⟨rfl, hsz, hP, hK, hD0⟩ := hv
  have hx := B.exec
  have hb := B.bytes
  have hr := B.returns
  have hts0 := atoms_spec (ws := w_RE_readGlobals) B.pre
  have hts : ∀ w ∈ lw_g, w.before _ s = true := fun w h => hts0 w (List.mem_cons_of_mem _ h)
  have hown : s.vm.findClass R_RE = some m.cls := findClass_of_methodNamed B.named
  have hlocks := B.notSynchronized
  clear hts0
  subst hsz
  have hD := hD0.self (sz := s.heap.size)
  generalize hAe : va_A (wz_55 h0 aw ac h0_at h0_limit h0_sound h0_codeCount ob h0_openCount aw ab ac aw_typeCount wat wap wag aw_functionCount waf aw_hasMemory aw_pagesLeast aw_pagesMost aw_globalCount wgt wft wfv wgc aw_exportCount wek wei wes wez ab ax ab_length ax cax gax wgt cwgt gwgt wft cwft gwft wfv cwfv gwfv wgc cwgc gwgc) s.heap.size = A at hD ⊢
  have hA : ∀ q : Nat, s.heap.size ≤ q → A q := fun q h => by rw [← hAe]; exact Or.inr h
  clear hAe
  have hP : va_P (dC, dI) cls (wz_55 h0 aw ac h0_at h0_limit h0_sound h0_codeCount ob h0_openCount aw ab ac aw_typeCount wat wap wag aw_functionCount waf aw_hasMemory aw_pagesLeast aw_pagesMost aw_globalCount wgt wft wfv wgc aw_exportCount wek wei wes wez ab ax ab_length ax cax gax wgt cwgt gwgt wft cwft gwft wfv cwfv gwfv wgc cwgc gwgc) s.heap := hP
  have hl := lv_entry ([.ref h0]) (n := 3) (Nat.le_of_ble_eq_true rfl)
  rw [lg_entry_eq]
  generalize (lg_sl ([.ref h0]) ++ List.replicate (3 - (lg_sl ([.ref h0])).length) Slot.unset).toArray = ls at hl ⊢
  have hl : lv_has ls 3 [(0, .ref h0)] := hl
  have k0 : (0 : Int32).toInt = 0 := by decide
  refine w_gen (A := A) hP (fun H locs hP hS => ?_)
  have k1 : (1 : Int32).toInt = 1 := by decide
  have k11 : (11 : Int32).toInt = 11 := by decide
  have k32 : (32 : Int32).toInt = 32 := by decide
  have k64 : (64 : Int32).toInt = 64 := by decide
  have k65 : (65 : Int32).toInt = 65 := by decide
  have k66 : (66 : Int32).toInt = 66 := by decide
  have k126 : (126 : Int32).toInt = 126 := by decide
  have k127 : (127 : Int32).toInt = 127 := by decide
  have th0_sound := b01 b_h0_sound
  refine lv_aload_n hx hb d_RE_readGlobals_0 rfl (lv_at hl 0 rfl) ?_
  refine va_get (D := (dC, dI)) (ci := 7) (v := .ref aw) (C := R_RE) (T := F_RE) (N := 8) hx hb hts i_RE hown hK hP 0 rfl rfl 0 (by decide) (hts _ kF_RE_15) (fun _ h9 => h9) rfl d_RE_readGlobals_1 ?_
  refine lv_aload_n hx hb d_RE_readGlobals_4 rfl (lv_at hl 0 rfl) ?_
  refine lv_ldc2 hx hb hown (hts _ kL_RE_96) d_RE_readGlobals_5 ?_
  refine lv_topl (fun x1 ex1 => ?_)
  have tx1 : x1.toInt = 20 := by rw [ex1]; decide
  have hPc := hP.sb (wq := (wz_46 h0 aw ac h0_at h0_limit h0_sound h0_codeCount ob h0_openCount aw ab ac aw_typeCount wat wap wag aw_functionCount waf aw_hasMemory aw_pagesLeast aw_pagesMost aw_globalCount wgt wft wfv wgc aw_exportCount wek wei wes wez ab ax ab_length ax cax gax)) [0, 1, 2, 3] rfl
  have hDc := hD.sb (wq := (wz_46 h0 aw ac h0_at h0_limit h0_sound h0_codeCount ob h0_openCount aw ab ac aw_typeCount wat wap wag aw_functionCount waf aw_hasMemory aw_pagesLeast aw_pagesMost aw_globalCount wgt wft wfv wgc aw_exportCount wek wei wes wez ab ax ab_length ax cax gax)) [0, 1, 2, 3] (by decide) rfl
  have hKc := hK.sb (tyq := [(cax, .byte)]) [0] rfl
  have hFc := va_free (wc := (wz_46 h0 aw ac h0_at h0_limit h0_sound h0_codeCount ob h0_openCount aw ab ac aw_typeCount wat wap wag aw_functionCount waf aw_hasMemory aw_pagesLeast aw_pagesMost aw_globalCount wgt wft wfv wgc aw_exportCount wek wei wes wez ab ax ab_length ax cax gax)) hD hS hA [0, 1, 2, 3] rfl
  refine va_calll (va_runV (As := [.long x1]) (rest := [.ref aw]) ⟨hx, hb, hml, hown, hts⟩ (c_RE_readUnsigned l dC dI h0 aw ac ob ab ax H.size cax 8192 h0_at h0_limit h0_sound h0_codeCount h0_openCount ab_length gax [.ref ab, .ref ac, .int aw_typeCount, .ref wat, .ref wap, .ref wag, .int aw_functionCount, .ref waf, .int aw_hasMemory, .long aw_pagesLeast, .long aw_pagesMost, .int aw_globalCount, .ref wgt, .ref wft, .ref wfv, .ref wgc, .int aw_exportCount, .ref wek, .ref wei, .ref wes, .ref wez] rfl rfl b_h0_sound (by (first | (apply Int.le_antisymm <;> omega) | omega)) x1 (by (first | (apply Int.le_antisymm <;> omega) | omega))) (cwV 1 hts (gV kM_RE_64 kV_RE_readUnsigned kS_RE_readUnsigned kI_RE kC_RE_readUnsigned) rfl rfl rfl (by decide +kernel) ⟨Nat.le_of_ble_eq_true rfl, Nat.le_of_ble_eq_true rfl⟩) ⟨fun a U g mk z => by obtain ⟨z0, z1, zP, zK, zD⟩ := z; exact ⟨z0, z1, zP, va_K.moved (u := U) (U := U.calling g mk a) (Vm.Alike.refl U.vm) zK, zD⟩, va_recv hKc hPc (ci := 7) (q0 := 0) rfl rfl, fun U hU hW => ⟨rfl, by rw [hU], va_P.he hU.symm hPc, va_K.moved hW.alike hKc, hDc.weaken (fun _ _ _ _ => trivial)⟩⟩ rfl rfl hl.1 rfl (lv_room (Nat.le_of_ble_eq_true rfl)) d_RE_readGlobals_8 ⟨(Nat.zero_le _), (Nat.zero_le _)⟩) hS (fun q _ h => hFc q h) hFc (fun r2 u t H1 locs ht hvm hw hB hz1 hk1 hS => ?_)
  obtain ⟨n3, n4⟩ := u
  try dsimp only at hw
  obtain ⟨hsn4, tn3⟩ := hw
  have bsn4 := b01 hsn4
  obtain ⟨hP1, hK1, hD1⟩ := hB
  replace hP1 := va_P.he ht hP1
  obtain ⟨hP, hD⟩ := va_join (wr := (wz_56 wgt cwgt gwgt wft cwft gwft wfv cwfv gwfv wgc cwgc gwgc)) (w1 := (wz_46 h0 aw ac n3 h0_limit n4 h0_codeCount ob h0_openCount aw ab ac aw_typeCount wat wap wag aw_functionCount waf aw_hasMemory aw_pagesLeast aw_pagesMost aw_globalCount wgt wft wfv wgc aw_exportCount wek wei wes wez ab ax ab_length ax cax gax)) hP hD [0, 1, 2, 3] [4, 5, 6, 7] rfl rfl (by decide) (by decide) hk1 hFc hP1 hD1
  clear hPc hDc hKc hFc hz1 hk1 hP1 hK1 hD1
  rename Heap => H
  have hP : va_P (dC, dI) cls (wz_57 wgt cwgt gwgt wft cwft gwft wfv cwfv gwfv wgc cwgc gwgc h0 aw ac n3 h0_limit n4 h0_codeCount ob h0_openCount aw ab ac aw_typeCount wat wap wag aw_functionCount waf aw_hasMemory aw_pagesLeast aw_pagesMost aw_globalCount wgt wft wfv wgc aw_exportCount wek wei wes wez ab ax ab_length ax cax gax) H := hP
  have hD : va_D A (wz_57 wgt cwgt gwgt wft cwft gwft wfv cwfv gwfv wgc cwgc gwgc h0 aw ac n3 h0_limit n4 h0_codeCount ob h0_openCount aw ab ac aw_typeCount wat wap wag aw_functionCount waf aw_hasMemory aw_pagesLeast aw_pagesMost aw_globalCount wgt wft wfv wgc aw_exportCount wek wei wes wez ab ax ab_length ax cax gax) := hD
  refine lv_l2i hx hb d_RE_readGlobals_11 rfl ?_
  refine lv_topi (fun x5 ex5 => ?_)
  have tx5 := l2i_t ex5 (by (first | (apply Int.le_antisymm <;> omega) | omega)) (by (first | (apply Int.le_antisymm <;> omega) | omega))
  refine va_put (D := (dC, dI)) (ci := 10) (v := .int x5) (ty := .int) (C := R_WA) (T := F_WA) (N := 21) hx hb hts i_WA t_WA t_WA_ok n_WA hown hK hP hD hS 5 rfl rfl 11 (by decide) (hts _ kF_RE_132) (fun _ h9 => h9) rfl (by decide +kernel) rfl rfl (Nat.le_of_ble_eq_true rfl) d_RE_readGlobals_12 (fun H locs hP hD hS => ?_)
  refine lv_iconst (v := 0) hx hb d_RE_readGlobals_15 (by decide) ?_
  refine lv_istore_n (lv' := [(1, .int 0), (0, .ref h0)]) hx hb d_RE_readGlobals_16 rfl hl (by decide) rfl (fun ls hl => ?_)
  refine w_loop (σ := Int32 × (Nat → Int32) × (Nat → Int64) × (Nat → Int32) × (Nat → Int32) × Int32 × Int32) (fun u H locs ls => match u with | (j17_l1, j17_wft, j17_wfv, j17_wgc, j17_wgt, j17_h0_at, j17_h0_sound) => (0 ≤ j17_l1.toInt ∧ j17_l1.toInt ≤ 20) ∧ (j17_h0_sound = 0 ∨ j17_h0_sound = 1) ∧ (h0_at.toInt ≤ j17_h0_at.toInt ∧ j17_h0_at.toInt ≤ h0_limit.toInt) ∧ (j17_h0_sound.toInt = 1 → n4.toInt = 1) ∧ (j17_l1.toInt ≤ x5.toInt) ∧ (j17_h0_sound.toInt = 1 → rd_G j17_l1.toInt j17_wgt) ∧ va_P (dC, dI) cls (wz_57 wgt cwgt j17_wgt wft cwft j17_wft wfv cwfv j17_wfv wgc cwgc j17_wgc h0 aw ac j17_h0_at h0_limit j17_h0_sound h0_codeCount ob h0_openCount aw ab ac aw_typeCount wat wap wag aw_functionCount waf aw_hasMemory aw_pagesLeast aw_pagesMost x5 wgt wft wfv wgc aw_exportCount wek wei wes wez ab ax ab_length ax cax gax) H ∧ va_D A (wz_57 wgt cwgt j17_wgt wft cwft j17_wft wfv cwfv j17_wfv wgc cwgc j17_wgc h0 aw ac j17_h0_at h0_limit j17_h0_sound h0_codeCount ob h0_openCount aw ab ac aw_typeCount wat wap wag aw_functionCount waf aw_hasMemory aw_pagesLeast aw_pagesMost x5 wgt wft wfv wgc aw_exportCount wek wei wes wez ab ax ab_length ax cax gax) ∧ va_S A s.heap H locs ∧ lv_has ls 3 [(0, .ref h0), (1, .int j17_l1)]) (fun u => match u with | (j17_l1, j17_wft, j17_wfv, j17_wgc, j17_wgt, j17_h0_at, j17_h0_sound) => (x5.toInt - j17_l1.toInt).toNat) ?_ (0, gwft, gwfv, gwgc, gwgt, n3, n4) ⟨by (try dsimp only); (first | (apply Int.le_antisymm <;> omega) | omega), hsn4, by (try dsimp only); (first | (apply Int.le_antisymm <;> omega) | omega), by (try dsimp only); (first | (apply Int.le_antisymm <;> omega) | omega), by (try dsimp only); (first | (apply Int.le_antisymm <;> omega) | omega), fun z g q => absurd q (by (first | (apply Int.le_antisymm <;> omega) | omega)), hP, hD, hS, lv_sub hl [1, 0] rfl⟩
  intro N17 ih17 u H locs ls hN17 hI
  obtain ⟨j17_l1, j17_wft, j17_wfv, j17_wgc, j17_wgt, j17_h0_at, j17_h0_sound⟩ := u
  obtain ⟨b_j17_l1, b_j17_h0_sound, w1, w2, v1, v4, hP, hD, hS, hl⟩ := hI
  have tj17_h0_sound := b01 b_j17_h0_sound
  have hN17 : (x5.toInt - j17_l1.toInt).toNat < N17 + 1 := hN17
  refine lv_iload_n hx hb d_RE_readGlobals_17 rfl (lv_at hl 1 rfl) ?_
  refine lv_aload_n hx hb d_RE_readGlobals_18 rfl (lv_at hl 0 rfl) ?_
  refine va_get (D := (dC, dI)) (ci := 7) (v := .ref aw) (C := R_RE) (T := F_RE) (N := 8) hx hb hts i_RE hown hK hP 4 rfl rfl 0 (by decide) (hts _ kF_RE_15) (fun _ h9 => h9) rfl d_RE_readGlobals_19 ?_
  refine va_get (D := (dC, dI)) (ci := 10) (v := .int x5) (C := R_WA) (T := F_WA) (N := 21) hx hb hts i_WA hown hK hP 5 rfl rfl 11 (by decide) (hts _ kF_RE_132) (fun _ h9 => h9) rfl d_RE_readGlobals_22 ?_
  refine lv_icmp_ge (tgt := 163) hx hb d_RE_readGlobals_25 (by decide) (fun c25 => ?_) (fun c25 => ?_)
  · have q25 := leI c25
    have hP9 := hP.sb (wq := (wz_55 h0 aw ac j17_h0_at h0_limit j17_h0_sound h0_codeCount ob h0_openCount aw ab ac aw_typeCount wat wap wag aw_functionCount waf aw_hasMemory aw_pagesLeast aw_pagesMost x5 wgt wft wfv wgc aw_exportCount wek wei wes wez ab ax ab_length ax cax gax wgt cwgt j17_wgt wft cwft j17_wft wfv cwfv j17_wfv wgc cwgc j17_wgc)) [4, 5, 6, 7, 0, 1, 2, 3] rfl
    have hD9 := hD.sb (wq := (wz_55 h0 aw ac j17_h0_at h0_limit j17_h0_sound h0_codeCount ob h0_openCount aw ab ac aw_typeCount wat wap wag aw_functionCount waf aw_hasMemory aw_pagesLeast aw_pagesMost x5 wgt wft wfv wgc aw_exportCount wek wei wes wez ab ax ab_length ax cax gax wgt cwgt j17_wgt wft cwft j17_wft wfv cwfv j17_wfv wgc cwgc j17_wgc)) [4, 5, 6, 7, 0, 1, 2, 3] (by decide) rfl
    exact W.vret hx hb hr (fun t ht hW => ⟨⟨(j17_wft, j17_wfv, j17_wgc, j17_wgt, x5, j17_h0_at, j17_h0_sound), rfl, ⟨by (try dsimp only); (first | (apply Int.le_antisymm <;> omega) | omega), b_j17_h0_sound, ⟨⟨by (try dsimp only); (first | (apply Int.le_antisymm <;> omega) | omega), by (try dsimp only); (first | (apply Int.le_antisymm <;> omega) | omega)⟩, fun z => by (try dsimp only at z); (first | (apply Int.le_antisymm <;> omega) | omega), fun z g q => v4 z g (by (try dsimp only at q); (try dsimp only at z); (first | (apply Int.le_antisymm <;> omega) | omega))⟩⟩, va_P.he ht.symm hP9, va_K.moved hW.alike hK, hD9⟩, hS.F ht⟩) hS.2.2 d_RE_readGlobals_163
  · have q25 := nleI c25
    refine lv_aload_n hx hb d_RE_readGlobals_28 rfl (lv_at hl 0 rfl) ?_
    refine va_get (D := (dC, dI)) (ci := 7) (v := .int j17_h0_sound) (C := R_RE) (T := F_RE) (N := 8) hx hb hts i_RE hown hK hP 4 rfl rfl 4 (by decide) (hts _ kF_RE_45) (fun _ h9 => h9) rfl d_RE_readGlobals_29 ?_
    refine lv_if_eq (tgt := 163) hx hb d_RE_readGlobals_32 (by decide) (fun c32 => ?_) (fun c32 => ?_)
    · have q32 := eqI c32
      have hP9 := hP.sb (wq := (wz_55 h0 aw ac j17_h0_at h0_limit j17_h0_sound h0_codeCount ob h0_openCount aw ab ac aw_typeCount wat wap wag aw_functionCount waf aw_hasMemory aw_pagesLeast aw_pagesMost x5 wgt wft wfv wgc aw_exportCount wek wei wes wez ab ax ab_length ax cax gax wgt cwgt j17_wgt wft cwft j17_wft wfv cwfv j17_wfv wgc cwgc j17_wgc)) [4, 5, 6, 7, 0, 1, 2, 3] rfl
      have hD9 := hD.sb (wq := (wz_55 h0 aw ac j17_h0_at h0_limit j17_h0_sound h0_codeCount ob h0_openCount aw ab ac aw_typeCount wat wap wag aw_functionCount waf aw_hasMemory aw_pagesLeast aw_pagesMost x5 wgt wft wfv wgc aw_exportCount wek wei wes wez ab ax ab_length ax cax gax wgt cwgt j17_wgt wft cwft j17_wft wfv cwfv j17_wfv wgc cwgc j17_wgc)) [4, 5, 6, 7, 0, 1, 2, 3] (by decide) rfl
      exact W.vret hx hb hr (fun t ht hW => ⟨⟨(j17_wft, j17_wfv, j17_wgc, j17_wgt, x5, j17_h0_at, j17_h0_sound), rfl, ⟨by (try dsimp only); (first | (apply Int.le_antisymm <;> omega) | omega), b_j17_h0_sound, ⟨⟨by (try dsimp only); (first | (apply Int.le_antisymm <;> omega) | omega), by (try dsimp only); (first | (apply Int.le_antisymm <;> omega) | omega)⟩, fun z => by (try dsimp only at z); (first | (apply Int.le_antisymm <;> omega) | omega), fun z g q => v4 z g (by (try dsimp only at q); (try dsimp only at z); (first | (apply Int.le_antisymm <;> omega) | omega))⟩⟩, va_P.he ht.symm hP9, va_K.moved hW.alike hK, hD9⟩, hS.F ht⟩) hS.2.2 d_RE_readGlobals_163
    · have q32 := neI c32
      refine lv_aload_n hx hb d_RE_readGlobals_35 rfl (lv_at hl 0 rfl) ?_
      refine va_get (D := (dC, dI)) (ci := 7) (v := .ref aw) (C := R_RE) (T := F_RE) (N := 8) hx hb hts i_RE hown hK hP 4 rfl rfl 0 (by decide) (hts _ kF_RE_15) (fun _ h9 => h9) rfl d_RE_readGlobals_36 ?_
      refine va_get (D := (dC, dI)) (ci := 10) (v := .ref wgt) (C := R_WA) (T := F_WA) (N := 21) hx hb hts i_WA hown hK hP 5 rfl rfl 12 (by decide) (hts _ kF_RE_135) (fun _ h9 => h9) rfl d_RE_readGlobals_39 ?_
      refine lv_iload_n hx hb d_RE_readGlobals_42 rfl (lv_at hl 1 rfl) ?_
      refine lv_aload_n hx hb d_RE_readGlobals_43 rfl (lv_at hl 0 rfl) ?_
      have hPc := hP.sb (wq := (wz_46 h0 aw ac j17_h0_at h0_limit j17_h0_sound h0_codeCount ob h0_openCount aw ab ac aw_typeCount wat wap wag aw_functionCount waf aw_hasMemory aw_pagesLeast aw_pagesMost x5 wgt wft wfv wgc aw_exportCount wek wei wes wez ab ax ab_length ax cax gax)) [4, 5, 6, 7] rfl
      have hDc := hD.sb (wq := (wz_46 h0 aw ac j17_h0_at h0_limit j17_h0_sound h0_codeCount ob h0_openCount aw ab ac aw_typeCount wat wap wag aw_functionCount waf aw_hasMemory aw_pagesLeast aw_pagesMost x5 wgt wft wfv wgc aw_exportCount wek wei wes wez ab ax ab_length ax cax gax)) [4, 5, 6, 7] (by decide) rfl
      have hKc := hK.sb (tyq := [(cax, .byte)]) [0] rfl
      have hFc := va_free (wc := (wz_46 h0 aw ac j17_h0_at h0_limit j17_h0_sound h0_codeCount ob h0_openCount aw ab ac aw_typeCount wat wap wag aw_functionCount waf aw_hasMemory aw_pagesLeast aw_pagesMost x5 wgt wft wfv wgc aw_exportCount wek wei wes wez ab ax ab_length ax cax gax)) hD hS hA [4, 5, 6, 7] rfl
      refine va_calli (va_runV (As := []) (rest := [.int j17_l1, .ref wgt]) ⟨hx, hb, hml, hown, hts⟩ (c_RE_readType l dC dI h0 aw ac ob ab ax H.size cax 8192 j17_h0_at h0_limit j17_h0_sound h0_codeCount h0_openCount ab_length gax [.ref ab, .ref ac, .int aw_typeCount, .ref wat, .ref wap, .ref wag, .int aw_functionCount, .ref waf, .int aw_hasMemory, .long aw_pagesLeast, .long aw_pagesMost, .int x5, .ref wgt, .ref wft, .ref wfv, .ref wgc, .int aw_exportCount, .ref wek, .ref wei, .ref wes, .ref wez] rfl rfl b_j17_h0_sound (by (first | (apply Int.le_antisymm <;> omega) | omega)) ) (cwV 0 hts (gV kM_RE_109 kV_RE_readType kS_RE_readType kI_RE kC_RE_readType) rfl rfl rfl (by decide +kernel) ⟨Nat.le_of_ble_eq_true rfl, Nat.le_of_ble_eq_true rfl⟩) ⟨fun a U g mk z => by obtain ⟨z0, z1, zP, zK, zD⟩ := z; exact ⟨z0, z1, zP, va_K.moved (u := U) (U := U.calling g mk a) (Vm.Alike.refl U.vm) zK, zD⟩, va_recv hKc hPc (ci := 7) (q0 := 0) rfl rfl, fun U hU hW => ⟨rfl, by rw [hU], va_P.he hU.symm hPc, va_K.moved hW.alike hKc, hDc.weaken (fun _ _ _ _ => trivial)⟩⟩ rfl rfl hl.1 rfl (lv_room (Nat.le_of_ble_eq_true rfl)) d_RE_readGlobals_44 ⟨(Nat.zero_le _), (Nat.zero_le _)⟩) hS (fun q _ h => hFc q h) hFc (fun r6 u t H1 locs ht hvm hw hB hz1 hk1 hS => ?_)
      obtain ⟨n7, n8⟩ := u
      try dsimp only at hw
      obtain ⟨hsn8, tn7⟩ := hw
      have bsn8 := b01 hsn8
      obtain ⟨hP1, hK1, hD1⟩ := hB
      replace hP1 := va_P.he ht hP1
      obtain ⟨hP, hD⟩ := va_join (wr := (wz_56 wgt cwgt j17_wgt wft cwft j17_wft wfv cwfv j17_wfv wgc cwgc j17_wgc)) (w1 := (wz_46 h0 aw ac n7 h0_limit n8 h0_codeCount ob h0_openCount aw ab ac aw_typeCount wat wap wag aw_functionCount waf aw_hasMemory aw_pagesLeast aw_pagesMost x5 wgt wft wfv wgc aw_exportCount wek wei wes wez ab ax ab_length ax cax gax)) hP hD [4, 5, 6, 7] [0, 1, 2, 3] rfl rfl (by decide) (by decide) hk1 hFc hP1 hD1
      clear hPc hDc hKc hFc hz1 hk1 hP1 hK1 hD1
      rename Heap => H
      have hP : va_P (dC, dI) cls (wz_57 wgt cwgt j17_wgt wft cwft j17_wft wfv cwfv j17_wfv wgc cwgc j17_wgc h0 aw ac n7 h0_limit n8 h0_codeCount ob h0_openCount aw ab ac aw_typeCount wat wap wag aw_functionCount waf aw_hasMemory aw_pagesLeast aw_pagesMost x5 wgt wft wfv wgc aw_exportCount wek wei wes wez ab ax ab_length ax cax gax) H := hP
      have hD : va_D A (wz_57 wgt cwgt j17_wgt wft cwft j17_wft wfv cwfv j17_wfv wgc cwgc j17_wgc h0 aw ac n7 h0_limit n8 h0_codeCount ob h0_openCount aw ab ac aw_typeCount wat wap wag aw_functionCount waf aw_hasMemory aw_pagesLeast aw_pagesMost x5 wgt wft wfv wgc aw_exportCount wek wei wes wez ab ax ab_length ax cax gax) := hD
      have g47 : vp_in j17_l1 20 := vp_in_iff.mpr ⟨by (first | (apply Int.le_antisymm <;> omega) | omega), by (first | (apply Int.le_antisymm <;> omega) | omega)⟩
      refine va_iast hx hb hK hP hD hS 0 1 rfl rfl g47 d_RE_readGlobals_47 (fun H locs hP hD hS => ?_)
      generalize ef9 : upd j17_wgt j17_l1.toNatClampNeg r6 = f9 at hP hD
      refine lv_aload_n hx hb d_RE_readGlobals_48 rfl (lv_at hl 0 rfl) ?_
      refine va_get (D := (dC, dI)) (ci := 7) (v := .ref aw) (C := R_RE) (T := F_RE) (N := 8) hx hb hts i_RE hown hK hP 4 rfl rfl 0 (by decide) (hts _ kF_RE_15) (fun _ h9 => h9) rfl d_RE_readGlobals_49 ?_
      refine va_get (D := (dC, dI)) (ci := 10) (v := .ref wgc) (C := R_WA) (T := F_WA) (N := 21) hx hb hts i_WA hown hK hP 5 rfl rfl 15 (by decide) (hts _ kF_RE_138) (fun _ h9 => h9) rfl d_RE_readGlobals_52 ?_
      refine lv_iload_n hx hb d_RE_readGlobals_55 rfl (lv_at hl 1 rfl) ?_
      refine lv_aload_n hx hb d_RE_readGlobals_56 rfl (lv_at hl 0 rfl) ?_
      have hPc := hP.sb (wq := (wz_46 h0 aw ac n7 h0_limit n8 h0_codeCount ob h0_openCount aw ab ac aw_typeCount wat wap wag aw_functionCount waf aw_hasMemory aw_pagesLeast aw_pagesMost x5 wgt wft wfv wgc aw_exportCount wek wei wes wez ab ax ab_length ax cax gax)) [4, 5, 6, 7] rfl
      have hDc := hD.sb (wq := (wz_46 h0 aw ac n7 h0_limit n8 h0_codeCount ob h0_openCount aw ab ac aw_typeCount wat wap wag aw_functionCount waf aw_hasMemory aw_pagesLeast aw_pagesMost x5 wgt wft wfv wgc aw_exportCount wek wei wes wez ab ax ab_length ax cax gax)) [4, 5, 6, 7] (by decide) rfl
      have hKc := hK.sb (tyq := [(cax, .byte)]) [0] rfl
      have hFc := va_free (wc := (wz_46 h0 aw ac n7 h0_limit n8 h0_codeCount ob h0_openCount aw ab ac aw_typeCount wat wap wag aw_functionCount waf aw_hasMemory aw_pagesLeast aw_pagesMost x5 wgt wft wfv wgc aw_exportCount wek wei wes wez ab ax ab_length ax cax gax)) hD hS hA [4, 5, 6, 7] rfl
      refine va_calli (va_runV (As := []) (rest := [.int j17_l1, .ref wgc]) ⟨hx, hb, hml, hown, hts⟩ (c_RE_readFlag l dC dI h0 aw ac ob ab ax H.size cax 8192 n7 h0_limit n8 h0_codeCount h0_openCount ab_length gax [.ref ab, .ref ac, .int aw_typeCount, .ref wat, .ref wap, .ref wag, .int aw_functionCount, .ref waf, .int aw_hasMemory, .long aw_pagesLeast, .long aw_pagesMost, .int x5, .ref wgt, .ref wft, .ref wfv, .ref wgc, .int aw_exportCount, .ref wek, .ref wei, .ref wes, .ref wez] rfl rfl hsn8 (by (first | (apply Int.le_antisymm <;> omega) | omega)) ) (cwV 0 hts (gV kM_RE_118 kV_RE_readFlag kS_RE_readFlag kI_RE kC_RE_readFlag) rfl rfl rfl (by decide +kernel) ⟨Nat.le_of_ble_eq_true rfl, Nat.le_of_ble_eq_true rfl⟩) ⟨fun a U g mk z => by obtain ⟨z0, z1, zP, zK, zD⟩ := z; exact ⟨z0, z1, zP, va_K.moved (u := U) (U := U.calling g mk a) (Vm.Alike.refl U.vm) zK, zD⟩, va_recv hKc hPc (ci := 7) (q0 := 0) rfl rfl, fun U hU hW => ⟨rfl, by rw [hU], va_P.he hU.symm hPc, va_K.moved hW.alike hKc, hDc.weaken (fun _ _ _ _ => trivial)⟩⟩ rfl rfl hl.1 rfl (lv_room (Nat.le_of_ble_eq_true rfl)) d_RE_readGlobals_57 ⟨(Nat.zero_le _), (Nat.zero_le _)⟩) hS (fun q _ h => hFc q h) hFc (fun r10 u t H1 locs ht hvm hw hB hz1 hk1 hS => ?_)
      obtain ⟨n11, n12⟩ := u
      try dsimp only at hw
      obtain ⟨hsn12, tn11⟩ := hw
      have bsn12 := b01 hsn12
      obtain ⟨hP1, hK1, hD1⟩ := hB
      replace hP1 := va_P.he ht hP1
      obtain ⟨hP, hD⟩ := va_join (wr := (wz_56 wgt cwgt f9 wft cwft j17_wft wfv cwfv j17_wfv wgc cwgc j17_wgc)) (w1 := (wz_46 h0 aw ac n11 h0_limit n12 h0_codeCount ob h0_openCount aw ab ac aw_typeCount wat wap wag aw_functionCount waf aw_hasMemory aw_pagesLeast aw_pagesMost x5 wgt wft wfv wgc aw_exportCount wek wei wes wez ab ax ab_length ax cax gax)) hP hD [4, 5, 6, 7] [0, 1, 2, 3] rfl rfl (by decide) (by decide) hk1 hFc hP1 hD1
      clear hPc hDc hKc hFc hz1 hk1 hP1 hK1 hD1
      rename Heap => H
      have hP : va_P (dC, dI) cls (wz_57 wgt cwgt f9 wft cwft j17_wft wfv cwfv j17_wfv wgc cwgc j17_wgc h0 aw ac n11 h0_limit n12 h0_codeCount ob h0_openCount aw ab ac aw_typeCount wat wap wag aw_functionCount waf aw_hasMemory aw_pagesLeast aw_pagesMost x5 wgt wft wfv wgc aw_exportCount wek wei wes wez ab ax ab_length ax cax gax) H := hP
      have hD : va_D A (wz_57 wgt cwgt f9 wft cwft j17_wft wfv cwfv j17_wfv wgc cwgc j17_wgc h0 aw ac n11 h0_limit n12 h0_codeCount ob h0_openCount aw ab ac aw_typeCount wat wap wag aw_functionCount waf aw_hasMemory aw_pagesLeast aw_pagesMost x5 wgt wft wfv wgc aw_exportCount wek wei wes wez ab ax ab_length ax cax gax) := hD
      refine lv_iconst (v := 1) hx hb d_RE_readGlobals_60 (by decide) ?_
      refine w_cut (pc2 := 69) (σ := Int32) (fun u H locs ls => match u with | j69_s0 => (j69_s0 = 0 ∨ j69_s0 = 1) ∧ va_P (dC, dI) cls (wz_57 wgt cwgt f9 wft cwft j17_wft wfv cwfv j17_wfv wgc cwgc j17_wgc h0 aw ac n11 h0_limit n12 h0_codeCount ob h0_openCount aw ab ac aw_typeCount wat wap wag aw_functionCount waf aw_hasMemory aw_pagesLeast aw_pagesMost x5 wgt wft wfv wgc aw_exportCount wek wei wes wez ab ax ab_length ax cax gax) H ∧ va_D A (wz_57 wgt cwgt f9 wft cwft j17_wft wfv cwfv j17_wfv wgc cwgc j17_wgc h0 aw ac n11 h0_limit n12 h0_codeCount ob h0_openCount aw ab ac aw_typeCount wat wap wag aw_functionCount waf aw_hasMemory aw_pagesLeast aw_pagesMost x5 wgt wft wfv wgc aw_exportCount wek wei wes wez ab ax ab_length ax cax gax) ∧ va_S A s.heap H locs ∧ lv_has ls 3 [(0, .ref h0), (1, .int j17_l1)]) (fun u => match u with | j69_s0 => [.int j69_s0, .int j17_l1, .ref wgc]) ?_ (fun jn69 => ?_)
      · intro u H locs ls hI
        obtain ⟨j69_s0, rfl⟩ : ∃ z, z = u := ⟨_, rfl⟩
        obtain ⟨b_j69_s0, hP, hD, hS, hl⟩ := hI
        have tj69_s0 := b01 b_j69_s0
        have g69 : vp_in j17_l1 20 := vp_in_iff.mpr ⟨by (first | (apply Int.le_antisymm <;> omega) | omega), by (first | (apply Int.le_antisymm <;> omega) | omega)⟩
        refine va_zast hx hb hK hP hD hS 3 4 rfl rfl g69 d_RE_readGlobals_69 (fun H locs hP hD hS => ?_)
        generalize ef13 : upd j17_wgc j17_l1.toNatClampNeg (vp_nar .boolean j69_s0) = f13 at hP hD
        refine lv_aload_n hx hb d_RE_readGlobals_70 rfl (lv_at hl 0 rfl) ?_
        have hPc := hP.sb (wq := (wz_46 h0 aw ac n11 h0_limit n12 h0_codeCount ob h0_openCount aw ab ac aw_typeCount wat wap wag aw_functionCount waf aw_hasMemory aw_pagesLeast aw_pagesMost x5 wgt wft wfv wgc aw_exportCount wek wei wes wez ab ax ab_length ax cax gax)) [4, 5, 6, 7] rfl
        have hDc := hD.sb (wq := (wz_46 h0 aw ac n11 h0_limit n12 h0_codeCount ob h0_openCount aw ab ac aw_typeCount wat wap wag aw_functionCount waf aw_hasMemory aw_pagesLeast aw_pagesMost x5 wgt wft wfv wgc aw_exportCount wek wei wes wez ab ax ab_length ax cax gax)) [4, 5, 6, 7] (by decide) rfl
        have hKc := hK.sb (tyq := [(cax, .byte)]) [0] rfl
        have hFc := va_free (wc := (wz_46 h0 aw ac n11 h0_limit n12 h0_codeCount ob h0_openCount aw ab ac aw_typeCount wat wap wag aw_functionCount waf aw_hasMemory aw_pagesLeast aw_pagesMost x5 wgt wft wfv wgc aw_exportCount wek wei wes wez ab ax ab_length ax cax gax)) hD hS hA [4, 5, 6, 7] rfl
        refine va_calli (va_runV (As := []) (rest := []) ⟨hx, hb, hml, hown, hts⟩ (c_RE_next l dC dI h0 aw ac ob ab ax H.size cax 8192 n11 h0_limit n12 h0_codeCount h0_openCount ab_length gax [.ref ab, .ref ac, .int aw_typeCount, .ref wat, .ref wap, .ref wag, .int aw_functionCount, .ref waf, .int aw_hasMemory, .long aw_pagesLeast, .long aw_pagesMost, .int x5, .ref wgt, .ref wft, .ref wfv, .ref wgc, .int aw_exportCount, .ref wek, .ref wei, .ref wes, .ref wez] rfl rfl hsn12 (by (first | (apply Int.le_antisymm <;> omega) | omega)) ) (cwV 0 hts (gV kM_RE_60 kV_RE_next kS_RE_next kI_RE kC_RE_next) rfl rfl rfl (by decide +kernel) ⟨Nat.le_of_ble_eq_true rfl, Nat.le_of_ble_eq_true rfl⟩) ⟨fun a U g mk z => by obtain ⟨z0, z1, zP, zK, zD⟩ := z; exact ⟨z0, z1, zP, va_K.moved (u := U) (U := U.calling g mk a) (Vm.Alike.refl U.vm) zK, zD⟩, va_recv hKc hPc (ci := 7) (q0 := 0) rfl rfl, fun U hU hW => ⟨rfl, by rw [hU], va_P.he hU.symm hPc, va_K.moved hW.alike hKc, hDc.weaken (fun _ _ _ _ => trivial)⟩⟩ rfl rfl hl.1 rfl (lv_room (Nat.le_of_ble_eq_true rfl)) d_RE_readGlobals_71 ⟨(Nat.zero_le _), (Nat.zero_le _)⟩) hS (fun q _ h => hFc q h) hFc (fun r14 u t H1 locs ht hvm hw hB hz1 hk1 hS => ?_)
        obtain ⟨n15, n16⟩ := u
        try dsimp only at hw
        obtain ⟨hsn16, tn15⟩ := hw
        have bsn16 := b01 hsn16
        obtain ⟨hP1, hK1, hD1⟩ := hB
        replace hP1 := va_P.he ht hP1
        obtain ⟨hP, hD⟩ := va_join (wr := (wz_56 wgt cwgt f9 wft cwft j17_wft wfv cwfv j17_wfv wgc cwgc f13)) (w1 := (wz_46 h0 aw ac n15 h0_limit n16 h0_codeCount ob h0_openCount aw ab ac aw_typeCount wat wap wag aw_functionCount waf aw_hasMemory aw_pagesLeast aw_pagesMost x5 wgt wft wfv wgc aw_exportCount wek wei wes wez ab ax ab_length ax cax gax)) hP hD [4, 5, 6, 7] [0, 1, 2, 3] rfl rfl (by decide) (by decide) hk1 hFc hP1 hD1
        clear hPc hDc hKc hFc hz1 hk1 hP1 hK1 hD1
        rename Heap => H
        have hP : va_P (dC, dI) cls (wz_57 wgt cwgt f9 wft cwft j17_wft wfv cwfv j17_wfv wgc cwgc f13 h0 aw ac n15 h0_limit n16 h0_codeCount ob h0_openCount aw ab ac aw_typeCount wat wap wag aw_functionCount waf aw_hasMemory aw_pagesLeast aw_pagesMost x5 wgt wft wfv wgc aw_exportCount wek wei wes wez ab ax ab_length ax cax gax) H := hP
        have hD : va_D A (wz_57 wgt cwgt f9 wft cwft j17_wft wfv cwfv j17_wfv wgc cwgc f13 h0 aw ac n15 h0_limit n16 h0_codeCount ob h0_openCount aw ab ac aw_typeCount wat wap wag aw_functionCount waf aw_hasMemory aw_pagesLeast aw_pagesMost x5 wgt wft wfv wgc aw_exportCount wek wei wes wez ab ax ab_length ax cax gax) := hD
        refine lv_istore_n (lv' := [(2, .int r14), (0, .ref h0), (1, .int j17_l1)]) hx hb d_RE_readGlobals_74 rfl hl (by decide) rfl (fun ls hl => ?_)
        refine lv_aload_n hx hb d_RE_readGlobals_75 rfl (lv_at hl 1 rfl) ?_
        refine lv_aload_n hx hb d_RE_readGlobals_76 rfl (lv_at hl 1 rfl) ?_
        refine va_get (D := (dC, dI)) (ci := 7) (v := .int n16) (C := R_RE) (T := F_RE) (N := 8) hx hb hts i_RE hown hK hP 4 rfl rfl 4 (by decide) (hts _ kF_RE_45) (fun _ h9 => h9) rfl d_RE_readGlobals_77 ?_
        refine w_cut (pc2 := 100) (σ := Int32) (fun u H locs ls => match u with | j100_s0 => (j100_s0 = 0 ∨ j100_s0 = 1) ∧ (j100_s0.toInt = 1 → n16.toInt = 1) ∧ va_P (dC, dI) cls (wz_57 wgt cwgt f9 wft cwft j17_wft wfv cwfv j17_wfv wgc cwgc f13 h0 aw ac n15 h0_limit n16 h0_codeCount ob h0_openCount aw ab ac aw_typeCount wat wap wag aw_functionCount waf aw_hasMemory aw_pagesLeast aw_pagesMost x5 wgt wft wfv wgc aw_exportCount wek wei wes wez ab ax ab_length ax cax gax) H ∧ va_D A (wz_57 wgt cwgt f9 wft cwft j17_wft wfv cwfv j17_wfv wgc cwgc f13 h0 aw ac n15 h0_limit n16 h0_codeCount ob h0_openCount aw ab ac aw_typeCount wat wap wag aw_functionCount waf aw_hasMemory aw_pagesLeast aw_pagesMost x5 wgt wft wfv wgc aw_exportCount wek wei wes wez ab ax ab_length ax cax gax) ∧ va_S A s.heap H locs ∧ lv_has ls 3 [(0, .ref h0), (1, .int j17_l1), (2, .int r14)]) (fun u => match u with | j100_s0 => [.int j100_s0, .ref h0]) ?_ (fun jn100 => ?_)
        · intro u H locs ls hI
          obtain ⟨j100_s0, rfl⟩ : ∃ z, z = u := ⟨_, rfl⟩
          obtain ⟨b_j100_s0, x0, hP, hD, hS, hl⟩ := hI
          have tj100_s0 := b01 b_j100_s0
          refine va_put (D := (dC, dI)) (ci := 7) (v := .int j100_s0) (ty := .boolean) (C := R_RE) (T := F_RE) (N := 8) hx hb hts i_RE t_RE t_RE_ok n_RE hown hK hP hD hS 4 rfl rfl 4 (by decide) (hts _ kF_RE_45) (fun _ h9 => h9) rfl (by decide +kernel) (zn01 (b_j100_s0)) (fz01 (b_j100_s0)) (Nat.le_of_ble_eq_true rfl) d_RE_readGlobals_100 (fun H locs hP hD hS => ?_)
          refine lv_aload_n hx hb d_RE_readGlobals_103 rfl (lv_at hl 0 rfl) ?_
          refine va_get (D := (dC, dI)) (ci := 7) (v := .ref aw) (C := R_RE) (T := F_RE) (N := 8) hx hb hts i_RE hown hK hP 4 rfl rfl 0 (by decide) (hts _ kF_RE_15) (fun _ h9 => h9) rfl d_RE_readGlobals_104 ?_
          refine va_get (D := (dC, dI)) (ci := 10) (v := .ref wft) (C := R_WA) (T := F_WA) (N := 21) hx hb hts i_WA hown hK hP 5 rfl rfl 13 (by decide) (hts _ kF_RE_142) (fun _ h9 => h9) rfl d_RE_readGlobals_107 ?_
          refine lv_iload_n hx hb d_RE_readGlobals_110 rfl (lv_at hl 1 rfl) ?_
          refine lv_iload_n hx hb d_RE_readGlobals_111 rfl (lv_at hl 2 rfl) ?_
          refine lv_bipush (v := 65) hx hb d_RE_readGlobals_112 (by decide) ?_
          refine w_cut (pc2 := 124) (σ := Int32) (fun u H locs ls => match u with | j124_s0 => va_P (dC, dI) cls (wz_57 wgt cwgt f9 wft cwft j17_wft wfv cwfv j17_wfv wgc cwgc f13 h0 aw ac n15 h0_limit j100_s0 h0_codeCount ob h0_openCount aw ab ac aw_typeCount wat wap wag aw_functionCount waf aw_hasMemory aw_pagesLeast aw_pagesMost x5 wgt wft wfv wgc aw_exportCount wek wei wes wez ab ax ab_length ax cax gax) H ∧ va_D A (wz_57 wgt cwgt f9 wft cwft j17_wft wfv cwfv j17_wfv wgc cwgc f13 h0 aw ac n15 h0_limit j100_s0 h0_codeCount ob h0_openCount aw ab ac aw_typeCount wat wap wag aw_functionCount waf aw_hasMemory aw_pagesLeast aw_pagesMost x5 wgt wft wfv wgc aw_exportCount wek wei wes wez ab ax ab_length ax cax gax) ∧ va_S A s.heap H locs ∧ lv_has ls 3 [(0, .ref h0), (1, .int j17_l1), (2, .int r14)]) (fun u => match u with | j124_s0 => [.int j124_s0, .int j17_l1, .ref wft]) ?_ (fun jn124 => ?_)
          · intro u H locs ls hI
            obtain ⟨j124_s0, rfl⟩ : ∃ z, z = u := ⟨_, rfl⟩
            obtain ⟨hP, hD, hS, hl⟩ := hI
            have g124 : vp_in j17_l1 20 := vp_in_iff.mpr ⟨by (first | (apply Int.le_antisymm <;> omega) | omega), by (first | (apply Int.le_antisymm <;> omega) | omega)⟩
            refine va_iast hx hb hK hP hD hS 1 2 rfl rfl g124 d_RE_readGlobals_124 (fun H locs hP hD hS => ?_)
            generalize ef17 : upd j17_wft j17_l1.toNatClampNeg j124_s0 = f17 at hP hD
            refine lv_aload_n hx hb d_RE_readGlobals_125 rfl (lv_at hl 0 rfl) ?_
            refine va_get (D := (dC, dI)) (ci := 7) (v := .ref aw) (C := R_RE) (T := F_RE) (N := 8) hx hb hts i_RE hown hK hP 4 rfl rfl 0 (by decide) (hts _ kF_RE_15) (fun _ h9 => h9) rfl d_RE_readGlobals_126 ?_
            refine va_get (D := (dC, dI)) (ci := 10) (v := .ref wfv) (C := R_WA) (T := F_WA) (N := 21) hx hb hts i_WA hown hK hP 5 rfl rfl 14 (by decide) (hts _ kF_RE_145) (fun _ h9 => h9) rfl d_RE_readGlobals_129 ?_
            refine lv_iload_n hx hb d_RE_readGlobals_132 rfl (lv_at hl 1 rfl) ?_
            refine lv_aload_n hx hb d_RE_readGlobals_133 rfl (lv_at hl 0 rfl) ?_
            refine lv_iload_n hx hb d_RE_readGlobals_134 rfl (lv_at hl 2 rfl) ?_
            refine lv_bipush (v := 65) hx hb d_RE_readGlobals_135 (by decide) ?_
            refine w_cut (pc2 := 147) (σ := Int32) (fun u H locs ls => match u with | j147_s0 => (32 ≤ j147_s0.toInt ∧ j147_s0.toInt ≤ 64) ∧ va_P (dC, dI) cls (wz_57 wgt cwgt f9 wft cwft f17 wfv cwfv j17_wfv wgc cwgc f13 h0 aw ac n15 h0_limit j100_s0 h0_codeCount ob h0_openCount aw ab ac aw_typeCount wat wap wag aw_functionCount waf aw_hasMemory aw_pagesLeast aw_pagesMost x5 wgt wft wfv wgc aw_exportCount wek wei wes wez ab ax ab_length ax cax gax) H ∧ va_D A (wz_57 wgt cwgt f9 wft cwft f17 wfv cwfv j17_wfv wgc cwgc f13 h0 aw ac n15 h0_limit j100_s0 h0_codeCount ob h0_openCount aw ab ac aw_typeCount wat wap wag aw_functionCount waf aw_hasMemory aw_pagesLeast aw_pagesMost x5 wgt wft wfv wgc aw_exportCount wek wei wes wez ab ax ab_length ax cax gax) ∧ va_S A s.heap H locs ∧ lv_has ls 3 [(0, .ref h0), (1, .int j17_l1)]) (fun u => match u with | j147_s0 => [.int j147_s0, .ref h0, .int j17_l1, .ref wfv]) ?_ (fun jn147 => ?_)
            · intro u H locs ls hI
              obtain ⟨j147_s0, rfl⟩ : ∃ z, z = u := ⟨_, rfl⟩
              obtain ⟨b_j147_s0, hP, hD, hS, hl⟩ := hI
              have hPc := hP.sb (wq := (wz_46 h0 aw ac n15 h0_limit j100_s0 h0_codeCount ob h0_openCount aw ab ac aw_typeCount wat wap wag aw_functionCount waf aw_hasMemory aw_pagesLeast aw_pagesMost x5 wgt wft wfv wgc aw_exportCount wek wei wes wez ab ax ab_length ax cax gax)) [4, 5, 6, 7] rfl
              have hDc := hD.sb (wq := (wz_46 h0 aw ac n15 h0_limit j100_s0 h0_codeCount ob h0_openCount aw ab ac aw_typeCount wat wap wag aw_functionCount waf aw_hasMemory aw_pagesLeast aw_pagesMost x5 wgt wft wfv wgc aw_exportCount wek wei wes wez ab ax ab_length ax cax gax)) [4, 5, 6, 7] (by decide) rfl
              have hKc := hK.sb (tyq := [(cax, .byte)]) [0] rfl
              have hFc := va_free (wc := (wz_46 h0 aw ac n15 h0_limit j100_s0 h0_codeCount ob h0_openCount aw ab ac aw_typeCount wat wap wag aw_functionCount waf aw_hasMemory aw_pagesLeast aw_pagesMost x5 wgt wft wfv wgc aw_exportCount wek wei wes wez ab ax ab_length ax cax gax)) hD hS hA [4, 5, 6, 7] rfl
              refine va_calll (va_runV (As := [.int j147_s0]) (rest := [.int j17_l1, .ref wfv]) ⟨hx, hb, hml, hown, hts⟩ (c_RE_readSigned l dC dI h0 aw ac ob ab ax H.size cax 8192 n15 h0_limit j100_s0 h0_codeCount h0_openCount ab_length gax [.ref ab, .ref ac, .int aw_typeCount, .ref wat, .ref wap, .ref wag, .int aw_functionCount, .ref waf, .int aw_hasMemory, .long aw_pagesLeast, .long aw_pagesMost, .int x5, .ref wgt, .ref wft, .ref wfv, .ref wgc, .int aw_exportCount, .ref wek, .ref wei, .ref wes, .ref wez] rfl rfl b_j100_s0 (by (first | (apply Int.le_antisymm <;> omega) | omega)) j147_s0 (by (first | (apply Int.le_antisymm <;> omega) | omega))) (cwV 1 hts (gV kM_RE_149 kV_RE_readSigned kS_RE_readSigned kI_RE kC_RE_readSigned) rfl rfl rfl (by decide +kernel) ⟨Nat.le_of_ble_eq_true rfl, Nat.le_of_ble_eq_true rfl⟩) ⟨fun a U g mk z => by obtain ⟨z0, z1, zP, zK, zD⟩ := z; exact ⟨z0, z1, zP, va_K.moved (u := U) (U := U.calling g mk a) (Vm.Alike.refl U.vm) zK, zD⟩, va_recv hKc hPc (ci := 7) (q0 := 0) rfl rfl, fun U hU hW => ⟨rfl, by rw [hU], va_P.he hU.symm hPc, va_K.moved hW.alike hKc, hDc.weaken (fun _ _ _ _ => trivial)⟩⟩ rfl rfl hl.1 rfl (lv_room (Nat.le_of_ble_eq_true rfl)) d_RE_readGlobals_147 ⟨(Nat.zero_le _), (Nat.zero_le _)⟩) hS (fun q _ h => hFc q h) hFc (fun r18 u t H1 locs ht hvm hw hB hz1 hk1 hS => ?_)
              obtain ⟨n19, n20⟩ := u
              try dsimp only at hw
              obtain ⟨hsn20, tn19⟩ := hw
              have bsn20 := b01 hsn20
              obtain ⟨hP1, hK1, hD1⟩ := hB
              replace hP1 := va_P.he ht hP1
              obtain ⟨hP, hD⟩ := va_join (wr := (wz_56 wgt cwgt f9 wft cwft f17 wfv cwfv j17_wfv wgc cwgc f13)) (w1 := (wz_46 h0 aw ac n19 h0_limit n20 h0_codeCount ob h0_openCount aw ab ac aw_typeCount wat wap wag aw_functionCount waf aw_hasMemory aw_pagesLeast aw_pagesMost x5 wgt wft wfv wgc aw_exportCount wek wei wes wez ab ax ab_length ax cax gax)) hP hD [4, 5, 6, 7] [0, 1, 2, 3] rfl rfl (by decide) (by decide) hk1 hFc hP1 hD1
              clear hPc hDc hKc hFc hz1 hk1 hP1 hK1 hD1
              rename Heap => H
              have hP : va_P (dC, dI) cls (wz_57 wgt cwgt f9 wft cwft f17 wfv cwfv j17_wfv wgc cwgc f13 h0 aw ac n19 h0_limit n20 h0_codeCount ob h0_openCount aw ab ac aw_typeCount wat wap wag aw_functionCount waf aw_hasMemory aw_pagesLeast aw_pagesMost x5 wgt wft wfv wgc aw_exportCount wek wei wes wez ab ax ab_length ax cax gax) H := hP
              have hD : va_D A (wz_57 wgt cwgt f9 wft cwft f17 wfv cwfv j17_wfv wgc cwgc f13 h0 aw ac n19 h0_limit n20 h0_codeCount ob h0_openCount aw ab ac aw_typeCount wat wap wag aw_functionCount waf aw_hasMemory aw_pagesLeast aw_pagesMost x5 wgt wft wfv wgc aw_exportCount wek wei wes wez ab ax ab_length ax cax gax) := hD
              have g150 : vp_in j17_l1 20 := vp_in_iff.mpr ⟨by (first | (apply Int.le_antisymm <;> omega) | omega), by (first | (apply Int.le_antisymm <;> omega) | omega)⟩
              refine va_last hx hb hK hP hD hS 2 3 rfl rfl g150 d_RE_readGlobals_150 (fun H locs hP hD hS => ?_)
              generalize ef21 : vp_updL j17_wfv j17_l1.toNatClampNeg r18 = f21 at hP hD
              refine lv_aload_n hx hb d_RE_readGlobals_151 rfl (lv_at hl 0 rfl) ?_
              refine lv_bipush (v := 11) hx hb d_RE_readGlobals_152 (by decide) ?_
              have hPc := hP.sb (wq := (wz_46 h0 aw ac n19 h0_limit n20 h0_codeCount ob h0_openCount aw ab ac aw_typeCount wat wap wag aw_functionCount waf aw_hasMemory aw_pagesLeast aw_pagesMost x5 wgt wft wfv wgc aw_exportCount wek wei wes wez ab ax ab_length ax cax gax)) [4, 5, 6, 7] rfl
              have hDc := hD.sb (wq := (wz_46 h0 aw ac n19 h0_limit n20 h0_codeCount ob h0_openCount aw ab ac aw_typeCount wat wap wag aw_functionCount waf aw_hasMemory aw_pagesLeast aw_pagesMost x5 wgt wft wfv wgc aw_exportCount wek wei wes wez ab ax ab_length ax cax gax)) [4, 5, 6, 7] (by decide) rfl
              have hKc := hK.sb (tyq := [(cax, .byte)]) [0] rfl
              have hFc := va_free (wc := (wz_46 h0 aw ac n19 h0_limit n20 h0_codeCount ob h0_openCount aw ab ac aw_typeCount wat wap wag aw_functionCount waf aw_hasMemory aw_pagesLeast aw_pagesMost x5 wgt wft wfv wgc aw_exportCount wek wei wes wez ab ax ab_length ax cax gax)) hD hS hA [4, 5, 6, 7] rfl
              refine va_callv (va_runV (As := [.int 11]) (rest := []) ⟨hx, hb, hml, hown, hts⟩ (c_RE_expect l dC dI h0 aw ac ob ab ax H.size cax 8192 n19 h0_limit n20 h0_codeCount h0_openCount ab_length gax [.ref ab, .ref ac, .int aw_typeCount, .ref wat, .ref wap, .ref wag, .int aw_functionCount, .ref waf, .int aw_hasMemory, .long aw_pagesLeast, .long aw_pagesMost, .int x5, .ref wgt, .ref wft, .ref wfv, .ref wgc, .int aw_exportCount, .ref wek, .ref wei, .ref wes, .ref wez] rfl rfl hsn20 (by (first | (apply Int.le_antisymm <;> omega) | omega)) 11) (cwV 1 hts (gV kM_RE_56 kV_RE_expect kS_RE_expect kI_RE kC_RE_expect) rfl rfl rfl (by decide +kernel) ⟨Nat.le_of_ble_eq_true rfl, Nat.le_of_ble_eq_true rfl⟩) ⟨fun a U g mk z => by obtain ⟨z0, z1, zP, zK, zD⟩ := z; exact ⟨z0, z1, zP, va_K.moved (u := U) (U := U.calling g mk a) (Vm.Alike.refl U.vm) zK, zD⟩, va_recv hKc hPc (ci := 7) (q0 := 0) rfl rfl, fun U hU hW => ⟨rfl, by rw [hU], va_P.he hU.symm hPc, va_K.moved hW.alike hKc, hDc.weaken (fun _ _ _ _ => trivial)⟩⟩ rfl rfl hl.1 rfl (lv_room (Nat.le_of_ble_eq_true rfl)) d_RE_readGlobals_154 ⟨(Nat.zero_le _), (Nat.zero_le _)⟩) hS (fun q _ h => hFc q h) hFc (fun u t H1 locs ht hvm hw hB hz1 hk1 hS => ?_)
              obtain ⟨n23, n24⟩ := u
              try dsimp only at hw
              obtain ⟨hsn24, tn23⟩ := hw
              have bsn24 := b01 hsn24
              obtain ⟨hP1, hK1, hD1⟩ := hB
              replace hP1 := va_P.he ht hP1
              obtain ⟨hP, hD⟩ := va_join (wr := (wz_56 wgt cwgt f9 wft cwft f17 wfv cwfv f21 wgc cwgc f13)) (w1 := (wz_46 h0 aw ac n23 h0_limit n24 h0_codeCount ob h0_openCount aw ab ac aw_typeCount wat wap wag aw_functionCount waf aw_hasMemory aw_pagesLeast aw_pagesMost x5 wgt wft wfv wgc aw_exportCount wek wei wes wez ab ax ab_length ax cax gax)) hP hD [4, 5, 6, 7] [0, 1, 2, 3] rfl rfl (by decide) (by decide) hk1 hFc hP1 hD1
              clear hPc hDc hKc hFc hz1 hk1 hP1 hK1 hD1
              rename Heap => H
              have hP : va_P (dC, dI) cls (wz_57 wgt cwgt f9 wft cwft f17 wfv cwfv f21 wgc cwgc f13 h0 aw ac n23 h0_limit n24 h0_codeCount ob h0_openCount aw ab ac aw_typeCount wat wap wag aw_functionCount waf aw_hasMemory aw_pagesLeast aw_pagesMost x5 wgt wft wfv wgc aw_exportCount wek wei wes wez ab ax ab_length ax cax gax) H := hP
              have hD : va_D A (wz_57 wgt cwgt f9 wft cwft f17 wfv cwfv f21 wgc cwgc f13 h0 aw ac n23 h0_limit n24 h0_codeCount ob h0_openCount aw ab ac aw_typeCount wat wap wag aw_functionCount waf aw_hasMemory aw_pagesLeast aw_pagesMost x5 wgt wft wfv wgc aw_exportCount wek wei wes wez ab ax ab_length ax cax gax) := hD
              obtain ⟨x25, ex25⟩ : ∃ z : Int32, z = j17_l1 + 1 := ⟨_, rfl⟩
              have tx25 : x25.toInt = j17_l1.toInt + 1 := by have z := i32_add ex25 (by (first | (apply Int.le_antisymm <;> omega) | omega)) (by (first | (apply Int.le_antisymm <;> omega) | omega)); first | exact z | (first | (apply Int.le_antisymm <;> omega) | omega)
              refine lv_iinc (v := x25) (lv' := [(1, .int x25), (0, .ref h0)]) hx hb d_RE_readGlobals_157 hl (k := 1) rfl (by rw [ex25]; rfl) (by decide) rfl (fun ls hl => ?_)
              refine lv_goto (tgt := 17) hx hb d_RE_readGlobals_160 (by decide) ?_
              have c9 := i32_clamp (x := j17_l1) (by (first | (apply Int.le_antisymm <;> omega) | omega))
              exact ih17 (x25, f17, f21, f13, f9, n23, n24) _ _ _ (by show (x5.toInt - x25.toInt).toNat < N17; (first | (apply Int.le_antisymm <;> omega) | omega)) ⟨by (try dsimp only); (first | (apply Int.le_antisymm <;> omega) | omega), hsn24, by (try dsimp only); (first | (apply Int.le_antisymm <;> omega) | omega), by (try dsimp only); (first | (apply Int.le_antisymm <;> omega) | omega), by (try dsimp only); (first | (apply Int.le_antisymm <;> omega) | omega), fun z => by rw [← ef9]; exact upd_all (Q := fun v => v.toInt = 127 ∨ v.toInt = 126) (P := fun g => (g : Int) < j17_l1.toInt) (v4 (by (first | (apply Int.le_antisymm <;> omega) | omega))) (tn7.2.2.2.2 (by (first | (apply Int.le_antisymm <;> omega) | omega))).2.2.1 (fun g q => by (try dsimp only at q); by_cases y : g = j17_l1.toNatClampNeg; exact Or.inl y; exact Or.inr (by (try dsimp only); (first | (apply Int.le_antisymm <;> omega) | omega))), hP, hD, hS, lv_sub hl [1, 0] rfl⟩
            · skip
              refine lv_icmp_ne (tgt := 145) hx hb d_RE_readGlobals_137 (by decide) (fun c137 => ?_) (fun c137 => ?_)
              · have q137 := neI c137
                refine lv_bipush (v := 64) hx hb d_RE_readGlobals_145 (by decide) ?_
                exact jn147 64 _ _ _ ⟨by (try dsimp only); (first | (apply Int.le_antisymm <;> omega) | omega), hP, hD, hS, lv_sub hl [0, 1] rfl⟩
              · have q137 := eqI c137
                refine lv_bipush (v := 32) hx hb d_RE_readGlobals_140 (by decide) ?_
                refine lv_goto (tgt := 147) hx hb d_RE_readGlobals_142 (by decide) ?_
                exact jn147 32 _ _ _ ⟨by (try dsimp only); (first | (apply Int.le_antisymm <;> omega) | omega), hP, hD, hS, lv_sub hl [0, 1] rfl⟩
          · skip
            refine lv_icmp_ne (tgt := 122) hx hb d_RE_readGlobals_114 (by decide) (fun c114 => ?_) (fun c114 => ?_)
            · have q114 := neI c114
              refine lv_bipush (v := 126) hx hb d_RE_readGlobals_122 (by decide) ?_
              exact jn124 126 _ _ _ ⟨hP, hD, hS, lv_sub hl [0, 1, 2] rfl⟩
            · have q114 := eqI c114
              refine lv_bipush (v := 127) hx hb d_RE_readGlobals_117 (by decide) ?_
              refine lv_goto (tgt := 124) hx hb d_RE_readGlobals_119 (by decide) ?_
              exact jn124 127 _ _ _ ⟨hP, hD, hS, lv_sub hl [0, 1, 2] rfl⟩
        · skip
          refine w_cut (pc2 := 99) (σ := Unit) (fun u H locs ls => match u with | _ => va_P (dC, dI) cls (wz_57 wgt cwgt f9 wft cwft j17_wft wfv cwfv j17_wfv wgc cwgc f13 h0 aw ac n15 h0_limit n16 h0_codeCount ob h0_openCount aw ab ac aw_typeCount wat wap wag aw_functionCount waf aw_hasMemory aw_pagesLeast aw_pagesMost x5 wgt wft wfv wgc aw_exportCount wek wei wes wez ab ax ab_length ax cax gax) H ∧ va_D A (wz_57 wgt cwgt f9 wft cwft j17_wft wfv cwfv j17_wfv wgc cwgc f13 h0 aw ac n15 h0_limit n16 h0_codeCount ob h0_openCount aw ab ac aw_typeCount wat wap wag aw_functionCount waf aw_hasMemory aw_pagesLeast aw_pagesMost x5 wgt wft wfv wgc aw_exportCount wek wei wes wez ab ax ab_length ax cax gax) ∧ va_S A s.heap H locs ∧ lv_has ls 3 [(0, .ref h0), (1, .int j17_l1), (2, .int r14)]) (fun u => match u with | _ => [.ref h0]) ?_ (fun jn99 => ?_)
          · intro u H locs ls hI
            obtain ⟨hP, hD, hS, hl⟩ := hI
            refine lv_iconst (v := 0) hx hb d_RE_readGlobals_99 (by decide) ?_
            exact jn100 0 _ _ _ ⟨Or.inl rfl, by (try dsimp only); (first | (apply Int.le_antisymm <;> omega) | omega), hP, hD, hS, lv_sub hl [0, 1, 2] rfl⟩
          · skip
            refine lv_if_eq (tgt := 99) hx hb d_RE_readGlobals_80 (by decide) (fun c80 => ?_) (fun c80 => ?_)
            · have q80 := eqI c80
              exact jn99 () _ _ _ ⟨hP, hD, hS, lv_sub hl [1, 2, 0] rfl⟩
            · have q80 := neI c80
              refine lv_iload_n hx hb d_RE_readGlobals_83 rfl (lv_at hl 0 rfl) ?_
              refine lv_bipush (v := 65) hx hb d_RE_readGlobals_84 (by decide) ?_
              refine w_cut (pc2 := 95) (σ := Unit) (fun u H locs ls => match u with | _ => va_P (dC, dI) cls (wz_57 wgt cwgt f9 wft cwft j17_wft wfv cwfv j17_wfv wgc cwgc f13 h0 aw ac n15 h0_limit n16 h0_codeCount ob h0_openCount aw ab ac aw_typeCount wat wap wag aw_functionCount waf aw_hasMemory aw_pagesLeast aw_pagesMost x5 wgt wft wfv wgc aw_exportCount wek wei wes wez ab ax ab_length ax cax gax) H ∧ va_D A (wz_57 wgt cwgt f9 wft cwft j17_wft wfv cwfv j17_wfv wgc cwgc f13 h0 aw ac n15 h0_limit n16 h0_codeCount ob h0_openCount aw ab ac aw_typeCount wat wap wag aw_functionCount waf aw_hasMemory aw_pagesLeast aw_pagesMost x5 wgt wft wfv wgc aw_exportCount wek wei wes wez ab ax ab_length ax cax gax) ∧ va_S A s.heap H locs ∧ lv_has ls 3 [(0, .ref h0), (1, .int j17_l1), (2, .int r14)]) (fun u => match u with | _ => [.ref h0]) ?_ (fun jn95 => ?_)
              · intro u H locs ls hI
                obtain ⟨hP, hD, hS, hl⟩ := hI
                refine lv_iconst (v := 1) hx hb d_RE_readGlobals_95 (by decide) ?_
                refine lv_goto (tgt := 100) hx hb d_RE_readGlobals_96 (by decide) ?_
                exact jn100 1 _ _ _ ⟨Or.inr rfl, by (try dsimp only); (first | (apply Int.le_antisymm <;> omega) | omega), hP, hD, hS, lv_sub hl [0, 1, 2] rfl⟩
              · skip
                refine lv_icmp_eq (tgt := 95) hx hb d_RE_readGlobals_86 (by decide) (fun c86 => ?_) (fun c86 => ?_)
                · have q86 := eqI c86
                  exact jn95 () _ _ _ ⟨hP, hD, hS, lv_sub hl [1, 2, 0] rfl⟩
                · have q86 := neI c86
                  refine lv_iload_n hx hb d_RE_readGlobals_89 rfl (lv_at hl 0 rfl) ?_
                  refine lv_bipush (v := 66) hx hb d_RE_readGlobals_90 (by decide) ?_
                  refine lv_icmp_ne (tgt := 99) hx hb d_RE_readGlobals_92 (by decide) (fun c92 => ?_) (fun c92 => ?_)
                  · have q92 := neI c92
                    exact jn99 () _ _ _ ⟨hP, hD, hS, lv_sub hl [1, 2, 0] rfl⟩
                  · have q92 := eqI c92
                    exact jn95 () _ _ _ ⟨hP, hD, hS, lv_sub hl [1, 2, 0] rfl⟩
      · skip
        refine lv_icmp_ne (tgt := 68) hx hb d_RE_readGlobals_61 (by decide) (fun c61 => ?_) (fun c61 => ?_)
        · have q61 := neI c61
          refine lv_iconst (v := 0) hx hb d_RE_readGlobals_68 (by decide) ?_
          exact jn69 0 _ _ _ ⟨Or.inl rfl, hP, hD, hS, lv_sub hl [0, 1] rfl⟩
        · have q61 := eqI c61
          refine lv_iconst (v := 1) hx hb d_RE_readGlobals_64 (by decide) ?_
          refine lv_goto (tgt := 69) hx hb d_RE_readGlobals_65 (by decide) ?_
          exact jn69 1 _ _ _ ⟨Or.inr rfl, hP, hD, hS, lv_sub hl [0, 1] rfl⟩
abbrev b_RE_readExports : ByteArray := prog_9_method_7_code
def y_RE_readExports : MethodName := ⟨R_RE, "readExports", "()V"⟩
abbrev w_RE_readExports : List Cond := .code y_RE_readExports b_RE_readExports 4 none :: lw_g
theorem kC_RE_readExports : Cond.code y_RE_readExports b_RE_readExports 4 none ∈ lw_g := in_c6 126 rfl rfl
theorem d_RE_readExports_0 : decode b_RE_readExports 0 = .ok (.aload_n 0, 1) := bz_c42 (by decide +kernel)
theorem d_RE_readExports_1 : decode b_RE_readExports 1 = .ok (.getfield 15, 3) := bz_c180 (by decide +kernel)
theorem d_RE_readExports_4 : decode b_RE_readExports 4 = .ok (.aload_n 0, 1) := bz_c42 (by decide +kernel)
theorem d_RE_readExports_5 : decode b_RE_readExports 5 = .ok (.ldc2_w 153, 3) := bz_c20 (by decide +kernel)
theorem d_RE_readExports_8 : decode b_RE_readExports 8 = .ok (.invokevirtual 64, 3) := bz_c182 (by decide +kernel)
theorem d_RE_readExports_11 : decode b_RE_readExports 11 = .ok (.l2i, 1) := bz_c136 (by decide +kernel)
theorem d_RE_readExports_12 : decode b_RE_readExports 12 = .ok (.putfield 155, 3) := bz_c181 (by decide +kernel)
theorem d_RE_readExports_15 : decode b_RE_readExports 15 = .ok (.iconst 0, 1) := bz_c3 (by decide +kernel)
theorem d_RE_readExports_16 : decode b_RE_readExports 16 = .ok (.istore_n 1, 1) := bz_c60 (by decide +kernel)
theorem d_RE_readExports_17 : decode b_RE_readExports 17 = .ok (.iload_n 1, 1) := bz_c27 (by decide +kernel)
theorem d_RE_readExports_18 : decode b_RE_readExports 18 = .ok (.aload_n 0, 1) := bz_c42 (by decide +kernel)
theorem d_RE_readExports_19 : decode b_RE_readExports 19 = .ok (.getfield 15, 3) := bz_c180 (by decide +kernel)
theorem d_RE_readExports_22 : decode b_RE_readExports 22 = .ok (.getfield 155, 3) := bz_c180 (by decide +kernel)
theorem d_RE_readExports_25 : decode b_RE_readExports 25 = .ok (.if_icmp .ge 128, 3) := bz_c162 (by decide +kernel)
theorem d_RE_readExports_28 : decode b_RE_readExports 28 = .ok (.aload_n 0, 1) := bz_c42 (by decide +kernel)
theorem d_RE_readExports_29 : decode b_RE_readExports 29 = .ok (.getfield 45, 3) := bz_c180 (by decide +kernel)
theorem d_RE_readExports_32 : decode b_RE_readExports 32 = .ok (.ifCond .eq 121, 3) := bz_c153 (by decide +kernel)
theorem d_RE_readExports_35 : decode b_RE_readExports 35 = .ok (.aload_n 0, 1) := bz_c42 (by decide +kernel)
theorem d_RE_readExports_36 : decode b_RE_readExports 36 = .ok (.ldc2_w 77, 3) := bz_c20 (by decide +kernel)
theorem d_RE_readExports_39 : decode b_RE_readExports 39 = .ok (.invokevirtual 64, 3) := bz_c182 (by decide +kernel)
theorem d_RE_readExports_42 : decode b_RE_readExports 42 = .ok (.l2i, 1) := bz_c136 (by decide +kernel)
theorem d_RE_readExports_43 : decode b_RE_readExports 43 = .ok (.istore_n 2, 1) := bz_c61 (by decide +kernel)
theorem d_RE_readExports_44 : decode b_RE_readExports 44 = .ok (.aload_n 0, 1) := bz_c42 (by decide +kernel)
theorem d_RE_readExports_45 : decode b_RE_readExports 45 = .ok (.getfield 15, 3) := bz_c180 (by decide +kernel)
theorem d_RE_readExports_48 : decode b_RE_readExports 48 = .ok (.getfield 158, 3) := bz_c180 (by decide +kernel)
theorem d_RE_readExports_51 : decode b_RE_readExports 51 = .ok (.iload_n 1, 1) := bz_c27 (by decide +kernel)
theorem d_RE_readExports_52 : decode b_RE_readExports 52 = .ok (.aload_n 0, 1) := bz_c42 (by decide +kernel)
theorem d_RE_readExports_53 : decode b_RE_readExports 53 = .ok (.getfield 29, 3) := bz_c180 (by decide +kernel)
theorem d_RE_readExports_56 : decode b_RE_readExports 56 = .ok (.iastore, 1) := bz_c79 (by decide +kernel)
theorem d_RE_readExports_57 : decode b_RE_readExports 57 = .ok (.aload_n 0, 1) := bz_c42 (by decide +kernel)
theorem d_RE_readExports_58 : decode b_RE_readExports 58 = .ok (.getfield 15, 3) := bz_c180 (by decide +kernel)
theorem d_RE_readExports_61 : decode b_RE_readExports 61 = .ok (.getfield 161, 3) := bz_c180 (by decide +kernel)
theorem d_RE_readExports_64 : decode b_RE_readExports 64 = .ok (.iload_n 1, 1) := bz_c27 (by decide +kernel)
theorem d_RE_readExports_65 : decode b_RE_readExports 65 = .ok (.iload_n 2, 1) := bz_c28 (by decide +kernel)
theorem d_RE_readExports_66 : decode b_RE_readExports 66 = .ok (.iastore, 1) := bz_c79 (by decide +kernel)
theorem d_RE_readExports_67 : decode b_RE_readExports 67 = .ok (.iconst 0, 1) := bz_c3 (by decide +kernel)
theorem d_RE_readExports_68 : decode b_RE_readExports 68 = .ok (.istore_n 3, 1) := bz_c62 (by decide +kernel)
theorem d_RE_readExports_69 : decode b_RE_readExports 69 = .ok (.iload_n 3, 1) := bz_c29 (by decide +kernel)
theorem d_RE_readExports_70 : decode b_RE_readExports 70 = .ok (.iload_n 2, 1) := bz_c28 (by decide +kernel)
theorem d_RE_readExports_71 : decode b_RE_readExports 71 = .ok (.if_icmp .ge 14, 3) := bz_c162 (by decide +kernel)
theorem d_RE_readExports_74 : decode b_RE_readExports 74 = .ok (.aload_n 0, 1) := bz_c42 (by decide +kernel)
theorem d_RE_readExports_75 : decode b_RE_readExports 75 = .ok (.invokevirtual 60, 3) := bz_c182 (by decide +kernel)
theorem d_RE_readExports_78 : decode b_RE_readExports 78 = .ok (.pop, 1) := bz_c87 (by decide +kernel)
theorem d_RE_readExports_79 : decode b_RE_readExports 79 = .ok (.iinc 3 1, 3) := by decide +kernel
theorem d_RE_readExports_82 : decode b_RE_readExports 82 = .ok (.goto (-13), 3) := bz_c167 (by decide +kernel)
theorem d_RE_readExports_85 : decode b_RE_readExports 85 = .ok (.aload_n 0, 1) := bz_c42 (by decide +kernel)
theorem d_RE_readExports_86 : decode b_RE_readExports 86 = .ok (.invokevirtual 60, 3) := bz_c182 (by decide +kernel)
theorem d_RE_readExports_89 : decode b_RE_readExports 89 = .ok (.istore_n 3, 1) := bz_c62 (by decide +kernel)
theorem d_RE_readExports_90 : decode b_RE_readExports 90 = .ok (.aload_n 0, 1) := bz_c42 (by decide +kernel)
theorem d_RE_readExports_91 : decode b_RE_readExports 91 = .ok (.aload_n 0, 1) := bz_c42 (by decide +kernel)
theorem d_RE_readExports_92 : decode b_RE_readExports 92 = .ok (.getfield 45, 3) := bz_c180 (by decide +kernel)
theorem d_RE_readExports_95 : decode b_RE_readExports 95 = .ok (.ifCond .eq 21, 3) := bz_c153 (by decide +kernel)
theorem d_RE_readExports_98 : decode b_RE_readExports 98 = .ok (.iload_n 3, 1) := bz_c29 (by decide +kernel)
theorem d_RE_readExports_99 : decode b_RE_readExports 99 = .ok (.ifCond .eq 13, 3) := bz_c153 (by decide +kernel)
theorem d_RE_readExports_102 : decode b_RE_readExports 102 = .ok (.iload_n 3, 1) := bz_c29 (by decide +kernel)
theorem d_RE_readExports_103 : decode b_RE_readExports 103 = .ok (.iconst 2, 1) := bz_c5 (by decide +kernel)
theorem d_RE_readExports_104 : decode b_RE_readExports 104 = .ok (.if_icmp .eq 8, 3) := bz_c159 (by decide +kernel)
theorem d_RE_readExports_107 : decode b_RE_readExports 107 = .ok (.iload_n 3, 1) := bz_c29 (by decide +kernel)
theorem d_RE_readExports_108 : decode b_RE_readExports 108 = .ok (.iconst 3, 1) := bz_c6 (by decide +kernel)
theorem d_RE_readExports_109 : decode b_RE_readExports 109 = .ok (.if_icmp .ne 7, 3) := bz_c160 (by decide +kernel)
theorem d_RE_readExports_112 : decode b_RE_readExports 112 = .ok (.iconst 1, 1) := bz_c4 (by decide +kernel)
theorem d_RE_readExports_113 : decode b_RE_readExports 113 = .ok (.goto 4, 3) := bz_c167 (by decide +kernel)
theorem d_RE_readExports_116 : decode b_RE_readExports 116 = .ok (.iconst 0, 1) := bz_c3 (by decide +kernel)
theorem d_RE_readExports_117 : decode b_RE_readExports 117 = .ok (.putfield 45, 3) := bz_c181 (by decide +kernel)
theorem d_RE_readExports_120 : decode b_RE_readExports 120 = .ok (.aload_n 0, 1) := bz_c42 (by decide +kernel)
theorem d_RE_readExports_121 : decode b_RE_readExports 121 = .ok (.getfield 15, 3) := bz_c180 (by decide +kernel)
theorem d_RE_readExports_124 : decode b_RE_readExports 124 = .ok (.getfield 164, 3) := bz_c180 (by decide +kernel)
theorem d_RE_readExports_127 : decode b_RE_readExports 127 = .ok (.iload_n 1, 1) := bz_c27 (by decide +kernel)
theorem d_RE_readExports_128 : decode b_RE_readExports 128 = .ok (.iload_n 3, 1) := bz_c29 (by decide +kernel)
theorem d_RE_readExports_129 : decode b_RE_readExports 129 = .ok (.iastore, 1) := bz_c79 (by decide +kernel)
theorem d_RE_readExports_130 : decode b_RE_readExports 130 = .ok (.aload_n 0, 1) := bz_c42 (by decide +kernel)
theorem d_RE_readExports_131 : decode b_RE_readExports 131 = .ok (.getfield 15, 3) := bz_c180 (by decide +kernel)
theorem d_RE_readExports_134 : decode b_RE_readExports 134 = .ok (.getfield 167, 3) := bz_c180 (by decide +kernel)
theorem d_RE_readExports_137 : decode b_RE_readExports 137 = .ok (.iload_n 1, 1) := bz_c27 (by decide +kernel)
theorem d_RE_readExports_138 : decode b_RE_readExports 138 = .ok (.aload_n 0, 1) := bz_c42 (by decide +kernel)
theorem d_RE_readExports_139 : decode b_RE_readExports 139 = .ok (.ldc2_w 82, 3) := bz_c20 (by decide +kernel)
theorem d_RE_readExports_142 : decode b_RE_readExports 142 = .ok (.invokevirtual 64, 3) := bz_c182 (by decide +kernel)
theorem d_RE_readExports_145 : decode b_RE_readExports 145 = .ok (.l2i, 1) := bz_c136 (by decide +kernel)
theorem d_RE_readExports_146 : decode b_RE_readExports 146 = .ok (.iastore, 1) := bz_c79 (by decide +kernel)
theorem d_RE_readExports_147 : decode b_RE_readExports 147 = .ok (.iinc 1 1, 3) := by decide +kernel
theorem d_RE_readExports_150 : decode b_RE_readExports 150 = .ok (.goto (-133), 3) := bz_c167 (by decide +kernel)
theorem d_RE_readExports_153 : decode b_RE_readExports 153 = .ok (.return_, 1) := bz_c177 (by decide +kernel)
theorem kL_RE_153 : Cond.constantLong R_RE 153 (40) ∈ lw_g := in_c6 127 rfl rfl
theorem kF_RE_155 : Cond.fieldLink R_RE 155 "WaferForge$Wafer" "exportCount" "I" ∈ lw_g := in_c1 195 rfl rfl
theorem kL_RE_77 : Cond.constantLong R_RE 77 (30) ∈ lw_g := in_c6 103 rfl rfl
theorem kF_RE_158 : Cond.fieldLink R_RE 158 "WaferForge$Wafer" "exportStarts" "[I" ∈ lw_g := in_c1 204 rfl rfl
theorem kF_RE_161 : Cond.fieldLink R_RE 161 "WaferForge$Wafer" "exportSizes" "[I" ∈ lw_g := in_c1 207 rfl rfl
theorem kF_RE_164 : Cond.fieldLink R_RE 164 "WaferForge$Wafer" "exportKinds" "[I" ∈ lw_g := in_c1 198 rfl rfl
theorem kF_RE_167 : Cond.fieldLink R_RE 167 "WaferForge$Wafer" "exportIndices" "[I" ∈ lw_g := in_c1 201 rfl rfl
abbrev at_RE_readExports (dC : Nat → ClassId) (dI : Nat → Nat → Nat) (h0 aw ac ob ab wat wap wag waf wgt wft wfv wgc wek wei wes wez ax : Nat) (cax cwek cwei cwes cwez : ClassId) (h0_limit : Int32) (h0_codeCount : Int32) (h0_openCount : Int32) (aw_typeCount : Int32) (aw_functionCount : Int32) (aw_hasMemory : Int32) (aw_pagesLeast : Int64) (aw_pagesMost : Int64) (aw_globalCount : Int32) (ab_length : Int32) (gax : Nat → Int32) (A : Nat → Prop) (u : (Nat → Int32) × (Nat → Int32) × (Nat → Int32) × (Nat → Int32) × Int32 × Int32 × Int32) (t : State) : Prop := match u with | (gwei, gwek, gwes, gwez, aw_exportCount, h0_at, h0_sound) => va_P (dC, dI) cls (wz_58 h0 aw ac h0_at h0_limit h0_sound h0_codeCount ob h0_openCount aw ab ac aw_typeCount wat wap wag aw_functionCount waf aw_hasMemory aw_pagesLeast aw_pagesMost aw_globalCount wgt wft wfv wgc aw_exportCount wek wei wes wez ab ax ab_length ax cax gax wek cwek gwek wei cwei gwei wes cwes gwes wez cwez gwez) t.heap ∧ va_K (dC, dI) cls [(cax, .byte), (cwek, .int), (cwei, .int), (cwes, .int), (cwez, .int)] t ∧ va_D A (wz_58 h0 aw ac h0_at h0_limit h0_sound h0_codeCount ob h0_openCount aw ab ac aw_typeCount wat wap wag aw_functionCount waf aw_hasMemory aw_pagesLeast aw_pagesMost aw_globalCount wgt wft wfv wgc aw_exportCount wek wei wes wez ab ax ab_length ax cax gax wek cwek gwek wei cwei gwei wes cwes gwes wez cwez gwez)
set_option maxHeartbeats 4000000 in
set_option maxRecDepth 100000 in
theorem c_RE_readExports (l : Launch) (dC : Nat → ClassId) (dI : Nat → Nat → Nat) (sz : Nat) (h0 aw ac ob ab wat wap wag waf wgt wft wfv wgc wek wei wes wez ax : Nat) (cax cwek cwei cwes cwez : ClassId) (h0_at : Int32) (h0_limit : Int32) (h0_sound : Int32) (h0_codeCount : Int32) (h0_openCount : Int32) (aw_typeCount : Int32) (aw_functionCount : Int32) (aw_hasMemory : Int32) (aw_pagesLeast : Int64) (aw_pagesMost : Int64) (aw_globalCount : Int32) (aw_exportCount : Int32) (ab_length : Int32) (gax : Nat → Int32) (gwek : Nat → Int32) (gwei : Nat → Int32) (gwes : Nat → Int32) (gwez : Nat → Int32)  (b_h0_sound : h0_sound = 0 ∨ h0_sound = 1) (b_aw_exportCount : 0 ≤ aw_exportCount.toInt ∧ aw_exportCount.toInt ≤ 40)   (ha : 0 ≤ h0_at.toInt ∧ h0_at.toInt ≤ h0_limit.toInt ∧ h0_limit.toInt ≤ ab_length.toInt ∧ ab_length.toInt ≤ 8192) : Met l y_RE_readExports w_RE_readExports ({ frames := 2, cells := 0, slots := 0, locals := 46 }) (va_Pc [.ref h0] (fun U => U.heap.size = sz ∧ va_P (dC, dI) cls (wz_58 h0 aw ac h0_at h0_limit h0_sound h0_codeCount ob h0_openCount aw ab ac aw_typeCount wat wap wag aw_functionCount waf aw_hasMemory aw_pagesLeast aw_pagesMost aw_globalCount wgt wft wfv wgc aw_exportCount wek wei wes wez ab ax ab_length ax cax gax wek cwek gwek wei cwei gwei wes cwes gwes wez cwez gwez) U.heap ∧ va_K (dC, dI) cls [(cax, .byte), (cwek, .int), (cwei, .int), (cwes, .int), (cwez, .int)] U ∧ va_D (fun _ => True) (wz_58 h0 aw ac h0_at h0_limit h0_sound h0_codeCount ob h0_openCount aw ab ac aw_typeCount wat wap wag aw_functionCount waf aw_hasMemory aw_pagesLeast aw_pagesMost aw_globalCount wgt wft wfv wgc aw_exportCount wek wei wes wez ab ax ab_length ax cax gax wek cwek gwek wei cwei gwei wes cwes gwes wez cwez gwez))) (va_Qv (fun (u : (Nat → Int32) × (Nat → Int32) × (Nat → Int32) × (Nat → Int32) × Int32 × Int32 × Int32) => match u with | (gwei2, gwek2, gwes2, gwez2, aw_exportCount2, h0_at2, h0_sound2) => (0 ≤ aw_exportCount2.toInt ∧ aw_exportCount2.toInt ≤ 40) ∧ (h0_sound2 = 0 ∨ h0_sound2 = 1) ∧ ((h0_at.toInt ≤ h0_at2.toInt ∧ h0_at2.toInt ≤ h0_limit.toInt) ∧ (h0_sound2.toInt = 1 → h0_sound.toInt = 1) ∧ (h0_sound2.toInt = 1 → rd_E aw_exportCount2.toInt gwez2))) (at_RE_readExports dC dI h0 aw ac ob ab wat wap wag waf wgt wft wfv wgc wek wei wes wez ax cax cwek cwei cwes cwez h0_limit h0_codeCount h0_openCount aw_typeCount aw_functionCount aw_hasMemory aw_pagesLeast aw_pagesMost aw_globalCount ab_length gax (va_A (wz_58 h0 aw ac h0_at h0_limit h0_sound h0_codeCount ob h0_openCount aw ab ac aw_typeCount wat wap wag aw_functionCount waf aw_hasMemory aw_pagesLeast aw_pagesMost aw_globalCount wgt wft wfv wgc aw_exportCount wek wei wes wez ab ax ab_length ax cax gax wek cwek gwek wei cwei gwei wes cwes gwes wez cwez gwez) sz)) (va_A (wz_58 h0 aw ac h0_at h0_limit h0_sound h0_codeCount ob h0_openCount aw ab ac aw_typeCount wat wap wag aw_functionCount waf aw_hasMemory aw_pagesLeast aw_pagesMost aw_globalCount wgt wft wfv wgc aw_exportCount wek wei wes wez ab ax ab_length ax cax gax wek cwek gwek wei cwei gwei wes cwes gwes wez cwez gwez) sz)) 0 0 (va_A (wz_58 h0 aw ac h0_at h0_limit h0_sound h0_codeCount ob h0_openCount aw ab ac aw_typeCount wat wap wag aw_functionCount waf aw_hasMemory aw_pagesLeast aw_pagesMost aw_globalCount wgt wft wfv wgc aw_exportCount wek wei wes wez ab ax ab_length ax cax gax wek cwek gwek wei cwei gwei wes cwes gwes wez cwez gwez) sz) := by
  refine Met.ofW (cc := b_RE_readExports) (maxL := 4) (ret := none) (by decide) rfl ?_
  intro p e s m args below meth c s₁ B hml hv
  obtain ⟨rfl, hsz, hP, hK, hD0⟩ := hv
  have hx := B.exec
  have hb := B.bytes
  have hr := B.returns
  have hts0 := atoms_spec (ws := w_RE_readExports) B.pre
  have hts : ∀ w ∈ lw_g, w.before _ s = true := fun w h => hts0 w (List.mem_cons_of_mem _ h)
  have hown : s.vm.findClass R_RE = some m.cls := findClass_of_methodNamed B.named
  have hlocks := B.notSynchronized
  clear hts0
  subst hsz
  have hD := hD0.self (sz := s.heap.size)
  generalize hAe : va_A (wz_58 h0 aw ac h0_at h0_limit h0_sound h0_codeCount ob h0_openCount aw ab ac aw_typeCount wat wap wag aw_functionCount waf aw_hasMemory aw_pagesLeast aw_pagesMost aw_globalCount wgt wft wfv wgc aw_exportCount wek wei wes wez ab ax ab_length ax cax gax wek cwek gwek wei cwei gwei wes cwes gwes wez cwez gwez) s.heap.size = A at hD ⊢
  have hA : ∀ q : Nat, s.heap.size ≤ q → A q := fun q h => by rw [← hAe]; exact Or.inr h
  clear hAe
  have hP : va_P (dC, dI) cls (wz_58 h0 aw ac h0_at h0_limit h0_sound h0_codeCount ob h0_openCount aw ab ac aw_typeCount wat wap wag aw_functionCount waf aw_hasMemory aw_pagesLeast aw_pagesMost aw_globalCount wgt wft wfv wgc aw_exportCount wek wei wes wez ab ax ab_length ax cax gax wek cwek gwek wei cwei gwei wes cwes gwes wez cwez gwez) s.heap := hP
  have hl := lv_entry ([.ref h0]) (n := 4) (Nat.le_of_ble_eq_true rfl)
  rw [lg_entry_eq]
  generalize (lg_sl ([.ref h0]) ++ List.replicate (4 - (lg_sl ([.ref h0])).length) Slot.unset).toArray = ls at hl ⊢
  have hl : lv_has ls 4 [(0, .ref h0)] := hl
  have k0 : (0 : Int32).toInt = 0 := by decide
  refine w_gen (A := A) hP (fun H locs hP hS => ?_)
  have k1 : (1 : Int32).toInt = 1 := by decide
  have k2 : (2 : Int32).toInt = 2 := by decide
  have k3 : (3 : Int32).toInt = 3 := by decide
  have th0_sound := b01 b_h0_sound
  refine lv_aload_n hx hb d_RE_readExports_0 rfl (lv_at hl 0 rfl) ?_
  refine va_get (D := (dC, dI)) (ci := 7) (v := .ref aw) (C := R_RE) (T := F_RE) (N := 8) hx hb hts i_RE hown hK hP 0 rfl rfl 0 (by decide) (hts _ kF_RE_15) (fun _ h9 => h9) rfl d_RE_readExports_1 ?_
  refine lv_aload_n hx hb d_RE_readExports_4 rfl (lv_at hl 0 rfl) ?_
  refine lv_ldc2 hx hb hown (hts _ kL_RE_153) d_RE_readExports_5 ?_
  refine lv_topl (fun x1 ex1 => ?_)
  have tx1 : x1.toInt = 40 := by rw [ex1]; decide
  have hPc := hP.sb (wq := (wz_46 h0 aw ac h0_at h0_limit h0_sound h0_codeCount ob h0_openCount aw ab ac aw_typeCount wat wap wag aw_functionCount waf aw_hasMemory aw_pagesLeast aw_pagesMost aw_globalCount wgt wft wfv wgc aw_exportCount wek wei wes wez ab ax ab_length ax cax gax)) [0, 1, 2, 3] rfl
  have hDc := hD.sb (wq := (wz_46 h0 aw ac h0_at h0_limit h0_sound h0_codeCount ob h0_openCount aw ab ac aw_typeCount wat wap wag aw_functionCount waf aw_hasMemory aw_pagesLeast aw_pagesMost aw_globalCount wgt wft wfv wgc aw_exportCount wek wei wes wez ab ax ab_length ax cax gax)) [0, 1, 2, 3] (by decide) rfl
  have hKc := hK.sb (tyq := [(cax, .byte)]) [0] rfl
  have hFc := va_free (wc := (wz_46 h0 aw ac h0_at h0_limit h0_sound h0_codeCount ob h0_openCount aw ab ac aw_typeCount wat wap wag aw_functionCount waf aw_hasMemory aw_pagesLeast aw_pagesMost aw_globalCount wgt wft wfv wgc aw_exportCount wek wei wes wez ab ax ab_length ax cax gax)) hD hS hA [0, 1, 2, 3] rfl
  refine va_calll (va_runV (As := [.long x1]) (rest := [.ref aw]) ⟨hx, hb, hml, hown, hts⟩ (c_RE_readUnsigned l dC dI h0 aw ac ob ab ax H.size cax 8192 h0_at h0_limit h0_sound h0_codeCount h0_openCount ab_length gax [.ref ab, .ref ac, .int aw_typeCount, .ref wat, .ref wap, .ref wag, .int aw_functionCount, .ref waf, .int aw_hasMemory, .long aw_pagesLeast, .long aw_pagesMost, .int aw_globalCount, .ref wgt, .ref wft, .ref wfv, .ref wgc, .int aw_exportCount, .ref wek, .ref wei, .ref wes, .ref wez] rfl rfl b_h0_sound (by (first | (apply Int.le_antisymm <;> omega) | omega)) x1 (by (first | (apply Int.le_antisymm <;> omega) | omega))) (cwV 1 hts (gV kM_RE_64 kV_RE_readUnsigned kS_RE_readUnsigned kI_RE kC_RE_readUnsigned) rfl rfl rfl (by decide +kernel) ⟨Nat.le_of_ble_eq_true rfl, Nat.le_of_ble_eq_true rfl⟩) ⟨fun a U g mk z => by obtain ⟨z0, z1, zP, zK, zD⟩ := z; exact ⟨z0, z1, zP, va_K.moved (u := U) (U := U.calling g mk a) (Vm.Alike.refl U.vm) zK, zD⟩, va_recv hKc hPc (ci := 7) (q0 := 0) rfl rfl, fun U hU hW => ⟨rfl, by rw [hU], va_P.he hU.symm hPc, va_K.moved hW.alike hKc, hDc.weaken (fun _ _ _ _ => trivial)⟩⟩ rfl rfl hl.1 rfl (lv_room (Nat.le_of_ble_eq_true rfl)) d_RE_readExports_8 ⟨(Nat.zero_le _), (Nat.zero_le _)⟩) hS (fun q _ h => hFc q h) hFc (fun r2 u t H1 locs ht hvm hw hB hz1 hk1 hS => ?_)
  obtain ⟨n3, n4⟩ := u
  try dsimp only at hw
  obtain ⟨hsn4, tn3⟩ := hw
  have bsn4 := b01 hsn4
  obtain ⟨hP1, hK1, hD1⟩ := hB
  replace hP1 := va_P.he ht hP1
  obtain ⟨hP, hD⟩ := va_join (wr := (wz_59 wek cwek gwek wei cwei gwei wes cwes gwes wez cwez gwez)) (w1 := (wz_46 h0 aw ac n3 h0_limit n4 h0_codeCount ob h0_openCount aw ab ac aw_typeCount wat wap wag aw_functionCount waf aw_hasMemory aw_pagesLeast aw_pagesMost aw_globalCount wgt wft wfv wgc aw_exportCount wek wei wes wez ab ax ab_length ax cax gax)) hP hD [0, 1, 2, 3] [4, 5, 6, 7] rfl rfl (by decide) (by decide) hk1 hFc hP1 hD1
  clear hPc hDc hKc hFc hz1 hk1 hP1 hK1 hD1
  rename Heap => H
  have hP : va_P (dC, dI) cls (wz_60 wek cwek gwek wei cwei gwei wes cwes gwes wez cwez gwez h0 aw ac n3 h0_limit n4 h0_codeCount ob h0_openCount aw ab ac aw_typeCount wat wap wag aw_functionCount waf aw_hasMemory aw_pagesLeast aw_pagesMost aw_globalCount wgt wft wfv wgc aw_exportCount wek wei wes wez ab ax ab_length ax cax gax) H := hP
  have hD : va_D A (wz_60 wek cwek gwek wei cwei gwei wes cwes gwes wez cwez gwez h0 aw ac n3 h0_limit n4 h0_codeCount ob h0_openCount aw ab ac aw_typeCount wat wap wag aw_functionCount waf aw_hasMemory aw_pagesLeast aw_pagesMost aw_globalCount wgt wft wfv wgc aw_exportCount wek wei wes wez ab ax ab_length ax cax gax) := hD
  refine lv_l2i hx hb d_RE_readExports_11 rfl ?_
  refine lv_topi (fun x5 ex5 => ?_)
  have tx5 := l2i_t ex5 (by (first | (apply Int.le_antisymm <;> omega) | omega)) (by (first | (apply Int.le_antisymm <;> omega) | omega))
  refine va_put (D := (dC, dI)) (ci := 10) (v := .int x5) (ty := .int) (C := R_WA) (T := F_WA) (N := 21) hx hb hts i_WA t_WA t_WA_ok n_WA hown hK hP hD hS 5 rfl rfl 16 (by decide) (hts _ kF_RE_155) (fun _ h9 => h9) rfl (by decide +kernel) rfl rfl (Nat.le_of_ble_eq_true rfl) d_RE_readExports_12 (fun H locs hP hD hS => ?_)
  refine lv_iconst (v := 0) hx hb d_RE_readExports_15 (by decide) ?_
  refine lv_istore_n (lv' := [(1, .int 0), (0, .ref h0)]) hx hb d_RE_readExports_16 rfl hl (by decide) rfl (fun ls hl => ?_)
  refine w_loop (σ := Int32 × (Nat → Int32) × (Nat → Int32) × (Nat → Int32) × (Nat → Int32) × Int32 × Int32) (fun u H locs ls => match u with | (j17_l1, j17_wei, j17_wek, j17_wes, j17_wez, j17_h0_at, j17_h0_sound) => (0 ≤ j17_l1.toInt ∧ j17_l1.toInt ≤ 40) ∧ (j17_h0_sound = 0 ∨ j17_h0_sound = 1) ∧ (h0_at.toInt ≤ j17_h0_at.toInt ∧ j17_h0_at.toInt ≤ h0_limit.toInt) ∧ (j17_h0_sound.toInt = 1 → n4.toInt = 1) ∧ (j17_l1.toInt ≤ x5.toInt) ∧ (rd_E j17_l1.toInt j17_wez) ∧ va_P (dC, dI) cls (wz_60 wek cwek j17_wek wei cwei j17_wei wes cwes j17_wes wez cwez j17_wez h0 aw ac j17_h0_at h0_limit j17_h0_sound h0_codeCount ob h0_openCount aw ab ac aw_typeCount wat wap wag aw_functionCount waf aw_hasMemory aw_pagesLeast aw_pagesMost aw_globalCount wgt wft wfv wgc x5 wek wei wes wez ab ax ab_length ax cax gax) H ∧ va_D A (wz_60 wek cwek j17_wek wei cwei j17_wei wes cwes j17_wes wez cwez j17_wez h0 aw ac j17_h0_at h0_limit j17_h0_sound h0_codeCount ob h0_openCount aw ab ac aw_typeCount wat wap wag aw_functionCount waf aw_hasMemory aw_pagesLeast aw_pagesMost aw_globalCount wgt wft wfv wgc x5 wek wei wes wez ab ax ab_length ax cax gax) ∧ va_S A s.heap H locs ∧ lv_has ls 4 [(0, .ref h0), (1, .int j17_l1)]) (fun u => match u with | (j17_l1, j17_wei, j17_wek, j17_wes, j17_wez, j17_h0_at, j17_h0_sound) => (x5.toInt - j17_l1.toInt).toNat) ?_ (0, gwei, gwek, gwes, gwez, n3, n4) ⟨by (try dsimp only); (first | (apply Int.le_antisymm <;> omega) | omega), hsn4, by (try dsimp only); (first | (apply Int.le_antisymm <;> omega) | omega), by (try dsimp only); (first | (apply Int.le_antisymm <;> omega) | omega), by (try dsimp only); (first | (apply Int.le_antisymm <;> omega) | omega), fun g q => absurd q (by (first | (apply Int.le_antisymm <;> omega) | omega)), hP, hD, hS, lv_sub hl [1, 0] rfl⟩
  intro N17 ih17 u H locs ls hN17 hI
  obtain ⟨j17_l1, j17_wei, j17_wek, j17_wes, j17_wez, j17_h0_at, j17_h0_sound⟩ := u
  obtain ⟨b_j17_l1, b_j17_h0_sound, w1, w2, v1, v4, hP, hD, hS, hl⟩ := hI
  have tj17_h0_sound := b01 b_j17_h0_sound
  have hN17 : (x5.toInt - j17_l1.toInt).toNat < N17 + 1 := hN17
  refine lv_iload_n hx hb d_RE_readExports_17 rfl (lv_at hl 1 rfl) ?_
  refine lv_aload_n hx hb d_RE_readExports_18 rfl (lv_at hl 0 rfl) ?_
  refine va_get (D := (dC, dI)) (ci := 7) (v := .ref aw) (C := R_RE) (T := F_RE) (N := 8) hx hb hts i_RE hown hK hP 4 rfl rfl 0 (by decide) (hts _ kF_RE_15) (fun _ h9 => h9) rfl d_RE_readExports_19 ?_
  refine va_get (D := (dC, dI)) (ci := 10) (v := .int x5) (C := R_WA) (T := F_WA) (N := 21) hx hb hts i_WA hown hK hP 5 rfl rfl 16 (by decide) (hts _ kF_RE_155) (fun _ h9 => h9) rfl d_RE_readExports_22 ?_
  refine lv_icmp_ge (tgt := 153) hx hb d_RE_readExports_25 (by decide) (fun c25 => ?_) (fun c25 => ?_)
  · have q25 := leI c25
    have hP9 := hP.sb (wq := (wz_58 h0 aw ac j17_h0_at h0_limit j17_h0_sound h0_codeCount ob h0_openCount aw ab ac aw_typeCount wat wap wag aw_functionCount waf aw_hasMemory aw_pagesLeast aw_pagesMost aw_globalCount wgt wft wfv wgc x5 wek wei wes wez ab ax ab_length ax cax gax wek cwek j17_wek wei cwei j17_wei wes cwes j17_wes wez cwez j17_wez)) [4, 5, 6, 7, 0, 1, 2, 3] rfl
    have hD9 := hD.sb (wq := (wz_58 h0 aw ac j17_h0_at h0_limit j17_h0_sound h0_codeCount ob h0_openCount aw ab ac aw_typeCount wat wap wag aw_functionCount waf aw_hasMemory aw_pagesLeast aw_pagesMost aw_globalCount wgt wft wfv wgc x5 wek wei wes wez ab ax ab_length ax cax gax wek cwek j17_wek wei cwei j17_wei wes cwes j17_wes wez cwez j17_wez)) [4, 5, 6, 7, 0, 1, 2, 3] (by decide) rfl
    exact W.vret hx hb hr (fun t ht hW => ⟨⟨(j17_wei, j17_wek, j17_wes, j17_wez, x5, j17_h0_at, j17_h0_sound), rfl, ⟨by (try dsimp only); (first | (apply Int.le_antisymm <;> omega) | omega), b_j17_h0_sound, ⟨⟨by (try dsimp only); (first | (apply Int.le_antisymm <;> omega) | omega), by (try dsimp only); (first | (apply Int.le_antisymm <;> omega) | omega)⟩, fun z => by (try dsimp only at z); (first | (apply Int.le_antisymm <;> omega) | omega), fun z g q => v4 g (by (try dsimp only at q); (try dsimp only at z); (first | (apply Int.le_antisymm <;> omega) | omega))⟩⟩, va_P.he ht.symm hP9, va_K.moved hW.alike hK, hD9⟩, hS.F ht⟩) hS.2.2 d_RE_readExports_153
  · have q25 := nleI c25
    refine lv_aload_n hx hb d_RE_readExports_28 rfl (lv_at hl 0 rfl) ?_
    refine va_get (D := (dC, dI)) (ci := 7) (v := .int j17_h0_sound) (C := R_RE) (T := F_RE) (N := 8) hx hb hts i_RE hown hK hP 4 rfl rfl 4 (by decide) (hts _ kF_RE_45) (fun _ h9 => h9) rfl d_RE_readExports_29 ?_
    refine lv_if_eq (tgt := 153) hx hb d_RE_readExports_32 (by decide) (fun c32 => ?_) (fun c32 => ?_)
    · have q32 := eqI c32
      have hP9 := hP.sb (wq := (wz_58 h0 aw ac j17_h0_at h0_limit j17_h0_sound h0_codeCount ob h0_openCount aw ab ac aw_typeCount wat wap wag aw_functionCount waf aw_hasMemory aw_pagesLeast aw_pagesMost aw_globalCount wgt wft wfv wgc x5 wek wei wes wez ab ax ab_length ax cax gax wek cwek j17_wek wei cwei j17_wei wes cwes j17_wes wez cwez j17_wez)) [4, 5, 6, 7, 0, 1, 2, 3] rfl
      have hD9 := hD.sb (wq := (wz_58 h0 aw ac j17_h0_at h0_limit j17_h0_sound h0_codeCount ob h0_openCount aw ab ac aw_typeCount wat wap wag aw_functionCount waf aw_hasMemory aw_pagesLeast aw_pagesMost aw_globalCount wgt wft wfv wgc x5 wek wei wes wez ab ax ab_length ax cax gax wek cwek j17_wek wei cwei j17_wei wes cwes j17_wes wez cwez j17_wez)) [4, 5, 6, 7, 0, 1, 2, 3] (by decide) rfl
      exact W.vret hx hb hr (fun t ht hW => ⟨⟨(j17_wei, j17_wek, j17_wes, j17_wez, x5, j17_h0_at, j17_h0_sound), rfl, ⟨by (try dsimp only); (first | (apply Int.le_antisymm <;> omega) | omega), b_j17_h0_sound, ⟨⟨by (try dsimp only); (first | (apply Int.le_antisymm <;> omega) | omega), by (try dsimp only); (first | (apply Int.le_antisymm <;> omega) | omega)⟩, fun z => by (try dsimp only at z); (first | (apply Int.le_antisymm <;> omega) | omega), fun z g q => v4 g (by (try dsimp only at q); (try dsimp only at z); (first | (apply Int.le_antisymm <;> omega) | omega))⟩⟩, va_P.he ht.symm hP9, va_K.moved hW.alike hK, hD9⟩, hS.F ht⟩) hS.2.2 d_RE_readExports_153
    · have q32 := neI c32
      refine lv_aload_n hx hb d_RE_readExports_35 rfl (lv_at hl 0 rfl) ?_
      refine lv_ldc2 hx hb hown (hts _ kL_RE_77) d_RE_readExports_36 ?_
      refine lv_topl (fun x6 ex6 => ?_)
      have tx6 : x6.toInt = 30 := by rw [ex6]; decide
      have hPc := hP.sb (wq := (wz_46 h0 aw ac j17_h0_at h0_limit j17_h0_sound h0_codeCount ob h0_openCount aw ab ac aw_typeCount wat wap wag aw_functionCount waf aw_hasMemory aw_pagesLeast aw_pagesMost aw_globalCount wgt wft wfv wgc x5 wek wei wes wez ab ax ab_length ax cax gax)) [4, 5, 6, 7] rfl
      have hDc := hD.sb (wq := (wz_46 h0 aw ac j17_h0_at h0_limit j17_h0_sound h0_codeCount ob h0_openCount aw ab ac aw_typeCount wat wap wag aw_functionCount waf aw_hasMemory aw_pagesLeast aw_pagesMost aw_globalCount wgt wft wfv wgc x5 wek wei wes wez ab ax ab_length ax cax gax)) [4, 5, 6, 7] (by decide) rfl
      have hKc := hK.sb (tyq := [(cax, .byte)]) [0] rfl
      have hFc := va_free (wc := (wz_46 h0 aw ac j17_h0_at h0_limit j17_h0_sound h0_codeCount ob h0_openCount aw ab ac aw_typeCount wat wap wag aw_functionCount waf aw_hasMemory aw_pagesLeast aw_pagesMost aw_globalCount wgt wft wfv wgc x5 wek wei wes wez ab ax ab_length ax cax gax)) hD hS hA [4, 5, 6, 7] rfl
      refine va_calll (va_runV (As := [.long x6]) (rest := []) ⟨hx, hb, hml, hown, hts⟩ (c_RE_readUnsigned l dC dI h0 aw ac ob ab ax H.size cax 8192 j17_h0_at h0_limit j17_h0_sound h0_codeCount h0_openCount ab_length gax [.ref ab, .ref ac, .int aw_typeCount, .ref wat, .ref wap, .ref wag, .int aw_functionCount, .ref waf, .int aw_hasMemory, .long aw_pagesLeast, .long aw_pagesMost, .int aw_globalCount, .ref wgt, .ref wft, .ref wfv, .ref wgc, .int x5, .ref wek, .ref wei, .ref wes, .ref wez] rfl rfl b_j17_h0_sound (by (first | (apply Int.le_antisymm <;> omega) | omega)) x6 (by (first | (apply Int.le_antisymm <;> omega) | omega))) (cwV 1 hts (gV kM_RE_64 kV_RE_readUnsigned kS_RE_readUnsigned kI_RE kC_RE_readUnsigned) rfl rfl rfl (by decide +kernel) ⟨Nat.le_of_ble_eq_true rfl, Nat.le_of_ble_eq_true rfl⟩) ⟨fun a U g mk z => by obtain ⟨z0, z1, zP, zK, zD⟩ := z; exact ⟨z0, z1, zP, va_K.moved (u := U) (U := U.calling g mk a) (Vm.Alike.refl U.vm) zK, zD⟩, va_recv hKc hPc (ci := 7) (q0 := 0) rfl rfl, fun U hU hW => ⟨rfl, by rw [hU], va_P.he hU.symm hPc, va_K.moved hW.alike hKc, hDc.weaken (fun _ _ _ _ => trivial)⟩⟩ rfl rfl hl.1 rfl (lv_room (Nat.le_of_ble_eq_true rfl)) d_RE_readExports_39 ⟨(Nat.zero_le _), (Nat.zero_le _)⟩) hS (fun q _ h => hFc q h) hFc (fun r7 u t H1 locs ht hvm hw hB hz1 hk1 hS => ?_)
      obtain ⟨n8, n9⟩ := u
      try dsimp only at hw
      obtain ⟨hsn9, tn8⟩ := hw
      have bsn9 := b01 hsn9
      obtain ⟨hP1, hK1, hD1⟩ := hB
      replace hP1 := va_P.he ht hP1
      obtain ⟨hP, hD⟩ := va_join (wr := (wz_59 wek cwek j17_wek wei cwei j17_wei wes cwes j17_wes wez cwez j17_wez)) (w1 := (wz_46 h0 aw ac n8 h0_limit n9 h0_codeCount ob h0_openCount aw ab ac aw_typeCount wat wap wag aw_functionCount waf aw_hasMemory aw_pagesLeast aw_pagesMost aw_globalCount wgt wft wfv wgc x5 wek wei wes wez ab ax ab_length ax cax gax)) hP hD [4, 5, 6, 7] [0, 1, 2, 3] rfl rfl (by decide) (by decide) hk1 hFc hP1 hD1
      clear hPc hDc hKc hFc hz1 hk1 hP1 hK1 hD1
      rename Heap => H
      have hP : va_P (dC, dI) cls (wz_60 wek cwek j17_wek wei cwei j17_wei wes cwes j17_wes wez cwez j17_wez h0 aw ac n8 h0_limit n9 h0_codeCount ob h0_openCount aw ab ac aw_typeCount wat wap wag aw_functionCount waf aw_hasMemory aw_pagesLeast aw_pagesMost aw_globalCount wgt wft wfv wgc x5 wek wei wes wez ab ax ab_length ax cax gax) H := hP
      have hD : va_D A (wz_60 wek cwek j17_wek wei cwei j17_wei wes cwes j17_wes wez cwez j17_wez h0 aw ac n8 h0_limit n9 h0_codeCount ob h0_openCount aw ab ac aw_typeCount wat wap wag aw_functionCount waf aw_hasMemory aw_pagesLeast aw_pagesMost aw_globalCount wgt wft wfv wgc x5 wek wei wes wez ab ax ab_length ax cax gax) := hD
      refine lv_l2i hx hb d_RE_readExports_42 rfl ?_
      refine lv_topi (fun x10 ex10 => ?_)
      have tx10 := l2i_t ex10 (by (first | (apply Int.le_antisymm <;> omega) | omega)) (by (first | (apply Int.le_antisymm <;> omega) | omega))
      refine lv_istore_n (lv' := [(2, .int x10), (0, .ref h0), (1, .int j17_l1)]) hx hb d_RE_readExports_43 rfl hl (by decide) rfl (fun ls hl => ?_)
      refine lv_aload_n hx hb d_RE_readExports_44 rfl (lv_at hl 1 rfl) ?_
      refine va_get (D := (dC, dI)) (ci := 7) (v := .ref aw) (C := R_RE) (T := F_RE) (N := 8) hx hb hts i_RE hown hK hP 4 rfl rfl 0 (by decide) (hts _ kF_RE_15) (fun _ h9 => h9) rfl d_RE_readExports_45 ?_
      refine va_get (D := (dC, dI)) (ci := 10) (v := .ref wes) (C := R_WA) (T := F_WA) (N := 21) hx hb hts i_WA hown hK hP 5 rfl rfl 19 (by decide) (hts _ kF_RE_158) (fun _ h9 => h9) rfl d_RE_readExports_48 ?_
      refine lv_iload_n hx hb d_RE_readExports_51 rfl (lv_at hl 2 rfl) ?_
      refine lv_aload_n hx hb d_RE_readExports_52 rfl (lv_at hl 1 rfl) ?_
      refine va_get (D := (dC, dI)) (ci := 7) (v := .int n8) (C := R_RE) (T := F_RE) (N := 8) hx hb hts i_RE hown hK hP 4 rfl rfl 2 (by decide) (hts _ kF_RE_29) (fun _ h9 => h9) rfl d_RE_readExports_53 ?_
      have g56 : vp_in j17_l1 40 := vp_in_iff.mpr ⟨by (first | (apply Int.le_antisymm <;> omega) | omega), by (first | (apply Int.le_antisymm <;> omega) | omega)⟩
      refine va_iast hx hb hK hP hD hS 2 3 rfl rfl g56 d_RE_readExports_56 (fun H locs hP hD hS => ?_)
      generalize ef11 : upd j17_wes j17_l1.toNatClampNeg n8 = f11 at hP hD
      refine lv_aload_n hx hb d_RE_readExports_57 rfl (lv_at hl 1 rfl) ?_
      refine va_get (D := (dC, dI)) (ci := 7) (v := .ref aw) (C := R_RE) (T := F_RE) (N := 8) hx hb hts i_RE hown hK hP 4 rfl rfl 0 (by decide) (hts _ kF_RE_15) (fun _ h9 => h9) rfl d_RE_readExports_58 ?_
      refine va_get (D := (dC, dI)) (ci := 10) (v := .ref wez) (C := R_WA) (T := F_WA) (N := 21) hx hb hts i_WA hown hK hP 5 rfl rfl 20 (by decide) (hts _ kF_RE_161) (fun _ h9 => h9) rfl d_RE_readExports_61 ?_
      refine lv_iload_n hx hb d_RE_readExports_64 rfl (lv_at hl 2 rfl) ?_
      refine lv_iload_n hx hb d_RE_readExports_65 rfl (lv_at hl 0 rfl) ?_
      have g66 : vp_in j17_l1 40 := vp_in_iff.mpr ⟨by (first | (apply Int.le_antisymm <;> omega) | omega), by (first | (apply Int.le_antisymm <;> omega) | omega)⟩
      refine va_iast hx hb hK hP hD hS 3 4 rfl rfl g66 d_RE_readExports_66 (fun H locs hP hD hS => ?_)
      generalize ef12 : upd j17_wez j17_l1.toNatClampNeg x10 = f12 at hP hD
      refine lv_iconst (v := 0) hx hb d_RE_readExports_67 (by decide) ?_
      refine lv_istore_n (lv' := [(3, .int 0), (2, .int x10), (0, .ref h0), (1, .int j17_l1)]) hx hb d_RE_readExports_68 rfl hl (by decide) rfl (fun ls hl => ?_)
      refine w_loop (σ := Int32 × Int32 × Int32) (fun u H locs ls => match u with | (j69_l3, j69_h0_at, j69_h0_sound) => (0 ≤ j69_l3.toInt ∧ j69_l3.toInt ≤ 30) ∧ (j69_h0_sound = 0 ∨ j69_h0_sound = 1) ∧ (h0_at.toInt ≤ j69_h0_at.toInt ∧ j69_h0_at.toInt ≤ h0_limit.toInt) ∧ (j69_h0_sound.toInt = 1 → n9.toInt = 1) ∧ (j69_l3.toInt ≤ x10.toInt) ∧ va_P (dC, dI) cls (wz_60 wek cwek j17_wek wei cwei j17_wei wes cwes f11 wez cwez f12 h0 aw ac j69_h0_at h0_limit j69_h0_sound h0_codeCount ob h0_openCount aw ab ac aw_typeCount wat wap wag aw_functionCount waf aw_hasMemory aw_pagesLeast aw_pagesMost aw_globalCount wgt wft wfv wgc x5 wek wei wes wez ab ax ab_length ax cax gax) H ∧ va_D A (wz_60 wek cwek j17_wek wei cwei j17_wei wes cwes f11 wez cwez f12 h0 aw ac j69_h0_at h0_limit j69_h0_sound h0_codeCount ob h0_openCount aw ab ac aw_typeCount wat wap wag aw_functionCount waf aw_hasMemory aw_pagesLeast aw_pagesMost aw_globalCount wgt wft wfv wgc x5 wek wei wes wez ab ax ab_length ax cax gax) ∧ va_S A s.heap H locs ∧ lv_has ls 4 [(0, .ref h0), (1, .int j17_l1), (2, .int x10), (3, .int j69_l3)]) (fun u => match u with | (j69_l3, j69_h0_at, j69_h0_sound) => (x10.toInt - j69_l3.toInt).toNat) ?_ (0, n8, n9) ⟨by (try dsimp only); (first | (apply Int.le_antisymm <;> omega) | omega), hsn9, by (try dsimp only); (first | (apply Int.le_antisymm <;> omega) | omega), by (try dsimp only); (first | (apply Int.le_antisymm <;> omega) | omega), by (try dsimp only); (first | (apply Int.le_antisymm <;> omega) | omega), hP, hD, hS, lv_sub hl [2, 3, 1, 0] rfl⟩
      intro N69 ih69 u H locs ls hN69 hI
      obtain ⟨j69_l3, j69_h0_at, j69_h0_sound⟩ := u
      obtain ⟨b_j69_l3, b_j69_h0_sound, w1, w2, u1, hP, hD, hS, hl⟩ := hI
      have tj69_h0_sound := b01 b_j69_h0_sound
      have hN69 : (x10.toInt - j69_l3.toInt).toNat < N69 + 1 := hN69
      refine lv_iload_n hx hb d_RE_readExports_69 rfl (lv_at hl 3 rfl) ?_
      refine lv_iload_n hx hb d_RE_readExports_70 rfl (lv_at hl 2 rfl) ?_
      refine lv_icmp_ge (tgt := 85) hx hb d_RE_readExports_71 (by decide) (fun c71 => ?_) (fun c71 => ?_)
      · have q71 := leI c71
        refine lv_aload_n hx hb d_RE_readExports_85 rfl (lv_at hl 0 rfl) ?_
        have hPc := hP.sb (wq := (wz_46 h0 aw ac j69_h0_at h0_limit j69_h0_sound h0_codeCount ob h0_openCount aw ab ac aw_typeCount wat wap wag aw_functionCount waf aw_hasMemory aw_pagesLeast aw_pagesMost aw_globalCount wgt wft wfv wgc x5 wek wei wes wez ab ax ab_length ax cax gax)) [4, 5, 6, 7] rfl
        have hDc := hD.sb (wq := (wz_46 h0 aw ac j69_h0_at h0_limit j69_h0_sound h0_codeCount ob h0_openCount aw ab ac aw_typeCount wat wap wag aw_functionCount waf aw_hasMemory aw_pagesLeast aw_pagesMost aw_globalCount wgt wft wfv wgc x5 wek wei wes wez ab ax ab_length ax cax gax)) [4, 5, 6, 7] (by decide) rfl
        have hKc := hK.sb (tyq := [(cax, .byte)]) [0] rfl
        have hFc := va_free (wc := (wz_46 h0 aw ac j69_h0_at h0_limit j69_h0_sound h0_codeCount ob h0_openCount aw ab ac aw_typeCount wat wap wag aw_functionCount waf aw_hasMemory aw_pagesLeast aw_pagesMost aw_globalCount wgt wft wfv wgc x5 wek wei wes wez ab ax ab_length ax cax gax)) hD hS hA [4, 5, 6, 7] rfl
        refine va_calli (va_runV (As := []) (rest := []) ⟨hx, hb, hml, hown, hts⟩ (c_RE_next l dC dI h0 aw ac ob ab ax H.size cax 8192 j69_h0_at h0_limit j69_h0_sound h0_codeCount h0_openCount ab_length gax [.ref ab, .ref ac, .int aw_typeCount, .ref wat, .ref wap, .ref wag, .int aw_functionCount, .ref waf, .int aw_hasMemory, .long aw_pagesLeast, .long aw_pagesMost, .int aw_globalCount, .ref wgt, .ref wft, .ref wfv, .ref wgc, .int x5, .ref wek, .ref wei, .ref wes, .ref wez] rfl rfl b_j69_h0_sound (by (first | (apply Int.le_antisymm <;> omega) | omega)) ) (cwV 0 hts (gV kM_RE_60 kV_RE_next kS_RE_next kI_RE kC_RE_next) rfl rfl rfl (by decide +kernel) ⟨Nat.le_of_ble_eq_true rfl, Nat.le_of_ble_eq_true rfl⟩) ⟨fun a U g mk z => by obtain ⟨z0, z1, zP, zK, zD⟩ := z; exact ⟨z0, z1, zP, va_K.moved (u := U) (U := U.calling g mk a) (Vm.Alike.refl U.vm) zK, zD⟩, va_recv hKc hPc (ci := 7) (q0 := 0) rfl rfl, fun U hU hW => ⟨rfl, by rw [hU], va_P.he hU.symm hPc, va_K.moved hW.alike hKc, hDc.weaken (fun _ _ _ _ => trivial)⟩⟩ rfl rfl hl.1 rfl (lv_room (Nat.le_of_ble_eq_true rfl)) d_RE_readExports_86 ⟨(Nat.zero_le _), (Nat.zero_le _)⟩) hS (fun q _ h => hFc q h) hFc (fun r13 u t H1 locs ht hvm hw hB hz1 hk1 hS => ?_)
        obtain ⟨n14, n15⟩ := u
        try dsimp only at hw
        obtain ⟨hsn15, tn14⟩ := hw
        have bsn15 := b01 hsn15
        obtain ⟨hP1, hK1, hD1⟩ := hB
        replace hP1 := va_P.he ht hP1
        obtain ⟨hP, hD⟩ := va_join (wr := (wz_59 wek cwek j17_wek wei cwei j17_wei wes cwes f11 wez cwez f12)) (w1 := (wz_46 h0 aw ac n14 h0_limit n15 h0_codeCount ob h0_openCount aw ab ac aw_typeCount wat wap wag aw_functionCount waf aw_hasMemory aw_pagesLeast aw_pagesMost aw_globalCount wgt wft wfv wgc x5 wek wei wes wez ab ax ab_length ax cax gax)) hP hD [4, 5, 6, 7] [0, 1, 2, 3] rfl rfl (by decide) (by decide) hk1 hFc hP1 hD1
        clear hPc hDc hKc hFc hz1 hk1 hP1 hK1 hD1
        rename Heap => H
        have hP : va_P (dC, dI) cls (wz_60 wek cwek j17_wek wei cwei j17_wei wes cwes f11 wez cwez f12 h0 aw ac n14 h0_limit n15 h0_codeCount ob h0_openCount aw ab ac aw_typeCount wat wap wag aw_functionCount waf aw_hasMemory aw_pagesLeast aw_pagesMost aw_globalCount wgt wft wfv wgc x5 wek wei wes wez ab ax ab_length ax cax gax) H := hP
        have hD : va_D A (wz_60 wek cwek j17_wek wei cwei j17_wei wes cwes f11 wez cwez f12 h0 aw ac n14 h0_limit n15 h0_codeCount ob h0_openCount aw ab ac aw_typeCount wat wap wag aw_functionCount waf aw_hasMemory aw_pagesLeast aw_pagesMost aw_globalCount wgt wft wfv wgc x5 wek wei wes wez ab ax ab_length ax cax gax) := hD
        refine lv_istore_n (lv' := [(3, .int r13), (0, .ref h0), (1, .int j17_l1), (2, .int x10)]) hx hb d_RE_readExports_89 rfl hl (by decide) rfl (fun ls hl => ?_)
        refine lv_aload_n hx hb d_RE_readExports_90 rfl (lv_at hl 1 rfl) ?_
        refine lv_aload_n hx hb d_RE_readExports_91 rfl (lv_at hl 1 rfl) ?_
        refine va_get (D := (dC, dI)) (ci := 7) (v := .int n15) (C := R_RE) (T := F_RE) (N := 8) hx hb hts i_RE hown hK hP 4 rfl rfl 4 (by decide) (hts _ kF_RE_45) (fun _ h9 => h9) rfl d_RE_readExports_92 ?_
        refine w_cut (pc2 := 117) (σ := Int32) (fun u H locs ls => match u with | j117_s0 => (j117_s0 = 0 ∨ j117_s0 = 1) ∧ (j117_s0.toInt = 1 → n15.toInt = 1) ∧ va_P (dC, dI) cls (wz_60 wek cwek j17_wek wei cwei j17_wei wes cwes f11 wez cwez f12 h0 aw ac n14 h0_limit n15 h0_codeCount ob h0_openCount aw ab ac aw_typeCount wat wap wag aw_functionCount waf aw_hasMemory aw_pagesLeast aw_pagesMost aw_globalCount wgt wft wfv wgc x5 wek wei wes wez ab ax ab_length ax cax gax) H ∧ va_D A (wz_60 wek cwek j17_wek wei cwei j17_wei wes cwes f11 wez cwez f12 h0 aw ac n14 h0_limit n15 h0_codeCount ob h0_openCount aw ab ac aw_typeCount wat wap wag aw_functionCount waf aw_hasMemory aw_pagesLeast aw_pagesMost aw_globalCount wgt wft wfv wgc x5 wek wei wes wez ab ax ab_length ax cax gax) ∧ va_S A s.heap H locs ∧ lv_has ls 4 [(0, .ref h0), (1, .int j17_l1), (3, .int r13)]) (fun u => match u with | j117_s0 => [.int j117_s0, .ref h0]) ?_ (fun jn117 => ?_)
        · intro u H locs ls hI
          obtain ⟨j117_s0, rfl⟩ : ∃ z, z = u := ⟨_, rfl⟩
          obtain ⟨b_j117_s0, x0, hP, hD, hS, hl⟩ := hI
          have tj117_s0 := b01 b_j117_s0
          refine va_put (D := (dC, dI)) (ci := 7) (v := .int j117_s0) (ty := .boolean) (C := R_RE) (T := F_RE) (N := 8) hx hb hts i_RE t_RE t_RE_ok n_RE hown hK hP hD hS 4 rfl rfl 4 (by decide) (hts _ kF_RE_45) (fun _ h9 => h9) rfl (by decide +kernel) (zn01 (b_j117_s0)) (fz01 (b_j117_s0)) (Nat.le_of_ble_eq_true rfl) d_RE_readExports_117 (fun H locs hP hD hS => ?_)
          refine lv_aload_n hx hb d_RE_readExports_120 rfl (lv_at hl 0 rfl) ?_
          refine va_get (D := (dC, dI)) (ci := 7) (v := .ref aw) (C := R_RE) (T := F_RE) (N := 8) hx hb hts i_RE hown hK hP 4 rfl rfl 0 (by decide) (hts _ kF_RE_15) (fun _ h9 => h9) rfl d_RE_readExports_121 ?_
          refine va_get (D := (dC, dI)) (ci := 10) (v := .ref wek) (C := R_WA) (T := F_WA) (N := 21) hx hb hts i_WA hown hK hP 5 rfl rfl 17 (by decide) (hts _ kF_RE_164) (fun _ h9 => h9) rfl d_RE_readExports_124 ?_
          refine lv_iload_n hx hb d_RE_readExports_127 rfl (lv_at hl 1 rfl) ?_
          refine lv_iload_n hx hb d_RE_readExports_128 rfl (lv_at hl 2 rfl) ?_
          have g129 : vp_in j17_l1 40 := vp_in_iff.mpr ⟨by (first | (apply Int.le_antisymm <;> omega) | omega), by (first | (apply Int.le_antisymm <;> omega) | omega)⟩
          refine va_iast hx hb hK hP hD hS 0 1 rfl rfl g129 d_RE_readExports_129 (fun H locs hP hD hS => ?_)
          generalize ef16 : upd j17_wek j17_l1.toNatClampNeg r13 = f16 at hP hD
          refine lv_aload_n hx hb d_RE_readExports_130 rfl (lv_at hl 0 rfl) ?_
          refine va_get (D := (dC, dI)) (ci := 7) (v := .ref aw) (C := R_RE) (T := F_RE) (N := 8) hx hb hts i_RE hown hK hP 4 rfl rfl 0 (by decide) (hts _ kF_RE_15) (fun _ h9 => h9) rfl d_RE_readExports_131 ?_
          refine va_get (D := (dC, dI)) (ci := 10) (v := .ref wei) (C := R_WA) (T := F_WA) (N := 21) hx hb hts i_WA hown hK hP 5 rfl rfl 18 (by decide) (hts _ kF_RE_167) (fun _ h9 => h9) rfl d_RE_readExports_134 ?_
          refine lv_iload_n hx hb d_RE_readExports_137 rfl (lv_at hl 1 rfl) ?_
          refine lv_aload_n hx hb d_RE_readExports_138 rfl (lv_at hl 0 rfl) ?_
          refine lv_ldc2 hx hb hown (hts _ kL_RE_82) d_RE_readExports_139 ?_
          refine lv_topl (fun x17 ex17 => ?_)
          have tx17 : x17.toInt = 2147483647 := by rw [ex17]; decide
          have hPc := hP.sb (wq := (wz_46 h0 aw ac n14 h0_limit j117_s0 h0_codeCount ob h0_openCount aw ab ac aw_typeCount wat wap wag aw_functionCount waf aw_hasMemory aw_pagesLeast aw_pagesMost aw_globalCount wgt wft wfv wgc x5 wek wei wes wez ab ax ab_length ax cax gax)) [4, 5, 6, 7] rfl
          have hDc := hD.sb (wq := (wz_46 h0 aw ac n14 h0_limit j117_s0 h0_codeCount ob h0_openCount aw ab ac aw_typeCount wat wap wag aw_functionCount waf aw_hasMemory aw_pagesLeast aw_pagesMost aw_globalCount wgt wft wfv wgc x5 wek wei wes wez ab ax ab_length ax cax gax)) [4, 5, 6, 7] (by decide) rfl
          have hKc := hK.sb (tyq := [(cax, .byte)]) [0] rfl
          have hFc := va_free (wc := (wz_46 h0 aw ac n14 h0_limit j117_s0 h0_codeCount ob h0_openCount aw ab ac aw_typeCount wat wap wag aw_functionCount waf aw_hasMemory aw_pagesLeast aw_pagesMost aw_globalCount wgt wft wfv wgc x5 wek wei wes wez ab ax ab_length ax cax gax)) hD hS hA [4, 5, 6, 7] rfl
          refine va_calll (va_runV (As := [.long x17]) (rest := [.int j17_l1, .ref wei]) ⟨hx, hb, hml, hown, hts⟩ (c_RE_readUnsigned l dC dI h0 aw ac ob ab ax H.size cax 8192 n14 h0_limit j117_s0 h0_codeCount h0_openCount ab_length gax [.ref ab, .ref ac, .int aw_typeCount, .ref wat, .ref wap, .ref wag, .int aw_functionCount, .ref waf, .int aw_hasMemory, .long aw_pagesLeast, .long aw_pagesMost, .int aw_globalCount, .ref wgt, .ref wft, .ref wfv, .ref wgc, .int x5, .ref wek, .ref wei, .ref wes, .ref wez] rfl rfl b_j117_s0 (by (first | (apply Int.le_antisymm <;> omega) | omega)) x17 (by (first | (apply Int.le_antisymm <;> omega) | omega))) (cwV 1 hts (gV kM_RE_64 kV_RE_readUnsigned kS_RE_readUnsigned kI_RE kC_RE_readUnsigned) rfl rfl rfl (by decide +kernel) ⟨Nat.le_of_ble_eq_true rfl, Nat.le_of_ble_eq_true rfl⟩) ⟨fun a U g mk z => by obtain ⟨z0, z1, zP, zK, zD⟩ := z; exact ⟨z0, z1, zP, va_K.moved (u := U) (U := U.calling g mk a) (Vm.Alike.refl U.vm) zK, zD⟩, va_recv hKc hPc (ci := 7) (q0 := 0) rfl rfl, fun U hU hW => ⟨rfl, by rw [hU], va_P.he hU.symm hPc, va_K.moved hW.alike hKc, hDc.weaken (fun _ _ _ _ => trivial)⟩⟩ rfl rfl hl.1 rfl (lv_room (Nat.le_of_ble_eq_true rfl)) d_RE_readExports_142 ⟨(Nat.zero_le _), (Nat.zero_le _)⟩) hS (fun q _ h => hFc q h) hFc (fun r18 u t H1 locs ht hvm hw hB hz1 hk1 hS => ?_)
          obtain ⟨n19, n20⟩ := u
          try dsimp only at hw
          obtain ⟨hsn20, tn19⟩ := hw
          have bsn20 := b01 hsn20
          obtain ⟨hP1, hK1, hD1⟩ := hB
          replace hP1 := va_P.he ht hP1
          obtain ⟨hP, hD⟩ := va_join (wr := (wz_59 wek cwek f16 wei cwei j17_wei wes cwes f11 wez cwez f12)) (w1 := (wz_46 h0 aw ac n19 h0_limit n20 h0_codeCount ob h0_openCount aw ab ac aw_typeCount wat wap wag aw_functionCount waf aw_hasMemory aw_pagesLeast aw_pagesMost aw_globalCount wgt wft wfv wgc x5 wek wei wes wez ab ax ab_length ax cax gax)) hP hD [4, 5, 6, 7] [0, 1, 2, 3] rfl rfl (by decide) (by decide) hk1 hFc hP1 hD1
          clear hPc hDc hKc hFc hz1 hk1 hP1 hK1 hD1
          rename Heap => H
          have hP : va_P (dC, dI) cls (wz_60 wek cwek f16 wei cwei j17_wei wes cwes f11 wez cwez f12 h0 aw ac n19 h0_limit n20 h0_codeCount ob h0_openCount aw ab ac aw_typeCount wat wap wag aw_functionCount waf aw_hasMemory aw_pagesLeast aw_pagesMost aw_globalCount wgt wft wfv wgc x5 wek wei wes wez ab ax ab_length ax cax gax) H := hP
          have hD : va_D A (wz_60 wek cwek f16 wei cwei j17_wei wes cwes f11 wez cwez f12 h0 aw ac n19 h0_limit n20 h0_codeCount ob h0_openCount aw ab ac aw_typeCount wat wap wag aw_functionCount waf aw_hasMemory aw_pagesLeast aw_pagesMost aw_globalCount wgt wft wfv wgc x5 wek wei wes wez ab ax ab_length ax cax gax) := hD
          refine lv_l2i hx hb d_RE_readExports_145 rfl ?_
          refine lv_topi (fun x21 ex21 => ?_)
          have tx21 := l2i_t ex21 (by (first | (apply Int.le_antisymm <;> omega) | omega)) (by (first | (apply Int.le_antisymm <;> omega) | omega))
          have g146 : vp_in j17_l1 40 := vp_in_iff.mpr ⟨by (first | (apply Int.le_antisymm <;> omega) | omega), by (first | (apply Int.le_antisymm <;> omega) | omega)⟩
          refine va_iast hx hb hK hP hD hS 1 2 rfl rfl g146 d_RE_readExports_146 (fun H locs hP hD hS => ?_)
          generalize ef22 : upd j17_wei j17_l1.toNatClampNeg x21 = f22 at hP hD
          obtain ⟨x23, ex23⟩ : ∃ z : Int32, z = j17_l1 + 1 := ⟨_, rfl⟩
          have tx23 : x23.toInt = j17_l1.toInt + 1 := by have z := i32_add ex23 (by (first | (apply Int.le_antisymm <;> omega) | omega)) (by (first | (apply Int.le_antisymm <;> omega) | omega)); first | exact z | (first | (apply Int.le_antisymm <;> omega) | omega)
          refine lv_iinc (v := x23) (lv' := [(1, .int x23), (0, .ref h0), (3, .int r13)]) hx hb d_RE_readExports_147 hl (k := 1) rfl (by rw [ex23]; rfl) (by decide) rfl (fun ls hl => ?_)
          refine lv_goto (tgt := 17) hx hb d_RE_readExports_150 (by decide) ?_
          have c9 := i32_clamp (x := j17_l1) (by (first | (apply Int.le_antisymm <;> omega) | omega))
          exact ih17 (x23, f22, f16, f11, f12, n19, n20) _ _ _ (by show (x5.toInt - x23.toInt).toNat < N17; (first | (apply Int.le_antisymm <;> omega) | omega)) ⟨by (try dsimp only); (first | (apply Int.le_antisymm <;> omega) | omega), hsn20, by (try dsimp only); (first | (apply Int.le_antisymm <;> omega) | omega), by (try dsimp only); (first | (apply Int.le_antisymm <;> omega) | omega), by (try dsimp only); (first | (apply Int.le_antisymm <;> omega) | omega), by rw [← ef12]; exact upd_all (Q := fun v => 0 ≤ v.toInt) (P := fun g => (g : Int) < j17_l1.toInt) v4 (by (try dsimp only); (first | (apply Int.le_antisymm <;> omega) | omega)) (fun g q => by (try dsimp only at q); by_cases y : g = j17_l1.toNatClampNeg; exact Or.inl y; exact Or.inr (by (try dsimp only); (first | (apply Int.le_antisymm <;> omega) | omega))), hP, hD, hS, lv_sub hl [1, 0] rfl⟩
        · skip
          refine w_cut (pc2 := 116) (σ := Unit) (fun u H locs ls => match u with | _ => va_P (dC, dI) cls (wz_60 wek cwek j17_wek wei cwei j17_wei wes cwes f11 wez cwez f12 h0 aw ac n14 h0_limit n15 h0_codeCount ob h0_openCount aw ab ac aw_typeCount wat wap wag aw_functionCount waf aw_hasMemory aw_pagesLeast aw_pagesMost aw_globalCount wgt wft wfv wgc x5 wek wei wes wez ab ax ab_length ax cax gax) H ∧ va_D A (wz_60 wek cwek j17_wek wei cwei j17_wei wes cwes f11 wez cwez f12 h0 aw ac n14 h0_limit n15 h0_codeCount ob h0_openCount aw ab ac aw_typeCount wat wap wag aw_functionCount waf aw_hasMemory aw_pagesLeast aw_pagesMost aw_globalCount wgt wft wfv wgc x5 wek wei wes wez ab ax ab_length ax cax gax) ∧ va_S A s.heap H locs ∧ lv_has ls 4 [(0, .ref h0), (1, .int j17_l1), (3, .int r13)]) (fun u => match u with | _ => [.ref h0]) ?_ (fun jn116 => ?_)
          · intro u H locs ls hI
            obtain ⟨hP, hD, hS, hl⟩ := hI
            refine lv_iconst (v := 0) hx hb d_RE_readExports_116 (by decide) ?_
            exact jn117 0 _ _ _ ⟨Or.inl rfl, by (try dsimp only); (first | (apply Int.le_antisymm <;> omega) | omega), hP, hD, hS, lv_sub hl [0, 1, 2] rfl⟩
          · skip
            refine lv_if_eq (tgt := 116) hx hb d_RE_readExports_95 (by decide) (fun c95 => ?_) (fun c95 => ?_)
            · have q95 := eqI c95
              exact jn116 () _ _ _ ⟨hP, hD, hS, lv_sub hl [1, 2, 0] rfl⟩
            · have q95 := neI c95
              refine lv_iload_n hx hb d_RE_readExports_98 rfl (lv_at hl 0 rfl) ?_
              refine w_cut (pc2 := 112) (σ := Unit) (fun u H locs ls => match u with | _ => va_P (dC, dI) cls (wz_60 wek cwek j17_wek wei cwei j17_wei wes cwes f11 wez cwez f12 h0 aw ac n14 h0_limit n15 h0_codeCount ob h0_openCount aw ab ac aw_typeCount wat wap wag aw_functionCount waf aw_hasMemory aw_pagesLeast aw_pagesMost aw_globalCount wgt wft wfv wgc x5 wek wei wes wez ab ax ab_length ax cax gax) H ∧ va_D A (wz_60 wek cwek j17_wek wei cwei j17_wei wes cwes f11 wez cwez f12 h0 aw ac n14 h0_limit n15 h0_codeCount ob h0_openCount aw ab ac aw_typeCount wat wap wag aw_functionCount waf aw_hasMemory aw_pagesLeast aw_pagesMost aw_globalCount wgt wft wfv wgc x5 wek wei wes wez ab ax ab_length ax cax gax) ∧ va_S A s.heap H locs ∧ lv_has ls 4 [(0, .ref h0), (1, .int j17_l1), (3, .int r13)]) (fun u => match u with | _ => [.ref h0]) ?_ (fun jn112 => ?_)
              · intro u H locs ls hI
                obtain ⟨hP, hD, hS, hl⟩ := hI
                refine lv_iconst (v := 1) hx hb d_RE_readExports_112 (by decide) ?_
                refine lv_goto (tgt := 117) hx hb d_RE_readExports_113 (by decide) ?_
                exact jn117 1 _ _ _ ⟨Or.inr rfl, by (try dsimp only); (first | (apply Int.le_antisymm <;> omega) | omega), hP, hD, hS, lv_sub hl [0, 1, 2] rfl⟩
              · skip
                refine lv_if_eq (tgt := 112) hx hb d_RE_readExports_99 (by decide) (fun c99 => ?_) (fun c99 => ?_)
                · have q99 := eqI c99
                  exact jn112 () _ _ _ ⟨hP, hD, hS, lv_sub hl [1, 2, 0] rfl⟩
                · have q99 := neI c99
                  refine lv_iload_n hx hb d_RE_readExports_102 rfl (lv_at hl 0 rfl) ?_
                  refine lv_iconst (v := 2) hx hb d_RE_readExports_103 (by decide) ?_
                  refine lv_icmp_eq (tgt := 112) hx hb d_RE_readExports_104 (by decide) (fun c104 => ?_) (fun c104 => ?_)
                  · have q104 := eqI c104
                    exact jn112 () _ _ _ ⟨hP, hD, hS, lv_sub hl [1, 2, 0] rfl⟩
                  · have q104 := neI c104
                    refine lv_iload_n hx hb d_RE_readExports_107 rfl (lv_at hl 0 rfl) ?_
                    refine lv_iconst (v := 3) hx hb d_RE_readExports_108 (by decide) ?_
                    refine lv_icmp_ne (tgt := 116) hx hb d_RE_readExports_109 (by decide) (fun c109 => ?_) (fun c109 => ?_)
                    · have q109 := neI c109
                      exact jn116 () _ _ _ ⟨hP, hD, hS, lv_sub hl [1, 2, 0] rfl⟩
                    · have q109 := eqI c109
                      exact jn112 () _ _ _ ⟨hP, hD, hS, lv_sub hl [1, 2, 0] rfl⟩
      · have q71 := nleI c71
        refine lv_aload_n hx hb d_RE_readExports_74 rfl (lv_at hl 0 rfl) ?_
        have hPc := hP.sb (wq := (wz_46 h0 aw ac j69_h0_at h0_limit j69_h0_sound h0_codeCount ob h0_openCount aw ab ac aw_typeCount wat wap wag aw_functionCount waf aw_hasMemory aw_pagesLeast aw_pagesMost aw_globalCount wgt wft wfv wgc x5 wek wei wes wez ab ax ab_length ax cax gax)) [4, 5, 6, 7] rfl
        have hDc := hD.sb (wq := (wz_46 h0 aw ac j69_h0_at h0_limit j69_h0_sound h0_codeCount ob h0_openCount aw ab ac aw_typeCount wat wap wag aw_functionCount waf aw_hasMemory aw_pagesLeast aw_pagesMost aw_globalCount wgt wft wfv wgc x5 wek wei wes wez ab ax ab_length ax cax gax)) [4, 5, 6, 7] (by decide) rfl
        have hKc := hK.sb (tyq := [(cax, .byte)]) [0] rfl
        have hFc := va_free (wc := (wz_46 h0 aw ac j69_h0_at h0_limit j69_h0_sound h0_codeCount ob h0_openCount aw ab ac aw_typeCount wat wap wag aw_functionCount waf aw_hasMemory aw_pagesLeast aw_pagesMost aw_globalCount wgt wft wfv wgc x5 wek wei wes wez ab ax ab_length ax cax gax)) hD hS hA [4, 5, 6, 7] rfl
        refine va_calli (va_runV (As := []) (rest := []) ⟨hx, hb, hml, hown, hts⟩ (c_RE_next l dC dI h0 aw ac ob ab ax H.size cax 8192 j69_h0_at h0_limit j69_h0_sound h0_codeCount h0_openCount ab_length gax [.ref ab, .ref ac, .int aw_typeCount, .ref wat, .ref wap, .ref wag, .int aw_functionCount, .ref waf, .int aw_hasMemory, .long aw_pagesLeast, .long aw_pagesMost, .int aw_globalCount, .ref wgt, .ref wft, .ref wfv, .ref wgc, .int x5, .ref wek, .ref wei, .ref wes, .ref wez] rfl rfl b_j69_h0_sound (by (first | (apply Int.le_antisymm <;> omega) | omega)) ) (cwV 0 hts (gV kM_RE_60 kV_RE_next kS_RE_next kI_RE kC_RE_next) rfl rfl rfl (by decide +kernel) ⟨Nat.le_of_ble_eq_true rfl, Nat.le_of_ble_eq_true rfl⟩) ⟨fun a U g mk z => by obtain ⟨z0, z1, zP, zK, zD⟩ := z; exact ⟨z0, z1, zP, va_K.moved (u := U) (U := U.calling g mk a) (Vm.Alike.refl U.vm) zK, zD⟩, va_recv hKc hPc (ci := 7) (q0 := 0) rfl rfl, fun U hU hW => ⟨rfl, by rw [hU], va_P.he hU.symm hPc, va_K.moved hW.alike hKc, hDc.weaken (fun _ _ _ _ => trivial)⟩⟩ rfl rfl hl.1 rfl (lv_room (Nat.le_of_ble_eq_true rfl)) d_RE_readExports_75 ⟨(Nat.zero_le _), (Nat.zero_le _)⟩) hS (fun q _ h => hFc q h) hFc (fun r24 u t H1 locs ht hvm hw hB hz1 hk1 hS => ?_)
        obtain ⟨n25, n26⟩ := u
        try dsimp only at hw
        obtain ⟨hsn26, tn25⟩ := hw
        have bsn26 := b01 hsn26
        obtain ⟨hP1, hK1, hD1⟩ := hB
        replace hP1 := va_P.he ht hP1
        obtain ⟨hP, hD⟩ := va_join (wr := (wz_59 wek cwek j17_wek wei cwei j17_wei wes cwes f11 wez cwez f12)) (w1 := (wz_46 h0 aw ac n25 h0_limit n26 h0_codeCount ob h0_openCount aw ab ac aw_typeCount wat wap wag aw_functionCount waf aw_hasMemory aw_pagesLeast aw_pagesMost aw_globalCount wgt wft wfv wgc x5 wek wei wes wez ab ax ab_length ax cax gax)) hP hD [4, 5, 6, 7] [0, 1, 2, 3] rfl rfl (by decide) (by decide) hk1 hFc hP1 hD1
        clear hPc hDc hKc hFc hz1 hk1 hP1 hK1 hD1
        rename Heap => H
        have hP : va_P (dC, dI) cls (wz_60 wek cwek j17_wek wei cwei j17_wei wes cwes f11 wez cwez f12 h0 aw ac n25 h0_limit n26 h0_codeCount ob h0_openCount aw ab ac aw_typeCount wat wap wag aw_functionCount waf aw_hasMemory aw_pagesLeast aw_pagesMost aw_globalCount wgt wft wfv wgc x5 wek wei wes wez ab ax ab_length ax cax gax) H := hP
        have hD : va_D A (wz_60 wek cwek j17_wek wei cwei j17_wei wes cwes f11 wez cwez f12 h0 aw ac n25 h0_limit n26 h0_codeCount ob h0_openCount aw ab ac aw_typeCount wat wap wag aw_functionCount waf aw_hasMemory aw_pagesLeast aw_pagesMost aw_globalCount wgt wft wfv wgc x5 wek wei wes wez ab ax ab_length ax cax gax) := hD
        refine lv_pop hx hb d_RE_readExports_78 rfl ?_
        obtain ⟨x27, ex27⟩ : ∃ z : Int32, z = j69_l3 + 1 := ⟨_, rfl⟩
        have tx27 : x27.toInt = j69_l3.toInt + 1 := by have z := i32_add ex27 (by (first | (apply Int.le_antisymm <;> omega) | omega)) (by (first | (apply Int.le_antisymm <;> omega) | omega)); first | exact z | (first | (apply Int.le_antisymm <;> omega) | omega)
        refine lv_iinc (v := x27) (lv' := [(3, .int x27), (0, .ref h0), (1, .int j17_l1), (2, .int x10)]) hx hb d_RE_readExports_79 hl (k := 3) rfl (by rw [ex27]; rfl) (by decide) rfl (fun ls hl => ?_)
        refine lv_goto (tgt := 69) hx hb d_RE_readExports_82 (by decide) ?_
        exact ih69 (x27, n25, n26) _ _ _ (by show (x10.toInt - x27.toInt).toNat < N69; (first | (apply Int.le_antisymm <;> omega) | omega)) ⟨by (try dsimp only); (first | (apply Int.le_antisymm <;> omega) | omega), hsn26, by (try dsimp only); (first | (apply Int.le_antisymm <;> omega) | omega), by (try dsimp only); (first | (apply Int.le_antisymm <;> omega) | omega), by (try dsimp only); (first | (apply Int.le_antisymm <;> omega) | omega), hP, hD, hS, lv_sub hl [1, 2, 3, 0] rfl⟩
end q_19
section q_20
/-! Reader: a section; Wafer.clear -/
abbrev b_WA_clear : ByteArray := prog_13_method_2_code
def y_WA_clear : MethodName := ⟨R_WA, "clear", "()V"⟩
abbrev w_WA_clear : List Cond := .code y_WA_clear b_WA_clear 1 none :: lw_g
theorem kC_WA_clear : Cond.code y_WA_clear b_WA_clear 1 none ∈ lw_g := in_c6 74 rfl rfl
theorem d_WA_clear_0 : decode b_WA_clear 0 = .ok (.aload_n 0, 1) := bz_c42 (by decide +kernel)
theorem d_WA_clear_1 : decode b_WA_clear 1 = .ok (.getfield 23, 3) := bz_c180 (by decide +kernel)
theorem d_WA_clear_4 : decode b_WA_clear 4 = .ok (.iconst 0, 1) := bz_c3 (by decide +kernel)
theorem d_WA_clear_5 : decode b_WA_clear 5 = .ok (.putfield 66, 3) := bz_c181 (by decide +kernel)
theorem d_WA_clear_8 : decode b_WA_clear 8 = .ok (.aload_n 0, 1) := bz_c42 (by decide +kernel)
theorem d_WA_clear_9 : decode b_WA_clear 9 = .ok (.getfield 23, 3) := bz_c180 (by decide +kernel)
theorem d_WA_clear_12 : decode b_WA_clear 12 = .ok (.iconst 0, 1) := bz_c3 (by decide +kernel)
theorem d_WA_clear_13 : decode b_WA_clear 13 = .ok (.putfield 70, 3) := bz_c181 (by decide +kernel)
theorem d_WA_clear_16 : decode b_WA_clear 16 = .ok (.aload_n 0, 1) := bz_c42 (by decide +kernel)
theorem d_WA_clear_17 : decode b_WA_clear 17 = .ok (.iconst 0, 1) := bz_c3 (by decide +kernel)
theorem d_WA_clear_18 : decode b_WA_clear 18 = .ok (.putfield 73, 3) := bz_c181 (by decide +kernel)
theorem d_WA_clear_21 : decode b_WA_clear 21 = .ok (.aload_n 0, 1) := bz_c42 (by decide +kernel)
theorem d_WA_clear_22 : decode b_WA_clear 22 = .ok (.iconst 0, 1) := bz_c3 (by decide +kernel)
theorem d_WA_clear_23 : decode b_WA_clear 23 = .ok (.putfield 76, 3) := bz_c181 (by decide +kernel)
theorem d_WA_clear_26 : decode b_WA_clear 26 = .ok (.aload_n 0, 1) := bz_c42 (by decide +kernel)
theorem d_WA_clear_27 : decode b_WA_clear 27 = .ok (.iconst 0, 1) := bz_c3 (by decide +kernel)
theorem d_WA_clear_28 : decode b_WA_clear 28 = .ok (.putfield 79, 3) := bz_c181 (by decide +kernel)
theorem d_WA_clear_31 : decode b_WA_clear 31 = .ok (.aload_n 0, 1) := bz_c42 (by decide +kernel)
theorem d_WA_clear_32 : decode b_WA_clear 32 = .ok (.lconst 0, 1) := bz_c9 (by decide +kernel)
theorem d_WA_clear_33 : decode b_WA_clear 33 = .ok (.putfield 83, 3) := bz_c181 (by decide +kernel)
theorem d_WA_clear_36 : decode b_WA_clear 36 = .ok (.aload_n 0, 1) := bz_c42 (by decide +kernel)
theorem d_WA_clear_37 : decode b_WA_clear 37 = .ok (.ldc2_w 87, 3) := bz_c20 (by decide +kernel)
theorem d_WA_clear_40 : decode b_WA_clear 40 = .ok (.putfield 89, 3) := bz_c181 (by decide +kernel)
theorem d_WA_clear_43 : decode b_WA_clear 43 = .ok (.aload_n 0, 1) := bz_c42 (by decide +kernel)
theorem d_WA_clear_44 : decode b_WA_clear 44 = .ok (.iconst 0, 1) := bz_c3 (by decide +kernel)
theorem d_WA_clear_45 : decode b_WA_clear 45 = .ok (.putfield 92, 3) := bz_c181 (by decide +kernel)
theorem d_WA_clear_48 : decode b_WA_clear 48 = .ok (.aload_n 0, 1) := bz_c42 (by decide +kernel)
theorem d_WA_clear_49 : decode b_WA_clear 49 = .ok (.iconst 0, 1) := bz_c3 (by decide +kernel)
theorem d_WA_clear_50 : decode b_WA_clear 50 = .ok (.putfield 95, 3) := bz_c181 (by decide +kernel)
theorem d_WA_clear_53 : decode b_WA_clear 53 = .ok (.return_, 1) := bz_c177 (by decide +kernel)
theorem kF_WA_66 : Cond.fieldLink R_WA 66 "WaferForge$Codes" "length" "I" ∈ lw_g := in_c1 94 rfl rfl
theorem kF_WA_70 : Cond.fieldLink R_WA 70 "WaferForge$Codes" "labelCount" "I" ∈ lw_g := in_c1 112 rfl rfl
theorem kF_WA_73 : Cond.fieldLink R_WA 73 "WaferForge$Wafer" "typeCount" "I" ∈ lw_g := in_c1 149 rfl rfl
theorem kF_WA_76 : Cond.fieldLink R_WA 76 "WaferForge$Wafer" "functionCount" "I" ∈ lw_g := in_c1 158 rfl rfl
theorem kF_WA_79 : Cond.fieldLink R_WA 79 "WaferForge$Wafer" "hasMemory" "Z" ∈ lw_g := in_c1 165 rfl rfl
theorem kF_WA_83 : Cond.fieldLink R_WA 83 "WaferForge$Wafer" "pagesLeast" "J" ∈ lw_g := in_c1 169 rfl rfl
theorem kL_WA_87 : Cond.constantLong R_WA 87 (-1) ∈ lw_g := in_c6 75 rfl rfl
theorem kF_WA_89 : Cond.fieldLink R_WA 89 "WaferForge$Wafer" "pagesMost" "J" ∈ lw_g := in_c1 172 rfl rfl
theorem kF_WA_92 : Cond.fieldLink R_WA 92 "WaferForge$Wafer" "globalCount" "I" ∈ lw_g := in_c1 177 rfl rfl
theorem kF_WA_95 : Cond.fieldLink R_WA 95 "WaferForge$Wafer" "exportCount" "I" ∈ lw_g := in_c1 193 rfl rfl
abbrev at_WA_clear (dC : Nat → ClassId) (dI : Nat → Nat → Nat) (h0 h0_bytes_r ac h0_typeTakes_r h0_typeParameters_r h0_typeGives_r h0_functionType_r h0_globalTypes_r h0_firstTypes_r h0_firstValues_r h0_globalChanges_r h0_exportKinds_r h0_exportIndices_r h0_exportStarts_r h0_exportSizes_r ac_firsts_r ac_localCounts_r ac_localTypes_r ac_ops_r ac_values_r ac_partners_r ac_elses_r ac_labels_r : Nat)  (A : Nat → Prop) (u : Int32 × Int32 × Int32 × Int32 × Int32 × Int32 × Int64 × Int64 × Int32) (t : State) : Prop := match u with | (ac_labelCount, ac_length, h0_exportCount, h0_functionCount, h0_globalCount, h0_hasMemory, h0_pagesLeast, h0_pagesMost, h0_typeCount) => va_P (dC, dI) cls (wz_61 h0 h0_bytes_r ac h0_typeCount h0_typeTakes_r h0_typeParameters_r h0_typeGives_r h0_functionCount h0_functionType_r h0_hasMemory h0_pagesLeast h0_pagesMost h0_globalCount h0_globalTypes_r h0_firstTypes_r h0_firstValues_r h0_globalChanges_r h0_exportCount h0_exportKinds_r h0_exportIndices_r h0_exportStarts_r h0_exportSizes_r ac ac_firsts_r ac_localCounts_r ac_localTypes_r ac_length ac_ops_r ac_values_r ac_partners_r ac_elses_r ac_labelCount ac_labels_r) t.heap ∧ va_K (dC, dI) cls [] t ∧ va_D A (wz_61 h0 h0_bytes_r ac h0_typeCount h0_typeTakes_r h0_typeParameters_r h0_typeGives_r h0_functionCount h0_functionType_r h0_hasMemory h0_pagesLeast h0_pagesMost h0_globalCount h0_globalTypes_r h0_firstTypes_r h0_firstValues_r h0_globalChanges_r h0_exportCount h0_exportKinds_r h0_exportIndices_r h0_exportStarts_r h0_exportSizes_r ac ac_firsts_r ac_localCounts_r ac_localTypes_r ac_length ac_ops_r ac_values_r ac_partners_r ac_elses_r ac_labelCount ac_labels_r)
set_option maxHeartbeats 4000000 in
set_option maxRecDepth 100000 in
theorem c_WA_clear (l : Launch) (dC : Nat → ClassId) (dI : Nat → Nat → Nat) (sz : Nat) (h0 h0_bytes_r ac h0_typeTakes_r h0_typeParameters_r h0_typeGives_r h0_functionType_r h0_globalTypes_r h0_firstTypes_r h0_firstValues_r h0_globalChanges_r h0_exportKinds_r h0_exportIndices_r h0_exportStarts_r h0_exportSizes_r ac_firsts_r ac_localCounts_r ac_localTypes_r ac_ops_r ac_values_r ac_partners_r ac_elses_r ac_labels_r : Nat) (h0_typeCount : Int32) (h0_functionCount : Int32) (h0_hasMemory : Int32) (h0_pagesLeast : Int64) (h0_pagesMost : Int64) (h0_globalCount : Int32) (h0_exportCount : Int32) (ac_length : Int32) (ac_labelCount : Int32)  (b_h0_typeCount : 0 ≤ h0_typeCount.toInt ∧ h0_typeCount.toInt ≤ 20) (b_h0_functionCount : 0 ≤ h0_functionCount.toInt ∧ h0_functionCount.toInt ≤ 30) (b_h0_hasMemory : h0_hasMemory = 0 ∨ h0_hasMemory = 1) (b_h0_globalCount : 0 ≤ h0_globalCount.toInt ∧ h0_globalCount.toInt ≤ 20) (b_h0_exportCount : 0 ≤ h0_exportCount.toInt ∧ h0_exportCount.toInt ≤ 40) (b_ac_length : 0 ≤ ac_length.toInt ∧ ac_length.toInt ≤ 5000) (b_ac_labelCount : 0 ≤ ac_labelCount.toInt ∧ ac_labelCount.toInt ≤ 2000)    : Met l y_WA_clear w_WA_clear ({ frames := 0, cells := 0, slots := 0, locals := 0 }) (va_Pc [.ref h0] (fun U => U.heap.size = sz ∧ va_P (dC, dI) cls (wz_61 h0 h0_bytes_r ac h0_typeCount h0_typeTakes_r h0_typeParameters_r h0_typeGives_r h0_functionCount h0_functionType_r h0_hasMemory h0_pagesLeast h0_pagesMost h0_globalCount h0_globalTypes_r h0_firstTypes_r h0_firstValues_r h0_globalChanges_r h0_exportCount h0_exportKinds_r h0_exportIndices_r h0_exportStarts_r h0_exportSizes_r ac ac_firsts_r ac_localCounts_r ac_localTypes_r ac_length ac_ops_r ac_values_r ac_partners_r ac_elses_r ac_labelCount ac_labels_r) U.heap ∧ va_K (dC, dI) cls [] U ∧ va_D (fun _ => True) (wz_61 h0 h0_bytes_r ac h0_typeCount h0_typeTakes_r h0_typeParameters_r h0_typeGives_r h0_functionCount h0_functionType_r h0_hasMemory h0_pagesLeast h0_pagesMost h0_globalCount h0_globalTypes_r h0_firstTypes_r h0_firstValues_r h0_globalChanges_r h0_exportCount h0_exportKinds_r h0_exportIndices_r h0_exportStarts_r h0_exportSizes_r ac ac_firsts_r ac_localCounts_r ac_localTypes_r ac_length ac_ops_r ac_values_r ac_partners_r ac_elses_r ac_labelCount ac_labels_r))) (va_Qv (fun (u : Int32 × Int32 × Int32 × Int32 × Int32 × Int32 × Int64 × Int64 × Int32) => match u with | (ac_labelCount2, ac_length2, h0_exportCount2, h0_functionCount2, h0_globalCount2, h0_hasMemory2, h0_pagesLeast2, h0_pagesMost2, h0_typeCount2) => (0 ≤ ac_labelCount2.toInt ∧ ac_labelCount2.toInt ≤ 2000) ∧ (0 ≤ ac_length2.toInt ∧ ac_length2.toInt ≤ 5000) ∧ (0 ≤ h0_exportCount2.toInt ∧ h0_exportCount2.toInt ≤ 40) ∧ (0 ≤ h0_functionCount2.toInt ∧ h0_functionCount2.toInt ≤ 30) ∧ (0 ≤ h0_globalCount2.toInt ∧ h0_globalCount2.toInt ≤ 20) ∧ (h0_hasMemory2 = 0 ∨ h0_hasMemory2 = 1) ∧ (0 ≤ h0_typeCount2.toInt ∧ h0_typeCount2.toInt ≤ 20) ∧ (ac_length2.toInt = 0 ∧ ac_labelCount2.toInt = 0 ∧ h0_typeCount2.toInt = 0 ∧ h0_functionCount2.toInt = 0 ∧ h0_pagesLeast2.toInt = 0 ∧ h0_pagesMost2.toInt = -1 ∧ h0_globalCount2.toInt = 0 ∧ h0_exportCount2.toInt = 0)) (at_WA_clear dC dI h0 h0_bytes_r ac h0_typeTakes_r h0_typeParameters_r h0_typeGives_r h0_functionType_r h0_globalTypes_r h0_firstTypes_r h0_firstValues_r h0_globalChanges_r h0_exportKinds_r h0_exportIndices_r h0_exportStarts_r h0_exportSizes_r ac_firsts_r ac_localCounts_r ac_localTypes_r ac_ops_r ac_values_r ac_partners_r ac_elses_r ac_labels_r (va_A (wz_61 h0 h0_bytes_r ac h0_typeCount h0_typeTakes_r h0_typeParameters_r h0_typeGives_r h0_functionCount h0_functionType_r h0_hasMemory h0_pagesLeast h0_pagesMost h0_globalCount h0_globalTypes_r h0_firstTypes_r h0_firstValues_r h0_globalChanges_r h0_exportCount h0_exportKinds_r h0_exportIndices_r h0_exportStarts_r h0_exportSizes_r ac ac_firsts_r ac_localCounts_r ac_localTypes_r ac_length ac_ops_r ac_values_r ac_partners_r ac_elses_r ac_labelCount ac_labels_r) sz)) (va_A (wz_61 h0 h0_bytes_r ac h0_typeCount h0_typeTakes_r h0_typeParameters_r h0_typeGives_r h0_functionCount h0_functionType_r h0_hasMemory h0_pagesLeast h0_pagesMost h0_globalCount h0_globalTypes_r h0_firstTypes_r h0_firstValues_r h0_globalChanges_r h0_exportCount h0_exportKinds_r h0_exportIndices_r h0_exportStarts_r h0_exportSizes_r ac ac_firsts_r ac_localCounts_r ac_localTypes_r ac_length ac_ops_r ac_values_r ac_partners_r ac_elses_r ac_labelCount ac_labels_r) sz)) 0 0 (va_A (wz_61 h0 h0_bytes_r ac h0_typeCount h0_typeTakes_r h0_typeParameters_r h0_typeGives_r h0_functionCount h0_functionType_r h0_hasMemory h0_pagesLeast h0_pagesMost h0_globalCount h0_globalTypes_r h0_firstTypes_r h0_firstValues_r h0_globalChanges_r h0_exportCount h0_exportKinds_r h0_exportIndices_r h0_exportStarts_r h0_exportSizes_r ac ac_firsts_r ac_localCounts_r ac_localTypes_r ac_length ac_ops_r ac_values_r ac_partners_r ac_elses_r ac_labelCount ac_labels_r) sz) := by
  refine Met.ofW (cc := b_WA_clear) (maxL := 1) (ret := none) (by decide) rfl ?_
  intro p e s m args below meth c s₁ B hml hv
  obtain ⟨rfl, hsz, hP, hK, hD0⟩ := hv
  have hx := B.exec
  have hb := B.bytes
  have hr := B.returns
  have hts0 := atoms_spec (ws := w_WA_clear) B.pre
  have hts : ∀ w ∈ lw_g, w.before _ s = true := fun w h => hts0 w (List.mem_cons_of_mem _ h)
  have hown : s.vm.findClass R_WA = some m.cls := findClass_of_methodNamed B.named
  have hlocks := B.notSynchronized
  clear hts0
  subst hsz
  have hD := hD0.self (sz := s.heap.size)
  generalize hAe : va_A (wz_61 h0 h0_bytes_r ac h0_typeCount h0_typeTakes_r h0_typeParameters_r h0_typeGives_r h0_functionCount h0_functionType_r h0_hasMemory h0_pagesLeast h0_pagesMost h0_globalCount h0_globalTypes_r h0_firstTypes_r h0_firstValues_r h0_globalChanges_r h0_exportCount h0_exportKinds_r h0_exportIndices_r h0_exportStarts_r h0_exportSizes_r ac ac_firsts_r ac_localCounts_r ac_localTypes_r ac_length ac_ops_r ac_values_r ac_partners_r ac_elses_r ac_labelCount ac_labels_r) s.heap.size = A at hD ⊢
  have hA : ∀ q : Nat, s.heap.size ≤ q → A q := fun q h => by rw [← hAe]; exact Or.inr h
  clear hAe
  have hP : va_P (dC, dI) cls (wz_61 h0 h0_bytes_r ac h0_typeCount h0_typeTakes_r h0_typeParameters_r h0_typeGives_r h0_functionCount h0_functionType_r h0_hasMemory h0_pagesLeast h0_pagesMost h0_globalCount h0_globalTypes_r h0_firstTypes_r h0_firstValues_r h0_globalChanges_r h0_exportCount h0_exportKinds_r h0_exportIndices_r h0_exportStarts_r h0_exportSizes_r ac ac_firsts_r ac_localCounts_r ac_localTypes_r ac_length ac_ops_r ac_values_r ac_partners_r ac_elses_r ac_labelCount ac_labels_r) s.heap := hP
  have hl := lv_entry ([.ref h0]) (n := 1) (Nat.le_of_ble_eq_true rfl)
  rw [lg_entry_eq]
  generalize (lg_sl ([.ref h0]) ++ List.replicate (1 - (lg_sl ([.ref h0])).length) Slot.unset).toArray = ls at hl ⊢
  have hl : lv_has ls 1 [(0, .ref h0)] := hl
  have k0 : (0 : Int32).toInt = 0 := by decide
  refine w_gen (A := A) hP (fun H locs hP hS => ?_)
  have th0_hasMemory := b01 b_h0_hasMemory
  refine lv_aload_n hx hb d_WA_clear_0 rfl (lv_at hl 0 rfl) ?_
  refine va_get (D := (dC, dI)) (ci := 10) (v := .ref ac) (C := R_WA) (T := F_WA) (N := 21) hx hb hts i_WA hown hK hP 0 rfl rfl 1 (by decide) (hts _ kF_WA_23) (fun _ h9 => h9) rfl d_WA_clear_1 ?_
  refine lv_iconst (v := 0) hx hb d_WA_clear_4 (by decide) ?_
  refine va_put (D := (dC, dI)) (ci := 3) (v := .int 0) (ty := .int) (C := R_CD) (T := F_CD) (N := 10) hx hb hts i_CD t_CD t_CD_ok n_CD hown hK hP hD hS 1 rfl rfl 3 (by decide) (hts _ kF_WA_66) (fun _ h9 => h9) rfl (by decide +kernel) rfl rfl (Nat.le_of_ble_eq_true rfl) d_WA_clear_5 (fun H locs hP hD hS => ?_)
  refine lv_aload_n hx hb d_WA_clear_8 rfl (lv_at hl 0 rfl) ?_
  refine va_get (D := (dC, dI)) (ci := 10) (v := .ref ac) (C := R_WA) (T := F_WA) (N := 21) hx hb hts i_WA hown hK hP 0 rfl rfl 1 (by decide) (hts _ kF_WA_23) (fun _ h9 => h9) rfl d_WA_clear_9 ?_
  refine lv_iconst (v := 0) hx hb d_WA_clear_12 (by decide) ?_
  refine va_put (D := (dC, dI)) (ci := 3) (v := .int 0) (ty := .int) (C := R_CD) (T := F_CD) (N := 10) hx hb hts i_CD t_CD t_CD_ok n_CD hown hK hP hD hS 1 rfl rfl 8 (by decide) (hts _ kF_WA_70) (fun _ h9 => h9) rfl (by decide +kernel) rfl rfl (Nat.le_of_ble_eq_true rfl) d_WA_clear_13 (fun H locs hP hD hS => ?_)
  refine lv_aload_n hx hb d_WA_clear_16 rfl (lv_at hl 0 rfl) ?_
  refine lv_iconst (v := 0) hx hb d_WA_clear_17 (by decide) ?_
  refine va_put (D := (dC, dI)) (ci := 10) (v := .int 0) (ty := .int) (C := R_WA) (T := F_WA) (N := 21) hx hb hts i_WA t_WA t_WA_ok n_WA hown hK hP hD hS 0 rfl rfl 2 (by decide) (hts _ kF_WA_73) (fun _ h9 => h9) rfl (by decide +kernel) rfl rfl (Nat.le_of_ble_eq_true rfl) d_WA_clear_18 (fun H locs hP hD hS => ?_)
  refine lv_aload_n hx hb d_WA_clear_21 rfl (lv_at hl 0 rfl) ?_
  refine lv_iconst (v := 0) hx hb d_WA_clear_22 (by decide) ?_
  refine va_put (D := (dC, dI)) (ci := 10) (v := .int 0) (ty := .int) (C := R_WA) (T := F_WA) (N := 21) hx hb hts i_WA t_WA t_WA_ok n_WA hown hK hP hD hS 0 rfl rfl 6 (by decide) (hts _ kF_WA_76) (fun _ h9 => h9) rfl (by decide +kernel) rfl rfl (Nat.le_of_ble_eq_true rfl) d_WA_clear_23 (fun H locs hP hD hS => ?_)
  refine lv_aload_n hx hb d_WA_clear_26 rfl (lv_at hl 0 rfl) ?_
  refine lv_iconst (v := 0) hx hb d_WA_clear_27 (by decide) ?_
  refine va_put (D := (dC, dI)) (ci := 10) (v := .int 0) (ty := .boolean) (C := R_WA) (T := F_WA) (N := 21) hx hb hts i_WA t_WA t_WA_ok n_WA hown hK hP hD hS 0 rfl rfl 8 (by decide) (hts _ kF_WA_79) (fun _ h9 => h9) rfl (by decide +kernel) rfl rfl (Nat.le_of_ble_eq_true rfl) d_WA_clear_28 (fun H locs hP hD hS => ?_)
  refine lv_aload_n hx hb d_WA_clear_31 rfl (lv_at hl 0 rfl) ?_
  refine lv_lconst (v := 0) hx hb d_WA_clear_32 (by decide) ?_
  have kl0 : (0 : Int64).toInt = 0 := by decide
  refine va_put (D := (dC, dI)) (ci := 10) (v := .long 0) (ty := .long) (C := R_WA) (T := F_WA) (N := 21) hx hb hts i_WA t_WA t_WA_ok n_WA hown hK hP hD hS 0 rfl rfl 9 (by decide) (hts _ kF_WA_83) (fun _ h9 => h9) rfl (by decide +kernel) rfl rfl (Nat.le_of_ble_eq_true rfl) d_WA_clear_33 (fun H locs hP hD hS => ?_)
  refine lv_aload_n hx hb d_WA_clear_36 rfl (lv_at hl 0 rfl) ?_
  refine lv_ldc2 hx hb hown (hts _ kL_WA_87) d_WA_clear_37 ?_
  refine lv_topl (fun x1 ex1 => ?_)
  have tx1 : x1.toInt = -1 := by rw [ex1]; decide
  refine va_put (D := (dC, dI)) (ci := 10) (v := .long x1) (ty := .long) (C := R_WA) (T := F_WA) (N := 21) hx hb hts i_WA t_WA t_WA_ok n_WA hown hK hP hD hS 0 rfl rfl 10 (by decide) (hts _ kF_WA_89) (fun _ h9 => h9) rfl (by decide +kernel) rfl rfl (Nat.le_of_ble_eq_true rfl) d_WA_clear_40 (fun H locs hP hD hS => ?_)
  refine lv_aload_n hx hb d_WA_clear_43 rfl (lv_at hl 0 rfl) ?_
  refine lv_iconst (v := 0) hx hb d_WA_clear_44 (by decide) ?_
  refine va_put (D := (dC, dI)) (ci := 10) (v := .int 0) (ty := .int) (C := R_WA) (T := F_WA) (N := 21) hx hb hts i_WA t_WA t_WA_ok n_WA hown hK hP hD hS 0 rfl rfl 11 (by decide) (hts _ kF_WA_92) (fun _ h9 => h9) rfl (by decide +kernel) rfl rfl (Nat.le_of_ble_eq_true rfl) d_WA_clear_45 (fun H locs hP hD hS => ?_)
  refine lv_aload_n hx hb d_WA_clear_48 rfl (lv_at hl 0 rfl) ?_
  refine lv_iconst (v := 0) hx hb d_WA_clear_49 (by decide) ?_
  refine va_put (D := (dC, dI)) (ci := 10) (v := .int 0) (ty := .int) (C := R_WA) (T := F_WA) (N := 21) hx hb hts i_WA t_WA t_WA_ok n_WA hown hK hP hD hS 0 rfl rfl 16 (by decide) (hts _ kF_WA_95) (fun _ h9 => h9) rfl (by decide +kernel) rfl rfl (Nat.le_of_ble_eq_true rfl) d_WA_clear_50 (fun H locs hP hD hS => ?_)
  have hP9 := hP.sb (wq := (wz_61 h0 h0_bytes_r ac 0 h0_typeTakes_r h0_typeParameters_r h0_typeGives_r 0 h0_functionType_r 0 0 x1 0 h0_globalTypes_r h0_firstTypes_r h0_firstValues_r h0_globalChanges_r 0 h0_exportKinds_r h0_exportIndices_r h0_exportStarts_r h0_exportSizes_r ac ac_firsts_r ac_localCounts_r ac_localTypes_r 0 ac_ops_r ac_values_r ac_partners_r ac_elses_r 0 ac_labels_r)) [0, 1] rfl
  have hD9 := hD.sb (wq := (wz_61 h0 h0_bytes_r ac 0 h0_typeTakes_r h0_typeParameters_r h0_typeGives_r 0 h0_functionType_r 0 0 x1 0 h0_globalTypes_r h0_firstTypes_r h0_firstValues_r h0_globalChanges_r 0 h0_exportKinds_r h0_exportIndices_r h0_exportStarts_r h0_exportSizes_r ac ac_firsts_r ac_localCounts_r ac_localTypes_r 0 ac_ops_r ac_values_r ac_partners_r ac_elses_r 0 ac_labels_r)) [0, 1] (by decide) rfl
  exact W.vret hx hb hr (fun t ht hW => ⟨⟨(0, 0, 0, 0, 0, 0, 0, x1, 0), rfl, ⟨by (try dsimp only) <;> (first | (apply Int.le_antisymm <;> omega) | omega), by (try dsimp only) <;> (first | (apply Int.le_antisymm <;> omega) | omega), by (try dsimp only) <;> (first | (apply Int.le_antisymm <;> omega) | omega), by (try dsimp only) <;> (first | (apply Int.le_antisymm <;> omega) | omega), by (try dsimp only) <;> (first | (apply Int.le_antisymm <;> omega) | omega), Or.inl rfl, by (try dsimp only) <;> (first | (apply Int.le_antisymm <;> omega) | omega), by (try dsimp only) <;> (first | (apply Int.le_antisymm <;> omega) | omega)⟩, va_P.he ht.symm hP9, va_K.moved hW.alike hK, hD9⟩, hS.F ht⟩) hS.2.2 d_WA_clear_53
abbrev b_RE_readSection : ByteArray := prog_9_method_3_code
def y_RE_readSection : MethodName := ⟨R_RE, "readSection", "(I)V"⟩
abbrev w_RE_readSection : List Cond := .code y_RE_readSection b_RE_readSection 4 none :: lw_g
theorem kC_RE_readSection : Cond.code y_RE_readSection b_RE_readSection 4 none ∈ lw_g := in_c6 92 rfl rfl
theorem d_RE_readSection_0 : decode b_RE_readSection 0 = .ok (.iload_n 1, 1) := bz_c27 (by decide +kernel)
theorem d_RE_readSection_1 : decode b_RE_readSection 1 = .ok (.tableswitch 235 0 10 #[59, 110, 235, 117, 235, 171, 178, 185, 235, 235, 192], 59) := by decide +kernel
theorem d_RE_readSection_60 : decode b_RE_readSection 60 = .ok (.aload_n 0, 1) := bz_c42 (by decide +kernel)
theorem d_RE_readSection_61 : decode b_RE_readSection 61 = .ok (.aload_n 0, 1) := bz_c42 (by decide +kernel)
theorem d_RE_readSection_62 : decode b_RE_readSection 62 = .ok (.getfield 42, 3) := bz_c180 (by decide +kernel)
theorem d_RE_readSection_65 : decode b_RE_readSection 65 = .ok (.i2l, 1) := bz_c133 (by decide +kernel)
theorem d_RE_readSection_66 : decode b_RE_readSection 66 = .ok (.invokevirtual 64, 3) := bz_c182 (by decide +kernel)
theorem d_RE_readSection_69 : decode b_RE_readSection 69 = .ok (.l2i, 1) := bz_c136 (by decide +kernel)
theorem d_RE_readSection_70 : decode b_RE_readSection 70 = .ok (.istore_n 2, 1) := bz_c61 (by decide +kernel)
theorem d_RE_readSection_71 : decode b_RE_readSection 71 = .ok (.aload_n 0, 1) := bz_c42 (by decide +kernel)
theorem d_RE_readSection_72 : decode b_RE_readSection 72 = .ok (.aload_n 0, 1) := bz_c42 (by decide +kernel)
theorem d_RE_readSection_73 : decode b_RE_readSection 73 = .ok (.getfield 45, 3) := bz_c180 (by decide +kernel)
theorem d_RE_readSection_76 : decode b_RE_readSection 76 = .ok (.ifCond .eq 20, 3) := bz_c153 (by decide +kernel)
theorem d_RE_readSection_79 : decode b_RE_readSection 79 = .ok (.iload_n 2, 1) := bz_c28 (by decide +kernel)
theorem d_RE_readSection_80 : decode b_RE_readSection 80 = .ok (.aload_n 0, 1) := bz_c42 (by decide +kernel)
theorem d_RE_readSection_81 : decode b_RE_readSection 81 = .ok (.getfield 42, 3) := bz_c180 (by decide +kernel)
theorem d_RE_readSection_84 : decode b_RE_readSection 84 = .ok (.aload_n 0, 1) := bz_c42 (by decide +kernel)
theorem d_RE_readSection_85 : decode b_RE_readSection 85 = .ok (.getfield 29, 3) := bz_c180 (by decide +kernel)
theorem d_RE_readSection_88 : decode b_RE_readSection 88 = .ok (.isub, 1) := bz_c100 (by decide +kernel)
theorem d_RE_readSection_89 : decode b_RE_readSection 89 = .ok (.if_icmp .gt 7, 3) := bz_c163 (by decide +kernel)
theorem d_RE_readSection_92 : decode b_RE_readSection 92 = .ok (.iconst 1, 1) := bz_c4 (by decide +kernel)
theorem d_RE_readSection_93 : decode b_RE_readSection 93 = .ok (.goto 4, 3) := bz_c167 (by decide +kernel)
theorem d_RE_readSection_96 : decode b_RE_readSection 96 = .ok (.iconst 0, 1) := bz_c3 (by decide +kernel)
theorem d_RE_readSection_97 : decode b_RE_readSection 97 = .ok (.putfield 45, 3) := bz_c181 (by decide +kernel)
theorem d_RE_readSection_100 : decode b_RE_readSection 100 = .ok (.aload_n 0, 1) := bz_c42 (by decide +kernel)
theorem d_RE_readSection_101 : decode b_RE_readSection 101 = .ok (.aload_n 0, 1) := bz_c42 (by decide +kernel)
theorem d_RE_readSection_102 : decode b_RE_readSection 102 = .ok (.getfield 42, 3) := bz_c180 (by decide +kernel)
theorem d_RE_readSection_105 : decode b_RE_readSection 105 = .ok (.putfield 29, 3) := bz_c181 (by decide +kernel)
theorem d_RE_readSection_108 : decode b_RE_readSection 108 = .ok (.goto 133, 3) := bz_c167 (by decide +kernel)
theorem d_RE_readSection_111 : decode b_RE_readSection 111 = .ok (.aload_n 0, 1) := bz_c42 (by decide +kernel)
theorem d_RE_readSection_112 : decode b_RE_readSection 112 = .ok (.invokevirtual 74, 3) := bz_c182 (by decide +kernel)
theorem d_RE_readSection_115 : decode b_RE_readSection 115 = .ok (.goto 126, 3) := bz_c167 (by decide +kernel)
theorem d_RE_readSection_118 : decode b_RE_readSection 118 = .ok (.aload_n 0, 1) := bz_c42 (by decide +kernel)
theorem d_RE_readSection_119 : decode b_RE_readSection 119 = .ok (.getfield 15, 3) := bz_c180 (by decide +kernel)
theorem d_RE_readSection_122 : decode b_RE_readSection 122 = .ok (.aload_n 0, 1) := bz_c42 (by decide +kernel)
theorem d_RE_readSection_123 : decode b_RE_readSection 123 = .ok (.ldc2_w 77, 3) := bz_c20 (by decide +kernel)
theorem d_RE_readSection_126 : decode b_RE_readSection 126 = .ok (.invokevirtual 64, 3) := bz_c182 (by decide +kernel)
theorem d_RE_readSection_129 : decode b_RE_readSection 129 = .ok (.l2i, 1) := bz_c136 (by decide +kernel)
theorem d_RE_readSection_130 : decode b_RE_readSection 130 = .ok (.putfield 71, 3) := bz_c181 (by decide +kernel)
theorem d_RE_readSection_133 : decode b_RE_readSection 133 = .ok (.iconst 0, 1) := bz_c3 (by decide +kernel)
theorem d_RE_readSection_134 : decode b_RE_readSection 134 = .ok (.istore_n 3, 1) := bz_c62 (by decide +kernel)
theorem d_RE_readSection_135 : decode b_RE_readSection 135 = .ok (.iload_n 3, 1) := bz_c29 (by decide +kernel)
theorem d_RE_readSection_136 : decode b_RE_readSection 136 = .ok (.aload_n 0, 1) := bz_c42 (by decide +kernel)
theorem d_RE_readSection_137 : decode b_RE_readSection 137 = .ok (.getfield 15, 3) := bz_c180 (by decide +kernel)
theorem d_RE_readSection_140 : decode b_RE_readSection 140 = .ok (.getfield 71, 3) := bz_c180 (by decide +kernel)
theorem d_RE_readSection_143 : decode b_RE_readSection 143 = .ok (.if_icmp .ge 26, 3) := bz_c162 (by decide +kernel)
theorem d_RE_readSection_146 : decode b_RE_readSection 146 = .ok (.aload_n 0, 1) := bz_c42 (by decide +kernel)
theorem d_RE_readSection_147 : decode b_RE_readSection 147 = .ok (.getfield 15, 3) := bz_c180 (by decide +kernel)
theorem d_RE_readSection_150 : decode b_RE_readSection 150 = .ok (.getfield 79, 3) := bz_c180 (by decide +kernel)
theorem d_RE_readSection_153 : decode b_RE_readSection 153 = .ok (.iload_n 3, 1) := bz_c29 (by decide +kernel)
theorem d_RE_readSection_154 : decode b_RE_readSection 154 = .ok (.aload_n 0, 1) := bz_c42 (by decide +kernel)
theorem d_RE_readSection_155 : decode b_RE_readSection 155 = .ok (.ldc2_w 82, 3) := bz_c20 (by decide +kernel)
theorem d_RE_readSection_158 : decode b_RE_readSection 158 = .ok (.invokevirtual 64, 3) := bz_c182 (by decide +kernel)
theorem d_RE_readSection_161 : decode b_RE_readSection 161 = .ok (.l2i, 1) := bz_c136 (by decide +kernel)
theorem d_RE_readSection_162 : decode b_RE_readSection 162 = .ok (.iastore, 1) := bz_c79 (by decide +kernel)
theorem d_RE_readSection_163 : decode b_RE_readSection 163 = .ok (.iinc 3 1, 3) := by decide +kernel
theorem d_RE_readSection_166 : decode b_RE_readSection 166 = .ok (.goto (-31), 3) := bz_c167 (by decide +kernel)
theorem d_RE_readSection_169 : decode b_RE_readSection 169 = .ok (.goto 72, 3) := bz_c167 (by decide +kernel)
theorem d_RE_readSection_172 : decode b_RE_readSection 172 = .ok (.aload_n 0, 1) := bz_c42 (by decide +kernel)
theorem d_RE_readSection_173 : decode b_RE_readSection 173 = .ok (.invokevirtual 84, 3) := bz_c182 (by decide +kernel)
theorem d_RE_readSection_176 : decode b_RE_readSection 176 = .ok (.goto 65, 3) := bz_c167 (by decide +kernel)
theorem d_RE_readSection_179 : decode b_RE_readSection 179 = .ok (.aload_n 0, 1) := bz_c42 (by decide +kernel)
theorem d_RE_readSection_180 : decode b_RE_readSection 180 = .ok (.invokevirtual 87, 3) := bz_c182 (by decide +kernel)
theorem d_RE_readSection_183 : decode b_RE_readSection 183 = .ok (.goto 58, 3) := bz_c167 (by decide +kernel)
theorem d_RE_readSection_186 : decode b_RE_readSection 186 = .ok (.aload_n 0, 1) := bz_c42 (by decide +kernel)
theorem d_RE_readSection_187 : decode b_RE_readSection 187 = .ok (.invokevirtual 90, 3) := bz_c182 (by decide +kernel)
theorem d_RE_readSection_190 : decode b_RE_readSection 190 = .ok (.goto 51, 3) := bz_c167 (by decide +kernel)
theorem d_RE_readSection_193 : decode b_RE_readSection 193 = .ok (.aload_n 0, 1) := bz_c42 (by decide +kernel)
theorem d_RE_readSection_194 : decode b_RE_readSection 194 = .ok (.aload_n 0, 1) := bz_c42 (by decide +kernel)
theorem d_RE_readSection_195 : decode b_RE_readSection 195 = .ok (.ldc2_w 77, 3) := bz_c20 (by decide +kernel)
theorem d_RE_readSection_198 : decode b_RE_readSection 198 = .ok (.invokevirtual 64, 3) := bz_c182 (by decide +kernel)
theorem d_RE_readSection_201 : decode b_RE_readSection 201 = .ok (.l2i, 1) := bz_c136 (by decide +kernel)
theorem d_RE_readSection_202 : decode b_RE_readSection 202 = .ok (.putfield 49, 3) := bz_c181 (by decide +kernel)
theorem d_RE_readSection_205 : decode b_RE_readSection 205 = .ok (.iconst 0, 1) := bz_c3 (by decide +kernel)
theorem d_RE_readSection_206 : decode b_RE_readSection 206 = .ok (.istore_n 3, 1) := bz_c62 (by decide +kernel)
theorem d_RE_readSection_207 : decode b_RE_readSection 207 = .ok (.iload_n 3, 1) := bz_c29 (by decide +kernel)
theorem d_RE_readSection_208 : decode b_RE_readSection 208 = .ok (.aload_n 0, 1) := bz_c42 (by decide +kernel)
theorem d_RE_readSection_209 : decode b_RE_readSection 209 = .ok (.getfield 49, 3) := bz_c180 (by decide +kernel)
theorem d_RE_readSection_212 : decode b_RE_readSection 212 = .ok (.if_icmp .ge 21, 3) := bz_c162 (by decide +kernel)
theorem d_RE_readSection_215 : decode b_RE_readSection 215 = .ok (.aload_n 0, 1) := bz_c42 (by decide +kernel)
theorem d_RE_readSection_216 : decode b_RE_readSection 216 = .ok (.getfield 45, 3) := bz_c180 (by decide +kernel)
theorem d_RE_readSection_219 : decode b_RE_readSection 219 = .ok (.ifCond .eq 14, 3) := bz_c153 (by decide +kernel)
theorem d_RE_readSection_222 : decode b_RE_readSection 222 = .ok (.aload_n 0, 1) := bz_c42 (by decide +kernel)
theorem d_RE_readSection_223 : decode b_RE_readSection 223 = .ok (.iload_n 3, 1) := bz_c29 (by decide +kernel)
theorem d_RE_readSection_224 : decode b_RE_readSection 224 = .ok (.invokevirtual 93, 3) := bz_c182 (by decide +kernel)
theorem d_RE_readSection_227 : decode b_RE_readSection 227 = .ok (.iinc 3 1, 3) := by decide +kernel
theorem d_RE_readSection_230 : decode b_RE_readSection 230 = .ok (.goto (-23), 3) := bz_c167 (by decide +kernel)
theorem d_RE_readSection_233 : decode b_RE_readSection 233 = .ok (.goto 8, 3) := bz_c167 (by decide +kernel)
theorem d_RE_readSection_236 : decode b_RE_readSection 236 = .ok (.aload_n 0, 1) := bz_c42 (by decide +kernel)
theorem d_RE_readSection_237 : decode b_RE_readSection 237 = .ok (.iconst 0, 1) := bz_c3 (by decide +kernel)
theorem d_RE_readSection_238 : decode b_RE_readSection 238 = .ok (.putfield 45, 3) := bz_c181 (by decide +kernel)
theorem d_RE_readSection_241 : decode b_RE_readSection 241 = .ok (.return_, 1) := bz_c177 (by decide +kernel)
theorem kM_RE_93 : Cond.methodLink R_RE 93 y_RE_readCode ∈ lw_g := in_c6 128 rfl rfl
theorem kV_RE_readCode : Cond.instanceMethod y_RE_readCode ∈ lw_g := in_c6 130 rfl rfl
theorem kS_RE_readCode : Cond.selects R_RE y_RE_readCode y_RE_readCode ∈ lw_g := in_s 72 (by decide +kernel) rfl
theorem kM_RE_90 : Cond.methodLink R_RE 90 y_RE_readExports ∈ lw_g := in_c6 123 rfl rfl
theorem kV_RE_readExports : Cond.instanceMethod y_RE_readExports ∈ lw_g := in_c6 125 rfl rfl
theorem kS_RE_readExports : Cond.selects R_RE y_RE_readExports y_RE_readExports ∈ lw_g := in_s 71 (by decide +kernel) rfl
theorem kM_RE_87 : Cond.methodLink R_RE 87 y_RE_readGlobals ∈ lw_g := in_c6 115 rfl rfl
theorem kV_RE_readGlobals : Cond.instanceMethod y_RE_readGlobals ∈ lw_g := in_c6 117 rfl rfl
theorem kS_RE_readGlobals : Cond.selects R_RE y_RE_readGlobals y_RE_readGlobals ∈ lw_g := in_s 69 (by decide +kernel) rfl
theorem kM_RE_84 : Cond.methodLink R_RE 84 y_RE_readMemory ∈ lw_g := in_c6 105 rfl rfl
theorem kV_RE_readMemory : Cond.instanceMethod y_RE_readMemory ∈ lw_g := in_c6 107 rfl rfl
theorem kS_RE_readMemory : Cond.selects R_RE y_RE_readMemory y_RE_readMemory ∈ lw_g := in_s 67 (by decide +kernel) rfl
theorem kM_RE_74 : Cond.methodLink R_RE 74 y_RE_readTypes ∈ lw_g := in_c6 93 rfl rfl
theorem kV_RE_readTypes : Cond.instanceMethod y_RE_readTypes ∈ lw_g := in_c6 95 rfl rfl
theorem kS_RE_readTypes : Cond.selects R_RE y_RE_readTypes y_RE_readTypes ∈ lw_g := in_s 65 (by decide +kernel) rfl
theorem kF_RE_71 : Cond.fieldLink R_RE 71 "WaferForge$Wafer" "functionCount" "I" ∈ lw_g := in_c1 160 rfl rfl
theorem kF_RE_79 : Cond.fieldLink R_RE 79 "WaferForge$Wafer" "functionType" "[I" ∈ lw_g := in_c1 164 rfl rfl
theorem kF_RE_49 : Cond.fieldLink R_RE 49 "WaferForge$Reader" "codeCount" "I" ∈ lw_g := in_c2 231 rfl rfl
abbrev at_RE_readSection (dC : Nat → ClassId) (dI : Nat → Nat → Nat) (h0 aw ac ob ab wat wap wag waf wgt wft wfv wgc wek wei wes wez ax cfi clk clt cop cva cpt cel cla : Nat) (cax cob cwaf cwat cwap cwag cwgt cwft cwfv cwgc cwek cwei cwes cwez ccfi cclk cclt ccop ccva ccpt ccel ccla : ClassId) (ab_length : Int32) (gax : Nat → Int32) (A : Nat → Prop) (u : (Nat → Int32) × (Nat → Int32) × (Nat → Int32) × (Nat → Int32) × (Nat → Int32) × (Nat → Int32) × (Nat → Int32) × (Nat → Int64) × (Nat → Int32) × (Nat → Int32) × (Nat → Int32) × (Nat → Int32) × (Nat → Int32) × (Nat → Int32) × (Nat → Int32) × (Nat → Int32) × (Nat → Int32) × (Nat → Int32) × (Nat → Int64) × (Nat → Int32) × (Nat → Int32) × Int32 × Int32 × Int32 × Int32 × Int32 × Int32 × Int64 × Int64 × Int32 × Int32 × Int32 × Int32 × Int32 × Int32) (t : State) : Prop := match u with | (gcel, gcfi, gcla, gclk, gclt, gcop, gcpt, gcva, gob, gwaf, gwag, gwap, gwat, gwei, gwek, gwes, gwez, gwft, gwfv, gwgc, gwgt, ac_labelCount, ac_length, aw_exportCount, aw_functionCount, aw_globalCount, aw_hasMemory, aw_pagesLeast, aw_pagesMost, aw_typeCount, h0_at, h0_codeCount, h0_limit, h0_openCount, h0_sound) => va_P (dC, dI) cls (wz_62 h0 aw ac h0_at h0_limit h0_sound h0_codeCount ob h0_openCount aw ab ac aw_typeCount wat wap wag aw_functionCount waf aw_hasMemory aw_pagesLeast aw_pagesMost aw_globalCount wgt wft wfv wgc aw_exportCount wek wei wes wez ab ax ab_length ac cfi clk clt ac_length cop cva cpt cel ac_labelCount cla ax cax gax ob cob gob waf cwaf gwaf wat cwat gwat wap cwap gwap wag cwag gwag wgt cwgt gwgt wft cwft gwft wfv cwfv gwfv wgc cwgc gwgc wek cwek gwek wei cwei gwei wes cwes gwes wez cwez gwez cfi ccfi gcfi clk cclk gclk clt cclt gclt cop ccop gcop cva ccva gcva cpt ccpt gcpt cel ccel gcel cla ccla gcla) t.heap ∧ va_K (dC, dI) cls [(cax, .byte), (cob, .int), (cwaf, .int), (cwat, .int), (cwap, .int), (cwag, .int), (cwgt, .int), (cwft, .int), (cwfv, .long), (cwgc, .boolean), (cwek, .int), (cwei, .int), (cwes, .int), (cwez, .int), (ccfi, .int), (cclk, .int), (cclt, .int), (ccop, .int), (ccva, .long), (ccpt, .int), (ccel, .int), (ccla, .int)] t ∧ va_D A (wz_62 h0 aw ac h0_at h0_limit h0_sound h0_codeCount ob h0_openCount aw ab ac aw_typeCount wat wap wag aw_functionCount waf aw_hasMemory aw_pagesLeast aw_pagesMost aw_globalCount wgt wft wfv wgc aw_exportCount wek wei wes wez ab ax ab_length ac cfi clk clt ac_length cop cva cpt cel ac_labelCount cla ax cax gax ob cob gob waf cwaf gwaf wat cwat gwat wap cwap gwap wag cwag gwag wgt cwgt gwgt wft cwft gwft wfv cwfv gwfv wgc cwgc gwgc wek cwek gwek wei cwei gwei wes cwes gwes wez cwez gwez cfi ccfi gcfi clk cclk gclk clt cclt gclt cop ccop gcop cva ccva gcva cpt ccpt gcpt cel ccel gcel cla ccla gcla)
set_option maxHeartbeats 4000000 in
set_option maxRecDepth 100000 in
theorem c_RE_readSection (l : Launch) (dC : Nat → ClassId) (dI : Nat → Nat → Nat) (sz : Nat) (h0 aw ac ob ab wat wap wag waf wgt wft wfv wgc wek wei wes wez ax cfi clk clt cop cva cpt cel cla : Nat) (cax cob cwaf cwat cwap cwag cwgt cwft cwfv cwgc cwek cwei cwes cwez ccfi cclk cclt ccop ccva ccpt ccel ccla : ClassId) (h0_at : Int32) (h0_limit : Int32) (h0_sound : Int32) (h0_codeCount : Int32) (h0_openCount : Int32) (aw_typeCount : Int32) (aw_functionCount : Int32) (aw_hasMemory : Int32) (aw_pagesLeast : Int64) (aw_pagesMost : Int64) (aw_globalCount : Int32) (aw_exportCount : Int32) (ab_length : Int32) (ac_length : Int32) (ac_labelCount : Int32) (gax : Nat → Int32) (gob : Nat → Int32) (gwaf : Nat → Int32) (gwat : Nat → Int32) (gwap : Nat → Int32) (gwag : Nat → Int32) (gwgt : Nat → Int32) (gwft : Nat → Int32) (gwfv : Nat → Int64) (gwgc : Nat → Int32) (gwek : Nat → Int32) (gwei : Nat → Int32) (gwes : Nat → Int32) (gwez : Nat → Int32) (gcfi : Nat → Int32) (gclk : Nat → Int32) (gclt : Nat → Int32) (gcop : Nat → Int32) (gcva : Nat → Int64) (gcpt : Nat → Int32) (gcel : Nat → Int32) (gcla : Nat → Int32)  (b_h0_sound : h0_sound = 0 ∨ h0_sound = 1) (b_h0_codeCount : 0 ≤ h0_codeCount.toInt ∧ h0_codeCount.toInt ≤ 30) (b_h0_openCount : 0 ≤ h0_openCount.toInt ∧ h0_openCount.toInt ≤ 100) (b_aw_typeCount : 0 ≤ aw_typeCount.toInt ∧ aw_typeCount.toInt ≤ 20) (b_aw_functionCount : 0 ≤ aw_functionCount.toInt ∧ aw_functionCount.toInt ≤ 30) (b_aw_hasMemory : aw_hasMemory = 0 ∨ aw_hasMemory = 1) (b_aw_globalCount : 0 ≤ aw_globalCount.toInt ∧ aw_globalCount.toInt ≤ 20) (b_aw_exportCount : 0 ≤ aw_exportCount.toInt ∧ aw_exportCount.toInt ≤ 40) (b_ac_length : 0 ≤ ac_length.toInt ∧ ac_length.toInt ≤ 5000) (b_ac_labelCount : 0 ≤ ac_labelCount.toInt ∧ ac_labelCount.toInt ≤ 2000) (p0 : Int32)  (ha : 0 ≤ h0_at.toInt ∧ h0_at.toInt ≤ h0_limit.toInt ∧ h0_limit.toInt ≤ ab_length.toInt ∧ ab_length.toInt ≤ 8192) (hel : ∀ j : Nat, (gcel j).toInt < 5000) (hlb : ∀ j : Nat, (j : Int) < ac_labelCount.toInt → 0 ≤ (gcla j).toInt) : Met l y_RE_readSection w_RE_readSection ({ frames := 5, cells := 0, slots := 0, locals := 116 }) (va_Pc [.ref h0, .int p0] (fun U => U.heap.size = sz ∧ va_P (dC, dI) cls (wz_62 h0 aw ac h0_at h0_limit h0_sound h0_codeCount ob h0_openCount aw ab ac aw_typeCount wat wap wag aw_functionCount waf aw_hasMemory aw_pagesLeast aw_pagesMost aw_globalCount wgt wft wfv wgc aw_exportCount wek wei wes wez ab ax ab_length ac cfi clk clt ac_length cop cva cpt cel ac_labelCount cla ax cax gax ob cob gob waf cwaf gwaf wat cwat gwat wap cwap gwap wag cwag gwag wgt cwgt gwgt wft cwft gwft wfv cwfv gwfv wgc cwgc gwgc wek cwek gwek wei cwei gwei wes cwes gwes wez cwez gwez cfi ccfi gcfi clk cclk gclk clt cclt gclt cop ccop gcop cva ccva gcva cpt ccpt gcpt cel ccel gcel cla ccla gcla) U.heap ∧ va_K (dC, dI) cls [(cax, .byte), (cob, .int), (cwaf, .int), (cwat, .int), (cwap, .int), (cwag, .int), (cwgt, .int), (cwft, .int), (cwfv, .long), (cwgc, .boolean), (cwek, .int), (cwei, .int), (cwes, .int), (cwez, .int), (ccfi, .int), (cclk, .int), (cclt, .int), (ccop, .int), (ccva, .long), (ccpt, .int), (ccel, .int), (ccla, .int)] U ∧ va_D (fun _ => True) (wz_62 h0 aw ac h0_at h0_limit h0_sound h0_codeCount ob h0_openCount aw ab ac aw_typeCount wat wap wag aw_functionCount waf aw_hasMemory aw_pagesLeast aw_pagesMost aw_globalCount wgt wft wfv wgc aw_exportCount wek wei wes wez ab ax ab_length ac cfi clk clt ac_length cop cva cpt cel ac_labelCount cla ax cax gax ob cob gob waf cwaf gwaf wat cwat gwat wap cwap gwap wag cwag gwag wgt cwgt gwgt wft cwft gwft wfv cwfv gwfv wgc cwgc gwgc wek cwek gwek wei cwei gwei wes cwes gwes wez cwez gwez cfi ccfi gcfi clk cclk gclk clt cclt gclt cop ccop gcop cva ccva gcva cpt ccpt gcpt cel ccel gcel cla ccla gcla))) (va_Qv (fun (u : (Nat → Int32) × (Nat → Int32) × (Nat → Int32) × (Nat → Int32) × (Nat → Int32) × (Nat → Int32) × (Nat → Int32) × (Nat → Int64) × (Nat → Int32) × (Nat → Int32) × (Nat → Int32) × (Nat → Int32) × (Nat → Int32) × (Nat → Int32) × (Nat → Int32) × (Nat → Int32) × (Nat → Int32) × (Nat → Int32) × (Nat → Int64) × (Nat → Int32) × (Nat → Int32) × Int32 × Int32 × Int32 × Int32 × Int32 × Int32 × Int64 × Int64 × Int32 × Int32 × Int32 × Int32 × Int32 × Int32) => match u with | (gcel2, gcfi2, gcla2, gclk2, gclt2, gcop2, gcpt2, gcva2, gob2, gwaf2, gwag2, gwap2, gwat2, gwei2, gwek2, gwes2, gwez2, gwft2, gwfv2, gwgc2, gwgt2, ac_labelCount2, ac_length2, aw_exportCount2, aw_functionCount2, aw_globalCount2, aw_hasMemory2, aw_pagesLeast2, aw_pagesMost2, aw_typeCount2, h0_at2, h0_codeCount2, h0_limit2, h0_openCount2, h0_sound2) => (0 ≤ ac_labelCount2.toInt ∧ ac_labelCount2.toInt ≤ 2000) ∧ (0 ≤ ac_length2.toInt ∧ ac_length2.toInt ≤ 5000) ∧ (0 ≤ aw_exportCount2.toInt ∧ aw_exportCount2.toInt ≤ 40) ∧ (0 ≤ aw_functionCount2.toInt ∧ aw_functionCount2.toInt ≤ 30) ∧ (0 ≤ aw_globalCount2.toInt ∧ aw_globalCount2.toInt ≤ 20) ∧ (aw_hasMemory2 = 0 ∨ aw_hasMemory2 = 1) ∧ (0 ≤ aw_typeCount2.toInt ∧ aw_typeCount2.toInt ≤ 20) ∧ (0 ≤ h0_codeCount2.toInt ∧ h0_codeCount2.toInt ≤ 30) ∧ (0 ≤ h0_openCount2.toInt ∧ h0_openCount2.toInt ≤ 100) ∧ (h0_sound2 = 0 ∨ h0_sound2 = 1) ∧ ((h0_at.toInt ≤ h0_at2.toInt ∧ h0_at2.toInt ≤ h0_limit.toInt) ∧ (h0_sound2.toInt = 1 → h0_sound.toInt = 1) ∧ (∀ j : Nat, (gcel2 j).toInt < 5000) ∧ (∀ j : Nat, (j : Int) < ac_labelCount2.toInt → 0 ≤ (gcla2 j).toInt) ∧ (h0_sound2.toInt = 1 → (rd_T aw_typeCount.toInt gwat gwap → rd_T aw_typeCount2.toInt gwat2 gwap2) ∧ (rd_F aw_functionCount.toInt gwaf → rd_F aw_functionCount2.toInt gwaf2) ∧ (rd_M aw_pagesLeast aw_pagesMost → rd_M aw_pagesLeast2 aw_pagesMost2) ∧ (rd_G aw_globalCount.toInt gwgt → rd_G aw_globalCount2.toInt gwgt2) ∧ (rd_E aw_exportCount.toInt gwez → rd_E aw_exportCount2.toInt gwez2) ∧ (rd_C h0_codeCount.toInt ac_length.toInt ac_labelCount.toInt gcfi gclk gclt gcop gcpt gcel gcva → rd_C h0_codeCount2.toInt ac_length2.toInt ac_labelCount2.toInt gcfi2 gclk2 gclt2 gcop2 gcpt2 gcel2 gcva2)))) (at_RE_readSection dC dI h0 aw ac ob ab wat wap wag waf wgt wft wfv wgc wek wei wes wez ax cfi clk clt cop cva cpt cel cla cax cob cwaf cwat cwap cwag cwgt cwft cwfv cwgc cwek cwei cwes cwez ccfi cclk cclt ccop ccva ccpt ccel ccla ab_length gax (va_A (wz_62 h0 aw ac h0_at h0_limit h0_sound h0_codeCount ob h0_openCount aw ab ac aw_typeCount wat wap wag aw_functionCount waf aw_hasMemory aw_pagesLeast aw_pagesMost aw_globalCount wgt wft wfv wgc aw_exportCount wek wei wes wez ab ax ab_length ac cfi clk clt ac_length cop cva cpt cel ac_labelCount cla ax cax gax ob cob gob waf cwaf gwaf wat cwat gwat wap cwap gwap wag cwag gwag wgt cwgt gwgt wft cwft gwft wfv cwfv gwfv wgc cwgc gwgc wek cwek gwek wei cwei gwei wes cwes gwes wez cwez gwez cfi ccfi gcfi clk cclk gclk clt cclt gclt cop ccop gcop cva ccva gcva cpt ccpt gcpt cel ccel gcel cla ccla gcla) sz)) (va_A (wz_62 h0 aw ac h0_at h0_limit h0_sound h0_codeCount ob h0_openCount aw ab ac aw_typeCount wat wap wag aw_functionCount waf aw_hasMemory aw_pagesLeast aw_pagesMost aw_globalCount wgt wft wfv wgc aw_exportCount wek wei wes wez ab ax ab_length ac cfi clk clt ac_length cop cva cpt cel ac_labelCount cla ax cax gax ob cob gob waf cwaf gwaf wat cwat gwat wap cwap gwap wag cwag gwag wgt cwgt gwgt wft cwft gwft wfv cwfv gwfv wgc cwgc gwgc wek cwek gwek wei cwei gwei wes cwes gwes wez cwez gwez cfi ccfi gcfi clk cclk gclk clt cclt gclt cop ccop gcop cva ccva gcva cpt ccpt gcpt cel ccel gcel cla ccla gcla) sz)) 0 0 (va_A (wz_62 h0 aw ac h0_at h0_limit h0_sound h0_codeCount ob h0_openCount aw ab ac aw_typeCount wat wap wag aw_functionCount waf aw_hasMemory aw_pagesLeast aw_pagesMost aw_globalCount wgt wft wfv wgc aw_exportCount wek wei wes wez ab ax ab_length ac cfi clk clt ac_length cop cva cpt cel ac_labelCount cla ax cax gax ob cob gob waf cwaf gwaf wat cwat gwat wap cwap gwap wag cwag gwag wgt cwgt gwgt wft cwft gwft wfv cwfv gwfv wgc cwgc gwgc wek cwek gwek wei cwei gwei wes cwes gwes wez cwez gwez cfi ccfi gcfi clk cclk gclk clt cclt gclt cop ccop gcop cva ccva gcva cpt ccpt gcpt cel ccel gcel cla ccla gcla) sz) := by
  refine Met.ofW (cc := b_RE_readSection) (maxL := 4) (ret := none) (by decide) rfl ?_
  intro p e s m args below meth c s₁ B hml hv
  obtain ⟨rfl, hsz, hP, hK, hD0⟩ := hv
  have hx := B.exec
  have hb := B.bytes
  have hr := B.returns
  have hts0 := atoms_spec (ws := w_RE_readSection) B.pre
  have hts : ∀ w ∈ lw_g, w.before _ s = true := fun w h => hts0 w (List.mem_cons_of_mem _ h)
  have hown : s.vm.findClass R_RE = some m.cls := findClass_of_methodNamed B.named
  have hlocks := B.notSynchronized
  clear hts0
  subst hsz
  have hD := hD0.self (sz := s.heap.size)
  generalize hAe : va_A (wz_62 h0 aw ac h0_at h0_limit h0_sound h0_codeCount ob h0_openCount aw ab ac aw_typeCount wat wap wag aw_functionCount waf aw_hasMemory aw_pagesLeast aw_pagesMost aw_globalCount wgt wft wfv wgc aw_exportCount wek wei wes wez ab ax ab_length ac cfi clk clt ac_length cop cva cpt cel ac_labelCount cla ax cax gax ob cob gob waf cwaf gwaf wat cwat gwat wap cwap gwap wag cwag gwag wgt cwgt gwgt wft cwft gwft wfv cwfv gwfv wgc cwgc gwgc wek cwek gwek wei cwei gwei wes cwes gwes wez cwez gwez cfi ccfi gcfi clk cclk gclk clt cclt gclt cop ccop gcop cva ccva gcva cpt ccpt gcpt cel ccel gcel cla ccla gcla) s.heap.size = A at hD ⊢
  have hA : ∀ q : Nat, s.heap.size ≤ q → A q := fun q h => by rw [← hAe]; exact Or.inr h
  clear hAe
  have hP : va_P (dC, dI) cls (wz_62 h0 aw ac h0_at h0_limit h0_sound h0_codeCount ob h0_openCount aw ab ac aw_typeCount wat wap wag aw_functionCount waf aw_hasMemory aw_pagesLeast aw_pagesMost aw_globalCount wgt wft wfv wgc aw_exportCount wek wei wes wez ab ax ab_length ac cfi clk clt ac_length cop cva cpt cel ac_labelCount cla ax cax gax ob cob gob waf cwaf gwaf wat cwat gwat wap cwap gwap wag cwag gwag wgt cwgt gwgt wft cwft gwft wfv cwfv gwfv wgc cwgc gwgc wek cwek gwek wei cwei gwei wes cwes gwes wez cwez gwez cfi ccfi gcfi clk cclk gclk clt cclt gclt cop ccop gcop cva ccva gcva cpt ccpt gcpt cel ccel gcel cla ccla gcla) s.heap := hP
  have hl := lv_entry ([.ref h0, .int p0]) (n := 4) (Nat.le_of_ble_eq_true rfl)
  rw [lg_entry_eq]
  generalize (lg_sl ([.ref h0, .int p0]) ++ List.replicate (4 - (lg_sl ([.ref h0, .int p0])).length) Slot.unset).toArray = ls at hl ⊢
  have hl : lv_has ls 4 [(0, .ref h0), (1, .int p0)] := hl
  have k0 : (0 : Int32).toInt = 0 := by decide
  refine w_gen (A := A) hP (fun H locs hP hS => ?_)
  have k1 : (1 : Int32).toInt = 1 := by decide
  have lo_p0 := i32_lo p0
  have hi_p0 := i32_hi p0
  have th0_sound := b01 b_h0_sound
  have taw_hasMemory := b01 b_aw_hasMemory
  refine lv_iload_n hx hb d_RE_readSection_0 rfl (lv_at hl 1 rfl) ?_
  by_cases g1_60 : p0.toInt = 0
  · have ho1 : tab_off 235 0 10 #[59, 110, 235, 117, 235, 171, 178, 185, 235, 235, 192] p0.toInt = 59 := by rw [g1_60]; rfl
    refine lv_tab (tgt := 60) hx hb d_RE_readSection_1 (by decide) ho1 (by decide) ?_
    clear ho1
    refine lv_aload_n hx hb d_RE_readSection_60 rfl (lv_at hl 0 rfl) ?_
    refine lv_aload_n hx hb d_RE_readSection_61 rfl (lv_at hl 0 rfl) ?_
    refine va_get (D := (dC, dI)) (ci := 7) (v := .int h0_limit) (C := R_RE) (T := F_RE) (N := 8) hx hb hts i_RE hown hK hP 0 rfl rfl 3 (by decide) (hts _ kF_RE_42) (fun _ h9 => h9) rfl d_RE_readSection_62 ?_
    refine lv_i2l hx hb d_RE_readSection_65 rfl ?_
    refine lv_topl (fun x1 ex1 => ?_)
    have tx1 := i2l_t ex1
    have hPc := hP.sb (wq := (wz_46 h0 aw ac h0_at h0_limit h0_sound h0_codeCount ob h0_openCount aw ab ac aw_typeCount wat wap wag aw_functionCount waf aw_hasMemory aw_pagesLeast aw_pagesMost aw_globalCount wgt wft wfv wgc aw_exportCount wek wei wes wez ab ax ab_length ax cax gax)) [0, 1, 2, 4] rfl
    have hDc := hD.sb (wq := (wz_46 h0 aw ac h0_at h0_limit h0_sound h0_codeCount ob h0_openCount aw ab ac aw_typeCount wat wap wag aw_functionCount waf aw_hasMemory aw_pagesLeast aw_pagesMost aw_globalCount wgt wft wfv wgc aw_exportCount wek wei wes wez ab ax ab_length ax cax gax)) [0, 1, 2, 4] (by decide) rfl
    have hKc := hK.sb (tyq := [(cax, .byte)]) [0] rfl
    have hFc := va_free (wc := (wz_46 h0 aw ac h0_at h0_limit h0_sound h0_codeCount ob h0_openCount aw ab ac aw_typeCount wat wap wag aw_functionCount waf aw_hasMemory aw_pagesLeast aw_pagesMost aw_globalCount wgt wft wfv wgc aw_exportCount wek wei wes wez ab ax ab_length ax cax gax)) hD hS hA [0, 1, 2, 4] rfl
    refine va_calll (va_runV (As := [.long x1]) (rest := []) ⟨hx, hb, hml, hown, hts⟩ (c_RE_readUnsigned l dC dI h0 aw ac ob ab ax H.size cax 8192 h0_at h0_limit h0_sound h0_codeCount h0_openCount ab_length gax [.ref ab, .ref ac, .int aw_typeCount, .ref wat, .ref wap, .ref wag, .int aw_functionCount, .ref waf, .int aw_hasMemory, .long aw_pagesLeast, .long aw_pagesMost, .int aw_globalCount, .ref wgt, .ref wft, .ref wfv, .ref wgc, .int aw_exportCount, .ref wek, .ref wei, .ref wes, .ref wez] rfl rfl b_h0_sound (by (first | (apply Int.le_antisymm <;> omega) | omega)) x1 (by (first | (apply Int.le_antisymm <;> omega) | omega))) (cwV 1 hts (gV kM_RE_64 kV_RE_readUnsigned kS_RE_readUnsigned kI_RE kC_RE_readUnsigned) rfl rfl rfl (by decide +kernel) ⟨Nat.le_of_ble_eq_true rfl, Nat.le_of_ble_eq_true rfl⟩) ⟨fun a U g mk z => by obtain ⟨z0, z1, zP, zK, zD⟩ := z; exact ⟨z0, z1, zP, va_K.moved (u := U) (U := U.calling g mk a) (Vm.Alike.refl U.vm) zK, zD⟩, va_recv hKc hPc (ci := 7) (q0 := 0) rfl rfl, fun U hU hW => ⟨rfl, by rw [hU], va_P.he hU.symm hPc, va_K.moved hW.alike hKc, hDc.weaken (fun _ _ _ _ => trivial)⟩⟩ rfl rfl hl.1 rfl (lv_room (Nat.le_of_ble_eq_true rfl)) d_RE_readSection_66 ⟨(Nat.zero_le _), (Nat.zero_le _)⟩) hS (fun q _ h => hFc q h) hFc (fun r2 u t H1 locs ht hvm hw hB hz1 hk1 hS => ?_)
    obtain ⟨n3, n4⟩ := u
    try dsimp only at hw
    obtain ⟨hsn4, tn3⟩ := hw
    have bsn4 := b01 hsn4
    obtain ⟨hP1, hK1, hD1⟩ := hB
    replace hP1 := va_P.he ht hP1
    obtain ⟨hP, hD⟩ := va_join (wr := (wz_63 ac cfi clk clt ac_length cop cva cpt cel ac_labelCount cla ob cob gob waf cwaf gwaf wat cwat gwat wap cwap gwap wag cwag gwag wgt cwgt gwgt wft cwft gwft wfv cwfv gwfv wgc cwgc gwgc wek cwek gwek wei cwei gwei wes cwes gwes wez cwez gwez cfi ccfi gcfi clk cclk gclk clt cclt gclt cop ccop gcop cva ccva gcva cpt ccpt gcpt cel ccel gcel cla ccla gcla)) (w1 := (wz_46 h0 aw ac n3 h0_limit n4 h0_codeCount ob h0_openCount aw ab ac aw_typeCount wat wap wag aw_functionCount waf aw_hasMemory aw_pagesLeast aw_pagesMost aw_globalCount wgt wft wfv wgc aw_exportCount wek wei wes wez ab ax ab_length ax cax gax)) hP hD [0, 1, 2, 4] [3, 5, 6, 7, 8, 9, 10, 11, 12, 13, 14, 15, 16, 17, 18, 19, 20, 21, 22, 23, 24, 25] rfl rfl (by decide) (by decide) hk1 hFc hP1 hD1
    clear hPc hDc hKc hFc hz1 hk1 hP1 hK1 hD1
    rename Heap => H
    have hP : va_P (dC, dI) cls (wz_64 ac cfi clk clt ac_length cop cva cpt cel ac_labelCount cla ob cob gob waf cwaf gwaf wat cwat gwat wap cwap gwap wag cwag gwag wgt cwgt gwgt wft cwft gwft wfv cwfv gwfv wgc cwgc gwgc wek cwek gwek wei cwei gwei wes cwes gwes wez cwez gwez cfi ccfi gcfi clk cclk gclk clt cclt gclt cop ccop gcop cva ccva gcva cpt ccpt gcpt cel ccel gcel cla ccla gcla h0 aw ac n3 h0_limit n4 h0_codeCount ob h0_openCount aw ab ac aw_typeCount wat wap wag aw_functionCount waf aw_hasMemory aw_pagesLeast aw_pagesMost aw_globalCount wgt wft wfv wgc aw_exportCount wek wei wes wez ab ax ab_length ax cax gax) H := hP
    have hD : va_D A (wz_64 ac cfi clk clt ac_length cop cva cpt cel ac_labelCount cla ob cob gob waf cwaf gwaf wat cwat gwat wap cwap gwap wag cwag gwag wgt cwgt gwgt wft cwft gwft wfv cwfv gwfv wgc cwgc gwgc wek cwek gwek wei cwei gwei wes cwes gwes wez cwez gwez cfi ccfi gcfi clk cclk gclk clt cclt gclt cop ccop gcop cva ccva gcva cpt ccpt gcpt cel ccel gcel cla ccla gcla h0 aw ac n3 h0_limit n4 h0_codeCount ob h0_openCount aw ab ac aw_typeCount wat wap wag aw_functionCount waf aw_hasMemory aw_pagesLeast aw_pagesMost aw_globalCount wgt wft wfv wgc aw_exportCount wek wei wes wez ab ax ab_length ax cax gax) := hD
    refine lv_l2i hx hb d_RE_readSection_69 rfl ?_
    refine lv_topi (fun x5 ex5 => ?_)
    have tx5 := l2i_t ex5 (by (first | (apply Int.le_antisymm <;> omega) | omega)) (by (first | (apply Int.le_antisymm <;> omega) | omega))
    refine lv_istore_n (lv' := [(2, .int x5), (0, .ref h0), (1, .int p0)]) hx hb d_RE_readSection_70 rfl hl (by decide) rfl (fun ls hl => ?_)
    refine lv_aload_n hx hb d_RE_readSection_71 rfl (lv_at hl 1 rfl) ?_
    refine lv_aload_n hx hb d_RE_readSection_72 rfl (lv_at hl 1 rfl) ?_
    refine va_get (D := (dC, dI)) (ci := 7) (v := .int n4) (C := R_RE) (T := F_RE) (N := 8) hx hb hts i_RE hown hK hP 22 rfl rfl 4 (by decide) (hts _ kF_RE_45) (fun _ h9 => h9) rfl d_RE_readSection_73 ?_
    refine w_cut (pc2 := 97) (σ := Int32) (fun u H locs ls => match u with | j97_s0 => (j97_s0 = 0 ∨ j97_s0 = 1) ∧ (j97_s0.toInt = 1 → n4.toInt = 1) ∧ va_P (dC, dI) cls (wz_64 ac cfi clk clt ac_length cop cva cpt cel ac_labelCount cla ob cob gob waf cwaf gwaf wat cwat gwat wap cwap gwap wag cwag gwag wgt cwgt gwgt wft cwft gwft wfv cwfv gwfv wgc cwgc gwgc wek cwek gwek wei cwei gwei wes cwes gwes wez cwez gwez cfi ccfi gcfi clk cclk gclk clt cclt gclt cop ccop gcop cva ccva gcva cpt ccpt gcpt cel ccel gcel cla ccla gcla h0 aw ac n3 h0_limit n4 h0_codeCount ob h0_openCount aw ab ac aw_typeCount wat wap wag aw_functionCount waf aw_hasMemory aw_pagesLeast aw_pagesMost aw_globalCount wgt wft wfv wgc aw_exportCount wek wei wes wez ab ax ab_length ax cax gax) H ∧ va_D A (wz_64 ac cfi clk clt ac_length cop cva cpt cel ac_labelCount cla ob cob gob waf cwaf gwaf wat cwat gwat wap cwap gwap wag cwag gwag wgt cwgt gwgt wft cwft gwft wfv cwfv gwfv wgc cwgc gwgc wek cwek gwek wei cwei gwei wes cwes gwes wez cwez gwez cfi ccfi gcfi clk cclk gclk clt cclt gclt cop ccop gcop cva ccva gcva cpt ccpt gcpt cel ccel gcel cla ccla gcla h0 aw ac n3 h0_limit n4 h0_codeCount ob h0_openCount aw ab ac aw_typeCount wat wap wag aw_functionCount waf aw_hasMemory aw_pagesLeast aw_pagesMost aw_globalCount wgt wft wfv wgc aw_exportCount wek wei wes wez ab ax ab_length ax cax gax) ∧ va_S A s.heap H locs ∧ lv_has ls 4 [(0, .ref h0)]) (fun u => match u with | j97_s0 => [.int j97_s0, .ref h0]) ?_ (fun jn97 => ?_)
    · intro u H locs ls hI
      obtain ⟨j97_s0, rfl⟩ : ∃ z, z = u := ⟨_, rfl⟩
      obtain ⟨b_j97_s0, x0, hP, hD, hS, hl⟩ := hI
      have tj97_s0 := b01 b_j97_s0
      refine va_put (D := (dC, dI)) (ci := 7) (v := .int j97_s0) (ty := .boolean) (C := R_RE) (T := F_RE) (N := 8) hx hb hts i_RE t_RE t_RE_ok n_RE hown hK hP hD hS 22 rfl rfl 4 (by decide) (hts _ kF_RE_45) (fun _ h9 => h9) rfl (by decide +kernel) (zn01 (b_j97_s0)) (fz01 (b_j97_s0)) (Nat.le_of_ble_eq_true rfl) d_RE_readSection_97 (fun H locs hP hD hS => ?_)
      refine lv_aload_n hx hb d_RE_readSection_100 rfl (lv_at hl 0 rfl) ?_
      refine lv_aload_n hx hb d_RE_readSection_101 rfl (lv_at hl 0 rfl) ?_
      refine va_get (D := (dC, dI)) (ci := 7) (v := .int h0_limit) (C := R_RE) (T := F_RE) (N := 8) hx hb hts i_RE hown hK hP 22 rfl rfl 3 (by decide) (hts _ kF_RE_42) (fun _ h9 => h9) rfl d_RE_readSection_102 ?_
      refine va_put (D := (dC, dI)) (ci := 7) (v := .int h0_limit) (ty := .int) (C := R_RE) (T := F_RE) (N := 8) hx hb hts i_RE t_RE t_RE_ok n_RE hown hK hP hD hS 22 rfl rfl 2 (by decide) (hts _ kF_RE_29) (fun _ h9 => h9) rfl (by decide +kernel) rfl rfl (Nat.le_of_ble_eq_true rfl) d_RE_readSection_105 (fun H locs hP hD hS => ?_)
      refine lv_goto (tgt := 241) hx hb d_RE_readSection_108 (by decide) ?_
      have hP9 := hP.sb (wq := (wz_62 h0 aw ac h0_limit h0_limit j97_s0 h0_codeCount ob h0_openCount aw ab ac aw_typeCount wat wap wag aw_functionCount waf aw_hasMemory aw_pagesLeast aw_pagesMost aw_globalCount wgt wft wfv wgc aw_exportCount wek wei wes wez ab ax ab_length ac cfi clk clt ac_length cop cva cpt cel ac_labelCount cla ax cax gax ob cob gob waf cwaf gwaf wat cwat gwat wap cwap gwap wag cwag gwag wgt cwgt gwgt wft cwft gwft wfv cwfv gwfv wgc cwgc gwgc wek cwek gwek wei cwei gwei wes cwes gwes wez cwez gwez cfi ccfi gcfi clk cclk gclk clt cclt gclt cop ccop gcop cva ccva gcva cpt ccpt gcpt cel ccel gcel cla ccla gcla)) [22, 23, 24, 0, 25, 1, 2, 3, 4, 5, 6, 7, 8, 9, 10, 11, 12, 13, 14, 15, 16, 17, 18, 19, 20, 21] rfl
      have hD9 := hD.sb (wq := (wz_62 h0 aw ac h0_limit h0_limit j97_s0 h0_codeCount ob h0_openCount aw ab ac aw_typeCount wat wap wag aw_functionCount waf aw_hasMemory aw_pagesLeast aw_pagesMost aw_globalCount wgt wft wfv wgc aw_exportCount wek wei wes wez ab ax ab_length ac cfi clk clt ac_length cop cva cpt cel ac_labelCount cla ax cax gax ob cob gob waf cwaf gwaf wat cwat gwat wap cwap gwap wag cwag gwag wgt cwgt gwgt wft cwft gwft wfv cwfv gwfv wgc cwgc gwgc wek cwek gwek wei cwei gwei wes cwes gwes wez cwez gwez cfi ccfi gcfi clk cclk gclk clt cclt gclt cop ccop gcop cva ccva gcva cpt ccpt gcpt cel ccel gcel cla ccla gcla)) [22, 23, 24, 0, 25, 1, 2, 3, 4, 5, 6, 7, 8, 9, 10, 11, 12, 13, 14, 15, 16, 17, 18, 19, 20, 21] (by decide) rfl
      exact W.vret hx hb hr (fun t ht hW => ⟨⟨(gcel, gcfi, gcla, gclk, gclt, gcop, gcpt, gcva, gob, gwaf, gwag, gwap, gwat, gwei, gwek, gwes, gwez, gwft, gwfv, gwgc, gwgt, ac_labelCount, ac_length, aw_exportCount, aw_functionCount, aw_globalCount, aw_hasMemory, aw_pagesLeast, aw_pagesMost, aw_typeCount, h0_limit, h0_codeCount, h0_limit, h0_openCount, j97_s0), rfl, ⟨b_ac_labelCount, b_ac_length, b_aw_exportCount, b_aw_functionCount, b_aw_globalCount, b_aw_hasMemory, b_aw_typeCount, b_h0_codeCount, b_h0_openCount, b_j97_s0, ⟨⟨by (try dsimp only) <;> (first | (apply Int.le_antisymm <;> omega) | omega), by (try dsimp only) <;> (first | (apply Int.le_antisymm <;> omega) | omega)⟩, fun z => by (try dsimp only at z); (first | (apply Int.le_antisymm <;> omega) | omega), hel, hlb, fun z => ⟨id, id, id, id, id, id⟩⟩⟩, va_P.he ht.symm hP9, va_K.moved hW.alike hK, hD9⟩, hS.F ht⟩) hS.2.2 d_RE_readSection_241
    · skip
      refine w_cut (pc2 := 96) (σ := Unit) (fun u H locs ls => match u with | _ => va_P (dC, dI) cls (wz_64 ac cfi clk clt ac_length cop cva cpt cel ac_labelCount cla ob cob gob waf cwaf gwaf wat cwat gwat wap cwap gwap wag cwag gwag wgt cwgt gwgt wft cwft gwft wfv cwfv gwfv wgc cwgc gwgc wek cwek gwek wei cwei gwei wes cwes gwes wez cwez gwez cfi ccfi gcfi clk cclk gclk clt cclt gclt cop ccop gcop cva ccva gcva cpt ccpt gcpt cel ccel gcel cla ccla gcla h0 aw ac n3 h0_limit n4 h0_codeCount ob h0_openCount aw ab ac aw_typeCount wat wap wag aw_functionCount waf aw_hasMemory aw_pagesLeast aw_pagesMost aw_globalCount wgt wft wfv wgc aw_exportCount wek wei wes wez ab ax ab_length ax cax gax) H ∧ va_D A (wz_64 ac cfi clk clt ac_length cop cva cpt cel ac_labelCount cla ob cob gob waf cwaf gwaf wat cwat gwat wap cwap gwap wag cwag gwag wgt cwgt gwgt wft cwft gwft wfv cwfv gwfv wgc cwgc gwgc wek cwek gwek wei cwei gwei wes cwes gwes wez cwez gwez cfi ccfi gcfi clk cclk gclk clt cclt gclt cop ccop gcop cva ccva gcva cpt ccpt gcpt cel ccel gcel cla ccla gcla h0 aw ac n3 h0_limit n4 h0_codeCount ob h0_openCount aw ab ac aw_typeCount wat wap wag aw_functionCount waf aw_hasMemory aw_pagesLeast aw_pagesMost aw_globalCount wgt wft wfv wgc aw_exportCount wek wei wes wez ab ax ab_length ax cax gax) ∧ va_S A s.heap H locs ∧ lv_has ls 4 [(0, .ref h0)]) (fun u => match u with | _ => [.ref h0]) ?_ (fun jn96 => ?_)
      · intro u H locs ls hI
        obtain ⟨hP, hD, hS, hl⟩ := hI
        refine lv_iconst (v := 0) hx hb d_RE_readSection_96 (by decide) ?_
        exact jn97 0 _ _ _ ⟨Or.inl rfl, by (try dsimp only) <;> (first | (apply Int.le_antisymm <;> omega) | omega), hP, hD, hS, lv_sub hl [0] rfl⟩
      · skip
        refine lv_if_eq (tgt := 96) hx hb d_RE_readSection_76 (by decide) (fun c76 => ?_) (fun c76 => ?_)
        · have q76 := eqI c76
          exact jn96 () _ _ _ ⟨hP, hD, hS, lv_sub hl [1] rfl⟩
        · have q76 := neI c76
          refine lv_iload_n hx hb d_RE_readSection_79 rfl (lv_at hl 0 rfl) ?_
          refine lv_aload_n hx hb d_RE_readSection_80 rfl (lv_at hl 1 rfl) ?_
          refine va_get (D := (dC, dI)) (ci := 7) (v := .int h0_limit) (C := R_RE) (T := F_RE) (N := 8) hx hb hts i_RE hown hK hP 22 rfl rfl 3 (by decide) (hts _ kF_RE_42) (fun _ h9 => h9) rfl d_RE_readSection_81 ?_
          refine lv_aload_n hx hb d_RE_readSection_84 rfl (lv_at hl 1 rfl) ?_
          refine va_get (D := (dC, dI)) (ci := 7) (v := .int n3) (C := R_RE) (T := F_RE) (N := 8) hx hb hts i_RE hown hK hP 22 rfl rfl 2 (by decide) (hts _ kF_RE_29) (fun _ h9 => h9) rfl d_RE_readSection_85 ?_
          refine lv_isub hx hb d_RE_readSection_88 ?_
          refine lv_topi (fun x6 ex6 => ?_)
          have tx6 : x6.toInt = h0_limit.toInt - n3.toInt := by have z := i32_sub ex6 (by (first | (apply Int.le_antisymm <;> omega) | omega)) (by (first | (apply Int.le_antisymm <;> omega) | omega)); first | exact z | (first | (apply Int.le_antisymm <;> omega) | omega)
          refine lv_icmp_gt (tgt := 96) hx hb d_RE_readSection_89 (by decide) (fun c89 => ?_) (fun c89 => ?_)
          · have q89 := ltI c89
            exact jn96 () _ _ _ ⟨hP, hD, hS, lv_sub hl [1] rfl⟩
          · have q89 := nltI c89
            refine lv_iconst (v := 1) hx hb d_RE_readSection_92 (by decide) ?_
            refine lv_goto (tgt := 97) hx hb d_RE_readSection_93 (by decide) ?_
            exact jn97 1 _ _ _ ⟨Or.inr rfl, by (try dsimp only) <;> (first | (apply Int.le_antisymm <;> omega) | omega), hP, hD, hS, lv_sub hl [1] rfl⟩
  · skip
    by_cases g1_111 : p0.toInt = 1
    · have ho1 : tab_off 235 0 10 #[59, 110, 235, 117, 235, 171, 178, 185, 235, 235, 192] p0.toInt = 110 := by rw [g1_111]; rfl
      refine lv_tab (tgt := 111) hx hb d_RE_readSection_1 (by decide) ho1 (by decide) ?_
      clear ho1
      refine lv_aload_n hx hb d_RE_readSection_111 rfl (lv_at hl 0 rfl) ?_
      have hPc := hP.sb (wq := (wz_47 h0 aw ac h0_at h0_limit h0_sound h0_codeCount ob h0_openCount aw ab ac aw_typeCount wat wap wag aw_functionCount waf aw_hasMemory aw_pagesLeast aw_pagesMost aw_globalCount wgt wft wfv wgc aw_exportCount wek wei wes wez ab ax ab_length ax cax gax wat cwat gwat wap cwap gwap wag cwag gwag)) [0, 1, 2, 4, 7, 8, 9] rfl
      have hDc := hD.sb (wq := (wz_47 h0 aw ac h0_at h0_limit h0_sound h0_codeCount ob h0_openCount aw ab ac aw_typeCount wat wap wag aw_functionCount waf aw_hasMemory aw_pagesLeast aw_pagesMost aw_globalCount wgt wft wfv wgc aw_exportCount wek wei wes wez ab ax ab_length ax cax gax wat cwat gwat wap cwap gwap wag cwag gwag)) [0, 1, 2, 4, 7, 8, 9] (by decide) rfl
      have hKc := hK.sb (tyq := [(cax, .byte), (cwat, .int), (cwap, .int), (cwag, .int)]) [0, 3, 4, 5] rfl
      have hFc := va_free (wc := (wz_47 h0 aw ac h0_at h0_limit h0_sound h0_codeCount ob h0_openCount aw ab ac aw_typeCount wat wap wag aw_functionCount waf aw_hasMemory aw_pagesLeast aw_pagesMost aw_globalCount wgt wft wfv wgc aw_exportCount wek wei wes wez ab ax ab_length ax cax gax wat cwat gwat wap cwap gwap wag cwag gwag)) hD hS hA [0, 1, 2, 4, 7, 8, 9] rfl
      refine va_callv (va_runV (As := []) (rest := []) ⟨hx, hb, hml, hown, hts⟩ (c_RE_readTypes l dC dI H.size h0 aw ac ob ab wat wap wag waf wgt wft wfv wgc wek wei wes wez ax cax cwat cwap cwag h0_at h0_limit h0_sound h0_codeCount h0_openCount aw_typeCount aw_functionCount aw_hasMemory aw_pagesLeast aw_pagesMost aw_globalCount aw_exportCount ab_length gax gwat gwap gwag (b_h0_sound) (b_aw_typeCount) (ha)) (cwV 0 hts (gV kM_RE_74 kV_RE_readTypes kS_RE_readTypes kI_RE kC_RE_readTypes) rfl rfl rfl (by decide +kernel) ⟨Nat.le_of_ble_eq_true rfl, Nat.le_of_ble_eq_true rfl⟩) ⟨fun a U g mk z => by obtain ⟨z0, z1, zP, zK, zD⟩ := z; exact ⟨z0, z1, zP, va_K.moved (u := U) (U := U.calling g mk a) (Vm.Alike.refl U.vm) zK, zD⟩, va_recv hKc hPc (ci := 7) (q0 := 0) rfl rfl, fun U hU hW => ⟨rfl, by rw [hU], va_P.he hU.symm hPc, va_K.moved hW.alike hKc, hDc.weaken (fun _ _ _ _ => trivial)⟩⟩ rfl rfl hl.1 rfl (lv_room (Nat.le_of_ble_eq_true rfl)) d_RE_readSection_112 ⟨(Nat.zero_le _), (Nat.zero_le _)⟩) hS (fun q _ h => hFc q h) hFc (fun u t H1 locs ht hvm hw hB hz1 hk1 hS => ?_)
      obtain ⟨n8, n9, n10, n11, n12, n13⟩ := u
      try dsimp only at hw
      obtain ⟨bn11, bn13, xr7⟩ := hw
      try clear hw
      have tn13 := b01 bn13
      obtain ⟨hP1, hK1, hD1⟩ := hB
      replace hP1 := va_P.he ht hP1
      obtain ⟨hP, hD⟩ := va_join (wr := [(ac, .inr (3, [.ref cfi, .ref clk, .ref clt, .int ac_length, .ref cop, .ref cva, .ref cpt, .ref cel, .int ac_labelCount, .ref cla])), (ob, .inl (cob, 100, .inl gob)), (waf, .inl (cwaf, 30, .inl gwaf)), (wgt, .inl (cwgt, 20, .inl gwgt)), (wft, .inl (cwft, 20, .inl gwft)), (wfv, .inl (cwfv, 20, .inr (.inl gwfv))), (wgc, .inl (cwgc, 20, .inl gwgc)), (wek, .inl (cwek, 40, .inl gwek)), (wei, .inl (cwei, 40, .inl gwei)), (wes, .inl (cwes, 40, .inl gwes)), (wez, .inl (cwez, 40, .inl gwez)), (cfi, .inl (ccfi, 31, .inl gcfi)), (clk, .inl (cclk, 30, .inl gclk)), (clt, .inl (cclt, 1800, .inl gclt)), (cop, .inl (ccop, 5000, .inl gcop)), (cva, .inl (ccva, 5000, .inr (.inl gcva))), (cpt, .inl (ccpt, 5000, .inl gcpt)), (cel, .inl (ccel, 5000, .inl gcel)), (cla, .inl (ccla, 2000, .inl gcla))]) (w1 := (wz_47 h0 aw ac n12 h0_limit n13 h0_codeCount ob h0_openCount aw ab ac n11 wat wap wag aw_functionCount waf aw_hasMemory aw_pagesLeast aw_pagesMost aw_globalCount wgt wft wfv wgc aw_exportCount wek wei wes wez ab ax ab_length ax cax gax wat cwat n10 wap cwap n9 wag cwag n8)) hP hD [0, 1, 2, 4, 7, 8, 9] [3, 5, 6, 10, 11, 12, 13, 14, 15, 16, 17, 18, 19, 20, 21, 22, 23, 24, 25] rfl rfl (by decide) (by decide) hk1 hFc hP1 hD1
      clear hPc hDc hKc hFc hz1 hk1 hP1 hK1 hD1
      rename Heap => H
      have hP : va_P (dC, dI) cls [(ac, .inr (3, [.ref cfi, .ref clk, .ref clt, .int ac_length, .ref cop, .ref cva, .ref cpt, .ref cel, .int ac_labelCount, .ref cla])), (ob, .inl (cob, 100, .inl gob)), (waf, .inl (cwaf, 30, .inl gwaf)), (wgt, .inl (cwgt, 20, .inl gwgt)), (wft, .inl (cwft, 20, .inl gwft)), (wfv, .inl (cwfv, 20, .inr (.inl gwfv))), (wgc, .inl (cwgc, 20, .inl gwgc)), (wek, .inl (cwek, 40, .inl gwek)), (wei, .inl (cwei, 40, .inl gwei)), (wes, .inl (cwes, 40, .inl gwes)), (wez, .inl (cwez, 40, .inl gwez)), (cfi, .inl (ccfi, 31, .inl gcfi)), (clk, .inl (cclk, 30, .inl gclk)), (clt, .inl (cclt, 1800, .inl gclt)), (cop, .inl (ccop, 5000, .inl gcop)), (cva, .inl (ccva, 5000, .inr (.inl gcva))), (cpt, .inl (ccpt, 5000, .inl gcpt)), (cel, .inl (ccel, 5000, .inl gcel)), (cla, .inl (ccla, 2000, .inl gcla)), (h0, .inr (7, [.ref aw, .ref ac, .int n12, .int h0_limit, .int n13, .int h0_codeCount, .ref ob, .int h0_openCount])), (aw, .inr (10, [.ref ab, .ref ac, .int n11, .ref wat, .ref wap, .ref wag, .int aw_functionCount, .ref waf, .int aw_hasMemory, .long aw_pagesLeast, .long aw_pagesMost, .int aw_globalCount, .ref wgt, .ref wft, .ref wfv, .ref wgc, .int aw_exportCount, .ref wek, .ref wei, .ref wes, .ref wez])), (ab, .inr (1, [.ref ax, .int ab_length])), (ax, .inl (cax, 8192, .inl gax)), (wat, .inl (cwat, 20, .inl n10)), (wap, .inl (cwap, 160, .inl n9)), (wag, .inl (cwag, 20, .inl n8))] H := hP
      have hD : va_D A [(ac, .inr (3, [.ref cfi, .ref clk, .ref clt, .int ac_length, .ref cop, .ref cva, .ref cpt, .ref cel, .int ac_labelCount, .ref cla])), (ob, .inl (cob, 100, .inl gob)), (waf, .inl (cwaf, 30, .inl gwaf)), (wgt, .inl (cwgt, 20, .inl gwgt)), (wft, .inl (cwft, 20, .inl gwft)), (wfv, .inl (cwfv, 20, .inr (.inl gwfv))), (wgc, .inl (cwgc, 20, .inl gwgc)), (wek, .inl (cwek, 40, .inl gwek)), (wei, .inl (cwei, 40, .inl gwei)), (wes, .inl (cwes, 40, .inl gwes)), (wez, .inl (cwez, 40, .inl gwez)), (cfi, .inl (ccfi, 31, .inl gcfi)), (clk, .inl (cclk, 30, .inl gclk)), (clt, .inl (cclt, 1800, .inl gclt)), (cop, .inl (ccop, 5000, .inl gcop)), (cva, .inl (ccva, 5000, .inr (.inl gcva))), (cpt, .inl (ccpt, 5000, .inl gcpt)), (cel, .inl (ccel, 5000, .inl gcel)), (cla, .inl (ccla, 2000, .inl gcla)), (h0, .inr (7, [.ref aw, .ref ac, .int n12, .int h0_limit, .int n13, .int h0_codeCount, .ref ob, .int h0_openCount])), (aw, .inr (10, [.ref ab, .ref ac, .int n11, .ref wat, .ref wap, .ref wag, .int aw_functionCount, .ref waf, .int aw_hasMemory, .long aw_pagesLeast, .long aw_pagesMost, .int aw_globalCount, .ref wgt, .ref wft, .ref wfv, .ref wgc, .int aw_exportCount, .ref wek, .ref wei, .ref wes, .ref wez])), (ab, .inr (1, [.ref ax, .int ab_length])), (ax, .inl (cax, 8192, .inl gax)), (wat, .inl (cwat, 20, .inl n10)), (wap, .inl (cwap, 160, .inl n9)), (wag, .inl (cwag, 20, .inl n8))] := hD
      refine lv_goto (tgt := 241) hx hb d_RE_readSection_115 (by decide) ?_
      have hP9 := hP.sb (wq := (wz_62 h0 aw ac n12 h0_limit n13 h0_codeCount ob h0_openCount aw ab ac n11 wat wap wag aw_functionCount waf aw_hasMemory aw_pagesLeast aw_pagesMost aw_globalCount wgt wft wfv wgc aw_exportCount wek wei wes wez ab ax ab_length ac cfi clk clt ac_length cop cva cpt cel ac_labelCount cla ax cax gax ob cob gob waf cwaf gwaf wat cwat n10 wap cwap n9 wag cwag n8 wgt cwgt gwgt wft cwft gwft wfv cwfv gwfv wgc cwgc gwgc wek cwek gwek wei cwei gwei wes cwes gwes wez cwez gwez cfi ccfi gcfi clk cclk gclk clt cclt gclt cop ccop gcop cva ccva gcva cpt ccpt gcpt cel ccel gcel cla ccla gcla)) [19, 20, 21, 0, 22, 1, 2, 23, 24, 25, 3, 4, 5, 6, 7, 8, 9, 10, 11, 12, 13, 14, 15, 16, 17, 18] rfl
      have hD9 := hD.sb (wq := (wz_62 h0 aw ac n12 h0_limit n13 h0_codeCount ob h0_openCount aw ab ac n11 wat wap wag aw_functionCount waf aw_hasMemory aw_pagesLeast aw_pagesMost aw_globalCount wgt wft wfv wgc aw_exportCount wek wei wes wez ab ax ab_length ac cfi clk clt ac_length cop cva cpt cel ac_labelCount cla ax cax gax ob cob gob waf cwaf gwaf wat cwat n10 wap cwap n9 wag cwag n8 wgt cwgt gwgt wft cwft gwft wfv cwfv gwfv wgc cwgc gwgc wek cwek gwek wei cwei gwei wes cwes gwes wez cwez gwez cfi ccfi gcfi clk cclk gclk clt cclt gclt cop ccop gcop cva ccva gcva cpt ccpt gcpt cel ccel gcel cla ccla gcla)) [19, 20, 21, 0, 22, 1, 2, 23, 24, 25, 3, 4, 5, 6, 7, 8, 9, 10, 11, 12, 13, 14, 15, 16, 17, 18] (by decide) rfl
      exact W.vret hx hb hr (fun t ht hW => ⟨⟨(gcel, gcfi, gcla, gclk, gclt, gcop, gcpt, gcva, gob, gwaf, n8, n9, n10, gwei, gwek, gwes, gwez, gwft, gwfv, gwgc, gwgt, ac_labelCount, ac_length, aw_exportCount, aw_functionCount, aw_globalCount, aw_hasMemory, aw_pagesLeast, aw_pagesMost, n11, n12, h0_codeCount, h0_limit, h0_openCount, n13), rfl, ⟨b_ac_labelCount, b_ac_length, b_aw_exportCount, b_aw_functionCount, b_aw_globalCount, b_aw_hasMemory, bn11, b_h0_codeCount, b_h0_openCount, bn13, ⟨⟨by (try dsimp only) <;> (first | (apply Int.le_antisymm <;> omega) | omega), by (try dsimp only) <;> (first | (apply Int.le_antisymm <;> omega) | omega)⟩, fun z => by (try dsimp only at z); (first | (apply Int.le_antisymm <;> omega) | omega), hel, hlb, fun z => ⟨fun _ => xr7.2.2 z, id, id, id, id, id⟩⟩⟩, va_P.he ht.symm hP9, va_K.moved hW.alike hK, hD9⟩, hS.F ht⟩) hS.2.2 d_RE_readSection_241
    · skip
      by_cases g1_118 : p0.toInt = 3
      · have ho1 : tab_off 235 0 10 #[59, 110, 235, 117, 235, 171, 178, 185, 235, 235, 192] p0.toInt = 117 := by rw [g1_118]; rfl
        refine lv_tab (tgt := 118) hx hb d_RE_readSection_1 (by decide) ho1 (by decide) ?_
        clear ho1
        refine lv_aload_n hx hb d_RE_readSection_118 rfl (lv_at hl 0 rfl) ?_
        refine va_get (D := (dC, dI)) (ci := 7) (v := .ref aw) (C := R_RE) (T := F_RE) (N := 8) hx hb hts i_RE hown hK hP 0 rfl rfl 0 (by decide) (hts _ kF_RE_15) (fun _ h9 => h9) rfl d_RE_readSection_119 ?_
        refine lv_aload_n hx hb d_RE_readSection_122 rfl (lv_at hl 0 rfl) ?_
        refine lv_ldc2 hx hb hown (hts _ kL_RE_77) d_RE_readSection_123 ?_
        refine lv_topl (fun x14 ex14 => ?_)
        have tx14 : x14.toInt = 30 := by rw [ex14]; decide
        have hPc := hP.sb (wq := (wz_46 h0 aw ac h0_at h0_limit h0_sound h0_codeCount ob h0_openCount aw ab ac aw_typeCount wat wap wag aw_functionCount waf aw_hasMemory aw_pagesLeast aw_pagesMost aw_globalCount wgt wft wfv wgc aw_exportCount wek wei wes wez ab ax ab_length ax cax gax)) [0, 1, 2, 4] rfl
        have hDc := hD.sb (wq := (wz_46 h0 aw ac h0_at h0_limit h0_sound h0_codeCount ob h0_openCount aw ab ac aw_typeCount wat wap wag aw_functionCount waf aw_hasMemory aw_pagesLeast aw_pagesMost aw_globalCount wgt wft wfv wgc aw_exportCount wek wei wes wez ab ax ab_length ax cax gax)) [0, 1, 2, 4] (by decide) rfl
        have hKc := hK.sb (tyq := [(cax, .byte)]) [0] rfl
        have hFc := va_free (wc := (wz_46 h0 aw ac h0_at h0_limit h0_sound h0_codeCount ob h0_openCount aw ab ac aw_typeCount wat wap wag aw_functionCount waf aw_hasMemory aw_pagesLeast aw_pagesMost aw_globalCount wgt wft wfv wgc aw_exportCount wek wei wes wez ab ax ab_length ax cax gax)) hD hS hA [0, 1, 2, 4] rfl
        refine va_calll (va_runV (As := [.long x14]) (rest := [.ref aw]) ⟨hx, hb, hml, hown, hts⟩ (c_RE_readUnsigned l dC dI h0 aw ac ob ab ax H.size cax 8192 h0_at h0_limit h0_sound h0_codeCount h0_openCount ab_length gax [.ref ab, .ref ac, .int aw_typeCount, .ref wat, .ref wap, .ref wag, .int aw_functionCount, .ref waf, .int aw_hasMemory, .long aw_pagesLeast, .long aw_pagesMost, .int aw_globalCount, .ref wgt, .ref wft, .ref wfv, .ref wgc, .int aw_exportCount, .ref wek, .ref wei, .ref wes, .ref wez] rfl rfl b_h0_sound (by (first | (apply Int.le_antisymm <;> omega) | omega)) x14 (by (first | (apply Int.le_antisymm <;> omega) | omega))) (cwV 1 hts (gV kM_RE_64 kV_RE_readUnsigned kS_RE_readUnsigned kI_RE kC_RE_readUnsigned) rfl rfl rfl (by decide +kernel) ⟨Nat.le_of_ble_eq_true rfl, Nat.le_of_ble_eq_true rfl⟩) ⟨fun a U g mk z => by obtain ⟨z0, z1, zP, zK, zD⟩ := z; exact ⟨z0, z1, zP, va_K.moved (u := U) (U := U.calling g mk a) (Vm.Alike.refl U.vm) zK, zD⟩, va_recv hKc hPc (ci := 7) (q0 := 0) rfl rfl, fun U hU hW => ⟨rfl, by rw [hU], va_P.he hU.symm hPc, va_K.moved hW.alike hKc, hDc.weaken (fun _ _ _ _ => trivial)⟩⟩ rfl rfl hl.1 rfl (lv_room (Nat.le_of_ble_eq_true rfl)) d_RE_readSection_126 ⟨(Nat.zero_le _), (Nat.zero_le _)⟩) hS (fun q _ h => hFc q h) hFc (fun r15 u t H1 locs ht hvm hw hB hz1 hk1 hS => ?_)
        obtain ⟨n16, n17⟩ := u
        try dsimp only at hw
        obtain ⟨hsn17, tn16⟩ := hw
        have bsn17 := b01 hsn17
        obtain ⟨hP1, hK1, hD1⟩ := hB
        replace hP1 := va_P.he ht hP1
        obtain ⟨hP, hD⟩ := va_join (wr := (wz_63 ac cfi clk clt ac_length cop cva cpt cel ac_labelCount cla ob cob gob waf cwaf gwaf wat cwat gwat wap cwap gwap wag cwag gwag wgt cwgt gwgt wft cwft gwft wfv cwfv gwfv wgc cwgc gwgc wek cwek gwek wei cwei gwei wes cwes gwes wez cwez gwez cfi ccfi gcfi clk cclk gclk clt cclt gclt cop ccop gcop cva ccva gcva cpt ccpt gcpt cel ccel gcel cla ccla gcla)) (w1 := (wz_46 h0 aw ac n16 h0_limit n17 h0_codeCount ob h0_openCount aw ab ac aw_typeCount wat wap wag aw_functionCount waf aw_hasMemory aw_pagesLeast aw_pagesMost aw_globalCount wgt wft wfv wgc aw_exportCount wek wei wes wez ab ax ab_length ax cax gax)) hP hD [0, 1, 2, 4] [3, 5, 6, 7, 8, 9, 10, 11, 12, 13, 14, 15, 16, 17, 18, 19, 20, 21, 22, 23, 24, 25] rfl rfl (by decide) (by decide) hk1 hFc hP1 hD1
        clear hPc hDc hKc hFc hz1 hk1 hP1 hK1 hD1
        rename Heap => H
        have hP : va_P (dC, dI) cls (wz_64 ac cfi clk clt ac_length cop cva cpt cel ac_labelCount cla ob cob gob waf cwaf gwaf wat cwat gwat wap cwap gwap wag cwag gwag wgt cwgt gwgt wft cwft gwft wfv cwfv gwfv wgc cwgc gwgc wek cwek gwek wei cwei gwei wes cwes gwes wez cwez gwez cfi ccfi gcfi clk cclk gclk clt cclt gclt cop ccop gcop cva ccva gcva cpt ccpt gcpt cel ccel gcel cla ccla gcla h0 aw ac n16 h0_limit n17 h0_codeCount ob h0_openCount aw ab ac aw_typeCount wat wap wag aw_functionCount waf aw_hasMemory aw_pagesLeast aw_pagesMost aw_globalCount wgt wft wfv wgc aw_exportCount wek wei wes wez ab ax ab_length ax cax gax) H := hP
        have hD : va_D A (wz_64 ac cfi clk clt ac_length cop cva cpt cel ac_labelCount cla ob cob gob waf cwaf gwaf wat cwat gwat wap cwap gwap wag cwag gwag wgt cwgt gwgt wft cwft gwft wfv cwfv gwfv wgc cwgc gwgc wek cwek gwek wei cwei gwei wes cwes gwes wez cwez gwez cfi ccfi gcfi clk cclk gclk clt cclt gclt cop ccop gcop cva ccva gcva cpt ccpt gcpt cel ccel gcel cla ccla gcla h0 aw ac n16 h0_limit n17 h0_codeCount ob h0_openCount aw ab ac aw_typeCount wat wap wag aw_functionCount waf aw_hasMemory aw_pagesLeast aw_pagesMost aw_globalCount wgt wft wfv wgc aw_exportCount wek wei wes wez ab ax ab_length ax cax gax) := hD
        refine lv_l2i hx hb d_RE_readSection_129 rfl ?_
        refine lv_topi (fun x18 ex18 => ?_)
        have tx18 := l2i_t ex18 (by (first | (apply Int.le_antisymm <;> omega) | omega)) (by (first | (apply Int.le_antisymm <;> omega) | omega))
        refine va_put (D := (dC, dI)) (ci := 10) (v := .int x18) (ty := .int) (C := R_WA) (T := F_WA) (N := 21) hx hb hts i_WA t_WA t_WA_ok n_WA hown hK hP hD hS 23 rfl rfl 6 (by decide) (hts _ kF_RE_71) (fun _ h9 => h9) rfl (by decide +kernel) rfl rfl (Nat.le_of_ble_eq_true rfl) d_RE_readSection_130 (fun H locs hP hD hS => ?_)
        refine lv_iconst (v := 0) hx hb d_RE_readSection_133 (by decide) ?_
        refine lv_istore_n (lv' := [(3, .int 0), (0, .ref h0), (1, .int p0)]) hx hb d_RE_readSection_134 rfl hl (by decide) rfl (fun ls hl => ?_)
        refine w_loop (σ := Int32 × (Nat → Int32) × Int32 × Int32) (fun u H locs ls => match u with | (j135_l3, j135_waf, j135_h0_at, j135_h0_sound) => (0 ≤ j135_l3.toInt ∧ j135_l3.toInt ≤ 30) ∧ (j135_h0_sound = 0 ∨ j135_h0_sound = 1) ∧ (h0_at.toInt ≤ j135_h0_at.toInt ∧ j135_h0_at.toInt ≤ h0_limit.toInt) ∧ (j135_h0_sound.toInt = 1 → n17.toInt = 1) ∧ (j135_l3.toInt ≤ x18.toInt) ∧ (rd_F j135_l3.toInt j135_waf) ∧ va_P (dC, dI) cls (wz_64 ac cfi clk clt ac_length cop cva cpt cel ac_labelCount cla ob cob gob waf cwaf j135_waf wat cwat gwat wap cwap gwap wag cwag gwag wgt cwgt gwgt wft cwft gwft wfv cwfv gwfv wgc cwgc gwgc wek cwek gwek wei cwei gwei wes cwes gwes wez cwez gwez cfi ccfi gcfi clk cclk gclk clt cclt gclt cop ccop gcop cva ccva gcva cpt ccpt gcpt cel ccel gcel cla ccla gcla h0 aw ac j135_h0_at h0_limit j135_h0_sound h0_codeCount ob h0_openCount aw ab ac aw_typeCount wat wap wag x18 waf aw_hasMemory aw_pagesLeast aw_pagesMost aw_globalCount wgt wft wfv wgc aw_exportCount wek wei wes wez ab ax ab_length ax cax gax) H ∧ va_D A (wz_64 ac cfi clk clt ac_length cop cva cpt cel ac_labelCount cla ob cob gob waf cwaf j135_waf wat cwat gwat wap cwap gwap wag cwag gwag wgt cwgt gwgt wft cwft gwft wfv cwfv gwfv wgc cwgc gwgc wek cwek gwek wei cwei gwei wes cwes gwes wez cwez gwez cfi ccfi gcfi clk cclk gclk clt cclt gclt cop ccop gcop cva ccva gcva cpt ccpt gcpt cel ccel gcel cla ccla gcla h0 aw ac j135_h0_at h0_limit j135_h0_sound h0_codeCount ob h0_openCount aw ab ac aw_typeCount wat wap wag x18 waf aw_hasMemory aw_pagesLeast aw_pagesMost aw_globalCount wgt wft wfv wgc aw_exportCount wek wei wes wez ab ax ab_length ax cax gax) ∧ va_S A s.heap H locs ∧ lv_has ls 4 [(0, .ref h0), (3, .int j135_l3)]) (fun u => match u with | (j135_l3, j135_waf, j135_h0_at, j135_h0_sound) => (x18.toInt - j135_l3.toInt).toNat) ?_ (0, gwaf, n16, n17) ⟨by (try dsimp only) <;> (first | (apply Int.le_antisymm <;> omega) | omega), hsn17, by (try dsimp only) <;> (first | (apply Int.le_antisymm <;> omega) | omega), by (try dsimp only) <;> (first | (apply Int.le_antisymm <;> omega) | omega), by (try dsimp only) <;> (first | (apply Int.le_antisymm <;> omega) | omega), fun g q => absurd q (by (first | (apply Int.le_antisymm <;> omega) | omega)), hP, hD, hS, lv_sub hl [1, 0] rfl⟩
        intro N135 ih135 u H locs ls hN135 hI
        obtain ⟨j135_l3, j135_waf, j135_h0_at, j135_h0_sound⟩ := u
        obtain ⟨b_j135_l3, b_j135_h0_sound, w1, w2, v1, v5, hP, hD, hS, hl⟩ := hI
        have tj135_h0_sound := b01 b_j135_h0_sound
        have hN135 : (x18.toInt - j135_l3.toInt).toNat < N135 + 1 := hN135
        refine lv_iload_n hx hb d_RE_readSection_135 rfl (lv_at hl 1 rfl) ?_
        refine lv_aload_n hx hb d_RE_readSection_136 rfl (lv_at hl 0 rfl) ?_
        refine va_get (D := (dC, dI)) (ci := 7) (v := .ref aw) (C := R_RE) (T := F_RE) (N := 8) hx hb hts i_RE hown hK hP 22 rfl rfl 0 (by decide) (hts _ kF_RE_15) (fun _ h9 => h9) rfl d_RE_readSection_137 ?_
        refine va_get (D := (dC, dI)) (ci := 10) (v := .int x18) (C := R_WA) (T := F_WA) (N := 21) hx hb hts i_WA hown hK hP 23 rfl rfl 6 (by decide) (hts _ kF_RE_71) (fun _ h9 => h9) rfl d_RE_readSection_140 ?_
        refine lv_icmp_ge (tgt := 169) hx hb d_RE_readSection_143 (by decide) (fun c143 => ?_) (fun c143 => ?_)
        · have q143 := leI c143
          refine lv_goto (tgt := 241) hx hb d_RE_readSection_169 (by decide) ?_
          have hP9 := hP.sb (wq := (wz_62 h0 aw ac j135_h0_at h0_limit j135_h0_sound h0_codeCount ob h0_openCount aw ab ac aw_typeCount wat wap wag x18 waf aw_hasMemory aw_pagesLeast aw_pagesMost aw_globalCount wgt wft wfv wgc aw_exportCount wek wei wes wez ab ax ab_length ac cfi clk clt ac_length cop cva cpt cel ac_labelCount cla ax cax gax ob cob gob waf cwaf j135_waf wat cwat gwat wap cwap gwap wag cwag gwag wgt cwgt gwgt wft cwft gwft wfv cwfv gwfv wgc cwgc gwgc wek cwek gwek wei cwei gwei wes cwes gwes wez cwez gwez cfi ccfi gcfi clk cclk gclk clt cclt gclt cop ccop gcop cva ccva gcva cpt ccpt gcpt cel ccel gcel cla ccla gcla)) [22, 23, 24, 0, 25, 1, 2, 3, 4, 5, 6, 7, 8, 9, 10, 11, 12, 13, 14, 15, 16, 17, 18, 19, 20, 21] rfl
          have hD9 := hD.sb (wq := (wz_62 h0 aw ac j135_h0_at h0_limit j135_h0_sound h0_codeCount ob h0_openCount aw ab ac aw_typeCount wat wap wag x18 waf aw_hasMemory aw_pagesLeast aw_pagesMost aw_globalCount wgt wft wfv wgc aw_exportCount wek wei wes wez ab ax ab_length ac cfi clk clt ac_length cop cva cpt cel ac_labelCount cla ax cax gax ob cob gob waf cwaf j135_waf wat cwat gwat wap cwap gwap wag cwag gwag wgt cwgt gwgt wft cwft gwft wfv cwfv gwfv wgc cwgc gwgc wek cwek gwek wei cwei gwei wes cwes gwes wez cwez gwez cfi ccfi gcfi clk cclk gclk clt cclt gclt cop ccop gcop cva ccva gcva cpt ccpt gcpt cel ccel gcel cla ccla gcla)) [22, 23, 24, 0, 25, 1, 2, 3, 4, 5, 6, 7, 8, 9, 10, 11, 12, 13, 14, 15, 16, 17, 18, 19, 20, 21] (by decide) rfl
          exact W.vret hx hb hr (fun t ht hW => ⟨⟨(gcel, gcfi, gcla, gclk, gclt, gcop, gcpt, gcva, gob, j135_waf, gwag, gwap, gwat, gwei, gwek, gwes, gwez, gwft, gwfv, gwgc, gwgt, ac_labelCount, ac_length, aw_exportCount, x18, aw_globalCount, aw_hasMemory, aw_pagesLeast, aw_pagesMost, aw_typeCount, j135_h0_at, h0_codeCount, h0_limit, h0_openCount, j135_h0_sound), rfl, ⟨b_ac_labelCount, b_ac_length, b_aw_exportCount, by (try dsimp only) <;> (first | (apply Int.le_antisymm <;> omega) | omega), b_aw_globalCount, b_aw_hasMemory, b_aw_typeCount, b_h0_codeCount, b_h0_openCount, b_j135_h0_sound, ⟨⟨by (try dsimp only) <;> (first | (apply Int.le_antisymm <;> omega) | omega), by (try dsimp only) <;> (first | (apply Int.le_antisymm <;> omega) | omega)⟩, fun z => by (try dsimp only at z); (first | (apply Int.le_antisymm <;> omega) | omega), hel, hlb, fun z => ⟨id, fun _ g q => v5 g (by (try dsimp only at q); (first | (apply Int.le_antisymm <;> omega) | omega)), id, id, id, id⟩⟩⟩, va_P.he ht.symm hP9, va_K.moved hW.alike hK, hD9⟩, hS.F ht⟩) hS.2.2 d_RE_readSection_241
        · have q143 := nleI c143
          refine lv_aload_n hx hb d_RE_readSection_146 rfl (lv_at hl 0 rfl) ?_
          refine va_get (D := (dC, dI)) (ci := 7) (v := .ref aw) (C := R_RE) (T := F_RE) (N := 8) hx hb hts i_RE hown hK hP 22 rfl rfl 0 (by decide) (hts _ kF_RE_15) (fun _ h9 => h9) rfl d_RE_readSection_147 ?_
          refine va_get (D := (dC, dI)) (ci := 10) (v := .ref waf) (C := R_WA) (T := F_WA) (N := 21) hx hb hts i_WA hown hK hP 23 rfl rfl 7 (by decide) (hts _ kF_RE_79) (fun _ h9 => h9) rfl d_RE_readSection_150 ?_
          refine lv_iload_n hx hb d_RE_readSection_153 rfl (lv_at hl 1 rfl) ?_
          refine lv_aload_n hx hb d_RE_readSection_154 rfl (lv_at hl 0 rfl) ?_
          refine lv_ldc2 hx hb hown (hts _ kL_RE_82) d_RE_readSection_155 ?_
          refine lv_topl (fun x19 ex19 => ?_)
          have tx19 : x19.toInt = 2147483647 := by rw [ex19]; decide
          have hPc := hP.sb (wq := (wz_46 h0 aw ac j135_h0_at h0_limit j135_h0_sound h0_codeCount ob h0_openCount aw ab ac aw_typeCount wat wap wag x18 waf aw_hasMemory aw_pagesLeast aw_pagesMost aw_globalCount wgt wft wfv wgc aw_exportCount wek wei wes wez ab ax ab_length ax cax gax)) [22, 23, 24, 25] rfl
          have hDc := hD.sb (wq := (wz_46 h0 aw ac j135_h0_at h0_limit j135_h0_sound h0_codeCount ob h0_openCount aw ab ac aw_typeCount wat wap wag x18 waf aw_hasMemory aw_pagesLeast aw_pagesMost aw_globalCount wgt wft wfv wgc aw_exportCount wek wei wes wez ab ax ab_length ax cax gax)) [22, 23, 24, 25] (by decide) rfl
          have hKc := hK.sb (tyq := [(cax, .byte)]) [0] rfl
          have hFc := va_free (wc := (wz_46 h0 aw ac j135_h0_at h0_limit j135_h0_sound h0_codeCount ob h0_openCount aw ab ac aw_typeCount wat wap wag x18 waf aw_hasMemory aw_pagesLeast aw_pagesMost aw_globalCount wgt wft wfv wgc aw_exportCount wek wei wes wez ab ax ab_length ax cax gax)) hD hS hA [22, 23, 24, 25] rfl
          refine va_calll (va_runV (As := [.long x19]) (rest := [.int j135_l3, .ref waf]) ⟨hx, hb, hml, hown, hts⟩ (c_RE_readUnsigned l dC dI h0 aw ac ob ab ax H.size cax 8192 j135_h0_at h0_limit j135_h0_sound h0_codeCount h0_openCount ab_length gax [.ref ab, .ref ac, .int aw_typeCount, .ref wat, .ref wap, .ref wag, .int x18, .ref waf, .int aw_hasMemory, .long aw_pagesLeast, .long aw_pagesMost, .int aw_globalCount, .ref wgt, .ref wft, .ref wfv, .ref wgc, .int aw_exportCount, .ref wek, .ref wei, .ref wes, .ref wez] rfl rfl b_j135_h0_sound (by (first | (apply Int.le_antisymm <;> omega) | omega)) x19 (by (first | (apply Int.le_antisymm <;> omega) | omega))) (cwV 1 hts (gV kM_RE_64 kV_RE_readUnsigned kS_RE_readUnsigned kI_RE kC_RE_readUnsigned) rfl rfl rfl (by decide +kernel) ⟨Nat.le_of_ble_eq_true rfl, Nat.le_of_ble_eq_true rfl⟩) ⟨fun a U g mk z => by obtain ⟨z0, z1, zP, zK, zD⟩ := z; exact ⟨z0, z1, zP, va_K.moved (u := U) (U := U.calling g mk a) (Vm.Alike.refl U.vm) zK, zD⟩, va_recv hKc hPc (ci := 7) (q0 := 0) rfl rfl, fun U hU hW => ⟨rfl, by rw [hU], va_P.he hU.symm hPc, va_K.moved hW.alike hKc, hDc.weaken (fun _ _ _ _ => trivial)⟩⟩ rfl rfl hl.1 rfl (lv_room (Nat.le_of_ble_eq_true rfl)) d_RE_readSection_158 ⟨(Nat.zero_le _), (Nat.zero_le _)⟩) hS (fun q _ h => hFc q h) hFc (fun r20 u t H1 locs ht hvm hw hB hz1 hk1 hS => ?_)
          obtain ⟨n21, n22⟩ := u
          try dsimp only at hw
          obtain ⟨hsn22, tn21⟩ := hw
          have bsn22 := b01 hsn22
          obtain ⟨hP1, hK1, hD1⟩ := hB
          replace hP1 := va_P.he ht hP1
          obtain ⟨hP, hD⟩ := va_join (wr := (wz_63 ac cfi clk clt ac_length cop cva cpt cel ac_labelCount cla ob cob gob waf cwaf j135_waf wat cwat gwat wap cwap gwap wag cwag gwag wgt cwgt gwgt wft cwft gwft wfv cwfv gwfv wgc cwgc gwgc wek cwek gwek wei cwei gwei wes cwes gwes wez cwez gwez cfi ccfi gcfi clk cclk gclk clt cclt gclt cop ccop gcop cva ccva gcva cpt ccpt gcpt cel ccel gcel cla ccla gcla)) (w1 := (wz_46 h0 aw ac n21 h0_limit n22 h0_codeCount ob h0_openCount aw ab ac aw_typeCount wat wap wag x18 waf aw_hasMemory aw_pagesLeast aw_pagesMost aw_globalCount wgt wft wfv wgc aw_exportCount wek wei wes wez ab ax ab_length ax cax gax)) hP hD [22, 23, 24, 25] [0, 1, 2, 3, 4, 5, 6, 7, 8, 9, 10, 11, 12, 13, 14, 15, 16, 17, 18, 19, 20, 21] rfl rfl (by decide) (by decide) hk1 hFc hP1 hD1
          clear hPc hDc hKc hFc hz1 hk1 hP1 hK1 hD1
          rename Heap => H
          have hP : va_P (dC, dI) cls (wz_64 ac cfi clk clt ac_length cop cva cpt cel ac_labelCount cla ob cob gob waf cwaf j135_waf wat cwat gwat wap cwap gwap wag cwag gwag wgt cwgt gwgt wft cwft gwft wfv cwfv gwfv wgc cwgc gwgc wek cwek gwek wei cwei gwei wes cwes gwes wez cwez gwez cfi ccfi gcfi clk cclk gclk clt cclt gclt cop ccop gcop cva ccva gcva cpt ccpt gcpt cel ccel gcel cla ccla gcla h0 aw ac n21 h0_limit n22 h0_codeCount ob h0_openCount aw ab ac aw_typeCount wat wap wag x18 waf aw_hasMemory aw_pagesLeast aw_pagesMost aw_globalCount wgt wft wfv wgc aw_exportCount wek wei wes wez ab ax ab_length ax cax gax) H := hP
          have hD : va_D A (wz_64 ac cfi clk clt ac_length cop cva cpt cel ac_labelCount cla ob cob gob waf cwaf j135_waf wat cwat gwat wap cwap gwap wag cwag gwag wgt cwgt gwgt wft cwft gwft wfv cwfv gwfv wgc cwgc gwgc wek cwek gwek wei cwei gwei wes cwes gwes wez cwez gwez cfi ccfi gcfi clk cclk gclk clt cclt gclt cop ccop gcop cva ccva gcva cpt ccpt gcpt cel ccel gcel cla ccla gcla h0 aw ac n21 h0_limit n22 h0_codeCount ob h0_openCount aw ab ac aw_typeCount wat wap wag x18 waf aw_hasMemory aw_pagesLeast aw_pagesMost aw_globalCount wgt wft wfv wgc aw_exportCount wek wei wes wez ab ax ab_length ax cax gax) := hD
          refine lv_l2i hx hb d_RE_readSection_161 rfl ?_
          refine lv_topi (fun x23 ex23 => ?_)
          have tx23 := l2i_t ex23 (by (first | (apply Int.le_antisymm <;> omega) | omega)) (by (first | (apply Int.le_antisymm <;> omega) | omega))
          have g162 : vp_in j135_l3 30 := vp_in_iff.mpr ⟨by (first | (apply Int.le_antisymm <;> omega) | omega), by (first | (apply Int.le_antisymm <;> omega) | omega)⟩
          refine va_iast hx hb hK hP hD hS 2 2 rfl rfl g162 d_RE_readSection_162 (fun H locs hP hD hS => ?_)
          generalize ef24 : upd j135_waf j135_l3.toNatClampNeg x23 = f24 at hP hD
          obtain ⟨x25, ex25⟩ : ∃ z : Int32, z = j135_l3 + 1 := ⟨_, rfl⟩
          have tx25 : x25.toInt = j135_l3.toInt + 1 := by have z := i32_add ex25 (by (first | (apply Int.le_antisymm <;> omega) | omega)) (by (first | (apply Int.le_antisymm <;> omega) | omega)); first | exact z | (first | (apply Int.le_antisymm <;> omega) | omega)
          refine lv_iinc (v := x25) (lv' := [(3, .int x25), (0, .ref h0)]) hx hb d_RE_readSection_163 hl (k := 1) rfl (by rw [ex25]; rfl) (by decide) rfl (fun ls hl => ?_)
          refine lv_goto (tgt := 135) hx hb d_RE_readSection_166 (by decide) ?_
          have c9 := i32_clamp (x := j135_l3) (by (first | (apply Int.le_antisymm <;> omega) | omega))
          exact ih135 (x25, f24, n21, n22) _ _ _ (by show (x18.toInt - x25.toInt).toNat < N135; (first | (apply Int.le_antisymm <;> omega) | omega)) ⟨by (try dsimp only) <;> (first | (apply Int.le_antisymm <;> omega) | omega), hsn22, by (try dsimp only) <;> (first | (apply Int.le_antisymm <;> omega) | omega), by (try dsimp only) <;> (first | (apply Int.le_antisymm <;> omega) | omega), by (try dsimp only) <;> (first | (apply Int.le_antisymm <;> omega) | omega), by rw [← ef24]; exact upd_all (Q := fun v => 0 ≤ v.toInt) (P := fun g => (g : Int) < j135_l3.toInt) v5 (by (try dsimp only); (first | (apply Int.le_antisymm <;> omega) | omega)) (fun g q => by (try dsimp only at q); by_cases y : g = j135_l3.toNatClampNeg; exact Or.inl y; exact Or.inr (by (try dsimp only); (first | (apply Int.le_antisymm <;> omega) | omega))), hP, hD, hS, lv_sub hl [1, 0] rfl⟩
      · skip
        by_cases g1_172 : p0.toInt = 5
        · have ho1 : tab_off 235 0 10 #[59, 110, 235, 117, 235, 171, 178, 185, 235, 235, 192] p0.toInt = 171 := by rw [g1_172]; rfl
          refine lv_tab (tgt := 172) hx hb d_RE_readSection_1 (by decide) ho1 (by decide) ?_
          clear ho1
          refine lv_aload_n hx hb d_RE_readSection_172 rfl (lv_at hl 0 rfl) ?_
          have hPc := hP.sb (wq := (wz_46 h0 aw ac h0_at h0_limit h0_sound h0_codeCount ob h0_openCount aw ab ac aw_typeCount wat wap wag aw_functionCount waf aw_hasMemory aw_pagesLeast aw_pagesMost aw_globalCount wgt wft wfv wgc aw_exportCount wek wei wes wez ab ax ab_length ax cax gax)) [0, 1, 2, 4] rfl
          have hDc := hD.sb (wq := (wz_46 h0 aw ac h0_at h0_limit h0_sound h0_codeCount ob h0_openCount aw ab ac aw_typeCount wat wap wag aw_functionCount waf aw_hasMemory aw_pagesLeast aw_pagesMost aw_globalCount wgt wft wfv wgc aw_exportCount wek wei wes wez ab ax ab_length ax cax gax)) [0, 1, 2, 4] (by decide) rfl
          have hKc := hK.sb (tyq := [(cax, .byte)]) [0] rfl
          have hFc := va_free (wc := (wz_46 h0 aw ac h0_at h0_limit h0_sound h0_codeCount ob h0_openCount aw ab ac aw_typeCount wat wap wag aw_functionCount waf aw_hasMemory aw_pagesLeast aw_pagesMost aw_globalCount wgt wft wfv wgc aw_exportCount wek wei wes wez ab ax ab_length ax cax gax)) hD hS hA [0, 1, 2, 4] rfl
          refine va_callv (va_runV (As := []) (rest := []) ⟨hx, hb, hml, hown, hts⟩ (c_RE_readMemory l dC dI H.size h0 aw ac ob ab wat wap wag waf wgt wft wfv wgc wek wei wes wez ax cax h0_at h0_limit h0_sound h0_codeCount h0_openCount aw_typeCount aw_functionCount aw_hasMemory aw_pagesLeast aw_pagesMost aw_globalCount aw_exportCount ab_length gax (b_h0_sound) (b_aw_hasMemory) (ha)) (cwV 0 hts (gV kM_RE_84 kV_RE_readMemory kS_RE_readMemory kI_RE kC_RE_readMemory) rfl rfl rfl (by decide +kernel) ⟨Nat.le_of_ble_eq_true rfl, Nat.le_of_ble_eq_true rfl⟩) ⟨fun a U g mk z => by obtain ⟨z0, z1, zP, zK, zD⟩ := z; exact ⟨z0, z1, zP, va_K.moved (u := U) (U := U.calling g mk a) (Vm.Alike.refl U.vm) zK, zD⟩, va_recv hKc hPc (ci := 7) (q0 := 0) rfl rfl, fun U hU hW => ⟨rfl, by rw [hU], va_P.he hU.symm hPc, va_K.moved hW.alike hKc, hDc.weaken (fun _ _ _ _ => trivial)⟩⟩ rfl rfl hl.1 rfl (lv_room (Nat.le_of_ble_eq_true rfl)) d_RE_readSection_173 ⟨(Nat.zero_le _), (Nat.zero_le _)⟩) hS (fun q _ h => hFc q h) hFc (fun u t H1 locs ht hvm hw hB hz1 hk1 hS => ?_)
          obtain ⟨n27, n28, n29, n30, n31⟩ := u
          try dsimp only at hw
          obtain ⟨bn27, bn31, xr26⟩ := hw
          try clear hw
          have tn27 := b01 bn27
          have tn31 := b01 bn31
          obtain ⟨hP1, hK1, hD1⟩ := hB
          replace hP1 := va_P.he ht hP1
          obtain ⟨hP, hD⟩ := va_join (wr := (wz_63 ac cfi clk clt ac_length cop cva cpt cel ac_labelCount cla ob cob gob waf cwaf gwaf wat cwat gwat wap cwap gwap wag cwag gwag wgt cwgt gwgt wft cwft gwft wfv cwfv gwfv wgc cwgc gwgc wek cwek gwek wei cwei gwei wes cwes gwes wez cwez gwez cfi ccfi gcfi clk cclk gclk clt cclt gclt cop ccop gcop cva ccva gcva cpt ccpt gcpt cel ccel gcel cla ccla gcla)) (w1 := (wz_46 h0 aw ac n30 h0_limit n31 h0_codeCount ob h0_openCount aw ab ac aw_typeCount wat wap wag aw_functionCount waf n27 n28 n29 aw_globalCount wgt wft wfv wgc aw_exportCount wek wei wes wez ab ax ab_length ax cax gax)) hP hD [0, 1, 2, 4] [3, 5, 6, 7, 8, 9, 10, 11, 12, 13, 14, 15, 16, 17, 18, 19, 20, 21, 22, 23, 24, 25] rfl rfl (by decide) (by decide) hk1 hFc hP1 hD1
          clear hPc hDc hKc hFc hz1 hk1 hP1 hK1 hD1
          rename Heap => H
          have hP : va_P (dC, dI) cls (wz_64 ac cfi clk clt ac_length cop cva cpt cel ac_labelCount cla ob cob gob waf cwaf gwaf wat cwat gwat wap cwap gwap wag cwag gwag wgt cwgt gwgt wft cwft gwft wfv cwfv gwfv wgc cwgc gwgc wek cwek gwek wei cwei gwei wes cwes gwes wez cwez gwez cfi ccfi gcfi clk cclk gclk clt cclt gclt cop ccop gcop cva ccva gcva cpt ccpt gcpt cel ccel gcel cla ccla gcla h0 aw ac n30 h0_limit n31 h0_codeCount ob h0_openCount aw ab ac aw_typeCount wat wap wag aw_functionCount waf n27 n28 n29 aw_globalCount wgt wft wfv wgc aw_exportCount wek wei wes wez ab ax ab_length ax cax gax) H := hP
          have hD : va_D A (wz_64 ac cfi clk clt ac_length cop cva cpt cel ac_labelCount cla ob cob gob waf cwaf gwaf wat cwat gwat wap cwap gwap wag cwag gwag wgt cwgt gwgt wft cwft gwft wfv cwfv gwfv wgc cwgc gwgc wek cwek gwek wei cwei gwei wes cwes gwes wez cwez gwez cfi ccfi gcfi clk cclk gclk clt cclt gclt cop ccop gcop cva ccva gcva cpt ccpt gcpt cel ccel gcel cla ccla gcla h0 aw ac n30 h0_limit n31 h0_codeCount ob h0_openCount aw ab ac aw_typeCount wat wap wag aw_functionCount waf n27 n28 n29 aw_globalCount wgt wft wfv wgc aw_exportCount wek wei wes wez ab ax ab_length ax cax gax) := hD
          refine lv_goto (tgt := 241) hx hb d_RE_readSection_176 (by decide) ?_
          have hP9 := hP.sb (wq := (wz_62 h0 aw ac n30 h0_limit n31 h0_codeCount ob h0_openCount aw ab ac aw_typeCount wat wap wag aw_functionCount waf n27 n28 n29 aw_globalCount wgt wft wfv wgc aw_exportCount wek wei wes wez ab ax ab_length ac cfi clk clt ac_length cop cva cpt cel ac_labelCount cla ax cax gax ob cob gob waf cwaf gwaf wat cwat gwat wap cwap gwap wag cwag gwag wgt cwgt gwgt wft cwft gwft wfv cwfv gwfv wgc cwgc gwgc wek cwek gwek wei cwei gwei wes cwes gwes wez cwez gwez cfi ccfi gcfi clk cclk gclk clt cclt gclt cop ccop gcop cva ccva gcva cpt ccpt gcpt cel ccel gcel cla ccla gcla)) [22, 23, 24, 0, 25, 1, 2, 3, 4, 5, 6, 7, 8, 9, 10, 11, 12, 13, 14, 15, 16, 17, 18, 19, 20, 21] rfl
          have hD9 := hD.sb (wq := (wz_62 h0 aw ac n30 h0_limit n31 h0_codeCount ob h0_openCount aw ab ac aw_typeCount wat wap wag aw_functionCount waf n27 n28 n29 aw_globalCount wgt wft wfv wgc aw_exportCount wek wei wes wez ab ax ab_length ac cfi clk clt ac_length cop cva cpt cel ac_labelCount cla ax cax gax ob cob gob waf cwaf gwaf wat cwat gwat wap cwap gwap wag cwag gwag wgt cwgt gwgt wft cwft gwft wfv cwfv gwfv wgc cwgc gwgc wek cwek gwek wei cwei gwei wes cwes gwes wez cwez gwez cfi ccfi gcfi clk cclk gclk clt cclt gclt cop ccop gcop cva ccva gcva cpt ccpt gcpt cel ccel gcel cla ccla gcla)) [22, 23, 24, 0, 25, 1, 2, 3, 4, 5, 6, 7, 8, 9, 10, 11, 12, 13, 14, 15, 16, 17, 18, 19, 20, 21] (by decide) rfl
          exact W.vret hx hb hr (fun t ht hW => ⟨⟨(gcel, gcfi, gcla, gclk, gclt, gcop, gcpt, gcva, gob, gwaf, gwag, gwap, gwat, gwei, gwek, gwes, gwez, gwft, gwfv, gwgc, gwgt, ac_labelCount, ac_length, aw_exportCount, aw_functionCount, aw_globalCount, n27, n28, n29, aw_typeCount, n30, h0_codeCount, h0_limit, h0_openCount, n31), rfl, ⟨b_ac_labelCount, b_ac_length, b_aw_exportCount, b_aw_functionCount, b_aw_globalCount, bn27, b_aw_typeCount, b_h0_codeCount, b_h0_openCount, bn31, ⟨⟨by (try dsimp only) <;> (first | (apply Int.le_antisymm <;> omega) | omega), by (try dsimp only) <;> (first | (apply Int.le_antisymm <;> omega) | omega)⟩, fun z => by (try dsimp only at z); (first | (apply Int.le_antisymm <;> omega) | omega), hel, hlb, fun z => ⟨id, id, fun y => ⟨by have q1 := y.1; have q2 := xr26.2.2.1; rcases q2 with q2 | q2; exact q2; (rw [q2]; exact q1), by have q1 := y.2; have q2 := xr26.2.2.2; rcases q2 with q2 | q2; exact q2; (rw [q2]; exact q1)⟩, id, id, id⟩⟩⟩, va_P.he ht.symm hP9, va_K.moved hW.alike hK, hD9⟩, hS.F ht⟩) hS.2.2 d_RE_readSection_241
        · skip
          by_cases g1_179 : p0.toInt = 6
          · have ho1 : tab_off 235 0 10 #[59, 110, 235, 117, 235, 171, 178, 185, 235, 235, 192] p0.toInt = 178 := by rw [g1_179]; rfl
            refine lv_tab (tgt := 179) hx hb d_RE_readSection_1 (by decide) ho1 (by decide) ?_
            clear ho1
            refine lv_aload_n hx hb d_RE_readSection_179 rfl (lv_at hl 0 rfl) ?_
            have hPc := hP.sb (wq := (wz_55 h0 aw ac h0_at h0_limit h0_sound h0_codeCount ob h0_openCount aw ab ac aw_typeCount wat wap wag aw_functionCount waf aw_hasMemory aw_pagesLeast aw_pagesMost aw_globalCount wgt wft wfv wgc aw_exportCount wek wei wes wez ab ax ab_length ax cax gax wgt cwgt gwgt wft cwft gwft wfv cwfv gwfv wgc cwgc gwgc)) [0, 1, 2, 4, 10, 11, 12, 13] rfl
            have hDc := hD.sb (wq := (wz_55 h0 aw ac h0_at h0_limit h0_sound h0_codeCount ob h0_openCount aw ab ac aw_typeCount wat wap wag aw_functionCount waf aw_hasMemory aw_pagesLeast aw_pagesMost aw_globalCount wgt wft wfv wgc aw_exportCount wek wei wes wez ab ax ab_length ax cax gax wgt cwgt gwgt wft cwft gwft wfv cwfv gwfv wgc cwgc gwgc)) [0, 1, 2, 4, 10, 11, 12, 13] (by decide) rfl
            have hKc := hK.sb (tyq := [(cax, .byte), (cwgt, .int), (cwft, .int), (cwfv, .long), (cwgc, .boolean)]) [0, 6, 7, 8, 9] rfl
            have hFc := va_free (wc := (wz_55 h0 aw ac h0_at h0_limit h0_sound h0_codeCount ob h0_openCount aw ab ac aw_typeCount wat wap wag aw_functionCount waf aw_hasMemory aw_pagesLeast aw_pagesMost aw_globalCount wgt wft wfv wgc aw_exportCount wek wei wes wez ab ax ab_length ax cax gax wgt cwgt gwgt wft cwft gwft wfv cwfv gwfv wgc cwgc gwgc)) hD hS hA [0, 1, 2, 4, 10, 11, 12, 13] rfl
            refine va_callv (va_runV (As := []) (rest := []) ⟨hx, hb, hml, hown, hts⟩ (c_RE_readGlobals l dC dI H.size h0 aw ac ob ab wat wap wag waf wgt wft wfv wgc wek wei wes wez ax cax cwgt cwft cwfv cwgc h0_at h0_limit h0_sound h0_codeCount h0_openCount aw_typeCount aw_functionCount aw_hasMemory aw_pagesLeast aw_pagesMost aw_globalCount aw_exportCount ab_length gax gwgt gwft gwfv gwgc (b_h0_sound) (b_aw_globalCount) (ha)) (cwV 0 hts (gV kM_RE_87 kV_RE_readGlobals kS_RE_readGlobals kI_RE kC_RE_readGlobals) rfl rfl rfl (by decide +kernel) ⟨Nat.le_of_ble_eq_true rfl, Nat.le_of_ble_eq_true rfl⟩) ⟨fun a U g mk z => by obtain ⟨z0, z1, zP, zK, zD⟩ := z; exact ⟨z0, z1, zP, va_K.moved (u := U) (U := U.calling g mk a) (Vm.Alike.refl U.vm) zK, zD⟩, va_recv hKc hPc (ci := 7) (q0 := 0) rfl rfl, fun U hU hW => ⟨rfl, by rw [hU], va_P.he hU.symm hPc, va_K.moved hW.alike hKc, hDc.weaken (fun _ _ _ _ => trivial)⟩⟩ rfl rfl hl.1 rfl (lv_room (Nat.le_of_ble_eq_true rfl)) d_RE_readSection_180 ⟨(Nat.zero_le _), (Nat.zero_le _)⟩) hS (fun q _ h => hFc q h) hFc (fun u t H1 locs ht hvm hw hB hz1 hk1 hS => ?_)
            obtain ⟨n33, n34, n35, n36, n37, n38, n39⟩ := u
            try dsimp only at hw
            obtain ⟨bn37, bn39, xr32⟩ := hw
            try clear hw
            have tn39 := b01 bn39
            obtain ⟨hP1, hK1, hD1⟩ := hB
            replace hP1 := va_P.he ht hP1
            obtain ⟨hP, hD⟩ := va_join (wr := [(ac, .inr (3, [.ref cfi, .ref clk, .ref clt, .int ac_length, .ref cop, .ref cva, .ref cpt, .ref cel, .int ac_labelCount, .ref cla])), (ob, .inl (cob, 100, .inl gob)), (waf, .inl (cwaf, 30, .inl gwaf)), (wat, .inl (cwat, 20, .inl gwat)), (wap, .inl (cwap, 160, .inl gwap)), (wag, .inl (cwag, 20, .inl gwag)), (wek, .inl (cwek, 40, .inl gwek)), (wei, .inl (cwei, 40, .inl gwei)), (wes, .inl (cwes, 40, .inl gwes)), (wez, .inl (cwez, 40, .inl gwez)), (cfi, .inl (ccfi, 31, .inl gcfi)), (clk, .inl (cclk, 30, .inl gclk)), (clt, .inl (cclt, 1800, .inl gclt)), (cop, .inl (ccop, 5000, .inl gcop)), (cva, .inl (ccva, 5000, .inr (.inl gcva))), (cpt, .inl (ccpt, 5000, .inl gcpt)), (cel, .inl (ccel, 5000, .inl gcel)), (cla, .inl (ccla, 2000, .inl gcla))]) (w1 := (wz_55 h0 aw ac n38 h0_limit n39 h0_codeCount ob h0_openCount aw ab ac aw_typeCount wat wap wag aw_functionCount waf aw_hasMemory aw_pagesLeast aw_pagesMost n37 wgt wft wfv wgc aw_exportCount wek wei wes wez ab ax ab_length ax cax gax wgt cwgt n36 wft cwft n33 wfv cwfv n34 wgc cwgc n35)) hP hD [0, 1, 2, 4, 10, 11, 12, 13] [3, 5, 6, 7, 8, 9, 14, 15, 16, 17, 18, 19, 20, 21, 22, 23, 24, 25] rfl rfl (by decide) (by decide) hk1 hFc hP1 hD1
            clear hPc hDc hKc hFc hz1 hk1 hP1 hK1 hD1
            rename Heap => H
            have hP : va_P (dC, dI) cls [(ac, .inr (3, [.ref cfi, .ref clk, .ref clt, .int ac_length, .ref cop, .ref cva, .ref cpt, .ref cel, .int ac_labelCount, .ref cla])), (ob, .inl (cob, 100, .inl gob)), (waf, .inl (cwaf, 30, .inl gwaf)), (wat, .inl (cwat, 20, .inl gwat)), (wap, .inl (cwap, 160, .inl gwap)), (wag, .inl (cwag, 20, .inl gwag)), (wek, .inl (cwek, 40, .inl gwek)), (wei, .inl (cwei, 40, .inl gwei)), (wes, .inl (cwes, 40, .inl gwes)), (wez, .inl (cwez, 40, .inl gwez)), (cfi, .inl (ccfi, 31, .inl gcfi)), (clk, .inl (cclk, 30, .inl gclk)), (clt, .inl (cclt, 1800, .inl gclt)), (cop, .inl (ccop, 5000, .inl gcop)), (cva, .inl (ccva, 5000, .inr (.inl gcva))), (cpt, .inl (ccpt, 5000, .inl gcpt)), (cel, .inl (ccel, 5000, .inl gcel)), (cla, .inl (ccla, 2000, .inl gcla)), (h0, .inr (7, [.ref aw, .ref ac, .int n38, .int h0_limit, .int n39, .int h0_codeCount, .ref ob, .int h0_openCount])), (aw, .inr (10, [.ref ab, .ref ac, .int aw_typeCount, .ref wat, .ref wap, .ref wag, .int aw_functionCount, .ref waf, .int aw_hasMemory, .long aw_pagesLeast, .long aw_pagesMost, .int n37, .ref wgt, .ref wft, .ref wfv, .ref wgc, .int aw_exportCount, .ref wek, .ref wei, .ref wes, .ref wez])), (ab, .inr (1, [.ref ax, .int ab_length])), (ax, .inl (cax, 8192, .inl gax)), (wgt, .inl (cwgt, 20, .inl n36)), (wft, .inl (cwft, 20, .inl n33)), (wfv, .inl (cwfv, 20, .inr (.inl n34))), (wgc, .inl (cwgc, 20, .inl n35))] H := hP
            have hD : va_D A [(ac, .inr (3, [.ref cfi, .ref clk, .ref clt, .int ac_length, .ref cop, .ref cva, .ref cpt, .ref cel, .int ac_labelCount, .ref cla])), (ob, .inl (cob, 100, .inl gob)), (waf, .inl (cwaf, 30, .inl gwaf)), (wat, .inl (cwat, 20, .inl gwat)), (wap, .inl (cwap, 160, .inl gwap)), (wag, .inl (cwag, 20, .inl gwag)), (wek, .inl (cwek, 40, .inl gwek)), (wei, .inl (cwei, 40, .inl gwei)), (wes, .inl (cwes, 40, .inl gwes)), (wez, .inl (cwez, 40, .inl gwez)), (cfi, .inl (ccfi, 31, .inl gcfi)), (clk, .inl (cclk, 30, .inl gclk)), (clt, .inl (cclt, 1800, .inl gclt)), (cop, .inl (ccop, 5000, .inl gcop)), (cva, .inl (ccva, 5000, .inr (.inl gcva))), (cpt, .inl (ccpt, 5000, .inl gcpt)), (cel, .inl (ccel, 5000, .inl gcel)), (cla, .inl (ccla, 2000, .inl gcla)), (h0, .inr (7, [.ref aw, .ref ac, .int n38, .int h0_limit, .int n39, .int h0_codeCount, .ref ob, .int h0_openCount])), (aw, .inr (10, [.ref ab, .ref ac, .int aw_typeCount, .ref wat, .ref wap, .ref wag, .int aw_functionCount, .ref waf, .int aw_hasMemory, .long aw_pagesLeast, .long aw_pagesMost, .int n37, .ref wgt, .ref wft, .ref wfv, .ref wgc, .int aw_exportCount, .ref wek, .ref wei, .ref wes, .ref wez])), (ab, .inr (1, [.ref ax, .int ab_length])), (ax, .inl (cax, 8192, .inl gax)), (wgt, .inl (cwgt, 20, .inl n36)), (wft, .inl (cwft, 20, .inl n33)), (wfv, .inl (cwfv, 20, .inr (.inl n34))), (wgc, .inl (cwgc, 20, .inl n35))] := hD
            refine lv_goto (tgt := 241) hx hb d_RE_readSection_183 (by decide) ?_
            have hP9 := hP.sb (wq := (wz_62 h0 aw ac n38 h0_limit n39 h0_codeCount ob h0_openCount aw ab ac aw_typeCount wat wap wag aw_functionCount waf aw_hasMemory aw_pagesLeast aw_pagesMost n37 wgt wft wfv wgc aw_exportCount wek wei wes wez ab ax ab_length ac cfi clk clt ac_length cop cva cpt cel ac_labelCount cla ax cax gax ob cob gob waf cwaf gwaf wat cwat gwat wap cwap gwap wag cwag gwag wgt cwgt n36 wft cwft n33 wfv cwfv n34 wgc cwgc n35 wek cwek gwek wei cwei gwei wes cwes gwes wez cwez gwez cfi ccfi gcfi clk cclk gclk clt cclt gclt cop ccop gcop cva ccva gcva cpt ccpt gcpt cel ccel gcel cla ccla gcla)) [18, 19, 20, 0, 21, 1, 2, 3, 4, 5, 22, 23, 24, 25, 6, 7, 8, 9, 10, 11, 12, 13, 14, 15, 16, 17] rfl
            have hD9 := hD.sb (wq := (wz_62 h0 aw ac n38 h0_limit n39 h0_codeCount ob h0_openCount aw ab ac aw_typeCount wat wap wag aw_functionCount waf aw_hasMemory aw_pagesLeast aw_pagesMost n37 wgt wft wfv wgc aw_exportCount wek wei wes wez ab ax ab_length ac cfi clk clt ac_length cop cva cpt cel ac_labelCount cla ax cax gax ob cob gob waf cwaf gwaf wat cwat gwat wap cwap gwap wag cwag gwag wgt cwgt n36 wft cwft n33 wfv cwfv n34 wgc cwgc n35 wek cwek gwek wei cwei gwei wes cwes gwes wez cwez gwez cfi ccfi gcfi clk cclk gclk clt cclt gclt cop ccop gcop cva ccva gcva cpt ccpt gcpt cel ccel gcel cla ccla gcla)) [18, 19, 20, 0, 21, 1, 2, 3, 4, 5, 22, 23, 24, 25, 6, 7, 8, 9, 10, 11, 12, 13, 14, 15, 16, 17] (by decide) rfl
            exact W.vret hx hb hr (fun t ht hW => ⟨⟨(gcel, gcfi, gcla, gclk, gclt, gcop, gcpt, gcva, gob, gwaf, gwag, gwap, gwat, gwei, gwek, gwes, gwez, n33, n34, n35, n36, ac_labelCount, ac_length, aw_exportCount, aw_functionCount, n37, aw_hasMemory, aw_pagesLeast, aw_pagesMost, aw_typeCount, n38, h0_codeCount, h0_limit, h0_openCount, n39), rfl, ⟨b_ac_labelCount, b_ac_length, b_aw_exportCount, b_aw_functionCount, bn37, b_aw_hasMemory, b_aw_typeCount, b_h0_codeCount, b_h0_openCount, bn39, ⟨⟨by (try dsimp only) <;> (first | (apply Int.le_antisymm <;> omega) | omega), by (try dsimp only) <;> (first | (apply Int.le_antisymm <;> omega) | omega)⟩, fun z => by (try dsimp only at z); (first | (apply Int.le_antisymm <;> omega) | omega), hel, hlb, fun z => ⟨id, id, id, fun _ => xr32.2.2 z, id, id⟩⟩⟩, va_P.he ht.symm hP9, va_K.moved hW.alike hK, hD9⟩, hS.F ht⟩) hS.2.2 d_RE_readSection_241
          · skip
            by_cases g1_186 : p0.toInt = 7
            · have ho1 : tab_off 235 0 10 #[59, 110, 235, 117, 235, 171, 178, 185, 235, 235, 192] p0.toInt = 185 := by rw [g1_186]; rfl
              refine lv_tab (tgt := 186) hx hb d_RE_readSection_1 (by decide) ho1 (by decide) ?_
              clear ho1
              refine lv_aload_n hx hb d_RE_readSection_186 rfl (lv_at hl 0 rfl) ?_
              have hPc := hP.sb (wq := (wz_58 h0 aw ac h0_at h0_limit h0_sound h0_codeCount ob h0_openCount aw ab ac aw_typeCount wat wap wag aw_functionCount waf aw_hasMemory aw_pagesLeast aw_pagesMost aw_globalCount wgt wft wfv wgc aw_exportCount wek wei wes wez ab ax ab_length ax cax gax wek cwek gwek wei cwei gwei wes cwes gwes wez cwez gwez)) [0, 1, 2, 4, 14, 15, 16, 17] rfl
              have hDc := hD.sb (wq := (wz_58 h0 aw ac h0_at h0_limit h0_sound h0_codeCount ob h0_openCount aw ab ac aw_typeCount wat wap wag aw_functionCount waf aw_hasMemory aw_pagesLeast aw_pagesMost aw_globalCount wgt wft wfv wgc aw_exportCount wek wei wes wez ab ax ab_length ax cax gax wek cwek gwek wei cwei gwei wes cwes gwes wez cwez gwez)) [0, 1, 2, 4, 14, 15, 16, 17] (by decide) rfl
              have hKc := hK.sb (tyq := [(cax, .byte), (cwek, .int), (cwei, .int), (cwes, .int), (cwez, .int)]) [0, 10, 11, 12, 13] rfl
              have hFc := va_free (wc := (wz_58 h0 aw ac h0_at h0_limit h0_sound h0_codeCount ob h0_openCount aw ab ac aw_typeCount wat wap wag aw_functionCount waf aw_hasMemory aw_pagesLeast aw_pagesMost aw_globalCount wgt wft wfv wgc aw_exportCount wek wei wes wez ab ax ab_length ax cax gax wek cwek gwek wei cwei gwei wes cwes gwes wez cwez gwez)) hD hS hA [0, 1, 2, 4, 14, 15, 16, 17] rfl
              refine va_callv (va_runV (As := []) (rest := []) ⟨hx, hb, hml, hown, hts⟩ (c_RE_readExports l dC dI H.size h0 aw ac ob ab wat wap wag waf wgt wft wfv wgc wek wei wes wez ax cax cwek cwei cwes cwez h0_at h0_limit h0_sound h0_codeCount h0_openCount aw_typeCount aw_functionCount aw_hasMemory aw_pagesLeast aw_pagesMost aw_globalCount aw_exportCount ab_length gax gwek gwei gwes gwez (b_h0_sound) (b_aw_exportCount) (ha)) (cwV 0 hts (gV kM_RE_90 kV_RE_readExports kS_RE_readExports kI_RE kC_RE_readExports) rfl rfl rfl (by decide +kernel) ⟨Nat.le_of_ble_eq_true rfl, Nat.le_of_ble_eq_true rfl⟩) ⟨fun a U g mk z => by obtain ⟨z0, z1, zP, zK, zD⟩ := z; exact ⟨z0, z1, zP, va_K.moved (u := U) (U := U.calling g mk a) (Vm.Alike.refl U.vm) zK, zD⟩, va_recv hKc hPc (ci := 7) (q0 := 0) rfl rfl, fun U hU hW => ⟨rfl, by rw [hU], va_P.he hU.symm hPc, va_K.moved hW.alike hKc, hDc.weaken (fun _ _ _ _ => trivial)⟩⟩ rfl rfl hl.1 rfl (lv_room (Nat.le_of_ble_eq_true rfl)) d_RE_readSection_187 ⟨(Nat.zero_le _), (Nat.zero_le _)⟩) hS (fun q _ h => hFc q h) hFc (fun u t H1 locs ht hvm hw hB hz1 hk1 hS => ?_)
              obtain ⟨n41, n42, n43, n44, n45, n46, n47⟩ := u
              try dsimp only at hw
              obtain ⟨bn45, bn47, xr40⟩ := hw
              try clear hw
              have tn47 := b01 bn47
              obtain ⟨hP1, hK1, hD1⟩ := hB
              replace hP1 := va_P.he ht hP1
              obtain ⟨hP, hD⟩ := va_join (wr := [(ac, .inr (3, [.ref cfi, .ref clk, .ref clt, .int ac_length, .ref cop, .ref cva, .ref cpt, .ref cel, .int ac_labelCount, .ref cla])), (ob, .inl (cob, 100, .inl gob)), (waf, .inl (cwaf, 30, .inl gwaf)), (wat, .inl (cwat, 20, .inl gwat)), (wap, .inl (cwap, 160, .inl gwap)), (wag, .inl (cwag, 20, .inl gwag)), (wgt, .inl (cwgt, 20, .inl gwgt)), (wft, .inl (cwft, 20, .inl gwft)), (wfv, .inl (cwfv, 20, .inr (.inl gwfv))), (wgc, .inl (cwgc, 20, .inl gwgc)), (cfi, .inl (ccfi, 31, .inl gcfi)), (clk, .inl (cclk, 30, .inl gclk)), (clt, .inl (cclt, 1800, .inl gclt)), (cop, .inl (ccop, 5000, .inl gcop)), (cva, .inl (ccva, 5000, .inr (.inl gcva))), (cpt, .inl (ccpt, 5000, .inl gcpt)), (cel, .inl (ccel, 5000, .inl gcel)), (cla, .inl (ccla, 2000, .inl gcla))]) (w1 := (wz_58 h0 aw ac n46 h0_limit n47 h0_codeCount ob h0_openCount aw ab ac aw_typeCount wat wap wag aw_functionCount waf aw_hasMemory aw_pagesLeast aw_pagesMost aw_globalCount wgt wft wfv wgc n45 wek wei wes wez ab ax ab_length ax cax gax wek cwek n42 wei cwei n41 wes cwes n43 wez cwez n44)) hP hD [0, 1, 2, 4, 14, 15, 16, 17] [3, 5, 6, 7, 8, 9, 10, 11, 12, 13, 18, 19, 20, 21, 22, 23, 24, 25] rfl rfl (by decide) (by decide) hk1 hFc hP1 hD1
              clear hPc hDc hKc hFc hz1 hk1 hP1 hK1 hD1
              rename Heap => H
              have hP : va_P (dC, dI) cls [(ac, .inr (3, [.ref cfi, .ref clk, .ref clt, .int ac_length, .ref cop, .ref cva, .ref cpt, .ref cel, .int ac_labelCount, .ref cla])), (ob, .inl (cob, 100, .inl gob)), (waf, .inl (cwaf, 30, .inl gwaf)), (wat, .inl (cwat, 20, .inl gwat)), (wap, .inl (cwap, 160, .inl gwap)), (wag, .inl (cwag, 20, .inl gwag)), (wgt, .inl (cwgt, 20, .inl gwgt)), (wft, .inl (cwft, 20, .inl gwft)), (wfv, .inl (cwfv, 20, .inr (.inl gwfv))), (wgc, .inl (cwgc, 20, .inl gwgc)), (cfi, .inl (ccfi, 31, .inl gcfi)), (clk, .inl (cclk, 30, .inl gclk)), (clt, .inl (cclt, 1800, .inl gclt)), (cop, .inl (ccop, 5000, .inl gcop)), (cva, .inl (ccva, 5000, .inr (.inl gcva))), (cpt, .inl (ccpt, 5000, .inl gcpt)), (cel, .inl (ccel, 5000, .inl gcel)), (cla, .inl (ccla, 2000, .inl gcla)), (h0, .inr (7, [.ref aw, .ref ac, .int n46, .int h0_limit, .int n47, .int h0_codeCount, .ref ob, .int h0_openCount])), (aw, .inr (10, [.ref ab, .ref ac, .int aw_typeCount, .ref wat, .ref wap, .ref wag, .int aw_functionCount, .ref waf, .int aw_hasMemory, .long aw_pagesLeast, .long aw_pagesMost, .int aw_globalCount, .ref wgt, .ref wft, .ref wfv, .ref wgc, .int n45, .ref wek, .ref wei, .ref wes, .ref wez])), (ab, .inr (1, [.ref ax, .int ab_length])), (ax, .inl (cax, 8192, .inl gax)), (wek, .inl (cwek, 40, .inl n42)), (wei, .inl (cwei, 40, .inl n41)), (wes, .inl (cwes, 40, .inl n43)), (wez, .inl (cwez, 40, .inl n44))] H := hP
              have hD : va_D A [(ac, .inr (3, [.ref cfi, .ref clk, .ref clt, .int ac_length, .ref cop, .ref cva, .ref cpt, .ref cel, .int ac_labelCount, .ref cla])), (ob, .inl (cob, 100, .inl gob)), (waf, .inl (cwaf, 30, .inl gwaf)), (wat, .inl (cwat, 20, .inl gwat)), (wap, .inl (cwap, 160, .inl gwap)), (wag, .inl (cwag, 20, .inl gwag)), (wgt, .inl (cwgt, 20, .inl gwgt)), (wft, .inl (cwft, 20, .inl gwft)), (wfv, .inl (cwfv, 20, .inr (.inl gwfv))), (wgc, .inl (cwgc, 20, .inl gwgc)), (cfi, .inl (ccfi, 31, .inl gcfi)), (clk, .inl (cclk, 30, .inl gclk)), (clt, .inl (cclt, 1800, .inl gclt)), (cop, .inl (ccop, 5000, .inl gcop)), (cva, .inl (ccva, 5000, .inr (.inl gcva))), (cpt, .inl (ccpt, 5000, .inl gcpt)), (cel, .inl (ccel, 5000, .inl gcel)), (cla, .inl (ccla, 2000, .inl gcla)), (h0, .inr (7, [.ref aw, .ref ac, .int n46, .int h0_limit, .int n47, .int h0_codeCount, .ref ob, .int h0_openCount])), (aw, .inr (10, [.ref ab, .ref ac, .int aw_typeCount, .ref wat, .ref wap, .ref wag, .int aw_functionCount, .ref waf, .int aw_hasMemory, .long aw_pagesLeast, .long aw_pagesMost, .int aw_globalCount, .ref wgt, .ref wft, .ref wfv, .ref wgc, .int n45, .ref wek, .ref wei, .ref wes, .ref wez])), (ab, .inr (1, [.ref ax, .int ab_length])), (ax, .inl (cax, 8192, .inl gax)), (wek, .inl (cwek, 40, .inl n42)), (wei, .inl (cwei, 40, .inl n41)), (wes, .inl (cwes, 40, .inl n43)), (wez, .inl (cwez, 40, .inl n44))] := hD
              refine lv_goto (tgt := 241) hx hb d_RE_readSection_190 (by decide) ?_
              have hP9 := hP.sb (wq := (wz_62 h0 aw ac n46 h0_limit n47 h0_codeCount ob h0_openCount aw ab ac aw_typeCount wat wap wag aw_functionCount waf aw_hasMemory aw_pagesLeast aw_pagesMost aw_globalCount wgt wft wfv wgc n45 wek wei wes wez ab ax ab_length ac cfi clk clt ac_length cop cva cpt cel ac_labelCount cla ax cax gax ob cob gob waf cwaf gwaf wat cwat gwat wap cwap gwap wag cwag gwag wgt cwgt gwgt wft cwft gwft wfv cwfv gwfv wgc cwgc gwgc wek cwek n42 wei cwei n41 wes cwes n43 wez cwez n44 cfi ccfi gcfi clk cclk gclk clt cclt gclt cop ccop gcop cva ccva gcva cpt ccpt gcpt cel ccel gcel cla ccla gcla)) [18, 19, 20, 0, 21, 1, 2, 3, 4, 5, 6, 7, 8, 9, 22, 23, 24, 25, 10, 11, 12, 13, 14, 15, 16, 17] rfl
              have hD9 := hD.sb (wq := (wz_62 h0 aw ac n46 h0_limit n47 h0_codeCount ob h0_openCount aw ab ac aw_typeCount wat wap wag aw_functionCount waf aw_hasMemory aw_pagesLeast aw_pagesMost aw_globalCount wgt wft wfv wgc n45 wek wei wes wez ab ax ab_length ac cfi clk clt ac_length cop cva cpt cel ac_labelCount cla ax cax gax ob cob gob waf cwaf gwaf wat cwat gwat wap cwap gwap wag cwag gwag wgt cwgt gwgt wft cwft gwft wfv cwfv gwfv wgc cwgc gwgc wek cwek n42 wei cwei n41 wes cwes n43 wez cwez n44 cfi ccfi gcfi clk cclk gclk clt cclt gclt cop ccop gcop cva ccva gcva cpt ccpt gcpt cel ccel gcel cla ccla gcla)) [18, 19, 20, 0, 21, 1, 2, 3, 4, 5, 6, 7, 8, 9, 22, 23, 24, 25, 10, 11, 12, 13, 14, 15, 16, 17] (by decide) rfl
              exact W.vret hx hb hr (fun t ht hW => ⟨⟨(gcel, gcfi, gcla, gclk, gclt, gcop, gcpt, gcva, gob, gwaf, gwag, gwap, gwat, n41, n42, n43, n44, gwft, gwfv, gwgc, gwgt, ac_labelCount, ac_length, n45, aw_functionCount, aw_globalCount, aw_hasMemory, aw_pagesLeast, aw_pagesMost, aw_typeCount, n46, h0_codeCount, h0_limit, h0_openCount, n47), rfl, ⟨b_ac_labelCount, b_ac_length, bn45, b_aw_functionCount, b_aw_globalCount, b_aw_hasMemory, b_aw_typeCount, b_h0_codeCount, b_h0_openCount, bn47, ⟨⟨by (try dsimp only) <;> (first | (apply Int.le_antisymm <;> omega) | omega), by (try dsimp only) <;> (first | (apply Int.le_antisymm <;> omega) | omega)⟩, fun z => by (try dsimp only at z); (first | (apply Int.le_antisymm <;> omega) | omega), hel, hlb, fun z => ⟨id, id, id, id, fun _ => xr40.2.2 z, id⟩⟩⟩, va_P.he ht.symm hP9, va_K.moved hW.alike hK, hD9⟩, hS.F ht⟩) hS.2.2 d_RE_readSection_241
            · skip
              by_cases g1_193 : p0.toInt = 10
              · have ho1 : tab_off 235 0 10 #[59, 110, 235, 117, 235, 171, 178, 185, 235, 235, 192] p0.toInt = 192 := by rw [g1_193]; rfl
                refine lv_tab (tgt := 193) hx hb d_RE_readSection_1 (by decide) ho1 (by decide) ?_
                clear ho1
                refine lv_aload_n hx hb d_RE_readSection_193 rfl (lv_at hl 0 rfl) ?_
                refine lv_aload_n hx hb d_RE_readSection_194 rfl (lv_at hl 0 rfl) ?_
                refine lv_ldc2 hx hb hown (hts _ kL_RE_77) d_RE_readSection_195 ?_
                refine lv_topl (fun x48 ex48 => ?_)
                have tx48 : x48.toInt = 30 := by rw [ex48]; decide
                have hPc := hP.sb (wq := (wz_46 h0 aw ac h0_at h0_limit h0_sound h0_codeCount ob h0_openCount aw ab ac aw_typeCount wat wap wag aw_functionCount waf aw_hasMemory aw_pagesLeast aw_pagesMost aw_globalCount wgt wft wfv wgc aw_exportCount wek wei wes wez ab ax ab_length ax cax gax)) [0, 1, 2, 4] rfl
                have hDc := hD.sb (wq := (wz_46 h0 aw ac h0_at h0_limit h0_sound h0_codeCount ob h0_openCount aw ab ac aw_typeCount wat wap wag aw_functionCount waf aw_hasMemory aw_pagesLeast aw_pagesMost aw_globalCount wgt wft wfv wgc aw_exportCount wek wei wes wez ab ax ab_length ax cax gax)) [0, 1, 2, 4] (by decide) rfl
                have hKc := hK.sb (tyq := [(cax, .byte)]) [0] rfl
                have hFc := va_free (wc := (wz_46 h0 aw ac h0_at h0_limit h0_sound h0_codeCount ob h0_openCount aw ab ac aw_typeCount wat wap wag aw_functionCount waf aw_hasMemory aw_pagesLeast aw_pagesMost aw_globalCount wgt wft wfv wgc aw_exportCount wek wei wes wez ab ax ab_length ax cax gax)) hD hS hA [0, 1, 2, 4] rfl
                refine va_calll (va_runV (As := [.long x48]) (rest := [.ref h0]) ⟨hx, hb, hml, hown, hts⟩ (c_RE_readUnsigned l dC dI h0 aw ac ob ab ax H.size cax 8192 h0_at h0_limit h0_sound h0_codeCount h0_openCount ab_length gax [.ref ab, .ref ac, .int aw_typeCount, .ref wat, .ref wap, .ref wag, .int aw_functionCount, .ref waf, .int aw_hasMemory, .long aw_pagesLeast, .long aw_pagesMost, .int aw_globalCount, .ref wgt, .ref wft, .ref wfv, .ref wgc, .int aw_exportCount, .ref wek, .ref wei, .ref wes, .ref wez] rfl rfl b_h0_sound (by (first | (apply Int.le_antisymm <;> omega) | omega)) x48 (by (first | (apply Int.le_antisymm <;> omega) | omega))) (cwV 1 hts (gV kM_RE_64 kV_RE_readUnsigned kS_RE_readUnsigned kI_RE kC_RE_readUnsigned) rfl rfl rfl (by decide +kernel) ⟨Nat.le_of_ble_eq_true rfl, Nat.le_of_ble_eq_true rfl⟩) ⟨fun a U g mk z => by obtain ⟨z0, z1, zP, zK, zD⟩ := z; exact ⟨z0, z1, zP, va_K.moved (u := U) (U := U.calling g mk a) (Vm.Alike.refl U.vm) zK, zD⟩, va_recv hKc hPc (ci := 7) (q0 := 0) rfl rfl, fun U hU hW => ⟨rfl, by rw [hU], va_P.he hU.symm hPc, va_K.moved hW.alike hKc, hDc.weaken (fun _ _ _ _ => trivial)⟩⟩ rfl rfl hl.1 rfl (lv_room (Nat.le_of_ble_eq_true rfl)) d_RE_readSection_198 ⟨(Nat.zero_le _), (Nat.zero_le _)⟩) hS (fun q _ h => hFc q h) hFc (fun r49 u t H1 locs ht hvm hw hB hz1 hk1 hS => ?_)
                obtain ⟨n50, n51⟩ := u
                try dsimp only at hw
                obtain ⟨hsn51, tn50⟩ := hw
                have bsn51 := b01 hsn51
                obtain ⟨hP1, hK1, hD1⟩ := hB
                replace hP1 := va_P.he ht hP1
                obtain ⟨hP, hD⟩ := va_join (wr := (wz_63 ac cfi clk clt ac_length cop cva cpt cel ac_labelCount cla ob cob gob waf cwaf gwaf wat cwat gwat wap cwap gwap wag cwag gwag wgt cwgt gwgt wft cwft gwft wfv cwfv gwfv wgc cwgc gwgc wek cwek gwek wei cwei gwei wes cwes gwes wez cwez gwez cfi ccfi gcfi clk cclk gclk clt cclt gclt cop ccop gcop cva ccva gcva cpt ccpt gcpt cel ccel gcel cla ccla gcla)) (w1 := (wz_46 h0 aw ac n50 h0_limit n51 h0_codeCount ob h0_openCount aw ab ac aw_typeCount wat wap wag aw_functionCount waf aw_hasMemory aw_pagesLeast aw_pagesMost aw_globalCount wgt wft wfv wgc aw_exportCount wek wei wes wez ab ax ab_length ax cax gax)) hP hD [0, 1, 2, 4] [3, 5, 6, 7, 8, 9, 10, 11, 12, 13, 14, 15, 16, 17, 18, 19, 20, 21, 22, 23, 24, 25] rfl rfl (by decide) (by decide) hk1 hFc hP1 hD1
                clear hPc hDc hKc hFc hz1 hk1 hP1 hK1 hD1
                rename Heap => H
                have hP : va_P (dC, dI) cls (wz_64 ac cfi clk clt ac_length cop cva cpt cel ac_labelCount cla ob cob gob waf cwaf gwaf wat cwat gwat wap cwap gwap wag cwag gwag wgt cwgt gwgt wft cwft gwft wfv cwfv gwfv wgc cwgc gwgc wek cwek gwek wei cwei gwei wes cwes gwes wez cwez gwez cfi ccfi gcfi clk cclk gclk clt cclt gclt cop ccop gcop cva ccva gcva cpt ccpt gcpt cel ccel gcel cla ccla gcla h0 aw ac n50 h0_limit n51 h0_codeCount ob h0_openCount aw ab ac aw_typeCount wat wap wag aw_functionCount waf aw_hasMemory aw_pagesLeast aw_pagesMost aw_globalCount wgt wft wfv wgc aw_exportCount wek wei wes wez ab ax ab_length ax cax gax) H := hP
                have hD : va_D A (wz_64 ac cfi clk clt ac_length cop cva cpt cel ac_labelCount cla ob cob gob waf cwaf gwaf wat cwat gwat wap cwap gwap wag cwag gwag wgt cwgt gwgt wft cwft gwft wfv cwfv gwfv wgc cwgc gwgc wek cwek gwek wei cwei gwei wes cwes gwes wez cwez gwez cfi ccfi gcfi clk cclk gclk clt cclt gclt cop ccop gcop cva ccva gcva cpt ccpt gcpt cel ccel gcel cla ccla gcla h0 aw ac n50 h0_limit n51 h0_codeCount ob h0_openCount aw ab ac aw_typeCount wat wap wag aw_functionCount waf aw_hasMemory aw_pagesLeast aw_pagesMost aw_globalCount wgt wft wfv wgc aw_exportCount wek wei wes wez ab ax ab_length ax cax gax) := hD
                refine lv_l2i hx hb d_RE_readSection_201 rfl ?_
                refine lv_topi (fun x52 ex52 => ?_)
                have tx52 := l2i_t ex52 (by (first | (apply Int.le_antisymm <;> omega) | omega)) (by (first | (apply Int.le_antisymm <;> omega) | omega))
                refine va_put (D := (dC, dI)) (ci := 7) (v := .int x52) (ty := .int) (C := R_RE) (T := F_RE) (N := 8) hx hb hts i_RE t_RE t_RE_ok n_RE hown hK hP hD hS 22 rfl rfl 5 (by decide) (hts _ kF_RE_49) (fun _ h9 => h9) rfl (by decide +kernel) rfl rfl (Nat.le_of_ble_eq_true rfl) d_RE_readSection_202 (fun H locs hP hD hS => ?_)
                refine lv_iconst (v := 0) hx hb d_RE_readSection_205 (by decide) ?_
                refine lv_istore_n (lv' := [(3, .int 0), (0, .ref h0), (1, .int p0)]) hx hb d_RE_readSection_206 rfl hl (by decide) rfl (fun ls hl => ?_)
                refine w_loop (σ := Int32 × (Nat → Int32) × (Nat → Int32) × (Nat → Int32) × (Nat → Int32) × (Nat → Int32) × (Nat → Int32) × (Nat → Int32) × (Nat → Int64) × (Nat → Int32) × Int32 × Int32 × Int32 × Int32 × Int32 × Int32) (fun u H locs ls => match u with | (j207_l3, j207_cel, j207_cfi, j207_cla, j207_clk, j207_clt, j207_cop, j207_cpt, j207_cva, j207_ob, j207_ac_labelCount, j207_ac_length, j207_h0_at, j207_h0_limit, j207_h0_openCount, j207_h0_sound) => (0 ≤ j207_l3.toInt ∧ j207_l3.toInt ≤ 30) ∧ (0 ≤ j207_ac_labelCount.toInt ∧ j207_ac_labelCount.toInt ≤ 2000) ∧ (0 ≤ j207_ac_length.toInt ∧ j207_ac_length.toInt ≤ 5000) ∧ (0 ≤ j207_h0_openCount.toInt ∧ j207_h0_openCount.toInt ≤ 100) ∧ (j207_h0_sound = 0 ∨ j207_h0_sound = 1) ∧ (h0_at.toInt ≤ j207_h0_at.toInt ∧ j207_h0_at.toInt ≤ h0_limit.toInt) ∧ (j207_h0_sound.toInt = 1 → n51.toInt = 1) ∧ (j207_l3.toInt ≤ x52.toInt) ∧ (j207_h0_limit.toInt = h0_limit.toInt) ∧ (∀ j : Nat, (j207_cel j).toInt < 5000) ∧ (∀ j : Nat, (j : Int) < j207_ac_labelCount.toInt → 0 ≤ (j207_cla j).toInt) ∧ (j207_h0_sound.toInt = 1 → rd_C j207_l3.toInt j207_ac_length.toInt j207_ac_labelCount.toInt j207_cfi j207_clk j207_clt j207_cop j207_cpt j207_cel j207_cva) ∧ va_P (dC, dI) cls (wz_64 ac cfi clk clt j207_ac_length cop cva cpt cel j207_ac_labelCount cla ob cob j207_ob waf cwaf gwaf wat cwat gwat wap cwap gwap wag cwag gwag wgt cwgt gwgt wft cwft gwft wfv cwfv gwfv wgc cwgc gwgc wek cwek gwek wei cwei gwei wes cwes gwes wez cwez gwez cfi ccfi j207_cfi clk cclk j207_clk clt cclt j207_clt cop ccop j207_cop cva ccva j207_cva cpt ccpt j207_cpt cel ccel j207_cel cla ccla j207_cla h0 aw ac j207_h0_at j207_h0_limit j207_h0_sound x52 ob j207_h0_openCount aw ab ac aw_typeCount wat wap wag aw_functionCount waf aw_hasMemory aw_pagesLeast aw_pagesMost aw_globalCount wgt wft wfv wgc aw_exportCount wek wei wes wez ab ax ab_length ax cax gax) H ∧ va_D A (wz_64 ac cfi clk clt j207_ac_length cop cva cpt cel j207_ac_labelCount cla ob cob j207_ob waf cwaf gwaf wat cwat gwat wap cwap gwap wag cwag gwag wgt cwgt gwgt wft cwft gwft wfv cwfv gwfv wgc cwgc gwgc wek cwek gwek wei cwei gwei wes cwes gwes wez cwez gwez cfi ccfi j207_cfi clk cclk j207_clk clt cclt j207_clt cop ccop j207_cop cva ccva j207_cva cpt ccpt j207_cpt cel ccel j207_cel cla ccla j207_cla h0 aw ac j207_h0_at j207_h0_limit j207_h0_sound x52 ob j207_h0_openCount aw ab ac aw_typeCount wat wap wag aw_functionCount waf aw_hasMemory aw_pagesLeast aw_pagesMost aw_globalCount wgt wft wfv wgc aw_exportCount wek wei wes wez ab ax ab_length ax cax gax) ∧ va_S A s.heap H locs ∧ lv_has ls 4 [(0, .ref h0), (3, .int j207_l3)]) (fun u => match u with | (j207_l3, j207_cel, j207_cfi, j207_cla, j207_clk, j207_clt, j207_cop, j207_cpt, j207_cva, j207_ob, j207_ac_labelCount, j207_ac_length, j207_h0_at, j207_h0_limit, j207_h0_openCount, j207_h0_sound) => (x52.toInt - j207_l3.toInt).toNat) ?_ (0, gcel, gcfi, gcla, gclk, gclt, gcop, gcpt, gcva, gob, ac_labelCount, ac_length, n50, h0_limit, h0_openCount, n51) ⟨by (try dsimp only) <;> (first | (apply Int.le_antisymm <;> omega) | omega), b_ac_labelCount, b_ac_length, b_h0_openCount, hsn51, by (try dsimp only) <;> (first | (apply Int.le_antisymm <;> omega) | omega), by (try dsimp only) <;> (first | (apply Int.le_antisymm <;> omega) | omega), by (try dsimp only) <;> (first | (apply Int.le_antisymm <;> omega) | omega), by (try dsimp only) <;> (first | (apply Int.le_antisymm <;> omega) | omega), hel, hlb, fun _ => rd_C.nil, hP, hD, hS, lv_sub hl [1, 0] rfl⟩
                intro N207 ih207 u H locs ls hN207 hI
                obtain ⟨j207_l3, j207_cel, j207_cfi, j207_cla, j207_clk, j207_clt, j207_cop, j207_cpt, j207_cva, j207_ob, hq9r⟩ := u
                obtain ⟨j207_ac_labelCount, j207_ac_length, j207_h0_at, j207_h0_limit, j207_h0_openCount, j207_h0_sound⟩ := hq9r
                obtain ⟨b_j207_l3, b_j207_ac_labelCount, b_j207_ac_length, b_j207_h0_openCount, b_j207_h0_sound, w1, w2, v1, v0, v2, hq9r⟩ := hI
                obtain ⟨v3, v6, hP, hD, hS, hl⟩ := hq9r
                have tj207_h0_sound := b01 b_j207_h0_sound
                have hN207 : (x52.toInt - j207_l3.toInt).toNat < N207 + 1 := hN207
                refine lv_iload_n hx hb d_RE_readSection_207 rfl (lv_at hl 1 rfl) ?_
                refine lv_aload_n hx hb d_RE_readSection_208 rfl (lv_at hl 0 rfl) ?_
                refine va_get (D := (dC, dI)) (ci := 7) (v := .int x52) (C := R_RE) (T := F_RE) (N := 8) hx hb hts i_RE hown hK hP 22 rfl rfl 5 (by decide) (hts _ kF_RE_49) (fun _ h9 => h9) rfl d_RE_readSection_209 ?_
                refine lv_icmp_ge (tgt := 233) hx hb d_RE_readSection_212 (by decide) (fun c212 => ?_) (fun c212 => ?_)
                · have q212 := leI c212
                  refine lv_goto (tgt := 241) hx hb d_RE_readSection_233 (by decide) ?_
                  have hP9 := hP.sb (wq := (wz_62 h0 aw ac j207_h0_at j207_h0_limit j207_h0_sound x52 ob j207_h0_openCount aw ab ac aw_typeCount wat wap wag aw_functionCount waf aw_hasMemory aw_pagesLeast aw_pagesMost aw_globalCount wgt wft wfv wgc aw_exportCount wek wei wes wez ab ax ab_length ac cfi clk clt j207_ac_length cop cva cpt cel j207_ac_labelCount cla ax cax gax ob cob j207_ob waf cwaf gwaf wat cwat gwat wap cwap gwap wag cwag gwag wgt cwgt gwgt wft cwft gwft wfv cwfv gwfv wgc cwgc gwgc wek cwek gwek wei cwei gwei wes cwes gwes wez cwez gwez cfi ccfi j207_cfi clk cclk j207_clk clt cclt j207_clt cop ccop j207_cop cva ccva j207_cva cpt ccpt j207_cpt cel ccel j207_cel cla ccla j207_cla)) [22, 23, 24, 0, 25, 1, 2, 3, 4, 5, 6, 7, 8, 9, 10, 11, 12, 13, 14, 15, 16, 17, 18, 19, 20, 21] rfl
                  have hD9 := hD.sb (wq := (wz_62 h0 aw ac j207_h0_at j207_h0_limit j207_h0_sound x52 ob j207_h0_openCount aw ab ac aw_typeCount wat wap wag aw_functionCount waf aw_hasMemory aw_pagesLeast aw_pagesMost aw_globalCount wgt wft wfv wgc aw_exportCount wek wei wes wez ab ax ab_length ac cfi clk clt j207_ac_length cop cva cpt cel j207_ac_labelCount cla ax cax gax ob cob j207_ob waf cwaf gwaf wat cwat gwat wap cwap gwap wag cwag gwag wgt cwgt gwgt wft cwft gwft wfv cwfv gwfv wgc cwgc gwgc wek cwek gwek wei cwei gwei wes cwes gwes wez cwez gwez cfi ccfi j207_cfi clk cclk j207_clk clt cclt j207_clt cop ccop j207_cop cva ccva j207_cva cpt ccpt j207_cpt cel ccel j207_cel cla ccla j207_cla)) [22, 23, 24, 0, 25, 1, 2, 3, 4, 5, 6, 7, 8, 9, 10, 11, 12, 13, 14, 15, 16, 17, 18, 19, 20, 21] (by decide) rfl
                  exact W.vret hx hb hr (fun t ht hW => ⟨⟨(j207_cel, j207_cfi, j207_cla, j207_clk, j207_clt, j207_cop, j207_cpt, j207_cva, j207_ob, gwaf, gwag, gwap, gwat, gwei, gwek, gwes, gwez, gwft, gwfv, gwgc, gwgt, j207_ac_labelCount, j207_ac_length, aw_exportCount, aw_functionCount, aw_globalCount, aw_hasMemory, aw_pagesLeast, aw_pagesMost, aw_typeCount, j207_h0_at, x52, j207_h0_limit, j207_h0_openCount, j207_h0_sound), rfl, ⟨b_j207_ac_labelCount, b_j207_ac_length, b_aw_exportCount, b_aw_functionCount, b_aw_globalCount, b_aw_hasMemory, b_aw_typeCount, by (try dsimp only) <;> (first | (apply Int.le_antisymm <;> omega) | omega), b_j207_h0_openCount, b_j207_h0_sound, ⟨⟨by (try dsimp only) <;> (first | (apply Int.le_antisymm <;> omega) | omega), by (try dsimp only) <;> (first | (apply Int.le_antisymm <;> omega) | omega)⟩, fun z => by (try dsimp only at z); (first | (apply Int.le_antisymm <;> omega) | omega), v2, v3, fun z => ⟨id, id, id, id, id, fun _ => by (try dsimp only at z); have q9 := v6 z; rw [show j207_l3.toInt = x52.toInt from by (first | (apply Int.le_antisymm <;> omega) | omega)] at q9; exact q9⟩⟩⟩, va_P.he ht.symm hP9, va_K.moved hW.alike hK, hD9⟩, hS.F ht⟩) hS.2.2 d_RE_readSection_241
                · have q212 := nleI c212
                  refine lv_aload_n hx hb d_RE_readSection_215 rfl (lv_at hl 0 rfl) ?_
                  refine va_get (D := (dC, dI)) (ci := 7) (v := .int j207_h0_sound) (C := R_RE) (T := F_RE) (N := 8) hx hb hts i_RE hown hK hP 22 rfl rfl 4 (by decide) (hts _ kF_RE_45) (fun _ h9 => h9) rfl d_RE_readSection_216 ?_
                  refine lv_if_eq (tgt := 233) hx hb d_RE_readSection_219 (by decide) (fun c219 => ?_) (fun c219 => ?_)
                  · have q219 := eqI c219
                    refine lv_goto (tgt := 241) hx hb d_RE_readSection_233 (by decide) ?_
                    have hP9 := hP.sb (wq := (wz_62 h0 aw ac j207_h0_at j207_h0_limit j207_h0_sound x52 ob j207_h0_openCount aw ab ac aw_typeCount wat wap wag aw_functionCount waf aw_hasMemory aw_pagesLeast aw_pagesMost aw_globalCount wgt wft wfv wgc aw_exportCount wek wei wes wez ab ax ab_length ac cfi clk clt j207_ac_length cop cva cpt cel j207_ac_labelCount cla ax cax gax ob cob j207_ob waf cwaf gwaf wat cwat gwat wap cwap gwap wag cwag gwag wgt cwgt gwgt wft cwft gwft wfv cwfv gwfv wgc cwgc gwgc wek cwek gwek wei cwei gwei wes cwes gwes wez cwez gwez cfi ccfi j207_cfi clk cclk j207_clk clt cclt j207_clt cop ccop j207_cop cva ccva j207_cva cpt ccpt j207_cpt cel ccel j207_cel cla ccla j207_cla)) [22, 23, 24, 0, 25, 1, 2, 3, 4, 5, 6, 7, 8, 9, 10, 11, 12, 13, 14, 15, 16, 17, 18, 19, 20, 21] rfl
                    have hD9 := hD.sb (wq := (wz_62 h0 aw ac j207_h0_at j207_h0_limit j207_h0_sound x52 ob j207_h0_openCount aw ab ac aw_typeCount wat wap wag aw_functionCount waf aw_hasMemory aw_pagesLeast aw_pagesMost aw_globalCount wgt wft wfv wgc aw_exportCount wek wei wes wez ab ax ab_length ac cfi clk clt j207_ac_length cop cva cpt cel j207_ac_labelCount cla ax cax gax ob cob j207_ob waf cwaf gwaf wat cwat gwat wap cwap gwap wag cwag gwag wgt cwgt gwgt wft cwft gwft wfv cwfv gwfv wgc cwgc gwgc wek cwek gwek wei cwei gwei wes cwes gwes wez cwez gwez cfi ccfi j207_cfi clk cclk j207_clk clt cclt j207_clt cop ccop j207_cop cva ccva j207_cva cpt ccpt j207_cpt cel ccel j207_cel cla ccla j207_cla)) [22, 23, 24, 0, 25, 1, 2, 3, 4, 5, 6, 7, 8, 9, 10, 11, 12, 13, 14, 15, 16, 17, 18, 19, 20, 21] (by decide) rfl
                    exact W.vret hx hb hr (fun t ht hW => ⟨⟨(j207_cel, j207_cfi, j207_cla, j207_clk, j207_clt, j207_cop, j207_cpt, j207_cva, j207_ob, gwaf, gwag, gwap, gwat, gwei, gwek, gwes, gwez, gwft, gwfv, gwgc, gwgt, j207_ac_labelCount, j207_ac_length, aw_exportCount, aw_functionCount, aw_globalCount, aw_hasMemory, aw_pagesLeast, aw_pagesMost, aw_typeCount, j207_h0_at, x52, j207_h0_limit, j207_h0_openCount, j207_h0_sound), rfl, ⟨b_j207_ac_labelCount, b_j207_ac_length, b_aw_exportCount, b_aw_functionCount, b_aw_globalCount, b_aw_hasMemory, b_aw_typeCount, by (try dsimp only) <;> (first | (apply Int.le_antisymm <;> omega) | omega), b_j207_h0_openCount, b_j207_h0_sound, ⟨⟨by (try dsimp only) <;> (first | (apply Int.le_antisymm <;> omega) | omega), by (try dsimp only) <;> (first | (apply Int.le_antisymm <;> omega) | omega)⟩, fun z => by (try dsimp only at z); (first | (apply Int.le_antisymm <;> omega) | omega), v2, v3, fun z => ⟨id, id, id, id, id, fun _ => by (try dsimp only at z); have q9 := v6 z; rw [show j207_l3.toInt = x52.toInt from by (first | (apply Int.le_antisymm <;> omega) | omega)] at q9; exact q9⟩⟩⟩, va_P.he ht.symm hP9, va_K.moved hW.alike hK, hD9⟩, hS.F ht⟩) hS.2.2 d_RE_readSection_241
                  · have q219 := neI c219
                    refine lv_aload_n hx hb d_RE_readSection_222 rfl (lv_at hl 0 rfl) ?_
                    refine lv_iload_n hx hb d_RE_readSection_223 rfl (lv_at hl 1 rfl) ?_
                    have hPc := hP.sb (wq := (wz_50 h0 aw ac j207_h0_at j207_h0_limit j207_h0_sound x52 ob j207_h0_openCount aw ab ac aw_typeCount wat wap wag aw_functionCount waf aw_hasMemory aw_pagesLeast aw_pagesMost aw_globalCount wgt wft wfv wgc aw_exportCount wek wei wes wez ab ax ab_length ac cfi clk clt j207_ac_length cop cva cpt cel j207_ac_labelCount cla ax cax gax ob cob j207_ob cfi ccfi j207_cfi clk cclk j207_clk clt cclt j207_clt cop ccop j207_cop cva ccva j207_cva cpt ccpt j207_cpt cel ccel j207_cel cla ccla j207_cla)) [22, 23, 24, 0, 25, 1, 14, 15, 16, 17, 18, 19, 20, 21] rfl
                    have hDc := hD.sb (wq := (wz_50 h0 aw ac j207_h0_at j207_h0_limit j207_h0_sound x52 ob j207_h0_openCount aw ab ac aw_typeCount wat wap wag aw_functionCount waf aw_hasMemory aw_pagesLeast aw_pagesMost aw_globalCount wgt wft wfv wgc aw_exportCount wek wei wes wez ab ax ab_length ac cfi clk clt j207_ac_length cop cva cpt cel j207_ac_labelCount cla ax cax gax ob cob j207_ob cfi ccfi j207_cfi clk cclk j207_clk clt cclt j207_clt cop ccop j207_cop cva ccva j207_cva cpt ccpt j207_cpt cel ccel j207_cel cla ccla j207_cla)) [22, 23, 24, 0, 25, 1, 14, 15, 16, 17, 18, 19, 20, 21] (by decide) rfl
                    have hKc := hK.sb (tyq := [(cax, .byte), (cob, .int), (ccfi, .int), (cclk, .int), (cclt, .int), (ccop, .int), (ccva, .long), (ccpt, .int), (ccel, .int), (ccla, .int)]) [0, 1, 14, 15, 16, 17, 18, 19, 20, 21] rfl
                    have hFc := va_free (wc := (wz_50 h0 aw ac j207_h0_at j207_h0_limit j207_h0_sound x52 ob j207_h0_openCount aw ab ac aw_typeCount wat wap wag aw_functionCount waf aw_hasMemory aw_pagesLeast aw_pagesMost aw_globalCount wgt wft wfv wgc aw_exportCount wek wei wes wez ab ax ab_length ac cfi clk clt j207_ac_length cop cva cpt cel j207_ac_labelCount cla ax cax gax ob cob j207_ob cfi ccfi j207_cfi clk cclk j207_clk clt cclt j207_clt cop ccop j207_cop cva ccva j207_cva cpt ccpt j207_cpt cel ccel j207_cel cla ccla j207_cla)) hD hS hA [22, 23, 24, 0, 25, 1, 14, 15, 16, 17, 18, 19, 20, 21] rfl
                    refine va_callv (va_runV (As := [.int j207_l3]) (rest := []) ⟨hx, hb, hml, hown, hts⟩ (c_RE_readCode l dC dI H.size h0 aw ac ob ab wat wap wag waf wgt wft wfv wgc wek wei wes wez ax cfi clk clt cop cva cpt cel cla cax cob ccfi cclk cclt ccop ccva ccpt ccel ccla j207_h0_at j207_h0_limit j207_h0_sound x52 j207_h0_openCount aw_typeCount aw_functionCount aw_hasMemory aw_pagesLeast aw_pagesMost aw_globalCount aw_exportCount ab_length j207_ac_length j207_ac_labelCount gax j207_ob j207_cfi j207_clk j207_clt j207_cop j207_cva j207_cpt j207_cel j207_cla (b_j207_h0_sound) (by (try dsimp only) <;> (first | (apply Int.le_antisymm <;> omega) | omega)) (b_j207_h0_openCount) (b_j207_ac_length) (b_j207_ac_labelCount) j207_l3 (by (try dsimp only) <;> (first | (apply Int.le_antisymm <;> omega) | omega)) (by (first | (apply Int.le_antisymm <;> omega) | omega)) (v2) (v3)) (cwV 1 hts (gV kM_RE_93 kV_RE_readCode kS_RE_readCode kI_RE kC_RE_readCode) rfl rfl rfl (by decide +kernel) ⟨Nat.le_of_ble_eq_true rfl, Nat.le_of_ble_eq_true rfl⟩) ⟨fun a U g mk z => by obtain ⟨z0, z1, zP, zK, zD⟩ := z; exact ⟨z0, z1, zP, va_K.moved (u := U) (U := U.calling g mk a) (Vm.Alike.refl U.vm) zK, zD⟩, va_recv hKc hPc (ci := 7) (q0 := 0) rfl rfl, fun U hU hW => ⟨rfl, by rw [hU], va_P.he hU.symm hPc, va_K.moved hW.alike hKc, hDc.weaken (fun _ _ _ _ => trivial)⟩⟩ rfl rfl hl.1 rfl (lv_room (Nat.le_of_ble_eq_true rfl)) d_RE_readSection_224 ⟨(Nat.zero_le _), (Nat.zero_le _)⟩) hS (fun q _ h => hFc q h) hFc (fun u t H1 locs ht hvm hw hB hz1 hk1 hS => ?_)
                    obtain ⟨n54, n55, n56, n57, n58, n59, n60, n61, n62, n63, n64, n65, n66, n67, n68⟩ := u
                    try dsimp only at hw
                    obtain ⟨bn63, bn64, bn67, bn68, xr53⟩ := hw
                    try clear hw
                    have tn68 := b01 bn68
                    have g1 := xr53.1
                    have g2 := xr53.2.1
                    have g6 := xr53.2.2.2.2.2.1
                    replace xr53 : bx _ := xr53
                    obtain ⟨hP1, hK1, hD1⟩ := hB
                    replace hP1 := va_P.he ht hP1
                    obtain ⟨hP, hD⟩ := va_join (wr := [(waf, .inl (cwaf, 30, .inl gwaf)), (wat, .inl (cwat, 20, .inl gwat)), (wap, .inl (cwap, 160, .inl gwap)), (wag, .inl (cwag, 20, .inl gwag)), (wgt, .inl (cwgt, 20, .inl gwgt)), (wft, .inl (cwft, 20, .inl gwft)), (wfv, .inl (cwfv, 20, .inr (.inl gwfv))), (wgc, .inl (cwgc, 20, .inl gwgc)), (wek, .inl (cwek, 40, .inl gwek)), (wei, .inl (cwei, 40, .inl gwei)), (wes, .inl (cwes, 40, .inl gwes)), (wez, .inl (cwez, 40, .inl gwez))]) (w1 := (wz_50 h0 aw ac n65 n66 n68 x52 ob n67 aw ab ac aw_typeCount wat wap wag aw_functionCount waf aw_hasMemory aw_pagesLeast aw_pagesMost aw_globalCount wgt wft wfv wgc aw_exportCount wek wei wes wez ab ax ab_length ac cfi clk clt n64 cop cva cpt cel n63 cla ax cax gax ob cob n62 cfi ccfi n55 clk cclk n57 clt cclt n58 cop ccop n59 cva ccva n61 cpt ccpt n60 cel ccel n54 cla ccla n56)) hP hD [22, 23, 24, 0, 25, 1, 14, 15, 16, 17, 18, 19, 20, 21] [2, 3, 4, 5, 6, 7, 8, 9, 10, 11, 12, 13] rfl rfl (by decide) (by decide) hk1 hFc hP1 hD1
                    clear hPc hDc hKc hFc hz1 hk1 hP1 hK1 hD1
                    rename Heap => H
                    have hP : va_P (dC, dI) cls [(waf, .inl (cwaf, 30, .inl gwaf)), (wat, .inl (cwat, 20, .inl gwat)), (wap, .inl (cwap, 160, .inl gwap)), (wag, .inl (cwag, 20, .inl gwag)), (wgt, .inl (cwgt, 20, .inl gwgt)), (wft, .inl (cwft, 20, .inl gwft)), (wfv, .inl (cwfv, 20, .inr (.inl gwfv))), (wgc, .inl (cwgc, 20, .inl gwgc)), (wek, .inl (cwek, 40, .inl gwek)), (wei, .inl (cwei, 40, .inl gwei)), (wes, .inl (cwes, 40, .inl gwes)), (wez, .inl (cwez, 40, .inl gwez)), (h0, .inr (7, [.ref aw, .ref ac, .int n65, .int n66, .int n68, .int x52, .ref ob, .int n67])), (aw, .inr (10, [.ref ab, .ref ac, .int aw_typeCount, .ref wat, .ref wap, .ref wag, .int aw_functionCount, .ref waf, .int aw_hasMemory, .long aw_pagesLeast, .long aw_pagesMost, .int aw_globalCount, .ref wgt, .ref wft, .ref wfv, .ref wgc, .int aw_exportCount, .ref wek, .ref wei, .ref wes, .ref wez])), (ab, .inr (1, [.ref ax, .int ab_length])), (ac, .inr (3, [.ref cfi, .ref clk, .ref clt, .int n64, .ref cop, .ref cva, .ref cpt, .ref cel, .int n63, .ref cla])), (ax, .inl (cax, 8192, .inl gax)), (ob, .inl (cob, 100, .inl n62)), (cfi, .inl (ccfi, 31, .inl n55)), (clk, .inl (cclk, 30, .inl n57)), (clt, .inl (cclt, 1800, .inl n58)), (cop, .inl (ccop, 5000, .inl n59)), (cva, .inl (ccva, 5000, .inr (.inl n61))), (cpt, .inl (ccpt, 5000, .inl n60)), (cel, .inl (ccel, 5000, .inl n54)), (cla, .inl (ccla, 2000, .inl n56))] H := hP
                    have hD : va_D A [(waf, .inl (cwaf, 30, .inl gwaf)), (wat, .inl (cwat, 20, .inl gwat)), (wap, .inl (cwap, 160, .inl gwap)), (wag, .inl (cwag, 20, .inl gwag)), (wgt, .inl (cwgt, 20, .inl gwgt)), (wft, .inl (cwft, 20, .inl gwft)), (wfv, .inl (cwfv, 20, .inr (.inl gwfv))), (wgc, .inl (cwgc, 20, .inl gwgc)), (wek, .inl (cwek, 40, .inl gwek)), (wei, .inl (cwei, 40, .inl gwei)), (wes, .inl (cwes, 40, .inl gwes)), (wez, .inl (cwez, 40, .inl gwez)), (h0, .inr (7, [.ref aw, .ref ac, .int n65, .int n66, .int n68, .int x52, .ref ob, .int n67])), (aw, .inr (10, [.ref ab, .ref ac, .int aw_typeCount, .ref wat, .ref wap, .ref wag, .int aw_functionCount, .ref waf, .int aw_hasMemory, .long aw_pagesLeast, .long aw_pagesMost, .int aw_globalCount, .ref wgt, .ref wft, .ref wfv, .ref wgc, .int aw_exportCount, .ref wek, .ref wei, .ref wes, .ref wez])), (ab, .inr (1, [.ref ax, .int ab_length])), (ac, .inr (3, [.ref cfi, .ref clk, .ref clt, .int n64, .ref cop, .ref cva, .ref cpt, .ref cel, .int n63, .ref cla])), (ax, .inl (cax, 8192, .inl gax)), (ob, .inl (cob, 100, .inl n62)), (cfi, .inl (ccfi, 31, .inl n55)), (clk, .inl (cclk, 30, .inl n57)), (clt, .inl (cclt, 1800, .inl n58)), (cop, .inl (ccop, 5000, .inl n59)), (cva, .inl (ccva, 5000, .inr (.inl n61))), (cpt, .inl (ccpt, 5000, .inl n60)), (cel, .inl (ccel, 5000, .inl n54)), (cla, .inl (ccla, 2000, .inl n56))] := hD
                    obtain ⟨x69, ex69⟩ : ∃ z : Int32, z = j207_l3 + 1 := ⟨_, rfl⟩
                    have tx69 : x69.toInt = j207_l3.toInt + 1 := by have z := i32_add ex69 (by (first | (apply Int.le_antisymm <;> omega) | omega)) (by (first | (apply Int.le_antisymm <;> omega) | omega)); first | exact z | (first | (apply Int.le_antisymm <;> omega) | omega)
                    refine lv_iinc (v := x69) (lv' := [(3, .int x69), (0, .ref h0)]) hx hb d_RE_readSection_227 hl (k := 1) rfl (by rw [ex69]; rfl) (by decide) rfl (fun ls hl => ?_)
                    refine lv_goto (tgt := 207) hx hb d_RE_readSection_230 (by decide) ?_
                    exact ih207 (x69, n54, n55, n56, n57, n58, n59, n60, n61, n62, n63, n64, n65, n66, n67, n68) _ _ _ (by show (x52.toInt - x69.toInt).toNat < N207; (first | (apply Int.le_antisymm <;> omega) | omega)) ⟨by (try dsimp only) <;> (first | (apply Int.le_antisymm <;> omega) | omega), bn63, bn64, bn67, bn68, by (try dsimp only) <;> (first | (apply Int.le_antisymm <;> omega) | omega), by (try dsimp only) <;> (first | (apply Int.le_antisymm <;> omega) | omega), by (try dsimp only) <;> (first | (apply Int.le_antisymm <;> omega) | omega), by have := xr53.out.2.2.1; (try dsimp only); rw [this]; exact v0, xr53.out.2.2.2.1, xr53.out.2.2.2.2.1, fun z => by obtain ⟨d1, d2, d3, d4, d5, d6, d7, d8, d9⟩ := xr53.out.2.2.2.2.2.2 z; have L9 := xr53.out.2.2.2.2.2.1; have N9 := rd_C.next (by (first | (apply Int.le_antisymm <;> omega) | omega)) (v6 (xr53.out.2.1 z)) (by (first | (apply Int.le_antisymm <;> omega) | omega)) L9.1 L9.2 d1 d2 d3 d4 d6 d7 d8 d9; (try dsimp only); rw [tx69]; exact N9, hP.sub [15, 17, 0, 1, 2, 3, 4, 5, 6, 7, 8, 9, 10, 11, 18, 19, 20, 21, 22, 23, 24, 25, 12, 13, 14, 16] rfl, hD.sub [15, 17, 0, 1, 2, 3, 4, 5, 6, 7, 8, 9, 10, 11, 18, 19, 20, 21, 22, 23, 24, 25, 12, 13, 14, 16] (by decide) rfl, hS, lv_sub hl [1, 0] rfl⟩
              · skip
                have ho1 : tab_off 235 0 10 #[59, 110, 235, 117, 235, 171, 178, 185, 235, 235, 192] p0.toInt = 235 := by
                  unfold tab_off
                  split
                  · rfl
                  · rcases (by (first | (apply Int.le_antisymm <;> omega) | omega) : p0.toInt = 2 ∨ p0.toInt = 4 ∨ p0.toInt = 8 ∨ p0.toInt = 9) with z | z | z | z <;> (rw [z]; rfl)
                refine lv_tab (tgt := 236) hx hb d_RE_readSection_1 (by decide) ho1 (by decide) ?_
                clear ho1
                refine lv_aload_n hx hb d_RE_readSection_236 rfl (lv_at hl 0 rfl) ?_
                refine lv_iconst (v := 0) hx hb d_RE_readSection_237 (by decide) ?_
                refine va_put (D := (dC, dI)) (ci := 7) (v := .int 0) (ty := .boolean) (C := R_RE) (T := F_RE) (N := 8) hx hb hts i_RE t_RE t_RE_ok n_RE hown hK hP hD hS 0 rfl rfl 4 (by decide) (hts _ kF_RE_45) (fun _ h9 => h9) rfl (by decide +kernel) rfl rfl (Nat.le_of_ble_eq_true rfl) d_RE_readSection_238 (fun H locs hP hD hS => ?_)
                have hP9 := hP.sb (wq := (wz_62 h0 aw ac h0_at h0_limit 0 h0_codeCount ob h0_openCount aw ab ac aw_typeCount wat wap wag aw_functionCount waf aw_hasMemory aw_pagesLeast aw_pagesMost aw_globalCount wgt wft wfv wgc aw_exportCount wek wei wes wez ab ax ab_length ac cfi clk clt ac_length cop cva cpt cel ac_labelCount cla ax cax gax ob cob gob waf cwaf gwaf wat cwat gwat wap cwap gwap wag cwag gwag wgt cwgt gwgt wft cwft gwft wfv cwfv gwfv wgc cwgc gwgc wek cwek gwek wei cwei gwei wes cwes gwes wez cwez gwez cfi ccfi gcfi clk cclk gclk clt cclt gclt cop ccop gcop cva ccva gcva cpt ccpt gcpt cel ccel gcel cla ccla gcla)) [0, 1, 2, 3, 4, 5, 6, 7, 8, 9, 10, 11, 12, 13, 14, 15, 16, 17, 18, 19, 20, 21, 22, 23, 24, 25] rfl
                have hD9 := hD.sb (wq := (wz_62 h0 aw ac h0_at h0_limit 0 h0_codeCount ob h0_openCount aw ab ac aw_typeCount wat wap wag aw_functionCount waf aw_hasMemory aw_pagesLeast aw_pagesMost aw_globalCount wgt wft wfv wgc aw_exportCount wek wei wes wez ab ax ab_length ac cfi clk clt ac_length cop cva cpt cel ac_labelCount cla ax cax gax ob cob gob waf cwaf gwaf wat cwat gwat wap cwap gwap wag cwag gwag wgt cwgt gwgt wft cwft gwft wfv cwfv gwfv wgc cwgc gwgc wek cwek gwek wei cwei gwei wes cwes gwes wez cwez gwez cfi ccfi gcfi clk cclk gclk clt cclt gclt cop ccop gcop cva ccva gcva cpt ccpt gcpt cel ccel gcel cla ccla gcla)) [0, 1, 2, 3, 4, 5, 6, 7, 8, 9, 10, 11, 12, 13, 14, 15, 16, 17, 18, 19, 20, 21, 22, 23, 24, 25] (by decide) rfl
                exact W.vret hx hb hr (fun t ht hW => ⟨⟨(gcel, gcfi, gcla, gclk, gclt, gcop, gcpt, gcva, gob, gwaf, gwag, gwap, gwat, gwei, gwek, gwes, gwez, gwft, gwfv, gwgc, gwgt, ac_labelCount, ac_length, aw_exportCount, aw_functionCount, aw_globalCount, aw_hasMemory, aw_pagesLeast, aw_pagesMost, aw_typeCount, h0_at, h0_codeCount, h0_limit, h0_openCount, 0), rfl, ⟨b_ac_labelCount, b_ac_length, b_aw_exportCount, b_aw_functionCount, b_aw_globalCount, b_aw_hasMemory, b_aw_typeCount, b_h0_codeCount, b_h0_openCount, Or.inl rfl, ⟨⟨by (try dsimp only) <;> (first | (apply Int.le_antisymm <;> omega) | omega), by (try dsimp only) <;> (first | (apply Int.le_antisymm <;> omega) | omega)⟩, fun z => by (try dsimp only at z); (first | (apply Int.le_antisymm <;> omega) | omega), hel, hlb, fun z => absurd z (by (try dsimp only); decide)⟩⟩, va_P.he ht.symm hP9, va_K.moved hW.alike hK, hD9⟩, hS.F ht⟩) hS.2.2 d_RE_readSection_241
end q_20

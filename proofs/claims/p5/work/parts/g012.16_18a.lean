section q_16
/-! Machine: run -/
abbrev b_MA_run : ByteArray := prog_6_method_4_code
def y_MA_run : MethodName := ⟨R_MA, "run", "(I[J)J"⟩
abbrev w_MA_run : List Cond := .code y_MA_run b_MA_run 4 (Option.some .long) :: lw_g
theorem kC_MA_run : Cond.code y_MA_run b_MA_run 4 (Option.some .long) ∈ lw_g := in_c7 97 rfl rfl
theorem d_MA_run_0 : decode b_MA_run 0 = .ok (.aload_n 0, 1) := bz_c42 (by decide +kernel)
theorem d_MA_run_1 : decode b_MA_run 1 = .ok (.iconst 0, 1) := bz_c3 (by decide +kernel)
theorem d_MA_run_2 : decode b_MA_run 2 = .ok (.putfield 71, 3) := bz_c181 (by decide +kernel)
theorem d_MA_run_5 : decode b_MA_run 5 = .ok (.aload_n 0, 1) := bz_c42 (by decide +kernel)
theorem d_MA_run_6 : decode b_MA_run 6 = .ok (.iconst 0, 1) := bz_c3 (by decide +kernel)
theorem d_MA_run_7 : decode b_MA_run 7 = .ok (.putfield 74, 3) := bz_c181 (by decide +kernel)
theorem d_MA_run_10 : decode b_MA_run 10 = .ok (.aload_n 0, 1) := bz_c42 (by decide +kernel)
theorem d_MA_run_11 : decode b_MA_run 11 = .ok (.iconst 0, 1) := bz_c3 (by decide +kernel)
theorem d_MA_run_12 : decode b_MA_run 12 = .ok (.putfield 77, 3) := bz_c181 (by decide +kernel)
theorem d_MA_run_15 : decode b_MA_run 15 = .ok (.aload_n 0, 1) := bz_c42 (by decide +kernel)
theorem d_MA_run_16 : decode b_MA_run 16 = .ok (.iconst 0, 1) := bz_c3 (by decide +kernel)
theorem d_MA_run_17 : decode b_MA_run 17 = .ok (.putfield 80, 3) := bz_c181 (by decide +kernel)
theorem d_MA_run_20 : decode b_MA_run 20 = .ok (.aload_n 0, 1) := bz_c42 (by decide +kernel)
theorem d_MA_run_21 : decode b_MA_run 21 = .ok (.iconst 0, 1) := bz_c3 (by decide +kernel)
theorem d_MA_run_22 : decode b_MA_run 22 = .ok (.putfield 83, 3) := bz_c181 (by decide +kernel)
theorem d_MA_run_25 : decode b_MA_run 25 = .ok (.iconst 0, 1) := bz_c3 (by decide +kernel)
theorem d_MA_run_26 : decode b_MA_run 26 = .ok (.istore_n 3, 1) := bz_c62 (by decide +kernel)
theorem d_MA_run_27 : decode b_MA_run 27 = .ok (.iload_n 3, 1) := bz_c29 (by decide +kernel)
theorem d_MA_run_28 : decode b_MA_run 28 = .ok (.aload_n 0, 1) := bz_c42 (by decide +kernel)
theorem d_MA_run_29 : decode b_MA_run 29 = .ok (.getfield 40, 3) := bz_c180 (by decide +kernel)
theorem d_MA_run_32 : decode b_MA_run 32 = .ok (.iload_n 1, 1) := bz_c27 (by decide +kernel)
theorem d_MA_run_33 : decode b_MA_run 33 = .ok (.invokevirtual 86, 3) := bz_c182 (by decide +kernel)
theorem d_MA_run_36 : decode b_MA_run 36 = .ok (.if_icmp .ge 38, 3) := bz_c162 (by decide +kernel)
theorem d_MA_run_39 : decode b_MA_run 39 = .ok (.aload_n 0, 1) := bz_c42 (by decide +kernel)
theorem d_MA_run_40 : decode b_MA_run 40 = .ok (.aload_n 0, 1) := bz_c42 (by decide +kernel)
theorem d_MA_run_41 : decode b_MA_run 41 = .ok (.getfield 40, 3) := bz_c180 (by decide +kernel)
theorem d_MA_run_44 : decode b_MA_run 44 = .ok (.iload_n 1, 1) := bz_c27 (by decide +kernel)
theorem d_MA_run_45 : decode b_MA_run 45 = .ok (.iload_n 3, 1) := bz_c29 (by decide +kernel)
theorem d_MA_run_46 : decode b_MA_run 46 = .ok (.invokevirtual 90, 3) := bz_c182 (by decide +kernel)
theorem d_MA_run_49 : decode b_MA_run 49 = .ok (.bipush 127, 2) := bz_c16 (by decide +kernel)
theorem d_MA_run_51 : decode b_MA_run 51 = .ok (.if_icmp .ne 11, 3) := bz_c160 (by decide +kernel)
theorem d_MA_run_54 : decode b_MA_run 54 = .ok (.aload_n 2, 1) := bz_c44 (by decide +kernel)
theorem d_MA_run_55 : decode b_MA_run 55 = .ok (.iload_n 3, 1) := bz_c29 (by decide +kernel)
theorem d_MA_run_56 : decode b_MA_run 56 = .ok (.laload, 1) := bz_c47 (by decide +kernel)
theorem d_MA_run_57 : decode b_MA_run 57 = .ok (.l2i, 1) := bz_c136 (by decide +kernel)
theorem d_MA_run_58 : decode b_MA_run 58 = .ok (.i2l, 1) := bz_c133 (by decide +kernel)
theorem d_MA_run_59 : decode b_MA_run 59 = .ok (.goto 6, 3) := bz_c167 (by decide +kernel)
theorem d_MA_run_62 : decode b_MA_run 62 = .ok (.aload_n 2, 1) := bz_c44 (by decide +kernel)
theorem d_MA_run_63 : decode b_MA_run 63 = .ok (.iload_n 3, 1) := bz_c29 (by decide +kernel)
theorem d_MA_run_64 : decode b_MA_run 64 = .ok (.laload, 1) := bz_c47 (by decide +kernel)
theorem d_MA_run_65 : decode b_MA_run 65 = .ok (.invokevirtual 94, 3) := bz_c182 (by decide +kernel)
theorem d_MA_run_68 : decode b_MA_run 68 = .ok (.iinc 3 1, 3) := by decide +kernel
theorem d_MA_run_71 : decode b_MA_run 71 = .ok (.goto (-44), 3) := bz_c167 (by decide +kernel)
theorem d_MA_run_74 : decode b_MA_run 74 = .ok (.aload_n 0, 1) := bz_c42 (by decide +kernel)
theorem d_MA_run_75 : decode b_MA_run 75 = .ok (.iload_n 1, 1) := bz_c27 (by decide +kernel)
theorem d_MA_run_76 : decode b_MA_run 76 = .ok (.invokevirtual 98, 3) := bz_c182 (by decide +kernel)
theorem d_MA_run_79 : decode b_MA_run 79 = .ok (.iconst 0, 1) := bz_c3 (by decide +kernel)
theorem d_MA_run_80 : decode b_MA_run 80 = .ok (.istore_n 3, 1) := bz_c62 (by decide +kernel)
theorem d_MA_run_81 : decode b_MA_run 81 = .ok (.iload_n 3, 1) := bz_c29 (by decide +kernel)
theorem d_MA_run_82 : decode b_MA_run 82 = .ok (.ldc 102, 2) := bz_c18 (by decide +kernel)
theorem d_MA_run_84 : decode b_MA_run 84 = .ok (.if_icmp .ge 27, 3) := bz_c162 (by decide +kernel)
theorem d_MA_run_87 : decode b_MA_run 87 = .ok (.aload_n 0, 1) := bz_c42 (by decide +kernel)
theorem d_MA_run_88 : decode b_MA_run 88 = .ok (.getfield 80, 3) := bz_c180 (by decide +kernel)
theorem d_MA_run_91 : decode b_MA_run 91 = .ok (.ifCond .le 20, 3) := bz_c158 (by decide +kernel)
theorem d_MA_run_94 : decode b_MA_run 94 = .ok (.aload_n 0, 1) := bz_c42 (by decide +kernel)
theorem d_MA_run_95 : decode b_MA_run 95 = .ok (.getfield 71, 3) := bz_c180 (by decide +kernel)
theorem d_MA_run_98 : decode b_MA_run 98 = .ok (.ifCond .ne 13, 3) := bz_c154 (by decide +kernel)
theorem d_MA_run_101 : decode b_MA_run 101 = .ok (.aload_n 0, 1) := bz_c42 (by decide +kernel)
theorem d_MA_run_102 : decode b_MA_run 102 = .ok (.invokevirtual 103, 3) := bz_c182 (by decide +kernel)
theorem d_MA_run_105 : decode b_MA_run 105 = .ok (.iinc 3 1, 3) := by decide +kernel
theorem d_MA_run_108 : decode b_MA_run 108 = .ok (.goto (-27), 3) := bz_c167 (by decide +kernel)
theorem d_MA_run_111 : decode b_MA_run 111 = .ok (.aload_n 0, 1) := bz_c42 (by decide +kernel)
theorem d_MA_run_112 : decode b_MA_run 112 = .ok (.getfield 71, 3) := bz_c180 (by decide +kernel)
theorem d_MA_run_115 : decode b_MA_run 115 = .ok (.ifCond .ne 19, 3) := bz_c154 (by decide +kernel)
theorem d_MA_run_118 : decode b_MA_run 118 = .ok (.aload_n 0, 1) := bz_c42 (by decide +kernel)
theorem d_MA_run_119 : decode b_MA_run 119 = .ok (.getfield 77, 3) := bz_c180 (by decide +kernel)
theorem d_MA_run_122 : decode b_MA_run 122 = .ok (.ifCond .le 12, 3) := bz_c158 (by decide +kernel)
theorem d_MA_run_125 : decode b_MA_run 125 = .ok (.aload_n 0, 1) := bz_c42 (by decide +kernel)
theorem d_MA_run_126 : decode b_MA_run 126 = .ok (.getfield 18, 3) := bz_c180 (by decide +kernel)
theorem d_MA_run_129 : decode b_MA_run 129 = .ok (.iconst 0, 1) := bz_c3 (by decide +kernel)
theorem d_MA_run_130 : decode b_MA_run 130 = .ok (.laload, 1) := bz_c47 (by decide +kernel)
theorem d_MA_run_131 : decode b_MA_run 131 = .ok (.goto 4, 3) := bz_c167 (by decide +kernel)
theorem d_MA_run_134 : decode b_MA_run 134 = .ok (.lconst 0, 1) := bz_c9 (by decide +kernel)
theorem d_MA_run_135 : decode b_MA_run 135 = .ok (.lreturn, 1) := bz_c173 (by decide +kernel)
theorem kM_MA_90 : Cond.methodLink R_MA 90 y_WA_localType ∈ lw_g := in_c7 99 rfl rfl
theorem kV_WA_localType : Cond.instanceMethod y_WA_localType ∈ lw_g := in_c7 21 rfl rfl
theorem kS_WA_localType : Cond.selects R_WA y_WA_localType y_WA_localType ∈ lw_g := in_c7 22 rfl rfl
theorem kM_MA_103 : Cond.methodLink R_MA 103 y_MA_step ∈ lw_g := in_c7 109 rfl rfl
theorem kV_MA_step : Cond.instanceMethod y_MA_step ∈ lw_g := in_c7 111 rfl rfl
theorem kS_MA_step : Cond.selects R_MA y_MA_step y_MA_step ∈ lw_g := in_s 101 (by decide +kernel) rfl
theorem kJ_MA_102 : Cond.constant R_MA 102 (400000) ∈ lw_g := in_c7 108 rfl rfl
abbrev at_MA_run (dC : Nat → ClassId) (dI : Nat → Nat → Nat) (h0 gl aw ac ce sk fb fs ff fl lb lh wat wap wag waf cfi clk clt cop cva cpt cel cla ar : Nat) (csk cce cgl cfb cfs cff cfl clb clh cwaf cwat cwag ccfi cclk ccop ccva ccpt ccel ccla cwap cclt car : ClassId) (law : List Value) (aw_pagesMost : Int64) (ac_length : Int32) (ac_labelCount : Int32) (gwaf : Nat → Int32) (gwat : Nat → Int32) (gwag : Nat → Int32) (gcfi : Nat → Int32) (gclk : Nat → Int32) (gcop : Nat → Int32) (gcva : Nat → Int64) (gcpt : Nat → Int32) (gcel : Nat → Int32) (gcla : Nat → Int32) (gwap : Nat → Int32) (gclt : Nat → Int32) (gar : Nat → Int64) (A : Nat → Prop) (u : (Nat → Int64) × (Nat → Int32) × (Nat → Int32) × (Nat → Int32) × (Nat → Int32) × (Nat → Int64) × (Nat → Int32) × (Nat → Int32) × (Nat → Int64) × Int32 × Int32 × Int32 × Int32 × Int32 × Int32 × Int32) (t : State) : Prop := match u with | (gce, gfb, gff, gfl, gfs, ggl, glb, glh, gsk, h0_at, h0_frameCount, h0_height, h0_labelCount, h0_pages, h0_reason, h0_steps) => va_P (dC, dI) cls (wz_43 h0 h0_pages h0_steps h0_reason gl aw ac ce sk h0_height fb fs ff fl h0_frameCount lb lh h0_labelCount h0_at aw law ac cfi clk clt ac_length cop cva cpt cel ac_labelCount cla sk csk gsk ce cce gce gl cgl ggl fb cfb gfb fs cfs gfs ff cff gff fl cfl gfl lb clb glb lh clh glh waf cwaf gwaf wat cwat gwat wag cwag gwag cfi ccfi gcfi clk cclk gclk cop ccop gcop cva ccva gcva cpt ccpt gcpt cel ccel gcel cla ccla gcla wap cwap gwap clt cclt gclt ar car gar) t.heap ∧ va_K (dC, dI) cls [(csk, .long), (cce, .long), (cgl, .long), (cfb, .int), (cfs, .int), (cff, .int), (cfl, .int), (clb, .int), (clh, .int), (cwaf, .int), (cwat, .int), (cwag, .int), (ccfi, .int), (cclk, .int), (ccop, .int), (ccva, .long), (ccpt, .int), (ccel, .int), (ccla, .int), (cwap, .int), (cclt, .int), (car, .long)] t ∧ va_D A (wz_43 h0 h0_pages h0_steps h0_reason gl aw ac ce sk h0_height fb fs ff fl h0_frameCount lb lh h0_labelCount h0_at aw law ac cfi clk clt ac_length cop cva cpt cel ac_labelCount cla sk csk gsk ce cce gce gl cgl ggl fb cfb gfb fs cfs gfs ff cff gff fl cfl gfl lb clb glb lh clh glh waf cwaf gwaf wat cwat gwat wag cwag gwag cfi ccfi gcfi clk cclk gclk cop ccop gcop cva ccva gcva cpt ccpt gcpt cel ccel gcel cla ccla gcla wap cwap gwap clt cclt gclt ar car gar)
set_option maxHeartbeats 4000000 in
set_option maxRecDepth 100000 in
theorem c_MA_run (l : Launch) (dC : Nat → ClassId) (dI : Nat → Nat → Nat) (sz : Nat) (h0 gl aw ac ce sk fb fs ff fl lb lh wat wap wag waf cfi clk clt cop cva cpt cel cla ar : Nat) (csk cce cgl cfb cfs cff cfl clb clh cwaf cwat cwag ccfi cclk ccop ccva ccpt ccel ccla cwap cclt car : ClassId) (h0_pages : Int32) (h0_steps : Int32) (h0_reason : Int32) (h0_height : Int32) (h0_frameCount : Int32) (h0_labelCount : Int32) (h0_at : Int32) (law : List Value) (aw_pagesMost : Int64) (ac_length : Int32) (ac_labelCount : Int32) (gsk : Nat → Int64) (gce : Nat → Int64) (ggl : Nat → Int64) (gfb : Nat → Int32) (gfs : Nat → Int32) (gff : Nat → Int32) (gfl : Nat → Int32) (glb : Nat → Int32) (glh : Nat → Int32) (gwaf : Nat → Int32) (gwat : Nat → Int32) (gwag : Nat → Int32) (gcfi : Nat → Int32) (gclk : Nat → Int32) (gcop : Nat → Int32) (gcva : Nat → Int64) (gcpt : Nat → Int32) (gcel : Nat → Int32) (gcla : Nat → Int32) (gwap : Nat → Int32) (gclt : Nat → Int32) (gar : Nat → Int64) (an : mc_A) (nl : Nat → Int) (gv : Nat → Int) (fc : Int) (tk : Nat → Int) (gc : Int) (paw_1 : law[1]? = some (.ref ac)) (paw_3 : law[3]? = some (.ref wat)) (paw_4 : law[4]? = some (.ref wap)) (paw_5 : law[5]? = some (.ref wag)) (paw_7 : law[7]? = some (.ref waf)) (paw_10 : law[10]? = some (.long aw_pagesMost)) (plaw : law.length = 21) (b_h0_pages : 0 ≤ h0_pages.toInt ∧ h0_pages.toInt ≤ 2) (b_h0_steps : 0 ≤ h0_steps.toInt ∧ h0_steps.toInt ≤ 100001) (b_h0_reason : 0 ≤ h0_reason.toInt ∧ h0_reason.toInt ≤ 14) (b_h0_height : 0 ≤ h0_height.toInt ∧ h0_height.toInt ≤ 12096) (b_h0_frameCount : 0 ≤ h0_frameCount.toInt ∧ h0_frameCount.toInt ≤ 100) (b_h0_labelCount : 0 ≤ h0_labelCount.toInt ∧ h0_labelCount.toInt ≤ 10000) (b_ac_length : 0 ≤ ac_length.toInt ∧ ac_length.toInt ≤ 5000) (p0 : Int32)  (hp : 0 ≤ p0.toInt ∧ p0.toInt < fc) (hfn : ∀ f : Nat, (f : Int) < fc → f < 30 ∧ 0 ≤ (gwaf f).toInt ∧ (gwaf f).toInt < 20) (hgv : ∀ f : Nat, (f : Int) < fc → gv f = if (gwag (gwaf f).toNatClampNeg).toInt = 64 then 0 else 1) (hnl : ∀ f : Nat, (f : Int) < fc → nl f = (gwat (gwaf f).toNatClampNeg).toInt + (gclk f).toInt ∧ 0 ≤ (gwat (gwaf f).toNatClampNeg).toInt ∧ (gwat (gwaf f).toNatClampNeg).toInt ≤ 8 ∧ 0 ≤ (gclk f).toInt ∧ (gclk f).toInt ≤ 60) (htk : ∀ f : Nat, (f : Int) < fc → tk f = (gwat (gwaf f).toNatClampNeg).toInt) (hfs : ∀ f : Nat, (f : Int) < fc → 0 ≤ (gcfi f).toInt ∧ an (gcfi f).toInt.toNat = some (f, [], 0)) (hgc : gc ≤ 20) (hok : ∀ (i f : Nat) (bs : List (Nat × Int)) (h : Int), an i = some (f, bs, h) → (f : Int) < fc ∧ 0 ≤ h ∧ mc_at an nl gv tk fc gc gcop gcpt gcel gcla gcva i f bs h) : Met l y_MA_run w_MA_run ({ frames := 6, cells := 0, slots := 0, locals := 154 }) (va_Pc [.ref h0, .int p0, .ref ar] (fun U => U.heap.size = sz ∧ va_P (dC, dI) cls (wz_43 h0 h0_pages h0_steps h0_reason gl aw ac ce sk h0_height fb fs ff fl h0_frameCount lb lh h0_labelCount h0_at aw law ac cfi clk clt ac_length cop cva cpt cel ac_labelCount cla sk csk gsk ce cce gce gl cgl ggl fb cfb gfb fs cfs gfs ff cff gff fl cfl gfl lb clb glb lh clh glh waf cwaf gwaf wat cwat gwat wag cwag gwag cfi ccfi gcfi clk cclk gclk cop ccop gcop cva ccva gcva cpt ccpt gcpt cel ccel gcel cla ccla gcla wap cwap gwap clt cclt gclt ar car gar) U.heap ∧ va_K (dC, dI) cls [(csk, .long), (cce, .long), (cgl, .long), (cfb, .int), (cfs, .int), (cff, .int), (cfl, .int), (clb, .int), (clh, .int), (cwaf, .int), (cwat, .int), (cwag, .int), (ccfi, .int), (cclk, .int), (ccop, .int), (ccva, .long), (ccpt, .int), (ccel, .int), (ccla, .int), (cwap, .int), (cclt, .int), (car, .long)] U ∧ va_D (fun _ => True) (wz_43 h0 h0_pages h0_steps h0_reason gl aw ac ce sk h0_height fb fs ff fl h0_frameCount lb lh h0_labelCount h0_at aw law ac cfi clk clt ac_length cop cva cpt cel ac_labelCount cla sk csk gsk ce cce gce gl cgl ggl fb cfb gfb fs cfs gfs ff cff gff fl cfl gfl lb clb glb lh clh glh waf cwaf gwaf wat cwat gwat wag cwag gwag cfi ccfi gcfi clk cclk gclk cop ccop gcop cva ccva gcva cpt ccpt gcpt cel ccel gcel cla ccla gcla wap cwap gwap clt cclt gclt ar car gar))) (va_Ql (fun (r : Int64) (u : (Nat → Int64) × (Nat → Int32) × (Nat → Int32) × (Nat → Int32) × (Nat → Int32) × (Nat → Int64) × (Nat → Int32) × (Nat → Int32) × (Nat → Int64) × Int32 × Int32 × Int32 × Int32 × Int32 × Int32 × Int32) => match u with | (gce2, gfb2, gff2, gfl2, gfs2, ggl2, glb2, glh2, gsk2, h0_at2, h0_frameCount2, h0_height2, h0_labelCount2, h0_pages2, h0_reason2, h0_steps2) => (0 ≤ h0_frameCount2.toInt ∧ h0_frameCount2.toInt ≤ 100) ∧ (0 ≤ h0_height2.toInt ∧ h0_height2.toInt ≤ 12096) ∧ (0 ≤ h0_labelCount2.toInt ∧ h0_labelCount2.toInt ≤ 10000) ∧ (0 ≤ h0_pages2.toInt ∧ h0_pages2.toInt ≤ 2) ∧ (0 ≤ h0_reason2.toInt ∧ h0_reason2.toInt ≤ 14) ∧ (0 ≤ h0_steps2.toInt ∧ h0_steps2.toInt ≤ 100001)) (at_MA_run dC dI h0 gl aw ac ce sk fb fs ff fl lb lh wat wap wag waf cfi clk clt cop cva cpt cel cla ar csk cce cgl cfb cfs cff cfl clb clh cwaf cwat cwag ccfi cclk ccop ccva ccpt ccel ccla cwap cclt car law aw_pagesMost ac_length ac_labelCount gwaf gwat gwag gcfi gclk gcop gcva gcpt gcel gcla gwap gclt gar (va_A (wz_43 h0 h0_pages h0_steps h0_reason gl aw ac ce sk h0_height fb fs ff fl h0_frameCount lb lh h0_labelCount h0_at aw law ac cfi clk clt ac_length cop cva cpt cel ac_labelCount cla sk csk gsk ce cce gce gl cgl ggl fb cfb gfb fs cfs gfs ff cff gff fl cfl gfl lb clb glb lh clh glh waf cwaf gwaf wat cwat gwat wag cwag gwag cfi ccfi gcfi clk cclk gclk cop ccop gcop cva ccva gcva cpt ccpt gcpt cel ccel gcel cla ccla gcla wap cwap gwap clt cclt gclt ar car gar) sz)) (va_A (wz_43 h0 h0_pages h0_steps h0_reason gl aw ac ce sk h0_height fb fs ff fl h0_frameCount lb lh h0_labelCount h0_at aw law ac cfi clk clt ac_length cop cva cpt cel ac_labelCount cla sk csk gsk ce cce gce gl cgl ggl fb cfb gfb fs cfs gfs ff cff gff fl cfl gfl lb clb glb lh clh glh waf cwaf gwaf wat cwat gwat wag cwag gwag cfi ccfi gcfi clk cclk gclk cop ccop gcop cva ccva gcva cpt ccpt gcpt cel ccel gcel cla ccla gcla wap cwap gwap clt cclt gclt ar car gar) sz)) 0 0 (va_A (wz_43 h0 h0_pages h0_steps h0_reason gl aw ac ce sk h0_height fb fs ff fl h0_frameCount lb lh h0_labelCount h0_at aw law ac cfi clk clt ac_length cop cva cpt cel ac_labelCount cla sk csk gsk ce cce gce gl cgl ggl fb cfb gfb fs cfs gfs ff cff gff fl cfl gfl lb clb glb lh clh glh waf cwaf gwaf wat cwat gwat wag cwag gwag cfi ccfi gcfi clk cclk gclk cop ccop gcop cva ccva gcva cpt ccpt gcpt cel ccel gcel cla ccla gcla wap cwap gwap clt cclt gclt ar car gar) sz) := by
  refine Met.ofW (cc := b_MA_run) (maxL := 4) (ret := (Option.some .long)) (by decide) rfl ?_
  intro p e s m args below meth c s₁ B hml hv
  obtain ⟨rfl, hsz, hP, hK, hD0⟩ := hv
  have hx := B.exec
  have hb := B.bytes
  have hr := B.returns
  have hts0 := atoms_spec (ws := w_MA_run) B.pre
  have hts : ∀ w ∈ lw_g, w.before _ s = true := fun w h => hts0 w (List.mem_cons_of_mem _ h)
  have hown : s.vm.findClass R_MA = some m.cls := findClass_of_methodNamed B.named
  have hlocks := B.notSynchronized
  clear hts0
  subst hsz
  have hD := hD0.self (sz := s.heap.size)
  generalize hAe : va_A (wz_43 h0 h0_pages h0_steps h0_reason gl aw ac ce sk h0_height fb fs ff fl h0_frameCount lb lh h0_labelCount h0_at aw law ac cfi clk clt ac_length cop cva cpt cel ac_labelCount cla sk csk gsk ce cce gce gl cgl ggl fb cfb gfb fs cfs gfs ff cff gff fl cfl gfl lb clb glb lh clh glh waf cwaf gwaf wat cwat gwat wag cwag gwag cfi ccfi gcfi clk cclk gclk cop ccop gcop cva ccva gcva cpt ccpt gcpt cel ccel gcel cla ccla gcla wap cwap gwap clt cclt gclt ar car gar) s.heap.size = A at hD ⊢
  have hA : ∀ q : Nat, s.heap.size ≤ q → A q := fun q h => by rw [← hAe]; exact Or.inr h
  clear hAe
  have hP : va_P (dC, dI) cls (wz_43 h0 h0_pages h0_steps h0_reason gl aw ac ce sk h0_height fb fs ff fl h0_frameCount lb lh h0_labelCount h0_at aw law ac cfi clk clt ac_length cop cva cpt cel ac_labelCount cla sk csk gsk ce cce gce gl cgl ggl fb cfb gfb fs cfs gfs ff cff gff fl cfl gfl lb clb glb lh clh glh waf cwaf gwaf wat cwat gwat wag cwag gwag cfi ccfi gcfi clk cclk gclk cop ccop gcop cva ccva gcva cpt ccpt gcpt cel ccel gcel cla ccla gcla wap cwap gwap clt cclt gclt ar car gar) s.heap := hP
  have hl := lv_entry ([.ref h0, .int p0, .ref ar]) (n := 4) (Nat.le_of_ble_eq_true rfl)
  rw [lg_entry_eq]
  generalize (lg_sl ([.ref h0, .int p0, .ref ar]) ++ List.replicate (4 - (lg_sl ([.ref h0, .int p0, .ref ar])).length) Slot.unset).toArray = ls at hl ⊢
  have hl : lv_has ls 4 [(0, .ref h0), (1, .int p0), (2, .ref ar)] := hl
  have k0 : (0 : Int32).toInt = 0 := by decide
  refine w_gen (A := A) hP (fun H locs hP hS => ?_)
  have k1 : (1 : Int32).toInt = 1 := by decide
  have k127 : (127 : Int32).toInt = 127 := by decide
  have lo_p0 := i32_lo p0
  have hi_p0 := i32_hi p0
  have hc9 := i32_clamp (x := p0) (by (first | (apply Int.le_antisymm <;> omega) | omega))
  have hfn9 := hfn p0.toNatClampNeg (by (first | (apply Int.le_antisymm <;> omega) | omega))
  have hnl9 := hnl p0.toNatClampNeg (by (first | (apply Int.le_antisymm <;> omega) | omega))
  refine lv_aload_n hx hb d_MA_run_0 rfl (lv_at hl 0 rfl) ?_
  refine lv_iconst (v := 0) hx hb d_MA_run_1 (by decide) ?_
  refine va_put (D := (dC, dI)) (ci := 4) (v := .int 0) (ty := .int) (C := R_MA) (T := F_MA) (N := 18) hx hb hts i_MA t_MA t_MA_ok n_MA hown hK hP hD hS 0 rfl rfl 2 (by decide) (hts _ kF_MA_71) (fun _ h9 => h9) rfl (by decide +kernel) rfl rfl (Nat.le_of_ble_eq_true rfl) d_MA_run_2 (fun H locs hP hD hS => ?_)
  refine lv_aload_n hx hb d_MA_run_5 rfl (lv_at hl 0 rfl) ?_
  refine lv_iconst (v := 0) hx hb d_MA_run_6 (by decide) ?_
  refine va_put (D := (dC, dI)) (ci := 4) (v := .int 0) (ty := .int) (C := R_MA) (T := F_MA) (N := 18) hx hb hts i_MA t_MA t_MA_ok n_MA hown hK hP hD hS 0 rfl rfl 1 (by decide) (hts _ kF_MA_74) (fun _ h9 => h9) rfl (by decide +kernel) rfl rfl (Nat.le_of_ble_eq_true rfl) d_MA_run_7 (fun H locs hP hD hS => ?_)
  refine lv_aload_n hx hb d_MA_run_10 rfl (lv_at hl 0 rfl) ?_
  refine lv_iconst (v := 0) hx hb d_MA_run_11 (by decide) ?_
  refine va_put (D := (dC, dI)) (ci := 4) (v := .int 0) (ty := .int) (C := R_MA) (T := F_MA) (N := 18) hx hb hts i_MA t_MA t_MA_ok n_MA hown hK hP hD hS 0 rfl rfl 8 (by decide) (hts _ kF_MA_77) (fun _ h9 => h9) rfl (by decide +kernel) rfl rfl (Nat.le_of_ble_eq_true rfl) d_MA_run_12 (fun H locs hP hD hS => ?_)
  refine lv_aload_n hx hb d_MA_run_15 rfl (lv_at hl 0 rfl) ?_
  refine lv_iconst (v := 0) hx hb d_MA_run_16 (by decide) ?_
  refine va_put (D := (dC, dI)) (ci := 4) (v := .int 0) (ty := .int) (C := R_MA) (T := F_MA) (N := 18) hx hb hts i_MA t_MA t_MA_ok n_MA hown hK hP hD hS 0 rfl rfl 13 (by decide) (hts _ kF_MA_80) (fun _ h9 => h9) rfl (by decide +kernel) rfl rfl (Nat.le_of_ble_eq_true rfl) d_MA_run_17 (fun H locs hP hD hS => ?_)
  refine lv_aload_n hx hb d_MA_run_20 rfl (lv_at hl 0 rfl) ?_
  refine lv_iconst (v := 0) hx hb d_MA_run_21 (by decide) ?_
  refine va_put (D := (dC, dI)) (ci := 4) (v := .int 0) (ty := .int) (C := R_MA) (T := F_MA) (N := 18) hx hb hts i_MA t_MA t_MA_ok n_MA hown hK hP hD hS 0 rfl rfl 16 (by decide) (hts _ kF_MA_83) (fun _ h9 => h9) rfl (by decide +kernel) rfl rfl (Nat.le_of_ble_eq_true rfl) d_MA_run_22 (fun H locs hP hD hS => ?_)
  refine lv_iconst (v := 0) hx hb d_MA_run_25 (by decide) ?_
  refine lv_istore_n (lv' := [(3, .int 0), (0, .ref h0), (1, .int p0), (2, .ref ar)]) hx hb d_MA_run_26 rfl hl (by decide) rfl (fun ls hl => ?_)
  refine w_loop (σ := Int32 × (Nat → Int64) × Int32 × Int32) (fun u H locs ls => match u with | (j27_l3, j27_sk, j27_h0_height, j27_h0_reason) => (0 ≤ j27_l3.toInt ∧ j27_l3.toInt ≤ 8) ∧ (0 ≤ j27_h0_height.toInt ∧ j27_h0_height.toInt ≤ 12096) ∧ (0 ≤ j27_h0_reason.toInt ∧ j27_h0_reason.toInt ≤ 14) ∧ (j27_h0_height.toInt = j27_l3.toInt ∧ j27_h0_reason.toInt = 0 ∧ j27_l3.toInt ≤ (gwat (gwaf p0.toNatClampNeg).toNatClampNeg).toInt) ∧ va_P (dC, dI) cls (wz_43 h0 h0_pages 0 j27_h0_reason gl aw ac ce sk j27_h0_height fb fs ff fl 0 lb lh 0 h0_at aw law ac cfi clk clt ac_length cop cva cpt cel ac_labelCount cla sk csk j27_sk ce cce gce gl cgl ggl fb cfb gfb fs cfs gfs ff cff gff fl cfl gfl lb clb glb lh clh glh waf cwaf gwaf wat cwat gwat wag cwag gwag cfi ccfi gcfi clk cclk gclk cop ccop gcop cva ccva gcva cpt ccpt gcpt cel ccel gcel cla ccla gcla wap cwap gwap clt cclt gclt ar car gar) H ∧ va_D A (wz_43 h0 h0_pages 0 j27_h0_reason gl aw ac ce sk j27_h0_height fb fs ff fl 0 lb lh 0 h0_at aw law ac cfi clk clt ac_length cop cva cpt cel ac_labelCount cla sk csk j27_sk ce cce gce gl cgl ggl fb cfb gfb fs cfs gfs ff cff gff fl cfl gfl lb clb glb lh clh glh waf cwaf gwaf wat cwat gwat wag cwag gwag cfi ccfi gcfi clk cclk gclk cop ccop gcop cva ccva gcva cpt ccpt gcpt cel ccel gcel cla ccla gcla wap cwap gwap clt cclt gclt ar car gar) ∧ va_S A s.heap H locs ∧ lv_has ls 4 [(0, .ref h0), (1, .int p0), (2, .ref ar), (3, .int j27_l3)]) (fun u => match u with | (j27_l3, j27_sk, j27_h0_height, j27_h0_reason) => ((gwat (gwaf p0.toNatClampNeg).toNatClampNeg).toInt - j27_l3.toInt).toNat) ?_ (0, gsk, 0, 0) ⟨by (try dsimp only); (first | (apply Int.le_antisymm <;> omega) | omega), by (try dsimp only); (first | (apply Int.le_antisymm <;> omega) | omega), by (try dsimp only); (first | (apply Int.le_antisymm <;> omega) | omega), by (try dsimp only); (first | (apply Int.le_antisymm <;> omega) | omega), hP, hD, hS, lv_sub hl [1, 2, 3, 0] rfl⟩
  intro N27 ih27 u H locs ls hN27 hI
  obtain ⟨j27_l3, j27_sk, j27_h0_height, j27_h0_reason⟩ := u
  obtain ⟨b_j27_l3, b_j27_h0_height, b_j27_h0_reason, v1, hP, hD, hS, hl⟩ := hI
  have hN27 : ((gwat (gwaf p0.toNatClampNeg).toNatClampNeg).toInt - j27_l3.toInt).toNat < N27 + 1 := hN27
  refine lv_iload_n hx hb d_MA_run_27 rfl (lv_at hl 3 rfl) ?_
  refine lv_aload_n hx hb d_MA_run_28 rfl (lv_at hl 0 rfl) ?_
  refine va_get (D := (dC, dI)) (ci := 4) (v := .ref aw) (C := R_MA) (T := F_MA) (N := 18) hx hb hts i_MA hown hK hP 0 rfl rfl 4 (by decide) (hts _ kF_MA_40) (fun _ h9 => h9) rfl d_MA_run_29 ?_
  refine lv_iload_n hx hb d_MA_run_32 rfl (lv_at hl 1 rfl) ?_
  have hPc := hP.sb (wq := (wz_16 aw law waf cwaf gwaf wat cwat gwat)) [1, 12, 13] rfl
  have hDc := hD.sb (wq := (wz_16 aw law waf cwaf gwaf wat cwat gwat)) [1, 12, 13] (by decide) rfl
  have hKc := hK.sb (tyq := [(cwaf, .int), (cwat, .int)]) [9, 10] rfl
  have hFc := va_free (wc := (wz_16 aw law waf cwaf gwaf wat cwat gwat)) hD hS hA [1, 12, 13] rfl
  refine va_calli (va_runV (As := [.int p0]) (rest := [.int j27_l3]) ⟨hx, hb, hml, hown, hts⟩ (c_WA_takes l dC dI aw waf wat H.size cwaf cwat gwaf gwat law paw_7 paw_3 plaw p0 (by (first | (apply Int.le_antisymm <;> omega) | omega)) (by (first | (apply Int.le_antisymm <;> omega) | omega))) (cwV 1 hts (gV kM_MA_86 kV_WA_takes kS_WA_takes kI_WA kC_WA_takes) rfl rfl rfl (by decide +kernel) ⟨Nat.le_of_ble_eq_true rfl, Nat.le_of_ble_eq_true rfl⟩) ⟨fun a U g mk z => by obtain ⟨z0, z1, zP, zK, zD⟩ := z; exact ⟨z0, z1, zP, va_K.moved (u := U) (U := U.calling g mk a) (Vm.Alike.refl U.vm) zK, zD⟩, va_recv hKc hPc (ci := 10) (q0 := 0) rfl rfl, fun U hU hW => ⟨rfl, by rw [hU], va_P.he hU.symm hPc, va_K.moved hW.alike hKc, hDc.weaken (fun _ _ _ _ => trivial)⟩⟩ rfl rfl hl.1 rfl (lv_room (Nat.le_of_ble_eq_true rfl)) d_MA_run_33 ⟨(Nat.zero_le _), (Nat.zero_le _)⟩) hS (fun q _ h => hFc q h) hFc (fun r1 u t H1 locs ht hvm hw hB hz1 hk1 hS => ?_)
  try dsimp only at hw
  have er1 := hw
  try clear hw
  have tr1 : r1.toInt = (gwat (gwaf p0.toNatClampNeg).toNatClampNeg).toInt := by rw [er1]
  obtain ⟨hP1, hK1, hD1⟩ := hB
  replace hP1 := va_P.he ht hP1
  obtain ⟨hP, hD⟩ := va_join (wr := [(h0, .inr (4, [.int h0_pages, .int 0, .int j27_h0_reason, .ref gl, .ref aw, .ref ac, .ref ce, .ref sk, .int j27_h0_height, .ref fb, .ref fs, .ref ff, .ref fl, .int 0, .ref lb, .ref lh, .int 0, .int h0_at])), (ac, .inr (3, [.ref cfi, .ref clk, .ref clt, .int ac_length, .ref cop, .ref cva, .ref cpt, .ref cel, .int ac_labelCount, .ref cla])), (sk, .inl (csk, 12096, .inr (.inl j27_sk))), (ce, .inl (cce, 16384, .inr (.inl gce))), (gl, .inl (cgl, 20, .inr (.inl ggl))), (fb, .inl (cfb, 100, .inl gfb)), (fs, .inl (cfs, 100, .inl gfs)), (ff, .inl (cff, 100, .inl gff)), (fl, .inl (cfl, 100, .inl gfl)), (lb, .inl (clb, 10000, .inl glb)), (lh, .inl (clh, 10000, .inl glh)), (wag, .inl (cwag, 20, .inl gwag)), (cfi, .inl (ccfi, 31, .inl gcfi)), (clk, .inl (cclk, 30, .inl gclk)), (cop, .inl (ccop, 5000, .inl gcop)), (cva, .inl (ccva, 5000, .inr (.inl gcva))), (cpt, .inl (ccpt, 5000, .inl gcpt)), (cel, .inl (ccel, 5000, .inl gcel)), (cla, .inl (ccla, 2000, .inl gcla)), (wap, .inl (cwap, 160, .inl gwap)), (clt, .inl (cclt, 1800, .inl gclt)), (ar, .inl (car, 8, .inr (.inl gar)))]) (w1 := (wz_16 aw law waf cwaf gwaf wat cwat gwat)) hP hD [1, 12, 13] [0, 2, 3, 4, 5, 6, 7, 8, 9, 10, 11, 14, 15, 16, 17, 18, 19, 20, 21, 22, 23, 24] rfl rfl (by decide) (by decide) hk1 hFc hP1 hD1
  clear hPc hDc hKc hFc hz1 hk1 hP1 hK1 hD1
  rename Heap => H
  have hP : va_P (dC, dI) cls [(h0, .inr (4, [.int h0_pages, .int 0, .int j27_h0_reason, .ref gl, .ref aw, .ref ac, .ref ce, .ref sk, .int j27_h0_height, .ref fb, .ref fs, .ref ff, .ref fl, .int 0, .ref lb, .ref lh, .int 0, .int h0_at])), (ac, .inr (3, [.ref cfi, .ref clk, .ref clt, .int ac_length, .ref cop, .ref cva, .ref cpt, .ref cel, .int ac_labelCount, .ref cla])), (sk, .inl (csk, 12096, .inr (.inl j27_sk))), (ce, .inl (cce, 16384, .inr (.inl gce))), (gl, .inl (cgl, 20, .inr (.inl ggl))), (fb, .inl (cfb, 100, .inl gfb)), (fs, .inl (cfs, 100, .inl gfs)), (ff, .inl (cff, 100, .inl gff)), (fl, .inl (cfl, 100, .inl gfl)), (lb, .inl (clb, 10000, .inl glb)), (lh, .inl (clh, 10000, .inl glh)), (wag, .inl (cwag, 20, .inl gwag)), (cfi, .inl (ccfi, 31, .inl gcfi)), (clk, .inl (cclk, 30, .inl gclk)), (cop, .inl (ccop, 5000, .inl gcop)), (cva, .inl (ccva, 5000, .inr (.inl gcva))), (cpt, .inl (ccpt, 5000, .inl gcpt)), (cel, .inl (ccel, 5000, .inl gcel)), (cla, .inl (ccla, 2000, .inl gcla)), (wap, .inl (cwap, 160, .inl gwap)), (clt, .inl (cclt, 1800, .inl gclt)), (ar, .inl (car, 8, .inr (.inl gar))), (aw, .inr (10, law)), (waf, .inl (cwaf, 30, .inl gwaf)), (wat, .inl (cwat, 20, .inl gwat))] H := hP
  have hD : va_D A [(h0, .inr (4, [.int h0_pages, .int 0, .int j27_h0_reason, .ref gl, .ref aw, .ref ac, .ref ce, .ref sk, .int j27_h0_height, .ref fb, .ref fs, .ref ff, .ref fl, .int 0, .ref lb, .ref lh, .int 0, .int h0_at])), (ac, .inr (3, [.ref cfi, .ref clk, .ref clt, .int ac_length, .ref cop, .ref cva, .ref cpt, .ref cel, .int ac_labelCount, .ref cla])), (sk, .inl (csk, 12096, .inr (.inl j27_sk))), (ce, .inl (cce, 16384, .inr (.inl gce))), (gl, .inl (cgl, 20, .inr (.inl ggl))), (fb, .inl (cfb, 100, .inl gfb)), (fs, .inl (cfs, 100, .inl gfs)), (ff, .inl (cff, 100, .inl gff)), (fl, .inl (cfl, 100, .inl gfl)), (lb, .inl (clb, 10000, .inl glb)), (lh, .inl (clh, 10000, .inl glh)), (wag, .inl (cwag, 20, .inl gwag)), (cfi, .inl (ccfi, 31, .inl gcfi)), (clk, .inl (cclk, 30, .inl gclk)), (cop, .inl (ccop, 5000, .inl gcop)), (cva, .inl (ccva, 5000, .inr (.inl gcva))), (cpt, .inl (ccpt, 5000, .inl gcpt)), (cel, .inl (ccel, 5000, .inl gcel)), (cla, .inl (ccla, 2000, .inl gcla)), (wap, .inl (cwap, 160, .inl gwap)), (clt, .inl (cclt, 1800, .inl gclt)), (ar, .inl (car, 8, .inr (.inl gar))), (aw, .inr (10, law)), (waf, .inl (cwaf, 30, .inl gwaf)), (wat, .inl (cwat, 20, .inl gwat))] := hD
  refine lv_icmp_ge (tgt := 74) hx hb d_MA_run_36 (by decide) (fun c36 => ?_) (fun c36 => ?_)
  · have q36 := leI c36
    refine lv_aload_n hx hb d_MA_run_74 rfl (lv_at hl 0 rfl) ?_
    refine lv_iload_n hx hb d_MA_run_75 rfl (lv_at hl 1 rfl) ?_
    have hPc := hP.sb (wq := (wz_27 h0 h0_pages 0 j27_h0_reason gl aw ac ce sk j27_h0_height fb fs ff fl 0 lb lh 0 h0_at aw law ac cfi clk clt ac_length cop cva cpt cel ac_labelCount cla sk csk j27_sk fb cfb gfb fs cfs gfs ff cff gff fl cfl gfl waf cwaf gwaf wat cwat gwat cfi ccfi gcfi clk cclk gclk)) [0, 22, 1, 2, 5, 6, 7, 8, 23, 24, 12, 13] rfl
    have hDc := hD.sb (wq := (wz_27 h0 h0_pages 0 j27_h0_reason gl aw ac ce sk j27_h0_height fb fs ff fl 0 lb lh 0 h0_at aw law ac cfi clk clt ac_length cop cva cpt cel ac_labelCount cla sk csk j27_sk fb cfb gfb fs cfs gfs ff cff gff fl cfl gfl waf cwaf gwaf wat cwat gwat cfi ccfi gcfi clk cclk gclk)) [0, 22, 1, 2, 5, 6, 7, 8, 23, 24, 12, 13] (by decide) rfl
    have hKc := hK.sb (tyq := [(csk, .long), (cfb, .int), (cfs, .int), (cff, .int), (cfl, .int), (cwaf, .int), (cwat, .int), (ccfi, .int), (cclk, .int)]) [0, 3, 4, 5, 6, 9, 10, 12, 13] rfl
    have hFc := va_free (wc := (wz_27 h0 h0_pages 0 j27_h0_reason gl aw ac ce sk j27_h0_height fb fs ff fl 0 lb lh 0 h0_at aw law ac cfi clk clt ac_length cop cva cpt cel ac_labelCount cla sk csk j27_sk fb cfb gfb fs cfs gfs ff cff gff fl cfl gfl waf cwaf gwaf wat cwat gwat cfi ccfi gcfi clk cclk gclk)) hD hS hA [0, 22, 1, 2, 5, 6, 7, 8, 23, 24, 12, 13] rfl
    refine va_callv (va_runV (As := [.int p0]) (rest := []) ⟨hx, hb, hml, hown, hts⟩ (c_MA_enter l dC dI H.size h0 gl aw ac ce sk fb fs ff fl lb lh wat waf cfi clk clt cop cva cpt cel cla csk cfb cfs cff cfl cwaf cwat ccfi cclk h0_pages 0 j27_h0_reason j27_h0_height 0 0 h0_at law ac_length ac_labelCount j27_sk gfb gfs gff gfl gwaf gwat gcfi gclk fc nl paw_1 paw_3 paw_7 plaw (b_j27_h0_reason) (b_j27_h0_height) (by (try dsimp only); (first | (apply Int.le_antisymm <;> omega) | omega)) (by (try dsimp only); (first | (apply Int.le_antisymm <;> omega) | omega)) p0 (by (first | (apply Int.le_antisymm <;> omega) | omega)) (hp) (hfn) (hnl)) (cwV 1 hts (gV kM_MA_98 kV_MA_enter kS_MA_enter kI_MA kC_MA_enter) rfl rfl rfl (by decide +kernel) ⟨Nat.le_of_ble_eq_true rfl, Nat.le_of_ble_eq_true rfl⟩) ⟨fun a U g mk z => by obtain ⟨z0, z1, zP, zK, zD⟩ := z; exact ⟨z0, z1, zP, va_K.moved (u := U) (U := U.calling g mk a) (Vm.Alike.refl U.vm) zK, zD⟩, va_recv hKc hPc (ci := 4) (q0 := 0) rfl rfl, fun U hU hW => ⟨rfl, by rw [hU], va_P.he hU.symm hPc, va_K.moved hW.alike hKc, hDc.weaken (fun _ _ _ _ => trivial)⟩⟩ rfl rfl hl.1 rfl (lv_room (Nat.le_of_ble_eq_true rfl)) d_MA_run_76 ⟨(Nat.zero_le _), (Nat.zero_le _)⟩) hS (fun q _ h => hFc q h) hFc (fun u t H1 locs ht hvm hw hB hz1 hk1 hS => ?_)
    obtain ⟨n3, n4, n5, n6, n7, n8, n9, n10, n11⟩ := u
    try dsimp only at hw
    obtain ⟨bn9, bn10, bn11, xr2⟩ := hw
    try clear hw
    have pf_run : mc_after an nl gv n3 n6 n4 n5 glb glh n11 n9 n8 n10 0 := by
      by_cases z : n11.toInt = 0
      · obtain ⟨w1, w2, w3, w4, w5, w6, w7, w8, w9⟩ := xr2 z
        have kk : (0 : Int32).toNatClampNeg = 0 := by decide
        rw [kk] at w4 w5 w6 w9
        have T9 : mc_tp an nl gv (upd gfb 0 h0_at) (upd gfs 0 w7) (upd gff 0 p0) (upd gfl 0 0) glb glh 0 p0.toNatClampNeg [] 0 := mc_tp.first (by (first | (apply Int.le_antisymm <;> omega) | omega)) (by (first | (apply Int.le_antisymm <;> omega) | omega)) (by decide)
        rw [← w4, ← w5, ← w6, ← w9] at T9
        have fs9 := hfs p0.toNatClampNeg (by (first | (apply Int.le_antisymm <;> omega) | omega))
        refine mc_go T9 (h := 0) (by (first | (apply Int.le_antisymm <;> omega) | omega)) (by rw [w3]; exact fs9.1) (by rw [w3]; exact fs9.2) (fun _ => ?_) (by decide)
        rw [w9, pk_us]
        (first | (apply Int.le_antisymm <;> omega) | omega)
      · exact Or.inl z
    obtain ⟨hP1, hK1, hD1⟩ := hB
    replace hP1 := va_P.he ht hP1
    obtain ⟨hP, hD⟩ := va_join (wr := [(ce, .inl (cce, 16384, .inr (.inl gce))), (gl, .inl (cgl, 20, .inr (.inl ggl))), (lb, .inl (clb, 10000, .inl glb)), (lh, .inl (clh, 10000, .inl glh)), (wag, .inl (cwag, 20, .inl gwag)), (cop, .inl (ccop, 5000, .inl gcop)), (cva, .inl (ccva, 5000, .inr (.inl gcva))), (cpt, .inl (ccpt, 5000, .inl gcpt)), (cel, .inl (ccel, 5000, .inl gcel)), (cla, .inl (ccla, 2000, .inl gcla)), (wap, .inl (cwap, 160, .inl gwap)), (clt, .inl (cclt, 1800, .inl gclt)), (ar, .inl (car, 8, .inr (.inl gar)))]) (w1 := (wz_27 h0 h0_pages 0 n11 gl aw ac ce sk n10 fb fs ff fl n9 lb lh 0 n8 aw law ac cfi clk clt ac_length cop cva cpt cel ac_labelCount cla sk csk n7 fb cfb n3 fs cfs n6 ff cff n4 fl cfl n5 waf cwaf gwaf wat cwat gwat cfi ccfi gcfi clk cclk gclk)) hP hD [0, 22, 1, 2, 5, 6, 7, 8, 23, 24, 12, 13] [3, 4, 9, 10, 11, 14, 15, 16, 17, 18, 19, 20, 21] rfl rfl (by decide) (by decide) hk1 hFc hP1 hD1
    clear hPc hDc hKc hFc hz1 hk1 hP1 hK1 hD1
    rename Heap => H
    have hP : va_P (dC, dI) cls (wz_44 ce cce gce gl cgl ggl lb clb glb lh clh glh wag cwag gwag cop ccop gcop cva ccva gcva cpt ccpt gcpt cel ccel gcel cla ccla gcla wap cwap gwap clt cclt gclt ar car gar h0 h0_pages 0 n11 gl aw ac ce sk n10 fb fs ff fl n9 lb lh 0 n8 aw law ac cfi clk clt ac_length cop cva cpt cel ac_labelCount cla sk csk n7 fb cfb n3 fs cfs n6 ff cff n4 fl cfl n5 waf cwaf gwaf wat cwat gwat cfi ccfi gcfi clk cclk gclk) H := hP
    have hD : va_D A (wz_44 ce cce gce gl cgl ggl lb clb glb lh clh glh wag cwag gwag cop ccop gcop cva ccva gcva cpt ccpt gcpt cel ccel gcel cla ccla gcla wap cwap gwap clt cclt gclt ar car gar h0 h0_pages 0 n11 gl aw ac ce sk n10 fb fs ff fl n9 lb lh 0 n8 aw law ac cfi clk clt ac_length cop cva cpt cel ac_labelCount cla sk csk n7 fb cfb n3 fs cfs n6 ff cff n4 fl cfl n5 waf cwaf gwaf wat cwat gwat cfi ccfi gcfi clk cclk gclk) := hD
    refine lv_iconst (v := 0) hx hb d_MA_run_79 (by decide) ?_
    refine lv_istore_n (lv' := [(3, .int 0), (0, .ref h0), (1, .int p0), (2, .ref ar)]) hx hb d_MA_run_80 rfl hl (by decide) rfl (fun ls hl => ?_)
    refine w_loop (σ := Int32 × (Nat → Int64) × (Nat → Int32) × (Nat → Int32) × (Nat → Int32) × (Nat → Int32) × (Nat → Int64) × (Nat → Int32) × (Nat → Int32) × (Nat → Int64) × Int32 × Int32 × Int32 × Int32 × Int32 × Int32 × Int32) (fun u H locs ls => match u with | (j81_l3, j81_ce, j81_fb, j81_ff, j81_fl, j81_fs, j81_gl, j81_lb, j81_lh, j81_sk, j81_h0_at, j81_h0_frameCount, j81_h0_height, j81_h0_labelCount, j81_h0_pages, j81_h0_reason, j81_h0_steps) => (0 ≤ j81_l3.toInt ∧ j81_l3.toInt ≤ 400000) ∧ (0 ≤ j81_h0_frameCount.toInt ∧ j81_h0_frameCount.toInt ≤ 100) ∧ (0 ≤ j81_h0_height.toInt ∧ j81_h0_height.toInt ≤ 12096) ∧ (0 ≤ j81_h0_labelCount.toInt ∧ j81_h0_labelCount.toInt ≤ 10000) ∧ (0 ≤ j81_h0_pages.toInt ∧ j81_h0_pages.toInt ≤ 2) ∧ (0 ≤ j81_h0_reason.toInt ∧ j81_h0_reason.toInt ≤ 14) ∧ (0 ≤ j81_h0_steps.toInt ∧ j81_h0_steps.toInt ≤ 100001) ∧ (mc_after an nl gv j81_fb j81_fs j81_ff j81_fl j81_lb j81_lh j81_h0_reason j81_h0_frameCount j81_h0_at j81_h0_height j81_h0_labelCount) ∧ (j81_h0_reason.toInt = 0 → j81_h0_steps.toInt ≤ 100000) ∧ va_P (dC, dI) cls (wz_44 ce cce j81_ce gl cgl j81_gl lb clb j81_lb lh clh j81_lh wag cwag gwag cop ccop gcop cva ccva gcva cpt ccpt gcpt cel ccel gcel cla ccla gcla wap cwap gwap clt cclt gclt ar car gar h0 j81_h0_pages j81_h0_steps j81_h0_reason gl aw ac ce sk j81_h0_height fb fs ff fl j81_h0_frameCount lb lh j81_h0_labelCount j81_h0_at aw law ac cfi clk clt ac_length cop cva cpt cel ac_labelCount cla sk csk j81_sk fb cfb j81_fb fs cfs j81_fs ff cff j81_ff fl cfl j81_fl waf cwaf gwaf wat cwat gwat cfi ccfi gcfi clk cclk gclk) H ∧ va_D A (wz_44 ce cce j81_ce gl cgl j81_gl lb clb j81_lb lh clh j81_lh wag cwag gwag cop ccop gcop cva ccva gcva cpt ccpt gcpt cel ccel gcel cla ccla gcla wap cwap gwap clt cclt gclt ar car gar h0 j81_h0_pages j81_h0_steps j81_h0_reason gl aw ac ce sk j81_h0_height fb fs ff fl j81_h0_frameCount lb lh j81_h0_labelCount j81_h0_at aw law ac cfi clk clt ac_length cop cva cpt cel ac_labelCount cla sk csk j81_sk fb cfb j81_fb fs cfs j81_fs ff cff j81_ff fl cfl j81_fl waf cwaf gwaf wat cwat gwat cfi ccfi gcfi clk cclk gclk) ∧ va_S A s.heap H locs ∧ lv_has ls 4 [(0, .ref h0), (3, .int j81_l3)]) (fun u => match u with | (j81_l3, j81_ce, j81_fb, j81_ff, j81_fl, j81_fs, j81_gl, j81_lb, j81_lh, j81_sk, j81_h0_at, j81_h0_frameCount, j81_h0_height, j81_h0_labelCount, j81_h0_pages, j81_h0_reason, j81_h0_steps) => (400000 - j81_l3.toInt).toNat) ?_ (0, gce, n3, n4, n5, n6, ggl, glb, glh, n7, n8, n9, n10, 0, h0_pages, n11, 0) ⟨by (try dsimp only); (first | (apply Int.le_antisymm <;> omega) | omega), bn9, bn10, by (try dsimp only); (first | (apply Int.le_antisymm <;> omega) | omega), b_h0_pages, bn11, by (try dsimp only); (first | (apply Int.le_antisymm <;> omega) | omega), pf_run, fun z => by (try dsimp only); (first | (apply Int.le_antisymm <;> omega) | omega), hP, hD, hS, lv_sub hl [1, 0] rfl⟩
    intro N81 ih81 u H locs ls hN81 hI
    obtain ⟨j81_l3, j81_ce, j81_fb, j81_ff, j81_fl, j81_fs, j81_gl, j81_lb, j81_lh, j81_sk, hq9r⟩ := u
    obtain ⟨j81_h0_at, j81_h0_frameCount, j81_h0_height, j81_h0_labelCount, j81_h0_pages, j81_h0_reason, j81_h0_steps⟩ := hq9r
    obtain ⟨b_j81_l3, b_j81_h0_frameCount, b_j81_h0_height, b_j81_h0_labelCount, b_j81_h0_pages, b_j81_h0_reason, b_j81_h0_steps, v2, v3, hP, hD, hS, hl⟩ := hI
    have hN81 : (400000 - j81_l3.toInt).toNat < N81 + 1 := hN81
    refine lv_iload_n hx hb d_MA_run_81 rfl (lv_at hl 1 rfl) ?_
    refine lv_ldc hx hb hown (hts _ kJ_MA_102) d_MA_run_82 ?_
    refine lv_topi (fun x12 ex12 => ?_)
    have tx12 : x12.toInt = 400000 := by rw [ex12]; decide
    refine w_cut (pc2 := 111) (σ := Unit) (fun u H locs ls => match u with | _ => va_P (dC, dI) cls (wz_44 ce cce j81_ce gl cgl j81_gl lb clb j81_lb lh clh j81_lh wag cwag gwag cop ccop gcop cva ccva gcva cpt ccpt gcpt cel ccel gcel cla ccla gcla wap cwap gwap clt cclt gclt ar car gar h0 j81_h0_pages j81_h0_steps j81_h0_reason gl aw ac ce sk j81_h0_height fb fs ff fl j81_h0_frameCount lb lh j81_h0_labelCount j81_h0_at aw law ac cfi clk clt ac_length cop cva cpt cel ac_labelCount cla sk csk j81_sk fb cfb j81_fb fs cfs j81_fs ff cff j81_ff fl cfl j81_fl waf cwaf gwaf wat cwat gwat cfi ccfi gcfi clk cclk gclk) H ∧ va_D A (wz_44 ce cce j81_ce gl cgl j81_gl lb clb j81_lb lh clh j81_lh wag cwag gwag cop ccop gcop cva ccva gcva cpt ccpt gcpt cel ccel gcel cla ccla gcla wap cwap gwap clt cclt gclt ar car gar h0 j81_h0_pages j81_h0_steps j81_h0_reason gl aw ac ce sk j81_h0_height fb fs ff fl j81_h0_frameCount lb lh j81_h0_labelCount j81_h0_at aw law ac cfi clk clt ac_length cop cva cpt cel ac_labelCount cla sk csk j81_sk fb cfb j81_fb fs cfs j81_fs ff cff j81_ff fl cfl j81_fl waf cwaf gwaf wat cwat gwat cfi ccfi gcfi clk cclk gclk) ∧ va_S A s.heap H locs ∧ lv_has ls 4 [(0, .ref h0)]) (fun u => match u with | _ => []) ?_ (fun jn111 => ?_)
    · intro u H locs ls hI
      obtain ⟨hP, hD, hS, hl⟩ := hI
      refine lv_aload_n hx hb d_MA_run_111 rfl (lv_at hl 0 rfl) ?_
      refine va_get (D := (dC, dI)) (ci := 4) (v := .int j81_h0_reason) (C := R_MA) (T := F_MA) (N := 18) hx hb hts i_MA hown hK hP 13 rfl rfl 2 (by decide) (hts _ kF_MA_71) (fun _ h9 => h9) rfl d_MA_run_112 ?_
      refine lv_if_ne (tgt := 134) hx hb d_MA_run_115 (by decide) (fun c115 => ?_) (fun c115 => ?_)
      · have q115 := neI c115
        refine lv_lconst (v := 0) hx hb d_MA_run_134 (by decide) ?_
        have kl0 : (0 : Int64).toInt = 0 := by decide
        have hP9 := hP.sb (wq := (wz_43 h0 j81_h0_pages j81_h0_steps j81_h0_reason gl aw ac ce sk j81_h0_height fb fs ff fl j81_h0_frameCount lb lh j81_h0_labelCount j81_h0_at aw law ac cfi clk clt ac_length cop cva cpt cel ac_labelCount cla sk csk j81_sk ce cce j81_ce gl cgl j81_gl fb cfb j81_fb fs cfs j81_fs ff cff j81_ff fl cfl j81_fl lb clb j81_lb lh clh j81_lh waf cwaf gwaf wat cwat gwat wag cwag gwag cfi ccfi gcfi clk cclk gclk cop ccop gcop cva ccva gcva cpt ccpt gcpt cel ccel gcel cla ccla gcla wap cwap gwap clt cclt gclt ar car gar)) [13, 14, 15, 16, 0, 1, 17, 18, 19, 20, 2, 3, 21, 22, 4, 23, 24, 5, 6, 7, 8, 9, 10, 11, 12] rfl
        have hD9 := hD.sb (wq := (wz_43 h0 j81_h0_pages j81_h0_steps j81_h0_reason gl aw ac ce sk j81_h0_height fb fs ff fl j81_h0_frameCount lb lh j81_h0_labelCount j81_h0_at aw law ac cfi clk clt ac_length cop cva cpt cel ac_labelCount cla sk csk j81_sk ce cce j81_ce gl cgl j81_gl fb cfb j81_fb fs cfs j81_fs ff cff j81_ff fl cfl j81_fl lb clb j81_lb lh clh j81_lh waf cwaf gwaf wat cwat gwat wag cwag gwag cfi ccfi gcfi clk cclk gclk cop ccop gcop cva ccva gcva cpt ccpt gcpt cel ccel gcel cla ccla gcla wap cwap gwap clt cclt gclt ar car gar)) [13, 14, 15, 16, 0, 1, 17, 18, 19, 20, 2, 3, 21, 22, 4, 23, 24, 5, 6, 7, 8, 9, 10, 11, 12] (by decide) rfl
        exact W.lret (v := 0) hx hb hr (fun t ht hW => ⟨⟨0, (j81_ce, j81_fb, j81_ff, j81_fl, j81_fs, j81_gl, j81_lb, j81_lh, j81_sk, j81_h0_at, j81_h0_frameCount, j81_h0_height, j81_h0_labelCount, j81_h0_pages, j81_h0_reason, j81_h0_steps), rfl, ⟨b_j81_h0_frameCount, b_j81_h0_height, b_j81_h0_labelCount, b_j81_h0_pages, b_j81_h0_reason, b_j81_h0_steps⟩, va_P.he ht.symm hP9, va_K.moved hW.alike hK, hD9⟩, hS.F ht⟩) hS.2.2 d_MA_run_135
      · have q115 := eqI c115
        refine lv_aload_n hx hb d_MA_run_118 rfl (lv_at hl 0 rfl) ?_
        refine va_get (D := (dC, dI)) (ci := 4) (v := .int j81_h0_height) (C := R_MA) (T := F_MA) (N := 18) hx hb hts i_MA hown hK hP 13 rfl rfl 8 (by decide) (hts _ kF_MA_77) (fun _ h9 => h9) rfl d_MA_run_119 ?_
        refine lv_if_le (tgt := 134) hx hb d_MA_run_122 (by decide) (fun c122 => ?_) (fun c122 => ?_)
        · have q122 := leI c122
          refine lv_lconst (v := 0) hx hb d_MA_run_134 (by decide) ?_
          have kl0 : (0 : Int64).toInt = 0 := by decide
          have hP9 := hP.sb (wq := (wz_43 h0 j81_h0_pages j81_h0_steps j81_h0_reason gl aw ac ce sk j81_h0_height fb fs ff fl j81_h0_frameCount lb lh j81_h0_labelCount j81_h0_at aw law ac cfi clk clt ac_length cop cva cpt cel ac_labelCount cla sk csk j81_sk ce cce j81_ce gl cgl j81_gl fb cfb j81_fb fs cfs j81_fs ff cff j81_ff fl cfl j81_fl lb clb j81_lb lh clh j81_lh waf cwaf gwaf wat cwat gwat wag cwag gwag cfi ccfi gcfi clk cclk gclk cop ccop gcop cva ccva gcva cpt ccpt gcpt cel ccel gcel cla ccla gcla wap cwap gwap clt cclt gclt ar car gar)) [13, 14, 15, 16, 0, 1, 17, 18, 19, 20, 2, 3, 21, 22, 4, 23, 24, 5, 6, 7, 8, 9, 10, 11, 12] rfl
          have hD9 := hD.sb (wq := (wz_43 h0 j81_h0_pages j81_h0_steps j81_h0_reason gl aw ac ce sk j81_h0_height fb fs ff fl j81_h0_frameCount lb lh j81_h0_labelCount j81_h0_at aw law ac cfi clk clt ac_length cop cva cpt cel ac_labelCount cla sk csk j81_sk ce cce j81_ce gl cgl j81_gl fb cfb j81_fb fs cfs j81_fs ff cff j81_ff fl cfl j81_fl lb clb j81_lb lh clh j81_lh waf cwaf gwaf wat cwat gwat wag cwag gwag cfi ccfi gcfi clk cclk gclk cop ccop gcop cva ccva gcva cpt ccpt gcpt cel ccel gcel cla ccla gcla wap cwap gwap clt cclt gclt ar car gar)) [13, 14, 15, 16, 0, 1, 17, 18, 19, 20, 2, 3, 21, 22, 4, 23, 24, 5, 6, 7, 8, 9, 10, 11, 12] (by decide) rfl
          exact W.lret (v := 0) hx hb hr (fun t ht hW => ⟨⟨0, (j81_ce, j81_fb, j81_ff, j81_fl, j81_fs, j81_gl, j81_lb, j81_lh, j81_sk, j81_h0_at, j81_h0_frameCount, j81_h0_height, j81_h0_labelCount, j81_h0_pages, j81_h0_reason, j81_h0_steps), rfl, ⟨b_j81_h0_frameCount, b_j81_h0_height, b_j81_h0_labelCount, b_j81_h0_pages, b_j81_h0_reason, b_j81_h0_steps⟩, va_P.he ht.symm hP9, va_K.moved hW.alike hK, hD9⟩, hS.F ht⟩) hS.2.2 d_MA_run_135
        · have q122 := nleI c122
          refine lv_aload_n hx hb d_MA_run_125 rfl (lv_at hl 0 rfl) ?_
          refine va_get (D := (dC, dI)) (ci := 4) (v := .ref sk) (C := R_MA) (T := F_MA) (N := 18) hx hb hts i_MA hown hK hP 13 rfl rfl 7 (by decide) (hts _ kF_MA_18) (fun _ h9 => h9) rfl d_MA_run_126 ?_
          refine lv_iconst (v := 0) hx hb d_MA_run_129 (by decide) ?_
          have g130 : vp_in 0 12096 := vp_in_iff.mpr ⟨by (first | (apply Int.le_antisymm <;> omega) | omega), by (first | (apply Int.le_antisymm <;> omega) | omega)⟩
          refine va_lald hx hb hK hP 16 0 rfl rfl g130 d_MA_run_130 ?_
          refine lv_topl (fun x13 ex13 => ?_)
          refine lv_goto (tgt := 135) hx hb d_MA_run_131 (by decide) ?_
          have hP9 := hP.sb (wq := (wz_43 h0 j81_h0_pages j81_h0_steps j81_h0_reason gl aw ac ce sk j81_h0_height fb fs ff fl j81_h0_frameCount lb lh j81_h0_labelCount j81_h0_at aw law ac cfi clk clt ac_length cop cva cpt cel ac_labelCount cla sk csk j81_sk ce cce j81_ce gl cgl j81_gl fb cfb j81_fb fs cfs j81_fs ff cff j81_ff fl cfl j81_fl lb clb j81_lb lh clh j81_lh waf cwaf gwaf wat cwat gwat wag cwag gwag cfi ccfi gcfi clk cclk gclk cop ccop gcop cva ccva gcva cpt ccpt gcpt cel ccel gcel cla ccla gcla wap cwap gwap clt cclt gclt ar car gar)) [13, 14, 15, 16, 0, 1, 17, 18, 19, 20, 2, 3, 21, 22, 4, 23, 24, 5, 6, 7, 8, 9, 10, 11, 12] rfl
          have hD9 := hD.sb (wq := (wz_43 h0 j81_h0_pages j81_h0_steps j81_h0_reason gl aw ac ce sk j81_h0_height fb fs ff fl j81_h0_frameCount lb lh j81_h0_labelCount j81_h0_at aw law ac cfi clk clt ac_length cop cva cpt cel ac_labelCount cla sk csk j81_sk ce cce j81_ce gl cgl j81_gl fb cfb j81_fb fs cfs j81_fs ff cff j81_ff fl cfl j81_fl lb clb j81_lb lh clh j81_lh waf cwaf gwaf wat cwat gwat wag cwag gwag cfi ccfi gcfi clk cclk gclk cop ccop gcop cva ccva gcva cpt ccpt gcpt cel ccel gcel cla ccla gcla wap cwap gwap clt cclt gclt ar car gar)) [13, 14, 15, 16, 0, 1, 17, 18, 19, 20, 2, 3, 21, 22, 4, 23, 24, 5, 6, 7, 8, 9, 10, 11, 12] (by decide) rfl
          exact W.lret (v := x13) hx hb hr (fun t ht hW => ⟨⟨x13, (j81_ce, j81_fb, j81_ff, j81_fl, j81_fs, j81_gl, j81_lb, j81_lh, j81_sk, j81_h0_at, j81_h0_frameCount, j81_h0_height, j81_h0_labelCount, j81_h0_pages, j81_h0_reason, j81_h0_steps), rfl, ⟨b_j81_h0_frameCount, b_j81_h0_height, b_j81_h0_labelCount, b_j81_h0_pages, b_j81_h0_reason, b_j81_h0_steps⟩, va_P.he ht.symm hP9, va_K.moved hW.alike hK, hD9⟩, hS.F ht⟩) hS.2.2 d_MA_run_135
    · skip
      refine lv_icmp_ge (tgt := 111) hx hb d_MA_run_84 (by decide) (fun c84 => ?_) (fun c84 => ?_)
      · have q84 := leI c84
        exact jn111 () _ _ _ ⟨hP, hD, hS, lv_sub hl [0] rfl⟩
      · have q84 := nleI c84
        refine lv_aload_n hx hb d_MA_run_87 rfl (lv_at hl 0 rfl) ?_
        refine va_get (D := (dC, dI)) (ci := 4) (v := .int j81_h0_frameCount) (C := R_MA) (T := F_MA) (N := 18) hx hb hts i_MA hown hK hP 13 rfl rfl 13 (by decide) (hts _ kF_MA_80) (fun _ h9 => h9) rfl d_MA_run_88 ?_
        refine lv_if_le (tgt := 111) hx hb d_MA_run_91 (by decide) (fun c91 => ?_) (fun c91 => ?_)
        · have q91 := leI c91
          exact jn111 () _ _ _ ⟨hP, hD, hS, lv_sub hl [0] rfl⟩
        · have q91 := nleI c91
          refine lv_aload_n hx hb d_MA_run_94 rfl (lv_at hl 0 rfl) ?_
          refine va_get (D := (dC, dI)) (ci := 4) (v := .int j81_h0_reason) (C := R_MA) (T := F_MA) (N := 18) hx hb hts i_MA hown hK hP 13 rfl rfl 2 (by decide) (hts _ kF_MA_71) (fun _ h9 => h9) rfl d_MA_run_95 ?_
          refine lv_if_ne (tgt := 111) hx hb d_MA_run_98 (by decide) (fun c98 => ?_) (fun c98 => ?_)
          · have q98 := neI c98
            exact jn111 () _ _ _ ⟨hP, hD, hS, lv_sub hl [0] rfl⟩
          · have q98 := eqI c98
            refine lv_aload_n hx hb d_MA_run_101 rfl (lv_at hl 0 rfl) ?_
            have hPc := hP.sb (wq := (wz_40 h0 j81_h0_pages j81_h0_steps j81_h0_reason gl aw ac ce sk j81_h0_height fb fs ff fl j81_h0_frameCount lb lh j81_h0_labelCount j81_h0_at aw law ac cfi clk clt ac_length cop cva cpt cel ac_labelCount cla sk csk j81_sk ce cce j81_ce gl cgl j81_gl fb cfb j81_fb fs cfs j81_fs ff cff j81_ff fl cfl j81_fl lb clb j81_lb lh clh j81_lh waf cwaf gwaf wat cwat gwat wag cwag gwag cfi ccfi gcfi clk cclk gclk cop ccop gcop cva ccva gcva cpt ccpt gcpt cel ccel gcel cla ccla gcla)) [13, 14, 15, 16, 0, 1, 17, 18, 19, 20, 2, 3, 21, 22, 4, 23, 24, 5, 6, 7, 8, 9] rfl
            have hDc := hD.sb (wq := (wz_40 h0 j81_h0_pages j81_h0_steps j81_h0_reason gl aw ac ce sk j81_h0_height fb fs ff fl j81_h0_frameCount lb lh j81_h0_labelCount j81_h0_at aw law ac cfi clk clt ac_length cop cva cpt cel ac_labelCount cla sk csk j81_sk ce cce j81_ce gl cgl j81_gl fb cfb j81_fb fs cfs j81_fs ff cff j81_ff fl cfl j81_fl lb clb j81_lb lh clh j81_lh waf cwaf gwaf wat cwat gwat wag cwag gwag cfi ccfi gcfi clk cclk gclk cop ccop gcop cva ccva gcva cpt ccpt gcpt cel ccel gcel cla ccla gcla)) [13, 14, 15, 16, 0, 1, 17, 18, 19, 20, 2, 3, 21, 22, 4, 23, 24, 5, 6, 7, 8, 9] (by decide) rfl
            have hKc := hK.sb (tyq := [(csk, .long), (cce, .long), (cgl, .long), (cfb, .int), (cfs, .int), (cff, .int), (cfl, .int), (clb, .int), (clh, .int), (cwaf, .int), (cwat, .int), (cwag, .int), (ccfi, .int), (cclk, .int), (ccop, .int), (ccva, .long), (ccpt, .int), (ccel, .int), (ccla, .int)]) [0, 1, 2, 3, 4, 5, 6, 7, 8, 9, 10, 11, 12, 13, 14, 15, 16, 17, 18] rfl
            have hFc := va_free (wc := (wz_40 h0 j81_h0_pages j81_h0_steps j81_h0_reason gl aw ac ce sk j81_h0_height fb fs ff fl j81_h0_frameCount lb lh j81_h0_labelCount j81_h0_at aw law ac cfi clk clt ac_length cop cva cpt cel ac_labelCount cla sk csk j81_sk ce cce j81_ce gl cgl j81_gl fb cfb j81_fb fs cfs j81_fs ff cff j81_ff fl cfl j81_fl lb clb j81_lb lh clh j81_lh waf cwaf gwaf wat cwat gwat wag cwag gwag cfi ccfi gcfi clk cclk gclk cop ccop gcop cva ccva gcva cpt ccpt gcpt cel ccel gcel cla ccla gcla)) hD hS hA [13, 14, 15, 16, 0, 1, 17, 18, 19, 20, 2, 3, 21, 22, 4, 23, 24, 5, 6, 7, 8, 9] rfl
            refine va_callv (va_runV (As := []) (rest := []) ⟨hx, hb, hml, hown, hts⟩ (c_MA_step l dC dI H.size h0 gl aw ac ce sk fb fs ff fl lb lh wat wag waf cfi clk clt cop cva cpt cel cla csk cce cgl cfb cfs cff cfl clb clh cwaf cwat cwag ccfi cclk ccop ccva ccpt ccel ccla j81_h0_pages j81_h0_steps j81_h0_reason j81_h0_height j81_h0_frameCount j81_h0_labelCount j81_h0_at law aw_pagesMost ac_length ac_labelCount j81_sk j81_ce j81_gl j81_fb j81_fs j81_ff j81_fl j81_lb j81_lh gwaf gwat gwag gcfi gclk gcop gcva gcpt gcel gcla an nl gv fc tk gc paw_1 paw_3 paw_5 paw_7 paw_10 plaw (b_j81_h0_pages) (b_j81_h0_steps) (b_j81_h0_reason) (b_j81_h0_height) (b_j81_h0_frameCount) (b_j81_h0_labelCount) (b_ac_length) (by (first | (apply Int.le_antisymm <;> omega) | omega)) (by (first | (apply Int.le_antisymm <;> omega) | omega)) ((v2.resolve_left (fun z => z (by (first | (apply Int.le_antisymm <;> omega) | omega)))).resolve_left (fun z => absurd z (by (first | (apply Int.le_antisymm <;> omega) | omega)))) (hfn) (hgv) (hnl) (htk) (hfs) (hgc) (v3 (by (first | (apply Int.le_antisymm <;> omega) | omega))) (hok)) (cwV 0 hts (gV kM_MA_103 kV_MA_step kS_MA_step kI_MA kC_MA_step) rfl rfl rfl (by decide +kernel) ⟨Nat.le_of_ble_eq_true rfl, Nat.le_of_ble_eq_true rfl⟩) ⟨fun a U g mk z => by obtain ⟨z0, z1, zP, zK, zD⟩ := z; exact ⟨z0, z1, zP, va_K.moved (u := U) (U := U.calling g mk a) (Vm.Alike.refl U.vm) zK, zD⟩, va_recv hKc hPc (ci := 4) (q0 := 0) rfl rfl, fun U hU hW => ⟨rfl, by rw [hU], va_P.he hU.symm hPc, va_K.moved hW.alike hKc, hDc.weaken (fun _ _ _ _ => trivial)⟩⟩ rfl rfl hl.1 rfl (lv_room (Nat.le_of_ble_eq_true rfl)) d_MA_run_102 ⟨(Nat.zero_le _), (Nat.zero_le _)⟩) hS (fun q _ h => hFc q h) hFc (fun u t H1 locs ht hvm hw hB hz1 hk1 hS => ?_)
            obtain ⟨n15, n16, n17, n18, n19, n20, n21, n22, n23, n24, hq9r⟩ := u
            obtain ⟨n25, n26, n27, n28, n29, n30⟩ := hq9r
            try dsimp only at hw
            obtain ⟨bn25, bn26, bn27, bn28, bn29, bn30, xr14⟩ := hw
            try clear hw
            obtain ⟨hP1, hK1, hD1⟩ := hB
            replace hP1 := va_P.he ht hP1
            obtain ⟨hP, hD⟩ := va_join (wr := [(wap, .inl (cwap, 160, .inl gwap)), (clt, .inl (cclt, 1800, .inl gclt)), (ar, .inl (car, 8, .inr (.inl gar)))]) (w1 := (wz_40 h0 n28 n30 n29 gl aw ac ce sk n26 fb fs ff fl n25 lb lh n27 n24 aw law ac cfi clk clt ac_length cop cva cpt cel ac_labelCount cla sk csk n23 ce cce n15 gl cgl n20 fb cfb n16 fs cfs n19 ff cff n17 fl cfl n18 lb clb n21 lh clh n22 waf cwaf gwaf wat cwat gwat wag cwag gwag cfi ccfi gcfi clk cclk gclk cop ccop gcop cva ccva gcva cpt ccpt gcpt cel ccel gcel cla ccla gcla)) hP hD [13, 14, 15, 16, 0, 1, 17, 18, 19, 20, 2, 3, 21, 22, 4, 23, 24, 5, 6, 7, 8, 9] [10, 11, 12] rfl rfl (by decide) (by decide) hk1 hFc hP1 hD1
            clear hPc hDc hKc hFc hz1 hk1 hP1 hK1 hD1
            rename Heap => H
            have hP : va_P (dC, dI) cls [(wap, .inl (cwap, 160, .inl gwap)), (clt, .inl (cclt, 1800, .inl gclt)), (ar, .inl (car, 8, .inr (.inl gar))), (h0, .inr (4, [.int n28, .int n30, .int n29, .ref gl, .ref aw, .ref ac, .ref ce, .ref sk, .int n26, .ref fb, .ref fs, .ref ff, .ref fl, .int n25, .ref lb, .ref lh, .int n27, .int n24])), (aw, .inr (10, law)), (ac, .inr (3, [.ref cfi, .ref clk, .ref clt, .int ac_length, .ref cop, .ref cva, .ref cpt, .ref cel, .int ac_labelCount, .ref cla])), (sk, .inl (csk, 12096, .inr (.inl n23))), (ce, .inl (cce, 16384, .inr (.inl n15))), (gl, .inl (cgl, 20, .inr (.inl n20))), (fb, .inl (cfb, 100, .inl n16)), (fs, .inl (cfs, 100, .inl n19)), (ff, .inl (cff, 100, .inl n17)), (fl, .inl (cfl, 100, .inl n18)), (lb, .inl (clb, 10000, .inl n21)), (lh, .inl (clh, 10000, .inl n22)), (waf, .inl (cwaf, 30, .inl gwaf)), (wat, .inl (cwat, 20, .inl gwat)), (wag, .inl (cwag, 20, .inl gwag)), (cfi, .inl (ccfi, 31, .inl gcfi)), (clk, .inl (cclk, 30, .inl gclk)), (cop, .inl (ccop, 5000, .inl gcop)), (cva, .inl (ccva, 5000, .inr (.inl gcva))), (cpt, .inl (ccpt, 5000, .inl gcpt)), (cel, .inl (ccel, 5000, .inl gcel)), (cla, .inl (ccla, 2000, .inl gcla))] H := hP
            have hD : va_D A [(wap, .inl (cwap, 160, .inl gwap)), (clt, .inl (cclt, 1800, .inl gclt)), (ar, .inl (car, 8, .inr (.inl gar))), (h0, .inr (4, [.int n28, .int n30, .int n29, .ref gl, .ref aw, .ref ac, .ref ce, .ref sk, .int n26, .ref fb, .ref fs, .ref ff, .ref fl, .int n25, .ref lb, .ref lh, .int n27, .int n24])), (aw, .inr (10, law)), (ac, .inr (3, [.ref cfi, .ref clk, .ref clt, .int ac_length, .ref cop, .ref cva, .ref cpt, .ref cel, .int ac_labelCount, .ref cla])), (sk, .inl (csk, 12096, .inr (.inl n23))), (ce, .inl (cce, 16384, .inr (.inl n15))), (gl, .inl (cgl, 20, .inr (.inl n20))), (fb, .inl (cfb, 100, .inl n16)), (fs, .inl (cfs, 100, .inl n19)), (ff, .inl (cff, 100, .inl n17)), (fl, .inl (cfl, 100, .inl n18)), (lb, .inl (clb, 10000, .inl n21)), (lh, .inl (clh, 10000, .inl n22)), (waf, .inl (cwaf, 30, .inl gwaf)), (wat, .inl (cwat, 20, .inl gwat)), (wag, .inl (cwag, 20, .inl gwag)), (cfi, .inl (ccfi, 31, .inl gcfi)), (clk, .inl (cclk, 30, .inl gclk)), (cop, .inl (ccop, 5000, .inl gcop)), (cva, .inl (ccva, 5000, .inr (.inl gcva))), (cpt, .inl (ccpt, 5000, .inl gcpt)), (cel, .inl (ccel, 5000, .inl gcel)), (cla, .inl (ccla, 2000, .inl gcla))] := hD
            obtain ⟨x31, ex31⟩ : ∃ z : Int32, z = j81_l3 + 1 := ⟨_, rfl⟩
            have tx31 : x31.toInt = j81_l3.toInt + 1 := by have z := i32_add ex31 (by (first | (apply Int.le_antisymm <;> omega) | omega)) (by (first | (apply Int.le_antisymm <;> omega) | omega)); first | exact z | (first | (apply Int.le_antisymm <;> omega) | omega)
            refine lv_iinc (v := x31) (lv' := [(3, .int x31), (0, .ref h0)]) hx hb d_MA_run_105 hl (k := 1) rfl (by rw [ex31]; rfl) (by decide) rfl (fun ls hl => ?_)
            refine lv_goto (tgt := 81) hx hb d_MA_run_108 (by decide) ?_
            exact ih81 (x31, n15, n16, n17, n18, n19, n20, n21, n22, n23, n24, n25, n26, n27, n28, n29, n30) _ _ _ (by show (400000 - x31.toInt).toNat < N81; (first | (apply Int.le_antisymm <;> omega) | omega)) ⟨by (try dsimp only); (first | (apply Int.le_antisymm <;> omega) | omega), bn25, bn26, bn27, bn28, bn29, bn30, xr14.1, xr14.2, hP.sub [7, 8, 13, 14, 17, 20, 21, 22, 23, 24, 0, 1, 2, 3, 4, 5, 6, 9, 10, 11, 12, 15, 16, 18, 19] rfl, hD.sub [7, 8, 13, 14, 17, 20, 21, 22, 23, 24, 0, 1, 2, 3, 4, 5, 6, 9, 10, 11, 12, 15, 16, 18, 19] (by decide) rfl, hS, lv_sub hl [1, 0] rfl⟩
  · have q36 := nleI c36
    refine lv_aload_n hx hb d_MA_run_39 rfl (lv_at hl 0 rfl) ?_
    refine lv_aload_n hx hb d_MA_run_40 rfl (lv_at hl 0 rfl) ?_
    refine va_get (D := (dC, dI)) (ci := 4) (v := .ref aw) (C := R_MA) (T := F_MA) (N := 18) hx hb hts i_MA hown hK hP 0 rfl rfl 4 (by decide) (hts _ kF_MA_40) (fun _ h9 => h9) rfl d_MA_run_41 ?_
    refine lv_iload_n hx hb d_MA_run_44 rfl (lv_at hl 1 rfl) ?_
    refine lv_iload_n hx hb d_MA_run_45 rfl (lv_at hl 3 rfl) ?_
    have hPc := hP.sb (wq := (wz_32 aw law ac cfi clk clt ac_length cop cva cpt cel ac_labelCount cla waf cwaf gwaf wat cwat gwat wap cwap gwap clk cclk gclk clt cclt gclt)) [22, 1, 23, 24, 19, 13, 20] rfl
    have hDc := hD.sb (wq := (wz_32 aw law ac cfi clk clt ac_length cop cva cpt cel ac_labelCount cla waf cwaf gwaf wat cwat gwat wap cwap gwap clk cclk gclk clt cclt gclt)) [22, 1, 23, 24, 19, 13, 20] (by decide) rfl
    have hKc := hK.sb (tyq := [(cwaf, .int), (cwat, .int), (cwap, .int), (cclk, .int), (cclt, .int)]) [9, 10, 19, 13, 20] rfl
    have hFc := va_free (wc := (wz_32 aw law ac cfi clk clt ac_length cop cva cpt cel ac_labelCount cla waf cwaf gwaf wat cwat gwat wap cwap gwap clk cclk gclk clt cclt gclt)) hD hS hA [22, 1, 23, 24, 19, 13, 20] rfl
    refine va_calli (va_runV (As := [.int p0, .int j27_l3]) (rest := [.ref h0]) ⟨hx, hb, hml, hown, hts⟩ (c_WA_localType l dC dI H.size aw ac wat wap waf cfi clk clt cop cva cpt cel cla cwaf cwat cwap cclk cclt law ac_length ac_labelCount gwaf gwat gwap gclk gclt paw_1 paw_3 paw_4 paw_7 plaw p0 j27_l3 (by (try dsimp only); (first | (apply Int.le_antisymm <;> omega) | omega)) (by (first | (apply Int.le_antisymm <;> omega) | omega)) (by (first | (apply Int.le_antisymm <;> omega) | omega))) (cwV 2 hts (gV kM_MA_90 kV_WA_localType kS_WA_localType kI_WA kC_WA_localType) rfl rfl rfl (by decide +kernel) ⟨Nat.le_of_ble_eq_true rfl, Nat.le_of_ble_eq_true rfl⟩) ⟨fun a U g mk z => by obtain ⟨z0, z1, zP, zK, zD⟩ := z; exact ⟨z0, z1, zP, va_K.moved (u := U) (U := U.calling g mk a) (Vm.Alike.refl U.vm) zK, zD⟩, va_recv hKc hPc (ci := 10) (q0 := 0) rfl rfl, fun U hU hW => ⟨rfl, by rw [hU], va_P.he hU.symm hPc, va_K.moved hW.alike hKc, hDc.weaken (fun _ _ _ _ => trivial)⟩⟩ rfl rfl hl.1 rfl (lv_room (Nat.le_of_ble_eq_true rfl)) d_MA_run_46 ⟨(Nat.zero_le _), (Nat.zero_le _)⟩) hS (fun q _ h => hFc q h) hFc (fun r32 u t H1 locs ht hvm hw hB hz1 hk1 hS => ?_)
    try dsimp only at hw
    have xr32 := hw
    try clear hw
    obtain ⟨hP1, hK1, hD1⟩ := hB
    replace hP1 := va_P.he ht hP1
    obtain ⟨hP, hD⟩ := va_join (wr := [(h0, .inr (4, [.int h0_pages, .int 0, .int j27_h0_reason, .ref gl, .ref aw, .ref ac, .ref ce, .ref sk, .int j27_h0_height, .ref fb, .ref fs, .ref ff, .ref fl, .int 0, .ref lb, .ref lh, .int 0, .int h0_at])), (sk, .inl (csk, 12096, .inr (.inl j27_sk))), (ce, .inl (cce, 16384, .inr (.inl gce))), (gl, .inl (cgl, 20, .inr (.inl ggl))), (fb, .inl (cfb, 100, .inl gfb)), (fs, .inl (cfs, 100, .inl gfs)), (ff, .inl (cff, 100, .inl gff)), (fl, .inl (cfl, 100, .inl gfl)), (lb, .inl (clb, 10000, .inl glb)), (lh, .inl (clh, 10000, .inl glh)), (wag, .inl (cwag, 20, .inl gwag)), (cfi, .inl (ccfi, 31, .inl gcfi)), (cop, .inl (ccop, 5000, .inl gcop)), (cva, .inl (ccva, 5000, .inr (.inl gcva))), (cpt, .inl (ccpt, 5000, .inl gcpt)), (cel, .inl (ccel, 5000, .inl gcel)), (cla, .inl (ccla, 2000, .inl gcla)), (ar, .inl (car, 8, .inr (.inl gar)))]) (w1 := (wz_32 aw law ac cfi clk clt ac_length cop cva cpt cel ac_labelCount cla waf cwaf gwaf wat cwat gwat wap cwap gwap clk cclk gclk clt cclt gclt)) hP hD [22, 1, 23, 24, 19, 13, 20] [0, 2, 3, 4, 5, 6, 7, 8, 9, 10, 11, 12, 14, 15, 16, 17, 18, 21] rfl rfl (by decide) (by decide) hk1 hFc hP1 hD1
    clear hPc hDc hKc hFc hz1 hk1 hP1 hK1 hD1
    rename Heap => H
    have hP : va_P (dC, dI) cls (wz_45 h0 h0_pages 0 j27_h0_reason gl aw ac ce sk j27_h0_height fb fs ff fl 0 lb lh 0 h0_at sk csk j27_sk ce cce gce gl cgl ggl fb cfb gfb fs cfs gfs ff cff gff fl cfl gfl lb clb glb lh clh glh wag cwag gwag cfi ccfi gcfi cop ccop gcop cva ccva gcva cpt ccpt gcpt cel ccel gcel cla ccla gcla ar car gar aw law ac cfi clk clt ac_length cop cva cpt cel ac_labelCount cla waf cwaf gwaf wat cwat gwat wap cwap gwap clk cclk gclk clt cclt gclt) H := hP
    have hD : va_D A (wz_45 h0 h0_pages 0 j27_h0_reason gl aw ac ce sk j27_h0_height fb fs ff fl 0 lb lh 0 h0_at sk csk j27_sk ce cce gce gl cgl ggl fb cfb gfb fs cfs gfs ff cff gff fl cfl gfl lb clb glb lh clh glh wag cwag gwag cfi ccfi gcfi cop ccop gcop cva ccva gcva cpt ccpt gcpt cel ccel gcel cla ccla gcla ar car gar aw law ac cfi clk clt ac_length cop cva cpt cel ac_labelCount cla waf cwaf gwaf wat cwat gwat wap cwap gwap clk cclk gclk clt cclt gclt) := hD
    refine lv_bipush (v := 127) hx hb d_MA_run_49 (by decide) ?_
    refine w_cut (pc2 := 65) (σ := Int64) (fun u H locs ls => match u with | j65_s0 => va_P (dC, dI) cls (wz_45 h0 h0_pages 0 j27_h0_reason gl aw ac ce sk j27_h0_height fb fs ff fl 0 lb lh 0 h0_at sk csk j27_sk ce cce gce gl cgl ggl fb cfb gfb fs cfs gfs ff cff gff fl cfl gfl lb clb glb lh clh glh wag cwag gwag cfi ccfi gcfi cop ccop gcop cva ccva gcva cpt ccpt gcpt cel ccel gcel cla ccla gcla ar car gar aw law ac cfi clk clt ac_length cop cva cpt cel ac_labelCount cla waf cwaf gwaf wat cwat gwat wap cwap gwap clk cclk gclk clt cclt gclt) H ∧ va_D A (wz_45 h0 h0_pages 0 j27_h0_reason gl aw ac ce sk j27_h0_height fb fs ff fl 0 lb lh 0 h0_at sk csk j27_sk ce cce gce gl cgl ggl fb cfb gfb fs cfs gfs ff cff gff fl cfl gfl lb clb glb lh clh glh wag cwag gwag cfi ccfi gcfi cop ccop gcop cva ccva gcva cpt ccpt gcpt cel ccel gcel cla ccla gcla ar car gar aw law ac cfi clk clt ac_length cop cva cpt cel ac_labelCount cla waf cwaf gwaf wat cwat gwat wap cwap gwap clk cclk gclk clt cclt gclt) ∧ va_S A s.heap H locs ∧ lv_has ls 4 [(0, .ref h0), (1, .int p0), (2, .ref ar), (3, .int j27_l3)]) (fun u => match u with | j65_s0 => [.long j65_s0, .ref h0]) ?_ (fun jn65 => ?_)
    · intro u H locs ls hI
      obtain ⟨j65_s0, rfl⟩ : ∃ z, z = u := ⟨_, rfl⟩
      obtain ⟨hP, hD, hS, hl⟩ := hI
      have hPc := hP.sb (wq := (wz_17 h0 h0_pages 0 j27_h0_reason gl aw ac ce sk j27_h0_height fb fs ff fl 0 lb lh 0 h0_at sk csk j27_sk)) [0, 1] rfl
      have hDc := hD.sb (wq := (wz_17 h0 h0_pages 0 j27_h0_reason gl aw ac ce sk j27_h0_height fb fs ff fl 0 lb lh 0 h0_at sk csk j27_sk)) [0, 1] (by decide) rfl
      have hKc := hK.sb (tyq := [(csk, .long)]) [0] rfl
      have hFc := va_free (wc := (wz_17 h0 h0_pages 0 j27_h0_reason gl aw ac ce sk j27_h0_height fb fs ff fl 0 lb lh 0 h0_at sk csk j27_sk)) hD hS hA [0, 1] rfl
      refine va_callv (va_runV (As := [.long j65_s0]) (rest := []) ⟨hx, hb, hml, hown, hts⟩ (c_MA_push l dC dI H.size h0 gl aw ac ce sk fb fs ff fl lb lh csk h0_pages 0 j27_h0_reason j27_h0_height 0 0 h0_at j27_sk (b_j27_h0_reason) (b_j27_h0_height) j65_s0) (cwV 1 hts (gV kM_MA_94 kV_MA_push kS_MA_push kI_MA kC_MA_push) rfl rfl rfl (by decide +kernel) ⟨Nat.le_of_ble_eq_true rfl, Nat.le_of_ble_eq_true rfl⟩) ⟨fun a U g mk z => by obtain ⟨z0, z1, zP, zK, zD⟩ := z; exact ⟨z0, z1, zP, va_K.moved (u := U) (U := U.calling g mk a) (Vm.Alike.refl U.vm) zK, zD⟩, va_recv hKc hPc (ci := 4) (q0 := 0) rfl rfl, fun U hU hW => ⟨rfl, by rw [hU], va_P.he hU.symm hPc, va_K.moved hW.alike hKc, hDc.weaken (fun _ _ _ _ => trivial)⟩⟩ rfl rfl hl.1 rfl (lv_room (Nat.le_of_ble_eq_true rfl)) d_MA_run_65 ⟨(Nat.zero_le _), (Nat.zero_le _)⟩) hS (fun q _ h => hFc q h) hFc (fun u t H1 locs ht hvm hw hB hz1 hk1 hS => ?_)
      obtain ⟨n34, n35, n36⟩ := u
      try dsimp only at hw
      obtain ⟨bn35, bn36, xr33⟩ := hw
      try clear hw
      obtain ⟨hP1, hK1, hD1⟩ := hB
      replace hP1 := va_P.he ht hP1
      obtain ⟨hP, hD⟩ := va_join (wr := [(ce, .inl (cce, 16384, .inr (.inl gce))), (gl, .inl (cgl, 20, .inr (.inl ggl))), (fb, .inl (cfb, 100, .inl gfb)), (fs, .inl (cfs, 100, .inl gfs)), (ff, .inl (cff, 100, .inl gff)), (fl, .inl (cfl, 100, .inl gfl)), (lb, .inl (clb, 10000, .inl glb)), (lh, .inl (clh, 10000, .inl glh)), (wag, .inl (cwag, 20, .inl gwag)), (cfi, .inl (ccfi, 31, .inl gcfi)), (cop, .inl (ccop, 5000, .inl gcop)), (cva, .inl (ccva, 5000, .inr (.inl gcva))), (cpt, .inl (ccpt, 5000, .inl gcpt)), (cel, .inl (ccel, 5000, .inl gcel)), (cla, .inl (ccla, 2000, .inl gcla)), (ar, .inl (car, 8, .inr (.inl gar))), (aw, .inr (10, law)), (ac, .inr (3, [.ref cfi, .ref clk, .ref clt, .int ac_length, .ref cop, .ref cva, .ref cpt, .ref cel, .int ac_labelCount, .ref cla])), (waf, .inl (cwaf, 30, .inl gwaf)), (wat, .inl (cwat, 20, .inl gwat)), (wap, .inl (cwap, 160, .inl gwap)), (clk, .inl (cclk, 30, .inl gclk)), (clt, .inl (cclt, 1800, .inl gclt))]) (w1 := (wz_17 h0 h0_pages 0 n36 gl aw ac ce sk n35 fb fs ff fl 0 lb lh 0 h0_at sk csk n34)) hP hD [0, 1] [2, 3, 4, 5, 6, 7, 8, 9, 10, 11, 12, 13, 14, 15, 16, 17, 18, 19, 20, 21, 22, 23, 24] rfl rfl (by decide) (by decide) hk1 hFc hP1 hD1
      clear hPc hDc hKc hFc hz1 hk1 hP1 hK1 hD1
      rename Heap => H
      have hP : va_P (dC, dI) cls [(ce, .inl (cce, 16384, .inr (.inl gce))), (gl, .inl (cgl, 20, .inr (.inl ggl))), (fb, .inl (cfb, 100, .inl gfb)), (fs, .inl (cfs, 100, .inl gfs)), (ff, .inl (cff, 100, .inl gff)), (fl, .inl (cfl, 100, .inl gfl)), (lb, .inl (clb, 10000, .inl glb)), (lh, .inl (clh, 10000, .inl glh)), (wag, .inl (cwag, 20, .inl gwag)), (cfi, .inl (ccfi, 31, .inl gcfi)), (cop, .inl (ccop, 5000, .inl gcop)), (cva, .inl (ccva, 5000, .inr (.inl gcva))), (cpt, .inl (ccpt, 5000, .inl gcpt)), (cel, .inl (ccel, 5000, .inl gcel)), (cla, .inl (ccla, 2000, .inl gcla)), (ar, .inl (car, 8, .inr (.inl gar))), (aw, .inr (10, law)), (ac, .inr (3, [.ref cfi, .ref clk, .ref clt, .int ac_length, .ref cop, .ref cva, .ref cpt, .ref cel, .int ac_labelCount, .ref cla])), (waf, .inl (cwaf, 30, .inl gwaf)), (wat, .inl (cwat, 20, .inl gwat)), (wap, .inl (cwap, 160, .inl gwap)), (clk, .inl (cclk, 30, .inl gclk)), (clt, .inl (cclt, 1800, .inl gclt)), (h0, .inr (4, [.int h0_pages, .int 0, .int n36, .ref gl, .ref aw, .ref ac, .ref ce, .ref sk, .int n35, .ref fb, .ref fs, .ref ff, .ref fl, .int 0, .ref lb, .ref lh, .int 0, .int h0_at])), (sk, .inl (csk, 12096, .inr (.inl n34)))] H := hP
      have hD : va_D A [(ce, .inl (cce, 16384, .inr (.inl gce))), (gl, .inl (cgl, 20, .inr (.inl ggl))), (fb, .inl (cfb, 100, .inl gfb)), (fs, .inl (cfs, 100, .inl gfs)), (ff, .inl (cff, 100, .inl gff)), (fl, .inl (cfl, 100, .inl gfl)), (lb, .inl (clb, 10000, .inl glb)), (lh, .inl (clh, 10000, .inl glh)), (wag, .inl (cwag, 20, .inl gwag)), (cfi, .inl (ccfi, 31, .inl gcfi)), (cop, .inl (ccop, 5000, .inl gcop)), (cva, .inl (ccva, 5000, .inr (.inl gcva))), (cpt, .inl (ccpt, 5000, .inl gcpt)), (cel, .inl (ccel, 5000, .inl gcel)), (cla, .inl (ccla, 2000, .inl gcla)), (ar, .inl (car, 8, .inr (.inl gar))), (aw, .inr (10, law)), (ac, .inr (3, [.ref cfi, .ref clk, .ref clt, .int ac_length, .ref cop, .ref cva, .ref cpt, .ref cel, .int ac_labelCount, .ref cla])), (waf, .inl (cwaf, 30, .inl gwaf)), (wat, .inl (cwat, 20, .inl gwat)), (wap, .inl (cwap, 160, .inl gwap)), (clk, .inl (cclk, 30, .inl gclk)), (clt, .inl (cclt, 1800, .inl gclt)), (h0, .inr (4, [.int h0_pages, .int 0, .int n36, .ref gl, .ref aw, .ref ac, .ref ce, .ref sk, .int n35, .ref fb, .ref fs, .ref ff, .ref fl, .int 0, .ref lb, .ref lh, .int 0, .int h0_at])), (sk, .inl (csk, 12096, .inr (.inl n34)))] := hD
      obtain ⟨x37, ex37⟩ : ∃ z : Int32, z = j27_l3 + 1 := ⟨_, rfl⟩
      have tx37 : x37.toInt = j27_l3.toInt + 1 := by have z := i32_add ex37 (by (first | (apply Int.le_antisymm <;> omega) | omega)) (by (first | (apply Int.le_antisymm <;> omega) | omega)); first | exact z | (first | (apply Int.le_antisymm <;> omega) | omega)
      refine lv_iinc (v := x37) (lv' := [(3, .int x37), (0, .ref h0), (1, .int p0), (2, .ref ar)]) hx hb d_MA_run_68 hl (k := 3) rfl (by rw [ex37]; rfl) (by decide) rfl (fun ls hl => ?_)
      refine lv_goto (tgt := 27) hx hb d_MA_run_71 (by decide) ?_
      exact ih27 (x37, n34, n35, n36) _ _ _ (by show ((gwat (gwaf p0.toNatClampNeg).toNatClampNeg).toInt - x37.toInt).toNat < N27; (first | (apply Int.le_antisymm <;> omega) | omega)) ⟨by (try dsimp only); (first | (apply Int.le_antisymm <;> omega) | omega), bn35, bn36, by (try dsimp only); (first | (apply Int.le_antisymm <;> omega) | omega), hP.sub [23, 16, 17, 24, 0, 1, 2, 3, 4, 5, 6, 7, 18, 19, 8, 9, 21, 10, 11, 12, 13, 14, 20, 22, 15] rfl, hD.sub [23, 16, 17, 24, 0, 1, 2, 3, 4, 5, 6, 7, 18, 19, 8, 9, 21, 10, 11, 12, 13, 14, 20, 22, 15] (by decide) rfl, hS, lv_sub hl [1, 2, 3, 0] rfl⟩
    · skip
      refine lv_icmp_ne (tgt := 62) hx hb d_MA_run_51 (by decide) (fun c51 => ?_) (fun c51 => ?_)
      · have q51 := neI c51
        refine lv_aload_n hx hb d_MA_run_62 rfl (lv_at hl 2 rfl) ?_
        refine lv_iload_n hx hb d_MA_run_63 rfl (lv_at hl 3 rfl) ?_
        have g64 : vp_in j27_l3 8 := vp_in_iff.mpr ⟨by (first | (apply Int.le_antisymm <;> omega) | omega), by (first | (apply Int.le_antisymm <;> omega) | omega)⟩
        refine va_lald hx hb hK hP 17 21 rfl rfl g64 d_MA_run_64 ?_
        refine lv_topl (fun x38 ex38 => ?_)
        exact jn65 x38 _ _ _ ⟨hP, hD, hS, lv_sub hl [0, 1, 2, 3] rfl⟩
      · have q51 := eqI c51
        refine lv_aload_n hx hb d_MA_run_54 rfl (lv_at hl 2 rfl) ?_
        refine lv_iload_n hx hb d_MA_run_55 rfl (lv_at hl 3 rfl) ?_
        have g56 : vp_in j27_l3 8 := vp_in_iff.mpr ⟨by (first | (apply Int.le_antisymm <;> omega) | omega), by (first | (apply Int.le_antisymm <;> omega) | omega)⟩
        refine va_lald hx hb hK hP 17 21 rfl rfl g56 d_MA_run_56 ?_
        refine lv_topl (fun x39 ex39 => ?_)
        refine lv_l2i hx hb d_MA_run_57 rfl ?_
        refine lv_topi (fun x40 ex40 => ?_)
        refine lv_i2l hx hb d_MA_run_58 rfl ?_
        refine lv_topl (fun x41 ex41 => ?_)
        have tx41 := i2l_t ex41
        refine lv_goto (tgt := 65) hx hb d_MA_run_59 (by decide) ?_
        exact jn65 x41 _ _ _ ⟨hP, hD, hS, lv_sub hl [0, 1, 2, 3] rfl⟩
end q_16
section q_17
/-! Reader: the tables of a module -/
theorem fz01 {x : Int32} (h : x = 0 ∨ x = 1) : fits .boolean (.int x) = true := by rcases h with rfl | rfl <;> rfl
theorem upd_all {g : Nat → Int32} {v : Int32} {k : Nat} {Q : Int32 → Prop} {P P' : Nat → Prop} (h : ∀ j : Nat, P j → Q (g j)) (hv : Q v) (hP : ∀ j : Nat, P' j → j = k ∨ P j) : ∀ j : Nat, P' j → Q (upd g k v j) := by
  intro j hj
  by_cases e : j = k
  · rw [e, pk_us]
    exact hv
  · rw [pk_un e]
    exact h j ((hP j hj).resolve_left e)
abbrev b_RE_readMemory : ByteArray := prog_9_method_5_code
def y_RE_readMemory : MethodName := ⟨R_RE, "readMemory", "()V"⟩
abbrev w_RE_readMemory : List Cond := .code y_RE_readMemory b_RE_readMemory 2 none :: lw_g
theorem kC_RE_readMemory : Cond.code y_RE_readMemory b_RE_readMemory 2 none ∈ lw_g := in_c6 108 rfl rfl
theorem d_RE_readMemory_0 : decode b_RE_readMemory 0 = .ok (.aload_n 0, 1) := bz_c42 (by decide +kernel)
theorem d_RE_readMemory_1 : decode b_RE_readMemory 1 = .ok (.getfield 15, 3) := bz_c180 (by decide +kernel)
theorem d_RE_readMemory_4 : decode b_RE_readMemory 4 = .ok (.aload_n 0, 1) := bz_c42 (by decide +kernel)
theorem d_RE_readMemory_5 : decode b_RE_readMemory 5 = .ok (.lconst 1, 1) := bz_c10 (by decide +kernel)
theorem d_RE_readMemory_6 : decode b_RE_readMemory 6 = .ok (.invokevirtual 64, 3) := bz_c182 (by decide +kernel)
theorem d_RE_readMemory_9 : decode b_RE_readMemory 9 = .ok (.lconst 1, 1) := bz_c10 (by decide +kernel)
theorem d_RE_readMemory_10 : decode b_RE_readMemory 10 = .ok (.lcmp, 1) := bz_c148 (by decide +kernel)
theorem d_RE_readMemory_11 : decode b_RE_readMemory 11 = .ok (.ifCond .ne 7, 3) := bz_c154 (by decide +kernel)
theorem d_RE_readMemory_14 : decode b_RE_readMemory 14 = .ok (.iconst 1, 1) := bz_c4 (by decide +kernel)
theorem d_RE_readMemory_15 : decode b_RE_readMemory 15 = .ok (.goto 4, 3) := bz_c167 (by decide +kernel)
theorem d_RE_readMemory_18 : decode b_RE_readMemory 18 = .ok (.iconst 0, 1) := bz_c3 (by decide +kernel)
theorem d_RE_readMemory_19 : decode b_RE_readMemory 19 = .ok (.putfield 115, 3) := bz_c181 (by decide +kernel)
theorem d_RE_readMemory_22 : decode b_RE_readMemory 22 = .ok (.aload_n 0, 1) := bz_c42 (by decide +kernel)
theorem d_RE_readMemory_23 : decode b_RE_readMemory 23 = .ok (.getfield 15, 3) := bz_c180 (by decide +kernel)
theorem d_RE_readMemory_26 : decode b_RE_readMemory 26 = .ok (.getfield 115, 3) := bz_c180 (by decide +kernel)
theorem d_RE_readMemory_29 : decode b_RE_readMemory 29 = .ok (.ifCond .eq 47, 3) := bz_c153 (by decide +kernel)
theorem d_RE_readMemory_32 : decode b_RE_readMemory 32 = .ok (.aload_n 0, 1) := bz_c42 (by decide +kernel)
theorem d_RE_readMemory_33 : decode b_RE_readMemory 33 = .ok (.invokevirtual 118, 3) := bz_c182 (by decide +kernel)
theorem d_RE_readMemory_36 : decode b_RE_readMemory 36 = .ok (.istore_n 1, 1) := bz_c60 (by decide +kernel)
theorem d_RE_readMemory_37 : decode b_RE_readMemory 37 = .ok (.aload_n 0, 1) := bz_c42 (by decide +kernel)
theorem d_RE_readMemory_38 : decode b_RE_readMemory 38 = .ok (.getfield 15, 3) := bz_c180 (by decide +kernel)
theorem d_RE_readMemory_41 : decode b_RE_readMemory 41 = .ok (.aload_n 0, 1) := bz_c42 (by decide +kernel)
theorem d_RE_readMemory_42 : decode b_RE_readMemory 42 = .ok (.ldc2_w 121, 3) := bz_c20 (by decide +kernel)
theorem d_RE_readMemory_45 : decode b_RE_readMemory 45 = .ok (.invokevirtual 64, 3) := bz_c182 (by decide +kernel)
theorem d_RE_readMemory_48 : decode b_RE_readMemory 48 = .ok (.putfield 123, 3) := bz_c181 (by decide +kernel)
theorem d_RE_readMemory_51 : decode b_RE_readMemory 51 = .ok (.aload_n 0, 1) := bz_c42 (by decide +kernel)
theorem d_RE_readMemory_52 : decode b_RE_readMemory 52 = .ok (.getfield 15, 3) := bz_c180 (by decide +kernel)
theorem d_RE_readMemory_55 : decode b_RE_readMemory 55 = .ok (.iload_n 1, 1) := bz_c27 (by decide +kernel)
theorem d_RE_readMemory_56 : decode b_RE_readMemory 56 = .ok (.iconst 1, 1) := bz_c4 (by decide +kernel)
theorem d_RE_readMemory_57 : decode b_RE_readMemory 57 = .ok (.if_icmp .ne 13, 3) := bz_c160 (by decide +kernel)
theorem d_RE_readMemory_60 : decode b_RE_readMemory 60 = .ok (.aload_n 0, 1) := bz_c42 (by decide +kernel)
theorem d_RE_readMemory_61 : decode b_RE_readMemory 61 = .ok (.ldc2_w 121, 3) := bz_c20 (by decide +kernel)
theorem d_RE_readMemory_64 : decode b_RE_readMemory 64 = .ok (.invokevirtual 64, 3) := bz_c182 (by decide +kernel)
theorem d_RE_readMemory_67 : decode b_RE_readMemory 67 = .ok (.goto 6, 3) := bz_c167 (by decide +kernel)
theorem d_RE_readMemory_70 : decode b_RE_readMemory 70 = .ok (.ldc2_w 127, 3) := bz_c20 (by decide +kernel)
theorem d_RE_readMemory_73 : decode b_RE_readMemory 73 = .ok (.putfield 129, 3) := bz_c181 (by decide +kernel)
theorem d_RE_readMemory_76 : decode b_RE_readMemory 76 = .ok (.return_, 1) := bz_c177 (by decide +kernel)
theorem kM_RE_118 : Cond.methodLink R_RE 118 y_RE_readFlag ∈ lw_g := in_c6 109 rfl rfl
theorem kV_RE_readFlag : Cond.instanceMethod y_RE_readFlag ∈ lw_g := in_c6 111 rfl rfl
theorem kS_RE_readFlag : Cond.selects R_RE y_RE_readFlag y_RE_readFlag ∈ lw_g := in_s 68 (by decide +kernel) rfl
theorem kF_RE_115 : Cond.fieldLink R_RE 115 "WaferForge$Wafer" "hasMemory" "Z" ∈ lw_g := in_c1 167 rfl rfl
theorem kF_RE_123 : Cond.fieldLink R_RE 123 "WaferForge$Wafer" "pagesLeast" "J" ∈ lw_g := in_c1 171 rfl rfl
theorem kF_RE_129 : Cond.fieldLink R_RE 129 "WaferForge$Wafer" "pagesMost" "J" ∈ lw_g := in_c1 174 rfl rfl
abbrev at_RE_readMemory (dC : Nat → ClassId) (dI : Nat → Nat → Nat) (h0 aw ac ob ab wat wap wag waf wgt wft wfv wgc wek wei wes wez ax : Nat) (cax : ClassId) (h0_limit : Int32) (h0_codeCount : Int32) (h0_openCount : Int32) (aw_typeCount : Int32) (aw_functionCount : Int32) (aw_globalCount : Int32) (aw_exportCount : Int32) (ab_length : Int32) (gax : Nat → Int32) (A : Nat → Prop) (u : Int32 × Int64 × Int64 × Int32 × Int32) (t : State) : Prop := match u with | (aw_hasMemory, aw_pagesLeast, aw_pagesMost, h0_at, h0_sound) => va_P (dC, dI) cls (wz_46 h0 aw ac h0_at h0_limit h0_sound h0_codeCount ob h0_openCount aw ab ac aw_typeCount wat wap wag aw_functionCount waf aw_hasMemory aw_pagesLeast aw_pagesMost aw_globalCount wgt wft wfv wgc aw_exportCount wek wei wes wez ab ax ab_length ax cax gax) t.heap ∧ va_K (dC, dI) cls [(cax, .byte)] t ∧ va_D A (wz_46 h0 aw ac h0_at h0_limit h0_sound h0_codeCount ob h0_openCount aw ab ac aw_typeCount wat wap wag aw_functionCount waf aw_hasMemory aw_pagesLeast aw_pagesMost aw_globalCount wgt wft wfv wgc aw_exportCount wek wei wes wez ab ax ab_length ax cax gax)
set_option maxHeartbeats 4000000 in
set_option maxRecDepth 100000 in
theorem c_RE_readMemory (l : Launch) (dC : Nat → ClassId) (dI : Nat → Nat → Nat) (sz : Nat) (h0 aw ac ob ab wat wap wag waf wgt wft wfv wgc wek wei wes wez ax : Nat) (cax : ClassId) (h0_at : Int32) (h0_limit : Int32) (h0_sound : Int32) (h0_codeCount : Int32) (h0_openCount : Int32) (aw_typeCount : Int32) (aw_functionCount : Int32) (aw_hasMemory : Int32) (aw_pagesLeast : Int64) (aw_pagesMost : Int64) (aw_globalCount : Int32) (aw_exportCount : Int32) (ab_length : Int32) (gax : Nat → Int32)  (b_h0_sound : h0_sound = 0 ∨ h0_sound = 1) (b_aw_hasMemory : aw_hasMemory = 0 ∨ aw_hasMemory = 1)   (ha : 0 ≤ h0_at.toInt ∧ h0_at.toInt ≤ h0_limit.toInt ∧ h0_limit.toInt ≤ ab_length.toInt ∧ ab_length.toInt ≤ 8192) : Met l y_RE_readMemory w_RE_readMemory ({ frames := 2, cells := 0, slots := 0, locals := 46 }) (va_Pc [.ref h0] (fun U => U.heap.size = sz ∧ va_P (dC, dI) cls (wz_46 h0 aw ac h0_at h0_limit h0_sound h0_codeCount ob h0_openCount aw ab ac aw_typeCount wat wap wag aw_functionCount waf aw_hasMemory aw_pagesLeast aw_pagesMost aw_globalCount wgt wft wfv wgc aw_exportCount wek wei wes wez ab ax ab_length ax cax gax) U.heap ∧ va_K (dC, dI) cls [(cax, .byte)] U ∧ va_D (fun _ => True) (wz_46 h0 aw ac h0_at h0_limit h0_sound h0_codeCount ob h0_openCount aw ab ac aw_typeCount wat wap wag aw_functionCount waf aw_hasMemory aw_pagesLeast aw_pagesMost aw_globalCount wgt wft wfv wgc aw_exportCount wek wei wes wez ab ax ab_length ax cax gax))) (va_Qv (fun (u : Int32 × Int64 × Int64 × Int32 × Int32) => match u with | (aw_hasMemory2, aw_pagesLeast2, aw_pagesMost2, h0_at2, h0_sound2) => (aw_hasMemory2 = 0 ∨ aw_hasMemory2 = 1) ∧ (h0_sound2 = 0 ∨ h0_sound2 = 1) ∧ ((h0_at.toInt ≤ h0_at2.toInt ∧ h0_at2.toInt ≤ h0_limit.toInt) ∧ (h0_sound2.toInt = 1 → h0_sound.toInt = 1) ∧ (0 ≤ aw_pagesLeast2.toInt ∨ aw_pagesLeast2 = aw_pagesLeast) ∧ (-1 ≤ aw_pagesMost2.toInt ∨ aw_pagesMost2 = aw_pagesMost))) (at_RE_readMemory dC dI h0 aw ac ob ab wat wap wag waf wgt wft wfv wgc wek wei wes wez ax cax h0_limit h0_codeCount h0_openCount aw_typeCount aw_functionCount aw_globalCount aw_exportCount ab_length gax (va_A (wz_46 h0 aw ac h0_at h0_limit h0_sound h0_codeCount ob h0_openCount aw ab ac aw_typeCount wat wap wag aw_functionCount waf aw_hasMemory aw_pagesLeast aw_pagesMost aw_globalCount wgt wft wfv wgc aw_exportCount wek wei wes wez ab ax ab_length ax cax gax) sz)) (va_A (wz_46 h0 aw ac h0_at h0_limit h0_sound h0_codeCount ob h0_openCount aw ab ac aw_typeCount wat wap wag aw_functionCount waf aw_hasMemory aw_pagesLeast aw_pagesMost aw_globalCount wgt wft wfv wgc aw_exportCount wek wei wes wez ab ax ab_length ax cax gax) sz)) 0 0 (va_A (wz_46 h0 aw ac h0_at h0_limit h0_sound h0_codeCount ob h0_openCount aw ab ac aw_typeCount wat wap wag aw_functionCount waf aw_hasMemory aw_pagesLeast aw_pagesMost aw_globalCount wgt wft wfv wgc aw_exportCount wek wei wes wez ab ax ab_length ax cax gax) sz) := by
  refine Met.ofW (cc := b_RE_readMemory) (maxL := 2) (ret := none) (by decide) rfl ?_
  intro p e s m args below meth c s₁ B hml hv
  obtain ⟨rfl, hsz, hP, hK, hD0⟩ := hv
  have hx := B.exec
  have hb := B.bytes
  have hr := B.returns
  have hts0 := atoms_spec (ws := w_RE_readMemory) B.pre
  have hts : ∀ w ∈ lw_g, w.before _ s = true := fun w h => hts0 w (List.mem_cons_of_mem _ h)
  have hown : s.vm.findClass R_RE = some m.cls := findClass_of_methodNamed B.named
  have hlocks := B.notSynchronized
  clear hts0
  subst hsz
  have hD := hD0.self (sz := s.heap.size)
  generalize hAe : va_A (wz_46 h0 aw ac h0_at h0_limit h0_sound h0_codeCount ob h0_openCount aw ab ac aw_typeCount wat wap wag aw_functionCount waf aw_hasMemory aw_pagesLeast aw_pagesMost aw_globalCount wgt wft wfv wgc aw_exportCount wek wei wes wez ab ax ab_length ax cax gax) s.heap.size = A at hD ⊢
  have hA : ∀ q : Nat, s.heap.size ≤ q → A q := fun q h => by rw [← hAe]; exact Or.inr h
  clear hAe
  have hP : va_P (dC, dI) cls (wz_46 h0 aw ac h0_at h0_limit h0_sound h0_codeCount ob h0_openCount aw ab ac aw_typeCount wat wap wag aw_functionCount waf aw_hasMemory aw_pagesLeast aw_pagesMost aw_globalCount wgt wft wfv wgc aw_exportCount wek wei wes wez ab ax ab_length ax cax gax) s.heap := hP
  have hl := lv_entry ([.ref h0]) (n := 2) (Nat.le_of_ble_eq_true rfl)
  rw [lg_entry_eq]
  generalize (lg_sl ([.ref h0]) ++ List.replicate (2 - (lg_sl ([.ref h0])).length) Slot.unset).toArray = ls at hl ⊢
  have hl : lv_has ls 2 [(0, .ref h0)] := hl
  have k0 : (0 : Int32).toInt = 0 := by decide
  refine w_gen (A := A) hP (fun H locs hP hS => ?_)
  have k1 : (1 : Int32).toInt = 1 := by decide
  have th0_sound := b01 b_h0_sound
  have taw_hasMemory := b01 b_aw_hasMemory
  refine lv_aload_n hx hb d_RE_readMemory_0 rfl (lv_at hl 0 rfl) ?_
  refine va_get (D := (dC, dI)) (ci := 7) (v := .ref aw) (C := R_RE) (T := F_RE) (N := 8) hx hb hts i_RE hown hK hP 0 rfl rfl 0 (by decide) (hts _ kF_RE_15) (fun _ h9 => h9) rfl d_RE_readMemory_1 ?_
  refine lv_aload_n hx hb d_RE_readMemory_4 rfl (lv_at hl 0 rfl) ?_
  refine lv_lconst (v := 1) hx hb d_RE_readMemory_5 (by decide) ?_
  have kl1 : (1 : Int64).toInt = 1 := by decide
  have hPc := hP.sb (wq := (wz_46 h0 aw ac h0_at h0_limit h0_sound h0_codeCount ob h0_openCount aw ab ac aw_typeCount wat wap wag aw_functionCount waf aw_hasMemory aw_pagesLeast aw_pagesMost aw_globalCount wgt wft wfv wgc aw_exportCount wek wei wes wez ab ax ab_length ax cax gax)) [0, 1, 2, 3] rfl
  have hDc := hD.sb (wq := (wz_46 h0 aw ac h0_at h0_limit h0_sound h0_codeCount ob h0_openCount aw ab ac aw_typeCount wat wap wag aw_functionCount waf aw_hasMemory aw_pagesLeast aw_pagesMost aw_globalCount wgt wft wfv wgc aw_exportCount wek wei wes wez ab ax ab_length ax cax gax)) [0, 1, 2, 3] (by decide) rfl
  have hKc := hK.sb (tyq := [(cax, .byte)]) [0] rfl
  have hFc := va_free (wc := (wz_46 h0 aw ac h0_at h0_limit h0_sound h0_codeCount ob h0_openCount aw ab ac aw_typeCount wat wap wag aw_functionCount waf aw_hasMemory aw_pagesLeast aw_pagesMost aw_globalCount wgt wft wfv wgc aw_exportCount wek wei wes wez ab ax ab_length ax cax gax)) hD hS hA [0, 1, 2, 3] rfl
  refine va_calll (va_runV (As := [.long 1]) (rest := [.ref aw]) ⟨hx, hb, hml, hown, hts⟩ (c_RE_readUnsigned l dC dI h0 aw ac ob ab ax H.size cax 8192 h0_at h0_limit h0_sound h0_codeCount h0_openCount ab_length gax [.ref ab, .ref ac, .int aw_typeCount, .ref wat, .ref wap, .ref wag, .int aw_functionCount, .ref waf, .int aw_hasMemory, .long aw_pagesLeast, .long aw_pagesMost, .int aw_globalCount, .ref wgt, .ref wft, .ref wfv, .ref wgc, .int aw_exportCount, .ref wek, .ref wei, .ref wes, .ref wez] rfl rfl b_h0_sound (by (first | (apply Int.le_antisymm <;> omega) | omega)) 1 (by (first | (apply Int.le_antisymm <;> omega) | omega))) (cwV 1 hts (gV kM_RE_64 kV_RE_readUnsigned kS_RE_readUnsigned kI_RE kC_RE_readUnsigned) rfl rfl rfl (by decide +kernel) ⟨Nat.le_of_ble_eq_true rfl, Nat.le_of_ble_eq_true rfl⟩) ⟨fun a U g mk z => by obtain ⟨z0, z1, zP, zK, zD⟩ := z; exact ⟨z0, z1, zP, va_K.moved (u := U) (U := U.calling g mk a) (Vm.Alike.refl U.vm) zK, zD⟩, va_recv hKc hPc (ci := 7) (q0 := 0) rfl rfl, fun U hU hW => ⟨rfl, by rw [hU], va_P.he hU.symm hPc, va_K.moved hW.alike hKc, hDc.weaken (fun _ _ _ _ => trivial)⟩⟩ rfl rfl hl.1 rfl (lv_room (Nat.le_of_ble_eq_true rfl)) d_RE_readMemory_6 ⟨(Nat.zero_le _), (Nat.zero_le _)⟩) hS (fun q _ h => hFc q h) hFc (fun r1 u t H1 locs ht hvm hw hB hz1 hk1 hS => ?_)
  obtain ⟨n2, n3⟩ := u
  try dsimp only at hw
  obtain ⟨hsn3, tn2⟩ := hw
  have bsn3 := b01 hsn3
  obtain ⟨hP1, hK1, hD1⟩ := hB
  replace hP1 := va_P.he ht hP1
  obtain ⟨hP, hD⟩ := va_join (wr := []) (w1 := (wz_46 h0 aw ac n2 h0_limit n3 h0_codeCount ob h0_openCount aw ab ac aw_typeCount wat wap wag aw_functionCount waf aw_hasMemory aw_pagesLeast aw_pagesMost aw_globalCount wgt wft wfv wgc aw_exportCount wek wei wes wez ab ax ab_length ax cax gax)) hP hD [0, 1, 2, 3] [] rfl rfl (by decide) (by decide) hk1 hFc hP1 hD1
  clear hPc hDc hKc hFc hz1 hk1 hP1 hK1 hD1
  rename Heap => H
  have hP : va_P (dC, dI) cls (wz_46 h0 aw ac n2 h0_limit n3 h0_codeCount ob h0_openCount aw ab ac aw_typeCount wat wap wag aw_functionCount waf aw_hasMemory aw_pagesLeast aw_pagesMost aw_globalCount wgt wft wfv wgc aw_exportCount wek wei wes wez ab ax ab_length ax cax gax) H := hP
  have hD : va_D A (wz_46 h0 aw ac n2 h0_limit n3 h0_codeCount ob h0_openCount aw ab ac aw_typeCount wat wap wag aw_functionCount waf aw_hasMemory aw_pagesLeast aw_pagesMost aw_globalCount wgt wft wfv wgc aw_exportCount wek wei wes wez ab ax ab_length ax cax gax) := hD
  refine lv_lconst (v := 1) hx hb d_RE_readMemory_9 (by decide) ?_
  have kl1 : (1 : Int64).toInt = 1 := by decide
  refine W.lcmp hx hb d_RE_readMemory_10 ?_
  refine lv_topi (fun x4 ex4 => ?_)
  have tx4 := lgc ex4
  refine w_cut (pc2 := 19) (σ := Int32) (fun u H locs ls => match u with | j19_s0 => (j19_s0 = 0 ∨ j19_s0 = 1) ∧ va_P (dC, dI) cls (wz_46 h0 aw ac n2 h0_limit n3 h0_codeCount ob h0_openCount aw ab ac aw_typeCount wat wap wag aw_functionCount waf aw_hasMemory aw_pagesLeast aw_pagesMost aw_globalCount wgt wft wfv wgc aw_exportCount wek wei wes wez ab ax ab_length ax cax gax) H ∧ va_D A (wz_46 h0 aw ac n2 h0_limit n3 h0_codeCount ob h0_openCount aw ab ac aw_typeCount wat wap wag aw_functionCount waf aw_hasMemory aw_pagesLeast aw_pagesMost aw_globalCount wgt wft wfv wgc aw_exportCount wek wei wes wez ab ax ab_length ax cax gax) ∧ va_S A s.heap H locs ∧ lv_has ls 2 [(0, .ref h0)]) (fun u => match u with | j19_s0 => [.int j19_s0, .ref aw]) ?_ (fun jn19 => ?_)
  · intro u H locs ls hI
    obtain ⟨j19_s0, rfl⟩ : ∃ z, z = u := ⟨_, rfl⟩
    obtain ⟨b_j19_s0, hP, hD, hS, hl⟩ := hI
    have tj19_s0 := b01 b_j19_s0
    refine va_put (D := (dC, dI)) (ci := 10) (v := .int j19_s0) (ty := .boolean) (C := R_WA) (T := F_WA) (N := 21) hx hb hts i_WA t_WA t_WA_ok n_WA hown hK hP hD hS 1 rfl rfl 8 (by decide) (hts _ kF_RE_115) (fun _ h9 => h9) rfl (by decide +kernel) (zn01 (b_j19_s0)) (fz01 (b_j19_s0)) (Nat.le_of_ble_eq_true rfl) d_RE_readMemory_19 (fun H locs hP hD hS => ?_)
    refine lv_aload_n hx hb d_RE_readMemory_22 rfl (lv_at hl 0 rfl) ?_
    refine va_get (D := (dC, dI)) (ci := 7) (v := .ref aw) (C := R_RE) (T := F_RE) (N := 8) hx hb hts i_RE hown hK hP 0 rfl rfl 0 (by decide) (hts _ kF_RE_15) (fun _ h9 => h9) rfl d_RE_readMemory_23 ?_
    refine va_get (D := (dC, dI)) (ci := 10) (v := .int j19_s0) (C := R_WA) (T := F_WA) (N := 21) hx hb hts i_WA hown hK hP 1 rfl rfl 8 (by decide) (hts _ kF_RE_115) (fun _ h9 => h9) rfl d_RE_readMemory_26 ?_
    refine lv_if_eq (tgt := 76) hx hb d_RE_readMemory_29 (by decide) (fun c29 => ?_) (fun c29 => ?_)
    · have q29 := eqI c29
      have hP9 := hP.sb (wq := (wz_46 h0 aw ac n2 h0_limit n3 h0_codeCount ob h0_openCount aw ab ac aw_typeCount wat wap wag aw_functionCount waf j19_s0 aw_pagesLeast aw_pagesMost aw_globalCount wgt wft wfv wgc aw_exportCount wek wei wes wez ab ax ab_length ax cax gax)) [0, 1, 2, 3] rfl
      have hD9 := hD.sb (wq := (wz_46 h0 aw ac n2 h0_limit n3 h0_codeCount ob h0_openCount aw ab ac aw_typeCount wat wap wag aw_functionCount waf j19_s0 aw_pagesLeast aw_pagesMost aw_globalCount wgt wft wfv wgc aw_exportCount wek wei wes wez ab ax ab_length ax cax gax)) [0, 1, 2, 3] (by decide) rfl
      exact W.vret hx hb hr (fun t ht hW => ⟨⟨(j19_s0, aw_pagesLeast, aw_pagesMost, n2, n3), rfl, ⟨b_j19_s0, hsn3, ⟨⟨by (try dsimp only); (first | (apply Int.le_antisymm <;> omega) | omega), by (try dsimp only); (first | (apply Int.le_antisymm <;> omega) | omega)⟩, fun z => by (try dsimp only at z); (first | (apply Int.le_antisymm <;> omega) | omega), Or.inr rfl, Or.inr rfl⟩⟩, va_P.he ht.symm hP9, va_K.moved hW.alike hK, hD9⟩, hS.F ht⟩) hS.2.2 d_RE_readMemory_76
    · have q29 := neI c29
      refine lv_aload_n hx hb d_RE_readMemory_32 rfl (lv_at hl 0 rfl) ?_
      have hPc := hP.sb (wq := (wz_46 h0 aw ac n2 h0_limit n3 h0_codeCount ob h0_openCount aw ab ac aw_typeCount wat wap wag aw_functionCount waf j19_s0 aw_pagesLeast aw_pagesMost aw_globalCount wgt wft wfv wgc aw_exportCount wek wei wes wez ab ax ab_length ax cax gax)) [0, 1, 2, 3] rfl
      have hDc := hD.sb (wq := (wz_46 h0 aw ac n2 h0_limit n3 h0_codeCount ob h0_openCount aw ab ac aw_typeCount wat wap wag aw_functionCount waf j19_s0 aw_pagesLeast aw_pagesMost aw_globalCount wgt wft wfv wgc aw_exportCount wek wei wes wez ab ax ab_length ax cax gax)) [0, 1, 2, 3] (by decide) rfl
      have hKc := hK.sb (tyq := [(cax, .byte)]) [0] rfl
      have hFc := va_free (wc := (wz_46 h0 aw ac n2 h0_limit n3 h0_codeCount ob h0_openCount aw ab ac aw_typeCount wat wap wag aw_functionCount waf j19_s0 aw_pagesLeast aw_pagesMost aw_globalCount wgt wft wfv wgc aw_exportCount wek wei wes wez ab ax ab_length ax cax gax)) hD hS hA [0, 1, 2, 3] rfl
      refine va_calli (va_runV (As := []) (rest := []) ⟨hx, hb, hml, hown, hts⟩ (c_RE_readFlag l dC dI h0 aw ac ob ab ax H.size cax 8192 n2 h0_limit n3 h0_codeCount h0_openCount ab_length gax [.ref ab, .ref ac, .int aw_typeCount, .ref wat, .ref wap, .ref wag, .int aw_functionCount, .ref waf, .int j19_s0, .long aw_pagesLeast, .long aw_pagesMost, .int aw_globalCount, .ref wgt, .ref wft, .ref wfv, .ref wgc, .int aw_exportCount, .ref wek, .ref wei, .ref wes, .ref wez] rfl rfl hsn3 (by (first | (apply Int.le_antisymm <;> omega) | omega)) ) (cwV 0 hts (gV kM_RE_118 kV_RE_readFlag kS_RE_readFlag kI_RE kC_RE_readFlag) rfl rfl rfl (by decide +kernel) ⟨Nat.le_of_ble_eq_true rfl, Nat.le_of_ble_eq_true rfl⟩) ⟨fun a U g mk z => by obtain ⟨z0, z1, zP, zK, zD⟩ := z; exact ⟨z0, z1, zP, va_K.moved (u := U) (U := U.calling g mk a) (Vm.Alike.refl U.vm) zK, zD⟩, va_recv hKc hPc (ci := 7) (q0 := 0) rfl rfl, fun U hU hW => ⟨rfl, by rw [hU], va_P.he hU.symm hPc, va_K.moved hW.alike hKc, hDc.weaken (fun _ _ _ _ => trivial)⟩⟩ rfl rfl hl.1 rfl (lv_room (Nat.le_of_ble_eq_true rfl)) d_RE_readMemory_33 ⟨(Nat.zero_le _), (Nat.zero_le _)⟩) hS (fun q _ h => hFc q h) hFc (fun r5 u t H1 locs ht hvm hw hB hz1 hk1 hS => ?_)
      obtain ⟨n6, n7⟩ := u
      try dsimp only at hw
      obtain ⟨hsn7, tn6⟩ := hw
      have bsn7 := b01 hsn7
      obtain ⟨hP1, hK1, hD1⟩ := hB
      replace hP1 := va_P.he ht hP1
      obtain ⟨hP, hD⟩ := va_join (wr := []) (w1 := (wz_46 h0 aw ac n6 h0_limit n7 h0_codeCount ob h0_openCount aw ab ac aw_typeCount wat wap wag aw_functionCount waf j19_s0 aw_pagesLeast aw_pagesMost aw_globalCount wgt wft wfv wgc aw_exportCount wek wei wes wez ab ax ab_length ax cax gax)) hP hD [0, 1, 2, 3] [] rfl rfl (by decide) (by decide) hk1 hFc hP1 hD1
      clear hPc hDc hKc hFc hz1 hk1 hP1 hK1 hD1
      rename Heap => H
      have hP : va_P (dC, dI) cls (wz_46 h0 aw ac n6 h0_limit n7 h0_codeCount ob h0_openCount aw ab ac aw_typeCount wat wap wag aw_functionCount waf j19_s0 aw_pagesLeast aw_pagesMost aw_globalCount wgt wft wfv wgc aw_exportCount wek wei wes wez ab ax ab_length ax cax gax) H := hP
      have hD : va_D A (wz_46 h0 aw ac n6 h0_limit n7 h0_codeCount ob h0_openCount aw ab ac aw_typeCount wat wap wag aw_functionCount waf j19_s0 aw_pagesLeast aw_pagesMost aw_globalCount wgt wft wfv wgc aw_exportCount wek wei wes wez ab ax ab_length ax cax gax) := hD
      refine lv_istore_n (lv' := [(1, .int r5), (0, .ref h0)]) hx hb d_RE_readMemory_36 rfl hl (by decide) rfl (fun ls hl => ?_)
      refine lv_aload_n hx hb d_RE_readMemory_37 rfl (lv_at hl 1 rfl) ?_
      refine va_get (D := (dC, dI)) (ci := 7) (v := .ref aw) (C := R_RE) (T := F_RE) (N := 8) hx hb hts i_RE hown hK hP 0 rfl rfl 0 (by decide) (hts _ kF_RE_15) (fun _ h9 => h9) rfl d_RE_readMemory_38 ?_
      refine lv_aload_n hx hb d_RE_readMemory_41 rfl (lv_at hl 1 rfl) ?_
      refine lv_ldc2 hx hb hown (hts _ kL_RE_121) d_RE_readMemory_42 ?_
      refine lv_topl (fun x8 ex8 => ?_)
      have tx8 : x8.toInt = 4294967295 := by rw [ex8]; decide
      have hPc := hP.sb (wq := (wz_46 h0 aw ac n6 h0_limit n7 h0_codeCount ob h0_openCount aw ab ac aw_typeCount wat wap wag aw_functionCount waf j19_s0 aw_pagesLeast aw_pagesMost aw_globalCount wgt wft wfv wgc aw_exportCount wek wei wes wez ab ax ab_length ax cax gax)) [0, 1, 2, 3] rfl
      have hDc := hD.sb (wq := (wz_46 h0 aw ac n6 h0_limit n7 h0_codeCount ob h0_openCount aw ab ac aw_typeCount wat wap wag aw_functionCount waf j19_s0 aw_pagesLeast aw_pagesMost aw_globalCount wgt wft wfv wgc aw_exportCount wek wei wes wez ab ax ab_length ax cax gax)) [0, 1, 2, 3] (by decide) rfl
      have hKc := hK.sb (tyq := [(cax, .byte)]) [0] rfl
      have hFc := va_free (wc := (wz_46 h0 aw ac n6 h0_limit n7 h0_codeCount ob h0_openCount aw ab ac aw_typeCount wat wap wag aw_functionCount waf j19_s0 aw_pagesLeast aw_pagesMost aw_globalCount wgt wft wfv wgc aw_exportCount wek wei wes wez ab ax ab_length ax cax gax)) hD hS hA [0, 1, 2, 3] rfl
      refine va_calll (va_runV (As := [.long x8]) (rest := [.ref aw]) ⟨hx, hb, hml, hown, hts⟩ (c_RE_readUnsigned l dC dI h0 aw ac ob ab ax H.size cax 8192 n6 h0_limit n7 h0_codeCount h0_openCount ab_length gax [.ref ab, .ref ac, .int aw_typeCount, .ref wat, .ref wap, .ref wag, .int aw_functionCount, .ref waf, .int j19_s0, .long aw_pagesLeast, .long aw_pagesMost, .int aw_globalCount, .ref wgt, .ref wft, .ref wfv, .ref wgc, .int aw_exportCount, .ref wek, .ref wei, .ref wes, .ref wez] rfl rfl hsn7 (by (first | (apply Int.le_antisymm <;> omega) | omega)) x8 (by (first | (apply Int.le_antisymm <;> omega) | omega))) (cwV 1 hts (gV kM_RE_64 kV_RE_readUnsigned kS_RE_readUnsigned kI_RE kC_RE_readUnsigned) rfl rfl rfl (by decide +kernel) ⟨Nat.le_of_ble_eq_true rfl, Nat.le_of_ble_eq_true rfl⟩) ⟨fun a U g mk z => by obtain ⟨z0, z1, zP, zK, zD⟩ := z; exact ⟨z0, z1, zP, va_K.moved (u := U) (U := U.calling g mk a) (Vm.Alike.refl U.vm) zK, zD⟩, va_recv hKc hPc (ci := 7) (q0 := 0) rfl rfl, fun U hU hW => ⟨rfl, by rw [hU], va_P.he hU.symm hPc, va_K.moved hW.alike hKc, hDc.weaken (fun _ _ _ _ => trivial)⟩⟩ rfl rfl hl.1 rfl (lv_room (Nat.le_of_ble_eq_true rfl)) d_RE_readMemory_45 ⟨(Nat.zero_le _), (Nat.zero_le _)⟩) hS (fun q _ h => hFc q h) hFc (fun r9 u t H1 locs ht hvm hw hB hz1 hk1 hS => ?_)
      obtain ⟨n10, n11⟩ := u
      try dsimp only at hw
      obtain ⟨hsn11, tn10⟩ := hw
      have bsn11 := b01 hsn11
      obtain ⟨hP1, hK1, hD1⟩ := hB
      replace hP1 := va_P.he ht hP1
      obtain ⟨hP, hD⟩ := va_join (wr := []) (w1 := (wz_46 h0 aw ac n10 h0_limit n11 h0_codeCount ob h0_openCount aw ab ac aw_typeCount wat wap wag aw_functionCount waf j19_s0 aw_pagesLeast aw_pagesMost aw_globalCount wgt wft wfv wgc aw_exportCount wek wei wes wez ab ax ab_length ax cax gax)) hP hD [0, 1, 2, 3] [] rfl rfl (by decide) (by decide) hk1 hFc hP1 hD1
      clear hPc hDc hKc hFc hz1 hk1 hP1 hK1 hD1
      rename Heap => H
      have hP : va_P (dC, dI) cls (wz_46 h0 aw ac n10 h0_limit n11 h0_codeCount ob h0_openCount aw ab ac aw_typeCount wat wap wag aw_functionCount waf j19_s0 aw_pagesLeast aw_pagesMost aw_globalCount wgt wft wfv wgc aw_exportCount wek wei wes wez ab ax ab_length ax cax gax) H := hP
      have hD : va_D A (wz_46 h0 aw ac n10 h0_limit n11 h0_codeCount ob h0_openCount aw ab ac aw_typeCount wat wap wag aw_functionCount waf j19_s0 aw_pagesLeast aw_pagesMost aw_globalCount wgt wft wfv wgc aw_exportCount wek wei wes wez ab ax ab_length ax cax gax) := hD
      refine va_put (D := (dC, dI)) (ci := 10) (v := .long r9) (ty := .long) (C := R_WA) (T := F_WA) (N := 21) hx hb hts i_WA t_WA t_WA_ok n_WA hown hK hP hD hS 1 rfl rfl 9 (by decide) (hts _ kF_RE_123) (fun _ h9 => h9) rfl (by decide +kernel) rfl rfl (Nat.le_of_ble_eq_true rfl) d_RE_readMemory_48 (fun H locs hP hD hS => ?_)
      refine lv_aload_n hx hb d_RE_readMemory_51 rfl (lv_at hl 1 rfl) ?_
      refine va_get (D := (dC, dI)) (ci := 7) (v := .ref aw) (C := R_RE) (T := F_RE) (N := 8) hx hb hts i_RE hown hK hP 0 rfl rfl 0 (by decide) (hts _ kF_RE_15) (fun _ h9 => h9) rfl d_RE_readMemory_52 ?_
      refine lv_iload_n hx hb d_RE_readMemory_55 rfl (lv_at hl 0 rfl) ?_
      refine lv_iconst (v := 1) hx hb d_RE_readMemory_56 (by decide) ?_
      refine w_cut (pc2 := 73) (σ := Int64 × Int32 × Int32) (fun u H locs ls => match u with | (j73_s0, j73_h0_at, j73_h0_sound) => (j73_h0_sound = 0 ∨ j73_h0_sound = 1) ∧ (h0_at.toInt ≤ j73_h0_at.toInt ∧ j73_h0_at.toInt ≤ h0_limit.toInt) ∧ (j73_h0_sound.toInt = 1 → n11.toInt = 1) ∧ (-1 ≤ j73_s0.toInt ∧ j73_s0.toInt ≤ 4294967295) ∧ va_P (dC, dI) cls (wz_46 h0 aw ac j73_h0_at h0_limit j73_h0_sound h0_codeCount ob h0_openCount aw ab ac aw_typeCount wat wap wag aw_functionCount waf j19_s0 r9 aw_pagesMost aw_globalCount wgt wft wfv wgc aw_exportCount wek wei wes wez ab ax ab_length ax cax gax) H ∧ va_D A (wz_46 h0 aw ac j73_h0_at h0_limit j73_h0_sound h0_codeCount ob h0_openCount aw ab ac aw_typeCount wat wap wag aw_functionCount waf j19_s0 r9 aw_pagesMost aw_globalCount wgt wft wfv wgc aw_exportCount wek wei wes wez ab ax ab_length ax cax gax) ∧ va_S A s.heap H locs ∧ lv_has ls 2 []) (fun u => match u with | (j73_s0, j73_h0_at, j73_h0_sound) => [.long j73_s0, .ref aw]) ?_ (fun jn73 => ?_)
      · intro u H locs ls hI
        obtain ⟨j73_s0, j73_h0_at, j73_h0_sound⟩ := u
        obtain ⟨b_j73_h0_sound, w1, w2, w3, hP, hD, hS, hl⟩ := hI
        have tj73_h0_sound := b01 b_j73_h0_sound
        refine va_put (D := (dC, dI)) (ci := 10) (v := .long j73_s0) (ty := .long) (C := R_WA) (T := F_WA) (N := 21) hx hb hts i_WA t_WA t_WA_ok n_WA hown hK hP hD hS 1 rfl rfl 10 (by decide) (hts _ kF_RE_129) (fun _ h9 => h9) rfl (by decide +kernel) rfl rfl (Nat.le_of_ble_eq_true rfl) d_RE_readMemory_73 (fun H locs hP hD hS => ?_)
        have hP9 := hP.sb (wq := (wz_46 h0 aw ac j73_h0_at h0_limit j73_h0_sound h0_codeCount ob h0_openCount aw ab ac aw_typeCount wat wap wag aw_functionCount waf j19_s0 r9 j73_s0 aw_globalCount wgt wft wfv wgc aw_exportCount wek wei wes wez ab ax ab_length ax cax gax)) [0, 1, 2, 3] rfl
        have hD9 := hD.sb (wq := (wz_46 h0 aw ac j73_h0_at h0_limit j73_h0_sound h0_codeCount ob h0_openCount aw ab ac aw_typeCount wat wap wag aw_functionCount waf j19_s0 r9 j73_s0 aw_globalCount wgt wft wfv wgc aw_exportCount wek wei wes wez ab ax ab_length ax cax gax)) [0, 1, 2, 3] (by decide) rfl
        exact W.vret hx hb hr (fun t ht hW => ⟨⟨(j19_s0, r9, j73_s0, j73_h0_at, j73_h0_sound), rfl, ⟨b_j19_s0, b_j73_h0_sound, ⟨⟨by (try dsimp only); (first | (apply Int.le_antisymm <;> omega) | omega), by (try dsimp only); (first | (apply Int.le_antisymm <;> omega) | omega)⟩, fun z => by (try dsimp only at z); (first | (apply Int.le_antisymm <;> omega) | omega), Or.inl (by (try dsimp only); (first | (apply Int.le_antisymm <;> omega) | omega)), Or.inl (by (try dsimp only); (first | (apply Int.le_antisymm <;> omega) | omega))⟩⟩, va_P.he ht.symm hP9, va_K.moved hW.alike hK, hD9⟩, hS.F ht⟩) hS.2.2 d_RE_readMemory_76
      · skip
        refine lv_icmp_ne (tgt := 70) hx hb d_RE_readMemory_57 (by decide) (fun c57 => ?_) (fun c57 => ?_)
        · have q57 := neI c57
          refine lv_ldc2 hx hb hown (hts _ kL_RE_127) d_RE_readMemory_70 ?_
          refine lv_topl (fun x12 ex12 => ?_)
          have tx12 : x12.toInt = -1 := by rw [ex12]; decide
          exact jn73 (x12, n10, n11) _ _ _ ⟨hsn11, by (try dsimp only); (first | (apply Int.le_antisymm <;> omega) | omega), by (try dsimp only); (first | (apply Int.le_antisymm <;> omega) | omega), by (try dsimp only); (first | (apply Int.le_antisymm <;> omega) | omega), hP, hD, hS, lv_sub hl [] rfl⟩
        · have q57 := eqI c57
          refine lv_aload_n hx hb d_RE_readMemory_60 rfl (lv_at hl 1 rfl) ?_
          refine lv_ldc2 hx hb hown (hts _ kL_RE_121) d_RE_readMemory_61 ?_
          refine lv_topl (fun x13 ex13 => ?_)
          have tx13 : x13.toInt = 4294967295 := by rw [ex13]; decide
          have hPc := hP.sb (wq := (wz_46 h0 aw ac n10 h0_limit n11 h0_codeCount ob h0_openCount aw ab ac aw_typeCount wat wap wag aw_functionCount waf j19_s0 r9 aw_pagesMost aw_globalCount wgt wft wfv wgc aw_exportCount wek wei wes wez ab ax ab_length ax cax gax)) [0, 1, 2, 3] rfl
          have hDc := hD.sb (wq := (wz_46 h0 aw ac n10 h0_limit n11 h0_codeCount ob h0_openCount aw ab ac aw_typeCount wat wap wag aw_functionCount waf j19_s0 r9 aw_pagesMost aw_globalCount wgt wft wfv wgc aw_exportCount wek wei wes wez ab ax ab_length ax cax gax)) [0, 1, 2, 3] (by decide) rfl
          have hKc := hK.sb (tyq := [(cax, .byte)]) [0] rfl
          have hFc := va_free (wc := (wz_46 h0 aw ac n10 h0_limit n11 h0_codeCount ob h0_openCount aw ab ac aw_typeCount wat wap wag aw_functionCount waf j19_s0 r9 aw_pagesMost aw_globalCount wgt wft wfv wgc aw_exportCount wek wei wes wez ab ax ab_length ax cax gax)) hD hS hA [0, 1, 2, 3] rfl
          refine va_calll (va_runV (As := [.long x13]) (rest := [.ref aw]) ⟨hx, hb, hml, hown, hts⟩ (c_RE_readUnsigned l dC dI h0 aw ac ob ab ax H.size cax 8192 n10 h0_limit n11 h0_codeCount h0_openCount ab_length gax [.ref ab, .ref ac, .int aw_typeCount, .ref wat, .ref wap, .ref wag, .int aw_functionCount, .ref waf, .int j19_s0, .long r9, .long aw_pagesMost, .int aw_globalCount, .ref wgt, .ref wft, .ref wfv, .ref wgc, .int aw_exportCount, .ref wek, .ref wei, .ref wes, .ref wez] rfl rfl hsn11 (by (first | (apply Int.le_antisymm <;> omega) | omega)) x13 (by (first | (apply Int.le_antisymm <;> omega) | omega))) (cwV 1 hts (gV kM_RE_64 kV_RE_readUnsigned kS_RE_readUnsigned kI_RE kC_RE_readUnsigned) rfl rfl rfl (by decide +kernel) ⟨Nat.le_of_ble_eq_true rfl, Nat.le_of_ble_eq_true rfl⟩) ⟨fun a U g mk z => by obtain ⟨z0, z1, zP, zK, zD⟩ := z; exact ⟨z0, z1, zP, va_K.moved (u := U) (U := U.calling g mk a) (Vm.Alike.refl U.vm) zK, zD⟩, va_recv hKc hPc (ci := 7) (q0 := 0) rfl rfl, fun U hU hW => ⟨rfl, by rw [hU], va_P.he hU.symm hPc, va_K.moved hW.alike hKc, hDc.weaken (fun _ _ _ _ => trivial)⟩⟩ rfl rfl hl.1 rfl (lv_room (Nat.le_of_ble_eq_true rfl)) d_RE_readMemory_64 ⟨(Nat.zero_le _), (Nat.zero_le _)⟩) hS (fun q _ h => hFc q h) hFc (fun r14 u t H1 locs ht hvm hw hB hz1 hk1 hS => ?_)
          obtain ⟨n15, n16⟩ := u
          try dsimp only at hw
          obtain ⟨hsn16, tn15⟩ := hw
          have bsn16 := b01 hsn16
          obtain ⟨hP1, hK1, hD1⟩ := hB
          replace hP1 := va_P.he ht hP1
          obtain ⟨hP, hD⟩ := va_join (wr := []) (w1 := (wz_46 h0 aw ac n15 h0_limit n16 h0_codeCount ob h0_openCount aw ab ac aw_typeCount wat wap wag aw_functionCount waf j19_s0 r9 aw_pagesMost aw_globalCount wgt wft wfv wgc aw_exportCount wek wei wes wez ab ax ab_length ax cax gax)) hP hD [0, 1, 2, 3] [] rfl rfl (by decide) (by decide) hk1 hFc hP1 hD1
          clear hPc hDc hKc hFc hz1 hk1 hP1 hK1 hD1
          rename Heap => H
          have hP : va_P (dC, dI) cls (wz_46 h0 aw ac n15 h0_limit n16 h0_codeCount ob h0_openCount aw ab ac aw_typeCount wat wap wag aw_functionCount waf j19_s0 r9 aw_pagesMost aw_globalCount wgt wft wfv wgc aw_exportCount wek wei wes wez ab ax ab_length ax cax gax) H := hP
          have hD : va_D A (wz_46 h0 aw ac n15 h0_limit n16 h0_codeCount ob h0_openCount aw ab ac aw_typeCount wat wap wag aw_functionCount waf j19_s0 r9 aw_pagesMost aw_globalCount wgt wft wfv wgc aw_exportCount wek wei wes wez ab ax ab_length ax cax gax) := hD
          refine lv_goto (tgt := 73) hx hb d_RE_readMemory_67 (by decide) ?_
          exact jn73 (r14, n15, n16) _ _ _ ⟨hsn16, by (try dsimp only); (first | (apply Int.le_antisymm <;> omega) | omega), by (try dsimp only); (first | (apply Int.le_antisymm <;> omega) | omega), by (try dsimp only); (first | (apply Int.le_antisymm <;> omega) | omega), hP, hD, hS, lv_sub hl [] rfl⟩
  · skip
    refine lv_if_ne (tgt := 18) hx hb d_RE_readMemory_11 (by decide) (fun c11 => ?_) (fun c11 => ?_)
    · have q11 := neI c11
      refine lv_iconst (v := 0) hx hb d_RE_readMemory_18 (by decide) ?_
      exact jn19 0 _ _ _ ⟨Or.inl rfl, hP, hD, hS, lv_sub hl [0] rfl⟩
    · have q11 := eqI c11
      refine lv_iconst (v := 1) hx hb d_RE_readMemory_14 (by decide) ?_
      refine lv_goto (tgt := 19) hx hb d_RE_readMemory_15 (by decide) ?_
      exact jn19 1 _ _ _ ⟨Or.inr rfl, hP, hD, hS, lv_sub hl [0] rfl⟩
abbrev b_RE_readTypes : ByteArray := prog_9_method_4_code
def y_RE_readTypes : MethodName := ⟨R_RE, "readTypes", "()V"⟩
abbrev w_RE_readTypes : List Cond := .code y_RE_readTypes b_RE_readTypes 4 none :: lw_g
theorem kC_RE_readTypes : Cond.code y_RE_readTypes b_RE_readTypes 4 none ∈ lw_g := in_c6 96 rfl rfl
theorem d_RE_readTypes_0 : decode b_RE_readTypes 0 = .ok (.aload_n 0, 1) := bz_c42 (by decide +kernel)
theorem d_RE_readTypes_1 : decode b_RE_readTypes 1 = .ok (.getfield 15, 3) := bz_c180 (by decide +kernel)
theorem d_RE_readTypes_4 : decode b_RE_readTypes 4 = .ok (.aload_n 0, 1) := bz_c42 (by decide +kernel)
theorem d_RE_readTypes_5 : decode b_RE_readTypes 5 = .ok (.ldc2_w 96, 3) := bz_c20 (by decide +kernel)
theorem d_RE_readTypes_8 : decode b_RE_readTypes 8 = .ok (.invokevirtual 64, 3) := bz_c182 (by decide +kernel)
theorem d_RE_readTypes_11 : decode b_RE_readTypes 11 = .ok (.l2i, 1) := bz_c136 (by decide +kernel)
theorem d_RE_readTypes_12 : decode b_RE_readTypes 12 = .ok (.putfield 98, 3) := bz_c181 (by decide +kernel)
theorem d_RE_readTypes_15 : decode b_RE_readTypes 15 = .ok (.iconst 0, 1) := bz_c3 (by decide +kernel)
theorem d_RE_readTypes_16 : decode b_RE_readTypes 16 = .ok (.istore_n 1, 1) := bz_c60 (by decide +kernel)
theorem d_RE_readTypes_17 : decode b_RE_readTypes 17 = .ok (.iload_n 1, 1) := bz_c27 (by decide +kernel)
theorem d_RE_readTypes_18 : decode b_RE_readTypes 18 = .ok (.aload_n 0, 1) := bz_c42 (by decide +kernel)
theorem d_RE_readTypes_19 : decode b_RE_readTypes 19 = .ok (.getfield 15, 3) := bz_c180 (by decide +kernel)
theorem d_RE_readTypes_22 : decode b_RE_readTypes 22 = .ok (.getfield 98, 3) := bz_c180 (by decide +kernel)
theorem d_RE_readTypes_25 : decode b_RE_readTypes 25 = .ok (.if_icmp .ge 100, 3) := bz_c162 (by decide +kernel)
theorem d_RE_readTypes_28 : decode b_RE_readTypes 28 = .ok (.aload_n 0, 1) := bz_c42 (by decide +kernel)
theorem d_RE_readTypes_29 : decode b_RE_readTypes 29 = .ok (.getfield 45, 3) := bz_c180 (by decide +kernel)
theorem d_RE_readTypes_32 : decode b_RE_readTypes 32 = .ok (.ifCond .eq 93, 3) := bz_c153 (by decide +kernel)
theorem d_RE_readTypes_35 : decode b_RE_readTypes 35 = .ok (.aload_n 0, 1) := bz_c42 (by decide +kernel)
theorem d_RE_readTypes_36 : decode b_RE_readTypes 36 = .ok (.bipush 96, 2) := bz_c16 (by decide +kernel)
theorem d_RE_readTypes_38 : decode b_RE_readTypes 38 = .ok (.invokevirtual 56, 3) := bz_c182 (by decide +kernel)
theorem d_RE_readTypes_41 : decode b_RE_readTypes 41 = .ok (.aload_n 0, 1) := bz_c42 (by decide +kernel)
theorem d_RE_readTypes_42 : decode b_RE_readTypes 42 = .ok (.ldc2_w 101, 3) := bz_c20 (by decide +kernel)
theorem d_RE_readTypes_45 : decode b_RE_readTypes 45 = .ok (.invokevirtual 64, 3) := bz_c182 (by decide +kernel)
theorem d_RE_readTypes_48 : decode b_RE_readTypes 48 = .ok (.l2i, 1) := bz_c136 (by decide +kernel)
theorem d_RE_readTypes_49 : decode b_RE_readTypes 49 = .ok (.istore_n 2, 1) := bz_c61 (by decide +kernel)
theorem d_RE_readTypes_50 : decode b_RE_readTypes 50 = .ok (.aload_n 0, 1) := bz_c42 (by decide +kernel)
theorem d_RE_readTypes_51 : decode b_RE_readTypes 51 = .ok (.getfield 15, 3) := bz_c180 (by decide +kernel)
theorem d_RE_readTypes_54 : decode b_RE_readTypes 54 = .ok (.getfield 103, 3) := bz_c180 (by decide +kernel)
theorem d_RE_readTypes_57 : decode b_RE_readTypes 57 = .ok (.iload_n 1, 1) := bz_c27 (by decide +kernel)
theorem d_RE_readTypes_58 : decode b_RE_readTypes 58 = .ok (.iload_n 2, 1) := bz_c28 (by decide +kernel)
theorem d_RE_readTypes_59 : decode b_RE_readTypes 59 = .ok (.iastore, 1) := bz_c79 (by decide +kernel)
theorem d_RE_readTypes_60 : decode b_RE_readTypes 60 = .ok (.iconst 0, 1) := bz_c3 (by decide +kernel)
theorem d_RE_readTypes_61 : decode b_RE_readTypes 61 = .ok (.istore_n 3, 1) := bz_c62 (by decide +kernel)
theorem d_RE_readTypes_62 : decode b_RE_readTypes 62 = .ok (.iload_n 3, 1) := bz_c29 (by decide +kernel)
theorem d_RE_readTypes_63 : decode b_RE_readTypes 63 = .ok (.iload_n 2, 1) := bz_c28 (by decide +kernel)
theorem d_RE_readTypes_64 : decode b_RE_readTypes 64 = .ok (.if_icmp .ge 27, 3) := bz_c162 (by decide +kernel)
theorem d_RE_readTypes_67 : decode b_RE_readTypes 67 = .ok (.aload_n 0, 1) := bz_c42 (by decide +kernel)
theorem d_RE_readTypes_68 : decode b_RE_readTypes 68 = .ok (.getfield 15, 3) := bz_c180 (by decide +kernel)
theorem d_RE_readTypes_71 : decode b_RE_readTypes 71 = .ok (.getfield 106, 3) := bz_c180 (by decide +kernel)
theorem d_RE_readTypes_74 : decode b_RE_readTypes 74 = .ok (.iload_n 1, 1) := bz_c27 (by decide +kernel)
theorem d_RE_readTypes_75 : decode b_RE_readTypes 75 = .ok (.bipush 8, 2) := bz_c16 (by decide +kernel)
theorem d_RE_readTypes_77 : decode b_RE_readTypes 77 = .ok (.imul, 1) := bz_c104 (by decide +kernel)
theorem d_RE_readTypes_78 : decode b_RE_readTypes 78 = .ok (.iload_n 3, 1) := bz_c29 (by decide +kernel)
theorem d_RE_readTypes_79 : decode b_RE_readTypes 79 = .ok (.iadd, 1) := bz_c96 (by decide +kernel)
theorem d_RE_readTypes_80 : decode b_RE_readTypes 80 = .ok (.aload_n 0, 1) := bz_c42 (by decide +kernel)
theorem d_RE_readTypes_81 : decode b_RE_readTypes 81 = .ok (.invokevirtual 109, 3) := bz_c182 (by decide +kernel)
theorem d_RE_readTypes_84 : decode b_RE_readTypes 84 = .ok (.iastore, 1) := bz_c79 (by decide +kernel)
theorem d_RE_readTypes_85 : decode b_RE_readTypes 85 = .ok (.iinc 3 1, 3) := by decide +kernel
theorem d_RE_readTypes_88 : decode b_RE_readTypes 88 = .ok (.goto (-26), 3) := bz_c167 (by decide +kernel)
theorem d_RE_readTypes_91 : decode b_RE_readTypes 91 = .ok (.aload_n 0, 1) := bz_c42 (by decide +kernel)
theorem d_RE_readTypes_92 : decode b_RE_readTypes 92 = .ok (.getfield 15, 3) := bz_c180 (by decide +kernel)
theorem d_RE_readTypes_95 : decode b_RE_readTypes 95 = .ok (.getfield 112, 3) := bz_c180 (by decide +kernel)
theorem d_RE_readTypes_98 : decode b_RE_readTypes 98 = .ok (.iload_n 1, 1) := bz_c27 (by decide +kernel)
theorem d_RE_readTypes_99 : decode b_RE_readTypes 99 = .ok (.aload_n 0, 1) := bz_c42 (by decide +kernel)
theorem d_RE_readTypes_100 : decode b_RE_readTypes 100 = .ok (.lconst 1, 1) := bz_c10 (by decide +kernel)
theorem d_RE_readTypes_101 : decode b_RE_readTypes 101 = .ok (.invokevirtual 64, 3) := bz_c182 (by decide +kernel)
theorem d_RE_readTypes_104 : decode b_RE_readTypes 104 = .ok (.lconst 1, 1) := bz_c10 (by decide +kernel)
theorem d_RE_readTypes_105 : decode b_RE_readTypes 105 = .ok (.lcmp, 1) := bz_c148 (by decide +kernel)
theorem d_RE_readTypes_106 : decode b_RE_readTypes 106 = .ok (.ifCond .ne 10, 3) := bz_c154 (by decide +kernel)
theorem d_RE_readTypes_109 : decode b_RE_readTypes 109 = .ok (.aload_n 0, 1) := bz_c42 (by decide +kernel)
theorem d_RE_readTypes_110 : decode b_RE_readTypes 110 = .ok (.invokevirtual 109, 3) := bz_c182 (by decide +kernel)
theorem d_RE_readTypes_113 : decode b_RE_readTypes 113 = .ok (.goto 5, 3) := bz_c167 (by decide +kernel)
theorem d_RE_readTypes_116 : decode b_RE_readTypes 116 = .ok (.bipush 64, 2) := bz_c16 (by decide +kernel)
theorem d_RE_readTypes_118 : decode b_RE_readTypes 118 = .ok (.iastore, 1) := bz_c79 (by decide +kernel)
theorem d_RE_readTypes_119 : decode b_RE_readTypes 119 = .ok (.iinc 1 1, 3) := by decide +kernel
theorem d_RE_readTypes_122 : decode b_RE_readTypes 122 = .ok (.goto (-105), 3) := bz_c167 (by decide +kernel)
theorem d_RE_readTypes_125 : decode b_RE_readTypes 125 = .ok (.return_, 1) := bz_c177 (by decide +kernel)
theorem kL_RE_96 : Cond.constantLong R_RE 96 (20) ∈ lw_g := in_c6 97 rfl rfl
theorem kF_RE_98 : Cond.fieldLink R_RE 98 "WaferForge$Wafer" "typeCount" "I" ∈ lw_g := in_c1 151 rfl rfl
theorem kL_RE_101 : Cond.constantLong R_RE 101 (8) ∈ lw_g := in_c6 98 rfl rfl
theorem kF_RE_103 : Cond.fieldLink R_RE 103 "WaferForge$Wafer" "typeTakes" "[I" ∈ lw_g := in_c1 153 rfl rfl
theorem kF_RE_112 : Cond.fieldLink R_RE 112 "WaferForge$Wafer" "typeGives" "[I" ∈ lw_g := in_c1 157 rfl rfl
theorem kF_RE_106 : Cond.fieldLink R_RE 106 "WaferForge$Wafer" "typeParameters" "[I" ∈ lw_g := in_c1 155 rfl rfl
abbrev at_RE_readTypes (dC : Nat → ClassId) (dI : Nat → Nat → Nat) (h0 aw ac ob ab wat wap wag waf wgt wft wfv wgc wek wei wes wez ax : Nat) (cax cwat cwap cwag : ClassId) (h0_limit : Int32) (h0_codeCount : Int32) (h0_openCount : Int32) (aw_functionCount : Int32) (aw_hasMemory : Int32) (aw_pagesLeast : Int64) (aw_pagesMost : Int64) (aw_globalCount : Int32) (aw_exportCount : Int32) (ab_length : Int32) (gax : Nat → Int32) (A : Nat → Prop) (u : (Nat → Int32) × (Nat → Int32) × (Nat → Int32) × Int32 × Int32 × Int32) (t : State) : Prop := match u with | (gwag, gwap, gwat, aw_typeCount, h0_at, h0_sound) => va_P (dC, dI) cls (wz_47 h0 aw ac h0_at h0_limit h0_sound h0_codeCount ob h0_openCount aw ab ac aw_typeCount wat wap wag aw_functionCount waf aw_hasMemory aw_pagesLeast aw_pagesMost aw_globalCount wgt wft wfv wgc aw_exportCount wek wei wes wez ab ax ab_length ax cax gax wat cwat gwat wap cwap gwap wag cwag gwag) t.heap ∧ va_K (dC, dI) cls [(cax, .byte), (cwat, .int), (cwap, .int), (cwag, .int)] t ∧ va_D A (wz_47 h0 aw ac h0_at h0_limit h0_sound h0_codeCount ob h0_openCount aw ab ac aw_typeCount wat wap wag aw_functionCount waf aw_hasMemory aw_pagesLeast aw_pagesMost aw_globalCount wgt wft wfv wgc aw_exportCount wek wei wes wez ab ax ab_length ax cax gax wat cwat gwat wap cwap gwap wag cwag gwag)
set_option maxHeartbeats 4000000 in
set_option maxRecDepth 100000 in
theorem c_RE_readTypes (l : Launch) (dC : Nat → ClassId) (dI : Nat → Nat → Nat) (sz : Nat) (h0 aw ac ob ab wat wap wag waf wgt wft wfv wgc wek wei wes wez ax : Nat) (cax cwat cwap cwag : ClassId) (h0_at : Int32) (h0_limit : Int32) (h0_sound : Int32) (h0_codeCount : Int32) (h0_openCount : Int32) (aw_typeCount : Int32) (aw_functionCount : Int32) (aw_hasMemory : Int32) (aw_pagesLeast : Int64) (aw_pagesMost : Int64) (aw_globalCount : Int32) (aw_exportCount : Int32) (ab_length : Int32) (gax : Nat → Int32) (gwat : Nat → Int32) (gwap : Nat → Int32) (gwag : Nat → Int32)  (b_h0_sound : h0_sound = 0 ∨ h0_sound = 1) (b_aw_typeCount : 0 ≤ aw_typeCount.toInt ∧ aw_typeCount.toInt ≤ 20)   (ha : 0 ≤ h0_at.toInt ∧ h0_at.toInt ≤ h0_limit.toInt ∧ h0_limit.toInt ≤ ab_length.toInt ∧ ab_length.toInt ≤ 8192) : Met l y_RE_readTypes w_RE_readTypes ({ frames := 2, cells := 0, slots := 0, locals := 46 }) (va_Pc [.ref h0] (fun U => U.heap.size = sz ∧ va_P (dC, dI) cls (wz_47 h0 aw ac h0_at h0_limit h0_sound h0_codeCount ob h0_openCount aw ab ac aw_typeCount wat wap wag aw_functionCount waf aw_hasMemory aw_pagesLeast aw_pagesMost aw_globalCount wgt wft wfv wgc aw_exportCount wek wei wes wez ab ax ab_length ax cax gax wat cwat gwat wap cwap gwap wag cwag gwag) U.heap ∧ va_K (dC, dI) cls [(cax, .byte), (cwat, .int), (cwap, .int), (cwag, .int)] U ∧ va_D (fun _ => True) (wz_47 h0 aw ac h0_at h0_limit h0_sound h0_codeCount ob h0_openCount aw ab ac aw_typeCount wat wap wag aw_functionCount waf aw_hasMemory aw_pagesLeast aw_pagesMost aw_globalCount wgt wft wfv wgc aw_exportCount wek wei wes wez ab ax ab_length ax cax gax wat cwat gwat wap cwap gwap wag cwag gwag))) (va_Qv (fun (u : (Nat → Int32) × (Nat → Int32) × (Nat → Int32) × Int32 × Int32 × Int32) => match u with | (gwag2, gwap2, gwat2, aw_typeCount2, h0_at2, h0_sound2) => (0 ≤ aw_typeCount2.toInt ∧ aw_typeCount2.toInt ≤ 20) ∧ (h0_sound2 = 0 ∨ h0_sound2 = 1) ∧ ((h0_at.toInt ≤ h0_at2.toInt ∧ h0_at2.toInt ≤ h0_limit.toInt) ∧ (h0_sound2.toInt = 1 → h0_sound.toInt = 1) ∧ (h0_sound2.toInt = 1 → (∀ t : Nat, (t : Int) < aw_typeCount2.toInt → 0 ≤ (gwat2 t).toInt ∧ (gwat2 t).toInt ≤ 8) ∧ ∀ j : Nat, (j : Int) < 8 * aw_typeCount2.toInt → ((j % 8 : Nat) : Int) < (gwat2 (j / 8)).toInt → ((gwap2 j).toInt = 127 ∨ (gwap2 j).toInt = 126)))) (at_RE_readTypes dC dI h0 aw ac ob ab wat wap wag waf wgt wft wfv wgc wek wei wes wez ax cax cwat cwap cwag h0_limit h0_codeCount h0_openCount aw_functionCount aw_hasMemory aw_pagesLeast aw_pagesMost aw_globalCount aw_exportCount ab_length gax (va_A (wz_47 h0 aw ac h0_at h0_limit h0_sound h0_codeCount ob h0_openCount aw ab ac aw_typeCount wat wap wag aw_functionCount waf aw_hasMemory aw_pagesLeast aw_pagesMost aw_globalCount wgt wft wfv wgc aw_exportCount wek wei wes wez ab ax ab_length ax cax gax wat cwat gwat wap cwap gwap wag cwag gwag) sz)) (va_A (wz_47 h0 aw ac h0_at h0_limit h0_sound h0_codeCount ob h0_openCount aw ab ac aw_typeCount wat wap wag aw_functionCount waf aw_hasMemory aw_pagesLeast aw_pagesMost aw_globalCount wgt wft wfv wgc aw_exportCount wek wei wes wez ab ax ab_length ax cax gax wat cwat gwat wap cwap gwap wag cwag gwag) sz)) 0 0 (va_A (wz_47 h0 aw ac h0_at h0_limit h0_sound h0_codeCount ob h0_openCount aw ab ac aw_typeCount wat wap wag aw_functionCount waf aw_hasMemory aw_pagesLeast aw_pagesMost aw_globalCount wgt wft wfv wgc aw_exportCount wek wei wes wez ab ax ab_length ax cax gax wat cwat gwat wap cwap gwap wag cwag gwag) sz) := by
  refine Met.ofW (cc := b_RE_readTypes) (maxL := 4) (ret := none) (by decide) rfl ?_
  intro p e s m args below meth c s₁ B hml hv
  obtain ⟨rfl, hsz, hP, hK, hD0⟩ := hv
  have hx := B.exec
  have hb := B.bytes
  have hr := B.returns
  have hts0 := atoms_spec (ws := w_RE_readTypes) B.pre
  have hts : ∀ w ∈ lw_g, w.before _ s = true := fun w h => hts0 w (List.mem_cons_of_mem _ h)
  have hown : s.vm.findClass R_RE = some m.cls := findClass_of_methodNamed B.named
  have hlocks := B.notSynchronized
  clear hts0
  subst hsz
  have hD := hD0.self (sz := s.heap.size)
  generalize hAe : va_A (wz_47 h0 aw ac h0_at h0_limit h0_sound h0_codeCount ob h0_openCount aw ab ac aw_typeCount wat wap wag aw_functionCount waf aw_hasMemory aw_pagesLeast aw_pagesMost aw_globalCount wgt wft wfv wgc aw_exportCount wek wei wes wez ab ax ab_length ax cax gax wat cwat gwat wap cwap gwap wag cwag gwag) s.heap.size = A at hD ⊢
  have hA : ∀ q : Nat, s.heap.size ≤ q → A q := fun q h => by rw [← hAe]; exact Or.inr h
  clear hAe
  have hP : va_P (dC, dI) cls (wz_47 h0 aw ac h0_at h0_limit h0_sound h0_codeCount ob h0_openCount aw ab ac aw_typeCount wat wap wag aw_functionCount waf aw_hasMemory aw_pagesLeast aw_pagesMost aw_globalCount wgt wft wfv wgc aw_exportCount wek wei wes wez ab ax ab_length ax cax gax wat cwat gwat wap cwap gwap wag cwag gwag) s.heap := hP
  have hl := lv_entry ([.ref h0]) (n := 4) (Nat.le_of_ble_eq_true rfl)
  rw [lg_entry_eq]
  generalize (lg_sl ([.ref h0]) ++ List.replicate (4 - (lg_sl ([.ref h0])).length) Slot.unset).toArray = ls at hl ⊢
  have hl : lv_has ls 4 [(0, .ref h0)] := hl
  have k0 : (0 : Int32).toInt = 0 := by decide
  refine w_gen (A := A) hP (fun H locs hP hS => ?_)
  have k1 : (1 : Int32).toInt = 1 := by decide
  have k8 : (8 : Int32).toInt = 8 := by decide
  have k64 : (64 : Int32).toInt = 64 := by decide
  have k96 : (96 : Int32).toInt = 96 := by decide
  have th0_sound := b01 b_h0_sound
  refine lv_aload_n hx hb d_RE_readTypes_0 rfl (lv_at hl 0 rfl) ?_
  refine va_get (D := (dC, dI)) (ci := 7) (v := .ref aw) (C := R_RE) (T := F_RE) (N := 8) hx hb hts i_RE hown hK hP 0 rfl rfl 0 (by decide) (hts _ kF_RE_15) (fun _ h9 => h9) rfl d_RE_readTypes_1 ?_
  refine lv_aload_n hx hb d_RE_readTypes_4 rfl (lv_at hl 0 rfl) ?_
  refine lv_ldc2 hx hb hown (hts _ kL_RE_96) d_RE_readTypes_5 ?_
  refine lv_topl (fun x1 ex1 => ?_)
  have tx1 : x1.toInt = 20 := by rw [ex1]; decide
  have hPc := hP.sb (wq := (wz_46 h0 aw ac h0_at h0_limit h0_sound h0_codeCount ob h0_openCount aw ab ac aw_typeCount wat wap wag aw_functionCount waf aw_hasMemory aw_pagesLeast aw_pagesMost aw_globalCount wgt wft wfv wgc aw_exportCount wek wei wes wez ab ax ab_length ax cax gax)) [0, 1, 2, 3] rfl
  have hDc := hD.sb (wq := (wz_46 h0 aw ac h0_at h0_limit h0_sound h0_codeCount ob h0_openCount aw ab ac aw_typeCount wat wap wag aw_functionCount waf aw_hasMemory aw_pagesLeast aw_pagesMost aw_globalCount wgt wft wfv wgc aw_exportCount wek wei wes wez ab ax ab_length ax cax gax)) [0, 1, 2, 3] (by decide) rfl
  have hKc := hK.sb (tyq := [(cax, .byte)]) [0] rfl
  have hFc := va_free (wc := (wz_46 h0 aw ac h0_at h0_limit h0_sound h0_codeCount ob h0_openCount aw ab ac aw_typeCount wat wap wag aw_functionCount waf aw_hasMemory aw_pagesLeast aw_pagesMost aw_globalCount wgt wft wfv wgc aw_exportCount wek wei wes wez ab ax ab_length ax cax gax)) hD hS hA [0, 1, 2, 3] rfl
  refine va_calll (va_runV (As := [.long x1]) (rest := [.ref aw]) ⟨hx, hb, hml, hown, hts⟩ (c_RE_readUnsigned l dC dI h0 aw ac ob ab ax H.size cax 8192 h0_at h0_limit h0_sound h0_codeCount h0_openCount ab_length gax [.ref ab, .ref ac, .int aw_typeCount, .ref wat, .ref wap, .ref wag, .int aw_functionCount, .ref waf, .int aw_hasMemory, .long aw_pagesLeast, .long aw_pagesMost, .int aw_globalCount, .ref wgt, .ref wft, .ref wfv, .ref wgc, .int aw_exportCount, .ref wek, .ref wei, .ref wes, .ref wez] rfl rfl b_h0_sound (by (first | (apply Int.le_antisymm <;> omega) | omega)) x1 (by (first | (apply Int.le_antisymm <;> omega) | omega))) (cwV 1 hts (gV kM_RE_64 kV_RE_readUnsigned kS_RE_readUnsigned kI_RE kC_RE_readUnsigned) rfl rfl rfl (by decide +kernel) ⟨Nat.le_of_ble_eq_true rfl, Nat.le_of_ble_eq_true rfl⟩) ⟨fun a U g mk z => by obtain ⟨z0, z1, zP, zK, zD⟩ := z; exact ⟨z0, z1, zP, va_K.moved (u := U) (U := U.calling g mk a) (Vm.Alike.refl U.vm) zK, zD⟩, va_recv hKc hPc (ci := 7) (q0 := 0) rfl rfl, fun U hU hW => ⟨rfl, by rw [hU], va_P.he hU.symm hPc, va_K.moved hW.alike hKc, hDc.weaken (fun _ _ _ _ => trivial)⟩⟩ rfl rfl hl.1 rfl (lv_room (Nat.le_of_ble_eq_true rfl)) d_RE_readTypes_8 ⟨(Nat.zero_le _), (Nat.zero_le _)⟩) hS (fun q _ h => hFc q h) hFc (fun r2 u t H1 locs ht hvm hw hB hz1 hk1 hS => ?_)
  obtain ⟨n3, n4⟩ := u
  try dsimp only at hw
  obtain ⟨hsn4, tn3⟩ := hw
  have bsn4 := b01 hsn4
  obtain ⟨hP1, hK1, hD1⟩ := hB
  replace hP1 := va_P.he ht hP1
  obtain ⟨hP, hD⟩ := va_join (wr := (wz_48 wat cwat gwat wap cwap gwap wag cwag gwag)) (w1 := (wz_46 h0 aw ac n3 h0_limit n4 h0_codeCount ob h0_openCount aw ab ac aw_typeCount wat wap wag aw_functionCount waf aw_hasMemory aw_pagesLeast aw_pagesMost aw_globalCount wgt wft wfv wgc aw_exportCount wek wei wes wez ab ax ab_length ax cax gax)) hP hD [0, 1, 2, 3] [4, 5, 6] rfl rfl (by decide) (by decide) hk1 hFc hP1 hD1
  clear hPc hDc hKc hFc hz1 hk1 hP1 hK1 hD1
  rename Heap => H
  have hP : va_P (dC, dI) cls (wz_49 wat cwat gwat wap cwap gwap wag cwag gwag h0 aw ac n3 h0_limit n4 h0_codeCount ob h0_openCount aw ab ac aw_typeCount wat wap wag aw_functionCount waf aw_hasMemory aw_pagesLeast aw_pagesMost aw_globalCount wgt wft wfv wgc aw_exportCount wek wei wes wez ab ax ab_length ax cax gax) H := hP
  have hD : va_D A (wz_49 wat cwat gwat wap cwap gwap wag cwag gwag h0 aw ac n3 h0_limit n4 h0_codeCount ob h0_openCount aw ab ac aw_typeCount wat wap wag aw_functionCount waf aw_hasMemory aw_pagesLeast aw_pagesMost aw_globalCount wgt wft wfv wgc aw_exportCount wek wei wes wez ab ax ab_length ax cax gax) := hD
  refine lv_l2i hx hb d_RE_readTypes_11 rfl ?_
  refine lv_topi (fun x5 ex5 => ?_)
  have tx5 := l2i_t ex5 (by (first | (apply Int.le_antisymm <;> omega) | omega)) (by (first | (apply Int.le_antisymm <;> omega) | omega))
  refine va_put (D := (dC, dI)) (ci := 10) (v := .int x5) (ty := .int) (C := R_WA) (T := F_WA) (N := 21) hx hb hts i_WA t_WA t_WA_ok n_WA hown hK hP hD hS 4 rfl rfl 2 (by decide) (hts _ kF_RE_98) (fun _ h9 => h9) rfl (by decide +kernel) rfl rfl (Nat.le_of_ble_eq_true rfl) d_RE_readTypes_12 (fun H locs hP hD hS => ?_)
  refine lv_iconst (v := 0) hx hb d_RE_readTypes_15 (by decide) ?_
  refine lv_istore_n (lv' := [(1, .int 0), (0, .ref h0)]) hx hb d_RE_readTypes_16 rfl hl (by decide) rfl (fun ls hl => ?_)
  refine w_loop (σ := Int32 × (Nat → Int32) × (Nat → Int32) × (Nat → Int32) × Int32 × Int32) (fun u H locs ls => match u with | (j17_l1, j17_wag, j17_wap, j17_wat, j17_h0_at, j17_h0_sound) => (0 ≤ j17_l1.toInt ∧ j17_l1.toInt ≤ 20) ∧ (j17_h0_sound = 0 ∨ j17_h0_sound = 1) ∧ (h0_at.toInt ≤ j17_h0_at.toInt ∧ j17_h0_at.toInt ≤ h0_limit.toInt) ∧ (j17_h0_sound.toInt = 1 → n4.toInt = 1) ∧ (j17_l1.toInt ≤ x5.toInt) ∧ (∀ t : Nat, (t : Int) < j17_l1.toInt → 0 ≤ (j17_wat t).toInt ∧ (j17_wat t).toInt ≤ 8) ∧ (j17_h0_sound.toInt = 1 → ∀ j : Nat, (j : Int) < 8 * j17_l1.toInt → ((j % 8 : Nat) : Int) < (j17_wat (j / 8)).toInt → ((j17_wap j).toInt = 127 ∨ (j17_wap j).toInt = 126)) ∧ va_P (dC, dI) cls (wz_49 wat cwat j17_wat wap cwap j17_wap wag cwag j17_wag h0 aw ac j17_h0_at h0_limit j17_h0_sound h0_codeCount ob h0_openCount aw ab ac x5 wat wap wag aw_functionCount waf aw_hasMemory aw_pagesLeast aw_pagesMost aw_globalCount wgt wft wfv wgc aw_exportCount wek wei wes wez ab ax ab_length ax cax gax) H ∧ va_D A (wz_49 wat cwat j17_wat wap cwap j17_wap wag cwag j17_wag h0 aw ac j17_h0_at h0_limit j17_h0_sound h0_codeCount ob h0_openCount aw ab ac x5 wat wap wag aw_functionCount waf aw_hasMemory aw_pagesLeast aw_pagesMost aw_globalCount wgt wft wfv wgc aw_exportCount wek wei wes wez ab ax ab_length ax cax gax) ∧ va_S A s.heap H locs ∧ lv_has ls 4 [(0, .ref h0), (1, .int j17_l1)]) (fun u => match u with | (j17_l1, j17_wag, j17_wap, j17_wat, j17_h0_at, j17_h0_sound) => (x5.toInt - j17_l1.toInt).toNat) ?_ (0, gwag, gwap, gwat, n3, n4) ⟨by (try dsimp only); (first | (apply Int.le_antisymm <;> omega) | omega), hsn4, by (try dsimp only); (first | (apply Int.le_antisymm <;> omega) | omega), by (try dsimp only); (first | (apply Int.le_antisymm <;> omega) | omega), by (try dsimp only); (first | (apply Int.le_antisymm <;> omega) | omega), fun t z => absurd z (by (first | (apply Int.le_antisymm <;> omega) | omega)), fun z j z1 z2 => absurd z1 (by (first | (apply Int.le_antisymm <;> omega) | omega)), hP, hD, hS, lv_sub hl [1, 0] rfl⟩
  intro N17 ih17 u H locs ls hN17 hI
  obtain ⟨j17_l1, j17_wag, j17_wap, j17_wat, j17_h0_at, j17_h0_sound⟩ := u
  obtain ⟨b_j17_l1, b_j17_h0_sound, w1, w2, v1, v3, v4, hP, hD, hS, hl⟩ := hI
  have tj17_h0_sound := b01 b_j17_h0_sound
  have hN17 : (x5.toInt - j17_l1.toInt).toNat < N17 + 1 := hN17
  refine lv_iload_n hx hb d_RE_readTypes_17 rfl (lv_at hl 1 rfl) ?_
  refine lv_aload_n hx hb d_RE_readTypes_18 rfl (lv_at hl 0 rfl) ?_
  refine va_get (D := (dC, dI)) (ci := 7) (v := .ref aw) (C := R_RE) (T := F_RE) (N := 8) hx hb hts i_RE hown hK hP 3 rfl rfl 0 (by decide) (hts _ kF_RE_15) (fun _ h9 => h9) rfl d_RE_readTypes_19 ?_
  refine va_get (D := (dC, dI)) (ci := 10) (v := .int x5) (C := R_WA) (T := F_WA) (N := 21) hx hb hts i_WA hown hK hP 4 rfl rfl 2 (by decide) (hts _ kF_RE_98) (fun _ h9 => h9) rfl d_RE_readTypes_22 ?_
  refine lv_icmp_ge (tgt := 125) hx hb d_RE_readTypes_25 (by decide) (fun c25 => ?_) (fun c25 => ?_)
  · have q25 := leI c25
    have hP9 := hP.sb (wq := (wz_47 h0 aw ac j17_h0_at h0_limit j17_h0_sound h0_codeCount ob h0_openCount aw ab ac x5 wat wap wag aw_functionCount waf aw_hasMemory aw_pagesLeast aw_pagesMost aw_globalCount wgt wft wfv wgc aw_exportCount wek wei wes wez ab ax ab_length ax cax gax wat cwat j17_wat wap cwap j17_wap wag cwag j17_wag)) [3, 4, 5, 6, 0, 1, 2] rfl
    have hD9 := hD.sb (wq := (wz_47 h0 aw ac j17_h0_at h0_limit j17_h0_sound h0_codeCount ob h0_openCount aw ab ac x5 wat wap wag aw_functionCount waf aw_hasMemory aw_pagesLeast aw_pagesMost aw_globalCount wgt wft wfv wgc aw_exportCount wek wei wes wez ab ax ab_length ax cax gax wat cwat j17_wat wap cwap j17_wap wag cwag j17_wag)) [3, 4, 5, 6, 0, 1, 2] (by decide) rfl
    exact W.vret hx hb hr (fun t ht hW => ⟨⟨(j17_wag, j17_wap, j17_wat, x5, j17_h0_at, j17_h0_sound), rfl, ⟨by (try dsimp only); (first | (apply Int.le_antisymm <;> omega) | omega), b_j17_h0_sound, ⟨⟨by (try dsimp only); (first | (apply Int.le_antisymm <;> omega) | omega), by (try dsimp only); (first | (apply Int.le_antisymm <;> omega) | omega)⟩, fun z => by (try dsimp only at z); (first | (apply Int.le_antisymm <;> omega) | omega), fun z => ⟨fun t q => v3 t (by (try dsimp only at q); (try dsimp only at z); (first | (apply Int.le_antisymm <;> omega) | omega)), fun j q1 q2 => v4 z j (by (try dsimp only at q1); (try dsimp only at z); (first | (apply Int.le_antisymm <;> omega) | omega)) q2⟩⟩⟩, va_P.he ht.symm hP9, va_K.moved hW.alike hK, hD9⟩, hS.F ht⟩) hS.2.2 d_RE_readTypes_125
  · have q25 := nleI c25
    refine lv_aload_n hx hb d_RE_readTypes_28 rfl (lv_at hl 0 rfl) ?_
    refine va_get (D := (dC, dI)) (ci := 7) (v := .int j17_h0_sound) (C := R_RE) (T := F_RE) (N := 8) hx hb hts i_RE hown hK hP 3 rfl rfl 4 (by decide) (hts _ kF_RE_45) (fun _ h9 => h9) rfl d_RE_readTypes_29 ?_
    refine lv_if_eq (tgt := 125) hx hb d_RE_readTypes_32 (by decide) (fun c32 => ?_) (fun c32 => ?_)
    · have q32 := eqI c32
      have hP9 := hP.sb (wq := (wz_47 h0 aw ac j17_h0_at h0_limit j17_h0_sound h0_codeCount ob h0_openCount aw ab ac x5 wat wap wag aw_functionCount waf aw_hasMemory aw_pagesLeast aw_pagesMost aw_globalCount wgt wft wfv wgc aw_exportCount wek wei wes wez ab ax ab_length ax cax gax wat cwat j17_wat wap cwap j17_wap wag cwag j17_wag)) [3, 4, 5, 6, 0, 1, 2] rfl
      have hD9 := hD.sb (wq := (wz_47 h0 aw ac j17_h0_at h0_limit j17_h0_sound h0_codeCount ob h0_openCount aw ab ac x5 wat wap wag aw_functionCount waf aw_hasMemory aw_pagesLeast aw_pagesMost aw_globalCount wgt wft wfv wgc aw_exportCount wek wei wes wez ab ax ab_length ax cax gax wat cwat j17_wat wap cwap j17_wap wag cwag j17_wag)) [3, 4, 5, 6, 0, 1, 2] (by decide) rfl
      exact W.vret hx hb hr (fun t ht hW => ⟨⟨(j17_wag, j17_wap, j17_wat, x5, j17_h0_at, j17_h0_sound), rfl, ⟨by (try dsimp only); (first | (apply Int.le_antisymm <;> omega) | omega), b_j17_h0_sound, ⟨⟨by (try dsimp only); (first | (apply Int.le_antisymm <;> omega) | omega), by (try dsimp only); (first | (apply Int.le_antisymm <;> omega) | omega)⟩, fun z => by (try dsimp only at z); (first | (apply Int.le_antisymm <;> omega) | omega), fun z => ⟨fun t q => v3 t (by (try dsimp only at q); (try dsimp only at z); (first | (apply Int.le_antisymm <;> omega) | omega)), fun j q1 q2 => v4 z j (by (try dsimp only at q1); (try dsimp only at z); (first | (apply Int.le_antisymm <;> omega) | omega)) q2⟩⟩⟩, va_P.he ht.symm hP9, va_K.moved hW.alike hK, hD9⟩, hS.F ht⟩) hS.2.2 d_RE_readTypes_125
    · have q32 := neI c32
      refine lv_aload_n hx hb d_RE_readTypes_35 rfl (lv_at hl 0 rfl) ?_
      refine lv_bipush (v := 96) hx hb d_RE_readTypes_36 (by decide) ?_
      have hPc := hP.sb (wq := (wz_46 h0 aw ac j17_h0_at h0_limit j17_h0_sound h0_codeCount ob h0_openCount aw ab ac x5 wat wap wag aw_functionCount waf aw_hasMemory aw_pagesLeast aw_pagesMost aw_globalCount wgt wft wfv wgc aw_exportCount wek wei wes wez ab ax ab_length ax cax gax)) [3, 4, 5, 6] rfl
      have hDc := hD.sb (wq := (wz_46 h0 aw ac j17_h0_at h0_limit j17_h0_sound h0_codeCount ob h0_openCount aw ab ac x5 wat wap wag aw_functionCount waf aw_hasMemory aw_pagesLeast aw_pagesMost aw_globalCount wgt wft wfv wgc aw_exportCount wek wei wes wez ab ax ab_length ax cax gax)) [3, 4, 5, 6] (by decide) rfl
      have hKc := hK.sb (tyq := [(cax, .byte)]) [0] rfl
      have hFc := va_free (wc := (wz_46 h0 aw ac j17_h0_at h0_limit j17_h0_sound h0_codeCount ob h0_openCount aw ab ac x5 wat wap wag aw_functionCount waf aw_hasMemory aw_pagesLeast aw_pagesMost aw_globalCount wgt wft wfv wgc aw_exportCount wek wei wes wez ab ax ab_length ax cax gax)) hD hS hA [3, 4, 5, 6] rfl
      refine va_callv (va_runV (As := [.int 96]) (rest := []) ⟨hx, hb, hml, hown, hts⟩ (c_RE_expect l dC dI h0 aw ac ob ab ax H.size cax 8192 j17_h0_at h0_limit j17_h0_sound h0_codeCount h0_openCount ab_length gax [.ref ab, .ref ac, .int x5, .ref wat, .ref wap, .ref wag, .int aw_functionCount, .ref waf, .int aw_hasMemory, .long aw_pagesLeast, .long aw_pagesMost, .int aw_globalCount, .ref wgt, .ref wft, .ref wfv, .ref wgc, .int aw_exportCount, .ref wek, .ref wei, .ref wes, .ref wez] rfl rfl b_j17_h0_sound (by (first | (apply Int.le_antisymm <;> omega) | omega)) 96) (cwV 1 hts (gV kM_RE_56 kV_RE_expect kS_RE_expect kI_RE kC_RE_expect) rfl rfl rfl (by decide +kernel) ⟨Nat.le_of_ble_eq_true rfl, Nat.le_of_ble_eq_true rfl⟩) ⟨fun a U g mk z => by obtain ⟨z0, z1, zP, zK, zD⟩ := z; exact ⟨z0, z1, zP, va_K.moved (u := U) (U := U.calling g mk a) (Vm.Alike.refl U.vm) zK, zD⟩, va_recv hKc hPc (ci := 7) (q0 := 0) rfl rfl, fun U hU hW => ⟨rfl, by rw [hU], va_P.he hU.symm hPc, va_K.moved hW.alike hKc, hDc.weaken (fun _ _ _ _ => trivial)⟩⟩ rfl rfl hl.1 rfl (lv_room (Nat.le_of_ble_eq_true rfl)) d_RE_readTypes_38 ⟨(Nat.zero_le _), (Nat.zero_le _)⟩) hS (fun q _ h => hFc q h) hFc (fun u t H1 locs ht hvm hw hB hz1 hk1 hS => ?_)
      obtain ⟨n7, n8⟩ := u
      try dsimp only at hw
      obtain ⟨hsn8, tn7⟩ := hw
      have bsn8 := b01 hsn8
      obtain ⟨hP1, hK1, hD1⟩ := hB
      replace hP1 := va_P.he ht hP1
      obtain ⟨hP, hD⟩ := va_join (wr := (wz_48 wat cwat j17_wat wap cwap j17_wap wag cwag j17_wag)) (w1 := (wz_46 h0 aw ac n7 h0_limit n8 h0_codeCount ob h0_openCount aw ab ac x5 wat wap wag aw_functionCount waf aw_hasMemory aw_pagesLeast aw_pagesMost aw_globalCount wgt wft wfv wgc aw_exportCount wek wei wes wez ab ax ab_length ax cax gax)) hP hD [3, 4, 5, 6] [0, 1, 2] rfl rfl (by decide) (by decide) hk1 hFc hP1 hD1
      clear hPc hDc hKc hFc hz1 hk1 hP1 hK1 hD1
      rename Heap => H
      have hP : va_P (dC, dI) cls (wz_49 wat cwat j17_wat wap cwap j17_wap wag cwag j17_wag h0 aw ac n7 h0_limit n8 h0_codeCount ob h0_openCount aw ab ac x5 wat wap wag aw_functionCount waf aw_hasMemory aw_pagesLeast aw_pagesMost aw_globalCount wgt wft wfv wgc aw_exportCount wek wei wes wez ab ax ab_length ax cax gax) H := hP
      have hD : va_D A (wz_49 wat cwat j17_wat wap cwap j17_wap wag cwag j17_wag h0 aw ac n7 h0_limit n8 h0_codeCount ob h0_openCount aw ab ac x5 wat wap wag aw_functionCount waf aw_hasMemory aw_pagesLeast aw_pagesMost aw_globalCount wgt wft wfv wgc aw_exportCount wek wei wes wez ab ax ab_length ax cax gax) := hD
      refine lv_aload_n hx hb d_RE_readTypes_41 rfl (lv_at hl 0 rfl) ?_
      refine lv_ldc2 hx hb hown (hts _ kL_RE_101) d_RE_readTypes_42 ?_
      refine lv_topl (fun x9 ex9 => ?_)
      have tx9 : x9.toInt = 8 := by rw [ex9]; decide
      have hPc := hP.sb (wq := (wz_46 h0 aw ac n7 h0_limit n8 h0_codeCount ob h0_openCount aw ab ac x5 wat wap wag aw_functionCount waf aw_hasMemory aw_pagesLeast aw_pagesMost aw_globalCount wgt wft wfv wgc aw_exportCount wek wei wes wez ab ax ab_length ax cax gax)) [3, 4, 5, 6] rfl
      have hDc := hD.sb (wq := (wz_46 h0 aw ac n7 h0_limit n8 h0_codeCount ob h0_openCount aw ab ac x5 wat wap wag aw_functionCount waf aw_hasMemory aw_pagesLeast aw_pagesMost aw_globalCount wgt wft wfv wgc aw_exportCount wek wei wes wez ab ax ab_length ax cax gax)) [3, 4, 5, 6] (by decide) rfl
      have hKc := hK.sb (tyq := [(cax, .byte)]) [0] rfl
      have hFc := va_free (wc := (wz_46 h0 aw ac n7 h0_limit n8 h0_codeCount ob h0_openCount aw ab ac x5 wat wap wag aw_functionCount waf aw_hasMemory aw_pagesLeast aw_pagesMost aw_globalCount wgt wft wfv wgc aw_exportCount wek wei wes wez ab ax ab_length ax cax gax)) hD hS hA [3, 4, 5, 6] rfl
      refine va_calll (va_runV (As := [.long x9]) (rest := []) ⟨hx, hb, hml, hown, hts⟩ (c_RE_readUnsigned l dC dI h0 aw ac ob ab ax H.size cax 8192 n7 h0_limit n8 h0_codeCount h0_openCount ab_length gax [.ref ab, .ref ac, .int x5, .ref wat, .ref wap, .ref wag, .int aw_functionCount, .ref waf, .int aw_hasMemory, .long aw_pagesLeast, .long aw_pagesMost, .int aw_globalCount, .ref wgt, .ref wft, .ref wfv, .ref wgc, .int aw_exportCount, .ref wek, .ref wei, .ref wes, .ref wez] rfl rfl hsn8 (by (first | (apply Int.le_antisymm <;> omega) | omega)) x9 (by (first | (apply Int.le_antisymm <;> omega) | omega))) (cwV 1 hts (gV kM_RE_64 kV_RE_readUnsigned kS_RE_readUnsigned kI_RE kC_RE_readUnsigned) rfl rfl rfl (by decide +kernel) ⟨Nat.le_of_ble_eq_true rfl, Nat.le_of_ble_eq_true rfl⟩) ⟨fun a U g mk z => by obtain ⟨z0, z1, zP, zK, zD⟩ := z; exact ⟨z0, z1, zP, va_K.moved (u := U) (U := U.calling g mk a) (Vm.Alike.refl U.vm) zK, zD⟩, va_recv hKc hPc (ci := 7) (q0 := 0) rfl rfl, fun U hU hW => ⟨rfl, by rw [hU], va_P.he hU.symm hPc, va_K.moved hW.alike hKc, hDc.weaken (fun _ _ _ _ => trivial)⟩⟩ rfl rfl hl.1 rfl (lv_room (Nat.le_of_ble_eq_true rfl)) d_RE_readTypes_45 ⟨(Nat.zero_le _), (Nat.zero_le _)⟩) hS (fun q _ h => hFc q h) hFc (fun r10 u t H1 locs ht hvm hw hB hz1 hk1 hS => ?_)
      obtain ⟨n11, n12⟩ := u
      try dsimp only at hw
      obtain ⟨hsn12, tn11⟩ := hw
      have bsn12 := b01 hsn12
      obtain ⟨hP1, hK1, hD1⟩ := hB
      replace hP1 := va_P.he ht hP1
      obtain ⟨hP, hD⟩ := va_join (wr := (wz_48 wat cwat j17_wat wap cwap j17_wap wag cwag j17_wag)) (w1 := (wz_46 h0 aw ac n11 h0_limit n12 h0_codeCount ob h0_openCount aw ab ac x5 wat wap wag aw_functionCount waf aw_hasMemory aw_pagesLeast aw_pagesMost aw_globalCount wgt wft wfv wgc aw_exportCount wek wei wes wez ab ax ab_length ax cax gax)) hP hD [3, 4, 5, 6] [0, 1, 2] rfl rfl (by decide) (by decide) hk1 hFc hP1 hD1
      clear hPc hDc hKc hFc hz1 hk1 hP1 hK1 hD1
      rename Heap => H
      have hP : va_P (dC, dI) cls (wz_49 wat cwat j17_wat wap cwap j17_wap wag cwag j17_wag h0 aw ac n11 h0_limit n12 h0_codeCount ob h0_openCount aw ab ac x5 wat wap wag aw_functionCount waf aw_hasMemory aw_pagesLeast aw_pagesMost aw_globalCount wgt wft wfv wgc aw_exportCount wek wei wes wez ab ax ab_length ax cax gax) H := hP
      have hD : va_D A (wz_49 wat cwat j17_wat wap cwap j17_wap wag cwag j17_wag h0 aw ac n11 h0_limit n12 h0_codeCount ob h0_openCount aw ab ac x5 wat wap wag aw_functionCount waf aw_hasMemory aw_pagesLeast aw_pagesMost aw_globalCount wgt wft wfv wgc aw_exportCount wek wei wes wez ab ax ab_length ax cax gax) := hD
      refine lv_l2i hx hb d_RE_readTypes_48 rfl ?_
      refine lv_topi (fun x13 ex13 => ?_)
      have tx13 := l2i_t ex13 (by (first | (apply Int.le_antisymm <;> omega) | omega)) (by (first | (apply Int.le_antisymm <;> omega) | omega))
      refine lv_istore_n (lv' := [(2, .int x13), (0, .ref h0), (1, .int j17_l1)]) hx hb d_RE_readTypes_49 rfl hl (by decide) rfl (fun ls hl => ?_)
      refine lv_aload_n hx hb d_RE_readTypes_50 rfl (lv_at hl 1 rfl) ?_
      refine va_get (D := (dC, dI)) (ci := 7) (v := .ref aw) (C := R_RE) (T := F_RE) (N := 8) hx hb hts i_RE hown hK hP 3 rfl rfl 0 (by decide) (hts _ kF_RE_15) (fun _ h9 => h9) rfl d_RE_readTypes_51 ?_
      refine va_get (D := (dC, dI)) (ci := 10) (v := .ref wat) (C := R_WA) (T := F_WA) (N := 21) hx hb hts i_WA hown hK hP 4 rfl rfl 3 (by decide) (hts _ kF_RE_103) (fun _ h9 => h9) rfl d_RE_readTypes_54 ?_
      refine lv_iload_n hx hb d_RE_readTypes_57 rfl (lv_at hl 2 rfl) ?_
      refine lv_iload_n hx hb d_RE_readTypes_58 rfl (lv_at hl 0 rfl) ?_
      have c9 := i32_clamp (x := j17_l1) (by (first | (apply Int.le_antisymm <;> omega) | omega))
      have g59 : vp_in j17_l1 20 := vp_in_iff.mpr ⟨by (first | (apply Int.le_antisymm <;> omega) | omega), by (first | (apply Int.le_antisymm <;> omega) | omega)⟩
      refine va_iast hx hb hK hP hD hS 0 1 rfl rfl g59 d_RE_readTypes_59 (fun H locs hP hD hS => ?_)
      generalize ef14 : upd j17_wat j17_l1.toNatClampNeg x13 = f14 at hP hD
      have eW := ef14
      refine lv_iconst (v := 0) hx hb d_RE_readTypes_60 (by decide) ?_
      refine lv_istore_n (lv' := [(3, .int 0), (2, .int x13), (0, .ref h0), (1, .int j17_l1)]) hx hb d_RE_readTypes_61 rfl hl (by decide) rfl (fun ls hl => ?_)
      refine w_loop (σ := Int32 × (Nat → Int32) × Int32 × Int32) (fun u H locs ls => match u with | (j62_l3, j62_wap, j62_h0_at, j62_h0_sound) => (0 ≤ j62_l3.toInt ∧ j62_l3.toInt ≤ 8) ∧ (j62_h0_sound = 0 ∨ j62_h0_sound = 1) ∧ (h0_at.toInt ≤ j62_h0_at.toInt ∧ j62_h0_at.toInt ≤ h0_limit.toInt) ∧ (j62_h0_sound.toInt = 1 → n12.toInt = 1) ∧ (j62_l3.toInt ≤ x13.toInt) ∧ (j62_h0_sound.toInt = 1 → ∀ j : Nat, ((j : Int) < 8 * j17_l1.toInt ∧ ((j % 8 : Nat) : Int) < (f14 (j / 8)).toInt) ∨ (8 * j17_l1.toInt ≤ (j : Int) ∧ (j : Int) < 8 * j17_l1.toInt + j62_l3.toInt) → ((j62_wap j).toInt = 127 ∨ (j62_wap j).toInt = 126)) ∧ va_P (dC, dI) cls (wz_49 wat cwat f14 wap cwap j62_wap wag cwag j17_wag h0 aw ac j62_h0_at h0_limit j62_h0_sound h0_codeCount ob h0_openCount aw ab ac x5 wat wap wag aw_functionCount waf aw_hasMemory aw_pagesLeast aw_pagesMost aw_globalCount wgt wft wfv wgc aw_exportCount wek wei wes wez ab ax ab_length ax cax gax) H ∧ va_D A (wz_49 wat cwat f14 wap cwap j62_wap wag cwag j17_wag h0 aw ac j62_h0_at h0_limit j62_h0_sound h0_codeCount ob h0_openCount aw ab ac x5 wat wap wag aw_functionCount waf aw_hasMemory aw_pagesLeast aw_pagesMost aw_globalCount wgt wft wfv wgc aw_exportCount wek wei wes wez ab ax ab_length ax cax gax) ∧ va_S A s.heap H locs ∧ lv_has ls 4 [(0, .ref h0), (1, .int j17_l1), (2, .int x13), (3, .int j62_l3)]) (fun u => match u with | (j62_l3, j62_wap, j62_h0_at, j62_h0_sound) => (x13.toInt - j62_l3.toInt).toNat) ?_ (0, j17_wap, n11, n12) ⟨by (try dsimp only); (first | (apply Int.le_antisymm <;> omega) | omega), hsn12, by (try dsimp only); (first | (apply Int.le_antisymm <;> omega) | omega), by (try dsimp only); (first | (apply Int.le_antisymm <;> omega) | omega), by (try dsimp only); (first | (apply Int.le_antisymm <;> omega) | omega), fun z j q => q.elim (fun q => v4 (by (first | (apply Int.le_antisymm <;> omega) | omega)) j q.1 (by have q2 := q.2; rw [← eW, pk_un (show j / 8 ≠ j17_l1.toNatClampNeg by (first | (apply Int.le_antisymm <;> omega) | omega))] at q2; exact q2)) (fun q => absurd q.2 (by (first | (apply Int.le_antisymm <;> omega) | omega))), hP, hD, hS, lv_sub hl [2, 3, 1, 0] rfl⟩
      intro N62 ih62 u H locs ls hN62 hI
      obtain ⟨j62_l3, j62_wap, j62_h0_at, j62_h0_sound⟩ := u
      obtain ⟨b_j62_l3, b_j62_h0_sound, w1, w2, u1, u4, hP, hD, hS, hl⟩ := hI
      have tj62_h0_sound := b01 b_j62_h0_sound
      have hN62 : (x13.toInt - j62_l3.toInt).toNat < N62 + 1 := hN62
      refine lv_iload_n hx hb d_RE_readTypes_62 rfl (lv_at hl 3 rfl) ?_
      refine lv_iload_n hx hb d_RE_readTypes_63 rfl (lv_at hl 2 rfl) ?_
      refine lv_icmp_ge (tgt := 91) hx hb d_RE_readTypes_64 (by decide) (fun c64 => ?_) (fun c64 => ?_)
      · have q64 := leI c64
        refine lv_aload_n hx hb d_RE_readTypes_91 rfl (lv_at hl 0 rfl) ?_
        refine va_get (D := (dC, dI)) (ci := 7) (v := .ref aw) (C := R_RE) (T := F_RE) (N := 8) hx hb hts i_RE hown hK hP 3 rfl rfl 0 (by decide) (hts _ kF_RE_15) (fun _ h9 => h9) rfl d_RE_readTypes_92 ?_
        refine va_get (D := (dC, dI)) (ci := 10) (v := .ref wag) (C := R_WA) (T := F_WA) (N := 21) hx hb hts i_WA hown hK hP 4 rfl rfl 5 (by decide) (hts _ kF_RE_112) (fun _ h9 => h9) rfl d_RE_readTypes_95 ?_
        refine lv_iload_n hx hb d_RE_readTypes_98 rfl (lv_at hl 1 rfl) ?_
        refine lv_aload_n hx hb d_RE_readTypes_99 rfl (lv_at hl 0 rfl) ?_
        refine lv_lconst (v := 1) hx hb d_RE_readTypes_100 (by decide) ?_
        have kl1 : (1 : Int64).toInt = 1 := by decide
        have hPc := hP.sb (wq := (wz_46 h0 aw ac j62_h0_at h0_limit j62_h0_sound h0_codeCount ob h0_openCount aw ab ac x5 wat wap wag aw_functionCount waf aw_hasMemory aw_pagesLeast aw_pagesMost aw_globalCount wgt wft wfv wgc aw_exportCount wek wei wes wez ab ax ab_length ax cax gax)) [3, 4, 5, 6] rfl
        have hDc := hD.sb (wq := (wz_46 h0 aw ac j62_h0_at h0_limit j62_h0_sound h0_codeCount ob h0_openCount aw ab ac x5 wat wap wag aw_functionCount waf aw_hasMemory aw_pagesLeast aw_pagesMost aw_globalCount wgt wft wfv wgc aw_exportCount wek wei wes wez ab ax ab_length ax cax gax)) [3, 4, 5, 6] (by decide) rfl
        have hKc := hK.sb (tyq := [(cax, .byte)]) [0] rfl
        have hFc := va_free (wc := (wz_46 h0 aw ac j62_h0_at h0_limit j62_h0_sound h0_codeCount ob h0_openCount aw ab ac x5 wat wap wag aw_functionCount waf aw_hasMemory aw_pagesLeast aw_pagesMost aw_globalCount wgt wft wfv wgc aw_exportCount wek wei wes wez ab ax ab_length ax cax gax)) hD hS hA [3, 4, 5, 6] rfl
        refine va_calll (va_runV (As := [.long 1]) (rest := [.int j17_l1, .ref wag]) ⟨hx, hb, hml, hown, hts⟩ (c_RE_readUnsigned l dC dI h0 aw ac ob ab ax H.size cax 8192 j62_h0_at h0_limit j62_h0_sound h0_codeCount h0_openCount ab_length gax [.ref ab, .ref ac, .int x5, .ref wat, .ref wap, .ref wag, .int aw_functionCount, .ref waf, .int aw_hasMemory, .long aw_pagesLeast, .long aw_pagesMost, .int aw_globalCount, .ref wgt, .ref wft, .ref wfv, .ref wgc, .int aw_exportCount, .ref wek, .ref wei, .ref wes, .ref wez] rfl rfl b_j62_h0_sound (by (first | (apply Int.le_antisymm <;> omega) | omega)) 1 (by (first | (apply Int.le_antisymm <;> omega) | omega))) (cwV 1 hts (gV kM_RE_64 kV_RE_readUnsigned kS_RE_readUnsigned kI_RE kC_RE_readUnsigned) rfl rfl rfl (by decide +kernel) ⟨Nat.le_of_ble_eq_true rfl, Nat.le_of_ble_eq_true rfl⟩) ⟨fun a U g mk z => by obtain ⟨z0, z1, zP, zK, zD⟩ := z; exact ⟨z0, z1, zP, va_K.moved (u := U) (U := U.calling g mk a) (Vm.Alike.refl U.vm) zK, zD⟩, va_recv hKc hPc (ci := 7) (q0 := 0) rfl rfl, fun U hU hW => ⟨rfl, by rw [hU], va_P.he hU.symm hPc, va_K.moved hW.alike hKc, hDc.weaken (fun _ _ _ _ => trivial)⟩⟩ rfl rfl hl.1 rfl (lv_room (Nat.le_of_ble_eq_true rfl)) d_RE_readTypes_101 ⟨(Nat.zero_le _), (Nat.zero_le _)⟩) hS (fun q _ h => hFc q h) hFc (fun r15 u t H1 locs ht hvm hw hB hz1 hk1 hS => ?_)
        obtain ⟨n16, n17⟩ := u
        try dsimp only at hw
        obtain ⟨hsn17, tn16⟩ := hw
        have bsn17 := b01 hsn17
        obtain ⟨hP1, hK1, hD1⟩ := hB
        replace hP1 := va_P.he ht hP1
        obtain ⟨hP, hD⟩ := va_join (wr := (wz_48 wat cwat f14 wap cwap j62_wap wag cwag j17_wag)) (w1 := (wz_46 h0 aw ac n16 h0_limit n17 h0_codeCount ob h0_openCount aw ab ac x5 wat wap wag aw_functionCount waf aw_hasMemory aw_pagesLeast aw_pagesMost aw_globalCount wgt wft wfv wgc aw_exportCount wek wei wes wez ab ax ab_length ax cax gax)) hP hD [3, 4, 5, 6] [0, 1, 2] rfl rfl (by decide) (by decide) hk1 hFc hP1 hD1
        clear hPc hDc hKc hFc hz1 hk1 hP1 hK1 hD1
        rename Heap => H
        have hP : va_P (dC, dI) cls (wz_49 wat cwat f14 wap cwap j62_wap wag cwag j17_wag h0 aw ac n16 h0_limit n17 h0_codeCount ob h0_openCount aw ab ac x5 wat wap wag aw_functionCount waf aw_hasMemory aw_pagesLeast aw_pagesMost aw_globalCount wgt wft wfv wgc aw_exportCount wek wei wes wez ab ax ab_length ax cax gax) H := hP
        have hD : va_D A (wz_49 wat cwat f14 wap cwap j62_wap wag cwag j17_wag h0 aw ac n16 h0_limit n17 h0_codeCount ob h0_openCount aw ab ac x5 wat wap wag aw_functionCount waf aw_hasMemory aw_pagesLeast aw_pagesMost aw_globalCount wgt wft wfv wgc aw_exportCount wek wei wes wez ab ax ab_length ax cax gax) := hD
        refine lv_lconst (v := 1) hx hb d_RE_readTypes_104 (by decide) ?_
        have kl1 : (1 : Int64).toInt = 1 := by decide
        refine W.lcmp hx hb d_RE_readTypes_105 ?_
        refine lv_topi (fun x18 ex18 => ?_)
        have tx18 := lgc ex18
        refine w_cut (pc2 := 118) (σ := Int32 × Int32 × Int32) (fun u H locs ls => match u with | (j118_s0, j118_h0_at, j118_h0_sound) => (j118_h0_sound = 0 ∨ j118_h0_sound = 1) ∧ (h0_at.toInt ≤ j118_h0_at.toInt ∧ j118_h0_at.toInt ≤ h0_limit.toInt) ∧ (j118_h0_sound.toInt = 1 → n17.toInt = 1) ∧ va_P (dC, dI) cls (wz_49 wat cwat f14 wap cwap j62_wap wag cwag j17_wag h0 aw ac j118_h0_at h0_limit j118_h0_sound h0_codeCount ob h0_openCount aw ab ac x5 wat wap wag aw_functionCount waf aw_hasMemory aw_pagesLeast aw_pagesMost aw_globalCount wgt wft wfv wgc aw_exportCount wek wei wes wez ab ax ab_length ax cax gax) H ∧ va_D A (wz_49 wat cwat f14 wap cwap j62_wap wag cwag j17_wag h0 aw ac j118_h0_at h0_limit j118_h0_sound h0_codeCount ob h0_openCount aw ab ac x5 wat wap wag aw_functionCount waf aw_hasMemory aw_pagesLeast aw_pagesMost aw_globalCount wgt wft wfv wgc aw_exportCount wek wei wes wez ab ax ab_length ax cax gax) ∧ va_S A s.heap H locs ∧ lv_has ls 4 [(0, .ref h0), (1, .int j17_l1)]) (fun u => match u with | (j118_s0, j118_h0_at, j118_h0_sound) => [.int j118_s0, .int j17_l1, .ref wag]) ?_ (fun jn118 => ?_)
        · intro u H locs ls hI
          obtain ⟨j118_s0, j118_h0_at, j118_h0_sound⟩ := u
          obtain ⟨b_j118_h0_sound, w1, w2, hP, hD, hS, hl⟩ := hI
          have tj118_h0_sound := b01 b_j118_h0_sound
          have g118 : vp_in j17_l1 20 := vp_in_iff.mpr ⟨by (first | (apply Int.le_antisymm <;> omega) | omega), by (first | (apply Int.le_antisymm <;> omega) | omega)⟩
          refine va_iast hx hb hK hP hD hS 2 3 rfl rfl g118 d_RE_readTypes_118 (fun H locs hP hD hS => ?_)
          generalize ef19 : upd j17_wag j17_l1.toNatClampNeg j118_s0 = f19 at hP hD
          obtain ⟨x20, ex20⟩ : ∃ z : Int32, z = j17_l1 + 1 := ⟨_, rfl⟩
          have tx20 : x20.toInt = j17_l1.toInt + 1 := by have z := i32_add ex20 (by (first | (apply Int.le_antisymm <;> omega) | omega)) (by (first | (apply Int.le_antisymm <;> omega) | omega)); first | exact z | (first | (apply Int.le_antisymm <;> omega) | omega)
          refine lv_iinc (v := x20) (lv' := [(1, .int x20), (0, .ref h0)]) hx hb d_RE_readTypes_119 hl (k := 1) rfl (by rw [ex20]; rfl) (by decide) rfl (fun ls hl => ?_)
          refine lv_goto (tgt := 17) hx hb d_RE_readTypes_122 (by decide) ?_
          exact ih17 (x20, f19, j62_wap, f14, j118_h0_at, j118_h0_sound) _ _ _ (by show (x5.toInt - x20.toInt).toNat < N17; (first | (apply Int.le_antisymm <;> omega) | omega)) ⟨by (try dsimp only); (first | (apply Int.le_antisymm <;> omega) | omega), b_j118_h0_sound, by (try dsimp only); (first | (apply Int.le_antisymm <;> omega) | omega), by (try dsimp only); (first | (apply Int.le_antisymm <;> omega) | omega), by (try dsimp only); (first | (apply Int.le_antisymm <;> omega) | omega), fun t z => by by_cases q : (t : Int) < j17_l1.toInt; (rw [← eW, pk_un (show t ≠ j17_l1.toNatClampNeg by (first | (apply Int.le_antisymm <;> omega) | omega))]; exact v3 t q); (rw [← eW, show t = j17_l1.toNatClampNeg from by (first | (apply Int.le_antisymm <;> omega) | omega), pk_us]; (first | (apply Int.le_antisymm <;> omega) | omega)), fun z j z1 z2 => by by_cases q : (j : Int) < 8 * j17_l1.toInt; exact u4 (by (first | (apply Int.le_antisymm <;> omega) | omega)) j (Or.inl ⟨q, z2⟩); exact u4 (by (first | (apply Int.le_antisymm <;> omega) | omega)) j (Or.inr ⟨by (first | (apply Int.le_antisymm <;> omega) | omega), by rw [← eW, show j / 8 = j17_l1.toNatClampNeg from by (first | (apply Int.le_antisymm <;> omega) | omega), pk_us] at z2; (first | (apply Int.le_antisymm <;> omega) | omega)⟩), hP, hD, hS, lv_sub hl [1, 0] rfl⟩
        · skip
          refine lv_if_ne (tgt := 116) hx hb d_RE_readTypes_106 (by decide) (fun c106 => ?_) (fun c106 => ?_)
          · have q106 := neI c106
            refine lv_bipush (v := 64) hx hb d_RE_readTypes_116 (by decide) ?_
            exact jn118 (64, n16, n17) _ _ _ ⟨hsn17, by (try dsimp only); (first | (apply Int.le_antisymm <;> omega) | omega), by (try dsimp only); (first | (apply Int.le_antisymm <;> omega) | omega), hP, hD, hS, lv_sub hl [0, 1] rfl⟩
          · have q106 := eqI c106
            refine lv_aload_n hx hb d_RE_readTypes_109 rfl (lv_at hl 0 rfl) ?_
            have hPc := hP.sb (wq := (wz_46 h0 aw ac n16 h0_limit n17 h0_codeCount ob h0_openCount aw ab ac x5 wat wap wag aw_functionCount waf aw_hasMemory aw_pagesLeast aw_pagesMost aw_globalCount wgt wft wfv wgc aw_exportCount wek wei wes wez ab ax ab_length ax cax gax)) [3, 4, 5, 6] rfl
            have hDc := hD.sb (wq := (wz_46 h0 aw ac n16 h0_limit n17 h0_codeCount ob h0_openCount aw ab ac x5 wat wap wag aw_functionCount waf aw_hasMemory aw_pagesLeast aw_pagesMost aw_globalCount wgt wft wfv wgc aw_exportCount wek wei wes wez ab ax ab_length ax cax gax)) [3, 4, 5, 6] (by decide) rfl
            have hKc := hK.sb (tyq := [(cax, .byte)]) [0] rfl
            have hFc := va_free (wc := (wz_46 h0 aw ac n16 h0_limit n17 h0_codeCount ob h0_openCount aw ab ac x5 wat wap wag aw_functionCount waf aw_hasMemory aw_pagesLeast aw_pagesMost aw_globalCount wgt wft wfv wgc aw_exportCount wek wei wes wez ab ax ab_length ax cax gax)) hD hS hA [3, 4, 5, 6] rfl
            refine va_calli (va_runV (As := []) (rest := [.int j17_l1, .ref wag]) ⟨hx, hb, hml, hown, hts⟩ (c_RE_readType l dC dI h0 aw ac ob ab ax H.size cax 8192 n16 h0_limit n17 h0_codeCount h0_openCount ab_length gax [.ref ab, .ref ac, .int x5, .ref wat, .ref wap, .ref wag, .int aw_functionCount, .ref waf, .int aw_hasMemory, .long aw_pagesLeast, .long aw_pagesMost, .int aw_globalCount, .ref wgt, .ref wft, .ref wfv, .ref wgc, .int aw_exportCount, .ref wek, .ref wei, .ref wes, .ref wez] rfl rfl hsn17 (by (first | (apply Int.le_antisymm <;> omega) | omega)) ) (cwV 0 hts (gV kM_RE_109 kV_RE_readType kS_RE_readType kI_RE kC_RE_readType) rfl rfl rfl (by decide +kernel) ⟨Nat.le_of_ble_eq_true rfl, Nat.le_of_ble_eq_true rfl⟩) ⟨fun a U g mk z => by obtain ⟨z0, z1, zP, zK, zD⟩ := z; exact ⟨z0, z1, zP, va_K.moved (u := U) (U := U.calling g mk a) (Vm.Alike.refl U.vm) zK, zD⟩, va_recv hKc hPc (ci := 7) (q0 := 0) rfl rfl, fun U hU hW => ⟨rfl, by rw [hU], va_P.he hU.symm hPc, va_K.moved hW.alike hKc, hDc.weaken (fun _ _ _ _ => trivial)⟩⟩ rfl rfl hl.1 rfl (lv_room (Nat.le_of_ble_eq_true rfl)) d_RE_readTypes_110 ⟨(Nat.zero_le _), (Nat.zero_le _)⟩) hS (fun q _ h => hFc q h) hFc (fun r21 u t H1 locs ht hvm hw hB hz1 hk1 hS => ?_)
            obtain ⟨n22, n23⟩ := u
            try dsimp only at hw
            obtain ⟨hsn23, tn22⟩ := hw
            have bsn23 := b01 hsn23
            obtain ⟨hP1, hK1, hD1⟩ := hB
            replace hP1 := va_P.he ht hP1
            obtain ⟨hP, hD⟩ := va_join (wr := (wz_48 wat cwat f14 wap cwap j62_wap wag cwag j17_wag)) (w1 := (wz_46 h0 aw ac n22 h0_limit n23 h0_codeCount ob h0_openCount aw ab ac x5 wat wap wag aw_functionCount waf aw_hasMemory aw_pagesLeast aw_pagesMost aw_globalCount wgt wft wfv wgc aw_exportCount wek wei wes wez ab ax ab_length ax cax gax)) hP hD [3, 4, 5, 6] [0, 1, 2] rfl rfl (by decide) (by decide) hk1 hFc hP1 hD1
            clear hPc hDc hKc hFc hz1 hk1 hP1 hK1 hD1
            rename Heap => H
            have hP : va_P (dC, dI) cls (wz_49 wat cwat f14 wap cwap j62_wap wag cwag j17_wag h0 aw ac n22 h0_limit n23 h0_codeCount ob h0_openCount aw ab ac x5 wat wap wag aw_functionCount waf aw_hasMemory aw_pagesLeast aw_pagesMost aw_globalCount wgt wft wfv wgc aw_exportCount wek wei wes wez ab ax ab_length ax cax gax) H := hP
            have hD : va_D A (wz_49 wat cwat f14 wap cwap j62_wap wag cwag j17_wag h0 aw ac n22 h0_limit n23 h0_codeCount ob h0_openCount aw ab ac x5 wat wap wag aw_functionCount waf aw_hasMemory aw_pagesLeast aw_pagesMost aw_globalCount wgt wft wfv wgc aw_exportCount wek wei wes wez ab ax ab_length ax cax gax) := hD
            refine lv_goto (tgt := 118) hx hb d_RE_readTypes_113 (by decide) ?_
            exact jn118 (r21, n22, n23) _ _ _ ⟨hsn23, by (try dsimp only); (first | (apply Int.le_antisymm <;> omega) | omega), by (try dsimp only); (first | (apply Int.le_antisymm <;> omega) | omega), hP, hD, hS, lv_sub hl [0, 1] rfl⟩
      · have q64 := nleI c64
        refine lv_aload_n hx hb d_RE_readTypes_67 rfl (lv_at hl 0 rfl) ?_
        refine va_get (D := (dC, dI)) (ci := 7) (v := .ref aw) (C := R_RE) (T := F_RE) (N := 8) hx hb hts i_RE hown hK hP 3 rfl rfl 0 (by decide) (hts _ kF_RE_15) (fun _ h9 => h9) rfl d_RE_readTypes_68 ?_
        refine va_get (D := (dC, dI)) (ci := 10) (v := .ref wap) (C := R_WA) (T := F_WA) (N := 21) hx hb hts i_WA hown hK hP 4 rfl rfl 4 (by decide) (hts _ kF_RE_106) (fun _ h9 => h9) rfl d_RE_readTypes_71 ?_
        refine lv_iload_n hx hb d_RE_readTypes_74 rfl (lv_at hl 1 rfl) ?_
        refine lv_bipush (v := 8) hx hb d_RE_readTypes_75 (by decide) ?_
        refine lv_imul hx hb d_RE_readTypes_77 ?_
        refine lv_topi (fun x24 ex24 => ?_)
        have tx24 : x24.toInt = j17_l1.toInt * 8 := by have z := i32_mul ex24 (by rw [k8]; (first | (apply Int.le_antisymm <;> omega) | omega)) (by rw [k8]; (first | (apply Int.le_antisymm <;> omega) | omega)); rw [k8] at z; exact z
        refine lv_iload_n hx hb d_RE_readTypes_78 rfl (lv_at hl 3 rfl) ?_
        refine lv_iadd hx hb d_RE_readTypes_79 ?_
        refine lv_topi (fun x25 ex25 => ?_)
        have tx25 : x25.toInt = x24.toInt + j62_l3.toInt := by have z := i32_add ex25 (by (first | (apply Int.le_antisymm <;> omega) | omega)) (by (first | (apply Int.le_antisymm <;> omega) | omega)); first | exact z | (first | (apply Int.le_antisymm <;> omega) | omega)
        refine lv_aload_n hx hb d_RE_readTypes_80 rfl (lv_at hl 0 rfl) ?_
        have hPc := hP.sb (wq := (wz_46 h0 aw ac j62_h0_at h0_limit j62_h0_sound h0_codeCount ob h0_openCount aw ab ac x5 wat wap wag aw_functionCount waf aw_hasMemory aw_pagesLeast aw_pagesMost aw_globalCount wgt wft wfv wgc aw_exportCount wek wei wes wez ab ax ab_length ax cax gax)) [3, 4, 5, 6] rfl
        have hDc := hD.sb (wq := (wz_46 h0 aw ac j62_h0_at h0_limit j62_h0_sound h0_codeCount ob h0_openCount aw ab ac x5 wat wap wag aw_functionCount waf aw_hasMemory aw_pagesLeast aw_pagesMost aw_globalCount wgt wft wfv wgc aw_exportCount wek wei wes wez ab ax ab_length ax cax gax)) [3, 4, 5, 6] (by decide) rfl
        have hKc := hK.sb (tyq := [(cax, .byte)]) [0] rfl
        have hFc := va_free (wc := (wz_46 h0 aw ac j62_h0_at h0_limit j62_h0_sound h0_codeCount ob h0_openCount aw ab ac x5 wat wap wag aw_functionCount waf aw_hasMemory aw_pagesLeast aw_pagesMost aw_globalCount wgt wft wfv wgc aw_exportCount wek wei wes wez ab ax ab_length ax cax gax)) hD hS hA [3, 4, 5, 6] rfl
        refine va_calli (va_runV (As := []) (rest := [.int x25, .ref wap]) ⟨hx, hb, hml, hown, hts⟩ (c_RE_readType l dC dI h0 aw ac ob ab ax H.size cax 8192 j62_h0_at h0_limit j62_h0_sound h0_codeCount h0_openCount ab_length gax [.ref ab, .ref ac, .int x5, .ref wat, .ref wap, .ref wag, .int aw_functionCount, .ref waf, .int aw_hasMemory, .long aw_pagesLeast, .long aw_pagesMost, .int aw_globalCount, .ref wgt, .ref wft, .ref wfv, .ref wgc, .int aw_exportCount, .ref wek, .ref wei, .ref wes, .ref wez] rfl rfl b_j62_h0_sound (by (first | (apply Int.le_antisymm <;> omega) | omega)) ) (cwV 0 hts (gV kM_RE_109 kV_RE_readType kS_RE_readType kI_RE kC_RE_readType) rfl rfl rfl (by decide +kernel) ⟨Nat.le_of_ble_eq_true rfl, Nat.le_of_ble_eq_true rfl⟩) ⟨fun a U g mk z => by obtain ⟨z0, z1, zP, zK, zD⟩ := z; exact ⟨z0, z1, zP, va_K.moved (u := U) (U := U.calling g mk a) (Vm.Alike.refl U.vm) zK, zD⟩, va_recv hKc hPc (ci := 7) (q0 := 0) rfl rfl, fun U hU hW => ⟨rfl, by rw [hU], va_P.he hU.symm hPc, va_K.moved hW.alike hKc, hDc.weaken (fun _ _ _ _ => trivial)⟩⟩ rfl rfl hl.1 rfl (lv_room (Nat.le_of_ble_eq_true rfl)) d_RE_readTypes_81 ⟨(Nat.zero_le _), (Nat.zero_le _)⟩) hS (fun q _ h => hFc q h) hFc (fun r26 u t H1 locs ht hvm hw hB hz1 hk1 hS => ?_)
        obtain ⟨n27, n28⟩ := u
        try dsimp only at hw
        obtain ⟨hsn28, tn27⟩ := hw
        have bsn28 := b01 hsn28
        obtain ⟨hP1, hK1, hD1⟩ := hB
        replace hP1 := va_P.he ht hP1
        obtain ⟨hP, hD⟩ := va_join (wr := (wz_48 wat cwat f14 wap cwap j62_wap wag cwag j17_wag)) (w1 := (wz_46 h0 aw ac n27 h0_limit n28 h0_codeCount ob h0_openCount aw ab ac x5 wat wap wag aw_functionCount waf aw_hasMemory aw_pagesLeast aw_pagesMost aw_globalCount wgt wft wfv wgc aw_exportCount wek wei wes wez ab ax ab_length ax cax gax)) hP hD [3, 4, 5, 6] [0, 1, 2] rfl rfl (by decide) (by decide) hk1 hFc hP1 hD1
        clear hPc hDc hKc hFc hz1 hk1 hP1 hK1 hD1
        rename Heap => H
        have hP : va_P (dC, dI) cls (wz_49 wat cwat f14 wap cwap j62_wap wag cwag j17_wag h0 aw ac n27 h0_limit n28 h0_codeCount ob h0_openCount aw ab ac x5 wat wap wag aw_functionCount waf aw_hasMemory aw_pagesLeast aw_pagesMost aw_globalCount wgt wft wfv wgc aw_exportCount wek wei wes wez ab ax ab_length ax cax gax) H := hP
        have hD : va_D A (wz_49 wat cwat f14 wap cwap j62_wap wag cwag j17_wag h0 aw ac n27 h0_limit n28 h0_codeCount ob h0_openCount aw ab ac x5 wat wap wag aw_functionCount waf aw_hasMemory aw_pagesLeast aw_pagesMost aw_globalCount wgt wft wfv wgc aw_exportCount wek wei wes wez ab ax ab_length ax cax gax) := hD
        have g84 : vp_in x25 160 := vp_in_iff.mpr ⟨by (first | (apply Int.le_antisymm <;> omega) | omega), by (first | (apply Int.le_antisymm <;> omega) | omega)⟩
        refine va_iast hx hb hK hP hD hS 1 2 rfl rfl g84 d_RE_readTypes_84 (fun H locs hP hD hS => ?_)
        generalize ef29 : upd j62_wap x25.toNatClampNeg r26 = f29 at hP hD
        obtain ⟨x30, ex30⟩ : ∃ z : Int32, z = j62_l3 + 1 := ⟨_, rfl⟩
        have tx30 : x30.toInt = j62_l3.toInt + 1 := by have z := i32_add ex30 (by (first | (apply Int.le_antisymm <;> omega) | omega)) (by (first | (apply Int.le_antisymm <;> omega) | omega)); first | exact z | (first | (apply Int.le_antisymm <;> omega) | omega)
        refine lv_iinc (v := x30) (lv' := [(3, .int x30), (0, .ref h0), (1, .int j17_l1), (2, .int x13)]) hx hb d_RE_readTypes_85 hl (k := 3) rfl (by rw [ex30]; rfl) (by decide) rfl (fun ls hl => ?_)
        refine lv_goto (tgt := 62) hx hb d_RE_readTypes_88 (by decide) ?_
        have c8 := i32_clamp (x := x25) (by (first | (apply Int.le_antisymm <;> omega) | omega))
        exact ih62 (x30, f29, n27, n28) _ _ _ (by show (x13.toInt - x30.toInt).toNat < N62; (first | (apply Int.le_antisymm <;> omega) | omega)) ⟨by (try dsimp only); (first | (apply Int.le_antisymm <;> omega) | omega), hsn28, by (try dsimp only); (first | (apply Int.le_antisymm <;> omega) | omega), by (try dsimp only); (first | (apply Int.le_antisymm <;> omega) | omega), by (try dsimp only); (first | (apply Int.le_antisymm <;> omega) | omega), fun z => by rw [← ef29]; exact upd_all (Q := fun v => v.toInt = 127 ∨ v.toInt = 126) (u4 (by (first | (apply Int.le_antisymm <;> omega) | omega))) (tn27.2.2.2.2 (by (first | (apply Int.le_antisymm <;> omega) | omega))).2.2.1 (fun j q => by rcases q with q | q; exact Or.inr (Or.inl q); by_cases y : j = x25.toNatClampNeg; exact Or.inl y; exact Or.inr (Or.inr (by (first | (apply Int.le_antisymm <;> omega) | omega)))), hP, hD, hS, lv_sub hl [1, 2, 3, 0] rfl⟩
end q_17
section q_17a
/-! how the reader's tables hang together: sb i is the stack of the blocks that are open at instruction i -/
def rs_stk (go : Nat → Int32) : Nat → List Nat
  | 0 => []
  | k + 1 => (go k).toNatClampNeg :: rs_stk go k
theorem rs_stk_upd {go : Nat → Int32} {v : Int32} (m : Nat) : ∀ k : Nat, k ≤ m → rs_stk (upd go m v) k = rs_stk go k
  | 0, _ => rfl
  | k + 1, h => by
    have e : k ≠ m := by (first | (apply Int.le_antisymm <;> omega) | omega)
    show (upd go m v k).toNatClampNeg :: rs_stk (upd go m v) k = (go k).toNatClampNeg :: rs_stk go k
    rw [pk_un e, rs_stk_upd m k (by (first | (apply Int.le_antisymm <;> omega) | omega))]
def rs_val (gop gpt : Nat → Int32) (gva : Nat → Int64) (lc : Int) (i : Nat) : Prop :=
  ((gop i).toInt = 2 ∨ (gop i).toInt = 3 ∨ (gop i).toInt = 4 → (gva i).toInt = 64 ∨ (gva i).toInt = 127 ∨ (gva i).toInt = 126) ∧
  ((gop i).toInt = 12 ∨ (gop i).toInt = 13 ∨ (gop i).toInt = 16 ∨ (gop i).toInt = 32 ∨ (gop i).toInt = 33 ∨ (gop i).toInt = 34 ∨ (gop i).toInt = 35 ∨ (gop i).toInt = 36 → 0 ≤ (gva i).toInt ∧ (gva i).toInt ≤ 2147483647) ∧
  ((gop i).toInt = 14 → 0 ≤ (gva i).toInt ∧ 0 ≤ (gpt i).toInt ∧ (gva i).toInt + (gpt i).toInt < lc) ∧
  ((gop i).toInt = 2 ∨ (gop i).toInt = 3 ∨ (gop i).toInt = 4 ∨ (gop i).toInt = 5 ∨ (gop i).toInt = 11 ∨ (gop i).toInt = 12 ∨ (gop i).toInt = 13 ∨ (gop i).toInt = 16 ∨ (gop i).toInt = 32 ∨ (gop i).toInt = 33 ∨ (gop i).toInt = 34 ∨ (gop i).toInt = 35 ∨ (gop i).toInt = 36 ∨ (gop i).toInt = 14 ∨ (gop i).toInt = 63 ∨ (gop i).toInt = 64 ∨ (gop i).toInt = 0 ∨ (gop i).toInt = 1 ∨ (gop i).toInt = 15 ∨ (gop i).toInt = 26 ∨ (gop i).toInt = 27 ∨ (69 ≤ (gop i).toInt ∧ (gop i).toInt ≤ 90) ∨ (103 ≤ (gop i).toInt ∧ (gop i).toInt ≤ 138) ∨ (gop i).toInt = 167 ∨ (gop i).toInt = 172 ∨ (gop i).toInt = 173 ∨ (gop i).toInt = 65 ∨ (gop i).toInt = 66 ∨ (gop i).toInt = 44 ∨ (gop i).toInt = 45 ∨ (gop i).toInt = 58 ∨ (gop i).toInt = 40 ∨ (gop i).toInt = 54 ∨ (gop i).toInt = 41 ∨ (gop i).toInt = 55)
/-- from instruction a to n: all ends have a block -/
def rs_at (gop gpt gel : Nat → Int32) (gva : Nat → Int64) (lc : Int) (sb : Nat → List Nat) (n i : Nat) : Prop :=
  rs_val gop gpt gva lc i ∧
    ((gop i).toInt = 2 ∨ (gop i).toInt = 3 ∨ (gop i).toInt = 4 → sb (i + 1) = i :: sb i) ∧
    ((gop i).toInt = 4 → (gel i).toInt < 0 ∨ ∃ e : Nat, (gel i).toInt = e ∧ i < e ∧ e < n ∧ (gop e).toInt = 5 ∧ ∃ r, sb e = i :: r) ∧
    ((gop i).toInt = 5 → ∃ b r, sb i = b :: r ∧ (gop b).toInt = 4 ∧ (gel b).toInt = i) ∧
    ((gop i).toInt = 11 → ∃ b r, sb i = b :: r ∧ sb (i + 1) = r ∧ b ∉ sb n ∧ (gpt b).toInt = i ∧ (0 ≤ (gel b).toInt → (gpt (gel b).toNatClampNeg).toInt = i)) ∧
    ((gop i).toInt ≠ 2 → (gop i).toInt ≠ 3 → (gop i).toInt ≠ 4 → (gop i).toInt ≠ 11 → sb (i + 1) = sb i) ∧
    ((gop i).toInt ≠ 4 → (gel i).toInt < 0)
def rs_I (a n : Nat) (gop gpt gel : Nat → Int32) (gva : Nat → Int64) (lc : Int) (sb : Nat → List Nat) : Prop :=
  a ≤ n ∧ sb a = [] ∧
  (∀ i, a ≤ i → i ≤ n → (∀ b ∈ sb i, a ≤ b ∧ b < i ∧ ((gop b).toInt = 2 ∨ (gop b).toInt = 3 ∨ (gop b).toInt = 4)) ∧ (sb i).Pairwise (fun x y => y < x) ∧ (sb i).length ≤ 100) ∧
  (∀ i, a ≤ i → i < n → rs_at gop gpt gel gva lc sb n i)
section RS
variable {a n : Nat} {gop gpt gel gop2 gpt2 gel2 : Nat → Int32} {gva gva2 : Nat → Int64} {lc lc2 : Int} {sb : Nat → List Nat}
theorem rs_start : rs_I a a gop gpt gel gva lc (fun _ => []) :=
  ⟨Nat.le_refl _, rfl, fun i _ _ => ⟨fun b hb => by simp at hb, List.Pairwise.nil, by simp⟩, fun i h1 h2 => absurd h2 (by (first | (apply Int.le_antisymm <;> omega) | omega))⟩
theorem rs_els (h : rs_I a n gop gpt gel gva lc sb) {b : Nat} (h1 : a ≤ b) (h2 : b < n) (h3 : 0 ≤ (gel b).toInt) : (gop b).toInt = 4 ∧ b < (gel b).toNatClampNeg ∧ (gel b).toNatClampNeg < n ∧ (gop (gel b).toNatClampNeg).toInt = 5 ∧ ∃ r, sb (gel b).toNatClampNeg = b :: r := by
  obtain ⟨-, -, v3, -, -, -, v7⟩ := h.2.2.2 b h1 h2
  by_cases q : (gop b).toInt = 4
  · rcases v3 q with y | ⟨e, y1, y2, y3, y4, y5⟩
    · (first | (apply Int.le_antisymm <;> omega) | omega)
    · rw [i32_nat y1]
      exact ⟨q, y2, y3, y4, y5⟩
  · exact absurd (v7 q) (by (first | (apply Int.le_antisymm <;> omega) | omega))
/-- other tables that say the same up to n -/
theorem rs_ext (h : rs_I a n gop gpt gel gva lc sb) (hlc : lc ≤ lc2) (e1 : ∀ j, j < n → gop2 j = gop j) (e2 : ∀ j, j < n → gpt2 j = gpt j) (e3 : ∀ j, j < n → gel2 j = gel j) (e4 : ∀ j, j < n → gva2 j = gva j) : rs_I a n gop2 gpt2 gel2 gva2 lc2 sb := by
  have h0 := h
  obtain ⟨ha, hs, hS, hI⟩ := h
  refine ⟨ha, hs, fun i hi hi2 => ?_, fun i hi q => ?_⟩
  · obtain ⟨k1, k2, k3⟩ := hS i hi hi2
    refine ⟨fun b hb => ?_, k2, k3⟩
    obtain ⟨q1, q2, q3⟩ := k1 b hb
    rw [e1 b (by (first | (apply Int.le_antisymm <;> omega) | omega))]
    exact ⟨q1, q2, q3⟩
  · obtain ⟨v1, v2, v3, v4, v5, v6, v7⟩ := hI i hi q
    unfold rs_val at v1
    unfold rs_at rs_val
    rw [e1 i q, e2 i q, e3 i q, e4 i q]
    refine ⟨⟨v1.1, v1.2.1, fun z => ?_, v1.2.2.2⟩, v2, fun z => ?_, fun z => ?_, fun z => ?_, v6, v7⟩
    · obtain ⟨y1, y2, y3⟩ := v1.2.2.1 z
      exact ⟨y1, y2, by (first | (apply Int.le_antisymm <;> omega) | omega)⟩
    · rcases v3 z with y | ⟨e, y1, y2, y3, y4, y5⟩
      · exact Or.inl y
      · exact Or.inr ⟨e, y1, y2, y3, by rw [e1 e y3]; exact y4, y5⟩
    · obtain ⟨b, r, y1, y2, y3⟩ := v4 z
      have hb := ((hS i hi (by (first | (apply Int.le_antisymm <;> omega) | omega))).1 b (by rw [y1]; exact List.mem_cons_self)).2.1
      exact ⟨b, r, y1, by rw [e1 b (by (first | (apply Int.le_antisymm <;> omega) | omega))]; exact y2, by rw [e3 b (by (first | (apply Int.le_antisymm <;> omega) | omega))]; exact y3⟩
    · obtain ⟨b, r, y1, y2, y3, y4, y5⟩ := v5 z
      obtain ⟨hb0, hb, -⟩ := (hS i hi (by (first | (apply Int.le_antisymm <;> omega) | omega))).1 b (by rw [y1]; exact List.mem_cons_self)
      refine ⟨b, r, y1, y2, y3, by rw [e2 b (by (first | (apply Int.le_antisymm <;> omega) | omega))]; exact y4, fun z1 => ?_⟩
      rw [e3 b (by (first | (apply Int.le_antisymm <;> omega) | omega))] at z1 ⊢
      rw [e2 _ (rs_els h0 hb0 (by (first | (apply Int.le_antisymm <;> omega) | omega)) z1).2.2.1]
      exact y5 z1
/-- what stays when one more instruction is seen -/
theorem rs_keep (h : rs_I a n gop gpt gel gva lc sb) {top : List Nat} (ht : ∀ b ∈ top, b = n ∨ b ∈ sb n) {i : Nat} (hi : a ≤ i) (q : i < n) : rs_at gop gpt gel gva lc (fun i => if i ≤ n then sb i else top) (n + 1) i := by
  obtain ⟨ha, hs, hS, hI⟩ := h
  obtain ⟨v1, v2, v3, v4, v5, v6, v7⟩ := hI i hi q
  have s1 : ∀ i, i ≤ n → (fun i => if i ≤ n then sb i else top) i = sb i := fun i hi => if_pos hi
  have s2 : (fun i => if i ≤ n then sb i else top) (n + 1) = top := if_neg (by (first | (apply Int.le_antisymm <;> omega) | omega))
  unfold rs_at
  rw [s1 i (by (first | (apply Int.le_antisymm <;> omega) | omega)), s1 (i + 1) (by (first | (apply Int.le_antisymm <;> omega) | omega)), s2]
  refine ⟨v1, v2, fun z => ?_, v4, fun z => ?_, v6, v7⟩
  · rcases v3 z with y | ⟨e, y1, y2, y3, y4, r, y5⟩
    · exact Or.inl y
    · exact Or.inr ⟨e, y1, y2, by (first | (apply Int.le_antisymm <;> omega) | omega), y4, r, by rw [s1 e (by (first | (apply Int.le_antisymm <;> omega) | omega))]; exact y5⟩
  · obtain ⟨b, r, y1, y2, y3, y4, y5⟩ := v5 z
    have hb := ((hS i hi (by (first | (apply Int.le_antisymm <;> omega) | omega))).1 b (by rw [y1]; exact List.mem_cons_self)).2.1
    refine ⟨b, r, y1, y2, fun hm => ?_, y4, y5⟩
    rcases ht b hm with w | w
    · (first | (apply Int.le_antisymm <;> omega) | omega)
    · exact y3 w
/-- one more instruction that turns and closes nothing -/
theorem rs_add (h : rs_I a n gop gpt gel gva lc sb) (hv : rs_val gop gpt gva lc n) (h5 : (gop n).toInt ≠ 5) (h11 : (gop n).toInt ≠ 11) (he : (gel n).toInt < 0) (ho : (gop n).toInt = 2 ∨ (gop n).toInt = 3 ∨ (gop n).toInt = 4 → (sb n).length < 100) :
    ∃ sb2, rs_I a (n + 1) gop gpt gel gva lc sb2 ∧ sb2 (n + 1) = if (gop n).toInt = 2 ∨ (gop n).toInt = 3 ∨ (gop n).toInt = 4 then n :: sb n else sb n := by
  have h0 := h
  obtain ⟨ha, hs, hS, hI⟩ := h
  obtain ⟨top, htop⟩ : ∃ z, z = (if (gop n).toInt = 2 ∨ (gop n).toInt = 3 ∨ (gop n).toInt = 4 then n :: sb n else sb n) := ⟨_, rfl⟩
  have s1 : ∀ i, i ≤ n → (fun i => if i ≤ n then sb i else top) i = sb i := fun i hi => if_pos hi
  have s2 : (fun i => if i ≤ n then sb i else top) (n + 1) = top := if_neg (by (first | (apply Int.le_antisymm <;> omega) | omega))
  obtain ⟨k1, k2, k3⟩ := hS n ha (Nat.le_refl _)
  have hin : ∀ b ∈ top, b = n ∨ b ∈ sb n := by
    intro b hb
    rw [htop] at hb
    split at hb
    · exact List.mem_cons.mp hb
    · exact Or.inr hb
  refine ⟨fun i => if i ≤ n then sb i else top, ⟨by (first | (apply Int.le_antisymm <;> omega) | omega), by rw [s1 a ha]; exact hs, fun i hi hi2 => ?_, fun i hi hi2 => ?_⟩, by rw [s2, htop]⟩
  · by_cases q : i ≤ n
    · rw [s1 i q]
      exact hS i hi q
    · have e : i = n + 1 := by (first | (apply Int.le_antisymm <;> omega) | omega)
      rw [e, s2]
      refine ⟨fun b hb => ?_, ?_, ?_⟩
      · by_cases q9 : b ∈ sb n
        · obtain ⟨q1, q2, q3⟩ := k1 b q9
          exact ⟨q1, by (first | (apply Int.le_antisymm <;> omega) | omega), q3⟩
        · have e9 : b = n := (hin b hb).resolve_right q9
          subst e9
          refine ⟨ha, by (first | (apply Int.le_antisymm <;> omega) | omega), ?_⟩
          rw [htop] at hb
          split at hb
          · rename_i q
            exact q
          · exact absurd hb q9
      · rw [htop]
        split
        · exact List.pairwise_cons.mpr ⟨fun b hb => (k1 b hb).2.1, k2⟩
        · exact k2
      · rw [htop]
        split
        · rename_i q9
          have := ho q9
          rw [List.length_cons]
          (first | (apply Int.le_antisymm <;> omega) | omega)
        · exact k3
  · by_cases q : i < n
    · exact rs_keep h0 hin hi q
    · have e : i = n := by (first | (apply Int.le_antisymm <;> omega) | omega)
      subst e
      unfold rs_at
      rw [s1 i (by (first | (apply Int.le_antisymm <;> omega) | omega)), s2]
      exact ⟨hv, fun z => by rw [htop, if_pos z], fun z => Or.inl he, fun z => absurd z h5, fun z => absurd z h11, fun z1 z2 z3 z4 => by rw [htop, if_neg (by (first | (apply Int.le_antisymm <;> omega) | omega))], fun _ => he⟩
/-- an else -/
theorem rs_else {b : Nat} {r : List Nat} {v : Int32} (h : rs_I a n gop gpt gel gva lc sb) (hv : rs_val gop gpt gva lc n) (h5 : (gop n).toInt = 5) (he : (gel n).toInt < 0) (hb : sb n = b :: r) (hb4 : (gop b).toInt = 4) (hbe : (gel b).toInt < 0) (hvn : v.toInt = n) :
    ∃ sb2, rs_I a (n + 1) gop gpt (upd gel b v) gva lc sb2 ∧ sb2 (n + 1) = sb n := by
  have h0 := h
  obtain ⟨ha, hs, hS, hI⟩ := h
  have s1 : ∀ i, i ≤ n → (fun i => if i ≤ n then sb i else sb n) i = sb i := fun i hi => if_pos hi
  have s2 : (fun i => if i ≤ n then sb i else sb n) (n + 1) = sb n := if_neg (by (first | (apply Int.le_antisymm <;> omega) | omega))
  obtain ⟨k1, k2, k3⟩ := hS n ha (Nat.le_refl _)
  obtain ⟨b1, b2, -⟩ := k1 b (by rw [hb]; exact List.mem_cons_self)
  refine ⟨fun i => if i ≤ n then sb i else sb n, ⟨by (first | (apply Int.le_antisymm <;> omega) | omega), by rw [s1 a ha]; exact hs, fun i hi hi2 => ?_, fun i hi hi2 => ?_⟩, s2⟩
  · by_cases q : i ≤ n
    · rw [s1 i q]
      exact hS i hi q
    · have e : i = n + 1 := by (first | (apply Int.le_antisymm <;> omega) | omega)
      rw [e, s2]
      exact ⟨fun c hc => ⟨(k1 c hc).1, by have := (k1 c hc).2.1; (first | (apply Int.le_antisymm <;> omega) | omega), (k1 c hc).2.2⟩, k2, k3⟩
  · by_cases q : i < n
    · obtain ⟨v1, v2, v3, v4, v5, v6, v7⟩ := rs_keep h0 (top := sb n) (fun c hc => Or.inr hc) hi q
      refine ⟨v1, v2, fun z => ?_, fun z => ?_, fun z => ?_, v6, fun z => ?_⟩
      · by_cases e : i = b
        · subst e
          rw [pk_us]
          exact Or.inr ⟨n, hvn, b2, by (first | (apply Int.le_antisymm <;> omega) | omega), h5, r, by rw [s1 n (Nat.le_refl _)]; exact hb⟩
        · rw [pk_un e]
          exact v3 z
      · obtain ⟨c, r', y1, y2, y3⟩ := v4 z
        have e : c ≠ b := fun e => by rw [e] at y3; (first | (apply Int.le_antisymm <;> omega) | omega)
        exact ⟨c, r', y1, y2, by rw [pk_un e]; exact y3⟩
      · obtain ⟨c, r', y1, y2, y3, y4, y5⟩ := v5 z
        have e : c ≠ b := fun e => y3 (by rw [s2, e, hb]; exact List.mem_cons_self)
        exact ⟨c, r', y1, y2, y3, y4, by rw [pk_un e]; exact y5⟩
      · have e : i ≠ b := fun e => z (by rw [e]; exact hb4)
        rw [pk_un e]
        exact v7 z
    · have e : i = n := by (first | (apply Int.le_antisymm <;> omega) | omega)
      subst e
      have e9 : i ≠ b := by (first | (apply Int.le_antisymm <;> omega) | omega)
      unfold rs_at
      rw [s1 i (by (first | (apply Int.le_antisymm <;> omega) | omega)), s2, pk_un e9]
      exact ⟨hv, fun z => absurd z (by (first | (apply Int.le_antisymm <;> omega) | omega)), fun z => absurd z (by (first | (apply Int.le_antisymm <;> omega) | omega)), fun _ => ⟨b, r, hb, hb4, by rw [pk_us]; exact hvn⟩, fun z => absurd z (by (first | (apply Int.le_antisymm <;> omega) | omega)), fun _ _ _ _ => rfl, fun _ => he⟩
/-- an end of a block -/
theorem rs_end {b : Nat} {r : List Nat} (h : rs_I a n gop gpt gel gva lc sb) (hv : rs_val gop gpt gva lc n) (h11 : (gop n).toInt = 11) (he : (gel n).toInt < 0) (hb : sb n = b :: r) (p1 : (gpt2 b).toInt = n) (p2 : 0 ≤ (gel b).toInt → (gpt2 (gel b).toNatClampNeg).toInt = n) (p3 : ∀ j, j ≠ b → (0 ≤ (gel b).toInt → j ≠ (gel b).toNatClampNeg) → gpt2 j = gpt j) :
    ∃ sb2, rs_I a (n + 1) gop gpt2 gel gva lc sb2 ∧ sb2 (n + 1) = r := by
  have h0 := h
  obtain ⟨ha, hs, hS, hI⟩ := h
  have s1 : ∀ i, i ≤ n → (fun i => if i ≤ n then sb i else r) i = sb i := fun i hi => if_pos hi
  have s2 : (fun i => if i ≤ n then sb i else r) (n + 1) = r := if_neg (by (first | (apply Int.le_antisymm <;> omega) | omega))
  obtain ⟨k1, k2, k3⟩ := hS n ha (Nat.le_refl _)
  obtain ⟨b1, b2, b3⟩ := k1 b (by rw [hb]; exact List.mem_cons_self)
  rw [hb] at k1 k2 k3
  have hr : ∀ c ∈ r, c ∈ sb n := fun c hc => by rw [hb]; exact List.mem_cons_of_mem _ hc
  have hel : 0 ≤ (gel b).toInt → (gop (gel b).toNatClampNeg).toInt = 5 ∧ ∃ r', sb (gel b).toNatClampNeg = b :: r' := fun z => ⟨(rs_els h0 b1 b2 z).2.2.2.1, (rs_els h0 b1 b2 z).2.2.2.2⟩
  have pk : ∀ j, j ≠ b → (gop j).toInt ≠ 5 → gpt2 j = gpt j := fun j q1 q2 => p3 j q1 (fun z e => q2 (by rw [e]; exact (hel z).1))
  refine ⟨fun i => if i ≤ n then sb i else r, ⟨by (first | (apply Int.le_antisymm <;> omega) | omega), by rw [s1 a ha]; exact hs, fun i hi hi2 => ?_, fun i hi hi2 => ?_⟩, s2⟩
  · by_cases q : i ≤ n
    · rw [s1 i q]
      exact hS i hi q
    · have e : i = n + 1 := by (first | (apply Int.le_antisymm <;> omega) | omega)
      rw [e, s2]
      refine ⟨fun c hc => ?_, (List.pairwise_cons.mp k2).2, by rw [List.length_cons] at k3; (first | (apply Int.le_antisymm <;> omega) | omega)⟩
      obtain ⟨q1, q2, q3⟩ := k1 c (List.mem_cons_of_mem _ hc)
      exact ⟨q1, by (first | (apply Int.le_antisymm <;> omega) | omega), q3⟩
  · by_cases q : i < n
    · obtain ⟨v1, v2, v3, v4, v5, v6, v7⟩ := rs_keep h0 (top := r) (fun c hc => Or.inr (hr c hc)) hi q
      unfold rs_val at v1
      refine ⟨⟨v1.1, v1.2.1, fun z => ?_, v1.2.2.2⟩, v2, v3, v4, fun z => ?_, v6, v7⟩
      · rw [pk i (fun e => by clear v1 v2 v3 v4 v5 v6 v7; rw [e] at z; (first | (apply Int.le_antisymm <;> omega) | omega)) (by clear v1 v2 v3 v4 v5 v6 v7; (first | (apply Int.le_antisymm <;> omega) | omega))]
        exact v1.2.2.1 z
      · obtain ⟨c, r', y1, y2, y3, y4, y5⟩ := (hI i hi q).2.2.2.2.1 z
        have e : c ≠ b := fun e => y3 (by rw [e, hb]; exact List.mem_cons_self)
        obtain ⟨c1, c2, c3⟩ := (hS i hi (by (first | (apply Int.le_antisymm <;> omega) | omega))).1 c (by rw [y1]; exact List.mem_cons_self)
        refine ⟨c, r', by rw [s1 i (by (first | (apply Int.le_antisymm <;> omega) | omega))]; exact y1, by rw [s1 (i + 1) (by (first | (apply Int.le_antisymm <;> omega) | omega))]; exact y2, fun hm => y3 (hr c (by rw [s2] at hm; exact hm)), by rw [pk c e (by (first | (apply Int.le_antisymm <;> omega) | omega))]; exact y4, fun z1 => ?_⟩
        obtain ⟨w1, w2, w3, w4, r9, w5⟩ := rs_els h0 c1 (by (first | (apply Int.le_antisymm <;> omega) | omega)) z1
        rw [p3 _ (fun e9 => by clear v1 v2 v3 v4 v5 v6 v7 hel; rw [e9] at w4; (first | (apply Int.le_antisymm <;> omega) | omega)) (fun z2 e9 => by
          obtain ⟨-, r8, w6⟩ := hel z2
          rw [e9, w6] at w5
          exact e (List.cons.inj w5).1.symm)]
        exact y5 z1
    · have e : i = n := by (first | (apply Int.le_antisymm <;> omega) | omega)
      subst e
      unfold rs_val at hv
      unfold rs_at rs_val
      rw [s1 i (by (first | (apply Int.le_antisymm <;> omega) | omega)), s2, pk i (by (first | (apply Int.le_antisymm <;> omega) | omega)) (by (first | (apply Int.le_antisymm <;> omega) | omega))]
      exact ⟨hv, fun z => absurd z (by (first | (apply Int.le_antisymm <;> omega) | omega)), fun z => absurd z (by (first | (apply Int.le_antisymm <;> omega) | omega)), fun z => absurd z (by (first | (apply Int.le_antisymm <;> omega) | omega)), fun _ => ⟨b, r, hb, rfl, fun hm => absurd ((List.pairwise_cons.mp k2).1 b hm) (by (first | (apply Int.le_antisymm <;> omega) | omega)), p1, p2⟩, fun _ _ _ z => absurd h11 z, fun _ => he⟩
end RS
end q_17a
section q_17b
/-! one instruction more: the reader's step keeps the structure -/
theorem rs_stk_len (go : Nat → Int32) : ∀ k : Nat, (rs_stk go k).length = k
  | 0 => rfl
  | k + 1 => by
    show (rs_stk go k).length + 1 = k + 1
    rw [rs_stk_len go k]
theorem uL_un {f : Nat → Int64} {k j : Nat} {x : Int64} (h : j ≠ k) : vp_updL f k x j = f j := if_neg h
theorem rs_step {a n : Nat} {cl o oc lc r oc2 lc2 : Int32} {gop gpt gel glb go gop2 gpt2 gel2 glb2 go2 : Nat → Int32} {gva gva2 : Nat → Int64} {sb : Nat → List Nat} (h : rs_I a n gop gpt gel gva lc.toInt sb) (hn : cl.toInt = n) (hoc : 0 ≤ oc.toInt ∧ oc.toInt ≤ 100) (hlc : 0 ≤ lc.toInt) (hsb : sb n = rs_stk go oc.toNatClampNeg)
    (st : rstep cl o oc lc r oc2 lc2 gop gpt gel glb go gop2 gpt2 gel2 glb2 go2 gva gva2) :
    (r.toInt = 1 → ∃ sb2, rs_I a (n + 1) gop2 gpt2 gel2 gva2 lc2.toInt sb2 ∧ sb2 (n + 1) = rs_stk go2 oc2.toNatClampNeg) ∧ (r.toInt = 0 → rs_I a n gop2 gpt2 gel2 gva2 lc2.toInt sb ∧ sb n = [] ∧ (gop2 n).toInt = 11) := by
  unfold rstep at st
  rw [i32_nat hn] at st
  obtain ⟨e0, st⟩ := st
  have k0 : (0 : Int32).toInt = 0 := by decide
  have km : (-1 : Int32).toInt = -1 := by decide
  have kl : (0 : Int64).toInt = 0 := by decide
  have hocn := i32_clamp (x := oc) hoc.1
  have gn : gop2 n = o := by rw [e0, pk_us]
  have gj : ∀ j, j < n → gop2 j = gop j := fun j hj => by rw [e0, pk_un (show j ≠ n by (first | (apply Int.le_antisymm <;> omega) | omega))]
  have lenn : (sb n).length = oc.toNatClampNeg := by rw [hsb, rs_stk_len]
  have plain : ∀ (ept : ∀ j, j < n → gpt2 j = gpt j) (eel : ∀ j, j < n → gel2 j = gel j) (eva : ∀ j, j < n → gva2 j = gva j) (hl : lc.toInt ≤ lc2.toInt) (hv : rs_val gop2 gpt2 gva2 lc2.toInt n) (h5 : o.toInt ≠ 5) (h11 : o.toInt ≠ 11) (he : (gel2 n).toInt < 0) (ho : o.toInt = 2 ∨ o.toInt = 3 ∨ o.toInt = 4 → oc.toInt < 100),
      ∃ sb2, rs_I a (n + 1) gop2 gpt2 gel2 gva2 lc2.toInt sb2 ∧ sb2 (n + 1) = if o.toInt = 2 ∨ o.toInt = 3 ∨ o.toInt = 4 then n :: sb n else sb n := by
    intro ept eel eva hl hv h5 h11 he ho
    have h2 := rs_ext h hl gj ept eel eva
    have r9 := rs_add h2 hv (by rw [gn]; exact h5) (by rw [gn]; exact h11) he (by rw [gn, lenn]; intro z; have := ho z; (first | (apply Int.le_antisymm <;> omega) | omega))
    rw [gn] at r9
    exact r9
  rcases st with ⟨c1, c2, c3, c4, c5, c6, c7, c8, c9, v, c10, c11⟩ | ⟨c1, c2, c3, c4, c5, c6, c7, c8, c9, c10, c11, c12⟩ | ⟨c1, c2, c3, c4, c5, c6, c7, c8⟩ | ⟨c1, c2, c3, c4, c5, c6, c7, c8, v, c9, c10, c11⟩ | ⟨c1, c2, c3, c4, c5, b, x, c6, c7, c8, c9, c10, c11⟩ | ⟨c1, c2, c3, c4, c5, c6, c7, c8, c9⟩ | ⟨c1, c2, c3, c4, c5, c6, c7, c8, v, c9⟩ | ⟨c1, c2, c3, c4, c5, c6, c7, b, x, c8, c9, c10, c11, c12⟩
  · refine ⟨fun _ => ?_, fun z => absurd z (by (first | (apply Int.le_antisymm <;> omega) | omega))⟩
    have vn : gva2 n = v := by rw [c11, pk_uLs]
    obtain ⟨sb2, q1, q2⟩ := plain (fun j hj => by rw [c8, pk_un (show j ≠ n by (first | (apply Int.le_antisymm <;> omega) | omega))]) (fun j hj => by rw [c9, pk_un (show j ≠ n by (first | (apply Int.le_antisymm <;> omega) | omega))]) (fun j hj => by rw [c11, uL_un (show j ≠ n by (first | (apply Int.le_antisymm <;> omega) | omega)), uL_un (show j ≠ n by (first | (apply Int.le_antisymm <;> omega) | omega))]) (by rw [c6]; (first | (apply Int.le_antisymm <;> omega) | omega)) (by unfold rs_val; rw [gn, vn]; exact ⟨fun _ => c10, fun z => absurd z (by (first | (apply Int.le_antisymm <;> omega) | omega)), fun z => absurd z (by (first | (apply Int.le_antisymm <;> omega) | omega)), by (first | (apply Int.le_antisymm <;> omega) | omega)⟩) (by (first | (apply Int.le_antisymm <;> omega) | omega)) (by (first | (apply Int.le_antisymm <;> omega) | omega)) (by rw [c9, pk_us]; (first | (apply Int.le_antisymm <;> omega) | omega)) (fun _ => c3)
    refine ⟨sb2, q1, ?_⟩
    rw [q2, if_pos c1, c5, show oc2.toNatClampNeg = oc.toNatClampNeg + 1 from by rw [i32_natI c4]; (first | (apply Int.le_antisymm <;> omega) | omega)]
    show _ = (upd go oc.toNatClampNeg cl oc.toNatClampNeg).toNatClampNeg :: rs_stk (upd go oc.toNatClampNeg cl) oc.toNatClampNeg
    rw [pk_us, rs_stk_upd _ _ (Nat.le_refl _), i32_nat hn, hsb]
  · refine ⟨fun _ => ?_, fun z => absurd z (by (first | (apply Int.le_antisymm <;> omega) | omega))⟩
    obtain ⟨k, hk⟩ : ∃ k, oc.toNatClampNeg = k + 1 := ⟨oc.toNatClampNeg - 1, by (first | (apply Int.le_antisymm <;> omega) | omega)⟩
    rw [show oc.toNatClampNeg - 1 = k from by (first | (apply Int.le_antisymm <;> omega) | omega)] at c10 c11 c12
    have sbn : sb n = (go k).toNatClampNeg :: rs_stk go k := by rw [hsb, hk]; rfl
    have hb := (h.2.2.1 n h.1 (Nat.le_refl _)).1 (go k).toNatClampNeg (by rw [sbn]; exact List.mem_cons_self)
    have h2 := rs_ext (gop2 := gop2) (gpt2 := gpt2) (gel2 := upd gel n (-1)) (gva2 := gva2) (lc2 := lc2.toInt) h (by rw [c5]; (first | (apply Int.le_antisymm <;> omega) | omega)) gj (fun j hj => by rw [c7, pk_un (show j ≠ n by (first | (apply Int.le_antisymm <;> omega) | omega))]) (fun j hj => by rw [pk_un (show j ≠ n by (first | (apply Int.le_antisymm <;> omega) | omega))]) (fun j hj => by rw [c8, uL_un (show j ≠ n by (first | (apply Int.le_antisymm <;> omega) | omega))])
    obtain ⟨sb2, q1, q2⟩ := rs_else (v := cl) h2 (by unfold rs_val; rw [gn]; exact ⟨fun z => absurd z (by (first | (apply Int.le_antisymm <;> omega) | omega)), fun z => absurd z (by (first | (apply Int.le_antisymm <;> omega) | omega)), fun z => absurd z (by (first | (apply Int.le_antisymm <;> omega) | omega)), by (first | (apply Int.le_antisymm <;> omega) | omega)⟩) (by rw [gn]; exact c1) (by rw [pk_us]; (first | (apply Int.le_antisymm <;> omega) | omega)) sbn c10 c11 hn
    rw [← c12] at q1
    exact ⟨sb2, q1, by rw [q2, hsb, c3, c4]⟩
  · have hel0 : ∀ j, j < n → gel2 j = gel j := fun j hj => by rw [c5, pk_un (show j ≠ n by (first | (apply Int.le_antisymm <;> omega) | omega))]
    have hva0 : ∀ j, j < n → gva2 j = gva j := fun j hj => by rw [c6, uL_un (show j ≠ n by (first | (apply Int.le_antisymm <;> omega) | omega))]
    have hvl : ∀ g : Nat → Int32, rs_val gop2 g gva2 lc2.toInt n := fun g => by unfold rs_val; rw [gn]; exact ⟨fun z => absurd z (by (first | (apply Int.le_antisymm <;> omega) | omega)), fun z => absurd z (by (first | (apply Int.le_antisymm <;> omega) | omega)), fun z => absurd z (by (first | (apply Int.le_antisymm <;> omega) | omega)), by (first | (apply Int.le_antisymm <;> omega) | omega)⟩
    have hl2 : lc.toInt ≤ lc2.toInt := by rw [c3]; (first | (apply Int.le_antisymm <;> omega) | omega)
    constructor
    · intro z
      obtain ⟨d1, d2, d3⟩ := c8 z
      obtain ⟨k, hk⟩ : ∃ k, oc.toNatClampNeg = k + 1 := ⟨oc.toNatClampNeg - 1, by (first | (apply Int.le_antisymm <;> omega) | omega)⟩
      rw [show oc.toNatClampNeg - 1 = k from by (first | (apply Int.le_antisymm <;> omega) | omega), ← c5] at d3
      have sbn : sb n = (go k).toNatClampNeg :: rs_stk go k := by rw [hsb, hk]; rfl
      have hb := (h.2.2.1 n h.1 (Nat.le_refl _)).1 (go k).toNatClampNeg (by rw [sbn]; exact List.mem_cons_self)
      have h2 := rs_ext (gop2 := gop2) (gpt2 := upd gpt n 0) (gel2 := gel2) (gva2 := gva2) (lc2 := lc2.toInt) h hl2 gj (fun j hj => by rw [pk_un (show j ≠ n by (first | (apply Int.le_antisymm <;> omega) | omega))]) hel0 hva0
      have hgel : (gel2 n).toInt < 0 := by rw [c5, pk_us]; (first | (apply Int.le_antisymm <;> omega) | omega)
      have fin : ∃ sb2, rs_I a (n + 1) gop2 gpt2 gel2 gva2 lc2.toInt sb2 ∧ sb2 (n + 1) = rs_stk go k := by
        refine rs_end (b := (go k).toNatClampNeg) h2 (hvl _) (by rw [gn]; exact c1) hgel sbn ?_ ?_ ?_
        · rw [d3]
          split
          · by_cases q : (go k).toNatClampNeg = (gel2 (go k).toNatClampNeg).toNatClampNeg
            · rw [← q, pk_us]
              exact hn
            · rw [pk_un q, pk_us]
              exact hn
          · rw [pk_us]
            exact hn
        · intro q
          rw [d3, if_pos q, pk_us]
          exact hn
        · intro j j1 j2
          rw [d3]
          split
          · rename_i q
            rw [pk_un (j2 q), pk_un j1]
          · rw [pk_un j1]
      obtain ⟨sb2, q1, q2⟩ := fin
      exact ⟨sb2, q1, by rw [q2, c2, show oc2.toNatClampNeg = k from by rw [i32_natI d2]; (first | (apply Int.le_antisymm <;> omega) | omega)]⟩
    · intro z
      obtain ⟨d1, d2, d3⟩ := c7 z
      refine ⟨rs_ext h hl2 gj (fun j hj => by rw [d3, pk_un (show j ≠ n by (first | (apply Int.le_antisymm <;> omega) | omega))]) hel0 hva0, ?_, by rw [gn]; exact c1⟩
      rw [hsb, show oc.toNatClampNeg = 0 from by (first | (apply Int.le_antisymm <;> omega) | omega)]
      rfl
  · refine ⟨fun _ => ?_, fun z => absurd z (by (first | (apply Int.le_antisymm <;> omega) | omega))⟩
    have vn : gva2 n = v := by rw [c11, pk_uLs]
    obtain ⟨sb2, q1, q2⟩ := plain (fun j hj => by rw [c7, pk_un (show j ≠ n by (first | (apply Int.le_antisymm <;> omega) | omega))]) (fun j hj => by rw [c8, pk_un (show j ≠ n by (first | (apply Int.le_antisymm <;> omega) | omega))]) (fun j hj => by rw [c11, uL_un (show j ≠ n by (first | (apply Int.le_antisymm <;> omega) | omega)), uL_un (show j ≠ n by (first | (apply Int.le_antisymm <;> omega) | omega))]) (by rw [c5]; (first | (apply Int.le_antisymm <;> omega) | omega)) (by unfold rs_val; rw [gn, vn]; exact ⟨fun z => absurd z (by (first | (apply Int.le_antisymm <;> omega) | omega)), fun _ => ⟨c9, c10⟩, fun z => absurd z (by (first | (apply Int.le_antisymm <;> omega) | omega)), by (first | (apply Int.le_antisymm <;> omega) | omega)⟩) (by (first | (apply Int.le_antisymm <;> omega) | omega)) (by (first | (apply Int.le_antisymm <;> omega) | omega)) (by rw [c8, pk_us]; (first | (apply Int.le_antisymm <;> omega) | omega)) (fun z => absurd z (by (first | (apply Int.le_antisymm <;> omega) | omega)))
    exact ⟨sb2, q1, by rw [q2, if_neg (by (first | (apply Int.le_antisymm <;> omega) | omega)), hsb, c3, c4]⟩
  · refine ⟨fun _ => ?_, fun z => absurd z (by (first | (apply Int.le_antisymm <;> omega) | omega))⟩
    have vn : gva2 n = x := by rw [c10, pk_uLs]
    have pn : gpt2 n = b := by rw [c11, pk_us]
    obtain ⟨sb2, q1, q2⟩ := plain (fun j hj => by rw [c11, pk_un (show j ≠ n by (first | (apply Int.le_antisymm <;> omega) | omega)), pk_un (show j ≠ n by (first | (apply Int.le_antisymm <;> omega) | omega))]) (fun j hj => by rw [c5, pk_un (show j ≠ n by (first | (apply Int.le_antisymm <;> omega) | omega))]) (fun j hj => by rw [c10, uL_un (show j ≠ n by (first | (apply Int.le_antisymm <;> omega) | omega)), uL_un (show j ≠ n by (first | (apply Int.le_antisymm <;> omega) | omega))]) (by (first | (apply Int.le_antisymm <;> omega) | omega)) (by unfold rs_val; rw [gn, vn, pn]; exact ⟨fun z => absurd z (by (first | (apply Int.le_antisymm <;> omega) | omega)), fun z => absurd z (by (first | (apply Int.le_antisymm <;> omega) | omega)), fun _ => ⟨by (first | (apply Int.le_antisymm <;> omega) | omega), by (first | (apply Int.le_antisymm <;> omega) | omega), by (first | (apply Int.le_antisymm <;> omega) | omega)⟩, by (first | (apply Int.le_antisymm <;> omega) | omega)⟩) (by (first | (apply Int.le_antisymm <;> omega) | omega)) (by (first | (apply Int.le_antisymm <;> omega) | omega)) (by rw [c5, pk_us]; (first | (apply Int.le_antisymm <;> omega) | omega)) (fun z => absurd z (by (first | (apply Int.le_antisymm <;> omega) | omega)))
    exact ⟨sb2, q1, by rw [q2, if_neg (by (first | (apply Int.le_antisymm <;> omega) | omega)), hsb, c3, c4]⟩
  · refine ⟨fun _ => ?_, fun z => absurd z (by (first | (apply Int.le_antisymm <;> omega) | omega))⟩
    obtain ⟨sb2, q1, q2⟩ := plain (fun j hj => by rw [c7, pk_un (show j ≠ n by (first | (apply Int.le_antisymm <;> omega) | omega))]) (fun j hj => by rw [c8, pk_un (show j ≠ n by (first | (apply Int.le_antisymm <;> omega) | omega))]) (fun j hj => by rw [c9, uL_un (show j ≠ n by (first | (apply Int.le_antisymm <;> omega) | omega))]) (by rw [c5]; (first | (apply Int.le_antisymm <;> omega) | omega)) (by unfold rs_val; rw [gn]; exact ⟨fun z => absurd z (by (first | (apply Int.le_antisymm <;> omega) | omega)), fun z => absurd z (by (first | (apply Int.le_antisymm <;> omega) | omega)), fun z => absurd z (by (first | (apply Int.le_antisymm <;> omega) | omega)), by (first | (apply Int.le_antisymm <;> omega) | omega)⟩) (by (first | (apply Int.le_antisymm <;> omega) | omega)) (by (first | (apply Int.le_antisymm <;> omega) | omega)) (by rw [c8, pk_us]; (first | (apply Int.le_antisymm <;> omega) | omega)) (fun z => absurd z (by (first | (apply Int.le_antisymm <;> omega) | omega)))
    exact ⟨sb2, q1, by rw [q2, if_neg (by (first | (apply Int.le_antisymm <;> omega) | omega)), hsb, c3, c4]⟩
  · refine ⟨fun _ => ?_, fun z => absurd z (by (first | (apply Int.le_antisymm <;> omega) | omega))⟩
    obtain ⟨sb2, q1, q2⟩ := plain (fun j hj => by rw [c7, pk_un (show j ≠ n by (first | (apply Int.le_antisymm <;> omega) | omega))]) (fun j hj => by rw [c8, pk_un (show j ≠ n by (first | (apply Int.le_antisymm <;> omega) | omega))]) (fun j hj => by rw [c9, uL_un (show j ≠ n by (first | (apply Int.le_antisymm <;> omega) | omega)), uL_un (show j ≠ n by (first | (apply Int.le_antisymm <;> omega) | omega))]) (by rw [c5]; (first | (apply Int.le_antisymm <;> omega) | omega)) (by unfold rs_val; rw [gn]; exact ⟨fun z => absurd z (by (first | (apply Int.le_antisymm <;> omega) | omega)), fun z => absurd z (by (first | (apply Int.le_antisymm <;> omega) | omega)), fun z => absurd z (by (first | (apply Int.le_antisymm <;> omega) | omega)), by (first | (apply Int.le_antisymm <;> omega) | omega)⟩) (by (first | (apply Int.le_antisymm <;> omega) | omega)) (by (first | (apply Int.le_antisymm <;> omega) | omega)) (by rw [c8, pk_us]; (first | (apply Int.le_antisymm <;> omega) | omega)) (fun z => absurd z (by (first | (apply Int.le_antisymm <;> omega) | omega)))
    exact ⟨sb2, q1, by rw [q2, if_neg (by (first | (apply Int.le_antisymm <;> omega) | omega)), hsb, c3, c4]⟩
  · refine ⟨fun _ => ?_, fun z => absurd z (by (first | (apply Int.le_antisymm <;> omega) | omega))⟩
    obtain ⟨sb2, q1, q2⟩ := plain (fun j hj => by rw [c11, pk_un (show j ≠ n by (first | (apply Int.le_antisymm <;> omega) | omega)), pk_un (show j ≠ n by (first | (apply Int.le_antisymm <;> omega) | omega))]) (fun j hj => by rw [c7, pk_un (show j ≠ n by (first | (apply Int.le_antisymm <;> omega) | omega))]) (fun j hj => by rw [c12, uL_un (show j ≠ n by (first | (apply Int.le_antisymm <;> omega) | omega)), uL_un (show j ≠ n by (first | (apply Int.le_antisymm <;> omega) | omega))]) (by rw [c5]; (first | (apply Int.le_antisymm <;> omega) | omega)) (by unfold rs_val; rw [gn]; exact ⟨fun z => absurd z (by (first | (apply Int.le_antisymm <;> omega) | omega)), fun z => absurd z (by (first | (apply Int.le_antisymm <;> omega) | omega)), fun z => absurd z (by (first | (apply Int.le_antisymm <;> omega) | omega)), by (first | (apply Int.le_antisymm <;> omega) | omega)⟩) (by (first | (apply Int.le_antisymm <;> omega) | omega)) (by (first | (apply Int.le_antisymm <;> omega) | omega)) (by rw [c7, pk_us]; (first | (apply Int.le_antisymm <;> omega) | omega)) (fun z => absurd z (by (first | (apply Int.le_antisymm <;> omega) | omega)))
    exact ⟨sb2, q1, by rw [q2, if_neg (by (first | (apply Int.le_antisymm <;> omega) | omega)), hsb, c3, c4]⟩
end q_17b
section q_17c
/-! a function's code: the loop over its instructions -/
def rc_fin (a n : Nat) (gop gpt gel : Nat → Int32) (gva : Nat → Int64) (lc : Int) : Prop :=
  ∃ sb, a < n ∧ rs_I a (n - 1) gop gpt gel gva lc sb ∧ sb (n - 1) = [] ∧ (gop (n - 1)).toInt = 11
def rc_same (a : Nat) (gop gpt gel gop2 gpt2 gel2 : Nat → Int32) (gva gva2 : Nat → Int64) : Prop := ∀ j, j < a → gop2 j = gop j ∧ gpt2 j = gpt j ∧ gel2 j = gel j ∧ gva2 j = gva j
def rc_inv (a : Nat) (more n oc lc : Int32) (gop gpt gel go : Nat → Int32) (gva : Nat → Int64) : Prop :=
  (∀ j : Nat, (j : Int) < oc.toInt → 0 ≤ (go j).toInt ∧ (go j).toInt < 5000) ∧ (more.toInt = 1 → ∃ sb, rs_I a n.toNatClampNeg gop gpt gel gva lc.toInt sb ∧ sb n.toNatClampNeg = rs_stk go oc.toNatClampNeg) ∧ (more.toInt = 0 → rc_fin a n.toNatClampNeg gop gpt gel gva lc.toInt)
theorem rs_go {cl o oc lc r oc2 lc2 : Int32} {gop gpt gel glb go gop2 gpt2 gel2 glb2 go2 : Nat → Int32} {gva gva2 : Nat → Int64} (hc : 0 ≤ cl.toInt ∧ cl.toInt < 5000) (hoc : 0 ≤ oc.toInt) (hr : r.toInt = 0 ∨ r.toInt = 1) (h : ∀ j : Nat, (j : Int) < oc.toInt → 0 ≤ (go j).toInt ∧ (go j).toInt < 5000)
    (st : rstep cl o oc lc r oc2 lc2 gop gpt gel glb go gop2 gpt2 gel2 glb2 go2 gva gva2) : ∀ j : Nat, (j : Int) < oc2.toInt → 0 ≤ (go2 j).toInt ∧ (go2 j).toInt < 5000 := by
  intro j hj
  have hocn := i32_clamp (x := oc) hoc
  obtain ⟨-, st⟩ := st
  rcases st with ⟨-, -, -, c4, c5, -⟩ | ⟨-, -, c3, c4, -⟩ | ⟨-, c2, -, -, -, -, c7, c8⟩ | ⟨-, -, c3, c4, -⟩ | ⟨-, -, c3, c4, -⟩ | ⟨-, -, c3, c4, -⟩ | ⟨-, -, c3, c4, -⟩ | ⟨-, -, c3, c4, -⟩
  · rw [c5]
    by_cases e : j = oc.toNatClampNeg
    · rw [e, pk_us]
      exact hc
    · rw [pk_un e]
      exact h j (by (first | (apply Int.le_antisymm <;> omega) | omega))
  · rw [c4]; rw [c3] at hj; exact h j hj
  · rw [c2]
    rcases hr with z | z
    · have := (c7 z).2.1
      rw [this] at hj
      exact h j hj
    · have := (c8 z).2.1
      exact h j (by (first | (apply Int.le_antisymm <;> omega) | omega))
  · rw [c4]; rw [c3] at hj; exact h j hj
  · rw [c4]; rw [c3] at hj; exact h j hj
  · rw [c4]; rw [c3] at hj; exact h j hj
  · rw [c4]; rw [c3] at hj; exact h j hj
  · rw [c4]; rw [c3] at hj; exact h j hj
theorem rs_below {a n : Nat} {cl o oc lc r oc2 lc2 : Int32} {gop gpt gel glb go gop2 gpt2 gel2 glb2 go2 : Nat → Int32} {gva gva2 : Nat → Int64} {sb : Nat → List Nat} (h : rs_I a n gop gpt gel gva lc.toInt sb) (hn : cl.toInt = n) (hoc : 0 ≤ oc.toInt) (hr : r.toInt = 0 ∨ r.toInt = 1) (hsb : sb n = rs_stk go oc.toNatClampNeg)
    (st : rstep cl o oc lc r oc2 lc2 gop gpt gel glb go gop2 gpt2 gel2 glb2 go2 gva gva2) : rc_same a gop gpt gel gop2 gpt2 gel2 gva gva2 := by
  intro j hj
  have han := h.1
  have hocn := i32_clamp (x := oc) hoc
  have hjn : j ≠ n := by (first | (apply Int.le_antisymm <;> omega) | omega)
  unfold rstep at st
  rw [i32_nat hn] at st
  obtain ⟨e0, st⟩ := st
  have g1 : gop2 j = gop j := by rw [e0, pk_un hjn]
  have top : 0 < oc.toInt → (go (oc.toNatClampNeg - 1)).toNatClampNeg ∈ sb n := by
    intro z
    obtain ⟨k, hk⟩ : ∃ k, oc.toNatClampNeg = k + 1 := ⟨oc.toNatClampNeg - 1, by (first | (apply Int.le_antisymm <;> omega) | omega)⟩
    rw [hsb, hk]
    exact List.mem_cons_self
  rcases st with ⟨-, -, -, -, -, -, -, c8, c9, v, -, c11⟩ | ⟨-, -, -, -, -, -, c7, c8, c9, c10, c11, c12⟩ | ⟨-, -, -, -, c5, c6, c7, c8⟩ | ⟨-, -, -, -, -, -, c7, c8, v, -, -, c11⟩ | ⟨-, -, -, -, c5, b, x, -, -, -, -, c10, c11⟩ | ⟨-, -, -, -, -, -, c7, c8, c9⟩ | ⟨-, -, -, -, -, -, c7, c8, v, c9⟩ | ⟨-, -, -, -, -, -, c7, b, x, -, -, -, c11, c12⟩
  · exact ⟨g1, by rw [c8, pk_un hjn], by rw [c9, pk_un hjn], by rw [c11, uL_un hjn, uL_un hjn]⟩
  · have hb := (h.2.2.1 n han (Nat.le_refl _)).1 _ (top c9)
    exact ⟨g1, by rw [c7, pk_un hjn], by rw [c12, pk_un (by (first | (apply Int.le_antisymm <;> omega) | omega)), pk_un hjn], by rw [c8, uL_un hjn]⟩
  · refine ⟨g1, ?_, by rw [c5, pk_un hjn], by rw [c6, uL_un hjn]⟩
    rcases hr with z | z
    · rw [(c7 z).2.2, pk_un hjn]
    · obtain ⟨d1, d2, d3⟩ := c8 z
      obtain ⟨b1, b2, b3⟩ := (h.2.2.1 n han (Nat.le_refl _)).1 _ (top d1)
      have e9 : upd gel n (-1) (go (oc.toNatClampNeg - 1)).toNatClampNeg = gel (go (oc.toNatClampNeg - 1)).toNatClampNeg := pk_un (by (first | (apply Int.le_antisymm <;> omega) | omega))
      rw [e9] at d3
      rw [d3]
      split
      · rename_i q
        have w := (rs_els h b1 b2 q).2.1
        rw [pk_un (by (first | (apply Int.le_antisymm <;> omega) | omega)), pk_un (by (first | (apply Int.le_antisymm <;> omega) | omega)), pk_un hjn]
      · rw [pk_un (by (first | (apply Int.le_antisymm <;> omega) | omega)), pk_un hjn]
  · exact ⟨g1, by rw [c7, pk_un hjn], by rw [c8, pk_un hjn], by rw [c11, uL_un hjn, uL_un hjn]⟩
  · exact ⟨g1, by rw [c11, pk_un hjn, pk_un hjn], by rw [c5, pk_un hjn], by rw [c10, uL_un hjn, uL_un hjn]⟩
  · exact ⟨g1, by rw [c7, pk_un hjn], by rw [c8, pk_un hjn], by rw [c9, uL_un hjn]⟩
  · exact ⟨g1, by rw [c7, pk_un hjn], by rw [c8, pk_un hjn], by rw [c9, uL_un hjn, uL_un hjn]⟩
  · exact ⟨g1, by rw [c11, pk_un hjn, pk_un hjn], by rw [c7, pk_un hjn], by rw [c12, uL_un hjn, uL_un hjn]⟩
/-- the loop goes on -/
theorem rc_next {a : Nat} {more n o oc lc r n2 oc2 lc2 : Int32} {gop gpt gel glb go gop2 gpt2 gel2 glb2 go2 gop0 gpt0 gel0 : Nat → Int32} {gva gva2 gva0 : Nat → Int64} (h : rc_inv a more n oc lc gop gpt gel go gva) (hs : rc_same a gop0 gpt0 gel0 gop gpt gel gva0 gva) (hm : more.toInt = 1) (hn : 0 ≤ n.toInt ∧ n.toInt < 5000) (hn2 : n2.toInt = n.toInt + 1) (hoc : 0 ≤ oc.toInt ∧ oc.toInt ≤ 100) (hlc : 0 ≤ lc.toInt) (hr : r.toInt = 0 ∨ r.toInt = 1)
    (st : rstep n o oc lc r oc2 lc2 gop gpt gel glb go gop2 gpt2 gel2 glb2 go2 gva gva2) : rc_inv a r n2 oc2 lc2 gop2 gpt2 gel2 go2 gva2 ∧ rc_same a gop0 gpt0 gel0 gop2 gpt2 gel2 gva0 gva2 := by
  obtain ⟨h1, h2, -⟩ := h
  obtain ⟨sb, k1, k2⟩ := h2 hm
  have nn := i32_clamp (x := n) hn.1
  have e2 : n2.toNatClampNeg = n.toNatClampNeg + 1 := by rw [i32_natI hn2]; (first | (apply Int.le_antisymm <;> omega) | omega)
  have S := rs_step k1 (by (first | (apply Int.le_antisymm <;> omega) | omega)) hoc hlc k2 st
  have B := rs_below k1 (by (first | (apply Int.le_antisymm <;> omega) | omega)) hoc.1 hr k2 st
  refine ⟨⟨rs_go hn hoc.1 hr h1 st, fun z => ?_, fun z => ?_⟩, fun j hj => ?_⟩
  · rw [e2]
    exact S.1 z
  · rw [e2]
    obtain ⟨q1, q2, q3⟩ := S.2 z
    exact ⟨sb, by have := k1.1; (first | (apply Int.le_antisymm <;> omega) | omega), q1, q2, q3⟩
  · obtain ⟨a1, a2, a3, a4⟩ := B j hj
    obtain ⟨b1, b2, b3, b4⟩ := hs j hj
    exact ⟨a1.trans b1, a2.trans b2, a3.trans b3, a4.trans b4⟩
theorem rc_begin {n oc lc : Int32} {gop gpt gel go : Nat → Int32} {gva : Nat → Int64} (ho : oc.toInt = 0) : rc_inv n.toNatClampNeg 1 n oc lc gop gpt gel go gva :=
  ⟨fun j hj => absurd hj (by (first | (apply Int.le_antisymm <;> omega) | omega)), fun _ => ⟨_, rs_start, by rw [show oc.toNatClampNeg = 0 from i32_nat ho]; rfl⟩, fun z => absurd z (by decide)⟩
/-- put away, so that arithmetic doesn't look into it -/
def bx (P : Prop) : Prop := P
theorem bx.out {P : Prop} (h : bx P) : P := h
end q_17c
section q_18
/-! Reader: a function, the sections -/
abbrev b_RE_readCode : ByteArray := prog_9_method_8_code
def y_RE_readCode : MethodName := ⟨R_RE, "readCode", "(I)V"⟩
abbrev w_RE_readCode : List Cond := .code y_RE_readCode b_RE_readCode 6 none :: lw_g
theorem kC_RE_readCode : Cond.code y_RE_readCode b_RE_readCode 6 none ∈ lw_g := in_c6 131 rfl rfl
theorem d_RE_readCode_0 : decode b_RE_readCode 0 = .ok (.aload_n 0, 1) := bz_c42 (by decide +kernel)
theorem d_RE_readCode_1 : decode b_RE_readCode 1 = .ok (.getfield 42, 3) := bz_c180 (by decide +kernel)
theorem d_RE_readCode_4 : decode b_RE_readCode 4 = .ok (.istore_n 2, 1) := bz_c61 (by decide +kernel)
theorem d_RE_readCode_5 : decode b_RE_readCode 5 = .ok (.aload_n 0, 1) := bz_c42 (by decide +kernel)
theorem d_RE_readCode_6 : decode b_RE_readCode 6 = .ok (.aload_n 0, 1) := bz_c42 (by decide +kernel)
theorem d_RE_readCode_7 : decode b_RE_readCode 7 = .ok (.getfield 15, 3) := bz_c180 (by decide +kernel)
theorem d_RE_readCode_10 : decode b_RE_readCode 10 = .ok (.getfield 33, 3) := bz_c180 (by decide +kernel)
theorem d_RE_readCode_13 : decode b_RE_readCode 13 = .ok (.getfield 37, 3) := bz_c180 (by decide +kernel)
theorem d_RE_readCode_16 : decode b_RE_readCode 16 = .ok (.i2l, 1) := bz_c133 (by decide +kernel)
theorem d_RE_readCode_17 : decode b_RE_readCode 17 = .ok (.invokevirtual 64, 3) := bz_c182 (by decide +kernel)
theorem d_RE_readCode_20 : decode b_RE_readCode 20 = .ok (.l2i, 1) := bz_c136 (by decide +kernel)
theorem d_RE_readCode_21 : decode b_RE_readCode 21 = .ok (.istore_n 3, 1) := bz_c62 (by decide +kernel)
theorem d_RE_readCode_22 : decode b_RE_readCode 22 = .ok (.aload_n 0, 1) := bz_c42 (by decide +kernel)
theorem d_RE_readCode_23 : decode b_RE_readCode 23 = .ok (.aload_n 0, 1) := bz_c42 (by decide +kernel)
theorem d_RE_readCode_24 : decode b_RE_readCode 24 = .ok (.getfield 45, 3) := bz_c180 (by decide +kernel)
theorem d_RE_readCode_27 : decode b_RE_readCode 27 = .ok (.ifCond .eq 20, 3) := bz_c153 (by decide +kernel)
theorem d_RE_readCode_30 : decode b_RE_readCode 30 = .ok (.iload_n 3, 1) := bz_c29 (by decide +kernel)
theorem d_RE_readCode_31 : decode b_RE_readCode 31 = .ok (.aload_n 0, 1) := bz_c42 (by decide +kernel)
theorem d_RE_readCode_32 : decode b_RE_readCode 32 = .ok (.getfield 42, 3) := bz_c180 (by decide +kernel)
theorem d_RE_readCode_35 : decode b_RE_readCode 35 = .ok (.aload_n 0, 1) := bz_c42 (by decide +kernel)
theorem d_RE_readCode_36 : decode b_RE_readCode 36 = .ok (.getfield 29, 3) := bz_c180 (by decide +kernel)
theorem d_RE_readCode_39 : decode b_RE_readCode 39 = .ok (.isub, 1) := bz_c100 (by decide +kernel)
theorem d_RE_readCode_40 : decode b_RE_readCode 40 = .ok (.if_icmp .gt 7, 3) := bz_c163 (by decide +kernel)
theorem d_RE_readCode_43 : decode b_RE_readCode 43 = .ok (.iconst 1, 1) := bz_c4 (by decide +kernel)
theorem d_RE_readCode_44 : decode b_RE_readCode 44 = .ok (.goto 4, 3) := bz_c167 (by decide +kernel)
theorem d_RE_readCode_47 : decode b_RE_readCode 47 = .ok (.iconst 0, 1) := bz_c3 (by decide +kernel)
theorem d_RE_readCode_48 : decode b_RE_readCode 48 = .ok (.putfield 45, 3) := bz_c181 (by decide +kernel)
theorem d_RE_readCode_51 : decode b_RE_readCode 51 = .ok (.aload_n 0, 1) := bz_c42 (by decide +kernel)
theorem d_RE_readCode_52 : decode b_RE_readCode 52 = .ok (.getfield 45, 3) := bz_c180 (by decide +kernel)
theorem d_RE_readCode_55 : decode b_RE_readCode 55 = .ok (.ifCond .ne 4, 3) := bz_c154 (by decide +kernel)
theorem d_RE_readCode_58 : decode b_RE_readCode 58 = .ok (.return_, 1) := bz_c177 (by decide +kernel)
theorem d_RE_readCode_59 : decode b_RE_readCode 59 = .ok (.aload_n 0, 1) := bz_c42 (by decide +kernel)
theorem d_RE_readCode_60 : decode b_RE_readCode 60 = .ok (.aload_n 0, 1) := bz_c42 (by decide +kernel)
theorem d_RE_readCode_61 : decode b_RE_readCode 61 = .ok (.getfield 29, 3) := bz_c180 (by decide +kernel)
theorem d_RE_readCode_64 : decode b_RE_readCode 64 = .ok (.iload_n 3, 1) := bz_c29 (by decide +kernel)
theorem d_RE_readCode_65 : decode b_RE_readCode 65 = .ok (.iadd, 1) := bz_c96 (by decide +kernel)
theorem d_RE_readCode_66 : decode b_RE_readCode 66 = .ok (.putfield 42, 3) := bz_c181 (by decide +kernel)
theorem d_RE_readCode_69 : decode b_RE_readCode 69 = .ok (.aload_n 0, 1) := bz_c42 (by decide +kernel)
theorem d_RE_readCode_70 : decode b_RE_readCode 70 = .ok (.getfield 25, 3) := bz_c180 (by decide +kernel)
theorem d_RE_readCode_73 : decode b_RE_readCode 73 = .ok (.getfield 170, 3) := bz_c180 (by decide +kernel)
theorem d_RE_readCode_76 : decode b_RE_readCode 76 = .ok (.iload_n 1, 1) := bz_c27 (by decide +kernel)
theorem d_RE_readCode_77 : decode b_RE_readCode 77 = .ok (.aload_n 0, 1) := bz_c42 (by decide +kernel)
theorem d_RE_readCode_78 : decode b_RE_readCode 78 = .ok (.getfield 25, 3) := bz_c180 (by decide +kernel)
theorem d_RE_readCode_81 : decode b_RE_readCode 81 = .ok (.getfield 175, 3) := bz_c180 (by decide +kernel)
theorem d_RE_readCode_84 : decode b_RE_readCode 84 = .ok (.iastore, 1) := bz_c79 (by decide +kernel)
theorem d_RE_readCode_85 : decode b_RE_readCode 85 = .ok (.aload_n 0, 1) := bz_c42 (by decide +kernel)
theorem d_RE_readCode_86 : decode b_RE_readCode 86 = .ok (.iload_n 1, 1) := bz_c27 (by decide +kernel)
theorem d_RE_readCode_87 : decode b_RE_readCode 87 = .ok (.invokevirtual 176, 3) := bz_c182 (by decide +kernel)
theorem d_RE_readCode_90 : decode b_RE_readCode 90 = .ok (.aload_n 0, 1) := bz_c42 (by decide +kernel)
theorem d_RE_readCode_91 : decode b_RE_readCode 91 = .ok (.iconst 0, 1) := bz_c3 (by decide +kernel)
theorem d_RE_readCode_92 : decode b_RE_readCode 92 = .ok (.putfield 179, 3) := bz_c181 (by decide +kernel)
theorem d_RE_readCode_95 : decode b_RE_readCode 95 = .ok (.iconst 1, 1) := bz_c4 (by decide +kernel)
theorem d_RE_readCode_96 : decode b_RE_readCode 96 = .ok (.istore 4, 2) := bz_c54 (by decide +kernel)
theorem d_RE_readCode_98 : decode b_RE_readCode 98 = .ok (.iconst 0, 1) := bz_c3 (by decide +kernel)
theorem d_RE_readCode_99 : decode b_RE_readCode 99 = .ok (.istore 5, 2) := bz_c54 (by decide +kernel)
theorem d_RE_readCode_101 : decode b_RE_readCode 101 = .ok (.iload 5, 2) := bz_c21 (by decide +kernel)
theorem d_RE_readCode_103 : decode b_RE_readCode 103 = .ok (.sipush 5000, 3) := bz_c17 (by decide +kernel)
theorem d_RE_readCode_106 : decode b_RE_readCode 106 = .ok (.if_icmp .gt 27, 3) := bz_c163 (by decide +kernel)
theorem d_RE_readCode_109 : decode b_RE_readCode 109 = .ok (.aload_n 0, 1) := bz_c42 (by decide +kernel)
theorem d_RE_readCode_110 : decode b_RE_readCode 110 = .ok (.getfield 45, 3) := bz_c180 (by decide +kernel)
theorem d_RE_readCode_113 : decode b_RE_readCode 113 = .ok (.ifCond .eq 20, 3) := bz_c153 (by decide +kernel)
theorem d_RE_readCode_116 : decode b_RE_readCode 116 = .ok (.iload 4, 2) := bz_c21 (by decide +kernel)
theorem d_RE_readCode_118 : decode b_RE_readCode 118 = .ok (.ifCond .eq 15, 3) := bz_c153 (by decide +kernel)
theorem d_RE_readCode_121 : decode b_RE_readCode 121 = .ok (.aload_n 0, 1) := bz_c42 (by decide +kernel)
theorem d_RE_readCode_122 : decode b_RE_readCode 122 = .ok (.invokevirtual 182, 3) := bz_c182 (by decide +kernel)
theorem d_RE_readCode_125 : decode b_RE_readCode 125 = .ok (.istore 4, 2) := bz_c54 (by decide +kernel)
theorem d_RE_readCode_127 : decode b_RE_readCode 127 = .ok (.iinc 5 1, 3) := by decide +kernel
theorem d_RE_readCode_130 : decode b_RE_readCode 130 = .ok (.goto (-29), 3) := bz_c167 (by decide +kernel)
theorem d_RE_readCode_133 : decode b_RE_readCode 133 = .ok (.aload_n 0, 1) := bz_c42 (by decide +kernel)
theorem d_RE_readCode_134 : decode b_RE_readCode 134 = .ok (.getfield 25, 3) := bz_c180 (by decide +kernel)
theorem d_RE_readCode_137 : decode b_RE_readCode 137 = .ok (.getfield 170, 3) := bz_c180 (by decide +kernel)
theorem d_RE_readCode_140 : decode b_RE_readCode 140 = .ok (.iload_n 1, 1) := bz_c27 (by decide +kernel)
theorem d_RE_readCode_141 : decode b_RE_readCode 141 = .ok (.iconst 1, 1) := bz_c4 (by decide +kernel)
theorem d_RE_readCode_142 : decode b_RE_readCode 142 = .ok (.iadd, 1) := bz_c96 (by decide +kernel)
theorem d_RE_readCode_143 : decode b_RE_readCode 143 = .ok (.aload_n 0, 1) := bz_c42 (by decide +kernel)
theorem d_RE_readCode_144 : decode b_RE_readCode 144 = .ok (.getfield 25, 3) := bz_c180 (by decide +kernel)
theorem d_RE_readCode_147 : decode b_RE_readCode 147 = .ok (.getfield 175, 3) := bz_c180 (by decide +kernel)
theorem d_RE_readCode_150 : decode b_RE_readCode 150 = .ok (.iastore, 1) := bz_c79 (by decide +kernel)
theorem d_RE_readCode_151 : decode b_RE_readCode 151 = .ok (.aload_n 0, 1) := bz_c42 (by decide +kernel)
theorem d_RE_readCode_152 : decode b_RE_readCode 152 = .ok (.aload_n 0, 1) := bz_c42 (by decide +kernel)
theorem d_RE_readCode_153 : decode b_RE_readCode 153 = .ok (.getfield 45, 3) := bz_c180 (by decide +kernel)
theorem d_RE_readCode_156 : decode b_RE_readCode 156 = .ok (.ifCond .eq 18, 3) := bz_c153 (by decide +kernel)
theorem d_RE_readCode_159 : decode b_RE_readCode 159 = .ok (.aload_n 0, 1) := bz_c42 (by decide +kernel)
theorem d_RE_readCode_160 : decode b_RE_readCode 160 = .ok (.getfield 29, 3) := bz_c180 (by decide +kernel)
theorem d_RE_readCode_163 : decode b_RE_readCode 163 = .ok (.aload_n 0, 1) := bz_c42 (by decide +kernel)
theorem d_RE_readCode_164 : decode b_RE_readCode 164 = .ok (.getfield 42, 3) := bz_c180 (by decide +kernel)
theorem d_RE_readCode_167 : decode b_RE_readCode 167 = .ok (.if_icmp .ne 7, 3) := bz_c160 (by decide +kernel)
theorem d_RE_readCode_170 : decode b_RE_readCode 170 = .ok (.iconst 1, 1) := bz_c4 (by decide +kernel)
theorem d_RE_readCode_171 : decode b_RE_readCode 171 = .ok (.goto 4, 3) := bz_c167 (by decide +kernel)
theorem d_RE_readCode_174 : decode b_RE_readCode 174 = .ok (.iconst 0, 1) := bz_c3 (by decide +kernel)
theorem d_RE_readCode_175 : decode b_RE_readCode 175 = .ok (.putfield 45, 3) := bz_c181 (by decide +kernel)
theorem d_RE_readCode_178 : decode b_RE_readCode 178 = .ok (.aload_n 0, 1) := bz_c42 (by decide +kernel)
theorem d_RE_readCode_179 : decode b_RE_readCode 179 = .ok (.iload_n 2, 1) := bz_c28 (by decide +kernel)
theorem d_RE_readCode_180 : decode b_RE_readCode 180 = .ok (.putfield 42, 3) := bz_c181 (by decide +kernel)
theorem d_RE_readCode_183 : decode b_RE_readCode 183 = .ok (.return_, 1) := bz_c177 (by decide +kernel)
theorem kM_RE_176 : Cond.methodLink R_RE 176 y_RE_readLocals ∈ lw_g := in_c6 132 rfl rfl
theorem kV_RE_readLocals : Cond.instanceMethod y_RE_readLocals ∈ lw_g := in_c6 134 rfl rfl
theorem kS_RE_readLocals : Cond.selects R_RE y_RE_readLocals y_RE_readLocals ∈ lw_g := in_s 73 (by decide +kernel) rfl
theorem kM_RE_182 : Cond.methodLink R_RE 182 y_RE_readInstruction ∈ lw_g := in_c6 137 rfl rfl
theorem kV_RE_readInstruction : Cond.instanceMethod y_RE_readInstruction ∈ lw_g := in_c6 139 rfl rfl
theorem kS_RE_readInstruction : Cond.selects R_RE y_RE_readInstruction y_RE_readInstruction ∈ lw_g := in_s 74 (by decide +kernel) rfl
theorem kF_RE_37 : Cond.fieldLink R_RE 37 "WaferForge$ByteRow" "length" "I" ∈ lw_g := in_c1 60 rfl rfl
theorem kF_RE_170 : Cond.fieldLink R_RE 170 "WaferForge$Codes" "firsts" "[I" ∈ lw_g := in_c1 85 rfl rfl
abbrev at_RE_readCode (dC : Nat → ClassId) (dI : Nat → Nat → Nat) (h0 aw ac ob ab wat wap wag waf wgt wft wfv wgc wek wei wes wez ax cfi clk clt cop cva cpt cel cla : Nat) (cax cob ccfi cclk cclt ccop ccva ccpt ccel ccla : ClassId) (h0_codeCount : Int32) (aw_typeCount : Int32) (aw_functionCount : Int32) (aw_hasMemory : Int32) (aw_pagesLeast : Int64) (aw_pagesMost : Int64) (aw_globalCount : Int32) (aw_exportCount : Int32) (ab_length : Int32) (gax : Nat → Int32) (A : Nat → Prop) (u : (Nat → Int32) × (Nat → Int32) × (Nat → Int32) × (Nat → Int32) × (Nat → Int32) × (Nat → Int32) × (Nat → Int32) × (Nat → Int64) × (Nat → Int32) × Int32 × Int32 × Int32 × Int32 × Int32 × Int32) (t : State) : Prop := match u with | (gcel, gcfi, gcla, gclk, gclt, gcop, gcpt, gcva, gob, ac_labelCount, ac_length, h0_at, h0_limit, h0_openCount, h0_sound) => va_P (dC, dI) cls (wz_50 h0 aw ac h0_at h0_limit h0_sound h0_codeCount ob h0_openCount aw ab ac aw_typeCount wat wap wag aw_functionCount waf aw_hasMemory aw_pagesLeast aw_pagesMost aw_globalCount wgt wft wfv wgc aw_exportCount wek wei wes wez ab ax ab_length ac cfi clk clt ac_length cop cva cpt cel ac_labelCount cla ax cax gax ob cob gob cfi ccfi gcfi clk cclk gclk clt cclt gclt cop ccop gcop cva ccva gcva cpt ccpt gcpt cel ccel gcel cla ccla gcla) t.heap ∧ va_K (dC, dI) cls [(cax, .byte), (cob, .int), (ccfi, .int), (cclk, .int), (cclt, .int), (ccop, .int), (ccva, .long), (ccpt, .int), (ccel, .int), (ccla, .int)] t ∧ va_D A (wz_50 h0 aw ac h0_at h0_limit h0_sound h0_codeCount ob h0_openCount aw ab ac aw_typeCount wat wap wag aw_functionCount waf aw_hasMemory aw_pagesLeast aw_pagesMost aw_globalCount wgt wft wfv wgc aw_exportCount wek wei wes wez ab ax ab_length ac cfi clk clt ac_length cop cva cpt cel ac_labelCount cla ax cax gax ob cob gob cfi ccfi gcfi clk cclk gclk clt cclt gclt cop ccop gcop cva ccva gcva cpt ccpt gcpt cel ccel gcel cla ccla gcla)
set_option maxHeartbeats 4000000 in
set_option maxRecDepth 100000 in
theorem c_RE_readCode (l : Launch) (dC : Nat → ClassId) (dI : Nat → Nat → Nat) (sz : Nat) (h0 aw ac ob ab wat wap wag waf wgt wft wfv wgc wek wei wes wez ax cfi clk clt cop cva cpt cel cla : Nat) (cax cob ccfi cclk cclt ccop ccva ccpt ccel ccla : ClassId) (h0_at : Int32) (h0_limit : Int32) (h0_sound : Int32) (h0_codeCount : Int32) (h0_openCount : Int32) (aw_typeCount : Int32) (aw_functionCount : Int32) (aw_hasMemory : Int32) (aw_pagesLeast : Int64) (aw_pagesMost : Int64) (aw_globalCount : Int32) (aw_exportCount : Int32) (ab_length : Int32) (ac_length : Int32) (ac_labelCount : Int32) (gax : Nat → Int32) (gob : Nat → Int32) (gcfi : Nat → Int32) (gclk : Nat → Int32) (gclt : Nat → Int32) (gcop : Nat → Int32) (gcva : Nat → Int64) (gcpt : Nat → Int32) (gcel : Nat → Int32) (gcla : Nat → Int32)  (b_h0_sound : h0_sound = 0 ∨ h0_sound = 1) (b_h0_codeCount : 0 ≤ h0_codeCount.toInt ∧ h0_codeCount.toInt ≤ 30) (b_h0_openCount : 0 ≤ h0_openCount.toInt ∧ h0_openCount.toInt ≤ 100) (b_ac_length : 0 ≤ ac_length.toInt ∧ ac_length.toInt ≤ 5000) (b_ac_labelCount : 0 ≤ ac_labelCount.toInt ∧ ac_labelCount.toInt ≤ 2000) (p0 : Int32) (ba0 : 0 ≤ p0.toInt ∧ p0.toInt ≤ 29) (ha : 0 ≤ h0_at.toInt ∧ h0_at.toInt ≤ h0_limit.toInt ∧ h0_limit.toInt ≤ ab_length.toInt ∧ ab_length.toInt ≤ 8192) (hel : ∀ j : Nat, (gcel j).toInt < 5000) (hlb : ∀ j : Nat, (j : Int) < ac_labelCount.toInt → 0 ≤ (gcla j).toInt) : Met l y_RE_readCode w_RE_readCode ({ frames := 4, cells := 0, slots := 0, locals := 91 }) (va_Pc [.ref h0, .int p0] (fun U => U.heap.size = sz ∧ va_P (dC, dI) cls (wz_50 h0 aw ac h0_at h0_limit h0_sound h0_codeCount ob h0_openCount aw ab ac aw_typeCount wat wap wag aw_functionCount waf aw_hasMemory aw_pagesLeast aw_pagesMost aw_globalCount wgt wft wfv wgc aw_exportCount wek wei wes wez ab ax ab_length ac cfi clk clt ac_length cop cva cpt cel ac_labelCount cla ax cax gax ob cob gob cfi ccfi gcfi clk cclk gclk clt cclt gclt cop ccop gcop cva ccva gcva cpt ccpt gcpt cel ccel gcel cla ccla gcla) U.heap ∧ va_K (dC, dI) cls [(cax, .byte), (cob, .int), (ccfi, .int), (cclk, .int), (cclt, .int), (ccop, .int), (ccva, .long), (ccpt, .int), (ccel, .int), (ccla, .int)] U ∧ va_D (fun _ => True) (wz_50 h0 aw ac h0_at h0_limit h0_sound h0_codeCount ob h0_openCount aw ab ac aw_typeCount wat wap wag aw_functionCount waf aw_hasMemory aw_pagesLeast aw_pagesMost aw_globalCount wgt wft wfv wgc aw_exportCount wek wei wes wez ab ax ab_length ac cfi clk clt ac_length cop cva cpt cel ac_labelCount cla ax cax gax ob cob gob cfi ccfi gcfi clk cclk gclk clt cclt gclt cop ccop gcop cva ccva gcva cpt ccpt gcpt cel ccel gcel cla ccla gcla))) (va_Qv (fun (u : (Nat → Int32) × (Nat → Int32) × (Nat → Int32) × (Nat → Int32) × (Nat → Int32) × (Nat → Int32) × (Nat → Int32) × (Nat → Int64) × (Nat → Int32) × Int32 × Int32 × Int32 × Int32 × Int32 × Int32) => match u with | (gcel2, gcfi2, gcla2, gclk2, gclt2, gcop2, gcpt2, gcva2, gob2, ac_labelCount2, ac_length2, h0_at2, h0_limit2, h0_openCount2, h0_sound2) => (0 ≤ ac_labelCount2.toInt ∧ ac_labelCount2.toInt ≤ 2000) ∧ (0 ≤ ac_length2.toInt ∧ ac_length2.toInt ≤ 5000) ∧ (0 ≤ h0_openCount2.toInt ∧ h0_openCount2.toInt ≤ 100) ∧ (h0_sound2 = 0 ∨ h0_sound2 = 1) ∧ ((h0_at.toInt ≤ h0_at2.toInt ∧ h0_at2.toInt ≤ h0_limit.toInt) ∧ (h0_sound2.toInt = 1 → h0_sound.toInt = 1) ∧ h0_limit2 = h0_limit ∧ (∀ j : Nat, (gcel2 j).toInt < 5000) ∧ (∀ j : Nat, (j : Int) < ac_labelCount2.toInt → 0 ≤ (gcla2 j).toInt) ∧ (ac_length.toInt ≤ ac_length2.toInt ∧ ac_labelCount.toInt ≤ ac_labelCount2.toInt) ∧ (h0_sound2.toInt = 1 → rc_fin ac_length.toNatClampNeg ac_length2.toNatClampNeg gcop2 gcpt2 gcel2 gcva2 ac_labelCount2.toInt ∧ rc_same ac_length.toNatClampNeg gcop gcpt gcel gcop2 gcpt2 gcel2 gcva gcva2 ∧ gcfi2 = upd (upd gcfi p0.toNatClampNeg ac_length) (p0.toNatClampNeg + 1) ac_length2 ∧ (∀ j : Nat, ((j : Int) < 60 * p0.toInt ∨ 60 * p0.toInt + 60 ≤ (j : Int)) → gclt2 j = gclt j) ∧ ∃ t : Int32, 0 ≤ t.toInt ∧ t.toInt ≤ 60 ∧ gclk2 = upd gclk p0.toNatClampNeg t ∧ ∀ j : Nat, 60 * p0.toInt ≤ (j : Int) → (j : Int) < 60 * p0.toInt + t.toInt → (gclt2 j).toInt = 127 ∨ (gclt2 j).toInt = 126))) (at_RE_readCode dC dI h0 aw ac ob ab wat wap wag waf wgt wft wfv wgc wek wei wes wez ax cfi clk clt cop cva cpt cel cla cax cob ccfi cclk cclt ccop ccva ccpt ccel ccla h0_codeCount aw_typeCount aw_functionCount aw_hasMemory aw_pagesLeast aw_pagesMost aw_globalCount aw_exportCount ab_length gax (va_A (wz_50 h0 aw ac h0_at h0_limit h0_sound h0_codeCount ob h0_openCount aw ab ac aw_typeCount wat wap wag aw_functionCount waf aw_hasMemory aw_pagesLeast aw_pagesMost aw_globalCount wgt wft wfv wgc aw_exportCount wek wei wes wez ab ax ab_length ac cfi clk clt ac_length cop cva cpt cel ac_labelCount cla ax cax gax ob cob gob cfi ccfi gcfi clk cclk gclk clt cclt gclt cop ccop gcop cva ccva gcva cpt ccpt gcpt cel ccel gcel cla ccla gcla) sz)) (va_A (wz_50 h0 aw ac h0_at h0_limit h0_sound h0_codeCount ob h0_openCount aw ab ac aw_typeCount wat wap wag aw_functionCount waf aw_hasMemory aw_pagesLeast aw_pagesMost aw_globalCount wgt wft wfv wgc aw_exportCount wek wei wes wez ab ax ab_length ac cfi clk clt ac_length cop cva cpt cel ac_labelCount cla ax cax gax ob cob gob cfi ccfi gcfi clk cclk gclk clt cclt gclt cop ccop gcop cva ccva gcva cpt ccpt gcpt cel ccel gcel cla ccla gcla) sz)) 0 0 (va_A (wz_50 h0 aw ac h0_at h0_limit h0_sound h0_codeCount ob h0_openCount aw ab ac aw_typeCount wat wap wag aw_functionCount waf aw_hasMemory aw_pagesLeast aw_pagesMost aw_globalCount wgt wft wfv wgc aw_exportCount wek wei wes wez ab ax ab_length ac cfi clk clt ac_length cop cva cpt cel ac_labelCount cla ax cax gax ob cob gob cfi ccfi gcfi clk cclk gclk clt cclt gclt cop ccop gcop cva ccva gcva cpt ccpt gcpt cel ccel gcel cla ccla gcla) sz) := by
  refine Met.ofW (cc := b_RE_readCode) (maxL := 6) (ret := none) (by decide) rfl ?_
  intro p e s m args below meth c s₁ B hml hv
  obtain ⟨rfl, hsz, hP, hK, hD0⟩ := hv
  have hx := B.exec
  have hb := B.bytes
  have hr := B.returns
  have hts0 := atoms_spec (ws := w_RE_readCode) B.pre
  have hts : ∀ w ∈ lw_g, w.before _ s = true := fun w h => hts0 w (List.mem_cons_of_mem _ h)
  have hown : s.vm.findClass R_RE = some m.cls := findClass_of_methodNamed B.named
  have hlocks := B.notSynchronized
  clear hts0
  subst hsz
  have hD := hD0.self (sz := s.heap.size)
  generalize hAe : va_A (wz_50 h0 aw ac h0_at h0_limit h0_sound h0_codeCount ob h0_openCount aw ab ac aw_typeCount wat wap wag aw_functionCount waf aw_hasMemory aw_pagesLeast aw_pagesMost aw_globalCount wgt wft wfv wgc aw_exportCount wek wei wes wez ab ax ab_length ac cfi clk clt ac_length cop cva cpt cel ac_labelCount cla ax cax gax ob cob gob cfi ccfi gcfi clk cclk gclk clt cclt gclt cop ccop gcop cva ccva gcva cpt ccpt gcpt cel ccel gcel cla ccla gcla) s.heap.size = A at hD ⊢
  have hA : ∀ q : Nat, s.heap.size ≤ q → A q := fun q h => by rw [← hAe]; exact Or.inr h
  clear hAe
  have hP : va_P (dC, dI) cls (wz_50 h0 aw ac h0_at h0_limit h0_sound h0_codeCount ob h0_openCount aw ab ac aw_typeCount wat wap wag aw_functionCount waf aw_hasMemory aw_pagesLeast aw_pagesMost aw_globalCount wgt wft wfv wgc aw_exportCount wek wei wes wez ab ax ab_length ac cfi clk clt ac_length cop cva cpt cel ac_labelCount cla ax cax gax ob cob gob cfi ccfi gcfi clk cclk gclk clt cclt gclt cop ccop gcop cva ccva gcva cpt ccpt gcpt cel ccel gcel cla ccla gcla) s.heap := hP
  have hl := lv_entry ([.ref h0, .int p0]) (n := 6) (Nat.le_of_ble_eq_true rfl)
  rw [lg_entry_eq]
  generalize (lg_sl ([.ref h0, .int p0]) ++ List.replicate (6 - (lg_sl ([.ref h0, .int p0])).length) Slot.unset).toArray = ls at hl ⊢
  have hl : lv_has ls 6 [(0, .ref h0), (1, .int p0)] := hl
  have k0 : (0 : Int32).toInt = 0 := by decide
  refine w_gen (A := A) hP (fun H locs hP hS => ?_)
  have k1 : (1 : Int32).toInt = 1 := by decide
  have k5000 : (5000 : Int32).toInt = 5000 := by decide
  have lo_p0 := i32_lo p0
  have hi_p0 := i32_hi p0
  have th0_sound := b01 b_h0_sound
  have hc9 := i32_clamp (x := p0) (by (first | (apply Int.le_antisymm <;> omega) | omega))
  have hlc9 := i32_clamp (x := ac_length) (by (first | (apply Int.le_antisymm <;> omega) | omega))
  refine lv_aload_n hx hb d_RE_readCode_0 rfl (lv_at hl 0 rfl) ?_
  refine va_get (D := (dC, dI)) (ci := 7) (v := .int h0_limit) (C := R_RE) (T := F_RE) (N := 8) hx hb hts i_RE hown hK hP 0 rfl rfl 3 (by decide) (hts _ kF_RE_42) (fun _ h9 => h9) rfl d_RE_readCode_1 ?_
  refine lv_istore_n (lv' := [(2, .int h0_limit), (0, .ref h0), (1, .int p0)]) hx hb d_RE_readCode_4 rfl hl (by decide) rfl (fun ls hl => ?_)
  refine lv_aload_n hx hb d_RE_readCode_5 rfl (lv_at hl 1 rfl) ?_
  refine lv_aload_n hx hb d_RE_readCode_6 rfl (lv_at hl 1 rfl) ?_
  refine va_get (D := (dC, dI)) (ci := 7) (v := .ref aw) (C := R_RE) (T := F_RE) (N := 8) hx hb hts i_RE hown hK hP 0 rfl rfl 0 (by decide) (hts _ kF_RE_15) (fun _ h9 => h9) rfl d_RE_readCode_7 ?_
  refine va_get (D := (dC, dI)) (ci := 10) (v := .ref ab) (C := R_WA) (T := F_WA) (N := 21) hx hb hts i_WA hown hK hP 1 rfl rfl 0 (by decide) (hts _ kF_RE_33) (fun _ h9 => h9) rfl d_RE_readCode_10 ?_
  refine va_get (D := (dC, dI)) (ci := 1) (v := .int ab_length) (C := R_BR) (T := F_BR) (N := 2) hx hb hts i_BR hown hK hP 2 rfl rfl 1 (by decide) (hts _ kF_RE_37) (fun _ h9 => h9) rfl d_RE_readCode_13 ?_
  refine lv_i2l hx hb d_RE_readCode_16 rfl ?_
  refine lv_topl (fun x1 ex1 => ?_)
  have tx1 := i2l_t ex1
  have hPc := hP.sb (wq := (wz_46 h0 aw ac h0_at h0_limit h0_sound h0_codeCount ob h0_openCount aw ab ac aw_typeCount wat wap wag aw_functionCount waf aw_hasMemory aw_pagesLeast aw_pagesMost aw_globalCount wgt wft wfv wgc aw_exportCount wek wei wes wez ab ax ab_length ax cax gax)) [0, 1, 2, 4] rfl
  have hDc := hD.sb (wq := (wz_46 h0 aw ac h0_at h0_limit h0_sound h0_codeCount ob h0_openCount aw ab ac aw_typeCount wat wap wag aw_functionCount waf aw_hasMemory aw_pagesLeast aw_pagesMost aw_globalCount wgt wft wfv wgc aw_exportCount wek wei wes wez ab ax ab_length ax cax gax)) [0, 1, 2, 4] (by decide) rfl
  have hKc := hK.sb (tyq := [(cax, .byte)]) [0] rfl
  have hFc := va_free (wc := (wz_46 h0 aw ac h0_at h0_limit h0_sound h0_codeCount ob h0_openCount aw ab ac aw_typeCount wat wap wag aw_functionCount waf aw_hasMemory aw_pagesLeast aw_pagesMost aw_globalCount wgt wft wfv wgc aw_exportCount wek wei wes wez ab ax ab_length ax cax gax)) hD hS hA [0, 1, 2, 4] rfl
  refine va_calll (va_runV (As := [.long x1]) (rest := []) ⟨hx, hb, hml, hown, hts⟩ (c_RE_readUnsigned l dC dI h0 aw ac ob ab ax H.size cax 8192 h0_at h0_limit h0_sound h0_codeCount h0_openCount ab_length gax [.ref ab, .ref ac, .int aw_typeCount, .ref wat, .ref wap, .ref wag, .int aw_functionCount, .ref waf, .int aw_hasMemory, .long aw_pagesLeast, .long aw_pagesMost, .int aw_globalCount, .ref wgt, .ref wft, .ref wfv, .ref wgc, .int aw_exportCount, .ref wek, .ref wei, .ref wes, .ref wez] rfl rfl b_h0_sound (by (first | (apply Int.le_antisymm <;> omega) | omega)) x1 (by (first | (apply Int.le_antisymm <;> omega) | omega))) (cwV 1 hts (gV kM_RE_64 kV_RE_readUnsigned kS_RE_readUnsigned kI_RE kC_RE_readUnsigned) rfl rfl rfl (by decide +kernel) ⟨Nat.le_of_ble_eq_true rfl, Nat.le_of_ble_eq_true rfl⟩) ⟨fun a U g mk z => by obtain ⟨z0, z1, zP, zK, zD⟩ := z; exact ⟨z0, z1, zP, va_K.moved (u := U) (U := U.calling g mk a) (Vm.Alike.refl U.vm) zK, zD⟩, va_recv hKc hPc (ci := 7) (q0 := 0) rfl rfl, fun U hU hW => ⟨rfl, by rw [hU], va_P.he hU.symm hPc, va_K.moved hW.alike hKc, hDc.weaken (fun _ _ _ _ => trivial)⟩⟩ rfl rfl hl.1 rfl (lv_room (Nat.le_of_ble_eq_true rfl)) d_RE_readCode_17 ⟨(Nat.zero_le _), (Nat.zero_le _)⟩) hS (fun q _ h => hFc q h) hFc (fun r2 u t H1 locs ht hvm hw hB hz1 hk1 hS => ?_)
  obtain ⟨n3, n4⟩ := u
  try dsimp only at hw
  obtain ⟨hsn4, tn3⟩ := hw
  have bsn4 := b01 hsn4
  obtain ⟨hP1, hK1, hD1⟩ := hB
  replace hP1 := va_P.he ht hP1
  obtain ⟨hP, hD⟩ := va_join (wr := [(ac, .inr (3, [.ref cfi, .ref clk, .ref clt, .int ac_length, .ref cop, .ref cva, .ref cpt, .ref cel, .int ac_labelCount, .ref cla])), (ob, .inl (cob, 100, .inl gob)), (cfi, .inl (ccfi, 31, .inl gcfi)), (clk, .inl (cclk, 30, .inl gclk)), (clt, .inl (cclt, 1800, .inl gclt)), (cop, .inl (ccop, 5000, .inl gcop)), (cva, .inl (ccva, 5000, .inr (.inl gcva))), (cpt, .inl (ccpt, 5000, .inl gcpt)), (cel, .inl (ccel, 5000, .inl gcel)), (cla, .inl (ccla, 2000, .inl gcla))]) (w1 := (wz_46 h0 aw ac n3 h0_limit n4 h0_codeCount ob h0_openCount aw ab ac aw_typeCount wat wap wag aw_functionCount waf aw_hasMemory aw_pagesLeast aw_pagesMost aw_globalCount wgt wft wfv wgc aw_exportCount wek wei wes wez ab ax ab_length ax cax gax)) hP hD [0, 1, 2, 4] [3, 5, 6, 7, 8, 9, 10, 11, 12, 13] rfl rfl (by decide) (by decide) hk1 hFc hP1 hD1
  clear hPc hDc hKc hFc hz1 hk1 hP1 hK1 hD1
  rename Heap => H
  have hP : va_P (dC, dI) cls (wz_51 ac cfi clk clt ac_length cop cva cpt cel ac_labelCount cla ob cob gob cfi ccfi gcfi clk cclk gclk clt cclt gclt cop ccop gcop cva ccva gcva cpt ccpt gcpt cel ccel gcel cla ccla gcla h0 aw ac n3 h0_limit n4 h0_codeCount ob h0_openCount aw ab ac aw_typeCount wat wap wag aw_functionCount waf aw_hasMemory aw_pagesLeast aw_pagesMost aw_globalCount wgt wft wfv wgc aw_exportCount wek wei wes wez ab ax ab_length ax cax gax) H := hP
  have hD : va_D A (wz_51 ac cfi clk clt ac_length cop cva cpt cel ac_labelCount cla ob cob gob cfi ccfi gcfi clk cclk gclk clt cclt gclt cop ccop gcop cva ccva gcva cpt ccpt gcpt cel ccel gcel cla ccla gcla h0 aw ac n3 h0_limit n4 h0_codeCount ob h0_openCount aw ab ac aw_typeCount wat wap wag aw_functionCount waf aw_hasMemory aw_pagesLeast aw_pagesMost aw_globalCount wgt wft wfv wgc aw_exportCount wek wei wes wez ab ax ab_length ax cax gax) := hD
  refine lv_l2i hx hb d_RE_readCode_20 rfl ?_
  refine lv_topi (fun x5 ex5 => ?_)
  have tx5 := l2i_t ex5 (by (first | (apply Int.le_antisymm <;> omega) | omega)) (by (first | (apply Int.le_antisymm <;> omega) | omega))
  refine lv_istore_n (lv' := [(3, .int x5), (2, .int h0_limit), (0, .ref h0), (1, .int p0)]) hx hb d_RE_readCode_21 rfl hl (by decide) rfl (fun ls hl => ?_)
  refine lv_aload_n hx hb d_RE_readCode_22 rfl (lv_at hl 2 rfl) ?_
  refine lv_aload_n hx hb d_RE_readCode_23 rfl (lv_at hl 2 rfl) ?_
  refine va_get (D := (dC, dI)) (ci := 7) (v := .int n4) (C := R_RE) (T := F_RE) (N := 8) hx hb hts i_RE hown hK hP 10 rfl rfl 4 (by decide) (hts _ kF_RE_45) (fun _ h9 => h9) rfl d_RE_readCode_24 ?_
  refine w_cut (pc2 := 48) (σ := Int32) (fun u H locs ls => match u with | j48_s0 => (j48_s0 = 0 ∨ j48_s0 = 1) ∧ (j48_s0.toInt = 1 → n4.toInt = 1 ∧ x5.toInt ≤ h0_limit.toInt - n3.toInt) ∧ va_P (dC, dI) cls (wz_51 ac cfi clk clt ac_length cop cva cpt cel ac_labelCount cla ob cob gob cfi ccfi gcfi clk cclk gclk clt cclt gclt cop ccop gcop cva ccva gcva cpt ccpt gcpt cel ccel gcel cla ccla gcla h0 aw ac n3 h0_limit n4 h0_codeCount ob h0_openCount aw ab ac aw_typeCount wat wap wag aw_functionCount waf aw_hasMemory aw_pagesLeast aw_pagesMost aw_globalCount wgt wft wfv wgc aw_exportCount wek wei wes wez ab ax ab_length ax cax gax) H ∧ va_D A (wz_51 ac cfi clk clt ac_length cop cva cpt cel ac_labelCount cla ob cob gob cfi ccfi gcfi clk cclk gclk clt cclt gclt cop ccop gcop cva ccva gcva cpt ccpt gcpt cel ccel gcel cla ccla gcla h0 aw ac n3 h0_limit n4 h0_codeCount ob h0_openCount aw ab ac aw_typeCount wat wap wag aw_functionCount waf aw_hasMemory aw_pagesLeast aw_pagesMost aw_globalCount wgt wft wfv wgc aw_exportCount wek wei wes wez ab ax ab_length ax cax gax) ∧ va_S A s.heap H locs ∧ lv_has ls 6 [(0, .ref h0), (1, .int p0), (2, .int h0_limit), (3, .int x5)]) (fun u => match u with | j48_s0 => [.int j48_s0, .ref h0]) ?_ (fun jn48 => ?_)
  · intro u H locs ls hI
    obtain ⟨j48_s0, rfl⟩ : ∃ z, z = u := ⟨_, rfl⟩
    obtain ⟨b_j48_s0, x0, hP, hD, hS, hl⟩ := hI
    have tj48_s0 := b01 b_j48_s0
    refine va_put (D := (dC, dI)) (ci := 7) (v := .int j48_s0) (ty := .boolean) (C := R_RE) (T := F_RE) (N := 8) hx hb hts i_RE t_RE t_RE_ok n_RE hown hK hP hD hS 10 rfl rfl 4 (by decide) (hts _ kF_RE_45) (fun _ h9 => h9) rfl (by decide +kernel) (zn01 (b_j48_s0)) (fz01 (b_j48_s0)) (Nat.le_of_ble_eq_true rfl) d_RE_readCode_48 (fun H locs hP hD hS => ?_)
    refine lv_aload_n hx hb d_RE_readCode_51 rfl (lv_at hl 0 rfl) ?_
    refine va_get (D := (dC, dI)) (ci := 7) (v := .int j48_s0) (C := R_RE) (T := F_RE) (N := 8) hx hb hts i_RE hown hK hP 10 rfl rfl 4 (by decide) (hts _ kF_RE_45) (fun _ h9 => h9) rfl d_RE_readCode_52 ?_
    refine lv_if_ne (tgt := 59) hx hb d_RE_readCode_55 (by decide) (fun c55 => ?_) (fun c55 => ?_)
    · have q55 := neI c55
      refine lv_aload_n hx hb d_RE_readCode_59 rfl (lv_at hl 0 rfl) ?_
      refine lv_aload_n hx hb d_RE_readCode_60 rfl (lv_at hl 0 rfl) ?_
      refine va_get (D := (dC, dI)) (ci := 7) (v := .int n3) (C := R_RE) (T := F_RE) (N := 8) hx hb hts i_RE hown hK hP 10 rfl rfl 2 (by decide) (hts _ kF_RE_29) (fun _ h9 => h9) rfl d_RE_readCode_61 ?_
      refine lv_iload_n hx hb d_RE_readCode_64 rfl (lv_at hl 3 rfl) ?_
      refine lv_iadd hx hb d_RE_readCode_65 ?_
      refine lv_topi (fun x6 ex6 => ?_)
      have tx6 : x6.toInt = n3.toInt + x5.toInt := by have z := i32_add ex6 (by (first | (apply Int.le_antisymm <;> omega) | omega)) (by (first | (apply Int.le_antisymm <;> omega) | omega)); first | exact z | (first | (apply Int.le_antisymm <;> omega) | omega)
      refine va_put (D := (dC, dI)) (ci := 7) (v := .int x6) (ty := .int) (C := R_RE) (T := F_RE) (N := 8) hx hb hts i_RE t_RE t_RE_ok n_RE hown hK hP hD hS 10 rfl rfl 3 (by decide) (hts _ kF_RE_42) (fun _ h9 => h9) rfl (by decide +kernel) rfl rfl (Nat.le_of_ble_eq_true rfl) d_RE_readCode_66 (fun H locs hP hD hS => ?_)
      refine lv_aload_n hx hb d_RE_readCode_69 rfl (lv_at hl 0 rfl) ?_
      refine va_get (D := (dC, dI)) (ci := 7) (v := .ref ac) (C := R_RE) (T := F_RE) (N := 8) hx hb hts i_RE hown hK hP 10 rfl rfl 1 (by decide) (hts _ kF_RE_25) (fun _ h9 => h9) rfl d_RE_readCode_70 ?_
      refine va_get (D := (dC, dI)) (ci := 3) (v := .ref cfi) (C := R_CD) (T := F_CD) (N := 10) hx hb hts i_CD hown hK hP 0 rfl rfl 0 (by decide) (hts _ kF_RE_170) (fun _ h9 => h9) rfl d_RE_readCode_73 ?_
      refine lv_iload_n hx hb d_RE_readCode_76 rfl (lv_at hl 1 rfl) ?_
      refine lv_aload_n hx hb d_RE_readCode_77 rfl (lv_at hl 0 rfl) ?_
      refine va_get (D := (dC, dI)) (ci := 7) (v := .ref ac) (C := R_RE) (T := F_RE) (N := 8) hx hb hts i_RE hown hK hP 10 rfl rfl 1 (by decide) (hts _ kF_RE_25) (fun _ h9 => h9) rfl d_RE_readCode_78 ?_
      refine va_get (D := (dC, dI)) (ci := 3) (v := .int ac_length) (C := R_CD) (T := F_CD) (N := 10) hx hb hts i_CD hown hK hP 0 rfl rfl 3 (by decide) (hts _ kF_RE_175) (fun _ h9 => h9) rfl d_RE_readCode_81 ?_
      have g84 : vp_in p0 31 := vp_in_iff.mpr ⟨by (first | (apply Int.le_antisymm <;> omega) | omega), by (first | (apply Int.le_antisymm <;> omega) | omega)⟩
      refine va_iast hx hb hK hP hD hS 2 2 rfl rfl g84 d_RE_readCode_84 (fun H locs hP hD hS => ?_)
      generalize ef7 : upd gcfi p0.toNatClampNeg ac_length = f7 at hP hD
      refine lv_aload_n hx hb d_RE_readCode_85 rfl (lv_at hl 0 rfl) ?_
      refine lv_iload_n hx hb d_RE_readCode_86 rfl (lv_at hl 1 rfl) ?_
      have hPc := hP.sb (wq := (wz_52 h0 aw ac n3 x6 j48_s0 h0_codeCount ob h0_openCount aw ab ac aw_typeCount wat wap wag aw_functionCount waf aw_hasMemory aw_pagesLeast aw_pagesMost aw_globalCount wgt wft wfv wgc aw_exportCount wek wei wes wez ab ax ab_length ax cax gax ac cfi clk clt ac_length cop cva cpt cel ac_labelCount cla clt cclt gclt clk cclk gclk)) [10, 11, 12, 13, 0, 4, 3] rfl
      have hDc := hD.sb (wq := (wz_52 h0 aw ac n3 x6 j48_s0 h0_codeCount ob h0_openCount aw ab ac aw_typeCount wat wap wag aw_functionCount waf aw_hasMemory aw_pagesLeast aw_pagesMost aw_globalCount wgt wft wfv wgc aw_exportCount wek wei wes wez ab ax ab_length ax cax gax ac cfi clk clt ac_length cop cva cpt cel ac_labelCount cla clt cclt gclt clk cclk gclk)) [10, 11, 12, 13, 0, 4, 3] (by decide) rfl
      have hKc := hK.sb (tyq := [(cax, .byte), (cclt, .int), (cclk, .int)]) [0, 4, 3] rfl
      have hFc := va_free (wc := (wz_52 h0 aw ac n3 x6 j48_s0 h0_codeCount ob h0_openCount aw ab ac aw_typeCount wat wap wag aw_functionCount waf aw_hasMemory aw_pagesLeast aw_pagesMost aw_globalCount wgt wft wfv wgc aw_exportCount wek wei wes wez ab ax ab_length ax cax gax ac cfi clk clt ac_length cop cva cpt cel ac_labelCount cla clt cclt gclt clk cclk gclk)) hD hS hA [10, 11, 12, 13, 0, 4, 3] rfl
      refine va_callv (va_runV (As := [.int p0]) (rest := []) ⟨hx, hb, hml, hown, hts⟩ (c_RE_readLocals l dC dI H.size h0 aw ac ob ab ax x6 h0_codeCount cax 8192 ab_length gax [.ref ab, .ref ac, .int aw_typeCount, .ref wat, .ref wap, .ref wag, .int aw_functionCount, .ref waf, .int aw_hasMemory, .long aw_pagesLeast, .long aw_pagesMost, .int aw_globalCount, .ref wgt, .ref wft, .ref wfv, .ref wgc, .int aw_exportCount, .ref wek, .ref wei, .ref wes, .ref wez] rfl rfl cfi clk clt cop cva cpt cel cla cclt cclk n3 j48_s0 h0_openCount ac_length ac_labelCount gclt gclk b_j48_s0 (by (first | (apply Int.le_antisymm <;> omega) | omega)) (by (first | (apply Int.le_antisymm <;> omega) | omega)) p0 (by (first | (apply Int.le_antisymm <;> omega) | omega))) (cwV 1 hts (gV kM_RE_176 kV_RE_readLocals kS_RE_readLocals kI_RE kC_RE_readLocals) rfl rfl rfl (by decide +kernel) ⟨Nat.le_of_ble_eq_true rfl, Nat.le_of_ble_eq_true rfl⟩) ⟨fun a U g mk z => by obtain ⟨z0, z1, zP, zK, zD⟩ := z; exact ⟨z0, z1, zP, va_K.moved (u := U) (U := U.calling g mk a) (Vm.Alike.refl U.vm) zK, zD⟩, va_recv hKc hPc (ci := 7) (q0 := 0) rfl rfl, fun U hU hW => ⟨rfl, by rw [hU], va_P.he hU.symm hPc, va_K.moved hW.alike hKc, hDc.weaken (fun _ _ _ _ => trivial)⟩⟩ rfl rfl hl.1 rfl (lv_room (Nat.le_of_ble_eq_true rfl)) d_RE_readCode_87 ⟨(Nat.zero_le _), (Nat.zero_le _)⟩) hS (fun q _ h => hFc q h) hFc (fun u t H1 locs ht hvm hw hB hz1 hk1 hS => ?_)
      obtain ⟨n9, n10, n11, n12, n13, n14, n15⟩ := u
      try dsimp only at hw
      have hwn9 := hw
      clear hw
      obtain ⟨hsn10, i1, i2, rfl, rfl, rfl, iO, iT, iE⟩ := hwn9
      have bsn10 := b01 hsn10
      obtain ⟨hP1, hK1, hD1⟩ := hB
      replace hP1 := va_P.he ht hP1
      obtain ⟨hP, hD⟩ := va_join (wr := [(ob, .inl (cob, 100, .inl gob)), (cfi, .inl (ccfi, 31, .inl f7)), (cop, .inl (ccop, 5000, .inl gcop)), (cva, .inl (ccva, 5000, .inr (.inl gcva))), (cpt, .inl (ccpt, 5000, .inl gcpt)), (cel, .inl (ccel, 5000, .inl gcel)), (cla, .inl (ccla, 2000, .inl gcla))]) (w1 := (wz_52 h0 aw ac n9 x6 n10 h0_codeCount ob h0_openCount aw ab ac aw_typeCount wat wap wag aw_functionCount waf aw_hasMemory aw_pagesLeast aw_pagesMost aw_globalCount wgt wft wfv wgc aw_exportCount wek wei wes wez ab ax ab_length ax cax gax ac cfi clk clt ac_length cop cva cpt cel ac_labelCount cla clt cclt n14 clk cclk n15)) hP hD [10, 11, 12, 13, 0, 4, 3] [1, 2, 5, 6, 7, 8, 9] rfl rfl (by decide) (by decide) hk1 hFc hP1 hD1
      clear hPc hDc hKc hFc hz1 hk1 hP1 hK1 hD1
      rename Heap => H
      have hP : va_P (dC, dI) cls (wz_53 ob cob gob cfi ccfi f7 cop ccop gcop cva ccva gcva cpt ccpt gcpt cel ccel gcel cla ccla gcla h0 aw ac n9 x6 n10 h0_codeCount ob h0_openCount aw ab ac aw_typeCount wat wap wag aw_functionCount waf aw_hasMemory aw_pagesLeast aw_pagesMost aw_globalCount wgt wft wfv wgc aw_exportCount wek wei wes wez ab ax ab_length ax cax gax ac cfi clk clt ac_length cop cva cpt cel ac_labelCount cla clt cclt n14 clk cclk n15) H := hP
      have hD : va_D A (wz_53 ob cob gob cfi ccfi f7 cop ccop gcop cva ccva gcva cpt ccpt gcpt cel ccel gcel cla ccla gcla h0 aw ac n9 x6 n10 h0_codeCount ob h0_openCount aw ab ac aw_typeCount wat wap wag aw_functionCount waf aw_hasMemory aw_pagesLeast aw_pagesMost aw_globalCount wgt wft wfv wgc aw_exportCount wek wei wes wez ab ax ab_length ax cax gax ac cfi clk clt ac_length cop cva cpt cel ac_labelCount cla clt cclt n14 clk cclk n15) := hD
      have iO9 := iO
      obtain ⟨lt9, l1, l2, l3, l4⟩ := iE
      clear iO
      replace l4 : bx _ := l4
      have l6 : n10.toInt = 1 → j48_s0.toInt = 1 := fun z => (iT z).1
      replace iT : bx _ := iT
      refine lv_aload_n hx hb d_RE_readCode_90 rfl (lv_at hl 0 rfl) ?_
      refine lv_iconst (v := 0) hx hb d_RE_readCode_91 (by decide) ?_
      refine va_put (D := (dC, dI)) (ci := 7) (v := .int 0) (ty := .int) (C := R_RE) (T := F_RE) (N := 8) hx hb hts i_RE t_RE t_RE_ok n_RE hown hK hP hD hS 7 rfl rfl 7 (by decide) (hts _ kF_RE_179) (fun _ h9 => h9) rfl (by decide +kernel) rfl rfl (Nat.le_of_ble_eq_true rfl) d_RE_readCode_92 (fun H locs hP hD hS => ?_)
      refine lv_iconst (v := 1) hx hb d_RE_readCode_95 (by decide) ?_
      refine lv_istore (lv' := [(4, .int 1), (0, .ref h0), (1, .int p0), (2, .int h0_limit), (3, .int x5)]) hx hb d_RE_readCode_96 hl (by decide) rfl (fun ls hl => ?_)
      refine lv_iconst (v := 0) hx hb d_RE_readCode_98 (by decide) ?_
      refine lv_istore (lv' := [(5, .int 0), (4, .int 1), (0, .ref h0), (1, .int p0), (2, .int h0_limit), (3, .int x5)]) hx hb d_RE_readCode_99 hl (by decide) rfl (fun ls hl => ?_)
      refine w_loop (σ := Int32 × Int32 × (Nat → Int32) × (Nat → Int32) × (Nat → Int32) × (Nat → Int32) × (Nat → Int64) × (Nat → Int32) × Int32 × Int32 × Int32 × Int32 × Int32) (fun u H locs ls => match u with | (j101_l4, j101_l5, j101_cel, j101_cla, j101_cop, j101_cpt, j101_cva, j101_ob, j101_ac_labelCount, j101_ac_length, j101_h0_at, j101_h0_openCount, j101_h0_sound) => (j101_l4 = 0 ∨ j101_l4 = 1) ∧ (0 ≤ j101_l5.toInt ∧ j101_l5.toInt ≤ 5001) ∧ (0 ≤ j101_ac_labelCount.toInt ∧ j101_ac_labelCount.toInt ≤ 2000) ∧ (0 ≤ j101_ac_length.toInt ∧ j101_ac_length.toInt ≤ 5000) ∧ (0 ≤ j101_h0_openCount.toInt ∧ j101_h0_openCount.toInt ≤ 100) ∧ (j101_h0_sound = 0 ∨ j101_h0_sound = 1) ∧ (h0_at.toInt ≤ j101_h0_at.toInt ∧ j101_h0_at.toInt ≤ h0_limit.toInt) ∧ (j101_h0_sound.toInt = 1 → n10.toInt = 1) ∧ (j101_h0_at.toInt ≤ x6.toInt) ∧ (∀ j : Nat, (j101_cel j).toInt < 5000) ∧ (∀ j : Nat, (j : Int) < j101_ac_labelCount.toInt → 0 ≤ (j101_cla j).toInt) ∧ (ac_length.toInt ≤ j101_ac_length.toInt ∧ ac_labelCount.toInt ≤ j101_ac_labelCount.toInt) ∧ (j101_h0_sound.toInt = 1 → j101_ac_length.toInt = ac_length.toInt + j101_l5.toInt) ∧ (j101_h0_sound.toInt = 1 → rc_inv ac_length.toNatClampNeg j101_l4 j101_ac_length j101_h0_openCount j101_ac_labelCount j101_cop j101_cpt j101_cel j101_ob j101_cva ∧ rc_same ac_length.toNatClampNeg gcop gcpt gcel j101_cop j101_cpt j101_cel gcva j101_cva) ∧ (j101_h0_sound.toInt = 1 → n10.toInt = 1) ∧ va_P (dC, dI) cls (wz_53 ob cob j101_ob cfi ccfi f7 cop ccop j101_cop cva ccva j101_cva cpt ccpt j101_cpt cel ccel j101_cel cla ccla j101_cla h0 aw ac j101_h0_at x6 j101_h0_sound h0_codeCount ob j101_h0_openCount aw ab ac aw_typeCount wat wap wag aw_functionCount waf aw_hasMemory aw_pagesLeast aw_pagesMost aw_globalCount wgt wft wfv wgc aw_exportCount wek wei wes wez ab ax ab_length ax cax gax ac cfi clk clt j101_ac_length cop cva cpt cel j101_ac_labelCount cla clt cclt n14 clk cclk n15) H ∧ va_D A (wz_53 ob cob j101_ob cfi ccfi f7 cop ccop j101_cop cva ccva j101_cva cpt ccpt j101_cpt cel ccel j101_cel cla ccla j101_cla h0 aw ac j101_h0_at x6 j101_h0_sound h0_codeCount ob j101_h0_openCount aw ab ac aw_typeCount wat wap wag aw_functionCount waf aw_hasMemory aw_pagesLeast aw_pagesMost aw_globalCount wgt wft wfv wgc aw_exportCount wek wei wes wez ab ax ab_length ax cax gax ac cfi clk clt j101_ac_length cop cva cpt cel j101_ac_labelCount cla clt cclt n14 clk cclk n15) ∧ va_S A s.heap H locs ∧ lv_has ls 6 [(0, .ref h0), (1, .int p0), (2, .int h0_limit), (4, .int j101_l4), (5, .int j101_l5)]) (fun u => match u with | (j101_l4, j101_l5, j101_cel, j101_cla, j101_cop, j101_cpt, j101_cva, j101_ob, j101_ac_labelCount, j101_ac_length, j101_h0_at, j101_h0_openCount, j101_h0_sound) => (5001 - j101_l5.toInt).toNat) ?_ (1, 0, gcel, gcla, gcop, gcpt, gcva, gob, ac_labelCount, ac_length, n9, 0, n10) ⟨Or.inr rfl, by (try dsimp only); (first | (apply Int.le_antisymm <;> omega) | omega), b_ac_labelCount, b_ac_length, by (try dsimp only); (first | (apply Int.le_antisymm <;> omega) | omega), hsn10, by (try dsimp only); (first | (apply Int.le_antisymm <;> omega) | omega), by (try dsimp only); (first | (apply Int.le_antisymm <;> omega) | omega), by (try dsimp only); (first | (apply Int.le_antisymm <;> omega) | omega), hel, hlb, by (try dsimp only); (first | (apply Int.le_antisymm <;> omega) | omega), by (try dsimp only); (first | (apply Int.le_antisymm <;> omega) | omega), fun _ => ⟨rc_begin (by decide), fun j _ => ⟨rfl, rfl, rfl, rfl⟩⟩, by (try dsimp only); (first | (apply Int.le_antisymm <;> omega) | omega), hP, hD, hS, lv_sub hl [2, 3, 4, 1, 0] rfl⟩
      intro N101 ih101 u H locs ls hN101 hI
      obtain ⟨j101_l4, j101_l5, j101_cel, j101_cla, j101_cop, j101_cpt, j101_cva, j101_ob, j101_ac_labelCount, j101_ac_length, j101_h0_at, j101_h0_openCount, j101_h0_sound⟩ := u
      obtain ⟨b_j101_l4, b_j101_l5, b_j101_ac_labelCount, b_j101_ac_length, b_j101_h0_openCount, b_j101_h0_sound, w1, w2, v1, v2, hq9r⟩ := hI
      obtain ⟨v3, v4, v5, v6, v7, hP, hD, hS, hl⟩ := hq9r
      have tj101_l4 := b01 b_j101_l4
      have tj101_h0_sound := b01 b_j101_h0_sound
      have hN101 : (5001 - j101_l5.toInt).toNat < N101 + 1 := hN101
      refine lv_iload hx hb d_RE_readCode_101 (lv_at hl 4 rfl) ?_
      refine lv_sipush (v := 5000) hx hb d_RE_readCode_103 (by decide) ?_
      refine w_cut (pc2 := 133) (σ := Unit) (fun u H locs ls => match u with | _ => (j101_h0_at.toInt ≤ x6.toInt) ∧ (∀ j : Nat, (j101_cel j).toInt < 5000) ∧ (∀ j : Nat, (j : Int) < j101_ac_labelCount.toInt → 0 ≤ (j101_cla j).toInt) ∧ (ac_length.toInt ≤ j101_ac_length.toInt ∧ ac_labelCount.toInt ≤ j101_ac_labelCount.toInt) ∧ (j101_h0_sound.toInt = 1 → rc_fin ac_length.toNatClampNeg j101_ac_length.toNatClampNeg j101_cop j101_cpt j101_cel j101_cva j101_ac_labelCount.toInt ∧ rc_same ac_length.toNatClampNeg gcop gcpt gcel j101_cop j101_cpt j101_cel gcva j101_cva) ∧ (j101_h0_sound.toInt = 1 → n10.toInt = 1) ∧ va_P (dC, dI) cls (wz_53 ob cob j101_ob cfi ccfi f7 cop ccop j101_cop cva ccva j101_cva cpt ccpt j101_cpt cel ccel j101_cel cla ccla j101_cla h0 aw ac j101_h0_at x6 j101_h0_sound h0_codeCount ob j101_h0_openCount aw ab ac aw_typeCount wat wap wag aw_functionCount waf aw_hasMemory aw_pagesLeast aw_pagesMost aw_globalCount wgt wft wfv wgc aw_exportCount wek wei wes wez ab ax ab_length ax cax gax ac cfi clk clt j101_ac_length cop cva cpt cel j101_ac_labelCount cla clt cclt n14 clk cclk n15) H ∧ va_D A (wz_53 ob cob j101_ob cfi ccfi f7 cop ccop j101_cop cva ccva j101_cva cpt ccpt j101_cpt cel ccel j101_cel cla ccla j101_cla h0 aw ac j101_h0_at x6 j101_h0_sound h0_codeCount ob j101_h0_openCount aw ab ac aw_typeCount wat wap wag aw_functionCount waf aw_hasMemory aw_pagesLeast aw_pagesMost aw_globalCount wgt wft wfv wgc aw_exportCount wek wei wes wez ab ax ab_length ax cax gax ac cfi clk clt j101_ac_length cop cva cpt cel j101_ac_labelCount cla clt cclt n14 clk cclk n15) ∧ va_S A s.heap H locs ∧ lv_has ls 6 [(0, .ref h0), (1, .int p0), (2, .int h0_limit)]) (fun u => match u with | _ => []) ?_ (fun jn133 => ?_)
      · intro u H locs ls hI
        obtain ⟨x2, v2, v3, v4, x1, x4, hP, hD, hS, hl⟩ := hI
        refine lv_aload_n hx hb d_RE_readCode_133 rfl (lv_at hl 0 rfl) ?_
        refine va_get (D := (dC, dI)) (ci := 7) (v := .ref ac) (C := R_RE) (T := F_RE) (N := 8) hx hb hts i_RE hown hK hP 7 rfl rfl 1 (by decide) (hts _ kF_RE_25) (fun _ h9 => h9) rfl d_RE_readCode_134 ?_
        refine va_get (D := (dC, dI)) (ci := 3) (v := .ref cfi) (C := R_CD) (T := F_CD) (N := 10) hx hb hts i_CD hown hK hP 11 rfl rfl 0 (by decide) (hts _ kF_RE_170) (fun _ h9 => h9) rfl d_RE_readCode_137 ?_
        refine lv_iload_n hx hb d_RE_readCode_140 rfl (lv_at hl 1 rfl) ?_
        refine lv_iconst (v := 1) hx hb d_RE_readCode_141 (by decide) ?_
        refine lv_iadd hx hb d_RE_readCode_142 ?_
        refine lv_topi (fun x16 ex16 => ?_)
        have tx16 : x16.toInt = p0.toInt + 1 := by have z := i32_add ex16 (by (first | (apply Int.le_antisymm <;> omega) | omega)) (by (first | (apply Int.le_antisymm <;> omega) | omega)); first | exact z | (first | (apply Int.le_antisymm <;> omega) | omega)
        refine lv_aload_n hx hb d_RE_readCode_143 rfl (lv_at hl 0 rfl) ?_
        refine va_get (D := (dC, dI)) (ci := 7) (v := .ref ac) (C := R_RE) (T := F_RE) (N := 8) hx hb hts i_RE hown hK hP 7 rfl rfl 1 (by decide) (hts _ kF_RE_25) (fun _ h9 => h9) rfl d_RE_readCode_144 ?_
        refine va_get (D := (dC, dI)) (ci := 3) (v := .int j101_ac_length) (C := R_CD) (T := F_CD) (N := 10) hx hb hts i_CD hown hK hP 11 rfl rfl 3 (by decide) (hts _ kF_RE_175) (fun _ h9 => h9) rfl d_RE_readCode_147 ?_
        have g150 : vp_in x16 31 := vp_in_iff.mpr ⟨by (first | (apply Int.le_antisymm <;> omega) | omega), by (first | (apply Int.le_antisymm <;> omega) | omega)⟩
        refine va_iast hx hb hK hP hD hS 1 2 rfl rfl g150 d_RE_readCode_150 (fun H locs hP hD hS => ?_)
        generalize ef17 : upd f7 x16.toNatClampNeg j101_ac_length = f17 at hP hD
        refine lv_aload_n hx hb d_RE_readCode_151 rfl (lv_at hl 0 rfl) ?_
        refine lv_aload_n hx hb d_RE_readCode_152 rfl (lv_at hl 0 rfl) ?_
        refine va_get (D := (dC, dI)) (ci := 7) (v := .int j101_h0_sound) (C := R_RE) (T := F_RE) (N := 8) hx hb hts i_RE hown hK hP 7 rfl rfl 4 (by decide) (hts _ kF_RE_45) (fun _ h9 => h9) rfl d_RE_readCode_153 ?_
        refine w_cut (pc2 := 175) (σ := Int32) (fun u H locs ls => match u with | j175_s0 => (j175_s0 = 0 ∨ j175_s0 = 1) ∧ (j175_s0.toInt = 1 → j101_h0_sound.toInt = 1) ∧ va_P (dC, dI) cls (wz_53 ob cob j101_ob cfi ccfi f17 cop ccop j101_cop cva ccva j101_cva cpt ccpt j101_cpt cel ccel j101_cel cla ccla j101_cla h0 aw ac j101_h0_at x6 j101_h0_sound h0_codeCount ob j101_h0_openCount aw ab ac aw_typeCount wat wap wag aw_functionCount waf aw_hasMemory aw_pagesLeast aw_pagesMost aw_globalCount wgt wft wfv wgc aw_exportCount wek wei wes wez ab ax ab_length ax cax gax ac cfi clk clt j101_ac_length cop cva cpt cel j101_ac_labelCount cla clt cclt n14 clk cclk n15) H ∧ va_D A (wz_53 ob cob j101_ob cfi ccfi f17 cop ccop j101_cop cva ccva j101_cva cpt ccpt j101_cpt cel ccel j101_cel cla ccla j101_cla h0 aw ac j101_h0_at x6 j101_h0_sound h0_codeCount ob j101_h0_openCount aw ab ac aw_typeCount wat wap wag aw_functionCount waf aw_hasMemory aw_pagesLeast aw_pagesMost aw_globalCount wgt wft wfv wgc aw_exportCount wek wei wes wez ab ax ab_length ax cax gax ac cfi clk clt j101_ac_length cop cva cpt cel j101_ac_labelCount cla clt cclt n14 clk cclk n15) ∧ va_S A s.heap H locs ∧ lv_has ls 6 [(0, .ref h0), (2, .int h0_limit)]) (fun u => match u with | j175_s0 => [.int j175_s0, .ref h0]) ?_ (fun jn175 => ?_)
        · intro u H locs ls hI
          obtain ⟨j175_s0, rfl⟩ : ∃ z, z = u := ⟨_, rfl⟩
          obtain ⟨b_j175_s0, x3, hP, hD, hS, hl⟩ := hI
          have tj175_s0 := b01 b_j175_s0
          refine va_put (D := (dC, dI)) (ci := 7) (v := .int j175_s0) (ty := .boolean) (C := R_RE) (T := F_RE) (N := 8) hx hb hts i_RE t_RE t_RE_ok n_RE hown hK hP hD hS 7 rfl rfl 4 (by decide) (hts _ kF_RE_45) (fun _ h9 => h9) rfl (by decide +kernel) (zn01 (b_j175_s0)) (fz01 (b_j175_s0)) (Nat.le_of_ble_eq_true rfl) d_RE_readCode_175 (fun H locs hP hD hS => ?_)
          refine lv_aload_n hx hb d_RE_readCode_178 rfl (lv_at hl 0 rfl) ?_
          refine lv_iload_n hx hb d_RE_readCode_179 rfl (lv_at hl 1 rfl) ?_
          refine va_put (D := (dC, dI)) (ci := 7) (v := .int h0_limit) (ty := .int) (C := R_RE) (T := F_RE) (N := 8) hx hb hts i_RE t_RE t_RE_ok n_RE hown hK hP hD hS 7 rfl rfl 3 (by decide) (hts _ kF_RE_42) (fun _ h9 => h9) rfl (by decide +kernel) rfl rfl (Nat.le_of_ble_eq_true rfl) d_RE_readCode_180 (fun H locs hP hD hS => ?_)
          have hP9 := hP.sb (wq := (wz_50 h0 aw ac j101_h0_at h0_limit j175_s0 h0_codeCount ob j101_h0_openCount aw ab ac aw_typeCount wat wap wag aw_functionCount waf aw_hasMemory aw_pagesLeast aw_pagesMost aw_globalCount wgt wft wfv wgc aw_exportCount wek wei wes wez ab ax ab_length ac cfi clk clt j101_ac_length cop cva cpt cel j101_ac_labelCount cla ax cax gax ob cob j101_ob cfi ccfi f17 clk cclk n15 clt cclt n14 cop ccop j101_cop cva ccva j101_cva cpt ccpt j101_cpt cel ccel j101_cel cla ccla j101_cla)) [7, 8, 9, 11, 10, 0, 1, 13, 12, 2, 3, 4, 5, 6] rfl
          have hD9 := hD.sb (wq := (wz_50 h0 aw ac j101_h0_at h0_limit j175_s0 h0_codeCount ob j101_h0_openCount aw ab ac aw_typeCount wat wap wag aw_functionCount waf aw_hasMemory aw_pagesLeast aw_pagesMost aw_globalCount wgt wft wfv wgc aw_exportCount wek wei wes wez ab ax ab_length ac cfi clk clt j101_ac_length cop cva cpt cel j101_ac_labelCount cla ax cax gax ob cob j101_ob cfi ccfi f17 clk cclk n15 clt cclt n14 cop ccop j101_cop cva ccva j101_cva cpt ccpt j101_cpt cel ccel j101_cel cla ccla j101_cla)) [7, 8, 9, 11, 10, 0, 1, 13, 12, 2, 3, 4, 5, 6] (by decide) rfl
          exact W.vret hx hb hr (fun t ht hW => ⟨⟨(j101_cel, f17, j101_cla, n15, n14, j101_cop, j101_cpt, j101_cva, j101_ob, j101_ac_labelCount, j101_ac_length, j101_h0_at, h0_limit, j101_h0_openCount, j175_s0), rfl, ⟨b_j101_ac_labelCount, b_j101_ac_length, b_j101_h0_openCount, b_j175_s0, ⟨⟨by (try dsimp only); (first | (apply Int.le_antisymm <;> omega) | omega), by (try dsimp only); (first | (apply Int.le_antisymm <;> omega) | omega)⟩, fun z => by (try dsimp only at z); (first | (apply Int.le_antisymm <;> omega) | omega), rfl, v2, v3, v4, fun z => by have z1 : j101_h0_sound.toInt = 1 := x3 z; exact ⟨(x1 z1).1, (x1 z1).2, by (try dsimp only); rw [← ef17, i32_natI (x := x16) (n := p0.toInt + 1) (by (first | (apply Int.le_antisymm <;> omega) | omega)), show (p0.toInt + 1).toNat = p0.toNatClampNeg + 1 from by (first | (apply Int.le_antisymm <;> omega) | omega)], iO9, lt9, l1, l2, by (try dsimp only); exact l3, l4.out (x4 z1)⟩⟩⟩, va_P.he ht.symm hP9, va_K.moved hW.alike hK, hD9⟩, hS.F ht⟩) hS.2.2 d_RE_readCode_183
        · skip
          refine w_cut (pc2 := 174) (σ := Unit) (fun u H locs ls => match u with | _ => va_P (dC, dI) cls (wz_53 ob cob j101_ob cfi ccfi f17 cop ccop j101_cop cva ccva j101_cva cpt ccpt j101_cpt cel ccel j101_cel cla ccla j101_cla h0 aw ac j101_h0_at x6 j101_h0_sound h0_codeCount ob j101_h0_openCount aw ab ac aw_typeCount wat wap wag aw_functionCount waf aw_hasMemory aw_pagesLeast aw_pagesMost aw_globalCount wgt wft wfv wgc aw_exportCount wek wei wes wez ab ax ab_length ax cax gax ac cfi clk clt j101_ac_length cop cva cpt cel j101_ac_labelCount cla clt cclt n14 clk cclk n15) H ∧ va_D A (wz_53 ob cob j101_ob cfi ccfi f17 cop ccop j101_cop cva ccva j101_cva cpt ccpt j101_cpt cel ccel j101_cel cla ccla j101_cla h0 aw ac j101_h0_at x6 j101_h0_sound h0_codeCount ob j101_h0_openCount aw ab ac aw_typeCount wat wap wag aw_functionCount waf aw_hasMemory aw_pagesLeast aw_pagesMost aw_globalCount wgt wft wfv wgc aw_exportCount wek wei wes wez ab ax ab_length ax cax gax ac cfi clk clt j101_ac_length cop cva cpt cel j101_ac_labelCount cla clt cclt n14 clk cclk n15) ∧ va_S A s.heap H locs ∧ lv_has ls 6 [(0, .ref h0), (2, .int h0_limit)]) (fun u => match u with | _ => [.ref h0]) ?_ (fun jn174 => ?_)
          · intro u H locs ls hI
            obtain ⟨hP, hD, hS, hl⟩ := hI
            refine lv_iconst (v := 0) hx hb d_RE_readCode_174 (by decide) ?_
            exact jn175 0 _ _ _ ⟨Or.inl rfl, by (try dsimp only); (first | (apply Int.le_antisymm <;> omega) | omega), hP, hD, hS, lv_sub hl [0, 1] rfl⟩
          · skip
            refine lv_if_eq (tgt := 174) hx hb d_RE_readCode_156 (by decide) (fun c156 => ?_) (fun c156 => ?_)
            · have q156 := eqI c156
              exact jn174 () _ _ _ ⟨hP, hD, hS, lv_sub hl [0, 2] rfl⟩
            · have q156 := neI c156
              refine lv_aload_n hx hb d_RE_readCode_159 rfl (lv_at hl 0 rfl) ?_
              refine va_get (D := (dC, dI)) (ci := 7) (v := .int j101_h0_at) (C := R_RE) (T := F_RE) (N := 8) hx hb hts i_RE hown hK hP 7 rfl rfl 2 (by decide) (hts _ kF_RE_29) (fun _ h9 => h9) rfl d_RE_readCode_160 ?_
              refine lv_aload_n hx hb d_RE_readCode_163 rfl (lv_at hl 0 rfl) ?_
              refine va_get (D := (dC, dI)) (ci := 7) (v := .int x6) (C := R_RE) (T := F_RE) (N := 8) hx hb hts i_RE hown hK hP 7 rfl rfl 3 (by decide) (hts _ kF_RE_42) (fun _ h9 => h9) rfl d_RE_readCode_164 ?_
              refine lv_icmp_ne (tgt := 174) hx hb d_RE_readCode_167 (by decide) (fun c167 => ?_) (fun c167 => ?_)
              · have q167 := neI c167
                exact jn174 () _ _ _ ⟨hP, hD, hS, lv_sub hl [0, 2] rfl⟩
              · have q167 := eqI c167
                refine lv_iconst (v := 1) hx hb d_RE_readCode_170 (by decide) ?_
                refine lv_goto (tgt := 175) hx hb d_RE_readCode_171 (by decide) ?_
                exact jn175 1 _ _ _ ⟨Or.inr rfl, by (try dsimp only); (first | (apply Int.le_antisymm <;> omega) | omega), hP, hD, hS, lv_sub hl [0, 2] rfl⟩
      · skip
        refine lv_icmp_gt (tgt := 133) hx hb d_RE_readCode_106 (by decide) (fun c106 => ?_) (fun c106 => ?_)
        · have q106 := ltI c106
          exact jn133 () _ _ _ ⟨by (try dsimp only); (first | (apply Int.le_antisymm <;> omega) | omega), v2, v3, v4, fun z => ⟨(v6 z).1.2.2 (by have := v5 z; (first | (apply Int.le_antisymm <;> omega) | omega)), (v6 z).2⟩, v7, hP, hD, hS, lv_sub hl [0, 1, 2] rfl⟩
        · have q106 := nltI c106
          refine lv_aload_n hx hb d_RE_readCode_109 rfl (lv_at hl 0 rfl) ?_
          refine va_get (D := (dC, dI)) (ci := 7) (v := .int j101_h0_sound) (C := R_RE) (T := F_RE) (N := 8) hx hb hts i_RE hown hK hP 7 rfl rfl 4 (by decide) (hts _ kF_RE_45) (fun _ h9 => h9) rfl d_RE_readCode_110 ?_
          refine lv_if_eq (tgt := 133) hx hb d_RE_readCode_113 (by decide) (fun c113 => ?_) (fun c113 => ?_)
          · have q113 := eqI c113
            exact jn133 () _ _ _ ⟨by (try dsimp only); (first | (apply Int.le_antisymm <;> omega) | omega), v2, v3, v4, fun z => ⟨(v6 z).1.2.2 (by have := v5 z; (first | (apply Int.le_antisymm <;> omega) | omega)), (v6 z).2⟩, v7, hP, hD, hS, lv_sub hl [0, 1, 2] rfl⟩
          · have q113 := neI c113
            refine lv_iload hx hb d_RE_readCode_116 (lv_at hl 3 rfl) ?_
            refine lv_if_eq (tgt := 133) hx hb d_RE_readCode_118 (by decide) (fun c118 => ?_) (fun c118 => ?_)
            · have q118 := eqI c118
              exact jn133 () _ _ _ ⟨by (try dsimp only); (first | (apply Int.le_antisymm <;> omega) | omega), v2, v3, v4, fun z => ⟨(v6 z).1.2.2 (by have := v5 z; (first | (apply Int.le_antisymm <;> omega) | omega)), (v6 z).2⟩, v7, hP, hD, hS, lv_sub hl [0, 1, 2] rfl⟩
            · have q118 := neI c118
              have hel := v2
              have hlb := v3
              have hgo := (v6 (by (first | (apply Int.le_antisymm <;> omega) | omega))).1.1
              refine lv_aload_n hx hb d_RE_readCode_121 rfl (lv_at hl 0 rfl) ?_
              have hPc := hP.sb (wq := (wz_54 h0 aw ac j101_h0_at x6 j101_h0_sound h0_codeCount ob j101_h0_openCount aw ab ac aw_typeCount wat wap wag aw_functionCount waf aw_hasMemory aw_pagesLeast aw_pagesMost aw_globalCount wgt wft wfv wgc aw_exportCount wek wei wes wez ab ax ab_length ax cax gax ac cfi clk clt j101_ac_length cop cva cpt cel j101_ac_labelCount cla cop ccop j101_cop cva ccva j101_cva cpt ccpt j101_cpt cel ccel j101_cel cla ccla j101_cla ob cob j101_ob)) [7, 8, 9, 10, 11, 2, 3, 4, 5, 6, 0] rfl
              have hDc := hD.sb (wq := (wz_54 h0 aw ac j101_h0_at x6 j101_h0_sound h0_codeCount ob j101_h0_openCount aw ab ac aw_typeCount wat wap wag aw_functionCount waf aw_hasMemory aw_pagesLeast aw_pagesMost aw_globalCount wgt wft wfv wgc aw_exportCount wek wei wes wez ab ax ab_length ax cax gax ac cfi clk clt j101_ac_length cop cva cpt cel j101_ac_labelCount cla cop ccop j101_cop cva ccva j101_cva cpt ccpt j101_cpt cel ccel j101_cel cla ccla j101_cla ob cob j101_ob)) [7, 8, 9, 10, 11, 2, 3, 4, 5, 6, 0] (by decide) rfl
              have hKc := hK.sb (tyq := [(cax, .byte), (ccop, .int), (ccva, .long), (ccpt, .int), (ccel, .int), (ccla, .int), (cob, .int)]) [0, 5, 6, 7, 8, 9, 1] rfl
              have hFc := va_free (wc := (wz_54 h0 aw ac j101_h0_at x6 j101_h0_sound h0_codeCount ob j101_h0_openCount aw ab ac aw_typeCount wat wap wag aw_functionCount waf aw_hasMemory aw_pagesLeast aw_pagesMost aw_globalCount wgt wft wfv wgc aw_exportCount wek wei wes wez ab ax ab_length ax cax gax ac cfi clk clt j101_ac_length cop cva cpt cel j101_ac_labelCount cla cop ccop j101_cop cva ccva j101_cva cpt ccpt j101_cpt cel ccel j101_cel cla ccla j101_cla ob cob j101_ob)) hD hS hA [7, 8, 9, 10, 11, 2, 3, 4, 5, 6, 0] rfl
              refine va_calli (va_runV (As := []) (rest := []) ⟨hx, hb, hml, hown, hts⟩ (c_RE_readInstruction l dC dI H.size h0 aw ac ob ab ax x6 h0_codeCount cax 8192 ab_length gax [.ref ab, .ref ac, .int aw_typeCount, .ref wat, .ref wap, .ref wag, .int aw_functionCount, .ref waf, .int aw_hasMemory, .long aw_pagesLeast, .long aw_pagesMost, .int aw_globalCount, .ref wgt, .ref wft, .ref wfv, .ref wgc, .int aw_exportCount, .ref wek, .ref wei, .ref wes, .ref wez] rfl rfl cfi clk clt cop cva cpt cel cla ccop ccva ccpt ccel ccla cob j101_h0_at j101_h0_sound j101_h0_openCount j101_ac_length j101_ac_labelCount j101_cop j101_cva j101_cpt j101_cel j101_cla j101_ob b_j101_h0_sound (by (first | (apply Int.le_antisymm <;> omega) | omega)) (by (first | (apply Int.le_antisymm <;> omega) | omega))  hgo hel hlb (by (first | (apply Int.le_antisymm <;> omega) | omega)) (by (first | (apply Int.le_antisymm <;> omega) | omega))) (cwV 0 hts (gV kM_RE_182 kV_RE_readInstruction kS_RE_readInstruction kI_RE kC_RE_readInstruction) rfl rfl rfl (by decide +kernel) ⟨Nat.le_of_ble_eq_true rfl, Nat.le_of_ble_eq_true rfl⟩) ⟨fun a U g mk z => by obtain ⟨z0, z1, zP, zK, zD⟩ := z; exact ⟨z0, z1, zP, va_K.moved (u := U) (U := U.calling g mk a) (Vm.Alike.refl U.vm) zK, zD⟩, va_recv hKc hPc (ci := 7) (q0 := 0) rfl rfl, fun U hU hW => ⟨rfl, by rw [hU], va_P.he hU.symm hPc, va_K.moved hW.alike hKc, hDc.weaken (fun _ _ _ _ => trivial)⟩⟩ rfl rfl hl.1 rfl (lv_room (Nat.le_of_ble_eq_true rfl)) d_RE_readCode_122 ⟨(Nat.zero_le _), (Nat.zero_le _)⟩) hS (fun q _ h => hFc q h) hFc (fun r18 u t H1 locs ht hvm hw hB hz1 hk1 hS => ?_)
              obtain ⟨n19, n20, n21, n22, n23, n24, n25, n26, n27, n28, n29⟩ := u
              try dsimp only at hw
              have hwn19 := hw
              clear hw
              obtain ⟨hP1, hK1, hD1⟩ := hB
              replace hP1 := va_P.he ht hP1
              obtain ⟨hP, hD⟩ := va_join (wr := [(cfi, .inl (ccfi, 31, .inl f7)), (clt, .inl (cclt, 1800, .inl n14)), (clk, .inl (cclk, 30, .inl n15))]) (w1 := (wz_54 h0 aw ac n19 x6 n20 h0_codeCount ob n21 aw ab ac aw_typeCount wat wap wag aw_functionCount waf aw_hasMemory aw_pagesLeast aw_pagesMost aw_globalCount wgt wft wfv wgc aw_exportCount wek wei wes wez ab ax ab_length ax cax gax ac cfi clk clt n22 cop cva cpt cel n23 cla cop ccop n24 cva ccva n25 cpt ccpt n26 cel ccel n27 cla ccla n28 ob cob n29)) hP hD [7, 8, 9, 10, 11, 2, 3, 4, 5, 6, 0] [1, 12, 13] rfl rfl (by decide) (by decide) hk1 hFc hP1 hD1
              clear hPc hDc hKc hFc hz1 hk1 hP1 hK1 hD1
              rename Heap => H
              have hP : va_P (dC, dI) cls [(cfi, .inl (ccfi, 31, .inl f7)), (clt, .inl (cclt, 1800, .inl n14)), (clk, .inl (cclk, 30, .inl n15)), (h0, .inr (7, [.ref aw, .ref ac, .int n19, .int x6, .int n20, .int h0_codeCount, .ref ob, .int n21])), (aw, .inr (10, [.ref ab, .ref ac, .int aw_typeCount, .ref wat, .ref wap, .ref wag, .int aw_functionCount, .ref waf, .int aw_hasMemory, .long aw_pagesLeast, .long aw_pagesMost, .int aw_globalCount, .ref wgt, .ref wft, .ref wfv, .ref wgc, .int aw_exportCount, .ref wek, .ref wei, .ref wes, .ref wez])), (ab, .inr (1, [.ref ax, .int ab_length])), (ax, .inl (cax, 8192, .inl gax)), (ac, .inr (3, [.ref cfi, .ref clk, .ref clt, .int n22, .ref cop, .ref cva, .ref cpt, .ref cel, .int n23, .ref cla])), (cop, .inl (ccop, 5000, .inl n24)), (cva, .inl (ccva, 5000, .inr (.inl n25))), (cpt, .inl (ccpt, 5000, .inl n26)), (cel, .inl (ccel, 5000, .inl n27)), (cla, .inl (ccla, 2000, .inl n28)), (ob, .inl (cob, 100, .inl n29))] H := hP
              have hD : va_D A [(cfi, .inl (ccfi, 31, .inl f7)), (clt, .inl (cclt, 1800, .inl n14)), (clk, .inl (cclk, 30, .inl n15)), (h0, .inr (7, [.ref aw, .ref ac, .int n19, .int x6, .int n20, .int h0_codeCount, .ref ob, .int n21])), (aw, .inr (10, [.ref ab, .ref ac, .int aw_typeCount, .ref wat, .ref wap, .ref wag, .int aw_functionCount, .ref waf, .int aw_hasMemory, .long aw_pagesLeast, .long aw_pagesMost, .int aw_globalCount, .ref wgt, .ref wft, .ref wfv, .ref wgc, .int aw_exportCount, .ref wek, .ref wei, .ref wes, .ref wez])), (ab, .inr (1, [.ref ax, .int ab_length])), (ax, .inl (cax, 8192, .inl gax)), (ac, .inr (3, [.ref cfi, .ref clk, .ref clt, .int n22, .ref cop, .ref cva, .ref cpt, .ref cel, .int n23, .ref cla])), (cop, .inl (ccop, 5000, .inl n24)), (cva, .inl (ccva, 5000, .inr (.inl n25))), (cpt, .inl (ccpt, 5000, .inl n26)), (cel, .inl (ccel, 5000, .inl n27)), (cla, .inl (ccla, 2000, .inl n28)), (ob, .inl (cob, 100, .inl n29))] := hD
              obtain ⟨hrr18, hsn20, i1, i2, i3, i4, i5, i6, i7, i8, iL, iE, iT⟩ := hwn19
              have bsn20 := b01 hsn20
              have brr18 := b01 hrr18
              have a1 : n20.toInt = 1 → j101_h0_sound.toInt = 1 ∧ n22.toInt = j101_ac_length.toInt + 1 := fun z => ⟨(iT z).1, (iT z).2.2.1⟩
              replace iT : bx _ := iT
              refine lv_istore (lv' := [(4, .int r18), (0, .ref h0), (1, .int p0), (2, .int h0_limit), (5, .int j101_l5)]) hx hb d_RE_readCode_125 hl (by decide) rfl (fun ls hl => ?_)
              obtain ⟨x30, ex30⟩ : ∃ z : Int32, z = j101_l5 + 1 := ⟨_, rfl⟩
              have tx30 : x30.toInt = j101_l5.toInt + 1 := by have z := i32_add ex30 (by (first | (apply Int.le_antisymm <;> omega) | omega)) (by (first | (apply Int.le_antisymm <;> omega) | omega)); first | exact z | (first | (apply Int.le_antisymm <;> omega) | omega)
              refine lv_iinc (v := x30) (lv' := [(5, .int x30), (4, .int r18), (0, .ref h0), (1, .int p0), (2, .int h0_limit)]) hx hb d_RE_readCode_127 hl (k := 4) rfl (by rw [ex30]; rfl) (by decide) rfl (fun ls hl => ?_)
              refine lv_goto (tgt := 101) hx hb d_RE_readCode_130 (by decide) ?_
              exact ih101 (r18, x30, n27, n28, n24, n26, n25, n29, n23, n22, n19, n21, n20) _ _ _ (by show (5001 - x30.toInt).toNat < N101; (first | (apply Int.le_antisymm <;> omega) | omega)) ⟨hrr18, by (try dsimp only); (first | (apply Int.le_antisymm <;> omega) | omega), by (try dsimp only); (first | (apply Int.le_antisymm <;> omega) | omega), by (try dsimp only); (first | (apply Int.le_antisymm <;> omega) | omega), by (try dsimp only); (first | (apply Int.le_antisymm <;> omega) | omega), hsn20, by (try dsimp only); (first | (apply Int.le_antisymm <;> omega) | omega), by (try dsimp only); (first | (apply Int.le_antisymm <;> omega) | omega), by (try dsimp only); (first | (apply Int.le_antisymm <;> omega) | omega), iE, iL, by (try dsimp only); (first | (apply Int.le_antisymm <;> omega) | omega), by (try dsimp only); (first | (apply Int.le_antisymm <;> omega) | omega), fun z => by obtain ⟨-, -, j3, o9, -, j4⟩ := iT.out z; have z1 := (a1 z).1; exact rc_next (v6 z1).1 (v6 z1).2 (by (first | (apply Int.le_antisymm <;> omega) | omega)) ⟨by (first | (apply Int.le_antisymm <;> omega) | omega), by (first | (apply Int.le_antisymm <;> omega) | omega)⟩ (by (first | (apply Int.le_antisymm <;> omega) | omega)) (by (first | (apply Int.le_antisymm <;> omega) | omega)) (by (first | (apply Int.le_antisymm <;> omega) | omega)) (by (first | (apply Int.le_antisymm <;> omega) | omega)) j4, by (try dsimp only); (first | (apply Int.le_antisymm <;> omega) | omega), hP.sub [13, 0, 8, 9, 10, 11, 12, 3, 4, 5, 6, 7, 1, 2] rfl, hD.sub [13, 0, 8, 9, 10, 11, 12, 3, 4, 5, 6, 7, 1, 2] (by decide) rfl, hS, lv_sub hl [2, 3, 4, 1, 0] rfl⟩
    · have q55 := eqI c55
      have hP9 := hP.sb (wq := (wz_50 h0 aw ac n3 h0_limit j48_s0 h0_codeCount ob h0_openCount aw ab ac aw_typeCount wat wap wag aw_functionCount waf aw_hasMemory aw_pagesLeast aw_pagesMost aw_globalCount wgt wft wfv wgc aw_exportCount wek wei wes wez ab ax ab_length ac cfi clk clt ac_length cop cva cpt cel ac_labelCount cla ax cax gax ob cob gob cfi ccfi gcfi clk cclk gclk clt cclt gclt cop ccop gcop cva ccva gcva cpt ccpt gcpt cel ccel gcel cla ccla gcla)) [10, 11, 12, 0, 13, 1, 2, 3, 4, 5, 6, 7, 8, 9] rfl
      have hD9 := hD.sb (wq := (wz_50 h0 aw ac n3 h0_limit j48_s0 h0_codeCount ob h0_openCount aw ab ac aw_typeCount wat wap wag aw_functionCount waf aw_hasMemory aw_pagesLeast aw_pagesMost aw_globalCount wgt wft wfv wgc aw_exportCount wek wei wes wez ab ax ab_length ac cfi clk clt ac_length cop cva cpt cel ac_labelCount cla ax cax gax ob cob gob cfi ccfi gcfi clk cclk gclk clt cclt gclt cop ccop gcop cva ccva gcva cpt ccpt gcpt cel ccel gcel cla ccla gcla)) [10, 11, 12, 0, 13, 1, 2, 3, 4, 5, 6, 7, 8, 9] (by decide) rfl
      exact W.vret hx hb hr (fun t ht hW => ⟨⟨(gcel, gcfi, gcla, gclk, gclt, gcop, gcpt, gcva, gob, ac_labelCount, ac_length, n3, h0_limit, h0_openCount, j48_s0), rfl, ⟨b_ac_labelCount, b_ac_length, b_h0_openCount, b_j48_s0, ⟨⟨by (try dsimp only); (first | (apply Int.le_antisymm <;> omega) | omega), by (try dsimp only); (first | (apply Int.le_antisymm <;> omega) | omega)⟩, fun z => by (try dsimp only at z); (first | (apply Int.le_antisymm <;> omega) | omega), rfl, hel, hlb, ⟨by (first | (apply Int.le_antisymm <;> omega) | omega), by (first | (apply Int.le_antisymm <;> omega) | omega)⟩, fun z => absurd z (by (try dsimp only); (first | (apply Int.le_antisymm <;> omega) | omega))⟩⟩, va_P.he ht.symm hP9, va_K.moved hW.alike hK, hD9⟩, hS.F ht⟩) hS.2.2 d_RE_readCode_58
  · skip
    refine w_cut (pc2 := 47) (σ := Unit) (fun u H locs ls => match u with | _ => va_P (dC, dI) cls (wz_51 ac cfi clk clt ac_length cop cva cpt cel ac_labelCount cla ob cob gob cfi ccfi gcfi clk cclk gclk clt cclt gclt cop ccop gcop cva ccva gcva cpt ccpt gcpt cel ccel gcel cla ccla gcla h0 aw ac n3 h0_limit n4 h0_codeCount ob h0_openCount aw ab ac aw_typeCount wat wap wag aw_functionCount waf aw_hasMemory aw_pagesLeast aw_pagesMost aw_globalCount wgt wft wfv wgc aw_exportCount wek wei wes wez ab ax ab_length ax cax gax) H ∧ va_D A (wz_51 ac cfi clk clt ac_length cop cva cpt cel ac_labelCount cla ob cob gob cfi ccfi gcfi clk cclk gclk clt cclt gclt cop ccop gcop cva ccva gcva cpt ccpt gcpt cel ccel gcel cla ccla gcla h0 aw ac n3 h0_limit n4 h0_codeCount ob h0_openCount aw ab ac aw_typeCount wat wap wag aw_functionCount waf aw_hasMemory aw_pagesLeast aw_pagesMost aw_globalCount wgt wft wfv wgc aw_exportCount wek wei wes wez ab ax ab_length ax cax gax) ∧ va_S A s.heap H locs ∧ lv_has ls 6 [(0, .ref h0), (1, .int p0), (2, .int h0_limit), (3, .int x5)]) (fun u => match u with | _ => [.ref h0]) ?_ (fun jn47 => ?_)
    · intro u H locs ls hI
      obtain ⟨hP, hD, hS, hl⟩ := hI
      refine lv_iconst (v := 0) hx hb d_RE_readCode_47 (by decide) ?_
      exact jn48 0 _ _ _ ⟨Or.inl rfl, by (try dsimp only); (first | (apply Int.le_antisymm <;> omega) | omega), hP, hD, hS, lv_sub hl [0, 1, 2, 3] rfl⟩
    · skip
      refine lv_if_eq (tgt := 47) hx hb d_RE_readCode_27 (by decide) (fun c27 => ?_) (fun c27 => ?_)
      · have q27 := eqI c27
        exact jn47 () _ _ _ ⟨hP, hD, hS, lv_sub hl [2, 3, 1, 0] rfl⟩
      · have q27 := neI c27
        refine lv_iload_n hx hb d_RE_readCode_30 rfl (lv_at hl 0 rfl) ?_
        refine lv_aload_n hx hb d_RE_readCode_31 rfl (lv_at hl 2 rfl) ?_
        refine va_get (D := (dC, dI)) (ci := 7) (v := .int h0_limit) (C := R_RE) (T := F_RE) (N := 8) hx hb hts i_RE hown hK hP 10 rfl rfl 3 (by decide) (hts _ kF_RE_42) (fun _ h9 => h9) rfl d_RE_readCode_32 ?_
        refine lv_aload_n hx hb d_RE_readCode_35 rfl (lv_at hl 2 rfl) ?_
        refine va_get (D := (dC, dI)) (ci := 7) (v := .int n3) (C := R_RE) (T := F_RE) (N := 8) hx hb hts i_RE hown hK hP 10 rfl rfl 2 (by decide) (hts _ kF_RE_29) (fun _ h9 => h9) rfl d_RE_readCode_36 ?_
        refine lv_isub hx hb d_RE_readCode_39 ?_
        refine lv_topi (fun x31 ex31 => ?_)
        have tx31 : x31.toInt = h0_limit.toInt - n3.toInt := by have z := i32_sub ex31 (by (first | (apply Int.le_antisymm <;> omega) | omega)) (by (first | (apply Int.le_antisymm <;> omega) | omega)); first | exact z | (first | (apply Int.le_antisymm <;> omega) | omega)
        refine lv_icmp_gt (tgt := 47) hx hb d_RE_readCode_40 (by decide) (fun c40 => ?_) (fun c40 => ?_)
        · have q40 := ltI c40
          exact jn47 () _ _ _ ⟨hP, hD, hS, lv_sub hl [2, 3, 1, 0] rfl⟩
        · have q40 := nltI c40
          refine lv_iconst (v := 1) hx hb d_RE_readCode_43 (by decide) ?_
          refine lv_goto (tgt := 48) hx hb d_RE_readCode_44 (by decide) ?_
          exact jn48 1 _ _ _ ⟨Or.inr rfl, by (try dsimp only); (first | (apply Int.le_antisymm <;> omega) | omega), hP, hD, hS, lv_sub hl [2, 3, 1, 0] rfl⟩
end q_18
section q_18a
/-! what a module's tables say, once it is read -/
def rd_T (tc : Int) (wat wap : Nat → Int32) : Prop := (∀ t : Nat, (t : Int) < tc → 0 ≤ (wat t).toInt ∧ (wat t).toInt ≤ 8) ∧ ∀ j : Nat, (j : Int) < 8 * tc → ((j % 8 : Nat) : Int) < (wat (j / 8)).toInt → ((wap j).toInt = 127 ∨ (wap j).toInt = 126)
def rd_F (fc : Int) (waf : Nat → Int32) : Prop := ∀ f : Nat, (f : Int) < fc → 0 ≤ (waf f).toInt
def rd_M (a b : Int64) : Prop := 0 ≤ a.toInt ∧ -1 ≤ b.toInt
def rd_G (gc : Int) (wgt : Nat → Int32) : Prop := ∀ g : Nat, (g : Int) < gc → (wgt g).toInt = 127 ∨ (wgt g).toInt = 126
def rd_E (ec : Int) (wez : Nat → Int32) : Prop := ∀ e : Nat, (e : Int) < ec → 0 ≤ (wez e).toInt
def rd_C (k len lc : Int) (cfi clk clt cop cpt cel : Nat → Int32) (cva : Nat → Int64) : Prop :=
  (∀ f : Nat, (f : Int) < k → 0 ≤ (cfi f).toInt ∧ (cfi f).toInt ≤ (cfi (f + 1)).toInt ∧ (cfi (f + 1)).toInt ≤ len ∧ rc_fin (cfi f).toNatClampNeg (cfi (f + 1)).toNatClampNeg cop cpt cel cva lc ∧ 0 ≤ (clk f).toInt ∧ (clk f).toInt ≤ 60 ∧ ∀ j : Nat, 60 * (f : Int) ≤ (j : Int) → (j : Int) < 60 * (f : Int) + (clk f).toInt → (clt j).toInt = 127 ∨ (clt j).toInt = 126) ∧ (0 < k → (cfi k.toNat).toInt = len)
theorem rc_fin.ext {a n m : Nat} {gop gpt gel gop2 gpt2 gel2 : Nat → Int32} {gva gva2 : Nat → Int64} {lc lc2 : Int} (h : rc_fin a n gop gpt gel gva lc) (hn : n ≤ m) (hl : lc ≤ lc2) (hs : rc_same m gop gpt gel gop2 gpt2 gel2 gva gva2) : rc_fin a n gop2 gpt2 gel2 gva2 lc2 := by
  obtain ⟨sb, h1, h2, h3, h4⟩ := h
  exact ⟨sb, h1, rs_ext h2 hl (fun j hj => (hs j (by (first | (apply Int.le_antisymm <;> omega) | omega))).1) (fun j hj => (hs j (by (first | (apply Int.le_antisymm <;> omega) | omega))).2.1) (fun j hj => (hs j (by (first | (apply Int.le_antisymm <;> omega) | omega))).2.2.1) (fun j hj => (hs j (by (first | (apply Int.le_antisymm <;> omega) | omega))).2.2.2), h3, by rw [(hs (n - 1) (by (first | (apply Int.le_antisymm <;> omega) | omega))).1]; exact h4⟩
theorem rd_C.next {k len lc len2 lc2 t : Int32} {cfi clk clt cop cpt cel cfi2 clk2 clt2 cop2 cpt2 cel2 : Nat → Int32} {cva cva2 : Nat → Int64} (hk : 0 ≤ k.toInt) (h : rd_C k.toInt len.toInt lc.toInt cfi clk clt cop cpt cel cva) (hl0 : 0 ≤ len.toInt) (hl1 : len.toInt ≤ len2.toInt) (hl2 : lc.toInt ≤ lc2.toInt)
    (q1 : rc_fin len.toNatClampNeg len2.toNatClampNeg cop2 cpt2 cel2 cva2 lc2.toInt) (q2 : rc_same len.toNatClampNeg cop cpt cel cop2 cpt2 cel2 cva cva2) (q3 : cfi2 = upd (upd cfi k.toNatClampNeg len) (k.toNatClampNeg + 1) len2) (q4 : ∀ j : Nat, ((j : Int) < 60 * k.toInt ∨ 60 * k.toInt + 60 ≤ (j : Int)) → clt2 j = clt j) (q5 : 0 ≤ t.toInt) (q6 : t.toInt ≤ 60) (q7 : clk2 = upd clk k.toNatClampNeg t)
    (q8 : ∀ j : Nat, 60 * k.toInt ≤ (j : Int) → (j : Int) < 60 * k.toInt + t.toInt → (clt2 j).toInt = 127 ∨ (clt2 j).toInt = 126) : rd_C (k.toInt + 1) len2.toInt lc2.toInt cfi2 clk2 clt2 cop2 cpt2 cel2 cva2 := by
  obtain ⟨hF, hL⟩ := h
  have kn := i32_clamp (x := k) hk
  have ln := i32_clamp (x := len) hl0
  refine ⟨fun f hf => ?_, fun _ => ?_⟩
  · by_cases e : (f : Int) < k.toInt
    · obtain ⟨a1, a2, a3, a4, a5, a6, a7⟩ := hF f e
      have c1 : cfi2 f = cfi f := by rw [q3, pk_un (show f ≠ k.toNatClampNeg + 1 by (first | (apply Int.le_antisymm <;> omega) | omega)), pk_un (show f ≠ k.toNatClampNeg by (first | (apply Int.le_antisymm <;> omega) | omega))]
      have c2 : (cfi2 (f + 1)).toInt = (cfi (f + 1)).toInt := by
        rw [q3, pk_un (show f + 1 ≠ k.toNatClampNeg + 1 by (first | (apply Int.le_antisymm <;> omega) | omega))]
        by_cases e2 : f + 1 = k.toNatClampNeg
        · rw [e2, pk_us]
          have := hL (by (first | (apply Int.le_antisymm <;> omega) | omega))
          rw [show k.toInt.toNat = k.toNatClampNeg from (i32_natI rfl).symm] at this
          exact this.symm
        · rw [pk_un e2]
      have c3 : clk2 f = clk f := by rw [q7, pk_un (show f ≠ k.toNatClampNeg by (first | (apply Int.le_antisymm <;> omega) | omega))]
      have c4 : (cfi2 (f + 1)).toNatClampNeg = (cfi (f + 1)).toNatClampNeg := by rw [i32_natI c2, i32_natI rfl]
      rw [c1, c2, c3, c4]
      refine ⟨a1, a2, by (first | (apply Int.le_antisymm <;> omega) | omega), a4.ext (m := len.toNatClampNeg) (by have := i32_clamp (x := cfi (f + 1)) (by (first | (apply Int.le_antisymm <;> omega) | omega)); (first | (apply Int.le_antisymm <;> omega) | omega)) hl2 q2, a5, a6, fun j j1 j2 => ?_⟩
      rw [q4 j (by (first | (apply Int.le_antisymm <;> omega) | omega))]
      exact a7 j j1 j2
    · have e2 : f = k.toNatClampNeg := by (first | (apply Int.le_antisymm <;> omega) | omega)
      subst e2
      have c1 : cfi2 k.toNatClampNeg = len := by rw [q3, pk_un (show k.toNatClampNeg ≠ k.toNatClampNeg + 1 by (first | (apply Int.le_antisymm <;> omega) | omega)), pk_us]
      have c2 : cfi2 (k.toNatClampNeg + 1) = len2 := by rw [q3, pk_us]
      rw [c1, c2, q7, pk_us]
      exact ⟨hl0, hl1, by (first | (apply Int.le_antisymm <;> omega) | omega), q1, q5, q6, fun j j1 j2 => q8 j (by (first | (apply Int.le_antisymm <;> omega) | omega)) (by (first | (apply Int.le_antisymm <;> omega) | omega))⟩
  · rw [show (k.toInt + 1).toNat = k.toNatClampNeg + 1 from by (first | (apply Int.le_antisymm <;> omega) | omega), q3, pk_us]
theorem rd_C.nil {len lc : Int} {cfi clk clt cop cpt cel : Nat → Int32} {cva : Nat → Int64} : rd_C 0 len lc cfi clk clt cop cpt cel cva := ⟨fun f hf => absurd hf (by (first | (apply Int.le_antisymm <;> omega) | omega)), fun h => absurd h (by (first | (apply Int.le_antisymm <;> omega) | omega))⟩
end q_18a

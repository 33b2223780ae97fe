section q_12
/-! Machine: frames and blocks -/
abbrev b_MA_leaveFunction : ByteArray := prog_6_method_12_code
def y_MA_leaveFunction : MethodName := ⟨R_MA, "leaveFunction", "()V"⟩
abbrev w_MA_leaveFunction : List Cond := .code y_MA_leaveFunction b_MA_leaveFunction 1 none :: lw_g
theorem kC_MA_leaveFunction : Cond.code y_MA_leaveFunction b_MA_leaveFunction 1 none ∈ lw_g := in_c7 120 rfl rfl
theorem d_MA_leaveFunction_0 : decode b_MA_leaveFunction 0 = .ok (.aload_n 0, 1) := bz_c42 (by decide +kernel)
theorem d_MA_leaveFunction_1 : decode b_MA_leaveFunction 1 = .ok (.getfield 80, 3) := bz_c180 (by decide +kernel)
theorem d_MA_leaveFunction_4 : decode b_MA_leaveFunction 4 = .ok (.ifCond .le 78, 3) := bz_c158 (by decide +kernel)
theorem d_MA_leaveFunction_7 : decode b_MA_leaveFunction 7 = .ok (.aload_n 0, 1) := bz_c42 (by decide +kernel)
theorem d_MA_leaveFunction_8 : decode b_MA_leaveFunction 8 = .ok (.dup, 1) := bz_c89 (by decide +kernel)
theorem d_MA_leaveFunction_9 : decode b_MA_leaveFunction 9 = .ok (.getfield 80, 3) := bz_c180 (by decide +kernel)
theorem d_MA_leaveFunction_12 : decode b_MA_leaveFunction 12 = .ok (.iconst 1, 1) := bz_c4 (by decide +kernel)
theorem d_MA_leaveFunction_13 : decode b_MA_leaveFunction 13 = .ok (.isub, 1) := bz_c100 (by decide +kernel)
theorem d_MA_leaveFunction_14 : decode b_MA_leaveFunction 14 = .ok (.putfield 80, 3) := bz_c181 (by decide +kernel)
theorem d_MA_leaveFunction_17 : decode b_MA_leaveFunction 17 = .ok (.aload_n 0, 1) := bz_c42 (by decide +kernel)
theorem d_MA_leaveFunction_18 : decode b_MA_leaveFunction 18 = .ok (.aload_n 0, 1) := bz_c42 (by decide +kernel)
theorem d_MA_leaveFunction_19 : decode b_MA_leaveFunction 19 = .ok (.getfield 25, 3) := bz_c180 (by decide +kernel)
theorem d_MA_leaveFunction_22 : decode b_MA_leaveFunction 22 = .ok (.aload_n 0, 1) := bz_c42 (by decide +kernel)
theorem d_MA_leaveFunction_23 : decode b_MA_leaveFunction 23 = .ok (.getfield 80, 3) := bz_c180 (by decide +kernel)
theorem d_MA_leaveFunction_26 : decode b_MA_leaveFunction 26 = .ok (.iaload, 1) := bz_c46 (by decide +kernel)
theorem d_MA_leaveFunction_27 : decode b_MA_leaveFunction 27 = .ok (.aload_n 0, 1) := bz_c42 (by decide +kernel)
theorem d_MA_leaveFunction_28 : decode b_MA_leaveFunction 28 = .ok (.getfield 40, 3) := bz_c180 (by decide +kernel)
theorem d_MA_leaveFunction_31 : decode b_MA_leaveFunction 31 = .ok (.aload_n 0, 1) := bz_c42 (by decide +kernel)
theorem d_MA_leaveFunction_32 : decode b_MA_leaveFunction 32 = .ok (.getfield 28, 3) := bz_c180 (by decide +kernel)
theorem d_MA_leaveFunction_35 : decode b_MA_leaveFunction 35 = .ok (.aload_n 0, 1) := bz_c42 (by decide +kernel)
theorem d_MA_leaveFunction_36 : decode b_MA_leaveFunction 36 = .ok (.getfield 80, 3) := bz_c180 (by decide +kernel)
theorem d_MA_leaveFunction_39 : decode b_MA_leaveFunction 39 = .ok (.iaload, 1) := bz_c46 (by decide +kernel)
theorem d_MA_leaveFunction_40 : decode b_MA_leaveFunction 40 = .ok (.invokevirtual 191, 3) := bz_c182 (by decide +kernel)
theorem d_MA_leaveFunction_43 : decode b_MA_leaveFunction 43 = .ok (.bipush 64, 2) := bz_c16 (by decide +kernel)
theorem d_MA_leaveFunction_45 : decode b_MA_leaveFunction 45 = .ok (.if_icmp .eq 7, 3) := bz_c159 (by decide +kernel)
theorem d_MA_leaveFunction_48 : decode b_MA_leaveFunction 48 = .ok (.iconst 1, 1) := bz_c4 (by decide +kernel)
theorem d_MA_leaveFunction_49 : decode b_MA_leaveFunction 49 = .ok (.goto 4, 3) := bz_c167 (by decide +kernel)
theorem d_MA_leaveFunction_52 : decode b_MA_leaveFunction 52 = .ok (.iconst 0, 1) := bz_c3 (by decide +kernel)
theorem d_MA_leaveFunction_53 : decode b_MA_leaveFunction 53 = .ok (.invokevirtual 181, 3) := bz_c182 (by decide +kernel)
theorem d_MA_leaveFunction_56 : decode b_MA_leaveFunction 56 = .ok (.aload_n 0, 1) := bz_c42 (by decide +kernel)
theorem d_MA_leaveFunction_57 : decode b_MA_leaveFunction 57 = .ok (.aload_n 0, 1) := bz_c42 (by decide +kernel)
theorem d_MA_leaveFunction_58 : decode b_MA_leaveFunction 58 = .ok (.getfield 31, 3) := bz_c180 (by decide +kernel)
theorem d_MA_leaveFunction_61 : decode b_MA_leaveFunction 61 = .ok (.aload_n 0, 1) := bz_c42 (by decide +kernel)
theorem d_MA_leaveFunction_62 : decode b_MA_leaveFunction 62 = .ok (.getfield 80, 3) := bz_c180 (by decide +kernel)
theorem d_MA_leaveFunction_65 : decode b_MA_leaveFunction 65 = .ok (.iaload, 1) := bz_c46 (by decide +kernel)
theorem d_MA_leaveFunction_66 : decode b_MA_leaveFunction 66 = .ok (.putfield 83, 3) := bz_c181 (by decide +kernel)
theorem d_MA_leaveFunction_69 : decode b_MA_leaveFunction 69 = .ok (.aload_n 0, 1) := bz_c42 (by decide +kernel)
theorem d_MA_leaveFunction_70 : decode b_MA_leaveFunction 70 = .ok (.aload_n 0, 1) := bz_c42 (by decide +kernel)
theorem d_MA_leaveFunction_71 : decode b_MA_leaveFunction 71 = .ok (.getfield 21, 3) := bz_c180 (by decide +kernel)
theorem d_MA_leaveFunction_74 : decode b_MA_leaveFunction 74 = .ok (.aload_n 0, 1) := bz_c42 (by decide +kernel)
theorem d_MA_leaveFunction_75 : decode b_MA_leaveFunction 75 = .ok (.getfield 80, 3) := bz_c180 (by decide +kernel)
theorem d_MA_leaveFunction_78 : decode b_MA_leaveFunction 78 = .ok (.iaload, 1) := bz_c46 (by decide +kernel)
theorem d_MA_leaveFunction_79 : decode b_MA_leaveFunction 79 = .ok (.putfield 106, 3) := bz_c181 (by decide +kernel)
theorem d_MA_leaveFunction_82 : decode b_MA_leaveFunction 82 = .ok (.return_, 1) := bz_c177 (by decide +kernel)
theorem kM_MA_191 : Cond.methodLink R_MA 191 y_WA_gives ∈ lw_g := in_c7 121 rfl rfl
theorem kV_WA_gives : Cond.instanceMethod y_WA_gives ∈ lw_g := in_c6 209 rfl rfl
theorem kS_WA_gives : Cond.selects R_WA y_WA_gives y_WA_gives ∈ lw_g := in_c6 210 rfl rfl
theorem kM_MA_181 : Cond.methodLink R_MA 181 y_MA_keepTop ∈ lw_g := in_c7 122 rfl rfl
theorem kV_MA_keepTop : Cond.instanceMethod y_MA_keepTop ∈ lw_g := in_c7 124 rfl rfl
theorem kS_MA_keepTop : Cond.selects R_MA y_MA_keepTop y_MA_keepTop ∈ lw_g := in_s 104 (by decide +kernel) rfl
theorem kF_MA_80 : Cond.fieldLink R_MA 80 "WaferForge$Machine" "frameCount" "I" ∈ lw_g := in_c3 74 rfl rfl
theorem kF_MA_25 : Cond.fieldLink R_MA 25 "WaferForge$Machine" "frameBases" "[I" ∈ lw_g := in_c3 71 rfl rfl
theorem kF_MA_28 : Cond.fieldLink R_MA 28 "WaferForge$Machine" "frameFunctions" "[I" ∈ lw_g := in_c3 72 rfl rfl
theorem kF_MA_31 : Cond.fieldLink R_MA 31 "WaferForge$Machine" "frameLabels" "[I" ∈ lw_g := in_c3 73 rfl rfl
theorem kF_MA_21 : Cond.fieldLink R_MA 21 "WaferForge$Machine" "frameBacks" "[I" ∈ lw_g := in_c3 70 rfl rfl
theorem kF_MA_106 : Cond.fieldLink R_MA 106 "WaferForge$Machine" "at" "I" ∈ lw_g := in_c3 78 rfl rfl
abbrev at_MA_leaveFunction (dC : Nat → ClassId) (dI : Nat → Nat → Nat) (h0 gl aw ac ce sk fb fs ff fl lb lh wag waf : Nat) (csk cfb cfs cff cfl clb clh cwaf cwag : ClassId) (h0_pages : Int32) (h0_steps : Int32) (law : List Value) (gfb : Nat → Int32) (gfs : Nat → Int32) (gff : Nat → Int32) (gfl : Nat → Int32) (glb : Nat → Int32) (glh : Nat → Int32) (gwaf : Nat → Int32) (gwag : Nat → Int32) (A : Nat → Prop) (u : (Nat → Int64) × Int32 × Int32 × Int32 × Int32 × Int32) (t : State) : Prop := match u with | (gsk, h0_at, h0_frameCount, h0_height, h0_labelCount, h0_reason) => va_P (dC, dI) cls (wz_25 h0 h0_pages h0_steps h0_reason gl aw ac ce sk h0_height fb fs ff fl h0_frameCount lb lh h0_labelCount h0_at aw law sk csk gsk fb cfb gfb fs cfs gfs ff cff gff fl cfl gfl lb clb glb lh clh glh waf cwaf gwaf wag cwag gwag) t.heap ∧ va_K (dC, dI) cls [(csk, .long), (cfb, .int), (cfs, .int), (cff, .int), (cfl, .int), (clb, .int), (clh, .int), (cwaf, .int), (cwag, .int)] t ∧ va_D A (wz_25 h0 h0_pages h0_steps h0_reason gl aw ac ce sk h0_height fb fs ff fl h0_frameCount lb lh h0_labelCount h0_at aw law sk csk gsk fb cfb gfb fs cfs gfs ff cff gff fl cfl gfl lb clb glb lh clh glh waf cwaf gwaf wag cwag gwag)
set_option maxHeartbeats 4000000 in
set_option maxRecDepth 100000 in
theorem c_MA_leaveFunction (l : Launch) (dC : Nat → ClassId) (dI : Nat → Nat → Nat) (sz : Nat) (h0 gl aw ac ce sk fb fs ff fl lb lh wag waf : Nat) (csk cfb cfs cff cfl clb clh cwaf cwag : ClassId) (h0_pages : Int32) (h0_steps : Int32) (h0_reason : Int32) (h0_height : Int32) (h0_frameCount : Int32) (h0_labelCount : Int32) (h0_at : Int32) (law : List Value) (gsk : Nat → Int64) (gfb : Nat → Int32) (gfs : Nat → Int32) (gff : Nat → Int32) (gfl : Nat → Int32) (glb : Nat → Int32) (glh : Nat → Int32) (gwaf : Nat → Int32) (gwag : Nat → Int32) (an : mc_A) (nl : Nat → Int) (gv : Nat → Int) (fc : Int) (f : Nat) (bs : List (Nat × Int)) (paw_5 : law[5]? = some (.ref wag)) (paw_7 : law[7]? = some (.ref waf)) (plaw : law.length = 21) (b_h0_reason : 0 ≤ h0_reason.toInt ∧ h0_reason.toInt ≤ 14) (b_h0_height : 0 ≤ h0_height.toInt ∧ h0_height.toInt ≤ 12096) (b_h0_frameCount : 0 ≤ h0_frameCount.toInt ∧ h0_frameCount.toInt ≤ 100) (b_h0_labelCount : 0 ≤ h0_labelCount.toInt ∧ h0_labelCount.toInt ≤ 10000)   (hr0 : h0_reason.toInt = 0) (hk1 : 1 ≤ h0_frameCount.toInt) (hT : mc_tp an nl gv gfb gfs gff gfl glb glh (h0_frameCount.toInt - 1).toNat f bs h0_labelCount.toInt) (hf : (f : Int) < fc) (hfn : ∀ f : Nat, (f : Int) < fc → f < 30 ∧ 0 ≤ (gwaf f).toInt ∧ (gwaf f).toInt < 20) (hgv : ∀ f : Nat, (f : Int) < fc → gv f = if (gwag (gwaf f).toNatClampNeg).toInt = 64 then 0 else 1) : Met l y_MA_leaveFunction w_MA_leaveFunction ({ frames := 2, cells := 0, slots := 0, locals := 46 }) (va_Pc [.ref h0] (fun U => U.heap.size = sz ∧ va_P (dC, dI) cls (wz_25 h0 h0_pages h0_steps h0_reason gl aw ac ce sk h0_height fb fs ff fl h0_frameCount lb lh h0_labelCount h0_at aw law sk csk gsk fb cfb gfb fs cfs gfs ff cff gff fl cfl gfl lb clb glb lh clh glh waf cwaf gwaf wag cwag gwag) U.heap ∧ va_K (dC, dI) cls [(csk, .long), (cfb, .int), (cfs, .int), (cff, .int), (cfl, .int), (clb, .int), (clh, .int), (cwaf, .int), (cwag, .int)] U ∧ va_D (fun _ => True) (wz_25 h0 h0_pages h0_steps h0_reason gl aw ac ce sk h0_height fb fs ff fl h0_frameCount lb lh h0_labelCount h0_at aw law sk csk gsk fb cfb gfb fs cfs gfs ff cff gff fl cfl gfl lb clb glb lh clh glh waf cwaf gwaf wag cwag gwag))) (va_Qv (fun (u : (Nat → Int64) × Int32 × Int32 × Int32 × Int32 × Int32) => match u with | (gsk2, h0_at2, h0_frameCount2, h0_height2, h0_labelCount2, h0_reason2) => (0 ≤ h0_frameCount2.toInt ∧ h0_frameCount2.toInt ≤ 100) ∧ (0 ≤ h0_height2.toInt ∧ h0_height2.toInt ≤ 12096) ∧ (0 ≤ h0_labelCount2.toInt ∧ h0_labelCount2.toInt ≤ 10000) ∧ (0 ≤ h0_reason2.toInt ∧ h0_reason2.toInt ≤ 14) ∧ (mc_after an nl gv gfb gfs gff gfl glb glh h0_reason2 h0_frameCount2 h0_at2 h0_height2 h0_labelCount2)) (at_MA_leaveFunction dC dI h0 gl aw ac ce sk fb fs ff fl lb lh wag waf csk cfb cfs cff cfl clb clh cwaf cwag h0_pages h0_steps law gfb gfs gff gfl glb glh gwaf gwag (va_A (wz_25 h0 h0_pages h0_steps h0_reason gl aw ac ce sk h0_height fb fs ff fl h0_frameCount lb lh h0_labelCount h0_at aw law sk csk gsk fb cfb gfb fs cfs gfs ff cff gff fl cfl gfl lb clb glb lh clh glh waf cwaf gwaf wag cwag gwag) sz)) (va_A (wz_25 h0 h0_pages h0_steps h0_reason gl aw ac ce sk h0_height fb fs ff fl h0_frameCount lb lh h0_labelCount h0_at aw law sk csk gsk fb cfb gfb fs cfs gfs ff cff gff fl cfl gfl lb clb glb lh clh glh waf cwaf gwaf wag cwag gwag) sz)) 0 0 (va_A (wz_25 h0 h0_pages h0_steps h0_reason gl aw ac ce sk h0_height fb fs ff fl h0_frameCount lb lh h0_labelCount h0_at aw law sk csk gsk fb cfb gfb fs cfs gfs ff cff gff fl cfl gfl lb clb glb lh clh glh waf cwaf gwaf wag cwag gwag) sz) := by
  refine Met.ofW (cc := b_MA_leaveFunction) (maxL := 1) (ret := none) (by decide) rfl ?_
  intro p e s m args below meth c s₁ B hml hv
  obtain ⟨rfl, hsz, hP, hK, hD0⟩ := hv
  have hx := B.exec
  have hb := B.bytes
  have hr := B.returns
  have hts0 := atoms_spec (ws := w_MA_leaveFunction) B.pre
  have hts : ∀ w ∈ lw_g, w.before _ s = true := fun w h => hts0 w (List.mem_cons_of_mem _ h)
  have hown : s.vm.findClass R_MA = some m.cls := findClass_of_methodNamed B.named
  have hlocks := B.notSynchronized
  clear hts0
  subst hsz
  have hD := hD0.self (sz := s.heap.size)
  generalize hAe : va_A (wz_25 h0 h0_pages h0_steps h0_reason gl aw ac ce sk h0_height fb fs ff fl h0_frameCount lb lh h0_labelCount h0_at aw law sk csk gsk fb cfb gfb fs cfs gfs ff cff gff fl cfl gfl lb clb glb lh clh glh waf cwaf gwaf wag cwag gwag) s.heap.size = A at hD ⊢
  have hA : ∀ q : Nat, s.heap.size ≤ q → A q := fun q h => by rw [← hAe]; exact Or.inr h
  clear hAe
  have hP : va_P (dC, dI) cls (wz_25 h0 h0_pages h0_steps h0_reason gl aw ac ce sk h0_height fb fs ff fl h0_frameCount lb lh h0_labelCount h0_at aw law sk csk gsk fb cfb gfb fs cfs gfs ff cff gff fl cfl gfl lb clb glb lh clh glh waf cwaf gwaf wag cwag gwag) s.heap := hP
  have hl := lv_entry ([.ref h0]) (n := 1) (Nat.le_of_ble_eq_true rfl)
  rw [lg_entry_eq]
  generalize (lg_sl ([.ref h0]) ++ List.replicate (1 - (lg_sl ([.ref h0])).length) Slot.unset).toArray = ls at hl ⊢
  have hl : lv_has ls 1 [(0, .ref h0)] := hl
  have k0 : (0 : Int32).toInt = 0 := by decide
  refine w_gen (A := A) hP (fun H locs hP hS => ?_)
  have k1 : (1 : Int32).toInt = 1 := by decide
  have k64 : (64 : Int32).toInt = 64 := by decide
  obtain ⟨o1, o2, o3, o4, o5, o6, o7, o8⟩ := hT.1
  have hk9 : (((h0_frameCount.toInt - 1).toNat : Nat) : Int) = h0_frameCount.toInt - 1 := by (first | (apply Int.le_antisymm <;> omega) | omega)
  have hfn9 := hfn f hf
  refine lv_aload_n hx hb d_MA_leaveFunction_0 rfl (lv_at hl 0 rfl) ?_
  refine va_get (D := (dC, dI)) (ci := 4) (v := .int h0_frameCount) (C := R_MA) (T := F_MA) (N := 18) hx hb hts i_MA hown hK hP 0 rfl rfl 13 (by decide) (hts _ kF_MA_80) (fun _ h9 => h9) rfl d_MA_leaveFunction_1 ?_
  refine lv_if_le (tgt := 82) hx hb d_MA_leaveFunction_4 (by decide) (fun c4 => absurd (leI c4) (by (first | (apply Int.le_antisymm <;> omega) | omega))) (fun c4 => ?_)
  have q4 := nleI c4
  refine lv_aload_n hx hb d_MA_leaveFunction_7 rfl (lv_at hl 0 rfl) ?_
  refine lv_dup hx hb d_MA_leaveFunction_8 rfl ?_
  refine va_get (D := (dC, dI)) (ci := 4) (v := .int h0_frameCount) (C := R_MA) (T := F_MA) (N := 18) hx hb hts i_MA hown hK hP 0 rfl rfl 13 (by decide) (hts _ kF_MA_80) (fun _ h9 => h9) rfl d_MA_leaveFunction_9 ?_
  refine lv_iconst (v := 1) hx hb d_MA_leaveFunction_12 (by decide) ?_
  refine lv_isub hx hb d_MA_leaveFunction_13 ?_
  refine lv_topi (fun x1 ex1 => ?_)
  have tx1 : x1.toInt = h0_frameCount.toInt - 1 := by have z := i32_sub ex1 (by (first | (apply Int.le_antisymm <;> omega) | omega)) (by (first | (apply Int.le_antisymm <;> omega) | omega)); first | exact z | (first | (apply Int.le_antisymm <;> omega) | omega)
  refine va_put (D := (dC, dI)) (ci := 4) (v := .int x1) (ty := .int) (C := R_MA) (T := F_MA) (N := 18) hx hb hts i_MA t_MA t_MA_ok n_MA hown hK hP hD hS 0 rfl rfl 13 (by decide) (hts _ kF_MA_80) (fun _ h9 => h9) rfl (by decide +kernel) rfl rfl (Nat.le_of_ble_eq_true rfl) d_MA_leaveFunction_14 (fun H locs hP hD hS => ?_)
  refine lv_aload_n hx hb d_MA_leaveFunction_17 rfl (lv_at hl 0 rfl) ?_
  refine lv_aload_n hx hb d_MA_leaveFunction_18 rfl (lv_at hl 0 rfl) ?_
  refine va_get (D := (dC, dI)) (ci := 4) (v := .ref fs) (C := R_MA) (T := F_MA) (N := 18) hx hb hts i_MA hown hK hP 0 rfl rfl 10 (by decide) (hts _ kF_MA_25) (fun _ h9 => h9) rfl d_MA_leaveFunction_19 ?_
  refine lv_aload_n hx hb d_MA_leaveFunction_22 rfl (lv_at hl 0 rfl) ?_
  refine va_get (D := (dC, dI)) (ci := 4) (v := .int x1) (C := R_MA) (T := F_MA) (N := 18) hx hb hts i_MA hown hK hP 0 rfl rfl 13 (by decide) (hts _ kF_MA_80) (fun _ h9 => h9) rfl d_MA_leaveFunction_23 ?_
  have g26 : vp_in x1 100 := vp_in_iff.mpr ⟨by (first | (apply Int.le_antisymm <;> omega) | omega), by (first | (apply Int.le_antisymm <;> omega) | omega)⟩
  refine va_iald hx hb hK hP 4 2 rfl rfl g26 d_MA_leaveFunction_26 ?_
  refine lv_topi (fun x2 ex2 => ?_)
  rw [i32_natI (x := x1) (n := h0_frameCount.toInt - 1) (by (first | (apply Int.le_antisymm <;> omega) | omega))] at ex2
  have tx2 : 0 ≤ x2.toInt ∧ x2.toInt ≤ 12096 := by rw [ex2]; exact ⟨o2, o3⟩
  have b26 := ex2
  refine lv_aload_n hx hb d_MA_leaveFunction_27 rfl (lv_at hl 0 rfl) ?_
  refine va_get (D := (dC, dI)) (ci := 4) (v := .ref aw) (C := R_MA) (T := F_MA) (N := 18) hx hb hts i_MA hown hK hP 0 rfl rfl 4 (by decide) (hts _ kF_MA_40) (fun _ h9 => h9) rfl d_MA_leaveFunction_28 ?_
  refine lv_aload_n hx hb d_MA_leaveFunction_31 rfl (lv_at hl 0 rfl) ?_
  refine va_get (D := (dC, dI)) (ci := 4) (v := .ref ff) (C := R_MA) (T := F_MA) (N := 18) hx hb hts i_MA hown hK hP 0 rfl rfl 11 (by decide) (hts _ kF_MA_28) (fun _ h9 => h9) rfl d_MA_leaveFunction_32 ?_
  refine lv_aload_n hx hb d_MA_leaveFunction_35 rfl (lv_at hl 0 rfl) ?_
  refine va_get (D := (dC, dI)) (ci := 4) (v := .int x1) (C := R_MA) (T := F_MA) (N := 18) hx hb hts i_MA hown hK hP 0 rfl rfl 13 (by decide) (hts _ kF_MA_80) (fun _ h9 => h9) rfl d_MA_leaveFunction_36 ?_
  have g39 : vp_in x1 100 := vp_in_iff.mpr ⟨by (first | (apply Int.le_antisymm <;> omega) | omega), by (first | (apply Int.le_antisymm <;> omega) | omega)⟩
  refine va_iald hx hb hK hP 5 3 rfl rfl g39 d_MA_leaveFunction_39 ?_
  refine lv_topi (fun x3 ex3 => ?_)
  rw [i32_natI (x := x1) (n := h0_frameCount.toInt - 1) (by (first | (apply Int.le_antisymm <;> omega) | omega))] at ex3
  have tx3 : x3.toInt = f := by rw [ex3]; exact o1
  have hPc := hP.sb (wq := (wz_16 aw law waf cwaf gwaf wag cwag gwag)) [1, 9, 10] rfl
  have hDc := hD.sb (wq := (wz_16 aw law waf cwaf gwaf wag cwag gwag)) [1, 9, 10] (by decide) rfl
  have hKc := hK.sb (tyq := [(cwaf, .int), (cwag, .int)]) [7, 8] rfl
  have hFc := va_free (wc := (wz_16 aw law waf cwaf gwaf wag cwag gwag)) hD hS hA [1, 9, 10] rfl
  refine va_calli (va_runV (As := [.int x3]) (rest := [.int x2, .ref h0]) ⟨hx, hb, hml, hown, hts⟩ (c_WA_gives l dC dI aw waf wag H.size cwaf cwag gwaf gwag law paw_7 paw_5 plaw x3 (by (first | (apply Int.le_antisymm <;> omega) | omega)) (by rw [i32_nat tx3]; (first | (apply Int.le_antisymm <;> omega) | omega))) (cwV 1 hts (gV kM_MA_191 kV_WA_gives kS_WA_gives kI_WA kC_WA_gives) rfl rfl rfl (by decide +kernel) ⟨Nat.le_of_ble_eq_true rfl, Nat.le_of_ble_eq_true rfl⟩) ⟨fun a U g mk z => by obtain ⟨z0, z1, zP, zK, zD⟩ := z; exact ⟨z0, z1, zP, va_K.moved (u := U) (U := U.calling g mk a) (Vm.Alike.refl U.vm) zK, zD⟩, va_recv hKc hPc (ci := 10) (q0 := 0) rfl rfl, fun U hU hW => ⟨rfl, by rw [hU], va_P.he hU.symm hPc, va_K.moved hW.alike hKc, hDc.weaken (fun _ _ _ _ => trivial)⟩⟩ rfl rfl hl.1 rfl (lv_room (Nat.le_of_ble_eq_true rfl)) d_MA_leaveFunction_40 ⟨(Nat.zero_le _), (Nat.zero_le _)⟩) hS (fun q _ h => hFc q h) hFc (fun r4 u t H1 locs ht hvm hw hB hz1 hk1 hS => ?_)
  try dsimp only at hw
  have er4 := hw
  try clear hw
  rw [i32_nat tx3] at er4
  have g9 := hgv f hf
  rw [← er4] at g9
  obtain ⟨hP1, hK1, hD1⟩ := hB
  replace hP1 := va_P.he ht hP1
  obtain ⟨hP, hD⟩ := va_join (wr := [(h0, .inr (4, [.int h0_pages, .int h0_steps, .int h0_reason, .ref gl, .ref aw, .ref ac, .ref ce, .ref sk, .int h0_height, .ref fb, .ref fs, .ref ff, .ref fl, .int x1, .ref lb, .ref lh, .int h0_labelCount, .int h0_at])), (sk, .inl (csk, 12096, .inr (.inl gsk))), (fb, .inl (cfb, 100, .inl gfb)), (fs, .inl (cfs, 100, .inl gfs)), (ff, .inl (cff, 100, .inl gff)), (fl, .inl (cfl, 100, .inl gfl)), (lb, .inl (clb, 10000, .inl glb)), (lh, .inl (clh, 10000, .inl glh))]) (w1 := (wz_16 aw law waf cwaf gwaf wag cwag gwag)) hP hD [1, 9, 10] [0, 2, 3, 4, 5, 6, 7, 8] rfl rfl (by decide) (by decide) hk1 hFc hP1 hD1
  clear hPc hDc hKc hFc hz1 hk1 hP1 hK1 hD1
  rename Heap => H
  have hP : va_P (dC, dI) cls (wz_26 h0 h0_pages h0_steps h0_reason gl aw ac ce sk h0_height fb fs ff fl x1 lb lh h0_labelCount h0_at sk csk gsk fb cfb gfb fs cfs gfs ff cff gff fl cfl gfl lb clb glb lh clh glh aw law waf cwaf gwaf wag cwag gwag) H := hP
  have hD : va_D A (wz_26 h0 h0_pages h0_steps h0_reason gl aw ac ce sk h0_height fb fs ff fl x1 lb lh h0_labelCount h0_at sk csk gsk fb cfb gfb fs cfs gfs ff cff gff fl cfl gfl lb clb glb lh clh glh aw law waf cwaf gwaf wag cwag gwag) := hD
  refine lv_bipush (v := 64) hx hb d_MA_leaveFunction_43 (by decide) ?_
  refine w_cut (pc2 := 53) (σ := Int32) (fun u H locs ls => match u with | j53_s0 => (j53_s0 = 0 ∨ j53_s0 = 1) ∧ (j53_s0.toInt = gv f) ∧ va_P (dC, dI) cls (wz_26 h0 h0_pages h0_steps h0_reason gl aw ac ce sk h0_height fb fs ff fl x1 lb lh h0_labelCount h0_at sk csk gsk fb cfb gfb fs cfs gfs ff cff gff fl cfl gfl lb clb glb lh clh glh aw law waf cwaf gwaf wag cwag gwag) H ∧ va_D A (wz_26 h0 h0_pages h0_steps h0_reason gl aw ac ce sk h0_height fb fs ff fl x1 lb lh h0_labelCount h0_at sk csk gsk fb cfb gfb fs cfs gfs ff cff gff fl cfl gfl lb clb glb lh clh glh aw law waf cwaf gwaf wag cwag gwag) ∧ va_S A s.heap H locs ∧ lv_has ls 1 [(0, .ref h0)]) (fun u => match u with | j53_s0 => [.int j53_s0, .int x2, .ref h0]) ?_ (fun jn53 => ?_)
  · intro u H locs ls hI
    obtain ⟨j53_s0, rfl⟩ : ∃ z, z = u := ⟨_, rfl⟩
    obtain ⟨b_j53_s0, v53, hP, hD, hS, hl⟩ := hI
    have tj53_s0 := b01 b_j53_s0
    have hPc := hP.sb (wq := (wz_17 h0 h0_pages h0_steps h0_reason gl aw ac ce sk h0_height fb fs ff fl x1 lb lh h0_labelCount h0_at sk csk gsk)) [0, 1] rfl
    have hDc := hD.sb (wq := (wz_17 h0 h0_pages h0_steps h0_reason gl aw ac ce sk h0_height fb fs ff fl x1 lb lh h0_labelCount h0_at sk csk gsk)) [0, 1] (by decide) rfl
    have hKc := hK.sb (tyq := [(csk, .long)]) [0] rfl
    have hFc := va_free (wc := (wz_17 h0 h0_pages h0_steps h0_reason gl aw ac ce sk h0_height fb fs ff fl x1 lb lh h0_labelCount h0_at sk csk gsk)) hD hS hA [0, 1] rfl
    refine va_callv (va_runV (As := [.int x2, .int j53_s0]) (rest := []) ⟨hx, hb, hml, hown, hts⟩ (c_MA_keepTop l dC dI H.size h0 gl aw ac ce sk fb fs ff fl lb lh csk h0_pages h0_steps h0_reason h0_height x1 h0_labelCount h0_at gsk (b_h0_reason) (b_h0_height) x2 j53_s0 (by (try dsimp only); (first | (apply Int.le_antisymm <;> omega) | omega)) (b_j53_s0) (by (try dsimp only); (first | (apply Int.le_antisymm <;> omega) | omega))) (cwV 2 hts (gV kM_MA_181 kV_MA_keepTop kS_MA_keepTop kI_MA kC_MA_keepTop) rfl rfl rfl (by decide +kernel) ⟨Nat.le_of_ble_eq_true rfl, Nat.le_of_ble_eq_true rfl⟩) ⟨fun a U g mk z => by obtain ⟨z0, z1, zP, zK, zD⟩ := z; exact ⟨z0, z1, zP, va_K.moved (u := U) (U := U.calling g mk a) (Vm.Alike.refl U.vm) zK, zD⟩, va_recv hKc hPc (ci := 4) (q0 := 0) rfl rfl, fun U hU hW => ⟨rfl, by rw [hU], va_P.he hU.symm hPc, va_K.moved hW.alike hKc, hDc.weaken (fun _ _ _ _ => trivial)⟩⟩ rfl rfl hl.1 rfl (lv_room (Nat.le_of_ble_eq_true rfl)) d_MA_leaveFunction_53 ⟨(Nat.zero_le _), (Nat.zero_le _)⟩) hS (fun q _ h => hFc q h) hFc (fun u t H1 locs ht hvm hw hB hz1 hk1 hS => ?_)
    obtain ⟨n6, n7, n8⟩ := u
    try dsimp only at hw
    obtain ⟨bn7, bn8, xr5⟩ := hw
    try clear hw
    obtain ⟨hP1, hK1, hD1⟩ := hB
    replace hP1 := va_P.he ht hP1
    obtain ⟨hP, hD⟩ := va_join (wr := [(fb, .inl (cfb, 100, .inl gfb)), (fs, .inl (cfs, 100, .inl gfs)), (ff, .inl (cff, 100, .inl gff)), (fl, .inl (cfl, 100, .inl gfl)), (lb, .inl (clb, 10000, .inl glb)), (lh, .inl (clh, 10000, .inl glh)), (aw, .inr (10, law)), (waf, .inl (cwaf, 30, .inl gwaf)), (wag, .inl (cwag, 20, .inl gwag))]) (w1 := (wz_17 h0 h0_pages h0_steps n8 gl aw ac ce sk n7 fb fs ff fl x1 lb lh h0_labelCount h0_at sk csk n6)) hP hD [0, 1] [2, 3, 4, 5, 6, 7, 8, 9, 10] rfl rfl (by decide) (by decide) hk1 hFc hP1 hD1
    clear hPc hDc hKc hFc hz1 hk1 hP1 hK1 hD1
    rename Heap => H
    have hP : va_P (dC, dI) cls [(fb, .inl (cfb, 100, .inl gfb)), (fs, .inl (cfs, 100, .inl gfs)), (ff, .inl (cff, 100, .inl gff)), (fl, .inl (cfl, 100, .inl gfl)), (lb, .inl (clb, 10000, .inl glb)), (lh, .inl (clh, 10000, .inl glh)), (aw, .inr (10, law)), (waf, .inl (cwaf, 30, .inl gwaf)), (wag, .inl (cwag, 20, .inl gwag)), (h0, .inr (4, [.int h0_pages, .int h0_steps, .int n8, .ref gl, .ref aw, .ref ac, .ref ce, .ref sk, .int n7, .ref fb, .ref fs, .ref ff, .ref fl, .int x1, .ref lb, .ref lh, .int h0_labelCount, .int h0_at])), (sk, .inl (csk, 12096, .inr (.inl n6)))] H := hP
    have hD : va_D A [(fb, .inl (cfb, 100, .inl gfb)), (fs, .inl (cfs, 100, .inl gfs)), (ff, .inl (cff, 100, .inl gff)), (fl, .inl (cfl, 100, .inl gfl)), (lb, .inl (clb, 10000, .inl glb)), (lh, .inl (clh, 10000, .inl glh)), (aw, .inr (10, law)), (waf, .inl (cwaf, 30, .inl gwaf)), (wag, .inl (cwag, 20, .inl gwag)), (h0, .inr (4, [.int h0_pages, .int h0_steps, .int n8, .ref gl, .ref aw, .ref ac, .ref ce, .ref sk, .int n7, .ref fb, .ref fs, .ref ff, .ref fl, .int x1, .ref lb, .ref lh, .int h0_labelCount, .int h0_at])), (sk, .inl (csk, 12096, .inr (.inl n6)))] := hD
    refine lv_aload_n hx hb d_MA_leaveFunction_56 rfl (lv_at hl 0 rfl) ?_
    refine lv_aload_n hx hb d_MA_leaveFunction_57 rfl (lv_at hl 0 rfl) ?_
    refine va_get (D := (dC, dI)) (ci := 4) (v := .ref fl) (C := R_MA) (T := F_MA) (N := 18) hx hb hts i_MA hown hK hP 9 rfl rfl 12 (by decide) (hts _ kF_MA_31) (fun _ h9 => h9) rfl d_MA_leaveFunction_58 ?_
    refine lv_aload_n hx hb d_MA_leaveFunction_61 rfl (lv_at hl 0 rfl) ?_
    refine va_get (D := (dC, dI)) (ci := 4) (v := .int x1) (C := R_MA) (T := F_MA) (N := 18) hx hb hts i_MA hown hK hP 9 rfl rfl 13 (by decide) (hts _ kF_MA_80) (fun _ h9 => h9) rfl d_MA_leaveFunction_62 ?_
    have g65 : vp_in x1 100 := vp_in_iff.mpr ⟨by (first | (apply Int.le_antisymm <;> omega) | omega), by (first | (apply Int.le_antisymm <;> omega) | omega)⟩
    refine va_iald hx hb hK hP 3 4 rfl rfl g65 d_MA_leaveFunction_65 ?_
    refine lv_topi (fun x9 ex9 => ?_)
    rw [i32_natI (x := x1) (n := h0_frameCount.toInt - 1) (by (first | (apply Int.le_antisymm <;> omega) | omega))] at ex9
    have tx9 : 0 ≤ x9.toInt ∧ x9.toInt ≤ 10000 := by rw [ex9]; (first | (apply Int.le_antisymm <;> omega) | omega)
    refine va_put (D := (dC, dI)) (ci := 4) (v := .int x9) (ty := .int) (C := R_MA) (T := F_MA) (N := 18) hx hb hts i_MA t_MA t_MA_ok n_MA hown hK hP hD hS 9 rfl rfl 16 (by decide) (hts _ kF_MA_83) (fun _ h9 => h9) rfl (by decide +kernel) rfl rfl (Nat.le_of_ble_eq_true rfl) d_MA_leaveFunction_66 (fun H locs hP hD hS => ?_)
    refine lv_aload_n hx hb d_MA_leaveFunction_69 rfl (lv_at hl 0 rfl) ?_
    refine lv_aload_n hx hb d_MA_leaveFunction_70 rfl (lv_at hl 0 rfl) ?_
    refine va_get (D := (dC, dI)) (ci := 4) (v := .ref fb) (C := R_MA) (T := F_MA) (N := 18) hx hb hts i_MA hown hK hP 9 rfl rfl 9 (by decide) (hts _ kF_MA_21) (fun _ h9 => h9) rfl d_MA_leaveFunction_71 ?_
    refine lv_aload_n hx hb d_MA_leaveFunction_74 rfl (lv_at hl 0 rfl) ?_
    refine va_get (D := (dC, dI)) (ci := 4) (v := .int x1) (C := R_MA) (T := F_MA) (N := 18) hx hb hts i_MA hown hK hP 9 rfl rfl 13 (by decide) (hts _ kF_MA_80) (fun _ h9 => h9) rfl d_MA_leaveFunction_75 ?_
    have g78 : vp_in x1 100 := vp_in_iff.mpr ⟨by (first | (apply Int.le_antisymm <;> omega) | omega), by (first | (apply Int.le_antisymm <;> omega) | omega)⟩
    refine va_iald hx hb hK hP 0 1 rfl rfl g78 d_MA_leaveFunction_78 ?_
    refine lv_topi (fun x10 ex10 => ?_)
    rw [i32_natI (x := x1) (n := h0_frameCount.toInt - 1) (by (first | (apply Int.le_antisymm <;> omega) | omega))] at ex10
    refine va_put (D := (dC, dI)) (ci := 4) (v := .int x10) (ty := .int) (C := R_MA) (T := F_MA) (N := 18) hx hb hts i_MA t_MA t_MA_ok n_MA hown hK hP hD hS 9 rfl rfl 17 (by decide) (hts _ kF_MA_106) (fun _ h9 => h9) rfl (by decide +kernel) rfl rfl (Nat.le_of_ble_eq_true rfl) d_MA_leaveFunction_79 (fun H locs hP hD hS => ?_)
    have hP9 := hP.sb (wq := (wz_25 h0 h0_pages h0_steps n8 gl aw ac ce sk n7 fb fs ff fl x1 lb lh x9 x10 aw law sk csk n6 fb cfb gfb fs cfs gfs ff cff gff fl cfl gfl lb clb glb lh clh glh waf cwaf gwaf wag cwag gwag)) [9, 6, 10, 0, 1, 2, 3, 4, 5, 7, 8] rfl
    have hD9 := hD.sb (wq := (wz_25 h0 h0_pages h0_steps n8 gl aw ac ce sk n7 fb fs ff fl x1 lb lh x9 x10 aw law sk csk n6 fb cfb gfb fs cfs gfs ff cff gff fl cfl gfl lb clb glb lh clh glh waf cwaf gwaf wag cwag gwag)) [9, 6, 10, 0, 1, 2, 3, 4, 5, 7, 8] (by decide) rfl
    exact W.vret hx hb hr (fun t ht hW => ⟨⟨(n6, x10, x1, n7, x9, n8), rfl, ⟨by (try dsimp only); (first | (apply Int.le_antisymm <;> omega) | omega), bn7, by (try dsimp only); (first | (apply Int.le_antisymm <;> omega) | omega), bn8, mc_leave hT (by (first | (apply Int.le_antisymm <;> omega) | omega)) (by (try dsimp only); exact ex10) (fun z => by (try dsimp only at z); (try dsimp only); rw [← b26]; (first | (apply Int.le_antisymm <;> omega) | omega)) (by (try dsimp only); exact ex9)⟩, va_P.he ht.symm hP9, va_K.moved hW.alike hK, hD9⟩, hS.F ht⟩) hS.2.2 d_MA_leaveFunction_82
  · skip
    refine lv_icmp_eq (tgt := 52) hx hb d_MA_leaveFunction_45 (by decide) (fun c45 => ?_) (fun c45 => ?_)
    · have q45 := eqI c45
      refine lv_iconst (v := 0) hx hb d_MA_leaveFunction_52 (by decide) ?_
      exact jn53 0 _ _ _ ⟨Or.inl rfl, by (try dsimp only); split at g9 <;> (first | (apply Int.le_antisymm <;> omega) | omega), hP, hD, hS, lv_sub hl [0] rfl⟩
    · have q45 := neI c45
      refine lv_iconst (v := 1) hx hb d_MA_leaveFunction_48 (by decide) ?_
      refine lv_goto (tgt := 53) hx hb d_MA_leaveFunction_49 (by decide) ?_
      exact jn53 1 _ _ _ ⟨Or.inr rfl, by (try dsimp only); split at g9 <;> (first | (apply Int.le_antisymm <;> omega) | omega), hP, hD, hS, lv_sub hl [0] rfl⟩
abbrev b_MA_enter : ByteArray := prog_6_method_11_code
def y_MA_enter : MethodName := ⟨R_MA, "enter", "(I)V"⟩
abbrev w_MA_enter : List Cond := .code y_MA_enter b_MA_enter 4 none :: lw_g
theorem kC_MA_enter : Cond.code y_MA_enter b_MA_enter 4 none ∈ lw_g := in_c7 107 rfl rfl
theorem d_MA_enter_0 : decode b_MA_enter 0 = .ok (.aload_n 0, 1) := bz_c42 (by decide +kernel)
theorem d_MA_enter_1 : decode b_MA_enter 1 = .ok (.getfield 40, 3) := bz_c180 (by decide +kernel)
theorem d_MA_enter_4 : decode b_MA_enter 4 = .ok (.getfield 44, 3) := bz_c180 (by decide +kernel)
theorem d_MA_enter_7 : decode b_MA_enter 7 = .ok (.getfield 185, 3) := bz_c180 (by decide +kernel)
theorem d_MA_enter_10 : decode b_MA_enter 10 = .ok (.iload_n 1, 1) := bz_c27 (by decide +kernel)
theorem d_MA_enter_11 : decode b_MA_enter 11 = .ok (.iaload, 1) := bz_c46 (by decide +kernel)
theorem d_MA_enter_12 : decode b_MA_enter 12 = .ok (.istore_n 2, 1) := bz_c61 (by decide +kernel)
theorem d_MA_enter_13 : decode b_MA_enter 13 = .ok (.aload_n 0, 1) := bz_c42 (by decide +kernel)
theorem d_MA_enter_14 : decode b_MA_enter 14 = .ok (.getfield 80, 3) := bz_c180 (by decide +kernel)
theorem d_MA_enter_17 : decode b_MA_enter 17 = .ok (.bipush 100, 2) := bz_c16 (by decide +kernel)
theorem d_MA_enter_19 : decode b_MA_enter 19 = .ok (.if_icmp .ge 15, 3) := bz_c162 (by decide +kernel)
theorem d_MA_enter_22 : decode b_MA_enter 22 = .ok (.iload_n 2, 1) := bz_c28 (by decide +kernel)
theorem d_MA_enter_23 : decode b_MA_enter 23 = .ok (.sipush 12096, 3) := bz_c17 (by decide +kernel)
theorem d_MA_enter_26 : decode b_MA_enter 26 = .ok (.aload_n 0, 1) := bz_c42 (by decide +kernel)
theorem d_MA_enter_27 : decode b_MA_enter 27 = .ok (.getfield 77, 3) := bz_c180 (by decide +kernel)
theorem d_MA_enter_30 : decode b_MA_enter 30 = .ok (.isub, 1) := bz_c100 (by decide +kernel)
theorem d_MA_enter_31 : decode b_MA_enter 31 = .ok (.if_icmp .le 10, 3) := bz_c164 (by decide +kernel)
theorem d_MA_enter_34 : decode b_MA_enter 34 = .ok (.aload_n 0, 1) := bz_c42 (by decide +kernel)
theorem d_MA_enter_35 : decode b_MA_enter 35 = .ok (.bipush 13, 2) := bz_c16 (by decide +kernel)
theorem d_MA_enter_37 : decode b_MA_enter 37 = .ok (.putfield 71, 3) := bz_c181 (by decide +kernel)
theorem d_MA_enter_40 : decode b_MA_enter 40 = .ok (.return_, 1) := bz_c177 (by decide +kernel)
theorem d_MA_enter_41 : decode b_MA_enter 41 = .ok (.aload_n 0, 1) := bz_c42 (by decide +kernel)
theorem d_MA_enter_42 : decode b_MA_enter 42 = .ok (.getfield 21, 3) := bz_c180 (by decide +kernel)
theorem d_MA_enter_45 : decode b_MA_enter 45 = .ok (.aload_n 0, 1) := bz_c42 (by decide +kernel)
theorem d_MA_enter_46 : decode b_MA_enter 46 = .ok (.getfield 80, 3) := bz_c180 (by decide +kernel)
theorem d_MA_enter_49 : decode b_MA_enter 49 = .ok (.aload_n 0, 1) := bz_c42 (by decide +kernel)
theorem d_MA_enter_50 : decode b_MA_enter 50 = .ok (.getfield 106, 3) := bz_c180 (by decide +kernel)
theorem d_MA_enter_53 : decode b_MA_enter 53 = .ok (.iastore, 1) := bz_c79 (by decide +kernel)
theorem d_MA_enter_54 : decode b_MA_enter 54 = .ok (.aload_n 0, 1) := bz_c42 (by decide +kernel)
theorem d_MA_enter_55 : decode b_MA_enter 55 = .ok (.getfield 25, 3) := bz_c180 (by decide +kernel)
theorem d_MA_enter_58 : decode b_MA_enter 58 = .ok (.aload_n 0, 1) := bz_c42 (by decide +kernel)
theorem d_MA_enter_59 : decode b_MA_enter 59 = .ok (.getfield 80, 3) := bz_c180 (by decide +kernel)
theorem d_MA_enter_62 : decode b_MA_enter 62 = .ok (.aload_n 0, 1) := bz_c42 (by decide +kernel)
theorem d_MA_enter_63 : decode b_MA_enter 63 = .ok (.getfield 77, 3) := bz_c180 (by decide +kernel)
theorem d_MA_enter_66 : decode b_MA_enter 66 = .ok (.aload_n 0, 1) := bz_c42 (by decide +kernel)
theorem d_MA_enter_67 : decode b_MA_enter 67 = .ok (.getfield 40, 3) := bz_c180 (by decide +kernel)
theorem d_MA_enter_70 : decode b_MA_enter 70 = .ok (.iload_n 1, 1) := bz_c27 (by decide +kernel)
theorem d_MA_enter_71 : decode b_MA_enter 71 = .ok (.invokevirtual 86, 3) := bz_c182 (by decide +kernel)
theorem d_MA_enter_74 : decode b_MA_enter 74 = .ok (.isub, 1) := bz_c100 (by decide +kernel)
theorem d_MA_enter_75 : decode b_MA_enter 75 = .ok (.iastore, 1) := bz_c79 (by decide +kernel)
theorem d_MA_enter_76 : decode b_MA_enter 76 = .ok (.aload_n 0, 1) := bz_c42 (by decide +kernel)
theorem d_MA_enter_77 : decode b_MA_enter 77 = .ok (.getfield 28, 3) := bz_c180 (by decide +kernel)
theorem d_MA_enter_80 : decode b_MA_enter 80 = .ok (.aload_n 0, 1) := bz_c42 (by decide +kernel)
theorem d_MA_enter_81 : decode b_MA_enter 81 = .ok (.getfield 80, 3) := bz_c180 (by decide +kernel)
theorem d_MA_enter_84 : decode b_MA_enter 84 = .ok (.iload_n 1, 1) := bz_c27 (by decide +kernel)
theorem d_MA_enter_85 : decode b_MA_enter 85 = .ok (.iastore, 1) := bz_c79 (by decide +kernel)
theorem d_MA_enter_86 : decode b_MA_enter 86 = .ok (.aload_n 0, 1) := bz_c42 (by decide +kernel)
theorem d_MA_enter_87 : decode b_MA_enter 87 = .ok (.getfield 31, 3) := bz_c180 (by decide +kernel)
theorem d_MA_enter_90 : decode b_MA_enter 90 = .ok (.aload_n 0, 1) := bz_c42 (by decide +kernel)
theorem d_MA_enter_91 : decode b_MA_enter 91 = .ok (.getfield 80, 3) := bz_c180 (by decide +kernel)
theorem d_MA_enter_94 : decode b_MA_enter 94 = .ok (.aload_n 0, 1) := bz_c42 (by decide +kernel)
theorem d_MA_enter_95 : decode b_MA_enter 95 = .ok (.getfield 83, 3) := bz_c180 (by decide +kernel)
theorem d_MA_enter_98 : decode b_MA_enter 98 = .ok (.iastore, 1) := bz_c79 (by decide +kernel)
theorem d_MA_enter_99 : decode b_MA_enter 99 = .ok (.aload_n 0, 1) := bz_c42 (by decide +kernel)
theorem d_MA_enter_100 : decode b_MA_enter 100 = .ok (.dup, 1) := bz_c89 (by decide +kernel)
theorem d_MA_enter_101 : decode b_MA_enter 101 = .ok (.getfield 80, 3) := bz_c180 (by decide +kernel)
theorem d_MA_enter_104 : decode b_MA_enter 104 = .ok (.iconst 1, 1) := bz_c4 (by decide +kernel)
theorem d_MA_enter_105 : decode b_MA_enter 105 = .ok (.iadd, 1) := bz_c96 (by decide +kernel)
theorem d_MA_enter_106 : decode b_MA_enter 106 = .ok (.putfield 80, 3) := bz_c181 (by decide +kernel)
theorem d_MA_enter_109 : decode b_MA_enter 109 = .ok (.iconst 0, 1) := bz_c3 (by decide +kernel)
theorem d_MA_enter_110 : decode b_MA_enter 110 = .ok (.istore_n 3, 1) := bz_c62 (by decide +kernel)
theorem d_MA_enter_111 : decode b_MA_enter 111 = .ok (.iload_n 3, 1) := bz_c29 (by decide +kernel)
theorem d_MA_enter_112 : decode b_MA_enter 112 = .ok (.iload_n 2, 1) := bz_c28 (by decide +kernel)
theorem d_MA_enter_113 : decode b_MA_enter 113 = .ok (.if_icmp .ge 14, 3) := bz_c162 (by decide +kernel)
theorem d_MA_enter_116 : decode b_MA_enter 116 = .ok (.aload_n 0, 1) := bz_c42 (by decide +kernel)
theorem d_MA_enter_117 : decode b_MA_enter 117 = .ok (.lconst 0, 1) := bz_c9 (by decide +kernel)
theorem d_MA_enter_118 : decode b_MA_enter 118 = .ok (.invokevirtual 94, 3) := bz_c182 (by decide +kernel)
theorem d_MA_enter_121 : decode b_MA_enter 121 = .ok (.iinc 3 1, 3) := by decide +kernel
theorem d_MA_enter_124 : decode b_MA_enter 124 = .ok (.goto (-13), 3) := bz_c167 (by decide +kernel)
theorem d_MA_enter_127 : decode b_MA_enter 127 = .ok (.aload_n 0, 1) := bz_c42 (by decide +kernel)
theorem d_MA_enter_128 : decode b_MA_enter 128 = .ok (.aload_n 0, 1) := bz_c42 (by decide +kernel)
theorem d_MA_enter_129 : decode b_MA_enter 129 = .ok (.getfield 50, 3) := bz_c180 (by decide +kernel)
theorem d_MA_enter_132 : decode b_MA_enter 132 = .ok (.getfield 188, 3) := bz_c180 (by decide +kernel)
theorem d_MA_enter_135 : decode b_MA_enter 135 = .ok (.iload_n 1, 1) := bz_c27 (by decide +kernel)
theorem d_MA_enter_136 : decode b_MA_enter 136 = .ok (.iaload, 1) := bz_c46 (by decide +kernel)
theorem d_MA_enter_137 : decode b_MA_enter 137 = .ok (.putfield 106, 3) := bz_c181 (by decide +kernel)
theorem d_MA_enter_140 : decode b_MA_enter 140 = .ok (.return_, 1) := bz_c177 (by decide +kernel)
theorem kM_MA_86 : Cond.methodLink R_MA 86 y_WA_takes ∈ lw_g := in_c7 98 rfl rfl
theorem kV_WA_takes : Cond.instanceMethod y_WA_takes ∈ lw_g := in_c7 17 rfl rfl
theorem kS_WA_takes : Cond.selects R_WA y_WA_takes y_WA_takes ∈ lw_g := in_c7 18 rfl rfl
theorem kF_MA_44 : Cond.fieldLink R_MA 44 "WaferForge$Wafer" "codes" "LWaferForge$Codes;" ∈ lw_g := in_c1 147 rfl rfl
theorem kF_MA_185 : Cond.fieldLink R_MA 185 "WaferForge$Codes" "localCounts" "[I" ∈ lw_g := in_c1 90 rfl rfl
theorem kF_MA_50 : Cond.fieldLink R_MA 50 "WaferForge$Machine" "codes" "LWaferForge$Codes;" ∈ lw_g := in_c3 66 rfl rfl
theorem kF_MA_188 : Cond.fieldLink R_MA 188 "WaferForge$Codes" "firsts" "[I" ∈ lw_g := in_c1 86 rfl rfl
abbrev at_MA_enter (dC : Nat → ClassId) (dI : Nat → Nat → Nat) (h0 gl aw ac ce sk fb fs ff fl lb lh wat waf cfi clk ac_localTypes_r cop cva cpt cel cla : Nat) (csk cfb cfs cff cfl cwaf cwat ccfi cclk : ClassId) (h0_pages : Int32) (h0_steps : Int32) (h0_labelCount : Int32) (law : List Value) (ac_length : Int32) (ac_labelCount : Int32) (gwaf : Nat → Int32) (gwat : Nat → Int32) (gcfi : Nat → Int32) (gclk : Nat → Int32) (A : Nat → Prop) (u : (Nat → Int32) × (Nat → Int32) × (Nat → Int32) × (Nat → Int32) × (Nat → Int64) × Int32 × Int32 × Int32 × Int32) (t : State) : Prop := match u with | (gfb, gff, gfl, gfs, gsk, h0_at, h0_frameCount, h0_height, h0_reason) => va_P (dC, dI) cls (wz_27 h0 h0_pages h0_steps h0_reason gl aw ac ce sk h0_height fb fs ff fl h0_frameCount lb lh h0_labelCount h0_at aw law ac cfi clk ac_localTypes_r ac_length cop cva cpt cel ac_labelCount cla sk csk gsk fb cfb gfb fs cfs gfs ff cff gff fl cfl gfl waf cwaf gwaf wat cwat gwat cfi ccfi gcfi clk cclk gclk) t.heap ∧ va_K (dC, dI) cls [(csk, .long), (cfb, .int), (cfs, .int), (cff, .int), (cfl, .int), (cwaf, .int), (cwat, .int), (ccfi, .int), (cclk, .int)] t ∧ va_D A (wz_27 h0 h0_pages h0_steps h0_reason gl aw ac ce sk h0_height fb fs ff fl h0_frameCount lb lh h0_labelCount h0_at aw law ac cfi clk ac_localTypes_r ac_length cop cva cpt cel ac_labelCount cla sk csk gsk fb cfb gfb fs cfs gfs ff cff gff fl cfl gfl waf cwaf gwaf wat cwat gwat cfi ccfi gcfi clk cclk gclk)
set_option maxHeartbeats 4000000 in
set_option maxRecDepth 100000 in
theorem c_MA_enter (l : Launch) (dC : Nat → ClassId) (dI : Nat → Nat → Nat) (sz : Nat) (h0 gl aw ac ce sk fb fs ff fl lb lh wat waf cfi clk ac_localTypes_r cop cva cpt cel cla : Nat) (csk cfb cfs cff cfl cwaf cwat ccfi cclk : ClassId) (h0_pages : Int32) (h0_steps : Int32) (h0_reason : Int32) (h0_height : Int32) (h0_frameCount : Int32) (h0_labelCount : Int32) (h0_at : Int32) (law : List Value) (ac_length : Int32) (ac_labelCount : Int32) (gsk : Nat → Int64) (gfb : Nat → Int32) (gfs : Nat → Int32) (gff : Nat → Int32) (gfl : Nat → Int32) (gwaf : Nat → Int32) (gwat : Nat → Int32) (gcfi : Nat → Int32) (gclk : Nat → Int32) (fc : Int) (nl : Nat → Int) (paw_1 : law[1]? = some (.ref ac)) (paw_3 : law[3]? = some (.ref wat)) (paw_7 : law[7]? = some (.ref waf)) (plaw : law.length = 21) (b_h0_reason : 0 ≤ h0_reason.toInt ∧ h0_reason.toInt ≤ 14) (b_h0_height : 0 ≤ h0_height.toInt ∧ h0_height.toInt ≤ 12096) (b_h0_frameCount : 0 ≤ h0_frameCount.toInt ∧ h0_frameCount.toInt ≤ 100) (b_h0_labelCount : 0 ≤ h0_labelCount.toInt ∧ h0_labelCount.toInt ≤ 10000) (p0 : Int32)  (hr0 : h0_reason.toInt = 0) (hp : 0 ≤ p0.toInt ∧ p0.toInt < fc) (hfn : ∀ f : Nat, (f : Int) < fc → f < 30 ∧ 0 ≤ (gwaf f).toInt ∧ (gwaf f).toInt < 20) (hnl : ∀ f : Nat, (f : Int) < fc → nl f = (gwat (gwaf f).toNatClampNeg).toInt + (gclk f).toInt ∧ 0 ≤ (gwat (gwaf f).toNatClampNeg).toInt ∧ (gwat (gwaf f).toNatClampNeg).toInt ≤ 8 ∧ 0 ≤ (gclk f).toInt ∧ (gclk f).toInt ≤ 60) : Met l y_MA_enter w_MA_enter ({ frames := 1, cells := 0, slots := 0, locals := 22 }) (va_Pc [.ref h0, .int p0] (fun U => U.heap.size = sz ∧ va_P (dC, dI) cls (wz_27 h0 h0_pages h0_steps h0_reason gl aw ac ce sk h0_height fb fs ff fl h0_frameCount lb lh h0_labelCount h0_at aw law ac cfi clk ac_localTypes_r ac_length cop cva cpt cel ac_labelCount cla sk csk gsk fb cfb gfb fs cfs gfs ff cff gff fl cfl gfl waf cwaf gwaf wat cwat gwat cfi ccfi gcfi clk cclk gclk) U.heap ∧ va_K (dC, dI) cls [(csk, .long), (cfb, .int), (cfs, .int), (cff, .int), (cfl, .int), (cwaf, .int), (cwat, .int), (ccfi, .int), (cclk, .int)] U ∧ va_D (fun _ => True) (wz_27 h0 h0_pages h0_steps h0_reason gl aw ac ce sk h0_height fb fs ff fl h0_frameCount lb lh h0_labelCount h0_at aw law ac cfi clk ac_localTypes_r ac_length cop cva cpt cel ac_labelCount cla sk csk gsk fb cfb gfb fs cfs gfs ff cff gff fl cfl gfl waf cwaf gwaf wat cwat gwat cfi ccfi gcfi clk cclk gclk))) (va_Qv (fun (u : (Nat → Int32) × (Nat → Int32) × (Nat → Int32) × (Nat → Int32) × (Nat → Int64) × Int32 × Int32 × Int32 × Int32) => match u with | (gfb2, gff2, gfl2, gfs2, gsk2, h0_at2, h0_frameCount2, h0_height2, h0_reason2) => (0 ≤ h0_frameCount2.toInt ∧ h0_frameCount2.toInt ≤ 100) ∧ (0 ≤ h0_height2.toInt ∧ h0_height2.toInt ≤ 12096) ∧ (0 ≤ h0_reason2.toInt ∧ h0_reason2.toInt ≤ 14) ∧ (h0_reason2.toInt = 0 → h0_frameCount2.toInt = h0_frameCount.toInt + 1 ∧ h0_height2.toInt = h0_height.toInt + (gclk p0.toNatClampNeg).toInt ∧ h0_at2 = gcfi p0.toNatClampNeg ∧ gfb2 = upd gfb h0_frameCount.toNatClampNeg h0_at ∧ gff2 = upd gff h0_frameCount.toNatClampNeg p0 ∧ gfl2 = upd gfl h0_frameCount.toNatClampNeg h0_labelCount ∧ ∃ v : Int32, v.toInt = h0_height.toInt - (gwat (gwaf p0.toNatClampNeg).toNatClampNeg).toInt ∧ gfs2 = upd gfs h0_frameCount.toNatClampNeg v)) (at_MA_enter dC dI h0 gl aw ac ce sk fb fs ff fl lb lh wat waf cfi clk ac_localTypes_r cop cva cpt cel cla csk cfb cfs cff cfl cwaf cwat ccfi cclk h0_pages h0_steps h0_labelCount law ac_length ac_labelCount gwaf gwat gcfi gclk (va_A (wz_27 h0 h0_pages h0_steps h0_reason gl aw ac ce sk h0_height fb fs ff fl h0_frameCount lb lh h0_labelCount h0_at aw law ac cfi clk ac_localTypes_r ac_length cop cva cpt cel ac_labelCount cla sk csk gsk fb cfb gfb fs cfs gfs ff cff gff fl cfl gfl waf cwaf gwaf wat cwat gwat cfi ccfi gcfi clk cclk gclk) sz)) (va_A (wz_27 h0 h0_pages h0_steps h0_reason gl aw ac ce sk h0_height fb fs ff fl h0_frameCount lb lh h0_labelCount h0_at aw law ac cfi clk ac_localTypes_r ac_length cop cva cpt cel ac_labelCount cla sk csk gsk fb cfb gfb fs cfs gfs ff cff gff fl cfl gfl waf cwaf gwaf wat cwat gwat cfi ccfi gcfi clk cclk gclk) sz)) 0 0 (va_A (wz_27 h0 h0_pages h0_steps h0_reason gl aw ac ce sk h0_height fb fs ff fl h0_frameCount lb lh h0_labelCount h0_at aw law ac cfi clk ac_localTypes_r ac_length cop cva cpt cel ac_labelCount cla sk csk gsk fb cfb gfb fs cfs gfs ff cff gff fl cfl gfl waf cwaf gwaf wat cwat gwat cfi ccfi gcfi clk cclk gclk) sz) := by
  refine Met.ofW (cc := b_MA_enter) (maxL := 4) (ret := none) (by decide) rfl ?_
  intro p e s m args below meth c s₁ B hml hv
  obtain ⟨rfl, hsz, hP, hK, hD0⟩ := hv
  have hx := B.exec
  have hb := B.bytes
  have hr := B.returns
  have hts0 := atoms_spec (ws := w_MA_enter) B.pre
  have hts : ∀ w ∈ lw_g, w.before _ s = true := fun w h => hts0 w (List.mem_cons_of_mem _ h)
  have hown : s.vm.findClass R_MA = some m.cls := findClass_of_methodNamed B.named
  have hlocks := B.notSynchronized
  clear hts0
  subst hsz
  have hD := hD0.self (sz := s.heap.size)
  generalize hAe : va_A (wz_27 h0 h0_pages h0_steps h0_reason gl aw ac ce sk h0_height fb fs ff fl h0_frameCount lb lh h0_labelCount h0_at aw law ac cfi clk ac_localTypes_r ac_length cop cva cpt cel ac_labelCount cla sk csk gsk fb cfb gfb fs cfs gfs ff cff gff fl cfl gfl waf cwaf gwaf wat cwat gwat cfi ccfi gcfi clk cclk gclk) s.heap.size = A at hD ⊢
  have hA : ∀ q : Nat, s.heap.size ≤ q → A q := fun q h => by rw [← hAe]; exact Or.inr h
  clear hAe
  have hP : va_P (dC, dI) cls (wz_27 h0 h0_pages h0_steps h0_reason gl aw ac ce sk h0_height fb fs ff fl h0_frameCount lb lh h0_labelCount h0_at aw law ac cfi clk ac_localTypes_r ac_length cop cva cpt cel ac_labelCount cla sk csk gsk fb cfb gfb fs cfs gfs ff cff gff fl cfl gfl waf cwaf gwaf wat cwat gwat cfi ccfi gcfi clk cclk gclk) s.heap := hP
  have hl := lv_entry ([.ref h0, .int p0]) (n := 4) (Nat.le_of_ble_eq_true rfl)
  rw [lg_entry_eq]
  generalize (lg_sl ([.ref h0, .int p0]) ++ List.replicate (4 - (lg_sl ([.ref h0, .int p0])).length) Slot.unset).toArray = ls at hl ⊢
  have hl : lv_has ls 4 [(0, .ref h0), (1, .int p0)] := hl
  have k0 : (0 : Int32).toInt = 0 := by decide
  refine w_gen (A := A) hP (fun H locs hP hS => ?_)
  have k1 : (1 : Int32).toInt = 1 := by decide
  have k13 : (13 : Int32).toInt = 13 := by decide
  have k100 : (100 : Int32).toInt = 100 := by decide
  have k12096 : (12096 : Int32).toInt = 12096 := by decide
  have lo_p0 := i32_lo p0
  have hi_p0 := i32_hi p0
  have hc9 := i32_clamp (x := p0) (by (first | (apply Int.le_antisymm <;> omega) | omega))
  have hfn9 := hfn p0.toNatClampNeg (by (first | (apply Int.le_antisymm <;> omega) | omega))
  obtain ⟨n1, n2, n3, n4, n5⟩ := hnl p0.toNatClampNeg (by (first | (apply Int.le_antisymm <;> omega) | omega))
  refine lv_aload_n hx hb d_MA_enter_0 rfl (lv_at hl 0 rfl) ?_
  refine va_get (D := (dC, dI)) (ci := 4) (v := .ref aw) (C := R_MA) (T := F_MA) (N := 18) hx hb hts i_MA hown hK hP 0 rfl rfl 4 (by decide) (hts _ kF_MA_40) (fun _ h9 => h9) rfl d_MA_enter_1 ?_
  refine va_get (D := (dC, dI)) (ci := 10) (v := .ref ac) (C := R_WA) (T := F_WA) (N := 21) hx hb hts i_WA hown hK hP 1 rfl rfl 1 (by decide) (hts _ kF_MA_44) (fun _ h9 => h9) paw_1 d_MA_enter_4 ?_
  refine va_get (D := (dC, dI)) (ci := 3) (v := .ref clk) (C := R_CD) (T := F_CD) (N := 10) hx hb hts i_CD hown hK hP 2 rfl rfl 1 (by decide) (hts _ kF_MA_185) (fun _ h9 => h9) rfl d_MA_enter_7 ?_
  refine lv_iload_n hx hb d_MA_enter_10 rfl (lv_at hl 1 rfl) ?_
  have g11 : vp_in p0 30 := vp_in_iff.mpr ⟨by (first | (apply Int.le_antisymm <;> omega) | omega), by (first | (apply Int.le_antisymm <;> omega) | omega)⟩
  refine va_iald hx hb hK hP 11 8 rfl rfl g11 d_MA_enter_11 ?_
  refine lv_topi (fun x1 ex1 => ?_)
  have tx1 : 0 ≤ x1.toInt ∧ x1.toInt ≤ 60 := by rw [ex1]; exact ⟨n4, n5⟩
  have b11 := ex1
  obtain ⟨lc, elc⟩ : ∃ z, z = x1 := ⟨_, rfl⟩
  refine lv_istore_n (lv' := [(2, .int x1), (0, .ref h0), (1, .int p0)]) hx hb d_MA_enter_12 rfl hl (by decide) rfl (fun ls hl => ?_)
  refine lv_aload_n hx hb d_MA_enter_13 rfl (lv_at hl 1 rfl) ?_
  refine va_get (D := (dC, dI)) (ci := 4) (v := .int h0_frameCount) (C := R_MA) (T := F_MA) (N := 18) hx hb hts i_MA hown hK hP 0 rfl rfl 13 (by decide) (hts _ kF_MA_80) (fun _ h9 => h9) rfl d_MA_enter_14 ?_
  refine lv_bipush (v := 100) hx hb d_MA_enter_17 (by decide) ?_
  refine w_cut (pc2 := 34) (σ := Unit) (fun u H locs ls => match u with | _ => va_P (dC, dI) cls (wz_27 h0 h0_pages h0_steps h0_reason gl aw ac ce sk h0_height fb fs ff fl h0_frameCount lb lh h0_labelCount h0_at aw law ac cfi clk ac_localTypes_r ac_length cop cva cpt cel ac_labelCount cla sk csk gsk fb cfb gfb fs cfs gfs ff cff gff fl cfl gfl waf cwaf gwaf wat cwat gwat cfi ccfi gcfi clk cclk gclk) H ∧ va_D A (wz_27 h0 h0_pages h0_steps h0_reason gl aw ac ce sk h0_height fb fs ff fl h0_frameCount lb lh h0_labelCount h0_at aw law ac cfi clk ac_localTypes_r ac_length cop cva cpt cel ac_labelCount cla sk csk gsk fb cfb gfb fs cfs gfs ff cff gff fl cfl gfl waf cwaf gwaf wat cwat gwat cfi ccfi gcfi clk cclk gclk) ∧ va_S A s.heap H locs ∧ lv_has ls 4 [(0, .ref h0)]) (fun u => match u with | _ => []) ?_ (fun jn34 => ?_)
  · intro u H locs ls hI
    obtain ⟨hP, hD, hS, hl⟩ := hI
    refine lv_aload_n hx hb d_MA_enter_34 rfl (lv_at hl 0 rfl) ?_
    refine lv_bipush (v := 13) hx hb d_MA_enter_35 (by decide) ?_
    refine va_put (D := (dC, dI)) (ci := 4) (v := .int 13) (ty := .int) (C := R_MA) (T := F_MA) (N := 18) hx hb hts i_MA t_MA t_MA_ok n_MA hown hK hP hD hS 0 rfl rfl 2 (by decide) (hts _ kF_MA_71) (fun _ h9 => h9) rfl (by decide +kernel) rfl rfl (Nat.le_of_ble_eq_true rfl) d_MA_enter_37 (fun H locs hP hD hS => ?_)
    have hP9 := hP.sb (wq := (wz_27 h0 h0_pages h0_steps 13 gl aw ac ce sk h0_height fb fs ff fl h0_frameCount lb lh h0_labelCount h0_at aw law ac cfi clk ac_localTypes_r ac_length cop cva cpt cel ac_labelCount cla sk csk gsk fb cfb gfb fs cfs gfs ff cff gff fl cfl gfl waf cwaf gwaf wat cwat gwat cfi ccfi gcfi clk cclk gclk)) [0, 1, 2, 3, 4, 5, 6, 7, 8, 9, 10, 11] rfl
    have hD9 := hD.sb (wq := (wz_27 h0 h0_pages h0_steps 13 gl aw ac ce sk h0_height fb fs ff fl h0_frameCount lb lh h0_labelCount h0_at aw law ac cfi clk ac_localTypes_r ac_length cop cva cpt cel ac_labelCount cla sk csk gsk fb cfb gfb fs cfs gfs ff cff gff fl cfl gfl waf cwaf gwaf wat cwat gwat cfi ccfi gcfi clk cclk gclk)) [0, 1, 2, 3, 4, 5, 6, 7, 8, 9, 10, 11] (by decide) rfl
    exact W.vret hx hb hr (fun t ht hW => ⟨⟨(gfb, gff, gfl, gfs, gsk, h0_at, h0_frameCount, h0_height, 13), rfl, ⟨b_h0_frameCount, b_h0_height, by (try dsimp only); (first | (apply Int.le_antisymm <;> omega) | omega), fun z => absurd z (by (try dsimp only); decide)⟩, va_P.he ht.symm hP9, va_K.moved hW.alike hK, hD9⟩, hS.F ht⟩) hS.2.2 d_MA_enter_40
  · skip
    refine lv_icmp_ge (tgt := 34) hx hb d_MA_enter_19 (by decide) (fun c19 => ?_) (fun c19 => ?_)
    · have q19 := leI c19
      exact jn34 () _ _ _ ⟨hP, hD, hS, lv_sub hl [1] rfl⟩
    · have q19 := nleI c19
      refine lv_iload_n hx hb d_MA_enter_22 rfl (lv_at hl 0 rfl) ?_
      refine lv_sipush (v := 12096) hx hb d_MA_enter_23 (by decide) ?_
      refine lv_aload_n hx hb d_MA_enter_26 rfl (lv_at hl 1 rfl) ?_
      refine va_get (D := (dC, dI)) (ci := 4) (v := .int h0_height) (C := R_MA) (T := F_MA) (N := 18) hx hb hts i_MA hown hK hP 0 rfl rfl 8 (by decide) (hts _ kF_MA_77) (fun _ h9 => h9) rfl d_MA_enter_27 ?_
      refine lv_isub hx hb d_MA_enter_30 ?_
      refine lv_topi (fun x2 ex2 => ?_)
      have tx2 : x2.toInt = 12096 - h0_height.toInt := by have z := i32_sub ex2 (by (first | (apply Int.le_antisymm <;> omega) | omega)) (by (first | (apply Int.le_antisymm <;> omega) | omega)); first | exact z | (first | (apply Int.le_antisymm <;> omega) | omega)
      refine lv_icmp_le (tgt := 41) hx hb d_MA_enter_31 (by decide) (fun c31 => ?_) (fun c31 => ?_)
      · have q31 := leI c31
        refine lv_aload_n hx hb d_MA_enter_41 rfl (lv_at hl 1 rfl) ?_
        refine va_get (D := (dC, dI)) (ci := 4) (v := .ref fb) (C := R_MA) (T := F_MA) (N := 18) hx hb hts i_MA hown hK hP 0 rfl rfl 9 (by decide) (hts _ kF_MA_21) (fun _ h9 => h9) rfl d_MA_enter_42 ?_
        refine lv_aload_n hx hb d_MA_enter_45 rfl (lv_at hl 1 rfl) ?_
        refine va_get (D := (dC, dI)) (ci := 4) (v := .int h0_frameCount) (C := R_MA) (T := F_MA) (N := 18) hx hb hts i_MA hown hK hP 0 rfl rfl 13 (by decide) (hts _ kF_MA_80) (fun _ h9 => h9) rfl d_MA_enter_46 ?_
        refine lv_aload_n hx hb d_MA_enter_49 rfl (lv_at hl 1 rfl) ?_
        refine va_get (D := (dC, dI)) (ci := 4) (v := .int h0_at) (C := R_MA) (T := F_MA) (N := 18) hx hb hts i_MA hown hK hP 0 rfl rfl 17 (by decide) (hts _ kF_MA_106) (fun _ h9 => h9) rfl d_MA_enter_50 ?_
        have g53 : vp_in h0_frameCount 100 := vp_in_iff.mpr ⟨by (first | (apply Int.le_antisymm <;> omega) | omega), by (first | (apply Int.le_antisymm <;> omega) | omega)⟩
        refine va_iast hx hb hK hP hD hS 4 1 rfl rfl g53 d_MA_enter_53 (fun H locs hP hD hS => ?_)
        generalize ef3 : upd gfb h0_frameCount.toNatClampNeg h0_at = f3 at hP hD
        refine lv_aload_n hx hb d_MA_enter_54 rfl (lv_at hl 1 rfl) ?_
        refine va_get (D := (dC, dI)) (ci := 4) (v := .ref fs) (C := R_MA) (T := F_MA) (N := 18) hx hb hts i_MA hown hK hP 0 rfl rfl 10 (by decide) (hts _ kF_MA_25) (fun _ h9 => h9) rfl d_MA_enter_55 ?_
        refine lv_aload_n hx hb d_MA_enter_58 rfl (lv_at hl 1 rfl) ?_
        refine va_get (D := (dC, dI)) (ci := 4) (v := .int h0_frameCount) (C := R_MA) (T := F_MA) (N := 18) hx hb hts i_MA hown hK hP 0 rfl rfl 13 (by decide) (hts _ kF_MA_80) (fun _ h9 => h9) rfl d_MA_enter_59 ?_
        refine lv_aload_n hx hb d_MA_enter_62 rfl (lv_at hl 1 rfl) ?_
        refine va_get (D := (dC, dI)) (ci := 4) (v := .int h0_height) (C := R_MA) (T := F_MA) (N := 18) hx hb hts i_MA hown hK hP 0 rfl rfl 8 (by decide) (hts _ kF_MA_77) (fun _ h9 => h9) rfl d_MA_enter_63 ?_
        refine lv_aload_n hx hb d_MA_enter_66 rfl (lv_at hl 1 rfl) ?_
        refine va_get (D := (dC, dI)) (ci := 4) (v := .ref aw) (C := R_MA) (T := F_MA) (N := 18) hx hb hts i_MA hown hK hP 0 rfl rfl 4 (by decide) (hts _ kF_MA_40) (fun _ h9 => h9) rfl d_MA_enter_67 ?_
        refine lv_iload_n hx hb d_MA_enter_70 rfl (lv_at hl 2 rfl) ?_
        have hPc := hP.sb (wq := (wz_16 aw law waf cwaf gwaf wat cwat gwat)) [1, 8, 9] rfl
        have hDc := hD.sb (wq := (wz_16 aw law waf cwaf gwaf wat cwat gwat)) [1, 8, 9] (by decide) rfl
        have hKc := hK.sb (tyq := [(cwaf, .int), (cwat, .int)]) [5, 6] rfl
        have hFc := va_free (wc := (wz_16 aw law waf cwaf gwaf wat cwat gwat)) hD hS hA [1, 8, 9] rfl
        refine va_calli (va_runV (As := [.int p0]) (rest := [.int h0_height, .int h0_frameCount, .ref fs]) ⟨hx, hb, hml, hown, hts⟩ (c_WA_takes l dC dI aw waf wat H.size cwaf cwat gwaf gwat law paw_7 paw_3 plaw p0 (by (first | (apply Int.le_antisymm <;> omega) | omega)) (by (first | (apply Int.le_antisymm <;> omega) | omega))) (cwV 1 hts (gV kM_MA_86 kV_WA_takes kS_WA_takes kI_WA kC_WA_takes) rfl rfl rfl (by decide +kernel) ⟨Nat.le_of_ble_eq_true rfl, Nat.le_of_ble_eq_true rfl⟩) ⟨fun a U g mk z => by obtain ⟨z0, z1, zP, zK, zD⟩ := z; exact ⟨z0, z1, zP, va_K.moved (u := U) (U := U.calling g mk a) (Vm.Alike.refl U.vm) zK, zD⟩, va_recv hKc hPc (ci := 10) (q0 := 0) rfl rfl, fun U hU hW => ⟨rfl, by rw [hU], va_P.he hU.symm hPc, va_K.moved hW.alike hKc, hDc.weaken (fun _ _ _ _ => trivial)⟩⟩ rfl rfl hl.1 rfl (lv_room (Nat.le_of_ble_eq_true rfl)) d_MA_enter_71 ⟨(Nat.zero_le _), (Nat.zero_le _)⟩) hS (fun q _ h => hFc q h) hFc (fun r4 u t H1 locs ht hvm hw hB hz1 hk1 hS => ?_)
        try dsimp only at hw
        have er4 := hw
        try clear hw
        have tr4 : 0 ≤ r4.toInt ∧ r4.toInt ≤ 8 := by rw [er4]; exact ⟨n2, n3⟩
        have b71 := er4
        obtain ⟨hP1, hK1, hD1⟩ := hB
        replace hP1 := va_P.he ht hP1
        obtain ⟨hP, hD⟩ := va_join (wr := [(h0, .inr (4, [.int h0_pages, .int h0_steps, .int h0_reason, .ref gl, .ref aw, .ref ac, .ref ce, .ref sk, .int h0_height, .ref fb, .ref fs, .ref ff, .ref fl, .int h0_frameCount, .ref lb, .ref lh, .int h0_labelCount, .int h0_at])), (ac, .inr (3, [.ref cfi, .ref clk, .ref ac_localTypes_r, .int ac_length, .ref cop, .ref cva, .ref cpt, .ref cel, .int ac_labelCount, .ref cla])), (sk, .inl (csk, 12096, .inr (.inl gsk))), (fb, .inl (cfb, 100, .inl f3)), (fs, .inl (cfs, 100, .inl gfs)), (ff, .inl (cff, 100, .inl gff)), (fl, .inl (cfl, 100, .inl gfl)), (cfi, .inl (ccfi, 31, .inl gcfi)), (clk, .inl (cclk, 30, .inl gclk))]) (w1 := (wz_16 aw law waf cwaf gwaf wat cwat gwat)) hP hD [1, 8, 9] [0, 2, 3, 4, 5, 6, 7, 10, 11] rfl rfl (by decide) (by decide) hk1 hFc hP1 hD1
        clear hPc hDc hKc hFc hz1 hk1 hP1 hK1 hD1
        rename Heap => H
        have hP : va_P (dC, dI) cls (wz_28 h0 h0_pages h0_steps h0_reason gl aw ac ce sk h0_height fb fs ff fl h0_frameCount lb lh h0_labelCount h0_at ac cfi clk ac_localTypes_r ac_length cop cva cpt cel ac_labelCount cla sk csk gsk fb cfb f3 fs cfs gfs ff cff gff fl cfl gfl cfi ccfi gcfi clk cclk gclk aw law waf cwaf gwaf wat cwat gwat) H := hP
        have hD : va_D A (wz_28 h0 h0_pages h0_steps h0_reason gl aw ac ce sk h0_height fb fs ff fl h0_frameCount lb lh h0_labelCount h0_at ac cfi clk ac_localTypes_r ac_length cop cva cpt cel ac_labelCount cla sk csk gsk fb cfb f3 fs cfs gfs ff cff gff fl cfl gfl cfi ccfi gcfi clk cclk gclk aw law waf cwaf gwaf wat cwat gwat) := hD
        refine lv_isub hx hb d_MA_enter_74 ?_
        refine lv_topi (fun x5 ex5 => ?_)
        have tx5 : x5.toInt = h0_height.toInt - r4.toInt := by have z := i32_sub ex5 (by (first | (apply Int.le_antisymm <;> omega) | omega)) (by (first | (apply Int.le_antisymm <;> omega) | omega)); first | exact z | (first | (apply Int.le_antisymm <;> omega) | omega)
        have g75 : vp_in h0_frameCount 100 := vp_in_iff.mpr ⟨by (first | (apply Int.le_antisymm <;> omega) | omega), by (first | (apply Int.le_antisymm <;> omega) | omega)⟩
        refine va_iast hx hb hK hP hD hS 4 2 rfl rfl g75 d_MA_enter_75 (fun H locs hP hD hS => ?_)
        generalize ef6 : upd gfs h0_frameCount.toNatClampNeg x5 = f6 at hP hD
        refine lv_aload_n hx hb d_MA_enter_76 rfl (lv_at hl 1 rfl) ?_
        refine va_get (D := (dC, dI)) (ci := 4) (v := .ref ff) (C := R_MA) (T := F_MA) (N := 18) hx hb hts i_MA hown hK hP 0 rfl rfl 11 (by decide) (hts _ kF_MA_28) (fun _ h9 => h9) rfl d_MA_enter_77 ?_
        refine lv_aload_n hx hb d_MA_enter_80 rfl (lv_at hl 1 rfl) ?_
        refine va_get (D := (dC, dI)) (ci := 4) (v := .int h0_frameCount) (C := R_MA) (T := F_MA) (N := 18) hx hb hts i_MA hown hK hP 0 rfl rfl 13 (by decide) (hts _ kF_MA_80) (fun _ h9 => h9) rfl d_MA_enter_81 ?_
        refine lv_iload_n hx hb d_MA_enter_84 rfl (lv_at hl 2 rfl) ?_
        have g85 : vp_in h0_frameCount 100 := vp_in_iff.mpr ⟨by (first | (apply Int.le_antisymm <;> omega) | omega), by (first | (apply Int.le_antisymm <;> omega) | omega)⟩
        refine va_iast hx hb hK hP hD hS 5 3 rfl rfl g85 d_MA_enter_85 (fun H locs hP hD hS => ?_)
        generalize ef7 : upd gff h0_frameCount.toNatClampNeg p0 = f7 at hP hD
        refine lv_aload_n hx hb d_MA_enter_86 rfl (lv_at hl 1 rfl) ?_
        refine va_get (D := (dC, dI)) (ci := 4) (v := .ref fl) (C := R_MA) (T := F_MA) (N := 18) hx hb hts i_MA hown hK hP 0 rfl rfl 12 (by decide) (hts _ kF_MA_31) (fun _ h9 => h9) rfl d_MA_enter_87 ?_
        refine lv_aload_n hx hb d_MA_enter_90 rfl (lv_at hl 1 rfl) ?_
        refine va_get (D := (dC, dI)) (ci := 4) (v := .int h0_frameCount) (C := R_MA) (T := F_MA) (N := 18) hx hb hts i_MA hown hK hP 0 rfl rfl 13 (by decide) (hts _ kF_MA_80) (fun _ h9 => h9) rfl d_MA_enter_91 ?_
        refine lv_aload_n hx hb d_MA_enter_94 rfl (lv_at hl 1 rfl) ?_
        refine va_get (D := (dC, dI)) (ci := 4) (v := .int h0_labelCount) (C := R_MA) (T := F_MA) (N := 18) hx hb hts i_MA hown hK hP 0 rfl rfl 16 (by decide) (hts _ kF_MA_83) (fun _ h9 => h9) rfl d_MA_enter_95 ?_
        have g98 : vp_in h0_frameCount 100 := vp_in_iff.mpr ⟨by (first | (apply Int.le_antisymm <;> omega) | omega), by (first | (apply Int.le_antisymm <;> omega) | omega)⟩
        refine va_iast hx hb hK hP hD hS 6 4 rfl rfl g98 d_MA_enter_98 (fun H locs hP hD hS => ?_)
        generalize ef8 : upd gfl h0_frameCount.toNatClampNeg h0_labelCount = f8 at hP hD
        refine lv_aload_n hx hb d_MA_enter_99 rfl (lv_at hl 1 rfl) ?_
        refine lv_dup hx hb d_MA_enter_100 rfl ?_
        refine va_get (D := (dC, dI)) (ci := 4) (v := .int h0_frameCount) (C := R_MA) (T := F_MA) (N := 18) hx hb hts i_MA hown hK hP 0 rfl rfl 13 (by decide) (hts _ kF_MA_80) (fun _ h9 => h9) rfl d_MA_enter_101 ?_
        refine lv_iconst (v := 1) hx hb d_MA_enter_104 (by decide) ?_
        refine lv_iadd hx hb d_MA_enter_105 ?_
        refine lv_topi (fun x9 ex9 => ?_)
        have tx9 : x9.toInt = h0_frameCount.toInt + 1 := by have z := i32_add ex9 (by (first | (apply Int.le_antisymm <;> omega) | omega)) (by (first | (apply Int.le_antisymm <;> omega) | omega)); first | exact z | (first | (apply Int.le_antisymm <;> omega) | omega)
        refine va_put (D := (dC, dI)) (ci := 4) (v := .int x9) (ty := .int) (C := R_MA) (T := F_MA) (N := 18) hx hb hts i_MA t_MA t_MA_ok n_MA hown hK hP hD hS 0 rfl rfl 13 (by decide) (hts _ kF_MA_80) (fun _ h9 => h9) rfl (by decide +kernel) rfl rfl (Nat.le_of_ble_eq_true rfl) d_MA_enter_106 (fun H locs hP hD hS => ?_)
        refine lv_iconst (v := 0) hx hb d_MA_enter_109 (by decide) ?_
        refine lv_istore_n (lv' := [(3, .int 0), (2, .int x1), (0, .ref h0), (1, .int p0)]) hx hb d_MA_enter_110 rfl hl (by decide) rfl (fun ls hl => ?_)
        refine w_loop (σ := Int32 × (Nat → Int64) × Int32 × Int32) (fun u H locs ls => match u with | (j111_l3, j111_sk, j111_h0_height, j111_h0_reason) => (0 ≤ j111_h0_height.toInt ∧ j111_h0_height.toInt ≤ 12096) ∧ (0 ≤ j111_h0_reason.toInt ∧ j111_h0_reason.toInt ≤ 14) ∧ (j111_h0_reason.toInt = 0 ∧ j111_h0_height.toInt = h0_height.toInt + j111_l3.toInt ∧ 0 ≤ j111_l3.toInt ∧ j111_l3.toInt ≤ x1.toInt) ∧ va_P (dC, dI) cls (wz_28 h0 h0_pages h0_steps j111_h0_reason gl aw ac ce sk j111_h0_height fb fs ff fl x9 lb lh h0_labelCount h0_at ac cfi clk ac_localTypes_r ac_length cop cva cpt cel ac_labelCount cla sk csk j111_sk fb cfb f3 fs cfs f6 ff cff f7 fl cfl f8 cfi ccfi gcfi clk cclk gclk aw law waf cwaf gwaf wat cwat gwat) H ∧ va_D A (wz_28 h0 h0_pages h0_steps j111_h0_reason gl aw ac ce sk j111_h0_height fb fs ff fl x9 lb lh h0_labelCount h0_at ac cfi clk ac_localTypes_r ac_length cop cva cpt cel ac_labelCount cla sk csk j111_sk fb cfb f3 fs cfs f6 ff cff f7 fl cfl f8 cfi ccfi gcfi clk cclk gclk aw law waf cwaf gwaf wat cwat gwat) ∧ va_S A s.heap H locs ∧ lv_has ls 4 [(0, .ref h0), (1, .int p0), (2, .int x1), (3, .int j111_l3)]) (fun u => match u with | (j111_l3, j111_sk, j111_h0_height, j111_h0_reason) => (x1.toInt - j111_l3.toInt).toNat) ?_ (0, gsk, h0_height, h0_reason) ⟨b_h0_height, b_h0_reason, by (try dsimp only); (first | (apply Int.le_antisymm <;> omega) | omega), hP, hD, hS, lv_sub hl [2, 3, 1, 0] rfl⟩
        intro N111 ih111 u H locs ls hN111 hI
        obtain ⟨j111_l3, j111_sk, j111_h0_height, j111_h0_reason⟩ := u
        obtain ⟨b_j111_h0_height, b_j111_h0_reason, v1, hP, hD, hS, hl⟩ := hI
        have hN111 : (x1.toInt - j111_l3.toInt).toNat < N111 + 1 := hN111
        refine lv_iload_n hx hb d_MA_enter_111 rfl (lv_at hl 3 rfl) ?_
        refine lv_iload_n hx hb d_MA_enter_112 rfl (lv_at hl 2 rfl) ?_
        refine lv_icmp_ge (tgt := 127) hx hb d_MA_enter_113 (by decide) (fun c113 => ?_) (fun c113 => ?_)
        · have q113 := leI c113
          refine lv_aload_n hx hb d_MA_enter_127 rfl (lv_at hl 0 rfl) ?_
          refine lv_aload_n hx hb d_MA_enter_128 rfl (lv_at hl 0 rfl) ?_
          refine va_get (D := (dC, dI)) (ci := 4) (v := .ref ac) (C := R_MA) (T := F_MA) (N := 18) hx hb hts i_MA hown hK hP 0 rfl rfl 5 (by decide) (hts _ kF_MA_50) (fun _ h9 => h9) rfl d_MA_enter_129 ?_
          refine va_get (D := (dC, dI)) (ci := 3) (v := .ref cfi) (C := R_CD) (T := F_CD) (N := 10) hx hb hts i_CD hown hK hP 1 rfl rfl 0 (by decide) (hts _ kF_MA_188) (fun _ h9 => h9) rfl d_MA_enter_132 ?_
          refine lv_iload_n hx hb d_MA_enter_135 rfl (lv_at hl 1 rfl) ?_
          have g136 : vp_in p0 31 := vp_in_iff.mpr ⟨by (first | (apply Int.le_antisymm <;> omega) | omega), by (first | (apply Int.le_antisymm <;> omega) | omega)⟩
          refine va_iald hx hb hK hP 7 7 rfl rfl g136 d_MA_enter_136 ?_
          refine lv_topi (fun x10 ex10 => ?_)
          refine va_put (D := (dC, dI)) (ci := 4) (v := .int x10) (ty := .int) (C := R_MA) (T := F_MA) (N := 18) hx hb hts i_MA t_MA t_MA_ok n_MA hown hK hP hD hS 0 rfl rfl 17 (by decide) (hts _ kF_MA_106) (fun _ h9 => h9) rfl (by decide +kernel) rfl rfl (Nat.le_of_ble_eq_true rfl) d_MA_enter_137 (fun H locs hP hD hS => ?_)
          have hP9 := hP.sb (wq := (wz_27 h0 h0_pages h0_steps j111_h0_reason gl aw ac ce sk j111_h0_height fb fs ff fl x9 lb lh h0_labelCount x10 aw law ac cfi clk ac_localTypes_r ac_length cop cva cpt cel ac_labelCount cla sk csk j111_sk fb cfb f3 fs cfs f6 ff cff f7 fl cfl f8 waf cwaf gwaf wat cwat gwat cfi ccfi gcfi clk cclk gclk)) [0, 9, 1, 2, 3, 4, 5, 6, 10, 11, 7, 8] rfl
          have hD9 := hD.sb (wq := (wz_27 h0 h0_pages h0_steps j111_h0_reason gl aw ac ce sk j111_h0_height fb fs ff fl x9 lb lh h0_labelCount x10 aw law ac cfi clk ac_localTypes_r ac_length cop cva cpt cel ac_labelCount cla sk csk j111_sk fb cfb f3 fs cfs f6 ff cff f7 fl cfl f8 waf cwaf gwaf wat cwat gwat cfi ccfi gcfi clk cclk gclk)) [0, 9, 1, 2, 3, 4, 5, 6, 10, 11, 7, 8] (by decide) rfl
          exact W.vret hx hb hr (fun t ht hW => ⟨⟨(f3, f7, f8, f6, j111_sk, x10, x9, j111_h0_height, j111_h0_reason), rfl, ⟨by (try dsimp only); (first | (apply Int.le_antisymm <;> omega) | omega), b_j111_h0_height, b_j111_h0_reason, fun z => ⟨by (try dsimp only); (first | (apply Int.le_antisymm <;> omega) | omega), by (try dsimp only); rw [← b11]; (first | (apply Int.le_antisymm <;> omega) | omega), by (try dsimp only); exact ex10, by (try dsimp only) <;> exact ef3.symm, by (try dsimp only) <;> exact ef7.symm, by (try dsimp only) <;> exact ef8.symm, ⟨x5, by rw [← b71]; (first | (apply Int.le_antisymm <;> omega) | omega), by (try dsimp only) <;> exact ef6.symm⟩⟩⟩, va_P.he ht.symm hP9, va_K.moved hW.alike hK, hD9⟩, hS.F ht⟩) hS.2.2 d_MA_enter_140
        · have q113 := nleI c113
          refine lv_aload_n hx hb d_MA_enter_116 rfl (lv_at hl 0 rfl) ?_
          refine lv_lconst (v := 0) hx hb d_MA_enter_117 (by decide) ?_
          have kl0 : (0 : Int64).toInt = 0 := by decide
          have hPc := hP.sb (wq := (wz_17 h0 h0_pages h0_steps j111_h0_reason gl aw ac ce sk j111_h0_height fb fs ff fl x9 lb lh h0_labelCount h0_at sk csk j111_sk)) [0, 2] rfl
          have hDc := hD.sb (wq := (wz_17 h0 h0_pages h0_steps j111_h0_reason gl aw ac ce sk j111_h0_height fb fs ff fl x9 lb lh h0_labelCount h0_at sk csk j111_sk)) [0, 2] (by decide) rfl
          have hKc := hK.sb (tyq := [(csk, .long)]) [0] rfl
          have hFc := va_free (wc := (wz_17 h0 h0_pages h0_steps j111_h0_reason gl aw ac ce sk j111_h0_height fb fs ff fl x9 lb lh h0_labelCount h0_at sk csk j111_sk)) hD hS hA [0, 2] rfl
          refine va_callv (va_runV (As := [.long 0]) (rest := []) ⟨hx, hb, hml, hown, hts⟩ (c_MA_push l dC dI H.size h0 gl aw ac ce sk fb fs ff fl lb lh csk h0_pages h0_steps j111_h0_reason j111_h0_height x9 h0_labelCount h0_at j111_sk (b_j111_h0_reason) (b_j111_h0_height) 0) (cwV 1 hts (gV kM_MA_94 kV_MA_push kS_MA_push kI_MA kC_MA_push) rfl rfl rfl (by decide +kernel) ⟨Nat.le_of_ble_eq_true rfl, Nat.le_of_ble_eq_true rfl⟩) ⟨fun a U g mk z => by obtain ⟨z0, z1, zP, zK, zD⟩ := z; exact ⟨z0, z1, zP, va_K.moved (u := U) (U := U.calling g mk a) (Vm.Alike.refl U.vm) zK, zD⟩, va_recv hKc hPc (ci := 4) (q0 := 0) rfl rfl, fun U hU hW => ⟨rfl, by rw [hU], va_P.he hU.symm hPc, va_K.moved hW.alike hKc, hDc.weaken (fun _ _ _ _ => trivial)⟩⟩ rfl rfl hl.1 rfl (lv_room (Nat.le_of_ble_eq_true rfl)) d_MA_enter_118 ⟨(Nat.zero_le _), (Nat.zero_le _)⟩) hS (fun q _ h => hFc q h) hFc (fun u t H1 locs ht hvm hw hB hz1 hk1 hS => ?_)
          obtain ⟨n12, n13, n14⟩ := u
          try dsimp only at hw
          obtain ⟨bn13, bn14, xr11⟩ := hw
          try clear hw
          obtain ⟨hP1, hK1, hD1⟩ := hB
          replace hP1 := va_P.he ht hP1
          obtain ⟨hP, hD⟩ := va_join (wr := [(ac, .inr (3, [.ref cfi, .ref clk, .ref ac_localTypes_r, .int ac_length, .ref cop, .ref cva, .ref cpt, .ref cel, .int ac_labelCount, .ref cla])), (fb, .inl (cfb, 100, .inl f3)), (fs, .inl (cfs, 100, .inl f6)), (ff, .inl (cff, 100, .inl f7)), (fl, .inl (cfl, 100, .inl f8)), (cfi, .inl (ccfi, 31, .inl gcfi)), (clk, .inl (cclk, 30, .inl gclk)), (aw, .inr (10, law)), (waf, .inl (cwaf, 30, .inl gwaf)), (wat, .inl (cwat, 20, .inl gwat))]) (w1 := (wz_17 h0 h0_pages h0_steps n14 gl aw ac ce sk n13 fb fs ff fl x9 lb lh h0_labelCount h0_at sk csk n12)) hP hD [0, 2] [1, 3, 4, 5, 6, 7, 8, 9, 10, 11] rfl rfl (by decide) (by decide) hk1 hFc hP1 hD1
          clear hPc hDc hKc hFc hz1 hk1 hP1 hK1 hD1
          rename Heap => H
          have hP : va_P (dC, dI) cls [(ac, .inr (3, [.ref cfi, .ref clk, .ref ac_localTypes_r, .int ac_length, .ref cop, .ref cva, .ref cpt, .ref cel, .int ac_labelCount, .ref cla])), (fb, .inl (cfb, 100, .inl f3)), (fs, .inl (cfs, 100, .inl f6)), (ff, .inl (cff, 100, .inl f7)), (fl, .inl (cfl, 100, .inl f8)), (cfi, .inl (ccfi, 31, .inl gcfi)), (clk, .inl (cclk, 30, .inl gclk)), (aw, .inr (10, law)), (waf, .inl (cwaf, 30, .inl gwaf)), (wat, .inl (cwat, 20, .inl gwat)), (h0, .inr (4, [.int h0_pages, .int h0_steps, .int n14, .ref gl, .ref aw, .ref ac, .ref ce, .ref sk, .int n13, .ref fb, .ref fs, .ref ff, .ref fl, .int x9, .ref lb, .ref lh, .int h0_labelCount, .int h0_at])), (sk, .inl (csk, 12096, .inr (.inl n12)))] H := hP
          have hD : va_D A [(ac, .inr (3, [.ref cfi, .ref clk, .ref ac_localTypes_r, .int ac_length, .ref cop, .ref cva, .ref cpt, .ref cel, .int ac_labelCount, .ref cla])), (fb, .inl (cfb, 100, .inl f3)), (fs, .inl (cfs, 100, .inl f6)), (ff, .inl (cff, 100, .inl f7)), (fl, .inl (cfl, 100, .inl f8)), (cfi, .inl (ccfi, 31, .inl gcfi)), (clk, .inl (cclk, 30, .inl gclk)), (aw, .inr (10, law)), (waf, .inl (cwaf, 30, .inl gwaf)), (wat, .inl (cwat, 20, .inl gwat)), (h0, .inr (4, [.int h0_pages, .int h0_steps, .int n14, .ref gl, .ref aw, .ref ac, .ref ce, .ref sk, .int n13, .ref fb, .ref fs, .ref ff, .ref fl, .int x9, .ref lb, .ref lh, .int h0_labelCount, .int h0_at])), (sk, .inl (csk, 12096, .inr (.inl n12)))] := hD
          obtain ⟨x15, ex15⟩ : ∃ z : Int32, z = j111_l3 + 1 := ⟨_, rfl⟩
          have tx15 : x15.toInt = j111_l3.toInt + 1 := by have z := i32_add ex15 (by (first | (apply Int.le_antisymm <;> omega) | omega)) (by (first | (apply Int.le_antisymm <;> omega) | omega)); first | exact z | (first | (apply Int.le_antisymm <;> omega) | omega)
          refine lv_iinc (v := x15) (lv' := [(3, .int x15), (0, .ref h0), (1, .int p0), (2, .int x1)]) hx hb d_MA_enter_121 hl (k := 3) rfl (by rw [ex15]; rfl) (by decide) rfl (fun ls hl => ?_)
          refine lv_goto (tgt := 111) hx hb d_MA_enter_124 (by decide) ?_
          exact ih111 (x15, n12, n13, n14) _ _ _ (by show (x1.toInt - x15.toInt).toNat < N111; (first | (apply Int.le_antisymm <;> omega) | omega)) ⟨bn13, bn14, by (try dsimp only); (first | (apply Int.le_antisymm <;> omega) | omega), hP.sub [10, 0, 11, 1, 2, 3, 4, 5, 6, 7, 8, 9] rfl, hD.sub [10, 0, 11, 1, 2, 3, 4, 5, 6, 7, 8, 9] (by decide) rfl, hS, lv_sub hl [1, 2, 3, 0] rfl⟩
      · have q31 := nleI c31
        exact jn34 () _ _ _ ⟨hP, hD, hS, lv_sub hl [1] rfl⟩
end q_12
section q_12a
/-! where an instruction may lead: what the picture 'an' must say for the machine to be safe -/
def mc_lab (an : mc_A) (gop gpt : Nat → Int32) (gva : Nat → Int64) (f : Nat) (bs : List (Nat × Int)) (l : Int) : Prop :=
  0 ≤ l ∧ ∀ (n : Nat) (b : Nat × Int), (n : Int) = l → bs[n]? = some b → ((gop b.1).toInt = 3 → an (b.1 + 1) = some (f, bs.drop n, b.2)) ∧ ((gop b.1).toInt ≠ 3 → 0 ≤ (gpt b.1).toInt ∧ (gpt b.1).toInt < 5000 ∧ an ((gpt b.1).toInt.toNat + 1) = some (f, bs.drop (n + 1), b.2 + if (gva b.1).toInt = 64 then 0 else 1))
def mc_if (an : mc_A) (gpt gel : Nat → Int32) (i f : Nat) (bs : List (Nat × Int)) (h : Int) : Prop :=
  bs.length < 100 ∧ an (i + 1) = some (f, (i, h - 1) :: bs, h - 1) ∧ (0 ≤ (gel i).toInt → (gel i).toInt < 5000 ∧ an ((gel i).toInt.toNat + 1) = some (f, (i, h - 1) :: bs, h - 1)) ∧ ((gel i).toInt < 0 → 0 ≤ (gpt i).toInt ∧ (gpt i).toInt < 5000 ∧ an ((gpt i).toInt.toNat + 1) = some (f, bs, h - 1))
def mc_at (an : mc_A) (nl gv tk : Nat → Int) (fc gc : Int) (gop gpt gel gla : Nat → Int32) (gva : Nat → Int64) (i f : Nat) (bs : List (Nat × Int)) (h : Int) : Prop :=
  ((gop i).toInt = 1 → an (i + 1) = some (f, bs, h)) ∧
  ((gop i).toInt = 2 ∨ (gop i).toInt = 3 → bs.length < 100 ∧ an (i + 1) = some (f, (i, h) :: bs, h)) ∧
  ((gop i).toInt = 4 → 1 ≤ h ∧ mc_if an gpt gel i f bs h) ∧
  ((gop i).toInt = 5 → 0 ≤ (gpt i).toInt ∧ an (gpt i).toInt.toNat = some (f, bs, h)) ∧
  ((gop i).toInt = 11 → ∀ (b : Nat × Int) (r : List (Nat × Int)), bs = b :: r → an (i + 1) = some (f, r, h)) ∧
  ((gop i).toInt = 12 → (gva i).toInt ≤ 2147483647 ∧ mc_lab an gop gpt gva f bs (gva i).toInt) ∧
  ((gop i).toInt = 13 → 1 ≤ h ∧ (gva i).toInt ≤ 2147483647 ∧ mc_lab an gop gpt gva f bs (gva i).toInt ∧ an (i + 1) = some (f, bs, h - 1)) ∧
  ((gop i).toInt = 14 → 1 ≤ h ∧ 0 ≤ (gva i).toInt ∧ 0 ≤ (gpt i).toInt ∧ (gva i).toInt + (gpt i).toInt < 2000 ∧ ∀ k : Nat, (k : Int) ≤ (gpt i).toInt → mc_lab an gop gpt gva f bs (gla ((gva i).toInt.toNat + k)).toInt) ∧
  ((gop i).toInt = 16 → 0 ≤ (gva i).toInt ∧ (gva i).toInt < fc ∧ tk (gva i).toInt.toNat ≤ h ∧ an (i + 1) = some (f, bs, h - tk (gva i).toInt.toNat + gv (gva i).toInt.toNat)) ∧
  ((gop i).toInt = 26 → 1 ≤ h ∧ an (i + 1) = some (f, bs, h - 1)) ∧
  ((gop i).toInt = 27 → 3 ≤ h ∧ an (i + 1) = some (f, bs, h - 2)) ∧
  (32 ≤ (gop i).toInt ∧ (gop i).toInt ≤ 34 → 0 ≤ (gva i).toInt ∧ (gva i).toInt < nl f ∧ nl f ≤ 68) ∧
  ((gop i).toInt = 32 → an (i + 1) = some (f, bs, h + 1)) ∧
  ((gop i).toInt = 33 → 1 ≤ h ∧ an (i + 1) = some (f, bs, h - 1)) ∧
  ((gop i).toInt = 34 → 1 ≤ h ∧ an (i + 1) = some (f, bs, h)) ∧
  ((gop i).toInt = 35 → 0 ≤ (gva i).toInt ∧ (gva i).toInt < gc ∧ an (i + 1) = some (f, bs, h + 1)) ∧
  ((gop i).toInt = 36 → 0 ≤ (gva i).toInt ∧ (gva i).toInt < gc ∧ 1 ≤ h ∧ an (i + 1) = some (f, bs, h - 1)) ∧
  ((gop i).toInt = 63 → an (i + 1) = some (f, bs, h + 1)) ∧
  ((gop i).toInt = 64 → 1 ≤ h ∧ an (i + 1) = some (f, bs, h)) ∧
  ((gop i).toInt = 54 ∨ (gop i).toInt = 55 ∨ (gop i).toInt = 58 → 2 ≤ h ∧ an (i + 1) = some (f, bs, h - 2)) ∧
  ((gop i).toInt = 40 ∨ (gop i).toInt = 41 ∨ (gop i).toInt = 44 ∨ (gop i).toInt = 45 → 1 ≤ h ∧ an (i + 1) = some (f, bs, h)) ∧
  ((gop i).toInt = 65 ∨ (gop i).toInt = 66 → an (i + 1) = some (f, bs, h + 1)) ∧
  ((gop i).toInt = 69 ∨ (gop i).toInt = 80 ∨ (103 ≤ (gop i).toInt ∧ (gop i).toInt < 106) ∨ (121 ≤ (gop i).toInt ∧ (gop i).toInt < 124) ∨ 138 < (gop i).toInt → 1 ≤ h ∧ an (i + 1) = some (f, bs, h)) ∧
  ((69 < (gop i).toInt ∧ (gop i).toInt < 80) ∨ (80 < (gop i).toInt ∧ (gop i).toInt ≤ 90) ∨ (106 ≤ (gop i).toInt ∧ (gop i).toInt < 121) ∨ (124 ≤ (gop i).toInt ∧ (gop i).toInt ≤ 138) → 2 ≤ h ∧ an (i + 1) = some (f, bs, h - 1)) ∧
  ((0 ≤ (gop i).toInt ∧ (gop i).toInt ≤ 5) ∨ (11 ≤ (gop i).toInt ∧ (gop i).toInt ≤ 16) ∨ (gop i).toInt = 26 ∨ (gop i).toInt = 27 ∨ (32 ≤ (gop i).toInt ∧ (gop i).toInt ≤ 36) ∨ (gop i).toInt = 40 ∨ (gop i).toInt = 41 ∨ (gop i).toInt = 44 ∨ (gop i).toInt = 45 ∨ (gop i).toInt = 54 ∨ (gop i).toInt = 55 ∨ (gop i).toInt = 58 ∨ (63 ≤ (gop i).toInt ∧ (gop i).toInt ≤ 66) ∨ (69 ≤ (gop i).toInt ∧ (gop i).toInt ≤ 90) ∨ (103 ≤ (gop i).toInt ∧ (gop i).toInt ≤ 138) ∨ (gop i).toInt = 167 ∨ (gop i).toInt = 172 ∨ (gop i).toInt = 173)
end q_12a
section q_13
/-! Machine: jumps -/
abbrev b_MA_leaveBlock : ByteArray := prog_6_method_9_code
def y_MA_leaveBlock : MethodName := ⟨R_MA, "leaveBlock", "()V"⟩
abbrev w_MA_leaveBlock : List Cond := .code y_MA_leaveBlock b_MA_leaveBlock 1 none :: lw_g
theorem kC_MA_leaveBlock : Cond.code y_MA_leaveBlock b_MA_leaveBlock 1 none ∈ lw_g := in_c7 116 rfl rfl
theorem d_MA_leaveBlock_0 : decode b_MA_leaveBlock 0 = .ok (.aload_n 0, 1) := bz_c42 (by decide +kernel)
theorem d_MA_leaveBlock_1 : decode b_MA_leaveBlock 1 = .ok (.getfield 80, 3) := bz_c180 (by decide +kernel)
theorem d_MA_leaveBlock_4 : decode b_MA_leaveBlock 4 = .ok (.ifCond .le 34, 3) := bz_c158 (by decide +kernel)
theorem d_MA_leaveBlock_7 : decode b_MA_leaveBlock 7 = .ok (.aload_n 0, 1) := bz_c42 (by decide +kernel)
theorem d_MA_leaveBlock_8 : decode b_MA_leaveBlock 8 = .ok (.getfield 83, 3) := bz_c180 (by decide +kernel)
theorem d_MA_leaveBlock_11 : decode b_MA_leaveBlock 11 = .ok (.aload_n 0, 1) := bz_c42 (by decide +kernel)
theorem d_MA_leaveBlock_12 : decode b_MA_leaveBlock 12 = .ok (.getfield 31, 3) := bz_c180 (by decide +kernel)
theorem d_MA_leaveBlock_15 : decode b_MA_leaveBlock 15 = .ok (.aload_n 0, 1) := bz_c42 (by decide +kernel)
theorem d_MA_leaveBlock_16 : decode b_MA_leaveBlock 16 = .ok (.getfield 80, 3) := bz_c180 (by decide +kernel)
theorem d_MA_leaveBlock_19 : decode b_MA_leaveBlock 19 = .ok (.iconst 1, 1) := bz_c4 (by decide +kernel)
theorem d_MA_leaveBlock_20 : decode b_MA_leaveBlock 20 = .ok (.isub, 1) := bz_c100 (by decide +kernel)
theorem d_MA_leaveBlock_21 : decode b_MA_leaveBlock 21 = .ok (.iaload, 1) := bz_c46 (by decide +kernel)
theorem d_MA_leaveBlock_22 : decode b_MA_leaveBlock 22 = .ok (.if_icmp .le 16, 3) := bz_c164 (by decide +kernel)
theorem d_MA_leaveBlock_25 : decode b_MA_leaveBlock 25 = .ok (.aload_n 0, 1) := bz_c42 (by decide +kernel)
theorem d_MA_leaveBlock_26 : decode b_MA_leaveBlock 26 = .ok (.dup, 1) := bz_c89 (by decide +kernel)
theorem d_MA_leaveBlock_27 : decode b_MA_leaveBlock 27 = .ok (.getfield 83, 3) := bz_c180 (by decide +kernel)
theorem d_MA_leaveBlock_30 : decode b_MA_leaveBlock 30 = .ok (.iconst 1, 1) := bz_c4 (by decide +kernel)
theorem d_MA_leaveBlock_31 : decode b_MA_leaveBlock 31 = .ok (.isub, 1) := bz_c100 (by decide +kernel)
theorem d_MA_leaveBlock_32 : decode b_MA_leaveBlock 32 = .ok (.putfield 83, 3) := bz_c181 (by decide +kernel)
theorem d_MA_leaveBlock_35 : decode b_MA_leaveBlock 35 = .ok (.goto 7, 3) := bz_c167 (by decide +kernel)
theorem d_MA_leaveBlock_38 : decode b_MA_leaveBlock 38 = .ok (.aload_n 0, 1) := bz_c42 (by decide +kernel)
theorem d_MA_leaveBlock_39 : decode b_MA_leaveBlock 39 = .ok (.invokevirtual 173, 3) := bz_c182 (by decide +kernel)
theorem d_MA_leaveBlock_42 : decode b_MA_leaveBlock 42 = .ok (.return_, 1) := bz_c177 (by decide +kernel)
theorem kM_MA_173 : Cond.methodLink R_MA 173 y_MA_leaveFunction ∈ lw_g := in_c7 117 rfl rfl
theorem kV_MA_leaveFunction : Cond.instanceMethod y_MA_leaveFunction ∈ lw_g := in_c7 119 rfl rfl
theorem kS_MA_leaveFunction : Cond.selects R_MA y_MA_leaveFunction y_MA_leaveFunction ∈ lw_g := in_s 103 (by decide +kernel) rfl
abbrev at_MA_leaveBlock (dC : Nat → ClassId) (dI : Nat → Nat → Nat) (h0 gl aw ac ce sk fb fs ff fl lb lh wag waf : Nat) (csk cfb cfs cff cfl clb clh cwaf cwag : ClassId) (h0_pages : Int32) (h0_steps : Int32) (law : List Value) (gfb : Nat → Int32) (gfs : Nat → Int32) (gff : Nat → Int32) (gfl : Nat → Int32) (glb : Nat → Int32) (glh : Nat → Int32) (gwaf : Nat → Int32) (gwag : Nat → Int32) (A : Nat → Prop) (u : (Nat → Int64) × Int32 × Int32 × Int32 × Int32 × Int32) (t : State) : Prop := match u with | (gsk, h0_at, h0_frameCount, h0_height, h0_labelCount, h0_reason) => va_P (dC, dI) cls (wz_25 h0 h0_pages h0_steps h0_reason gl aw ac ce sk h0_height fb fs ff fl h0_frameCount lb lh h0_labelCount h0_at aw law sk csk gsk fb cfb gfb fs cfs gfs ff cff gff fl cfl gfl lb clb glb lh clh glh waf cwaf gwaf wag cwag gwag) t.heap ∧ va_K (dC, dI) cls [(csk, .long), (cfb, .int), (cfs, .int), (cff, .int), (cfl, .int), (clb, .int), (clh, .int), (cwaf, .int), (cwag, .int)] t ∧ va_D A (wz_25 h0 h0_pages h0_steps h0_reason gl aw ac ce sk h0_height fb fs ff fl h0_frameCount lb lh h0_labelCount h0_at aw law sk csk gsk fb cfb gfb fs cfs gfs ff cff gff fl cfl gfl lb clb glb lh clh glh waf cwaf gwaf wag cwag gwag)
set_option maxHeartbeats 4000000 in
set_option maxRecDepth 100000 in
theorem c_MA_leaveBlock (l : Launch) (dC : Nat → ClassId) (dI : Nat → Nat → Nat) (sz : Nat) (h0 gl aw ac ce sk fb fs ff fl lb lh wag waf : Nat) (csk cfb cfs cff cfl clb clh cwaf cwag : ClassId) (h0_pages : Int32) (h0_steps : Int32) (h0_reason : Int32) (h0_height : Int32) (h0_frameCount : Int32) (h0_labelCount : Int32) (h0_at : Int32) (law : List Value) (gsk : Nat → Int64) (gfb : Nat → Int32) (gfs : Nat → Int32) (gff : Nat → Int32) (gfl : Nat → Int32) (glb : Nat → Int32) (glh : Nat → Int32) (gwaf : Nat → Int32) (gwag : Nat → Int32) (an : mc_A) (nl : Nat → Int) (gv : Nat → Int) (fc : Int) (f : Nat) (bs : List (Nat × Int)) (h : Int) (paw_5 : law[5]? = some (.ref wag)) (paw_7 : law[7]? = some (.ref waf)) (plaw : law.length = 21) (b_h0_reason : 0 ≤ h0_reason.toInt ∧ h0_reason.toInt ≤ 14) (b_h0_height : 0 ≤ h0_height.toInt ∧ h0_height.toInt ≤ 12096) (b_h0_frameCount : 0 ≤ h0_frameCount.toInt ∧ h0_frameCount.toInt ≤ 100) (b_h0_labelCount : 0 ≤ h0_labelCount.toInt ∧ h0_labelCount.toInt ≤ 10000)   (hr0 : h0_reason.toInt = 0) (hk1 : 1 ≤ h0_frameCount.toInt) (hT : mc_tp an nl gv gfb gfs gff gfl glb glh (h0_frameCount.toInt - 1).toNat f bs h0_labelCount.toInt) (hf : (f : Int) < fc) (hfn : ∀ f : Nat, (f : Int) < fc → f < 30 ∧ 0 ≤ (gwaf f).toInt ∧ (gwaf f).toInt < 20) (hgv : ∀ f : Nat, (f : Int) < fc → gv f = if (gwag (gwaf f).toNatClampNeg).toInt = 64 then 0 else 1) (hH : h0_height.toInt = (gfs (h0_frameCount.toInt - 1).toNat).toInt + nl f + h) (hE : ∀ (b : Nat × Int) (r : List (Nat × Int)), bs = b :: r → 0 ≤ h0_at.toInt ∧ an h0_at.toInt.toNat = some (f, r, h)) : Met l y_MA_leaveBlock w_MA_leaveBlock ({ frames := 3, cells := 0, slots := 0, locals := 66 }) (va_Pc [.ref h0] (fun U => U.heap.size = sz ∧ va_P (dC, dI) cls (wz_25 h0 h0_pages h0_steps h0_reason gl aw ac ce sk h0_height fb fs ff fl h0_frameCount lb lh h0_labelCount h0_at aw law sk csk gsk fb cfb gfb fs cfs gfs ff cff gff fl cfl gfl lb clb glb lh clh glh waf cwaf gwaf wag cwag gwag) U.heap ∧ va_K (dC, dI) cls [(csk, .long), (cfb, .int), (cfs, .int), (cff, .int), (cfl, .int), (clb, .int), (clh, .int), (cwaf, .int), (cwag, .int)] U ∧ va_D (fun _ => True) (wz_25 h0 h0_pages h0_steps h0_reason gl aw ac ce sk h0_height fb fs ff fl h0_frameCount lb lh h0_labelCount h0_at aw law sk csk gsk fb cfb gfb fs cfs gfs ff cff gff fl cfl gfl lb clb glb lh clh glh waf cwaf gwaf wag cwag gwag))) (va_Qv (fun (u : (Nat → Int64) × Int32 × Int32 × Int32 × Int32 × Int32) => match u with | (gsk2, h0_at2, h0_frameCount2, h0_height2, h0_labelCount2, h0_reason2) => (0 ≤ h0_frameCount2.toInt ∧ h0_frameCount2.toInt ≤ 100) ∧ (0 ≤ h0_height2.toInt ∧ h0_height2.toInt ≤ 12096) ∧ (0 ≤ h0_labelCount2.toInt ∧ h0_labelCount2.toInt ≤ 10000) ∧ (0 ≤ h0_reason2.toInt ∧ h0_reason2.toInt ≤ 14) ∧ (mc_after an nl gv gfb gfs gff gfl glb glh h0_reason2 h0_frameCount2 h0_at2 h0_height2 h0_labelCount2)) (at_MA_leaveBlock dC dI h0 gl aw ac ce sk fb fs ff fl lb lh wag waf csk cfb cfs cff cfl clb clh cwaf cwag h0_pages h0_steps law gfb gfs gff gfl glb glh gwaf gwag (va_A (wz_25 h0 h0_pages h0_steps h0_reason gl aw ac ce sk h0_height fb fs ff fl h0_frameCount lb lh h0_labelCount h0_at aw law sk csk gsk fb cfb gfb fs cfs gfs ff cff gff fl cfl gfl lb clb glb lh clh glh waf cwaf gwaf wag cwag gwag) sz)) (va_A (wz_25 h0 h0_pages h0_steps h0_reason gl aw ac ce sk h0_height fb fs ff fl h0_frameCount lb lh h0_labelCount h0_at aw law sk csk gsk fb cfb gfb fs cfs gfs ff cff gff fl cfl gfl lb clb glb lh clh glh waf cwaf gwaf wag cwag gwag) sz)) 0 0 (va_A (wz_25 h0 h0_pages h0_steps h0_reason gl aw ac ce sk h0_height fb fs ff fl h0_frameCount lb lh h0_labelCount h0_at aw law sk csk gsk fb cfb gfb fs cfs gfs ff cff gff fl cfl gfl lb clb glb lh clh glh waf cwaf gwaf wag cwag gwag) sz) := by
  refine Met.ofW (cc := b_MA_leaveBlock) (maxL := 1) (ret := none) (by decide) rfl ?_
  intro p e s m args below meth c s₁ B hml hv
  obtain ⟨rfl, hsz, hP, hK, hD0⟩ := hv
  have hx := B.exec
  have hb := B.bytes
  have hr := B.returns
  have hts0 := atoms_spec (ws := w_MA_leaveBlock) B.pre
  have hts : ∀ w ∈ lw_g, w.before _ s = true := fun w h => hts0 w (List.mem_cons_of_mem _ h)
  have hown : s.vm.findClass R_MA = some m.cls := findClass_of_methodNamed B.named
  have hlocks := B.notSynchronized
  clear hts0
  subst hsz
  have hD := hD0.self (sz := s.heap.size)
  generalize hAe : va_A (wz_25 h0 h0_pages h0_steps h0_reason gl aw ac ce sk h0_height fb fs ff fl h0_frameCount lb lh h0_labelCount h0_at aw law sk csk gsk fb cfb gfb fs cfs gfs ff cff gff fl cfl gfl lb clb glb lh clh glh waf cwaf gwaf wag cwag gwag) s.heap.size = A at hD ⊢
  have hA : ∀ q : Nat, s.heap.size ≤ q → A q := fun q h => by rw [← hAe]; exact Or.inr h
  clear hAe
  have hP : va_P (dC, dI) cls (wz_25 h0 h0_pages h0_steps h0_reason gl aw ac ce sk h0_height fb fs ff fl h0_frameCount lb lh h0_labelCount h0_at aw law sk csk gsk fb cfb gfb fs cfs gfs ff cff gff fl cfl gfl lb clb glb lh clh glh waf cwaf gwaf wag cwag gwag) s.heap := hP
  have hl := lv_entry ([.ref h0]) (n := 1) (Nat.le_of_ble_eq_true rfl)
  rw [lg_entry_eq]
  generalize (lg_sl ([.ref h0]) ++ List.replicate (1 - (lg_sl ([.ref h0])).length) Slot.unset).toArray = ls at hl ⊢
  have hl : lv_has ls 1 [(0, .ref h0)] := hl
  have k0 : (0 : Int32).toInt = 0 := by decide
  refine w_gen (A := A) hP (fun H locs hP hS => ?_)
  have k1 : (1 : Int32).toInt = 1 := by decide
  obtain ⟨o1, o2, o3, o4, o5, o6, o7, o8⟩ := hT.1
  have hk9 : (((h0_frameCount.toInt - 1).toNat : Nat) : Int) = h0_frameCount.toInt - 1 := by (first | (apply Int.le_antisymm <;> omega) | omega)
  have hfn9 := hfn f hf
  refine lv_aload_n hx hb d_MA_leaveBlock_0 rfl (lv_at hl 0 rfl) ?_
  refine va_get (D := (dC, dI)) (ci := 4) (v := .int h0_frameCount) (C := R_MA) (T := F_MA) (N := 18) hx hb hts i_MA hown hK hP 0 rfl rfl 13 (by decide) (hts _ kF_MA_80) (fun _ h9 => h9) rfl d_MA_leaveBlock_1 ?_
  refine w_cut (pc2 := 38) (σ := Unit) (fun u H locs ls => match u with | _ => va_P (dC, dI) cls (wz_25 h0 h0_pages h0_steps h0_reason gl aw ac ce sk h0_height fb fs ff fl h0_frameCount lb lh h0_labelCount h0_at aw law sk csk gsk fb cfb gfb fs cfs gfs ff cff gff fl cfl gfl lb clb glb lh clh glh waf cwaf gwaf wag cwag gwag) H ∧ va_D A (wz_25 h0 h0_pages h0_steps h0_reason gl aw ac ce sk h0_height fb fs ff fl h0_frameCount lb lh h0_labelCount h0_at aw law sk csk gsk fb cfb gfb fs cfs gfs ff cff gff fl cfl gfl lb clb glb lh clh glh waf cwaf gwaf wag cwag gwag) ∧ va_S A s.heap H locs ∧ lv_has ls 1 [(0, .ref h0)]) (fun u => match u with | _ => []) ?_ (fun jn38 => ?_)
  · intro u H locs ls hI
    obtain ⟨hP, hD, hS, hl⟩ := hI
    refine lv_aload_n hx hb d_MA_leaveBlock_38 rfl (lv_at hl 0 rfl) ?_
    have hPc := hP.sb (wq := (wz_25 h0 h0_pages h0_steps h0_reason gl aw ac ce sk h0_height fb fs ff fl h0_frameCount lb lh h0_labelCount h0_at aw law sk csk gsk fb cfb gfb fs cfs gfs ff cff gff fl cfl gfl lb clb glb lh clh glh waf cwaf gwaf wag cwag gwag)) [0, 1, 2, 3, 4, 5, 6, 7, 8, 9, 10] rfl
    have hDc := hD.sb (wq := (wz_25 h0 h0_pages h0_steps h0_reason gl aw ac ce sk h0_height fb fs ff fl h0_frameCount lb lh h0_labelCount h0_at aw law sk csk gsk fb cfb gfb fs cfs gfs ff cff gff fl cfl gfl lb clb glb lh clh glh waf cwaf gwaf wag cwag gwag)) [0, 1, 2, 3, 4, 5, 6, 7, 8, 9, 10] (by decide) rfl
    have hKc := hK.sb (tyq := [(csk, .long), (cfb, .int), (cfs, .int), (cff, .int), (cfl, .int), (clb, .int), (clh, .int), (cwaf, .int), (cwag, .int)]) [0, 1, 2, 3, 4, 5, 6, 7, 8] rfl
    have hFc := va_free (wc := (wz_25 h0 h0_pages h0_steps h0_reason gl aw ac ce sk h0_height fb fs ff fl h0_frameCount lb lh h0_labelCount h0_at aw law sk csk gsk fb cfb gfb fs cfs gfs ff cff gff fl cfl gfl lb clb glb lh clh glh waf cwaf gwaf wag cwag gwag)) hD hS hA [0, 1, 2, 3, 4, 5, 6, 7, 8, 9, 10] rfl
    refine va_callv (va_runV (As := []) (rest := []) ⟨hx, hb, hml, hown, hts⟩ (c_MA_leaveFunction l dC dI H.size h0 gl aw ac ce sk fb fs ff fl lb lh wag waf csk cfb cfs cff cfl clb clh cwaf cwag h0_pages h0_steps h0_reason h0_height h0_frameCount h0_labelCount h0_at law gsk gfb gfs gff gfl glb glh gwaf gwag an nl gv fc f bs paw_5 paw_7 plaw (b_h0_reason) (b_h0_height) (b_h0_frameCount) (b_h0_labelCount) (hr0) (hk1) (hT) (hf) (hfn) (hgv)) (cwV 0 hts (gV kM_MA_173 kV_MA_leaveFunction kS_MA_leaveFunction kI_MA kC_MA_leaveFunction) rfl rfl rfl (by decide +kernel) ⟨Nat.le_of_ble_eq_true rfl, Nat.le_of_ble_eq_true rfl⟩) ⟨fun a U g mk z => by obtain ⟨z0, z1, zP, zK, zD⟩ := z; exact ⟨z0, z1, zP, va_K.moved (u := U) (U := U.calling g mk a) (Vm.Alike.refl U.vm) zK, zD⟩, va_recv hKc hPc (ci := 4) (q0 := 0) rfl rfl, fun U hU hW => ⟨rfl, by rw [hU], va_P.he hU.symm hPc, va_K.moved hW.alike hKc, hDc.weaken (fun _ _ _ _ => trivial)⟩⟩ rfl rfl hl.1 rfl (lv_room (Nat.le_of_ble_eq_true rfl)) d_MA_leaveBlock_39 ⟨(Nat.zero_le _), (Nat.zero_le _)⟩) hS (fun q _ h => hFc q h) hFc (fun u t H1 locs ht hvm hw hB hz1 hk1 hS => ?_)
    obtain ⟨n2, n3, n4, n5, n6, n7⟩ := u
    try dsimp only at hw
    obtain ⟨bn4, bn5, bn6, bn7, xr1⟩ := hw
    try clear hw
    obtain ⟨hP1, hK1, hD1⟩ := hB
    replace hP1 := va_P.he ht hP1
    obtain ⟨hP, hD⟩ := va_join (wr := []) (w1 := (wz_25 h0 h0_pages h0_steps n7 gl aw ac ce sk n5 fb fs ff fl n4 lb lh n6 n3 aw law sk csk n2 fb cfb gfb fs cfs gfs ff cff gff fl cfl gfl lb clb glb lh clh glh waf cwaf gwaf wag cwag gwag)) hP hD [0, 1, 2, 3, 4, 5, 6, 7, 8, 9, 10] [] rfl rfl (by decide) (by decide) hk1 hFc hP1 hD1
    clear hPc hDc hKc hFc hz1 hk1 hP1 hK1 hD1
    rename Heap => H
    have hP : va_P (dC, dI) cls (wz_25 h0 h0_pages h0_steps n7 gl aw ac ce sk n5 fb fs ff fl n4 lb lh n6 n3 aw law sk csk n2 fb cfb gfb fs cfs gfs ff cff gff fl cfl gfl lb clb glb lh clh glh waf cwaf gwaf wag cwag gwag) H := hP
    have hD : va_D A (wz_25 h0 h0_pages h0_steps n7 gl aw ac ce sk n5 fb fs ff fl n4 lb lh n6 n3 aw law sk csk n2 fb cfb gfb fs cfs gfs ff cff gff fl cfl gfl lb clb glb lh clh glh waf cwaf gwaf wag cwag gwag) := hD
    have hP9 := hP.sb (wq := (wz_25 h0 h0_pages h0_steps n7 gl aw ac ce sk n5 fb fs ff fl n4 lb lh n6 n3 aw law sk csk n2 fb cfb gfb fs cfs gfs ff cff gff fl cfl gfl lb clb glb lh clh glh waf cwaf gwaf wag cwag gwag)) [0, 1, 2, 3, 4, 5, 6, 7, 8, 9, 10] rfl
    have hD9 := hD.sb (wq := (wz_25 h0 h0_pages h0_steps n7 gl aw ac ce sk n5 fb fs ff fl n4 lb lh n6 n3 aw law sk csk n2 fb cfb gfb fs cfs gfs ff cff gff fl cfl gfl lb clb glb lh clh glh waf cwaf gwaf wag cwag gwag)) [0, 1, 2, 3, 4, 5, 6, 7, 8, 9, 10] (by decide) rfl
    exact W.vret hx hb hr (fun t ht hW => ⟨⟨(n2, n3, n4, n5, n6, n7), rfl, ⟨bn4, bn5, bn6, bn7, xr1⟩, va_P.he ht.symm hP9, va_K.moved hW.alike hK, hD9⟩, hS.F ht⟩) hS.2.2 d_MA_leaveBlock_42
  · skip
    refine lv_if_le (tgt := 38) hx hb d_MA_leaveBlock_4 (by decide) (fun c4 => absurd (leI c4) (by (first | (apply Int.le_antisymm <;> omega) | omega))) (fun c4 => ?_)
    have q4 := nleI c4
    refine lv_aload_n hx hb d_MA_leaveBlock_7 rfl (lv_at hl 0 rfl) ?_
    refine va_get (D := (dC, dI)) (ci := 4) (v := .int h0_labelCount) (C := R_MA) (T := F_MA) (N := 18) hx hb hts i_MA hown hK hP 0 rfl rfl 16 (by decide) (hts _ kF_MA_83) (fun _ h9 => h9) rfl d_MA_leaveBlock_8 ?_
    refine lv_aload_n hx hb d_MA_leaveBlock_11 rfl (lv_at hl 0 rfl) ?_
    refine va_get (D := (dC, dI)) (ci := 4) (v := .ref fl) (C := R_MA) (T := F_MA) (N := 18) hx hb hts i_MA hown hK hP 0 rfl rfl 12 (by decide) (hts _ kF_MA_31) (fun _ h9 => h9) rfl d_MA_leaveBlock_12 ?_
    refine lv_aload_n hx hb d_MA_leaveBlock_15 rfl (lv_at hl 0 rfl) ?_
    refine va_get (D := (dC, dI)) (ci := 4) (v := .int h0_frameCount) (C := R_MA) (T := F_MA) (N := 18) hx hb hts i_MA hown hK hP 0 rfl rfl 13 (by decide) (hts _ kF_MA_80) (fun _ h9 => h9) rfl d_MA_leaveBlock_16 ?_
    refine lv_iconst (v := 1) hx hb d_MA_leaveBlock_19 (by decide) ?_
    refine lv_isub hx hb d_MA_leaveBlock_20 ?_
    refine lv_topi (fun x8 ex8 => ?_)
    have tx8 : x8.toInt = h0_frameCount.toInt - 1 := by have z := i32_sub ex8 (by (first | (apply Int.le_antisymm <;> omega) | omega)) (by (first | (apply Int.le_antisymm <;> omega) | omega)); first | exact z | (first | (apply Int.le_antisymm <;> omega) | omega)
    have g21 : vp_in x8 100 := vp_in_iff.mpr ⟨by (first | (apply Int.le_antisymm <;> omega) | omega), by (first | (apply Int.le_antisymm <;> omega) | omega)⟩
    refine va_iald hx hb hK hP 6 4 rfl rfl g21 d_MA_leaveBlock_21 ?_
    refine lv_topi (fun x9 ex9 => ?_)
    rw [i32_natI (x := x8) (n := h0_frameCount.toInt - 1) (by (first | (apply Int.le_antisymm <;> omega) | omega))] at ex9
    have tx9 : x9.toInt = (gfl (h0_frameCount.toInt - 1).toNat).toInt := by rw [ex9]
    refine lv_icmp_le (tgt := 38) hx hb d_MA_leaveBlock_22 (by decide) (fun c22 => ?_) (fun c22 => ?_)
    · have q22 := leI c22
      exact jn38 () _ _ _ ⟨hP, hD, hS, lv_sub hl [0] rfl⟩
    · have q22 := nleI c22
      refine lv_aload_n hx hb d_MA_leaveBlock_25 rfl (lv_at hl 0 rfl) ?_
      refine lv_dup hx hb d_MA_leaveBlock_26 rfl ?_
      refine va_get (D := (dC, dI)) (ci := 4) (v := .int h0_labelCount) (C := R_MA) (T := F_MA) (N := 18) hx hb hts i_MA hown hK hP 0 rfl rfl 16 (by decide) (hts _ kF_MA_83) (fun _ h9 => h9) rfl d_MA_leaveBlock_27 ?_
      refine lv_iconst (v := 1) hx hb d_MA_leaveBlock_30 (by decide) ?_
      refine lv_isub hx hb d_MA_leaveBlock_31 ?_
      refine lv_topi (fun x10 ex10 => ?_)
      have tx10 : x10.toInt = h0_labelCount.toInt - 1 := by have z := i32_sub ex10 (by (first | (apply Int.le_antisymm <;> omega) | omega)) (by (first | (apply Int.le_antisymm <;> omega) | omega)); first | exact z | (first | (apply Int.le_antisymm <;> omega) | omega)
      refine va_put (D := (dC, dI)) (ci := 4) (v := .int x10) (ty := .int) (C := R_MA) (T := F_MA) (N := 18) hx hb hts i_MA t_MA t_MA_ok n_MA hown hK hP hD hS 0 rfl rfl 16 (by decide) (hts _ kF_MA_83) (fun _ h9 => h9) rfl (by decide +kernel) rfl rfl (Nat.le_of_ble_eq_true rfl) d_MA_leaveBlock_32 (fun H locs hP hD hS => ?_)
      refine lv_goto (tgt := 42) hx hb d_MA_leaveBlock_35 (by decide) ?_
      have hP9 := hP.sb (wq := (wz_25 h0 h0_pages h0_steps h0_reason gl aw ac ce sk h0_height fb fs ff fl h0_frameCount lb lh x10 h0_at aw law sk csk gsk fb cfb gfb fs cfs gfs ff cff gff fl cfl gfl lb clb glb lh clh glh waf cwaf gwaf wag cwag gwag)) [0, 1, 2, 3, 4, 5, 6, 7, 8, 9, 10] rfl
      have hD9 := hD.sb (wq := (wz_25 h0 h0_pages h0_steps h0_reason gl aw ac ce sk h0_height fb fs ff fl h0_frameCount lb lh x10 h0_at aw law sk csk gsk fb cfb gfb fs cfs gfs ff cff gff fl cfl gfl lb clb glb lh clh glh waf cwaf gwaf wag cwag gwag)) [0, 1, 2, 3, 4, 5, 6, 7, 8, 9, 10] (by decide) rfl
      exact W.vret hx hb hr (fun t ht hW => ⟨⟨(gsk, h0_at, h0_frameCount, h0_height, x10, h0_reason), rfl, ⟨b_h0_frameCount, b_h0_height, by (try dsimp only); (first | (apply Int.le_antisymm <;> omega) | omega), b_h0_reason, by obtain ⟨b9, r9, e9⟩ : ∃ b r, bs = b :: r := (by cases bs with | nil => exact absurd o6 (by rw [List.length_nil]; (first | (apply Int.le_antisymm <;> omega) | omega)) | cons b r => exact ⟨b, r, rfl⟩); obtain ⟨E1, E2⟩ := hE b9 r9 e9; have T9 := hT.drop 1 (by rw [e9]; simp); rw [show bs.drop 1 = r9 from by rw [e9]; rfl] at T9; exact mc_go T9 (by (try dsimp only); (first | (apply Int.le_antisymm <;> omega) | omega)) E1 E2 (fun _ => hH) (by (try dsimp only); (first | (apply Int.le_antisymm <;> omega) | omega))⟩, va_P.he ht.symm hP9, va_K.moved hW.alike hK, hD9⟩, hS.F ht⟩) hS.2.2 d_MA_leaveBlock_42
abbrev b_MA_branch : ByteArray := prog_6_method_10_code
def y_MA_branch : MethodName := ⟨R_MA, "branch", "(I)V"⟩
abbrev w_MA_branch : List Cond := .code y_MA_branch b_MA_branch 4 none :: lw_g
theorem kC_MA_branch : Cond.code y_MA_branch b_MA_branch 4 none ∈ lw_g := in_c7 146 rfl rfl
theorem d_MA_branch_0 : decode b_MA_branch 0 = .ok (.aload_n 0, 1) := bz_c42 (by decide +kernel)
theorem d_MA_branch_1 : decode b_MA_branch 1 = .ok (.getfield 83, 3) := bz_c180 (by decide +kernel)
theorem d_MA_branch_4 : decode b_MA_branch 4 = .ok (.iconst 1, 1) := bz_c4 (by decide +kernel)
theorem d_MA_branch_5 : decode b_MA_branch 5 = .ok (.isub, 1) := bz_c100 (by decide +kernel)
theorem d_MA_branch_6 : decode b_MA_branch 6 = .ok (.iload_n 1, 1) := bz_c27 (by decide +kernel)
theorem d_MA_branch_7 : decode b_MA_branch 7 = .ok (.isub, 1) := bz_c100 (by decide +kernel)
theorem d_MA_branch_8 : decode b_MA_branch 8 = .ok (.istore_n 2, 1) := bz_c61 (by decide +kernel)
theorem d_MA_branch_9 : decode b_MA_branch 9 = .ok (.aload_n 0, 1) := bz_c42 (by decide +kernel)
theorem d_MA_branch_10 : decode b_MA_branch 10 = .ok (.getfield 80, 3) := bz_c180 (by decide +kernel)
theorem d_MA_branch_13 : decode b_MA_branch 13 = .ok (.ifCond .eq 18, 3) := bz_c153 (by decide +kernel)
theorem d_MA_branch_16 : decode b_MA_branch 16 = .ok (.iload_n 2, 1) := bz_c28 (by decide +kernel)
theorem d_MA_branch_17 : decode b_MA_branch 17 = .ok (.aload_n 0, 1) := bz_c42 (by decide +kernel)
theorem d_MA_branch_18 : decode b_MA_branch 18 = .ok (.getfield 31, 3) := bz_c180 (by decide +kernel)
theorem d_MA_branch_21 : decode b_MA_branch 21 = .ok (.aload_n 0, 1) := bz_c42 (by decide +kernel)
theorem d_MA_branch_22 : decode b_MA_branch 22 = .ok (.getfield 80, 3) := bz_c180 (by decide +kernel)
theorem d_MA_branch_25 : decode b_MA_branch 25 = .ok (.iconst 1, 1) := bz_c4 (by decide +kernel)
theorem d_MA_branch_26 : decode b_MA_branch 26 = .ok (.isub, 1) := bz_c100 (by decide +kernel)
theorem d_MA_branch_27 : decode b_MA_branch 27 = .ok (.iaload, 1) := bz_c46 (by decide +kernel)
theorem d_MA_branch_28 : decode b_MA_branch 28 = .ok (.if_icmp .ge 8, 3) := bz_c162 (by decide +kernel)
theorem d_MA_branch_31 : decode b_MA_branch 31 = .ok (.aload_n 0, 1) := bz_c42 (by decide +kernel)
theorem d_MA_branch_32 : decode b_MA_branch 32 = .ok (.invokevirtual 173, 3) := bz_c182 (by decide +kernel)
theorem d_MA_branch_35 : decode b_MA_branch 35 = .ok (.return_, 1) := bz_c177 (by decide +kernel)
theorem d_MA_branch_36 : decode b_MA_branch 36 = .ok (.aload_n 0, 1) := bz_c42 (by decide +kernel)
theorem d_MA_branch_37 : decode b_MA_branch 37 = .ok (.getfield 34, 3) := bz_c180 (by decide +kernel)
theorem d_MA_branch_40 : decode b_MA_branch 40 = .ok (.iload_n 2, 1) := bz_c28 (by decide +kernel)
theorem d_MA_branch_41 : decode b_MA_branch 41 = .ok (.iaload, 1) := bz_c46 (by decide +kernel)
theorem d_MA_branch_42 : decode b_MA_branch 42 = .ok (.istore_n 3, 1) := bz_c62 (by decide +kernel)
theorem d_MA_branch_43 : decode b_MA_branch 43 = .ok (.aload_n 0, 1) := bz_c42 (by decide +kernel)
theorem d_MA_branch_44 : decode b_MA_branch 44 = .ok (.getfield 50, 3) := bz_c180 (by decide +kernel)
theorem d_MA_branch_47 : decode b_MA_branch 47 = .ok (.getfield 114, 3) := bz_c180 (by decide +kernel)
theorem d_MA_branch_50 : decode b_MA_branch 50 = .ok (.iload_n 3, 1) := bz_c29 (by decide +kernel)
theorem d_MA_branch_51 : decode b_MA_branch 51 = .ok (.iaload, 1) := bz_c46 (by decide +kernel)
theorem d_MA_branch_52 : decode b_MA_branch 52 = .ok (.iconst 3, 1) := bz_c6 (by decide +kernel)
theorem d_MA_branch_53 : decode b_MA_branch 53 = .ok (.if_icmp .ne 30, 3) := bz_c160 (by decide +kernel)
theorem d_MA_branch_56 : decode b_MA_branch 56 = .ok (.aload_n 0, 1) := bz_c42 (by decide +kernel)
theorem d_MA_branch_57 : decode b_MA_branch 57 = .ok (.aload_n 0, 1) := bz_c42 (by decide +kernel)
theorem d_MA_branch_58 : decode b_MA_branch 58 = .ok (.getfield 37, 3) := bz_c180 (by decide +kernel)
theorem d_MA_branch_61 : decode b_MA_branch 61 = .ok (.iload_n 2, 1) := bz_c28 (by decide +kernel)
theorem d_MA_branch_62 : decode b_MA_branch 62 = .ok (.iaload, 1) := bz_c46 (by decide +kernel)
theorem d_MA_branch_63 : decode b_MA_branch 63 = .ok (.putfield 77, 3) := bz_c181 (by decide +kernel)
theorem d_MA_branch_66 : decode b_MA_branch 66 = .ok (.aload_n 0, 1) := bz_c42 (by decide +kernel)
theorem d_MA_branch_67 : decode b_MA_branch 67 = .ok (.iload_n 2, 1) := bz_c28 (by decide +kernel)
theorem d_MA_branch_68 : decode b_MA_branch 68 = .ok (.iconst 1, 1) := bz_c4 (by decide +kernel)
theorem d_MA_branch_69 : decode b_MA_branch 69 = .ok (.iadd, 1) := bz_c96 (by decide +kernel)
theorem d_MA_branch_70 : decode b_MA_branch 70 = .ok (.putfield 83, 3) := bz_c181 (by decide +kernel)
theorem d_MA_branch_73 : decode b_MA_branch 73 = .ok (.aload_n 0, 1) := bz_c42 (by decide +kernel)
theorem d_MA_branch_74 : decode b_MA_branch 74 = .ok (.iload_n 3, 1) := bz_c29 (by decide +kernel)
theorem d_MA_branch_75 : decode b_MA_branch 75 = .ok (.iconst 1, 1) := bz_c4 (by decide +kernel)
theorem d_MA_branch_76 : decode b_MA_branch 76 = .ok (.iadd, 1) := bz_c96 (by decide +kernel)
theorem d_MA_branch_77 : decode b_MA_branch 77 = .ok (.putfield 106, 3) := bz_c181 (by decide +kernel)
theorem d_MA_branch_80 : decode b_MA_branch 80 = .ok (.goto 54, 3) := bz_c167 (by decide +kernel)
theorem d_MA_branch_83 : decode b_MA_branch 83 = .ok (.aload_n 0, 1) := bz_c42 (by decide +kernel)
theorem d_MA_branch_84 : decode b_MA_branch 84 = .ok (.aload_n 0, 1) := bz_c42 (by decide +kernel)
theorem d_MA_branch_85 : decode b_MA_branch 85 = .ok (.getfield 37, 3) := bz_c180 (by decide +kernel)
theorem d_MA_branch_88 : decode b_MA_branch 88 = .ok (.iload_n 2, 1) := bz_c28 (by decide +kernel)
theorem d_MA_branch_89 : decode b_MA_branch 89 = .ok (.iaload, 1) := bz_c46 (by decide +kernel)
theorem d_MA_branch_90 : decode b_MA_branch 90 = .ok (.aload_n 0, 1) := bz_c42 (by decide +kernel)
theorem d_MA_branch_91 : decode b_MA_branch 91 = .ok (.getfield 50, 3) := bz_c180 (by decide +kernel)
theorem d_MA_branch_94 : decode b_MA_branch 94 = .ok (.getfield 128, 3) := bz_c180 (by decide +kernel)
theorem d_MA_branch_97 : decode b_MA_branch 97 = .ok (.iload_n 3, 1) := bz_c29 (by decide +kernel)
theorem d_MA_branch_98 : decode b_MA_branch 98 = .ok (.laload, 1) := bz_c47 (by decide +kernel)
theorem d_MA_branch_99 : decode b_MA_branch 99 = .ok (.ldc2_w 179, 3) := bz_c20 (by decide +kernel)
theorem d_MA_branch_102 : decode b_MA_branch 102 = .ok (.lcmp, 1) := bz_c148 (by decide +kernel)
theorem d_MA_branch_103 : decode b_MA_branch 103 = .ok (.ifCond .eq 7, 3) := bz_c153 (by decide +kernel)
theorem d_MA_branch_106 : decode b_MA_branch 106 = .ok (.iconst 1, 1) := bz_c4 (by decide +kernel)
theorem d_MA_branch_107 : decode b_MA_branch 107 = .ok (.goto 4, 3) := bz_c167 (by decide +kernel)
theorem d_MA_branch_110 : decode b_MA_branch 110 = .ok (.iconst 0, 1) := bz_c3 (by decide +kernel)
theorem d_MA_branch_111 : decode b_MA_branch 111 = .ok (.invokevirtual 181, 3) := bz_c182 (by decide +kernel)
theorem d_MA_branch_114 : decode b_MA_branch 114 = .ok (.aload_n 0, 1) := bz_c42 (by decide +kernel)
theorem d_MA_branch_115 : decode b_MA_branch 115 = .ok (.iload_n 2, 1) := bz_c28 (by decide +kernel)
theorem d_MA_branch_116 : decode b_MA_branch 116 = .ok (.putfield 83, 3) := bz_c181 (by decide +kernel)
theorem d_MA_branch_119 : decode b_MA_branch 119 = .ok (.aload_n 0, 1) := bz_c42 (by decide +kernel)
theorem d_MA_branch_120 : decode b_MA_branch 120 = .ok (.aload_n 0, 1) := bz_c42 (by decide +kernel)
theorem d_MA_branch_121 : decode b_MA_branch 121 = .ok (.getfield 50, 3) := bz_c180 (by decide +kernel)
theorem d_MA_branch_124 : decode b_MA_branch 124 = .ok (.getfield 120, 3) := bz_c180 (by decide +kernel)
theorem d_MA_branch_127 : decode b_MA_branch 127 = .ok (.iload_n 3, 1) := bz_c29 (by decide +kernel)
theorem d_MA_branch_128 : decode b_MA_branch 128 = .ok (.iaload, 1) := bz_c46 (by decide +kernel)
theorem d_MA_branch_129 : decode b_MA_branch 129 = .ok (.iconst 1, 1) := bz_c4 (by decide +kernel)
theorem d_MA_branch_130 : decode b_MA_branch 130 = .ok (.iadd, 1) := bz_c96 (by decide +kernel)
theorem d_MA_branch_131 : decode b_MA_branch 131 = .ok (.putfield 106, 3) := bz_c181 (by decide +kernel)
theorem d_MA_branch_134 : decode b_MA_branch 134 = .ok (.return_, 1) := bz_c177 (by decide +kernel)
theorem kF_MA_114 : Cond.fieldLink R_MA 114 "WaferForge$Codes" "ops" "[I" ∈ lw_g := in_c1 98 rfl rfl
theorem kF_MA_128 : Cond.fieldLink R_MA 128 "WaferForge$Codes" "values" "[J" ∈ lw_g := in_c1 103 rfl rfl
theorem kL_MA_179 : Cond.constantLong R_MA 179 (64) ∈ lw_g := in_c7 147 rfl rfl
theorem kF_MA_120 : Cond.fieldLink R_MA 120 "WaferForge$Codes" "partners" "[I" ∈ lw_g := in_c1 106 rfl rfl
abbrev at_MA_branch (dC : Nat → ClassId) (dI : Nat → Nat → Nat) (h0 gl aw ac ce sk fb fs ff fl lb lh wag waf cfi clk ac_localTypes_r cop cva cpt cel cla : Nat) (csk cfb cfs cff cfl clb clh cwaf cwag ccop ccva ccpt : ClassId) (h0_pages : Int32) (h0_steps : Int32) (law : List Value) (ac_length : Int32) (ac_labelCount : Int32) (gfb : Nat → Int32) (gfs : Nat → Int32) (gff : Nat → Int32) (gfl : Nat → Int32) (glb : Nat → Int32) (glh : Nat → Int32) (gwaf : Nat → Int32) (gwag : Nat → Int32) (gcop : Nat → Int32) (gcva : Nat → Int64) (gcpt : Nat → Int32) (A : Nat → Prop) (u : (Nat → Int64) × Int32 × Int32 × Int32 × Int32 × Int32) (t : State) : Prop := match u with | (gsk, h0_at, h0_frameCount, h0_height, h0_labelCount, h0_reason) => va_P (dC, dI) cls (wz_29 h0 h0_pages h0_steps h0_reason gl aw ac ce sk h0_height fb fs ff fl h0_frameCount lb lh h0_labelCount h0_at aw law ac cfi clk ac_localTypes_r ac_length cop cva cpt cel ac_labelCount cla sk csk gsk fb cfb gfb fs cfs gfs ff cff gff fl cfl gfl lb clb glb lh clh glh waf cwaf gwaf wag cwag gwag cop ccop gcop cva ccva gcva cpt ccpt gcpt) t.heap ∧ va_K (dC, dI) cls [(csk, .long), (cfb, .int), (cfs, .int), (cff, .int), (cfl, .int), (clb, .int), (clh, .int), (cwaf, .int), (cwag, .int), (ccop, .int), (ccva, .long), (ccpt, .int)] t ∧ va_D A (wz_29 h0 h0_pages h0_steps h0_reason gl aw ac ce sk h0_height fb fs ff fl h0_frameCount lb lh h0_labelCount h0_at aw law ac cfi clk ac_localTypes_r ac_length cop cva cpt cel ac_labelCount cla sk csk gsk fb cfb gfb fs cfs gfs ff cff gff fl cfl gfl lb clb glb lh clh glh waf cwaf gwaf wag cwag gwag cop ccop gcop cva ccva gcva cpt ccpt gcpt)
set_option maxHeartbeats 4000000 in
set_option maxRecDepth 100000 in
theorem c_MA_branch (l : Launch) (dC : Nat → ClassId) (dI : Nat → Nat → Nat) (sz : Nat) (h0 gl aw ac ce sk fb fs ff fl lb lh wag waf cfi clk ac_localTypes_r cop cva cpt cel cla : Nat) (csk cfb cfs cff cfl clb clh cwaf cwag ccop ccva ccpt : ClassId) (h0_pages : Int32) (h0_steps : Int32) (h0_reason : Int32) (h0_height : Int32) (h0_frameCount : Int32) (h0_labelCount : Int32) (h0_at : Int32) (law : List Value) (ac_length : Int32) (ac_labelCount : Int32) (gsk : Nat → Int64) (gfb : Nat → Int32) (gfs : Nat → Int32) (gff : Nat → Int32) (gfl : Nat → Int32) (glb : Nat → Int32) (glh : Nat → Int32) (gwaf : Nat → Int32) (gwag : Nat → Int32) (gcop : Nat → Int32) (gcva : Nat → Int64) (gcpt : Nat → Int32) (an : mc_A) (nl : Nat → Int) (gv : Nat → Int) (fc : Int) (f : Nat) (bs : List (Nat × Int)) (paw_5 : law[5]? = some (.ref wag)) (paw_7 : law[7]? = some (.ref waf)) (plaw : law.length = 21) (b_h0_reason : 0 ≤ h0_reason.toInt ∧ h0_reason.toInt ≤ 14) (b_h0_height : 0 ≤ h0_height.toInt ∧ h0_height.toInt ≤ 12096) (b_h0_frameCount : 0 ≤ h0_frameCount.toInt ∧ h0_frameCount.toInt ≤ 100) (b_h0_labelCount : 0 ≤ h0_labelCount.toInt ∧ h0_labelCount.toInt ≤ 10000) (p0 : Int32) (ba0 : 0 ≤ p0.toInt ∧ p0.toInt ≤ 2147483647) (hr0 : h0_reason.toInt = 0) (hk1 : 1 ≤ h0_frameCount.toInt) (hT : mc_tp an nl gv gfb gfs gff gfl glb glh (h0_frameCount.toInt - 1).toNat f bs h0_labelCount.toInt) (hf : (f : Int) < fc) (hfn : ∀ f : Nat, (f : Int) < fc → f < 30 ∧ 0 ≤ (gwaf f).toInt ∧ (gwaf f).toInt < 20) (hgv : ∀ f : Nat, (f : Int) < fc → gv f = if (gwag (gwaf f).toNatClampNeg).toInt = 64 then 0 else 1) (hL : mc_lab an gcop gcpt gcva f bs p0.toInt) : Met l y_MA_branch w_MA_branch ({ frames := 3, cells := 0, slots := 0, locals := 66 }) (va_Pc [.ref h0, .int p0] (fun U => U.heap.size = sz ∧ va_P (dC, dI) cls (wz_29 h0 h0_pages h0_steps h0_reason gl aw ac ce sk h0_height fb fs ff fl h0_frameCount lb lh h0_labelCount h0_at aw law ac cfi clk ac_localTypes_r ac_length cop cva cpt cel ac_labelCount cla sk csk gsk fb cfb gfb fs cfs gfs ff cff gff fl cfl gfl lb clb glb lh clh glh waf cwaf gwaf wag cwag gwag cop ccop gcop cva ccva gcva cpt ccpt gcpt) U.heap ∧ va_K (dC, dI) cls [(csk, .long), (cfb, .int), (cfs, .int), (cff, .int), (cfl, .int), (clb, .int), (clh, .int), (cwaf, .int), (cwag, .int), (ccop, .int), (ccva, .long), (ccpt, .int)] U ∧ va_D (fun _ => True) (wz_29 h0 h0_pages h0_steps h0_reason gl aw ac ce sk h0_height fb fs ff fl h0_frameCount lb lh h0_labelCount h0_at aw law ac cfi clk ac_localTypes_r ac_length cop cva cpt cel ac_labelCount cla sk csk gsk fb cfb gfb fs cfs gfs ff cff gff fl cfl gfl lb clb glb lh clh glh waf cwaf gwaf wag cwag gwag cop ccop gcop cva ccva gcva cpt ccpt gcpt))) (va_Qv (fun (u : (Nat → Int64) × Int32 × Int32 × Int32 × Int32 × Int32) => match u with | (gsk2, h0_at2, h0_frameCount2, h0_height2, h0_labelCount2, h0_reason2) => (0 ≤ h0_frameCount2.toInt ∧ h0_frameCount2.toInt ≤ 100) ∧ (0 ≤ h0_height2.toInt ∧ h0_height2.toInt ≤ 12096) ∧ (0 ≤ h0_labelCount2.toInt ∧ h0_labelCount2.toInt ≤ 10000) ∧ (0 ≤ h0_reason2.toInt ∧ h0_reason2.toInt ≤ 14) ∧ (mc_after an nl gv gfb gfs gff gfl glb glh h0_reason2 h0_frameCount2 h0_at2 h0_height2 h0_labelCount2)) (at_MA_branch dC dI h0 gl aw ac ce sk fb fs ff fl lb lh wag waf cfi clk ac_localTypes_r cop cva cpt cel cla csk cfb cfs cff cfl clb clh cwaf cwag ccop ccva ccpt h0_pages h0_steps law ac_length ac_labelCount gfb gfs gff gfl glb glh gwaf gwag gcop gcva gcpt (va_A (wz_29 h0 h0_pages h0_steps h0_reason gl aw ac ce sk h0_height fb fs ff fl h0_frameCount lb lh h0_labelCount h0_at aw law ac cfi clk ac_localTypes_r ac_length cop cva cpt cel ac_labelCount cla sk csk gsk fb cfb gfb fs cfs gfs ff cff gff fl cfl gfl lb clb glb lh clh glh waf cwaf gwaf wag cwag gwag cop ccop gcop cva ccva gcva cpt ccpt gcpt) sz)) (va_A (wz_29 h0 h0_pages h0_steps h0_reason gl aw ac ce sk h0_height fb fs ff fl h0_frameCount lb lh h0_labelCount h0_at aw law ac cfi clk ac_localTypes_r ac_length cop cva cpt cel ac_labelCount cla sk csk gsk fb cfb gfb fs cfs gfs ff cff gff fl cfl gfl lb clb glb lh clh glh waf cwaf gwaf wag cwag gwag cop ccop gcop cva ccva gcva cpt ccpt gcpt) sz)) 0 0 (va_A (wz_29 h0 h0_pages h0_steps h0_reason gl aw ac ce sk h0_height fb fs ff fl h0_frameCount lb lh h0_labelCount h0_at aw law ac cfi clk ac_localTypes_r ac_length cop cva cpt cel ac_labelCount cla sk csk gsk fb cfb gfb fs cfs gfs ff cff gff fl cfl gfl lb clb glb lh clh glh waf cwaf gwaf wag cwag gwag cop ccop gcop cva ccva gcva cpt ccpt gcpt) sz) := by
  refine Met.ofW (cc := b_MA_branch) (maxL := 4) (ret := none) (by decide) rfl ?_
  intro p e s m args below meth c s₁ B hml hv
  obtain ⟨rfl, hsz, hP, hK, hD0⟩ := hv
  have hx := B.exec
  have hb := B.bytes
  have hr := B.returns
  have hts0 := atoms_spec (ws := w_MA_branch) B.pre
  have hts : ∀ w ∈ lw_g, w.before _ s = true := fun w h => hts0 w (List.mem_cons_of_mem _ h)
  have hown : s.vm.findClass R_MA = some m.cls := findClass_of_methodNamed B.named
  have hlocks := B.notSynchronized
  clear hts0
  subst hsz
  have hD := hD0.self (sz := s.heap.size)
  generalize hAe : va_A (wz_29 h0 h0_pages h0_steps h0_reason gl aw ac ce sk h0_height fb fs ff fl h0_frameCount lb lh h0_labelCount h0_at aw law ac cfi clk ac_localTypes_r ac_length cop cva cpt cel ac_labelCount cla sk csk gsk fb cfb gfb fs cfs gfs ff cff gff fl cfl gfl lb clb glb lh clh glh waf cwaf gwaf wag cwag gwag cop ccop gcop cva ccva gcva cpt ccpt gcpt) s.heap.size = A at hD ⊢
  have hA : ∀ q : Nat, s.heap.size ≤ q → A q := fun q h => by rw [← hAe]; exact Or.inr h
  clear hAe
  have hP : va_P (dC, dI) cls (wz_29 h0 h0_pages h0_steps h0_reason gl aw ac ce sk h0_height fb fs ff fl h0_frameCount lb lh h0_labelCount h0_at aw law ac cfi clk ac_localTypes_r ac_length cop cva cpt cel ac_labelCount cla sk csk gsk fb cfb gfb fs cfs gfs ff cff gff fl cfl gfl lb clb glb lh clh glh waf cwaf gwaf wag cwag gwag cop ccop gcop cva ccva gcva cpt ccpt gcpt) s.heap := hP
  have hl := lv_entry ([.ref h0, .int p0]) (n := 4) (Nat.le_of_ble_eq_true rfl)
  rw [lg_entry_eq]
  generalize (lg_sl ([.ref h0, .int p0]) ++ List.replicate (4 - (lg_sl ([.ref h0, .int p0])).length) Slot.unset).toArray = ls at hl ⊢
  have hl : lv_has ls 4 [(0, .ref h0), (1, .int p0)] := hl
  have k0 : (0 : Int32).toInt = 0 := by decide
  refine w_gen (A := A) hP (fun H locs hP hS => ?_)
  have k1 : (1 : Int32).toInt = 1 := by decide
  have k3 : (3 : Int32).toInt = 3 := by decide
  have lo_p0 := i32_lo p0
  have hi_p0 := i32_hi p0
  obtain ⟨o1, o2, o3, o4, o5, o6, o7, o8⟩ := hT.1
  have hk9 : (((h0_frameCount.toInt - 1).toNat : Nat) : Int) = h0_frameCount.toInt - 1 := by (first | (apply Int.le_antisymm <;> omega) | omega)
  have hfn9 := hfn f hf
  have hp9 := i32_clamp (x := p0) (by (first | (apply Int.le_antisymm <;> omega) | omega))
  refine lv_aload_n hx hb d_MA_branch_0 rfl (lv_at hl 0 rfl) ?_
  refine va_get (D := (dC, dI)) (ci := 4) (v := .int h0_labelCount) (C := R_MA) (T := F_MA) (N := 18) hx hb hts i_MA hown hK hP 0 rfl rfl 16 (by decide) (hts _ kF_MA_83) (fun _ h9 => h9) rfl d_MA_branch_1 ?_
  refine lv_iconst (v := 1) hx hb d_MA_branch_4 (by decide) ?_
  refine lv_isub hx hb d_MA_branch_5 ?_
  refine lv_topi (fun x1 ex1 => ?_)
  have tx1 : x1.toInt = h0_labelCount.toInt - 1 := by have z := i32_sub ex1 (by (first | (apply Int.le_antisymm <;> omega) | omega)) (by (first | (apply Int.le_antisymm <;> omega) | omega)); first | exact z | (first | (apply Int.le_antisymm <;> omega) | omega)
  refine lv_iload_n hx hb d_MA_branch_6 rfl (lv_at hl 1 rfl) ?_
  refine lv_isub hx hb d_MA_branch_7 ?_
  refine lv_topi (fun x2 ex2 => ?_)
  have tx2 : x2.toInt = x1.toInt - p0.toInt := by have z := i32_sub ex2 (by (first | (apply Int.le_antisymm <;> omega) | omega)) (by (first | (apply Int.le_antisymm <;> omega) | omega)); first | exact z | (first | (apply Int.le_antisymm <;> omega) | omega)
  refine lv_istore_n (lv' := [(2, .int x2), (0, .ref h0), (1, .int p0)]) hx hb d_MA_branch_8 rfl hl (by decide) rfl (fun ls hl => ?_)
  refine lv_aload_n hx hb d_MA_branch_9 rfl (lv_at hl 1 rfl) ?_
  refine va_get (D := (dC, dI)) (ci := 4) (v := .int h0_frameCount) (C := R_MA) (T := F_MA) (N := 18) hx hb hts i_MA hown hK hP 0 rfl rfl 13 (by decide) (hts _ kF_MA_80) (fun _ h9 => h9) rfl d_MA_branch_10 ?_
  refine w_cut (pc2 := 31) (σ := Unit) (fun u H locs ls => match u with | _ => va_P (dC, dI) cls (wz_29 h0 h0_pages h0_steps h0_reason gl aw ac ce sk h0_height fb fs ff fl h0_frameCount lb lh h0_labelCount h0_at aw law ac cfi clk ac_localTypes_r ac_length cop cva cpt cel ac_labelCount cla sk csk gsk fb cfb gfb fs cfs gfs ff cff gff fl cfl gfl lb clb glb lh clh glh waf cwaf gwaf wag cwag gwag cop ccop gcop cva ccva gcva cpt ccpt gcpt) H ∧ va_D A (wz_29 h0 h0_pages h0_steps h0_reason gl aw ac ce sk h0_height fb fs ff fl h0_frameCount lb lh h0_labelCount h0_at aw law ac cfi clk ac_localTypes_r ac_length cop cva cpt cel ac_labelCount cla sk csk gsk fb cfb gfb fs cfs gfs ff cff gff fl cfl gfl lb clb glb lh clh glh waf cwaf gwaf wag cwag gwag cop ccop gcop cva ccva gcva cpt ccpt gcpt) ∧ va_S A s.heap H locs ∧ lv_has ls 4 [(0, .ref h0)]) (fun u => match u with | _ => []) ?_ (fun jn31 => ?_)
  · intro u H locs ls hI
    obtain ⟨hP, hD, hS, hl⟩ := hI
    refine lv_aload_n hx hb d_MA_branch_31 rfl (lv_at hl 0 rfl) ?_
    have hPc := hP.sb (wq := (wz_25 h0 h0_pages h0_steps h0_reason gl aw ac ce sk h0_height fb fs ff fl h0_frameCount lb lh h0_labelCount h0_at aw law sk csk gsk fb cfb gfb fs cfs gfs ff cff gff fl cfl gfl lb clb glb lh clh glh waf cwaf gwaf wag cwag gwag)) [0, 1, 3, 4, 5, 6, 7, 8, 9, 10, 11] rfl
    have hDc := hD.sb (wq := (wz_25 h0 h0_pages h0_steps h0_reason gl aw ac ce sk h0_height fb fs ff fl h0_frameCount lb lh h0_labelCount h0_at aw law sk csk gsk fb cfb gfb fs cfs gfs ff cff gff fl cfl gfl lb clb glb lh clh glh waf cwaf gwaf wag cwag gwag)) [0, 1, 3, 4, 5, 6, 7, 8, 9, 10, 11] (by decide) rfl
    have hKc := hK.sb (tyq := [(csk, .long), (cfb, .int), (cfs, .int), (cff, .int), (cfl, .int), (clb, .int), (clh, .int), (cwaf, .int), (cwag, .int)]) [0, 1, 2, 3, 4, 5, 6, 7, 8] rfl
    have hFc := va_free (wc := (wz_25 h0 h0_pages h0_steps h0_reason gl aw ac ce sk h0_height fb fs ff fl h0_frameCount lb lh h0_labelCount h0_at aw law sk csk gsk fb cfb gfb fs cfs gfs ff cff gff fl cfl gfl lb clb glb lh clh glh waf cwaf gwaf wag cwag gwag)) hD hS hA [0, 1, 3, 4, 5, 6, 7, 8, 9, 10, 11] rfl
    refine va_callv (va_runV (As := []) (rest := []) ⟨hx, hb, hml, hown, hts⟩ (c_MA_leaveFunction l dC dI H.size h0 gl aw ac ce sk fb fs ff fl lb lh wag waf csk cfb cfs cff cfl clb clh cwaf cwag h0_pages h0_steps h0_reason h0_height h0_frameCount h0_labelCount h0_at law gsk gfb gfs gff gfl glb glh gwaf gwag an nl gv fc f bs paw_5 paw_7 plaw (b_h0_reason) (b_h0_height) (b_h0_frameCount) (b_h0_labelCount) (hr0) (hk1) (hT) (hf) (hfn) (hgv)) (cwV 0 hts (gV kM_MA_173 kV_MA_leaveFunction kS_MA_leaveFunction kI_MA kC_MA_leaveFunction) rfl rfl rfl (by decide +kernel) ⟨Nat.le_of_ble_eq_true rfl, Nat.le_of_ble_eq_true rfl⟩) ⟨fun a U g mk z => by obtain ⟨z0, z1, zP, zK, zD⟩ := z; exact ⟨z0, z1, zP, va_K.moved (u := U) (U := U.calling g mk a) (Vm.Alike.refl U.vm) zK, zD⟩, va_recv hKc hPc (ci := 4) (q0 := 0) rfl rfl, fun U hU hW => ⟨rfl, by rw [hU], va_P.he hU.symm hPc, va_K.moved hW.alike hKc, hDc.weaken (fun _ _ _ _ => trivial)⟩⟩ rfl rfl hl.1 rfl (lv_room (Nat.le_of_ble_eq_true rfl)) d_MA_branch_32 ⟨(Nat.zero_le _), (Nat.zero_le _)⟩) hS (fun q _ h => hFc q h) hFc (fun u t H1 locs ht hvm hw hB hz1 hk1 hS => ?_)
    obtain ⟨n4, n5, n6, n7, n8, n9⟩ := u
    try dsimp only at hw
    obtain ⟨bn6, bn7, bn8, bn9, xr3⟩ := hw
    try clear hw
    obtain ⟨hP1, hK1, hD1⟩ := hB
    replace hP1 := va_P.he ht hP1
    obtain ⟨hP, hD⟩ := va_join (wr := [(ac, .inr (3, [.ref cfi, .ref clk, .ref ac_localTypes_r, .int ac_length, .ref cop, .ref cva, .ref cpt, .ref cel, .int ac_labelCount, .ref cla])), (cop, .inl (ccop, 5000, .inl gcop)), (cva, .inl (ccva, 5000, .inr (.inl gcva))), (cpt, .inl (ccpt, 5000, .inl gcpt))]) (w1 := (wz_25 h0 h0_pages h0_steps n9 gl aw ac ce sk n7 fb fs ff fl n6 lb lh n8 n5 aw law sk csk n4 fb cfb gfb fs cfs gfs ff cff gff fl cfl gfl lb clb glb lh clh glh waf cwaf gwaf wag cwag gwag)) hP hD [0, 1, 3, 4, 5, 6, 7, 8, 9, 10, 11] [2, 12, 13, 14] rfl rfl (by decide) (by decide) hk1 hFc hP1 hD1
    clear hPc hDc hKc hFc hz1 hk1 hP1 hK1 hD1
    rename Heap => H
    have hP : va_P (dC, dI) cls [(ac, .inr (3, [.ref cfi, .ref clk, .ref ac_localTypes_r, .int ac_length, .ref cop, .ref cva, .ref cpt, .ref cel, .int ac_labelCount, .ref cla])), (cop, .inl (ccop, 5000, .inl gcop)), (cva, .inl (ccva, 5000, .inr (.inl gcva))), (cpt, .inl (ccpt, 5000, .inl gcpt)), (h0, .inr (4, [.int h0_pages, .int h0_steps, .int n9, .ref gl, .ref aw, .ref ac, .ref ce, .ref sk, .int n7, .ref fb, .ref fs, .ref ff, .ref fl, .int n6, .ref lb, .ref lh, .int n8, .int n5])), (aw, .inr (10, law)), (sk, .inl (csk, 12096, .inr (.inl n4))), (fb, .inl (cfb, 100, .inl gfb)), (fs, .inl (cfs, 100, .inl gfs)), (ff, .inl (cff, 100, .inl gff)), (fl, .inl (cfl, 100, .inl gfl)), (lb, .inl (clb, 10000, .inl glb)), (lh, .inl (clh, 10000, .inl glh)), (waf, .inl (cwaf, 30, .inl gwaf)), (wag, .inl (cwag, 20, .inl gwag))] H := hP
    have hD : va_D A [(ac, .inr (3, [.ref cfi, .ref clk, .ref ac_localTypes_r, .int ac_length, .ref cop, .ref cva, .ref cpt, .ref cel, .int ac_labelCount, .ref cla])), (cop, .inl (ccop, 5000, .inl gcop)), (cva, .inl (ccva, 5000, .inr (.inl gcva))), (cpt, .inl (ccpt, 5000, .inl gcpt)), (h0, .inr (4, [.int h0_pages, .int h0_steps, .int n9, .ref gl, .ref aw, .ref ac, .ref ce, .ref sk, .int n7, .ref fb, .ref fs, .ref ff, .ref fl, .int n6, .ref lb, .ref lh, .int n8, .int n5])), (aw, .inr (10, law)), (sk, .inl (csk, 12096, .inr (.inl n4))), (fb, .inl (cfb, 100, .inl gfb)), (fs, .inl (cfs, 100, .inl gfs)), (ff, .inl (cff, 100, .inl gff)), (fl, .inl (cfl, 100, .inl gfl)), (lb, .inl (clb, 10000, .inl glb)), (lh, .inl (clh, 10000, .inl glh)), (waf, .inl (cwaf, 30, .inl gwaf)), (wag, .inl (cwag, 20, .inl gwag))] := hD
    have hP9 := hP.sb (wq := (wz_29 h0 h0_pages h0_steps n9 gl aw ac ce sk n7 fb fs ff fl n6 lb lh n8 n5 aw law ac cfi clk ac_localTypes_r ac_length cop cva cpt cel ac_labelCount cla sk csk n4 fb cfb gfb fs cfs gfs ff cff gff fl cfl gfl lb clb glb lh clh glh waf cwaf gwaf wag cwag gwag cop ccop gcop cva ccva gcva cpt ccpt gcpt)) [4, 5, 0, 6, 7, 8, 9, 10, 11, 12, 13, 14, 1, 2, 3] rfl
    have hD9 := hD.sb (wq := (wz_29 h0 h0_pages h0_steps n9 gl aw ac ce sk n7 fb fs ff fl n6 lb lh n8 n5 aw law ac cfi clk ac_localTypes_r ac_length cop cva cpt cel ac_labelCount cla sk csk n4 fb cfb gfb fs cfs gfs ff cff gff fl cfl gfl lb clb glb lh clh glh waf cwaf gwaf wag cwag gwag cop ccop gcop cva ccva gcva cpt ccpt gcpt)) [4, 5, 0, 6, 7, 8, 9, 10, 11, 12, 13, 14, 1, 2, 3] (by decide) rfl
    exact W.vret hx hb hr (fun t ht hW => ⟨⟨(n4, n5, n6, n7, n8, n9), rfl, ⟨bn6, bn7, bn8, bn9, xr3⟩, va_P.he ht.symm hP9, va_K.moved hW.alike hK, hD9⟩, hS.F ht⟩) hS.2.2 d_MA_branch_35
  · skip
    refine lv_if_eq (tgt := 31) hx hb d_MA_branch_13 (by decide) (fun c13 => absurd (eqI c13) (by (first | (apply Int.le_antisymm <;> omega) | omega))) (fun c13 => ?_)
    have q13 := neI c13
    refine lv_iload_n hx hb d_MA_branch_16 rfl (lv_at hl 0 rfl) ?_
    refine lv_aload_n hx hb d_MA_branch_17 rfl (lv_at hl 1 rfl) ?_
    refine va_get (D := (dC, dI)) (ci := 4) (v := .ref fl) (C := R_MA) (T := F_MA) (N := 18) hx hb hts i_MA hown hK hP 0 rfl rfl 12 (by decide) (hts _ kF_MA_31) (fun _ h9 => h9) rfl d_MA_branch_18 ?_
    refine lv_aload_n hx hb d_MA_branch_21 rfl (lv_at hl 1 rfl) ?_
    refine va_get (D := (dC, dI)) (ci := 4) (v := .int h0_frameCount) (C := R_MA) (T := F_MA) (N := 18) hx hb hts i_MA hown hK hP 0 rfl rfl 13 (by decide) (hts _ kF_MA_80) (fun _ h9 => h9) rfl d_MA_branch_22 ?_
    refine lv_iconst (v := 1) hx hb d_MA_branch_25 (by decide) ?_
    refine lv_isub hx hb d_MA_branch_26 ?_
    refine lv_topi (fun x10 ex10 => ?_)
    have tx10 : x10.toInt = h0_frameCount.toInt - 1 := by have z := i32_sub ex10 (by (first | (apply Int.le_antisymm <;> omega) | omega)) (by (first | (apply Int.le_antisymm <;> omega) | omega)); first | exact z | (first | (apply Int.le_antisymm <;> omega) | omega)
    have g27 : vp_in x10 100 := vp_in_iff.mpr ⟨by (first | (apply Int.le_antisymm <;> omega) | omega), by (first | (apply Int.le_antisymm <;> omega) | omega)⟩
    refine va_iald hx hb hK hP 7 4 rfl rfl g27 d_MA_branch_27 ?_
    refine lv_topi (fun x11 ex11 => ?_)
    rw [i32_natI (x := x10) (n := h0_frameCount.toInt - 1) (by (first | (apply Int.le_antisymm <;> omega) | omega))] at ex11
    have tx11 : x11.toInt = (gfl (h0_frameCount.toInt - 1).toNat).toInt := by rw [ex11]
    refine lv_icmp_ge (tgt := 36) hx hb d_MA_branch_28 (by decide) (fun c28 => ?_) (fun c28 => ?_)
    · have q28 := leI c28
      refine lv_aload_n hx hb d_MA_branch_36 rfl (lv_at hl 1 rfl) ?_
      refine va_get (D := (dC, dI)) (ci := 4) (v := .ref lb) (C := R_MA) (T := F_MA) (N := 18) hx hb hts i_MA hown hK hP 0 rfl rfl 14 (by decide) (hts _ kF_MA_34) (fun _ h9 => h9) rfl d_MA_branch_37 ?_
      refine lv_iload_n hx hb d_MA_branch_40 rfl (lv_at hl 0 rfl) ?_
      have g41 : vp_in x2 10000 := vp_in_iff.mpr ⟨by (first | (apply Int.le_antisymm <;> omega) | omega), by (first | (apply Int.le_antisymm <;> omega) | omega)⟩
      refine va_iald hx hb hK hP 8 5 rfl rfl g41 d_MA_branch_41 ?_
      refine lv_topi (fun x12 ex12 => ?_)
      obtain ⟨bk, hbk⟩ : ∃ b, bs[p0.toNatClampNeg]? = some b := ⟨_, List.getElem?_eq_getElem (by (first | (apply Int.le_antisymm <;> omega) | omega))⟩
      obtain ⟨y1, y2, y3, y4, y5⟩ := o8 _ _ hbk
      have z41 : x2.toNatClampNeg = (h0_labelCount.toInt - 1 - (p0.toNatClampNeg : Int)).toNat := i32_natI (by (first | (apply Int.le_antisymm <;> omega) | omega))
      rw [z41] at ex12
      have tx12 : x12.toInt = bk.1 := by rw [ex12]; exact y1
      obtain ⟨L1, L2⟩ := hL.2 _ bk hp9 hbk
      have hlt9 := (List.getElem?_eq_some_iff.mp hbk).1
      refine lv_istore_n (lv' := [(3, .int x12), (2, .int x2), (0, .ref h0), (1, .int p0)]) hx hb d_MA_branch_42 rfl hl (by decide) rfl (fun ls hl => ?_)
      refine lv_aload_n hx hb d_MA_branch_43 rfl (lv_at hl 2 rfl) ?_
      refine va_get (D := (dC, dI)) (ci := 4) (v := .ref ac) (C := R_MA) (T := F_MA) (N := 18) hx hb hts i_MA hown hK hP 0 rfl rfl 5 (by decide) (hts _ kF_MA_50) (fun _ h9 => h9) rfl d_MA_branch_44 ?_
      refine va_get (D := (dC, dI)) (ci := 3) (v := .ref cop) (C := R_CD) (T := F_CD) (N := 10) hx hb hts i_CD hown hK hP 2 rfl rfl 4 (by decide) (hts _ kF_MA_114) (fun _ h9 => h9) rfl d_MA_branch_47 ?_
      refine lv_iload_n hx hb d_MA_branch_50 rfl (lv_at hl 0 rfl) ?_
      have g51 : vp_in x12 5000 := vp_in_iff.mpr ⟨by (first | (apply Int.le_antisymm <;> omega) | omega), by (first | (apply Int.le_antisymm <;> omega) | omega)⟩
      refine va_iald hx hb hK hP 12 9 rfl rfl g51 d_MA_branch_51 ?_
      refine lv_topi (fun x13 ex13 => ?_)
      rw [i32_nat tx12] at ex13
      have b51 := ex13
      refine lv_iconst (v := 3) hx hb d_MA_branch_52 (by decide) ?_
      refine lv_icmp_ne (tgt := 83) hx hb d_MA_branch_53 (by decide) (fun c53 => ?_) (fun c53 => ?_)
      · have q53 := neI c53
        refine lv_aload_n hx hb d_MA_branch_83 rfl (lv_at hl 2 rfl) ?_
        refine lv_aload_n hx hb d_MA_branch_84 rfl (lv_at hl 2 rfl) ?_
        refine va_get (D := (dC, dI)) (ci := 4) (v := .ref lh) (C := R_MA) (T := F_MA) (N := 18) hx hb hts i_MA hown hK hP 0 rfl rfl 15 (by decide) (hts _ kF_MA_37) (fun _ h9 => h9) rfl d_MA_branch_85 ?_
        refine lv_iload_n hx hb d_MA_branch_88 rfl (lv_at hl 1 rfl) ?_
        have g89 : vp_in x2 10000 := vp_in_iff.mpr ⟨by (first | (apply Int.le_antisymm <;> omega) | omega), by (first | (apply Int.le_antisymm <;> omega) | omega)⟩
        refine va_iald hx hb hK hP 9 6 rfl rfl g89 d_MA_branch_89 ?_
        refine lv_topi (fun x14 ex14 => ?_)
        rw [z41] at ex14
        have tx14 : x14.toInt = (gfs (h0_frameCount.toInt - 1).toNat).toInt + nl f + bk.2 := by rw [ex14]; exact y2
        refine lv_aload_n hx hb d_MA_branch_90 rfl (lv_at hl 2 rfl) ?_
        refine va_get (D := (dC, dI)) (ci := 4) (v := .ref ac) (C := R_MA) (T := F_MA) (N := 18) hx hb hts i_MA hown hK hP 0 rfl rfl 5 (by decide) (hts _ kF_MA_50) (fun _ h9 => h9) rfl d_MA_branch_91 ?_
        refine va_get (D := (dC, dI)) (ci := 3) (v := .ref cva) (C := R_CD) (T := F_CD) (N := 10) hx hb hts i_CD hown hK hP 2 rfl rfl 5 (by decide) (hts _ kF_MA_128) (fun _ h9 => h9) rfl d_MA_branch_94 ?_
        refine lv_iload_n hx hb d_MA_branch_97 rfl (lv_at hl 0 rfl) ?_
        have g98 : vp_in x12 5000 := vp_in_iff.mpr ⟨by (first | (apply Int.le_antisymm <;> omega) | omega), by (first | (apply Int.le_antisymm <;> omega) | omega)⟩
        refine va_lald hx hb hK hP 13 10 rfl rfl g98 d_MA_branch_98 ?_
        refine lv_topl (fun x15 ex15 => ?_)
        rw [i32_nat tx12] at ex15
        have b98 := ex15
        refine lv_ldc2 hx hb hown (hts _ kL_MA_179) d_MA_branch_99 ?_
        refine lv_topl (fun x16 ex16 => ?_)
        have tx16 : x16.toInt = 64 := by rw [ex16]; decide
        refine W.lcmp hx hb d_MA_branch_102 ?_
        refine lv_topi (fun x17 ex17 => ?_)
        have tx17 := lgc ex17
        refine w_cut (pc2 := 111) (σ := Int32) (fun u H locs ls => match u with | j111_s0 => (j111_s0 = 0 ∨ j111_s0 = 1) ∧ (j111_s0.toInt = if (gcva bk.1).toInt = 64 then 0 else 1) ∧ va_P (dC, dI) cls (wz_29 h0 h0_pages h0_steps h0_reason gl aw ac ce sk h0_height fb fs ff fl h0_frameCount lb lh h0_labelCount h0_at aw law ac cfi clk ac_localTypes_r ac_length cop cva cpt cel ac_labelCount cla sk csk gsk fb cfb gfb fs cfs gfs ff cff gff fl cfl gfl lb clb glb lh clh glh waf cwaf gwaf wag cwag gwag cop ccop gcop cva ccva gcva cpt ccpt gcpt) H ∧ va_D A (wz_29 h0 h0_pages h0_steps h0_reason gl aw ac ce sk h0_height fb fs ff fl h0_frameCount lb lh h0_labelCount h0_at aw law ac cfi clk ac_localTypes_r ac_length cop cva cpt cel ac_labelCount cla sk csk gsk fb cfb gfb fs cfs gfs ff cff gff fl cfl gfl lb clb glb lh clh glh waf cwaf gwaf wag cwag gwag cop ccop gcop cva ccva gcva cpt ccpt gcpt) ∧ va_S A s.heap H locs ∧ lv_has ls 4 [(0, .ref h0), (2, .int x2), (3, .int x12)]) (fun u => match u with | j111_s0 => [.int j111_s0, .int x14, .ref h0]) ?_ (fun jn111 => ?_)
        · intro u H locs ls hI
          obtain ⟨j111_s0, rfl⟩ : ∃ z, z = u := ⟨_, rfl⟩
          obtain ⟨b_j111_s0, v111, hP, hD, hS, hl⟩ := hI
          have tj111_s0 := b01 b_j111_s0
          have hPc := hP.sb (wq := (wz_17 h0 h0_pages h0_steps h0_reason gl aw ac ce sk h0_height fb fs ff fl h0_frameCount lb lh h0_labelCount h0_at sk csk gsk)) [0, 3] rfl
          have hDc := hD.sb (wq := (wz_17 h0 h0_pages h0_steps h0_reason gl aw ac ce sk h0_height fb fs ff fl h0_frameCount lb lh h0_labelCount h0_at sk csk gsk)) [0, 3] (by decide) rfl
          have hKc := hK.sb (tyq := [(csk, .long)]) [0] rfl
          have hFc := va_free (wc := (wz_17 h0 h0_pages h0_steps h0_reason gl aw ac ce sk h0_height fb fs ff fl h0_frameCount lb lh h0_labelCount h0_at sk csk gsk)) hD hS hA [0, 3] rfl
          refine va_callv (va_runV (As := [.int x14, .int j111_s0]) (rest := []) ⟨hx, hb, hml, hown, hts⟩ (c_MA_keepTop l dC dI H.size h0 gl aw ac ce sk fb fs ff fl lb lh csk h0_pages h0_steps h0_reason h0_height h0_frameCount h0_labelCount h0_at gsk (b_h0_reason) (b_h0_height) x14 j111_s0 (by (try dsimp only); (first | (apply Int.le_antisymm <;> omega) | omega)) (b_j111_s0) (by (try dsimp only); (first | (apply Int.le_antisymm <;> omega) | omega))) (cwV 2 hts (gV kM_MA_181 kV_MA_keepTop kS_MA_keepTop kI_MA kC_MA_keepTop) rfl rfl rfl (by decide +kernel) ⟨Nat.le_of_ble_eq_true rfl, Nat.le_of_ble_eq_true rfl⟩) ⟨fun a U g mk z => by obtain ⟨z0, z1, zP, zK, zD⟩ := z; exact ⟨z0, z1, zP, va_K.moved (u := U) (U := U.calling g mk a) (Vm.Alike.refl U.vm) zK, zD⟩, va_recv hKc hPc (ci := 4) (q0 := 0) rfl rfl, fun U hU hW => ⟨rfl, by rw [hU], va_P.he hU.symm hPc, va_K.moved hW.alike hKc, hDc.weaken (fun _ _ _ _ => trivial)⟩⟩ rfl rfl hl.1 rfl (lv_room (Nat.le_of_ble_eq_true rfl)) d_MA_branch_111 ⟨(Nat.zero_le _), (Nat.zero_le _)⟩) hS (fun q _ h => hFc q h) hFc (fun u t H1 locs ht hvm hw hB hz1 hk1 hS => ?_)
          obtain ⟨n19, n20, n21⟩ := u
          try dsimp only at hw
          obtain ⟨bn20, bn21, xr18⟩ := hw
          try clear hw
          obtain ⟨hP1, hK1, hD1⟩ := hB
          replace hP1 := va_P.he ht hP1
          obtain ⟨hP, hD⟩ := va_join (wr := [(aw, .inr (10, law)), (ac, .inr (3, [.ref cfi, .ref clk, .ref ac_localTypes_r, .int ac_length, .ref cop, .ref cva, .ref cpt, .ref cel, .int ac_labelCount, .ref cla])), (fb, .inl (cfb, 100, .inl gfb)), (fs, .inl (cfs, 100, .inl gfs)), (ff, .inl (cff, 100, .inl gff)), (fl, .inl (cfl, 100, .inl gfl)), (lb, .inl (clb, 10000, .inl glb)), (lh, .inl (clh, 10000, .inl glh)), (waf, .inl (cwaf, 30, .inl gwaf)), (wag, .inl (cwag, 20, .inl gwag)), (cop, .inl (ccop, 5000, .inl gcop)), (cva, .inl (ccva, 5000, .inr (.inl gcva))), (cpt, .inl (ccpt, 5000, .inl gcpt))]) (w1 := (wz_17 h0 h0_pages h0_steps n21 gl aw ac ce sk n20 fb fs ff fl h0_frameCount lb lh h0_labelCount h0_at sk csk n19)) hP hD [0, 3] [1, 2, 4, 5, 6, 7, 8, 9, 10, 11, 12, 13, 14] rfl rfl (by decide) (by decide) hk1 hFc hP1 hD1
          clear hPc hDc hKc hFc hz1 hk1 hP1 hK1 hD1
          rename Heap => H
          have hP : va_P (dC, dI) cls [(aw, .inr (10, law)), (ac, .inr (3, [.ref cfi, .ref clk, .ref ac_localTypes_r, .int ac_length, .ref cop, .ref cva, .ref cpt, .ref cel, .int ac_labelCount, .ref cla])), (fb, .inl (cfb, 100, .inl gfb)), (fs, .inl (cfs, 100, .inl gfs)), (ff, .inl (cff, 100, .inl gff)), (fl, .inl (cfl, 100, .inl gfl)), (lb, .inl (clb, 10000, .inl glb)), (lh, .inl (clh, 10000, .inl glh)), (waf, .inl (cwaf, 30, .inl gwaf)), (wag, .inl (cwag, 20, .inl gwag)), (cop, .inl (ccop, 5000, .inl gcop)), (cva, .inl (ccva, 5000, .inr (.inl gcva))), (cpt, .inl (ccpt, 5000, .inl gcpt)), (h0, .inr (4, [.int h0_pages, .int h0_steps, .int n21, .ref gl, .ref aw, .ref ac, .ref ce, .ref sk, .int n20, .ref fb, .ref fs, .ref ff, .ref fl, .int h0_frameCount, .ref lb, .ref lh, .int h0_labelCount, .int h0_at])), (sk, .inl (csk, 12096, .inr (.inl n19)))] H := hP
          have hD : va_D A [(aw, .inr (10, law)), (ac, .inr (3, [.ref cfi, .ref clk, .ref ac_localTypes_r, .int ac_length, .ref cop, .ref cva, .ref cpt, .ref cel, .int ac_labelCount, .ref cla])), (fb, .inl (cfb, 100, .inl gfb)), (fs, .inl (cfs, 100, .inl gfs)), (ff, .inl (cff, 100, .inl gff)), (fl, .inl (cfl, 100, .inl gfl)), (lb, .inl (clb, 10000, .inl glb)), (lh, .inl (clh, 10000, .inl glh)), (waf, .inl (cwaf, 30, .inl gwaf)), (wag, .inl (cwag, 20, .inl gwag)), (cop, .inl (ccop, 5000, .inl gcop)), (cva, .inl (ccva, 5000, .inr (.inl gcva))), (cpt, .inl (ccpt, 5000, .inl gcpt)), (h0, .inr (4, [.int h0_pages, .int h0_steps, .int n21, .ref gl, .ref aw, .ref ac, .ref ce, .ref sk, .int n20, .ref fb, .ref fs, .ref ff, .ref fl, .int h0_frameCount, .ref lb, .ref lh, .int h0_labelCount, .int h0_at])), (sk, .inl (csk, 12096, .inr (.inl n19)))] := hD
          refine lv_aload_n hx hb d_MA_branch_114 rfl (lv_at hl 0 rfl) ?_
          refine lv_iload_n hx hb d_MA_branch_115 rfl (lv_at hl 1 rfl) ?_
          refine va_put (D := (dC, dI)) (ci := 4) (v := .int x2) (ty := .int) (C := R_MA) (T := F_MA) (N := 18) hx hb hts i_MA t_MA t_MA_ok n_MA hown hK hP hD hS 13 rfl rfl 16 (by decide) (hts _ kF_MA_83) (fun _ h9 => h9) rfl (by decide +kernel) rfl rfl (Nat.le_of_ble_eq_true rfl) d_MA_branch_116 (fun H locs hP hD hS => ?_)
          refine lv_aload_n hx hb d_MA_branch_119 rfl (lv_at hl 0 rfl) ?_
          refine lv_aload_n hx hb d_MA_branch_120 rfl (lv_at hl 0 rfl) ?_
          refine va_get (D := (dC, dI)) (ci := 4) (v := .ref ac) (C := R_MA) (T := F_MA) (N := 18) hx hb hts i_MA hown hK hP 13 rfl rfl 5 (by decide) (hts _ kF_MA_50) (fun _ h9 => h9) rfl d_MA_branch_121 ?_
          refine va_get (D := (dC, dI)) (ci := 3) (v := .ref cpt) (C := R_CD) (T := F_CD) (N := 10) hx hb hts i_CD hown hK hP 1 rfl rfl 6 (by decide) (hts _ kF_MA_120) (fun _ h9 => h9) rfl d_MA_branch_124 ?_
          refine lv_iload_n hx hb d_MA_branch_127 rfl (lv_at hl 2 rfl) ?_
          have g128 : vp_in x12 5000 := vp_in_iff.mpr ⟨by (first | (apply Int.le_antisymm <;> omega) | omega), by (first | (apply Int.le_antisymm <;> omega) | omega)⟩
          refine va_iald hx hb hK hP 12 11 rfl rfl g128 d_MA_branch_128 ?_
          refine lv_topi (fun x22 ex22 => ?_)
          rw [i32_nat tx12] at ex22
          have b128 := ex22
          obtain ⟨L3, L4, L5⟩ := L2 (by rw [← b51]; (first | (apply Int.le_antisymm <;> omega) | omega))
          have tx22 : 0 ≤ x22.toInt ∧ x22.toInt < 5000 := by rw [ex22]; exact ⟨L3, L4⟩
          refine lv_iconst (v := 1) hx hb d_MA_branch_129 (by decide) ?_
          refine lv_iadd hx hb d_MA_branch_130 ?_
          refine lv_topi (fun x23 ex23 => ?_)
          have tx23 : x23.toInt = x22.toInt + 1 := by have z := i32_add ex23 (by (first | (apply Int.le_antisymm <;> omega) | omega)) (by (first | (apply Int.le_antisymm <;> omega) | omega)); first | exact z | (first | (apply Int.le_antisymm <;> omega) | omega)
          refine va_put (D := (dC, dI)) (ci := 4) (v := .int x23) (ty := .int) (C := R_MA) (T := F_MA) (N := 18) hx hb hts i_MA t_MA t_MA_ok n_MA hown hK hP hD hS 13 rfl rfl 17 (by decide) (hts _ kF_MA_106) (fun _ h9 => h9) rfl (by decide +kernel) rfl rfl (Nat.le_of_ble_eq_true rfl) d_MA_branch_131 (fun H locs hP hD hS => ?_)
          have hP9 := hP.sb (wq := (wz_29 h0 h0_pages h0_steps n21 gl aw ac ce sk n20 fb fs ff fl h0_frameCount lb lh x2 x23 aw law ac cfi clk ac_localTypes_r ac_length cop cva cpt cel ac_labelCount cla sk csk n19 fb cfb gfb fs cfs gfs ff cff gff fl cfl gfl lb clb glb lh clh glh waf cwaf gwaf wag cwag gwag cop ccop gcop cva ccva gcva cpt ccpt gcpt)) [13, 0, 1, 14, 2, 3, 4, 5, 6, 7, 8, 9, 10, 11, 12] rfl
          have hD9 := hD.sb (wq := (wz_29 h0 h0_pages h0_steps n21 gl aw ac ce sk n20 fb fs ff fl h0_frameCount lb lh x2 x23 aw law ac cfi clk ac_localTypes_r ac_length cop cva cpt cel ac_labelCount cla sk csk n19 fb cfb gfb fs cfs gfs ff cff gff fl cfl gfl lb clb glb lh clh glh waf cwaf gwaf wag cwag gwag cop ccop gcop cva ccva gcva cpt ccpt gcpt)) [13, 0, 1, 14, 2, 3, 4, 5, 6, 7, 8, 9, 10, 11, 12] (by decide) rfl
          exact W.vret hx hb hr (fun t ht hW => ⟨⟨(n19, x23, h0_frameCount, n20, x2, n21), rfl, ⟨b_h0_frameCount, bn20, by (try dsimp only); (first | (apply Int.le_antisymm <;> omega) | omega), bn21, mc_go (hT.drop (p0.toNatClampNeg + 1) (by (first | (apply Int.le_antisymm <;> omega) | omega))) (by (try dsimp only); (first | (apply Int.le_antisymm <;> omega) | omega)) (by (try dsimp only); (first | (apply Int.le_antisymm <;> omega) | omega)) (by (try dsimp only); rw [show x23.toInt.toNat = (gcpt bk.1).toInt.toNat + 1 from by rw [← b128]; (first | (apply Int.le_antisymm <;> omega) | omega)]; exact L5) (fun z => by (try dsimp only at z); (try dsimp only); rw [← v111]; (first | (apply Int.le_antisymm <;> omega) | omega)) (by (try dsimp only); (first | (apply Int.le_antisymm <;> omega) | omega))⟩, va_P.he ht.symm hP9, va_K.moved hW.alike hK, hD9⟩, hS.F ht⟩) hS.2.2 d_MA_branch_134
        · skip
          refine lv_if_eq (tgt := 110) hx hb d_MA_branch_103 (by decide) (fun c103 => ?_) (fun c103 => ?_)
          · have q103 := eqI c103
            refine lv_iconst (v := 0) hx hb d_MA_branch_110 (by decide) ?_
            exact jn111 0 _ _ _ ⟨Or.inl rfl, by (try dsimp only); rw [← b98]; split <;> (first | (apply Int.le_antisymm <;> omega) | omega), hP, hD, hS, lv_sub hl [2, 1, 0] rfl⟩
          · have q103 := neI c103
            refine lv_iconst (v := 1) hx hb d_MA_branch_106 (by decide) ?_
            refine lv_goto (tgt := 111) hx hb d_MA_branch_107 (by decide) ?_
            exact jn111 1 _ _ _ ⟨Or.inr rfl, by (try dsimp only); rw [← b98]; split <;> (first | (apply Int.le_antisymm <;> omega) | omega), hP, hD, hS, lv_sub hl [2, 1, 0] rfl⟩
      · have q53 := eqI c53
        refine lv_aload_n hx hb d_MA_branch_56 rfl (lv_at hl 2 rfl) ?_
        refine lv_aload_n hx hb d_MA_branch_57 rfl (lv_at hl 2 rfl) ?_
        refine va_get (D := (dC, dI)) (ci := 4) (v := .ref lh) (C := R_MA) (T := F_MA) (N := 18) hx hb hts i_MA hown hK hP 0 rfl rfl 15 (by decide) (hts _ kF_MA_37) (fun _ h9 => h9) rfl d_MA_branch_58 ?_
        refine lv_iload_n hx hb d_MA_branch_61 rfl (lv_at hl 1 rfl) ?_
        have g62 : vp_in x2 10000 := vp_in_iff.mpr ⟨by (first | (apply Int.le_antisymm <;> omega) | omega), by (first | (apply Int.le_antisymm <;> omega) | omega)⟩
        refine va_iald hx hb hK hP 9 6 rfl rfl g62 d_MA_branch_62 ?_
        refine lv_topi (fun x24 ex24 => ?_)
        rw [z41] at ex24
        have tx24 : x24.toInt = (gfs (h0_frameCount.toInt - 1).toNat).toInt + nl f + bk.2 := by rw [ex24]; exact y2
        refine va_put (D := (dC, dI)) (ci := 4) (v := .int x24) (ty := .int) (C := R_MA) (T := F_MA) (N := 18) hx hb hts i_MA t_MA t_MA_ok n_MA hown hK hP hD hS 0 rfl rfl 8 (by decide) (hts _ kF_MA_77) (fun _ h9 => h9) rfl (by decide +kernel) rfl rfl (Nat.le_of_ble_eq_true rfl) d_MA_branch_63 (fun H locs hP hD hS => ?_)
        refine lv_aload_n hx hb d_MA_branch_66 rfl (lv_at hl 2 rfl) ?_
        refine lv_iload_n hx hb d_MA_branch_67 rfl (lv_at hl 1 rfl) ?_
        refine lv_iconst (v := 1) hx hb d_MA_branch_68 (by decide) ?_
        refine lv_iadd hx hb d_MA_branch_69 ?_
        refine lv_topi (fun x25 ex25 => ?_)
        have tx25 : x25.toInt = x2.toInt + 1 := by have z := i32_add ex25 (by (first | (apply Int.le_antisymm <;> omega) | omega)) (by (first | (apply Int.le_antisymm <;> omega) | omega)); first | exact z | (first | (apply Int.le_antisymm <;> omega) | omega)
        refine va_put (D := (dC, dI)) (ci := 4) (v := .int x25) (ty := .int) (C := R_MA) (T := F_MA) (N := 18) hx hb hts i_MA t_MA t_MA_ok n_MA hown hK hP hD hS 0 rfl rfl 16 (by decide) (hts _ kF_MA_83) (fun _ h9 => h9) rfl (by decide +kernel) rfl rfl (Nat.le_of_ble_eq_true rfl) d_MA_branch_70 (fun H locs hP hD hS => ?_)
        refine lv_aload_n hx hb d_MA_branch_73 rfl (lv_at hl 2 rfl) ?_
        refine lv_iload_n hx hb d_MA_branch_74 rfl (lv_at hl 0 rfl) ?_
        refine lv_iconst (v := 1) hx hb d_MA_branch_75 (by decide) ?_
        refine lv_iadd hx hb d_MA_branch_76 ?_
        refine lv_topi (fun x26 ex26 => ?_)
        have tx26 : x26.toInt = x12.toInt + 1 := by have z := i32_add ex26 (by (first | (apply Int.le_antisymm <;> omega) | omega)) (by (first | (apply Int.le_antisymm <;> omega) | omega)); first | exact z | (first | (apply Int.le_antisymm <;> omega) | omega)
        refine va_put (D := (dC, dI)) (ci := 4) (v := .int x26) (ty := .int) (C := R_MA) (T := F_MA) (N := 18) hx hb hts i_MA t_MA t_MA_ok n_MA hown hK hP hD hS 0 rfl rfl 17 (by decide) (hts _ kF_MA_106) (fun _ h9 => h9) rfl (by decide +kernel) rfl rfl (Nat.le_of_ble_eq_true rfl) d_MA_branch_77 (fun H locs hP hD hS => ?_)
        refine lv_goto (tgt := 134) hx hb d_MA_branch_80 (by decide) ?_
        have hP9 := hP.sb (wq := (wz_29 h0 h0_pages h0_steps h0_reason gl aw ac ce sk x24 fb fs ff fl h0_frameCount lb lh x25 x26 aw law ac cfi clk ac_localTypes_r ac_length cop cva cpt cel ac_labelCount cla sk csk gsk fb cfb gfb fs cfs gfs ff cff gff fl cfl gfl lb clb glb lh clh glh waf cwaf gwaf wag cwag gwag cop ccop gcop cva ccva gcva cpt ccpt gcpt)) [0, 1, 2, 3, 4, 5, 6, 7, 8, 9, 10, 11, 12, 13, 14] rfl
        have hD9 := hD.sb (wq := (wz_29 h0 h0_pages h0_steps h0_reason gl aw ac ce sk x24 fb fs ff fl h0_frameCount lb lh x25 x26 aw law ac cfi clk ac_localTypes_r ac_length cop cva cpt cel ac_labelCount cla sk csk gsk fb cfb gfb fs cfs gfs ff cff gff fl cfl gfl lb clb glb lh clh glh waf cwaf gwaf wag cwag gwag cop ccop gcop cva ccva gcva cpt ccpt gcpt)) [0, 1, 2, 3, 4, 5, 6, 7, 8, 9, 10, 11, 12, 13, 14] (by decide) rfl
        exact W.vret hx hb hr (fun t ht hW => ⟨⟨(gsk, x26, h0_frameCount, x24, x25, h0_reason), rfl, ⟨b_h0_frameCount, by (try dsimp only); (first | (apply Int.le_antisymm <;> omega) | omega), by (try dsimp only); (first | (apply Int.le_antisymm <;> omega) | omega), b_h0_reason, mc_go (hT.drop p0.toNatClampNeg (by (first | (apply Int.le_antisymm <;> omega) | omega))) (by (try dsimp only); (first | (apply Int.le_antisymm <;> omega) | omega)) (by (try dsimp only); (first | (apply Int.le_antisymm <;> omega) | omega)) (by (try dsimp only); rw [show x26.toInt.toNat = bk.1 + 1 from by (first | (apply Int.le_antisymm <;> omega) | omega)]; exact L1 (by rw [← b51]; (first | (apply Int.le_antisymm <;> omega) | omega))) (fun _ => by (try dsimp only); (first | (apply Int.le_antisymm <;> omega) | omega)) (by (try dsimp only); (first | (apply Int.le_antisymm <;> omega) | omega))⟩, va_P.he ht.symm hP9, va_K.moved hW.alike hK, hD9⟩, hS.F ht⟩) hS.2.2 d_MA_branch_134
    · have q28 := nleI c28
      exact jn31 () _ _ _ ⟨hP, hD, hS, lv_sub hl [1] rfl⟩
abbrev b_MA_performIf : ByteArray := prog_6_method_7_code
def y_MA_performIf : MethodName := ⟨R_MA, "performIf", "(I)V"⟩
abbrev w_MA_performIf : List Cond := .code y_MA_performIf b_MA_performIf 2 none :: lw_g
theorem kC_MA_performIf : Cond.code y_MA_performIf b_MA_performIf 2 none ∈ lw_g := in_c7 142 rfl rfl
theorem d_MA_performIf_0 : decode b_MA_performIf 0 = .ok (.aload_n 0, 1) := bz_c42 (by decide +kernel)
theorem d_MA_performIf_1 : decode b_MA_performIf 1 = .ok (.invokevirtual 142, 3) := bz_c182 (by decide +kernel)
theorem d_MA_performIf_4 : decode b_MA_performIf 4 = .ok (.lconst 0, 1) := bz_c9 (by decide +kernel)
theorem d_MA_performIf_5 : decode b_MA_performIf 5 = .ok (.lcmp, 1) := bz_c148 (by decide +kernel)
theorem d_MA_performIf_6 : decode b_MA_performIf 6 = .ok (.ifCond .eq 11, 3) := bz_c153 (by decide +kernel)
theorem d_MA_performIf_9 : decode b_MA_performIf 9 = .ok (.aload_n 0, 1) := bz_c42 (by decide +kernel)
theorem d_MA_performIf_10 : decode b_MA_performIf 10 = .ok (.iload_n 1, 1) := bz_c27 (by decide +kernel)
theorem d_MA_performIf_11 : decode b_MA_performIf 11 = .ok (.invokevirtual 153, 3) := bz_c182 (by decide +kernel)
theorem d_MA_performIf_14 : decode b_MA_performIf 14 = .ok (.goto 53, 3) := bz_c167 (by decide +kernel)
theorem d_MA_performIf_17 : decode b_MA_performIf 17 = .ok (.aload_n 0, 1) := bz_c42 (by decide +kernel)
theorem d_MA_performIf_18 : decode b_MA_performIf 18 = .ok (.getfield 50, 3) := bz_c180 (by decide +kernel)
theorem d_MA_performIf_21 : decode b_MA_performIf 21 = .ok (.getfield 176, 3) := bz_c180 (by decide +kernel)
theorem d_MA_performIf_24 : decode b_MA_performIf 24 = .ok (.iload_n 1, 1) := bz_c27 (by decide +kernel)
theorem d_MA_performIf_25 : decode b_MA_performIf 25 = .ok (.iaload, 1) := bz_c46 (by decide +kernel)
theorem d_MA_performIf_26 : decode b_MA_performIf 26 = .ok (.ifCond .lt 26, 3) := bz_c155 (by decide +kernel)
theorem d_MA_performIf_29 : decode b_MA_performIf 29 = .ok (.aload_n 0, 1) := bz_c42 (by decide +kernel)
theorem d_MA_performIf_30 : decode b_MA_performIf 30 = .ok (.iload_n 1, 1) := bz_c27 (by decide +kernel)
theorem d_MA_performIf_31 : decode b_MA_performIf 31 = .ok (.invokevirtual 153, 3) := bz_c182 (by decide +kernel)
theorem d_MA_performIf_34 : decode b_MA_performIf 34 = .ok (.aload_n 0, 1) := bz_c42 (by decide +kernel)
theorem d_MA_performIf_35 : decode b_MA_performIf 35 = .ok (.aload_n 0, 1) := bz_c42 (by decide +kernel)
theorem d_MA_performIf_36 : decode b_MA_performIf 36 = .ok (.getfield 50, 3) := bz_c180 (by decide +kernel)
theorem d_MA_performIf_39 : decode b_MA_performIf 39 = .ok (.getfield 176, 3) := bz_c180 (by decide +kernel)
theorem d_MA_performIf_42 : decode b_MA_performIf 42 = .ok (.iload_n 1, 1) := bz_c27 (by decide +kernel)
theorem d_MA_performIf_43 : decode b_MA_performIf 43 = .ok (.iaload, 1) := bz_c46 (by decide +kernel)
theorem d_MA_performIf_44 : decode b_MA_performIf 44 = .ok (.iconst 1, 1) := bz_c4 (by decide +kernel)
theorem d_MA_performIf_45 : decode b_MA_performIf 45 = .ok (.iadd, 1) := bz_c96 (by decide +kernel)
theorem d_MA_performIf_46 : decode b_MA_performIf 46 = .ok (.putfield 106, 3) := bz_c181 (by decide +kernel)
theorem d_MA_performIf_49 : decode b_MA_performIf 49 = .ok (.goto 18, 3) := bz_c167 (by decide +kernel)
theorem d_MA_performIf_52 : decode b_MA_performIf 52 = .ok (.aload_n 0, 1) := bz_c42 (by decide +kernel)
theorem d_MA_performIf_53 : decode b_MA_performIf 53 = .ok (.aload_n 0, 1) := bz_c42 (by decide +kernel)
theorem d_MA_performIf_54 : decode b_MA_performIf 54 = .ok (.getfield 50, 3) := bz_c180 (by decide +kernel)
theorem d_MA_performIf_57 : decode b_MA_performIf 57 = .ok (.getfield 120, 3) := bz_c180 (by decide +kernel)
theorem d_MA_performIf_60 : decode b_MA_performIf 60 = .ok (.iload_n 1, 1) := bz_c27 (by decide +kernel)
theorem d_MA_performIf_61 : decode b_MA_performIf 61 = .ok (.iaload, 1) := bz_c46 (by decide +kernel)
theorem d_MA_performIf_62 : decode b_MA_performIf 62 = .ok (.iconst 1, 1) := bz_c4 (by decide +kernel)
theorem d_MA_performIf_63 : decode b_MA_performIf 63 = .ok (.iadd, 1) := bz_c96 (by decide +kernel)
theorem d_MA_performIf_64 : decode b_MA_performIf 64 = .ok (.putfield 106, 3) := bz_c181 (by decide +kernel)
theorem d_MA_performIf_67 : decode b_MA_performIf 67 = .ok (.return_, 1) := bz_c177 (by decide +kernel)
theorem kM_MA_153 : Cond.methodLink R_MA 153 y_MA_enterBlock ∈ lw_g := in_c7 135 rfl rfl
theorem kV_MA_enterBlock : Cond.instanceMethod y_MA_enterBlock ∈ lw_g := in_c7 137 rfl rfl
theorem kS_MA_enterBlock : Cond.selects R_MA y_MA_enterBlock y_MA_enterBlock ∈ lw_g := in_s 107 (by decide +kernel) rfl
theorem kF_MA_176 : Cond.fieldLink R_MA 176 "WaferForge$Codes" "elses" "[I" ∈ lw_g := in_c1 110 rfl rfl
abbrev at_MA_performIf (dC : Nat → ClassId) (dI : Nat → Nat → Nat) (h0 gl aw ac ce sk fb fs ff fl lb lh cfi clk ac_localTypes_r cop cva cpt cel cla : Nat) (csk cfb cfs cff cfl clb clh ccpt ccel : ClassId) (h0_pages : Int32) (h0_steps : Int32) (h0_reason : Int32) (h0_frameCount : Int32) (ac_length : Int32) (ac_labelCount : Int32) (gsk : Nat → Int64) (gfb : Nat → Int32) (gfs : Nat → Int32) (gff : Nat → Int32) (gfl : Nat → Int32) (gcpt : Nat → Int32) (gcel : Nat → Int32) (A : Nat → Prop) (u : (Nat → Int32) × (Nat → Int32) × Int32 × Int32 × Int32) (t : State) : Prop := match u with | (glb, glh, h0_at, h0_height, h0_labelCount) => va_P (dC, dI) cls (wz_30 h0 h0_pages h0_steps h0_reason gl aw ac ce sk h0_height fb fs ff fl h0_frameCount lb lh h0_labelCount h0_at ac cfi clk ac_localTypes_r ac_length cop cva cpt cel ac_labelCount cla sk csk gsk fb cfb gfb fs cfs gfs ff cff gff fl cfl gfl lb clb glb lh clh glh cpt ccpt gcpt cel ccel gcel) t.heap ∧ va_K (dC, dI) cls [(csk, .long), (cfb, .int), (cfs, .int), (cff, .int), (cfl, .int), (clb, .int), (clh, .int), (ccpt, .int), (ccel, .int)] t ∧ va_D A (wz_30 h0 h0_pages h0_steps h0_reason gl aw ac ce sk h0_height fb fs ff fl h0_frameCount lb lh h0_labelCount h0_at ac cfi clk ac_localTypes_r ac_length cop cva cpt cel ac_labelCount cla sk csk gsk fb cfb gfb fs cfs gfs ff cff gff fl cfl gfl lb clb glb lh clh glh cpt ccpt gcpt cel ccel gcel)
set_option maxHeartbeats 4000000 in
set_option maxRecDepth 100000 in
theorem c_MA_performIf (l : Launch) (dC : Nat → ClassId) (dI : Nat → Nat → Nat) (sz : Nat) (h0 gl aw ac ce sk fb fs ff fl lb lh cfi clk ac_localTypes_r cop cva cpt cel cla : Nat) (csk cfb cfs cff cfl clb clh ccpt ccel : ClassId) (h0_pages : Int32) (h0_steps : Int32) (h0_reason : Int32) (h0_height : Int32) (h0_frameCount : Int32) (h0_labelCount : Int32) (h0_at : Int32) (ac_length : Int32) (ac_labelCount : Int32) (gsk : Nat → Int64) (gfb : Nat → Int32) (gfs : Nat → Int32) (gff : Nat → Int32) (gfl : Nat → Int32) (glb : Nat → Int32) (glh : Nat → Int32) (gcpt : Nat → Int32) (gcel : Nat → Int32) (an : mc_A) (nl : Nat → Int) (gv : Nat → Int) (fc : Int) (f : Nat) (bs : List (Nat × Int)) (h : Int)  (b_h0_height : 0 ≤ h0_height.toInt ∧ h0_height.toInt ≤ 12096) (b_h0_frameCount : 0 ≤ h0_frameCount.toInt ∧ h0_frameCount.toInt ≤ 100) (b_h0_labelCount : 0 ≤ h0_labelCount.toInt ∧ h0_labelCount.toInt ≤ 10000) (p0 : Int32) (ba0 : 0 ≤ p0.toInt ∧ p0.toInt ≤ 4999) (hr0 : h0_reason.toInt = 0) (hk1 : 1 ≤ h0_frameCount.toInt) (hT : mc_tp an nl gv gfb gfs gff gfl glb glh (h0_frameCount.toInt - 1).toNat f bs h0_labelCount.toInt) (hH : h0_height.toInt = (gfs (h0_frameCount.toInt - 1).toNat).toInt + nl f + h) (hn0 : 0 ≤ nl f) (hh : 1 ≤ h) (hat : h0_at.toInt = p0.toInt + 1) (hI : mc_if an gcpt gcel p0.toNatClampNeg f bs h) : Met l y_MA_performIf w_MA_performIf ({ frames := 1, cells := 0, slots := 0, locals := 21 }) (va_Pc [.ref h0, .int p0] (fun U => U.heap.size = sz ∧ va_P (dC, dI) cls (wz_30 h0 h0_pages h0_steps h0_reason gl aw ac ce sk h0_height fb fs ff fl h0_frameCount lb lh h0_labelCount h0_at ac cfi clk ac_localTypes_r ac_length cop cva cpt cel ac_labelCount cla sk csk gsk fb cfb gfb fs cfs gfs ff cff gff fl cfl gfl lb clb glb lh clh glh cpt ccpt gcpt cel ccel gcel) U.heap ∧ va_K (dC, dI) cls [(csk, .long), (cfb, .int), (cfs, .int), (cff, .int), (cfl, .int), (clb, .int), (clh, .int), (ccpt, .int), (ccel, .int)] U ∧ va_D (fun _ => True) (wz_30 h0 h0_pages h0_steps h0_reason gl aw ac ce sk h0_height fb fs ff fl h0_frameCount lb lh h0_labelCount h0_at ac cfi clk ac_localTypes_r ac_length cop cva cpt cel ac_labelCount cla sk csk gsk fb cfb gfb fs cfs gfs ff cff gff fl cfl gfl lb clb glb lh clh glh cpt ccpt gcpt cel ccel gcel))) (va_Qv (fun (u : (Nat → Int32) × (Nat → Int32) × Int32 × Int32 × Int32) => match u with | (glb2, glh2, h0_at2, h0_height2, h0_labelCount2) => (0 ≤ h0_height2.toInt ∧ h0_height2.toInt ≤ 12096) ∧ (0 ≤ h0_labelCount2.toInt ∧ h0_labelCount2.toInt ≤ 10000) ∧ (mc_after an nl gv gfb gfs gff gfl glb2 glh2 h0_reason h0_frameCount h0_at2 h0_height2 h0_labelCount2)) (at_MA_performIf dC dI h0 gl aw ac ce sk fb fs ff fl lb lh cfi clk ac_localTypes_r cop cva cpt cel cla csk cfb cfs cff cfl clb clh ccpt ccel h0_pages h0_steps h0_reason h0_frameCount ac_length ac_labelCount gsk gfb gfs gff gfl gcpt gcel (va_A (wz_30 h0 h0_pages h0_steps h0_reason gl aw ac ce sk h0_height fb fs ff fl h0_frameCount lb lh h0_labelCount h0_at ac cfi clk ac_localTypes_r ac_length cop cva cpt cel ac_labelCount cla sk csk gsk fb cfb gfb fs cfs gfs ff cff gff fl cfl gfl lb clb glb lh clh glh cpt ccpt gcpt cel ccel gcel) sz)) (va_A (wz_30 h0 h0_pages h0_steps h0_reason gl aw ac ce sk h0_height fb fs ff fl h0_frameCount lb lh h0_labelCount h0_at ac cfi clk ac_localTypes_r ac_length cop cva cpt cel ac_labelCount cla sk csk gsk fb cfb gfb fs cfs gfs ff cff gff fl cfl gfl lb clb glb lh clh glh cpt ccpt gcpt cel ccel gcel) sz)) 0 0 (va_A (wz_30 h0 h0_pages h0_steps h0_reason gl aw ac ce sk h0_height fb fs ff fl h0_frameCount lb lh h0_labelCount h0_at ac cfi clk ac_localTypes_r ac_length cop cva cpt cel ac_labelCount cla sk csk gsk fb cfb gfb fs cfs gfs ff cff gff fl cfl gfl lb clb glb lh clh glh cpt ccpt gcpt cel ccel gcel) sz) := by
  refine Met.ofW (cc := b_MA_performIf) (maxL := 2) (ret := none) (by decide) rfl ?_
  intro p e s m args below meth c s₁ B hml hv
  obtain ⟨rfl, hsz, hP, hK, hD0⟩ := hv
  have hx := B.exec
  have hb := B.bytes
  have hr := B.returns
  have hts0 := atoms_spec (ws := w_MA_performIf) B.pre
  have hts : ∀ w ∈ lw_g, w.before _ s = true := fun w h => hts0 w (List.mem_cons_of_mem _ h)
  have hown : s.vm.findClass R_MA = some m.cls := findClass_of_methodNamed B.named
  have hlocks := B.notSynchronized
  clear hts0
  subst hsz
  have hD := hD0.self (sz := s.heap.size)
  generalize hAe : va_A (wz_30 h0 h0_pages h0_steps h0_reason gl aw ac ce sk h0_height fb fs ff fl h0_frameCount lb lh h0_labelCount h0_at ac cfi clk ac_localTypes_r ac_length cop cva cpt cel ac_labelCount cla sk csk gsk fb cfb gfb fs cfs gfs ff cff gff fl cfl gfl lb clb glb lh clh glh cpt ccpt gcpt cel ccel gcel) s.heap.size = A at hD ⊢
  have hA : ∀ q : Nat, s.heap.size ≤ q → A q := fun q h => by rw [← hAe]; exact Or.inr h
  clear hAe
  have hP : va_P (dC, dI) cls (wz_30 h0 h0_pages h0_steps h0_reason gl aw ac ce sk h0_height fb fs ff fl h0_frameCount lb lh h0_labelCount h0_at ac cfi clk ac_localTypes_r ac_length cop cva cpt cel ac_labelCount cla sk csk gsk fb cfb gfb fs cfs gfs ff cff gff fl cfl gfl lb clb glb lh clh glh cpt ccpt gcpt cel ccel gcel) s.heap := hP
  have hl := lv_entry ([.ref h0, .int p0]) (n := 2) (Nat.le_of_ble_eq_true rfl)
  rw [lg_entry_eq]
  generalize (lg_sl ([.ref h0, .int p0]) ++ List.replicate (2 - (lg_sl ([.ref h0, .int p0])).length) Slot.unset).toArray = ls at hl ⊢
  have hl : lv_has ls 2 [(0, .ref h0), (1, .int p0)] := hl
  have k0 : (0 : Int32).toInt = 0 := by decide
  refine w_gen (A := A) hP (fun H locs hP hS => ?_)
  have k1 : (1 : Int32).toInt = 1 := by decide
  have lo_p0 := i32_lo p0
  have hi_p0 := i32_hi p0
  obtain ⟨o1, o2, o3, o4, o5, o6, o7, o8⟩ := hT.1
  have hk9 : (((h0_frameCount.toInt - 1).toNat : Nat) : Int) = h0_frameCount.toInt - 1 := by (first | (apply Int.le_antisymm <;> omega) | omega)
  have hp9 := i32_clamp (x := p0) (by (first | (apply Int.le_antisymm <;> omega) | omega))
  have hI1 := hI.1
  refine lv_aload_n hx hb d_MA_performIf_0 rfl (lv_at hl 0 rfl) ?_
  have hPc := hP.sb (wq := (wz_17 h0 h0_pages h0_steps h0_reason gl aw ac ce sk h0_height fb fs ff fl h0_frameCount lb lh h0_labelCount h0_at sk csk gsk)) [0, 2] rfl
  have hDc := hD.sb (wq := (wz_17 h0 h0_pages h0_steps h0_reason gl aw ac ce sk h0_height fb fs ff fl h0_frameCount lb lh h0_labelCount h0_at sk csk gsk)) [0, 2] (by decide) rfl
  have hKc := hK.sb (tyq := [(csk, .long)]) [0] rfl
  have hFc := va_free (wc := (wz_17 h0 h0_pages h0_steps h0_reason gl aw ac ce sk h0_height fb fs ff fl h0_frameCount lb lh h0_labelCount h0_at sk csk gsk)) hD hS hA [0, 2] rfl
  refine va_calll (va_runV (As := []) (rest := []) ⟨hx, hb, hml, hown, hts⟩ (c_MA_pop l dC dI H.size h0 gl aw ac ce sk fb fs ff fl lb lh csk h0_pages h0_steps h0_reason h0_height h0_frameCount h0_labelCount h0_at gsk (b_h0_height)) (cwV 0 hts (gV kM_MA_142 kV_MA_pop kS_MA_pop kI_MA kC_MA_pop) rfl rfl rfl (by decide +kernel) ⟨Nat.le_of_ble_eq_true rfl, Nat.le_of_ble_eq_true rfl⟩) ⟨fun a U g mk z => by obtain ⟨z0, z1, zP, zK, zD⟩ := z; exact ⟨z0, z1, zP, va_K.moved (u := U) (U := U.calling g mk a) (Vm.Alike.refl U.vm) zK, zD⟩, va_recv hKc hPc (ci := 4) (q0 := 0) rfl rfl, fun U hU hW => ⟨rfl, by rw [hU], va_P.he hU.symm hPc, va_K.moved hW.alike hKc, hDc.weaken (fun _ _ _ _ => trivial)⟩⟩ rfl rfl hl.1 rfl (lv_room (Nat.le_of_ble_eq_true rfl)) d_MA_performIf_1 ⟨(Nat.zero_le _), (Nat.zero_le _)⟩) hS (fun q _ h => hFc q h) hFc (fun r1 u t H1 locs ht hvm hw hB hz1 hk1 hS => ?_)
  obtain ⟨n2, rfl⟩ : ∃ z, z = u := ⟨_, rfl⟩
  try dsimp only at hw
  obtain ⟨bn2, xr1⟩ := hw
  try clear hw
  obtain ⟨hP1, hK1, hD1⟩ := hB
  replace hP1 := va_P.he ht hP1
  obtain ⟨hP, hD⟩ := va_join (wr := [(ac, .inr (3, [.ref cfi, .ref clk, .ref ac_localTypes_r, .int ac_length, .ref cop, .ref cva, .ref cpt, .ref cel, .int ac_labelCount, .ref cla])), (fb, .inl (cfb, 100, .inl gfb)), (fs, .inl (cfs, 100, .inl gfs)), (ff, .inl (cff, 100, .inl gff)), (fl, .inl (cfl, 100, .inl gfl)), (lb, .inl (clb, 10000, .inl glb)), (lh, .inl (clh, 10000, .inl glh)), (cpt, .inl (ccpt, 5000, .inl gcpt)), (cel, .inl (ccel, 5000, .inl gcel))]) (w1 := (wz_17 h0 h0_pages h0_steps h0_reason gl aw ac ce sk n2 fb fs ff fl h0_frameCount lb lh h0_labelCount h0_at sk csk gsk)) hP hD [0, 2] [1, 3, 4, 5, 6, 7, 8, 9, 10] rfl rfl (by decide) (by decide) hk1 hFc hP1 hD1
  clear hPc hDc hKc hFc hz1 hk1 hP1 hK1 hD1
  rename Heap => H
  have hP : va_P (dC, dI) cls [(ac, .inr (3, [.ref cfi, .ref clk, .ref ac_localTypes_r, .int ac_length, .ref cop, .ref cva, .ref cpt, .ref cel, .int ac_labelCount, .ref cla])), (fb, .inl (cfb, 100, .inl gfb)), (fs, .inl (cfs, 100, .inl gfs)), (ff, .inl (cff, 100, .inl gff)), (fl, .inl (cfl, 100, .inl gfl)), (lb, .inl (clb, 10000, .inl glb)), (lh, .inl (clh, 10000, .inl glh)), (cpt, .inl (ccpt, 5000, .inl gcpt)), (cel, .inl (ccel, 5000, .inl gcel)), (h0, .inr (4, [.int h0_pages, .int h0_steps, .int h0_reason, .ref gl, .ref aw, .ref ac, .ref ce, .ref sk, .int n2, .ref fb, .ref fs, .ref ff, .ref fl, .int h0_frameCount, .ref lb, .ref lh, .int h0_labelCount, .int h0_at])), (sk, .inl (csk, 12096, .inr (.inl gsk)))] H := hP
  have hD : va_D A [(ac, .inr (3, [.ref cfi, .ref clk, .ref ac_localTypes_r, .int ac_length, .ref cop, .ref cva, .ref cpt, .ref cel, .int ac_labelCount, .ref cla])), (fb, .inl (cfb, 100, .inl gfb)), (fs, .inl (cfs, 100, .inl gfs)), (ff, .inl (cff, 100, .inl gff)), (fl, .inl (cfl, 100, .inl gfl)), (lb, .inl (clb, 10000, .inl glb)), (lh, .inl (clh, 10000, .inl glh)), (cpt, .inl (ccpt, 5000, .inl gcpt)), (cel, .inl (ccel, 5000, .inl gcel)), (h0, .inr (4, [.int h0_pages, .int h0_steps, .int h0_reason, .ref gl, .ref aw, .ref ac, .ref ce, .ref sk, .int n2, .ref fb, .ref fs, .ref ff, .ref fl, .int h0_frameCount, .ref lb, .ref lh, .int h0_labelCount, .int h0_at])), (sk, .inl (csk, 12096, .inr (.inl gsk)))] := hD
  refine lv_lconst (v := 0) hx hb d_MA_performIf_4 (by decide) ?_
  have kl0 : (0 : Int64).toInt = 0 := by decide
  refine W.lcmp hx hb d_MA_performIf_5 ?_
  refine lv_topi (fun x3 ex3 => ?_)
  have tx3 := lgc ex3
  refine lv_if_eq (tgt := 17) hx hb d_MA_performIf_6 (by decide) (fun c6 => ?_) (fun c6 => ?_)
  · have q6 := eqI c6
    refine lv_aload_n hx hb d_MA_performIf_17 rfl (lv_at hl 0 rfl) ?_
    refine va_get (D := (dC, dI)) (ci := 4) (v := .ref ac) (C := R_MA) (T := F_MA) (N := 18) hx hb hts i_MA hown hK hP 9 rfl rfl 5 (by decide) (hts _ kF_MA_50) (fun _ h9 => h9) rfl d_MA_performIf_18 ?_
    refine va_get (D := (dC, dI)) (ci := 3) (v := .ref cel) (C := R_CD) (T := F_CD) (N := 10) hx hb hts i_CD hown hK hP 0 rfl rfl 7 (by decide) (hts _ kF_MA_176) (fun _ h9 => h9) rfl d_MA_performIf_21 ?_
    refine lv_iload_n hx hb d_MA_performIf_24 rfl (lv_at hl 1 rfl) ?_
    have g25 : vp_in p0 5000 := vp_in_iff.mpr ⟨by (first | (apply Int.le_antisymm <;> omega) | omega), by (first | (apply Int.le_antisymm <;> omega) | omega)⟩
    refine va_iald hx hb hK hP 8 8 rfl rfl g25 d_MA_performIf_25 ?_
    refine lv_topi (fun x4 ex4 => ?_)
    have b25 := ex4
    have q25 : x4.toInt = (gcel p0.toNatClampNeg).toInt := by rw [ex4]
    refine lv_if_lt (tgt := 52) hx hb d_MA_performIf_26 (by decide) (fun c26 => ?_) (fun c26 => ?_)
    · have q26 := ltI c26
      refine lv_aload_n hx hb d_MA_performIf_52 rfl (lv_at hl 0 rfl) ?_
      refine lv_aload_n hx hb d_MA_performIf_53 rfl (lv_at hl 0 rfl) ?_
      refine va_get (D := (dC, dI)) (ci := 4) (v := .ref ac) (C := R_MA) (T := F_MA) (N := 18) hx hb hts i_MA hown hK hP 9 rfl rfl 5 (by decide) (hts _ kF_MA_50) (fun _ h9 => h9) rfl d_MA_performIf_54 ?_
      refine va_get (D := (dC, dI)) (ci := 3) (v := .ref cpt) (C := R_CD) (T := F_CD) (N := 10) hx hb hts i_CD hown hK hP 0 rfl rfl 6 (by decide) (hts _ kF_MA_120) (fun _ h9 => h9) rfl d_MA_performIf_57 ?_
      refine lv_iload_n hx hb d_MA_performIf_60 rfl (lv_at hl 1 rfl) ?_
      have g61 : vp_in p0 5000 := vp_in_iff.mpr ⟨by (first | (apply Int.le_antisymm <;> omega) | omega), by (first | (apply Int.le_antisymm <;> omega) | omega)⟩
      refine va_iald hx hb hK hP 7 7 rfl rfl g61 d_MA_performIf_61 ?_
      refine lv_topi (fun x5 ex5 => ?_)
      have b61 := ex5
      have y61 : x5.toInt = (gcpt p0.toNatClampNeg).toInt := by rw [ex5]
      obtain ⟨w1, w2, -⟩ := hI.2.2.2 (by (first | (apply Int.le_antisymm <;> omega) | omega))
      refine lv_iconst (v := 1) hx hb d_MA_performIf_62 (by decide) ?_
      refine lv_iadd hx hb d_MA_performIf_63 ?_
      refine lv_topi (fun x6 ex6 => ?_)
      have tx6 : x6.toInt = x5.toInt + 1 := by have z := i32_add ex6 (by (first | (apply Int.le_antisymm <;> omega) | omega)) (by (first | (apply Int.le_antisymm <;> omega) | omega)); first | exact z | (first | (apply Int.le_antisymm <;> omega) | omega)
      refine va_put (D := (dC, dI)) (ci := 4) (v := .int x6) (ty := .int) (C := R_MA) (T := F_MA) (N := 18) hx hb hts i_MA t_MA t_MA_ok n_MA hown hK hP hD hS 9 rfl rfl 17 (by decide) (hts _ kF_MA_106) (fun _ h9 => h9) rfl (by decide +kernel) rfl rfl (Nat.le_of_ble_eq_true rfl) d_MA_performIf_64 (fun H locs hP hD hS => ?_)
      have hP9 := hP.sb (wq := (wz_30 h0 h0_pages h0_steps h0_reason gl aw ac ce sk n2 fb fs ff fl h0_frameCount lb lh h0_labelCount x6 ac cfi clk ac_localTypes_r ac_length cop cva cpt cel ac_labelCount cla sk csk gsk fb cfb gfb fs cfs gfs ff cff gff fl cfl gfl lb clb glb lh clh glh cpt ccpt gcpt cel ccel gcel)) [9, 0, 10, 1, 2, 3, 4, 5, 6, 7, 8] rfl
      have hD9 := hD.sb (wq := (wz_30 h0 h0_pages h0_steps h0_reason gl aw ac ce sk n2 fb fs ff fl h0_frameCount lb lh h0_labelCount x6 ac cfi clk ac_localTypes_r ac_length cop cva cpt cel ac_labelCount cla sk csk gsk fb cfb gfb fs cfs gfs ff cff gff fl cfl gfl lb clb glb lh clh glh cpt ccpt gcpt cel ccel gcel)) [9, 0, 10, 1, 2, 3, 4, 5, 6, 7, 8] (by decide) rfl
      exact W.vret hx hb hr (fun t ht hW => ⟨⟨(glb, glh, x6, n2, h0_labelCount), rfl, ⟨bn2, b_h0_labelCount, mc_go hT (by (try dsimp only); (first | (apply Int.le_antisymm <;> omega) | omega)) (by (try dsimp only); (first | (apply Int.le_antisymm <;> omega) | omega)) (by (try dsimp only); rw [show x6.toInt.toNat = (gcpt p0.toNatClampNeg).toInt.toNat + 1 from by rw [← b61]; (first | (apply Int.le_antisymm <;> omega) | omega)]; exact (hI.2.2.2 (by (first | (apply Int.le_antisymm <;> omega) | omega))).2.2) (fun _ => by (try dsimp only); (first | (apply Int.le_antisymm <;> omega) | omega)) rfl⟩, va_P.he ht.symm hP9, va_K.moved hW.alike hK, hD9⟩, hS.F ht⟩) hS.2.2 d_MA_performIf_67
    · have q26 := nltI c26
      refine lv_aload_n hx hb d_MA_performIf_29 rfl (lv_at hl 0 rfl) ?_
      refine lv_iload_n hx hb d_MA_performIf_30 rfl (lv_at hl 1 rfl) ?_
      have hPc := hP.sb (wq := (wz_18 h0 h0_pages h0_steps h0_reason gl aw ac ce sk n2 fb fs ff fl h0_frameCount lb lh h0_labelCount h0_at lb clb glb lh clh glh)) [9, 5, 6] rfl
      have hDc := hD.sb (wq := (wz_18 h0 h0_pages h0_steps h0_reason gl aw ac ce sk n2 fb fs ff fl h0_frameCount lb lh h0_labelCount h0_at lb clb glb lh clh glh)) [9, 5, 6] (by decide) rfl
      have hKc := hK.sb (tyq := [(clb, .int), (clh, .int)]) [5, 6] rfl
      have hFc := va_free (wc := (wz_18 h0 h0_pages h0_steps h0_reason gl aw ac ce sk n2 fb fs ff fl h0_frameCount lb lh h0_labelCount h0_at lb clb glb lh clh glh)) hD hS hA [9, 5, 6] rfl
      refine va_callv (va_runV (As := [.int p0]) (rest := []) ⟨hx, hb, hml, hown, hts⟩ (c_MA_enterBlock l dC dI H.size h0 gl aw ac ce sk fb fs ff fl lb lh clb clh h0_pages h0_steps h0_reason n2 h0_frameCount h0_labelCount h0_at glb glh (bn2) (b_h0_labelCount) p0) (cwV 1 hts (gV kM_MA_153 kV_MA_enterBlock kS_MA_enterBlock kI_MA kC_MA_enterBlock) rfl rfl rfl (by decide +kernel) ⟨Nat.le_of_ble_eq_true rfl, Nat.le_of_ble_eq_true rfl⟩) ⟨fun a U g mk z => by obtain ⟨z0, z1, zP, zK, zD⟩ := z; exact ⟨z0, z1, zP, va_K.moved (u := U) (U := U.calling g mk a) (Vm.Alike.refl U.vm) zK, zD⟩, va_recv hKc hPc (ci := 4) (q0 := 0) rfl rfl, fun U hU hW => ⟨rfl, by rw [hU], va_P.he hU.symm hPc, va_K.moved hW.alike hKc, hDc.weaken (fun _ _ _ _ => trivial)⟩⟩ rfl rfl hl.1 rfl (lv_room (Nat.le_of_ble_eq_true rfl)) d_MA_performIf_31 ⟨(Nat.zero_le _), (Nat.zero_le _)⟩) hS (fun q _ h => hFc q h) hFc (fun u t H1 locs ht hvm hw hB hz1 hk1 hS => ?_)
      obtain ⟨n8, n9, n10⟩ := u
      try dsimp only at hw
      obtain ⟨bn10, xr7⟩ := hw
      try clear hw
      obtain ⟨u1, u2, u3⟩ := xr7.resolve_right (fun z => absurd z.1 (by (first | (apply Int.le_antisymm <;> omega) | omega)))
      rw [i32_natI (x := h0_labelCount) rfl] at u2 u3
      obtain ⟨hP1, hK1, hD1⟩ := hB
      replace hP1 := va_P.he ht hP1
      obtain ⟨hP, hD⟩ := va_join (wr := [(ac, .inr (3, [.ref cfi, .ref clk, .ref ac_localTypes_r, .int ac_length, .ref cop, .ref cva, .ref cpt, .ref cel, .int ac_labelCount, .ref cla])), (fb, .inl (cfb, 100, .inl gfb)), (fs, .inl (cfs, 100, .inl gfs)), (ff, .inl (cff, 100, .inl gff)), (fl, .inl (cfl, 100, .inl gfl)), (cpt, .inl (ccpt, 5000, .inl gcpt)), (cel, .inl (ccel, 5000, .inl gcel)), (sk, .inl (csk, 12096, .inr (.inl gsk)))]) (w1 := (wz_18 h0 h0_pages h0_steps h0_reason gl aw ac ce sk n2 fb fs ff fl h0_frameCount lb lh n10 h0_at lb clb n8 lh clh n9)) hP hD [9, 5, 6] [0, 1, 2, 3, 4, 7, 8, 10] rfl rfl (by decide) (by decide) hk1 hFc hP1 hD1
      clear hPc hDc hKc hFc hz1 hk1 hP1 hK1 hD1
      rename Heap => H
      have hP : va_P (dC, dI) cls (wz_31 ac cfi clk ac_localTypes_r ac_length cop cva cpt cel ac_labelCount cla fb cfb gfb fs cfs gfs ff cff gff fl cfl gfl cpt ccpt gcpt cel ccel gcel sk csk gsk h0 h0_pages h0_steps h0_reason gl aw ac ce sk n2 fb fs ff fl h0_frameCount lb lh n10 h0_at lb clb n8 lh clh n9) H := hP
      have hD : va_D A (wz_31 ac cfi clk ac_localTypes_r ac_length cop cva cpt cel ac_labelCount cla fb cfb gfb fs cfs gfs ff cff gff fl cfl gfl cpt ccpt gcpt cel ccel gcel sk csk gsk h0 h0_pages h0_steps h0_reason gl aw ac ce sk n2 fb fs ff fl h0_frameCount lb lh n10 h0_at lb clb n8 lh clh n9) := hD
      refine lv_aload_n hx hb d_MA_performIf_34 rfl (lv_at hl 0 rfl) ?_
      refine lv_aload_n hx hb d_MA_performIf_35 rfl (lv_at hl 0 rfl) ?_
      refine va_get (D := (dC, dI)) (ci := 4) (v := .ref ac) (C := R_MA) (T := F_MA) (N := 18) hx hb hts i_MA hown hK hP 8 rfl rfl 5 (by decide) (hts _ kF_MA_50) (fun _ h9 => h9) rfl d_MA_performIf_36 ?_
      refine va_get (D := (dC, dI)) (ci := 3) (v := .ref cel) (C := R_CD) (T := F_CD) (N := 10) hx hb hts i_CD hown hK hP 0 rfl rfl 7 (by decide) (hts _ kF_MA_176) (fun _ h9 => h9) rfl d_MA_performIf_39 ?_
      refine lv_iload_n hx hb d_MA_performIf_42 rfl (lv_at hl 1 rfl) ?_
      have g43 : vp_in p0 5000 := vp_in_iff.mpr ⟨by (first | (apply Int.le_antisymm <;> omega) | omega), by (first | (apply Int.le_antisymm <;> omega) | omega)⟩
      refine va_iald hx hb hK hP 6 8 rfl rfl g43 d_MA_performIf_43 ?_
      refine lv_topi (fun x11 ex11 => ?_)
      have b43 := ex11
      have y43 : x11.toInt = (gcel p0.toNatClampNeg).toInt := by rw [ex11]
      have w43 := (hI.2.2.1 (by (first | (apply Int.le_antisymm <;> omega) | omega))).1
      refine lv_iconst (v := 1) hx hb d_MA_performIf_44 (by decide) ?_
      refine lv_iadd hx hb d_MA_performIf_45 ?_
      refine lv_topi (fun x12 ex12 => ?_)
      have tx12 : x12.toInt = x11.toInt + 1 := by have z := i32_add ex12 (by (first | (apply Int.le_antisymm <;> omega) | omega)) (by (first | (apply Int.le_antisymm <;> omega) | omega)); first | exact z | (first | (apply Int.le_antisymm <;> omega) | omega)
      refine va_put (D := (dC, dI)) (ci := 4) (v := .int x12) (ty := .int) (C := R_MA) (T := F_MA) (N := 18) hx hb hts i_MA t_MA t_MA_ok n_MA hown hK hP hD hS 8 rfl rfl 17 (by decide) (hts _ kF_MA_106) (fun _ h9 => h9) rfl (by decide +kernel) rfl rfl (Nat.le_of_ble_eq_true rfl) d_MA_performIf_46 (fun H locs hP hD hS => ?_)
      refine lv_goto (tgt := 67) hx hb d_MA_performIf_49 (by decide) ?_
      have hP9 := hP.sb (wq := (wz_30 h0 h0_pages h0_steps h0_reason gl aw ac ce sk n2 fb fs ff fl h0_frameCount lb lh n10 x12 ac cfi clk ac_localTypes_r ac_length cop cva cpt cel ac_labelCount cla sk csk gsk fb cfb gfb fs cfs gfs ff cff gff fl cfl gfl lb clb n8 lh clh n9 cpt ccpt gcpt cel ccel gcel)) [8, 0, 7, 1, 2, 3, 4, 9, 10, 5, 6] rfl
      have hD9 := hD.sb (wq := (wz_30 h0 h0_pages h0_steps h0_reason gl aw ac ce sk n2 fb fs ff fl h0_frameCount lb lh n10 x12 ac cfi clk ac_localTypes_r ac_length cop cva cpt cel ac_labelCount cla sk csk gsk fb cfb gfb fs cfs gfs ff cff gff fl cfl gfl lb clb n8 lh clh n9 cpt ccpt gcpt cel ccel gcel)) [8, 0, 7, 1, 2, 3, 4, 9, 10, 5, 6] (by decide) rfl
      exact W.vret hx hb hr (fun t ht hW => ⟨⟨(n8, n9, x12, n2, n10), rfl, ⟨bn2, bn10, by (try dsimp only); rw [u2, u3]; exact mc_go (hT.enter (i := p0.toNatClampNeg) (h := h - 1) (by (first | (apply Int.le_antisymm <;> omega) | omega)) (by (first | (apply Int.le_antisymm <;> omega) | omega)) (by (first | (apply Int.le_antisymm <;> omega) | omega)) (by (first | (apply Int.le_antisymm <;> omega) | omega)) (by (first | (apply Int.le_antisymm <;> omega) | omega)) (by (first | (apply Int.le_antisymm <;> omega) | omega))) (by (first | (apply Int.le_antisymm <;> omega) | omega)) (by (first | (apply Int.le_antisymm <;> omega) | omega)) (by rw [show x12.toInt.toNat = (gcel p0.toNatClampNeg).toInt.toNat + 1 from by rw [← b43]; (first | (apply Int.le_antisymm <;> omega) | omega)]; exact (hI.2.2.1 (by (first | (apply Int.le_antisymm <;> omega) | omega))).2) (fun _ => by (first | (apply Int.le_antisymm <;> omega) | omega)) (by (first | (apply Int.le_antisymm <;> omega) | omega))⟩, va_P.he ht.symm hP9, va_K.moved hW.alike hK, hD9⟩, hS.F ht⟩) hS.2.2 d_MA_performIf_67
  · have q6 := neI c6
    refine lv_aload_n hx hb d_MA_performIf_9 rfl (lv_at hl 0 rfl) ?_
    refine lv_iload_n hx hb d_MA_performIf_10 rfl (lv_at hl 1 rfl) ?_
    have hPc := hP.sb (wq := (wz_18 h0 h0_pages h0_steps h0_reason gl aw ac ce sk n2 fb fs ff fl h0_frameCount lb lh h0_labelCount h0_at lb clb glb lh clh glh)) [9, 5, 6] rfl
    have hDc := hD.sb (wq := (wz_18 h0 h0_pages h0_steps h0_reason gl aw ac ce sk n2 fb fs ff fl h0_frameCount lb lh h0_labelCount h0_at lb clb glb lh clh glh)) [9, 5, 6] (by decide) rfl
    have hKc := hK.sb (tyq := [(clb, .int), (clh, .int)]) [5, 6] rfl
    have hFc := va_free (wc := (wz_18 h0 h0_pages h0_steps h0_reason gl aw ac ce sk n2 fb fs ff fl h0_frameCount lb lh h0_labelCount h0_at lb clb glb lh clh glh)) hD hS hA [9, 5, 6] rfl
    refine va_callv (va_runV (As := [.int p0]) (rest := []) ⟨hx, hb, hml, hown, hts⟩ (c_MA_enterBlock l dC dI H.size h0 gl aw ac ce sk fb fs ff fl lb lh clb clh h0_pages h0_steps h0_reason n2 h0_frameCount h0_labelCount h0_at glb glh (bn2) (b_h0_labelCount) p0) (cwV 1 hts (gV kM_MA_153 kV_MA_enterBlock kS_MA_enterBlock kI_MA kC_MA_enterBlock) rfl rfl rfl (by decide +kernel) ⟨Nat.le_of_ble_eq_true rfl, Nat.le_of_ble_eq_true rfl⟩) ⟨fun a U g mk z => by obtain ⟨z0, z1, zP, zK, zD⟩ := z; exact ⟨z0, z1, zP, va_K.moved (u := U) (U := U.calling g mk a) (Vm.Alike.refl U.vm) zK, zD⟩, va_recv hKc hPc (ci := 4) (q0 := 0) rfl rfl, fun U hU hW => ⟨rfl, by rw [hU], va_P.he hU.symm hPc, va_K.moved hW.alike hKc, hDc.weaken (fun _ _ _ _ => trivial)⟩⟩ rfl rfl hl.1 rfl (lv_room (Nat.le_of_ble_eq_true rfl)) d_MA_performIf_11 ⟨(Nat.zero_le _), (Nat.zero_le _)⟩) hS (fun q _ h => hFc q h) hFc (fun u t H1 locs ht hvm hw hB hz1 hk1 hS => ?_)
    obtain ⟨n14, n15, n16⟩ := u
    try dsimp only at hw
    obtain ⟨bn16, xr13⟩ := hw
    try clear hw
    obtain ⟨u1, u2, u3⟩ := xr13.resolve_right (fun z => absurd z.1 (by (first | (apply Int.le_antisymm <;> omega) | omega)))
    rw [i32_natI (x := h0_labelCount) rfl] at u2 u3
    obtain ⟨hP1, hK1, hD1⟩ := hB
    replace hP1 := va_P.he ht hP1
    obtain ⟨hP, hD⟩ := va_join (wr := [(ac, .inr (3, [.ref cfi, .ref clk, .ref ac_localTypes_r, .int ac_length, .ref cop, .ref cva, .ref cpt, .ref cel, .int ac_labelCount, .ref cla])), (fb, .inl (cfb, 100, .inl gfb)), (fs, .inl (cfs, 100, .inl gfs)), (ff, .inl (cff, 100, .inl gff)), (fl, .inl (cfl, 100, .inl gfl)), (cpt, .inl (ccpt, 5000, .inl gcpt)), (cel, .inl (ccel, 5000, .inl gcel)), (sk, .inl (csk, 12096, .inr (.inl gsk)))]) (w1 := (wz_18 h0 h0_pages h0_steps h0_reason gl aw ac ce sk n2 fb fs ff fl h0_frameCount lb lh n16 h0_at lb clb n14 lh clh n15)) hP hD [9, 5, 6] [0, 1, 2, 3, 4, 7, 8, 10] rfl rfl (by decide) (by decide) hk1 hFc hP1 hD1
    clear hPc hDc hKc hFc hz1 hk1 hP1 hK1 hD1
    rename Heap => H
    have hP : va_P (dC, dI) cls (wz_31 ac cfi clk ac_localTypes_r ac_length cop cva cpt cel ac_labelCount cla fb cfb gfb fs cfs gfs ff cff gff fl cfl gfl cpt ccpt gcpt cel ccel gcel sk csk gsk h0 h0_pages h0_steps h0_reason gl aw ac ce sk n2 fb fs ff fl h0_frameCount lb lh n16 h0_at lb clb n14 lh clh n15) H := hP
    have hD : va_D A (wz_31 ac cfi clk ac_localTypes_r ac_length cop cva cpt cel ac_labelCount cla fb cfb gfb fs cfs gfs ff cff gff fl cfl gfl cpt ccpt gcpt cel ccel gcel sk csk gsk h0 h0_pages h0_steps h0_reason gl aw ac ce sk n2 fb fs ff fl h0_frameCount lb lh n16 h0_at lb clb n14 lh clh n15) := hD
    refine lv_goto (tgt := 67) hx hb d_MA_performIf_14 (by decide) ?_
    have hP9 := hP.sb (wq := (wz_30 h0 h0_pages h0_steps h0_reason gl aw ac ce sk n2 fb fs ff fl h0_frameCount lb lh n16 h0_at ac cfi clk ac_localTypes_r ac_length cop cva cpt cel ac_labelCount cla sk csk gsk fb cfb gfb fs cfs gfs ff cff gff fl cfl gfl lb clb n14 lh clh n15 cpt ccpt gcpt cel ccel gcel)) [8, 0, 7, 1, 2, 3, 4, 9, 10, 5, 6] rfl
    have hD9 := hD.sb (wq := (wz_30 h0 h0_pages h0_steps h0_reason gl aw ac ce sk n2 fb fs ff fl h0_frameCount lb lh n16 h0_at ac cfi clk ac_localTypes_r ac_length cop cva cpt cel ac_labelCount cla sk csk gsk fb cfb gfb fs cfs gfs ff cff gff fl cfl gfl lb clb n14 lh clh n15 cpt ccpt gcpt cel ccel gcel)) [8, 0, 7, 1, 2, 3, 4, 9, 10, 5, 6] (by decide) rfl
    exact W.vret hx hb hr (fun t ht hW => ⟨⟨(n14, n15, h0_at, n2, n16), rfl, ⟨bn2, bn16, by (try dsimp only); rw [u2, u3]; exact mc_go (hT.enter (i := p0.toNatClampNeg) (h := h - 1) (by (first | (apply Int.le_antisymm <;> omega) | omega)) (by (first | (apply Int.le_antisymm <;> omega) | omega)) (by (first | (apply Int.le_antisymm <;> omega) | omega)) (by (first | (apply Int.le_antisymm <;> omega) | omega)) (by (first | (apply Int.le_antisymm <;> omega) | omega)) (by (first | (apply Int.le_antisymm <;> omega) | omega))) (by (first | (apply Int.le_antisymm <;> omega) | omega)) (by (first | (apply Int.le_antisymm <;> omega) | omega)) (by rw [show h0_at.toInt.toNat = p0.toNatClampNeg + 1 from by (first | (apply Int.le_antisymm <;> omega) | omega)]; exact hI.2.1) (fun _ => by (first | (apply Int.le_antisymm <;> omega) | omega)) (by (first | (apply Int.le_antisymm <;> omega) | omega))⟩, va_P.he ht.symm hP9, va_K.moved hW.alike hK, hD9⟩, hS.F ht⟩) hS.2.2 d_MA_performIf_67
end q_13

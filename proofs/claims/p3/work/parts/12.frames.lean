/-! Machine: frames and blocks -/
abbrev b_MA_leaveFunction : ByteArray := prog_6_method_12_code
def y_MA_leaveFunction : MethodName := ⟨R_MA, "leaveFunction", "()V"⟩
abbrev w_MA_leaveFunction : List Cond := .code y_MA_leaveFunction b_MA_leaveFunction 1 none :: lw_g
theorem kC_MA_leaveFunction : Cond.code y_MA_leaveFunction b_MA_leaveFunction 1 none ∈ lw_g := in_g 1560 (by decide +kernel) rfl
theorem d_MA_leaveFunction_0 : decode b_MA_leaveFunction 0 = .ok (.aload_n 0, 1) := by decide +kernel
theorem d_MA_leaveFunction_1 : decode b_MA_leaveFunction 1 = .ok (.getfield 80, 3) := by decide +kernel
theorem d_MA_leaveFunction_4 : decode b_MA_leaveFunction 4 = .ok (.ifCond .le 78, 3) := by decide +kernel
theorem d_MA_leaveFunction_7 : decode b_MA_leaveFunction 7 = .ok (.aload_n 0, 1) := by decide +kernel
theorem d_MA_leaveFunction_8 : decode b_MA_leaveFunction 8 = .ok (.dup, 1) := by decide +kernel
theorem d_MA_leaveFunction_9 : decode b_MA_leaveFunction 9 = .ok (.getfield 80, 3) := by decide +kernel
theorem d_MA_leaveFunction_12 : decode b_MA_leaveFunction 12 = .ok (.iconst 1, 1) := by decide +kernel
theorem d_MA_leaveFunction_13 : decode b_MA_leaveFunction 13 = .ok (.isub, 1) := by decide +kernel
theorem d_MA_leaveFunction_14 : decode b_MA_leaveFunction 14 = .ok (.putfield 80, 3) := by decide +kernel
theorem d_MA_leaveFunction_17 : decode b_MA_leaveFunction 17 = .ok (.aload_n 0, 1) := by decide +kernel
theorem d_MA_leaveFunction_18 : decode b_MA_leaveFunction 18 = .ok (.aload_n 0, 1) := by decide +kernel
theorem d_MA_leaveFunction_19 : decode b_MA_leaveFunction 19 = .ok (.getfield 25, 3) := by decide +kernel
theorem d_MA_leaveFunction_22 : decode b_MA_leaveFunction 22 = .ok (.aload_n 0, 1) := by decide +kernel
theorem d_MA_leaveFunction_23 : decode b_MA_leaveFunction 23 = .ok (.getfield 80, 3) := by decide +kernel
theorem d_MA_leaveFunction_26 : decode b_MA_leaveFunction 26 = .ok (.iaload, 1) := by decide +kernel
theorem d_MA_leaveFunction_27 : decode b_MA_leaveFunction 27 = .ok (.aload_n 0, 1) := by decide +kernel
theorem d_MA_leaveFunction_28 : decode b_MA_leaveFunction 28 = .ok (.getfield 40, 3) := by decide +kernel
theorem d_MA_leaveFunction_31 : decode b_MA_leaveFunction 31 = .ok (.aload_n 0, 1) := by decide +kernel
theorem d_MA_leaveFunction_32 : decode b_MA_leaveFunction 32 = .ok (.getfield 28, 3) := by decide +kernel
theorem d_MA_leaveFunction_35 : decode b_MA_leaveFunction 35 = .ok (.aload_n 0, 1) := by decide +kernel
theorem d_MA_leaveFunction_36 : decode b_MA_leaveFunction 36 = .ok (.getfield 80, 3) := by decide +kernel
theorem d_MA_leaveFunction_39 : decode b_MA_leaveFunction 39 = .ok (.iaload, 1) := by decide +kernel
theorem d_MA_leaveFunction_40 : decode b_MA_leaveFunction 40 = .ok (.invokevirtual 191, 3) := by decide +kernel
theorem d_MA_leaveFunction_43 : decode b_MA_leaveFunction 43 = .ok (.bipush 64, 2) := by decide +kernel
theorem d_MA_leaveFunction_45 : decode b_MA_leaveFunction 45 = .ok (.if_icmp .eq 7, 3) := by decide +kernel
theorem d_MA_leaveFunction_48 : decode b_MA_leaveFunction 48 = .ok (.iconst 1, 1) := by decide +kernel
theorem d_MA_leaveFunction_49 : decode b_MA_leaveFunction 49 = .ok (.goto 4, 3) := by decide +kernel
theorem d_MA_leaveFunction_52 : decode b_MA_leaveFunction 52 = .ok (.iconst 0, 1) := by decide +kernel
theorem d_MA_leaveFunction_53 : decode b_MA_leaveFunction 53 = .ok (.invokevirtual 181, 3) := by decide +kernel
theorem d_MA_leaveFunction_56 : decode b_MA_leaveFunction 56 = .ok (.aload_n 0, 1) := by decide +kernel
theorem d_MA_leaveFunction_57 : decode b_MA_leaveFunction 57 = .ok (.aload_n 0, 1) := by decide +kernel
theorem d_MA_leaveFunction_58 : decode b_MA_leaveFunction 58 = .ok (.getfield 31, 3) := by decide +kernel
theorem d_MA_leaveFunction_61 : decode b_MA_leaveFunction 61 = .ok (.aload_n 0, 1) := by decide +kernel
theorem d_MA_leaveFunction_62 : decode b_MA_leaveFunction 62 = .ok (.getfield 80, 3) := by decide +kernel
theorem d_MA_leaveFunction_65 : decode b_MA_leaveFunction 65 = .ok (.iaload, 1) := by decide +kernel
theorem d_MA_leaveFunction_66 : decode b_MA_leaveFunction 66 = .ok (.putfield 83, 3) := by decide +kernel
theorem d_MA_leaveFunction_69 : decode b_MA_leaveFunction 69 = .ok (.aload_n 0, 1) := by decide +kernel
theorem d_MA_leaveFunction_70 : decode b_MA_leaveFunction 70 = .ok (.aload_n 0, 1) := by decide +kernel
theorem d_MA_leaveFunction_71 : decode b_MA_leaveFunction 71 = .ok (.getfield 21, 3) := by decide +kernel
theorem d_MA_leaveFunction_74 : decode b_MA_leaveFunction 74 = .ok (.aload_n 0, 1) := by decide +kernel
theorem d_MA_leaveFunction_75 : decode b_MA_leaveFunction 75 = .ok (.getfield 80, 3) := by decide +kernel
theorem d_MA_leaveFunction_78 : decode b_MA_leaveFunction 78 = .ok (.iaload, 1) := by decide +kernel
theorem d_MA_leaveFunction_79 : decode b_MA_leaveFunction 79 = .ok (.putfield 106, 3) := by decide +kernel
theorem d_MA_leaveFunction_82 : decode b_MA_leaveFunction 82 = .ok (.return_, 1) := by decide +kernel
theorem kM_MA_191 : Cond.methodLink R_MA 191 y_WA_gives ∈ lw_g := in_g 1561 (by decide +kernel) rfl
theorem kV_WA_gives : Cond.instanceMethod y_WA_gives ∈ lw_g := in_g 1409 (by decide +kernel) rfl
theorem kS_WA_gives : Cond.selects R_WA y_WA_gives y_WA_gives ∈ lw_g := in_g 1410 (by decide +kernel) rfl
theorem kM_MA_181 : Cond.methodLink R_MA 181 y_MA_keepTop ∈ lw_g := in_g 1562 (by decide +kernel) rfl
theorem kV_MA_keepTop : Cond.instanceMethod y_MA_keepTop ∈ lw_g := in_g 1564 (by decide +kernel) rfl
theorem kS_MA_keepTop : Cond.selects R_MA y_MA_keepTop y_MA_keepTop ∈ lw_g := in_s 104 (by decide +kernel) rfl
theorem kF_MA_80 : Cond.fieldLink R_MA 80 "WaferForge$Machine" "frameCount" "I" ∈ lw_g := in_g 554 (by decide +kernel) rfl
theorem kF_MA_25 : Cond.fieldLink R_MA 25 "WaferForge$Machine" "frameBases" "[I" ∈ lw_g := in_g 551 (by decide +kernel) rfl
theorem kF_MA_28 : Cond.fieldLink R_MA 28 "WaferForge$Machine" "frameFunctions" "[I" ∈ lw_g := in_g 552 (by decide +kernel) rfl
theorem kF_MA_31 : Cond.fieldLink R_MA 31 "WaferForge$Machine" "frameLabels" "[I" ∈ lw_g := in_g 553 (by decide +kernel) rfl
theorem kF_MA_21 : Cond.fieldLink R_MA 21 "WaferForge$Machine" "frameBacks" "[I" ∈ lw_g := in_g 550 (by decide +kernel) rfl
theorem kF_MA_106 : Cond.fieldLink R_MA 106 "WaferForge$Machine" "at" "I" ∈ lw_g := in_g 558 (by decide +kernel) rfl
abbrev at_MA_leaveFunction (dC : Nat → ClassId) (dI : Nat → Nat → Nat) (h0 gl aw ac ce sk fb fs ff fl lb lh wag waf : Nat) (csk cfb cfs cff cfl clb clh cwaf cwag : ClassId) (h0_pages : Int32) (h0_steps : Int32) (law : List Value) (gfb : Nat → Int32) (gfs : Nat → Int32) (gff : Nat → Int32) (gfl : Nat → Int32) (glb : Nat → Int32) (glh : Nat → Int32) (gwaf : Nat → Int32) (gwag : Nat → Int32) (A : Nat → Prop) (u : (Nat → Int64) × Int32 × Int32 × Int32 × Int32 × Int32) (t : State) : Prop := match u with | (gsk, h0_at, h0_frameCount, h0_height, h0_labelCount, h0_reason) => va_P (dC, dI) cls [(h0, .inr (4, [.int h0_pages, .int h0_steps, .int h0_reason, .ref gl, .ref aw, .ref ac, .ref ce, .ref sk, .int h0_height, .ref fb, .ref fs, .ref ff, .ref fl, .int h0_frameCount, .ref lb, .ref lh, .int h0_labelCount, .int h0_at])), (aw, .inr (10, law)), (sk, .inl (csk, 12096, .inr (.inl gsk))), (fb, .inl (cfb, 100, .inl gfb)), (fs, .inl (cfs, 100, .inl gfs)), (ff, .inl (cff, 100, .inl gff)), (fl, .inl (cfl, 100, .inl gfl)), (lb, .inl (clb, 10000, .inl glb)), (lh, .inl (clh, 10000, .inl glh)), (waf, .inl (cwaf, 30, .inl gwaf)), (wag, .inl (cwag, 20, .inl gwag))] t.heap ∧ va_K (dC, dI) cls [(csk, .long), (cfb, .int), (cfs, .int), (cff, .int), (cfl, .int), (clb, .int), (clh, .int), (cwaf, .int), (cwag, .int)] t ∧ va_D A [(h0, .inr (4, [.int h0_pages, .int h0_steps, .int h0_reason, .ref gl, .ref aw, .ref ac, .ref ce, .ref sk, .int h0_height, .ref fb, .ref fs, .ref ff, .ref fl, .int h0_frameCount, .ref lb, .ref lh, .int h0_labelCount, .int h0_at])), (aw, .inr (10, law)), (sk, .inl (csk, 12096, .inr (.inl gsk))), (fb, .inl (cfb, 100, .inl gfb)), (fs, .inl (cfs, 100, .inl gfs)), (ff, .inl (cff, 100, .inl gff)), (fl, .inl (cfl, 100, .inl gfl)), (lb, .inl (clb, 10000, .inl glb)), (lh, .inl (clh, 10000, .inl glh)), (waf, .inl (cwaf, 30, .inl gwaf)), (wag, .inl (cwag, 20, .inl gwag))]
set_option maxHeartbeats 4000000 in
set_option maxRecDepth 100000 in
theorem c_MA_leaveFunction (l : Launch) (dC : Nat → ClassId) (dI : Nat → Nat → Nat) (sz : Nat) (h0 gl aw ac ce sk fb fs ff fl lb lh wag waf : Nat) (csk cfb cfs cff cfl clb clh cwaf cwag : ClassId) (h0_pages : Int32) (h0_steps : Int32) (h0_reason : Int32) (h0_height : Int32) (h0_frameCount : Int32) (h0_labelCount : Int32) (h0_at : Int32) (law : List Value) (gsk : Nat → Int64) (gfb : Nat → Int32) (gfs : Nat → Int32) (gff : Nat → Int32) (gfl : Nat → Int32) (glb : Nat → Int32) (glh : Nat → Int32) (gwaf : Nat → Int32) (gwag : Nat → Int32) (an : mc_A) (nl : Nat → Int) (gv : Nat → Int) (fc : Int) (f : Nat) (bs : List (Nat × Int)) (paw_5 : law[5]? = some (.ref wag)) (paw_7 : law[7]? = some (.ref waf)) (plaw : law.length = 21) (b_h0_reason : 0 ≤ h0_reason.toInt ∧ h0_reason.toInt ≤ 14) (b_h0_height : 0 ≤ h0_height.toInt ∧ h0_height.toInt ≤ 12096) (b_h0_frameCount : 0 ≤ h0_frameCount.toInt ∧ h0_frameCount.toInt ≤ 100) (b_h0_labelCount : 0 ≤ h0_labelCount.toInt ∧ h0_labelCount.toInt ≤ 10000)   (hr0 : h0_reason.toInt = 0) (hk1 : 1 ≤ h0_frameCount.toInt) (hT : mc_tp an nl gv gfb gfs gff gfl glb glh (h0_frameCount.toInt - 1).toNat f bs h0_labelCount.toInt) (hf : (f : Int) < fc) (hfn : ∀ f : Nat, (f : Int) < fc → f < 30 ∧ 0 ≤ (gwaf f).toInt ∧ (gwaf f).toInt < 20) (hgv : ∀ f : Nat, (f : Int) < fc → gv f = if (gwag (gwaf f).toNatClampNeg).toInt = 64 then 0 else 1) : Met l y_MA_leaveFunction w_MA_leaveFunction ({ frames := 2, cells := 0, slots := 0, locals := 46 }) (va_Pc [.ref h0] (fun U => U.heap.size = sz ∧ va_P (dC, dI) cls [(h0, .inr (4, [.int h0_pages, .int h0_steps, .int h0_reason, .ref gl, .ref aw, .ref ac, .ref ce, .ref sk, .int h0_height, .ref fb, .ref fs, .ref ff, .ref fl, .int h0_frameCount, .ref lb, .ref lh, .int h0_labelCount, .int h0_at])), (aw, .inr (10, law)), (sk, .inl (csk, 12096, .inr (.inl gsk))), (fb, .inl (cfb, 100, .inl gfb)), (fs, .inl (cfs, 100, .inl gfs)), (ff, .inl (cff, 100, .inl gff)), (fl, .inl (cfl, 100, .inl gfl)), (lb, .inl (clb, 10000, .inl glb)), (lh, .inl (clh, 10000, .inl glh)), (waf, .inl (cwaf, 30, .inl gwaf)), (wag, .inl (cwag, 20, .inl gwag))] U.heap ∧ va_K (dC, dI) cls [(csk, .long), (cfb, .int), (cfs, .int), (cff, .int), (cfl, .int), (clb, .int), (clh, .int), (cwaf, .int), (cwag, .int)] U ∧ va_D (fun _ => True) [(h0, .inr (4, [.int h0_pages, .int h0_steps, .int h0_reason, .ref gl, .ref aw, .ref ac, .ref ce, .ref sk, .int h0_height, .ref fb, .ref fs, .ref ff, .ref fl, .int h0_frameCount, .ref lb, .ref lh, .int h0_labelCount, .int h0_at])), (aw, .inr (10, law)), (sk, .inl (csk, 12096, .inr (.inl gsk))), (fb, .inl (cfb, 100, .inl gfb)), (fs, .inl (cfs, 100, .inl gfs)), (ff, .inl (cff, 100, .inl gff)), (fl, .inl (cfl, 100, .inl gfl)), (lb, .inl (clb, 10000, .inl glb)), (lh, .inl (clh, 10000, .inl glh)), (waf, .inl (cwaf, 30, .inl gwaf)), (wag, .inl (cwag, 20, .inl gwag))])) (va_Qv (fun (u : (Nat → Int64) × Int32 × Int32 × Int32 × Int32 × Int32) => match u with | (gsk2, h0_at2, h0_frameCount2, h0_height2, h0_labelCount2, h0_reason2) => (0 ≤ h0_frameCount2.toInt ∧ h0_frameCount2.toInt ≤ 100) ∧ (0 ≤ h0_height2.toInt ∧ h0_height2.toInt ≤ 12096) ∧ (0 ≤ h0_labelCount2.toInt ∧ h0_labelCount2.toInt ≤ 10000) ∧ (0 ≤ h0_reason2.toInt ∧ h0_reason2.toInt ≤ 14) ∧ (mc_after an nl gv gfb gfs gff gfl glb glh h0_reason2 h0_frameCount2 h0_at2 h0_height2 h0_labelCount2)) (at_MA_leaveFunction dC dI h0 gl aw ac ce sk fb fs ff fl lb lh wag waf csk cfb cfs cff cfl clb clh cwaf cwag h0_pages h0_steps law gfb gfs gff gfl glb glh gwaf gwag (va_A [(h0, .inr (4, [.int h0_pages, .int h0_steps, .int h0_reason, .ref gl, .ref aw, .ref ac, .ref ce, .ref sk, .int h0_height, .ref fb, .ref fs, .ref ff, .ref fl, .int h0_frameCount, .ref lb, .ref lh, .int h0_labelCount, .int h0_at])), (aw, .inr (10, law)), (sk, .inl (csk, 12096, .inr (.inl gsk))), (fb, .inl (cfb, 100, .inl gfb)), (fs, .inl (cfs, 100, .inl gfs)), (ff, .inl (cff, 100, .inl gff)), (fl, .inl (cfl, 100, .inl gfl)), (lb, .inl (clb, 10000, .inl glb)), (lh, .inl (clh, 10000, .inl glh)), (waf, .inl (cwaf, 30, .inl gwaf)), (wag, .inl (cwag, 20, .inl gwag))] sz)) (va_A [(h0, .inr (4, [.int h0_pages, .int h0_steps, .int h0_reason, .ref gl, .ref aw, .ref ac, .ref ce, .ref sk, .int h0_height, .ref fb, .ref fs, .ref ff, .ref fl, .int h0_frameCount, .ref lb, .ref lh, .int h0_labelCount, .int h0_at])), (aw, .inr (10, law)), (sk, .inl (csk, 12096, .inr (.inl gsk))), (fb, .inl (cfb, 100, .inl gfb)), (fs, .inl (cfs, 100, .inl gfs)), (ff, .inl (cff, 100, .inl gff)), (fl, .inl (cfl, 100, .inl gfl)), (lb, .inl (clb, 10000, .inl glb)), (lh, .inl (clh, 10000, .inl glh)), (waf, .inl (cwaf, 30, .inl gwaf)), (wag, .inl (cwag, 20, .inl gwag))] sz)) 0 0 (va_A [(h0, .inr (4, [.int h0_pages, .int h0_steps, .int h0_reason, .ref gl, .ref aw, .ref ac, .ref ce, .ref sk, .int h0_height, .ref fb, .ref fs, .ref ff, .ref fl, .int h0_frameCount, .ref lb, .ref lh, .int h0_labelCount, .int h0_at])), (aw, .inr (10, law)), (sk, .inl (csk, 12096, .inr (.inl gsk))), (fb, .inl (cfb, 100, .inl gfb)), (fs, .inl (cfs, 100, .inl gfs)), (ff, .inl (cff, 100, .inl gff)), (fl, .inl (cfl, 100, .inl gfl)), (lb, .inl (clb, 10000, .inl glb)), (lh, .inl (clh, 10000, .inl glh)), (waf, .inl (cwaf, 30, .inl gwaf)), (wag, .inl (cwag, 20, .inl gwag))] sz) := by
  refine Met.ofW (cc := b_MA_leaveFunction) (maxL := 1) (ret := none) (by decide) rfl ?_
  intro p e s m args below meth c s₁ B hml hv
  obtain ⟨rfl, hsz, hP, hK, hD0⟩ := hv
  have hx := B.exec
  have hb := B.bytes
  have hr := B.returns
  have hts0 := atoms_spec (ws := w_MA_leaveFunction) B.pre
  have hts : ∀ w ∈ lw_g, w.before _ s = true := fun w h => hts0 w (List.mem_cons_of_mem _ h)
  have hown : s.vm.findClass R_MA = some m.cls := findClass_of_methodNamed B.named
  have hlocks := B.notSynchronized
  clear hts0
  subst hsz
  have hD := hD0.self (sz := s.heap.size)
  generalize hAe : va_A [(h0, .inr (4, [.int h0_pages, .int h0_steps, .int h0_reason, .ref gl, .ref aw, .ref ac, .ref ce, .ref sk, .int h0_height, .ref fb, .ref fs, .ref ff, .ref fl, .int h0_frameCount, .ref lb, .ref lh, .int h0_labelCount, .int h0_at])), (aw, .inr (10, law)), (sk, .inl (csk, 12096, .inr (.inl gsk))), (fb, .inl (cfb, 100, .inl gfb)), (fs, .inl (cfs, 100, .inl gfs)), (ff, .inl (cff, 100, .inl gff)), (fl, .inl (cfl, 100, .inl gfl)), (lb, .inl (clb, 10000, .inl glb)), (lh, .inl (clh, 10000, .inl glh)), (waf, .inl (cwaf, 30, .inl gwaf)), (wag, .inl (cwag, 20, .inl gwag))] s.heap.size = A at hD ⊢
  have hA : ∀ q : Nat, s.heap.size ≤ q → A q := fun q h => by rw [← hAe]; exact Or.inr h
  clear hAe
  have hP : va_P (dC, dI) cls [(h0, .inr (4, [.int h0_pages, .int h0_steps, .int h0_reason, .ref gl, .ref aw, .ref ac, .ref ce, .ref sk, .int h0_height, .ref fb, .ref fs, .ref ff, .ref fl, .int h0_frameCount, .ref lb, .ref lh, .int h0_labelCount, .int h0_at])), (aw, .inr (10, law)), (sk, .inl (csk, 12096, .inr (.inl gsk))), (fb, .inl (cfb, 100, .inl gfb)), (fs, .inl (cfs, 100, .inl gfs)), (ff, .inl (cff, 100, .inl gff)), (fl, .inl (cfl, 100, .inl gfl)), (lb, .inl (clb, 10000, .inl glb)), (lh, .inl (clh, 10000, .inl glh)), (waf, .inl (cwaf, 30, .inl gwaf)), (wag, .inl (cwag, 20, .inl gwag))] s.heap := hP
  have hl := lv_entry ([.ref h0]) (n := 1) (Nat.le_of_ble_eq_true rfl)
  rw [lg_entry_eq]
  generalize (lg_sl ([.ref h0]) ++ List.replicate (1 - (lg_sl ([.ref h0])).length) Slot.unset).toArray = ls at hl ⊢
  have hl : lv_has ls 1 [(0, .ref h0)] := hl
  have k0 : (0 : Int32).toInt = 0 := by decide
  refine w_gen (A := A) hP (fun H locs hP hS => ?_)
  have k1 : (1 : Int32).toInt = 1 := by decide
  have k64 : (64 : Int32).toInt = 64 := by decide
  obtain ⟨o1, o2, o3, o4, o5, o6, o7, o8⟩ := hT.1
  have hk9 : (((h0_frameCount.toInt - 1).toNat : Nat) : Int) = h0_frameCount.toInt - 1 := by omega
  have hfn9 := hfn f hf
  refine lv_aload_n hx hb d_MA_leaveFunction_0 rfl (lv_at hl 0 rfl) ?_
  refine va_get (D := (dC, dI)) (ci := 4) (v := .int h0_frameCount) (C := R_MA) (T := F_MA) (N := 18) hx hb hts i_MA hown hK hP 0 rfl rfl 13 (by decide) (hts _ kF_MA_80) (fun _ h9 => h9) rfl d_MA_leaveFunction_1 ?_
  refine lv_if_le (tgt := 82) hx hb d_MA_leaveFunction_4 (by decide) (fun c4 => absurd (leI c4) (by omega)) (fun c4 => ?_)
  have q4 := nleI c4
  refine lv_aload_n hx hb d_MA_leaveFunction_7 rfl (lv_at hl 0 rfl) ?_
  refine lv_dup hx hb d_MA_leaveFunction_8 rfl ?_
  refine va_get (D := (dC, dI)) (ci := 4) (v := .int h0_frameCount) (C := R_MA) (T := F_MA) (N := 18) hx hb hts i_MA hown hK hP 0 rfl rfl 13 (by decide) (hts _ kF_MA_80) (fun _ h9 => h9) rfl d_MA_leaveFunction_9 ?_
  refine lv_iconst (v := 1) hx hb d_MA_leaveFunction_12 (by decide) ?_
  refine lv_isub hx hb d_MA_leaveFunction_13 ?_
  refine lv_topi (fun x1 ex1 => ?_)
  have tx1 : x1.toInt = h0_frameCount.toInt - 1 := by have z := i32_sub ex1 (by omega) (by omega); omega
  refine va_put (D := (dC, dI)) (ci := 4) (v := .int x1) (ty := .int) (C := R_MA) (T := F_MA) (N := 18) hx hb hts i_MA t_MA t_MA_ok n_MA hown hK hP hD hS 0 rfl rfl 13 (by decide) (hts _ kF_MA_80) (fun _ h9 => h9) rfl (by decide +kernel) rfl rfl (Nat.le_of_ble_eq_true rfl) d_MA_leaveFunction_14 (fun H locs hP hD hS => ?_)
  refine lv_aload_n hx hb d_MA_leaveFunction_17 rfl (lv_at hl 0 rfl) ?_
  refine lv_aload_n hx hb d_MA_leaveFunction_18 rfl (lv_at hl 0 rfl) ?_
  refine va_get (D := (dC, dI)) (ci := 4) (v := .ref fs) (C := R_MA) (T := F_MA) (N := 18) hx hb hts i_MA hown hK hP 0 rfl rfl 10 (by decide) (hts _ kF_MA_25) (fun _ h9 => h9) rfl d_MA_leaveFunction_19 ?_
  refine lv_aload_n hx hb d_MA_leaveFunction_22 rfl (lv_at hl 0 rfl) ?_
  refine va_get (D := (dC, dI)) (ci := 4) (v := .int x1) (C := R_MA) (T := F_MA) (N := 18) hx hb hts i_MA hown hK hP 0 rfl rfl 13 (by decide) (hts _ kF_MA_80) (fun _ h9 => h9) rfl d_MA_leaveFunction_23 ?_
  have g26 : vp_in x1 100 := vp_in_iff.mpr ⟨by omega, by omega⟩
  refine va_iald hx hb hK hP 4 2 rfl rfl g26 d_MA_leaveFunction_26 ?_
  refine lv_topi (fun x2 ex2 => ?_)
  rw [i32_natI (x := x1) (n := h0_frameCount.toInt - 1) (by omega)] at ex2
  have tx2 : 0 ≤ x2.toInt ∧ x2.toInt ≤ 12096 := by rw [ex2]; exact ⟨o2, o3⟩
  have b26 := ex2
  refine lv_aload_n hx hb d_MA_leaveFunction_27 rfl (lv_at hl 0 rfl) ?_
  refine va_get (D := (dC, dI)) (ci := 4) (v := .ref aw) (C := R_MA) (T := F_MA) (N := 18) hx hb hts i_MA hown hK hP 0 rfl rfl 4 (by decide) (hts _ kF_MA_40) (fun _ h9 => h9) rfl d_MA_leaveFunction_28 ?_
  refine lv_aload_n hx hb d_MA_leaveFunction_31 rfl (lv_at hl 0 rfl) ?_
  refine va_get (D := (dC, dI)) (ci := 4) (v := .ref ff) (C := R_MA) (T := F_MA) (N := 18) hx hb hts i_MA hown hK hP 0 rfl rfl 11 (by decide) (hts _ kF_MA_28) (fun _ h9 => h9) rfl d_MA_leaveFunction_32 ?_
  refine lv_aload_n hx hb d_MA_leaveFunction_35 rfl (lv_at hl 0 rfl) ?_
  refine va_get (D := (dC, dI)) (ci := 4) (v := .int x1) (C := R_MA) (T := F_MA) (N := 18) hx hb hts i_MA hown hK hP 0 rfl rfl 13 (by decide) (hts _ kF_MA_80) (fun _ h9 => h9) rfl d_MA_leaveFunction_36 ?_
  have g39 : vp_in x1 100 := vp_in_iff.mpr ⟨by omega, by omega⟩
  refine va_iald hx hb hK hP 5 3 rfl rfl g39 d_MA_leaveFunction_39 ?_
  refine lv_topi (fun x3 ex3 => ?_)
  rw [i32_natI (x := x1) (n := h0_frameCount.toInt - 1) (by omega)] at ex3
  have tx3 : x3.toInt = f := by rw [ex3]; exact o1
  have hPc := hP.sub (ws' := [(aw, .inr (10, law)), (waf, .inl (cwaf, 30, .inl gwaf)), (wag, .inl (cwag, 20, .inl gwag))]) [1, 9, 10] rfl
  have hDc := hD.sub (ws' := [(aw, .inr (10, law)), (waf, .inl (cwaf, 30, .inl gwaf)), (wag, .inl (cwag, 20, .inl gwag))]) [1, 9, 10] (by decide) rfl
  have hKc := hK.sub (tys' := [(cwaf, .int), (cwag, .int)]) [7, 8] rfl
  have hFc := va_free (wc := [(aw, .inr (10, law)), (waf, .inl (cwaf, 30, .inl gwaf)), (wag, .inl (cwag, 20, .inl gwag))]) hD hS hA [1, 9, 10] rfl
  refine va_calli (va_runV (As := [.int x3]) (rest := [.int x2, .ref h0]) ⟨hx, hb, hml, hown, hts⟩ (c_WA_gives l dC dI aw waf wag H.size cwaf cwag gwaf gwag law paw_7 paw_5 plaw x3 (by omega) (by rw [i32_nat tx3]; omega)) (cwV 1 hts (gV kM_MA_191 kV_WA_gives kS_WA_gives kI_WA kC_WA_gives) rfl rfl rfl (by decide +kernel) ⟨Nat.le_of_ble_eq_true rfl, Nat.le_of_ble_eq_true rfl⟩) ⟨fun a U g mk z => by obtain ⟨z0, z1, zP, zK, zD⟩ := z; exact ⟨z0, z1, zP, va_K.moved (u := U) (U := U.calling g mk a) (Vm.Alike.refl U.vm) zK, zD⟩, va_recv hKc hPc (ci := 10) (q0 := 0) rfl rfl, fun U hU hW => ⟨rfl, by rw [hU], by rw [hU]; exact hPc, va_K.moved hW.alike hKc, hDc.weaken (fun _ _ _ _ => trivial)⟩⟩ rfl rfl hl.1 rfl (lv_room (Nat.le_of_ble_eq_true rfl)) d_MA_leaveFunction_40 ⟨(Nat.zero_le _), (Nat.zero_le _)⟩) hS (fun q _ h => hFc q h) hFc (fun r4 u t H1 locs ht hvm hw hB hz1 hk1 hS => ?_)
  try dsimp only at hw
  have er4 := hw
  try clear hw
  rw [i32_nat tx3] at er4
  have g9 := hgv f hf
  rw [← er4] at g9
  obtain ⟨hP1, hK1, hD1⟩ := hB
  rw [ht] at hP1
  obtain ⟨hP, hD⟩ := va_join (wr := [(h0, .inr (4, [.int h0_pages, .int h0_steps, .int h0_reason, .ref gl, .ref aw, .ref ac, .ref ce, .ref sk, .int h0_height, .ref fb, .ref fs, .ref ff, .ref fl, .int x1, .ref lb, .ref lh, .int h0_labelCount, .int h0_at])), (sk, .inl (csk, 12096, .inr (.inl gsk))), (fb, .inl (cfb, 100, .inl gfb)), (fs, .inl (cfs, 100, .inl gfs)), (ff, .inl (cff, 100, .inl gff)), (fl, .inl (cfl, 100, .inl gfl)), (lb, .inl (clb, 10000, .inl glb)), (lh, .inl (clh, 10000, .inl glh))]) (w1 := [(aw, .inr (10, law)), (waf, .inl (cwaf, 30, .inl gwaf)), (wag, .inl (cwag, 20, .inl gwag))]) hP hD [1, 9, 10] [0, 2, 3, 4, 5, 6, 7, 8] rfl rfl (by decide) (by decide) hk1 hFc hP1 hD1
  clear hPc hDc hKc hFc hz1 hk1 hP1 hK1 hD1
  generalize H1 = H at hP hS ⊢
  have hP : va_P (dC, dI) cls [(h0, .inr (4, [.int h0_pages, .int h0_steps, .int h0_reason, .ref gl, .ref aw, .ref ac, .ref ce, .ref sk, .int h0_height, .ref fb, .ref fs, .ref ff, .ref fl, .int x1, .ref lb, .ref lh, .int h0_labelCount, .int h0_at])), (sk, .inl (csk, 12096, .inr (.inl gsk))), (fb, .inl (cfb, 100, .inl gfb)), (fs, .inl (cfs, 100, .inl gfs)), (ff, .inl (cff, 100, .inl gff)), (fl, .inl (cfl, 100, .inl gfl)), (lb, .inl (clb, 10000, .inl glb)), (lh, .inl (clh, 10000, .inl glh)), (aw, .inr (10, law)), (waf, .inl (cwaf, 30, .inl gwaf)), (wag, .inl (cwag, 20, .inl gwag))] H := hP
  have hD : va_D A [(h0, .inr (4, [.int h0_pages, .int h0_steps, .int h0_reason, .ref gl, .ref aw, .ref ac, .ref ce, .ref sk, .int h0_height, .ref fb, .ref fs, .ref ff, .ref fl, .int x1, .ref lb, .ref lh, .int h0_labelCount, .int h0_at])), (sk, .inl (csk, 12096, .inr (.inl gsk))), (fb, .inl (cfb, 100, .inl gfb)), (fs, .inl (cfs, 100, .inl gfs)), (ff, .inl (cff, 100, .inl gff)), (fl, .inl (cfl, 100, .inl gfl)), (lb, .inl (clb, 10000, .inl glb)), (lh, .inl (clh, 10000, .inl glh)), (aw, .inr (10, law)), (waf, .inl (cwaf, 30, .inl gwaf)), (wag, .inl (cwag, 20, .inl gwag))] := hD
  refine lv_bipush (v := 64) hx hb d_MA_leaveFunction_43 (by decide) ?_
  refine w_cut (pc2 := 53) (σ := Int32) (fun u H locs ls => match u with | j53_s0 => (j53_s0 = 0 ∨ j53_s0 = 1) ∧ (j53_s0.toInt = gv f) ∧ va_P (dC, dI) cls [(h0, .inr (4, [.int h0_pages, .int h0_steps, .int h0_reason, .ref gl, .ref aw, .ref ac, .ref ce, .ref sk, .int h0_height, .ref fb, .ref fs, .ref ff, .ref fl, .int x1, .ref lb, .ref lh, .int h0_labelCount, .int h0_at])), (sk, .inl (csk, 12096, .inr (.inl gsk))), (fb, .inl (cfb, 100, .inl gfb)), (fs, .inl (cfs, 100, .inl gfs)), (ff, .inl (cff, 100, .inl gff)), (fl, .inl (cfl, 100, .inl gfl)), (lb, .inl (clb, 10000, .inl glb)), (lh, .inl (clh, 10000, .inl glh)), (aw, .inr (10, law)), (waf, .inl (cwaf, 30, .inl gwaf)), (wag, .inl (cwag, 20, .inl gwag))] H ∧ va_D A [(h0, .inr (4, [.int h0_pages, .int h0_steps, .int h0_reason, .ref gl, .ref aw, .ref ac, .ref ce, .ref sk, .int h0_height, .ref fb, .ref fs, .ref ff, .ref fl, .int x1, .ref lb, .ref lh, .int h0_labelCount, .int h0_at])), (sk, .inl (csk, 12096, .inr (.inl gsk))), (fb, .inl (cfb, 100, .inl gfb)), (fs, .inl (cfs, 100, .inl gfs)), (ff, .inl (cff, 100, .inl gff)), (fl, .inl (cfl, 100, .inl gfl)), (lb, .inl (clb, 10000, .inl glb)), (lh, .inl (clh, 10000, .inl glh)), (aw, .inr (10, law)), (waf, .inl (cwaf, 30, .inl gwaf)), (wag, .inl (cwag, 20, .inl gwag))] ∧ va_S A s.heap H locs ∧ lv_has ls 1 [(0, .ref h0)]) (fun u => match u with | j53_s0 => [.int j53_s0, .int x2, .ref h0]) ?_ (fun jn53 => ?_)
  · intro u H locs ls hI
    obtain ⟨j53_s0, rfl⟩ : ∃ z, z = u := ⟨_, rfl⟩
    obtain ⟨b_j53_s0, v53, hP, hD, hS, hl⟩ := hI
    have tj53_s0 := b01 b_j53_s0
    have hPc := hP.sub (ws' := [(h0, .inr (4, [.int h0_pages, .int h0_steps, .int h0_reason, .ref gl, .ref aw, .ref ac, .ref ce, .ref sk, .int h0_height, .ref fb, .ref fs, .ref ff, .ref fl, .int x1, .ref lb, .ref lh, .int h0_labelCount, .int h0_at])), (sk, .inl (csk, 12096, .inr (.inl gsk)))]) [0, 1] rfl
    have hDc := hD.sub (ws' := [(h0, .inr (4, [.int h0_pages, .int h0_steps, .int h0_reason, .ref gl, .ref aw, .ref ac, .ref ce, .ref sk, .int h0_height, .ref fb, .ref fs, .ref ff, .ref fl, .int x1, .ref lb, .ref lh, .int h0_labelCount, .int h0_at])), (sk, .inl (csk, 12096, .inr (.inl gsk)))]) [0, 1] (by decide) rfl
    have hKc := hK.sub (tys' := [(csk, .long)]) [0] rfl
    have hFc := va_free (wc := [(h0, .inr (4, [.int h0_pages, .int h0_steps, .int h0_reason, .ref gl, .ref aw, .ref ac, .ref ce, .ref sk, .int h0_height, .ref fb, .ref fs, .ref ff, .ref fl, .int x1, .ref lb, .ref lh, .int h0_labelCount, .int h0_at])), (sk, .inl (csk, 12096, .inr (.inl gsk)))]) hD hS hA [0, 1] rfl
    refine va_callv (va_runV (As := [.int x2, .int j53_s0]) (rest := []) ⟨hx, hb, hml, hown, hts⟩ (c_MA_keepTop l dC dI H.size h0 gl aw ac ce sk fb fs ff fl lb lh csk h0_pages h0_steps h0_reason h0_height x1 h0_labelCount h0_at gsk (b_h0_reason) (b_h0_height) x2 j53_s0 (by (try dsimp only); omega) (b_j53_s0) (by (try dsimp only); omega)) (cwV 2 hts (gV kM_MA_181 kV_MA_keepTop kS_MA_keepTop kI_MA kC_MA_keepTop) rfl rfl rfl (by decide +kernel) ⟨Nat.le_of_ble_eq_true rfl, Nat.le_of_ble_eq_true rfl⟩) ⟨fun a U g mk z => by obtain ⟨z0, z1, zP, zK, zD⟩ := z; exact ⟨z0, z1, zP, va_K.moved (u := U) (U := U.calling g mk a) (Vm.Alike.refl U.vm) zK, zD⟩, va_recv hKc hPc (ci := 4) (q0 := 0) rfl rfl, fun U hU hW => ⟨rfl, by rw [hU], by rw [hU]; exact hPc, va_K.moved hW.alike hKc, hDc.weaken (fun _ _ _ _ => trivial)⟩⟩ rfl rfl hl.1 rfl (lv_room (Nat.le_of_ble_eq_true rfl)) d_MA_leaveFunction_53 ⟨(Nat.zero_le _), (Nat.zero_le _)⟩) hS (fun q _ h => hFc q h) hFc (fun u t H1 locs ht hvm hw hB hz1 hk1 hS => ?_)
    obtain ⟨n6, n7, n8⟩ := u
    try dsimp only at hw
    obtain ⟨bn7, bn8, xr5⟩ := hw
    try clear hw
    obtain ⟨hP1, hK1, hD1⟩ := hB
    rw [ht] at hP1
    obtain ⟨hP, hD⟩ := va_join (wr := [(fb, .inl (cfb, 100, .inl gfb)), (fs, .inl (cfs, 100, .inl gfs)), (ff, .inl (cff, 100, .inl gff)), (fl, .inl (cfl, 100, .inl gfl)), (lb, .inl (clb, 10000, .inl glb)), (lh, .inl (clh, 10000, .inl glh)), (aw, .inr (10, law)), (waf, .inl (cwaf, 30, .inl gwaf)), (wag, .inl (cwag, 20, .inl gwag))]) (w1 := [(h0, .inr (4, [.int h0_pages, .int h0_steps, .int n8, .ref gl, .ref aw, .ref ac, .ref ce, .ref sk, .int n7, .ref fb, .ref fs, .ref ff, .ref fl, .int x1, .ref lb, .ref lh, .int h0_labelCount, .int h0_at])), (sk, .inl (csk, 12096, .inr (.inl n6)))]) hP hD [0, 1] [2, 3, 4, 5, 6, 7, 8, 9, 10] rfl rfl (by decide) (by decide) hk1 hFc hP1 hD1
    clear hPc hDc hKc hFc hz1 hk1 hP1 hK1 hD1
    generalize H1 = H at hP hS ⊢
    have hP : va_P (dC, dI) cls [(fb, .inl (cfb, 100, .inl gfb)), (fs, .inl (cfs, 100, .inl gfs)), (ff, .inl (cff, 100, .inl gff)), (fl, .inl (cfl, 100, .inl gfl)), (lb, .inl (clb, 10000, .inl glb)), (lh, .inl (clh, 10000, .inl glh)), (aw, .inr (10, law)), (waf, .inl (cwaf, 30, .inl gwaf)), (wag, .inl (cwag, 20, .inl gwag)), (h0, .inr (4, [.int h0_pages, .int h0_steps, .int n8, .ref gl, .ref aw, .ref ac, .ref ce, .ref sk, .int n7, .ref fb, .ref fs, .ref ff, .ref fl, .int x1, .ref lb, .ref lh, .int h0_labelCount, .int h0_at])), (sk, .inl (csk, 12096, .inr (.inl n6)))] H := hP
    have hD : va_D A [(fb, .inl (cfb, 100, .inl gfb)), (fs, .inl (cfs, 100, .inl gfs)), (ff, .inl (cff, 100, .inl gff)), (fl, .inl (cfl, 100, .inl gfl)), (lb, .inl (clb, 10000, .inl glb)), (lh, .inl (clh, 10000, .inl glh)), (aw, .inr (10, law)), (waf, .inl (cwaf, 30, .inl gwaf)), (wag, .inl (cwag, 20, .inl gwag)), (h0, .inr (4, [.int h0_pages, .int h0_steps, .int n8, .ref gl, .ref aw, .ref ac, .ref ce, .ref sk, .int n7, .ref fb, .ref fs, .ref ff, .ref fl, .int x1, .ref lb, .ref lh, .int h0_labelCount, .int h0_at])), (sk, .inl (csk, 12096, .inr (.inl n6)))] := hD
    refine lv_aload_n hx hb d_MA_leaveFunction_56 rfl (lv_at hl 0 rfl) ?_
    refine lv_aload_n hx hb d_MA_leaveFunction_57 rfl (lv_at hl 0 rfl) ?_
    refine va_get (D := (dC, dI)) (ci := 4) (v := .ref fl) (C := R_MA) (T := F_MA) (N := 18) hx hb hts i_MA hown hK hP 9 rfl rfl 12 (by decide) (hts _ kF_MA_31) (fun _ h9 => h9) rfl d_MA_leaveFunction_58 ?_
    refine lv_aload_n hx hb d_MA_leaveFunction_61 rfl (lv_at hl 0 rfl) ?_
    refine va_get (D := (dC, dI)) (ci := 4) (v := .int x1) (C := R_MA) (T := F_MA) (N := 18) hx hb hts i_MA hown hK hP 9 rfl rfl 13 (by decide) (hts _ kF_MA_80) (fun _ h9 => h9) rfl d_MA_leaveFunction_62 ?_
    have g65 : vp_in x1 100 := vp_in_iff.mpr ⟨by omega, by omega⟩
    refine va_iald hx hb hK hP 3 4 rfl rfl g65 d_MA_leaveFunction_65 ?_
    refine lv_topi (fun x9 ex9 => ?_)
    rw [i32_natI (x := x1) (n := h0_frameCount.toInt - 1) (by omega)] at ex9
    have tx9 : 0 ≤ x9.toInt ∧ x9.toInt ≤ 10000 := by rw [ex9]; omega
    refine va_put (D := (dC, dI)) (ci := 4) (v := .int x9) (ty := .int) (C := R_MA) (T := F_MA) (N := 18) hx hb hts i_MA t_MA t_MA_ok n_MA hown hK hP hD hS 9 rfl rfl 16 (by decide) (hts _ kF_MA_83) (fun _ h9 => h9) rfl (by decide +kernel) rfl rfl (Nat.le_of_ble_eq_true rfl) d_MA_leaveFunction_66 (fun H locs hP hD hS => ?_)
    refine lv_aload_n hx hb d_MA_leaveFunction_69 rfl (lv_at hl 0 rfl) ?_
    refine lv_aload_n hx hb d_MA_leaveFunction_70 rfl (lv_at hl 0 rfl) ?_
    refine va_get (D := (dC, dI)) (ci := 4) (v := .ref fb) (C := R_MA) (T := F_MA) (N := 18) hx hb hts i_MA hown hK hP 9 rfl rfl 9 (by decide) (hts _ kF_MA_21) (fun _ h9 => h9) rfl d_MA_leaveFunction_71 ?_
    refine lv_aload_n hx hb d_MA_leaveFunction_74 rfl (lv_at hl 0 rfl) ?_
    refine va_get (D := (dC, dI)) (ci := 4) (v := .int x1) (C := R_MA) (T := F_MA) (N := 18) hx hb hts i_MA hown hK hP 9 rfl rfl 13 (by decide) (hts _ kF_MA_80) (fun _ h9 => h9) rfl d_MA_leaveFunction_75 ?_
    have g78 : vp_in x1 100 := vp_in_iff.mpr ⟨by omega, by omega⟩
    refine va_iald hx hb hK hP 0 1 rfl rfl g78 d_MA_leaveFunction_78 ?_
    refine lv_topi (fun x10 ex10 => ?_)
    rw [i32_natI (x := x1) (n := h0_frameCount.toInt - 1) (by omega)] at ex10
    refine va_put (D := (dC, dI)) (ci := 4) (v := .int x10) (ty := .int) (C := R_MA) (T := F_MA) (N := 18) hx hb hts i_MA t_MA t_MA_ok n_MA hown hK hP hD hS 9 rfl rfl 17 (by decide) (hts _ kF_MA_106) (fun _ h9 => h9) rfl (by decide +kernel) rfl rfl (Nat.le_of_ble_eq_true rfl) d_MA_leaveFunction_79 (fun H locs hP hD hS => ?_)
    have hP9 := hP.sub (ws' := [(h0, .inr (4, [.int h0_pages, .int h0_steps, .int n8, .ref gl, .ref aw, .ref ac, .ref ce, .ref sk, .int n7, .ref fb, .ref fs, .ref ff, .ref fl, .int x1, .ref lb, .ref lh, .int x9, .int x10])), (aw, .inr (10, law)), (sk, .inl (csk, 12096, .inr (.inl n6))), (fb, .inl (cfb, 100, .inl gfb)), (fs, .inl (cfs, 100, .inl gfs)), (ff, .inl (cff, 100, .inl gff)), (fl, .inl (cfl, 100, .inl gfl)), (lb, .inl (clb, 10000, .inl glb)), (lh, .inl (clh, 10000, .inl glh)), (waf, .inl (cwaf, 30, .inl gwaf)), (wag, .inl (cwag, 20, .inl gwag))]) [9, 6, 10, 0, 1, 2, 3, 4, 5, 7, 8] rfl
    have hD9 := hD.sub (ws' := [(h0, .inr (4, [.int h0_pages, .int h0_steps, .int n8, .ref gl, .ref aw, .ref ac, .ref ce, .ref sk, .int n7, .ref fb, .ref fs, .ref ff, .ref fl, .int x1, .ref lb, .ref lh, .int x9, .int x10])), (aw, .inr (10, law)), (sk, .inl (csk, 12096, .inr (.inl n6))), (fb, .inl (cfb, 100, .inl gfb)), (fs, .inl (cfs, 100, .inl gfs)), (ff, .inl (cff, 100, .inl gff)), (fl, .inl (cfl, 100, .inl gfl)), (lb, .inl (clb, 10000, .inl glb)), (lh, .inl (clh, 10000, .inl glh)), (waf, .inl (cwaf, 30, .inl gwaf)), (wag, .inl (cwag, 20, .inl gwag))]) [9, 6, 10, 0, 1, 2, 3, 4, 5, 7, 8] (by decide) rfl
    exact W.vret hx hb hr (fun t ht hW => ⟨⟨(n6, x10, x1, n7, x9, n8), rfl, ⟨by (try dsimp only); omega, bn7, by (try dsimp only); omega, bn8, mc_leave hT (by omega) (by (try dsimp only); exact ex10) (fun z => by (try dsimp only at z); (try dsimp only); rw [← b26]; omega) (by (try dsimp only); exact ex9)⟩, by rw [ht]; exact hP9, va_K.moved hW.alike hK, hD9⟩, hS.F ht⟩) hS.2.2 d_MA_leaveFunction_82
  · skip
    refine lv_icmp_eq (tgt := 52) hx hb d_MA_leaveFunction_45 (by decide) (fun c45 => ?_) (fun c45 => ?_)
    · have q45 := eqI c45
      refine lv_iconst (v := 0) hx hb d_MA_leaveFunction_52 (by decide) ?_
      exact jn53 0 _ _ _ ⟨Or.inl rfl, by (try dsimp only); split at g9 <;> omega, hP, hD, hS, lv_sub hl [0] rfl⟩
    · have q45 := neI c45
      refine lv_iconst (v := 1) hx hb d_MA_leaveFunction_48 (by decide) ?_
      refine lv_goto (tgt := 53) hx hb d_MA_leaveFunction_49 (by decide) ?_
      exact jn53 1 _ _ _ ⟨Or.inr rfl, by (try dsimp only); split at g9 <;> omega, hP, hD, hS, lv_sub hl [0] rfl⟩
abbrev b_MA_enter : ByteArray := prog_6_method_11_code
def y_MA_enter : MethodName := ⟨R_MA, "enter", "(I)V"⟩
abbrev w_MA_enter : List Cond := .code y_MA_enter b_MA_enter 4 none :: lw_g
theorem kC_MA_enter : Cond.code y_MA_enter b_MA_enter 4 none ∈ lw_g := in_g 1547 (by decide +kernel) rfl
theorem d_MA_enter_0 : decode b_MA_enter 0 = .ok (.aload_n 0, 1) := by decide +kernel
theorem d_MA_enter_1 : decode b_MA_enter 1 = .ok (.getfield 40, 3) := by decide +kernel
theorem d_MA_enter_4 : decode b_MA_enter 4 = .ok (.getfield 44, 3) := by decide +kernel
theorem d_MA_enter_7 : decode b_MA_enter 7 = .ok (.getfield 185, 3) := by decide +kernel
theorem d_MA_enter_10 : decode b_MA_enter 10 = .ok (.iload_n 1, 1) := by decide +kernel
theorem d_MA_enter_11 : decode b_MA_enter 11 = .ok (.iaload, 1) := by decide +kernel
theorem d_MA_enter_12 : decode b_MA_enter 12 = .ok (.istore_n 2, 1) := by decide +kernel
theorem d_MA_enter_13 : decode b_MA_enter 13 = .ok (.aload_n 0, 1) := by decide +kernel
theorem d_MA_enter_14 : decode b_MA_enter 14 = .ok (.getfield 80, 3) := by decide +kernel
theorem d_MA_enter_17 : decode b_MA_enter 17 = .ok (.bipush 100, 2) := by decide +kernel
theorem d_MA_enter_19 : decode b_MA_enter 19 = .ok (.if_icmp .ge 15, 3) := by decide +kernel
theorem d_MA_enter_22 : decode b_MA_enter 22 = .ok (.iload_n 2, 1) := by decide +kernel
theorem d_MA_enter_23 : decode b_MA_enter 23 = .ok (.sipush 12096, 3) := by decide +kernel
theorem d_MA_enter_26 : decode b_MA_enter 26 = .ok (.aload_n 0, 1) := by decide +kernel
theorem d_MA_enter_27 : decode b_MA_enter 27 = .ok (.getfield 77, 3) := by decide +kernel
theorem d_MA_enter_30 : decode b_MA_enter 30 = .ok (.isub, 1) := by decide +kernel
theorem d_MA_enter_31 : decode b_MA_enter 31 = .ok (.if_icmp .le 10, 3) := by decide +kernel
theorem d_MA_enter_34 : decode b_MA_enter 34 = .ok (.aload_n 0, 1) := by decide +kernel
theorem d_MA_enter_35 : decode b_MA_enter 35 = .ok (.bipush 13, 2) := by decide +kernel
theorem d_MA_enter_37 : decode b_MA_enter 37 = .ok (.putfield 71, 3) := by decide +kernel
theorem d_MA_enter_40 : decode b_MA_enter 40 = .ok (.return_, 1) := by decide +kernel
theorem d_MA_enter_41 : decode b_MA_enter 41 = .ok (.aload_n 0, 1) := by decide +kernel
theorem d_MA_enter_42 : decode b_MA_enter 42 = .ok (.getfield 21, 3) := by decide +kernel
theorem d_MA_enter_45 : decode b_MA_enter 45 = .ok (.aload_n 0, 1) := by decide +kernel
theorem d_MA_enter_46 : decode b_MA_enter 46 = .ok (.getfield 80, 3) := by decide +kernel
theorem d_MA_enter_49 : decode b_MA_enter 49 = .ok (.aload_n 0, 1) := by decide +kernel
theorem d_MA_enter_50 : decode b_MA_enter 50 = .ok (.getfield 106, 3) := by decide +kernel
theorem d_MA_enter_53 : decode b_MA_enter 53 = .ok (.iastore, 1) := by decide +kernel
theorem d_MA_enter_54 : decode b_MA_enter 54 = .ok (.aload_n 0, 1) := by decide +kernel
theorem d_MA_enter_55 : decode b_MA_enter 55 = .ok (.getfield 25, 3) := by decide +kernel
theorem d_MA_enter_58 : decode b_MA_enter 58 = .ok (.aload_n 0, 1) := by decide +kernel
theorem d_MA_enter_59 : decode b_MA_enter 59 = .ok (.getfield 80, 3) := by decide +kernel
theorem d_MA_enter_62 : decode b_MA_enter 62 = .ok (.aload_n 0, 1) := by decide +kernel
theorem d_MA_enter_63 : decode b_MA_enter 63 = .ok (.getfield 77, 3) := by decide +kernel
theorem d_MA_enter_66 : decode b_MA_enter 66 = .ok (.aload_n 0, 1) := by decide +kernel
theorem d_MA_enter_67 : decode b_MA_enter 67 = .ok (.getfield 40, 3) := by decide +kernel
theorem d_MA_enter_70 : decode b_MA_enter 70 = .ok (.iload_n 1, 1) := by decide +kernel
theorem d_MA_enter_71 : decode b_MA_enter 71 = .ok (.invokevirtual 86, 3) := by decide +kernel
theorem d_MA_enter_74 : decode b_MA_enter 74 = .ok (.isub, 1) := by decide +kernel
theorem d_MA_enter_75 : decode b_MA_enter 75 = .ok (.iastore, 1) := by decide +kernel
theorem d_MA_enter_76 : decode b_MA_enter 76 = .ok (.aload_n 0, 1) := by decide +kernel
theorem d_MA_enter_77 : decode b_MA_enter 77 = .ok (.getfield 28, 3) := by decide +kernel
theorem d_MA_enter_80 : decode b_MA_enter 80 = .ok (.aload_n 0, 1) := by decide +kernel
theorem d_MA_enter_81 : decode b_MA_enter 81 = .ok (.getfield 80, 3) := by decide +kernel
theorem d_MA_enter_84 : decode b_MA_enter 84 = .ok (.iload_n 1, 1) := by decide +kernel
theorem d_MA_enter_85 : decode b_MA_enter 85 = .ok (.iastore, 1) := by decide +kernel
theorem d_MA_enter_86 : decode b_MA_enter 86 = .ok (.aload_n 0, 1) := by decide +kernel
theorem d_MA_enter_87 : decode b_MA_enter 87 = .ok (.getfield 31, 3) := by decide +kernel
theorem d_MA_enter_90 : decode b_MA_enter 90 = .ok (.aload_n 0, 1) := by decide +kernel
theorem d_MA_enter_91 : decode b_MA_enter 91 = .ok (.getfield 80, 3) := by decide +kernel
theorem d_MA_enter_94 : decode b_MA_enter 94 = .ok (.aload_n 0, 1) := by decide +kernel
theorem d_MA_enter_95 : decode b_MA_enter 95 = .ok (.getfield 83, 3) := by decide +kernel
theorem d_MA_enter_98 : decode b_MA_enter 98 = .ok (.iastore, 1) := by decide +kernel
theorem d_MA_enter_99 : decode b_MA_enter 99 = .ok (.aload_n 0, 1) := by decide +kernel
theorem d_MA_enter_100 : decode b_MA_enter 100 = .ok (.dup, 1) := by decide +kernel
theorem d_MA_enter_101 : decode b_MA_enter 101 = .ok (.getfield 80, 3) := by decide +kernel
theorem d_MA_enter_104 : decode b_MA_enter 104 = .ok (.iconst 1, 1) := by decide +kernel
theorem d_MA_enter_105 : decode b_MA_enter 105 = .ok (.iadd, 1) := by decide +kernel
theorem d_MA_enter_106 : decode b_MA_enter 106 = .ok (.putfield 80, 3) := by decide +kernel
theorem d_MA_enter_109 : decode b_MA_enter 109 = .ok (.iconst 0, 1) := by decide +kernel
theorem d_MA_enter_110 : decode b_MA_enter 110 = .ok (.istore_n 3, 1) := by decide +kernel
theorem d_MA_enter_111 : decode b_MA_enter 111 = .ok (.iload_n 3, 1) := by decide +kernel
theorem d_MA_enter_112 : decode b_MA_enter 112 = .ok (.iload_n 2, 1) := by decide +kernel
theorem d_MA_enter_113 : decode b_MA_enter 113 = .ok (.if_icmp .ge 14, 3) := by decide +kernel
theorem d_MA_enter_116 : decode b_MA_enter 116 = .ok (.aload_n 0, 1) := by decide +kernel
theorem d_MA_enter_117 : decode b_MA_enter 117 = .ok (.lconst 0, 1) := by decide +kernel
theorem d_MA_enter_118 : decode b_MA_enter 118 = .ok (.invokevirtual 94, 3) := by decide +kernel
theorem d_MA_enter_121 : decode b_MA_enter 121 = .ok (.iinc 3 1, 3) := by decide +kernel
theorem d_MA_enter_124 : decode b_MA_enter 124 = .ok (.goto (-13), 3) := by decide +kernel
theorem d_MA_enter_127 : decode b_MA_enter 127 = .ok (.aload_n 0, 1) := by decide +kernel
theorem d_MA_enter_128 : decode b_MA_enter 128 = .ok (.aload_n 0, 1) := by decide +kernel
theorem d_MA_enter_129 : decode b_MA_enter 129 = .ok (.getfield 50, 3) := by decide +kernel
theorem d_MA_enter_132 : decode b_MA_enter 132 = .ok (.getfield 188, 3) := by decide +kernel
theorem d_MA_enter_135 : decode b_MA_enter 135 = .ok (.iload_n 1, 1) := by decide +kernel
theorem d_MA_enter_136 : decode b_MA_enter 136 = .ok (.iaload, 1) := by decide +kernel
theorem d_MA_enter_137 : decode b_MA_enter 137 = .ok (.putfield 106, 3) := by decide +kernel
theorem d_MA_enter_140 : decode b_MA_enter 140 = .ok (.return_, 1) := by decide +kernel
theorem kM_MA_86 : Cond.methodLink R_MA 86 y_WA_takes ∈ lw_g := in_g 1538 (by decide +kernel) rfl
theorem kV_WA_takes : Cond.instanceMethod y_WA_takes ∈ lw_g := in_g 1457 (by decide +kernel) rfl
theorem kS_WA_takes : Cond.selects R_WA y_WA_takes y_WA_takes ∈ lw_g := in_g 1458 (by decide +kernel) rfl
theorem kF_MA_44 : Cond.fieldLink R_MA 44 "WaferForge$Wafer" "codes" "LWaferForge$Codes;" ∈ lw_g := in_g 147 (by decide +kernel) rfl
theorem kF_MA_185 : Cond.fieldLink R_MA 185 "WaferForge$Codes" "localCounts" "[I" ∈ lw_g := in_g 90 (by decide +kernel) rfl
theorem kF_MA_50 : Cond.fieldLink R_MA 50 "WaferForge$Machine" "codes" "LWaferForge$Codes;" ∈ lw_g := in_g 546 (by decide +kernel) rfl
theorem kF_MA_188 : Cond.fieldLink R_MA 188 "WaferForge$Codes" "firsts" "[I" ∈ lw_g := in_g 86 (by decide +kernel) rfl
abbrev at_MA_enter (dC : Nat → ClassId) (dI : Nat → Nat → Nat) (h0 gl aw ac ce sk fb fs ff fl lb lh wat waf cfi clk ac_localTypes_r cop cva cpt cel cla : Nat) (csk cfb cfs cff cfl cwaf cwat ccfi cclk : ClassId) (h0_pages : Int32) (h0_steps : Int32) (h0_labelCount : Int32) (law : List Value) (ac_length : Int32) (ac_labelCount : Int32) (gwaf : Nat → Int32) (gwat : Nat → Int32) (gcfi : Nat → Int32) (gclk : Nat → Int32) (A : Nat → Prop) (u : (Nat → Int32) × (Nat → Int32) × (Nat → Int32) × (Nat → Int32) × (Nat → Int64) × Int32 × Int32 × Int32 × Int32) (t : State) : Prop := match u with | (gfb, gff, gfl, gfs, gsk, h0_at, h0_frameCount, h0_height, h0_reason) => va_P (dC, dI) cls [(h0, .inr (4, [.int h0_pages, .int h0_steps, .int h0_reason, .ref gl, .ref aw, .ref ac, .ref ce, .ref sk, .int h0_height, .ref fb, .ref fs, .ref ff, .ref fl, .int h0_frameCount, .ref lb, .ref lh, .int h0_labelCount, .int h0_at])), (aw, .inr (10, law)), (ac, .inr (3, [.ref cfi, .ref clk, .ref ac_localTypes_r, .int ac_length, .ref cop, .ref cva, .ref cpt, .ref cel, .int ac_labelCount, .ref cla])), (sk, .inl (csk, 12096, .inr (.inl gsk))), (fb, .inl (cfb, 100, .inl gfb)), (fs, .inl (cfs, 100, .inl gfs)), (ff, .inl (cff, 100, .inl gff)), (fl, .inl (cfl, 100, .inl gfl)), (waf, .inl (cwaf, 30, .inl gwaf)), (wat, .inl (cwat, 20, .inl gwat)), (cfi, .inl (ccfi, 31, .inl gcfi)), (clk, .inl (cclk, 30, .inl gclk))] t.heap ∧ va_K (dC, dI) cls [(csk, .long), (cfb, .int), (cfs, .int), (cff, .int), (cfl, .int), (cwaf, .int), (cwat, .int), (ccfi, .int), (cclk, .int)] t ∧ va_D A [(h0, .inr (4, [.int h0_pages, .int h0_steps, .int h0_reason, .ref gl, .ref aw, .ref ac, .ref ce, .ref sk, .int h0_height, .ref fb, .ref fs, .ref ff, .ref fl, .int h0_frameCount, .ref lb, .ref lh, .int h0_labelCount, .int h0_at])), (aw, .inr (10, law)), (ac, .inr (3, [.ref cfi, .ref clk, .ref ac_localTypes_r, .int ac_length, .ref cop, .ref cva, .ref cpt, .ref cel, .int ac_labelCount, .ref cla])), (sk, .inl (csk, 12096, .inr (.inl gsk))), (fb, .inl (cfb, 100, .inl gfb)), (fs, .inl (cfs, 100, .inl gfs)), (ff, .inl (cff, 100, .inl gff)), (fl, .inl (cfl, 100, .inl gfl)), (waf, .inl (cwaf, 30, .inl gwaf)), (wat, .inl (cwat, 20, .inl gwat)), (cfi, .inl (ccfi, 31, .inl gcfi)), (clk, .inl (cclk, 30, .inl gclk))]
set_option maxHeartbeats 4000000 in
set_option maxRecDepth 100000 in
theorem c_MA_enter (l : Launch) (dC : Nat → ClassId) (dI : Nat → Nat → Nat) (sz : Nat) (h0 gl aw ac ce sk fb fs ff fl lb lh wat waf cfi clk ac_localTypes_r cop cva cpt cel cla : Nat) (csk cfb cfs cff cfl cwaf cwat ccfi cclk : ClassId) (h0_pages : Int32) (h0_steps : Int32) (h0_reason : Int32) (h0_height : Int32) (h0_frameCount : Int32) (h0_labelCount : Int32) (h0_at : Int32) (law : List Value) (ac_length : Int32) (ac_labelCount : Int32) (gsk : Nat → Int64) (gfb : Nat → Int32) (gfs : Nat → Int32) (gff : Nat → Int32) (gfl : Nat → Int32) (gwaf : Nat → Int32) (gwat : Nat → Int32) (gcfi : Nat → Int32) (gclk : Nat → Int32) (fc : Int) (nl : Nat → Int) (paw_1 : law[1]? = some (.ref ac)) (paw_3 : law[3]? = some (.ref wat)) (paw_7 : law[7]? = some (.ref waf)) (plaw : law.length = 21) (b_h0_reason : 0 ≤ h0_reason.toInt ∧ h0_reason.toInt ≤ 14) (b_h0_height : 0 ≤ h0_height.toInt ∧ h0_height.toInt ≤ 12096) (b_h0_frameCount : 0 ≤ h0_frameCount.toInt ∧ h0_frameCount.toInt ≤ 100) (b_h0_labelCount : 0 ≤ h0_labelCount.toInt ∧ h0_labelCount.toInt ≤ 10000) (p0 : Int32)  (hr0 : h0_reason.toInt = 0) (hp : 0 ≤ p0.toInt ∧ p0.toInt < fc) (hfn : ∀ f : Nat, (f : Int) < fc → f < 30 ∧ 0 ≤ (gwaf f).toInt ∧ (gwaf f).toInt < 20) (hnl : ∀ f : Nat, (f : Int) < fc → nl f = (gwat (gwaf f).toNatClampNeg).toInt + (gclk f).toInt ∧ 0 ≤ (gwat (gwaf f).toNatClampNeg).toInt ∧ (gwat (gwaf f).toNatClampNeg).toInt ≤ 8 ∧ 0 ≤ (gclk f).toInt ∧ (gclk f).toInt ≤ 60) : Met l y_MA_enter w_MA_enter ({ frames := 1, cells := 0, slots := 0, locals := 22 }) (va_Pc [.ref h0, .int p0] (fun U => U.heap.size = sz ∧ va_P (dC, dI) cls [(h0, .inr (4, [.int h0_pages, .int h0_steps, .int h0_reason, .ref gl, .ref aw, .ref ac, .ref ce, .ref sk, .int h0_height, .ref fb, .ref fs, .ref ff, .ref fl, .int h0_frameCount, .ref lb, .ref lh, .int h0_labelCount, .int h0_at])), (aw, .inr (10, law)), (ac, .inr (3, [.ref cfi, .ref clk, .ref ac_localTypes_r, .int ac_length, .ref cop, .ref cva, .ref cpt, .ref cel, .int ac_labelCount, .ref cla])), (sk, .inl (csk, 12096, .inr (.inl gsk))), (fb, .inl (cfb, 100, .inl gfb)), (fs, .inl (cfs, 100, .inl gfs)), (ff, .inl (cff, 100, .inl gff)), (fl, .inl (cfl, 100, .inl gfl)), (waf, .inl (cwaf, 30, .inl gwaf)), (wat, .inl (cwat, 20, .inl gwat)), (cfi, .inl (ccfi, 31, .inl gcfi)), (clk, .inl (cclk, 30, .inl gclk))] U.heap ∧ va_K (dC, dI) cls [(csk, .long), (cfb, .int), (cfs, .int), (cff, .int), (cfl, .int), (cwaf, .int), (cwat, .int), (ccfi, .int), (cclk, .int)] U ∧ va_D (fun _ => True) [(h0, .inr (4, [.int h0_pages, .int h0_steps, .int h0_reason, .ref gl, .ref aw, .ref ac, .ref ce, .ref sk, .int h0_height, .ref fb, .ref fs, .ref ff, .ref fl, .int h0_frameCount, .ref lb, .ref lh, .int h0_labelCount, .int h0_at])), (aw, .inr (10, law)), (ac, .inr (3, [.ref cfi, .ref clk, .ref ac_localTypes_r, .int ac_length, .ref cop, .ref cva, .ref cpt, .ref cel, .int ac_labelCount, .ref cla])), (sk, .inl (csk, 12096, .inr (.inl gsk))), (fb, .inl (cfb, 100, .inl gfb)), (fs, .inl (cfs, 100, .inl gfs)), (ff, .inl (cff, 100, .inl gff)), (fl, .inl (cfl, 100, .inl gfl)), (waf, .inl (cwaf, 30, .inl gwaf)), (wat, .inl (cwat, 20, .inl gwat)), (cfi, .inl (ccfi, 31, .inl gcfi)), (clk, .inl (cclk, 30, .inl gclk))])) (va_Qv (fun (u : (Nat → Int32) × (Nat → Int32) × (Nat → Int32) × (Nat → Int32) × (Nat → Int64) × Int32 × Int32 × Int32 × Int32) => match u with | (gfb2, gff2, gfl2, gfs2, gsk2, h0_at2, h0_frameCount2, h0_height2, h0_reason2) => (0 ≤ h0_frameCount2.toInt ∧ h0_frameCount2.toInt ≤ 100) ∧ (0 ≤ h0_height2.toInt ∧ h0_height2.toInt ≤ 12096) ∧ (0 ≤ h0_reason2.toInt ∧ h0_reason2.toInt ≤ 14) ∧ (h0_reason2.toInt = 0 → h0_frameCount2.toInt = h0_frameCount.toInt + 1 ∧ h0_height2.toInt = h0_height.toInt + (gclk p0.toNatClampNeg).toInt ∧ h0_at2 = gcfi p0.toNatClampNeg ∧ gfb2 = upd gfb h0_frameCount.toNatClampNeg h0_at ∧ gff2 = upd gff h0_frameCount.toNatClampNeg p0 ∧ gfl2 = upd gfl h0_frameCount.toNatClampNeg h0_labelCount ∧ ∃ v : Int32, v.toInt = h0_height.toInt - (gwat (gwaf p0.toNatClampNeg).toNatClampNeg).toInt ∧ gfs2 = upd gfs h0_frameCount.toNatClampNeg v)) (at_MA_enter dC dI h0 gl aw ac ce sk fb fs ff fl lb lh wat waf cfi clk ac_localTypes_r cop cva cpt cel cla csk cfb cfs cff cfl cwaf cwat ccfi cclk h0_pages h0_steps h0_labelCount law ac_length ac_labelCount gwaf gwat gcfi gclk (va_A [(h0, .inr (4, [.int h0_pages, .int h0_steps, .int h0_reason, .ref gl, .ref aw, .ref ac, .ref ce, .ref sk, .int h0_height, .ref fb, .ref fs, .ref ff, .ref fl, .int h0_frameCount, .ref lb, .ref lh, .int h0_labelCount, .int h0_at])), (aw, .inr (10, law)), (ac, .inr (3, [.ref cfi, .ref clk, .ref ac_localTypes_r, .int ac_length, .ref cop, .ref cva, .ref cpt, .ref cel, .int ac_labelCount, .ref cla])), (sk, .inl (csk, 12096, .inr (.inl gsk))), (fb, .inl (cfb, 100, .inl gfb)), (fs, .inl (cfs, 100, .inl gfs)), (ff, .inl (cff, 100, .inl gff)), (fl, .inl (cfl, 100, .inl gfl)), (waf, .inl (cwaf, 30, .inl gwaf)), (wat, .inl (cwat, 20, .inl gwat)), (cfi, .inl (ccfi, 31, .inl gcfi)), (clk, .inl (cclk, 30, .inl gclk))] sz)) (va_A [(h0, .inr (4, [.int h0_pages, .int h0_steps, .int h0_reason, .ref gl, .ref aw, .ref ac, .ref ce, .ref sk, .int h0_height, .ref fb, .ref fs, .ref ff, .ref fl, .int h0_frameCount, .ref lb, .ref lh, .int h0_labelCount, .int h0_at])), (aw, .inr (10, law)), (ac, .inr (3, [.ref cfi, .ref clk, .ref ac_localTypes_r, .int ac_length, .ref cop, .ref cva, .ref cpt, .ref cel, .int ac_labelCount, .ref cla])), (sk, .inl (csk, 12096, .inr (.inl gsk))), (fb, .inl (cfb, 100, .inl gfb)), (fs, .inl (cfs, 100, .inl gfs)), (ff, .inl (cff, 100, .inl gff)), (fl, .inl (cfl, 100, .inl gfl)), (waf, .inl (cwaf, 30, .inl gwaf)), (wat, .inl (cwat, 20, .inl gwat)), (cfi, .inl (ccfi, 31, .inl gcfi)), (clk, .inl (cclk, 30, .inl gclk))] sz)) 0 0 (va_A [(h0, .inr (4, [.int h0_pages, .int h0_steps, .int h0_reason, .ref gl, .ref aw, .ref ac, .ref ce, .ref sk, .int h0_height, .ref fb, .ref fs, .ref ff, .ref fl, .int h0_frameCount, .ref lb, .ref lh, .int h0_labelCount, .int h0_at])), (aw, .inr (10, law)), (ac, .inr (3, [.ref cfi, .ref clk, .ref ac_localTypes_r, .int ac_length, .ref cop, .ref cva, .ref cpt, .ref cel, .int ac_labelCount, .ref cla])), (sk, .inl (csk, 12096, .inr (.inl gsk))), (fb, .inl (cfb, 100, .inl gfb)), (fs, .inl (cfs, 100, .inl gfs)), (ff, .inl (cff, 100, .inl gff)), (fl, .inl (cfl, 100, .inl gfl)), (waf, .inl (cwaf, 30, .inl gwaf)), (wat, .inl (cwat, 20, .inl gwat)), (cfi, .inl (ccfi, 31, .inl gcfi)), (clk, .inl (cclk, 30, .inl gclk))] sz) := by
  refine Met.ofW (cc := b_MA_enter) (maxL := 4) (ret := none) (by decide) rfl ?_
  intro p e s m args below meth c s₁ B hml hv
  obtain ⟨rfl, hsz, hP, hK, hD0⟩ := hv
  have hx := B.exec
  have hb := B.bytes
  have hr := B.returns
  have hts0 := atoms_spec (ws := w_MA_enter) B.pre
  have hts : ∀ w ∈ lw_g, w.before _ s = true := fun w h => hts0 w (List.mem_cons_of_mem _ h)
  have hown : s.vm.findClass R_MA = some m.cls := findClass_of_methodNamed B.named
  have hlocks := B.notSynchronized
  clear hts0
  subst hsz
  have hD := hD0.self (sz := s.heap.size)
  generalize hAe : va_A [(h0, .inr (4, [.int h0_pages, .int h0_steps, .int h0_reason, .ref gl, .ref aw, .ref ac, .ref ce, .ref sk, .int h0_height, .ref fb, .ref fs, .ref ff, .ref fl, .int h0_frameCount, .ref lb, .ref lh, .int h0_labelCount, .int h0_at])), (aw, .inr (10, law)), (ac, .inr (3, [.ref cfi, .ref clk, .ref ac_localTypes_r, .int ac_length, .ref cop, .ref cva, .ref cpt, .ref cel, .int ac_labelCount, .ref cla])), (sk, .inl (csk, 12096, .inr (.inl gsk))), (fb, .inl (cfb, 100, .inl gfb)), (fs, .inl (cfs, 100, .inl gfs)), (ff, .inl (cff, 100, .inl gff)), (fl, .inl (cfl, 100, .inl gfl)), (waf, .inl (cwaf, 30, .inl gwaf)), (wat, .inl (cwat, 20, .inl gwat)), (cfi, .inl (ccfi, 31, .inl gcfi)), (clk, .inl (cclk, 30, .inl gclk))] s.heap.size = A at hD ⊢
  have hA : ∀ q : Nat, s.heap.size ≤ q → A q := fun q h => by rw [← hAe]; exact Or.inr h
  clear hAe
  have hP : va_P (dC, dI) cls [(h0, .inr (4, [.int h0_pages, .int h0_steps, .int h0_reason, .ref gl, .ref aw, .ref ac, .ref ce, .ref sk, .int h0_height, .ref fb, .ref fs, .ref ff, .ref fl, .int h0_frameCount, .ref lb, .ref lh, .int h0_labelCount, .int h0_at])), (aw, .inr (10, law)), (ac, .inr (3, [.ref cfi, .ref clk, .ref ac_localTypes_r, .int ac_length, .ref cop, .ref cva, .ref cpt, .ref cel, .int ac_labelCount, .ref cla])), (sk, .inl (csk, 12096, .inr (.inl gsk))), (fb, .inl (cfb, 100, .inl gfb)), (fs, .inl (cfs, 100, .inl gfs)), (ff, .inl (cff, 100, .inl gff)), (fl, .inl (cfl, 100, .inl gfl)), (waf, .inl (cwaf, 30, .inl gwaf)), (wat, .inl (cwat, 20, .inl gwat)), (cfi, .inl (ccfi, 31, .inl gcfi)), (clk, .inl (cclk, 30, .inl gclk))] s.heap := hP
  have hl := lv_entry ([.ref h0, .int p0]) (n := 4) (Nat.le_of_ble_eq_true rfl)
  rw [lg_entry_eq]
  generalize (lg_sl ([.ref h0, .int p0]) ++ List.replicate (4 - (lg_sl ([.ref h0, .int p0])).length) Slot.unset).toArray = ls at hl ⊢
  have hl : lv_has ls 4 [(0, .ref h0), (1, .int p0)] := hl
  have k0 : (0 : Int32).toInt = 0 := by decide
  refine w_gen (A := A) hP (fun H locs hP hS => ?_)
  have k1 : (1 : Int32).toInt = 1 := by decide
  have k13 : (13 : Int32).toInt = 13 := by decide
  have k100 : (100 : Int32).toInt = 100 := by decide
  have k12096 : (12096 : Int32).toInt = 12096 := by decide
  have lo_p0 := i32_lo p0
  have hi_p0 := i32_hi p0
  have hc9 := i32_clamp (x := p0) (by omega)
  have hfn9 := hfn p0.toNatClampNeg (by omega)
  obtain ⟨n1, n2, n3, n4, n5⟩ := hnl p0.toNatClampNeg (by omega)
  refine lv_aload_n hx hb d_MA_enter_0 rfl (lv_at hl 0 rfl) ?_
  refine va_get (D := (dC, dI)) (ci := 4) (v := .ref aw) (C := R_MA) (T := F_MA) (N := 18) hx hb hts i_MA hown hK hP 0 rfl rfl 4 (by decide) (hts _ kF_MA_40) (fun _ h9 => h9) rfl d_MA_enter_1 ?_
  refine va_get (D := (dC, dI)) (ci := 10) (v := .ref ac) (C := R_WA) (T := F_WA) (N := 21) hx hb hts i_WA hown hK hP 1 rfl rfl 1 (by decide) (hts _ kF_MA_44) (fun _ h9 => h9) paw_1 d_MA_enter_4 ?_
  refine va_get (D := (dC, dI)) (ci := 3) (v := .ref clk) (C := R_CD) (T := F_CD) (N := 10) hx hb hts i_CD hown hK hP 2 rfl rfl 1 (by decide) (hts _ kF_MA_185) (fun _ h9 => h9) rfl d_MA_enter_7 ?_
  refine lv_iload_n hx hb d_MA_enter_10 rfl (lv_at hl 1 rfl) ?_
  have g11 : vp_in p0 30 := vp_in_iff.mpr ⟨by omega, by omega⟩
  refine va_iald hx hb hK hP 11 8 rfl rfl g11 d_MA_enter_11 ?_
  refine lv_topi (fun x1 ex1 => ?_)
  have tx1 : 0 ≤ x1.toInt ∧ x1.toInt ≤ 60 := by rw [ex1]; exact ⟨n4, n5⟩
  have b11 := ex1
  obtain ⟨lc, elc⟩ : ∃ z, z = x1 := ⟨_, rfl⟩
  refine lv_istore_n (lv' := [(2, .int x1), (0, .ref h0), (1, .int p0)]) hx hb d_MA_enter_12 rfl hl (by decide) rfl (fun ls hl => ?_)
  refine lv_aload_n hx hb d_MA_enter_13 rfl (lv_at hl 1 rfl) ?_
  refine va_get (D := (dC, dI)) (ci := 4) (v := .int h0_frameCount) (C := R_MA) (T := F_MA) (N := 18) hx hb hts i_MA hown hK hP 0 rfl rfl 13 (by decide) (hts _ kF_MA_80) (fun _ h9 => h9) rfl d_MA_enter_14 ?_
  refine lv_bipush (v := 100) hx hb d_MA_enter_17 (by decide) ?_
  refine w_cut (pc2 := 34) (σ := Unit) (fun u H locs ls => match u with | _ => va_P (dC, dI) cls [(h0, .inr (4, [.int h0_pages, .int h0_steps, .int h0_reason, .ref gl, .ref aw, .ref ac, .ref ce, .ref sk, .int h0_height, .ref fb, .ref fs, .ref ff, .ref fl, .int h0_frameCount, .ref lb, .ref lh, .int h0_labelCount, .int h0_at])), (aw, .inr (10, law)), (ac, .inr (3, [.ref cfi, .ref clk, .ref ac_localTypes_r, .int ac_length, .ref cop, .ref cva, .ref cpt, .ref cel, .int ac_labelCount, .ref cla])), (sk, .inl (csk, 12096, .inr (.inl gsk))), (fb, .inl (cfb, 100, .inl gfb)), (fs, .inl (cfs, 100, .inl gfs)), (ff, .inl (cff, 100, .inl gff)), (fl, .inl (cfl, 100, .inl gfl)), (waf, .inl (cwaf, 30, .inl gwaf)), (wat, .inl (cwat, 20, .inl gwat)), (cfi, .inl (ccfi, 31, .inl gcfi)), (clk, .inl (cclk, 30, .inl gclk))] H ∧ va_D A [(h0, .inr (4, [.int h0_pages, .int h0_steps, .int h0_reason, .ref gl, .ref aw, .ref ac, .ref ce, .ref sk, .int h0_height, .ref fb, .ref fs, .ref ff, .ref fl, .int h0_frameCount, .ref lb, .ref lh, .int h0_labelCount, .int h0_at])), (aw, .inr (10, law)), (ac, .inr (3, [.ref cfi, .ref clk, .ref ac_localTypes_r, .int ac_length, .ref cop, .ref cva, .ref cpt, .ref cel, .int ac_labelCount, .ref cla])), (sk, .inl (csk, 12096, .inr (.inl gsk))), (fb, .inl (cfb, 100, .inl gfb)), (fs, .inl (cfs, 100, .inl gfs)), (ff, .inl (cff, 100, .inl gff)), (fl, .inl (cfl, 100, .inl gfl)), (waf, .inl (cwaf, 30, .inl gwaf)), (wat, .inl (cwat, 20, .inl gwat)), (cfi, .inl (ccfi, 31, .inl gcfi)), (clk, .inl (cclk, 30, .inl gclk))] ∧ va_S A s.heap H locs ∧ lv_has ls 4 [(0, .ref h0)]) (fun u => match u with | _ => []) ?_ (fun jn34 => ?_)
  · intro u H locs ls hI
    obtain ⟨hP, hD, hS, hl⟩ := hI
    refine lv_aload_n hx hb d_MA_enter_34 rfl (lv_at hl 0 rfl) ?_
    refine lv_bipush (v := 13) hx hb d_MA_enter_35 (by decide) ?_
    refine va_put (D := (dC, dI)) (ci := 4) (v := .int 13) (ty := .int) (C := R_MA) (T := F_MA) (N := 18) hx hb hts i_MA t_MA t_MA_ok n_MA hown hK hP hD hS 0 rfl rfl 2 (by decide) (hts _ kF_MA_71) (fun _ h9 => h9) rfl (by decide +kernel) rfl rfl (Nat.le_of_ble_eq_true rfl) d_MA_enter_37 (fun H locs hP hD hS => ?_)
    have hP9 := hP.sub (ws' := [(h0, .inr (4, [.int h0_pages, .int h0_steps, .int 13, .ref gl, .ref aw, .ref ac, .ref ce, .ref sk, .int h0_height, .ref fb, .ref fs, .ref ff, .ref fl, .int h0_frameCount, .ref lb, .ref lh, .int h0_labelCount, .int h0_at])), (aw, .inr (10, law)), (ac, .inr (3, [.ref cfi, .ref clk, .ref ac_localTypes_r, .int ac_length, .ref cop, .ref cva, .ref cpt, .ref cel, .int ac_labelCount, .ref cla])), (sk, .inl (csk, 12096, .inr (.inl gsk))), (fb, .inl (cfb, 100, .inl gfb)), (fs, .inl (cfs, 100, .inl gfs)), (ff, .inl (cff, 100, .inl gff)), (fl, .inl (cfl, 100, .inl gfl)), (waf, .inl (cwaf, 30, .inl gwaf)), (wat, .inl (cwat, 20, .inl gwat)), (cfi, .inl (ccfi, 31, .inl gcfi)), (clk, .inl (cclk, 30, .inl gclk))]) [0, 1, 2, 3, 4, 5, 6, 7, 8, 9, 10, 11] rfl
    have hD9 := hD.sub (ws' := [(h0, .inr (4, [.int h0_pages, .int h0_steps, .int 13, .ref gl, .ref aw, .ref ac, .ref ce, .ref sk, .int h0_height, .ref fb, .ref fs, .ref ff, .ref fl, .int h0_frameCount, .ref lb, .ref lh, .int h0_labelCount, .int h0_at])), (aw, .inr (10, law)), (ac, .inr (3, [.ref cfi, .ref clk, .ref ac_localTypes_r, .int ac_length, .ref cop, .ref cva, .ref cpt, .ref cel, .int ac_labelCount, .ref cla])), (sk, .inl (csk, 12096, .inr (.inl gsk))), (fb, .inl (cfb, 100, .inl gfb)), (fs, .inl (cfs, 100, .inl gfs)), (ff, .inl (cff, 100, .inl gff)), (fl, .inl (cfl, 100, .inl gfl)), (waf, .inl (cwaf, 30, .inl gwaf)), (wat, .inl (cwat, 20, .inl gwat)), (cfi, .inl (ccfi, 31, .inl gcfi)), (clk, .inl (cclk, 30, .inl gclk))]) [0, 1, 2, 3, 4, 5, 6, 7, 8, 9, 10, 11] (by decide) rfl
    exact W.vret hx hb hr (fun t ht hW => ⟨⟨(gfb, gff, gfl, gfs, gsk, h0_at, h0_frameCount, h0_height, 13), rfl, ⟨b_h0_frameCount, b_h0_height, by (try dsimp only); omega, fun z => absurd z (by (try dsimp only); decide)⟩, by rw [ht]; exact hP9, va_K.moved hW.alike hK, hD9⟩, hS.F ht⟩) hS.2.2 d_MA_enter_40
  · skip
    refine lv_icmp_ge (tgt := 34) hx hb d_MA_enter_19 (by decide) (fun c19 => ?_) (fun c19 => ?_)
    · have q19 := leI c19
      exact jn34 () _ _ _ ⟨hP, hD, hS, lv_sub hl [1] rfl⟩
    · have q19 := nleI c19
      refine lv_iload_n hx hb d_MA_enter_22 rfl (lv_at hl 0 rfl) ?_
      refine lv_sipush (v := 12096) hx hb d_MA_enter_23 (by decide) ?_
      refine lv_aload_n hx hb d_MA_enter_26 rfl (lv_at hl 1 rfl) ?_
      refine va_get (D := (dC, dI)) (ci := 4) (v := .int h0_height) (C := R_MA) (T := F_MA) (N := 18) hx hb hts i_MA hown hK hP 0 rfl rfl 8 (by decide) (hts _ kF_MA_77) (fun _ h9 => h9) rfl d_MA_enter_27 ?_
      refine lv_isub hx hb d_MA_enter_30 ?_
      refine lv_topi (fun x2 ex2 => ?_)
      have tx2 : x2.toInt = 12096 - h0_height.toInt := by have z := i32_sub ex2 (by omega) (by omega); omega
      refine lv_icmp_le (tgt := 41) hx hb d_MA_enter_31 (by decide) (fun c31 => ?_) (fun c31 => ?_)
      · have q31 := leI c31
        refine lv_aload_n hx hb d_MA_enter_41 rfl (lv_at hl 1 rfl) ?_
        refine va_get (D := (dC, dI)) (ci := 4) (v := .ref fb) (C := R_MA) (T := F_MA) (N := 18) hx hb hts i_MA hown hK hP 0 rfl rfl 9 (by decide) (hts _ kF_MA_21) (fun _ h9 => h9) rfl d_MA_enter_42 ?_
        refine lv_aload_n hx hb d_MA_enter_45 rfl (lv_at hl 1 rfl) ?_
        refine va_get (D := (dC, dI)) (ci := 4) (v := .int h0_frameCount) (C := R_MA) (T := F_MA) (N := 18) hx hb hts i_MA hown hK hP 0 rfl rfl 13 (by decide) (hts _ kF_MA_80) (fun _ h9 => h9) rfl d_MA_enter_46 ?_
        refine lv_aload_n hx hb d_MA_enter_49 rfl (lv_at hl 1 rfl) ?_
        refine va_get (D := (dC, dI)) (ci := 4) (v := .int h0_at) (C := R_MA) (T := F_MA) (N := 18) hx hb hts i_MA hown hK hP 0 rfl rfl 17 (by decide) (hts _ kF_MA_106) (fun _ h9 => h9) rfl d_MA_enter_50 ?_
        have g53 : vp_in h0_frameCount 100 := vp_in_iff.mpr ⟨by omega, by omega⟩
        refine va_iast hx hb hK hP hD hS 4 1 rfl rfl g53 d_MA_enter_53 (fun H locs hP hD hS => ?_)
        generalize ef3 : upd gfb h0_frameCount.toNatClampNeg h0_at = f3 at hP hD
        refine lv_aload_n hx hb d_MA_enter_54 rfl (lv_at hl 1 rfl) ?_
        refine va_get (D := (dC, dI)) (ci := 4) (v := .ref fs) (C := R_MA) (T := F_MA) (N := 18) hx hb hts i_MA hown hK hP 0 rfl rfl 10 (by decide) (hts _ kF_MA_25) (fun _ h9 => h9) rfl d_MA_enter_55 ?_
        refine lv_aload_n hx hb d_MA_enter_58 rfl (lv_at hl 1 rfl) ?_
        refine va_get (D := (dC, dI)) (ci := 4) (v := .int h0_frameCount) (C := R_MA) (T := F_MA) (N := 18) hx hb hts i_MA hown hK hP 0 rfl rfl 13 (by decide) (hts _ kF_MA_80) (fun _ h9 => h9) rfl d_MA_enter_59 ?_
        refine lv_aload_n hx hb d_MA_enter_62 rfl (lv_at hl 1 rfl) ?_
        refine va_get (D := (dC, dI)) (ci := 4) (v := .int h0_height) (C := R_MA) (T := F_MA) (N := 18) hx hb hts i_MA hown hK hP 0 rfl rfl 8 (by decide) (hts _ kF_MA_77) (fun _ h9 => h9) rfl d_MA_enter_63 ?_
        refine lv_aload_n hx hb d_MA_enter_66 rfl (lv_at hl 1 rfl) ?_
        refine va_get (D := (dC, dI)) (ci := 4) (v := .ref aw) (C := R_MA) (T := F_MA) (N := 18) hx hb hts i_MA hown hK hP 0 rfl rfl 4 (by decide) (hts _ kF_MA_40) (fun _ h9 => h9) rfl d_MA_enter_67 ?_
        refine lv_iload_n hx hb d_MA_enter_70 rfl (lv_at hl 2 rfl) ?_
        have hPc := hP.sub (ws' := [(aw, .inr (10, law)), (waf, .inl (cwaf, 30, .inl gwaf)), (wat, .inl (cwat, 20, .inl gwat))]) [1, 8, 9] rfl
        have hDc := hD.sub (ws' := [(aw, .inr (10, law)), (waf, .inl (cwaf, 30, .inl gwaf)), (wat, .inl (cwat, 20, .inl gwat))]) [1, 8, 9] (by decide) rfl
        have hKc := hK.sub (tys' := [(cwaf, .int), (cwat, .int)]) [5, 6] rfl
        have hFc := va_free (wc := [(aw, .inr (10, law)), (waf, .inl (cwaf, 30, .inl gwaf)), (wat, .inl (cwat, 20, .inl gwat))]) hD hS hA [1, 8, 9] rfl
        refine va_calli (va_runV (As := [.int p0]) (rest := [.int h0_height, .int h0_frameCount, .ref fs]) ⟨hx, hb, hml, hown, hts⟩ (c_WA_takes l dC dI aw waf wat H.size cwaf cwat gwaf gwat law paw_7 paw_3 plaw p0 (by omega) (by omega)) (cwV 1 hts (gV kM_MA_86 kV_WA_takes kS_WA_takes kI_WA kC_WA_takes) rfl rfl rfl (by decide +kernel) ⟨Nat.le_of_ble_eq_true rfl, Nat.le_of_ble_eq_true rfl⟩) ⟨fun a U g mk z => by obtain ⟨z0, z1, zP, zK, zD⟩ := z; exact ⟨z0, z1, zP, va_K.moved (u := U) (U := U.calling g mk a) (Vm.Alike.refl U.vm) zK, zD⟩, va_recv hKc hPc (ci := 10) (q0 := 0) rfl rfl, fun U hU hW => ⟨rfl, by rw [hU], by rw [hU]; exact hPc, va_K.moved hW.alike hKc, hDc.weaken (fun _ _ _ _ => trivial)⟩⟩ rfl rfl hl.1 rfl (lv_room (Nat.le_of_ble_eq_true rfl)) d_MA_enter_71 ⟨(Nat.zero_le _), (Nat.zero_le _)⟩) hS (fun q _ h => hFc q h) hFc (fun r4 u t H1 locs ht hvm hw hB hz1 hk1 hS => ?_)
        try dsimp only at hw
        have er4 := hw
        try clear hw
        have tr4 : 0 ≤ r4.toInt ∧ r4.toInt ≤ 8 := by rw [er4]; exact ⟨n2, n3⟩
        have b71 := er4
        obtain ⟨hP1, hK1, hD1⟩ := hB
        rw [ht] at hP1
        obtain ⟨hP, hD⟩ := va_join (wr := [(h0, .inr (4, [.int h0_pages, .int h0_steps, .int h0_reason, .ref gl, .ref aw, .ref ac, .ref ce, .ref sk, .int h0_height, .ref fb, .ref fs, .ref ff, .ref fl, .int h0_frameCount, .ref lb, .ref lh, .int h0_labelCount, .int h0_at])), (ac, .inr (3, [.ref cfi, .ref clk, .ref ac_localTypes_r, .int ac_length, .ref cop, .ref cva, .ref cpt, .ref cel, .int ac_labelCount, .ref cla])), (sk, .inl (csk, 12096, .inr (.inl gsk))), (fb, .inl (cfb, 100, .inl f3)), (fs, .inl (cfs, 100, .inl gfs)), (ff, .inl (cff, 100, .inl gff)), (fl, .inl (cfl, 100, .inl gfl)), (cfi, .inl (ccfi, 31, .inl gcfi)), (clk, .inl (cclk, 30, .inl gclk))]) (w1 := [(aw, .inr (10, law)), (waf, .inl (cwaf, 30, .inl gwaf)), (wat, .inl (cwat, 20, .inl gwat))]) hP hD [1, 8, 9] [0, 2, 3, 4, 5, 6, 7, 10, 11] rfl rfl (by decide) (by decide) hk1 hFc hP1 hD1
        clear hPc hDc hKc hFc hz1 hk1 hP1 hK1 hD1
        generalize H1 = H at hP hS ⊢
        have hP : va_P (dC, dI) cls [(h0, .inr (4, [.int h0_pages, .int h0_steps, .int h0_reason, .ref gl, .ref aw, .ref ac, .ref ce, .ref sk, .int h0_height, .ref fb, .ref fs, .ref ff, .ref fl, .int h0_frameCount, .ref lb, .ref lh, .int h0_labelCount, .int h0_at])), (ac, .inr (3, [.ref cfi, .ref clk, .ref ac_localTypes_r, .int ac_length, .ref cop, .ref cva, .ref cpt, .ref cel, .int ac_labelCount, .ref cla])), (sk, .inl (csk, 12096, .inr (.inl gsk))), (fb, .inl (cfb, 100, .inl f3)), (fs, .inl (cfs, 100, .inl gfs)), (ff, .inl (cff, 100, .inl gff)), (fl, .inl (cfl, 100, .inl gfl)), (cfi, .inl (ccfi, 31, .inl gcfi)), (clk, .inl (cclk, 30, .inl gclk)), (aw, .inr (10, law)), (waf, .inl (cwaf, 30, .inl gwaf)), (wat, .inl (cwat, 20, .inl gwat))] H := hP
        have hD : va_D A [(h0, .inr (4, [.int h0_pages, .int h0_steps, .int h0_reason, .ref gl, .ref aw, .ref ac, .ref ce, .ref sk, .int h0_height, .ref fb, .ref fs, .ref ff, .ref fl, .int h0_frameCount, .ref lb, .ref lh, .int h0_labelCount, .int h0_at])), (ac, .inr (3, [.ref cfi, .ref clk, .ref ac_localTypes_r, .int ac_length, .ref cop, .ref cva, .ref cpt, .ref cel, .int ac_labelCount, .ref cla])), (sk, .inl (csk, 12096, .inr (.inl gsk))), (fb, .inl (cfb, 100, .inl f3)), (fs, .inl (cfs, 100, .inl gfs)), (ff, .inl (cff, 100, .inl gff)), (fl, .inl (cfl, 100, .inl gfl)), (cfi, .inl (ccfi, 31, .inl gcfi)), (clk, .inl (cclk, 30, .inl gclk)), (aw, .inr (10, law)), (waf, .inl (cwaf, 30, .inl gwaf)), (wat, .inl (cwat, 20, .inl gwat))] := hD
        refine lv_isub hx hb d_MA_enter_74 ?_
        refine lv_topi (fun x5 ex5 => ?_)
        have tx5 : x5.toInt = h0_height.toInt - r4.toInt := by have z := i32_sub ex5 (by omega) (by omega); omega
        have g75 : vp_in h0_frameCount 100 := vp_in_iff.mpr ⟨by omega, by omega⟩
        refine va_iast hx hb hK hP hD hS 4 2 rfl rfl g75 d_MA_enter_75 (fun H locs hP hD hS => ?_)
        generalize ef6 : upd gfs h0_frameCount.toNatClampNeg x5 = f6 at hP hD
        refine lv_aload_n hx hb d_MA_enter_76 rfl (lv_at hl 1 rfl) ?_
        refine va_get (D := (dC, dI)) (ci := 4) (v := .ref ff) (C := R_MA) (T := F_MA) (N := 18) hx hb hts i_MA hown hK hP 0 rfl rfl 11 (by decide) (hts _ kF_MA_28) (fun _ h9 => h9) rfl d_MA_enter_77 ?_
        refine lv_aload_n hx hb d_MA_enter_80 rfl (lv_at hl 1 rfl) ?_
        refine va_get (D := (dC, dI)) (ci := 4) (v := .int h0_frameCount) (C := R_MA) (T := F_MA) (N := 18) hx hb hts i_MA hown hK hP 0 rfl rfl 13 (by decide) (hts _ kF_MA_80) (fun _ h9 => h9) rfl d_MA_enter_81 ?_
        refine lv_iload_n hx hb d_MA_enter_84 rfl (lv_at hl 2 rfl) ?_
        have g85 : vp_in h0_frameCount 100 := vp_in_iff.mpr ⟨by omega, by omega⟩
        refine va_iast hx hb hK hP hD hS 5 3 rfl rfl g85 d_MA_enter_85 (fun H locs hP hD hS => ?_)
        generalize ef7 : upd gff h0_frameCount.toNatClampNeg p0 = f7 at hP hD
        refine lv_aload_n hx hb d_MA_enter_86 rfl (lv_at hl 1 rfl) ?_
        refine va_get (D := (dC, dI)) (ci := 4) (v := .ref fl) (C := R_MA) (T := F_MA) (N := 18) hx hb hts i_MA hown hK hP 0 rfl rfl 12 (by decide) (hts _ kF_MA_31) (fun _ h9 => h9) rfl d_MA_enter_87 ?_
        refine lv_aload_n hx hb d_MA_enter_90 rfl (lv_at hl 1 rfl) ?_
        refine va_get (D := (dC, dI)) (ci := 4) (v := .int h0_frameCount) (C := R_MA) (T := F_MA) (N := 18) hx hb hts i_MA hown hK hP 0 rfl rfl 13 (by decide) (hts _ kF_MA_80) (fun _ h9 => h9) rfl d_MA_enter_91 ?_
        refine lv_aload_n hx hb d_MA_enter_94 rfl (lv_at hl 1 rfl) ?_
        refine va_get (D := (dC, dI)) (ci := 4) (v := .int h0_labelCount) (C := R_MA) (T := F_MA) (N := 18) hx hb hts i_MA hown hK hP 0 rfl rfl 16 (by decide) (hts _ kF_MA_83) (fun _ h9 => h9) rfl d_MA_enter_95 ?_
        have g98 : vp_in h0_frameCount 100 := vp_in_iff.mpr ⟨by omega, by omega⟩
        refine va_iast hx hb hK hP hD hS 6 4 rfl rfl g98 d_MA_enter_98 (fun H locs hP hD hS => ?_)
        generalize ef8 : upd gfl h0_frameCount.toNatClampNeg h0_labelCount = f8 at hP hD
        refine lv_aload_n hx hb d_MA_enter_99 rfl (lv_at hl 1 rfl) ?_
        refine lv_dup hx hb d_MA_enter_100 rfl ?_
        refine va_get (D := (dC, dI)) (ci := 4) (v := .int h0_frameCount) (C := R_MA) (T := F_MA) (N := 18) hx hb hts i_MA hown hK hP 0 rfl rfl 13 (by decide) (hts _ kF_MA_80) (fun _ h9 => h9) rfl d_MA_enter_101 ?_
        refine lv_iconst (v := 1) hx hb d_MA_enter_104 (by decide) ?_
        refine lv_iadd hx hb d_MA_enter_105 ?_
        refine lv_topi (fun x9 ex9 => ?_)
        have tx9 : x9.toInt = h0_frameCount.toInt + 1 := by have z := i32_add ex9 (by omega) (by omega); omega
        refine va_put (D := (dC, dI)) (ci := 4) (v := .int x9) (ty := .int) (C := R_MA) (T := F_MA) (N := 18) hx hb hts i_MA t_MA t_MA_ok n_MA hown hK hP hD hS 0 rfl rfl 13 (by decide) (hts _ kF_MA_80) (fun _ h9 => h9) rfl (by decide +kernel) rfl rfl (Nat.le_of_ble_eq_true rfl) d_MA_enter_106 (fun H locs hP hD hS => ?_)
        refine lv_iconst (v := 0) hx hb d_MA_enter_109 (by decide) ?_
        refine lv_istore_n (lv' := [(3, .int 0), (2, .int x1), (0, .ref h0), (1, .int p0)]) hx hb d_MA_enter_110 rfl hl (by decide) rfl (fun ls hl => ?_)
        refine w_loop (σ := Int32 × (Nat → Int64) × Int32 × Int32) (fun u H locs ls => match u with | (j111_l3, j111_sk, j111_h0_height, j111_h0_reason) => (0 ≤ j111_h0_height.toInt ∧ j111_h0_height.toInt ≤ 12096) ∧ (0 ≤ j111_h0_reason.toInt ∧ j111_h0_reason.toInt ≤ 14) ∧ (j111_h0_reason.toInt = 0 ∧ j111_h0_height.toInt = h0_height.toInt + j111_l3.toInt ∧ 0 ≤ j111_l3.toInt ∧ j111_l3.toInt ≤ x1.toInt) ∧ va_P (dC, dI) cls [(h0, .inr (4, [.int h0_pages, .int h0_steps, .int j111_h0_reason, .ref gl, .ref aw, .ref ac, .ref ce, .ref sk, .int j111_h0_height, .ref fb, .ref fs, .ref ff, .ref fl, .int x9, .ref lb, .ref lh, .int h0_labelCount, .int h0_at])), (ac, .inr (3, [.ref cfi, .ref clk, .ref ac_localTypes_r, .int ac_length, .ref cop, .ref cva, .ref cpt, .ref cel, .int ac_labelCount, .ref cla])), (sk, .inl (csk, 12096, .inr (.inl j111_sk))), (fb, .inl (cfb, 100, .inl f3)), (fs, .inl (cfs, 100, .inl f6)), (ff, .inl (cff, 100, .inl f7)), (fl, .inl (cfl, 100, .inl f8)), (cfi, .inl (ccfi, 31, .inl gcfi)), (clk, .inl (cclk, 30, .inl gclk)), (aw, .inr (10, law)), (waf, .inl (cwaf, 30, .inl gwaf)), (wat, .inl (cwat, 20, .inl gwat))] H ∧ va_D A [(h0, .inr (4, [.int h0_pages, .int h0_steps, .int j111_h0_reason, .ref gl, .ref aw, .ref ac, .ref ce, .ref sk, .int j111_h0_height, .ref fb, .ref fs, .ref ff, .ref fl, .int x9, .ref lb, .ref lh, .int h0_labelCount, .int h0_at])), (ac, .inr (3, [.ref cfi, .ref clk, .ref ac_localTypes_r, .int ac_length, .ref cop, .ref cva, .ref cpt, .ref cel, .int ac_labelCount, .ref cla])), (sk, .inl (csk, 12096, .inr (.inl j111_sk))), (fb, .inl (cfb, 100, .inl f3)), (fs, .inl (cfs, 100, .inl f6)), (ff, .inl (cff, 100, .inl f7)), (fl, .inl (cfl, 100, .inl f8)), (cfi, .inl (ccfi, 31, .inl gcfi)), (clk, .inl (cclk, 30, .inl gclk)), (aw, .inr (10, law)), (waf, .inl (cwaf, 30, .inl gwaf)), (wat, .inl (cwat, 20, .inl gwat))] ∧ va_S A s.heap H locs ∧ lv_has ls 4 [(0, .ref h0), (1, .int p0), (2, .int x1), (3, .int j111_l3)]) (fun u => match u with | (j111_l3, j111_sk, j111_h0_height, j111_h0_reason) => (x1.toInt - j111_l3.toInt).toNat) ?_ (0, gsk, h0_height, h0_reason) ⟨b_h0_height, b_h0_reason, by (try dsimp only); omega, hP, hD, hS, lv_sub hl [2, 3, 1, 0] rfl⟩
        intro N111 ih111 u H locs ls hN111 hI
        obtain ⟨j111_l3, j111_sk, j111_h0_height, j111_h0_reason⟩ := u
        obtain ⟨b_j111_h0_height, b_j111_h0_reason, v1, hP, hD, hS, hl⟩ := hI
        have hN111 : (x1.toInt - j111_l3.toInt).toNat < N111 + 1 := hN111
        refine lv_iload_n hx hb d_MA_enter_111 rfl (lv_at hl 3 rfl) ?_
        refine lv_iload_n hx hb d_MA_enter_112 rfl (lv_at hl 2 rfl) ?_
        refine lv_icmp_ge (tgt := 127) hx hb d_MA_enter_113 (by decide) (fun c113 => ?_) (fun c113 => ?_)
        · have q113 := leI c113
          refine lv_aload_n hx hb d_MA_enter_127 rfl (lv_at hl 0 rfl) ?_
          refine lv_aload_n hx hb d_MA_enter_128 rfl (lv_at hl 0 rfl) ?_
          refine va_get (D := (dC, dI)) (ci := 4) (v := .ref ac) (C := R_MA) (T := F_MA) (N := 18) hx hb hts i_MA hown hK hP 0 rfl rfl 5 (by decide) (hts _ kF_MA_50) (fun _ h9 => h9) rfl d_MA_enter_129 ?_
          refine va_get (D := (dC, dI)) (ci := 3) (v := .ref cfi) (C := R_CD) (T := F_CD) (N := 10) hx hb hts i_CD hown hK hP 1 rfl rfl 0 (by decide) (hts _ kF_MA_188) (fun _ h9 => h9) rfl d_MA_enter_132 ?_
          refine lv_iload_n hx hb d_MA_enter_135 rfl (lv_at hl 1 rfl) ?_
          have g136 : vp_in p0 31 := vp_in_iff.mpr ⟨by omega, by omega⟩
          refine va_iald hx hb hK hP 7 7 rfl rfl g136 d_MA_enter_136 ?_
          refine lv_topi (fun x10 ex10 => ?_)
          refine va_put (D := (dC, dI)) (ci := 4) (v := .int x10) (ty := .int) (C := R_MA) (T := F_MA) (N := 18) hx hb hts i_MA t_MA t_MA_ok n_MA hown hK hP hD hS 0 rfl rfl 17 (by decide) (hts _ kF_MA_106) (fun _ h9 => h9) rfl (by decide +kernel) rfl rfl (Nat.le_of_ble_eq_true rfl) d_MA_enter_137 (fun H locs hP hD hS => ?_)
          have hP9 := hP.sub (ws' := [(h0, .inr (4, [.int h0_pages, .int h0_steps, .int j111_h0_reason, .ref gl, .ref aw, .ref ac, .ref ce, .ref sk, .int j111_h0_height, .ref fb, .ref fs, .ref ff, .ref fl, .int x9, .ref lb, .ref lh, .int h0_labelCount, .int x10])), (aw, .inr (10, law)), (ac, .inr (3, [.ref cfi, .ref clk, .ref ac_localTypes_r, .int ac_length, .ref cop, .ref cva, .ref cpt, .ref cel, .int ac_labelCount, .ref cla])), (sk, .inl (csk, 12096, .inr (.inl j111_sk))), (fb, .inl (cfb, 100, .inl f3)), (fs, .inl (cfs, 100, .inl f6)), (ff, .inl (cff, 100, .inl f7)), (fl, .inl (cfl, 100, .inl f8)), (waf, .inl (cwaf, 30, .inl gwaf)), (wat, .inl (cwat, 20, .inl gwat)), (cfi, .inl (ccfi, 31, .inl gcfi)), (clk, .inl (cclk, 30, .inl gclk))]) [0, 9, 1, 2, 3, 4, 5, 6, 10, 11, 7, 8] rfl
          have hD9 := hD.sub (ws' := [(h0, .inr (4, [.int h0_pages, .int h0_steps, .int j111_h0_reason, .ref gl, .ref aw, .ref ac, .ref ce, .ref sk, .int j111_h0_height, .ref fb, .ref fs, .ref ff, .ref fl, .int x9, .ref lb, .ref lh, .int h0_labelCount, .int x10])), (aw, .inr (10, law)), (ac, .inr (3, [.ref cfi, .ref clk, .ref ac_localTypes_r, .int ac_length, .ref cop, .ref cva, .ref cpt, .ref cel, .int ac_labelCount, .ref cla])), (sk, .inl (csk, 12096, .inr (.inl j111_sk))), (fb, .inl (cfb, 100, .inl f3)), (fs, .inl (cfs, 100, .inl f6)), (ff, .inl (cff, 100, .inl f7)), (fl, .inl (cfl, 100, .inl f8)), (waf, .inl (cwaf, 30, .inl gwaf)), (wat, .inl (cwat, 20, .inl gwat)), (cfi, .inl (ccfi, 31, .inl gcfi)), (clk, .inl (cclk, 30, .inl gclk))]) [0, 9, 1, 2, 3, 4, 5, 6, 10, 11, 7, 8] (by decide) rfl
          exact W.vret hx hb hr (fun t ht hW => ⟨⟨(f3, f7, f8, f6, j111_sk, x10, x9, j111_h0_height, j111_h0_reason), rfl, ⟨by (try dsimp only); omega, b_j111_h0_height, b_j111_h0_reason, fun z => ⟨by (try dsimp only); omega, by (try dsimp only); rw [← b11]; omega, by (try dsimp only); exact ex10, by (try dsimp only) <;> exact ef3.symm, by (try dsimp only) <;> exact ef7.symm, by (try dsimp only) <;> exact ef8.symm, ⟨x5, by rw [← b71]; omega, by (try dsimp only) <;> exact ef6.symm⟩⟩⟩, by rw [ht]; exact hP9, va_K.moved hW.alike hK, hD9⟩, hS.F ht⟩) hS.2.2 d_MA_enter_140
        · have q113 := nleI c113
          refine lv_aload_n hx hb d_MA_enter_116 rfl (lv_at hl 0 rfl) ?_
          refine lv_lconst (v := 0) hx hb d_MA_enter_117 (by decide) ?_
          have kl0 : (0 : Int64).toInt = 0 := by decide
          have hPc := hP.sub (ws' := [(h0, .inr (4, [.int h0_pages, .int h0_steps, .int j111_h0_reason, .ref gl, .ref aw, .ref ac, .ref ce, .ref sk, .int j111_h0_height, .ref fb, .ref fs, .ref ff, .ref fl, .int x9, .ref lb, .ref lh, .int h0_labelCount, .int h0_at])), (sk, .inl (csk, 12096, .inr (.inl j111_sk)))]) [0, 2] rfl
          have hDc := hD.sub (ws' := [(h0, .inr (4, [.int h0_pages, .int h0_steps, .int j111_h0_reason, .ref gl, .ref aw, .ref ac, .ref ce, .ref sk, .int j111_h0_height, .ref fb, .ref fs, .ref ff, .ref fl, .int x9, .ref lb, .ref lh, .int h0_labelCount, .int h0_at])), (sk, .inl (csk, 12096, .inr (.inl j111_sk)))]) [0, 2] (by decide) rfl
          have hKc := hK.sub (tys' := [(csk, .long)]) [0] rfl
          have hFc := va_free (wc := [(h0, .inr (4, [.int h0_pages, .int h0_steps, .int j111_h0_reason, .ref gl, .ref aw, .ref ac, .ref ce, .ref sk, .int j111_h0_height, .ref fb, .ref fs, .ref ff, .ref fl, .int x9, .ref lb, .ref lh, .int h0_labelCount, .int h0_at])), (sk, .inl (csk, 12096, .inr (.inl j111_sk)))]) hD hS hA [0, 2] rfl
          refine va_callv (va_runV (As := [.long 0]) (rest := []) ⟨hx, hb, hml, hown, hts⟩ (c_MA_push l dC dI H.size h0 gl aw ac ce sk fb fs ff fl lb lh csk h0_pages h0_steps j111_h0_reason j111_h0_height x9 h0_labelCount h0_at j111_sk (b_j111_h0_reason) (b_j111_h0_height) 0) (cwV 1 hts (gV kM_MA_94 kV_MA_push kS_MA_push kI_MA kC_MA_push) rfl rfl rfl (by decide +kernel) ⟨Nat.le_of_ble_eq_true rfl, Nat.le_of_ble_eq_true rfl⟩) ⟨fun a U g mk z => by obtain ⟨z0, z1, zP, zK, zD⟩ := z; exact ⟨z0, z1, zP, va_K.moved (u := U) (U := U.calling g mk a) (Vm.Alike.refl U.vm) zK, zD⟩, va_recv hKc hPc (ci := 4) (q0 := 0) rfl rfl, fun U hU hW => ⟨rfl, by rw [hU], by rw [hU]; exact hPc, va_K.moved hW.alike hKc, hDc.weaken (fun _ _ _ _ => trivial)⟩⟩ rfl rfl hl.1 rfl (lv_room (Nat.le_of_ble_eq_true rfl)) d_MA_enter_118 ⟨(Nat.zero_le _), (Nat.zero_le _)⟩) hS (fun q _ h => hFc q h) hFc (fun u t H1 locs ht hvm hw hB hz1 hk1 hS => ?_)
          obtain ⟨n12, n13, n14⟩ := u
          try dsimp only at hw
          obtain ⟨bn13, bn14, xr11⟩ := hw
          try clear hw
          obtain ⟨hP1, hK1, hD1⟩ := hB
          rw [ht] at hP1
          obtain ⟨hP, hD⟩ := va_join (wr := [(ac, .inr (3, [.ref cfi, .ref clk, .ref ac_localTypes_r, .int ac_length, .ref cop, .ref cva, .ref cpt, .ref cel, .int ac_labelCount, .ref cla])), (fb, .inl (cfb, 100, .inl f3)), (fs, .inl (cfs, 100, .inl f6)), (ff, .inl (cff, 100, .inl f7)), (fl, .inl (cfl, 100, .inl f8)), (cfi, .inl (ccfi, 31, .inl gcfi)), (clk, .inl (cclk, 30, .inl gclk)), (aw, .inr (10, law)), (waf, .inl (cwaf, 30, .inl gwaf)), (wat, .inl (cwat, 20, .inl gwat))]) (w1 := [(h0, .inr (4, [.int h0_pages, .int h0_steps, .int n14, .ref gl, .ref aw, .ref ac, .ref ce, .ref sk, .int n13, .ref fb, .ref fs, .ref ff, .ref fl, .int x9, .ref lb, .ref lh, .int h0_labelCount, .int h0_at])), (sk, .inl (csk, 12096, .inr (.inl n12)))]) hP hD [0, 2] [1, 3, 4, 5, 6, 7, 8, 9, 10, 11] rfl rfl (by decide) (by decide) hk1 hFc hP1 hD1
          clear hPc hDc hKc hFc hz1 hk1 hP1 hK1 hD1
          generalize H1 = H at hP hS ⊢
          have hP : va_P (dC, dI) cls [(ac, .inr (3, [.ref cfi, .ref clk, .ref ac_localTypes_r, .int ac_length, .ref cop, .ref cva, .ref cpt, .ref cel, .int ac_labelCount, .ref cla])), (fb, .inl (cfb, 100, .inl f3)), (fs, .inl (cfs, 100, .inl f6)), (ff, .inl (cff, 100, .inl f7)), (fl, .inl (cfl, 100, .inl f8)), (cfi, .inl (ccfi, 31, .inl gcfi)), (clk, .inl (cclk, 30, .inl gclk)), (aw, .inr (10, law)), (waf, .inl (cwaf, 30, .inl gwaf)), (wat, .inl (cwat, 20, .inl gwat)), (h0, .inr (4, [.int h0_pages, .int h0_steps, .int n14, .ref gl, .ref aw, .ref ac, .ref ce, .ref sk, .int n13, .ref fb, .ref fs, .ref ff, .ref fl, .int x9, .ref lb, .ref lh, .int h0_labelCount, .int h0_at])), (sk, .inl (csk, 12096, .inr (.inl n12)))] H := hP
          have hD : va_D A [(ac, .inr (3, [.ref cfi, .ref clk, .ref ac_localTypes_r, .int ac_length, .ref cop, .ref cva, .ref cpt, .ref cel, .int ac_labelCount, .ref cla])), (fb, .inl (cfb, 100, .inl f3)), (fs, .inl (cfs, 100, .inl f6)), (ff, .inl (cff, 100, .inl f7)), (fl, .inl (cfl, 100, .inl f8)), (cfi, .inl (ccfi, 31, .inl gcfi)), (clk, .inl (cclk, 30, .inl gclk)), (aw, .inr (10, law)), (waf, .inl (cwaf, 30, .inl gwaf)), (wat, .inl (cwat, 20, .inl gwat)), (h0, .inr (4, [.int h0_pages, .int h0_steps, .int n14, .ref gl, .ref aw, .ref ac, .ref ce, .ref sk, .int n13, .ref fb, .ref fs, .ref ff, .ref fl, .int x9, .ref lb, .ref lh, .int h0_labelCount, .int h0_at])), (sk, .inl (csk, 12096, .inr (.inl n12)))] := hD
          obtain ⟨x15, ex15⟩ : ∃ z : Int32, z = j111_l3 + 1 := ⟨_, rfl⟩
          have tx15 : x15.toInt = j111_l3.toInt + 1 := by have z := i32_add ex15 (by omega) (by omega); omega
          refine lv_iinc (v := x15) (lv' := [(3, .int x15), (0, .ref h0), (1, .int p0), (2, .int x1)]) hx hb d_MA_enter_121 hl (k := 3) rfl (by rw [ex15]; rfl) (by decide) rfl (fun ls hl => ?_)
          refine lv_goto (tgt := 111) hx hb d_MA_enter_124 (by decide) ?_
          exact ih111 (x15, n12, n13, n14) _ _ _ (by show (x1.toInt - x15.toInt).toNat < N111; omega) ⟨bn13, bn14, by (try dsimp only); omega, hP.sub [10, 0, 11, 1, 2, 3, 4, 5, 6, 7, 8, 9] rfl, hD.sub [10, 0, 11, 1, 2, 3, 4, 5, 6, 7, 8, 9] (by decide) rfl, hS, lv_sub hl [1, 2, 3, 0] rfl⟩
      · have q31 := nleI c31
        exact jn34 () _ _ _ ⟨hP, hD, hS, lv_sub hl [1] rfl⟩

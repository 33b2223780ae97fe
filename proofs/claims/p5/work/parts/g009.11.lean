/-! Machine: its small methods -/
abbrev b_MA_push : ByteArray := prog_6_method_26_code
def y_MA_push : MethodName := ⟨R_MA, "push", "(J)V"⟩
abbrev w_MA_push : List Cond := .code y_MA_push b_MA_push 3 none :: lw_g
theorem kC_MA_push : Cond.code y_MA_push b_MA_push 3 none ∈ lw_g := in_c7 103 rfl rfl
theorem d_MA_push_0 : decode b_MA_push 0 = .ok (.aload_n 0, 1) := bz_c42 (by decide +kernel)
theorem d_MA_push_1 : decode b_MA_push 1 = .ok (.getfield 77, 3) := bz_c180 (by decide +kernel)
theorem d_MA_push_4 : decode b_MA_push 4 = .ok (.sipush 12096, 3) := bz_c17 (by decide +kernel)
theorem d_MA_push_7 : decode b_MA_push 7 = .ok (.if_icmp .ge 23, 3) := bz_c162 (by decide +kernel)
theorem d_MA_push_10 : decode b_MA_push 10 = .ok (.aload_n 0, 1) := bz_c42 (by decide +kernel)
theorem d_MA_push_11 : decode b_MA_push 11 = .ok (.getfield 18, 3) := bz_c180 (by decide +kernel)
theorem d_MA_push_14 : decode b_MA_push 14 = .ok (.aload_n 0, 1) := bz_c42 (by decide +kernel)
theorem d_MA_push_15 : decode b_MA_push 15 = .ok (.dup, 1) := bz_c89 (by decide +kernel)
theorem d_MA_push_16 : decode b_MA_push 16 = .ok (.getfield 77, 3) := bz_c180 (by decide +kernel)
theorem d_MA_push_19 : decode b_MA_push 19 = .ok (.dup_x1, 1) := by decide +kernel
theorem d_MA_push_20 : decode b_MA_push 20 = .ok (.iconst 1, 1) := bz_c4 (by decide +kernel)
theorem d_MA_push_21 : decode b_MA_push 21 = .ok (.iadd, 1) := bz_c96 (by decide +kernel)
theorem d_MA_push_22 : decode b_MA_push 22 = .ok (.putfield 77, 3) := bz_c181 (by decide +kernel)
theorem d_MA_push_25 : decode b_MA_push 25 = .ok (.lload_n 1, 1) := bz_c31 (by decide +kernel)
theorem d_MA_push_26 : decode b_MA_push 26 = .ok (.lastore, 1) := bz_c80 (by decide +kernel)
theorem d_MA_push_27 : decode b_MA_push 27 = .ok (.goto 9, 3) := bz_c167 (by decide +kernel)
theorem d_MA_push_30 : decode b_MA_push 30 = .ok (.aload_n 0, 1) := bz_c42 (by decide +kernel)
theorem d_MA_push_31 : decode b_MA_push 31 = .ok (.bipush 13, 2) := bz_c16 (by decide +kernel)
theorem d_MA_push_33 : decode b_MA_push 33 = .ok (.putfield 71, 3) := bz_c181 (by decide +kernel)
theorem d_MA_push_36 : decode b_MA_push 36 = .ok (.return_, 1) := bz_c177 (by decide +kernel)
theorem kF_MA_77 : Cond.fieldLink R_MA 77 "WaferForge$Machine" "height" "I" ∈ lw_g := in_c3 69 rfl rfl
theorem kF_MA_71 : Cond.fieldLink R_MA 71 "WaferForge$Machine" "reason" "I" ∈ lw_g := in_c3 61 rfl rfl
theorem kF_MA_18 : Cond.fieldLink R_MA 18 "WaferForge$Machine" "stack" "[J" ∈ lw_g := in_c3 68 rfl rfl
abbrev at_MA_push (dC : Nat → ClassId) (dI : Nat → Nat → Nat) (h0 gl h0_wafer_r h0_codes_r ce sk fb fs ff fl lb lh : Nat) (csk : ClassId) (h0_pages : Int32) (h0_steps : Int32) (h0_frameCount : Int32) (h0_labelCount : Int32) (h0_at : Int32) (A : Nat → Prop) (u : (Nat → Int64) × Int32 × Int32) (t : State) : Prop := match u with | (gsk, h0_height, h0_reason) => va_P (dC, dI) cls (wz_17 h0 h0_pages h0_steps h0_reason gl h0_wafer_r h0_codes_r ce sk h0_height fb fs ff fl h0_frameCount lb lh h0_labelCount h0_at sk csk gsk) t.heap ∧ va_K (dC, dI) cls [(csk, .long)] t ∧ va_D A (wz_17 h0 h0_pages h0_steps h0_reason gl h0_wafer_r h0_codes_r ce sk h0_height fb fs ff fl h0_frameCount lb lh h0_labelCount h0_at sk csk gsk)
set_option maxHeartbeats 4000000 in
set_option maxRecDepth 100000 in
theorem c_MA_push (l : Launch) (dC : Nat → ClassId) (dI : Nat → Nat → Nat) (sz : Nat) (h0 gl h0_wafer_r h0_codes_r ce sk fb fs ff fl lb lh : Nat) (csk : ClassId) (h0_pages : Int32) (h0_steps : Int32) (h0_reason : Int32) (h0_height : Int32) (h0_frameCount : Int32) (h0_labelCount : Int32) (h0_at : Int32) (gsk : Nat → Int64)  (b_h0_reason : 0 ≤ h0_reason.toInt ∧ h0_reason.toInt ≤ 14) (b_h0_height : 0 ≤ h0_height.toInt ∧ h0_height.toInt ≤ 12096) (p0 : Int64)   : Met l y_MA_push w_MA_push ({ frames := 0, cells := 0, slots := 0, locals := 0 }) (va_Pc [.ref h0, .long p0] (fun U => U.heap.size = sz ∧ va_P (dC, dI) cls (wz_17 h0 h0_pages h0_steps h0_reason gl h0_wafer_r h0_codes_r ce sk h0_height fb fs ff fl h0_frameCount lb lh h0_labelCount h0_at sk csk gsk) U.heap ∧ va_K (dC, dI) cls [(csk, .long)] U ∧ va_D (fun _ => True) (wz_17 h0 h0_pages h0_steps h0_reason gl h0_wafer_r h0_codes_r ce sk h0_height fb fs ff fl h0_frameCount lb lh h0_labelCount h0_at sk csk gsk))) (va_Qv (fun (u : (Nat → Int64) × Int32 × Int32) => match u with | (gsk2, h0_height2, h0_reason2) => (0 ≤ h0_height2.toInt ∧ h0_height2.toInt ≤ 12096) ∧ (0 ≤ h0_reason2.toInt ∧ h0_reason2.toInt ≤ 14) ∧ (((h0_height2.toInt = h0_height.toInt + 1 ∧ h0_height.toInt < 12096 ∧ h0_reason2.toInt = h0_reason.toInt ∧ gsk2 = vp_updL gsk h0_height.toNatClampNeg p0) ∨ (h0_height.toInt = 12096 ∧ h0_height2.toInt = h0_height.toInt ∧ h0_reason2.toInt = 13 ∧ gsk2 = gsk)))) (at_MA_push dC dI h0 gl h0_wafer_r h0_codes_r ce sk fb fs ff fl lb lh csk h0_pages h0_steps h0_frameCount h0_labelCount h0_at (va_A (wz_17 h0 h0_pages h0_steps h0_reason gl h0_wafer_r h0_codes_r ce sk h0_height fb fs ff fl h0_frameCount lb lh h0_labelCount h0_at sk csk gsk) sz)) (va_A (wz_17 h0 h0_pages h0_steps h0_reason gl h0_wafer_r h0_codes_r ce sk h0_height fb fs ff fl h0_frameCount lb lh h0_labelCount h0_at sk csk gsk) sz)) 0 0 (va_A (wz_17 h0 h0_pages h0_steps h0_reason gl h0_wafer_r h0_codes_r ce sk h0_height fb fs ff fl h0_frameCount lb lh h0_labelCount h0_at sk csk gsk) sz) := by
  refine Met.ofW (cc := b_MA_push) (maxL := 3) (ret := none) (by decide) rfl ?_
  intro p e s m args below meth c s₁ B hml hv
  obtain ⟨rfl, hsz, hP, hK, hD0⟩ := hv
  have hx := B.exec
  have hb := B.bytes
  have hr := B.returns
  have hts0 := atoms_spec (ws := w_MA_push) B.pre
  have hts : ∀ w ∈ lw_g, w.before _ s = true := fun w h => hts0 w (List.mem_cons_of_mem _ h)
  have hown : s.vm.findClass R_MA = some m.cls := findClass_of_methodNamed B.named
  have hlocks := B.notSynchronized
  clear hts0
  subst hsz
  have hD := hD0.self (sz := s.heap.size)
  generalize hAe : va_A (wz_17 h0 h0_pages h0_steps h0_reason gl h0_wafer_r h0_codes_r ce sk h0_height fb fs ff fl h0_frameCount lb lh h0_labelCount h0_at sk csk gsk) s.heap.size = A at hD ⊢
  have hA : ∀ q : Nat, s.heap.size ≤ q → A q := fun q h => by rw [← hAe]; exact Or.inr h
  clear hAe
  have hP : va_P (dC, dI) cls (wz_17 h0 h0_pages h0_steps h0_reason gl h0_wafer_r h0_codes_r ce sk h0_height fb fs ff fl h0_frameCount lb lh h0_labelCount h0_at sk csk gsk) s.heap := hP
  have hl := lv_entry ([.ref h0, .long p0]) (n := 3) (Nat.le_of_ble_eq_true rfl)
  rw [lg_entry_eq]
  generalize (lg_sl ([.ref h0, .long p0]) ++ List.replicate (3 - (lg_sl ([.ref h0, .long p0])).length) Slot.unset).toArray = ls at hl ⊢
  have hl : lv_has ls 3 [(0, .ref h0), (1, .long p0)] := hl
  have k0 : (0 : Int32).toInt = 0 := by decide
  refine w_gen (A := A) hP (fun H locs hP hS => ?_)
  have k1 : (1 : Int32).toInt = 1 := by decide
  have k13 : (13 : Int32).toInt = 13 := by decide
  have k12096 : (12096 : Int32).toInt = 12096 := by decide
  refine lv_aload_n hx hb d_MA_push_0 rfl (lv_at hl 0 rfl) ?_
  refine va_get (D := (dC, dI)) (ci := 4) (v := .int h0_height) (C := R_MA) (T := F_MA) (N := 18) hx hb hts i_MA hown hK hP 0 rfl rfl 8 (by decide) (hts _ kF_MA_77) (fun _ h9 => h9) rfl d_MA_push_1 ?_
  refine lv_sipush (v := 12096) hx hb d_MA_push_4 (by decide) ?_
  refine lv_icmp_ge (tgt := 30) hx hb d_MA_push_7 (by decide) (fun c7 => ?_) (fun c7 => ?_)
  · have q7 := leI c7
    refine lv_aload_n hx hb d_MA_push_30 rfl (lv_at hl 0 rfl) ?_
    refine lv_bipush (v := 13) hx hb d_MA_push_31 (by decide) ?_
    refine va_put (D := (dC, dI)) (ci := 4) (v := .int 13) (ty := .int) (C := R_MA) (T := F_MA) (N := 18) hx hb hts i_MA t_MA t_MA_ok n_MA hown hK hP hD hS 0 rfl rfl 2 (by decide) (hts _ kF_MA_71) (fun _ h9 => h9) rfl (by decide +kernel) rfl rfl (Nat.le_of_ble_eq_true rfl) d_MA_push_33 (fun H locs hP hD hS => ?_)
    have hP9 := hP.sb (wq := (wz_17 h0 h0_pages h0_steps 13 gl h0_wafer_r h0_codes_r ce sk h0_height fb fs ff fl h0_frameCount lb lh h0_labelCount h0_at sk csk gsk)) [0, 1] rfl
    have hD9 := hD.sb (wq := (wz_17 h0 h0_pages h0_steps 13 gl h0_wafer_r h0_codes_r ce sk h0_height fb fs ff fl h0_frameCount lb lh h0_labelCount h0_at sk csk gsk)) [0, 1] (by decide) rfl
    exact W.vret hx hb hr (fun t ht hW => ⟨⟨(gsk, h0_height, 13), rfl, ⟨b_h0_height, by (try dsimp only); (first | (apply Int.le_antisymm <;> omega) | omega), Or.inr ⟨by (first | (apply Int.le_antisymm <;> omega) | omega), rfl, by decide, rfl⟩⟩, va_P.he ht.symm hP9, va_K.moved hW.alike hK, hD9⟩, hS.F ht⟩) hS.2.2 d_MA_push_36
  · have q7 := nleI c7
    refine lv_aload_n hx hb d_MA_push_10 rfl (lv_at hl 0 rfl) ?_
    refine va_get (D := (dC, dI)) (ci := 4) (v := .ref sk) (C := R_MA) (T := F_MA) (N := 18) hx hb hts i_MA hown hK hP 0 rfl rfl 7 (by decide) (hts _ kF_MA_18) (fun _ h9 => h9) rfl d_MA_push_11 ?_
    refine lv_aload_n hx hb d_MA_push_14 rfl (lv_at hl 0 rfl) ?_
    refine lv_dup hx hb d_MA_push_15 rfl ?_
    refine va_get (D := (dC, dI)) (ci := 4) (v := .int h0_height) (C := R_MA) (T := F_MA) (N := 18) hx hb hts i_MA hown hK hP 0 rfl rfl 8 (by decide) (hts _ kF_MA_77) (fun _ h9 => h9) rfl d_MA_push_16 ?_
    refine lv_dup_x1 hx hb d_MA_push_19 rfl rfl ?_
    refine lv_iconst (v := 1) hx hb d_MA_push_20 (by decide) ?_
    refine lv_iadd hx hb d_MA_push_21 ?_
    refine lv_topi (fun x1 ex1 => ?_)
    have tx1 : x1.toInt = h0_height.toInt + 1 := by have z := i32_add ex1 (by (first | (apply Int.le_antisymm <;> omega) | omega)) (by (first | (apply Int.le_antisymm <;> omega) | omega)); first | exact z | (first | (apply Int.le_antisymm <;> omega) | omega)
    refine va_put (D := (dC, dI)) (ci := 4) (v := .int x1) (ty := .int) (C := R_MA) (T := F_MA) (N := 18) hx hb hts i_MA t_MA t_MA_ok n_MA hown hK hP hD hS 0 rfl rfl 8 (by decide) (hts _ kF_MA_77) (fun _ h9 => h9) rfl (by decide +kernel) rfl rfl (Nat.le_of_ble_eq_true rfl) d_MA_push_22 (fun H locs hP hD hS => ?_)
    refine lv_lload_n hx hb d_MA_push_25 rfl (lv_at hl 1 rfl) ?_
    have g26 : vp_in h0_height 12096 := vp_in_iff.mpr ⟨by (first | (apply Int.le_antisymm <;> omega) | omega), by (first | (apply Int.le_antisymm <;> omega) | omega)⟩
    refine va_last hx hb hK hP hD hS 1 0 rfl rfl g26 d_MA_push_26 (fun H locs hP hD hS => ?_)
    generalize ef2 : vp_updL gsk h0_height.toNatClampNeg p0 = f2 at hP hD
    refine lv_goto (tgt := 36) hx hb d_MA_push_27 (by decide) ?_
    have hP9 := hP.sb (wq := (wz_17 h0 h0_pages h0_steps h0_reason gl h0_wafer_r h0_codes_r ce sk x1 fb fs ff fl h0_frameCount lb lh h0_labelCount h0_at sk csk f2)) [0, 1] rfl
    have hD9 := hD.sb (wq := (wz_17 h0 h0_pages h0_steps h0_reason gl h0_wafer_r h0_codes_r ce sk x1 fb fs ff fl h0_frameCount lb lh h0_labelCount h0_at sk csk f2)) [0, 1] (by decide) rfl
    exact W.vret hx hb hr (fun t ht hW => ⟨⟨(f2, x1, h0_reason), rfl, ⟨by (try dsimp only); (first | (apply Int.le_antisymm <;> omega) | omega), b_h0_reason, Or.inl ⟨by (first | (apply Int.le_antisymm <;> omega) | omega), by (first | (apply Int.le_antisymm <;> omega) | omega), rfl, by (try dsimp only) <;> exact ef2.symm⟩⟩, va_P.he ht.symm hP9, va_K.moved hW.alike hK, hD9⟩, hS.F ht⟩) hS.2.2 d_MA_push_36
abbrev b_MA_pop : ByteArray := prog_6_method_27_code
def y_MA_pop : MethodName := ⟨R_MA, "pop", "()J"⟩
abbrev w_MA_pop : List Cond := .code y_MA_pop b_MA_pop 1 (Option.some .long) :: lw_g
theorem kC_MA_pop : Cond.code y_MA_pop b_MA_pop 1 (Option.some .long) ∈ lw_g := in_c7 129 rfl rfl
theorem d_MA_pop_0 : decode b_MA_pop 0 = .ok (.aload_n 0, 1) := bz_c42 (by decide +kernel)
theorem d_MA_pop_1 : decode b_MA_pop 1 = .ok (.getfield 77, 3) := bz_c180 (by decide +kernel)
theorem d_MA_pop_4 : decode b_MA_pop 4 = .ok (.ifCond .le 22, 3) := bz_c158 (by decide +kernel)
theorem d_MA_pop_7 : decode b_MA_pop 7 = .ok (.aload_n 0, 1) := bz_c42 (by decide +kernel)
theorem d_MA_pop_8 : decode b_MA_pop 8 = .ok (.getfield 18, 3) := bz_c180 (by decide +kernel)
theorem d_MA_pop_11 : decode b_MA_pop 11 = .ok (.aload_n 0, 1) := bz_c42 (by decide +kernel)
theorem d_MA_pop_12 : decode b_MA_pop 12 = .ok (.dup, 1) := bz_c89 (by decide +kernel)
theorem d_MA_pop_13 : decode b_MA_pop 13 = .ok (.getfield 77, 3) := bz_c180 (by decide +kernel)
theorem d_MA_pop_16 : decode b_MA_pop 16 = .ok (.iconst 1, 1) := bz_c4 (by decide +kernel)
theorem d_MA_pop_17 : decode b_MA_pop 17 = .ok (.isub, 1) := bz_c100 (by decide +kernel)
theorem d_MA_pop_18 : decode b_MA_pop 18 = .ok (.dup_x1, 1) := by decide +kernel
theorem d_MA_pop_19 : decode b_MA_pop 19 = .ok (.putfield 77, 3) := bz_c181 (by decide +kernel)
theorem d_MA_pop_22 : decode b_MA_pop 22 = .ok (.laload, 1) := bz_c47 (by decide +kernel)
theorem d_MA_pop_23 : decode b_MA_pop 23 = .ok (.goto 4, 3) := bz_c167 (by decide +kernel)
theorem d_MA_pop_26 : decode b_MA_pop 26 = .ok (.lconst 0, 1) := bz_c9 (by decide +kernel)
theorem d_MA_pop_27 : decode b_MA_pop 27 = .ok (.lreturn, 1) := bz_c173 (by decide +kernel)
abbrev at_MA_pop (dC : Nat → ClassId) (dI : Nat → Nat → Nat) (h0 gl h0_wafer_r h0_codes_r ce sk fb fs ff fl lb lh : Nat) (csk : ClassId) (h0_pages : Int32) (h0_steps : Int32) (h0_reason : Int32) (h0_frameCount : Int32) (h0_labelCount : Int32) (h0_at : Int32) (gsk : Nat → Int64) (A : Nat → Prop) (u : Int32) (t : State) : Prop := match u with | h0_height => va_P (dC, dI) cls (wz_17 h0 h0_pages h0_steps h0_reason gl h0_wafer_r h0_codes_r ce sk h0_height fb fs ff fl h0_frameCount lb lh h0_labelCount h0_at sk csk gsk) t.heap ∧ va_K (dC, dI) cls [(csk, .long)] t ∧ va_D A (wz_17 h0 h0_pages h0_steps h0_reason gl h0_wafer_r h0_codes_r ce sk h0_height fb fs ff fl h0_frameCount lb lh h0_labelCount h0_at sk csk gsk)
set_option maxHeartbeats 4000000 in
set_option maxRecDepth 100000 in
theorem c_MA_pop (l : Launch) (dC : Nat → ClassId) (dI : Nat → Nat → Nat) (sz : Nat) (h0 gl h0_wafer_r h0_codes_r ce sk fb fs ff fl lb lh : Nat) (csk : ClassId) (h0_pages : Int32) (h0_steps : Int32) (h0_reason : Int32) (h0_height : Int32) (h0_frameCount : Int32) (h0_labelCount : Int32) (h0_at : Int32) (gsk : Nat → Int64)  (b_h0_height : 0 ≤ h0_height.toInt ∧ h0_height.toInt ≤ 12096)    : Met l y_MA_pop w_MA_pop ({ frames := 0, cells := 0, slots := 0, locals := 0 }) (va_Pc [.ref h0] (fun U => U.heap.size = sz ∧ va_P (dC, dI) cls (wz_17 h0 h0_pages h0_steps h0_reason gl h0_wafer_r h0_codes_r ce sk h0_height fb fs ff fl h0_frameCount lb lh h0_labelCount h0_at sk csk gsk) U.heap ∧ va_K (dC, dI) cls [(csk, .long)] U ∧ va_D (fun _ => True) (wz_17 h0 h0_pages h0_steps h0_reason gl h0_wafer_r h0_codes_r ce sk h0_height fb fs ff fl h0_frameCount lb lh h0_labelCount h0_at sk csk gsk))) (va_Ql (fun (r : Int64) (u : Int32) => match u with | h0_height2 => (0 ≤ h0_height2.toInt ∧ h0_height2.toInt ≤ 12096) ∧ (((0 < h0_height.toInt ∧ h0_height2.toInt = h0_height.toInt - 1 ∧ r = gsk h0_height2.toNatClampNeg) ∨ (h0_height.toInt = 0 ∧ h0_height2.toInt = h0_height.toInt ∧ r = 0)))) (at_MA_pop dC dI h0 gl h0_wafer_r h0_codes_r ce sk fb fs ff fl lb lh csk h0_pages h0_steps h0_reason h0_frameCount h0_labelCount h0_at gsk (va_A (wz_17 h0 h0_pages h0_steps h0_reason gl h0_wafer_r h0_codes_r ce sk h0_height fb fs ff fl h0_frameCount lb lh h0_labelCount h0_at sk csk gsk) sz)) (va_A (wz_17 h0 h0_pages h0_steps h0_reason gl h0_wafer_r h0_codes_r ce sk h0_height fb fs ff fl h0_frameCount lb lh h0_labelCount h0_at sk csk gsk) sz)) 0 0 (va_A (wz_17 h0 h0_pages h0_steps h0_reason gl h0_wafer_r h0_codes_r ce sk h0_height fb fs ff fl h0_frameCount lb lh h0_labelCount h0_at sk csk gsk) sz) := by
  refine Met.ofW (cc := b_MA_pop) (maxL := 1) (ret := (Option.some .long)) (by decide) rfl ?_
  intro p e s m args below meth c s₁ B hml hv
  obtain ⟨rfl, hsz, hP, hK, hD0⟩ := hv
  have hx := B.exec
  have hb := B.bytes
  have hr := B.returns
  have hts0 := atoms_spec (ws := w_MA_pop) B.pre
  have hts : ∀ w ∈ lw_g, w.before _ s = true := fun w h => hts0 w (List.mem_cons_of_mem _ h)
  have hown : s.vm.findClass R_MA = some m.cls := findClass_of_methodNamed B.named
  have hlocks := B.notSynchronized
  clear hts0
  subst hsz
  have hD := hD0.self (sz := s.heap.size)
  generalize hAe : va_A (wz_17 h0 h0_pages h0_steps h0_reason gl h0_wafer_r h0_codes_r ce sk h0_height fb fs ff fl h0_frameCount lb lh h0_labelCount h0_at sk csk gsk) s.heap.size = A at hD ⊢
  have hA : ∀ q : Nat, s.heap.size ≤ q → A q := fun q h => by rw [← hAe]; exact Or.inr h
  clear hAe
  have hP : va_P (dC, dI) cls (wz_17 h0 h0_pages h0_steps h0_reason gl h0_wafer_r h0_codes_r ce sk h0_height fb fs ff fl h0_frameCount lb lh h0_labelCount h0_at sk csk gsk) s.heap := hP
  have hl := lv_entry ([.ref h0]) (n := 1) (Nat.le_of_ble_eq_true rfl)
  rw [lg_entry_eq]
  generalize (lg_sl ([.ref h0]) ++ List.replicate (1 - (lg_sl ([.ref h0])).length) Slot.unset).toArray = ls at hl ⊢
  have hl : lv_has ls 1 [(0, .ref h0)] := hl
  have k0 : (0 : Int32).toInt = 0 := by decide
  refine w_gen (A := A) hP (fun H locs hP hS => ?_)
  have k1 : (1 : Int32).toInt = 1 := by decide
  refine lv_aload_n hx hb d_MA_pop_0 rfl (lv_at hl 0 rfl) ?_
  refine va_get (D := (dC, dI)) (ci := 4) (v := .int h0_height) (C := R_MA) (T := F_MA) (N := 18) hx hb hts i_MA hown hK hP 0 rfl rfl 8 (by decide) (hts _ kF_MA_77) (fun _ h9 => h9) rfl d_MA_pop_1 ?_
  refine lv_if_le (tgt := 26) hx hb d_MA_pop_4 (by decide) (fun c4 => ?_) (fun c4 => ?_)
  · have q4 := leI c4
    refine lv_lconst (v := 0) hx hb d_MA_pop_26 (by decide) ?_
    have kl0 : (0 : Int64).toInt = 0 := by decide
    have hP9 := hP.sb (wq := (wz_17 h0 h0_pages h0_steps h0_reason gl h0_wafer_r h0_codes_r ce sk h0_height fb fs ff fl h0_frameCount lb lh h0_labelCount h0_at sk csk gsk)) [0, 1] rfl
    have hD9 := hD.sb (wq := (wz_17 h0 h0_pages h0_steps h0_reason gl h0_wafer_r h0_codes_r ce sk h0_height fb fs ff fl h0_frameCount lb lh h0_labelCount h0_at sk csk gsk)) [0, 1] (by decide) rfl
    exact W.lret (v := 0) hx hb hr (fun t ht hW => ⟨⟨0, h0_height, rfl, ⟨b_h0_height, Or.inr ⟨by (first | (apply Int.le_antisymm <;> omega) | omega), rfl, rfl⟩⟩, va_P.he ht.symm hP9, va_K.moved hW.alike hK, hD9⟩, hS.F ht⟩) hS.2.2 d_MA_pop_27
  · have q4 := nleI c4
    refine lv_aload_n hx hb d_MA_pop_7 rfl (lv_at hl 0 rfl) ?_
    refine va_get (D := (dC, dI)) (ci := 4) (v := .ref sk) (C := R_MA) (T := F_MA) (N := 18) hx hb hts i_MA hown hK hP 0 rfl rfl 7 (by decide) (hts _ kF_MA_18) (fun _ h9 => h9) rfl d_MA_pop_8 ?_
    refine lv_aload_n hx hb d_MA_pop_11 rfl (lv_at hl 0 rfl) ?_
    refine lv_dup hx hb d_MA_pop_12 rfl ?_
    refine va_get (D := (dC, dI)) (ci := 4) (v := .int h0_height) (C := R_MA) (T := F_MA) (N := 18) hx hb hts i_MA hown hK hP 0 rfl rfl 8 (by decide) (hts _ kF_MA_77) (fun _ h9 => h9) rfl d_MA_pop_13 ?_
    refine lv_iconst (v := 1) hx hb d_MA_pop_16 (by decide) ?_
    refine lv_isub hx hb d_MA_pop_17 ?_
    refine lv_topi (fun x1 ex1 => ?_)
    have tx1 : x1.toInt = h0_height.toInt - 1 := by have z := i32_sub ex1 (by (first | (apply Int.le_antisymm <;> omega) | omega)) (by (first | (apply Int.le_antisymm <;> omega) | omega)); first | exact z | (first | (apply Int.le_antisymm <;> omega) | omega)
    refine lv_dup_x1 hx hb d_MA_pop_18 rfl rfl ?_
    refine va_put (D := (dC, dI)) (ci := 4) (v := .int x1) (ty := .int) (C := R_MA) (T := F_MA) (N := 18) hx hb hts i_MA t_MA t_MA_ok n_MA hown hK hP hD hS 0 rfl rfl 8 (by decide) (hts _ kF_MA_77) (fun _ h9 => h9) rfl (by decide +kernel) rfl rfl (Nat.le_of_ble_eq_true rfl) d_MA_pop_19 (fun H locs hP hD hS => ?_)
    have g22 : vp_in x1 12096 := vp_in_iff.mpr ⟨by (first | (apply Int.le_antisymm <;> omega) | omega), by (first | (apply Int.le_antisymm <;> omega) | omega)⟩
    refine va_lald hx hb hK hP 1 0 rfl rfl g22 d_MA_pop_22 ?_
    refine lv_topl (fun x2 ex2 => ?_)
    refine lv_goto (tgt := 27) hx hb d_MA_pop_23 (by decide) ?_
    have hP9 := hP.sb (wq := (wz_17 h0 h0_pages h0_steps h0_reason gl h0_wafer_r h0_codes_r ce sk x1 fb fs ff fl h0_frameCount lb lh h0_labelCount h0_at sk csk gsk)) [0, 1] rfl
    have hD9 := hD.sb (wq := (wz_17 h0 h0_pages h0_steps h0_reason gl h0_wafer_r h0_codes_r ce sk x1 fb fs ff fl h0_frameCount lb lh h0_labelCount h0_at sk csk gsk)) [0, 1] (by decide) rfl
    exact W.lret (v := x2) hx hb hr (fun t ht hW => ⟨⟨x2, x1, rfl, ⟨by (try dsimp only); (first | (apply Int.le_antisymm <;> omega) | omega), Or.inl ⟨by (first | (apply Int.le_antisymm <;> omega) | omega), by (first | (apply Int.le_antisymm <;> omega) | omega), ex2⟩⟩, va_P.he ht.symm hP9, va_K.moved hW.alike hK, hD9⟩, hS.F ht⟩) hS.2.2 d_MA_pop_27
abbrev b_MA_keepTop : ByteArray := prog_6_method_13_code
def y_MA_keepTop : MethodName := ⟨R_MA, "keepTop", "(IZ)V"⟩
abbrev w_MA_keepTop : List Cond := .code y_MA_keepTop b_MA_keepTop 5 none :: lw_g
theorem kC_MA_keepTop : Cond.code y_MA_keepTop b_MA_keepTop 5 none ∈ lw_g := in_c7 125 rfl rfl
theorem d_MA_keepTop_0 : decode b_MA_keepTop 0 = .ok (.iload_n 2, 1) := bz_c28 (by decide +kernel)
theorem d_MA_keepTop_1 : decode b_MA_keepTop 1 = .ok (.ifCond .eq 10, 3) := bz_c153 (by decide +kernel)
theorem d_MA_keepTop_4 : decode b_MA_keepTop 4 = .ok (.aload_n 0, 1) := bz_c42 (by decide +kernel)
theorem d_MA_keepTop_5 : decode b_MA_keepTop 5 = .ok (.invokevirtual 142, 3) := bz_c182 (by decide +kernel)
theorem d_MA_keepTop_8 : decode b_MA_keepTop 8 = .ok (.goto 4, 3) := bz_c167 (by decide +kernel)
theorem d_MA_keepTop_11 : decode b_MA_keepTop 11 = .ok (.lconst 0, 1) := bz_c9 (by decide +kernel)
theorem d_MA_keepTop_12 : decode b_MA_keepTop 12 = .ok (.lstore_n 3, 1) := bz_c66 (by decide +kernel)
theorem d_MA_keepTop_13 : decode b_MA_keepTop 13 = .ok (.aload_n 0, 1) := bz_c42 (by decide +kernel)
theorem d_MA_keepTop_14 : decode b_MA_keepTop 14 = .ok (.iload_n 1, 1) := bz_c27 (by decide +kernel)
theorem d_MA_keepTop_15 : decode b_MA_keepTop 15 = .ok (.putfield 77, 3) := bz_c181 (by decide +kernel)
theorem d_MA_keepTop_18 : decode b_MA_keepTop 18 = .ok (.iload_n 2, 1) := bz_c28 (by decide +kernel)
theorem d_MA_keepTop_19 : decode b_MA_keepTop 19 = .ok (.ifCond .eq 8, 3) := bz_c153 (by decide +kernel)
theorem d_MA_keepTop_22 : decode b_MA_keepTop 22 = .ok (.aload_n 0, 1) := bz_c42 (by decide +kernel)
theorem d_MA_keepTop_23 : decode b_MA_keepTop 23 = .ok (.lload_n 3, 1) := bz_c33 (by decide +kernel)
theorem d_MA_keepTop_24 : decode b_MA_keepTop 24 = .ok (.invokevirtual 94, 3) := bz_c182 (by decide +kernel)
theorem d_MA_keepTop_27 : decode b_MA_keepTop 27 = .ok (.return_, 1) := bz_c177 (by decide +kernel)
theorem kM_MA_142 : Cond.methodLink R_MA 142 y_MA_pop ∈ lw_g := in_c7 126 rfl rfl
theorem kV_MA_pop : Cond.instanceMethod y_MA_pop ∈ lw_g := in_c7 128 rfl rfl
theorem kS_MA_pop : Cond.selects R_MA y_MA_pop y_MA_pop ∈ lw_g := in_s 105 (by decide +kernel) rfl
theorem kM_MA_94 : Cond.methodLink R_MA 94 y_MA_push ∈ lw_g := in_c7 100 rfl rfl
theorem kV_MA_push : Cond.instanceMethod y_MA_push ∈ lw_g := in_c7 102 rfl rfl
theorem kS_MA_push : Cond.selects R_MA y_MA_push y_MA_push ∈ lw_g := in_s 99 (by decide +kernel) rfl
abbrev at_MA_keepTop (dC : Nat → ClassId) (dI : Nat → Nat → Nat) (h0 gl h0_wafer_r h0_codes_r ce sk fb fs ff fl lb lh : Nat) (csk : ClassId) (h0_pages : Int32) (h0_steps : Int32) (h0_frameCount : Int32) (h0_labelCount : Int32) (h0_at : Int32) (A : Nat → Prop) (u : (Nat → Int64) × Int32 × Int32) (t : State) : Prop := match u with | (gsk, h0_height, h0_reason) => va_P (dC, dI) cls (wz_17 h0 h0_pages h0_steps h0_reason gl h0_wafer_r h0_codes_r ce sk h0_height fb fs ff fl h0_frameCount lb lh h0_labelCount h0_at sk csk gsk) t.heap ∧ va_K (dC, dI) cls [(csk, .long)] t ∧ va_D A (wz_17 h0 h0_pages h0_steps h0_reason gl h0_wafer_r h0_codes_r ce sk h0_height fb fs ff fl h0_frameCount lb lh h0_labelCount h0_at sk csk gsk)
set_option maxHeartbeats 4000000 in
set_option maxRecDepth 100000 in
theorem c_MA_keepTop (l : Launch) (dC : Nat → ClassId) (dI : Nat → Nat → Nat) (sz : Nat) (h0 gl h0_wafer_r h0_codes_r ce sk fb fs ff fl lb lh : Nat) (csk : ClassId) (h0_pages : Int32) (h0_steps : Int32) (h0_reason : Int32) (h0_height : Int32) (h0_frameCount : Int32) (h0_labelCount : Int32) (h0_at : Int32) (gsk : Nat → Int64)  (b_h0_reason : 0 ≤ h0_reason.toInt ∧ h0_reason.toInt ≤ 14) (b_h0_height : 0 ≤ h0_height.toInt ∧ h0_height.toInt ≤ 12096) (p0 : Int32) (p1 : Int32) (ba0 : 0 ≤ p0.toInt ∧ p0.toInt ≤ 12096) (ba1 : p1 = 0 ∨ p1 = 1) (hr0 : h0_reason.toInt = 0) : Met l y_MA_keepTop w_MA_keepTop ({ frames := 1, cells := 0, slots := 0, locals := 22 }) (va_Pc [.ref h0, .int p0, .int p1] (fun U => U.heap.size = sz ∧ va_P (dC, dI) cls (wz_17 h0 h0_pages h0_steps h0_reason gl h0_wafer_r h0_codes_r ce sk h0_height fb fs ff fl h0_frameCount lb lh h0_labelCount h0_at sk csk gsk) U.heap ∧ va_K (dC, dI) cls [(csk, .long)] U ∧ va_D (fun _ => True) (wz_17 h0 h0_pages h0_steps h0_reason gl h0_wafer_r h0_codes_r ce sk h0_height fb fs ff fl h0_frameCount lb lh h0_labelCount h0_at sk csk gsk))) (va_Qv (fun (u : (Nat → Int64) × Int32 × Int32) => match u with | (gsk2, h0_height2, h0_reason2) => (0 ≤ h0_height2.toInt ∧ h0_height2.toInt ≤ 12096) ∧ (0 ≤ h0_reason2.toInt ∧ h0_reason2.toInt ≤ 14) ∧ ((h0_reason2.toInt = 0 ∨ h0_reason2.toInt = 13) ∧ (h0_reason2.toInt = 0 → h0_height2.toInt = p0.toInt + p1.toInt))) (at_MA_keepTop dC dI h0 gl h0_wafer_r h0_codes_r ce sk fb fs ff fl lb lh csk h0_pages h0_steps h0_frameCount h0_labelCount h0_at (va_A (wz_17 h0 h0_pages h0_steps h0_reason gl h0_wafer_r h0_codes_r ce sk h0_height fb fs ff fl h0_frameCount lb lh h0_labelCount h0_at sk csk gsk) sz)) (va_A (wz_17 h0 h0_pages h0_steps h0_reason gl h0_wafer_r h0_codes_r ce sk h0_height fb fs ff fl h0_frameCount lb lh h0_labelCount h0_at sk csk gsk) sz)) 0 0 (va_A (wz_17 h0 h0_pages h0_steps h0_reason gl h0_wafer_r h0_codes_r ce sk h0_height fb fs ff fl h0_frameCount lb lh h0_labelCount h0_at sk csk gsk) sz) := by
  refine Met.ofW (cc := b_MA_keepTop) (maxL := 5) (ret := none) (by decide) rfl ?_
  intro p e s m args below meth c s₁ B hml hv
  obtain ⟨rfl, hsz, hP, hK, hD0⟩ := hv
  have hx := B.exec
  have hb := B.bytes
  have hr := B.returns
  have hts0 := atoms_spec (ws := w_MA_keepTop) B.pre
  have hts : ∀ w ∈ lw_g, w.before _ s = true := fun w h => hts0 w (List.mem_cons_of_mem _ h)
  have hown : s.vm.findClass R_MA = some m.cls := findClass_of_methodNamed B.named
  have hlocks := B.notSynchronized
  clear hts0
  subst hsz
  have hD := hD0.self (sz := s.heap.size)
  generalize hAe : va_A (wz_17 h0 h0_pages h0_steps h0_reason gl h0_wafer_r h0_codes_r ce sk h0_height fb fs ff fl h0_frameCount lb lh h0_labelCount h0_at sk csk gsk) s.heap.size = A at hD ⊢
  have hA : ∀ q : Nat, s.heap.size ≤ q → A q := fun q h => by rw [← hAe]; exact Or.inr h
  clear hAe
  have hP : va_P (dC, dI) cls (wz_17 h0 h0_pages h0_steps h0_reason gl h0_wafer_r h0_codes_r ce sk h0_height fb fs ff fl h0_frameCount lb lh h0_labelCount h0_at sk csk gsk) s.heap := hP
  have hl := lv_entry ([.ref h0, .int p0, .int p1]) (n := 5) (Nat.le_of_ble_eq_true rfl)
  rw [lg_entry_eq]
  generalize (lg_sl ([.ref h0, .int p0, .int p1]) ++ List.replicate (5 - (lg_sl ([.ref h0, .int p0, .int p1])).length) Slot.unset).toArray = ls at hl ⊢
  have hl : lv_has ls 5 [(0, .ref h0), (1, .int p0), (2, .int p1)] := hl
  have k0 : (0 : Int32).toInt = 0 := by decide
  refine w_gen (A := A) hP (fun H locs hP hS => ?_)
  have lo_p0 := i32_lo p0
  have hi_p0 := i32_hi p0
  have lo_p1 := i32_lo p1
  have hi_p1 := i32_hi p1
  have tp1 := b01 ba1
  refine lv_iload_n hx hb d_MA_keepTop_0 rfl (lv_at hl 2 rfl) ?_
  refine w_cut (pc2 := 12) (σ := Int64 × Int32) (fun u H locs ls => match u with | (j12_s0, j12_h0_height) => (0 ≤ j12_h0_height.toInt ∧ j12_h0_height.toInt ≤ 12096) ∧ va_P (dC, dI) cls (wz_17 h0 h0_pages h0_steps h0_reason gl h0_wafer_r h0_codes_r ce sk j12_h0_height fb fs ff fl h0_frameCount lb lh h0_labelCount h0_at sk csk gsk) H ∧ va_D A (wz_17 h0 h0_pages h0_steps h0_reason gl h0_wafer_r h0_codes_r ce sk j12_h0_height fb fs ff fl h0_frameCount lb lh h0_labelCount h0_at sk csk gsk) ∧ va_S A s.heap H locs ∧ lv_has ls 5 [(0, .ref h0), (1, .int p0), (2, .int p1)]) (fun u => match u with | (j12_s0, j12_h0_height) => [.long j12_s0]) ?_ (fun jn12 => ?_)
  · intro u H locs ls hI
    obtain ⟨j12_s0, j12_h0_height⟩ := u
    obtain ⟨b_j12_h0_height, hP, hD, hS, hl⟩ := hI
    refine lv_lstore_n (lv' := [(3, .long j12_s0), (0, .ref h0), (1, .int p0), (2, .int p1)]) hx hb d_MA_keepTop_12 rfl hl (by decide) rfl (fun ls hl => ?_)
    refine lv_aload_n hx hb d_MA_keepTop_13 rfl (lv_at hl 1 rfl) ?_
    refine lv_iload_n hx hb d_MA_keepTop_14 rfl (lv_at hl 2 rfl) ?_
    refine va_put (D := (dC, dI)) (ci := 4) (v := .int p0) (ty := .int) (C := R_MA) (T := F_MA) (N := 18) hx hb hts i_MA t_MA t_MA_ok n_MA hown hK hP hD hS 0 rfl rfl 8 (by decide) (hts _ kF_MA_77) (fun _ h9 => h9) rfl (by decide +kernel) rfl rfl (Nat.le_of_ble_eq_true rfl) d_MA_keepTop_15 (fun H locs hP hD hS => ?_)
    refine lv_iload_n hx hb d_MA_keepTop_18 rfl (lv_at hl 3 rfl) ?_
    refine lv_if_eq (tgt := 27) hx hb d_MA_keepTop_19 (by decide) (fun c19 => ?_) (fun c19 => ?_)
    · have q19 := eqI c19
      have hP9 := hP.sb (wq := (wz_17 h0 h0_pages h0_steps h0_reason gl h0_wafer_r h0_codes_r ce sk p0 fb fs ff fl h0_frameCount lb lh h0_labelCount h0_at sk csk gsk)) [0, 1] rfl
      have hD9 := hD.sb (wq := (wz_17 h0 h0_pages h0_steps h0_reason gl h0_wafer_r h0_codes_r ce sk p0 fb fs ff fl h0_frameCount lb lh h0_labelCount h0_at sk csk gsk)) [0, 1] (by decide) rfl
      exact W.vret hx hb hr (fun t ht hW => ⟨⟨(gsk, p0, h0_reason), rfl, ⟨ba0, b_h0_reason, by (try dsimp only); (first | (apply Int.le_antisymm <;> omega) | omega)⟩, va_P.he ht.symm hP9, va_K.moved hW.alike hK, hD9⟩, hS.F ht⟩) hS.2.2 d_MA_keepTop_27
    · have q19 := neI c19
      refine lv_aload_n hx hb d_MA_keepTop_22 rfl (lv_at hl 1 rfl) ?_
      refine lv_lload_n hx hb d_MA_keepTop_23 rfl (lv_at hl 0 rfl) ?_
      have hPc := hP.sb (wq := (wz_17 h0 h0_pages h0_steps h0_reason gl h0_wafer_r h0_codes_r ce sk p0 fb fs ff fl h0_frameCount lb lh h0_labelCount h0_at sk csk gsk)) [0, 1] rfl
      have hDc := hD.sb (wq := (wz_17 h0 h0_pages h0_steps h0_reason gl h0_wafer_r h0_codes_r ce sk p0 fb fs ff fl h0_frameCount lb lh h0_labelCount h0_at sk csk gsk)) [0, 1] (by decide) rfl
      have hKc := hK.sb (tyq := [(csk, .long)]) [0] rfl
      have hFc := va_free (wc := (wz_17 h0 h0_pages h0_steps h0_reason gl h0_wafer_r h0_codes_r ce sk p0 fb fs ff fl h0_frameCount lb lh h0_labelCount h0_at sk csk gsk)) hD hS hA [0, 1] rfl
      refine va_callv (va_runV (As := [.long j12_s0]) (rest := []) ⟨hx, hb, hml, hown, hts⟩ (c_MA_push l dC dI H.size h0 gl h0_wafer_r h0_codes_r ce sk fb fs ff fl lb lh csk h0_pages h0_steps h0_reason p0 h0_frameCount h0_labelCount h0_at gsk (b_h0_reason) (ba0) j12_s0) (cwV 1 hts (gV kM_MA_94 kV_MA_push kS_MA_push kI_MA kC_MA_push) rfl rfl rfl (by decide +kernel) ⟨Nat.le_of_ble_eq_true rfl, Nat.le_of_ble_eq_true rfl⟩) ⟨fun a U g mk z => by obtain ⟨z0, z1, zP, zK, zD⟩ := z; exact ⟨z0, z1, zP, va_K.moved (u := U) (U := U.calling g mk a) (Vm.Alike.refl U.vm) zK, zD⟩, va_recv hKc hPc (ci := 4) (q0 := 0) rfl rfl, fun U hU hW => ⟨rfl, by rw [hU], va_P.he hU.symm hPc, va_K.moved hW.alike hKc, hDc.weaken (fun _ _ _ _ => trivial)⟩⟩ rfl rfl hl.1 rfl (lv_room (Nat.le_of_ble_eq_true rfl)) d_MA_keepTop_24 ⟨(Nat.zero_le _), (Nat.zero_le _)⟩) hS (fun q _ h => hFc q h) hFc (fun u t H1 locs ht hvm hw hB hz1 hk1 hS => ?_)
      obtain ⟨n2, n3, n4⟩ := u
      try dsimp only at hw
      obtain ⟨bn3, bn4, xr1⟩ := hw
      try clear hw
      obtain ⟨hP1, hK1, hD1⟩ := hB
      replace hP1 := va_P.he ht hP1
      obtain ⟨hP, hD⟩ := va_join (wr := []) (w1 := (wz_17 h0 h0_pages h0_steps n4 gl h0_wafer_r h0_codes_r ce sk n3 fb fs ff fl h0_frameCount lb lh h0_labelCount h0_at sk csk n2)) hP hD [0, 1] [] rfl rfl (by decide) (by decide) hk1 hFc hP1 hD1
      clear hPc hDc hKc hFc hz1 hk1 hP1 hK1 hD1
      rename Heap => H
      have hP : va_P (dC, dI) cls (wz_17 h0 h0_pages h0_steps n4 gl h0_wafer_r h0_codes_r ce sk n3 fb fs ff fl h0_frameCount lb lh h0_labelCount h0_at sk csk n2) H := hP
      have hD : va_D A (wz_17 h0 h0_pages h0_steps n4 gl h0_wafer_r h0_codes_r ce sk n3 fb fs ff fl h0_frameCount lb lh h0_labelCount h0_at sk csk n2) := hD
      have hP9 := hP.sb (wq := (wz_17 h0 h0_pages h0_steps n4 gl h0_wafer_r h0_codes_r ce sk n3 fb fs ff fl h0_frameCount lb lh h0_labelCount h0_at sk csk n2)) [0, 1] rfl
      have hD9 := hD.sb (wq := (wz_17 h0 h0_pages h0_steps n4 gl h0_wafer_r h0_codes_r ce sk n3 fb fs ff fl h0_frameCount lb lh h0_labelCount h0_at sk csk n2)) [0, 1] (by decide) rfl
      exact W.vret hx hb hr (fun t ht hW => ⟨⟨(n2, n3, n4), rfl, ⟨bn3, bn4, by (try dsimp only); (first | (apply Int.le_antisymm <;> omega) | omega)⟩, va_P.he ht.symm hP9, va_K.moved hW.alike hK, hD9⟩, hS.F ht⟩) hS.2.2 d_MA_keepTop_27
  · skip
    refine lv_if_eq (tgt := 11) hx hb d_MA_keepTop_1 (by decide) (fun c1 => ?_) (fun c1 => ?_)
    · have q1 := eqI c1
      refine lv_lconst (v := 0) hx hb d_MA_keepTop_11 (by decide) ?_
      have kl0 : (0 : Int64).toInt = 0 := by decide
      exact jn12 (0, h0_height) _ _ _ ⟨b_h0_height, hP, hD, hS, lv_sub hl [0, 1, 2] rfl⟩
    · have q1 := neI c1
      refine lv_aload_n hx hb d_MA_keepTop_4 rfl (lv_at hl 0 rfl) ?_
      have hPc := hP.sb (wq := (wz_17 h0 h0_pages h0_steps h0_reason gl h0_wafer_r h0_codes_r ce sk h0_height fb fs ff fl h0_frameCount lb lh h0_labelCount h0_at sk csk gsk)) [0, 1] rfl
      have hDc := hD.sb (wq := (wz_17 h0 h0_pages h0_steps h0_reason gl h0_wafer_r h0_codes_r ce sk h0_height fb fs ff fl h0_frameCount lb lh h0_labelCount h0_at sk csk gsk)) [0, 1] (by decide) rfl
      have hKc := hK.sb (tyq := [(csk, .long)]) [0] rfl
      have hFc := va_free (wc := (wz_17 h0 h0_pages h0_steps h0_reason gl h0_wafer_r h0_codes_r ce sk h0_height fb fs ff fl h0_frameCount lb lh h0_labelCount h0_at sk csk gsk)) hD hS hA [0, 1] rfl
      refine va_calll (va_runV (As := []) (rest := []) ⟨hx, hb, hml, hown, hts⟩ (c_MA_pop l dC dI H.size h0 gl h0_wafer_r h0_codes_r ce sk fb fs ff fl lb lh csk h0_pages h0_steps h0_reason h0_height h0_frameCount h0_labelCount h0_at gsk (b_h0_height)) (cwV 0 hts (gV kM_MA_142 kV_MA_pop kS_MA_pop kI_MA kC_MA_pop) rfl rfl rfl (by decide +kernel) ⟨Nat.le_of_ble_eq_true rfl, Nat.le_of_ble_eq_true rfl⟩) ⟨fun a U g mk z => by obtain ⟨z0, z1, zP, zK, zD⟩ := z; exact ⟨z0, z1, zP, va_K.moved (u := U) (U := U.calling g mk a) (Vm.Alike.refl U.vm) zK, zD⟩, va_recv hKc hPc (ci := 4) (q0 := 0) rfl rfl, fun U hU hW => ⟨rfl, by rw [hU], va_P.he hU.symm hPc, va_K.moved hW.alike hKc, hDc.weaken (fun _ _ _ _ => trivial)⟩⟩ rfl rfl hl.1 rfl (lv_room (Nat.le_of_ble_eq_true rfl)) d_MA_keepTop_5 ⟨(Nat.zero_le _), (Nat.zero_le _)⟩) hS (fun q _ h => hFc q h) hFc (fun r5 u t H1 locs ht hvm hw hB hz1 hk1 hS => ?_)
      obtain ⟨n6, rfl⟩ : ∃ z, z = u := ⟨_, rfl⟩
      try dsimp only at hw
      obtain ⟨bn6, xr5⟩ := hw
      try clear hw
      obtain ⟨hP1, hK1, hD1⟩ := hB
      replace hP1 := va_P.he ht hP1
      obtain ⟨hP, hD⟩ := va_join (wr := []) (w1 := (wz_17 h0 h0_pages h0_steps h0_reason gl h0_wafer_r h0_codes_r ce sk n6 fb fs ff fl h0_frameCount lb lh h0_labelCount h0_at sk csk gsk)) hP hD [0, 1] [] rfl rfl (by decide) (by decide) hk1 hFc hP1 hD1
      clear hPc hDc hKc hFc hz1 hk1 hP1 hK1 hD1
      rename Heap => H
      have hP : va_P (dC, dI) cls (wz_17 h0 h0_pages h0_steps h0_reason gl h0_wafer_r h0_codes_r ce sk n6 fb fs ff fl h0_frameCount lb lh h0_labelCount h0_at sk csk gsk) H := hP
      have hD : va_D A (wz_17 h0 h0_pages h0_steps h0_reason gl h0_wafer_r h0_codes_r ce sk n6 fb fs ff fl h0_frameCount lb lh h0_labelCount h0_at sk csk gsk) := hD
      refine lv_goto (tgt := 12) hx hb d_MA_keepTop_8 (by decide) ?_
      exact jn12 (r5, n6) _ _ _ ⟨bn6, hP, hD, hS, lv_sub hl [0, 1, 2] rfl⟩
abbrev b_MA_enterBlock : ByteArray := prog_6_method_8_code
def y_MA_enterBlock : MethodName := ⟨R_MA, "enterBlock", "(I)V"⟩
abbrev w_MA_enterBlock : List Cond := .code y_MA_enterBlock b_MA_enterBlock 2 none :: lw_g
theorem kC_MA_enterBlock : Cond.code y_MA_enterBlock b_MA_enterBlock 2 none ∈ lw_g := in_c7 138 rfl rfl
theorem d_MA_enterBlock_0 : decode b_MA_enterBlock 0 = .ok (.aload_n 0, 1) := bz_c42 (by decide +kernel)
theorem d_MA_enterBlock_1 : decode b_MA_enterBlock 1 = .ok (.getfield 83, 3) := bz_c180 (by decide +kernel)
theorem d_MA_enterBlock_4 : decode b_MA_enterBlock 4 = .ok (.aload_n 0, 1) := bz_c42 (by decide +kernel)
theorem d_MA_enterBlock_5 : decode b_MA_enterBlock 5 = .ok (.getfield 34, 3) := bz_c180 (by decide +kernel)
theorem d_MA_enterBlock_8 : decode b_MA_enterBlock 8 = .ok (.arraylength, 1) := bz_c190 (by decide +kernel)
theorem d_MA_enterBlock_9 : decode b_MA_enterBlock 9 = .ok (.if_icmp .ge 36, 3) := bz_c162 (by decide +kernel)
theorem d_MA_enterBlock_12 : decode b_MA_enterBlock 12 = .ok (.aload_n 0, 1) := bz_c42 (by decide +kernel)
theorem d_MA_enterBlock_13 : decode b_MA_enterBlock 13 = .ok (.getfield 34, 3) := bz_c180 (by decide +kernel)
theorem d_MA_enterBlock_16 : decode b_MA_enterBlock 16 = .ok (.aload_n 0, 1) := bz_c42 (by decide +kernel)
theorem d_MA_enterBlock_17 : decode b_MA_enterBlock 17 = .ok (.getfield 83, 3) := bz_c180 (by decide +kernel)
theorem d_MA_enterBlock_20 : decode b_MA_enterBlock 20 = .ok (.iload_n 1, 1) := bz_c27 (by decide +kernel)
theorem d_MA_enterBlock_21 : decode b_MA_enterBlock 21 = .ok (.iastore, 1) := bz_c79 (by decide +kernel)
theorem d_MA_enterBlock_22 : decode b_MA_enterBlock 22 = .ok (.aload_n 0, 1) := bz_c42 (by decide +kernel)
theorem d_MA_enterBlock_23 : decode b_MA_enterBlock 23 = .ok (.getfield 37, 3) := bz_c180 (by decide +kernel)
theorem d_MA_enterBlock_26 : decode b_MA_enterBlock 26 = .ok (.aload_n 0, 1) := bz_c42 (by decide +kernel)
theorem d_MA_enterBlock_27 : decode b_MA_enterBlock 27 = .ok (.getfield 83, 3) := bz_c180 (by decide +kernel)
theorem d_MA_enterBlock_30 : decode b_MA_enterBlock 30 = .ok (.aload_n 0, 1) := bz_c42 (by decide +kernel)
theorem d_MA_enterBlock_31 : decode b_MA_enterBlock 31 = .ok (.getfield 77, 3) := bz_c180 (by decide +kernel)
theorem d_MA_enterBlock_34 : decode b_MA_enterBlock 34 = .ok (.iastore, 1) := bz_c79 (by decide +kernel)
theorem d_MA_enterBlock_35 : decode b_MA_enterBlock 35 = .ok (.aload_n 0, 1) := bz_c42 (by decide +kernel)
theorem d_MA_enterBlock_36 : decode b_MA_enterBlock 36 = .ok (.dup, 1) := bz_c89 (by decide +kernel)
theorem d_MA_enterBlock_37 : decode b_MA_enterBlock 37 = .ok (.getfield 83, 3) := bz_c180 (by decide +kernel)
theorem d_MA_enterBlock_40 : decode b_MA_enterBlock 40 = .ok (.iconst 1, 1) := bz_c4 (by decide +kernel)
theorem d_MA_enterBlock_41 : decode b_MA_enterBlock 41 = .ok (.iadd, 1) := bz_c96 (by decide +kernel)
theorem d_MA_enterBlock_42 : decode b_MA_enterBlock 42 = .ok (.putfield 83, 3) := bz_c181 (by decide +kernel)
theorem d_MA_enterBlock_45 : decode b_MA_enterBlock 45 = .ok (.return_, 1) := bz_c177 (by decide +kernel)
theorem kF_MA_83 : Cond.fieldLink R_MA 83 "WaferForge$Machine" "labelCount" "I" ∈ lw_g := in_c3 77 rfl rfl
theorem kF_MA_34 : Cond.fieldLink R_MA 34 "WaferForge$Machine" "labelBlocks" "[I" ∈ lw_g := in_c3 75 rfl rfl
theorem kF_MA_37 : Cond.fieldLink R_MA 37 "WaferForge$Machine" "labelHeights" "[I" ∈ lw_g := in_c3 76 rfl rfl
abbrev at_MA_enterBlock (dC : Nat → ClassId) (dI : Nat → Nat → Nat) (h0 gl h0_wafer_r h0_codes_r ce sk fb fs ff fl lb lh : Nat) (clb clh : ClassId) (h0_pages : Int32) (h0_steps : Int32) (h0_reason : Int32) (h0_height : Int32) (h0_frameCount : Int32) (h0_at : Int32) (A : Nat → Prop) (u : (Nat → Int32) × (Nat → Int32) × Int32) (t : State) : Prop := match u with | (glb, glh, h0_labelCount) => va_P (dC, dI) cls (wz_18 h0 h0_pages h0_steps h0_reason gl h0_wafer_r h0_codes_r ce sk h0_height fb fs ff fl h0_frameCount lb lh h0_labelCount h0_at lb clb glb lh clh glh) t.heap ∧ va_K (dC, dI) cls [(clb, .int), (clh, .int)] t ∧ va_D A (wz_18 h0 h0_pages h0_steps h0_reason gl h0_wafer_r h0_codes_r ce sk h0_height fb fs ff fl h0_frameCount lb lh h0_labelCount h0_at lb clb glb lh clh glh)
set_option maxHeartbeats 4000000 in
set_option maxRecDepth 100000 in
theorem c_MA_enterBlock (l : Launch) (dC : Nat → ClassId) (dI : Nat → Nat → Nat) (sz : Nat) (h0 gl h0_wafer_r h0_codes_r ce sk fb fs ff fl lb lh : Nat) (clb clh : ClassId) (h0_pages : Int32) (h0_steps : Int32) (h0_reason : Int32) (h0_height : Int32) (h0_frameCount : Int32) (h0_labelCount : Int32) (h0_at : Int32) (glb : Nat → Int32) (glh : Nat → Int32)  (b_h0_height : 0 ≤ h0_height.toInt ∧ h0_height.toInt ≤ 12096) (b_h0_labelCount : 0 ≤ h0_labelCount.toInt ∧ h0_labelCount.toInt ≤ 10000) (p0 : Int32)   : Met l y_MA_enterBlock w_MA_enterBlock ({ frames := 0, cells := 0, slots := 0, locals := 0 }) (va_Pc [.ref h0, .int p0] (fun U => U.heap.size = sz ∧ va_P (dC, dI) cls (wz_18 h0 h0_pages h0_steps h0_reason gl h0_wafer_r h0_codes_r ce sk h0_height fb fs ff fl h0_frameCount lb lh h0_labelCount h0_at lb clb glb lh clh glh) U.heap ∧ va_K (dC, dI) cls [(clb, .int), (clh, .int)] U ∧ va_D (fun _ => True) (wz_18 h0 h0_pages h0_steps h0_reason gl h0_wafer_r h0_codes_r ce sk h0_height fb fs ff fl h0_frameCount lb lh h0_labelCount h0_at lb clb glb lh clh glh))) (va_Qv (fun (u : (Nat → Int32) × (Nat → Int32) × Int32) => match u with | (glb2, glh2, h0_labelCount2) => (0 ≤ h0_labelCount2.toInt ∧ h0_labelCount2.toInt ≤ 10000) ∧ ((h0_labelCount2.toInt = h0_labelCount.toInt + 1 ∧ glb2 = upd glb h0_labelCount.toNatClampNeg p0 ∧ glh2 = upd glh h0_labelCount.toNatClampNeg h0_height) ∨ (h0_labelCount.toInt = 10000 ∧ h0_labelCount2.toInt = h0_labelCount.toInt ∧ glb2 = glb ∧ glh2 = glh))) (at_MA_enterBlock dC dI h0 gl h0_wafer_r h0_codes_r ce sk fb fs ff fl lb lh clb clh h0_pages h0_steps h0_reason h0_height h0_frameCount h0_at (va_A (wz_18 h0 h0_pages h0_steps h0_reason gl h0_wafer_r h0_codes_r ce sk h0_height fb fs ff fl h0_frameCount lb lh h0_labelCount h0_at lb clb glb lh clh glh) sz)) (va_A (wz_18 h0 h0_pages h0_steps h0_reason gl h0_wafer_r h0_codes_r ce sk h0_height fb fs ff fl h0_frameCount lb lh h0_labelCount h0_at lb clb glb lh clh glh) sz)) 0 0 (va_A (wz_18 h0 h0_pages h0_steps h0_reason gl h0_wafer_r h0_codes_r ce sk h0_height fb fs ff fl h0_frameCount lb lh h0_labelCount h0_at lb clb glb lh clh glh) sz) := by
  refine Met.ofW (cc := b_MA_enterBlock) (maxL := 2) (ret := none) (by decide) rfl ?_
  intro p e s m args below meth c s₁ B hml hv
  obtain ⟨rfl, hsz, hP, hK, hD0⟩ := hv
  have hx := B.exec
  have hb := B.bytes
  have hr := B.returns
  have hts0 := atoms_spec (ws := w_MA_enterBlock) B.pre
  have hts : ∀ w ∈ lw_g, w.before _ s = true := fun w h => hts0 w (List.mem_cons_of_mem _ h)
  have hown : s.vm.findClass R_MA = some m.cls := findClass_of_methodNamed B.named
  have hlocks := B.notSynchronized
  clear hts0
  subst hsz
  have hD := hD0.self (sz := s.heap.size)
  generalize hAe : va_A (wz_18 h0 h0_pages h0_steps h0_reason gl h0_wafer_r h0_codes_r ce sk h0_height fb fs ff fl h0_frameCount lb lh h0_labelCount h0_at lb clb glb lh clh glh) s.heap.size = A at hD ⊢
  have hA : ∀ q : Nat, s.heap.size ≤ q → A q := fun q h => by rw [← hAe]; exact Or.inr h
  clear hAe
  have hP : va_P (dC, dI) cls (wz_18 h0 h0_pages h0_steps h0_reason gl h0_wafer_r h0_codes_r ce sk h0_height fb fs ff fl h0_frameCount lb lh h0_labelCount h0_at lb clb glb lh clh glh) s.heap := hP
  have hl := lv_entry ([.ref h0, .int p0]) (n := 2) (Nat.le_of_ble_eq_true rfl)
  rw [lg_entry_eq]
  generalize (lg_sl ([.ref h0, .int p0]) ++ List.replicate (2 - (lg_sl ([.ref h0, .int p0])).length) Slot.unset).toArray = ls at hl ⊢
  have hl : lv_has ls 2 [(0, .ref h0), (1, .int p0)] := hl
  have k0 : (0 : Int32).toInt = 0 := by decide
  refine w_gen (A := A) hP (fun H locs hP hS => ?_)
  have k1 : (1 : Int32).toInt = 1 := by decide
  have lo_p0 := i32_lo p0
  have hi_p0 := i32_hi p0
  refine lv_aload_n hx hb d_MA_enterBlock_0 rfl (lv_at hl 0 rfl) ?_
  refine va_get (D := (dC, dI)) (ci := 4) (v := .int h0_labelCount) (C := R_MA) (T := F_MA) (N := 18) hx hb hts i_MA hown hK hP 0 rfl rfl 16 (by decide) (hts _ kF_MA_83) (fun _ h9 => h9) rfl d_MA_enterBlock_1 ?_
  refine lv_aload_n hx hb d_MA_enterBlock_4 rfl (lv_at hl 0 rfl) ?_
  refine va_get (D := (dC, dI)) (ci := 4) (v := .ref lb) (C := R_MA) (T := F_MA) (N := 18) hx hb hts i_MA hown hK hP 0 rfl rfl 14 (by decide) (hts _ kF_MA_34) (fun _ h9 => h9) rfl d_MA_enterBlock_5 ?_
  refine va_alen hx hb hK hP 1 0 rfl rfl rfl d_MA_enterBlock_8 ?_
  refine lv_topi (fun x1 ex1 => ?_)
  have tx1 : x1.toInt = 10000 := by rw [ex1]; exact i32_len (by (first | (apply Int.le_antisymm <;> omega) | omega))
  refine lv_icmp_ge (tgt := 45) hx hb d_MA_enterBlock_9 (by decide) (fun c9 => ?_) (fun c9 => ?_)
  · have q9 := leI c9
    have hP9 := hP.sb (wq := (wz_18 h0 h0_pages h0_steps h0_reason gl h0_wafer_r h0_codes_r ce sk h0_height fb fs ff fl h0_frameCount lb lh h0_labelCount h0_at lb clb glb lh clh glh)) [0, 1, 2] rfl
    have hD9 := hD.sb (wq := (wz_18 h0 h0_pages h0_steps h0_reason gl h0_wafer_r h0_codes_r ce sk h0_height fb fs ff fl h0_frameCount lb lh h0_labelCount h0_at lb clb glb lh clh glh)) [0, 1, 2] (by decide) rfl
    exact W.vret hx hb hr (fun t ht hW => ⟨⟨(glb, glh, h0_labelCount), rfl, ⟨b_h0_labelCount, Or.inr ⟨by (first | (apply Int.le_antisymm <;> omega) | omega), rfl, rfl, rfl⟩⟩, va_P.he ht.symm hP9, va_K.moved hW.alike hK, hD9⟩, hS.F ht⟩) hS.2.2 d_MA_enterBlock_45
  · have q9 := nleI c9
    refine lv_aload_n hx hb d_MA_enterBlock_12 rfl (lv_at hl 0 rfl) ?_
    refine va_get (D := (dC, dI)) (ci := 4) (v := .ref lb) (C := R_MA) (T := F_MA) (N := 18) hx hb hts i_MA hown hK hP 0 rfl rfl 14 (by decide) (hts _ kF_MA_34) (fun _ h9 => h9) rfl d_MA_enterBlock_13 ?_
    refine lv_aload_n hx hb d_MA_enterBlock_16 rfl (lv_at hl 0 rfl) ?_
    refine va_get (D := (dC, dI)) (ci := 4) (v := .int h0_labelCount) (C := R_MA) (T := F_MA) (N := 18) hx hb hts i_MA hown hK hP 0 rfl rfl 16 (by decide) (hts _ kF_MA_83) (fun _ h9 => h9) rfl d_MA_enterBlock_17 ?_
    refine lv_iload_n hx hb d_MA_enterBlock_20 rfl (lv_at hl 1 rfl) ?_
    have g21 : vp_in h0_labelCount 10000 := vp_in_iff.mpr ⟨by (first | (apply Int.le_antisymm <;> omega) | omega), by (first | (apply Int.le_antisymm <;> omega) | omega)⟩
    refine va_iast hx hb hK hP hD hS 1 0 rfl rfl g21 d_MA_enterBlock_21 (fun H locs hP hD hS => ?_)
    generalize ef2 : upd glb h0_labelCount.toNatClampNeg p0 = f2 at hP hD
    refine lv_aload_n hx hb d_MA_enterBlock_22 rfl (lv_at hl 0 rfl) ?_
    refine va_get (D := (dC, dI)) (ci := 4) (v := .ref lh) (C := R_MA) (T := F_MA) (N := 18) hx hb hts i_MA hown hK hP 0 rfl rfl 15 (by decide) (hts _ kF_MA_37) (fun _ h9 => h9) rfl d_MA_enterBlock_23 ?_
    refine lv_aload_n hx hb d_MA_enterBlock_26 rfl (lv_at hl 0 rfl) ?_
    refine va_get (D := (dC, dI)) (ci := 4) (v := .int h0_labelCount) (C := R_MA) (T := F_MA) (N := 18) hx hb hts i_MA hown hK hP 0 rfl rfl 16 (by decide) (hts _ kF_MA_83) (fun _ h9 => h9) rfl d_MA_enterBlock_27 ?_
    refine lv_aload_n hx hb d_MA_enterBlock_30 rfl (lv_at hl 0 rfl) ?_
    refine va_get (D := (dC, dI)) (ci := 4) (v := .int h0_height) (C := R_MA) (T := F_MA) (N := 18) hx hb hts i_MA hown hK hP 0 rfl rfl 8 (by decide) (hts _ kF_MA_77) (fun _ h9 => h9) rfl d_MA_enterBlock_31 ?_
    have g34 : vp_in h0_labelCount 10000 := vp_in_iff.mpr ⟨by (first | (apply Int.le_antisymm <;> omega) | omega), by (first | (apply Int.le_antisymm <;> omega) | omega)⟩
    refine va_iast hx hb hK hP hD hS 2 1 rfl rfl g34 d_MA_enterBlock_34 (fun H locs hP hD hS => ?_)
    generalize ef3 : upd glh h0_labelCount.toNatClampNeg h0_height = f3 at hP hD
    refine lv_aload_n hx hb d_MA_enterBlock_35 rfl (lv_at hl 0 rfl) ?_
    refine lv_dup hx hb d_MA_enterBlock_36 rfl ?_
    refine va_get (D := (dC, dI)) (ci := 4) (v := .int h0_labelCount) (C := R_MA) (T := F_MA) (N := 18) hx hb hts i_MA hown hK hP 0 rfl rfl 16 (by decide) (hts _ kF_MA_83) (fun _ h9 => h9) rfl d_MA_enterBlock_37 ?_
    refine lv_iconst (v := 1) hx hb d_MA_enterBlock_40 (by decide) ?_
    refine lv_iadd hx hb d_MA_enterBlock_41 ?_
    refine lv_topi (fun x4 ex4 => ?_)
    have tx4 : x4.toInt = h0_labelCount.toInt + 1 := by have z := i32_add ex4 (by (first | (apply Int.le_antisymm <;> omega) | omega)) (by (first | (apply Int.le_antisymm <;> omega) | omega)); first | exact z | (first | (apply Int.le_antisymm <;> omega) | omega)
    refine va_put (D := (dC, dI)) (ci := 4) (v := .int x4) (ty := .int) (C := R_MA) (T := F_MA) (N := 18) hx hb hts i_MA t_MA t_MA_ok n_MA hown hK hP hD hS 0 rfl rfl 16 (by decide) (hts _ kF_MA_83) (fun _ h9 => h9) rfl (by decide +kernel) rfl rfl (Nat.le_of_ble_eq_true rfl) d_MA_enterBlock_42 (fun H locs hP hD hS => ?_)
    have hP9 := hP.sb (wq := (wz_18 h0 h0_pages h0_steps h0_reason gl h0_wafer_r h0_codes_r ce sk h0_height fb fs ff fl h0_frameCount lb lh x4 h0_at lb clb f2 lh clh f3)) [0, 1, 2] rfl
    have hD9 := hD.sb (wq := (wz_18 h0 h0_pages h0_steps h0_reason gl h0_wafer_r h0_codes_r ce sk h0_height fb fs ff fl h0_frameCount lb lh x4 h0_at lb clb f2 lh clh f3)) [0, 1, 2] (by decide) rfl
    exact W.vret hx hb hr (fun t ht hW => ⟨⟨(f2, f3, x4), rfl, ⟨by (try dsimp only); (first | (apply Int.le_antisymm <;> omega) | omega), Or.inl ⟨by (first | (apply Int.le_antisymm <;> omega) | omega), by (try dsimp only) <;> exact ef2.symm, by (try dsimp only) <;> exact ef3.symm⟩⟩, va_P.he ht.symm hP9, va_K.moved hW.alike hK, hD9⟩, hS.F ht⟩) hS.2.2 d_MA_enterBlock_45
theorem i64_and32 (x : Int64) : 0 ≤ (x &&& 4294967295).toInt ∧ (x &&& 4294967295).toInt ≤ 4294967295 := by
  have h : (x &&& 4294967295).toBitVec.toNat ≤ 4294967295 := by
    rw [Int64.toBitVec_and, BitVec.toNat_and]
    exact Nat.and_le_right
  have e : (x &&& 4294967295).toInt = ((x &&& 4294967295).toBitVec.toNat : Int) := by
    show BitVec.toInt _ = _
    exact BitVec.toInt_eq_toNat_of_lt (by (first | (apply Int.le_antisymm <;> omega) | omega))
  (first | (apply Int.le_antisymm <;> omega) | omega)
theorem nz64 {x : Int64} (h : x.toInt ≠ 0) : ¬ x = 0 := fun z => h (by rw [z]; decide)
abbrev b_MA_ofOne : ByteArray := prog_6_method_19_code
def y_MA_ofOne : MethodName := ⟨R_MA, "ofOne", "(IJ)J"⟩
abbrev w_MA_ofOne : List Cond := .code y_MA_ofOne b_MA_ofOne 3 (Option.some .long) :: lw_g
theorem kC_MA_ofOne : Cond.code y_MA_ofOne b_MA_ofOne 3 (Option.some .long) ∈ lw_g := in_c7 185 rfl rfl
theorem d_MA_ofOne_0 : decode b_MA_ofOne 0 = .ok (.iload_n 0, 1) := bz_c26 (by decide +kernel)
theorem d_MA_ofOne_1 : decode b_MA_ofOne 1 = .ok (.lookupswitch 140 #[(69, 83), (80, 83), (103, 95), (104, 102), (105, 109), (121, 116), (122, 122), (123, 128), (173, 134)], 83) := by decide +kernel
theorem d_MA_ofOne_84 : decode b_MA_ofOne 84 = .ok (.lload_n 1, 1) := bz_c31 (by decide +kernel)
theorem d_MA_ofOne_85 : decode b_MA_ofOne 85 = .ok (.lconst 0, 1) := bz_c9 (by decide +kernel)
theorem d_MA_ofOne_86 : decode b_MA_ofOne 86 = .ok (.lcmp, 1) := bz_c148 (by decide +kernel)
theorem d_MA_ofOne_87 : decode b_MA_ofOne 87 = .ok (.ifCond .ne 7, 3) := bz_c154 (by decide +kernel)
theorem d_MA_ofOne_90 : decode b_MA_ofOne 90 = .ok (.lconst 1, 1) := bz_c10 (by decide +kernel)
theorem d_MA_ofOne_91 : decode b_MA_ofOne 91 = .ok (.goto 4, 3) := bz_c167 (by decide +kernel)
theorem d_MA_ofOne_94 : decode b_MA_ofOne 94 = .ok (.lconst 0, 1) := bz_c9 (by decide +kernel)
theorem d_MA_ofOne_95 : decode b_MA_ofOne 95 = .ok (.lreturn, 1) := bz_c173 (by decide +kernel)
theorem d_MA_ofOne_96 : decode b_MA_ofOne 96 = .ok (.lload_n 1, 1) := bz_c31 (by decide +kernel)
theorem d_MA_ofOne_97 : decode b_MA_ofOne 97 = .ok (.l2i, 1) := bz_c136 (by decide +kernel)
theorem d_MA_ofOne_98 : decode b_MA_ofOne 98 = .ok (.invokestatic 225, 3) := bz_c184 (by decide +kernel)
theorem d_MA_ofOne_101 : decode b_MA_ofOne 101 = .ok (.i2l, 1) := bz_c133 (by decide +kernel)
theorem d_MA_ofOne_102 : decode b_MA_ofOne 102 = .ok (.lreturn, 1) := bz_c173 (by decide +kernel)
theorem d_MA_ofOne_103 : decode b_MA_ofOne 103 = .ok (.lload_n 1, 1) := bz_c31 (by decide +kernel)
theorem d_MA_ofOne_104 : decode b_MA_ofOne 104 = .ok (.l2i, 1) := bz_c136 (by decide +kernel)
theorem d_MA_ofOne_105 : decode b_MA_ofOne 105 = .ok (.invokestatic 230, 3) := bz_c184 (by decide +kernel)
theorem d_MA_ofOne_108 : decode b_MA_ofOne 108 = .ok (.i2l, 1) := bz_c133 (by decide +kernel)
theorem d_MA_ofOne_109 : decode b_MA_ofOne 109 = .ok (.lreturn, 1) := bz_c173 (by decide +kernel)
theorem d_MA_ofOne_110 : decode b_MA_ofOne 110 = .ok (.lload_n 1, 1) := bz_c31 (by decide +kernel)
theorem d_MA_ofOne_111 : decode b_MA_ofOne 111 = .ok (.l2i, 1) := bz_c136 (by decide +kernel)
theorem d_MA_ofOne_112 : decode b_MA_ofOne 112 = .ok (.invokestatic 233, 3) := bz_c184 (by decide +kernel)
theorem d_MA_ofOne_115 : decode b_MA_ofOne 115 = .ok (.i2l, 1) := bz_c133 (by decide +kernel)
theorem d_MA_ofOne_116 : decode b_MA_ofOne 116 = .ok (.lreturn, 1) := bz_c173 (by decide +kernel)
theorem d_MA_ofOne_117 : decode b_MA_ofOne 117 = .ok (.lload_n 1, 1) := bz_c31 (by decide +kernel)
theorem d_MA_ofOne_118 : decode b_MA_ofOne 118 = .ok (.invokestatic 236, 3) := bz_c184 (by decide +kernel)
theorem d_MA_ofOne_121 : decode b_MA_ofOne 121 = .ok (.i2l, 1) := bz_c133 (by decide +kernel)
theorem d_MA_ofOne_122 : decode b_MA_ofOne 122 = .ok (.lreturn, 1) := bz_c173 (by decide +kernel)
theorem d_MA_ofOne_123 : decode b_MA_ofOne 123 = .ok (.lload_n 1, 1) := bz_c31 (by decide +kernel)
theorem d_MA_ofOne_124 : decode b_MA_ofOne 124 = .ok (.invokestatic 241, 3) := bz_c184 (by decide +kernel)
theorem d_MA_ofOne_127 : decode b_MA_ofOne 127 = .ok (.i2l, 1) := bz_c133 (by decide +kernel)
theorem d_MA_ofOne_128 : decode b_MA_ofOne 128 = .ok (.lreturn, 1) := bz_c173 (by decide +kernel)
theorem d_MA_ofOne_129 : decode b_MA_ofOne 129 = .ok (.lload_n 1, 1) := bz_c31 (by decide +kernel)
theorem d_MA_ofOne_130 : decode b_MA_ofOne 130 = .ok (.invokestatic 243, 3) := bz_c184 (by decide +kernel)
theorem d_MA_ofOne_133 : decode b_MA_ofOne 133 = .ok (.i2l, 1) := bz_c133 (by decide +kernel)
theorem d_MA_ofOne_134 : decode b_MA_ofOne 134 = .ok (.lreturn, 1) := bz_c173 (by decide +kernel)
theorem d_MA_ofOne_135 : decode b_MA_ofOne 135 = .ok (.lload_n 1, 1) := bz_c31 (by decide +kernel)
theorem d_MA_ofOne_136 : decode b_MA_ofOne 136 = .ok (.ldc2_w 162, 3) := bz_c20 (by decide +kernel)
theorem d_MA_ofOne_139 : decode b_MA_ofOne 139 = .ok (.land, 1) := bz_c127 (by decide +kernel)
theorem d_MA_ofOne_140 : decode b_MA_ofOne 140 = .ok (.lreturn, 1) := bz_c173 (by decide +kernel)
theorem d_MA_ofOne_141 : decode b_MA_ofOne 141 = .ok (.lload_n 1, 1) := bz_c31 (by decide +kernel)
theorem d_MA_ofOne_142 : decode b_MA_ofOne 142 = .ok (.l2i, 1) := bz_c136 (by decide +kernel)
theorem d_MA_ofOne_143 : decode b_MA_ofOne 143 = .ok (.i2l, 1) := bz_c133 (by decide +kernel)
theorem d_MA_ofOne_144 : decode b_MA_ofOne 144 = .ok (.lreturn, 1) := bz_c173 (by decide +kernel)
theorem kM_MA_243 : Cond.methodLink R_MA 243 y_JL_bitCount ∈ lw_g := in_c7 204 rfl rfl
theorem kT_JL_bitCount : Cond.static y_JL_bitCount ∈ lw_g := in_c7 205 rfl rfl
theorem kM_MA_241 : Cond.methodLink R_MA 241 y_JL_numberOfTrailingZeros ∈ lw_g := in_c7 200 rfl rfl
theorem kT_JL_numberOfTrailingZeros : Cond.static y_JL_numberOfTrailingZeros ∈ lw_g := in_c7 201 rfl rfl
theorem kM_MA_236 : Cond.methodLink R_MA 236 y_JL_numberOfLeadingZeros ∈ lw_g := in_c7 196 rfl rfl
theorem kT_JL_numberOfLeadingZeros : Cond.static y_JL_numberOfLeadingZeros ∈ lw_g := in_c7 197 rfl rfl
theorem kM_MA_233 : Cond.methodLink R_MA 233 y_JI_bitCount ∈ lw_g := in_c7 190 rfl rfl
theorem kT_JI_bitCount : Cond.static y_JI_bitCount ∈ lw_g := in_c7 191 rfl rfl
theorem kM_MA_230 : Cond.methodLink R_MA 230 y_JI_numberOfTrailingZeros ∈ lw_g := in_c7 189 rfl rfl
theorem kM_MA_225 : Cond.methodLink R_MA 225 y_JI_numberOfLeadingZeros ∈ lw_g := in_c7 186 rfl rfl
theorem kL_MA_162 : Cond.constantLong R_MA 162 (4294967295) ∈ lw_g := in_c7 148 rfl rfl
abbrev at_MA_ofOne (dC : Nat → ClassId) (dI : Nat → Nat → Nat)  (A : Nat → Prop) (u : Unit) (t : State) : Prop := match u with | _ => va_P (dC, dI) cls [] t.heap ∧ va_K (dC, dI) cls [] t ∧ va_D A []
set_option maxHeartbeats 4000000 in
set_option maxRecDepth 100000 in
theorem c_MA_ofOne (l : Launch) (dC : Nat → ClassId) (dI : Nat → Nat → Nat) (sz : Nat)    (p0 : Int32) (p1 : Int64)   : Met l y_MA_ofOne w_MA_ofOne ({ frames := 2, cells := 0, slots := 0, locals := 43 }) (va_Pc [.int p0, .long p1] (fun U => U.heap.size = sz ∧ va_P (dC, dI) cls [] U.heap ∧ va_K (dC, dI) cls [] U ∧ va_D (fun _ => True) [])) (va_Ql (fun (r : Int64) (u : Unit) => match u with | _ => True) (at_MA_ofOne dC dI  (va_A [] sz)) (va_A [] sz)) 0 0 (va_A [] sz) := by
  refine Met.ofW (cc := b_MA_ofOne) (maxL := 3) (ret := (Option.some .long)) (by decide) rfl ?_
  intro p e s m args below meth c s₁ B hml hv
  obtain ⟨rfl, hsz, hP, hK, hD0⟩ := hv
  have hx := B.exec
  have hb := B.bytes
  have hr := B.returns
  have hts0 := atoms_spec (ws := w_MA_ofOne) B.pre
  have hts : ∀ w ∈ lw_g, w.before _ s = true := fun w h => hts0 w (List.mem_cons_of_mem _ h)
  have hown : s.vm.findClass R_MA = some m.cls := findClass_of_methodNamed B.named
  have hlocks := B.notSynchronized
  clear hts0
  subst hsz
  have hD := hD0.self (sz := s.heap.size)
  generalize hAe : va_A [] s.heap.size = A at hD ⊢
  have hA : ∀ q : Nat, s.heap.size ≤ q → A q := fun q h => by rw [← hAe]; exact Or.inr h
  clear hAe
  have hP : va_P (dC, dI) cls [] s.heap := hP
  have hl := lv_entry ([.int p0, .long p1]) (n := 3) (Nat.le_of_ble_eq_true rfl)
  rw [lg_entry_eq]
  generalize (lg_sl ([.int p0, .long p1]) ++ List.replicate (3 - (lg_sl ([.int p0, .long p1])).length) Slot.unset).toArray = ls at hl ⊢
  have hl : lv_has ls 3 [(0, .int p0), (1, .long p1)] := hl
  have k0 : (0 : Int32).toInt = 0 := by decide
  refine w_gen (A := A) hP (fun H locs hP hS => ?_)
  have lo_p0 := i32_lo p0
  have hi_p0 := i32_hi p0
  refine lv_iload_n hx hb d_MA_ofOne_0 rfl (lv_at hl 0 rfl) ?_
  by_cases g1_84 : p0.toInt = 69 ∨ p0.toInt = 80
  · have ho1 : Op.lookupswitch.offset [(69, 83), (80, 83), (103, 95), (104, 102), (105, 109), (121, 116), (122, 122), (123, 128), (173, 134)] 140 p0.toInt = 83 := by rcases g1_84 with z | z <;> (rw [z]; rfl)
    refine lv_lookup (tgt := 84) hx hb d_MA_ofOne_1 (by decide) ho1 (by decide) ?_
    clear ho1
    refine lv_lload_n hx hb d_MA_ofOne_84 rfl (lv_at hl 1 rfl) ?_
    refine lv_lconst (v := 0) hx hb d_MA_ofOne_85 (by decide) ?_
    have kl0 : (0 : Int64).toInt = 0 := by decide
    refine W.lcmp hx hb d_MA_ofOne_86 ?_
    refine lv_topi (fun x1 ex1 => ?_)
    have tx1 := lgc ex1
    refine lv_if_ne (tgt := 94) hx hb d_MA_ofOne_87 (by decide) (fun c87 => ?_) (fun c87 => ?_)
    · have q87 := neI c87
      refine lv_lconst (v := 0) hx hb d_MA_ofOne_94 (by decide) ?_
      have kl0 : (0 : Int64).toInt = 0 := by decide
      have hP9 := hP.sb (wq := []) [] rfl
      have hD9 := hD.sb (wq := []) [] (by decide) rfl
      exact W.lret (v := 0) hx hb hr (fun t ht hW => ⟨⟨0, (), rfl, ⟨⟩, va_P.he ht.symm hP9, va_K.moved hW.alike hK, hD9⟩, hS.F ht⟩) hS.2.2 d_MA_ofOne_95
    · have q87 := eqI c87
      refine lv_lconst (v := 1) hx hb d_MA_ofOne_90 (by decide) ?_
      have kl1 : (1 : Int64).toInt = 1 := by decide
      refine lv_goto (tgt := 95) hx hb d_MA_ofOne_91 (by decide) ?_
      have hP9 := hP.sb (wq := []) [] rfl
      have hD9 := hD.sb (wq := []) [] (by decide) rfl
      exact W.lret (v := 1) hx hb hr (fun t ht hW => ⟨⟨1, (), rfl, ⟨⟩, va_P.he ht.symm hP9, va_K.moved hW.alike hK, hD9⟩, hS.F ht⟩) hS.2.2 d_MA_ofOne_95
  · skip
    by_cases g1_96 : p0.toInt = 103
    · have ho1 : Op.lookupswitch.offset [(69, 83), (80, 83), (103, 95), (104, 102), (105, 109), (121, 116), (122, 122), (123, 128), (173, 134)] 140 p0.toInt = 95 := by rw [g1_96]; rfl
      refine lv_lookup (tgt := 96) hx hb d_MA_ofOne_1 (by decide) ho1 (by decide) ?_
      clear ho1
      refine lv_lload_n hx hb d_MA_ofOne_96 rfl (lv_at hl 1 rfl) ?_
      refine lv_l2i hx hb d_MA_ofOne_97 rfl ?_
      refine lv_topi (fun x2 ex2 => ?_)
      have hPc := hP.sb (wq := []) [] rfl
      have hDc := hD.sb (wq := []) [] (by decide) rfl
      have hKc := hK.sb (tyq := []) [] rfl
      have hFc := va_free (wc := []) hD hS hA [] rfl
      refine va_calli (va_runS (As := [.int x2]) (rest := []) ⟨hx, hb, hml, hown, hts⟩ (c_JI_numberOfLeadingZeros l dC dI H.size x2) ⟨callB_of 1 hts (gW kC_JI_numberOfLeadingZeros) rfl rfl rfl (hts _ kI_JI) (hts _ kM_MA_225) (by decide +kernel) ⟨Nat.le_of_ble_eq_true rfl, Nat.le_of_ble_eq_true rfl⟩, hts _ kT_JI_numberOfLeadingZeros⟩ ⟨fun a U g mk z => by obtain ⟨z0, z1, zP, zK, zD⟩ := z; exact ⟨z0, z1, zP, va_K.moved (u := U) (U := U.calling g mk a) (Vm.Alike.refl U.vm) zK, zD⟩, fun U hU hW => ⟨rfl, by rw [hU], va_P.he hU.symm hPc, va_K.moved hW.alike hKc, hDc.weaken (fun _ _ _ _ => trivial)⟩⟩ rfl rfl hl.1 rfl (lv_room (Nat.le_of_ble_eq_true rfl)) d_MA_ofOne_98 ⟨(Nat.zero_le _), (Nat.zero_le _)⟩) hS (fun q _ h => hFc q h) hFc (fun r3 u t H1 locs ht hvm hw hB hz1 hk1 hS => ?_)
      try dsimp only at hw
      try clear hw
      obtain ⟨hP1, hK1, hD1⟩ := hB
      replace hP1 := va_P.he ht hP1
      obtain ⟨hP, hD⟩ := va_join (wr := []) (w1 := []) hP hD [] [] rfl rfl (by decide) (by decide) hk1 hFc hP1 hD1
      clear hPc hDc hKc hFc hz1 hk1 hP1 hK1 hD1
      rename Heap => H
      have hP : va_P (dC, dI) cls [] H := hP
      have hD : va_D A [] := hD
      refine lv_i2l hx hb d_MA_ofOne_101 rfl ?_
      refine lv_topl (fun x4 ex4 => ?_)
      have tx4 := i2l_t ex4
      have hP9 := hP.sb (wq := []) [] rfl
      have hD9 := hD.sb (wq := []) [] (by decide) rfl
      exact W.lret (v := x4) hx hb hr (fun t ht hW => ⟨⟨x4, (), rfl, ⟨⟩, va_P.he ht.symm hP9, va_K.moved hW.alike hK, hD9⟩, hS.F ht⟩) hS.2.2 d_MA_ofOne_102
    · skip
      by_cases g1_103 : p0.toInt = 104
      · have ho1 : Op.lookupswitch.offset [(69, 83), (80, 83), (103, 95), (104, 102), (105, 109), (121, 116), (122, 122), (123, 128), (173, 134)] 140 p0.toInt = 102 := by rw [g1_103]; rfl
        refine lv_lookup (tgt := 103) hx hb d_MA_ofOne_1 (by decide) ho1 (by decide) ?_
        clear ho1
        refine lv_lload_n hx hb d_MA_ofOne_103 rfl (lv_at hl 1 rfl) ?_
        refine lv_l2i hx hb d_MA_ofOne_104 rfl ?_
        refine lv_topi (fun x5 ex5 => ?_)
        have hPc := hP.sb (wq := []) [] rfl
        have hDc := hD.sb (wq := []) [] (by decide) rfl
        have hKc := hK.sb (tyq := []) [] rfl
        have hFc := va_free (wc := []) hD hS hA [] rfl
        refine va_calli (va_runS (As := [.int x5]) (rest := []) ⟨hx, hb, hml, hown, hts⟩ (c_JI_numberOfTrailingZeros l dC dI H.size x5) ⟨callB_of 1 hts (gW kC_JI_numberOfTrailingZeros) rfl rfl rfl (hts _ kI_JI) (hts _ kM_MA_230) (by decide +kernel) ⟨Nat.le_of_ble_eq_true rfl, Nat.le_of_ble_eq_true rfl⟩, hts _ kT_JI_numberOfTrailingZeros⟩ ⟨fun a U g mk z => by obtain ⟨z0, z1, zP, zK, zD⟩ := z; exact ⟨z0, z1, zP, va_K.moved (u := U) (U := U.calling g mk a) (Vm.Alike.refl U.vm) zK, zD⟩, fun U hU hW => ⟨rfl, by rw [hU], va_P.he hU.symm hPc, va_K.moved hW.alike hKc, hDc.weaken (fun _ _ _ _ => trivial)⟩⟩ rfl rfl hl.1 rfl (lv_room (Nat.le_of_ble_eq_true rfl)) d_MA_ofOne_105 ⟨(Nat.zero_le _), (Nat.zero_le _)⟩) hS (fun q _ h => hFc q h) hFc (fun r6 u t H1 locs ht hvm hw hB hz1 hk1 hS => ?_)
        try dsimp only at hw
        try clear hw
        obtain ⟨hP1, hK1, hD1⟩ := hB
        replace hP1 := va_P.he ht hP1
        obtain ⟨hP, hD⟩ := va_join (wr := []) (w1 := []) hP hD [] [] rfl rfl (by decide) (by decide) hk1 hFc hP1 hD1
        clear hPc hDc hKc hFc hz1 hk1 hP1 hK1 hD1
        rename Heap => H
        have hP : va_P (dC, dI) cls [] H := hP
        have hD : va_D A [] := hD
        refine lv_i2l hx hb d_MA_ofOne_108 rfl ?_
        refine lv_topl (fun x7 ex7 => ?_)
        have tx7 := i2l_t ex7
        have hP9 := hP.sb (wq := []) [] rfl
        have hD9 := hD.sb (wq := []) [] (by decide) rfl
        exact W.lret (v := x7) hx hb hr (fun t ht hW => ⟨⟨x7, (), rfl, ⟨⟩, va_P.he ht.symm hP9, va_K.moved hW.alike hK, hD9⟩, hS.F ht⟩) hS.2.2 d_MA_ofOne_109
      · skip
        by_cases g1_110 : p0.toInt = 105
        · have ho1 : Op.lookupswitch.offset [(69, 83), (80, 83), (103, 95), (104, 102), (105, 109), (121, 116), (122, 122), (123, 128), (173, 134)] 140 p0.toInt = 109 := by rw [g1_110]; rfl
          refine lv_lookup (tgt := 110) hx hb d_MA_ofOne_1 (by decide) ho1 (by decide) ?_
          clear ho1
          refine lv_lload_n hx hb d_MA_ofOne_110 rfl (lv_at hl 1 rfl) ?_
          refine lv_l2i hx hb d_MA_ofOne_111 rfl ?_
          refine lv_topi (fun x8 ex8 => ?_)
          have hPc := hP.sb (wq := []) [] rfl
          have hDc := hD.sb (wq := []) [] (by decide) rfl
          have hKc := hK.sb (tyq := []) [] rfl
          have hFc := va_free (wc := []) hD hS hA [] rfl
          refine va_calli (va_runS (As := [.int x8]) (rest := []) ⟨hx, hb, hml, hown, hts⟩ (c_JI_bitCount l dC dI H.size x8) ⟨callB_of 1 hts (gW kC_JI_bitCount) rfl rfl rfl (hts _ kI_JI) (hts _ kM_MA_233) (by decide +kernel) ⟨Nat.le_of_ble_eq_true rfl, Nat.le_of_ble_eq_true rfl⟩, hts _ kT_JI_bitCount⟩ ⟨fun a U g mk z => by obtain ⟨z0, z1, zP, zK, zD⟩ := z; exact ⟨z0, z1, zP, va_K.moved (u := U) (U := U.calling g mk a) (Vm.Alike.refl U.vm) zK, zD⟩, fun U hU hW => ⟨rfl, by rw [hU], va_P.he hU.symm hPc, va_K.moved hW.alike hKc, hDc.weaken (fun _ _ _ _ => trivial)⟩⟩ rfl rfl hl.1 rfl (lv_room (Nat.le_of_ble_eq_true rfl)) d_MA_ofOne_112 ⟨(Nat.zero_le _), (Nat.zero_le _)⟩) hS (fun q _ h => hFc q h) hFc (fun r9 u t H1 locs ht hvm hw hB hz1 hk1 hS => ?_)
          try dsimp only at hw
          try clear hw
          obtain ⟨hP1, hK1, hD1⟩ := hB
          replace hP1 := va_P.he ht hP1
          obtain ⟨hP, hD⟩ := va_join (wr := []) (w1 := []) hP hD [] [] rfl rfl (by decide) (by decide) hk1 hFc hP1 hD1
          clear hPc hDc hKc hFc hz1 hk1 hP1 hK1 hD1
          rename Heap => H
          have hP : va_P (dC, dI) cls [] H := hP
          have hD : va_D A [] := hD
          refine lv_i2l hx hb d_MA_ofOne_115 rfl ?_
          refine lv_topl (fun x10 ex10 => ?_)
          have tx10 := i2l_t ex10
          have hP9 := hP.sb (wq := []) [] rfl
          have hD9 := hD.sb (wq := []) [] (by decide) rfl
          exact W.lret (v := x10) hx hb hr (fun t ht hW => ⟨⟨x10, (), rfl, ⟨⟩, va_P.he ht.symm hP9, va_K.moved hW.alike hK, hD9⟩, hS.F ht⟩) hS.2.2 d_MA_ofOne_116
        · skip
          by_cases g1_117 : p0.toInt = 121
          · have ho1 : Op.lookupswitch.offset [(69, 83), (80, 83), (103, 95), (104, 102), (105, 109), (121, 116), (122, 122), (123, 128), (173, 134)] 140 p0.toInt = 116 := by rw [g1_117]; rfl
            refine lv_lookup (tgt := 117) hx hb d_MA_ofOne_1 (by decide) ho1 (by decide) ?_
            clear ho1
            refine lv_lload_n hx hb d_MA_ofOne_117 rfl (lv_at hl 1 rfl) ?_
            have hPc := hP.sb (wq := []) [] rfl
            have hDc := hD.sb (wq := []) [] (by decide) rfl
            have hKc := hK.sb (tyq := []) [] rfl
            have hFc := va_free (wc := []) hD hS hA [] rfl
            refine va_calli (va_runS (As := [.long p1]) (rest := []) ⟨hx, hb, hml, hown, hts⟩ (c_JL_numberOfLeadingZeros l dC dI H.size p1) ⟨callB_of 1 hts (gW kC_JL_numberOfLeadingZeros) rfl rfl rfl (hts _ kI_JL) (hts _ kM_MA_236) (by decide +kernel) ⟨Nat.le_of_ble_eq_true rfl, Nat.le_of_ble_eq_true rfl⟩, hts _ kT_JL_numberOfLeadingZeros⟩ ⟨fun a U g mk z => by obtain ⟨z0, z1, zP, zK, zD⟩ := z; exact ⟨z0, z1, zP, va_K.moved (u := U) (U := U.calling g mk a) (Vm.Alike.refl U.vm) zK, zD⟩, fun U hU hW => ⟨rfl, by rw [hU], va_P.he hU.symm hPc, va_K.moved hW.alike hKc, hDc.weaken (fun _ _ _ _ => trivial)⟩⟩ rfl rfl hl.1 rfl (lv_room (Nat.le_of_ble_eq_true rfl)) d_MA_ofOne_118 ⟨(Nat.zero_le _), (Nat.zero_le _)⟩) hS (fun q _ h => hFc q h) hFc (fun r11 u t H1 locs ht hvm hw hB hz1 hk1 hS => ?_)
            try dsimp only at hw
            try clear hw
            obtain ⟨hP1, hK1, hD1⟩ := hB
            replace hP1 := va_P.he ht hP1
            obtain ⟨hP, hD⟩ := va_join (wr := []) (w1 := []) hP hD [] [] rfl rfl (by decide) (by decide) hk1 hFc hP1 hD1
            clear hPc hDc hKc hFc hz1 hk1 hP1 hK1 hD1
            rename Heap => H
            have hP : va_P (dC, dI) cls [] H := hP
            have hD : va_D A [] := hD
            refine lv_i2l hx hb d_MA_ofOne_121 rfl ?_
            refine lv_topl (fun x12 ex12 => ?_)
            have tx12 := i2l_t ex12
            have hP9 := hP.sb (wq := []) [] rfl
            have hD9 := hD.sb (wq := []) [] (by decide) rfl
            exact W.lret (v := x12) hx hb hr (fun t ht hW => ⟨⟨x12, (), rfl, ⟨⟩, va_P.he ht.symm hP9, va_K.moved hW.alike hK, hD9⟩, hS.F ht⟩) hS.2.2 d_MA_ofOne_122
          · skip
            by_cases g1_123 : p0.toInt = 122
            · have ho1 : Op.lookupswitch.offset [(69, 83), (80, 83), (103, 95), (104, 102), (105, 109), (121, 116), (122, 122), (123, 128), (173, 134)] 140 p0.toInt = 122 := by rw [g1_123]; rfl
              refine lv_lookup (tgt := 123) hx hb d_MA_ofOne_1 (by decide) ho1 (by decide) ?_
              clear ho1
              refine lv_lload_n hx hb d_MA_ofOne_123 rfl (lv_at hl 1 rfl) ?_
              have hPc := hP.sb (wq := []) [] rfl
              have hDc := hD.sb (wq := []) [] (by decide) rfl
              have hKc := hK.sb (tyq := []) [] rfl
              have hFc := va_free (wc := []) hD hS hA [] rfl
              refine va_calli (va_runS (As := [.long p1]) (rest := []) ⟨hx, hb, hml, hown, hts⟩ (c_JL_numberOfTrailingZeros l dC dI H.size p1) ⟨callB_of 1 hts (gW kC_JL_numberOfTrailingZeros) rfl rfl rfl (hts _ kI_JL) (hts _ kM_MA_241) (by decide +kernel) ⟨Nat.le_of_ble_eq_true rfl, Nat.le_of_ble_eq_true rfl⟩, hts _ kT_JL_numberOfTrailingZeros⟩ ⟨fun a U g mk z => by obtain ⟨z0, z1, zP, zK, zD⟩ := z; exact ⟨z0, z1, zP, va_K.moved (u := U) (U := U.calling g mk a) (Vm.Alike.refl U.vm) zK, zD⟩, fun U hU hW => ⟨rfl, by rw [hU], va_P.he hU.symm hPc, va_K.moved hW.alike hKc, hDc.weaken (fun _ _ _ _ => trivial)⟩⟩ rfl rfl hl.1 rfl (lv_room (Nat.le_of_ble_eq_true rfl)) d_MA_ofOne_124 ⟨(Nat.zero_le _), (Nat.zero_le _)⟩) hS (fun q _ h => hFc q h) hFc (fun r13 u t H1 locs ht hvm hw hB hz1 hk1 hS => ?_)
              try dsimp only at hw
              try clear hw
              obtain ⟨hP1, hK1, hD1⟩ := hB
              replace hP1 := va_P.he ht hP1
              obtain ⟨hP, hD⟩ := va_join (wr := []) (w1 := []) hP hD [] [] rfl rfl (by decide) (by decide) hk1 hFc hP1 hD1
              clear hPc hDc hKc hFc hz1 hk1 hP1 hK1 hD1
              rename Heap => H
              have hP : va_P (dC, dI) cls [] H := hP
              have hD : va_D A [] := hD
              refine lv_i2l hx hb d_MA_ofOne_127 rfl ?_
              refine lv_topl (fun x14 ex14 => ?_)
              have tx14 := i2l_t ex14
              have hP9 := hP.sb (wq := []) [] rfl
              have hD9 := hD.sb (wq := []) [] (by decide) rfl
              exact W.lret (v := x14) hx hb hr (fun t ht hW => ⟨⟨x14, (), rfl, ⟨⟩, va_P.he ht.symm hP9, va_K.moved hW.alike hK, hD9⟩, hS.F ht⟩) hS.2.2 d_MA_ofOne_128
            · skip
              by_cases g1_129 : p0.toInt = 123
              · have ho1 : Op.lookupswitch.offset [(69, 83), (80, 83), (103, 95), (104, 102), (105, 109), (121, 116), (122, 122), (123, 128), (173, 134)] 140 p0.toInt = 128 := by rw [g1_129]; rfl
                refine lv_lookup (tgt := 129) hx hb d_MA_ofOne_1 (by decide) ho1 (by decide) ?_
                clear ho1
                refine lv_lload_n hx hb d_MA_ofOne_129 rfl (lv_at hl 1 rfl) ?_
                have hPc := hP.sb (wq := []) [] rfl
                have hDc := hD.sb (wq := []) [] (by decide) rfl
                have hKc := hK.sb (tyq := []) [] rfl
                have hFc := va_free (wc := []) hD hS hA [] rfl
                refine va_calli (va_runS (As := [.long p1]) (rest := []) ⟨hx, hb, hml, hown, hts⟩ (c_JL_bitCount l dC dI H.size p1) ⟨callB_of 1 hts (gW kC_JL_bitCount) rfl rfl rfl (hts _ kI_JL) (hts _ kM_MA_243) (by decide +kernel) ⟨Nat.le_of_ble_eq_true rfl, Nat.le_of_ble_eq_true rfl⟩, hts _ kT_JL_bitCount⟩ ⟨fun a U g mk z => by obtain ⟨z0, z1, zP, zK, zD⟩ := z; exact ⟨z0, z1, zP, va_K.moved (u := U) (U := U.calling g mk a) (Vm.Alike.refl U.vm) zK, zD⟩, fun U hU hW => ⟨rfl, by rw [hU], va_P.he hU.symm hPc, va_K.moved hW.alike hKc, hDc.weaken (fun _ _ _ _ => trivial)⟩⟩ rfl rfl hl.1 rfl (lv_room (Nat.le_of_ble_eq_true rfl)) d_MA_ofOne_130 ⟨(Nat.zero_le _), (Nat.zero_le _)⟩) hS (fun q _ h => hFc q h) hFc (fun r15 u t H1 locs ht hvm hw hB hz1 hk1 hS => ?_)
                try dsimp only at hw
                try clear hw
                obtain ⟨hP1, hK1, hD1⟩ := hB
                replace hP1 := va_P.he ht hP1
                obtain ⟨hP, hD⟩ := va_join (wr := []) (w1 := []) hP hD [] [] rfl rfl (by decide) (by decide) hk1 hFc hP1 hD1
                clear hPc hDc hKc hFc hz1 hk1 hP1 hK1 hD1
                rename Heap => H
                have hP : va_P (dC, dI) cls [] H := hP
                have hD : va_D A [] := hD
                refine lv_i2l hx hb d_MA_ofOne_133 rfl ?_
                refine lv_topl (fun x16 ex16 => ?_)
                have tx16 := i2l_t ex16
                have hP9 := hP.sb (wq := []) [] rfl
                have hD9 := hD.sb (wq := []) [] (by decide) rfl
                exact W.lret (v := x16) hx hb hr (fun t ht hW => ⟨⟨x16, (), rfl, ⟨⟩, va_P.he ht.symm hP9, va_K.moved hW.alike hK, hD9⟩, hS.F ht⟩) hS.2.2 d_MA_ofOne_134
              · skip
                by_cases g1_135 : p0.toInt = 173
                · have ho1 : Op.lookupswitch.offset [(69, 83), (80, 83), (103, 95), (104, 102), (105, 109), (121, 116), (122, 122), (123, 128), (173, 134)] 140 p0.toInt = 134 := by rw [g1_135]; rfl
                  refine lv_lookup (tgt := 135) hx hb d_MA_ofOne_1 (by decide) ho1 (by decide) ?_
                  clear ho1
                  refine lv_lload_n hx hb d_MA_ofOne_135 rfl (lv_at hl 1 rfl) ?_
                  refine lv_ldc2 hx hb hown (hts _ kL_MA_162) d_MA_ofOne_136 ?_
                  refine lv_topl (fun x17 ex17 => ?_)
                  have tx17 : x17.toInt = 4294967295 := by rw [ex17]; decide
                  refine lv_land hx hb d_MA_ofOne_139 ?_
                  refine lv_topl (fun x18 ex18 => ?_)
                  have hP9 := hP.sb (wq := []) [] rfl
                  have hD9 := hD.sb (wq := []) [] (by decide) rfl
                  exact W.lret (v := x18) hx hb hr (fun t ht hW => ⟨⟨x18, (), rfl, ⟨⟩, va_P.he ht.symm hP9, va_K.moved hW.alike hK, hD9⟩, hS.F ht⟩) hS.2.2 d_MA_ofOne_140
                · skip
                  have ho1 : Op.lookupswitch.offset [(69, 83), (80, 83), (103, 95), (104, 102), (105, 109), (121, 116), (122, 122), (123, 128), (173, 134)] 140 p0.toInt = 140 := lk_def _ _ _ (by intro q hq; simp only [List.mem_cons, List.not_mem_nil, or_false] at hq; rcases hq with rfl | rfl | rfl | rfl | rfl | rfl | rfl | rfl | rfl <;> (dsimp only; (first | (apply Int.le_antisymm <;> omega) | omega)))
                  refine lv_lookup (tgt := 141) hx hb d_MA_ofOne_1 (by decide) ho1 (by decide) ?_
                  clear ho1
                  refine lv_lload_n hx hb d_MA_ofOne_141 rfl (lv_at hl 1 rfl) ?_
                  refine lv_l2i hx hb d_MA_ofOne_142 rfl ?_
                  refine lv_topi (fun x19 ex19 => ?_)
                  refine lv_i2l hx hb d_MA_ofOne_143 rfl ?_
                  refine lv_topl (fun x20 ex20 => ?_)
                  have tx20 := i2l_t ex20
                  have hP9 := hP.sb (wq := []) [] rfl
                  have hD9 := hD.sb (wq := []) [] (by decide) rfl
                  exact W.lret (v := x20) hx hb hr (fun t ht hW => ⟨⟨x20, (), rfl, ⟨⟩, va_P.he ht.symm hP9, va_K.moved hW.alike hK, hD9⟩, hS.F ht⟩) hS.2.2 d_MA_ofOne_144
abbrev b_MA_compares : ByteArray := prog_6_method_21_code
def y_MA_compares : MethodName := ⟨R_MA, "compares", "(IJJ)Z"⟩
abbrev w_MA_compares : List Cond := .code y_MA_compares b_MA_compares 5 (Option.some .boolean) :: lw_g
theorem kC_MA_compares : Cond.code y_MA_compares b_MA_compares 5 (Option.some .boolean) ∈ lw_g := in_c7 216 rfl rfl
theorem d_MA_compares_0 : decode b_MA_compares 0 = .ok (.iload_n 0, 1) := bz_c26 (by decide +kernel)
theorem d_MA_compares_1 : decode b_MA_compares 1 = .ok (.tableswitch 165 0 8 #[51, 63, 75, 87, 101, 113, 127, 139, 153], 51) := by decide +kernel
theorem d_MA_compares_52 : decode b_MA_compares 52 = .ok (.lload_n 1, 1) := bz_c31 (by decide +kernel)
theorem d_MA_compares_53 : decode b_MA_compares 53 = .ok (.lload_n 3, 1) := bz_c33 (by decide +kernel)
theorem d_MA_compares_54 : decode b_MA_compares 54 = .ok (.lcmp, 1) := bz_c148 (by decide +kernel)
theorem d_MA_compares_55 : decode b_MA_compares 55 = .ok (.ifCond .ne 7, 3) := bz_c154 (by decide +kernel)
theorem d_MA_compares_58 : decode b_MA_compares 58 = .ok (.iconst 1, 1) := bz_c4 (by decide +kernel)
theorem d_MA_compares_59 : decode b_MA_compares 59 = .ok (.goto 4, 3) := bz_c167 (by decide +kernel)
theorem d_MA_compares_62 : decode b_MA_compares 62 = .ok (.iconst 0, 1) := bz_c3 (by decide +kernel)
theorem d_MA_compares_63 : decode b_MA_compares 63 = .ok (.ireturn, 1) := bz_c172 (by decide +kernel)
theorem d_MA_compares_64 : decode b_MA_compares 64 = .ok (.lload_n 1, 1) := bz_c31 (by decide +kernel)
theorem d_MA_compares_65 : decode b_MA_compares 65 = .ok (.lload_n 3, 1) := bz_c33 (by decide +kernel)
theorem d_MA_compares_66 : decode b_MA_compares 66 = .ok (.lcmp, 1) := bz_c148 (by decide +kernel)
theorem d_MA_compares_67 : decode b_MA_compares 67 = .ok (.ifCond .eq 7, 3) := bz_c153 (by decide +kernel)
theorem d_MA_compares_70 : decode b_MA_compares 70 = .ok (.iconst 1, 1) := bz_c4 (by decide +kernel)
theorem d_MA_compares_71 : decode b_MA_compares 71 = .ok (.goto 4, 3) := bz_c167 (by decide +kernel)
theorem d_MA_compares_74 : decode b_MA_compares 74 = .ok (.iconst 0, 1) := bz_c3 (by decide +kernel)
theorem d_MA_compares_75 : decode b_MA_compares 75 = .ok (.ireturn, 1) := bz_c172 (by decide +kernel)
theorem d_MA_compares_76 : decode b_MA_compares 76 = .ok (.lload_n 1, 1) := bz_c31 (by decide +kernel)
theorem d_MA_compares_77 : decode b_MA_compares 77 = .ok (.lload_n 3, 1) := bz_c33 (by decide +kernel)
theorem d_MA_compares_78 : decode b_MA_compares 78 = .ok (.lcmp, 1) := bz_c148 (by decide +kernel)
theorem d_MA_compares_79 : decode b_MA_compares 79 = .ok (.ifCond .ge 7, 3) := bz_c156 (by decide +kernel)
theorem d_MA_compares_82 : decode b_MA_compares 82 = .ok (.iconst 1, 1) := bz_c4 (by decide +kernel)
theorem d_MA_compares_83 : decode b_MA_compares 83 = .ok (.goto 4, 3) := bz_c167 (by decide +kernel)
theorem d_MA_compares_86 : decode b_MA_compares 86 = .ok (.iconst 0, 1) := bz_c3 (by decide +kernel)
theorem d_MA_compares_87 : decode b_MA_compares 87 = .ok (.ireturn, 1) := bz_c172 (by decide +kernel)
theorem d_MA_compares_88 : decode b_MA_compares 88 = .ok (.lload_n 1, 1) := bz_c31 (by decide +kernel)
theorem d_MA_compares_89 : decode b_MA_compares 89 = .ok (.lload_n 3, 1) := bz_c33 (by decide +kernel)
theorem d_MA_compares_90 : decode b_MA_compares 90 = .ok (.invokestatic 261, 3) := bz_c184 (by decide +kernel)
theorem d_MA_compares_93 : decode b_MA_compares 93 = .ok (.ifCond .ge 7, 3) := bz_c156 (by decide +kernel)
theorem d_MA_compares_96 : decode b_MA_compares 96 = .ok (.iconst 1, 1) := bz_c4 (by decide +kernel)
theorem d_MA_compares_97 : decode b_MA_compares 97 = .ok (.goto 4, 3) := bz_c167 (by decide +kernel)
theorem d_MA_compares_100 : decode b_MA_compares 100 = .ok (.iconst 0, 1) := bz_c3 (by decide +kernel)
theorem d_MA_compares_101 : decode b_MA_compares 101 = .ok (.ireturn, 1) := bz_c172 (by decide +kernel)
theorem d_MA_compares_102 : decode b_MA_compares 102 = .ok (.lload_n 1, 1) := bz_c31 (by decide +kernel)
theorem d_MA_compares_103 : decode b_MA_compares 103 = .ok (.lload_n 3, 1) := bz_c33 (by decide +kernel)
theorem d_MA_compares_104 : decode b_MA_compares 104 = .ok (.lcmp, 1) := bz_c148 (by decide +kernel)
theorem d_MA_compares_105 : decode b_MA_compares 105 = .ok (.ifCond .le 7, 3) := bz_c158 (by decide +kernel)
theorem d_MA_compares_108 : decode b_MA_compares 108 = .ok (.iconst 1, 1) := bz_c4 (by decide +kernel)
theorem d_MA_compares_109 : decode b_MA_compares 109 = .ok (.goto 4, 3) := bz_c167 (by decide +kernel)
theorem d_MA_compares_112 : decode b_MA_compares 112 = .ok (.iconst 0, 1) := bz_c3 (by decide +kernel)
theorem d_MA_compares_113 : decode b_MA_compares 113 = .ok (.ireturn, 1) := bz_c172 (by decide +kernel)
theorem d_MA_compares_114 : decode b_MA_compares 114 = .ok (.lload_n 1, 1) := bz_c31 (by decide +kernel)
theorem d_MA_compares_115 : decode b_MA_compares 115 = .ok (.lload_n 3, 1) := bz_c33 (by decide +kernel)
theorem d_MA_compares_116 : decode b_MA_compares 116 = .ok (.invokestatic 261, 3) := bz_c184 (by decide +kernel)
theorem d_MA_compares_119 : decode b_MA_compares 119 = .ok (.ifCond .le 7, 3) := bz_c158 (by decide +kernel)
theorem d_MA_compares_122 : decode b_MA_compares 122 = .ok (.iconst 1, 1) := bz_c4 (by decide +kernel)
theorem d_MA_compares_123 : decode b_MA_compares 123 = .ok (.goto 4, 3) := bz_c167 (by decide +kernel)
theorem d_MA_compares_126 : decode b_MA_compares 126 = .ok (.iconst 0, 1) := bz_c3 (by decide +kernel)
theorem d_MA_compares_127 : decode b_MA_compares 127 = .ok (.ireturn, 1) := bz_c172 (by decide +kernel)
theorem d_MA_compares_128 : decode b_MA_compares 128 = .ok (.lload_n 1, 1) := bz_c31 (by decide +kernel)
theorem d_MA_compares_129 : decode b_MA_compares 129 = .ok (.lload_n 3, 1) := bz_c33 (by decide +kernel)
theorem d_MA_compares_130 : decode b_MA_compares 130 = .ok (.lcmp, 1) := bz_c148 (by decide +kernel)
theorem d_MA_compares_131 : decode b_MA_compares 131 = .ok (.ifCond .gt 7, 3) := bz_c157 (by decide +kernel)
theorem d_MA_compares_134 : decode b_MA_compares 134 = .ok (.iconst 1, 1) := bz_c4 (by decide +kernel)
theorem d_MA_compares_135 : decode b_MA_compares 135 = .ok (.goto 4, 3) := bz_c167 (by decide +kernel)
theorem d_MA_compares_138 : decode b_MA_compares 138 = .ok (.iconst 0, 1) := bz_c3 (by decide +kernel)
theorem d_MA_compares_139 : decode b_MA_compares 139 = .ok (.ireturn, 1) := bz_c172 (by decide +kernel)
theorem d_MA_compares_140 : decode b_MA_compares 140 = .ok (.lload_n 1, 1) := bz_c31 (by decide +kernel)
theorem d_MA_compares_141 : decode b_MA_compares 141 = .ok (.lload_n 3, 1) := bz_c33 (by decide +kernel)
theorem d_MA_compares_142 : decode b_MA_compares 142 = .ok (.invokestatic 261, 3) := bz_c184 (by decide +kernel)
theorem d_MA_compares_145 : decode b_MA_compares 145 = .ok (.ifCond .gt 7, 3) := bz_c157 (by decide +kernel)
theorem d_MA_compares_148 : decode b_MA_compares 148 = .ok (.iconst 1, 1) := bz_c4 (by decide +kernel)
theorem d_MA_compares_149 : decode b_MA_compares 149 = .ok (.goto 4, 3) := bz_c167 (by decide +kernel)
theorem d_MA_compares_152 : decode b_MA_compares 152 = .ok (.iconst 0, 1) := bz_c3 (by decide +kernel)
theorem d_MA_compares_153 : decode b_MA_compares 153 = .ok (.ireturn, 1) := bz_c172 (by decide +kernel)
theorem d_MA_compares_154 : decode b_MA_compares 154 = .ok (.lload_n 1, 1) := bz_c31 (by decide +kernel)
theorem d_MA_compares_155 : decode b_MA_compares 155 = .ok (.lload_n 3, 1) := bz_c33 (by decide +kernel)
theorem d_MA_compares_156 : decode b_MA_compares 156 = .ok (.lcmp, 1) := bz_c148 (by decide +kernel)
theorem d_MA_compares_157 : decode b_MA_compares 157 = .ok (.ifCond .lt 7, 3) := bz_c155 (by decide +kernel)
theorem d_MA_compares_160 : decode b_MA_compares 160 = .ok (.iconst 1, 1) := bz_c4 (by decide +kernel)
theorem d_MA_compares_161 : decode b_MA_compares 161 = .ok (.goto 4, 3) := bz_c167 (by decide +kernel)
theorem d_MA_compares_164 : decode b_MA_compares 164 = .ok (.iconst 0, 1) := bz_c3 (by decide +kernel)
theorem d_MA_compares_165 : decode b_MA_compares 165 = .ok (.ireturn, 1) := bz_c172 (by decide +kernel)
theorem d_MA_compares_166 : decode b_MA_compares 166 = .ok (.lload_n 1, 1) := bz_c31 (by decide +kernel)
theorem d_MA_compares_167 : decode b_MA_compares 167 = .ok (.lload_n 3, 1) := bz_c33 (by decide +kernel)
theorem d_MA_compares_168 : decode b_MA_compares 168 = .ok (.invokestatic 261, 3) := bz_c184 (by decide +kernel)
theorem d_MA_compares_171 : decode b_MA_compares 171 = .ok (.ifCond .lt 7, 3) := bz_c155 (by decide +kernel)
theorem d_MA_compares_174 : decode b_MA_compares 174 = .ok (.iconst 1, 1) := bz_c4 (by decide +kernel)
theorem d_MA_compares_175 : decode b_MA_compares 175 = .ok (.goto 4, 3) := bz_c167 (by decide +kernel)
theorem d_MA_compares_178 : decode b_MA_compares 178 = .ok (.iconst 0, 1) := bz_c3 (by decide +kernel)
theorem d_MA_compares_179 : decode b_MA_compares 179 = .ok (.ireturn, 1) := bz_c172 (by decide +kernel)
theorem kM_MA_261 : Cond.methodLink R_MA 261 y_JL_compareUnsigned ∈ lw_g := in_c7 217 rfl rfl
theorem kT_JL_compareUnsigned : Cond.static y_JL_compareUnsigned ∈ lw_g := in_c7 218 rfl rfl
abbrev at_MA_compares (dC : Nat → ClassId) (dI : Nat → Nat → Nat)  (A : Nat → Prop) (u : Unit) (t : State) : Prop := match u with | _ => va_P (dC, dI) cls [] t.heap ∧ va_K (dC, dI) cls [] t ∧ va_D A []
set_option maxHeartbeats 4000000 in
set_option maxRecDepth 100000 in
theorem c_MA_compares (l : Launch) (dC : Nat → ClassId) (dI : Nat → Nat → Nat) (sz : Nat)    (p0 : Int32) (p1 : Int64) (p2 : Int64)   : Met l y_MA_compares w_MA_compares ({ frames := 2, cells := 0, slots := 0, locals := 46 }) (va_Pc [.int p0, .long p1, .long p2] (fun U => U.heap.size = sz ∧ va_P (dC, dI) cls [] U.heap ∧ va_K (dC, dI) cls [] U ∧ va_D (fun _ => True) [])) (va_Qi (fun (r : Int32) (u : Unit) => match u with | _ => (r = 0 ∨ r = 1)) (at_MA_compares dC dI  (va_A [] sz)) (va_A [] sz)) 0 0 (va_A [] sz) := by
  refine Met.ofW (cc := b_MA_compares) (maxL := 5) (ret := (Option.some .boolean)) (by decide) rfl ?_
  intro p e s m args below meth c s₁ B hml hv
  obtain ⟨rfl, hsz, hP, hK, hD0⟩ := hv
  have hx := B.exec
  have hb := B.bytes
  have hr := B.returns
  have hts0 := atoms_spec (ws := w_MA_compares) B.pre
  have hts : ∀ w ∈ lw_g, w.before _ s = true := fun w h => hts0 w (List.mem_cons_of_mem _ h)
  have hown : s.vm.findClass R_MA = some m.cls := findClass_of_methodNamed B.named
  have hlocks := B.notSynchronized
  clear hts0
  subst hsz
  have hD := hD0.self (sz := s.heap.size)
  generalize hAe : va_A [] s.heap.size = A at hD ⊢
  have hA : ∀ q : Nat, s.heap.size ≤ q → A q := fun q h => by rw [← hAe]; exact Or.inr h
  clear hAe
  have hP : va_P (dC, dI) cls [] s.heap := hP
  have hl := lv_entry ([.int p0, .long p1, .long p2]) (n := 5) (Nat.le_of_ble_eq_true rfl)
  rw [lg_entry_eq]
  generalize (lg_sl ([.int p0, .long p1, .long p2]) ++ List.replicate (5 - (lg_sl ([.int p0, .long p1, .long p2])).length) Slot.unset).toArray = ls at hl ⊢
  have hl : lv_has ls 5 [(0, .int p0), (1, .long p1), (3, .long p2)] := hl
  have k0 : (0 : Int32).toInt = 0 := by decide
  refine w_gen (A := A) hP (fun H locs hP hS => ?_)
  have k1 : (1 : Int32).toInt = 1 := by decide
  have lo_p0 := i32_lo p0
  have hi_p0 := i32_hi p0
  refine lv_iload_n hx hb d_MA_compares_0 rfl (lv_at hl 0 rfl) ?_
  by_cases g1_52 : p0.toInt = 0
  · have ho1 : tab_off 165 0 8 #[51, 63, 75, 87, 101, 113, 127, 139, 153] p0.toInt = 51 := by rw [g1_52]; rfl
    refine lv_tab (tgt := 52) hx hb d_MA_compares_1 (by decide) ho1 (by decide) ?_
    clear ho1
    refine lv_lload_n hx hb d_MA_compares_52 rfl (lv_at hl 1 rfl) ?_
    refine lv_lload_n hx hb d_MA_compares_53 rfl (lv_at hl 2 rfl) ?_
    refine W.lcmp hx hb d_MA_compares_54 ?_
    refine lv_topi (fun x1 ex1 => ?_)
    have tx1 := lgc ex1
    refine lv_if_ne (tgt := 62) hx hb d_MA_compares_55 (by decide) (fun c55 => ?_) (fun c55 => ?_)
    · have q55 := neI c55
      refine lv_iconst (v := 0) hx hb d_MA_compares_62 (by decide) ?_
      have hP9 := hP.sb (wq := []) [] rfl
      have hD9 := hD.sb (wq := []) [] (by decide) rfl
      exact W.zret (v := 0) hx hb hr (zn01 (Or.inl rfl)) (fun t ht hW => ⟨⟨0, (), rfl, (Or.inl rfl), va_P.he ht.symm hP9, va_K.moved hW.alike hK, hD9⟩, hS.F ht⟩) hS.2.2 d_MA_compares_63
    · have q55 := eqI c55
      refine lv_iconst (v := 1) hx hb d_MA_compares_58 (by decide) ?_
      refine lv_goto (tgt := 63) hx hb d_MA_compares_59 (by decide) ?_
      have hP9 := hP.sb (wq := []) [] rfl
      have hD9 := hD.sb (wq := []) [] (by decide) rfl
      exact W.zret (v := 1) hx hb hr (zn01 (Or.inr rfl)) (fun t ht hW => ⟨⟨1, (), rfl, (Or.inr rfl), va_P.he ht.symm hP9, va_K.moved hW.alike hK, hD9⟩, hS.F ht⟩) hS.2.2 d_MA_compares_63
  · skip
    by_cases g1_64 : p0.toInt = 1
    · have ho1 : tab_off 165 0 8 #[51, 63, 75, 87, 101, 113, 127, 139, 153] p0.toInt = 63 := by rw [g1_64]; rfl
      refine lv_tab (tgt := 64) hx hb d_MA_compares_1 (by decide) ho1 (by decide) ?_
      clear ho1
      refine lv_lload_n hx hb d_MA_compares_64 rfl (lv_at hl 1 rfl) ?_
      refine lv_lload_n hx hb d_MA_compares_65 rfl (lv_at hl 2 rfl) ?_
      refine W.lcmp hx hb d_MA_compares_66 ?_
      refine lv_topi (fun x2 ex2 => ?_)
      have tx2 := lgc ex2
      refine lv_if_eq (tgt := 74) hx hb d_MA_compares_67 (by decide) (fun c67 => ?_) (fun c67 => ?_)
      · have q67 := eqI c67
        refine lv_iconst (v := 0) hx hb d_MA_compares_74 (by decide) ?_
        have hP9 := hP.sb (wq := []) [] rfl
        have hD9 := hD.sb (wq := []) [] (by decide) rfl
        exact W.zret (v := 0) hx hb hr (zn01 (Or.inl rfl)) (fun t ht hW => ⟨⟨0, (), rfl, (Or.inl rfl), va_P.he ht.symm hP9, va_K.moved hW.alike hK, hD9⟩, hS.F ht⟩) hS.2.2 d_MA_compares_75
      · have q67 := neI c67
        refine lv_iconst (v := 1) hx hb d_MA_compares_70 (by decide) ?_
        refine lv_goto (tgt := 75) hx hb d_MA_compares_71 (by decide) ?_
        have hP9 := hP.sb (wq := []) [] rfl
        have hD9 := hD.sb (wq := []) [] (by decide) rfl
        exact W.zret (v := 1) hx hb hr (zn01 (Or.inr rfl)) (fun t ht hW => ⟨⟨1, (), rfl, (Or.inr rfl), va_P.he ht.symm hP9, va_K.moved hW.alike hK, hD9⟩, hS.F ht⟩) hS.2.2 d_MA_compares_75
    · skip
      by_cases g1_76 : p0.toInt = 2
      · have ho1 : tab_off 165 0 8 #[51, 63, 75, 87, 101, 113, 127, 139, 153] p0.toInt = 75 := by rw [g1_76]; rfl
        refine lv_tab (tgt := 76) hx hb d_MA_compares_1 (by decide) ho1 (by decide) ?_
        clear ho1
        refine lv_lload_n hx hb d_MA_compares_76 rfl (lv_at hl 1 rfl) ?_
        refine lv_lload_n hx hb d_MA_compares_77 rfl (lv_at hl 2 rfl) ?_
        refine W.lcmp hx hb d_MA_compares_78 ?_
        refine lv_topi (fun x3 ex3 => ?_)
        have tx3 := lgc ex3
        refine lv_if_ge (tgt := 86) hx hb d_MA_compares_79 (by decide) (fun c79 => ?_) (fun c79 => ?_)
        · have q79 := leI c79
          refine lv_iconst (v := 0) hx hb d_MA_compares_86 (by decide) ?_
          have hP9 := hP.sb (wq := []) [] rfl
          have hD9 := hD.sb (wq := []) [] (by decide) rfl
          exact W.zret (v := 0) hx hb hr (zn01 (Or.inl rfl)) (fun t ht hW => ⟨⟨0, (), rfl, (Or.inl rfl), va_P.he ht.symm hP9, va_K.moved hW.alike hK, hD9⟩, hS.F ht⟩) hS.2.2 d_MA_compares_87
        · have q79 := nleI c79
          refine lv_iconst (v := 1) hx hb d_MA_compares_82 (by decide) ?_
          refine lv_goto (tgt := 87) hx hb d_MA_compares_83 (by decide) ?_
          have hP9 := hP.sb (wq := []) [] rfl
          have hD9 := hD.sb (wq := []) [] (by decide) rfl
          exact W.zret (v := 1) hx hb hr (zn01 (Or.inr rfl)) (fun t ht hW => ⟨⟨1, (), rfl, (Or.inr rfl), va_P.he ht.symm hP9, va_K.moved hW.alike hK, hD9⟩, hS.F ht⟩) hS.2.2 d_MA_compares_87
      · skip
        by_cases g1_88 : p0.toInt = 3
        · have ho1 : tab_off 165 0 8 #[51, 63, 75, 87, 101, 113, 127, 139, 153] p0.toInt = 87 := by rw [g1_88]; rfl
          refine lv_tab (tgt := 88) hx hb d_MA_compares_1 (by decide) ho1 (by decide) ?_
          clear ho1
          refine lv_lload_n hx hb d_MA_compares_88 rfl (lv_at hl 1 rfl) ?_
          refine lv_lload_n hx hb d_MA_compares_89 rfl (lv_at hl 2 rfl) ?_
          have hPc := hP.sb (wq := []) [] rfl
          have hDc := hD.sb (wq := []) [] (by decide) rfl
          have hKc := hK.sb (tyq := []) [] rfl
          have hFc := va_free (wc := []) hD hS hA [] rfl
          refine va_calli (va_runS (As := [.long p1, .long p2]) (rest := []) ⟨hx, hb, hml, hown, hts⟩ (c_JL_compareUnsigned l dC dI H.size p1 p2) ⟨callB_of 2 hts (gW kC_JL_compareUnsigned) rfl rfl rfl (hts _ kI_JL) (hts _ kM_MA_261) (by decide +kernel) ⟨Nat.le_of_ble_eq_true rfl, Nat.le_of_ble_eq_true rfl⟩, hts _ kT_JL_compareUnsigned⟩ ⟨fun a U g mk z => by obtain ⟨z0, z1, zP, zK, zD⟩ := z; exact ⟨z0, z1, zP, va_K.moved (u := U) (U := U.calling g mk a) (Vm.Alike.refl U.vm) zK, zD⟩, fun U hU hW => ⟨rfl, by rw [hU], va_P.he hU.symm hPc, va_K.moved hW.alike hKc, hDc.weaken (fun _ _ _ _ => trivial)⟩⟩ rfl rfl hl.1 rfl (lv_room (Nat.le_of_ble_eq_true rfl)) d_MA_compares_90 ⟨(Nat.zero_le _), (Nat.zero_le _)⟩) hS (fun q _ h => hFc q h) hFc (fun r4 u t H1 locs ht hvm hw hB hz1 hk1 hS => ?_)
          try dsimp only at hw
          try clear hw
          obtain ⟨hP1, hK1, hD1⟩ := hB
          replace hP1 := va_P.he ht hP1
          obtain ⟨hP, hD⟩ := va_join (wr := []) (w1 := []) hP hD [] [] rfl rfl (by decide) (by decide) hk1 hFc hP1 hD1
          clear hPc hDc hKc hFc hz1 hk1 hP1 hK1 hD1
          rename Heap => H
          have hP : va_P (dC, dI) cls [] H := hP
          have hD : va_D A [] := hD
          refine lv_if_ge (tgt := 100) hx hb d_MA_compares_93 (by decide) (fun c93 => ?_) (fun c93 => ?_)
          · have q93 := leI c93
            refine lv_iconst (v := 0) hx hb d_MA_compares_100 (by decide) ?_
            have hP9 := hP.sb (wq := []) [] rfl
            have hD9 := hD.sb (wq := []) [] (by decide) rfl
            exact W.zret (v := 0) hx hb hr (zn01 (Or.inl rfl)) (fun t ht hW => ⟨⟨0, (), rfl, (Or.inl rfl), va_P.he ht.symm hP9, va_K.moved hW.alike hK, hD9⟩, hS.F ht⟩) hS.2.2 d_MA_compares_101
          · have q93 := nleI c93
            refine lv_iconst (v := 1) hx hb d_MA_compares_96 (by decide) ?_
            refine lv_goto (tgt := 101) hx hb d_MA_compares_97 (by decide) ?_
            have hP9 := hP.sb (wq := []) [] rfl
            have hD9 := hD.sb (wq := []) [] (by decide) rfl
            exact W.zret (v := 1) hx hb hr (zn01 (Or.inr rfl)) (fun t ht hW => ⟨⟨1, (), rfl, (Or.inr rfl), va_P.he ht.symm hP9, va_K.moved hW.alike hK, hD9⟩, hS.F ht⟩) hS.2.2 d_MA_compares_101
        · skip
          by_cases g1_102 : p0.toInt = 4
          · have ho1 : tab_off 165 0 8 #[51, 63, 75, 87, 101, 113, 127, 139, 153] p0.toInt = 101 := by rw [g1_102]; rfl
            refine lv_tab (tgt := 102) hx hb d_MA_compares_1 (by decide) ho1 (by decide) ?_
            clear ho1
            refine lv_lload_n hx hb d_MA_compares_102 rfl (lv_at hl 1 rfl) ?_
            refine lv_lload_n hx hb d_MA_compares_103 rfl (lv_at hl 2 rfl) ?_
            refine W.lcmp hx hb d_MA_compares_104 ?_
            refine lv_topi (fun x5 ex5 => ?_)
            have tx5 := lgc ex5
            refine lv_if_le (tgt := 112) hx hb d_MA_compares_105 (by decide) (fun c105 => ?_) (fun c105 => ?_)
            · have q105 := leI c105
              refine lv_iconst (v := 0) hx hb d_MA_compares_112 (by decide) ?_
              have hP9 := hP.sb (wq := []) [] rfl
              have hD9 := hD.sb (wq := []) [] (by decide) rfl
              exact W.zret (v := 0) hx hb hr (zn01 (Or.inl rfl)) (fun t ht hW => ⟨⟨0, (), rfl, (Or.inl rfl), va_P.he ht.symm hP9, va_K.moved hW.alike hK, hD9⟩, hS.F ht⟩) hS.2.2 d_MA_compares_113
            · have q105 := nleI c105
              refine lv_iconst (v := 1) hx hb d_MA_compares_108 (by decide) ?_
              refine lv_goto (tgt := 113) hx hb d_MA_compares_109 (by decide) ?_
              have hP9 := hP.sb (wq := []) [] rfl
              have hD9 := hD.sb (wq := []) [] (by decide) rfl
              exact W.zret (v := 1) hx hb hr (zn01 (Or.inr rfl)) (fun t ht hW => ⟨⟨1, (), rfl, (Or.inr rfl), va_P.he ht.symm hP9, va_K.moved hW.alike hK, hD9⟩, hS.F ht⟩) hS.2.2 d_MA_compares_113
          · skip
            by_cases g1_114 : p0.toInt = 5
            · have ho1 : tab_off 165 0 8 #[51, 63, 75, 87, 101, 113, 127, 139, 153] p0.toInt = 113 := by rw [g1_114]; rfl
              refine lv_tab (tgt := 114) hx hb d_MA_compares_1 (by decide) ho1 (by decide) ?_
              clear ho1
              refine lv_lload_n hx hb d_MA_compares_114 rfl (lv_at hl 1 rfl) ?_
              refine lv_lload_n hx hb d_MA_compares_115 rfl (lv_at hl 2 rfl) ?_
              have hPc := hP.sb (wq := []) [] rfl
              have hDc := hD.sb (wq := []) [] (by decide) rfl
              have hKc := hK.sb (tyq := []) [] rfl
              have hFc := va_free (wc := []) hD hS hA [] rfl
              refine va_calli (va_runS (As := [.long p1, .long p2]) (rest := []) ⟨hx, hb, hml, hown, hts⟩ (c_JL_compareUnsigned l dC dI H.size p1 p2) ⟨callB_of 2 hts (gW kC_JL_compareUnsigned) rfl rfl rfl (hts _ kI_JL) (hts _ kM_MA_261) (by decide +kernel) ⟨Nat.le_of_ble_eq_true rfl, Nat.le_of_ble_eq_true rfl⟩, hts _ kT_JL_compareUnsigned⟩ ⟨fun a U g mk z => by obtain ⟨z0, z1, zP, zK, zD⟩ := z; exact ⟨z0, z1, zP, va_K.moved (u := U) (U := U.calling g mk a) (Vm.Alike.refl U.vm) zK, zD⟩, fun U hU hW => ⟨rfl, by rw [hU], va_P.he hU.symm hPc, va_K.moved hW.alike hKc, hDc.weaken (fun _ _ _ _ => trivial)⟩⟩ rfl rfl hl.1 rfl (lv_room (Nat.le_of_ble_eq_true rfl)) d_MA_compares_116 ⟨(Nat.zero_le _), (Nat.zero_le _)⟩) hS (fun q _ h => hFc q h) hFc (fun r6 u t H1 locs ht hvm hw hB hz1 hk1 hS => ?_)
              try dsimp only at hw
              try clear hw
              obtain ⟨hP1, hK1, hD1⟩ := hB
              replace hP1 := va_P.he ht hP1
              obtain ⟨hP, hD⟩ := va_join (wr := []) (w1 := []) hP hD [] [] rfl rfl (by decide) (by decide) hk1 hFc hP1 hD1
              clear hPc hDc hKc hFc hz1 hk1 hP1 hK1 hD1
              rename Heap => H
              have hP : va_P (dC, dI) cls [] H := hP
              have hD : va_D A [] := hD
              refine lv_if_le (tgt := 126) hx hb d_MA_compares_119 (by decide) (fun c119 => ?_) (fun c119 => ?_)
              · have q119 := leI c119
                refine lv_iconst (v := 0) hx hb d_MA_compares_126 (by decide) ?_
                have hP9 := hP.sb (wq := []) [] rfl
                have hD9 := hD.sb (wq := []) [] (by decide) rfl
                exact W.zret (v := 0) hx hb hr (zn01 (Or.inl rfl)) (fun t ht hW => ⟨⟨0, (), rfl, (Or.inl rfl), va_P.he ht.symm hP9, va_K.moved hW.alike hK, hD9⟩, hS.F ht⟩) hS.2.2 d_MA_compares_127
              · have q119 := nleI c119
                refine lv_iconst (v := 1) hx hb d_MA_compares_122 (by decide) ?_
                refine lv_goto (tgt := 127) hx hb d_MA_compares_123 (by decide) ?_
                have hP9 := hP.sb (wq := []) [] rfl
                have hD9 := hD.sb (wq := []) [] (by decide) rfl
                exact W.zret (v := 1) hx hb hr (zn01 (Or.inr rfl)) (fun t ht hW => ⟨⟨1, (), rfl, (Or.inr rfl), va_P.he ht.symm hP9, va_K.moved hW.alike hK, hD9⟩, hS.F ht⟩) hS.2.2 d_MA_compares_127
            · skip
              by_cases g1_128 : p0.toInt = 6
              · have ho1 : tab_off 165 0 8 #[51, 63, 75, 87, 101, 113, 127, 139, 153] p0.toInt = 127 := by rw [g1_128]; rfl
                refine lv_tab (tgt := 128) hx hb d_MA_compares_1 (by decide) ho1 (by decide) ?_
                clear ho1
                refine lv_lload_n hx hb d_MA_compares_128 rfl (lv_at hl 1 rfl) ?_
                refine lv_lload_n hx hb d_MA_compares_129 rfl (lv_at hl 2 rfl) ?_
                refine W.lcmp hx hb d_MA_compares_130 ?_
                refine lv_topi (fun x7 ex7 => ?_)
                have tx7 := lgc ex7
                refine lv_if_gt (tgt := 138) hx hb d_MA_compares_131 (by decide) (fun c131 => ?_) (fun c131 => ?_)
                · have q131 := ltI c131
                  refine lv_iconst (v := 0) hx hb d_MA_compares_138 (by decide) ?_
                  have hP9 := hP.sb (wq := []) [] rfl
                  have hD9 := hD.sb (wq := []) [] (by decide) rfl
                  exact W.zret (v := 0) hx hb hr (zn01 (Or.inl rfl)) (fun t ht hW => ⟨⟨0, (), rfl, (Or.inl rfl), va_P.he ht.symm hP9, va_K.moved hW.alike hK, hD9⟩, hS.F ht⟩) hS.2.2 d_MA_compares_139
                · have q131 := nltI c131
                  refine lv_iconst (v := 1) hx hb d_MA_compares_134 (by decide) ?_
                  refine lv_goto (tgt := 139) hx hb d_MA_compares_135 (by decide) ?_
                  have hP9 := hP.sb (wq := []) [] rfl
                  have hD9 := hD.sb (wq := []) [] (by decide) rfl
                  exact W.zret (v := 1) hx hb hr (zn01 (Or.inr rfl)) (fun t ht hW => ⟨⟨1, (), rfl, (Or.inr rfl), va_P.he ht.symm hP9, va_K.moved hW.alike hK, hD9⟩, hS.F ht⟩) hS.2.2 d_MA_compares_139
              · skip
                by_cases g1_140 : p0.toInt = 7
                · have ho1 : tab_off 165 0 8 #[51, 63, 75, 87, 101, 113, 127, 139, 153] p0.toInt = 139 := by rw [g1_140]; rfl
                  refine lv_tab (tgt := 140) hx hb d_MA_compares_1 (by decide) ho1 (by decide) ?_
                  clear ho1
                  refine lv_lload_n hx hb d_MA_compares_140 rfl (lv_at hl 1 rfl) ?_
                  refine lv_lload_n hx hb d_MA_compares_141 rfl (lv_at hl 2 rfl) ?_
                  have hPc := hP.sb (wq := []) [] rfl
                  have hDc := hD.sb (wq := []) [] (by decide) rfl
                  have hKc := hK.sb (tyq := []) [] rfl
                  have hFc := va_free (wc := []) hD hS hA [] rfl
                  refine va_calli (va_runS (As := [.long p1, .long p2]) (rest := []) ⟨hx, hb, hml, hown, hts⟩ (c_JL_compareUnsigned l dC dI H.size p1 p2) ⟨callB_of 2 hts (gW kC_JL_compareUnsigned) rfl rfl rfl (hts _ kI_JL) (hts _ kM_MA_261) (by decide +kernel) ⟨Nat.le_of_ble_eq_true rfl, Nat.le_of_ble_eq_true rfl⟩, hts _ kT_JL_compareUnsigned⟩ ⟨fun a U g mk z => by obtain ⟨z0, z1, zP, zK, zD⟩ := z; exact ⟨z0, z1, zP, va_K.moved (u := U) (U := U.calling g mk a) (Vm.Alike.refl U.vm) zK, zD⟩, fun U hU hW => ⟨rfl, by rw [hU], va_P.he hU.symm hPc, va_K.moved hW.alike hKc, hDc.weaken (fun _ _ _ _ => trivial)⟩⟩ rfl rfl hl.1 rfl (lv_room (Nat.le_of_ble_eq_true rfl)) d_MA_compares_142 ⟨(Nat.zero_le _), (Nat.zero_le _)⟩) hS (fun q _ h => hFc q h) hFc (fun r8 u t H1 locs ht hvm hw hB hz1 hk1 hS => ?_)
                  try dsimp only at hw
                  try clear hw
                  obtain ⟨hP1, hK1, hD1⟩ := hB
                  replace hP1 := va_P.he ht hP1
                  obtain ⟨hP, hD⟩ := va_join (wr := []) (w1 := []) hP hD [] [] rfl rfl (by decide) (by decide) hk1 hFc hP1 hD1
                  clear hPc hDc hKc hFc hz1 hk1 hP1 hK1 hD1
                  rename Heap => H
                  have hP : va_P (dC, dI) cls [] H := hP
                  have hD : va_D A [] := hD
                  refine lv_if_gt (tgt := 152) hx hb d_MA_compares_145 (by decide) (fun c145 => ?_) (fun c145 => ?_)
                  · have q145 := ltI c145
                    refine lv_iconst (v := 0) hx hb d_MA_compares_152 (by decide) ?_
                    have hP9 := hP.sb (wq := []) [] rfl
                    have hD9 := hD.sb (wq := []) [] (by decide) rfl
                    exact W.zret (v := 0) hx hb hr (zn01 (Or.inl rfl)) (fun t ht hW => ⟨⟨0, (), rfl, (Or.inl rfl), va_P.he ht.symm hP9, va_K.moved hW.alike hK, hD9⟩, hS.F ht⟩) hS.2.2 d_MA_compares_153
                  · have q145 := nltI c145
                    refine lv_iconst (v := 1) hx hb d_MA_compares_148 (by decide) ?_
                    refine lv_goto (tgt := 153) hx hb d_MA_compares_149 (by decide) ?_
                    have hP9 := hP.sb (wq := []) [] rfl
                    have hD9 := hD.sb (wq := []) [] (by decide) rfl
                    exact W.zret (v := 1) hx hb hr (zn01 (Or.inr rfl)) (fun t ht hW => ⟨⟨1, (), rfl, (Or.inr rfl), va_P.he ht.symm hP9, va_K.moved hW.alike hK, hD9⟩, hS.F ht⟩) hS.2.2 d_MA_compares_153
                · skip
                  by_cases g1_154 : p0.toInt = 8
                  · have ho1 : tab_off 165 0 8 #[51, 63, 75, 87, 101, 113, 127, 139, 153] p0.toInt = 153 := by rw [g1_154]; rfl
                    refine lv_tab (tgt := 154) hx hb d_MA_compares_1 (by decide) ho1 (by decide) ?_
                    clear ho1
                    refine lv_lload_n hx hb d_MA_compares_154 rfl (lv_at hl 1 rfl) ?_
                    refine lv_lload_n hx hb d_MA_compares_155 rfl (lv_at hl 2 rfl) ?_
                    refine W.lcmp hx hb d_MA_compares_156 ?_
                    refine lv_topi (fun x9 ex9 => ?_)
                    have tx9 := lgc ex9
                    refine lv_if_lt (tgt := 164) hx hb d_MA_compares_157 (by decide) (fun c157 => ?_) (fun c157 => ?_)
                    · have q157 := ltI c157
                      refine lv_iconst (v := 0) hx hb d_MA_compares_164 (by decide) ?_
                      have hP9 := hP.sb (wq := []) [] rfl
                      have hD9 := hD.sb (wq := []) [] (by decide) rfl
                      exact W.zret (v := 0) hx hb hr (zn01 (Or.inl rfl)) (fun t ht hW => ⟨⟨0, (), rfl, (Or.inl rfl), va_P.he ht.symm hP9, va_K.moved hW.alike hK, hD9⟩, hS.F ht⟩) hS.2.2 d_MA_compares_165
                    · have q157 := nltI c157
                      refine lv_iconst (v := 1) hx hb d_MA_compares_160 (by decide) ?_
                      refine lv_goto (tgt := 165) hx hb d_MA_compares_161 (by decide) ?_
                      have hP9 := hP.sb (wq := []) [] rfl
                      have hD9 := hD.sb (wq := []) [] (by decide) rfl
                      exact W.zret (v := 1) hx hb hr (zn01 (Or.inr rfl)) (fun t ht hW => ⟨⟨1, (), rfl, (Or.inr rfl), va_P.he ht.symm hP9, va_K.moved hW.alike hK, hD9⟩, hS.F ht⟩) hS.2.2 d_MA_compares_165
                  · skip
                    have ho1 : tab_off 165 0 8 #[51, 63, 75, 87, 101, 113, 127, 139, 153] p0.toInt = 165 := by
                      unfold tab_off
                      split
                      · rfl
                      · exfalso; (first | (apply Int.le_antisymm <;> omega) | omega)
                    refine lv_tab (tgt := 166) hx hb d_MA_compares_1 (by decide) ho1 (by decide) ?_
                    clear ho1
                    refine lv_lload_n hx hb d_MA_compares_166 rfl (lv_at hl 1 rfl) ?_
                    refine lv_lload_n hx hb d_MA_compares_167 rfl (lv_at hl 2 rfl) ?_
                    have hPc := hP.sb (wq := []) [] rfl
                    have hDc := hD.sb (wq := []) [] (by decide) rfl
                    have hKc := hK.sb (tyq := []) [] rfl
                    have hFc := va_free (wc := []) hD hS hA [] rfl
                    refine va_calli (va_runS (As := [.long p1, .long p2]) (rest := []) ⟨hx, hb, hml, hown, hts⟩ (c_JL_compareUnsigned l dC dI H.size p1 p2) ⟨callB_of 2 hts (gW kC_JL_compareUnsigned) rfl rfl rfl (hts _ kI_JL) (hts _ kM_MA_261) (by decide +kernel) ⟨Nat.le_of_ble_eq_true rfl, Nat.le_of_ble_eq_true rfl⟩, hts _ kT_JL_compareUnsigned⟩ ⟨fun a U g mk z => by obtain ⟨z0, z1, zP, zK, zD⟩ := z; exact ⟨z0, z1, zP, va_K.moved (u := U) (U := U.calling g mk a) (Vm.Alike.refl U.vm) zK, zD⟩, fun U hU hW => ⟨rfl, by rw [hU], va_P.he hU.symm hPc, va_K.moved hW.alike hKc, hDc.weaken (fun _ _ _ _ => trivial)⟩⟩ rfl rfl hl.1 rfl (lv_room (Nat.le_of_ble_eq_true rfl)) d_MA_compares_168 ⟨(Nat.zero_le _), (Nat.zero_le _)⟩) hS (fun q _ h => hFc q h) hFc (fun r10 u t H1 locs ht hvm hw hB hz1 hk1 hS => ?_)
                    try dsimp only at hw
                    try clear hw
                    obtain ⟨hP1, hK1, hD1⟩ := hB
                    replace hP1 := va_P.he ht hP1
                    obtain ⟨hP, hD⟩ := va_join (wr := []) (w1 := []) hP hD [] [] rfl rfl (by decide) (by decide) hk1 hFc hP1 hD1
                    clear hPc hDc hKc hFc hz1 hk1 hP1 hK1 hD1
                    rename Heap => H
                    have hP : va_P (dC, dI) cls [] H := hP
                    have hD : va_D A [] := hD
                    refine lv_if_lt (tgt := 178) hx hb d_MA_compares_171 (by decide) (fun c171 => ?_) (fun c171 => ?_)
                    · have q171 := ltI c171
                      refine lv_iconst (v := 0) hx hb d_MA_compares_178 (by decide) ?_
                      have hP9 := hP.sb (wq := []) [] rfl
                      have hD9 := hD.sb (wq := []) [] (by decide) rfl
                      exact W.zret (v := 0) hx hb hr (zn01 (Or.inl rfl)) (fun t ht hW => ⟨⟨0, (), rfl, (Or.inl rfl), va_P.he ht.symm hP9, va_K.moved hW.alike hK, hD9⟩, hS.F ht⟩) hS.2.2 d_MA_compares_179
                    · have q171 := nltI c171
                      refine lv_iconst (v := 1) hx hb d_MA_compares_174 (by decide) ?_
                      refine lv_goto (tgt := 179) hx hb d_MA_compares_175 (by decide) ?_
                      have hP9 := hP.sb (wq := []) [] rfl
                      have hD9 := hD.sb (wq := []) [] (by decide) rfl
                      exact W.zret (v := 1) hx hb hr (zn01 (Or.inr rfl)) (fun t ht hW => ⟨⟨1, (), rfl, (Or.inr rfl), va_P.he ht.symm hP9, va_K.moved hW.alike hK, hD9⟩, hS.F ht⟩) hS.2.2 d_MA_compares_179
abbrev b_MA_quotientWithoutSign : ByteArray := prog_6_method_23_code
def y_MA_quotientWithoutSign : MethodName := ⟨R_MA, "quotientWithoutSign", "(JJ)J"⟩
abbrev w_MA_quotientWithoutSign : List Cond := .code y_MA_quotientWithoutSign b_MA_quotientWithoutSign 8 (Option.some .long) :: lw_g
theorem kC_MA_quotientWithoutSign : Cond.code y_MA_quotientWithoutSign b_MA_quotientWithoutSign 8 (Option.some .long) ∈ lw_g := in_c7 232 rfl rfl
theorem d_MA_quotientWithoutSign_0 : decode b_MA_quotientWithoutSign 0 = .ok (.lload_n 2, 1) := bz_c32 (by decide +kernel)
theorem d_MA_quotientWithoutSign_1 : decode b_MA_quotientWithoutSign 1 = .ok (.lconst 0, 1) := bz_c9 (by decide +kernel)
theorem d_MA_quotientWithoutSign_2 : decode b_MA_quotientWithoutSign 2 = .ok (.lcmp, 1) := bz_c148 (by decide +kernel)
theorem d_MA_quotientWithoutSign_3 : decode b_MA_quotientWithoutSign 3 = .ok (.ifCond .gt 17, 3) := bz_c157 (by decide +kernel)
theorem d_MA_quotientWithoutSign_6 : decode b_MA_quotientWithoutSign 6 = .ok (.lload_n 0, 1) := bz_c30 (by decide +kernel)
theorem d_MA_quotientWithoutSign_7 : decode b_MA_quotientWithoutSign 7 = .ok (.lload_n 2, 1) := bz_c32 (by decide +kernel)
theorem d_MA_quotientWithoutSign_8 : decode b_MA_quotientWithoutSign 8 = .ok (.invokestatic 261, 3) := bz_c184 (by decide +kernel)
theorem d_MA_quotientWithoutSign_11 : decode b_MA_quotientWithoutSign 11 = .ok (.ifCond .ge 7, 3) := bz_c156 (by decide +kernel)
theorem d_MA_quotientWithoutSign_14 : decode b_MA_quotientWithoutSign 14 = .ok (.lconst 0, 1) := bz_c9 (by decide +kernel)
theorem d_MA_quotientWithoutSign_15 : decode b_MA_quotientWithoutSign 15 = .ok (.goto 4, 3) := bz_c167 (by decide +kernel)
theorem d_MA_quotientWithoutSign_18 : decode b_MA_quotientWithoutSign 18 = .ok (.lconst 1, 1) := bz_c10 (by decide +kernel)
theorem d_MA_quotientWithoutSign_19 : decode b_MA_quotientWithoutSign 19 = .ok (.lreturn, 1) := bz_c173 (by decide +kernel)
theorem d_MA_quotientWithoutSign_20 : decode b_MA_quotientWithoutSign 20 = .ok (.lload_n 0, 1) := bz_c30 (by decide +kernel)
theorem d_MA_quotientWithoutSign_21 : decode b_MA_quotientWithoutSign 21 = .ok (.lconst 0, 1) := bz_c9 (by decide +kernel)
theorem d_MA_quotientWithoutSign_22 : decode b_MA_quotientWithoutSign 22 = .ok (.lcmp, 1) := bz_c148 (by decide +kernel)
theorem d_MA_quotientWithoutSign_23 : decode b_MA_quotientWithoutSign 23 = .ok (.ifCond .lt 7, 3) := bz_c155 (by decide +kernel)
theorem d_MA_quotientWithoutSign_26 : decode b_MA_quotientWithoutSign 26 = .ok (.lload_n 0, 1) := bz_c30 (by decide +kernel)
theorem d_MA_quotientWithoutSign_27 : decode b_MA_quotientWithoutSign 27 = .ok (.lload_n 2, 1) := bz_c32 (by decide +kernel)
theorem d_MA_quotientWithoutSign_28 : decode b_MA_quotientWithoutSign 28 = .ok (.ldiv, 1) := by decide +kernel
theorem d_MA_quotientWithoutSign_29 : decode b_MA_quotientWithoutSign 29 = .ok (.lreturn, 1) := bz_c173 (by decide +kernel)
theorem d_MA_quotientWithoutSign_30 : decode b_MA_quotientWithoutSign 30 = .ok (.lload_n 0, 1) := bz_c30 (by decide +kernel)
theorem d_MA_quotientWithoutSign_31 : decode b_MA_quotientWithoutSign 31 = .ok (.iconst 1, 1) := bz_c4 (by decide +kernel)
theorem d_MA_quotientWithoutSign_32 : decode b_MA_quotientWithoutSign 32 = .ok (.lushr, 1) := bz_c125 (by decide +kernel)
theorem d_MA_quotientWithoutSign_33 : decode b_MA_quotientWithoutSign 33 = .ok (.lload_n 2, 1) := bz_c32 (by decide +kernel)
theorem d_MA_quotientWithoutSign_34 : decode b_MA_quotientWithoutSign 34 = .ok (.ldiv, 1) := by decide +kernel
theorem d_MA_quotientWithoutSign_35 : decode b_MA_quotientWithoutSign 35 = .ok (.iconst 1, 1) := bz_c4 (by decide +kernel)
theorem d_MA_quotientWithoutSign_36 : decode b_MA_quotientWithoutSign 36 = .ok (.lshl, 1) := bz_c121 (by decide +kernel)
theorem d_MA_quotientWithoutSign_37 : decode b_MA_quotientWithoutSign 37 = .ok (.lstore 4, 2) := bz_c55 (by decide +kernel)
theorem d_MA_quotientWithoutSign_39 : decode b_MA_quotientWithoutSign 39 = .ok (.lload_n 0, 1) := bz_c30 (by decide +kernel)
theorem d_MA_quotientWithoutSign_40 : decode b_MA_quotientWithoutSign 40 = .ok (.lload 4, 2) := bz_c22 (by decide +kernel)
theorem d_MA_quotientWithoutSign_42 : decode b_MA_quotientWithoutSign 42 = .ok (.lload_n 2, 1) := bz_c32 (by decide +kernel)
theorem d_MA_quotientWithoutSign_43 : decode b_MA_quotientWithoutSign 43 = .ok (.lmul, 1) := by decide +kernel
theorem d_MA_quotientWithoutSign_44 : decode b_MA_quotientWithoutSign 44 = .ok (.lsub, 1) := by decide +kernel
theorem d_MA_quotientWithoutSign_45 : decode b_MA_quotientWithoutSign 45 = .ok (.lstore 6, 2) := bz_c55 (by decide +kernel)
theorem d_MA_quotientWithoutSign_47 : decode b_MA_quotientWithoutSign 47 = .ok (.lload 6, 2) := bz_c22 (by decide +kernel)
theorem d_MA_quotientWithoutSign_49 : decode b_MA_quotientWithoutSign 49 = .ok (.lload_n 2, 1) := bz_c32 (by decide +kernel)
theorem d_MA_quotientWithoutSign_50 : decode b_MA_quotientWithoutSign 50 = .ok (.invokestatic 261, 3) := bz_c184 (by decide +kernel)
theorem d_MA_quotientWithoutSign_53 : decode b_MA_quotientWithoutSign 53 = .ok (.ifCond .ge 8, 3) := bz_c156 (by decide +kernel)
theorem d_MA_quotientWithoutSign_56 : decode b_MA_quotientWithoutSign 56 = .ok (.lload 4, 2) := bz_c22 (by decide +kernel)
theorem d_MA_quotientWithoutSign_58 : decode b_MA_quotientWithoutSign 58 = .ok (.goto 7, 3) := bz_c167 (by decide +kernel)
theorem d_MA_quotientWithoutSign_61 : decode b_MA_quotientWithoutSign 61 = .ok (.lload 4, 2) := bz_c22 (by decide +kernel)
theorem d_MA_quotientWithoutSign_63 : decode b_MA_quotientWithoutSign 63 = .ok (.lconst 1, 1) := bz_c10 (by decide +kernel)
theorem d_MA_quotientWithoutSign_64 : decode b_MA_quotientWithoutSign 64 = .ok (.ladd, 1) := bz_c97 (by decide +kernel)
theorem d_MA_quotientWithoutSign_65 : decode b_MA_quotientWithoutSign 65 = .ok (.lreturn, 1) := bz_c173 (by decide +kernel)
abbrev at_MA_quotientWithoutSign (dC : Nat → ClassId) (dI : Nat → Nat → Nat)  (A : Nat → Prop) (u : Unit) (t : State) : Prop := match u with | _ => va_P (dC, dI) cls [] t.heap ∧ va_K (dC, dI) cls [] t ∧ va_D A []
set_option maxHeartbeats 4000000 in
set_option maxRecDepth 100000 in
theorem c_MA_quotientWithoutSign (l : Launch) (dC : Nat → ClassId) (dI : Nat → Nat → Nat) (sz : Nat)    (p0 : Int64) (p1 : Int64)   : Met l y_MA_quotientWithoutSign w_MA_quotientWithoutSign ({ frames := 2, cells := 0, slots := 0, locals := 46 }) (va_Pc [.long p0, .long p1] (fun U => U.heap.size = sz ∧ va_P (dC, dI) cls [] U.heap ∧ va_K (dC, dI) cls [] U ∧ va_D (fun _ => True) [])) (va_Ql (fun (r : Int64) (u : Unit) => match u with | _ => True) (at_MA_quotientWithoutSign dC dI  (va_A [] sz)) (va_A [] sz)) 0 0 (va_A [] sz) := by
  refine Met.ofW (cc := b_MA_quotientWithoutSign) (maxL := 8) (ret := (Option.some .long)) (by decide) rfl ?_
  intro p e s m args below meth c s₁ B hml hv
  obtain ⟨rfl, hsz, hP, hK, hD0⟩ := hv
  have hx := B.exec
  have hb := B.bytes
  have hr := B.returns
  have hts0 := atoms_spec (ws := w_MA_quotientWithoutSign) B.pre
  have hts : ∀ w ∈ lw_g, w.before _ s = true := fun w h => hts0 w (List.mem_cons_of_mem _ h)
  have hown : s.vm.findClass R_MA = some m.cls := findClass_of_methodNamed B.named
  have hlocks := B.notSynchronized
  clear hts0
  subst hsz
  have hD := hD0.self (sz := s.heap.size)
  generalize hAe : va_A [] s.heap.size = A at hD ⊢
  have hA : ∀ q : Nat, s.heap.size ≤ q → A q := fun q h => by rw [← hAe]; exact Or.inr h
  clear hAe
  have hP : va_P (dC, dI) cls [] s.heap := hP
  have hl := lv_entry ([.long p0, .long p1]) (n := 8) (Nat.le_of_ble_eq_true rfl)
  rw [lg_entry_eq]
  generalize (lg_sl ([.long p0, .long p1]) ++ List.replicate (8 - (lg_sl ([.long p0, .long p1])).length) Slot.unset).toArray = ls at hl ⊢
  have hl : lv_has ls 8 [(0, .long p0), (2, .long p1)] := hl
  have k0 : (0 : Int32).toInt = 0 := by decide
  refine w_gen (A := A) hP (fun H locs hP hS => ?_)
  have k1 : (1 : Int32).toInt = 1 := by decide
  refine lv_lload_n hx hb d_MA_quotientWithoutSign_0 rfl (lv_at hl 1 rfl) ?_
  refine lv_lconst (v := 0) hx hb d_MA_quotientWithoutSign_1 (by decide) ?_
  have kl0 : (0 : Int64).toInt = 0 := by decide
  refine W.lcmp hx hb d_MA_quotientWithoutSign_2 ?_
  refine lv_topi (fun x1 ex1 => ?_)
  have tx1 := lgc ex1
  refine lv_if_gt (tgt := 20) hx hb d_MA_quotientWithoutSign_3 (by decide) (fun c3 => ?_) (fun c3 => ?_)
  · have q3 := ltI c3
    refine lv_lload_n hx hb d_MA_quotientWithoutSign_20 rfl (lv_at hl 0 rfl) ?_
    refine lv_lconst (v := 0) hx hb d_MA_quotientWithoutSign_21 (by decide) ?_
    have kl0 : (0 : Int64).toInt = 0 := by decide
    refine W.lcmp hx hb d_MA_quotientWithoutSign_22 ?_
    refine lv_topi (fun x2 ex2 => ?_)
    have tx2 := lgc ex2
    refine lv_if_lt (tgt := 30) hx hb d_MA_quotientWithoutSign_23 (by decide) (fun c23 => ?_) (fun c23 => ?_)
    · have q23 := ltI c23
      refine lv_lload_n hx hb d_MA_quotientWithoutSign_30 rfl (lv_at hl 0 rfl) ?_
      refine lv_iconst (v := 1) hx hb d_MA_quotientWithoutSign_31 (by decide) ?_
      refine lv_lushr hx hb d_MA_quotientWithoutSign_32 rfl ?_
      refine lv_topl (fun x3 ex3 => ?_)
      refine lv_lload_n hx hb d_MA_quotientWithoutSign_33 rfl (lv_at hl 1 rfl) ?_
      refine lv_ldiv hx hb d_MA_quotientWithoutSign_34 (nz64 (by (first | (apply Int.le_antisymm <;> omega) | omega))) ?_
      refine lv_topl (fun x4 ex4 => ?_)
      refine lv_iconst (v := 1) hx hb d_MA_quotientWithoutSign_35 (by decide) ?_
      refine lv_lshl hx hb d_MA_quotientWithoutSign_36 rfl ?_
      refine lv_topl (fun x5 ex5 => ?_)
      refine lv_lstore (lv' := [(4, .long x5), (0, .long p0), (2, .long p1)]) hx hb d_MA_quotientWithoutSign_37 hl (by decide) rfl (fun ls hl => ?_)
      refine lv_lload_n hx hb d_MA_quotientWithoutSign_39 rfl (lv_at hl 1 rfl) ?_
      refine lv_lload hx hb d_MA_quotientWithoutSign_40 (lv_at hl 0 rfl) ?_
      refine lv_lload_n hx hb d_MA_quotientWithoutSign_42 rfl (lv_at hl 2 rfl) ?_
      refine lv_lmul hx hb d_MA_quotientWithoutSign_43 ?_
      refine lv_topl (fun x6 ex6 => ?_)
      refine lv_lsub hx hb d_MA_quotientWithoutSign_44 ?_
      refine lv_topl (fun x7 ex7 => ?_)
      refine lv_lstore (lv' := [(6, .long x7), (4, .long x5), (0, .long p0), (2, .long p1)]) hx hb d_MA_quotientWithoutSign_45 hl (by decide) rfl (fun ls hl => ?_)
      refine lv_lload hx hb d_MA_quotientWithoutSign_47 (lv_at hl 0 rfl) ?_
      refine lv_lload_n hx hb d_MA_quotientWithoutSign_49 rfl (lv_at hl 3 rfl) ?_
      have hPc := hP.sb (wq := []) [] rfl
      have hDc := hD.sb (wq := []) [] (by decide) rfl
      have hKc := hK.sb (tyq := []) [] rfl
      have hFc := va_free (wc := []) hD hS hA [] rfl
      refine va_calli (va_runS (As := [.long x7, .long p1]) (rest := []) ⟨hx, hb, hml, hown, hts⟩ (c_JL_compareUnsigned l dC dI H.size x7 p1) ⟨callB_of 2 hts (gW kC_JL_compareUnsigned) rfl rfl rfl (hts _ kI_JL) (hts _ kM_MA_261) (by decide +kernel) ⟨Nat.le_of_ble_eq_true rfl, Nat.le_of_ble_eq_true rfl⟩, hts _ kT_JL_compareUnsigned⟩ ⟨fun a U g mk z => by obtain ⟨z0, z1, zP, zK, zD⟩ := z; exact ⟨z0, z1, zP, va_K.moved (u := U) (U := U.calling g mk a) (Vm.Alike.refl U.vm) zK, zD⟩, fun U hU hW => ⟨rfl, by rw [hU], va_P.he hU.symm hPc, va_K.moved hW.alike hKc, hDc.weaken (fun _ _ _ _ => trivial)⟩⟩ rfl rfl hl.1 rfl (lv_room (Nat.le_of_ble_eq_true rfl)) d_MA_quotientWithoutSign_50 ⟨(Nat.zero_le _), (Nat.zero_le _)⟩) hS (fun q _ h => hFc q h) hFc (fun r8 u t H1 locs ht hvm hw hB hz1 hk1 hS => ?_)
      try dsimp only at hw
      try clear hw
      obtain ⟨hP1, hK1, hD1⟩ := hB
      replace hP1 := va_P.he ht hP1
      obtain ⟨hP, hD⟩ := va_join (wr := []) (w1 := []) hP hD [] [] rfl rfl (by decide) (by decide) hk1 hFc hP1 hD1
      clear hPc hDc hKc hFc hz1 hk1 hP1 hK1 hD1
      rename Heap => H
      have hP : va_P (dC, dI) cls [] H := hP
      have hD : va_D A [] := hD
      refine lv_if_ge (tgt := 61) hx hb d_MA_quotientWithoutSign_53 (by decide) (fun c53 => ?_) (fun c53 => ?_)
      · have q53 := leI c53
        refine lv_lload hx hb d_MA_quotientWithoutSign_61 (lv_at hl 1 rfl) ?_
        refine lv_lconst (v := 1) hx hb d_MA_quotientWithoutSign_63 (by decide) ?_
        have kl1 : (1 : Int64).toInt = 1 := by decide
        refine lv_ladd hx hb d_MA_quotientWithoutSign_64 ?_
        refine lv_topl (fun x9 ex9 => ?_)
        have hP9 := hP.sb (wq := []) [] rfl
        have hD9 := hD.sb (wq := []) [] (by decide) rfl
        exact W.lret (v := x9) hx hb hr (fun t ht hW => ⟨⟨x9, (), rfl, ⟨⟩, va_P.he ht.symm hP9, va_K.moved hW.alike hK, hD9⟩, hS.F ht⟩) hS.2.2 d_MA_quotientWithoutSign_65
      · have q53 := nleI c53
        refine lv_lload hx hb d_MA_quotientWithoutSign_56 (lv_at hl 1 rfl) ?_
        refine lv_goto (tgt := 65) hx hb d_MA_quotientWithoutSign_58 (by decide) ?_
        have hP9 := hP.sb (wq := []) [] rfl
        have hD9 := hD.sb (wq := []) [] (by decide) rfl
        exact W.lret (v := x5) hx hb hr (fun t ht hW => ⟨⟨x5, (), rfl, ⟨⟩, va_P.he ht.symm hP9, va_K.moved hW.alike hK, hD9⟩, hS.F ht⟩) hS.2.2 d_MA_quotientWithoutSign_65
    · have q23 := nltI c23
      refine lv_lload_n hx hb d_MA_quotientWithoutSign_26 rfl (lv_at hl 0 rfl) ?_
      refine lv_lload_n hx hb d_MA_quotientWithoutSign_27 rfl (lv_at hl 1 rfl) ?_
      refine lv_ldiv hx hb d_MA_quotientWithoutSign_28 (nz64 (by (first | (apply Int.le_antisymm <;> omega) | omega))) ?_
      refine lv_topl (fun x10 ex10 => ?_)
      have hP9 := hP.sb (wq := []) [] rfl
      have hD9 := hD.sb (wq := []) [] (by decide) rfl
      exact W.lret (v := x10) hx hb hr (fun t ht hW => ⟨⟨x10, (), rfl, ⟨⟩, va_P.he ht.symm hP9, va_K.moved hW.alike hK, hD9⟩, hS.F ht⟩) hS.2.2 d_MA_quotientWithoutSign_29
  · have q3 := nltI c3
    refine lv_lload_n hx hb d_MA_quotientWithoutSign_6 rfl (lv_at hl 0 rfl) ?_
    refine lv_lload_n hx hb d_MA_quotientWithoutSign_7 rfl (lv_at hl 1 rfl) ?_
    have hPc := hP.sb (wq := []) [] rfl
    have hDc := hD.sb (wq := []) [] (by decide) rfl
    have hKc := hK.sb (tyq := []) [] rfl
    have hFc := va_free (wc := []) hD hS hA [] rfl
    refine va_calli (va_runS (As := [.long p0, .long p1]) (rest := []) ⟨hx, hb, hml, hown, hts⟩ (c_JL_compareUnsigned l dC dI H.size p0 p1) ⟨callB_of 2 hts (gW kC_JL_compareUnsigned) rfl rfl rfl (hts _ kI_JL) (hts _ kM_MA_261) (by decide +kernel) ⟨Nat.le_of_ble_eq_true rfl, Nat.le_of_ble_eq_true rfl⟩, hts _ kT_JL_compareUnsigned⟩ ⟨fun a U g mk z => by obtain ⟨z0, z1, zP, zK, zD⟩ := z; exact ⟨z0, z1, zP, va_K.moved (u := U) (U := U.calling g mk a) (Vm.Alike.refl U.vm) zK, zD⟩, fun U hU hW => ⟨rfl, by rw [hU], va_P.he hU.symm hPc, va_K.moved hW.alike hKc, hDc.weaken (fun _ _ _ _ => trivial)⟩⟩ rfl rfl hl.1 rfl (lv_room (Nat.le_of_ble_eq_true rfl)) d_MA_quotientWithoutSign_8 ⟨(Nat.zero_le _), (Nat.zero_le _)⟩) hS (fun q _ h => hFc q h) hFc (fun r11 u t H1 locs ht hvm hw hB hz1 hk1 hS => ?_)
    try dsimp only at hw
    try clear hw
    obtain ⟨hP1, hK1, hD1⟩ := hB
    replace hP1 := va_P.he ht hP1
    obtain ⟨hP, hD⟩ := va_join (wr := []) (w1 := []) hP hD [] [] rfl rfl (by decide) (by decide) hk1 hFc hP1 hD1
    clear hPc hDc hKc hFc hz1 hk1 hP1 hK1 hD1
    rename Heap => H
    have hP : va_P (dC, dI) cls [] H := hP
    have hD : va_D A [] := hD
    refine lv_if_ge (tgt := 18) hx hb d_MA_quotientWithoutSign_11 (by decide) (fun c11 => ?_) (fun c11 => ?_)
    · have q11 := leI c11
      refine lv_lconst (v := 1) hx hb d_MA_quotientWithoutSign_18 (by decide) ?_
      have kl1 : (1 : Int64).toInt = 1 := by decide
      have hP9 := hP.sb (wq := []) [] rfl
      have hD9 := hD.sb (wq := []) [] (by decide) rfl
      exact W.lret (v := 1) hx hb hr (fun t ht hW => ⟨⟨1, (), rfl, ⟨⟩, va_P.he ht.symm hP9, va_K.moved hW.alike hK, hD9⟩, hS.F ht⟩) hS.2.2 d_MA_quotientWithoutSign_19
    · have q11 := nleI c11
      refine lv_lconst (v := 0) hx hb d_MA_quotientWithoutSign_14 (by decide) ?_
      have kl0 : (0 : Int64).toInt = 0 := by decide
      refine lv_goto (tgt := 19) hx hb d_MA_quotientWithoutSign_15 (by decide) ?_
      have hP9 := hP.sb (wq := []) [] rfl
      have hD9 := hD.sb (wq := []) [] (by decide) rfl
      exact W.lret (v := 0) hx hb hr (fun t ht hW => ⟨⟨0, (), rfl, ⟨⟩, va_P.he ht.symm hP9, va_K.moved hW.alike hK, hD9⟩, hS.F ht⟩) hS.2.2 d_MA_quotientWithoutSign_19
abbrev b_MA_ofInts : ByteArray := prog_6_method_24_code
def y_MA_ofInts : MethodName := ⟨R_MA, "ofInts", "(III)I"⟩
abbrev w_MA_ofInts : List Cond := .code y_MA_ofInts b_MA_ofInts 3 (Option.some .int) :: lw_g
theorem kC_MA_ofInts : Cond.code y_MA_ofInts b_MA_ofInts 3 (Option.some .int) ∈ lw_g := in_c7 235 rfl rfl
theorem d_MA_ofInts_0 : decode b_MA_ofInts 0 = .ok (.iload_n 0, 1) := bz_c26 (by decide +kernel)
theorem d_MA_ofInts_1 : decode b_MA_ofInts 1 = .ok (.tableswitch 113 0 13 #[71, 75, 79, 113, 113, 113, 113, 83, 87, 91, 95, 99, 103, 107], 71) := by decide +kernel
theorem d_MA_ofInts_72 : decode b_MA_ofInts 72 = .ok (.iload_n 1, 1) := bz_c27 (by decide +kernel)
theorem d_MA_ofInts_73 : decode b_MA_ofInts 73 = .ok (.iload_n 2, 1) := bz_c28 (by decide +kernel)
theorem d_MA_ofInts_74 : decode b_MA_ofInts 74 = .ok (.iadd, 1) := bz_c96 (by decide +kernel)
theorem d_MA_ofInts_75 : decode b_MA_ofInts 75 = .ok (.ireturn, 1) := bz_c172 (by decide +kernel)
theorem d_MA_ofInts_76 : decode b_MA_ofInts 76 = .ok (.iload_n 1, 1) := bz_c27 (by decide +kernel)
theorem d_MA_ofInts_77 : decode b_MA_ofInts 77 = .ok (.iload_n 2, 1) := bz_c28 (by decide +kernel)
theorem d_MA_ofInts_78 : decode b_MA_ofInts 78 = .ok (.isub, 1) := bz_c100 (by decide +kernel)
theorem d_MA_ofInts_79 : decode b_MA_ofInts 79 = .ok (.ireturn, 1) := bz_c172 (by decide +kernel)
theorem d_MA_ofInts_80 : decode b_MA_ofInts 80 = .ok (.iload_n 1, 1) := bz_c27 (by decide +kernel)
theorem d_MA_ofInts_81 : decode b_MA_ofInts 81 = .ok (.iload_n 2, 1) := bz_c28 (by decide +kernel)
theorem d_MA_ofInts_82 : decode b_MA_ofInts 82 = .ok (.imul, 1) := bz_c104 (by decide +kernel)
theorem d_MA_ofInts_83 : decode b_MA_ofInts 83 = .ok (.ireturn, 1) := bz_c172 (by decide +kernel)
theorem d_MA_ofInts_84 : decode b_MA_ofInts 84 = .ok (.iload_n 1, 1) := bz_c27 (by decide +kernel)
theorem d_MA_ofInts_85 : decode b_MA_ofInts 85 = .ok (.iload_n 2, 1) := bz_c28 (by decide +kernel)
theorem d_MA_ofInts_86 : decode b_MA_ofInts 86 = .ok (.iand, 1) := bz_c126 (by decide +kernel)
theorem d_MA_ofInts_87 : decode b_MA_ofInts 87 = .ok (.ireturn, 1) := bz_c172 (by decide +kernel)
theorem d_MA_ofInts_88 : decode b_MA_ofInts 88 = .ok (.iload_n 1, 1) := bz_c27 (by decide +kernel)
theorem d_MA_ofInts_89 : decode b_MA_ofInts 89 = .ok (.iload_n 2, 1) := bz_c28 (by decide +kernel)
theorem d_MA_ofInts_90 : decode b_MA_ofInts 90 = .ok (.ior, 1) := by decide +kernel
theorem d_MA_ofInts_91 : decode b_MA_ofInts 91 = .ok (.ireturn, 1) := bz_c172 (by decide +kernel)
theorem d_MA_ofInts_92 : decode b_MA_ofInts 92 = .ok (.iload_n 1, 1) := bz_c27 (by decide +kernel)
theorem d_MA_ofInts_93 : decode b_MA_ofInts 93 = .ok (.iload_n 2, 1) := bz_c28 (by decide +kernel)
theorem d_MA_ofInts_94 : decode b_MA_ofInts 94 = .ok (.ixor, 1) := by decide +kernel
theorem d_MA_ofInts_95 : decode b_MA_ofInts 95 = .ok (.ireturn, 1) := bz_c172 (by decide +kernel)
theorem d_MA_ofInts_96 : decode b_MA_ofInts 96 = .ok (.iload_n 1, 1) := bz_c27 (by decide +kernel)
theorem d_MA_ofInts_97 : decode b_MA_ofInts 97 = .ok (.iload_n 2, 1) := bz_c28 (by decide +kernel)
theorem d_MA_ofInts_98 : decode b_MA_ofInts 98 = .ok (.ishl, 1) := by decide +kernel
theorem d_MA_ofInts_99 : decode b_MA_ofInts 99 = .ok (.ireturn, 1) := bz_c172 (by decide +kernel)
theorem d_MA_ofInts_100 : decode b_MA_ofInts 100 = .ok (.iload_n 1, 1) := bz_c27 (by decide +kernel)
theorem d_MA_ofInts_101 : decode b_MA_ofInts 101 = .ok (.iload_n 2, 1) := bz_c28 (by decide +kernel)
theorem d_MA_ofInts_102 : decode b_MA_ofInts 102 = .ok (.ishr, 1) := by decide +kernel
theorem d_MA_ofInts_103 : decode b_MA_ofInts 103 = .ok (.ireturn, 1) := bz_c172 (by decide +kernel)
theorem d_MA_ofInts_104 : decode b_MA_ofInts 104 = .ok (.iload_n 1, 1) := bz_c27 (by decide +kernel)
theorem d_MA_ofInts_105 : decode b_MA_ofInts 105 = .ok (.iload_n 2, 1) := bz_c28 (by decide +kernel)
theorem d_MA_ofInts_106 : decode b_MA_ofInts 106 = .ok (.iushr, 1) := bz_c124 (by decide +kernel)
theorem d_MA_ofInts_107 : decode b_MA_ofInts 107 = .ok (.ireturn, 1) := bz_c172 (by decide +kernel)
theorem d_MA_ofInts_108 : decode b_MA_ofInts 108 = .ok (.iload_n 1, 1) := bz_c27 (by decide +kernel)
theorem d_MA_ofInts_109 : decode b_MA_ofInts 109 = .ok (.iload_n 2, 1) := bz_c28 (by decide +kernel)
theorem d_MA_ofInts_110 : decode b_MA_ofInts 110 = .ok (.invokestatic 272, 3) := bz_c184 (by decide +kernel)
theorem d_MA_ofInts_113 : decode b_MA_ofInts 113 = .ok (.ireturn, 1) := bz_c172 (by decide +kernel)
theorem d_MA_ofInts_114 : decode b_MA_ofInts 114 = .ok (.iload_n 1, 1) := bz_c27 (by decide +kernel)
theorem d_MA_ofInts_115 : decode b_MA_ofInts 115 = .ok (.iload_n 2, 1) := bz_c28 (by decide +kernel)
theorem d_MA_ofInts_116 : decode b_MA_ofInts 116 = .ok (.invokestatic 275, 3) := bz_c184 (by decide +kernel)
theorem d_MA_ofInts_119 : decode b_MA_ofInts 119 = .ok (.ireturn, 1) := bz_c172 (by decide +kernel)
theorem kM_MA_275 : Cond.methodLink R_MA 275 y_JI_rotateRight ∈ lw_g := in_c7 239 rfl rfl
theorem kT_JI_rotateRight : Cond.static y_JI_rotateRight ∈ lw_g := in_c8 0 rfl rfl
theorem kM_MA_272 : Cond.methodLink R_MA 272 y_JI_rotateLeft ∈ lw_g := in_c7 236 rfl rfl
theorem kT_JI_rotateLeft : Cond.static y_JI_rotateLeft ∈ lw_g := in_c7 237 rfl rfl
abbrev at_MA_ofInts (dC : Nat → ClassId) (dI : Nat → Nat → Nat)  (A : Nat → Prop) (u : Unit) (t : State) : Prop := match u with | _ => va_P (dC, dI) cls [] t.heap ∧ va_K (dC, dI) cls [] t ∧ va_D A []
set_option maxHeartbeats 4000000 in
set_option maxRecDepth 100000 in
theorem c_MA_ofInts (l : Launch) (dC : Nat → ClassId) (dI : Nat → Nat → Nat) (sz : Nat)    (p0 : Int32) (p1 : Int32) (p2 : Int32)   : Met l y_MA_ofInts w_MA_ofInts ({ frames := 1, cells := 0, slots := 0, locals := 21 }) (va_Pc [.int p0, .int p1, .int p2] (fun U => U.heap.size = sz ∧ va_P (dC, dI) cls [] U.heap ∧ va_K (dC, dI) cls [] U ∧ va_D (fun _ => True) [])) (va_Qi (fun (r : Int32) (u : Unit) => match u with | _ => True) (at_MA_ofInts dC dI  (va_A [] sz)) (va_A [] sz)) 0 0 (va_A [] sz) := by
  refine Met.ofW (cc := b_MA_ofInts) (maxL := 3) (ret := (Option.some .int)) (by decide) rfl ?_
  intro p e s m args below meth c s₁ B hml hv
  obtain ⟨rfl, hsz, hP, hK, hD0⟩ := hv
  have hx := B.exec
  have hb := B.bytes
  have hr := B.returns
  have hts0 := atoms_spec (ws := w_MA_ofInts) B.pre
  have hts : ∀ w ∈ lw_g, w.before _ s = true := fun w h => hts0 w (List.mem_cons_of_mem _ h)
  have hown : s.vm.findClass R_MA = some m.cls := findClass_of_methodNamed B.named
  have hlocks := B.notSynchronized
  clear hts0
  subst hsz
  have hD := hD0.self (sz := s.heap.size)
  generalize hAe : va_A [] s.heap.size = A at hD ⊢
  have hA : ∀ q : Nat, s.heap.size ≤ q → A q := fun q h => by rw [← hAe]; exact Or.inr h
  clear hAe
  have hP : va_P (dC, dI) cls [] s.heap := hP
  have hl := lv_entry ([.int p0, .int p1, .int p2]) (n := 3) (Nat.le_of_ble_eq_true rfl)
  rw [lg_entry_eq]
  generalize (lg_sl ([.int p0, .int p1, .int p2]) ++ List.replicate (3 - (lg_sl ([.int p0, .int p1, .int p2])).length) Slot.unset).toArray = ls at hl ⊢
  have hl : lv_has ls 3 [(0, .int p0), (1, .int p1), (2, .int p2)] := hl
  have k0 : (0 : Int32).toInt = 0 := by decide
  refine w_gen (A := A) hP (fun H locs hP hS => ?_)
  have lo_p0 := i32_lo p0
  have hi_p0 := i32_hi p0
  have lo_p1 := i32_lo p1
  have hi_p1 := i32_hi p1
  have lo_p2 := i32_lo p2
  have hi_p2 := i32_hi p2
  refine lv_iload_n hx hb d_MA_ofInts_0 rfl (lv_at hl 0 rfl) ?_
  by_cases g1_72 : p0.toInt = 0
  · have ho1 : tab_off 113 0 13 #[71, 75, 79, 113, 113, 113, 113, 83, 87, 91, 95, 99, 103, 107] p0.toInt = 71 := by rw [g1_72]; rfl
    refine lv_tab (tgt := 72) hx hb d_MA_ofInts_1 (by decide) ho1 (by decide) ?_
    clear ho1
    refine lv_iload_n hx hb d_MA_ofInts_72 rfl (lv_at hl 1 rfl) ?_
    refine lv_iload_n hx hb d_MA_ofInts_73 rfl (lv_at hl 2 rfl) ?_
    refine lv_iadd hx hb d_MA_ofInts_74 ?_
    refine lv_topi (fun x1 ex1 => ?_)
    have hP9 := hP.sb (wq := []) [] rfl
    have hD9 := hD.sb (wq := []) [] (by decide) rfl
    exact W.iret (v := x1) hx hb hr (fun t ht hW => ⟨⟨x1, (), rfl, ⟨⟩, va_P.he ht.symm hP9, va_K.moved hW.alike hK, hD9⟩, hS.F ht⟩) hS.2.2 d_MA_ofInts_75
  · skip
    by_cases g1_76 : p0.toInt = 1
    · have ho1 : tab_off 113 0 13 #[71, 75, 79, 113, 113, 113, 113, 83, 87, 91, 95, 99, 103, 107] p0.toInt = 75 := by rw [g1_76]; rfl
      refine lv_tab (tgt := 76) hx hb d_MA_ofInts_1 (by decide) ho1 (by decide) ?_
      clear ho1
      refine lv_iload_n hx hb d_MA_ofInts_76 rfl (lv_at hl 1 rfl) ?_
      refine lv_iload_n hx hb d_MA_ofInts_77 rfl (lv_at hl 2 rfl) ?_
      refine lv_isub hx hb d_MA_ofInts_78 ?_
      refine lv_topi (fun x2 ex2 => ?_)
      have hP9 := hP.sb (wq := []) [] rfl
      have hD9 := hD.sb (wq := []) [] (by decide) rfl
      exact W.iret (v := x2) hx hb hr (fun t ht hW => ⟨⟨x2, (), rfl, ⟨⟩, va_P.he ht.symm hP9, va_K.moved hW.alike hK, hD9⟩, hS.F ht⟩) hS.2.2 d_MA_ofInts_79
    · skip
      by_cases g1_80 : p0.toInt = 2
      · have ho1 : tab_off 113 0 13 #[71, 75, 79, 113, 113, 113, 113, 83, 87, 91, 95, 99, 103, 107] p0.toInt = 79 := by rw [g1_80]; rfl
        refine lv_tab (tgt := 80) hx hb d_MA_ofInts_1 (by decide) ho1 (by decide) ?_
        clear ho1
        refine lv_iload_n hx hb d_MA_ofInts_80 rfl (lv_at hl 1 rfl) ?_
        refine lv_iload_n hx hb d_MA_ofInts_81 rfl (lv_at hl 2 rfl) ?_
        refine lv_imul hx hb d_MA_ofInts_82 ?_
        refine lv_topi (fun x3 ex3 => ?_)
        have hP9 := hP.sb (wq := []) [] rfl
        have hD9 := hD.sb (wq := []) [] (by decide) rfl
        exact W.iret (v := x3) hx hb hr (fun t ht hW => ⟨⟨x3, (), rfl, ⟨⟩, va_P.he ht.symm hP9, va_K.moved hW.alike hK, hD9⟩, hS.F ht⟩) hS.2.2 d_MA_ofInts_83
      · skip
        by_cases g1_84 : p0.toInt = 7
        · have ho1 : tab_off 113 0 13 #[71, 75, 79, 113, 113, 113, 113, 83, 87, 91, 95, 99, 103, 107] p0.toInt = 83 := by rw [g1_84]; rfl
          refine lv_tab (tgt := 84) hx hb d_MA_ofInts_1 (by decide) ho1 (by decide) ?_
          clear ho1
          refine lv_iload_n hx hb d_MA_ofInts_84 rfl (lv_at hl 1 rfl) ?_
          refine lv_iload_n hx hb d_MA_ofInts_85 rfl (lv_at hl 2 rfl) ?_
          refine lv_iand hx hb d_MA_ofInts_86 ?_
          refine lv_topi (fun x4 ex4 => ?_)
          have hP9 := hP.sb (wq := []) [] rfl
          have hD9 := hD.sb (wq := []) [] (by decide) rfl
          exact W.iret (v := x4) hx hb hr (fun t ht hW => ⟨⟨x4, (), rfl, ⟨⟩, va_P.he ht.symm hP9, va_K.moved hW.alike hK, hD9⟩, hS.F ht⟩) hS.2.2 d_MA_ofInts_87
        · skip
          by_cases g1_88 : p0.toInt = 8
          · have ho1 : tab_off 113 0 13 #[71, 75, 79, 113, 113, 113, 113, 83, 87, 91, 95, 99, 103, 107] p0.toInt = 87 := by rw [g1_88]; rfl
            refine lv_tab (tgt := 88) hx hb d_MA_ofInts_1 (by decide) ho1 (by decide) ?_
            clear ho1
            refine lv_iload_n hx hb d_MA_ofInts_88 rfl (lv_at hl 1 rfl) ?_
            refine lv_iload_n hx hb d_MA_ofInts_89 rfl (lv_at hl 2 rfl) ?_
            refine lv_ior hx hb d_MA_ofInts_90 ?_
            refine lv_topi (fun x5 ex5 => ?_)
            have hP9 := hP.sb (wq := []) [] rfl
            have hD9 := hD.sb (wq := []) [] (by decide) rfl
            exact W.iret (v := x5) hx hb hr (fun t ht hW => ⟨⟨x5, (), rfl, ⟨⟩, va_P.he ht.symm hP9, va_K.moved hW.alike hK, hD9⟩, hS.F ht⟩) hS.2.2 d_MA_ofInts_91
          · skip
            by_cases g1_92 : p0.toInt = 9
            · have ho1 : tab_off 113 0 13 #[71, 75, 79, 113, 113, 113, 113, 83, 87, 91, 95, 99, 103, 107] p0.toInt = 91 := by rw [g1_92]; rfl
              refine lv_tab (tgt := 92) hx hb d_MA_ofInts_1 (by decide) ho1 (by decide) ?_
              clear ho1
              refine lv_iload_n hx hb d_MA_ofInts_92 rfl (lv_at hl 1 rfl) ?_
              refine lv_iload_n hx hb d_MA_ofInts_93 rfl (lv_at hl 2 rfl) ?_
              refine lv_ixor hx hb d_MA_ofInts_94 ?_
              refine lv_topi (fun x6 ex6 => ?_)
              have hP9 := hP.sb (wq := []) [] rfl
              have hD9 := hD.sb (wq := []) [] (by decide) rfl
              exact W.iret (v := x6) hx hb hr (fun t ht hW => ⟨⟨x6, (), rfl, ⟨⟩, va_P.he ht.symm hP9, va_K.moved hW.alike hK, hD9⟩, hS.F ht⟩) hS.2.2 d_MA_ofInts_95
            · skip
              by_cases g1_96 : p0.toInt = 10
              · have ho1 : tab_off 113 0 13 #[71, 75, 79, 113, 113, 113, 113, 83, 87, 91, 95, 99, 103, 107] p0.toInt = 95 := by rw [g1_96]; rfl
                refine lv_tab (tgt := 96) hx hb d_MA_ofInts_1 (by decide) ho1 (by decide) ?_
                clear ho1
                refine lv_iload_n hx hb d_MA_ofInts_96 rfl (lv_at hl 1 rfl) ?_
                refine lv_iload_n hx hb d_MA_ofInts_97 rfl (lv_at hl 2 rfl) ?_
                refine lv_ishl hx hb d_MA_ofInts_98 ?_
                refine lv_topi (fun x7 ex7 => ?_)
                have hP9 := hP.sb (wq := []) [] rfl
                have hD9 := hD.sb (wq := []) [] (by decide) rfl
                exact W.iret (v := x7) hx hb hr (fun t ht hW => ⟨⟨x7, (), rfl, ⟨⟩, va_P.he ht.symm hP9, va_K.moved hW.alike hK, hD9⟩, hS.F ht⟩) hS.2.2 d_MA_ofInts_99
              · skip
                by_cases g1_100 : p0.toInt = 11
                · have ho1 : tab_off 113 0 13 #[71, 75, 79, 113, 113, 113, 113, 83, 87, 91, 95, 99, 103, 107] p0.toInt = 99 := by rw [g1_100]; rfl
                  refine lv_tab (tgt := 100) hx hb d_MA_ofInts_1 (by decide) ho1 (by decide) ?_
                  clear ho1
                  refine lv_iload_n hx hb d_MA_ofInts_100 rfl (lv_at hl 1 rfl) ?_
                  refine lv_iload_n hx hb d_MA_ofInts_101 rfl (lv_at hl 2 rfl) ?_
                  refine lv_ishr hx hb d_MA_ofInts_102 ?_
                  refine lv_topi (fun x8 ex8 => ?_)
                  have hP9 := hP.sb (wq := []) [] rfl
                  have hD9 := hD.sb (wq := []) [] (by decide) rfl
                  exact W.iret (v := x8) hx hb hr (fun t ht hW => ⟨⟨x8, (), rfl, ⟨⟩, va_P.he ht.symm hP9, va_K.moved hW.alike hK, hD9⟩, hS.F ht⟩) hS.2.2 d_MA_ofInts_103
                · skip
                  by_cases g1_104 : p0.toInt = 12
                  · have ho1 : tab_off 113 0 13 #[71, 75, 79, 113, 113, 113, 113, 83, 87, 91, 95, 99, 103, 107] p0.toInt = 103 := by rw [g1_104]; rfl
                    refine lv_tab (tgt := 104) hx hb d_MA_ofInts_1 (by decide) ho1 (by decide) ?_
                    clear ho1
                    refine lv_iload_n hx hb d_MA_ofInts_104 rfl (lv_at hl 1 rfl) ?_
                    refine lv_iload_n hx hb d_MA_ofInts_105 rfl (lv_at hl 2 rfl) ?_
                    refine lv_iushr hx hb d_MA_ofInts_106 rfl ?_
                    refine lv_topi (fun x9 ex9 => ?_)
                    have hP9 := hP.sb (wq := []) [] rfl
                    have hD9 := hD.sb (wq := []) [] (by decide) rfl
                    exact W.iret (v := x9) hx hb hr (fun t ht hW => ⟨⟨x9, (), rfl, ⟨⟩, va_P.he ht.symm hP9, va_K.moved hW.alike hK, hD9⟩, hS.F ht⟩) hS.2.2 d_MA_ofInts_107
                  · skip
                    by_cases g1_108 : p0.toInt = 13
                    · have ho1 : tab_off 113 0 13 #[71, 75, 79, 113, 113, 113, 113, 83, 87, 91, 95, 99, 103, 107] p0.toInt = 107 := by rw [g1_108]; rfl
                      refine lv_tab (tgt := 108) hx hb d_MA_ofInts_1 (by decide) ho1 (by decide) ?_
                      clear ho1
                      refine lv_iload_n hx hb d_MA_ofInts_108 rfl (lv_at hl 1 rfl) ?_
                      refine lv_iload_n hx hb d_MA_ofInts_109 rfl (lv_at hl 2 rfl) ?_
                      have hPc := hP.sb (wq := []) [] rfl
                      have hDc := hD.sb (wq := []) [] (by decide) rfl
                      have hKc := hK.sb (tyq := []) [] rfl
                      have hFc := va_free (wc := []) hD hS hA [] rfl
                      refine va_calli (va_runS (As := [.int p1, .int p2]) (rest := []) ⟨hx, hb, hml, hown, hts⟩ (c_JI_rotateLeft l dC dI H.size p1 p2) ⟨callB_of 2 hts (gW kC_JI_rotateLeft) rfl rfl rfl (hts _ kI_JI) (hts _ kM_MA_272) (by decide +kernel) ⟨Nat.le_of_ble_eq_true rfl, Nat.le_of_ble_eq_true rfl⟩, hts _ kT_JI_rotateLeft⟩ ⟨fun a U g mk z => by obtain ⟨z0, z1, zP, zK, zD⟩ := z; exact ⟨z0, z1, zP, va_K.moved (u := U) (U := U.calling g mk a) (Vm.Alike.refl U.vm) zK, zD⟩, fun U hU hW => ⟨rfl, by rw [hU], va_P.he hU.symm hPc, va_K.moved hW.alike hKc, hDc.weaken (fun _ _ _ _ => trivial)⟩⟩ rfl rfl hl.1 rfl (lv_room (Nat.le_of_ble_eq_true rfl)) d_MA_ofInts_110 ⟨(Nat.zero_le _), (Nat.zero_le _)⟩) hS (fun q _ h => hFc q h) hFc (fun r10 u t H1 locs ht hvm hw hB hz1 hk1 hS => ?_)
                      try dsimp only at hw
                      try clear hw
                      obtain ⟨hP1, hK1, hD1⟩ := hB
                      replace hP1 := va_P.he ht hP1
                      obtain ⟨hP, hD⟩ := va_join (wr := []) (w1 := []) hP hD [] [] rfl rfl (by decide) (by decide) hk1 hFc hP1 hD1
                      clear hPc hDc hKc hFc hz1 hk1 hP1 hK1 hD1
                      rename Heap => H
                      have hP : va_P (dC, dI) cls [] H := hP
                      have hD : va_D A [] := hD
                      have hP9 := hP.sb (wq := []) [] rfl
                      have hD9 := hD.sb (wq := []) [] (by decide) rfl
                      exact W.iret (v := r10) hx hb hr (fun t ht hW => ⟨⟨r10, (), rfl, ⟨⟩, va_P.he ht.symm hP9, va_K.moved hW.alike hK, hD9⟩, hS.F ht⟩) hS.2.2 d_MA_ofInts_113
                    · skip
                      have ho1 : tab_off 113 0 13 #[71, 75, 79, 113, 113, 113, 113, 83, 87, 91, 95, 99, 103, 107] p0.toInt = 113 := by
                        unfold tab_off
                        split
                        · rfl
                        · rcases (by (first | (apply Int.le_antisymm <;> omega) | omega) : p0.toInt = 3 ∨ p0.toInt = 4 ∨ p0.toInt = 5 ∨ p0.toInt = 6) with z | z | z | z <;> (rw [z]; rfl)
                      refine lv_tab (tgt := 114) hx hb d_MA_ofInts_1 (by decide) ho1 (by decide) ?_
                      clear ho1
                      refine lv_iload_n hx hb d_MA_ofInts_114 rfl (lv_at hl 1 rfl) ?_
                      refine lv_iload_n hx hb d_MA_ofInts_115 rfl (lv_at hl 2 rfl) ?_
                      have hPc := hP.sb (wq := []) [] rfl
                      have hDc := hD.sb (wq := []) [] (by decide) rfl
                      have hKc := hK.sb (tyq := []) [] rfl
                      have hFc := va_free (wc := []) hD hS hA [] rfl
                      refine va_calli (va_runS (As := [.int p1, .int p2]) (rest := []) ⟨hx, hb, hml, hown, hts⟩ (c_JI_rotateRight l dC dI H.size p1 p2) ⟨callB_of 2 hts (gW kC_JI_rotateRight) rfl rfl rfl (hts _ kI_JI) (hts _ kM_MA_275) (by decide +kernel) ⟨Nat.le_of_ble_eq_true rfl, Nat.le_of_ble_eq_true rfl⟩, hts _ kT_JI_rotateRight⟩ ⟨fun a U g mk z => by obtain ⟨z0, z1, zP, zK, zD⟩ := z; exact ⟨z0, z1, zP, va_K.moved (u := U) (U := U.calling g mk a) (Vm.Alike.refl U.vm) zK, zD⟩, fun U hU hW => ⟨rfl, by rw [hU], va_P.he hU.symm hPc, va_K.moved hW.alike hKc, hDc.weaken (fun _ _ _ _ => trivial)⟩⟩ rfl rfl hl.1 rfl (lv_room (Nat.le_of_ble_eq_true rfl)) d_MA_ofInts_116 ⟨(Nat.zero_le _), (Nat.zero_le _)⟩) hS (fun q _ h => hFc q h) hFc (fun r11 u t H1 locs ht hvm hw hB hz1 hk1 hS => ?_)
                      try dsimp only at hw
                      try clear hw
                      obtain ⟨hP1, hK1, hD1⟩ := hB
                      replace hP1 := va_P.he ht hP1
                      obtain ⟨hP, hD⟩ := va_join (wr := []) (w1 := []) hP hD [] [] rfl rfl (by decide) (by decide) hk1 hFc hP1 hD1
                      clear hPc hDc hKc hFc hz1 hk1 hP1 hK1 hD1
                      rename Heap => H
                      have hP : va_P (dC, dI) cls [] H := hP
                      have hD : va_D A [] := hD
                      have hP9 := hP.sb (wq := []) [] rfl
                      have hD9 := hD.sb (wq := []) [] (by decide) rfl
                      exact W.iret (v := r11) hx hb hr (fun t ht hW => ⟨⟨r11, (), rfl, ⟨⟩, va_P.he ht.symm hP9, va_K.moved hW.alike hK, hD9⟩, hS.F ht⟩) hS.2.2 d_MA_ofInts_119
abbrev b_MA_ofLongs : ByteArray := prog_6_method_25_code
def y_MA_ofLongs : MethodName := ⟨R_MA, "ofLongs", "(IJJ)J"⟩
abbrev w_MA_ofLongs : List Cond := .code y_MA_ofLongs b_MA_ofLongs 6 (Option.some .long) :: lw_g
theorem kC_MA_ofLongs : Cond.code y_MA_ofLongs b_MA_ofLongs 6 (Option.some .long) ∈ lw_g := in_c8 4 rfl rfl
theorem d_MA_ofLongs_0 : decode b_MA_ofLongs 0 = .ok (.lload_n 3, 1) := bz_c33 (by decide +kernel)
theorem d_MA_ofLongs_1 : decode b_MA_ofLongs 1 = .ok (.l2i, 1) := bz_c136 (by decide +kernel)
theorem d_MA_ofLongs_2 : decode b_MA_ofLongs 2 = .ok (.istore 5, 2) := bz_c54 (by decide +kernel)
theorem d_MA_ofLongs_4 : decode b_MA_ofLongs 4 = .ok (.iload_n 0, 1) := bz_c26 (by decide +kernel)
theorem d_MA_ofLongs_5 : decode b_MA_ofLongs 5 = .ok (.tableswitch 117 0 13 #[71, 75, 79, 117, 117, 117, 117, 83, 87, 91, 95, 100, 105, 110], 71) := by decide +kernel
theorem d_MA_ofLongs_76 : decode b_MA_ofLongs 76 = .ok (.lload_n 1, 1) := bz_c31 (by decide +kernel)
theorem d_MA_ofLongs_77 : decode b_MA_ofLongs 77 = .ok (.lload_n 3, 1) := bz_c33 (by decide +kernel)
theorem d_MA_ofLongs_78 : decode b_MA_ofLongs 78 = .ok (.ladd, 1) := bz_c97 (by decide +kernel)
theorem d_MA_ofLongs_79 : decode b_MA_ofLongs 79 = .ok (.lreturn, 1) := bz_c173 (by decide +kernel)
theorem d_MA_ofLongs_80 : decode b_MA_ofLongs 80 = .ok (.lload_n 1, 1) := bz_c31 (by decide +kernel)
theorem d_MA_ofLongs_81 : decode b_MA_ofLongs 81 = .ok (.lload_n 3, 1) := bz_c33 (by decide +kernel)
theorem d_MA_ofLongs_82 : decode b_MA_ofLongs 82 = .ok (.lsub, 1) := by decide +kernel
theorem d_MA_ofLongs_83 : decode b_MA_ofLongs 83 = .ok (.lreturn, 1) := bz_c173 (by decide +kernel)
theorem d_MA_ofLongs_84 : decode b_MA_ofLongs 84 = .ok (.lload_n 1, 1) := bz_c31 (by decide +kernel)
theorem d_MA_ofLongs_85 : decode b_MA_ofLongs 85 = .ok (.lload_n 3, 1) := bz_c33 (by decide +kernel)
theorem d_MA_ofLongs_86 : decode b_MA_ofLongs 86 = .ok (.lmul, 1) := by decide +kernel
theorem d_MA_ofLongs_87 : decode b_MA_ofLongs 87 = .ok (.lreturn, 1) := bz_c173 (by decide +kernel)
theorem d_MA_ofLongs_88 : decode b_MA_ofLongs 88 = .ok (.lload_n 1, 1) := bz_c31 (by decide +kernel)
theorem d_MA_ofLongs_89 : decode b_MA_ofLongs 89 = .ok (.lload_n 3, 1) := bz_c33 (by decide +kernel)
theorem d_MA_ofLongs_90 : decode b_MA_ofLongs 90 = .ok (.land, 1) := bz_c127 (by decide +kernel)
theorem d_MA_ofLongs_91 : decode b_MA_ofLongs 91 = .ok (.lreturn, 1) := bz_c173 (by decide +kernel)
theorem d_MA_ofLongs_92 : decode b_MA_ofLongs 92 = .ok (.lload_n 1, 1) := bz_c31 (by decide +kernel)
theorem d_MA_ofLongs_93 : decode b_MA_ofLongs 93 = .ok (.lload_n 3, 1) := bz_c33 (by decide +kernel)
theorem d_MA_ofLongs_94 : decode b_MA_ofLongs 94 = .ok (.lor, 1) := bz_c129 (by decide +kernel)
theorem d_MA_ofLongs_95 : decode b_MA_ofLongs 95 = .ok (.lreturn, 1) := bz_c173 (by decide +kernel)
theorem d_MA_ofLongs_96 : decode b_MA_ofLongs 96 = .ok (.lload_n 1, 1) := bz_c31 (by decide +kernel)
theorem d_MA_ofLongs_97 : decode b_MA_ofLongs 97 = .ok (.lload_n 3, 1) := bz_c33 (by decide +kernel)
theorem d_MA_ofLongs_98 : decode b_MA_ofLongs 98 = .ok (.lxor, 1) := by decide +kernel
theorem d_MA_ofLongs_99 : decode b_MA_ofLongs 99 = .ok (.lreturn, 1) := bz_c173 (by decide +kernel)
theorem d_MA_ofLongs_100 : decode b_MA_ofLongs 100 = .ok (.lload_n 1, 1) := bz_c31 (by decide +kernel)
theorem d_MA_ofLongs_101 : decode b_MA_ofLongs 101 = .ok (.iload 5, 2) := bz_c21 (by decide +kernel)
theorem d_MA_ofLongs_103 : decode b_MA_ofLongs 103 = .ok (.lshl, 1) := bz_c121 (by decide +kernel)
theorem d_MA_ofLongs_104 : decode b_MA_ofLongs 104 = .ok (.lreturn, 1) := bz_c173 (by decide +kernel)
theorem d_MA_ofLongs_105 : decode b_MA_ofLongs 105 = .ok (.lload_n 1, 1) := bz_c31 (by decide +kernel)
theorem d_MA_ofLongs_106 : decode b_MA_ofLongs 106 = .ok (.iload 5, 2) := bz_c21 (by decide +kernel)
theorem d_MA_ofLongs_108 : decode b_MA_ofLongs 108 = .ok (.lshr, 1) := by decide +kernel
theorem d_MA_ofLongs_109 : decode b_MA_ofLongs 109 = .ok (.lreturn, 1) := bz_c173 (by decide +kernel)
theorem d_MA_ofLongs_110 : decode b_MA_ofLongs 110 = .ok (.lload_n 1, 1) := bz_c31 (by decide +kernel)
theorem d_MA_ofLongs_111 : decode b_MA_ofLongs 111 = .ok (.iload 5, 2) := bz_c21 (by decide +kernel)
theorem d_MA_ofLongs_113 : decode b_MA_ofLongs 113 = .ok (.lushr, 1) := bz_c125 (by decide +kernel)
theorem d_MA_ofLongs_114 : decode b_MA_ofLongs 114 = .ok (.lreturn, 1) := bz_c173 (by decide +kernel)
theorem d_MA_ofLongs_115 : decode b_MA_ofLongs 115 = .ok (.lload_n 1, 1) := bz_c31 (by decide +kernel)
theorem d_MA_ofLongs_116 : decode b_MA_ofLongs 116 = .ok (.iload 5, 2) := bz_c21 (by decide +kernel)
theorem d_MA_ofLongs_118 : decode b_MA_ofLongs 118 = .ok (.invokestatic 278, 3) := bz_c184 (by decide +kernel)
theorem d_MA_ofLongs_121 : decode b_MA_ofLongs 121 = .ok (.lreturn, 1) := bz_c173 (by decide +kernel)
theorem d_MA_ofLongs_122 : decode b_MA_ofLongs 122 = .ok (.lload_n 1, 1) := bz_c31 (by decide +kernel)
theorem d_MA_ofLongs_123 : decode b_MA_ofLongs 123 = .ok (.iload 5, 2) := bz_c21 (by decide +kernel)
theorem d_MA_ofLongs_125 : decode b_MA_ofLongs 125 = .ok (.invokestatic 281, 3) := bz_c184 (by decide +kernel)
theorem d_MA_ofLongs_128 : decode b_MA_ofLongs 128 = .ok (.lreturn, 1) := bz_c173 (by decide +kernel)
theorem kM_MA_281 : Cond.methodLink R_MA 281 y_JL_rotateRight ∈ lw_g := in_c8 8 rfl rfl
theorem kT_JL_rotateRight : Cond.static y_JL_rotateRight ∈ lw_g := in_c8 9 rfl rfl
theorem kM_MA_278 : Cond.methodLink R_MA 278 y_JL_rotateLeft ∈ lw_g := in_c8 5 rfl rfl
theorem kT_JL_rotateLeft : Cond.static y_JL_rotateLeft ∈ lw_g := in_c8 6 rfl rfl
abbrev at_MA_ofLongs (dC : Nat → ClassId) (dI : Nat → Nat → Nat)  (A : Nat → Prop) (u : Unit) (t : State) : Prop := match u with | _ => va_P (dC, dI) cls [] t.heap ∧ va_K (dC, dI) cls [] t ∧ va_D A []
set_option maxHeartbeats 4000000 in
set_option maxRecDepth 100000 in
theorem c_MA_ofLongs (l : Launch) (dC : Nat → ClassId) (dI : Nat → Nat → Nat) (sz : Nat)    (p0 : Int32) (p1 : Int64) (p2 : Int64)   : Met l y_MA_ofLongs w_MA_ofLongs ({ frames := 1, cells := 0, slots := 0, locals := 22 }) (va_Pc [.int p0, .long p1, .long p2] (fun U => U.heap.size = sz ∧ va_P (dC, dI) cls [] U.heap ∧ va_K (dC, dI) cls [] U ∧ va_D (fun _ => True) [])) (va_Ql (fun (r : Int64) (u : Unit) => match u with | _ => True) (at_MA_ofLongs dC dI  (va_A [] sz)) (va_A [] sz)) 0 0 (va_A [] sz) := by
  refine Met.ofW (cc := b_MA_ofLongs) (maxL := 6) (ret := (Option.some .long)) (by decide) rfl ?_
  intro p e s m args below meth c s₁ B hml hv
  obtain ⟨rfl, hsz, hP, hK, hD0⟩ := hv
  have hx := B.exec
  have hb := B.bytes
  have hr := B.returns
  have hts0 := atoms_spec (ws := w_MA_ofLongs) B.pre
  have hts : ∀ w ∈ lw_g, w.before _ s = true := fun w h => hts0 w (List.mem_cons_of_mem _ h)
  have hown : s.vm.findClass R_MA = some m.cls := findClass_of_methodNamed B.named
  have hlocks := B.notSynchronized
  clear hts0
  subst hsz
  have hD := hD0.self (sz := s.heap.size)
  generalize hAe : va_A [] s.heap.size = A at hD ⊢
  have hA : ∀ q : Nat, s.heap.size ≤ q → A q := fun q h => by rw [← hAe]; exact Or.inr h
  clear hAe
  have hP : va_P (dC, dI) cls [] s.heap := hP
  have hl := lv_entry ([.int p0, .long p1, .long p2]) (n := 6) (Nat.le_of_ble_eq_true rfl)
  rw [lg_entry_eq]
  generalize (lg_sl ([.int p0, .long p1, .long p2]) ++ List.replicate (6 - (lg_sl ([.int p0, .long p1, .long p2])).length) Slot.unset).toArray = ls at hl ⊢
  have hl : lv_has ls 6 [(0, .int p0), (1, .long p1), (3, .long p2)] := hl
  have k0 : (0 : Int32).toInt = 0 := by decide
  refine w_gen (A := A) hP (fun H locs hP hS => ?_)
  have lo_p0 := i32_lo p0
  have hi_p0 := i32_hi p0
  refine lv_lload_n hx hb d_MA_ofLongs_0 rfl (lv_at hl 2 rfl) ?_
  refine lv_l2i hx hb d_MA_ofLongs_1 rfl ?_
  refine lv_topi (fun x1 ex1 => ?_)
  refine lv_istore (lv' := [(5, .int x1), (0, .int p0), (1, .long p1), (3, .long p2)]) hx hb d_MA_ofLongs_2 hl (by decide) rfl (fun ls hl => ?_)
  refine lv_iload_n hx hb d_MA_ofLongs_4 rfl (lv_at hl 1 rfl) ?_
  by_cases g5_76 : p0.toInt = 0
  · have ho5 : tab_off 117 0 13 #[71, 75, 79, 117, 117, 117, 117, 83, 87, 91, 95, 100, 105, 110] p0.toInt = 71 := by rw [g5_76]; rfl
    refine lv_tab (tgt := 76) hx hb d_MA_ofLongs_5 (by decide) ho5 (by decide) ?_
    clear ho5
    refine lv_lload_n hx hb d_MA_ofLongs_76 rfl (lv_at hl 2 rfl) ?_
    refine lv_lload_n hx hb d_MA_ofLongs_77 rfl (lv_at hl 3 rfl) ?_
    refine lv_ladd hx hb d_MA_ofLongs_78 ?_
    refine lv_topl (fun x2 ex2 => ?_)
    have hP9 := hP.sb (wq := []) [] rfl
    have hD9 := hD.sb (wq := []) [] (by decide) rfl
    exact W.lret (v := x2) hx hb hr (fun t ht hW => ⟨⟨x2, (), rfl, ⟨⟩, va_P.he ht.symm hP9, va_K.moved hW.alike hK, hD9⟩, hS.F ht⟩) hS.2.2 d_MA_ofLongs_79
  · skip
    by_cases g5_80 : p0.toInt = 1
    · have ho5 : tab_off 117 0 13 #[71, 75, 79, 117, 117, 117, 117, 83, 87, 91, 95, 100, 105, 110] p0.toInt = 75 := by rw [g5_80]; rfl
      refine lv_tab (tgt := 80) hx hb d_MA_ofLongs_5 (by decide) ho5 (by decide) ?_
      clear ho5
      refine lv_lload_n hx hb d_MA_ofLongs_80 rfl (lv_at hl 2 rfl) ?_
      refine lv_lload_n hx hb d_MA_ofLongs_81 rfl (lv_at hl 3 rfl) ?_
      refine lv_lsub hx hb d_MA_ofLongs_82 ?_
      refine lv_topl (fun x3 ex3 => ?_)
      have hP9 := hP.sb (wq := []) [] rfl
      have hD9 := hD.sb (wq := []) [] (by decide) rfl
      exact W.lret (v := x3) hx hb hr (fun t ht hW => ⟨⟨x3, (), rfl, ⟨⟩, va_P.he ht.symm hP9, va_K.moved hW.alike hK, hD9⟩, hS.F ht⟩) hS.2.2 d_MA_ofLongs_83
    · skip
      by_cases g5_84 : p0.toInt = 2
      · have ho5 : tab_off 117 0 13 #[71, 75, 79, 117, 117, 117, 117, 83, 87, 91, 95, 100, 105, 110] p0.toInt = 79 := by rw [g5_84]; rfl
        refine lv_tab (tgt := 84) hx hb d_MA_ofLongs_5 (by decide) ho5 (by decide) ?_
        clear ho5
        refine lv_lload_n hx hb d_MA_ofLongs_84 rfl (lv_at hl 2 rfl) ?_
        refine lv_lload_n hx hb d_MA_ofLongs_85 rfl (lv_at hl 3 rfl) ?_
        refine lv_lmul hx hb d_MA_ofLongs_86 ?_
        refine lv_topl (fun x4 ex4 => ?_)
        have hP9 := hP.sb (wq := []) [] rfl
        have hD9 := hD.sb (wq := []) [] (by decide) rfl
        exact W.lret (v := x4) hx hb hr (fun t ht hW => ⟨⟨x4, (), rfl, ⟨⟩, va_P.he ht.symm hP9, va_K.moved hW.alike hK, hD9⟩, hS.F ht⟩) hS.2.2 d_MA_ofLongs_87
      · skip
        by_cases g5_88 : p0.toInt = 7
        · have ho5 : tab_off 117 0 13 #[71, 75, 79, 117, 117, 117, 117, 83, 87, 91, 95, 100, 105, 110] p0.toInt = 83 := by rw [g5_88]; rfl
          refine lv_tab (tgt := 88) hx hb d_MA_ofLongs_5 (by decide) ho5 (by decide) ?_
          clear ho5
          refine lv_lload_n hx hb d_MA_ofLongs_88 rfl (lv_at hl 2 rfl) ?_
          refine lv_lload_n hx hb d_MA_ofLongs_89 rfl (lv_at hl 3 rfl) ?_
          refine lv_land hx hb d_MA_ofLongs_90 ?_
          refine lv_topl (fun x5 ex5 => ?_)
          have hP9 := hP.sb (wq := []) [] rfl
          have hD9 := hD.sb (wq := []) [] (by decide) rfl
          exact W.lret (v := x5) hx hb hr (fun t ht hW => ⟨⟨x5, (), rfl, ⟨⟩, va_P.he ht.symm hP9, va_K.moved hW.alike hK, hD9⟩, hS.F ht⟩) hS.2.2 d_MA_ofLongs_91
        · skip
          by_cases g5_92 : p0.toInt = 8
          · have ho5 : tab_off 117 0 13 #[71, 75, 79, 117, 117, 117, 117, 83, 87, 91, 95, 100, 105, 110] p0.toInt = 87 := by rw [g5_92]; rfl
            refine lv_tab (tgt := 92) hx hb d_MA_ofLongs_5 (by decide) ho5 (by decide) ?_
            clear ho5
            refine lv_lload_n hx hb d_MA_ofLongs_92 rfl (lv_at hl 2 rfl) ?_
            refine lv_lload_n hx hb d_MA_ofLongs_93 rfl (lv_at hl 3 rfl) ?_
            refine lv_lor hx hb d_MA_ofLongs_94 ?_
            refine lv_topl (fun x6 ex6 => ?_)
            have hP9 := hP.sb (wq := []) [] rfl
            have hD9 := hD.sb (wq := []) [] (by decide) rfl
            exact W.lret (v := x6) hx hb hr (fun t ht hW => ⟨⟨x6, (), rfl, ⟨⟩, va_P.he ht.symm hP9, va_K.moved hW.alike hK, hD9⟩, hS.F ht⟩) hS.2.2 d_MA_ofLongs_95
          · skip
            by_cases g5_96 : p0.toInt = 9
            · have ho5 : tab_off 117 0 13 #[71, 75, 79, 117, 117, 117, 117, 83, 87, 91, 95, 100, 105, 110] p0.toInt = 91 := by rw [g5_96]; rfl
              refine lv_tab (tgt := 96) hx hb d_MA_ofLongs_5 (by decide) ho5 (by decide) ?_
              clear ho5
              refine lv_lload_n hx hb d_MA_ofLongs_96 rfl (lv_at hl 2 rfl) ?_
              refine lv_lload_n hx hb d_MA_ofLongs_97 rfl (lv_at hl 3 rfl) ?_
              refine lv_lxor hx hb d_MA_ofLongs_98 ?_
              refine lv_topl (fun x7 ex7 => ?_)
              have hP9 := hP.sb (wq := []) [] rfl
              have hD9 := hD.sb (wq := []) [] (by decide) rfl
              exact W.lret (v := x7) hx hb hr (fun t ht hW => ⟨⟨x7, (), rfl, ⟨⟩, va_P.he ht.symm hP9, va_K.moved hW.alike hK, hD9⟩, hS.F ht⟩) hS.2.2 d_MA_ofLongs_99
            · skip
              by_cases g5_100 : p0.toInt = 10
              · have ho5 : tab_off 117 0 13 #[71, 75, 79, 117, 117, 117, 117, 83, 87, 91, 95, 100, 105, 110] p0.toInt = 95 := by rw [g5_100]; rfl
                refine lv_tab (tgt := 100) hx hb d_MA_ofLongs_5 (by decide) ho5 (by decide) ?_
                clear ho5
                refine lv_lload_n hx hb d_MA_ofLongs_100 rfl (lv_at hl 2 rfl) ?_
                refine lv_iload hx hb d_MA_ofLongs_101 (lv_at hl 0 rfl) ?_
                refine lv_lshl hx hb d_MA_ofLongs_103 rfl ?_
                refine lv_topl (fun x8 ex8 => ?_)
                have hP9 := hP.sb (wq := []) [] rfl
                have hD9 := hD.sb (wq := []) [] (by decide) rfl
                exact W.lret (v := x8) hx hb hr (fun t ht hW => ⟨⟨x8, (), rfl, ⟨⟩, va_P.he ht.symm hP9, va_K.moved hW.alike hK, hD9⟩, hS.F ht⟩) hS.2.2 d_MA_ofLongs_104
              · skip
                by_cases g5_105 : p0.toInt = 11
                · have ho5 : tab_off 117 0 13 #[71, 75, 79, 117, 117, 117, 117, 83, 87, 91, 95, 100, 105, 110] p0.toInt = 100 := by rw [g5_105]; rfl
                  refine lv_tab (tgt := 105) hx hb d_MA_ofLongs_5 (by decide) ho5 (by decide) ?_
                  clear ho5
                  refine lv_lload_n hx hb d_MA_ofLongs_105 rfl (lv_at hl 2 rfl) ?_
                  refine lv_iload hx hb d_MA_ofLongs_106 (lv_at hl 0 rfl) ?_
                  refine lv_lshr hx hb d_MA_ofLongs_108 rfl ?_
                  refine lv_topl (fun x9 ex9 => ?_)
                  have hP9 := hP.sb (wq := []) [] rfl
                  have hD9 := hD.sb (wq := []) [] (by decide) rfl
                  exact W.lret (v := x9) hx hb hr (fun t ht hW => ⟨⟨x9, (), rfl, ⟨⟩, va_P.he ht.symm hP9, va_K.moved hW.alike hK, hD9⟩, hS.F ht⟩) hS.2.2 d_MA_ofLongs_109
                · skip
                  by_cases g5_110 : p0.toInt = 12
                  · have ho5 : tab_off 117 0 13 #[71, 75, 79, 117, 117, 117, 117, 83, 87, 91, 95, 100, 105, 110] p0.toInt = 105 := by rw [g5_110]; rfl
                    refine lv_tab (tgt := 110) hx hb d_MA_ofLongs_5 (by decide) ho5 (by decide) ?_
                    clear ho5
                    refine lv_lload_n hx hb d_MA_ofLongs_110 rfl (lv_at hl 2 rfl) ?_
                    refine lv_iload hx hb d_MA_ofLongs_111 (lv_at hl 0 rfl) ?_
                    refine lv_lushr hx hb d_MA_ofLongs_113 rfl ?_
                    refine lv_topl (fun x10 ex10 => ?_)
                    have hP9 := hP.sb (wq := []) [] rfl
                    have hD9 := hD.sb (wq := []) [] (by decide) rfl
                    exact W.lret (v := x10) hx hb hr (fun t ht hW => ⟨⟨x10, (), rfl, ⟨⟩, va_P.he ht.symm hP9, va_K.moved hW.alike hK, hD9⟩, hS.F ht⟩) hS.2.2 d_MA_ofLongs_114
                  · skip
                    by_cases g5_115 : p0.toInt = 13
                    · have ho5 : tab_off 117 0 13 #[71, 75, 79, 117, 117, 117, 117, 83, 87, 91, 95, 100, 105, 110] p0.toInt = 110 := by rw [g5_115]; rfl
                      refine lv_tab (tgt := 115) hx hb d_MA_ofLongs_5 (by decide) ho5 (by decide) ?_
                      clear ho5
                      refine lv_lload_n hx hb d_MA_ofLongs_115 rfl (lv_at hl 2 rfl) ?_
                      refine lv_iload hx hb d_MA_ofLongs_116 (lv_at hl 0 rfl) ?_
                      have hPc := hP.sb (wq := []) [] rfl
                      have hDc := hD.sb (wq := []) [] (by decide) rfl
                      have hKc := hK.sb (tyq := []) [] rfl
                      have hFc := va_free (wc := []) hD hS hA [] rfl
                      refine va_calll (va_runS (As := [.long p1, .int x1]) (rest := []) ⟨hx, hb, hml, hown, hts⟩ (c_JL_rotateLeft l dC dI H.size p1 x1) ⟨callB_of 2 hts (gW kC_JL_rotateLeft) rfl rfl rfl (hts _ kI_JL) (hts _ kM_MA_278) (by decide +kernel) ⟨Nat.le_of_ble_eq_true rfl, Nat.le_of_ble_eq_true rfl⟩, hts _ kT_JL_rotateLeft⟩ ⟨fun a U g mk z => by obtain ⟨z0, z1, zP, zK, zD⟩ := z; exact ⟨z0, z1, zP, va_K.moved (u := U) (U := U.calling g mk a) (Vm.Alike.refl U.vm) zK, zD⟩, fun U hU hW => ⟨rfl, by rw [hU], va_P.he hU.symm hPc, va_K.moved hW.alike hKc, hDc.weaken (fun _ _ _ _ => trivial)⟩⟩ rfl rfl hl.1 rfl (lv_room (Nat.le_of_ble_eq_true rfl)) d_MA_ofLongs_118 ⟨(Nat.zero_le _), (Nat.zero_le _)⟩) hS (fun q _ h => hFc q h) hFc (fun r11 u t H1 locs ht hvm hw hB hz1 hk1 hS => ?_)
                      try dsimp only at hw
                      try clear hw
                      obtain ⟨hP1, hK1, hD1⟩ := hB
                      replace hP1 := va_P.he ht hP1
                      obtain ⟨hP, hD⟩ := va_join (wr := []) (w1 := []) hP hD [] [] rfl rfl (by decide) (by decide) hk1 hFc hP1 hD1
                      clear hPc hDc hKc hFc hz1 hk1 hP1 hK1 hD1
                      rename Heap => H
                      have hP : va_P (dC, dI) cls [] H := hP
                      have hD : va_D A [] := hD
                      have hP9 := hP.sb (wq := []) [] rfl
                      have hD9 := hD.sb (wq := []) [] (by decide) rfl
                      exact W.lret (v := r11) hx hb hr (fun t ht hW => ⟨⟨r11, (), rfl, ⟨⟩, va_P.he ht.symm hP9, va_K.moved hW.alike hK, hD9⟩, hS.F ht⟩) hS.2.2 d_MA_ofLongs_121
                    · skip
                      have ho5 : tab_off 117 0 13 #[71, 75, 79, 117, 117, 117, 117, 83, 87, 91, 95, 100, 105, 110] p0.toInt = 117 := by
                        unfold tab_off
                        split
                        · rfl
                        · rcases (by (first | (apply Int.le_antisymm <;> omega) | omega) : p0.toInt = 3 ∨ p0.toInt = 4 ∨ p0.toInt = 5 ∨ p0.toInt = 6) with z | z | z | z <;> (rw [z]; rfl)
                      refine lv_tab (tgt := 122) hx hb d_MA_ofLongs_5 (by decide) ho5 (by decide) ?_
                      clear ho5
                      refine lv_lload_n hx hb d_MA_ofLongs_122 rfl (lv_at hl 2 rfl) ?_
                      refine lv_iload hx hb d_MA_ofLongs_123 (lv_at hl 0 rfl) ?_
                      have hPc := hP.sb (wq := []) [] rfl
                      have hDc := hD.sb (wq := []) [] (by decide) rfl
                      have hKc := hK.sb (tyq := []) [] rfl
                      have hFc := va_free (wc := []) hD hS hA [] rfl
                      refine va_calll (va_runS (As := [.long p1, .int x1]) (rest := []) ⟨hx, hb, hml, hown, hts⟩ (c_JL_rotateRight l dC dI H.size p1 x1) ⟨callB_of 2 hts (gW kC_JL_rotateRight) rfl rfl rfl (hts _ kI_JL) (hts _ kM_MA_281) (by decide +kernel) ⟨Nat.le_of_ble_eq_true rfl, Nat.le_of_ble_eq_true rfl⟩, hts _ kT_JL_rotateRight⟩ ⟨fun a U g mk z => by obtain ⟨z0, z1, zP, zK, zD⟩ := z; exact ⟨z0, z1, zP, va_K.moved (u := U) (U := U.calling g mk a) (Vm.Alike.refl U.vm) zK, zD⟩, fun U hU hW => ⟨rfl, by rw [hU], va_P.he hU.symm hPc, va_K.moved hW.alike hKc, hDc.weaken (fun _ _ _ _ => trivial)⟩⟩ rfl rfl hl.1 rfl (lv_room (Nat.le_of_ble_eq_true rfl)) d_MA_ofLongs_125 ⟨(Nat.zero_le _), (Nat.zero_le _)⟩) hS (fun q _ h => hFc q h) hFc (fun r12 u t H1 locs ht hvm hw hB hz1 hk1 hS => ?_)
                      try dsimp only at hw
                      try clear hw
                      obtain ⟨hP1, hK1, hD1⟩ := hB
                      replace hP1 := va_P.he ht hP1
                      obtain ⟨hP, hD⟩ := va_join (wr := []) (w1 := []) hP hD [] [] rfl rfl (by decide) (by decide) hk1 hFc hP1 hD1
                      clear hPc hDc hKc hFc hz1 hk1 hP1 hK1 hD1
                      rename Heap => H
                      have hP : va_P (dC, dI) cls [] H := hP
                      have hD : va_D A [] := hD
                      have hP9 := hP.sb (wq := []) [] rfl
                      have hD9 := hD.sb (wq := []) [] (by decide) rfl
                      exact W.lret (v := r12) hx hb hr (fun t ht hW => ⟨⟨r12, (), rfl, ⟨⟩, va_P.he ht.symm hP9, va_K.moved hW.alike hK, hD9⟩, hS.F ht⟩) hS.2.2 d_MA_ofLongs_128
abbrev b_MA_byteAt : ByteArray := prog_6_method_3_code
def y_MA_byteAt : MethodName := ⟨R_MA, "byteAt", "(I)I"⟩
abbrev w_MA_byteAt : List Cond := .code y_MA_byteAt b_MA_byteAt 3 (Option.some .int) :: lw_g
theorem kC_MA_byteAt : Cond.code y_MA_byteAt b_MA_byteAt 3 (Option.some .int) ∈ lw_g := in_c7 181 rfl rfl
theorem d_MA_byteAt_0 : decode b_MA_byteAt 0 = .ok (.iload_n 1, 1) := bz_c27 (by decide +kernel)
theorem d_MA_byteAt_1 : decode b_MA_byteAt 1 = .ok (.iconst 3, 1) := bz_c6 (by decide +kernel)
theorem d_MA_byteAt_2 : decode b_MA_byteAt 2 = .ok (.ishr, 1) := by decide +kernel
theorem d_MA_byteAt_3 : decode b_MA_byteAt 3 = .ok (.istore_n 2, 1) := bz_c61 (by decide +kernel)
theorem d_MA_byteAt_4 : decode b_MA_byteAt 4 = .ok (.iload_n 2, 1) := bz_c28 (by decide +kernel)
theorem d_MA_byteAt_5 : decode b_MA_byteAt 5 = .ok (.ifCond .lt 34, 3) := bz_c155 (by decide +kernel)
theorem d_MA_byteAt_8 : decode b_MA_byteAt 8 = .ok (.iload_n 2, 1) := bz_c28 (by decide +kernel)
theorem d_MA_byteAt_9 : decode b_MA_byteAt 9 = .ok (.aload_n 0, 1) := bz_c42 (by decide +kernel)
theorem d_MA_byteAt_10 : decode b_MA_byteAt 10 = .ok (.getfield 15, 3) := bz_c180 (by decide +kernel)
theorem d_MA_byteAt_13 : decode b_MA_byteAt 13 = .ok (.arraylength, 1) := bz_c190 (by decide +kernel)
theorem d_MA_byteAt_14 : decode b_MA_byteAt 14 = .ok (.if_icmp .ge 25, 3) := bz_c162 (by decide +kernel)
theorem d_MA_byteAt_17 : decode b_MA_byteAt 17 = .ok (.aload_n 0, 1) := bz_c42 (by decide +kernel)
theorem d_MA_byteAt_18 : decode b_MA_byteAt 18 = .ok (.getfield 15, 3) := bz_c180 (by decide +kernel)
theorem d_MA_byteAt_21 : decode b_MA_byteAt 21 = .ok (.iload_n 2, 1) := bz_c28 (by decide +kernel)
theorem d_MA_byteAt_22 : decode b_MA_byteAt 22 = .ok (.laload, 1) := bz_c47 (by decide +kernel)
theorem d_MA_byteAt_23 : decode b_MA_byteAt 23 = .ok (.iload_n 1, 1) := bz_c27 (by decide +kernel)
theorem d_MA_byteAt_24 : decode b_MA_byteAt 24 = .ok (.bipush 7, 2) := bz_c16 (by decide +kernel)
theorem d_MA_byteAt_26 : decode b_MA_byteAt 26 = .ok (.iand, 1) := bz_c126 (by decide +kernel)
theorem d_MA_byteAt_27 : decode b_MA_byteAt 27 = .ok (.bipush 8, 2) := bz_c16 (by decide +kernel)
theorem d_MA_byteAt_29 : decode b_MA_byteAt 29 = .ok (.imul, 1) := bz_c104 (by decide +kernel)
theorem d_MA_byteAt_30 : decode b_MA_byteAt 30 = .ok (.lushr, 1) := bz_c125 (by decide +kernel)
theorem d_MA_byteAt_31 : decode b_MA_byteAt 31 = .ok (.l2i, 1) := bz_c136 (by decide +kernel)
theorem d_MA_byteAt_32 : decode b_MA_byteAt 32 = .ok (.sipush 255, 3) := bz_c17 (by decide +kernel)
theorem d_MA_byteAt_35 : decode b_MA_byteAt 35 = .ok (.iand, 1) := bz_c126 (by decide +kernel)
theorem d_MA_byteAt_36 : decode b_MA_byteAt 36 = .ok (.goto 4, 3) := bz_c167 (by decide +kernel)
theorem d_MA_byteAt_39 : decode b_MA_byteAt 39 = .ok (.iconst 0, 1) := bz_c3 (by decide +kernel)
theorem d_MA_byteAt_40 : decode b_MA_byteAt 40 = .ok (.ireturn, 1) := bz_c172 (by decide +kernel)
theorem kF_MA_15 : Cond.fieldLink R_MA 15 "WaferForge$Machine" "cells" "[J" ∈ lw_g := in_c3 67 rfl rfl
abbrev at_MA_byteAt (dC : Nat → ClassId) (dI : Nat → Nat → Nat) (h0 gl h0_wafer_r h0_codes_r ce sk fb fs ff fl lb lh : Nat) (cce : ClassId) (h0_pages : Int32) (h0_steps : Int32) (h0_reason : Int32) (h0_height : Int32) (h0_frameCount : Int32) (h0_labelCount : Int32) (h0_at : Int32) (gce : Nat → Int64) (A : Nat → Prop) (u : Unit) (t : State) : Prop := match u with | _ => va_P (dC, dI) cls (wz_19 h0 h0_pages h0_steps h0_reason gl h0_wafer_r h0_codes_r ce sk h0_height fb fs ff fl h0_frameCount lb lh h0_labelCount h0_at ce cce gce) t.heap ∧ va_K (dC, dI) cls [(cce, .long)] t ∧ va_D A (wz_19 h0 h0_pages h0_steps h0_reason gl h0_wafer_r h0_codes_r ce sk h0_height fb fs ff fl h0_frameCount lb lh h0_labelCount h0_at ce cce gce)
set_option maxHeartbeats 4000000 in
set_option maxRecDepth 100000 in
theorem c_MA_byteAt (l : Launch) (dC : Nat → ClassId) (dI : Nat → Nat → Nat) (sz : Nat) (h0 gl h0_wafer_r h0_codes_r ce sk fb fs ff fl lb lh : Nat) (cce : ClassId) (h0_pages : Int32) (h0_steps : Int32) (h0_reason : Int32) (h0_height : Int32) (h0_frameCount : Int32) (h0_labelCount : Int32) (h0_at : Int32) (gce : Nat → Int64)   (p0 : Int32)   : Met l y_MA_byteAt w_MA_byteAt ({ frames := 0, cells := 0, slots := 0, locals := 0 }) (va_Pc [.ref h0, .int p0] (fun U => U.heap.size = sz ∧ va_P (dC, dI) cls (wz_19 h0 h0_pages h0_steps h0_reason gl h0_wafer_r h0_codes_r ce sk h0_height fb fs ff fl h0_frameCount lb lh h0_labelCount h0_at ce cce gce) U.heap ∧ va_K (dC, dI) cls [(cce, .long)] U ∧ va_D (fun _ => True) (wz_19 h0 h0_pages h0_steps h0_reason gl h0_wafer_r h0_codes_r ce sk h0_height fb fs ff fl h0_frameCount lb lh h0_labelCount h0_at ce cce gce))) (va_Qi (fun (r : Int32) (u : Unit) => match u with | _ => True) (at_MA_byteAt dC dI h0 gl h0_wafer_r h0_codes_r ce sk fb fs ff fl lb lh cce h0_pages h0_steps h0_reason h0_height h0_frameCount h0_labelCount h0_at gce (va_A (wz_19 h0 h0_pages h0_steps h0_reason gl h0_wafer_r h0_codes_r ce sk h0_height fb fs ff fl h0_frameCount lb lh h0_labelCount h0_at ce cce gce) sz)) (va_A (wz_19 h0 h0_pages h0_steps h0_reason gl h0_wafer_r h0_codes_r ce sk h0_height fb fs ff fl h0_frameCount lb lh h0_labelCount h0_at ce cce gce) sz)) 0 0 (va_A (wz_19 h0 h0_pages h0_steps h0_reason gl h0_wafer_r h0_codes_r ce sk h0_height fb fs ff fl h0_frameCount lb lh h0_labelCount h0_at ce cce gce) sz) := by
  refine Met.ofW (cc := b_MA_byteAt) (maxL := 3) (ret := (Option.some .int)) (by decide) rfl ?_
  intro p e s m args below meth c s₁ B hml hv
  obtain ⟨rfl, hsz, hP, hK, hD0⟩ := hv
  have hx := B.exec
  have hb := B.bytes
  have hr := B.returns
  have hts0 := atoms_spec (ws := w_MA_byteAt) B.pre
  have hts : ∀ w ∈ lw_g, w.before _ s = true := fun w h => hts0 w (List.mem_cons_of_mem _ h)
  have hown : s.vm.findClass R_MA = some m.cls := findClass_of_methodNamed B.named
  have hlocks := B.notSynchronized
  clear hts0
  subst hsz
  have hD := hD0.self (sz := s.heap.size)
  generalize hAe : va_A (wz_19 h0 h0_pages h0_steps h0_reason gl h0_wafer_r h0_codes_r ce sk h0_height fb fs ff fl h0_frameCount lb lh h0_labelCount h0_at ce cce gce) s.heap.size = A at hD ⊢
  have hA : ∀ q : Nat, s.heap.size ≤ q → A q := fun q h => by rw [← hAe]; exact Or.inr h
  clear hAe
  have hP : va_P (dC, dI) cls (wz_19 h0 h0_pages h0_steps h0_reason gl h0_wafer_r h0_codes_r ce sk h0_height fb fs ff fl h0_frameCount lb lh h0_labelCount h0_at ce cce gce) s.heap := hP
  have hl := lv_entry ([.ref h0, .int p0]) (n := 3) (Nat.le_of_ble_eq_true rfl)
  rw [lg_entry_eq]
  generalize (lg_sl ([.ref h0, .int p0]) ++ List.replicate (3 - (lg_sl ([.ref h0, .int p0])).length) Slot.unset).toArray = ls at hl ⊢
  have hl : lv_has ls 3 [(0, .ref h0), (1, .int p0)] := hl
  have k0 : (0 : Int32).toInt = 0 := by decide
  refine w_gen (A := A) hP (fun H locs hP hS => ?_)
  have k3 : (3 : Int32).toInt = 3 := by decide
  have k7 : (7 : Int32).toInt = 7 := by decide
  have k8 : (8 : Int32).toInt = 8 := by decide
  have k255 : (255 : Int32).toInt = 255 := by decide
  have lo_p0 := i32_lo p0
  have hi_p0 := i32_hi p0
  refine lv_iload_n hx hb d_MA_byteAt_0 rfl (lv_at hl 1 rfl) ?_
  refine lv_iconst (v := 3) hx hb d_MA_byteAt_1 (by decide) ?_
  refine lv_ishr hx hb d_MA_byteAt_2 ?_
  refine lv_topi (fun x1 ex1 => ?_)
  refine lv_istore_n (lv' := [(2, .int x1), (0, .ref h0), (1, .int p0)]) hx hb d_MA_byteAt_3 rfl hl (by decide) rfl (fun ls hl => ?_)
  refine lv_iload_n hx hb d_MA_byteAt_4 rfl (lv_at hl 0 rfl) ?_
  refine lv_if_lt (tgt := 39) hx hb d_MA_byteAt_5 (by decide) (fun c5 => ?_) (fun c5 => ?_)
  · have q5 := ltI c5
    refine lv_iconst (v := 0) hx hb d_MA_byteAt_39 (by decide) ?_
    have hP9 := hP.sb (wq := (wz_19 h0 h0_pages h0_steps h0_reason gl h0_wafer_r h0_codes_r ce sk h0_height fb fs ff fl h0_frameCount lb lh h0_labelCount h0_at ce cce gce)) [0, 1] rfl
    have hD9 := hD.sb (wq := (wz_19 h0 h0_pages h0_steps h0_reason gl h0_wafer_r h0_codes_r ce sk h0_height fb fs ff fl h0_frameCount lb lh h0_labelCount h0_at ce cce gce)) [0, 1] (by decide) rfl
    exact W.iret (v := 0) hx hb hr (fun t ht hW => ⟨⟨0, (), rfl, ⟨⟩, va_P.he ht.symm hP9, va_K.moved hW.alike hK, hD9⟩, hS.F ht⟩) hS.2.2 d_MA_byteAt_40
  · have q5 := nltI c5
    refine lv_iload_n hx hb d_MA_byteAt_8 rfl (lv_at hl 0 rfl) ?_
    refine lv_aload_n hx hb d_MA_byteAt_9 rfl (lv_at hl 1 rfl) ?_
    refine va_get (D := (dC, dI)) (ci := 4) (v := .ref ce) (C := R_MA) (T := F_MA) (N := 18) hx hb hts i_MA hown hK hP 0 rfl rfl 6 (by decide) (hts _ kF_MA_15) (fun _ h9 => h9) rfl d_MA_byteAt_10 ?_
    refine va_alen hx hb hK hP 1 0 rfl rfl rfl d_MA_byteAt_13 ?_
    refine lv_topi (fun x2 ex2 => ?_)
    have tx2 : x2.toInt = 16384 := by rw [ex2]; exact i32_len (by (first | (apply Int.le_antisymm <;> omega) | omega))
    refine lv_icmp_ge (tgt := 39) hx hb d_MA_byteAt_14 (by decide) (fun c14 => ?_) (fun c14 => ?_)
    · have q14 := leI c14
      refine lv_iconst (v := 0) hx hb d_MA_byteAt_39 (by decide) ?_
      have hP9 := hP.sb (wq := (wz_19 h0 h0_pages h0_steps h0_reason gl h0_wafer_r h0_codes_r ce sk h0_height fb fs ff fl h0_frameCount lb lh h0_labelCount h0_at ce cce gce)) [0, 1] rfl
      have hD9 := hD.sb (wq := (wz_19 h0 h0_pages h0_steps h0_reason gl h0_wafer_r h0_codes_r ce sk h0_height fb fs ff fl h0_frameCount lb lh h0_labelCount h0_at ce cce gce)) [0, 1] (by decide) rfl
      exact W.iret (v := 0) hx hb hr (fun t ht hW => ⟨⟨0, (), rfl, ⟨⟩, va_P.he ht.symm hP9, va_K.moved hW.alike hK, hD9⟩, hS.F ht⟩) hS.2.2 d_MA_byteAt_40
    · have q14 := nleI c14
      refine lv_aload_n hx hb d_MA_byteAt_17 rfl (lv_at hl 1 rfl) ?_
      refine va_get (D := (dC, dI)) (ci := 4) (v := .ref ce) (C := R_MA) (T := F_MA) (N := 18) hx hb hts i_MA hown hK hP 0 rfl rfl 6 (by decide) (hts _ kF_MA_15) (fun _ h9 => h9) rfl d_MA_byteAt_18 ?_
      refine lv_iload_n hx hb d_MA_byteAt_21 rfl (lv_at hl 0 rfl) ?_
      have g22 : vp_in x1 16384 := vp_in_iff.mpr ⟨by (first | (apply Int.le_antisymm <;> omega) | omega), by (first | (apply Int.le_antisymm <;> omega) | omega)⟩
      refine va_lald hx hb hK hP 1 0 rfl rfl g22 d_MA_byteAt_22 ?_
      refine lv_topl (fun x3 ex3 => ?_)
      refine lv_iload_n hx hb d_MA_byteAt_23 rfl (lv_at hl 2 rfl) ?_
      refine lv_bipush (v := 7) hx hb d_MA_byteAt_24 (by decide) ?_
      refine lv_iand hx hb d_MA_byteAt_26 ?_
      refine lv_topi (fun x4 ex4 => ?_)
      refine lv_bipush (v := 8) hx hb d_MA_byteAt_27 (by decide) ?_
      refine lv_imul hx hb d_MA_byteAt_29 ?_
      refine lv_topi (fun x5 ex5 => ?_)
      refine lv_lushr hx hb d_MA_byteAt_30 rfl ?_
      refine lv_topl (fun x6 ex6 => ?_)
      refine lv_l2i hx hb d_MA_byteAt_31 rfl ?_
      refine lv_topi (fun x7 ex7 => ?_)
      refine lv_sipush (v := 255) hx hb d_MA_byteAt_32 (by decide) ?_
      refine lv_iand hx hb d_MA_byteAt_35 ?_
      refine lv_topi (fun x8 ex8 => ?_)
      refine lv_goto (tgt := 40) hx hb d_MA_byteAt_36 (by decide) ?_
      have hP9 := hP.sb (wq := (wz_19 h0 h0_pages h0_steps h0_reason gl h0_wafer_r h0_codes_r ce sk h0_height fb fs ff fl h0_frameCount lb lh h0_labelCount h0_at ce cce gce)) [0, 1] rfl
      have hD9 := hD.sb (wq := (wz_19 h0 h0_pages h0_steps h0_reason gl h0_wafer_r h0_codes_r ce sk h0_height fb fs ff fl h0_frameCount lb lh h0_labelCount h0_at ce cce gce)) [0, 1] (by decide) rfl
      exact W.iret (v := x8) hx hb hr (fun t ht hW => ⟨⟨x8, (), rfl, ⟨⟩, va_P.he ht.symm hP9, va_K.moved hW.alike hK, hD9⟩, hS.F ht⟩) hS.2.2 d_MA_byteAt_40
abbrev b_MA_load0 : ByteArray := prog_6_method_17_code
def y_MA_load0 : MethodName := ⟨R_MA, "load", "(IIZ)J"⟩
abbrev w_MA_load0 : List Cond := .code y_MA_load0 b_MA_load0 7 (Option.some .long) :: lw_g
theorem kC_MA_load0 : Cond.code y_MA_load0 b_MA_load0 7 (Option.some .long) ∈ lw_g := in_c7 177 rfl rfl
theorem d_MA_load0_0 : decode b_MA_load0 0 = .ok (.lconst 0, 1) := bz_c9 (by decide +kernel)
theorem d_MA_load0_1 : decode b_MA_load0 1 = .ok (.lstore 4, 2) := bz_c55 (by decide +kernel)
theorem d_MA_load0_3 : decode b_MA_load0 3 = .ok (.iload_n 2, 1) := bz_c28 (by decide +kernel)
theorem d_MA_load0_4 : decode b_MA_load0 4 = .ok (.iconst 1, 1) := bz_c4 (by decide +kernel)
theorem d_MA_load0_5 : decode b_MA_load0 5 = .ok (.isub, 1) := bz_c100 (by decide +kernel)
theorem d_MA_load0_6 : decode b_MA_load0 6 = .ok (.istore 6, 2) := bz_c54 (by decide +kernel)
theorem d_MA_load0_8 : decode b_MA_load0 8 = .ok (.iload 6, 2) := bz_c21 (by decide +kernel)
theorem d_MA_load0_10 : decode b_MA_load0 10 = .ok (.ifCond .lt 26, 3) := bz_c155 (by decide +kernel)
theorem d_MA_load0_13 : decode b_MA_load0 13 = .ok (.lload 4, 2) := bz_c22 (by decide +kernel)
theorem d_MA_load0_15 : decode b_MA_load0 15 = .ok (.bipush 8, 2) := bz_c16 (by decide +kernel)
theorem d_MA_load0_17 : decode b_MA_load0 17 = .ok (.lshl, 1) := bz_c121 (by decide +kernel)
theorem d_MA_load0_18 : decode b_MA_load0 18 = .ok (.aload_n 0, 1) := bz_c42 (by decide +kernel)
theorem d_MA_load0_19 : decode b_MA_load0 19 = .ok (.iload_n 1, 1) := bz_c27 (by decide +kernel)
theorem d_MA_load0_20 : decode b_MA_load0 20 = .ok (.iload 6, 2) := bz_c21 (by decide +kernel)
theorem d_MA_load0_22 : decode b_MA_load0 22 = .ok (.iadd, 1) := bz_c96 (by decide +kernel)
theorem d_MA_load0_23 : decode b_MA_load0 23 = .ok (.invokevirtual 220, 3) := bz_c182 (by decide +kernel)
theorem d_MA_load0_26 : decode b_MA_load0 26 = .ok (.i2l, 1) := bz_c133 (by decide +kernel)
theorem d_MA_load0_27 : decode b_MA_load0 27 = .ok (.lor, 1) := bz_c129 (by decide +kernel)
theorem d_MA_load0_28 : decode b_MA_load0 28 = .ok (.lstore 4, 2) := bz_c55 (by decide +kernel)
theorem d_MA_load0_30 : decode b_MA_load0 30 = .ok (.iinc 6 (-1), 3) := by decide +kernel
theorem d_MA_load0_33 : decode b_MA_load0 33 = .ok (.goto (-25), 3) := bz_c167 (by decide +kernel)
theorem d_MA_load0_36 : decode b_MA_load0 36 = .ok (.bipush 64, 2) := bz_c16 (by decide +kernel)
theorem d_MA_load0_38 : decode b_MA_load0 38 = .ok (.bipush 8, 2) := bz_c16 (by decide +kernel)
theorem d_MA_load0_40 : decode b_MA_load0 40 = .ok (.iload_n 2, 1) := bz_c28 (by decide +kernel)
theorem d_MA_load0_41 : decode b_MA_load0 41 = .ok (.imul, 1) := bz_c104 (by decide +kernel)
theorem d_MA_load0_42 : decode b_MA_load0 42 = .ok (.isub, 1) := bz_c100 (by decide +kernel)
theorem d_MA_load0_43 : decode b_MA_load0 43 = .ok (.istore 6, 2) := bz_c54 (by decide +kernel)
theorem d_MA_load0_45 : decode b_MA_load0 45 = .ok (.iload_n 3, 1) := bz_c29 (by decide +kernel)
theorem d_MA_load0_46 : decode b_MA_load0 46 = .ok (.ifCond .eq 8, 3) := bz_c153 (by decide +kernel)
theorem d_MA_load0_49 : decode b_MA_load0 49 = .ok (.lload 4, 2) := bz_c22 (by decide +kernel)
theorem d_MA_load0_51 : decode b_MA_load0 51 = .ok (.goto 11, 3) := bz_c167 (by decide +kernel)
theorem d_MA_load0_54 : decode b_MA_load0 54 = .ok (.lload 4, 2) := bz_c22 (by decide +kernel)
theorem d_MA_load0_56 : decode b_MA_load0 56 = .ok (.iload 6, 2) := bz_c21 (by decide +kernel)
theorem d_MA_load0_58 : decode b_MA_load0 58 = .ok (.lshl, 1) := bz_c121 (by decide +kernel)
theorem d_MA_load0_59 : decode b_MA_load0 59 = .ok (.iload 6, 2) := bz_c21 (by decide +kernel)
theorem d_MA_load0_61 : decode b_MA_load0 61 = .ok (.lshr, 1) := by decide +kernel
theorem d_MA_load0_62 : decode b_MA_load0 62 = .ok (.lreturn, 1) := bz_c173 (by decide +kernel)
theorem kM_MA_220 : Cond.methodLink R_MA 220 y_MA_byteAt ∈ lw_g := in_c7 178 rfl rfl
theorem kV_MA_byteAt : Cond.instanceMethod y_MA_byteAt ∈ lw_g := in_c7 179 rfl rfl
theorem kS_MA_byteAt : Cond.selects R_MA y_MA_byteAt y_MA_byteAt ∈ lw_g := in_c7 180 rfl rfl
abbrev at_MA_load0 (dC : Nat → ClassId) (dI : Nat → Nat → Nat) (h0 gl h0_wafer_r h0_codes_r ce sk fb fs ff fl lb lh : Nat) (cce : ClassId) (h0_pages : Int32) (h0_steps : Int32) (h0_reason : Int32) (h0_height : Int32) (h0_frameCount : Int32) (h0_labelCount : Int32) (h0_at : Int32) (gce : Nat → Int64) (A : Nat → Prop) (u : Unit) (t : State) : Prop := match u with | _ => va_P (dC, dI) cls (wz_19 h0 h0_pages h0_steps h0_reason gl h0_wafer_r h0_codes_r ce sk h0_height fb fs ff fl h0_frameCount lb lh h0_labelCount h0_at ce cce gce) t.heap ∧ va_K (dC, dI) cls [(cce, .long)] t ∧ va_D A (wz_19 h0 h0_pages h0_steps h0_reason gl h0_wafer_r h0_codes_r ce sk h0_height fb fs ff fl h0_frameCount lb lh h0_labelCount h0_at ce cce gce)
set_option maxHeartbeats 4000000 in
set_option maxRecDepth 100000 in
theorem c_MA_load0 (l : Launch) (dC : Nat → ClassId) (dI : Nat → Nat → Nat) (sz : Nat) (h0 gl h0_wafer_r h0_codes_r ce sk fb fs ff fl lb lh : Nat) (cce : ClassId) (h0_pages : Int32) (h0_steps : Int32) (h0_reason : Int32) (h0_height : Int32) (h0_frameCount : Int32) (h0_labelCount : Int32) (h0_at : Int32) (gce : Nat → Int64)   (p0 : Int32) (p1 : Int32) (p2 : Int32) (ba1 : 0 ≤ p1.toInt ∧ p1.toInt ≤ 8) (ba2 : p2 = 0 ∨ p2 = 1)  : Met l y_MA_load0 w_MA_load0 ({ frames := 1, cells := 0, slots := 0, locals := 22 }) (va_Pc [.ref h0, .int p0, .int p1, .int p2] (fun U => U.heap.size = sz ∧ va_P (dC, dI) cls (wz_19 h0 h0_pages h0_steps h0_reason gl h0_wafer_r h0_codes_r ce sk h0_height fb fs ff fl h0_frameCount lb lh h0_labelCount h0_at ce cce gce) U.heap ∧ va_K (dC, dI) cls [(cce, .long)] U ∧ va_D (fun _ => True) (wz_19 h0 h0_pages h0_steps h0_reason gl h0_wafer_r h0_codes_r ce sk h0_height fb fs ff fl h0_frameCount lb lh h0_labelCount h0_at ce cce gce))) (va_Ql (fun (r : Int64) (u : Unit) => match u with | _ => True) (at_MA_load0 dC dI h0 gl h0_wafer_r h0_codes_r ce sk fb fs ff fl lb lh cce h0_pages h0_steps h0_reason h0_height h0_frameCount h0_labelCount h0_at gce (va_A (wz_19 h0 h0_pages h0_steps h0_reason gl h0_wafer_r h0_codes_r ce sk h0_height fb fs ff fl h0_frameCount lb lh h0_labelCount h0_at ce cce gce) sz)) (va_A (wz_19 h0 h0_pages h0_steps h0_reason gl h0_wafer_r h0_codes_r ce sk h0_height fb fs ff fl h0_frameCount lb lh h0_labelCount h0_at ce cce gce) sz)) 0 0 (va_A (wz_19 h0 h0_pages h0_steps h0_reason gl h0_wafer_r h0_codes_r ce sk h0_height fb fs ff fl h0_frameCount lb lh h0_labelCount h0_at ce cce gce) sz) := by
  refine Met.ofW (cc := b_MA_load0) (maxL := 7) (ret := (Option.some .long)) (by decide) rfl ?_
  intro p e s m args below meth c s₁ B hml hv
  obtain ⟨rfl, hsz, hP, hK, hD0⟩ := hv
  have hx := B.exec
  have hb := B.bytes
  have hr := B.returns
  have hts0 := atoms_spec (ws := w_MA_load0) B.pre
  have hts : ∀ w ∈ lw_g, w.before _ s = true := fun w h => hts0 w (List.mem_cons_of_mem _ h)
  have hown : s.vm.findClass R_MA = some m.cls := findClass_of_methodNamed B.named
  have hlocks := B.notSynchronized
  clear hts0
  subst hsz
  have hD := hD0.self (sz := s.heap.size)
  generalize hAe : va_A (wz_19 h0 h0_pages h0_steps h0_reason gl h0_wafer_r h0_codes_r ce sk h0_height fb fs ff fl h0_frameCount lb lh h0_labelCount h0_at ce cce gce) s.heap.size = A at hD ⊢
  have hA : ∀ q : Nat, s.heap.size ≤ q → A q := fun q h => by rw [← hAe]; exact Or.inr h
  clear hAe
  have hP : va_P (dC, dI) cls (wz_19 h0 h0_pages h0_steps h0_reason gl h0_wafer_r h0_codes_r ce sk h0_height fb fs ff fl h0_frameCount lb lh h0_labelCount h0_at ce cce gce) s.heap := hP
  have hl := lv_entry ([.ref h0, .int p0, .int p1, .int p2]) (n := 7) (Nat.le_of_ble_eq_true rfl)
  rw [lg_entry_eq]
  generalize (lg_sl ([.ref h0, .int p0, .int p1, .int p2]) ++ List.replicate (7 - (lg_sl ([.ref h0, .int p0, .int p1, .int p2])).length) Slot.unset).toArray = ls at hl ⊢
  have hl : lv_has ls 7 [(0, .ref h0), (1, .int p0), (2, .int p1), (3, .int p2)] := hl
  have k0 : (0 : Int32).toInt = 0 := by decide
  refine w_gen (A := A) hP (fun H locs hP hS => ?_)
  have km1 : (-1 : Int32).toInt = -1 := by decide
  have k1 : (1 : Int32).toInt = 1 := by decide
  have k8 : (8 : Int32).toInt = 8 := by decide
  have k64 : (64 : Int32).toInt = 64 := by decide
  have lo_p0 := i32_lo p0
  have hi_p0 := i32_hi p0
  have lo_p1 := i32_lo p1
  have hi_p1 := i32_hi p1
  have lo_p2 := i32_lo p2
  have hi_p2 := i32_hi p2
  have tp2 := b01 ba2
  refine lv_lconst (v := 0) hx hb d_MA_load0_0 (by decide) ?_
  have kl0 : (0 : Int64).toInt = 0 := by decide
  refine lv_lstore (lv' := [(4, .long 0), (0, .ref h0), (1, .int p0), (2, .int p1), (3, .int p2)]) hx hb d_MA_load0_1 hl (by decide) rfl (fun ls hl => ?_)
  refine lv_iload_n hx hb d_MA_load0_3 rfl (lv_at hl 3 rfl) ?_
  refine lv_iconst (v := 1) hx hb d_MA_load0_4 (by decide) ?_
  refine lv_isub hx hb d_MA_load0_5 ?_
  refine lv_topi (fun x1 ex1 => ?_)
  have tx1 : x1.toInt = p1.toInt - 1 := by have z := i32_sub ex1 (by (first | (apply Int.le_antisymm <;> omega) | omega)) (by (first | (apply Int.le_antisymm <;> omega) | omega)); first | exact z | (first | (apply Int.le_antisymm <;> omega) | omega)
  refine lv_istore (lv' := [(6, .int x1), (4, .long 0), (0, .ref h0), (1, .int p0), (2, .int p1), (3, .int p2)]) hx hb d_MA_load0_6 hl (by decide) rfl (fun ls hl => ?_)
  refine w_loop (σ := Int64 × Int32) (fun u H locs ls => match u with | (j8_l4, j8_l6) => (-1 ≤ j8_l6.toInt ∧ j8_l6.toInt ≤ 7) ∧ va_P (dC, dI) cls (wz_19 h0 h0_pages h0_steps h0_reason gl h0_wafer_r h0_codes_r ce sk h0_height fb fs ff fl h0_frameCount lb lh h0_labelCount h0_at ce cce gce) H ∧ va_D A (wz_19 h0 h0_pages h0_steps h0_reason gl h0_wafer_r h0_codes_r ce sk h0_height fb fs ff fl h0_frameCount lb lh h0_labelCount h0_at ce cce gce) ∧ va_S A s.heap H locs ∧ lv_has ls 7 [(0, .ref h0), (1, .int p0), (2, .int p1), (3, .int p2), (4, .long j8_l4), (6, .int j8_l6)]) (fun u => match u with | (j8_l4, j8_l6) => (j8_l6.toInt + 1).toNat) ?_ (0, x1) ⟨by (try dsimp only); (first | (apply Int.le_antisymm <;> omega) | omega), hP, hD, hS, lv_sub hl [2, 3, 4, 5, 1, 0] rfl⟩
  intro N8 ih8 u H locs ls hN8 hI
  obtain ⟨j8_l4, j8_l6⟩ := u
  obtain ⟨b_j8_l6, hP, hD, hS, hl⟩ := hI
  have hN8 : (j8_l6.toInt + 1).toNat < N8 + 1 := hN8
  refine lv_iload hx hb d_MA_load0_8 (lv_at hl 5 rfl) ?_
  refine lv_if_lt (tgt := 36) hx hb d_MA_load0_10 (by decide) (fun c10 => ?_) (fun c10 => ?_)
  · have q10 := ltI c10
    refine lv_bipush (v := 64) hx hb d_MA_load0_36 (by decide) ?_
    refine lv_bipush (v := 8) hx hb d_MA_load0_38 (by decide) ?_
    refine lv_iload_n hx hb d_MA_load0_40 rfl (lv_at hl 2 rfl) ?_
    refine lv_imul hx hb d_MA_load0_41 ?_
    refine lv_topi (fun x2 ex2 => ?_)
    refine lv_isub hx hb d_MA_load0_42 ?_
    refine lv_topi (fun x3 ex3 => ?_)
    refine lv_istore (lv' := [(6, .int x3), (0, .ref h0), (1, .int p0), (2, .int p1), (3, .int p2), (4, .long j8_l4)]) hx hb d_MA_load0_43 hl (by decide) rfl (fun ls hl => ?_)
    refine lv_iload_n hx hb d_MA_load0_45 rfl (lv_at hl 4 rfl) ?_
    refine lv_if_eq (tgt := 54) hx hb d_MA_load0_46 (by decide) (fun c46 => ?_) (fun c46 => ?_)
    · have q46 := eqI c46
      refine lv_lload hx hb d_MA_load0_54 (lv_at hl 5 rfl) ?_
      refine lv_iload hx hb d_MA_load0_56 (lv_at hl 0 rfl) ?_
      refine lv_lshl hx hb d_MA_load0_58 rfl ?_
      refine lv_topl (fun x4 ex4 => ?_)
      refine lv_iload hx hb d_MA_load0_59 (lv_at hl 0 rfl) ?_
      refine lv_lshr hx hb d_MA_load0_61 rfl ?_
      refine lv_topl (fun x5 ex5 => ?_)
      have hP9 := hP.sb (wq := (wz_19 h0 h0_pages h0_steps h0_reason gl h0_wafer_r h0_codes_r ce sk h0_height fb fs ff fl h0_frameCount lb lh h0_labelCount h0_at ce cce gce)) [0, 1] rfl
      have hD9 := hD.sb (wq := (wz_19 h0 h0_pages h0_steps h0_reason gl h0_wafer_r h0_codes_r ce sk h0_height fb fs ff fl h0_frameCount lb lh h0_labelCount h0_at ce cce gce)) [0, 1] (by decide) rfl
      exact W.lret (v := x5) hx hb hr (fun t ht hW => ⟨⟨x5, (), rfl, ⟨⟩, va_P.he ht.symm hP9, va_K.moved hW.alike hK, hD9⟩, hS.F ht⟩) hS.2.2 d_MA_load0_62
    · have q46 := neI c46
      refine lv_lload hx hb d_MA_load0_49 (lv_at hl 5 rfl) ?_
      refine lv_goto (tgt := 62) hx hb d_MA_load0_51 (by decide) ?_
      have hP9 := hP.sb (wq := (wz_19 h0 h0_pages h0_steps h0_reason gl h0_wafer_r h0_codes_r ce sk h0_height fb fs ff fl h0_frameCount lb lh h0_labelCount h0_at ce cce gce)) [0, 1] rfl
      have hD9 := hD.sb (wq := (wz_19 h0 h0_pages h0_steps h0_reason gl h0_wafer_r h0_codes_r ce sk h0_height fb fs ff fl h0_frameCount lb lh h0_labelCount h0_at ce cce gce)) [0, 1] (by decide) rfl
      exact W.lret (v := j8_l4) hx hb hr (fun t ht hW => ⟨⟨j8_l4, (), rfl, ⟨⟩, va_P.he ht.symm hP9, va_K.moved hW.alike hK, hD9⟩, hS.F ht⟩) hS.2.2 d_MA_load0_62
  · have q10 := nltI c10
    refine lv_lload hx hb d_MA_load0_13 (lv_at hl 4 rfl) ?_
    refine lv_bipush (v := 8) hx hb d_MA_load0_15 (by decide) ?_
    refine lv_lshl hx hb d_MA_load0_17 rfl ?_
    refine lv_topl (fun x6 ex6 => ?_)
    refine lv_aload_n hx hb d_MA_load0_18 rfl (lv_at hl 0 rfl) ?_
    refine lv_iload_n hx hb d_MA_load0_19 rfl (lv_at hl 1 rfl) ?_
    refine lv_iload hx hb d_MA_load0_20 (lv_at hl 5 rfl) ?_
    refine lv_iadd hx hb d_MA_load0_22 ?_
    refine lv_topi (fun x7 ex7 => ?_)
    have hPc := hP.sb (wq := (wz_19 h0 h0_pages h0_steps h0_reason gl h0_wafer_r h0_codes_r ce sk h0_height fb fs ff fl h0_frameCount lb lh h0_labelCount h0_at ce cce gce)) [0, 1] rfl
    have hDc := hD.sb (wq := (wz_19 h0 h0_pages h0_steps h0_reason gl h0_wafer_r h0_codes_r ce sk h0_height fb fs ff fl h0_frameCount lb lh h0_labelCount h0_at ce cce gce)) [0, 1] (by decide) rfl
    have hKc := hK.sb (tyq := [(cce, .long)]) [0] rfl
    have hFc := va_free (wc := (wz_19 h0 h0_pages h0_steps h0_reason gl h0_wafer_r h0_codes_r ce sk h0_height fb fs ff fl h0_frameCount lb lh h0_labelCount h0_at ce cce gce)) hD hS hA [0, 1] rfl
    refine va_calli (va_runV (As := [.int x7]) (rest := [.long x6]) ⟨hx, hb, hml, hown, hts⟩ (c_MA_byteAt l dC dI H.size h0 gl h0_wafer_r h0_codes_r ce sk fb fs ff fl lb lh cce h0_pages h0_steps h0_reason h0_height h0_frameCount h0_labelCount h0_at gce x7) (cwV 1 hts (gV kM_MA_220 kV_MA_byteAt kS_MA_byteAt kI_MA kC_MA_byteAt) rfl rfl rfl (by decide +kernel) ⟨Nat.le_of_ble_eq_true rfl, Nat.le_of_ble_eq_true rfl⟩) ⟨fun a U g mk z => by obtain ⟨z0, z1, zP, zK, zD⟩ := z; exact ⟨z0, z1, zP, va_K.moved (u := U) (U := U.calling g mk a) (Vm.Alike.refl U.vm) zK, zD⟩, va_recv hKc hPc (ci := 4) (q0 := 0) rfl rfl, fun U hU hW => ⟨rfl, by rw [hU], va_P.he hU.symm hPc, va_K.moved hW.alike hKc, hDc.weaken (fun _ _ _ _ => trivial)⟩⟩ rfl rfl hl.1 rfl (lv_room (Nat.le_of_ble_eq_true rfl)) d_MA_load0_23 ⟨(Nat.zero_le _), (Nat.zero_le _)⟩) hS (fun q _ h => hFc q h) hFc (fun r8 u t H1 locs ht hvm hw hB hz1 hk1 hS => ?_)
    try dsimp only at hw
    try clear hw
    obtain ⟨hP1, hK1, hD1⟩ := hB
    replace hP1 := va_P.he ht hP1
    obtain ⟨hP, hD⟩ := va_join (wr := []) (w1 := (wz_19 h0 h0_pages h0_steps h0_reason gl h0_wafer_r h0_codes_r ce sk h0_height fb fs ff fl h0_frameCount lb lh h0_labelCount h0_at ce cce gce)) hP hD [0, 1] [] rfl rfl (by decide) (by decide) hk1 hFc hP1 hD1
    clear hPc hDc hKc hFc hz1 hk1 hP1 hK1 hD1
    rename Heap => H
    have hP : va_P (dC, dI) cls (wz_19 h0 h0_pages h0_steps h0_reason gl h0_wafer_r h0_codes_r ce sk h0_height fb fs ff fl h0_frameCount lb lh h0_labelCount h0_at ce cce gce) H := hP
    have hD : va_D A (wz_19 h0 h0_pages h0_steps h0_reason gl h0_wafer_r h0_codes_r ce sk h0_height fb fs ff fl h0_frameCount lb lh h0_labelCount h0_at ce cce gce) := hD
    refine lv_i2l hx hb d_MA_load0_26 rfl ?_
    refine lv_topl (fun x9 ex9 => ?_)
    have tx9 := i2l_t ex9
    refine lv_lor hx hb d_MA_load0_27 ?_
    refine lv_topl (fun x10 ex10 => ?_)
    refine lv_lstore (lv' := [(4, .long x10), (0, .ref h0), (1, .int p0), (2, .int p1), (3, .int p2), (6, .int j8_l6)]) hx hb d_MA_load0_28 hl (by decide) rfl (fun ls hl => ?_)
    obtain ⟨x11, ex11⟩ : ∃ z : Int32, z = j8_l6 + (-1) := ⟨_, rfl⟩
    have tx11 : x11.toInt = j8_l6.toInt + (-1) := by have z := i32_add ex11 (by (first | (apply Int.le_antisymm <;> omega) | omega)) (by (first | (apply Int.le_antisymm <;> omega) | omega)); first | exact z | (first | (apply Int.le_antisymm <;> omega) | omega)
    refine lv_iinc (v := x11) (lv' := [(6, .int x11), (4, .long x10), (0, .ref h0), (1, .int p0), (2, .int p1), (3, .int p2)]) hx hb d_MA_load0_30 hl (k := 5) rfl (by rw [ex11]; rfl) (by decide) rfl (fun ls hl => ?_)
    refine lv_goto (tgt := 8) hx hb d_MA_load0_33 (by decide) ?_
    exact ih8 (x10, x11) _ _ _ (by show (x11.toInt + 1).toNat < N8; (first | (apply Int.le_antisymm <;> omega) | omega)) ⟨by (try dsimp only); (first | (apply Int.le_antisymm <;> omega) | omega), hP, hD, hS, lv_sub hl [2, 3, 4, 5, 1, 0] rfl⟩
abbrev b_MA_store : ByteArray := prog_6_method_18_code
def y_MA_store : MethodName := ⟨R_MA, "store", "(IIJ)V"⟩
abbrev w_MA_store : List Cond := .code y_MA_store b_MA_store 10 none :: lw_g
theorem kC_MA_store : Cond.code y_MA_store b_MA_store 10 none ∈ lw_g := in_c7 172 rfl rfl
theorem d_MA_store_0 : decode b_MA_store 0 = .ok (.iconst 0, 1) := bz_c3 (by decide +kernel)
theorem d_MA_store_1 : decode b_MA_store 1 = .ok (.istore 5, 2) := bz_c54 (by decide +kernel)
theorem d_MA_store_3 : decode b_MA_store 3 = .ok (.iload 5, 2) := bz_c21 (by decide +kernel)
theorem d_MA_store_5 : decode b_MA_store 5 = .ok (.iload_n 2, 1) := bz_c28 (by decide +kernel)
theorem d_MA_store_6 : decode b_MA_store 6 = .ok (.if_icmp .ge 88, 3) := bz_c162 (by decide +kernel)
theorem d_MA_store_9 : decode b_MA_store 9 = .ok (.iload_n 1, 1) := bz_c27 (by decide +kernel)
theorem d_MA_store_10 : decode b_MA_store 10 = .ok (.iload 5, 2) := bz_c21 (by decide +kernel)
theorem d_MA_store_12 : decode b_MA_store 12 = .ok (.iadd, 1) := bz_c96 (by decide +kernel)
theorem d_MA_store_13 : decode b_MA_store 13 = .ok (.iconst 3, 1) := bz_c6 (by decide +kernel)
theorem d_MA_store_14 : decode b_MA_store 14 = .ok (.ishr, 1) := by decide +kernel
theorem d_MA_store_15 : decode b_MA_store 15 = .ok (.istore 6, 2) := bz_c54 (by decide +kernel)
theorem d_MA_store_17 : decode b_MA_store 17 = .ok (.iload_n 1, 1) := bz_c27 (by decide +kernel)
theorem d_MA_store_18 : decode b_MA_store 18 = .ok (.iload 5, 2) := bz_c21 (by decide +kernel)
theorem d_MA_store_20 : decode b_MA_store 20 = .ok (.iadd, 1) := bz_c96 (by decide +kernel)
theorem d_MA_store_21 : decode b_MA_store 21 = .ok (.bipush 7, 2) := bz_c16 (by decide +kernel)
theorem d_MA_store_23 : decode b_MA_store 23 = .ok (.iand, 1) := bz_c126 (by decide +kernel)
theorem d_MA_store_24 : decode b_MA_store 24 = .ok (.bipush 8, 2) := bz_c16 (by decide +kernel)
theorem d_MA_store_26 : decode b_MA_store 26 = .ok (.imul, 1) := bz_c104 (by decide +kernel)
theorem d_MA_store_27 : decode b_MA_store 27 = .ok (.istore 7, 2) := bz_c54 (by decide +kernel)
theorem d_MA_store_29 : decode b_MA_store 29 = .ok (.lload_n 3, 1) := bz_c33 (by decide +kernel)
theorem d_MA_store_30 : decode b_MA_store 30 = .ok (.bipush 8, 2) := bz_c16 (by decide +kernel)
theorem d_MA_store_32 : decode b_MA_store 32 = .ok (.iload 5, 2) := bz_c21 (by decide +kernel)
theorem d_MA_store_34 : decode b_MA_store 34 = .ok (.imul, 1) := bz_c104 (by decide +kernel)
theorem d_MA_store_35 : decode b_MA_store 35 = .ok (.lushr, 1) := bz_c125 (by decide +kernel)
theorem d_MA_store_36 : decode b_MA_store 36 = .ok (.ldc2_w 223, 3) := bz_c20 (by decide +kernel)
theorem d_MA_store_39 : decode b_MA_store 39 = .ok (.land, 1) := bz_c127 (by decide +kernel)
theorem d_MA_store_40 : decode b_MA_store 40 = .ok (.iload 7, 2) := bz_c21 (by decide +kernel)
theorem d_MA_store_42 : decode b_MA_store 42 = .ok (.lshl, 1) := bz_c121 (by decide +kernel)
theorem d_MA_store_43 : decode b_MA_store 43 = .ok (.lstore 8, 2) := bz_c55 (by decide +kernel)
theorem d_MA_store_45 : decode b_MA_store 45 = .ok (.iload 6, 2) := bz_c21 (by decide +kernel)
theorem d_MA_store_47 : decode b_MA_store 47 = .ok (.ifCond .lt 41, 3) := bz_c155 (by decide +kernel)
theorem d_MA_store_50 : decode b_MA_store 50 = .ok (.iload 6, 2) := bz_c21 (by decide +kernel)
theorem d_MA_store_52 : decode b_MA_store 52 = .ok (.aload_n 0, 1) := bz_c42 (by decide +kernel)
theorem d_MA_store_53 : decode b_MA_store 53 = .ok (.getfield 15, 3) := bz_c180 (by decide +kernel)
theorem d_MA_store_56 : decode b_MA_store 56 = .ok (.arraylength, 1) := bz_c190 (by decide +kernel)
theorem d_MA_store_57 : decode b_MA_store 57 = .ok (.if_icmp .ge 31, 3) := bz_c162 (by decide +kernel)
theorem d_MA_store_60 : decode b_MA_store 60 = .ok (.aload_n 0, 1) := bz_c42 (by decide +kernel)
theorem d_MA_store_61 : decode b_MA_store 61 = .ok (.getfield 15, 3) := bz_c180 (by decide +kernel)
theorem d_MA_store_64 : decode b_MA_store 64 = .ok (.iload 6, 2) := bz_c21 (by decide +kernel)
theorem d_MA_store_66 : decode b_MA_store 66 = .ok (.aload_n 0, 1) := bz_c42 (by decide +kernel)
theorem d_MA_store_67 : decode b_MA_store 67 = .ok (.getfield 15, 3) := bz_c180 (by decide +kernel)
theorem d_MA_store_70 : decode b_MA_store 70 = .ok (.iload 6, 2) := bz_c21 (by decide +kernel)
theorem d_MA_store_72 : decode b_MA_store 72 = .ok (.laload, 1) := bz_c47 (by decide +kernel)
theorem d_MA_store_73 : decode b_MA_store 73 = .ok (.ldc2_w 223, 3) := bz_c20 (by decide +kernel)
theorem d_MA_store_76 : decode b_MA_store 76 = .ok (.iload 7, 2) := bz_c21 (by decide +kernel)
theorem d_MA_store_78 : decode b_MA_store 78 = .ok (.lshl, 1) := bz_c121 (by decide +kernel)
theorem d_MA_store_79 : decode b_MA_store 79 = .ok (.ldc2_w 218, 3) := bz_c20 (by decide +kernel)
theorem d_MA_store_82 : decode b_MA_store 82 = .ok (.lxor, 1) := by decide +kernel
theorem d_MA_store_83 : decode b_MA_store 83 = .ok (.land, 1) := bz_c127 (by decide +kernel)
theorem d_MA_store_84 : decode b_MA_store 84 = .ok (.lload 8, 2) := bz_c22 (by decide +kernel)
theorem d_MA_store_86 : decode b_MA_store 86 = .ok (.lor, 1) := bz_c129 (by decide +kernel)
theorem d_MA_store_87 : decode b_MA_store 87 = .ok (.lastore, 1) := bz_c80 (by decide +kernel)
theorem d_MA_store_88 : decode b_MA_store 88 = .ok (.iinc 5 1, 3) := by decide +kernel
theorem d_MA_store_91 : decode b_MA_store 91 = .ok (.goto (-88), 3) := bz_c167 (by decide +kernel)
theorem d_MA_store_94 : decode b_MA_store 94 = .ok (.return_, 1) := bz_c177 (by decide +kernel)
theorem kL_MA_223 : Cond.constantLong R_MA 223 (255) ∈ lw_g := in_c7 173 rfl rfl
theorem kL_MA_218 : Cond.constantLong R_MA 218 (-1) ∈ lw_g := in_c7 165 rfl rfl
abbrev at_MA_store (dC : Nat → ClassId) (dI : Nat → Nat → Nat) (h0 gl h0_wafer_r h0_codes_r ce sk fb fs ff fl lb lh : Nat) (cce : ClassId) (h0_pages : Int32) (h0_steps : Int32) (h0_reason : Int32) (h0_height : Int32) (h0_frameCount : Int32) (h0_labelCount : Int32) (h0_at : Int32) (A : Nat → Prop) (u : (Nat → Int64)) (t : State) : Prop := match u with | gce => va_P (dC, dI) cls (wz_19 h0 h0_pages h0_steps h0_reason gl h0_wafer_r h0_codes_r ce sk h0_height fb fs ff fl h0_frameCount lb lh h0_labelCount h0_at ce cce gce) t.heap ∧ va_K (dC, dI) cls [(cce, .long)] t ∧ va_D A (wz_19 h0 h0_pages h0_steps h0_reason gl h0_wafer_r h0_codes_r ce sk h0_height fb fs ff fl h0_frameCount lb lh h0_labelCount h0_at ce cce gce)
set_option maxHeartbeats 4000000 in
set_option maxRecDepth 100000 in
theorem c_MA_store (l : Launch) (dC : Nat → ClassId) (dI : Nat → Nat → Nat) (sz : Nat) (h0 gl h0_wafer_r h0_codes_r ce sk fb fs ff fl lb lh : Nat) (cce : ClassId) (h0_pages : Int32) (h0_steps : Int32) (h0_reason : Int32) (h0_height : Int32) (h0_frameCount : Int32) (h0_labelCount : Int32) (h0_at : Int32) (gce : Nat → Int64)   (p0 : Int32) (p1 : Int32) (p2 : Int64) (ba1 : 0 ≤ p1.toInt ∧ p1.toInt ≤ 8)  : Met l y_MA_store w_MA_store ({ frames := 0, cells := 0, slots := 0, locals := 0 }) (va_Pc [.ref h0, .int p0, .int p1, .long p2] (fun U => U.heap.size = sz ∧ va_P (dC, dI) cls (wz_19 h0 h0_pages h0_steps h0_reason gl h0_wafer_r h0_codes_r ce sk h0_height fb fs ff fl h0_frameCount lb lh h0_labelCount h0_at ce cce gce) U.heap ∧ va_K (dC, dI) cls [(cce, .long)] U ∧ va_D (fun _ => True) (wz_19 h0 h0_pages h0_steps h0_reason gl h0_wafer_r h0_codes_r ce sk h0_height fb fs ff fl h0_frameCount lb lh h0_labelCount h0_at ce cce gce))) (va_Qv (fun (u : (Nat → Int64)) => match u with | gce2 => True) (at_MA_store dC dI h0 gl h0_wafer_r h0_codes_r ce sk fb fs ff fl lb lh cce h0_pages h0_steps h0_reason h0_height h0_frameCount h0_labelCount h0_at (va_A (wz_19 h0 h0_pages h0_steps h0_reason gl h0_wafer_r h0_codes_r ce sk h0_height fb fs ff fl h0_frameCount lb lh h0_labelCount h0_at ce cce gce) sz)) (va_A (wz_19 h0 h0_pages h0_steps h0_reason gl h0_wafer_r h0_codes_r ce sk h0_height fb fs ff fl h0_frameCount lb lh h0_labelCount h0_at ce cce gce) sz)) 0 0 (va_A (wz_19 h0 h0_pages h0_steps h0_reason gl h0_wafer_r h0_codes_r ce sk h0_height fb fs ff fl h0_frameCount lb lh h0_labelCount h0_at ce cce gce) sz) := by
  refine Met.ofW (cc := b_MA_store) (maxL := 10) (ret := none) (by decide) rfl ?_
  intro p e s m args below meth c s₁ B hml hv
  obtain ⟨rfl, hsz, hP, hK, hD0⟩ := hv
  have hx := B.exec
  have hb := B.bytes
  have hr := B.returns
  have hts0 := atoms_spec (ws := w_MA_store) B.pre
  have hts : ∀ w ∈ lw_g, w.before _ s = true := fun w h => hts0 w (List.mem_cons_of_mem _ h)
  have hown : s.vm.findClass R_MA = some m.cls := findClass_of_methodNamed B.named
  have hlocks := B.notSynchronized
  clear hts0
  subst hsz
  have hD := hD0.self (sz := s.heap.size)
  generalize hAe : va_A (wz_19 h0 h0_pages h0_steps h0_reason gl h0_wafer_r h0_codes_r ce sk h0_height fb fs ff fl h0_frameCount lb lh h0_labelCount h0_at ce cce gce) s.heap.size = A at hD ⊢
  have hA : ∀ q : Nat, s.heap.size ≤ q → A q := fun q h => by rw [← hAe]; exact Or.inr h
  clear hAe
  have hP : va_P (dC, dI) cls (wz_19 h0 h0_pages h0_steps h0_reason gl h0_wafer_r h0_codes_r ce sk h0_height fb fs ff fl h0_frameCount lb lh h0_labelCount h0_at ce cce gce) s.heap := hP
  have hl := lv_entry ([.ref h0, .int p0, .int p1, .long p2]) (n := 10) (Nat.le_of_ble_eq_true rfl)
  rw [lg_entry_eq]
  generalize (lg_sl ([.ref h0, .int p0, .int p1, .long p2]) ++ List.replicate (10 - (lg_sl ([.ref h0, .int p0, .int p1, .long p2])).length) Slot.unset).toArray = ls at hl ⊢
  have hl : lv_has ls 10 [(0, .ref h0), (1, .int p0), (2, .int p1), (3, .long p2)] := hl
  have k0 : (0 : Int32).toInt = 0 := by decide
  refine w_gen (A := A) hP (fun H locs hP hS => ?_)
  have k1 : (1 : Int32).toInt = 1 := by decide
  have k3 : (3 : Int32).toInt = 3 := by decide
  have k7 : (7 : Int32).toInt = 7 := by decide
  have k8 : (8 : Int32).toInt = 8 := by decide
  have lo_p0 := i32_lo p0
  have hi_p0 := i32_hi p0
  have lo_p1 := i32_lo p1
  have hi_p1 := i32_hi p1
  refine lv_iconst (v := 0) hx hb d_MA_store_0 (by decide) ?_
  refine lv_istore (lv' := [(5, .int 0), (0, .ref h0), (1, .int p0), (2, .int p1), (3, .long p2)]) hx hb d_MA_store_1 hl (by decide) rfl (fun ls hl => ?_)
  refine w_loop (σ := Int32 × (Nat → Int64)) (fun u H locs ls => match u with | (j3_l5, j3_ce) => (0 ≤ j3_l5.toInt ∧ j3_l5.toInt ≤ 8) ∧ va_P (dC, dI) cls (wz_19 h0 h0_pages h0_steps h0_reason gl h0_wafer_r h0_codes_r ce sk h0_height fb fs ff fl h0_frameCount lb lh h0_labelCount h0_at ce cce j3_ce) H ∧ va_D A (wz_19 h0 h0_pages h0_steps h0_reason gl h0_wafer_r h0_codes_r ce sk h0_height fb fs ff fl h0_frameCount lb lh h0_labelCount h0_at ce cce j3_ce) ∧ va_S A s.heap H locs ∧ lv_has ls 10 [(0, .ref h0), (1, .int p0), (2, .int p1), (3, .long p2), (5, .int j3_l5)]) (fun u => match u with | (j3_l5, j3_ce) => (p1.toInt - j3_l5.toInt).toNat) ?_ (0, gce) ⟨by (try dsimp only); (first | (apply Int.le_antisymm <;> omega) | omega), hP, hD, hS, lv_sub hl [1, 2, 3, 4, 0] rfl⟩
  intro N3 ih3 u H locs ls hN3 hI
  obtain ⟨j3_l5, j3_ce⟩ := u
  obtain ⟨b_j3_l5, hP, hD, hS, hl⟩ := hI
  have hN3 : (p1.toInt - j3_l5.toInt).toNat < N3 + 1 := hN3
  refine lv_iload hx hb d_MA_store_3 (lv_at hl 4 rfl) ?_
  refine lv_iload_n hx hb d_MA_store_5 rfl (lv_at hl 2 rfl) ?_
  refine lv_icmp_ge (tgt := 94) hx hb d_MA_store_6 (by decide) (fun c6 => ?_) (fun c6 => ?_)
  · have q6 := leI c6
    have hP9 := hP.sb (wq := (wz_19 h0 h0_pages h0_steps h0_reason gl h0_wafer_r h0_codes_r ce sk h0_height fb fs ff fl h0_frameCount lb lh h0_labelCount h0_at ce cce j3_ce)) [0, 1] rfl
    have hD9 := hD.sb (wq := (wz_19 h0 h0_pages h0_steps h0_reason gl h0_wafer_r h0_codes_r ce sk h0_height fb fs ff fl h0_frameCount lb lh h0_labelCount h0_at ce cce j3_ce)) [0, 1] (by decide) rfl
    exact W.vret hx hb hr (fun t ht hW => ⟨⟨j3_ce, rfl, ⟨⟩, va_P.he ht.symm hP9, va_K.moved hW.alike hK, hD9⟩, hS.F ht⟩) hS.2.2 d_MA_store_94
  · have q6 := nleI c6
    refine lv_iload_n hx hb d_MA_store_9 rfl (lv_at hl 1 rfl) ?_
    refine lv_iload hx hb d_MA_store_10 (lv_at hl 4 rfl) ?_
    refine lv_iadd hx hb d_MA_store_12 ?_
    refine lv_topi (fun x1 ex1 => ?_)
    refine lv_iconst (v := 3) hx hb d_MA_store_13 (by decide) ?_
    refine lv_ishr hx hb d_MA_store_14 ?_
    refine lv_topi (fun x2 ex2 => ?_)
    refine lv_istore (lv' := [(6, .int x2), (0, .ref h0), (1, .int p0), (2, .int p1), (3, .long p2), (5, .int j3_l5)]) hx hb d_MA_store_15 hl (by decide) rfl (fun ls hl => ?_)
    refine lv_iload_n hx hb d_MA_store_17 rfl (lv_at hl 2 rfl) ?_
    refine lv_iload hx hb d_MA_store_18 (lv_at hl 5 rfl) ?_
    refine lv_iadd hx hb d_MA_store_20 ?_
    refine lv_topi (fun x3 ex3 => ?_)
    refine lv_bipush (v := 7) hx hb d_MA_store_21 (by decide) ?_
    refine lv_iand hx hb d_MA_store_23 ?_
    refine lv_topi (fun x4 ex4 => ?_)
    refine lv_bipush (v := 8) hx hb d_MA_store_24 (by decide) ?_
    refine lv_imul hx hb d_MA_store_26 ?_
    refine lv_topi (fun x5 ex5 => ?_)
    refine lv_istore (lv' := [(7, .int x5), (6, .int x2), (0, .ref h0), (1, .int p0), (2, .int p1), (3, .long p2), (5, .int j3_l5)]) hx hb d_MA_store_27 hl (by decide) rfl (fun ls hl => ?_)
    refine lv_lload_n hx hb d_MA_store_29 rfl (lv_at hl 5 rfl) ?_
    refine lv_bipush (v := 8) hx hb d_MA_store_30 (by decide) ?_
    refine lv_iload hx hb d_MA_store_32 (lv_at hl 6 rfl) ?_
    refine lv_imul hx hb d_MA_store_34 ?_
    refine lv_topi (fun x6 ex6 => ?_)
    refine lv_lushr hx hb d_MA_store_35 rfl ?_
    refine lv_topl (fun x7 ex7 => ?_)
    refine lv_ldc2 hx hb hown (hts _ kL_MA_223) d_MA_store_36 ?_
    refine lv_topl (fun x8 ex8 => ?_)
    have tx8 : x8.toInt = 255 := by rw [ex8]; decide
    refine lv_land hx hb d_MA_store_39 ?_
    refine lv_topl (fun x9 ex9 => ?_)
    refine lv_iload hx hb d_MA_store_40 (lv_at hl 0 rfl) ?_
    refine lv_lshl hx hb d_MA_store_42 rfl ?_
    refine lv_topl (fun x10 ex10 => ?_)
    refine lv_lstore (lv' := [(8, .long x10), (7, .int x5), (6, .int x2), (0, .ref h0), (1, .int p0), (2, .int p1), (3, .long p2), (5, .int j3_l5)]) hx hb d_MA_store_43 hl (by decide) rfl (fun ls hl => ?_)
    refine lv_iload hx hb d_MA_store_45 (lv_at hl 2 rfl) ?_
    refine w_cut (pc2 := 88) (σ := (Nat → Int64)) (fun u H locs ls => match u with | j88_ce => va_P (dC, dI) cls (wz_19 h0 h0_pages h0_steps h0_reason gl h0_wafer_r h0_codes_r ce sk h0_height fb fs ff fl h0_frameCount lb lh h0_labelCount h0_at ce cce j88_ce) H ∧ va_D A (wz_19 h0 h0_pages h0_steps h0_reason gl h0_wafer_r h0_codes_r ce sk h0_height fb fs ff fl h0_frameCount lb lh h0_labelCount h0_at ce cce j88_ce) ∧ va_S A s.heap H locs ∧ lv_has ls 10 [(0, .ref h0), (1, .int p0), (2, .int p1), (3, .long p2), (5, .int j3_l5)]) (fun u => match u with | j88_ce => []) ?_ (fun jn88 => ?_)
    · intro u H locs ls hI
      obtain ⟨j88_ce, rfl⟩ : ∃ z, z = u := ⟨_, rfl⟩
      obtain ⟨hP, hD, hS, hl⟩ := hI
      obtain ⟨x11, ex11⟩ : ∃ z : Int32, z = j3_l5 + 1 := ⟨_, rfl⟩
      have tx11 : x11.toInt = j3_l5.toInt + 1 := by have z := i32_add ex11 (by (first | (apply Int.le_antisymm <;> omega) | omega)) (by (first | (apply Int.le_antisymm <;> omega) | omega)); first | exact z | (first | (apply Int.le_antisymm <;> omega) | omega)
      refine lv_iinc (v := x11) (lv' := [(5, .int x11), (0, .ref h0), (1, .int p0), (2, .int p1), (3, .long p2)]) hx hb d_MA_store_88 hl (k := 4) rfl (by rw [ex11]; rfl) (by decide) rfl (fun ls hl => ?_)
      refine lv_goto (tgt := 3) hx hb d_MA_store_91 (by decide) ?_
      exact ih3 (x11, j88_ce) _ _ _ (by show (p1.toInt - x11.toInt).toNat < N3; (first | (apply Int.le_antisymm <;> omega) | omega)) ⟨by (try dsimp only); (first | (apply Int.le_antisymm <;> omega) | omega), hP, hD, hS, lv_sub hl [1, 2, 3, 4, 0] rfl⟩
    · skip
      refine lv_if_lt (tgt := 88) hx hb d_MA_store_47 (by decide) (fun c47 => ?_) (fun c47 => ?_)
      · have q47 := ltI c47
        exact jn88 j3_ce _ _ _ ⟨hP, hD, hS, lv_sub hl [3, 4, 5, 6, 7] rfl⟩
      · have q47 := nltI c47
        refine lv_iload hx hb d_MA_store_50 (lv_at hl 2 rfl) ?_
        refine lv_aload_n hx hb d_MA_store_52 rfl (lv_at hl 3 rfl) ?_
        refine va_get (D := (dC, dI)) (ci := 4) (v := .ref ce) (C := R_MA) (T := F_MA) (N := 18) hx hb hts i_MA hown hK hP 0 rfl rfl 6 (by decide) (hts _ kF_MA_15) (fun _ h9 => h9) rfl d_MA_store_53 ?_
        refine va_alen hx hb hK hP 1 0 rfl rfl rfl d_MA_store_56 ?_
        refine lv_topi (fun x12 ex12 => ?_)
        have tx12 : x12.toInt = 16384 := by rw [ex12]; exact i32_len (by (first | (apply Int.le_antisymm <;> omega) | omega))
        refine lv_icmp_ge (tgt := 88) hx hb d_MA_store_57 (by decide) (fun c57 => ?_) (fun c57 => ?_)
        · have q57 := leI c57
          exact jn88 j3_ce _ _ _ ⟨hP, hD, hS, lv_sub hl [3, 4, 5, 6, 7] rfl⟩
        · have q57 := nleI c57
          refine lv_aload_n hx hb d_MA_store_60 rfl (lv_at hl 3 rfl) ?_
          refine va_get (D := (dC, dI)) (ci := 4) (v := .ref ce) (C := R_MA) (T := F_MA) (N := 18) hx hb hts i_MA hown hK hP 0 rfl rfl 6 (by decide) (hts _ kF_MA_15) (fun _ h9 => h9) rfl d_MA_store_61 ?_
          refine lv_iload hx hb d_MA_store_64 (lv_at hl 2 rfl) ?_
          refine lv_aload_n hx hb d_MA_store_66 rfl (lv_at hl 3 rfl) ?_
          refine va_get (D := (dC, dI)) (ci := 4) (v := .ref ce) (C := R_MA) (T := F_MA) (N := 18) hx hb hts i_MA hown hK hP 0 rfl rfl 6 (by decide) (hts _ kF_MA_15) (fun _ h9 => h9) rfl d_MA_store_67 ?_
          refine lv_iload hx hb d_MA_store_70 (lv_at hl 2 rfl) ?_
          have g72 : vp_in x2 16384 := vp_in_iff.mpr ⟨by (first | (apply Int.le_antisymm <;> omega) | omega), by (first | (apply Int.le_antisymm <;> omega) | omega)⟩
          refine va_lald hx hb hK hP 1 0 rfl rfl g72 d_MA_store_72 ?_
          refine lv_topl (fun x13 ex13 => ?_)
          refine lv_ldc2 hx hb hown (hts _ kL_MA_223) d_MA_store_73 ?_
          refine lv_topl (fun x14 ex14 => ?_)
          have tx14 : x14.toInt = 255 := by rw [ex14]; decide
          refine lv_iload hx hb d_MA_store_76 (lv_at hl 1 rfl) ?_
          refine lv_lshl hx hb d_MA_store_78 rfl ?_
          refine lv_topl (fun x15 ex15 => ?_)
          refine lv_ldc2 hx hb hown (hts _ kL_MA_218) d_MA_store_79 ?_
          refine lv_topl (fun x16 ex16 => ?_)
          have tx16 : x16.toInt = -1 := by rw [ex16]; decide
          refine lv_lxor hx hb d_MA_store_82 ?_
          refine lv_topl (fun x17 ex17 => ?_)
          refine lv_land hx hb d_MA_store_83 ?_
          refine lv_topl (fun x18 ex18 => ?_)
          refine lv_lload hx hb d_MA_store_84 (lv_at hl 0 rfl) ?_
          refine lv_lor hx hb d_MA_store_86 ?_
          refine lv_topl (fun x19 ex19 => ?_)
          have g87 : vp_in x2 16384 := vp_in_iff.mpr ⟨by (first | (apply Int.le_antisymm <;> omega) | omega), by (first | (apply Int.le_antisymm <;> omega) | omega)⟩
          refine va_last hx hb hK hP hD hS 1 0 rfl rfl g87 d_MA_store_87 (fun H locs hP hD hS => ?_)
          generalize ef20 : vp_updL j3_ce x2.toNatClampNeg x19 = f20 at hP hD
          exact jn88 f20 _ _ _ ⟨hP, hD, hS, lv_sub hl [3, 4, 5, 6, 7] rfl⟩
abbrev b_MA_divide : ByteArray := prog_6_method_22_code
def y_MA_divide : MethodName := ⟨R_MA, "divide", "(IJJZ)V"⟩
abbrev w_MA_divide : List Cond := .code y_MA_divide b_MA_divide 13 none :: lw_g
theorem kC_MA_divide : Cond.code y_MA_divide b_MA_divide 13 none ∈ lw_g := in_c7 227 rfl rfl
theorem d_MA_divide_0 : decode b_MA_divide 0 = .ok (.lload 4, 2) := bz_c22 (by decide +kernel)
theorem d_MA_divide_2 : decode b_MA_divide 2 = .ok (.lconst 0, 1) := bz_c9 (by decide +kernel)
theorem d_MA_divide_3 : decode b_MA_divide 3 = .ok (.lcmp, 1) := bz_c148 (by decide +kernel)
theorem d_MA_divide_4 : decode b_MA_divide 4 = .ok (.ifCond .ne 10, 3) := bz_c154 (by decide +kernel)
theorem d_MA_divide_7 : decode b_MA_divide 7 = .ok (.aload_n 0, 1) := bz_c42 (by decide +kernel)
theorem d_MA_divide_8 : decode b_MA_divide 8 = .ok (.bipush 10, 2) := bz_c16 (by decide +kernel)
theorem d_MA_divide_10 : decode b_MA_divide 10 = .ok (.putfield 71, 3) := bz_c181 (by decide +kernel)
theorem d_MA_divide_13 : decode b_MA_divide 13 = .ok (.return_, 1) := bz_c177 (by decide +kernel)
theorem d_MA_divide_14 : decode b_MA_divide 14 = .ok (.iload_n 1, 1) := bz_c27 (by decide +kernel)
theorem d_MA_divide_15 : decode b_MA_divide 15 = .ok (.iconst 3, 1) := bz_c6 (by decide +kernel)
theorem d_MA_divide_16 : decode b_MA_divide 16 = .ok (.if_icmp .ne 38, 3) := bz_c160 (by decide +kernel)
theorem d_MA_divide_19 : decode b_MA_divide 19 = .ok (.lload 4, 2) := bz_c22 (by decide +kernel)
theorem d_MA_divide_21 : decode b_MA_divide 21 = .ok (.ldc2_w 218, 3) := bz_c20 (by decide +kernel)
theorem d_MA_divide_24 : decode b_MA_divide 24 = .ok (.lcmp, 1) := bz_c148 (by decide +kernel)
theorem d_MA_divide_25 : decode b_MA_divide 25 = .ok (.ifCond .ne 29, 3) := bz_c154 (by decide +kernel)
theorem d_MA_divide_28 : decode b_MA_divide 28 = .ok (.lload_n 2, 1) := bz_c32 (by decide +kernel)
theorem d_MA_divide_29 : decode b_MA_divide 29 = .ok (.iload 6, 2) := bz_c21 (by decide +kernel)
theorem d_MA_divide_31 : decode b_MA_divide 31 = .ok (.ifCond .eq 9, 3) := bz_c153 (by decide +kernel)
theorem d_MA_divide_34 : decode b_MA_divide 34 = .ok (.ldc2_w 265, 3) := bz_c20 (by decide +kernel)
theorem d_MA_divide_37 : decode b_MA_divide 37 = .ok (.goto 6, 3) := bz_c167 (by decide +kernel)
theorem d_MA_divide_40 : decode b_MA_divide 40 = .ok (.ldc2_w 267, 3) := bz_c20 (by decide +kernel)
theorem d_MA_divide_43 : decode b_MA_divide 43 = .ok (.lcmp, 1) := bz_c148 (by decide +kernel)
theorem d_MA_divide_44 : decode b_MA_divide 44 = .ok (.ifCond .ne 10, 3) := bz_c154 (by decide +kernel)
theorem d_MA_divide_47 : decode b_MA_divide 47 = .ok (.aload_n 0, 1) := bz_c42 (by decide +kernel)
theorem d_MA_divide_48 : decode b_MA_divide 48 = .ok (.bipush 11, 2) := bz_c16 (by decide +kernel)
theorem d_MA_divide_50 : decode b_MA_divide 50 = .ok (.putfield 71, 3) := bz_c181 (by decide +kernel)
theorem d_MA_divide_53 : decode b_MA_divide 53 = .ok (.return_, 1) := bz_c177 (by decide +kernel)
theorem d_MA_divide_54 : decode b_MA_divide 54 = .ok (.iload 6, 2) := bz_c21 (by decide +kernel)
theorem d_MA_divide_56 : decode b_MA_divide 56 = .ok (.ifCond .eq 9, 3) := bz_c153 (by decide +kernel)
theorem d_MA_divide_59 : decode b_MA_divide 59 = .ok (.ldc2_w 162, 3) := bz_c20 (by decide +kernel)
theorem d_MA_divide_62 : decode b_MA_divide 62 = .ok (.goto 6, 3) := bz_c167 (by decide +kernel)
theorem d_MA_divide_65 : decode b_MA_divide 65 = .ok (.ldc2_w 218, 3) := bz_c20 (by decide +kernel)
theorem d_MA_divide_68 : decode b_MA_divide 68 = .ok (.lstore 7, 2) := bz_c55 (by decide +kernel)
theorem d_MA_divide_70 : decode b_MA_divide 70 = .ok (.iload_n 1, 1) := bz_c27 (by decide +kernel)
theorem d_MA_divide_71 : decode b_MA_divide 71 = .ok (.iconst 3, 1) := bz_c6 (by decide +kernel)
theorem d_MA_divide_72 : decode b_MA_divide 72 = .ok (.if_icmp .ne 12, 3) := bz_c160 (by decide +kernel)
theorem d_MA_divide_75 : decode b_MA_divide 75 = .ok (.lload_n 2, 1) := bz_c32 (by decide +kernel)
theorem d_MA_divide_76 : decode b_MA_divide 76 = .ok (.lload 4, 2) := bz_c22 (by decide +kernel)
theorem d_MA_divide_78 : decode b_MA_divide 78 = .ok (.ldiv, 1) := by decide +kernel
theorem d_MA_divide_79 : decode b_MA_divide 79 = .ok (.lstore 9, 2) := bz_c55 (by decide +kernel)
theorem d_MA_divide_81 : decode b_MA_divide 81 = .ok (.goto 56, 3) := bz_c167 (by decide +kernel)
theorem d_MA_divide_84 : decode b_MA_divide 84 = .ok (.iload_n 1, 1) := bz_c27 (by decide +kernel)
theorem d_MA_divide_85 : decode b_MA_divide 85 = .ok (.iconst 5, 1) := bz_c8 (by decide +kernel)
theorem d_MA_divide_86 : decode b_MA_divide 86 = .ok (.if_icmp .ne 12, 3) := bz_c160 (by decide +kernel)
theorem d_MA_divide_89 : decode b_MA_divide 89 = .ok (.lload_n 2, 1) := bz_c32 (by decide +kernel)
theorem d_MA_divide_90 : decode b_MA_divide 90 = .ok (.lload 4, 2) := bz_c22 (by decide +kernel)
theorem d_MA_divide_92 : decode b_MA_divide 92 = .ok (.lrem, 1) := by decide +kernel
theorem d_MA_divide_93 : decode b_MA_divide 93 = .ok (.lstore 9, 2) := bz_c55 (by decide +kernel)
theorem d_MA_divide_95 : decode b_MA_divide 95 = .ok (.goto 42, 3) := bz_c167 (by decide +kernel)
theorem d_MA_divide_98 : decode b_MA_divide 98 = .ok (.lload_n 2, 1) := bz_c32 (by decide +kernel)
theorem d_MA_divide_99 : decode b_MA_divide 99 = .ok (.lload 7, 2) := bz_c22 (by decide +kernel)
theorem d_MA_divide_101 : decode b_MA_divide 101 = .ok (.land, 1) := bz_c127 (by decide +kernel)
theorem d_MA_divide_102 : decode b_MA_divide 102 = .ok (.lload 4, 2) := bz_c22 (by decide +kernel)
theorem d_MA_divide_104 : decode b_MA_divide 104 = .ok (.lload 7, 2) := bz_c22 (by decide +kernel)
theorem d_MA_divide_106 : decode b_MA_divide 106 = .ok (.land, 1) := bz_c127 (by decide +kernel)
theorem d_MA_divide_107 : decode b_MA_divide 107 = .ok (.invokestatic 269, 3) := bz_c184 (by decide +kernel)
theorem d_MA_divide_110 : decode b_MA_divide 110 = .ok (.lstore 11, 2) := bz_c55 (by decide +kernel)
theorem d_MA_divide_112 : decode b_MA_divide 112 = .ok (.iload_n 1, 1) := bz_c27 (by decide +kernel)
theorem d_MA_divide_113 : decode b_MA_divide 113 = .ok (.iconst 4, 1) := bz_c7 (by decide +kernel)
theorem d_MA_divide_114 : decode b_MA_divide 114 = .ok (.if_icmp .ne 8, 3) := bz_c160 (by decide +kernel)
theorem d_MA_divide_117 : decode b_MA_divide 117 = .ok (.lload 11, 2) := bz_c22 (by decide +kernel)
theorem d_MA_divide_119 : decode b_MA_divide 119 = .ok (.goto 16, 3) := bz_c167 (by decide +kernel)
theorem d_MA_divide_122 : decode b_MA_divide 122 = .ok (.lload_n 2, 1) := bz_c32 (by decide +kernel)
theorem d_MA_divide_123 : decode b_MA_divide 123 = .ok (.lload 7, 2) := bz_c22 (by decide +kernel)
theorem d_MA_divide_125 : decode b_MA_divide 125 = .ok (.land, 1) := bz_c127 (by decide +kernel)
theorem d_MA_divide_126 : decode b_MA_divide 126 = .ok (.lload 11, 2) := bz_c22 (by decide +kernel)
theorem d_MA_divide_128 : decode b_MA_divide 128 = .ok (.lload 4, 2) := bz_c22 (by decide +kernel)
theorem d_MA_divide_130 : decode b_MA_divide 130 = .ok (.lload 7, 2) := bz_c22 (by decide +kernel)
theorem d_MA_divide_132 : decode b_MA_divide 132 = .ok (.land, 1) := bz_c127 (by decide +kernel)
theorem d_MA_divide_133 : decode b_MA_divide 133 = .ok (.lmul, 1) := by decide +kernel
theorem d_MA_divide_134 : decode b_MA_divide 134 = .ok (.lsub, 1) := by decide +kernel
theorem d_MA_divide_135 : decode b_MA_divide 135 = .ok (.lstore 9, 2) := bz_c55 (by decide +kernel)
theorem d_MA_divide_137 : decode b_MA_divide 137 = .ok (.aload_n 0, 1) := bz_c42 (by decide +kernel)
theorem d_MA_divide_138 : decode b_MA_divide 138 = .ok (.iload 6, 2) := bz_c21 (by decide +kernel)
theorem d_MA_divide_140 : decode b_MA_divide 140 = .ok (.ifCond .eq 10, 3) := bz_c153 (by decide +kernel)
theorem d_MA_divide_143 : decode b_MA_divide 143 = .ok (.lload 9, 2) := bz_c22 (by decide +kernel)
theorem d_MA_divide_145 : decode b_MA_divide 145 = .ok (.l2i, 1) := bz_c136 (by decide +kernel)
theorem d_MA_divide_146 : decode b_MA_divide 146 = .ok (.i2l, 1) := bz_c133 (by decide +kernel)
theorem d_MA_divide_147 : decode b_MA_divide 147 = .ok (.goto 5, 3) := bz_c167 (by decide +kernel)
theorem d_MA_divide_150 : decode b_MA_divide 150 = .ok (.lload 9, 2) := bz_c22 (by decide +kernel)
theorem d_MA_divide_152 : decode b_MA_divide 152 = .ok (.invokevirtual 94, 3) := bz_c182 (by decide +kernel)
theorem d_MA_divide_155 : decode b_MA_divide 155 = .ok (.return_, 1) := bz_c177 (by decide +kernel)
theorem kM_MA_269 : Cond.methodLink R_MA 269 y_MA_quotientWithoutSign ∈ lw_g := in_c7 230 rfl rfl
theorem kT_MA_quotientWithoutSign : Cond.static y_MA_quotientWithoutSign ∈ lw_g := in_c7 231 rfl rfl
theorem kL_MA_267 : Cond.constantLong R_MA 267 (-9223372036854775808) ∈ lw_g := in_c7 229 rfl rfl
theorem kL_MA_265 : Cond.constantLong R_MA 265 (-2147483648) ∈ lw_g := in_c7 228 rfl rfl
abbrev at_MA_divide (dC : Nat → ClassId) (dI : Nat → Nat → Nat) (h0 gl h0_wafer_r h0_codes_r ce sk fb fs ff fl lb lh : Nat) (csk : ClassId) (h0_pages : Int32) (h0_steps : Int32) (h0_frameCount : Int32) (h0_labelCount : Int32) (h0_at : Int32) (A : Nat → Prop) (u : (Nat → Int64) × Int32 × Int32) (t : State) : Prop := match u with | (gsk, h0_height, h0_reason) => va_P (dC, dI) cls (wz_17 h0 h0_pages h0_steps h0_reason gl h0_wafer_r h0_codes_r ce sk h0_height fb fs ff fl h0_frameCount lb lh h0_labelCount h0_at sk csk gsk) t.heap ∧ va_K (dC, dI) cls [(csk, .long)] t ∧ va_D A (wz_17 h0 h0_pages h0_steps h0_reason gl h0_wafer_r h0_codes_r ce sk h0_height fb fs ff fl h0_frameCount lb lh h0_labelCount h0_at sk csk gsk)
set_option maxHeartbeats 4000000 in
set_option maxRecDepth 100000 in
theorem c_MA_divide (l : Launch) (dC : Nat → ClassId) (dI : Nat → Nat → Nat) (sz : Nat) (h0 gl h0_wafer_r h0_codes_r ce sk fb fs ff fl lb lh : Nat) (csk : ClassId) (h0_pages : Int32) (h0_steps : Int32) (h0_reason : Int32) (h0_height : Int32) (h0_frameCount : Int32) (h0_labelCount : Int32) (h0_at : Int32) (gsk : Nat → Int64)  (b_h0_reason : 0 ≤ h0_reason.toInt ∧ h0_reason.toInt ≤ 14) (b_h0_height : 0 ≤ h0_height.toInt ∧ h0_height.toInt ≤ 12096) (p0 : Int32) (p1 : Int64) (p2 : Int64) (p3 : Int32) (ba3 : p3 = 0 ∨ p3 = 1) (hr0 : h0_reason.toInt = 0) : Met l y_MA_divide w_MA_divide ({ frames := 3, cells := 0, slots := 0, locals := 73 }) (va_Pc [.ref h0, .int p0, .long p1, .long p2, .int p3] (fun U => U.heap.size = sz ∧ va_P (dC, dI) cls (wz_17 h0 h0_pages h0_steps h0_reason gl h0_wafer_r h0_codes_r ce sk h0_height fb fs ff fl h0_frameCount lb lh h0_labelCount h0_at sk csk gsk) U.heap ∧ va_K (dC, dI) cls [(csk, .long)] U ∧ va_D (fun _ => True) (wz_17 h0 h0_pages h0_steps h0_reason gl h0_wafer_r h0_codes_r ce sk h0_height fb fs ff fl h0_frameCount lb lh h0_labelCount h0_at sk csk gsk))) (va_Qv (fun (u : (Nat → Int64) × Int32 × Int32) => match u with | (gsk2, h0_height2, h0_reason2) => (0 ≤ h0_height2.toInt ∧ h0_height2.toInt ≤ 12096) ∧ (0 ≤ h0_reason2.toInt ∧ h0_reason2.toInt ≤ 14) ∧ ((h0_reason2.toInt = 0 → h0_height2.toInt = h0_height.toInt + 1))) (at_MA_divide dC dI h0 gl h0_wafer_r h0_codes_r ce sk fb fs ff fl lb lh csk h0_pages h0_steps h0_frameCount h0_labelCount h0_at (va_A (wz_17 h0 h0_pages h0_steps h0_reason gl h0_wafer_r h0_codes_r ce sk h0_height fb fs ff fl h0_frameCount lb lh h0_labelCount h0_at sk csk gsk) sz)) (va_A (wz_17 h0 h0_pages h0_steps h0_reason gl h0_wafer_r h0_codes_r ce sk h0_height fb fs ff fl h0_frameCount lb lh h0_labelCount h0_at sk csk gsk) sz)) 0 0 (va_A (wz_17 h0 h0_pages h0_steps h0_reason gl h0_wafer_r h0_codes_r ce sk h0_height fb fs ff fl h0_frameCount lb lh h0_labelCount h0_at sk csk gsk) sz) := by
  refine Met.ofW (cc := b_MA_divide) (maxL := 13) (ret := none) (by decide) rfl ?_
  intro p e s m args below meth c s₁ B hml hv
  obtain ⟨rfl, hsz, hP, hK, hD0⟩ := hv
  have hx := B.exec
  have hb := B.bytes
  have hr := B.returns
  have hts0 := atoms_spec (ws := w_MA_divide) B.pre
  have hts : ∀ w ∈ lw_g, w.before _ s = true := fun w h => hts0 w (List.mem_cons_of_mem _ h)
  have hown : s.vm.findClass R_MA = some m.cls := findClass_of_methodNamed B.named
  have hlocks := B.notSynchronized
  clear hts0
  subst hsz
  have hD := hD0.self (sz := s.heap.size)
  generalize hAe : va_A (wz_17 h0 h0_pages h0_steps h0_reason gl h0_wafer_r h0_codes_r ce sk h0_height fb fs ff fl h0_frameCount lb lh h0_labelCount h0_at sk csk gsk) s.heap.size = A at hD ⊢
  have hA : ∀ q : Nat, s.heap.size ≤ q → A q := fun q h => by rw [← hAe]; exact Or.inr h
  clear hAe
  have hP : va_P (dC, dI) cls (wz_17 h0 h0_pages h0_steps h0_reason gl h0_wafer_r h0_codes_r ce sk h0_height fb fs ff fl h0_frameCount lb lh h0_labelCount h0_at sk csk gsk) s.heap := hP
  have hl := lv_entry ([.ref h0, .int p0, .long p1, .long p2, .int p3]) (n := 13) (Nat.le_of_ble_eq_true rfl)
  rw [lg_entry_eq]
  generalize (lg_sl ([.ref h0, .int p0, .long p1, .long p2, .int p3]) ++ List.replicate (13 - (lg_sl ([.ref h0, .int p0, .long p1, .long p2, .int p3])).length) Slot.unset).toArray = ls at hl ⊢
  have hl : lv_has ls 13 [(0, .ref h0), (1, .int p0), (2, .long p1), (4, .long p2), (6, .int p3)] := hl
  have k0 : (0 : Int32).toInt = 0 := by decide
  refine w_gen (A := A) hP (fun H locs hP hS => ?_)
  have k3 : (3 : Int32).toInt = 3 := by decide
  have k4 : (4 : Int32).toInt = 4 := by decide
  have k5 : (5 : Int32).toInt = 5 := by decide
  have k10 : (10 : Int32).toInt = 10 := by decide
  have k11 : (11 : Int32).toInt = 11 := by decide
  have lo_p0 := i32_lo p0
  have hi_p0 := i32_hi p0
  have lo_p3 := i32_lo p3
  have hi_p3 := i32_hi p3
  have tp3 := b01 ba3
  refine lv_lload hx hb d_MA_divide_0 (lv_at hl 3 rfl) ?_
  refine lv_lconst (v := 0) hx hb d_MA_divide_2 (by decide) ?_
  have kl0 : (0 : Int64).toInt = 0 := by decide
  refine W.lcmp hx hb d_MA_divide_3 ?_
  refine lv_topi (fun x1 ex1 => ?_)
  have tx1 := lgc ex1
  refine lv_if_ne (tgt := 14) hx hb d_MA_divide_4 (by decide) (fun c4 => ?_) (fun c4 => ?_)
  · have q4 := neI c4
    refine lv_iload_n hx hb d_MA_divide_14 rfl (lv_at hl 1 rfl) ?_
    refine lv_iconst (v := 3) hx hb d_MA_divide_15 (by decide) ?_
    refine w_cut (pc2 := 54) (σ := Unit) (fun u H locs ls => match u with | _ => va_P (dC, dI) cls (wz_17 h0 h0_pages h0_steps h0_reason gl h0_wafer_r h0_codes_r ce sk h0_height fb fs ff fl h0_frameCount lb lh h0_labelCount h0_at sk csk gsk) H ∧ va_D A (wz_17 h0 h0_pages h0_steps h0_reason gl h0_wafer_r h0_codes_r ce sk h0_height fb fs ff fl h0_frameCount lb lh h0_labelCount h0_at sk csk gsk) ∧ va_S A s.heap H locs ∧ lv_has ls 13 [(0, .ref h0), (1, .int p0), (2, .long p1), (4, .long p2), (6, .int p3)]) (fun u => match u with | _ => []) ?_ (fun jn54 => ?_)
    · intro u H locs ls hI
      obtain ⟨hP, hD, hS, hl⟩ := hI
      refine lv_iload hx hb d_MA_divide_54 (lv_at hl 4 rfl) ?_
      refine w_cut (pc2 := 68) (σ := Int64) (fun u H locs ls => match u with | j68_s0 => va_P (dC, dI) cls (wz_17 h0 h0_pages h0_steps h0_reason gl h0_wafer_r h0_codes_r ce sk h0_height fb fs ff fl h0_frameCount lb lh h0_labelCount h0_at sk csk gsk) H ∧ va_D A (wz_17 h0 h0_pages h0_steps h0_reason gl h0_wafer_r h0_codes_r ce sk h0_height fb fs ff fl h0_frameCount lb lh h0_labelCount h0_at sk csk gsk) ∧ va_S A s.heap H locs ∧ lv_has ls 13 [(0, .ref h0), (1, .int p0), (2, .long p1), (4, .long p2), (6, .int p3)]) (fun u => match u with | j68_s0 => [.long j68_s0]) ?_ (fun jn68 => ?_)
      · intro u H locs ls hI
        obtain ⟨j68_s0, rfl⟩ : ∃ z, z = u := ⟨_, rfl⟩
        obtain ⟨hP, hD, hS, hl⟩ := hI
        refine lv_lstore (lv' := [(7, .long j68_s0), (0, .ref h0), (1, .int p0), (2, .long p1), (4, .long p2), (6, .int p3)]) hx hb d_MA_divide_68 hl (by decide) rfl (fun ls hl => ?_)
        refine lv_iload_n hx hb d_MA_divide_70 rfl (lv_at hl 2 rfl) ?_
        refine lv_iconst (v := 3) hx hb d_MA_divide_71 (by decide) ?_
        refine w_cut (pc2 := 137) (σ := Int64) (fun u H locs ls => match u with | j137_l9 => va_P (dC, dI) cls (wz_17 h0 h0_pages h0_steps h0_reason gl h0_wafer_r h0_codes_r ce sk h0_height fb fs ff fl h0_frameCount lb lh h0_labelCount h0_at sk csk gsk) H ∧ va_D A (wz_17 h0 h0_pages h0_steps h0_reason gl h0_wafer_r h0_codes_r ce sk h0_height fb fs ff fl h0_frameCount lb lh h0_labelCount h0_at sk csk gsk) ∧ va_S A s.heap H locs ∧ lv_has ls 13 [(0, .ref h0), (6, .int p3), (9, .long j137_l9)]) (fun u => match u with | j137_l9 => []) ?_ (fun jn137 => ?_)
        · intro u H locs ls hI
          obtain ⟨j137_l9, rfl⟩ : ∃ z, z = u := ⟨_, rfl⟩
          obtain ⟨hP, hD, hS, hl⟩ := hI
          refine lv_aload_n hx hb d_MA_divide_137 rfl (lv_at hl 0 rfl) ?_
          refine lv_iload hx hb d_MA_divide_138 (lv_at hl 1 rfl) ?_
          refine w_cut (pc2 := 152) (σ := Int64) (fun u H locs ls => match u with | j152_s0 => va_P (dC, dI) cls (wz_17 h0 h0_pages h0_steps h0_reason gl h0_wafer_r h0_codes_r ce sk h0_height fb fs ff fl h0_frameCount lb lh h0_labelCount h0_at sk csk gsk) H ∧ va_D A (wz_17 h0 h0_pages h0_steps h0_reason gl h0_wafer_r h0_codes_r ce sk h0_height fb fs ff fl h0_frameCount lb lh h0_labelCount h0_at sk csk gsk) ∧ va_S A s.heap H locs ∧ lv_has ls 13 []) (fun u => match u with | j152_s0 => [.long j152_s0, .ref h0]) ?_ (fun jn152 => ?_)
          · intro u H locs ls hI
            obtain ⟨j152_s0, rfl⟩ : ∃ z, z = u := ⟨_, rfl⟩
            obtain ⟨hP, hD, hS, hl⟩ := hI
            have hPc := hP.sb (wq := (wz_17 h0 h0_pages h0_steps h0_reason gl h0_wafer_r h0_codes_r ce sk h0_height fb fs ff fl h0_frameCount lb lh h0_labelCount h0_at sk csk gsk)) [0, 1] rfl
            have hDc := hD.sb (wq := (wz_17 h0 h0_pages h0_steps h0_reason gl h0_wafer_r h0_codes_r ce sk h0_height fb fs ff fl h0_frameCount lb lh h0_labelCount h0_at sk csk gsk)) [0, 1] (by decide) rfl
            have hKc := hK.sb (tyq := [(csk, .long)]) [0] rfl
            have hFc := va_free (wc := (wz_17 h0 h0_pages h0_steps h0_reason gl h0_wafer_r h0_codes_r ce sk h0_height fb fs ff fl h0_frameCount lb lh h0_labelCount h0_at sk csk gsk)) hD hS hA [0, 1] rfl
            refine va_callv (va_runV (As := [.long j152_s0]) (rest := []) ⟨hx, hb, hml, hown, hts⟩ (c_MA_push l dC dI H.size h0 gl h0_wafer_r h0_codes_r ce sk fb fs ff fl lb lh csk h0_pages h0_steps h0_reason h0_height h0_frameCount h0_labelCount h0_at gsk (b_h0_reason) (b_h0_height) j152_s0) (cwV 1 hts (gV kM_MA_94 kV_MA_push kS_MA_push kI_MA kC_MA_push) rfl rfl rfl (by decide +kernel) ⟨Nat.le_of_ble_eq_true rfl, Nat.le_of_ble_eq_true rfl⟩) ⟨fun a U g mk z => by obtain ⟨z0, z1, zP, zK, zD⟩ := z; exact ⟨z0, z1, zP, va_K.moved (u := U) (U := U.calling g mk a) (Vm.Alike.refl U.vm) zK, zD⟩, va_recv hKc hPc (ci := 4) (q0 := 0) rfl rfl, fun U hU hW => ⟨rfl, by rw [hU], va_P.he hU.symm hPc, va_K.moved hW.alike hKc, hDc.weaken (fun _ _ _ _ => trivial)⟩⟩ rfl rfl hl.1 rfl (lv_room (Nat.le_of_ble_eq_true rfl)) d_MA_divide_152 ⟨(Nat.zero_le _), (Nat.zero_le _)⟩) hS (fun q _ h => hFc q h) hFc (fun u t H1 locs ht hvm hw hB hz1 hk1 hS => ?_)
            obtain ⟨n3, n4, n5⟩ := u
            try dsimp only at hw
            obtain ⟨bn4, bn5, xr2⟩ := hw
            try clear hw
            obtain ⟨hP1, hK1, hD1⟩ := hB
            replace hP1 := va_P.he ht hP1
            obtain ⟨hP, hD⟩ := va_join (wr := []) (w1 := (wz_17 h0 h0_pages h0_steps n5 gl h0_wafer_r h0_codes_r ce sk n4 fb fs ff fl h0_frameCount lb lh h0_labelCount h0_at sk csk n3)) hP hD [0, 1] [] rfl rfl (by decide) (by decide) hk1 hFc hP1 hD1
            clear hPc hDc hKc hFc hz1 hk1 hP1 hK1 hD1
            rename Heap => H
            have hP : va_P (dC, dI) cls (wz_17 h0 h0_pages h0_steps n5 gl h0_wafer_r h0_codes_r ce sk n4 fb fs ff fl h0_frameCount lb lh h0_labelCount h0_at sk csk n3) H := hP
            have hD : va_D A (wz_17 h0 h0_pages h0_steps n5 gl h0_wafer_r h0_codes_r ce sk n4 fb fs ff fl h0_frameCount lb lh h0_labelCount h0_at sk csk n3) := hD
            have hP9 := hP.sb (wq := (wz_17 h0 h0_pages h0_steps n5 gl h0_wafer_r h0_codes_r ce sk n4 fb fs ff fl h0_frameCount lb lh h0_labelCount h0_at sk csk n3)) [0, 1] rfl
            have hD9 := hD.sb (wq := (wz_17 h0 h0_pages h0_steps n5 gl h0_wafer_r h0_codes_r ce sk n4 fb fs ff fl h0_frameCount lb lh h0_labelCount h0_at sk csk n3)) [0, 1] (by decide) rfl
            exact W.vret hx hb hr (fun t ht hW => ⟨⟨(n3, n4, n5), rfl, ⟨bn4, bn5, by (try dsimp only); (first | (apply Int.le_antisymm <;> omega) | omega)⟩, va_P.he ht.symm hP9, va_K.moved hW.alike hK, hD9⟩, hS.F ht⟩) hS.2.2 d_MA_divide_155
          · skip
            refine lv_if_eq (tgt := 150) hx hb d_MA_divide_140 (by decide) (fun c140 => ?_) (fun c140 => ?_)
            · have q140 := eqI c140
              refine lv_lload hx hb d_MA_divide_150 (lv_at hl 2 rfl) ?_
              exact jn152 j137_l9 _ _ _ ⟨hP, hD, hS, lv_sub hl [] rfl⟩
            · have q140 := neI c140
              refine lv_lload hx hb d_MA_divide_143 (lv_at hl 2 rfl) ?_
              refine lv_l2i hx hb d_MA_divide_145 rfl ?_
              refine lv_topi (fun x6 ex6 => ?_)
              refine lv_i2l hx hb d_MA_divide_146 rfl ?_
              refine lv_topl (fun x7 ex7 => ?_)
              have tx7 := i2l_t ex7
              refine lv_goto (tgt := 152) hx hb d_MA_divide_147 (by decide) ?_
              exact jn152 x7 _ _ _ ⟨hP, hD, hS, lv_sub hl [] rfl⟩
        · skip
          refine lv_icmp_ne (tgt := 84) hx hb d_MA_divide_72 (by decide) (fun c72 => ?_) (fun c72 => ?_)
          · have q72 := neI c72
            refine lv_iload_n hx hb d_MA_divide_84 rfl (lv_at hl 2 rfl) ?_
            refine lv_iconst (v := 5) hx hb d_MA_divide_85 (by decide) ?_
            refine lv_icmp_ne (tgt := 98) hx hb d_MA_divide_86 (by decide) (fun c86 => ?_) (fun c86 => ?_)
            · have q86 := neI c86
              refine lv_lload_n hx hb d_MA_divide_98 rfl (lv_at hl 3 rfl) ?_
              refine lv_lload hx hb d_MA_divide_99 (lv_at hl 0 rfl) ?_
              refine lv_land hx hb d_MA_divide_101 ?_
              refine lv_topl (fun x8 ex8 => ?_)
              refine lv_lload hx hb d_MA_divide_102 (lv_at hl 4 rfl) ?_
              refine lv_lload hx hb d_MA_divide_104 (lv_at hl 0 rfl) ?_
              refine lv_land hx hb d_MA_divide_106 ?_
              refine lv_topl (fun x9 ex9 => ?_)
              have hPc := hP.sb (wq := []) [] rfl
              have hDc := hD.sb (wq := []) [] (by decide) rfl
              have hKc := hK.sb (tyq := []) [] rfl
              have hFc := va_free (wc := []) hD hS hA [] rfl
              refine va_calll (va_runS (As := [.long x8, .long x9]) (rest := []) ⟨hx, hb, hml, hown, hts⟩ (c_MA_quotientWithoutSign l dC dI H.size x8 x9) ⟨callB_of 2 hts (gW kC_MA_quotientWithoutSign) rfl rfl rfl (hts _ kI_MA) (hts _ kM_MA_269) (by decide +kernel) ⟨Nat.le_of_ble_eq_true rfl, Nat.le_of_ble_eq_true rfl⟩, hts _ kT_MA_quotientWithoutSign⟩ ⟨fun a U g mk z => by obtain ⟨z0, z1, zP, zK, zD⟩ := z; exact ⟨z0, z1, zP, va_K.moved (u := U) (U := U.calling g mk a) (Vm.Alike.refl U.vm) zK, zD⟩, fun U hU hW => ⟨rfl, by rw [hU], va_P.he hU.symm hPc, va_K.moved hW.alike hKc, hDc.weaken (fun _ _ _ _ => trivial)⟩⟩ rfl rfl hl.1 rfl (lv_room (Nat.le_of_ble_eq_true rfl)) d_MA_divide_107 ⟨(Nat.zero_le _), (Nat.zero_le _)⟩) hS (fun q _ h => hFc q h) hFc (fun r10 u t H1 locs ht hvm hw hB hz1 hk1 hS => ?_)
              try dsimp only at hw
              try clear hw
              obtain ⟨hP1, hK1, hD1⟩ := hB
              replace hP1 := va_P.he ht hP1
              obtain ⟨hP, hD⟩ := va_join (wr := (wz_17 h0 h0_pages h0_steps h0_reason gl h0_wafer_r h0_codes_r ce sk h0_height fb fs ff fl h0_frameCount lb lh h0_labelCount h0_at sk csk gsk)) (w1 := []) hP hD [] [0, 1] rfl rfl (by decide) (by decide) hk1 hFc hP1 hD1
              clear hPc hDc hKc hFc hz1 hk1 hP1 hK1 hD1
              rename Heap => H
              have hP : va_P (dC, dI) cls (wz_17 h0 h0_pages h0_steps h0_reason gl h0_wafer_r h0_codes_r ce sk h0_height fb fs ff fl h0_frameCount lb lh h0_labelCount h0_at sk csk gsk) H := hP
              have hD : va_D A (wz_17 h0 h0_pages h0_steps h0_reason gl h0_wafer_r h0_codes_r ce sk h0_height fb fs ff fl h0_frameCount lb lh h0_labelCount h0_at sk csk gsk) := hD
              refine lv_lstore (lv' := [(11, .long r10), (7, .long j68_s0), (0, .ref h0), (1, .int p0), (2, .long p1), (4, .long p2), (6, .int p3)]) hx hb d_MA_divide_110 hl (by decide) rfl (fun ls hl => ?_)
              refine lv_iload_n hx hb d_MA_divide_112 rfl (lv_at hl 3 rfl) ?_
              refine lv_iconst (v := 4) hx hb d_MA_divide_113 (by decide) ?_
              refine w_cut (pc2 := 135) (σ := Int64) (fun u H locs ls => match u with | j135_s0 => va_P (dC, dI) cls (wz_17 h0 h0_pages h0_steps h0_reason gl h0_wafer_r h0_codes_r ce sk h0_height fb fs ff fl h0_frameCount lb lh h0_labelCount h0_at sk csk gsk) H ∧ va_D A (wz_17 h0 h0_pages h0_steps h0_reason gl h0_wafer_r h0_codes_r ce sk h0_height fb fs ff fl h0_frameCount lb lh h0_labelCount h0_at sk csk gsk) ∧ va_S A s.heap H locs ∧ lv_has ls 13 [(0, .ref h0), (6, .int p3)]) (fun u => match u with | j135_s0 => [.long j135_s0]) ?_ (fun jn135 => ?_)
              · intro u H locs ls hI
                obtain ⟨j135_s0, rfl⟩ : ∃ z, z = u := ⟨_, rfl⟩
                obtain ⟨hP, hD, hS, hl⟩ := hI
                refine lv_lstore (lv' := [(9, .long j135_s0), (0, .ref h0), (6, .int p3)]) hx hb d_MA_divide_135 hl (by decide) rfl (fun ls hl => ?_)
                exact jn137 j135_s0 _ _ _ ⟨hP, hD, hS, lv_sub hl [1, 2, 0] rfl⟩
              · skip
                refine lv_icmp_ne (tgt := 122) hx hb d_MA_divide_114 (by decide) (fun c114 => ?_) (fun c114 => ?_)
                · have q114 := neI c114
                  refine lv_lload_n hx hb d_MA_divide_122 rfl (lv_at hl 4 rfl) ?_
                  refine lv_lload hx hb d_MA_divide_123 (lv_at hl 1 rfl) ?_
                  refine lv_land hx hb d_MA_divide_125 ?_
                  refine lv_topl (fun x11 ex11 => ?_)
                  refine lv_lload hx hb d_MA_divide_126 (lv_at hl 0 rfl) ?_
                  refine lv_lload hx hb d_MA_divide_128 (lv_at hl 5 rfl) ?_
                  refine lv_lload hx hb d_MA_divide_130 (lv_at hl 1 rfl) ?_
                  refine lv_land hx hb d_MA_divide_132 ?_
                  refine lv_topl (fun x12 ex12 => ?_)
                  refine lv_lmul hx hb d_MA_divide_133 ?_
                  refine lv_topl (fun x13 ex13 => ?_)
                  refine lv_lsub hx hb d_MA_divide_134 ?_
                  refine lv_topl (fun x14 ex14 => ?_)
                  exact jn135 x14 _ _ _ ⟨hP, hD, hS, lv_sub hl [2, 6] rfl⟩
                · have q114 := eqI c114
                  refine lv_lload hx hb d_MA_divide_117 (lv_at hl 0 rfl) ?_
                  refine lv_goto (tgt := 135) hx hb d_MA_divide_119 (by decide) ?_
                  exact jn135 r10 _ _ _ ⟨hP, hD, hS, lv_sub hl [2, 6] rfl⟩
            · have q86 := eqI c86
              refine lv_lload_n hx hb d_MA_divide_89 rfl (lv_at hl 3 rfl) ?_
              refine lv_lload hx hb d_MA_divide_90 (lv_at hl 4 rfl) ?_
              refine lv_lrem hx hb d_MA_divide_92 (nz64 (by (first | (apply Int.le_antisymm <;> omega) | omega))) ?_
              refine lv_topl (fun x15 ex15 => ?_)
              refine lv_lstore (lv' := [(9, .long x15), (7, .long j68_s0), (0, .ref h0), (1, .int p0), (2, .long p1), (4, .long p2), (6, .int p3)]) hx hb d_MA_divide_93 hl (by decide) rfl (fun ls hl => ?_)
              refine lv_goto (tgt := 137) hx hb d_MA_divide_95 (by decide) ?_
              exact jn137 x15 _ _ _ ⟨hP, hD, hS, lv_sub hl [2, 6, 0] rfl⟩
          · have q72 := eqI c72
            refine lv_lload_n hx hb d_MA_divide_75 rfl (lv_at hl 3 rfl) ?_
            refine lv_lload hx hb d_MA_divide_76 (lv_at hl 4 rfl) ?_
            refine lv_ldiv hx hb d_MA_divide_78 (nz64 (by (first | (apply Int.le_antisymm <;> omega) | omega))) ?_
            refine lv_topl (fun x16 ex16 => ?_)
            refine lv_lstore (lv' := [(9, .long x16), (7, .long j68_s0), (0, .ref h0), (1, .int p0), (2, .long p1), (4, .long p2), (6, .int p3)]) hx hb d_MA_divide_79 hl (by decide) rfl (fun ls hl => ?_)
            refine lv_goto (tgt := 137) hx hb d_MA_divide_81 (by decide) ?_
            exact jn137 x16 _ _ _ ⟨hP, hD, hS, lv_sub hl [2, 6, 0] rfl⟩
      · skip
        refine lv_if_eq (tgt := 65) hx hb d_MA_divide_56 (by decide) (fun c56 => ?_) (fun c56 => ?_)
        · have q56 := eqI c56
          refine lv_ldc2 hx hb hown (hts _ kL_MA_218) d_MA_divide_65 ?_
          refine lv_topl (fun x17 ex17 => ?_)
          have tx17 : x17.toInt = -1 := by rw [ex17]; decide
          exact jn68 x17 _ _ _ ⟨hP, hD, hS, lv_sub hl [0, 1, 2, 3, 4] rfl⟩
        · have q56 := neI c56
          refine lv_ldc2 hx hb hown (hts _ kL_MA_162) d_MA_divide_59 ?_
          refine lv_topl (fun x18 ex18 => ?_)
          have tx18 : x18.toInt = 4294967295 := by rw [ex18]; decide
          refine lv_goto (tgt := 68) hx hb d_MA_divide_62 (by decide) ?_
          exact jn68 x18 _ _ _ ⟨hP, hD, hS, lv_sub hl [0, 1, 2, 3, 4] rfl⟩
    · skip
      refine lv_icmp_ne (tgt := 54) hx hb d_MA_divide_16 (by decide) (fun c16 => ?_) (fun c16 => ?_)
      · have q16 := neI c16
        exact jn54 () _ _ _ ⟨hP, hD, hS, lv_sub hl [0, 1, 2, 3, 4] rfl⟩
      · have q16 := eqI c16
        refine lv_lload hx hb d_MA_divide_19 (lv_at hl 3 rfl) ?_
        refine lv_ldc2 hx hb hown (hts _ kL_MA_218) d_MA_divide_21 ?_
        refine lv_topl (fun x19 ex19 => ?_)
        have tx19 : x19.toInt = -1 := by rw [ex19]; decide
        refine W.lcmp hx hb d_MA_divide_24 ?_
        refine lv_topi (fun x20 ex20 => ?_)
        have tx20 := lgc ex20
        refine lv_if_ne (tgt := 54) hx hb d_MA_divide_25 (by decide) (fun c25 => ?_) (fun c25 => ?_)
        · have q25 := neI c25
          exact jn54 () _ _ _ ⟨hP, hD, hS, lv_sub hl [0, 1, 2, 3, 4] rfl⟩
        · have q25 := eqI c25
          refine lv_lload_n hx hb d_MA_divide_28 rfl (lv_at hl 2 rfl) ?_
          refine lv_iload hx hb d_MA_divide_29 (lv_at hl 4 rfl) ?_
          refine w_cut (pc2 := 43) (σ := Int64) (fun u H locs ls => match u with | j43_s0 => va_P (dC, dI) cls (wz_17 h0 h0_pages h0_steps h0_reason gl h0_wafer_r h0_codes_r ce sk h0_height fb fs ff fl h0_frameCount lb lh h0_labelCount h0_at sk csk gsk) H ∧ va_D A (wz_17 h0 h0_pages h0_steps h0_reason gl h0_wafer_r h0_codes_r ce sk h0_height fb fs ff fl h0_frameCount lb lh h0_labelCount h0_at sk csk gsk) ∧ va_S A s.heap H locs ∧ lv_has ls 13 [(0, .ref h0), (1, .int p0), (2, .long p1), (4, .long p2), (6, .int p3)]) (fun u => match u with | j43_s0 => [.long j43_s0, .long p1]) ?_ (fun jn43 => ?_)
          · intro u H locs ls hI
            obtain ⟨j43_s0, rfl⟩ : ∃ z, z = u := ⟨_, rfl⟩
            obtain ⟨hP, hD, hS, hl⟩ := hI
            refine W.lcmp hx hb d_MA_divide_43 ?_
            refine lv_topi (fun x21 ex21 => ?_)
            have tx21 := lgc ex21
            refine lv_if_ne (tgt := 54) hx hb d_MA_divide_44 (by decide) (fun c44 => ?_) (fun c44 => ?_)
            · have q44 := neI c44
              exact jn54 () _ _ _ ⟨hP, hD, hS, lv_sub hl [0, 1, 2, 3, 4] rfl⟩
            · have q44 := eqI c44
              refine lv_aload_n hx hb d_MA_divide_47 rfl (lv_at hl 0 rfl) ?_
              refine lv_bipush (v := 11) hx hb d_MA_divide_48 (by decide) ?_
              refine va_put (D := (dC, dI)) (ci := 4) (v := .int 11) (ty := .int) (C := R_MA) (T := F_MA) (N := 18) hx hb hts i_MA t_MA t_MA_ok n_MA hown hK hP hD hS 0 rfl rfl 2 (by decide) (hts _ kF_MA_71) (fun _ h9 => h9) rfl (by decide +kernel) rfl rfl (Nat.le_of_ble_eq_true rfl) d_MA_divide_50 (fun H locs hP hD hS => ?_)
              have hP9 := hP.sb (wq := (wz_17 h0 h0_pages h0_steps 11 gl h0_wafer_r h0_codes_r ce sk h0_height fb fs ff fl h0_frameCount lb lh h0_labelCount h0_at sk csk gsk)) [0, 1] rfl
              have hD9 := hD.sb (wq := (wz_17 h0 h0_pages h0_steps 11 gl h0_wafer_r h0_codes_r ce sk h0_height fb fs ff fl h0_frameCount lb lh h0_labelCount h0_at sk csk gsk)) [0, 1] (by decide) rfl
              exact W.vret hx hb hr (fun t ht hW => ⟨⟨(gsk, h0_height, 11), rfl, ⟨b_h0_height, by (try dsimp only); (first | (apply Int.le_antisymm <;> omega) | omega), by (try dsimp only); (first | (apply Int.le_antisymm <;> omega) | omega)⟩, va_P.he ht.symm hP9, va_K.moved hW.alike hK, hD9⟩, hS.F ht⟩) hS.2.2 d_MA_divide_53
          · skip
            refine lv_if_eq (tgt := 40) hx hb d_MA_divide_31 (by decide) (fun c31 => ?_) (fun c31 => ?_)
            · have q31 := eqI c31
              refine lv_ldc2 hx hb hown (hts _ kL_MA_267) d_MA_divide_40 ?_
              refine lv_topl (fun x22 ex22 => ?_)
              have tx22 : x22.toInt = -9223372036854775808 := by rw [ex22]; decide
              exact jn43 x22 _ _ _ ⟨hP, hD, hS, lv_sub hl [0, 1, 2, 3, 4] rfl⟩
            · have q31 := neI c31
              refine lv_ldc2 hx hb hown (hts _ kL_MA_265) d_MA_divide_34 ?_
              refine lv_topl (fun x23 ex23 => ?_)
              have tx23 : x23.toInt = -2147483648 := by rw [ex23]; decide
              refine lv_goto (tgt := 43) hx hb d_MA_divide_37 (by decide) ?_
              exact jn43 x23 _ _ _ ⟨hP, hD, hS, lv_sub hl [0, 1, 2, 3, 4] rfl⟩
  · have q4 := eqI c4
    refine lv_aload_n hx hb d_MA_divide_7 rfl (lv_at hl 0 rfl) ?_
    refine lv_bipush (v := 10) hx hb d_MA_divide_8 (by decide) ?_
    refine va_put (D := (dC, dI)) (ci := 4) (v := .int 10) (ty := .int) (C := R_MA) (T := F_MA) (N := 18) hx hb hts i_MA t_MA t_MA_ok n_MA hown hK hP hD hS 0 rfl rfl 2 (by decide) (hts _ kF_MA_71) (fun _ h9 => h9) rfl (by decide +kernel) rfl rfl (Nat.le_of_ble_eq_true rfl) d_MA_divide_10 (fun H locs hP hD hS => ?_)
    have hP9 := hP.sb (wq := (wz_17 h0 h0_pages h0_steps 10 gl h0_wafer_r h0_codes_r ce sk h0_height fb fs ff fl h0_frameCount lb lh h0_labelCount h0_at sk csk gsk)) [0, 1] rfl
    have hD9 := hD.sb (wq := (wz_17 h0 h0_pages h0_steps 10 gl h0_wafer_r h0_codes_r ce sk h0_height fb fs ff fl h0_frameCount lb lh h0_labelCount h0_at sk csk gsk)) [0, 1] (by decide) rfl
    exact W.vret hx hb hr (fun t ht hW => ⟨⟨(gsk, h0_height, 10), rfl, ⟨b_h0_height, by (try dsimp only); (first | (apply Int.le_antisymm <;> omega) | omega), by (try dsimp only); (first | (apply Int.le_antisymm <;> omega) | omega)⟩, va_P.he ht.symm hP9, va_K.moved hW.alike hK, hD9⟩, hS.F ht⟩) hS.2.2 d_MA_divide_13
abbrev b_MA_performTwo : ByteArray := prog_6_method_20_code
def y_MA_performTwo : MethodName := ⟨R_MA, "performTwo", "(I)V"⟩
abbrev w_MA_performTwo : List Cond := .code y_MA_performTwo b_MA_performTwo 8 none :: lw_g
theorem kC_MA_performTwo : Cond.code y_MA_performTwo b_MA_performTwo 8 none ∈ lw_g := in_c7 213 rfl rfl
theorem d_MA_performTwo_0 : decode b_MA_performTwo 0 = .ok (.aload_n 0, 1) := bz_c42 (by decide +kernel)
theorem d_MA_performTwo_1 : decode b_MA_performTwo 1 = .ok (.invokevirtual 142, 3) := bz_c182 (by decide +kernel)
theorem d_MA_performTwo_4 : decode b_MA_performTwo 4 = .ok (.lstore_n 2, 1) := bz_c65 (by decide +kernel)
theorem d_MA_performTwo_5 : decode b_MA_performTwo 5 = .ok (.aload_n 0, 1) := bz_c42 (by decide +kernel)
theorem d_MA_performTwo_6 : decode b_MA_performTwo 6 = .ok (.invokevirtual 142, 3) := bz_c182 (by decide +kernel)
theorem d_MA_performTwo_9 : decode b_MA_performTwo 9 = .ok (.lstore 4, 2) := bz_c55 (by decide +kernel)
theorem d_MA_performTwo_11 : decode b_MA_performTwo 11 = .ok (.iload_n 1, 1) := bz_c27 (by decide +kernel)
theorem d_MA_performTwo_12 : decode b_MA_performTwo 12 = .ok (.bipush 103, 2) := bz_c16 (by decide +kernel)
theorem d_MA_performTwo_14 : decode b_MA_performTwo 14 = .ok (.if_icmp .ge 43, 3) := bz_c162 (by decide +kernel)
theorem d_MA_performTwo_17 : decode b_MA_performTwo 17 = .ok (.iload_n 1, 1) := bz_c27 (by decide +kernel)
theorem d_MA_performTwo_18 : decode b_MA_performTwo 18 = .ok (.bipush 80, 2) := bz_c16 (by decide +kernel)
theorem d_MA_performTwo_20 : decode b_MA_performTwo 20 = .ok (.if_icmp .ge 10, 3) := bz_c162 (by decide +kernel)
theorem d_MA_performTwo_23 : decode b_MA_performTwo 23 = .ok (.iload_n 1, 1) := bz_c27 (by decide +kernel)
theorem d_MA_performTwo_24 : decode b_MA_performTwo 24 = .ok (.bipush 70, 2) := bz_c16 (by decide +kernel)
theorem d_MA_performTwo_26 : decode b_MA_performTwo 26 = .ok (.isub, 1) := bz_c100 (by decide +kernel)
theorem d_MA_performTwo_27 : decode b_MA_performTwo 27 = .ok (.goto 7, 3) := bz_c167 (by decide +kernel)
theorem d_MA_performTwo_30 : decode b_MA_performTwo 30 = .ok (.iload_n 1, 1) := bz_c27 (by decide +kernel)
theorem d_MA_performTwo_31 : decode b_MA_performTwo 31 = .ok (.bipush 81, 2) := bz_c16 (by decide +kernel)
theorem d_MA_performTwo_33 : decode b_MA_performTwo 33 = .ok (.isub, 1) := bz_c100 (by decide +kernel)
theorem d_MA_performTwo_34 : decode b_MA_performTwo 34 = .ok (.lload 4, 2) := bz_c22 (by decide +kernel)
theorem d_MA_performTwo_36 : decode b_MA_performTwo 36 = .ok (.lload_n 2, 1) := bz_c32 (by decide +kernel)
theorem d_MA_performTwo_37 : decode b_MA_performTwo 37 = .ok (.invokestatic 245, 3) := bz_c184 (by decide +kernel)
theorem d_MA_performTwo_40 : decode b_MA_performTwo 40 = .ok (.istore 6, 2) := bz_c54 (by decide +kernel)
theorem d_MA_performTwo_42 : decode b_MA_performTwo 42 = .ok (.aload_n 0, 1) := bz_c42 (by decide +kernel)
theorem d_MA_performTwo_43 : decode b_MA_performTwo 43 = .ok (.iload 6, 2) := bz_c21 (by decide +kernel)
theorem d_MA_performTwo_45 : decode b_MA_performTwo 45 = .ok (.ifCond .eq 7, 3) := bz_c153 (by decide +kernel)
theorem d_MA_performTwo_48 : decode b_MA_performTwo 48 = .ok (.lconst 1, 1) := bz_c10 (by decide +kernel)
theorem d_MA_performTwo_49 : decode b_MA_performTwo 49 = .ok (.goto 4, 3) := bz_c167 (by decide +kernel)
theorem d_MA_performTwo_52 : decode b_MA_performTwo 52 = .ok (.lconst 0, 1) := bz_c9 (by decide +kernel)
theorem d_MA_performTwo_53 : decode b_MA_performTwo 53 = .ok (.invokevirtual 94, 3) := bz_c182 (by decide +kernel)
theorem d_MA_performTwo_56 : decode b_MA_performTwo 56 = .ok (.return_, 1) := bz_c177 (by decide +kernel)
theorem d_MA_performTwo_57 : decode b_MA_performTwo 57 = .ok (.iload_n 1, 1) := bz_c27 (by decide +kernel)
theorem d_MA_performTwo_58 : decode b_MA_performTwo 58 = .ok (.bipush 120, 2) := bz_c16 (by decide +kernel)
theorem d_MA_performTwo_60 : decode b_MA_performTwo 60 = .ok (.if_icmp .gt 7, 3) := bz_c163 (by decide +kernel)
theorem d_MA_performTwo_63 : decode b_MA_performTwo 63 = .ok (.iconst 1, 1) := bz_c4 (by decide +kernel)
theorem d_MA_performTwo_64 : decode b_MA_performTwo 64 = .ok (.goto 4, 3) := bz_c167 (by decide +kernel)
theorem d_MA_performTwo_67 : decode b_MA_performTwo 67 = .ok (.iconst 0, 1) := bz_c3 (by decide +kernel)
theorem d_MA_performTwo_68 : decode b_MA_performTwo 68 = .ok (.istore 6, 2) := bz_c54 (by decide +kernel)
theorem d_MA_performTwo_70 : decode b_MA_performTwo 70 = .ok (.iload 6, 2) := bz_c21 (by decide +kernel)
theorem d_MA_performTwo_72 : decode b_MA_performTwo 72 = .ok (.ifCond .eq 10, 3) := bz_c153 (by decide +kernel)
theorem d_MA_performTwo_75 : decode b_MA_performTwo 75 = .ok (.iload_n 1, 1) := bz_c27 (by decide +kernel)
theorem d_MA_performTwo_76 : decode b_MA_performTwo 76 = .ok (.bipush 106, 2) := bz_c16 (by decide +kernel)
theorem d_MA_performTwo_78 : decode b_MA_performTwo 78 = .ok (.isub, 1) := bz_c100 (by decide +kernel)
theorem d_MA_performTwo_79 : decode b_MA_performTwo 79 = .ok (.goto 7, 3) := bz_c167 (by decide +kernel)
theorem d_MA_performTwo_82 : decode b_MA_performTwo 82 = .ok (.iload_n 1, 1) := bz_c27 (by decide +kernel)
theorem d_MA_performTwo_83 : decode b_MA_performTwo 83 = .ok (.bipush 124, 2) := bz_c16 (by decide +kernel)
theorem d_MA_performTwo_85 : decode b_MA_performTwo 85 = .ok (.isub, 1) := bz_c100 (by decide +kernel)
theorem d_MA_performTwo_86 : decode b_MA_performTwo 86 = .ok (.istore 7, 2) := bz_c54 (by decide +kernel)
theorem d_MA_performTwo_88 : decode b_MA_performTwo 88 = .ok (.iload 7, 2) := bz_c21 (by decide +kernel)
theorem d_MA_performTwo_90 : decode b_MA_performTwo 90 = .ok (.iconst 3, 1) := bz_c6 (by decide +kernel)
theorem d_MA_performTwo_91 : decode b_MA_performTwo 91 = .ok (.if_icmp .lt 24, 3) := bz_c161 (by decide +kernel)
theorem d_MA_performTwo_94 : decode b_MA_performTwo 94 = .ok (.iload 7, 2) := bz_c21 (by decide +kernel)
theorem d_MA_performTwo_96 : decode b_MA_performTwo 96 = .ok (.bipush 6, 2) := bz_c16 (by decide +kernel)
theorem d_MA_performTwo_98 : decode b_MA_performTwo 98 = .ok (.if_icmp .gt 17, 3) := bz_c163 (by decide +kernel)
theorem d_MA_performTwo_101 : decode b_MA_performTwo 101 = .ok (.aload_n 0, 1) := bz_c42 (by decide +kernel)
theorem d_MA_performTwo_102 : decode b_MA_performTwo 102 = .ok (.iload 7, 2) := bz_c21 (by decide +kernel)
theorem d_MA_performTwo_104 : decode b_MA_performTwo 104 = .ok (.lload 4, 2) := bz_c22 (by decide +kernel)
theorem d_MA_performTwo_106 : decode b_MA_performTwo 106 = .ok (.lload_n 2, 1) := bz_c32 (by decide +kernel)
theorem d_MA_performTwo_107 : decode b_MA_performTwo 107 = .ok (.iload 6, 2) := bz_c21 (by decide +kernel)
theorem d_MA_performTwo_109 : decode b_MA_performTwo 109 = .ok (.invokevirtual 249, 3) := bz_c182 (by decide +kernel)
theorem d_MA_performTwo_112 : decode b_MA_performTwo 112 = .ok (.goto 38, 3) := bz_c167 (by decide +kernel)
theorem d_MA_performTwo_115 : decode b_MA_performTwo 115 = .ok (.iload 6, 2) := bz_c21 (by decide +kernel)
theorem d_MA_performTwo_117 : decode b_MA_performTwo 117 = .ok (.ifCond .eq 21, 3) := bz_c153 (by decide +kernel)
theorem d_MA_performTwo_120 : decode b_MA_performTwo 120 = .ok (.aload_n 0, 1) := bz_c42 (by decide +kernel)
theorem d_MA_performTwo_121 : decode b_MA_performTwo 121 = .ok (.iload 7, 2) := bz_c21 (by decide +kernel)
theorem d_MA_performTwo_123 : decode b_MA_performTwo 123 = .ok (.lload 4, 2) := bz_c22 (by decide +kernel)
theorem d_MA_performTwo_125 : decode b_MA_performTwo 125 = .ok (.l2i, 1) := bz_c136 (by decide +kernel)
theorem d_MA_performTwo_126 : decode b_MA_performTwo 126 = .ok (.lload_n 2, 1) := bz_c32 (by decide +kernel)
theorem d_MA_performTwo_127 : decode b_MA_performTwo 127 = .ok (.l2i, 1) := bz_c136 (by decide +kernel)
theorem d_MA_performTwo_128 : decode b_MA_performTwo 128 = .ok (.invokestatic 253, 3) := bz_c184 (by decide +kernel)
theorem d_MA_performTwo_131 : decode b_MA_performTwo 131 = .ok (.i2l, 1) := bz_c133 (by decide +kernel)
theorem d_MA_performTwo_132 : decode b_MA_performTwo 132 = .ok (.invokevirtual 94, 3) := bz_c182 (by decide +kernel)
theorem d_MA_performTwo_135 : decode b_MA_performTwo 135 = .ok (.goto 15, 3) := bz_c167 (by decide +kernel)
theorem d_MA_performTwo_138 : decode b_MA_performTwo 138 = .ok (.aload_n 0, 1) := bz_c42 (by decide +kernel)
theorem d_MA_performTwo_139 : decode b_MA_performTwo 139 = .ok (.iload 7, 2) := bz_c21 (by decide +kernel)
theorem d_MA_performTwo_141 : decode b_MA_performTwo 141 = .ok (.lload 4, 2) := bz_c22 (by decide +kernel)
theorem d_MA_performTwo_143 : decode b_MA_performTwo 143 = .ok (.lload_n 2, 1) := bz_c32 (by decide +kernel)
theorem d_MA_performTwo_144 : decode b_MA_performTwo 144 = .ok (.invokestatic 257, 3) := bz_c184 (by decide +kernel)
theorem d_MA_performTwo_147 : decode b_MA_performTwo 147 = .ok (.invokevirtual 94, 3) := bz_c182 (by decide +kernel)
theorem d_MA_performTwo_150 : decode b_MA_performTwo 150 = .ok (.return_, 1) := bz_c177 (by decide +kernel)
theorem kM_MA_245 : Cond.methodLink R_MA 245 y_MA_compares ∈ lw_g := in_c7 214 rfl rfl
theorem kT_MA_compares : Cond.static y_MA_compares ∈ lw_g := in_c7 215 rfl rfl
theorem kM_MA_249 : Cond.methodLink R_MA 249 y_MA_divide ∈ lw_g := in_c7 224 rfl rfl
theorem kV_MA_divide : Cond.instanceMethod y_MA_divide ∈ lw_g := in_c7 226 rfl rfl
theorem kS_MA_divide : Cond.selects R_MA y_MA_divide y_MA_divide ∈ lw_g := in_s 116 (by decide +kernel) rfl
theorem kM_MA_253 : Cond.methodLink R_MA 253 y_MA_ofInts ∈ lw_g := in_c7 233 rfl rfl
theorem kT_MA_ofInts : Cond.static y_MA_ofInts ∈ lw_g := in_c7 234 rfl rfl
theorem kM_MA_257 : Cond.methodLink R_MA 257 y_MA_ofLongs ∈ lw_g := in_c8 2 rfl rfl
theorem kT_MA_ofLongs : Cond.static y_MA_ofLongs ∈ lw_g := in_c8 3 rfl rfl
abbrev at_MA_performTwo (dC : Nat → ClassId) (dI : Nat → Nat → Nat) (h0 gl h0_wafer_r h0_codes_r ce sk fb fs ff fl lb lh : Nat) (csk : ClassId) (h0_pages : Int32) (h0_steps : Int32) (h0_frameCount : Int32) (h0_labelCount : Int32) (h0_at : Int32) (A : Nat → Prop) (u : (Nat → Int64) × Int32 × Int32) (t : State) : Prop := match u with | (gsk, h0_height, h0_reason) => va_P (dC, dI) cls (wz_17 h0 h0_pages h0_steps h0_reason gl h0_wafer_r h0_codes_r ce sk h0_height fb fs ff fl h0_frameCount lb lh h0_labelCount h0_at sk csk gsk) t.heap ∧ va_K (dC, dI) cls [(csk, .long)] t ∧ va_D A (wz_17 h0 h0_pages h0_steps h0_reason gl h0_wafer_r h0_codes_r ce sk h0_height fb fs ff fl h0_frameCount lb lh h0_labelCount h0_at sk csk gsk)
set_option maxHeartbeats 4000000 in
set_option maxRecDepth 100000 in
theorem c_MA_performTwo (l : Launch) (dC : Nat → ClassId) (dI : Nat → Nat → Nat) (sz : Nat) (h0 gl h0_wafer_r h0_codes_r ce sk fb fs ff fl lb lh : Nat) (csk : ClassId) (h0_pages : Int32) (h0_steps : Int32) (h0_reason : Int32) (h0_height : Int32) (h0_frameCount : Int32) (h0_labelCount : Int32) (h0_at : Int32) (gsk : Nat → Int64)  (b_h0_reason : 0 ≤ h0_reason.toInt ∧ h0_reason.toInt ≤ 14) (b_h0_height : 0 ≤ h0_height.toInt ∧ h0_height.toInt ≤ 12096) (p0 : Int32) (ba0 : 0 ≤ p0.toInt ∧ p0.toInt ≤ 255) (hr0 : h0_reason.toInt = 0) (hh : 2 ≤ h0_height.toInt) : Met l y_MA_performTwo w_MA_performTwo ({ frames := 4, cells := 0, slots := 0, locals := 105 }) (va_Pc [.ref h0, .int p0] (fun U => U.heap.size = sz ∧ va_P (dC, dI) cls (wz_17 h0 h0_pages h0_steps h0_reason gl h0_wafer_r h0_codes_r ce sk h0_height fb fs ff fl h0_frameCount lb lh h0_labelCount h0_at sk csk gsk) U.heap ∧ va_K (dC, dI) cls [(csk, .long)] U ∧ va_D (fun _ => True) (wz_17 h0 h0_pages h0_steps h0_reason gl h0_wafer_r h0_codes_r ce sk h0_height fb fs ff fl h0_frameCount lb lh h0_labelCount h0_at sk csk gsk))) (va_Qv (fun (u : (Nat → Int64) × Int32 × Int32) => match u with | (gsk2, h0_height2, h0_reason2) => (0 ≤ h0_height2.toInt ∧ h0_height2.toInt ≤ 12096) ∧ (0 ≤ h0_reason2.toInt ∧ h0_reason2.toInt ≤ 14) ∧ ((h0_reason2.toInt = 0 → h0_height2.toInt = h0_height.toInt - 1))) (at_MA_performTwo dC dI h0 gl h0_wafer_r h0_codes_r ce sk fb fs ff fl lb lh csk h0_pages h0_steps h0_frameCount h0_labelCount h0_at (va_A (wz_17 h0 h0_pages h0_steps h0_reason gl h0_wafer_r h0_codes_r ce sk h0_height fb fs ff fl h0_frameCount lb lh h0_labelCount h0_at sk csk gsk) sz)) (va_A (wz_17 h0 h0_pages h0_steps h0_reason gl h0_wafer_r h0_codes_r ce sk h0_height fb fs ff fl h0_frameCount lb lh h0_labelCount h0_at sk csk gsk) sz)) 0 0 (va_A (wz_17 h0 h0_pages h0_steps h0_reason gl h0_wafer_r h0_codes_r ce sk h0_height fb fs ff fl h0_frameCount lb lh h0_labelCount h0_at sk csk gsk) sz) := by
  refine Met.ofW (cc := b_MA_performTwo) (maxL := 8) (ret := none) (by decide) rfl ?_
  intro p e s m args below meth c s₁ B hml hv
  obtain ⟨rfl, hsz, hP, hK, hD0⟩ := hv
  have hx := B.exec
  have hb := B.bytes
  have hr := B.returns
  have hts0 := atoms_spec (ws := w_MA_performTwo) B.pre
  have hts : ∀ w ∈ lw_g, w.before _ s = true := fun w h => hts0 w (List.mem_cons_of_mem _ h)
  have hown : s.vm.findClass R_MA = some m.cls := findClass_of_methodNamed B.named
  have hlocks := B.notSynchronized
  clear hts0
  subst hsz
  have hD := hD0.self (sz := s.heap.size)
  generalize hAe : va_A (wz_17 h0 h0_pages h0_steps h0_reason gl h0_wafer_r h0_codes_r ce sk h0_height fb fs ff fl h0_frameCount lb lh h0_labelCount h0_at sk csk gsk) s.heap.size = A at hD ⊢
  have hA : ∀ q : Nat, s.heap.size ≤ q → A q := fun q h => by rw [← hAe]; exact Or.inr h
  clear hAe
  have hP : va_P (dC, dI) cls (wz_17 h0 h0_pages h0_steps h0_reason gl h0_wafer_r h0_codes_r ce sk h0_height fb fs ff fl h0_frameCount lb lh h0_labelCount h0_at sk csk gsk) s.heap := hP
  have hl := lv_entry ([.ref h0, .int p0]) (n := 8) (Nat.le_of_ble_eq_true rfl)
  rw [lg_entry_eq]
  generalize (lg_sl ([.ref h0, .int p0]) ++ List.replicate (8 - (lg_sl ([.ref h0, .int p0])).length) Slot.unset).toArray = ls at hl ⊢
  have hl : lv_has ls 8 [(0, .ref h0), (1, .int p0)] := hl
  have k0 : (0 : Int32).toInt = 0 := by decide
  refine w_gen (A := A) hP (fun H locs hP hS => ?_)
  have k1 : (1 : Int32).toInt = 1 := by decide
  have k3 : (3 : Int32).toInt = 3 := by decide
  have k6 : (6 : Int32).toInt = 6 := by decide
  have k70 : (70 : Int32).toInt = 70 := by decide
  have k80 : (80 : Int32).toInt = 80 := by decide
  have k81 : (81 : Int32).toInt = 81 := by decide
  have k103 : (103 : Int32).toInt = 103 := by decide
  have k106 : (106 : Int32).toInt = 106 := by decide
  have k120 : (120 : Int32).toInt = 120 := by decide
  have k124 : (124 : Int32).toInt = 124 := by decide
  have lo_p0 := i32_lo p0
  have hi_p0 := i32_hi p0
  refine lv_aload_n hx hb d_MA_performTwo_0 rfl (lv_at hl 0 rfl) ?_
  have hPc := hP.sb (wq := (wz_17 h0 h0_pages h0_steps h0_reason gl h0_wafer_r h0_codes_r ce sk h0_height fb fs ff fl h0_frameCount lb lh h0_labelCount h0_at sk csk gsk)) [0, 1] rfl
  have hDc := hD.sb (wq := (wz_17 h0 h0_pages h0_steps h0_reason gl h0_wafer_r h0_codes_r ce sk h0_height fb fs ff fl h0_frameCount lb lh h0_labelCount h0_at sk csk gsk)) [0, 1] (by decide) rfl
  have hKc := hK.sb (tyq := [(csk, .long)]) [0] rfl
  have hFc := va_free (wc := (wz_17 h0 h0_pages h0_steps h0_reason gl h0_wafer_r h0_codes_r ce sk h0_height fb fs ff fl h0_frameCount lb lh h0_labelCount h0_at sk csk gsk)) hD hS hA [0, 1] rfl
  refine va_calll (va_runV (As := []) (rest := []) ⟨hx, hb, hml, hown, hts⟩ (c_MA_pop l dC dI H.size h0 gl h0_wafer_r h0_codes_r ce sk fb fs ff fl lb lh csk h0_pages h0_steps h0_reason h0_height h0_frameCount h0_labelCount h0_at gsk (b_h0_height)) (cwV 0 hts (gV kM_MA_142 kV_MA_pop kS_MA_pop kI_MA kC_MA_pop) rfl rfl rfl (by decide +kernel) ⟨Nat.le_of_ble_eq_true rfl, Nat.le_of_ble_eq_true rfl⟩) ⟨fun a U g mk z => by obtain ⟨z0, z1, zP, zK, zD⟩ := z; exact ⟨z0, z1, zP, va_K.moved (u := U) (U := U.calling g mk a) (Vm.Alike.refl U.vm) zK, zD⟩, va_recv hKc hPc (ci := 4) (q0 := 0) rfl rfl, fun U hU hW => ⟨rfl, by rw [hU], va_P.he hU.symm hPc, va_K.moved hW.alike hKc, hDc.weaken (fun _ _ _ _ => trivial)⟩⟩ rfl rfl hl.1 rfl (lv_room (Nat.le_of_ble_eq_true rfl)) d_MA_performTwo_1 ⟨(Nat.zero_le _), (Nat.zero_le _)⟩) hS (fun q _ h => hFc q h) hFc (fun r1 u t H1 locs ht hvm hw hB hz1 hk1 hS => ?_)
  obtain ⟨n2, rfl⟩ : ∃ z, z = u := ⟨_, rfl⟩
  try dsimp only at hw
  obtain ⟨bn2, xr1⟩ := hw
  try clear hw
  obtain ⟨hP1, hK1, hD1⟩ := hB
  replace hP1 := va_P.he ht hP1
  obtain ⟨hP, hD⟩ := va_join (wr := []) (w1 := (wz_17 h0 h0_pages h0_steps h0_reason gl h0_wafer_r h0_codes_r ce sk n2 fb fs ff fl h0_frameCount lb lh h0_labelCount h0_at sk csk gsk)) hP hD [0, 1] [] rfl rfl (by decide) (by decide) hk1 hFc hP1 hD1
  clear hPc hDc hKc hFc hz1 hk1 hP1 hK1 hD1
  rename Heap => H
  have hP : va_P (dC, dI) cls (wz_17 h0 h0_pages h0_steps h0_reason gl h0_wafer_r h0_codes_r ce sk n2 fb fs ff fl h0_frameCount lb lh h0_labelCount h0_at sk csk gsk) H := hP
  have hD : va_D A (wz_17 h0 h0_pages h0_steps h0_reason gl h0_wafer_r h0_codes_r ce sk n2 fb fs ff fl h0_frameCount lb lh h0_labelCount h0_at sk csk gsk) := hD
  refine lv_lstore_n (lv' := [(2, .long r1), (0, .ref h0), (1, .int p0)]) hx hb d_MA_performTwo_4 rfl hl (by decide) rfl (fun ls hl => ?_)
  refine lv_aload_n hx hb d_MA_performTwo_5 rfl (lv_at hl 1 rfl) ?_
  have hPc := hP.sb (wq := (wz_17 h0 h0_pages h0_steps h0_reason gl h0_wafer_r h0_codes_r ce sk n2 fb fs ff fl h0_frameCount lb lh h0_labelCount h0_at sk csk gsk)) [0, 1] rfl
  have hDc := hD.sb (wq := (wz_17 h0 h0_pages h0_steps h0_reason gl h0_wafer_r h0_codes_r ce sk n2 fb fs ff fl h0_frameCount lb lh h0_labelCount h0_at sk csk gsk)) [0, 1] (by decide) rfl
  have hKc := hK.sb (tyq := [(csk, .long)]) [0] rfl
  have hFc := va_free (wc := (wz_17 h0 h0_pages h0_steps h0_reason gl h0_wafer_r h0_codes_r ce sk n2 fb fs ff fl h0_frameCount lb lh h0_labelCount h0_at sk csk gsk)) hD hS hA [0, 1] rfl
  refine va_calll (va_runV (As := []) (rest := []) ⟨hx, hb, hml, hown, hts⟩ (c_MA_pop l dC dI H.size h0 gl h0_wafer_r h0_codes_r ce sk fb fs ff fl lb lh csk h0_pages h0_steps h0_reason n2 h0_frameCount h0_labelCount h0_at gsk (bn2)) (cwV 0 hts (gV kM_MA_142 kV_MA_pop kS_MA_pop kI_MA kC_MA_pop) rfl rfl rfl (by decide +kernel) ⟨Nat.le_of_ble_eq_true rfl, Nat.le_of_ble_eq_true rfl⟩) ⟨fun a U g mk z => by obtain ⟨z0, z1, zP, zK, zD⟩ := z; exact ⟨z0, z1, zP, va_K.moved (u := U) (U := U.calling g mk a) (Vm.Alike.refl U.vm) zK, zD⟩, va_recv hKc hPc (ci := 4) (q0 := 0) rfl rfl, fun U hU hW => ⟨rfl, by rw [hU], va_P.he hU.symm hPc, va_K.moved hW.alike hKc, hDc.weaken (fun _ _ _ _ => trivial)⟩⟩ rfl rfl hl.1 rfl (lv_room (Nat.le_of_ble_eq_true rfl)) d_MA_performTwo_6 ⟨(Nat.zero_le _), (Nat.zero_le _)⟩) hS (fun q _ h => hFc q h) hFc (fun r3 u t H1 locs ht hvm hw hB hz1 hk1 hS => ?_)
  obtain ⟨n4, rfl⟩ : ∃ z, z = u := ⟨_, rfl⟩
  try dsimp only at hw
  obtain ⟨bn4, xr3⟩ := hw
  try clear hw
  obtain ⟨hP1, hK1, hD1⟩ := hB
  replace hP1 := va_P.he ht hP1
  obtain ⟨hP, hD⟩ := va_join (wr := []) (w1 := (wz_17 h0 h0_pages h0_steps h0_reason gl h0_wafer_r h0_codes_r ce sk n4 fb fs ff fl h0_frameCount lb lh h0_labelCount h0_at sk csk gsk)) hP hD [0, 1] [] rfl rfl (by decide) (by decide) hk1 hFc hP1 hD1
  clear hPc hDc hKc hFc hz1 hk1 hP1 hK1 hD1
  rename Heap => H
  have hP : va_P (dC, dI) cls (wz_17 h0 h0_pages h0_steps h0_reason gl h0_wafer_r h0_codes_r ce sk n4 fb fs ff fl h0_frameCount lb lh h0_labelCount h0_at sk csk gsk) H := hP
  have hD : va_D A (wz_17 h0 h0_pages h0_steps h0_reason gl h0_wafer_r h0_codes_r ce sk n4 fb fs ff fl h0_frameCount lb lh h0_labelCount h0_at sk csk gsk) := hD
  refine lv_lstore (lv' := [(4, .long r3), (2, .long r1), (0, .ref h0), (1, .int p0)]) hx hb d_MA_performTwo_9 hl (by decide) rfl (fun ls hl => ?_)
  refine lv_iload_n hx hb d_MA_performTwo_11 rfl (lv_at hl 3 rfl) ?_
  refine lv_bipush (v := 103) hx hb d_MA_performTwo_12 (by decide) ?_
  refine lv_icmp_ge (tgt := 57) hx hb d_MA_performTwo_14 (by decide) (fun c14 => ?_) (fun c14 => ?_)
  · have q14 := leI c14
    refine lv_iload_n hx hb d_MA_performTwo_57 rfl (lv_at hl 3 rfl) ?_
    refine lv_bipush (v := 120) hx hb d_MA_performTwo_58 (by decide) ?_
    refine w_cut (pc2 := 68) (σ := Int32) (fun u H locs ls => match u with | j68_s0 => (j68_s0 = 0 ∨ j68_s0 = 1) ∧ va_P (dC, dI) cls (wz_17 h0 h0_pages h0_steps h0_reason gl h0_wafer_r h0_codes_r ce sk n4 fb fs ff fl h0_frameCount lb lh h0_labelCount h0_at sk csk gsk) H ∧ va_D A (wz_17 h0 h0_pages h0_steps h0_reason gl h0_wafer_r h0_codes_r ce sk n4 fb fs ff fl h0_frameCount lb lh h0_labelCount h0_at sk csk gsk) ∧ va_S A s.heap H locs ∧ lv_has ls 8 [(0, .ref h0), (1, .int p0), (2, .long r1), (4, .long r3)]) (fun u => match u with | j68_s0 => [.int j68_s0]) ?_ (fun jn68 => ?_)
    · intro u H locs ls hI
      obtain ⟨j68_s0, rfl⟩ : ∃ z, z = u := ⟨_, rfl⟩
      obtain ⟨b_j68_s0, hP, hD, hS, hl⟩ := hI
      have tj68_s0 := b01 b_j68_s0
      refine lv_istore (lv' := [(6, .int j68_s0), (0, .ref h0), (1, .int p0), (2, .long r1), (4, .long r3)]) hx hb d_MA_performTwo_68 hl (by decide) rfl (fun ls hl => ?_)
      refine lv_iload hx hb d_MA_performTwo_70 (lv_at hl 0 rfl) ?_
      refine w_cut (pc2 := 86) (σ := Int32) (fun u H locs ls => match u with | j86_s0 => va_P (dC, dI) cls (wz_17 h0 h0_pages h0_steps h0_reason gl h0_wafer_r h0_codes_r ce sk n4 fb fs ff fl h0_frameCount lb lh h0_labelCount h0_at sk csk gsk) H ∧ va_D A (wz_17 h0 h0_pages h0_steps h0_reason gl h0_wafer_r h0_codes_r ce sk n4 fb fs ff fl h0_frameCount lb lh h0_labelCount h0_at sk csk gsk) ∧ va_S A s.heap H locs ∧ lv_has ls 8 [(0, .ref h0), (2, .long r1), (4, .long r3), (6, .int j68_s0)]) (fun u => match u with | j86_s0 => [.int j86_s0]) ?_ (fun jn86 => ?_)
      · intro u H locs ls hI
        obtain ⟨j86_s0, rfl⟩ : ∃ z, z = u := ⟨_, rfl⟩
        obtain ⟨hP, hD, hS, hl⟩ := hI
        refine lv_istore (lv' := [(7, .int j86_s0), (0, .ref h0), (2, .long r1), (4, .long r3), (6, .int j68_s0)]) hx hb d_MA_performTwo_86 hl (by decide) rfl (fun ls hl => ?_)
        refine lv_iload hx hb d_MA_performTwo_88 (lv_at hl 0 rfl) ?_
        refine lv_iconst (v := 3) hx hb d_MA_performTwo_90 (by decide) ?_
        refine w_cut (pc2 := 115) (σ := Unit) (fun u H locs ls => match u with | _ => va_P (dC, dI) cls (wz_17 h0 h0_pages h0_steps h0_reason gl h0_wafer_r h0_codes_r ce sk n4 fb fs ff fl h0_frameCount lb lh h0_labelCount h0_at sk csk gsk) H ∧ va_D A (wz_17 h0 h0_pages h0_steps h0_reason gl h0_wafer_r h0_codes_r ce sk n4 fb fs ff fl h0_frameCount lb lh h0_labelCount h0_at sk csk gsk) ∧ va_S A s.heap H locs ∧ lv_has ls 8 [(0, .ref h0), (2, .long r1), (4, .long r3), (6, .int j68_s0), (7, .int j86_s0)]) (fun u => match u with | _ => []) ?_ (fun jn115 => ?_)
        · intro u H locs ls hI
          obtain ⟨hP, hD, hS, hl⟩ := hI
          refine lv_iload hx hb d_MA_performTwo_115 (lv_at hl 3 rfl) ?_
          refine lv_if_eq (tgt := 138) hx hb d_MA_performTwo_117 (by decide) (fun c117 => ?_) (fun c117 => ?_)
          · have q117 := eqI c117
            refine lv_aload_n hx hb d_MA_performTwo_138 rfl (lv_at hl 0 rfl) ?_
            refine lv_iload hx hb d_MA_performTwo_139 (lv_at hl 4 rfl) ?_
            refine lv_lload hx hb d_MA_performTwo_141 (lv_at hl 2 rfl) ?_
            refine lv_lload_n hx hb d_MA_performTwo_143 rfl (lv_at hl 1 rfl) ?_
            have hPc := hP.sb (wq := []) [] rfl
            have hDc := hD.sb (wq := []) [] (by decide) rfl
            have hKc := hK.sb (tyq := []) [] rfl
            have hFc := va_free (wc := []) hD hS hA [] rfl
            refine va_calll (va_runS (As := [.int j86_s0, .long r3, .long r1]) (rest := [.ref h0]) ⟨hx, hb, hml, hown, hts⟩ (c_MA_ofLongs l dC dI H.size j86_s0 r3 r1) ⟨callB_of 3 hts (gW kC_MA_ofLongs) rfl rfl rfl (hts _ kI_MA) (hts _ kM_MA_257) (by decide +kernel) ⟨Nat.le_of_ble_eq_true rfl, Nat.le_of_ble_eq_true rfl⟩, hts _ kT_MA_ofLongs⟩ ⟨fun a U g mk z => by obtain ⟨z0, z1, zP, zK, zD⟩ := z; exact ⟨z0, z1, zP, va_K.moved (u := U) (U := U.calling g mk a) (Vm.Alike.refl U.vm) zK, zD⟩, fun U hU hW => ⟨rfl, by rw [hU], va_P.he hU.symm hPc, va_K.moved hW.alike hKc, hDc.weaken (fun _ _ _ _ => trivial)⟩⟩ rfl rfl hl.1 rfl (lv_room (Nat.le_of_ble_eq_true rfl)) d_MA_performTwo_144 ⟨(Nat.zero_le _), (Nat.zero_le _)⟩) hS (fun q _ h => hFc q h) hFc (fun r5 u t H1 locs ht hvm hw hB hz1 hk1 hS => ?_)
            try dsimp only at hw
            try clear hw
            obtain ⟨hP1, hK1, hD1⟩ := hB
            replace hP1 := va_P.he ht hP1
            obtain ⟨hP, hD⟩ := va_join (wr := (wz_17 h0 h0_pages h0_steps h0_reason gl h0_wafer_r h0_codes_r ce sk n4 fb fs ff fl h0_frameCount lb lh h0_labelCount h0_at sk csk gsk)) (w1 := []) hP hD [] [0, 1] rfl rfl (by decide) (by decide) hk1 hFc hP1 hD1
            clear hPc hDc hKc hFc hz1 hk1 hP1 hK1 hD1
            rename Heap => H
            have hP : va_P (dC, dI) cls (wz_17 h0 h0_pages h0_steps h0_reason gl h0_wafer_r h0_codes_r ce sk n4 fb fs ff fl h0_frameCount lb lh h0_labelCount h0_at sk csk gsk) H := hP
            have hD : va_D A (wz_17 h0 h0_pages h0_steps h0_reason gl h0_wafer_r h0_codes_r ce sk n4 fb fs ff fl h0_frameCount lb lh h0_labelCount h0_at sk csk gsk) := hD
            have hPc := hP.sb (wq := (wz_17 h0 h0_pages h0_steps h0_reason gl h0_wafer_r h0_codes_r ce sk n4 fb fs ff fl h0_frameCount lb lh h0_labelCount h0_at sk csk gsk)) [0, 1] rfl
            have hDc := hD.sb (wq := (wz_17 h0 h0_pages h0_steps h0_reason gl h0_wafer_r h0_codes_r ce sk n4 fb fs ff fl h0_frameCount lb lh h0_labelCount h0_at sk csk gsk)) [0, 1] (by decide) rfl
            have hKc := hK.sb (tyq := [(csk, .long)]) [0] rfl
            have hFc := va_free (wc := (wz_17 h0 h0_pages h0_steps h0_reason gl h0_wafer_r h0_codes_r ce sk n4 fb fs ff fl h0_frameCount lb lh h0_labelCount h0_at sk csk gsk)) hD hS hA [0, 1] rfl
            refine va_callv (va_runV (As := [.long r5]) (rest := []) ⟨hx, hb, hml, hown, hts⟩ (c_MA_push l dC dI H.size h0 gl h0_wafer_r h0_codes_r ce sk fb fs ff fl lb lh csk h0_pages h0_steps h0_reason n4 h0_frameCount h0_labelCount h0_at gsk (b_h0_reason) (bn4) r5) (cwV 1 hts (gV kM_MA_94 kV_MA_push kS_MA_push kI_MA kC_MA_push) rfl rfl rfl (by decide +kernel) ⟨Nat.le_of_ble_eq_true rfl, Nat.le_of_ble_eq_true rfl⟩) ⟨fun a U g mk z => by obtain ⟨z0, z1, zP, zK, zD⟩ := z; exact ⟨z0, z1, zP, va_K.moved (u := U) (U := U.calling g mk a) (Vm.Alike.refl U.vm) zK, zD⟩, va_recv hKc hPc (ci := 4) (q0 := 0) rfl rfl, fun U hU hW => ⟨rfl, by rw [hU], va_P.he hU.symm hPc, va_K.moved hW.alike hKc, hDc.weaken (fun _ _ _ _ => trivial)⟩⟩ rfl rfl hl.1 rfl (lv_room (Nat.le_of_ble_eq_true rfl)) d_MA_performTwo_147 ⟨(Nat.zero_le _), (Nat.zero_le _)⟩) hS (fun q _ h => hFc q h) hFc (fun u t H1 locs ht hvm hw hB hz1 hk1 hS => ?_)
            obtain ⟨n7, n8, n9⟩ := u
            try dsimp only at hw
            obtain ⟨bn8, bn9, xr6⟩ := hw
            try clear hw
            obtain ⟨hP1, hK1, hD1⟩ := hB
            replace hP1 := va_P.he ht hP1
            obtain ⟨hP, hD⟩ := va_join (wr := []) (w1 := (wz_17 h0 h0_pages h0_steps n9 gl h0_wafer_r h0_codes_r ce sk n8 fb fs ff fl h0_frameCount lb lh h0_labelCount h0_at sk csk n7)) hP hD [0, 1] [] rfl rfl (by decide) (by decide) hk1 hFc hP1 hD1
            clear hPc hDc hKc hFc hz1 hk1 hP1 hK1 hD1
            rename Heap => H
            have hP : va_P (dC, dI) cls (wz_17 h0 h0_pages h0_steps n9 gl h0_wafer_r h0_codes_r ce sk n8 fb fs ff fl h0_frameCount lb lh h0_labelCount h0_at sk csk n7) H := hP
            have hD : va_D A (wz_17 h0 h0_pages h0_steps n9 gl h0_wafer_r h0_codes_r ce sk n8 fb fs ff fl h0_frameCount lb lh h0_labelCount h0_at sk csk n7) := hD
            have hP9 := hP.sb (wq := (wz_17 h0 h0_pages h0_steps n9 gl h0_wafer_r h0_codes_r ce sk n8 fb fs ff fl h0_frameCount lb lh h0_labelCount h0_at sk csk n7)) [0, 1] rfl
            have hD9 := hD.sb (wq := (wz_17 h0 h0_pages h0_steps n9 gl h0_wafer_r h0_codes_r ce sk n8 fb fs ff fl h0_frameCount lb lh h0_labelCount h0_at sk csk n7)) [0, 1] (by decide) rfl
            exact W.vret hx hb hr (fun t ht hW => ⟨⟨(n7, n8, n9), rfl, ⟨bn8, bn9, by (try dsimp only); (first | (apply Int.le_antisymm <;> omega) | omega)⟩, va_P.he ht.symm hP9, va_K.moved hW.alike hK, hD9⟩, hS.F ht⟩) hS.2.2 d_MA_performTwo_150
          · have q117 := neI c117
            refine lv_aload_n hx hb d_MA_performTwo_120 rfl (lv_at hl 0 rfl) ?_
            refine lv_iload hx hb d_MA_performTwo_121 (lv_at hl 4 rfl) ?_
            refine lv_lload hx hb d_MA_performTwo_123 (lv_at hl 2 rfl) ?_
            refine lv_l2i hx hb d_MA_performTwo_125 rfl ?_
            refine lv_topi (fun x10 ex10 => ?_)
            refine lv_lload_n hx hb d_MA_performTwo_126 rfl (lv_at hl 1 rfl) ?_
            refine lv_l2i hx hb d_MA_performTwo_127 rfl ?_
            refine lv_topi (fun x11 ex11 => ?_)
            have hPc := hP.sb (wq := []) [] rfl
            have hDc := hD.sb (wq := []) [] (by decide) rfl
            have hKc := hK.sb (tyq := []) [] rfl
            have hFc := va_free (wc := []) hD hS hA [] rfl
            refine va_calli (va_runS (As := [.int j86_s0, .int x10, .int x11]) (rest := [.ref h0]) ⟨hx, hb, hml, hown, hts⟩ (c_MA_ofInts l dC dI H.size j86_s0 x10 x11) ⟨callB_of 3 hts (gW kC_MA_ofInts) rfl rfl rfl (hts _ kI_MA) (hts _ kM_MA_253) (by decide +kernel) ⟨Nat.le_of_ble_eq_true rfl, Nat.le_of_ble_eq_true rfl⟩, hts _ kT_MA_ofInts⟩ ⟨fun a U g mk z => by obtain ⟨z0, z1, zP, zK, zD⟩ := z; exact ⟨z0, z1, zP, va_K.moved (u := U) (U := U.calling g mk a) (Vm.Alike.refl U.vm) zK, zD⟩, fun U hU hW => ⟨rfl, by rw [hU], va_P.he hU.symm hPc, va_K.moved hW.alike hKc, hDc.weaken (fun _ _ _ _ => trivial)⟩⟩ rfl rfl hl.1 rfl (lv_room (Nat.le_of_ble_eq_true rfl)) d_MA_performTwo_128 ⟨(Nat.zero_le _), (Nat.zero_le _)⟩) hS (fun q _ h => hFc q h) hFc (fun r12 u t H1 locs ht hvm hw hB hz1 hk1 hS => ?_)
            try dsimp only at hw
            try clear hw
            obtain ⟨hP1, hK1, hD1⟩ := hB
            replace hP1 := va_P.he ht hP1
            obtain ⟨hP, hD⟩ := va_join (wr := (wz_17 h0 h0_pages h0_steps h0_reason gl h0_wafer_r h0_codes_r ce sk n4 fb fs ff fl h0_frameCount lb lh h0_labelCount h0_at sk csk gsk)) (w1 := []) hP hD [] [0, 1] rfl rfl (by decide) (by decide) hk1 hFc hP1 hD1
            clear hPc hDc hKc hFc hz1 hk1 hP1 hK1 hD1
            rename Heap => H
            have hP : va_P (dC, dI) cls (wz_17 h0 h0_pages h0_steps h0_reason gl h0_wafer_r h0_codes_r ce sk n4 fb fs ff fl h0_frameCount lb lh h0_labelCount h0_at sk csk gsk) H := hP
            have hD : va_D A (wz_17 h0 h0_pages h0_steps h0_reason gl h0_wafer_r h0_codes_r ce sk n4 fb fs ff fl h0_frameCount lb lh h0_labelCount h0_at sk csk gsk) := hD
            refine lv_i2l hx hb d_MA_performTwo_131 rfl ?_
            refine lv_topl (fun x13 ex13 => ?_)
            have tx13 := i2l_t ex13
            have hPc := hP.sb (wq := (wz_17 h0 h0_pages h0_steps h0_reason gl h0_wafer_r h0_codes_r ce sk n4 fb fs ff fl h0_frameCount lb lh h0_labelCount h0_at sk csk gsk)) [0, 1] rfl
            have hDc := hD.sb (wq := (wz_17 h0 h0_pages h0_steps h0_reason gl h0_wafer_r h0_codes_r ce sk n4 fb fs ff fl h0_frameCount lb lh h0_labelCount h0_at sk csk gsk)) [0, 1] (by decide) rfl
            have hKc := hK.sb (tyq := [(csk, .long)]) [0] rfl
            have hFc := va_free (wc := (wz_17 h0 h0_pages h0_steps h0_reason gl h0_wafer_r h0_codes_r ce sk n4 fb fs ff fl h0_frameCount lb lh h0_labelCount h0_at sk csk gsk)) hD hS hA [0, 1] rfl
            refine va_callv (va_runV (As := [.long x13]) (rest := []) ⟨hx, hb, hml, hown, hts⟩ (c_MA_push l dC dI H.size h0 gl h0_wafer_r h0_codes_r ce sk fb fs ff fl lb lh csk h0_pages h0_steps h0_reason n4 h0_frameCount h0_labelCount h0_at gsk (b_h0_reason) (bn4) x13) (cwV 1 hts (gV kM_MA_94 kV_MA_push kS_MA_push kI_MA kC_MA_push) rfl rfl rfl (by decide +kernel) ⟨Nat.le_of_ble_eq_true rfl, Nat.le_of_ble_eq_true rfl⟩) ⟨fun a U g mk z => by obtain ⟨z0, z1, zP, zK, zD⟩ := z; exact ⟨z0, z1, zP, va_K.moved (u := U) (U := U.calling g mk a) (Vm.Alike.refl U.vm) zK, zD⟩, va_recv hKc hPc (ci := 4) (q0 := 0) rfl rfl, fun U hU hW => ⟨rfl, by rw [hU], va_P.he hU.symm hPc, va_K.moved hW.alike hKc, hDc.weaken (fun _ _ _ _ => trivial)⟩⟩ rfl rfl hl.1 rfl (lv_room (Nat.le_of_ble_eq_true rfl)) d_MA_performTwo_132 ⟨(Nat.zero_le _), (Nat.zero_le _)⟩) hS (fun q _ h => hFc q h) hFc (fun u t H1 locs ht hvm hw hB hz1 hk1 hS => ?_)
            obtain ⟨n15, n16, n17⟩ := u
            try dsimp only at hw
            obtain ⟨bn16, bn17, xr14⟩ := hw
            try clear hw
            obtain ⟨hP1, hK1, hD1⟩ := hB
            replace hP1 := va_P.he ht hP1
            obtain ⟨hP, hD⟩ := va_join (wr := []) (w1 := (wz_17 h0 h0_pages h0_steps n17 gl h0_wafer_r h0_codes_r ce sk n16 fb fs ff fl h0_frameCount lb lh h0_labelCount h0_at sk csk n15)) hP hD [0, 1] [] rfl rfl (by decide) (by decide) hk1 hFc hP1 hD1
            clear hPc hDc hKc hFc hz1 hk1 hP1 hK1 hD1
            rename Heap => H
            have hP : va_P (dC, dI) cls (wz_17 h0 h0_pages h0_steps n17 gl h0_wafer_r h0_codes_r ce sk n16 fb fs ff fl h0_frameCount lb lh h0_labelCount h0_at sk csk n15) H := hP
            have hD : va_D A (wz_17 h0 h0_pages h0_steps n17 gl h0_wafer_r h0_codes_r ce sk n16 fb fs ff fl h0_frameCount lb lh h0_labelCount h0_at sk csk n15) := hD
            refine lv_goto (tgt := 150) hx hb d_MA_performTwo_135 (by decide) ?_
            have hP9 := hP.sb (wq := (wz_17 h0 h0_pages h0_steps n17 gl h0_wafer_r h0_codes_r ce sk n16 fb fs ff fl h0_frameCount lb lh h0_labelCount h0_at sk csk n15)) [0, 1] rfl
            have hD9 := hD.sb (wq := (wz_17 h0 h0_pages h0_steps n17 gl h0_wafer_r h0_codes_r ce sk n16 fb fs ff fl h0_frameCount lb lh h0_labelCount h0_at sk csk n15)) [0, 1] (by decide) rfl
            exact W.vret hx hb hr (fun t ht hW => ⟨⟨(n15, n16, n17), rfl, ⟨bn16, bn17, by (try dsimp only); (first | (apply Int.le_antisymm <;> omega) | omega)⟩, va_P.he ht.symm hP9, va_K.moved hW.alike hK, hD9⟩, hS.F ht⟩) hS.2.2 d_MA_performTwo_150
        · skip
          refine lv_icmp_lt (tgt := 115) hx hb d_MA_performTwo_91 (by decide) (fun c91 => ?_) (fun c91 => ?_)
          · have q91 := ltI c91
            exact jn115 () _ _ _ ⟨hP, hD, hS, lv_sub hl [1, 2, 3, 4, 0] rfl⟩
          · have q91 := nltI c91
            refine lv_iload hx hb d_MA_performTwo_94 (lv_at hl 0 rfl) ?_
            refine lv_bipush (v := 6) hx hb d_MA_performTwo_96 (by decide) ?_
            refine lv_icmp_gt (tgt := 115) hx hb d_MA_performTwo_98 (by decide) (fun c98 => ?_) (fun c98 => ?_)
            · have q98 := ltI c98
              exact jn115 () _ _ _ ⟨hP, hD, hS, lv_sub hl [1, 2, 3, 4, 0] rfl⟩
            · have q98 := nltI c98
              refine lv_aload_n hx hb d_MA_performTwo_101 rfl (lv_at hl 1 rfl) ?_
              refine lv_iload hx hb d_MA_performTwo_102 (lv_at hl 0 rfl) ?_
              refine lv_lload hx hb d_MA_performTwo_104 (lv_at hl 3 rfl) ?_
              refine lv_lload_n hx hb d_MA_performTwo_106 rfl (lv_at hl 2 rfl) ?_
              refine lv_iload hx hb d_MA_performTwo_107 (lv_at hl 4 rfl) ?_
              have hPc := hP.sb (wq := (wz_17 h0 h0_pages h0_steps h0_reason gl h0_wafer_r h0_codes_r ce sk n4 fb fs ff fl h0_frameCount lb lh h0_labelCount h0_at sk csk gsk)) [0, 1] rfl
              have hDc := hD.sb (wq := (wz_17 h0 h0_pages h0_steps h0_reason gl h0_wafer_r h0_codes_r ce sk n4 fb fs ff fl h0_frameCount lb lh h0_labelCount h0_at sk csk gsk)) [0, 1] (by decide) rfl
              have hKc := hK.sb (tyq := [(csk, .long)]) [0] rfl
              have hFc := va_free (wc := (wz_17 h0 h0_pages h0_steps h0_reason gl h0_wafer_r h0_codes_r ce sk n4 fb fs ff fl h0_frameCount lb lh h0_labelCount h0_at sk csk gsk)) hD hS hA [0, 1] rfl
              refine va_callv (va_runV (As := [.int j86_s0, .long r3, .long r1, .int j68_s0]) (rest := []) ⟨hx, hb, hml, hown, hts⟩ (c_MA_divide l dC dI H.size h0 gl h0_wafer_r h0_codes_r ce sk fb fs ff fl lb lh csk h0_pages h0_steps h0_reason n4 h0_frameCount h0_labelCount h0_at gsk (b_h0_reason) (bn4) j86_s0 r3 r1 j68_s0 (b_j68_s0) (by (try dsimp only); (first | (apply Int.le_antisymm <;> omega) | omega))) (cwV 4 hts (gV kM_MA_249 kV_MA_divide kS_MA_divide kI_MA kC_MA_divide) rfl rfl rfl (by decide +kernel) ⟨Nat.le_of_ble_eq_true rfl, Nat.le_of_ble_eq_true rfl⟩) ⟨fun a U g mk z => by obtain ⟨z0, z1, zP, zK, zD⟩ := z; exact ⟨z0, z1, zP, va_K.moved (u := U) (U := U.calling g mk a) (Vm.Alike.refl U.vm) zK, zD⟩, va_recv hKc hPc (ci := 4) (q0 := 0) rfl rfl, fun U hU hW => ⟨rfl, by rw [hU], va_P.he hU.symm hPc, va_K.moved hW.alike hKc, hDc.weaken (fun _ _ _ _ => trivial)⟩⟩ rfl rfl hl.1 rfl (lv_room (Nat.le_of_ble_eq_true rfl)) d_MA_performTwo_109 ⟨(Nat.zero_le _), (Nat.zero_le _)⟩) hS (fun q _ h => hFc q h) hFc (fun u t H1 locs ht hvm hw hB hz1 hk1 hS => ?_)
              obtain ⟨n19, n20, n21⟩ := u
              try dsimp only at hw
              obtain ⟨bn20, bn21, xr18⟩ := hw
              try clear hw
              obtain ⟨hP1, hK1, hD1⟩ := hB
              replace hP1 := va_P.he ht hP1
              obtain ⟨hP, hD⟩ := va_join (wr := []) (w1 := (wz_17 h0 h0_pages h0_steps n21 gl h0_wafer_r h0_codes_r ce sk n20 fb fs ff fl h0_frameCount lb lh h0_labelCount h0_at sk csk n19)) hP hD [0, 1] [] rfl rfl (by decide) (by decide) hk1 hFc hP1 hD1
              clear hPc hDc hKc hFc hz1 hk1 hP1 hK1 hD1
              rename Heap => H
              have hP : va_P (dC, dI) cls (wz_17 h0 h0_pages h0_steps n21 gl h0_wafer_r h0_codes_r ce sk n20 fb fs ff fl h0_frameCount lb lh h0_labelCount h0_at sk csk n19) H := hP
              have hD : va_D A (wz_17 h0 h0_pages h0_steps n21 gl h0_wafer_r h0_codes_r ce sk n20 fb fs ff fl h0_frameCount lb lh h0_labelCount h0_at sk csk n19) := hD
              refine lv_goto (tgt := 150) hx hb d_MA_performTwo_112 (by decide) ?_
              have hP9 := hP.sb (wq := (wz_17 h0 h0_pages h0_steps n21 gl h0_wafer_r h0_codes_r ce sk n20 fb fs ff fl h0_frameCount lb lh h0_labelCount h0_at sk csk n19)) [0, 1] rfl
              have hD9 := hD.sb (wq := (wz_17 h0 h0_pages h0_steps n21 gl h0_wafer_r h0_codes_r ce sk n20 fb fs ff fl h0_frameCount lb lh h0_labelCount h0_at sk csk n19)) [0, 1] (by decide) rfl
              exact W.vret hx hb hr (fun t ht hW => ⟨⟨(n19, n20, n21), rfl, ⟨bn20, bn21, by (try dsimp only); (first | (apply Int.le_antisymm <;> omega) | omega)⟩, va_P.he ht.symm hP9, va_K.moved hW.alike hK, hD9⟩, hS.F ht⟩) hS.2.2 d_MA_performTwo_150
      · skip
        refine lv_if_eq (tgt := 82) hx hb d_MA_performTwo_72 (by decide) (fun c72 => ?_) (fun c72 => ?_)
        · have q72 := eqI c72
          refine lv_iload_n hx hb d_MA_performTwo_82 rfl (lv_at hl 2 rfl) ?_
          refine lv_bipush (v := 124) hx hb d_MA_performTwo_83 (by decide) ?_
          refine lv_isub hx hb d_MA_performTwo_85 ?_
          refine lv_topi (fun x22 ex22 => ?_)
          have tx22 : x22.toInt = p0.toInt - 124 := by have z := i32_sub ex22 (by (first | (apply Int.le_antisymm <;> omega) | omega)) (by (first | (apply Int.le_antisymm <;> omega) | omega)); first | exact z | (first | (apply Int.le_antisymm <;> omega) | omega)
          exact jn86 x22 _ _ _ ⟨hP, hD, hS, lv_sub hl [1, 3, 4, 0] rfl⟩
        · have q72 := neI c72
          refine lv_iload_n hx hb d_MA_performTwo_75 rfl (lv_at hl 2 rfl) ?_
          refine lv_bipush (v := 106) hx hb d_MA_performTwo_76 (by decide) ?_
          refine lv_isub hx hb d_MA_performTwo_78 ?_
          refine lv_topi (fun x23 ex23 => ?_)
          have tx23 : x23.toInt = p0.toInt - 106 := by have z := i32_sub ex23 (by (first | (apply Int.le_antisymm <;> omega) | omega)) (by (first | (apply Int.le_antisymm <;> omega) | omega)); first | exact z | (first | (apply Int.le_antisymm <;> omega) | omega)
          refine lv_goto (tgt := 86) hx hb d_MA_performTwo_79 (by decide) ?_
          exact jn86 x23 _ _ _ ⟨hP, hD, hS, lv_sub hl [1, 3, 4, 0] rfl⟩
    · skip
      refine lv_icmp_gt (tgt := 67) hx hb d_MA_performTwo_60 (by decide) (fun c60 => ?_) (fun c60 => ?_)
      · have q60 := ltI c60
        refine lv_iconst (v := 0) hx hb d_MA_performTwo_67 (by decide) ?_
        exact jn68 0 _ _ _ ⟨Or.inl rfl, hP, hD, hS, lv_sub hl [2, 3, 1, 0] rfl⟩
      · have q60 := nltI c60
        refine lv_iconst (v := 1) hx hb d_MA_performTwo_63 (by decide) ?_
        refine lv_goto (tgt := 68) hx hb d_MA_performTwo_64 (by decide) ?_
        exact jn68 1 _ _ _ ⟨Or.inr rfl, hP, hD, hS, lv_sub hl [2, 3, 1, 0] rfl⟩
  · have q14 := nleI c14
    refine lv_iload_n hx hb d_MA_performTwo_17 rfl (lv_at hl 3 rfl) ?_
    refine lv_bipush (v := 80) hx hb d_MA_performTwo_18 (by decide) ?_
    refine w_cut (pc2 := 34) (σ := Int32) (fun u H locs ls => match u with | j34_s0 => va_P (dC, dI) cls (wz_17 h0 h0_pages h0_steps h0_reason gl h0_wafer_r h0_codes_r ce sk n4 fb fs ff fl h0_frameCount lb lh h0_labelCount h0_at sk csk gsk) H ∧ va_D A (wz_17 h0 h0_pages h0_steps h0_reason gl h0_wafer_r h0_codes_r ce sk n4 fb fs ff fl h0_frameCount lb lh h0_labelCount h0_at sk csk gsk) ∧ va_S A s.heap H locs ∧ lv_has ls 8 [(0, .ref h0), (2, .long r1), (4, .long r3)]) (fun u => match u with | j34_s0 => [.int j34_s0]) ?_ (fun jn34 => ?_)
    · intro u H locs ls hI
      obtain ⟨j34_s0, rfl⟩ : ∃ z, z = u := ⟨_, rfl⟩
      obtain ⟨hP, hD, hS, hl⟩ := hI
      refine lv_lload hx hb d_MA_performTwo_34 (lv_at hl 2 rfl) ?_
      refine lv_lload_n hx hb d_MA_performTwo_36 rfl (lv_at hl 1 rfl) ?_
      have hPc := hP.sb (wq := []) [] rfl
      have hDc := hD.sb (wq := []) [] (by decide) rfl
      have hKc := hK.sb (tyq := []) [] rfl
      have hFc := va_free (wc := []) hD hS hA [] rfl
      refine va_calli (va_runS (As := [.int j34_s0, .long r3, .long r1]) (rest := []) ⟨hx, hb, hml, hown, hts⟩ (c_MA_compares l dC dI H.size j34_s0 r3 r1) ⟨callB_of 3 hts (gW kC_MA_compares) rfl rfl rfl (hts _ kI_MA) (hts _ kM_MA_245) (by decide +kernel) ⟨Nat.le_of_ble_eq_true rfl, Nat.le_of_ble_eq_true rfl⟩, hts _ kT_MA_compares⟩ ⟨fun a U g mk z => by obtain ⟨z0, z1, zP, zK, zD⟩ := z; exact ⟨z0, z1, zP, va_K.moved (u := U) (U := U.calling g mk a) (Vm.Alike.refl U.vm) zK, zD⟩, fun U hU hW => ⟨rfl, by rw [hU], va_P.he hU.symm hPc, va_K.moved hW.alike hKc, hDc.weaken (fun _ _ _ _ => trivial)⟩⟩ rfl rfl hl.1 rfl (lv_room (Nat.le_of_ble_eq_true rfl)) d_MA_performTwo_37 ⟨(Nat.zero_le _), (Nat.zero_le _)⟩) hS (fun q _ h => hFc q h) hFc (fun r24 u t H1 locs ht hvm hw hB hz1 hk1 hS => ?_)
      try dsimp only at hw
      have br24 := hw
      try clear hw
      have tr24 := b01 br24
      obtain ⟨hP1, hK1, hD1⟩ := hB
      replace hP1 := va_P.he ht hP1
      obtain ⟨hP, hD⟩ := va_join (wr := (wz_17 h0 h0_pages h0_steps h0_reason gl h0_wafer_r h0_codes_r ce sk n4 fb fs ff fl h0_frameCount lb lh h0_labelCount h0_at sk csk gsk)) (w1 := []) hP hD [] [0, 1] rfl rfl (by decide) (by decide) hk1 hFc hP1 hD1
      clear hPc hDc hKc hFc hz1 hk1 hP1 hK1 hD1
      rename Heap => H
      have hP : va_P (dC, dI) cls (wz_17 h0 h0_pages h0_steps h0_reason gl h0_wafer_r h0_codes_r ce sk n4 fb fs ff fl h0_frameCount lb lh h0_labelCount h0_at sk csk gsk) H := hP
      have hD : va_D A (wz_17 h0 h0_pages h0_steps h0_reason gl h0_wafer_r h0_codes_r ce sk n4 fb fs ff fl h0_frameCount lb lh h0_labelCount h0_at sk csk gsk) := hD
      refine lv_istore (lv' := [(6, .int r24), (0, .ref h0), (2, .long r1), (4, .long r3)]) hx hb d_MA_performTwo_40 hl (by decide) rfl (fun ls hl => ?_)
      refine lv_aload_n hx hb d_MA_performTwo_42 rfl (lv_at hl 1 rfl) ?_
      refine lv_iload hx hb d_MA_performTwo_43 (lv_at hl 0 rfl) ?_
      refine w_cut (pc2 := 53) (σ := Int64) (fun u H locs ls => match u with | j53_s0 => va_P (dC, dI) cls (wz_17 h0 h0_pages h0_steps h0_reason gl h0_wafer_r h0_codes_r ce sk n4 fb fs ff fl h0_frameCount lb lh h0_labelCount h0_at sk csk gsk) H ∧ va_D A (wz_17 h0 h0_pages h0_steps h0_reason gl h0_wafer_r h0_codes_r ce sk n4 fb fs ff fl h0_frameCount lb lh h0_labelCount h0_at sk csk gsk) ∧ va_S A s.heap H locs ∧ lv_has ls 8 []) (fun u => match u with | j53_s0 => [.long j53_s0, .ref h0]) ?_ (fun jn53 => ?_)
      · intro u H locs ls hI
        obtain ⟨j53_s0, rfl⟩ : ∃ z, z = u := ⟨_, rfl⟩
        obtain ⟨hP, hD, hS, hl⟩ := hI
        have hPc := hP.sb (wq := (wz_17 h0 h0_pages h0_steps h0_reason gl h0_wafer_r h0_codes_r ce sk n4 fb fs ff fl h0_frameCount lb lh h0_labelCount h0_at sk csk gsk)) [0, 1] rfl
        have hDc := hD.sb (wq := (wz_17 h0 h0_pages h0_steps h0_reason gl h0_wafer_r h0_codes_r ce sk n4 fb fs ff fl h0_frameCount lb lh h0_labelCount h0_at sk csk gsk)) [0, 1] (by decide) rfl
        have hKc := hK.sb (tyq := [(csk, .long)]) [0] rfl
        have hFc := va_free (wc := (wz_17 h0 h0_pages h0_steps h0_reason gl h0_wafer_r h0_codes_r ce sk n4 fb fs ff fl h0_frameCount lb lh h0_labelCount h0_at sk csk gsk)) hD hS hA [0, 1] rfl
        refine va_callv (va_runV (As := [.long j53_s0]) (rest := []) ⟨hx, hb, hml, hown, hts⟩ (c_MA_push l dC dI H.size h0 gl h0_wafer_r h0_codes_r ce sk fb fs ff fl lb lh csk h0_pages h0_steps h0_reason n4 h0_frameCount h0_labelCount h0_at gsk (b_h0_reason) (bn4) j53_s0) (cwV 1 hts (gV kM_MA_94 kV_MA_push kS_MA_push kI_MA kC_MA_push) rfl rfl rfl (by decide +kernel) ⟨Nat.le_of_ble_eq_true rfl, Nat.le_of_ble_eq_true rfl⟩) ⟨fun a U g mk z => by obtain ⟨z0, z1, zP, zK, zD⟩ := z; exact ⟨z0, z1, zP, va_K.moved (u := U) (U := U.calling g mk a) (Vm.Alike.refl U.vm) zK, zD⟩, va_recv hKc hPc (ci := 4) (q0 := 0) rfl rfl, fun U hU hW => ⟨rfl, by rw [hU], va_P.he hU.symm hPc, va_K.moved hW.alike hKc, hDc.weaken (fun _ _ _ _ => trivial)⟩⟩ rfl rfl hl.1 rfl (lv_room (Nat.le_of_ble_eq_true rfl)) d_MA_performTwo_53 ⟨(Nat.zero_le _), (Nat.zero_le _)⟩) hS (fun q _ h => hFc q h) hFc (fun u t H1 locs ht hvm hw hB hz1 hk1 hS => ?_)
        obtain ⟨n26, n27, n28⟩ := u
        try dsimp only at hw
        obtain ⟨bn27, bn28, xr25⟩ := hw
        try clear hw
        obtain ⟨hP1, hK1, hD1⟩ := hB
        replace hP1 := va_P.he ht hP1
        obtain ⟨hP, hD⟩ := va_join (wr := []) (w1 := (wz_17 h0 h0_pages h0_steps n28 gl h0_wafer_r h0_codes_r ce sk n27 fb fs ff fl h0_frameCount lb lh h0_labelCount h0_at sk csk n26)) hP hD [0, 1] [] rfl rfl (by decide) (by decide) hk1 hFc hP1 hD1
        clear hPc hDc hKc hFc hz1 hk1 hP1 hK1 hD1
        rename Heap => H
        have hP : va_P (dC, dI) cls (wz_17 h0 h0_pages h0_steps n28 gl h0_wafer_r h0_codes_r ce sk n27 fb fs ff fl h0_frameCount lb lh h0_labelCount h0_at sk csk n26) H := hP
        have hD : va_D A (wz_17 h0 h0_pages h0_steps n28 gl h0_wafer_r h0_codes_r ce sk n27 fb fs ff fl h0_frameCount lb lh h0_labelCount h0_at sk csk n26) := hD
        have hP9 := hP.sb (wq := (wz_17 h0 h0_pages h0_steps n28 gl h0_wafer_r h0_codes_r ce sk n27 fb fs ff fl h0_frameCount lb lh h0_labelCount h0_at sk csk n26)) [0, 1] rfl
        have hD9 := hD.sb (wq := (wz_17 h0 h0_pages h0_steps n28 gl h0_wafer_r h0_codes_r ce sk n27 fb fs ff fl h0_frameCount lb lh h0_labelCount h0_at sk csk n26)) [0, 1] (by decide) rfl
        exact W.vret hx hb hr (fun t ht hW => ⟨⟨(n26, n27, n28), rfl, ⟨bn27, bn28, by (try dsimp only); (first | (apply Int.le_antisymm <;> omega) | omega)⟩, va_P.he ht.symm hP9, va_K.moved hW.alike hK, hD9⟩, hS.F ht⟩) hS.2.2 d_MA_performTwo_56
      · skip
        refine lv_if_eq (tgt := 52) hx hb d_MA_performTwo_45 (by decide) (fun c45 => ?_) (fun c45 => ?_)
        · have q45 := eqI c45
          refine lv_lconst (v := 0) hx hb d_MA_performTwo_52 (by decide) ?_
          have kl0 : (0 : Int64).toInt = 0 := by decide
          exact jn53 0 _ _ _ ⟨hP, hD, hS, lv_sub hl [] rfl⟩
        · have q45 := neI c45
          refine lv_lconst (v := 1) hx hb d_MA_performTwo_48 (by decide) ?_
          have kl1 : (1 : Int64).toInt = 1 := by decide
          refine lv_goto (tgt := 53) hx hb d_MA_performTwo_49 (by decide) ?_
          exact jn53 1 _ _ _ ⟨hP, hD, hS, lv_sub hl [] rfl⟩
    · skip
      refine lv_icmp_ge (tgt := 30) hx hb d_MA_performTwo_20 (by decide) (fun c20 => ?_) (fun c20 => ?_)
      · have q20 := leI c20
        refine lv_iload_n hx hb d_MA_performTwo_30 rfl (lv_at hl 3 rfl) ?_
        refine lv_bipush (v := 81) hx hb d_MA_performTwo_31 (by decide) ?_
        refine lv_isub hx hb d_MA_performTwo_33 ?_
        refine lv_topi (fun x29 ex29 => ?_)
        have tx29 : x29.toInt = p0.toInt - 81 := by have z := i32_sub ex29 (by (first | (apply Int.le_antisymm <;> omega) | omega)) (by (first | (apply Int.le_antisymm <;> omega) | omega)); first | exact z | (first | (apply Int.le_antisymm <;> omega) | omega)
        exact jn34 x29 _ _ _ ⟨hP, hD, hS, lv_sub hl [2, 1, 0] rfl⟩
      · have q20 := nleI c20
        refine lv_iload_n hx hb d_MA_performTwo_23 rfl (lv_at hl 3 rfl) ?_
        refine lv_bipush (v := 70) hx hb d_MA_performTwo_24 (by decide) ?_
        refine lv_isub hx hb d_MA_performTwo_26 ?_
        refine lv_topi (fun x30 ex30 => ?_)
        have tx30 : x30.toInt = p0.toInt - 70 := by have z := i32_sub ex30 (by (first | (apply Int.le_antisymm <;> omega) | omega)) (by (first | (apply Int.le_antisymm <;> omega) | omega)); first | exact z | (first | (apply Int.le_antisymm <;> omega) | omega)
        refine lv_goto (tgt := 34) hx hb d_MA_performTwo_27 (by decide) ?_
        exact jn34 x30 _ _ _ ⟨hP, hD, hS, lv_sub hl [2, 1, 0] rfl⟩
abbrev b_MA_grow : ByteArray := prog_6_method_16_code
def y_MA_grow : MethodName := ⟨R_MA, "grow", "()V"⟩
abbrev w_MA_grow : List Cond := .code y_MA_grow b_MA_grow 5 none :: lw_g
theorem kC_MA_grow : Cond.code y_MA_grow b_MA_grow 5 none ∈ lw_g := in_c7 163 rfl rfl
theorem d_MA_grow_0 : decode b_MA_grow 0 = .ok (.aload_n 0, 1) := bz_c42 (by decide +kernel)
theorem d_MA_grow_1 : decode b_MA_grow 1 = .ok (.invokevirtual 142, 3) := bz_c182 (by decide +kernel)
theorem d_MA_grow_4 : decode b_MA_grow 4 = .ok (.ldc2_w 162, 3) := bz_c20 (by decide +kernel)
theorem d_MA_grow_7 : decode b_MA_grow 7 = .ok (.land, 1) := bz_c127 (by decide +kernel)
theorem d_MA_grow_8 : decode b_MA_grow 8 = .ok (.lstore_n 1, 1) := bz_c64 (by decide +kernel)
theorem d_MA_grow_9 : decode b_MA_grow 9 = .ok (.aload_n 0, 1) := bz_c42 (by decide +kernel)
theorem d_MA_grow_10 : decode b_MA_grow 10 = .ok (.getfield 40, 3) := bz_c180 (by decide +kernel)
theorem d_MA_grow_13 : decode b_MA_grow 13 = .ok (.getfield 213, 3) := bz_c180 (by decide +kernel)
theorem d_MA_grow_16 : decode b_MA_grow 16 = .ok (.lconst 0, 1) := bz_c9 (by decide +kernel)
theorem d_MA_grow_17 : decode b_MA_grow 17 = .ok (.lcmp, 1) := bz_c148 (by decide +kernel)
theorem d_MA_grow_18 : decode b_MA_grow 18 = .ok (.ifCond .ge 9, 3) := bz_c156 (by decide +kernel)
theorem d_MA_grow_21 : decode b_MA_grow 21 = .ok (.ldc2_w 216, 3) := bz_c20 (by decide +kernel)
theorem d_MA_grow_24 : decode b_MA_grow 24 = .ok (.goto 16, 3) := bz_c167 (by decide +kernel)
theorem d_MA_grow_27 : decode b_MA_grow 27 = .ok (.ldc2_w 216, 3) := bz_c20 (by decide +kernel)
theorem d_MA_grow_30 : decode b_MA_grow 30 = .ok (.aload_n 0, 1) := bz_c42 (by decide +kernel)
theorem d_MA_grow_31 : decode b_MA_grow 31 = .ok (.getfield 40, 3) := bz_c180 (by decide +kernel)
theorem d_MA_grow_34 : decode b_MA_grow 34 = .ok (.getfield 213, 3) := bz_c180 (by decide +kernel)
theorem d_MA_grow_37 : decode b_MA_grow 37 = .ok (.invokestatic 167, 3) := bz_c184 (by decide +kernel)
theorem d_MA_grow_40 : decode b_MA_grow 40 = .ok (.lstore_n 3, 1) := bz_c66 (by decide +kernel)
theorem d_MA_grow_41 : decode b_MA_grow 41 = .ok (.aload_n 0, 1) := bz_c42 (by decide +kernel)
theorem d_MA_grow_42 : decode b_MA_grow 42 = .ok (.getfield 55, 3) := bz_c180 (by decide +kernel)
theorem d_MA_grow_45 : decode b_MA_grow 45 = .ok (.i2l, 1) := bz_c133 (by decide +kernel)
theorem d_MA_grow_46 : decode b_MA_grow 46 = .ok (.lload_n 1, 1) := bz_c31 (by decide +kernel)
theorem d_MA_grow_47 : decode b_MA_grow 47 = .ok (.ladd, 1) := bz_c97 (by decide +kernel)
theorem d_MA_grow_48 : decode b_MA_grow 48 = .ok (.lload_n 3, 1) := bz_c33 (by decide +kernel)
theorem d_MA_grow_49 : decode b_MA_grow 49 = .ok (.lcmp, 1) := bz_c148 (by decide +kernel)
theorem d_MA_grow_50 : decode b_MA_grow 50 = .ok (.ifCond .le 13, 3) := bz_c158 (by decide +kernel)
theorem d_MA_grow_53 : decode b_MA_grow 53 = .ok (.aload_n 0, 1) := bz_c42 (by decide +kernel)
theorem d_MA_grow_54 : decode b_MA_grow 54 = .ok (.ldc2_w 218, 3) := bz_c20 (by decide +kernel)
theorem d_MA_grow_57 : decode b_MA_grow 57 = .ok (.invokevirtual 94, 3) := bz_c182 (by decide +kernel)
theorem d_MA_grow_60 : decode b_MA_grow 60 = .ok (.goto 23, 3) := bz_c167 (by decide +kernel)
theorem d_MA_grow_63 : decode b_MA_grow 63 = .ok (.aload_n 0, 1) := bz_c42 (by decide +kernel)
theorem d_MA_grow_64 : decode b_MA_grow 64 = .ok (.aload_n 0, 1) := bz_c42 (by decide +kernel)
theorem d_MA_grow_65 : decode b_MA_grow 65 = .ok (.getfield 55, 3) := bz_c180 (by decide +kernel)
theorem d_MA_grow_68 : decode b_MA_grow 68 = .ok (.i2l, 1) := bz_c133 (by decide +kernel)
theorem d_MA_grow_69 : decode b_MA_grow 69 = .ok (.invokevirtual 94, 3) := bz_c182 (by decide +kernel)
theorem d_MA_grow_72 : decode b_MA_grow 72 = .ok (.aload_n 0, 1) := bz_c42 (by decide +kernel)
theorem d_MA_grow_73 : decode b_MA_grow 73 = .ok (.dup, 1) := bz_c89 (by decide +kernel)
theorem d_MA_grow_74 : decode b_MA_grow 74 = .ok (.getfield 55, 3) := bz_c180 (by decide +kernel)
theorem d_MA_grow_77 : decode b_MA_grow 77 = .ok (.lload_n 1, 1) := bz_c31 (by decide +kernel)
theorem d_MA_grow_78 : decode b_MA_grow 78 = .ok (.l2i, 1) := bz_c136 (by decide +kernel)
theorem d_MA_grow_79 : decode b_MA_grow 79 = .ok (.iadd, 1) := bz_c96 (by decide +kernel)
theorem d_MA_grow_80 : decode b_MA_grow 80 = .ok (.putfield 55, 3) := bz_c181 (by decide +kernel)
theorem d_MA_grow_83 : decode b_MA_grow 83 = .ok (.return_, 1) := bz_c177 (by decide +kernel)
theorem kM_MA_167 : Cond.methodLink R_MA 167 y_JM_min1 ∈ lw_g := in_c7 149 rfl rfl
theorem kT_JM_min1 : Cond.static y_JM_min1 ∈ lw_g := in_c7 150 rfl rfl
theorem kF_MA_40 : Cond.fieldLink R_MA 40 "WaferForge$Machine" "wafer" "LWaferForge$Wafer;" ∈ lw_g := in_c3 65 rfl rfl
theorem kF_MA_213 : Cond.fieldLink R_MA 213 "WaferForge$Wafer" "pagesMost" "J" ∈ lw_g := in_c1 175 rfl rfl
theorem kF_MA_55 : Cond.fieldLink R_MA 55 "WaferForge$Machine" "pages" "I" ∈ lw_g := in_c3 57 rfl rfl
theorem kL_MA_216 : Cond.constantLong R_MA 216 (2) ∈ lw_g := in_c7 164 rfl rfl
abbrev at_MA_grow (dC : Nat → ClassId) (dI : Nat → Nat → Nat) (h0 gl aw h0_codes_r ce sk fb fs ff fl lb lh : Nat) (csk : ClassId) (h0_steps : Int32) (h0_frameCount : Int32) (h0_labelCount : Int32) (h0_at : Int32) (law : List Value) (aw_pagesMost : Int64) (A : Nat → Prop) (u : (Nat → Int64) × Int32 × Int32 × Int32) (t : State) : Prop := match u with | (gsk, h0_height, h0_pages, h0_reason) => va_P (dC, dI) cls (wz_20 h0 h0_pages h0_steps h0_reason gl aw h0_codes_r ce sk h0_height fb fs ff fl h0_frameCount lb lh h0_labelCount h0_at aw law sk csk gsk) t.heap ∧ va_K (dC, dI) cls [(csk, .long)] t ∧ va_D A (wz_20 h0 h0_pages h0_steps h0_reason gl aw h0_codes_r ce sk h0_height fb fs ff fl h0_frameCount lb lh h0_labelCount h0_at aw law sk csk gsk)
set_option maxHeartbeats 4000000 in
set_option maxRecDepth 100000 in
theorem c_MA_grow (l : Launch) (dC : Nat → ClassId) (dI : Nat → Nat → Nat) (sz : Nat) (h0 gl aw h0_codes_r ce sk fb fs ff fl lb lh : Nat) (csk : ClassId) (h0_pages : Int32) (h0_steps : Int32) (h0_reason : Int32) (h0_height : Int32) (h0_frameCount : Int32) (h0_labelCount : Int32) (h0_at : Int32) (law : List Value) (aw_pagesMost : Int64) (gsk : Nat → Int64) (paw_10 : law[10]? = some (.long aw_pagesMost)) (plaw : law.length = 21) (b_h0_pages : 0 ≤ h0_pages.toInt ∧ h0_pages.toInt ≤ 2) (b_h0_reason : 0 ≤ h0_reason.toInt ∧ h0_reason.toInt ≤ 14) (b_h0_height : 0 ≤ h0_height.toInt ∧ h0_height.toInt ≤ 12096)   (hr0 : h0_reason.toInt = 0) (hh : 1 ≤ h0_height.toInt) : Met l y_MA_grow w_MA_grow ({ frames := 1, cells := 0, slots := 0, locals := 24 }) (va_Pc [.ref h0] (fun U => U.heap.size = sz ∧ va_P (dC, dI) cls (wz_20 h0 h0_pages h0_steps h0_reason gl aw h0_codes_r ce sk h0_height fb fs ff fl h0_frameCount lb lh h0_labelCount h0_at aw law sk csk gsk) U.heap ∧ va_K (dC, dI) cls [(csk, .long)] U ∧ va_D (fun _ => True) (wz_20 h0 h0_pages h0_steps h0_reason gl aw h0_codes_r ce sk h0_height fb fs ff fl h0_frameCount lb lh h0_labelCount h0_at aw law sk csk gsk))) (va_Qv (fun (u : (Nat → Int64) × Int32 × Int32 × Int32) => match u with | (gsk2, h0_height2, h0_pages2, h0_reason2) => (0 ≤ h0_height2.toInt ∧ h0_height2.toInt ≤ 12096) ∧ (0 ≤ h0_pages2.toInt ∧ h0_pages2.toInt ≤ 2) ∧ (0 ≤ h0_reason2.toInt ∧ h0_reason2.toInt ≤ 14) ∧ ((h0_reason2.toInt = 0 → h0_height2.toInt = h0_height.toInt))) (at_MA_grow dC dI h0 gl aw h0_codes_r ce sk fb fs ff fl lb lh csk h0_steps h0_frameCount h0_labelCount h0_at law aw_pagesMost (va_A (wz_20 h0 h0_pages h0_steps h0_reason gl aw h0_codes_r ce sk h0_height fb fs ff fl h0_frameCount lb lh h0_labelCount h0_at aw law sk csk gsk) sz)) (va_A (wz_20 h0 h0_pages h0_steps h0_reason gl aw h0_codes_r ce sk h0_height fb fs ff fl h0_frameCount lb lh h0_labelCount h0_at aw law sk csk gsk) sz)) 0 0 (va_A (wz_20 h0 h0_pages h0_steps h0_reason gl aw h0_codes_r ce sk h0_height fb fs ff fl h0_frameCount lb lh h0_labelCount h0_at aw law sk csk gsk) sz) := by
  refine Met.ofW (cc := b_MA_grow) (maxL := 5) (ret := none) (by decide) rfl ?_
  intro p e s m args below meth c s₁ B hml hv
  obtain ⟨rfl, hsz, hP, hK, hD0⟩ := hv
  have hx := B.exec
  have hb := B.bytes
  have hr := B.returns
  have hts0 := atoms_spec (ws := w_MA_grow) B.pre
  have hts : ∀ w ∈ lw_g, w.before _ s = true := fun w h => hts0 w (List.mem_cons_of_mem _ h)
  have hown : s.vm.findClass R_MA = some m.cls := findClass_of_methodNamed B.named
  have hlocks := B.notSynchronized
  clear hts0
  subst hsz
  have hD := hD0.self (sz := s.heap.size)
  generalize hAe : va_A (wz_20 h0 h0_pages h0_steps h0_reason gl aw h0_codes_r ce sk h0_height fb fs ff fl h0_frameCount lb lh h0_labelCount h0_at aw law sk csk gsk) s.heap.size = A at hD ⊢
  have hA : ∀ q : Nat, s.heap.size ≤ q → A q := fun q h => by rw [← hAe]; exact Or.inr h
  clear hAe
  have hP : va_P (dC, dI) cls (wz_20 h0 h0_pages h0_steps h0_reason gl aw h0_codes_r ce sk h0_height fb fs ff fl h0_frameCount lb lh h0_labelCount h0_at aw law sk csk gsk) s.heap := hP
  have hl := lv_entry ([.ref h0]) (n := 5) (Nat.le_of_ble_eq_true rfl)
  rw [lg_entry_eq]
  generalize (lg_sl ([.ref h0]) ++ List.replicate (5 - (lg_sl ([.ref h0])).length) Slot.unset).toArray = ls at hl ⊢
  have hl : lv_has ls 5 [(0, .ref h0)] := hl
  have k0 : (0 : Int32).toInt = 0 := by decide
  refine w_gen (A := A) hP (fun H locs hP hS => ?_)
  refine lv_aload_n hx hb d_MA_grow_0 rfl (lv_at hl 0 rfl) ?_
  have hPc := hP.sb (wq := (wz_17 h0 h0_pages h0_steps h0_reason gl aw h0_codes_r ce sk h0_height fb fs ff fl h0_frameCount lb lh h0_labelCount h0_at sk csk gsk)) [0, 2] rfl
  have hDc := hD.sb (wq := (wz_17 h0 h0_pages h0_steps h0_reason gl aw h0_codes_r ce sk h0_height fb fs ff fl h0_frameCount lb lh h0_labelCount h0_at sk csk gsk)) [0, 2] (by decide) rfl
  have hKc := hK.sb (tyq := [(csk, .long)]) [0] rfl
  have hFc := va_free (wc := (wz_17 h0 h0_pages h0_steps h0_reason gl aw h0_codes_r ce sk h0_height fb fs ff fl h0_frameCount lb lh h0_labelCount h0_at sk csk gsk)) hD hS hA [0, 2] rfl
  refine va_calll (va_runV (As := []) (rest := []) ⟨hx, hb, hml, hown, hts⟩ (c_MA_pop l dC dI H.size h0 gl aw h0_codes_r ce sk fb fs ff fl lb lh csk h0_pages h0_steps h0_reason h0_height h0_frameCount h0_labelCount h0_at gsk (b_h0_height)) (cwV 0 hts (gV kM_MA_142 kV_MA_pop kS_MA_pop kI_MA kC_MA_pop) rfl rfl rfl (by decide +kernel) ⟨Nat.le_of_ble_eq_true rfl, Nat.le_of_ble_eq_true rfl⟩) ⟨fun a U g mk z => by obtain ⟨z0, z1, zP, zK, zD⟩ := z; exact ⟨z0, z1, zP, va_K.moved (u := U) (U := U.calling g mk a) (Vm.Alike.refl U.vm) zK, zD⟩, va_recv hKc hPc (ci := 4) (q0 := 0) rfl rfl, fun U hU hW => ⟨rfl, by rw [hU], va_P.he hU.symm hPc, va_K.moved hW.alike hKc, hDc.weaken (fun _ _ _ _ => trivial)⟩⟩ rfl rfl hl.1 rfl (lv_room (Nat.le_of_ble_eq_true rfl)) d_MA_grow_1 ⟨(Nat.zero_le _), (Nat.zero_le _)⟩) hS (fun q _ h => hFc q h) hFc (fun r1 u t H1 locs ht hvm hw hB hz1 hk1 hS => ?_)
  obtain ⟨n2, rfl⟩ : ∃ z, z = u := ⟨_, rfl⟩
  try dsimp only at hw
  obtain ⟨bn2, xr1⟩ := hw
  try clear hw
  obtain ⟨hP1, hK1, hD1⟩ := hB
  replace hP1 := va_P.he ht hP1
  obtain ⟨hP, hD⟩ := va_join (wr := [(aw, .inr (10, law))]) (w1 := (wz_17 h0 h0_pages h0_steps h0_reason gl aw h0_codes_r ce sk n2 fb fs ff fl h0_frameCount lb lh h0_labelCount h0_at sk csk gsk)) hP hD [0, 2] [1] rfl rfl (by decide) (by decide) hk1 hFc hP1 hD1
  clear hPc hDc hKc hFc hz1 hk1 hP1 hK1 hD1
  rename Heap => H
  have hP : va_P (dC, dI) cls (wz_21 aw law h0 h0_pages h0_steps h0_reason gl aw h0_codes_r ce sk n2 fb fs ff fl h0_frameCount lb lh h0_labelCount h0_at sk csk gsk) H := hP
  have hD : va_D A (wz_21 aw law h0 h0_pages h0_steps h0_reason gl aw h0_codes_r ce sk n2 fb fs ff fl h0_frameCount lb lh h0_labelCount h0_at sk csk gsk) := hD
  refine lv_ldc2 hx hb hown (hts _ kL_MA_162) d_MA_grow_4 ?_
  refine lv_topl (fun x3 ex3 => ?_)
  have tx3 : x3.toInt = 4294967295 := by rw [ex3]; decide
  refine lv_land hx hb d_MA_grow_7 ?_
  refine lv_topl (fun x4 ex4 => ?_)
  have tx4 := i64_and32 r1
  rw [show (4294967295 : Int64) = x3 from ex3.symm, ← ex4] at tx4
  refine lv_lstore_n (lv' := [(1, .long x4), (0, .ref h0)]) hx hb d_MA_grow_8 rfl hl (by decide) rfl (fun ls hl => ?_)
  refine lv_aload_n hx hb d_MA_grow_9 rfl (lv_at hl 1 rfl) ?_
  refine va_get (D := (dC, dI)) (ci := 4) (v := .ref aw) (C := R_MA) (T := F_MA) (N := 18) hx hb hts i_MA hown hK hP 1 rfl rfl 4 (by decide) (hts _ kF_MA_40) (fun _ h9 => h9) rfl d_MA_grow_10 ?_
  refine va_get (D := (dC, dI)) (ci := 10) (v := .long aw_pagesMost) (C := R_WA) (T := F_WA) (N := 21) hx hb hts i_WA hown hK hP 0 rfl rfl 10 (by decide) (hts _ kF_MA_213) (fun _ h9 => h9) paw_10 d_MA_grow_13 ?_
  refine lv_lconst (v := 0) hx hb d_MA_grow_16 (by decide) ?_
  have kl0 : (0 : Int64).toInt = 0 := by decide
  refine W.lcmp hx hb d_MA_grow_17 ?_
  refine lv_topi (fun x5 ex5 => ?_)
  have tx5 := lgc ex5
  refine w_cut (pc2 := 40) (σ := Int64) (fun u H locs ls => match u with | j40_s0 => (j40_s0.toInt ≤ 2) ∧ va_P (dC, dI) cls (wz_21 aw law h0 h0_pages h0_steps h0_reason gl aw h0_codes_r ce sk n2 fb fs ff fl h0_frameCount lb lh h0_labelCount h0_at sk csk gsk) H ∧ va_D A (wz_21 aw law h0 h0_pages h0_steps h0_reason gl aw h0_codes_r ce sk n2 fb fs ff fl h0_frameCount lb lh h0_labelCount h0_at sk csk gsk) ∧ va_S A s.heap H locs ∧ lv_has ls 5 [(0, .ref h0), (1, .long x4)]) (fun u => match u with | j40_s0 => [.long j40_s0]) ?_ (fun jn40 => ?_)
  · intro u H locs ls hI
    obtain ⟨j40_s0, rfl⟩ : ∃ z, z = u := ⟨_, rfl⟩
    obtain ⟨b_j40_s0, hP, hD, hS, hl⟩ := hI
    refine lv_lstore_n (lv' := [(3, .long j40_s0), (0, .ref h0), (1, .long x4)]) hx hb d_MA_grow_40 rfl hl (by decide) rfl (fun ls hl => ?_)
    refine lv_aload_n hx hb d_MA_grow_41 rfl (lv_at hl 1 rfl) ?_
    refine va_get (D := (dC, dI)) (ci := 4) (v := .int h0_pages) (C := R_MA) (T := F_MA) (N := 18) hx hb hts i_MA hown hK hP 1 rfl rfl 0 (by decide) (hts _ kF_MA_55) (fun _ h9 => h9) rfl d_MA_grow_42 ?_
    refine lv_i2l hx hb d_MA_grow_45 rfl ?_
    refine lv_topl (fun x6 ex6 => ?_)
    have tx6 := i2l_t ex6
    refine lv_lload_n hx hb d_MA_grow_46 rfl (lv_at hl 2 rfl) ?_
    refine lv_ladd hx hb d_MA_grow_47 ?_
    refine lv_topl (fun x7 ex7 => ?_)
    have tx7 : x7.toInt = x6.toInt + x4.toInt := by have z := i64_add ex7 (by (first | (apply Int.le_antisymm <;> omega) | omega)) (by (first | (apply Int.le_antisymm <;> omega) | omega)); first | exact z | (first | (apply Int.le_antisymm <;> omega) | omega)
    refine lv_lload_n hx hb d_MA_grow_48 rfl (lv_at hl 0 rfl) ?_
    refine W.lcmp hx hb d_MA_grow_49 ?_
    refine lv_topi (fun x8 ex8 => ?_)
    have tx8 := lgc ex8
    refine lv_if_le (tgt := 63) hx hb d_MA_grow_50 (by decide) (fun c50 => ?_) (fun c50 => ?_)
    · have q50 := leI c50
      refine lv_aload_n hx hb d_MA_grow_63 rfl (lv_at hl 1 rfl) ?_
      refine lv_aload_n hx hb d_MA_grow_64 rfl (lv_at hl 1 rfl) ?_
      refine va_get (D := (dC, dI)) (ci := 4) (v := .int h0_pages) (C := R_MA) (T := F_MA) (N := 18) hx hb hts i_MA hown hK hP 1 rfl rfl 0 (by decide) (hts _ kF_MA_55) (fun _ h9 => h9) rfl d_MA_grow_65 ?_
      refine lv_i2l hx hb d_MA_grow_68 rfl ?_
      refine lv_topl (fun x9 ex9 => ?_)
      have tx9 := i2l_t ex9
      have hPc := hP.sb (wq := (wz_17 h0 h0_pages h0_steps h0_reason gl aw h0_codes_r ce sk n2 fb fs ff fl h0_frameCount lb lh h0_labelCount h0_at sk csk gsk)) [1, 2] rfl
      have hDc := hD.sb (wq := (wz_17 h0 h0_pages h0_steps h0_reason gl aw h0_codes_r ce sk n2 fb fs ff fl h0_frameCount lb lh h0_labelCount h0_at sk csk gsk)) [1, 2] (by decide) rfl
      have hKc := hK.sb (tyq := [(csk, .long)]) [0] rfl
      have hFc := va_free (wc := (wz_17 h0 h0_pages h0_steps h0_reason gl aw h0_codes_r ce sk n2 fb fs ff fl h0_frameCount lb lh h0_labelCount h0_at sk csk gsk)) hD hS hA [1, 2] rfl
      refine va_callv (va_runV (As := [.long x9]) (rest := []) ⟨hx, hb, hml, hown, hts⟩ (c_MA_push l dC dI H.size h0 gl aw h0_codes_r ce sk fb fs ff fl lb lh csk h0_pages h0_steps h0_reason n2 h0_frameCount h0_labelCount h0_at gsk (b_h0_reason) (bn2) x9) (cwV 1 hts (gV kM_MA_94 kV_MA_push kS_MA_push kI_MA kC_MA_push) rfl rfl rfl (by decide +kernel) ⟨Nat.le_of_ble_eq_true rfl, Nat.le_of_ble_eq_true rfl⟩) ⟨fun a U g mk z => by obtain ⟨z0, z1, zP, zK, zD⟩ := z; exact ⟨z0, z1, zP, va_K.moved (u := U) (U := U.calling g mk a) (Vm.Alike.refl U.vm) zK, zD⟩, va_recv hKc hPc (ci := 4) (q0 := 0) rfl rfl, fun U hU hW => ⟨rfl, by rw [hU], va_P.he hU.symm hPc, va_K.moved hW.alike hKc, hDc.weaken (fun _ _ _ _ => trivial)⟩⟩ rfl rfl hl.1 rfl (lv_room (Nat.le_of_ble_eq_true rfl)) d_MA_grow_69 ⟨(Nat.zero_le _), (Nat.zero_le _)⟩) hS (fun q _ h => hFc q h) hFc (fun u t H1 locs ht hvm hw hB hz1 hk1 hS => ?_)
      obtain ⟨n11, n12, n13⟩ := u
      try dsimp only at hw
      obtain ⟨bn12, bn13, xr10⟩ := hw
      try clear hw
      obtain ⟨hP1, hK1, hD1⟩ := hB
      replace hP1 := va_P.he ht hP1
      obtain ⟨hP, hD⟩ := va_join (wr := [(aw, .inr (10, law))]) (w1 := (wz_17 h0 h0_pages h0_steps n13 gl aw h0_codes_r ce sk n12 fb fs ff fl h0_frameCount lb lh h0_labelCount h0_at sk csk n11)) hP hD [1, 2] [0] rfl rfl (by decide) (by decide) hk1 hFc hP1 hD1
      clear hPc hDc hKc hFc hz1 hk1 hP1 hK1 hD1
      rename Heap => H
      have hP : va_P (dC, dI) cls (wz_21 aw law h0 h0_pages h0_steps n13 gl aw h0_codes_r ce sk n12 fb fs ff fl h0_frameCount lb lh h0_labelCount h0_at sk csk n11) H := hP
      have hD : va_D A (wz_21 aw law h0 h0_pages h0_steps n13 gl aw h0_codes_r ce sk n12 fb fs ff fl h0_frameCount lb lh h0_labelCount h0_at sk csk n11) := hD
      refine lv_aload_n hx hb d_MA_grow_72 rfl (lv_at hl 1 rfl) ?_
      refine lv_dup hx hb d_MA_grow_73 rfl ?_
      refine va_get (D := (dC, dI)) (ci := 4) (v := .int h0_pages) (C := R_MA) (T := F_MA) (N := 18) hx hb hts i_MA hown hK hP 1 rfl rfl 0 (by decide) (hts _ kF_MA_55) (fun _ h9 => h9) rfl d_MA_grow_74 ?_
      refine lv_lload_n hx hb d_MA_grow_77 rfl (lv_at hl 2 rfl) ?_
      refine lv_l2i hx hb d_MA_grow_78 rfl ?_
      refine lv_topi (fun x14 ex14 => ?_)
      have tx14 := l2i_t ex14 (by (first | (apply Int.le_antisymm <;> omega) | omega)) (by (first | (apply Int.le_antisymm <;> omega) | omega))
      refine lv_iadd hx hb d_MA_grow_79 ?_
      refine lv_topi (fun x15 ex15 => ?_)
      have tx15 : x15.toInt = h0_pages.toInt + x14.toInt := by have z := i32_add ex15 (by (first | (apply Int.le_antisymm <;> omega) | omega)) (by (first | (apply Int.le_antisymm <;> omega) | omega)); first | exact z | (first | (apply Int.le_antisymm <;> omega) | omega)
      refine va_put (D := (dC, dI)) (ci := 4) (v := .int x15) (ty := .int) (C := R_MA) (T := F_MA) (N := 18) hx hb hts i_MA t_MA t_MA_ok n_MA hown hK hP hD hS 1 rfl rfl 0 (by decide) (hts _ kF_MA_55) (fun _ h9 => h9) rfl (by decide +kernel) rfl rfl (Nat.le_of_ble_eq_true rfl) d_MA_grow_80 (fun H locs hP hD hS => ?_)
      have hP9 := hP.sb (wq := (wz_20 h0 x15 h0_steps n13 gl aw h0_codes_r ce sk n12 fb fs ff fl h0_frameCount lb lh h0_labelCount h0_at aw law sk csk n11)) [1, 0, 2] rfl
      have hD9 := hD.sb (wq := (wz_20 h0 x15 h0_steps n13 gl aw h0_codes_r ce sk n12 fb fs ff fl h0_frameCount lb lh h0_labelCount h0_at aw law sk csk n11)) [1, 0, 2] (by decide) rfl
      exact W.vret hx hb hr (fun t ht hW => ⟨⟨(n11, n12, x15, n13), rfl, ⟨bn12, by (try dsimp only); (first | (apply Int.le_antisymm <;> omega) | omega), bn13, by (try dsimp only); (first | (apply Int.le_antisymm <;> omega) | omega)⟩, va_P.he ht.symm hP9, va_K.moved hW.alike hK, hD9⟩, hS.F ht⟩) hS.2.2 d_MA_grow_83
    · have q50 := nleI c50
      refine lv_aload_n hx hb d_MA_grow_53 rfl (lv_at hl 1 rfl) ?_
      refine lv_ldc2 hx hb hown (hts _ kL_MA_218) d_MA_grow_54 ?_
      refine lv_topl (fun x16 ex16 => ?_)
      have tx16 : x16.toInt = -1 := by rw [ex16]; decide
      have hPc := hP.sb (wq := (wz_17 h0 h0_pages h0_steps h0_reason gl aw h0_codes_r ce sk n2 fb fs ff fl h0_frameCount lb lh h0_labelCount h0_at sk csk gsk)) [1, 2] rfl
      have hDc := hD.sb (wq := (wz_17 h0 h0_pages h0_steps h0_reason gl aw h0_codes_r ce sk n2 fb fs ff fl h0_frameCount lb lh h0_labelCount h0_at sk csk gsk)) [1, 2] (by decide) rfl
      have hKc := hK.sb (tyq := [(csk, .long)]) [0] rfl
      have hFc := va_free (wc := (wz_17 h0 h0_pages h0_steps h0_reason gl aw h0_codes_r ce sk n2 fb fs ff fl h0_frameCount lb lh h0_labelCount h0_at sk csk gsk)) hD hS hA [1, 2] rfl
      refine va_callv (va_runV (As := [.long x16]) (rest := []) ⟨hx, hb, hml, hown, hts⟩ (c_MA_push l dC dI H.size h0 gl aw h0_codes_r ce sk fb fs ff fl lb lh csk h0_pages h0_steps h0_reason n2 h0_frameCount h0_labelCount h0_at gsk (b_h0_reason) (bn2) x16) (cwV 1 hts (gV kM_MA_94 kV_MA_push kS_MA_push kI_MA kC_MA_push) rfl rfl rfl (by decide +kernel) ⟨Nat.le_of_ble_eq_true rfl, Nat.le_of_ble_eq_true rfl⟩) ⟨fun a U g mk z => by obtain ⟨z0, z1, zP, zK, zD⟩ := z; exact ⟨z0, z1, zP, va_K.moved (u := U) (U := U.calling g mk a) (Vm.Alike.refl U.vm) zK, zD⟩, va_recv hKc hPc (ci := 4) (q0 := 0) rfl rfl, fun U hU hW => ⟨rfl, by rw [hU], va_P.he hU.symm hPc, va_K.moved hW.alike hKc, hDc.weaken (fun _ _ _ _ => trivial)⟩⟩ rfl rfl hl.1 rfl (lv_room (Nat.le_of_ble_eq_true rfl)) d_MA_grow_57 ⟨(Nat.zero_le _), (Nat.zero_le _)⟩) hS (fun q _ h => hFc q h) hFc (fun u t H1 locs ht hvm hw hB hz1 hk1 hS => ?_)
      obtain ⟨n18, n19, n20⟩ := u
      try dsimp only at hw
      obtain ⟨bn19, bn20, xr17⟩ := hw
      try clear hw
      obtain ⟨hP1, hK1, hD1⟩ := hB
      replace hP1 := va_P.he ht hP1
      obtain ⟨hP, hD⟩ := va_join (wr := [(aw, .inr (10, law))]) (w1 := (wz_17 h0 h0_pages h0_steps n20 gl aw h0_codes_r ce sk n19 fb fs ff fl h0_frameCount lb lh h0_labelCount h0_at sk csk n18)) hP hD [1, 2] [0] rfl rfl (by decide) (by decide) hk1 hFc hP1 hD1
      clear hPc hDc hKc hFc hz1 hk1 hP1 hK1 hD1
      rename Heap => H
      have hP : va_P (dC, dI) cls (wz_21 aw law h0 h0_pages h0_steps n20 gl aw h0_codes_r ce sk n19 fb fs ff fl h0_frameCount lb lh h0_labelCount h0_at sk csk n18) H := hP
      have hD : va_D A (wz_21 aw law h0 h0_pages h0_steps n20 gl aw h0_codes_r ce sk n19 fb fs ff fl h0_frameCount lb lh h0_labelCount h0_at sk csk n18) := hD
      refine lv_goto (tgt := 83) hx hb d_MA_grow_60 (by decide) ?_
      have hP9 := hP.sb (wq := (wz_20 h0 h0_pages h0_steps n20 gl aw h0_codes_r ce sk n19 fb fs ff fl h0_frameCount lb lh h0_labelCount h0_at aw law sk csk n18)) [1, 0, 2] rfl
      have hD9 := hD.sb (wq := (wz_20 h0 h0_pages h0_steps n20 gl aw h0_codes_r ce sk n19 fb fs ff fl h0_frameCount lb lh h0_labelCount h0_at aw law sk csk n18)) [1, 0, 2] (by decide) rfl
      exact W.vret hx hb hr (fun t ht hW => ⟨⟨(n18, n19, h0_pages, n20), rfl, ⟨bn19, b_h0_pages, bn20, by (try dsimp only); (first | (apply Int.le_antisymm <;> omega) | omega)⟩, va_P.he ht.symm hP9, va_K.moved hW.alike hK, hD9⟩, hS.F ht⟩) hS.2.2 d_MA_grow_83
  · skip
    refine lv_if_ge (tgt := 27) hx hb d_MA_grow_18 (by decide) (fun c18 => ?_) (fun c18 => ?_)
    · have q18 := leI c18
      refine lv_ldc2 hx hb hown (hts _ kL_MA_216) d_MA_grow_27 ?_
      refine lv_topl (fun x21 ex21 => ?_)
      have tx21 : x21.toInt = 2 := by rw [ex21]; decide
      refine lv_aload_n hx hb d_MA_grow_30 rfl (lv_at hl 1 rfl) ?_
      refine va_get (D := (dC, dI)) (ci := 4) (v := .ref aw) (C := R_MA) (T := F_MA) (N := 18) hx hb hts i_MA hown hK hP 1 rfl rfl 4 (by decide) (hts _ kF_MA_40) (fun _ h9 => h9) rfl d_MA_grow_31 ?_
      refine va_get (D := (dC, dI)) (ci := 10) (v := .long aw_pagesMost) (C := R_WA) (T := F_WA) (N := 21) hx hb hts i_WA hown hK hP 0 rfl rfl 10 (by decide) (hts _ kF_MA_213) (fun _ h9 => h9) paw_10 d_MA_grow_34 ?_
      refine va_mmin_long hx hb (hml.trans hl.1.symm) hown (hts _ kM_MA_167) (hts _ kT_JM_min1) (hts _ kI_JM) (hts _ kC_JM_min1) (Nat.le_of_ble_eq_true rfl) (Nat.le_of_ble_eq_true rfl) (Nat.zero_le _) (Nat.zero_le _) d_MA_grow_37 ?_
      refine lv_topl (fun x22 ex22 => ?_)
      have tx22 := min64 ex22
      exact jn40 x22 _ _ _ ⟨by (try dsimp only); (first | (apply Int.le_antisymm <;> omega) | omega), hP, hD, hS, lv_sub hl [1, 0] rfl⟩
    · have q18 := nleI c18
      refine lv_ldc2 hx hb hown (hts _ kL_MA_216) d_MA_grow_21 ?_
      refine lv_topl (fun x23 ex23 => ?_)
      have tx23 : x23.toInt = 2 := by rw [ex23]; decide
      refine lv_goto (tgt := 40) hx hb d_MA_grow_24 (by decide) ?_
      exact jn40 x23 _ _ _ ⟨by (try dsimp only); (first | (apply Int.le_antisymm <;> omega) | omega), hP, hD, hS, lv_sub hl [1, 0] rfl⟩
abbrev b_MA_performMemory : ByteArray := prog_6_method_15_code
def y_MA_performMemory : MethodName := ⟨R_MA, "performMemory", "(IJ)V"⟩
abbrev w_MA_performMemory : List Cond := .code y_MA_performMemory b_MA_performMemory 9 none :: lw_g
theorem kC_MA_performMemory : Cond.code y_MA_performMemory b_MA_performMemory 9 none ∈ lw_g := in_c7 159 rfl rfl
theorem d_MA_performMemory_0 : decode b_MA_performMemory 0 = .ok (.iload_n 1, 1) := bz_c27 (by decide +kernel)
theorem d_MA_performMemory_1 : decode b_MA_performMemory 1 = .ok (.bipush 63, 2) := bz_c16 (by decide +kernel)
theorem d_MA_performMemory_3 : decode b_MA_performMemory 3 = .ok (.if_icmp .ne 13, 3) := bz_c160 (by decide +kernel)
theorem d_MA_performMemory_6 : decode b_MA_performMemory 6 = .ok (.aload_n 0, 1) := bz_c42 (by decide +kernel)
theorem d_MA_performMemory_7 : decode b_MA_performMemory 7 = .ok (.aload_n 0, 1) := bz_c42 (by decide +kernel)
theorem d_MA_performMemory_8 : decode b_MA_performMemory 8 = .ok (.getfield 55, 3) := bz_c180 (by decide +kernel)
theorem d_MA_performMemory_11 : decode b_MA_performMemory 11 = .ok (.i2l, 1) := bz_c133 (by decide +kernel)
theorem d_MA_performMemory_12 : decode b_MA_performMemory 12 = .ok (.invokevirtual 94, 3) := bz_c182 (by decide +kernel)
theorem d_MA_performMemory_15 : decode b_MA_performMemory 15 = .ok (.return_, 1) := bz_c177 (by decide +kernel)
theorem d_MA_performMemory_16 : decode b_MA_performMemory 16 = .ok (.iload_n 1, 1) := bz_c27 (by decide +kernel)
theorem d_MA_performMemory_17 : decode b_MA_performMemory 17 = .ok (.bipush 64, 2) := bz_c16 (by decide +kernel)
theorem d_MA_performMemory_19 : decode b_MA_performMemory 19 = .ok (.if_icmp .ne 8, 3) := bz_c160 (by decide +kernel)
theorem d_MA_performMemory_22 : decode b_MA_performMemory 22 = .ok (.aload_n 0, 1) := bz_c42 (by decide +kernel)
theorem d_MA_performMemory_23 : decode b_MA_performMemory 23 = .ok (.invokevirtual 194, 3) := bz_c182 (by decide +kernel)
theorem d_MA_performMemory_26 : decode b_MA_performMemory 26 = .ok (.return_, 1) := bz_c177 (by decide +kernel)
theorem d_MA_performMemory_27 : decode b_MA_performMemory 27 = .ok (.iload_n 1, 1) := bz_c27 (by decide +kernel)
theorem d_MA_performMemory_28 : decode b_MA_performMemory 28 = .ok (.invokestatic 197, 3) := bz_c184 (by decide +kernel)
theorem d_MA_performMemory_31 : decode b_MA_performMemory 31 = .ok (.ifCond .eq 10, 3) := bz_c153 (by decide +kernel)
theorem d_MA_performMemory_34 : decode b_MA_performMemory 34 = .ok (.aload_n 0, 1) := bz_c42 (by decide +kernel)
theorem d_MA_performMemory_35 : decode b_MA_performMemory 35 = .ok (.invokevirtual 142, 3) := bz_c182 (by decide +kernel)
theorem d_MA_performMemory_38 : decode b_MA_performMemory 38 = .ok (.goto 4, 3) := bz_c167 (by decide +kernel)
theorem d_MA_performMemory_41 : decode b_MA_performMemory 41 = .ok (.lconst 0, 1) := bz_c9 (by decide +kernel)
theorem d_MA_performMemory_42 : decode b_MA_performMemory 42 = .ok (.lstore 4, 2) := bz_c55 (by decide +kernel)
theorem d_MA_performMemory_44 : decode b_MA_performMemory 44 = .ok (.aload_n 0, 1) := bz_c42 (by decide +kernel)
theorem d_MA_performMemory_45 : decode b_MA_performMemory 45 = .ok (.invokevirtual 142, 3) := bz_c182 (by decide +kernel)
theorem d_MA_performMemory_48 : decode b_MA_performMemory 48 = .ok (.ldc2_w 162, 3) := bz_c20 (by decide +kernel)
theorem d_MA_performMemory_51 : decode b_MA_performMemory 51 = .ok (.land, 1) := bz_c127 (by decide +kernel)
theorem d_MA_performMemory_52 : decode b_MA_performMemory 52 = .ok (.lload_n 2, 1) := bz_c32 (by decide +kernel)
theorem d_MA_performMemory_53 : decode b_MA_performMemory 53 = .ok (.ladd, 1) := bz_c97 (by decide +kernel)
theorem d_MA_performMemory_54 : decode b_MA_performMemory 54 = .ok (.lstore 6, 2) := bz_c55 (by decide +kernel)
theorem d_MA_performMemory_56 : decode b_MA_performMemory 56 = .ok (.iload_n 1, 1) := bz_c27 (by decide +kernel)
theorem d_MA_performMemory_57 : decode b_MA_performMemory 57 = .ok (.invokestatic 200, 3) := bz_c184 (by decide +kernel)
theorem d_MA_performMemory_60 : decode b_MA_performMemory 60 = .ok (.istore 8, 2) := bz_c54 (by decide +kernel)
theorem d_MA_performMemory_62 : decode b_MA_performMemory 62 = .ok (.lload 6, 2) := bz_c22 (by decide +kernel)
theorem d_MA_performMemory_64 : decode b_MA_performMemory 64 = .ok (.iload 8, 2) := bz_c21 (by decide +kernel)
theorem d_MA_performMemory_66 : decode b_MA_performMemory 66 = .ok (.i2l, 1) := bz_c133 (by decide +kernel)
theorem d_MA_performMemory_67 : decode b_MA_performMemory 67 = .ok (.ladd, 1) := bz_c97 (by decide +kernel)
theorem d_MA_performMemory_68 : decode b_MA_performMemory 68 = .ok (.aload_n 0, 1) := bz_c42 (by decide +kernel)
theorem d_MA_performMemory_69 : decode b_MA_performMemory 69 = .ok (.getfield 55, 3) := bz_c180 (by decide +kernel)
theorem d_MA_performMemory_72 : decode b_MA_performMemory 72 = .ok (.i2l, 1) := bz_c133 (by decide +kernel)
theorem d_MA_performMemory_73 : decode b_MA_performMemory 73 = .ok (.ldc2_w 203, 3) := bz_c20 (by decide +kernel)
theorem d_MA_performMemory_76 : decode b_MA_performMemory 76 = .ok (.lmul, 1) := by decide +kernel
theorem d_MA_performMemory_77 : decode b_MA_performMemory 77 = .ok (.lcmp, 1) := bz_c148 (by decide +kernel)
theorem d_MA_performMemory_78 : decode b_MA_performMemory 78 = .ok (.ifCond .le 12, 3) := bz_c158 (by decide +kernel)
theorem d_MA_performMemory_81 : decode b_MA_performMemory 81 = .ok (.aload_n 0, 1) := bz_c42 (by decide +kernel)
theorem d_MA_performMemory_82 : decode b_MA_performMemory 82 = .ok (.bipush 12, 2) := bz_c16 (by decide +kernel)
theorem d_MA_performMemory_84 : decode b_MA_performMemory 84 = .ok (.putfield 71, 3) := bz_c181 (by decide +kernel)
theorem d_MA_performMemory_87 : decode b_MA_performMemory 87 = .ok (.goto 48, 3) := bz_c167 (by decide +kernel)
theorem d_MA_performMemory_90 : decode b_MA_performMemory 90 = .ok (.iload_n 1, 1) := bz_c27 (by decide +kernel)
theorem d_MA_performMemory_91 : decode b_MA_performMemory 91 = .ok (.invokestatic 197, 3) := bz_c184 (by decide +kernel)
theorem d_MA_performMemory_94 : decode b_MA_performMemory 94 = .ok (.ifCond .eq 17, 3) := bz_c153 (by decide +kernel)
theorem d_MA_performMemory_97 : decode b_MA_performMemory 97 = .ok (.aload_n 0, 1) := bz_c42 (by decide +kernel)
theorem d_MA_performMemory_98 : decode b_MA_performMemory 98 = .ok (.lload 6, 2) := bz_c22 (by decide +kernel)
theorem d_MA_performMemory_100 : decode b_MA_performMemory 100 = .ok (.l2i, 1) := bz_c136 (by decide +kernel)
theorem d_MA_performMemory_101 : decode b_MA_performMemory 101 = .ok (.iload 8, 2) := bz_c21 (by decide +kernel)
theorem d_MA_performMemory_103 : decode b_MA_performMemory 103 = .ok (.lload 4, 2) := bz_c22 (by decide +kernel)
theorem d_MA_performMemory_105 : decode b_MA_performMemory 105 = .ok (.invokevirtual 205, 3) := bz_c182 (by decide +kernel)
theorem d_MA_performMemory_108 : decode b_MA_performMemory 108 = .ok (.goto 27, 3) := bz_c167 (by decide +kernel)
theorem d_MA_performMemory_111 : decode b_MA_performMemory 111 = .ok (.aload_n 0, 1) := bz_c42 (by decide +kernel)
theorem d_MA_performMemory_112 : decode b_MA_performMemory 112 = .ok (.aload_n 0, 1) := bz_c42 (by decide +kernel)
theorem d_MA_performMemory_113 : decode b_MA_performMemory 113 = .ok (.lload 6, 2) := bz_c22 (by decide +kernel)
theorem d_MA_performMemory_115 : decode b_MA_performMemory 115 = .ok (.l2i, 1) := bz_c136 (by decide +kernel)
theorem d_MA_performMemory_116 : decode b_MA_performMemory 116 = .ok (.iload 8, 2) := bz_c21 (by decide +kernel)
theorem d_MA_performMemory_118 : decode b_MA_performMemory 118 = .ok (.iload_n 1, 1) := bz_c27 (by decide +kernel)
theorem d_MA_performMemory_119 : decode b_MA_performMemory 119 = .ok (.bipush 45, 2) := bz_c16 (by decide +kernel)
theorem d_MA_performMemory_121 : decode b_MA_performMemory 121 = .ok (.if_icmp .ne 7, 3) := bz_c160 (by decide +kernel)
theorem d_MA_performMemory_124 : decode b_MA_performMemory 124 = .ok (.iconst 1, 1) := bz_c4 (by decide +kernel)
theorem d_MA_performMemory_125 : decode b_MA_performMemory 125 = .ok (.goto 4, 3) := bz_c167 (by decide +kernel)
theorem d_MA_performMemory_128 : decode b_MA_performMemory 128 = .ok (.iconst 0, 1) := bz_c3 (by decide +kernel)
theorem d_MA_performMemory_129 : decode b_MA_performMemory 129 = .ok (.invokevirtual 209, 3) := bz_c182 (by decide +kernel)
theorem d_MA_performMemory_132 : decode b_MA_performMemory 132 = .ok (.invokevirtual 94, 3) := bz_c182 (by decide +kernel)
theorem d_MA_performMemory_135 : decode b_MA_performMemory 135 = .ok (.return_, 1) := bz_c177 (by decide +kernel)
theorem kM_MA_194 : Cond.methodLink R_MA 194 y_MA_grow ∈ lw_g := in_c7 160 rfl rfl
theorem kV_MA_grow : Cond.instanceMethod y_MA_grow ∈ lw_g := in_c7 162 rfl rfl
theorem kS_MA_grow : Cond.selects R_MA y_MA_grow y_MA_grow ∈ lw_g := in_s 112 (by decide +kernel) rfl
theorem kM_MA_197 : Cond.methodLink R_MA 197 y_CD_isStore ∈ lw_g := in_c7 166 rfl rfl
theorem kT_CD_isStore : Cond.static y_CD_isStore ∈ lw_g := in_c7 40 rfl rfl
theorem kM_MA_200 : Cond.methodLink R_MA 200 y_CD_accessBytes ∈ lw_g := in_c7 167 rfl rfl
theorem kM_MA_205 : Cond.methodLink R_MA 205 y_MA_store ∈ lw_g := in_c7 169 rfl rfl
theorem kV_MA_store : Cond.instanceMethod y_MA_store ∈ lw_g := in_c7 171 rfl rfl
theorem kS_MA_store : Cond.selects R_MA y_MA_store y_MA_store ∈ lw_g := in_s 113 (by decide +kernel) rfl
theorem kM_MA_209 : Cond.methodLink R_MA 209 y_MA_load0 ∈ lw_g := in_c7 174 rfl rfl
theorem kV_MA_load0 : Cond.instanceMethod y_MA_load0 ∈ lw_g := in_c7 176 rfl rfl
theorem kS_MA_load0 : Cond.selects R_MA y_MA_load0 y_MA_load0 ∈ lw_g := in_s 114 (by decide +kernel) rfl
theorem kL_MA_203 : Cond.constantLong R_MA 203 (65536) ∈ lw_g := in_c7 168 rfl rfl
abbrev at_MA_performMemory (dC : Nat → ClassId) (dI : Nat → Nat → Nat) (h0 gl aw h0_codes_r ce sk fb fs ff fl lb lh : Nat) (csk cce : ClassId) (h0_steps : Int32) (h0_frameCount : Int32) (h0_labelCount : Int32) (h0_at : Int32) (law : List Value) (aw_pagesMost : Int64) (A : Nat → Prop) (u : (Nat → Int64) × (Nat → Int64) × Int32 × Int32 × Int32) (t : State) : Prop := match u with | (gce, gsk, h0_height, h0_pages, h0_reason) => va_P (dC, dI) cls (wz_22 h0 h0_pages h0_steps h0_reason gl aw h0_codes_r ce sk h0_height fb fs ff fl h0_frameCount lb lh h0_labelCount h0_at aw law sk csk gsk ce cce gce) t.heap ∧ va_K (dC, dI) cls [(csk, .long), (cce, .long)] t ∧ va_D A (wz_22 h0 h0_pages h0_steps h0_reason gl aw h0_codes_r ce sk h0_height fb fs ff fl h0_frameCount lb lh h0_labelCount h0_at aw law sk csk gsk ce cce gce)
set_option maxHeartbeats 4000000 in
set_option maxRecDepth 100000 in
theorem c_MA_performMemory (l : Launch) (dC : Nat → ClassId) (dI : Nat → Nat → Nat) (sz : Nat) (h0 gl aw h0_codes_r ce sk fb fs ff fl lb lh : Nat) (csk cce : ClassId) (h0_pages : Int32) (h0_steps : Int32) (h0_reason : Int32) (h0_height : Int32) (h0_frameCount : Int32) (h0_labelCount : Int32) (h0_at : Int32) (law : List Value) (aw_pagesMost : Int64) (gsk : Nat → Int64) (gce : Nat → Int64) (paw_10 : law[10]? = some (.long aw_pagesMost)) (plaw : law.length = 21) (b_h0_pages : 0 ≤ h0_pages.toInt ∧ h0_pages.toInt ≤ 2) (b_h0_reason : 0 ≤ h0_reason.toInt ∧ h0_reason.toInt ≤ 14) (b_h0_height : 0 ≤ h0_height.toInt ∧ h0_height.toInt ≤ 12096) (p0 : Int32) (p1 : Int64)  (hr0 : h0_reason.toInt = 0) (hh : ((p0.toInt = 54 ∨ p0.toInt = 55 ∨ p0.toInt = 58) → 2 ≤ h0_height.toInt) ∧ (p0.toInt ≠ 63 → 1 ≤ h0_height.toInt)) : Met l y_MA_performMemory w_MA_performMemory ({ frames := 2, cells := 0, slots := 0, locals := 48 }) (va_Pc [.ref h0, .int p0, .long p1] (fun U => U.heap.size = sz ∧ va_P (dC, dI) cls (wz_22 h0 h0_pages h0_steps h0_reason gl aw h0_codes_r ce sk h0_height fb fs ff fl h0_frameCount lb lh h0_labelCount h0_at aw law sk csk gsk ce cce gce) U.heap ∧ va_K (dC, dI) cls [(csk, .long), (cce, .long)] U ∧ va_D (fun _ => True) (wz_22 h0 h0_pages h0_steps h0_reason gl aw h0_codes_r ce sk h0_height fb fs ff fl h0_frameCount lb lh h0_labelCount h0_at aw law sk csk gsk ce cce gce))) (va_Qv (fun (u : (Nat → Int64) × (Nat → Int64) × Int32 × Int32 × Int32) => match u with | (gce2, gsk2, h0_height2, h0_pages2, h0_reason2) => (0 ≤ h0_height2.toInt ∧ h0_height2.toInt ≤ 12096) ∧ (0 ≤ h0_pages2.toInt ∧ h0_pages2.toInt ≤ 2) ∧ (0 ≤ h0_reason2.toInt ∧ h0_reason2.toInt ≤ 14) ∧ ((h0_reason2.toInt = 0 → (p0.toInt = 63 → h0_height2.toInt = h0_height.toInt + 1) ∧ ((p0.toInt = 54 ∨ p0.toInt = 55 ∨ p0.toInt = 58) → h0_height2.toInt = h0_height.toInt - 2) ∧ (p0.toInt ≠ 63 → ¬ (p0.toInt = 54 ∨ p0.toInt = 55 ∨ p0.toInt = 58) → h0_height2.toInt = h0_height.toInt)))) (at_MA_performMemory dC dI h0 gl aw h0_codes_r ce sk fb fs ff fl lb lh csk cce h0_steps h0_frameCount h0_labelCount h0_at law aw_pagesMost (va_A (wz_22 h0 h0_pages h0_steps h0_reason gl aw h0_codes_r ce sk h0_height fb fs ff fl h0_frameCount lb lh h0_labelCount h0_at aw law sk csk gsk ce cce gce) sz)) (va_A (wz_22 h0 h0_pages h0_steps h0_reason gl aw h0_codes_r ce sk h0_height fb fs ff fl h0_frameCount lb lh h0_labelCount h0_at aw law sk csk gsk ce cce gce) sz)) 0 0 (va_A (wz_22 h0 h0_pages h0_steps h0_reason gl aw h0_codes_r ce sk h0_height fb fs ff fl h0_frameCount lb lh h0_labelCount h0_at aw law sk csk gsk ce cce gce) sz) := by
  refine Met.ofW (cc := b_MA_performMemory) (maxL := 9) (ret := none) (by decide) rfl ?_
  intro p e s m args below meth c s₁ B hml hv
  obtain ⟨rfl, hsz, hP, hK, hD0⟩ := hv
  have hx := B.exec
  have hb := B.bytes
  have hr := B.returns
  have hts0 := atoms_spec (ws := w_MA_performMemory) B.pre
  have hts : ∀ w ∈ lw_g, w.before _ s = true := fun w h => hts0 w (List.mem_cons_of_mem _ h)
  have hown : s.vm.findClass R_MA = some m.cls := findClass_of_methodNamed B.named
  have hlocks := B.notSynchronized
  clear hts0
  subst hsz
  have hD := hD0.self (sz := s.heap.size)
  generalize hAe : va_A (wz_22 h0 h0_pages h0_steps h0_reason gl aw h0_codes_r ce sk h0_height fb fs ff fl h0_frameCount lb lh h0_labelCount h0_at aw law sk csk gsk ce cce gce) s.heap.size = A at hD ⊢
  have hA : ∀ q : Nat, s.heap.size ≤ q → A q := fun q h => by rw [← hAe]; exact Or.inr h
  clear hAe
  have hP : va_P (dC, dI) cls (wz_22 h0 h0_pages h0_steps h0_reason gl aw h0_codes_r ce sk h0_height fb fs ff fl h0_frameCount lb lh h0_labelCount h0_at aw law sk csk gsk ce cce gce) s.heap := hP
  have hl := lv_entry ([.ref h0, .int p0, .long p1]) (n := 9) (Nat.le_of_ble_eq_true rfl)
  rw [lg_entry_eq]
  generalize (lg_sl ([.ref h0, .int p0, .long p1]) ++ List.replicate (9 - (lg_sl ([.ref h0, .int p0, .long p1])).length) Slot.unset).toArray = ls at hl ⊢
  have hl : lv_has ls 9 [(0, .ref h0), (1, .int p0), (2, .long p1)] := hl
  have k0 : (0 : Int32).toInt = 0 := by decide
  refine w_gen (A := A) hP (fun H locs hP hS => ?_)
  have k1 : (1 : Int32).toInt = 1 := by decide
  have k12 : (12 : Int32).toInt = 12 := by decide
  have k45 : (45 : Int32).toInt = 45 := by decide
  have k63 : (63 : Int32).toInt = 63 := by decide
  have k64 : (64 : Int32).toInt = 64 := by decide
  have lo_p0 := i32_lo p0
  have hi_p0 := i32_hi p0
  refine lv_iload_n hx hb d_MA_performMemory_0 rfl (lv_at hl 1 rfl) ?_
  refine lv_bipush (v := 63) hx hb d_MA_performMemory_1 (by decide) ?_
  refine lv_icmp_ne (tgt := 16) hx hb d_MA_performMemory_3 (by decide) (fun c3 => ?_) (fun c3 => ?_)
  · have q3 := neI c3
    refine lv_iload_n hx hb d_MA_performMemory_16 rfl (lv_at hl 1 rfl) ?_
    refine lv_bipush (v := 64) hx hb d_MA_performMemory_17 (by decide) ?_
    refine lv_icmp_ne (tgt := 27) hx hb d_MA_performMemory_19 (by decide) (fun c19 => ?_) (fun c19 => ?_)
    · have q19 := neI c19
      refine lv_iload_n hx hb d_MA_performMemory_27 rfl (lv_at hl 1 rfl) ?_
      have hPc := hP.sb (wq := []) [] rfl
      have hDc := hD.sb (wq := []) [] (by decide) rfl
      have hKc := hK.sb (tyq := []) [] rfl
      have hFc := va_free (wc := []) hD hS hA [] rfl
      refine va_calli (va_runS (As := [.int p0]) (rest := []) ⟨hx, hb, hml, hown, hts⟩ (c_CD_isStore l dC dI H.size p0) ⟨callB_of 1 hts (gW kC_CD_isStore) rfl rfl rfl (hts _ kI_CD) (hts _ kM_MA_197) (by decide +kernel) ⟨Nat.le_of_ble_eq_true rfl, Nat.le_of_ble_eq_true rfl⟩, hts _ kT_CD_isStore⟩ ⟨fun a U g mk z => by obtain ⟨z0, z1, zP, zK, zD⟩ := z; exact ⟨z0, z1, zP, va_K.moved (u := U) (U := U.calling g mk a) (Vm.Alike.refl U.vm) zK, zD⟩, fun U hU hW => ⟨rfl, by rw [hU], va_P.he hU.symm hPc, va_K.moved hW.alike hKc, hDc.weaken (fun _ _ _ _ => trivial)⟩⟩ rfl rfl hl.1 rfl (lv_room (Nat.le_of_ble_eq_true rfl)) d_MA_performMemory_28 ⟨(Nat.zero_le _), (Nat.zero_le _)⟩) hS (fun q _ h => hFc q h) hFc (fun r1 u t H1 locs ht hvm hw hB hz1 hk1 hS => ?_)
      try dsimp only at hw
      have tr1 := hw
      obtain ⟨hP1, hK1, hD1⟩ := hB
      replace hP1 := va_P.he ht hP1
      obtain ⟨hP, hD⟩ := va_join (wr := (wz_22 h0 h0_pages h0_steps h0_reason gl aw h0_codes_r ce sk h0_height fb fs ff fl h0_frameCount lb lh h0_labelCount h0_at aw law sk csk gsk ce cce gce)) (w1 := []) hP hD [] [0, 1, 2, 3] rfl rfl (by decide) (by decide) hk1 hFc hP1 hD1
      clear hPc hDc hKc hFc hz1 hk1 hP1 hK1 hD1
      rename Heap => H
      have hP : va_P (dC, dI) cls (wz_22 h0 h0_pages h0_steps h0_reason gl aw h0_codes_r ce sk h0_height fb fs ff fl h0_frameCount lb lh h0_labelCount h0_at aw law sk csk gsk ce cce gce) H := hP
      have hD : va_D A (wz_22 h0 h0_pages h0_steps h0_reason gl aw h0_codes_r ce sk h0_height fb fs ff fl h0_frameCount lb lh h0_labelCount h0_at aw law sk csk gsk ce cce gce) := hD
      refine w_cut (pc2 := 42) (σ := Int64 × Int32) (fun u H locs ls => match u with | (j42_s0, j42_h0_height) => (0 ≤ j42_h0_height.toInt ∧ j42_h0_height.toInt ≤ 12096) ∧ (((p0.toInt = 54 ∨ p0.toInt = 55 ∨ p0.toInt = 58) → j42_h0_height.toInt = h0_height.toInt - 1) ∧ (¬ (p0.toInt = 54 ∨ p0.toInt = 55 ∨ p0.toInt = 58) → j42_h0_height.toInt = h0_height.toInt)) ∧ va_P (dC, dI) cls (wz_22 h0 h0_pages h0_steps h0_reason gl aw h0_codes_r ce sk j42_h0_height fb fs ff fl h0_frameCount lb lh h0_labelCount h0_at aw law sk csk gsk ce cce gce) H ∧ va_D A (wz_22 h0 h0_pages h0_steps h0_reason gl aw h0_codes_r ce sk j42_h0_height fb fs ff fl h0_frameCount lb lh h0_labelCount h0_at aw law sk csk gsk ce cce gce) ∧ va_S A s.heap H locs ∧ lv_has ls 9 [(0, .ref h0), (1, .int p0), (2, .long p1)]) (fun u => match u with | (j42_s0, j42_h0_height) => [.long j42_s0]) ?_ (fun jn42 => ?_)
      · intro u H locs ls hI
        obtain ⟨j42_s0, j42_h0_height⟩ := u
        obtain ⟨b_j42_h0_height, v42, hP, hD, hS, hl⟩ := hI
        refine lv_lstore (lv' := [(4, .long j42_s0), (0, .ref h0), (1, .int p0), (2, .long p1)]) hx hb d_MA_performMemory_42 hl (by decide) rfl (fun ls hl => ?_)
        refine lv_aload_n hx hb d_MA_performMemory_44 rfl (lv_at hl 1 rfl) ?_
        have hPc := hP.sb (wq := (wz_17 h0 h0_pages h0_steps h0_reason gl aw h0_codes_r ce sk j42_h0_height fb fs ff fl h0_frameCount lb lh h0_labelCount h0_at sk csk gsk)) [0, 2] rfl
        have hDc := hD.sb (wq := (wz_17 h0 h0_pages h0_steps h0_reason gl aw h0_codes_r ce sk j42_h0_height fb fs ff fl h0_frameCount lb lh h0_labelCount h0_at sk csk gsk)) [0, 2] (by decide) rfl
        have hKc := hK.sb (tyq := [(csk, .long)]) [0] rfl
        have hFc := va_free (wc := (wz_17 h0 h0_pages h0_steps h0_reason gl aw h0_codes_r ce sk j42_h0_height fb fs ff fl h0_frameCount lb lh h0_labelCount h0_at sk csk gsk)) hD hS hA [0, 2] rfl
        refine va_calll (va_runV (As := []) (rest := []) ⟨hx, hb, hml, hown, hts⟩ (c_MA_pop l dC dI H.size h0 gl aw h0_codes_r ce sk fb fs ff fl lb lh csk h0_pages h0_steps h0_reason j42_h0_height h0_frameCount h0_labelCount h0_at gsk (b_j42_h0_height)) (cwV 0 hts (gV kM_MA_142 kV_MA_pop kS_MA_pop kI_MA kC_MA_pop) rfl rfl rfl (by decide +kernel) ⟨Nat.le_of_ble_eq_true rfl, Nat.le_of_ble_eq_true rfl⟩) ⟨fun a U g mk z => by obtain ⟨z0, z1, zP, zK, zD⟩ := z; exact ⟨z0, z1, zP, va_K.moved (u := U) (U := U.calling g mk a) (Vm.Alike.refl U.vm) zK, zD⟩, va_recv hKc hPc (ci := 4) (q0 := 0) rfl rfl, fun U hU hW => ⟨rfl, by rw [hU], va_P.he hU.symm hPc, va_K.moved hW.alike hKc, hDc.weaken (fun _ _ _ _ => trivial)⟩⟩ rfl rfl hl.1 rfl (lv_room (Nat.le_of_ble_eq_true rfl)) d_MA_performMemory_45 ⟨(Nat.zero_le _), (Nat.zero_le _)⟩) hS (fun q _ h => hFc q h) hFc (fun r2 u t H1 locs ht hvm hw hB hz1 hk1 hS => ?_)
        obtain ⟨n3, rfl⟩ : ∃ z, z = u := ⟨_, rfl⟩
        try dsimp only at hw
        obtain ⟨bn3, xr2⟩ := hw
        try clear hw
        obtain ⟨hP1, hK1, hD1⟩ := hB
        replace hP1 := va_P.he ht hP1
        obtain ⟨hP, hD⟩ := va_join (wr := [(aw, .inr (10, law)), (ce, .inl (cce, 16384, .inr (.inl gce)))]) (w1 := (wz_17 h0 h0_pages h0_steps h0_reason gl aw h0_codes_r ce sk n3 fb fs ff fl h0_frameCount lb lh h0_labelCount h0_at sk csk gsk)) hP hD [0, 2] [1, 3] rfl rfl (by decide) (by decide) hk1 hFc hP1 hD1
        clear hPc hDc hKc hFc hz1 hk1 hP1 hK1 hD1
        rename Heap => H
        have hP : va_P (dC, dI) cls (wz_23 aw law ce cce gce h0 h0_pages h0_steps h0_reason gl aw h0_codes_r ce sk n3 fb fs ff fl h0_frameCount lb lh h0_labelCount h0_at sk csk gsk) H := hP
        have hD : va_D A (wz_23 aw law ce cce gce h0 h0_pages h0_steps h0_reason gl aw h0_codes_r ce sk n3 fb fs ff fl h0_frameCount lb lh h0_labelCount h0_at sk csk gsk) := hD
        refine lv_ldc2 hx hb hown (hts _ kL_MA_162) d_MA_performMemory_48 ?_
        refine lv_topl (fun x4 ex4 => ?_)
        have tx4 : x4.toInt = 4294967295 := by rw [ex4]; decide
        refine lv_land hx hb d_MA_performMemory_51 ?_
        refine lv_topl (fun x5 ex5 => ?_)
        refine lv_lload_n hx hb d_MA_performMemory_52 rfl (lv_at hl 3 rfl) ?_
        refine lv_ladd hx hb d_MA_performMemory_53 ?_
        refine lv_topl (fun x6 ex6 => ?_)
        refine lv_lstore (lv' := [(6, .long x6), (4, .long j42_s0), (0, .ref h0), (1, .int p0), (2, .long p1)]) hx hb d_MA_performMemory_54 hl (by decide) rfl (fun ls hl => ?_)
        refine lv_iload_n hx hb d_MA_performMemory_56 rfl (lv_at hl 3 rfl) ?_
        have hPc := hP.sb (wq := []) [] rfl
        have hDc := hD.sb (wq := []) [] (by decide) rfl
        have hKc := hK.sb (tyq := []) [] rfl
        have hFc := va_free (wc := []) hD hS hA [] rfl
        refine va_calli (va_runS (As := [.int p0]) (rest := []) ⟨hx, hb, hml, hown, hts⟩ (c_CD_accessBytes l dC dI H.size p0) ⟨callB_of 1 hts (gW kC_CD_accessBytes) rfl rfl rfl (hts _ kI_CD) (hts _ kM_MA_200) (by decide +kernel) ⟨Nat.le_of_ble_eq_true rfl, Nat.le_of_ble_eq_true rfl⟩, hts _ kT_CD_accessBytes⟩ ⟨fun a U g mk z => by obtain ⟨z0, z1, zP, zK, zD⟩ := z; exact ⟨z0, z1, zP, va_K.moved (u := U) (U := U.calling g mk a) (Vm.Alike.refl U.vm) zK, zD⟩, fun U hU hW => ⟨rfl, by rw [hU], va_P.he hU.symm hPc, va_K.moved hW.alike hKc, hDc.weaken (fun _ _ _ _ => trivial)⟩⟩ rfl rfl hl.1 rfl (lv_room (Nat.le_of_ble_eq_true rfl)) d_MA_performMemory_57 ⟨(Nat.zero_le _), (Nat.zero_le _)⟩) hS (fun q _ h => hFc q h) hFc (fun r7 u t H1 locs ht hvm hw hB hz1 hk1 hS => ?_)
        try dsimp only at hw
        have tr7 := hw
        obtain ⟨hP1, hK1, hD1⟩ := hB
        replace hP1 := va_P.he ht hP1
        obtain ⟨hP, hD⟩ := va_join (wr := (wz_23 aw law ce cce gce h0 h0_pages h0_steps h0_reason gl aw h0_codes_r ce sk n3 fb fs ff fl h0_frameCount lb lh h0_labelCount h0_at sk csk gsk)) (w1 := []) hP hD [] [0, 1, 2, 3] rfl rfl (by decide) (by decide) hk1 hFc hP1 hD1
        clear hPc hDc hKc hFc hz1 hk1 hP1 hK1 hD1
        rename Heap => H
        have hP : va_P (dC, dI) cls (wz_23 aw law ce cce gce h0 h0_pages h0_steps h0_reason gl aw h0_codes_r ce sk n3 fb fs ff fl h0_frameCount lb lh h0_labelCount h0_at sk csk gsk) H := hP
        have hD : va_D A (wz_23 aw law ce cce gce h0 h0_pages h0_steps h0_reason gl aw h0_codes_r ce sk n3 fb fs ff fl h0_frameCount lb lh h0_labelCount h0_at sk csk gsk) := hD
        refine lv_istore (lv' := [(8, .int r7), (6, .long x6), (4, .long j42_s0), (0, .ref h0), (1, .int p0), (2, .long p1)]) hx hb d_MA_performMemory_60 hl (by decide) rfl (fun ls hl => ?_)
        refine lv_lload hx hb d_MA_performMemory_62 (lv_at hl 1 rfl) ?_
        refine lv_iload hx hb d_MA_performMemory_64 (lv_at hl 0 rfl) ?_
        refine lv_i2l hx hb d_MA_performMemory_66 rfl ?_
        refine lv_topl (fun x8 ex8 => ?_)
        have tx8 := i2l_t ex8
        refine lv_ladd hx hb d_MA_performMemory_67 ?_
        refine lv_topl (fun x9 ex9 => ?_)
        refine lv_aload_n hx hb d_MA_performMemory_68 rfl (lv_at hl 3 rfl) ?_
        refine va_get (D := (dC, dI)) (ci := 4) (v := .int h0_pages) (C := R_MA) (T := F_MA) (N := 18) hx hb hts i_MA hown hK hP 2 rfl rfl 0 (by decide) (hts _ kF_MA_55) (fun _ h9 => h9) rfl d_MA_performMemory_69 ?_
        refine lv_i2l hx hb d_MA_performMemory_72 rfl ?_
        refine lv_topl (fun x10 ex10 => ?_)
        have tx10 := i2l_t ex10
        refine lv_ldc2 hx hb hown (hts _ kL_MA_203) d_MA_performMemory_73 ?_
        refine lv_topl (fun x11 ex11 => ?_)
        have tx11 : x11.toInt = 65536 := by rw [ex11]; decide
        refine lv_lmul hx hb d_MA_performMemory_76 ?_
        refine lv_topl (fun x12 ex12 => ?_)
        refine W.lcmp hx hb d_MA_performMemory_77 ?_
        refine lv_topi (fun x13 ex13 => ?_)
        have tx13 := lgc ex13
        refine lv_if_le (tgt := 90) hx hb d_MA_performMemory_78 (by decide) (fun c78 => ?_) (fun c78 => ?_)
        · have q78 := leI c78
          refine lv_iload_n hx hb d_MA_performMemory_90 rfl (lv_at hl 4 rfl) ?_
          have hPc := hP.sb (wq := []) [] rfl
          have hDc := hD.sb (wq := []) [] (by decide) rfl
          have hKc := hK.sb (tyq := []) [] rfl
          have hFc := va_free (wc := []) hD hS hA [] rfl
          refine va_calli (va_runS (As := [.int p0]) (rest := []) ⟨hx, hb, hml, hown, hts⟩ (c_CD_isStore l dC dI H.size p0) ⟨callB_of 1 hts (gW kC_CD_isStore) rfl rfl rfl (hts _ kI_CD) (hts _ kM_MA_197) (by decide +kernel) ⟨Nat.le_of_ble_eq_true rfl, Nat.le_of_ble_eq_true rfl⟩, hts _ kT_CD_isStore⟩ ⟨fun a U g mk z => by obtain ⟨z0, z1, zP, zK, zD⟩ := z; exact ⟨z0, z1, zP, va_K.moved (u := U) (U := U.calling g mk a) (Vm.Alike.refl U.vm) zK, zD⟩, fun U hU hW => ⟨rfl, by rw [hU], va_P.he hU.symm hPc, va_K.moved hW.alike hKc, hDc.weaken (fun _ _ _ _ => trivial)⟩⟩ rfl rfl hl.1 rfl (lv_room (Nat.le_of_ble_eq_true rfl)) d_MA_performMemory_91 ⟨(Nat.zero_le _), (Nat.zero_le _)⟩) hS (fun q _ h => hFc q h) hFc (fun r14 u t H1 locs ht hvm hw hB hz1 hk1 hS => ?_)
          try dsimp only at hw
          have tr14 := hw
          obtain ⟨hP1, hK1, hD1⟩ := hB
          replace hP1 := va_P.he ht hP1
          obtain ⟨hP, hD⟩ := va_join (wr := (wz_23 aw law ce cce gce h0 h0_pages h0_steps h0_reason gl aw h0_codes_r ce sk n3 fb fs ff fl h0_frameCount lb lh h0_labelCount h0_at sk csk gsk)) (w1 := []) hP hD [] [0, 1, 2, 3] rfl rfl (by decide) (by decide) hk1 hFc hP1 hD1
          clear hPc hDc hKc hFc hz1 hk1 hP1 hK1 hD1
          rename Heap => H
          have hP : va_P (dC, dI) cls (wz_23 aw law ce cce gce h0 h0_pages h0_steps h0_reason gl aw h0_codes_r ce sk n3 fb fs ff fl h0_frameCount lb lh h0_labelCount h0_at sk csk gsk) H := hP
          have hD : va_D A (wz_23 aw law ce cce gce h0 h0_pages h0_steps h0_reason gl aw h0_codes_r ce sk n3 fb fs ff fl h0_frameCount lb lh h0_labelCount h0_at sk csk gsk) := hD
          refine lv_if_eq (tgt := 111) hx hb d_MA_performMemory_94 (by decide) (fun c94 => ?_) (fun c94 => ?_)
          · have q94 := eqI c94
            refine lv_aload_n hx hb d_MA_performMemory_111 rfl (lv_at hl 3 rfl) ?_
            refine lv_aload_n hx hb d_MA_performMemory_112 rfl (lv_at hl 3 rfl) ?_
            refine lv_lload hx hb d_MA_performMemory_113 (lv_at hl 1 rfl) ?_
            refine lv_l2i hx hb d_MA_performMemory_115 rfl ?_
            refine lv_topi (fun x15 ex15 => ?_)
            refine lv_iload hx hb d_MA_performMemory_116 (lv_at hl 0 rfl) ?_
            refine lv_iload_n hx hb d_MA_performMemory_118 rfl (lv_at hl 4 rfl) ?_
            refine lv_bipush (v := 45) hx hb d_MA_performMemory_119 (by decide) ?_
            refine w_cut (pc2 := 129) (σ := Int32) (fun u H locs ls => match u with | j129_s0 => (j129_s0 = 0 ∨ j129_s0 = 1) ∧ va_P (dC, dI) cls (wz_23 aw law ce cce gce h0 h0_pages h0_steps h0_reason gl aw h0_codes_r ce sk n3 fb fs ff fl h0_frameCount lb lh h0_labelCount h0_at sk csk gsk) H ∧ va_D A (wz_23 aw law ce cce gce h0 h0_pages h0_steps h0_reason gl aw h0_codes_r ce sk n3 fb fs ff fl h0_frameCount lb lh h0_labelCount h0_at sk csk gsk) ∧ va_S A s.heap H locs ∧ lv_has ls 9 []) (fun u => match u with | j129_s0 => [.int j129_s0, .int r7, .int x15, .ref h0, .ref h0]) ?_ (fun jn129 => ?_)
            · intro u H locs ls hI
              obtain ⟨j129_s0, rfl⟩ : ∃ z, z = u := ⟨_, rfl⟩
              obtain ⟨b_j129_s0, hP, hD, hS, hl⟩ := hI
              have tj129_s0 := b01 b_j129_s0
              have hPc := hP.sb (wq := (wz_19 h0 h0_pages h0_steps h0_reason gl aw h0_codes_r ce sk n3 fb fs ff fl h0_frameCount lb lh h0_labelCount h0_at ce cce gce)) [2, 1] rfl
              have hDc := hD.sb (wq := (wz_19 h0 h0_pages h0_steps h0_reason gl aw h0_codes_r ce sk n3 fb fs ff fl h0_frameCount lb lh h0_labelCount h0_at ce cce gce)) [2, 1] (by decide) rfl
              have hKc := hK.sb (tyq := [(cce, .long)]) [1] rfl
              have hFc := va_free (wc := (wz_19 h0 h0_pages h0_steps h0_reason gl aw h0_codes_r ce sk n3 fb fs ff fl h0_frameCount lb lh h0_labelCount h0_at ce cce gce)) hD hS hA [2, 1] rfl
              refine va_calll (va_runV (As := [.int x15, .int r7, .int j129_s0]) (rest := [.ref h0]) ⟨hx, hb, hml, hown, hts⟩ (c_MA_load0 l dC dI H.size h0 gl aw h0_codes_r ce sk fb fs ff fl lb lh cce h0_pages h0_steps h0_reason n3 h0_frameCount h0_labelCount h0_at gce x15 r7 j129_s0 (by (try dsimp only); (first | (apply Int.le_antisymm <;> omega) | omega)) (b_j129_s0)) (cwV 3 hts (gV kM_MA_209 kV_MA_load0 kS_MA_load0 kI_MA kC_MA_load0) rfl rfl rfl (by decide +kernel) ⟨Nat.le_of_ble_eq_true rfl, Nat.le_of_ble_eq_true rfl⟩) ⟨fun a U g mk z => by obtain ⟨z0, z1, zP, zK, zD⟩ := z; exact ⟨z0, z1, zP, va_K.moved (u := U) (U := U.calling g mk a) (Vm.Alike.refl U.vm) zK, zD⟩, va_recv hKc hPc (ci := 4) (q0 := 0) rfl rfl, fun U hU hW => ⟨rfl, by rw [hU], va_P.he hU.symm hPc, va_K.moved hW.alike hKc, hDc.weaken (fun _ _ _ _ => trivial)⟩⟩ rfl rfl hl.1 rfl (lv_room (Nat.le_of_ble_eq_true rfl)) d_MA_performMemory_129 ⟨(Nat.zero_le _), (Nat.zero_le _)⟩) hS (fun q _ h => hFc q h) hFc (fun r16 u t H1 locs ht hvm hw hB hz1 hk1 hS => ?_)
              try dsimp only at hw
              try clear hw
              obtain ⟨hP1, hK1, hD1⟩ := hB
              replace hP1 := va_P.he ht hP1
              obtain ⟨hP, hD⟩ := va_join (wr := [(aw, .inr (10, law)), (sk, .inl (csk, 12096, .inr (.inl gsk)))]) (w1 := (wz_19 h0 h0_pages h0_steps h0_reason gl aw h0_codes_r ce sk n3 fb fs ff fl h0_frameCount lb lh h0_labelCount h0_at ce cce gce)) hP hD [2, 1] [0, 3] rfl rfl (by decide) (by decide) hk1 hFc hP1 hD1
              clear hPc hDc hKc hFc hz1 hk1 hP1 hK1 hD1
              rename Heap => H
              have hP : va_P (dC, dI) cls (wz_24 aw law sk csk gsk h0 h0_pages h0_steps h0_reason gl aw h0_codes_r ce sk n3 fb fs ff fl h0_frameCount lb lh h0_labelCount h0_at ce cce gce) H := hP
              have hD : va_D A (wz_24 aw law sk csk gsk h0 h0_pages h0_steps h0_reason gl aw h0_codes_r ce sk n3 fb fs ff fl h0_frameCount lb lh h0_labelCount h0_at ce cce gce) := hD
              have hPc := hP.sb (wq := (wz_17 h0 h0_pages h0_steps h0_reason gl aw h0_codes_r ce sk n3 fb fs ff fl h0_frameCount lb lh h0_labelCount h0_at sk csk gsk)) [2, 1] rfl
              have hDc := hD.sb (wq := (wz_17 h0 h0_pages h0_steps h0_reason gl aw h0_codes_r ce sk n3 fb fs ff fl h0_frameCount lb lh h0_labelCount h0_at sk csk gsk)) [2, 1] (by decide) rfl
              have hKc := hK.sb (tyq := [(csk, .long)]) [0] rfl
              have hFc := va_free (wc := (wz_17 h0 h0_pages h0_steps h0_reason gl aw h0_codes_r ce sk n3 fb fs ff fl h0_frameCount lb lh h0_labelCount h0_at sk csk gsk)) hD hS hA [2, 1] rfl
              refine va_callv (va_runV (As := [.long r16]) (rest := []) ⟨hx, hb, hml, hown, hts⟩ (c_MA_push l dC dI H.size h0 gl aw h0_codes_r ce sk fb fs ff fl lb lh csk h0_pages h0_steps h0_reason n3 h0_frameCount h0_labelCount h0_at gsk (b_h0_reason) (bn3) r16) (cwV 1 hts (gV kM_MA_94 kV_MA_push kS_MA_push kI_MA kC_MA_push) rfl rfl rfl (by decide +kernel) ⟨Nat.le_of_ble_eq_true rfl, Nat.le_of_ble_eq_true rfl⟩) ⟨fun a U g mk z => by obtain ⟨z0, z1, zP, zK, zD⟩ := z; exact ⟨z0, z1, zP, va_K.moved (u := U) (U := U.calling g mk a) (Vm.Alike.refl U.vm) zK, zD⟩, va_recv hKc hPc (ci := 4) (q0 := 0) rfl rfl, fun U hU hW => ⟨rfl, by rw [hU], va_P.he hU.symm hPc, va_K.moved hW.alike hKc, hDc.weaken (fun _ _ _ _ => trivial)⟩⟩ rfl rfl hl.1 rfl (lv_room (Nat.le_of_ble_eq_true rfl)) d_MA_performMemory_132 ⟨(Nat.zero_le _), (Nat.zero_le _)⟩) hS (fun q _ h => hFc q h) hFc (fun u t H1 locs ht hvm hw hB hz1 hk1 hS => ?_)
              obtain ⟨n18, n19, n20⟩ := u
              try dsimp only at hw
              obtain ⟨bn19, bn20, xr17⟩ := hw
              try clear hw
              obtain ⟨hP1, hK1, hD1⟩ := hB
              replace hP1 := va_P.he ht hP1
              obtain ⟨hP, hD⟩ := va_join (wr := [(aw, .inr (10, law)), (ce, .inl (cce, 16384, .inr (.inl gce)))]) (w1 := (wz_17 h0 h0_pages h0_steps n20 gl aw h0_codes_r ce sk n19 fb fs ff fl h0_frameCount lb lh h0_labelCount h0_at sk csk n18)) hP hD [2, 1] [0, 3] rfl rfl (by decide) (by decide) hk1 hFc hP1 hD1
              clear hPc hDc hKc hFc hz1 hk1 hP1 hK1 hD1
              rename Heap => H
              have hP : va_P (dC, dI) cls (wz_23 aw law ce cce gce h0 h0_pages h0_steps n20 gl aw h0_codes_r ce sk n19 fb fs ff fl h0_frameCount lb lh h0_labelCount h0_at sk csk n18) H := hP
              have hD : va_D A (wz_23 aw law ce cce gce h0 h0_pages h0_steps n20 gl aw h0_codes_r ce sk n19 fb fs ff fl h0_frameCount lb lh h0_labelCount h0_at sk csk n18) := hD
              have hP9 := hP.sb (wq := (wz_22 h0 h0_pages h0_steps n20 gl aw h0_codes_r ce sk n19 fb fs ff fl h0_frameCount lb lh h0_labelCount h0_at aw law sk csk n18 ce cce gce)) [2, 0, 3, 1] rfl
              have hD9 := hD.sb (wq := (wz_22 h0 h0_pages h0_steps n20 gl aw h0_codes_r ce sk n19 fb fs ff fl h0_frameCount lb lh h0_labelCount h0_at aw law sk csk n18 ce cce gce)) [2, 0, 3, 1] (by decide) rfl
              exact W.vret hx hb hr (fun t ht hW => ⟨⟨(gce, n18, n19, h0_pages, n20), rfl, ⟨bn19, b_h0_pages, bn20, by (try dsimp only); (first | (apply Int.le_antisymm <;> omega) | omega)⟩, va_P.he ht.symm hP9, va_K.moved hW.alike hK, hD9⟩, hS.F ht⟩) hS.2.2 d_MA_performMemory_135
            · skip
              refine lv_icmp_ne (tgt := 128) hx hb d_MA_performMemory_121 (by decide) (fun c121 => ?_) (fun c121 => ?_)
              · have q121 := neI c121
                refine lv_iconst (v := 0) hx hb d_MA_performMemory_128 (by decide) ?_
                exact jn129 0 _ _ _ ⟨Or.inl rfl, hP, hD, hS, lv_sub hl [] rfl⟩
              · have q121 := eqI c121
                refine lv_iconst (v := 1) hx hb d_MA_performMemory_124 (by decide) ?_
                refine lv_goto (tgt := 129) hx hb d_MA_performMemory_125 (by decide) ?_
                exact jn129 1 _ _ _ ⟨Or.inr rfl, hP, hD, hS, lv_sub hl [] rfl⟩
          · have q94 := neI c94
            refine lv_aload_n hx hb d_MA_performMemory_97 rfl (lv_at hl 3 rfl) ?_
            refine lv_lload hx hb d_MA_performMemory_98 (lv_at hl 1 rfl) ?_
            refine lv_l2i hx hb d_MA_performMemory_100 rfl ?_
            refine lv_topi (fun x21 ex21 => ?_)
            refine lv_iload hx hb d_MA_performMemory_101 (lv_at hl 0 rfl) ?_
            refine lv_lload hx hb d_MA_performMemory_103 (lv_at hl 2 rfl) ?_
            have hPc := hP.sb (wq := (wz_19 h0 h0_pages h0_steps h0_reason gl aw h0_codes_r ce sk n3 fb fs ff fl h0_frameCount lb lh h0_labelCount h0_at ce cce gce)) [2, 1] rfl
            have hDc := hD.sb (wq := (wz_19 h0 h0_pages h0_steps h0_reason gl aw h0_codes_r ce sk n3 fb fs ff fl h0_frameCount lb lh h0_labelCount h0_at ce cce gce)) [2, 1] (by decide) rfl
            have hKc := hK.sb (tyq := [(cce, .long)]) [1] rfl
            have hFc := va_free (wc := (wz_19 h0 h0_pages h0_steps h0_reason gl aw h0_codes_r ce sk n3 fb fs ff fl h0_frameCount lb lh h0_labelCount h0_at ce cce gce)) hD hS hA [2, 1] rfl
            refine va_callv (va_runV (As := [.int x21, .int r7, .long j42_s0]) (rest := []) ⟨hx, hb, hml, hown, hts⟩ (c_MA_store l dC dI H.size h0 gl aw h0_codes_r ce sk fb fs ff fl lb lh cce h0_pages h0_steps h0_reason n3 h0_frameCount h0_labelCount h0_at gce x21 r7 j42_s0 (by (try dsimp only); (first | (apply Int.le_antisymm <;> omega) | omega))) (cwV 3 hts (gV kM_MA_205 kV_MA_store kS_MA_store kI_MA kC_MA_store) rfl rfl rfl (by decide +kernel) ⟨Nat.le_of_ble_eq_true rfl, Nat.le_of_ble_eq_true rfl⟩) ⟨fun a U g mk z => by obtain ⟨z0, z1, zP, zK, zD⟩ := z; exact ⟨z0, z1, zP, va_K.moved (u := U) (U := U.calling g mk a) (Vm.Alike.refl U.vm) zK, zD⟩, va_recv hKc hPc (ci := 4) (q0 := 0) rfl rfl, fun U hU hW => ⟨rfl, by rw [hU], va_P.he hU.symm hPc, va_K.moved hW.alike hKc, hDc.weaken (fun _ _ _ _ => trivial)⟩⟩ rfl rfl hl.1 rfl (lv_room (Nat.le_of_ble_eq_true rfl)) d_MA_performMemory_105 ⟨(Nat.zero_le _), (Nat.zero_le _)⟩) hS (fun q _ h => hFc q h) hFc (fun u t H1 locs ht hvm hw hB hz1 hk1 hS => ?_)
            obtain ⟨n23, rfl⟩ : ∃ z, z = u := ⟨_, rfl⟩
            try dsimp only at hw
            try clear hw
            obtain ⟨hP1, hK1, hD1⟩ := hB
            replace hP1 := va_P.he ht hP1
            obtain ⟨hP, hD⟩ := va_join (wr := [(aw, .inr (10, law)), (sk, .inl (csk, 12096, .inr (.inl gsk)))]) (w1 := (wz_19 h0 h0_pages h0_steps h0_reason gl aw h0_codes_r ce sk n3 fb fs ff fl h0_frameCount lb lh h0_labelCount h0_at ce cce n23)) hP hD [2, 1] [0, 3] rfl rfl (by decide) (by decide) hk1 hFc hP1 hD1
            clear hPc hDc hKc hFc hz1 hk1 hP1 hK1 hD1
            rename Heap => H
            have hP : va_P (dC, dI) cls (wz_24 aw law sk csk gsk h0 h0_pages h0_steps h0_reason gl aw h0_codes_r ce sk n3 fb fs ff fl h0_frameCount lb lh h0_labelCount h0_at ce cce n23) H := hP
            have hD : va_D A (wz_24 aw law sk csk gsk h0 h0_pages h0_steps h0_reason gl aw h0_codes_r ce sk n3 fb fs ff fl h0_frameCount lb lh h0_labelCount h0_at ce cce n23) := hD
            refine lv_goto (tgt := 135) hx hb d_MA_performMemory_108 (by decide) ?_
            have hP9 := hP.sb (wq := (wz_22 h0 h0_pages h0_steps h0_reason gl aw h0_codes_r ce sk n3 fb fs ff fl h0_frameCount lb lh h0_labelCount h0_at aw law sk csk gsk ce cce n23)) [2, 0, 1, 3] rfl
            have hD9 := hD.sb (wq := (wz_22 h0 h0_pages h0_steps h0_reason gl aw h0_codes_r ce sk n3 fb fs ff fl h0_frameCount lb lh h0_labelCount h0_at aw law sk csk gsk ce cce n23)) [2, 0, 1, 3] (by decide) rfl
            exact W.vret hx hb hr (fun t ht hW => ⟨⟨(n23, gsk, n3, h0_pages, h0_reason), rfl, ⟨bn3, b_h0_pages, b_h0_reason, by (try dsimp only); (first | (apply Int.le_antisymm <;> omega) | omega)⟩, va_P.he ht.symm hP9, va_K.moved hW.alike hK, hD9⟩, hS.F ht⟩) hS.2.2 d_MA_performMemory_135
        · have q78 := nleI c78
          refine lv_aload_n hx hb d_MA_performMemory_81 rfl (lv_at hl 3 rfl) ?_
          refine lv_bipush (v := 12) hx hb d_MA_performMemory_82 (by decide) ?_
          refine va_put (D := (dC, dI)) (ci := 4) (v := .int 12) (ty := .int) (C := R_MA) (T := F_MA) (N := 18) hx hb hts i_MA t_MA t_MA_ok n_MA hown hK hP hD hS 2 rfl rfl 2 (by decide) (hts _ kF_MA_71) (fun _ h9 => h9) rfl (by decide +kernel) rfl rfl (Nat.le_of_ble_eq_true rfl) d_MA_performMemory_84 (fun H locs hP hD hS => ?_)
          refine lv_goto (tgt := 135) hx hb d_MA_performMemory_87 (by decide) ?_
          have hP9 := hP.sb (wq := (wz_22 h0 h0_pages h0_steps 12 gl aw h0_codes_r ce sk n3 fb fs ff fl h0_frameCount lb lh h0_labelCount h0_at aw law sk csk gsk ce cce gce)) [2, 0, 3, 1] rfl
          have hD9 := hD.sb (wq := (wz_22 h0 h0_pages h0_steps 12 gl aw h0_codes_r ce sk n3 fb fs ff fl h0_frameCount lb lh h0_labelCount h0_at aw law sk csk gsk ce cce gce)) [2, 0, 3, 1] (by decide) rfl
          exact W.vret hx hb hr (fun t ht hW => ⟨⟨(gce, gsk, n3, h0_pages, 12), rfl, ⟨bn3, b_h0_pages, by (try dsimp only); (first | (apply Int.le_antisymm <;> omega) | omega), by (try dsimp only); (first | (apply Int.le_antisymm <;> omega) | omega)⟩, va_P.he ht.symm hP9, va_K.moved hW.alike hK, hD9⟩, hS.F ht⟩) hS.2.2 d_MA_performMemory_135
      · skip
        refine lv_if_eq (tgt := 41) hx hb d_MA_performMemory_31 (by decide) (fun c31 => ?_) (fun c31 => ?_)
        · have q31 := eqI c31
          refine lv_lconst (v := 0) hx hb d_MA_performMemory_41 (by decide) ?_
          have kl0 : (0 : Int64).toInt = 0 := by decide
          exact jn42 (0, h0_height) _ _ _ ⟨b_h0_height, by (try dsimp only); (first | (apply Int.le_antisymm <;> omega) | omega), hP, hD, hS, lv_sub hl [0, 1, 2] rfl⟩
        · have q31 := neI c31
          refine lv_aload_n hx hb d_MA_performMemory_34 rfl (lv_at hl 0 rfl) ?_
          have hPc := hP.sb (wq := (wz_17 h0 h0_pages h0_steps h0_reason gl aw h0_codes_r ce sk h0_height fb fs ff fl h0_frameCount lb lh h0_labelCount h0_at sk csk gsk)) [0, 2] rfl
          have hDc := hD.sb (wq := (wz_17 h0 h0_pages h0_steps h0_reason gl aw h0_codes_r ce sk h0_height fb fs ff fl h0_frameCount lb lh h0_labelCount h0_at sk csk gsk)) [0, 2] (by decide) rfl
          have hKc := hK.sb (tyq := [(csk, .long)]) [0] rfl
          have hFc := va_free (wc := (wz_17 h0 h0_pages h0_steps h0_reason gl aw h0_codes_r ce sk h0_height fb fs ff fl h0_frameCount lb lh h0_labelCount h0_at sk csk gsk)) hD hS hA [0, 2] rfl
          refine va_calll (va_runV (As := []) (rest := []) ⟨hx, hb, hml, hown, hts⟩ (c_MA_pop l dC dI H.size h0 gl aw h0_codes_r ce sk fb fs ff fl lb lh csk h0_pages h0_steps h0_reason h0_height h0_frameCount h0_labelCount h0_at gsk (b_h0_height)) (cwV 0 hts (gV kM_MA_142 kV_MA_pop kS_MA_pop kI_MA kC_MA_pop) rfl rfl rfl (by decide +kernel) ⟨Nat.le_of_ble_eq_true rfl, Nat.le_of_ble_eq_true rfl⟩) ⟨fun a U g mk z => by obtain ⟨z0, z1, zP, zK, zD⟩ := z; exact ⟨z0, z1, zP, va_K.moved (u := U) (U := U.calling g mk a) (Vm.Alike.refl U.vm) zK, zD⟩, va_recv hKc hPc (ci := 4) (q0 := 0) rfl rfl, fun U hU hW => ⟨rfl, by rw [hU], va_P.he hU.symm hPc, va_K.moved hW.alike hKc, hDc.weaken (fun _ _ _ _ => trivial)⟩⟩ rfl rfl hl.1 rfl (lv_room (Nat.le_of_ble_eq_true rfl)) d_MA_performMemory_35 ⟨(Nat.zero_le _), (Nat.zero_le _)⟩) hS (fun q _ h => hFc q h) hFc (fun r24 u t H1 locs ht hvm hw hB hz1 hk1 hS => ?_)
          obtain ⟨n25, rfl⟩ : ∃ z, z = u := ⟨_, rfl⟩
          try dsimp only at hw
          obtain ⟨bn25, xr24⟩ := hw
          try clear hw
          obtain ⟨hP1, hK1, hD1⟩ := hB
          replace hP1 := va_P.he ht hP1
          obtain ⟨hP, hD⟩ := va_join (wr := [(aw, .inr (10, law)), (ce, .inl (cce, 16384, .inr (.inl gce)))]) (w1 := (wz_17 h0 h0_pages h0_steps h0_reason gl aw h0_codes_r ce sk n25 fb fs ff fl h0_frameCount lb lh h0_labelCount h0_at sk csk gsk)) hP hD [0, 2] [1, 3] rfl rfl (by decide) (by decide) hk1 hFc hP1 hD1
          clear hPc hDc hKc hFc hz1 hk1 hP1 hK1 hD1
          rename Heap => H
          have hP : va_P (dC, dI) cls (wz_23 aw law ce cce gce h0 h0_pages h0_steps h0_reason gl aw h0_codes_r ce sk n25 fb fs ff fl h0_frameCount lb lh h0_labelCount h0_at sk csk gsk) H := hP
          have hD : va_D A (wz_23 aw law ce cce gce h0 h0_pages h0_steps h0_reason gl aw h0_codes_r ce sk n25 fb fs ff fl h0_frameCount lb lh h0_labelCount h0_at sk csk gsk) := hD
          refine lv_goto (tgt := 42) hx hb d_MA_performMemory_38 (by decide) ?_
          exact jn42 (r24, n25) _ _ _ ⟨bn25, by (try dsimp only); (first | (apply Int.le_antisymm <;> omega) | omega), hP.sub [2, 0, 3, 1] rfl, hD.sub [2, 0, 3, 1] (by decide) rfl, hS, lv_sub hl [0, 1, 2] rfl⟩
    · have q19 := eqI c19
      refine lv_aload_n hx hb d_MA_performMemory_22 rfl (lv_at hl 0 rfl) ?_
      have hPc := hP.sb (wq := (wz_20 h0 h0_pages h0_steps h0_reason gl aw h0_codes_r ce sk h0_height fb fs ff fl h0_frameCount lb lh h0_labelCount h0_at aw law sk csk gsk)) [0, 1, 2] rfl
      have hDc := hD.sb (wq := (wz_20 h0 h0_pages h0_steps h0_reason gl aw h0_codes_r ce sk h0_height fb fs ff fl h0_frameCount lb lh h0_labelCount h0_at aw law sk csk gsk)) [0, 1, 2] (by decide) rfl
      have hKc := hK.sb (tyq := [(csk, .long)]) [0] rfl
      have hFc := va_free (wc := (wz_20 h0 h0_pages h0_steps h0_reason gl aw h0_codes_r ce sk h0_height fb fs ff fl h0_frameCount lb lh h0_labelCount h0_at aw law sk csk gsk)) hD hS hA [0, 1, 2] rfl
      refine va_callv (va_runV (As := []) (rest := []) ⟨hx, hb, hml, hown, hts⟩ (c_MA_grow l dC dI H.size h0 gl aw h0_codes_r ce sk fb fs ff fl lb lh csk h0_pages h0_steps h0_reason h0_height h0_frameCount h0_labelCount h0_at law aw_pagesMost gsk paw_10 plaw (b_h0_pages) (b_h0_reason) (b_h0_height) (by (try dsimp only); (first | (apply Int.le_antisymm <;> omega) | omega)) (by (try dsimp only); (first | (apply Int.le_antisymm <;> omega) | omega))) (cwV 0 hts (gV kM_MA_194 kV_MA_grow kS_MA_grow kI_MA kC_MA_grow) rfl rfl rfl (by decide +kernel) ⟨Nat.le_of_ble_eq_true rfl, Nat.le_of_ble_eq_true rfl⟩) ⟨fun a U g mk z => by obtain ⟨z0, z1, zP, zK, zD⟩ := z; exact ⟨z0, z1, zP, va_K.moved (u := U) (U := U.calling g mk a) (Vm.Alike.refl U.vm) zK, zD⟩, va_recv hKc hPc (ci := 4) (q0 := 0) rfl rfl, fun U hU hW => ⟨rfl, by rw [hU], va_P.he hU.symm hPc, va_K.moved hW.alike hKc, hDc.weaken (fun _ _ _ _ => trivial)⟩⟩ rfl rfl hl.1 rfl (lv_room (Nat.le_of_ble_eq_true rfl)) d_MA_performMemory_23 ⟨(Nat.zero_le _), (Nat.zero_le _)⟩) hS (fun q _ h => hFc q h) hFc (fun u t H1 locs ht hvm hw hB hz1 hk1 hS => ?_)
      obtain ⟨n27, n28, n29, n30⟩ := u
      try dsimp only at hw
      obtain ⟨bn28, bn29, bn30, xr26⟩ := hw
      try clear hw
      obtain ⟨hP1, hK1, hD1⟩ := hB
      replace hP1 := va_P.he ht hP1
      obtain ⟨hP, hD⟩ := va_join (wr := [(ce, .inl (cce, 16384, .inr (.inl gce)))]) (w1 := (wz_20 h0 n29 h0_steps n30 gl aw h0_codes_r ce sk n28 fb fs ff fl h0_frameCount lb lh h0_labelCount h0_at aw law sk csk n27)) hP hD [0, 1, 2] [3] rfl rfl (by decide) (by decide) hk1 hFc hP1 hD1
      clear hPc hDc hKc hFc hz1 hk1 hP1 hK1 hD1
      rename Heap => H
      have hP : va_P (dC, dI) cls [(ce, .inl (cce, 16384, .inr (.inl gce))), (h0, .inr (4, [.int n29, .int h0_steps, .int n30, .ref gl, .ref aw, .ref h0_codes_r, .ref ce, .ref sk, .int n28, .ref fb, .ref fs, .ref ff, .ref fl, .int h0_frameCount, .ref lb, .ref lh, .int h0_labelCount, .int h0_at])), (aw, .inr (10, law)), (sk, .inl (csk, 12096, .inr (.inl n27)))] H := hP
      have hD : va_D A [(ce, .inl (cce, 16384, .inr (.inl gce))), (h0, .inr (4, [.int n29, .int h0_steps, .int n30, .ref gl, .ref aw, .ref h0_codes_r, .ref ce, .ref sk, .int n28, .ref fb, .ref fs, .ref ff, .ref fl, .int h0_frameCount, .ref lb, .ref lh, .int h0_labelCount, .int h0_at])), (aw, .inr (10, law)), (sk, .inl (csk, 12096, .inr (.inl n27)))] := hD
      have hP9 := hP.sb (wq := (wz_22 h0 n29 h0_steps n30 gl aw h0_codes_r ce sk n28 fb fs ff fl h0_frameCount lb lh h0_labelCount h0_at aw law sk csk n27 ce cce gce)) [1, 2, 3, 0] rfl
      have hD9 := hD.sb (wq := (wz_22 h0 n29 h0_steps n30 gl aw h0_codes_r ce sk n28 fb fs ff fl h0_frameCount lb lh h0_labelCount h0_at aw law sk csk n27 ce cce gce)) [1, 2, 3, 0] (by decide) rfl
      exact W.vret hx hb hr (fun t ht hW => ⟨⟨(gce, n27, n28, n29, n30), rfl, ⟨bn28, bn29, bn30, by (try dsimp only); (first | (apply Int.le_antisymm <;> omega) | omega)⟩, va_P.he ht.symm hP9, va_K.moved hW.alike hK, hD9⟩, hS.F ht⟩) hS.2.2 d_MA_performMemory_26
  · have q3 := eqI c3
    refine lv_aload_n hx hb d_MA_performMemory_6 rfl (lv_at hl 0 rfl) ?_
    refine lv_aload_n hx hb d_MA_performMemory_7 rfl (lv_at hl 0 rfl) ?_
    refine va_get (D := (dC, dI)) (ci := 4) (v := .int h0_pages) (C := R_MA) (T := F_MA) (N := 18) hx hb hts i_MA hown hK hP 0 rfl rfl 0 (by decide) (hts _ kF_MA_55) (fun _ h9 => h9) rfl d_MA_performMemory_8 ?_
    refine lv_i2l hx hb d_MA_performMemory_11 rfl ?_
    refine lv_topl (fun x31 ex31 => ?_)
    have tx31 := i2l_t ex31
    have hPc := hP.sb (wq := (wz_17 h0 h0_pages h0_steps h0_reason gl aw h0_codes_r ce sk h0_height fb fs ff fl h0_frameCount lb lh h0_labelCount h0_at sk csk gsk)) [0, 2] rfl
    have hDc := hD.sb (wq := (wz_17 h0 h0_pages h0_steps h0_reason gl aw h0_codes_r ce sk h0_height fb fs ff fl h0_frameCount lb lh h0_labelCount h0_at sk csk gsk)) [0, 2] (by decide) rfl
    have hKc := hK.sb (tyq := [(csk, .long)]) [0] rfl
    have hFc := va_free (wc := (wz_17 h0 h0_pages h0_steps h0_reason gl aw h0_codes_r ce sk h0_height fb fs ff fl h0_frameCount lb lh h0_labelCount h0_at sk csk gsk)) hD hS hA [0, 2] rfl
    refine va_callv (va_runV (As := [.long x31]) (rest := []) ⟨hx, hb, hml, hown, hts⟩ (c_MA_push l dC dI H.size h0 gl aw h0_codes_r ce sk fb fs ff fl lb lh csk h0_pages h0_steps h0_reason h0_height h0_frameCount h0_labelCount h0_at gsk (b_h0_reason) (b_h0_height) x31) (cwV 1 hts (gV kM_MA_94 kV_MA_push kS_MA_push kI_MA kC_MA_push) rfl rfl rfl (by decide +kernel) ⟨Nat.le_of_ble_eq_true rfl, Nat.le_of_ble_eq_true rfl⟩) ⟨fun a U g mk z => by obtain ⟨z0, z1, zP, zK, zD⟩ := z; exact ⟨z0, z1, zP, va_K.moved (u := U) (U := U.calling g mk a) (Vm.Alike.refl U.vm) zK, zD⟩, va_recv hKc hPc (ci := 4) (q0 := 0) rfl rfl, fun U hU hW => ⟨rfl, by rw [hU], va_P.he hU.symm hPc, va_K.moved hW.alike hKc, hDc.weaken (fun _ _ _ _ => trivial)⟩⟩ rfl rfl hl.1 rfl (lv_room (Nat.le_of_ble_eq_true rfl)) d_MA_performMemory_12 ⟨(Nat.zero_le _), (Nat.zero_le _)⟩) hS (fun q _ h => hFc q h) hFc (fun u t H1 locs ht hvm hw hB hz1 hk1 hS => ?_)
    obtain ⟨n33, n34, n35⟩ := u
    try dsimp only at hw
    obtain ⟨bn34, bn35, xr32⟩ := hw
    try clear hw
    obtain ⟨hP1, hK1, hD1⟩ := hB
    replace hP1 := va_P.he ht hP1
    obtain ⟨hP, hD⟩ := va_join (wr := [(aw, .inr (10, law)), (ce, .inl (cce, 16384, .inr (.inl gce)))]) (w1 := (wz_17 h0 h0_pages h0_steps n35 gl aw h0_codes_r ce sk n34 fb fs ff fl h0_frameCount lb lh h0_labelCount h0_at sk csk n33)) hP hD [0, 2] [1, 3] rfl rfl (by decide) (by decide) hk1 hFc hP1 hD1
    clear hPc hDc hKc hFc hz1 hk1 hP1 hK1 hD1
    rename Heap => H
    have hP : va_P (dC, dI) cls (wz_23 aw law ce cce gce h0 h0_pages h0_steps n35 gl aw h0_codes_r ce sk n34 fb fs ff fl h0_frameCount lb lh h0_labelCount h0_at sk csk n33) H := hP
    have hD : va_D A (wz_23 aw law ce cce gce h0 h0_pages h0_steps n35 gl aw h0_codes_r ce sk n34 fb fs ff fl h0_frameCount lb lh h0_labelCount h0_at sk csk n33) := hD
    have hP9 := hP.sb (wq := (wz_22 h0 h0_pages h0_steps n35 gl aw h0_codes_r ce sk n34 fb fs ff fl h0_frameCount lb lh h0_labelCount h0_at aw law sk csk n33 ce cce gce)) [2, 0, 3, 1] rfl
    have hD9 := hD.sb (wq := (wz_22 h0 h0_pages h0_steps n35 gl aw h0_codes_r ce sk n34 fb fs ff fl h0_frameCount lb lh h0_labelCount h0_at aw law sk csk n33 ce cce gce)) [2, 0, 3, 1] (by decide) rfl
    exact W.vret hx hb hr (fun t ht hW => ⟨⟨(gce, n33, n34, h0_pages, n35), rfl, ⟨bn34, b_h0_pages, bn35, by (try dsimp only); (first | (apply Int.le_antisymm <;> omega) | omega)⟩, va_P.he ht.symm hP9, va_K.moved hW.alike hK, hD9⟩, hS.F ht⟩) hS.2.2 d_MA_performMemory_15

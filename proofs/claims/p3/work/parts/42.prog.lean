/-! Program: refusals, steps -/
abbrev b_PR_refuse : ByteArray := prog_8_method_2_code
def y_PR_refuse : MethodName := ⟨R_PR, "refuse", "(II)V"⟩
abbrev w_PR_refuse : List Cond := .code y_PR_refuse b_PR_refuse 3 none :: lw_g
theorem kC_PR_refuse : Cond.code y_PR_refuse b_PR_refuse 3 none ∈ lw_g := in_g 899 (by decide +kernel) rfl
theorem d_PR_refuse_0 : decode b_PR_refuse 0 = .ok (.aload_n 0, 1) := by decide +kernel
theorem d_PR_refuse_1 : decode b_PR_refuse 1 = .ok (.iload_n 1, 1) := by decide +kernel
theorem d_PR_refuse_2 : decode b_PR_refuse 2 = .ok (.putfield 68, 3) := by decide +kernel
theorem d_PR_refuse_5 : decode b_PR_refuse 5 = .ok (.aload_n 0, 1) := by decide +kernel
theorem d_PR_refuse_6 : decode b_PR_refuse 6 = .ok (.iload_n 2, 1) := by decide +kernel
theorem d_PR_refuse_7 : decode b_PR_refuse 7 = .ok (.putfield 72, 3) := by decide +kernel
theorem d_PR_refuse_10 : decode b_PR_refuse 10 = .ok (.new 75, 3) := by decide +kernel
theorem d_PR_refuse_13 : decode b_PR_refuse 13 = .ok (.dup, 1) := by decide +kernel
theorem d_PR_refuse_14 : decode b_PR_refuse 14 = .ok (.invokespecial 77, 3) := by decide +kernel
theorem d_PR_refuse_17 : decode b_PR_refuse 17 = .ok (.athrow, 1) := by decide +kernel
theorem kF_PR_68 : Cond.fieldLink R_PR 68 "WaferForge$Program" "reason" "I" ∈ lw_g := in_g 360 (by decide +kernel) rfl
theorem kF_PR_72 : Cond.fieldLink R_PR 72 "WaferForge$Program" "place" "I" ∈ lw_g := in_g 362 (by decide +kernel) rfl
abbrev at_PR_refuse (dC : Nat → ClassId) (dI : Nat → Nat → Nat) (sa : Nat → Nat) (h0 gl fu pa pf sf pk pg pp pz pv sc wg wp : Nat) (h0_stepCount : Int32) (h0_open : Int32) (h0_twoSides : Int32) (h0_waitingCount : Int32) (A : Nat → Prop) (u : Int32 × Int32) (t : State) : Prop := match u with | (h0_place, h0_reason) => va_P (dC, dI) cls [(h0, .inr (6, [.ref gl, .ref fu, .ref pa, .ref pf, .ref sf, .ref pk, .ref pg, .ref pp, .ref pz, .ref pv, .int h0_reason, .int h0_place, .ref sc, .int h0_stepCount, .int h0_open, .int h0_twoSides, .ref wg, .ref wp, .int h0_waitingCount]))] t.heap ∧ va_K (dC, dI) cls [] t ∧ va_D A [(h0, .inr (6, [.ref gl, .ref fu, .ref pa, .ref pf, .ref sf, .ref pk, .ref pg, .ref pp, .ref pz, .ref pv, .int h0_reason, .int h0_place, .ref sc, .int h0_stepCount, .int h0_open, .int h0_twoSides, .ref wg, .ref wp, .int h0_waitingCount]))]
set_option maxHeartbeats 4000000 in
set_option maxRecDepth 100000 in
theorem c_PR_refuse (l : Launch) (hlt : l.stackTraces = false) (dC : Nat → ClassId) (dI : Nat → Nat → Nat) (sz : Nat) (sa : Nat → Nat) (h0 gl fu pa pf sf pk pg pp pz pv sc wg wp : Nat) (h0_reason : Int32) (h0_place : Int32) (h0_stepCount : Int32) (h0_open : Int32) (h0_twoSides : Int32) (h0_waitingCount : Int32)   (p0 : Int32) (p1 : Int32)   : tz_Met l y_PR_refuse w_PR_refuse ({ frames := 6, cells := 1, slots := 6, locals := 90 }) (va_Pc [.ref h0, .int p0, .int p1] (fun U => U.heap.size = sz ∧ va_P (dC, dI) cls [(h0, .inr (6, [.ref gl, .ref fu, .ref pa, .ref pf, .ref sf, .ref pk, .ref pg, .ref pp, .ref pz, .ref pv, .int h0_reason, .int h0_place, .ref sc, .int h0_stepCount, .int h0_open, .int h0_twoSides, .ref wg, .ref wp, .int h0_waitingCount]))] U.heap ∧ va_K (dC, dI) cls [] U ∧ va_D (fun _ => True) [(h0, .inr (6, [.ref gl, .ref fu, .ref pa, .ref pf, .ref sf, .ref pk, .ref pg, .ref pp, .ref pz, .ref pv, .int h0_reason, .int h0_place, .ref sc, .int h0_stepCount, .int h0_open, .int h0_twoSides, .ref wg, .ref wp, .int h0_waitingCount]))] ∧ sw sa (va_A [(h0, .inr (6, [.ref gl, .ref fu, .ref pa, .ref pf, .ref sf, .ref pk, .ref pg, .ref pp, .ref pz, .ref pv, .int h0_reason, .int h0_place, .ref sc, .int h0_stepCount, .int h0_open, .int h0_twoSides, .ref wg, .ref wp, .int h0_waitingCount]))] sz) U U.heap)) (tq_Q (tq_v (fun (u : Int32 × Int32) => match u with | (h0_place2, h0_reason2) => (False)) "java/lang/UnsupportedOperationException" (fun (u : Int32 × Int32) => match u with | (h0_place2, h0_reason2) => True)) (at_PR_refuse dC dI sa h0 gl fu pa pf sf pk pg pp pz pv sc wg wp h0_stepCount h0_open h0_twoSides h0_waitingCount (va_A [(h0, .inr (6, [.ref gl, .ref fu, .ref pa, .ref pf, .ref sf, .ref pk, .ref pg, .ref pp, .ref pz, .ref pv, .int h0_reason, .int h0_place, .ref sc, .int h0_stepCount, .int h0_open, .int h0_twoSides, .ref wg, .ref wp, .int h0_waitingCount]))] sz)) (va_A [(h0, .inr (6, [.ref gl, .ref fu, .ref pa, .ref pf, .ref sf, .ref pk, .ref pg, .ref pp, .ref pz, .ref pv, .int h0_reason, .int h0_place, .ref sc, .int h0_stepCount, .int h0_open, .int h0_twoSides, .ref wg, .ref wp, .int h0_waitingCount]))] sz)) (tz_k 0 0 1 6) (va_A [(h0, .inr (6, [.ref gl, .ref fu, .ref pa, .ref pf, .ref sf, .ref pk, .ref pg, .ref pp, .ref pz, .ref pv, .int h0_reason, .int h0_place, .ref sc, .int h0_stepCount, .int h0_open, .int h0_twoSides, .ref wg, .ref wp, .int h0_waitingCount]))] sz) := by
  refine tz_ofW (cc := b_PR_refuse) (maxL := 3) (ret := none) (by decide) rfl ?_
  intro p e s m args below meth c s₁ B hml hno hv
  obtain ⟨rfl, hsz, hP, hK, hD0, hSW⟩ := hv
  have hx := B.exec
  have hb := B.bytes
  have hr := B.returns
  have hts0 := atoms_spec (ws := w_PR_refuse) B.pre
  have hts : ∀ w ∈ lw_g, w.before _ s = true := fun w h => hts0 w (List.mem_cons_of_mem _ h)
  have hown : s.vm.findClass R_PR = some m.cls := findClass_of_methodNamed B.named
  have hlocks := B.notSynchronized
  clear hts0
  subst hsz
  have hD := hD0.self (sz := s.heap.size)
  generalize hAe : va_A [(h0, .inr (6, [.ref gl, .ref fu, .ref pa, .ref pf, .ref sf, .ref pk, .ref pg, .ref pp, .ref pz, .ref pv, .int h0_reason, .int h0_place, .ref sc, .int h0_stepCount, .int h0_open, .int h0_twoSides, .ref wg, .ref wp, .int h0_waitingCount]))] s.heap.size = A at hD hSW ⊢
  have hA : ∀ q : Nat, s.heap.size ≤ q → A q := fun q h => by rw [← hAe]; exact Or.inr h
  clear hAe
  have hP : va_P (dC, dI) cls [(h0, .inr (6, [.ref gl, .ref fu, .ref pa, .ref pf, .ref sf, .ref pk, .ref pg, .ref pp, .ref pz, .ref pv, .int h0_reason, .int h0_place, .ref sc, .int h0_stepCount, .int h0_open, .int h0_twoSides, .ref wg, .ref wp, .int h0_waitingCount]))] s.heap := hP
  have hl := lv_entry ([.ref h0, .int p0, .int p1]) (n := 3) (Nat.le_of_ble_eq_true rfl)
  rw [lg_entry_eq]
  generalize (lg_sl ([.ref h0, .int p0, .int p1]) ++ List.replicate (3 - (lg_sl ([.ref h0, .int p0, .int p1])).length) Slot.unset).toArray = ls at hl ⊢
  have hl : lv_has ls 3 [(0, .ref h0), (1, .int p0), (2, .int p1)] := hl
  have k0 : (0 : Int32).toInt = 0 := by decide
  refine w_gen (A := A) hP (fun H locs hP hS => ?_)
  have lo_p0 := i32_lo p0
  have hi_p0 := i32_hi p0
  have lo_p1 := i32_lo p1
  have hi_p1 := i32_hi p1
  refine lv_aload_n hx hb d_PR_refuse_0 rfl (lv_at hl 0 rfl) ?_
  refine lv_iload_n hx hb d_PR_refuse_1 rfl (lv_at hl 1 rfl) ?_
  refine va_put (D := (dC, dI)) (ci := 6) (v := .int p0) (ty := .int) (C := R_PR) (T := F_PR) (N := 19) hx hb hts i_PR t_PR t_PR_ok n_PR hown hK hP hD hS 0 rfl rfl 10 (by decide) (hts _ kF_PR_68) (fun _ h9 => h9) rfl (by decide +kernel) rfl rfl (Nat.le_of_ble_eq_true rfl) d_PR_refuse_2 (fun H locs hP hD hS => ?_)
  refine lv_aload_n hx hb d_PR_refuse_5 rfl (lv_at hl 0 rfl) ?_
  refine lv_iload_n hx hb d_PR_refuse_6 rfl (lv_at hl 2 rfl) ?_
  refine va_put (D := (dC, dI)) (ci := 6) (v := .int p1) (ty := .int) (C := R_PR) (T := F_PR) (N := 19) hx hb hts i_PR t_PR t_PR_ok n_PR hown hK hP hD hS 0 rfl rfl 11 (by decide) (hts _ kF_PR_72) (fun _ h9 => h9) rfl (by decide +kernel) rfl rfl (Nat.le_of_ble_eq_true rfl) d_PR_refuse_7 (fun H locs hP hD hS => ?_)
  have hP9 := hP.sub (ws' := [(h0, .inr (6, [.ref gl, .ref fu, .ref pa, .ref pf, .ref sf, .ref pk, .ref pg, .ref pp, .ref pz, .ref pv, .int p0, .int p1, .ref sc, .int h0_stepCount, .int h0_open, .int h0_twoSides, .ref wg, .ref wp, .int h0_waitingCount]))]) [0] rfl
  have hD9 := hD.sub (ws' := [(h0, .inr (6, [.ref gl, .ref fu, .ref pa, .ref pf, .ref sf, .ref pk, .ref pg, .ref pp, .ref pz, .ref pv, .int p0, .int p1, .ref sc, .int h0_stepCount, .int h0_open, .int h0_twoSides, .ref wg, .ref wp, .int h0_waitingCount]))]) [0] (by decide) rfl
  exact tz_throwNew hx hb hno hlocks hlt (hl.1.trans hml.symm) hown (by decide +kernel) (by decide +kernel) (fun U hU hW => eb_PR_uo hts hSW hS U hU hW) d_PR_refuse_10 d_PR_refuse_13 d_PR_refuse_14 d_PR_refuse_17 (by decide) (Nat.le_of_ble_eq_true rfl) (Nat.le_of_ble_eq_true rfl) (Nat.le_of_ble_eq_true rfl) (fun _ => rfl) (fun x t h1 h2 h3 h4 => ⟨⟨(p1, p0), ⟨trivial, h3⟩, vp_ext hP9 h2, va_K.moved h4.alike hK, hD9⟩, vs_ext hS h1 h2⟩) hS.2.2
abbrev b_PR_refuseOneMore : ByteArray := prog_8_method_23_code
def y_PR_refuseOneMore : MethodName := ⟨R_PR, "refuseOneMore", "()V"⟩
abbrev w_PR_refuseOneMore : List Cond := .code y_PR_refuseOneMore b_PR_refuseOneMore 1 none :: lw_g
theorem kC_PR_refuseOneMore : Cond.code y_PR_refuseOneMore b_PR_refuseOneMore 1 none ∈ lw_g := in_g 894 (by decide +kernel) rfl
theorem d_PR_refuseOneMore_0 : decode b_PR_refuseOneMore 0 = .ok (.aload_n 0, 1) := by decide +kernel
theorem d_PR_refuseOneMore_1 : decode b_PR_refuseOneMore 1 = .ok (.aload_n 0, 1) := by decide +kernel
theorem d_PR_refuseOneMore_2 : decode b_PR_refuseOneMore 2 = .ok (.getfield 43, 3) := by decide +kernel
theorem d_PR_refuseOneMore_5 : decode b_PR_refuseOneMore 5 = .ok (.getfield 93, 3) := by decide +kernel
theorem d_PR_refuseOneMore_8 : decode b_PR_refuseOneMore 8 = .ok (.getstatic 277, 3) := by decide +kernel
theorem d_PR_refuseOneMore_11 : decode b_PR_refuseOneMore 11 = .ok (.if_acmp .ne 7, 3) := by decide +kernel
theorem d_PR_refuseOneMore_14 : decode b_PR_refuseOneMore 14 = .ok (.iconst 1, 1) := by decide +kernel
theorem d_PR_refuseOneMore_15 : decode b_PR_refuseOneMore 15 = .ok (.goto 4, 3) := by decide +kernel
theorem d_PR_refuseOneMore_18 : decode b_PR_refuseOneMore 18 = .ok (.iconst 5, 1) := by decide +kernel
theorem d_PR_refuseOneMore_19 : decode b_PR_refuseOneMore 19 = .ok (.aload_n 0, 1) := by decide +kernel
theorem d_PR_refuseOneMore_20 : decode b_PR_refuseOneMore 20 = .ok (.getfield 43, 3) := by decide +kernel
theorem d_PR_refuseOneMore_23 : decode b_PR_refuseOneMore 23 = .ok (.getfield 109, 3) := by decide +kernel
theorem d_PR_refuseOneMore_26 : decode b_PR_refuseOneMore 26 = .ok (.invokevirtual 110, 3) := by decide +kernel
theorem d_PR_refuseOneMore_29 : decode b_PR_refuseOneMore 29 = .ok (.return_, 1) := by decide +kernel
theorem kM_PR_110 : Cond.methodLink R_PR 110 y_PR_refuse ∈ lw_g := in_g 896 (by decide +kernel) rfl
theorem kV_PR_refuse : Cond.instanceMethod y_PR_refuse ∈ lw_g := in_g 897 (by decide +kernel) rfl
theorem kS_PR_refuse : Cond.selects R_PR y_PR_refuse y_PR_refuse ∈ lw_g := in_g 898 (by decide +kernel) rfl
theorem kF_PR_43 : Cond.fieldLink R_PR 43 "WaferForge$Program" "scanner" "LWaferForge$Scanner;" ∈ lw_g := in_g 364 (by decide +kernel) rfl
theorem kF_PR_93 : Cond.fieldLink R_PR 93 "WaferForge$Scanner" "sign" "LWaferForge$Sign;" ∈ lw_g := in_g 267 (by decide +kernel) rfl
theorem kF_PR_277 : Cond.fieldLink R_PR 277 "WaferForge$Sign" "WRONG" "LWaferForge$Sign;" ∈ lw_g := in_g 895 (by decide +kernel) rfl
theorem kF_PR_109 : Cond.fieldLink R_PR 109 "WaferForge$Scanner" "place" "I" ∈ lw_g := in_g 269 (by decide +kernel) rfl
abbrev at_PR_refuseOneMore (dC : Nat → ClassId) (dI : Nat → Nat → Nat) (sa : Nat → Nat) (h0 gl fu pa pf sf pk pg pp pz pv sc wg wp tr ss sp szs sv : Nat) (h0_stepCount : Int32) (h0_open : Int32) (h0_twoSides : Int32) (h0_waitingCount : Int32) (sc_sign : Nat) (sc_place : Int32) (sc_size : Int32) (sc_value : Int64) (sc_length : Int32) (sc_at : Int32) (A : Nat → Prop) (u : Int32 × Int32) (t : State) : Prop := match u with | (h0_place, h0_reason) => va_P (dC, dI) cls [(h0, .inr (6, [.ref gl, .ref fu, .ref pa, .ref pf, .ref sf, .ref pk, .ref pg, .ref pp, .ref pz, .ref pv, .int h0_reason, .int h0_place, .ref sc, .int h0_stepCount, .int h0_open, .int h0_twoSides, .ref wg, .ref wp, .int h0_waitingCount])), (sc, .inr (8, [.ref tr, .ref (sg sa sc_sign), .int sc_place, .int sc_size, .long sc_value, .ref ss, .ref sp, .ref szs, .ref sv, .int sc_length, .int sc_at]))] t.heap ∧ va_K (dC, dI) cls [] t ∧ va_D A [(h0, .inr (6, [.ref gl, .ref fu, .ref pa, .ref pf, .ref sf, .ref pk, .ref pg, .ref pp, .ref pz, .ref pv, .int h0_reason, .int h0_place, .ref sc, .int h0_stepCount, .int h0_open, .int h0_twoSides, .ref wg, .ref wp, .int h0_waitingCount])), (sc, .inr (8, [.ref tr, .ref (sg sa sc_sign), .int sc_place, .int sc_size, .long sc_value, .ref ss, .ref sp, .ref szs, .ref sv, .int sc_length, .int sc_at]))]
set_option maxHeartbeats 4000000 in
set_option maxRecDepth 100000 in
theorem c_PR_refuseOneMore (l : Launch) (hlt : l.stackTraces = false) (dC : Nat → ClassId) (dI : Nat → Nat → Nat) (sz : Nat) (sa : Nat → Nat) (h0 gl fu pa pf sf pk pg pp pz pv sc wg wp tr ss sp szs sv : Nat) (h0_reason : Int32) (h0_place : Int32) (h0_stepCount : Int32) (h0_open : Int32) (h0_twoSides : Int32) (h0_waitingCount : Int32) (sc_sign : Nat) (sc_place : Int32) (sc_size : Int32) (sc_value : Int64) (sc_length : Int32) (sc_at : Int32)  (b_sc_sign : sc_sign < 55) (b_sc_place : 0 ≤ sc_place.toInt ∧ sc_place.toInt ≤ 2000)    : tz_Met l y_PR_refuseOneMore w_PR_refuseOneMore ({ frames := 7, cells := 1, slots := 6, locals := 112 }) (va_Pc [.ref h0] (fun U => U.heap.size = sz ∧ va_P (dC, dI) cls [(h0, .inr (6, [.ref gl, .ref fu, .ref pa, .ref pf, .ref sf, .ref pk, .ref pg, .ref pp, .ref pz, .ref pv, .int h0_reason, .int h0_place, .ref sc, .int h0_stepCount, .int h0_open, .int h0_twoSides, .ref wg, .ref wp, .int h0_waitingCount])), (sc, .inr (8, [.ref tr, .ref (sg sa sc_sign), .int sc_place, .int sc_size, .long sc_value, .ref ss, .ref sp, .ref szs, .ref sv, .int sc_length, .int sc_at]))] U.heap ∧ va_K (dC, dI) cls [] U ∧ va_D (fun _ => True) [(h0, .inr (6, [.ref gl, .ref fu, .ref pa, .ref pf, .ref sf, .ref pk, .ref pg, .ref pp, .ref pz, .ref pv, .int h0_reason, .int h0_place, .ref sc, .int h0_stepCount, .int h0_open, .int h0_twoSides, .ref wg, .ref wp, .int h0_waitingCount])), (sc, .inr (8, [.ref tr, .ref (sg sa sc_sign), .int sc_place, .int sc_size, .long sc_value, .ref ss, .ref sp, .ref szs, .ref sv, .int sc_length, .int sc_at]))] ∧ sw sa (va_A [(h0, .inr (6, [.ref gl, .ref fu, .ref pa, .ref pf, .ref sf, .ref pk, .ref pg, .ref pp, .ref pz, .ref pv, .int h0_reason, .int h0_place, .ref sc, .int h0_stepCount, .int h0_open, .int h0_twoSides, .ref wg, .ref wp, .int h0_waitingCount])), (sc, .inr (8, [.ref tr, .ref (sg sa sc_sign), .int sc_place, .int sc_size, .long sc_value, .ref ss, .ref sp, .ref szs, .ref sv, .int sc_length, .int sc_at]))] sz) U U.heap)) (tq_Q (tq_v (fun (u : Int32 × Int32) => match u with | (h0_place2, h0_reason2) => (False)) "java/lang/UnsupportedOperationException" (fun (u : Int32 × Int32) => match u with | (h0_place2, h0_reason2) => True)) (at_PR_refuseOneMore dC dI sa h0 gl fu pa pf sf pk pg pp pz pv sc wg wp tr ss sp szs sv h0_stepCount h0_open h0_twoSides h0_waitingCount sc_sign sc_place sc_size sc_value sc_length sc_at (va_A [(h0, .inr (6, [.ref gl, .ref fu, .ref pa, .ref pf, .ref sf, .ref pk, .ref pg, .ref pp, .ref pz, .ref pv, .int h0_reason, .int h0_place, .ref sc, .int h0_stepCount, .int h0_open, .int h0_twoSides, .ref wg, .ref wp, .int h0_waitingCount])), (sc, .inr (8, [.ref tr, .ref (sg sa sc_sign), .int sc_place, .int sc_size, .long sc_value, .ref ss, .ref sp, .ref szs, .ref sv, .int sc_length, .int sc_at]))] sz)) (va_A [(h0, .inr (6, [.ref gl, .ref fu, .ref pa, .ref pf, .ref sf, .ref pk, .ref pg, .ref pp, .ref pz, .ref pv, .int h0_reason, .int h0_place, .ref sc, .int h0_stepCount, .int h0_open, .int h0_twoSides, .ref wg, .ref wp, .int h0_waitingCount])), (sc, .inr (8, [.ref tr, .ref (sg sa sc_sign), .int sc_place, .int sc_size, .long sc_value, .ref ss, .ref sp, .ref szs, .ref sv, .int sc_length, .int sc_at]))] sz)) (tz_k 0 0 1 6) (va_A [(h0, .inr (6, [.ref gl, .ref fu, .ref pa, .ref pf, .ref sf, .ref pk, .ref pg, .ref pp, .ref pz, .ref pv, .int h0_reason, .int h0_place, .ref sc, .int h0_stepCount, .int h0_open, .int h0_twoSides, .ref wg, .ref wp, .int h0_waitingCount])), (sc, .inr (8, [.ref tr, .ref (sg sa sc_sign), .int sc_place, .int sc_size, .long sc_value, .ref ss, .ref sp, .ref szs, .ref sv, .int sc_length, .int sc_at]))] sz) := by
  refine tz_ofW (cc := b_PR_refuseOneMore) (maxL := 1) (ret := none) (by decide) rfl ?_
  intro p e s m args below meth c s₁ B hml hno hv
  obtain ⟨rfl, hsz, hP, hK, hD0, hSW⟩ := hv
  have hx := B.exec
  have hb := B.bytes
  have hr := B.returns
  have hts0 := atoms_spec (ws := w_PR_refuseOneMore) B.pre
  have hts : ∀ w ∈ lw_g, w.before _ s = true := fun w h => hts0 w (List.mem_cons_of_mem _ h)
  have hown : s.vm.findClass R_PR = some m.cls := findClass_of_methodNamed B.named
  have hlocks := B.notSynchronized
  clear hts0
  subst hsz
  have hD := hD0.self (sz := s.heap.size)
  generalize hAe : va_A [(h0, .inr (6, [.ref gl, .ref fu, .ref pa, .ref pf, .ref sf, .ref pk, .ref pg, .ref pp, .ref pz, .ref pv, .int h0_reason, .int h0_place, .ref sc, .int h0_stepCount, .int h0_open, .int h0_twoSides, .ref wg, .ref wp, .int h0_waitingCount])), (sc, .inr (8, [.ref tr, .ref (sg sa sc_sign), .int sc_place, .int sc_size, .long sc_value, .ref ss, .ref sp, .ref szs, .ref sv, .int sc_length, .int sc_at]))] s.heap.size = A at hD hSW ⊢
  have hA : ∀ q : Nat, s.heap.size ≤ q → A q := fun q h => by rw [← hAe]; exact Or.inr h
  clear hAe
  have hP : va_P (dC, dI) cls [(h0, .inr (6, [.ref gl, .ref fu, .ref pa, .ref pf, .ref sf, .ref pk, .ref pg, .ref pp, .ref pz, .ref pv, .int h0_reason, .int h0_place, .ref sc, .int h0_stepCount, .int h0_open, .int h0_twoSides, .ref wg, .ref wp, .int h0_waitingCount])), (sc, .inr (8, [.ref tr, .ref (sg sa sc_sign), .int sc_place, .int sc_size, .long sc_value, .ref ss, .ref sp, .ref szs, .ref sv, .int sc_length, .int sc_at]))] s.heap := hP
  have hl := lv_entry ([.ref h0]) (n := 1) (Nat.le_of_ble_eq_true rfl)
  rw [lg_entry_eq]
  generalize (lg_sl ([.ref h0]) ++ List.replicate (1 - (lg_sl ([.ref h0])).length) Slot.unset).toArray = ls at hl ⊢
  have hl : lv_has ls 1 [(0, .ref h0)] := hl
  have k0 : (0 : Int32).toInt = 0 := by decide
  refine w_gen (A := A) hP (fun H locs hP hS => ?_)
  have k1 : (1 : Int32).toInt = 1 := by decide
  have k5 : (5 : Int32).toInt = 5 := by decide
  refine lv_aload_n hx hb d_PR_refuseOneMore_0 rfl (lv_at hl 0 rfl) ?_
  refine lv_aload_n hx hb d_PR_refuseOneMore_1 rfl (lv_at hl 0 rfl) ?_
  refine va_get (D := (dC, dI)) (ci := 6) (v := .ref sc) (C := R_PR) (T := F_PR) (N := 19) hx hb hts i_PR hown hK hP 0 rfl rfl 12 (by decide) (hts _ kF_PR_43) (fun _ h9 => h9) rfl d_PR_refuseOneMore_2 ?_
  refine va_get (D := (dC, dI)) (ci := 8) (v := .ref (sg sa sc_sign)) (C := R_SC) (T := F_SC) (N := 11) hx hb hts i_SC hown hK hP 1 rfl rfl 1 (by decide) (hts _ kF_PR_93) (fun _ h9 => h9) rfl d_PR_refuseOneMore_5 ?_
  refine va_gets (C := "WaferForge$Sign") (n := "WRONG") (d := "LWaferForge$Sign;") (v := .ref (sg sa 1)) hx hb ((hSW.2.2.2.1.1 1 (by decide)).1) hS hown (hts _ kF_PR_277) (fun _ h9 => h9) d_PR_refuseOneMore_8 ?_
  refine w_cut (pc2 := 19) (σ := Int32) (fun u H locs ls => match u with | j19_s0 => va_P (dC, dI) cls [(h0, .inr (6, [.ref gl, .ref fu, .ref pa, .ref pf, .ref sf, .ref pk, .ref pg, .ref pp, .ref pz, .ref pv, .int h0_reason, .int h0_place, .ref sc, .int h0_stepCount, .int h0_open, .int h0_twoSides, .ref wg, .ref wp, .int h0_waitingCount])), (sc, .inr (8, [.ref tr, .ref (sg sa sc_sign), .int sc_place, .int sc_size, .long sc_value, .ref ss, .ref sp, .ref szs, .ref sv, .int sc_length, .int sc_at]))] H ∧ va_D A [(h0, .inr (6, [.ref gl, .ref fu, .ref pa, .ref pf, .ref sf, .ref pk, .ref pg, .ref pp, .ref pz, .ref pv, .int h0_reason, .int h0_place, .ref sc, .int h0_stepCount, .int h0_open, .int h0_twoSides, .ref wg, .ref wp, .int h0_waitingCount])), (sc, .inr (8, [.ref tr, .ref (sg sa sc_sign), .int sc_place, .int sc_size, .long sc_value, .ref ss, .ref sp, .ref szs, .ref sv, .int sc_length, .int sc_at]))] ∧ va_S A s.heap H locs ∧ lv_has ls 1 [(0, .ref h0)]) (fun u => match u with | j19_s0 => [.int j19_s0, .ref h0]) ?_ (fun jn19 => ?_)
  · intro u H locs ls hI
    obtain ⟨j19_s0, rfl⟩ : ∃ z, z = u := ⟨_, rfl⟩
    obtain ⟨hP, hD, hS, hl⟩ := hI
    refine lv_aload_n hx hb d_PR_refuseOneMore_19 rfl (lv_at hl 0 rfl) ?_
    refine va_get (D := (dC, dI)) (ci := 6) (v := .ref sc) (C := R_PR) (T := F_PR) (N := 19) hx hb hts i_PR hown hK hP 0 rfl rfl 12 (by decide) (hts _ kF_PR_43) (fun _ h9 => h9) rfl d_PR_refuseOneMore_20 ?_
    refine va_get (D := (dC, dI)) (ci := 8) (v := .int sc_place) (C := R_SC) (T := F_SC) (N := 11) hx hb hts i_SC hown hK hP 1 rfl rfl 2 (by decide) (hts _ kF_PR_109) (fun _ h9 => h9) rfl d_PR_refuseOneMore_23 ?_
    have hPc := hP.sub (ws' := [(h0, .inr (6, [.ref gl, .ref fu, .ref pa, .ref pf, .ref sf, .ref pk, .ref pg, .ref pp, .ref pz, .ref pv, .int h0_reason, .int h0_place, .ref sc, .int h0_stepCount, .int h0_open, .int h0_twoSides, .ref wg, .ref wp, .int h0_waitingCount]))]) [0] rfl
    have hDc := hD.sub (ws' := [(h0, .inr (6, [.ref gl, .ref fu, .ref pa, .ref pf, .ref sf, .ref pk, .ref pg, .ref pp, .ref pz, .ref pv, .int h0_reason, .int h0_place, .ref sc, .int h0_stepCount, .int h0_open, .int h0_twoSides, .ref wg, .ref wp, .int h0_waitingCount]))]) [0] (by decide) rfl
    have hKc := hK.sub (tys' := []) [] rfl
    have hFc := va_free (wc := [(h0, .inr (6, [.ref gl, .ref fu, .ref pa, .ref pf, .ref sf, .ref pk, .ref pg, .ref pp, .ref pz, .ref pv, .int h0_reason, .int h0_place, .ref sc, .int h0_stepCount, .int h0_open, .int h0_twoSides, .ref wg, .ref wp, .int h0_waitingCount]))]) hD hS hA [0] rfl
    refine tq_callv (tz_runV (As := [.int j19_s0, .int sc_place]) (rest := []) ⟨hx, hb, hml, hown, hts⟩ (c_PR_refuse l hlt dC dI H.size sa h0 gl fu pa pf sf pk pg pp pz pv sc wg wp h0_reason h0_place h0_stepCount h0_open h0_twoSides h0_waitingCount j19_s0 sc_place) (cwV 2 hts (gV kM_PR_110 kV_PR_refuse kS_PR_refuse kI_PR kC_PR_refuse) rfl rfl rfl (by decide +kernel) ⟨Nat.le_of_ble_eq_true rfl, Nat.le_of_ble_eq_true rfl⟩) ⟨fun a U g mk z => by obtain ⟨z0, z1, zP, zK, zD, zS⟩ := z; exact ⟨z0, z1, zP, va_K.moved (u := U) (U := U.calling g mk a) (Vm.Alike.refl U.vm) zK, zD, sw.same (u := U) (U := U.calling g mk a) rfl zS⟩, va_recv hKc hPc (ci := 6) (q0 := 0) rfl rfl, fun U hU hW => ⟨rfl, by rw [hU], by rw [hU]; exact hPc, va_K.moved hW.alike hKc, hDc.weaken (fun _ _ _ _ => trivial), hSW.call hS hFc hW hU⟩⟩ rfl rfl hl.1 rfl (lv_room (Nat.le_of_ble_eq_true rfl)) d_PR_refuseOneMore_26 ⟨Nat.le_of_ble_eq_true rfl, Nat.le_of_ble_eq_true rfl⟩) hS (fun q _ h => hFc q h) hFc (fun u t H1 locs ht hvm hw hB hz1 hk1 hS => ?_) (fun xx u t H1 locs ht hvm hw hXX hB hz1 hk1 hS => ?_)
    rotate_left
    · skip
      obtain ⟨n2, n3⟩ := u
      try dsimp only at hw
      obtain ⟨hP1, hK1, hD1⟩ := hB
      rw [ht] at hP1
      obtain ⟨hP, hD⟩ := va_join (wr := [(sc, .inr (8, [.ref tr, .ref (sg sa sc_sign), .int sc_place, .int sc_size, .long sc_value, .ref ss, .ref sp, .ref szs, .ref sv, .int sc_length, .int sc_at]))]) (w1 := [(h0, .inr (6, [.ref gl, .ref fu, .ref pa, .ref pf, .ref sf, .ref pk, .ref pg, .ref pp, .ref pz, .ref pv, .int n3, .int n2, .ref sc, .int h0_stepCount, .int h0_open, .int h0_twoSides, .ref wg, .ref wp, .int h0_waitingCount]))]) hP hD [0] [1] rfl rfl (by decide) (by decide) hk1 hFc hP1 hD1
      have hP : va_P (dC, dI) cls [(sc, .inr (8, [.ref tr, .ref (sg sa sc_sign), .int sc_place, .int sc_size, .long sc_value, .ref ss, .ref sp, .ref szs, .ref sv, .int sc_length, .int sc_at])), (h0, .inr (6, [.ref gl, .ref fu, .ref pa, .ref pf, .ref sf, .ref pk, .ref pg, .ref pp, .ref pz, .ref pv, .int n3, .int n2, .ref sc, .int h0_stepCount, .int h0_open, .int h0_twoSides, .ref wg, .ref wp, .int h0_waitingCount]))] H1 := hP
      have hD : va_D A [(sc, .inr (8, [.ref tr, .ref (sg sa sc_sign), .int sc_place, .int sc_size, .long sc_value, .ref ss, .ref sp, .ref szs, .ref sv, .int sc_length, .int sc_at])), (h0, .inr (6, [.ref gl, .ref fu, .ref pa, .ref pf, .ref sf, .ref pk, .ref pg, .ref pp, .ref pz, .ref pv, .int n3, .int n2, .ref sc, .int h0_stepCount, .int h0_open, .int h0_twoSides, .ref wg, .ref wp, .int h0_waitingCount]))] := hD
      have hP9 := hP.sub (ws' := [(h0, .inr (6, [.ref gl, .ref fu, .ref pa, .ref pf, .ref sf, .ref pk, .ref pg, .ref pp, .ref pz, .ref pv, .int n3, .int n2, .ref sc, .int h0_stepCount, .int h0_open, .int h0_twoSides, .ref wg, .ref wp, .int h0_waitingCount])), (sc, .inr (8, [.ref tr, .ref (sg sa sc_sign), .int sc_place, .int sc_size, .long sc_value, .ref ss, .ref sp, .ref szs, .ref sv, .int sc_length, .int sc_at]))]) [1, 0] rfl
      have hD9 := hD.sub (ws' := [(h0, .inr (6, [.ref gl, .ref fu, .ref pa, .ref pf, .ref sf, .ref pk, .ref pg, .ref pp, .ref pz, .ref pv, .int n3, .int n2, .ref sc, .int h0_stepCount, .int h0_open, .int h0_twoSides, .ref wg, .ref wp, .int h0_waitingCount])), (sc, .inr (8, [.ref tr, .ref (sg sa sc_sign), .int sc_place, .int sc_size, .long sc_value, .ref ss, .ref sp, .ref szs, .ref sv, .int sc_length, .int sc_at]))]) [1, 0] (by decide) rfl
      exact tz_leave rfl hno hlocks (fun t ht hW => ⟨⟨(n2, n3), ⟨trivial, by rw [ht]; exact hXX.moved hW.alike⟩, by rw [ht]; exact hP9, va_K.moved hW.alike hK, hD9⟩, hS.F ht⟩) hS.2.2
    exact (show False from hw).elim
  · skip
    refine lv_acmp_ne (rx := some (sg sa sc_sign)) (ry := some (sg sa 1)) (tgt := 18) hx hb d_PR_refuseOneMore_11 (by decide) (fun c11 => ?_) (fun c11 => ?_)
    · have q11 : sc_sign ≠ 1 := fun z => c11 (by rw [z])
      refine lv_iconst (v := 5) hx hb d_PR_refuseOneMore_18 (by decide) ?_
      exact jn19 5 _ _ _ ⟨hP, hD, hS, lv_sub hl [0] rfl⟩
    · have q11 : sc_sign = 1 := hSW.2.2.2.1.2 sc_sign 1 b_sc_sign (by decide : 1 < 55) (Option.some.inj c11)
      refine lv_iconst (v := 1) hx hb d_PR_refuseOneMore_14 (by decide) ?_
      refine lv_goto (tgt := 19) hx hb d_PR_refuseOneMore_15 (by decide) ?_
      exact jn19 1 _ _ _ ⟨hP, hD, hS, lv_sub hl [0] rfl⟩
abbrev b_PR_enter : ByteArray := prog_8_method_22_code
def y_PR_enter : MethodName := ⟨R_PR, "enter", "()V"⟩
abbrev w_PR_enter : List Cond := .code y_PR_enter b_PR_enter 1 none :: lw_g
theorem kC_PR_enter : Cond.code y_PR_enter b_PR_enter 1 none ∈ lw_g := in_g 973 (by decide +kernel) rfl
theorem d_PR_enter_0 : decode b_PR_enter 0 = .ok (.aload_n 0, 1) := by decide +kernel
theorem d_PR_enter_1 : decode b_PR_enter 1 = .ok (.getfield 84, 3) := by decide +kernel
theorem d_PR_enter_4 : decode b_PR_enter 4 = .ok (.bipush 40, 2) := by decide +kernel
theorem d_PR_enter_6 : decode b_PR_enter 6 = .ok (.if_icmp .lt 7, 3) := by decide +kernel
theorem d_PR_enter_9 : decode b_PR_enter 9 = .ok (.aload_n 0, 1) := by decide +kernel
theorem d_PR_enter_10 : decode b_PR_enter 10 = .ok (.invokevirtual 117, 3) := by decide +kernel
theorem d_PR_enter_13 : decode b_PR_enter 13 = .ok (.aload_n 0, 1) := by decide +kernel
theorem d_PR_enter_14 : decode b_PR_enter 14 = .ok (.dup, 1) := by decide +kernel
theorem d_PR_enter_15 : decode b_PR_enter 15 = .ok (.getfield 84, 3) := by decide +kernel
theorem d_PR_enter_18 : decode b_PR_enter 18 = .ok (.iconst 1, 1) := by decide +kernel
theorem d_PR_enter_19 : decode b_PR_enter 19 = .ok (.iadd, 1) := by decide +kernel
theorem d_PR_enter_20 : decode b_PR_enter 20 = .ok (.putfield 84, 3) := by decide +kernel
theorem d_PR_enter_23 : decode b_PR_enter 23 = .ok (.return_, 1) := by decide +kernel
theorem kM_PR_117 : Cond.methodLink R_PR 117 y_PR_refuseOneMore ∈ lw_g := in_g 891 (by decide +kernel) rfl
theorem kV_PR_refuseOneMore : Cond.instanceMethod y_PR_refuseOneMore ∈ lw_g := in_g 893 (by decide +kernel) rfl
theorem kS_PR_refuseOneMore : Cond.selects R_PR y_PR_refuseOneMore y_PR_refuseOneMore ∈ lw_g := in_s 9 (by decide +kernel) rfl
theorem kF_PR_84 : Cond.fieldLink R_PR 84 "WaferForge$Program" "open" "I" ∈ lw_g := in_g 366 (by decide +kernel) rfl
abbrev at_PR_enter (dC : Nat → ClassId) (dI : Nat → Nat → Nat) (sa : Nat → Nat) (h0 gl fu pa pf sf pk pg pp pz pv sc wg wp tr ss sp szs sv : Nat) (h0_stepCount : Int32) (h0_twoSides : Int32) (h0_waitingCount : Int32) (sc_sign : Nat) (sc_place : Int32) (sc_size : Int32) (sc_value : Int64) (sc_length : Int32) (sc_at : Int32) (A : Nat → Prop) (u : Int32 × Int32 × Int32) (t : State) : Prop := match u with | (h0_open, h0_place, h0_reason) => va_P (dC, dI) cls [(h0, .inr (6, [.ref gl, .ref fu, .ref pa, .ref pf, .ref sf, .ref pk, .ref pg, .ref pp, .ref pz, .ref pv, .int h0_reason, .int h0_place, .ref sc, .int h0_stepCount, .int h0_open, .int h0_twoSides, .ref wg, .ref wp, .int h0_waitingCount])), (sc, .inr (8, [.ref tr, .ref (sg sa sc_sign), .int sc_place, .int sc_size, .long sc_value, .ref ss, .ref sp, .ref szs, .ref sv, .int sc_length, .int sc_at]))] t.heap ∧ va_K (dC, dI) cls [] t ∧ va_D A [(h0, .inr (6, [.ref gl, .ref fu, .ref pa, .ref pf, .ref sf, .ref pk, .ref pg, .ref pp, .ref pz, .ref pv, .int h0_reason, .int h0_place, .ref sc, .int h0_stepCount, .int h0_open, .int h0_twoSides, .ref wg, .ref wp, .int h0_waitingCount])), (sc, .inr (8, [.ref tr, .ref (sg sa sc_sign), .int sc_place, .int sc_size, .long sc_value, .ref ss, .ref sp, .ref szs, .ref sv, .int sc_length, .int sc_at]))]
set_option maxHeartbeats 4000000 in
set_option maxRecDepth 100000 in
theorem c_PR_enter (l : Launch) (hlt : l.stackTraces = false) (dC : Nat → ClassId) (dI : Nat → Nat → Nat) (sz : Nat) (sa : Nat → Nat) (h0 gl fu pa pf sf pk pg pp pz pv sc wg wp tr ss sp szs sv : Nat) (h0_reason : Int32) (h0_place : Int32) (h0_stepCount : Int32) (h0_open : Int32) (h0_twoSides : Int32) (h0_waitingCount : Int32) (sc_sign : Nat) (sc_place : Int32) (sc_size : Int32) (sc_value : Int64) (sc_length : Int32) (sc_at : Int32)  (b_h0_open : 0 ≤ h0_open.toInt ∧ h0_open.toInt ≤ 40) (b_sc_sign : sc_sign < 55) (b_sc_place : 0 ≤ sc_place.toInt ∧ sc_place.toInt ≤ 2000)    : tz_Met l y_PR_enter w_PR_enter ({ frames := 8, cells := 1, slots := 6, locals := 132 }) (va_Pc [.ref h0] (fun U => U.heap.size = sz ∧ va_P (dC, dI) cls [(h0, .inr (6, [.ref gl, .ref fu, .ref pa, .ref pf, .ref sf, .ref pk, .ref pg, .ref pp, .ref pz, .ref pv, .int h0_reason, .int h0_place, .ref sc, .int h0_stepCount, .int h0_open, .int h0_twoSides, .ref wg, .ref wp, .int h0_waitingCount])), (sc, .inr (8, [.ref tr, .ref (sg sa sc_sign), .int sc_place, .int sc_size, .long sc_value, .ref ss, .ref sp, .ref szs, .ref sv, .int sc_length, .int sc_at]))] U.heap ∧ va_K (dC, dI) cls [] U ∧ va_D (fun _ => True) [(h0, .inr (6, [.ref gl, .ref fu, .ref pa, .ref pf, .ref sf, .ref pk, .ref pg, .ref pp, .ref pz, .ref pv, .int h0_reason, .int h0_place, .ref sc, .int h0_stepCount, .int h0_open, .int h0_twoSides, .ref wg, .ref wp, .int h0_waitingCount])), (sc, .inr (8, [.ref tr, .ref (sg sa sc_sign), .int sc_place, .int sc_size, .long sc_value, .ref ss, .ref sp, .ref szs, .ref sv, .int sc_length, .int sc_at]))] ∧ sw sa (va_A [(h0, .inr (6, [.ref gl, .ref fu, .ref pa, .ref pf, .ref sf, .ref pk, .ref pg, .ref pp, .ref pz, .ref pv, .int h0_reason, .int h0_place, .ref sc, .int h0_stepCount, .int h0_open, .int h0_twoSides, .ref wg, .ref wp, .int h0_waitingCount])), (sc, .inr (8, [.ref tr, .ref (sg sa sc_sign), .int sc_place, .int sc_size, .long sc_value, .ref ss, .ref sp, .ref szs, .ref sv, .int sc_length, .int sc_at]))] sz) U U.heap)) (tq_Q (tq_v (fun (u : Int32 × Int32 × Int32) => match u with | (h0_open2, h0_place2, h0_reason2) => (0 ≤ h0_open2.toInt ∧ h0_open2.toInt ≤ 40) ∧ (h0_open2.toInt = h0_open.toInt + 1)) "java/lang/UnsupportedOperationException" (fun (u : Int32 × Int32 × Int32) => match u with | (h0_open2, h0_place2, h0_reason2) => (0 ≤ h0_open2.toInt ∧ h0_open2.toInt ≤ 40))) (at_PR_enter dC dI sa h0 gl fu pa pf sf pk pg pp pz pv sc wg wp tr ss sp szs sv h0_stepCount h0_twoSides h0_waitingCount sc_sign sc_place sc_size sc_value sc_length sc_at (va_A [(h0, .inr (6, [.ref gl, .ref fu, .ref pa, .ref pf, .ref sf, .ref pk, .ref pg, .ref pp, .ref pz, .ref pv, .int h0_reason, .int h0_place, .ref sc, .int h0_stepCount, .int h0_open, .int h0_twoSides, .ref wg, .ref wp, .int h0_waitingCount])), (sc, .inr (8, [.ref tr, .ref (sg sa sc_sign), .int sc_place, .int sc_size, .long sc_value, .ref ss, .ref sp, .ref szs, .ref sv, .int sc_length, .int sc_at]))] sz)) (va_A [(h0, .inr (6, [.ref gl, .ref fu, .ref pa, .ref pf, .ref sf, .ref pk, .ref pg, .ref pp, .ref pz, .ref pv, .int h0_reason, .int h0_place, .ref sc, .int h0_stepCount, .int h0_open, .int h0_twoSides, .ref wg, .ref wp, .int h0_waitingCount])), (sc, .inr (8, [.ref tr, .ref (sg sa sc_sign), .int sc_place, .int sc_size, .long sc_value, .ref ss, .ref sp, .ref szs, .ref sv, .int sc_length, .int sc_at]))] sz)) (tz_k 0 0 1 6) (va_A [(h0, .inr (6, [.ref gl, .ref fu, .ref pa, .ref pf, .ref sf, .ref pk, .ref pg, .ref pp, .ref pz, .ref pv, .int h0_reason, .int h0_place, .ref sc, .int h0_stepCount, .int h0_open, .int h0_twoSides, .ref wg, .ref wp, .int h0_waitingCount])), (sc, .inr (8, [.ref tr, .ref (sg sa sc_sign), .int sc_place, .int sc_size, .long sc_value, .ref ss, .ref sp, .ref szs, .ref sv, .int sc_length, .int sc_at]))] sz) := by
  refine tz_ofW (cc := b_PR_enter) (maxL := 1) (ret := none) (by decide) rfl ?_
  intro p e s m args below meth c s₁ B hml hno hv
  obtain ⟨rfl, hsz, hP, hK, hD0, hSW⟩ := hv
  have hx := B.exec
  have hb := B.bytes
  have hr := B.returns
  have hts0 := atoms_spec (ws := w_PR_enter) B.pre
  have hts : ∀ w ∈ lw_g, w.before _ s = true := fun w h => hts0 w (List.mem_cons_of_mem _ h)
  have hown : s.vm.findClass R_PR = some m.cls := findClass_of_methodNamed B.named
  have hlocks := B.notSynchronized
  clear hts0
  subst hsz
  have hD := hD0.self (sz := s.heap.size)
  generalize hAe : va_A [(h0, .inr (6, [.ref gl, .ref fu, .ref pa, .ref pf, .ref sf, .ref pk, .ref pg, .ref pp, .ref pz, .ref pv, .int h0_reason, .int h0_place, .ref sc, .int h0_stepCount, .int h0_open, .int h0_twoSides, .ref wg, .ref wp, .int h0_waitingCount])), (sc, .inr (8, [.ref tr, .ref (sg sa sc_sign), .int sc_place, .int sc_size, .long sc_value, .ref ss, .ref sp, .ref szs, .ref sv, .int sc_length, .int sc_at]))] s.heap.size = A at hD hSW ⊢
  have hA : ∀ q : Nat, s.heap.size ≤ q → A q := fun q h => by rw [← hAe]; exact Or.inr h
  clear hAe
  have hP : va_P (dC, dI) cls [(h0, .inr (6, [.ref gl, .ref fu, .ref pa, .ref pf, .ref sf, .ref pk, .ref pg, .ref pp, .ref pz, .ref pv, .int h0_reason, .int h0_place, .ref sc, .int h0_stepCount, .int h0_open, .int h0_twoSides, .ref wg, .ref wp, .int h0_waitingCount])), (sc, .inr (8, [.ref tr, .ref (sg sa sc_sign), .int sc_place, .int sc_size, .long sc_value, .ref ss, .ref sp, .ref szs, .ref sv, .int sc_length, .int sc_at]))] s.heap := hP
  have hl := lv_entry ([.ref h0]) (n := 1) (Nat.le_of_ble_eq_true rfl)
  rw [lg_entry_eq]
  generalize (lg_sl ([.ref h0]) ++ List.replicate (1 - (lg_sl ([.ref h0])).length) Slot.unset).toArray = ls at hl ⊢
  have hl : lv_has ls 1 [(0, .ref h0)] := hl
  have k0 : (0 : Int32).toInt = 0 := by decide
  refine w_gen (A := A) hP (fun H locs hP hS => ?_)
  have k1 : (1 : Int32).toInt = 1 := by decide
  have k40 : (40 : Int32).toInt = 40 := by decide
  refine lv_aload_n hx hb d_PR_enter_0 rfl (lv_at hl 0 rfl) ?_
  refine va_get (D := (dC, dI)) (ci := 6) (v := .int h0_open) (C := R_PR) (T := F_PR) (N := 19) hx hb hts i_PR hown hK hP 0 rfl rfl 14 (by decide) (hts _ kF_PR_84) (fun _ h9 => h9) rfl d_PR_enter_1 ?_
  refine lv_bipush (v := 40) hx hb d_PR_enter_4 (by decide) ?_
  refine lv_icmp_lt (tgt := 13) hx hb d_PR_enter_6 (by decide) (fun c6 => ?_) (fun c6 => ?_)
  · have q6 := ltI c6
    refine lv_aload_n hx hb d_PR_enter_13 rfl (lv_at hl 0 rfl) ?_
    refine lv_dup hx hb d_PR_enter_14 rfl ?_
    refine va_get (D := (dC, dI)) (ci := 6) (v := .int h0_open) (C := R_PR) (T := F_PR) (N := 19) hx hb hts i_PR hown hK hP 0 rfl rfl 14 (by decide) (hts _ kF_PR_84) (fun _ h9 => h9) rfl d_PR_enter_15 ?_
    refine lv_iconst (v := 1) hx hb d_PR_enter_18 (by decide) ?_
    refine lv_iadd hx hb d_PR_enter_19 ?_
    refine lv_topi (fun x1 ex1 => ?_)
    have tx1 : x1.toInt = h0_open.toInt + 1 := by have z := i32_add ex1 (by omega) (by omega); omega
    refine va_put (D := (dC, dI)) (ci := 6) (v := .int x1) (ty := .int) (C := R_PR) (T := F_PR) (N := 19) hx hb hts i_PR t_PR t_PR_ok n_PR hown hK hP hD hS 0 rfl rfl 14 (by decide) (hts _ kF_PR_84) (fun _ h9 => h9) rfl (by decide +kernel) rfl rfl (Nat.le_of_ble_eq_true rfl) d_PR_enter_20 (fun H locs hP hD hS => ?_)
    have hP9 := hP.sub (ws' := [(h0, .inr (6, [.ref gl, .ref fu, .ref pa, .ref pf, .ref sf, .ref pk, .ref pg, .ref pp, .ref pz, .ref pv, .int h0_reason, .int h0_place, .ref sc, .int h0_stepCount, .int x1, .int h0_twoSides, .ref wg, .ref wp, .int h0_waitingCount])), (sc, .inr (8, [.ref tr, .ref (sg sa sc_sign), .int sc_place, .int sc_size, .long sc_value, .ref ss, .ref sp, .ref szs, .ref sv, .int sc_length, .int sc_at]))]) [0, 1] rfl
    have hD9 := hD.sub (ws' := [(h0, .inr (6, [.ref gl, .ref fu, .ref pa, .ref pf, .ref sf, .ref pk, .ref pg, .ref pp, .ref pz, .ref pv, .int h0_reason, .int h0_place, .ref sc, .int h0_stepCount, .int x1, .int h0_twoSides, .ref wg, .ref wp, .int h0_waitingCount])), (sc, .inr (8, [.ref tr, .ref (sg sa sc_sign), .int sc_place, .int sc_size, .long sc_value, .ref ss, .ref sp, .ref szs, .ref sv, .int sc_length, .int sc_at]))]) [0, 1] (by decide) rfl
    exact tz_up (fun _ => rfl) (W.vret hx hb hr (fun t ht hW => ⟨⟨(x1, h0_place, h0_reason), ⟨rfl, ⟨by (try dsimp only) <;> omega, by (try dsimp only) <;> omega⟩⟩, by rw [ht]; exact hP9, va_K.moved hW.alike hK, hD9⟩, hS.F ht⟩) hS.2.2 d_PR_enter_23)
  · have q6 := nltI c6
    refine lv_aload_n hx hb d_PR_enter_9 rfl (lv_at hl 0 rfl) ?_
    have hPc := hP.sub (ws' := [(h0, .inr (6, [.ref gl, .ref fu, .ref pa, .ref pf, .ref sf, .ref pk, .ref pg, .ref pp, .ref pz, .ref pv, .int h0_reason, .int h0_place, .ref sc, .int h0_stepCount, .int h0_open, .int h0_twoSides, .ref wg, .ref wp, .int h0_waitingCount])), (sc, .inr (8, [.ref tr, .ref (sg sa sc_sign), .int sc_place, .int sc_size, .long sc_value, .ref ss, .ref sp, .ref szs, .ref sv, .int sc_length, .int sc_at]))]) [0, 1] rfl
    have hDc := hD.sub (ws' := [(h0, .inr (6, [.ref gl, .ref fu, .ref pa, .ref pf, .ref sf, .ref pk, .ref pg, .ref pp, .ref pz, .ref pv, .int h0_reason, .int h0_place, .ref sc, .int h0_stepCount, .int h0_open, .int h0_twoSides, .ref wg, .ref wp, .int h0_waitingCount])), (sc, .inr (8, [.ref tr, .ref (sg sa sc_sign), .int sc_place, .int sc_size, .long sc_value, .ref ss, .ref sp, .ref szs, .ref sv, .int sc_length, .int sc_at]))]) [0, 1] (by decide) rfl
    have hKc := hK.sub (tys' := []) [] rfl
    have hFc := va_free (wc := [(h0, .inr (6, [.ref gl, .ref fu, .ref pa, .ref pf, .ref sf, .ref pk, .ref pg, .ref pp, .ref pz, .ref pv, .int h0_reason, .int h0_place, .ref sc, .int h0_stepCount, .int h0_open, .int h0_twoSides, .ref wg, .ref wp, .int h0_waitingCount])), (sc, .inr (8, [.ref tr, .ref (sg sa sc_sign), .int sc_place, .int sc_size, .long sc_value, .ref ss, .ref sp, .ref szs, .ref sv, .int sc_length, .int sc_at]))]) hD hS hA [0, 1] rfl
    refine tq_callv (tz_runV (As := []) (rest := []) ⟨hx, hb, hml, hown, hts⟩ (c_PR_refuseOneMore l hlt dC dI H.size sa h0 gl fu pa pf sf pk pg pp pz pv sc wg wp tr ss sp szs sv h0_reason h0_place h0_stepCount h0_open h0_twoSides h0_waitingCount sc_sign sc_place sc_size sc_value sc_length sc_at (b_sc_sign) (b_sc_place)) (cwV 0 hts (gV kM_PR_117 kV_PR_refuseOneMore kS_PR_refuseOneMore kI_PR kC_PR_refuseOneMore) rfl rfl rfl (by decide +kernel) ⟨Nat.le_of_ble_eq_true rfl, Nat.le_of_ble_eq_true rfl⟩) ⟨fun a U g mk z => by obtain ⟨z0, z1, zP, zK, zD, zS⟩ := z; exact ⟨z0, z1, zP, va_K.moved (u := U) (U := U.calling g mk a) (Vm.Alike.refl U.vm) zK, zD, sw.same (u := U) (U := U.calling g mk a) rfl zS⟩, va_recv hKc hPc (ci := 6) (q0 := 0) rfl rfl, fun U hU hW => ⟨rfl, by rw [hU], by rw [hU]; exact hPc, va_K.moved hW.alike hKc, hDc.weaken (fun _ _ _ _ => trivial), hSW.call hS hFc hW hU⟩⟩ rfl rfl hl.1 rfl (lv_room (Nat.le_of_ble_eq_true rfl)) d_PR_enter_10 ⟨Nat.le_of_ble_eq_true rfl, Nat.le_of_ble_eq_true rfl⟩) hS (fun q _ h => hFc q h) hFc (fun u t H1 locs ht hvm hw hB hz1 hk1 hS => ?_) (fun xx u t H1 locs ht hvm hw hXX hB hz1 hk1 hS => ?_)
    rotate_left
    · skip
      obtain ⟨n3, n4⟩ := u
      try dsimp only at hw
      obtain ⟨hP1, hK1, hD1⟩ := hB
      rw [ht] at hP1
      obtain ⟨hP, hD⟩ := va_join (wr := []) (w1 := [(h0, .inr (6, [.ref gl, .ref fu, .ref pa, .ref pf, .ref sf, .ref pk, .ref pg, .ref pp, .ref pz, .ref pv, .int n4, .int n3, .ref sc, .int h0_stepCount, .int h0_open, .int h0_twoSides, .ref wg, .ref wp, .int h0_waitingCount])), (sc, .inr (8, [.ref tr, .ref (sg sa sc_sign), .int sc_place, .int sc_size, .long sc_value, .ref ss, .ref sp, .ref szs, .ref sv, .int sc_length, .int sc_at]))]) hP hD [0, 1] [] rfl rfl (by decide) (by decide) hk1 hFc hP1 hD1
      have hP : va_P (dC, dI) cls [(h0, .inr (6, [.ref gl, .ref fu, .ref pa, .ref pf, .ref sf, .ref pk, .ref pg, .ref pp, .ref pz, .ref pv, .int n4, .int n3, .ref sc, .int h0_stepCount, .int h0_open, .int h0_twoSides, .ref wg, .ref wp, .int h0_waitingCount])), (sc, .inr (8, [.ref tr, .ref (sg sa sc_sign), .int sc_place, .int sc_size, .long sc_value, .ref ss, .ref sp, .ref szs, .ref sv, .int sc_length, .int sc_at]))] H1 := hP
      have hD : va_D A [(h0, .inr (6, [.ref gl, .ref fu, .ref pa, .ref pf, .ref sf, .ref pk, .ref pg, .ref pp, .ref pz, .ref pv, .int n4, .int n3, .ref sc, .int h0_stepCount, .int h0_open, .int h0_twoSides, .ref wg, .ref wp, .int h0_waitingCount])), (sc, .inr (8, [.ref tr, .ref (sg sa sc_sign), .int sc_place, .int sc_size, .long sc_value, .ref ss, .ref sp, .ref szs, .ref sv, .int sc_length, .int sc_at]))] := hD
      have hP9 := hP.sub (ws' := [(h0, .inr (6, [.ref gl, .ref fu, .ref pa, .ref pf, .ref sf, .ref pk, .ref pg, .ref pp, .ref pz, .ref pv, .int n4, .int n3, .ref sc, .int h0_stepCount, .int h0_open, .int h0_twoSides, .ref wg, .ref wp, .int h0_waitingCount])), (sc, .inr (8, [.ref tr, .ref (sg sa sc_sign), .int sc_place, .int sc_size, .long sc_value, .ref ss, .ref sp, .ref szs, .ref sv, .int sc_length, .int sc_at]))]) [0, 1] rfl
      have hD9 := hD.sub (ws' := [(h0, .inr (6, [.ref gl, .ref fu, .ref pa, .ref pf, .ref sf, .ref pk, .ref pg, .ref pp, .ref pz, .ref pv, .int n4, .int n3, .ref sc, .int h0_stepCount, .int h0_open, .int h0_twoSides, .ref wg, .ref wp, .int h0_waitingCount])), (sc, .inr (8, [.ref tr, .ref (sg sa sc_sign), .int sc_place, .int sc_size, .long sc_value, .ref ss, .ref sp, .ref szs, .ref sv, .int sc_length, .int sc_at]))]) [0, 1] (by decide) rfl
      exact tz_leave rfl hno hlocks (fun t ht hW => ⟨⟨(h0_open, n3, n4), ⟨(b_h0_open), by rw [ht]; exact hXX.moved hW.alike⟩, by rw [ht]; exact hP9, va_K.moved hW.alike hK, hD9⟩, hS.F ht⟩) hS.2.2
    exact (show False from hw).elim

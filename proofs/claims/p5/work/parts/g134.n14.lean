/-! the reference: a function is made -/
abbrev b_MF_init : ByteArray := prog_16_method_1_code
def y_MF_init : MethodName := ⟨R_MF, "<init>", "()V"⟩
abbrev w_MF_init : List Cond := .code y_MF_init b_MF_init 1 none :: lw_g
theorem kC_MF_init : Cond.code y_MF_init b_MF_init 1 none ∈ lw_g := in_c11 127 rfl rfl
theorem d_MF_init_0 : decode b_MF_init 0 = .ok (.aload_n 0, 1) := bz_c42 (by decide +kernel)
theorem d_MF_init_1 : decode b_MF_init 1 = .ok (.invokespecial 1, 3) := bz_c183 (by decide +kernel)
theorem d_MF_init_4 : decode b_MF_init 4 = .ok (.aload_n 0, 1) := bz_c42 (by decide +kernel)
theorem d_MF_init_5 : decode b_MF_init 5 = .ok (.bipush 51, 2) := bz_c16 (by decide +kernel)
theorem d_MF_init_7 : decode b_MF_init 7 = .ok (.anewarray 7, 3) := bz_c189 (by decide +kernel)
theorem d_MF_init_10 : decode b_MF_init 10 = .ok (.putfield 9, 3) := bz_c181 (by decide +kernel)
theorem d_MF_init_13 : decode b_MF_init 13 = .ok (.aload_n 0, 1) := bz_c42 (by decide +kernel)
theorem d_MF_init_14 : decode b_MF_init 14 = .ok (.bipush 8, 2) := bz_c16 (by decide +kernel)
theorem d_MF_init_16 : decode b_MF_init 16 = .ok (.newarray .int, 2) := by decide +kernel
theorem d_MF_init_18 : decode b_MF_init 18 = .ok (.putfield 15, 3) := bz_c181 (by decide +kernel)
theorem d_MF_init_21 : decode b_MF_init 21 = .ok (.aload_n 0, 1) := bz_c42 (by decide +kernel)
theorem d_MF_init_22 : decode b_MF_init 22 = .ok (.bipush 51, 2) := bz_c16 (by decide +kernel)
theorem d_MF_init_24 : decode b_MF_init 24 = .ok (.newarray .int, 2) := by decide +kernel
theorem d_MF_init_26 : decode b_MF_init 26 = .ok (.putfield 19, 3) := bz_c181 (by decide +kernel)
theorem d_MF_init_29 : decode b_MF_init 29 = .ok (.return_, 1) := bz_c177 (by decide +kernel)
theorem kM_MF_1 : Cond.methodLink R_MF 1 Lib.objectInit ∈ lw_g := in_c11 128 rfl rfl
theorem kK_MF_7 : Cond.classLink R_MF 7 "java/lang/String" ∈ lw_g := in_c11 129 rfl rfl
theorem kF_MF_9 : Cond.fieldLink R_MF 9 "WaferForgeModel$Fun" "names" "[Ljava/lang/String;" ∈ lw_g := in_c11 132 rfl rfl
theorem kF_MF_15 : Cond.fieldLink R_MF 15 "WaferForgeModel$Fun" "places" "[I" ∈ lw_g := in_c11 134 rfl rfl
theorem kF_MF_19 : Cond.fieldLink R_MF 19 "WaferForgeModel$Fun" "types" "[I" ∈ lw_g := in_c11 136 rfl rfl
abbrev at_MF_init (dC : Nat → ClassId) (dI : Nat → Nat → Nat) (sz szl : Nat) (sa : Nat → Nat) (h0 : Nat) (cps cr : ClassId) (h0_name : Value) (h0_place : Int32) (h0_names : Value) (h0_places : Value) (h0_types : Value) (h0_parameters : Int32) (h0_locals : Int32) (h0_result : Int32) (h0_body : Value) (h0_signature : Int32) (A : Nat → Prop) (u : (Nat → Option Nat) × (Nat → Int32) × (Nat → Int32) × Nat × Nat × Nat × Nat × Nat) (t : State) : Prop := match u with | (gnw1, gnw2, gnw3, kcz, knz, nw1, nw2, nw3) => va_P (dC, dI) cls2 [(h0, .inr (14, [h0_name, .int h0_place, .ref nw1, .ref nw2, .ref nw3, .int h0_parameters, .int h0_locals, .int h0_result, h0_body, .int h0_signature])), (nw1, .inl (cps, 51, .inr (.inr (.inr (.inr gnw1))))), (nw2, .inl (cr, 8, .inl gnw2)), (nw3, .inl (cr, 51, .inl gnw3))] t.heap ∧ va_K (dC, dI) cls2 [(cps, .object "java/lang/String"), (cr, .int)] t ∧ va_D A [(h0, .inr (14, [h0_name, .int h0_place, .ref nw1, .ref nw2, .ref nw3, .int h0_parameters, .int h0_locals, .int h0_result, h0_body, .int h0_signature])), (nw1, .inl (cps, 51, .inr (.inr (.inr (.inr gnw1))))), (nw2, .inl (cr, 8, .inl gnw2)), (nw3, .inl (cr, 51, .inl gnw3))] ∧ t.heap.size ≤ sz + kcz ∧ hsl t.heap ≤ szl + knz
set_option maxHeartbeats 4000000 in
set_option maxRecDepth 100000 in
theorem c_MF_init (l : Launch) (hlt : l.stackTraces = false) (dC : Nat → ClassId) (dI : Nat → Nat → Nat) (sz : Nat) (szl : Nat) (sa : Nat → Nat) (h0 : Nat) (cps cr : ClassId) (h0_name : Value) (h0_place : Int32) (h0_names : Value) (h0_places : Value) (h0_types : Value) (h0_parameters : Int32) (h0_locals : Int32) (h0_result : Int32) (h0_body : Value) (h0_signature : Int32)      : Met l y_MF_init w_MF_init ({ frames := 1, cells := 3, slots := 110, locals := 20 }) (va_Pc [.ref h0] (fun U => U.heap.size = sz ∧ va_P (dC, dI) cls2 (wz_565 h0 h0_name h0_place h0_names h0_places h0_types h0_parameters h0_locals h0_result h0_body h0_signature) U.heap ∧ va_K (dC, dI) cls2 [(cps, .object "java/lang/String"), (cr, .int)] U ∧ va_D (fun _ => True) (wz_565 h0 h0_name h0_place h0_names h0_places h0_types h0_parameters h0_locals h0_result h0_body h0_signature) ∧ sm sa (va_A (wz_565 h0 h0_name h0_place h0_names h0_places h0_types h0_parameters h0_locals h0_result h0_body h0_signature) sz) U U.heap ∧ hsl U.heap = szl)) (va_Qv (fun (u : (Nat → Option Nat) × (Nat → Int32) × (Nat → Int32) × Nat × Nat × Nat × Nat × Nat) => match u with | (gnw12, gnw22, gnw32, kcz2, knz2, nw12, nw22, nw32) => (kcz2 = 3 ∧ knz2 = 110)) (at_MF_init dC dI sz szl sa h0 cps cr h0_name h0_place h0_names h0_places h0_types h0_parameters h0_locals h0_result h0_body h0_signature (va_A (wz_565 h0 h0_name h0_place h0_names h0_places h0_types h0_parameters h0_locals h0_result h0_body h0_signature) sz)) (va_A (wz_565 h0 h0_name h0_place h0_names h0_places h0_types h0_parameters h0_locals h0_result h0_body h0_signature) sz)) (3) (110) (va_A (wz_565 h0 h0_name h0_place h0_names h0_places h0_types h0_parameters h0_locals h0_result h0_body h0_signature) sz) := by
  refine Met.ofW (cc := b_MF_init) (maxL := 1) (ret := none) (by decide) rfl ?_
  intro p e s m args below meth c s₁ B hml hv
  obtain ⟨rfl, hsz, hP, hK, hD0, hSW, hszl⟩ := hv
  have hx := B.exec
  have hb := B.bytes
  have hr := B.returns
  have hts0 := atoms_spec (ws := w_MF_init) B.pre
  have hts : ∀ w ∈ lw_g, w.before _ s = true := fun w h => hts0 w (List.mem_cons_of_mem _ h)
  have hown : s.vm.findClass R_MF = some m.cls := findClass_of_methodNamed B.named
  have hlocks := B.notSynchronized
  clear hts0
  subst hsz
  subst hszl
  have hD := hD0.self (sz := s.heap.size)
  generalize hAe : va_A (wz_565 h0 h0_name h0_place h0_names h0_places h0_types h0_parameters h0_locals h0_result h0_body h0_signature) s.heap.size = A at hD hSW ⊢
  have hA : ∀ q : Nat, s.heap.size ≤ q → A q := fun q h => by rw [← hAe]; exact Or.inr h
  clear hAe
  have hP : va_P (dC, dI) cls2 (wz_565 h0 h0_name h0_place h0_names h0_places h0_types h0_parameters h0_locals h0_result h0_body h0_signature) s.heap := hP
  have hl := lv_entry ([.ref h0]) (n := 1) (Nat.le_of_ble_eq_true rfl)
  rw [lg_entry_eq]
  generalize (lg_sl ([.ref h0]) ++ List.replicate (1 - (lg_sl ([.ref h0])).length) Slot.unset).toArray = ls at hl ⊢
  have hl : lv_has ls 1 [(0, .ref h0)] := hl
  have k0 : (0 : Int32).toInt = 0 := by decide
  refine w_gen (A := A) hP (fun H locs hP hS => ?_)
  have k8 : (8 : Int32).toInt = 8 := by decide
  have k51 : (51 : Int32).toInt = 51 := by decide
  have hin : meth.name = "<init>" := (name_of_methodNamed B.named B.method).1
  refine lv_aload_n hx hb d_MF_init_0 rfl (lv_at hl 0 rfl) ?_
  refine W.objInit hx hb hown (hts _ kM_MF_1) (hts _ kV_oi) (hts _ kC_oi) rfl (by rw [hml]; exact hl.1) rfl d_MF_init_1 (Nat.le_of_ble_eq_true rfl) (Nat.le_of_ble_eq_true rfl) ?_
  refine W.eq (g2 := F0 m 4 ls []) rfl ?_
  refine lv_aload_n hx hb d_MF_init_4 rfl (lv_at hl 0 rfl) ?_
  refine lv_bipush (v := 51) hx hb d_MF_init_5 (by decide) ?_
  refine vn_newq (C := "java/lang/String") hx hb hown (hts _ kK_MF_7) (hSW.aoS) hK hP hD hS hA 0 rfl 51 (by decide) rfl (by (first | (apply Int.le_antisymm <;> omega) | omega)) (by dsimp only [headSpec]; (first | (apply Int.le_antisymm <;> omega) | omega)) (by dsimp only [headSpec]; (first | (apply Int.le_antisymm <;> omega) | omega)) d_MF_init_7 (fun nq7 H hP hD hS => ?_)
  have hP : va_P (dC, dI) cls2 [(h0, .inr (14, [h0_name, .int h0_place, h0_names, h0_places, h0_types, .int h0_parameters, .int h0_locals, .int h0_result, h0_body, .int h0_signature])), (nq7, .inl (cps, 51, .inr (.inr (.inr (.inr (fun _ => none))))))] H := hP
  have hD : va_D A [(h0, .inr (14, [h0_name, .int h0_place, h0_names, h0_places, h0_types, .int h0_parameters, .int h0_locals, .int h0_result, h0_body, .int h0_signature])), (nq7, .inl (cps, 51, .inr (.inr (.inr (.inr (fun _ => none))))))] := hD
  refine va_putF (D := (dC, dI)) (ci := 14) (v := .ref nq7) (ty := .array (.object "java/lang/String")) (C := R_MF) (T := F_MF) (N := 10) hx hb hts i_MF t_MF t_MF_ok n_MF hown hK hP hD hS 0 rfl rfl 2 (by decide) (hts _ kF_MF_9) (fun _ h9 => h9) rfl hin rfl (by decide +kernel) rfl rfl (Nat.le_of_ble_eq_true rfl) d_MF_init_10 (fun H locs hP hD hS => ?_)
  have hP : va_P (dC, dI) cls2 [(h0, .inr (14, [h0_name, .int h0_place, .ref nq7, h0_places, h0_types, .int h0_parameters, .int h0_locals, .int h0_result, h0_body, .int h0_signature])), (nq7, .inl (cps, 51, .inr (.inr (.inr (.inr (fun _ => none))))))] H := hP
  have hD : va_D A [(h0, .inr (14, [h0_name, .int h0_place, .ref nq7, h0_places, h0_types, .int h0_parameters, .int h0_locals, .int h0_result, h0_body, .int h0_signature])), (nq7, .inl (cps, 51, .inr (.inr (.inr (.inr (fun _ => none))))))] := hD
  refine lv_aload_n hx hb d_MF_init_13 rfl (lv_at hl 0 rfl) ?_
  refine lv_bipush (v := 8) hx hb d_MF_init_14 (by decide) ?_
  refine vn_newi hx hb (hts _ ka_int) hK hP hD hS hA 1 rfl 8 (by decide) rfl (by (first | (apply Int.le_antisymm <;> omega) | omega)) (by dsimp only [headSpec]; (first | (apply Int.le_antisymm <;> omega) | omega)) (by dsimp only [headSpec]; (first | (apply Int.le_antisymm <;> omega) | omega)) d_MF_init_16 (fun nq16 H hP hD hS => ?_)
  have hP : va_P (dC, dI) cls2 [(h0, .inr (14, [h0_name, .int h0_place, .ref nq7, h0_places, h0_types, .int h0_parameters, .int h0_locals, .int h0_result, h0_body, .int h0_signature])), (nq7, .inl (cps, 51, .inr (.inr (.inr (.inr (fun _ => none)))))), (nq16, .inl (cr, 8, .inl (fun _ => 0)))] H := hP
  have hD : va_D A [(h0, .inr (14, [h0_name, .int h0_place, .ref nq7, h0_places, h0_types, .int h0_parameters, .int h0_locals, .int h0_result, h0_body, .int h0_signature])), (nq7, .inl (cps, 51, .inr (.inr (.inr (.inr (fun _ => none)))))), (nq16, .inl (cr, 8, .inl (fun _ => 0)))] := hD
  refine va_putF (D := (dC, dI)) (ci := 14) (v := .ref nq16) (ty := .array .int) (C := R_MF) (T := F_MF) (N := 10) hx hb hts i_MF t_MF t_MF_ok n_MF hown hK hP hD hS 0 rfl rfl 3 (by decide) (hts _ kF_MF_15) (fun _ h9 => h9) rfl hin rfl (by decide +kernel) rfl rfl (Nat.le_of_ble_eq_true rfl) d_MF_init_18 (fun H locs hP hD hS => ?_)
  have hP : va_P (dC, dI) cls2 [(h0, .inr (14, [h0_name, .int h0_place, .ref nq7, .ref nq16, h0_types, .int h0_parameters, .int h0_locals, .int h0_result, h0_body, .int h0_signature])), (nq7, .inl (cps, 51, .inr (.inr (.inr (.inr (fun _ => none)))))), (nq16, .inl (cr, 8, .inl (fun _ => 0)))] H := hP
  have hD : va_D A [(h0, .inr (14, [h0_name, .int h0_place, .ref nq7, .ref nq16, h0_types, .int h0_parameters, .int h0_locals, .int h0_result, h0_body, .int h0_signature])), (nq7, .inl (cps, 51, .inr (.inr (.inr (.inr (fun _ => none)))))), (nq16, .inl (cr, 8, .inl (fun _ => 0)))] := hD
  refine lv_aload_n hx hb d_MF_init_21 rfl (lv_at hl 0 rfl) ?_
  refine lv_bipush (v := 51) hx hb d_MF_init_22 (by decide) ?_
  refine vn_newi hx hb (hts _ ka_int) hK hP hD hS hA 1 rfl 51 (by decide) rfl (by (first | (apply Int.le_antisymm <;> omega) | omega)) (by dsimp only [headSpec]; (first | (apply Int.le_antisymm <;> omega) | omega)) (by dsimp only [headSpec]; (first | (apply Int.le_antisymm <;> omega) | omega)) d_MF_init_24 (fun nq24 H hP hD hS => ?_)
  have hP : va_P (dC, dI) cls2 [(h0, .inr (14, [h0_name, .int h0_place, .ref nq7, .ref nq16, h0_types, .int h0_parameters, .int h0_locals, .int h0_result, h0_body, .int h0_signature])), (nq7, .inl (cps, 51, .inr (.inr (.inr (.inr (fun _ => none)))))), (nq16, .inl (cr, 8, .inl (fun _ => 0))), (nq24, .inl (cr, 51, .inl (fun _ => 0)))] H := hP
  have hD : va_D A [(h0, .inr (14, [h0_name, .int h0_place, .ref nq7, .ref nq16, h0_types, .int h0_parameters, .int h0_locals, .int h0_result, h0_body, .int h0_signature])), (nq7, .inl (cps, 51, .inr (.inr (.inr (.inr (fun _ => none)))))), (nq16, .inl (cr, 8, .inl (fun _ => 0))), (nq24, .inl (cr, 51, .inl (fun _ => 0)))] := hD
  refine va_putF (D := (dC, dI)) (ci := 14) (v := .ref nq24) (ty := .array .int) (C := R_MF) (T := F_MF) (N := 10) hx hb hts i_MF t_MF t_MF_ok n_MF hown hK hP hD hS 0 rfl rfl 4 (by decide) (hts _ kF_MF_19) (fun _ h9 => h9) rfl hin rfl (by decide +kernel) rfl rfl (Nat.le_of_ble_eq_true rfl) d_MF_init_26 (fun H locs hP hD hS => ?_)
  have hP : va_P (dC, dI) cls2 (wz_566 h0 h0_name h0_place nq7 nq16 nq24 h0_parameters h0_locals h0_result h0_body h0_signature nq7 cps (fun _ => none) nq16 cr (fun _ => 0) nq24 cr (fun _ => 0)) H := hP
  have hD : va_D A (wz_566 h0 h0_name h0_place nq7 nq16 nq24 h0_parameters h0_locals h0_result h0_body h0_signature nq7 cps (fun _ => none) nq16 cr (fun _ => 0) nq24 cr (fun _ => 0)) := hD
  have hP9 := hP.sb (wq := (wz_566 h0 h0_name h0_place nq7 nq16 nq24 h0_parameters h0_locals h0_result h0_body h0_signature nq7 cps (fun _ => none) nq16 cr (fun _ => 0) nq24 cr (fun _ => 0))) [0, 1, 2, 3] rfl
  have hD9 := hD.sb (wq := (wz_566 h0 h0_name h0_place nq7 nq16 nq24 h0_parameters h0_locals h0_result h0_body h0_signature nq7 cps (fun _ => none) nq16 cr (fun _ => 0) nq24 cr (fun _ => 0))) [0, 1, 2, 3] (by decide) rfl
  refine w_known (fun hzc hzs => ?_)
  refine W.widen (k := 3) (n := 110) (by (first | (apply Int.le_antisymm <;> omega) | omega)) (by (first | (apply Int.le_antisymm <;> omega) | omega)) ?_
  exact W.vret hx hb hr (fun t ht hW => ⟨⟨(fun _ => none, fun _ => 0, fun _ => 0, 0 + 1 + 1 + 1, 0 + 51 + 8 + 51, nq7, nq16, nq24), rfl, (⟨by (first | (apply Int.le_antisymm <;> omega) | omega), by (first | (apply Int.le_antisymm <;> omega) | omega)⟩), va_P.he ht.symm hP9, va_K.moved hW.alike hK, hD9, by rw [ht]; exact hzc, by rw [ht]; exact hzs⟩, hS.F ht⟩) hS.2.2 d_MF_init_29

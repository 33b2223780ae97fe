/-! constructors: ByteRow, Names, Codes, Wafer, Reader, Validator, Machine -/
theorem lt_all {N : Nat} {ty : Nat → FieldType} {fs : List Value} (h : (List.range N).all (fun j => decide (defaultValue (ty j) = vp_V fs j)) = true) : ∀ j, j < N → defaultValue (ty j) = vp_V fs j := fun j hj => of_decide_eq_true (List.all_eq_true.mp h j (List.mem_range.mpr hj))
abbrev b_BR_init : ByteArray := prog_3_method_1_code
def y_BR_init : MethodName := ⟨R_BR, "<init>", "(I)V"⟩
abbrev w_BR_init : List Cond := .code y_BR_init b_BR_init 2 none :: lw_g
theorem kC_BR_init : Cond.code y_BR_init b_BR_init 2 none ∈ lw_g := in_c1 53 rfl rfl
theorem d_BR_init_0 : decode b_BR_init 0 = .ok (.aload_n 0, 1) := bz_c42 (by decide +kernel)
theorem d_BR_init_1 : decode b_BR_init 1 = .ok (.invokespecial 1, 3) := bz_c183 (by decide +kernel)
theorem d_BR_init_4 : decode b_BR_init 4 = .ok (.aload_n 0, 1) := bz_c42 (by decide +kernel)
theorem d_BR_init_5 : decode b_BR_init 5 = .ok (.iload_n 1, 1) := bz_c27 (by decide +kernel)
theorem d_BR_init_6 : decode b_BR_init 6 = .ok (.newarray .byte, 2) := by decide +kernel
theorem d_BR_init_8 : decode b_BR_init 8 = .ok (.putfield 7, 3) := bz_c181 (by decide +kernel)
theorem d_BR_init_11 : decode b_BR_init 11 = .ok (.return_, 1) := bz_c177 (by decide +kernel)
theorem kM_BR_1 : Cond.methodLink R_BR 1 Lib.objectInit ∈ lw_g := in_c1 54 rfl rfl
theorem kV_oi : Cond.instanceMethod Lib.objectInit ∈ lw_g := in_c1 47 rfl rfl
theorem kC_oi : Cond.code Lib.objectInit ⟨#[0xb1]⟩ 1 none ∈ lw_g := in_c1 48 rfl rfl
theorem ka_byte : Cond.arrayClass (newarray.typeOf .byte) ∈ lw_g := in_c1 68 rfl rfl
set_option maxHeartbeats 4000000 in
set_option maxRecDepth 100000 in
theorem c_BR_init2000 (l : Launch) (dC : Nat → ClassId) (dI : Nat → Nat → Nat) (sz : Nat) (h0  : Nat)   : Met l y_BR_init w_BR_init ({ frames := 1, cells := 1, slots := 2000, locals := 20 }) (va_Pc [.ref h0, .int 2000] (fun U => U.heap.size = sz ∧ va_P (dC, dI) cls [(h0, .inr (1, [.null, .int 0]))] U.heap ∧ va_K (dC, dI) cls [] U ∧ va_D (fun _ => True) [(h0, .inr (1, [.null, .int 0]))])) (va_Qv (fun (_ : Unit) => True) (fun (_ : Unit) (t : State) => ∃ (q6 : Nat) (c6 : ClassId), va_P (dC, dI) cls [(h0, .inr (1, [.ref q6, .int 0])), (q6, .inl (c6, 2000, .inl (fun _ => 0)))] t.heap ∧ va_K (dC, dI) cls [(c6, .byte)] t ∧ va_D (va_A [(h0, .inr (1, [.null, .int 0]))] sz) [(h0, .inr (1, [.ref q6, .int 0])), (q6, .inl (c6, 2000, .inl (fun _ => 0)))]) (va_A [(h0, .inr (1, [.null, .int 0]))] sz)) 1 2000 (va_A [(h0, .inr (1, [.null, .int 0]))] sz) := by
  refine Met.ofW (cc := b_BR_init) (maxL := 2) (ret := none) (by decide) rfl ?_
  intro p e s m args below meth c s₁ B hml hv
  obtain ⟨rfl, hsz, hP, hK, hD0⟩ := hv
  have hx := B.exec
  have hb := B.bytes
  have hr := B.returns
  have hts0 := atoms_spec (ws := w_BR_init) B.pre
  have hts : ∀ w ∈ lw_g, w.before _ s = true := fun w h => hts0 w (List.mem_cons_of_mem _ h)
  have hown : s.vm.findClass R_BR = some m.cls := findClass_of_methodNamed B.named
  have hlocks := B.notSynchronized
  clear hts0
  subst hsz
  have hD := hD0.self (sz := s.heap.size)
  generalize hAe : va_A [(h0, .inr (1, [.null, .int 0]))] s.heap.size = A at hD ⊢
  have hA : ∀ q : Nat, s.heap.size ≤ q → A q := fun q h => by rw [← hAe]; exact Or.inr h
  clear hAe
  have hP : va_P (dC, dI) cls [(h0, .inr (1, [.null, .int 0]))] s.heap := hP
  have hl := lv_entry ([.ref h0, .int 2000]) (n := 2) (Nat.le_of_ble_eq_true rfl)
  rw [lg_entry_eq]
  generalize (lg_sl ([.ref h0, .int 2000]) ++ List.replicate (2 - (lg_sl ([.ref h0, .int 2000])).length) Slot.unset).toArray = ls at hl ⊢
  have hl : lv_has ls 2 [(0, .ref h0), (1, .int 2000)] := hl
  have k0 : (0 : Int32).toInt = 0 := by decide
  refine w_gen (A := A) hP (fun H locs hP hS => ?_)
  have lo_2000 := i32_lo 2000
  have hi_2000 := i32_hi 2000
  have hin : meth.name = "<init>" := (name_of_methodNamed B.named B.method).1
  refine lv_aload_n hx hb d_BR_init_0 rfl (lv_at hl 0 rfl) ?_
  refine W.objInit hx hb hown (hts _ kM_BR_1) (hts _ kV_oi) (hts _ kC_oi) rfl (by rw [hml]; exact hl.1) rfl d_BR_init_1 (Nat.le_of_ble_eq_true rfl) (Nat.le_of_ble_eq_true rfl) ?_
  refine W.eq (g2 := F0 m 4 ls []) rfl ?_
  refine lv_aload_n hx hb d_BR_init_4 rfl (lv_at hl 0 rfl) ?_
  refine lv_iload_n hx hb d_BR_init_5 rfl (lv_at hl 1 rfl) ?_
  refine va_newa (atype := .byte) (ty := .byte) (N' := 2000) (a0 := (2000, .inl (fun _ => 0))) hx hb (hts _ ka_byte) rfl hK hP hD hS hA (fun _ => rfl) (by decide) (by decide) (by decide) (show _ ≤ 1 from Nat.le_of_ble_eq_true rfl) (show _ ≤ 2000 from Nat.le_of_ble_eq_true rfl) d_BR_init_6 (fun q6 c6 H hK hP hD hS => ?_)
  have hP : va_P (dC, dI) cls [(h0, .inr (1, [.null, .int 0])), (q6, .inl (c6, 2000, .inl (fun _ => 0)))] H := hP
  have hD : va_D A [(h0, .inr (1, [.null, .int 0])), (q6, .inl (c6, 2000, .inl (fun _ => 0)))] := hD
  have hK : va_K (dC, dI) cls [(c6, .byte)] s := hK
  refine va_putF (D := (dC, dI)) (ci := 1) (v := .ref q6) (ty := .array .byte) (C := R_BR) (T := F_BR) (N := 2) hx hb hts i_BR t_BR t_BR_ok n_BR hown hK hP hD hS 0 rfl rfl 0 (by decide) (hts _ kF_BR_7) (fun _ h9 => h9) rfl hin rfl (by decide +kernel) rfl rfl (Nat.le_of_ble_eq_true rfl) d_BR_init_8 (fun H locs hP hD hS => ?_)
  have hP : va_P (dC, dI) cls [(h0, .inr (1, [.ref q6, .int 0])), (q6, .inl (c6, 2000, .inl (fun _ => 0)))] H := hP
  have hD : va_D A [(h0, .inr (1, [.ref q6, .int 0])), (q6, .inl (c6, 2000, .inl (fun _ => 0)))] := hD
  refine W.widen (k := 1) (n := 2000) (Nat.le_of_ble_eq_true rfl) (Nat.le_of_ble_eq_true rfl) ?_
  exact W.vret hx hb hr (fun t ht hW => ⟨⟨(), rfl, trivial, q6, c6, va_P.he ht.symm hP, va_K.moved hW.alike hK, hD⟩, hS.F ht⟩) hS.2.2 d_BR_init_11
set_option maxHeartbeats 4000000 in
set_option maxRecDepth 100000 in
theorem c_BR_init8192 (l : Launch) (dC : Nat → ClassId) (dI : Nat → Nat → Nat) (sz : Nat) (h0  : Nat)   : Met l y_BR_init w_BR_init ({ frames := 1, cells := 1, slots := 8192, locals := 20 }) (va_Pc [.ref h0, .int 8192] (fun U => U.heap.size = sz ∧ va_P (dC, dI) cls [(h0, .inr (1, [.null, .int 0]))] U.heap ∧ va_K (dC, dI) cls [] U ∧ va_D (fun _ => True) [(h0, .inr (1, [.null, .int 0]))])) (va_Qv (fun (_ : Unit) => True) (fun (_ : Unit) (t : State) => ∃ (q6 : Nat) (c6 : ClassId), va_P (dC, dI) cls (wz_94 h0 q6 0 q6 c6 (fun _ => 0)) t.heap ∧ va_K (dC, dI) cls [(c6, .byte)] t ∧ va_D (va_A [(h0, .inr (1, [.null, .int 0]))] sz) (wz_94 h0 q6 0 q6 c6 (fun _ => 0))) (va_A [(h0, .inr (1, [.null, .int 0]))] sz)) 1 8192 (va_A [(h0, .inr (1, [.null, .int 0]))] sz) := by
  refine Met.ofW (cc := b_BR_init) (maxL := 2) (ret := none) (by decide) rfl ?_
  intro p e s m args below meth c s₁ B hml hv
  obtain ⟨rfl, hsz, hP, hK, hD0⟩ := hv
  have hx := B.exec
  have hb := B.bytes
  have hr := B.returns
  have hts0 := atoms_spec (ws := w_BR_init) B.pre
  have hts : ∀ w ∈ lw_g, w.before _ s = true := fun w h => hts0 w (List.mem_cons_of_mem _ h)
  have hown : s.vm.findClass R_BR = some m.cls := findClass_of_methodNamed B.named
  have hlocks := B.notSynchronized
  clear hts0
  subst hsz
  have hD := hD0.self (sz := s.heap.size)
  generalize hAe : va_A [(h0, .inr (1, [.null, .int 0]))] s.heap.size = A at hD ⊢
  have hA : ∀ q : Nat, s.heap.size ≤ q → A q := fun q h => by rw [← hAe]; exact Or.inr h
  clear hAe
  have hP : va_P (dC, dI) cls [(h0, .inr (1, [.null, .int 0]))] s.heap := hP
  have hl := lv_entry ([.ref h0, .int 8192]) (n := 2) (Nat.le_of_ble_eq_true rfl)
  rw [lg_entry_eq]
  generalize (lg_sl ([.ref h0, .int 8192]) ++ List.replicate (2 - (lg_sl ([.ref h0, .int 8192])).length) Slot.unset).toArray = ls at hl ⊢
  have hl : lv_has ls 2 [(0, .ref h0), (1, .int 8192)] := hl
  have k0 : (0 : Int32).toInt = 0 := by decide
  refine w_gen (A := A) hP (fun H locs hP hS => ?_)
  have lo_8192 := i32_lo 8192
  have hi_8192 := i32_hi 8192
  have hin : meth.name = "<init>" := (name_of_methodNamed B.named B.method).1
  refine lv_aload_n hx hb d_BR_init_0 rfl (lv_at hl 0 rfl) ?_
  refine W.objInit hx hb hown (hts _ kM_BR_1) (hts _ kV_oi) (hts _ kC_oi) rfl (by rw [hml]; exact hl.1) rfl d_BR_init_1 (Nat.le_of_ble_eq_true rfl) (Nat.le_of_ble_eq_true rfl) ?_
  refine W.eq (g2 := F0 m 4 ls []) rfl ?_
  refine lv_aload_n hx hb d_BR_init_4 rfl (lv_at hl 0 rfl) ?_
  refine lv_iload_n hx hb d_BR_init_5 rfl (lv_at hl 1 rfl) ?_
  refine va_newa (atype := .byte) (ty := .byte) (N' := 8192) (a0 := (8192, .inl (fun _ => 0))) hx hb (hts _ ka_byte) rfl hK hP hD hS hA (fun _ => rfl) (by decide) (by decide) (by decide) (show _ ≤ 1 from Nat.le_of_ble_eq_true rfl) (show _ ≤ 8192 from Nat.le_of_ble_eq_true rfl) d_BR_init_6 (fun q6 c6 H hK hP hD hS => ?_)
  have hP : va_P (dC, dI) cls [(h0, .inr (1, [.null, .int 0])), (q6, .inl (c6, 8192, .inl (fun _ => 0)))] H := hP
  have hD : va_D A [(h0, .inr (1, [.null, .int 0])), (q6, .inl (c6, 8192, .inl (fun _ => 0)))] := hD
  have hK : va_K (dC, dI) cls [(c6, .byte)] s := hK
  refine va_putF (D := (dC, dI)) (ci := 1) (v := .ref q6) (ty := .array .byte) (C := R_BR) (T := F_BR) (N := 2) hx hb hts i_BR t_BR t_BR_ok n_BR hown hK hP hD hS 0 rfl rfl 0 (by decide) (hts _ kF_BR_7) (fun _ h9 => h9) rfl hin rfl (by decide +kernel) rfl rfl (Nat.le_of_ble_eq_true rfl) d_BR_init_8 (fun H locs hP hD hS => ?_)
  have hP : va_P (dC, dI) cls (wz_94 h0 q6 0 q6 c6 (fun _ => 0)) H := hP
  have hD : va_D A (wz_94 h0 q6 0 q6 c6 (fun _ => 0)) := hD
  refine W.widen (k := 1) (n := 8192) (Nat.le_of_ble_eq_true rfl) (Nat.le_of_ble_eq_true rfl) ?_
  exact W.vret hx hb hr (fun t ht hW => ⟨⟨(), rfl, trivial, q6, c6, va_P.he ht.symm hP, va_K.moved hW.alike hK, hD⟩, hS.F ht⟩) hS.2.2 d_BR_init_11
abbrev b_NA_init : ByteArray := prog_7_method_1_code
def y_NA_init : MethodName := ⟨R_NA, "<init>", "(LWaferForge$ByteRow;I)V"⟩
abbrev w_NA_init : List Cond := .code y_NA_init b_NA_init 3 none :: lw_g
theorem kC_NA_init : Cond.code y_NA_init b_NA_init 3 none ∈ lw_g := in_c2 72 rfl rfl
theorem d_NA_init_0 : decode b_NA_init 0 = .ok (.aload_n 0, 1) := bz_c42 (by decide +kernel)
theorem d_NA_init_1 : decode b_NA_init 1 = .ok (.invokespecial 1, 3) := bz_c183 (by decide +kernel)
theorem d_NA_init_4 : decode b_NA_init 4 = .ok (.aload_n 0, 1) := bz_c42 (by decide +kernel)
theorem d_NA_init_5 : decode b_NA_init 5 = .ok (.aload_n 1, 1) := bz_c43 (by decide +kernel)
theorem d_NA_init_6 : decode b_NA_init 6 = .ok (.putfield 7, 3) := bz_c181 (by decide +kernel)
theorem d_NA_init_9 : decode b_NA_init 9 = .ok (.aload_n 0, 1) := bz_c42 (by decide +kernel)
theorem d_NA_init_10 : decode b_NA_init 10 = .ok (.iload_n 2, 1) := bz_c28 (by decide +kernel)
theorem d_NA_init_11 : decode b_NA_init 11 = .ok (.newarray .int, 2) := by decide +kernel
theorem d_NA_init_13 : decode b_NA_init 13 = .ok (.putfield 13, 3) := bz_c181 (by decide +kernel)
theorem d_NA_init_16 : decode b_NA_init 16 = .ok (.aload_n 0, 1) := bz_c42 (by decide +kernel)
theorem d_NA_init_17 : decode b_NA_init 17 = .ok (.iload_n 2, 1) := bz_c28 (by decide +kernel)
theorem d_NA_init_18 : decode b_NA_init 18 = .ok (.newarray .int, 2) := by decide +kernel
theorem d_NA_init_20 : decode b_NA_init 20 = .ok (.putfield 17, 3) := bz_c181 (by decide +kernel)
theorem d_NA_init_23 : decode b_NA_init 23 = .ok (.aload_n 0, 1) := bz_c42 (by decide +kernel)
theorem d_NA_init_24 : decode b_NA_init 24 = .ok (.iload_n 2, 1) := bz_c28 (by decide +kernel)
theorem d_NA_init_25 : decode b_NA_init 25 = .ok (.newarray .int, 2) := by decide +kernel
theorem d_NA_init_27 : decode b_NA_init 27 = .ok (.putfield 20, 3) := bz_c181 (by decide +kernel)
theorem d_NA_init_30 : decode b_NA_init 30 = .ok (.aload_n 0, 1) := bz_c42 (by decide +kernel)
theorem d_NA_init_31 : decode b_NA_init 31 = .ok (.iload_n 2, 1) := bz_c28 (by decide +kernel)
theorem d_NA_init_32 : decode b_NA_init 32 = .ok (.newarray .long, 2) := by decide +kernel
theorem d_NA_init_34 : decode b_NA_init 34 = .ok (.putfield 23, 3) := bz_c181 (by decide +kernel)
theorem d_NA_init_37 : decode b_NA_init 37 = .ok (.return_, 1) := bz_c177 (by decide +kernel)
theorem kM_NA_1 : Cond.methodLink R_NA 1 Lib.objectInit ∈ lw_g := in_c2 73 rfl rfl
theorem ka_int : Cond.arrayClass (newarray.typeOf .int) ∈ lw_g := in_c1 140 rfl rfl
theorem ka_long : Cond.arrayClass (newarray.typeOf .long) ∈ lw_g := in_c1 139 rfl rfl
set_option maxHeartbeats 4000000 in
set_option maxRecDepth 100000 in
theorem c_NA_init20 (l : Launch) (dC : Nat → ClassId) (dI : Nat → Nat → Nat) (sz : Nat) (h0  : Nat)  (tx : Nat) : Met l y_NA_init w_NA_init ({ frames := 1, cells := 4, slots := 80, locals := 20 }) (va_Pc [.ref h0, .ref tx, .int 20] (fun U => U.heap.size = sz ∧ va_P (dC, dI) cls [(h0, .inr (5, [.null, .null, .null, .null, .null, .int 0]))] U.heap ∧ va_K (dC, dI) cls [] U ∧ va_D (fun _ => True) [(h0, .inr (5, [.null, .null, .null, .null, .null, .int 0]))])) (va_Qv (fun (_ : Unit) => True) (fun (_ : Unit) (t : State) => ∃ (q11 q18 q25 q32 : Nat) (c11 c18 c25 c32 : ClassId), va_P (dC, dI) cls (wz_116 h0 tx q11 q18 q25 q32 0 q11 c11 (fun _ => 0) q18 c18 (fun _ => 0) q25 c25 (fun _ => 0) q32 c32 (fun _ => 0)) t.heap ∧ va_K (dC, dI) cls [(c11, .int), (c18, .int), (c25, .int), (c32, .long)] t ∧ va_D (va_A [(h0, .inr (5, [.null, .null, .null, .null, .null, .int 0]))] sz) (wz_116 h0 tx q11 q18 q25 q32 0 q11 c11 (fun _ => 0) q18 c18 (fun _ => 0) q25 c25 (fun _ => 0) q32 c32 (fun _ => 0))) (va_A [(h0, .inr (5, [.null, .null, .null, .null, .null, .int 0]))] sz)) 4 80 (va_A [(h0, .inr (5, [.null, .null, .null, .null, .null, .int 0]))] sz) := by
  refine Met.ofW (cc := b_NA_init) (maxL := 3) (ret := none) (by decide) rfl ?_
  intro p e s m args below meth c s₁ B hml hv
  obtain ⟨rfl, hsz, hP, hK, hD0⟩ := hv
  have hx := B.exec
  have hb := B.bytes
  have hr := B.returns
  have hts0 := atoms_spec (ws := w_NA_init) B.pre
  have hts : ∀ w ∈ lw_g, w.before _ s = true := fun w h => hts0 w (List.mem_cons_of_mem _ h)
  have hown : s.vm.findClass R_NA = some m.cls := findClass_of_methodNamed B.named
  have hlocks := B.notSynchronized
  clear hts0
  subst hsz
  have hD := hD0.self (sz := s.heap.size)
  generalize hAe : va_A [(h0, .inr (5, [.null, .null, .null, .null, .null, .int 0]))] s.heap.size = A at hD ⊢
  have hA : ∀ q : Nat, s.heap.size ≤ q → A q := fun q h => by rw [← hAe]; exact Or.inr h
  clear hAe
  have hP : va_P (dC, dI) cls [(h0, .inr (5, [.null, .null, .null, .null, .null, .int 0]))] s.heap := hP
  have hl := lv_entry ([.ref h0, .ref tx, .int 20]) (n := 3) (Nat.le_of_ble_eq_true rfl)
  rw [lg_entry_eq]
  generalize (lg_sl ([.ref h0, .ref tx, .int 20]) ++ List.replicate (3 - (lg_sl ([.ref h0, .ref tx, .int 20])).length) Slot.unset).toArray = ls at hl ⊢
  have hl : lv_has ls 3 [(0, .ref h0), (1, .ref tx), (2, .int 20)] := hl
  have k0 : (0 : Int32).toInt = 0 := by decide
  refine w_gen (A := A) hP (fun H locs hP hS => ?_)
  have lo_20 := i32_lo 20
  have hi_20 := i32_hi 20
  have hin : meth.name = "<init>" := (name_of_methodNamed B.named B.method).1
  refine lv_aload_n hx hb d_NA_init_0 rfl (lv_at hl 0 rfl) ?_
  refine W.objInit hx hb hown (hts _ kM_NA_1) (hts _ kV_oi) (hts _ kC_oi) rfl (by rw [hml]; exact hl.1) rfl d_NA_init_1 (Nat.le_of_ble_eq_true rfl) (Nat.le_of_ble_eq_true rfl) ?_
  refine W.eq (g2 := F0 m 4 ls []) rfl ?_
  refine lv_aload_n hx hb d_NA_init_4 rfl (lv_at hl 0 rfl) ?_
  refine lv_aload_n hx hb d_NA_init_5 rfl (lv_at hl 1 rfl) ?_
  refine va_putF (D := (dC, dI)) (ci := 5) (v := .ref tx) (ty := .object "WaferForge$ByteRow") (C := R_NA) (T := F_NA) (N := 6) hx hb hts i_NA t_NA t_NA_ok n_NA hown hK hP hD hS 0 rfl rfl 0 (by decide) (hts _ kF_NA_7) (fun _ h9 => h9) rfl hin rfl (by decide +kernel) rfl rfl (Nat.le_of_ble_eq_true rfl) d_NA_init_6 (fun H locs hP hD hS => ?_)
  have hP : va_P (dC, dI) cls [(h0, .inr (5, [.ref tx, .null, .null, .null, .null, .int 0]))] H := hP
  have hD : va_D A [(h0, .inr (5, [.ref tx, .null, .null, .null, .null, .int 0]))] := hD
  refine lv_aload_n hx hb d_NA_init_9 rfl (lv_at hl 0 rfl) ?_
  refine lv_iload_n hx hb d_NA_init_10 rfl (lv_at hl 2 rfl) ?_
  refine va_newa (atype := .int) (ty := .int) (N' := 20) (a0 := (20, .inl (fun _ => 0))) hx hb (hts _ ka_int) rfl hK hP hD hS hA (fun _ => rfl) (by decide) (by decide) (by decide) (show _ ≤ 4 from Nat.le_of_ble_eq_true rfl) (show _ ≤ 80 from Nat.le_of_ble_eq_true rfl) d_NA_init_11 (fun q11 c11 H hK hP hD hS => ?_)
  have hP : va_P (dC, dI) cls [(h0, .inr (5, [.ref tx, .null, .null, .null, .null, .int 0])), (q11, .inl (c11, 20, .inl (fun _ => 0)))] H := hP
  have hD : va_D A [(h0, .inr (5, [.ref tx, .null, .null, .null, .null, .int 0])), (q11, .inl (c11, 20, .inl (fun _ => 0)))] := hD
  have hK : va_K (dC, dI) cls [(c11, .int)] s := hK
  refine va_putF (D := (dC, dI)) (ci := 5) (v := .ref q11) (ty := .array .int) (C := R_NA) (T := F_NA) (N := 6) hx hb hts i_NA t_NA t_NA_ok n_NA hown hK hP hD hS 0 rfl rfl 1 (by decide) (hts _ kF_NA_13) (fun _ h9 => h9) rfl hin rfl (by decide +kernel) rfl rfl (Nat.le_of_ble_eq_true rfl) d_NA_init_13 (fun H locs hP hD hS => ?_)
  have hP : va_P (dC, dI) cls [(h0, .inr (5, [.ref tx, .ref q11, .null, .null, .null, .int 0])), (q11, .inl (c11, 20, .inl (fun _ => 0)))] H := hP
  have hD : va_D A [(h0, .inr (5, [.ref tx, .ref q11, .null, .null, .null, .int 0])), (q11, .inl (c11, 20, .inl (fun _ => 0)))] := hD
  refine lv_aload_n hx hb d_NA_init_16 rfl (lv_at hl 0 rfl) ?_
  refine lv_iload_n hx hb d_NA_init_17 rfl (lv_at hl 2 rfl) ?_
  refine va_newa (atype := .int) (ty := .int) (N' := 20) (a0 := (20, .inl (fun _ => 0))) hx hb (hts _ ka_int) rfl hK hP hD hS hA (fun _ => rfl) (by decide) (by decide) (by decide) (show _ ≤ 4 from Nat.le_of_ble_eq_true rfl) (show _ ≤ 80 from Nat.le_of_ble_eq_true rfl) d_NA_init_18 (fun q18 c18 H hK hP hD hS => ?_)
  have hP : va_P (dC, dI) cls [(h0, .inr (5, [.ref tx, .ref q11, .null, .null, .null, .int 0])), (q11, .inl (c11, 20, .inl (fun _ => 0))), (q18, .inl (c18, 20, .inl (fun _ => 0)))] H := hP
  have hD : va_D A [(h0, .inr (5, [.ref tx, .ref q11, .null, .null, .null, .int 0])), (q11, .inl (c11, 20, .inl (fun _ => 0))), (q18, .inl (c18, 20, .inl (fun _ => 0)))] := hD
  have hK : va_K (dC, dI) cls [(c11, .int), (c18, .int)] s := hK
  refine va_putF (D := (dC, dI)) (ci := 5) (v := .ref q18) (ty := .array .int) (C := R_NA) (T := F_NA) (N := 6) hx hb hts i_NA t_NA t_NA_ok n_NA hown hK hP hD hS 0 rfl rfl 2 (by decide) (hts _ kF_NA_17) (fun _ h9 => h9) rfl hin rfl (by decide +kernel) rfl rfl (Nat.le_of_ble_eq_true rfl) d_NA_init_20 (fun H locs hP hD hS => ?_)
  have hP : va_P (dC, dI) cls [(h0, .inr (5, [.ref tx, .ref q11, .ref q18, .null, .null, .int 0])), (q11, .inl (c11, 20, .inl (fun _ => 0))), (q18, .inl (c18, 20, .inl (fun _ => 0)))] H := hP
  have hD : va_D A [(h0, .inr (5, [.ref tx, .ref q11, .ref q18, .null, .null, .int 0])), (q11, .inl (c11, 20, .inl (fun _ => 0))), (q18, .inl (c18, 20, .inl (fun _ => 0)))] := hD
  refine lv_aload_n hx hb d_NA_init_23 rfl (lv_at hl 0 rfl) ?_
  refine lv_iload_n hx hb d_NA_init_24 rfl (lv_at hl 2 rfl) ?_
  refine va_newa (atype := .int) (ty := .int) (N' := 20) (a0 := (20, .inl (fun _ => 0))) hx hb (hts _ ka_int) rfl hK hP hD hS hA (fun _ => rfl) (by decide) (by decide) (by decide) (show _ ≤ 4 from Nat.le_of_ble_eq_true rfl) (show _ ≤ 80 from Nat.le_of_ble_eq_true rfl) d_NA_init_25 (fun q25 c25 H hK hP hD hS => ?_)
  have hP : va_P (dC, dI) cls [(h0, .inr (5, [.ref tx, .ref q11, .ref q18, .null, .null, .int 0])), (q11, .inl (c11, 20, .inl (fun _ => 0))), (q18, .inl (c18, 20, .inl (fun _ => 0))), (q25, .inl (c25, 20, .inl (fun _ => 0)))] H := hP
  have hD : va_D A [(h0, .inr (5, [.ref tx, .ref q11, .ref q18, .null, .null, .int 0])), (q11, .inl (c11, 20, .inl (fun _ => 0))), (q18, .inl (c18, 20, .inl (fun _ => 0))), (q25, .inl (c25, 20, .inl (fun _ => 0)))] := hD
  have hK : va_K (dC, dI) cls [(c11, .int), (c18, .int), (c25, .int)] s := hK
  refine va_putF (D := (dC, dI)) (ci := 5) (v := .ref q25) (ty := .array .int) (C := R_NA) (T := F_NA) (N := 6) hx hb hts i_NA t_NA t_NA_ok n_NA hown hK hP hD hS 0 rfl rfl 3 (by decide) (hts _ kF_NA_20) (fun _ h9 => h9) rfl hin rfl (by decide +kernel) rfl rfl (Nat.le_of_ble_eq_true rfl) d_NA_init_27 (fun H locs hP hD hS => ?_)
  have hP : va_P (dC, dI) cls [(h0, .inr (5, [.ref tx, .ref q11, .ref q18, .ref q25, .null, .int 0])), (q11, .inl (c11, 20, .inl (fun _ => 0))), (q18, .inl (c18, 20, .inl (fun _ => 0))), (q25, .inl (c25, 20, .inl (fun _ => 0)))] H := hP
  have hD : va_D A [(h0, .inr (5, [.ref tx, .ref q11, .ref q18, .ref q25, .null, .int 0])), (q11, .inl (c11, 20, .inl (fun _ => 0))), (q18, .inl (c18, 20, .inl (fun _ => 0))), (q25, .inl (c25, 20, .inl (fun _ => 0)))] := hD
  refine lv_aload_n hx hb d_NA_init_30 rfl (lv_at hl 0 rfl) ?_
  refine lv_iload_n hx hb d_NA_init_31 rfl (lv_at hl 2 rfl) ?_
  refine va_newa (atype := .long) (ty := .long) (N' := 20) (a0 := (20, .inr (.inl (fun _ => 0)))) hx hb (hts _ ka_long) rfl hK hP hD hS hA (fun _ => rfl) (by decide) (by decide) (by decide) (show _ ≤ 4 from Nat.le_of_ble_eq_true rfl) (show _ ≤ 80 from Nat.le_of_ble_eq_true rfl) d_NA_init_32 (fun q32 c32 H hK hP hD hS => ?_)
  have hP : va_P (dC, dI) cls [(h0, .inr (5, [.ref tx, .ref q11, .ref q18, .ref q25, .null, .int 0])), (q11, .inl (c11, 20, .inl (fun _ => 0))), (q18, .inl (c18, 20, .inl (fun _ => 0))), (q25, .inl (c25, 20, .inl (fun _ => 0))), (q32, .inl (c32, 20, .inr (.inl (fun _ => 0))))] H := hP
  have hD : va_D A [(h0, .inr (5, [.ref tx, .ref q11, .ref q18, .ref q25, .null, .int 0])), (q11, .inl (c11, 20, .inl (fun _ => 0))), (q18, .inl (c18, 20, .inl (fun _ => 0))), (q25, .inl (c25, 20, .inl (fun _ => 0))), (q32, .inl (c32, 20, .inr (.inl (fun _ => 0))))] := hD
  have hK : va_K (dC, dI) cls [(c11, .int), (c18, .int), (c25, .int), (c32, .long)] s := hK
  refine va_putF (D := (dC, dI)) (ci := 5) (v := .ref q32) (ty := .array .long) (C := R_NA) (T := F_NA) (N := 6) hx hb hts i_NA t_NA t_NA_ok n_NA hown hK hP hD hS 0 rfl rfl 4 (by decide) (hts _ kF_NA_23) (fun _ h9 => h9) rfl hin rfl (by decide +kernel) rfl rfl (Nat.le_of_ble_eq_true rfl) d_NA_init_34 (fun H locs hP hD hS => ?_)
  have hP : va_P (dC, dI) cls (wz_116 h0 tx q11 q18 q25 q32 0 q11 c11 (fun _ => 0) q18 c18 (fun _ => 0) q25 c25 (fun _ => 0) q32 c32 (fun _ => 0)) H := hP
  have hD : va_D A (wz_116 h0 tx q11 q18 q25 q32 0 q11 c11 (fun _ => 0) q18 c18 (fun _ => 0) q25 c25 (fun _ => 0) q32 c32 (fun _ => 0)) := hD
  refine W.widen (k := 4) (n := 80) (Nat.le_of_ble_eq_true rfl) (Nat.le_of_ble_eq_true rfl) ?_
  exact W.vret hx hb hr (fun t ht hW => ⟨⟨(), rfl, trivial, q11, q18, q25, q32, c11, c18, c25, c32, va_P.he ht.symm hP, va_K.moved hW.alike hK, hD⟩, hS.F ht⟩) hS.2.2 d_NA_init_37
set_option maxHeartbeats 4000000 in
set_option maxRecDepth 100000 in
theorem c_NA_init50 (l : Launch) (dC : Nat → ClassId) (dI : Nat → Nat → Nat) (sz : Nat) (h0  : Nat)  (tx : Nat) : Met l y_NA_init w_NA_init ({ frames := 1, cells := 4, slots := 200, locals := 20 }) (va_Pc [.ref h0, .ref tx, .int 50] (fun U => U.heap.size = sz ∧ va_P (dC, dI) cls [(h0, .inr (5, [.null, .null, .null, .null, .null, .int 0]))] U.heap ∧ va_K (dC, dI) cls [] U ∧ va_D (fun _ => True) [(h0, .inr (5, [.null, .null, .null, .null, .null, .int 0]))])) (va_Qv (fun (_ : Unit) => True) (fun (_ : Unit) (t : State) => ∃ (q11 q18 q25 q32 : Nat) (c11 c18 c25 c32 : ClassId), va_P (dC, dI) cls (wz_152 h0 tx q11 q18 q25 q32 0 q11 c11 (fun _ => 0) q18 c18 (fun _ => 0) q25 c25 (fun _ => 0) q32 c32 (fun _ => 0)) t.heap ∧ va_K (dC, dI) cls [(c11, .int), (c18, .int), (c25, .int), (c32, .long)] t ∧ va_D (va_A [(h0, .inr (5, [.null, .null, .null, .null, .null, .int 0]))] sz) (wz_152 h0 tx q11 q18 q25 q32 0 q11 c11 (fun _ => 0) q18 c18 (fun _ => 0) q25 c25 (fun _ => 0) q32 c32 (fun _ => 0))) (va_A [(h0, .inr (5, [.null, .null, .null, .null, .null, .int 0]))] sz)) 4 200 (va_A [(h0, .inr (5, [.null, .null, .null, .null, .null, .int 0]))] sz) := by
  refine Met.ofW (cc := b_NA_init) (maxL := 3) (ret := none) (by decide) rfl ?_
  intro p e s m args below meth c s₁ B hml hv
  obtain ⟨rfl, hsz, hP, hK, hD0⟩ := hv
  have hx := B.exec
  have hb := B.bytes
  have hr := B.returns
  have hts0 := atoms_spec (ws := w_NA_init) B.pre
  have hts : ∀ w ∈ lw_g, w.before _ s = true := fun w h => hts0 w (List.mem_cons_of_mem _ h)
  have hown : s.vm.findClass R_NA = some m.cls := findClass_of_methodNamed B.named
  have hlocks := B.notSynchronized
  clear hts0
  subst hsz
  have hD := hD0.self (sz := s.heap.size)
  generalize hAe : va_A [(h0, .inr (5, [.null, .null, .null, .null, .null, .int 0]))] s.heap.size = A at hD ⊢
  have hA : ∀ q : Nat, s.heap.size ≤ q → A q := fun q h => by rw [← hAe]; exact Or.inr h
  clear hAe
  have hP : va_P (dC, dI) cls [(h0, .inr (5, [.null, .null, .null, .null, .null, .int 0]))] s.heap := hP
  have hl := lv_entry ([.ref h0, .ref tx, .int 50]) (n := 3) (Nat.le_of_ble_eq_true rfl)
  rw [lg_entry_eq]
  generalize (lg_sl ([.ref h0, .ref tx, .int 50]) ++ List.replicate (3 - (lg_sl ([.ref h0, .ref tx, .int 50])).length) Slot.unset).toArray = ls at hl ⊢
  have hl : lv_has ls 3 [(0, .ref h0), (1, .ref tx), (2, .int 50)] := hl
  have k0 : (0 : Int32).toInt = 0 := by decide
  refine w_gen (A := A) hP (fun H locs hP hS => ?_)
  have lo_50 := i32_lo 50
  have hi_50 := i32_hi 50
  have hin : meth.name = "<init>" := (name_of_methodNamed B.named B.method).1
  refine lv_aload_n hx hb d_NA_init_0 rfl (lv_at hl 0 rfl) ?_
  refine W.objInit hx hb hown (hts _ kM_NA_1) (hts _ kV_oi) (hts _ kC_oi) rfl (by rw [hml]; exact hl.1) rfl d_NA_init_1 (Nat.le_of_ble_eq_true rfl) (Nat.le_of_ble_eq_true rfl) ?_
  refine W.eq (g2 := F0 m 4 ls []) rfl ?_
  refine lv_aload_n hx hb d_NA_init_4 rfl (lv_at hl 0 rfl) ?_
  refine lv_aload_n hx hb d_NA_init_5 rfl (lv_at hl 1 rfl) ?_
  refine va_putF (D := (dC, dI)) (ci := 5) (v := .ref tx) (ty := .object "WaferForge$ByteRow") (C := R_NA) (T := F_NA) (N := 6) hx hb hts i_NA t_NA t_NA_ok n_NA hown hK hP hD hS 0 rfl rfl 0 (by decide) (hts _ kF_NA_7) (fun _ h9 => h9) rfl hin rfl (by decide +kernel) rfl rfl (Nat.le_of_ble_eq_true rfl) d_NA_init_6 (fun H locs hP hD hS => ?_)
  have hP : va_P (dC, dI) cls [(h0, .inr (5, [.ref tx, .null, .null, .null, .null, .int 0]))] H := hP
  have hD : va_D A [(h0, .inr (5, [.ref tx, .null, .null, .null, .null, .int 0]))] := hD
  refine lv_aload_n hx hb d_NA_init_9 rfl (lv_at hl 0 rfl) ?_
  refine lv_iload_n hx hb d_NA_init_10 rfl (lv_at hl 2 rfl) ?_
  refine va_newa (atype := .int) (ty := .int) (N' := 50) (a0 := (50, .inl (fun _ => 0))) hx hb (hts _ ka_int) rfl hK hP hD hS hA (fun _ => rfl) (by decide) (by decide) (by decide) (show _ ≤ 4 from Nat.le_of_ble_eq_true rfl) (show _ ≤ 200 from Nat.le_of_ble_eq_true rfl) d_NA_init_11 (fun q11 c11 H hK hP hD hS => ?_)
  have hP : va_P (dC, dI) cls [(h0, .inr (5, [.ref tx, .null, .null, .null, .null, .int 0])), (q11, .inl (c11, 50, .inl (fun _ => 0)))] H := hP
  have hD : va_D A [(h0, .inr (5, [.ref tx, .null, .null, .null, .null, .int 0])), (q11, .inl (c11, 50, .inl (fun _ => 0)))] := hD
  have hK : va_K (dC, dI) cls [(c11, .int)] s := hK
  refine va_putF (D := (dC, dI)) (ci := 5) (v := .ref q11) (ty := .array .int) (C := R_NA) (T := F_NA) (N := 6) hx hb hts i_NA t_NA t_NA_ok n_NA hown hK hP hD hS 0 rfl rfl 1 (by decide) (hts _ kF_NA_13) (fun _ h9 => h9) rfl hin rfl (by decide +kernel) rfl rfl (Nat.le_of_ble_eq_true rfl) d_NA_init_13 (fun H locs hP hD hS => ?_)
  have hP : va_P (dC, dI) cls [(h0, .inr (5, [.ref tx, .ref q11, .null, .null, .null, .int 0])), (q11, .inl (c11, 50, .inl (fun _ => 0)))] H := hP
  have hD : va_D A [(h0, .inr (5, [.ref tx, .ref q11, .null, .null, .null, .int 0])), (q11, .inl (c11, 50, .inl (fun _ => 0)))] := hD
  refine lv_aload_n hx hb d_NA_init_16 rfl (lv_at hl 0 rfl) ?_
  refine lv_iload_n hx hb d_NA_init_17 rfl (lv_at hl 2 rfl) ?_
  refine va_newa (atype := .int) (ty := .int) (N' := 50) (a0 := (50, .inl (fun _ => 0))) hx hb (hts _ ka_int) rfl hK hP hD hS hA (fun _ => rfl) (by decide) (by decide) (by decide) (show _ ≤ 4 from Nat.le_of_ble_eq_true rfl) (show _ ≤ 200 from Nat.le_of_ble_eq_true rfl) d_NA_init_18 (fun q18 c18 H hK hP hD hS => ?_)
  have hP : va_P (dC, dI) cls [(h0, .inr (5, [.ref tx, .ref q11, .null, .null, .null, .int 0])), (q11, .inl (c11, 50, .inl (fun _ => 0))), (q18, .inl (c18, 50, .inl (fun _ => 0)))] H := hP
  have hD : va_D A [(h0, .inr (5, [.ref tx, .ref q11, .null, .null, .null, .int 0])), (q11, .inl (c11, 50, .inl (fun _ => 0))), (q18, .inl (c18, 50, .inl (fun _ => 0)))] := hD
  have hK : va_K (dC, dI) cls [(c11, .int), (c18, .int)] s := hK
  refine va_putF (D := (dC, dI)) (ci := 5) (v := .ref q18) (ty := .array .int) (C := R_NA) (T := F_NA) (N := 6) hx hb hts i_NA t_NA t_NA_ok n_NA hown hK hP hD hS 0 rfl rfl 2 (by decide) (hts _ kF_NA_17) (fun _ h9 => h9) rfl hin rfl (by decide +kernel) rfl rfl (Nat.le_of_ble_eq_true rfl) d_NA_init_20 (fun H locs hP hD hS => ?_)
  have hP : va_P (dC, dI) cls [(h0, .inr (5, [.ref tx, .ref q11, .ref q18, .null, .null, .int 0])), (q11, .inl (c11, 50, .inl (fun _ => 0))), (q18, .inl (c18, 50, .inl (fun _ => 0)))] H := hP
  have hD : va_D A [(h0, .inr (5, [.ref tx, .ref q11, .ref q18, .null, .null, .int 0])), (q11, .inl (c11, 50, .inl (fun _ => 0))), (q18, .inl (c18, 50, .inl (fun _ => 0)))] := hD
  refine lv_aload_n hx hb d_NA_init_23 rfl (lv_at hl 0 rfl) ?_
  refine lv_iload_n hx hb d_NA_init_24 rfl (lv_at hl 2 rfl) ?_
  refine va_newa (atype := .int) (ty := .int) (N' := 50) (a0 := (50, .inl (fun _ => 0))) hx hb (hts _ ka_int) rfl hK hP hD hS hA (fun _ => rfl) (by decide) (by decide) (by decide) (show _ ≤ 4 from Nat.le_of_ble_eq_true rfl) (show _ ≤ 200 from Nat.le_of_ble_eq_true rfl) d_NA_init_25 (fun q25 c25 H hK hP hD hS => ?_)
  have hP : va_P (dC, dI) cls [(h0, .inr (5, [.ref tx, .ref q11, .ref q18, .null, .null, .int 0])), (q11, .inl (c11, 50, .inl (fun _ => 0))), (q18, .inl (c18, 50, .inl (fun _ => 0))), (q25, .inl (c25, 50, .inl (fun _ => 0)))] H := hP
  have hD : va_D A [(h0, .inr (5, [.ref tx, .ref q11, .ref q18, .null, .null, .int 0])), (q11, .inl (c11, 50, .inl (fun _ => 0))), (q18, .inl (c18, 50, .inl (fun _ => 0))), (q25, .inl (c25, 50, .inl (fun _ => 0)))] := hD
  have hK : va_K (dC, dI) cls [(c11, .int), (c18, .int), (c25, .int)] s := hK
  refine va_putF (D := (dC, dI)) (ci := 5) (v := .ref q25) (ty := .array .int) (C := R_NA) (T := F_NA) (N := 6) hx hb hts i_NA t_NA t_NA_ok n_NA hown hK hP hD hS 0 rfl rfl 3 (by decide) (hts _ kF_NA_20) (fun _ h9 => h9) rfl hin rfl (by decide +kernel) rfl rfl (Nat.le_of_ble_eq_true rfl) d_NA_init_27 (fun H locs hP hD hS => ?_)
  have hP : va_P (dC, dI) cls [(h0, .inr (5, [.ref tx, .ref q11, .ref q18, .ref q25, .null, .int 0])), (q11, .inl (c11, 50, .inl (fun _ => 0))), (q18, .inl (c18, 50, .inl (fun _ => 0))), (q25, .inl (c25, 50, .inl (fun _ => 0)))] H := hP
  have hD : va_D A [(h0, .inr (5, [.ref tx, .ref q11, .ref q18, .ref q25, .null, .int 0])), (q11, .inl (c11, 50, .inl (fun _ => 0))), (q18, .inl (c18, 50, .inl (fun _ => 0))), (q25, .inl (c25, 50, .inl (fun _ => 0)))] := hD
  refine lv_aload_n hx hb d_NA_init_30 rfl (lv_at hl 0 rfl) ?_
  refine lv_iload_n hx hb d_NA_init_31 rfl (lv_at hl 2 rfl) ?_
  refine va_newa (atype := .long) (ty := .long) (N' := 50) (a0 := (50, .inr (.inl (fun _ => 0)))) hx hb (hts _ ka_long) rfl hK hP hD hS hA (fun _ => rfl) (by decide) (by decide) (by decide) (show _ ≤ 4 from Nat.le_of_ble_eq_true rfl) (show _ ≤ 200 from Nat.le_of_ble_eq_true rfl) d_NA_init_32 (fun q32 c32 H hK hP hD hS => ?_)
  have hP : va_P (dC, dI) cls [(h0, .inr (5, [.ref tx, .ref q11, .ref q18, .ref q25, .null, .int 0])), (q11, .inl (c11, 50, .inl (fun _ => 0))), (q18, .inl (c18, 50, .inl (fun _ => 0))), (q25, .inl (c25, 50, .inl (fun _ => 0))), (q32, .inl (c32, 50, .inr (.inl (fun _ => 0))))] H := hP
  have hD : va_D A [(h0, .inr (5, [.ref tx, .ref q11, .ref q18, .ref q25, .null, .int 0])), (q11, .inl (c11, 50, .inl (fun _ => 0))), (q18, .inl (c18, 50, .inl (fun _ => 0))), (q25, .inl (c25, 50, .inl (fun _ => 0))), (q32, .inl (c32, 50, .inr (.inl (fun _ => 0))))] := hD
  have hK : va_K (dC, dI) cls [(c11, .int), (c18, .int), (c25, .int), (c32, .long)] s := hK
  refine va_putF (D := (dC, dI)) (ci := 5) (v := .ref q32) (ty := .array .long) (C := R_NA) (T := F_NA) (N := 6) hx hb hts i_NA t_NA t_NA_ok n_NA hown hK hP hD hS 0 rfl rfl 4 (by decide) (hts _ kF_NA_23) (fun _ h9 => h9) rfl hin rfl (by decide +kernel) rfl rfl (Nat.le_of_ble_eq_true rfl) d_NA_init_34 (fun H locs hP hD hS => ?_)
  have hP : va_P (dC, dI) cls (wz_152 h0 tx q11 q18 q25 q32 0 q11 c11 (fun _ => 0) q18 c18 (fun _ => 0) q25 c25 (fun _ => 0) q32 c32 (fun _ => 0)) H := hP
  have hD : va_D A (wz_152 h0 tx q11 q18 q25 q32 0 q11 c11 (fun _ => 0) q18 c18 (fun _ => 0) q25 c25 (fun _ => 0) q32 c32 (fun _ => 0)) := hD
  refine W.widen (k := 4) (n := 200) (Nat.le_of_ble_eq_true rfl) (Nat.le_of_ble_eq_true rfl) ?_
  exact W.vret hx hb hr (fun t ht hW => ⟨⟨(), rfl, trivial, q11, q18, q25, q32, c11, c18, c25, c32, va_P.he ht.symm hP, va_K.moved hW.alike hK, hD⟩, hS.F ht⟩) hS.2.2 d_NA_init_37
set_option maxHeartbeats 4000000 in
set_option maxRecDepth 100000 in
theorem c_NA_init160 (l : Launch) (dC : Nat → ClassId) (dI : Nat → Nat → Nat) (sz : Nat) (h0  : Nat)  (tx : Nat) : Met l y_NA_init w_NA_init ({ frames := 1, cells := 4, slots := 640, locals := 20 }) (va_Pc [.ref h0, .ref tx, .int 160] (fun U => U.heap.size = sz ∧ va_P (dC, dI) cls [(h0, .inr (5, [.null, .null, .null, .null, .null, .int 0]))] U.heap ∧ va_K (dC, dI) cls [] U ∧ va_D (fun _ => True) [(h0, .inr (5, [.null, .null, .null, .null, .null, .int 0]))])) (va_Qv (fun (_ : Unit) => True) (fun (_ : Unit) (t : State) => ∃ (q11 q18 q25 q32 : Nat) (c11 c18 c25 c32 : ClassId), va_P (dC, dI) cls (wz_119 h0 tx q11 q18 q25 q32 0 q11 c11 (fun _ => 0) q18 c18 (fun _ => 0) q25 c25 (fun _ => 0) q32 c32 (fun _ => 0)) t.heap ∧ va_K (dC, dI) cls [(c11, .int), (c18, .int), (c25, .int), (c32, .long)] t ∧ va_D (va_A [(h0, .inr (5, [.null, .null, .null, .null, .null, .int 0]))] sz) (wz_119 h0 tx q11 q18 q25 q32 0 q11 c11 (fun _ => 0) q18 c18 (fun _ => 0) q25 c25 (fun _ => 0) q32 c32 (fun _ => 0))) (va_A [(h0, .inr (5, [.null, .null, .null, .null, .null, .int 0]))] sz)) 4 640 (va_A [(h0, .inr (5, [.null, .null, .null, .null, .null, .int 0]))] sz) := by
  refine Met.ofW (cc := b_NA_init) (maxL := 3) (ret := none) (by decide) rfl ?_
  intro p e s m args below meth c s₁ B hml hv
  obtain ⟨rfl, hsz, hP, hK, hD0⟩ := hv
  have hx := B.exec
  have hb := B.bytes
  have hr := B.returns
  have hts0 := atoms_spec (ws := w_NA_init) B.pre
  have hts : ∀ w ∈ lw_g, w.before _ s = true := fun w h => hts0 w (List.mem_cons_of_mem _ h)
  have hown : s.vm.findClass R_NA = some m.cls := findClass_of_methodNamed B.named
  have hlocks := B.notSynchronized
  clear hts0
  subst hsz
  have hD := hD0.self (sz := s.heap.size)
  generalize hAe : va_A [(h0, .inr (5, [.null, .null, .null, .null, .null, .int 0]))] s.heap.size = A at hD ⊢
  have hA : ∀ q : Nat, s.heap.size ≤ q → A q := fun q h => by rw [← hAe]; exact Or.inr h
  clear hAe
  have hP : va_P (dC, dI) cls [(h0, .inr (5, [.null, .null, .null, .null, .null, .int 0]))] s.heap := hP
  have hl := lv_entry ([.ref h0, .ref tx, .int 160]) (n := 3) (Nat.le_of_ble_eq_true rfl)
  rw [lg_entry_eq]
  generalize (lg_sl ([.ref h0, .ref tx, .int 160]) ++ List.replicate (3 - (lg_sl ([.ref h0, .ref tx, .int 160])).length) Slot.unset).toArray = ls at hl ⊢
  have hl : lv_has ls 3 [(0, .ref h0), (1, .ref tx), (2, .int 160)] := hl
  have k0 : (0 : Int32).toInt = 0 := by decide
  refine w_gen (A := A) hP (fun H locs hP hS => ?_)
  have lo_160 := i32_lo 160
  have hi_160 := i32_hi 160
  have hin : meth.name = "<init>" := (name_of_methodNamed B.named B.method).1
  refine lv_aload_n hx hb d_NA_init_0 rfl (lv_at hl 0 rfl) ?_
  refine W.objInit hx hb hown (hts _ kM_NA_1) (hts _ kV_oi) (hts _ kC_oi) rfl (by rw [hml]; exact hl.1) rfl d_NA_init_1 (Nat.le_of_ble_eq_true rfl) (Nat.le_of_ble_eq_true rfl) ?_
  refine W.eq (g2 := F0 m 4 ls []) rfl ?_
  refine lv_aload_n hx hb d_NA_init_4 rfl (lv_at hl 0 rfl) ?_
  refine lv_aload_n hx hb d_NA_init_5 rfl (lv_at hl 1 rfl) ?_
  refine va_putF (D := (dC, dI)) (ci := 5) (v := .ref tx) (ty := .object "WaferForge$ByteRow") (C := R_NA) (T := F_NA) (N := 6) hx hb hts i_NA t_NA t_NA_ok n_NA hown hK hP hD hS 0 rfl rfl 0 (by decide) (hts _ kF_NA_7) (fun _ h9 => h9) rfl hin rfl (by decide +kernel) rfl rfl (Nat.le_of_ble_eq_true rfl) d_NA_init_6 (fun H locs hP hD hS => ?_)
  have hP : va_P (dC, dI) cls [(h0, .inr (5, [.ref tx, .null, .null, .null, .null, .int 0]))] H := hP
  have hD : va_D A [(h0, .inr (5, [.ref tx, .null, .null, .null, .null, .int 0]))] := hD
  refine lv_aload_n hx hb d_NA_init_9 rfl (lv_at hl 0 rfl) ?_
  refine lv_iload_n hx hb d_NA_init_10 rfl (lv_at hl 2 rfl) ?_
  refine va_newa (atype := .int) (ty := .int) (N' := 160) (a0 := (160, .inl (fun _ => 0))) hx hb (hts _ ka_int) rfl hK hP hD hS hA (fun _ => rfl) (by decide) (by decide) (by decide) (show _ ≤ 4 from Nat.le_of_ble_eq_true rfl) (show _ ≤ 640 from Nat.le_of_ble_eq_true rfl) d_NA_init_11 (fun q11 c11 H hK hP hD hS => ?_)
  have hP : va_P (dC, dI) cls [(h0, .inr (5, [.ref tx, .null, .null, .null, .null, .int 0])), (q11, .inl (c11, 160, .inl (fun _ => 0)))] H := hP
  have hD : va_D A [(h0, .inr (5, [.ref tx, .null, .null, .null, .null, .int 0])), (q11, .inl (c11, 160, .inl (fun _ => 0)))] := hD
  have hK : va_K (dC, dI) cls [(c11, .int)] s := hK
  refine va_putF (D := (dC, dI)) (ci := 5) (v := .ref q11) (ty := .array .int) (C := R_NA) (T := F_NA) (N := 6) hx hb hts i_NA t_NA t_NA_ok n_NA hown hK hP hD hS 0 rfl rfl 1 (by decide) (hts _ kF_NA_13) (fun _ h9 => h9) rfl hin rfl (by decide +kernel) rfl rfl (Nat.le_of_ble_eq_true rfl) d_NA_init_13 (fun H locs hP hD hS => ?_)
  have hP : va_P (dC, dI) cls [(h0, .inr (5, [.ref tx, .ref q11, .null, .null, .null, .int 0])), (q11, .inl (c11, 160, .inl (fun _ => 0)))] H := hP
  have hD : va_D A [(h0, .inr (5, [.ref tx, .ref q11, .null, .null, .null, .int 0])), (q11, .inl (c11, 160, .inl (fun _ => 0)))] := hD
  refine lv_aload_n hx hb d_NA_init_16 rfl (lv_at hl 0 rfl) ?_
  refine lv_iload_n hx hb d_NA_init_17 rfl (lv_at hl 2 rfl) ?_
  refine va_newa (atype := .int) (ty := .int) (N' := 160) (a0 := (160, .inl (fun _ => 0))) hx hb (hts _ ka_int) rfl hK hP hD hS hA (fun _ => rfl) (by decide) (by decide) (by decide) (show _ ≤ 4 from Nat.le_of_ble_eq_true rfl) (show _ ≤ 640 from Nat.le_of_ble_eq_true rfl) d_NA_init_18 (fun q18 c18 H hK hP hD hS => ?_)
  have hP : va_P (dC, dI) cls [(h0, .inr (5, [.ref tx, .ref q11, .null, .null, .null, .int 0])), (q11, .inl (c11, 160, .inl (fun _ => 0))), (q18, .inl (c18, 160, .inl (fun _ => 0)))] H := hP
  have hD : va_D A [(h0, .inr (5, [.ref tx, .ref q11, .null, .null, .null, .int 0])), (q11, .inl (c11, 160, .inl (fun _ => 0))), (q18, .inl (c18, 160, .inl (fun _ => 0)))] := hD
  have hK : va_K (dC, dI) cls [(c11, .int), (c18, .int)] s := hK
  refine va_putF (D := (dC, dI)) (ci := 5) (v := .ref q18) (ty := .array .int) (C := R_NA) (T := F_NA) (N := 6) hx hb hts i_NA t_NA t_NA_ok n_NA hown hK hP hD hS 0 rfl rfl 2 (by decide) (hts _ kF_NA_17) (fun _ h9 => h9) rfl hin rfl (by decide +kernel) rfl rfl (Nat.le_of_ble_eq_true rfl) d_NA_init_20 (fun H locs hP hD hS => ?_)
  have hP : va_P (dC, dI) cls [(h0, .inr (5, [.ref tx, .ref q11, .ref q18, .null, .null, .int 0])), (q11, .inl (c11, 160, .inl (fun _ => 0))), (q18, .inl (c18, 160, .inl (fun _ => 0)))] H := hP
  have hD : va_D A [(h0, .inr (5, [.ref tx, .ref q11, .ref q18, .null, .null, .int 0])), (q11, .inl (c11, 160, .inl (fun _ => 0))), (q18, .inl (c18, 160, .inl (fun _ => 0)))] := hD
  refine lv_aload_n hx hb d_NA_init_23 rfl (lv_at hl 0 rfl) ?_
  refine lv_iload_n hx hb d_NA_init_24 rfl (lv_at hl 2 rfl) ?_
  refine va_newa (atype := .int) (ty := .int) (N' := 160) (a0 := (160, .inl (fun _ => 0))) hx hb (hts _ ka_int) rfl hK hP hD hS hA (fun _ => rfl) (by decide) (by decide) (by decide) (show _ ≤ 4 from Nat.le_of_ble_eq_true rfl) (show _ ≤ 640 from Nat.le_of_ble_eq_true rfl) d_NA_init_25 (fun q25 c25 H hK hP hD hS => ?_)
  have hP : va_P (dC, dI) cls [(h0, .inr (5, [.ref tx, .ref q11, .ref q18, .null, .null, .int 0])), (q11, .inl (c11, 160, .inl (fun _ => 0))), (q18, .inl (c18, 160, .inl (fun _ => 0))), (q25, .inl (c25, 160, .inl (fun _ => 0)))] H := hP
  have hD : va_D A [(h0, .inr (5, [.ref tx, .ref q11, .ref q18, .null, .null, .int 0])), (q11, .inl (c11, 160, .inl (fun _ => 0))), (q18, .inl (c18, 160, .inl (fun _ => 0))), (q25, .inl (c25, 160, .inl (fun _ => 0)))] := hD
  have hK : va_K (dC, dI) cls [(c11, .int), (c18, .int), (c25, .int)] s := hK
  refine va_putF (D := (dC, dI)) (ci := 5) (v := .ref q25) (ty := .array .int) (C := R_NA) (T := F_NA) (N := 6) hx hb hts i_NA t_NA t_NA_ok n_NA hown hK hP hD hS 0 rfl rfl 3 (by decide) (hts _ kF_NA_20) (fun _ h9 => h9) rfl hin rfl (by decide +kernel) rfl rfl (Nat.le_of_ble_eq_true rfl) d_NA_init_27 (fun H locs hP hD hS => ?_)
  have hP : va_P (dC, dI) cls [(h0, .inr (5, [.ref tx, .ref q11, .ref q18, .ref q25, .null, .int 0])), (q11, .inl (c11, 160, .inl (fun _ => 0))), (q18, .inl (c18, 160, .inl (fun _ => 0))), (q25, .inl (c25, 160, .inl (fun _ => 0)))] H := hP
  have hD : va_D A [(h0, .inr (5, [.ref tx, .ref q11, .ref q18, .ref q25, .null, .int 0])), (q11, .inl (c11, 160, .inl (fun _ => 0))), (q18, .inl (c18, 160, .inl (fun _ => 0))), (q25, .inl (c25, 160, .inl (fun _ => 0)))] := hD
  refine lv_aload_n hx hb d_NA_init_30 rfl (lv_at hl 0 rfl) ?_
  refine lv_iload_n hx hb d_NA_init_31 rfl (lv_at hl 2 rfl) ?_
  refine va_newa (atype := .long) (ty := .long) (N' := 160) (a0 := (160, .inr (.inl (fun _ => 0)))) hx hb (hts _ ka_long) rfl hK hP hD hS hA (fun _ => rfl) (by decide) (by decide) (by decide) (show _ ≤ 4 from Nat.le_of_ble_eq_true rfl) (show _ ≤ 640 from Nat.le_of_ble_eq_true rfl) d_NA_init_32 (fun q32 c32 H hK hP hD hS => ?_)
  have hP : va_P (dC, dI) cls [(h0, .inr (5, [.ref tx, .ref q11, .ref q18, .ref q25, .null, .int 0])), (q11, .inl (c11, 160, .inl (fun _ => 0))), (q18, .inl (c18, 160, .inl (fun _ => 0))), (q25, .inl (c25, 160, .inl (fun _ => 0))), (q32, .inl (c32, 160, .inr (.inl (fun _ => 0))))] H := hP
  have hD : va_D A [(h0, .inr (5, [.ref tx, .ref q11, .ref q18, .ref q25, .null, .int 0])), (q11, .inl (c11, 160, .inl (fun _ => 0))), (q18, .inl (c18, 160, .inl (fun _ => 0))), (q25, .inl (c25, 160, .inl (fun _ => 0))), (q32, .inl (c32, 160, .inr (.inl (fun _ => 0))))] := hD
  have hK : va_K (dC, dI) cls [(c11, .int), (c18, .int), (c25, .int), (c32, .long)] s := hK
  refine va_putF (D := (dC, dI)) (ci := 5) (v := .ref q32) (ty := .array .long) (C := R_NA) (T := F_NA) (N := 6) hx hb hts i_NA t_NA t_NA_ok n_NA hown hK hP hD hS 0 rfl rfl 4 (by decide) (hts _ kF_NA_23) (fun _ h9 => h9) rfl hin rfl (by decide +kernel) rfl rfl (Nat.le_of_ble_eq_true rfl) d_NA_init_34 (fun H locs hP hD hS => ?_)
  have hP : va_P (dC, dI) cls (wz_119 h0 tx q11 q18 q25 q32 0 q11 c11 (fun _ => 0) q18 c18 (fun _ => 0) q25 c25 (fun _ => 0) q32 c32 (fun _ => 0)) H := hP
  have hD : va_D A (wz_119 h0 tx q11 q18 q25 q32 0 q11 c11 (fun _ => 0) q18 c18 (fun _ => 0) q25 c25 (fun _ => 0) q32 c32 (fun _ => 0)) := hD
  refine W.widen (k := 4) (n := 640) (Nat.le_of_ble_eq_true rfl) (Nat.le_of_ble_eq_true rfl) ?_
  exact W.vret hx hb hr (fun t ht hW => ⟨⟨(), rfl, trivial, q11, q18, q25, q32, c11, c18, c25, c32, va_P.he ht.symm hP, va_K.moved hW.alike hK, hD⟩, hS.F ht⟩) hS.2.2 d_NA_init_37
abbrev b_CD_init : ByteArray := prog_5_method_1_code
def y_CD_init : MethodName := ⟨R_CD, "<init>", "()V"⟩
abbrev w_CD_init : List Cond := .code y_CD_init b_CD_init 1 none :: lw_g
theorem kC_CD_init : Cond.code y_CD_init b_CD_init 1 none ∈ lw_g := in_c1 81 rfl rfl
theorem d_CD_init_0 : decode b_CD_init 0 = .ok (.aload_n 0, 1) := bz_c42 (by decide +kernel)
theorem d_CD_init_1 : decode b_CD_init 1 = .ok (.invokespecial 3, 3) := bz_c183 (by decide +kernel)
theorem d_CD_init_4 : decode b_CD_init 4 = .ok (.aload_n 0, 1) := bz_c42 (by decide +kernel)
theorem d_CD_init_5 : decode b_CD_init 5 = .ok (.bipush 31, 2) := bz_c16 (by decide +kernel)
theorem d_CD_init_7 : decode b_CD_init 7 = .ok (.newarray .int, 2) := by decide +kernel
theorem d_CD_init_9 : decode b_CD_init 9 = .ok (.putfield 9, 3) := bz_c181 (by decide +kernel)
theorem d_CD_init_12 : decode b_CD_init 12 = .ok (.aload_n 0, 1) := bz_c42 (by decide +kernel)
theorem d_CD_init_13 : decode b_CD_init 13 = .ok (.bipush 30, 2) := bz_c16 (by decide +kernel)
theorem d_CD_init_15 : decode b_CD_init 15 = .ok (.newarray .int, 2) := by decide +kernel
theorem d_CD_init_17 : decode b_CD_init 17 = .ok (.putfield 15, 3) := bz_c181 (by decide +kernel)
theorem d_CD_init_20 : decode b_CD_init 20 = .ok (.aload_n 0, 1) := bz_c42 (by decide +kernel)
theorem d_CD_init_21 : decode b_CD_init 21 = .ok (.sipush 1800, 3) := bz_c17 (by decide +kernel)
theorem d_CD_init_24 : decode b_CD_init 24 = .ok (.newarray .int, 2) := by decide +kernel
theorem d_CD_init_26 : decode b_CD_init 26 = .ok (.putfield 18, 3) := bz_c181 (by decide +kernel)
theorem d_CD_init_29 : decode b_CD_init 29 = .ok (.aload_n 0, 1) := bz_c42 (by decide +kernel)
theorem d_CD_init_30 : decode b_CD_init 30 = .ok (.sipush 5000, 3) := bz_c17 (by decide +kernel)
theorem d_CD_init_33 : decode b_CD_init 33 = .ok (.newarray .int, 2) := by decide +kernel
theorem d_CD_init_35 : decode b_CD_init 35 = .ok (.putfield 21, 3) := bz_c181 (by decide +kernel)
theorem d_CD_init_38 : decode b_CD_init 38 = .ok (.aload_n 0, 1) := bz_c42 (by decide +kernel)
theorem d_CD_init_39 : decode b_CD_init 39 = .ok (.sipush 5000, 3) := bz_c17 (by decide +kernel)
theorem d_CD_init_42 : decode b_CD_init 42 = .ok (.newarray .long, 2) := by decide +kernel
theorem d_CD_init_44 : decode b_CD_init 44 = .ok (.putfield 24, 3) := bz_c181 (by decide +kernel)
theorem d_CD_init_47 : decode b_CD_init 47 = .ok (.aload_n 0, 1) := bz_c42 (by decide +kernel)
theorem d_CD_init_48 : decode b_CD_init 48 = .ok (.sipush 5000, 3) := bz_c17 (by decide +kernel)
theorem d_CD_init_51 : decode b_CD_init 51 = .ok (.newarray .int, 2) := by decide +kernel
theorem d_CD_init_53 : decode b_CD_init 53 = .ok (.putfield 28, 3) := bz_c181 (by decide +kernel)
theorem d_CD_init_56 : decode b_CD_init 56 = .ok (.aload_n 0, 1) := bz_c42 (by decide +kernel)
theorem d_CD_init_57 : decode b_CD_init 57 = .ok (.sipush 5000, 3) := bz_c17 (by decide +kernel)
theorem d_CD_init_60 : decode b_CD_init 60 = .ok (.newarray .int, 2) := by decide +kernel
theorem d_CD_init_62 : decode b_CD_init 62 = .ok (.putfield 31, 3) := bz_c181 (by decide +kernel)
theorem d_CD_init_65 : decode b_CD_init 65 = .ok (.aload_n 0, 1) := bz_c42 (by decide +kernel)
theorem d_CD_init_66 : decode b_CD_init 66 = .ok (.sipush 2000, 3) := bz_c17 (by decide +kernel)
theorem d_CD_init_69 : decode b_CD_init 69 = .ok (.newarray .int, 2) := by decide +kernel
theorem d_CD_init_71 : decode b_CD_init 71 = .ok (.putfield 34, 3) := bz_c181 (by decide +kernel)
theorem d_CD_init_74 : decode b_CD_init 74 = .ok (.return_, 1) := bz_c177 (by decide +kernel)
theorem kM_CD_3 : Cond.methodLink R_CD 3 Lib.objectInit ∈ lw_g := in_c1 82 rfl rfl
theorem kF_CD_9 : Cond.fieldLink R_CD 9 "WaferForge$Codes" "firsts" "[I" ∈ lw_g := in_c1 83 rfl rfl
theorem kF_CD_15 : Cond.fieldLink R_CD 15 "WaferForge$Codes" "localCounts" "[I" ∈ lw_g := in_c1 87 rfl rfl
theorem kF_CD_18 : Cond.fieldLink R_CD 18 "WaferForge$Codes" "localTypes" "[I" ∈ lw_g := in_c1 91 rfl rfl
theorem kF_CD_21 : Cond.fieldLink R_CD 21 "WaferForge$Codes" "ops" "[I" ∈ lw_g := in_c1 97 rfl rfl
theorem kF_CD_24 : Cond.fieldLink R_CD 24 "WaferForge$Codes" "values" "[J" ∈ lw_g := in_c1 101 rfl rfl
theorem kF_CD_28 : Cond.fieldLink R_CD 28 "WaferForge$Codes" "partners" "[I" ∈ lw_g := in_c1 105 rfl rfl
theorem kF_CD_31 : Cond.fieldLink R_CD 31 "WaferForge$Codes" "elses" "[I" ∈ lw_g := in_c1 109 rfl rfl
theorem kF_CD_34 : Cond.fieldLink R_CD 34 "WaferForge$Codes" "labels" "[I" ∈ lw_g := in_c1 114 rfl rfl
set_option maxHeartbeats 4000000 in
set_option maxRecDepth 100000 in
theorem c_CD_init (l : Launch) (dC : Nat → ClassId) (dI : Nat → Nat → Nat) (sz : Nat) (h0  : Nat)   : Met l y_CD_init w_CD_init ({ frames := 1, cells := 8, slots := 23861, locals := 20 }) (va_Pc [.ref h0] (fun U => U.heap.size = sz ∧ va_P (dC, dI) cls (wz_274 h0 0 0) U.heap ∧ va_K (dC, dI) cls [] U ∧ va_D (fun _ => True) (wz_274 h0 0 0))) (va_Qv (fun (_ : Unit) => True) (fun (_ : Unit) (t : State) => ∃ (q7 q15 q24 q33 q42 q51 q60 q69 : Nat) (c7 c15 c24 c33 c42 c51 c60 c69 : ClassId), va_P (dC, dI) cls (wz_275 h0 q7 q15 q24 0 q33 q42 q51 q60 0 q69 q7 c7 (fun _ => 0) q15 c15 (fun _ => 0) q24 c24 (fun _ => 0) q33 c33 (fun _ => 0) q42 c42 (fun _ => 0) q51 c51 (fun _ => 0) q60 c60 (fun _ => 0) q69 c69 (fun _ => 0)) t.heap ∧ va_K (dC, dI) cls [(c7, .int), (c15, .int), (c24, .int), (c33, .int), (c42, .long), (c51, .int), (c60, .int), (c69, .int)] t ∧ va_D (va_A (wz_274 h0 0 0) sz) (wz_275 h0 q7 q15 q24 0 q33 q42 q51 q60 0 q69 q7 c7 (fun _ => 0) q15 c15 (fun _ => 0) q24 c24 (fun _ => 0) q33 c33 (fun _ => 0) q42 c42 (fun _ => 0) q51 c51 (fun _ => 0) q60 c60 (fun _ => 0) q69 c69 (fun _ => 0))) (va_A (wz_274 h0 0 0) sz)) 8 23861 (va_A (wz_274 h0 0 0) sz) := by
  refine Met.ofW (cc := b_CD_init) (maxL := 1) (ret := none) (by decide) rfl ?_
  intro p e s m args below meth c s₁ B hml hv
  obtain ⟨rfl, hsz, hP, hK, hD0⟩ := hv
  have hx := B.exec
  have hb := B.bytes
  have hr := B.returns
  have hts0 := atoms_spec (ws := w_CD_init) B.pre
  have hts : ∀ w ∈ lw_g, w.before _ s = true := fun w h => hts0 w (List.mem_cons_of_mem _ h)
  have hown : s.vm.findClass R_CD = some m.cls := findClass_of_methodNamed B.named
  have hlocks := B.notSynchronized
  clear hts0
  subst hsz
  have hD := hD0.self (sz := s.heap.size)
  generalize hAe : va_A (wz_274 h0 0 0) s.heap.size = A at hD ⊢
  have hA : ∀ q : Nat, s.heap.size ≤ q → A q := fun q h => by rw [← hAe]; exact Or.inr h
  clear hAe
  have hP : va_P (dC, dI) cls (wz_274 h0 0 0) s.heap := hP
  have hl := lv_entry ([.ref h0]) (n := 1) (Nat.le_of_ble_eq_true rfl)
  rw [lg_entry_eq]
  generalize (lg_sl ([.ref h0]) ++ List.replicate (1 - (lg_sl ([.ref h0])).length) Slot.unset).toArray = ls at hl ⊢
  have hl : lv_has ls 1 [(0, .ref h0)] := hl
  have k0 : (0 : Int32).toInt = 0 := by decide
  refine w_gen (A := A) hP (fun H locs hP hS => ?_)
  have k30 : (30 : Int32).toInt = 30 := by decide
  have k31 : (31 : Int32).toInt = 31 := by decide
  have k1800 : (1800 : Int32).toInt = 1800 := by decide
  have k2000 : (2000 : Int32).toInt = 2000 := by decide
  have k5000 : (5000 : Int32).toInt = 5000 := by decide
  have hin : meth.name = "<init>" := (name_of_methodNamed B.named B.method).1
  refine lv_aload_n hx hb d_CD_init_0 rfl (lv_at hl 0 rfl) ?_
  refine W.objInit hx hb hown (hts _ kM_CD_3) (hts _ kV_oi) (hts _ kC_oi) rfl (by rw [hml]; exact hl.1) rfl d_CD_init_1 (Nat.le_of_ble_eq_true rfl) (Nat.le_of_ble_eq_true rfl) ?_
  refine W.eq (g2 := F0 m 4 ls []) rfl ?_
  refine lv_aload_n hx hb d_CD_init_4 rfl (lv_at hl 0 rfl) ?_
  refine lv_bipush (v := 31) hx hb d_CD_init_5 (by decide) ?_
  refine va_newa (atype := .int) (ty := .int) (N' := 31) (a0 := (31, .inl (fun _ => 0))) hx hb (hts _ ka_int) rfl hK hP hD hS hA (fun _ => rfl) (by decide) (by decide) (by decide) (show _ ≤ 8 from Nat.le_of_ble_eq_true rfl) (show _ ≤ 23861 from Nat.le_of_ble_eq_true rfl) d_CD_init_7 (fun q7 c7 H hK hP hD hS => ?_)
  have hP : va_P (dC, dI) cls [(h0, .inr (3, [.null, .null, .null, .int 0, .null, .null, .null, .null, .int 0, .null])), (q7, .inl (c7, 31, .inl (fun _ => 0)))] H := hP
  have hD : va_D A [(h0, .inr (3, [.null, .null, .null, .int 0, .null, .null, .null, .null, .int 0, .null])), (q7, .inl (c7, 31, .inl (fun _ => 0)))] := hD
  have hK : va_K (dC, dI) cls [(c7, .int)] s := hK
  refine va_putF (D := (dC, dI)) (ci := 3) (v := .ref q7) (ty := .array .int) (C := R_CD) (T := F_CD) (N := 10) hx hb hts i_CD t_CD t_CD_ok n_CD hown hK hP hD hS 0 rfl rfl 0 (by decide) (hts _ kF_CD_9) (fun _ h9 => h9) rfl hin rfl (by decide +kernel) rfl rfl (Nat.le_of_ble_eq_true rfl) d_CD_init_9 (fun H locs hP hD hS => ?_)
  have hP : va_P (dC, dI) cls [(h0, .inr (3, [.ref q7, .null, .null, .int 0, .null, .null, .null, .null, .int 0, .null])), (q7, .inl (c7, 31, .inl (fun _ => 0)))] H := hP
  have hD : va_D A [(h0, .inr (3, [.ref q7, .null, .null, .int 0, .null, .null, .null, .null, .int 0, .null])), (q7, .inl (c7, 31, .inl (fun _ => 0)))] := hD
  refine lv_aload_n hx hb d_CD_init_12 rfl (lv_at hl 0 rfl) ?_
  refine lv_bipush (v := 30) hx hb d_CD_init_13 (by decide) ?_
  refine va_newa (atype := .int) (ty := .int) (N' := 30) (a0 := (30, .inl (fun _ => 0))) hx hb (hts _ ka_int) rfl hK hP hD hS hA (fun _ => rfl) (by decide) (by decide) (by decide) (show _ ≤ 8 from Nat.le_of_ble_eq_true rfl) (show _ ≤ 23861 from Nat.le_of_ble_eq_true rfl) d_CD_init_15 (fun q15 c15 H hK hP hD hS => ?_)
  have hP : va_P (dC, dI) cls [(h0, .inr (3, [.ref q7, .null, .null, .int 0, .null, .null, .null, .null, .int 0, .null])), (q7, .inl (c7, 31, .inl (fun _ => 0))), (q15, .inl (c15, 30, .inl (fun _ => 0)))] H := hP
  have hD : va_D A [(h0, .inr (3, [.ref q7, .null, .null, .int 0, .null, .null, .null, .null, .int 0, .null])), (q7, .inl (c7, 31, .inl (fun _ => 0))), (q15, .inl (c15, 30, .inl (fun _ => 0)))] := hD
  have hK : va_K (dC, dI) cls [(c7, .int), (c15, .int)] s := hK
  refine va_putF (D := (dC, dI)) (ci := 3) (v := .ref q15) (ty := .array .int) (C := R_CD) (T := F_CD) (N := 10) hx hb hts i_CD t_CD t_CD_ok n_CD hown hK hP hD hS 0 rfl rfl 1 (by decide) (hts _ kF_CD_15) (fun _ h9 => h9) rfl hin rfl (by decide +kernel) rfl rfl (Nat.le_of_ble_eq_true rfl) d_CD_init_17 (fun H locs hP hD hS => ?_)
  have hP : va_P (dC, dI) cls [(h0, .inr (3, [.ref q7, .ref q15, .null, .int 0, .null, .null, .null, .null, .int 0, .null])), (q7, .inl (c7, 31, .inl (fun _ => 0))), (q15, .inl (c15, 30, .inl (fun _ => 0)))] H := hP
  have hD : va_D A [(h0, .inr (3, [.ref q7, .ref q15, .null, .int 0, .null, .null, .null, .null, .int 0, .null])), (q7, .inl (c7, 31, .inl (fun _ => 0))), (q15, .inl (c15, 30, .inl (fun _ => 0)))] := hD
  refine lv_aload_n hx hb d_CD_init_20 rfl (lv_at hl 0 rfl) ?_
  refine lv_sipush (v := 1800) hx hb d_CD_init_21 (by decide) ?_
  refine va_newa (atype := .int) (ty := .int) (N' := 1800) (a0 := (1800, .inl (fun _ => 0))) hx hb (hts _ ka_int) rfl hK hP hD hS hA (fun _ => rfl) (by decide) (by decide) (by decide) (show _ ≤ 8 from Nat.le_of_ble_eq_true rfl) (show _ ≤ 23861 from Nat.le_of_ble_eq_true rfl) d_CD_init_24 (fun q24 c24 H hK hP hD hS => ?_)
  have hP : va_P (dC, dI) cls [(h0, .inr (3, [.ref q7, .ref q15, .null, .int 0, .null, .null, .null, .null, .int 0, .null])), (q7, .inl (c7, 31, .inl (fun _ => 0))), (q15, .inl (c15, 30, .inl (fun _ => 0))), (q24, .inl (c24, 1800, .inl (fun _ => 0)))] H := hP
  have hD : va_D A [(h0, .inr (3, [.ref q7, .ref q15, .null, .int 0, .null, .null, .null, .null, .int 0, .null])), (q7, .inl (c7, 31, .inl (fun _ => 0))), (q15, .inl (c15, 30, .inl (fun _ => 0))), (q24, .inl (c24, 1800, .inl (fun _ => 0)))] := hD
  have hK : va_K (dC, dI) cls [(c7, .int), (c15, .int), (c24, .int)] s := hK
  refine va_putF (D := (dC, dI)) (ci := 3) (v := .ref q24) (ty := .array .int) (C := R_CD) (T := F_CD) (N := 10) hx hb hts i_CD t_CD t_CD_ok n_CD hown hK hP hD hS 0 rfl rfl 2 (by decide) (hts _ kF_CD_18) (fun _ h9 => h9) rfl hin rfl (by decide +kernel) rfl rfl (Nat.le_of_ble_eq_true rfl) d_CD_init_26 (fun H locs hP hD hS => ?_)
  have hP : va_P (dC, dI) cls [(h0, .inr (3, [.ref q7, .ref q15, .ref q24, .int 0, .null, .null, .null, .null, .int 0, .null])), (q7, .inl (c7, 31, .inl (fun _ => 0))), (q15, .inl (c15, 30, .inl (fun _ => 0))), (q24, .inl (c24, 1800, .inl (fun _ => 0)))] H := hP
  have hD : va_D A [(h0, .inr (3, [.ref q7, .ref q15, .ref q24, .int 0, .null, .null, .null, .null, .int 0, .null])), (q7, .inl (c7, 31, .inl (fun _ => 0))), (q15, .inl (c15, 30, .inl (fun _ => 0))), (q24, .inl (c24, 1800, .inl (fun _ => 0)))] := hD
  refine lv_aload_n hx hb d_CD_init_29 rfl (lv_at hl 0 rfl) ?_
  refine lv_sipush (v := 5000) hx hb d_CD_init_30 (by decide) ?_
  refine va_newa (atype := .int) (ty := .int) (N' := 5000) (a0 := (5000, .inl (fun _ => 0))) hx hb (hts _ ka_int) rfl hK hP hD hS hA (fun _ => rfl) (by decide) (by decide) (by decide) (show _ ≤ 8 from Nat.le_of_ble_eq_true rfl) (show _ ≤ 23861 from Nat.le_of_ble_eq_true rfl) d_CD_init_33 (fun q33 c33 H hK hP hD hS => ?_)
  have hP : va_P (dC, dI) cls [(h0, .inr (3, [.ref q7, .ref q15, .ref q24, .int 0, .null, .null, .null, .null, .int 0, .null])), (q7, .inl (c7, 31, .inl (fun _ => 0))), (q15, .inl (c15, 30, .inl (fun _ => 0))), (q24, .inl (c24, 1800, .inl (fun _ => 0))), (q33, .inl (c33, 5000, .inl (fun _ => 0)))] H := hP
  have hD : va_D A [(h0, .inr (3, [.ref q7, .ref q15, .ref q24, .int 0, .null, .null, .null, .null, .int 0, .null])), (q7, .inl (c7, 31, .inl (fun _ => 0))), (q15, .inl (c15, 30, .inl (fun _ => 0))), (q24, .inl (c24, 1800, .inl (fun _ => 0))), (q33, .inl (c33, 5000, .inl (fun _ => 0)))] := hD
  have hK : va_K (dC, dI) cls [(c7, .int), (c15, .int), (c24, .int), (c33, .int)] s := hK
  refine va_putF (D := (dC, dI)) (ci := 3) (v := .ref q33) (ty := .array .int) (C := R_CD) (T := F_CD) (N := 10) hx hb hts i_CD t_CD t_CD_ok n_CD hown hK hP hD hS 0 rfl rfl 4 (by decide) (hts _ kF_CD_21) (fun _ h9 => h9) rfl hin rfl (by decide +kernel) rfl rfl (Nat.le_of_ble_eq_true rfl) d_CD_init_35 (fun H locs hP hD hS => ?_)
  have hP : va_P (dC, dI) cls [(h0, .inr (3, [.ref q7, .ref q15, .ref q24, .int 0, .ref q33, .null, .null, .null, .int 0, .null])), (q7, .inl (c7, 31, .inl (fun _ => 0))), (q15, .inl (c15, 30, .inl (fun _ => 0))), (q24, .inl (c24, 1800, .inl (fun _ => 0))), (q33, .inl (c33, 5000, .inl (fun _ => 0)))] H := hP
  have hD : va_D A [(h0, .inr (3, [.ref q7, .ref q15, .ref q24, .int 0, .ref q33, .null, .null, .null, .int 0, .null])), (q7, .inl (c7, 31, .inl (fun _ => 0))), (q15, .inl (c15, 30, .inl (fun _ => 0))), (q24, .inl (c24, 1800, .inl (fun _ => 0))), (q33, .inl (c33, 5000, .inl (fun _ => 0)))] := hD
  refine lv_aload_n hx hb d_CD_init_38 rfl (lv_at hl 0 rfl) ?_
  refine lv_sipush (v := 5000) hx hb d_CD_init_39 (by decide) ?_
  refine va_newa (atype := .long) (ty := .long) (N' := 5000) (a0 := (5000, .inr (.inl (fun _ => 0)))) hx hb (hts _ ka_long) rfl hK hP hD hS hA (fun _ => rfl) (by decide) (by decide) (by decide) (show _ ≤ 8 from Nat.le_of_ble_eq_true rfl) (show _ ≤ 23861 from Nat.le_of_ble_eq_true rfl) d_CD_init_42 (fun q42 c42 H hK hP hD hS => ?_)
  have hP : va_P (dC, dI) cls [(h0, .inr (3, [.ref q7, .ref q15, .ref q24, .int 0, .ref q33, .null, .null, .null, .int 0, .null])), (q7, .inl (c7, 31, .inl (fun _ => 0))), (q15, .inl (c15, 30, .inl (fun _ => 0))), (q24, .inl (c24, 1800, .inl (fun _ => 0))), (q33, .inl (c33, 5000, .inl (fun _ => 0))), (q42, .inl (c42, 5000, .inr (.inl (fun _ => 0))))] H := hP
  have hD : va_D A [(h0, .inr (3, [.ref q7, .ref q15, .ref q24, .int 0, .ref q33, .null, .null, .null, .int 0, .null])), (q7, .inl (c7, 31, .inl (fun _ => 0))), (q15, .inl (c15, 30, .inl (fun _ => 0))), (q24, .inl (c24, 1800, .inl (fun _ => 0))), (q33, .inl (c33, 5000, .inl (fun _ => 0))), (q42, .inl (c42, 5000, .inr (.inl (fun _ => 0))))] := hD
  have hK : va_K (dC, dI) cls [(c7, .int), (c15, .int), (c24, .int), (c33, .int), (c42, .long)] s := hK
  refine va_putF (D := (dC, dI)) (ci := 3) (v := .ref q42) (ty := .array .long) (C := R_CD) (T := F_CD) (N := 10) hx hb hts i_CD t_CD t_CD_ok n_CD hown hK hP hD hS 0 rfl rfl 5 (by decide) (hts _ kF_CD_24) (fun _ h9 => h9) rfl hin rfl (by decide +kernel) rfl rfl (Nat.le_of_ble_eq_true rfl) d_CD_init_44 (fun H locs hP hD hS => ?_)
  have hP : va_P (dC, dI) cls [(h0, .inr (3, [.ref q7, .ref q15, .ref q24, .int 0, .ref q33, .ref q42, .null, .null, .int 0, .null])), (q7, .inl (c7, 31, .inl (fun _ => 0))), (q15, .inl (c15, 30, .inl (fun _ => 0))), (q24, .inl (c24, 1800, .inl (fun _ => 0))), (q33, .inl (c33, 5000, .inl (fun _ => 0))), (q42, .inl (c42, 5000, .inr (.inl (fun _ => 0))))] H := hP
  have hD : va_D A [(h0, .inr (3, [.ref q7, .ref q15, .ref q24, .int 0, .ref q33, .ref q42, .null, .null, .int 0, .null])), (q7, .inl (c7, 31, .inl (fun _ => 0))), (q15, .inl (c15, 30, .inl (fun _ => 0))), (q24, .inl (c24, 1800, .inl (fun _ => 0))), (q33, .inl (c33, 5000, .inl (fun _ => 0))), (q42, .inl (c42, 5000, .inr (.inl (fun _ => 0))))] := hD
  refine lv_aload_n hx hb d_CD_init_47 rfl (lv_at hl 0 rfl) ?_
  refine lv_sipush (v := 5000) hx hb d_CD_init_48 (by decide) ?_
  refine va_newa (atype := .int) (ty := .int) (N' := 5000) (a0 := (5000, .inl (fun _ => 0))) hx hb (hts _ ka_int) rfl hK hP hD hS hA (fun _ => rfl) (by decide) (by decide) (by decide) (show _ ≤ 8 from Nat.le_of_ble_eq_true rfl) (show _ ≤ 23861 from Nat.le_of_ble_eq_true rfl) d_CD_init_51 (fun q51 c51 H hK hP hD hS => ?_)
  have hP : va_P (dC, dI) cls [(h0, .inr (3, [.ref q7, .ref q15, .ref q24, .int 0, .ref q33, .ref q42, .null, .null, .int 0, .null])), (q7, .inl (c7, 31, .inl (fun _ => 0))), (q15, .inl (c15, 30, .inl (fun _ => 0))), (q24, .inl (c24, 1800, .inl (fun _ => 0))), (q33, .inl (c33, 5000, .inl (fun _ => 0))), (q42, .inl (c42, 5000, .inr (.inl (fun _ => 0)))), (q51, .inl (c51, 5000, .inl (fun _ => 0)))] H := hP
  have hD : va_D A [(h0, .inr (3, [.ref q7, .ref q15, .ref q24, .int 0, .ref q33, .ref q42, .null, .null, .int 0, .null])), (q7, .inl (c7, 31, .inl (fun _ => 0))), (q15, .inl (c15, 30, .inl (fun _ => 0))), (q24, .inl (c24, 1800, .inl (fun _ => 0))), (q33, .inl (c33, 5000, .inl (fun _ => 0))), (q42, .inl (c42, 5000, .inr (.inl (fun _ => 0)))), (q51, .inl (c51, 5000, .inl (fun _ => 0)))] := hD
  have hK : va_K (dC, dI) cls [(c7, .int), (c15, .int), (c24, .int), (c33, .int), (c42, .long), (c51, .int)] s := hK
  refine va_putF (D := (dC, dI)) (ci := 3) (v := .ref q51) (ty := .array .int) (C := R_CD) (T := F_CD) (N := 10) hx hb hts i_CD t_CD t_CD_ok n_CD hown hK hP hD hS 0 rfl rfl 6 (by decide) (hts _ kF_CD_28) (fun _ h9 => h9) rfl hin rfl (by decide +kernel) rfl rfl (Nat.le_of_ble_eq_true rfl) d_CD_init_53 (fun H locs hP hD hS => ?_)
  have hP : va_P (dC, dI) cls [(h0, .inr (3, [.ref q7, .ref q15, .ref q24, .int 0, .ref q33, .ref q42, .ref q51, .null, .int 0, .null])), (q7, .inl (c7, 31, .inl (fun _ => 0))), (q15, .inl (c15, 30, .inl (fun _ => 0))), (q24, .inl (c24, 1800, .inl (fun _ => 0))), (q33, .inl (c33, 5000, .inl (fun _ => 0))), (q42, .inl (c42, 5000, .inr (.inl (fun _ => 0)))), (q51, .inl (c51, 5000, .inl (fun _ => 0)))] H := hP
  have hD : va_D A [(h0, .inr (3, [.ref q7, .ref q15, .ref q24, .int 0, .ref q33, .ref q42, .ref q51, .null, .int 0, .null])), (q7, .inl (c7, 31, .inl (fun _ => 0))), (q15, .inl (c15, 30, .inl (fun _ => 0))), (q24, .inl (c24, 1800, .inl (fun _ => 0))), (q33, .inl (c33, 5000, .inl (fun _ => 0))), (q42, .inl (c42, 5000, .inr (.inl (fun _ => 0)))), (q51, .inl (c51, 5000, .inl (fun _ => 0)))] := hD
  refine lv_aload_n hx hb d_CD_init_56 rfl (lv_at hl 0 rfl) ?_
  refine lv_sipush (v := 5000) hx hb d_CD_init_57 (by decide) ?_
  refine va_newa (atype := .int) (ty := .int) (N' := 5000) (a0 := (5000, .inl (fun _ => 0))) hx hb (hts _ ka_int) rfl hK hP hD hS hA (fun _ => rfl) (by decide) (by decide) (by decide) (show _ ≤ 8 from Nat.le_of_ble_eq_true rfl) (show _ ≤ 23861 from Nat.le_of_ble_eq_true rfl) d_CD_init_60 (fun q60 c60 H hK hP hD hS => ?_)
  have hP : va_P (dC, dI) cls [(h0, .inr (3, [.ref q7, .ref q15, .ref q24, .int 0, .ref q33, .ref q42, .ref q51, .null, .int 0, .null])), (q7, .inl (c7, 31, .inl (fun _ => 0))), (q15, .inl (c15, 30, .inl (fun _ => 0))), (q24, .inl (c24, 1800, .inl (fun _ => 0))), (q33, .inl (c33, 5000, .inl (fun _ => 0))), (q42, .inl (c42, 5000, .inr (.inl (fun _ => 0)))), (q51, .inl (c51, 5000, .inl (fun _ => 0))), (q60, .inl (c60, 5000, .inl (fun _ => 0)))] H := hP
  have hD : va_D A [(h0, .inr (3, [.ref q7, .ref q15, .ref q24, .int 0, .ref q33, .ref q42, .ref q51, .null, .int 0, .null])), (q7, .inl (c7, 31, .inl (fun _ => 0))), (q15, .inl (c15, 30, .inl (fun _ => 0))), (q24, .inl (c24, 1800, .inl (fun _ => 0))), (q33, .inl (c33, 5000, .inl (fun _ => 0))), (q42, .inl (c42, 5000, .inr (.inl (fun _ => 0)))), (q51, .inl (c51, 5000, .inl (fun _ => 0))), (q60, .inl (c60, 5000, .inl (fun _ => 0)))] := hD
  have hK : va_K (dC, dI) cls [(c7, .int), (c15, .int), (c24, .int), (c33, .int), (c42, .long), (c51, .int), (c60, .int)] s := hK
  refine va_putF (D := (dC, dI)) (ci := 3) (v := .ref q60) (ty := .array .int) (C := R_CD) (T := F_CD) (N := 10) hx hb hts i_CD t_CD t_CD_ok n_CD hown hK hP hD hS 0 rfl rfl 7 (by decide) (hts _ kF_CD_31) (fun _ h9 => h9) rfl hin rfl (by decide +kernel) rfl rfl (Nat.le_of_ble_eq_true rfl) d_CD_init_62 (fun H locs hP hD hS => ?_)
  have hP : va_P (dC, dI) cls [(h0, .inr (3, [.ref q7, .ref q15, .ref q24, .int 0, .ref q33, .ref q42, .ref q51, .ref q60, .int 0, .null])), (q7, .inl (c7, 31, .inl (fun _ => 0))), (q15, .inl (c15, 30, .inl (fun _ => 0))), (q24, .inl (c24, 1800, .inl (fun _ => 0))), (q33, .inl (c33, 5000, .inl (fun _ => 0))), (q42, .inl (c42, 5000, .inr (.inl (fun _ => 0)))), (q51, .inl (c51, 5000, .inl (fun _ => 0))), (q60, .inl (c60, 5000, .inl (fun _ => 0)))] H := hP
  have hD : va_D A [(h0, .inr (3, [.ref q7, .ref q15, .ref q24, .int 0, .ref q33, .ref q42, .ref q51, .ref q60, .int 0, .null])), (q7, .inl (c7, 31, .inl (fun _ => 0))), (q15, .inl (c15, 30, .inl (fun _ => 0))), (q24, .inl (c24, 1800, .inl (fun _ => 0))), (q33, .inl (c33, 5000, .inl (fun _ => 0))), (q42, .inl (c42, 5000, .inr (.inl (fun _ => 0)))), (q51, .inl (c51, 5000, .inl (fun _ => 0))), (q60, .inl (c60, 5000, .inl (fun _ => 0)))] := hD
  refine lv_aload_n hx hb d_CD_init_65 rfl (lv_at hl 0 rfl) ?_
  refine lv_sipush (v := 2000) hx hb d_CD_init_66 (by decide) ?_
  refine va_newa (atype := .int) (ty := .int) (N' := 2000) (a0 := (2000, .inl (fun _ => 0))) hx hb (hts _ ka_int) rfl hK hP hD hS hA (fun _ => rfl) (by decide) (by decide) (by decide) (show _ ≤ 8 from Nat.le_of_ble_eq_true rfl) (show _ ≤ 23861 from Nat.le_of_ble_eq_true rfl) d_CD_init_69 (fun q69 c69 H hK hP hD hS => ?_)
  have hP : va_P (dC, dI) cls [(h0, .inr (3, [.ref q7, .ref q15, .ref q24, .int 0, .ref q33, .ref q42, .ref q51, .ref q60, .int 0, .null])), (q7, .inl (c7, 31, .inl (fun _ => 0))), (q15, .inl (c15, 30, .inl (fun _ => 0))), (q24, .inl (c24, 1800, .inl (fun _ => 0))), (q33, .inl (c33, 5000, .inl (fun _ => 0))), (q42, .inl (c42, 5000, .inr (.inl (fun _ => 0)))), (q51, .inl (c51, 5000, .inl (fun _ => 0))), (q60, .inl (c60, 5000, .inl (fun _ => 0))), (q69, .inl (c69, 2000, .inl (fun _ => 0)))] H := hP
  have hD : va_D A [(h0, .inr (3, [.ref q7, .ref q15, .ref q24, .int 0, .ref q33, .ref q42, .ref q51, .ref q60, .int 0, .null])), (q7, .inl (c7, 31, .inl (fun _ => 0))), (q15, .inl (c15, 30, .inl (fun _ => 0))), (q24, .inl (c24, 1800, .inl (fun _ => 0))), (q33, .inl (c33, 5000, .inl (fun _ => 0))), (q42, .inl (c42, 5000, .inr (.inl (fun _ => 0)))), (q51, .inl (c51, 5000, .inl (fun _ => 0))), (q60, .inl (c60, 5000, .inl (fun _ => 0))), (q69, .inl (c69, 2000, .inl (fun _ => 0)))] := hD
  have hK : va_K (dC, dI) cls [(c7, .int), (c15, .int), (c24, .int), (c33, .int), (c42, .long), (c51, .int), (c60, .int), (c69, .int)] s := hK
  refine va_putF (D := (dC, dI)) (ci := 3) (v := .ref q69) (ty := .array .int) (C := R_CD) (T := F_CD) (N := 10) hx hb hts i_CD t_CD t_CD_ok n_CD hown hK hP hD hS 0 rfl rfl 9 (by decide) (hts _ kF_CD_34) (fun _ h9 => h9) rfl hin rfl (by decide +kernel) rfl rfl (Nat.le_of_ble_eq_true rfl) d_CD_init_71 (fun H locs hP hD hS => ?_)
  have hP : va_P (dC, dI) cls (wz_275 h0 q7 q15 q24 0 q33 q42 q51 q60 0 q69 q7 c7 (fun _ => 0) q15 c15 (fun _ => 0) q24 c24 (fun _ => 0) q33 c33 (fun _ => 0) q42 c42 (fun _ => 0) q51 c51 (fun _ => 0) q60 c60 (fun _ => 0) q69 c69 (fun _ => 0)) H := hP
  have hD : va_D A (wz_275 h0 q7 q15 q24 0 q33 q42 q51 q60 0 q69 q7 c7 (fun _ => 0) q15 c15 (fun _ => 0) q24 c24 (fun _ => 0) q33 c33 (fun _ => 0) q42 c42 (fun _ => 0) q51 c51 (fun _ => 0) q60 c60 (fun _ => 0) q69 c69 (fun _ => 0)) := hD
  refine W.widen (k := 8) (n := 23861) (Nat.le_of_ble_eq_true rfl) (Nat.le_of_ble_eq_true rfl) ?_
  exact W.vret hx hb hr (fun t ht hW => ⟨⟨(), rfl, trivial, q7, q15, q24, q33, q42, q51, q60, q69, c7, c15, c24, c33, c42, c51, c60, c69, va_P.he ht.symm hP, va_K.moved hW.alike hK, hD⟩, hS.F ht⟩) hS.2.2 d_CD_init_74
abbrev b_WA_init : ByteArray := prog_13_method_1_code
def y_WA_init : MethodName := ⟨R_WA, "<init>", "()V"⟩
abbrev w_WA_init : List Cond := .code y_WA_init b_WA_init 1 none :: lw_g
theorem kC_WA_init : Cond.code y_WA_init b_WA_init 1 none ∈ lw_g := in_c1 73 rfl rfl
theorem d_WA_init_0 : decode b_WA_init 0 = .ok (.aload_n 0, 1) := bz_c42 (by decide +kernel)
theorem d_WA_init_1 : decode b_WA_init 1 = .ok (.invokespecial 3, 3) := bz_c183 (by decide +kernel)
theorem d_WA_init_4 : decode b_WA_init 4 = .ok (.aload_n 0, 1) := bz_c42 (by decide +kernel)
theorem d_WA_init_5 : decode b_WA_init 5 = .ok (.new 9, 3) := bz_c187 (by decide +kernel)
theorem d_WA_init_8 : decode b_WA_init 8 = .ok (.dup, 1) := bz_c89 (by decide +kernel)
theorem d_WA_init_9 : decode b_WA_init 9 = .ok (.sipush 8192, 3) := bz_c17 (by decide +kernel)
theorem d_WA_init_12 : decode b_WA_init 12 = .ok (.invokespecial 11, 3) := bz_c183 (by decide +kernel)
theorem d_WA_init_15 : decode b_WA_init 15 = .ok (.putfield 14, 3) := bz_c181 (by decide +kernel)
theorem d_WA_init_18 : decode b_WA_init 18 = .ok (.aload_n 0, 1) := bz_c42 (by decide +kernel)
theorem d_WA_init_19 : decode b_WA_init 19 = .ok (.new 20, 3) := bz_c187 (by decide +kernel)
theorem d_WA_init_22 : decode b_WA_init 22 = .ok (.dup, 1) := bz_c89 (by decide +kernel)
theorem d_WA_init_23 : decode b_WA_init 23 = .ok (.invokespecial 22, 3) := bz_c183 (by decide +kernel)
theorem d_WA_init_26 : decode b_WA_init 26 = .ok (.putfield 23, 3) := bz_c181 (by decide +kernel)
theorem d_WA_init_29 : decode b_WA_init 29 = .ok (.aload_n 0, 1) := bz_c42 (by decide +kernel)
theorem d_WA_init_30 : decode b_WA_init 30 = .ok (.bipush 20, 2) := bz_c16 (by decide +kernel)
theorem d_WA_init_32 : decode b_WA_init 32 = .ok (.newarray .int, 2) := by decide +kernel
theorem d_WA_init_34 : decode b_WA_init 34 = .ok (.putfield 27, 3) := bz_c181 (by decide +kernel)
theorem d_WA_init_37 : decode b_WA_init 37 = .ok (.aload_n 0, 1) := bz_c42 (by decide +kernel)
theorem d_WA_init_38 : decode b_WA_init 38 = .ok (.sipush 160, 3) := bz_c17 (by decide +kernel)
theorem d_WA_init_41 : decode b_WA_init 41 = .ok (.newarray .int, 2) := by decide +kernel
theorem d_WA_init_43 : decode b_WA_init 43 = .ok (.putfield 31, 3) := bz_c181 (by decide +kernel)
theorem d_WA_init_46 : decode b_WA_init 46 = .ok (.aload_n 0, 1) := bz_c42 (by decide +kernel)
theorem d_WA_init_47 : decode b_WA_init 47 = .ok (.bipush 20, 2) := bz_c16 (by decide +kernel)
theorem d_WA_init_49 : decode b_WA_init 49 = .ok (.newarray .int, 2) := by decide +kernel
theorem d_WA_init_51 : decode b_WA_init 51 = .ok (.putfield 34, 3) := bz_c181 (by decide +kernel)
theorem d_WA_init_54 : decode b_WA_init 54 = .ok (.aload_n 0, 1) := bz_c42 (by decide +kernel)
theorem d_WA_init_55 : decode b_WA_init 55 = .ok (.bipush 30, 2) := bz_c16 (by decide +kernel)
theorem d_WA_init_57 : decode b_WA_init 57 = .ok (.newarray .int, 2) := by decide +kernel
theorem d_WA_init_59 : decode b_WA_init 59 = .ok (.putfield 37, 3) := bz_c181 (by decide +kernel)
theorem d_WA_init_62 : decode b_WA_init 62 = .ok (.aload_n 0, 1) := bz_c42 (by decide +kernel)
theorem d_WA_init_63 : decode b_WA_init 63 = .ok (.bipush 20, 2) := bz_c16 (by decide +kernel)
theorem d_WA_init_65 : decode b_WA_init 65 = .ok (.newarray .int, 2) := by decide +kernel
theorem d_WA_init_67 : decode b_WA_init 67 = .ok (.putfield 40, 3) := bz_c181 (by decide +kernel)
theorem d_WA_init_70 : decode b_WA_init 70 = .ok (.aload_n 0, 1) := bz_c42 (by decide +kernel)
theorem d_WA_init_71 : decode b_WA_init 71 = .ok (.bipush 20, 2) := bz_c16 (by decide +kernel)
theorem d_WA_init_73 : decode b_WA_init 73 = .ok (.newarray .int, 2) := by decide +kernel
theorem d_WA_init_75 : decode b_WA_init 75 = .ok (.putfield 43, 3) := bz_c181 (by decide +kernel)
theorem d_WA_init_78 : decode b_WA_init 78 = .ok (.aload_n 0, 1) := bz_c42 (by decide +kernel)
theorem d_WA_init_79 : decode b_WA_init 79 = .ok (.bipush 20, 2) := bz_c16 (by decide +kernel)
theorem d_WA_init_81 : decode b_WA_init 81 = .ok (.newarray .long, 2) := by decide +kernel
theorem d_WA_init_83 : decode b_WA_init 83 = .ok (.putfield 46, 3) := bz_c181 (by decide +kernel)
theorem d_WA_init_86 : decode b_WA_init 86 = .ok (.aload_n 0, 1) := bz_c42 (by decide +kernel)
theorem d_WA_init_87 : decode b_WA_init 87 = .ok (.bipush 20, 2) := bz_c16 (by decide +kernel)
theorem d_WA_init_89 : decode b_WA_init 89 = .ok (.newarray .boolean, 2) := by decide +kernel
theorem d_WA_init_91 : decode b_WA_init 91 = .ok (.putfield 50, 3) := bz_c181 (by decide +kernel)
theorem d_WA_init_94 : decode b_WA_init 94 = .ok (.aload_n 0, 1) := bz_c42 (by decide +kernel)
theorem d_WA_init_95 : decode b_WA_init 95 = .ok (.bipush 40, 2) := bz_c16 (by decide +kernel)
theorem d_WA_init_97 : decode b_WA_init 97 = .ok (.newarray .int, 2) := by decide +kernel
theorem d_WA_init_99 : decode b_WA_init 99 = .ok (.putfield 54, 3) := bz_c181 (by decide +kernel)
theorem d_WA_init_102 : decode b_WA_init 102 = .ok (.aload_n 0, 1) := bz_c42 (by decide +kernel)
theorem d_WA_init_103 : decode b_WA_init 103 = .ok (.bipush 40, 2) := bz_c16 (by decide +kernel)
theorem d_WA_init_105 : decode b_WA_init 105 = .ok (.newarray .int, 2) := by decide +kernel
theorem d_WA_init_107 : decode b_WA_init 107 = .ok (.putfield 57, 3) := bz_c181 (by decide +kernel)
theorem d_WA_init_110 : decode b_WA_init 110 = .ok (.aload_n 0, 1) := bz_c42 (by decide +kernel)
theorem d_WA_init_111 : decode b_WA_init 111 = .ok (.bipush 40, 2) := bz_c16 (by decide +kernel)
theorem d_WA_init_113 : decode b_WA_init 113 = .ok (.newarray .int, 2) := by decide +kernel
theorem d_WA_init_115 : decode b_WA_init 115 = .ok (.putfield 60, 3) := bz_c181 (by decide +kernel)
theorem d_WA_init_118 : decode b_WA_init 118 = .ok (.aload_n 0, 1) := bz_c42 (by decide +kernel)
theorem d_WA_init_119 : decode b_WA_init 119 = .ok (.bipush 40, 2) := bz_c16 (by decide +kernel)
theorem d_WA_init_121 : decode b_WA_init 121 = .ok (.newarray .int, 2) := by decide +kernel
theorem d_WA_init_123 : decode b_WA_init 123 = .ok (.putfield 63, 3) := bz_c181 (by decide +kernel)
theorem d_WA_init_126 : decode b_WA_init 126 = .ok (.return_, 1) := bz_c177 (by decide +kernel)
theorem kM_WA_3 : Cond.methodLink R_WA 3 Lib.objectInit ∈ lw_g := in_c1 74 rfl rfl
theorem kK_WA_9 : Cond.classLink R_WA 9 "WaferForge$ByteRow" ∈ lw_g := in_c1 75 rfl rfl
theorem kN_BR : Cond.instantiable R_BR 2 ∈ lw_g := in_c1 50 rfl rfl
theorem kV_BR_init : Cond.instanceMethod y_BR_init ∈ lw_g := in_c1 52 rfl rfl
theorem kM_WA_11 : Cond.methodLink R_WA 11 y_BR_init ∈ lw_g := in_c1 76 rfl rfl
theorem kK_WA_20 : Cond.classLink R_WA 20 "WaferForge$Codes" ∈ lw_g := in_c1 77 rfl rfl
theorem kN_CD : Cond.instantiable R_CD 10 ∈ lw_g := in_c1 78 rfl rfl
theorem kV_CD_init : Cond.instanceMethod y_CD_init ∈ lw_g := in_c1 80 rfl rfl
theorem kF_WA_40 : Cond.fieldLink R_WA 40 "WaferForge$Wafer" "globalTypes" "[I" ∈ lw_g := in_c1 181 rfl rfl
theorem kF_WA_43 : Cond.fieldLink R_WA 43 "WaferForge$Wafer" "firstTypes" "[I" ∈ lw_g := in_c1 184 rfl rfl
theorem kF_WA_46 : Cond.fieldLink R_WA 46 "WaferForge$Wafer" "firstValues" "[J" ∈ lw_g := in_c1 187 rfl rfl
theorem ka_boolean : Cond.arrayClass (newarray.typeOf .boolean) ∈ lw_g := in_c2 11 rfl rfl
theorem kF_WA_50 : Cond.fieldLink R_WA 50 "WaferForge$Wafer" "globalChanges" "[Z" ∈ lw_g := in_c1 190 rfl rfl
set_option maxHeartbeats 4000000 in
set_option maxRecDepth 100000 in
theorem c_WA_init (l : Launch) (dC : Nat → ClassId) (dI : Nat → Nat → Nat) (sz : Nat) (sa : Nat → Nat) (h0  : Nat)   : Met l y_WA_init w_WA_init ({ frames := 2, cells := 23, slots := 32535, locals := 41 }) (va_Pc [.ref h0] (fun U => U.heap.size = sz ∧ va_P (dC, dI) cls (wz_276 h0 0 0 0 0 0 0 0) U.heap ∧ va_K (dC, dI) cls [] U ∧ va_D (fun _ => True) (wz_276 h0 0 0 0 0 0 0 0) ∧ sw sa (va_A (wz_276 h0 0 0 0 0 0 0 0) sz) U U.heap)) (va_Qv (fun (_ : Unit) => True) (fun (_ : Unit) (t : State) => ∃ (q5 n12_q6 q19 n23_q7 n23_q15 n23_q24 n23_q33 n23_q42 n23_q51 n23_q60 n23_q69 q32 q41 q49 q57 q65 q73 q81 q89 q97 q105 q113 q121 : Nat) (n12_c6 n23_c7 n23_c15 n23_c24 n23_c33 n23_c42 n23_c51 n23_c60 n23_c69 c32 c41 c49 c57 c65 c73 c81 c89 c97 c105 c113 c121 : ClassId), va_P (dC, dI) cls (wz_277 h0 q5 q19 0 q32 q41 q49 0 q57 0 0 0 0 q65 q73 q81 q89 0 q97 q105 q113 q121 q5 n12_q6 0 n12_q6 n12_c6 (fun _ => 0) q19 n23_q7 n23_q15 n23_q24 0 n23_q33 n23_q42 n23_q51 n23_q60 0 n23_q69 n23_q7 n23_c7 (fun _ => 0) n23_q15 n23_c15 (fun _ => 0) n23_q24 n23_c24 (fun _ => 0) n23_q33 n23_c33 (fun _ => 0) n23_q42 n23_c42 (fun _ => 0) n23_q51 n23_c51 (fun _ => 0) n23_q60 n23_c60 (fun _ => 0) n23_q69 n23_c69 (fun _ => 0) q32 c32 (fun _ => 0) q41 c41 (fun _ => 0) q49 c49 (fun _ => 0) q57 c57 (fun _ => 0) q65 c65 (fun _ => 0) q73 c73 (fun _ => 0) q81 c81 (fun _ => 0) q89 c89 (fun _ => 0) q97 c97 (fun _ => 0) q105 c105 (fun _ => 0) q113 c113 (fun _ => 0) q121 c121 (fun _ => 0)) t.heap ∧ va_K (dC, dI) cls [(n12_c6, .byte), (n23_c7, .int), (n23_c15, .int), (n23_c24, .int), (n23_c33, .int), (n23_c42, .long), (n23_c51, .int), (n23_c60, .int), (n23_c69, .int), (c32, .int), (c41, .int), (c49, .int), (c57, .int), (c65, .int), (c73, .int), (c81, .long), (c89, .boolean), (c97, .int), (c105, .int), (c113, .int), (c121, .int)] t ∧ va_D (va_A (wz_276 h0 0 0 0 0 0 0 0) sz) (wz_277 h0 q5 q19 0 q32 q41 q49 0 q57 0 0 0 0 q65 q73 q81 q89 0 q97 q105 q113 q121 q5 n12_q6 0 n12_q6 n12_c6 (fun _ => 0) q19 n23_q7 n23_q15 n23_q24 0 n23_q33 n23_q42 n23_q51 n23_q60 0 n23_q69 n23_q7 n23_c7 (fun _ => 0) n23_q15 n23_c15 (fun _ => 0) n23_q24 n23_c24 (fun _ => 0) n23_q33 n23_c33 (fun _ => 0) n23_q42 n23_c42 (fun _ => 0) n23_q51 n23_c51 (fun _ => 0) n23_q60 n23_c60 (fun _ => 0) n23_q69 n23_c69 (fun _ => 0) q32 c32 (fun _ => 0) q41 c41 (fun _ => 0) q49 c49 (fun _ => 0) q57 c57 (fun _ => 0) q65 c65 (fun _ => 0) q73 c73 (fun _ => 0) q81 c81 (fun _ => 0) q89 c89 (fun _ => 0) q97 c97 (fun _ => 0) q105 c105 (fun _ => 0) q113 c113 (fun _ => 0) q121 c121 (fun _ => 0))) (va_A (wz_276 h0 0 0 0 0 0 0 0) sz)) 23 32535 (va_A (wz_276 h0 0 0 0 0 0 0 0) sz) := by
  refine Met.ofW (cc := b_WA_init) (maxL := 1) (ret := none) (by decide) rfl ?_
  intro p e s m args below meth c s₁ B hml hv
  obtain ⟨rfl, hsz, hP, hK, hD0, hSW⟩ := hv
  have hx := B.exec
  have hb := B.bytes
  have hr := B.returns
  have hts0 := atoms_spec (ws := w_WA_init) B.pre
  have hts : ∀ w ∈ lw_g, w.before _ s = true := fun w h => hts0 w (List.mem_cons_of_mem _ h)
  have hown : s.vm.findClass R_WA = some m.cls := findClass_of_methodNamed B.named
  have hlocks := B.notSynchronized
  clear hts0
  subst hsz
  have hD := hD0.self (sz := s.heap.size)
  generalize hAe : va_A (wz_276 h0 0 0 0 0 0 0 0) s.heap.size = A at hD hSW ⊢
  have hA : ∀ q : Nat, s.heap.size ≤ q → A q := fun q h => by rw [← hAe]; exact Or.inr h
  clear hAe
  have hP : va_P (dC, dI) cls (wz_276 h0 0 0 0 0 0 0 0) s.heap := hP
  have hl := lv_entry ([.ref h0]) (n := 1) (Nat.le_of_ble_eq_true rfl)
  rw [lg_entry_eq]
  generalize (lg_sl ([.ref h0]) ++ List.replicate (1 - (lg_sl ([.ref h0])).length) Slot.unset).toArray = ls at hl ⊢
  have hl : lv_has ls 1 [(0, .ref h0)] := hl
  have k0 : (0 : Int32).toInt = 0 := by decide
  refine w_gen (A := A) hP (fun H locs hP hS => ?_)
  have k20 : (20 : Int32).toInt = 20 := by decide
  have k30 : (30 : Int32).toInt = 30 := by decide
  have k40 : (40 : Int32).toInt = 40 := by decide
  have k160 : (160 : Int32).toInt = 160 := by decide
  have k8192 : (8192 : Int32).toInt = 8192 := by decide
  have hin : meth.name = "<init>" := (name_of_methodNamed B.named B.method).1
  refine lv_aload_n hx hb d_WA_init_0 rfl (lv_at hl 0 rfl) ?_
  refine W.objInit hx hb hown (hts _ kM_WA_3) (hts _ kV_oi) (hts _ kC_oi) rfl (by rw [hml]; exact hl.1) rfl d_WA_init_1 (Nat.le_of_ble_eq_true rfl) (Nat.le_of_ble_eq_true rfl) ?_
  refine W.eq (g2 := F0 m 4 ls []) rfl ?_
  refine lv_aload_n hx hb d_WA_init_4 rfl (lv_at hl 0 rfl) ?_
  refine va_new (ci := 1) (fs := [.null, .int 0]) (C := R_BR) (T := F_BR) (N := 2) hx hb hts i_BR t_BR t_BR_ok hown (hts _ kK_WA_9) (hts _ kN_BR) (hts _ kI_BR) hK hP hD hS hA rfl (lt_all (by decide)) (show _ ≤ 23 from Nat.le_of_ble_eq_true rfl) (show _ ≤ 32535 from Nat.le_of_ble_eq_true rfl) d_WA_init_5 (fun q5 H hP hD hS => ?_)
  have hP : va_P (dC, dI) cls [(h0, .inr (10, [.null, .null, .int 0, .null, .null, .null, .int 0, .null, .int 0, .long 0, .long 0, .int 0, .null, .null, .null, .null, .int 0, .null, .null, .null, .null])), (q5, .inr (1, [.null, .int 0]))] H := hP
  have hD : va_D A [(h0, .inr (10, [.null, .null, .int 0, .null, .null, .null, .int 0, .null, .int 0, .long 0, .long 0, .int 0, .null, .null, .null, .null, .int 0, .null, .null, .null, .null])), (q5, .inr (1, [.null, .int 0]))] := hD
  refine lv_dup hx hb d_WA_init_8 rfl ?_
  refine lv_sipush (v := 8192) hx hb d_WA_init_9 (by decide) ?_
  have hPc := hP.sb (wq := [(q5, .inr (1, [.null, .int 0]))]) [1] rfl
  have hDc := hD.sb (wq := [(q5, .inr (1, [.null, .int 0]))]) [1] (by decide) rfl
  have hKc := hK.sb (tyq := []) [] rfl
  have hFc := va_free (wc := [(q5, .inr (1, [.null, .int 0]))]) hD hS hA [1] rfl
  refine va_callv (va_runI (As := [.int 8192]) (rest := [.ref q5, .ref h0]) ⟨hx, hb, hml, hown, hts⟩ (c_BR_init8192 l dC dI H.size q5 ) ⟨callB_of 1 hts (gW kC_BR_init) rfl rfl rfl (hts _ kI_BR) (hts _ kM_WA_11) (by decide +kernel) ⟨Nat.le_of_ble_eq_true rfl, Nat.le_of_ble_eq_true rfl⟩, rfl, hts _ kV_BR_init⟩ ⟨fun a U g mk z => by obtain ⟨z0, z1, zP, zK, zD⟩ := z; exact ⟨z0, z1, zP, va_K.moved (u := U) (U := U.calling g mk a) (Vm.Alike.refl U.vm) zK, zD⟩, fun U hU hW => ⟨rfl, by rw [hU], va_P.he hU.symm hPc, va_K.moved hW.alike hKc, hDc.weaken (fun _ _ _ _ => trivial)⟩⟩ rfl rfl hl.1 rfl (lv_room (Nat.le_of_ble_eq_true rfl)) d_WA_init_12 ⟨(show _ ≤ 23 from Nat.le_of_ble_eq_true rfl), (show _ ≤ 32535 from Nat.le_of_ble_eq_true rfl)⟩) hS (fun q _ h => hFc q h) hFc (fun u t H1 locs ht hvm hw hB hz1 hk1 hS => ?_)
  obtain ⟨n12_q6, n12_c6, hP1, hK1, hD1⟩ := hB
  replace hP1 := va_P.he ht hP1
  have hK1 := va_K.moved hvm.symm hK1
  obtain ⟨hP, hD⟩ := va_join (wr := (wz_276 h0 0 0 0 0 0 0 0)) (w1 := (wz_94 q5 n12_q6 0 n12_q6 n12_c6 (fun _ => 0))) hP hD [1] [0] rfl rfl (by decide) (by decide) hk1 hFc hP1 hD1
  have hK := (hK.sb (tyq := []) [] rfl).app hK1
  clear hPc hDc hKc hFc hz1 hk1 hP1 hK1 hD1
  rename Heap => H
  have hP : va_P (dC, dI) cls [(h0, .inr (10, [.null, .null, .int 0, .null, .null, .null, .int 0, .null, .int 0, .long 0, .long 0, .int 0, .null, .null, .null, .null, .int 0, .null, .null, .null, .null])), (q5, .inr (1, [.ref n12_q6, .int 0])), (n12_q6, .inl (n12_c6, 8192, .inl (fun _ => 0)))] H := hP
  have hD : va_D A [(h0, .inr (10, [.null, .null, .int 0, .null, .null, .null, .int 0, .null, .int 0, .long 0, .long 0, .int 0, .null, .null, .null, .null, .int 0, .null, .null, .null, .null])), (q5, .inr (1, [.ref n12_q6, .int 0])), (n12_q6, .inl (n12_c6, 8192, .inl (fun _ => 0)))] := hD
  have hK : va_K (dC, dI) cls [(n12_c6, .byte)] s := hK
  refine va_putF (D := (dC, dI)) (ci := 10) (v := .ref q5) (ty := .object "WaferForge$ByteRow") (C := R_WA) (T := F_WA) (N := 21) hx hb hts i_WA t_WA t_WA_ok n_WA hown hK hP hD hS 0 rfl rfl 0 (by decide) (hts _ kF_WA_14) (fun _ h9 => h9) rfl hin rfl (by decide +kernel) rfl rfl (Nat.le_of_ble_eq_true rfl) d_WA_init_15 (fun H locs hP hD hS => ?_)
  have hP : va_P (dC, dI) cls (wz_278 h0 q5 0 0 0 0 0 0 0 q5 n12_q6 0 n12_q6 n12_c6 (fun _ => 0)) H := hP
  have hD : va_D A (wz_278 h0 q5 0 0 0 0 0 0 0 q5 n12_q6 0 n12_q6 n12_c6 (fun _ => 0)) := hD
  refine lv_aload_n hx hb d_WA_init_18 rfl (lv_at hl 0 rfl) ?_
  refine va_new (ci := 3) (fs := [.null, .null, .null, .int 0, .null, .null, .null, .null, .int 0, .null]) (C := R_CD) (T := F_CD) (N := 10) hx hb hts i_CD t_CD t_CD_ok hown (hts _ kK_WA_20) (hts _ kN_CD) (hts _ kI_CD) hK hP hD hS hA rfl (lt_all (by decide)) (show _ ≤ 23 from Nat.le_of_ble_eq_true rfl) (show _ ≤ 32535 from Nat.le_of_ble_eq_true rfl) d_WA_init_19 (fun q19 H hP hD hS => ?_)
  have hP : va_P (dC, dI) cls [(h0, .inr (10, [.ref q5, .null, .int 0, .null, .null, .null, .int 0, .null, .int 0, .long 0, .long 0, .int 0, .null, .null, .null, .null, .int 0, .null, .null, .null, .null])), (q5, .inr (1, [.ref n12_q6, .int 0])), (n12_q6, .inl (n12_c6, 8192, .inl (fun _ => 0))), (q19, .inr (3, [.null, .null, .null, .int 0, .null, .null, .null, .null, .int 0, .null]))] H := hP
  have hD : va_D A [(h0, .inr (10, [.ref q5, .null, .int 0, .null, .null, .null, .int 0, .null, .int 0, .long 0, .long 0, .int 0, .null, .null, .null, .null, .int 0, .null, .null, .null, .null])), (q5, .inr (1, [.ref n12_q6, .int 0])), (n12_q6, .inl (n12_c6, 8192, .inl (fun _ => 0))), (q19, .inr (3, [.null, .null, .null, .int 0, .null, .null, .null, .null, .int 0, .null]))] := hD
  refine lv_dup hx hb d_WA_init_22 rfl ?_
  have hPc := hP.sb (wq := (wz_274 q19 0 0)) [3] rfl
  have hDc := hD.sb (wq := (wz_274 q19 0 0)) [3] (by decide) rfl
  have hKc := hK.sb (tyq := []) [] rfl
  have hFc := va_free (wc := (wz_274 q19 0 0)) hD hS hA [3] rfl
  refine va_callv (va_runIN (As := []) (rest := [.ref q19, .ref h0]) ⟨hx, hb, hml, hown, hts⟩ (c_CD_init l dC dI H.size q19 ) ⟨va_cnB 0 hts (gW kC_CD_init) rfl rfl rfl (sw_nm (k := 1) hSW rfl) (hts _ kI_CD) (by decide +kernel) ⟨Nat.le_of_ble_eq_true rfl, Nat.le_of_ble_eq_true rfl⟩, rfl, hts _ kV_CD_init⟩ ⟨fun a U g mk z => by obtain ⟨z0, z1, zP, zK, zD⟩ := z; exact ⟨z0, z1, zP, va_K.moved (u := U) (U := U.calling g mk a) (Vm.Alike.refl U.vm) zK, zD⟩, fun U hU hW => ⟨rfl, by rw [hU], va_P.he hU.symm hPc, va_K.moved hW.alike hKc, hDc.weaken (fun _ _ _ _ => trivial)⟩⟩ rfl rfl hl.1 rfl (lv_room (Nat.le_of_ble_eq_true rfl)) d_WA_init_23 ⟨(show _ ≤ 23 from Nat.le_of_ble_eq_true rfl), (show _ ≤ 32535 from Nat.le_of_ble_eq_true rfl)⟩) hS (fun q _ h => hFc q h) hFc (fun u t H1 locs ht hvm hw hB hz1 hk1 hS => ?_)
  obtain ⟨n23_q7, n23_q15, n23_q24, n23_q33, n23_q42, n23_q51, n23_q60, n23_q69, n23_c7, n23_c15, hq9r⟩ := hB
  obtain ⟨n23_c24, n23_c33, n23_c42, n23_c51, n23_c60, n23_c69, hP1, hK1, hD1⟩ := hq9r
  replace hP1 := va_P.he ht hP1
  have hK1 := va_K.moved hvm.symm hK1
  obtain ⟨hP, hD⟩ := va_join (wr := (wz_278 h0 q5 0 0 0 0 0 0 0 q5 n12_q6 0 n12_q6 n12_c6 (fun _ => 0))) (w1 := (wz_275 q19 n23_q7 n23_q15 n23_q24 0 n23_q33 n23_q42 n23_q51 n23_q60 0 n23_q69 n23_q7 n23_c7 (fun _ => 0) n23_q15 n23_c15 (fun _ => 0) n23_q24 n23_c24 (fun _ => 0) n23_q33 n23_c33 (fun _ => 0) n23_q42 n23_c42 (fun _ => 0) n23_q51 n23_c51 (fun _ => 0) n23_q60 n23_c60 (fun _ => 0) n23_q69 n23_c69 (fun _ => 0))) hP hD [3] [0, 1, 2] rfl rfl (by decide) (by decide) hk1 hFc hP1 hD1
  have hK := (hK.sb (tyq := [(n12_c6, .byte)]) [0] rfl).app hK1
  clear hPc hDc hKc hFc hz1 hk1 hP1 hK1 hD1
  rename Heap => H
  have hP : va_P (dC, dI) cls [(h0, .inr (10, [.ref q5, .null, .int 0, .null, .null, .null, .int 0, .null, .int 0, .long 0, .long 0, .int 0, .null, .null, .null, .null, .int 0, .null, .null, .null, .null])), (q5, .inr (1, [.ref n12_q6, .int 0])), (n12_q6, .inl (n12_c6, 8192, .inl (fun _ => 0))), (q19, .inr (3, [.ref n23_q7, .ref n23_q15, .ref n23_q24, .int 0, .ref n23_q33, .ref n23_q42, .ref n23_q51, .ref n23_q60, .int 0, .ref n23_q69])), (n23_q7, .inl (n23_c7, 31, .inl (fun _ => 0))), (n23_q15, .inl (n23_c15, 30, .inl (fun _ => 0))), (n23_q24, .inl (n23_c24, 1800, .inl (fun _ => 0))), (n23_q33, .inl (n23_c33, 5000, .inl (fun _ => 0))), (n23_q42, .inl (n23_c42, 5000, .inr (.inl (fun _ => 0)))), (n23_q51, .inl (n23_c51, 5000, .inl (fun _ => 0))), (n23_q60, .inl (n23_c60, 5000, .inl (fun _ => 0))), (n23_q69, .inl (n23_c69, 2000, .inl (fun _ => 0)))] H := hP
  have hD : va_D A [(h0, .inr (10, [.ref q5, .null, .int 0, .null, .null, .null, .int 0, .null, .int 0, .long 0, .long 0, .int 0, .null, .null, .null, .null, .int 0, .null, .null, .null, .null])), (q5, .inr (1, [.ref n12_q6, .int 0])), (n12_q6, .inl (n12_c6, 8192, .inl (fun _ => 0))), (q19, .inr (3, [.ref n23_q7, .ref n23_q15, .ref n23_q24, .int 0, .ref n23_q33, .ref n23_q42, .ref n23_q51, .ref n23_q60, .int 0, .ref n23_q69])), (n23_q7, .inl (n23_c7, 31, .inl (fun _ => 0))), (n23_q15, .inl (n23_c15, 30, .inl (fun _ => 0))), (n23_q24, .inl (n23_c24, 1800, .inl (fun _ => 0))), (n23_q33, .inl (n23_c33, 5000, .inl (fun _ => 0))), (n23_q42, .inl (n23_c42, 5000, .inr (.inl (fun _ => 0)))), (n23_q51, .inl (n23_c51, 5000, .inl (fun _ => 0))), (n23_q60, .inl (n23_c60, 5000, .inl (fun _ => 0))), (n23_q69, .inl (n23_c69, 2000, .inl (fun _ => 0)))] := hD
  have hK : va_K (dC, dI) cls [(n12_c6, .byte), (n23_c7, .int), (n23_c15, .int), (n23_c24, .int), (n23_c33, .int), (n23_c42, .long), (n23_c51, .int), (n23_c60, .int), (n23_c69, .int)] s := hK
  refine va_putF (D := (dC, dI)) (ci := 10) (v := .ref q19) (ty := .object "WaferForge$Codes") (C := R_WA) (T := F_WA) (N := 21) hx hb hts i_WA t_WA t_WA_ok n_WA hown hK hP hD hS 0 rfl rfl 1 (by decide) (hts _ kF_WA_23) (fun _ h9 => h9) rfl hin rfl (by decide +kernel) rfl rfl (Nat.le_of_ble_eq_true rfl) d_WA_init_26 (fun H locs hP hD hS => ?_)
  have hP : va_P (dC, dI) cls [(h0, .inr (10, [.ref q5, .ref q19, .int 0, .null, .null, .null, .int 0, .null, .int 0, .long 0, .long 0, .int 0, .null, .null, .null, .null, .int 0, .null, .null, .null, .null])), (q5, .inr (1, [.ref n12_q6, .int 0])), (n12_q6, .inl (n12_c6, 8192, .inl (fun _ => 0))), (q19, .inr (3, [.ref n23_q7, .ref n23_q15, .ref n23_q24, .int 0, .ref n23_q33, .ref n23_q42, .ref n23_q51, .ref n23_q60, .int 0, .ref n23_q69])), (n23_q7, .inl (n23_c7, 31, .inl (fun _ => 0))), (n23_q15, .inl (n23_c15, 30, .inl (fun _ => 0))), (n23_q24, .inl (n23_c24, 1800, .inl (fun _ => 0))), (n23_q33, .inl (n23_c33, 5000, .inl (fun _ => 0))), (n23_q42, .inl (n23_c42, 5000, .inr (.inl (fun _ => 0)))), (n23_q51, .inl (n23_c51, 5000, .inl (fun _ => 0))), (n23_q60, .inl (n23_c60, 5000, .inl (fun _ => 0))), (n23_q69, .inl (n23_c69, 2000, .inl (fun _ => 0)))] H := hP
  have hD : va_D A [(h0, .inr (10, [.ref q5, .ref q19, .int 0, .null, .null, .null, .int 0, .null, .int 0, .long 0, .long 0, .int 0, .null, .null, .null, .null, .int 0, .null, .null, .null, .null])), (q5, .inr (1, [.ref n12_q6, .int 0])), (n12_q6, .inl (n12_c6, 8192, .inl (fun _ => 0))), (q19, .inr (3, [.ref n23_q7, .ref n23_q15, .ref n23_q24, .int 0, .ref n23_q33, .ref n23_q42, .ref n23_q51, .ref n23_q60, .int 0, .ref n23_q69])), (n23_q7, .inl (n23_c7, 31, .inl (fun _ => 0))), (n23_q15, .inl (n23_c15, 30, .inl (fun _ => 0))), (n23_q24, .inl (n23_c24, 1800, .inl (fun _ => 0))), (n23_q33, .inl (n23_c33, 5000, .inl (fun _ => 0))), (n23_q42, .inl (n23_c42, 5000, .inr (.inl (fun _ => 0)))), (n23_q51, .inl (n23_c51, 5000, .inl (fun _ => 0))), (n23_q60, .inl (n23_c60, 5000, .inl (fun _ => 0))), (n23_q69, .inl (n23_c69, 2000, .inl (fun _ => 0)))] := hD
  refine lv_aload_n hx hb d_WA_init_29 rfl (lv_at hl 0 rfl) ?_
  refine lv_bipush (v := 20) hx hb d_WA_init_30 (by decide) ?_
  refine va_newa (atype := .int) (ty := .int) (N' := 20) (a0 := (20, .inl (fun _ => 0))) hx hb (hts _ ka_int) rfl hK hP hD hS hA (fun _ => rfl) (by decide) (by decide) (by decide) (show _ ≤ 23 from Nat.le_of_ble_eq_true rfl) (show _ ≤ 32535 from Nat.le_of_ble_eq_true rfl) d_WA_init_32 (fun q32 c32 H hK hP hD hS => ?_)
  have hP : va_P (dC, dI) cls [(h0, .inr (10, [.ref q5, .ref q19, .int 0, .null, .null, .null, .int 0, .null, .int 0, .long 0, .long 0, .int 0, .null, .null, .null, .null, .int 0, .null, .null, .null, .null])), (q5, .inr (1, [.ref n12_q6, .int 0])), (n12_q6, .inl (n12_c6, 8192, .inl (fun _ => 0))), (q19, .inr (3, [.ref n23_q7, .ref n23_q15, .ref n23_q24, .int 0, .ref n23_q33, .ref n23_q42, .ref n23_q51, .ref n23_q60, .int 0, .ref n23_q69])), (n23_q7, .inl (n23_c7, 31, .inl (fun _ => 0))), (n23_q15, .inl (n23_c15, 30, .inl (fun _ => 0))), (n23_q24, .inl (n23_c24, 1800, .inl (fun _ => 0))), (n23_q33, .inl (n23_c33, 5000, .inl (fun _ => 0))), (n23_q42, .inl (n23_c42, 5000, .inr (.inl (fun _ => 0)))), (n23_q51, .inl (n23_c51, 5000, .inl (fun _ => 0))), (n23_q60, .inl (n23_c60, 5000, .inl (fun _ => 0))), (n23_q69, .inl (n23_c69, 2000, .inl (fun _ => 0))), (q32, .inl (c32, 20, .inl (fun _ => 0)))] H := hP
  have hD : va_D A [(h0, .inr (10, [.ref q5, .ref q19, .int 0, .null, .null, .null, .int 0, .null, .int 0, .long 0, .long 0, .int 0, .null, .null, .null, .null, .int 0, .null, .null, .null, .null])), (q5, .inr (1, [.ref n12_q6, .int 0])), (n12_q6, .inl (n12_c6, 8192, .inl (fun _ => 0))), (q19, .inr (3, [.ref n23_q7, .ref n23_q15, .ref n23_q24, .int 0, .ref n23_q33, .ref n23_q42, .ref n23_q51, .ref n23_q60, .int 0, .ref n23_q69])), (n23_q7, .inl (n23_c7, 31, .inl (fun _ => 0))), (n23_q15, .inl (n23_c15, 30, .inl (fun _ => 0))), (n23_q24, .inl (n23_c24, 1800, .inl (fun _ => 0))), (n23_q33, .inl (n23_c33, 5000, .inl (fun _ => 0))), (n23_q42, .inl (n23_c42, 5000, .inr (.inl (fun _ => 0)))), (n23_q51, .inl (n23_c51, 5000, .inl (fun _ => 0))), (n23_q60, .inl (n23_c60, 5000, .inl (fun _ => 0))), (n23_q69, .inl (n23_c69, 2000, .inl (fun _ => 0))), (q32, .inl (c32, 20, .inl (fun _ => 0)))] := hD
  have hK : va_K (dC, dI) cls [(n12_c6, .byte), (n23_c7, .int), (n23_c15, .int), (n23_c24, .int), (n23_c33, .int), (n23_c42, .long), (n23_c51, .int), (n23_c60, .int), (n23_c69, .int), (c32, .int)] s := hK
  refine va_putF (D := (dC, dI)) (ci := 10) (v := .ref q32) (ty := .array .int) (C := R_WA) (T := F_WA) (N := 21) hx hb hts i_WA t_WA t_WA_ok n_WA hown hK hP hD hS 0 rfl rfl 3 (by decide) (hts _ kF_WA_27) (fun _ h9 => h9) rfl hin rfl (by decide +kernel) rfl rfl (Nat.le_of_ble_eq_true rfl) d_WA_init_34 (fun H locs hP hD hS => ?_)
  have hP : va_P (dC, dI) cls [(h0, .inr (10, [.ref q5, .ref q19, .int 0, .ref q32, .null, .null, .int 0, .null, .int 0, .long 0, .long 0, .int 0, .null, .null, .null, .null, .int 0, .null, .null, .null, .null])), (q5, .inr (1, [.ref n12_q6, .int 0])), (n12_q6, .inl (n12_c6, 8192, .inl (fun _ => 0))), (q19, .inr (3, [.ref n23_q7, .ref n23_q15, .ref n23_q24, .int 0, .ref n23_q33, .ref n23_q42, .ref n23_q51, .ref n23_q60, .int 0, .ref n23_q69])), (n23_q7, .inl (n23_c7, 31, .inl (fun _ => 0))), (n23_q15, .inl (n23_c15, 30, .inl (fun _ => 0))), (n23_q24, .inl (n23_c24, 1800, .inl (fun _ => 0))), (n23_q33, .inl (n23_c33, 5000, .inl (fun _ => 0))), (n23_q42, .inl (n23_c42, 5000, .inr (.inl (fun _ => 0)))), (n23_q51, .inl (n23_c51, 5000, .inl (fun _ => 0))), (n23_q60, .inl (n23_c60, 5000, .inl (fun _ => 0))), (n23_q69, .inl (n23_c69, 2000, .inl (fun _ => 0))), (q32, .inl (c32, 20, .inl (fun _ => 0)))] H := hP
  have hD : va_D A [(h0, .inr (10, [.ref q5, .ref q19, .int 0, .ref q32, .null, .null, .int 0, .null, .int 0, .long 0, .long 0, .int 0, .null, .null, .null, .null, .int 0, .null, .null, .null, .null])), (q5, .inr (1, [.ref n12_q6, .int 0])), (n12_q6, .inl (n12_c6, 8192, .inl (fun _ => 0))), (q19, .inr (3, [.ref n23_q7, .ref n23_q15, .ref n23_q24, .int 0, .ref n23_q33, .ref n23_q42, .ref n23_q51, .ref n23_q60, .int 0, .ref n23_q69])), (n23_q7, .inl (n23_c7, 31, .inl (fun _ => 0))), (n23_q15, .inl (n23_c15, 30, .inl (fun _ => 0))), (n23_q24, .inl (n23_c24, 1800, .inl (fun _ => 0))), (n23_q33, .inl (n23_c33, 5000, .inl (fun _ => 0))), (n23_q42, .inl (n23_c42, 5000, .inr (.inl (fun _ => 0)))), (n23_q51, .inl (n23_c51, 5000, .inl (fun _ => 0))), (n23_q60, .inl (n23_c60, 5000, .inl (fun _ => 0))), (n23_q69, .inl (n23_c69, 2000, .inl (fun _ => 0))), (q32, .inl (c32, 20, .inl (fun _ => 0)))] := hD
  refine lv_aload_n hx hb d_WA_init_37 rfl (lv_at hl 0 rfl) ?_
  refine lv_sipush (v := 160) hx hb d_WA_init_38 (by decide) ?_
  refine va_newa (atype := .int) (ty := .int) (N' := 160) (a0 := (160, .inl (fun _ => 0))) hx hb (hts _ ka_int) rfl hK hP hD hS hA (fun _ => rfl) (by decide) (by decide) (by decide) (show _ ≤ 23 from Nat.le_of_ble_eq_true rfl) (show _ ≤ 32535 from Nat.le_of_ble_eq_true rfl) d_WA_init_41 (fun q41 c41 H hK hP hD hS => ?_)
  have hP : va_P (dC, dI) cls [(h0, .inr (10, [.ref q5, .ref q19, .int 0, .ref q32, .null, .null, .int 0, .null, .int 0, .long 0, .long 0, .int 0, .null, .null, .null, .null, .int 0, .null, .null, .null, .null])), (q5, .inr (1, [.ref n12_q6, .int 0])), (n12_q6, .inl (n12_c6, 8192, .inl (fun _ => 0))), (q19, .inr (3, [.ref n23_q7, .ref n23_q15, .ref n23_q24, .int 0, .ref n23_q33, .ref n23_q42, .ref n23_q51, .ref n23_q60, .int 0, .ref n23_q69])), (n23_q7, .inl (n23_c7, 31, .inl (fun _ => 0))), (n23_q15, .inl (n23_c15, 30, .inl (fun _ => 0))), (n23_q24, .inl (n23_c24, 1800, .inl (fun _ => 0))), (n23_q33, .inl (n23_c33, 5000, .inl (fun _ => 0))), (n23_q42, .inl (n23_c42, 5000, .inr (.inl (fun _ => 0)))), (n23_q51, .inl (n23_c51, 5000, .inl (fun _ => 0))), (n23_q60, .inl (n23_c60, 5000, .inl (fun _ => 0))), (n23_q69, .inl (n23_c69, 2000, .inl (fun _ => 0))), (q32, .inl (c32, 20, .inl (fun _ => 0))), (q41, .inl (c41, 160, .inl (fun _ => 0)))] H := hP
  have hD : va_D A [(h0, .inr (10, [.ref q5, .ref q19, .int 0, .ref q32, .null, .null, .int 0, .null, .int 0, .long 0, .long 0, .int 0, .null, .null, .null, .null, .int 0, .null, .null, .null, .null])), (q5, .inr (1, [.ref n12_q6, .int 0])), (n12_q6, .inl (n12_c6, 8192, .inl (fun _ => 0))), (q19, .inr (3, [.ref n23_q7, .ref n23_q15, .ref n23_q24, .int 0, .ref n23_q33, .ref n23_q42, .ref n23_q51, .ref n23_q60, .int 0, .ref n23_q69])), (n23_q7, .inl (n23_c7, 31, .inl (fun _ => 0))), (n23_q15, .inl (n23_c15, 30, .inl (fun _ => 0))), (n23_q24, .inl (n23_c24, 1800, .inl (fun _ => 0))), (n23_q33, .inl (n23_c33, 5000, .inl (fun _ => 0))), (n23_q42, .inl (n23_c42, 5000, .inr (.inl (fun _ => 0)))), (n23_q51, .inl (n23_c51, 5000, .inl (fun _ => 0))), (n23_q60, .inl (n23_c60, 5000, .inl (fun _ => 0))), (n23_q69, .inl (n23_c69, 2000, .inl (fun _ => 0))), (q32, .inl (c32, 20, .inl (fun _ => 0))), (q41, .inl (c41, 160, .inl (fun _ => 0)))] := hD
  have hK : va_K (dC, dI) cls [(n12_c6, .byte), (n23_c7, .int), (n23_c15, .int), (n23_c24, .int), (n23_c33, .int), (n23_c42, .long), (n23_c51, .int), (n23_c60, .int), (n23_c69, .int), (c32, .int), (c41, .int)] s := hK
  refine va_putF (D := (dC, dI)) (ci := 10) (v := .ref q41) (ty := .array .int) (C := R_WA) (T := F_WA) (N := 21) hx hb hts i_WA t_WA t_WA_ok n_WA hown hK hP hD hS 0 rfl rfl 4 (by decide) (hts _ kF_WA_31) (fun _ h9 => h9) rfl hin rfl (by decide +kernel) rfl rfl (Nat.le_of_ble_eq_true rfl) d_WA_init_43 (fun H locs hP hD hS => ?_)
  have hP : va_P (dC, dI) cls [(h0, .inr (10, [.ref q5, .ref q19, .int 0, .ref q32, .ref q41, .null, .int 0, .null, .int 0, .long 0, .long 0, .int 0, .null, .null, .null, .null, .int 0, .null, .null, .null, .null])), (q5, .inr (1, [.ref n12_q6, .int 0])), (n12_q6, .inl (n12_c6, 8192, .inl (fun _ => 0))), (q19, .inr (3, [.ref n23_q7, .ref n23_q15, .ref n23_q24, .int 0, .ref n23_q33, .ref n23_q42, .ref n23_q51, .ref n23_q60, .int 0, .ref n23_q69])), (n23_q7, .inl (n23_c7, 31, .inl (fun _ => 0))), (n23_q15, .inl (n23_c15, 30, .inl (fun _ => 0))), (n23_q24, .inl (n23_c24, 1800, .inl (fun _ => 0))), (n23_q33, .inl (n23_c33, 5000, .inl (fun _ => 0))), (n23_q42, .inl (n23_c42, 5000, .inr (.inl (fun _ => 0)))), (n23_q51, .inl (n23_c51, 5000, .inl (fun _ => 0))), (n23_q60, .inl (n23_c60, 5000, .inl (fun _ => 0))), (n23_q69, .inl (n23_c69, 2000, .inl (fun _ => 0))), (q32, .inl (c32, 20, .inl (fun _ => 0))), (q41, .inl (c41, 160, .inl (fun _ => 0)))] H := hP
  have hD : va_D A [(h0, .inr (10, [.ref q5, .ref q19, .int 0, .ref q32, .ref q41, .null, .int 0, .null, .int 0, .long 0, .long 0, .int 0, .null, .null, .null, .null, .int 0, .null, .null, .null, .null])), (q5, .inr (1, [.ref n12_q6, .int 0])), (n12_q6, .inl (n12_c6, 8192, .inl (fun _ => 0))), (q19, .inr (3, [.ref n23_q7, .ref n23_q15, .ref n23_q24, .int 0, .ref n23_q33, .ref n23_q42, .ref n23_q51, .ref n23_q60, .int 0, .ref n23_q69])), (n23_q7, .inl (n23_c7, 31, .inl (fun _ => 0))), (n23_q15, .inl (n23_c15, 30, .inl (fun _ => 0))), (n23_q24, .inl (n23_c24, 1800, .inl (fun _ => 0))), (n23_q33, .inl (n23_c33, 5000, .inl (fun _ => 0))), (n23_q42, .inl (n23_c42, 5000, .inr (.inl (fun _ => 0)))), (n23_q51, .inl (n23_c51, 5000, .inl (fun _ => 0))), (n23_q60, .inl (n23_c60, 5000, .inl (fun _ => 0))), (n23_q69, .inl (n23_c69, 2000, .inl (fun _ => 0))), (q32, .inl (c32, 20, .inl (fun _ => 0))), (q41, .inl (c41, 160, .inl (fun _ => 0)))] := hD
  refine lv_aload_n hx hb d_WA_init_46 rfl (lv_at hl 0 rfl) ?_
  refine lv_bipush (v := 20) hx hb d_WA_init_47 (by decide) ?_
  refine va_newa (atype := .int) (ty := .int) (N' := 20) (a0 := (20, .inl (fun _ => 0))) hx hb (hts _ ka_int) rfl hK hP hD hS hA (fun _ => rfl) (by decide) (by decide) (by decide) (show _ ≤ 23 from Nat.le_of_ble_eq_true rfl) (show _ ≤ 32535 from Nat.le_of_ble_eq_true rfl) d_WA_init_49 (fun q49 c49 H hK hP hD hS => ?_)
  have hP : va_P (dC, dI) cls [(h0, .inr (10, [.ref q5, .ref q19, .int 0, .ref q32, .ref q41, .null, .int 0, .null, .int 0, .long 0, .long 0, .int 0, .null, .null, .null, .null, .int 0, .null, .null, .null, .null])), (q5, .inr (1, [.ref n12_q6, .int 0])), (n12_q6, .inl (n12_c6, 8192, .inl (fun _ => 0))), (q19, .inr (3, [.ref n23_q7, .ref n23_q15, .ref n23_q24, .int 0, .ref n23_q33, .ref n23_q42, .ref n23_q51, .ref n23_q60, .int 0, .ref n23_q69])), (n23_q7, .inl (n23_c7, 31, .inl (fun _ => 0))), (n23_q15, .inl (n23_c15, 30, .inl (fun _ => 0))), (n23_q24, .inl (n23_c24, 1800, .inl (fun _ => 0))), (n23_q33, .inl (n23_c33, 5000, .inl (fun _ => 0))), (n23_q42, .inl (n23_c42, 5000, .inr (.inl (fun _ => 0)))), (n23_q51, .inl (n23_c51, 5000, .inl (fun _ => 0))), (n23_q60, .inl (n23_c60, 5000, .inl (fun _ => 0))), (n23_q69, .inl (n23_c69, 2000, .inl (fun _ => 0))), (q32, .inl (c32, 20, .inl (fun _ => 0))), (q41, .inl (c41, 160, .inl (fun _ => 0))), (q49, .inl (c49, 20, .inl (fun _ => 0)))] H := hP
  have hD : va_D A [(h0, .inr (10, [.ref q5, .ref q19, .int 0, .ref q32, .ref q41, .null, .int 0, .null, .int 0, .long 0, .long 0, .int 0, .null, .null, .null, .null, .int 0, .null, .null, .null, .null])), (q5, .inr (1, [.ref n12_q6, .int 0])), (n12_q6, .inl (n12_c6, 8192, .inl (fun _ => 0))), (q19, .inr (3, [.ref n23_q7, .ref n23_q15, .ref n23_q24, .int 0, .ref n23_q33, .ref n23_q42, .ref n23_q51, .ref n23_q60, .int 0, .ref n23_q69])), (n23_q7, .inl (n23_c7, 31, .inl (fun _ => 0))), (n23_q15, .inl (n23_c15, 30, .inl (fun _ => 0))), (n23_q24, .inl (n23_c24, 1800, .inl (fun _ => 0))), (n23_q33, .inl (n23_c33, 5000, .inl (fun _ => 0))), (n23_q42, .inl (n23_c42, 5000, .inr (.inl (fun _ => 0)))), (n23_q51, .inl (n23_c51, 5000, .inl (fun _ => 0))), (n23_q60, .inl (n23_c60, 5000, .inl (fun _ => 0))), (n23_q69, .inl (n23_c69, 2000, .inl (fun _ => 0))), (q32, .inl (c32, 20, .inl (fun _ => 0))), (q41, .inl (c41, 160, .inl (fun _ => 0))), (q49, .inl (c49, 20, .inl (fun _ => 0)))] := hD
  have hK : va_K (dC, dI) cls [(n12_c6, .byte), (n23_c7, .int), (n23_c15, .int), (n23_c24, .int), (n23_c33, .int), (n23_c42, .long), (n23_c51, .int), (n23_c60, .int), (n23_c69, .int), (c32, .int), (c41, .int), (c49, .int)] s := hK
  refine va_putF (D := (dC, dI)) (ci := 10) (v := .ref q49) (ty := .array .int) (C := R_WA) (T := F_WA) (N := 21) hx hb hts i_WA t_WA t_WA_ok n_WA hown hK hP hD hS 0 rfl rfl 5 (by decide) (hts _ kF_WA_34) (fun _ h9 => h9) rfl hin rfl (by decide +kernel) rfl rfl (Nat.le_of_ble_eq_true rfl) d_WA_init_51 (fun H locs hP hD hS => ?_)
  have hP : va_P (dC, dI) cls [(h0, .inr (10, [.ref q5, .ref q19, .int 0, .ref q32, .ref q41, .ref q49, .int 0, .null, .int 0, .long 0, .long 0, .int 0, .null, .null, .null, .null, .int 0, .null, .null, .null, .null])), (q5, .inr (1, [.ref n12_q6, .int 0])), (n12_q6, .inl (n12_c6, 8192, .inl (fun _ => 0))), (q19, .inr (3, [.ref n23_q7, .ref n23_q15, .ref n23_q24, .int 0, .ref n23_q33, .ref n23_q42, .ref n23_q51, .ref n23_q60, .int 0, .ref n23_q69])), (n23_q7, .inl (n23_c7, 31, .inl (fun _ => 0))), (n23_q15, .inl (n23_c15, 30, .inl (fun _ => 0))), (n23_q24, .inl (n23_c24, 1800, .inl (fun _ => 0))), (n23_q33, .inl (n23_c33, 5000, .inl (fun _ => 0))), (n23_q42, .inl (n23_c42, 5000, .inr (.inl (fun _ => 0)))), (n23_q51, .inl (n23_c51, 5000, .inl (fun _ => 0))), (n23_q60, .inl (n23_c60, 5000, .inl (fun _ => 0))), (n23_q69, .inl (n23_c69, 2000, .inl (fun _ => 0))), (q32, .inl (c32, 20, .inl (fun _ => 0))), (q41, .inl (c41, 160, .inl (fun _ => 0))), (q49, .inl (c49, 20, .inl (fun _ => 0)))] H := hP
  have hD : va_D A [(h0, .inr (10, [.ref q5, .ref q19, .int 0, .ref q32, .ref q41, .ref q49, .int 0, .null, .int 0, .long 0, .long 0, .int 0, .null, .null, .null, .null, .int 0, .null, .null, .null, .null])), (q5, .inr (1, [.ref n12_q6, .int 0])), (n12_q6, .inl (n12_c6, 8192, .inl (fun _ => 0))), (q19, .inr (3, [.ref n23_q7, .ref n23_q15, .ref n23_q24, .int 0, .ref n23_q33, .ref n23_q42, .ref n23_q51, .ref n23_q60, .int 0, .ref n23_q69])), (n23_q7, .inl (n23_c7, 31, .inl (fun _ => 0))), (n23_q15, .inl (n23_c15, 30, .inl (fun _ => 0))), (n23_q24, .inl (n23_c24, 1800, .inl (fun _ => 0))), (n23_q33, .inl (n23_c33, 5000, .inl (fun _ => 0))), (n23_q42, .inl (n23_c42, 5000, .inr (.inl (fun _ => 0)))), (n23_q51, .inl (n23_c51, 5000, .inl (fun _ => 0))), (n23_q60, .inl (n23_c60, 5000, .inl (fun _ => 0))), (n23_q69, .inl (n23_c69, 2000, .inl (fun _ => 0))), (q32, .inl (c32, 20, .inl (fun _ => 0))), (q41, .inl (c41, 160, .inl (fun _ => 0))), (q49, .inl (c49, 20, .inl (fun _ => 0)))] := hD
  refine lv_aload_n hx hb d_WA_init_54 rfl (lv_at hl 0 rfl) ?_
  refine lv_bipush (v := 30) hx hb d_WA_init_55 (by decide) ?_
  refine va_newa (atype := .int) (ty := .int) (N' := 30) (a0 := (30, .inl (fun _ => 0))) hx hb (hts _ ka_int) rfl hK hP hD hS hA (fun _ => rfl) (by decide) (by decide) (by decide) (show _ ≤ 23 from Nat.le_of_ble_eq_true rfl) (show _ ≤ 32535 from Nat.le_of_ble_eq_true rfl) d_WA_init_57 (fun q57 c57 H hK hP hD hS => ?_)
  have hP : va_P (dC, dI) cls [(h0, .inr (10, [.ref q5, .ref q19, .int 0, .ref q32, .ref q41, .ref q49, .int 0, .null, .int 0, .long 0, .long 0, .int 0, .null, .null, .null, .null, .int 0, .null, .null, .null, .null])), (q5, .inr (1, [.ref n12_q6, .int 0])), (n12_q6, .inl (n12_c6, 8192, .inl (fun _ => 0))), (q19, .inr (3, [.ref n23_q7, .ref n23_q15, .ref n23_q24, .int 0, .ref n23_q33, .ref n23_q42, .ref n23_q51, .ref n23_q60, .int 0, .ref n23_q69])), (n23_q7, .inl (n23_c7, 31, .inl (fun _ => 0))), (n23_q15, .inl (n23_c15, 30, .inl (fun _ => 0))), (n23_q24, .inl (n23_c24, 1800, .inl (fun _ => 0))), (n23_q33, .inl (n23_c33, 5000, .inl (fun _ => 0))), (n23_q42, .inl (n23_c42, 5000, .inr (.inl (fun _ => 0)))), (n23_q51, .inl (n23_c51, 5000, .inl (fun _ => 0))), (n23_q60, .inl (n23_c60, 5000, .inl (fun _ => 0))), (n23_q69, .inl (n23_c69, 2000, .inl (fun _ => 0))), (q32, .inl (c32, 20, .inl (fun _ => 0))), (q41, .inl (c41, 160, .inl (fun _ => 0))), (q49, .inl (c49, 20, .inl (fun _ => 0))), (q57, .inl (c57, 30, .inl (fun _ => 0)))] H := hP
  have hD : va_D A [(h0, .inr (10, [.ref q5, .ref q19, .int 0, .ref q32, .ref q41, .ref q49, .int 0, .null, .int 0, .long 0, .long 0, .int 0, .null, .null, .null, .null, .int 0, .null, .null, .null, .null])), (q5, .inr (1, [.ref n12_q6, .int 0])), (n12_q6, .inl (n12_c6, 8192, .inl (fun _ => 0))), (q19, .inr (3, [.ref n23_q7, .ref n23_q15, .ref n23_q24, .int 0, .ref n23_q33, .ref n23_q42, .ref n23_q51, .ref n23_q60, .int 0, .ref n23_q69])), (n23_q7, .inl (n23_c7, 31, .inl (fun _ => 0))), (n23_q15, .inl (n23_c15, 30, .inl (fun _ => 0))), (n23_q24, .inl (n23_c24, 1800, .inl (fun _ => 0))), (n23_q33, .inl (n23_c33, 5000, .inl (fun _ => 0))), (n23_q42, .inl (n23_c42, 5000, .inr (.inl (fun _ => 0)))), (n23_q51, .inl (n23_c51, 5000, .inl (fun _ => 0))), (n23_q60, .inl (n23_c60, 5000, .inl (fun _ => 0))), (n23_q69, .inl (n23_c69, 2000, .inl (fun _ => 0))), (q32, .inl (c32, 20, .inl (fun _ => 0))), (q41, .inl (c41, 160, .inl (fun _ => 0))), (q49, .inl (c49, 20, .inl (fun _ => 0))), (q57, .inl (c57, 30, .inl (fun _ => 0)))] := hD
  have hK : va_K (dC, dI) cls [(n12_c6, .byte), (n23_c7, .int), (n23_c15, .int), (n23_c24, .int), (n23_c33, .int), (n23_c42, .long), (n23_c51, .int), (n23_c60, .int), (n23_c69, .int), (c32, .int), (c41, .int), (c49, .int), (c57, .int)] s := hK
  refine va_putF (D := (dC, dI)) (ci := 10) (v := .ref q57) (ty := .array .int) (C := R_WA) (T := F_WA) (N := 21) hx hb hts i_WA t_WA t_WA_ok n_WA hown hK hP hD hS 0 rfl rfl 7 (by decide) (hts _ kF_WA_37) (fun _ h9 => h9) rfl hin rfl (by decide +kernel) rfl rfl (Nat.le_of_ble_eq_true rfl) d_WA_init_59 (fun H locs hP hD hS => ?_)
  have hP : va_P (dC, dI) cls [(h0, .inr (10, [.ref q5, .ref q19, .int 0, .ref q32, .ref q41, .ref q49, .int 0, .ref q57, .int 0, .long 0, .long 0, .int 0, .null, .null, .null, .null, .int 0, .null, .null, .null, .null])), (q5, .inr (1, [.ref n12_q6, .int 0])), (n12_q6, .inl (n12_c6, 8192, .inl (fun _ => 0))), (q19, .inr (3, [.ref n23_q7, .ref n23_q15, .ref n23_q24, .int 0, .ref n23_q33, .ref n23_q42, .ref n23_q51, .ref n23_q60, .int 0, .ref n23_q69])), (n23_q7, .inl (n23_c7, 31, .inl (fun _ => 0))), (n23_q15, .inl (n23_c15, 30, .inl (fun _ => 0))), (n23_q24, .inl (n23_c24, 1800, .inl (fun _ => 0))), (n23_q33, .inl (n23_c33, 5000, .inl (fun _ => 0))), (n23_q42, .inl (n23_c42, 5000, .inr (.inl (fun _ => 0)))), (n23_q51, .inl (n23_c51, 5000, .inl (fun _ => 0))), (n23_q60, .inl (n23_c60, 5000, .inl (fun _ => 0))), (n23_q69, .inl (n23_c69, 2000, .inl (fun _ => 0))), (q32, .inl (c32, 20, .inl (fun _ => 0))), (q41, .inl (c41, 160, .inl (fun _ => 0))), (q49, .inl (c49, 20, .inl (fun _ => 0))), (q57, .inl (c57, 30, .inl (fun _ => 0)))] H := hP
  have hD : va_D A [(h0, .inr (10, [.ref q5, .ref q19, .int 0, .ref q32, .ref q41, .ref q49, .int 0, .ref q57, .int 0, .long 0, .long 0, .int 0, .null, .null, .null, .null, .int 0, .null, .null, .null, .null])), (q5, .inr (1, [.ref n12_q6, .int 0])), (n12_q6, .inl (n12_c6, 8192, .inl (fun _ => 0))), (q19, .inr (3, [.ref n23_q7, .ref n23_q15, .ref n23_q24, .int 0, .ref n23_q33, .ref n23_q42, .ref n23_q51, .ref n23_q60, .int 0, .ref n23_q69])), (n23_q7, .inl (n23_c7, 31, .inl (fun _ => 0))), (n23_q15, .inl (n23_c15, 30, .inl (fun _ => 0))), (n23_q24, .inl (n23_c24, 1800, .inl (fun _ => 0))), (n23_q33, .inl (n23_c33, 5000, .inl (fun _ => 0))), (n23_q42, .inl (n23_c42, 5000, .inr (.inl (fun _ => 0)))), (n23_q51, .inl (n23_c51, 5000, .inl (fun _ => 0))), (n23_q60, .inl (n23_c60, 5000, .inl (fun _ => 0))), (n23_q69, .inl (n23_c69, 2000, .inl (fun _ => 0))), (q32, .inl (c32, 20, .inl (fun _ => 0))), (q41, .inl (c41, 160, .inl (fun _ => 0))), (q49, .inl (c49, 20, .inl (fun _ => 0))), (q57, .inl (c57, 30, .inl (fun _ => 0)))] := hD
  refine lv_aload_n hx hb d_WA_init_62 rfl (lv_at hl 0 rfl) ?_
  refine lv_bipush (v := 20) hx hb d_WA_init_63 (by decide) ?_
  refine va_newa (atype := .int) (ty := .int) (N' := 20) (a0 := (20, .inl (fun _ => 0))) hx hb (hts _ ka_int) rfl hK hP hD hS hA (fun _ => rfl) (by decide) (by decide) (by decide) (show _ ≤ 23 from Nat.le_of_ble_eq_true rfl) (show _ ≤ 32535 from Nat.le_of_ble_eq_true rfl) d_WA_init_65 (fun q65 c65 H hK hP hD hS => ?_)
  have hP : va_P (dC, dI) cls [(h0, .inr (10, [.ref q5, .ref q19, .int 0, .ref q32, .ref q41, .ref q49, .int 0, .ref q57, .int 0, .long 0, .long 0, .int 0, .null, .null, .null, .null, .int 0, .null, .null, .null, .null])), (q5, .inr (1, [.ref n12_q6, .int 0])), (n12_q6, .inl (n12_c6, 8192, .inl (fun _ => 0))), (q19, .inr (3, [.ref n23_q7, .ref n23_q15, .ref n23_q24, .int 0, .ref n23_q33, .ref n23_q42, .ref n23_q51, .ref n23_q60, .int 0, .ref n23_q69])), (n23_q7, .inl (n23_c7, 31, .inl (fun _ => 0))), (n23_q15, .inl (n23_c15, 30, .inl (fun _ => 0))), (n23_q24, .inl (n23_c24, 1800, .inl (fun _ => 0))), (n23_q33, .inl (n23_c33, 5000, .inl (fun _ => 0))), (n23_q42, .inl (n23_c42, 5000, .inr (.inl (fun _ => 0)))), (n23_q51, .inl (n23_c51, 5000, .inl (fun _ => 0))), (n23_q60, .inl (n23_c60, 5000, .inl (fun _ => 0))), (n23_q69, .inl (n23_c69, 2000, .inl (fun _ => 0))), (q32, .inl (c32, 20, .inl (fun _ => 0))), (q41, .inl (c41, 160, .inl (fun _ => 0))), (q49, .inl (c49, 20, .inl (fun _ => 0))), (q57, .inl (c57, 30, .inl (fun _ => 0))), (q65, .inl (c65, 20, .inl (fun _ => 0)))] H := hP
  have hD : va_D A [(h0, .inr (10, [.ref q5, .ref q19, .int 0, .ref q32, .ref q41, .ref q49, .int 0, .ref q57, .int 0, .long 0, .long 0, .int 0, .null, .null, .null, .null, .int 0, .null, .null, .null, .null])), (q5, .inr (1, [.ref n12_q6, .int 0])), (n12_q6, .inl (n12_c6, 8192, .inl (fun _ => 0))), (q19, .inr (3, [.ref n23_q7, .ref n23_q15, .ref n23_q24, .int 0, .ref n23_q33, .ref n23_q42, .ref n23_q51, .ref n23_q60, .int 0, .ref n23_q69])), (n23_q7, .inl (n23_c7, 31, .inl (fun _ => 0))), (n23_q15, .inl (n23_c15, 30, .inl (fun _ => 0))), (n23_q24, .inl (n23_c24, 1800, .inl (fun _ => 0))), (n23_q33, .inl (n23_c33, 5000, .inl (fun _ => 0))), (n23_q42, .inl (n23_c42, 5000, .inr (.inl (fun _ => 0)))), (n23_q51, .inl (n23_c51, 5000, .inl (fun _ => 0))), (n23_q60, .inl (n23_c60, 5000, .inl (fun _ => 0))), (n23_q69, .inl (n23_c69, 2000, .inl (fun _ => 0))), (q32, .inl (c32, 20, .inl (fun _ => 0))), (q41, .inl (c41, 160, .inl (fun _ => 0))), (q49, .inl (c49, 20, .inl (fun _ => 0))), (q57, .inl (c57, 30, .inl (fun _ => 0))), (q65, .inl (c65, 20, .inl (fun _ => 0)))] := hD
  have hK : va_K (dC, dI) cls [(n12_c6, .byte), (n23_c7, .int), (n23_c15, .int), (n23_c24, .int), (n23_c33, .int), (n23_c42, .long), (n23_c51, .int), (n23_c60, .int), (n23_c69, .int), (c32, .int), (c41, .int), (c49, .int), (c57, .int), (c65, .int)] s := hK
  refine va_putF (D := (dC, dI)) (ci := 10) (v := .ref q65) (ty := .array .int) (C := R_WA) (T := F_WA) (N := 21) hx hb hts i_WA t_WA t_WA_ok n_WA hown hK hP hD hS 0 rfl rfl 12 (by decide) (hts _ kF_WA_40) (fun _ h9 => h9) rfl hin rfl (by decide +kernel) rfl rfl (Nat.le_of_ble_eq_true rfl) d_WA_init_67 (fun H locs hP hD hS => ?_)
  have hP : va_P (dC, dI) cls [(h0, .inr (10, [.ref q5, .ref q19, .int 0, .ref q32, .ref q41, .ref q49, .int 0, .ref q57, .int 0, .long 0, .long 0, .int 0, .ref q65, .null, .null, .null, .int 0, .null, .null, .null, .null])), (q5, .inr (1, [.ref n12_q6, .int 0])), (n12_q6, .inl (n12_c6, 8192, .inl (fun _ => 0))), (q19, .inr (3, [.ref n23_q7, .ref n23_q15, .ref n23_q24, .int 0, .ref n23_q33, .ref n23_q42, .ref n23_q51, .ref n23_q60, .int 0, .ref n23_q69])), (n23_q7, .inl (n23_c7, 31, .inl (fun _ => 0))), (n23_q15, .inl (n23_c15, 30, .inl (fun _ => 0))), (n23_q24, .inl (n23_c24, 1800, .inl (fun _ => 0))), (n23_q33, .inl (n23_c33, 5000, .inl (fun _ => 0))), (n23_q42, .inl (n23_c42, 5000, .inr (.inl (fun _ => 0)))), (n23_q51, .inl (n23_c51, 5000, .inl (fun _ => 0))), (n23_q60, .inl (n23_c60, 5000, .inl (fun _ => 0))), (n23_q69, .inl (n23_c69, 2000, .inl (fun _ => 0))), (q32, .inl (c32, 20, .inl (fun _ => 0))), (q41, .inl (c41, 160, .inl (fun _ => 0))), (q49, .inl (c49, 20, .inl (fun _ => 0))), (q57, .inl (c57, 30, .inl (fun _ => 0))), (q65, .inl (c65, 20, .inl (fun _ => 0)))] H := hP
  have hD : va_D A [(h0, .inr (10, [.ref q5, .ref q19, .int 0, .ref q32, .ref q41, .ref q49, .int 0, .ref q57, .int 0, .long 0, .long 0, .int 0, .ref q65, .null, .null, .null, .int 0, .null, .null, .null, .null])), (q5, .inr (1, [.ref n12_q6, .int 0])), (n12_q6, .inl (n12_c6, 8192, .inl (fun _ => 0))), (q19, .inr (3, [.ref n23_q7, .ref n23_q15, .ref n23_q24, .int 0, .ref n23_q33, .ref n23_q42, .ref n23_q51, .ref n23_q60, .int 0, .ref n23_q69])), (n23_q7, .inl (n23_c7, 31, .inl (fun _ => 0))), (n23_q15, .inl (n23_c15, 30, .inl (fun _ => 0))), (n23_q24, .inl (n23_c24, 1800, .inl (fun _ => 0))), (n23_q33, .inl (n23_c33, 5000, .inl (fun _ => 0))), (n23_q42, .inl (n23_c42, 5000, .inr (.inl (fun _ => 0)))), (n23_q51, .inl (n23_c51, 5000, .inl (fun _ => 0))), (n23_q60, .inl (n23_c60, 5000, .inl (fun _ => 0))), (n23_q69, .inl (n23_c69, 2000, .inl (fun _ => 0))), (q32, .inl (c32, 20, .inl (fun _ => 0))), (q41, .inl (c41, 160, .inl (fun _ => 0))), (q49, .inl (c49, 20, .inl (fun _ => 0))), (q57, .inl (c57, 30, .inl (fun _ => 0))), (q65, .inl (c65, 20, .inl (fun _ => 0)))] := hD
  refine lv_aload_n hx hb d_WA_init_70 rfl (lv_at hl 0 rfl) ?_
  refine lv_bipush (v := 20) hx hb d_WA_init_71 (by decide) ?_
  refine va_newa (atype := .int) (ty := .int) (N' := 20) (a0 := (20, .inl (fun _ => 0))) hx hb (hts _ ka_int) rfl hK hP hD hS hA (fun _ => rfl) (by decide) (by decide) (by decide) (show _ ≤ 23 from Nat.le_of_ble_eq_true rfl) (show _ ≤ 32535 from Nat.le_of_ble_eq_true rfl) d_WA_init_73 (fun q73 c73 H hK hP hD hS => ?_)
  have hP : va_P (dC, dI) cls [(h0, .inr (10, [.ref q5, .ref q19, .int 0, .ref q32, .ref q41, .ref q49, .int 0, .ref q57, .int 0, .long 0, .long 0, .int 0, .ref q65, .null, .null, .null, .int 0, .null, .null, .null, .null])), (q5, .inr (1, [.ref n12_q6, .int 0])), (n12_q6, .inl (n12_c6, 8192, .inl (fun _ => 0))), (q19, .inr (3, [.ref n23_q7, .ref n23_q15, .ref n23_q24, .int 0, .ref n23_q33, .ref n23_q42, .ref n23_q51, .ref n23_q60, .int 0, .ref n23_q69])), (n23_q7, .inl (n23_c7, 31, .inl (fun _ => 0))), (n23_q15, .inl (n23_c15, 30, .inl (fun _ => 0))), (n23_q24, .inl (n23_c24, 1800, .inl (fun _ => 0))), (n23_q33, .inl (n23_c33, 5000, .inl (fun _ => 0))), (n23_q42, .inl (n23_c42, 5000, .inr (.inl (fun _ => 0)))), (n23_q51, .inl (n23_c51, 5000, .inl (fun _ => 0))), (n23_q60, .inl (n23_c60, 5000, .inl (fun _ => 0))), (n23_q69, .inl (n23_c69, 2000, .inl (fun _ => 0))), (q32, .inl (c32, 20, .inl (fun _ => 0))), (q41, .inl (c41, 160, .inl (fun _ => 0))), (q49, .inl (c49, 20, .inl (fun _ => 0))), (q57, .inl (c57, 30, .inl (fun _ => 0))), (q65, .inl (c65, 20, .inl (fun _ => 0))), (q73, .inl (c73, 20, .inl (fun _ => 0)))] H := hP
  have hD : va_D A [(h0, .inr (10, [.ref q5, .ref q19, .int 0, .ref q32, .ref q41, .ref q49, .int 0, .ref q57, .int 0, .long 0, .long 0, .int 0, .ref q65, .null, .null, .null, .int 0, .null, .null, .null, .null])), (q5, .inr (1, [.ref n12_q6, .int 0])), (n12_q6, .inl (n12_c6, 8192, .inl (fun _ => 0))), (q19, .inr (3, [.ref n23_q7, .ref n23_q15, .ref n23_q24, .int 0, .ref n23_q33, .ref n23_q42, .ref n23_q51, .ref n23_q60, .int 0, .ref n23_q69])), (n23_q7, .inl (n23_c7, 31, .inl (fun _ => 0))), (n23_q15, .inl (n23_c15, 30, .inl (fun _ => 0))), (n23_q24, .inl (n23_c24, 1800, .inl (fun _ => 0))), (n23_q33, .inl (n23_c33, 5000, .inl (fun _ => 0))), (n23_q42, .inl (n23_c42, 5000, .inr (.inl (fun _ => 0)))), (n23_q51, .inl (n23_c51, 5000, .inl (fun _ => 0))), (n23_q60, .inl (n23_c60, 5000, .inl (fun _ => 0))), (n23_q69, .inl (n23_c69, 2000, .inl (fun _ => 0))), (q32, .inl (c32, 20, .inl (fun _ => 0))), (q41, .inl (c41, 160, .inl (fun _ => 0))), (q49, .inl (c49, 20, .inl (fun _ => 0))), (q57, .inl (c57, 30, .inl (fun _ => 0))), (q65, .inl (c65, 20, .inl (fun _ => 0))), (q73, .inl (c73, 20, .inl (fun _ => 0)))] := hD
  have hK : va_K (dC, dI) cls [(n12_c6, .byte), (n23_c7, .int), (n23_c15, .int), (n23_c24, .int), (n23_c33, .int), (n23_c42, .long), (n23_c51, .int), (n23_c60, .int), (n23_c69, .int), (c32, .int), (c41, .int), (c49, .int), (c57, .int), (c65, .int), (c73, .int)] s := hK
  refine va_putF (D := (dC, dI)) (ci := 10) (v := .ref q73) (ty := .array .int) (C := R_WA) (T := F_WA) (N := 21) hx hb hts i_WA t_WA t_WA_ok n_WA hown hK hP hD hS 0 rfl rfl 13 (by decide) (hts _ kF_WA_43) (fun _ h9 => h9) rfl hin rfl (by decide +kernel) rfl rfl (Nat.le_of_ble_eq_true rfl) d_WA_init_75 (fun H locs hP hD hS => ?_)
  have hP : va_P (dC, dI) cls [(h0, .inr (10, [.ref q5, .ref q19, .int 0, .ref q32, .ref q41, .ref q49, .int 0, .ref q57, .int 0, .long 0, .long 0, .int 0, .ref q65, .ref q73, .null, .null, .int 0, .null, .null, .null, .null])), (q5, .inr (1, [.ref n12_q6, .int 0])), (n12_q6, .inl (n12_c6, 8192, .inl (fun _ => 0))), (q19, .inr (3, [.ref n23_q7, .ref n23_q15, .ref n23_q24, .int 0, .ref n23_q33, .ref n23_q42, .ref n23_q51, .ref n23_q60, .int 0, .ref n23_q69])), (n23_q7, .inl (n23_c7, 31, .inl (fun _ => 0))), (n23_q15, .inl (n23_c15, 30, .inl (fun _ => 0))), (n23_q24, .inl (n23_c24, 1800, .inl (fun _ => 0))), (n23_q33, .inl (n23_c33, 5000, .inl (fun _ => 0))), (n23_q42, .inl (n23_c42, 5000, .inr (.inl (fun _ => 0)))), (n23_q51, .inl (n23_c51, 5000, .inl (fun _ => 0))), (n23_q60, .inl (n23_c60, 5000, .inl (fun _ => 0))), (n23_q69, .inl (n23_c69, 2000, .inl (fun _ => 0))), (q32, .inl (c32, 20, .inl (fun _ => 0))), (q41, .inl (c41, 160, .inl (fun _ => 0))), (q49, .inl (c49, 20, .inl (fun _ => 0))), (q57, .inl (c57, 30, .inl (fun _ => 0))), (q65, .inl (c65, 20, .inl (fun _ => 0))), (q73, .inl (c73, 20, .inl (fun _ => 0)))] H := hP
  have hD : va_D A [(h0, .inr (10, [.ref q5, .ref q19, .int 0, .ref q32, .ref q41, .ref q49, .int 0, .ref q57, .int 0, .long 0, .long 0, .int 0, .ref q65, .ref q73, .null, .null, .int 0, .null, .null, .null, .null])), (q5, .inr (1, [.ref n12_q6, .int 0])), (n12_q6, .inl (n12_c6, 8192, .inl (fun _ => 0))), (q19, .inr (3, [.ref n23_q7, .ref n23_q15, .ref n23_q24, .int 0, .ref n23_q33, .ref n23_q42, .ref n23_q51, .ref n23_q60, .int 0, .ref n23_q69])), (n23_q7, .inl (n23_c7, 31, .inl (fun _ => 0))), (n23_q15, .inl (n23_c15, 30, .inl (fun _ => 0))), (n23_q24, .inl (n23_c24, 1800, .inl (fun _ => 0))), (n23_q33, .inl (n23_c33, 5000, .inl (fun _ => 0))), (n23_q42, .inl (n23_c42, 5000, .inr (.inl (fun _ => 0)))), (n23_q51, .inl (n23_c51, 5000, .inl (fun _ => 0))), (n23_q60, .inl (n23_c60, 5000, .inl (fun _ => 0))), (n23_q69, .inl (n23_c69, 2000, .inl (fun _ => 0))), (q32, .inl (c32, 20, .inl (fun _ => 0))), (q41, .inl (c41, 160, .inl (fun _ => 0))), (q49, .inl (c49, 20, .inl (fun _ => 0))), (q57, .inl (c57, 30, .inl (fun _ => 0))), (q65, .inl (c65, 20, .inl (fun _ => 0))), (q73, .inl (c73, 20, .inl (fun _ => 0)))] := hD
  refine lv_aload_n hx hb d_WA_init_78 rfl (lv_at hl 0 rfl) ?_
  refine lv_bipush (v := 20) hx hb d_WA_init_79 (by decide) ?_
  refine va_newa (atype := .long) (ty := .long) (N' := 20) (a0 := (20, .inr (.inl (fun _ => 0)))) hx hb (hts _ ka_long) rfl hK hP hD hS hA (fun _ => rfl) (by decide) (by decide) (by decide) (show _ ≤ 23 from Nat.le_of_ble_eq_true rfl) (show _ ≤ 32535 from Nat.le_of_ble_eq_true rfl) d_WA_init_81 (fun q81 c81 H hK hP hD hS => ?_)
  have hP : va_P (dC, dI) cls [(h0, .inr (10, [.ref q5, .ref q19, .int 0, .ref q32, .ref q41, .ref q49, .int 0, .ref q57, .int 0, .long 0, .long 0, .int 0, .ref q65, .ref q73, .null, .null, .int 0, .null, .null, .null, .null])), (q5, .inr (1, [.ref n12_q6, .int 0])), (n12_q6, .inl (n12_c6, 8192, .inl (fun _ => 0))), (q19, .inr (3, [.ref n23_q7, .ref n23_q15, .ref n23_q24, .int 0, .ref n23_q33, .ref n23_q42, .ref n23_q51, .ref n23_q60, .int 0, .ref n23_q69])), (n23_q7, .inl (n23_c7, 31, .inl (fun _ => 0))), (n23_q15, .inl (n23_c15, 30, .inl (fun _ => 0))), (n23_q24, .inl (n23_c24, 1800, .inl (fun _ => 0))), (n23_q33, .inl (n23_c33, 5000, .inl (fun _ => 0))), (n23_q42, .inl (n23_c42, 5000, .inr (.inl (fun _ => 0)))), (n23_q51, .inl (n23_c51, 5000, .inl (fun _ => 0))), (n23_q60, .inl (n23_c60, 5000, .inl (fun _ => 0))), (n23_q69, .inl (n23_c69, 2000, .inl (fun _ => 0))), (q32, .inl (c32, 20, .inl (fun _ => 0))), (q41, .inl (c41, 160, .inl (fun _ => 0))), (q49, .inl (c49, 20, .inl (fun _ => 0))), (q57, .inl (c57, 30, .inl (fun _ => 0))), (q65, .inl (c65, 20, .inl (fun _ => 0))), (q73, .inl (c73, 20, .inl (fun _ => 0))), (q81, .inl (c81, 20, .inr (.inl (fun _ => 0))))] H := hP
  have hD : va_D A [(h0, .inr (10, [.ref q5, .ref q19, .int 0, .ref q32, .ref q41, .ref q49, .int 0, .ref q57, .int 0, .long 0, .long 0, .int 0, .ref q65, .ref q73, .null, .null, .int 0, .null, .null, .null, .null])), (q5, .inr (1, [.ref n12_q6, .int 0])), (n12_q6, .inl (n12_c6, 8192, .inl (fun _ => 0))), (q19, .inr (3, [.ref n23_q7, .ref n23_q15, .ref n23_q24, .int 0, .ref n23_q33, .ref n23_q42, .ref n23_q51, .ref n23_q60, .int 0, .ref n23_q69])), (n23_q7, .inl (n23_c7, 31, .inl (fun _ => 0))), (n23_q15, .inl (n23_c15, 30, .inl (fun _ => 0))), (n23_q24, .inl (n23_c24, 1800, .inl (fun _ => 0))), (n23_q33, .inl (n23_c33, 5000, .inl (fun _ => 0))), (n23_q42, .inl (n23_c42, 5000, .inr (.inl (fun _ => 0)))), (n23_q51, .inl (n23_c51, 5000, .inl (fun _ => 0))), (n23_q60, .inl (n23_c60, 5000, .inl (fun _ => 0))), (n23_q69, .inl (n23_c69, 2000, .inl (fun _ => 0))), (q32, .inl (c32, 20, .inl (fun _ => 0))), (q41, .inl (c41, 160, .inl (fun _ => 0))), (q49, .inl (c49, 20, .inl (fun _ => 0))), (q57, .inl (c57, 30, .inl (fun _ => 0))), (q65, .inl (c65, 20, .inl (fun _ => 0))), (q73, .inl (c73, 20, .inl (fun _ => 0))), (q81, .inl (c81, 20, .inr (.inl (fun _ => 0))))] := hD
  have hK : va_K (dC, dI) cls [(n12_c6, .byte), (n23_c7, .int), (n23_c15, .int), (n23_c24, .int), (n23_c33, .int), (n23_c42, .long), (n23_c51, .int), (n23_c60, .int), (n23_c69, .int), (c32, .int), (c41, .int), (c49, .int), (c57, .int), (c65, .int), (c73, .int), (c81, .long)] s := hK
  refine va_putF (D := (dC, dI)) (ci := 10) (v := .ref q81) (ty := .array .long) (C := R_WA) (T := F_WA) (N := 21) hx hb hts i_WA t_WA t_WA_ok n_WA hown hK hP hD hS 0 rfl rfl 14 (by decide) (hts _ kF_WA_46) (fun _ h9 => h9) rfl hin rfl (by decide +kernel) rfl rfl (Nat.le_of_ble_eq_true rfl) d_WA_init_83 (fun H locs hP hD hS => ?_)
  have hP : va_P (dC, dI) cls [(h0, .inr (10, [.ref q5, .ref q19, .int 0, .ref q32, .ref q41, .ref q49, .int 0, .ref q57, .int 0, .long 0, .long 0, .int 0, .ref q65, .ref q73, .ref q81, .null, .int 0, .null, .null, .null, .null])), (q5, .inr (1, [.ref n12_q6, .int 0])), (n12_q6, .inl (n12_c6, 8192, .inl (fun _ => 0))), (q19, .inr (3, [.ref n23_q7, .ref n23_q15, .ref n23_q24, .int 0, .ref n23_q33, .ref n23_q42, .ref n23_q51, .ref n23_q60, .int 0, .ref n23_q69])), (n23_q7, .inl (n23_c7, 31, .inl (fun _ => 0))), (n23_q15, .inl (n23_c15, 30, .inl (fun _ => 0))), (n23_q24, .inl (n23_c24, 1800, .inl (fun _ => 0))), (n23_q33, .inl (n23_c33, 5000, .inl (fun _ => 0))), (n23_q42, .inl (n23_c42, 5000, .inr (.inl (fun _ => 0)))), (n23_q51, .inl (n23_c51, 5000, .inl (fun _ => 0))), (n23_q60, .inl (n23_c60, 5000, .inl (fun _ => 0))), (n23_q69, .inl (n23_c69, 2000, .inl (fun _ => 0))), (q32, .inl (c32, 20, .inl (fun _ => 0))), (q41, .inl (c41, 160, .inl (fun _ => 0))), (q49, .inl (c49, 20, .inl (fun _ => 0))), (q57, .inl (c57, 30, .inl (fun _ => 0))), (q65, .inl (c65, 20, .inl (fun _ => 0))), (q73, .inl (c73, 20, .inl (fun _ => 0))), (q81, .inl (c81, 20, .inr (.inl (fun _ => 0))))] H := hP
  have hD : va_D A [(h0, .inr (10, [.ref q5, .ref q19, .int 0, .ref q32, .ref q41, .ref q49, .int 0, .ref q57, .int 0, .long 0, .long 0, .int 0, .ref q65, .ref q73, .ref q81, .null, .int 0, .null, .null, .null, .null])), (q5, .inr (1, [.ref n12_q6, .int 0])), (n12_q6, .inl (n12_c6, 8192, .inl (fun _ => 0))), (q19, .inr (3, [.ref n23_q7, .ref n23_q15, .ref n23_q24, .int 0, .ref n23_q33, .ref n23_q42, .ref n23_q51, .ref n23_q60, .int 0, .ref n23_q69])), (n23_q7, .inl (n23_c7, 31, .inl (fun _ => 0))), (n23_q15, .inl (n23_c15, 30, .inl (fun _ => 0))), (n23_q24, .inl (n23_c24, 1800, .inl (fun _ => 0))), (n23_q33, .inl (n23_c33, 5000, .inl (fun _ => 0))), (n23_q42, .inl (n23_c42, 5000, .inr (.inl (fun _ => 0)))), (n23_q51, .inl (n23_c51, 5000, .inl (fun _ => 0))), (n23_q60, .inl (n23_c60, 5000, .inl (fun _ => 0))), (n23_q69, .inl (n23_c69, 2000, .inl (fun _ => 0))), (q32, .inl (c32, 20, .inl (fun _ => 0))), (q41, .inl (c41, 160, .inl (fun _ => 0))), (q49, .inl (c49, 20, .inl (fun _ => 0))), (q57, .inl (c57, 30, .inl (fun _ => 0))), (q65, .inl (c65, 20, .inl (fun _ => 0))), (q73, .inl (c73, 20, .inl (fun _ => 0))), (q81, .inl (c81, 20, .inr (.inl (fun _ => 0))))] := hD
  refine lv_aload_n hx hb d_WA_init_86 rfl (lv_at hl 0 rfl) ?_
  refine lv_bipush (v := 20) hx hb d_WA_init_87 (by decide) ?_
  refine va_newa (atype := .boolean) (ty := .boolean) (N' := 20) (a0 := (20, .inl (fun _ => 0))) hx hb (hts _ ka_boolean) rfl hK hP hD hS hA (fun _ => rfl) (by decide) (by decide) (by decide) (show _ ≤ 23 from Nat.le_of_ble_eq_true rfl) (show _ ≤ 32535 from Nat.le_of_ble_eq_true rfl) d_WA_init_89 (fun q89 c89 H hK hP hD hS => ?_)
  have hP : va_P (dC, dI) cls [(h0, .inr (10, [.ref q5, .ref q19, .int 0, .ref q32, .ref q41, .ref q49, .int 0, .ref q57, .int 0, .long 0, .long 0, .int 0, .ref q65, .ref q73, .ref q81, .null, .int 0, .null, .null, .null, .null])), (q5, .inr (1, [.ref n12_q6, .int 0])), (n12_q6, .inl (n12_c6, 8192, .inl (fun _ => 0))), (q19, .inr (3, [.ref n23_q7, .ref n23_q15, .ref n23_q24, .int 0, .ref n23_q33, .ref n23_q42, .ref n23_q51, .ref n23_q60, .int 0, .ref n23_q69])), (n23_q7, .inl (n23_c7, 31, .inl (fun _ => 0))), (n23_q15, .inl (n23_c15, 30, .inl (fun _ => 0))), (n23_q24, .inl (n23_c24, 1800, .inl (fun _ => 0))), (n23_q33, .inl (n23_c33, 5000, .inl (fun _ => 0))), (n23_q42, .inl (n23_c42, 5000, .inr (.inl (fun _ => 0)))), (n23_q51, .inl (n23_c51, 5000, .inl (fun _ => 0))), (n23_q60, .inl (n23_c60, 5000, .inl (fun _ => 0))), (n23_q69, .inl (n23_c69, 2000, .inl (fun _ => 0))), (q32, .inl (c32, 20, .inl (fun _ => 0))), (q41, .inl (c41, 160, .inl (fun _ => 0))), (q49, .inl (c49, 20, .inl (fun _ => 0))), (q57, .inl (c57, 30, .inl (fun _ => 0))), (q65, .inl (c65, 20, .inl (fun _ => 0))), (q73, .inl (c73, 20, .inl (fun _ => 0))), (q81, .inl (c81, 20, .inr (.inl (fun _ => 0)))), (q89, .inl (c89, 20, .inl (fun _ => 0)))] H := hP
  have hD : va_D A [(h0, .inr (10, [.ref q5, .ref q19, .int 0, .ref q32, .ref q41, .ref q49, .int 0, .ref q57, .int 0, .long 0, .long 0, .int 0, .ref q65, .ref q73, .ref q81, .null, .int 0, .null, .null, .null, .null])), (q5, .inr (1, [.ref n12_q6, .int 0])), (n12_q6, .inl (n12_c6, 8192, .inl (fun _ => 0))), (q19, .inr (3, [.ref n23_q7, .ref n23_q15, .ref n23_q24, .int 0, .ref n23_q33, .ref n23_q42, .ref n23_q51, .ref n23_q60, .int 0, .ref n23_q69])), (n23_q7, .inl (n23_c7, 31, .inl (fun _ => 0))), (n23_q15, .inl (n23_c15, 30, .inl (fun _ => 0))), (n23_q24, .inl (n23_c24, 1800, .inl (fun _ => 0))), (n23_q33, .inl (n23_c33, 5000, .inl (fun _ => 0))), (n23_q42, .inl (n23_c42, 5000, .inr (.inl (fun _ => 0)))), (n23_q51, .inl (n23_c51, 5000, .inl (fun _ => 0))), (n23_q60, .inl (n23_c60, 5000, .inl (fun _ => 0))), (n23_q69, .inl (n23_c69, 2000, .inl (fun _ => 0))), (q32, .inl (c32, 20, .inl (fun _ => 0))), (q41, .inl (c41, 160, .inl (fun _ => 0))), (q49, .inl (c49, 20, .inl (fun _ => 0))), (q57, .inl (c57, 30, .inl (fun _ => 0))), (q65, .inl (c65, 20, .inl (fun _ => 0))), (q73, .inl (c73, 20, .inl (fun _ => 0))), (q81, .inl (c81, 20, .inr (.inl (fun _ => 0)))), (q89, .inl (c89, 20, .inl (fun _ => 0)))] := hD
  have hK : va_K (dC, dI) cls [(n12_c6, .byte), (n23_c7, .int), (n23_c15, .int), (n23_c24, .int), (n23_c33, .int), (n23_c42, .long), (n23_c51, .int), (n23_c60, .int), (n23_c69, .int), (c32, .int), (c41, .int), (c49, .int), (c57, .int), (c65, .int), (c73, .int), (c81, .long), (c89, .boolean)] s := hK
  refine va_putF (D := (dC, dI)) (ci := 10) (v := .ref q89) (ty := .array .boolean) (C := R_WA) (T := F_WA) (N := 21) hx hb hts i_WA t_WA t_WA_ok n_WA hown hK hP hD hS 0 rfl rfl 15 (by decide) (hts _ kF_WA_50) (fun _ h9 => h9) rfl hin rfl (by decide +kernel) rfl rfl (Nat.le_of_ble_eq_true rfl) d_WA_init_91 (fun H locs hP hD hS => ?_)
  have hP : va_P (dC, dI) cls [(h0, .inr (10, [.ref q5, .ref q19, .int 0, .ref q32, .ref q41, .ref q49, .int 0, .ref q57, .int 0, .long 0, .long 0, .int 0, .ref q65, .ref q73, .ref q81, .ref q89, .int 0, .null, .null, .null, .null])), (q5, .inr (1, [.ref n12_q6, .int 0])), (n12_q6, .inl (n12_c6, 8192, .inl (fun _ => 0))), (q19, .inr (3, [.ref n23_q7, .ref n23_q15, .ref n23_q24, .int 0, .ref n23_q33, .ref n23_q42, .ref n23_q51, .ref n23_q60, .int 0, .ref n23_q69])), (n23_q7, .inl (n23_c7, 31, .inl (fun _ => 0))), (n23_q15, .inl (n23_c15, 30, .inl (fun _ => 0))), (n23_q24, .inl (n23_c24, 1800, .inl (fun _ => 0))), (n23_q33, .inl (n23_c33, 5000, .inl (fun _ => 0))), (n23_q42, .inl (n23_c42, 5000, .inr (.inl (fun _ => 0)))), (n23_q51, .inl (n23_c51, 5000, .inl (fun _ => 0))), (n23_q60, .inl (n23_c60, 5000, .inl (fun _ => 0))), (n23_q69, .inl (n23_c69, 2000, .inl (fun _ => 0))), (q32, .inl (c32, 20, .inl (fun _ => 0))), (q41, .inl (c41, 160, .inl (fun _ => 0))), (q49, .inl (c49, 20, .inl (fun _ => 0))), (q57, .inl (c57, 30, .inl (fun _ => 0))), (q65, .inl (c65, 20, .inl (fun _ => 0))), (q73, .inl (c73, 20, .inl (fun _ => 0))), (q81, .inl (c81, 20, .inr (.inl (fun _ => 0)))), (q89, .inl (c89, 20, .inl (fun _ => 0)))] H := hP
  have hD : va_D A [(h0, .inr (10, [.ref q5, .ref q19, .int 0, .ref q32, .ref q41, .ref q49, .int 0, .ref q57, .int 0, .long 0, .long 0, .int 0, .ref q65, .ref q73, .ref q81, .ref q89, .int 0, .null, .null, .null, .null])), (q5, .inr (1, [.ref n12_q6, .int 0])), (n12_q6, .inl (n12_c6, 8192, .inl (fun _ => 0))), (q19, .inr (3, [.ref n23_q7, .ref n23_q15, .ref n23_q24, .int 0, .ref n23_q33, .ref n23_q42, .ref n23_q51, .ref n23_q60, .int 0, .ref n23_q69])), (n23_q7, .inl (n23_c7, 31, .inl (fun _ => 0))), (n23_q15, .inl (n23_c15, 30, .inl (fun _ => 0))), (n23_q24, .inl (n23_c24, 1800, .inl (fun _ => 0))), (n23_q33, .inl (n23_c33, 5000, .inl (fun _ => 0))), (n23_q42, .inl (n23_c42, 5000, .inr (.inl (fun _ => 0)))), (n23_q51, .inl (n23_c51, 5000, .inl (fun _ => 0))), (n23_q60, .inl (n23_c60, 5000, .inl (fun _ => 0))), (n23_q69, .inl (n23_c69, 2000, .inl (fun _ => 0))), (q32, .inl (c32, 20, .inl (fun _ => 0))), (q41, .inl (c41, 160, .inl (fun _ => 0))), (q49, .inl (c49, 20, .inl (fun _ => 0))), (q57, .inl (c57, 30, .inl (fun _ => 0))), (q65, .inl (c65, 20, .inl (fun _ => 0))), (q73, .inl (c73, 20, .inl (fun _ => 0))), (q81, .inl (c81, 20, .inr (.inl (fun _ => 0)))), (q89, .inl (c89, 20, .inl (fun _ => 0)))] := hD
  refine lv_aload_n hx hb d_WA_init_94 rfl (lv_at hl 0 rfl) ?_
  refine lv_bipush (v := 40) hx hb d_WA_init_95 (by decide) ?_
  refine va_newa (atype := .int) (ty := .int) (N' := 40) (a0 := (40, .inl (fun _ => 0))) hx hb (hts _ ka_int) rfl hK hP hD hS hA (fun _ => rfl) (by decide) (by decide) (by decide) (show _ ≤ 23 from Nat.le_of_ble_eq_true rfl) (show _ ≤ 32535 from Nat.le_of_ble_eq_true rfl) d_WA_init_97 (fun q97 c97 H hK hP hD hS => ?_)
  have hP : va_P (dC, dI) cls [(h0, .inr (10, [.ref q5, .ref q19, .int 0, .ref q32, .ref q41, .ref q49, .int 0, .ref q57, .int 0, .long 0, .long 0, .int 0, .ref q65, .ref q73, .ref q81, .ref q89, .int 0, .null, .null, .null, .null])), (q5, .inr (1, [.ref n12_q6, .int 0])), (n12_q6, .inl (n12_c6, 8192, .inl (fun _ => 0))), (q19, .inr (3, [.ref n23_q7, .ref n23_q15, .ref n23_q24, .int 0, .ref n23_q33, .ref n23_q42, .ref n23_q51, .ref n23_q60, .int 0, .ref n23_q69])), (n23_q7, .inl (n23_c7, 31, .inl (fun _ => 0))), (n23_q15, .inl (n23_c15, 30, .inl (fun _ => 0))), (n23_q24, .inl (n23_c24, 1800, .inl (fun _ => 0))), (n23_q33, .inl (n23_c33, 5000, .inl (fun _ => 0))), (n23_q42, .inl (n23_c42, 5000, .inr (.inl (fun _ => 0)))), (n23_q51, .inl (n23_c51, 5000, .inl (fun _ => 0))), (n23_q60, .inl (n23_c60, 5000, .inl (fun _ => 0))), (n23_q69, .inl (n23_c69, 2000, .inl (fun _ => 0))), (q32, .inl (c32, 20, .inl (fun _ => 0))), (q41, .inl (c41, 160, .inl (fun _ => 0))), (q49, .inl (c49, 20, .inl (fun _ => 0))), (q57, .inl (c57, 30, .inl (fun _ => 0))), (q65, .inl (c65, 20, .inl (fun _ => 0))), (q73, .inl (c73, 20, .inl (fun _ => 0))), (q81, .inl (c81, 20, .inr (.inl (fun _ => 0)))), (q89, .inl (c89, 20, .inl (fun _ => 0))), (q97, .inl (c97, 40, .inl (fun _ => 0)))] H := hP
  have hD : va_D A [(h0, .inr (10, [.ref q5, .ref q19, .int 0, .ref q32, .ref q41, .ref q49, .int 0, .ref q57, .int 0, .long 0, .long 0, .int 0, .ref q65, .ref q73, .ref q81, .ref q89, .int 0, .null, .null, .null, .null])), (q5, .inr (1, [.ref n12_q6, .int 0])), (n12_q6, .inl (n12_c6, 8192, .inl (fun _ => 0))), (q19, .inr (3, [.ref n23_q7, .ref n23_q15, .ref n23_q24, .int 0, .ref n23_q33, .ref n23_q42, .ref n23_q51, .ref n23_q60, .int 0, .ref n23_q69])), (n23_q7, .inl (n23_c7, 31, .inl (fun _ => 0))), (n23_q15, .inl (n23_c15, 30, .inl (fun _ => 0))), (n23_q24, .inl (n23_c24, 1800, .inl (fun _ => 0))), (n23_q33, .inl (n23_c33, 5000, .inl (fun _ => 0))), (n23_q42, .inl (n23_c42, 5000, .inr (.inl (fun _ => 0)))), (n23_q51, .inl (n23_c51, 5000, .inl (fun _ => 0))), (n23_q60, .inl (n23_c60, 5000, .inl (fun _ => 0))), (n23_q69, .inl (n23_c69, 2000, .inl (fun _ => 0))), (q32, .inl (c32, 20, .inl (fun _ => 0))), (q41, .inl (c41, 160, .inl (fun _ => 0))), (q49, .inl (c49, 20, .inl (fun _ => 0))), (q57, .inl (c57, 30, .inl (fun _ => 0))), (q65, .inl (c65, 20, .inl (fun _ => 0))), (q73, .inl (c73, 20, .inl (fun _ => 0))), (q81, .inl (c81, 20, .inr (.inl (fun _ => 0)))), (q89, .inl (c89, 20, .inl (fun _ => 0))), (q97, .inl (c97, 40, .inl (fun _ => 0)))] := hD
  have hK : va_K (dC, dI) cls [(n12_c6, .byte), (n23_c7, .int), (n23_c15, .int), (n23_c24, .int), (n23_c33, .int), (n23_c42, .long), (n23_c51, .int), (n23_c60, .int), (n23_c69, .int), (c32, .int), (c41, .int), (c49, .int), (c57, .int), (c65, .int), (c73, .int), (c81, .long), (c89, .boolean), (c97, .int)] s := hK
  refine va_putF (D := (dC, dI)) (ci := 10) (v := .ref q97) (ty := .array .int) (C := R_WA) (T := F_WA) (N := 21) hx hb hts i_WA t_WA t_WA_ok n_WA hown hK hP hD hS 0 rfl rfl 17 (by decide) (hts _ kF_WA_54) (fun _ h9 => h9) rfl hin rfl (by decide +kernel) rfl rfl (Nat.le_of_ble_eq_true rfl) d_WA_init_99 (fun H locs hP hD hS => ?_)
  have hP : va_P (dC, dI) cls [(h0, .inr (10, [.ref q5, .ref q19, .int 0, .ref q32, .ref q41, .ref q49, .int 0, .ref q57, .int 0, .long 0, .long 0, .int 0, .ref q65, .ref q73, .ref q81, .ref q89, .int 0, .ref q97, .null, .null, .null])), (q5, .inr (1, [.ref n12_q6, .int 0])), (n12_q6, .inl (n12_c6, 8192, .inl (fun _ => 0))), (q19, .inr (3, [.ref n23_q7, .ref n23_q15, .ref n23_q24, .int 0, .ref n23_q33, .ref n23_q42, .ref n23_q51, .ref n23_q60, .int 0, .ref n23_q69])), (n23_q7, .inl (n23_c7, 31, .inl (fun _ => 0))), (n23_q15, .inl (n23_c15, 30, .inl (fun _ => 0))), (n23_q24, .inl (n23_c24, 1800, .inl (fun _ => 0))), (n23_q33, .inl (n23_c33, 5000, .inl (fun _ => 0))), (n23_q42, .inl (n23_c42, 5000, .inr (.inl (fun _ => 0)))), (n23_q51, .inl (n23_c51, 5000, .inl (fun _ => 0))), (n23_q60, .inl (n23_c60, 5000, .inl (fun _ => 0))), (n23_q69, .inl (n23_c69, 2000, .inl (fun _ => 0))), (q32, .inl (c32, 20, .inl (fun _ => 0))), (q41, .inl (c41, 160, .inl (fun _ => 0))), (q49, .inl (c49, 20, .inl (fun _ => 0))), (q57, .inl (c57, 30, .inl (fun _ => 0))), (q65, .inl (c65, 20, .inl (fun _ => 0))), (q73, .inl (c73, 20, .inl (fun _ => 0))), (q81, .inl (c81, 20, .inr (.inl (fun _ => 0)))), (q89, .inl (c89, 20, .inl (fun _ => 0))), (q97, .inl (c97, 40, .inl (fun _ => 0)))] H := hP
  have hD : va_D A [(h0, .inr (10, [.ref q5, .ref q19, .int 0, .ref q32, .ref q41, .ref q49, .int 0, .ref q57, .int 0, .long 0, .long 0, .int 0, .ref q65, .ref q73, .ref q81, .ref q89, .int 0, .ref q97, .null, .null, .null])), (q5, .inr (1, [.ref n12_q6, .int 0])), (n12_q6, .inl (n12_c6, 8192, .inl (fun _ => 0))), (q19, .inr (3, [.ref n23_q7, .ref n23_q15, .ref n23_q24, .int 0, .ref n23_q33, .ref n23_q42, .ref n23_q51, .ref n23_q60, .int 0, .ref n23_q69])), (n23_q7, .inl (n23_c7, 31, .inl (fun _ => 0))), (n23_q15, .inl (n23_c15, 30, .inl (fun _ => 0))), (n23_q24, .inl (n23_c24, 1800, .inl (fun _ => 0))), (n23_q33, .inl (n23_c33, 5000, .inl (fun _ => 0))), (n23_q42, .inl (n23_c42, 5000, .inr (.inl (fun _ => 0)))), (n23_q51, .inl (n23_c51, 5000, .inl (fun _ => 0))), (n23_q60, .inl (n23_c60, 5000, .inl (fun _ => 0))), (n23_q69, .inl (n23_c69, 2000, .inl (fun _ => 0))), (q32, .inl (c32, 20, .inl (fun _ => 0))), (q41, .inl (c41, 160, .inl (fun _ => 0))), (q49, .inl (c49, 20, .inl (fun _ => 0))), (q57, .inl (c57, 30, .inl (fun _ => 0))), (q65, .inl (c65, 20, .inl (fun _ => 0))), (q73, .inl (c73, 20, .inl (fun _ => 0))), (q81, .inl (c81, 20, .inr (.inl (fun _ => 0)))), (q89, .inl (c89, 20, .inl (fun _ => 0))), (q97, .inl (c97, 40, .inl (fun _ => 0)))] := hD
  refine lv_aload_n hx hb d_WA_init_102 rfl (lv_at hl 0 rfl) ?_
  refine lv_bipush (v := 40) hx hb d_WA_init_103 (by decide) ?_
  refine va_newa (atype := .int) (ty := .int) (N' := 40) (a0 := (40, .inl (fun _ => 0))) hx hb (hts _ ka_int) rfl hK hP hD hS hA (fun _ => rfl) (by decide) (by decide) (by decide) (show _ ≤ 23 from Nat.le_of_ble_eq_true rfl) (show _ ≤ 32535 from Nat.le_of_ble_eq_true rfl) d_WA_init_105 (fun q105 c105 H hK hP hD hS => ?_)
  have hP : va_P (dC, dI) cls [(h0, .inr (10, [.ref q5, .ref q19, .int 0, .ref q32, .ref q41, .ref q49, .int 0, .ref q57, .int 0, .long 0, .long 0, .int 0, .ref q65, .ref q73, .ref q81, .ref q89, .int 0, .ref q97, .null, .null, .null])), (q5, .inr (1, [.ref n12_q6, .int 0])), (n12_q6, .inl (n12_c6, 8192, .inl (fun _ => 0))), (q19, .inr (3, [.ref n23_q7, .ref n23_q15, .ref n23_q24, .int 0, .ref n23_q33, .ref n23_q42, .ref n23_q51, .ref n23_q60, .int 0, .ref n23_q69])), (n23_q7, .inl (n23_c7, 31, .inl (fun _ => 0))), (n23_q15, .inl (n23_c15, 30, .inl (fun _ => 0))), (n23_q24, .inl (n23_c24, 1800, .inl (fun _ => 0))), (n23_q33, .inl (n23_c33, 5000, .inl (fun _ => 0))), (n23_q42, .inl (n23_c42, 5000, .inr (.inl (fun _ => 0)))), (n23_q51, .inl (n23_c51, 5000, .inl (fun _ => 0))), (n23_q60, .inl (n23_c60, 5000, .inl (fun _ => 0))), (n23_q69, .inl (n23_c69, 2000, .inl (fun _ => 0))), (q32, .inl (c32, 20, .inl (fun _ => 0))), (q41, .inl (c41, 160, .inl (fun _ => 0))), (q49, .inl (c49, 20, .inl (fun _ => 0))), (q57, .inl (c57, 30, .inl (fun _ => 0))), (q65, .inl (c65, 20, .inl (fun _ => 0))), (q73, .inl (c73, 20, .inl (fun _ => 0))), (q81, .inl (c81, 20, .inr (.inl (fun _ => 0)))), (q89, .inl (c89, 20, .inl (fun _ => 0))), (q97, .inl (c97, 40, .inl (fun _ => 0))), (q105, .inl (c105, 40, .inl (fun _ => 0)))] H := hP
  have hD : va_D A [(h0, .inr (10, [.ref q5, .ref q19, .int 0, .ref q32, .ref q41, .ref q49, .int 0, .ref q57, .int 0, .long 0, .long 0, .int 0, .ref q65, .ref q73, .ref q81, .ref q89, .int 0, .ref q97, .null, .null, .null])), (q5, .inr (1, [.ref n12_q6, .int 0])), (n12_q6, .inl (n12_c6, 8192, .inl (fun _ => 0))), (q19, .inr (3, [.ref n23_q7, .ref n23_q15, .ref n23_q24, .int 0, .ref n23_q33, .ref n23_q42, .ref n23_q51, .ref n23_q60, .int 0, .ref n23_q69])), (n23_q7, .inl (n23_c7, 31, .inl (fun _ => 0))), (n23_q15, .inl (n23_c15, 30, .inl (fun _ => 0))), (n23_q24, .inl (n23_c24, 1800, .inl (fun _ => 0))), (n23_q33, .inl (n23_c33, 5000, .inl (fun _ => 0))), (n23_q42, .inl (n23_c42, 5000, .inr (.inl (fun _ => 0)))), (n23_q51, .inl (n23_c51, 5000, .inl (fun _ => 0))), (n23_q60, .inl (n23_c60, 5000, .inl (fun _ => 0))), (n23_q69, .inl (n23_c69, 2000, .inl (fun _ => 0))), (q32, .inl (c32, 20, .inl (fun _ => 0))), (q41, .inl (c41, 160, .inl (fun _ => 0))), (q49, .inl (c49, 20, .inl (fun _ => 0))), (q57, .inl (c57, 30, .inl (fun _ => 0))), (q65, .inl (c65, 20, .inl (fun _ => 0))), (q73, .inl (c73, 20, .inl (fun _ => 0))), (q81, .inl (c81, 20, .inr (.inl (fun _ => 0)))), (q89, .inl (c89, 20, .inl (fun _ => 0))), (q97, .inl (c97, 40, .inl (fun _ => 0))), (q105, .inl (c105, 40, .inl (fun _ => 0)))] := hD
  have hK : va_K (dC, dI) cls [(n12_c6, .byte), (n23_c7, .int), (n23_c15, .int), (n23_c24, .int), (n23_c33, .int), (n23_c42, .long), (n23_c51, .int), (n23_c60, .int), (n23_c69, .int), (c32, .int), (c41, .int), (c49, .int), (c57, .int), (c65, .int), (c73, .int), (c81, .long), (c89, .boolean), (c97, .int), (c105, .int)] s := hK
  refine va_putF (D := (dC, dI)) (ci := 10) (v := .ref q105) (ty := .array .int) (C := R_WA) (T := F_WA) (N := 21) hx hb hts i_WA t_WA t_WA_ok n_WA hown hK hP hD hS 0 rfl rfl 18 (by decide) (hts _ kF_WA_57) (fun _ h9 => h9) rfl hin rfl (by decide +kernel) rfl rfl (Nat.le_of_ble_eq_true rfl) d_WA_init_107 (fun H locs hP hD hS => ?_)
  have hP : va_P (dC, dI) cls [(h0, .inr (10, [.ref q5, .ref q19, .int 0, .ref q32, .ref q41, .ref q49, .int 0, .ref q57, .int 0, .long 0, .long 0, .int 0, .ref q65, .ref q73, .ref q81, .ref q89, .int 0, .ref q97, .ref q105, .null, .null])), (q5, .inr (1, [.ref n12_q6, .int 0])), (n12_q6, .inl (n12_c6, 8192, .inl (fun _ => 0))), (q19, .inr (3, [.ref n23_q7, .ref n23_q15, .ref n23_q24, .int 0, .ref n23_q33, .ref n23_q42, .ref n23_q51, .ref n23_q60, .int 0, .ref n23_q69])), (n23_q7, .inl (n23_c7, 31, .inl (fun _ => 0))), (n23_q15, .inl (n23_c15, 30, .inl (fun _ => 0))), (n23_q24, .inl (n23_c24, 1800, .inl (fun _ => 0))), (n23_q33, .inl (n23_c33, 5000, .inl (fun _ => 0))), (n23_q42, .inl (n23_c42, 5000, .inr (.inl (fun _ => 0)))), (n23_q51, .inl (n23_c51, 5000, .inl (fun _ => 0))), (n23_q60, .inl (n23_c60, 5000, .inl (fun _ => 0))), (n23_q69, .inl (n23_c69, 2000, .inl (fun _ => 0))), (q32, .inl (c32, 20, .inl (fun _ => 0))), (q41, .inl (c41, 160, .inl (fun _ => 0))), (q49, .inl (c49, 20, .inl (fun _ => 0))), (q57, .inl (c57, 30, .inl (fun _ => 0))), (q65, .inl (c65, 20, .inl (fun _ => 0))), (q73, .inl (c73, 20, .inl (fun _ => 0))), (q81, .inl (c81, 20, .inr (.inl (fun _ => 0)))), (q89, .inl (c89, 20, .inl (fun _ => 0))), (q97, .inl (c97, 40, .inl (fun _ => 0))), (q105, .inl (c105, 40, .inl (fun _ => 0)))] H := hP
  have hD : va_D A [(h0, .inr (10, [.ref q5, .ref q19, .int 0, .ref q32, .ref q41, .ref q49, .int 0, .ref q57, .int 0, .long 0, .long 0, .int 0, .ref q65, .ref q73, .ref q81, .ref q89, .int 0, .ref q97, .ref q105, .null, .null])), (q5, .inr (1, [.ref n12_q6, .int 0])), (n12_q6, .inl (n12_c6, 8192, .inl (fun _ => 0))), (q19, .inr (3, [.ref n23_q7, .ref n23_q15, .ref n23_q24, .int 0, .ref n23_q33, .ref n23_q42, .ref n23_q51, .ref n23_q60, .int 0, .ref n23_q69])), (n23_q7, .inl (n23_c7, 31, .inl (fun _ => 0))), (n23_q15, .inl (n23_c15, 30, .inl (fun _ => 0))), (n23_q24, .inl (n23_c24, 1800, .inl (fun _ => 0))), (n23_q33, .inl (n23_c33, 5000, .inl (fun _ => 0))), (n23_q42, .inl (n23_c42, 5000, .inr (.inl (fun _ => 0)))), (n23_q51, .inl (n23_c51, 5000, .inl (fun _ => 0))), (n23_q60, .inl (n23_c60, 5000, .inl (fun _ => 0))), (n23_q69, .inl (n23_c69, 2000, .inl (fun _ => 0))), (q32, .inl (c32, 20, .inl (fun _ => 0))), (q41, .inl (c41, 160, .inl (fun _ => 0))), (q49, .inl (c49, 20, .inl (fun _ => 0))), (q57, .inl (c57, 30, .inl (fun _ => 0))), (q65, .inl (c65, 20, .inl (fun _ => 0))), (q73, .inl (c73, 20, .inl (fun _ => 0))), (q81, .inl (c81, 20, .inr (.inl (fun _ => 0)))), (q89, .inl (c89, 20, .inl (fun _ => 0))), (q97, .inl (c97, 40, .inl (fun _ => 0))), (q105, .inl (c105, 40, .inl (fun _ => 0)))] := hD
  refine lv_aload_n hx hb d_WA_init_110 rfl (lv_at hl 0 rfl) ?_
  refine lv_bipush (v := 40) hx hb d_WA_init_111 (by decide) ?_
  refine va_newa (atype := .int) (ty := .int) (N' := 40) (a0 := (40, .inl (fun _ => 0))) hx hb (hts _ ka_int) rfl hK hP hD hS hA (fun _ => rfl) (by decide) (by decide) (by decide) (show _ ≤ 23 from Nat.le_of_ble_eq_true rfl) (show _ ≤ 32535 from Nat.le_of_ble_eq_true rfl) d_WA_init_113 (fun q113 c113 H hK hP hD hS => ?_)
  have hP : va_P (dC, dI) cls [(h0, .inr (10, [.ref q5, .ref q19, .int 0, .ref q32, .ref q41, .ref q49, .int 0, .ref q57, .int 0, .long 0, .long 0, .int 0, .ref q65, .ref q73, .ref q81, .ref q89, .int 0, .ref q97, .ref q105, .null, .null])), (q5, .inr (1, [.ref n12_q6, .int 0])), (n12_q6, .inl (n12_c6, 8192, .inl (fun _ => 0))), (q19, .inr (3, [.ref n23_q7, .ref n23_q15, .ref n23_q24, .int 0, .ref n23_q33, .ref n23_q42, .ref n23_q51, .ref n23_q60, .int 0, .ref n23_q69])), (n23_q7, .inl (n23_c7, 31, .inl (fun _ => 0))), (n23_q15, .inl (n23_c15, 30, .inl (fun _ => 0))), (n23_q24, .inl (n23_c24, 1800, .inl (fun _ => 0))), (n23_q33, .inl (n23_c33, 5000, .inl (fun _ => 0))), (n23_q42, .inl (n23_c42, 5000, .inr (.inl (fun _ => 0)))), (n23_q51, .inl (n23_c51, 5000, .inl (fun _ => 0))), (n23_q60, .inl (n23_c60, 5000, .inl (fun _ => 0))), (n23_q69, .inl (n23_c69, 2000, .inl (fun _ => 0))), (q32, .inl (c32, 20, .inl (fun _ => 0))), (q41, .inl (c41, 160, .inl (fun _ => 0))), (q49, .inl (c49, 20, .inl (fun _ => 0))), (q57, .inl (c57, 30, .inl (fun _ => 0))), (q65, .inl (c65, 20, .inl (fun _ => 0))), (q73, .inl (c73, 20, .inl (fun _ => 0))), (q81, .inl (c81, 20, .inr (.inl (fun _ => 0)))), (q89, .inl (c89, 20, .inl (fun _ => 0))), (q97, .inl (c97, 40, .inl (fun _ => 0))), (q105, .inl (c105, 40, .inl (fun _ => 0))), (q113, .inl (c113, 40, .inl (fun _ => 0)))] H := hP
  have hD : va_D A [(h0, .inr (10, [.ref q5, .ref q19, .int 0, .ref q32, .ref q41, .ref q49, .int 0, .ref q57, .int 0, .long 0, .long 0, .int 0, .ref q65, .ref q73, .ref q81, .ref q89, .int 0, .ref q97, .ref q105, .null, .null])), (q5, .inr (1, [.ref n12_q6, .int 0])), (n12_q6, .inl (n12_c6, 8192, .inl (fun _ => 0))), (q19, .inr (3, [.ref n23_q7, .ref n23_q15, .ref n23_q24, .int 0, .ref n23_q33, .ref n23_q42, .ref n23_q51, .ref n23_q60, .int 0, .ref n23_q69])), (n23_q7, .inl (n23_c7, 31, .inl (fun _ => 0))), (n23_q15, .inl (n23_c15, 30, .inl (fun _ => 0))), (n23_q24, .inl (n23_c24, 1800, .inl (fun _ => 0))), (n23_q33, .inl (n23_c33, 5000, .inl (fun _ => 0))), (n23_q42, .inl (n23_c42, 5000, .inr (.inl (fun _ => 0)))), (n23_q51, .inl (n23_c51, 5000, .inl (fun _ => 0))), (n23_q60, .inl (n23_c60, 5000, .inl (fun _ => 0))), (n23_q69, .inl (n23_c69, 2000, .inl (fun _ => 0))), (q32, .inl (c32, 20, .inl (fun _ => 0))), (q41, .inl (c41, 160, .inl (fun _ => 0))), (q49, .inl (c49, 20, .inl (fun _ => 0))), (q57, .inl (c57, 30, .inl (fun _ => 0))), (q65, .inl (c65, 20, .inl (fun _ => 0))), (q73, .inl (c73, 20, .inl (fun _ => 0))), (q81, .inl (c81, 20, .inr (.inl (fun _ => 0)))), (q89, .inl (c89, 20, .inl (fun _ => 0))), (q97, .inl (c97, 40, .inl (fun _ => 0))), (q105, .inl (c105, 40, .inl (fun _ => 0))), (q113, .inl (c113, 40, .inl (fun _ => 0)))] := hD
  have hK : va_K (dC, dI) cls [(n12_c6, .byte), (n23_c7, .int), (n23_c15, .int), (n23_c24, .int), (n23_c33, .int), (n23_c42, .long), (n23_c51, .int), (n23_c60, .int), (n23_c69, .int), (c32, .int), (c41, .int), (c49, .int), (c57, .int), (c65, .int), (c73, .int), (c81, .long), (c89, .boolean), (c97, .int), (c105, .int), (c113, .int)] s := hK
  refine va_putF (D := (dC, dI)) (ci := 10) (v := .ref q113) (ty := .array .int) (C := R_WA) (T := F_WA) (N := 21) hx hb hts i_WA t_WA t_WA_ok n_WA hown hK hP hD hS 0 rfl rfl 19 (by decide) (hts _ kF_WA_60) (fun _ h9 => h9) rfl hin rfl (by decide +kernel) rfl rfl (Nat.le_of_ble_eq_true rfl) d_WA_init_115 (fun H locs hP hD hS => ?_)
  have hP : va_P (dC, dI) cls [(h0, .inr (10, [.ref q5, .ref q19, .int 0, .ref q32, .ref q41, .ref q49, .int 0, .ref q57, .int 0, .long 0, .long 0, .int 0, .ref q65, .ref q73, .ref q81, .ref q89, .int 0, .ref q97, .ref q105, .ref q113, .null])), (q5, .inr (1, [.ref n12_q6, .int 0])), (n12_q6, .inl (n12_c6, 8192, .inl (fun _ => 0))), (q19, .inr (3, [.ref n23_q7, .ref n23_q15, .ref n23_q24, .int 0, .ref n23_q33, .ref n23_q42, .ref n23_q51, .ref n23_q60, .int 0, .ref n23_q69])), (n23_q7, .inl (n23_c7, 31, .inl (fun _ => 0))), (n23_q15, .inl (n23_c15, 30, .inl (fun _ => 0))), (n23_q24, .inl (n23_c24, 1800, .inl (fun _ => 0))), (n23_q33, .inl (n23_c33, 5000, .inl (fun _ => 0))), (n23_q42, .inl (n23_c42, 5000, .inr (.inl (fun _ => 0)))), (n23_q51, .inl (n23_c51, 5000, .inl (fun _ => 0))), (n23_q60, .inl (n23_c60, 5000, .inl (fun _ => 0))), (n23_q69, .inl (n23_c69, 2000, .inl (fun _ => 0))), (q32, .inl (c32, 20, .inl (fun _ => 0))), (q41, .inl (c41, 160, .inl (fun _ => 0))), (q49, .inl (c49, 20, .inl (fun _ => 0))), (q57, .inl (c57, 30, .inl (fun _ => 0))), (q65, .inl (c65, 20, .inl (fun _ => 0))), (q73, .inl (c73, 20, .inl (fun _ => 0))), (q81, .inl (c81, 20, .inr (.inl (fun _ => 0)))), (q89, .inl (c89, 20, .inl (fun _ => 0))), (q97, .inl (c97, 40, .inl (fun _ => 0))), (q105, .inl (c105, 40, .inl (fun _ => 0))), (q113, .inl (c113, 40, .inl (fun _ => 0)))] H := hP
  have hD : va_D A [(h0, .inr (10, [.ref q5, .ref q19, .int 0, .ref q32, .ref q41, .ref q49, .int 0, .ref q57, .int 0, .long 0, .long 0, .int 0, .ref q65, .ref q73, .ref q81, .ref q89, .int 0, .ref q97, .ref q105, .ref q113, .null])), (q5, .inr (1, [.ref n12_q6, .int 0])), (n12_q6, .inl (n12_c6, 8192, .inl (fun _ => 0))), (q19, .inr (3, [.ref n23_q7, .ref n23_q15, .ref n23_q24, .int 0, .ref n23_q33, .ref n23_q42, .ref n23_q51, .ref n23_q60, .int 0, .ref n23_q69])), (n23_q7, .inl (n23_c7, 31, .inl (fun _ => 0))), (n23_q15, .inl (n23_c15, 30, .inl (fun _ => 0))), (n23_q24, .inl (n23_c24, 1800, .inl (fun _ => 0))), (n23_q33, .inl (n23_c33, 5000, .inl (fun _ => 0))), (n23_q42, .inl (n23_c42, 5000, .inr (.inl (fun _ => 0)))), (n23_q51, .inl (n23_c51, 5000, .inl (fun _ => 0))), (n23_q60, .inl (n23_c60, 5000, .inl (fun _ => 0))), (n23_q69, .inl (n23_c69, 2000, .inl (fun _ => 0))), (q32, .inl (c32, 20, .inl (fun _ => 0))), (q41, .inl (c41, 160, .inl (fun _ => 0))), (q49, .inl (c49, 20, .inl (fun _ => 0))), (q57, .inl (c57, 30, .inl (fun _ => 0))), (q65, .inl (c65, 20, .inl (fun _ => 0))), (q73, .inl (c73, 20, .inl (fun _ => 0))), (q81, .inl (c81, 20, .inr (.inl (fun _ => 0)))), (q89, .inl (c89, 20, .inl (fun _ => 0))), (q97, .inl (c97, 40, .inl (fun _ => 0))), (q105, .inl (c105, 40, .inl (fun _ => 0))), (q113, .inl (c113, 40, .inl (fun _ => 0)))] := hD
  refine lv_aload_n hx hb d_WA_init_118 rfl (lv_at hl 0 rfl) ?_
  refine lv_bipush (v := 40) hx hb d_WA_init_119 (by decide) ?_
  refine va_newa (atype := .int) (ty := .int) (N' := 40) (a0 := (40, .inl (fun _ => 0))) hx hb (hts _ ka_int) rfl hK hP hD hS hA (fun _ => rfl) (by decide) (by decide) (by decide) (show _ ≤ 23 from Nat.le_of_ble_eq_true rfl) (show _ ≤ 32535 from Nat.le_of_ble_eq_true rfl) d_WA_init_121 (fun q121 c121 H hK hP hD hS => ?_)
  have hP : va_P (dC, dI) cls [(h0, .inr (10, [.ref q5, .ref q19, .int 0, .ref q32, .ref q41, .ref q49, .int 0, .ref q57, .int 0, .long 0, .long 0, .int 0, .ref q65, .ref q73, .ref q81, .ref q89, .int 0, .ref q97, .ref q105, .ref q113, .null])), (q5, .inr (1, [.ref n12_q6, .int 0])), (n12_q6, .inl (n12_c6, 8192, .inl (fun _ => 0))), (q19, .inr (3, [.ref n23_q7, .ref n23_q15, .ref n23_q24, .int 0, .ref n23_q33, .ref n23_q42, .ref n23_q51, .ref n23_q60, .int 0, .ref n23_q69])), (n23_q7, .inl (n23_c7, 31, .inl (fun _ => 0))), (n23_q15, .inl (n23_c15, 30, .inl (fun _ => 0))), (n23_q24, .inl (n23_c24, 1800, .inl (fun _ => 0))), (n23_q33, .inl (n23_c33, 5000, .inl (fun _ => 0))), (n23_q42, .inl (n23_c42, 5000, .inr (.inl (fun _ => 0)))), (n23_q51, .inl (n23_c51, 5000, .inl (fun _ => 0))), (n23_q60, .inl (n23_c60, 5000, .inl (fun _ => 0))), (n23_q69, .inl (n23_c69, 2000, .inl (fun _ => 0))), (q32, .inl (c32, 20, .inl (fun _ => 0))), (q41, .inl (c41, 160, .inl (fun _ => 0))), (q49, .inl (c49, 20, .inl (fun _ => 0))), (q57, .inl (c57, 30, .inl (fun _ => 0))), (q65, .inl (c65, 20, .inl (fun _ => 0))), (q73, .inl (c73, 20, .inl (fun _ => 0))), (q81, .inl (c81, 20, .inr (.inl (fun _ => 0)))), (q89, .inl (c89, 20, .inl (fun _ => 0))), (q97, .inl (c97, 40, .inl (fun _ => 0))), (q105, .inl (c105, 40, .inl (fun _ => 0))), (q113, .inl (c113, 40, .inl (fun _ => 0))), (q121, .inl (c121, 40, .inl (fun _ => 0)))] H := hP
  have hD : va_D A [(h0, .inr (10, [.ref q5, .ref q19, .int 0, .ref q32, .ref q41, .ref q49, .int 0, .ref q57, .int 0, .long 0, .long 0, .int 0, .ref q65, .ref q73, .ref q81, .ref q89, .int 0, .ref q97, .ref q105, .ref q113, .null])), (q5, .inr (1, [.ref n12_q6, .int 0])), (n12_q6, .inl (n12_c6, 8192, .inl (fun _ => 0))), (q19, .inr (3, [.ref n23_q7, .ref n23_q15, .ref n23_q24, .int 0, .ref n23_q33, .ref n23_q42, .ref n23_q51, .ref n23_q60, .int 0, .ref n23_q69])), (n23_q7, .inl (n23_c7, 31, .inl (fun _ => 0))), (n23_q15, .inl (n23_c15, 30, .inl (fun _ => 0))), (n23_q24, .inl (n23_c24, 1800, .inl (fun _ => 0))), (n23_q33, .inl (n23_c33, 5000, .inl (fun _ => 0))), (n23_q42, .inl (n23_c42, 5000, .inr (.inl (fun _ => 0)))), (n23_q51, .inl (n23_c51, 5000, .inl (fun _ => 0))), (n23_q60, .inl (n23_c60, 5000, .inl (fun _ => 0))), (n23_q69, .inl (n23_c69, 2000, .inl (fun _ => 0))), (q32, .inl (c32, 20, .inl (fun _ => 0))), (q41, .inl (c41, 160, .inl (fun _ => 0))), (q49, .inl (c49, 20, .inl (fun _ => 0))), (q57, .inl (c57, 30, .inl (fun _ => 0))), (q65, .inl (c65, 20, .inl (fun _ => 0))), (q73, .inl (c73, 20, .inl (fun _ => 0))), (q81, .inl (c81, 20, .inr (.inl (fun _ => 0)))), (q89, .inl (c89, 20, .inl (fun _ => 0))), (q97, .inl (c97, 40, .inl (fun _ => 0))), (q105, .inl (c105, 40, .inl (fun _ => 0))), (q113, .inl (c113, 40, .inl (fun _ => 0))), (q121, .inl (c121, 40, .inl (fun _ => 0)))] := hD
  have hK : va_K (dC, dI) cls [(n12_c6, .byte), (n23_c7, .int), (n23_c15, .int), (n23_c24, .int), (n23_c33, .int), (n23_c42, .long), (n23_c51, .int), (n23_c60, .int), (n23_c69, .int), (c32, .int), (c41, .int), (c49, .int), (c57, .int), (c65, .int), (c73, .int), (c81, .long), (c89, .boolean), (c97, .int), (c105, .int), (c113, .int), (c121, .int)] s := hK
  refine va_putF (D := (dC, dI)) (ci := 10) (v := .ref q121) (ty := .array .int) (C := R_WA) (T := F_WA) (N := 21) hx hb hts i_WA t_WA t_WA_ok n_WA hown hK hP hD hS 0 rfl rfl 20 (by decide) (hts _ kF_WA_63) (fun _ h9 => h9) rfl hin rfl (by decide +kernel) rfl rfl (Nat.le_of_ble_eq_true rfl) d_WA_init_123 (fun H locs hP hD hS => ?_)
  have hP : va_P (dC, dI) cls (wz_277 h0 q5 q19 0 q32 q41 q49 0 q57 0 0 0 0 q65 q73 q81 q89 0 q97 q105 q113 q121 q5 n12_q6 0 n12_q6 n12_c6 (fun _ => 0) q19 n23_q7 n23_q15 n23_q24 0 n23_q33 n23_q42 n23_q51 n23_q60 0 n23_q69 n23_q7 n23_c7 (fun _ => 0) n23_q15 n23_c15 (fun _ => 0) n23_q24 n23_c24 (fun _ => 0) n23_q33 n23_c33 (fun _ => 0) n23_q42 n23_c42 (fun _ => 0) n23_q51 n23_c51 (fun _ => 0) n23_q60 n23_c60 (fun _ => 0) n23_q69 n23_c69 (fun _ => 0) q32 c32 (fun _ => 0) q41 c41 (fun _ => 0) q49 c49 (fun _ => 0) q57 c57 (fun _ => 0) q65 c65 (fun _ => 0) q73 c73 (fun _ => 0) q81 c81 (fun _ => 0) q89 c89 (fun _ => 0) q97 c97 (fun _ => 0) q105 c105 (fun _ => 0) q113 c113 (fun _ => 0) q121 c121 (fun _ => 0)) H := hP
  have hD : va_D A (wz_277 h0 q5 q19 0 q32 q41 q49 0 q57 0 0 0 0 q65 q73 q81 q89 0 q97 q105 q113 q121 q5 n12_q6 0 n12_q6 n12_c6 (fun _ => 0) q19 n23_q7 n23_q15 n23_q24 0 n23_q33 n23_q42 n23_q51 n23_q60 0 n23_q69 n23_q7 n23_c7 (fun _ => 0) n23_q15 n23_c15 (fun _ => 0) n23_q24 n23_c24 (fun _ => 0) n23_q33 n23_c33 (fun _ => 0) n23_q42 n23_c42 (fun _ => 0) n23_q51 n23_c51 (fun _ => 0) n23_q60 n23_c60 (fun _ => 0) n23_q69 n23_c69 (fun _ => 0) q32 c32 (fun _ => 0) q41 c41 (fun _ => 0) q49 c49 (fun _ => 0) q57 c57 (fun _ => 0) q65 c65 (fun _ => 0) q73 c73 (fun _ => 0) q81 c81 (fun _ => 0) q89 c89 (fun _ => 0) q97 c97 (fun _ => 0) q105 c105 (fun _ => 0) q113 c113 (fun _ => 0) q121 c121 (fun _ => 0)) := hD
  refine W.widen (k := 23) (n := 32535) (Nat.le_of_ble_eq_true rfl) (Nat.le_of_ble_eq_true rfl) ?_
  exact W.vret hx hb hr (fun t ht hW => ⟨⟨(), rfl, trivial, q5, n12_q6, q19, n23_q7, n23_q15, n23_q24, n23_q33, n23_q42, n23_q51, n23_q60, n23_q69, q32, q41, q49, q57, q65, q73, q81, q89, q97, q105, q113, q121, n12_c6, n23_c7, n23_c15, n23_c24, n23_c33, n23_c42, n23_c51, n23_c60, n23_c69, c32, c41, c49, c57, c65, c73, c81, c89, c97, c105, c113, c121, va_P.he ht.symm hP, va_K.moved hW.alike hK, hD⟩, hS.F ht⟩) hS.2.2 d_WA_init_126
abbrev b_RE_init : ByteArray := prog_9_method_1_code
def y_RE_init : MethodName := ⟨R_RE, "<init>", "()V"⟩
abbrev w_RE_init : List Cond := .code y_RE_init b_RE_init 1 none :: lw_g
theorem kC_RE_init : Cond.code y_RE_init b_RE_init 1 none ∈ lw_g := in_c2 224 rfl rfl
theorem d_RE_init_0 : decode b_RE_init 0 = .ok (.aload_n 0, 1) := bz_c42 (by decide +kernel)
theorem d_RE_init_1 : decode b_RE_init 1 = .ok (.invokespecial 3, 3) := bz_c183 (by decide +kernel)
theorem d_RE_init_4 : decode b_RE_init 4 = .ok (.aload_n 0, 1) := bz_c42 (by decide +kernel)
theorem d_RE_init_5 : decode b_RE_init 5 = .ok (.bipush 100, 2) := bz_c16 (by decide +kernel)
theorem d_RE_init_7 : decode b_RE_init 7 = .ok (.newarray .int, 2) := by decide +kernel
theorem d_RE_init_9 : decode b_RE_init 9 = .ok (.putfield 9, 3) := bz_c181 (by decide +kernel)
theorem d_RE_init_12 : decode b_RE_init 12 = .ok (.return_, 1) := bz_c177 (by decide +kernel)
theorem kM_RE_3 : Cond.methodLink R_RE 3 Lib.objectInit ∈ lw_g := in_c2 225 rfl rfl
set_option maxHeartbeats 4000000 in
set_option maxRecDepth 100000 in
theorem c_RE_init (l : Launch) (dC : Nat → ClassId) (dI : Nat → Nat → Nat) (sz : Nat) (h0  : Nat)   : Met l y_RE_init w_RE_init ({ frames := 1, cells := 1, slots := 100, locals := 20 }) (va_Pc [.ref h0] (fun U => U.heap.size = sz ∧ va_P (dC, dI) cls [(h0, .inr (7, [.null, .null, .int 0, .int 0, .int 0, .int 0, .null, .int 0]))] U.heap ∧ va_K (dC, dI) cls [] U ∧ va_D (fun _ => True) [(h0, .inr (7, [.null, .null, .int 0, .int 0, .int 0, .int 0, .null, .int 0]))])) (va_Qv (fun (_ : Unit) => True) (fun (_ : Unit) (t : State) => ∃ (q7 : Nat) (c7 : ClassId), va_P (dC, dI) cls (wz_279 h0 0 0 0 0 q7 0 q7 c7 (fun _ => 0)) t.heap ∧ va_K (dC, dI) cls [(c7, .int)] t ∧ va_D (va_A [(h0, .inr (7, [.null, .null, .int 0, .int 0, .int 0, .int 0, .null, .int 0]))] sz) (wz_279 h0 0 0 0 0 q7 0 q7 c7 (fun _ => 0))) (va_A [(h0, .inr (7, [.null, .null, .int 0, .int 0, .int 0, .int 0, .null, .int 0]))] sz)) 1 100 (va_A [(h0, .inr (7, [.null, .null, .int 0, .int 0, .int 0, .int 0, .null, .int 0]))] sz) := by
  refine Met.ofW (cc := b_RE_init) (maxL := 1) (ret := none) (by decide) rfl ?_
  intro p e s m args below meth c s₁ B hml hv
  obtain ⟨rfl, hsz, hP, hK, hD0⟩ := hv
  have hx := B.exec
  have hb := B.bytes
  have hr := B.returns
  have hts0 := atoms_spec (ws := w_RE_init) B.pre
  have hts : ∀ w ∈ lw_g, w.before _ s = true := fun w h => hts0 w (List.mem_cons_of_mem _ h)
  have hown : s.vm.findClass R_RE = some m.cls := findClass_of_methodNamed B.named
  have hlocks := B.notSynchronized
  clear hts0
  subst hsz
  have hD := hD0.self (sz := s.heap.size)
  generalize hAe : va_A [(h0, .inr (7, [.null, .null, .int 0, .int 0, .int 0, .int 0, .null, .int 0]))] s.heap.size = A at hD ⊢
  have hA : ∀ q : Nat, s.heap.size ≤ q → A q := fun q h => by rw [← hAe]; exact Or.inr h
  clear hAe
  have hP : va_P (dC, dI) cls [(h0, .inr (7, [.null, .null, .int 0, .int 0, .int 0, .int 0, .null, .int 0]))] s.heap := hP
  have hl := lv_entry ([.ref h0]) (n := 1) (Nat.le_of_ble_eq_true rfl)
  rw [lg_entry_eq]
  generalize (lg_sl ([.ref h0]) ++ List.replicate (1 - (lg_sl ([.ref h0])).length) Slot.unset).toArray = ls at hl ⊢
  have hl : lv_has ls 1 [(0, .ref h0)] := hl
  have k0 : (0 : Int32).toInt = 0 := by decide
  refine w_gen (A := A) hP (fun H locs hP hS => ?_)
  have k100 : (100 : Int32).toInt = 100 := by decide
  have hin : meth.name = "<init>" := (name_of_methodNamed B.named B.method).1
  refine lv_aload_n hx hb d_RE_init_0 rfl (lv_at hl 0 rfl) ?_
  refine W.objInit hx hb hown (hts _ kM_RE_3) (hts _ kV_oi) (hts _ kC_oi) rfl (by rw [hml]; exact hl.1) rfl d_RE_init_1 (Nat.le_of_ble_eq_true rfl) (Nat.le_of_ble_eq_true rfl) ?_
  refine W.eq (g2 := F0 m 4 ls []) rfl ?_
  refine lv_aload_n hx hb d_RE_init_4 rfl (lv_at hl 0 rfl) ?_
  refine lv_bipush (v := 100) hx hb d_RE_init_5 (by decide) ?_
  refine va_newa (atype := .int) (ty := .int) (N' := 100) (a0 := (100, .inl (fun _ => 0))) hx hb (hts _ ka_int) rfl hK hP hD hS hA (fun _ => rfl) (by decide) (by decide) (by decide) (show _ ≤ 1 from Nat.le_of_ble_eq_true rfl) (show _ ≤ 100 from Nat.le_of_ble_eq_true rfl) d_RE_init_7 (fun q7 c7 H hK hP hD hS => ?_)
  have hP : va_P (dC, dI) cls [(h0, .inr (7, [.null, .null, .int 0, .int 0, .int 0, .int 0, .null, .int 0])), (q7, .inl (c7, 100, .inl (fun _ => 0)))] H := hP
  have hD : va_D A [(h0, .inr (7, [.null, .null, .int 0, .int 0, .int 0, .int 0, .null, .int 0])), (q7, .inl (c7, 100, .inl (fun _ => 0)))] := hD
  have hK : va_K (dC, dI) cls [(c7, .int)] s := hK
  refine va_putF (D := (dC, dI)) (ci := 7) (v := .ref q7) (ty := .array .int) (C := R_RE) (T := F_RE) (N := 8) hx hb hts i_RE t_RE t_RE_ok n_RE hown hK hP hD hS 0 rfl rfl 6 (by decide) (hts _ kF_RE_9) (fun _ h9 => h9) rfl hin rfl (by decide +kernel) rfl rfl (Nat.le_of_ble_eq_true rfl) d_RE_init_9 (fun H locs hP hD hS => ?_)
  have hP : va_P (dC, dI) cls (wz_279 h0 0 0 0 0 q7 0 q7 c7 (fun _ => 0)) H := hP
  have hD : va_D A (wz_279 h0 0 0 0 0 q7 0 q7 c7 (fun _ => 0)) := hD
  refine W.widen (k := 1) (n := 100) (Nat.le_of_ble_eq_true rfl) (Nat.le_of_ble_eq_true rfl) ?_
  exact W.vret hx hb hr (fun t ht hW => ⟨⟨(), rfl, trivial, q7, c7, va_P.he ht.symm hP, va_K.moved hW.alike hK, hD⟩, hS.F ht⟩) hS.2.2 d_RE_init_12
abbrev b_VA_init : ByteArray := prog_12_method_1_code
def y_VA_init : MethodName := ⟨R_VA, "<init>", "()V"⟩
abbrev w_VA_init : List Cond := .code y_VA_init b_VA_init 1 none :: lw_g
theorem kC_VA_init : Cond.code y_VA_init b_VA_init 1 none ∈ lw_g := in_c3 15 rfl rfl
theorem d_VA_init_0 : decode b_VA_init 0 = .ok (.aload_n 0, 1) := bz_c42 (by decide +kernel)
theorem d_VA_init_1 : decode b_VA_init 1 = .ok (.invokespecial 3, 3) := bz_c183 (by decide +kernel)
theorem d_VA_init_4 : decode b_VA_init 4 = .ok (.aload_n 0, 1) := bz_c42 (by decide +kernel)
theorem d_VA_init_5 : decode b_VA_init 5 = .ok (.sipush 5000, 3) := bz_c17 (by decide +kernel)
theorem d_VA_init_8 : decode b_VA_init 8 = .ok (.newarray .int, 2) := by decide +kernel
theorem d_VA_init_10 : decode b_VA_init 10 = .ok (.putfield 9, 3) := bz_c181 (by decide +kernel)
theorem d_VA_init_13 : decode b_VA_init 13 = .ok (.aload_n 0, 1) := bz_c42 (by decide +kernel)
theorem d_VA_init_14 : decode b_VA_init 14 = .ok (.bipush 101, 2) := bz_c16 (by decide +kernel)
theorem d_VA_init_16 : decode b_VA_init 16 = .ok (.newarray .int, 2) := by decide +kernel
theorem d_VA_init_18 : decode b_VA_init 18 = .ok (.putfield 15, 3) := bz_c181 (by decide +kernel)
theorem d_VA_init_21 : decode b_VA_init 21 = .ok (.aload_n 0, 1) := bz_c42 (by decide +kernel)
theorem d_VA_init_22 : decode b_VA_init 22 = .ok (.bipush 101, 2) := bz_c16 (by decide +kernel)
theorem d_VA_init_24 : decode b_VA_init 24 = .ok (.newarray .int, 2) := by decide +kernel
theorem d_VA_init_26 : decode b_VA_init 26 = .ok (.putfield 18, 3) := bz_c181 (by decide +kernel)
theorem d_VA_init_29 : decode b_VA_init 29 = .ok (.aload_n 0, 1) := bz_c42 (by decide +kernel)
theorem d_VA_init_30 : decode b_VA_init 30 = .ok (.bipush 101, 2) := bz_c16 (by decide +kernel)
theorem d_VA_init_32 : decode b_VA_init 32 = .ok (.newarray .int, 2) := by decide +kernel
theorem d_VA_init_34 : decode b_VA_init 34 = .ok (.putfield 21, 3) := bz_c181 (by decide +kernel)
theorem d_VA_init_37 : decode b_VA_init 37 = .ok (.aload_n 0, 1) := bz_c42 (by decide +kernel)
theorem d_VA_init_38 : decode b_VA_init 38 = .ok (.bipush 101, 2) := bz_c16 (by decide +kernel)
theorem d_VA_init_40 : decode b_VA_init 40 = .ok (.newarray .boolean, 2) := by decide +kernel
theorem d_VA_init_42 : decode b_VA_init 42 = .ok (.putfield 24, 3) := bz_c181 (by decide +kernel)
theorem d_VA_init_45 : decode b_VA_init 45 = .ok (.return_, 1) := bz_c177 (by decide +kernel)
theorem kM_VA_3 : Cond.methodLink R_VA 3 Lib.objectInit ∈ lw_g := in_c3 16 rfl rfl
set_option maxHeartbeats 4000000 in
set_option maxRecDepth 100000 in
theorem c_VA_init (l : Launch) (dC : Nat → ClassId) (dI : Nat → Nat → Nat) (sz : Nat) (h0  : Nat)   : Met l y_VA_init w_VA_init ({ frames := 1, cells := 5, slots := 5404, locals := 20 }) (va_Pc [.ref h0] (fun U => U.heap.size = sz ∧ va_P (dC, dI) cls (wz_280 h0 0 0 0 0) U.heap ∧ va_K (dC, dI) cls [] U ∧ va_D (fun _ => True) (wz_280 h0 0 0 0 0))) (va_Qv (fun (_ : Unit) => True) (fun (_ : Unit) (t : State) => ∃ (q8 q16 q24 q32 q40 : Nat) (c8 c16 c24 c32 c40 : ClassId), va_P (dC, dI) cls (wz_281 h0 0 0 q8 0 q16 q24 q32 q40 0 q8 c8 (fun _ => 0) q16 c16 (fun _ => 0) q24 c24 (fun _ => 0) q32 c32 (fun _ => 0) q40 c40 (fun _ => 0)) t.heap ∧ va_K (dC, dI) cls [(c8, .int), (c16, .int), (c24, .int), (c32, .int), (c40, .boolean)] t ∧ va_D (va_A (wz_280 h0 0 0 0 0) sz) (wz_281 h0 0 0 q8 0 q16 q24 q32 q40 0 q8 c8 (fun _ => 0) q16 c16 (fun _ => 0) q24 c24 (fun _ => 0) q32 c32 (fun _ => 0) q40 c40 (fun _ => 0))) (va_A (wz_280 h0 0 0 0 0) sz)) 5 5404 (va_A (wz_280 h0 0 0 0 0) sz) := by
  refine Met.ofW (cc := b_VA_init) (maxL := 1) (ret := none) (by decide) rfl ?_
  intro p e s m args below meth c s₁ B hml hv
  obtain ⟨rfl, hsz, hP, hK, hD0⟩ := hv
  have hx := B.exec
  have hb := B.bytes
  have hr := B.returns
  have hts0 := atoms_spec (ws := w_VA_init) B.pre
  have hts : ∀ w ∈ lw_g, w.before _ s = true := fun w h => hts0 w (List.mem_cons_of_mem _ h)
  have hown : s.vm.findClass R_VA = some m.cls := findClass_of_methodNamed B.named
  have hlocks := B.notSynchronized
  clear hts0
  subst hsz
  have hD := hD0.self (sz := s.heap.size)
  generalize hAe : va_A (wz_280 h0 0 0 0 0) s.heap.size = A at hD ⊢
  have hA : ∀ q : Nat, s.heap.size ≤ q → A q := fun q h => by rw [← hAe]; exact Or.inr h
  clear hAe
  have hP : va_P (dC, dI) cls (wz_280 h0 0 0 0 0) s.heap := hP
  have hl := lv_entry ([.ref h0]) (n := 1) (Nat.le_of_ble_eq_true rfl)
  rw [lg_entry_eq]
  generalize (lg_sl ([.ref h0]) ++ List.replicate (1 - (lg_sl ([.ref h0])).length) Slot.unset).toArray = ls at hl ⊢
  have hl : lv_has ls 1 [(0, .ref h0)] := hl
  have k0 : (0 : Int32).toInt = 0 := by decide
  refine w_gen (A := A) hP (fun H locs hP hS => ?_)
  have k101 : (101 : Int32).toInt = 101 := by decide
  have k5000 : (5000 : Int32).toInt = 5000 := by decide
  have hin : meth.name = "<init>" := (name_of_methodNamed B.named B.method).1
  refine lv_aload_n hx hb d_VA_init_0 rfl (lv_at hl 0 rfl) ?_
  refine W.objInit hx hb hown (hts _ kM_VA_3) (hts _ kV_oi) (hts _ kC_oi) rfl (by rw [hml]; exact hl.1) rfl d_VA_init_1 (Nat.le_of_ble_eq_true rfl) (Nat.le_of_ble_eq_true rfl) ?_
  refine W.eq (g2 := F0 m 4 ls []) rfl ?_
  refine lv_aload_n hx hb d_VA_init_4 rfl (lv_at hl 0 rfl) ?_
  refine lv_sipush (v := 5000) hx hb d_VA_init_5 (by decide) ?_
  refine va_newa (atype := .int) (ty := .int) (N' := 5000) (a0 := (5000, .inl (fun _ => 0))) hx hb (hts _ ka_int) rfl hK hP hD hS hA (fun _ => rfl) (by decide) (by decide) (by decide) (show _ ≤ 5 from Nat.le_of_ble_eq_true rfl) (show _ ≤ 5404 from Nat.le_of_ble_eq_true rfl) d_VA_init_8 (fun q8 c8 H hK hP hD hS => ?_)
  have hP : va_P (dC, dI) cls [(h0, .inr (9, [.null, .null, .int 0, .int 0, .null, .int 0, .null, .null, .null, .null, .int 0])), (q8, .inl (c8, 5000, .inl (fun _ => 0)))] H := hP
  have hD : va_D A [(h0, .inr (9, [.null, .null, .int 0, .int 0, .null, .int 0, .null, .null, .null, .null, .int 0])), (q8, .inl (c8, 5000, .inl (fun _ => 0)))] := hD
  have hK : va_K (dC, dI) cls [(c8, .int)] s := hK
  refine va_putF (D := (dC, dI)) (ci := 9) (v := .ref q8) (ty := .array .int) (C := R_VA) (T := F_VA) (N := 11) hx hb hts i_VA t_VA t_VA_ok n_VA hown hK hP hD hS 0 rfl rfl 4 (by decide) (hts _ kF_VA_9) (fun _ h9 => h9) rfl hin rfl (by decide +kernel) rfl rfl (Nat.le_of_ble_eq_true rfl) d_VA_init_10 (fun H locs hP hD hS => ?_)
  have hP : va_P (dC, dI) cls [(h0, .inr (9, [.null, .null, .int 0, .int 0, .ref q8, .int 0, .null, .null, .null, .null, .int 0])), (q8, .inl (c8, 5000, .inl (fun _ => 0)))] H := hP
  have hD : va_D A [(h0, .inr (9, [.null, .null, .int 0, .int 0, .ref q8, .int 0, .null, .null, .null, .null, .int 0])), (q8, .inl (c8, 5000, .inl (fun _ => 0)))] := hD
  refine lv_aload_n hx hb d_VA_init_13 rfl (lv_at hl 0 rfl) ?_
  refine lv_bipush (v := 101) hx hb d_VA_init_14 (by decide) ?_
  refine va_newa (atype := .int) (ty := .int) (N' := 101) (a0 := (101, .inl (fun _ => 0))) hx hb (hts _ ka_int) rfl hK hP hD hS hA (fun _ => rfl) (by decide) (by decide) (by decide) (show _ ≤ 5 from Nat.le_of_ble_eq_true rfl) (show _ ≤ 5404 from Nat.le_of_ble_eq_true rfl) d_VA_init_16 (fun q16 c16 H hK hP hD hS => ?_)
  have hP : va_P (dC, dI) cls [(h0, .inr (9, [.null, .null, .int 0, .int 0, .ref q8, .int 0, .null, .null, .null, .null, .int 0])), (q8, .inl (c8, 5000, .inl (fun _ => 0))), (q16, .inl (c16, 101, .inl (fun _ => 0)))] H := hP
  have hD : va_D A [(h0, .inr (9, [.null, .null, .int 0, .int 0, .ref q8, .int 0, .null, .null, .null, .null, .int 0])), (q8, .inl (c8, 5000, .inl (fun _ => 0))), (q16, .inl (c16, 101, .inl (fun _ => 0)))] := hD
  have hK : va_K (dC, dI) cls [(c8, .int), (c16, .int)] s := hK
  refine va_putF (D := (dC, dI)) (ci := 9) (v := .ref q16) (ty := .array .int) (C := R_VA) (T := F_VA) (N := 11) hx hb hts i_VA t_VA t_VA_ok n_VA hown hK hP hD hS 0 rfl rfl 6 (by decide) (hts _ kF_VA_15) (fun _ h9 => h9) rfl hin rfl (by decide +kernel) rfl rfl (Nat.le_of_ble_eq_true rfl) d_VA_init_18 (fun H locs hP hD hS => ?_)
  have hP : va_P (dC, dI) cls [(h0, .inr (9, [.null, .null, .int 0, .int 0, .ref q8, .int 0, .ref q16, .null, .null, .null, .int 0])), (q8, .inl (c8, 5000, .inl (fun _ => 0))), (q16, .inl (c16, 101, .inl (fun _ => 0)))] H := hP
  have hD : va_D A [(h0, .inr (9, [.null, .null, .int 0, .int 0, .ref q8, .int 0, .ref q16, .null, .null, .null, .int 0])), (q8, .inl (c8, 5000, .inl (fun _ => 0))), (q16, .inl (c16, 101, .inl (fun _ => 0)))] := hD
  refine lv_aload_n hx hb d_VA_init_21 rfl (lv_at hl 0 rfl) ?_
  refine lv_bipush (v := 101) hx hb d_VA_init_22 (by decide) ?_
  refine va_newa (atype := .int) (ty := .int) (N' := 101) (a0 := (101, .inl (fun _ => 0))) hx hb (hts _ ka_int) rfl hK hP hD hS hA (fun _ => rfl) (by decide) (by decide) (by decide) (show _ ≤ 5 from Nat.le_of_ble_eq_true rfl) (show _ ≤ 5404 from Nat.le_of_ble_eq_true rfl) d_VA_init_24 (fun q24 c24 H hK hP hD hS => ?_)
  have hP : va_P (dC, dI) cls [(h0, .inr (9, [.null, .null, .int 0, .int 0, .ref q8, .int 0, .ref q16, .null, .null, .null, .int 0])), (q8, .inl (c8, 5000, .inl (fun _ => 0))), (q16, .inl (c16, 101, .inl (fun _ => 0))), (q24, .inl (c24, 101, .inl (fun _ => 0)))] H := hP
  have hD : va_D A [(h0, .inr (9, [.null, .null, .int 0, .int 0, .ref q8, .int 0, .ref q16, .null, .null, .null, .int 0])), (q8, .inl (c8, 5000, .inl (fun _ => 0))), (q16, .inl (c16, 101, .inl (fun _ => 0))), (q24, .inl (c24, 101, .inl (fun _ => 0)))] := hD
  have hK : va_K (dC, dI) cls [(c8, .int), (c16, .int), (c24, .int)] s := hK
  refine va_putF (D := (dC, dI)) (ci := 9) (v := .ref q24) (ty := .array .int) (C := R_VA) (T := F_VA) (N := 11) hx hb hts i_VA t_VA t_VA_ok n_VA hown hK hP hD hS 0 rfl rfl 7 (by decide) (hts _ kF_VA_18) (fun _ h9 => h9) rfl hin rfl (by decide +kernel) rfl rfl (Nat.le_of_ble_eq_true rfl) d_VA_init_26 (fun H locs hP hD hS => ?_)
  have hP : va_P (dC, dI) cls [(h0, .inr (9, [.null, .null, .int 0, .int 0, .ref q8, .int 0, .ref q16, .ref q24, .null, .null, .int 0])), (q8, .inl (c8, 5000, .inl (fun _ => 0))), (q16, .inl (c16, 101, .inl (fun _ => 0))), (q24, .inl (c24, 101, .inl (fun _ => 0)))] H := hP
  have hD : va_D A [(h0, .inr (9, [.null, .null, .int 0, .int 0, .ref q8, .int 0, .ref q16, .ref q24, .null, .null, .int 0])), (q8, .inl (c8, 5000, .inl (fun _ => 0))), (q16, .inl (c16, 101, .inl (fun _ => 0))), (q24, .inl (c24, 101, .inl (fun _ => 0)))] := hD
  refine lv_aload_n hx hb d_VA_init_29 rfl (lv_at hl 0 rfl) ?_
  refine lv_bipush (v := 101) hx hb d_VA_init_30 (by decide) ?_
  refine va_newa (atype := .int) (ty := .int) (N' := 101) (a0 := (101, .inl (fun _ => 0))) hx hb (hts _ ka_int) rfl hK hP hD hS hA (fun _ => rfl) (by decide) (by decide) (by decide) (show _ ≤ 5 from Nat.le_of_ble_eq_true rfl) (show _ ≤ 5404 from Nat.le_of_ble_eq_true rfl) d_VA_init_32 (fun q32 c32 H hK hP hD hS => ?_)
  have hP : va_P (dC, dI) cls [(h0, .inr (9, [.null, .null, .int 0, .int 0, .ref q8, .int 0, .ref q16, .ref q24, .null, .null, .int 0])), (q8, .inl (c8, 5000, .inl (fun _ => 0))), (q16, .inl (c16, 101, .inl (fun _ => 0))), (q24, .inl (c24, 101, .inl (fun _ => 0))), (q32, .inl (c32, 101, .inl (fun _ => 0)))] H := hP
  have hD : va_D A [(h0, .inr (9, [.null, .null, .int 0, .int 0, .ref q8, .int 0, .ref q16, .ref q24, .null, .null, .int 0])), (q8, .inl (c8, 5000, .inl (fun _ => 0))), (q16, .inl (c16, 101, .inl (fun _ => 0))), (q24, .inl (c24, 101, .inl (fun _ => 0))), (q32, .inl (c32, 101, .inl (fun _ => 0)))] := hD
  have hK : va_K (dC, dI) cls [(c8, .int), (c16, .int), (c24, .int), (c32, .int)] s := hK
  refine va_putF (D := (dC, dI)) (ci := 9) (v := .ref q32) (ty := .array .int) (C := R_VA) (T := F_VA) (N := 11) hx hb hts i_VA t_VA t_VA_ok n_VA hown hK hP hD hS 0 rfl rfl 8 (by decide) (hts _ kF_VA_21) (fun _ h9 => h9) rfl hin rfl (by decide +kernel) rfl rfl (Nat.le_of_ble_eq_true rfl) d_VA_init_34 (fun H locs hP hD hS => ?_)
  have hP : va_P (dC, dI) cls [(h0, .inr (9, [.null, .null, .int 0, .int 0, .ref q8, .int 0, .ref q16, .ref q24, .ref q32, .null, .int 0])), (q8, .inl (c8, 5000, .inl (fun _ => 0))), (q16, .inl (c16, 101, .inl (fun _ => 0))), (q24, .inl (c24, 101, .inl (fun _ => 0))), (q32, .inl (c32, 101, .inl (fun _ => 0)))] H := hP
  have hD : va_D A [(h0, .inr (9, [.null, .null, .int 0, .int 0, .ref q8, .int 0, .ref q16, .ref q24, .ref q32, .null, .int 0])), (q8, .inl (c8, 5000, .inl (fun _ => 0))), (q16, .inl (c16, 101, .inl (fun _ => 0))), (q24, .inl (c24, 101, .inl (fun _ => 0))), (q32, .inl (c32, 101, .inl (fun _ => 0)))] := hD
  refine lv_aload_n hx hb d_VA_init_37 rfl (lv_at hl 0 rfl) ?_
  refine lv_bipush (v := 101) hx hb d_VA_init_38 (by decide) ?_
  refine va_newa (atype := .boolean) (ty := .boolean) (N' := 101) (a0 := (101, .inl (fun _ => 0))) hx hb (hts _ ka_boolean) rfl hK hP hD hS hA (fun _ => rfl) (by decide) (by decide) (by decide) (show _ ≤ 5 from Nat.le_of_ble_eq_true rfl) (show _ ≤ 5404 from Nat.le_of_ble_eq_true rfl) d_VA_init_40 (fun q40 c40 H hK hP hD hS => ?_)
  have hP : va_P (dC, dI) cls [(h0, .inr (9, [.null, .null, .int 0, .int 0, .ref q8, .int 0, .ref q16, .ref q24, .ref q32, .null, .int 0])), (q8, .inl (c8, 5000, .inl (fun _ => 0))), (q16, .inl (c16, 101, .inl (fun _ => 0))), (q24, .inl (c24, 101, .inl (fun _ => 0))), (q32, .inl (c32, 101, .inl (fun _ => 0))), (q40, .inl (c40, 101, .inl (fun _ => 0)))] H := hP
  have hD : va_D A [(h0, .inr (9, [.null, .null, .int 0, .int 0, .ref q8, .int 0, .ref q16, .ref q24, .ref q32, .null, .int 0])), (q8, .inl (c8, 5000, .inl (fun _ => 0))), (q16, .inl (c16, 101, .inl (fun _ => 0))), (q24, .inl (c24, 101, .inl (fun _ => 0))), (q32, .inl (c32, 101, .inl (fun _ => 0))), (q40, .inl (c40, 101, .inl (fun _ => 0)))] := hD
  have hK : va_K (dC, dI) cls [(c8, .int), (c16, .int), (c24, .int), (c32, .int), (c40, .boolean)] s := hK
  refine va_putF (D := (dC, dI)) (ci := 9) (v := .ref q40) (ty := .array .boolean) (C := R_VA) (T := F_VA) (N := 11) hx hb hts i_VA t_VA t_VA_ok n_VA hown hK hP hD hS 0 rfl rfl 9 (by decide) (hts _ kF_VA_24) (fun _ h9 => h9) rfl hin rfl (by decide +kernel) rfl rfl (Nat.le_of_ble_eq_true rfl) d_VA_init_42 (fun H locs hP hD hS => ?_)
  have hP : va_P (dC, dI) cls (wz_281 h0 0 0 q8 0 q16 q24 q32 q40 0 q8 c8 (fun _ => 0) q16 c16 (fun _ => 0) q24 c24 (fun _ => 0) q32 c32 (fun _ => 0) q40 c40 (fun _ => 0)) H := hP
  have hD : va_D A (wz_281 h0 0 0 q8 0 q16 q24 q32 q40 0 q8 c8 (fun _ => 0) q16 c16 (fun _ => 0) q24 c24 (fun _ => 0) q32 c32 (fun _ => 0) q40 c40 (fun _ => 0)) := hD
  refine W.widen (k := 5) (n := 5404) (Nat.le_of_ble_eq_true rfl) (Nat.le_of_ble_eq_true rfl) ?_
  exact W.vret hx hb hr (fun t ht hW => ⟨⟨(), rfl, trivial, q8, q16, q24, q32, q40, c8, c16, c24, c32, c40, va_P.he ht.symm hP, va_K.moved hW.alike hK, hD⟩, hS.F ht⟩) hS.2.2 d_VA_init_45
abbrev b_MA_init : ByteArray := prog_6_method_1_code
def y_MA_init : MethodName := ⟨R_MA, "<init>", "()V"⟩
abbrev w_MA_init : List Cond := .code y_MA_init b_MA_init 1 none :: lw_g
theorem kC_MA_init : Cond.code y_MA_init b_MA_init 1 none ∈ lw_g := in_c3 55 rfl rfl
theorem d_MA_init_0 : decode b_MA_init 0 = .ok (.aload_n 0, 1) := bz_c42 (by decide +kernel)
theorem d_MA_init_1 : decode b_MA_init 1 = .ok (.invokespecial 3, 3) := bz_c183 (by decide +kernel)
theorem d_MA_init_4 : decode b_MA_init 4 = .ok (.aload_n 0, 1) := bz_c42 (by decide +kernel)
theorem d_MA_init_5 : decode b_MA_init 5 = .ok (.bipush 20, 2) := bz_c16 (by decide +kernel)
theorem d_MA_init_7 : decode b_MA_init 7 = .ok (.newarray .long, 2) := by decide +kernel
theorem d_MA_init_9 : decode b_MA_init 9 = .ok (.putfield 9, 3) := bz_c181 (by decide +kernel)
theorem d_MA_init_12 : decode b_MA_init 12 = .ok (.aload_n 0, 1) := bz_c42 (by decide +kernel)
theorem d_MA_init_13 : decode b_MA_init 13 = .ok (.sipush 16384, 3) := bz_c17 (by decide +kernel)
theorem d_MA_init_16 : decode b_MA_init 16 = .ok (.newarray .long, 2) := by decide +kernel
theorem d_MA_init_18 : decode b_MA_init 18 = .ok (.putfield 15, 3) := bz_c181 (by decide +kernel)
theorem d_MA_init_21 : decode b_MA_init 21 = .ok (.aload_n 0, 1) := bz_c42 (by decide +kernel)
theorem d_MA_init_22 : decode b_MA_init 22 = .ok (.sipush 12096, 3) := bz_c17 (by decide +kernel)
theorem d_MA_init_25 : decode b_MA_init 25 = .ok (.newarray .long, 2) := by decide +kernel
theorem d_MA_init_27 : decode b_MA_init 27 = .ok (.putfield 18, 3) := bz_c181 (by decide +kernel)
theorem d_MA_init_30 : decode b_MA_init 30 = .ok (.aload_n 0, 1) := bz_c42 (by decide +kernel)
theorem d_MA_init_31 : decode b_MA_init 31 = .ok (.bipush 100, 2) := bz_c16 (by decide +kernel)
theorem d_MA_init_33 : decode b_MA_init 33 = .ok (.newarray .int, 2) := by decide +kernel
theorem d_MA_init_35 : decode b_MA_init 35 = .ok (.putfield 21, 3) := bz_c181 (by decide +kernel)
theorem d_MA_init_38 : decode b_MA_init 38 = .ok (.aload_n 0, 1) := bz_c42 (by decide +kernel)
theorem d_MA_init_39 : decode b_MA_init 39 = .ok (.bipush 100, 2) := bz_c16 (by decide +kernel)
theorem d_MA_init_41 : decode b_MA_init 41 = .ok (.newarray .int, 2) := by decide +kernel
theorem d_MA_init_43 : decode b_MA_init 43 = .ok (.putfield 25, 3) := bz_c181 (by decide +kernel)
theorem d_MA_init_46 : decode b_MA_init 46 = .ok (.aload_n 0, 1) := bz_c42 (by decide +kernel)
theorem d_MA_init_47 : decode b_MA_init 47 = .ok (.bipush 100, 2) := bz_c16 (by decide +kernel)
theorem d_MA_init_49 : decode b_MA_init 49 = .ok (.newarray .int, 2) := by decide +kernel
theorem d_MA_init_51 : decode b_MA_init 51 = .ok (.putfield 28, 3) := bz_c181 (by decide +kernel)
theorem d_MA_init_54 : decode b_MA_init 54 = .ok (.aload_n 0, 1) := bz_c42 (by decide +kernel)
theorem d_MA_init_55 : decode b_MA_init 55 = .ok (.bipush 100, 2) := bz_c16 (by decide +kernel)
theorem d_MA_init_57 : decode b_MA_init 57 = .ok (.newarray .int, 2) := by decide +kernel
theorem d_MA_init_59 : decode b_MA_init 59 = .ok (.putfield 31, 3) := bz_c181 (by decide +kernel)
theorem d_MA_init_62 : decode b_MA_init 62 = .ok (.aload_n 0, 1) := bz_c42 (by decide +kernel)
theorem d_MA_init_63 : decode b_MA_init 63 = .ok (.sipush 10000, 3) := bz_c17 (by decide +kernel)
theorem d_MA_init_66 : decode b_MA_init 66 = .ok (.newarray .int, 2) := by decide +kernel
theorem d_MA_init_68 : decode b_MA_init 68 = .ok (.putfield 34, 3) := bz_c181 (by decide +kernel)
theorem d_MA_init_71 : decode b_MA_init 71 = .ok (.aload_n 0, 1) := bz_c42 (by decide +kernel)
theorem d_MA_init_72 : decode b_MA_init 72 = .ok (.sipush 10000, 3) := bz_c17 (by decide +kernel)
theorem d_MA_init_75 : decode b_MA_init 75 = .ok (.newarray .int, 2) := by decide +kernel
theorem d_MA_init_77 : decode b_MA_init 77 = .ok (.putfield 37, 3) := bz_c181 (by decide +kernel)
theorem d_MA_init_80 : decode b_MA_init 80 = .ok (.return_, 1) := bz_c177 (by decide +kernel)
theorem kM_MA_3 : Cond.methodLink R_MA 3 Lib.objectInit ∈ lw_g := in_c3 56 rfl rfl
set_option maxHeartbeats 4000000 in
set_option maxRecDepth 100000 in
theorem c_MA_init (l : Launch) (dC : Nat → ClassId) (dI : Nat → Nat → Nat) (sz : Nat) (h0  : Nat)   : Met l y_MA_init w_MA_init ({ frames := 1, cells := 9, slots := 48900, locals := 20 }) (va_Pc [.ref h0] (fun U => U.heap.size = sz ∧ va_P (dC, dI) cls (wz_282 h0 0 0 0 0 0 0 0) U.heap ∧ va_K (dC, dI) cls [] U ∧ va_D (fun _ => True) (wz_282 h0 0 0 0 0 0 0 0))) (va_Qv (fun (_ : Unit) => True) (fun (_ : Unit) (t : State) => ∃ (q7 q16 q25 q33 q41 q49 q57 q66 q75 : Nat) (c7 c16 c25 c33 c41 c49 c57 c66 c75 : ClassId), va_P (dC, dI) cls (wz_283 h0 0 0 0 q7 q16 q25 0 q33 q41 q49 q57 0 q66 q75 0 0 q7 c7 (fun _ => 0) q16 c16 (fun _ => 0) q25 c25 (fun _ => 0) q33 c33 (fun _ => 0) q41 c41 (fun _ => 0) q49 c49 (fun _ => 0) q57 c57 (fun _ => 0) q66 c66 (fun _ => 0) q75 c75 (fun _ => 0)) t.heap ∧ va_K (dC, dI) cls [(c7, .long), (c16, .long), (c25, .long), (c33, .int), (c41, .int), (c49, .int), (c57, .int), (c66, .int), (c75, .int)] t ∧ va_D (va_A (wz_282 h0 0 0 0 0 0 0 0) sz) (wz_283 h0 0 0 0 q7 q16 q25 0 q33 q41 q49 q57 0 q66 q75 0 0 q7 c7 (fun _ => 0) q16 c16 (fun _ => 0) q25 c25 (fun _ => 0) q33 c33 (fun _ => 0) q41 c41 (fun _ => 0) q49 c49 (fun _ => 0) q57 c57 (fun _ => 0) q66 c66 (fun _ => 0) q75 c75 (fun _ => 0))) (va_A (wz_282 h0 0 0 0 0 0 0 0) sz)) 9 48900 (va_A (wz_282 h0 0 0 0 0 0 0 0) sz) := by
  refine Met.ofW (cc := b_MA_init) (maxL := 1) (ret := none) (by decide) rfl ?_
  intro p e s m args below meth c s₁ B hml hv
  obtain ⟨rfl, hsz, hP, hK, hD0⟩ := hv
  have hx := B.exec
  have hb := B.bytes
  have hr := B.returns
  have hts0 := atoms_spec (ws := w_MA_init) B.pre
  have hts : ∀ w ∈ lw_g, w.before _ s = true := fun w h => hts0 w (List.mem_cons_of_mem _ h)
  have hown : s.vm.findClass R_MA = some m.cls := findClass_of_methodNamed B.named
  have hlocks := B.notSynchronized
  clear hts0
  subst hsz
  have hD := hD0.self (sz := s.heap.size)
  generalize hAe : va_A (wz_282 h0 0 0 0 0 0 0 0) s.heap.size = A at hD ⊢
  have hA : ∀ q : Nat, s.heap.size ≤ q → A q := fun q h => by rw [← hAe]; exact Or.inr h
  clear hAe
  have hP : va_P (dC, dI) cls (wz_282 h0 0 0 0 0 0 0 0) s.heap := hP
  have hl := lv_entry ([.ref h0]) (n := 1) (Nat.le_of_ble_eq_true rfl)
  rw [lg_entry_eq]
  generalize (lg_sl ([.ref h0]) ++ List.replicate (1 - (lg_sl ([.ref h0])).length) Slot.unset).toArray = ls at hl ⊢
  have hl : lv_has ls 1 [(0, .ref h0)] := hl
  have k0 : (0 : Int32).toInt = 0 := by decide
  refine w_gen (A := A) hP (fun H locs hP hS => ?_)
  have k20 : (20 : Int32).toInt = 20 := by decide
  have k100 : (100 : Int32).toInt = 100 := by decide
  have k10000 : (10000 : Int32).toInt = 10000 := by decide
  have k12096 : (12096 : Int32).toInt = 12096 := by decide
  have k16384 : (16384 : Int32).toInt = 16384 := by decide
  have hin : meth.name = "<init>" := (name_of_methodNamed B.named B.method).1
  refine lv_aload_n hx hb d_MA_init_0 rfl (lv_at hl 0 rfl) ?_
  refine W.objInit hx hb hown (hts _ kM_MA_3) (hts _ kV_oi) (hts _ kC_oi) rfl (by rw [hml]; exact hl.1) rfl d_MA_init_1 (Nat.le_of_ble_eq_true rfl) (Nat.le_of_ble_eq_true rfl) ?_
  refine W.eq (g2 := F0 m 4 ls []) rfl ?_
  refine lv_aload_n hx hb d_MA_init_4 rfl (lv_at hl 0 rfl) ?_
  refine lv_bipush (v := 20) hx hb d_MA_init_5 (by decide) ?_
  refine va_newa (atype := .long) (ty := .long) (N' := 20) (a0 := (20, .inr (.inl (fun _ => 0)))) hx hb (hts _ ka_long) rfl hK hP hD hS hA (fun _ => rfl) (by decide) (by decide) (by decide) (show _ ≤ 9 from Nat.le_of_ble_eq_true rfl) (show _ ≤ 48900 from Nat.le_of_ble_eq_true rfl) d_MA_init_7 (fun q7 c7 H hK hP hD hS => ?_)
  have hP : va_P (dC, dI) cls [(h0, .inr (4, [.int 0, .int 0, .int 0, .null, .null, .null, .null, .null, .int 0, .null, .null, .null, .null, .int 0, .null, .null, .int 0, .int 0])), (q7, .inl (c7, 20, .inr (.inl (fun _ => 0))))] H := hP
  have hD : va_D A [(h0, .inr (4, [.int 0, .int 0, .int 0, .null, .null, .null, .null, .null, .int 0, .null, .null, .null, .null, .int 0, .null, .null, .int 0, .int 0])), (q7, .inl (c7, 20, .inr (.inl (fun _ => 0))))] := hD
  have hK : va_K (dC, dI) cls [(c7, .long)] s := hK
  refine va_putF (D := (dC, dI)) (ci := 4) (v := .ref q7) (ty := .array .long) (C := R_MA) (T := F_MA) (N := 18) hx hb hts i_MA t_MA t_MA_ok n_MA hown hK hP hD hS 0 rfl rfl 3 (by decide) (hts _ kF_MA_9) (fun _ h9 => h9) rfl hin rfl (by decide +kernel) rfl rfl (Nat.le_of_ble_eq_true rfl) d_MA_init_9 (fun H locs hP hD hS => ?_)
  have hP : va_P (dC, dI) cls [(h0, .inr (4, [.int 0, .int 0, .int 0, .ref q7, .null, .null, .null, .null, .int 0, .null, .null, .null, .null, .int 0, .null, .null, .int 0, .int 0])), (q7, .inl (c7, 20, .inr (.inl (fun _ => 0))))] H := hP
  have hD : va_D A [(h0, .inr (4, [.int 0, .int 0, .int 0, .ref q7, .null, .null, .null, .null, .int 0, .null, .null, .null, .null, .int 0, .null, .null, .int 0, .int 0])), (q7, .inl (c7, 20, .inr (.inl (fun _ => 0))))] := hD
  refine lv_aload_n hx hb d_MA_init_12 rfl (lv_at hl 0 rfl) ?_
  refine lv_sipush (v := 16384) hx hb d_MA_init_13 (by decide) ?_
  refine va_newa (atype := .long) (ty := .long) (N' := 16384) (a0 := (16384, .inr (.inl (fun _ => 0)))) hx hb (hts _ ka_long) rfl hK hP hD hS hA (fun _ => rfl) (by decide) (by decide) (by decide) (show _ ≤ 9 from Nat.le_of_ble_eq_true rfl) (show _ ≤ 48900 from Nat.le_of_ble_eq_true rfl) d_MA_init_16 (fun q16 c16 H hK hP hD hS => ?_)
  have hP : va_P (dC, dI) cls [(h0, .inr (4, [.int 0, .int 0, .int 0, .ref q7, .null, .null, .null, .null, .int 0, .null, .null, .null, .null, .int 0, .null, .null, .int 0, .int 0])), (q7, .inl (c7, 20, .inr (.inl (fun _ => 0)))), (q16, .inl (c16, 16384, .inr (.inl (fun _ => 0))))] H := hP
  have hD : va_D A [(h0, .inr (4, [.int 0, .int 0, .int 0, .ref q7, .null, .null, .null, .null, .int 0, .null, .null, .null, .null, .int 0, .null, .null, .int 0, .int 0])), (q7, .inl (c7, 20, .inr (.inl (fun _ => 0)))), (q16, .inl (c16, 16384, .inr (.inl (fun _ => 0))))] := hD
  have hK : va_K (dC, dI) cls [(c7, .long), (c16, .long)] s := hK
  refine va_putF (D := (dC, dI)) (ci := 4) (v := .ref q16) (ty := .array .long) (C := R_MA) (T := F_MA) (N := 18) hx hb hts i_MA t_MA t_MA_ok n_MA hown hK hP hD hS 0 rfl rfl 6 (by decide) (hts _ kF_MA_15) (fun _ h9 => h9) rfl hin rfl (by decide +kernel) rfl rfl (Nat.le_of_ble_eq_true rfl) d_MA_init_18 (fun H locs hP hD hS => ?_)
  have hP : va_P (dC, dI) cls [(h0, .inr (4, [.int 0, .int 0, .int 0, .ref q7, .null, .null, .ref q16, .null, .int 0, .null, .null, .null, .null, .int 0, .null, .null, .int 0, .int 0])), (q7, .inl (c7, 20, .inr (.inl (fun _ => 0)))), (q16, .inl (c16, 16384, .inr (.inl (fun _ => 0))))] H := hP
  have hD : va_D A [(h0, .inr (4, [.int 0, .int 0, .int 0, .ref q7, .null, .null, .ref q16, .null, .int 0, .null, .null, .null, .null, .int 0, .null, .null, .int 0, .int 0])), (q7, .inl (c7, 20, .inr (.inl (fun _ => 0)))), (q16, .inl (c16, 16384, .inr (.inl (fun _ => 0))))] := hD
  refine lv_aload_n hx hb d_MA_init_21 rfl (lv_at hl 0 rfl) ?_
  refine lv_sipush (v := 12096) hx hb d_MA_init_22 (by decide) ?_
  refine va_newa (atype := .long) (ty := .long) (N' := 12096) (a0 := (12096, .inr (.inl (fun _ => 0)))) hx hb (hts _ ka_long) rfl hK hP hD hS hA (fun _ => rfl) (by decide) (by decide) (by decide) (show _ ≤ 9 from Nat.le_of_ble_eq_true rfl) (show _ ≤ 48900 from Nat.le_of_ble_eq_true rfl) d_MA_init_25 (fun q25 c25 H hK hP hD hS => ?_)
  have hP : va_P (dC, dI) cls [(h0, .inr (4, [.int 0, .int 0, .int 0, .ref q7, .null, .null, .ref q16, .null, .int 0, .null, .null, .null, .null, .int 0, .null, .null, .int 0, .int 0])), (q7, .inl (c7, 20, .inr (.inl (fun _ => 0)))), (q16, .inl (c16, 16384, .inr (.inl (fun _ => 0)))), (q25, .inl (c25, 12096, .inr (.inl (fun _ => 0))))] H := hP
  have hD : va_D A [(h0, .inr (4, [.int 0, .int 0, .int 0, .ref q7, .null, .null, .ref q16, .null, .int 0, .null, .null, .null, .null, .int 0, .null, .null, .int 0, .int 0])), (q7, .inl (c7, 20, .inr (.inl (fun _ => 0)))), (q16, .inl (c16, 16384, .inr (.inl (fun _ => 0)))), (q25, .inl (c25, 12096, .inr (.inl (fun _ => 0))))] := hD
  have hK : va_K (dC, dI) cls [(c7, .long), (c16, .long), (c25, .long)] s := hK
  refine va_putF (D := (dC, dI)) (ci := 4) (v := .ref q25) (ty := .array .long) (C := R_MA) (T := F_MA) (N := 18) hx hb hts i_MA t_MA t_MA_ok n_MA hown hK hP hD hS 0 rfl rfl 7 (by decide) (hts _ kF_MA_18) (fun _ h9 => h9) rfl hin rfl (by decide +kernel) rfl rfl (Nat.le_of_ble_eq_true rfl) d_MA_init_27 (fun H locs hP hD hS => ?_)
  have hP : va_P (dC, dI) cls [(h0, .inr (4, [.int 0, .int 0, .int 0, .ref q7, .null, .null, .ref q16, .ref q25, .int 0, .null, .null, .null, .null, .int 0, .null, .null, .int 0, .int 0])), (q7, .inl (c7, 20, .inr (.inl (fun _ => 0)))), (q16, .inl (c16, 16384, .inr (.inl (fun _ => 0)))), (q25, .inl (c25, 12096, .inr (.inl (fun _ => 0))))] H := hP
  have hD : va_D A [(h0, .inr (4, [.int 0, .int 0, .int 0, .ref q7, .null, .null, .ref q16, .ref q25, .int 0, .null, .null, .null, .null, .int 0, .null, .null, .int 0, .int 0])), (q7, .inl (c7, 20, .inr (.inl (fun _ => 0)))), (q16, .inl (c16, 16384, .inr (.inl (fun _ => 0)))), (q25, .inl (c25, 12096, .inr (.inl (fun _ => 0))))] := hD
  refine lv_aload_n hx hb d_MA_init_30 rfl (lv_at hl 0 rfl) ?_
  refine lv_bipush (v := 100) hx hb d_MA_init_31 (by decide) ?_
  refine va_newa (atype := .int) (ty := .int) (N' := 100) (a0 := (100, .inl (fun _ => 0))) hx hb (hts _ ka_int) rfl hK hP hD hS hA (fun _ => rfl) (by decide) (by decide) (by decide) (show _ ≤ 9 from Nat.le_of_ble_eq_true rfl) (show _ ≤ 48900 from Nat.le_of_ble_eq_true rfl) d_MA_init_33 (fun q33 c33 H hK hP hD hS => ?_)
  have hP : va_P (dC, dI) cls [(h0, .inr (4, [.int 0, .int 0, .int 0, .ref q7, .null, .null, .ref q16, .ref q25, .int 0, .null, .null, .null, .null, .int 0, .null, .null, .int 0, .int 0])), (q7, .inl (c7, 20, .inr (.inl (fun _ => 0)))), (q16, .inl (c16, 16384, .inr (.inl (fun _ => 0)))), (q25, .inl (c25, 12096, .inr (.inl (fun _ => 0)))), (q33, .inl (c33, 100, .inl (fun _ => 0)))] H := hP
  have hD : va_D A [(h0, .inr (4, [.int 0, .int 0, .int 0, .ref q7, .null, .null, .ref q16, .ref q25, .int 0, .null, .null, .null, .null, .int 0, .null, .null, .int 0, .int 0])), (q7, .inl (c7, 20, .inr (.inl (fun _ => 0)))), (q16, .inl (c16, 16384, .inr (.inl (fun _ => 0)))), (q25, .inl (c25, 12096, .inr (.inl (fun _ => 0)))), (q33, .inl (c33, 100, .inl (fun _ => 0)))] := hD
  have hK : va_K (dC, dI) cls [(c7, .long), (c16, .long), (c25, .long), (c33, .int)] s := hK
  refine va_putF (D := (dC, dI)) (ci := 4) (v := .ref q33) (ty := .array .int) (C := R_MA) (T := F_MA) (N := 18) hx hb hts i_MA t_MA t_MA_ok n_MA hown hK hP hD hS 0 rfl rfl 9 (by decide) (hts _ kF_MA_21) (fun _ h9 => h9) rfl hin rfl (by decide +kernel) rfl rfl (Nat.le_of_ble_eq_true rfl) d_MA_init_35 (fun H locs hP hD hS => ?_)
  have hP : va_P (dC, dI) cls [(h0, .inr (4, [.int 0, .int 0, .int 0, .ref q7, .null, .null, .ref q16, .ref q25, .int 0, .ref q33, .null, .null, .null, .int 0, .null, .null, .int 0, .int 0])), (q7, .inl (c7, 20, .inr (.inl (fun _ => 0)))), (q16, .inl (c16, 16384, .inr (.inl (fun _ => 0)))), (q25, .inl (c25, 12096, .inr (.inl (fun _ => 0)))), (q33, .inl (c33, 100, .inl (fun _ => 0)))] H := hP
  have hD : va_D A [(h0, .inr (4, [.int 0, .int 0, .int 0, .ref q7, .null, .null, .ref q16, .ref q25, .int 0, .ref q33, .null, .null, .null, .int 0, .null, .null, .int 0, .int 0])), (q7, .inl (c7, 20, .inr (.inl (fun _ => 0)))), (q16, .inl (c16, 16384, .inr (.inl (fun _ => 0)))), (q25, .inl (c25, 12096, .inr (.inl (fun _ => 0)))), (q33, .inl (c33, 100, .inl (fun _ => 0)))] := hD
  refine lv_aload_n hx hb d_MA_init_38 rfl (lv_at hl 0 rfl) ?_
  refine lv_bipush (v := 100) hx hb d_MA_init_39 (by decide) ?_
  refine va_newa (atype := .int) (ty := .int) (N' := 100) (a0 := (100, .inl (fun _ => 0))) hx hb (hts _ ka_int) rfl hK hP hD hS hA (fun _ => rfl) (by decide) (by decide) (by decide) (show _ ≤ 9 from Nat.le_of_ble_eq_true rfl) (show _ ≤ 48900 from Nat.le_of_ble_eq_true rfl) d_MA_init_41 (fun q41 c41 H hK hP hD hS => ?_)
  have hP : va_P (dC, dI) cls [(h0, .inr (4, [.int 0, .int 0, .int 0, .ref q7, .null, .null, .ref q16, .ref q25, .int 0, .ref q33, .null, .null, .null, .int 0, .null, .null, .int 0, .int 0])), (q7, .inl (c7, 20, .inr (.inl (fun _ => 0)))), (q16, .inl (c16, 16384, .inr (.inl (fun _ => 0)))), (q25, .inl (c25, 12096, .inr (.inl (fun _ => 0)))), (q33, .inl (c33, 100, .inl (fun _ => 0))), (q41, .inl (c41, 100, .inl (fun _ => 0)))] H := hP
  have hD : va_D A [(h0, .inr (4, [.int 0, .int 0, .int 0, .ref q7, .null, .null, .ref q16, .ref q25, .int 0, .ref q33, .null, .null, .null, .int 0, .null, .null, .int 0, .int 0])), (q7, .inl (c7, 20, .inr (.inl (fun _ => 0)))), (q16, .inl (c16, 16384, .inr (.inl (fun _ => 0)))), (q25, .inl (c25, 12096, .inr (.inl (fun _ => 0)))), (q33, .inl (c33, 100, .inl (fun _ => 0))), (q41, .inl (c41, 100, .inl (fun _ => 0)))] := hD
  have hK : va_K (dC, dI) cls [(c7, .long), (c16, .long), (c25, .long), (c33, .int), (c41, .int)] s := hK
  refine va_putF (D := (dC, dI)) (ci := 4) (v := .ref q41) (ty := .array .int) (C := R_MA) (T := F_MA) (N := 18) hx hb hts i_MA t_MA t_MA_ok n_MA hown hK hP hD hS 0 rfl rfl 10 (by decide) (hts _ kF_MA_25) (fun _ h9 => h9) rfl hin rfl (by decide +kernel) rfl rfl (Nat.le_of_ble_eq_true rfl) d_MA_init_43 (fun H locs hP hD hS => ?_)
  have hP : va_P (dC, dI) cls [(h0, .inr (4, [.int 0, .int 0, .int 0, .ref q7, .null, .null, .ref q16, .ref q25, .int 0, .ref q33, .ref q41, .null, .null, .int 0, .null, .null, .int 0, .int 0])), (q7, .inl (c7, 20, .inr (.inl (fun _ => 0)))), (q16, .inl (c16, 16384, .inr (.inl (fun _ => 0)))), (q25, .inl (c25, 12096, .inr (.inl (fun _ => 0)))), (q33, .inl (c33, 100, .inl (fun _ => 0))), (q41, .inl (c41, 100, .inl (fun _ => 0)))] H := hP
  have hD : va_D A [(h0, .inr (4, [.int 0, .int 0, .int 0, .ref q7, .null, .null, .ref q16, .ref q25, .int 0, .ref q33, .ref q41, .null, .null, .int 0, .null, .null, .int 0, .int 0])), (q7, .inl (c7, 20, .inr (.inl (fun _ => 0)))), (q16, .inl (c16, 16384, .inr (.inl (fun _ => 0)))), (q25, .inl (c25, 12096, .inr (.inl (fun _ => 0)))), (q33, .inl (c33, 100, .inl (fun _ => 0))), (q41, .inl (c41, 100, .inl (fun _ => 0)))] := hD
  refine lv_aload_n hx hb d_MA_init_46 rfl (lv_at hl 0 rfl) ?_
  refine lv_bipush (v := 100) hx hb d_MA_init_47 (by decide) ?_
  refine va_newa (atype := .int) (ty := .int) (N' := 100) (a0 := (100, .inl (fun _ => 0))) hx hb (hts _ ka_int) rfl hK hP hD hS hA (fun _ => rfl) (by decide) (by decide) (by decide) (show _ ≤ 9 from Nat.le_of_ble_eq_true rfl) (show _ ≤ 48900 from Nat.le_of_ble_eq_true rfl) d_MA_init_49 (fun q49 c49 H hK hP hD hS => ?_)
  have hP : va_P (dC, dI) cls [(h0, .inr (4, [.int 0, .int 0, .int 0, .ref q7, .null, .null, .ref q16, .ref q25, .int 0, .ref q33, .ref q41, .null, .null, .int 0, .null, .null, .int 0, .int 0])), (q7, .inl (c7, 20, .inr (.inl (fun _ => 0)))), (q16, .inl (c16, 16384, .inr (.inl (fun _ => 0)))), (q25, .inl (c25, 12096, .inr (.inl (fun _ => 0)))), (q33, .inl (c33, 100, .inl (fun _ => 0))), (q41, .inl (c41, 100, .inl (fun _ => 0))), (q49, .inl (c49, 100, .inl (fun _ => 0)))] H := hP
  have hD : va_D A [(h0, .inr (4, [.int 0, .int 0, .int 0, .ref q7, .null, .null, .ref q16, .ref q25, .int 0, .ref q33, .ref q41, .null, .null, .int 0, .null, .null, .int 0, .int 0])), (q7, .inl (c7, 20, .inr (.inl (fun _ => 0)))), (q16, .inl (c16, 16384, .inr (.inl (fun _ => 0)))), (q25, .inl (c25, 12096, .inr (.inl (fun _ => 0)))), (q33, .inl (c33, 100, .inl (fun _ => 0))), (q41, .inl (c41, 100, .inl (fun _ => 0))), (q49, .inl (c49, 100, .inl (fun _ => 0)))] := hD
  have hK : va_K (dC, dI) cls [(c7, .long), (c16, .long), (c25, .long), (c33, .int), (c41, .int), (c49, .int)] s := hK
  refine va_putF (D := (dC, dI)) (ci := 4) (v := .ref q49) (ty := .array .int) (C := R_MA) (T := F_MA) (N := 18) hx hb hts i_MA t_MA t_MA_ok n_MA hown hK hP hD hS 0 rfl rfl 11 (by decide) (hts _ kF_MA_28) (fun _ h9 => h9) rfl hin rfl (by decide +kernel) rfl rfl (Nat.le_of_ble_eq_true rfl) d_MA_init_51 (fun H locs hP hD hS => ?_)
  have hP : va_P (dC, dI) cls [(h0, .inr (4, [.int 0, .int 0, .int 0, .ref q7, .null, .null, .ref q16, .ref q25, .int 0, .ref q33, .ref q41, .ref q49, .null, .int 0, .null, .null, .int 0, .int 0])), (q7, .inl (c7, 20, .inr (.inl (fun _ => 0)))), (q16, .inl (c16, 16384, .inr (.inl (fun _ => 0)))), (q25, .inl (c25, 12096, .inr (.inl (fun _ => 0)))), (q33, .inl (c33, 100, .inl (fun _ => 0))), (q41, .inl (c41, 100, .inl (fun _ => 0))), (q49, .inl (c49, 100, .inl (fun _ => 0)))] H := hP
  have hD : va_D A [(h0, .inr (4, [.int 0, .int 0, .int 0, .ref q7, .null, .null, .ref q16, .ref q25, .int 0, .ref q33, .ref q41, .ref q49, .null, .int 0, .null, .null, .int 0, .int 0])), (q7, .inl (c7, 20, .inr (.inl (fun _ => 0)))), (q16, .inl (c16, 16384, .inr (.inl (fun _ => 0)))), (q25, .inl (c25, 12096, .inr (.inl (fun _ => 0)))), (q33, .inl (c33, 100, .inl (fun _ => 0))), (q41, .inl (c41, 100, .inl (fun _ => 0))), (q49, .inl (c49, 100, .inl (fun _ => 0)))] := hD
  refine lv_aload_n hx hb d_MA_init_54 rfl (lv_at hl 0 rfl) ?_
  refine lv_bipush (v := 100) hx hb d_MA_init_55 (by decide) ?_
  refine va_newa (atype := .int) (ty := .int) (N' := 100) (a0 := (100, .inl (fun _ => 0))) hx hb (hts _ ka_int) rfl hK hP hD hS hA (fun _ => rfl) (by decide) (by decide) (by decide) (show _ ≤ 9 from Nat.le_of_ble_eq_true rfl) (show _ ≤ 48900 from Nat.le_of_ble_eq_true rfl) d_MA_init_57 (fun q57 c57 H hK hP hD hS => ?_)
  have hP : va_P (dC, dI) cls [(h0, .inr (4, [.int 0, .int 0, .int 0, .ref q7, .null, .null, .ref q16, .ref q25, .int 0, .ref q33, .ref q41, .ref q49, .null, .int 0, .null, .null, .int 0, .int 0])), (q7, .inl (c7, 20, .inr (.inl (fun _ => 0)))), (q16, .inl (c16, 16384, .inr (.inl (fun _ => 0)))), (q25, .inl (c25, 12096, .inr (.inl (fun _ => 0)))), (q33, .inl (c33, 100, .inl (fun _ => 0))), (q41, .inl (c41, 100, .inl (fun _ => 0))), (q49, .inl (c49, 100, .inl (fun _ => 0))), (q57, .inl (c57, 100, .inl (fun _ => 0)))] H := hP
  have hD : va_D A [(h0, .inr (4, [.int 0, .int 0, .int 0, .ref q7, .null, .null, .ref q16, .ref q25, .int 0, .ref q33, .ref q41, .ref q49, .null, .int 0, .null, .null, .int 0, .int 0])), (q7, .inl (c7, 20, .inr (.inl (fun _ => 0)))), (q16, .inl (c16, 16384, .inr (.inl (fun _ => 0)))), (q25, .inl (c25, 12096, .inr (.inl (fun _ => 0)))), (q33, .inl (c33, 100, .inl (fun _ => 0))), (q41, .inl (c41, 100, .inl (fun _ => 0))), (q49, .inl (c49, 100, .inl (fun _ => 0))), (q57, .inl (c57, 100, .inl (fun _ => 0)))] := hD
  have hK : va_K (dC, dI) cls [(c7, .long), (c16, .long), (c25, .long), (c33, .int), (c41, .int), (c49, .int), (c57, .int)] s := hK
  refine va_putF (D := (dC, dI)) (ci := 4) (v := .ref q57) (ty := .array .int) (C := R_MA) (T := F_MA) (N := 18) hx hb hts i_MA t_MA t_MA_ok n_MA hown hK hP hD hS 0 rfl rfl 12 (by decide) (hts _ kF_MA_31) (fun _ h9 => h9) rfl hin rfl (by decide +kernel) rfl rfl (Nat.le_of_ble_eq_true rfl) d_MA_init_59 (fun H locs hP hD hS => ?_)
  have hP : va_P (dC, dI) cls [(h0, .inr (4, [.int 0, .int 0, .int 0, .ref q7, .null, .null, .ref q16, .ref q25, .int 0, .ref q33, .ref q41, .ref q49, .ref q57, .int 0, .null, .null, .int 0, .int 0])), (q7, .inl (c7, 20, .inr (.inl (fun _ => 0)))), (q16, .inl (c16, 16384, .inr (.inl (fun _ => 0)))), (q25, .inl (c25, 12096, .inr (.inl (fun _ => 0)))), (q33, .inl (c33, 100, .inl (fun _ => 0))), (q41, .inl (c41, 100, .inl (fun _ => 0))), (q49, .inl (c49, 100, .inl (fun _ => 0))), (q57, .inl (c57, 100, .inl (fun _ => 0)))] H := hP
  have hD : va_D A [(h0, .inr (4, [.int 0, .int 0, .int 0, .ref q7, .null, .null, .ref q16, .ref q25, .int 0, .ref q33, .ref q41, .ref q49, .ref q57, .int 0, .null, .null, .int 0, .int 0])), (q7, .inl (c7, 20, .inr (.inl (fun _ => 0)))), (q16, .inl (c16, 16384, .inr (.inl (fun _ => 0)))), (q25, .inl (c25, 12096, .inr (.inl (fun _ => 0)))), (q33, .inl (c33, 100, .inl (fun _ => 0))), (q41, .inl (c41, 100, .inl (fun _ => 0))), (q49, .inl (c49, 100, .inl (fun _ => 0))), (q57, .inl (c57, 100, .inl (fun _ => 0)))] := hD
  refine lv_aload_n hx hb d_MA_init_62 rfl (lv_at hl 0 rfl) ?_
  refine lv_sipush (v := 10000) hx hb d_MA_init_63 (by decide) ?_
  refine va_newa (atype := .int) (ty := .int) (N' := 10000) (a0 := (10000, .inl (fun _ => 0))) hx hb (hts _ ka_int) rfl hK hP hD hS hA (fun _ => rfl) (by decide) (by decide) (by decide) (show _ ≤ 9 from Nat.le_of_ble_eq_true rfl) (show _ ≤ 48900 from Nat.le_of_ble_eq_true rfl) d_MA_init_66 (fun q66 c66 H hK hP hD hS => ?_)
  have hP : va_P (dC, dI) cls [(h0, .inr (4, [.int 0, .int 0, .int 0, .ref q7, .null, .null, .ref q16, .ref q25, .int 0, .ref q33, .ref q41, .ref q49, .ref q57, .int 0, .null, .null, .int 0, .int 0])), (q7, .inl (c7, 20, .inr (.inl (fun _ => 0)))), (q16, .inl (c16, 16384, .inr (.inl (fun _ => 0)))), (q25, .inl (c25, 12096, .inr (.inl (fun _ => 0)))), (q33, .inl (c33, 100, .inl (fun _ => 0))), (q41, .inl (c41, 100, .inl (fun _ => 0))), (q49, .inl (c49, 100, .inl (fun _ => 0))), (q57, .inl (c57, 100, .inl (fun _ => 0))), (q66, .inl (c66, 10000, .inl (fun _ => 0)))] H := hP
  have hD : va_D A [(h0, .inr (4, [.int 0, .int 0, .int 0, .ref q7, .null, .null, .ref q16, .ref q25, .int 0, .ref q33, .ref q41, .ref q49, .ref q57, .int 0, .null, .null, .int 0, .int 0])), (q7, .inl (c7, 20, .inr (.inl (fun _ => 0)))), (q16, .inl (c16, 16384, .inr (.inl (fun _ => 0)))), (q25, .inl (c25, 12096, .inr (.inl (fun _ => 0)))), (q33, .inl (c33, 100, .inl (fun _ => 0))), (q41, .inl (c41, 100, .inl (fun _ => 0))), (q49, .inl (c49, 100, .inl (fun _ => 0))), (q57, .inl (c57, 100, .inl (fun _ => 0))), (q66, .inl (c66, 10000, .inl (fun _ => 0)))] := hD
  have hK : va_K (dC, dI) cls [(c7, .long), (c16, .long), (c25, .long), (c33, .int), (c41, .int), (c49, .int), (c57, .int), (c66, .int)] s := hK
  refine va_putF (D := (dC, dI)) (ci := 4) (v := .ref q66) (ty := .array .int) (C := R_MA) (T := F_MA) (N := 18) hx hb hts i_MA t_MA t_MA_ok n_MA hown hK hP hD hS 0 rfl rfl 14 (by decide) (hts _ kF_MA_34) (fun _ h9 => h9) rfl hin rfl (by decide +kernel) rfl rfl (Nat.le_of_ble_eq_true rfl) d_MA_init_68 (fun H locs hP hD hS => ?_)
  have hP : va_P (dC, dI) cls [(h0, .inr (4, [.int 0, .int 0, .int 0, .ref q7, .null, .null, .ref q16, .ref q25, .int 0, .ref q33, .ref q41, .ref q49, .ref q57, .int 0, .ref q66, .null, .int 0, .int 0])), (q7, .inl (c7, 20, .inr (.inl (fun _ => 0)))), (q16, .inl (c16, 16384, .inr (.inl (fun _ => 0)))), (q25, .inl (c25, 12096, .inr (.inl (fun _ => 0)))), (q33, .inl (c33, 100, .inl (fun _ => 0))), (q41, .inl (c41, 100, .inl (fun _ => 0))), (q49, .inl (c49, 100, .inl (fun _ => 0))), (q57, .inl (c57, 100, .inl (fun _ => 0))), (q66, .inl (c66, 10000, .inl (fun _ => 0)))] H := hP
  have hD : va_D A [(h0, .inr (4, [.int 0, .int 0, .int 0, .ref q7, .null, .null, .ref q16, .ref q25, .int 0, .ref q33, .ref q41, .ref q49, .ref q57, .int 0, .ref q66, .null, .int 0, .int 0])), (q7, .inl (c7, 20, .inr (.inl (fun _ => 0)))), (q16, .inl (c16, 16384, .inr (.inl (fun _ => 0)))), (q25, .inl (c25, 12096, .inr (.inl (fun _ => 0)))), (q33, .inl (c33, 100, .inl (fun _ => 0))), (q41, .inl (c41, 100, .inl (fun _ => 0))), (q49, .inl (c49, 100, .inl (fun _ => 0))), (q57, .inl (c57, 100, .inl (fun _ => 0))), (q66, .inl (c66, 10000, .inl (fun _ => 0)))] := hD
  refine lv_aload_n hx hb d_MA_init_71 rfl (lv_at hl 0 rfl) ?_
  refine lv_sipush (v := 10000) hx hb d_MA_init_72 (by decide) ?_
  refine va_newa (atype := .int) (ty := .int) (N' := 10000) (a0 := (10000, .inl (fun _ => 0))) hx hb (hts _ ka_int) rfl hK hP hD hS hA (fun _ => rfl) (by decide) (by decide) (by decide) (show _ ≤ 9 from Nat.le_of_ble_eq_true rfl) (show _ ≤ 48900 from Nat.le_of_ble_eq_true rfl) d_MA_init_75 (fun q75 c75 H hK hP hD hS => ?_)
  have hP : va_P (dC, dI) cls [(h0, .inr (4, [.int 0, .int 0, .int 0, .ref q7, .null, .null, .ref q16, .ref q25, .int 0, .ref q33, .ref q41, .ref q49, .ref q57, .int 0, .ref q66, .null, .int 0, .int 0])), (q7, .inl (c7, 20, .inr (.inl (fun _ => 0)))), (q16, .inl (c16, 16384, .inr (.inl (fun _ => 0)))), (q25, .inl (c25, 12096, .inr (.inl (fun _ => 0)))), (q33, .inl (c33, 100, .inl (fun _ => 0))), (q41, .inl (c41, 100, .inl (fun _ => 0))), (q49, .inl (c49, 100, .inl (fun _ => 0))), (q57, .inl (c57, 100, .inl (fun _ => 0))), (q66, .inl (c66, 10000, .inl (fun _ => 0))), (q75, .inl (c75, 10000, .inl (fun _ => 0)))] H := hP
  have hD : va_D A [(h0, .inr (4, [.int 0, .int 0, .int 0, .ref q7, .null, .null, .ref q16, .ref q25, .int 0, .ref q33, .ref q41, .ref q49, .ref q57, .int 0, .ref q66, .null, .int 0, .int 0])), (q7, .inl (c7, 20, .inr (.inl (fun _ => 0)))), (q16, .inl (c16, 16384, .inr (.inl (fun _ => 0)))), (q25, .inl (c25, 12096, .inr (.inl (fun _ => 0)))), (q33, .inl (c33, 100, .inl (fun _ => 0))), (q41, .inl (c41, 100, .inl (fun _ => 0))), (q49, .inl (c49, 100, .inl (fun _ => 0))), (q57, .inl (c57, 100, .inl (fun _ => 0))), (q66, .inl (c66, 10000, .inl (fun _ => 0))), (q75, .inl (c75, 10000, .inl (fun _ => 0)))] := hD
  have hK : va_K (dC, dI) cls [(c7, .long), (c16, .long), (c25, .long), (c33, .int), (c41, .int), (c49, .int), (c57, .int), (c66, .int), (c75, .int)] s := hK
  refine va_putF (D := (dC, dI)) (ci := 4) (v := .ref q75) (ty := .array .int) (C := R_MA) (T := F_MA) (N := 18) hx hb hts i_MA t_MA t_MA_ok n_MA hown hK hP hD hS 0 rfl rfl 15 (by decide) (hts _ kF_MA_37) (fun _ h9 => h9) rfl hin rfl (by decide +kernel) rfl rfl (Nat.le_of_ble_eq_true rfl) d_MA_init_77 (fun H locs hP hD hS => ?_)
  have hP : va_P (dC, dI) cls (wz_283 h0 0 0 0 q7 q16 q25 0 q33 q41 q49 q57 0 q66 q75 0 0 q7 c7 (fun _ => 0) q16 c16 (fun _ => 0) q25 c25 (fun _ => 0) q33 c33 (fun _ => 0) q41 c41 (fun _ => 0) q49 c49 (fun _ => 0) q57 c57 (fun _ => 0) q66 c66 (fun _ => 0) q75 c75 (fun _ => 0)) H := hP
  have hD : va_D A (wz_283 h0 0 0 0 q7 q16 q25 0 q33 q41 q49 q57 0 q66 q75 0 0 q7 c7 (fun _ => 0) q16 c16 (fun _ => 0) q25 c25 (fun _ => 0) q33 c33 (fun _ => 0) q41 c41 (fun _ => 0) q49 c49 (fun _ => 0) q57 c57 (fun _ => 0) q66 c66 (fun _ => 0) q75 c75 (fun _ => 0)) := hD
  refine W.widen (k := 9) (n := 48900) (Nat.le_of_ble_eq_true rfl) (Nat.le_of_ble_eq_true rfl) ?_
  exact W.vret hx hb hr (fun t ht hW => ⟨⟨(), rfl, trivial, q7, q16, q25, q33, q41, q49, q57, q66, q75, c7, c16, c25, c33, c41, c49, c57, c66, c75, va_P.he ht.symm hP, va_K.moved hW.alike hK, hD⟩, hS.F ht⟩) hS.2.2 d_MA_init_80

/-! the reference: the constructor of Refused -/
def R_TH : String := "java/lang/Throwable"
theorem kI_TH : Cond.initialized R_TH ∈ lw_g := in_c1 15 rfl rfl
def R_EX : String := "java/lang/Exception"
theorem kI_EX : Cond.initialized R_EX ∈ lw_g := in_c1 16 rfl rfl
def R_RT : String := "java/lang/RuntimeException"
theorem kI_RT : Cond.initialized R_RT ∈ lw_g := in_c1 17 rfl rfl
abbrev b_TH_init2 : ByteArray := prog_38_method_5_code
def y_TH_init2 : MethodName := ⟨R_TH, "<init>", "(Ljava/lang/String;Ljava/lang/Throwable;ZZ)V"⟩
abbrev w_TH_init2 : List Cond := .code y_TH_init2 b_TH_init2 5 none :: lw_g
theorem kC_TH_init2 : Cond.code y_TH_init2 b_TH_init2 5 none ∈ lw_g := in_c8 83 rfl rfl
theorem d_TH_init2_0 : decode b_TH_init2 0 = .ok (.aload_n 0, 1) := bz_c42 (by decide +kernel)
theorem d_TH_init2_1 : decode b_TH_init2 1 = .ok (.invokespecial 1, 3) := bz_c183 (by decide +kernel)
theorem d_TH_init2_4 : decode b_TH_init2 4 = .ok (.aload_n 0, 1) := bz_c42 (by decide +kernel)
theorem d_TH_init2_5 : decode b_TH_init2 5 = .ok (.aload_n 0, 1) := bz_c42 (by decide +kernel)
theorem d_TH_init2_6 : decode b_TH_init2 6 = .ok (.putfield 7, 3) := bz_c181 (by decide +kernel)
theorem d_TH_init2_9 : decode b_TH_init2 9 = .ok (.aload_n 0, 1) := bz_c42 (by decide +kernel)
theorem d_TH_init2_10 : decode b_TH_init2 10 = .ok (.getstatic 13, 3) := bz_c178 (by decide +kernel)
theorem d_TH_init2_13 : decode b_TH_init2 13 = .ok (.putfield 17, 3) := bz_c181 (by decide +kernel)
theorem d_TH_init2_16 : decode b_TH_init2 16 = .ok (.aload_n 0, 1) := bz_c42 (by decide +kernel)
theorem d_TH_init2_17 : decode b_TH_init2 17 = .ok (.getstatic 20, 3) := bz_c178 (by decide +kernel)
theorem d_TH_init2_20 : decode b_TH_init2 20 = .ok (.putfield 24, 3) := bz_c181 (by decide +kernel)
theorem d_TH_init2_23 : decode b_TH_init2 23 = .ok (.iload 4, 2) := bz_c21 (by decide +kernel)
theorem d_TH_init2_25 : decode b_TH_init2 25 = .ok (.ifCond .eq 11, 3) := bz_c153 (by decide +kernel)
theorem d_TH_init2_28 : decode b_TH_init2 28 = .ok (.aload_n 0, 1) := bz_c42 (by decide +kernel)
theorem d_TH_init2_29 : decode b_TH_init2 29 = .ok (.invokevirtual 27, 3) := bz_c182 (by decide +kernel)
theorem d_TH_init2_32 : decode b_TH_init2 32 = .ok (.pop, 1) := bz_c87 (by decide +kernel)
theorem d_TH_init2_33 : decode b_TH_init2 33 = .ok (.goto 8, 3) := bz_c167 (by decide +kernel)
theorem d_TH_init2_36 : decode b_TH_init2 36 = .ok (.aload_n 0, 1) := bz_c42 (by decide +kernel)
theorem d_TH_init2_37 : decode b_TH_init2 37 = .ok (.aconst_null, 1) := bz_c1 (by decide +kernel)
theorem d_TH_init2_38 : decode b_TH_init2 38 = .ok (.putfield 17, 3) := bz_c181 (by decide +kernel)
theorem d_TH_init2_41 : decode b_TH_init2 41 = .ok (.aload_n 0, 1) := bz_c42 (by decide +kernel)
theorem d_TH_init2_42 : decode b_TH_init2 42 = .ok (.aload_n 1, 1) := bz_c43 (by decide +kernel)
theorem d_TH_init2_43 : decode b_TH_init2 43 = .ok (.putfield 31, 3) := bz_c181 (by decide +kernel)
theorem d_TH_init2_46 : decode b_TH_init2 46 = .ok (.aload_n 0, 1) := bz_c42 (by decide +kernel)
theorem d_TH_init2_47 : decode b_TH_init2 47 = .ok (.aload_n 2, 1) := bz_c44 (by decide +kernel)
theorem d_TH_init2_48 : decode b_TH_init2 48 = .ok (.putfield 7, 3) := bz_c181 (by decide +kernel)
theorem d_TH_init2_51 : decode b_TH_init2 51 = .ok (.iload_n 3, 1) := bz_c29 (by decide +kernel)
theorem d_TH_init2_52 : decode b_TH_init2 52 = .ok (.ifCond .ne 8, 3) := bz_c154 (by decide +kernel)
theorem d_TH_init2_55 : decode b_TH_init2 55 = .ok (.aload_n 0, 1) := bz_c42 (by decide +kernel)
theorem d_TH_init2_56 : decode b_TH_init2 56 = .ok (.aconst_null, 1) := bz_c1 (by decide +kernel)
theorem d_TH_init2_57 : decode b_TH_init2 57 = .ok (.putfield 24, 3) := bz_c181 (by decide +kernel)
theorem d_TH_init2_60 : decode b_TH_init2 60 = .ok (.return_, 1) := bz_c177 (by decide +kernel)
theorem kM_TH_1 : Cond.methodLink R_TH 1 Lib.objectInit ∈ lw_g := in_c3 204 rfl rfl
theorem kF_TH_7 : Cond.fieldLink R_TH 7 "java/lang/Throwable" "cause" "Ljava/lang/Throwable;" ∈ lw_g := in_c3 235 rfl rfl
theorem kF_TH_13 : Cond.fieldLink R_TH 13 "java/lang/Throwable" "UNASSIGNED_STACK" "[Ljava/lang/StackTraceElement;" ∈ lw_g := in_c3 205 rfl rfl
theorem kF_TH_17 : Cond.fieldLink R_TH 17 "java/lang/Throwable" "stackTrace" "[Ljava/lang/StackTraceElement;" ∈ lw_g := in_c3 236 rfl rfl
theorem kF_TH_20 : Cond.fieldLink R_TH 20 "java/lang/Throwable" "SUPPRESSED_SENTINEL" "Ljava/util/List;" ∈ lw_g := in_c3 207 rfl rfl
theorem kF_TH_24 : Cond.fieldLink R_TH 24 "java/lang/Throwable" "suppressedExceptions" "Ljava/util/List;" ∈ lw_g := in_c3 237 rfl rfl
theorem kF_TH_31 : Cond.fieldLink R_TH 31 "java/lang/Throwable" "detailMessage" "Ljava/lang/String;" ∈ lw_g := in_c3 234 rfl rfl
set_option maxHeartbeats 4000000 in
set_option maxRecDepth 100000 in
theorem c_TH_init2 (l : Launch) (dC : Nat → ClassId) (dI : Nat → Nat → Nat) (sz : Nat) (sa : Nat → Nat) (h0  : Nat)   : Met l y_TH_init2 w_TH_init2 ({ frames := 1, cells := 0, slots := 0, locals := 20 }) (va_Pc [.ref h0, .null, .null, .int 0, .int 0] (fun U => U.heap.size = sz ∧ va_P (dC, dI) cls2 [(h0, .inr (15, [.null, .null, .null, .null, .int 0, .null, .int 0, .int 0]))] U.heap ∧ va_K (dC, dI) cls2 [] U ∧ va_D (fun _ => True) [(h0, .inr (15, [.null, .null, .null, .null, .int 0, .null, .int 0, .int 0]))] ∧ sm sa (va_A [(h0, .inr (15, [.null, .null, .null, .null, .int 0, .null, .int 0, .int 0]))] sz) U U.heap)) (va_Qv (fun (_ : Unit) => True) (fun (_ : Unit) (t : State) => va_P (dC, dI) cls2 [(h0, .inr (15, [.null, .null, .null, .null, .int 0, .null, .int 0, .int 0]))] t.heap ∧ va_K (dC, dI) cls2 [] t ∧ va_D (va_A [(h0, .inr (15, [.null, .null, .null, .null, .int 0, .null, .int 0, .int 0]))] sz) [(h0, .inr (15, [.null, .null, .null, .null, .int 0, .null, .int 0, .int 0]))]) (va_A [(h0, .inr (15, [.null, .null, .null, .null, .int 0, .null, .int 0, .int 0]))] sz)) 0 0 (va_A [(h0, .inr (15, [.null, .null, .null, .null, .int 0, .null, .int 0, .int 0]))] sz) := by
  refine Met.ofW (cc := b_TH_init2) (maxL := 5) (ret := none) (by decide) rfl ?_
  intro p e s m args below meth c s₁ B hml hv
  obtain ⟨rfl, hsz, hP, hK, hD0, hSW⟩ := hv
  have hx := B.exec
  have hb := B.bytes
  have hr := B.returns
  have hts0 := atoms_spec (ws := w_TH_init2) B.pre
  have hts : ∀ w ∈ lw_g, w.before _ s = true := fun w h => hts0 w (List.mem_cons_of_mem _ h)
  have hown : s.vm.findClass R_TH = some m.cls := findClass_of_methodNamed B.named
  have hlocks := B.notSynchronized
  clear hts0
  subst hsz
  have hD := hD0.self (sz := s.heap.size)
  generalize hAe : va_A [(h0, .inr (15, [.null, .null, .null, .null, .int 0, .null, .int 0, .int 0]))] s.heap.size = A at hD hSW ⊢
  have hA : ∀ q : Nat, s.heap.size ≤ q → A q := fun q h => by rw [← hAe]; exact Or.inr h
  clear hAe
  have hP : va_P (dC, dI) cls2 [(h0, .inr (15, [.null, .null, .null, .null, .int 0, .null, .int 0, .int 0]))] s.heap := hP
  have hl := lv_entry ([.ref h0, .null, .null, .int 0, .int 0]) (n := 5) (Nat.le_of_ble_eq_true rfl)
  rw [lg_entry_eq]
  generalize (lg_sl ([.ref h0, .null, .null, .int 0, .int 0]) ++ List.replicate (5 - (lg_sl ([.ref h0, .null, .null, .int 0, .int 0])).length) Slot.unset).toArray = ls at hl ⊢
  have hl : lv_has ls 5 [(0, .ref h0), (1, .null), (2, .null), (3, .int 0), (4, .int 0)] := hl
  have k0 : (0 : Int32).toInt = 0 := by decide
  refine w_gen (A := A) hP (fun H locs hP hS => ?_)
  have lo_0 := i32_lo 0
  have hi_0 := i32_hi 0
  have lo_0 := i32_lo 0
  have hi_0 := i32_hi 0
  have hin : meth.name = "<init>" := (name_of_methodNamed B.named B.method).1
  refine lv_aload_n hx hb d_TH_init2_0 rfl (lv_at hl 0 rfl) ?_
  refine W.objInit hx hb hown (hts _ kM_TH_1) (hts _ kV_oi) (hts _ kC_oi) rfl (by rw [hml]; exact hl.1) rfl d_TH_init2_1 (Nat.le_of_ble_eq_true rfl) (Nat.le_of_ble_eq_true rfl) ?_
  refine W.eq (g2 := F0 m 4 ls []) rfl ?_
  refine lv_aload_n hx hb d_TH_init2_4 rfl (lv_at hl 0 rfl) ?_
  refine lv_aload_n hx hb d_TH_init2_5 rfl (lv_at hl 0 rfl) ?_
  refine va_put (D := (dC, dI)) (ci := 15) (v := .ref h0) (ty := .object "java/lang/Throwable") (C := R_MR) (T := F_MR) (N := 8) hx hb hts i_MR t_MR t_MR_ok n_MR hown hK hP hD hS 0 rfl rfl 2 (by decide) (hts _ kF_TH_7) (fun _ h9 => h9) rfl (by decide +kernel) rfl rfl (Nat.le_of_ble_eq_true rfl) d_TH_init2_6 (fun H locs hP hD hS => ?_)
  have hP : va_P (dC, dI) cls2 [(h0, .inr (15, [.null, .null, .ref h0, .null, .int 0, .null, .int 0, .int 0]))] H := hP
  have hD : va_D A [(h0, .inr (15, [.null, .null, .ref h0, .null, .int 0, .null, .int 0, .int 0]))] := hD
  refine lv_aload_n hx hb d_TH_init2_9 rfl (lv_at hl 0 rfl) ?_
  obtain ⟨v10, hv10, z10⟩ : ∃ v, (v = Value.null ∨ ∃ t, v = Value.ref t) ∧ va_Z "java/lang/Throwable" "UNASSIGNED_STACK" "[Ljava/lang/StackTraceElement;" v A s s.heap := (by rcases hSW.1.2.2.2.2.2.2.1 with h | ⟨t, h⟩; exact ⟨_, Or.inl rfl, h⟩; exact ⟨_, Or.inr ⟨t, rfl⟩, h⟩)
  refine va_gets (C := "java/lang/Throwable") (n := "UNASSIGNED_STACK") (d := "[Ljava/lang/StackTraceElement;") (v := v10) hx hb z10 hS hown (hts _ kF_TH_13) (fun _ h9 => h9) d_TH_init2_10 ?_
  refine va_put (D := (dC, dI)) (ci := 15) (v := v10) (ty := .array (.object "java/lang/StackTraceElement")) (C := R_MR) (T := F_MR) (N := 8) hx hb hts i_MR t_MR t_MR_ok n_MR hown hK hP hD hS 0 rfl rfl 3 (by decide) (hts _ kF_TH_17) (fun _ h9 => h9) rfl (by decide +kernel) (by rcases hv10 with rfl | ⟨t, rfl⟩ <;> rfl) (by rcases hv10 with rfl | ⟨t, rfl⟩ <;> rfl) (Nat.le_of_ble_eq_true rfl) d_TH_init2_13 (fun H locs hP hD hS => ?_)
  have hP : va_P (dC, dI) cls2 [(h0, .inr (15, [.null, .null, .ref h0, v10, .int 0, .null, .int 0, .int 0]))] H := hP
  have hD : va_D A [(h0, .inr (15, [.null, .null, .ref h0, v10, .int 0, .null, .int 0, .int 0]))] := hD
  refine lv_aload_n hx hb d_TH_init2_16 rfl (lv_at hl 0 rfl) ?_
  obtain ⟨v17, hv17, z17⟩ : ∃ v, (v = Value.null ∨ ∃ t, v = Value.ref t) ∧ va_Z "java/lang/Throwable" "SUPPRESSED_SENTINEL" "Ljava/util/List;" v A s s.heap := (by rcases hSW.1.2.2.2.2.2.2.2.1 with h | ⟨t, h⟩; exact ⟨_, Or.inl rfl, h⟩; exact ⟨_, Or.inr ⟨t, rfl⟩, h⟩)
  refine va_gets (C := "java/lang/Throwable") (n := "SUPPRESSED_SENTINEL") (d := "Ljava/util/List;") (v := v17) hx hb z17 hS hown (hts _ kF_TH_20) (fun _ h9 => h9) d_TH_init2_17 ?_
  refine va_put (D := (dC, dI)) (ci := 15) (v := v17) (ty := .object "java/util/List") (C := R_MR) (T := F_MR) (N := 8) hx hb hts i_MR t_MR t_MR_ok n_MR hown hK hP hD hS 0 rfl rfl 5 (by decide) (hts _ kF_TH_24) (fun _ h9 => h9) rfl (by decide +kernel) (by rcases hv17 with rfl | ⟨t, rfl⟩ <;> rfl) (by rcases hv17 with rfl | ⟨t, rfl⟩ <;> rfl) (Nat.le_of_ble_eq_true rfl) d_TH_init2_20 (fun H locs hP hD hS => ?_)
  have hP : va_P (dC, dI) cls2 [(h0, .inr (15, [.null, .null, .ref h0, v10, .int 0, v17, .int 0, .int 0]))] H := hP
  have hD : va_D A [(h0, .inr (15, [.null, .null, .ref h0, v10, .int 0, v17, .int 0, .int 0]))] := hD
  refine lv_iload hx hb d_TH_init2_23 (lv_at hl 4 rfl) ?_
  refine lv_if_eq (tgt := 36) hx hb d_TH_init2_25 (by decide) (fun h => ?_) (fun h => absurd h (by decide))
  refine lv_aload_n hx hb d_TH_init2_36 rfl (lv_at hl 0 rfl) ?_
  refine lv_null hx hb d_TH_init2_37 ?_
  refine va_put (D := (dC, dI)) (ci := 15) (v := .null) (ty := .array (.object "java/lang/StackTraceElement")) (C := R_MR) (T := F_MR) (N := 8) hx hb hts i_MR t_MR t_MR_ok n_MR hown hK hP hD hS 0 rfl rfl 3 (by decide) (hts _ kF_TH_17) (fun _ h9 => h9) rfl (by decide +kernel) rfl rfl (Nat.le_of_ble_eq_true rfl) d_TH_init2_38 (fun H locs hP hD hS => ?_)
  have hP : va_P (dC, dI) cls2 [(h0, .inr (15, [.null, .null, .ref h0, .null, .int 0, v17, .int 0, .int 0]))] H := hP
  have hD : va_D A [(h0, .inr (15, [.null, .null, .ref h0, .null, .int 0, v17, .int 0, .int 0]))] := hD
  refine lv_aload_n hx hb d_TH_init2_41 rfl (lv_at hl 0 rfl) ?_
  refine lv_aload_nN hx hb d_TH_init2_42 rfl (lv_at hl 1 rfl) ?_
  refine va_put (D := (dC, dI)) (ci := 15) (v := .null) (ty := .object "java/lang/String") (C := R_MR) (T := F_MR) (N := 8) hx hb hts i_MR t_MR t_MR_ok n_MR hown hK hP hD hS 0 rfl rfl 1 (by decide) (hts _ kF_TH_31) (fun _ h9 => h9) rfl (by decide +kernel) rfl rfl (Nat.le_of_ble_eq_true rfl) d_TH_init2_43 (fun H locs hP hD hS => ?_)
  have hP : va_P (dC, dI) cls2 [(h0, .inr (15, [.null, .null, .ref h0, .null, .int 0, v17, .int 0, .int 0]))] H := hP
  have hD : va_D A [(h0, .inr (15, [.null, .null, .ref h0, .null, .int 0, v17, .int 0, .int 0]))] := hD
  refine lv_aload_n hx hb d_TH_init2_46 rfl (lv_at hl 0 rfl) ?_
  refine lv_aload_nN hx hb d_TH_init2_47 rfl (lv_at hl 2 rfl) ?_
  refine va_put (D := (dC, dI)) (ci := 15) (v := .null) (ty := .object "java/lang/Throwable") (C := R_MR) (T := F_MR) (N := 8) hx hb hts i_MR t_MR t_MR_ok n_MR hown hK hP hD hS 0 rfl rfl 2 (by decide) (hts _ kF_TH_7) (fun _ h9 => h9) rfl (by decide +kernel) rfl rfl (Nat.le_of_ble_eq_true rfl) d_TH_init2_48 (fun H locs hP hD hS => ?_)
  have hP : va_P (dC, dI) cls2 [(h0, .inr (15, [.null, .null, .null, .null, .int 0, v17, .int 0, .int 0]))] H := hP
  have hD : va_D A [(h0, .inr (15, [.null, .null, .null, .null, .int 0, v17, .int 0, .int 0]))] := hD
  refine lv_iload_n hx hb d_TH_init2_51 rfl (lv_at hl 3 rfl) ?_
  refine lv_if_ne (tgt := 60) hx hb d_TH_init2_52 (by decide) (fun h => absurd h (by decide)) (fun h => ?_)
  refine lv_aload_n hx hb d_TH_init2_55 rfl (lv_at hl 0 rfl) ?_
  refine lv_null hx hb d_TH_init2_56 ?_
  refine va_put (D := (dC, dI)) (ci := 15) (v := .null) (ty := .object "java/util/List") (C := R_MR) (T := F_MR) (N := 8) hx hb hts i_MR t_MR t_MR_ok n_MR hown hK hP hD hS 0 rfl rfl 5 (by decide) (hts _ kF_TH_24) (fun _ h9 => h9) rfl (by decide +kernel) rfl rfl (Nat.le_of_ble_eq_true rfl) d_TH_init2_57 (fun H locs hP hD hS => ?_)
  have hP : va_P (dC, dI) cls2 [(h0, .inr (15, [.null, .null, .null, .null, .int 0, .null, .int 0, .int 0]))] H := hP
  have hD : va_D A [(h0, .inr (15, [.null, .null, .null, .null, .int 0, .null, .int 0, .int 0]))] := hD
  refine W.widen (k := 0) (n := 0) (Nat.le_of_ble_eq_true rfl) (Nat.le_of_ble_eq_true rfl) ?_
  exact W.vret hx hb hr (fun t ht hW => ⟨⟨(), rfl, trivial, va_P.he ht.symm hP, va_K.moved hW.alike hK, hD⟩, hS.F ht⟩) hS.2.2 d_TH_init2_60
abbrev b_EX_init2 : ByteArray := prog_25_method_5_code
def y_EX_init2 : MethodName := ⟨R_EX, "<init>", "(Ljava/lang/String;Ljava/lang/Throwable;ZZ)V"⟩
abbrev w_EX_init2 : List Cond := .code y_EX_init2 b_EX_init2 5 none :: lw_g
theorem kC_EX_init2 : Cond.code y_EX_init2 b_EX_init2 5 none ∈ lw_g := in_c8 80 rfl rfl
theorem d_EX_init2_0 : decode b_EX_init2 0 = .ok (.aload_n 0, 1) := bz_c42 (by decide +kernel)
theorem d_EX_init2_1 : decode b_EX_init2 1 = .ok (.aload_n 1, 1) := bz_c43 (by decide +kernel)
theorem d_EX_init2_2 : decode b_EX_init2 2 = .ok (.aload_n 2, 1) := bz_c44 (by decide +kernel)
theorem d_EX_init2_3 : decode b_EX_init2 3 = .ok (.iload_n 3, 1) := bz_c29 (by decide +kernel)
theorem d_EX_init2_4 : decode b_EX_init2 4 = .ok (.iload 4, 2) := bz_c21 (by decide +kernel)
theorem d_EX_init2_6 : decode b_EX_init2 6 = .ok (.invokespecial 16, 3) := bz_c183 (by decide +kernel)
theorem d_EX_init2_9 : decode b_EX_init2 9 = .ok (.return_, 1) := bz_c177 (by decide +kernel)
theorem kV_TH_init2 : Cond.instanceMethod y_TH_init2 ∈ lw_g := in_c8 82 rfl rfl
theorem kM_EX_16 : Cond.methodLink R_EX 16 y_TH_init2 ∈ lw_g := in_c8 81 rfl rfl
set_option maxHeartbeats 4000000 in
set_option maxRecDepth 100000 in
theorem c_EX_init2 (l : Launch) (dC : Nat → ClassId) (dI : Nat → Nat → Nat) (sz : Nat) (sa : Nat → Nat) (h0  : Nat)   : Met l y_EX_init2 w_EX_init2 ({ frames := 2, cells := 0, slots := 0, locals := 44 }) (va_Pc [.ref h0, .null, .null, .int 0, .int 0] (fun U => U.heap.size = sz ∧ va_P (dC, dI) cls2 [(h0, .inr (15, [.null, .null, .null, .null, .int 0, .null, .int 0, .int 0]))] U.heap ∧ va_K (dC, dI) cls2 [] U ∧ va_D (fun _ => True) [(h0, .inr (15, [.null, .null, .null, .null, .int 0, .null, .int 0, .int 0]))] ∧ sm sa (va_A [(h0, .inr (15, [.null, .null, .null, .null, .int 0, .null, .int 0, .int 0]))] sz) U U.heap)) (va_Qv (fun (_ : Unit) => True) (fun (_ : Unit) (t : State) => va_P (dC, dI) cls2 [(h0, .inr (15, [.null, .null, .null, .null, .int 0, .null, .int 0, .int 0]))] t.heap ∧ va_K (dC, dI) cls2 [] t ∧ va_D (va_A [(h0, .inr (15, [.null, .null, .null, .null, .int 0, .null, .int 0, .int 0]))] sz) [(h0, .inr (15, [.null, .null, .null, .null, .int 0, .null, .int 0, .int 0]))]) (va_A [(h0, .inr (15, [.null, .null, .null, .null, .int 0, .null, .int 0, .int 0]))] sz)) 0 0 (va_A [(h0, .inr (15, [.null, .null, .null, .null, .int 0, .null, .int 0, .int 0]))] sz) := by
  refine Met.ofW (cc := b_EX_init2) (maxL := 5) (ret := none) (by decide) rfl ?_
  intro p e s m args below meth c s₁ B hml hv
  obtain ⟨rfl, hsz, hP, hK, hD0, hSW⟩ := hv
  have hx := B.exec
  have hb := B.bytes
  have hr := B.returns
  have hts0 := atoms_spec (ws := w_EX_init2) B.pre
  have hts : ∀ w ∈ lw_g, w.before _ s = true := fun w h => hts0 w (List.mem_cons_of_mem _ h)
  have hown : s.vm.findClass R_EX = some m.cls := findClass_of_methodNamed B.named
  have hlocks := B.notSynchronized
  clear hts0
  subst hsz
  have hD := hD0.self (sz := s.heap.size)
  generalize hAe : va_A [(h0, .inr (15, [.null, .null, .null, .null, .int 0, .null, .int 0, .int 0]))] s.heap.size = A at hD hSW ⊢
  have hA : ∀ q : Nat, s.heap.size ≤ q → A q := fun q h => by rw [← hAe]; exact Or.inr h
  clear hAe
  have hP : va_P (dC, dI) cls2 [(h0, .inr (15, [.null, .null, .null, .null, .int 0, .null, .int 0, .int 0]))] s.heap := hP
  have hl := lv_entry ([.ref h0, .null, .null, .int 0, .int 0]) (n := 5) (Nat.le_of_ble_eq_true rfl)
  rw [lg_entry_eq]
  generalize (lg_sl ([.ref h0, .null, .null, .int 0, .int 0]) ++ List.replicate (5 - (lg_sl ([.ref h0, .null, .null, .int 0, .int 0])).length) Slot.unset).toArray = ls at hl ⊢
  have hl : lv_has ls 5 [(0, .ref h0), (1, .null), (2, .null), (3, .int 0), (4, .int 0)] := hl
  have k0 : (0 : Int32).toInt = 0 := by decide
  refine w_gen (A := A) hP (fun H locs hP hS => ?_)
  have lo_0 := i32_lo 0
  have hi_0 := i32_hi 0
  have lo_0 := i32_lo 0
  have hi_0 := i32_hi 0
  have hin : meth.name = "<init>" := (name_of_methodNamed B.named B.method).1
  refine lv_aload_n hx hb d_EX_init2_0 rfl (lv_at hl 0 rfl) ?_
  refine lv_aload_nN hx hb d_EX_init2_1 rfl (lv_at hl 1 rfl) ?_
  refine lv_aload_nN hx hb d_EX_init2_2 rfl (lv_at hl 2 rfl) ?_
  refine lv_iload_n hx hb d_EX_init2_3 rfl (lv_at hl 3 rfl) ?_
  refine lv_iload hx hb d_EX_init2_4 (lv_at hl 4 rfl) ?_
  have hPc := hP.sb (wq := [(h0, .inr (15, [.null, .null, .null, .null, .int 0, .null, .int 0, .int 0]))]) [0] rfl
  have hDc := hD.sb (wq := [(h0, .inr (15, [.null, .null, .null, .null, .int 0, .null, .int 0, .int 0]))]) [0] (by decide) rfl
  have hKc := hK.sb (tyq := []) [] rfl
  have hFc := va_free (wc := [(h0, .inr (15, [.null, .null, .null, .null, .int 0, .null, .int 0, .int 0]))]) hD hS hA [0] rfl
  refine va_callv (va_runI (As := [.null, .null, .int 0, .int 0]) (rest := []) ⟨hx, hb, hml, hown, hts⟩ (c_TH_init2 l dC dI H.size sa h0 ) ⟨callB_of 4 hts (gW kC_TH_init2) rfl rfl rfl (hts _ kI_TH) (hts _ kM_EX_16) (by decide +kernel) ⟨Nat.le_of_ble_eq_true rfl, Nat.le_of_ble_eq_true rfl⟩, rfl, hts _ kV_TH_init2⟩ ⟨fun a U g mk z => by obtain ⟨z0, z1, zP, zK, zD, zS⟩ := z; exact ⟨z0, z1, zP, va_K.moved (u := U) (U := U.calling g mk a) (Vm.Alike.refl U.vm) zK, zD, sm.same (u := U) (U := U.calling g mk a) rfl zS⟩, fun U hU hW => ⟨rfl, by rw [hU], va_P.he hU.symm hPc, va_K.moved hW.alike hKc, hDc.weaken (fun _ _ _ _ => trivial), hSW.call hS hFc hW hU⟩⟩ rfl rfl hl.1 rfl (lv_room (Nat.le_of_ble_eq_true rfl)) d_EX_init2_6 ⟨(show _ ≤ 0 from Nat.le_of_ble_eq_true rfl), (show _ ≤ 0 from Nat.le_of_ble_eq_true rfl)⟩) hS (fun q _ h => hFc q h) hFc (fun u t H1 locs ht hvm hw hB hz1 hk1 hS => ?_)
  obtain ⟨hP1, hK1, hD1⟩ := hB
  replace hP1 := va_P.he ht hP1
  have hK1 := va_K.moved hvm.symm hK1
  obtain ⟨hP, hD⟩ := va_join (wr := []) (w1 := [(h0, .inr (15, [.null, .null, .null, .null, .int 0, .null, .int 0, .int 0]))]) hP hD [0] [] rfl rfl (by decide) (by decide) hk1 hFc hP1 hD1
  have hK := (hK.sb (tyq := []) [] rfl).app hK1
  clear hPc hDc hKc hFc hz1 hk1 hP1 hK1 hD1
  rename Heap => H
  have hP : va_P (dC, dI) cls2 [(h0, .inr (15, [.null, .null, .null, .null, .int 0, .null, .int 0, .int 0]))] H := hP
  have hD : va_D A [(h0, .inr (15, [.null, .null, .null, .null, .int 0, .null, .int 0, .int 0]))] := hD
  have hK : va_K (dC, dI) cls2 [] s := hK
  refine W.widen (k := 0) (n := 0) (Nat.le_of_ble_eq_true rfl) (Nat.le_of_ble_eq_true rfl) ?_
  exact W.vret hx hb hr (fun t ht hW => ⟨⟨(), rfl, trivial, va_P.he ht.symm hP, va_K.moved hW.alike hK, hD⟩, hS.F ht⟩) hS.2.2 d_EX_init2_9
abbrev b_RT_init2 : ByteArray := prog_32_method_5_code
def y_RT_init2 : MethodName := ⟨R_RT, "<init>", "(Ljava/lang/String;Ljava/lang/Throwable;ZZ)V"⟩
abbrev w_RT_init2 : List Cond := .code y_RT_init2 b_RT_init2 5 none :: lw_g
theorem kC_RT_init2 : Cond.code y_RT_init2 b_RT_init2 5 none ∈ lw_g := in_c8 77 rfl rfl
theorem d_RT_init2_0 : decode b_RT_init2 0 = .ok (.aload_n 0, 1) := bz_c42 (by decide +kernel)
theorem d_RT_init2_1 : decode b_RT_init2 1 = .ok (.aload_n 1, 1) := bz_c43 (by decide +kernel)
theorem d_RT_init2_2 : decode b_RT_init2 2 = .ok (.aload_n 2, 1) := bz_c44 (by decide +kernel)
theorem d_RT_init2_3 : decode b_RT_init2 3 = .ok (.iload_n 3, 1) := bz_c29 (by decide +kernel)
theorem d_RT_init2_4 : decode b_RT_init2 4 = .ok (.iload 4, 2) := bz_c21 (by decide +kernel)
theorem d_RT_init2_6 : decode b_RT_init2 6 = .ok (.invokespecial 16, 3) := bz_c183 (by decide +kernel)
theorem d_RT_init2_9 : decode b_RT_init2 9 = .ok (.return_, 1) := bz_c177 (by decide +kernel)
theorem kV_EX_init2 : Cond.instanceMethod y_EX_init2 ∈ lw_g := in_c8 79 rfl rfl
theorem kM_RT_16 : Cond.methodLink R_RT 16 y_EX_init2 ∈ lw_g := in_c8 78 rfl rfl
set_option maxHeartbeats 4000000 in
set_option maxRecDepth 100000 in
theorem c_RT_init2 (l : Launch) (dC : Nat → ClassId) (dI : Nat → Nat → Nat) (sz : Nat) (sa : Nat → Nat) (h0  : Nat)   : Met l y_RT_init2 w_RT_init2 ({ frames := 3, cells := 0, slots := 0, locals := 68 }) (va_Pc [.ref h0, .null, .null, .int 0, .int 0] (fun U => U.heap.size = sz ∧ va_P (dC, dI) cls2 [(h0, .inr (15, [.null, .null, .null, .null, .int 0, .null, .int 0, .int 0]))] U.heap ∧ va_K (dC, dI) cls2 [] U ∧ va_D (fun _ => True) [(h0, .inr (15, [.null, .null, .null, .null, .int 0, .null, .int 0, .int 0]))] ∧ sm sa (va_A [(h0, .inr (15, [.null, .null, .null, .null, .int 0, .null, .int 0, .int 0]))] sz) U U.heap)) (va_Qv (fun (_ : Unit) => True) (fun (_ : Unit) (t : State) => va_P (dC, dI) cls2 [(h0, .inr (15, [.null, .null, .null, .null, .int 0, .null, .int 0, .int 0]))] t.heap ∧ va_K (dC, dI) cls2 [] t ∧ va_D (va_A [(h0, .inr (15, [.null, .null, .null, .null, .int 0, .null, .int 0, .int 0]))] sz) [(h0, .inr (15, [.null, .null, .null, .null, .int 0, .null, .int 0, .int 0]))]) (va_A [(h0, .inr (15, [.null, .null, .null, .null, .int 0, .null, .int 0, .int 0]))] sz)) 0 0 (va_A [(h0, .inr (15, [.null, .null, .null, .null, .int 0, .null, .int 0, .int 0]))] sz) := by
  refine Met.ofW (cc := b_RT_init2) (maxL := 5) (ret := none) (by decide) rfl ?_
  intro p e s m args below meth c s₁ B hml hv
  obtain ⟨rfl, hsz, hP, hK, hD0, hSW⟩ := hv
  have hx := B.exec
  have hb := B.bytes
  have hr := B.returns
  have hts0 := atoms_spec (ws := w_RT_init2) B.pre
  have hts : ∀ w ∈ lw_g, w.before _ s = true := fun w h => hts0 w (List.mem_cons_of_mem _ h)
  have hown : s.vm.findClass R_RT = some m.cls := findClass_of_methodNamed B.named
  have hlocks := B.notSynchronized
  clear hts0
  subst hsz
  have hD := hD0.self (sz := s.heap.size)
  generalize hAe : va_A [(h0, .inr (15, [.null, .null, .null, .null, .int 0, .null, .int 0, .int 0]))] s.heap.size = A at hD hSW ⊢
  have hA : ∀ q : Nat, s.heap.size ≤ q → A q := fun q h => by rw [← hAe]; exact Or.inr h
  clear hAe
  have hP : va_P (dC, dI) cls2 [(h0, .inr (15, [.null, .null, .null, .null, .int 0, .null, .int 0, .int 0]))] s.heap := hP
  have hl := lv_entry ([.ref h0, .null, .null, .int 0, .int 0]) (n := 5) (Nat.le_of_ble_eq_true rfl)
  rw [lg_entry_eq]
  generalize (lg_sl ([.ref h0, .null, .null, .int 0, .int 0]) ++ List.replicate (5 - (lg_sl ([.ref h0, .null, .null, .int 0, .int 0])).length) Slot.unset).toArray = ls at hl ⊢
  have hl : lv_has ls 5 [(0, .ref h0), (1, .null), (2, .null), (3, .int 0), (4, .int 0)] := hl
  have k0 : (0 : Int32).toInt = 0 := by decide
  refine w_gen (A := A) hP (fun H locs hP hS => ?_)
  have lo_0 := i32_lo 0
  have hi_0 := i32_hi 0
  have lo_0 := i32_lo 0
  have hi_0 := i32_hi 0
  have hin : meth.name = "<init>" := (name_of_methodNamed B.named B.method).1
  refine lv_aload_n hx hb d_RT_init2_0 rfl (lv_at hl 0 rfl) ?_
  refine lv_aload_nN hx hb d_RT_init2_1 rfl (lv_at hl 1 rfl) ?_
  refine lv_aload_nN hx hb d_RT_init2_2 rfl (lv_at hl 2 rfl) ?_
  refine lv_iload_n hx hb d_RT_init2_3 rfl (lv_at hl 3 rfl) ?_
  refine lv_iload hx hb d_RT_init2_4 (lv_at hl 4 rfl) ?_
  have hPc := hP.sb (wq := [(h0, .inr (15, [.null, .null, .null, .null, .int 0, .null, .int 0, .int 0]))]) [0] rfl
  have hDc := hD.sb (wq := [(h0, .inr (15, [.null, .null, .null, .null, .int 0, .null, .int 0, .int 0]))]) [0] (by decide) rfl
  have hKc := hK.sb (tyq := []) [] rfl
  have hFc := va_free (wc := [(h0, .inr (15, [.null, .null, .null, .null, .int 0, .null, .int 0, .int 0]))]) hD hS hA [0] rfl
  refine va_callv (va_runI (As := [.null, .null, .int 0, .int 0]) (rest := []) ⟨hx, hb, hml, hown, hts⟩ (c_EX_init2 l dC dI H.size sa h0 ) ⟨callB_of 4 hts (gW kC_EX_init2) rfl rfl rfl (hts _ kI_EX) (hts _ kM_RT_16) (by decide +kernel) ⟨Nat.le_of_ble_eq_true rfl, Nat.le_of_ble_eq_true rfl⟩, rfl, hts _ kV_EX_init2⟩ ⟨fun a U g mk z => by obtain ⟨z0, z1, zP, zK, zD, zS⟩ := z; exact ⟨z0, z1, zP, va_K.moved (u := U) (U := U.calling g mk a) (Vm.Alike.refl U.vm) zK, zD, sm.same (u := U) (U := U.calling g mk a) rfl zS⟩, fun U hU hW => ⟨rfl, by rw [hU], va_P.he hU.symm hPc, va_K.moved hW.alike hKc, hDc.weaken (fun _ _ _ _ => trivial), hSW.call hS hFc hW hU⟩⟩ rfl rfl hl.1 rfl (lv_room (Nat.le_of_ble_eq_true rfl)) d_RT_init2_6 ⟨(show _ ≤ 0 from Nat.le_of_ble_eq_true rfl), (show _ ≤ 0 from Nat.le_of_ble_eq_true rfl)⟩) hS (fun q _ h => hFc q h) hFc (fun u t H1 locs ht hvm hw hB hz1 hk1 hS => ?_)
  obtain ⟨hP1, hK1, hD1⟩ := hB
  replace hP1 := va_P.he ht hP1
  have hK1 := va_K.moved hvm.symm hK1
  obtain ⟨hP, hD⟩ := va_join (wr := []) (w1 := [(h0, .inr (15, [.null, .null, .null, .null, .int 0, .null, .int 0, .int 0]))]) hP hD [0] [] rfl rfl (by decide) (by decide) hk1 hFc hP1 hD1
  have hK := (hK.sb (tyq := []) [] rfl).app hK1
  clear hPc hDc hKc hFc hz1 hk1 hP1 hK1 hD1
  rename Heap => H
  have hP : va_P (dC, dI) cls2 [(h0, .inr (15, [.null, .null, .null, .null, .int 0, .null, .int 0, .int 0]))] H := hP
  have hD : va_D A [(h0, .inr (15, [.null, .null, .null, .null, .int 0, .null, .int 0, .int 0]))] := hD
  have hK : va_K (dC, dI) cls2 [] s := hK
  refine W.widen (k := 0) (n := 0) (Nat.le_of_ble_eq_true rfl) (Nat.le_of_ble_eq_true rfl) ?_
  exact W.vret hx hb hr (fun t ht hW => ⟨⟨(), rfl, trivial, va_P.he ht.symm hP, va_K.moved hW.alike hK, hD⟩, hS.F ht⟩) hS.2.2 d_RT_init2_9
abbrev b_MR_init : ByteArray := prog_19_method_1_code
def y_MR_init : MethodName := ⟨R_MR, "<init>", "()V"⟩
abbrev w_MR_init : List Cond := .code y_MR_init b_MR_init 1 none :: lw_g
theorem kC_MR_init : Cond.code y_MR_init b_MR_init 1 none ∈ lw_g := in_c8 74 rfl rfl
theorem d_MR_init_0 : decode b_MR_init 0 = .ok (.aload_n 0, 1) := bz_c42 (by decide +kernel)
theorem d_MR_init_1 : decode b_MR_init 1 = .ok (.aconst_null, 1) := bz_c1 (by decide +kernel)
theorem d_MR_init_2 : decode b_MR_init 2 = .ok (.aconst_null, 1) := bz_c1 (by decide +kernel)
theorem d_MR_init_3 : decode b_MR_init 3 = .ok (.iconst 0, 1) := bz_c3 (by decide +kernel)
theorem d_MR_init_4 : decode b_MR_init 4 = .ok (.iconst 0, 1) := bz_c3 (by decide +kernel)
theorem d_MR_init_5 : decode b_MR_init 5 = .ok (.invokespecial 1, 3) := bz_c183 (by decide +kernel)
theorem d_MR_init_8 : decode b_MR_init 8 = .ok (.return_, 1) := bz_c177 (by decide +kernel)
theorem kV_RT_init2 : Cond.instanceMethod y_RT_init2 ∈ lw_g := in_c8 76 rfl rfl
theorem kM_MR_1 : Cond.methodLink R_MR 1 y_RT_init2 ∈ lw_g := in_c8 75 rfl rfl
set_option maxHeartbeats 4000000 in
set_option maxRecDepth 100000 in
theorem c_MR_init (l : Launch) (dC : Nat → ClassId) (dI : Nat → Nat → Nat) (sz : Nat) (sa : Nat → Nat) (h0  : Nat)   : Met l y_MR_init w_MR_init ({ frames := 4, cells := 0, slots := 0, locals := 92 }) (va_Pc [.ref h0] (fun U => U.heap.size = sz ∧ va_P (dC, dI) cls2 [(h0, .inr (15, [.null, .null, .null, .null, .int 0, .null, .int 0, .int 0]))] U.heap ∧ va_K (dC, dI) cls2 [] U ∧ va_D (fun _ => True) [(h0, .inr (15, [.null, .null, .null, .null, .int 0, .null, .int 0, .int 0]))] ∧ sm sa (va_A [(h0, .inr (15, [.null, .null, .null, .null, .int 0, .null, .int 0, .int 0]))] sz) U U.heap)) (va_Qv (fun (_ : Unit) => True) (fun (_ : Unit) (t : State) => va_P (dC, dI) cls2 [(h0, .inr (15, [.null, .null, .null, .null, .int 0, .null, .int 0, .int 0]))] t.heap ∧ va_K (dC, dI) cls2 [] t ∧ va_D (va_A [(h0, .inr (15, [.null, .null, .null, .null, .int 0, .null, .int 0, .int 0]))] sz) [(h0, .inr (15, [.null, .null, .null, .null, .int 0, .null, .int 0, .int 0]))]) (va_A [(h0, .inr (15, [.null, .null, .null, .null, .int 0, .null, .int 0, .int 0]))] sz)) 0 0 (va_A [(h0, .inr (15, [.null, .null, .null, .null, .int 0, .null, .int 0, .int 0]))] sz) := by
  refine Met.ofW (cc := b_MR_init) (maxL := 1) (ret := none) (by decide) rfl ?_
  intro p e s m args below meth c s₁ B hml hv
  obtain ⟨rfl, hsz, hP, hK, hD0, hSW⟩ := hv
  have hx := B.exec
  have hb := B.bytes
  have hr := B.returns
  have hts0 := atoms_spec (ws := w_MR_init) B.pre
  have hts : ∀ w ∈ lw_g, w.before _ s = true := fun w h => hts0 w (List.mem_cons_of_mem _ h)
  have hown : s.vm.findClass R_MR = some m.cls := findClass_of_methodNamed B.named
  have hlocks := B.notSynchronized
  clear hts0
  subst hsz
  have hD := hD0.self (sz := s.heap.size)
  generalize hAe : va_A [(h0, .inr (15, [.null, .null, .null, .null, .int 0, .null, .int 0, .int 0]))] s.heap.size = A at hD hSW ⊢
  have hA : ∀ q : Nat, s.heap.size ≤ q → A q := fun q h => by rw [← hAe]; exact Or.inr h
  clear hAe
  have hP : va_P (dC, dI) cls2 [(h0, .inr (15, [.null, .null, .null, .null, .int 0, .null, .int 0, .int 0]))] s.heap := hP
  have hl := lv_entry ([.ref h0]) (n := 1) (Nat.le_of_ble_eq_true rfl)
  rw [lg_entry_eq]
  generalize (lg_sl ([.ref h0]) ++ List.replicate (1 - (lg_sl ([.ref h0])).length) Slot.unset).toArray = ls at hl ⊢
  have hl : lv_has ls 1 [(0, .ref h0)] := hl
  have k0 : (0 : Int32).toInt = 0 := by decide
  refine w_gen (A := A) hP (fun H locs hP hS => ?_)
  have hin : meth.name = "<init>" := (name_of_methodNamed B.named B.method).1
  refine lv_aload_n hx hb d_MR_init_0 rfl (lv_at hl 0 rfl) ?_
  refine lv_null hx hb d_MR_init_1 ?_
  refine lv_null hx hb d_MR_init_2 ?_
  refine lv_iconst (v := 0) hx hb d_MR_init_3 (by decide) ?_
  refine lv_iconst (v := 0) hx hb d_MR_init_4 (by decide) ?_
  have hPc := hP.sb (wq := [(h0, .inr (15, [.null, .null, .null, .null, .int 0, .null, .int 0, .int 0]))]) [0] rfl
  have hDc := hD.sb (wq := [(h0, .inr (15, [.null, .null, .null, .null, .int 0, .null, .int 0, .int 0]))]) [0] (by decide) rfl
  have hKc := hK.sb (tyq := []) [] rfl
  have hFc := va_free (wc := [(h0, .inr (15, [.null, .null, .null, .null, .int 0, .null, .int 0, .int 0]))]) hD hS hA [0] rfl
  refine va_callv (va_runI (As := [.null, .null, .int 0, .int 0]) (rest := []) ⟨hx, hb, hml, hown, hts⟩ (c_RT_init2 l dC dI H.size sa h0 ) ⟨callB_of 4 hts (gW kC_RT_init2) rfl rfl rfl (hts _ kI_RT) (hts _ kM_MR_1) (by decide +kernel) ⟨Nat.le_of_ble_eq_true rfl, Nat.le_of_ble_eq_true rfl⟩, rfl, hts _ kV_RT_init2⟩ ⟨fun a U g mk z => by obtain ⟨z0, z1, zP, zK, zD, zS⟩ := z; exact ⟨z0, z1, zP, va_K.moved (u := U) (U := U.calling g mk a) (Vm.Alike.refl U.vm) zK, zD, sm.same (u := U) (U := U.calling g mk a) rfl zS⟩, fun U hU hW => ⟨rfl, by rw [hU], va_P.he hU.symm hPc, va_K.moved hW.alike hKc, hDc.weaken (fun _ _ _ _ => trivial), hSW.call hS hFc hW hU⟩⟩ rfl rfl hl.1 rfl (lv_room (Nat.le_of_ble_eq_true rfl)) d_MR_init_5 ⟨(show _ ≤ 0 from Nat.le_of_ble_eq_true rfl), (show _ ≤ 0 from Nat.le_of_ble_eq_true rfl)⟩) hS (fun q _ h => hFc q h) hFc (fun u t H1 locs ht hvm hw hB hz1 hk1 hS => ?_)
  obtain ⟨hP1, hK1, hD1⟩ := hB
  replace hP1 := va_P.he ht hP1
  have hK1 := va_K.moved hvm.symm hK1
  obtain ⟨hP, hD⟩ := va_join (wr := []) (w1 := [(h0, .inr (15, [.null, .null, .null, .null, .int 0, .null, .int 0, .int 0]))]) hP hD [0] [] rfl rfl (by decide) (by decide) hk1 hFc hP1 hD1
  have hK := (hK.sb (tyq := []) [] rfl).app hK1
  clear hPc hDc hKc hFc hz1 hk1 hP1 hK1 hD1
  rename Heap => H
  have hP : va_P (dC, dI) cls2 [(h0, .inr (15, [.null, .null, .null, .null, .int 0, .null, .int 0, .int 0]))] H := hP
  have hD : va_D A [(h0, .inr (15, [.null, .null, .null, .null, .int 0, .null, .int 0, .int 0]))] := hD
  have hK : va_K (dC, dI) cls2 [] s := hK
  refine W.widen (k := 0) (n := 0) (Nat.le_of_ble_eq_true rfl) (Nat.le_of_ble_eq_true rfl) ?_
  exact W.vret hx hb hr (fun t ht hW => ⟨⟨(), rfl, trivial, va_P.he ht.symm hP, va_K.moved hW.alike hK, hD⟩, hS.F ht⟩) hS.2.2 d_MR_init_8

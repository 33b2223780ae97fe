/-! Arrays.fill; Machine.load -/
def R_JA : String := "java/util/Arrays"
theorem kI_JA : Cond.initialized R_JA ∈ lw_g := in_g 29 (by decide +kernel) rfl
abbrev b_JA_fill : ByteArray := prog_40_method_101_code
def y_JA_fill : MethodName := ⟨R_JA, "fill", "([JJ)V"⟩
abbrev w_JA_fill : List Cond := .code y_JA_fill b_JA_fill 5 none :: lw_g
theorem kC_JA_fill : Cond.code y_JA_fill b_JA_fill 5 none ∈ lw_g := in_g 1376 (by decide +kernel) rfl
theorem d_JA_fill_0 : decode b_JA_fill 0 = .ok (.iconst 0, 1) := by decide +kernel
theorem d_JA_fill_1 : decode b_JA_fill 1 = .ok (.istore_n 3, 1) := by decide +kernel
theorem d_JA_fill_2 : decode b_JA_fill 2 = .ok (.aload_n 0, 1) := by decide +kernel
theorem d_JA_fill_3 : decode b_JA_fill 3 = .ok (.arraylength, 1) := by decide +kernel
theorem d_JA_fill_4 : decode b_JA_fill 4 = .ok (.istore 4, 2) := by decide +kernel
theorem d_JA_fill_6 : decode b_JA_fill 6 = .ok (.iload_n 3, 1) := by decide +kernel
theorem d_JA_fill_7 : decode b_JA_fill 7 = .ok (.iload 4, 2) := by decide +kernel
theorem d_JA_fill_9 : decode b_JA_fill 9 = .ok (.if_icmp .ge 13, 3) := by decide +kernel
theorem d_JA_fill_12 : decode b_JA_fill 12 = .ok (.aload_n 0, 1) := by decide +kernel
theorem d_JA_fill_13 : decode b_JA_fill 13 = .ok (.iload_n 3, 1) := by decide +kernel
theorem d_JA_fill_14 : decode b_JA_fill 14 = .ok (.lload_n 1, 1) := by decide +kernel
theorem d_JA_fill_15 : decode b_JA_fill 15 = .ok (.lastore, 1) := by decide +kernel
theorem d_JA_fill_16 : decode b_JA_fill 16 = .ok (.iinc 3 1, 3) := by decide +kernel
theorem d_JA_fill_19 : decode b_JA_fill 19 = .ok (.goto (-13), 3) := by decide +kernel
theorem d_JA_fill_22 : decode b_JA_fill 22 = .ok (.return_, 1) := by decide +kernel
abbrev at_JA_fill (dC : Nat → ClassId) (dI : Nat → Nat → Nat) (fa : Nat) (cfa : ClassId)  (A : Nat → Prop) (u : (Nat → Int64)) (t : State) : Prop := match u with | gfa => va_P (dC, dI) cls [(fa, .inl (cfa, 16384, .inr (.inl gfa)))] t.heap ∧ va_K (dC, dI) cls [(cfa, .long)] t ∧ va_D A [(fa, .inl (cfa, 16384, .inr (.inl gfa)))]
set_option maxHeartbeats 4000000 in
set_option maxRecDepth 100000 in
theorem c_JA_fill (l : Launch) (dC : Nat → ClassId) (dI : Nat → Nat → Nat) (sz : Nat) (fa : Nat) (cfa : ClassId) (gfa : Nat → Int64)   (p1 : Int64)   : Met l y_JA_fill w_JA_fill ({ frames := 0, cells := 0, slots := 0, locals := 0 }) (va_Pc [.ref fa, .long p1] (fun U => U.heap.size = sz ∧ va_P (dC, dI) cls [(fa, .inl (cfa, 16384, .inr (.inl gfa)))] U.heap ∧ va_K (dC, dI) cls [(cfa, .long)] U ∧ va_D (fun _ => True) [(fa, .inl (cfa, 16384, .inr (.inl gfa)))])) (va_Qv (fun (u : (Nat → Int64)) => match u with | gfa2 => (True)) (at_JA_fill dC dI fa cfa (va_A [(fa, .inl (cfa, 16384, .inr (.inl gfa)))] sz)) (va_A [(fa, .inl (cfa, 16384, .inr (.inl gfa)))] sz)) 0 0 (va_A [(fa, .inl (cfa, 16384, .inr (.inl gfa)))] sz) := by
  refine Met.ofW (cc := b_JA_fill) (maxL := 5) (ret := none) (by decide) rfl ?_
  intro p e s m args below meth c s₁ B hml hv
  obtain ⟨rfl, hsz, hP, hK, hD0⟩ := hv
  have hx := B.exec
  have hb := B.bytes
  have hr := B.returns
  have hts0 := atoms_spec (ws := w_JA_fill) B.pre
  have hts : ∀ w ∈ lw_g, w.before _ s = true := fun w h => hts0 w (List.mem_cons_of_mem _ h)
  have hown : s.vm.findClass R_JA = some m.cls := findClass_of_methodNamed B.named
  have hlocks := B.notSynchronized
  clear hts0
  subst hsz
  have hD := hD0.self (sz := s.heap.size)
  generalize hAe : va_A [(fa, .inl (cfa, 16384, .inr (.inl gfa)))] s.heap.size = A at hD ⊢
  have hA : ∀ q : Nat, s.heap.size ≤ q → A q := fun q h => by rw [← hAe]; exact Or.inr h
  clear hAe
  have hP : va_P (dC, dI) cls [(fa, .inl (cfa, 16384, .inr (.inl gfa)))] s.heap := hP
  have hl := lv_entry ([.ref fa, .long p1]) (n := 5) (Nat.le_of_ble_eq_true rfl)
  rw [lg_entry_eq]
  generalize (lg_sl ([.ref fa, .long p1]) ++ List.replicate (5 - (lg_sl ([.ref fa, .long p1])).length) Slot.unset).toArray = ls at hl ⊢
  have hl : lv_has ls 5 [(0, .ref fa), (1, .long p1)] := hl
  have k0 : (0 : Int32).toInt = 0 := by decide
  refine w_gen (A := A) hP (fun H locs hP hS => ?_)
  have k1 : (1 : Int32).toInt = 1 := by decide
  refine lv_iconst (v := 0) hx hb d_JA_fill_0 (by decide) ?_
  refine lv_istore_n (lv' := [(3, .int 0), (0, .ref fa), (1, .long p1)]) hx hb d_JA_fill_1 rfl hl (by decide) rfl (fun ls hl => ?_)
  refine lv_aload_n hx hb d_JA_fill_2 rfl (lv_at hl 1 rfl) ?_
  refine va_alen hx hb hK hP 0 0 rfl rfl rfl d_JA_fill_3 ?_
  refine lv_topi (fun x1 ex1 => ?_)
  have tx1 : x1.toInt = 16384 := by rw [ex1]; exact i32_len (by omega)
  refine lv_istore (lv' := [(4, .int x1), (3, .int 0), (0, .ref fa), (1, .long p1)]) hx hb d_JA_fill_4 hl (by decide) rfl (fun ls hl => ?_)
  refine w_loop (σ := Int32 × (Nat → Int64)) (fun u H locs ls => match u with | (j6_l3, j6_fa) => (0 ≤ j6_l3.toInt ∧ j6_l3.toInt ≤ 16384) ∧ va_P (dC, dI) cls [(fa, .inl (cfa, 16384, .inr (.inl j6_fa)))] H ∧ va_D A [(fa, .inl (cfa, 16384, .inr (.inl j6_fa)))] ∧ va_S A s.heap H locs ∧ lv_has ls 5 [(0, .ref fa), (1, .long p1), (3, .int j6_l3), (4, .int x1)]) (fun u => match u with | (j6_l3, j6_fa) => (16384 - j6_l3.toInt).toNat) ?_ (0, gfa) ⟨by (try dsimp only) <;> omega, hP, hD, hS, lv_sub hl [2, 3, 1, 0] rfl⟩
  intro N6 ih6 u H locs ls hN6 hI
  obtain ⟨j6_l3, j6_fa⟩ := u
  obtain ⟨b_j6_l3, hP, hD, hS, hl⟩ := hI
  have hN6 : (16384 - j6_l3.toInt).toNat < N6 + 1 := hN6
  refine lv_iload_n hx hb d_JA_fill_6 rfl (lv_at hl 2 rfl) ?_
  refine lv_iload hx hb d_JA_fill_7 (lv_at hl 3 rfl) ?_
  refine lv_icmp_ge (tgt := 22) hx hb d_JA_fill_9 (by decide) (fun c9 => ?_) (fun c9 => ?_)
  · have q9 := leI c9
    have hP9 := hP.sub (ws' := [(fa, .inl (cfa, 16384, .inr (.inl j6_fa)))]) [0] rfl
    have hD9 := hD.sub (ws' := [(fa, .inl (cfa, 16384, .inr (.inl j6_fa)))]) [0] (by decide) rfl
    exact W.vret hx hb hr (fun t ht hW => ⟨⟨j6_fa, rfl, (trivial), by rw [ht]; exact hP9, va_K.moved hW.alike hK, hD9⟩, hS.F ht⟩) hS.2.2 d_JA_fill_22
  · have q9 := nleI c9
    refine lv_aload_n hx hb d_JA_fill_12 rfl (lv_at hl 0 rfl) ?_
    refine lv_iload_n hx hb d_JA_fill_13 rfl (lv_at hl 2 rfl) ?_
    refine lv_lload_n hx hb d_JA_fill_14 rfl (lv_at hl 1 rfl) ?_
    have g15 : vp_in j6_l3 16384 := vp_in_iff.mpr ⟨by omega, by omega⟩
    refine va_last hx hb hK hP hD hS 0 0 rfl rfl g15 d_JA_fill_15 (fun H locs hP hD hS => ?_)
    generalize ef2 : vp_updL j6_fa j6_l3.toNatClampNeg p1 = f2 at hP hD
    obtain ⟨x3, ex3⟩ : ∃ z : Int32, z = j6_l3 + 1 := ⟨_, rfl⟩
    have tx3 : x3.toInt = j6_l3.toInt + 1 := by have z := i32_add ex3 (by omega) (by omega); omega
    refine lv_iinc (v := x3) (lv' := [(3, .int x3), (0, .ref fa), (1, .long p1), (4, .int x1)]) hx hb d_JA_fill_16 hl (k := 2) rfl (by rw [ex3]; rfl) (by decide) rfl (fun ls hl => ?_)
    refine lv_goto (tgt := 6) hx hb d_JA_fill_19 (by decide) ?_
    exact ih6 (x3, f2) _ _ _ (by show (16384 - x3.toInt).toNat < N6; omega) ⟨by (try dsimp only) <;> omega, hP, hD, hS, lv_sub hl [1, 2, 0, 3] rfl⟩
abbrev b_MA_load1 : ByteArray := prog_6_method_2_code
def y_MA_load1 : MethodName := ⟨R_MA, "load", "(LWaferForge$Wafer;)V"⟩
abbrev w_MA_load1 : List Cond := .code y_MA_load1 b_MA_load1 3 none :: lw_g
theorem kC_MA_load1 : Cond.code y_MA_load1 b_MA_load1 3 none ∈ lw_g := in_g 1373 (by decide +kernel) rfl
theorem d_MA_load1_0 : decode b_MA_load1 0 = .ok (.aload_n 0, 1) := by decide +kernel
theorem d_MA_load1_1 : decode b_MA_load1 1 = .ok (.aload_n 1, 1) := by decide +kernel
theorem d_MA_load1_2 : decode b_MA_load1 2 = .ok (.putfield 40, 3) := by decide +kernel
theorem d_MA_load1_5 : decode b_MA_load1 5 = .ok (.aload_n 0, 1) := by decide +kernel
theorem d_MA_load1_6 : decode b_MA_load1 6 = .ok (.aload_n 1, 1) := by decide +kernel
theorem d_MA_load1_7 : decode b_MA_load1 7 = .ok (.getfield 44, 3) := by decide +kernel
theorem d_MA_load1_10 : decode b_MA_load1 10 = .ok (.putfield 50, 3) := by decide +kernel
theorem d_MA_load1_13 : decode b_MA_load1 13 = .ok (.aload_n 0, 1) := by decide +kernel
theorem d_MA_load1_14 : decode b_MA_load1 14 = .ok (.aload_n 0, 1) := by decide +kernel
theorem d_MA_load1_15 : decode b_MA_load1 15 = .ok (.getfield 40, 3) := by decide +kernel
theorem d_MA_load1_18 : decode b_MA_load1 18 = .ok (.getfield 51, 3) := by decide +kernel
theorem d_MA_load1_21 : decode b_MA_load1 21 = .ok (.l2i, 1) := by decide +kernel
theorem d_MA_load1_22 : decode b_MA_load1 22 = .ok (.putfield 55, 3) := by decide +kernel
theorem d_MA_load1_25 : decode b_MA_load1 25 = .ok (.aload_n 0, 1) := by decide +kernel
theorem d_MA_load1_26 : decode b_MA_load1 26 = .ok (.getfield 15, 3) := by decide +kernel
theorem d_MA_load1_29 : decode b_MA_load1 29 = .ok (.lconst 0, 1) := by decide +kernel
theorem d_MA_load1_30 : decode b_MA_load1 30 = .ok (.invokestatic 59, 3) := by decide +kernel
theorem d_MA_load1_33 : decode b_MA_load1 33 = .ok (.iconst 0, 1) := by decide +kernel
theorem d_MA_load1_34 : decode b_MA_load1 34 = .ok (.istore_n 2, 1) := by decide +kernel
theorem d_MA_load1_35 : decode b_MA_load1 35 = .ok (.iload_n 2, 1) := by decide +kernel
theorem d_MA_load1_36 : decode b_MA_load1 36 = .ok (.aload_n 0, 1) := by decide +kernel
theorem d_MA_load1_37 : decode b_MA_load1 37 = .ok (.getfield 40, 3) := by decide +kernel
theorem d_MA_load1_40 : decode b_MA_load1 40 = .ok (.getfield 65, 3) := by decide +kernel
theorem d_MA_load1_43 : decode b_MA_load1 43 = .ok (.if_icmp .ge 24, 3) := by decide +kernel
theorem d_MA_load1_46 : decode b_MA_load1 46 = .ok (.aload_n 0, 1) := by decide +kernel
theorem d_MA_load1_47 : decode b_MA_load1 47 = .ok (.getfield 9, 3) := by decide +kernel
theorem d_MA_load1_50 : decode b_MA_load1 50 = .ok (.iload_n 2, 1) := by decide +kernel
theorem d_MA_load1_51 : decode b_MA_load1 51 = .ok (.aload_n 0, 1) := by decide +kernel
theorem d_MA_load1_52 : decode b_MA_load1 52 = .ok (.getfield 40, 3) := by decide +kernel
theorem d_MA_load1_55 : decode b_MA_load1 55 = .ok (.getfield 68, 3) := by decide +kernel
theorem d_MA_load1_58 : decode b_MA_load1 58 = .ok (.iload_n 2, 1) := by decide +kernel
theorem d_MA_load1_59 : decode b_MA_load1 59 = .ok (.laload, 1) := by decide +kernel
theorem d_MA_load1_60 : decode b_MA_load1 60 = .ok (.lastore, 1) := by decide +kernel
theorem d_MA_load1_61 : decode b_MA_load1 61 = .ok (.iinc 2 1, 3) := by decide +kernel
theorem d_MA_load1_64 : decode b_MA_load1 64 = .ok (.goto (-29), 3) := by decide +kernel
theorem d_MA_load1_67 : decode b_MA_load1 67 = .ok (.return_, 1) := by decide +kernel
theorem kM_MA_59 : Cond.methodLink R_MA 59 y_JA_fill ∈ lw_g := in_g 1374 (by decide +kernel) rfl
theorem kT_JA_fill : Cond.static y_JA_fill ∈ lw_g := in_g 1375 (by decide +kernel) rfl
theorem kF_MA_51 : Cond.fieldLink R_MA 51 "WaferForge$Wafer" "pagesLeast" "J" ∈ lw_g := in_g 168 (by decide +kernel) rfl
theorem kF_MA_65 : Cond.fieldLink R_MA 65 "WaferForge$Wafer" "globalCount" "I" ∈ lw_g := in_g 176 (by decide +kernel) rfl
theorem kF_MA_68 : Cond.fieldLink R_MA 68 "WaferForge$Wafer" "firstValues" "[J" ∈ lw_g := in_g 188 (by decide +kernel) rfl
abbrev at_MA_load1 (dC : Nat → ClassId) (dI : Nat → Nat → Nat) (h0 gl ce sk fb fs ff fl lb lh aw aw_bytes_r ac aw_typeTakes_r aw_typeParameters_r aw_typeGives_r aw_functionType_r aw_globalTypes_r aw_firstTypes_r wfv aw_globalChanges_r aw_exportKinds_r aw_exportIndices_r aw_exportStarts_r aw_exportSizes_r : Nat) (cce cgl cwfv : ClassId) (h0_steps : Int32) (h0_reason : Int32) (h0_wafer : Value) (h0_codes : Value) (h0_height : Int32) (h0_frameCount : Int32) (h0_labelCount : Int32) (h0_at : Int32) (aw_typeCount : Int32) (aw_functionCount : Int32) (aw_hasMemory : Int32) (aw_pagesLeast : Int64) (aw_pagesMost : Int64) (aw_globalCount : Int32) (aw_exportCount : Int32) (gwfv : Nat → Int64) (A : Nat → Prop) (u : (Nat → Int64) × (Nat → Int64) × Int32) (t : State) : Prop := match u with | (gce, ggl, h0_pages) => va_P (dC, dI) cls [(h0, .inr (4, [.int h0_pages, .int h0_steps, .int h0_reason, .ref gl, .ref aw, .ref ac, .ref ce, .ref sk, .int h0_height, .ref fb, .ref fs, .ref ff, .ref fl, .int h0_frameCount, .ref lb, .ref lh, .int h0_labelCount, .int h0_at])), (ce, .inl (cce, 16384, .inr (.inl gce))), (gl, .inl (cgl, 20, .inr (.inl ggl))), (aw, .inr (10, [.ref aw_bytes_r, .ref ac, .int aw_typeCount, .ref aw_typeTakes_r, .ref aw_typeParameters_r, .ref aw_typeGives_r, .int aw_functionCount, .ref aw_functionType_r, .int aw_hasMemory, .long aw_pagesLeast, .long aw_pagesMost, .int aw_globalCount, .ref aw_globalTypes_r, .ref aw_firstTypes_r, .ref wfv, .ref aw_globalChanges_r, .int aw_exportCount, .ref aw_exportKinds_r, .ref aw_exportIndices_r, .ref aw_exportStarts_r, .ref aw_exportSizes_r])), (wfv, .inl (cwfv, 20, .inr (.inl gwfv)))] t.heap ∧ va_K (dC, dI) cls [(cce, .long), (cgl, .long), (cwfv, .long)] t ∧ va_D A [(h0, .inr (4, [.int h0_pages, .int h0_steps, .int h0_reason, .ref gl, .ref aw, .ref ac, .ref ce, .ref sk, .int h0_height, .ref fb, .ref fs, .ref ff, .ref fl, .int h0_frameCount, .ref lb, .ref lh, .int h0_labelCount, .int h0_at])), (ce, .inl (cce, 16384, .inr (.inl gce))), (gl, .inl (cgl, 20, .inr (.inl ggl))), (aw, .inr (10, [.ref aw_bytes_r, .ref ac, .int aw_typeCount, .ref aw_typeTakes_r, .ref aw_typeParameters_r, .ref aw_typeGives_r, .int aw_functionCount, .ref aw_functionType_r, .int aw_hasMemory, .long aw_pagesLeast, .long aw_pagesMost, .int aw_globalCount, .ref aw_globalTypes_r, .ref aw_firstTypes_r, .ref wfv, .ref aw_globalChanges_r, .int aw_exportCount, .ref aw_exportKinds_r, .ref aw_exportIndices_r, .ref aw_exportStarts_r, .ref aw_exportSizes_r])), (wfv, .inl (cwfv, 20, .inr (.inl gwfv)))]
set_option maxHeartbeats 4000000 in
set_option maxRecDepth 100000 in
theorem c_MA_load1 (l : Launch) (dC : Nat → ClassId) (dI : Nat → Nat → Nat) (sz : Nat) (h0 gl ce sk fb fs ff fl lb lh aw aw_bytes_r ac aw_typeTakes_r aw_typeParameters_r aw_typeGives_r aw_functionType_r aw_globalTypes_r aw_firstTypes_r wfv aw_globalChanges_r aw_exportKinds_r aw_exportIndices_r aw_exportStarts_r aw_exportSizes_r : Nat) (cce cgl cwfv : ClassId) (h0_pages : Int32) (h0_steps : Int32) (h0_reason : Int32) (h0_wafer : Value) (h0_codes : Value) (h0_height : Int32) (h0_frameCount : Int32) (h0_labelCount : Int32) (h0_at : Int32) (gce : Nat → Int64) (ggl : Nat → Int64) (aw_typeCount : Int32) (aw_functionCount : Int32) (aw_hasMemory : Int32) (aw_pagesLeast : Int64) (aw_pagesMost : Int64) (aw_globalCount : Int32) (aw_exportCount : Int32) (gwfv : Nat → Int64)  (b_h0_pages : 0 ≤ h0_pages.toInt ∧ h0_pages.toInt ≤ 2) (b_aw_globalCount : 0 ≤ aw_globalCount.toInt ∧ aw_globalCount.toInt ≤ 20)   (hpg : 0 ≤ aw_pagesLeast.toInt ∧ aw_pagesLeast.toInt ≤ 2) : Met l y_MA_load1 w_MA_load1 ({ frames := 1, cells := 0, slots := 0, locals := 24 }) (va_Pc [.ref h0, .ref aw] (fun U => U.heap.size = sz ∧ va_P (dC, dI) cls [(h0, .inr (4, [.int h0_pages, .int h0_steps, .int h0_reason, .ref gl, h0_wafer, h0_codes, .ref ce, .ref sk, .int h0_height, .ref fb, .ref fs, .ref ff, .ref fl, .int h0_frameCount, .ref lb, .ref lh, .int h0_labelCount, .int h0_at])), (ce, .inl (cce, 16384, .inr (.inl gce))), (gl, .inl (cgl, 20, .inr (.inl ggl))), (aw, .inr (10, [.ref aw_bytes_r, .ref ac, .int aw_typeCount, .ref aw_typeTakes_r, .ref aw_typeParameters_r, .ref aw_typeGives_r, .int aw_functionCount, .ref aw_functionType_r, .int aw_hasMemory, .long aw_pagesLeast, .long aw_pagesMost, .int aw_globalCount, .ref aw_globalTypes_r, .ref aw_firstTypes_r, .ref wfv, .ref aw_globalChanges_r, .int aw_exportCount, .ref aw_exportKinds_r, .ref aw_exportIndices_r, .ref aw_exportStarts_r, .ref aw_exportSizes_r])), (wfv, .inl (cwfv, 20, .inr (.inl gwfv)))] U.heap ∧ va_K (dC, dI) cls [(cce, .long), (cgl, .long), (cwfv, .long)] U ∧ va_D (fun _ => True) [(h0, .inr (4, [.int h0_pages, .int h0_steps, .int h0_reason, .ref gl, h0_wafer, h0_codes, .ref ce, .ref sk, .int h0_height, .ref fb, .ref fs, .ref ff, .ref fl, .int h0_frameCount, .ref lb, .ref lh, .int h0_labelCount, .int h0_at])), (ce, .inl (cce, 16384, .inr (.inl gce))), (gl, .inl (cgl, 20, .inr (.inl ggl))), (aw, .inr (10, [.ref aw_bytes_r, .ref ac, .int aw_typeCount, .ref aw_typeTakes_r, .ref aw_typeParameters_r, .ref aw_typeGives_r, .int aw_functionCount, .ref aw_functionType_r, .int aw_hasMemory, .long aw_pagesLeast, .long aw_pagesMost, .int aw_globalCount, .ref aw_globalTypes_r, .ref aw_firstTypes_r, .ref wfv, .ref aw_globalChanges_r, .int aw_exportCount, .ref aw_exportKinds_r, .ref aw_exportIndices_r, .ref aw_exportStarts_r, .ref aw_exportSizes_r])), (wfv, .inl (cwfv, 20, .inr (.inl gwfv)))])) (va_Qv (fun (u : (Nat → Int64) × (Nat → Int64) × Int32) => match u with | (gce2, ggl2, h0_pages2) => (0 ≤ h0_pages2.toInt ∧ h0_pages2.toInt ≤ 2) ∧ (h0_pages2.toInt = aw_pagesLeast.toInt)) (at_MA_load1 dC dI h0 gl ce sk fb fs ff fl lb lh aw aw_bytes_r ac aw_typeTakes_r aw_typeParameters_r aw_typeGives_r aw_functionType_r aw_globalTypes_r aw_firstTypes_r wfv aw_globalChanges_r aw_exportKinds_r aw_exportIndices_r aw_exportStarts_r aw_exportSizes_r cce cgl cwfv h0_steps h0_reason h0_wafer h0_codes h0_height h0_frameCount h0_labelCount h0_at aw_typeCount aw_functionCount aw_hasMemory aw_pagesLeast aw_pagesMost aw_globalCount aw_exportCount gwfv (va_A [(h0, .inr (4, [.int h0_pages, .int h0_steps, .int h0_reason, .ref gl, h0_wafer, h0_codes, .ref ce, .ref sk, .int h0_height, .ref fb, .ref fs, .ref ff, .ref fl, .int h0_frameCount, .ref lb, .ref lh, .int h0_labelCount, .int h0_at])), (ce, .inl (cce, 16384, .inr (.inl gce))), (gl, .inl (cgl, 20, .inr (.inl ggl))), (aw, .inr (10, [.ref aw_bytes_r, .ref ac, .int aw_typeCount, .ref aw_typeTakes_r, .ref aw_typeParameters_r, .ref aw_typeGives_r, .int aw_functionCount, .ref aw_functionType_r, .int aw_hasMemory, .long aw_pagesLeast, .long aw_pagesMost, .int aw_globalCount, .ref aw_globalTypes_r, .ref aw_firstTypes_r, .ref wfv, .ref aw_globalChanges_r, .int aw_exportCount, .ref aw_exportKinds_r, .ref aw_exportIndices_r, .ref aw_exportStarts_r, .ref aw_exportSizes_r])), (wfv, .inl (cwfv, 20, .inr (.inl gwfv)))] sz)) (va_A [(h0, .inr (4, [.int h0_pages, .int h0_steps, .int h0_reason, .ref gl, h0_wafer, h0_codes, .ref ce, .ref sk, .int h0_height, .ref fb, .ref fs, .ref ff, .ref fl, .int h0_frameCount, .ref lb, .ref lh, .int h0_labelCount, .int h0_at])), (ce, .inl (cce, 16384, .inr (.inl gce))), (gl, .inl (cgl, 20, .inr (.inl ggl))), (aw, .inr (10, [.ref aw_bytes_r, .ref ac, .int aw_typeCount, .ref aw_typeTakes_r, .ref aw_typeParameters_r, .ref aw_typeGives_r, .int aw_functionCount, .ref aw_functionType_r, .int aw_hasMemory, .long aw_pagesLeast, .long aw_pagesMost, .int aw_globalCount, .ref aw_globalTypes_r, .ref aw_firstTypes_r, .ref wfv, .ref aw_globalChanges_r, .int aw_exportCount, .ref aw_exportKinds_r, .ref aw_exportIndices_r, .ref aw_exportStarts_r, .ref aw_exportSizes_r])), (wfv, .inl (cwfv, 20, .inr (.inl gwfv)))] sz)) 0 0 (va_A [(h0, .inr (4, [.int h0_pages, .int h0_steps, .int h0_reason, .ref gl, h0_wafer, h0_codes, .ref ce, .ref sk, .int h0_height, .ref fb, .ref fs, .ref ff, .ref fl, .int h0_frameCount, .ref lb, .ref lh, .int h0_labelCount, .int h0_at])), (ce, .inl (cce, 16384, .inr (.inl gce))), (gl, .inl (cgl, 20, .inr (.inl ggl))), (aw, .inr (10, [.ref aw_bytes_r, .ref ac, .int aw_typeCount, .ref aw_typeTakes_r, .ref aw_typeParameters_r, .ref aw_typeGives_r, .int aw_functionCount, .ref aw_functionType_r, .int aw_hasMemory, .long aw_pagesLeast, .long aw_pagesMost, .int aw_globalCount, .ref aw_globalTypes_r, .ref aw_firstTypes_r, .ref wfv, .ref aw_globalChanges_r, .int aw_exportCount, .ref aw_exportKinds_r, .ref aw_exportIndices_r, .ref aw_exportStarts_r, .ref aw_exportSizes_r])), (wfv, .inl (cwfv, 20, .inr (.inl gwfv)))] sz) := by
  refine Met.ofW (cc := b_MA_load1) (maxL := 3) (ret := none) (by decide) rfl ?_
  intro p e s m args below meth c s₁ B hml hv
  obtain ⟨rfl, hsz, hP, hK, hD0⟩ := hv
  have hx := B.exec
  have hb := B.bytes
  have hr := B.returns
  have hts0 := atoms_spec (ws := w_MA_load1) B.pre
  have hts : ∀ w ∈ lw_g, w.before _ s = true := fun w h => hts0 w (List.mem_cons_of_mem _ h)
  have hown : s.vm.findClass R_MA = some m.cls := findClass_of_methodNamed B.named
  have hlocks := B.notSynchronized
  clear hts0
  subst hsz
  have hD := hD0.self (sz := s.heap.size)
  generalize hAe : va_A [(h0, .inr (4, [.int h0_pages, .int h0_steps, .int h0_reason, .ref gl, h0_wafer, h0_codes, .ref ce, .ref sk, .int h0_height, .ref fb, .ref fs, .ref ff, .ref fl, .int h0_frameCount, .ref lb, .ref lh, .int h0_labelCount, .int h0_at])), (ce, .inl (cce, 16384, .inr (.inl gce))), (gl, .inl (cgl, 20, .inr (.inl ggl))), (aw, .inr (10, [.ref aw_bytes_r, .ref ac, .int aw_typeCount, .ref aw_typeTakes_r, .ref aw_typeParameters_r, .ref aw_typeGives_r, .int aw_functionCount, .ref aw_functionType_r, .int aw_hasMemory, .long aw_pagesLeast, .long aw_pagesMost, .int aw_globalCount, .ref aw_globalTypes_r, .ref aw_firstTypes_r, .ref wfv, .ref aw_globalChanges_r, .int aw_exportCount, .ref aw_exportKinds_r, .ref aw_exportIndices_r, .ref aw_exportStarts_r, .ref aw_exportSizes_r])), (wfv, .inl (cwfv, 20, .inr (.inl gwfv)))] s.heap.size = A at hD ⊢
  have hA : ∀ q : Nat, s.heap.size ≤ q → A q := fun q h => by rw [← hAe]; exact Or.inr h
  clear hAe
  have hP : va_P (dC, dI) cls [(h0, .inr (4, [.int h0_pages, .int h0_steps, .int h0_reason, .ref gl, h0_wafer, h0_codes, .ref ce, .ref sk, .int h0_height, .ref fb, .ref fs, .ref ff, .ref fl, .int h0_frameCount, .ref lb, .ref lh, .int h0_labelCount, .int h0_at])), (ce, .inl (cce, 16384, .inr (.inl gce))), (gl, .inl (cgl, 20, .inr (.inl ggl))), (aw, .inr (10, [.ref aw_bytes_r, .ref ac, .int aw_typeCount, .ref aw_typeTakes_r, .ref aw_typeParameters_r, .ref aw_typeGives_r, .int aw_functionCount, .ref aw_functionType_r, .int aw_hasMemory, .long aw_pagesLeast, .long aw_pagesMost, .int aw_globalCount, .ref aw_globalTypes_r, .ref aw_firstTypes_r, .ref wfv, .ref aw_globalChanges_r, .int aw_exportCount, .ref aw_exportKinds_r, .ref aw_exportIndices_r, .ref aw_exportStarts_r, .ref aw_exportSizes_r])), (wfv, .inl (cwfv, 20, .inr (.inl gwfv)))] s.heap := hP
  have hl := lv_entry ([.ref h0, .ref aw]) (n := 3) (Nat.le_of_ble_eq_true rfl)
  rw [lg_entry_eq]
  generalize (lg_sl ([.ref h0, .ref aw]) ++ List.replicate (3 - (lg_sl ([.ref h0, .ref aw])).length) Slot.unset).toArray = ls at hl ⊢
  have hl : lv_has ls 3 [(0, .ref h0), (1, .ref aw)] := hl
  have k0 : (0 : Int32).toInt = 0 := by decide
  refine w_gen (A := A) hP (fun H locs hP hS => ?_)
  have k1 : (1 : Int32).toInt = 1 := by decide
  refine lv_aload_n hx hb d_MA_load1_0 rfl (lv_at hl 0 rfl) ?_
  refine lv_aload_n hx hb d_MA_load1_1 rfl (lv_at hl 1 rfl) ?_
  refine va_put (D := (dC, dI)) (ci := 4) (v := .ref aw) (ty := .object "WaferForge$Wafer") (C := R_MA) (T := F_MA) (N := 18) hx hb hts i_MA t_MA t_MA_ok n_MA hown hK hP hD hS 0 rfl rfl 4 (by decide) (hts _ kF_MA_40) (fun _ h9 => h9) rfl (by decide +kernel) rfl rfl (Nat.le_of_ble_eq_true rfl) d_MA_load1_2 (fun H locs hP hD hS => ?_)
  refine lv_aload_n hx hb d_MA_load1_5 rfl (lv_at hl 0 rfl) ?_
  refine lv_aload_n hx hb d_MA_load1_6 rfl (lv_at hl 1 rfl) ?_
  refine va_get (D := (dC, dI)) (ci := 10) (v := .ref ac) (C := R_WA) (T := F_WA) (N := 21) hx hb hts i_WA hown hK hP 3 rfl rfl 1 (by decide) (hts _ kF_MA_44) (fun _ h9 => h9) rfl d_MA_load1_7 ?_
  refine va_put (D := (dC, dI)) (ci := 4) (v := .ref ac) (ty := .object "WaferForge$Codes") (C := R_MA) (T := F_MA) (N := 18) hx hb hts i_MA t_MA t_MA_ok n_MA hown hK hP hD hS 0 rfl rfl 5 (by decide) (hts _ kF_MA_50) (fun _ h9 => h9) rfl (by decide +kernel) rfl rfl (Nat.le_of_ble_eq_true rfl) d_MA_load1_10 (fun H locs hP hD hS => ?_)
  refine lv_aload_n hx hb d_MA_load1_13 rfl (lv_at hl 0 rfl) ?_
  refine lv_aload_n hx hb d_MA_load1_14 rfl (lv_at hl 0 rfl) ?_
  refine va_get (D := (dC, dI)) (ci := 4) (v := .ref aw) (C := R_MA) (T := F_MA) (N := 18) hx hb hts i_MA hown hK hP 0 rfl rfl 4 (by decide) (hts _ kF_MA_40) (fun _ h9 => h9) rfl d_MA_load1_15 ?_
  refine va_get (D := (dC, dI)) (ci := 10) (v := .long aw_pagesLeast) (C := R_WA) (T := F_WA) (N := 21) hx hb hts i_WA hown hK hP 3 rfl rfl 9 (by decide) (hts _ kF_MA_51) (fun _ h9 => h9) rfl d_MA_load1_18 ?_
  refine lv_l2i hx hb d_MA_load1_21 rfl ?_
  refine lv_topi (fun x1 ex1 => ?_)
  have tx1 := l2i_t ex1 (by omega) (by omega)
  refine va_put (D := (dC, dI)) (ci := 4) (v := .int x1) (ty := .int) (C := R_MA) (T := F_MA) (N := 18) hx hb hts i_MA t_MA t_MA_ok n_MA hown hK hP hD hS 0 rfl rfl 0 (by decide) (hts _ kF_MA_55) (fun _ h9 => h9) rfl (by decide +kernel) rfl rfl (Nat.le_of_ble_eq_true rfl) d_MA_load1_22 (fun H locs hP hD hS => ?_)
  refine lv_aload_n hx hb d_MA_load1_25 rfl (lv_at hl 0 rfl) ?_
  refine va_get (D := (dC, dI)) (ci := 4) (v := .ref ce) (C := R_MA) (T := F_MA) (N := 18) hx hb hts i_MA hown hK hP 0 rfl rfl 6 (by decide) (hts _ kF_MA_15) (fun _ h9 => h9) rfl d_MA_load1_26 ?_
  refine lv_lconst (v := 0) hx hb d_MA_load1_29 (by decide) ?_
  have kl0 : (0 : Int64).toInt = 0 := by decide
  have hPc := hP.sub (ws' := [(ce, .inl (cce, 16384, .inr (.inl gce)))]) [1] rfl
  have hDc := hD.sub (ws' := [(ce, .inl (cce, 16384, .inr (.inl gce)))]) [1] (by decide) rfl
  have hKc := hK.sub (tys' := [(cce, .long)]) [0] rfl
  have hFc := va_free (wc := [(ce, .inl (cce, 16384, .inr (.inl gce)))]) hD hS hA [1] rfl
  refine va_callv (va_runS (As := [.ref ce, .long 0]) (rest := []) ⟨hx, hb, hml, hown, hts⟩ (c_JA_fill l dC dI H.size ce cce gce 0) ⟨callB_of 2 hts (gW kC_JA_fill) rfl rfl rfl (hts _ kI_JA) (hts _ kM_MA_59) (by decide +kernel) ⟨Nat.le_of_ble_eq_true rfl, Nat.le_of_ble_eq_true rfl⟩, hts _ kT_JA_fill⟩ ⟨fun a U g mk z => by obtain ⟨z0, z1, zP, zK, zD⟩ := z; exact ⟨z0, z1, zP, va_K.moved (u := U) (U := U.calling g mk a) (Vm.Alike.refl U.vm) zK, zD⟩, fun U hU hW => ⟨rfl, by rw [hU], by rw [hU]; exact hPc, va_K.moved hW.alike hKc, hDc.weaken (fun _ _ _ _ => trivial)⟩⟩ rfl rfl hl.1 rfl (lv_room (Nat.le_of_ble_eq_true rfl)) d_MA_load1_30 ⟨(Nat.zero_le _), (Nat.zero_le _)⟩) hS (fun q _ h => hFc q h) hFc (fun u t H1 locs ht hvm hw hB hz1 hk1 hS => ?_)
  obtain ⟨n3, rfl⟩ : ∃ z, z = u := ⟨_, rfl⟩
  try dsimp only at hw
  have xr2 := hw
  try clear hw
  obtain ⟨hP1, hK1, hD1⟩ := hB
  rw [ht] at hP1
  obtain ⟨hP, hD⟩ := va_join (wr := [(h0, .inr (4, [.int x1, .int h0_steps, .int h0_reason, .ref gl, .ref aw, .ref ac, .ref ce, .ref sk, .int h0_height, .ref fb, .ref fs, .ref ff, .ref fl, .int h0_frameCount, .ref lb, .ref lh, .int h0_labelCount, .int h0_at])), (gl, .inl (cgl, 20, .inr (.inl ggl))), (aw, .inr (10, [.ref aw_bytes_r, .ref ac, .int aw_typeCount, .ref aw_typeTakes_r, .ref aw_typeParameters_r, .ref aw_typeGives_r, .int aw_functionCount, .ref aw_functionType_r, .int aw_hasMemory, .long aw_pagesLeast, .long aw_pagesMost, .int aw_globalCount, .ref aw_globalTypes_r, .ref aw_firstTypes_r, .ref wfv, .ref aw_globalChanges_r, .int aw_exportCount, .ref aw_exportKinds_r, .ref aw_exportIndices_r, .ref aw_exportStarts_r, .ref aw_exportSizes_r])), (wfv, .inl (cwfv, 20, .inr (.inl gwfv)))]) (w1 := [(ce, .inl (cce, 16384, .inr (.inl n3)))]) hP hD [1] [0, 2, 3, 4] rfl rfl (by decide) (by decide) hk1 hFc hP1 hD1
  clear hPc hDc hKc hFc hz1 hk1 hP1 hK1 hD1
  generalize H1 = H at hP hS ⊢
  have hP : va_P (dC, dI) cls [(h0, .inr (4, [.int x1, .int h0_steps, .int h0_reason, .ref gl, .ref aw, .ref ac, .ref ce, .ref sk, .int h0_height, .ref fb, .ref fs, .ref ff, .ref fl, .int h0_frameCount, .ref lb, .ref lh, .int h0_labelCount, .int h0_at])), (gl, .inl (cgl, 20, .inr (.inl ggl))), (aw, .inr (10, [.ref aw_bytes_r, .ref ac, .int aw_typeCount, .ref aw_typeTakes_r, .ref aw_typeParameters_r, .ref aw_typeGives_r, .int aw_functionCount, .ref aw_functionType_r, .int aw_hasMemory, .long aw_pagesLeast, .long aw_pagesMost, .int aw_globalCount, .ref aw_globalTypes_r, .ref aw_firstTypes_r, .ref wfv, .ref aw_globalChanges_r, .int aw_exportCount, .ref aw_exportKinds_r, .ref aw_exportIndices_r, .ref aw_exportStarts_r, .ref aw_exportSizes_r])), (wfv, .inl (cwfv, 20, .inr (.inl gwfv))), (ce, .inl (cce, 16384, .inr (.inl n3)))] H := hP
  have hD : va_D A [(h0, .inr (4, [.int x1, .int h0_steps, .int h0_reason, .ref gl, .ref aw, .ref ac, .ref ce, .ref sk, .int h0_height, .ref fb, .ref fs, .ref ff, .ref fl, .int h0_frameCount, .ref lb, .ref lh, .int h0_labelCount, .int h0_at])), (gl, .inl (cgl, 20, .inr (.inl ggl))), (aw, .inr (10, [.ref aw_bytes_r, .ref ac, .int aw_typeCount, .ref aw_typeTakes_r, .ref aw_typeParameters_r, .ref aw_typeGives_r, .int aw_functionCount, .ref aw_functionType_r, .int aw_hasMemory, .long aw_pagesLeast, .long aw_pagesMost, .int aw_globalCount, .ref aw_globalTypes_r, .ref aw_firstTypes_r, .ref wfv, .ref aw_globalChanges_r, .int aw_exportCount, .ref aw_exportKinds_r, .ref aw_exportIndices_r, .ref aw_exportStarts_r, .ref aw_exportSizes_r])), (wfv, .inl (cwfv, 20, .inr (.inl gwfv))), (ce, .inl (cce, 16384, .inr (.inl n3)))] := hD
  refine lv_iconst (v := 0) hx hb d_MA_load1_33 (by decide) ?_
  refine lv_istore_n (lv' := [(2, .int 0), (0, .ref h0), (1, .ref aw)]) hx hb d_MA_load1_34 rfl hl (by decide) rfl (fun ls hl => ?_)
  refine w_loop (σ := Int32 × (Nat → Int64)) (fun u H locs ls => match u with | (j35_l2, j35_gl) => (0 ≤ j35_l2.toInt ∧ j35_l2.toInt ≤ 20) ∧ (j35_l2.toInt ≤ aw_globalCount.toInt) ∧ va_P (dC, dI) cls [(h0, .inr (4, [.int x1, .int h0_steps, .int h0_reason, .ref gl, .ref aw, .ref ac, .ref ce, .ref sk, .int h0_height, .ref fb, .ref fs, .ref ff, .ref fl, .int h0_frameCount, .ref lb, .ref lh, .int h0_labelCount, .int h0_at])), (gl, .inl (cgl, 20, .inr (.inl j35_gl))), (aw, .inr (10, [.ref aw_bytes_r, .ref ac, .int aw_typeCount, .ref aw_typeTakes_r, .ref aw_typeParameters_r, .ref aw_typeGives_r, .int aw_functionCount, .ref aw_functionType_r, .int aw_hasMemory, .long aw_pagesLeast, .long aw_pagesMost, .int aw_globalCount, .ref aw_globalTypes_r, .ref aw_firstTypes_r, .ref wfv, .ref aw_globalChanges_r, .int aw_exportCount, .ref aw_exportKinds_r, .ref aw_exportIndices_r, .ref aw_exportStarts_r, .ref aw_exportSizes_r])), (wfv, .inl (cwfv, 20, .inr (.inl gwfv))), (ce, .inl (cce, 16384, .inr (.inl n3)))] H ∧ va_D A [(h0, .inr (4, [.int x1, .int h0_steps, .int h0_reason, .ref gl, .ref aw, .ref ac, .ref ce, .ref sk, .int h0_height, .ref fb, .ref fs, .ref ff, .ref fl, .int h0_frameCount, .ref lb, .ref lh, .int h0_labelCount, .int h0_at])), (gl, .inl (cgl, 20, .inr (.inl j35_gl))), (aw, .inr (10, [.ref aw_bytes_r, .ref ac, .int aw_typeCount, .ref aw_typeTakes_r, .ref aw_typeParameters_r, .ref aw_typeGives_r, .int aw_functionCount, .ref aw_functionType_r, .int aw_hasMemory, .long aw_pagesLeast, .long aw_pagesMost, .int aw_globalCount, .ref aw_globalTypes_r, .ref aw_firstTypes_r, .ref wfv, .ref aw_globalChanges_r, .int aw_exportCount, .ref aw_exportKinds_r, .ref aw_exportIndices_r, .ref aw_exportStarts_r, .ref aw_exportSizes_r])), (wfv, .inl (cwfv, 20, .inr (.inl gwfv))), (ce, .inl (cce, 16384, .inr (.inl n3)))] ∧ va_S A s.heap H locs ∧ lv_has ls 3 [(0, .ref h0), (2, .int j35_l2)]) (fun u => match u with | (j35_l2, j35_gl) => (aw_globalCount.toInt - j35_l2.toInt).toNat) ?_ (0, ggl) ⟨by (try dsimp only) <;> omega, by (try dsimp only) <;> omega, hP, hD, hS, lv_sub hl [1, 0] rfl⟩
  intro N35 ih35 u H locs ls hN35 hI
  obtain ⟨j35_l2, j35_gl⟩ := u
  obtain ⟨b_j35_l2, v1, hP, hD, hS, hl⟩ := hI
  have hN35 : (aw_globalCount.toInt - j35_l2.toInt).toNat < N35 + 1 := hN35
  refine lv_iload_n hx hb d_MA_load1_35 rfl (lv_at hl 1 rfl) ?_
  refine lv_aload_n hx hb d_MA_load1_36 rfl (lv_at hl 0 rfl) ?_
  refine va_get (D := (dC, dI)) (ci := 4) (v := .ref aw) (C := R_MA) (T := F_MA) (N := 18) hx hb hts i_MA hown hK hP 0 rfl rfl 4 (by decide) (hts _ kF_MA_40) (fun _ h9 => h9) rfl d_MA_load1_37 ?_
  refine va_get (D := (dC, dI)) (ci := 10) (v := .int aw_globalCount) (C := R_WA) (T := F_WA) (N := 21) hx hb hts i_WA hown hK hP 2 rfl rfl 11 (by decide) (hts _ kF_MA_65) (fun _ h9 => h9) rfl d_MA_load1_40 ?_
  refine lv_icmp_ge (tgt := 67) hx hb d_MA_load1_43 (by decide) (fun c43 => ?_) (fun c43 => ?_)
  · have q43 := leI c43
    have hP9 := hP.sub (ws' := [(h0, .inr (4, [.int x1, .int h0_steps, .int h0_reason, .ref gl, .ref aw, .ref ac, .ref ce, .ref sk, .int h0_height, .ref fb, .ref fs, .ref ff, .ref fl, .int h0_frameCount, .ref lb, .ref lh, .int h0_labelCount, .int h0_at])), (ce, .inl (cce, 16384, .inr (.inl n3))), (gl, .inl (cgl, 20, .inr (.inl j35_gl))), (aw, .inr (10, [.ref aw_bytes_r, .ref ac, .int aw_typeCount, .ref aw_typeTakes_r, .ref aw_typeParameters_r, .ref aw_typeGives_r, .int aw_functionCount, .ref aw_functionType_r, .int aw_hasMemory, .long aw_pagesLeast, .long aw_pagesMost, .int aw_globalCount, .ref aw_globalTypes_r, .ref aw_firstTypes_r, .ref wfv, .ref aw_globalChanges_r, .int aw_exportCount, .ref aw_exportKinds_r, .ref aw_exportIndices_r, .ref aw_exportStarts_r, .ref aw_exportSizes_r])), (wfv, .inl (cwfv, 20, .inr (.inl gwfv)))]) [0, 4, 1, 2, 3] rfl
    have hD9 := hD.sub (ws' := [(h0, .inr (4, [.int x1, .int h0_steps, .int h0_reason, .ref gl, .ref aw, .ref ac, .ref ce, .ref sk, .int h0_height, .ref fb, .ref fs, .ref ff, .ref fl, .int h0_frameCount, .ref lb, .ref lh, .int h0_labelCount, .int h0_at])), (ce, .inl (cce, 16384, .inr (.inl n3))), (gl, .inl (cgl, 20, .inr (.inl j35_gl))), (aw, .inr (10, [.ref aw_bytes_r, .ref ac, .int aw_typeCount, .ref aw_typeTakes_r, .ref aw_typeParameters_r, .ref aw_typeGives_r, .int aw_functionCount, .ref aw_functionType_r, .int aw_hasMemory, .long aw_pagesLeast, .long aw_pagesMost, .int aw_globalCount, .ref aw_globalTypes_r, .ref aw_firstTypes_r, .ref wfv, .ref aw_globalChanges_r, .int aw_exportCount, .ref aw_exportKinds_r, .ref aw_exportIndices_r, .ref aw_exportStarts_r, .ref aw_exportSizes_r])), (wfv, .inl (cwfv, 20, .inr (.inl gwfv)))]) [0, 4, 1, 2, 3] (by decide) rfl
    exact W.vret hx hb hr (fun t ht hW => ⟨⟨(n3, j35_gl, x1), rfl, ⟨by (try dsimp only) <;> omega, by (try dsimp only) <;> omega⟩, by rw [ht]; exact hP9, va_K.moved hW.alike hK, hD9⟩, hS.F ht⟩) hS.2.2 d_MA_load1_67
  · have q43 := nleI c43
    refine lv_aload_n hx hb d_MA_load1_46 rfl (lv_at hl 0 rfl) ?_
    refine va_get (D := (dC, dI)) (ci := 4) (v := .ref gl) (C := R_MA) (T := F_MA) (N := 18) hx hb hts i_MA hown hK hP 0 rfl rfl 3 (by decide) (hts _ kF_MA_9) (fun _ h9 => h9) rfl d_MA_load1_47 ?_
    refine lv_iload_n hx hb d_MA_load1_50 rfl (lv_at hl 1 rfl) ?_
    refine lv_aload_n hx hb d_MA_load1_51 rfl (lv_at hl 0 rfl) ?_
    refine va_get (D := (dC, dI)) (ci := 4) (v := .ref aw) (C := R_MA) (T := F_MA) (N := 18) hx hb hts i_MA hown hK hP 0 rfl rfl 4 (by decide) (hts _ kF_MA_40) (fun _ h9 => h9) rfl d_MA_load1_52 ?_
    refine va_get (D := (dC, dI)) (ci := 10) (v := .ref wfv) (C := R_WA) (T := F_WA) (N := 21) hx hb hts i_WA hown hK hP 2 rfl rfl 14 (by decide) (hts _ kF_MA_68) (fun _ h9 => h9) rfl d_MA_load1_55 ?_
    refine lv_iload_n hx hb d_MA_load1_58 rfl (lv_at hl 1 rfl) ?_
    have g59 : vp_in j35_l2 20 := vp_in_iff.mpr ⟨by omega, by omega⟩
    refine va_lald hx hb hK hP 3 2 rfl rfl g59 d_MA_load1_59 ?_
    refine lv_topl (fun x4 ex4 => ?_)
    have g60 : vp_in j35_l2 20 := vp_in_iff.mpr ⟨by omega, by omega⟩
    refine va_last hx hb hK hP hD hS 1 1 rfl rfl g60 d_MA_load1_60 (fun H locs hP hD hS => ?_)
    generalize ef5 : vp_updL j35_gl j35_l2.toNatClampNeg x4 = f5 at hP hD
    obtain ⟨x6, ex6⟩ : ∃ z : Int32, z = j35_l2 + 1 := ⟨_, rfl⟩
    have tx6 : x6.toInt = j35_l2.toInt + 1 := by have z := i32_add ex6 (by omega) (by omega); omega
    refine lv_iinc (v := x6) (lv' := [(2, .int x6), (0, .ref h0)]) hx hb d_MA_load1_61 hl (k := 1) rfl (by rw [ex6]; rfl) (by decide) rfl (fun ls hl => ?_)
    refine lv_goto (tgt := 35) hx hb d_MA_load1_64 (by decide) ?_
    exact ih35 (x6, f5) _ _ _ (by show (aw_globalCount.toInt - x6.toInt).toNat < N35; omega) ⟨by (try dsimp only) <;> omega, by (try dsimp only) <;> omega, hP, hD, hS, lv_sub hl [1, 0] rfl⟩

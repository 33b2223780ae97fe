/-! the makers of texts: a text is laid behind -/
abbrev b_JS_getBytes : ByteArray := prog_33_method_147_code
def y_JS_getBytes : MethodName := ⟨R_JS, "getBytes", "([BIB)V"⟩
abbrev w_JS_getBytes : List Cond := .code y_JS_getBytes b_JS_getBytes 4 none :: lw_g
theorem kC_JS_getBytes : Cond.code y_JS_getBytes b_JS_getBytes 4 none ∈ lw_g := in_g 2345 (by decide +kernel) rfl
theorem d_JS_getBytes_0 : decode b_JS_getBytes 0 = .ok (.aload_n 0, 1) := by decide +kernel
theorem d_JS_getBytes_1 : decode b_JS_getBytes 1 = .ok (.invokevirtual 335, 3) := by decide +kernel
theorem d_JS_getBytes_4 : decode b_JS_getBytes 4 = .ok (.iload_n 3, 1) := by decide +kernel
theorem d_JS_getBytes_5 : decode b_JS_getBytes 5 = .ok (.if_icmp .ne 23, 3) := by decide +kernel
theorem d_JS_getBytes_8 : decode b_JS_getBytes 8 = .ok (.aload_n 0, 1) := by decide +kernel
theorem d_JS_getBytes_9 : decode b_JS_getBytes 9 = .ok (.getfield 9, 3) := by decide +kernel
theorem d_JS_getBytes_12 : decode b_JS_getBytes 12 = .ok (.iconst 0, 1) := by decide +kernel
theorem d_JS_getBytes_13 : decode b_JS_getBytes 13 = .ok (.aload_n 1, 1) := by decide +kernel
theorem d_JS_getBytes_14 : decode b_JS_getBytes 14 = .ok (.iload_n 2, 1) := by decide +kernel
theorem d_JS_getBytes_15 : decode b_JS_getBytes 15 = .ok (.iload_n 3, 1) := by decide +kernel
theorem d_JS_getBytes_16 : decode b_JS_getBytes 16 = .ok (.ishl, 1) := by decide +kernel
theorem d_JS_getBytes_17 : decode b_JS_getBytes 17 = .ok (.aload_n 0, 1) := by decide +kernel
theorem d_JS_getBytes_18 : decode b_JS_getBytes 18 = .ok (.getfield 9, 3) := by decide +kernel
theorem d_JS_getBytes_21 : decode b_JS_getBytes 21 = .ok (.arraylength, 1) := by decide +kernel
theorem d_JS_getBytes_22 : decode b_JS_getBytes 22 = .ok (.invokestatic 212, 3) := by decide +kernel
theorem d_JS_getBytes_25 : decode b_JS_getBytes 25 = .ok (.goto 18, 3) := by decide +kernel
theorem d_JS_getBytes_28 : decode b_JS_getBytes 28 = .ok (.aload_n 0, 1) := by decide +kernel
theorem d_JS_getBytes_29 : decode b_JS_getBytes 29 = .ok (.getfield 9, 3) := by decide +kernel
theorem d_JS_getBytes_32 : decode b_JS_getBytes 32 = .ok (.iconst 0, 1) := by decide +kernel
theorem d_JS_getBytes_33 : decode b_JS_getBytes 33 = .ok (.aload_n 1, 1) := by decide +kernel
theorem d_JS_getBytes_34 : decode b_JS_getBytes 34 = .ok (.iload_n 2, 1) := by decide +kernel
theorem d_JS_getBytes_35 : decode b_JS_getBytes 35 = .ok (.aload_n 0, 1) := by decide +kernel
theorem d_JS_getBytes_36 : decode b_JS_getBytes 36 = .ok (.getfield 9, 3) := by decide +kernel
theorem d_JS_getBytes_39 : decode b_JS_getBytes 39 = .ok (.arraylength, 1) := by decide +kernel
theorem d_JS_getBytes_40 : decode b_JS_getBytes 40 = .ok (.invokestatic 106, 3) := by decide +kernel
theorem d_JS_getBytes_43 : decode b_JS_getBytes 43 = .ok (.return_, 1) := by decide +kernel
abbrev b_JT_inflate : ByteArray := prog_35_method_50_code
def y_JT_inflate : MethodName := ⟨R_JT, "inflate", "([BI[BII)V"⟩
abbrev w_JT_inflate : List Cond := .code y_JT_inflate b_JT_inflate 5 none :: lw_g
theorem kC_JT_inflate : Cond.code y_JT_inflate b_JT_inflate 5 none ∈ lw_g := in_g 2225 (by decide +kernel) rfl
theorem kM_JS_106 : Cond.methodLink R_JS 106 y_JT_inflate ∈ lw_g := in_g 2347 (by decide +kernel) rfl
theorem kT_JT_inflate : Cond.static y_JT_inflate ∈ lw_g := in_g 2224 (by decide +kernel) rfl
theorem kM_JS_212 : Cond.methodLink R_JS 212 arraycopyName ∈ lw_g := in_g 2346 (by decide +kernel) rfl
abbrev at_JS_getBytes (dC : Nat → ClassId) (dI : Nat → Nat → Nat) (sa : Nat → Nat) (va : Nat) (cpb : ClassId) (nva : Nat) (A : Nat → Prop) (u : (Nat → Int32)) (t : State) : Prop := match u with | gva => va_P (dC, dI) cls2 [(va, .inl (cpb, nva, .inl gva))] t.heap ∧ va_K (dC, dI) cls2 [(cpb, .byte)] t ∧ va_D A [(va, .inl (cpb, nva, .inl gva))]
set_option maxHeartbeats 4000000 in
set_option maxRecDepth 100000 in
theorem c_JS_getBytes (l : Launch) (hlt : l.stackTraces = false) (dC : Nat → ClassId) (dI : Nat → Nat → Nat) (sz : Nat) (sa : Nat → Nat) (tx tv : Nat) (b : List Int32) (va : Nat) (cpb : ClassId) (nva : Nat) (gva : Nat → Int32)  (b_gva : ∀ j : Nat, -128 ≤ (gva j).toInt ∧ (gva j).toInt ≤ 127) (p1 : Int32) (p2 : Int32)  (hp : 0 ≤ p1.toInt ∧ p1.toInt + (b.length : Int) ≤ (nva : Int) ∧ p1.toInt ≤ 1000000) (hp2 : p2 = 0) (hbb : ∀ j : Nat, -128 ≤ (b.getD j 0).toInt ∧ (b.getD j 0).toInt ≤ 127) (hbl : (b.length : Int) ≤ 100000) : Met l y_JS_getBytes w_JS_getBytes ({ frames := 1, cells := 0, slots := 0, locals := 40 }) (va_Pc [.ref tx, .ref va, .int p1, .int p2] (fun U => U.heap.size = sz ∧ va_P (dC, dI) cls2 [(va, .inl (cpb, nva, .inl gva))] U.heap ∧ va_K (dC, dI) cls2 [(cpb, .byte)] U ∧ va_D (fun _ => True) [(va, .inl (cpb, nva, .inl gva))] ∧ sm sa (va_A [(va, .inl (cpb, nva, .inl gva))] sz) U U.heap ∧ sw_str tx tv b (va_A [(va, .inl (cpb, nva, .inl gva))] sz) U U.heap)) (va_Qv (fun (u : (Nat → Int32)) => match u with | gva2 => (∀ j : Nat, -128 ≤ (gva2 j).toInt ∧ (gva2 j).toInt ≤ 127) ∧ ((∀ j : Nat, (j : Int) < p1.toInt → gva2 j = gva j) ∧ ∀ j : Nat, j < b.length → gva2 (p1.toNatClampNeg + j) = b.getD j 0)) (at_JS_getBytes dC dI sa va cpb nva (va_A [(va, .inl (cpb, nva, .inl gva))] sz)) (va_A [(va, .inl (cpb, nva, .inl gva))] sz)) 0 0 (va_A [(va, .inl (cpb, nva, .inl gva))] sz) := by
  refine Met.ofW (cc := b_JS_getBytes) (maxL := 4) (ret := none) (by decide) rfl ?_
  intro p e s m args below meth c s₁ B hml hv
  obtain ⟨rfl, hsz, hP, hK, hD0, hSW, hR0⟩ := hv
  have hx := B.exec
  have hb := B.bytes
  have hr := B.returns
  have hts0 := atoms_spec (ws := w_JS_getBytes) B.pre
  have hts : ∀ w ∈ lw_g, w.before _ s = true := fun w h => hts0 w (List.mem_cons_of_mem _ h)
  have hown : s.vm.findClass R_JS = some m.cls := findClass_of_methodNamed B.named
  have hlocks := B.notSynchronized
  clear hts0
  subst hsz
  have hD := hD0.self (sz := s.heap.size)
  generalize hAe : va_A [(va, .inl (cpb, nva, .inl gva))] s.heap.size = A at hD hSW hR0 ⊢
  have hA : ∀ q : Nat, s.heap.size ≤ q → A q := fun q h => by rw [← hAe]; exact Or.inr h
  clear hAe
  have hP : va_P (dC, dI) cls2 [(va, .inl (cpb, nva, .inl gva))] s.heap := hP
  have hl := lv_entry ([.ref tx, .ref va, .int p1, .int p2]) (n := 4) (Nat.le_of_ble_eq_true rfl)
  rw [lg_entry_eq]
  generalize (lg_sl ([.ref tx, .ref va, .int p1, .int p2]) ++ List.replicate (4 - (lg_sl ([.ref tx, .ref va, .int p1, .int p2])).length) Slot.unset).toArray = ls at hl ⊢
  have hl : lv_has ls 4 [(0, .ref tx), (1, .ref va), (2, .int p1), (3, .int p2)] := hl
  have k0 : (0 : Int32).toInt = 0 := by decide
  refine w_gen (A := A) hP (fun H locs hP hS => ?_)
  have lo_p1 := i32_lo p1
  have hi_p1 := i32_hi p1
  have lo_p2 := i32_lo p2
  have hi_p2 := i32_hi p2
  have hp3 : p2.toInt = 0 := by rw [hp2]; decide
  refine lv_aload_n hx hb d_JS_getBytes_0 rfl (lv_at hl 0 rfl) ?_
  have hPc := @vp_nil
  have hDc := hD.sub (ws' := []) [] (by decide) rfl
  have hKc := (k2_of hK).sub (tys' := []) [] rfl
  have hFc := va_free (wc := []) hD hS hA [] rfl
  refine va_calli (va_runV (As := []) (rest := []) ⟨hx, hb, hml, hown, hts⟩ (c_JS_coder l dC dI H.size sa tx tv b ) (cwV 0 hts (gV kM_JS_335 kV_JS_coder kS_JS_coder kI_JS kC_JS_coder) rfl rfl rfl (by decide +kernel) ⟨Nat.le_of_ble_eq_true rfl, Nat.le_of_ble_eq_true rfl⟩) ⟨fun a U g mk z => by obtain ⟨z0, z1, zP, zK, zD, zS, zR0⟩ := z; exact ⟨z0, z1, zP, va_K.moved (u := U) (U := U.calling g mk a) (Vm.Alike.refl U.vm) zK, zD, sw.same (u := U) (U := U.calling g mk a) rfl zS, zR0.moved (u := U) (U := U.calling g mk a) (Vm.Alike.refl U.vm)⟩, so_recv (hR0.1) hS, fun U hU hW => ⟨rfl, by rw [hU], by rw [hU]; exact hPc, va_K.moved hW.alike hKc, hDc.weaken (fun _ _ _ _ => trivial), hSW.1.call hS hFc hW hU, (hR0).call hS hFc hW hU⟩⟩ rfl rfl hl.1 rfl (lv_room (Nat.le_of_ble_eq_true rfl)) d_JS_getBytes_1 ⟨(Nat.zero_le _), (Nat.zero_le _)⟩) hS (fun q _ h => hFc q h) hFc (fun r1 u t H1 locs ht hvm hw hB hz1 hk1 hS => ?_)
  try dsimp only at hw
  have xr1 := hw
  try clear hw
  have tr1 : r1.toInt = 0 := by rw [xr1]; decide
  obtain ⟨hP1, hK1, hD1⟩ := hB
  rw [ht] at hP1
  replace hP1 := @vp_nil (dC, dI) cls2 H1
  obtain ⟨hP, hD⟩ := va_join (wr := [(va, .inl (cpb, nva, .inl gva))]) (w1 := []) hP hD [] [0] rfl rfl (by decide) (by decide) hk1 hFc hP1 hD1
  clear hPc hDc hKc hFc hz1 hk1 hP1 hK1 hD1
  generalize H1 = H at hP hS ⊢
  have hP : va_P (dC, dI) cls2 [(va, .inl (cpb, nva, .inl gva))] H := hP
  have hD : va_D A [(va, .inl (cpb, nva, .inl gva))] := hD
  refine lv_iload_n hx hb d_JS_getBytes_4 rfl (lv_at hl 3 rfl) ?_
  refine lv_icmp_ne (tgt := 28) hx hb d_JS_getBytes_5 (by decide) (fun c5 => absurd (neI c5) (by omega)) (fun c5 => ?_)
  have q5 := eqI c5
  refine lv_aload_n hx hb d_JS_getBytes_8 rfl (lv_at hl 0 rfl) ?_
  refine vk_getf (v := .ref tv) hx hb (hR0.2.2.1) hS hown (hts _ kF_JS_9) (fun _ h9 => h9) d_JS_getBytes_9 ?_
  refine lv_iconst (v := 0) hx hb d_JS_getBytes_12 (by decide) ?_
  refine lv_aload_n hx hb d_JS_getBytes_13 rfl (lv_at hl 1 rfl) ?_
  refine lv_iload_n hx hb d_JS_getBytes_14 rfl (lv_at hl 2 rfl) ?_
  refine lv_iload_n hx hb d_JS_getBytes_15 rfl (lv_at hl 3 rfl) ?_
  refine lv_ishl hx hb d_JS_getBytes_16 ?_
  refine lv_topi (fun x2 ex2 => ?_)
  have tx2 := sh0p hp2 ex2
  refine lv_aload_n hx hb d_JS_getBytes_17 rfl (lv_at hl 0 rfl) ?_
  refine vk_getf (v := .ref tv) hx hb (hR0.2.2.1) hS hown (hts _ kF_JS_9) (fun _ h9 => h9) d_JS_getBytes_18 ?_
  refine va_tlen hx hb (hR0.2.2.2) hS rfl d_JS_getBytes_21 ?_
  refine lv_topi (fun x3 ex3 => ?_)
  have tx3 : x3.toInt = b.length := by rw [ex3]; exact i32_len (by omega)
  have z9x2 := i32_clamp (x := x2) (by omega)
  have z9x3 := i32_clamp (x := x3) (by omega)
  have k00 : (0 : Int32).toNatClampNeg = 0 := rfl
  refine vk_copyt (f := (fun j => b.getD j 0)) hx hb (hml.trans hl.1.symm) hown (hts _ kM_JS_212) (hts _ kNA_ac) (hts _ kT_ac) (hts _ kI_sys) hK hP hD hS (hR0.2.2.2) 0 0 rfl rfl (by decide) (nneg9 (by omega)) (nneg9 (by omega)) (by omega) (by omega) (fun i9 _ => fits_b (hbb _)) (Nat.le_of_ble_eq_true rfl) (Nat.le_of_ble_eq_true rfl) d_JS_getBytes_22 (fun H locs hP hD hS => ?_)
  have hP : va_P (dC, dI) cls2 [(va, .inl (cpb, nva, .inl ((va_cpy (fun j => b.getD j 0) gva (0 : Int32).toNatClampNeg x2.toNatClampNeg x3.toNatClampNeg))))] H := hP
  have hD : va_D A [(va, .inl (cpb, nva, .inl ((va_cpy (fun j => b.getD j 0) gva (0 : Int32).toNatClampNeg x2.toNatClampNeg x3.toNatClampNeg))))] := hD
  generalize ef4 : va_cpy (fun j => b.getD j 0) gva (0 : Int32).toNatClampNeg x2.toNatClampNeg x3.toNatClampNeg = f4 at hP hD
  have b_f4 : ∀ j : Nat, -128 ≤ (f4 j).toInt ∧ (f4 j).toInt ≤ 127 := by rw [← ef4]; exact cpy_el (fun j => hbb j) (b_gva)
  refine lv_goto (tgt := 43) hx hb d_JS_getBytes_25 (by decide) ?_
  have hP9 := hP.sub (ws' := [(va, .inl (cpb, nva, .inl f4))]) [0] rfl
  have hD9 := hD.sub (ws' := [(va, .inl (cpb, nva, .inl f4))]) [0] (by decide) rfl
  exact W.vret hx hb hr (fun t ht hW => ⟨⟨f4, rfl, ⟨b_f4, ⟨fun j hj => by rw [← ef4]; exact cpy2.1 (by omega), fun j hj => by rw [← ef4, show p1.toNatClampNeg = x2.toNatClampNeg from by have z1 := i32_clamp (x := p1) (by omega); omega]; exact cpy2.2 (by omega)⟩⟩, by rw [ht]; exact hP9, va_K.moved hW.alike hK, hD9⟩, hS.F ht⟩) hS.2.2 d_JS_getBytes_43
abbrev b_JQ_inflateIfNeededFor : ByteArray := prog_20_method_71_code
def y_JQ_inflateIfNeededFor : MethodName := ⟨R_JQ, "inflateIfNeededFor", "(Ljava/lang/String;)V"⟩
abbrev w_JQ_inflateIfNeededFor : List Cond := .code y_JQ_inflateIfNeededFor b_JQ_inflateIfNeededFor 2 none :: lw_g
theorem kC_JQ_inflateIfNeededFor : Cond.code y_JQ_inflateIfNeededFor b_JQ_inflateIfNeededFor 2 none ∈ lw_g := in_g 2340 (by decide +kernel) rfl
theorem d_JQ_inflateIfNeededFor_0 : decode b_JQ_inflateIfNeededFor 0 = .ok (.getstatic 18, 3) := by decide +kernel
theorem d_JQ_inflateIfNeededFor_3 : decode b_JQ_inflateIfNeededFor 3 = .ok (.ifCond .eq 18, 3) := by decide +kernel
theorem d_JQ_inflateIfNeededFor_6 : decode b_JQ_inflateIfNeededFor 6 = .ok (.aload_n 0, 1) := by decide +kernel
theorem d_JQ_inflateIfNeededFor_7 : decode b_JQ_inflateIfNeededFor 7 = .ok (.getfield 22, 3) := by decide +kernel
theorem d_JQ_inflateIfNeededFor_10 : decode b_JQ_inflateIfNeededFor 10 = .ok (.aload_n 1, 1) := by decide +kernel
theorem d_JQ_inflateIfNeededFor_11 : decode b_JQ_inflateIfNeededFor 11 = .ok (.invokevirtual 40, 3) := by decide +kernel
theorem d_JQ_inflateIfNeededFor_14 : decode b_JQ_inflateIfNeededFor 14 = .ok (.if_icmp .eq 7, 3) := by decide +kernel
theorem d_JQ_inflateIfNeededFor_17 : decode b_JQ_inflateIfNeededFor 17 = .ok (.aload_n 0, 1) := by decide +kernel
theorem d_JQ_inflateIfNeededFor_18 : decode b_JQ_inflateIfNeededFor 18 = .ok (.invokevirtual 195, 3) := by decide +kernel
theorem d_JQ_inflateIfNeededFor_21 : decode b_JQ_inflateIfNeededFor 21 = .ok (.return_, 1) := by decide +kernel
theorem kM_JQ_40 : Cond.methodLink R_JQ 40 y_JS_coder ∈ lw_g := in_g 2341 (by decide +kernel) rfl
abbrev at_JQ_inflateIfNeededFor (dC : Nat → ClassId) (dI : Nat → Nat → Nat) (sa : Nat → Nat) (h0 va : Nat) (h0_maybeLatin1 : Int32) (h0_count : Int32) (A : Nat → Prop) (u : Unit) (t : State) : Prop := match u with | _ => va_P (dC, dI) cls2 [(h0, .inr (17, [.ref va, .int 0, .int h0_maybeLatin1, .int h0_count]))] t.heap ∧ va_K (dC, dI) cls2 [] t ∧ va_D A [(h0, .inr (17, [.ref va, .int 0, .int h0_maybeLatin1, .int h0_count]))]
set_option maxHeartbeats 4000000 in
set_option maxRecDepth 100000 in
theorem c_JQ_inflateIfNeededFor (l : Launch) (hlt : l.stackTraces = false) (dC : Nat → ClassId) (dI : Nat → Nat → Nat) (sz : Nat) (sa : Nat → Nat) (tx tv : Nat) (b : List Int32) (h0 va : Nat) (h0_maybeLatin1 : Int32) (h0_count : Int32)      : Met l y_JQ_inflateIfNeededFor w_JQ_inflateIfNeededFor ({ frames := 1, cells := 0, slots := 0, locals := 20 }) (va_Pc [.ref h0, .ref tx] (fun U => U.heap.size = sz ∧ va_P (dC, dI) cls2 [(h0, .inr (17, [.ref va, .int 0, .int h0_maybeLatin1, .int h0_count]))] U.heap ∧ va_K (dC, dI) cls2 [] U ∧ va_D (fun _ => True) [(h0, .inr (17, [.ref va, .int 0, .int h0_maybeLatin1, .int h0_count]))] ∧ sm sa (va_A [(h0, .inr (17, [.ref va, .int 0, .int h0_maybeLatin1, .int h0_count]))] sz) U U.heap ∧ sw_str tx tv b (va_A [(h0, .inr (17, [.ref va, .int 0, .int h0_maybeLatin1, .int h0_count]))] sz) U U.heap)) (va_Qv (fun (u : Unit) => match u with | _ => True) (at_JQ_inflateIfNeededFor dC dI sa h0 va h0_maybeLatin1 h0_count (va_A [(h0, .inr (17, [.ref va, .int 0, .int h0_maybeLatin1, .int h0_count]))] sz)) (va_A [(h0, .inr (17, [.ref va, .int 0, .int h0_maybeLatin1, .int h0_count]))] sz)) 0 0 (va_A [(h0, .inr (17, [.ref va, .int 0, .int h0_maybeLatin1, .int h0_count]))] sz) := by
  refine Met.ofW (cc := b_JQ_inflateIfNeededFor) (maxL := 2) (ret := none) (by decide) rfl ?_
  intro p e s m args below meth c s₁ B hml hv
  obtain ⟨rfl, hsz, hP, hK, hD0, hSW, hR0⟩ := hv
  have hx := B.exec
  have hb := B.bytes
  have hr := B.returns
  have hts0 := atoms_spec (ws := w_JQ_inflateIfNeededFor) B.pre
  have hts : ∀ w ∈ lw_g, w.before _ s = true := fun w h => hts0 w (List.mem_cons_of_mem _ h)
  have hown : s.vm.findClass R_JQ = some m.cls := findClass_of_methodNamed B.named
  have hlocks := B.notSynchronized
  clear hts0
  subst hsz
  have hD := hD0.self (sz := s.heap.size)
  generalize hAe : va_A [(h0, .inr (17, [.ref va, .int 0, .int h0_maybeLatin1, .int h0_count]))] s.heap.size = A at hD hSW hR0 ⊢
  have hA : ∀ q : Nat, s.heap.size ≤ q → A q := fun q h => by rw [← hAe]; exact Or.inr h
  clear hAe
  have hP : va_P (dC, dI) cls2 [(h0, .inr (17, [.ref va, .int 0, .int h0_maybeLatin1, .int h0_count]))] s.heap := hP
  have hl := lv_entry ([.ref h0, .ref tx]) (n := 2) (Nat.le_of_ble_eq_true rfl)
  rw [lg_entry_eq]
  generalize (lg_sl ([.ref h0, .ref tx]) ++ List.replicate (2 - (lg_sl ([.ref h0, .ref tx])).length) Slot.unset).toArray = ls at hl ⊢
  have hl : lv_has ls 2 [(0, .ref h0), (1, .ref tx)] := hl
  have k0 : (0 : Int32).toInt = 0 := by decide
  refine w_gen (A := A) hP (fun H locs hP hS => ?_)
  refine va_gets (C := "java/lang/String") (n := "COMPACT_STRINGS") (d := "Z") (v := .int 1) hx hb hSW.1.2.2.2.2.2.2.2.2.2.2.2.1 hS hown (hts _ kF_JQ_18) (fun _ h9 => h9) d_JQ_inflateIfNeededFor_0 ?_
  have k19 : (1 : Int32).toInt = 1 := by decide
  refine lv_if_eq (tgt := 21) hx hb d_JQ_inflateIfNeededFor_3 (by decide) (fun c3 => absurd (eqI c3) (by omega)) (fun c3 => ?_)
  have q3 := neI c3
  refine lv_aload_n hx hb d_JQ_inflateIfNeededFor_6 rfl (lv_at hl 0 rfl) ?_
  refine va_get (D := (dC, dI)) (ci := 17) (v := .int 0) (C := R_JB) (T := F_JB) (N := 4) hx hb hts i_JB hown hK hP 0 rfl rfl 1 (by decide) (hts _ kF_JQ_22) (fun _ h9 => h9) rfl d_JQ_inflateIfNeededFor_7 ?_
  refine lv_aload_n hx hb d_JQ_inflateIfNeededFor_10 rfl (lv_at hl 1 rfl) ?_
  have hPc := @vp_nil
  have hDc := hD.sub (ws' := []) [] (by decide) rfl
  have hKc := (k2_of hK).sub (tys' := []) [] rfl
  have hFc := va_free (wc := []) hD hS hA [] rfl
  refine va_calli (va_runV (As := []) (rest := [.int 0]) ⟨hx, hb, hml, hown, hts⟩ (c_JS_coder l dC dI H.size sa tx tv b ) (cwV 0 hts (gV kM_JQ_40 kV_JS_coder kS_JS_coder kI_JS kC_JS_coder) rfl rfl rfl (by decide +kernel) ⟨Nat.le_of_ble_eq_true rfl, Nat.le_of_ble_eq_true rfl⟩) ⟨fun a U g mk z => by obtain ⟨z0, z1, zP, zK, zD, zS, zR0⟩ := z; exact ⟨z0, z1, zP, va_K.moved (u := U) (U := U.calling g mk a) (Vm.Alike.refl U.vm) zK, zD, sw.same (u := U) (U := U.calling g mk a) rfl zS, zR0.moved (u := U) (U := U.calling g mk a) (Vm.Alike.refl U.vm)⟩, so_recv (hR0.1) hS, fun U hU hW => ⟨rfl, by rw [hU], by rw [hU]; exact hPc, va_K.moved hW.alike hKc, hDc.weaken (fun _ _ _ _ => trivial), hSW.1.call hS hFc hW hU, (hR0).call hS hFc hW hU⟩⟩ rfl rfl hl.1 rfl (lv_room (Nat.le_of_ble_eq_true rfl)) d_JQ_inflateIfNeededFor_11 ⟨(Nat.zero_le _), (Nat.zero_le _)⟩) hS (fun q _ h => hFc q h) hFc (fun r1 u t H1 locs ht hvm hw hB hz1 hk1 hS => ?_)
  try dsimp only at hw
  have xr1 := hw
  try clear hw
  have tr1 : r1.toInt = 0 := by rw [xr1]; decide
  obtain ⟨hP1, hK1, hD1⟩ := hB
  rw [ht] at hP1
  replace hP1 := @vp_nil (dC, dI) cls2 H1
  obtain ⟨hP, hD⟩ := va_join (wr := [(h0, .inr (17, [.ref va, .int 0, .int h0_maybeLatin1, .int h0_count]))]) (w1 := []) hP hD [] [0] rfl rfl (by decide) (by decide) hk1 hFc hP1 hD1
  clear hPc hDc hKc hFc hz1 hk1 hP1 hK1 hD1
  generalize H1 = H at hP hS ⊢
  have hP : va_P (dC, dI) cls2 [(h0, .inr (17, [.ref va, .int 0, .int h0_maybeLatin1, .int h0_count]))] H := hP
  have hD : va_D A [(h0, .inr (17, [.ref va, .int 0, .int h0_maybeLatin1, .int h0_count]))] := hD
  refine lv_icmp_eq (tgt := 21) hx hb d_JQ_inflateIfNeededFor_14 (by decide) (fun c14 => ?_) (fun c14 => absurd (neI c14) (by omega))
  have q14 := eqI c14
  have hP9 := hP.sub (ws' := [(h0, .inr (17, [.ref va, .int 0, .int h0_maybeLatin1, .int h0_count]))]) [0] rfl
  have hD9 := hD.sub (ws' := [(h0, .inr (17, [.ref va, .int 0, .int h0_maybeLatin1, .int h0_count]))]) [0] (by decide) rfl
  exact W.vret hx hb hr (fun t ht hW => ⟨⟨(), rfl, ⟨⟩, by rw [ht]; exact hP9, va_K.moved hW.alike hK, hD9⟩, hS.F ht⟩) hS.2.2 d_JQ_inflateIfNeededFor_21
abbrev b_JQ_putStringAt : ByteArray := prog_20_method_73_code
def y_JQ_putStringAt : MethodName := ⟨R_JQ, "putStringAt", "(ILjava/lang/String;)V"⟩
abbrev w_JQ_putStringAt : List Cond := .code y_JQ_putStringAt b_JQ_putStringAt 3 none :: lw_g
theorem kC_JQ_putStringAt : Cond.code y_JQ_putStringAt b_JQ_putStringAt 3 none ∈ lw_g := in_g 2336 (by decide +kernel) rfl
theorem d_JQ_putStringAt_0 : decode b_JQ_putStringAt 0 = .ok (.aload_n 0, 1) := by decide +kernel
theorem d_JQ_putStringAt_1 : decode b_JQ_putStringAt 1 = .ok (.aload_n 2, 1) := by decide +kernel
theorem d_JQ_putStringAt_2 : decode b_JQ_putStringAt 2 = .ok (.invokevirtual 397, 3) := by decide +kernel
theorem d_JQ_putStringAt_5 : decode b_JQ_putStringAt 5 = .ok (.aload_n 2, 1) := by decide +kernel
theorem d_JQ_putStringAt_6 : decode b_JQ_putStringAt 6 = .ok (.aload_n 0, 1) := by decide +kernel
theorem d_JQ_putStringAt_7 : decode b_JQ_putStringAt 7 = .ok (.getfield 15, 3) := by decide +kernel
theorem d_JQ_putStringAt_10 : decode b_JQ_putStringAt 10 = .ok (.iload_n 1, 1) := by decide +kernel
theorem d_JQ_putStringAt_11 : decode b_JQ_putStringAt 11 = .ok (.aload_n 0, 1) := by decide +kernel
theorem d_JQ_putStringAt_12 : decode b_JQ_putStringAt 12 = .ok (.getfield 22, 3) := by decide +kernel
theorem d_JQ_putStringAt_15 : decode b_JQ_putStringAt 15 = .ok (.invokevirtual 399, 3) := by decide +kernel
theorem d_JQ_putStringAt_18 : decode b_JQ_putStringAt 18 = .ok (.return_, 1) := by decide +kernel
theorem kM_JQ_397 : Cond.methodLink R_JQ 397 y_JQ_inflateIfNeededFor ∈ lw_g := in_g 2337 (by decide +kernel) rfl
theorem kV_JQ_inflateIfNeededFor : Cond.instanceMethod y_JQ_inflateIfNeededFor ∈ lw_g := in_g 2339 (by decide +kernel) rfl
theorem kM_JQ_399 : Cond.methodLink R_JQ 399 y_JS_getBytes ∈ lw_g := in_g 2342 (by decide +kernel) rfl
theorem kV_JS_getBytes : Cond.instanceMethod y_JS_getBytes ∈ lw_g := in_g 2343 (by decide +kernel) rfl
theorem kS_JS_getBytes : Cond.selects R_JS y_JS_getBytes y_JS_getBytes ∈ lw_g := in_g 2344 (by decide +kernel) rfl
theorem kSM_JQ_inflateIfNeededFor : Cond.sameMethod R_JQ R_JQ "inflateIfNeededFor" "(Ljava/lang/String;)V" ∈ lw_g := in_g 3109 (by decide +kernel) rfl
abbrev at_JQ_putStringAt (dC : Nat → ClassId) (dI : Nat → Nat → Nat) (sa : Nat → Nat) (h0 va : Nat) (cpb : ClassId) (h0_maybeLatin1 : Int32) (h0_count : Int32) (nva : Nat) (A : Nat → Prop) (u : (Nat → Int32)) (t : State) : Prop := match u with | gva => va_P (dC, dI) cls2 [(h0, .inr (17, [.ref va, .int 0, .int h0_maybeLatin1, .int h0_count])), (va, .inl (cpb, nva, .inl gva))] t.heap ∧ va_K (dC, dI) cls2 [(cpb, .byte)] t ∧ va_D A [(h0, .inr (17, [.ref va, .int 0, .int h0_maybeLatin1, .int h0_count])), (va, .inl (cpb, nva, .inl gva))]
set_option maxHeartbeats 4000000 in
set_option maxRecDepth 100000 in
theorem c_JQ_putStringAt (l : Launch) (hlt : l.stackTraces = false) (dC : Nat → ClassId) (dI : Nat → Nat → Nat) (sz : Nat) (sa : Nat → Nat) (tx tv : Nat) (b : List Int32) (h0 va : Nat) (cpb : ClassId) (h0_maybeLatin1 : Int32) (h0_count : Int32) (nva : Nat) (gva : Nat → Int32)  (b_gva : ∀ j : Nat, -128 ≤ (gva j).toInt ∧ (gva j).toInt ≤ 127) (p1 : Int32)  (hp : 0 ≤ p1.toInt ∧ p1.toInt + (b.length : Int) ≤ (nva : Int) ∧ p1.toInt ≤ 1000000) (hbb : ∀ j : Nat, -128 ≤ (b.getD j 0).toInt ∧ (b.getD j 0).toInt ≤ 127) (hbl : (b.length : Int) ≤ 100000) : Met l y_JQ_putStringAt w_JQ_putStringAt ({ frames := 2, cells := 0, slots := 0, locals := 63 }) (va_Pc [.ref h0, .int p1, .ref tx] (fun U => U.heap.size = sz ∧ va_P (dC, dI) cls2 [(h0, .inr (17, [.ref va, .int 0, .int h0_maybeLatin1, .int h0_count])), (va, .inl (cpb, nva, .inl gva))] U.heap ∧ va_K (dC, dI) cls2 [(cpb, .byte)] U ∧ va_D (fun _ => True) [(h0, .inr (17, [.ref va, .int 0, .int h0_maybeLatin1, .int h0_count])), (va, .inl (cpb, nva, .inl gva))] ∧ sm sa (va_A [(h0, .inr (17, [.ref va, .int 0, .int h0_maybeLatin1, .int h0_count])), (va, .inl (cpb, nva, .inl gva))] sz) U U.heap ∧ sw_str tx tv b (va_A [(h0, .inr (17, [.ref va, .int 0, .int h0_maybeLatin1, .int h0_count])), (va, .inl (cpb, nva, .inl gva))] sz) U U.heap)) (va_Qv (fun (u : (Nat → Int32)) => match u with | gva2 => (∀ j : Nat, -128 ≤ (gva2 j).toInt ∧ (gva2 j).toInt ≤ 127) ∧ ((∀ j : Nat, (j : Int) < p1.toInt → gva2 j = gva j) ∧ ∀ j : Nat, j < b.length → gva2 (p1.toNatClampNeg + j) = b.getD j 0)) (at_JQ_putStringAt dC dI sa h0 va cpb h0_maybeLatin1 h0_count nva (va_A [(h0, .inr (17, [.ref va, .int 0, .int h0_maybeLatin1, .int h0_count])), (va, .inl (cpb, nva, .inl gva))] sz)) (va_A [(h0, .inr (17, [.ref va, .int 0, .int h0_maybeLatin1, .int h0_count])), (va, .inl (cpb, nva, .inl gva))] sz)) 0 0 (va_A [(h0, .inr (17, [.ref va, .int 0, .int h0_maybeLatin1, .int h0_count])), (va, .inl (cpb, nva, .inl gva))] sz) := by
  refine Met.ofW (cc := b_JQ_putStringAt) (maxL := 3) (ret := none) (by decide) rfl ?_
  intro p e s m args below meth c s₁ B hml hv
  obtain ⟨rfl, hsz, hP, hK, hD0, hSW, hR0⟩ := hv
  have hx := B.exec
  have hb := B.bytes
  have hr := B.returns
  have hts0 := atoms_spec (ws := w_JQ_putStringAt) B.pre
  have hts : ∀ w ∈ lw_g, w.before _ s = true := fun w h => hts0 w (List.mem_cons_of_mem _ h)
  have hown : s.vm.findClass R_JQ = some m.cls := findClass_of_methodNamed B.named
  have hlocks := B.notSynchronized
  clear hts0
  subst hsz
  have hD := hD0.self (sz := s.heap.size)
  generalize hAe : va_A [(h0, .inr (17, [.ref va, .int 0, .int h0_maybeLatin1, .int h0_count])), (va, .inl (cpb, nva, .inl gva))] s.heap.size = A at hD hSW hR0 ⊢
  have hA : ∀ q : Nat, s.heap.size ≤ q → A q := fun q h => by rw [← hAe]; exact Or.inr h
  clear hAe
  have hP : va_P (dC, dI) cls2 [(h0, .inr (17, [.ref va, .int 0, .int h0_maybeLatin1, .int h0_count])), (va, .inl (cpb, nva, .inl gva))] s.heap := hP
  have hl := lv_entry ([.ref h0, .int p1, .ref tx]) (n := 3) (Nat.le_of_ble_eq_true rfl)
  rw [lg_entry_eq]
  generalize (lg_sl ([.ref h0, .int p1, .ref tx]) ++ List.replicate (3 - (lg_sl ([.ref h0, .int p1, .ref tx])).length) Slot.unset).toArray = ls at hl ⊢
  have hl : lv_has ls 3 [(0, .ref h0), (1, .int p1), (2, .ref tx)] := hl
  have k0 : (0 : Int32).toInt = 0 := by decide
  refine w_gen (A := A) hP (fun H locs hP hS => ?_)
  have lo_p1 := i32_lo p1
  have hi_p1 := i32_hi p1
  refine lv_aload_n hx hb d_JQ_putStringAt_0 rfl (lv_at hl 0 rfl) ?_
  refine lv_aload_n hx hb d_JQ_putStringAt_1 rfl (lv_at hl 2 rfl) ?_
  have hPc := hP.sub (ws' := [(h0, .inr (17, [.ref va, .int 0, .int h0_maybeLatin1, .int h0_count]))]) [0] rfl
  have hDc := hD.sub (ws' := [(h0, .inr (17, [.ref va, .int 0, .int h0_maybeLatin1, .int h0_count]))]) [0] (by decide) rfl
  have hKc := hK.sub (tys' := []) [] rfl
  have hFc := va_free (wc := [(h0, .inr (17, [.ref va, .int 0, .int h0_maybeLatin1, .int h0_count]))]) hD hS hA [0] rfl
  refine va_callv (va_runV (As := [.ref tx]) (rest := []) ⟨hx, hb, hml, hown, hts⟩ (c_JQ_inflateIfNeededFor l hlt dC dI H.size sa tx tv b h0 va h0_maybeLatin1 h0_count) ⟨callB_of 1 hts (gW kC_JQ_inflateIfNeededFor) rfl rfl rfl (hts _ kI_JQ) (hts _ kM_JQ_397) (by decide +kernel) ⟨Nat.le_of_ble_eq_true rfl, Nat.le_of_ble_eq_true rfl⟩, hts _ kV_JQ_inflateIfNeededFor, hSW.sel 3 rfl⟩ ⟨fun a U g mk z => by obtain ⟨z0, z1, zP, zK, zD, zS, zR0⟩ := z; exact ⟨z0, z1, zP, va_K.moved (u := U) (U := U.calling g mk a) (Vm.Alike.refl U.vm) zK, zD, sm.same (u := U) (U := U.calling g mk a) rfl zS, zR0.moved (u := U) (U := U.calling g mk a) (Vm.Alike.refl U.vm)⟩, va_recv hKc hPc (ci := 17) (q0 := 0) rfl rfl, fun U hU hW => ⟨rfl, by rw [hU], by rw [hU]; exact hPc, va_K.moved hW.alike hKc, hDc.weaken (fun _ _ _ _ => trivial), hSW.call hS hFc hW hU, (hR0).call hS hFc hW hU⟩⟩ rfl rfl hl.1 rfl (lv_room (Nat.le_of_ble_eq_true rfl)) d_JQ_putStringAt_2 ⟨(Nat.zero_le _), (Nat.zero_le _)⟩) hS (fun q _ h => hFc q h) hFc (fun u t H1 locs ht hvm hw hB hz1 hk1 hS => ?_)
  try dsimp only at hw
  try clear hw
  obtain ⟨hP1, hK1, hD1⟩ := hB
  rw [ht] at hP1
  obtain ⟨hP, hD⟩ := va_join (wr := [(va, .inl (cpb, nva, .inl gva))]) (w1 := [(h0, .inr (17, [.ref va, .int 0, .int h0_maybeLatin1, .int h0_count]))]) hP hD [0] [1] rfl rfl (by decide) (by decide) hk1 hFc hP1 hD1
  clear hPc hDc hKc hFc hz1 hk1 hP1 hK1 hD1
  generalize H1 = H at hP hS ⊢
  have hP : va_P (dC, dI) cls2 [(va, .inl (cpb, nva, .inl gva)), (h0, .inr (17, [.ref va, .int 0, .int h0_maybeLatin1, .int h0_count]))] H := hP
  have hD : va_D A [(va, .inl (cpb, nva, .inl gva)), (h0, .inr (17, [.ref va, .int 0, .int h0_maybeLatin1, .int h0_count]))] := hD
  refine lv_aload_n hx hb d_JQ_putStringAt_5 rfl (lv_at hl 2 rfl) ?_
  refine lv_aload_n hx hb d_JQ_putStringAt_6 rfl (lv_at hl 0 rfl) ?_
  refine va_get (D := (dC, dI)) (ci := 17) (v := .ref va) (C := R_JB) (T := F_JB) (N := 4) hx hb hts i_JB hown hK hP 1 rfl rfl 0 (by decide) (hts _ kF_JQ_15) (fun _ h9 => h9) rfl d_JQ_putStringAt_7 ?_
  refine lv_iload_n hx hb d_JQ_putStringAt_10 rfl (lv_at hl 1 rfl) ?_
  refine lv_aload_n hx hb d_JQ_putStringAt_11 rfl (lv_at hl 0 rfl) ?_
  refine va_get (D := (dC, dI)) (ci := 17) (v := .int 0) (C := R_JB) (T := F_JB) (N := 4) hx hb hts i_JB hown hK hP 1 rfl rfl 1 (by decide) (hts _ kF_JQ_22) (fun _ h9 => h9) rfl d_JQ_putStringAt_12 ?_
  have hPc := hP.sub (ws' := [(va, .inl (cpb, nva, .inl gva))]) [0] rfl
  have hDc := hD.sub (ws' := [(va, .inl (cpb, nva, .inl gva))]) [0] (by decide) rfl
  have hKc := hK.sub (tys' := [(cpb, .byte)]) [0] rfl
  have hFc := va_free (wc := [(va, .inl (cpb, nva, .inl gva))]) hD hS hA [0] rfl
  refine va_callv (va_runV (As := [.ref va, .int p1, .int 0]) (rest := []) ⟨hx, hb, hml, hown, hts⟩ (c_JS_getBytes l hlt dC dI H.size sa tx tv b va cpb nva gva (b_gva) p1 0 (hp) (rfl) (hbb) (hbl)) (cwV 3 hts (gV kM_JQ_399 kV_JS_getBytes kS_JS_getBytes kI_JS kC_JS_getBytes) rfl rfl rfl (by decide +kernel) ⟨Nat.le_of_ble_eq_true rfl, Nat.le_of_ble_eq_true rfl⟩) ⟨fun a U g mk z => by obtain ⟨z0, z1, zP, zK, zD, zS, zR0⟩ := z; exact ⟨z0, z1, zP, va_K.moved (u := U) (U := U.calling g mk a) (Vm.Alike.refl U.vm) zK, zD, sm.same (u := U) (U := U.calling g mk a) rfl zS, zR0.moved (u := U) (U := U.calling g mk a) (Vm.Alike.refl U.vm)⟩, so_recv (hR0.1) hS, fun U hU hW => ⟨rfl, by rw [hU], by rw [hU]; exact hPc, va_K.moved hW.alike hKc, hDc.weaken (fun _ _ _ _ => trivial), hSW.call hS hFc hW hU, (hR0).call hS hFc hW hU⟩⟩ rfl rfl hl.1 rfl (lv_room (Nat.le_of_ble_eq_true rfl)) d_JQ_putStringAt_15 ⟨(Nat.zero_le _), (Nat.zero_le _)⟩) hS (fun q _ h => hFc q h) hFc (fun u t H1 locs ht hvm hw hB hz1 hk1 hS => ?_)
  obtain ⟨n3, rfl⟩ : ∃ z, z = u := ⟨_, rfl⟩
  try dsimp only at hw
  obtain ⟨bn3, xr2⟩ := hw
  try clear hw
  obtain ⟨hP1, hK1, hD1⟩ := hB
  rw [ht] at hP1
  obtain ⟨hP, hD⟩ := va_join (wr := [(h0, .inr (17, [.ref va, .int 0, .int h0_maybeLatin1, .int h0_count]))]) (w1 := [(va, .inl (cpb, nva, .inl n3))]) hP hD [0] [1] rfl rfl (by decide) (by decide) hk1 hFc hP1 hD1
  clear hPc hDc hKc hFc hz1 hk1 hP1 hK1 hD1
  generalize H1 = H at hP hS ⊢
  have hP : va_P (dC, dI) cls2 [(h0, .inr (17, [.ref va, .int 0, .int h0_maybeLatin1, .int h0_count])), (va, .inl (cpb, nva, .inl n3))] H := hP
  have hD : va_D A [(h0, .inr (17, [.ref va, .int 0, .int h0_maybeLatin1, .int h0_count])), (va, .inl (cpb, nva, .inl n3))] := hD
  have hP9 := hP.sub (ws' := [(h0, .inr (17, [.ref va, .int 0, .int h0_maybeLatin1, .int h0_count])), (va, .inl (cpb, nva, .inl n3))]) [0, 1] rfl
  have hD9 := hD.sub (ws' := [(h0, .inr (17, [.ref va, .int 0, .int h0_maybeLatin1, .int h0_count])), (va, .inl (cpb, nva, .inl n3))]) [0, 1] (by decide) rfl
  exact W.vret hx hb hr (fun t ht hW => ⟨⟨n3, rfl, ⟨bn3, xr2⟩, by rw [ht]; exact hP9, va_K.moved hW.alike hK, hD9⟩, hS.F ht⟩) hS.2.2 d_JQ_putStringAt_18
abbrev b_JQ_append2 : ByteArray := prog_20_method_22_code
def y_JQ_append2 : MethodName := ⟨R_JQ, "append", "(Ljava/lang/String;)Ljava/lang/AbstractStringBuilder;"⟩
abbrev w_JQ_append2 : List Cond := .code y_JQ_append2 b_JQ_append2 3 (Option.some (.object "java/lang/AbstractStringBuilder")) :: lw_g
theorem kC_JQ_append2 : Cond.code y_JQ_append2 b_JQ_append2 3 (Option.some (.object "java/lang/AbstractStringBuilder")) ∈ lw_g := in_g 2324 (by decide +kernel) rfl
theorem d_JQ_append2_0 : decode b_JQ_append2 0 = .ok (.aload_n 1, 1) := by decide +kernel
theorem d_JQ_append2_1 : decode b_JQ_append2 1 = .ok (.ifnonnull 8, 3) := by decide +kernel
theorem d_JQ_append2_4 : decode b_JQ_append2 4 = .ok (.aload_n 0, 1) := by decide +kernel
theorem d_JQ_append2_5 : decode b_JQ_append2 5 = .ok (.invokevirtual 204, 3) := by decide +kernel
theorem d_JQ_append2_8 : decode b_JQ_append2 8 = .ok (.areturn, 1) := by decide +kernel
theorem d_JQ_append2_9 : decode b_JQ_append2 9 = .ok (.aload_n 1, 1) := by decide +kernel
theorem d_JQ_append2_10 : decode b_JQ_append2 10 = .ok (.invokevirtual 32, 3) := by decide +kernel
theorem d_JQ_append2_13 : decode b_JQ_append2 13 = .ok (.istore_n 2, 1) := by decide +kernel
theorem d_JQ_append2_14 : decode b_JQ_append2 14 = .ok (.aload_n 0, 1) := by decide +kernel
theorem d_JQ_append2_15 : decode b_JQ_append2 15 = .ok (.aload_n 0, 1) := by decide +kernel
theorem d_JQ_append2_16 : decode b_JQ_append2 16 = .ok (.getfield 79, 3) := by decide +kernel
theorem d_JQ_append2_19 : decode b_JQ_append2 19 = .ok (.iload_n 2, 1) := by decide +kernel
theorem d_JQ_append2_20 : decode b_JQ_append2 20 = .ok (.iadd, 1) := by decide +kernel
theorem d_JQ_append2_21 : decode b_JQ_append2 21 = .ok (.invokevirtual 100, 3) := by decide +kernel
theorem d_JQ_append2_24 : decode b_JQ_append2 24 = .ok (.aload_n 0, 1) := by decide +kernel
theorem d_JQ_append2_25 : decode b_JQ_append2 25 = .ok (.aload_n 0, 1) := by decide +kernel
theorem d_JQ_append2_26 : decode b_JQ_append2 26 = .ok (.getfield 79, 3) := by decide +kernel
theorem d_JQ_append2_29 : decode b_JQ_append2 29 = .ok (.aload_n 1, 1) := by decide +kernel
theorem d_JQ_append2_30 : decode b_JQ_append2 30 = .ok (.invokevirtual 208, 3) := by decide +kernel
theorem d_JQ_append2_33 : decode b_JQ_append2 33 = .ok (.aload_n 0, 1) := by decide +kernel
theorem d_JQ_append2_34 : decode b_JQ_append2 34 = .ok (.dup, 1) := by decide +kernel
theorem d_JQ_append2_35 : decode b_JQ_append2 35 = .ok (.getfield 79, 3) := by decide +kernel
theorem d_JQ_append2_38 : decode b_JQ_append2 38 = .ok (.iload_n 2, 1) := by decide +kernel
theorem d_JQ_append2_39 : decode b_JQ_append2 39 = .ok (.iadd, 1) := by decide +kernel
theorem d_JQ_append2_40 : decode b_JQ_append2 40 = .ok (.putfield 79, 3) := by decide +kernel
theorem d_JQ_append2_43 : decode b_JQ_append2 43 = .ok (.aload_n 0, 1) := by decide +kernel
theorem d_JQ_append2_44 : decode b_JQ_append2 44 = .ok (.areturn, 1) := by decide +kernel
abbrev b_JQ_appendNull : ByteArray := prog_20_method_26_code
def y_JQ_appendNull : MethodName := ⟨R_JQ, "appendNull", "()Ljava/lang/AbstractStringBuilder;"⟩
abbrev w_JQ_appendNull : List Cond := .code y_JQ_appendNull b_JQ_appendNull 3 (Option.some (.object "java/lang/AbstractStringBuilder")) :: lw_g
theorem kC_JQ_appendNull : Cond.code y_JQ_appendNull b_JQ_appendNull 3 (Option.some (.object "java/lang/AbstractStringBuilder")) ∈ lw_g := in_g 2328 (by decide +kernel) rfl
theorem kM_JQ_204 : Cond.methodLink R_JQ 204 y_JQ_appendNull ∈ lw_g := in_g 2325 (by decide +kernel) rfl
theorem kV_JQ_appendNull : Cond.instanceMethod y_JQ_appendNull ∈ lw_g := in_g 2327 (by decide +kernel) rfl
theorem kM_JQ_32 : Cond.methodLink R_JQ 32 y_JS_length ∈ lw_g := in_g 2332 (by decide +kernel) rfl
theorem kM_JQ_208 : Cond.methodLink R_JQ 208 y_JQ_putStringAt ∈ lw_g := in_g 2333 (by decide +kernel) rfl
theorem kV_JQ_putStringAt : Cond.instanceMethod y_JQ_putStringAt ∈ lw_g := in_g 2335 (by decide +kernel) rfl
theorem kSM_JQ_putStringAt : Cond.sameMethod R_JQ R_JQ "putStringAt" "(ILjava/lang/String;)V" ∈ lw_g := in_g 3108 (by decide +kernel) rfl
abbrev at_JQ_append2 (dC : Nat → ClassId) (dI : Nat → Nat → Nat) (sz szl : Nat) (sa : Nat → Nat) (h0 va : Nat) (cpb : ClassId) (h0_maybeLatin1 : Int32) (A : Nat → Prop) (u : (Nat → Int32) × Nat × Int32 × Nat × Nat × Nat) (t : State) : Prop := match u with | (gva, va, h0_count, kcz, knz, nva) => va_P (dC, dI) cls2 [(h0, .inr (17, [.ref va, .int 0, .int h0_maybeLatin1, .int h0_count])), (va, .inl (cpb, nva, .inl gva))] t.heap ∧ va_K (dC, dI) cls2 [(cpb, .byte)] t ∧ va_D A [(h0, .inr (17, [.ref va, .int 0, .int h0_maybeLatin1, .int h0_count])), (va, .inl (cpb, nva, .inl gva))] ∧ t.heap.size ≤ sz + kcz ∧ hsl t.heap ≤ szl + knz
set_option maxHeartbeats 4000000 in
set_option maxRecDepth 100000 in
theorem c_JQ_append2 (l : Launch) (hlt : l.stackTraces = false) (dC : Nat → ClassId) (dI : Nat → Nat → Nat) (sz : Nat) (szl : Nat) (sa : Nat → Nat) (tx tv : Nat) (b : List Int32) (h0 va : Nat) (cpb : ClassId) (h0_maybeLatin1 : Int32) (h0_count : Int32) (nva : Nat) (gva : Nat → Int32)  (b_h0_count : 0 ≤ h0_count.toInt ∧ h0_count.toInt ≤ 1000000) (b_gva : ∀ j : Nat, -128 ≤ (gva j).toInt ∧ (gva j).toInt ≤ 127)   (hc : h0_count.toInt ≤ (nva : Int) ∧ (nva : Int) ≤ 400000) (hbb : ∀ j : Nat, -128 ≤ (b.getD j 0).toInt ∧ (b.getD j 0).toInt ≤ 127) (hbl : (b.length : Int) ≤ 100000) : Met l y_JQ_append2 w_JQ_append2 ({ frames := 4, cells := 1, slots := 2 * nva + 2 + b.length, locals := 94 }) (va_Pc [.ref h0, .ref tx] (fun U => U.heap.size = sz ∧ va_P (dC, dI) cls2 [(h0, .inr (17, [.ref va, .int 0, .int h0_maybeLatin1, .int h0_count])), (va, .inl (cpb, nva, .inl gva))] U.heap ∧ va_K (dC, dI) cls2 [(cpb, .byte)] U ∧ va_D (fun _ => True) [(h0, .inr (17, [.ref va, .int 0, .int h0_maybeLatin1, .int h0_count])), (va, .inl (cpb, nva, .inl gva))] ∧ sm sa (va_A [(h0, .inr (17, [.ref va, .int 0, .int h0_maybeLatin1, .int h0_count])), (va, .inl (cpb, nva, .inl gva))] sz) U U.heap ∧ sw_str tx tv b (va_A [(h0, .inr (17, [.ref va, .int 0, .int h0_maybeLatin1, .int h0_count])), (va, .inl (cpb, nva, .inl gva))] sz) U U.heap ∧ hsl U.heap = szl)) (va_Qr (fun (u : (Nat → Int32) × Nat × Int32 × Nat × Nat × Nat) => match u with | (gva2, va2, h0_count2, kcz2, knz2, nva2) => (∀ j : Nat, -128 ≤ (gva2 j).toInt ∧ (gva2 j).toInt ≤ 127) ∧ (0 ≤ h0_count2.toInt ∧ h0_count2.toInt ≤ 1000000) ∧ (h0_count2.toInt = h0_count.toInt + (b.length : Int) ∧ sbl gva2 h0_count2.toNatClampNeg = sbl gva h0_count.toNatClampNeg ++ b ∧ (nva2 = nva ∧ kcz2 = 0 ∧ knz2 = 0 ∨ (nva : Int) < h0_count.toInt + (b.length : Int) ∧ nva2 ≤ 2 * nva + 2 + b.length ∧ kcz2 ≤ 1 ∧ knz2 = nva2) ∧ h0_count2.toInt ≤ (nva2 : Int))) (fun (u : (Nat → Int32) × Nat × Int32 × Nat × Nat × Nat) (ra : Nat) (t : State) => h0 = ra ∧ (at_JQ_append2 dC dI sz szl sa h0 va cpb h0_maybeLatin1 (va_A [(h0, .inr (17, [.ref va, .int 0, .int h0_maybeLatin1, .int h0_count])), (va, .inl (cpb, nva, .inl gva))] sz)) u t) (va_A [(h0, .inr (17, [.ref va, .int 0, .int h0_maybeLatin1, .int h0_count])), (va, .inl (cpb, nva, .inl gva))] sz)) (1) (2 * nva + 2 + b.length) (va_A [(h0, .inr (17, [.ref va, .int 0, .int h0_maybeLatin1, .int h0_count])), (va, .inl (cpb, nva, .inl gva))] sz) := by
  refine Met.ofW (cc := b_JQ_append2) (maxL := 3) (ret := (Option.some (.object "java/lang/AbstractStringBuilder"))) (by decide) rfl ?_
  intro p e s m args below meth c s₁ B hml hv
  obtain ⟨rfl, hsz, hP, hK, hD0, hSW, hR0, hszl⟩ := hv
  have hx := B.exec
  have hb := B.bytes
  have hr := B.returns
  have hts0 := atoms_spec (ws := w_JQ_append2) B.pre
  have hts : ∀ w ∈ lw_g, w.before _ s = true := fun w h => hts0 w (List.mem_cons_of_mem _ h)
  have hown : s.vm.findClass R_JQ = some m.cls := findClass_of_methodNamed B.named
  have hlocks := B.notSynchronized
  clear hts0
  subst hsz
  subst hszl
  have hD := hD0.self (sz := s.heap.size)
  generalize hAe : va_A [(h0, .inr (17, [.ref va, .int 0, .int h0_maybeLatin1, .int h0_count])), (va, .inl (cpb, nva, .inl gva))] s.heap.size = A at hD hSW hR0 ⊢
  have hA : ∀ q : Nat, s.heap.size ≤ q → A q := fun q h => by rw [← hAe]; exact Or.inr h
  clear hAe
  have hP : va_P (dC, dI) cls2 [(h0, .inr (17, [.ref va, .int 0, .int h0_maybeLatin1, .int h0_count])), (va, .inl (cpb, nva, .inl gva))] s.heap := hP
  have hl := lv_entry ([.ref h0, .ref tx]) (n := 3) (Nat.le_of_ble_eq_true rfl)
  rw [lg_entry_eq]
  generalize (lg_sl ([.ref h0, .ref tx]) ++ List.replicate (3 - (lg_sl ([.ref h0, .ref tx])).length) Slot.unset).toArray = ls at hl ⊢
  have hl : lv_has ls 3 [(0, .ref h0), (1, .ref tx)] := hl
  have k0 : (0 : Int32).toInt = 0 := by decide
  refine w_gen (A := A) hP (fun H locs hP hS => ?_)
  have zc := i32_clamp (x := h0_count) (by omega)
  refine lv_aload_n hx hb d_JQ_append2_0 rfl (lv_at hl 1 rfl) ?_
  refine lv_ifnonnull (tgt := 9) hx hb d_JQ_append2_1 (by decide) ?_
  refine lv_aload_n hx hb d_JQ_append2_9 rfl (lv_at hl 1 rfl) ?_
  have hPc := @vp_nil
  have hDc := hD.sub (ws' := []) [] (by decide) rfl
  have hKc := (k2_of hK).sub (tys' := []) [] rfl
  have hFc := va_free (wc := []) hD hS hA [] rfl
  refine va_calli (va_runV (As := []) (rest := []) ⟨hx, hb, hml, hown, hts⟩ (c_JS_length l dC dI H.size sa tx tv b (by omega)) (cwV 0 hts (gV kM_JQ_32 kV_JS_length kS_JS_length kI_JS kC_JS_length) rfl rfl rfl (by decide +kernel) ⟨Nat.le_of_ble_eq_true rfl, Nat.le_of_ble_eq_true rfl⟩) ⟨fun a U g mk z => by obtain ⟨z0, z1, zP, zK, zD, zS, zR0⟩ := z; exact ⟨z0, z1, zP, va_K.moved (u := U) (U := U.calling g mk a) (Vm.Alike.refl U.vm) zK, zD, sw.same (u := U) (U := U.calling g mk a) rfl zS, zR0.moved (u := U) (U := U.calling g mk a) (Vm.Alike.refl U.vm)⟩, so_recv (hR0.1) hS, fun U hU hW => ⟨rfl, by rw [hU], by rw [hU]; exact hPc, va_K.moved hW.alike hKc, hDc.weaken (fun _ _ _ _ => trivial), hSW.1.call hS hFc hW hU, (hR0).call hS hFc hW hU⟩⟩ rfl rfl hl.1 rfl (lv_room (Nat.le_of_ble_eq_true rfl)) d_JQ_append2_10 ⟨by dsimp only [headSpec]; omega, by dsimp only [headSpec]; omega⟩) hS (fun q _ h => hFc q h) hFc (fun r1 u t H1 locs ht hvm hw hB hz1 hk1 hS => ?_)
  try dsimp only at hw
  have xr1 := hw
  try clear hw
  have tr1 := xr1
  obtain ⟨hP1, hK1, hD1⟩ := hB
  rw [ht] at hP1
  replace hP1 := @vp_nil (dC, dI) cls2 H1
  obtain ⟨hP, hD⟩ := va_join (wr := [(h0, .inr (17, [.ref va, .int 0, .int h0_maybeLatin1, .int h0_count])), (va, .inl (cpb, nva, .inl gva))]) (w1 := []) hP hD [] [0, 1] rfl rfl (by decide) (by decide) hk1 hFc hP1 hD1
  clear hPc hDc hKc hFc hz1 hk1 hP1 hK1 hD1
  generalize H1 = H at hP hS ⊢
  have hP : va_P (dC, dI) cls2 [(h0, .inr (17, [.ref va, .int 0, .int h0_maybeLatin1, .int h0_count])), (va, .inl (cpb, nva, .inl gva))] H := hP
  have hD : va_D A [(h0, .inr (17, [.ref va, .int 0, .int h0_maybeLatin1, .int h0_count])), (va, .inl (cpb, nva, .inl gva))] := hD
  refine lv_istore_n (lv' := [(2, .int r1), (0, .ref h0), (1, .ref tx)]) hx hb d_JQ_append2_13 rfl hl (by decide) rfl (fun ls hl => ?_)
  refine lv_aload_n hx hb d_JQ_append2_14 rfl (lv_at hl 1 rfl) ?_
  refine lv_aload_n hx hb d_JQ_append2_15 rfl (lv_at hl 1 rfl) ?_
  refine va_get (D := (dC, dI)) (ci := 17) (v := .int h0_count) (C := R_JB) (T := F_JB) (N := 4) hx hb hts i_JB hown hK hP 0 rfl rfl 3 (by decide) (hts _ kF_JQ_79) (fun _ h9 => h9) rfl d_JQ_append2_16 ?_
  refine lv_iload_n hx hb d_JQ_append2_19 rfl (lv_at hl 0 rfl) ?_
  refine lv_iadd hx hb d_JQ_append2_20 ?_
  refine lv_topi (fun x4 ex4 => ?_)
  have tx4 : x4.toInt = h0_count.toInt + r1.toInt := by have z := i32_add ex4 (by omega) (by omega); omega
  refine w_known (fun hzc hzs => ?_)
  have hPc := hP.sub (ws' := [(h0, .inr (17, [.ref va, .int 0, .int h0_maybeLatin1, .int h0_count])), (va, .inl (cpb, nva, .inl gva))]) [0, 1] rfl
  have hDc := hD.sub (ws' := [(h0, .inr (17, [.ref va, .int 0, .int h0_maybeLatin1, .int h0_count])), (va, .inl (cpb, nva, .inl gva))]) [0, 1] (by decide) rfl
  have hKc := hK.sub (tys' := [(cpb, .byte)]) [0] rfl
  have hFc := va_free (wc := [(h0, .inr (17, [.ref va, .int 0, .int h0_maybeLatin1, .int h0_count])), (va, .inl (cpb, nva, .inl gva))]) hD hS hA [0, 1] rfl
  refine va_callv (va_runV (As := [.int x4]) (rest := []) ⟨hx, hb, hml, hown, hts⟩ (c_JQ_ensureCapacityInternal l hlt dC dI H.size (hsl H) sa h0 va cpb h0_maybeLatin1 h0_count nva gva (b_gva) x4 (by omega) (by omega)) ⟨callB_of 1 hts (gW kC_JQ_ensureCapacityInternal) rfl rfl rfl (hts _ kI_JQ) (hts _ kM_JQ_100) (by decide +kernel) ⟨Nat.le_of_ble_eq_true rfl, Nat.le_of_ble_eq_true rfl⟩, hts _ kV_JQ_ensureCapacityInternal, hSW.sel 0 rfl⟩ ⟨fun a U g mk z => by obtain ⟨z0, z1, zP, zK, zD, zS, zZ⟩ := z; exact ⟨z0, z1, zP, va_K.moved (u := U) (U := U.calling g mk a) (Vm.Alike.refl U.vm) zK, zD, sm.same (u := U) (U := U.calling g mk a) rfl zS, zZ⟩, va_recv hKc hPc (ci := 17) (q0 := 0) rfl rfl, fun U hU hW => ⟨rfl, by rw [hU], by rw [hU]; exact hPc, va_K.moved hW.alike hKc, hDc.weaken (fun _ _ _ _ => trivial), hSW.call hS hFc hW hU, by rw [hU]⟩⟩ rfl rfl hl.1 rfl (lv_room (Nat.le_of_ble_eq_true rfl)) d_JQ_append2_21 ⟨by dsimp only [headSpec]; omega, by dsimp only [headSpec]; omega⟩) hS (fun q _ h => hFc q h) hFc (fun u t H1 locs ht hvm hw hB hz1 hk1 hS => ?_)
  obtain ⟨n6, n7, n8, n9, n10⟩ := u
  try dsimp only at hw
  obtain ⟨bn6, xr5⟩ := hw
  try clear hw
  obtain ⟨y1, y2, y3, y4, y5⟩ := xr5
  obtain ⟨hP1, hK1, hD1, hZc, hZs⟩ := hB
  rw [ht] at hP1 hZc hZs
  obtain ⟨kc11, ekc11⟩ : ∃ z : Nat, z = 0 + 0 + n8 := ⟨_, rfl⟩
  obtain ⟨kn12, ekn12⟩ : ∃ z : Nat, z = 0 + 0 + n9 := ⟨_, rfl⟩
  refine w_refund (c2 := kc11) (n2 := kn12) (by omega) (by omega) ?_
  clear hzc hzs hZc hZs
  obtain ⟨hP, hD⟩ := va_join (wr := []) (w1 := [(h0, .inr (17, [.ref n7, .int 0, .int h0_maybeLatin1, .int h0_count])), (n7, .inl (cpb, n10, .inl n6))]) hP hD [0, 1] [] rfl rfl (by decide) (by decide) hk1 hFc hP1 hD1
  clear hPc hDc hKc hFc hz1 hk1 hP1 hK1 hD1
  generalize H1 = H at hP hS ⊢
  have hP : va_P (dC, dI) cls2 [(h0, .inr (17, [.ref n7, .int 0, .int h0_maybeLatin1, .int h0_count])), (n7, .inl (cpb, n10, .inl n6))] H := hP
  have hD : va_D A [(h0, .inr (17, [.ref n7, .int 0, .int h0_maybeLatin1, .int h0_count])), (n7, .inl (cpb, n10, .inl n6))] := hD
  refine lv_aload_n hx hb d_JQ_append2_24 rfl (lv_at hl 1 rfl) ?_
  refine lv_aload_n hx hb d_JQ_append2_25 rfl (lv_at hl 1 rfl) ?_
  refine va_get (D := (dC, dI)) (ci := 17) (v := .int h0_count) (C := R_JB) (T := F_JB) (N := 4) hx hb hts i_JB hown hK hP 0 rfl rfl 3 (by decide) (hts _ kF_JQ_79) (fun _ h9 => h9) rfl d_JQ_append2_26 ?_
  refine lv_aload_n hx hb d_JQ_append2_29 rfl (lv_at hl 2 rfl) ?_
  have hPc := hP.sub (ws' := [(h0, .inr (17, [.ref n7, .int 0, .int h0_maybeLatin1, .int h0_count])), (n7, .inl (cpb, n10, .inl n6))]) [0, 1] rfl
  have hDc := hD.sub (ws' := [(h0, .inr (17, [.ref n7, .int 0, .int h0_maybeLatin1, .int h0_count])), (n7, .inl (cpb, n10, .inl n6))]) [0, 1] (by decide) rfl
  have hKc := hK.sub (tys' := [(cpb, .byte)]) [0] rfl
  have hFc := va_free (wc := [(h0, .inr (17, [.ref n7, .int 0, .int h0_maybeLatin1, .int h0_count])), (n7, .inl (cpb, n10, .inl n6))]) hD hS hA [0, 1] rfl
  refine va_callv (va_runV (As := [.int h0_count, .ref tx]) (rest := []) ⟨hx, hb, hml, hown, hts⟩ (c_JQ_putStringAt l hlt dC dI H.size sa tx tv b h0 n7 cpb h0_maybeLatin1 h0_count n10 n6 (bn6) h0_count (by omega) (hbb) (hbl)) ⟨callB_of 2 hts (gW kC_JQ_putStringAt) rfl rfl rfl (hts _ kI_JQ) (hts _ kM_JQ_208) (by decide +kernel) ⟨Nat.le_of_ble_eq_true rfl, Nat.le_of_ble_eq_true rfl⟩, hts _ kV_JQ_putStringAt, hSW.sel 2 rfl⟩ ⟨fun a U g mk z => by obtain ⟨z0, z1, zP, zK, zD, zS, zR0⟩ := z; exact ⟨z0, z1, zP, va_K.moved (u := U) (U := U.calling g mk a) (Vm.Alike.refl U.vm) zK, zD, sm.same (u := U) (U := U.calling g mk a) rfl zS, zR0.moved (u := U) (U := U.calling g mk a) (Vm.Alike.refl U.vm)⟩, va_recv hKc hPc (ci := 17) (q0 := 0) rfl rfl, fun U hU hW => ⟨rfl, by rw [hU], by rw [hU]; exact hPc, va_K.moved hW.alike hKc, hDc.weaken (fun _ _ _ _ => trivial), hSW.call hS hFc hW hU, (hR0).call hS hFc hW hU⟩⟩ rfl rfl hl.1 rfl (lv_room (Nat.le_of_ble_eq_true rfl)) d_JQ_append2_30 ⟨by dsimp only [headSpec]; omega, by dsimp only [headSpec]; omega⟩) hS (fun q _ h => hFc q h) hFc (fun u t H1 locs ht hvm hw hB hz1 hk1 hS => ?_)
  obtain ⟨n14, rfl⟩ : ∃ z, z = u := ⟨_, rfl⟩
  try dsimp only at hw
  obtain ⟨bn14, xr13⟩ := hw
  try clear hw
  obtain ⟨z1, z2⟩ := xr13
  obtain ⟨hP1, hK1, hD1⟩ := hB
  rw [ht] at hP1
  obtain ⟨hP, hD⟩ := va_join (wr := []) (w1 := [(h0, .inr (17, [.ref n7, .int 0, .int h0_maybeLatin1, .int h0_count])), (n7, .inl (cpb, n10, .inl n14))]) hP hD [0, 1] [] rfl rfl (by decide) (by decide) hk1 hFc hP1 hD1
  clear hPc hDc hKc hFc hz1 hk1 hP1 hK1 hD1
  generalize H1 = H at hP hS ⊢
  have hP : va_P (dC, dI) cls2 [(h0, .inr (17, [.ref n7, .int 0, .int h0_maybeLatin1, .int h0_count])), (n7, .inl (cpb, n10, .inl n14))] H := hP
  have hD : va_D A [(h0, .inr (17, [.ref n7, .int 0, .int h0_maybeLatin1, .int h0_count])), (n7, .inl (cpb, n10, .inl n14))] := hD
  refine lv_aload_n hx hb d_JQ_append2_33 rfl (lv_at hl 1 rfl) ?_
  refine lv_dup hx hb d_JQ_append2_34 rfl ?_
  refine va_get (D := (dC, dI)) (ci := 17) (v := .int h0_count) (C := R_JB) (T := F_JB) (N := 4) hx hb hts i_JB hown hK hP 0 rfl rfl 3 (by decide) (hts _ kF_JQ_79) (fun _ h9 => h9) rfl d_JQ_append2_35 ?_
  refine lv_iload_n hx hb d_JQ_append2_38 rfl (lv_at hl 0 rfl) ?_
  refine lv_iadd hx hb d_JQ_append2_39 ?_
  refine lv_topi (fun x17 ex17 => ?_)
  have tx17 : x17.toInt = h0_count.toInt + r1.toInt := by have z := i32_add ex17 (by omega) (by omega); omega
  refine va_put (D := (dC, dI)) (ci := 17) (v := .int x17) (ty := .int) (C := R_JB) (T := F_JB) (N := 4) hx hb hts i_JB t_JB t_JB_ok n_JB hown hK hP hD hS 0 rfl rfl 3 (by decide) (hts _ kF_JQ_79) (fun _ h9 => h9) rfl (by decide +kernel) rfl rfl (Nat.le_of_ble_eq_true rfl) d_JQ_append2_40 (fun H locs hP hD hS => ?_)
  refine lv_aload_n hx hb d_JQ_append2_43 rfl (lv_at hl 1 rfl) ?_
  have hP9 := hP.sub (ws' := [(h0, .inr (17, [.ref n7, .int 0, .int h0_maybeLatin1, .int x17])), (n7, .inl (cpb, n10, .inl n14))]) [0, 1] rfl
  have hD9 := hD.sub (ws' := [(h0, .inr (17, [.ref n7, .int 0, .int h0_maybeLatin1, .int x17])), (n7, .inl (cpb, n10, .inl n14))]) [0, 1] (by decide) rfl
  refine w_known (fun hzc hzs => ?_)
  refine W.widen (k := 1) (n := 2 * nva + 2 + b.length) (by omega) (by omega) ?_
  exact W.aret (v := .ref h0) hx hb hr (Or.inl ⟨_, rfl⟩) (Or.inr ⟨_, rfl⟩) (fun t ht hW => ⟨⟨(n14, n7, x17, kc11 + 0, kn12 + 0, n10), h0, rfl, ⟨bn14, by (try dsimp only) <;> omega, ⟨by omega, by rw [show x17.toNatClampNeg = h0_count.toNatClampNeg + b.length from (by have := i32_clamp (x := x17) (by omega); omega)]; exact sbl_app (fun j hj => by rw [z1 j (by omega)]; exact y5 j (by omega)) z2 rfl, by omega, by omega⟩⟩, rfl, by rw [ht]; exact hP9, va_K.moved hW.alike hK, hD9, by rw [ht]; exact hzc, by rw [ht]; exact hzs⟩, hS.F ht⟩) hS.2.2 d_JQ_append2_44

/-! texts: equals, indexOf, startsWith -/
theorem sw_inj {t v v2 : Nat} {b b2 : List Int32} {A : Nat → Prop} {U : State} {H : Heap} (h : sw_str t v b A U H) (h2 : sw_str t v2 b2 A U H) (l1 : (b.length : Int) < 2147483648) (l2 : (b2.length : Int) < 2147483648) : b = b2 := by
  obtain ⟨-, -, ⟨cf, k, i, f, cell, g1, g2, g3, g4, g5, g6⟩, ⟨c1, a1, a2, a3, a4, a5, a6, a7⟩⟩ := h
  obtain ⟨-, -, ⟨cf', k', i', f', cell', g1', g2', g3', g4', g5', g6'⟩, ⟨c2, b1, b2_, b3, b4, b5, b6, b7⟩⟩ := h2
  rw [g1] at g1'
  have e1 := Option.some.inj g1'
  injection e1 with _ e1
  injection e1 with _ e1
  injection e1 with _ e1
  subst e1
  rw [g3] at g3'
  have e2 := Option.some.inj g3'
  subst e2
  rw [g5] at g5'
  have e3 := Option.some.inj g5'
  injection e3 with e3
  subst e3
  rw [a1] at b1
  have e4 := Option.some.inj b1
  subst e4
  have e5 : b.length = b2.length := by
    rw [a5] at b5
    have q := congrArg Int32.toInt b5
    rw [ofNat_t (by omega), ofNat_t (by omega)] at q
    omega
  refine lst_eq9 (n := b.length) rfl (by omega) (fun j hj => ?_)
  have q1 := a6 j (by omega)
  rw [b6 j (by omega)] at q1
  have q2 := Option.some.inj q1
  injection q2 with q2
  exact q2.symm
abbrev b_JS_equals : ByteArray := prog_33_method_66_code
def y_JS_equals : MethodName := ⟨R_JS, "equals", "(Ljava/lang/Object;)Z"⟩
abbrev w_JS_equals : List Cond := .code y_JS_equals b_JS_equals 3 (Option.some .boolean) :: lw_g
theorem kC_JS_equals : Cond.code y_JS_equals b_JS_equals 3 (Option.some .boolean) ∈ lw_g := in_g 2479 (by decide +kernel) rfl
theorem d_JS_equals_0 : decode b_JS_equals 0 = .ok (.aload_n 0, 1) := by decide +kernel
theorem d_JS_equals_1 : decode b_JS_equals 1 = .ok (.aload_n 1, 1) := by decide +kernel
theorem d_JS_equals_2 : decode b_JS_equals 2 = .ok (.if_acmp .ne 5, 3) := by decide +kernel
theorem d_JS_equals_5 : decode b_JS_equals 5 = .ok (.iconst 1, 1) := by decide +kernel
theorem d_JS_equals_6 : decode b_JS_equals 6 = .ok (.ireturn, 1) := by decide +kernel
theorem d_JS_equals_7 : decode b_JS_equals 7 = .ok (.aload_n 1, 1) := by decide +kernel
theorem d_JS_equals_8 : decode b_JS_equals 8 = .ok (.instanceof 10, 3) := by decide +kernel
theorem d_JS_equals_11 : decode b_JS_equals 11 = .ok (.ifCond .eq 43, 3) := by decide +kernel
theorem d_JS_equals_14 : decode b_JS_equals 14 = .ok (.aload_n 1, 1) := by decide +kernel
theorem d_JS_equals_15 : decode b_JS_equals 15 = .ok (.checkcast 10, 3) := by decide +kernel
theorem d_JS_equals_18 : decode b_JS_equals 18 = .ok (.astore_n 2, 1) := by decide +kernel
theorem d_JS_equals_19 : decode b_JS_equals 19 = .ok (.getstatic 38, 3) := by decide +kernel
theorem d_JS_equals_22 : decode b_JS_equals 22 = .ok (.ifCond .eq 14, 3) := by decide +kernel
theorem d_JS_equals_25 : decode b_JS_equals 25 = .ok (.aload_n 0, 1) := by decide +kernel
theorem d_JS_equals_26 : decode b_JS_equals 26 = .ok (.getfield 15, 3) := by decide +kernel
theorem d_JS_equals_29 : decode b_JS_equals 29 = .ok (.aload_n 2, 1) := by decide +kernel
theorem d_JS_equals_30 : decode b_JS_equals 30 = .ok (.getfield 15, 3) := by decide +kernel
theorem d_JS_equals_33 : decode b_JS_equals 33 = .ok (.if_icmp .ne 21, 3) := by decide +kernel
theorem d_JS_equals_36 : decode b_JS_equals 36 = .ok (.aload_n 0, 1) := by decide +kernel
theorem d_JS_equals_37 : decode b_JS_equals 37 = .ok (.getfield 9, 3) := by decide +kernel
theorem d_JS_equals_40 : decode b_JS_equals 40 = .ok (.aload_n 2, 1) := by decide +kernel
theorem d_JS_equals_41 : decode b_JS_equals 41 = .ok (.getfield 9, 3) := by decide +kernel
theorem d_JS_equals_44 : decode b_JS_equals 44 = .ok (.invokestatic 541, 3) := by decide +kernel
theorem d_JS_equals_47 : decode b_JS_equals 47 = .ok (.ifCond .eq 7, 3) := by decide +kernel
theorem d_JS_equals_50 : decode b_JS_equals 50 = .ok (.iconst 1, 1) := by decide +kernel
theorem d_JS_equals_51 : decode b_JS_equals 51 = .ok (.goto 4, 3) := by decide +kernel
theorem d_JS_equals_54 : decode b_JS_equals 54 = .ok (.iconst 0, 1) := by decide +kernel
theorem d_JS_equals_55 : decode b_JS_equals 55 = .ok (.ireturn, 1) := by decide +kernel
theorem kM_JS_541 : Cond.methodLink R_JS 541 y_JT_equals ∈ lw_g := in_g 2481 (by decide +kernel) rfl
theorem kT_JT_equals : Cond.static y_JT_equals ∈ lw_g := in_g 2482 (by decide +kernel) rfl
theorem kK_JS_10 : Cond.classLink R_JS 10 "java/lang/String" ∈ lw_g := in_g 2480 (by decide +kernel) rfl
abbrev at_JS_equals (dC : Nat → ClassId) (dI : Nat → Nat → Nat) (sa : Nat → Nat)  (A : Nat → Prop) (u : Unit) (t : State) : Prop := match u with | _ => va_P (dC, dI) cls2 [] t.heap ∧ va_K (dC, dI) cls2 [] t ∧ va_D A []
set_option maxHeartbeats 4000000 in
set_option maxRecDepth 100000 in
theorem c_JS_equals (l : Launch) (hlt : l.stackTraces = false) (dC : Nat → ClassId) (dI : Nat → Nat → Nat) (sz : Nat) (sa : Nat → Nat) (tx tv : Nat) (b : List Int32) (ty tw : Nat) (b2 : List Int32)      (hbl : (b.length : Int) < 1000000) (hbl2 : (b2.length : Int) < 1000000) : Met l y_JS_equals w_JS_equals ({ frames := 1, cells := 0, slots := 0, locals := 22 }) (va_Pc [.ref tx, .ref ty] (fun U => U.heap.size = sz ∧ va_P (dC, dI) cls2 [] U.heap ∧ va_K (dC, dI) cls2 [] U ∧ va_D (fun _ => True) [] ∧ sm sa (va_A [] sz) U U.heap ∧ sw_str tx tv b (va_A [] sz) U U.heap ∧ sw_str ty tw b2 (va_A [] sz) U U.heap)) (va_Qi (fun (r : Int32) (u : Unit) => match u with | _ => (r = 0 ∨ r = 1) ∧ ((r.toInt = 1 ∧ b = b2) ∨ (r.toInt = 0 ∧ b ≠ b2))) (at_JS_equals dC dI sa  (va_A [] sz)) (va_A [] sz)) 0 0 (va_A [] sz) := by
  refine Met.ofW (cc := b_JS_equals) (maxL := 3) (ret := (Option.some .boolean)) (by decide) rfl ?_
  intro p e s m args below meth c s₁ B hml hv
  obtain ⟨rfl, hsz, hP, hK, hD0, hSW, hR0, hR1⟩ := hv
  have hx := B.exec
  have hb := B.bytes
  have hr := B.returns
  have hts0 := atoms_spec (ws := w_JS_equals) B.pre
  have hts : ∀ w ∈ lw_g, w.before _ s = true := fun w h => hts0 w (List.mem_cons_of_mem _ h)
  have hown : s.vm.findClass R_JS = some m.cls := findClass_of_methodNamed B.named
  have hlocks := B.notSynchronized
  clear hts0
  subst hsz
  have hD := hD0.self (sz := s.heap.size)
  generalize hAe : va_A [] s.heap.size = A at hD hSW hR0 hR1 ⊢
  have hA : ∀ q : Nat, s.heap.size ≤ q → A q := fun q h => by rw [← hAe]; exact Or.inr h
  clear hAe
  have hP : va_P (dC, dI) cls2 [] s.heap := hP
  have hl := lv_entry ([.ref tx, .ref ty]) (n := 3) (Nat.le_of_ble_eq_true rfl)
  rw [lg_entry_eq]
  generalize (lg_sl ([.ref tx, .ref ty]) ++ List.replicate (3 - (lg_sl ([.ref tx, .ref ty])).length) Slot.unset).toArray = ls at hl ⊢
  have hl : lv_has ls 3 [(0, .ref tx), (1, .ref ty)] := hl
  have k0 : (0 : Int32).toInt = 0 := by decide
  refine w_gen (A := A) hP (fun H locs hP hS => ?_)
  have k1 : (1 : Int32).toInt = 1 := by decide
  refine lv_aload_n hx hb d_JS_equals_0 rfl (lv_at hl 0 rfl) ?_
  refine lv_aload_n hx hb d_JS_equals_1 rfl (lv_at hl 1 rfl) ?_
  refine lv_acmp_ne (rx := some tx) (ry := some ty) (tgt := 7) hx hb d_JS_equals_2 (by decide) (fun c2 => ?_) (fun c2 => ?_)
  · have q2 : tx ≠ ty := fun z => c2 (by rw [z])
    refine lv_aload_n hx hb d_JS_equals_7 rfl (lv_at hl 1 rfl) ?_
    refine va_instE (nm := "java/lang/String") hx hb hown (hts _ kK_JS_10) (so_recv (hR1.1) hS) d_JS_equals_8 ?_
    have k19 : (1 : Int32).toInt = 1 := by decide
    refine lv_if_eq (tgt := 54) hx hb d_JS_equals_11 (by decide) (fun c11 => absurd (eqI c11) (by omega)) (fun c11 => ?_)
    have q11 := neI c11
    refine lv_aload_n hx hb d_JS_equals_14 rfl (lv_at hl 1 rfl) ?_
    refine va_castE (nm := "java/lang/String") hx hb hown (hts _ kK_JS_10) (so_recv (hR1.1) hS) d_JS_equals_15 ?_
    refine lv_astore_n (lv' := [(2, .ref ty), (0, .ref tx), (1, .ref ty)]) hx hb d_JS_equals_18 rfl hl (by decide) rfl (fun ls hl => ?_)
    refine va_gets (C := "java/lang/String") (n := "COMPACT_STRINGS") (d := "Z") (v := .int 1) hx hb hSW.1.2.2.2.2.2.2.2.2.2.2.2.1 hS hown (hts _ kF_JS_38) (fun _ h9 => h9) d_JS_equals_19 ?_
    have k19 : (1 : Int32).toInt = 1 := by decide
    refine lv_if_eq (tgt := 36) hx hb d_JS_equals_22 (by decide) (fun c22 => absurd (eqI c22) (by omega)) (fun c22 => ?_)
    have q22 := neI c22
    refine lv_aload_n hx hb d_JS_equals_25 rfl (lv_at hl 1 rfl) ?_
    refine vk_getf (v := .int 0) hx hb (hR0.2.1) hS hown (hts _ kF_JS_15) (fun _ h9 => h9) d_JS_equals_26 ?_
    refine lv_aload_n hx hb d_JS_equals_29 rfl (lv_at hl 0 rfl) ?_
    refine vk_getf (v := .int 0) hx hb (hR1.2.1) hS hown (hts _ kF_JS_15) (fun _ h9 => h9) d_JS_equals_30 ?_
    refine lv_icmp_ne (tgt := 54) hx hb d_JS_equals_33 (by decide) (fun c33 => absurd (neI c33) (by omega)) (fun c33 => ?_)
    have q33 := eqI c33
    refine lv_aload_n hx hb d_JS_equals_36 rfl (lv_at hl 1 rfl) ?_
    refine vk_getf (v := .ref tv) hx hb (hR0.2.2.1) hS hown (hts _ kF_JS_9) (fun _ h9 => h9) d_JS_equals_37 ?_
    refine lv_aload_n hx hb d_JS_equals_40 rfl (lv_at hl 0 rfl) ?_
    refine vk_getf (v := .ref tw) hx hb (hR1.2.2.1) hS hown (hts _ kF_JS_9) (fun _ h9 => h9) d_JS_equals_41 ?_
    have hPc := @vp_nil
    have hDc := hD.sub (ws' := []) [] (by decide) rfl
    have hKc := (k2_of hK).sub (tys' := []) [] rfl
    have hFc := va_free (wc := []) hD hS hA [] rfl
    refine va_calli (va_runS (As := [.ref tv, .ref tw]) (rest := []) ⟨hx, hb, hml, hown, hts⟩ (c_JT_equals l dC dI H.size tv b tw b2 (by omega) (by omega)) ⟨callB_of 2 hts (gW kC_JT_equals) rfl rfl rfl (hts _ kI_JT) (hts _ kM_JS_541) (by decide +kernel) ⟨Nat.le_of_ble_eq_true rfl, Nat.le_of_ble_eq_true rfl⟩, hts _ kT_JT_equals⟩ ⟨fun a U g mk z => by obtain ⟨z0, z1, zP, zK, zD, zV0, zV1⟩ := z; exact ⟨z0, z1, zP, va_K.moved (u := U) (U := U.calling g mk a) (Vm.Alike.refl U.vm) zK, zD, va_T.moved (u := U) (U := U.calling g mk a) (Vm.Alike.refl U.vm) zV0, va_T.moved (u := U) (U := U.calling g mk a) (Vm.Alike.refl U.vm) zV1⟩, fun U hU hW => ⟨rfl, by rw [hU], by rw [hU]; exact hPc, va_K.moved hW.alike hKc, hDc.weaken (fun _ _ _ _ => trivial), vt_call (hR0.2.2.2) hS hFc hW hU, vt_call (hR1.2.2.2) hS hFc hW hU⟩⟩ rfl rfl hl.1 rfl (lv_room (Nat.le_of_ble_eq_true rfl)) d_JS_equals_44 ⟨(Nat.zero_le _), (Nat.zero_le _)⟩) hS (fun q _ h => hFc q h) hFc (fun r1 u t H1 locs ht hvm hw hB hz1 hk1 hS => ?_)
    try dsimp only at hw
    obtain ⟨br1, xr1⟩ := hw
    try clear hw
    have tr1 := b01 br1
    obtain ⟨hP1, hK1, hD1⟩ := hB
    rw [ht] at hP1
    replace hP1 := @vp_nil (dC, dI) cls2 H1
    obtain ⟨hP, hD⟩ := va_join (wr := []) (w1 := []) hP hD [] [] rfl rfl (by decide) (by decide) hk1 hFc hP1 hD1
    clear hPc hDc hKc hFc hz1 hk1 hP1 hK1 hD1
    generalize H1 = H at hP hS ⊢
    have hP : va_P (dC, dI) cls2 [] H := hP
    have hD : va_D A [] := hD
    refine lv_if_eq (tgt := 54) hx hb d_JS_equals_47 (by decide) (fun c47 => ?_) (fun c47 => ?_)
    · have q47 := eqI c47
      refine lv_iconst (v := 0) hx hb d_JS_equals_54 (by decide) ?_
      have hP9 := hP.sub (ws' := []) [] rfl
      have hD9 := hD.sub (ws' := []) [] (by decide) rfl
      exact W.zret (v := 0) hx hb hr (zn01 (Or.inl rfl)) (fun t ht hW => ⟨⟨0, (), rfl, ⟨Or.inl rfl, Or.inr ⟨by decide, by rcases xr1 with q | q; omega; exact q.2⟩⟩, by rw [ht]; exact hP9, va_K.moved hW.alike hK, hD9⟩, hS.F ht⟩) hS.2.2 d_JS_equals_55
    · have q47 := neI c47
      refine lv_iconst (v := 1) hx hb d_JS_equals_50 (by decide) ?_
      refine lv_goto (tgt := 55) hx hb d_JS_equals_51 (by decide) ?_
      have hP9 := hP.sub (ws' := []) [] rfl
      have hD9 := hD.sub (ws' := []) [] (by decide) rfl
      exact W.zret (v := 1) hx hb hr (zn01 (Or.inr rfl)) (fun t ht hW => ⟨⟨1, (), rfl, ⟨Or.inr rfl, Or.inl ⟨by decide, by rcases xr1 with q | q; exact q.2; omega⟩⟩, by rw [ht]; exact hP9, va_K.moved hW.alike hK, hD9⟩, hS.F ht⟩) hS.2.2 d_JS_equals_55
  · have q2 : tx = ty := Option.some.inj c2
    refine lv_iconst (v := 1) hx hb d_JS_equals_5 (by decide) ?_
    have hP9 := hP.sub (ws' := []) [] rfl
    have hD9 := hD.sub (ws' := []) [] (by decide) rfl
    exact W.zret (v := 1) hx hb hr (zn01 (Or.inr rfl)) (fun t ht hW => ⟨⟨1, (), rfl, ⟨Or.inr rfl, Or.inl ⟨by decide, sw_inj hR0 (q2 ▸ hR1) (by omega) (by omega)⟩⟩, by rw [ht]; exact hP9, va_K.moved hW.alike hK, hD9⟩, hS.F ht⟩) hS.2.2 d_JS_equals_6
abbrev b_JS_indexOf2 : ByteArray := prog_33_method_84_code
def y_JS_indexOf2 : MethodName := ⟨R_JS, "indexOf", "(Ljava/lang/String;)I"⟩
abbrev w_JS_indexOf2 : List Cond := .code y_JS_indexOf2 b_JS_indexOf2 3 (Option.some .int) :: lw_g
theorem kC_JS_indexOf2 : Cond.code y_JS_indexOf2 b_JS_indexOf2 3 (Option.some .int) ∈ lw_g := in_g 2389 (by decide +kernel) rfl
theorem d_JS_indexOf2_0 : decode b_JS_indexOf2 0 = .ok (.aload_n 0, 1) := by decide +kernel
theorem d_JS_indexOf2_1 : decode b_JS_indexOf2 1 = .ok (.invokevirtual 335, 3) := by decide +kernel
theorem d_JS_indexOf2_4 : decode b_JS_indexOf2 4 = .ok (.istore_n 2, 1) := by decide +kernel
theorem d_JS_indexOf2_5 : decode b_JS_indexOf2 5 = .ok (.iload_n 2, 1) := by decide +kernel
theorem d_JS_indexOf2_6 : decode b_JS_indexOf2 6 = .ok (.aload_n 1, 1) := by decide +kernel
theorem d_JS_indexOf2_7 : decode b_JS_indexOf2 7 = .ok (.invokevirtual 335, 3) := by decide +kernel
theorem d_JS_indexOf2_10 : decode b_JS_indexOf2 10 = .ok (.if_icmp .ne 36, 3) := by decide +kernel
theorem d_JS_indexOf2_13 : decode b_JS_indexOf2 13 = .ok (.aload_n 0, 1) := by decide +kernel
theorem d_JS_indexOf2_14 : decode b_JS_indexOf2 14 = .ok (.invokevirtual 492, 3) := by decide +kernel
theorem d_JS_indexOf2_17 : decode b_JS_indexOf2 17 = .ok (.ifCond .eq 17, 3) := by decide +kernel
theorem d_JS_indexOf2_20 : decode b_JS_indexOf2 20 = .ok (.aload_n 0, 1) := by decide +kernel
theorem d_JS_indexOf2_21 : decode b_JS_indexOf2 21 = .ok (.getfield 9, 3) := by decide +kernel
theorem d_JS_indexOf2_24 : decode b_JS_indexOf2 24 = .ok (.aload_n 1, 1) := by decide +kernel
theorem d_JS_indexOf2_25 : decode b_JS_indexOf2 25 = .ok (.getfield 9, 3) := by decide +kernel
theorem d_JS_indexOf2_28 : decode b_JS_indexOf2 28 = .ok (.invokestatic 647, 3) := by decide +kernel
theorem d_JS_indexOf2_31 : decode b_JS_indexOf2 31 = .ok (.goto 14, 3) := by decide +kernel
theorem d_JS_indexOf2_34 : decode b_JS_indexOf2 34 = .ok (.aload_n 0, 1) := by decide +kernel
theorem d_JS_indexOf2_35 : decode b_JS_indexOf2 35 = .ok (.getfield 9, 3) := by decide +kernel
theorem d_JS_indexOf2_38 : decode b_JS_indexOf2 38 = .ok (.aload_n 1, 1) := by decide +kernel
theorem d_JS_indexOf2_39 : decode b_JS_indexOf2 39 = .ok (.getfield 9, 3) := by decide +kernel
theorem d_JS_indexOf2_42 : decode b_JS_indexOf2 42 = .ok (.invokestatic 649, 3) := by decide +kernel
theorem d_JS_indexOf2_45 : decode b_JS_indexOf2 45 = .ok (.ireturn, 1) := by decide +kernel
theorem d_JS_indexOf2_46 : decode b_JS_indexOf2 46 = .ok (.iload_n 2, 1) := by decide +kernel
theorem d_JS_indexOf2_47 : decode b_JS_indexOf2 47 = .ok (.ifCond .ne 5, 3) := by decide +kernel
theorem d_JS_indexOf2_50 : decode b_JS_indexOf2 50 = .ok (.iconst (-1), 1) := by decide +kernel
theorem d_JS_indexOf2_51 : decode b_JS_indexOf2 51 = .ok (.ireturn, 1) := by decide +kernel
theorem d_JS_indexOf2_52 : decode b_JS_indexOf2 52 = .ok (.aload_n 0, 1) := by decide +kernel
theorem d_JS_indexOf2_53 : decode b_JS_indexOf2 53 = .ok (.getfield 9, 3) := by decide +kernel
theorem d_JS_indexOf2_56 : decode b_JS_indexOf2 56 = .ok (.aload_n 1, 1) := by decide +kernel
theorem d_JS_indexOf2_57 : decode b_JS_indexOf2 57 = .ok (.getfield 9, 3) := by decide +kernel
theorem d_JS_indexOf2_60 : decode b_JS_indexOf2 60 = .ok (.invokestatic 650, 3) := by decide +kernel
theorem d_JS_indexOf2_63 : decode b_JS_indexOf2 63 = .ok (.ireturn, 1) := by decide +kernel
theorem kM_JS_647 : Cond.methodLink R_JS 647 y_JT_indexOf2 ∈ lw_g := in_g 2390 (by decide +kernel) rfl
theorem kT_JT_indexOf2 : Cond.static y_JT_indexOf2 ∈ lw_g := in_g 2391 (by decide +kernel) rfl
abbrev b_JF_indexOf1 : ByteArray := prog_36_method_41_code
def y_JF_indexOf1 : MethodName := ⟨R_JF, "indexOf", "([B[B)I"⟩
abbrev w_JF_indexOf1 : List Cond := .code y_JF_indexOf1 b_JF_indexOf1 2 (Option.some .int) :: lw_g
theorem kC_JF_indexOf1 : Cond.code y_JF_indexOf1 b_JF_indexOf1 2 (Option.some .int) ∈ lw_g := in_g 2398 (by decide +kernel) rfl
theorem kM_JS_649 : Cond.methodLink R_JS 649 y_JF_indexOf1 ∈ lw_g := in_g 2396 (by decide +kernel) rfl
theorem kT_JF_indexOf1 : Cond.static y_JF_indexOf1 ∈ lw_g := in_g 2397 (by decide +kernel) rfl
abbrev b_JF_indexOfLatin1 : ByteArray := prog_36_method_44_code
def y_JF_indexOfLatin1 : MethodName := ⟨R_JF, "indexOfLatin1", "([B[B)I"⟩
abbrev w_JF_indexOfLatin1 : List Cond := .code y_JF_indexOfLatin1 b_JF_indexOfLatin1 2 (Option.some .int) :: lw_g
theorem kC_JF_indexOfLatin1 : Cond.code y_JF_indexOfLatin1 b_JF_indexOfLatin1 2 (Option.some .int) ∈ lw_g := in_g 2404 (by decide +kernel) rfl
theorem kM_JS_650 : Cond.methodLink R_JS 650 y_JF_indexOfLatin1 ∈ lw_g := in_g 2402 (by decide +kernel) rfl
theorem kT_JF_indexOfLatin1 : Cond.static y_JF_indexOfLatin1 ∈ lw_g := in_g 2403 (by decide +kernel) rfl
abbrev at_JS_indexOf2 (dC : Nat → ClassId) (dI : Nat → Nat → Nat) (sa : Nat → Nat)  (A : Nat → Prop) (u : Unit) (t : State) : Prop := match u with | _ => va_P (dC, dI) cls2 [] t.heap ∧ va_K (dC, dI) cls2 [] t ∧ va_D A []
set_option maxHeartbeats 4000000 in
set_option maxRecDepth 100000 in
theorem c_JS_indexOf2 (l : Launch) (hlt : l.stackTraces = false) (dC : Nat → ClassId) (dI : Nat → Nat → Nat) (sz : Nat) (sa : Nat → Nat) (tx tv : Nat) (b : List Int32) (ty tw : Nat) (b2 : List Int32)      (hbl : (b.length : Int) < 1000000) (hbl2 : (b2.length : Int) < 1000000) : Met l y_JS_indexOf2 w_JS_indexOf2 ({ frames := 2, cells := 0, slots := 0, locals := 51 }) (va_Pc [.ref tx, .ref ty] (fun U => U.heap.size = sz ∧ va_P (dC, dI) cls2 [] U.heap ∧ va_K (dC, dI) cls2 [] U ∧ va_D (fun _ => True) [] ∧ sm sa (va_A [] sz) U U.heap ∧ sw_str tx tv b (va_A [] sz) U U.heap ∧ sw_str ty tw b2 (va_A [] sz) U U.heap)) (va_Qi (fun (r : Int32) (u : Unit) => match u with | _ => (r.toInt = -1 ∨ sub9 b b2 r.toInt)) (at_JS_indexOf2 dC dI sa  (va_A [] sz)) (va_A [] sz)) 0 0 (va_A [] sz) := by
  refine Met.ofW (cc := b_JS_indexOf2) (maxL := 3) (ret := (Option.some .int)) (by decide) rfl ?_
  intro p e s m args below meth c s₁ B hml hv
  obtain ⟨rfl, hsz, hP, hK, hD0, hSW, hR0, hR1⟩ := hv
  have hx := B.exec
  have hb := B.bytes
  have hr := B.returns
  have hts0 := atoms_spec (ws := w_JS_indexOf2) B.pre
  have hts : ∀ w ∈ lw_g, w.before _ s = true := fun w h => hts0 w (List.mem_cons_of_mem _ h)
  have hown : s.vm.findClass R_JS = some m.cls := findClass_of_methodNamed B.named
  have hlocks := B.notSynchronized
  clear hts0
  subst hsz
  have hD := hD0.self (sz := s.heap.size)
  generalize hAe : va_A [] s.heap.size = A at hD hSW hR0 hR1 ⊢
  have hA : ∀ q : Nat, s.heap.size ≤ q → A q := fun q h => by rw [← hAe]; exact Or.inr h
  clear hAe
  have hP : va_P (dC, dI) cls2 [] s.heap := hP
  have hl := lv_entry ([.ref tx, .ref ty]) (n := 3) (Nat.le_of_ble_eq_true rfl)
  rw [lg_entry_eq]
  generalize (lg_sl ([.ref tx, .ref ty]) ++ List.replicate (3 - (lg_sl ([.ref tx, .ref ty])).length) Slot.unset).toArray = ls at hl ⊢
  have hl : lv_has ls 3 [(0, .ref tx), (1, .ref ty)] := hl
  have k0 : (0 : Int32).toInt = 0 := by decide
  refine w_gen (A := A) hP (fun H locs hP hS => ?_)
  have km1 : (-1 : Int32).toInt = -1 := by decide
  refine lv_aload_n hx hb d_JS_indexOf2_0 rfl (lv_at hl 0 rfl) ?_
  have hPc := @vp_nil
  have hDc := hD.sub (ws' := []) [] (by decide) rfl
  have hKc := (k2_of hK).sub (tys' := []) [] rfl
  have hFc := va_free (wc := []) hD hS hA [] rfl
  refine va_calli (va_runV (As := []) (rest := []) ⟨hx, hb, hml, hown, hts⟩ (c_JS_coder l dC dI H.size sa tx tv b ) (cwV 0 hts (gV kM_JS_335 kV_JS_coder kS_JS_coder kI_JS kC_JS_coder) rfl rfl rfl (by decide +kernel) ⟨Nat.le_of_ble_eq_true rfl, Nat.le_of_ble_eq_true rfl⟩) ⟨fun a U g mk z => by obtain ⟨z0, z1, zP, zK, zD, zS, zR0⟩ := z; exact ⟨z0, z1, zP, va_K.moved (u := U) (U := U.calling g mk a) (Vm.Alike.refl U.vm) zK, zD, sw.same (u := U) (U := U.calling g mk a) rfl zS, zR0.moved (u := U) (U := U.calling g mk a) (Vm.Alike.refl U.vm)⟩, so_recv (hR0.1) hS, fun U hU hW => ⟨rfl, by rw [hU], by rw [hU]; exact hPc, va_K.moved hW.alike hKc, hDc.weaken (fun _ _ _ _ => trivial), hSW.1.call hS hFc hW hU, (hR0).call hS hFc hW hU⟩⟩ rfl rfl hl.1 rfl (lv_room (Nat.le_of_ble_eq_true rfl)) d_JS_indexOf2_1 ⟨(Nat.zero_le _), (Nat.zero_le _)⟩) hS (fun q _ h => hFc q h) hFc (fun r1 u t H1 locs ht hvm hw hB hz1 hk1 hS => ?_)
  try dsimp only at hw
  have xr1 := hw
  try clear hw
  have tr1 : r1.toInt = 0 := by rw [xr1]; decide
  obtain ⟨hP1, hK1, hD1⟩ := hB
  rw [ht] at hP1
  replace hP1 := @vp_nil (dC, dI) cls2 H1
  obtain ⟨hP, hD⟩ := va_join (wr := []) (w1 := []) hP hD [] [] rfl rfl (by decide) (by decide) hk1 hFc hP1 hD1
  clear hPc hDc hKc hFc hz1 hk1 hP1 hK1 hD1
  generalize H1 = H at hP hS ⊢
  have hP : va_P (dC, dI) cls2 [] H := hP
  have hD : va_D A [] := hD
  refine lv_istore_n (lv' := [(2, .int r1), (0, .ref tx), (1, .ref ty)]) hx hb d_JS_indexOf2_4 rfl hl (by decide) rfl (fun ls hl => ?_)
  refine lv_iload_n hx hb d_JS_indexOf2_5 rfl (lv_at hl 0 rfl) ?_
  refine lv_aload_n hx hb d_JS_indexOf2_6 rfl (lv_at hl 2 rfl) ?_
  have hPc := @vp_nil
  have hDc := hD.sub (ws' := []) [] (by decide) rfl
  have hKc := (k2_of hK).sub (tys' := []) [] rfl
  have hFc := va_free (wc := []) hD hS hA [] rfl
  refine va_calli (va_runV (As := []) (rest := [.int r1]) ⟨hx, hb, hml, hown, hts⟩ (c_JS_coder l dC dI H.size sa ty tw b2 ) (cwV 0 hts (gV kM_JS_335 kV_JS_coder kS_JS_coder kI_JS kC_JS_coder) rfl rfl rfl (by decide +kernel) ⟨Nat.le_of_ble_eq_true rfl, Nat.le_of_ble_eq_true rfl⟩) ⟨fun a U g mk z => by obtain ⟨z0, z1, zP, zK, zD, zS, zR0⟩ := z; exact ⟨z0, z1, zP, va_K.moved (u := U) (U := U.calling g mk a) (Vm.Alike.refl U.vm) zK, zD, sw.same (u := U) (U := U.calling g mk a) rfl zS, zR0.moved (u := U) (U := U.calling g mk a) (Vm.Alike.refl U.vm)⟩, so_recv (hR1.1) hS, fun U hU hW => ⟨rfl, by rw [hU], by rw [hU]; exact hPc, va_K.moved hW.alike hKc, hDc.weaken (fun _ _ _ _ => trivial), hSW.1.call hS hFc hW hU, (hR1).call hS hFc hW hU⟩⟩ rfl rfl hl.1 rfl (lv_room (Nat.le_of_ble_eq_true rfl)) d_JS_indexOf2_7 ⟨(Nat.zero_le _), (Nat.zero_le _)⟩) hS (fun q _ h => hFc q h) hFc (fun r2 u t H1 locs ht hvm hw hB hz1 hk1 hS => ?_)
  try dsimp only at hw
  have xr2 := hw
  try clear hw
  have tr2 : r2.toInt = 0 := by rw [xr2]; decide
  obtain ⟨hP1, hK1, hD1⟩ := hB
  rw [ht] at hP1
  replace hP1 := @vp_nil (dC, dI) cls2 H1
  obtain ⟨hP, hD⟩ := va_join (wr := []) (w1 := []) hP hD [] [] rfl rfl (by decide) (by decide) hk1 hFc hP1 hD1
  clear hPc hDc hKc hFc hz1 hk1 hP1 hK1 hD1
  generalize H1 = H at hP hS ⊢
  have hP : va_P (dC, dI) cls2 [] H := hP
  have hD : va_D A [] := hD
  refine lv_icmp_ne (tgt := 46) hx hb d_JS_indexOf2_10 (by decide) (fun c10 => absurd (neI c10) (by omega)) (fun c10 => ?_)
  have q10 := eqI c10
  refine lv_aload_n hx hb d_JS_indexOf2_13 rfl (lv_at hl 1 rfl) ?_
  have hPc := @vp_nil
  have hDc := hD.sub (ws' := []) [] (by decide) rfl
  have hKc := (k2_of hK).sub (tys' := []) [] rfl
  have hFc := va_free (wc := []) hD hS hA [] rfl
  refine va_calli (va_runV (As := []) (rest := []) ⟨hx, hb, hml, hown, hts⟩ (c_JS_isLatin1 l dC dI H.size sa tx tv b ) (cwV 0 hts (gV kM_JS_492 kV_JS_isLatin1 kS_JS_isLatin1 kI_JS kC_JS_isLatin1) rfl rfl rfl (by decide +kernel) ⟨Nat.le_of_ble_eq_true rfl, Nat.le_of_ble_eq_true rfl⟩) ⟨fun a U g mk z => by obtain ⟨z0, z1, zP, zK, zD, zS, zR0⟩ := z; exact ⟨z0, z1, zP, va_K.moved (u := U) (U := U.calling g mk a) (Vm.Alike.refl U.vm) zK, zD, sw.same (u := U) (U := U.calling g mk a) rfl zS, zR0.moved (u := U) (U := U.calling g mk a) (Vm.Alike.refl U.vm)⟩, so_recv (hR0.1) hS, fun U hU hW => ⟨rfl, by rw [hU], by rw [hU]; exact hPc, va_K.moved hW.alike hKc, hDc.weaken (fun _ _ _ _ => trivial), hSW.1.call hS hFc hW hU, (hR0).call hS hFc hW hU⟩⟩ rfl rfl hl.1 rfl (lv_room (Nat.le_of_ble_eq_true rfl)) d_JS_indexOf2_14 ⟨(Nat.zero_le _), (Nat.zero_le _)⟩) hS (fun q _ h => hFc q h) hFc (fun r3 u t H1 locs ht hvm hw hB hz1 hk1 hS => ?_)
  try dsimp only at hw
  obtain ⟨br3, xr3⟩ := hw
  try clear hw
  have tr3 := b01 br3
  have tr3 : r3.toInt = 1 := by rw [xr3]; decide
  obtain ⟨hP1, hK1, hD1⟩ := hB
  rw [ht] at hP1
  replace hP1 := @vp_nil (dC, dI) cls2 H1
  obtain ⟨hP, hD⟩ := va_join (wr := []) (w1 := []) hP hD [] [] rfl rfl (by decide) (by decide) hk1 hFc hP1 hD1
  clear hPc hDc hKc hFc hz1 hk1 hP1 hK1 hD1
  generalize H1 = H at hP hS ⊢
  have hP : va_P (dC, dI) cls2 [] H := hP
  have hD : va_D A [] := hD
  refine lv_if_eq (tgt := 34) hx hb d_JS_indexOf2_17 (by decide) (fun c17 => absurd (eqI c17) (by omega)) (fun c17 => ?_)
  have q17 := neI c17
  refine lv_aload_n hx hb d_JS_indexOf2_20 rfl (lv_at hl 1 rfl) ?_
  refine vk_getf (v := .ref tv) hx hb (hR0.2.2.1) hS hown (hts _ kF_JS_9) (fun _ h9 => h9) d_JS_indexOf2_21 ?_
  refine lv_aload_n hx hb d_JS_indexOf2_24 rfl (lv_at hl 2 rfl) ?_
  refine vk_getf (v := .ref tw) hx hb (hR1.2.2.1) hS hown (hts _ kF_JS_9) (fun _ h9 => h9) d_JS_indexOf2_25 ?_
  have hPc := @vp_nil
  have hDc := hD.sub (ws' := []) [] (by decide) rfl
  have hKc := (k2_of hK).sub (tys' := []) [] rfl
  have hFc := va_free (wc := []) hD hS hA [] rfl
  refine va_calli (va_runS (As := [.ref tv, .ref tw]) (rest := []) ⟨hx, hb, hml, hown, hts⟩ (c_JT_indexOf2 l dC dI H.size tv b tw b2 (by omega) (by omega) (by omega)) ⟨callB_of 2 hts (gW kC_JT_indexOf2) rfl rfl rfl (hts _ kI_JT) (hts _ kM_JS_647) (by decide +kernel) ⟨Nat.le_of_ble_eq_true rfl, Nat.le_of_ble_eq_true rfl⟩, hts _ kT_JT_indexOf2⟩ ⟨fun a U g mk z => by obtain ⟨z0, z1, zP, zK, zD, zV0, zV1⟩ := z; exact ⟨z0, z1, zP, va_K.moved (u := U) (U := U.calling g mk a) (Vm.Alike.refl U.vm) zK, zD, va_T.moved (u := U) (U := U.calling g mk a) (Vm.Alike.refl U.vm) zV0, va_T.moved (u := U) (U := U.calling g mk a) (Vm.Alike.refl U.vm) zV1⟩, fun U hU hW => ⟨rfl, by rw [hU], by rw [hU]; exact hPc, va_K.moved hW.alike hKc, hDc.weaken (fun _ _ _ _ => trivial), vt_call (hR0.2.2.2) hS hFc hW hU, vt_call (hR1.2.2.2) hS hFc hW hU⟩⟩ rfl rfl hl.1 rfl (lv_room (Nat.le_of_ble_eq_true rfl)) d_JS_indexOf2_28 ⟨(Nat.zero_le _), (Nat.zero_le _)⟩) hS (fun q _ h => hFc q h) hFc (fun r4 u t H1 locs ht hvm hw hB hz1 hk1 hS => ?_)
  try dsimp only at hw
  have xr4 := hw
  try clear hw
  obtain ⟨hP1, hK1, hD1⟩ := hB
  rw [ht] at hP1
  replace hP1 := @vp_nil (dC, dI) cls2 H1
  obtain ⟨hP, hD⟩ := va_join (wr := []) (w1 := []) hP hD [] [] rfl rfl (by decide) (by decide) hk1 hFc hP1 hD1
  clear hPc hDc hKc hFc hz1 hk1 hP1 hK1 hD1
  generalize H1 = H at hP hS ⊢
  have hP : va_P (dC, dI) cls2 [] H := hP
  have hD : va_D A [] := hD
  refine lv_goto (tgt := 45) hx hb d_JS_indexOf2_31 (by decide) ?_
  have hP9 := hP.sub (ws' := []) [] rfl
  have hD9 := hD.sub (ws' := []) [] (by decide) rfl
  exact W.iret (v := r4) hx hb hr (fun t ht hW => ⟨⟨r4, (), rfl, (xr4), by rw [ht]; exact hP9, va_K.moved hW.alike hK, hD9⟩, hS.F ht⟩) hS.2.2 d_JS_indexOf2_45
abbrev b_JT_canEncode1 : ByteArray := prog_35_method_4_code
def y_JT_canEncode1 : MethodName := ⟨R_JT, "canEncode", "(I)Z"⟩
abbrev w_JT_canEncode1 : List Cond := .code y_JT_canEncode1 b_JT_canEncode1 1 (Option.some .boolean) :: lw_g
theorem kC_JT_canEncode1 : Cond.code y_JT_canEncode1 b_JT_canEncode1 1 (Option.some .boolean) ∈ lw_g := in_g 2435 (by decide +kernel) rfl
theorem d_JT_canEncode1_0 : decode b_JT_canEncode1 0 = .ok (.iload_n 0, 1) := by decide +kernel
theorem d_JT_canEncode1_1 : decode b_JT_canEncode1 1 = .ok (.ifCond .lt 14, 3) := by decide +kernel
theorem d_JT_canEncode1_4 : decode b_JT_canEncode1 4 = .ok (.iload_n 0, 1) := by decide +kernel
theorem d_JT_canEncode1_5 : decode b_JT_canEncode1 5 = .ok (.sipush 255, 3) := by decide +kernel
theorem d_JT_canEncode1_8 : decode b_JT_canEncode1 8 = .ok (.if_icmp .gt 7, 3) := by decide +kernel
theorem d_JT_canEncode1_11 : decode b_JT_canEncode1 11 = .ok (.iconst 1, 1) := by decide +kernel
theorem d_JT_canEncode1_12 : decode b_JT_canEncode1 12 = .ok (.goto 4, 3) := by decide +kernel
theorem d_JT_canEncode1_15 : decode b_JT_canEncode1 15 = .ok (.iconst 0, 1) := by decide +kernel
theorem d_JT_canEncode1_16 : decode b_JT_canEncode1 16 = .ok (.ireturn, 1) := by decide +kernel
abbrev at_JT_canEncode1 (dC : Nat → ClassId) (dI : Nat → Nat → Nat)  (A : Nat → Prop) (u : Unit) (t : State) : Prop := match u with | _ => va_P (dC, dI) cls2 [] t.heap ∧ va_K (dC, dI) cls2 [] t ∧ va_D A []
set_option maxHeartbeats 4000000 in
set_option maxRecDepth 100000 in
theorem c_JT_canEncode1 (l : Launch) (hlt : l.stackTraces = false) (dC : Nat → ClassId) (dI : Nat → Nat → Nat) (sz : Nat)    (p0 : Int32)   : Met l y_JT_canEncode1 w_JT_canEncode1 ({ frames := 0, cells := 0, slots := 0, locals := 0 }) (va_Pc [.int p0] (fun U => U.heap.size = sz ∧ va_P (dC, dI) cls2 [] U.heap ∧ va_K (dC, dI) cls2 [] U ∧ va_D (fun _ => True) [])) (va_Qi (fun (r : Int32) (u : Unit) => match u with | _ => (r = 0 ∨ r = 1) ∧ (True)) (at_JT_canEncode1 dC dI  (va_A [] sz)) (va_A [] sz)) 0 0 (va_A [] sz) := by
  refine Met.ofW (cc := b_JT_canEncode1) (maxL := 1) (ret := (Option.some .boolean)) (by decide) rfl ?_
  intro p e s m args below meth c s₁ B hml hv
  obtain ⟨rfl, hsz, hP, hK, hD0⟩ := hv
  have hx := B.exec
  have hb := B.bytes
  have hr := B.returns
  have hts0 := atoms_spec (ws := w_JT_canEncode1) B.pre
  have hts : ∀ w ∈ lw_g, w.before _ s = true := fun w h => hts0 w (List.mem_cons_of_mem _ h)
  have hown : s.vm.findClass R_JT = some m.cls := findClass_of_methodNamed B.named
  have hlocks := B.notSynchronized
  clear hts0
  subst hsz
  have hD := hD0.self (sz := s.heap.size)
  generalize hAe : va_A [] s.heap.size = A at hD ⊢
  have hA : ∀ q : Nat, s.heap.size ≤ q → A q := fun q h => by rw [← hAe]; exact Or.inr h
  clear hAe
  have hP : va_P (dC, dI) cls2 [] s.heap := hP
  have hl := lv_entry ([.int p0]) (n := 1) (Nat.le_of_ble_eq_true rfl)
  rw [lg_entry_eq]
  generalize (lg_sl ([.int p0]) ++ List.replicate (1 - (lg_sl ([.int p0])).length) Slot.unset).toArray = ls at hl ⊢
  have hl : lv_has ls 1 [(0, .int p0)] := hl
  have k0 : (0 : Int32).toInt = 0 := by decide
  refine w_gen (A := A) hP (fun H locs hP hS => ?_)
  have k1 : (1 : Int32).toInt = 1 := by decide
  have k255 : (255 : Int32).toInt = 255 := by decide
  have lo_p0 := i32_lo p0
  have hi_p0 := i32_hi p0
  refine lv_iload_n hx hb d_JT_canEncode1_0 rfl (lv_at hl 0 rfl) ?_
  refine lv_if_lt (tgt := 15) hx hb d_JT_canEncode1_1 (by decide) (fun c1 => ?_) (fun c1 => ?_)
  · have q1 := ltI c1
    refine lv_iconst (v := 0) hx hb d_JT_canEncode1_15 (by decide) ?_
    have hP9 := hP.sub (ws' := []) [] rfl
    have hD9 := hD.sub (ws' := []) [] (by decide) rfl
    exact W.zret (v := 0) hx hb hr (zn01 (Or.inl rfl)) (fun t ht hW => ⟨⟨0, (), rfl, ⟨Or.inl rfl, trivial⟩, by rw [ht]; exact hP9, va_K.moved hW.alike hK, hD9⟩, hS.F ht⟩) hS.2.2 d_JT_canEncode1_16
  · have q1 := nltI c1
    refine lv_iload_n hx hb d_JT_canEncode1_4 rfl (lv_at hl 0 rfl) ?_
    refine lv_sipush (v := 255) hx hb d_JT_canEncode1_5 (by decide) ?_
    refine lv_icmp_gt (tgt := 15) hx hb d_JT_canEncode1_8 (by decide) (fun c8 => ?_) (fun c8 => ?_)
    · have q8 := ltI c8
      refine lv_iconst (v := 0) hx hb d_JT_canEncode1_15 (by decide) ?_
      have hP9 := hP.sub (ws' := []) [] rfl
      have hD9 := hD.sub (ws' := []) [] (by decide) rfl
      exact W.zret (v := 0) hx hb hr (zn01 (Or.inl rfl)) (fun t ht hW => ⟨⟨0, (), rfl, ⟨Or.inl rfl, trivial⟩, by rw [ht]; exact hP9, va_K.moved hW.alike hK, hD9⟩, hS.F ht⟩) hS.2.2 d_JT_canEncode1_16
    · have q8 := nltI c8
      refine lv_iconst (v := 1) hx hb d_JT_canEncode1_11 (by decide) ?_
      refine lv_goto (tgt := 16) hx hb d_JT_canEncode1_12 (by decide) ?_
      have hP9 := hP.sub (ws' := []) [] rfl
      have hD9 := hD.sub (ws' := []) [] (by decide) rfl
      exact W.zret (v := 1) hx hb hr (zn01 (Or.inr rfl)) (fun t ht hW => ⟨⟨1, (), rfl, ⟨Or.inr rfl, trivial⟩, by rw [ht]; exact hP9, va_K.moved hW.alike hK, hD9⟩, hS.F ht⟩) hS.2.2 d_JT_canEncode1_16
abbrev b_JT_indexOfChar : ByteArray := prog_35_method_23_code
def y_JT_indexOfChar : MethodName := ⟨R_JT, "indexOfChar", "([BIII)I"⟩
abbrev w_JT_indexOfChar : List Cond := .code y_JT_indexOfChar b_JT_indexOfChar 6 (Option.some .int) :: lw_g
theorem kC_JT_indexOfChar : Cond.code y_JT_indexOfChar b_JT_indexOfChar 6 (Option.some .int) ∈ lw_g := in_g 2440 (by decide +kernel) rfl
theorem d_JT_indexOfChar_0 : decode b_JT_indexOfChar 0 = .ok (.iload_n 1, 1) := by decide +kernel
theorem d_JT_indexOfChar_1 : decode b_JT_indexOfChar 1 = .ok (.i2b, 1) := by decide +kernel
theorem d_JT_indexOfChar_2 : decode b_JT_indexOfChar 2 = .ok (.istore 4, 2) := by decide +kernel
theorem d_JT_indexOfChar_4 : decode b_JT_indexOfChar 4 = .ok (.iload_n 2, 1) := by decide +kernel
theorem d_JT_indexOfChar_5 : decode b_JT_indexOfChar 5 = .ok (.istore 5, 2) := by decide +kernel
theorem d_JT_indexOfChar_7 : decode b_JT_indexOfChar 7 = .ok (.iload 5, 2) := by decide +kernel
theorem d_JT_indexOfChar_9 : decode b_JT_indexOfChar 9 = .ok (.iload_n 3, 1) := by decide +kernel
theorem d_JT_indexOfChar_10 : decode b_JT_indexOfChar 10 = .ok (.if_icmp .ge 21, 3) := by decide +kernel
theorem d_JT_indexOfChar_13 : decode b_JT_indexOfChar 13 = .ok (.aload_n 0, 1) := by decide +kernel
theorem d_JT_indexOfChar_14 : decode b_JT_indexOfChar 14 = .ok (.iload 5, 2) := by decide +kernel
theorem d_JT_indexOfChar_16 : decode b_JT_indexOfChar 16 = .ok (.baload, 1) := by decide +kernel
theorem d_JT_indexOfChar_17 : decode b_JT_indexOfChar 17 = .ok (.iload 4, 2) := by decide +kernel
theorem d_JT_indexOfChar_19 : decode b_JT_indexOfChar 19 = .ok (.if_icmp .ne 6, 3) := by decide +kernel
theorem d_JT_indexOfChar_22 : decode b_JT_indexOfChar 22 = .ok (.iload 5, 2) := by decide +kernel
theorem d_JT_indexOfChar_24 : decode b_JT_indexOfChar 24 = .ok (.ireturn, 1) := by decide +kernel
theorem d_JT_indexOfChar_25 : decode b_JT_indexOfChar 25 = .ok (.iinc 5 1, 3) := by decide +kernel
theorem d_JT_indexOfChar_28 : decode b_JT_indexOfChar 28 = .ok (.goto (-21), 3) := by decide +kernel
theorem d_JT_indexOfChar_31 : decode b_JT_indexOfChar 31 = .ok (.iconst (-1), 1) := by decide +kernel
theorem d_JT_indexOfChar_32 : decode b_JT_indexOfChar 32 = .ok (.ireturn, 1) := by decide +kernel
abbrev at_JT_indexOfChar (dC : Nat → ClassId) (dI : Nat → Nat → Nat)  (A : Nat → Prop) (u : Unit) (t : State) : Prop := match u with | _ => va_P (dC, dI) cls2 [] t.heap ∧ va_K (dC, dI) cls2 [] t ∧ va_D A []
set_option maxHeartbeats 4000000 in
set_option maxRecDepth 100000 in
theorem c_JT_indexOfChar (l : Launch) (hlt : l.stackTraces = false) (dC : Nat → ClassId) (dI : Nat → Nat → Nat) (sz : Nat) (v : Nat) (b : List Int32)    (p1 : Int32) (p2 : Int32) (p3 : Int32)  (hbl : (b.length : Int) < 1000000) (hp : 0 ≤ p2.toInt ∧ p2.toInt ≤ p3.toInt ∧ p3.toInt ≤ (b.length : Int)) : Met l y_JT_indexOfChar w_JT_indexOfChar ({ frames := 0, cells := 0, slots := 0, locals := 0 }) (va_Pc [.ref v, .int p1, .int p2, .int p3] (fun U => U.heap.size = sz ∧ va_P (dC, dI) cls2 [] U.heap ∧ va_K (dC, dI) cls2 [] U ∧ va_D (fun _ => True) [] ∧ va_T .byte v b.length (fun j => .int (b.getD j 0)) (va_A [] sz) U U.heap)) (va_Qi (fun (r : Int32) (u : Unit) => match u with | _ => (True)) (at_JT_indexOfChar dC dI  (va_A [] sz)) (va_A [] sz)) 0 0 (va_A [] sz) := by
  refine Met.ofW (cc := b_JT_indexOfChar) (maxL := 6) (ret := (Option.some .int)) (by decide) rfl ?_
  intro p e s m args below meth c s₁ B hml hv
  obtain ⟨rfl, hsz, hP, hK, hD0, hV0⟩ := hv
  have hx := B.exec
  have hb := B.bytes
  have hr := B.returns
  have hts0 := atoms_spec (ws := w_JT_indexOfChar) B.pre
  have hts : ∀ w ∈ lw_g, w.before _ s = true := fun w h => hts0 w (List.mem_cons_of_mem _ h)
  have hown : s.vm.findClass R_JT = some m.cls := findClass_of_methodNamed B.named
  have hlocks := B.notSynchronized
  clear hts0
  subst hsz
  have hD := hD0.self (sz := s.heap.size)
  generalize hAe : va_A [] s.heap.size = A at hD hV0 ⊢
  have hA : ∀ q : Nat, s.heap.size ≤ q → A q := fun q h => by rw [← hAe]; exact Or.inr h
  clear hAe
  have hP : va_P (dC, dI) cls2 [] s.heap := hP
  have hl := lv_entry ([.ref v, .int p1, .int p2, .int p3]) (n := 6) (Nat.le_of_ble_eq_true rfl)
  rw [lg_entry_eq]
  generalize (lg_sl ([.ref v, .int p1, .int p2, .int p3]) ++ List.replicate (6 - (lg_sl ([.ref v, .int p1, .int p2, .int p3])).length) Slot.unset).toArray = ls at hl ⊢
  have hl : lv_has ls 6 [(0, .ref v), (1, .int p1), (2, .int p2), (3, .int p3)] := hl
  have k0 : (0 : Int32).toInt = 0 := by decide
  refine w_gen (A := A) hP (fun H locs hP hS => ?_)
  have km1 : (-1 : Int32).toInt = -1 := by decide
  have k1 : (1 : Int32).toInt = 1 := by decide
  have lo_p1 := i32_lo p1
  have hi_p1 := i32_hi p1
  have lo_p2 := i32_lo p2
  have hi_p2 := i32_hi p2
  have lo_p3 := i32_lo p3
  have hi_p3 := i32_hi p3
  refine lv_iload_n hx hb d_JT_indexOfChar_0 rfl (lv_at hl 1 rfl) ?_
  refine lv_i2b hx hb d_JT_indexOfChar_1 rfl ?_
  refine lv_topi (fun x1 ex1 => ?_)
  refine lv_istore (lv' := [(4, .int x1), (0, .ref v), (1, .int p1), (2, .int p2), (3, .int p3)]) hx hb d_JT_indexOfChar_2 hl (by decide) rfl (fun ls hl => ?_)
  refine lv_iload_n hx hb d_JT_indexOfChar_4 rfl (lv_at hl 3 rfl) ?_
  refine lv_istore (lv' := [(5, .int p2), (4, .int x1), (0, .ref v), (1, .int p1), (2, .int p2), (3, .int p3)]) hx hb d_JT_indexOfChar_5 hl (by decide) rfl (fun ls hl => ?_)
  refine w_loop (σ := Int32) (fun u H locs ls => match u with | j7_l5 => (0 ≤ j7_l5.toInt ∧ j7_l5.toInt ≤ 1000000) ∧ (j7_l5.toInt ≤ p3.toInt) ∧ va_P (dC, dI) cls2 [] H ∧ va_D A [] ∧ va_S A s.heap H locs ∧ lv_has ls 6 [(0, .ref v), (3, .int p3), (4, .int x1), (5, .int j7_l5)]) (fun u => match u with | j7_l5 => (p3.toInt - j7_l5.toInt).toNat) ?_ p2 ⟨by (try dsimp only) <;> omega, by (try dsimp only) <;> omega, hP, hD, hS, lv_sub hl [2, 5, 1, 0] rfl⟩
  intro N7 ih7 u H locs ls hN7 hI
  obtain ⟨j7_l5, rfl⟩ : ∃ z, z = u := ⟨_, rfl⟩
  obtain ⟨b_j7_l5, u1, hP, hD, hS, hl⟩ := hI
  have hN7 : (p3.toInt - j7_l5.toInt).toNat < N7 + 1 := hN7
  refine lv_iload hx hb d_JT_indexOfChar_7 (lv_at hl 3 rfl) ?_
  refine lv_iload_n hx hb d_JT_indexOfChar_9 rfl (lv_at hl 1 rfl) ?_
  refine lv_icmp_ge (tgt := 31) hx hb d_JT_indexOfChar_10 (by decide) (fun c10 => ?_) (fun c10 => ?_)
  · have q10 := leI c10
    refine lv_iconst (v := (-1)) hx hb d_JT_indexOfChar_31 (by decide) ?_
    have hP9 := hP.sub (ws' := []) [] rfl
    have hD9 := hD.sub (ws' := []) [] (by decide) rfl
    exact W.iret (v := ((-1))) hx hb hr (fun t ht hW => ⟨⟨(-1), (), rfl, (trivial), by rw [ht]; exact hP9, va_K.moved hW.alike hK, hD9⟩, hS.F ht⟩) hS.2.2 d_JT_indexOfChar_32
  · have q10 := nleI c10
    refine lv_aload_n hx hb d_JT_indexOfChar_13 rfl (lv_at hl 0 rfl) ?_
    refine lv_iload hx hb d_JT_indexOfChar_14 (lv_at hl 3 rfl) ?_
    have g16 : vp_in j7_l5 b.length := vp_in_iff.mpr ⟨by omega, by omega⟩
    refine va_tb hx hb (hV0) hS g16 rfl d_JT_indexOfChar_16 ?_
    refine lv_topi (fun x2 ex2 => ?_)
    refine lv_iload hx hb d_JT_indexOfChar_17 (lv_at hl 2 rfl) ?_
    refine lv_icmp_ne (tgt := 25) hx hb d_JT_indexOfChar_19 (by decide) (fun c19 => ?_) (fun c19 => ?_)
    · have q19 := neI c19
      obtain ⟨x3, ex3⟩ : ∃ z : Int32, z = j7_l5 + 1 := ⟨_, rfl⟩
      have tx3 : x3.toInt = j7_l5.toInt + 1 := by have z := i32_add ex3 (by omega) (by omega); omega
      refine lv_iinc (v := x3) (lv' := [(5, .int x3), (0, .ref v), (3, .int p3), (4, .int x1)]) hx hb d_JT_indexOfChar_25 hl (k := 3) rfl (by rw [ex3]; rfl) (by decide) rfl (fun ls hl => ?_)
      refine lv_goto (tgt := 7) hx hb d_JT_indexOfChar_28 (by decide) ?_
      exact ih7 x3 _ _ _ (by show (p3.toInt - x3.toInt).toNat < N7; omega) ⟨by (try dsimp only) <;> omega, by (try dsimp only) <;> omega, hP, hD, hS, lv_sub hl [1, 2, 3, 0] rfl⟩
    · have q19 := eqI c19
      refine lv_iload hx hb d_JT_indexOfChar_22 (lv_at hl 3 rfl) ?_
      have hP9 := hP.sub (ws' := []) [] rfl
      have hD9 := hD.sub (ws' := []) [] (by decide) rfl
      exact W.iret (v := j7_l5) hx hb hr (fun t ht hW => ⟨⟨j7_l5, (), rfl, (trivial), by rw [ht]; exact hP9, va_K.moved hW.alike hK, hD9⟩, hS.F ht⟩) hS.2.2 d_JT_indexOfChar_24
abbrev b_JT_indexOf0 : ByteArray := prog_35_method_22_code
def y_JT_indexOf0 : MethodName := ⟨R_JT, "indexOf", "([BIII)I"⟩
abbrev w_JT_indexOf0 : List Cond := .code y_JT_indexOf0 b_JT_indexOf0 4 (Option.some .int) :: lw_g
theorem kC_JT_indexOf0 : Cond.code y_JT_indexOf0 b_JT_indexOf0 4 (Option.some .int) ∈ lw_g := in_g 2432 (by decide +kernel) rfl
theorem d_JT_indexOf0_0 : decode b_JT_indexOf0 0 = .ok (.iload_n 1, 1) := by decide +kernel
theorem d_JT_indexOf0_1 : decode b_JT_indexOf0 1 = .ok (.invokestatic 88, 3) := by decide +kernel
theorem d_JT_indexOf0_4 : decode b_JT_indexOf0 4 = .ok (.ifCond .ne 5, 3) := by decide +kernel
theorem d_JT_indexOf0_7 : decode b_JT_indexOf0 7 = .ok (.iconst (-1), 1) := by decide +kernel
theorem d_JT_indexOf0_8 : decode b_JT_indexOf0 8 = .ok (.ireturn, 1) := by decide +kernel
theorem d_JT_indexOf0_9 : decode b_JT_indexOf0 9 = .ok (.iload_n 2, 1) := by decide +kernel
theorem d_JT_indexOf0_10 : decode b_JT_indexOf0 10 = .ok (.iconst 0, 1) := by decide +kernel
theorem d_JT_indexOf0_11 : decode b_JT_indexOf0 11 = .ok (.invokestatic 92, 3) := by decide +kernel
theorem d_JT_indexOf0_14 : decode b_JT_indexOf0 14 = .ok (.istore_n 2, 1) := by decide +kernel
theorem d_JT_indexOf0_15 : decode b_JT_indexOf0 15 = .ok (.iload_n 3, 1) := by decide +kernel
theorem d_JT_indexOf0_16 : decode b_JT_indexOf0 16 = .ok (.aload_n 0, 1) := by decide +kernel
theorem d_JT_indexOf0_17 : decode b_JT_indexOf0 17 = .ok (.arraylength, 1) := by decide +kernel
theorem d_JT_indexOf0_18 : decode b_JT_indexOf0 18 = .ok (.invokestatic 38, 3) := by decide +kernel
theorem d_JT_indexOf0_21 : decode b_JT_indexOf0 21 = .ok (.istore_n 3, 1) := by decide +kernel
theorem d_JT_indexOf0_22 : decode b_JT_indexOf0 22 = .ok (.iload_n 2, 1) := by decide +kernel
theorem d_JT_indexOf0_23 : decode b_JT_indexOf0 23 = .ok (.iload_n 3, 1) := by decide +kernel
theorem d_JT_indexOf0_24 : decode b_JT_indexOf0 24 = .ok (.if_icmp .lt 5, 3) := by decide +kernel
theorem d_JT_indexOf0_27 : decode b_JT_indexOf0 27 = .ok (.iconst (-1), 1) := by decide +kernel
theorem d_JT_indexOf0_28 : decode b_JT_indexOf0 28 = .ok (.ireturn, 1) := by decide +kernel
theorem d_JT_indexOf0_29 : decode b_JT_indexOf0 29 = .ok (.aload_n 0, 1) := by decide +kernel
theorem d_JT_indexOf0_30 : decode b_JT_indexOf0 30 = .ok (.iload_n 1, 1) := by decide +kernel
theorem d_JT_indexOf0_31 : decode b_JT_indexOf0 31 = .ok (.iload_n 2, 1) := by decide +kernel
theorem d_JT_indexOf0_32 : decode b_JT_indexOf0 32 = .ok (.iload_n 3, 1) := by decide +kernel
theorem d_JT_indexOf0_33 : decode b_JT_indexOf0 33 = .ok (.invokestatic 95, 3) := by decide +kernel
theorem d_JT_indexOf0_36 : decode b_JT_indexOf0 36 = .ok (.ireturn, 1) := by decide +kernel
theorem kM_JT_88 : Cond.methodLink R_JT 88 y_JT_canEncode1 ∈ lw_g := in_g 2433 (by decide +kernel) rfl
theorem kT_JT_canEncode1 : Cond.static y_JT_canEncode1 ∈ lw_g := in_g 2434 (by decide +kernel) rfl
theorem kM_JT_92 : Cond.methodLink R_JT 92 y_JM_max ∈ lw_g := in_g 2436 (by decide +kernel) rfl
theorem kM_JT_38 : Cond.methodLink R_JT 38 y_JM_min0 ∈ lw_g := in_g 2437 (by decide +kernel) rfl
theorem kM_JT_95 : Cond.methodLink R_JT 95 y_JT_indexOfChar ∈ lw_g := in_g 2438 (by decide +kernel) rfl
theorem kT_JT_indexOfChar : Cond.static y_JT_indexOfChar ∈ lw_g := in_g 2439 (by decide +kernel) rfl
abbrev at_JT_indexOf0 (dC : Nat → ClassId) (dI : Nat → Nat → Nat)  (A : Nat → Prop) (u : Unit) (t : State) : Prop := match u with | _ => va_P (dC, dI) cls2 [] t.heap ∧ va_K (dC, dI) cls2 [] t ∧ va_D A []
set_option maxHeartbeats 4000000 in
set_option maxRecDepth 100000 in
theorem c_JT_indexOf0 (l : Launch) (hlt : l.stackTraces = false) (dC : Nat → ClassId) (dI : Nat → Nat → Nat) (sz : Nat) (v : Nat) (b : List Int32)    (p1 : Int32) (p2 : Int32) (p3 : Int32)  (hbl : (b.length : Int) < 1000000) (hp : p2.toInt = 0 ∧ p3.toInt = (b.length : Int)) : Met l y_JT_indexOf0 w_JT_indexOf0 ({ frames := 1, cells := 0, slots := 0, locals := 25 }) (va_Pc [.ref v, .int p1, .int p2, .int p3] (fun U => U.heap.size = sz ∧ va_P (dC, dI) cls2 [] U.heap ∧ va_K (dC, dI) cls2 [] U ∧ va_D (fun _ => True) [] ∧ va_T .byte v b.length (fun j => .int (b.getD j 0)) (va_A [] sz) U U.heap)) (va_Qi (fun (r : Int32) (u : Unit) => match u with | _ => (True)) (at_JT_indexOf0 dC dI  (va_A [] sz)) (va_A [] sz)) 0 0 (va_A [] sz) := by
  refine Met.ofW (cc := b_JT_indexOf0) (maxL := 4) (ret := (Option.some .int)) (by decide) rfl ?_
  intro p e s m args below meth c s₁ B hml hv
  obtain ⟨rfl, hsz, hP, hK, hD0, hV0⟩ := hv
  have hx := B.exec
  have hb := B.bytes
  have hr := B.returns
  have hts0 := atoms_spec (ws := w_JT_indexOf0) B.pre
  have hts : ∀ w ∈ lw_g, w.before _ s = true := fun w h => hts0 w (List.mem_cons_of_mem _ h)
  have hown : s.vm.findClass R_JT = some m.cls := findClass_of_methodNamed B.named
  have hlocks := B.notSynchronized
  clear hts0
  subst hsz
  have hD := hD0.self (sz := s.heap.size)
  generalize hAe : va_A [] s.heap.size = A at hD hV0 ⊢
  have hA : ∀ q : Nat, s.heap.size ≤ q → A q := fun q h => by rw [← hAe]; exact Or.inr h
  clear hAe
  have hP : va_P (dC, dI) cls2 [] s.heap := hP
  have hl := lv_entry ([.ref v, .int p1, .int p2, .int p3]) (n := 4) (Nat.le_of_ble_eq_true rfl)
  rw [lg_entry_eq]
  generalize (lg_sl ([.ref v, .int p1, .int p2, .int p3]) ++ List.replicate (4 - (lg_sl ([.ref v, .int p1, .int p2, .int p3])).length) Slot.unset).toArray = ls at hl ⊢
  have hl : lv_has ls 4 [(0, .ref v), (1, .int p1), (2, .int p2), (3, .int p3)] := hl
  have k0 : (0 : Int32).toInt = 0 := by decide
  refine w_gen (A := A) hP (fun H locs hP hS => ?_)
  have km1 : (-1 : Int32).toInt = -1 := by decide
  have lo_p1 := i32_lo p1
  have hi_p1 := i32_hi p1
  have lo_p2 := i32_lo p2
  have hi_p2 := i32_hi p2
  have lo_p3 := i32_lo p3
  have hi_p3 := i32_hi p3
  refine lv_iload_n hx hb d_JT_indexOf0_0 rfl (lv_at hl 1 rfl) ?_
  have hPc := @vp_nil
  have hDc := hD.sub (ws' := []) [] (by decide) rfl
  have hKc := hK.sub (tys' := []) [] rfl
  have hFc := va_free (wc := []) hD hS hA [] rfl
  refine va_calli (va_runS (As := [.int p1]) (rest := []) ⟨hx, hb, hml, hown, hts⟩ (c_JT_canEncode1 l hlt dC dI H.size p1) ⟨callB_of 1 hts (gW kC_JT_canEncode1) rfl rfl rfl (hts _ kI_JT) (hts _ kM_JT_88) (by decide +kernel) ⟨Nat.le_of_ble_eq_true rfl, Nat.le_of_ble_eq_true rfl⟩, hts _ kT_JT_canEncode1⟩ ⟨fun a U g mk z => by obtain ⟨z0, z1, zP, zK, zD⟩ := z; exact ⟨z0, z1, zP, va_K.moved (u := U) (U := U.calling g mk a) (Vm.Alike.refl U.vm) zK, zD⟩, fun U hU hW => ⟨rfl, by rw [hU], by rw [hU]; exact hPc, va_K.moved hW.alike hKc, hDc.weaken (fun _ _ _ _ => trivial)⟩⟩ rfl rfl hl.1 rfl (lv_room (Nat.le_of_ble_eq_true rfl)) d_JT_indexOf0_1 ⟨(Nat.zero_le _), (Nat.zero_le _)⟩) hS (fun q _ h => hFc q h) hFc (fun r1 u t H1 locs ht hvm hw hB hz1 hk1 hS => ?_)
  try dsimp only at hw
  obtain ⟨br1, xr1⟩ := hw
  try clear hw
  have tr1 := b01 br1
  obtain ⟨hP1, hK1, hD1⟩ := hB
  rw [ht] at hP1
  replace hP1 := @vp_nil (dC, dI) cls2 H1
  obtain ⟨hP, hD⟩ := va_join (wr := []) (w1 := []) hP hD [] [] rfl rfl (by decide) (by decide) hk1 hFc hP1 hD1
  clear hPc hDc hKc hFc hz1 hk1 hP1 hK1 hD1
  generalize H1 = H at hP hS ⊢
  have hP : va_P (dC, dI) cls2 [] H := hP
  have hD : va_D A [] := hD
  refine lv_if_ne (tgt := 9) hx hb d_JT_indexOf0_4 (by decide) (fun c4 => ?_) (fun c4 => ?_)
  · have q4 := neI c4
    refine lv_iload_n hx hb d_JT_indexOf0_9 rfl (lv_at hl 2 rfl) ?_
    refine lv_iconst (v := 0) hx hb d_JT_indexOf0_10 (by decide) ?_
    refine va_mmax hx hb (hml.trans hl.1.symm) hown (hts _ kM_JT_92) (hts _ kT_JM_max) (hts _ kI_JM) (hts _ kC_JM_max) (Nat.le_of_ble_eq_true rfl) (Nat.le_of_ble_eq_true rfl) (Nat.zero_le _) (Nat.zero_le _) d_JT_indexOf0_11 ?_
    refine lv_topi (fun x2 ex2 => ?_)
    have tx2 := max32 ex2
    refine lv_istore_n (lv' := [(2, .int x2), (0, .ref v), (1, .int p1), (3, .int p3)]) hx hb d_JT_indexOf0_14 rfl hl (by decide) rfl (fun ls hl => ?_)
    refine lv_iload_n hx hb d_JT_indexOf0_15 rfl (lv_at hl 3 rfl) ?_
    refine lv_aload_n hx hb d_JT_indexOf0_16 rfl (lv_at hl 1 rfl) ?_
    refine va_tlen hx hb (hV0) hS rfl d_JT_indexOf0_17 ?_
    refine lv_topi (fun x3 ex3 => ?_)
    have tx3 : x3.toInt = b.length := by rw [ex3]; exact i32_len (by omega)
    refine va_mmin hx hb (hml.trans hl.1.symm) hown (hts _ kM_JT_38) (hts _ kT_JM_min0) (hts _ kI_JM) (hts _ kC_JM_min0) (Nat.le_of_ble_eq_true rfl) (Nat.le_of_ble_eq_true rfl) (Nat.zero_le _) (Nat.zero_le _) d_JT_indexOf0_18 ?_
    refine lv_topi (fun x4 ex4 => ?_)
    have tx4 := min32 ex4
    refine lv_istore_n (lv' := [(3, .int x4), (2, .int x2), (0, .ref v), (1, .int p1)]) hx hb d_JT_indexOf0_21 rfl hl (by decide) rfl (fun ls hl => ?_)
    refine lv_iload_n hx hb d_JT_indexOf0_22 rfl (lv_at hl 1 rfl) ?_
    refine lv_iload_n hx hb d_JT_indexOf0_23 rfl (lv_at hl 0 rfl) ?_
    refine lv_icmp_lt (tgt := 29) hx hb d_JT_indexOf0_24 (by decide) (fun c24 => ?_) (fun c24 => ?_)
    · have q24 := ltI c24
      refine lv_aload_n hx hb d_JT_indexOf0_29 rfl (lv_at hl 2 rfl) ?_
      refine lv_iload_n hx hb d_JT_indexOf0_30 rfl (lv_at hl 3 rfl) ?_
      refine lv_iload_n hx hb d_JT_indexOf0_31 rfl (lv_at hl 1 rfl) ?_
      refine lv_iload_n hx hb d_JT_indexOf0_32 rfl (lv_at hl 0 rfl) ?_
      have hPc := @vp_nil
      have hDc := hD.sub (ws' := []) [] (by decide) rfl
      have hKc := hK.sub (tys' := []) [] rfl
      have hFc := va_free (wc := []) hD hS hA [] rfl
      refine va_calli (va_runS (As := [.ref v, .int p1, .int x2, .int x4]) (rest := []) ⟨hx, hb, hml, hown, hts⟩ (c_JT_indexOfChar l hlt dC dI H.size v b p1 x2 x4 (hbl) (by omega)) ⟨callB_of 4 hts (gW kC_JT_indexOfChar) rfl rfl rfl (hts _ kI_JT) (hts _ kM_JT_95) (by decide +kernel) ⟨Nat.le_of_ble_eq_true rfl, Nat.le_of_ble_eq_true rfl⟩, hts _ kT_JT_indexOfChar⟩ ⟨fun a U g mk z => by obtain ⟨z0, z1, zP, zK, zD, zV0⟩ := z; exact ⟨z0, z1, zP, va_K.moved (u := U) (U := U.calling g mk a) (Vm.Alike.refl U.vm) zK, zD, va_T.moved (u := U) (U := U.calling g mk a) (Vm.Alike.refl U.vm) zV0⟩, fun U hU hW => ⟨rfl, by rw [hU], by rw [hU]; exact hPc, va_K.moved hW.alike hKc, hDc.weaken (fun _ _ _ _ => trivial), vt_call (hV0) hS hFc hW hU⟩⟩ rfl rfl hl.1 rfl (lv_room (Nat.le_of_ble_eq_true rfl)) d_JT_indexOf0_33 ⟨(Nat.zero_le _), (Nat.zero_le _)⟩) hS (fun q _ h => hFc q h) hFc (fun r5 u t H1 locs ht hvm hw hB hz1 hk1 hS => ?_)
      try dsimp only at hw
      have xr5 := hw
      try clear hw
      obtain ⟨hP1, hK1, hD1⟩ := hB
      rw [ht] at hP1
      replace hP1 := @vp_nil (dC, dI) cls2 H1
      obtain ⟨hP, hD⟩ := va_join (wr := []) (w1 := []) hP hD [] [] rfl rfl (by decide) (by decide) hk1 hFc hP1 hD1
      clear hPc hDc hKc hFc hz1 hk1 hP1 hK1 hD1
      generalize H1 = H at hP hS ⊢
      have hP : va_P (dC, dI) cls2 [] H := hP
      have hD : va_D A [] := hD
      have hP9 := hP.sub (ws' := []) [] rfl
      have hD9 := hD.sub (ws' := []) [] (by decide) rfl
      exact W.iret (v := r5) hx hb hr (fun t ht hW => ⟨⟨r5, (), rfl, (trivial), by rw [ht]; exact hP9, va_K.moved hW.alike hK, hD9⟩, hS.F ht⟩) hS.2.2 d_JT_indexOf0_36
    · have q24 := nltI c24
      refine lv_iconst (v := (-1)) hx hb d_JT_indexOf0_27 (by decide) ?_
      have hP9 := hP.sub (ws' := []) [] rfl
      have hD9 := hD.sub (ws' := []) [] (by decide) rfl
      exact W.iret (v := ((-1))) hx hb hr (fun t ht hW => ⟨⟨(-1), (), rfl, (trivial), by rw [ht]; exact hP9, va_K.moved hW.alike hK, hD9⟩, hS.F ht⟩) hS.2.2 d_JT_indexOf0_28
  · have q4 := eqI c4
    refine lv_iconst (v := (-1)) hx hb d_JT_indexOf0_7 (by decide) ?_
    have hP9 := hP.sub (ws' := []) [] rfl
    have hD9 := hD.sub (ws' := []) [] (by decide) rfl
    exact W.iret (v := ((-1))) hx hb hr (fun t ht hW => ⟨⟨(-1), (), rfl, (trivial), by rw [ht]; exact hP9, va_K.moved hW.alike hK, hD9⟩, hS.F ht⟩) hS.2.2 d_JT_indexOf0_8
abbrev b_JS_indexOf1 : ByteArray := prog_33_method_80_code
def y_JS_indexOf1 : MethodName := ⟨R_JS, "indexOf", "(II)I"⟩
abbrev w_JS_indexOf1 : List Cond := .code y_JS_indexOf1 b_JS_indexOf1 3 (Option.some .int) :: lw_g
theorem kC_JS_indexOf1 : Cond.code y_JS_indexOf1 b_JS_indexOf1 3 (Option.some .int) ∈ lw_g := in_g 2428 (by decide +kernel) rfl
theorem d_JS_indexOf1_0 : decode b_JS_indexOf1 0 = .ok (.aload_n 0, 1) := by decide +kernel
theorem d_JS_indexOf1_1 : decode b_JS_indexOf1 1 = .ok (.invokevirtual 492, 3) := by decide +kernel
theorem d_JS_indexOf1_4 : decode b_JS_indexOf1 4 = .ok (.ifCond .eq 19, 3) := by decide +kernel
theorem d_JS_indexOf1_7 : decode b_JS_indexOf1 7 = .ok (.aload_n 0, 1) := by decide +kernel
theorem d_JS_indexOf1_8 : decode b_JS_indexOf1 8 = .ok (.getfield 9, 3) := by decide +kernel
theorem d_JS_indexOf1_11 : decode b_JS_indexOf1 11 = .ok (.iload_n 1, 1) := by decide +kernel
theorem d_JS_indexOf1_12 : decode b_JS_indexOf1 12 = .ok (.iload_n 2, 1) := by decide +kernel
theorem d_JS_indexOf1_13 : decode b_JS_indexOf1 13 = .ok (.aload_n 0, 1) := by decide +kernel
theorem d_JS_indexOf1_14 : decode b_JS_indexOf1 14 = .ok (.invokevirtual 505, 3) := by decide +kernel
theorem d_JS_indexOf1_17 : decode b_JS_indexOf1 17 = .ok (.invokestatic 637, 3) := by decide +kernel
theorem d_JS_indexOf1_20 : decode b_JS_indexOf1 20 = .ok (.goto 16, 3) := by decide +kernel
theorem d_JS_indexOf1_23 : decode b_JS_indexOf1 23 = .ok (.aload_n 0, 1) := by decide +kernel
theorem d_JS_indexOf1_24 : decode b_JS_indexOf1 24 = .ok (.getfield 9, 3) := by decide +kernel
theorem d_JS_indexOf1_27 : decode b_JS_indexOf1 27 = .ok (.iload_n 1, 1) := by decide +kernel
theorem d_JS_indexOf1_28 : decode b_JS_indexOf1 28 = .ok (.iload_n 2, 1) := by decide +kernel
theorem d_JS_indexOf1_29 : decode b_JS_indexOf1 29 = .ok (.aload_n 0, 1) := by decide +kernel
theorem d_JS_indexOf1_30 : decode b_JS_indexOf1 30 = .ok (.invokevirtual 505, 3) := by decide +kernel
theorem d_JS_indexOf1_33 : decode b_JS_indexOf1 33 = .ok (.invokestatic 640, 3) := by decide +kernel
theorem d_JS_indexOf1_36 : decode b_JS_indexOf1 36 = .ok (.ireturn, 1) := by decide +kernel
theorem kM_JS_505 : Cond.methodLink R_JS 505 y_JS_length ∈ lw_g := in_g 2429 (by decide +kernel) rfl
theorem kM_JS_637 : Cond.methodLink R_JS 637 y_JT_indexOf0 ∈ lw_g := in_g 2430 (by decide +kernel) rfl
theorem kT_JT_indexOf0 : Cond.static y_JT_indexOf0 ∈ lw_g := in_g 2431 (by decide +kernel) rfl
abbrev b_JF_indexOf0 : ByteArray := prog_36_method_40_code
def y_JF_indexOf0 : MethodName := ⟨R_JF, "indexOf", "([BIII)I"⟩
abbrev w_JF_indexOf0 : List Cond := .code y_JF_indexOf0 b_JF_indexOf0 4 (Option.some .int) :: lw_g
theorem kC_JF_indexOf0 : Cond.code y_JF_indexOf0 b_JF_indexOf0 4 (Option.some .int) ∈ lw_g := in_g 2443 (by decide +kernel) rfl
theorem kM_JS_640 : Cond.methodLink R_JS 640 y_JF_indexOf0 ∈ lw_g := in_g 2441 (by decide +kernel) rfl
theorem kT_JF_indexOf0 : Cond.static y_JF_indexOf0 ∈ lw_g := in_g 2442 (by decide +kernel) rfl
abbrev at_JS_indexOf1 (dC : Nat → ClassId) (dI : Nat → Nat → Nat) (sa : Nat → Nat)  (A : Nat → Prop) (u : Unit) (t : State) : Prop := match u with | _ => va_P (dC, dI) cls2 [] t.heap ∧ va_K (dC, dI) cls2 [] t ∧ va_D A []
set_option maxHeartbeats 4000000 in
set_option maxRecDepth 100000 in
theorem c_JS_indexOf1 (l : Launch) (hlt : l.stackTraces = false) (dC : Nat → ClassId) (dI : Nat → Nat → Nat) (sz : Nat) (sa : Nat → Nat) (tx tv : Nat) (b : List Int32)    (p1 : Int32) (p2 : Int32)  (hbl : (b.length : Int) < 1000000) (hp : p2.toInt = 0) : Met l y_JS_indexOf1 w_JS_indexOf1 ({ frames := 2, cells := 0, slots := 0, locals := 48 }) (va_Pc [.ref tx, .int p1, .int p2] (fun U => U.heap.size = sz ∧ va_P (dC, dI) cls2 [] U.heap ∧ va_K (dC, dI) cls2 [] U ∧ va_D (fun _ => True) [] ∧ sm sa (va_A [] sz) U U.heap ∧ sw_str tx tv b (va_A [] sz) U U.heap)) (va_Qi (fun (r : Int32) (u : Unit) => match u with | _ => (True)) (at_JS_indexOf1 dC dI sa  (va_A [] sz)) (va_A [] sz)) 0 0 (va_A [] sz) := by
  refine Met.ofW (cc := b_JS_indexOf1) (maxL := 3) (ret := (Option.some .int)) (by decide) rfl ?_
  intro p e s m args below meth c s₁ B hml hv
  obtain ⟨rfl, hsz, hP, hK, hD0, hSW, hR0⟩ := hv
  have hx := B.exec
  have hb := B.bytes
  have hr := B.returns
  have hts0 := atoms_spec (ws := w_JS_indexOf1) B.pre
  have hts : ∀ w ∈ lw_g, w.before _ s = true := fun w h => hts0 w (List.mem_cons_of_mem _ h)
  have hown : s.vm.findClass R_JS = some m.cls := findClass_of_methodNamed B.named
  have hlocks := B.notSynchronized
  clear hts0
  subst hsz
  have hD := hD0.self (sz := s.heap.size)
  generalize hAe : va_A [] s.heap.size = A at hD hSW hR0 ⊢
  have hA : ∀ q : Nat, s.heap.size ≤ q → A q := fun q h => by rw [← hAe]; exact Or.inr h
  clear hAe
  have hP : va_P (dC, dI) cls2 [] s.heap := hP
  have hl := lv_entry ([.ref tx, .int p1, .int p2]) (n := 3) (Nat.le_of_ble_eq_true rfl)
  rw [lg_entry_eq]
  generalize (lg_sl ([.ref tx, .int p1, .int p2]) ++ List.replicate (3 - (lg_sl ([.ref tx, .int p1, .int p2])).length) Slot.unset).toArray = ls at hl ⊢
  have hl : lv_has ls 3 [(0, .ref tx), (1, .int p1), (2, .int p2)] := hl
  have k0 : (0 : Int32).toInt = 0 := by decide
  refine w_gen (A := A) hP (fun H locs hP hS => ?_)
  have lo_p1 := i32_lo p1
  have hi_p1 := i32_hi p1
  have lo_p2 := i32_lo p2
  have hi_p2 := i32_hi p2
  refine lv_aload_n hx hb d_JS_indexOf1_0 rfl (lv_at hl 0 rfl) ?_
  have hPc := @vp_nil
  have hDc := hD.sub (ws' := []) [] (by decide) rfl
  have hKc := (k2_of hK).sub (tys' := []) [] rfl
  have hFc := va_free (wc := []) hD hS hA [] rfl
  refine va_calli (va_runV (As := []) (rest := []) ⟨hx, hb, hml, hown, hts⟩ (c_JS_isLatin1 l dC dI H.size sa tx tv b ) (cwV 0 hts (gV kM_JS_492 kV_JS_isLatin1 kS_JS_isLatin1 kI_JS kC_JS_isLatin1) rfl rfl rfl (by decide +kernel) ⟨Nat.le_of_ble_eq_true rfl, Nat.le_of_ble_eq_true rfl⟩) ⟨fun a U g mk z => by obtain ⟨z0, z1, zP, zK, zD, zS, zR0⟩ := z; exact ⟨z0, z1, zP, va_K.moved (u := U) (U := U.calling g mk a) (Vm.Alike.refl U.vm) zK, zD, sw.same (u := U) (U := U.calling g mk a) rfl zS, zR0.moved (u := U) (U := U.calling g mk a) (Vm.Alike.refl U.vm)⟩, so_recv (hR0.1) hS, fun U hU hW => ⟨rfl, by rw [hU], by rw [hU]; exact hPc, va_K.moved hW.alike hKc, hDc.weaken (fun _ _ _ _ => trivial), hSW.1.call hS hFc hW hU, (hR0).call hS hFc hW hU⟩⟩ rfl rfl hl.1 rfl (lv_room (Nat.le_of_ble_eq_true rfl)) d_JS_indexOf1_1 ⟨(Nat.zero_le _), (Nat.zero_le _)⟩) hS (fun q _ h => hFc q h) hFc (fun r1 u t H1 locs ht hvm hw hB hz1 hk1 hS => ?_)
  try dsimp only at hw
  obtain ⟨br1, xr1⟩ := hw
  try clear hw
  have tr1 := b01 br1
  have tr1 : r1.toInt = 1 := by rw [xr1]; decide
  obtain ⟨hP1, hK1, hD1⟩ := hB
  rw [ht] at hP1
  replace hP1 := @vp_nil (dC, dI) cls2 H1
  obtain ⟨hP, hD⟩ := va_join (wr := []) (w1 := []) hP hD [] [] rfl rfl (by decide) (by decide) hk1 hFc hP1 hD1
  clear hPc hDc hKc hFc hz1 hk1 hP1 hK1 hD1
  generalize H1 = H at hP hS ⊢
  have hP : va_P (dC, dI) cls2 [] H := hP
  have hD : va_D A [] := hD
  refine lv_if_eq (tgt := 23) hx hb d_JS_indexOf1_4 (by decide) (fun c4 => absurd (eqI c4) (by omega)) (fun c4 => ?_)
  have q4 := neI c4
  refine lv_aload_n hx hb d_JS_indexOf1_7 rfl (lv_at hl 0 rfl) ?_
  refine vk_getf (v := .ref tv) hx hb (hR0.2.2.1) hS hown (hts _ kF_JS_9) (fun _ h9 => h9) d_JS_indexOf1_8 ?_
  refine lv_iload_n hx hb d_JS_indexOf1_11 rfl (lv_at hl 1 rfl) ?_
  refine lv_iload_n hx hb d_JS_indexOf1_12 rfl (lv_at hl 2 rfl) ?_
  refine lv_aload_n hx hb d_JS_indexOf1_13 rfl (lv_at hl 0 rfl) ?_
  have hPc := @vp_nil
  have hDc := hD.sub (ws' := []) [] (by decide) rfl
  have hKc := (k2_of hK).sub (tys' := []) [] rfl
  have hFc := va_free (wc := []) hD hS hA [] rfl
  refine va_calli (va_runV (As := []) (rest := [.int p2, .int p1, .ref tv]) ⟨hx, hb, hml, hown, hts⟩ (c_JS_length l dC dI H.size sa tx tv b (by omega)) (cwV 0 hts (gV kM_JS_505 kV_JS_length kS_JS_length kI_JS kC_JS_length) rfl rfl rfl (by decide +kernel) ⟨Nat.le_of_ble_eq_true rfl, Nat.le_of_ble_eq_true rfl⟩) ⟨fun a U g mk z => by obtain ⟨z0, z1, zP, zK, zD, zS, zR0⟩ := z; exact ⟨z0, z1, zP, va_K.moved (u := U) (U := U.calling g mk a) (Vm.Alike.refl U.vm) zK, zD, sw.same (u := U) (U := U.calling g mk a) rfl zS, zR0.moved (u := U) (U := U.calling g mk a) (Vm.Alike.refl U.vm)⟩, so_recv (hR0.1) hS, fun U hU hW => ⟨rfl, by rw [hU], by rw [hU]; exact hPc, va_K.moved hW.alike hKc, hDc.weaken (fun _ _ _ _ => trivial), hSW.1.call hS hFc hW hU, (hR0).call hS hFc hW hU⟩⟩ rfl rfl hl.1 rfl (lv_room (Nat.le_of_ble_eq_true rfl)) d_JS_indexOf1_14 ⟨(Nat.zero_le _), (Nat.zero_le _)⟩) hS (fun q _ h => hFc q h) hFc (fun r2 u t H1 locs ht hvm hw hB hz1 hk1 hS => ?_)
  try dsimp only at hw
  have xr2 := hw
  try clear hw
  have tr2 := xr2
  obtain ⟨hP1, hK1, hD1⟩ := hB
  rw [ht] at hP1
  replace hP1 := @vp_nil (dC, dI) cls2 H1
  obtain ⟨hP, hD⟩ := va_join (wr := []) (w1 := []) hP hD [] [] rfl rfl (by decide) (by decide) hk1 hFc hP1 hD1
  clear hPc hDc hKc hFc hz1 hk1 hP1 hK1 hD1
  generalize H1 = H at hP hS ⊢
  have hP : va_P (dC, dI) cls2 [] H := hP
  have hD : va_D A [] := hD
  have hPc := @vp_nil
  have hDc := hD.sub (ws' := []) [] (by decide) rfl
  have hKc := hK.sub (tys' := []) [] rfl
  have hFc := va_free (wc := []) hD hS hA [] rfl
  refine va_calli (va_runS (As := [.ref tv, .int p1, .int p2, .int r2]) (rest := []) ⟨hx, hb, hml, hown, hts⟩ (c_JT_indexOf0 l hlt dC dI H.size tv b p1 p2 r2 (hbl) (by omega)) ⟨callB_of 4 hts (gW kC_JT_indexOf0) rfl rfl rfl (hts _ kI_JT) (hts _ kM_JS_637) (by decide +kernel) ⟨Nat.le_of_ble_eq_true rfl, Nat.le_of_ble_eq_true rfl⟩, hts _ kT_JT_indexOf0⟩ ⟨fun a U g mk z => by obtain ⟨z0, z1, zP, zK, zD, zV0⟩ := z; exact ⟨z0, z1, zP, va_K.moved (u := U) (U := U.calling g mk a) (Vm.Alike.refl U.vm) zK, zD, va_T.moved (u := U) (U := U.calling g mk a) (Vm.Alike.refl U.vm) zV0⟩, fun U hU hW => ⟨rfl, by rw [hU], by rw [hU]; exact hPc, va_K.moved hW.alike hKc, hDc.weaken (fun _ _ _ _ => trivial), vt_call (hR0.2.2.2) hS hFc hW hU⟩⟩ rfl rfl hl.1 rfl (lv_room (Nat.le_of_ble_eq_true rfl)) d_JS_indexOf1_17 ⟨(Nat.zero_le _), (Nat.zero_le _)⟩) hS (fun q _ h => hFc q h) hFc (fun r3 u t H1 locs ht hvm hw hB hz1 hk1 hS => ?_)
  try dsimp only at hw
  have xr3 := hw
  try clear hw
  obtain ⟨hP1, hK1, hD1⟩ := hB
  rw [ht] at hP1
  replace hP1 := @vp_nil (dC, dI) cls2 H1
  obtain ⟨hP, hD⟩ := va_join (wr := []) (w1 := []) hP hD [] [] rfl rfl (by decide) (by decide) hk1 hFc hP1 hD1
  clear hPc hDc hKc hFc hz1 hk1 hP1 hK1 hD1
  generalize H1 = H at hP hS ⊢
  have hP : va_P (dC, dI) cls2 [] H := hP
  have hD : va_D A [] := hD
  refine lv_goto (tgt := 36) hx hb d_JS_indexOf1_20 (by decide) ?_
  have hP9 := hP.sub (ws' := []) [] rfl
  have hD9 := hD.sub (ws' := []) [] (by decide) rfl
  exact W.iret (v := r3) hx hb hr (fun t ht hW => ⟨⟨r3, (), rfl, (trivial), by rw [ht]; exact hP9, va_K.moved hW.alike hK, hD9⟩, hS.F ht⟩) hS.2.2 d_JS_indexOf1_36
abbrev b_JS_indexOf0 : ByteArray := prog_33_method_79_code
def y_JS_indexOf0 : MethodName := ⟨R_JS, "indexOf", "(I)I"⟩
abbrev w_JS_indexOf0 : List Cond := .code y_JS_indexOf0 b_JS_indexOf0 2 (Option.some .int) :: lw_g
theorem kC_JS_indexOf0 : Cond.code y_JS_indexOf0 b_JS_indexOf0 2 (Option.some .int) ∈ lw_g := in_g 2424 (by decide +kernel) rfl
theorem d_JS_indexOf0_0 : decode b_JS_indexOf0 0 = .ok (.aload_n 0, 1) := by decide +kernel
theorem d_JS_indexOf0_1 : decode b_JS_indexOf0 1 = .ok (.iload_n 1, 1) := by decide +kernel
theorem d_JS_indexOf0_2 : decode b_JS_indexOf0 2 = .ok (.iconst 0, 1) := by decide +kernel
theorem d_JS_indexOf0_3 : decode b_JS_indexOf0 3 = .ok (.invokevirtual 633, 3) := by decide +kernel
theorem d_JS_indexOf0_6 : decode b_JS_indexOf0 6 = .ok (.ireturn, 1) := by decide +kernel
theorem kM_JS_633 : Cond.methodLink R_JS 633 y_JS_indexOf1 ∈ lw_g := in_g 2425 (by decide +kernel) rfl
theorem kV_JS_indexOf1 : Cond.instanceMethod y_JS_indexOf1 ∈ lw_g := in_g 2426 (by decide +kernel) rfl
theorem kS_JS_indexOf1 : Cond.selects R_JS y_JS_indexOf1 y_JS_indexOf1 ∈ lw_g := in_g 2427 (by decide +kernel) rfl
abbrev at_JS_indexOf0 (dC : Nat → ClassId) (dI : Nat → Nat → Nat) (sa : Nat → Nat)  (A : Nat → Prop) (u : Unit) (t : State) : Prop := match u with | _ => va_P (dC, dI) cls2 [] t.heap ∧ va_K (dC, dI) cls2 [] t ∧ va_D A []
set_option maxHeartbeats 4000000 in
set_option maxRecDepth 100000 in
theorem c_JS_indexOf0 (l : Launch) (hlt : l.stackTraces = false) (dC : Nat → ClassId) (dI : Nat → Nat → Nat) (sz : Nat) (sa : Nat → Nat) (tx tv : Nat) (b : List Int32)    (p1 : Int32)  (hbl : (b.length : Int) < 1000000) : Met l y_JS_indexOf0 w_JS_indexOf0 ({ frames := 3, cells := 0, slots := 0, locals := 70 }) (va_Pc [.ref tx, .int p1] (fun U => U.heap.size = sz ∧ va_P (dC, dI) cls2 [] U.heap ∧ va_K (dC, dI) cls2 [] U ∧ va_D (fun _ => True) [] ∧ sm sa (va_A [] sz) U U.heap ∧ sw_str tx tv b (va_A [] sz) U U.heap)) (va_Qi (fun (r : Int32) (u : Unit) => match u with | _ => (True)) (at_JS_indexOf0 dC dI sa  (va_A [] sz)) (va_A [] sz)) 0 0 (va_A [] sz) := by
  refine Met.ofW (cc := b_JS_indexOf0) (maxL := 2) (ret := (Option.some .int)) (by decide) rfl ?_
  intro p e s m args below meth c s₁ B hml hv
  obtain ⟨rfl, hsz, hP, hK, hD0, hSW, hR0⟩ := hv
  have hx := B.exec
  have hb := B.bytes
  have hr := B.returns
  have hts0 := atoms_spec (ws := w_JS_indexOf0) B.pre
  have hts : ∀ w ∈ lw_g, w.before _ s = true := fun w h => hts0 w (List.mem_cons_of_mem _ h)
  have hown : s.vm.findClass R_JS = some m.cls := findClass_of_methodNamed B.named
  have hlocks := B.notSynchronized
  clear hts0
  subst hsz
  have hD := hD0.self (sz := s.heap.size)
  generalize hAe : va_A [] s.heap.size = A at hD hSW hR0 ⊢
  have hA : ∀ q : Nat, s.heap.size ≤ q → A q := fun q h => by rw [← hAe]; exact Or.inr h
  clear hAe
  have hP : va_P (dC, dI) cls2 [] s.heap := hP
  have hl := lv_entry ([.ref tx, .int p1]) (n := 2) (Nat.le_of_ble_eq_true rfl)
  rw [lg_entry_eq]
  generalize (lg_sl ([.ref tx, .int p1]) ++ List.replicate (2 - (lg_sl ([.ref tx, .int p1])).length) Slot.unset).toArray = ls at hl ⊢
  have hl : lv_has ls 2 [(0, .ref tx), (1, .int p1)] := hl
  have k0 : (0 : Int32).toInt = 0 := by decide
  refine w_gen (A := A) hP (fun H locs hP hS => ?_)
  have lo_p1 := i32_lo p1
  have hi_p1 := i32_hi p1
  refine lv_aload_n hx hb d_JS_indexOf0_0 rfl (lv_at hl 0 rfl) ?_
  refine lv_iload_n hx hb d_JS_indexOf0_1 rfl (lv_at hl 1 rfl) ?_
  refine lv_iconst (v := 0) hx hb d_JS_indexOf0_2 (by decide) ?_
  have hPc := @vp_nil
  have hDc := hD.sub (ws' := []) [] (by decide) rfl
  have hKc := hK.sub (tys' := []) [] rfl
  have hFc := va_free (wc := []) hD hS hA [] rfl
  refine va_calli (va_runV (As := [.int p1, .int 0]) (rest := []) ⟨hx, hb, hml, hown, hts⟩ (c_JS_indexOf1 l hlt dC dI H.size sa tx tv b p1 0 (hbl) (by decide)) (cwV 2 hts (gV kM_JS_633 kV_JS_indexOf1 kS_JS_indexOf1 kI_JS kC_JS_indexOf1) rfl rfl rfl (by decide +kernel) ⟨Nat.le_of_ble_eq_true rfl, Nat.le_of_ble_eq_true rfl⟩) ⟨fun a U g mk z => by obtain ⟨z0, z1, zP, zK, zD, zS, zR0⟩ := z; exact ⟨z0, z1, zP, va_K.moved (u := U) (U := U.calling g mk a) (Vm.Alike.refl U.vm) zK, zD, sm.same (u := U) (U := U.calling g mk a) rfl zS, zR0.moved (u := U) (U := U.calling g mk a) (Vm.Alike.refl U.vm)⟩, so_recv (hR0.1) hS, fun U hU hW => ⟨rfl, by rw [hU], by rw [hU]; exact hPc, va_K.moved hW.alike hKc, hDc.weaken (fun _ _ _ _ => trivial), hSW.call hS hFc hW hU, (hR0).call hS hFc hW hU⟩⟩ rfl rfl hl.1 rfl (lv_room (Nat.le_of_ble_eq_true rfl)) d_JS_indexOf0_3 ⟨(Nat.zero_le _), (Nat.zero_le _)⟩) hS (fun q _ h => hFc q h) hFc (fun r1 u t H1 locs ht hvm hw hB hz1 hk1 hS => ?_)
  try dsimp only at hw
  have xr1 := hw
  try clear hw
  obtain ⟨hP1, hK1, hD1⟩ := hB
  rw [ht] at hP1
  replace hP1 := @vp_nil (dC, dI) cls2 H1
  obtain ⟨hP, hD⟩ := va_join (wr := []) (w1 := []) hP hD [] [] rfl rfl (by decide) (by decide) hk1 hFc hP1 hD1
  clear hPc hDc hKc hFc hz1 hk1 hP1 hK1 hD1
  generalize H1 = H at hP hS ⊢
  have hP : va_P (dC, dI) cls2 [] H := hP
  have hD : va_D A [] := hD
  have hP9 := hP.sub (ws' := []) [] rfl
  have hD9 := hD.sub (ws' := []) [] (by decide) rfl
  exact W.iret (v := r1) hx hb hr (fun t ht hW => ⟨⟨r1, (), rfl, (trivial), by rw [ht]; exact hP9, va_K.moved hW.alike hK, hD9⟩, hS.F ht⟩) hS.2.2 d_JS_indexOf0_6

/-! the makers of texts: room is made, a letter is laid behind -/
abbrev b_JQ_ensureCapacityInternal : ByteArray := prog_20_method_9_code
def y_JQ_ensureCapacityInternal : MethodName := ⟨R_JQ, "ensureCapacityInternal", "(I)V"⟩
abbrev w_JQ_ensureCapacityInternal : List Cond := .code y_JQ_ensureCapacityInternal b_JQ_ensureCapacityInternal 3 none :: lw_g
theorem kC_JQ_ensureCapacityInternal : Cond.code y_JQ_ensureCapacityInternal b_JQ_ensureCapacityInternal 3 none ∈ lw_g := in_g 2179 (by decide +kernel) rfl
theorem d_JQ_ensureCapacityInternal_0 : decode b_JQ_ensureCapacityInternal 0 = .ok (.aload_n 0, 1) := by decide +kernel
theorem d_JQ_ensureCapacityInternal_1 : decode b_JQ_ensureCapacityInternal 1 = .ok (.getfield 15, 3) := by decide +kernel
theorem d_JQ_ensureCapacityInternal_4 : decode b_JQ_ensureCapacityInternal 4 = .ok (.arraylength, 1) := by decide +kernel
theorem d_JQ_ensureCapacityInternal_5 : decode b_JQ_ensureCapacityInternal 5 = .ok (.aload_n 0, 1) := by decide +kernel
theorem d_JQ_ensureCapacityInternal_6 : decode b_JQ_ensureCapacityInternal 6 = .ok (.getfield 22, 3) := by decide +kernel
theorem d_JQ_ensureCapacityInternal_9 : decode b_JQ_ensureCapacityInternal 9 = .ok (.ishr, 1) := by decide +kernel
theorem d_JQ_ensureCapacityInternal_10 : decode b_JQ_ensureCapacityInternal 10 = .ok (.istore_n 2, 1) := by decide +kernel
theorem d_JQ_ensureCapacityInternal_11 : decode b_JQ_ensureCapacityInternal 11 = .ok (.iload_n 1, 1) := by decide +kernel
theorem d_JQ_ensureCapacityInternal_12 : decode b_JQ_ensureCapacityInternal 12 = .ok (.iload_n 2, 1) := by decide +kernel
theorem d_JQ_ensureCapacityInternal_13 : decode b_JQ_ensureCapacityInternal 13 = .ok (.isub, 1) := by decide +kernel
theorem d_JQ_ensureCapacityInternal_14 : decode b_JQ_ensureCapacityInternal 14 = .ok (.ifCond .le 24, 3) := by decide +kernel
theorem d_JQ_ensureCapacityInternal_17 : decode b_JQ_ensureCapacityInternal 17 = .ok (.aload_n 0, 1) := by decide +kernel
theorem d_JQ_ensureCapacityInternal_18 : decode b_JQ_ensureCapacityInternal 18 = .ok (.aload_n 0, 1) := by decide +kernel
theorem d_JQ_ensureCapacityInternal_19 : decode b_JQ_ensureCapacityInternal 19 = .ok (.getfield 15, 3) := by decide +kernel
theorem d_JQ_ensureCapacityInternal_22 : decode b_JQ_ensureCapacityInternal 22 = .ok (.aload_n 0, 1) := by decide +kernel
theorem d_JQ_ensureCapacityInternal_23 : decode b_JQ_ensureCapacityInternal 23 = .ok (.iload_n 1, 1) := by decide +kernel
theorem d_JQ_ensureCapacityInternal_24 : decode b_JQ_ensureCapacityInternal 24 = .ok (.invokevirtual 104, 3) := by decide +kernel
theorem d_JQ_ensureCapacityInternal_27 : decode b_JQ_ensureCapacityInternal 27 = .ok (.aload_n 0, 1) := by decide +kernel
theorem d_JQ_ensureCapacityInternal_28 : decode b_JQ_ensureCapacityInternal 28 = .ok (.getfield 22, 3) := by decide +kernel
theorem d_JQ_ensureCapacityInternal_31 : decode b_JQ_ensureCapacityInternal 31 = .ok (.ishl, 1) := by decide +kernel
theorem d_JQ_ensureCapacityInternal_32 : decode b_JQ_ensureCapacityInternal 32 = .ok (.invokestatic 108, 3) := by decide +kernel
theorem d_JQ_ensureCapacityInternal_35 : decode b_JQ_ensureCapacityInternal 35 = .ok (.putfield 15, 3) := by decide +kernel
theorem d_JQ_ensureCapacityInternal_38 : decode b_JQ_ensureCapacityInternal 38 = .ok (.return_, 1) := by decide +kernel
theorem kM_JQ_104 : Cond.methodLink R_JQ 104 y_JQ_newCapacity ∈ lw_g := in_g 2180 (by decide +kernel) rfl
theorem kV_JQ_newCapacity : Cond.instanceMethod y_JQ_newCapacity ∈ lw_g := in_g 2182 (by decide +kernel) rfl
theorem kM_JQ_108 : Cond.methodLink R_JQ 108 y_JA_copyOf ∈ lw_g := in_g 2195 (by decide +kernel) rfl
theorem kT_JA_copyOf : Cond.static y_JA_copyOf ∈ lw_g := in_g 2196 (by decide +kernel) rfl
theorem kN_JB : Cond.instantiable R_JB 4 ∈ lw_g := in_g 2137 (by decide +kernel) rfl
theorem kSM_JQ_newCapacity : Cond.sameMethod R_JQ R_JQ "newCapacity" "(I)I" ∈ lw_g := in_g 3103 (by decide +kernel) rfl
abbrev at_JQ_ensureCapacityInternal (dC : Nat → ClassId) (dI : Nat → Nat → Nat) (sz szl : Nat) (sa : Nat → Nat) (h0 va : Nat) (cpb : ClassId) (h0_maybeLatin1 : Int32) (h0_count : Int32) (A : Nat → Prop) (u : (Nat → Int32) × Nat × Nat × Nat × Nat) (t : State) : Prop := match u with | (gva, va, kcz, knz, nva) => va_P (dC, dI) cls2 [(h0, .inr (17, [.ref va, .int 0, .int h0_maybeLatin1, .int h0_count])), (va, .inl (cpb, nva, .inl gva))] t.heap ∧ va_K (dC, dI) cls2 [(cpb, .byte)] t ∧ va_D A [(h0, .inr (17, [.ref va, .int 0, .int h0_maybeLatin1, .int h0_count])), (va, .inl (cpb, nva, .inl gva))] ∧ t.heap.size ≤ sz + kcz ∧ hsl t.heap ≤ szl + knz
set_option maxHeartbeats 4000000 in
set_option maxRecDepth 100000 in
theorem c_JQ_ensureCapacityInternal (l : Launch) (hlt : l.stackTraces = false) (dC : Nat → ClassId) (dI : Nat → Nat → Nat) (sz : Nat) (szl : Nat) (sa : Nat → Nat) (h0 va : Nat) (cpb : ClassId) (h0_maybeLatin1 : Int32) (h0_count : Int32) (nva : Nat) (gva : Nat → Int32)  (b_gva : ∀ j : Nat, -128 ≤ (gva j).toInt ∧ (gva j).toInt ≤ 127) (p0 : Int32)  (hva : (nva : Int) < 1000000) (hp : 0 ≤ p0.toInt ∧ p0.toInt ≤ 1000000) : Met l y_JQ_ensureCapacityInternal w_JQ_ensureCapacityInternal ({ frames := 3, cells := 1, slots := (nva + max (p0.toInt - nva).toNat (nva + 2)), locals := 72 }) (va_Pc [.ref h0, .int p0] (fun U => U.heap.size = sz ∧ va_P (dC, dI) cls2 [(h0, .inr (17, [.ref va, .int 0, .int h0_maybeLatin1, .int h0_count])), (va, .inl (cpb, nva, .inl gva))] U.heap ∧ va_K (dC, dI) cls2 [(cpb, .byte)] U ∧ va_D (fun _ => True) [(h0, .inr (17, [.ref va, .int 0, .int h0_maybeLatin1, .int h0_count])), (va, .inl (cpb, nva, .inl gva))] ∧ sm sa (va_A [(h0, .inr (17, [.ref va, .int 0, .int h0_maybeLatin1, .int h0_count])), (va, .inl (cpb, nva, .inl gva))] sz) U U.heap ∧ hsl U.heap = szl)) (va_Qv (fun (u : (Nat → Int32) × Nat × Nat × Nat × Nat) => match u with | (gva2, va2, kcz2, knz2, nva2) => (∀ j : Nat, -128 ≤ (gva2 j).toInt ∧ (gva2 j).toInt ≤ 127) ∧ (p0.toInt ≤ (nva2 : Int) ∧ kcz2 ≤ 1 ∧ nva ≤ nva2 ∧ (nva2 = nva ∧ kcz2 = 0 ∧ knz2 = 0 ∨ (nva : Int) < p0.toInt ∧ nva2 = nva + max (p0.toInt - nva).toNat (nva + 2) ∧ knz2 = nva2) ∧ ∀ j, j < nva → gva2 j = gva j)) (at_JQ_ensureCapacityInternal dC dI sz szl sa h0 va cpb h0_maybeLatin1 h0_count (va_A [(h0, .inr (17, [.ref va, .int 0, .int h0_maybeLatin1, .int h0_count])), (va, .inl (cpb, nva, .inl gva))] sz)) (va_A [(h0, .inr (17, [.ref va, .int 0, .int h0_maybeLatin1, .int h0_count])), (va, .inl (cpb, nva, .inl gva))] sz)) (1) ((nva + max (p0.toInt - nva).toNat (nva + 2))) (va_A [(h0, .inr (17, [.ref va, .int 0, .int h0_maybeLatin1, .int h0_count])), (va, .inl (cpb, nva, .inl gva))] sz) := by
  refine Met.ofW (cc := b_JQ_ensureCapacityInternal) (maxL := 3) (ret := none) (by decide) rfl ?_
  intro p e s m args below meth c s₁ B hml hv
  obtain ⟨rfl, hsz, hP, hK, hD0, hSW, hszl⟩ := hv
  have hx := B.exec
  have hb := B.bytes
  have hr := B.returns
  have hts0 := atoms_spec (ws := w_JQ_ensureCapacityInternal) B.pre
  have hts : ∀ w ∈ lw_g, w.before _ s = true := fun w h => hts0 w (List.mem_cons_of_mem _ h)
  have hown : s.vm.findClass R_JQ = some m.cls := findClass_of_methodNamed B.named
  have hlocks := B.notSynchronized
  clear hts0
  subst hsz
  subst hszl
  have hD := hD0.self (sz := s.heap.size)
  generalize hAe : va_A [(h0, .inr (17, [.ref va, .int 0, .int h0_maybeLatin1, .int h0_count])), (va, .inl (cpb, nva, .inl gva))] s.heap.size = A at hD hSW ⊢
  have hA : ∀ q : Nat, s.heap.size ≤ q → A q := fun q h => by rw [← hAe]; exact Or.inr h
  clear hAe
  have hP : va_P (dC, dI) cls2 [(h0, .inr (17, [.ref va, .int 0, .int h0_maybeLatin1, .int h0_count])), (va, .inl (cpb, nva, .inl gva))] s.heap := hP
  have hl := lv_entry ([.ref h0, .int p0]) (n := 3) (Nat.le_of_ble_eq_true rfl)
  rw [lg_entry_eq]
  generalize (lg_sl ([.ref h0, .int p0]) ++ List.replicate (3 - (lg_sl ([.ref h0, .int p0])).length) Slot.unset).toArray = ls at hl ⊢
  have hl : lv_has ls 3 [(0, .ref h0), (1, .int p0)] := hl
  have k0 : (0 : Int32).toInt = 0 := by decide
  refine w_gen (A := A) hP (fun H locs hP hS => ?_)
  have lo_p0 := i32_lo p0
  have hi_p0 := i32_hi p0
  refine lv_aload_n hx hb d_JQ_ensureCapacityInternal_0 rfl (lv_at hl 0 rfl) ?_
  refine va_get (D := (dC, dI)) (ci := 17) (v := .ref va) (C := R_JB) (T := F_JB) (N := 4) hx hb hts i_JB hown hK hP 0 rfl rfl 0 (by decide) (hts _ kF_JQ_15) (fun _ h9 => h9) rfl d_JQ_ensureCapacityInternal_1 ?_
  refine va_alen hx hb hK hP 1 0 rfl rfl rfl d_JQ_ensureCapacityInternal_4 ?_
  refine lv_topi (fun x1 ex1 => ?_)
  have tx1 : x1.toInt = nva := by rw [ex1]; exact i32_len (by omega)
  refine lv_aload_n hx hb d_JQ_ensureCapacityInternal_5 rfl (lv_at hl 0 rfl) ?_
  refine va_get (D := (dC, dI)) (ci := 17) (v := .int 0) (C := R_JB) (T := F_JB) (N := 4) hx hb hts i_JB hown hK hP 0 rfl rfl 1 (by decide) (hts _ kF_JQ_22) (fun _ h9 => h9) rfl d_JQ_ensureCapacityInternal_6 ?_
  refine lv_ishr hx hb d_JQ_ensureCapacityInternal_9 ?_
  refine lv_topi (fun x2 ex2 => ?_)
  have tx2 := sh0r ex2
  refine lv_istore_n (lv' := [(2, .int x2), (0, .ref h0), (1, .int p0)]) hx hb d_JQ_ensureCapacityInternal_10 rfl hl (by decide) rfl (fun ls hl => ?_)
  refine lv_iload_n hx hb d_JQ_ensureCapacityInternal_11 rfl (lv_at hl 2 rfl) ?_
  refine lv_iload_n hx hb d_JQ_ensureCapacityInternal_12 rfl (lv_at hl 0 rfl) ?_
  refine lv_isub hx hb d_JQ_ensureCapacityInternal_13 ?_
  refine lv_topi (fun x3 ex3 => ?_)
  have tx3 : x3.toInt = p0.toInt - x2.toInt := by have z := i32_sub ex3 (by omega) (by omega); omega
  refine lv_if_le (tgt := 38) hx hb d_JQ_ensureCapacityInternal_14 (by decide) (fun c14 => ?_) (fun c14 => ?_)
  · have q14 := leI c14
    have hP9 := hP.sub (ws' := [(h0, .inr (17, [.ref va, .int 0, .int h0_maybeLatin1, .int h0_count])), (va, .inl (cpb, nva, .inl gva))]) [0, 1] rfl
    have hD9 := hD.sub (ws' := [(h0, .inr (17, [.ref va, .int 0, .int h0_maybeLatin1, .int h0_count])), (va, .inl (cpb, nva, .inl gva))]) [0, 1] (by decide) rfl
    refine w_known (fun hzc hzs => ?_)
    refine W.widen (k := 1) (n := (nva + max (p0.toInt - nva).toNat (nva + 2))) (by omega) (by omega) ?_
    exact W.vret hx hb hr (fun t ht hW => ⟨⟨(gva, va, 0, 0, nva), rfl, ⟨b_gva, ⟨by omega, by omega, by omega, by omega, fun j _ => rfl⟩⟩, by rw [ht]; exact hP9, va_K.moved hW.alike hK, hD9, by rw [ht]; exact hzc, by rw [ht]; exact hzs⟩, hS.F ht⟩) hS.2.2 d_JQ_ensureCapacityInternal_38
  · have q14 := nleI c14
    refine lv_aload_n hx hb d_JQ_ensureCapacityInternal_17 rfl (lv_at hl 1 rfl) ?_
    refine lv_aload_n hx hb d_JQ_ensureCapacityInternal_18 rfl (lv_at hl 1 rfl) ?_
    refine va_get (D := (dC, dI)) (ci := 17) (v := .ref va) (C := R_JB) (T := F_JB) (N := 4) hx hb hts i_JB hown hK hP 0 rfl rfl 0 (by decide) (hts _ kF_JQ_15) (fun _ h9 => h9) rfl d_JQ_ensureCapacityInternal_19 ?_
    refine lv_aload_n hx hb d_JQ_ensureCapacityInternal_22 rfl (lv_at hl 1 rfl) ?_
    refine lv_iload_n hx hb d_JQ_ensureCapacityInternal_23 rfl (lv_at hl 2 rfl) ?_
    have hPc := hP.sub (ws' := [(h0, .inr (17, [.ref va, .int 0, .int h0_maybeLatin1, .int h0_count])), (va, .inl (cpb, nva, .inl gva))]) [0, 1] rfl
    have hDc := hD.sub (ws' := [(h0, .inr (17, [.ref va, .int 0, .int h0_maybeLatin1, .int h0_count])), (va, .inl (cpb, nva, .inl gva))]) [0, 1] (by decide) rfl
    have hKc := hK.sub (tys' := [(cpb, .byte)]) [0] rfl
    have hFc := va_free (wc := [(h0, .inr (17, [.ref va, .int 0, .int h0_maybeLatin1, .int h0_count])), (va, .inl (cpb, nva, .inl gva))]) hD hS hA [0, 1] rfl
    refine va_calli (va_runV (As := [.int p0]) (rest := [.ref va, .ref h0]) ⟨hx, hb, hml, hown, hts⟩ (c_JQ_newCapacity l hlt dC dI H.size h0 va cpb h0_maybeLatin1 h0_count nva gva (b_gva) p0 (hva) (by omega)) ⟨callB_of 1 hts (gW kC_JQ_newCapacity) rfl rfl rfl (hts _ kI_JQ) (hts _ kM_JQ_104) (by decide +kernel) ⟨Nat.le_of_ble_eq_true rfl, Nat.le_of_ble_eq_true rfl⟩, hts _ kV_JQ_newCapacity, hSW.sel 1 rfl⟩ ⟨fun a U g mk z => by obtain ⟨z0, z1, zP, zK, zD⟩ := z; exact ⟨z0, z1, zP, va_K.moved (u := U) (U := U.calling g mk a) (Vm.Alike.refl U.vm) zK, zD⟩, va_recv hKc hPc (ci := 17) (q0 := 0) rfl rfl, fun U hU hW => ⟨rfl, by rw [hU], by rw [hU]; exact hPc, va_K.moved hW.alike hKc, hDc.weaken (fun _ _ _ _ => trivial)⟩⟩ rfl rfl hl.1 rfl (lv_room (Nat.le_of_ble_eq_true rfl)) d_JQ_ensureCapacityInternal_24 ⟨by dsimp only [headSpec]; omega, by dsimp only [headSpec]; omega⟩) hS (fun q _ h => hFc q h) hFc (fun r4 u t H1 locs ht hvm hw hB hz1 hk1 hS => ?_)
    try dsimp only at hw
    have xr4 := hw
    try clear hw
    obtain ⟨hP1, hK1, hD1⟩ := hB
    rw [ht] at hP1
    obtain ⟨hP, hD⟩ := va_join (wr := []) (w1 := [(h0, .inr (17, [.ref va, .int 0, .int h0_maybeLatin1, .int h0_count])), (va, .inl (cpb, nva, .inl gva))]) hP hD [0, 1] [] rfl rfl (by decide) (by decide) hk1 hFc hP1 hD1
    clear hPc hDc hKc hFc hz1 hk1 hP1 hK1 hD1
    generalize H1 = H at hP hS ⊢
    have hP : va_P (dC, dI) cls2 [(h0, .inr (17, [.ref va, .int 0, .int h0_maybeLatin1, .int h0_count])), (va, .inl (cpb, nva, .inl gva))] H := hP
    have hD : va_D A [(h0, .inr (17, [.ref va, .int 0, .int h0_maybeLatin1, .int h0_count])), (va, .inl (cpb, nva, .inl gva))] := hD
    refine lv_aload_n hx hb d_JQ_ensureCapacityInternal_27 rfl (lv_at hl 1 rfl) ?_
    refine va_get (D := (dC, dI)) (ci := 17) (v := .int 0) (C := R_JB) (T := F_JB) (N := 4) hx hb hts i_JB hown hK hP 0 rfl rfl 1 (by decide) (hts _ kF_JQ_22) (fun _ h9 => h9) rfl d_JQ_ensureCapacityInternal_28 ?_
    refine lv_ishl hx hb d_JQ_ensureCapacityInternal_31 ?_
    refine lv_topi (fun x7 ex7 => ?_)
    have tx7 := sh0l ex7
    refine w_known (fun hzc hzs => ?_)
    have hPc := hP.sub (ws' := [(va, .inl (cpb, nva, .inl gva))]) [1] rfl
    have hDc := hD.sub (ws' := [(va, .inl (cpb, nva, .inl gva))]) [1] (by decide) rfl
    have hKc := hK.sub (tys' := [(cpb, .byte)]) [0] rfl
    have hFc := va_free (wc := [(va, .inl (cpb, nva, .inl gva))]) hD hS hA [1] rfl
    refine va_callr (va_runS (As := [.ref va, .int x7]) (rest := [.ref h0]) ⟨hx, hb, hml, hown, hts⟩ (c_JA_copyOf l hlt dC dI H.size (hsl H) sa va cpb nva gva (b_gva) x7 (hva) (by omega)) ⟨callB_of 2 hts (gW kC_JA_copyOf) rfl rfl rfl (hts _ kI_JA) (hts _ kM_JQ_108) (by decide +kernel) ⟨Nat.le_of_ble_eq_true rfl, Nat.le_of_ble_eq_true rfl⟩, hts _ kT_JA_copyOf⟩ ⟨fun a U g mk z => by obtain ⟨z0, z1, zP, zK, zD, zS, zZ⟩ := z; exact ⟨z0, z1, zP, va_K.moved (u := U) (U := U.calling g mk a) (Vm.Alike.refl U.vm) zK, zD, sm.same (u := U) (U := U.calling g mk a) rfl zS, zZ⟩, fun U hU hW => ⟨rfl, by rw [hU], by rw [hU]; exact hPc, va_K.moved hW.alike hKc, hDc.weaken (fun _ _ _ _ => trivial), hSW.call hS hFc hW hU, by rw [hU]⟩⟩ rfl rfl hl.1 rfl (lv_room (Nat.le_of_ble_eq_true rfl)) d_JQ_ensureCapacityInternal_32 ⟨by dsimp only [headSpec]; omega, by dsimp only [headSpec]; omega⟩) hS (fun q _ h => hFc q h) hFc (fun u ra t H1 locs ht hvm hw hB hz1 hk1 hS => ?_)
    obtain ⟨n9, n10, n11, n12, nq32_nw⟩ := u
    try dsimp only at hw
    obtain ⟨bn9, xr8⟩ := hw
    try clear hw
    obtain ⟨y1, y2, y3, y4⟩ := xr8
    dsimp only at hB
    obtain ⟨rfl, hB⟩ := hB
    obtain ⟨hP1, hK1, hD1, hZc, hZs⟩ := hB
    rw [ht] at hP1 hZc hZs
    obtain ⟨kc13, ekc13⟩ : ∃ z : Nat, z = 0 + 0 + n10 := ⟨_, rfl⟩
    obtain ⟨kn14, ekn14⟩ : ∃ z : Nat, z = 0 + 0 + n11 := ⟨_, rfl⟩
    refine w_refund (c2 := kc13) (n2 := kn14) (by omega) (by omega) ?_
    clear hzc hzs hZc hZs
    obtain ⟨hP, hD⟩ := va_join (wr := [(h0, .inr (17, [.ref va, .int 0, .int h0_maybeLatin1, .int h0_count]))]) (w1 := [(va, .inl (cpb, nva, .inl gva)), (nq32_nw, .inl (cpb, n12, .inl n9))]) hP hD [1] [0] rfl rfl (by decide) (by decide) hk1 hFc hP1 hD1
    clear hPc hDc hKc hFc hz1 hk1 hP1 hK1 hD1
    generalize H1 = H at hP hS ⊢
    have hP : va_P (dC, dI) cls2 [(h0, .inr (17, [.ref va, .int 0, .int h0_maybeLatin1, .int h0_count])), (va, .inl (cpb, nva, .inl gva)), (nq32_nw, .inl (cpb, n12, .inl n9))] H := hP
    have hD : va_D A [(h0, .inr (17, [.ref va, .int 0, .int h0_maybeLatin1, .int h0_count])), (va, .inl (cpb, nva, .inl gva)), (nq32_nw, .inl (cpb, n12, .inl n9))] := hD
    refine va_put (D := (dC, dI)) (ci := 17) (v := .ref nq32_nw) (ty := .array .byte) (C := R_JB) (T := F_JB) (N := 4) hx hb hts i_JB t_JB t_JB_ok n_JB hown hK hP hD hS 0 rfl rfl 0 (by decide) (hts _ kF_JQ_15) (fun _ h9 => h9) rfl (by decide +kernel) rfl rfl (Nat.le_of_ble_eq_true rfl) d_JQ_ensureCapacityInternal_35 (fun H locs hP hD hS => ?_)
    have hP9 := hP.sub (ws' := [(h0, .inr (17, [.ref nq32_nw, .int 0, .int h0_maybeLatin1, .int h0_count])), (nq32_nw, .inl (cpb, n12, .inl n9))]) [0, 2] rfl
    have hD9 := hD.sub (ws' := [(h0, .inr (17, [.ref nq32_nw, .int 0, .int h0_maybeLatin1, .int h0_count])), (nq32_nw, .inl (cpb, n12, .inl n9))]) [0, 2] (by decide) rfl
    refine w_known (fun hzc hzs => ?_)
    refine W.widen (k := 1) (n := (nva + max (p0.toInt - nva).toNat (nva + 2))) (by omega) (by omega) ?_
    exact W.vret hx hb hr (fun t ht hW => ⟨⟨(n9, nq32_nw, kc13, kn14, n12), rfl, ⟨bn9, ⟨by omega, by omega, by omega, by omega, y4⟩⟩, by rw [ht]; exact hP9, va_K.moved hW.alike hK, hD9, by rw [ht]; exact hzc, by rw [ht]; exact hzs⟩, hS.F ht⟩) hS.2.2 d_JQ_ensureCapacityInternal_38

/-! StringBuilder: as its superclass does; its making; a text is made of it -/
abbrev b_JB_append0 : ByteArray := prog_34_method_14_code
def y_JB_append0 : MethodName := ⟨R_JB, "append", "(C)Ljava/lang/StringBuilder;"⟩
abbrev w_JB_append0 : List Cond := .code y_JB_append0 b_JB_append0 2 (Option.some (.object "java/lang/StringBuilder")) :: lw_g
theorem kC_JB_append0 : Cond.code y_JB_append0 b_JB_append0 2 (Option.some (.object "java/lang/StringBuilder")) ∈ lw_g := in_g 2172 (by decide +kernel) rfl
theorem d_JB_append0_0 : decode b_JB_append0 0 = .ok (.aload_n 0, 1) := by decide +kernel
theorem d_JB_append0_1 : decode b_JB_append0 1 = .ok (.iload_n 1, 1) := by decide +kernel
theorem d_JB_append0_2 : decode b_JB_append0 2 = .ok (.invokespecial 50, 3) := by decide +kernel
theorem d_JB_append0_5 : decode b_JB_append0 5 = .ok (.pop, 1) := by decide +kernel
theorem d_JB_append0_6 : decode b_JB_append0 6 = .ok (.aload_n 0, 1) := by decide +kernel
theorem d_JB_append0_7 : decode b_JB_append0 7 = .ok (.areturn, 1) := by decide +kernel
theorem kM_JB_50 : Cond.methodLink R_JB 50 y_JQ_append0 ∈ lw_g := in_g 2173 (by decide +kernel) rfl
theorem kV_JQ_append0 : Cond.instanceMethod y_JQ_append0 ∈ lw_g := in_g 2174 (by decide +kernel) rfl
theorem kSM_JQ_append0 : Cond.sameMethod R_JQ R_JQ "append" "(C)Ljava/lang/AbstractStringBuilder;" ∈ lw_g := in_g 3101 (by decide +kernel) rfl
theorem kSU_JB : Cond.superclass R_JB R_JQ ∈ lw_g := in_g 2165 (by decide +kernel) rfl
abbrev at_JB_append0 (dC : Nat → ClassId) (dI : Nat → Nat → Nat) (sz szl : Nat) (sa : Nat → Nat) (h0 va : Nat) (cpb : ClassId) (h0_maybeLatin1 : Int32) (A : Nat → Prop) (u : (Nat → Int32) × Nat × Int32 × Nat × Nat × Nat) (t : State) : Prop := match u with | (gva, va, h0_count, kcz, knz, nva) => va_P (dC, dI) cls2 [(h0, .inr (17, [.ref va, .int 0, .int h0_maybeLatin1, .int h0_count])), (va, .inl (cpb, nva, .inl gva))] t.heap ∧ va_K (dC, dI) cls2 [(cpb, .byte)] t ∧ va_D A [(h0, .inr (17, [.ref va, .int 0, .int h0_maybeLatin1, .int h0_count])), (va, .inl (cpb, nva, .inl gva))] ∧ t.heap.size ≤ sz + kcz ∧ hsl t.heap ≤ szl + knz
set_option maxHeartbeats 4000000 in
set_option maxRecDepth 100000 in
theorem c_JB_append0 (l : Launch) (hlt : l.stackTraces = false) (dC : Nat → ClassId) (dI : Nat → Nat → Nat) (sz : Nat) (szl : Nat) (sa : Nat → Nat) (h0 va : Nat) (cpb : ClassId) (h0_maybeLatin1 : Int32) (h0_count : Int32) (nva : Nat) (gva : Nat → Int32)  (b_h0_count : 0 ≤ h0_count.toInt ∧ h0_count.toInt ≤ 1000000) (b_gva : ∀ j : Nat, -128 ≤ (gva j).toInt ∧ (gva j).toInt ≤ 127) (p0 : Int32) (ba0 : 0 ≤ p0.toInt ∧ p0.toInt ≤ 255) (hc : h0_count.toInt ≤ (nva : Int) ∧ (nva : Int) ≤ 400000) : Met l y_JB_append0 w_JB_append0 ({ frames := 5, cells := 1, slots := 2 * nva + 2, locals := 115 }) (va_Pc [.ref h0, .int p0] (fun U => U.heap.size = sz ∧ va_P (dC, dI) cls2 [(h0, .inr (17, [.ref va, .int 0, .int h0_maybeLatin1, .int h0_count])), (va, .inl (cpb, nva, .inl gva))] U.heap ∧ va_K (dC, dI) cls2 [(cpb, .byte)] U ∧ va_D (fun _ => True) [(h0, .inr (17, [.ref va, .int 0, .int h0_maybeLatin1, .int h0_count])), (va, .inl (cpb, nva, .inl gva))] ∧ sm sa (va_A [(h0, .inr (17, [.ref va, .int 0, .int h0_maybeLatin1, .int h0_count])), (va, .inl (cpb, nva, .inl gva))] sz) U U.heap ∧ hsl U.heap = szl)) (va_Qr (fun (u : (Nat → Int32) × Nat × Int32 × Nat × Nat × Nat) => match u with | (gva2, va2, h0_count2, kcz2, knz2, nva2) => (∀ j : Nat, -128 ≤ (gva2 j).toInt ∧ (gva2 j).toInt ≤ 127) ∧ (0 ≤ h0_count2.toInt ∧ h0_count2.toInt ≤ 1000000) ∧ (h0_count2.toInt = h0_count.toInt + 1 ∧ sbl gva2 h0_count2.toNatClampNeg = sbl gva h0_count.toNatClampNeg ++ [p0.toInt8.toInt32] ∧ (nva2 = nva ∧ kcz2 = 0 ∧ knz2 = 0 ∨ h0_count.toInt = (nva : Int) ∧ nva2 = 2 * nva + 2 ∧ kcz2 ≤ 1 ∧ knz2 = nva2) ∧ h0_count2.toInt ≤ (nva2 : Int))) (fun (u : (Nat → Int32) × Nat × Int32 × Nat × Nat × Nat) (ra : Nat) (t : State) => h0 = ra ∧ (at_JB_append0 dC dI sz szl sa h0 va cpb h0_maybeLatin1 (va_A [(h0, .inr (17, [.ref va, .int 0, .int h0_maybeLatin1, .int h0_count])), (va, .inl (cpb, nva, .inl gva))] sz)) u t) (va_A [(h0, .inr (17, [.ref va, .int 0, .int h0_maybeLatin1, .int h0_count])), (va, .inl (cpb, nva, .inl gva))] sz)) (1) (2 * nva + 2) (va_A [(h0, .inr (17, [.ref va, .int 0, .int h0_maybeLatin1, .int h0_count])), (va, .inl (cpb, nva, .inl gva))] sz) := by
  refine Met.ofW (cc := b_JB_append0) (maxL := 2) (ret := (Option.some (.object "java/lang/StringBuilder"))) (by decide) rfl ?_
  intro p e s m args below meth c s₁ B hml hv
  obtain ⟨rfl, hsz, hP, hK, hD0, hSW, hszl⟩ := hv
  have hx := B.exec
  have hb := B.bytes
  have hr := B.returns
  have hts0 := atoms_spec (ws := w_JB_append0) B.pre
  have hts : ∀ w ∈ lw_g, w.before _ s = true := fun w h => hts0 w (List.mem_cons_of_mem _ h)
  have hown : s.vm.findClass R_JB = some m.cls := findClass_of_methodNamed B.named
  have hlocks := B.notSynchronized
  clear hts0
  subst hsz
  subst hszl
  have hD := hD0.self (sz := s.heap.size)
  generalize hAe : va_A [(h0, .inr (17, [.ref va, .int 0, .int h0_maybeLatin1, .int h0_count])), (va, .inl (cpb, nva, .inl gva))] s.heap.size = A at hD hSW ⊢
  have hA : ∀ q : Nat, s.heap.size ≤ q → A q := fun q h => by rw [← hAe]; exact Or.inr h
  clear hAe
  have hP : va_P (dC, dI) cls2 [(h0, .inr (17, [.ref va, .int 0, .int h0_maybeLatin1, .int h0_count])), (va, .inl (cpb, nva, .inl gva))] s.heap := hP
  have hl := lv_entry ([.ref h0, .int p0]) (n := 2) (Nat.le_of_ble_eq_true rfl)
  rw [lg_entry_eq]
  generalize (lg_sl ([.ref h0, .int p0]) ++ List.replicate (2 - (lg_sl ([.ref h0, .int p0])).length) Slot.unset).toArray = ls at hl ⊢
  have hl : lv_has ls 2 [(0, .ref h0), (1, .int p0)] := hl
  have k0 : (0 : Int32).toInt = 0 := by decide
  refine w_gen (A := A) hP (fun H locs hP hS => ?_)
  have lo_p0 := i32_lo p0
  have hi_p0 := i32_hi p0
  refine lv_aload_n hx hb d_JB_append0_0 rfl (lv_at hl 0 rfl) ?_
  refine lv_iload_n hx hb d_JB_append0_1 rfl (lv_at hl 1 rfl) ?_
  refine w_known (fun hzc hzs => ?_)
  have hPc := hP.sub (ws' := [(h0, .inr (17, [.ref va, .int 0, .int h0_maybeLatin1, .int h0_count])), (va, .inl (cpb, nva, .inl gva))]) [0, 1] rfl
  have hDc := hD.sub (ws' := [(h0, .inr (17, [.ref va, .int 0, .int h0_maybeLatin1, .int h0_count])), (va, .inl (cpb, nva, .inl gva))]) [0, 1] (by decide) rfl
  have hKc := hK.sub (tys' := [(cpb, .byte)]) [0] rfl
  have hFc := va_free (wc := [(h0, .inr (17, [.ref va, .int 0, .int h0_maybeLatin1, .int h0_count])), (va, .inl (cpb, nva, .inl gva))]) hD hS hA [0, 1] rfl
  refine va_callr (va_runUp (As := [.int p0]) (rest := []) ⟨hx, hb, hml, hown, hts⟩ (c_JQ_append0 l hlt dC dI H.size (hsl H) sa h0 va cpb h0_maybeLatin1 h0_count nva gva (b_h0_count) (b_gva) p0 (ba0) (hc)) ⟨callB_of 1 hts (gW kC_JQ_append0) rfl rfl rfl (hts _ kI_JQ) (hts _ kM_JB_50) (by decide +kernel) ⟨Nat.le_of_ble_eq_true rfl, Nat.le_of_ble_eq_true rfl⟩, hts _ kSM_JQ_append0, hts _ kV_JQ_append0, hts _ kSU_JB, by decide, hts _ kN_JB⟩ ⟨fun a U g mk z => by obtain ⟨z0, z1, zP, zK, zD, zS, zZ⟩ := z; exact ⟨z0, z1, zP, va_K.moved (u := U) (U := U.calling g mk a) (Vm.Alike.refl U.vm) zK, zD, sm.same (u := U) (U := U.calling g mk a) rfl zS, zZ⟩, va_recv hKc hPc (ci := 17) (q0 := 0) rfl rfl, fun U hU hW => ⟨rfl, by rw [hU], by rw [hU]; exact hPc, va_K.moved hW.alike hKc, hDc.weaken (fun _ _ _ _ => trivial), hSW.call hS hFc hW hU, by rw [hU]⟩⟩ rfl rfl hl.1 rfl (lv_room (Nat.le_of_ble_eq_true rfl)) d_JB_append0_2 ⟨by dsimp only [headSpec]; omega, by dsimp only [headSpec]; omega⟩) hS (fun q _ h => hFc q h) hFc (fun u ra t H1 locs ht hvm hw hB hz1 hk1 hS => ?_)
  obtain ⟨rfl, hB⟩ := hB
  obtain ⟨n2, n3, n4, n5, n6, n7⟩ := u
  try dsimp only at hw
  obtain ⟨bn2, bn4, xr1⟩ := hw
  try clear hw
  obtain ⟨hP1, hK1, hD1, hZc, hZs⟩ := hB
  rw [ht] at hP1 hZc hZs
  obtain ⟨kc8, ekc8⟩ : ∃ z : Nat, z = 0 + n5 := ⟨_, rfl⟩
  obtain ⟨kn9, ekn9⟩ : ∃ z : Nat, z = 0 + n6 := ⟨_, rfl⟩
  refine w_refund (c2 := kc8) (n2 := kn9) (by omega) (by omega) ?_
  clear hzc hzs hZc hZs
  obtain ⟨hP, hD⟩ := va_join (wr := []) (w1 := [(h0, .inr (17, [.ref n3, .int 0, .int h0_maybeLatin1, .int n4])), (n3, .inl (cpb, n7, .inl n2))]) hP hD [0, 1] [] rfl rfl (by decide) (by decide) hk1 hFc hP1 hD1
  clear hPc hDc hKc hFc hz1 hk1 hP1 hK1 hD1
  generalize H1 = H at hP hS ⊢
  have hP : va_P (dC, dI) cls2 [(h0, .inr (17, [.ref n3, .int 0, .int h0_maybeLatin1, .int n4])), (n3, .inl (cpb, n7, .inl n2))] H := hP
  have hD : va_D A [(h0, .inr (17, [.ref n3, .int 0, .int h0_maybeLatin1, .int n4])), (n3, .inl (cpb, n7, .inl n2))] := hD
  refine lv_pop hx hb d_JB_append0_5 rfl ?_
  refine lv_aload_n hx hb d_JB_append0_6 rfl (lv_at hl 0 rfl) ?_
  have hP9 := hP.sub (ws' := [(h0, .inr (17, [.ref n3, .int 0, .int h0_maybeLatin1, .int n4])), (n3, .inl (cpb, n7, .inl n2))]) [0, 1] rfl
  have hD9 := hD.sub (ws' := [(h0, .inr (17, [.ref n3, .int 0, .int h0_maybeLatin1, .int n4])), (n3, .inl (cpb, n7, .inl n2))]) [0, 1] (by decide) rfl
  refine w_known (fun hzc hzs => ?_)
  refine W.widen (k := 1) (n := 2 * nva + 2) (by omega) (by omega) ?_
  exact W.aret (v := .ref h0) hx hb hr (Or.inl ⟨_, rfl⟩) (Or.inr ⟨_, rfl⟩) (fun t ht hW => ⟨⟨(n2, n3, n4, kc8, kn9, n7), h0, rfl, ⟨bn2, bn4, ⟨xr1.1, xr1.2.1, by have := xr1.2.2; omega⟩⟩, rfl, by rw [ht]; exact hP9, va_K.moved hW.alike hK, hD9, by rw [ht]; exact hzc, by rw [ht]; exact hzs⟩, hS.F ht⟩) hS.2.2 d_JB_append0_7
theorem d_JB_append2_0 : decode b_JB_append2 0 = .ok (.aload_n 0, 1) := by decide +kernel
theorem d_JB_append2_1 : decode b_JB_append2 1 = .ok (.aload_n 1, 1) := by decide +kernel
theorem d_JB_append2_2 : decode b_JB_append2 2 = .ok (.invokespecial 29, 3) := by decide +kernel
theorem d_JB_append2_5 : decode b_JB_append2 5 = .ok (.pop, 1) := by decide +kernel
theorem d_JB_append2_6 : decode b_JB_append2 6 = .ok (.aload_n 0, 1) := by decide +kernel
theorem d_JB_append2_7 : decode b_JB_append2 7 = .ok (.areturn, 1) := by decide +kernel
theorem kM_JB_29 : Cond.methodLink R_JB 29 y_JQ_append2 ∈ lw_g := in_g 2322 (by decide +kernel) rfl
theorem kV_JQ_append2 : Cond.instanceMethod y_JQ_append2 ∈ lw_g := in_g 2323 (by decide +kernel) rfl
theorem kSM_JQ_append2 : Cond.sameMethod R_JQ R_JQ "append" "(Ljava/lang/String;)Ljava/lang/AbstractStringBuilder;" ∈ lw_g := in_g 3106 (by decide +kernel) rfl
abbrev at_JB_append2 (dC : Nat → ClassId) (dI : Nat → Nat → Nat) (sz szl : Nat) (sa : Nat → Nat) (h0 va : Nat) (cpb : ClassId) (h0_maybeLatin1 : Int32) (A : Nat → Prop) (u : (Nat → Int32) × Nat × Int32 × Nat × Nat × Nat) (t : State) : Prop := match u with | (gva, va, h0_count, kcz, knz, nva) => va_P (dC, dI) cls2 [(h0, .inr (17, [.ref va, .int 0, .int h0_maybeLatin1, .int h0_count])), (va, .inl (cpb, nva, .inl gva))] t.heap ∧ va_K (dC, dI) cls2 [(cpb, .byte)] t ∧ va_D A [(h0, .inr (17, [.ref va, .int 0, .int h0_maybeLatin1, .int h0_count])), (va, .inl (cpb, nva, .inl gva))] ∧ t.heap.size ≤ sz + kcz ∧ hsl t.heap ≤ szl + knz
set_option maxHeartbeats 4000000 in
set_option maxRecDepth 100000 in
theorem c_JB_append2 (l : Launch) (hlt : l.stackTraces = false) (dC : Nat → ClassId) (dI : Nat → Nat → Nat) (sz : Nat) (szl : Nat) (sa : Nat → Nat) (tx tv : Nat) (b : List Int32) (h0 va : Nat) (cpb : ClassId) (h0_maybeLatin1 : Int32) (h0_count : Int32) (nva : Nat) (gva : Nat → Int32)  (b_h0_count : 0 ≤ h0_count.toInt ∧ h0_count.toInt ≤ 1000000) (b_gva : ∀ j : Nat, -128 ≤ (gva j).toInt ∧ (gva j).toInt ≤ 127)   (hc : h0_count.toInt ≤ (nva : Int) ∧ (nva : Int) ≤ 400000) (hbb : ∀ j : Nat, -128 ≤ (b.getD j 0).toInt ∧ (b.getD j 0).toInt ≤ 127) (hbl : (b.length : Int) ≤ 100000) : Met l y_JB_append2 w_JB_append2 ({ frames := 5, cells := 1, slots := 2 * nva + 2 + b.length, locals := 116 }) (va_Pc [.ref h0, .ref tx] (fun U => U.heap.size = sz ∧ va_P (dC, dI) cls2 [(h0, .inr (17, [.ref va, .int 0, .int h0_maybeLatin1, .int h0_count])), (va, .inl (cpb, nva, .inl gva))] U.heap ∧ va_K (dC, dI) cls2 [(cpb, .byte)] U ∧ va_D (fun _ => True) [(h0, .inr (17, [.ref va, .int 0, .int h0_maybeLatin1, .int h0_count])), (va, .inl (cpb, nva, .inl gva))] ∧ sm sa (va_A [(h0, .inr (17, [.ref va, .int 0, .int h0_maybeLatin1, .int h0_count])), (va, .inl (cpb, nva, .inl gva))] sz) U U.heap ∧ sw_str tx tv b (va_A [(h0, .inr (17, [.ref va, .int 0, .int h0_maybeLatin1, .int h0_count])), (va, .inl (cpb, nva, .inl gva))] sz) U U.heap ∧ hsl U.heap = szl)) (va_Qr (fun (u : (Nat → Int32) × Nat × Int32 × Nat × Nat × Nat) => match u with | (gva2, va2, h0_count2, kcz2, knz2, nva2) => (∀ j : Nat, -128 ≤ (gva2 j).toInt ∧ (gva2 j).toInt ≤ 127) ∧ (0 ≤ h0_count2.toInt ∧ h0_count2.toInt ≤ 1000000) ∧ (h0_count2.toInt = h0_count.toInt + (b.length : Int) ∧ sbl gva2 h0_count2.toNatClampNeg = sbl gva h0_count.toNatClampNeg ++ b ∧ (nva2 = nva ∧ kcz2 = 0 ∧ knz2 = 0 ∨ (nva : Int) < h0_count.toInt + (b.length : Int) ∧ nva2 ≤ 2 * nva + 2 + b.length ∧ kcz2 ≤ 1 ∧ knz2 = nva2) ∧ h0_count2.toInt ≤ (nva2 : Int))) (fun (u : (Nat → Int32) × Nat × Int32 × Nat × Nat × Nat) (ra : Nat) (t : State) => h0 = ra ∧ (at_JB_append2 dC dI sz szl sa h0 va cpb h0_maybeLatin1 (va_A [(h0, .inr (17, [.ref va, .int 0, .int h0_maybeLatin1, .int h0_count])), (va, .inl (cpb, nva, .inl gva))] sz)) u t) (va_A [(h0, .inr (17, [.ref va, .int 0, .int h0_maybeLatin1, .int h0_count])), (va, .inl (cpb, nva, .inl gva))] sz)) (1) (2 * nva + 2 + b.length) (va_A [(h0, .inr (17, [.ref va, .int 0, .int h0_maybeLatin1, .int h0_count])), (va, .inl (cpb, nva, .inl gva))] sz) := by
  refine Met.ofW (cc := b_JB_append2) (maxL := 2) (ret := (Option.some (.object "java/lang/StringBuilder"))) (by decide) rfl ?_
  intro p e s m args below meth c s₁ B hml hv
  obtain ⟨rfl, hsz, hP, hK, hD0, hSW, hR0, hszl⟩ := hv
  have hx := B.exec
  have hb := B.bytes
  have hr := B.returns
  have hts0 := atoms_spec (ws := w_JB_append2) B.pre
  have hts : ∀ w ∈ lw_g, w.before _ s = true := fun w h => hts0 w (List.mem_cons_of_mem _ h)
  have hown : s.vm.findClass R_JB = some m.cls := findClass_of_methodNamed B.named
  have hlocks := B.notSynchronized
  clear hts0
  subst hsz
  subst hszl
  have hD := hD0.self (sz := s.heap.size)
  generalize hAe : va_A [(h0, .inr (17, [.ref va, .int 0, .int h0_maybeLatin1, .int h0_count])), (va, .inl (cpb, nva, .inl gva))] s.heap.size = A at hD hSW hR0 ⊢
  have hA : ∀ q : Nat, s.heap.size ≤ q → A q := fun q h => by rw [← hAe]; exact Or.inr h
  clear hAe
  have hP : va_P (dC, dI) cls2 [(h0, .inr (17, [.ref va, .int 0, .int h0_maybeLatin1, .int h0_count])), (va, .inl (cpb, nva, .inl gva))] s.heap := hP
  have hl := lv_entry ([.ref h0, .ref tx]) (n := 2) (Nat.le_of_ble_eq_true rfl)
  rw [lg_entry_eq]
  generalize (lg_sl ([.ref h0, .ref tx]) ++ List.replicate (2 - (lg_sl ([.ref h0, .ref tx])).length) Slot.unset).toArray = ls at hl ⊢
  have hl : lv_has ls 2 [(0, .ref h0), (1, .ref tx)] := hl
  have k0 : (0 : Int32).toInt = 0 := by decide
  refine w_gen (A := A) hP (fun H locs hP hS => ?_)
  refine lv_aload_n hx hb d_JB_append2_0 rfl (lv_at hl 0 rfl) ?_
  refine lv_aload_n hx hb d_JB_append2_1 rfl (lv_at hl 1 rfl) ?_
  refine w_known (fun hzc hzs => ?_)
  have hPc := hP.sub (ws' := [(h0, .inr (17, [.ref va, .int 0, .int h0_maybeLatin1, .int h0_count])), (va, .inl (cpb, nva, .inl gva))]) [0, 1] rfl
  have hDc := hD.sub (ws' := [(h0, .inr (17, [.ref va, .int 0, .int h0_maybeLatin1, .int h0_count])), (va, .inl (cpb, nva, .inl gva))]) [0, 1] (by decide) rfl
  have hKc := hK.sub (tys' := [(cpb, .byte)]) [0] rfl
  have hFc := va_free (wc := [(h0, .inr (17, [.ref va, .int 0, .int h0_maybeLatin1, .int h0_count])), (va, .inl (cpb, nva, .inl gva))]) hD hS hA [0, 1] rfl
  refine va_callr (va_runUp (As := [.ref tx]) (rest := []) ⟨hx, hb, hml, hown, hts⟩ (c_JQ_append2 l hlt dC dI H.size (hsl H) sa tx tv b h0 va cpb h0_maybeLatin1 h0_count nva gva (b_h0_count) (b_gva) (hc) (hbb) (hbl)) ⟨callB_of 1 hts (gW kC_JQ_append2) rfl rfl rfl (hts _ kI_JQ) (hts _ kM_JB_29) (by decide +kernel) ⟨Nat.le_of_ble_eq_true rfl, Nat.le_of_ble_eq_true rfl⟩, hts _ kSM_JQ_append2, hts _ kV_JQ_append2, hts _ kSU_JB, by decide, hts _ kN_JB⟩ ⟨fun a U g mk z => by obtain ⟨z0, z1, zP, zK, zD, zS, zR0, zZ⟩ := z; exact ⟨z0, z1, zP, va_K.moved (u := U) (U := U.calling g mk a) (Vm.Alike.refl U.vm) zK, zD, sm.same (u := U) (U := U.calling g mk a) rfl zS, zR0.moved (u := U) (U := U.calling g mk a) (Vm.Alike.refl U.vm), zZ⟩, va_recv hKc hPc (ci := 17) (q0 := 0) rfl rfl, fun U hU hW => ⟨rfl, by rw [hU], by rw [hU]; exact hPc, va_K.moved hW.alike hKc, hDc.weaken (fun _ _ _ _ => trivial), hSW.call hS hFc hW hU, (hR0).call hS hFc hW hU, by rw [hU]⟩⟩ rfl rfl hl.1 rfl (lv_room (Nat.le_of_ble_eq_true rfl)) d_JB_append2_2 ⟨by dsimp only [headSpec]; omega, by dsimp only [headSpec]; omega⟩) hS (fun q _ h => hFc q h) hFc (fun u ra t H1 locs ht hvm hw hB hz1 hk1 hS => ?_)
  obtain ⟨rfl, hB⟩ := hB
  obtain ⟨n2, n3, n4, n5, n6, n7⟩ := u
  try dsimp only at hw
  obtain ⟨bn2, bn4, xr1⟩ := hw
  try clear hw
  obtain ⟨hP1, hK1, hD1, hZc, hZs⟩ := hB
  rw [ht] at hP1 hZc hZs
  obtain ⟨kc8, ekc8⟩ : ∃ z : Nat, z = 0 + n5 := ⟨_, rfl⟩
  obtain ⟨kn9, ekn9⟩ : ∃ z : Nat, z = 0 + n6 := ⟨_, rfl⟩
  refine w_refund (c2 := kc8) (n2 := kn9) (by omega) (by omega) ?_
  clear hzc hzs hZc hZs
  obtain ⟨hP, hD⟩ := va_join (wr := []) (w1 := [(h0, .inr (17, [.ref n3, .int 0, .int h0_maybeLatin1, .int n4])), (n3, .inl (cpb, n7, .inl n2))]) hP hD [0, 1] [] rfl rfl (by decide) (by decide) hk1 hFc hP1 hD1
  clear hPc hDc hKc hFc hz1 hk1 hP1 hK1 hD1
  generalize H1 = H at hP hS ⊢
  have hP : va_P (dC, dI) cls2 [(h0, .inr (17, [.ref n3, .int 0, .int h0_maybeLatin1, .int n4])), (n3, .inl (cpb, n7, .inl n2))] H := hP
  have hD : va_D A [(h0, .inr (17, [.ref n3, .int 0, .int h0_maybeLatin1, .int n4])), (n3, .inl (cpb, n7, .inl n2))] := hD
  refine lv_pop hx hb d_JB_append2_5 rfl ?_
  refine lv_aload_n hx hb d_JB_append2_6 rfl (lv_at hl 0 rfl) ?_
  have hP9 := hP.sub (ws' := [(h0, .inr (17, [.ref n3, .int 0, .int h0_maybeLatin1, .int n4])), (n3, .inl (cpb, n7, .inl n2))]) [0, 1] rfl
  have hD9 := hD.sub (ws' := [(h0, .inr (17, [.ref n3, .int 0, .int h0_maybeLatin1, .int n4])), (n3, .inl (cpb, n7, .inl n2))]) [0, 1] (by decide) rfl
  refine w_known (fun hzc hzs => ?_)
  refine W.widen (k := 1) (n := 2 * nva + 2 + b.length) (by omega) (by omega) ?_
  exact W.aret (v := .ref h0) hx hb hr (Or.inl ⟨_, rfl⟩) (Or.inr ⟨_, rfl⟩) (fun t ht hW => ⟨⟨(n2, n3, n4, kc8, kn9, n7), h0, rfl, ⟨bn2, bn4, ⟨xr1.1, xr1.2.1, by have := xr1.2.2.1; omega, xr1.2.2.2⟩⟩, rfl, by rw [ht]; exact hP9, va_K.moved hW.alike hK, hD9, by rw [ht]; exact hzc, by rw [ht]; exact hzs⟩, hS.F ht⟩) hS.2.2 d_JB_append2_7
abbrev b_JB_length : ByteArray := prog_34_method_93_code
def y_JB_length : MethodName := ⟨R_JB, "length", "()I"⟩
abbrev w_JB_length : List Cond := .code y_JB_length b_JB_length 1 (Option.some .int) :: lw_g
theorem kC_JB_length : Cond.code y_JB_length b_JB_length 1 (Option.some .int) ∈ lw_g := in_g 2267 (by decide +kernel) rfl
theorem d_JB_length_0 : decode b_JB_length 0 = .ok (.aload_n 0, 1) := by decide +kernel
theorem d_JB_length_1 : decode b_JB_length 1 = .ok (.invokespecial 343, 3) := by decide +kernel
theorem d_JB_length_4 : decode b_JB_length 4 = .ok (.ireturn, 1) := by decide +kernel
theorem kM_JB_343 : Cond.methodLink R_JB 343 y_JQ_length ∈ lw_g := in_g 2268 (by decide +kernel) rfl
theorem kV_JQ_length : Cond.instanceMethod y_JQ_length ∈ lw_g := in_g 2263 (by decide +kernel) rfl
theorem kSM_JQ_length : Cond.sameMethod R_JQ R_JQ "length" "()I" ∈ lw_g := in_g 2264 (by decide +kernel) rfl
abbrev at_JB_length (dC : Nat → ClassId) (dI : Nat → Nat → Nat) (sa : Nat → Nat) (h0 va : Nat) (h0_maybeLatin1 : Int32) (h0_count : Int32) (A : Nat → Prop) (u : Unit) (t : State) : Prop := match u with | _ => va_P (dC, dI) cls2 [(h0, .inr (17, [.ref va, .int 0, .int h0_maybeLatin1, .int h0_count]))] t.heap ∧ va_K (dC, dI) cls2 [] t ∧ va_D A [(h0, .inr (17, [.ref va, .int 0, .int h0_maybeLatin1, .int h0_count]))]
set_option maxHeartbeats 4000000 in
set_option maxRecDepth 100000 in
theorem c_JB_length (l : Launch) (hlt : l.stackTraces = false) (dC : Nat → ClassId) (dI : Nat → Nat → Nat) (sz : Nat) (sa : Nat → Nat) (h0 va : Nat) (h0_maybeLatin1 : Int32) (h0_count : Int32)  (b_h0_count : 0 ≤ h0_count.toInt ∧ h0_count.toInt ≤ 1000000)    : Met l y_JB_length w_JB_length ({ frames := 1, cells := 0, slots := 0, locals := 20 }) (va_Pc [.ref h0] (fun U => U.heap.size = sz ∧ va_P (dC, dI) cls2 [(h0, .inr (17, [.ref va, .int 0, .int h0_maybeLatin1, .int h0_count]))] U.heap ∧ va_K (dC, dI) cls2 [] U ∧ va_D (fun _ => True) [(h0, .inr (17, [.ref va, .int 0, .int h0_maybeLatin1, .int h0_count]))] ∧ sm sa (va_A [(h0, .inr (17, [.ref va, .int 0, .int h0_maybeLatin1, .int h0_count]))] sz) U U.heap)) (va_Qi (fun (r : Int32) (u : Unit) => match u with | _ => (r = h0_count)) (at_JB_length dC dI sa h0 va h0_maybeLatin1 h0_count (va_A [(h0, .inr (17, [.ref va, .int 0, .int h0_maybeLatin1, .int h0_count]))] sz)) (va_A [(h0, .inr (17, [.ref va, .int 0, .int h0_maybeLatin1, .int h0_count]))] sz)) 0 0 (va_A [(h0, .inr (17, [.ref va, .int 0, .int h0_maybeLatin1, .int h0_count]))] sz) := by
  refine Met.ofW (cc := b_JB_length) (maxL := 1) (ret := (Option.some .int)) (by decide) rfl ?_
  intro p e s m args below meth c s₁ B hml hv
  obtain ⟨rfl, hsz, hP, hK, hD0, hSW⟩ := hv
  have hx := B.exec
  have hb := B.bytes
  have hr := B.returns
  have hts0 := atoms_spec (ws := w_JB_length) B.pre
  have hts : ∀ w ∈ lw_g, w.before _ s = true := fun w h => hts0 w (List.mem_cons_of_mem _ h)
  have hown : s.vm.findClass R_JB = some m.cls := findClass_of_methodNamed B.named
  have hlocks := B.notSynchronized
  clear hts0
  subst hsz
  have hD := hD0.self (sz := s.heap.size)
  generalize hAe : va_A [(h0, .inr (17, [.ref va, .int 0, .int h0_maybeLatin1, .int h0_count]))] s.heap.size = A at hD hSW ⊢
  have hA : ∀ q : Nat, s.heap.size ≤ q → A q := fun q h => by rw [← hAe]; exact Or.inr h
  clear hAe
  have hP : va_P (dC, dI) cls2 [(h0, .inr (17, [.ref va, .int 0, .int h0_maybeLatin1, .int h0_count]))] s.heap := hP
  have hl := lv_entry ([.ref h0]) (n := 1) (Nat.le_of_ble_eq_true rfl)
  rw [lg_entry_eq]
  generalize (lg_sl ([.ref h0]) ++ List.replicate (1 - (lg_sl ([.ref h0])).length) Slot.unset).toArray = ls at hl ⊢
  have hl : lv_has ls 1 [(0, .ref h0)] := hl
  have k0 : (0 : Int32).toInt = 0 := by decide
  refine w_gen (A := A) hP (fun H locs hP hS => ?_)
  refine lv_aload_n hx hb d_JB_length_0 rfl (lv_at hl 0 rfl) ?_
  have hPc := hP.sub (ws' := [(h0, .inr (17, [.ref va, .int 0, .int h0_maybeLatin1, .int h0_count]))]) [0] rfl
  have hDc := hD.sub (ws' := [(h0, .inr (17, [.ref va, .int 0, .int h0_maybeLatin1, .int h0_count]))]) [0] (by decide) rfl
  have hKc := hK.sub (tys' := []) [] rfl
  have hFc := va_free (wc := [(h0, .inr (17, [.ref va, .int 0, .int h0_maybeLatin1, .int h0_count]))]) hD hS hA [0] rfl
  refine va_calli (va_runUp (As := []) (rest := []) ⟨hx, hb, hml, hown, hts⟩ (c_JQ_length l hlt dC dI H.size h0 va h0_maybeLatin1 h0_count (b_h0_count)) ⟨callB_of 0 hts (gW kC_JQ_length) rfl rfl rfl (hts _ kI_JQ) (hts _ kM_JB_343) (by decide +kernel) ⟨Nat.le_of_ble_eq_true rfl, Nat.le_of_ble_eq_true rfl⟩, hts _ kSM_JQ_length, hts _ kV_JQ_length, hts _ kSU_JB, by decide, hts _ kN_JB⟩ ⟨fun a U g mk z => by obtain ⟨z0, z1, zP, zK, zD⟩ := z; exact ⟨z0, z1, zP, va_K.moved (u := U) (U := U.calling g mk a) (Vm.Alike.refl U.vm) zK, zD⟩, va_recv hKc hPc (ci := 17) (q0 := 0) rfl rfl, fun U hU hW => ⟨rfl, by rw [hU], by rw [hU]; exact hPc, va_K.moved hW.alike hKc, hDc.weaken (fun _ _ _ _ => trivial)⟩⟩ rfl rfl hl.1 rfl (lv_room (Nat.le_of_ble_eq_true rfl)) d_JB_length_1 ⟨(Nat.zero_le _), (Nat.zero_le _)⟩) hS (fun q _ h => hFc q h) hFc (fun r1 u t H1 locs ht hvm hw hB hz1 hk1 hS => ?_)
  try dsimp only at hw
  have xr1 := hw
  try clear hw
  obtain ⟨hP1, hK1, hD1⟩ := hB
  rw [ht] at hP1
  obtain ⟨hP, hD⟩ := va_join (wr := []) (w1 := [(h0, .inr (17, [.ref va, .int 0, .int h0_maybeLatin1, .int h0_count]))]) hP hD [0] [] rfl rfl (by decide) (by decide) hk1 hFc hP1 hD1
  clear hPc hDc hKc hFc hz1 hk1 hP1 hK1 hD1
  generalize H1 = H at hP hS ⊢
  have hP : va_P (dC, dI) cls2 [(h0, .inr (17, [.ref va, .int 0, .int h0_maybeLatin1, .int h0_count]))] H := hP
  have hD : va_D A [(h0, .inr (17, [.ref va, .int 0, .int h0_maybeLatin1, .int h0_count]))] := hD
  have hP9 := hP.sub (ws' := [(h0, .inr (17, [.ref va, .int 0, .int h0_maybeLatin1, .int h0_count]))]) [0] rfl
  have hD9 := hD.sub (ws' := [(h0, .inr (17, [.ref va, .int 0, .int h0_maybeLatin1, .int h0_count]))]) [0] (by decide) rfl
  exact W.iret (v := r1) hx hb hr (fun t ht hW => ⟨⟨r1, (), rfl, (xr1), by rw [ht]; exact hP9, va_K.moved hW.alike hK, hD9⟩, hS.F ht⟩) hS.2.2 d_JB_length_4
abbrev b_JQ_init : ByteArray := prog_20_method_2_code
def y_JQ_init : MethodName := ⟨R_JQ, "<init>", "(I)V"⟩
abbrev w_JQ_init : List Cond := .code y_JQ_init b_JQ_init 2 none :: lw_g
theorem kC_JQ_init : Cond.code y_JQ_init b_JQ_init 2 none ∈ lw_g := in_g 2143 (by decide +kernel) rfl
theorem d_JQ_init_0 : decode b_JQ_init 0 = .ok (.aload_n 0, 1) := by decide +kernel
theorem d_JQ_init_1 : decode b_JQ_init 1 = .ok (.invokespecial 3, 3) := by decide +kernel
theorem d_JQ_init_4 : decode b_JQ_init 4 = .ok (.getstatic 18, 3) := by decide +kernel
theorem d_JQ_init_7 : decode b_JQ_init 7 = .ok (.ifCond .eq 18, 3) := by decide +kernel
theorem d_JQ_init_10 : decode b_JQ_init 10 = .ok (.aload_n 0, 1) := by decide +kernel
theorem d_JQ_init_11 : decode b_JQ_init 11 = .ok (.iload_n 1, 1) := by decide +kernel
theorem d_JQ_init_12 : decode b_JQ_init 12 = .ok (.newarray .byte, 2) := by decide +kernel
theorem d_JQ_init_14 : decode b_JQ_init 14 = .ok (.putfield 15, 3) := by decide +kernel
theorem d_JQ_init_17 : decode b_JQ_init 17 = .ok (.aload_n 0, 1) := by decide +kernel
theorem d_JQ_init_18 : decode b_JQ_init 18 = .ok (.iconst 0, 1) := by decide +kernel
theorem d_JQ_init_19 : decode b_JQ_init 19 = .ok (.putfield 22, 3) := by decide +kernel
theorem d_JQ_init_22 : decode b_JQ_init 22 = .ok (.goto 16, 3) := by decide +kernel
theorem d_JQ_init_25 : decode b_JQ_init 25 = .ok (.aload_n 0, 1) := by decide +kernel
theorem d_JQ_init_26 : decode b_JQ_init 26 = .ok (.iload_n 1, 1) := by decide +kernel
theorem d_JQ_init_27 : decode b_JQ_init 27 = .ok (.invokestatic 26, 3) := by decide +kernel
theorem d_JQ_init_30 : decode b_JQ_init 30 = .ok (.putfield 15, 3) := by decide +kernel
theorem d_JQ_init_33 : decode b_JQ_init 33 = .ok (.aload_n 0, 1) := by decide +kernel
theorem d_JQ_init_34 : decode b_JQ_init 34 = .ok (.iconst 1, 1) := by decide +kernel
theorem d_JQ_init_35 : decode b_JQ_init 35 = .ok (.putfield 22, 3) := by decide +kernel
theorem d_JQ_init_38 : decode b_JQ_init 38 = .ok (.return_, 1) := by decide +kernel
abbrev b_JF_newBytesFor : ByteArray := prog_36_method_2_code
def y_JF_newBytesFor : MethodName := ⟨R_JF, "newBytesFor", "(I)[B"⟩
abbrev w_JF_newBytesFor : List Cond := .code y_JF_newBytesFor b_JF_newBytesFor 1 (Option.some (.array .byte)) :: lw_g
theorem kC_JF_newBytesFor : Cond.code y_JF_newBytesFor b_JF_newBytesFor 1 (Option.some (.array .byte)) ∈ lw_g := in_g 2148 (by decide +kernel) rfl
theorem kM_JQ_26 : Cond.methodLink R_JQ 26 y_JF_newBytesFor ∈ lw_g := in_g 2146 (by decide +kernel) rfl
theorem kT_JF_newBytesFor : Cond.static y_JF_newBytesFor ∈ lw_g := in_g 2147 (by decide +kernel) rfl
theorem kM_JQ_3 : Cond.methodLink R_JQ 3 Lib.objectInit ∈ lw_g := in_g 2144 (by decide +kernel) rfl
abbrev at_JQ_init (dC : Nat → ClassId) (dI : Nat → Nat → Nat) (sz szl : Nat) (sa : Nat → Nat) (h0 : Nat) (cpb : ClassId) (h0_value : Value) (h0_coder : Int32) (h0_maybeLatin1 : Int32) (h0_count : Int32) (A : Nat → Prop) (u : (Nat → Int32) × Nat × Nat × Nat × Nat) (t : State) : Prop := match u with | (gnw, kcz, knz, nnw, nw) => va_P (dC, dI) cls2 [(h0, .inr (17, [.ref nw, .int 0, .int h0_maybeLatin1, .int h0_count])), (nw, .inl (cpb, nnw, .inl gnw))] t.heap ∧ va_K (dC, dI) cls2 [(cpb, .byte)] t ∧ va_D A [(h0, .inr (17, [.ref nw, .int 0, .int h0_maybeLatin1, .int h0_count])), (nw, .inl (cpb, nnw, .inl gnw))] ∧ t.heap.size ≤ sz + kcz ∧ hsl t.heap ≤ szl + knz
set_option maxHeartbeats 4000000 in
set_option maxRecDepth 100000 in
theorem c_JQ_init (l : Launch) (hlt : l.stackTraces = false) (dC : Nat → ClassId) (dI : Nat → Nat → Nat) (sz : Nat) (szl : Nat) (sa : Nat → Nat) (h0 : Nat) (cpb : ClassId) (h0_value : Value) (h0_coder : Int32) (h0_maybeLatin1 : Int32) (h0_count : Int32)   (p0 : Int32) (ba0 : 0 ≤ p0.toInt ∧ p0.toInt ≤ 100000)  : Met l y_JQ_init w_JQ_init ({ frames := 1, cells := 1, slots := p0.toInt.toNat, locals := 20 }) (va_Pc [.ref h0, .int p0] (fun U => U.heap.size = sz ∧ va_P (dC, dI) cls2 [(h0, .inr (17, [h0_value, .int h0_coder, .int h0_maybeLatin1, .int h0_count]))] U.heap ∧ va_K (dC, dI) cls2 [(cpb, .byte)] U ∧ va_D (fun _ => True) [(h0, .inr (17, [h0_value, .int h0_coder, .int h0_maybeLatin1, .int h0_count]))] ∧ sm sa (va_A [(h0, .inr (17, [h0_value, .int h0_coder, .int h0_maybeLatin1, .int h0_count]))] sz) U U.heap ∧ hsl U.heap = szl)) (va_Qv (fun (u : (Nat → Int32) × Nat × Nat × Nat × Nat) => match u with | (gnw2, kcz2, knz2, nnw2, nw2) => (∀ j : Nat, -128 ≤ (gnw2 j).toInt ∧ (gnw2 j).toInt ≤ 127) ∧ ((nnw2 : Int) = p0.toInt ∧ kcz2 = 1 ∧ knz2 = nnw2)) (at_JQ_init dC dI sz szl sa h0 cpb h0_value h0_coder h0_maybeLatin1 h0_count (va_A [(h0, .inr (17, [h0_value, .int h0_coder, .int h0_maybeLatin1, .int h0_count]))] sz)) (va_A [(h0, .inr (17, [h0_value, .int h0_coder, .int h0_maybeLatin1, .int h0_count]))] sz)) (1) (p0.toInt.toNat) (va_A [(h0, .inr (17, [h0_value, .int h0_coder, .int h0_maybeLatin1, .int h0_count]))] sz) := by
  refine Met.ofW (cc := b_JQ_init) (maxL := 2) (ret := none) (by decide) rfl ?_
  intro p e s m args below meth c s₁ B hml hv
  obtain ⟨rfl, hsz, hP, hK, hD0, hSW, hszl⟩ := hv
  have hx := B.exec
  have hb := B.bytes
  have hr := B.returns
  have hts0 := atoms_spec (ws := w_JQ_init) B.pre
  have hts : ∀ w ∈ lw_g, w.before _ s = true := fun w h => hts0 w (List.mem_cons_of_mem _ h)
  have hown : s.vm.findClass R_JQ = some m.cls := findClass_of_methodNamed B.named
  have hlocks := B.notSynchronized
  clear hts0
  subst hsz
  subst hszl
  have hD := hD0.self (sz := s.heap.size)
  generalize hAe : va_A [(h0, .inr (17, [h0_value, .int h0_coder, .int h0_maybeLatin1, .int h0_count]))] s.heap.size = A at hD hSW ⊢
  have hA : ∀ q : Nat, s.heap.size ≤ q → A q := fun q h => by rw [← hAe]; exact Or.inr h
  clear hAe
  have hP : va_P (dC, dI) cls2 [(h0, .inr (17, [h0_value, .int h0_coder, .int h0_maybeLatin1, .int h0_count]))] s.heap := hP
  have hl := lv_entry ([.ref h0, .int p0]) (n := 2) (Nat.le_of_ble_eq_true rfl)
  rw [lg_entry_eq]
  generalize (lg_sl ([.ref h0, .int p0]) ++ List.replicate (2 - (lg_sl ([.ref h0, .int p0])).length) Slot.unset).toArray = ls at hl ⊢
  have hl : lv_has ls 2 [(0, .ref h0), (1, .int p0)] := hl
  have k0 : (0 : Int32).toInt = 0 := by decide
  refine w_gen (A := A) hP (fun H locs hP hS => ?_)
  have k1 : (1 : Int32).toInt = 1 := by decide
  have lo_p0 := i32_lo p0
  have hi_p0 := i32_hi p0
  have hin : meth.name = "<init>" := (name_of_methodNamed B.named B.method).1
  refine lv_aload_n hx hb d_JQ_init_0 rfl (lv_at hl 0 rfl) ?_
  refine W.objInit hx hb hown (hts _ kM_JQ_3) (hts _ kV_oi) (hts _ kC_oi) rfl (by rw [hml]; exact hl.1) rfl d_JQ_init_1 (Nat.le_of_ble_eq_true rfl) (Nat.le_of_ble_eq_true rfl) ?_
  refine W.eq (g2 := F0 m 4 ls []) rfl ?_
  refine va_gets (C := "java/lang/String") (n := "COMPACT_STRINGS") (d := "Z") (v := .int 1) hx hb hSW.1.2.2.2.2.2.2.2.2.2.2.2.1 hS hown (hts _ kF_JQ_18) (fun _ h9 => h9) d_JQ_init_4 ?_
  have k19 : (1 : Int32).toInt = 1 := by decide
  refine lv_if_eq (tgt := 25) hx hb d_JQ_init_7 (by decide) (fun c7 => absurd (eqI c7) (by omega)) (fun c7 => ?_)
  have q7 := neI c7
  refine lv_aload_n hx hb d_JQ_init_10 rfl (lv_at hl 0 rfl) ?_
  refine lv_iload_n hx hb d_JQ_init_11 rfl (lv_at hl 1 rfl) ?_
  obtain ⟨N1, eN1⟩ : ∃ z : Nat, p0.toNatClampNeg = z := ⟨_, rfl⟩
  have tN1 : (N1 : Int) = p0.toInt := by rw [← eN1]; exact i32_clamp (by omega)
  refine vn_newb hx hb (hts _ ka_byte) hK hP hD hS hA 0 rfl N1 (nneg9 (by omega)) eN1 (by omega) (by dsimp only [headSpec]; omega) (by dsimp only [headSpec]; omega) d_JQ_init_12 (fun nq12 H hP hD hS => ?_)
  have hP : va_P (dC, dI) cls2 [(h0, .inr (17, [h0_value, .int h0_coder, .int h0_maybeLatin1, .int h0_count])), (nq12, .inl (cpb, N1, .inl (fun _ => 0)))] H := hP
  have hD : va_D A [(h0, .inr (17, [h0_value, .int h0_coder, .int h0_maybeLatin1, .int h0_count])), (nq12, .inl (cpb, N1, .inl (fun _ => 0)))] := hD
  refine va_put (D := (dC, dI)) (ci := 17) (v := .ref nq12) (ty := .array .byte) (C := R_JB) (T := F_JB) (N := 4) hx hb hts i_JB t_JB t_JB_ok n_JB hown hK hP hD hS 0 rfl rfl 0 (by decide) (hts _ kF_JQ_15) (fun _ h9 => h9) rfl (by decide +kernel) rfl rfl (Nat.le_of_ble_eq_true rfl) d_JQ_init_14 (fun H locs hP hD hS => ?_)
  refine lv_aload_n hx hb d_JQ_init_17 rfl (lv_at hl 0 rfl) ?_
  refine lv_iconst (v := 0) hx hb d_JQ_init_18 (by decide) ?_
  refine va_put (D := (dC, dI)) (ci := 17) (v := .int 0) (ty := .byte) (C := R_JB) (T := F_JB) (N := 4) hx hb hts i_JB t_JB t_JB_ok n_JB hown hK hP hD hS 0 rfl rfl 1 (by decide) (hts _ kF_JQ_22) (fun _ h9 => h9) rfl (by decide +kernel) rfl rfl (Nat.le_of_ble_eq_true rfl) d_JQ_init_19 (fun H locs hP hD hS => ?_)
  refine lv_goto (tgt := 38) hx hb d_JQ_init_22 (by decide) ?_
  have hP9 := hP.sub (ws' := [(h0, .inr (17, [.ref nq12, .int 0, .int h0_maybeLatin1, .int h0_count])), (nq12, .inl (cpb, N1, .inl (fun _ => 0)))]) [0, 1] rfl
  have hD9 := hD.sub (ws' := [(h0, .inr (17, [.ref nq12, .int 0, .int h0_maybeLatin1, .int h0_count])), (nq12, .inl (cpb, N1, .inl (fun _ => 0)))]) [0, 1] (by decide) rfl
  refine w_known (fun hzc hzs => ?_)
  refine W.widen (k := 1) (n := p0.toInt.toNat) (by omega) (by omega) ?_
  exact W.vret hx hb hr (fun t ht hW => ⟨⟨(fun _ => 0, 0 + 1, 0 + N1, N1, nq12), rfl, ⟨zero_el, ⟨by omega, by omega, by omega⟩⟩, by rw [ht]; exact hP9, va_K.moved hW.alike hK, hD9, by rw [ht]; exact hzc, by rw [ht]; exact hzs⟩, hS.F ht⟩) hS.2.2 d_JQ_init_38
theorem d_JB_init_0 : decode b_JB_init 0 = .ok (.aload_n 0, 1) := by decide +kernel
theorem d_JB_init_1 : decode b_JB_init 1 = .ok (.bipush 16, 2) := by decide +kernel
theorem d_JB_init_3 : decode b_JB_init 3 = .ok (.invokespecial 1, 3) := by decide +kernel
theorem d_JB_init_6 : decode b_JB_init 6 = .ok (.return_, 1) := by decide +kernel
theorem kM_JB_1 : Cond.methodLink R_JB 1 y_JQ_init ∈ lw_g := in_g 2141 (by decide +kernel) rfl
theorem kV_JQ_init : Cond.instanceMethod y_JQ_init ∈ lw_g := in_g 2142 (by decide +kernel) rfl
abbrev at_JB_init (dC : Nat → ClassId) (dI : Nat → Nat → Nat) (sz szl : Nat) (sa : Nat → Nat) (h0 : Nat) (cpb : ClassId) (h0_value : Value) (h0_coder : Int32) (h0_maybeLatin1 : Int32) (h0_count : Int32) (A : Nat → Prop) (u : (Nat → Int32) × Nat × Nat × Nat × Nat) (t : State) : Prop := match u with | (gnw, kcz, knz, nnw, nw) => va_P (dC, dI) cls2 [(h0, .inr (17, [.ref nw, .int 0, .int h0_maybeLatin1, .int h0_count])), (nw, .inl (cpb, nnw, .inl gnw))] t.heap ∧ va_K (dC, dI) cls2 [(cpb, .byte)] t ∧ va_D A [(h0, .inr (17, [.ref nw, .int 0, .int h0_maybeLatin1, .int h0_count])), (nw, .inl (cpb, nnw, .inl gnw))] ∧ t.heap.size ≤ sz + kcz ∧ hsl t.heap ≤ szl + knz
set_option maxHeartbeats 4000000 in
set_option maxRecDepth 100000 in
theorem c_JB_init (l : Launch) (hlt : l.stackTraces = false) (dC : Nat → ClassId) (dI : Nat → Nat → Nat) (sz : Nat) (szl : Nat) (sa : Nat → Nat) (h0 : Nat) (cpb : ClassId) (h0_value : Value) (h0_coder : Int32) (h0_maybeLatin1 : Int32) (h0_count : Int32)      : Met l y_JB_init w_JB_init ({ frames := 2, cells := 1, slots := 16, locals := 41 }) (va_Pc [.ref h0] (fun U => U.heap.size = sz ∧ va_P (dC, dI) cls2 [(h0, .inr (17, [h0_value, .int h0_coder, .int h0_maybeLatin1, .int h0_count]))] U.heap ∧ va_K (dC, dI) cls2 [(cpb, .byte)] U ∧ va_D (fun _ => True) [(h0, .inr (17, [h0_value, .int h0_coder, .int h0_maybeLatin1, .int h0_count]))] ∧ sm sa (va_A [(h0, .inr (17, [h0_value, .int h0_coder, .int h0_maybeLatin1, .int h0_count]))] sz) U U.heap ∧ hsl U.heap = szl)) (va_Qv (fun (u : (Nat → Int32) × Nat × Nat × Nat × Nat) => match u with | (gnw2, kcz2, knz2, nnw2, nw2) => (∀ j : Nat, -128 ≤ (gnw2 j).toInt ∧ (gnw2 j).toInt ≤ 127) ∧ (nnw2 = 16 ∧ kcz2 = 1 ∧ knz2 = 16)) (at_JB_init dC dI sz szl sa h0 cpb h0_value h0_coder h0_maybeLatin1 h0_count (va_A [(h0, .inr (17, [h0_value, .int h0_coder, .int h0_maybeLatin1, .int h0_count]))] sz)) (va_A [(h0, .inr (17, [h0_value, .int h0_coder, .int h0_maybeLatin1, .int h0_count]))] sz)) (1) (16) (va_A [(h0, .inr (17, [h0_value, .int h0_coder, .int h0_maybeLatin1, .int h0_count]))] sz) := by
  refine Met.ofW (cc := b_JB_init) (maxL := 1) (ret := none) (by decide) rfl ?_
  intro p e s m args below meth c s₁ B hml hv
  obtain ⟨rfl, hsz, hP, hK, hD0, hSW, hszl⟩ := hv
  have hx := B.exec
  have hb := B.bytes
  have hr := B.returns
  have hts0 := atoms_spec (ws := w_JB_init) B.pre
  have hts : ∀ w ∈ lw_g, w.before _ s = true := fun w h => hts0 w (List.mem_cons_of_mem _ h)
  have hown : s.vm.findClass R_JB = some m.cls := findClass_of_methodNamed B.named
  have hlocks := B.notSynchronized
  clear hts0
  subst hsz
  subst hszl
  have hD := hD0.self (sz := s.heap.size)
  generalize hAe : va_A [(h0, .inr (17, [h0_value, .int h0_coder, .int h0_maybeLatin1, .int h0_count]))] s.heap.size = A at hD hSW ⊢
  have hA : ∀ q : Nat, s.heap.size ≤ q → A q := fun q h => by rw [← hAe]; exact Or.inr h
  clear hAe
  have hP : va_P (dC, dI) cls2 [(h0, .inr (17, [h0_value, .int h0_coder, .int h0_maybeLatin1, .int h0_count]))] s.heap := hP
  have hl := lv_entry ([.ref h0]) (n := 1) (Nat.le_of_ble_eq_true rfl)
  rw [lg_entry_eq]
  generalize (lg_sl ([.ref h0]) ++ List.replicate (1 - (lg_sl ([.ref h0])).length) Slot.unset).toArray = ls at hl ⊢
  have hl : lv_has ls 1 [(0, .ref h0)] := hl
  have k0 : (0 : Int32).toInt = 0 := by decide
  refine w_gen (A := A) hP (fun H locs hP hS => ?_)
  have k16 : (16 : Int32).toInt = 16 := by decide
  have hin : meth.name = "<init>" := (name_of_methodNamed B.named B.method).1
  refine lv_aload_n hx hb d_JB_init_0 rfl (lv_at hl 0 rfl) ?_
  refine lv_bipush (v := 16) hx hb d_JB_init_1 (by decide) ?_
  refine w_known (fun hzc hzs => ?_)
  have hPc := hP.sub (ws' := [(h0, .inr (17, [h0_value, .int h0_coder, .int h0_maybeLatin1, .int h0_count]))]) [0] rfl
  have hDc := hD.sub (ws' := [(h0, .inr (17, [h0_value, .int h0_coder, .int h0_maybeLatin1, .int h0_count]))]) [0] (by decide) rfl
  have hKc := hK.sub (tys' := [(cpb, .byte)]) [0] rfl
  have hFc := va_free (wc := [(h0, .inr (17, [h0_value, .int h0_coder, .int h0_maybeLatin1, .int h0_count]))]) hD hS hA [0] rfl
  refine va_callv (va_runI (As := [.int 16]) (rest := []) ⟨hx, hb, hml, hown, hts⟩ (c_JQ_init l hlt dC dI H.size (hsl H) sa h0 cpb h0_value h0_coder h0_maybeLatin1 h0_count 16 (by (try dsimp only) <;> omega)) ⟨callB_of 1 hts (gW kC_JQ_init) rfl rfl rfl (hts _ kI_JQ) (hts _ kM_JB_1) (by decide +kernel) ⟨Nat.le_of_ble_eq_true rfl, Nat.le_of_ble_eq_true rfl⟩, rfl, hts _ kV_JQ_init⟩ ⟨fun a U g mk z => by obtain ⟨z0, z1, zP, zK, zD, zS, zZ⟩ := z; exact ⟨z0, z1, zP, va_K.moved (u := U) (U := U.calling g mk a) (Vm.Alike.refl U.vm) zK, zD, sm.same (u := U) (U := U.calling g mk a) rfl zS, zZ⟩, fun U hU hW => ⟨rfl, by rw [hU], by rw [hU]; exact hPc, va_K.moved hW.alike hKc, hDc.weaken (fun _ _ _ _ => trivial), hSW.call hS hFc hW hU, by rw [hU]⟩⟩ rfl rfl hl.1 rfl (lv_room (Nat.le_of_ble_eq_true rfl)) d_JB_init_3 ⟨by dsimp only [headSpec]; omega, by dsimp only [headSpec]; omega⟩) hS (fun q _ h => hFc q h) hFc (fun u t H1 locs ht hvm hw hB hz1 hk1 hS => ?_)
  obtain ⟨n2, n3, n4, n5, nq3_nw⟩ := u
  try dsimp only at hw
  obtain ⟨bn2, xr1⟩ := hw
  try clear hw
  obtain ⟨y1, y2, y3⟩ := xr1
  obtain ⟨hP1, hK1, hD1, hZc, hZs⟩ := hB
  rw [ht] at hP1 hZc hZs
  obtain ⟨kc6, ekc6⟩ : ∃ z : Nat, z = 0 + n3 := ⟨_, rfl⟩
  obtain ⟨kn7, ekn7⟩ : ∃ z : Nat, z = 0 + n4 := ⟨_, rfl⟩
  refine w_refund (c2 := kc6) (n2 := kn7) (by omega) (by omega) ?_
  clear hzc hzs hZc hZs
  obtain ⟨hP, hD⟩ := va_join (wr := []) (w1 := [(h0, .inr (17, [.ref nq3_nw, .int 0, .int h0_maybeLatin1, .int h0_count])), (nq3_nw, .inl (cpb, n5, .inl n2))]) hP hD [0] [] rfl rfl (by decide) (by decide) hk1 hFc hP1 hD1
  clear hPc hDc hKc hFc hz1 hk1 hP1 hK1 hD1
  generalize H1 = H at hP hS ⊢
  have hP : va_P (dC, dI) cls2 [(h0, .inr (17, [.ref nq3_nw, .int 0, .int h0_maybeLatin1, .int h0_count])), (nq3_nw, .inl (cpb, n5, .inl n2))] H := hP
  have hD : va_D A [(h0, .inr (17, [.ref nq3_nw, .int 0, .int h0_maybeLatin1, .int h0_count])), (nq3_nw, .inl (cpb, n5, .inl n2))] := hD
  have hP9 := hP.sub (ws' := [(h0, .inr (17, [.ref nq3_nw, .int 0, .int h0_maybeLatin1, .int h0_count])), (nq3_nw, .inl (cpb, n5, .inl n2))]) [0, 1] rfl
  have hD9 := hD.sub (ws' := [(h0, .inr (17, [.ref nq3_nw, .int 0, .int h0_maybeLatin1, .int h0_count])), (nq3_nw, .inl (cpb, n5, .inl n2))]) [0, 1] (by decide) rfl
  refine w_known (fun hzc hzs => ?_)
  refine W.widen (k := 1) (n := 16) (by omega) (by omega) ?_
  exact W.vret hx hb hr (fun t ht hW => ⟨⟨(n2, kc6, kn7, n5, nq3_nw), rfl, ⟨bn2, ⟨by omega, by omega, by omega⟩⟩, by rw [ht]; exact hP9, va_K.moved hW.alike hK, hD9, by rw [ht]; exact hzc, by rw [ht]; exact hzs⟩, hS.F ht⟩) hS.2.2 d_JB_init_6

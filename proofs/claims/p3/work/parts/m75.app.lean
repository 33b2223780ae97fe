def R_JF : String := "java/lang/StringUTF16"
/-! the makers of texts: a letter, a text is laid behind -/
abbrev b_JQ_append0 : ByteArray := prog_20_method_31_code
def y_JQ_append0 : MethodName := ⟨R_JQ, "append", "(C)Ljava/lang/AbstractStringBuilder;"⟩
abbrev w_JQ_append0 : List Cond := .code y_JQ_append0 b_JQ_append0 2 (Option.some (.object "java/lang/AbstractStringBuilder")) :: lw_g
theorem kC_JQ_append0 : Cond.code y_JQ_append0 b_JQ_append0 2 (Option.some (.object "java/lang/AbstractStringBuilder")) ∈ lw_g := in_g 2175 (by decide +kernel) rfl
theorem d_JQ_append0_0 : decode b_JQ_append0 0 = .ok (.aload_n 0, 1) := by decide +kernel
theorem d_JQ_append0_1 : decode b_JQ_append0 1 = .ok (.aload_n 0, 1) := by decide +kernel
theorem d_JQ_append0_2 : decode b_JQ_append0 2 = .ok (.getfield 79, 3) := by decide +kernel
theorem d_JQ_append0_5 : decode b_JQ_append0 5 = .ok (.iconst 1, 1) := by decide +kernel
theorem d_JQ_append0_6 : decode b_JQ_append0 6 = .ok (.iadd, 1) := by decide +kernel
theorem d_JQ_append0_7 : decode b_JQ_append0 7 = .ok (.invokevirtual 100, 3) := by decide +kernel
theorem d_JQ_append0_10 : decode b_JQ_append0 10 = .ok (.aload_n 0, 1) := by decide +kernel
theorem d_JQ_append0_11 : decode b_JQ_append0 11 = .ok (.invokevirtual 83, 3) := by decide +kernel
theorem d_JQ_append0_14 : decode b_JQ_append0 14 = .ok (.ifCond .eq 31, 3) := by decide +kernel
theorem d_JQ_append0_17 : decode b_JQ_append0 17 = .ok (.iload_n 1, 1) := by decide +kernel
theorem d_JQ_append0_18 : decode b_JQ_append0 18 = .ok (.invokestatic 191, 3) := by decide +kernel
theorem d_JQ_append0_21 : decode b_JQ_append0 21 = .ok (.ifCond .eq 24, 3) := by decide +kernel
theorem d_JQ_append0_24 : decode b_JQ_append0 24 = .ok (.aload_n 0, 1) := by decide +kernel
theorem d_JQ_append0_25 : decode b_JQ_append0 25 = .ok (.getfield 15, 3) := by decide +kernel
theorem d_JQ_append0_28 : decode b_JQ_append0 28 = .ok (.aload_n 0, 1) := by decide +kernel
theorem d_JQ_append0_29 : decode b_JQ_append0 29 = .ok (.dup, 1) := by decide +kernel
theorem d_JQ_append0_30 : decode b_JQ_append0 30 = .ok (.getfield 79, 3) := by decide +kernel
theorem d_JQ_append0_33 : decode b_JQ_append0 33 = .ok (.dup_x1, 1) := by decide +kernel
theorem d_JQ_append0_34 : decode b_JQ_append0 34 = .ok (.iconst 1, 1) := by decide +kernel
theorem d_JQ_append0_35 : decode b_JQ_append0 35 = .ok (.iadd, 1) := by decide +kernel
theorem d_JQ_append0_36 : decode b_JQ_append0 36 = .ok (.putfield 79, 3) := by decide +kernel
theorem d_JQ_append0_39 : decode b_JQ_append0 39 = .ok (.iload_n 1, 1) := by decide +kernel
theorem d_JQ_append0_40 : decode b_JQ_append0 40 = .ok (.i2b, 1) := by decide +kernel
theorem d_JQ_append0_41 : decode b_JQ_append0 41 = .ok (.bastore, 1) := by decide +kernel
theorem d_JQ_append0_42 : decode b_JQ_append0 42 = .ok (.goto 33, 3) := by decide +kernel
theorem d_JQ_append0_45 : decode b_JQ_append0 45 = .ok (.aload_n 0, 1) := by decide +kernel
theorem d_JQ_append0_46 : decode b_JQ_append0 46 = .ok (.invokevirtual 83, 3) := by decide +kernel
theorem d_JQ_append0_49 : decode b_JQ_append0 49 = .ok (.ifCond .eq 7, 3) := by decide +kernel
theorem d_JQ_append0_52 : decode b_JQ_append0 52 = .ok (.aload_n 0, 1) := by decide +kernel
theorem d_JQ_append0_53 : decode b_JQ_append0 53 = .ok (.invokevirtual 195, 3) := by decide +kernel
theorem d_JQ_append0_56 : decode b_JQ_append0 56 = .ok (.aload_n 0, 1) := by decide +kernel
theorem d_JQ_append0_57 : decode b_JQ_append0 57 = .ok (.getfield 15, 3) := by decide +kernel
theorem d_JQ_append0_60 : decode b_JQ_append0 60 = .ok (.aload_n 0, 1) := by decide +kernel
theorem d_JQ_append0_61 : decode b_JQ_append0 61 = .ok (.dup, 1) := by decide +kernel
theorem d_JQ_append0_62 : decode b_JQ_append0 62 = .ok (.getfield 79, 3) := by decide +kernel
theorem d_JQ_append0_65 : decode b_JQ_append0 65 = .ok (.dup_x1, 1) := by decide +kernel
theorem d_JQ_append0_66 : decode b_JQ_append0 66 = .ok (.iconst 1, 1) := by decide +kernel
theorem d_JQ_append0_67 : decode b_JQ_append0 67 = .ok (.iadd, 1) := by decide +kernel
theorem d_JQ_append0_68 : decode b_JQ_append0 68 = .ok (.putfield 79, 3) := by decide +kernel
theorem d_JQ_append0_71 : decode b_JQ_append0 71 = .ok (.iload_n 1, 1) := by decide +kernel
theorem d_JQ_append0_72 : decode b_JQ_append0 72 = .ok (.invokestatic 197, 3) := by decide +kernel
theorem d_JQ_append0_75 : decode b_JQ_append0 75 = .ok (.aload_n 0, 1) := by decide +kernel
theorem d_JQ_append0_76 : decode b_JQ_append0 76 = .ok (.areturn, 1) := by decide +kernel
theorem kM_JQ_100 : Cond.methodLink R_JQ 100 y_JQ_ensureCapacityInternal ∈ lw_g := in_g 2176 (by decide +kernel) rfl
theorem kV_JQ_ensureCapacityInternal : Cond.instanceMethod y_JQ_ensureCapacityInternal ∈ lw_g := in_g 2178 (by decide +kernel) rfl
theorem kM_JQ_83 : Cond.methodLink R_JQ 83 y_JQ_isLatin1 ∈ lw_g := in_g 2211 (by decide +kernel) rfl
theorem kV_JQ_isLatin1 : Cond.instanceMethod y_JQ_isLatin1 ∈ lw_g := in_g 2212 (by decide +kernel) rfl
theorem kM_JQ_191 : Cond.methodLink R_JQ 191 y_JT_canEncode0 ∈ lw_g := in_g 2216 (by decide +kernel) rfl
theorem kT_JT_canEncode0 : Cond.static y_JT_canEncode0 ∈ lw_g := in_g 2217 (by decide +kernel) rfl
abbrev b_JQ_inflate : ByteArray := prog_20_method_11_code
def y_JQ_inflate : MethodName := ⟨R_JQ, "inflate", "()V"⟩
abbrev w_JQ_inflate : List Cond := .code y_JQ_inflate b_JQ_inflate 2 none :: lw_g
theorem kC_JQ_inflate : Cond.code y_JQ_inflate b_JQ_inflate 2 none ∈ lw_g := in_g 2222 (by decide +kernel) rfl
theorem kM_JQ_195 : Cond.methodLink R_JQ 195 y_JQ_inflate ∈ lw_g := in_g 2219 (by decide +kernel) rfl
theorem kV_JQ_inflate : Cond.instanceMethod y_JQ_inflate ∈ lw_g := in_g 2221 (by decide +kernel) rfl
abbrev b_JF_putCharSB : ByteArray := prog_36_method_71_code
def y_JF_putCharSB : MethodName := ⟨R_JF, "putCharSB", "([BII)V"⟩
abbrev w_JF_putCharSB : List Cond := .code y_JF_putCharSB b_JF_putCharSB 3 none :: lw_g
theorem kC_JF_putCharSB : Cond.code y_JF_putCharSB b_JF_putCharSB 3 none ∈ lw_g := in_g 2243 (by decide +kernel) rfl
theorem kM_JQ_197 : Cond.methodLink R_JQ 197 y_JF_putCharSB ∈ lw_g := in_g 2241 (by decide +kernel) rfl
theorem kT_JF_putCharSB : Cond.static y_JF_putCharSB ∈ lw_g := in_g 2242 (by decide +kernel) rfl
theorem kSM_JQ_ensureCapacityInternal : Cond.sameMethod R_JQ R_JQ "ensureCapacityInternal" "(I)V" ∈ lw_g := in_g 3102 (by decide +kernel) rfl
theorem kSM_JQ_isLatin1 : Cond.sameMethod R_JQ R_JQ "isLatin1" "()Z" ∈ lw_g := in_g 2213 (by decide +kernel) rfl
theorem kS2_JQ_isLatin1 : Cond.selects R_JB y_JQ_isLatin1 y_JQ_isLatin1 ∈ lw_g := in_g 2214 (by decide +kernel) rfl
abbrev at_JQ_append0 (dC : Nat → ClassId) (dI : Nat → Nat → Nat) (sz szl : Nat) (sa : Nat → Nat) (h0 va : Nat) (cpb : ClassId) (h0_maybeLatin1 : Int32) (A : Nat → Prop) (u : (Nat → Int32) × Nat × Int32 × Nat × Nat × Nat) (t : State) : Prop := match u with | (gva, va, h0_count, kcz, knz, nva) => va_P (dC, dI) cls2 [(h0, .inr (17, [.ref va, .int 0, .int h0_maybeLatin1, .int h0_count])), (va, .inl (cpb, nva, .inl gva))] t.heap ∧ va_K (dC, dI) cls2 [(cpb, .byte)] t ∧ va_D A [(h0, .inr (17, [.ref va, .int 0, .int h0_maybeLatin1, .int h0_count])), (va, .inl (cpb, nva, .inl gva))] ∧ t.heap.size ≤ sz + kcz ∧ hsl t.heap ≤ szl + knz
set_option maxHeartbeats 4000000 in
set_option maxRecDepth 100000 in
theorem c_JQ_append0 (l : Launch) (hlt : l.stackTraces = false) (dC : Nat → ClassId) (dI : Nat → Nat → Nat) (sz : Nat) (szl : Nat) (sa : Nat → Nat) (h0 va : Nat) (cpb : ClassId) (h0_maybeLatin1 : Int32) (h0_count : Int32) (nva : Nat) (gva : Nat → Int32)  (b_h0_count : 0 ≤ h0_count.toInt ∧ h0_count.toInt ≤ 1000000) (b_gva : ∀ j : Nat, -128 ≤ (gva j).toInt ∧ (gva j).toInt ≤ 127) (p0 : Int32) (ba0 : 0 ≤ p0.toInt ∧ p0.toInt ≤ 255) (hc : h0_count.toInt ≤ (nva : Int) ∧ (nva : Int) ≤ 400000) : Met l y_JQ_append0 w_JQ_append0 ({ frames := 4, cells := 1, slots := 2 * nva + 2, locals := 94 }) (va_Pc [.ref h0, .int p0] (fun U => U.heap.size = sz ∧ va_P (dC, dI) cls2 [(h0, .inr (17, [.ref va, .int 0, .int h0_maybeLatin1, .int h0_count])), (va, .inl (cpb, nva, .inl gva))] U.heap ∧ va_K (dC, dI) cls2 [(cpb, .byte)] U ∧ va_D (fun _ => True) [(h0, .inr (17, [.ref va, .int 0, .int h0_maybeLatin1, .int h0_count])), (va, .inl (cpb, nva, .inl gva))] ∧ sm sa (va_A [(h0, .inr (17, [.ref va, .int 0, .int h0_maybeLatin1, .int h0_count])), (va, .inl (cpb, nva, .inl gva))] sz) U U.heap ∧ hsl U.heap = szl)) (va_Qr (fun (u : (Nat → Int32) × Nat × Int32 × Nat × Nat × Nat) => match u with | (gva2, va2, h0_count2, kcz2, knz2, nva2) => (∀ j : Nat, -128 ≤ (gva2 j).toInt ∧ (gva2 j).toInt ≤ 127) ∧ (0 ≤ h0_count2.toInt ∧ h0_count2.toInt ≤ 1000000) ∧ (h0_count2.toInt = h0_count.toInt + 1 ∧ sbl gva2 h0_count2.toNatClampNeg = sbl gva h0_count.toNatClampNeg ++ [p0.toInt8.toInt32] ∧ (nva2 = nva ∧ kcz2 = 0 ∧ knz2 = 0 ∨ h0_count.toInt = (nva : Int) ∧ nva2 = 2 * nva + 2 ∧ kcz2 ≤ 1 ∧ knz2 = nva2) ∧ h0_count2.toInt ≤ (nva2 : Int))) (fun (u : (Nat → Int32) × Nat × Int32 × Nat × Nat × Nat) (ra : Nat) (t : State) => h0 = ra ∧ (at_JQ_append0 dC dI sz szl sa h0 va cpb h0_maybeLatin1 (va_A [(h0, .inr (17, [.ref va, .int 0, .int h0_maybeLatin1, .int h0_count])), (va, .inl (cpb, nva, .inl gva))] sz)) u t) (va_A [(h0, .inr (17, [.ref va, .int 0, .int h0_maybeLatin1, .int h0_count])), (va, .inl (cpb, nva, .inl gva))] sz)) (1) (2 * nva + 2) (va_A [(h0, .inr (17, [.ref va, .int 0, .int h0_maybeLatin1, .int h0_count])), (va, .inl (cpb, nva, .inl gva))] sz) := by
  refine Met.ofW (cc := b_JQ_append0) (maxL := 2) (ret := (Option.some (.object "java/lang/AbstractStringBuilder"))) (by decide) rfl ?_
  intro p e s m args below meth c s₁ B hml hv
  obtain ⟨rfl, hsz, hP, hK, hD0, hSW, hszl⟩ := hv
  have hx := B.exec
  have hb := B.bytes
  have hr := B.returns
  have hts0 := atoms_spec (ws := w_JQ_append0) B.pre
  have hts : ∀ w ∈ lw_g, w.before _ s = true := fun w h => hts0 w (List.mem_cons_of_mem _ h)
  have hown : s.vm.findClass R_JQ = some m.cls := findClass_of_methodNamed B.named
  have hlocks := B.notSynchronized
  clear hts0
  subst hsz
  subst hszl
  have hD := hD0.self (sz := s.heap.size)
  generalize hAe : va_A [(h0, .inr (17, [.ref va, .int 0, .int h0_maybeLatin1, .int h0_count])), (va, .inl (cpb, nva, .inl gva))] s.heap.size = A at hD hSW ⊢
  have hA : ∀ q : Nat, s.heap.size ≤ q → A q := fun q h => by rw [← hAe]; exact Or.inr h
  clear hAe
  have hP : va_P (dC, dI) cls2 [(h0, .inr (17, [.ref va, .int 0, .int h0_maybeLatin1, .int h0_count])), (va, .inl (cpb, nva, .inl gva))] s.heap := hP
  have hl := lv_entry ([.ref h0, .int p0]) (n := 2) (Nat.le_of_ble_eq_true rfl)
  rw [lg_entry_eq]
  generalize (lg_sl ([.ref h0, .int p0]) ++ List.replicate (2 - (lg_sl ([.ref h0, .int p0])).length) Slot.unset).toArray = ls at hl ⊢
  have hl : lv_has ls 2 [(0, .ref h0), (1, .int p0)] := hl
  have k0 : (0 : Int32).toInt = 0 := by decide
  refine w_gen (A := A) hP (fun H locs hP hS => ?_)
  have k1 : (1 : Int32).toInt = 1 := by decide
  have lo_p0 := i32_lo p0
  have hi_p0 := i32_hi p0
  have zc := i32_clamp (x := h0_count) (by omega)
  refine lv_aload_n hx hb d_JQ_append0_0 rfl (lv_at hl 0 rfl) ?_
  refine lv_aload_n hx hb d_JQ_append0_1 rfl (lv_at hl 0 rfl) ?_
  refine va_get (D := (dC, dI)) (ci := 17) (v := .int h0_count) (C := R_JB) (T := F_JB) (N := 4) hx hb hts i_JB hown hK hP 0 rfl rfl 3 (by decide) (hts _ kF_JQ_79) (fun _ h9 => h9) rfl d_JQ_append0_2 ?_
  refine lv_iconst (v := 1) hx hb d_JQ_append0_5 (by decide) ?_
  refine lv_iadd hx hb d_JQ_append0_6 ?_
  refine lv_topi (fun x1 ex1 => ?_)
  have tx1 : x1.toInt = h0_count.toInt + 1 := by have z := i32_add ex1 (by omega) (by omega); omega
  refine w_known (fun hzc hzs => ?_)
  have hPc := hP.sub (ws' := [(h0, .inr (17, [.ref va, .int 0, .int h0_maybeLatin1, .int h0_count])), (va, .inl (cpb, nva, .inl gva))]) [0, 1] rfl
  have hDc := hD.sub (ws' := [(h0, .inr (17, [.ref va, .int 0, .int h0_maybeLatin1, .int h0_count])), (va, .inl (cpb, nva, .inl gva))]) [0, 1] (by decide) rfl
  have hKc := hK.sub (tys' := [(cpb, .byte)]) [0] rfl
  have hFc := va_free (wc := [(h0, .inr (17, [.ref va, .int 0, .int h0_maybeLatin1, .int h0_count])), (va, .inl (cpb, nva, .inl gva))]) hD hS hA [0, 1] rfl
  refine va_callv (va_runV (As := [.int x1]) (rest := []) ⟨hx, hb, hml, hown, hts⟩ (c_JQ_ensureCapacityInternal l hlt dC dI H.size (hsl H) sa h0 va cpb h0_maybeLatin1 h0_count nva gva (b_gva) x1 (by omega) (by omega)) ⟨callB_of 1 hts (gW kC_JQ_ensureCapacityInternal) rfl rfl rfl (hts _ kI_JQ) (hts _ kM_JQ_100) (by decide +kernel) ⟨Nat.le_of_ble_eq_true rfl, Nat.le_of_ble_eq_true rfl⟩, hts _ kV_JQ_ensureCapacityInternal, hSW.sel 0 rfl⟩ ⟨fun a U g mk z => by obtain ⟨z0, z1, zP, zK, zD, zS, zZ⟩ := z; exact ⟨z0, z1, zP, va_K.moved (u := U) (U := U.calling g mk a) (Vm.Alike.refl U.vm) zK, zD, sm.same (u := U) (U := U.calling g mk a) rfl zS, zZ⟩, va_recv hKc hPc (ci := 17) (q0 := 0) rfl rfl, fun U hU hW => ⟨rfl, by rw [hU], by rw [hU]; exact hPc, va_K.moved hW.alike hKc, hDc.weaken (fun _ _ _ _ => trivial), hSW.call hS hFc hW hU, by rw [hU]⟩⟩ rfl rfl hl.1 rfl (lv_room (Nat.le_of_ble_eq_true rfl)) d_JQ_append0_7 ⟨by dsimp only [headSpec]; omega, by dsimp only [headSpec]; omega⟩) hS (fun q _ h => hFc q h) hFc (fun u t H1 locs ht hvm hw hB hz1 hk1 hS => ?_)
  obtain ⟨n3, n4, n5, n6, n7⟩ := u
  try dsimp only at hw
  obtain ⟨bn3, xr2⟩ := hw
  try clear hw
  obtain ⟨y1, y2, y3, y4, y5⟩ := xr2
  obtain ⟨hP1, hK1, hD1, hZc, hZs⟩ := hB
  rw [ht] at hP1 hZc hZs
  obtain ⟨kc8, ekc8⟩ : ∃ z : Nat, z = 0 + n5 := ⟨_, rfl⟩
  obtain ⟨kn9, ekn9⟩ : ∃ z : Nat, z = 0 + n6 := ⟨_, rfl⟩
  refine w_refund (c2 := kc8) (n2 := kn9) (by omega) (by omega) ?_
  clear hzc hzs hZc hZs
  obtain ⟨hP, hD⟩ := va_join (wr := []) (w1 := [(h0, .inr (17, [.ref n4, .int 0, .int h0_maybeLatin1, .int h0_count])), (n4, .inl (cpb, n7, .inl n3))]) hP hD [0, 1] [] rfl rfl (by decide) (by decide) hk1 hFc hP1 hD1
  clear hPc hDc hKc hFc hz1 hk1 hP1 hK1 hD1
  generalize H1 = H at hP hS ⊢
  have hP : va_P (dC, dI) cls2 [(h0, .inr (17, [.ref n4, .int 0, .int h0_maybeLatin1, .int h0_count])), (n4, .inl (cpb, n7, .inl n3))] H := hP
  have hD : va_D A [(h0, .inr (17, [.ref n4, .int 0, .int h0_maybeLatin1, .int h0_count])), (n4, .inl (cpb, n7, .inl n3))] := hD
  refine lv_aload_n hx hb d_JQ_append0_10 rfl (lv_at hl 0 rfl) ?_
  have hPc := hP.sub (ws' := [(h0, .inr (17, [.ref n4, .int 0, .int h0_maybeLatin1, .int h0_count]))]) [0] rfl
  have hDc := hD.sub (ws' := [(h0, .inr (17, [.ref n4, .int 0, .int h0_maybeLatin1, .int h0_count]))]) [0] (by decide) rfl
  have hKc := hK.sub (tys' := []) [] rfl
  have hFc := va_free (wc := [(h0, .inr (17, [.ref n4, .int 0, .int h0_maybeLatin1, .int h0_count]))]) hD hS hA [0] rfl
  refine va_calli (va_runV (As := []) (rest := []) ⟨hx, hb, hml, hown, hts⟩ (c_JQ_isLatin1 l hlt dC dI H.size sa h0 n4 h0_maybeLatin1 h0_count) ⟨callB_of 0 hts (gW kC_JQ_isLatin1) rfl rfl rfl (hts _ kI_JQ) (hts _ kM_JQ_83) (by decide +kernel) ⟨Nat.le_of_ble_eq_true rfl, Nat.le_of_ble_eq_true rfl⟩, hts _ kV_JQ_isLatin1, hts _ kS2_JQ_isLatin1⟩ ⟨fun a U g mk z => by obtain ⟨z0, z1, zP, zK, zD, zS⟩ := z; exact ⟨z0, z1, zP, va_K.moved (u := U) (U := U.calling g mk a) (Vm.Alike.refl U.vm) zK, zD, sm.same (u := U) (U := U.calling g mk a) rfl zS⟩, va_recv hKc hPc (ci := 17) (q0 := 0) rfl rfl, fun U hU hW => ⟨rfl, by rw [hU], by rw [hU]; exact hPc, va_K.moved hW.alike hKc, hDc.weaken (fun _ _ _ _ => trivial), hSW.call hS hFc hW hU⟩⟩ rfl rfl hl.1 rfl (lv_room (Nat.le_of_ble_eq_true rfl)) d_JQ_append0_11 ⟨by dsimp only [headSpec]; omega, by dsimp only [headSpec]; omega⟩) hS (fun q _ h => hFc q h) hFc (fun r10 u t H1 locs ht hvm hw hB hz1 hk1 hS => ?_)
  try dsimp only at hw
  obtain ⟨br10, xr10⟩ := hw
  try clear hw
  have tr10 := b01 br10
  obtain ⟨hP1, hK1, hD1⟩ := hB
  rw [ht] at hP1
  obtain ⟨hP, hD⟩ := va_join (wr := [(n4, .inl (cpb, n7, .inl n3))]) (w1 := [(h0, .inr (17, [.ref n4, .int 0, .int h0_maybeLatin1, .int h0_count]))]) hP hD [0] [1] rfl rfl (by decide) (by decide) hk1 hFc hP1 hD1
  clear hPc hDc hKc hFc hz1 hk1 hP1 hK1 hD1
  generalize H1 = H at hP hS ⊢
  have hP : va_P (dC, dI) cls2 [(n4, .inl (cpb, n7, .inl n3)), (h0, .inr (17, [.ref n4, .int 0, .int h0_maybeLatin1, .int h0_count]))] H := hP
  have hD : va_D A [(n4, .inl (cpb, n7, .inl n3)), (h0, .inr (17, [.ref n4, .int 0, .int h0_maybeLatin1, .int h0_count]))] := hD
  refine lv_if_eq (tgt := 45) hx hb d_JQ_append0_14 (by decide) (fun c14 => absurd (eqI c14) (by omega)) (fun c14 => ?_)
  have q14 := neI c14
  refine lv_iload_n hx hb d_JQ_append0_17 rfl (lv_at hl 1 rfl) ?_
  have hPc := @vp_nil
  have hDc := hD.sub (ws' := []) [] (by decide) rfl
  have hKc := hK.sub (tys' := []) [] rfl
  have hFc := va_free (wc := []) hD hS hA [] rfl
  refine va_calli (va_runS (As := [.int p0]) (rest := []) ⟨hx, hb, hml, hown, hts⟩ (c_JT_canEncode0 l hlt dC dI H.size p0 (by (try dsimp only) <;> omega)) ⟨callB_of 1 hts (gW kC_JT_canEncode0) rfl rfl rfl (hts _ kI_JT) (hts _ kM_JQ_191) (by decide +kernel) ⟨Nat.le_of_ble_eq_true rfl, Nat.le_of_ble_eq_true rfl⟩, hts _ kT_JT_canEncode0⟩ ⟨fun a U g mk z => by obtain ⟨z0, z1, zP, zK, zD⟩ := z; exact ⟨z0, z1, zP, va_K.moved (u := U) (U := U.calling g mk a) (Vm.Alike.refl U.vm) zK, zD⟩, fun U hU hW => ⟨rfl, by rw [hU], by rw [hU]; exact hPc, va_K.moved hW.alike hKc, hDc.weaken (fun _ _ _ _ => trivial)⟩⟩ rfl rfl hl.1 rfl (lv_room (Nat.le_of_ble_eq_true rfl)) d_JQ_append0_18 ⟨by dsimp only [headSpec]; omega, by dsimp only [headSpec]; omega⟩) hS (fun q _ h => hFc q h) hFc (fun r13 u t H1 locs ht hvm hw hB hz1 hk1 hS => ?_)
  try dsimp only at hw
  obtain ⟨br13, xr13⟩ := hw
  try clear hw
  have tr13 := b01 br13
  obtain ⟨hP1, hK1, hD1⟩ := hB
  rw [ht] at hP1
  replace hP1 := @vp_nil (dC, dI) cls2 H1
  obtain ⟨hP, hD⟩ := va_join (wr := [(n4, .inl (cpb, n7, .inl n3)), (h0, .inr (17, [.ref n4, .int 0, .int h0_maybeLatin1, .int h0_count]))]) (w1 := []) hP hD [] [0, 1] rfl rfl (by decide) (by decide) hk1 hFc hP1 hD1
  clear hPc hDc hKc hFc hz1 hk1 hP1 hK1 hD1
  generalize H1 = H at hP hS ⊢
  have hP : va_P (dC, dI) cls2 [(n4, .inl (cpb, n7, .inl n3)), (h0, .inr (17, [.ref n4, .int 0, .int h0_maybeLatin1, .int h0_count]))] H := hP
  have hD : va_D A [(n4, .inl (cpb, n7, .inl n3)), (h0, .inr (17, [.ref n4, .int 0, .int h0_maybeLatin1, .int h0_count]))] := hD
  refine lv_if_eq (tgt := 45) hx hb d_JQ_append0_21 (by decide) (fun c21 => absurd (eqI c21) (by omega)) (fun c21 => ?_)
  have q21 := neI c21
  refine lv_aload_n hx hb d_JQ_append0_24 rfl (lv_at hl 0 rfl) ?_
  refine va_get (D := (dC, dI)) (ci := 17) (v := .ref n4) (C := R_JB) (T := F_JB) (N := 4) hx hb hts i_JB hown hK hP 1 rfl rfl 0 (by decide) (hts _ kF_JQ_15) (fun _ h9 => h9) rfl d_JQ_append0_25 ?_
  refine lv_aload_n hx hb d_JQ_append0_28 rfl (lv_at hl 0 rfl) ?_
  refine lv_dup hx hb d_JQ_append0_29 rfl ?_
  refine va_get (D := (dC, dI)) (ci := 17) (v := .int h0_count) (C := R_JB) (T := F_JB) (N := 4) hx hb hts i_JB hown hK hP 1 rfl rfl 3 (by decide) (hts _ kF_JQ_79) (fun _ h9 => h9) rfl d_JQ_append0_30 ?_
  refine lv_dup_x1 hx hb d_JQ_append0_33 rfl rfl ?_
  refine lv_iconst (v := 1) hx hb d_JQ_append0_34 (by decide) ?_
  refine lv_iadd hx hb d_JQ_append0_35 ?_
  refine lv_topi (fun x16 ex16 => ?_)
  have tx16 : x16.toInt = h0_count.toInt + 1 := by have z := i32_add ex16 (by omega) (by omega); omega
  refine va_put (D := (dC, dI)) (ci := 17) (v := .int x16) (ty := .int) (C := R_JB) (T := F_JB) (N := 4) hx hb hts i_JB t_JB t_JB_ok n_JB hown hK hP hD hS 1 rfl rfl 3 (by decide) (hts _ kF_JQ_79) (fun _ h9 => h9) rfl (by decide +kernel) rfl rfl (Nat.le_of_ble_eq_true rfl) d_JQ_append0_36 (fun H locs hP hD hS => ?_)
  refine lv_iload_n hx hb d_JQ_append0_39 rfl (lv_at hl 1 rfl) ?_
  refine lv_i2b hx hb d_JQ_append0_40 rfl ?_
  refine lv_topi (fun x17 ex17 => ?_)
  have g41 : vp_in h0_count n7 := vp_in_iff.mpr ⟨by omega, by omega⟩
  refine va_bast hx hb hK hP hD hS 0 0 rfl rfl g41 d_JQ_append0_41 (fun H locs hP hD hS => ?_)
  generalize ef18 : upd n3 h0_count.toNatClampNeg (vp_nar .byte x17) = f18 at hP hD
  have b_f18 : ∀ j : Nat, -128 ≤ (f18 j).toInt ∧ (f18 j).toInt ≤ 127 := by rw [← ef18]; exact upd_b (bn3) (nar_el _)
  refine lv_goto (tgt := 75) hx hb d_JQ_append0_42 (by decide) ?_
  refine lv_aload_n hx hb d_JQ_append0_75 rfl (lv_at hl 0 rfl) ?_
  have hP9 := hP.sub (ws' := [(h0, .inr (17, [.ref n4, .int 0, .int h0_maybeLatin1, .int x16])), (n4, .inl (cpb, n7, .inl f18))]) [1, 0] rfl
  have hD9 := hD.sub (ws' := [(h0, .inr (17, [.ref n4, .int 0, .int h0_maybeLatin1, .int x16])), (n4, .inl (cpb, n7, .inl f18))]) [1, 0] (by decide) rfl
  refine w_known (fun hzc hzs => ?_)
  refine W.widen (k := 1) (n := 2 * nva + 2) (by omega) (by omega) ?_
  exact W.aret (v := .ref h0) hx hb hr (Or.inl ⟨_, rfl⟩) (Or.inr ⟨_, rfl⟩) (fun t ht hW => ⟨⟨(f18, n4, x16, kc8 + 0 + 0, kn9 + 0 + 0, n7), h0, rfl, ⟨b_f18, by (try dsimp only) <;> omega, ⟨by omega, by rw [show x16.toNatClampNeg = h0_count.toNatClampNeg + 1 from clampN (by omega), sbl_up ef18, sbl_cg (g := gva) (fun j hj => y5 j (by omega)), vp_nar_byte, ex17, nar2], by omega⟩⟩, rfl, by rw [ht]; exact hP9, va_K.moved hW.alike hK, hD9, by rw [ht]; exact hzc, by rw [ht]; exact hzs⟩, hS.F ht⟩) hS.2.2 d_JQ_append0_76

section q_m75
def R_JF : String := "java/lang/StringUTF16"
/-! the makers of texts: a letter, a text is laid behind -/
abbrev b_JQ_append0 : ByteArray := prog_20_method_31_code
def y_JQ_append0 : MethodName := ⟨R_JQ, "append", "(C)Ljava/lang/AbstractStringBuilder;"⟩
abbrev w_JQ_append0 : List Cond := .code y_JQ_append0 b_JQ_append0 2 (Option.some (.object "java/lang/AbstractStringBuilder")) :: lw_g
theorem kC_JQ_append0 : Cond.code y_JQ_append0 b_JQ_append0 2 (Option.some (.object "java/lang/AbstractStringBuilder")) ∈ lw_g := in_c10 15 rfl rfl
theorem d_JQ_append0_0 : decode b_JQ_append0 0 = .ok (.aload_n 0, 1) := bz_c42 (by decide +kernel)
theorem d_JQ_append0_1 : decode b_JQ_append0 1 = .ok (.aload_n 0, 1) := bz_c42 (by decide +kernel)
theorem d_JQ_append0_2 : decode b_JQ_append0 2 = .ok (.getfield 79, 3) := bz_c180 (by decide +kernel)
theorem d_JQ_append0_5 : decode b_JQ_append0 5 = .ok (.iconst 1, 1) := bz_c4 (by decide +kernel)
theorem d_JQ_append0_6 : decode b_JQ_append0 6 = .ok (.iadd, 1) := bz_c96 (by decide +kernel)
theorem d_JQ_append0_7 : decode b_JQ_append0 7 = .ok (.invokevirtual 100, 3) := bz_c182 (by decide +kernel)
theorem d_JQ_append0_10 : decode b_JQ_append0 10 = .ok (.aload_n 0, 1) := bz_c42 (by decide +kernel)
theorem d_JQ_append0_11 : decode b_JQ_append0 11 = .ok (.invokevirtual 83, 3) := bz_c182 (by decide +kernel)
theorem d_JQ_append0_14 : decode b_JQ_append0 14 = .ok (.ifCond .eq 31, 3) := bz_c153 (by decide +kernel)
theorem d_JQ_append0_17 : decode b_JQ_append0 17 = .ok (.iload_n 1, 1) := bz_c27 (by decide +kernel)
theorem d_JQ_append0_18 : decode b_JQ_append0 18 = .ok (.invokestatic 191, 3) := bz_c184 (by decide +kernel)
theorem d_JQ_append0_21 : decode b_JQ_append0 21 = .ok (.ifCond .eq 24, 3) := bz_c153 (by decide +kernel)
theorem d_JQ_append0_24 : decode b_JQ_append0 24 = .ok (.aload_n 0, 1) := bz_c42 (by decide +kernel)
theorem d_JQ_append0_25 : decode b_JQ_append0 25 = .ok (.getfield 15, 3) := bz_c180 (by decide +kernel)
theorem d_JQ_append0_28 : decode b_JQ_append0 28 = .ok (.aload_n 0, 1) := bz_c42 (by decide +kernel)
theorem d_JQ_append0_29 : decode b_JQ_append0 29 = .ok (.dup, 1) := bz_c89 (by decide +kernel)
theorem d_JQ_append0_30 : decode b_JQ_append0 30 = .ok (.getfield 79, 3) := bz_c180 (by decide +kernel)
theorem d_JQ_append0_33 : decode b_JQ_append0 33 = .ok (.dup_x1, 1) := by decide +kernel
theorem d_JQ_append0_34 : decode b_JQ_append0 34 = .ok (.iconst 1, 1) := bz_c4 (by decide +kernel)
theorem d_JQ_append0_35 : decode b_JQ_append0 35 = .ok (.iadd, 1) := bz_c96 (by decide +kernel)
theorem d_JQ_append0_36 : decode b_JQ_append0 36 = .ok (.putfield 79, 3) := bz_c181 (by decide +kernel)
theorem d_JQ_append0_39 : decode b_JQ_append0 39 = .ok (.iload_n 1, 1) := bz_c27 (by decide +kernel)
theorem d_JQ_append0_40 : decode b_JQ_append0 40 = .ok (.i2b, 1) := by decide +kernel
theorem d_JQ_append0_41 : decode b_JQ_append0 41 = .ok (.bastore, 1) := bz_c84 (by decide +kernel)
theorem d_JQ_append0_42 : decode b_JQ_append0 42 = .ok (.goto 33, 3) := bz_c167 (by decide +kernel)
theorem d_JQ_append0_45 : decode b_JQ_append0 45 = .ok (.aload_n 0, 1) := bz_c42 (by decide +kernel)
theorem d_JQ_append0_46 : decode b_JQ_append0 46 = .ok (.invokevirtual 83, 3) := bz_c182 (by decide +kernel)
theorem d_JQ_append0_49 : decode b_JQ_append0 49 = .ok (.ifCond .eq 7, 3) := bz_c153 (by decide +kernel)
theorem d_JQ_append0_52 : decode b_JQ_append0 52 = .ok (.aload_n 0, 1) := bz_c42 (by decide +kernel)
theorem d_JQ_append0_53 : decode b_JQ_append0 53 = .ok (.invokevirtual 195, 3) := bz_c182 (by decide +kernel)
theorem d_JQ_append0_56 : decode b_JQ_append0 56 = .ok (.aload_n 0, 1) := bz_c42 (by decide +kernel)
theorem d_JQ_append0_57 : decode b_JQ_append0 57 = .ok (.getfield 15, 3) := bz_c180 (by decide +kernel)
theorem d_JQ_append0_60 : decode b_JQ_append0 60 = .ok (.aload_n 0, 1) := bz_c42 (by decide +kernel)
theorem d_JQ_append0_61 : decode b_JQ_append0 61 = .ok (.dup, 1) := bz_c89 (by decide +kernel)
theorem d_JQ_append0_62 : decode b_JQ_append0 62 = .ok (.getfield 79, 3) := bz_c180 (by decide +kernel)
theorem d_JQ_append0_65 : decode b_JQ_append0 65 = .ok (.dup_x1, 1) := by decide +kernel
theorem d_JQ_append0_66 : decode b_JQ_append0 66 = .ok (.iconst 1, 1) := bz_c4 (by decide +kernel)
theorem d_JQ_append0_67 : decode b_JQ_append0 67 = .ok (.iadd, 1) := bz_c96 (by decide +kernel)
theorem d_JQ_append0_68 : decode b_JQ_append0 68 = .ok (.putfield 79, 3) := bz_c181 (by decide +kernel)
theorem d_JQ_append0_71 : decode b_JQ_append0 71 = .ok (.iload_n 1, 1) := bz_c27 (by decide +kernel)
theorem d_JQ_append0_72 : decode b_JQ_append0 72 = .ok (.invokestatic 197, 3) := bz_c184 (by decide +kernel)
theorem d_JQ_append0_75 : decode b_JQ_append0 75 = .ok (.aload_n 0, 1) := bz_c42 (by decide +kernel)
theorem d_JQ_append0_76 : decode b_JQ_append0 76 = .ok (.areturn, 1) := bz_c176 (by decide +kernel)
theorem kM_JQ_100 : Cond.methodLink R_JQ 100 y_JQ_ensureCapacityInternal ∈ lw_g := in_c10 16 rfl rfl
theorem kV_JQ_ensureCapacityInternal : Cond.instanceMethod y_JQ_ensureCapacityInternal ∈ lw_g := in_c10 18 rfl rfl
theorem kM_JQ_83 : Cond.methodLink R_JQ 83 y_JQ_isLatin1 ∈ lw_g := in_c10 51 rfl rfl
theorem kV_JQ_isLatin1 : Cond.instanceMethod y_JQ_isLatin1 ∈ lw_g := in_c10 52 rfl rfl
theorem kM_JQ_191 : Cond.methodLink R_JQ 191 y_JT_canEncode0 ∈ lw_g := in_c10 56 rfl rfl
theorem kT_JT_canEncode0 : Cond.static y_JT_canEncode0 ∈ lw_g := in_c10 57 rfl rfl
abbrev b_JQ_inflate : ByteArray := prog_20_method_11_code
def y_JQ_inflate : MethodName := ⟨R_JQ, "inflate", "()V"⟩
abbrev w_JQ_inflate : List Cond := .code y_JQ_inflate b_JQ_inflate 2 none :: lw_g
theorem kC_JQ_inflate : Cond.code y_JQ_inflate b_JQ_inflate 2 none ∈ lw_g := in_c10 62 rfl rfl
theorem kM_JQ_195 : Cond.methodLink R_JQ 195 y_JQ_inflate ∈ lw_g := in_c10 59 rfl rfl
theorem kV_JQ_inflate : Cond.instanceMethod y_JQ_inflate ∈ lw_g := in_c10 61 rfl rfl
abbrev b_JF_putCharSB : ByteArray := prog_36_method_71_code
def y_JF_putCharSB : MethodName := ⟨R_JF, "putCharSB", "([BII)V"⟩
abbrev w_JF_putCharSB : List Cond := .code y_JF_putCharSB b_JF_putCharSB 3 none :: lw_g
theorem kC_JF_putCharSB : Cond.code y_JF_putCharSB b_JF_putCharSB 3 none ∈ lw_g := in_c10 83 rfl rfl
theorem kM_JQ_197 : Cond.methodLink R_JQ 197 y_JF_putCharSB ∈ lw_g := in_c10 81 rfl rfl
theorem kT_JF_putCharSB : Cond.static y_JF_putCharSB ∈ lw_g := in_c10 82 rfl rfl
theorem kSM_JQ_ensureCapacityInternal : Cond.sameMethod R_JQ R_JQ "ensureCapacityInternal" "(I)V" ∈ lw_g := in_c13 222 rfl rfl
theorem kSM_JQ_isLatin1 : Cond.sameMethod R_JQ R_JQ "isLatin1" "()Z" ∈ lw_g := in_c10 53 rfl rfl
theorem kS2_JQ_isLatin1 : Cond.selects R_JB y_JQ_isLatin1 y_JQ_isLatin1 ∈ lw_g := in_c10 54 rfl rfl
abbrev at_JQ_append0 (dC : Nat → ClassId) (dI : Nat → Nat → Nat) (sz szl : Nat) (sa : Nat → Nat) (h0 va : Nat) (cpb : ClassId) (h0_maybeLatin1 : Int32) (A : Nat → Prop) (u : (Nat → Int32) × Nat × Int32 × Nat × Nat × Nat) (t : State) : Prop := match u with | (gva, va, h0_count, kcz, knz, nva) => va_P (dC, dI) cls2 (wz_487 h0 va 0 h0_maybeLatin1 h0_count va cpb nva gva) t.heap ∧ va_K (dC, dI) cls2 [(cpb, .byte)] t ∧ va_D A (wz_487 h0 va 0 h0_maybeLatin1 h0_count va cpb nva gva) ∧ t.heap.size ≤ sz + kcz ∧ hsl t.heap ≤ szl + knz
set_option maxHeartbeats 4000000 in
set_option maxRecDepth 100000 in
theorem c_JQ_append0 (l : Launch) (hlt : l.stackTraces = false) (dC : Nat → ClassId) (dI : Nat → Nat → Nat) (sz : Nat) (szl : Nat) (sa : Nat → Nat) (h0 va : Nat) (cpb : ClassId) (h0_maybeLatin1 : Int32) (h0_count : Int32) (nva : Nat) (gva : Nat → Int32)  (b_h0_count : 0 ≤ h0_count.toInt ∧ h0_count.toInt ≤ 1000000) (b_gva : ∀ j : Nat, -128 ≤ (gva j).toInt ∧ (gva j).toInt ≤ 127) (p0 : Int32) (ba0 : 0 ≤ p0.toInt ∧ p0.toInt ≤ 255) (hc : h0_count.toInt ≤ (nva : Int) ∧ (nva : Int) ≤ 400000) : Met l y_JQ_append0 w_JQ_append0 ({ frames := 4, cells := 1, slots := 2 * nva + 2, locals := 94 }) (va_Pc [.ref h0, .int p0] (fun U => U.heap.size = sz ∧ va_P (dC, dI) cls2 (wz_487 h0 va 0 h0_maybeLatin1 h0_count va cpb nva gva) U.heap ∧ va_K (dC, dI) cls2 [(cpb, .byte)] U ∧ va_D (fun _ => True) (wz_487 h0 va 0 h0_maybeLatin1 h0_count va cpb nva gva) ∧ sm sa (va_A (wz_487 h0 va 0 h0_maybeLatin1 h0_count va cpb nva gva) sz) U U.heap ∧ hsl U.heap = szl)) (va_Qr (fun (u : (Nat → Int32) × Nat × Int32 × Nat × Nat × Nat) => match u with | (gva2, va2, h0_count2, kcz2, knz2, nva2) => (∀ j : Nat, -128 ≤ (gva2 j).toInt ∧ (gva2 j).toInt ≤ 127) ∧ (0 ≤ h0_count2.toInt ∧ h0_count2.toInt ≤ 1000000) ∧ (h0_count2.toInt = h0_count.toInt + 1 ∧ sbl gva2 h0_count2.toNatClampNeg = sbl gva h0_count.toNatClampNeg ++ [p0.toInt8.toInt32] ∧ (nva2 = nva ∧ kcz2 = 0 ∧ knz2 = 0 ∨ h0_count.toInt = (nva : Int) ∧ nva2 = 2 * nva + 2 ∧ kcz2 ≤ 1 ∧ knz2 = nva2) ∧ h0_count2.toInt ≤ (nva2 : Int))) (fun (u : (Nat → Int32) × Nat × Int32 × Nat × Nat × Nat) (ra : Nat) (t : State) => h0 = ra ∧ (at_JQ_append0 dC dI sz szl sa h0 va cpb h0_maybeLatin1 (va_A (wz_487 h0 va 0 h0_maybeLatin1 h0_count va cpb nva gva) sz)) u t) (va_A (wz_487 h0 va 0 h0_maybeLatin1 h0_count va cpb nva gva) sz)) (1) (2 * nva + 2) (va_A (wz_487 h0 va 0 h0_maybeLatin1 h0_count va cpb nva gva) sz) := by
  refine Met.ofW (cc := b_JQ_append0) (maxL := 2) (ret := (Option.some (.object "java/lang/AbstractStringBuilder"))) (by decide) rfl ?_
  intro p e s m args below meth c s₁ B hml hv
  obtain ⟨rfl, hsz, hP, hK, hD0, hSW, hszl⟩ := hv
  have hx := B.exec
  have hb := B.bytes
  have hr := B.returns
  have hts0 := atoms_spec (ws := w_JQ_append0) B.pre
  have hts : ∀ w ∈ lw_g, w.before _ s = true := fun w h => hts0 w (List.mem_cons_of_mem _ h)
  have hown : s.vm.findClass R_JQ = some m.cls := findClass_of_methodNamed B.named
  have hlocks := B.notSynchronized
  clear hts0
  subst hsz
  subst hszl
  have hD := hD0.self (sz := s.heap.size)
  generalize hAe : va_A (wz_487 h0 va 0 h0_maybeLatin1 h0_count va cpb nva gva) s.heap.size = A at hD hSW ⊢
  have hA : ∀ q : Nat, s.heap.size ≤ q → A q := fun q h => by rw [← hAe]; exact Or.inr h
  clear hAe
  have hP : va_P (dC, dI) cls2 (wz_487 h0 va 0 h0_maybeLatin1 h0_count va cpb nva gva) s.heap := hP
  have hl := lv_entry ([.ref h0, .int p0]) (n := 2) (Nat.le_of_ble_eq_true rfl)
  rw [lg_entry_eq]
  generalize (lg_sl ([.ref h0, .int p0]) ++ List.replicate (2 - (lg_sl ([.ref h0, .int p0])).length) Slot.unset).toArray = ls at hl ⊢
  have hl : lv_has ls 2 [(0, .ref h0), (1, .int p0)] := hl
  have k0 : (0 : Int32).toInt = 0 := by decide
  refine w_gen (A := A) hP (fun H locs hP hS => ?_)
  have k1 : (1 : Int32).toInt = 1 := by decide
  have lo_p0 := i32_lo p0
  have hi_p0 := i32_hi p0
  have zc := i32_clamp (x := h0_count) (by (first | (apply Int.le_antisymm <;> omega) | omega))
  refine lv_aload_n hx hb d_JQ_append0_0 rfl (lv_at hl 0 rfl) ?_
  refine lv_aload_n hx hb d_JQ_append0_1 rfl (lv_at hl 0 rfl) ?_
  refine va_get (D := (dC, dI)) (ci := 17) (v := .int h0_count) (C := R_JB) (T := F_JB) (N := 4) hx hb hts i_JB hown hK hP 0 rfl rfl 3 (by decide) (hts _ kF_JQ_79) (fun _ h9 => h9) rfl d_JQ_append0_2 ?_
  refine lv_iconst (v := 1) hx hb d_JQ_append0_5 (by decide) ?_
  refine lv_iadd hx hb d_JQ_append0_6 ?_
  refine lv_topi (fun x1 ex1 => ?_)
  have tx1 : x1.toInt = h0_count.toInt + 1 := by have z := i32_add ex1 (by (first | (apply Int.le_antisymm <;> omega) | omega)) (by (first | (apply Int.le_antisymm <;> omega) | omega)); first | exact z | (first | (apply Int.le_antisymm <;> omega) | omega)
  refine w_known (fun hzc hzs => ?_)
  have hPc := hP.sb (wq := (wz_487 h0 va 0 h0_maybeLatin1 h0_count va cpb nva gva)) [0, 1] rfl
  have hDc := hD.sb (wq := (wz_487 h0 va 0 h0_maybeLatin1 h0_count va cpb nva gva)) [0, 1] (by decide) rfl
  have hKc := hK.sb (tyq := [(cpb, .byte)]) [0] rfl
  have hFc := va_free (wc := (wz_487 h0 va 0 h0_maybeLatin1 h0_count va cpb nva gva)) hD hS hA [0, 1] rfl
  refine va_callv (va_runV (As := [.int x1]) (rest := []) ⟨hx, hb, hml, hown, hts⟩ (c_JQ_ensureCapacityInternal l hlt dC dI H.size (hsl H) sa h0 va cpb h0_maybeLatin1 h0_count nva gva (b_gva) x1 (by (first | (apply Int.le_antisymm <;> omega) | omega)) (by (first | (apply Int.le_antisymm <;> omega) | omega))) ⟨callB_of 1 hts (gW kC_JQ_ensureCapacityInternal) rfl rfl rfl (hts _ kI_JQ) (hts _ kM_JQ_100) (by decide +kernel) ⟨Nat.le_of_ble_eq_true rfl, Nat.le_of_ble_eq_true rfl⟩, hts _ kV_JQ_ensureCapacityInternal, hSW.sel 0 rfl⟩ ⟨fun a U g mk z => by obtain ⟨z0, z1, zP, zK, zD, zS, zZ⟩ := z; exact ⟨z0, z1, zP, va_K.moved (u := U) (U := U.calling g mk a) (Vm.Alike.refl U.vm) zK, zD, sm.same (u := U) (U := U.calling g mk a) rfl zS, zZ⟩, va_recv hKc hPc (ci := 17) (q0 := 0) rfl rfl, fun U hU hW => ⟨rfl, by rw [hU], va_P.he hU.symm hPc, va_K.moved hW.alike hKc, hDc.weaken (fun _ _ _ _ => trivial), hSW.call hS hFc hW hU, by rw [hU]⟩⟩ rfl rfl hl.1 rfl (lv_room (Nat.le_of_ble_eq_true rfl)) d_JQ_append0_7 ⟨by dsimp only [headSpec]; (first | (apply Int.le_antisymm <;> omega) | omega), by dsimp only [headSpec]; (first | (apply Int.le_antisymm <;> omega) | omega)⟩) hS (fun q _ h => hFc q h) hFc (fun u t H1 locs ht hvm hw hB hz1 hk1 hS => ?_)
  obtain ⟨n3, n4, n5, n6, n7⟩ := u
  try dsimp only at hw
  obtain ⟨bn3, xr2⟩ := hw
  try clear hw
  obtain ⟨y1, y2, y3, y4, y5⟩ := xr2
  obtain ⟨hP1, hK1, hD1, hZc, hZs⟩ := hB
  rw [ht] at hP1 hZc hZs
  obtain ⟨kc8, ekc8⟩ : ∃ z : Nat, z = 0 + n5 := ⟨_, rfl⟩
  obtain ⟨kn9, ekn9⟩ : ∃ z : Nat, z = 0 + n6 := ⟨_, rfl⟩
  refine w_refund (c2 := kc8) (n2 := kn9) (by (first | (apply Int.le_antisymm <;> omega) | omega)) (by (first | (apply Int.le_antisymm <;> omega) | omega)) ?_
  clear hzc hzs hZc hZs
  obtain ⟨hP, hD⟩ := va_join (wr := []) (w1 := (wz_487 h0 n4 0 h0_maybeLatin1 h0_count n4 cpb n7 n3)) hP hD [0, 1] [] rfl rfl (by decide) (by decide) hk1 hFc hP1 hD1
  clear hPc hDc hKc hFc hz1 hk1 hP1 hK1 hD1
  rename Heap => H
  have hP : va_P (dC, dI) cls2 (wz_487 h0 n4 0 h0_maybeLatin1 h0_count n4 cpb n7 n3) H := hP
  have hD : va_D A (wz_487 h0 n4 0 h0_maybeLatin1 h0_count n4 cpb n7 n3) := hD
  refine lv_aload_n hx hb d_JQ_append0_10 rfl (lv_at hl 0 rfl) ?_
  have hPc := hP.sb (wq := [(h0, .inr (17, [.ref n4, .int 0, .int h0_maybeLatin1, .int h0_count]))]) [0] rfl
  have hDc := hD.sb (wq := [(h0, .inr (17, [.ref n4, .int 0, .int h0_maybeLatin1, .int h0_count]))]) [0] (by decide) rfl
  have hKc := hK.sb (tyq := []) [] rfl
  have hFc := va_free (wc := [(h0, .inr (17, [.ref n4, .int 0, .int h0_maybeLatin1, .int h0_count]))]) hD hS hA [0] rfl
  refine va_calli (va_runV (As := []) (rest := []) ⟨hx, hb, hml, hown, hts⟩ (c_JQ_isLatin1 l hlt dC dI H.size sa h0 n4 h0_maybeLatin1 h0_count) ⟨callB_of 0 hts (gW kC_JQ_isLatin1) rfl rfl rfl (hts _ kI_JQ) (hts _ kM_JQ_83) (by decide +kernel) ⟨Nat.le_of_ble_eq_true rfl, Nat.le_of_ble_eq_true rfl⟩, hts _ kV_JQ_isLatin1, hts _ kS2_JQ_isLatin1⟩ ⟨fun a U g mk z => by obtain ⟨z0, z1, zP, zK, zD, zS⟩ := z; exact ⟨z0, z1, zP, va_K.moved (u := U) (U := U.calling g mk a) (Vm.Alike.refl U.vm) zK, zD, sm.same (u := U) (U := U.calling g mk a) rfl zS⟩, va_recv hKc hPc (ci := 17) (q0 := 0) rfl rfl, fun U hU hW => ⟨rfl, by rw [hU], va_P.he hU.symm hPc, va_K.moved hW.alike hKc, hDc.weaken (fun _ _ _ _ => trivial), hSW.call hS hFc hW hU⟩⟩ rfl rfl hl.1 rfl (lv_room (Nat.le_of_ble_eq_true rfl)) d_JQ_append0_11 ⟨by dsimp only [headSpec]; (first | (apply Int.le_antisymm <;> omega) | omega), by dsimp only [headSpec]; (first | (apply Int.le_antisymm <;> omega) | omega)⟩) hS (fun q _ h => hFc q h) hFc (fun r10 u t H1 locs ht hvm hw hB hz1 hk1 hS => ?_)
  try dsimp only at hw
  obtain ⟨br10, xr10⟩ := hw
  try clear hw
  have tr10 := b01 br10
  obtain ⟨hP1, hK1, hD1⟩ := hB
  replace hP1 := va_P.he ht hP1
  obtain ⟨hP, hD⟩ := va_join (wr := [(n4, .inl (cpb, n7, .inl n3))]) (w1 := [(h0, .inr (17, [.ref n4, .int 0, .int h0_maybeLatin1, .int h0_count]))]) hP hD [0] [1] rfl rfl (by decide) (by decide) hk1 hFc hP1 hD1
  clear hPc hDc hKc hFc hz1 hk1 hP1 hK1 hD1
  rename Heap => H
  have hP : va_P (dC, dI) cls2 (wz_488 n4 cpb n7 n3 h0 n4 0 h0_maybeLatin1 h0_count) H := hP
  have hD : va_D A (wz_488 n4 cpb n7 n3 h0 n4 0 h0_maybeLatin1 h0_count) := hD
  refine lv_if_eq (tgt := 45) hx hb d_JQ_append0_14 (by decide) (fun c14 => absurd (eqI c14) (by (first | (apply Int.le_antisymm <;> omega) | omega))) (fun c14 => ?_)
  have q14 := neI c14
  refine lv_iload_n hx hb d_JQ_append0_17 rfl (lv_at hl 1 rfl) ?_
  have hPc := @vp_nil
  have hDc := hD.sb (wq := []) [] (by decide) rfl
  have hKc := hK.sb (tyq := []) [] rfl
  have hFc := va_free (wc := []) hD hS hA [] rfl
  refine va_calli (va_runS (As := [.int p0]) (rest := []) ⟨hx, hb, hml, hown, hts⟩ (c_JT_canEncode0 l hlt dC dI H.size p0 (by (try dsimp only) <;> (first | (apply Int.le_antisymm <;> omega) | omega))) ⟨callB_of 1 hts (gW kC_JT_canEncode0) rfl rfl rfl (hts _ kI_JT) (hts _ kM_JQ_191) (by decide +kernel) ⟨Nat.le_of_ble_eq_true rfl, Nat.le_of_ble_eq_true rfl⟩, hts _ kT_JT_canEncode0⟩ ⟨fun a U g mk z => by obtain ⟨z0, z1, zP, zK, zD⟩ := z; exact ⟨z0, z1, zP, va_K.moved (u := U) (U := U.calling g mk a) (Vm.Alike.refl U.vm) zK, zD⟩, fun U hU hW => ⟨rfl, by rw [hU], va_P.he hU.symm hPc, va_K.moved hW.alike hKc, hDc.weaken (fun _ _ _ _ => trivial)⟩⟩ rfl rfl hl.1 rfl (lv_room (Nat.le_of_ble_eq_true rfl)) d_JQ_append0_18 ⟨by dsimp only [headSpec]; (first | (apply Int.le_antisymm <;> omega) | omega), by dsimp only [headSpec]; (first | (apply Int.le_antisymm <;> omega) | omega)⟩) hS (fun q _ h => hFc q h) hFc (fun r13 u t H1 locs ht hvm hw hB hz1 hk1 hS => ?_)
  try dsimp only at hw
  obtain ⟨br13, xr13⟩ := hw
  try clear hw
  have tr13 := b01 br13
  obtain ⟨hP1, hK1, hD1⟩ := hB
  replace hP1 := va_P.he ht hP1
  replace hP1 := @vp_nil (dC, dI) cls2 H1
  obtain ⟨hP, hD⟩ := va_join (wr := (wz_488 n4 cpb n7 n3 h0 n4 0 h0_maybeLatin1 h0_count)) (w1 := []) hP hD [] [0, 1] rfl rfl (by decide) (by decide) hk1 hFc hP1 hD1
  clear hPc hDc hKc hFc hz1 hk1 hP1 hK1 hD1
  rename Heap => H
  have hP : va_P (dC, dI) cls2 (wz_488 n4 cpb n7 n3 h0 n4 0 h0_maybeLatin1 h0_count) H := hP
  have hD : va_D A (wz_488 n4 cpb n7 n3 h0 n4 0 h0_maybeLatin1 h0_count) := hD
  refine lv_if_eq (tgt := 45) hx hb d_JQ_append0_21 (by decide) (fun c21 => absurd (eqI c21) (by (first | (apply Int.le_antisymm <;> omega) | omega))) (fun c21 => ?_)
  have q21 := neI c21
  refine lv_aload_n hx hb d_JQ_append0_24 rfl (lv_at hl 0 rfl) ?_
  refine va_get (D := (dC, dI)) (ci := 17) (v := .ref n4) (C := R_JB) (T := F_JB) (N := 4) hx hb hts i_JB hown hK hP 1 rfl rfl 0 (by decide) (hts _ kF_JQ_15) (fun _ h9 => h9) rfl d_JQ_append0_25 ?_
  refine lv_aload_n hx hb d_JQ_append0_28 rfl (lv_at hl 0 rfl) ?_
  refine lv_dup hx hb d_JQ_append0_29 rfl ?_
  refine va_get (D := (dC, dI)) (ci := 17) (v := .int h0_count) (C := R_JB) (T := F_JB) (N := 4) hx hb hts i_JB hown hK hP 1 rfl rfl 3 (by decide) (hts _ kF_JQ_79) (fun _ h9 => h9) rfl d_JQ_append0_30 ?_
  refine lv_dup_x1 hx hb d_JQ_append0_33 rfl rfl ?_
  refine lv_iconst (v := 1) hx hb d_JQ_append0_34 (by decide) ?_
  refine lv_iadd hx hb d_JQ_append0_35 ?_
  refine lv_topi (fun x16 ex16 => ?_)
  have tx16 : x16.toInt = h0_count.toInt + 1 := by have z := i32_add ex16 (by (first | (apply Int.le_antisymm <;> omega) | omega)) (by (first | (apply Int.le_antisymm <;> omega) | omega)); first | exact z | (first | (apply Int.le_antisymm <;> omega) | omega)
  refine va_put (D := (dC, dI)) (ci := 17) (v := .int x16) (ty := .int) (C := R_JB) (T := F_JB) (N := 4) hx hb hts i_JB t_JB t_JB_ok n_JB hown hK hP hD hS 1 rfl rfl 3 (by decide) (hts _ kF_JQ_79) (fun _ h9 => h9) rfl (by decide +kernel) rfl rfl (Nat.le_of_ble_eq_true rfl) d_JQ_append0_36 (fun H locs hP hD hS => ?_)
  refine lv_iload_n hx hb d_JQ_append0_39 rfl (lv_at hl 1 rfl) ?_
  refine lv_i2b hx hb d_JQ_append0_40 rfl ?_
  refine lv_topi (fun x17 ex17 => ?_)
  have g41 : vp_in h0_count n7 := vp_in_iff.mpr ⟨by (first | (apply Int.le_antisymm <;> omega) | omega), by (first | (apply Int.le_antisymm <;> omega) | omega)⟩
  refine va_bast hx hb hK hP hD hS 0 0 rfl rfl g41 d_JQ_append0_41 (fun H locs hP hD hS => ?_)
  generalize ef18 : upd n3 h0_count.toNatClampNeg (vp_nar .byte x17) = f18 at hP hD
  have b_f18 : ∀ j : Nat, -128 ≤ (f18 j).toInt ∧ (f18 j).toInt ≤ 127 := by rw [← ef18]; exact upd_b (bn3) (nar_el _)
  refine lv_goto (tgt := 75) hx hb d_JQ_append0_42 (by decide) ?_
  refine lv_aload_n hx hb d_JQ_append0_75 rfl (lv_at hl 0 rfl) ?_
  have hP9 := hP.sb (wq := (wz_487 h0 n4 0 h0_maybeLatin1 x16 n4 cpb n7 f18)) [1, 0] rfl
  have hD9 := hD.sb (wq := (wz_487 h0 n4 0 h0_maybeLatin1 x16 n4 cpb n7 f18)) [1, 0] (by decide) rfl
  refine w_known (fun hzc hzs => ?_)
  refine W.widen (k := 1) (n := 2 * nva + 2) (by (first | (apply Int.le_antisymm <;> omega) | omega)) (by (first | (apply Int.le_antisymm <;> omega) | omega)) ?_
  exact W.aret (v := .ref h0) hx hb hr (Or.inl ⟨_, rfl⟩) (Or.inr ⟨_, rfl⟩) (fun t ht hW => ⟨⟨(f18, n4, x16, kc8 + 0 + 0, kn9 + 0 + 0, n7), h0, rfl, ⟨b_f18, by (try dsimp only) <;> (first | (apply Int.le_antisymm <;> omega) | omega), ⟨by (first | (apply Int.le_antisymm <;> omega) | omega), by rw [show x16.toNatClampNeg = h0_count.toNatClampNeg + 1 from clampN (by (first | (apply Int.le_antisymm <;> omega) | omega)), sbl_up ef18, sbl_cg (g := gva) (fun j hj => y5 j (by (first | (apply Int.le_antisymm <;> omega) | omega))), vp_nar_byte, ex17, nar2], by (first | (apply Int.le_antisymm <;> omega) | omega)⟩⟩, rfl, va_P.he ht.symm hP9, va_K.moved hW.alike hK, hD9, by rw [ht]; exact hzc, by rw [ht]; exact hzs⟩, hS.F ht⟩) hS.2.2 d_JQ_append0_76
end q_m75
section q_m76
/-! the makers of texts: a text is laid behind -/
abbrev b_JS_getBytes : ByteArray := prog_33_method_147_code
def y_JS_getBytes : MethodName := ⟨R_JS, "getBytes", "([BIB)V"⟩
abbrev w_JS_getBytes : List Cond := .code y_JS_getBytes b_JS_getBytes 4 none :: lw_g
theorem kC_JS_getBytes : Cond.code y_JS_getBytes b_JS_getBytes 4 none ∈ lw_g := in_c10 185 rfl rfl
theorem d_JS_getBytes_0 : decode b_JS_getBytes 0 = .ok (.aload_n 0, 1) := bz_c42 (by decide +kernel)
theorem d_JS_getBytes_1 : decode b_JS_getBytes 1 = .ok (.invokevirtual 335, 3) := bz_c182 (by decide +kernel)
theorem d_JS_getBytes_4 : decode b_JS_getBytes 4 = .ok (.iload_n 3, 1) := bz_c29 (by decide +kernel)
theorem d_JS_getBytes_5 : decode b_JS_getBytes 5 = .ok (.if_icmp .ne 23, 3) := bz_c160 (by decide +kernel)
theorem d_JS_getBytes_8 : decode b_JS_getBytes 8 = .ok (.aload_n 0, 1) := bz_c42 (by decide +kernel)
theorem d_JS_getBytes_9 : decode b_JS_getBytes 9 = .ok (.getfield 9, 3) := bz_c180 (by decide +kernel)
theorem d_JS_getBytes_12 : decode b_JS_getBytes 12 = .ok (.iconst 0, 1) := bz_c3 (by decide +kernel)
theorem d_JS_getBytes_13 : decode b_JS_getBytes 13 = .ok (.aload_n 1, 1) := bz_c43 (by decide +kernel)
theorem d_JS_getBytes_14 : decode b_JS_getBytes 14 = .ok (.iload_n 2, 1) := bz_c28 (by decide +kernel)
theorem d_JS_getBytes_15 : decode b_JS_getBytes 15 = .ok (.iload_n 3, 1) := bz_c29 (by decide +kernel)
theorem d_JS_getBytes_16 : decode b_JS_getBytes 16 = .ok (.ishl, 1) := by decide +kernel
theorem d_JS_getBytes_17 : decode b_JS_getBytes 17 = .ok (.aload_n 0, 1) := bz_c42 (by decide +kernel)
theorem d_JS_getBytes_18 : decode b_JS_getBytes 18 = .ok (.getfield 9, 3) := bz_c180 (by decide +kernel)
theorem d_JS_getBytes_21 : decode b_JS_getBytes 21 = .ok (.arraylength, 1) := bz_c190 (by decide +kernel)
theorem d_JS_getBytes_22 : decode b_JS_getBytes 22 = .ok (.invokestatic 212, 3) := bz_c184 (by decide +kernel)
theorem d_JS_getBytes_25 : decode b_JS_getBytes 25 = .ok (.goto 18, 3) := bz_c167 (by decide +kernel)
theorem d_JS_getBytes_28 : decode b_JS_getBytes 28 = .ok (.aload_n 0, 1) := bz_c42 (by decide +kernel)
theorem d_JS_getBytes_29 : decode b_JS_getBytes 29 = .ok (.getfield 9, 3) := bz_c180 (by decide +kernel)
theorem d_JS_getBytes_32 : decode b_JS_getBytes 32 = .ok (.iconst 0, 1) := bz_c3 (by decide +kernel)
theorem d_JS_getBytes_33 : decode b_JS_getBytes 33 = .ok (.aload_n 1, 1) := bz_c43 (by decide +kernel)
theorem d_JS_getBytes_34 : decode b_JS_getBytes 34 = .ok (.iload_n 2, 1) := bz_c28 (by decide +kernel)
theorem d_JS_getBytes_35 : decode b_JS_getBytes 35 = .ok (.aload_n 0, 1) := bz_c42 (by decide +kernel)
theorem d_JS_getBytes_36 : decode b_JS_getBytes 36 = .ok (.getfield 9, 3) := bz_c180 (by decide +kernel)
theorem d_JS_getBytes_39 : decode b_JS_getBytes 39 = .ok (.arraylength, 1) := bz_c190 (by decide +kernel)
theorem d_JS_getBytes_40 : decode b_JS_getBytes 40 = .ok (.invokestatic 106, 3) := bz_c184 (by decide +kernel)
theorem d_JS_getBytes_43 : decode b_JS_getBytes 43 = .ok (.return_, 1) := bz_c177 (by decide +kernel)
abbrev b_JT_inflate : ByteArray := prog_35_method_50_code
def y_JT_inflate : MethodName := ⟨R_JT, "inflate", "([BI[BII)V"⟩
abbrev w_JT_inflate : List Cond := .code y_JT_inflate b_JT_inflate 5 none :: lw_g
theorem kC_JT_inflate : Cond.code y_JT_inflate b_JT_inflate 5 none ∈ lw_g := in_c10 65 rfl rfl
theorem kM_JS_106 : Cond.methodLink R_JS 106 y_JT_inflate ∈ lw_g := in_c10 187 rfl rfl
theorem kT_JT_inflate : Cond.static y_JT_inflate ∈ lw_g := in_c10 64 rfl rfl
theorem kM_JS_212 : Cond.methodLink R_JS 212 arraycopyName ∈ lw_g := in_c10 186 rfl rfl
abbrev at_JS_getBytes (dC : Nat → ClassId) (dI : Nat → Nat → Nat) (sa : Nat → Nat) (va : Nat) (cpb : ClassId) (nva : Nat) (A : Nat → Prop) (u : (Nat → Int32)) (t : State) : Prop := match u with | gva => va_P (dC, dI) cls2 [(va, .inl (cpb, nva, .inl gva))] t.heap ∧ va_K (dC, dI) cls2 [(cpb, .byte)] t ∧ va_D A [(va, .inl (cpb, nva, .inl gva))]
set_option maxHeartbeats 4000000 in
set_option maxRecDepth 100000 in
theorem c_JS_getBytes (l : Launch) (hlt : l.stackTraces = false) (dC : Nat → ClassId) (dI : Nat → Nat → Nat) (sz : Nat) (sa : Nat → Nat) (tx tv : Nat) (b : List Int32) (va : Nat) (cpb : ClassId) (nva : Nat) (gva : Nat → Int32)  (b_gva : ∀ j : Nat, -128 ≤ (gva j).toInt ∧ (gva j).toInt ≤ 127) (p1 : Int32) (p2 : Int32)  (hp : 0 ≤ p1.toInt ∧ p1.toInt + (b.length : Int) ≤ (nva : Int) ∧ p1.toInt ≤ 1000000) (hp2 : p2 = 0) (hbb : ∀ j : Nat, -128 ≤ (b.getD j 0).toInt ∧ (b.getD j 0).toInt ≤ 127) (hbl : (b.length : Int) ≤ 100000) : Met l y_JS_getBytes w_JS_getBytes ({ frames := 1, cells := 0, slots := 0, locals := 40 }) (va_Pc [.ref tx, .ref va, .int p1, .int p2] (fun U => U.heap.size = sz ∧ va_P (dC, dI) cls2 [(va, .inl (cpb, nva, .inl gva))] U.heap ∧ va_K (dC, dI) cls2 [(cpb, .byte)] U ∧ va_D (fun _ => True) [(va, .inl (cpb, nva, .inl gva))] ∧ sm sa (va_A [(va, .inl (cpb, nva, .inl gva))] sz) U U.heap ∧ sw_str tx tv b (va_A [(va, .inl (cpb, nva, .inl gva))] sz) U U.heap)) (va_Qv (fun (u : (Nat → Int32)) => match u with | gva2 => (∀ j : Nat, -128 ≤ (gva2 j).toInt ∧ (gva2 j).toInt ≤ 127) ∧ ((∀ j : Nat, (j : Int) < p1.toInt → gva2 j = gva j) ∧ ∀ j : Nat, j < b.length → gva2 (p1.toNatClampNeg + j) = b.getD j 0)) (at_JS_getBytes dC dI sa va cpb nva (va_A [(va, .inl (cpb, nva, .inl gva))] sz)) (va_A [(va, .inl (cpb, nva, .inl gva))] sz)) 0 0 (va_A [(va, .inl (cpb, nva, .inl gva))] sz) := by
  refine Met.ofW (cc := b_JS_getBytes) (maxL := 4) (ret := none) (by decide) rfl ?_
  intro p e s m args below meth c s₁ B hml hv
  obtain ⟨rfl, hsz, hP, hK, hD0, hSW, hR0⟩ := hv
  have hx := B.exec
  have hb := B.bytes
  have hr := B.returns
  have hts0 := atoms_spec (ws := w_JS_getBytes) B.pre
  have hts : ∀ w ∈ lw_g, w.before _ s = true := fun w h => hts0 w (List.mem_cons_of_mem _ h)
  have hown : s.vm.findClass R_JS = some m.cls := findClass_of_methodNamed B.named
  have hlocks := B.notSynchronized
  clear hts0
  subst hsz
  have hD := hD0.self (sz := s.heap.size)
  generalize hAe : va_A [(va, .inl (cpb, nva, .inl gva))] s.heap.size = A at hD hSW hR0 ⊢
  have hA : ∀ q : Nat, s.heap.size ≤ q → A q := fun q h => by rw [← hAe]; exact Or.inr h
  clear hAe
  have hP : va_P (dC, dI) cls2 [(va, .inl (cpb, nva, .inl gva))] s.heap := hP
  have hl := lv_entry ([.ref tx, .ref va, .int p1, .int p2]) (n := 4) (Nat.le_of_ble_eq_true rfl)
  rw [lg_entry_eq]
  generalize (lg_sl ([.ref tx, .ref va, .int p1, .int p2]) ++ List.replicate (4 - (lg_sl ([.ref tx, .ref va, .int p1, .int p2])).length) Slot.unset).toArray = ls at hl ⊢
  have hl : lv_has ls 4 [(0, .ref tx), (1, .ref va), (2, .int p1), (3, .int p2)] := hl
  have k0 : (0 : Int32).toInt = 0 := by decide
  refine w_gen (A := A) hP (fun H locs hP hS => ?_)
  have lo_p1 := i32_lo p1
  have hi_p1 := i32_hi p1
  have lo_p2 := i32_lo p2
  have hi_p2 := i32_hi p2
  have hp3 : p2.toInt = 0 := by rw [hp2]; decide
  refine lv_aload_n hx hb d_JS_getBytes_0 rfl (lv_at hl 0 rfl) ?_
  have hPc := @vp_nil
  have hDc := hD.sb (wq := []) [] (by decide) rfl
  have hKc := (k2_of hK).sb (tyq := []) [] rfl
  have hFc := va_free (wc := []) hD hS hA [] rfl
  refine va_calli (va_runV (As := []) (rest := []) ⟨hx, hb, hml, hown, hts⟩ (c_JS_coder l dC dI H.size sa tx tv b ) (cwV 0 hts (gV kM_JS_335 kV_JS_coder kS_JS_coder kI_JS kC_JS_coder) rfl rfl rfl (by decide +kernel) ⟨Nat.le_of_ble_eq_true rfl, Nat.le_of_ble_eq_true rfl⟩) ⟨fun a U g mk z => by obtain ⟨z0, z1, zP, zK, zD, zS, zR0⟩ := z; exact ⟨z0, z1, zP, va_K.moved (u := U) (U := U.calling g mk a) (Vm.Alike.refl U.vm) zK, zD, sw.same (u := U) (U := U.calling g mk a) rfl zS, zR0.moved (u := U) (U := U.calling g mk a) (Vm.Alike.refl U.vm)⟩, so_recv (hR0.1) hS, fun U hU hW => ⟨rfl, by rw [hU], va_P.he hU.symm hPc, va_K.moved hW.alike hKc, hDc.weaken (fun _ _ _ _ => trivial), hSW.1.call hS hFc hW hU, (hR0).call hS hFc hW hU⟩⟩ rfl rfl hl.1 rfl (lv_room (Nat.le_of_ble_eq_true rfl)) d_JS_getBytes_1 ⟨(Nat.zero_le _), (Nat.zero_le _)⟩) hS (fun q _ h => hFc q h) hFc (fun r1 u t H1 locs ht hvm hw hB hz1 hk1 hS => ?_)
  try dsimp only at hw
  have xr1 := hw
  try clear hw
  have tr1 : r1.toInt = 0 := by rw [xr1]; decide
  obtain ⟨hP1, hK1, hD1⟩ := hB
  replace hP1 := va_P.he ht hP1
  replace hP1 := @vp_nil (dC, dI) cls2 H1
  obtain ⟨hP, hD⟩ := va_join (wr := [(va, .inl (cpb, nva, .inl gva))]) (w1 := []) hP hD [] [0] rfl rfl (by decide) (by decide) hk1 hFc hP1 hD1
  clear hPc hDc hKc hFc hz1 hk1 hP1 hK1 hD1
  rename Heap => H
  have hP : va_P (dC, dI) cls2 [(va, .inl (cpb, nva, .inl gva))] H := hP
  have hD : va_D A [(va, .inl (cpb, nva, .inl gva))] := hD
  refine lv_iload_n hx hb d_JS_getBytes_4 rfl (lv_at hl 3 rfl) ?_
  refine lv_icmp_ne (tgt := 28) hx hb d_JS_getBytes_5 (by decide) (fun c5 => absurd (neI c5) (by (first | (apply Int.le_antisymm <;> omega) | omega))) (fun c5 => ?_)
  have q5 := eqI c5
  refine lv_aload_n hx hb d_JS_getBytes_8 rfl (lv_at hl 0 rfl) ?_
  refine vk_getf (v := .ref tv) hx hb (hR0.2.2.1) hS hown (hts _ kF_JS_9) (fun _ h9 => h9) d_JS_getBytes_9 ?_
  refine lv_iconst (v := 0) hx hb d_JS_getBytes_12 (by decide) ?_
  refine lv_aload_n hx hb d_JS_getBytes_13 rfl (lv_at hl 1 rfl) ?_
  refine lv_iload_n hx hb d_JS_getBytes_14 rfl (lv_at hl 2 rfl) ?_
  refine lv_iload_n hx hb d_JS_getBytes_15 rfl (lv_at hl 3 rfl) ?_
  refine lv_ishl hx hb d_JS_getBytes_16 ?_
  refine lv_topi (fun x2 ex2 => ?_)
  have tx2 := sh0p hp2 ex2
  refine lv_aload_n hx hb d_JS_getBytes_17 rfl (lv_at hl 0 rfl) ?_
  refine vk_getf (v := .ref tv) hx hb (hR0.2.2.1) hS hown (hts _ kF_JS_9) (fun _ h9 => h9) d_JS_getBytes_18 ?_
  refine va_tlen hx hb (hR0.2.2.2) hS rfl d_JS_getBytes_21 ?_
  refine lv_topi (fun x3 ex3 => ?_)
  have tx3 : x3.toInt = b.length := by rw [ex3]; exact i32_len (by (first | (apply Int.le_antisymm <;> omega) | omega))
  have z9x2 := i32_clamp (x := x2) (by (first | (apply Int.le_antisymm <;> omega) | omega))
  have z9x3 := i32_clamp (x := x3) (by (first | (apply Int.le_antisymm <;> omega) | omega))
  have k00 : (0 : Int32).toNatClampNeg = 0 := rfl
  refine vk_copyt (f := (fun j => b.getD j 0)) hx hb (hml.trans hl.1.symm) hown (hts _ kM_JS_212) (hts _ kNA_ac) (hts _ kT_ac) (hts _ kI_sys) hK hP hD hS (hR0.2.2.2) 0 0 rfl rfl (by decide) (nneg9 (by (first | (apply Int.le_antisymm <;> omega) | omega))) (nneg9 (by (first | (apply Int.le_antisymm <;> omega) | omega))) (by (first | (apply Int.le_antisymm <;> omega) | omega)) (by (first | (apply Int.le_antisymm <;> omega) | omega)) (fun i9 _ => fits_b (hbb _)) (Nat.le_of_ble_eq_true rfl) (Nat.le_of_ble_eq_true rfl) d_JS_getBytes_22 (fun H locs hP hD hS => ?_)
  have hP : va_P (dC, dI) cls2 [(va, .inl (cpb, nva, .inl ((va_cpy (fun j => b.getD j 0) gva (0 : Int32).toNatClampNeg x2.toNatClampNeg x3.toNatClampNeg))))] H := hP
  have hD : va_D A [(va, .inl (cpb, nva, .inl ((va_cpy (fun j => b.getD j 0) gva (0 : Int32).toNatClampNeg x2.toNatClampNeg x3.toNatClampNeg))))] := hD
  generalize ef4 : va_cpy (fun j => b.getD j 0) gva (0 : Int32).toNatClampNeg x2.toNatClampNeg x3.toNatClampNeg = f4 at hP hD
  have b_f4 : ∀ j : Nat, -128 ≤ (f4 j).toInt ∧ (f4 j).toInt ≤ 127 := by rw [← ef4]; exact cpy_el (fun j => hbb j) (b_gva)
  refine lv_goto (tgt := 43) hx hb d_JS_getBytes_25 (by decide) ?_
  have hP9 := hP.sb (wq := [(va, .inl (cpb, nva, .inl f4))]) [0] rfl
  have hD9 := hD.sb (wq := [(va, .inl (cpb, nva, .inl f4))]) [0] (by decide) rfl
  exact W.vret hx hb hr (fun t ht hW => ⟨⟨f4, rfl, ⟨b_f4, ⟨fun j hj => by rw [← ef4]; exact cpy2.1 (by (first | (apply Int.le_antisymm <;> omega) | omega)), fun j hj => by rw [← ef4, show p1.toNatClampNeg = x2.toNatClampNeg from by have z1 := i32_clamp (x := p1) (by (first | (apply Int.le_antisymm <;> omega) | omega)); (first | (apply Int.le_antisymm <;> omega) | omega)]; exact cpy2.2 (by (first | (apply Int.le_antisymm <;> omega) | omega))⟩⟩, va_P.he ht.symm hP9, va_K.moved hW.alike hK, hD9⟩, hS.F ht⟩) hS.2.2 d_JS_getBytes_43
abbrev b_JQ_inflateIfNeededFor : ByteArray := prog_20_method_71_code
def y_JQ_inflateIfNeededFor : MethodName := ⟨R_JQ, "inflateIfNeededFor", "(Ljava/lang/String;)V"⟩
abbrev w_JQ_inflateIfNeededFor : List Cond := .code y_JQ_inflateIfNeededFor b_JQ_inflateIfNeededFor 2 none :: lw_g
theorem kC_JQ_inflateIfNeededFor : Cond.code y_JQ_inflateIfNeededFor b_JQ_inflateIfNeededFor 2 none ∈ lw_g := in_c10 180 rfl rfl
theorem d_JQ_inflateIfNeededFor_0 : decode b_JQ_inflateIfNeededFor 0 = .ok (.getstatic 18, 3) := bz_c178 (by decide +kernel)
theorem d_JQ_inflateIfNeededFor_3 : decode b_JQ_inflateIfNeededFor 3 = .ok (.ifCond .eq 18, 3) := bz_c153 (by decide +kernel)
theorem d_JQ_inflateIfNeededFor_6 : decode b_JQ_inflateIfNeededFor 6 = .ok (.aload_n 0, 1) := bz_c42 (by decide +kernel)
theorem d_JQ_inflateIfNeededFor_7 : decode b_JQ_inflateIfNeededFor 7 = .ok (.getfield 22, 3) := bz_c180 (by decide +kernel)
theorem d_JQ_inflateIfNeededFor_10 : decode b_JQ_inflateIfNeededFor 10 = .ok (.aload_n 1, 1) := bz_c43 (by decide +kernel)
theorem d_JQ_inflateIfNeededFor_11 : decode b_JQ_inflateIfNeededFor 11 = .ok (.invokevirtual 40, 3) := bz_c182 (by decide +kernel)
theorem d_JQ_inflateIfNeededFor_14 : decode b_JQ_inflateIfNeededFor 14 = .ok (.if_icmp .eq 7, 3) := bz_c159 (by decide +kernel)
theorem d_JQ_inflateIfNeededFor_17 : decode b_JQ_inflateIfNeededFor 17 = .ok (.aload_n 0, 1) := bz_c42 (by decide +kernel)
theorem d_JQ_inflateIfNeededFor_18 : decode b_JQ_inflateIfNeededFor 18 = .ok (.invokevirtual 195, 3) := bz_c182 (by decide +kernel)
theorem d_JQ_inflateIfNeededFor_21 : decode b_JQ_inflateIfNeededFor 21 = .ok (.return_, 1) := bz_c177 (by decide +kernel)
theorem kM_JQ_40 : Cond.methodLink R_JQ 40 y_JS_coder ∈ lw_g := in_c10 181 rfl rfl
abbrev at_JQ_inflateIfNeededFor (dC : Nat → ClassId) (dI : Nat → Nat → Nat) (sa : Nat → Nat) (h0 va : Nat) (h0_maybeLatin1 : Int32) (h0_count : Int32) (A : Nat → Prop) (u : Unit) (t : State) : Prop := match u with | _ => va_P (dC, dI) cls2 [(h0, .inr (17, [.ref va, .int 0, .int h0_maybeLatin1, .int h0_count]))] t.heap ∧ va_K (dC, dI) cls2 [] t ∧ va_D A [(h0, .inr (17, [.ref va, .int 0, .int h0_maybeLatin1, .int h0_count]))]
set_option maxHeartbeats 4000000 in
set_option maxRecDepth 100000 in
theorem c_JQ_inflateIfNeededFor (l : Launch) (hlt : l.stackTraces = false) (dC : Nat → ClassId) (dI : Nat → Nat → Nat) (sz : Nat) (sa : Nat → Nat) (tx tv : Nat) (b : List Int32) (h0 va : Nat) (h0_maybeLatin1 : Int32) (h0_count : Int32)      : Met l y_JQ_inflateIfNeededFor w_JQ_inflateIfNeededFor ({ frames := 1, cells := 0, slots := 0, locals := 20 }) (va_Pc [.ref h0, .ref tx] (fun U => U.heap.size = sz ∧ va_P (dC, dI) cls2 [(h0, .inr (17, [.ref va, .int 0, .int h0_maybeLatin1, .int h0_count]))] U.heap ∧ va_K (dC, dI) cls2 [] U ∧ va_D (fun _ => True) [(h0, .inr (17, [.ref va, .int 0, .int h0_maybeLatin1, .int h0_count]))] ∧ sm sa (va_A [(h0, .inr (17, [.ref va, .int 0, .int h0_maybeLatin1, .int h0_count]))] sz) U U.heap ∧ sw_str tx tv b (va_A [(h0, .inr (17, [.ref va, .int 0, .int h0_maybeLatin1, .int h0_count]))] sz) U U.heap)) (va_Qv (fun (u : Unit) => match u with | _ => True) (at_JQ_inflateIfNeededFor dC dI sa h0 va h0_maybeLatin1 h0_count (va_A [(h0, .inr (17, [.ref va, .int 0, .int h0_maybeLatin1, .int h0_count]))] sz)) (va_A [(h0, .inr (17, [.ref va, .int 0, .int h0_maybeLatin1, .int h0_count]))] sz)) 0 0 (va_A [(h0, .inr (17, [.ref va, .int 0, .int h0_maybeLatin1, .int h0_count]))] sz) := by
  refine Met.ofW (cc := b_JQ_inflateIfNeededFor) (maxL := 2) (ret := none) (by decide) rfl ?_
  intro p e s m args below meth c s₁ B hml hv
  obtain ⟨rfl, hsz, hP, hK, hD0, hSW, hR0⟩ := hv
  have hx := B.exec
  have hb := B.bytes
  have hr := B.returns
  have hts0 := atoms_spec (ws := w_JQ_inflateIfNeededFor) B.pre
  have hts : ∀ w ∈ lw_g, w.before _ s = true := fun w h => hts0 w (List.mem_cons_of_mem _ h)
  have hown : s.vm.findClass R_JQ = some m.cls := findClass_of_methodNamed B.named
  have hlocks := B.notSynchronized
  clear hts0
  subst hsz
  have hD := hD0.self (sz := s.heap.size)
  generalize hAe : va_A [(h0, .inr (17, [.ref va, .int 0, .int h0_maybeLatin1, .int h0_count]))] s.heap.size = A at hD hSW hR0 ⊢
  have hA : ∀ q : Nat, s.heap.size ≤ q → A q := fun q h => by rw [← hAe]; exact Or.inr h
  clear hAe
  have hP : va_P (dC, dI) cls2 [(h0, .inr (17, [.ref va, .int 0, .int h0_maybeLatin1, .int h0_count]))] s.heap := hP
  have hl := lv_entry ([.ref h0, .ref tx]) (n := 2) (Nat.le_of_ble_eq_true rfl)
  rw [lg_entry_eq]
  generalize (lg_sl ([.ref h0, .ref tx]) ++ List.replicate (2 - (lg_sl ([.ref h0, .ref tx])).length) Slot.unset).toArray = ls at hl ⊢
  have hl : lv_has ls 2 [(0, .ref h0), (1, .ref tx)] := hl
  have k0 : (0 : Int32).toInt = 0 := by decide
  refine w_gen (A := A) hP (fun H locs hP hS => ?_)
  refine va_gets (C := "java/lang/String") (n := "COMPACT_STRINGS") (d := "Z") (v := .int 1) hx hb hSW.1.2.2.2.2.2.2.2.2.2.2.2.1 hS hown (hts _ kF_JQ_18) (fun _ h9 => h9) d_JQ_inflateIfNeededFor_0 ?_
  have k19 : (1 : Int32).toInt = 1 := by decide
  refine lv_if_eq (tgt := 21) hx hb d_JQ_inflateIfNeededFor_3 (by decide) (fun c3 => absurd (eqI c3) (by (first | (apply Int.le_antisymm <;> omega) | omega))) (fun c3 => ?_)
  have q3 := neI c3
  refine lv_aload_n hx hb d_JQ_inflateIfNeededFor_6 rfl (lv_at hl 0 rfl) ?_
  refine va_get (D := (dC, dI)) (ci := 17) (v := .int 0) (C := R_JB) (T := F_JB) (N := 4) hx hb hts i_JB hown hK hP 0 rfl rfl 1 (by decide) (hts _ kF_JQ_22) (fun _ h9 => h9) rfl d_JQ_inflateIfNeededFor_7 ?_
  refine lv_aload_n hx hb d_JQ_inflateIfNeededFor_10 rfl (lv_at hl 1 rfl) ?_
  have hPc := @vp_nil
  have hDc := hD.sb (wq := []) [] (by decide) rfl
  have hKc := (k2_of hK).sb (tyq := []) [] rfl
  have hFc := va_free (wc := []) hD hS hA [] rfl
  refine va_calli (va_runV (As := []) (rest := [.int 0]) ⟨hx, hb, hml, hown, hts⟩ (c_JS_coder l dC dI H.size sa tx tv b ) (cwV 0 hts (gV kM_JQ_40 kV_JS_coder kS_JS_coder kI_JS kC_JS_coder) rfl rfl rfl (by decide +kernel) ⟨Nat.le_of_ble_eq_true rfl, Nat.le_of_ble_eq_true rfl⟩) ⟨fun a U g mk z => by obtain ⟨z0, z1, zP, zK, zD, zS, zR0⟩ := z; exact ⟨z0, z1, zP, va_K.moved (u := U) (U := U.calling g mk a) (Vm.Alike.refl U.vm) zK, zD, sw.same (u := U) (U := U.calling g mk a) rfl zS, zR0.moved (u := U) (U := U.calling g mk a) (Vm.Alike.refl U.vm)⟩, so_recv (hR0.1) hS, fun U hU hW => ⟨rfl, by rw [hU], va_P.he hU.symm hPc, va_K.moved hW.alike hKc, hDc.weaken (fun _ _ _ _ => trivial), hSW.1.call hS hFc hW hU, (hR0).call hS hFc hW hU⟩⟩ rfl rfl hl.1 rfl (lv_room (Nat.le_of_ble_eq_true rfl)) d_JQ_inflateIfNeededFor_11 ⟨(Nat.zero_le _), (Nat.zero_le _)⟩) hS (fun q _ h => hFc q h) hFc (fun r1 u t H1 locs ht hvm hw hB hz1 hk1 hS => ?_)
  try dsimp only at hw
  have xr1 := hw
  try clear hw
  have tr1 : r1.toInt = 0 := by rw [xr1]; decide
  obtain ⟨hP1, hK1, hD1⟩ := hB
  replace hP1 := va_P.he ht hP1
  replace hP1 := @vp_nil (dC, dI) cls2 H1
  obtain ⟨hP, hD⟩ := va_join (wr := [(h0, .inr (17, [.ref va, .int 0, .int h0_maybeLatin1, .int h0_count]))]) (w1 := []) hP hD [] [0] rfl rfl (by decide) (by decide) hk1 hFc hP1 hD1
  clear hPc hDc hKc hFc hz1 hk1 hP1 hK1 hD1
  rename Heap => H
  have hP : va_P (dC, dI) cls2 [(h0, .inr (17, [.ref va, .int 0, .int h0_maybeLatin1, .int h0_count]))] H := hP
  have hD : va_D A [(h0, .inr (17, [.ref va, .int 0, .int h0_maybeLatin1, .int h0_count]))] := hD
  refine lv_icmp_eq (tgt := 21) hx hb d_JQ_inflateIfNeededFor_14 (by decide) (fun c14 => ?_) (fun c14 => absurd (neI c14) (by (first | (apply Int.le_antisymm <;> omega) | omega)))
  have q14 := eqI c14
  have hP9 := hP.sb (wq := [(h0, .inr (17, [.ref va, .int 0, .int h0_maybeLatin1, .int h0_count]))]) [0] rfl
  have hD9 := hD.sb (wq := [(h0, .inr (17, [.ref va, .int 0, .int h0_maybeLatin1, .int h0_count]))]) [0] (by decide) rfl
  exact W.vret hx hb hr (fun t ht hW => ⟨⟨(), rfl, ⟨⟩, va_P.he ht.symm hP9, va_K.moved hW.alike hK, hD9⟩, hS.F ht⟩) hS.2.2 d_JQ_inflateIfNeededFor_21
abbrev b_JQ_putStringAt : ByteArray := prog_20_method_73_code
def y_JQ_putStringAt : MethodName := ⟨R_JQ, "putStringAt", "(ILjava/lang/String;)V"⟩
abbrev w_JQ_putStringAt : List Cond := .code y_JQ_putStringAt b_JQ_putStringAt 3 none :: lw_g
theorem kC_JQ_putStringAt : Cond.code y_JQ_putStringAt b_JQ_putStringAt 3 none ∈ lw_g := in_c10 176 rfl rfl
theorem d_JQ_putStringAt_0 : decode b_JQ_putStringAt 0 = .ok (.aload_n 0, 1) := bz_c42 (by decide +kernel)
theorem d_JQ_putStringAt_1 : decode b_JQ_putStringAt 1 = .ok (.aload_n 2, 1) := bz_c44 (by decide +kernel)
theorem d_JQ_putStringAt_2 : decode b_JQ_putStringAt 2 = .ok (.invokevirtual 397, 3) := bz_c182 (by decide +kernel)
theorem d_JQ_putStringAt_5 : decode b_JQ_putStringAt 5 = .ok (.aload_n 2, 1) := bz_c44 (by decide +kernel)
theorem d_JQ_putStringAt_6 : decode b_JQ_putStringAt 6 = .ok (.aload_n 0, 1) := bz_c42 (by decide +kernel)
theorem d_JQ_putStringAt_7 : decode b_JQ_putStringAt 7 = .ok (.getfield 15, 3) := bz_c180 (by decide +kernel)
theorem d_JQ_putStringAt_10 : decode b_JQ_putStringAt 10 = .ok (.iload_n 1, 1) := bz_c27 (by decide +kernel)
theorem d_JQ_putStringAt_11 : decode b_JQ_putStringAt 11 = .ok (.aload_n 0, 1) := bz_c42 (by decide +kernel)
theorem d_JQ_putStringAt_12 : decode b_JQ_putStringAt 12 = .ok (.getfield 22, 3) := bz_c180 (by decide +kernel)
theorem d_JQ_putStringAt_15 : decode b_JQ_putStringAt 15 = .ok (.invokevirtual 399, 3) := bz_c182 (by decide +kernel)
theorem d_JQ_putStringAt_18 : decode b_JQ_putStringAt 18 = .ok (.return_, 1) := bz_c177 (by decide +kernel)
theorem kM_JQ_397 : Cond.methodLink R_JQ 397 y_JQ_inflateIfNeededFor ∈ lw_g := in_c10 177 rfl rfl
theorem kV_JQ_inflateIfNeededFor : Cond.instanceMethod y_JQ_inflateIfNeededFor ∈ lw_g := in_c10 179 rfl rfl
theorem kM_JQ_399 : Cond.methodLink R_JQ 399 y_JS_getBytes ∈ lw_g := in_c10 182 rfl rfl
theorem kV_JS_getBytes : Cond.instanceMethod y_JS_getBytes ∈ lw_g := in_c10 183 rfl rfl
theorem kS_JS_getBytes : Cond.selects R_JS y_JS_getBytes y_JS_getBytes ∈ lw_g := in_c10 184 rfl rfl
theorem kSM_JQ_inflateIfNeededFor : Cond.sameMethod R_JQ R_JQ "inflateIfNeededFor" "(Ljava/lang/String;)V" ∈ lw_g := in_c13 229 rfl rfl
abbrev at_JQ_putStringAt (dC : Nat → ClassId) (dI : Nat → Nat → Nat) (sa : Nat → Nat) (h0 va : Nat) (cpb : ClassId) (h0_maybeLatin1 : Int32) (h0_count : Int32) (nva : Nat) (A : Nat → Prop) (u : (Nat → Int32)) (t : State) : Prop := match u with | gva => va_P (dC, dI) cls2 (wz_487 h0 va 0 h0_maybeLatin1 h0_count va cpb nva gva) t.heap ∧ va_K (dC, dI) cls2 [(cpb, .byte)] t ∧ va_D A (wz_487 h0 va 0 h0_maybeLatin1 h0_count va cpb nva gva)
set_option maxHeartbeats 4000000 in
set_option maxRecDepth 100000 in
theorem c_JQ_putStringAt (l : Launch) (hlt : l.stackTraces = false) (dC : Nat → ClassId) (dI : Nat → Nat → Nat) (sz : Nat) (sa : Nat → Nat) (tx tv : Nat) (b : List Int32) (h0 va : Nat) (cpb : ClassId) (h0_maybeLatin1 : Int32) (h0_count : Int32) (nva : Nat) (gva : Nat → Int32)  (b_gva : ∀ j : Nat, -128 ≤ (gva j).toInt ∧ (gva j).toInt ≤ 127) (p1 : Int32)  (hp : 0 ≤ p1.toInt ∧ p1.toInt + (b.length : Int) ≤ (nva : Int) ∧ p1.toInt ≤ 1000000) (hbb : ∀ j : Nat, -128 ≤ (b.getD j 0).toInt ∧ (b.getD j 0).toInt ≤ 127) (hbl : (b.length : Int) ≤ 100000) : Met l y_JQ_putStringAt w_JQ_putStringAt ({ frames := 2, cells := 0, slots := 0, locals := 63 }) (va_Pc [.ref h0, .int p1, .ref tx] (fun U => U.heap.size = sz ∧ va_P (dC, dI) cls2 (wz_487 h0 va 0 h0_maybeLatin1 h0_count va cpb nva gva) U.heap ∧ va_K (dC, dI) cls2 [(cpb, .byte)] U ∧ va_D (fun _ => True) (wz_487 h0 va 0 h0_maybeLatin1 h0_count va cpb nva gva) ∧ sm sa (va_A (wz_487 h0 va 0 h0_maybeLatin1 h0_count va cpb nva gva) sz) U U.heap ∧ sw_str tx tv b (va_A (wz_487 h0 va 0 h0_maybeLatin1 h0_count va cpb nva gva) sz) U U.heap)) (va_Qv (fun (u : (Nat → Int32)) => match u with | gva2 => (∀ j : Nat, -128 ≤ (gva2 j).toInt ∧ (gva2 j).toInt ≤ 127) ∧ ((∀ j : Nat, (j : Int) < p1.toInt → gva2 j = gva j) ∧ ∀ j : Nat, j < b.length → gva2 (p1.toNatClampNeg + j) = b.getD j 0)) (at_JQ_putStringAt dC dI sa h0 va cpb h0_maybeLatin1 h0_count nva (va_A (wz_487 h0 va 0 h0_maybeLatin1 h0_count va cpb nva gva) sz)) (va_A (wz_487 h0 va 0 h0_maybeLatin1 h0_count va cpb nva gva) sz)) 0 0 (va_A (wz_487 h0 va 0 h0_maybeLatin1 h0_count va cpb nva gva) sz) := by
  refine Met.ofW (cc := b_JQ_putStringAt) (maxL := 3) (ret := none) (by decide) rfl ?_
  intro p e s m args below meth c s₁ B hml hv
  obtain ⟨rfl, hsz, hP, hK, hD0, hSW, hR0⟩ := hv
  have hx := B.exec
  have hb := B.bytes
  have hr := B.returns
  have hts0 := atoms_spec (ws := w_JQ_putStringAt) B.pre
  have hts : ∀ w ∈ lw_g, w.before _ s = true := fun w h => hts0 w (List.mem_cons_of_mem _ h)
  have hown : s.vm.findClass R_JQ = some m.cls := findClass_of_methodNamed B.named
  have hlocks := B.notSynchronized
  clear hts0
  subst hsz
  have hD := hD0.self (sz := s.heap.size)
  generalize hAe : va_A (wz_487 h0 va 0 h0_maybeLatin1 h0_count va cpb nva gva) s.heap.size = A at hD hSW hR0 ⊢
  have hA : ∀ q : Nat, s.heap.size ≤ q → A q := fun q h => by rw [← hAe]; exact Or.inr h
  clear hAe
  have hP : va_P (dC, dI) cls2 (wz_487 h0 va 0 h0_maybeLatin1 h0_count va cpb nva gva) s.heap := hP
  have hl := lv_entry ([.ref h0, .int p1, .ref tx]) (n := 3) (Nat.le_of_ble_eq_true rfl)
  rw [lg_entry_eq]
  generalize (lg_sl ([.ref h0, .int p1, .ref tx]) ++ List.replicate (3 - (lg_sl ([.ref h0, .int p1, .ref tx])).length) Slot.unset).toArray = ls at hl ⊢
  have hl : lv_has ls 3 [(0, .ref h0), (1, .int p1), (2, .ref tx)] := hl
  have k0 : (0 : Int32).toInt = 0 := by decide
  refine w_gen (A := A) hP (fun H locs hP hS => ?_)
  have lo_p1 := i32_lo p1
  have hi_p1 := i32_hi p1
  refine lv_aload_n hx hb d_JQ_putStringAt_0 rfl (lv_at hl 0 rfl) ?_
  refine lv_aload_n hx hb d_JQ_putStringAt_1 rfl (lv_at hl 2 rfl) ?_
  have hPc := hP.sb (wq := [(h0, .inr (17, [.ref va, .int 0, .int h0_maybeLatin1, .int h0_count]))]) [0] rfl
  have hDc := hD.sb (wq := [(h0, .inr (17, [.ref va, .int 0, .int h0_maybeLatin1, .int h0_count]))]) [0] (by decide) rfl
  have hKc := hK.sb (tyq := []) [] rfl
  have hFc := va_free (wc := [(h0, .inr (17, [.ref va, .int 0, .int h0_maybeLatin1, .int h0_count]))]) hD hS hA [0] rfl
  refine va_callv (va_runV (As := [.ref tx]) (rest := []) ⟨hx, hb, hml, hown, hts⟩ (c_JQ_inflateIfNeededFor l hlt dC dI H.size sa tx tv b h0 va h0_maybeLatin1 h0_count) ⟨callB_of 1 hts (gW kC_JQ_inflateIfNeededFor) rfl rfl rfl (hts _ kI_JQ) (hts _ kM_JQ_397) (by decide +kernel) ⟨Nat.le_of_ble_eq_true rfl, Nat.le_of_ble_eq_true rfl⟩, hts _ kV_JQ_inflateIfNeededFor, hSW.sel 3 rfl⟩ ⟨fun a U g mk z => by obtain ⟨z0, z1, zP, zK, zD, zS, zR0⟩ := z; exact ⟨z0, z1, zP, va_K.moved (u := U) (U := U.calling g mk a) (Vm.Alike.refl U.vm) zK, zD, sm.same (u := U) (U := U.calling g mk a) rfl zS, zR0.moved (u := U) (U := U.calling g mk a) (Vm.Alike.refl U.vm)⟩, va_recv hKc hPc (ci := 17) (q0 := 0) rfl rfl, fun U hU hW => ⟨rfl, by rw [hU], va_P.he hU.symm hPc, va_K.moved hW.alike hKc, hDc.weaken (fun _ _ _ _ => trivial), hSW.call hS hFc hW hU, (hR0).call hS hFc hW hU⟩⟩ rfl rfl hl.1 rfl (lv_room (Nat.le_of_ble_eq_true rfl)) d_JQ_putStringAt_2 ⟨(Nat.zero_le _), (Nat.zero_le _)⟩) hS (fun q _ h => hFc q h) hFc (fun u t H1 locs ht hvm hw hB hz1 hk1 hS => ?_)
  try dsimp only at hw
  try clear hw
  obtain ⟨hP1, hK1, hD1⟩ := hB
  replace hP1 := va_P.he ht hP1
  obtain ⟨hP, hD⟩ := va_join (wr := [(va, .inl (cpb, nva, .inl gva))]) (w1 := [(h0, .inr (17, [.ref va, .int 0, .int h0_maybeLatin1, .int h0_count]))]) hP hD [0] [1] rfl rfl (by decide) (by decide) hk1 hFc hP1 hD1
  clear hPc hDc hKc hFc hz1 hk1 hP1 hK1 hD1
  rename Heap => H
  have hP : va_P (dC, dI) cls2 (wz_488 va cpb nva gva h0 va 0 h0_maybeLatin1 h0_count) H := hP
  have hD : va_D A (wz_488 va cpb nva gva h0 va 0 h0_maybeLatin1 h0_count) := hD
  refine lv_aload_n hx hb d_JQ_putStringAt_5 rfl (lv_at hl 2 rfl) ?_
  refine lv_aload_n hx hb d_JQ_putStringAt_6 rfl (lv_at hl 0 rfl) ?_
  refine va_get (D := (dC, dI)) (ci := 17) (v := .ref va) (C := R_JB) (T := F_JB) (N := 4) hx hb hts i_JB hown hK hP 1 rfl rfl 0 (by decide) (hts _ kF_JQ_15) (fun _ h9 => h9) rfl d_JQ_putStringAt_7 ?_
  refine lv_iload_n hx hb d_JQ_putStringAt_10 rfl (lv_at hl 1 rfl) ?_
  refine lv_aload_n hx hb d_JQ_putStringAt_11 rfl (lv_at hl 0 rfl) ?_
  refine va_get (D := (dC, dI)) (ci := 17) (v := .int 0) (C := R_JB) (T := F_JB) (N := 4) hx hb hts i_JB hown hK hP 1 rfl rfl 1 (by decide) (hts _ kF_JQ_22) (fun _ h9 => h9) rfl d_JQ_putStringAt_12 ?_
  have hPc := hP.sb (wq := [(va, .inl (cpb, nva, .inl gva))]) [0] rfl
  have hDc := hD.sb (wq := [(va, .inl (cpb, nva, .inl gva))]) [0] (by decide) rfl
  have hKc := hK.sb (tyq := [(cpb, .byte)]) [0] rfl
  have hFc := va_free (wc := [(va, .inl (cpb, nva, .inl gva))]) hD hS hA [0] rfl
  refine va_callv (va_runV (As := [.ref va, .int p1, .int 0]) (rest := []) ⟨hx, hb, hml, hown, hts⟩ (c_JS_getBytes l hlt dC dI H.size sa tx tv b va cpb nva gva (b_gva) p1 0 (hp) (rfl) (hbb) (hbl)) (cwV 3 hts (gV kM_JQ_399 kV_JS_getBytes kS_JS_getBytes kI_JS kC_JS_getBytes) rfl rfl rfl (by decide +kernel) ⟨Nat.le_of_ble_eq_true rfl, Nat.le_of_ble_eq_true rfl⟩) ⟨fun a U g mk z => by obtain ⟨z0, z1, zP, zK, zD, zS, zR0⟩ := z; exact ⟨z0, z1, zP, va_K.moved (u := U) (U := U.calling g mk a) (Vm.Alike.refl U.vm) zK, zD, sm.same (u := U) (U := U.calling g mk a) rfl zS, zR0.moved (u := U) (U := U.calling g mk a) (Vm.Alike.refl U.vm)⟩, so_recv (hR0.1) hS, fun U hU hW => ⟨rfl, by rw [hU], va_P.he hU.symm hPc, va_K.moved hW.alike hKc, hDc.weaken (fun _ _ _ _ => trivial), hSW.call hS hFc hW hU, (hR0).call hS hFc hW hU⟩⟩ rfl rfl hl.1 rfl (lv_room (Nat.le_of_ble_eq_true rfl)) d_JQ_putStringAt_15 ⟨(Nat.zero_le _), (Nat.zero_le _)⟩) hS (fun q _ h => hFc q h) hFc (fun u t H1 locs ht hvm hw hB hz1 hk1 hS => ?_)
  obtain ⟨n3, rfl⟩ : ∃ z, z = u := ⟨_, rfl⟩
  try dsimp only at hw
  obtain ⟨bn3, xr2⟩ := hw
  try clear hw
  obtain ⟨hP1, hK1, hD1⟩ := hB
  replace hP1 := va_P.he ht hP1
  obtain ⟨hP, hD⟩ := va_join (wr := [(h0, .inr (17, [.ref va, .int 0, .int h0_maybeLatin1, .int h0_count]))]) (w1 := [(va, .inl (cpb, nva, .inl n3))]) hP hD [0] [1] rfl rfl (by decide) (by decide) hk1 hFc hP1 hD1
  clear hPc hDc hKc hFc hz1 hk1 hP1 hK1 hD1
  rename Heap => H
  have hP : va_P (dC, dI) cls2 (wz_487 h0 va 0 h0_maybeLatin1 h0_count va cpb nva n3) H := hP
  have hD : va_D A (wz_487 h0 va 0 h0_maybeLatin1 h0_count va cpb nva n3) := hD
  have hP9 := hP.sb (wq := (wz_487 h0 va 0 h0_maybeLatin1 h0_count va cpb nva n3)) [0, 1] rfl
  have hD9 := hD.sb (wq := (wz_487 h0 va 0 h0_maybeLatin1 h0_count va cpb nva n3)) [0, 1] (by decide) rfl
  exact W.vret hx hb hr (fun t ht hW => ⟨⟨n3, rfl, ⟨bn3, xr2⟩, va_P.he ht.symm hP9, va_K.moved hW.alike hK, hD9⟩, hS.F ht⟩) hS.2.2 d_JQ_putStringAt_18
abbrev b_JQ_append2 : ByteArray := prog_20_method_22_code
def y_JQ_append2 : MethodName := ⟨R_JQ, "append", "(Ljava/lang/String;)Ljava/lang/AbstractStringBuilder;"⟩
abbrev w_JQ_append2 : List Cond := .code y_JQ_append2 b_JQ_append2 3 (Option.some (.object "java/lang/AbstractStringBuilder")) :: lw_g
theorem kC_JQ_append2 : Cond.code y_JQ_append2 b_JQ_append2 3 (Option.some (.object "java/lang/AbstractStringBuilder")) ∈ lw_g := in_c10 164 rfl rfl
theorem d_JQ_append2_0 : decode b_JQ_append2 0 = .ok (.aload_n 1, 1) := bz_c43 (by decide +kernel)
theorem d_JQ_append2_1 : decode b_JQ_append2 1 = .ok (.ifnonnull 8, 3) := bz_c199 (by decide +kernel)
theorem d_JQ_append2_4 : decode b_JQ_append2 4 = .ok (.aload_n 0, 1) := bz_c42 (by decide +kernel)
theorem d_JQ_append2_5 : decode b_JQ_append2 5 = .ok (.invokevirtual 204, 3) := bz_c182 (by decide +kernel)
theorem d_JQ_append2_8 : decode b_JQ_append2 8 = .ok (.areturn, 1) := bz_c176 (by decide +kernel)
theorem d_JQ_append2_9 : decode b_JQ_append2 9 = .ok (.aload_n 1, 1) := bz_c43 (by decide +kernel)
theorem d_JQ_append2_10 : decode b_JQ_append2 10 = .ok (.invokevirtual 32, 3) := bz_c182 (by decide +kernel)
theorem d_JQ_append2_13 : decode b_JQ_append2 13 = .ok (.istore_n 2, 1) := bz_c61 (by decide +kernel)
theorem d_JQ_append2_14 : decode b_JQ_append2 14 = .ok (.aload_n 0, 1) := bz_c42 (by decide +kernel)
theorem d_JQ_append2_15 : decode b_JQ_append2 15 = .ok (.aload_n 0, 1) := bz_c42 (by decide +kernel)
theorem d_JQ_append2_16 : decode b_JQ_append2 16 = .ok (.getfield 79, 3) := bz_c180 (by decide +kernel)
theorem d_JQ_append2_19 : decode b_JQ_append2 19 = .ok (.iload_n 2, 1) := bz_c28 (by decide +kernel)
theorem d_JQ_append2_20 : decode b_JQ_append2 20 = .ok (.iadd, 1) := bz_c96 (by decide +kernel)
theorem d_JQ_append2_21 : decode b_JQ_append2 21 = .ok (.invokevirtual 100, 3) := bz_c182 (by decide +kernel)
theorem d_JQ_append2_24 : decode b_JQ_append2 24 = .ok (.aload_n 0, 1) := bz_c42 (by decide +kernel)
theorem d_JQ_append2_25 : decode b_JQ_append2 25 = .ok (.aload_n 0, 1) := bz_c42 (by decide +kernel)
theorem d_JQ_append2_26 : decode b_JQ_append2 26 = .ok (.getfield 79, 3) := bz_c180 (by decide +kernel)
theorem d_JQ_append2_29 : decode b_JQ_append2 29 = .ok (.aload_n 1, 1) := bz_c43 (by decide +kernel)
theorem d_JQ_append2_30 : decode b_JQ_append2 30 = .ok (.invokevirtual 208, 3) := bz_c182 (by decide +kernel)
theorem d_JQ_append2_33 : decode b_JQ_append2 33 = .ok (.aload_n 0, 1) := bz_c42 (by decide +kernel)
theorem d_JQ_append2_34 : decode b_JQ_append2 34 = .ok (.dup, 1) := bz_c89 (by decide +kernel)
theorem d_JQ_append2_35 : decode b_JQ_append2 35 = .ok (.getfield 79, 3) := bz_c180 (by decide +kernel)
theorem d_JQ_append2_38 : decode b_JQ_append2 38 = .ok (.iload_n 2, 1) := bz_c28 (by decide +kernel)
theorem d_JQ_append2_39 : decode b_JQ_append2 39 = .ok (.iadd, 1) := bz_c96 (by decide +kernel)
theorem d_JQ_append2_40 : decode b_JQ_append2 40 = .ok (.putfield 79, 3) := bz_c181 (by decide +kernel)
theorem d_JQ_append2_43 : decode b_JQ_append2 43 = .ok (.aload_n 0, 1) := bz_c42 (by decide +kernel)
theorem d_JQ_append2_44 : decode b_JQ_append2 44 = .ok (.areturn, 1) := bz_c176 (by decide +kernel)
abbrev b_JQ_appendNull : ByteArray := prog_20_method_26_code
def y_JQ_appendNull : MethodName := ⟨R_JQ, "appendNull", "()Ljava/lang/AbstractStringBuilder;"⟩
abbrev w_JQ_appendNull : List Cond := .code y_JQ_appendNull b_JQ_appendNull 3 (Option.some (.object "java/lang/AbstractStringBuilder")) :: lw_g
theorem kC_JQ_appendNull : Cond.code y_JQ_appendNull b_JQ_appendNull 3 (Option.some (.object "java/lang/AbstractStringBuilder")) ∈ lw_g := in_c10 168 rfl rfl
theorem kM_JQ_204 : Cond.methodLink R_JQ 204 y_JQ_appendNull ∈ lw_g := in_c10 165 rfl rfl
theorem kV_JQ_appendNull : Cond.instanceMethod y_JQ_appendNull ∈ lw_g := in_c10 167 rfl rfl
theorem kM_JQ_32 : Cond.methodLink R_JQ 32 y_JS_length ∈ lw_g := in_c10 172 rfl rfl
theorem kM_JQ_208 : Cond.methodLink R_JQ 208 y_JQ_putStringAt ∈ lw_g := in_c10 173 rfl rfl
theorem kV_JQ_putStringAt : Cond.instanceMethod y_JQ_putStringAt ∈ lw_g := in_c10 175 rfl rfl
theorem kSM_JQ_putStringAt : Cond.sameMethod R_JQ R_JQ "putStringAt" "(ILjava/lang/String;)V" ∈ lw_g := in_c13 228 rfl rfl
abbrev at_JQ_append2 (dC : Nat → ClassId) (dI : Nat → Nat → Nat) (sz szl : Nat) (sa : Nat → Nat) (h0 va : Nat) (cpb : ClassId) (h0_maybeLatin1 : Int32) (A : Nat → Prop) (u : (Nat → Int32) × Nat × Int32 × Nat × Nat × Nat) (t : State) : Prop := match u with | (gva, va, h0_count, kcz, knz, nva) => va_P (dC, dI) cls2 (wz_487 h0 va 0 h0_maybeLatin1 h0_count va cpb nva gva) t.heap ∧ va_K (dC, dI) cls2 [(cpb, .byte)] t ∧ va_D A (wz_487 h0 va 0 h0_maybeLatin1 h0_count va cpb nva gva) ∧ t.heap.size ≤ sz + kcz ∧ hsl t.heap ≤ szl + knz
set_option maxHeartbeats 4000000 in
set_option maxRecDepth 100000 in
theorem c_JQ_append2 (l : Launch) (hlt : l.stackTraces = false) (dC : Nat → ClassId) (dI : Nat → Nat → Nat) (sz : Nat) (szl : Nat) (sa : Nat → Nat) (tx tv : Nat) (b : List Int32) (h0 va : Nat) (cpb : ClassId) (h0_maybeLatin1 : Int32) (h0_count : Int32) (nva : Nat) (gva : Nat → Int32)  (b_h0_count : 0 ≤ h0_count.toInt ∧ h0_count.toInt ≤ 1000000) (b_gva : ∀ j : Nat, -128 ≤ (gva j).toInt ∧ (gva j).toInt ≤ 127)   (hc : h0_count.toInt ≤ (nva : Int) ∧ (nva : Int) ≤ 400000) (hbb : ∀ j : Nat, -128 ≤ (b.getD j 0).toInt ∧ (b.getD j 0).toInt ≤ 127) (hbl : (b.length : Int) ≤ 100000) : Met l y_JQ_append2 w_JQ_append2 ({ frames := 4, cells := 1, slots := 2 * nva + 2 + b.length, locals := 94 }) (va_Pc [.ref h0, .ref tx] (fun U => U.heap.size = sz ∧ va_P (dC, dI) cls2 (wz_487 h0 va 0 h0_maybeLatin1 h0_count va cpb nva gva) U.heap ∧ va_K (dC, dI) cls2 [(cpb, .byte)] U ∧ va_D (fun _ => True) (wz_487 h0 va 0 h0_maybeLatin1 h0_count va cpb nva gva) ∧ sm sa (va_A (wz_487 h0 va 0 h0_maybeLatin1 h0_count va cpb nva gva) sz) U U.heap ∧ sw_str tx tv b (va_A (wz_487 h0 va 0 h0_maybeLatin1 h0_count va cpb nva gva) sz) U U.heap ∧ hsl U.heap = szl)) (va_Qr (fun (u : (Nat → Int32) × Nat × Int32 × Nat × Nat × Nat) => match u with | (gva2, va2, h0_count2, kcz2, knz2, nva2) => (∀ j : Nat, -128 ≤ (gva2 j).toInt ∧ (gva2 j).toInt ≤ 127) ∧ (0 ≤ h0_count2.toInt ∧ h0_count2.toInt ≤ 1000000) ∧ (h0_count2.toInt = h0_count.toInt + (b.length : Int) ∧ sbl gva2 h0_count2.toNatClampNeg = sbl gva h0_count.toNatClampNeg ++ b ∧ (nva2 = nva ∧ kcz2 = 0 ∧ knz2 = 0 ∨ (nva : Int) < h0_count.toInt + (b.length : Int) ∧ nva2 ≤ 2 * nva + 2 + b.length ∧ kcz2 ≤ 1 ∧ knz2 = nva2) ∧ h0_count2.toInt ≤ (nva2 : Int))) (fun (u : (Nat → Int32) × Nat × Int32 × Nat × Nat × Nat) (ra : Nat) (t : State) => h0 = ra ∧ (at_JQ_append2 dC dI sz szl sa h0 va cpb h0_maybeLatin1 (va_A (wz_487 h0 va 0 h0_maybeLatin1 h0_count va cpb nva gva) sz)) u t) (va_A (wz_487 h0 va 0 h0_maybeLatin1 h0_count va cpb nva gva) sz)) (1) (2 * nva + 2 + b.length) (va_A (wz_487 h0 va 0 h0_maybeLatin1 h0_count va cpb nva gva) sz) := by
  refine Met.ofW (cc := b_JQ_append2) (maxL := 3) (ret := (Option.some (.object "java/lang/AbstractStringBuilder"))) (by decide) rfl ?_
  intro p e s m args below meth c s₁ B hml hv
  obtain ⟨rfl, hsz, hP, hK, hD0, hSW, hR0, hszl⟩ := hv
  have hx := B.exec
  have hb := B.bytes
  have hr := B.returns
  have hts0 := atoms_spec (ws := w_JQ_append2) B.pre
  have hts : ∀ w ∈ lw_g, w.before _ s = true := fun w h => hts0 w (List.mem_cons_of_mem _ h)
  have hown : s.vm.findClass R_JQ = some m.cls := findClass_of_methodNamed B.named
  have hlocks := B.notSynchronized
  clear hts0
  subst hsz
  subst hszl
  have hD := hD0.self (sz := s.heap.size)
  generalize hAe : va_A (wz_487 h0 va 0 h0_maybeLatin1 h0_count va cpb nva gva) s.heap.size = A at hD hSW hR0 ⊢
  have hA : ∀ q : Nat, s.heap.size ≤ q → A q := fun q h => by rw [← hAe]; exact Or.inr h
  clear hAe
  have hP : va_P (dC, dI) cls2 (wz_487 h0 va 0 h0_maybeLatin1 h0_count va cpb nva gva) s.heap := hP
  have hl := lv_entry ([.ref h0, .ref tx]) (n := 3) (Nat.le_of_ble_eq_true rfl)
  rw [lg_entry_eq]
  generalize (lg_sl ([.ref h0, .ref tx]) ++ List.replicate (3 - (lg_sl ([.ref h0, .ref tx])).length) Slot.unset).toArray = ls at hl ⊢
  have hl : lv_has ls 3 [(0, .ref h0), (1, .ref tx)] := hl
  have k0 : (0 : Int32).toInt = 0 := by decide
  refine w_gen (A := A) hP (fun H locs hP hS => ?_)
  have zc := i32_clamp (x := h0_count) (by (first | (apply Int.le_antisymm <;> omega) | omega))
  refine lv_aload_n hx hb d_JQ_append2_0 rfl (lv_at hl 1 rfl) ?_
  refine lv_ifnonnull (tgt := 9) hx hb d_JQ_append2_1 (by decide) ?_
  refine lv_aload_n hx hb d_JQ_append2_9 rfl (lv_at hl 1 rfl) ?_
  have hPc := @vp_nil
  have hDc := hD.sb (wq := []) [] (by decide) rfl
  have hKc := (k2_of hK).sb (tyq := []) [] rfl
  have hFc := va_free (wc := []) hD hS hA [] rfl
  refine va_calli (va_runV (As := []) (rest := []) ⟨hx, hb, hml, hown, hts⟩ (c_JS_length l dC dI H.size sa tx tv b (by (first | (apply Int.le_antisymm <;> omega) | omega))) (cwV 0 hts (gV kM_JQ_32 kV_JS_length kS_JS_length kI_JS kC_JS_length) rfl rfl rfl (by decide +kernel) ⟨Nat.le_of_ble_eq_true rfl, Nat.le_of_ble_eq_true rfl⟩) ⟨fun a U g mk z => by obtain ⟨z0, z1, zP, zK, zD, zS, zR0⟩ := z; exact ⟨z0, z1, zP, va_K.moved (u := U) (U := U.calling g mk a) (Vm.Alike.refl U.vm) zK, zD, sw.same (u := U) (U := U.calling g mk a) rfl zS, zR0.moved (u := U) (U := U.calling g mk a) (Vm.Alike.refl U.vm)⟩, so_recv (hR0.1) hS, fun U hU hW => ⟨rfl, by rw [hU], va_P.he hU.symm hPc, va_K.moved hW.alike hKc, hDc.weaken (fun _ _ _ _ => trivial), hSW.1.call hS hFc hW hU, (hR0).call hS hFc hW hU⟩⟩ rfl rfl hl.1 rfl (lv_room (Nat.le_of_ble_eq_true rfl)) d_JQ_append2_10 ⟨by dsimp only [headSpec]; (first | (apply Int.le_antisymm <;> omega) | omega), by dsimp only [headSpec]; (first | (apply Int.le_antisymm <;> omega) | omega)⟩) hS (fun q _ h => hFc q h) hFc (fun r1 u t H1 locs ht hvm hw hB hz1 hk1 hS => ?_)
  try dsimp only at hw
  have xr1 := hw
  try clear hw
  have tr1 := xr1
  obtain ⟨hP1, hK1, hD1⟩ := hB
  replace hP1 := va_P.he ht hP1
  replace hP1 := @vp_nil (dC, dI) cls2 H1
  obtain ⟨hP, hD⟩ := va_join (wr := (wz_487 h0 va 0 h0_maybeLatin1 h0_count va cpb nva gva)) (w1 := []) hP hD [] [0, 1] rfl rfl (by decide) (by decide) hk1 hFc hP1 hD1
  clear hPc hDc hKc hFc hz1 hk1 hP1 hK1 hD1
  rename Heap => H
  have hP : va_P (dC, dI) cls2 (wz_487 h0 va 0 h0_maybeLatin1 h0_count va cpb nva gva) H := hP
  have hD : va_D A (wz_487 h0 va 0 h0_maybeLatin1 h0_count va cpb nva gva) := hD
  refine lv_istore_n (lv' := [(2, .int r1), (0, .ref h0), (1, .ref tx)]) hx hb d_JQ_append2_13 rfl hl (by decide) rfl (fun ls hl => ?_)
  refine lv_aload_n hx hb d_JQ_append2_14 rfl (lv_at hl 1 rfl) ?_
  refine lv_aload_n hx hb d_JQ_append2_15 rfl (lv_at hl 1 rfl) ?_
  refine va_get (D := (dC, dI)) (ci := 17) (v := .int h0_count) (C := R_JB) (T := F_JB) (N := 4) hx hb hts i_JB hown hK hP 0 rfl rfl 3 (by decide) (hts _ kF_JQ_79) (fun _ h9 => h9) rfl d_JQ_append2_16 ?_
  refine lv_iload_n hx hb d_JQ_append2_19 rfl (lv_at hl 0 rfl) ?_
  refine lv_iadd hx hb d_JQ_append2_20 ?_
  refine lv_topi (fun x4 ex4 => ?_)
  have tx4 : x4.toInt = h0_count.toInt + r1.toInt := by have z := i32_add ex4 (by (first | (apply Int.le_antisymm <;> omega) | omega)) (by (first | (apply Int.le_antisymm <;> omega) | omega)); first | exact z | (first | (apply Int.le_antisymm <;> omega) | omega)
  refine w_known (fun hzc hzs => ?_)
  have hPc := hP.sb (wq := (wz_487 h0 va 0 h0_maybeLatin1 h0_count va cpb nva gva)) [0, 1] rfl
  have hDc := hD.sb (wq := (wz_487 h0 va 0 h0_maybeLatin1 h0_count va cpb nva gva)) [0, 1] (by decide) rfl
  have hKc := hK.sb (tyq := [(cpb, .byte)]) [0] rfl
  have hFc := va_free (wc := (wz_487 h0 va 0 h0_maybeLatin1 h0_count va cpb nva gva)) hD hS hA [0, 1] rfl
  refine va_callv (va_runV (As := [.int x4]) (rest := []) ⟨hx, hb, hml, hown, hts⟩ (c_JQ_ensureCapacityInternal l hlt dC dI H.size (hsl H) sa h0 va cpb h0_maybeLatin1 h0_count nva gva (b_gva) x4 (by (first | (apply Int.le_antisymm <;> omega) | omega)) (by (first | (apply Int.le_antisymm <;> omega) | omega))) ⟨callB_of 1 hts (gW kC_JQ_ensureCapacityInternal) rfl rfl rfl (hts _ kI_JQ) (hts _ kM_JQ_100) (by decide +kernel) ⟨Nat.le_of_ble_eq_true rfl, Nat.le_of_ble_eq_true rfl⟩, hts _ kV_JQ_ensureCapacityInternal, hSW.sel 0 rfl⟩ ⟨fun a U g mk z => by obtain ⟨z0, z1, zP, zK, zD, zS, zZ⟩ := z; exact ⟨z0, z1, zP, va_K.moved (u := U) (U := U.calling g mk a) (Vm.Alike.refl U.vm) zK, zD, sm.same (u := U) (U := U.calling g mk a) rfl zS, zZ⟩, va_recv hKc hPc (ci := 17) (q0 := 0) rfl rfl, fun U hU hW => ⟨rfl, by rw [hU], va_P.he hU.symm hPc, va_K.moved hW.alike hKc, hDc.weaken (fun _ _ _ _ => trivial), hSW.call hS hFc hW hU, by rw [hU]⟩⟩ rfl rfl hl.1 rfl (lv_room (Nat.le_of_ble_eq_true rfl)) d_JQ_append2_21 ⟨by dsimp only [headSpec]; (first | (apply Int.le_antisymm <;> omega) | omega), by dsimp only [headSpec]; (first | (apply Int.le_antisymm <;> omega) | omega)⟩) hS (fun q _ h => hFc q h) hFc (fun u t H1 locs ht hvm hw hB hz1 hk1 hS => ?_)
  obtain ⟨n6, n7, n8, n9, n10⟩ := u
  try dsimp only at hw
  obtain ⟨bn6, xr5⟩ := hw
  try clear hw
  obtain ⟨y1, y2, y3, y4, y5⟩ := xr5
  obtain ⟨hP1, hK1, hD1, hZc, hZs⟩ := hB
  rw [ht] at hP1 hZc hZs
  obtain ⟨kc11, ekc11⟩ : ∃ z : Nat, z = 0 + 0 + n8 := ⟨_, rfl⟩
  obtain ⟨kn12, ekn12⟩ : ∃ z : Nat, z = 0 + 0 + n9 := ⟨_, rfl⟩
  refine w_refund (c2 := kc11) (n2 := kn12) (by (first | (apply Int.le_antisymm <;> omega) | omega)) (by (first | (apply Int.le_antisymm <;> omega) | omega)) ?_
  clear hzc hzs hZc hZs
  obtain ⟨hP, hD⟩ := va_join (wr := []) (w1 := (wz_487 h0 n7 0 h0_maybeLatin1 h0_count n7 cpb n10 n6)) hP hD [0, 1] [] rfl rfl (by decide) (by decide) hk1 hFc hP1 hD1
  clear hPc hDc hKc hFc hz1 hk1 hP1 hK1 hD1
  rename Heap => H
  have hP : va_P (dC, dI) cls2 (wz_487 h0 n7 0 h0_maybeLatin1 h0_count n7 cpb n10 n6) H := hP
  have hD : va_D A (wz_487 h0 n7 0 h0_maybeLatin1 h0_count n7 cpb n10 n6) := hD
  refine lv_aload_n hx hb d_JQ_append2_24 rfl (lv_at hl 1 rfl) ?_
  refine lv_aload_n hx hb d_JQ_append2_25 rfl (lv_at hl 1 rfl) ?_
  refine va_get (D := (dC, dI)) (ci := 17) (v := .int h0_count) (C := R_JB) (T := F_JB) (N := 4) hx hb hts i_JB hown hK hP 0 rfl rfl 3 (by decide) (hts _ kF_JQ_79) (fun _ h9 => h9) rfl d_JQ_append2_26 ?_
  refine lv_aload_n hx hb d_JQ_append2_29 rfl (lv_at hl 2 rfl) ?_
  have hPc := hP.sb (wq := (wz_487 h0 n7 0 h0_maybeLatin1 h0_count n7 cpb n10 n6)) [0, 1] rfl
  have hDc := hD.sb (wq := (wz_487 h0 n7 0 h0_maybeLatin1 h0_count n7 cpb n10 n6)) [0, 1] (by decide) rfl
  have hKc := hK.sb (tyq := [(cpb, .byte)]) [0] rfl
  have hFc := va_free (wc := (wz_487 h0 n7 0 h0_maybeLatin1 h0_count n7 cpb n10 n6)) hD hS hA [0, 1] rfl
  refine va_callv (va_runV (As := [.int h0_count, .ref tx]) (rest := []) ⟨hx, hb, hml, hown, hts⟩ (c_JQ_putStringAt l hlt dC dI H.size sa tx tv b h0 n7 cpb h0_maybeLatin1 h0_count n10 n6 (bn6) h0_count (by (first | (apply Int.le_antisymm <;> omega) | omega)) (hbb) (hbl)) ⟨callB_of 2 hts (gW kC_JQ_putStringAt) rfl rfl rfl (hts _ kI_JQ) (hts _ kM_JQ_208) (by decide +kernel) ⟨Nat.le_of_ble_eq_true rfl, Nat.le_of_ble_eq_true rfl⟩, hts _ kV_JQ_putStringAt, hSW.sel 2 rfl⟩ ⟨fun a U g mk z => by obtain ⟨z0, z1, zP, zK, zD, zS, zR0⟩ := z; exact ⟨z0, z1, zP, va_K.moved (u := U) (U := U.calling g mk a) (Vm.Alike.refl U.vm) zK, zD, sm.same (u := U) (U := U.calling g mk a) rfl zS, zR0.moved (u := U) (U := U.calling g mk a) (Vm.Alike.refl U.vm)⟩, va_recv hKc hPc (ci := 17) (q0 := 0) rfl rfl, fun U hU hW => ⟨rfl, by rw [hU], va_P.he hU.symm hPc, va_K.moved hW.alike hKc, hDc.weaken (fun _ _ _ _ => trivial), hSW.call hS hFc hW hU, (hR0).call hS hFc hW hU⟩⟩ rfl rfl hl.1 rfl (lv_room (Nat.le_of_ble_eq_true rfl)) d_JQ_append2_30 ⟨by dsimp only [headSpec]; (first | (apply Int.le_antisymm <;> omega) | omega), by dsimp only [headSpec]; (first | (apply Int.le_antisymm <;> omega) | omega)⟩) hS (fun q _ h => hFc q h) hFc (fun u t H1 locs ht hvm hw hB hz1 hk1 hS => ?_)
  obtain ⟨n14, rfl⟩ : ∃ z, z = u := ⟨_, rfl⟩
  try dsimp only at hw
  obtain ⟨bn14, xr13⟩ := hw
  try clear hw
  obtain ⟨z1, z2⟩ := xr13
  obtain ⟨hP1, hK1, hD1⟩ := hB
  replace hP1 := va_P.he ht hP1
  obtain ⟨hP, hD⟩ := va_join (wr := []) (w1 := (wz_487 h0 n7 0 h0_maybeLatin1 h0_count n7 cpb n10 n14)) hP hD [0, 1] [] rfl rfl (by decide) (by decide) hk1 hFc hP1 hD1
  clear hPc hDc hKc hFc hz1 hk1 hP1 hK1 hD1
  rename Heap => H
  have hP : va_P (dC, dI) cls2 (wz_487 h0 n7 0 h0_maybeLatin1 h0_count n7 cpb n10 n14) H := hP
  have hD : va_D A (wz_487 h0 n7 0 h0_maybeLatin1 h0_count n7 cpb n10 n14) := hD
  refine lv_aload_n hx hb d_JQ_append2_33 rfl (lv_at hl 1 rfl) ?_
  refine lv_dup hx hb d_JQ_append2_34 rfl ?_
  refine va_get (D := (dC, dI)) (ci := 17) (v := .int h0_count) (C := R_JB) (T := F_JB) (N := 4) hx hb hts i_JB hown hK hP 0 rfl rfl 3 (by decide) (hts _ kF_JQ_79) (fun _ h9 => h9) rfl d_JQ_append2_35 ?_
  refine lv_iload_n hx hb d_JQ_append2_38 rfl (lv_at hl 0 rfl) ?_
  refine lv_iadd hx hb d_JQ_append2_39 ?_
  refine lv_topi (fun x17 ex17 => ?_)
  have tx17 : x17.toInt = h0_count.toInt + r1.toInt := by have z := i32_add ex17 (by (first | (apply Int.le_antisymm <;> omega) | omega)) (by (first | (apply Int.le_antisymm <;> omega) | omega)); first | exact z | (first | (apply Int.le_antisymm <;> omega) | omega)
  refine va_put (D := (dC, dI)) (ci := 17) (v := .int x17) (ty := .int) (C := R_JB) (T := F_JB) (N := 4) hx hb hts i_JB t_JB t_JB_ok n_JB hown hK hP hD hS 0 rfl rfl 3 (by decide) (hts _ kF_JQ_79) (fun _ h9 => h9) rfl (by decide +kernel) rfl rfl (Nat.le_of_ble_eq_true rfl) d_JQ_append2_40 (fun H locs hP hD hS => ?_)
  refine lv_aload_n hx hb d_JQ_append2_43 rfl (lv_at hl 1 rfl) ?_
  have hP9 := hP.sb (wq := (wz_487 h0 n7 0 h0_maybeLatin1 x17 n7 cpb n10 n14)) [0, 1] rfl
  have hD9 := hD.sb (wq := (wz_487 h0 n7 0 h0_maybeLatin1 x17 n7 cpb n10 n14)) [0, 1] (by decide) rfl
  refine w_known (fun hzc hzs => ?_)
  refine W.widen (k := 1) (n := 2 * nva + 2 + b.length) (by (first | (apply Int.le_antisymm <;> omega) | omega)) (by (first | (apply Int.le_antisymm <;> omega) | omega)) ?_
  exact W.aret (v := .ref h0) hx hb hr (Or.inl ⟨_, rfl⟩) (Or.inr ⟨_, rfl⟩) (fun t ht hW => ⟨⟨(n14, n7, x17, kc11 + 0, kn12 + 0, n10), h0, rfl, ⟨bn14, by (try dsimp only) <;> (first | (apply Int.le_antisymm <;> omega) | omega), ⟨by (first | (apply Int.le_antisymm <;> omega) | omega), by rw [show x17.toNatClampNeg = h0_count.toNatClampNeg + b.length from (by have := i32_clamp (x := x17) (by (first | (apply Int.le_antisymm <;> omega) | omega)); (first | (apply Int.le_antisymm <;> omega) | omega))]; exact sbl_app (fun j hj => by rw [z1 j (by (first | (apply Int.le_antisymm <;> omega) | omega))]; exact y5 j (by (first | (apply Int.le_antisymm <;> omega) | omega))) z2 rfl, by (first | (apply Int.le_antisymm <;> omega) | omega), by (first | (apply Int.le_antisymm <;> omega) | omega)⟩⟩, rfl, va_P.he ht.symm hP9, va_K.moved hW.alike hK, hD9, by rw [ht]; exact hzc, by rw [ht]; exact hzs⟩, hS.F ht⟩) hS.2.2 d_JQ_append2_44
end q_m76
section q_m77
/-! StringBuilder: as its superclass does; its making; a text is made of it -/
abbrev b_JB_append0 : ByteArray := prog_34_method_14_code
def y_JB_append0 : MethodName := ⟨R_JB, "append", "(C)Ljava/lang/StringBuilder;"⟩
abbrev w_JB_append0 : List Cond := .code y_JB_append0 b_JB_append0 2 (Option.some (.object "java/lang/StringBuilder")) :: lw_g
theorem kC_JB_append0 : Cond.code y_JB_append0 b_JB_append0 2 (Option.some (.object "java/lang/StringBuilder")) ∈ lw_g := in_c10 12 rfl rfl
theorem d_JB_append0_0 : decode b_JB_append0 0 = .ok (.aload_n 0, 1) := bz_c42 (by decide +kernel)
theorem d_JB_append0_1 : decode b_JB_append0 1 = .ok (.iload_n 1, 1) := bz_c27 (by decide +kernel)
theorem d_JB_append0_2 : decode b_JB_append0 2 = .ok (.invokespecial 50, 3) := bz_c183 (by decide +kernel)
theorem d_JB_append0_5 : decode b_JB_append0 5 = .ok (.pop, 1) := bz_c87 (by decide +kernel)
theorem d_JB_append0_6 : decode b_JB_append0 6 = .ok (.aload_n 0, 1) := bz_c42 (by decide +kernel)
theorem d_JB_append0_7 : decode b_JB_append0 7 = .ok (.areturn, 1) := bz_c176 (by decide +kernel)
theorem kM_JB_50 : Cond.methodLink R_JB 50 y_JQ_append0 ∈ lw_g := in_c10 13 rfl rfl
theorem kV_JQ_append0 : Cond.instanceMethod y_JQ_append0 ∈ lw_g := in_c10 14 rfl rfl
theorem kSM_JQ_append0 : Cond.sameMethod R_JQ R_JQ "append" "(C)Ljava/lang/AbstractStringBuilder;" ∈ lw_g := in_c13 221 rfl rfl
theorem kSU_JB : Cond.superclass R_JB R_JQ ∈ lw_g := in_c10 5 rfl rfl
abbrev at_JB_append0 (dC : Nat → ClassId) (dI : Nat → Nat → Nat) (sz szl : Nat) (sa : Nat → Nat) (h0 va : Nat) (cpb : ClassId) (h0_maybeLatin1 : Int32) (A : Nat → Prop) (u : (Nat → Int32) × Nat × Int32 × Nat × Nat × Nat) (t : State) : Prop := match u with | (gva, va, h0_count, kcz, knz, nva) => va_P (dC, dI) cls2 (wz_487 h0 va 0 h0_maybeLatin1 h0_count va cpb nva gva) t.heap ∧ va_K (dC, dI) cls2 [(cpb, .byte)] t ∧ va_D A (wz_487 h0 va 0 h0_maybeLatin1 h0_count va cpb nva gva) ∧ t.heap.size ≤ sz + kcz ∧ hsl t.heap ≤ szl + knz
set_option maxHeartbeats 4000000 in
set_option maxRecDepth 100000 in
theorem c_JB_append0 (l : Launch) (hlt : l.stackTraces = false) (dC : Nat → ClassId) (dI : Nat → Nat → Nat) (sz : Nat) (szl : Nat) (sa : Nat → Nat) (h0 va : Nat) (cpb : ClassId) (h0_maybeLatin1 : Int32) (h0_count : Int32) (nva : Nat) (gva : Nat → Int32)  (b_h0_count : 0 ≤ h0_count.toInt ∧ h0_count.toInt ≤ 1000000) (b_gva : ∀ j : Nat, -128 ≤ (gva j).toInt ∧ (gva j).toInt ≤ 127) (p0 : Int32) (ba0 : 0 ≤ p0.toInt ∧ p0.toInt ≤ 255) (hc : h0_count.toInt ≤ (nva : Int) ∧ (nva : Int) ≤ 400000) : Met l y_JB_append0 w_JB_append0 ({ frames := 5, cells := 1, slots := 2 * nva + 2, locals := 115 }) (va_Pc [.ref h0, .int p0] (fun U => U.heap.size = sz ∧ va_P (dC, dI) cls2 (wz_487 h0 va 0 h0_maybeLatin1 h0_count va cpb nva gva) U.heap ∧ va_K (dC, dI) cls2 [(cpb, .byte)] U ∧ va_D (fun _ => True) (wz_487 h0 va 0 h0_maybeLatin1 h0_count va cpb nva gva) ∧ sm sa (va_A (wz_487 h0 va 0 h0_maybeLatin1 h0_count va cpb nva gva) sz) U U.heap ∧ hsl U.heap = szl)) (va_Qr (fun (u : (Nat → Int32) × Nat × Int32 × Nat × Nat × Nat) => match u with | (gva2, va2, h0_count2, kcz2, knz2, nva2) => (∀ j : Nat, -128 ≤ (gva2 j).toInt ∧ (gva2 j).toInt ≤ 127) ∧ (0 ≤ h0_count2.toInt ∧ h0_count2.toInt ≤ 1000000) ∧ (h0_count2.toInt = h0_count.toInt + 1 ∧ sbl gva2 h0_count2.toNatClampNeg = sbl gva h0_count.toNatClampNeg ++ [p0.toInt8.toInt32] ∧ (nva2 = nva ∧ kcz2 = 0 ∧ knz2 = 0 ∨ h0_count.toInt = (nva : Int) ∧ nva2 = 2 * nva + 2 ∧ kcz2 ≤ 1 ∧ knz2 = nva2) ∧ h0_count2.toInt ≤ (nva2 : Int))) (fun (u : (Nat → Int32) × Nat × Int32 × Nat × Nat × Nat) (ra : Nat) (t : State) => h0 = ra ∧ (at_JB_append0 dC dI sz szl sa h0 va cpb h0_maybeLatin1 (va_A (wz_487 h0 va 0 h0_maybeLatin1 h0_count va cpb nva gva) sz)) u t) (va_A (wz_487 h0 va 0 h0_maybeLatin1 h0_count va cpb nva gva) sz)) (1) (2 * nva + 2) (va_A (wz_487 h0 va 0 h0_maybeLatin1 h0_count va cpb nva gva) sz) := by
  refine Met.ofW (cc := b_JB_append0) (maxL := 2) (ret := (Option.some (.object "java/lang/StringBuilder"))) (by decide) rfl ?_
  intro p e s m args below meth c s₁ B hml hv
  obtain ⟨rfl, hsz, hP, hK, hD0, hSW, hszl⟩ := hv
  have hx := B.exec
  have hb := B.bytes
  have hr := B.returns
  have hts0 := atoms_spec (ws := w_JB_append0) B.pre
  have hts : ∀ w ∈ lw_g, w.before _ s = true := fun w h => hts0 w (List.mem_cons_of_mem _ h)
  have hown : s.vm.findClass R_JB = some m.cls := findClass_of_methodNamed B.named
  have hlocks := B.notSynchronized
  clear hts0
  subst hsz
  subst hszl
  have hD := hD0.self (sz := s.heap.size)
  generalize hAe : va_A (wz_487 h0 va 0 h0_maybeLatin1 h0_count va cpb nva gva) s.heap.size = A at hD hSW ⊢
  have hA : ∀ q : Nat, s.heap.size ≤ q → A q := fun q h => by rw [← hAe]; exact Or.inr h
  clear hAe
  have hP : va_P (dC, dI) cls2 (wz_487 h0 va 0 h0_maybeLatin1 h0_count va cpb nva gva) s.heap := hP
  have hl := lv_entry ([.ref h0, .int p0]) (n := 2) (Nat.le_of_ble_eq_true rfl)
  rw [lg_entry_eq]
  generalize (lg_sl ([.ref h0, .int p0]) ++ List.replicate (2 - (lg_sl ([.ref h0, .int p0])).length) Slot.unset).toArray = ls at hl ⊢
  have hl : lv_has ls 2 [(0, .ref h0), (1, .int p0)] := hl
  have k0 : (0 : Int32).toInt = 0 := by decide
  refine w_gen (A := A) hP (fun H locs hP hS => ?_)
  have lo_p0 := i32_lo p0
  have hi_p0 := i32_hi p0
  refine lv_aload_n hx hb d_JB_append0_0 rfl (lv_at hl 0 rfl) ?_
  refine lv_iload_n hx hb d_JB_append0_1 rfl (lv_at hl 1 rfl) ?_
  refine w_known (fun hzc hzs => ?_)
  have hPc := hP.sb (wq := (wz_487 h0 va 0 h0_maybeLatin1 h0_count va cpb nva gva)) [0, 1] rfl
  have hDc := hD.sb (wq := (wz_487 h0 va 0 h0_maybeLatin1 h0_count va cpb nva gva)) [0, 1] (by decide) rfl
  have hKc := hK.sb (tyq := [(cpb, .byte)]) [0] rfl
  have hFc := va_free (wc := (wz_487 h0 va 0 h0_maybeLatin1 h0_count va cpb nva gva)) hD hS hA [0, 1] rfl
  refine va_callr (va_runUp (As := [.int p0]) (rest := []) ⟨hx, hb, hml, hown, hts⟩ (c_JQ_append0 l hlt dC dI H.size (hsl H) sa h0 va cpb h0_maybeLatin1 h0_count nva gva (b_h0_count) (b_gva) p0 (ba0) (hc)) ⟨callB_of 1 hts (gW kC_JQ_append0) rfl rfl rfl (hts _ kI_JQ) (hts _ kM_JB_50) (by decide +kernel) ⟨Nat.le_of_ble_eq_true rfl, Nat.le_of_ble_eq_true rfl⟩, hts _ kSM_JQ_append0, hts _ kV_JQ_append0, hts _ kSU_JB, by decide, hts _ kN_JB⟩ ⟨fun a U g mk z => by obtain ⟨z0, z1, zP, zK, zD, zS, zZ⟩ := z; exact ⟨z0, z1, zP, va_K.moved (u := U) (U := U.calling g mk a) (Vm.Alike.refl U.vm) zK, zD, sm.same (u := U) (U := U.calling g mk a) rfl zS, zZ⟩, va_recv hKc hPc (ci := 17) (q0 := 0) rfl rfl, fun U hU hW => ⟨rfl, by rw [hU], va_P.he hU.symm hPc, va_K.moved hW.alike hKc, hDc.weaken (fun _ _ _ _ => trivial), hSW.call hS hFc hW hU, by rw [hU]⟩⟩ rfl rfl hl.1 rfl (lv_room (Nat.le_of_ble_eq_true rfl)) d_JB_append0_2 ⟨by dsimp only [headSpec]; (first | (apply Int.le_antisymm <;> omega) | omega), by dsimp only [headSpec]; (first | (apply Int.le_antisymm <;> omega) | omega)⟩) hS (fun q _ h => hFc q h) hFc (fun u ra t H1 locs ht hvm hw hB hz1 hk1 hS => ?_)
  obtain ⟨rfl, hB⟩ := hB
  obtain ⟨n2, n3, n4, n5, n6, n7⟩ := u
  try dsimp only at hw
  obtain ⟨bn2, bn4, xr1⟩ := hw
  try clear hw
  obtain ⟨hP1, hK1, hD1, hZc, hZs⟩ := hB
  rw [ht] at hP1 hZc hZs
  obtain ⟨kc8, ekc8⟩ : ∃ z : Nat, z = 0 + n5 := ⟨_, rfl⟩
  obtain ⟨kn9, ekn9⟩ : ∃ z : Nat, z = 0 + n6 := ⟨_, rfl⟩
  refine w_refund (c2 := kc8) (n2 := kn9) (by (first | (apply Int.le_antisymm <;> omega) | omega)) (by (first | (apply Int.le_antisymm <;> omega) | omega)) ?_
  clear hzc hzs hZc hZs
  obtain ⟨hP, hD⟩ := va_join (wr := []) (w1 := (wz_487 h0 n3 0 h0_maybeLatin1 n4 n3 cpb n7 n2)) hP hD [0, 1] [] rfl rfl (by decide) (by decide) hk1 hFc hP1 hD1
  clear hPc hDc hKc hFc hz1 hk1 hP1 hK1 hD1
  rename Heap => H
  have hP : va_P (dC, dI) cls2 (wz_487 h0 n3 0 h0_maybeLatin1 n4 n3 cpb n7 n2) H := hP
  have hD : va_D A (wz_487 h0 n3 0 h0_maybeLatin1 n4 n3 cpb n7 n2) := hD
  refine lv_pop hx hb d_JB_append0_5 rfl ?_
  refine lv_aload_n hx hb d_JB_append0_6 rfl (lv_at hl 0 rfl) ?_
  have hP9 := hP.sb (wq := (wz_487 h0 n3 0 h0_maybeLatin1 n4 n3 cpb n7 n2)) [0, 1] rfl
  have hD9 := hD.sb (wq := (wz_487 h0 n3 0 h0_maybeLatin1 n4 n3 cpb n7 n2)) [0, 1] (by decide) rfl
  refine w_known (fun hzc hzs => ?_)
  refine W.widen (k := 1) (n := 2 * nva + 2) (by (first | (apply Int.le_antisymm <;> omega) | omega)) (by (first | (apply Int.le_antisymm <;> omega) | omega)) ?_
  exact W.aret (v := .ref h0) hx hb hr (Or.inl ⟨_, rfl⟩) (Or.inr ⟨_, rfl⟩) (fun t ht hW => ⟨⟨(n2, n3, n4, kc8, kn9, n7), h0, rfl, ⟨bn2, bn4, ⟨xr1.1, xr1.2.1, by have := xr1.2.2; (first | (apply Int.le_antisymm <;> omega) | omega)⟩⟩, rfl, va_P.he ht.symm hP9, va_K.moved hW.alike hK, hD9, by rw [ht]; exact hzc, by rw [ht]; exact hzs⟩, hS.F ht⟩) hS.2.2 d_JB_append0_7
theorem d_JB_append2_0 : decode b_JB_append2 0 = .ok (.aload_n 0, 1) := bz_c42 (by decide +kernel)
theorem d_JB_append2_1 : decode b_JB_append2 1 = .ok (.aload_n 1, 1) := bz_c43 (by decide +kernel)
theorem d_JB_append2_2 : decode b_JB_append2 2 = .ok (.invokespecial 29, 3) := bz_c183 (by decide +kernel)
theorem d_JB_append2_5 : decode b_JB_append2 5 = .ok (.pop, 1) := bz_c87 (by decide +kernel)
theorem d_JB_append2_6 : decode b_JB_append2 6 = .ok (.aload_n 0, 1) := bz_c42 (by decide +kernel)
theorem d_JB_append2_7 : decode b_JB_append2 7 = .ok (.areturn, 1) := bz_c176 (by decide +kernel)
theorem kM_JB_29 : Cond.methodLink R_JB 29 y_JQ_append2 ∈ lw_g := in_c10 162 rfl rfl
theorem kV_JQ_append2 : Cond.instanceMethod y_JQ_append2 ∈ lw_g := in_c10 163 rfl rfl
theorem kSM_JQ_append2 : Cond.sameMethod R_JQ R_JQ "append" "(Ljava/lang/String;)Ljava/lang/AbstractStringBuilder;" ∈ lw_g := in_c13 226 rfl rfl
abbrev at_JB_append2 (dC : Nat → ClassId) (dI : Nat → Nat → Nat) (sz szl : Nat) (sa : Nat → Nat) (h0 va : Nat) (cpb : ClassId) (h0_maybeLatin1 : Int32) (A : Nat → Prop) (u : (Nat → Int32) × Nat × Int32 × Nat × Nat × Nat) (t : State) : Prop := match u with | (gva, va, h0_count, kcz, knz, nva) => va_P (dC, dI) cls2 (wz_487 h0 va 0 h0_maybeLatin1 h0_count va cpb nva gva) t.heap ∧ va_K (dC, dI) cls2 [(cpb, .byte)] t ∧ va_D A (wz_487 h0 va 0 h0_maybeLatin1 h0_count va cpb nva gva) ∧ t.heap.size ≤ sz + kcz ∧ hsl t.heap ≤ szl + knz
set_option maxHeartbeats 4000000 in
set_option maxRecDepth 100000 in
theorem c_JB_append2 (l : Launch) (hlt : l.stackTraces = false) (dC : Nat → ClassId) (dI : Nat → Nat → Nat) (sz : Nat) (szl : Nat) (sa : Nat → Nat) (tx tv : Nat) (b : List Int32) (h0 va : Nat) (cpb : ClassId) (h0_maybeLatin1 : Int32) (h0_count : Int32) (nva : Nat) (gva : Nat → Int32)  (b_h0_count : 0 ≤ h0_count.toInt ∧ h0_count.toInt ≤ 1000000) (b_gva : ∀ j : Nat, -128 ≤ (gva j).toInt ∧ (gva j).toInt ≤ 127)   (hc : h0_count.toInt ≤ (nva : Int) ∧ (nva : Int) ≤ 400000) (hbb : ∀ j : Nat, -128 ≤ (b.getD j 0).toInt ∧ (b.getD j 0).toInt ≤ 127) (hbl : (b.length : Int) ≤ 100000) : Met l y_JB_append2 w_JB_append2 ({ frames := 5, cells := 1, slots := 2 * nva + 2 + b.length, locals := 116 }) (va_Pc [.ref h0, .ref tx] (fun U => U.heap.size = sz ∧ va_P (dC, dI) cls2 (wz_487 h0 va 0 h0_maybeLatin1 h0_count va cpb nva gva) U.heap ∧ va_K (dC, dI) cls2 [(cpb, .byte)] U ∧ va_D (fun _ => True) (wz_487 h0 va 0 h0_maybeLatin1 h0_count va cpb nva gva) ∧ sm sa (va_A (wz_487 h0 va 0 h0_maybeLatin1 h0_count va cpb nva gva) sz) U U.heap ∧ sw_str tx tv b (va_A (wz_487 h0 va 0 h0_maybeLatin1 h0_count va cpb nva gva) sz) U U.heap ∧ hsl U.heap = szl)) (va_Qr (fun (u : (Nat → Int32) × Nat × Int32 × Nat × Nat × Nat) => match u with | (gva2, va2, h0_count2, kcz2, knz2, nva2) => (∀ j : Nat, -128 ≤ (gva2 j).toInt ∧ (gva2 j).toInt ≤ 127) ∧ (0 ≤ h0_count2.toInt ∧ h0_count2.toInt ≤ 1000000) ∧ (h0_count2.toInt = h0_count.toInt + (b.length : Int) ∧ sbl gva2 h0_count2.toNatClampNeg = sbl gva h0_count.toNatClampNeg ++ b ∧ (nva2 = nva ∧ kcz2 = 0 ∧ knz2 = 0 ∨ (nva : Int) < h0_count.toInt + (b.length : Int) ∧ nva2 ≤ 2 * nva + 2 + b.length ∧ kcz2 ≤ 1 ∧ knz2 = nva2) ∧ h0_count2.toInt ≤ (nva2 : Int))) (fun (u : (Nat → Int32) × Nat × Int32 × Nat × Nat × Nat) (ra : Nat) (t : State) => h0 = ra ∧ (at_JB_append2 dC dI sz szl sa h0 va cpb h0_maybeLatin1 (va_A (wz_487 h0 va 0 h0_maybeLatin1 h0_count va cpb nva gva) sz)) u t) (va_A (wz_487 h0 va 0 h0_maybeLatin1 h0_count va cpb nva gva) sz)) (1) (2 * nva + 2 + b.length) (va_A (wz_487 h0 va 0 h0_maybeLatin1 h0_count va cpb nva gva) sz) := by
  refine Met.ofW (cc := b_JB_append2) (maxL := 2) (ret := (Option.some (.object "java/lang/StringBuilder"))) (by decide) rfl ?_
  intro p e s m args below meth c s₁ B hml hv
  obtain ⟨rfl, hsz, hP, hK, hD0, hSW, hR0, hszl⟩ := hv
  have hx := B.exec
  have hb := B.bytes
  have hr := B.returns
  have hts0 := atoms_spec (ws := w_JB_append2) B.pre
  have hts : ∀ w ∈ lw_g, w.before _ s = true := fun w h => hts0 w (List.mem_cons_of_mem _ h)
  have hown : s.vm.findClass R_JB = some m.cls := findClass_of_methodNamed B.named
  have hlocks := B.notSynchronized
  clear hts0
  subst hsz
  subst hszl
  have hD := hD0.self (sz := s.heap.size)
  generalize hAe : va_A (wz_487 h0 va 0 h0_maybeLatin1 h0_count va cpb nva gva) s.heap.size = A at hD hSW hR0 ⊢
  have hA : ∀ q : Nat, s.heap.size ≤ q → A q := fun q h => by rw [← hAe]; exact Or.inr h
  clear hAe
  have hP : va_P (dC, dI) cls2 (wz_487 h0 va 0 h0_maybeLatin1 h0_count va cpb nva gva) s.heap := hP
  have hl := lv_entry ([.ref h0, .ref tx]) (n := 2) (Nat.le_of_ble_eq_true rfl)
  rw [lg_entry_eq]
  generalize (lg_sl ([.ref h0, .ref tx]) ++ List.replicate (2 - (lg_sl ([.ref h0, .ref tx])).length) Slot.unset).toArray = ls at hl ⊢
  have hl : lv_has ls 2 [(0, .ref h0), (1, .ref tx)] := hl
  have k0 : (0 : Int32).toInt = 0 := by decide
  refine w_gen (A := A) hP (fun H locs hP hS => ?_)
  refine lv_aload_n hx hb d_JB_append2_0 rfl (lv_at hl 0 rfl) ?_
  refine lv_aload_n hx hb d_JB_append2_1 rfl (lv_at hl 1 rfl) ?_
  refine w_known (fun hzc hzs => ?_)
  have hPc := hP.sb (wq := (wz_487 h0 va 0 h0_maybeLatin1 h0_count va cpb nva gva)) [0, 1] rfl
  have hDc := hD.sb (wq := (wz_487 h0 va 0 h0_maybeLatin1 h0_count va cpb nva gva)) [0, 1] (by decide) rfl
  have hKc := hK.sb (tyq := [(cpb, .byte)]) [0] rfl
  have hFc := va_free (wc := (wz_487 h0 va 0 h0_maybeLatin1 h0_count va cpb nva gva)) hD hS hA [0, 1] rfl
  refine va_callr (va_runUp (As := [.ref tx]) (rest := []) ⟨hx, hb, hml, hown, hts⟩ (c_JQ_append2 l hlt dC dI H.size (hsl H) sa tx tv b h0 va cpb h0_maybeLatin1 h0_count nva gva (b_h0_count) (b_gva) (hc) (hbb) (hbl)) ⟨callB_of 1 hts (gW kC_JQ_append2) rfl rfl rfl (hts _ kI_JQ) (hts _ kM_JB_29) (by decide +kernel) ⟨Nat.le_of_ble_eq_true rfl, Nat.le_of_ble_eq_true rfl⟩, hts _ kSM_JQ_append2, hts _ kV_JQ_append2, hts _ kSU_JB, by decide, hts _ kN_JB⟩ ⟨fun a U g mk z => by obtain ⟨z0, z1, zP, zK, zD, zS, zR0, zZ⟩ := z; exact ⟨z0, z1, zP, va_K.moved (u := U) (U := U.calling g mk a) (Vm.Alike.refl U.vm) zK, zD, sm.same (u := U) (U := U.calling g mk a) rfl zS, zR0.moved (u := U) (U := U.calling g mk a) (Vm.Alike.refl U.vm), zZ⟩, va_recv hKc hPc (ci := 17) (q0 := 0) rfl rfl, fun U hU hW => ⟨rfl, by rw [hU], va_P.he hU.symm hPc, va_K.moved hW.alike hKc, hDc.weaken (fun _ _ _ _ => trivial), hSW.call hS hFc hW hU, (hR0).call hS hFc hW hU, by rw [hU]⟩⟩ rfl rfl hl.1 rfl (lv_room (Nat.le_of_ble_eq_true rfl)) d_JB_append2_2 ⟨by dsimp only [headSpec]; (first | (apply Int.le_antisymm <;> omega) | omega), by dsimp only [headSpec]; (first | (apply Int.le_antisymm <;> omega) | omega)⟩) hS (fun q _ h => hFc q h) hFc (fun u ra t H1 locs ht hvm hw hB hz1 hk1 hS => ?_)
  obtain ⟨rfl, hB⟩ := hB
  obtain ⟨n2, n3, n4, n5, n6, n7⟩ := u
  try dsimp only at hw
  obtain ⟨bn2, bn4, xr1⟩ := hw
  try clear hw
  obtain ⟨hP1, hK1, hD1, hZc, hZs⟩ := hB
  rw [ht] at hP1 hZc hZs
  obtain ⟨kc8, ekc8⟩ : ∃ z : Nat, z = 0 + n5 := ⟨_, rfl⟩
  obtain ⟨kn9, ekn9⟩ : ∃ z : Nat, z = 0 + n6 := ⟨_, rfl⟩
  refine w_refund (c2 := kc8) (n2 := kn9) (by (first | (apply Int.le_antisymm <;> omega) | omega)) (by (first | (apply Int.le_antisymm <;> omega) | omega)) ?_
  clear hzc hzs hZc hZs
  obtain ⟨hP, hD⟩ := va_join (wr := []) (w1 := (wz_487 h0 n3 0 h0_maybeLatin1 n4 n3 cpb n7 n2)) hP hD [0, 1] [] rfl rfl (by decide) (by decide) hk1 hFc hP1 hD1
  clear hPc hDc hKc hFc hz1 hk1 hP1 hK1 hD1
  rename Heap => H
  have hP : va_P (dC, dI) cls2 (wz_487 h0 n3 0 h0_maybeLatin1 n4 n3 cpb n7 n2) H := hP
  have hD : va_D A (wz_487 h0 n3 0 h0_maybeLatin1 n4 n3 cpb n7 n2) := hD
  refine lv_pop hx hb d_JB_append2_5 rfl ?_
  refine lv_aload_n hx hb d_JB_append2_6 rfl (lv_at hl 0 rfl) ?_
  have hP9 := hP.sb (wq := (wz_487 h0 n3 0 h0_maybeLatin1 n4 n3 cpb n7 n2)) [0, 1] rfl
  have hD9 := hD.sb (wq := (wz_487 h0 n3 0 h0_maybeLatin1 n4 n3 cpb n7 n2)) [0, 1] (by decide) rfl
  refine w_known (fun hzc hzs => ?_)
  refine W.widen (k := 1) (n := 2 * nva + 2 + b.length) (by (first | (apply Int.le_antisymm <;> omega) | omega)) (by (first | (apply Int.le_antisymm <;> omega) | omega)) ?_
  exact W.aret (v := .ref h0) hx hb hr (Or.inl ⟨_, rfl⟩) (Or.inr ⟨_, rfl⟩) (fun t ht hW => ⟨⟨(n2, n3, n4, kc8, kn9, n7), h0, rfl, ⟨bn2, bn4, ⟨xr1.1, xr1.2.1, by have := xr1.2.2.1; (first | (apply Int.le_antisymm <;> omega) | omega), xr1.2.2.2⟩⟩, rfl, va_P.he ht.symm hP9, va_K.moved hW.alike hK, hD9, by rw [ht]; exact hzc, by rw [ht]; exact hzs⟩, hS.F ht⟩) hS.2.2 d_JB_append2_7
abbrev b_JB_length : ByteArray := prog_34_method_93_code
def y_JB_length : MethodName := ⟨R_JB, "length", "()I"⟩
abbrev w_JB_length : List Cond := .code y_JB_length b_JB_length 1 (Option.some .int) :: lw_g
theorem kC_JB_length : Cond.code y_JB_length b_JB_length 1 (Option.some .int) ∈ lw_g := in_c10 107 rfl rfl
theorem d_JB_length_0 : decode b_JB_length 0 = .ok (.aload_n 0, 1) := bz_c42 (by decide +kernel)
theorem d_JB_length_1 : decode b_JB_length 1 = .ok (.invokespecial 343, 3) := bz_c183 (by decide +kernel)
theorem d_JB_length_4 : decode b_JB_length 4 = .ok (.ireturn, 1) := bz_c172 (by decide +kernel)
theorem kM_JB_343 : Cond.methodLink R_JB 343 y_JQ_length ∈ lw_g := in_c10 108 rfl rfl
theorem kV_JQ_length : Cond.instanceMethod y_JQ_length ∈ lw_g := in_c10 103 rfl rfl
theorem kSM_JQ_length : Cond.sameMethod R_JQ R_JQ "length" "()I" ∈ lw_g := in_c10 104 rfl rfl
abbrev at_JB_length (dC : Nat → ClassId) (dI : Nat → Nat → Nat) (sa : Nat → Nat) (h0 va : Nat) (h0_maybeLatin1 : Int32) (h0_count : Int32) (A : Nat → Prop) (u : Unit) (t : State) : Prop := match u with | _ => va_P (dC, dI) cls2 [(h0, .inr (17, [.ref va, .int 0, .int h0_maybeLatin1, .int h0_count]))] t.heap ∧ va_K (dC, dI) cls2 [] t ∧ va_D A [(h0, .inr (17, [.ref va, .int 0, .int h0_maybeLatin1, .int h0_count]))]
set_option maxHeartbeats 4000000 in
set_option maxRecDepth 100000 in
theorem c_JB_length (l : Launch) (hlt : l.stackTraces = false) (dC : Nat → ClassId) (dI : Nat → Nat → Nat) (sz : Nat) (sa : Nat → Nat) (h0 va : Nat) (h0_maybeLatin1 : Int32) (h0_count : Int32)  (b_h0_count : 0 ≤ h0_count.toInt ∧ h0_count.toInt ≤ 1000000)    : Met l y_JB_length w_JB_length ({ frames := 1, cells := 0, slots := 0, locals := 20 }) (va_Pc [.ref h0] (fun U => U.heap.size = sz ∧ va_P (dC, dI) cls2 [(h0, .inr (17, [.ref va, .int 0, .int h0_maybeLatin1, .int h0_count]))] U.heap ∧ va_K (dC, dI) cls2 [] U ∧ va_D (fun _ => True) [(h0, .inr (17, [.ref va, .int 0, .int h0_maybeLatin1, .int h0_count]))] ∧ sm sa (va_A [(h0, .inr (17, [.ref va, .int 0, .int h0_maybeLatin1, .int h0_count]))] sz) U U.heap)) (va_Qi (fun (r : Int32) (u : Unit) => match u with | _ => (r = h0_count)) (at_JB_length dC dI sa h0 va h0_maybeLatin1 h0_count (va_A [(h0, .inr (17, [.ref va, .int 0, .int h0_maybeLatin1, .int h0_count]))] sz)) (va_A [(h0, .inr (17, [.ref va, .int 0, .int h0_maybeLatin1, .int h0_count]))] sz)) 0 0 (va_A [(h0, .inr (17, [.ref va, .int 0, .int h0_maybeLatin1, .int h0_count]))] sz) := by
  refine Met.ofW (cc := b_JB_length) (maxL := 1) (ret := (Option.some .int)) (by decide) rfl ?_
  intro p e s m args below meth c s₁ B hml hv
  obtain ⟨rfl, hsz, hP, hK, hD0, hSW⟩ := hv
  have hx := B.exec
  have hb := B.bytes
  have hr := B.returns
  have hts0 := atoms_spec (ws := w_JB_length) B.pre
  have hts : ∀ w ∈ lw_g, w.before _ s = true := fun w h => hts0 w (List.mem_cons_of_mem _ h)
  have hown : s.vm.findClass R_JB = some m.cls := findClass_of_methodNamed B.named
  have hlocks := B.notSynchronized
  clear hts0
  subst hsz
  have hD := hD0.self (sz := s.heap.size)
  generalize hAe : va_A [(h0, .inr (17, [.ref va, .int 0, .int h0_maybeLatin1, .int h0_count]))] s.heap.size = A at hD hSW ⊢
  have hA : ∀ q : Nat, s.heap.size ≤ q → A q := fun q h => by rw [← hAe]; exact Or.inr h
  clear hAe
  have hP : va_P (dC, dI) cls2 [(h0, .inr (17, [.ref va, .int 0, .int h0_maybeLatin1, .int h0_count]))] s.heap := hP
  have hl := lv_entry ([.ref h0]) (n := 1) (Nat.le_of_ble_eq_true rfl)
  rw [lg_entry_eq]
  generalize (lg_sl ([.ref h0]) ++ List.replicate (1 - (lg_sl ([.ref h0])).length) Slot.unset).toArray = ls at hl ⊢
  have hl : lv_has ls 1 [(0, .ref h0)] := hl
  have k0 : (0 : Int32).toInt = 0 := by decide
  refine w_gen (A := A) hP (fun H locs hP hS => ?_)
  refine lv_aload_n hx hb d_JB_length_0 rfl (lv_at hl 0 rfl) ?_
  have hPc := hP.sb (wq := [(h0, .inr (17, [.ref va, .int 0, .int h0_maybeLatin1, .int h0_count]))]) [0] rfl
  have hDc := hD.sb (wq := [(h0, .inr (17, [.ref va, .int 0, .int h0_maybeLatin1, .int h0_count]))]) [0] (by decide) rfl
  have hKc := hK.sb (tyq := []) [] rfl
  have hFc := va_free (wc := [(h0, .inr (17, [.ref va, .int 0, .int h0_maybeLatin1, .int h0_count]))]) hD hS hA [0] rfl
  refine va_calli (va_runUp (As := []) (rest := []) ⟨hx, hb, hml, hown, hts⟩ (c_JQ_length l hlt dC dI H.size h0 va h0_maybeLatin1 h0_count (b_h0_count)) ⟨callB_of 0 hts (gW kC_JQ_length) rfl rfl rfl (hts _ kI_JQ) (hts _ kM_JB_343) (by decide +kernel) ⟨Nat.le_of_ble_eq_true rfl, Nat.le_of_ble_eq_true rfl⟩, hts _ kSM_JQ_length, hts _ kV_JQ_length, hts _ kSU_JB, by decide, hts _ kN_JB⟩ ⟨fun a U g mk z => by obtain ⟨z0, z1, zP, zK, zD⟩ := z; exact ⟨z0, z1, zP, va_K.moved (u := U) (U := U.calling g mk a) (Vm.Alike.refl U.vm) zK, zD⟩, va_recv hKc hPc (ci := 17) (q0 := 0) rfl rfl, fun U hU hW => ⟨rfl, by rw [hU], va_P.he hU.symm hPc, va_K.moved hW.alike hKc, hDc.weaken (fun _ _ _ _ => trivial)⟩⟩ rfl rfl hl.1 rfl (lv_room (Nat.le_of_ble_eq_true rfl)) d_JB_length_1 ⟨(Nat.zero_le _), (Nat.zero_le _)⟩) hS (fun q _ h => hFc q h) hFc (fun r1 u t H1 locs ht hvm hw hB hz1 hk1 hS => ?_)
  try dsimp only at hw
  have xr1 := hw
  try clear hw
  obtain ⟨hP1, hK1, hD1⟩ := hB
  replace hP1 := va_P.he ht hP1
  obtain ⟨hP, hD⟩ := va_join (wr := []) (w1 := [(h0, .inr (17, [.ref va, .int 0, .int h0_maybeLatin1, .int h0_count]))]) hP hD [0] [] rfl rfl (by decide) (by decide) hk1 hFc hP1 hD1
  clear hPc hDc hKc hFc hz1 hk1 hP1 hK1 hD1
  rename Heap => H
  have hP : va_P (dC, dI) cls2 [(h0, .inr (17, [.ref va, .int 0, .int h0_maybeLatin1, .int h0_count]))] H := hP
  have hD : va_D A [(h0, .inr (17, [.ref va, .int 0, .int h0_maybeLatin1, .int h0_count]))] := hD
  have hP9 := hP.sb (wq := [(h0, .inr (17, [.ref va, .int 0, .int h0_maybeLatin1, .int h0_count]))]) [0] rfl
  have hD9 := hD.sb (wq := [(h0, .inr (17, [.ref va, .int 0, .int h0_maybeLatin1, .int h0_count]))]) [0] (by decide) rfl
  exact W.iret (v := r1) hx hb hr (fun t ht hW => ⟨⟨r1, (), rfl, (xr1), va_P.he ht.symm hP9, va_K.moved hW.alike hK, hD9⟩, hS.F ht⟩) hS.2.2 d_JB_length_4
abbrev b_JQ_init : ByteArray := prog_20_method_2_code
def y_JQ_init : MethodName := ⟨R_JQ, "<init>", "(I)V"⟩
abbrev w_JQ_init : List Cond := .code y_JQ_init b_JQ_init 2 none :: lw_g
theorem kC_JQ_init : Cond.code y_JQ_init b_JQ_init 2 none ∈ lw_g := in_c9 223 rfl rfl
theorem d_JQ_init_0 : decode b_JQ_init 0 = .ok (.aload_n 0, 1) := bz_c42 (by decide +kernel)
theorem d_JQ_init_1 : decode b_JQ_init 1 = .ok (.invokespecial 3, 3) := bz_c183 (by decide +kernel)
theorem d_JQ_init_4 : decode b_JQ_init 4 = .ok (.getstatic 18, 3) := bz_c178 (by decide +kernel)
theorem d_JQ_init_7 : decode b_JQ_init 7 = .ok (.ifCond .eq 18, 3) := bz_c153 (by decide +kernel)
theorem d_JQ_init_10 : decode b_JQ_init 10 = .ok (.aload_n 0, 1) := bz_c42 (by decide +kernel)
theorem d_JQ_init_11 : decode b_JQ_init 11 = .ok (.iload_n 1, 1) := bz_c27 (by decide +kernel)
theorem d_JQ_init_12 : decode b_JQ_init 12 = .ok (.newarray .byte, 2) := by decide +kernel
theorem d_JQ_init_14 : decode b_JQ_init 14 = .ok (.putfield 15, 3) := bz_c181 (by decide +kernel)
theorem d_JQ_init_17 : decode b_JQ_init 17 = .ok (.aload_n 0, 1) := bz_c42 (by decide +kernel)
theorem d_JQ_init_18 : decode b_JQ_init 18 = .ok (.iconst 0, 1) := bz_c3 (by decide +kernel)
theorem d_JQ_init_19 : decode b_JQ_init 19 = .ok (.putfield 22, 3) := bz_c181 (by decide +kernel)
theorem d_JQ_init_22 : decode b_JQ_init 22 = .ok (.goto 16, 3) := bz_c167 (by decide +kernel)
theorem d_JQ_init_25 : decode b_JQ_init 25 = .ok (.aload_n 0, 1) := bz_c42 (by decide +kernel)
theorem d_JQ_init_26 : decode b_JQ_init 26 = .ok (.iload_n 1, 1) := bz_c27 (by decide +kernel)
theorem d_JQ_init_27 : decode b_JQ_init 27 = .ok (.invokestatic 26, 3) := bz_c184 (by decide +kernel)
theorem d_JQ_init_30 : decode b_JQ_init 30 = .ok (.putfield 15, 3) := bz_c181 (by decide +kernel)
theorem d_JQ_init_33 : decode b_JQ_init 33 = .ok (.aload_n 0, 1) := bz_c42 (by decide +kernel)
theorem d_JQ_init_34 : decode b_JQ_init 34 = .ok (.iconst 1, 1) := bz_c4 (by decide +kernel)
theorem d_JQ_init_35 : decode b_JQ_init 35 = .ok (.putfield 22, 3) := bz_c181 (by decide +kernel)
theorem d_JQ_init_38 : decode b_JQ_init 38 = .ok (.return_, 1) := bz_c177 (by decide +kernel)
abbrev b_JF_newBytesFor : ByteArray := prog_36_method_2_code
def y_JF_newBytesFor : MethodName := ⟨R_JF, "newBytesFor", "(I)[B"⟩
abbrev w_JF_newBytesFor : List Cond := .code y_JF_newBytesFor b_JF_newBytesFor 1 (Option.some (.array .byte)) :: lw_g
theorem kC_JF_newBytesFor : Cond.code y_JF_newBytesFor b_JF_newBytesFor 1 (Option.some (.array .byte)) ∈ lw_g := in_c9 228 rfl rfl
theorem kM_JQ_26 : Cond.methodLink R_JQ 26 y_JF_newBytesFor ∈ lw_g := in_c9 226 rfl rfl
theorem kT_JF_newBytesFor : Cond.static y_JF_newBytesFor ∈ lw_g := in_c9 227 rfl rfl
theorem kM_JQ_3 : Cond.methodLink R_JQ 3 Lib.objectInit ∈ lw_g := in_c9 224 rfl rfl
abbrev at_JQ_init (dC : Nat → ClassId) (dI : Nat → Nat → Nat) (sz szl : Nat) (sa : Nat → Nat) (h0 : Nat) (cpb : ClassId) (h0_value : Value) (h0_coder : Int32) (h0_maybeLatin1 : Int32) (h0_count : Int32) (A : Nat → Prop) (u : (Nat → Int32) × Nat × Nat × Nat × Nat) (t : State) : Prop := match u with | (gnw, kcz, knz, nnw, nw) => va_P (dC, dI) cls2 (wz_487 h0 nw 0 h0_maybeLatin1 h0_count nw cpb nnw gnw) t.heap ∧ va_K (dC, dI) cls2 [(cpb, .byte)] t ∧ va_D A (wz_487 h0 nw 0 h0_maybeLatin1 h0_count nw cpb nnw gnw) ∧ t.heap.size ≤ sz + kcz ∧ hsl t.heap ≤ szl + knz
set_option maxHeartbeats 4000000 in
set_option maxRecDepth 100000 in
theorem c_JQ_init (l : Launch) (hlt : l.stackTraces = false) (dC : Nat → ClassId) (dI : Nat → Nat → Nat) (sz : Nat) (szl : Nat) (sa : Nat → Nat) (h0 : Nat) (cpb : ClassId) (h0_value : Value) (h0_coder : Int32) (h0_maybeLatin1 : Int32) (h0_count : Int32)   (p0 : Int32) (ba0 : 0 ≤ p0.toInt ∧ p0.toInt ≤ 100000)  : Met l y_JQ_init w_JQ_init ({ frames := 1, cells := 1, slots := p0.toInt.toNat, locals := 20 }) (va_Pc [.ref h0, .int p0] (fun U => U.heap.size = sz ∧ va_P (dC, dI) cls2 [(h0, .inr (17, [h0_value, .int h0_coder, .int h0_maybeLatin1, .int h0_count]))] U.heap ∧ va_K (dC, dI) cls2 [(cpb, .byte)] U ∧ va_D (fun _ => True) [(h0, .inr (17, [h0_value, .int h0_coder, .int h0_maybeLatin1, .int h0_count]))] ∧ sm sa (va_A [(h0, .inr (17, [h0_value, .int h0_coder, .int h0_maybeLatin1, .int h0_count]))] sz) U U.heap ∧ hsl U.heap = szl)) (va_Qv (fun (u : (Nat → Int32) × Nat × Nat × Nat × Nat) => match u with | (gnw2, kcz2, knz2, nnw2, nw2) => (∀ j : Nat, -128 ≤ (gnw2 j).toInt ∧ (gnw2 j).toInt ≤ 127) ∧ ((nnw2 : Int) = p0.toInt ∧ kcz2 = 1 ∧ knz2 = nnw2)) (at_JQ_init dC dI sz szl sa h0 cpb h0_value h0_coder h0_maybeLatin1 h0_count (va_A [(h0, .inr (17, [h0_value, .int h0_coder, .int h0_maybeLatin1, .int h0_count]))] sz)) (va_A [(h0, .inr (17, [h0_value, .int h0_coder, .int h0_maybeLatin1, .int h0_count]))] sz)) (1) (p0.toInt.toNat) (va_A [(h0, .inr (17, [h0_value, .int h0_coder, .int h0_maybeLatin1, .int h0_count]))] sz) := by
  refine Met.ofW (cc := b_JQ_init) (maxL := 2) (ret := none) (by decide) rfl ?_
  intro p e s m args below meth c s₁ B hml hv
  obtain ⟨rfl, hsz, hP, hK, hD0, hSW, hszl⟩ := hv
  have hx := B.exec
  have hb := B.bytes
  have hr := B.returns
  have hts0 := atoms_spec (ws := w_JQ_init) B.pre
  have hts : ∀ w ∈ lw_g, w.before _ s = true := fun w h => hts0 w (List.mem_cons_of_mem _ h)
  have hown : s.vm.findClass R_JQ = some m.cls := findClass_of_methodNamed B.named
  have hlocks := B.notSynchronized
  clear hts0
  subst hsz
  subst hszl
  have hD := hD0.self (sz := s.heap.size)
  generalize hAe : va_A [(h0, .inr (17, [h0_value, .int h0_coder, .int h0_maybeLatin1, .int h0_count]))] s.heap.size = A at hD hSW ⊢
  have hA : ∀ q : Nat, s.heap.size ≤ q → A q := fun q h => by rw [← hAe]; exact Or.inr h
  clear hAe
  have hP : va_P (dC, dI) cls2 [(h0, .inr (17, [h0_value, .int h0_coder, .int h0_maybeLatin1, .int h0_count]))] s.heap := hP
  have hl := lv_entry ([.ref h0, .int p0]) (n := 2) (Nat.le_of_ble_eq_true rfl)
  rw [lg_entry_eq]
  generalize (lg_sl ([.ref h0, .int p0]) ++ List.replicate (2 - (lg_sl ([.ref h0, .int p0])).length) Slot.unset).toArray = ls at hl ⊢
  have hl : lv_has ls 2 [(0, .ref h0), (1, .int p0)] := hl
  have k0 : (0 : Int32).toInt = 0 := by decide
  refine w_gen (A := A) hP (fun H locs hP hS => ?_)
  have k1 : (1 : Int32).toInt = 1 := by decide
  have lo_p0 := i32_lo p0
  have hi_p0 := i32_hi p0
  have hin : meth.name = "<init>" := (name_of_methodNamed B.named B.method).1
  refine lv_aload_n hx hb d_JQ_init_0 rfl (lv_at hl 0 rfl) ?_
  refine W.objInit hx hb hown (hts _ kM_JQ_3) (hts _ kV_oi) (hts _ kC_oi) rfl (by rw [hml]; exact hl.1) rfl d_JQ_init_1 (Nat.le_of_ble_eq_true rfl) (Nat.le_of_ble_eq_true rfl) ?_
  refine W.eq (g2 := F0 m 4 ls []) rfl ?_
  refine va_gets (C := "java/lang/String") (n := "COMPACT_STRINGS") (d := "Z") (v := .int 1) hx hb hSW.1.2.2.2.2.2.2.2.2.2.2.2.1 hS hown (hts _ kF_JQ_18) (fun _ h9 => h9) d_JQ_init_4 ?_
  have k19 : (1 : Int32).toInt = 1 := by decide
  refine lv_if_eq (tgt := 25) hx hb d_JQ_init_7 (by decide) (fun c7 => absurd (eqI c7) (by (first | (apply Int.le_antisymm <;> omega) | omega))) (fun c7 => ?_)
  have q7 := neI c7
  refine lv_aload_n hx hb d_JQ_init_10 rfl (lv_at hl 0 rfl) ?_
  refine lv_iload_n hx hb d_JQ_init_11 rfl (lv_at hl 1 rfl) ?_
  obtain ⟨N1, eN1⟩ : ∃ z : Nat, p0.toNatClampNeg = z := ⟨_, rfl⟩
  have tN1 : (N1 : Int) = p0.toInt := by rw [← eN1]; exact i32_clamp (by (first | (apply Int.le_antisymm <;> omega) | omega))
  refine vn_newb hx hb (hts _ ka_byte) hK hP hD hS hA 0 rfl N1 (nneg9 (by (first | (apply Int.le_antisymm <;> omega) | omega))) eN1 (by (first | (apply Int.le_antisymm <;> omega) | omega)) (by dsimp only [headSpec]; (first | (apply Int.le_antisymm <;> omega) | omega)) (by dsimp only [headSpec]; (first | (apply Int.le_antisymm <;> omega) | omega)) d_JQ_init_12 (fun nq12 H hP hD hS => ?_)
  have hP : va_P (dC, dI) cls2 [(h0, .inr (17, [h0_value, .int h0_coder, .int h0_maybeLatin1, .int h0_count])), (nq12, .inl (cpb, N1, .inl (fun _ => 0)))] H := hP
  have hD : va_D A [(h0, .inr (17, [h0_value, .int h0_coder, .int h0_maybeLatin1, .int h0_count])), (nq12, .inl (cpb, N1, .inl (fun _ => 0)))] := hD
  refine va_put (D := (dC, dI)) (ci := 17) (v := .ref nq12) (ty := .array .byte) (C := R_JB) (T := F_JB) (N := 4) hx hb hts i_JB t_JB t_JB_ok n_JB hown hK hP hD hS 0 rfl rfl 0 (by decide) (hts _ kF_JQ_15) (fun _ h9 => h9) rfl (by decide +kernel) rfl rfl (Nat.le_of_ble_eq_true rfl) d_JQ_init_14 (fun H locs hP hD hS => ?_)
  refine lv_aload_n hx hb d_JQ_init_17 rfl (lv_at hl 0 rfl) ?_
  refine lv_iconst (v := 0) hx hb d_JQ_init_18 (by decide) ?_
  refine va_put (D := (dC, dI)) (ci := 17) (v := .int 0) (ty := .byte) (C := R_JB) (T := F_JB) (N := 4) hx hb hts i_JB t_JB t_JB_ok n_JB hown hK hP hD hS 0 rfl rfl 1 (by decide) (hts _ kF_JQ_22) (fun _ h9 => h9) rfl (by decide +kernel) rfl rfl (Nat.le_of_ble_eq_true rfl) d_JQ_init_19 (fun H locs hP hD hS => ?_)
  refine lv_goto (tgt := 38) hx hb d_JQ_init_22 (by decide) ?_
  have hP9 := hP.sb (wq := (wz_487 h0 nq12 0 h0_maybeLatin1 h0_count nq12 cpb N1 (fun _ => 0))) [0, 1] rfl
  have hD9 := hD.sb (wq := (wz_487 h0 nq12 0 h0_maybeLatin1 h0_count nq12 cpb N1 (fun _ => 0))) [0, 1] (by decide) rfl
  refine w_known (fun hzc hzs => ?_)
  refine W.widen (k := 1) (n := p0.toInt.toNat) (by (first | (apply Int.le_antisymm <;> omega) | omega)) (by (first | (apply Int.le_antisymm <;> omega) | omega)) ?_
  exact W.vret hx hb hr (fun t ht hW => ⟨⟨(fun _ => 0, 0 + 1, 0 + N1, N1, nq12), rfl, ⟨zero_el, ⟨by (first | (apply Int.le_antisymm <;> omega) | omega), by (first | (apply Int.le_antisymm <;> omega) | omega), by (first | (apply Int.le_antisymm <;> omega) | omega)⟩⟩, va_P.he ht.symm hP9, va_K.moved hW.alike hK, hD9, by rw [ht]; exact hzc, by rw [ht]; exact hzs⟩, hS.F ht⟩) hS.2.2 d_JQ_init_38
theorem d_JB_init_0 : decode b_JB_init 0 = .ok (.aload_n 0, 1) := bz_c42 (by decide +kernel)
theorem d_JB_init_1 : decode b_JB_init 1 = .ok (.bipush 16, 2) := bz_c16 (by decide +kernel)
theorem d_JB_init_3 : decode b_JB_init 3 = .ok (.invokespecial 1, 3) := bz_c183 (by decide +kernel)
theorem d_JB_init_6 : decode b_JB_init 6 = .ok (.return_, 1) := bz_c177 (by decide +kernel)
theorem kM_JB_1 : Cond.methodLink R_JB 1 y_JQ_init ∈ lw_g := in_c9 221 rfl rfl
theorem kV_JQ_init : Cond.instanceMethod y_JQ_init ∈ lw_g := in_c9 222 rfl rfl
abbrev at_JB_init (dC : Nat → ClassId) (dI : Nat → Nat → Nat) (sz szl : Nat) (sa : Nat → Nat) (h0 : Nat) (cpb : ClassId) (h0_value : Value) (h0_coder : Int32) (h0_maybeLatin1 : Int32) (h0_count : Int32) (A : Nat → Prop) (u : (Nat → Int32) × Nat × Nat × Nat × Nat) (t : State) : Prop := match u with | (gnw, kcz, knz, nnw, nw) => va_P (dC, dI) cls2 (wz_487 h0 nw 0 h0_maybeLatin1 h0_count nw cpb nnw gnw) t.heap ∧ va_K (dC, dI) cls2 [(cpb, .byte)] t ∧ va_D A (wz_487 h0 nw 0 h0_maybeLatin1 h0_count nw cpb nnw gnw) ∧ t.heap.size ≤ sz + kcz ∧ hsl t.heap ≤ szl + knz
set_option maxHeartbeats 4000000 in
set_option maxRecDepth 100000 in
theorem c_JB_init (l : Launch) (hlt : l.stackTraces = false) (dC : Nat → ClassId) (dI : Nat → Nat → Nat) (sz : Nat) (szl : Nat) (sa : Nat → Nat) (h0 : Nat) (cpb : ClassId) (h0_value : Value) (h0_coder : Int32) (h0_maybeLatin1 : Int32) (h0_count : Int32)      : Met l y_JB_init w_JB_init ({ frames := 2, cells := 1, slots := 16, locals := 41 }) (va_Pc [.ref h0] (fun U => U.heap.size = sz ∧ va_P (dC, dI) cls2 [(h0, .inr (17, [h0_value, .int h0_coder, .int h0_maybeLatin1, .int h0_count]))] U.heap ∧ va_K (dC, dI) cls2 [(cpb, .byte)] U ∧ va_D (fun _ => True) [(h0, .inr (17, [h0_value, .int h0_coder, .int h0_maybeLatin1, .int h0_count]))] ∧ sm sa (va_A [(h0, .inr (17, [h0_value, .int h0_coder, .int h0_maybeLatin1, .int h0_count]))] sz) U U.heap ∧ hsl U.heap = szl)) (va_Qv (fun (u : (Nat → Int32) × Nat × Nat × Nat × Nat) => match u with | (gnw2, kcz2, knz2, nnw2, nw2) => (∀ j : Nat, -128 ≤ (gnw2 j).toInt ∧ (gnw2 j).toInt ≤ 127) ∧ (nnw2 = 16 ∧ kcz2 = 1 ∧ knz2 = 16)) (at_JB_init dC dI sz szl sa h0 cpb h0_value h0_coder h0_maybeLatin1 h0_count (va_A [(h0, .inr (17, [h0_value, .int h0_coder, .int h0_maybeLatin1, .int h0_count]))] sz)) (va_A [(h0, .inr (17, [h0_value, .int h0_coder, .int h0_maybeLatin1, .int h0_count]))] sz)) (1) (16) (va_A [(h0, .inr (17, [h0_value, .int h0_coder, .int h0_maybeLatin1, .int h0_count]))] sz) := by
  refine Met.ofW (cc := b_JB_init) (maxL := 1) (ret := none) (by decide) rfl ?_
  intro p e s m args below meth c s₁ B hml hv
  obtain ⟨rfl, hsz, hP, hK, hD0, hSW, hszl⟩ := hv
  have hx := B.exec
  have hb := B.bytes
  have hr := B.returns
  have hts0 := atoms_spec (ws := w_JB_init) B.pre
  have hts : ∀ w ∈ lw_g, w.before _ s = true := fun w h => hts0 w (List.mem_cons_of_mem _ h)
  have hown : s.vm.findClass R_JB = some m.cls := findClass_of_methodNamed B.named
  have hlocks := B.notSynchronized
  clear hts0
  subst hsz
  subst hszl
  have hD := hD0.self (sz := s.heap.size)
  generalize hAe : va_A [(h0, .inr (17, [h0_value, .int h0_coder, .int h0_maybeLatin1, .int h0_count]))] s.heap.size = A at hD hSW ⊢
  have hA : ∀ q : Nat, s.heap.size ≤ q → A q := fun q h => by rw [← hAe]; exact Or.inr h
  clear hAe
  have hP : va_P (dC, dI) cls2 [(h0, .inr (17, [h0_value, .int h0_coder, .int h0_maybeLatin1, .int h0_count]))] s.heap := hP
  have hl := lv_entry ([.ref h0]) (n := 1) (Nat.le_of_ble_eq_true rfl)
  rw [lg_entry_eq]
  generalize (lg_sl ([.ref h0]) ++ List.replicate (1 - (lg_sl ([.ref h0])).length) Slot.unset).toArray = ls at hl ⊢
  have hl : lv_has ls 1 [(0, .ref h0)] := hl
  have k0 : (0 : Int32).toInt = 0 := by decide
  refine w_gen (A := A) hP (fun H locs hP hS => ?_)
  have k16 : (16 : Int32).toInt = 16 := by decide
  have hin : meth.name = "<init>" := (name_of_methodNamed B.named B.method).1
  refine lv_aload_n hx hb d_JB_init_0 rfl (lv_at hl 0 rfl) ?_
  refine lv_bipush (v := 16) hx hb d_JB_init_1 (by decide) ?_
  refine w_known (fun hzc hzs => ?_)
  have hPc := hP.sb (wq := [(h0, .inr (17, [h0_value, .int h0_coder, .int h0_maybeLatin1, .int h0_count]))]) [0] rfl
  have hDc := hD.sb (wq := [(h0, .inr (17, [h0_value, .int h0_coder, .int h0_maybeLatin1, .int h0_count]))]) [0] (by decide) rfl
  have hKc := hK.sb (tyq := [(cpb, .byte)]) [0] rfl
  have hFc := va_free (wc := [(h0, .inr (17, [h0_value, .int h0_coder, .int h0_maybeLatin1, .int h0_count]))]) hD hS hA [0] rfl
  refine va_callv (va_runI (As := [.int 16]) (rest := []) ⟨hx, hb, hml, hown, hts⟩ (c_JQ_init l hlt dC dI H.size (hsl H) sa h0 cpb h0_value h0_coder h0_maybeLatin1 h0_count 16 (by (try dsimp only) <;> (first | (apply Int.le_antisymm <;> omega) | omega))) ⟨callB_of 1 hts (gW kC_JQ_init) rfl rfl rfl (hts _ kI_JQ) (hts _ kM_JB_1) (by decide +kernel) ⟨Nat.le_of_ble_eq_true rfl, Nat.le_of_ble_eq_true rfl⟩, rfl, hts _ kV_JQ_init⟩ ⟨fun a U g mk z => by obtain ⟨z0, z1, zP, zK, zD, zS, zZ⟩ := z; exact ⟨z0, z1, zP, va_K.moved (u := U) (U := U.calling g mk a) (Vm.Alike.refl U.vm) zK, zD, sm.same (u := U) (U := U.calling g mk a) rfl zS, zZ⟩, fun U hU hW => ⟨rfl, by rw [hU], va_P.he hU.symm hPc, va_K.moved hW.alike hKc, hDc.weaken (fun _ _ _ _ => trivial), hSW.call hS hFc hW hU, by rw [hU]⟩⟩ rfl rfl hl.1 rfl (lv_room (Nat.le_of_ble_eq_true rfl)) d_JB_init_3 ⟨by dsimp only [headSpec]; (first | (apply Int.le_antisymm <;> omega) | omega), by dsimp only [headSpec]; (first | (apply Int.le_antisymm <;> omega) | omega)⟩) hS (fun q _ h => hFc q h) hFc (fun u t H1 locs ht hvm hw hB hz1 hk1 hS => ?_)
  obtain ⟨n2, n3, n4, n5, nq3_nw⟩ := u
  try dsimp only at hw
  obtain ⟨bn2, xr1⟩ := hw
  try clear hw
  obtain ⟨y1, y2, y3⟩ := xr1
  obtain ⟨hP1, hK1, hD1, hZc, hZs⟩ := hB
  rw [ht] at hP1 hZc hZs
  obtain ⟨kc6, ekc6⟩ : ∃ z : Nat, z = 0 + n3 := ⟨_, rfl⟩
  obtain ⟨kn7, ekn7⟩ : ∃ z : Nat, z = 0 + n4 := ⟨_, rfl⟩
  refine w_refund (c2 := kc6) (n2 := kn7) (by (first | (apply Int.le_antisymm <;> omega) | omega)) (by (first | (apply Int.le_antisymm <;> omega) | omega)) ?_
  clear hzc hzs hZc hZs
  obtain ⟨hP, hD⟩ := va_join (wr := []) (w1 := (wz_487 h0 nq3_nw 0 h0_maybeLatin1 h0_count nq3_nw cpb n5 n2)) hP hD [0] [] rfl rfl (by decide) (by decide) hk1 hFc hP1 hD1
  clear hPc hDc hKc hFc hz1 hk1 hP1 hK1 hD1
  rename Heap => H
  have hP : va_P (dC, dI) cls2 (wz_487 h0 nq3_nw 0 h0_maybeLatin1 h0_count nq3_nw cpb n5 n2) H := hP
  have hD : va_D A (wz_487 h0 nq3_nw 0 h0_maybeLatin1 h0_count nq3_nw cpb n5 n2) := hD
  have hP9 := hP.sb (wq := (wz_487 h0 nq3_nw 0 h0_maybeLatin1 h0_count nq3_nw cpb n5 n2)) [0, 1] rfl
  have hD9 := hD.sb (wq := (wz_487 h0 nq3_nw 0 h0_maybeLatin1 h0_count nq3_nw cpb n5 n2)) [0, 1] (by decide) rfl
  refine w_known (fun hzc hzs => ?_)
  refine W.widen (k := 1) (n := 16) (by (first | (apply Int.le_antisymm <;> omega) | omega)) (by (first | (apply Int.le_antisymm <;> omega) | omega)) ?_
  exact W.vret hx hb hr (fun t ht hW => ⟨⟨(n2, kc6, kn7, n5, nq3_nw), rfl, ⟨bn2, ⟨by (first | (apply Int.le_antisymm <;> omega) | omega), by (first | (apply Int.le_antisymm <;> omega) | omega), by (first | (apply Int.le_antisymm <;> omega) | omega)⟩⟩, va_P.he ht.symm hP9, va_K.moved hW.alike hK, hD9, by rw [ht]; exact hzc, by rw [ht]; exact hzs⟩, hS.F ht⟩) hS.2.2 d_JB_init_6
end q_m77

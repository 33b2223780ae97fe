/-! texts: length, charAt -/
def R_JS : String := "java/lang/String"
theorem kI_JS : Cond.initialized R_JS ∈ lw_g := in_g 22 (by decide +kernel) rfl
def R_JT : String := "java/lang/StringLatin1"
theorem kI_JT : Cond.initialized R_JT ∈ lw_g := in_g 23 (by decide +kernel) rfl
def R_JP : String := "jdk/internal/util/Preconditions"
theorem kI_JP : Cond.initialized R_JP ∈ lw_g := in_g 24 (by decide +kernel) rfl
abbrev b_JS_coder : ByteArray := prog_33_method_152_code
def y_JS_coder : MethodName := ⟨R_JS, "coder", "()B"⟩
abbrev w_JS_coder : List Cond := .code y_JS_coder b_JS_coder 1 (Option.some .byte) :: lw_g
theorem kC_JS_coder : Cond.code y_JS_coder b_JS_coder 1 (Option.some .byte) ∈ lw_g := in_g 813 (by decide +kernel) rfl
theorem d_JS_coder_0 : decode b_JS_coder 0 = .ok (.getstatic 38, 3) := by decide +kernel
theorem d_JS_coder_3 : decode b_JS_coder 3 = .ok (.ifCond .eq 10, 3) := by decide +kernel
theorem d_JS_coder_6 : decode b_JS_coder 6 = .ok (.aload_n 0, 1) := by decide +kernel
theorem d_JS_coder_7 : decode b_JS_coder 7 = .ok (.getfield 15, 3) := by decide +kernel
theorem d_JS_coder_10 : decode b_JS_coder 10 = .ok (.goto 4, 3) := by decide +kernel
theorem d_JS_coder_13 : decode b_JS_coder 13 = .ok (.iconst 1, 1) := by decide +kernel
theorem d_JS_coder_14 : decode b_JS_coder 14 = .ok (.ireturn, 1) := by decide +kernel
theorem kF_JS_38 : Cond.fieldLink R_JS 38 "java/lang/String" "COMPACT_STRINGS" "Z" ∈ lw_g := in_g 814 (by decide +kernel) rfl
theorem kF_JS_15 : Cond.fieldLink R_JS 15 "java/lang/String" "coder" "B" ∈ lw_g := in_g 2372 (by decide +kernel) rfl
abbrev at_JS_coder (dC : Nat → ClassId) (dI : Nat → Nat → Nat)  (A : Nat → Prop) (u : Unit) (t : State) : Prop := match u with | _ => va_P (dC, dI) cls [] t.heap ∧ va_K (dC, dI) cls [] t ∧ va_D A []
set_option maxHeartbeats 4000000 in
set_option maxRecDepth 100000 in
theorem c_JS_coder (l : Launch) (dC : Nat → ClassId) (dI : Nat → Nat → Nat) (sz : Nat) (sa : Nat → Nat) (t v : Nat) (b : List Int32)       : Met l y_JS_coder w_JS_coder ({ frames := 0, cells := 0, slots := 0, locals := 0 }) (va_Pc [.ref t] (fun U => U.heap.size = sz ∧ va_P (dC, dI) cls [] U.heap ∧ va_K (dC, dI) cls [] U ∧ va_D (fun _ => True) [] ∧ sw sa (va_A [] sz) U U.heap ∧ sw_str t v b (va_A [] sz) U U.heap)) (va_Qi (fun (r : Int32) (u : Unit) => match u with | _ => (r = 0)) (at_JS_coder dC dI  (va_A [] sz)) (va_A [] sz)) 0 0 (va_A [] sz) := by
  refine Met.ofW (cc := b_JS_coder) (maxL := 1) (ret := (Option.some .byte)) (by decide) rfl ?_
  intro p e s m args below meth c s₁ B hml hv
  obtain ⟨rfl, hsz, hP, hK, hD0, hSW, hR0⟩ := hv
  have hx := B.exec
  have hb := B.bytes
  have hr := B.returns
  have hts0 := atoms_spec (ws := w_JS_coder) B.pre
  have hts : ∀ w ∈ lw_g, w.before _ s = true := fun w h => hts0 w (List.mem_cons_of_mem _ h)
  have hown : s.vm.findClass R_JS = some m.cls := findClass_of_methodNamed B.named
  have hlocks := B.notSynchronized
  clear hts0
  subst hsz
  have hD := hD0.self (sz := s.heap.size)
  generalize hAe : va_A [] s.heap.size = A at hD hSW hR0 ⊢
  have hA : ∀ q : Nat, s.heap.size ≤ q → A q := fun q h => by rw [← hAe]; exact Or.inr h
  clear hAe
  have hP : va_P (dC, dI) cls [] s.heap := hP
  have hl := lv_entry ([.ref t]) (n := 1) (Nat.le_of_ble_eq_true rfl)
  rw [lg_entry_eq]
  generalize (lg_sl ([.ref t]) ++ List.replicate (1 - (lg_sl ([.ref t])).length) Slot.unset).toArray = ls at hl ⊢
  have hl : lv_has ls 1 [(0, .ref t)] := hl
  have k0 : (0 : Int32).toInt = 0 := by decide
  refine w_gen (A := A) hP (fun H locs hP hS => ?_)
  have k1 : (1 : Int32).toInt = 1 := by decide
  refine va_gets (C := "java/lang/String") (n := "COMPACT_STRINGS") (d := "Z") (v := .int 1) hx hb hSW.2.2.2.2.2.2.2.2.2.2.2.1 hS hown (hts _ kF_JS_38) (fun _ h9 => h9) d_JS_coder_0 ?_
  refine lv_if_eq (tgt := 13) hx hb d_JS_coder_3 (by decide) (fun c3 => absurd (eqI c3) (by omega)) (fun c3 => ?_)
  have q3 := neI c3
  refine lv_aload_n hx hb d_JS_coder_6 rfl (lv_at hl 0 rfl) ?_
  refine vk_getf (v := .int 0) hx hb (hR0.2.1) hS hown (hts _ kF_JS_15) (fun _ h9 => h9) d_JS_coder_7 ?_
  refine lv_goto (tgt := 14) hx hb d_JS_coder_10 (by decide) ?_
  have hP9 := hP.sub (ws' := []) [] rfl
  have hD9 := hD.sub (ws' := []) [] (by decide) rfl
  exact W.zret (v := 0) hx hb hr (rfl) (fun t ht hW => ⟨⟨0, (), rfl, (rfl), by rw [ht]; exact hP9, va_K.moved hW.alike hK, hD9⟩, hS.F ht⟩) hS.2.2 d_JS_coder_14
abbrev b_JS_isLatin1 : ByteArray := prog_33_method_154_code
def y_JS_isLatin1 : MethodName := ⟨R_JS, "isLatin1", "()Z"⟩
abbrev w_JS_isLatin1 : List Cond := .code y_JS_isLatin1 b_JS_isLatin1 1 (Option.some .boolean) :: lw_g
theorem kC_JS_isLatin1 : Cond.code y_JS_isLatin1 b_JS_isLatin1 1 (Option.some .boolean) ∈ lw_g := in_g 829 (by decide +kernel) rfl
theorem d_JS_isLatin1_0 : decode b_JS_isLatin1 0 = .ok (.getstatic 38, 3) := by decide +kernel
theorem d_JS_isLatin1_3 : decode b_JS_isLatin1 3 = .ok (.ifCond .eq 14, 3) := by decide +kernel
theorem d_JS_isLatin1_6 : decode b_JS_isLatin1 6 = .ok (.aload_n 0, 1) := by decide +kernel
theorem d_JS_isLatin1_7 : decode b_JS_isLatin1 7 = .ok (.getfield 15, 3) := by decide +kernel
theorem d_JS_isLatin1_10 : decode b_JS_isLatin1 10 = .ok (.ifCond .ne 7, 3) := by decide +kernel
theorem d_JS_isLatin1_13 : decode b_JS_isLatin1 13 = .ok (.iconst 1, 1) := by decide +kernel
theorem d_JS_isLatin1_14 : decode b_JS_isLatin1 14 = .ok (.goto 4, 3) := by decide +kernel
theorem d_JS_isLatin1_17 : decode b_JS_isLatin1 17 = .ok (.iconst 0, 1) := by decide +kernel
theorem d_JS_isLatin1_18 : decode b_JS_isLatin1 18 = .ok (.ireturn, 1) := by decide +kernel
abbrev at_JS_isLatin1 (dC : Nat → ClassId) (dI : Nat → Nat → Nat)  (A : Nat → Prop) (u : Unit) (t : State) : Prop := match u with | _ => va_P (dC, dI) cls [] t.heap ∧ va_K (dC, dI) cls [] t ∧ va_D A []
set_option maxHeartbeats 4000000 in
set_option maxRecDepth 100000 in
theorem c_JS_isLatin1 (l : Launch) (dC : Nat → ClassId) (dI : Nat → Nat → Nat) (sz : Nat) (sa : Nat → Nat) (t v : Nat) (b : List Int32)       : Met l y_JS_isLatin1 w_JS_isLatin1 ({ frames := 0, cells := 0, slots := 0, locals := 0 }) (va_Pc [.ref t] (fun U => U.heap.size = sz ∧ va_P (dC, dI) cls [] U.heap ∧ va_K (dC, dI) cls [] U ∧ va_D (fun _ => True) [] ∧ sw sa (va_A [] sz) U U.heap ∧ sw_str t v b (va_A [] sz) U U.heap)) (va_Qi (fun (r : Int32) (u : Unit) => match u with | _ => (r = 0 ∨ r = 1) ∧ (r = 1)) (at_JS_isLatin1 dC dI  (va_A [] sz)) (va_A [] sz)) 0 0 (va_A [] sz) := by
  refine Met.ofW (cc := b_JS_isLatin1) (maxL := 1) (ret := (Option.some .boolean)) (by decide) rfl ?_
  intro p e s m args below meth c s₁ B hml hv
  obtain ⟨rfl, hsz, hP, hK, hD0, hSW, hR0⟩ := hv
  have hx := B.exec
  have hb := B.bytes
  have hr := B.returns
  have hts0 := atoms_spec (ws := w_JS_isLatin1) B.pre
  have hts : ∀ w ∈ lw_g, w.before _ s = true := fun w h => hts0 w (List.mem_cons_of_mem _ h)
  have hown : s.vm.findClass R_JS = some m.cls := findClass_of_methodNamed B.named
  have hlocks := B.notSynchronized
  clear hts0
  subst hsz
  have hD := hD0.self (sz := s.heap.size)
  generalize hAe : va_A [] s.heap.size = A at hD hSW hR0 ⊢
  have hA : ∀ q : Nat, s.heap.size ≤ q → A q := fun q h => by rw [← hAe]; exact Or.inr h
  clear hAe
  have hP : va_P (dC, dI) cls [] s.heap := hP
  have hl := lv_entry ([.ref t]) (n := 1) (Nat.le_of_ble_eq_true rfl)
  rw [lg_entry_eq]
  generalize (lg_sl ([.ref t]) ++ List.replicate (1 - (lg_sl ([.ref t])).length) Slot.unset).toArray = ls at hl ⊢
  have hl : lv_has ls 1 [(0, .ref t)] := hl
  have k0 : (0 : Int32).toInt = 0 := by decide
  refine w_gen (A := A) hP (fun H locs hP hS => ?_)
  have k1 : (1 : Int32).toInt = 1 := by decide
  refine va_gets (C := "java/lang/String") (n := "COMPACT_STRINGS") (d := "Z") (v := .int 1) hx hb hSW.2.2.2.2.2.2.2.2.2.2.2.1 hS hown (hts _ kF_JS_38) (fun _ h9 => h9) d_JS_isLatin1_0 ?_
  refine lv_if_eq (tgt := 17) hx hb d_JS_isLatin1_3 (by decide) (fun c3 => absurd (eqI c3) (by omega)) (fun c3 => ?_)
  have q3 := neI c3
  refine lv_aload_n hx hb d_JS_isLatin1_6 rfl (lv_at hl 0 rfl) ?_
  refine vk_getf (v := .int 0) hx hb (hR0.2.1) hS hown (hts _ kF_JS_15) (fun _ h9 => h9) d_JS_isLatin1_7 ?_
  refine lv_if_ne (tgt := 17) hx hb d_JS_isLatin1_10 (by decide) (fun c10 => absurd (neI c10) (by omega)) (fun c10 => ?_)
  have q10 := eqI c10
  refine lv_iconst (v := 1) hx hb d_JS_isLatin1_13 (by decide) ?_
  refine lv_goto (tgt := 18) hx hb d_JS_isLatin1_14 (by decide) ?_
  have hP9 := hP.sub (ws' := []) [] rfl
  have hD9 := hD.sub (ws' := []) [] (by decide) rfl
  exact W.zret (v := 1) hx hb hr (zn01 (Or.inr rfl)) (fun t ht hW => ⟨⟨1, (), rfl, ⟨Or.inr rfl, rfl⟩, by rw [ht]; exact hP9, va_K.moved hW.alike hK, hD9⟩, hS.F ht⟩) hS.2.2 d_JS_isLatin1_18
abbrev b_JS_length : ByteArray := prog_33_method_54_code
def y_JS_length : MethodName := ⟨R_JS, "length", "()I"⟩
abbrev w_JS_length : List Cond := .code y_JS_length b_JS_length 1 (Option.some .int) :: lw_g
theorem kC_JS_length : Cond.code y_JS_length b_JS_length 1 (Option.some .int) ∈ lw_g := in_g 809 (by decide +kernel) rfl
theorem d_JS_length_0 : decode b_JS_length 0 = .ok (.aload_n 0, 1) := by decide +kernel
theorem d_JS_length_1 : decode b_JS_length 1 = .ok (.getfield 9, 3) := by decide +kernel
theorem d_JS_length_4 : decode b_JS_length 4 = .ok (.arraylength, 1) := by decide +kernel
theorem d_JS_length_5 : decode b_JS_length 5 = .ok (.aload_n 0, 1) := by decide +kernel
theorem d_JS_length_6 : decode b_JS_length 6 = .ok (.invokevirtual 335, 3) := by decide +kernel
theorem d_JS_length_9 : decode b_JS_length 9 = .ok (.ishr, 1) := by decide +kernel
theorem d_JS_length_10 : decode b_JS_length 10 = .ok (.ireturn, 1) := by decide +kernel
theorem kM_JS_335 : Cond.methodLink R_JS 335 y_JS_coder ∈ lw_g := in_g 810 (by decide +kernel) rfl
theorem kV_JS_coder : Cond.instanceMethod y_JS_coder ∈ lw_g := in_g 811 (by decide +kernel) rfl
theorem kS_JS_coder : Cond.selects R_JS y_JS_coder y_JS_coder ∈ lw_g := in_g 812 (by decide +kernel) rfl
theorem kF_JS_9 : Cond.fieldLink R_JS 9 "java/lang/String" "value" "[B" ∈ lw_g := in_g 2371 (by decide +kernel) rfl
abbrev at_JS_length (dC : Nat → ClassId) (dI : Nat → Nat → Nat)  (A : Nat → Prop) (u : Unit) (t : State) : Prop := match u with | _ => va_P (dC, dI) cls [] t.heap ∧ va_K (dC, dI) cls [] t ∧ va_D A []
set_option maxHeartbeats 4000000 in
set_option maxRecDepth 100000 in
theorem c_JS_length (l : Launch) (dC : Nat → ClassId) (dI : Nat → Nat → Nat) (sz : Nat) (sa : Nat → Nat) (t v : Nat) (b : List Int32)      (hbl : (b.length : Int) < 2147483648) : Met l y_JS_length w_JS_length ({ frames := 1, cells := 0, slots := 0, locals := 20 }) (va_Pc [.ref t] (fun U => U.heap.size = sz ∧ va_P (dC, dI) cls [] U.heap ∧ va_K (dC, dI) cls [] U ∧ va_D (fun _ => True) [] ∧ sw sa (va_A [] sz) U U.heap ∧ sw_str t v b (va_A [] sz) U U.heap)) (va_Qi (fun (r : Int32) (u : Unit) => match u with | _ => (r.toInt = b.length)) (at_JS_length dC dI  (va_A [] sz)) (va_A [] sz)) 0 0 (va_A [] sz) := by
  refine Met.ofW (cc := b_JS_length) (maxL := 1) (ret := (Option.some .int)) (by decide) rfl ?_
  intro p e s m args below meth c s₁ B hml hv
  obtain ⟨rfl, hsz, hP, hK, hD0, hSW, hR0⟩ := hv
  have hx := B.exec
  have hb := B.bytes
  have hr := B.returns
  have hts0 := atoms_spec (ws := w_JS_length) B.pre
  have hts : ∀ w ∈ lw_g, w.before _ s = true := fun w h => hts0 w (List.mem_cons_of_mem _ h)
  have hown : s.vm.findClass R_JS = some m.cls := findClass_of_methodNamed B.named
  have hlocks := B.notSynchronized
  clear hts0
  subst hsz
  have hD := hD0.self (sz := s.heap.size)
  generalize hAe : va_A [] s.heap.size = A at hD hSW hR0 ⊢
  have hA : ∀ q : Nat, s.heap.size ≤ q → A q := fun q h => by rw [← hAe]; exact Or.inr h
  clear hAe
  have hP : va_P (dC, dI) cls [] s.heap := hP
  have hl := lv_entry ([.ref t]) (n := 1) (Nat.le_of_ble_eq_true rfl)
  rw [lg_entry_eq]
  generalize (lg_sl ([.ref t]) ++ List.replicate (1 - (lg_sl ([.ref t])).length) Slot.unset).toArray = ls at hl ⊢
  have hl : lv_has ls 1 [(0, .ref t)] := hl
  have k0 : (0 : Int32).toInt = 0 := by decide
  refine w_gen (A := A) hP (fun H locs hP hS => ?_)
  refine lv_aload_n hx hb d_JS_length_0 rfl (lv_at hl 0 rfl) ?_
  refine vk_getf (v := .ref v) hx hb (hR0.2.2.1) hS hown (hts _ kF_JS_9) (fun _ h9 => h9) d_JS_length_1 ?_
  refine va_tlen hx hb (hR0.2.2.2) hS rfl d_JS_length_4 ?_
  refine lv_topi (fun x1 ex1 => ?_)
  have tx1 : x1.toInt = b.length := by rw [ex1]; exact i32_len (by omega)
  refine lv_aload_n hx hb d_JS_length_5 rfl (lv_at hl 0 rfl) ?_
  have hPc := hP.sub (ws' := []) [] rfl
  have hDc := hD.sub (ws' := []) [] (by decide) rfl
  have hKc := hK.sub (tys' := []) [] rfl
  have hFc := va_free (wc := []) hD hS hA [] rfl
  refine va_calli (va_runV (As := []) (rest := [.int x1]) ⟨hx, hb, hml, hown, hts⟩ (c_JS_coder l dC dI H.size sa t v b ) (cwV 0 hts (gV kM_JS_335 kV_JS_coder kS_JS_coder kI_JS kC_JS_coder) rfl rfl rfl (by decide +kernel) ⟨Nat.le_of_ble_eq_true rfl, Nat.le_of_ble_eq_true rfl⟩) ⟨fun a U g mk z => by obtain ⟨z0, z1, zP, zK, zD, zS, zR0⟩ := z; exact ⟨z0, z1, zP, va_K.moved (u := U) (U := U.calling g mk a) (Vm.Alike.refl U.vm) zK, zD, sw.same (u := U) (U := U.calling g mk a) rfl zS, zR0.moved (u := U) (U := U.calling g mk a) (Vm.Alike.refl U.vm)⟩, so_recv (hR0.1) hS, fun U hU hW => ⟨rfl, by rw [hU], by rw [hU]; exact hPc, va_K.moved hW.alike hKc, hDc.weaken (fun _ _ _ _ => trivial), hSW.call hS hFc hW hU, (hR0).call hS hFc hW hU⟩⟩ rfl rfl hl.1 rfl (lv_room (Nat.le_of_ble_eq_true rfl)) d_JS_length_6 ⟨(Nat.zero_le _), (Nat.zero_le _)⟩) hS (fun q _ h => hFc q h) hFc (fun r2 u t H1 locs ht hvm hw hB hz1 hk1 hS => ?_)
  try dsimp only at hw
  have xr2 := hw
  try clear hw
  obtain ⟨hP1, hK1, hD1⟩ := hB
  rw [ht] at hP1
  obtain ⟨hP, hD⟩ := va_join (wr := []) (w1 := []) hP hD [] [] rfl rfl (by decide) (by decide) hk1 hFc hP1 hD1
  clear hPc hDc hKc hFc hz1 hk1 hP1 hK1 hD1
  generalize H1 = H at hP hS ⊢
  have hP : va_P (dC, dI) cls [] H := hP
  have hD : va_D A [] := hD
  refine lv_ishr hx hb d_JS_length_9 ?_
  refine lv_topi (fun x3 ex3 => ?_)
  have tx3 : x3.toInt = b.length := by rw [ex3, xr2, sb_shr0]; omega
  have hP9 := hP.sub (ws' := []) [] rfl
  have hD9 := hD.sub (ws' := []) [] (by decide) rfl
  exact W.iret (v := x3) hx hb hr (fun t ht hW => ⟨⟨x3, (), rfl, (by (try dsimp only) <;> omega), by rw [ht]; exact hP9, va_K.moved hW.alike hK, hD9⟩, hS.F ht⟩) hS.2.2 d_JS_length_10
abbrev b_JP_checkIndex : ByteArray := prog_42_method_11_code
def y_JP_checkIndex : MethodName := ⟨R_JP, "checkIndex", "(IILjava/util/function/BiFunction;)I"⟩
abbrev w_JP_checkIndex : List Cond := .code y_JP_checkIndex b_JP_checkIndex 3 (Option.some .int) :: lw_g
theorem kC_JP_checkIndex : Cond.code y_JP_checkIndex b_JP_checkIndex 3 (Option.some .int) ∈ lw_g := in_g 840 (by decide +kernel) rfl
theorem d_JP_checkIndex_0 : decode b_JP_checkIndex 0 = .ok (.iload_n 0, 1) := by decide +kernel
theorem d_JP_checkIndex_1 : decode b_JP_checkIndex 1 = .ok (.ifCond .lt 8, 3) := by decide +kernel
theorem d_JP_checkIndex_4 : decode b_JP_checkIndex 4 = .ok (.iload_n 0, 1) := by decide +kernel
theorem d_JP_checkIndex_5 : decode b_JP_checkIndex 5 = .ok (.iload_n 1, 1) := by decide +kernel
theorem d_JP_checkIndex_6 : decode b_JP_checkIndex 6 = .ok (.if_icmp .lt 10, 3) := by decide +kernel
theorem d_JP_checkIndex_9 : decode b_JP_checkIndex 9 = .ok (.aload_n 2, 1) := by decide +kernel
theorem d_JP_checkIndex_10 : decode b_JP_checkIndex 10 = .ok (.iload_n 0, 1) := by decide +kernel
theorem d_JP_checkIndex_11 : decode b_JP_checkIndex 11 = .ok (.iload_n 1, 1) := by decide +kernel
theorem d_JP_checkIndex_12 : decode b_JP_checkIndex 12 = .ok (.invokestatic 95, 3) := by decide +kernel
theorem d_JP_checkIndex_15 : decode b_JP_checkIndex 15 = .ok (.athrow, 1) := by decide +kernel
theorem d_JP_checkIndex_16 : decode b_JP_checkIndex 16 = .ok (.iload_n 0, 1) := by decide +kernel
theorem d_JP_checkIndex_17 : decode b_JP_checkIndex 17 = .ok (.ireturn, 1) := by decide +kernel
abbrev at_JP_checkIndex (dC : Nat → ClassId) (dI : Nat → Nat → Nat)  (A : Nat → Prop) (u : Unit) (t : State) : Prop := match u with | _ => va_P (dC, dI) cls [] t.heap ∧ va_K (dC, dI) cls [] t ∧ va_D A []
set_option maxHeartbeats 4000000 in
set_option maxRecDepth 100000 in
theorem c_JP_checkIndex (l : Launch) (dC : Nat → ClassId) (dI : Nat → Nat → Nat) (sz : Nat)    (p0 : Int32) (p1 : Int32) (pa : Nat)  (hi : 0 ≤ p0.toInt ∧ p0.toInt < p1.toInt) : Met l y_JP_checkIndex w_JP_checkIndex ({ frames := 0, cells := 0, slots := 0, locals := 0 }) (va_Pc [.int p0, .int p1, .ref pa] (fun U => U.heap.size = sz ∧ va_P (dC, dI) cls [] U.heap ∧ va_K (dC, dI) cls [] U ∧ va_D (fun _ => True) [])) (va_Qi (fun (r : Int32) (u : Unit) => match u with | _ => (r = p0)) (at_JP_checkIndex dC dI  (va_A [] sz)) (va_A [] sz)) 0 0 (va_A [] sz) := by
  refine Met.ofW (cc := b_JP_checkIndex) (maxL := 3) (ret := (Option.some .int)) (by decide) rfl ?_
  intro p e s m args below meth c s₁ B hml hv
  obtain ⟨rfl, hsz, hP, hK, hD0⟩ := hv
  have hx := B.exec
  have hb := B.bytes
  have hr := B.returns
  have hts0 := atoms_spec (ws := w_JP_checkIndex) B.pre
  have hts : ∀ w ∈ lw_g, w.before _ s = true := fun w h => hts0 w (List.mem_cons_of_mem _ h)
  have hown : s.vm.findClass R_JP = some m.cls := findClass_of_methodNamed B.named
  have hlocks := B.notSynchronized
  clear hts0
  subst hsz
  have hD := hD0.self (sz := s.heap.size)
  generalize hAe : va_A [] s.heap.size = A at hD ⊢
  have hA : ∀ q : Nat, s.heap.size ≤ q → A q := fun q h => by rw [← hAe]; exact Or.inr h
  clear hAe
  have hP : va_P (dC, dI) cls [] s.heap := hP
  have hl := lv_entry ([.int p0, .int p1, .ref pa]) (n := 3) (Nat.le_of_ble_eq_true rfl)
  rw [lg_entry_eq]
  generalize (lg_sl ([.int p0, .int p1, .ref pa]) ++ List.replicate (3 - (lg_sl ([.int p0, .int p1, .ref pa])).length) Slot.unset).toArray = ls at hl ⊢
  have hl : lv_has ls 3 [(0, .int p0), (1, .int p1), (2, .ref pa)] := hl
  have k0 : (0 : Int32).toInt = 0 := by decide
  refine w_gen (A := A) hP (fun H locs hP hS => ?_)
  have lo_p0 := i32_lo p0
  have hi_p0 := i32_hi p0
  have lo_p1 := i32_lo p1
  have hi_p1 := i32_hi p1
  refine lv_iload_n hx hb d_JP_checkIndex_0 rfl (lv_at hl 0 rfl) ?_
  refine lv_if_lt (tgt := 9) hx hb d_JP_checkIndex_1 (by decide) (fun c1 => absurd (ltI c1) (by omega)) (fun c1 => ?_)
  have q1 := nltI c1
  refine lv_iload_n hx hb d_JP_checkIndex_4 rfl (lv_at hl 0 rfl) ?_
  refine lv_iload_n hx hb d_JP_checkIndex_5 rfl (lv_at hl 1 rfl) ?_
  refine lv_icmp_lt (tgt := 16) hx hb d_JP_checkIndex_6 (by decide) (fun c6 => ?_) (fun c6 => absurd (nltI c6) (by omega))
  have q6 := ltI c6
  refine lv_iload_n hx hb d_JP_checkIndex_16 rfl (lv_at hl 0 rfl) ?_
  have hP9 := hP.sub (ws' := []) [] rfl
  have hD9 := hD.sub (ws' := []) [] (by decide) rfl
  exact W.iret (v := p0) hx hb hr (fun t ht hW => ⟨⟨p0, (), rfl, (rfl), by rw [ht]; exact hP9, va_K.moved hW.alike hK, hD9⟩, hS.F ht⟩) hS.2.2 d_JP_checkIndex_17
abbrev at_JP_checkIndexn (dC : Nat → ClassId) (dI : Nat → Nat → Nat)  (A : Nat → Prop) (u : Unit) (t : State) : Prop := match u with | _ => va_P (dC, dI) cls [] t.heap ∧ va_K (dC, dI) cls [] t ∧ va_D A []
set_option maxHeartbeats 4000000 in
set_option maxRecDepth 100000 in
theorem c_JP_checkIndexn (l : Launch) (dC : Nat → ClassId) (dI : Nat → Nat → Nat) (sz : Nat)    (p0 : Int32) (p1 : Int32)  (hi : 0 ≤ p0.toInt ∧ p0.toInt < p1.toInt) : Met l y_JP_checkIndex w_JP_checkIndex ({ frames := 0, cells := 0, slots := 0, locals := 0 }) (va_Pc [.int p0, .int p1, .null] (fun U => U.heap.size = sz ∧ va_P (dC, dI) cls [] U.heap ∧ va_K (dC, dI) cls [] U ∧ va_D (fun _ => True) [])) (va_Qi (fun (r : Int32) (u : Unit) => match u with | _ => (r = p0)) (at_JP_checkIndexn dC dI  (va_A [] sz)) (va_A [] sz)) 0 0 (va_A [] sz) := by
  refine Met.ofW (cc := b_JP_checkIndex) (maxL := 3) (ret := (Option.some .int)) (by decide) rfl ?_
  intro p e s m args below meth c s₁ B hml hv
  obtain ⟨rfl, hsz, hP, hK, hD0⟩ := hv
  have hx := B.exec
  have hb := B.bytes
  have hr := B.returns
  have hts0 := atoms_spec (ws := w_JP_checkIndex) B.pre
  have hts : ∀ w ∈ lw_g, w.before _ s = true := fun w h => hts0 w (List.mem_cons_of_mem _ h)
  have hown : s.vm.findClass R_JP = some m.cls := findClass_of_methodNamed B.named
  have hlocks := B.notSynchronized
  clear hts0
  subst hsz
  have hD := hD0.self (sz := s.heap.size)
  generalize hAe : va_A [] s.heap.size = A at hD ⊢
  have hA : ∀ q : Nat, s.heap.size ≤ q → A q := fun q h => by rw [← hAe]; exact Or.inr h
  clear hAe
  have hP : va_P (dC, dI) cls [] s.heap := hP
  have hl := lv_entry ([.int p0, .int p1, .null]) (n := 3) (Nat.le_of_ble_eq_true rfl)
  rw [lg_entry_eq]
  generalize (lg_sl ([.int p0, .int p1, .null]) ++ List.replicate (3 - (lg_sl ([.int p0, .int p1, .null])).length) Slot.unset).toArray = ls at hl ⊢
  have hl : lv_has ls 3 [(0, .int p0), (1, .int p1), (2, .null)] := hl
  have k0 : (0 : Int32).toInt = 0 := by decide
  refine w_gen (A := A) hP (fun H locs hP hS => ?_)
  have lo_p0 := i32_lo p0
  have hi_p0 := i32_hi p0
  have lo_p1 := i32_lo p1
  have hi_p1 := i32_hi p1
  refine lv_iload_n hx hb d_JP_checkIndex_0 rfl (lv_at hl 0 rfl) ?_
  refine lv_if_lt (tgt := 9) hx hb d_JP_checkIndex_1 (by decide) (fun c1 => absurd (ltI c1) (by omega)) (fun c1 => ?_)
  have q1 := nltI c1
  refine lv_iload_n hx hb d_JP_checkIndex_4 rfl (lv_at hl 0 rfl) ?_
  refine lv_iload_n hx hb d_JP_checkIndex_5 rfl (lv_at hl 1 rfl) ?_
  refine lv_icmp_lt (tgt := 16) hx hb d_JP_checkIndex_6 (by decide) (fun c6 => ?_) (fun c6 => absurd (nltI c6) (by omega))
  have q6 := ltI c6
  refine lv_iload_n hx hb d_JP_checkIndex_16 rfl (lv_at hl 0 rfl) ?_
  have hP9 := hP.sub (ws' := []) [] rfl
  have hD9 := hD.sub (ws' := []) [] (by decide) rfl
  exact W.iret (v := p0) hx hb hr (fun t ht hW => ⟨⟨p0, (), rfl, (rfl), by rw [ht]; exact hP9, va_K.moved hW.alike hK, hD9⟩, hS.F ht⟩) hS.2.2 d_JP_checkIndex_17
abbrev b_JS_checkIndex : ByteArray := prog_33_method_155_code
def y_JS_checkIndex : MethodName := ⟨R_JS, "checkIndex", "(II)V"⟩
abbrev w_JS_checkIndex : List Cond := .code y_JS_checkIndex b_JS_checkIndex 2 none :: lw_g
theorem kC_JS_checkIndex : Cond.code y_JS_checkIndex b_JS_checkIndex 2 none ∈ lw_g := in_g 835 (by decide +kernel) rfl
theorem d_JS_checkIndex_0 : decode b_JS_checkIndex 0 = .ok (.iload_n 0, 1) := by decide +kernel
theorem d_JS_checkIndex_1 : decode b_JS_checkIndex 1 = .ok (.iload_n 1, 1) := by decide +kernel
theorem d_JS_checkIndex_2 : decode b_JS_checkIndex 2 = .ok (.getstatic 1053, 3) := by decide +kernel
theorem d_JS_checkIndex_5 : decode b_JS_checkIndex 5 = .ok (.invokestatic 1059, 3) := by decide +kernel
theorem d_JS_checkIndex_8 : decode b_JS_checkIndex 8 = .ok (.pop, 1) := by decide +kernel
theorem d_JS_checkIndex_9 : decode b_JS_checkIndex 9 = .ok (.return_, 1) := by decide +kernel
theorem kM_JS_1059 : Cond.methodLink R_JS 1059 y_JP_checkIndex ∈ lw_g := in_g 838 (by decide +kernel) rfl
theorem kT_JP_checkIndex : Cond.static y_JP_checkIndex ∈ lw_g := in_g 839 (by decide +kernel) rfl
theorem kF_JS_1053 : Cond.fieldLink R_JS 1053 "jdk/internal/util/Preconditions" "SIOOBE_FORMATTER" "Ljava/util/function/BiFunction;" ∈ lw_g := in_g 836 (by decide +kernel) rfl
abbrev at_JS_checkIndex (dC : Nat → ClassId) (dI : Nat → Nat → Nat)  (A : Nat → Prop) (u : Unit) (t : State) : Prop := match u with | _ => va_P (dC, dI) cls [] t.heap ∧ va_K (dC, dI) cls [] t ∧ va_D A []
set_option maxHeartbeats 4000000 in
set_option maxRecDepth 100000 in
theorem c_JS_checkIndex (l : Launch) (dC : Nat → ClassId) (dI : Nat → Nat → Nat) (sz : Nat) (sa : Nat → Nat)    (p0 : Int32) (p1 : Int32)  (hi : 0 ≤ p0.toInt ∧ p0.toInt < p1.toInt) : Met l y_JS_checkIndex w_JS_checkIndex ({ frames := 1, cells := 0, slots := 0, locals := 22 }) (va_Pc [.int p0, .int p1] (fun U => U.heap.size = sz ∧ va_P (dC, dI) cls [] U.heap ∧ va_K (dC, dI) cls [] U ∧ va_D (fun _ => True) [] ∧ sw sa (va_A [] sz) U U.heap)) (va_Qv (fun (u : Unit) => match u with | _ => True) (at_JS_checkIndex dC dI  (va_A [] sz)) (va_A [] sz)) 0 0 (va_A [] sz) := by
  refine Met.ofW (cc := b_JS_checkIndex) (maxL := 2) (ret := none) (by decide) rfl ?_
  intro p e s m args below meth c s₁ B hml hv
  obtain ⟨rfl, hsz, hP, hK, hD0, hSW⟩ := hv
  have hx := B.exec
  have hb := B.bytes
  have hr := B.returns
  have hts0 := atoms_spec (ws := w_JS_checkIndex) B.pre
  have hts : ∀ w ∈ lw_g, w.before _ s = true := fun w h => hts0 w (List.mem_cons_of_mem _ h)
  have hown : s.vm.findClass R_JS = some m.cls := findClass_of_methodNamed B.named
  have hlocks := B.notSynchronized
  clear hts0
  subst hsz
  have hD := hD0.self (sz := s.heap.size)
  generalize hAe : va_A [] s.heap.size = A at hD hSW ⊢
  have hA : ∀ q : Nat, s.heap.size ≤ q → A q := fun q h => by rw [← hAe]; exact Or.inr h
  clear hAe
  have hP : va_P (dC, dI) cls [] s.heap := hP
  have hl := lv_entry ([.int p0, .int p1]) (n := 2) (Nat.le_of_ble_eq_true rfl)
  rw [lg_entry_eq]
  generalize (lg_sl ([.int p0, .int p1]) ++ List.replicate (2 - (lg_sl ([.int p0, .int p1])).length) Slot.unset).toArray = ls at hl ⊢
  have hl : lv_has ls 2 [(0, .int p0), (1, .int p1)] := hl
  have k0 : (0 : Int32).toInt = 0 := by decide
  refine w_gen (A := A) hP (fun H locs hP hS => ?_)
  have lo_p0 := i32_lo p0
  have hi_p0 := i32_hi p0
  have lo_p1 := i32_lo p1
  have hi_p1 := i32_hi p1
  refine lv_iload_n hx hb d_JS_checkIndex_0 rfl (lv_at hl 0 rfl) ?_
  refine lv_iload_n hx hb d_JS_checkIndex_1 rfl (lv_at hl 1 rfl) ?_
  refine w_zq hSW.2.2.2.2.2.2.2.2.2.2.2.2 (fun hZ9 => ?_) (fun t9 hZ9 => ?_)
  · refine va_gets (C := "jdk/internal/util/Preconditions") (n := "SIOOBE_FORMATTER") (d := "Ljava/util/function/BiFunction;") (v := .null) hx hb hZ9 hS hown (hts _ kF_JS_1053) (fun _ h9 => h9) d_JS_checkIndex_2 ?_
    have hPc := hP.sub (ws' := []) [] rfl
    have hDc := hD.sub (ws' := []) [] (by decide) rfl
    have hKc := hK.sub (tys' := []) [] rfl
    have hFc := va_free (wc := []) hD hS hA [] rfl
    refine va_calli (va_runS (As := [.int p0, .int p1, .null]) (rest := []) ⟨hx, hb, hml, hown, hts⟩ (c_JP_checkIndexn l dC dI H.size p0 p1 (by (try dsimp only) <;> omega)) ⟨callB_of 3 hts (gW kC_JP_checkIndex) rfl rfl rfl (hts _ kI_JP) (hts _ kM_JS_1059) (by decide +kernel) ⟨Nat.le_of_ble_eq_true rfl, Nat.le_of_ble_eq_true rfl⟩, hts _ kT_JP_checkIndex⟩ ⟨fun a U g mk z => by obtain ⟨z0, z1, zP, zK, zD⟩ := z; exact ⟨z0, z1, zP, va_K.moved (u := U) (U := U.calling g mk a) (Vm.Alike.refl U.vm) zK, zD⟩, fun U hU hW => ⟨rfl, by rw [hU], by rw [hU]; exact hPc, va_K.moved hW.alike hKc, hDc.weaken (fun _ _ _ _ => trivial)⟩⟩ rfl rfl hl.1 rfl (lv_room (Nat.le_of_ble_eq_true rfl)) d_JS_checkIndex_5 ⟨(Nat.zero_le _), (Nat.zero_le _)⟩) hS (fun q _ h => hFc q h) hFc (fun r1 u t H1 locs ht hvm hw hB hz1 hk1 hS => ?_)
    try dsimp only at hw
    have xr1 := hw
    try clear hw
    obtain ⟨hP1, hK1, hD1⟩ := hB
    rw [ht] at hP1
    obtain ⟨hP, hD⟩ := va_join (wr := []) (w1 := []) hP hD [] [] rfl rfl (by decide) (by decide) hk1 hFc hP1 hD1
    clear hPc hDc hKc hFc hz1 hk1 hP1 hK1 hD1
    generalize H1 = H at hP hS ⊢
    have hP : va_P (dC, dI) cls [] H := hP
    have hD : va_D A [] := hD
    refine lv_pop hx hb d_JS_checkIndex_8 rfl ?_
    have hP9 := hP.sub (ws' := []) [] rfl
    have hD9 := hD.sub (ws' := []) [] (by decide) rfl
    exact W.vret hx hb hr (fun t ht hW => ⟨⟨(), rfl, ⟨⟩, by rw [ht]; exact hP9, va_K.moved hW.alike hK, hD9⟩, hS.F ht⟩) hS.2.2 d_JS_checkIndex_9
  · refine va_gets (C := "jdk/internal/util/Preconditions") (n := "SIOOBE_FORMATTER") (d := "Ljava/util/function/BiFunction;") (v := .ref t9) hx hb hZ9 hS hown (hts _ kF_JS_1053) (fun _ h9 => h9) d_JS_checkIndex_2 ?_
    have hPc := hP.sub (ws' := []) [] rfl
    have hDc := hD.sub (ws' := []) [] (by decide) rfl
    have hKc := hK.sub (tys' := []) [] rfl
    have hFc := va_free (wc := []) hD hS hA [] rfl
    refine va_calli (va_runS (As := [.int p0, .int p1, .ref t9]) (rest := []) ⟨hx, hb, hml, hown, hts⟩ (c_JP_checkIndex l dC dI H.size p0 p1 t9 (by (try dsimp only) <;> omega)) ⟨callB_of 3 hts (gW kC_JP_checkIndex) rfl rfl rfl (hts _ kI_JP) (hts _ kM_JS_1059) (by decide +kernel) ⟨Nat.le_of_ble_eq_true rfl, Nat.le_of_ble_eq_true rfl⟩, hts _ kT_JP_checkIndex⟩ ⟨fun a U g mk z => by obtain ⟨z0, z1, zP, zK, zD⟩ := z; exact ⟨z0, z1, zP, va_K.moved (u := U) (U := U.calling g mk a) (Vm.Alike.refl U.vm) zK, zD⟩, fun U hU hW => ⟨rfl, by rw [hU], by rw [hU]; exact hPc, va_K.moved hW.alike hKc, hDc.weaken (fun _ _ _ _ => trivial)⟩⟩ rfl rfl hl.1 rfl (lv_room (Nat.le_of_ble_eq_true rfl)) d_JS_checkIndex_5 ⟨(Nat.zero_le _), (Nat.zero_le _)⟩) hS (fun q _ h => hFc q h) hFc (fun r2 u t H1 locs ht hvm hw hB hz1 hk1 hS => ?_)
    try dsimp only at hw
    have xr2 := hw
    try clear hw
    obtain ⟨hP1, hK1, hD1⟩ := hB
    rw [ht] at hP1
    obtain ⟨hP, hD⟩ := va_join (wr := []) (w1 := []) hP hD [] [] rfl rfl (by decide) (by decide) hk1 hFc hP1 hD1
    clear hPc hDc hKc hFc hz1 hk1 hP1 hK1 hD1
    generalize H1 = H at hP hS ⊢
    have hP : va_P (dC, dI) cls [] H := hP
    have hD : va_D A [] := hD
    refine lv_pop hx hb d_JS_checkIndex_8 rfl ?_
    have hP9 := hP.sub (ws' := []) [] rfl
    have hD9 := hD.sub (ws' := []) [] (by decide) rfl
    exact W.vret hx hb hr (fun t ht hW => ⟨⟨(), rfl, ⟨⟩, by rw [ht]; exact hP9, va_K.moved hW.alike hK, hD9⟩, hS.F ht⟩) hS.2.2 d_JS_checkIndex_9
abbrev b_JT_charAt : ByteArray := prog_35_method_2_code
def y_JT_charAt : MethodName := ⟨R_JT, "charAt", "([BI)C"⟩
abbrev w_JT_charAt : List Cond := .code y_JT_charAt b_JT_charAt 2 (Option.some .char) :: lw_g
theorem kC_JT_charAt : Cond.code y_JT_charAt b_JT_charAt 2 (Option.some .char) ∈ lw_g := in_g 832 (by decide +kernel) rfl
theorem d_JT_charAt_0 : decode b_JT_charAt 0 = .ok (.iload_n 1, 1) := by decide +kernel
theorem d_JT_charAt_1 : decode b_JT_charAt 1 = .ok (.aload_n 0, 1) := by decide +kernel
theorem d_JT_charAt_2 : decode b_JT_charAt 2 = .ok (.arraylength, 1) := by decide +kernel
theorem d_JT_charAt_3 : decode b_JT_charAt 3 = .ok (.invokestatic 9, 3) := by decide +kernel
theorem d_JT_charAt_6 : decode b_JT_charAt 6 = .ok (.aload_n 0, 1) := by decide +kernel
theorem d_JT_charAt_7 : decode b_JT_charAt 7 = .ok (.iload_n 1, 1) := by decide +kernel
theorem d_JT_charAt_8 : decode b_JT_charAt 8 = .ok (.baload, 1) := by decide +kernel
theorem d_JT_charAt_9 : decode b_JT_charAt 9 = .ok (.sipush 255, 3) := by decide +kernel
theorem d_JT_charAt_12 : decode b_JT_charAt 12 = .ok (.iand, 1) := by decide +kernel
theorem d_JT_charAt_13 : decode b_JT_charAt 13 = .ok (.i2c, 1) := by decide +kernel
theorem d_JT_charAt_14 : decode b_JT_charAt 14 = .ok (.ireturn, 1) := by decide +kernel
theorem kM_JT_9 : Cond.methodLink R_JT 9 y_JS_checkIndex ∈ lw_g := in_g 833 (by decide +kernel) rfl
theorem kT_JS_checkIndex : Cond.static y_JS_checkIndex ∈ lw_g := in_g 834 (by decide +kernel) rfl
abbrev at_JT_charAt (dC : Nat → ClassId) (dI : Nat → Nat → Nat)  (A : Nat → Prop) (u : Unit) (t : State) : Prop := match u with | _ => va_P (dC, dI) cls [] t.heap ∧ va_K (dC, dI) cls [] t ∧ va_D A []
set_option maxHeartbeats 4000000 in
set_option maxRecDepth 100000 in
theorem c_JT_charAt (l : Launch) (dC : Nat → ClassId) (dI : Nat → Nat → Nat) (sz : Nat) (sa : Nat → Nat) (v : Nat) (b : List Int32)    (p0 : Int32)  (hbl : (b.length : Int) < 2147483648) (hi : 0 ≤ p0.toInt ∧ p0.toInt < b.length) : Met l y_JT_charAt w_JT_charAt ({ frames := 2, cells := 0, slots := 0, locals := 43 }) (va_Pc [.ref v, .int p0] (fun U => U.heap.size = sz ∧ va_P (dC, dI) cls [] U.heap ∧ va_K (dC, dI) cls [] U ∧ va_D (fun _ => True) [] ∧ sw sa (va_A [] sz) U U.heap ∧ va_T .byte v b.length (fun j => .int (b.getD j 0)) (va_A [] sz) U U.heap)) (va_Qi (fun (r : Int32) (u : Unit) => match u with | _ => (r = (b.getD p0.toNatClampNeg 0) &&& 255)) (at_JT_charAt dC dI  (va_A [] sz)) (va_A [] sz)) 0 0 (va_A [] sz) := by
  refine Met.ofW (cc := b_JT_charAt) (maxL := 2) (ret := (Option.some .char)) (by decide) rfl ?_
  intro p e s m args below meth c s₁ B hml hv
  obtain ⟨rfl, hsz, hP, hK, hD0, hSW, hV0⟩ := hv
  have hx := B.exec
  have hb := B.bytes
  have hr := B.returns
  have hts0 := atoms_spec (ws := w_JT_charAt) B.pre
  have hts : ∀ w ∈ lw_g, w.before _ s = true := fun w h => hts0 w (List.mem_cons_of_mem _ h)
  have hown : s.vm.findClass R_JT = some m.cls := findClass_of_methodNamed B.named
  have hlocks := B.notSynchronized
  clear hts0
  subst hsz
  have hD := hD0.self (sz := s.heap.size)
  generalize hAe : va_A [] s.heap.size = A at hD hSW hV0 ⊢
  have hA : ∀ q : Nat, s.heap.size ≤ q → A q := fun q h => by rw [← hAe]; exact Or.inr h
  clear hAe
  have hP : va_P (dC, dI) cls [] s.heap := hP
  have hl := lv_entry ([.ref v, .int p0]) (n := 2) (Nat.le_of_ble_eq_true rfl)
  rw [lg_entry_eq]
  generalize (lg_sl ([.ref v, .int p0]) ++ List.replicate (2 - (lg_sl ([.ref v, .int p0])).length) Slot.unset).toArray = ls at hl ⊢
  have hl : lv_has ls 2 [(0, .ref v), (1, .int p0)] := hl
  have k0 : (0 : Int32).toInt = 0 := by decide
  refine w_gen (A := A) hP (fun H locs hP hS => ?_)
  have k255 : (255 : Int32).toInt = 255 := by decide
  have lo_p0 := i32_lo p0
  have hi_p0 := i32_hi p0
  refine lv_iload_n hx hb d_JT_charAt_0 rfl (lv_at hl 1 rfl) ?_
  refine lv_aload_n hx hb d_JT_charAt_1 rfl (lv_at hl 0 rfl) ?_
  refine va_tlen hx hb (hV0) hS rfl d_JT_charAt_2 ?_
  refine lv_topi (fun x1 ex1 => ?_)
  have tx1 : x1.toInt = b.length := by rw [ex1]; exact i32_len (by omega)
  have hPc := hP.sub (ws' := []) [] rfl
  have hDc := hD.sub (ws' := []) [] (by decide) rfl
  have hKc := hK.sub (tys' := []) [] rfl
  have hFc := va_free (wc := []) hD hS hA [] rfl
  refine va_callv (va_runS (As := [.int p0, .int x1]) (rest := []) ⟨hx, hb, hml, hown, hts⟩ (c_JS_checkIndex l dC dI H.size sa p0 x1 (by (try dsimp only) <;> omega)) ⟨callB_of 2 hts (gW kC_JS_checkIndex) rfl rfl rfl (hts _ kI_JS) (hts _ kM_JT_9) (by decide +kernel) ⟨Nat.le_of_ble_eq_true rfl, Nat.le_of_ble_eq_true rfl⟩, hts _ kT_JS_checkIndex⟩ ⟨fun a U g mk z => by obtain ⟨z0, z1, zP, zK, zD, zS⟩ := z; exact ⟨z0, z1, zP, va_K.moved (u := U) (U := U.calling g mk a) (Vm.Alike.refl U.vm) zK, zD, sw.same (u := U) (U := U.calling g mk a) rfl zS⟩, fun U hU hW => ⟨rfl, by rw [hU], by rw [hU]; exact hPc, va_K.moved hW.alike hKc, hDc.weaken (fun _ _ _ _ => trivial), hSW.call hS hFc hW hU⟩⟩ rfl rfl hl.1 rfl (lv_room (Nat.le_of_ble_eq_true rfl)) d_JT_charAt_3 ⟨(Nat.zero_le _), (Nat.zero_le _)⟩) hS (fun q _ h => hFc q h) hFc (fun u t H1 locs ht hvm hw hB hz1 hk1 hS => ?_)
  try dsimp only at hw
  try clear hw
  obtain ⟨hP1, hK1, hD1⟩ := hB
  rw [ht] at hP1
  obtain ⟨hP, hD⟩ := va_join (wr := []) (w1 := []) hP hD [] [] rfl rfl (by decide) (by decide) hk1 hFc hP1 hD1
  clear hPc hDc hKc hFc hz1 hk1 hP1 hK1 hD1
  generalize H1 = H at hP hS ⊢
  have hP : va_P (dC, dI) cls [] H := hP
  have hD : va_D A [] := hD
  refine lv_aload_n hx hb d_JT_charAt_6 rfl (lv_at hl 0 rfl) ?_
  refine lv_iload_n hx hb d_JT_charAt_7 rfl (lv_at hl 1 rfl) ?_
  have g8 : vp_in p0 b.length := vp_in_iff.mpr ⟨by omega, by omega⟩
  refine va_tb hx hb (hV0) hS g8 rfl d_JT_charAt_8 ?_
  refine lv_topi (fun x3 ex3 => ?_)
  refine lv_sipush (v := 255) hx hb d_JT_charAt_9 (by decide) ?_
  refine lv_iand hx hb d_JT_charAt_12 ?_
  refine lv_topi (fun x4 ex4 => ?_)
  refine lv_i2c hx hb d_JT_charAt_13 rfl ?_
  refine lv_topi (fun x5 ex5 => ?_)
  have hP9 := hP.sub (ws' := []) [] rfl
  have hD9 := hD.sub (ws' := []) [] (by decide) rfl
  exact W.zret (v := x5) hx hb hr (by rw [ex5]; exact pk_nc _) (fun t ht hW => ⟨⟨x5, (), rfl, (by rw [ex5, ex4, ex3]; exact sc_c2 _), by rw [ht]; exact hP9, va_K.moved hW.alike hK, hD9⟩, hS.F ht⟩) hS.2.2 d_JT_charAt_14
abbrev b_JS_charAt : ByteArray := prog_33_method_56_code
def y_JS_charAt : MethodName := ⟨R_JS, "charAt", "(I)C"⟩
abbrev w_JS_charAt : List Cond := .code y_JS_charAt b_JS_charAt 2 (Option.some .char) :: lw_g
theorem kC_JS_charAt : Cond.code y_JS_charAt b_JS_charAt 2 (Option.some .char) ∈ lw_g := in_g 825 (by decide +kernel) rfl
theorem d_JS_charAt_0 : decode b_JS_charAt 0 = .ok (.aload_n 0, 1) := by decide +kernel
theorem d_JS_charAt_1 : decode b_JS_charAt 1 = .ok (.invokevirtual 492, 3) := by decide +kernel
theorem d_JS_charAt_4 : decode b_JS_charAt 4 = .ok (.ifCond .eq 12, 3) := by decide +kernel
theorem d_JS_charAt_7 : decode b_JS_charAt 7 = .ok (.aload_n 0, 1) := by decide +kernel
theorem d_JS_charAt_8 : decode b_JS_charAt 8 = .ok (.getfield 9, 3) := by decide +kernel
theorem d_JS_charAt_11 : decode b_JS_charAt 11 = .ok (.iload_n 1, 1) := by decide +kernel
theorem d_JS_charAt_12 : decode b_JS_charAt 12 = .ok (.invokestatic 495, 3) := by decide +kernel
theorem d_JS_charAt_15 : decode b_JS_charAt 15 = .ok (.ireturn, 1) := by decide +kernel
theorem d_JS_charAt_16 : decode b_JS_charAt 16 = .ok (.aload_n 0, 1) := by decide +kernel
theorem d_JS_charAt_17 : decode b_JS_charAt 17 = .ok (.getfield 9, 3) := by decide +kernel
theorem d_JS_charAt_20 : decode b_JS_charAt 20 = .ok (.iload_n 1, 1) := by decide +kernel
theorem d_JS_charAt_21 : decode b_JS_charAt 21 = .ok (.invokestatic 498, 3) := by decide +kernel
theorem d_JS_charAt_24 : decode b_JS_charAt 24 = .ok (.ireturn, 1) := by decide +kernel
theorem kM_JS_492 : Cond.methodLink R_JS 492 y_JS_isLatin1 ∈ lw_g := in_g 826 (by decide +kernel) rfl
theorem kV_JS_isLatin1 : Cond.instanceMethod y_JS_isLatin1 ∈ lw_g := in_g 827 (by decide +kernel) rfl
theorem kS_JS_isLatin1 : Cond.selects R_JS y_JS_isLatin1 y_JS_isLatin1 ∈ lw_g := in_g 828 (by decide +kernel) rfl
theorem kM_JS_495 : Cond.methodLink R_JS 495 y_JT_charAt ∈ lw_g := in_g 830 (by decide +kernel) rfl
theorem kT_JT_charAt : Cond.static y_JT_charAt ∈ lw_g := in_g 831 (by decide +kernel) rfl
abbrev at_JS_charAt (dC : Nat → ClassId) (dI : Nat → Nat → Nat)  (A : Nat → Prop) (u : Unit) (t : State) : Prop := match u with | _ => va_P (dC, dI) cls [] t.heap ∧ va_K (dC, dI) cls [] t ∧ va_D A []
set_option maxHeartbeats 4000000 in
set_option maxRecDepth 100000 in
theorem c_JS_charAt (l : Launch) (dC : Nat → ClassId) (dI : Nat → Nat → Nat) (sz : Nat) (sa : Nat → Nat) (t v : Nat) (b : List Int32)    (p0 : Int32)  (hbl : (b.length : Int) < 2147483648) (hi : 0 ≤ p0.toInt ∧ p0.toInt < b.length) : Met l y_JS_charAt w_JS_charAt ({ frames := 3, cells := 0, slots := 0, locals := 64 }) (va_Pc [.ref t, .int p0] (fun U => U.heap.size = sz ∧ va_P (dC, dI) cls [] U.heap ∧ va_K (dC, dI) cls [] U ∧ va_D (fun _ => True) [] ∧ sw sa (va_A [] sz) U U.heap ∧ sw_str t v b (va_A [] sz) U U.heap)) (va_Qi (fun (r : Int32) (u : Unit) => match u with | _ => (r = (b.getD p0.toNatClampNeg 0) &&& 255)) (at_JS_charAt dC dI  (va_A [] sz)) (va_A [] sz)) 0 0 (va_A [] sz) := by
  refine Met.ofW (cc := b_JS_charAt) (maxL := 2) (ret := (Option.some .char)) (by decide) rfl ?_
  intro p e s m args below meth c s₁ B hml hv
  obtain ⟨rfl, hsz, hP, hK, hD0, hSW, hR0⟩ := hv
  have hx := B.exec
  have hb := B.bytes
  have hr := B.returns
  have hts0 := atoms_spec (ws := w_JS_charAt) B.pre
  have hts : ∀ w ∈ lw_g, w.before _ s = true := fun w h => hts0 w (List.mem_cons_of_mem _ h)
  have hown : s.vm.findClass R_JS = some m.cls := findClass_of_methodNamed B.named
  have hlocks := B.notSynchronized
  clear hts0
  subst hsz
  have hD := hD0.self (sz := s.heap.size)
  generalize hAe : va_A [] s.heap.size = A at hD hSW hR0 ⊢
  have hA : ∀ q : Nat, s.heap.size ≤ q → A q := fun q h => by rw [← hAe]; exact Or.inr h
  clear hAe
  have hP : va_P (dC, dI) cls [] s.heap := hP
  have hl := lv_entry ([.ref t, .int p0]) (n := 2) (Nat.le_of_ble_eq_true rfl)
  rw [lg_entry_eq]
  generalize (lg_sl ([.ref t, .int p0]) ++ List.replicate (2 - (lg_sl ([.ref t, .int p0])).length) Slot.unset).toArray = ls at hl ⊢
  have hl : lv_has ls 2 [(0, .ref t), (1, .int p0)] := hl
  have k0 : (0 : Int32).toInt = 0 := by decide
  refine w_gen (A := A) hP (fun H locs hP hS => ?_)
  have lo_p0 := i32_lo p0
  have hi_p0 := i32_hi p0
  refine lv_aload_n hx hb d_JS_charAt_0 rfl (lv_at hl 0 rfl) ?_
  have hPc := hP.sub (ws' := []) [] rfl
  have hDc := hD.sub (ws' := []) [] (by decide) rfl
  have hKc := hK.sub (tys' := []) [] rfl
  have hFc := va_free (wc := []) hD hS hA [] rfl
  refine va_calli (va_runV (As := []) (rest := []) ⟨hx, hb, hml, hown, hts⟩ (c_JS_isLatin1 l dC dI H.size sa t v b ) (cwV 0 hts (gV kM_JS_492 kV_JS_isLatin1 kS_JS_isLatin1 kI_JS kC_JS_isLatin1) rfl rfl rfl (by decide +kernel) ⟨Nat.le_of_ble_eq_true rfl, Nat.le_of_ble_eq_true rfl⟩) ⟨fun a U g mk z => by obtain ⟨z0, z1, zP, zK, zD, zS, zR0⟩ := z; exact ⟨z0, z1, zP, va_K.moved (u := U) (U := U.calling g mk a) (Vm.Alike.refl U.vm) zK, zD, sw.same (u := U) (U := U.calling g mk a) rfl zS, zR0.moved (u := U) (U := U.calling g mk a) (Vm.Alike.refl U.vm)⟩, so_recv (hR0.1) hS, fun U hU hW => ⟨rfl, by rw [hU], by rw [hU]; exact hPc, va_K.moved hW.alike hKc, hDc.weaken (fun _ _ _ _ => trivial), hSW.call hS hFc hW hU, (hR0).call hS hFc hW hU⟩⟩ rfl rfl hl.1 rfl (lv_room (Nat.le_of_ble_eq_true rfl)) d_JS_charAt_1 ⟨(Nat.zero_le _), (Nat.zero_le _)⟩) hS (fun q _ h => hFc q h) hFc (fun r1 u t H1 locs ht hvm hw hB hz1 hk1 hS => ?_)
  try dsimp only at hw
  obtain ⟨br1, xr1⟩ := hw
  try clear hw
  have tr1 := b01 br1
  have tr1 : r1.toInt = 1 := by rw [xr1]; decide
  obtain ⟨hP1, hK1, hD1⟩ := hB
  rw [ht] at hP1
  obtain ⟨hP, hD⟩ := va_join (wr := []) (w1 := []) hP hD [] [] rfl rfl (by decide) (by decide) hk1 hFc hP1 hD1
  clear hPc hDc hKc hFc hz1 hk1 hP1 hK1 hD1
  generalize H1 = H at hP hS ⊢
  have hP : va_P (dC, dI) cls [] H := hP
  have hD : va_D A [] := hD
  refine lv_if_eq (tgt := 16) hx hb d_JS_charAt_4 (by decide) (fun c4 => absurd (eqI c4) (by omega)) (fun c4 => ?_)
  have q4 := neI c4
  refine lv_aload_n hx hb d_JS_charAt_7 rfl (lv_at hl 0 rfl) ?_
  refine vk_getf (v := .ref v) hx hb (hR0.2.2.1) hS hown (hts _ kF_JS_9) (fun _ h9 => h9) d_JS_charAt_8 ?_
  refine lv_iload_n hx hb d_JS_charAt_11 rfl (lv_at hl 1 rfl) ?_
  have hPc := hP.sub (ws' := []) [] rfl
  have hDc := hD.sub (ws' := []) [] (by decide) rfl
  have hKc := hK.sub (tys' := []) [] rfl
  have hFc := va_free (wc := []) hD hS hA [] rfl
  refine va_calli (va_runS (As := [.ref v, .int p0]) (rest := []) ⟨hx, hb, hml, hown, hts⟩ (c_JT_charAt l dC dI H.size sa v b p0 (by (try dsimp only) <;> omega) (by (try dsimp only) <;> omega)) ⟨callB_of 2 hts (gW kC_JT_charAt) rfl rfl rfl (hts _ kI_JT) (hts _ kM_JS_495) (by decide +kernel) ⟨Nat.le_of_ble_eq_true rfl, Nat.le_of_ble_eq_true rfl⟩, hts _ kT_JT_charAt⟩ ⟨fun a U g mk z => by obtain ⟨z0, z1, zP, zK, zD, zS, zV0⟩ := z; exact ⟨z0, z1, zP, va_K.moved (u := U) (U := U.calling g mk a) (Vm.Alike.refl U.vm) zK, zD, sw.same (u := U) (U := U.calling g mk a) rfl zS, va_T.moved (u := U) (U := U.calling g mk a) (Vm.Alike.refl U.vm) zV0⟩, fun U hU hW => ⟨rfl, by rw [hU], by rw [hU]; exact hPc, va_K.moved hW.alike hKc, hDc.weaken (fun _ _ _ _ => trivial), hSW.call hS hFc hW hU, vt_call (hR0.2.2.2) hS hFc hW hU⟩⟩ rfl rfl hl.1 rfl (lv_room (Nat.le_of_ble_eq_true rfl)) d_JS_charAt_12 ⟨(Nat.zero_le _), (Nat.zero_le _)⟩) hS (fun q _ h => hFc q h) hFc (fun r2 u t H1 locs ht hvm hw hB hz1 hk1 hS => ?_)
  try dsimp only at hw
  have xr2 := hw
  try clear hw
  obtain ⟨hP1, hK1, hD1⟩ := hB
  rw [ht] at hP1
  obtain ⟨hP, hD⟩ := va_join (wr := []) (w1 := []) hP hD [] [] rfl rfl (by decide) (by decide) hk1 hFc hP1 hD1
  clear hPc hDc hKc hFc hz1 hk1 hP1 hK1 hD1
  generalize H1 = H at hP hS ⊢
  have hP : va_P (dC, dI) cls [] H := hP
  have hD : va_D A [] := hD
  have hP9 := hP.sub (ws' := []) [] rfl
  have hD9 := hD.sub (ws' := []) [] (by decide) rfl
  exact W.zret (v := r2) hx hb hr (by rw [xr2]; exact sc_nar _) (fun t ht hW => ⟨⟨r2, (), rfl, (xr2), by rw [ht]; exact hP9, va_K.moved hW.alike hK, hD9⟩, hS.F ht⟩) hS.2.2 d_JS_charAt_15

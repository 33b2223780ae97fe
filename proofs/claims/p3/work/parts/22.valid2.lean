/-! Validator: the instructions -/
abbrev b_CD_greatestAlignment : ByteArray := prog_5_method_4_code
def y_CD_greatestAlignment : MethodName := ⟨R_CD, "greatestAlignment", "(I)I"⟩
abbrev w_CD_greatestAlignment : List Cond := .code y_CD_greatestAlignment b_CD_greatestAlignment 1 (Option.some .int) :: lw_g
theorem kC_CD_greatestAlignment : Cond.code y_CD_greatestAlignment b_CD_greatestAlignment 1 (Option.some .int) ∈ lw_g := in_g 1180 (by decide +kernel) rfl
theorem d_CD_greatestAlignment_0 : decode b_CD_greatestAlignment 0 = .ok (.iload_n 0, 1) := by decide +kernel
theorem d_CD_greatestAlignment_1 : decode b_CD_greatestAlignment 1 = .ok (.invokestatic 37, 3) := by decide +kernel
theorem d_CD_greatestAlignment_4 : decode b_CD_greatestAlignment 4 = .ok (.invokestatic 41, 3) := by decide +kernel
theorem d_CD_greatestAlignment_7 : decode b_CD_greatestAlignment 7 = .ok (.ireturn, 1) := by decide +kernel
theorem kM_CD_41 : Cond.methodLink R_CD 41 y_JI_numberOfTrailingZeros ∈ lw_g := in_g 1181 (by decide +kernel) rfl
abbrev at_CD_greatestAlignment (dC : Nat → ClassId) (dI : Nat → Nat → Nat)  (A : Nat → Prop) (u : Unit) (t : State) : Prop := match u with | _ => va_P (dC, dI) cls [] t.heap ∧ va_K (dC, dI) cls [] t ∧ va_D A []
set_option maxHeartbeats 4000000 in
set_option maxRecDepth 100000 in
theorem c_CD_greatestAlignment (l : Launch) (dC : Nat → ClassId) (dI : Nat → Nat → Nat) (sz : Nat)    (p0 : Int32)   : Met l y_CD_greatestAlignment w_CD_greatestAlignment ({ frames := 1, cells := 0, slots := 0, locals := 21 }) (va_Pc [.int p0] (fun U => U.heap.size = sz ∧ va_P (dC, dI) cls [] U.heap ∧ va_K (dC, dI) cls [] U ∧ va_D (fun _ => True) [])) (va_Qi (fun (r : Int32) (u : Unit) => match u with | _ => True) (at_CD_greatestAlignment dC dI  (va_A [] sz)) (va_A [] sz)) 0 0 (va_A [] sz) := by
  refine Met.ofW (cc := b_CD_greatestAlignment) (maxL := 1) (ret := (Option.some .int)) (by decide) rfl ?_
  intro p e s m args below meth c s₁ B hml hv
  obtain ⟨rfl, hsz, hP, hK, hD0⟩ := hv
  have hx := B.exec
  have hb := B.bytes
  have hr := B.returns
  have hts0 := atoms_spec (ws := w_CD_greatestAlignment) B.pre
  have hts : ∀ w ∈ lw_g, w.before _ s = true := fun w h => hts0 w (List.mem_cons_of_mem _ h)
  have hown : s.vm.findClass R_CD = some m.cls := findClass_of_methodNamed B.named
  have hlocks := B.notSynchronized
  clear hts0
  subst hsz
  have hD := hD0.self (sz := s.heap.size)
  generalize hAe : va_A [] s.heap.size = A at hD ⊢
  have hA : ∀ q : Nat, s.heap.size ≤ q → A q := fun q h => by rw [← hAe]; exact Or.inr h
  clear hAe
  have hP : va_P (dC, dI) cls [] s.heap := hP
  have hl := lv_entry ([.int p0]) (n := 1) (Nat.le_of_ble_eq_true rfl)
  rw [lg_entry_eq]
  generalize (lg_sl ([.int p0]) ++ List.replicate (1 - (lg_sl ([.int p0])).length) Slot.unset).toArray = ls at hl ⊢
  have hl : lv_has ls 1 [(0, .int p0)] := hl
  have k0 : (0 : Int32).toInt = 0 := by decide
  refine w_gen (A := A) hP (fun H locs hP hS => ?_)
  have lo_p0 := i32_lo p0
  have hi_p0 := i32_hi p0
  refine lv_iload_n hx hb d_CD_greatestAlignment_0 rfl (lv_at hl 0 rfl) ?_
  have hPc := hP.sub (ws' := []) [] rfl
  have hDc := hD.sub (ws' := []) [] (by decide) rfl
  have hKc := hK.sub (tys' := []) [] rfl
  have hFc := va_free (wc := []) hD hS hA [] rfl
  refine va_calli (va_runS (As := [.int p0]) (rest := []) ⟨hx, hb, hml, hown, hts⟩ (c_CD_accessBytes l dC dI H.size p0) ⟨callB_of 1 hts (gW kC_CD_accessBytes) rfl rfl rfl (hts _ kI_CD) (hts _ kM_CD_37) (by decide +kernel) ⟨Nat.le_of_ble_eq_true rfl, Nat.le_of_ble_eq_true rfl⟩, hts _ kT_CD_accessBytes⟩ ⟨fun a U g mk z => by obtain ⟨z0, z1, zP, zK, zD⟩ := z; exact ⟨z0, z1, zP, va_K.moved (u := U) (U := U.calling g mk a) (Vm.Alike.refl U.vm) zK, zD⟩, fun U hU hW => ⟨rfl, by rw [hU], by rw [hU]; exact hPc, va_K.moved hW.alike hKc, hDc.weaken (fun _ _ _ _ => trivial)⟩⟩ rfl rfl hl.1 rfl (lv_room (Nat.le_of_ble_eq_true rfl)) d_CD_greatestAlignment_1 ⟨(Nat.zero_le _), (Nat.zero_le _)⟩) hS (fun q _ h => hFc q h) hFc (fun r1 u t H1 locs ht hvm hw hB hz1 hk1 hS => ?_)
  try dsimp only at hw
  have tr1 := hw
  obtain ⟨hP1, hK1, hD1⟩ := hB
  rw [ht] at hP1
  obtain ⟨hP, hD⟩ := va_join (wr := []) (w1 := []) hP hD [] [] rfl rfl (by decide) (by decide) hk1 hFc hP1 hD1
  clear hPc hDc hKc hFc hz1 hk1 hP1 hK1 hD1
  generalize H1 = H at hP hS ⊢
  have hP : va_P (dC, dI) cls [] H := hP
  have hD : va_D A [] := hD
  have hPc := hP.sub (ws' := []) [] rfl
  have hDc := hD.sub (ws' := []) [] (by decide) rfl
  have hKc := hK.sub (tys' := []) [] rfl
  have hFc := va_free (wc := []) hD hS hA [] rfl
  refine va_calli (va_runS (As := [.int r1]) (rest := []) ⟨hx, hb, hml, hown, hts⟩ (c_JI_numberOfTrailingZeros l dC dI H.size r1) ⟨callB_of 1 hts (gW kC_JI_numberOfTrailingZeros) rfl rfl rfl (hts _ kI_JI) (hts _ kM_CD_41) (by decide +kernel) ⟨Nat.le_of_ble_eq_true rfl, Nat.le_of_ble_eq_true rfl⟩, hts _ kT_JI_numberOfTrailingZeros⟩ ⟨fun a U g mk z => by obtain ⟨z0, z1, zP, zK, zD⟩ := z; exact ⟨z0, z1, zP, va_K.moved (u := U) (U := U.calling g mk a) (Vm.Alike.refl U.vm) zK, zD⟩, fun U hU hW => ⟨rfl, by rw [hU], by rw [hU]; exact hPc, va_K.moved hW.alike hKc, hDc.weaken (fun _ _ _ _ => trivial)⟩⟩ rfl rfl hl.1 rfl (lv_room (Nat.le_of_ble_eq_true rfl)) d_CD_greatestAlignment_4 ⟨(Nat.zero_le _), (Nat.zero_le _)⟩) hS (fun q _ h => hFc q h) hFc (fun r2 u t H1 locs ht hvm hw hB hz1 hk1 hS => ?_)
  try dsimp only at hw
  try clear hw
  obtain ⟨hP1, hK1, hD1⟩ := hB
  rw [ht] at hP1
  obtain ⟨hP, hD⟩ := va_join (wr := []) (w1 := []) hP hD [] [] rfl rfl (by decide) (by decide) hk1 hFc hP1 hD1
  clear hPc hDc hKc hFc hz1 hk1 hP1 hK1 hD1
  generalize H1 = H at hP hS ⊢
  have hP : va_P (dC, dI) cls [] H := hP
  have hD : va_D A [] := hD
  have hP9 := hP.sub (ws' := []) [] rfl
  have hD9 := hD.sub (ws' := []) [] (by decide) rfl
  exact W.iret (v := r2) hx hb hr (fun t ht hW => ⟨⟨r2, (), rfl, ⟨⟩, by rw [ht]; exact hP9, va_K.moved hW.alike hK, hD9⟩, hS.F ht⟩) hS.2.2 d_CD_greatestAlignment_7
abbrev b_VA_checkNumber : ByteArray := prog_12_method_13_code
def y_VA_checkNumber : MethodName := ⟨R_VA, "checkNumber", "(I)V"⟩
abbrev w_VA_checkNumber : List Cond := .code y_VA_checkNumber b_VA_checkNumber 2 none :: lw_g
theorem kC_VA_checkNumber : Cond.code y_VA_checkNumber b_VA_checkNumber 2 none ∈ lw_g := in_g 1485 (by decide +kernel) rfl
theorem d_VA_checkNumber_0 : decode b_VA_checkNumber 0 = .ok (.iload_n 1, 1) := by decide +kernel
theorem d_VA_checkNumber_1 : decode b_VA_checkNumber 1 = .ok (.bipush 65, 2) := by decide +kernel
theorem d_VA_checkNumber_3 : decode b_VA_checkNumber 3 = .ok (.if_icmp .eq 9, 3) := by decide +kernel
theorem d_VA_checkNumber_6 : decode b_VA_checkNumber 6 = .ok (.iload_n 1, 1) := by decide +kernel
theorem d_VA_checkNumber_7 : decode b_VA_checkNumber 7 = .ok (.bipush 66, 2) := by decide +kernel
theorem d_VA_checkNumber_9 : decode b_VA_checkNumber 9 = .ok (.if_icmp .ne 21, 3) := by decide +kernel
theorem d_VA_checkNumber_12 : decode b_VA_checkNumber 12 = .ok (.aload_n 0, 1) := by decide +kernel
theorem d_VA_checkNumber_13 : decode b_VA_checkNumber 13 = .ok (.iload_n 1, 1) := by decide +kernel
theorem d_VA_checkNumber_14 : decode b_VA_checkNumber 14 = .ok (.bipush 65, 2) := by decide +kernel
theorem d_VA_checkNumber_16 : decode b_VA_checkNumber 16 = .ok (.if_icmp .ne 8, 3) := by decide +kernel
theorem d_VA_checkNumber_19 : decode b_VA_checkNumber 19 = .ok (.bipush 127, 2) := by decide +kernel
theorem d_VA_checkNumber_21 : decode b_VA_checkNumber 21 = .ok (.goto 5, 3) := by decide +kernel
theorem d_VA_checkNumber_24 : decode b_VA_checkNumber 24 = .ok (.bipush 126, 2) := by decide +kernel
theorem d_VA_checkNumber_26 : decode b_VA_checkNumber 26 = .ok (.invokevirtual 167, 3) := by decide +kernel
theorem d_VA_checkNumber_29 : decode b_VA_checkNumber 29 = .ok (.return_, 1) := by decide +kernel
theorem d_VA_checkNumber_30 : decode b_VA_checkNumber 30 = .ok (.aload_n 0, 1) := by decide +kernel
theorem d_VA_checkNumber_31 : decode b_VA_checkNumber 31 = .ok (.iload_n 1, 1) := by decide +kernel
theorem d_VA_checkNumber_32 : decode b_VA_checkNumber 32 = .ok (.invokestatic 209, 3) := by decide +kernel
theorem d_VA_checkNumber_35 : decode b_VA_checkNumber 35 = .ok (.invokevirtual 161, 3) := by decide +kernel
theorem d_VA_checkNumber_38 : decode b_VA_checkNumber 38 = .ok (.iload_n 1, 1) := by decide +kernel
theorem d_VA_checkNumber_39 : decode b_VA_checkNumber 39 = .ok (.invokestatic 212, 3) := by decide +kernel
theorem d_VA_checkNumber_42 : decode b_VA_checkNumber 42 = .ok (.ifCond .ne 11, 3) := by decide +kernel
theorem d_VA_checkNumber_45 : decode b_VA_checkNumber 45 = .ok (.aload_n 0, 1) := by decide +kernel
theorem d_VA_checkNumber_46 : decode b_VA_checkNumber 46 = .ok (.iload_n 1, 1) := by decide +kernel
theorem d_VA_checkNumber_47 : decode b_VA_checkNumber 47 = .ok (.invokestatic 209, 3) := by decide +kernel
theorem d_VA_checkNumber_50 : decode b_VA_checkNumber 50 = .ok (.invokevirtual 161, 3) := by decide +kernel
theorem d_VA_checkNumber_53 : decode b_VA_checkNumber 53 = .ok (.aload_n 0, 1) := by decide +kernel
theorem d_VA_checkNumber_54 : decode b_VA_checkNumber 54 = .ok (.iload_n 1, 1) := by decide +kernel
theorem d_VA_checkNumber_55 : decode b_VA_checkNumber 55 = .ok (.invokestatic 215, 3) := by decide +kernel
theorem d_VA_checkNumber_58 : decode b_VA_checkNumber 58 = .ok (.invokevirtual 167, 3) := by decide +kernel
theorem d_VA_checkNumber_61 : decode b_VA_checkNumber 61 = .ok (.return_, 1) := by decide +kernel
theorem kM_VA_167 : Cond.methodLink R_VA 167 y_VA_push ∈ lw_g := in_g 1436 (by decide +kernel) rfl
theorem kV_VA_push : Cond.instanceMethod y_VA_push ∈ lw_g := in_g 1438 (by decide +kernel) rfl
theorem kS_VA_push : Cond.selects R_VA y_VA_push y_VA_push ∈ lw_g := in_s 90 (by decide +kernel) rfl
theorem kM_VA_209 : Cond.methodLink R_VA 209 y_CD_operandType ∈ lw_g := in_g 1486 (by decide +kernel) rfl
theorem kT_CD_operandType : Cond.static y_CD_operandType ∈ lw_g := in_g 1487 (by decide +kernel) rfl
theorem kM_VA_212 : Cond.methodLink R_VA 212 y_CD_takesOne ∈ lw_g := in_g 1489 (by decide +kernel) rfl
theorem kM_VA_215 : Cond.methodLink R_VA 215 y_CD_resultType ∈ lw_g := in_g 1492 (by decide +kernel) rfl
theorem kT_CD_resultType : Cond.static y_CD_resultType ∈ lw_g := in_g 1493 (by decide +kernel) rfl
abbrev at_VA_checkNumber (dC : Nat → ClassId) (dI : Nat → Nat → Nat) (h0 aw ac ty bo bg bh bd : Nat) (cty cbh cbd : ClassId) (h0_function : Int32) (h0_depth : Int32) (gbh : Nat → Int32) (gbd : Nat → Int32) (A : Nat → Prop) (u : (Nat → Int32) × Int32 × Int32) (t : State) : Prop := match u with | (gty, h0_height, h0_sound) => va_P (dC, dI) cls [(h0, .inr (9, [.ref aw, .ref ac, .int h0_sound, .int h0_function, .ref ty, .int h0_height, .ref bo, .ref bg, .ref bh, .ref bd, .int h0_depth])), (ty, .inl (cty, 5000, .inl gty)), (bh, .inl (cbh, 101, .inl gbh)), (bd, .inl (cbd, 101, .inl gbd))] t.heap ∧ va_K (dC, dI) cls [(cty, .int), (cbh, .int), (cbd, .boolean)] t ∧ va_D A [(h0, .inr (9, [.ref aw, .ref ac, .int h0_sound, .int h0_function, .ref ty, .int h0_height, .ref bo, .ref bg, .ref bh, .ref bd, .int h0_depth])), (ty, .inl (cty, 5000, .inl gty)), (bh, .inl (cbh, 101, .inl gbh)), (bd, .inl (cbd, 101, .inl gbd))]
set_option maxHeartbeats 4000000 in
set_option maxRecDepth 100000 in
theorem c_VA_checkNumber (l : Launch) (dC : Nat → ClassId) (dI : Nat → Nat → Nat) (sz : Nat) (h0 aw ac ty bo bg bh bd : Nat) (cty cbh cbd : ClassId) (h0_sound : Int32) (h0_function : Int32) (h0_height : Int32) (h0_depth : Int32) (gty : Nat → Int32) (gbh : Nat → Int32) (gbd : Nat → Int32)  (b_h0_sound : h0_sound = 0 ∨ h0_sound = 1) (b_h0_height : 0 ≤ h0_height.toInt ∧ h0_height.toInt ≤ 5000) (b_h0_depth : 0 ≤ h0_depth.toInt ∧ h0_depth.toInt ≤ 101) (b_gty : ∀ j : Nat, (gty j).toInt ≠ 64) (b_gbh : ∀ j : Nat, 0 ≤ (gbh j).toInt ∧ (gbh j).toInt ≤ 5000) (p0 : Int32)  (hd1 : 1 ≤ h0_depth.toInt) (hbh : (gbh (h0_depth.toInt - 1).toNat).toInt ≤ h0_height.toInt) (hh5 : h0_height.toInt < 5000) : Met l y_VA_checkNumber w_VA_checkNumber ({ frames := 2, cells := 0, slots := 0, locals := 42 }) (va_Pc [.ref h0, .int p0] (fun U => U.heap.size = sz ∧ va_P (dC, dI) cls [(h0, .inr (9, [.ref aw, .ref ac, .int h0_sound, .int h0_function, .ref ty, .int h0_height, .ref bo, .ref bg, .ref bh, .ref bd, .int h0_depth])), (ty, .inl (cty, 5000, .inl gty)), (bh, .inl (cbh, 101, .inl gbh)), (bd, .inl (cbd, 101, .inl gbd))] U.heap ∧ va_K (dC, dI) cls [(cty, .int), (cbh, .int), (cbd, .boolean)] U ∧ va_D (fun _ => True) [(h0, .inr (9, [.ref aw, .ref ac, .int h0_sound, .int h0_function, .ref ty, .int h0_height, .ref bo, .ref bg, .ref bh, .ref bd, .int h0_depth])), (ty, .inl (cty, 5000, .inl gty)), (bh, .inl (cbh, 101, .inl gbh)), (bd, .inl (cbd, 101, .inl gbd))])) (va_Qv (fun (u : (Nat → Int32) × Int32 × Int32) => match u with | (gty2, h0_height2, h0_sound2) => (∀ j : Nat, (gty2 j).toInt ≠ 64) ∧ (0 ≤ h0_height2.toInt ∧ h0_height2.toInt ≤ 5000) ∧ (h0_sound2 = 0 ∨ h0_sound2 = 1) ∧ (((gbh (h0_depth.toInt - 1).toNat).toInt ≤ h0_height2.toInt ∧ h0_height2.toInt ≤ h0_height.toInt + 1) ∧ (h0_sound2.toInt = 1 → h0_sound.toInt = 1 ∧ ((gbd (h0_depth.toInt - 1).toNat).toInt = 0 → ((p0.toInt = 65 ∨ p0.toInt = 66) → (gbh (h0_depth.toInt - 1).toNat).toInt + 0 ≤ h0_height.toInt ∧ h0_height2.toInt = h0_height.toInt - 0 + 1) ∧ (¬ (p0.toInt = 65 ∨ p0.toInt = 66) → (p0.toInt = 69 ∨ p0.toInt = 80 ∨ (103 ≤ p0.toInt ∧ p0.toInt < 106) ∨ (121 ≤ p0.toInt ∧ p0.toInt < 124) ∨ 138 < p0.toInt) → (gbh (h0_depth.toInt - 1).toNat).toInt + 1 ≤ h0_height.toInt ∧ h0_height2.toInt = h0_height.toInt - 1 + 1) ∧ (¬ (p0.toInt = 65 ∨ p0.toInt = 66) → ¬ (p0.toInt = 69 ∨ p0.toInt = 80 ∨ (103 ≤ p0.toInt ∧ p0.toInt < 106) ∨ (121 ≤ p0.toInt ∧ p0.toInt < 124) ∨ 138 < p0.toInt) → (gbh (h0_depth.toInt - 1).toNat).toInt + 2 ≤ h0_height.toInt ∧ h0_height2.toInt = h0_height.toInt - 2 + 1))))) (at_VA_checkNumber dC dI h0 aw ac ty bo bg bh bd cty cbh cbd h0_function h0_depth gbh gbd (va_A [(h0, .inr (9, [.ref aw, .ref ac, .int h0_sound, .int h0_function, .ref ty, .int h0_height, .ref bo, .ref bg, .ref bh, .ref bd, .int h0_depth])), (ty, .inl (cty, 5000, .inl gty)), (bh, .inl (cbh, 101, .inl gbh)), (bd, .inl (cbd, 101, .inl gbd))] sz)) (va_A [(h0, .inr (9, [.ref aw, .ref ac, .int h0_sound, .int h0_function, .ref ty, .int h0_height, .ref bo, .ref bg, .ref bh, .ref bd, .int h0_depth])), (ty, .inl (cty, 5000, .inl gty)), (bh, .inl (cbh, 101, .inl gbh)), (bd, .inl (cbd, 101, .inl gbd))] sz)) 0 0 (va_A [(h0, .inr (9, [.ref aw, .ref ac, .int h0_sound, .int h0_function, .ref ty, .int h0_height, .ref bo, .ref bg, .ref bh, .ref bd, .int h0_depth])), (ty, .inl (cty, 5000, .inl gty)), (bh, .inl (cbh, 101, .inl gbh)), (bd, .inl (cbd, 101, .inl gbd))] sz) := by
  refine Met.ofW (cc := b_VA_checkNumber) (maxL := 2) (ret := none) (by decide) rfl ?_
  intro p e s m args below meth c s₁ B hml hv
  obtain ⟨rfl, hsz, hP, hK, hD0⟩ := hv
  have hx := B.exec
  have hb := B.bytes
  have hr := B.returns
  have hts0 := atoms_spec (ws := w_VA_checkNumber) B.pre
  have hts : ∀ w ∈ lw_g, w.before _ s = true := fun w h => hts0 w (List.mem_cons_of_mem _ h)
  have hown : s.vm.findClass R_VA = some m.cls := findClass_of_methodNamed B.named
  have hlocks := B.notSynchronized
  clear hts0
  subst hsz
  have hD := hD0.self (sz := s.heap.size)
  generalize hAe : va_A [(h0, .inr (9, [.ref aw, .ref ac, .int h0_sound, .int h0_function, .ref ty, .int h0_height, .ref bo, .ref bg, .ref bh, .ref bd, .int h0_depth])), (ty, .inl (cty, 5000, .inl gty)), (bh, .inl (cbh, 101, .inl gbh)), (bd, .inl (cbd, 101, .inl gbd))] s.heap.size = A at hD ⊢
  have hA : ∀ q : Nat, s.heap.size ≤ q → A q := fun q h => by rw [← hAe]; exact Or.inr h
  clear hAe
  have hP : va_P (dC, dI) cls [(h0, .inr (9, [.ref aw, .ref ac, .int h0_sound, .int h0_function, .ref ty, .int h0_height, .ref bo, .ref bg, .ref bh, .ref bd, .int h0_depth])), (ty, .inl (cty, 5000, .inl gty)), (bh, .inl (cbh, 101, .inl gbh)), (bd, .inl (cbd, 101, .inl gbd))] s.heap := hP
  have hl := lv_entry ([.ref h0, .int p0]) (n := 2) (Nat.le_of_ble_eq_true rfl)
  rw [lg_entry_eq]
  generalize (lg_sl ([.ref h0, .int p0]) ++ List.replicate (2 - (lg_sl ([.ref h0, .int p0])).length) Slot.unset).toArray = ls at hl ⊢
  have hl : lv_has ls 2 [(0, .ref h0), (1, .int p0)] := hl
  have k0 : (0 : Int32).toInt = 0 := by decide
  refine w_gen (A := A) hP (fun H locs hP hS => ?_)
  have k65 : (65 : Int32).toInt = 65 := by decide
  have k66 : (66 : Int32).toInt = 66 := by decide
  have k126 : (126 : Int32).toInt = 126 := by decide
  have k127 : (127 : Int32).toInt = 127 := by decide
  have lo_p0 := i32_lo p0
  have hi_p0 := i32_hi p0
  have th0_sound := b01 b_h0_sound
  refine lv_iload_n hx hb d_VA_checkNumber_0 rfl (lv_at hl 1 rfl) ?_
  refine lv_bipush (v := 65) hx hb d_VA_checkNumber_1 (by decide) ?_
  refine w_cut (pc2 := 12) (σ := Unit) (fun u H locs ls => match u with | _ => (p0.toInt = 65 ∨ p0.toInt = 66) ∧ va_P (dC, dI) cls [(h0, .inr (9, [.ref aw, .ref ac, .int h0_sound, .int h0_function, .ref ty, .int h0_height, .ref bo, .ref bg, .ref bh, .ref bd, .int h0_depth])), (ty, .inl (cty, 5000, .inl gty)), (bh, .inl (cbh, 101, .inl gbh)), (bd, .inl (cbd, 101, .inl gbd))] H ∧ va_D A [(h0, .inr (9, [.ref aw, .ref ac, .int h0_sound, .int h0_function, .ref ty, .int h0_height, .ref bo, .ref bg, .ref bh, .ref bd, .int h0_depth])), (ty, .inl (cty, 5000, .inl gty)), (bh, .inl (cbh, 101, .inl gbh)), (bd, .inl (cbd, 101, .inl gbd))] ∧ va_S A s.heap H locs ∧ lv_has ls 2 [(0, .ref h0), (1, .int p0)]) (fun u => match u with | _ => []) ?_ (fun jn12 => ?_)
  · intro u H locs ls hI
    obtain ⟨y12, hP, hD, hS, hl⟩ := hI
    refine lv_aload_n hx hb d_VA_checkNumber_12 rfl (lv_at hl 0 rfl) ?_
    refine lv_iload_n hx hb d_VA_checkNumber_13 rfl (lv_at hl 1 rfl) ?_
    refine lv_bipush (v := 65) hx hb d_VA_checkNumber_14 (by decide) ?_
    refine w_cut (pc2 := 26) (σ := Int32) (fun u H locs ls => match u with | j26_s0 => (126 ≤ j26_s0.toInt ∧ j26_s0.toInt ≤ 127) ∧ va_P (dC, dI) cls [(h0, .inr (9, [.ref aw, .ref ac, .int h0_sound, .int h0_function, .ref ty, .int h0_height, .ref bo, .ref bg, .ref bh, .ref bd, .int h0_depth])), (ty, .inl (cty, 5000, .inl gty)), (bh, .inl (cbh, 101, .inl gbh)), (bd, .inl (cbd, 101, .inl gbd))] H ∧ va_D A [(h0, .inr (9, [.ref aw, .ref ac, .int h0_sound, .int h0_function, .ref ty, .int h0_height, .ref bo, .ref bg, .ref bh, .ref bd, .int h0_depth])), (ty, .inl (cty, 5000, .inl gty)), (bh, .inl (cbh, 101, .inl gbh)), (bd, .inl (cbd, 101, .inl gbd))] ∧ va_S A s.heap H locs ∧ lv_has ls 2 []) (fun u => match u with | j26_s0 => [.int j26_s0, .ref h0]) ?_ (fun jn26 => ?_)
    · intro u H locs ls hI
      obtain ⟨j26_s0, rfl⟩ : ∃ z, z = u := ⟨_, rfl⟩
      obtain ⟨b_j26_s0, hP, hD, hS, hl⟩ := hI
      have hPc := hP.sub (ws' := [(h0, .inr (9, [.ref aw, .ref ac, .int h0_sound, .int h0_function, .ref ty, .int h0_height, .ref bo, .ref bg, .ref bh, .ref bd, .int h0_depth])), (ty, .inl (cty, 5000, .inl gty))]) [0, 1] rfl
      have hDc := hD.sub (ws' := [(h0, .inr (9, [.ref aw, .ref ac, .int h0_sound, .int h0_function, .ref ty, .int h0_height, .ref bo, .ref bg, .ref bh, .ref bd, .int h0_depth])), (ty, .inl (cty, 5000, .inl gty))]) [0, 1] (by decide) rfl
      have hKc := hK.sub (tys' := [(cty, .int)]) [0] rfl
      have hFc := va_free (wc := [(h0, .inr (9, [.ref aw, .ref ac, .int h0_sound, .int h0_function, .ref ty, .int h0_height, .ref bo, .ref bg, .ref bh, .ref bd, .int h0_depth])), (ty, .inl (cty, 5000, .inl gty))]) hD hS hA [0, 1] rfl
      refine va_callv (va_runV (As := [.int j26_s0]) (rest := []) ⟨hx, hb, hml, hown, hts⟩ (c_VA_push l dC dI H.size h0 aw ac ty bo bg bh bd cty h0_sound h0_function h0_height h0_depth gty (b_h0_height) (b_gty) j26_s0 (by (try dsimp only) <;> omega)) (cwV 1 hts (gV kM_VA_167 kV_VA_push kS_VA_push kI_VA kC_VA_push) rfl rfl rfl (by decide +kernel) ⟨Nat.le_of_ble_eq_true rfl, Nat.le_of_ble_eq_true rfl⟩) ⟨fun a U g mk z => by obtain ⟨z0, z1, zP, zK, zD⟩ := z; exact ⟨z0, z1, zP, va_K.moved (u := U) (U := U.calling g mk a) (Vm.Alike.refl U.vm) zK, zD⟩, va_recv hKc hPc (ci := 9) (q0 := 0) rfl rfl, fun U hU hW => ⟨rfl, by rw [hU], by rw [hU]; exact hPc, va_K.moved hW.alike hKc, hDc.weaken (fun _ _ _ _ => trivial)⟩⟩ rfl rfl hl.1 rfl (lv_room (Nat.le_of_ble_eq_true rfl)) d_VA_checkNumber_26 ⟨(Nat.zero_le _), (Nat.zero_le _)⟩) hS (fun q _ h => hFc q h) hFc (fun u t H1 locs ht hvm hw hB hz1 hk1 hS => ?_)
      obtain ⟨n2, n3⟩ := u
      try dsimp only at hw
      obtain ⟨bn2, bn3, xr1⟩ := hw
      try clear hw
      obtain ⟨hP1, hK1, hD1⟩ := hB
      rw [ht] at hP1
      obtain ⟨hP, hD⟩ := va_join (wr := [(bh, .inl (cbh, 101, .inl gbh)), (bd, .inl (cbd, 101, .inl gbd))]) (w1 := [(h0, .inr (9, [.ref aw, .ref ac, .int h0_sound, .int h0_function, .ref ty, .int n3, .ref bo, .ref bg, .ref bh, .ref bd, .int h0_depth])), (ty, .inl (cty, 5000, .inl n2))]) hP hD [0, 1] [2, 3] rfl rfl (by decide) (by decide) hk1 hFc hP1 hD1
      clear hPc hDc hKc hFc hz1 hk1 hP1 hK1 hD1
      generalize H1 = H at hP hS ⊢
      have hP : va_P (dC, dI) cls [(bh, .inl (cbh, 101, .inl gbh)), (bd, .inl (cbd, 101, .inl gbd)), (h0, .inr (9, [.ref aw, .ref ac, .int h0_sound, .int h0_function, .ref ty, .int n3, .ref bo, .ref bg, .ref bh, .ref bd, .int h0_depth])), (ty, .inl (cty, 5000, .inl n2))] H := hP
      have hD : va_D A [(bh, .inl (cbh, 101, .inl gbh)), (bd, .inl (cbd, 101, .inl gbd)), (h0, .inr (9, [.ref aw, .ref ac, .int h0_sound, .int h0_function, .ref ty, .int n3, .ref bo, .ref bg, .ref bh, .ref bd, .int h0_depth])), (ty, .inl (cty, 5000, .inl n2))] := hD
      have hP9 := hP.sub (ws' := [(h0, .inr (9, [.ref aw, .ref ac, .int h0_sound, .int h0_function, .ref ty, .int n3, .ref bo, .ref bg, .ref bh, .ref bd, .int h0_depth])), (ty, .inl (cty, 5000, .inl n2)), (bh, .inl (cbh, 101, .inl gbh)), (bd, .inl (cbd, 101, .inl gbd))]) [2, 3, 0, 1] rfl
      have hD9 := hD.sub (ws' := [(h0, .inr (9, [.ref aw, .ref ac, .int h0_sound, .int h0_function, .ref ty, .int n3, .ref bo, .ref bg, .ref bh, .ref bd, .int h0_depth])), (ty, .inl (cty, 5000, .inl n2)), (bh, .inl (cbh, 101, .inl gbh)), (bd, .inl (cbd, 101, .inl gbd))]) [2, 3, 0, 1] (by decide) rfl
      exact W.vret hx hb hr (fun t ht hW => ⟨⟨(n2, n3, h0_sound), rfl, ⟨bn2, bn3, b_h0_sound, by (try dsimp only) <;> omega⟩, by rw [ht]; exact hP9, va_K.moved hW.alike hK, hD9⟩, hS.F ht⟩) hS.2.2 d_VA_checkNumber_29
    · skip
      refine lv_icmp_ne (tgt := 24) hx hb d_VA_checkNumber_16 (by decide) (fun c16 => ?_) (fun c16 => ?_)
      · have q16 := neI c16
        refine lv_bipush (v := 126) hx hb d_VA_checkNumber_24 (by decide) ?_
        exact jn26 126 _ _ _ ⟨by (try dsimp only) <;> omega, hP, hD, hS, lv_sub hl [] rfl⟩
      · have q16 := eqI c16
        refine lv_bipush (v := 127) hx hb d_VA_checkNumber_19 (by decide) ?_
        refine lv_goto (tgt := 26) hx hb d_VA_checkNumber_21 (by decide) ?_
        exact jn26 127 _ _ _ ⟨by (try dsimp only) <;> omega, hP, hD, hS, lv_sub hl [] rfl⟩
  · skip
    refine lv_icmp_eq (tgt := 12) hx hb d_VA_checkNumber_3 (by decide) (fun c3 => ?_) (fun c3 => ?_)
    · have q3 := eqI c3
      exact jn12 () _ _ _ ⟨by (try dsimp only) <;> omega, hP, hD, hS, lv_sub hl [0, 1] rfl⟩
    · have q3 := neI c3
      refine lv_iload_n hx hb d_VA_checkNumber_6 rfl (lv_at hl 1 rfl) ?_
      refine lv_bipush (v := 66) hx hb d_VA_checkNumber_7 (by decide) ?_
      refine lv_icmp_ne (tgt := 30) hx hb d_VA_checkNumber_9 (by decide) (fun c9 => ?_) (fun c9 => ?_)
      · have q9 := neI c9
        refine lv_aload_n hx hb d_VA_checkNumber_30 rfl (lv_at hl 0 rfl) ?_
        refine lv_iload_n hx hb d_VA_checkNumber_31 rfl (lv_at hl 1 rfl) ?_
        have hPc := hP.sub (ws' := []) [] rfl
        have hDc := hD.sub (ws' := []) [] (by decide) rfl
        have hKc := hK.sub (tys' := []) [] rfl
        have hFc := va_free (wc := []) hD hS hA [] rfl
        refine va_calli (va_runS (As := [.int p0]) (rest := [.ref h0]) ⟨hx, hb, hml, hown, hts⟩ (c_CD_operandType l dC dI H.size p0) ⟨callB_of 1 hts (gW kC_CD_operandType) rfl rfl rfl (hts _ kI_CD) (hts _ kM_VA_209) (by decide +kernel) ⟨Nat.le_of_ble_eq_true rfl, Nat.le_of_ble_eq_true rfl⟩, hts _ kT_CD_operandType⟩ ⟨fun a U g mk z => by obtain ⟨z0, z1, zP, zK, zD⟩ := z; exact ⟨z0, z1, zP, va_K.moved (u := U) (U := U.calling g mk a) (Vm.Alike.refl U.vm) zK, zD⟩, fun U hU hW => ⟨rfl, by rw [hU], by rw [hU]; exact hPc, va_K.moved hW.alike hKc, hDc.weaken (fun _ _ _ _ => trivial)⟩⟩ rfl rfl hl.1 rfl (lv_room (Nat.le_of_ble_eq_true rfl)) d_VA_checkNumber_32 ⟨(Nat.zero_le _), (Nat.zero_le _)⟩) hS (fun q _ h => hFc q h) hFc (fun r4 u t H1 locs ht hvm hw hB hz1 hk1 hS => ?_)
        try dsimp only at hw
        have tr4 := hw
        obtain ⟨hP1, hK1, hD1⟩ := hB
        rw [ht] at hP1
        obtain ⟨hP, hD⟩ := va_join (wr := [(h0, .inr (9, [.ref aw, .ref ac, .int h0_sound, .int h0_function, .ref ty, .int h0_height, .ref bo, .ref bg, .ref bh, .ref bd, .int h0_depth])), (ty, .inl (cty, 5000, .inl gty)), (bh, .inl (cbh, 101, .inl gbh)), (bd, .inl (cbd, 101, .inl gbd))]) (w1 := []) hP hD [] [0, 1, 2, 3] rfl rfl (by decide) (by decide) hk1 hFc hP1 hD1
        clear hPc hDc hKc hFc hz1 hk1 hP1 hK1 hD1
        generalize H1 = H at hP hS ⊢
        have hP : va_P (dC, dI) cls [(h0, .inr (9, [.ref aw, .ref ac, .int h0_sound, .int h0_function, .ref ty, .int h0_height, .ref bo, .ref bg, .ref bh, .ref bd, .int h0_depth])), (ty, .inl (cty, 5000, .inl gty)), (bh, .inl (cbh, 101, .inl gbh)), (bd, .inl (cbd, 101, .inl gbd))] H := hP
        have hD : va_D A [(h0, .inr (9, [.ref aw, .ref ac, .int h0_sound, .int h0_function, .ref ty, .int h0_height, .ref bo, .ref bg, .ref bh, .ref bd, .int h0_depth])), (ty, .inl (cty, 5000, .inl gty)), (bh, .inl (cbh, 101, .inl gbh)), (bd, .inl (cbd, 101, .inl gbd))] := hD
        have hPc := hP.sub (ws' := [(h0, .inr (9, [.ref aw, .ref ac, .int h0_sound, .int h0_function, .ref ty, .int h0_height, .ref bo, .ref bg, .ref bh, .ref bd, .int h0_depth])), (ty, .inl (cty, 5000, .inl gty)), (bh, .inl (cbh, 101, .inl gbh)), (bd, .inl (cbd, 101, .inl gbd))]) [0, 1, 2, 3] rfl
        have hDc := hD.sub (ws' := [(h0, .inr (9, [.ref aw, .ref ac, .int h0_sound, .int h0_function, .ref ty, .int h0_height, .ref bo, .ref bg, .ref bh, .ref bd, .int h0_depth])), (ty, .inl (cty, 5000, .inl gty)), (bh, .inl (cbh, 101, .inl gbh)), (bd, .inl (cbd, 101, .inl gbd))]) [0, 1, 2, 3] (by decide) rfl
        have hKc := hK.sub (tys' := [(cty, .int), (cbh, .int), (cbd, .boolean)]) [0, 1, 2] rfl
        have hFc := va_free (wc := [(h0, .inr (9, [.ref aw, .ref ac, .int h0_sound, .int h0_function, .ref ty, .int h0_height, .ref bo, .ref bg, .ref bh, .ref bd, .int h0_depth])), (ty, .inl (cty, 5000, .inl gty)), (bh, .inl (cbh, 101, .inl gbh)), (bd, .inl (cbd, 101, .inl gbd))]) hD hS hA [0, 1, 2, 3] rfl
        refine va_callv (va_runV (As := [.int r4]) (rest := []) ⟨hx, hb, hml, hown, hts⟩ (c_VA_pop l dC dI H.size h0 aw ac ty bo bg bh bd cty cbh cbd h0_sound h0_function h0_height h0_depth gty gbh gbd (b_h0_sound) (b_h0_height) (b_h0_depth) (b_gty) (b_gbh) r4 (by (try dsimp only) <;> omega) (by (try dsimp only) <;> omega)) (cwV 1 hts (gV kM_VA_161 kV_VA_pop kS_VA_pop kI_VA kC_VA_pop) rfl rfl rfl (by decide +kernel) ⟨Nat.le_of_ble_eq_true rfl, Nat.le_of_ble_eq_true rfl⟩) ⟨fun a U g mk z => by obtain ⟨z0, z1, zP, zK, zD⟩ := z; exact ⟨z0, z1, zP, va_K.moved (u := U) (U := U.calling g mk a) (Vm.Alike.refl U.vm) zK, zD⟩, va_recv hKc hPc (ci := 9) (q0 := 0) rfl rfl, fun U hU hW => ⟨rfl, by rw [hU], by rw [hU]; exact hPc, va_K.moved hW.alike hKc, hDc.weaken (fun _ _ _ _ => trivial)⟩⟩ rfl rfl hl.1 rfl (lv_room (Nat.le_of_ble_eq_true rfl)) d_VA_checkNumber_35 ⟨(Nat.zero_le _), (Nat.zero_le _)⟩) hS (fun q _ h => hFc q h) hFc (fun u t H1 locs ht hvm hw hB hz1 hk1 hS => ?_)
        obtain ⟨n6, n7⟩ := u
        try dsimp only at hw
        obtain ⟨bn6, bn7, xr5⟩ := hw
        try clear hw
        have tn7 := b01 bn7
        obtain ⟨hP1, hK1, hD1⟩ := hB
        rw [ht] at hP1
        obtain ⟨hP, hD⟩ := va_join (wr := []) (w1 := [(h0, .inr (9, [.ref aw, .ref ac, .int n7, .int h0_function, .ref ty, .int n6, .ref bo, .ref bg, .ref bh, .ref bd, .int h0_depth])), (ty, .inl (cty, 5000, .inl gty)), (bh, .inl (cbh, 101, .inl gbh)), (bd, .inl (cbd, 101, .inl gbd))]) hP hD [0, 1, 2, 3] [] rfl rfl (by decide) (by decide) hk1 hFc hP1 hD1
        clear hPc hDc hKc hFc hz1 hk1 hP1 hK1 hD1
        generalize H1 = H at hP hS ⊢
        have hP : va_P (dC, dI) cls [(h0, .inr (9, [.ref aw, .ref ac, .int n7, .int h0_function, .ref ty, .int n6, .ref bo, .ref bg, .ref bh, .ref bd, .int h0_depth])), (ty, .inl (cty, 5000, .inl gty)), (bh, .inl (cbh, 101, .inl gbh)), (bd, .inl (cbd, 101, .inl gbd))] H := hP
        have hD : va_D A [(h0, .inr (9, [.ref aw, .ref ac, .int n7, .int h0_function, .ref ty, .int n6, .ref bo, .ref bg, .ref bh, .ref bd, .int h0_depth])), (ty, .inl (cty, 5000, .inl gty)), (bh, .inl (cbh, 101, .inl gbh)), (bd, .inl (cbd, 101, .inl gbd))] := hD
        refine lv_iload_n hx hb d_VA_checkNumber_38 rfl (lv_at hl 1 rfl) ?_
        have hPc := hP.sub (ws' := []) [] rfl
        have hDc := hD.sub (ws' := []) [] (by decide) rfl
        have hKc := hK.sub (tys' := []) [] rfl
        have hFc := va_free (wc := []) hD hS hA [] rfl
        refine va_calli (va_runS (As := [.int p0]) (rest := []) ⟨hx, hb, hml, hown, hts⟩ (c_CD_takesOne l dC dI H.size p0) ⟨callB_of 1 hts (gW kC_CD_takesOne) rfl rfl rfl (hts _ kI_CD) (hts _ kM_VA_212) (by decide +kernel) ⟨Nat.le_of_ble_eq_true rfl, Nat.le_of_ble_eq_true rfl⟩, hts _ kT_CD_takesOne⟩ ⟨fun a U g mk z => by obtain ⟨z0, z1, zP, zK, zD⟩ := z; exact ⟨z0, z1, zP, va_K.moved (u := U) (U := U.calling g mk a) (Vm.Alike.refl U.vm) zK, zD⟩, fun U hU hW => ⟨rfl, by rw [hU], by rw [hU]; exact hPc, va_K.moved hW.alike hKc, hDc.weaken (fun _ _ _ _ => trivial)⟩⟩ rfl rfl hl.1 rfl (lv_room (Nat.le_of_ble_eq_true rfl)) d_VA_checkNumber_39 ⟨(Nat.zero_le _), (Nat.zero_le _)⟩) hS (fun q _ h => hFc q h) hFc (fun r8 u t H1 locs ht hvm hw hB hz1 hk1 hS => ?_)
        try dsimp only at hw
        have tr8 := hw
        obtain ⟨hP1, hK1, hD1⟩ := hB
        rw [ht] at hP1
        obtain ⟨hP, hD⟩ := va_join (wr := [(h0, .inr (9, [.ref aw, .ref ac, .int n7, .int h0_function, .ref ty, .int n6, .ref bo, .ref bg, .ref bh, .ref bd, .int h0_depth])), (ty, .inl (cty, 5000, .inl gty)), (bh, .inl (cbh, 101, .inl gbh)), (bd, .inl (cbd, 101, .inl gbd))]) (w1 := []) hP hD [] [0, 1, 2, 3] rfl rfl (by decide) (by decide) hk1 hFc hP1 hD1
        clear hPc hDc hKc hFc hz1 hk1 hP1 hK1 hD1
        generalize H1 = H at hP hS ⊢
        have hP : va_P (dC, dI) cls [(h0, .inr (9, [.ref aw, .ref ac, .int n7, .int h0_function, .ref ty, .int n6, .ref bo, .ref bg, .ref bh, .ref bd, .int h0_depth])), (ty, .inl (cty, 5000, .inl gty)), (bh, .inl (cbh, 101, .inl gbh)), (bd, .inl (cbd, 101, .inl gbd))] H := hP
        have hD : va_D A [(h0, .inr (9, [.ref aw, .ref ac, .int n7, .int h0_function, .ref ty, .int n6, .ref bo, .ref bg, .ref bh, .ref bd, .int h0_depth])), (ty, .inl (cty, 5000, .inl gty)), (bh, .inl (cbh, 101, .inl gbh)), (bd, .inl (cbd, 101, .inl gbd))] := hD
        refine lv_if_ne (tgt := 53) hx hb d_VA_checkNumber_42 (by decide) (fun c42 => ?_) (fun c42 => ?_)
        · have q42 := neI c42
          refine lv_aload_n hx hb d_VA_checkNumber_53 rfl (lv_at hl 0 rfl) ?_
          refine lv_iload_n hx hb d_VA_checkNumber_54 rfl (lv_at hl 1 rfl) ?_
          have hPc := hP.sub (ws' := []) [] rfl
          have hDc := hD.sub (ws' := []) [] (by decide) rfl
          have hKc := hK.sub (tys' := []) [] rfl
          have hFc := va_free (wc := []) hD hS hA [] rfl
          refine va_calli (va_runS (As := [.int p0]) (rest := [.ref h0]) ⟨hx, hb, hml, hown, hts⟩ (c_CD_resultType l dC dI H.size p0) ⟨callB_of 1 hts (gW kC_CD_resultType) rfl rfl rfl (hts _ kI_CD) (hts _ kM_VA_215) (by decide +kernel) ⟨Nat.le_of_ble_eq_true rfl, Nat.le_of_ble_eq_true rfl⟩, hts _ kT_CD_resultType⟩ ⟨fun a U g mk z => by obtain ⟨z0, z1, zP, zK, zD⟩ := z; exact ⟨z0, z1, zP, va_K.moved (u := U) (U := U.calling g mk a) (Vm.Alike.refl U.vm) zK, zD⟩, fun U hU hW => ⟨rfl, by rw [hU], by rw [hU]; exact hPc, va_K.moved hW.alike hKc, hDc.weaken (fun _ _ _ _ => trivial)⟩⟩ rfl rfl hl.1 rfl (lv_room (Nat.le_of_ble_eq_true rfl)) d_VA_checkNumber_55 ⟨(Nat.zero_le _), (Nat.zero_le _)⟩) hS (fun q _ h => hFc q h) hFc (fun r9 u t H1 locs ht hvm hw hB hz1 hk1 hS => ?_)
          try dsimp only at hw
          have tr9 := hw
          obtain ⟨hP1, hK1, hD1⟩ := hB
          rw [ht] at hP1
          obtain ⟨hP, hD⟩ := va_join (wr := [(h0, .inr (9, [.ref aw, .ref ac, .int n7, .int h0_function, .ref ty, .int n6, .ref bo, .ref bg, .ref bh, .ref bd, .int h0_depth])), (ty, .inl (cty, 5000, .inl gty)), (bh, .inl (cbh, 101, .inl gbh)), (bd, .inl (cbd, 101, .inl gbd))]) (w1 := []) hP hD [] [0, 1, 2, 3] rfl rfl (by decide) (by decide) hk1 hFc hP1 hD1
          clear hPc hDc hKc hFc hz1 hk1 hP1 hK1 hD1
          generalize H1 = H at hP hS ⊢
          have hP : va_P (dC, dI) cls [(h0, .inr (9, [.ref aw, .ref ac, .int n7, .int h0_function, .ref ty, .int n6, .ref bo, .ref bg, .ref bh, .ref bd, .int h0_depth])), (ty, .inl (cty, 5000, .inl gty)), (bh, .inl (cbh, 101, .inl gbh)), (bd, .inl (cbd, 101, .inl gbd))] H := hP
          have hD : va_D A [(h0, .inr (9, [.ref aw, .ref ac, .int n7, .int h0_function, .ref ty, .int n6, .ref bo, .ref bg, .ref bh, .ref bd, .int h0_depth])), (ty, .inl (cty, 5000, .inl gty)), (bh, .inl (cbh, 101, .inl gbh)), (bd, .inl (cbd, 101, .inl gbd))] := hD
          have hPc := hP.sub (ws' := [(h0, .inr (9, [.ref aw, .ref ac, .int n7, .int h0_function, .ref ty, .int n6, .ref bo, .ref bg, .ref bh, .ref bd, .int h0_depth])), (ty, .inl (cty, 5000, .inl gty))]) [0, 1] rfl
          have hDc := hD.sub (ws' := [(h0, .inr (9, [.ref aw, .ref ac, .int n7, .int h0_function, .ref ty, .int n6, .ref bo, .ref bg, .ref bh, .ref bd, .int h0_depth])), (ty, .inl (cty, 5000, .inl gty))]) [0, 1] (by decide) rfl
          have hKc := hK.sub (tys' := [(cty, .int)]) [0] rfl
          have hFc := va_free (wc := [(h0, .inr (9, [.ref aw, .ref ac, .int n7, .int h0_function, .ref ty, .int n6, .ref bo, .ref bg, .ref bh, .ref bd, .int h0_depth])), (ty, .inl (cty, 5000, .inl gty))]) hD hS hA [0, 1] rfl
          refine va_callv (va_runV (As := [.int r9]) (rest := []) ⟨hx, hb, hml, hown, hts⟩ (c_VA_push l dC dI H.size h0 aw ac ty bo bg bh bd cty n7 h0_function n6 h0_depth gty (bn6) (b_gty) r9 (by (try dsimp only) <;> omega)) (cwV 1 hts (gV kM_VA_167 kV_VA_push kS_VA_push kI_VA kC_VA_push) rfl rfl rfl (by decide +kernel) ⟨Nat.le_of_ble_eq_true rfl, Nat.le_of_ble_eq_true rfl⟩) ⟨fun a U g mk z => by obtain ⟨z0, z1, zP, zK, zD⟩ := z; exact ⟨z0, z1, zP, va_K.moved (u := U) (U := U.calling g mk a) (Vm.Alike.refl U.vm) zK, zD⟩, va_recv hKc hPc (ci := 9) (q0 := 0) rfl rfl, fun U hU hW => ⟨rfl, by rw [hU], by rw [hU]; exact hPc, va_K.moved hW.alike hKc, hDc.weaken (fun _ _ _ _ => trivial)⟩⟩ rfl rfl hl.1 rfl (lv_room (Nat.le_of_ble_eq_true rfl)) d_VA_checkNumber_58 ⟨(Nat.zero_le _), (Nat.zero_le _)⟩) hS (fun q _ h => hFc q h) hFc (fun u t H1 locs ht hvm hw hB hz1 hk1 hS => ?_)
          obtain ⟨n11, n12⟩ := u
          try dsimp only at hw
          obtain ⟨bn11, bn12, xr10⟩ := hw
          try clear hw
          obtain ⟨hP1, hK1, hD1⟩ := hB
          rw [ht] at hP1
          obtain ⟨hP, hD⟩ := va_join (wr := [(bh, .inl (cbh, 101, .inl gbh)), (bd, .inl (cbd, 101, .inl gbd))]) (w1 := [(h0, .inr (9, [.ref aw, .ref ac, .int n7, .int h0_function, .ref ty, .int n12, .ref bo, .ref bg, .ref bh, .ref bd, .int h0_depth])), (ty, .inl (cty, 5000, .inl n11))]) hP hD [0, 1] [2, 3] rfl rfl (by decide) (by decide) hk1 hFc hP1 hD1
          clear hPc hDc hKc hFc hz1 hk1 hP1 hK1 hD1
          generalize H1 = H at hP hS ⊢
          have hP : va_P (dC, dI) cls [(bh, .inl (cbh, 101, .inl gbh)), (bd, .inl (cbd, 101, .inl gbd)), (h0, .inr (9, [.ref aw, .ref ac, .int n7, .int h0_function, .ref ty, .int n12, .ref bo, .ref bg, .ref bh, .ref bd, .int h0_depth])), (ty, .inl (cty, 5000, .inl n11))] H := hP
          have hD : va_D A [(bh, .inl (cbh, 101, .inl gbh)), (bd, .inl (cbd, 101, .inl gbd)), (h0, .inr (9, [.ref aw, .ref ac, .int n7, .int h0_function, .ref ty, .int n12, .ref bo, .ref bg, .ref bh, .ref bd, .int h0_depth])), (ty, .inl (cty, 5000, .inl n11))] := hD
          have hP9 := hP.sub (ws' := [(h0, .inr (9, [.ref aw, .ref ac, .int n7, .int h0_function, .ref ty, .int n12, .ref bo, .ref bg, .ref bh, .ref bd, .int h0_depth])), (ty, .inl (cty, 5000, .inl n11)), (bh, .inl (cbh, 101, .inl gbh)), (bd, .inl (cbd, 101, .inl gbd))]) [2, 3, 0, 1] rfl
          have hD9 := hD.sub (ws' := [(h0, .inr (9, [.ref aw, .ref ac, .int n7, .int h0_function, .ref ty, .int n12, .ref bo, .ref bg, .ref bh, .ref bd, .int h0_depth])), (ty, .inl (cty, 5000, .inl n11)), (bh, .inl (cbh, 101, .inl gbh)), (bd, .inl (cbd, 101, .inl gbd))]) [2, 3, 0, 1] (by decide) rfl
          exact W.vret hx hb hr (fun t ht hW => ⟨⟨(n11, n12, n7), rfl, ⟨bn11, bn12, bn7, by (try dsimp only) <;> omega⟩, by rw [ht]; exact hP9, va_K.moved hW.alike hK, hD9⟩, hS.F ht⟩) hS.2.2 d_VA_checkNumber_61
        · have q42 := eqI c42
          refine lv_aload_n hx hb d_VA_checkNumber_45 rfl (lv_at hl 0 rfl) ?_
          refine lv_iload_n hx hb d_VA_checkNumber_46 rfl (lv_at hl 1 rfl) ?_
          have hPc := hP.sub (ws' := []) [] rfl
          have hDc := hD.sub (ws' := []) [] (by decide) rfl
          have hKc := hK.sub (tys' := []) [] rfl
          have hFc := va_free (wc := []) hD hS hA [] rfl
          refine va_calli (va_runS (As := [.int p0]) (rest := [.ref h0]) ⟨hx, hb, hml, hown, hts⟩ (c_CD_operandType l dC dI H.size p0) ⟨callB_of 1 hts (gW kC_CD_operandType) rfl rfl rfl (hts _ kI_CD) (hts _ kM_VA_209) (by decide +kernel) ⟨Nat.le_of_ble_eq_true rfl, Nat.le_of_ble_eq_true rfl⟩, hts _ kT_CD_operandType⟩ ⟨fun a U g mk z => by obtain ⟨z0, z1, zP, zK, zD⟩ := z; exact ⟨z0, z1, zP, va_K.moved (u := U) (U := U.calling g mk a) (Vm.Alike.refl U.vm) zK, zD⟩, fun U hU hW => ⟨rfl, by rw [hU], by rw [hU]; exact hPc, va_K.moved hW.alike hKc, hDc.weaken (fun _ _ _ _ => trivial)⟩⟩ rfl rfl hl.1 rfl (lv_room (Nat.le_of_ble_eq_true rfl)) d_VA_checkNumber_47 ⟨(Nat.zero_le _), (Nat.zero_le _)⟩) hS (fun q _ h => hFc q h) hFc (fun r13 u t H1 locs ht hvm hw hB hz1 hk1 hS => ?_)
          try dsimp only at hw
          have tr13 := hw
          obtain ⟨hP1, hK1, hD1⟩ := hB
          rw [ht] at hP1
          obtain ⟨hP, hD⟩ := va_join (wr := [(h0, .inr (9, [.ref aw, .ref ac, .int n7, .int h0_function, .ref ty, .int n6, .ref bo, .ref bg, .ref bh, .ref bd, .int h0_depth])), (ty, .inl (cty, 5000, .inl gty)), (bh, .inl (cbh, 101, .inl gbh)), (bd, .inl (cbd, 101, .inl gbd))]) (w1 := []) hP hD [] [0, 1, 2, 3] rfl rfl (by decide) (by decide) hk1 hFc hP1 hD1
          clear hPc hDc hKc hFc hz1 hk1 hP1 hK1 hD1
          generalize H1 = H at hP hS ⊢
          have hP : va_P (dC, dI) cls [(h0, .inr (9, [.ref aw, .ref ac, .int n7, .int h0_function, .ref ty, .int n6, .ref bo, .ref bg, .ref bh, .ref bd, .int h0_depth])), (ty, .inl (cty, 5000, .inl gty)), (bh, .inl (cbh, 101, .inl gbh)), (bd, .inl (cbd, 101, .inl gbd))] H := hP
          have hD : va_D A [(h0, .inr (9, [.ref aw, .ref ac, .int n7, .int h0_function, .ref ty, .int n6, .ref bo, .ref bg, .ref bh, .ref bd, .int h0_depth])), (ty, .inl (cty, 5000, .inl gty)), (bh, .inl (cbh, 101, .inl gbh)), (bd, .inl (cbd, 101, .inl gbd))] := hD
          have hPc := hP.sub (ws' := [(h0, .inr (9, [.ref aw, .ref ac, .int n7, .int h0_function, .ref ty, .int n6, .ref bo, .ref bg, .ref bh, .ref bd, .int h0_depth])), (ty, .inl (cty, 5000, .inl gty)), (bh, .inl (cbh, 101, .inl gbh)), (bd, .inl (cbd, 101, .inl gbd))]) [0, 1, 2, 3] rfl
          have hDc := hD.sub (ws' := [(h0, .inr (9, [.ref aw, .ref ac, .int n7, .int h0_function, .ref ty, .int n6, .ref bo, .ref bg, .ref bh, .ref bd, .int h0_depth])), (ty, .inl (cty, 5000, .inl gty)), (bh, .inl (cbh, 101, .inl gbh)), (bd, .inl (cbd, 101, .inl gbd))]) [0, 1, 2, 3] (by decide) rfl
          have hKc := hK.sub (tys' := [(cty, .int), (cbh, .int), (cbd, .boolean)]) [0, 1, 2] rfl
          have hFc := va_free (wc := [(h0, .inr (9, [.ref aw, .ref ac, .int n7, .int h0_function, .ref ty, .int n6, .ref bo, .ref bg, .ref bh, .ref bd, .int h0_depth])), (ty, .inl (cty, 5000, .inl gty)), (bh, .inl (cbh, 101, .inl gbh)), (bd, .inl (cbd, 101, .inl gbd))]) hD hS hA [0, 1, 2, 3] rfl
          refine va_callv (va_runV (As := [.int r13]) (rest := []) ⟨hx, hb, hml, hown, hts⟩ (c_VA_pop l dC dI H.size h0 aw ac ty bo bg bh bd cty cbh cbd n7 h0_function n6 h0_depth gty gbh gbd (bn7) (bn6) (b_h0_depth) (b_gty) (b_gbh) r13 (by (try dsimp only) <;> omega) (by (try dsimp only) <;> omega)) (cwV 1 hts (gV kM_VA_161 kV_VA_pop kS_VA_pop kI_VA kC_VA_pop) rfl rfl rfl (by decide +kernel) ⟨Nat.le_of_ble_eq_true rfl, Nat.le_of_ble_eq_true rfl⟩) ⟨fun a U g mk z => by obtain ⟨z0, z1, zP, zK, zD⟩ := z; exact ⟨z0, z1, zP, va_K.moved (u := U) (U := U.calling g mk a) (Vm.Alike.refl U.vm) zK, zD⟩, va_recv hKc hPc (ci := 9) (q0 := 0) rfl rfl, fun U hU hW => ⟨rfl, by rw [hU], by rw [hU]; exact hPc, va_K.moved hW.alike hKc, hDc.weaken (fun _ _ _ _ => trivial)⟩⟩ rfl rfl hl.1 rfl (lv_room (Nat.le_of_ble_eq_true rfl)) d_VA_checkNumber_50 ⟨(Nat.zero_le _), (Nat.zero_le _)⟩) hS (fun q _ h => hFc q h) hFc (fun u t H1 locs ht hvm hw hB hz1 hk1 hS => ?_)
          obtain ⟨n15, n16⟩ := u
          try dsimp only at hw
          obtain ⟨bn15, bn16, xr14⟩ := hw
          try clear hw
          have tn16 := b01 bn16
          obtain ⟨hP1, hK1, hD1⟩ := hB
          rw [ht] at hP1
          obtain ⟨hP, hD⟩ := va_join (wr := []) (w1 := [(h0, .inr (9, [.ref aw, .ref ac, .int n16, .int h0_function, .ref ty, .int n15, .ref bo, .ref bg, .ref bh, .ref bd, .int h0_depth])), (ty, .inl (cty, 5000, .inl gty)), (bh, .inl (cbh, 101, .inl gbh)), (bd, .inl (cbd, 101, .inl gbd))]) hP hD [0, 1, 2, 3] [] rfl rfl (by decide) (by decide) hk1 hFc hP1 hD1
          clear hPc hDc hKc hFc hz1 hk1 hP1 hK1 hD1
          generalize H1 = H at hP hS ⊢
          have hP : va_P (dC, dI) cls [(h0, .inr (9, [.ref aw, .ref ac, .int n16, .int h0_function, .ref ty, .int n15, .ref bo, .ref bg, .ref bh, .ref bd, .int h0_depth])), (ty, .inl (cty, 5000, .inl gty)), (bh, .inl (cbh, 101, .inl gbh)), (bd, .inl (cbd, 101, .inl gbd))] H := hP
          have hD : va_D A [(h0, .inr (9, [.ref aw, .ref ac, .int n16, .int h0_function, .ref ty, .int n15, .ref bo, .ref bg, .ref bh, .ref bd, .int h0_depth])), (ty, .inl (cty, 5000, .inl gty)), (bh, .inl (cbh, 101, .inl gbh)), (bd, .inl (cbd, 101, .inl gbd))] := hD
          refine lv_aload_n hx hb d_VA_checkNumber_53 rfl (lv_at hl 0 rfl) ?_
          refine lv_iload_n hx hb d_VA_checkNumber_54 rfl (lv_at hl 1 rfl) ?_
          have hPc := hP.sub (ws' := []) [] rfl
          have hDc := hD.sub (ws' := []) [] (by decide) rfl
          have hKc := hK.sub (tys' := []) [] rfl
          have hFc := va_free (wc := []) hD hS hA [] rfl
          refine va_calli (va_runS (As := [.int p0]) (rest := [.ref h0]) ⟨hx, hb, hml, hown, hts⟩ (c_CD_resultType l dC dI H.size p0) ⟨callB_of 1 hts (gW kC_CD_resultType) rfl rfl rfl (hts _ kI_CD) (hts _ kM_VA_215) (by decide +kernel) ⟨Nat.le_of_ble_eq_true rfl, Nat.le_of_ble_eq_true rfl⟩, hts _ kT_CD_resultType⟩ ⟨fun a U g mk z => by obtain ⟨z0, z1, zP, zK, zD⟩ := z; exact ⟨z0, z1, zP, va_K.moved (u := U) (U := U.calling g mk a) (Vm.Alike.refl U.vm) zK, zD⟩, fun U hU hW => ⟨rfl, by rw [hU], by rw [hU]; exact hPc, va_K.moved hW.alike hKc, hDc.weaken (fun _ _ _ _ => trivial)⟩⟩ rfl rfl hl.1 rfl (lv_room (Nat.le_of_ble_eq_true rfl)) d_VA_checkNumber_55 ⟨(Nat.zero_le _), (Nat.zero_le _)⟩) hS (fun q _ h => hFc q h) hFc (fun r17 u t H1 locs ht hvm hw hB hz1 hk1 hS => ?_)
          try dsimp only at hw
          have tr17 := hw
          obtain ⟨hP1, hK1, hD1⟩ := hB
          rw [ht] at hP1
          obtain ⟨hP, hD⟩ := va_join (wr := [(h0, .inr (9, [.ref aw, .ref ac, .int n16, .int h0_function, .ref ty, .int n15, .ref bo, .ref bg, .ref bh, .ref bd, .int h0_depth])), (ty, .inl (cty, 5000, .inl gty)), (bh, .inl (cbh, 101, .inl gbh)), (bd, .inl (cbd, 101, .inl gbd))]) (w1 := []) hP hD [] [0, 1, 2, 3] rfl rfl (by decide) (by decide) hk1 hFc hP1 hD1
          clear hPc hDc hKc hFc hz1 hk1 hP1 hK1 hD1
          generalize H1 = H at hP hS ⊢
          have hP : va_P (dC, dI) cls [(h0, .inr (9, [.ref aw, .ref ac, .int n16, .int h0_function, .ref ty, .int n15, .ref bo, .ref bg, .ref bh, .ref bd, .int h0_depth])), (ty, .inl (cty, 5000, .inl gty)), (bh, .inl (cbh, 101, .inl gbh)), (bd, .inl (cbd, 101, .inl gbd))] H := hP
          have hD : va_D A [(h0, .inr (9, [.ref aw, .ref ac, .int n16, .int h0_function, .ref ty, .int n15, .ref bo, .ref bg, .ref bh, .ref bd, .int h0_depth])), (ty, .inl (cty, 5000, .inl gty)), (bh, .inl (cbh, 101, .inl gbh)), (bd, .inl (cbd, 101, .inl gbd))] := hD
          have hPc := hP.sub (ws' := [(h0, .inr (9, [.ref aw, .ref ac, .int n16, .int h0_function, .ref ty, .int n15, .ref bo, .ref bg, .ref bh, .ref bd, .int h0_depth])), (ty, .inl (cty, 5000, .inl gty))]) [0, 1] rfl
          have hDc := hD.sub (ws' := [(h0, .inr (9, [.ref aw, .ref ac, .int n16, .int h0_function, .ref ty, .int n15, .ref bo, .ref bg, .ref bh, .ref bd, .int h0_depth])), (ty, .inl (cty, 5000, .inl gty))]) [0, 1] (by decide) rfl
          have hKc := hK.sub (tys' := [(cty, .int)]) [0] rfl
          have hFc := va_free (wc := [(h0, .inr (9, [.ref aw, .ref ac, .int n16, .int h0_function, .ref ty, .int n15, .ref bo, .ref bg, .ref bh, .ref bd, .int h0_depth])), (ty, .inl (cty, 5000, .inl gty))]) hD hS hA [0, 1] rfl
          refine va_callv (va_runV (As := [.int r17]) (rest := []) ⟨hx, hb, hml, hown, hts⟩ (c_VA_push l dC dI H.size h0 aw ac ty bo bg bh bd cty n16 h0_function n15 h0_depth gty (bn15) (b_gty) r17 (by (try dsimp only) <;> omega)) (cwV 1 hts (gV kM_VA_167 kV_VA_push kS_VA_push kI_VA kC_VA_push) rfl rfl rfl (by decide +kernel) ⟨Nat.le_of_ble_eq_true rfl, Nat.le_of_ble_eq_true rfl⟩) ⟨fun a U g mk z => by obtain ⟨z0, z1, zP, zK, zD⟩ := z; exact ⟨z0, z1, zP, va_K.moved (u := U) (U := U.calling g mk a) (Vm.Alike.refl U.vm) zK, zD⟩, va_recv hKc hPc (ci := 9) (q0 := 0) rfl rfl, fun U hU hW => ⟨rfl, by rw [hU], by rw [hU]; exact hPc, va_K.moved hW.alike hKc, hDc.weaken (fun _ _ _ _ => trivial)⟩⟩ rfl rfl hl.1 rfl (lv_room (Nat.le_of_ble_eq_true rfl)) d_VA_checkNumber_58 ⟨(Nat.zero_le _), (Nat.zero_le _)⟩) hS (fun q _ h => hFc q h) hFc (fun u t H1 locs ht hvm hw hB hz1 hk1 hS => ?_)
          obtain ⟨n19, n20⟩ := u
          try dsimp only at hw
          obtain ⟨bn19, bn20, xr18⟩ := hw
          try clear hw
          obtain ⟨hP1, hK1, hD1⟩ := hB
          rw [ht] at hP1
          obtain ⟨hP, hD⟩ := va_join (wr := [(bh, .inl (cbh, 101, .inl gbh)), (bd, .inl (cbd, 101, .inl gbd))]) (w1 := [(h0, .inr (9, [.ref aw, .ref ac, .int n16, .int h0_function, .ref ty, .int n20, .ref bo, .ref bg, .ref bh, .ref bd, .int h0_depth])), (ty, .inl (cty, 5000, .inl n19))]) hP hD [0, 1] [2, 3] rfl rfl (by decide) (by decide) hk1 hFc hP1 hD1
          clear hPc hDc hKc hFc hz1 hk1 hP1 hK1 hD1
          generalize H1 = H at hP hS ⊢
          have hP : va_P (dC, dI) cls [(bh, .inl (cbh, 101, .inl gbh)), (bd, .inl (cbd, 101, .inl gbd)), (h0, .inr (9, [.ref aw, .ref ac, .int n16, .int h0_function, .ref ty, .int n20, .ref bo, .ref bg, .ref bh, .ref bd, .int h0_depth])), (ty, .inl (cty, 5000, .inl n19))] H := hP
          have hD : va_D A [(bh, .inl (cbh, 101, .inl gbh)), (bd, .inl (cbd, 101, .inl gbd)), (h0, .inr (9, [.ref aw, .ref ac, .int n16, .int h0_function, .ref ty, .int n20, .ref bo, .ref bg, .ref bh, .ref bd, .int h0_depth])), (ty, .inl (cty, 5000, .inl n19))] := hD
          have hP9 := hP.sub (ws' := [(h0, .inr (9, [.ref aw, .ref ac, .int n16, .int h0_function, .ref ty, .int n20, .ref bo, .ref bg, .ref bh, .ref bd, .int h0_depth])), (ty, .inl (cty, 5000, .inl n19)), (bh, .inl (cbh, 101, .inl gbh)), (bd, .inl (cbd, 101, .inl gbd))]) [2, 3, 0, 1] rfl
          have hD9 := hD.sub (ws' := [(h0, .inr (9, [.ref aw, .ref ac, .int n16, .int h0_function, .ref ty, .int n20, .ref bo, .ref bg, .ref bh, .ref bd, .int h0_depth])), (ty, .inl (cty, 5000, .inl n19)), (bh, .inl (cbh, 101, .inl gbh)), (bd, .inl (cbd, 101, .inl gbd))]) [2, 3, 0, 1] (by decide) rfl
          exact W.vret hx hb hr (fun t ht hW => ⟨⟨(n19, n20, n16), rfl, ⟨bn19, bn20, bn16, by (try dsimp only) <;> omega⟩, by rw [ht]; exact hP9, va_K.moved hW.alike hK, hD9⟩, hS.F ht⟩) hS.2.2 d_VA_checkNumber_61
      · have q9 := eqI c9
        exact jn12 () _ _ _ ⟨by (try dsimp only) <;> omega, hP, hD, hS, lv_sub hl [0, 1] rfl⟩
abbrev b_VA_checkMemory : ByteArray := prog_12_method_12_code
def y_VA_checkMemory : MethodName := ⟨R_VA, "checkMemory", "(II)V"⟩
abbrev w_VA_checkMemory : List Cond := .code y_VA_checkMemory b_VA_checkMemory 4 none :: lw_g
theorem kC_VA_checkMemory : Cond.code y_VA_checkMemory b_VA_checkMemory 4 none ∈ lw_g := in_g 1476 (by decide +kernel) rfl
theorem d_VA_checkMemory_0 : decode b_VA_checkMemory 0 = .ok (.aload_n 0, 1) := by decide +kernel
theorem d_VA_checkMemory_1 : decode b_VA_checkMemory 1 = .ok (.aload_n 0, 1) := by decide +kernel
theorem d_VA_checkMemory_2 : decode b_VA_checkMemory 2 = .ok (.getfield 39, 3) := by decide +kernel
theorem d_VA_checkMemory_5 : decode b_VA_checkMemory 5 = .ok (.ifCond .eq 32, 3) := by decide +kernel
theorem d_VA_checkMemory_8 : decode b_VA_checkMemory 8 = .ok (.aload_n 0, 1) := by decide +kernel
theorem d_VA_checkMemory_9 : decode b_VA_checkMemory 9 = .ok (.getfield 28, 3) := by decide +kernel
theorem d_VA_checkMemory_12 : decode b_VA_checkMemory 12 = .ok (.getfield 89, 3) := by decide +kernel
theorem d_VA_checkMemory_15 : decode b_VA_checkMemory 15 = .ok (.ifCond .eq 22, 3) := by decide +kernel
theorem d_VA_checkMemory_18 : decode b_VA_checkMemory 18 = .ok (.iload_n 1, 1) := by decide +kernel
theorem d_VA_checkMemory_19 : decode b_VA_checkMemory 19 = .ok (.invokestatic 199, 3) := by decide +kernel
theorem d_VA_checkMemory_22 : decode b_VA_checkMemory 22 = .ok (.ifCond .eq 11, 3) := by decide +kernel
theorem d_VA_checkMemory_25 : decode b_VA_checkMemory 25 = .ok (.iload_n 2, 1) := by decide +kernel
theorem d_VA_checkMemory_26 : decode b_VA_checkMemory 26 = .ok (.iload_n 1, 1) := by decide +kernel
theorem d_VA_checkMemory_27 : decode b_VA_checkMemory 27 = .ok (.invokestatic 203, 3) := by decide +kernel
theorem d_VA_checkMemory_30 : decode b_VA_checkMemory 30 = .ok (.if_icmp .gt 7, 3) := by decide +kernel
theorem d_VA_checkMemory_33 : decode b_VA_checkMemory 33 = .ok (.iconst 1, 1) := by decide +kernel
theorem d_VA_checkMemory_34 : decode b_VA_checkMemory 34 = .ok (.goto 4, 3) := by decide +kernel
theorem d_VA_checkMemory_37 : decode b_VA_checkMemory 37 = .ok (.iconst 0, 1) := by decide +kernel
theorem d_VA_checkMemory_38 : decode b_VA_checkMemory 38 = .ok (.putfield 39, 3) := by decide +kernel
theorem d_VA_checkMemory_41 : decode b_VA_checkMemory 41 = .ok (.iload_n 1, 1) := by decide +kernel
theorem d_VA_checkMemory_42 : decode b_VA_checkMemory 42 = .ok (.bipush 41, 2) := by decide +kernel
theorem d_VA_checkMemory_44 : decode b_VA_checkMemory 44 = .ok (.if_icmp .eq 9, 3) := by decide +kernel
theorem d_VA_checkMemory_47 : decode b_VA_checkMemory 47 = .ok (.iload_n 1, 1) := by decide +kernel
theorem d_VA_checkMemory_48 : decode b_VA_checkMemory 48 = .ok (.bipush 55, 2) := by decide +kernel
theorem d_VA_checkMemory_50 : decode b_VA_checkMemory 50 = .ok (.if_icmp .ne 8, 3) := by decide +kernel
theorem d_VA_checkMemory_53 : decode b_VA_checkMemory 53 = .ok (.bipush 126, 2) := by decide +kernel
theorem d_VA_checkMemory_55 : decode b_VA_checkMemory 55 = .ok (.goto 5, 3) := by decide +kernel
theorem d_VA_checkMemory_58 : decode b_VA_checkMemory 58 = .ok (.bipush 127, 2) := by decide +kernel
theorem d_VA_checkMemory_60 : decode b_VA_checkMemory 60 = .ok (.istore_n 3, 1) := by decide +kernel
theorem d_VA_checkMemory_61 : decode b_VA_checkMemory 61 = .ok (.iload_n 1, 1) := by decide +kernel
theorem d_VA_checkMemory_62 : decode b_VA_checkMemory 62 = .ok (.invokestatic 206, 3) := by decide +kernel
theorem d_VA_checkMemory_65 : decode b_VA_checkMemory 65 = .ok (.ifCond .eq 15, 3) := by decide +kernel
theorem d_VA_checkMemory_68 : decode b_VA_checkMemory 68 = .ok (.aload_n 0, 1) := by decide +kernel
theorem d_VA_checkMemory_69 : decode b_VA_checkMemory 69 = .ok (.iload_n 3, 1) := by decide +kernel
theorem d_VA_checkMemory_70 : decode b_VA_checkMemory 70 = .ok (.invokevirtual 161, 3) := by decide +kernel
theorem d_VA_checkMemory_73 : decode b_VA_checkMemory 73 = .ok (.aload_n 0, 1) := by decide +kernel
theorem d_VA_checkMemory_74 : decode b_VA_checkMemory 74 = .ok (.bipush 127, 2) := by decide +kernel
theorem d_VA_checkMemory_76 : decode b_VA_checkMemory 76 = .ok (.invokevirtual 161, 3) := by decide +kernel
theorem d_VA_checkMemory_79 : decode b_VA_checkMemory 79 = .ok (.return_, 1) := by decide +kernel
theorem d_VA_checkMemory_80 : decode b_VA_checkMemory 80 = .ok (.iload_n 1, 1) := by decide +kernel
theorem d_VA_checkMemory_81 : decode b_VA_checkMemory 81 = .ok (.bipush 63, 2) := by decide +kernel
theorem d_VA_checkMemory_83 : decode b_VA_checkMemory 83 = .ok (.if_icmp .eq 9, 3) := by decide +kernel
theorem d_VA_checkMemory_86 : decode b_VA_checkMemory 86 = .ok (.aload_n 0, 1) := by decide +kernel
theorem d_VA_checkMemory_87 : decode b_VA_checkMemory 87 = .ok (.bipush 127, 2) := by decide +kernel
theorem d_VA_checkMemory_89 : decode b_VA_checkMemory 89 = .ok (.invokevirtual 161, 3) := by decide +kernel
theorem d_VA_checkMemory_92 : decode b_VA_checkMemory 92 = .ok (.aload_n 0, 1) := by decide +kernel
theorem d_VA_checkMemory_93 : decode b_VA_checkMemory 93 = .ok (.iload_n 3, 1) := by decide +kernel
theorem d_VA_checkMemory_94 : decode b_VA_checkMemory 94 = .ok (.invokevirtual 167, 3) := by decide +kernel
theorem d_VA_checkMemory_97 : decode b_VA_checkMemory 97 = .ok (.return_, 1) := by decide +kernel
theorem kM_VA_199 : Cond.methodLink R_VA 199 y_CD_isAccess ∈ lw_g := in_g 1477 (by decide +kernel) rfl
theorem kM_VA_203 : Cond.methodLink R_VA 203 y_CD_greatestAlignment ∈ lw_g := in_g 1478 (by decide +kernel) rfl
theorem kT_CD_greatestAlignment : Cond.static y_CD_greatestAlignment ∈ lw_g := in_g 1179 (by decide +kernel) rfl
theorem kM_VA_206 : Cond.methodLink R_VA 206 y_CD_isStore ∈ lw_g := in_g 1479 (by decide +kernel) rfl
theorem kF_VA_28 : Cond.fieldLink R_VA 28 "WaferForge$Validator" "wafer" "LWaferForge$Wafer;" ∈ lw_g := in_g 497 (by decide +kernel) rfl
theorem kF_VA_89 : Cond.fieldLink R_VA 89 "WaferForge$Wafer" "hasMemory" "Z" ∈ lw_g := in_g 166 (by decide +kernel) rfl
abbrev at_VA_checkMemory (dC : Nat → ClassId) (dI : Nat → Nat → Nat) (h0 aw ac ty bo bg bh bd : Nat) (cty cbh cbd : ClassId) (h0_function : Int32) (h0_depth : Int32) (law : List Value) (aw_hasMemory : Int32) (gbh : Nat → Int32) (gbd : Nat → Int32) (A : Nat → Prop) (u : (Nat → Int32) × Int32 × Int32) (t : State) : Prop := match u with | (gty, h0_height, h0_sound) => va_P (dC, dI) cls [(h0, .inr (9, [.ref aw, .ref ac, .int h0_sound, .int h0_function, .ref ty, .int h0_height, .ref bo, .ref bg, .ref bh, .ref bd, .int h0_depth])), (aw, .inr (10, law)), (ty, .inl (cty, 5000, .inl gty)), (bh, .inl (cbh, 101, .inl gbh)), (bd, .inl (cbd, 101, .inl gbd))] t.heap ∧ va_K (dC, dI) cls [(cty, .int), (cbh, .int), (cbd, .boolean)] t ∧ va_D A [(h0, .inr (9, [.ref aw, .ref ac, .int h0_sound, .int h0_function, .ref ty, .int h0_height, .ref bo, .ref bg, .ref bh, .ref bd, .int h0_depth])), (aw, .inr (10, law)), (ty, .inl (cty, 5000, .inl gty)), (bh, .inl (cbh, 101, .inl gbh)), (bd, .inl (cbd, 101, .inl gbd))]
set_option maxHeartbeats 4000000 in
set_option maxRecDepth 100000 in
theorem c_VA_checkMemory (l : Launch) (dC : Nat → ClassId) (dI : Nat → Nat → Nat) (sz : Nat) (h0 aw ac ty bo bg bh bd : Nat) (cty cbh cbd : ClassId) (h0_sound : Int32) (h0_function : Int32) (h0_height : Int32) (h0_depth : Int32) (law : List Value) (aw_hasMemory : Int32) (gty : Nat → Int32) (gbh : Nat → Int32) (gbd : Nat → Int32) (paw_8 : law[8]? = some (.int aw_hasMemory)) (plaw : law.length = 21) (b_h0_sound : h0_sound = 0 ∨ h0_sound = 1) (b_h0_height : 0 ≤ h0_height.toInt ∧ h0_height.toInt ≤ 5000) (b_h0_depth : 0 ≤ h0_depth.toInt ∧ h0_depth.toInt ≤ 101) (b_gty : ∀ j : Nat, (gty j).toInt ≠ 64) (b_gbh : ∀ j : Nat, 0 ≤ (gbh j).toInt ∧ (gbh j).toInt ≤ 5000) (b_aw_hasMemory : aw_hasMemory = 0 ∨ aw_hasMemory = 1) (p0 : Int32) (p1 : Int32)  (hd1 : 1 ≤ h0_depth.toInt) (hbh : (gbh (h0_depth.toInt - 1).toNat).toInt ≤ h0_height.toInt) (hh5 : h0_height.toInt < 5000) : Met l y_VA_checkMemory w_VA_checkMemory ({ frames := 2, cells := 0, slots := 0, locals := 42 }) (va_Pc [.ref h0, .int p0, .int p1] (fun U => U.heap.size = sz ∧ va_P (dC, dI) cls [(h0, .inr (9, [.ref aw, .ref ac, .int h0_sound, .int h0_function, .ref ty, .int h0_height, .ref bo, .ref bg, .ref bh, .ref bd, .int h0_depth])), (aw, .inr (10, law)), (ty, .inl (cty, 5000, .inl gty)), (bh, .inl (cbh, 101, .inl gbh)), (bd, .inl (cbd, 101, .inl gbd))] U.heap ∧ va_K (dC, dI) cls [(cty, .int), (cbh, .int), (cbd, .boolean)] U ∧ va_D (fun _ => True) [(h0, .inr (9, [.ref aw, .ref ac, .int h0_sound, .int h0_function, .ref ty, .int h0_height, .ref bo, .ref bg, .ref bh, .ref bd, .int h0_depth])), (aw, .inr (10, law)), (ty, .inl (cty, 5000, .inl gty)), (bh, .inl (cbh, 101, .inl gbh)), (bd, .inl (cbd, 101, .inl gbd))])) (va_Qv (fun (u : (Nat → Int32) × Int32 × Int32) => match u with | (gty2, h0_height2, h0_sound2) => (∀ j : Nat, (gty2 j).toInt ≠ 64) ∧ (0 ≤ h0_height2.toInt ∧ h0_height2.toInt ≤ 5000) ∧ (h0_sound2 = 0 ∨ h0_sound2 = 1) ∧ (((gbh (h0_depth.toInt - 1).toNat).toInt ≤ h0_height2.toInt ∧ h0_height2.toInt ≤ h0_height.toInt + 1) ∧ (h0_sound2.toInt = 1 → h0_sound.toInt = 1 ∧ ((gbd (h0_depth.toInt - 1).toNat).toInt = 0 → (p0.toInt = 63 → (gbh (h0_depth.toInt - 1).toNat).toInt + 0 ≤ h0_height.toInt ∧ h0_height2.toInt = h0_height.toInt - 0 + 1) ∧ (p0.toInt ≠ 63 → (p0.toInt = 54 ∨ p0.toInt = 55 ∨ p0.toInt = 58) → (gbh (h0_depth.toInt - 1).toNat).toInt + 2 ≤ h0_height.toInt ∧ h0_height2.toInt = h0_height.toInt - 2 + 0) ∧ (p0.toInt ≠ 63 → ¬ (p0.toInt = 54 ∨ p0.toInt = 55 ∨ p0.toInt = 58) → (gbh (h0_depth.toInt - 1).toNat).toInt + 1 ≤ h0_height.toInt ∧ h0_height2.toInt = h0_height.toInt - 1 + 1))))) (at_VA_checkMemory dC dI h0 aw ac ty bo bg bh bd cty cbh cbd h0_function h0_depth law aw_hasMemory gbh gbd (va_A [(h0, .inr (9, [.ref aw, .ref ac, .int h0_sound, .int h0_function, .ref ty, .int h0_height, .ref bo, .ref bg, .ref bh, .ref bd, .int h0_depth])), (aw, .inr (10, law)), (ty, .inl (cty, 5000, .inl gty)), (bh, .inl (cbh, 101, .inl gbh)), (bd, .inl (cbd, 101, .inl gbd))] sz)) (va_A [(h0, .inr (9, [.ref aw, .ref ac, .int h0_sound, .int h0_function, .ref ty, .int h0_height, .ref bo, .ref bg, .ref bh, .ref bd, .int h0_depth])), (aw, .inr (10, law)), (ty, .inl (cty, 5000, .inl gty)), (bh, .inl (cbh, 101, .inl gbh)), (bd, .inl (cbd, 101, .inl gbd))] sz)) 0 0 (va_A [(h0, .inr (9, [.ref aw, .ref ac, .int h0_sound, .int h0_function, .ref ty, .int h0_height, .ref bo, .ref bg, .ref bh, .ref bd, .int h0_depth])), (aw, .inr (10, law)), (ty, .inl (cty, 5000, .inl gty)), (bh, .inl (cbh, 101, .inl gbh)), (bd, .inl (cbd, 101, .inl gbd))] sz) := by
  refine Met.ofW (cc := b_VA_checkMemory) (maxL := 4) (ret := none) (by decide) rfl ?_
  intro p e s m args below meth c s₁ B hml hv
  obtain ⟨rfl, hsz, hP, hK, hD0⟩ := hv
  have hx := B.exec
  have hb := B.bytes
  have hr := B.returns
  have hts0 := atoms_spec (ws := w_VA_checkMemory) B.pre
  have hts : ∀ w ∈ lw_g, w.before _ s = true := fun w h => hts0 w (List.mem_cons_of_mem _ h)
  have hown : s.vm.findClass R_VA = some m.cls := findClass_of_methodNamed B.named
  have hlocks := B.notSynchronized
  clear hts0
  subst hsz
  have hD := hD0.self (sz := s.heap.size)
  generalize hAe : va_A [(h0, .inr (9, [.ref aw, .ref ac, .int h0_sound, .int h0_function, .ref ty, .int h0_height, .ref bo, .ref bg, .ref bh, .ref bd, .int h0_depth])), (aw, .inr (10, law)), (ty, .inl (cty, 5000, .inl gty)), (bh, .inl (cbh, 101, .inl gbh)), (bd, .inl (cbd, 101, .inl gbd))] s.heap.size = A at hD ⊢
  have hA : ∀ q : Nat, s.heap.size ≤ q → A q := fun q h => by rw [← hAe]; exact Or.inr h
  clear hAe
  have hP : va_P (dC, dI) cls [(h0, .inr (9, [.ref aw, .ref ac, .int h0_sound, .int h0_function, .ref ty, .int h0_height, .ref bo, .ref bg, .ref bh, .ref bd, .int h0_depth])), (aw, .inr (10, law)), (ty, .inl (cty, 5000, .inl gty)), (bh, .inl (cbh, 101, .inl gbh)), (bd, .inl (cbd, 101, .inl gbd))] s.heap := hP
  have hl := lv_entry ([.ref h0, .int p0, .int p1]) (n := 4) (Nat.le_of_ble_eq_true rfl)
  rw [lg_entry_eq]
  generalize (lg_sl ([.ref h0, .int p0, .int p1]) ++ List.replicate (4 - (lg_sl ([.ref h0, .int p0, .int p1])).length) Slot.unset).toArray = ls at hl ⊢
  have hl : lv_has ls 4 [(0, .ref h0), (1, .int p0), (2, .int p1)] := hl
  have k0 : (0 : Int32).toInt = 0 := by decide
  refine w_gen (A := A) hP (fun H locs hP hS => ?_)
  have k1 : (1 : Int32).toInt = 1 := by decide
  have k41 : (41 : Int32).toInt = 41 := by decide
  have k55 : (55 : Int32).toInt = 55 := by decide
  have k63 : (63 : Int32).toInt = 63 := by decide
  have k126 : (126 : Int32).toInt = 126 := by decide
  have k127 : (127 : Int32).toInt = 127 := by decide
  have lo_p0 := i32_lo p0
  have hi_p0 := i32_hi p0
  have lo_p1 := i32_lo p1
  have hi_p1 := i32_hi p1
  have th0_sound := b01 b_h0_sound
  have taw_hasMemory := b01 b_aw_hasMemory
  refine lv_aload_n hx hb d_VA_checkMemory_0 rfl (lv_at hl 0 rfl) ?_
  refine lv_aload_n hx hb d_VA_checkMemory_1 rfl (lv_at hl 0 rfl) ?_
  refine va_get (D := (dC, dI)) (ci := 9) (v := .int h0_sound) (C := R_VA) (T := F_VA) (N := 11) hx hb hts i_VA hown hK hP 0 rfl rfl 2 (by decide) (hts _ kF_VA_39) (fun _ h9 => h9) rfl d_VA_checkMemory_2 ?_
  refine w_cut (pc2 := 38) (σ := Int32) (fun u H locs ls => match u with | j38_s0 => (j38_s0 = 0 ∨ j38_s0 = 1) ∧ (j38_s0.toInt = 1 → h0_sound.toInt = 1) ∧ va_P (dC, dI) cls [(h0, .inr (9, [.ref aw, .ref ac, .int h0_sound, .int h0_function, .ref ty, .int h0_height, .ref bo, .ref bg, .ref bh, .ref bd, .int h0_depth])), (aw, .inr (10, law)), (ty, .inl (cty, 5000, .inl gty)), (bh, .inl (cbh, 101, .inl gbh)), (bd, .inl (cbd, 101, .inl gbd))] H ∧ va_D A [(h0, .inr (9, [.ref aw, .ref ac, .int h0_sound, .int h0_function, .ref ty, .int h0_height, .ref bo, .ref bg, .ref bh, .ref bd, .int h0_depth])), (aw, .inr (10, law)), (ty, .inl (cty, 5000, .inl gty)), (bh, .inl (cbh, 101, .inl gbh)), (bd, .inl (cbd, 101, .inl gbd))] ∧ va_S A s.heap H locs ∧ lv_has ls 4 [(0, .ref h0), (1, .int p0)]) (fun u => match u with | j38_s0 => [.int j38_s0, .ref h0]) ?_ (fun jn38 => ?_)
  · intro u H locs ls hI
    obtain ⟨j38_s0, rfl⟩ : ∃ z, z = u := ⟨_, rfl⟩
    obtain ⟨b_j38_s0, x0, hP, hD, hS, hl⟩ := hI
    have tj38_s0 := b01 b_j38_s0
    refine va_put (D := (dC, dI)) (ci := 9) (v := .int j38_s0) (ty := .boolean) (C := R_VA) (T := F_VA) (N := 11) hx hb hts i_VA t_VA t_VA_ok n_VA hown hK hP hD hS 0 rfl rfl 2 (by decide) (hts _ kF_VA_39) (fun _ h9 => h9) rfl (by decide +kernel) (zn01 (b_j38_s0)) (fz01 (b_j38_s0)) (Nat.le_of_ble_eq_true rfl) d_VA_checkMemory_38 (fun H locs hP hD hS => ?_)
    refine lv_iload_n hx hb d_VA_checkMemory_41 rfl (lv_at hl 1 rfl) ?_
    refine lv_bipush (v := 41) hx hb d_VA_checkMemory_42 (by decide) ?_
    refine w_cut (pc2 := 60) (σ := Int32) (fun u H locs ls => match u with | j60_s0 => (126 ≤ j60_s0.toInt ∧ j60_s0.toInt ≤ 127) ∧ va_P (dC, dI) cls [(h0, .inr (9, [.ref aw, .ref ac, .int j38_s0, .int h0_function, .ref ty, .int h0_height, .ref bo, .ref bg, .ref bh, .ref bd, .int h0_depth])), (aw, .inr (10, law)), (ty, .inl (cty, 5000, .inl gty)), (bh, .inl (cbh, 101, .inl gbh)), (bd, .inl (cbd, 101, .inl gbd))] H ∧ va_D A [(h0, .inr (9, [.ref aw, .ref ac, .int j38_s0, .int h0_function, .ref ty, .int h0_height, .ref bo, .ref bg, .ref bh, .ref bd, .int h0_depth])), (aw, .inr (10, law)), (ty, .inl (cty, 5000, .inl gty)), (bh, .inl (cbh, 101, .inl gbh)), (bd, .inl (cbd, 101, .inl gbd))] ∧ va_S A s.heap H locs ∧ lv_has ls 4 [(0, .ref h0), (1, .int p0)]) (fun u => match u with | j60_s0 => [.int j60_s0]) ?_ (fun jn60 => ?_)
    · intro u H locs ls hI
      obtain ⟨j60_s0, rfl⟩ : ∃ z, z = u := ⟨_, rfl⟩
      obtain ⟨b_j60_s0, hP, hD, hS, hl⟩ := hI
      refine lv_istore_n (lv' := [(3, .int j60_s0), (0, .ref h0), (1, .int p0)]) hx hb d_VA_checkMemory_60 rfl hl (by decide) rfl (fun ls hl => ?_)
      refine lv_iload_n hx hb d_VA_checkMemory_61 rfl (lv_at hl 2 rfl) ?_
      have hPc := hP.sub (ws' := []) [] rfl
      have hDc := hD.sub (ws' := []) [] (by decide) rfl
      have hKc := hK.sub (tys' := []) [] rfl
      have hFc := va_free (wc := []) hD hS hA [] rfl
      refine va_calli (va_runS (As := [.int p0]) (rest := []) ⟨hx, hb, hml, hown, hts⟩ (c_CD_isStore l dC dI H.size p0) ⟨callB_of 1 hts (gW kC_CD_isStore) rfl rfl rfl (hts _ kI_CD) (hts _ kM_VA_206) (by decide +kernel) ⟨Nat.le_of_ble_eq_true rfl, Nat.le_of_ble_eq_true rfl⟩, hts _ kT_CD_isStore⟩ ⟨fun a U g mk z => by obtain ⟨z0, z1, zP, zK, zD⟩ := z; exact ⟨z0, z1, zP, va_K.moved (u := U) (U := U.calling g mk a) (Vm.Alike.refl U.vm) zK, zD⟩, fun U hU hW => ⟨rfl, by rw [hU], by rw [hU]; exact hPc, va_K.moved hW.alike hKc, hDc.weaken (fun _ _ _ _ => trivial)⟩⟩ rfl rfl hl.1 rfl (lv_room (Nat.le_of_ble_eq_true rfl)) d_VA_checkMemory_62 ⟨(Nat.zero_le _), (Nat.zero_le _)⟩) hS (fun q _ h => hFc q h) hFc (fun r1 u t H1 locs ht hvm hw hB hz1 hk1 hS => ?_)
      try dsimp only at hw
      have tr1 := hw
      obtain ⟨hP1, hK1, hD1⟩ := hB
      rw [ht] at hP1
      obtain ⟨hP, hD⟩ := va_join (wr := [(h0, .inr (9, [.ref aw, .ref ac, .int j38_s0, .int h0_function, .ref ty, .int h0_height, .ref bo, .ref bg, .ref bh, .ref bd, .int h0_depth])), (aw, .inr (10, law)), (ty, .inl (cty, 5000, .inl gty)), (bh, .inl (cbh, 101, .inl gbh)), (bd, .inl (cbd, 101, .inl gbd))]) (w1 := []) hP hD [] [0, 1, 2, 3, 4] rfl rfl (by decide) (by decide) hk1 hFc hP1 hD1
      clear hPc hDc hKc hFc hz1 hk1 hP1 hK1 hD1
      generalize H1 = H at hP hS ⊢
      have hP : va_P (dC, dI) cls [(h0, .inr (9, [.ref aw, .ref ac, .int j38_s0, .int h0_function, .ref ty, .int h0_height, .ref bo, .ref bg, .ref bh, .ref bd, .int h0_depth])), (aw, .inr (10, law)), (ty, .inl (cty, 5000, .inl gty)), (bh, .inl (cbh, 101, .inl gbh)), (bd, .inl (cbd, 101, .inl gbd))] H := hP
      have hD : va_D A [(h0, .inr (9, [.ref aw, .ref ac, .int j38_s0, .int h0_function, .ref ty, .int h0_height, .ref bo, .ref bg, .ref bh, .ref bd, .int h0_depth])), (aw, .inr (10, law)), (ty, .inl (cty, 5000, .inl gty)), (bh, .inl (cbh, 101, .inl gbh)), (bd, .inl (cbd, 101, .inl gbd))] := hD
      refine lv_if_eq (tgt := 80) hx hb d_VA_checkMemory_65 (by decide) (fun c65 => ?_) (fun c65 => ?_)
      · have q65 := eqI c65
        refine lv_iload_n hx hb d_VA_checkMemory_80 rfl (lv_at hl 2 rfl) ?_
        refine lv_bipush (v := 63) hx hb d_VA_checkMemory_81 (by decide) ?_
        refine lv_icmp_eq (tgt := 92) hx hb d_VA_checkMemory_83 (by decide) (fun c83 => ?_) (fun c83 => ?_)
        · have q83 := eqI c83
          refine lv_aload_n hx hb d_VA_checkMemory_92 rfl (lv_at hl 1 rfl) ?_
          refine lv_iload_n hx hb d_VA_checkMemory_93 rfl (lv_at hl 0 rfl) ?_
          have hPc := hP.sub (ws' := [(h0, .inr (9, [.ref aw, .ref ac, .int j38_s0, .int h0_function, .ref ty, .int h0_height, .ref bo, .ref bg, .ref bh, .ref bd, .int h0_depth])), (ty, .inl (cty, 5000, .inl gty))]) [0, 2] rfl
          have hDc := hD.sub (ws' := [(h0, .inr (9, [.ref aw, .ref ac, .int j38_s0, .int h0_function, .ref ty, .int h0_height, .ref bo, .ref bg, .ref bh, .ref bd, .int h0_depth])), (ty, .inl (cty, 5000, .inl gty))]) [0, 2] (by decide) rfl
          have hKc := hK.sub (tys' := [(cty, .int)]) [0] rfl
          have hFc := va_free (wc := [(h0, .inr (9, [.ref aw, .ref ac, .int j38_s0, .int h0_function, .ref ty, .int h0_height, .ref bo, .ref bg, .ref bh, .ref bd, .int h0_depth])), (ty, .inl (cty, 5000, .inl gty))]) hD hS hA [0, 2] rfl
          refine va_callv (va_runV (As := [.int j60_s0]) (rest := []) ⟨hx, hb, hml, hown, hts⟩ (c_VA_push l dC dI H.size h0 aw ac ty bo bg bh bd cty j38_s0 h0_function h0_height h0_depth gty (b_h0_height) (b_gty) j60_s0 (by (try dsimp only) <;> omega)) (cwV 1 hts (gV kM_VA_167 kV_VA_push kS_VA_push kI_VA kC_VA_push) rfl rfl rfl (by decide +kernel) ⟨Nat.le_of_ble_eq_true rfl, Nat.le_of_ble_eq_true rfl⟩) ⟨fun a U g mk z => by obtain ⟨z0, z1, zP, zK, zD⟩ := z; exact ⟨z0, z1, zP, va_K.moved (u := U) (U := U.calling g mk a) (Vm.Alike.refl U.vm) zK, zD⟩, va_recv hKc hPc (ci := 9) (q0 := 0) rfl rfl, fun U hU hW => ⟨rfl, by rw [hU], by rw [hU]; exact hPc, va_K.moved hW.alike hKc, hDc.weaken (fun _ _ _ _ => trivial)⟩⟩ rfl rfl hl.1 rfl (lv_room (Nat.le_of_ble_eq_true rfl)) d_VA_checkMemory_94 ⟨(Nat.zero_le _), (Nat.zero_le _)⟩) hS (fun q _ h => hFc q h) hFc (fun u t H1 locs ht hvm hw hB hz1 hk1 hS => ?_)
          obtain ⟨n3, n4⟩ := u
          try dsimp only at hw
          obtain ⟨bn3, bn4, xr2⟩ := hw
          try clear hw
          obtain ⟨hP1, hK1, hD1⟩ := hB
          rw [ht] at hP1
          obtain ⟨hP, hD⟩ := va_join (wr := [(aw, .inr (10, law)), (bh, .inl (cbh, 101, .inl gbh)), (bd, .inl (cbd, 101, .inl gbd))]) (w1 := [(h0, .inr (9, [.ref aw, .ref ac, .int j38_s0, .int h0_function, .ref ty, .int n4, .ref bo, .ref bg, .ref bh, .ref bd, .int h0_depth])), (ty, .inl (cty, 5000, .inl n3))]) hP hD [0, 2] [1, 3, 4] rfl rfl (by decide) (by decide) hk1 hFc hP1 hD1
          clear hPc hDc hKc hFc hz1 hk1 hP1 hK1 hD1
          generalize H1 = H at hP hS ⊢
          have hP : va_P (dC, dI) cls [(aw, .inr (10, law)), (bh, .inl (cbh, 101, .inl gbh)), (bd, .inl (cbd, 101, .inl gbd)), (h0, .inr (9, [.ref aw, .ref ac, .int j38_s0, .int h0_function, .ref ty, .int n4, .ref bo, .ref bg, .ref bh, .ref bd, .int h0_depth])), (ty, .inl (cty, 5000, .inl n3))] H := hP
          have hD : va_D A [(aw, .inr (10, law)), (bh, .inl (cbh, 101, .inl gbh)), (bd, .inl (cbd, 101, .inl gbd)), (h0, .inr (9, [.ref aw, .ref ac, .int j38_s0, .int h0_function, .ref ty, .int n4, .ref bo, .ref bg, .ref bh, .ref bd, .int h0_depth])), (ty, .inl (cty, 5000, .inl n3))] := hD
          have hP9 := hP.sub (ws' := [(h0, .inr (9, [.ref aw, .ref ac, .int j38_s0, .int h0_function, .ref ty, .int n4, .ref bo, .ref bg, .ref bh, .ref bd, .int h0_depth])), (aw, .inr (10, law)), (ty, .inl (cty, 5000, .inl n3)), (bh, .inl (cbh, 101, .inl gbh)), (bd, .inl (cbd, 101, .inl gbd))]) [3, 0, 4, 1, 2] rfl
          have hD9 := hD.sub (ws' := [(h0, .inr (9, [.ref aw, .ref ac, .int j38_s0, .int h0_function, .ref ty, .int n4, .ref bo, .ref bg, .ref bh, .ref bd, .int h0_depth])), (aw, .inr (10, law)), (ty, .inl (cty, 5000, .inl n3)), (bh, .inl (cbh, 101, .inl gbh)), (bd, .inl (cbd, 101, .inl gbd))]) [3, 0, 4, 1, 2] (by decide) rfl
          exact W.vret hx hb hr (fun t ht hW => ⟨⟨(n3, n4, j38_s0), rfl, ⟨bn3, bn4, b_j38_s0, by (try dsimp only) <;> omega⟩, by rw [ht]; exact hP9, va_K.moved hW.alike hK, hD9⟩, hS.F ht⟩) hS.2.2 d_VA_checkMemory_97
        · have q83 := neI c83
          refine lv_aload_n hx hb d_VA_checkMemory_86 rfl (lv_at hl 1 rfl) ?_
          refine lv_bipush (v := 127) hx hb d_VA_checkMemory_87 (by decide) ?_
          have hPc := hP.sub (ws' := [(h0, .inr (9, [.ref aw, .ref ac, .int j38_s0, .int h0_function, .ref ty, .int h0_height, .ref bo, .ref bg, .ref bh, .ref bd, .int h0_depth])), (ty, .inl (cty, 5000, .inl gty)), (bh, .inl (cbh, 101, .inl gbh)), (bd, .inl (cbd, 101, .inl gbd))]) [0, 2, 3, 4] rfl
          have hDc := hD.sub (ws' := [(h0, .inr (9, [.ref aw, .ref ac, .int j38_s0, .int h0_function, .ref ty, .int h0_height, .ref bo, .ref bg, .ref bh, .ref bd, .int h0_depth])), (ty, .inl (cty, 5000, .inl gty)), (bh, .inl (cbh, 101, .inl gbh)), (bd, .inl (cbd, 101, .inl gbd))]) [0, 2, 3, 4] (by decide) rfl
          have hKc := hK.sub (tys' := [(cty, .int), (cbh, .int), (cbd, .boolean)]) [0, 1, 2] rfl
          have hFc := va_free (wc := [(h0, .inr (9, [.ref aw, .ref ac, .int j38_s0, .int h0_function, .ref ty, .int h0_height, .ref bo, .ref bg, .ref bh, .ref bd, .int h0_depth])), (ty, .inl (cty, 5000, .inl gty)), (bh, .inl (cbh, 101, .inl gbh)), (bd, .inl (cbd, 101, .inl gbd))]) hD hS hA [0, 2, 3, 4] rfl
          refine va_callv (va_runV (As := [.int 127]) (rest := []) ⟨hx, hb, hml, hown, hts⟩ (c_VA_pop l dC dI H.size h0 aw ac ty bo bg bh bd cty cbh cbd j38_s0 h0_function h0_height h0_depth gty gbh gbd (b_j38_s0) (b_h0_height) (b_h0_depth) (b_gty) (b_gbh) 127 (by (try dsimp only) <;> omega) (by (try dsimp only) <;> omega)) (cwV 1 hts (gV kM_VA_161 kV_VA_pop kS_VA_pop kI_VA kC_VA_pop) rfl rfl rfl (by decide +kernel) ⟨Nat.le_of_ble_eq_true rfl, Nat.le_of_ble_eq_true rfl⟩) ⟨fun a U g mk z => by obtain ⟨z0, z1, zP, zK, zD⟩ := z; exact ⟨z0, z1, zP, va_K.moved (u := U) (U := U.calling g mk a) (Vm.Alike.refl U.vm) zK, zD⟩, va_recv hKc hPc (ci := 9) (q0 := 0) rfl rfl, fun U hU hW => ⟨rfl, by rw [hU], by rw [hU]; exact hPc, va_K.moved hW.alike hKc, hDc.weaken (fun _ _ _ _ => trivial)⟩⟩ rfl rfl hl.1 rfl (lv_room (Nat.le_of_ble_eq_true rfl)) d_VA_checkMemory_89 ⟨(Nat.zero_le _), (Nat.zero_le _)⟩) hS (fun q _ h => hFc q h) hFc (fun u t H1 locs ht hvm hw hB hz1 hk1 hS => ?_)
          obtain ⟨n6, n7⟩ := u
          try dsimp only at hw
          obtain ⟨bn6, bn7, xr5⟩ := hw
          try clear hw
          have tn7 := b01 bn7
          obtain ⟨hP1, hK1, hD1⟩ := hB
          rw [ht] at hP1
          obtain ⟨hP, hD⟩ := va_join (wr := [(aw, .inr (10, law))]) (w1 := [(h0, .inr (9, [.ref aw, .ref ac, .int n7, .int h0_function, .ref ty, .int n6, .ref bo, .ref bg, .ref bh, .ref bd, .int h0_depth])), (ty, .inl (cty, 5000, .inl gty)), (bh, .inl (cbh, 101, .inl gbh)), (bd, .inl (cbd, 101, .inl gbd))]) hP hD [0, 2, 3, 4] [1] rfl rfl (by decide) (by decide) hk1 hFc hP1 hD1
          clear hPc hDc hKc hFc hz1 hk1 hP1 hK1 hD1
          generalize H1 = H at hP hS ⊢
          have hP : va_P (dC, dI) cls [(aw, .inr (10, law)), (h0, .inr (9, [.ref aw, .ref ac, .int n7, .int h0_function, .ref ty, .int n6, .ref bo, .ref bg, .ref bh, .ref bd, .int h0_depth])), (ty, .inl (cty, 5000, .inl gty)), (bh, .inl (cbh, 101, .inl gbh)), (bd, .inl (cbd, 101, .inl gbd))] H := hP
          have hD : va_D A [(aw, .inr (10, law)), (h0, .inr (9, [.ref aw, .ref ac, .int n7, .int h0_function, .ref ty, .int n6, .ref bo, .ref bg, .ref bh, .ref bd, .int h0_depth])), (ty, .inl (cty, 5000, .inl gty)), (bh, .inl (cbh, 101, .inl gbh)), (bd, .inl (cbd, 101, .inl gbd))] := hD
          refine lv_aload_n hx hb d_VA_checkMemory_92 rfl (lv_at hl 1 rfl) ?_
          refine lv_iload_n hx hb d_VA_checkMemory_93 rfl (lv_at hl 0 rfl) ?_
          have hPc := hP.sub (ws' := [(h0, .inr (9, [.ref aw, .ref ac, .int n7, .int h0_function, .ref ty, .int n6, .ref bo, .ref bg, .ref bh, .ref bd, .int h0_depth])), (ty, .inl (cty, 5000, .inl gty))]) [1, 2] rfl
          have hDc := hD.sub (ws' := [(h0, .inr (9, [.ref aw, .ref ac, .int n7, .int h0_function, .ref ty, .int n6, .ref bo, .ref bg, .ref bh, .ref bd, .int h0_depth])), (ty, .inl (cty, 5000, .inl gty))]) [1, 2] (by decide) rfl
          have hKc := hK.sub (tys' := [(cty, .int)]) [0] rfl
          have hFc := va_free (wc := [(h0, .inr (9, [.ref aw, .ref ac, .int n7, .int h0_function, .ref ty, .int n6, .ref bo, .ref bg, .ref bh, .ref bd, .int h0_depth])), (ty, .inl (cty, 5000, .inl gty))]) hD hS hA [1, 2] rfl
          refine va_callv (va_runV (As := [.int j60_s0]) (rest := []) ⟨hx, hb, hml, hown, hts⟩ (c_VA_push l dC dI H.size h0 aw ac ty bo bg bh bd cty n7 h0_function n6 h0_depth gty (bn6) (b_gty) j60_s0 (by (try dsimp only) <;> omega)) (cwV 1 hts (gV kM_VA_167 kV_VA_push kS_VA_push kI_VA kC_VA_push) rfl rfl rfl (by decide +kernel) ⟨Nat.le_of_ble_eq_true rfl, Nat.le_of_ble_eq_true rfl⟩) ⟨fun a U g mk z => by obtain ⟨z0, z1, zP, zK, zD⟩ := z; exact ⟨z0, z1, zP, va_K.moved (u := U) (U := U.calling g mk a) (Vm.Alike.refl U.vm) zK, zD⟩, va_recv hKc hPc (ci := 9) (q0 := 0) rfl rfl, fun U hU hW => ⟨rfl, by rw [hU], by rw [hU]; exact hPc, va_K.moved hW.alike hKc, hDc.weaken (fun _ _ _ _ => trivial)⟩⟩ rfl rfl hl.1 rfl (lv_room (Nat.le_of_ble_eq_true rfl)) d_VA_checkMemory_94 ⟨(Nat.zero_le _), (Nat.zero_le _)⟩) hS (fun q _ h => hFc q h) hFc (fun u t H1 locs ht hvm hw hB hz1 hk1 hS => ?_)
          obtain ⟨n9, n10⟩ := u
          try dsimp only at hw
          obtain ⟨bn9, bn10, xr8⟩ := hw
          try clear hw
          obtain ⟨hP1, hK1, hD1⟩ := hB
          rw [ht] at hP1
          obtain ⟨hP, hD⟩ := va_join (wr := [(aw, .inr (10, law)), (bh, .inl (cbh, 101, .inl gbh)), (bd, .inl (cbd, 101, .inl gbd))]) (w1 := [(h0, .inr (9, [.ref aw, .ref ac, .int n7, .int h0_function, .ref ty, .int n10, .ref bo, .ref bg, .ref bh, .ref bd, .int h0_depth])), (ty, .inl (cty, 5000, .inl n9))]) hP hD [1, 2] [0, 3, 4] rfl rfl (by decide) (by decide) hk1 hFc hP1 hD1
          clear hPc hDc hKc hFc hz1 hk1 hP1 hK1 hD1
          generalize H1 = H at hP hS ⊢
          have hP : va_P (dC, dI) cls [(aw, .inr (10, law)), (bh, .inl (cbh, 101, .inl gbh)), (bd, .inl (cbd, 101, .inl gbd)), (h0, .inr (9, [.ref aw, .ref ac, .int n7, .int h0_function, .ref ty, .int n10, .ref bo, .ref bg, .ref bh, .ref bd, .int h0_depth])), (ty, .inl (cty, 5000, .inl n9))] H := hP
          have hD : va_D A [(aw, .inr (10, law)), (bh, .inl (cbh, 101, .inl gbh)), (bd, .inl (cbd, 101, .inl gbd)), (h0, .inr (9, [.ref aw, .ref ac, .int n7, .int h0_function, .ref ty, .int n10, .ref bo, .ref bg, .ref bh, .ref bd, .int h0_depth])), (ty, .inl (cty, 5000, .inl n9))] := hD
          have hP9 := hP.sub (ws' := [(h0, .inr (9, [.ref aw, .ref ac, .int n7, .int h0_function, .ref ty, .int n10, .ref bo, .ref bg, .ref bh, .ref bd, .int h0_depth])), (aw, .inr (10, law)), (ty, .inl (cty, 5000, .inl n9)), (bh, .inl (cbh, 101, .inl gbh)), (bd, .inl (cbd, 101, .inl gbd))]) [3, 0, 4, 1, 2] rfl
          have hD9 := hD.sub (ws' := [(h0, .inr (9, [.ref aw, .ref ac, .int n7, .int h0_function, .ref ty, .int n10, .ref bo, .ref bg, .ref bh, .ref bd, .int h0_depth])), (aw, .inr (10, law)), (ty, .inl (cty, 5000, .inl n9)), (bh, .inl (cbh, 101, .inl gbh)), (bd, .inl (cbd, 101, .inl gbd))]) [3, 0, 4, 1, 2] (by decide) rfl
          exact W.vret hx hb hr (fun t ht hW => ⟨⟨(n9, n10, n7), rfl, ⟨bn9, bn10, bn7, by (try dsimp only) <;> omega⟩, by rw [ht]; exact hP9, va_K.moved hW.alike hK, hD9⟩, hS.F ht⟩) hS.2.2 d_VA_checkMemory_97
      · have q65 := neI c65
        refine lv_aload_n hx hb d_VA_checkMemory_68 rfl (lv_at hl 1 rfl) ?_
        refine lv_iload_n hx hb d_VA_checkMemory_69 rfl (lv_at hl 0 rfl) ?_
        have hPc := hP.sub (ws' := [(h0, .inr (9, [.ref aw, .ref ac, .int j38_s0, .int h0_function, .ref ty, .int h0_height, .ref bo, .ref bg, .ref bh, .ref bd, .int h0_depth])), (ty, .inl (cty, 5000, .inl gty)), (bh, .inl (cbh, 101, .inl gbh)), (bd, .inl (cbd, 101, .inl gbd))]) [0, 2, 3, 4] rfl
        have hDc := hD.sub (ws' := [(h0, .inr (9, [.ref aw, .ref ac, .int j38_s0, .int h0_function, .ref ty, .int h0_height, .ref bo, .ref bg, .ref bh, .ref bd, .int h0_depth])), (ty, .inl (cty, 5000, .inl gty)), (bh, .inl (cbh, 101, .inl gbh)), (bd, .inl (cbd, 101, .inl gbd))]) [0, 2, 3, 4] (by decide) rfl
        have hKc := hK.sub (tys' := [(cty, .int), (cbh, .int), (cbd, .boolean)]) [0, 1, 2] rfl
        have hFc := va_free (wc := [(h0, .inr (9, [.ref aw, .ref ac, .int j38_s0, .int h0_function, .ref ty, .int h0_height, .ref bo, .ref bg, .ref bh, .ref bd, .int h0_depth])), (ty, .inl (cty, 5000, .inl gty)), (bh, .inl (cbh, 101, .inl gbh)), (bd, .inl (cbd, 101, .inl gbd))]) hD hS hA [0, 2, 3, 4] rfl
        refine va_callv (va_runV (As := [.int j60_s0]) (rest := []) ⟨hx, hb, hml, hown, hts⟩ (c_VA_pop l dC dI H.size h0 aw ac ty bo bg bh bd cty cbh cbd j38_s0 h0_function h0_height h0_depth gty gbh gbd (b_j38_s0) (b_h0_height) (b_h0_depth) (b_gty) (b_gbh) j60_s0 (by (try dsimp only) <;> omega) (by (try dsimp only) <;> omega)) (cwV 1 hts (gV kM_VA_161 kV_VA_pop kS_VA_pop kI_VA kC_VA_pop) rfl rfl rfl (by decide +kernel) ⟨Nat.le_of_ble_eq_true rfl, Nat.le_of_ble_eq_true rfl⟩) ⟨fun a U g mk z => by obtain ⟨z0, z1, zP, zK, zD⟩ := z; exact ⟨z0, z1, zP, va_K.moved (u := U) (U := U.calling g mk a) (Vm.Alike.refl U.vm) zK, zD⟩, va_recv hKc hPc (ci := 9) (q0 := 0) rfl rfl, fun U hU hW => ⟨rfl, by rw [hU], by rw [hU]; exact hPc, va_K.moved hW.alike hKc, hDc.weaken (fun _ _ _ _ => trivial)⟩⟩ rfl rfl hl.1 rfl (lv_room (Nat.le_of_ble_eq_true rfl)) d_VA_checkMemory_70 ⟨(Nat.zero_le _), (Nat.zero_le _)⟩) hS (fun q _ h => hFc q h) hFc (fun u t H1 locs ht hvm hw hB hz1 hk1 hS => ?_)
        obtain ⟨n12, n13⟩ := u
        try dsimp only at hw
        obtain ⟨bn12, bn13, xr11⟩ := hw
        try clear hw
        have tn13 := b01 bn13
        obtain ⟨hP1, hK1, hD1⟩ := hB
        rw [ht] at hP1
        obtain ⟨hP, hD⟩ := va_join (wr := [(aw, .inr (10, law))]) (w1 := [(h0, .inr (9, [.ref aw, .ref ac, .int n13, .int h0_function, .ref ty, .int n12, .ref bo, .ref bg, .ref bh, .ref bd, .int h0_depth])), (ty, .inl (cty, 5000, .inl gty)), (bh, .inl (cbh, 101, .inl gbh)), (bd, .inl (cbd, 101, .inl gbd))]) hP hD [0, 2, 3, 4] [1] rfl rfl (by decide) (by decide) hk1 hFc hP1 hD1
        clear hPc hDc hKc hFc hz1 hk1 hP1 hK1 hD1
        generalize H1 = H at hP hS ⊢
        have hP : va_P (dC, dI) cls [(aw, .inr (10, law)), (h0, .inr (9, [.ref aw, .ref ac, .int n13, .int h0_function, .ref ty, .int n12, .ref bo, .ref bg, .ref bh, .ref bd, .int h0_depth])), (ty, .inl (cty, 5000, .inl gty)), (bh, .inl (cbh, 101, .inl gbh)), (bd, .inl (cbd, 101, .inl gbd))] H := hP
        have hD : va_D A [(aw, .inr (10, law)), (h0, .inr (9, [.ref aw, .ref ac, .int n13, .int h0_function, .ref ty, .int n12, .ref bo, .ref bg, .ref bh, .ref bd, .int h0_depth])), (ty, .inl (cty, 5000, .inl gty)), (bh, .inl (cbh, 101, .inl gbh)), (bd, .inl (cbd, 101, .inl gbd))] := hD
        refine lv_aload_n hx hb d_VA_checkMemory_73 rfl (lv_at hl 1 rfl) ?_
        refine lv_bipush (v := 127) hx hb d_VA_checkMemory_74 (by decide) ?_
        have hPc := hP.sub (ws' := [(h0, .inr (9, [.ref aw, .ref ac, .int n13, .int h0_function, .ref ty, .int n12, .ref bo, .ref bg, .ref bh, .ref bd, .int h0_depth])), (ty, .inl (cty, 5000, .inl gty)), (bh, .inl (cbh, 101, .inl gbh)), (bd, .inl (cbd, 101, .inl gbd))]) [1, 2, 3, 4] rfl
        have hDc := hD.sub (ws' := [(h0, .inr (9, [.ref aw, .ref ac, .int n13, .int h0_function, .ref ty, .int n12, .ref bo, .ref bg, .ref bh, .ref bd, .int h0_depth])), (ty, .inl (cty, 5000, .inl gty)), (bh, .inl (cbh, 101, .inl gbh)), (bd, .inl (cbd, 101, .inl gbd))]) [1, 2, 3, 4] (by decide) rfl
        have hKc := hK.sub (tys' := [(cty, .int), (cbh, .int), (cbd, .boolean)]) [0, 1, 2] rfl
        have hFc := va_free (wc := [(h0, .inr (9, [.ref aw, .ref ac, .int n13, .int h0_function, .ref ty, .int n12, .ref bo, .ref bg, .ref bh, .ref bd, .int h0_depth])), (ty, .inl (cty, 5000, .inl gty)), (bh, .inl (cbh, 101, .inl gbh)), (bd, .inl (cbd, 101, .inl gbd))]) hD hS hA [1, 2, 3, 4] rfl
        refine va_callv (va_runV (As := [.int 127]) (rest := []) ⟨hx, hb, hml, hown, hts⟩ (c_VA_pop l dC dI H.size h0 aw ac ty bo bg bh bd cty cbh cbd n13 h0_function n12 h0_depth gty gbh gbd (bn13) (bn12) (b_h0_depth) (b_gty) (b_gbh) 127 (by (try dsimp only) <;> omega) (by (try dsimp only) <;> omega)) (cwV 1 hts (gV kM_VA_161 kV_VA_pop kS_VA_pop kI_VA kC_VA_pop) rfl rfl rfl (by decide +kernel) ⟨Nat.le_of_ble_eq_true rfl, Nat.le_of_ble_eq_true rfl⟩) ⟨fun a U g mk z => by obtain ⟨z0, z1, zP, zK, zD⟩ := z; exact ⟨z0, z1, zP, va_K.moved (u := U) (U := U.calling g mk a) (Vm.Alike.refl U.vm) zK, zD⟩, va_recv hKc hPc (ci := 9) (q0 := 0) rfl rfl, fun U hU hW => ⟨rfl, by rw [hU], by rw [hU]; exact hPc, va_K.moved hW.alike hKc, hDc.weaken (fun _ _ _ _ => trivial)⟩⟩ rfl rfl hl.1 rfl (lv_room (Nat.le_of_ble_eq_true rfl)) d_VA_checkMemory_76 ⟨(Nat.zero_le _), (Nat.zero_le _)⟩) hS (fun q _ h => hFc q h) hFc (fun u t H1 locs ht hvm hw hB hz1 hk1 hS => ?_)
        obtain ⟨n15, n16⟩ := u
        try dsimp only at hw
        obtain ⟨bn15, bn16, xr14⟩ := hw
        try clear hw
        have tn16 := b01 bn16
        obtain ⟨hP1, hK1, hD1⟩ := hB
        rw [ht] at hP1
        obtain ⟨hP, hD⟩ := va_join (wr := [(aw, .inr (10, law))]) (w1 := [(h0, .inr (9, [.ref aw, .ref ac, .int n16, .int h0_function, .ref ty, .int n15, .ref bo, .ref bg, .ref bh, .ref bd, .int h0_depth])), (ty, .inl (cty, 5000, .inl gty)), (bh, .inl (cbh, 101, .inl gbh)), (bd, .inl (cbd, 101, .inl gbd))]) hP hD [1, 2, 3, 4] [0] rfl rfl (by decide) (by decide) hk1 hFc hP1 hD1
        clear hPc hDc hKc hFc hz1 hk1 hP1 hK1 hD1
        generalize H1 = H at hP hS ⊢
        have hP : va_P (dC, dI) cls [(aw, .inr (10, law)), (h0, .inr (9, [.ref aw, .ref ac, .int n16, .int h0_function, .ref ty, .int n15, .ref bo, .ref bg, .ref bh, .ref bd, .int h0_depth])), (ty, .inl (cty, 5000, .inl gty)), (bh, .inl (cbh, 101, .inl gbh)), (bd, .inl (cbd, 101, .inl gbd))] H := hP
        have hD : va_D A [(aw, .inr (10, law)), (h0, .inr (9, [.ref aw, .ref ac, .int n16, .int h0_function, .ref ty, .int n15, .ref bo, .ref bg, .ref bh, .ref bd, .int h0_depth])), (ty, .inl (cty, 5000, .inl gty)), (bh, .inl (cbh, 101, .inl gbh)), (bd, .inl (cbd, 101, .inl gbd))] := hD
        have hP9 := hP.sub (ws' := [(h0, .inr (9, [.ref aw, .ref ac, .int n16, .int h0_function, .ref ty, .int n15, .ref bo, .ref bg, .ref bh, .ref bd, .int h0_depth])), (aw, .inr (10, law)), (ty, .inl (cty, 5000, .inl gty)), (bh, .inl (cbh, 101, .inl gbh)), (bd, .inl (cbd, 101, .inl gbd))]) [1, 0, 2, 3, 4] rfl
        have hD9 := hD.sub (ws' := [(h0, .inr (9, [.ref aw, .ref ac, .int n16, .int h0_function, .ref ty, .int n15, .ref bo, .ref bg, .ref bh, .ref bd, .int h0_depth])), (aw, .inr (10, law)), (ty, .inl (cty, 5000, .inl gty)), (bh, .inl (cbh, 101, .inl gbh)), (bd, .inl (cbd, 101, .inl gbd))]) [1, 0, 2, 3, 4] (by decide) rfl
        exact W.vret hx hb hr (fun t ht hW => ⟨⟨(gty, n15, n16), rfl, ⟨b_gty, bn15, bn16, by (try dsimp only) <;> omega⟩, by rw [ht]; exact hP9, va_K.moved hW.alike hK, hD9⟩, hS.F ht⟩) hS.2.2 d_VA_checkMemory_79
    · skip
      refine w_cut (pc2 := 53) (σ := Unit) (fun u H locs ls => match u with | _ => va_P (dC, dI) cls [(h0, .inr (9, [.ref aw, .ref ac, .int j38_s0, .int h0_function, .ref ty, .int h0_height, .ref bo, .ref bg, .ref bh, .ref bd, .int h0_depth])), (aw, .inr (10, law)), (ty, .inl (cty, 5000, .inl gty)), (bh, .inl (cbh, 101, .inl gbh)), (bd, .inl (cbd, 101, .inl gbd))] H ∧ va_D A [(h0, .inr (9, [.ref aw, .ref ac, .int j38_s0, .int h0_function, .ref ty, .int h0_height, .ref bo, .ref bg, .ref bh, .ref bd, .int h0_depth])), (aw, .inr (10, law)), (ty, .inl (cty, 5000, .inl gty)), (bh, .inl (cbh, 101, .inl gbh)), (bd, .inl (cbd, 101, .inl gbd))] ∧ va_S A s.heap H locs ∧ lv_has ls 4 [(0, .ref h0), (1, .int p0)]) (fun u => match u with | _ => []) ?_ (fun jn53 => ?_)
      · intro u H locs ls hI
        obtain ⟨hP, hD, hS, hl⟩ := hI
        refine lv_bipush (v := 126) hx hb d_VA_checkMemory_53 (by decide) ?_
        refine lv_goto (tgt := 60) hx hb d_VA_checkMemory_55 (by decide) ?_
        exact jn60 126 _ _ _ ⟨by (try dsimp only) <;> omega, hP, hD, hS, lv_sub hl [0, 1] rfl⟩
      · skip
        refine lv_icmp_eq (tgt := 53) hx hb d_VA_checkMemory_44 (by decide) (fun c44 => ?_) (fun c44 => ?_)
        · have q44 := eqI c44
          exact jn53 () _ _ _ ⟨hP, hD, hS, lv_sub hl [0, 1] rfl⟩
        · have q44 := neI c44
          refine lv_iload_n hx hb d_VA_checkMemory_47 rfl (lv_at hl 1 rfl) ?_
          refine lv_bipush (v := 55) hx hb d_VA_checkMemory_48 (by decide) ?_
          refine lv_icmp_ne (tgt := 58) hx hb d_VA_checkMemory_50 (by decide) (fun c50 => ?_) (fun c50 => ?_)
          · have q50 := neI c50
            refine lv_bipush (v := 127) hx hb d_VA_checkMemory_58 (by decide) ?_
            exact jn60 127 _ _ _ ⟨by (try dsimp only) <;> omega, hP, hD, hS, lv_sub hl [0, 1] rfl⟩
          · have q50 := eqI c50
            exact jn53 () _ _ _ ⟨hP, hD, hS, lv_sub hl [0, 1] rfl⟩
  · skip
    refine w_cut (pc2 := 37) (σ := Unit) (fun u H locs ls => match u with | _ => va_P (dC, dI) cls [(h0, .inr (9, [.ref aw, .ref ac, .int h0_sound, .int h0_function, .ref ty, .int h0_height, .ref bo, .ref bg, .ref bh, .ref bd, .int h0_depth])), (aw, .inr (10, law)), (ty, .inl (cty, 5000, .inl gty)), (bh, .inl (cbh, 101, .inl gbh)), (bd, .inl (cbd, 101, .inl gbd))] H ∧ va_D A [(h0, .inr (9, [.ref aw, .ref ac, .int h0_sound, .int h0_function, .ref ty, .int h0_height, .ref bo, .ref bg, .ref bh, .ref bd, .int h0_depth])), (aw, .inr (10, law)), (ty, .inl (cty, 5000, .inl gty)), (bh, .inl (cbh, 101, .inl gbh)), (bd, .inl (cbd, 101, .inl gbd))] ∧ va_S A s.heap H locs ∧ lv_has ls 4 [(0, .ref h0), (1, .int p0)]) (fun u => match u with | _ => [.ref h0]) ?_ (fun jn37 => ?_)
    · intro u H locs ls hI
      obtain ⟨hP, hD, hS, hl⟩ := hI
      refine lv_iconst (v := 0) hx hb d_VA_checkMemory_37 (by decide) ?_
      exact jn38 0 _ _ _ ⟨Or.inl rfl, by (try dsimp only) <;> omega, hP, hD, hS, lv_sub hl [0, 1] rfl⟩
    · skip
      refine lv_if_eq (tgt := 37) hx hb d_VA_checkMemory_5 (by decide) (fun c5 => ?_) (fun c5 => ?_)
      · have q5 := eqI c5
        exact jn37 () _ _ _ ⟨hP, hD, hS, lv_sub hl [0, 1] rfl⟩
      · have q5 := neI c5
        refine lv_aload_n hx hb d_VA_checkMemory_8 rfl (lv_at hl 0 rfl) ?_
        refine va_get (D := (dC, dI)) (ci := 9) (v := .ref aw) (C := R_VA) (T := F_VA) (N := 11) hx hb hts i_VA hown hK hP 0 rfl rfl 0 (by decide) (hts _ kF_VA_28) (fun _ h9 => h9) rfl d_VA_checkMemory_9 ?_
        refine va_get (D := (dC, dI)) (ci := 10) (v := .int aw_hasMemory) (C := R_WA) (T := F_WA) (N := 21) hx hb hts i_WA hown hK hP 1 rfl rfl 8 (by decide) (hts _ kF_VA_89) (fun _ h9 => h9) paw_8 d_VA_checkMemory_12 ?_
        refine lv_if_eq (tgt := 37) hx hb d_VA_checkMemory_15 (by decide) (fun c15 => ?_) (fun c15 => ?_)
        · have q15 := eqI c15
          exact jn37 () _ _ _ ⟨hP, hD, hS, lv_sub hl [0, 1] rfl⟩
        · have q15 := neI c15
          refine lv_iload_n hx hb d_VA_checkMemory_18 rfl (lv_at hl 1 rfl) ?_
          have hPc := hP.sub (ws' := []) [] rfl
          have hDc := hD.sub (ws' := []) [] (by decide) rfl
          have hKc := hK.sub (tys' := []) [] rfl
          have hFc := va_free (wc := []) hD hS hA [] rfl
          refine va_calli (va_runS (As := [.int p0]) (rest := [.ref h0]) ⟨hx, hb, hml, hown, hts⟩ (c_CD_isAccess l dC dI H.size p0) ⟨callB_of 1 hts (gW kC_CD_isAccess) rfl rfl rfl (hts _ kI_CD) (hts _ kM_VA_199) (by decide +kernel) ⟨Nat.le_of_ble_eq_true rfl, Nat.le_of_ble_eq_true rfl⟩, hts _ kT_CD_isAccess⟩ ⟨fun a U g mk z => by obtain ⟨z0, z1, zP, zK, zD⟩ := z; exact ⟨z0, z1, zP, va_K.moved (u := U) (U := U.calling g mk a) (Vm.Alike.refl U.vm) zK, zD⟩, fun U hU hW => ⟨rfl, by rw [hU], by rw [hU]; exact hPc, va_K.moved hW.alike hKc, hDc.weaken (fun _ _ _ _ => trivial)⟩⟩ rfl rfl hl.1 rfl (lv_room (Nat.le_of_ble_eq_true rfl)) d_VA_checkMemory_19 ⟨(Nat.zero_le _), (Nat.zero_le _)⟩) hS (fun q _ h => hFc q h) hFc (fun r17 u t H1 locs ht hvm hw hB hz1 hk1 hS => ?_)
          try dsimp only at hw
          have tr17 := hw
          obtain ⟨hP1, hK1, hD1⟩ := hB
          rw [ht] at hP1
          obtain ⟨hP, hD⟩ := va_join (wr := [(h0, .inr (9, [.ref aw, .ref ac, .int h0_sound, .int h0_function, .ref ty, .int h0_height, .ref bo, .ref bg, .ref bh, .ref bd, .int h0_depth])), (aw, .inr (10, law)), (ty, .inl (cty, 5000, .inl gty)), (bh, .inl (cbh, 101, .inl gbh)), (bd, .inl (cbd, 101, .inl gbd))]) (w1 := []) hP hD [] [0, 1, 2, 3, 4] rfl rfl (by decide) (by decide) hk1 hFc hP1 hD1
          clear hPc hDc hKc hFc hz1 hk1 hP1 hK1 hD1
          generalize H1 = H at hP hS ⊢
          have hP : va_P (dC, dI) cls [(h0, .inr (9, [.ref aw, .ref ac, .int h0_sound, .int h0_function, .ref ty, .int h0_height, .ref bo, .ref bg, .ref bh, .ref bd, .int h0_depth])), (aw, .inr (10, law)), (ty, .inl (cty, 5000, .inl gty)), (bh, .inl (cbh, 101, .inl gbh)), (bd, .inl (cbd, 101, .inl gbd))] H := hP
          have hD : va_D A [(h0, .inr (9, [.ref aw, .ref ac, .int h0_sound, .int h0_function, .ref ty, .int h0_height, .ref bo, .ref bg, .ref bh, .ref bd, .int h0_depth])), (aw, .inr (10, law)), (ty, .inl (cty, 5000, .inl gty)), (bh, .inl (cbh, 101, .inl gbh)), (bd, .inl (cbd, 101, .inl gbd))] := hD
          refine w_cut (pc2 := 33) (σ := Unit) (fun u H locs ls => match u with | _ => va_P (dC, dI) cls [(h0, .inr (9, [.ref aw, .ref ac, .int h0_sound, .int h0_function, .ref ty, .int h0_height, .ref bo, .ref bg, .ref bh, .ref bd, .int h0_depth])), (aw, .inr (10, law)), (ty, .inl (cty, 5000, .inl gty)), (bh, .inl (cbh, 101, .inl gbh)), (bd, .inl (cbd, 101, .inl gbd))] H ∧ va_D A [(h0, .inr (9, [.ref aw, .ref ac, .int h0_sound, .int h0_function, .ref ty, .int h0_height, .ref bo, .ref bg, .ref bh, .ref bd, .int h0_depth])), (aw, .inr (10, law)), (ty, .inl (cty, 5000, .inl gty)), (bh, .inl (cbh, 101, .inl gbh)), (bd, .inl (cbd, 101, .inl gbd))] ∧ va_S A s.heap H locs ∧ lv_has ls 4 [(0, .ref h0), (1, .int p0)]) (fun u => match u with | _ => [.ref h0]) ?_ (fun jn33 => ?_)
          · intro u H locs ls hI
            obtain ⟨hP, hD, hS, hl⟩ := hI
            refine lv_iconst (v := 1) hx hb d_VA_checkMemory_33 (by decide) ?_
            refine lv_goto (tgt := 38) hx hb d_VA_checkMemory_34 (by decide) ?_
            exact jn38 1 _ _ _ ⟨Or.inr rfl, by (try dsimp only) <;> omega, hP, hD, hS, lv_sub hl [0, 1] rfl⟩
          · skip
            refine lv_if_eq (tgt := 33) hx hb d_VA_checkMemory_22 (by decide) (fun c22 => ?_) (fun c22 => ?_)
            · have q22 := eqI c22
              exact jn33 () _ _ _ ⟨hP, hD, hS, lv_sub hl [0, 1] rfl⟩
            · have q22 := neI c22
              refine lv_iload_n hx hb d_VA_checkMemory_25 rfl (lv_at hl 2 rfl) ?_
              refine lv_iload_n hx hb d_VA_checkMemory_26 rfl (lv_at hl 1 rfl) ?_
              have hPc := hP.sub (ws' := []) [] rfl
              have hDc := hD.sub (ws' := []) [] (by decide) rfl
              have hKc := hK.sub (tys' := []) [] rfl
              have hFc := va_free (wc := []) hD hS hA [] rfl
              refine va_calli (va_runS (As := [.int p0]) (rest := [.int p1, .ref h0]) ⟨hx, hb, hml, hown, hts⟩ (c_CD_greatestAlignment l dC dI H.size p0) ⟨callB_of 1 hts (gW kC_CD_greatestAlignment) rfl rfl rfl (hts _ kI_CD) (hts _ kM_VA_203) (by decide +kernel) ⟨Nat.le_of_ble_eq_true rfl, Nat.le_of_ble_eq_true rfl⟩, hts _ kT_CD_greatestAlignment⟩ ⟨fun a U g mk z => by obtain ⟨z0, z1, zP, zK, zD⟩ := z; exact ⟨z0, z1, zP, va_K.moved (u := U) (U := U.calling g mk a) (Vm.Alike.refl U.vm) zK, zD⟩, fun U hU hW => ⟨rfl, by rw [hU], by rw [hU]; exact hPc, va_K.moved hW.alike hKc, hDc.weaken (fun _ _ _ _ => trivial)⟩⟩ rfl rfl hl.1 rfl (lv_room (Nat.le_of_ble_eq_true rfl)) d_VA_checkMemory_27 ⟨(Nat.zero_le _), (Nat.zero_le _)⟩) hS (fun q _ h => hFc q h) hFc (fun r18 u t H1 locs ht hvm hw hB hz1 hk1 hS => ?_)
              try dsimp only at hw
              try clear hw
              obtain ⟨hP1, hK1, hD1⟩ := hB
              rw [ht] at hP1
              obtain ⟨hP, hD⟩ := va_join (wr := [(h0, .inr (9, [.ref aw, .ref ac, .int h0_sound, .int h0_function, .ref ty, .int h0_height, .ref bo, .ref bg, .ref bh, .ref bd, .int h0_depth])), (aw, .inr (10, law)), (ty, .inl (cty, 5000, .inl gty)), (bh, .inl (cbh, 101, .inl gbh)), (bd, .inl (cbd, 101, .inl gbd))]) (w1 := []) hP hD [] [0, 1, 2, 3, 4] rfl rfl (by decide) (by decide) hk1 hFc hP1 hD1
              clear hPc hDc hKc hFc hz1 hk1 hP1 hK1 hD1
              generalize H1 = H at hP hS ⊢
              have hP : va_P (dC, dI) cls [(h0, .inr (9, [.ref aw, .ref ac, .int h0_sound, .int h0_function, .ref ty, .int h0_height, .ref bo, .ref bg, .ref bh, .ref bd, .int h0_depth])), (aw, .inr (10, law)), (ty, .inl (cty, 5000, .inl gty)), (bh, .inl (cbh, 101, .inl gbh)), (bd, .inl (cbd, 101, .inl gbd))] H := hP
              have hD : va_D A [(h0, .inr (9, [.ref aw, .ref ac, .int h0_sound, .int h0_function, .ref ty, .int h0_height, .ref bo, .ref bg, .ref bh, .ref bd, .int h0_depth])), (aw, .inr (10, law)), (ty, .inl (cty, 5000, .inl gty)), (bh, .inl (cbh, 101, .inl gbh)), (bd, .inl (cbd, 101, .inl gbd))] := hD
              refine lv_icmp_gt (tgt := 37) hx hb d_VA_checkMemory_30 (by decide) (fun c30 => ?_) (fun c30 => ?_)
              · have q30 := ltI c30
                exact jn37 () _ _ _ ⟨hP, hD, hS, lv_sub hl [0, 1] rfl⟩
              · have q30 := nltI c30
                exact jn33 () _ _ _ ⟨hP, hD, hS, lv_sub hl [0, 1] rfl⟩
abbrev b_VA_checkSelect : ByteArray := prog_12_method_11_code
def y_VA_checkSelect : MethodName := ⟨R_VA, "checkSelect", "()V"⟩
abbrev w_VA_checkSelect : List Cond := .code y_VA_checkSelect b_VA_checkSelect 3 none :: lw_g
theorem kC_VA_checkSelect : Cond.code y_VA_checkSelect b_VA_checkSelect 3 none ∈ lw_g := in_g 1472 (by decide +kernel) rfl
theorem d_VA_checkSelect_0 : decode b_VA_checkSelect 0 = .ok (.aload_n 0, 1) := by decide +kernel
theorem d_VA_checkSelect_1 : decode b_VA_checkSelect 1 = .ok (.bipush 127, 2) := by decide +kernel
theorem d_VA_checkSelect_3 : decode b_VA_checkSelect 3 = .ok (.invokevirtual 161, 3) := by decide +kernel
theorem d_VA_checkSelect_6 : decode b_VA_checkSelect 6 = .ok (.aload_n 0, 1) := by decide +kernel
theorem d_VA_checkSelect_7 : decode b_VA_checkSelect 7 = .ok (.invokevirtual 189, 3) := by decide +kernel
theorem d_VA_checkSelect_10 : decode b_VA_checkSelect 10 = .ok (.istore_n 1, 1) := by decide +kernel
theorem d_VA_checkSelect_11 : decode b_VA_checkSelect 11 = .ok (.aload_n 0, 1) := by decide +kernel
theorem d_VA_checkSelect_12 : decode b_VA_checkSelect 12 = .ok (.invokevirtual 189, 3) := by decide +kernel
theorem d_VA_checkSelect_15 : decode b_VA_checkSelect 15 = .ok (.istore_n 2, 1) := by decide +kernel
theorem d_VA_checkSelect_16 : decode b_VA_checkSelect 16 = .ok (.aload_n 0, 1) := by decide +kernel
theorem d_VA_checkSelect_17 : decode b_VA_checkSelect 17 = .ok (.aload_n 0, 1) := by decide +kernel
theorem d_VA_checkSelect_18 : decode b_VA_checkSelect 18 = .ok (.getfield 39, 3) := by decide +kernel
theorem d_VA_checkSelect_21 : decode b_VA_checkSelect 21 = .ok (.ifCond .eq 20, 3) := by decide +kernel
theorem d_VA_checkSelect_24 : decode b_VA_checkSelect 24 = .ok (.iload_n 1, 1) := by decide +kernel
theorem d_VA_checkSelect_25 : decode b_VA_checkSelect 25 = .ok (.iload_n 2, 1) := by decide +kernel
theorem d_VA_checkSelect_26 : decode b_VA_checkSelect 26 = .ok (.if_icmp .eq 11, 3) := by decide +kernel
theorem d_VA_checkSelect_29 : decode b_VA_checkSelect 29 = .ok (.iload_n 1, 1) := by decide +kernel
theorem d_VA_checkSelect_30 : decode b_VA_checkSelect 30 = .ok (.ifCond .eq 7, 3) := by decide +kernel
theorem d_VA_checkSelect_33 : decode b_VA_checkSelect 33 = .ok (.iload_n 2, 1) := by decide +kernel
theorem d_VA_checkSelect_34 : decode b_VA_checkSelect 34 = .ok (.ifCond .ne 7, 3) := by decide +kernel
theorem d_VA_checkSelect_37 : decode b_VA_checkSelect 37 = .ok (.iconst 1, 1) := by decide +kernel
theorem d_VA_checkSelect_38 : decode b_VA_checkSelect 38 = .ok (.goto 4, 3) := by decide +kernel
theorem d_VA_checkSelect_41 : decode b_VA_checkSelect 41 = .ok (.iconst 0, 1) := by decide +kernel
theorem d_VA_checkSelect_42 : decode b_VA_checkSelect 42 = .ok (.putfield 39, 3) := by decide +kernel
theorem d_VA_checkSelect_45 : decode b_VA_checkSelect 45 = .ok (.aload_n 0, 1) := by decide +kernel
theorem d_VA_checkSelect_46 : decode b_VA_checkSelect 46 = .ok (.iload_n 1, 1) := by decide +kernel
theorem d_VA_checkSelect_47 : decode b_VA_checkSelect 47 = .ok (.ifCond .ne 7, 3) := by decide +kernel
theorem d_VA_checkSelect_50 : decode b_VA_checkSelect 50 = .ok (.iload_n 2, 1) := by decide +kernel
theorem d_VA_checkSelect_51 : decode b_VA_checkSelect 51 = .ok (.goto 4, 3) := by decide +kernel
theorem d_VA_checkSelect_54 : decode b_VA_checkSelect 54 = .ok (.iload_n 1, 1) := by decide +kernel
theorem d_VA_checkSelect_55 : decode b_VA_checkSelect 55 = .ok (.invokevirtual 167, 3) := by decide +kernel
theorem d_VA_checkSelect_58 : decode b_VA_checkSelect 58 = .ok (.return_, 1) := by decide +kernel
abbrev at_VA_checkSelect (dC : Nat → ClassId) (dI : Nat → Nat → Nat) (h0 aw ac ty bo bg bh bd : Nat) (cty cbh cbd : ClassId) (h0_function : Int32) (h0_depth : Int32) (gbh : Nat → Int32) (gbd : Nat → Int32) (A : Nat → Prop) (u : (Nat → Int32) × Int32 × Int32) (t : State) : Prop := match u with | (gty, h0_height, h0_sound) => va_P (dC, dI) cls [(h0, .inr (9, [.ref aw, .ref ac, .int h0_sound, .int h0_function, .ref ty, .int h0_height, .ref bo, .ref bg, .ref bh, .ref bd, .int h0_depth])), (ty, .inl (cty, 5000, .inl gty)), (bh, .inl (cbh, 101, .inl gbh)), (bd, .inl (cbd, 101, .inl gbd))] t.heap ∧ va_K (dC, dI) cls [(cty, .int), (cbh, .int), (cbd, .boolean)] t ∧ va_D A [(h0, .inr (9, [.ref aw, .ref ac, .int h0_sound, .int h0_function, .ref ty, .int h0_height, .ref bo, .ref bg, .ref bh, .ref bd, .int h0_depth])), (ty, .inl (cty, 5000, .inl gty)), (bh, .inl (cbh, 101, .inl gbh)), (bd, .inl (cbd, 101, .inl gbd))]
set_option maxHeartbeats 4000000 in
set_option maxRecDepth 100000 in
theorem c_VA_checkSelect (l : Launch) (dC : Nat → ClassId) (dI : Nat → Nat → Nat) (sz : Nat) (h0 aw ac ty bo bg bh bd : Nat) (cty cbh cbd : ClassId) (h0_sound : Int32) (h0_function : Int32) (h0_height : Int32) (h0_depth : Int32) (gty : Nat → Int32) (gbh : Nat → Int32) (gbd : Nat → Int32)  (b_h0_sound : h0_sound = 0 ∨ h0_sound = 1) (b_h0_height : 0 ≤ h0_height.toInt ∧ h0_height.toInt ≤ 5000) (b_h0_depth : 0 ≤ h0_depth.toInt ∧ h0_depth.toInt ≤ 101) (b_gty : ∀ j : Nat, (gty j).toInt ≠ 64) (b_gbh : ∀ j : Nat, 0 ≤ (gbh j).toInt ∧ (gbh j).toInt ≤ 5000)   (hd1 : 1 ≤ h0_depth.toInt) (hbh : (gbh (h0_depth.toInt - 1).toNat).toInt ≤ h0_height.toInt) (hh5 : h0_height.toInt < 5000) : Met l y_VA_checkSelect w_VA_checkSelect ({ frames := 2, cells := 0, slots := 0, locals := 42 }) (va_Pc [.ref h0] (fun U => U.heap.size = sz ∧ va_P (dC, dI) cls [(h0, .inr (9, [.ref aw, .ref ac, .int h0_sound, .int h0_function, .ref ty, .int h0_height, .ref bo, .ref bg, .ref bh, .ref bd, .int h0_depth])), (ty, .inl (cty, 5000, .inl gty)), (bh, .inl (cbh, 101, .inl gbh)), (bd, .inl (cbd, 101, .inl gbd))] U.heap ∧ va_K (dC, dI) cls [(cty, .int), (cbh, .int), (cbd, .boolean)] U ∧ va_D (fun _ => True) [(h0, .inr (9, [.ref aw, .ref ac, .int h0_sound, .int h0_function, .ref ty, .int h0_height, .ref bo, .ref bg, .ref bh, .ref bd, .int h0_depth])), (ty, .inl (cty, 5000, .inl gty)), (bh, .inl (cbh, 101, .inl gbh)), (bd, .inl (cbd, 101, .inl gbd))])) (va_Qv (fun (u : (Nat → Int32) × Int32 × Int32) => match u with | (gty2, h0_height2, h0_sound2) => (∀ j : Nat, (gty2 j).toInt ≠ 64) ∧ (0 ≤ h0_height2.toInt ∧ h0_height2.toInt ≤ 5000) ∧ (h0_sound2 = 0 ∨ h0_sound2 = 1) ∧ (((gbh (h0_depth.toInt - 1).toNat).toInt ≤ h0_height2.toInt ∧ h0_height2.toInt ≤ h0_height.toInt + 1) ∧ (h0_sound2.toInt = 1 → h0_sound.toInt = 1 ∧ ((gbd (h0_depth.toInt - 1).toNat).toInt = 0 → ((gbh (h0_depth.toInt - 1).toNat).toInt + 3 ≤ h0_height.toInt ∧ h0_height2.toInt = h0_height.toInt - 3 + 1))))) (at_VA_checkSelect dC dI h0 aw ac ty bo bg bh bd cty cbh cbd h0_function h0_depth gbh gbd (va_A [(h0, .inr (9, [.ref aw, .ref ac, .int h0_sound, .int h0_function, .ref ty, .int h0_height, .ref bo, .ref bg, .ref bh, .ref bd, .int h0_depth])), (ty, .inl (cty, 5000, .inl gty)), (bh, .inl (cbh, 101, .inl gbh)), (bd, .inl (cbd, 101, .inl gbd))] sz)) (va_A [(h0, .inr (9, [.ref aw, .ref ac, .int h0_sound, .int h0_function, .ref ty, .int h0_height, .ref bo, .ref bg, .ref bh, .ref bd, .int h0_depth])), (ty, .inl (cty, 5000, .inl gty)), (bh, .inl (cbh, 101, .inl gbh)), (bd, .inl (cbd, 101, .inl gbd))] sz)) 0 0 (va_A [(h0, .inr (9, [.ref aw, .ref ac, .int h0_sound, .int h0_function, .ref ty, .int h0_height, .ref bo, .ref bg, .ref bh, .ref bd, .int h0_depth])), (ty, .inl (cty, 5000, .inl gty)), (bh, .inl (cbh, 101, .inl gbh)), (bd, .inl (cbd, 101, .inl gbd))] sz) := by
  refine Met.ofW (cc := b_VA_checkSelect) (maxL := 3) (ret := none) (by decide) rfl ?_
  intro p e s m args below meth c s₁ B hml hv
  obtain ⟨rfl, hsz, hP, hK, hD0⟩ := hv
  have hx := B.exec
  have hb := B.bytes
  have hr := B.returns
  have hts0 := atoms_spec (ws := w_VA_checkSelect) B.pre
  have hts : ∀ w ∈ lw_g, w.before _ s = true := fun w h => hts0 w (List.mem_cons_of_mem _ h)
  have hown : s.vm.findClass R_VA = some m.cls := findClass_of_methodNamed B.named
  have hlocks := B.notSynchronized
  clear hts0
  subst hsz
  have hD := hD0.self (sz := s.heap.size)
  generalize hAe : va_A [(h0, .inr (9, [.ref aw, .ref ac, .int h0_sound, .int h0_function, .ref ty, .int h0_height, .ref bo, .ref bg, .ref bh, .ref bd, .int h0_depth])), (ty, .inl (cty, 5000, .inl gty)), (bh, .inl (cbh, 101, .inl gbh)), (bd, .inl (cbd, 101, .inl gbd))] s.heap.size = A at hD ⊢
  have hA : ∀ q : Nat, s.heap.size ≤ q → A q := fun q h => by rw [← hAe]; exact Or.inr h
  clear hAe
  have hP : va_P (dC, dI) cls [(h0, .inr (9, [.ref aw, .ref ac, .int h0_sound, .int h0_function, .ref ty, .int h0_height, .ref bo, .ref bg, .ref bh, .ref bd, .int h0_depth])), (ty, .inl (cty, 5000, .inl gty)), (bh, .inl (cbh, 101, .inl gbh)), (bd, .inl (cbd, 101, .inl gbd))] s.heap := hP
  have hl := lv_entry ([.ref h0]) (n := 3) (Nat.le_of_ble_eq_true rfl)
  rw [lg_entry_eq]
  generalize (lg_sl ([.ref h0]) ++ List.replicate (3 - (lg_sl ([.ref h0])).length) Slot.unset).toArray = ls at hl ⊢
  have hl : lv_has ls 3 [(0, .ref h0)] := hl
  have k0 : (0 : Int32).toInt = 0 := by decide
  refine w_gen (A := A) hP (fun H locs hP hS => ?_)
  have k1 : (1 : Int32).toInt = 1 := by decide
  have k127 : (127 : Int32).toInt = 127 := by decide
  have th0_sound := b01 b_h0_sound
  refine lv_aload_n hx hb d_VA_checkSelect_0 rfl (lv_at hl 0 rfl) ?_
  refine lv_bipush (v := 127) hx hb d_VA_checkSelect_1 (by decide) ?_
  have hPc := hP.sub (ws' := [(h0, .inr (9, [.ref aw, .ref ac, .int h0_sound, .int h0_function, .ref ty, .int h0_height, .ref bo, .ref bg, .ref bh, .ref bd, .int h0_depth])), (ty, .inl (cty, 5000, .inl gty)), (bh, .inl (cbh, 101, .inl gbh)), (bd, .inl (cbd, 101, .inl gbd))]) [0, 1, 2, 3] rfl
  have hDc := hD.sub (ws' := [(h0, .inr (9, [.ref aw, .ref ac, .int h0_sound, .int h0_function, .ref ty, .int h0_height, .ref bo, .ref bg, .ref bh, .ref bd, .int h0_depth])), (ty, .inl (cty, 5000, .inl gty)), (bh, .inl (cbh, 101, .inl gbh)), (bd, .inl (cbd, 101, .inl gbd))]) [0, 1, 2, 3] (by decide) rfl
  have hKc := hK.sub (tys' := [(cty, .int), (cbh, .int), (cbd, .boolean)]) [0, 1, 2] rfl
  have hFc := va_free (wc := [(h0, .inr (9, [.ref aw, .ref ac, .int h0_sound, .int h0_function, .ref ty, .int h0_height, .ref bo, .ref bg, .ref bh, .ref bd, .int h0_depth])), (ty, .inl (cty, 5000, .inl gty)), (bh, .inl (cbh, 101, .inl gbh)), (bd, .inl (cbd, 101, .inl gbd))]) hD hS hA [0, 1, 2, 3] rfl
  refine va_callv (va_runV (As := [.int 127]) (rest := []) ⟨hx, hb, hml, hown, hts⟩ (c_VA_pop l dC dI H.size h0 aw ac ty bo bg bh bd cty cbh cbd h0_sound h0_function h0_height h0_depth gty gbh gbd (b_h0_sound) (b_h0_height) (b_h0_depth) (b_gty) (b_gbh) 127 (by (try dsimp only) <;> omega) (by (try dsimp only) <;> omega)) (cwV 1 hts (gV kM_VA_161 kV_VA_pop kS_VA_pop kI_VA kC_VA_pop) rfl rfl rfl (by decide +kernel) ⟨Nat.le_of_ble_eq_true rfl, Nat.le_of_ble_eq_true rfl⟩) ⟨fun a U g mk z => by obtain ⟨z0, z1, zP, zK, zD⟩ := z; exact ⟨z0, z1, zP, va_K.moved (u := U) (U := U.calling g mk a) (Vm.Alike.refl U.vm) zK, zD⟩, va_recv hKc hPc (ci := 9) (q0 := 0) rfl rfl, fun U hU hW => ⟨rfl, by rw [hU], by rw [hU]; exact hPc, va_K.moved hW.alike hKc, hDc.weaken (fun _ _ _ _ => trivial)⟩⟩ rfl rfl hl.1 rfl (lv_room (Nat.le_of_ble_eq_true rfl)) d_VA_checkSelect_3 ⟨(Nat.zero_le _), (Nat.zero_le _)⟩) hS (fun q _ h => hFc q h) hFc (fun u t H1 locs ht hvm hw hB hz1 hk1 hS => ?_)
  obtain ⟨n2, n3⟩ := u
  try dsimp only at hw
  obtain ⟨bn2, bn3, xr1⟩ := hw
  try clear hw
  have tn3 := b01 bn3
  obtain ⟨hP1, hK1, hD1⟩ := hB
  rw [ht] at hP1
  obtain ⟨hP, hD⟩ := va_join (wr := []) (w1 := [(h0, .inr (9, [.ref aw, .ref ac, .int n3, .int h0_function, .ref ty, .int n2, .ref bo, .ref bg, .ref bh, .ref bd, .int h0_depth])), (ty, .inl (cty, 5000, .inl gty)), (bh, .inl (cbh, 101, .inl gbh)), (bd, .inl (cbd, 101, .inl gbd))]) hP hD [0, 1, 2, 3] [] rfl rfl (by decide) (by decide) hk1 hFc hP1 hD1
  clear hPc hDc hKc hFc hz1 hk1 hP1 hK1 hD1
  generalize H1 = H at hP hS ⊢
  have hP : va_P (dC, dI) cls [(h0, .inr (9, [.ref aw, .ref ac, .int n3, .int h0_function, .ref ty, .int n2, .ref bo, .ref bg, .ref bh, .ref bd, .int h0_depth])), (ty, .inl (cty, 5000, .inl gty)), (bh, .inl (cbh, 101, .inl gbh)), (bd, .inl (cbd, 101, .inl gbd))] H := hP
  have hD : va_D A [(h0, .inr (9, [.ref aw, .ref ac, .int n3, .int h0_function, .ref ty, .int n2, .ref bo, .ref bg, .ref bh, .ref bd, .int h0_depth])), (ty, .inl (cty, 5000, .inl gty)), (bh, .inl (cbh, 101, .inl gbh)), (bd, .inl (cbd, 101, .inl gbd))] := hD
  refine lv_aload_n hx hb d_VA_checkSelect_6 rfl (lv_at hl 0 rfl) ?_
  have hPc := hP.sub (ws' := [(h0, .inr (9, [.ref aw, .ref ac, .int n3, .int h0_function, .ref ty, .int n2, .ref bo, .ref bg, .ref bh, .ref bd, .int h0_depth])), (ty, .inl (cty, 5000, .inl gty)), (bh, .inl (cbh, 101, .inl gbh)), (bd, .inl (cbd, 101, .inl gbd))]) [0, 1, 2, 3] rfl
  have hDc := hD.sub (ws' := [(h0, .inr (9, [.ref aw, .ref ac, .int n3, .int h0_function, .ref ty, .int n2, .ref bo, .ref bg, .ref bh, .ref bd, .int h0_depth])), (ty, .inl (cty, 5000, .inl gty)), (bh, .inl (cbh, 101, .inl gbh)), (bd, .inl (cbd, 101, .inl gbd))]) [0, 1, 2, 3] (by decide) rfl
  have hKc := hK.sub (tys' := [(cty, .int), (cbh, .int), (cbd, .boolean)]) [0, 1, 2] rfl
  have hFc := va_free (wc := [(h0, .inr (9, [.ref aw, .ref ac, .int n3, .int h0_function, .ref ty, .int n2, .ref bo, .ref bg, .ref bh, .ref bd, .int h0_depth])), (ty, .inl (cty, 5000, .inl gty)), (bh, .inl (cbh, 101, .inl gbh)), (bd, .inl (cbd, 101, .inl gbd))]) hD hS hA [0, 1, 2, 3] rfl
  refine va_calli (va_runV (As := []) (rest := []) ⟨hx, hb, hml, hown, hts⟩ (c_VA_popAny l dC dI H.size h0 aw ac ty bo bg bh bd cty cbh cbd n3 h0_function n2 h0_depth gty gbh gbd (bn3) (bn2) (b_h0_depth) (b_gty) (b_gbh) (by (try dsimp only) <;> omega) (by (try dsimp only) <;> omega)) (cwV 0 hts (gV kM_VA_189 kV_VA_popAny kS_VA_popAny kI_VA kC_VA_popAny) rfl rfl rfl (by decide +kernel) ⟨Nat.le_of_ble_eq_true rfl, Nat.le_of_ble_eq_true rfl⟩) ⟨fun a U g mk z => by obtain ⟨z0, z1, zP, zK, zD⟩ := z; exact ⟨z0, z1, zP, va_K.moved (u := U) (U := U.calling g mk a) (Vm.Alike.refl U.vm) zK, zD⟩, va_recv hKc hPc (ci := 9) (q0 := 0) rfl rfl, fun U hU hW => ⟨rfl, by rw [hU], by rw [hU]; exact hPc, va_K.moved hW.alike hKc, hDc.weaken (fun _ _ _ _ => trivial)⟩⟩ rfl rfl hl.1 rfl (lv_room (Nat.le_of_ble_eq_true rfl)) d_VA_checkSelect_7 ⟨(Nat.zero_le _), (Nat.zero_le _)⟩) hS (fun q _ h => hFc q h) hFc (fun r4 u t H1 locs ht hvm hw hB hz1 hk1 hS => ?_)
  obtain ⟨n5, n6⟩ := u
  try dsimp only at hw
  obtain ⟨bn5, bn6, xr4⟩ := hw
  try clear hw
  have tn6 := b01 bn6
  obtain ⟨hP1, hK1, hD1⟩ := hB
  rw [ht] at hP1
  obtain ⟨hP, hD⟩ := va_join (wr := []) (w1 := [(h0, .inr (9, [.ref aw, .ref ac, .int n6, .int h0_function, .ref ty, .int n5, .ref bo, .ref bg, .ref bh, .ref bd, .int h0_depth])), (ty, .inl (cty, 5000, .inl gty)), (bh, .inl (cbh, 101, .inl gbh)), (bd, .inl (cbd, 101, .inl gbd))]) hP hD [0, 1, 2, 3] [] rfl rfl (by decide) (by decide) hk1 hFc hP1 hD1
  clear hPc hDc hKc hFc hz1 hk1 hP1 hK1 hD1
  generalize H1 = H at hP hS ⊢
  have hP : va_P (dC, dI) cls [(h0, .inr (9, [.ref aw, .ref ac, .int n6, .int h0_function, .ref ty, .int n5, .ref bo, .ref bg, .ref bh, .ref bd, .int h0_depth])), (ty, .inl (cty, 5000, .inl gty)), (bh, .inl (cbh, 101, .inl gbh)), (bd, .inl (cbd, 101, .inl gbd))] H := hP
  have hD : va_D A [(h0, .inr (9, [.ref aw, .ref ac, .int n6, .int h0_function, .ref ty, .int n5, .ref bo, .ref bg, .ref bh, .ref bd, .int h0_depth])), (ty, .inl (cty, 5000, .inl gty)), (bh, .inl (cbh, 101, .inl gbh)), (bd, .inl (cbd, 101, .inl gbd))] := hD
  refine lv_istore_n (lv' := [(1, .int r4), (0, .ref h0)]) hx hb d_VA_checkSelect_10 rfl hl (by decide) rfl (fun ls hl => ?_)
  refine lv_aload_n hx hb d_VA_checkSelect_11 rfl (lv_at hl 1 rfl) ?_
  have hPc := hP.sub (ws' := [(h0, .inr (9, [.ref aw, .ref ac, .int n6, .int h0_function, .ref ty, .int n5, .ref bo, .ref bg, .ref bh, .ref bd, .int h0_depth])), (ty, .inl (cty, 5000, .inl gty)), (bh, .inl (cbh, 101, .inl gbh)), (bd, .inl (cbd, 101, .inl gbd))]) [0, 1, 2, 3] rfl
  have hDc := hD.sub (ws' := [(h0, .inr (9, [.ref aw, .ref ac, .int n6, .int h0_function, .ref ty, .int n5, .ref bo, .ref bg, .ref bh, .ref bd, .int h0_depth])), (ty, .inl (cty, 5000, .inl gty)), (bh, .inl (cbh, 101, .inl gbh)), (bd, .inl (cbd, 101, .inl gbd))]) [0, 1, 2, 3] (by decide) rfl
  have hKc := hK.sub (tys' := [(cty, .int), (cbh, .int), (cbd, .boolean)]) [0, 1, 2] rfl
  have hFc := va_free (wc := [(h0, .inr (9, [.ref aw, .ref ac, .int n6, .int h0_function, .ref ty, .int n5, .ref bo, .ref bg, .ref bh, .ref bd, .int h0_depth])), (ty, .inl (cty, 5000, .inl gty)), (bh, .inl (cbh, 101, .inl gbh)), (bd, .inl (cbd, 101, .inl gbd))]) hD hS hA [0, 1, 2, 3] rfl
  refine va_calli (va_runV (As := []) (rest := []) ⟨hx, hb, hml, hown, hts⟩ (c_VA_popAny l dC dI H.size h0 aw ac ty bo bg bh bd cty cbh cbd n6 h0_function n5 h0_depth gty gbh gbd (bn6) (bn5) (b_h0_depth) (b_gty) (b_gbh) (by (try dsimp only) <;> omega) (by (try dsimp only) <;> omega)) (cwV 0 hts (gV kM_VA_189 kV_VA_popAny kS_VA_popAny kI_VA kC_VA_popAny) rfl rfl rfl (by decide +kernel) ⟨Nat.le_of_ble_eq_true rfl, Nat.le_of_ble_eq_true rfl⟩) ⟨fun a U g mk z => by obtain ⟨z0, z1, zP, zK, zD⟩ := z; exact ⟨z0, z1, zP, va_K.moved (u := U) (U := U.calling g mk a) (Vm.Alike.refl U.vm) zK, zD⟩, va_recv hKc hPc (ci := 9) (q0 := 0) rfl rfl, fun U hU hW => ⟨rfl, by rw [hU], by rw [hU]; exact hPc, va_K.moved hW.alike hKc, hDc.weaken (fun _ _ _ _ => trivial)⟩⟩ rfl rfl hl.1 rfl (lv_room (Nat.le_of_ble_eq_true rfl)) d_VA_checkSelect_12 ⟨(Nat.zero_le _), (Nat.zero_le _)⟩) hS (fun q _ h => hFc q h) hFc (fun r7 u t H1 locs ht hvm hw hB hz1 hk1 hS => ?_)
  obtain ⟨n8, n9⟩ := u
  try dsimp only at hw
  obtain ⟨bn8, bn9, xr7⟩ := hw
  try clear hw
  have tn9 := b01 bn9
  obtain ⟨hP1, hK1, hD1⟩ := hB
  rw [ht] at hP1
  obtain ⟨hP, hD⟩ := va_join (wr := []) (w1 := [(h0, .inr (9, [.ref aw, .ref ac, .int n9, .int h0_function, .ref ty, .int n8, .ref bo, .ref bg, .ref bh, .ref bd, .int h0_depth])), (ty, .inl (cty, 5000, .inl gty)), (bh, .inl (cbh, 101, .inl gbh)), (bd, .inl (cbd, 101, .inl gbd))]) hP hD [0, 1, 2, 3] [] rfl rfl (by decide) (by decide) hk1 hFc hP1 hD1
  clear hPc hDc hKc hFc hz1 hk1 hP1 hK1 hD1
  generalize H1 = H at hP hS ⊢
  have hP : va_P (dC, dI) cls [(h0, .inr (9, [.ref aw, .ref ac, .int n9, .int h0_function, .ref ty, .int n8, .ref bo, .ref bg, .ref bh, .ref bd, .int h0_depth])), (ty, .inl (cty, 5000, .inl gty)), (bh, .inl (cbh, 101, .inl gbh)), (bd, .inl (cbd, 101, .inl gbd))] H := hP
  have hD : va_D A [(h0, .inr (9, [.ref aw, .ref ac, .int n9, .int h0_function, .ref ty, .int n8, .ref bo, .ref bg, .ref bh, .ref bd, .int h0_depth])), (ty, .inl (cty, 5000, .inl gty)), (bh, .inl (cbh, 101, .inl gbh)), (bd, .inl (cbd, 101, .inl gbd))] := hD
  refine lv_istore_n (lv' := [(2, .int r7), (1, .int r4), (0, .ref h0)]) hx hb d_VA_checkSelect_15 rfl hl (by decide) rfl (fun ls hl => ?_)
  refine lv_aload_n hx hb d_VA_checkSelect_16 rfl (lv_at hl 2 rfl) ?_
  refine lv_aload_n hx hb d_VA_checkSelect_17 rfl (lv_at hl 2 rfl) ?_
  refine va_get (D := (dC, dI)) (ci := 9) (v := .int n9) (C := R_VA) (T := F_VA) (N := 11) hx hb hts i_VA hown hK hP 0 rfl rfl 2 (by decide) (hts _ kF_VA_39) (fun _ h9 => h9) rfl d_VA_checkSelect_18 ?_
  refine w_cut (pc2 := 42) (σ := Int32) (fun u H locs ls => match u with | j42_s0 => (j42_s0 = 0 ∨ j42_s0 = 1) ∧ (j42_s0.toInt = 1 → n9.toInt = 1) ∧ va_P (dC, dI) cls [(h0, .inr (9, [.ref aw, .ref ac, .int n9, .int h0_function, .ref ty, .int n8, .ref bo, .ref bg, .ref bh, .ref bd, .int h0_depth])), (ty, .inl (cty, 5000, .inl gty)), (bh, .inl (cbh, 101, .inl gbh)), (bd, .inl (cbd, 101, .inl gbd))] H ∧ va_D A [(h0, .inr (9, [.ref aw, .ref ac, .int n9, .int h0_function, .ref ty, .int n8, .ref bo, .ref bg, .ref bh, .ref bd, .int h0_depth])), (ty, .inl (cty, 5000, .inl gty)), (bh, .inl (cbh, 101, .inl gbh)), (bd, .inl (cbd, 101, .inl gbd))] ∧ va_S A s.heap H locs ∧ lv_has ls 3 [(0, .ref h0), (1, .int r4), (2, .int r7)]) (fun u => match u with | j42_s0 => [.int j42_s0, .ref h0]) ?_ (fun jn42 => ?_)
  · intro u H locs ls hI
    obtain ⟨j42_s0, rfl⟩ : ∃ z, z = u := ⟨_, rfl⟩
    obtain ⟨b_j42_s0, x0, hP, hD, hS, hl⟩ := hI
    have tj42_s0 := b01 b_j42_s0
    refine va_put (D := (dC, dI)) (ci := 9) (v := .int j42_s0) (ty := .boolean) (C := R_VA) (T := F_VA) (N := 11) hx hb hts i_VA t_VA t_VA_ok n_VA hown hK hP hD hS 0 rfl rfl 2 (by decide) (hts _ kF_VA_39) (fun _ h9 => h9) rfl (by decide +kernel) (zn01 (b_j42_s0)) (fz01 (b_j42_s0)) (Nat.le_of_ble_eq_true rfl) d_VA_checkSelect_42 (fun H locs hP hD hS => ?_)
    refine lv_aload_n hx hb d_VA_checkSelect_45 rfl (lv_at hl 0 rfl) ?_
    refine lv_iload_n hx hb d_VA_checkSelect_46 rfl (lv_at hl 1 rfl) ?_
    refine w_cut (pc2 := 55) (σ := Int32) (fun u H locs ls => match u with | j55_s0 => (j55_s0.toInt ≠ 64) ∧ va_P (dC, dI) cls [(h0, .inr (9, [.ref aw, .ref ac, .int j42_s0, .int h0_function, .ref ty, .int n8, .ref bo, .ref bg, .ref bh, .ref bd, .int h0_depth])), (ty, .inl (cty, 5000, .inl gty)), (bh, .inl (cbh, 101, .inl gbh)), (bd, .inl (cbd, 101, .inl gbd))] H ∧ va_D A [(h0, .inr (9, [.ref aw, .ref ac, .int j42_s0, .int h0_function, .ref ty, .int n8, .ref bo, .ref bg, .ref bh, .ref bd, .int h0_depth])), (ty, .inl (cty, 5000, .inl gty)), (bh, .inl (cbh, 101, .inl gbh)), (bd, .inl (cbd, 101, .inl gbd))] ∧ va_S A s.heap H locs ∧ lv_has ls 3 []) (fun u => match u with | j55_s0 => [.int j55_s0, .ref h0]) ?_ (fun jn55 => ?_)
    · intro u H locs ls hI
      obtain ⟨j55_s0, rfl⟩ : ∃ z, z = u := ⟨_, rfl⟩
      obtain ⟨b_j55_s0, hP, hD, hS, hl⟩ := hI
      have hPc := hP.sub (ws' := [(h0, .inr (9, [.ref aw, .ref ac, .int j42_s0, .int h0_function, .ref ty, .int n8, .ref bo, .ref bg, .ref bh, .ref bd, .int h0_depth])), (ty, .inl (cty, 5000, .inl gty))]) [0, 1] rfl
      have hDc := hD.sub (ws' := [(h0, .inr (9, [.ref aw, .ref ac, .int j42_s0, .int h0_function, .ref ty, .int n8, .ref bo, .ref bg, .ref bh, .ref bd, .int h0_depth])), (ty, .inl (cty, 5000, .inl gty))]) [0, 1] (by decide) rfl
      have hKc := hK.sub (tys' := [(cty, .int)]) [0] rfl
      have hFc := va_free (wc := [(h0, .inr (9, [.ref aw, .ref ac, .int j42_s0, .int h0_function, .ref ty, .int n8, .ref bo, .ref bg, .ref bh, .ref bd, .int h0_depth])), (ty, .inl (cty, 5000, .inl gty))]) hD hS hA [0, 1] rfl
      refine va_callv (va_runV (As := [.int j55_s0]) (rest := []) ⟨hx, hb, hml, hown, hts⟩ (c_VA_push l dC dI H.size h0 aw ac ty bo bg bh bd cty j42_s0 h0_function n8 h0_depth gty (bn8) (b_gty) j55_s0 (by (try dsimp only) <;> omega)) (cwV 1 hts (gV kM_VA_167 kV_VA_push kS_VA_push kI_VA kC_VA_push) rfl rfl rfl (by decide +kernel) ⟨Nat.le_of_ble_eq_true rfl, Nat.le_of_ble_eq_true rfl⟩) ⟨fun a U g mk z => by obtain ⟨z0, z1, zP, zK, zD⟩ := z; exact ⟨z0, z1, zP, va_K.moved (u := U) (U := U.calling g mk a) (Vm.Alike.refl U.vm) zK, zD⟩, va_recv hKc hPc (ci := 9) (q0 := 0) rfl rfl, fun U hU hW => ⟨rfl, by rw [hU], by rw [hU]; exact hPc, va_K.moved hW.alike hKc, hDc.weaken (fun _ _ _ _ => trivial)⟩⟩ rfl rfl hl.1 rfl (lv_room (Nat.le_of_ble_eq_true rfl)) d_VA_checkSelect_55 ⟨(Nat.zero_le _), (Nat.zero_le _)⟩) hS (fun q _ h => hFc q h) hFc (fun u t H1 locs ht hvm hw hB hz1 hk1 hS => ?_)
      obtain ⟨n11, n12⟩ := u
      try dsimp only at hw
      obtain ⟨bn11, bn12, xr10⟩ := hw
      try clear hw
      obtain ⟨hP1, hK1, hD1⟩ := hB
      rw [ht] at hP1
      obtain ⟨hP, hD⟩ := va_join (wr := [(bh, .inl (cbh, 101, .inl gbh)), (bd, .inl (cbd, 101, .inl gbd))]) (w1 := [(h0, .inr (9, [.ref aw, .ref ac, .int j42_s0, .int h0_function, .ref ty, .int n12, .ref bo, .ref bg, .ref bh, .ref bd, .int h0_depth])), (ty, .inl (cty, 5000, .inl n11))]) hP hD [0, 1] [2, 3] rfl rfl (by decide) (by decide) hk1 hFc hP1 hD1
      clear hPc hDc hKc hFc hz1 hk1 hP1 hK1 hD1
      generalize H1 = H at hP hS ⊢
      have hP : va_P (dC, dI) cls [(bh, .inl (cbh, 101, .inl gbh)), (bd, .inl (cbd, 101, .inl gbd)), (h0, .inr (9, [.ref aw, .ref ac, .int j42_s0, .int h0_function, .ref ty, .int n12, .ref bo, .ref bg, .ref bh, .ref bd, .int h0_depth])), (ty, .inl (cty, 5000, .inl n11))] H := hP
      have hD : va_D A [(bh, .inl (cbh, 101, .inl gbh)), (bd, .inl (cbd, 101, .inl gbd)), (h0, .inr (9, [.ref aw, .ref ac, .int j42_s0, .int h0_function, .ref ty, .int n12, .ref bo, .ref bg, .ref bh, .ref bd, .int h0_depth])), (ty, .inl (cty, 5000, .inl n11))] := hD
      have hP9 := hP.sub (ws' := [(h0, .inr (9, [.ref aw, .ref ac, .int j42_s0, .int h0_function, .ref ty, .int n12, .ref bo, .ref bg, .ref bh, .ref bd, .int h0_depth])), (ty, .inl (cty, 5000, .inl n11)), (bh, .inl (cbh, 101, .inl gbh)), (bd, .inl (cbd, 101, .inl gbd))]) [2, 3, 0, 1] rfl
      have hD9 := hD.sub (ws' := [(h0, .inr (9, [.ref aw, .ref ac, .int j42_s0, .int h0_function, .ref ty, .int n12, .ref bo, .ref bg, .ref bh, .ref bd, .int h0_depth])), (ty, .inl (cty, 5000, .inl n11)), (bh, .inl (cbh, 101, .inl gbh)), (bd, .inl (cbd, 101, .inl gbd))]) [2, 3, 0, 1] (by decide) rfl
      exact W.vret hx hb hr (fun t ht hW => ⟨⟨(n11, n12, j42_s0), rfl, ⟨bn11, bn12, b_j42_s0, by (try dsimp only) <;> omega⟩, by rw [ht]; exact hP9, va_K.moved hW.alike hK, hD9⟩, hS.F ht⟩) hS.2.2 d_VA_checkSelect_58
    · skip
      refine lv_if_ne (tgt := 54) hx hb d_VA_checkSelect_47 (by decide) (fun c47 => ?_) (fun c47 => ?_)
      · have q47 := neI c47
        refine lv_iload_n hx hb d_VA_checkSelect_54 rfl (lv_at hl 1 rfl) ?_
        exact jn55 r4 _ _ _ ⟨by (try dsimp only) <;> omega, hP, hD, hS, lv_sub hl [] rfl⟩
      · have q47 := eqI c47
        refine lv_iload_n hx hb d_VA_checkSelect_50 rfl (lv_at hl 2 rfl) ?_
        refine lv_goto (tgt := 55) hx hb d_VA_checkSelect_51 (by decide) ?_
        exact jn55 r7 _ _ _ ⟨by (try dsimp only) <;> omega, hP, hD, hS, lv_sub hl [] rfl⟩
  · skip
    refine w_cut (pc2 := 41) (σ := Unit) (fun u H locs ls => match u with | _ => va_P (dC, dI) cls [(h0, .inr (9, [.ref aw, .ref ac, .int n9, .int h0_function, .ref ty, .int n8, .ref bo, .ref bg, .ref bh, .ref bd, .int h0_depth])), (ty, .inl (cty, 5000, .inl gty)), (bh, .inl (cbh, 101, .inl gbh)), (bd, .inl (cbd, 101, .inl gbd))] H ∧ va_D A [(h0, .inr (9, [.ref aw, .ref ac, .int n9, .int h0_function, .ref ty, .int n8, .ref bo, .ref bg, .ref bh, .ref bd, .int h0_depth])), (ty, .inl (cty, 5000, .inl gty)), (bh, .inl (cbh, 101, .inl gbh)), (bd, .inl (cbd, 101, .inl gbd))] ∧ va_S A s.heap H locs ∧ lv_has ls 3 [(0, .ref h0), (1, .int r4), (2, .int r7)]) (fun u => match u with | _ => [.ref h0]) ?_ (fun jn41 => ?_)
    · intro u H locs ls hI
      obtain ⟨hP, hD, hS, hl⟩ := hI
      refine lv_iconst (v := 0) hx hb d_VA_checkSelect_41 (by decide) ?_
      exact jn42 0 _ _ _ ⟨Or.inl rfl, by (try dsimp only) <;> omega, hP, hD, hS, lv_sub hl [0, 1, 2] rfl⟩
    · skip
      refine lv_if_eq (tgt := 41) hx hb d_VA_checkSelect_21 (by decide) (fun c21 => ?_) (fun c21 => ?_)
      · have q21 := eqI c21
        exact jn41 () _ _ _ ⟨hP, hD, hS, lv_sub hl [2, 1, 0] rfl⟩
      · have q21 := neI c21
        refine lv_iload_n hx hb d_VA_checkSelect_24 rfl (lv_at hl 1 rfl) ?_
        refine lv_iload_n hx hb d_VA_checkSelect_25 rfl (lv_at hl 0 rfl) ?_
        refine w_cut (pc2 := 37) (σ := Unit) (fun u H locs ls => match u with | _ => va_P (dC, dI) cls [(h0, .inr (9, [.ref aw, .ref ac, .int n9, .int h0_function, .ref ty, .int n8, .ref bo, .ref bg, .ref bh, .ref bd, .int h0_depth])), (ty, .inl (cty, 5000, .inl gty)), (bh, .inl (cbh, 101, .inl gbh)), (bd, .inl (cbd, 101, .inl gbd))] H ∧ va_D A [(h0, .inr (9, [.ref aw, .ref ac, .int n9, .int h0_function, .ref ty, .int n8, .ref bo, .ref bg, .ref bh, .ref bd, .int h0_depth])), (ty, .inl (cty, 5000, .inl gty)), (bh, .inl (cbh, 101, .inl gbh)), (bd, .inl (cbd, 101, .inl gbd))] ∧ va_S A s.heap H locs ∧ lv_has ls 3 [(0, .ref h0), (1, .int r4), (2, .int r7)]) (fun u => match u with | _ => [.ref h0]) ?_ (fun jn37 => ?_)
        · intro u H locs ls hI
          obtain ⟨hP, hD, hS, hl⟩ := hI
          refine lv_iconst (v := 1) hx hb d_VA_checkSelect_37 (by decide) ?_
          refine lv_goto (tgt := 42) hx hb d_VA_checkSelect_38 (by decide) ?_
          exact jn42 1 _ _ _ ⟨Or.inr rfl, by (try dsimp only) <;> omega, hP, hD, hS, lv_sub hl [0, 1, 2] rfl⟩
        · skip
          refine lv_icmp_eq (tgt := 37) hx hb d_VA_checkSelect_26 (by decide) (fun c26 => ?_) (fun c26 => ?_)
          · have q26 := eqI c26
            exact jn37 () _ _ _ ⟨hP, hD, hS, lv_sub hl [2, 1, 0] rfl⟩
          · have q26 := neI c26
            refine lv_iload_n hx hb d_VA_checkSelect_29 rfl (lv_at hl 1 rfl) ?_
            refine lv_if_eq (tgt := 37) hx hb d_VA_checkSelect_30 (by decide) (fun c30 => ?_) (fun c30 => ?_)
            · have q30 := eqI c30
              exact jn37 () _ _ _ ⟨hP, hD, hS, lv_sub hl [2, 1, 0] rfl⟩
            · have q30 := neI c30
              refine lv_iload_n hx hb d_VA_checkSelect_33 rfl (lv_at hl 0 rfl) ?_
              refine lv_if_ne (tgt := 41) hx hb d_VA_checkSelect_34 (by decide) (fun c34 => ?_) (fun c34 => ?_)
              · have q34 := neI c34
                exact jn41 () _ _ _ ⟨hP, hD, hS, lv_sub hl [2, 1, 0] rfl⟩
              · have q34 := eqI c34
                exact jn37 () _ _ _ ⟨hP, hD, hS, lv_sub hl [2, 1, 0] rfl⟩

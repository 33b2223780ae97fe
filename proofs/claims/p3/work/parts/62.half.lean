/-! Coder: half a sign of two sides -/
abbrev b_CO_codeHalfway : ByteArray := prog_4_method_8_code
def y_CO_codeHalfway : MethodName := ⟨R_CO, "codeHalfway", "(LWaferForge$Sign;)V"⟩
abbrev w_CO_codeHalfway : List Cond := .code y_CO_codeHalfway b_CO_codeHalfway 2 none :: lw_g
theorem kC_CO_codeHalfway : Cond.code y_CO_codeHalfway b_CO_codeHalfway 2 none ∈ lw_g := in_g 1133 (by decide +kernel) rfl
theorem d_CO_codeHalfway_0 : decode b_CO_codeHalfway 0 = .ok (.aload_n 0, 1) := by decide +kernel
theorem d_CO_codeHalfway_1 : decode b_CO_codeHalfway 1 = .ok (.getfield 26, 3) := by decide +kernel
theorem d_CO_codeHalfway_4 : decode b_CO_codeHalfway 4 = .ok (.iconst 4, 1) := by decide +kernel
theorem d_CO_codeHalfway_5 : decode b_CO_codeHalfway 5 = .ok (.invokevirtual 76, 3) := by decide +kernel
theorem d_CO_codeHalfway_8 : decode b_CO_codeHalfway 8 = .ok (.aload_n 0, 1) := by decide +kernel
theorem d_CO_codeHalfway_9 : decode b_CO_codeHalfway 9 = .ok (.getfield 26, 3) := by decide +kernel
theorem d_CO_codeHalfway_12 : decode b_CO_codeHalfway 12 = .ok (.bipush 127, 2) := by decide +kernel
theorem d_CO_codeHalfway_14 : decode b_CO_codeHalfway 14 = .ok (.invokevirtual 76, 3) := by decide +kernel
theorem d_CO_codeHalfway_17 : decode b_CO_codeHalfway 17 = .ok (.aload_n 1, 1) := by decide +kernel
theorem d_CO_codeHalfway_18 : decode b_CO_codeHalfway 18 = .ok (.getstatic 221, 3) := by decide +kernel
theorem d_CO_codeHalfway_21 : decode b_CO_codeHalfway 21 = .ok (.if_acmp .ne 28, 3) := by decide +kernel
theorem d_CO_codeHalfway_24 : decode b_CO_codeHalfway 24 = .ok (.aload_n 0, 1) := by decide +kernel
theorem d_CO_codeHalfway_25 : decode b_CO_codeHalfway 25 = .ok (.getfield 26, 3) := by decide +kernel
theorem d_CO_codeHalfway_28 : decode b_CO_codeHalfway 28 = .ok (.bipush 65, 2) := by decide +kernel
theorem d_CO_codeHalfway_30 : decode b_CO_codeHalfway 30 = .ok (.invokevirtual 76, 3) := by decide +kernel
theorem d_CO_codeHalfway_33 : decode b_CO_codeHalfway 33 = .ok (.aload_n 0, 1) := by decide +kernel
theorem d_CO_codeHalfway_34 : decode b_CO_codeHalfway 34 = .ok (.getfield 26, 3) := by decide +kernel
theorem d_CO_codeHalfway_37 : decode b_CO_codeHalfway 37 = .ok (.iconst 1, 1) := by decide +kernel
theorem d_CO_codeHalfway_38 : decode b_CO_codeHalfway 38 = .ok (.invokevirtual 76, 3) := by decide +kernel
theorem d_CO_codeHalfway_41 : decode b_CO_codeHalfway 41 = .ok (.aload_n 0, 1) := by decide +kernel
theorem d_CO_codeHalfway_42 : decode b_CO_codeHalfway 42 = .ok (.getfield 26, 3) := by decide +kernel
theorem d_CO_codeHalfway_45 : decode b_CO_codeHalfway 45 = .ok (.iconst 5, 1) := by decide +kernel
theorem d_CO_codeHalfway_46 : decode b_CO_codeHalfway 46 = .ok (.invokevirtual 76, 3) := by decide +kernel
theorem d_CO_codeHalfway_49 : decode b_CO_codeHalfway 49 = .ok (.return_, 1) := by decide +kernel
theorem kF_CO_221 : Cond.fieldLink R_CO 221 "WaferForge$Sign" "OR" "LWaferForge$Sign;" ∈ lw_g := in_g 1134 (by decide +kernel) rfl
abbrev at_CO_codeHalfway (dC : Nat → ClassId) (dI : Nat → Nat → Nat) (sa : Nat → Nat) (h0 pr kn lt pe to bo cs se bob : Nat) (cbob : ClassId) (h0_localCount : Int32) (h0_pendingCount : Int32) (h0_gives : Int32) (h0_depth : Int32) (h0_loopDepth : Int32) (A : Nat → Prop) (u : (Nat → Int32) × Int32) (t : State) : Prop := match u with | (gbob, bo_length) => va_P (dC, dI) cls [(h0, .inr (2, [.ref pr, .ref kn, .ref lt, .int h0_localCount, .ref pe, .int h0_pendingCount, .int h0_gives, .int h0_depth, .int h0_loopDepth, .ref to, .ref bo, .ref cs, .ref se])), (bo, .inr (1, [.ref bob, .int bo_length])), (bob, .inl (cbob, 8192, .inl gbob))] t.heap ∧ va_K (dC, dI) cls [(cbob, .byte)] t ∧ va_D A [(h0, .inr (2, [.ref pr, .ref kn, .ref lt, .int h0_localCount, .ref pe, .int h0_pendingCount, .int h0_gives, .int h0_depth, .int h0_loopDepth, .ref to, .ref bo, .ref cs, .ref se])), (bo, .inr (1, [.ref bob, .int bo_length])), (bob, .inl (cbob, 8192, .inl gbob))]
set_option maxHeartbeats 4000000 in
set_option maxRecDepth 100000 in
theorem c_CO_codeHalfway (l : Launch) (dC : Nat → ClassId) (dI : Nat → Nat → Nat) (sz : Nat) (sa : Nat → Nat) (h0 pr kn lt pe to bo cs se bob : Nat) (cbob : ClassId) (h0_localCount : Int32) (h0_pendingCount : Int32) (h0_gives : Int32) (h0_depth : Int32) (h0_loopDepth : Int32) (bo_length : Int32) (gbob : Nat → Int32)  (b_bo_length : 0 ≤ bo_length.toInt ∧ bo_length.toInt ≤ 8192) (ka : Nat) (ba0 : ka < 55) (hbo : bo_length.toInt + 5 ≤ 8192) : Met l y_CO_codeHalfway w_CO_codeHalfway ({ frames := 1, cells := 0, slots := 0, locals := 21 }) (va_Pc [.ref h0, .ref (sg sa ka)] (fun U => U.heap.size = sz ∧ va_P (dC, dI) cls [(h0, .inr (2, [.ref pr, .ref kn, .ref lt, .int h0_localCount, .ref pe, .int h0_pendingCount, .int h0_gives, .int h0_depth, .int h0_loopDepth, .ref to, .ref bo, .ref cs, .ref se])), (bo, .inr (1, [.ref bob, .int bo_length])), (bob, .inl (cbob, 8192, .inl gbob))] U.heap ∧ va_K (dC, dI) cls [(cbob, .byte)] U ∧ va_D (fun _ => True) [(h0, .inr (2, [.ref pr, .ref kn, .ref lt, .int h0_localCount, .ref pe, .int h0_pendingCount, .int h0_gives, .int h0_depth, .int h0_loopDepth, .ref to, .ref bo, .ref cs, .ref se])), (bo, .inr (1, [.ref bob, .int bo_length])), (bob, .inl (cbob, 8192, .inl gbob))] ∧ sw sa (va_A [(h0, .inr (2, [.ref pr, .ref kn, .ref lt, .int h0_localCount, .ref pe, .int h0_pendingCount, .int h0_gives, .int h0_depth, .int h0_loopDepth, .ref to, .ref bo, .ref cs, .ref se])), (bo, .inr (1, [.ref bob, .int bo_length])), (bob, .inl (cbob, 8192, .inl gbob))] sz) U U.heap)) (va_Qv (fun (u : (Nat → Int32) × Int32) => match u with | (gbob2, bo_length2) => (0 ≤ bo_length2.toInt ∧ bo_length2.toInt ≤ 8192) ∧ ((ka = 36 → bo_length2.toInt = bo_length.toInt + 5 ∧ bl gbob2 bo_length2.toNatClampNeg = bl gbob bo_length.toNatClampNeg ++ [4, 127, 65, 1, 5]) ∧ (ka ≠ 36 → bo_length2.toInt = bo_length.toInt + 2 ∧ bl gbob2 bo_length2.toNatClampNeg = bl gbob bo_length.toNatClampNeg ++ [4, 127]))) (at_CO_codeHalfway dC dI sa h0 pr kn lt pe to bo cs se bob cbob h0_localCount h0_pendingCount h0_gives h0_depth h0_loopDepth (va_A [(h0, .inr (2, [.ref pr, .ref kn, .ref lt, .int h0_localCount, .ref pe, .int h0_pendingCount, .int h0_gives, .int h0_depth, .int h0_loopDepth, .ref to, .ref bo, .ref cs, .ref se])), (bo, .inr (1, [.ref bob, .int bo_length])), (bob, .inl (cbob, 8192, .inl gbob))] sz)) (va_A [(h0, .inr (2, [.ref pr, .ref kn, .ref lt, .int h0_localCount, .ref pe, .int h0_pendingCount, .int h0_gives, .int h0_depth, .int h0_loopDepth, .ref to, .ref bo, .ref cs, .ref se])), (bo, .inr (1, [.ref bob, .int bo_length])), (bob, .inl (cbob, 8192, .inl gbob))] sz)) 0 0 (va_A [(h0, .inr (2, [.ref pr, .ref kn, .ref lt, .int h0_localCount, .ref pe, .int h0_pendingCount, .int h0_gives, .int h0_depth, .int h0_loopDepth, .ref to, .ref bo, .ref cs, .ref se])), (bo, .inr (1, [.ref bob, .int bo_length])), (bob, .inl (cbob, 8192, .inl gbob))] sz) := by
  refine Met.ofW (cc := b_CO_codeHalfway) (maxL := 2) (ret := none) (by decide) rfl ?_
  intro p e s m args below meth c s₁ B hml hv
  obtain ⟨rfl, hsz, hP, hK, hD0, hSW⟩ := hv
  have hx := B.exec
  have hb := B.bytes
  have hr := B.returns
  have hts0 := atoms_spec (ws := w_CO_codeHalfway) B.pre
  have hts : ∀ w ∈ lw_g, w.before _ s = true := fun w h => hts0 w (List.mem_cons_of_mem _ h)
  have hown : s.vm.findClass R_CO = some m.cls := findClass_of_methodNamed B.named
  have hlocks := B.notSynchronized
  clear hts0
  subst hsz
  have hD := hD0.self (sz := s.heap.size)
  generalize hAe : va_A [(h0, .inr (2, [.ref pr, .ref kn, .ref lt, .int h0_localCount, .ref pe, .int h0_pendingCount, .int h0_gives, .int h0_depth, .int h0_loopDepth, .ref to, .ref bo, .ref cs, .ref se])), (bo, .inr (1, [.ref bob, .int bo_length])), (bob, .inl (cbob, 8192, .inl gbob))] s.heap.size = A at hD hSW ⊢
  have hA : ∀ q : Nat, s.heap.size ≤ q → A q := fun q h => by rw [← hAe]; exact Or.inr h
  clear hAe
  have hP : va_P (dC, dI) cls [(h0, .inr (2, [.ref pr, .ref kn, .ref lt, .int h0_localCount, .ref pe, .int h0_pendingCount, .int h0_gives, .int h0_depth, .int h0_loopDepth, .ref to, .ref bo, .ref cs, .ref se])), (bo, .inr (1, [.ref bob, .int bo_length])), (bob, .inl (cbob, 8192, .inl gbob))] s.heap := hP
  have hl := lv_entry ([.ref h0, .ref (sg sa ka)]) (n := 2) (Nat.le_of_ble_eq_true rfl)
  rw [lg_entry_eq]
  generalize (lg_sl ([.ref h0, .ref (sg sa ka)]) ++ List.replicate (2 - (lg_sl ([.ref h0, .ref (sg sa ka)])).length) Slot.unset).toArray = ls at hl ⊢
  have hl : lv_has ls 2 [(0, .ref h0), (1, .ref (sg sa ka))] := hl
  have k0 : (0 : Int32).toInt = 0 := by decide
  refine w_gen (A := A) hP (fun H locs hP hS => ?_)
  have k1 : (1 : Int32).toInt = 1 := by decide
  have k4 : (4 : Int32).toInt = 4 := by decide
  have k5 : (5 : Int32).toInt = 5 := by decide
  have k65 : (65 : Int32).toInt = 65 := by decide
  have k127 : (127 : Int32).toInt = 127 := by decide
  refine lv_aload_n hx hb d_CO_codeHalfway_0 rfl (lv_at hl 0 rfl) ?_
  refine va_get (D := (dC, dI)) (ci := 2) (v := .ref bo) (C := R_CO) (T := F_CO) (N := 13) hx hb hts i_CO hown hK hP 0 rfl rfl 10 (by decide) (hts _ kF_CO_26) (fun _ h9 => h9) rfl d_CO_codeHalfway_1 ?_
  refine lv_iconst (v := 4) hx hb d_CO_codeHalfway_4 (by decide) ?_
  have hPc := hP.sub (ws' := [(bo, .inr (1, [.ref bob, .int bo_length])), (bob, .inl (cbob, 8192, .inl gbob))]) [1, 2] rfl
  have hDc := hD.sub (ws' := [(bo, .inr (1, [.ref bob, .int bo_length])), (bob, .inl (cbob, 8192, .inl gbob))]) [1, 2] (by decide) rfl
  have hKc := hK.sub (tys' := [(cbob, .byte)]) [0] rfl
  have hFc := va_free (wc := [(bo, .inr (1, [.ref bob, .int bo_length])), (bob, .inl (cbob, 8192, .inl gbob))]) hD hS hA [1, 2] rfl
  refine va_callv (va_runV (As := [.int 4]) (rest := []) ⟨hx, hb, hml, hown, hts⟩ (c_BR_put l dC dI bo bob H.size cbob 8192 bo_length gbob (by omega) (by omega) (by omega) 4) (cwV 1 hts (gV kM_CO_76 kV_BR_put kS_BR_put kI_BR kC_BR_put) rfl rfl rfl (by decide +kernel) ⟨Nat.le_of_ble_eq_true rfl, Nat.le_of_ble_eq_true rfl⟩) ⟨fun a U g mk z => by obtain ⟨z0, z1, zP, zK, zD⟩ := z; exact ⟨z0, z1, zP, va_K.moved (u := U) (U := U.calling g mk a) (Vm.Alike.refl U.vm) zK, zD⟩, va_recv hKc hPc (ci := 1) (q0 := 0) rfl rfl, fun U hU hW => ⟨rfl, by rw [hU], by rw [hU]; exact hPc, va_K.moved hW.alike hKc, hDc.weaken (fun _ _ _ _ => trivial)⟩⟩ rfl rfl hl.1 rfl (lv_room (Nat.le_of_ble_eq_true rfl)) d_CO_codeHalfway_5 ⟨(Nat.zero_le _), (Nat.zero_le _)⟩) hS (fun q _ h => hFc q h) hFc (fun u t H1 locs ht hvm hw hB hz1 hk1 hS => ?_)
  obtain ⟨n2, f3⟩ := u
  try dsimp only at hw
  have tn2 := br_put_in (by omega) (by omega) (by omega) hw
  have bn2 := br_put_bl (by omega) (by omega) (by omega) hw
  obtain ⟨hP1, hK1, hD1⟩ := hB
  rw [ht] at hP1
  obtain ⟨hP, hD⟩ := va_join (wr := [(h0, .inr (2, [.ref pr, .ref kn, .ref lt, .int h0_localCount, .ref pe, .int h0_pendingCount, .int h0_gives, .int h0_depth, .int h0_loopDepth, .ref to, .ref bo, .ref cs, .ref se]))]) (w1 := [(bo, .inr (1, [.ref bob, .int n2])), (bob, .inl (cbob, 8192, .inl f3))]) hP hD [1, 2] [0] rfl rfl (by decide) (by decide) hk1 hFc hP1 hD1
  clear hPc hDc hKc hFc hz1 hk1 hP1 hK1 hD1
  generalize H1 = H at hP hS ⊢
  have hP : va_P (dC, dI) cls [(h0, .inr (2, [.ref pr, .ref kn, .ref lt, .int h0_localCount, .ref pe, .int h0_pendingCount, .int h0_gives, .int h0_depth, .int h0_loopDepth, .ref to, .ref bo, .ref cs, .ref se])), (bo, .inr (1, [.ref bob, .int n2])), (bob, .inl (cbob, 8192, .inl f3))] H := hP
  have hD : va_D A [(h0, .inr (2, [.ref pr, .ref kn, .ref lt, .int h0_localCount, .ref pe, .int h0_pendingCount, .int h0_gives, .int h0_depth, .int h0_loopDepth, .ref to, .ref bo, .ref cs, .ref se])), (bo, .inr (1, [.ref bob, .int n2])), (bob, .inl (cbob, 8192, .inl f3))] := hD
  refine lv_aload_n hx hb d_CO_codeHalfway_8 rfl (lv_at hl 0 rfl) ?_
  refine va_get (D := (dC, dI)) (ci := 2) (v := .ref bo) (C := R_CO) (T := F_CO) (N := 13) hx hb hts i_CO hown hK hP 0 rfl rfl 10 (by decide) (hts _ kF_CO_26) (fun _ h9 => h9) rfl d_CO_codeHalfway_9 ?_
  refine lv_bipush (v := 127) hx hb d_CO_codeHalfway_12 (by decide) ?_
  have hPc := hP.sub (ws' := [(bo, .inr (1, [.ref bob, .int n2])), (bob, .inl (cbob, 8192, .inl f3))]) [1, 2] rfl
  have hDc := hD.sub (ws' := [(bo, .inr (1, [.ref bob, .int n2])), (bob, .inl (cbob, 8192, .inl f3))]) [1, 2] (by decide) rfl
  have hKc := hK.sub (tys' := [(cbob, .byte)]) [0] rfl
  have hFc := va_free (wc := [(bo, .inr (1, [.ref bob, .int n2])), (bob, .inl (cbob, 8192, .inl f3))]) hD hS hA [1, 2] rfl
  refine va_callv (va_runV (As := [.int 127]) (rest := []) ⟨hx, hb, hml, hown, hts⟩ (c_BR_put l dC dI bo bob H.size cbob 8192 n2 f3 (by omega) (by omega) (by omega) 127) (cwV 1 hts (gV kM_CO_76 kV_BR_put kS_BR_put kI_BR kC_BR_put) rfl rfl rfl (by decide +kernel) ⟨Nat.le_of_ble_eq_true rfl, Nat.le_of_ble_eq_true rfl⟩) ⟨fun a U g mk z => by obtain ⟨z0, z1, zP, zK, zD⟩ := z; exact ⟨z0, z1, zP, va_K.moved (u := U) (U := U.calling g mk a) (Vm.Alike.refl U.vm) zK, zD⟩, va_recv hKc hPc (ci := 1) (q0 := 0) rfl rfl, fun U hU hW => ⟨rfl, by rw [hU], by rw [hU]; exact hPc, va_K.moved hW.alike hKc, hDc.weaken (fun _ _ _ _ => trivial)⟩⟩ rfl rfl hl.1 rfl (lv_room (Nat.le_of_ble_eq_true rfl)) d_CO_codeHalfway_14 ⟨(Nat.zero_le _), (Nat.zero_le _)⟩) hS (fun q _ h => hFc q h) hFc (fun u t H1 locs ht hvm hw hB hz1 hk1 hS => ?_)
  obtain ⟨n5, f6⟩ := u
  try dsimp only at hw
  have tn5 := br_put_in (by omega) (by omega) (by omega) hw
  have bn5 := br_put_bl (by omega) (by omega) (by omega) hw
  obtain ⟨hP1, hK1, hD1⟩ := hB
  rw [ht] at hP1
  obtain ⟨hP, hD⟩ := va_join (wr := [(h0, .inr (2, [.ref pr, .ref kn, .ref lt, .int h0_localCount, .ref pe, .int h0_pendingCount, .int h0_gives, .int h0_depth, .int h0_loopDepth, .ref to, .ref bo, .ref cs, .ref se]))]) (w1 := [(bo, .inr (1, [.ref bob, .int n5])), (bob, .inl (cbob, 8192, .inl f6))]) hP hD [1, 2] [0] rfl rfl (by decide) (by decide) hk1 hFc hP1 hD1
  clear hPc hDc hKc hFc hz1 hk1 hP1 hK1 hD1
  generalize H1 = H at hP hS ⊢
  have hP : va_P (dC, dI) cls [(h0, .inr (2, [.ref pr, .ref kn, .ref lt, .int h0_localCount, .ref pe, .int h0_pendingCount, .int h0_gives, .int h0_depth, .int h0_loopDepth, .ref to, .ref bo, .ref cs, .ref se])), (bo, .inr (1, [.ref bob, .int n5])), (bob, .inl (cbob, 8192, .inl f6))] H := hP
  have hD : va_D A [(h0, .inr (2, [.ref pr, .ref kn, .ref lt, .int h0_localCount, .ref pe, .int h0_pendingCount, .int h0_gives, .int h0_depth, .int h0_loopDepth, .ref to, .ref bo, .ref cs, .ref se])), (bo, .inr (1, [.ref bob, .int n5])), (bob, .inl (cbob, 8192, .inl f6))] := hD
  refine lv_aload_n hx hb d_CO_codeHalfway_17 rfl (lv_at hl 1 rfl) ?_
  refine va_gets (C := "WaferForge$Sign") (n := "OR") (d := "LWaferForge$Sign;") (v := .ref (sg sa 36)) hx hb ((hSW.2.2.2.1.1 36 (by decide)).1) hS hown (hts _ kF_CO_221) (fun _ h9 => h9) d_CO_codeHalfway_18 ?_
  refine lv_acmp_ne (rx := some (sg sa ka)) (ry := some (sg sa 36)) (tgt := 49) hx hb d_CO_codeHalfway_21 (by decide) (fun c21 => ?_) (fun c21 => ?_)
  · have q21 : ka ≠ 36 := fun z => c21 (by rw [z])
    have hP9 := hP.sub (ws' := [(h0, .inr (2, [.ref pr, .ref kn, .ref lt, .int h0_localCount, .ref pe, .int h0_pendingCount, .int h0_gives, .int h0_depth, .int h0_loopDepth, .ref to, .ref bo, .ref cs, .ref se])), (bo, .inr (1, [.ref bob, .int n5])), (bob, .inl (cbob, 8192, .inl f6))]) [0, 1, 2] rfl
    have hD9 := hD.sub (ws' := [(h0, .inr (2, [.ref pr, .ref kn, .ref lt, .int h0_localCount, .ref pe, .int h0_pendingCount, .int h0_gives, .int h0_depth, .int h0_loopDepth, .ref to, .ref bo, .ref cs, .ref se])), (bo, .inr (1, [.ref bob, .int n5])), (bob, .inl (cbob, 8192, .inl f6))]) [0, 1, 2] (by decide) rfl
    exact W.vret hx hb hr (fun t ht hW => ⟨⟨(f6, n5), rfl, ⟨by (try dsimp only) <;> omega, ⟨fun z => absurd z q21, fun _ => ⟨by (try dsimp only) <;> omega, by (try dsimp only); rw [bn5 (by omega), bn2 (by omega), List.append_assoc]; rfl⟩⟩⟩, by rw [ht]; exact hP9, va_K.moved hW.alike hK, hD9⟩, hS.F ht⟩) hS.2.2 d_CO_codeHalfway_49
  · have q21 : ka = 36 := hSW.2.2.2.1.2 ka 36 ba0 (by decide : 36 < 55) (Option.some.inj c21)
    refine lv_aload_n hx hb d_CO_codeHalfway_24 rfl (lv_at hl 0 rfl) ?_
    refine va_get (D := (dC, dI)) (ci := 2) (v := .ref bo) (C := R_CO) (T := F_CO) (N := 13) hx hb hts i_CO hown hK hP 0 rfl rfl 10 (by decide) (hts _ kF_CO_26) (fun _ h9 => h9) rfl d_CO_codeHalfway_25 ?_
    refine lv_bipush (v := 65) hx hb d_CO_codeHalfway_28 (by decide) ?_
    have hPc := hP.sub (ws' := [(bo, .inr (1, [.ref bob, .int n5])), (bob, .inl (cbob, 8192, .inl f6))]) [1, 2] rfl
    have hDc := hD.sub (ws' := [(bo, .inr (1, [.ref bob, .int n5])), (bob, .inl (cbob, 8192, .inl f6))]) [1, 2] (by decide) rfl
    have hKc := hK.sub (tys' := [(cbob, .byte)]) [0] rfl
    have hFc := va_free (wc := [(bo, .inr (1, [.ref bob, .int n5])), (bob, .inl (cbob, 8192, .inl f6))]) hD hS hA [1, 2] rfl
    refine va_callv (va_runV (As := [.int 65]) (rest := []) ⟨hx, hb, hml, hown, hts⟩ (c_BR_put l dC dI bo bob H.size cbob 8192 n5 f6 (by omega) (by omega) (by omega) 65) (cwV 1 hts (gV kM_CO_76 kV_BR_put kS_BR_put kI_BR kC_BR_put) rfl rfl rfl (by decide +kernel) ⟨Nat.le_of_ble_eq_true rfl, Nat.le_of_ble_eq_true rfl⟩) ⟨fun a U g mk z => by obtain ⟨z0, z1, zP, zK, zD⟩ := z; exact ⟨z0, z1, zP, va_K.moved (u := U) (U := U.calling g mk a) (Vm.Alike.refl U.vm) zK, zD⟩, va_recv hKc hPc (ci := 1) (q0 := 0) rfl rfl, fun U hU hW => ⟨rfl, by rw [hU], by rw [hU]; exact hPc, va_K.moved hW.alike hKc, hDc.weaken (fun _ _ _ _ => trivial)⟩⟩ rfl rfl hl.1 rfl (lv_room (Nat.le_of_ble_eq_true rfl)) d_CO_codeHalfway_30 ⟨(Nat.zero_le _), (Nat.zero_le _)⟩) hS (fun q _ h => hFc q h) hFc (fun u t H1 locs ht hvm hw hB hz1 hk1 hS => ?_)
    obtain ⟨n8, f9⟩ := u
    try dsimp only at hw
    have tn8 := br_put_in (by omega) (by omega) (by omega) hw
    have bn8 := br_put_bl (by omega) (by omega) (by omega) hw
    obtain ⟨hP1, hK1, hD1⟩ := hB
    rw [ht] at hP1
    obtain ⟨hP, hD⟩ := va_join (wr := [(h0, .inr (2, [.ref pr, .ref kn, .ref lt, .int h0_localCount, .ref pe, .int h0_pendingCount, .int h0_gives, .int h0_depth, .int h0_loopDepth, .ref to, .ref bo, .ref cs, .ref se]))]) (w1 := [(bo, .inr (1, [.ref bob, .int n8])), (bob, .inl (cbob, 8192, .inl f9))]) hP hD [1, 2] [0] rfl rfl (by decide) (by decide) hk1 hFc hP1 hD1
    clear hPc hDc hKc hFc hz1 hk1 hP1 hK1 hD1
    generalize H1 = H at hP hS ⊢
    have hP : va_P (dC, dI) cls [(h0, .inr (2, [.ref pr, .ref kn, .ref lt, .int h0_localCount, .ref pe, .int h0_pendingCount, .int h0_gives, .int h0_depth, .int h0_loopDepth, .ref to, .ref bo, .ref cs, .ref se])), (bo, .inr (1, [.ref bob, .int n8])), (bob, .inl (cbob, 8192, .inl f9))] H := hP
    have hD : va_D A [(h0, .inr (2, [.ref pr, .ref kn, .ref lt, .int h0_localCount, .ref pe, .int h0_pendingCount, .int h0_gives, .int h0_depth, .int h0_loopDepth, .ref to, .ref bo, .ref cs, .ref se])), (bo, .inr (1, [.ref bob, .int n8])), (bob, .inl (cbob, 8192, .inl f9))] := hD
    refine lv_aload_n hx hb d_CO_codeHalfway_33 rfl (lv_at hl 0 rfl) ?_
    refine va_get (D := (dC, dI)) (ci := 2) (v := .ref bo) (C := R_CO) (T := F_CO) (N := 13) hx hb hts i_CO hown hK hP 0 rfl rfl 10 (by decide) (hts _ kF_CO_26) (fun _ h9 => h9) rfl d_CO_codeHalfway_34 ?_
    refine lv_iconst (v := 1) hx hb d_CO_codeHalfway_37 (by decide) ?_
    have hPc := hP.sub (ws' := [(bo, .inr (1, [.ref bob, .int n8])), (bob, .inl (cbob, 8192, .inl f9))]) [1, 2] rfl
    have hDc := hD.sub (ws' := [(bo, .inr (1, [.ref bob, .int n8])), (bob, .inl (cbob, 8192, .inl f9))]) [1, 2] (by decide) rfl
    have hKc := hK.sub (tys' := [(cbob, .byte)]) [0] rfl
    have hFc := va_free (wc := [(bo, .inr (1, [.ref bob, .int n8])), (bob, .inl (cbob, 8192, .inl f9))]) hD hS hA [1, 2] rfl
    refine va_callv (va_runV (As := [.int 1]) (rest := []) ⟨hx, hb, hml, hown, hts⟩ (c_BR_put l dC dI bo bob H.size cbob 8192 n8 f9 (by omega) (by omega) (by omega) 1) (cwV 1 hts (gV kM_CO_76 kV_BR_put kS_BR_put kI_BR kC_BR_put) rfl rfl rfl (by decide +kernel) ⟨Nat.le_of_ble_eq_true rfl, Nat.le_of_ble_eq_true rfl⟩) ⟨fun a U g mk z => by obtain ⟨z0, z1, zP, zK, zD⟩ := z; exact ⟨z0, z1, zP, va_K.moved (u := U) (U := U.calling g mk a) (Vm.Alike.refl U.vm) zK, zD⟩, va_recv hKc hPc (ci := 1) (q0 := 0) rfl rfl, fun U hU hW => ⟨rfl, by rw [hU], by rw [hU]; exact hPc, va_K.moved hW.alike hKc, hDc.weaken (fun _ _ _ _ => trivial)⟩⟩ rfl rfl hl.1 rfl (lv_room (Nat.le_of_ble_eq_true rfl)) d_CO_codeHalfway_38 ⟨(Nat.zero_le _), (Nat.zero_le _)⟩) hS (fun q _ h => hFc q h) hFc (fun u t H1 locs ht hvm hw hB hz1 hk1 hS => ?_)
    obtain ⟨n11, f12⟩ := u
    try dsimp only at hw
    have tn11 := br_put_in (by omega) (by omega) (by omega) hw
    have bn11 := br_put_bl (by omega) (by omega) (by omega) hw
    obtain ⟨hP1, hK1, hD1⟩ := hB
    rw [ht] at hP1
    obtain ⟨hP, hD⟩ := va_join (wr := [(h0, .inr (2, [.ref pr, .ref kn, .ref lt, .int h0_localCount, .ref pe, .int h0_pendingCount, .int h0_gives, .int h0_depth, .int h0_loopDepth, .ref to, .ref bo, .ref cs, .ref se]))]) (w1 := [(bo, .inr (1, [.ref bob, .int n11])), (bob, .inl (cbob, 8192, .inl f12))]) hP hD [1, 2] [0] rfl rfl (by decide) (by decide) hk1 hFc hP1 hD1
    clear hPc hDc hKc hFc hz1 hk1 hP1 hK1 hD1
    generalize H1 = H at hP hS ⊢
    have hP : va_P (dC, dI) cls [(h0, .inr (2, [.ref pr, .ref kn, .ref lt, .int h0_localCount, .ref pe, .int h0_pendingCount, .int h0_gives, .int h0_depth, .int h0_loopDepth, .ref to, .ref bo, .ref cs, .ref se])), (bo, .inr (1, [.ref bob, .int n11])), (bob, .inl (cbob, 8192, .inl f12))] H := hP
    have hD : va_D A [(h0, .inr (2, [.ref pr, .ref kn, .ref lt, .int h0_localCount, .ref pe, .int h0_pendingCount, .int h0_gives, .int h0_depth, .int h0_loopDepth, .ref to, .ref bo, .ref cs, .ref se])), (bo, .inr (1, [.ref bob, .int n11])), (bob, .inl (cbob, 8192, .inl f12))] := hD
    refine lv_aload_n hx hb d_CO_codeHalfway_41 rfl (lv_at hl 0 rfl) ?_
    refine va_get (D := (dC, dI)) (ci := 2) (v := .ref bo) (C := R_CO) (T := F_CO) (N := 13) hx hb hts i_CO hown hK hP 0 rfl rfl 10 (by decide) (hts _ kF_CO_26) (fun _ h9 => h9) rfl d_CO_codeHalfway_42 ?_
    refine lv_iconst (v := 5) hx hb d_CO_codeHalfway_45 (by decide) ?_
    have hPc := hP.sub (ws' := [(bo, .inr (1, [.ref bob, .int n11])), (bob, .inl (cbob, 8192, .inl f12))]) [1, 2] rfl
    have hDc := hD.sub (ws' := [(bo, .inr (1, [.ref bob, .int n11])), (bob, .inl (cbob, 8192, .inl f12))]) [1, 2] (by decide) rfl
    have hKc := hK.sub (tys' := [(cbob, .byte)]) [0] rfl
    have hFc := va_free (wc := [(bo, .inr (1, [.ref bob, .int n11])), (bob, .inl (cbob, 8192, .inl f12))]) hD hS hA [1, 2] rfl
    refine va_callv (va_runV (As := [.int 5]) (rest := []) ⟨hx, hb, hml, hown, hts⟩ (c_BR_put l dC dI bo bob H.size cbob 8192 n11 f12 (by omega) (by omega) (by omega) 5) (cwV 1 hts (gV kM_CO_76 kV_BR_put kS_BR_put kI_BR kC_BR_put) rfl rfl rfl (by decide +kernel) ⟨Nat.le_of_ble_eq_true rfl, Nat.le_of_ble_eq_true rfl⟩) ⟨fun a U g mk z => by obtain ⟨z0, z1, zP, zK, zD⟩ := z; exact ⟨z0, z1, zP, va_K.moved (u := U) (U := U.calling g mk a) (Vm.Alike.refl U.vm) zK, zD⟩, va_recv hKc hPc (ci := 1) (q0 := 0) rfl rfl, fun U hU hW => ⟨rfl, by rw [hU], by rw [hU]; exact hPc, va_K.moved hW.alike hKc, hDc.weaken (fun _ _ _ _ => trivial)⟩⟩ rfl rfl hl.1 rfl (lv_room (Nat.le_of_ble_eq_true rfl)) d_CO_codeHalfway_46 ⟨(Nat.zero_le _), (Nat.zero_le _)⟩) hS (fun q _ h => hFc q h) hFc (fun u t H1 locs ht hvm hw hB hz1 hk1 hS => ?_)
    obtain ⟨n14, f15⟩ := u
    try dsimp only at hw
    have tn14 := br_put_in (by omega) (by omega) (by omega) hw
    have bn14 := br_put_bl (by omega) (by omega) (by omega) hw
    obtain ⟨hP1, hK1, hD1⟩ := hB
    rw [ht] at hP1
    obtain ⟨hP, hD⟩ := va_join (wr := [(h0, .inr (2, [.ref pr, .ref kn, .ref lt, .int h0_localCount, .ref pe, .int h0_pendingCount, .int h0_gives, .int h0_depth, .int h0_loopDepth, .ref to, .ref bo, .ref cs, .ref se]))]) (w1 := [(bo, .inr (1, [.ref bob, .int n14])), (bob, .inl (cbob, 8192, .inl f15))]) hP hD [1, 2] [0] rfl rfl (by decide) (by decide) hk1 hFc hP1 hD1
    clear hPc hDc hKc hFc hz1 hk1 hP1 hK1 hD1
    generalize H1 = H at hP hS ⊢
    have hP : va_P (dC, dI) cls [(h0, .inr (2, [.ref pr, .ref kn, .ref lt, .int h0_localCount, .ref pe, .int h0_pendingCount, .int h0_gives, .int h0_depth, .int h0_loopDepth, .ref to, .ref bo, .ref cs, .ref se])), (bo, .inr (1, [.ref bob, .int n14])), (bob, .inl (cbob, 8192, .inl f15))] H := hP
    have hD : va_D A [(h0, .inr (2, [.ref pr, .ref kn, .ref lt, .int h0_localCount, .ref pe, .int h0_pendingCount, .int h0_gives, .int h0_depth, .int h0_loopDepth, .ref to, .ref bo, .ref cs, .ref se])), (bo, .inr (1, [.ref bob, .int n14])), (bob, .inl (cbob, 8192, .inl f15))] := hD
    have hP9 := hP.sub (ws' := [(h0, .inr (2, [.ref pr, .ref kn, .ref lt, .int h0_localCount, .ref pe, .int h0_pendingCount, .int h0_gives, .int h0_depth, .int h0_loopDepth, .ref to, .ref bo, .ref cs, .ref se])), (bo, .inr (1, [.ref bob, .int n14])), (bob, .inl (cbob, 8192, .inl f15))]) [0, 1, 2] rfl
    have hD9 := hD.sub (ws' := [(h0, .inr (2, [.ref pr, .ref kn, .ref lt, .int h0_localCount, .ref pe, .int h0_pendingCount, .int h0_gives, .int h0_depth, .int h0_loopDepth, .ref to, .ref bo, .ref cs, .ref se])), (bo, .inr (1, [.ref bob, .int n14])), (bob, .inl (cbob, 8192, .inl f15))]) [0, 1, 2] (by decide) rfl
    exact W.vret hx hb hr (fun t ht hW => ⟨⟨(f15, n14), rfl, ⟨by (try dsimp only) <;> omega, ⟨fun _ => ⟨by (try dsimp only) <;> omega, by (try dsimp only); rw [bn14 (by omega), bn11 (by omega), bn8 (by omega), bn5 (by omega), bn2 (by omega), List.append_assoc, List.append_assoc, List.append_assoc, List.append_assoc]; rfl⟩, fun z => absurd q21 z⟩⟩, by rw [ht]; exact hP9, va_K.moved hW.alike hK, hD9⟩, hS.F ht⟩) hS.2.2 d_CO_codeHalfway_49

/-! Scanner: a sign, all signs -/
theorem tkT_n {k : Nat} {z v : Int} (h1 : 1 ≤ z) (h : k = 1 ∨ (k = 2 ∧ z ≤ 20) ∨ (5 ≤ k ∧ z = (sgB.getD k []).length)) : tkT k z v :=
  ⟨fun _ _ => h1, fun e => by omega, fun e => by omega, fun e => by omega, fun e => by omega⟩
theorem tkT_i {k : Nat} {z v : Int} (h : k = 1 ∨ (k = 3 ∧ 1 ≤ z ∧ 0 ≤ v ∧ v < pt z ∧ v ≤ 2147483647) ∨ (k = 4 ∧ 2 ≤ z ∧ 0 ≤ v ∧ v < pt (z - 1))) : tkT k z v :=
  ⟨fun _ _ => by omega, fun e => by omega, fun e => by omega, fun e => by omega, fun e => by omega⟩
theorem tkT_m {k : Nat} {z v : Int} (hk : k < 55) (h : (k = 1 ∧ z = 0) ∨ (5 ≤ k ∧ z = (sgB.getD k []).length)) : tkT k z v := by
  have q := sgB_len k hk
  exact ⟨fun _ _ => by omega, fun e => by omega, fun e => by omega, fun e => by omega, fun e => by omega⟩
theorem tkT_0 {z v : Int} : tkT 0 z v := ⟨fun e => absurd rfl e, fun e => by omega, fun e => by omega, fun e => by omega, fun e => by omega⟩
abbrev b_SC_readSign : ByteArray := prog_10_method_7_code
def y_SC_readSign : MethodName := ⟨R_SC, "readSign", "()V"⟩
abbrev w_SC_readSign : List Cond := .code y_SC_readSign b_SC_readSign 2 none :: lw_g
theorem kC_SC_readSign : Cond.code y_SC_readSign b_SC_readSign 2 none ∈ lw_g := in_g 790 (by decide +kernel) rfl
theorem d_SC_readSign_0 : decode b_SC_readSign 0 = .ok (.aload_n 0, 1) := by decide +kernel
theorem d_SC_readSign_1 : decode b_SC_readSign 1 = .ok (.getfield 35, 3) := by decide +kernel
theorem d_SC_readSign_4 : decode b_SC_readSign 4 = .ok (.aload_n 0, 1) := by decide +kernel
theorem d_SC_readSign_5 : decode b_SC_readSign 5 = .ok (.getfield 39, 3) := by decide +kernel
theorem d_SC_readSign_8 : decode b_SC_readSign 8 = .ok (.invokevirtual 80, 3) := by decide +kernel
theorem d_SC_readSign_11 : decode b_SC_readSign 11 = .ok (.istore_n 1, 1) := by decide +kernel
theorem d_SC_readSign_12 : decode b_SC_readSign 12 = .ok (.iload_n 1, 1) := by decide +kernel
theorem d_SC_readSign_13 : decode b_SC_readSign 13 = .ok (.ifCond .ge 18, 3) := by decide +kernel
theorem d_SC_readSign_16 : decode b_SC_readSign 16 = .ok (.aload_n 0, 1) := by decide +kernel
theorem d_SC_readSign_17 : decode b_SC_readSign 17 = .ok (.getstatic 9, 3) := by decide +kernel
theorem d_SC_readSign_20 : decode b_SC_readSign 20 = .ok (.putfield 15, 3) := by decide +kernel
theorem d_SC_readSign_23 : decode b_SC_readSign 23 = .ok (.aload_n 0, 1) := by decide +kernel
theorem d_SC_readSign_24 : decode b_SC_readSign 24 = .ok (.iconst 0, 1) := by decide +kernel
theorem d_SC_readSign_25 : decode b_SC_readSign 25 = .ok (.putfield 43, 3) := by decide +kernel
theorem d_SC_readSign_28 : decode b_SC_readSign 28 = .ok (.goto 35, 3) := by decide +kernel
theorem d_SC_readSign_31 : decode b_SC_readSign 31 = .ok (.iload_n 1, 1) := by decide +kernel
theorem d_SC_readSign_32 : decode b_SC_readSign 32 = .ok (.invokestatic 83, 3) := by decide +kernel
theorem d_SC_readSign_35 : decode b_SC_readSign 35 = .ok (.ifCond .eq 10, 3) := by decide +kernel
theorem d_SC_readSign_38 : decode b_SC_readSign 38 = .ok (.aload_n 0, 1) := by decide +kernel
theorem d_SC_readSign_39 : decode b_SC_readSign 39 = .ok (.invokevirtual 87, 3) := by decide +kernel
theorem d_SC_readSign_42 : decode b_SC_readSign 42 = .ok (.goto 21, 3) := by decide +kernel
theorem d_SC_readSign_45 : decode b_SC_readSign 45 = .ok (.iload_n 1, 1) := by decide +kernel
theorem d_SC_readSign_46 : decode b_SC_readSign 46 = .ok (.invokestatic 90, 3) := by decide +kernel
theorem d_SC_readSign_49 : decode b_SC_readSign 49 = .ok (.ifCond .eq 10, 3) := by decide +kernel
theorem d_SC_readSign_52 : decode b_SC_readSign 52 = .ok (.aload_n 0, 1) := by decide +kernel
theorem d_SC_readSign_53 : decode b_SC_readSign 53 = .ok (.invokevirtual 93, 3) := by decide +kernel
theorem d_SC_readSign_56 : decode b_SC_readSign 56 = .ok (.goto 7, 3) := by decide +kernel
theorem d_SC_readSign_59 : decode b_SC_readSign 59 = .ok (.aload_n 0, 1) := by decide +kernel
theorem d_SC_readSign_60 : decode b_SC_readSign 60 = .ok (.invokevirtual 96, 3) := by decide +kernel
theorem d_SC_readSign_63 : decode b_SC_readSign 63 = .ok (.return_, 1) := by decide +kernel
theorem kM_SC_87 : Cond.methodLink R_SC 87 y_SC_readName ∈ lw_g := in_g 794 (by decide +kernel) rfl
theorem kV_SC_readName : Cond.instanceMethod y_SC_readName ∈ lw_g := in_g 796 (by decide +kernel) rfl
theorem kS_SC_readName : Cond.selects R_SC y_SC_readName y_SC_readName ∈ lw_g := in_s 4 (by decide +kernel) rfl
theorem kM_SC_93 : Cond.methodLink R_SC 93 y_SC_readInteger ∈ lw_g := in_g 860 (by decide +kernel) rfl
theorem kV_SC_readInteger : Cond.instanceMethod y_SC_readInteger ∈ lw_g := in_g 862 (by decide +kernel) rfl
theorem kS_SC_readInteger : Cond.selects R_SC y_SC_readInteger y_SC_readInteger ∈ lw_g := in_s 5 (by decide +kernel) rfl
theorem kM_SC_96 : Cond.methodLink R_SC 96 y_SC_readMark ∈ lw_g := in_g 871 (by decide +kernel) rfl
theorem kV_SC_readMark : Cond.instanceMethod y_SC_readMark ∈ lw_g := in_g 873 (by decide +kernel) rfl
theorem kS_SC_readMark : Cond.selects R_SC y_SC_readMark y_SC_readMark ∈ lw_g := in_s 6 (by decide +kernel) rfl
theorem kF_SC_9 : Cond.fieldLink R_SC 9 "WaferForge$Sign" "END" "LWaferForge$Sign;" ∈ lw_g := in_g 260 (by decide +kernel) rfl
abbrev at_SC_readSign (dC : Nat → ClassId) (dI : Nat → Nat → Nat) (sa : Nat → Nat) (h0 tr ss sp szs sv tx : Nat) (ctx : ClassId) (h0_place : Int32) (h0_length : Int32) (h0_at : Int32) (tr_length : Int32) (gtx : Nat → Int32) (A : Nat → Prop) (u : Nat × Int32 × Int64) (t : State) : Prop := match u with | (h0_sign, h0_size, h0_value) => va_P (dC, dI) cls [(h0, .inr (8, [.ref tr, .ref (sg sa h0_sign), .int h0_place, .int h0_size, .long h0_value, .ref ss, .ref sp, .ref szs, .ref sv, .int h0_length, .int h0_at])), (tr, .inr (1, [.ref tx, .int tr_length])), (tx, .inl (ctx, 2000, .inl gtx))] t.heap ∧ va_K (dC, dI) cls [(ctx, .byte)] t ∧ va_D A [(h0, .inr (8, [.ref tr, .ref (sg sa h0_sign), .int h0_place, .int h0_size, .long h0_value, .ref ss, .ref sp, .ref szs, .ref sv, .int h0_length, .int h0_at])), (tr, .inr (1, [.ref tx, .int tr_length])), (tx, .inl (ctx, 2000, .inl gtx))]
set_option maxHeartbeats 4000000 in
set_option maxRecDepth 100000 in
theorem c_SC_readSign (l : Launch) (dC : Nat → ClassId) (dI : Nat → Nat → Nat) (sz : Nat) (sa : Nat → Nat) (h0 tr ss sp szs sv tx : Nat) (ctx : ClassId) (h0_sign : Nat) (h0_place : Int32) (h0_size : Int32) (h0_value : Int64) (h0_length : Int32) (h0_at : Int32) (tr_length : Int32) (gtx : Nat → Int32)  (b_h0_sign : h0_sign < 55) (b_h0_place : 0 ≤ h0_place.toInt ∧ h0_place.toInt ≤ 2000) (b_h0_size : 0 ≤ h0_size.toInt ∧ h0_size.toInt ≤ 2000) (b_tr_length : 0 ≤ tr_length.toInt ∧ tr_length.toInt ≤ 2000)   (hpl : h0_place.toInt ≤ tr_length.toInt) : Met l y_SC_readSign w_SC_readSign ({ frames := 6, cells := 0, slots := 0, locals := 129 }) (va_Pc [.ref h0] (fun U => U.heap.size = sz ∧ va_P (dC, dI) cls [(h0, .inr (8, [.ref tr, .ref (sg sa h0_sign), .int h0_place, .int h0_size, .long h0_value, .ref ss, .ref sp, .ref szs, .ref sv, .int h0_length, .int h0_at])), (tr, .inr (1, [.ref tx, .int tr_length])), (tx, .inl (ctx, 2000, .inl gtx))] U.heap ∧ va_K (dC, dI) cls [(ctx, .byte)] U ∧ va_D (fun _ => True) [(h0, .inr (8, [.ref tr, .ref (sg sa h0_sign), .int h0_place, .int h0_size, .long h0_value, .ref ss, .ref sp, .ref szs, .ref sv, .int h0_length, .int h0_at])), (tr, .inr (1, [.ref tx, .int tr_length])), (tx, .inl (ctx, 2000, .inl gtx))] ∧ sw sa (va_A [(h0, .inr (8, [.ref tr, .ref (sg sa h0_sign), .int h0_place, .int h0_size, .long h0_value, .ref ss, .ref sp, .ref szs, .ref sv, .int h0_length, .int h0_at])), (tr, .inr (1, [.ref tx, .int tr_length])), (tx, .inl (ctx, 2000, .inl gtx))] sz) U U.heap)) (va_Qv (fun (u : Nat × Int32 × Int64) => match u with | (h0_sign2, h0_size2, h0_value2) => (h0_sign2 < 55) ∧ (0 ≤ h0_size2.toInt ∧ h0_size2.toInt ≤ 2000) ∧ ((h0_place.toInt + h0_size2.toInt ≤ tr_length.toInt) ∧ (tkT h0_sign2 h0_size2.toInt h0_value2.toInt))) (at_SC_readSign dC dI sa h0 tr ss sp szs sv tx ctx h0_place h0_length h0_at tr_length gtx (va_A [(h0, .inr (8, [.ref tr, .ref (sg sa h0_sign), .int h0_place, .int h0_size, .long h0_value, .ref ss, .ref sp, .ref szs, .ref sv, .int h0_length, .int h0_at])), (tr, .inr (1, [.ref tx, .int tr_length])), (tx, .inl (ctx, 2000, .inl gtx))] sz)) (va_A [(h0, .inr (8, [.ref tr, .ref (sg sa h0_sign), .int h0_place, .int h0_size, .long h0_value, .ref ss, .ref sp, .ref szs, .ref sv, .int h0_length, .int h0_at])), (tr, .inr (1, [.ref tx, .int tr_length])), (tx, .inl (ctx, 2000, .inl gtx))] sz)) 0 0 (va_A [(h0, .inr (8, [.ref tr, .ref (sg sa h0_sign), .int h0_place, .int h0_size, .long h0_value, .ref ss, .ref sp, .ref szs, .ref sv, .int h0_length, .int h0_at])), (tr, .inr (1, [.ref tx, .int tr_length])), (tx, .inl (ctx, 2000, .inl gtx))] sz) := by
  refine Met.ofW (cc := b_SC_readSign) (maxL := 2) (ret := none) (by decide) rfl ?_
  intro p e s m args below meth c s₁ B hml hv
  obtain ⟨rfl, hsz, hP, hK, hD0, hSW⟩ := hv
  have hx := B.exec
  have hb := B.bytes
  have hr := B.returns
  have hts0 := atoms_spec (ws := w_SC_readSign) B.pre
  have hts : ∀ w ∈ lw_g, w.before _ s = true := fun w h => hts0 w (List.mem_cons_of_mem _ h)
  have hown : s.vm.findClass R_SC = some m.cls := findClass_of_methodNamed B.named
  have hlocks := B.notSynchronized
  clear hts0
  subst hsz
  have hD := hD0.self (sz := s.heap.size)
  generalize hAe : va_A [(h0, .inr (8, [.ref tr, .ref (sg sa h0_sign), .int h0_place, .int h0_size, .long h0_value, .ref ss, .ref sp, .ref szs, .ref sv, .int h0_length, .int h0_at])), (tr, .inr (1, [.ref tx, .int tr_length])), (tx, .inl (ctx, 2000, .inl gtx))] s.heap.size = A at hD hSW ⊢
  have hA : ∀ q : Nat, s.heap.size ≤ q → A q := fun q h => by rw [← hAe]; exact Or.inr h
  clear hAe
  have hP : va_P (dC, dI) cls [(h0, .inr (8, [.ref tr, .ref (sg sa h0_sign), .int h0_place, .int h0_size, .long h0_value, .ref ss, .ref sp, .ref szs, .ref sv, .int h0_length, .int h0_at])), (tr, .inr (1, [.ref tx, .int tr_length])), (tx, .inl (ctx, 2000, .inl gtx))] s.heap := hP
  have hl := lv_entry ([.ref h0]) (n := 2) (Nat.le_of_ble_eq_true rfl)
  rw [lg_entry_eq]
  generalize (lg_sl ([.ref h0]) ++ List.replicate (2 - (lg_sl ([.ref h0])).length) Slot.unset).toArray = ls at hl ⊢
  have hl : lv_has ls 2 [(0, .ref h0)] := hl
  have k0 : (0 : Int32).toInt = 0 := by decide
  refine w_gen (A := A) hP (fun H locs hP hS => ?_)
  refine lv_aload_n hx hb d_SC_readSign_0 rfl (lv_at hl 0 rfl) ?_
  refine va_get (D := (dC, dI)) (ci := 8) (v := .ref tr) (C := R_SC) (T := F_SC) (N := 11) hx hb hts i_SC hown hK hP 0 rfl rfl 0 (by decide) (hts _ kF_SC_35) (fun _ h9 => h9) rfl d_SC_readSign_1 ?_
  refine lv_aload_n hx hb d_SC_readSign_4 rfl (lv_at hl 0 rfl) ?_
  refine va_get (D := (dC, dI)) (ci := 8) (v := .int h0_place) (C := R_SC) (T := F_SC) (N := 11) hx hb hts i_SC hown hK hP 0 rfl rfl 2 (by decide) (hts _ kF_SC_39) (fun _ h9 => h9) rfl d_SC_readSign_5 ?_
  have hPc := hP.sub (ws' := [(tr, .inr (1, [.ref tx, .int tr_length])), (tx, .inl (ctx, 2000, .inl gtx))]) [1, 2] rfl
  have hDc := hD.sub (ws' := [(tr, .inr (1, [.ref tx, .int tr_length])), (tx, .inl (ctx, 2000, .inl gtx))]) [1, 2] (by decide) rfl
  have hKc := hK.sub (tys' := [(ctx, .byte)]) [0] rfl
  have hFc := va_free (wc := [(tr, .inr (1, [.ref tx, .int tr_length])), (tx, .inl (ctx, 2000, .inl gtx))]) hD hS hA [1, 2] rfl
  refine va_calli (va_runV (As := [.int h0_place]) (rest := []) ⟨hx, hb, hml, hown, hts⟩ (c_BR_at l dC dI tr tx H.size ctx 2000 tr_length gtx (by omega) (by omega) (by omega) h0_place) (cwV 1 hts (gV kM_SC_80 kV_BR_at kS_BR_at kI_BR kC_BR_at) rfl rfl rfl (by decide +kernel) ⟨Nat.le_of_ble_eq_true rfl, Nat.le_of_ble_eq_true rfl⟩) ⟨fun a U g mk z => by obtain ⟨z0, z1, zP, zK, zD⟩ := z; exact ⟨z0, z1, zP, va_K.moved (u := U) (U := U.calling g mk a) (Vm.Alike.refl U.vm) zK, zD⟩, va_recv hKc hPc (ci := 1) (q0 := 0) rfl rfl, fun U hU hW => ⟨rfl, by rw [hU], by rw [hU]; exact hPc, va_K.moved hW.alike hKc, hDc.weaken (fun _ _ _ _ => trivial)⟩⟩ rfl rfl hl.1 rfl (lv_room (Nat.le_of_ble_eq_true rfl)) d_SC_readSign_8 ⟨(Nat.zero_le _), (Nat.zero_le _)⟩) hS (fun q _ h => hFc q h) hFc (fun r1 u t H1 locs ht hvm hw hB hz1 hk1 hS => ?_)
  obtain ⟨er1, rfl⟩ := hw
  have tr1 := br_get_in gtx tr_length h0_place
  rw [← er1] at tr1
  obtain ⟨hP1, hK1, hD1⟩ := hB
  rw [ht] at hP1
  obtain ⟨hP, hD⟩ := va_join (wr := [(h0, .inr (8, [.ref tr, .ref (sg sa h0_sign), .int h0_place, .int h0_size, .long h0_value, .ref ss, .ref sp, .ref szs, .ref sv, .int h0_length, .int h0_at]))]) (w1 := [(tr, .inr (1, [.ref tx, .int tr_length])), (tx, .inl (ctx, 2000, .inl gtx))]) hP hD [1, 2] [0] rfl rfl (by decide) (by decide) hk1 hFc hP1 hD1
  clear hPc hDc hKc hFc hz1 hk1 hP1 hK1 hD1
  generalize H1 = H at hP hS ⊢
  have hP : va_P (dC, dI) cls [(h0, .inr (8, [.ref tr, .ref (sg sa h0_sign), .int h0_place, .int h0_size, .long h0_value, .ref ss, .ref sp, .ref szs, .ref sv, .int h0_length, .int h0_at])), (tr, .inr (1, [.ref tx, .int tr_length])), (tx, .inl (ctx, 2000, .inl gtx))] H := hP
  have hD : va_D A [(h0, .inr (8, [.ref tr, .ref (sg sa h0_sign), .int h0_place, .int h0_size, .long h0_value, .ref ss, .ref sp, .ref szs, .ref sv, .int h0_length, .int h0_at])), (tr, .inr (1, [.ref tx, .int tr_length])), (tx, .inl (ctx, 2000, .inl gtx))] := hD
  refine lv_istore_n (lv' := [(1, .int r1), (0, .ref h0)]) hx hb d_SC_readSign_11 rfl hl (by decide) rfl (fun ls hl => ?_)
  refine lv_iload_n hx hb d_SC_readSign_12 rfl (lv_at hl 0 rfl) ?_
  refine lv_if_ge (tgt := 31) hx hb d_SC_readSign_13 (by decide) (fun c13 => ?_) (fun c13 => ?_)
  · have q13 := leI c13
    have z31 := br_get_lt er1 (by omega)
    refine lv_iload_n hx hb d_SC_readSign_31 rfl (lv_at hl 0 rfl) ?_
    have hPc := hP.sub (ws' := []) [] rfl
    have hDc := hD.sub (ws' := []) [] (by decide) rfl
    have hKc := hK.sub (tys' := []) [] rfl
    have hFc := va_free (wc := []) hD hS hA [] rfl
    refine va_calli (va_runS (As := [.int r1]) (rest := []) ⟨hx, hb, hml, hown, hts⟩ (c_SC_isLetter l dC dI H.size r1) ⟨callB_of 1 hts (gW kC_SC_isLetter) rfl rfl rfl (hts _ kI_SC) (hts _ kM_SC_83) (by decide +kernel) ⟨Nat.le_of_ble_eq_true rfl, Nat.le_of_ble_eq_true rfl⟩, hts _ kT_SC_isLetter⟩ ⟨fun a U g mk z => by obtain ⟨z0, z1, zP, zK, zD⟩ := z; exact ⟨z0, z1, zP, va_K.moved (u := U) (U := U.calling g mk a) (Vm.Alike.refl U.vm) zK, zD⟩, fun U hU hW => ⟨rfl, by rw [hU], by rw [hU]; exact hPc, va_K.moved hW.alike hKc, hDc.weaken (fun _ _ _ _ => trivial)⟩⟩ rfl rfl hl.1 rfl (lv_room (Nat.le_of_ble_eq_true rfl)) d_SC_readSign_32 ⟨(Nat.zero_le _), (Nat.zero_le _)⟩) hS (fun q _ h => hFc q h) hFc (fun r2 u t H1 locs ht hvm hw hB hz1 hk1 hS => ?_)
    try dsimp only at hw
    have br2 := hw
    try clear hw
    have tr2 := b01 br2
    obtain ⟨hP1, hK1, hD1⟩ := hB
    rw [ht] at hP1
    obtain ⟨hP, hD⟩ := va_join (wr := [(h0, .inr (8, [.ref tr, .ref (sg sa h0_sign), .int h0_place, .int h0_size, .long h0_value, .ref ss, .ref sp, .ref szs, .ref sv, .int h0_length, .int h0_at])), (tr, .inr (1, [.ref tx, .int tr_length])), (tx, .inl (ctx, 2000, .inl gtx))]) (w1 := []) hP hD [] [0, 1, 2] rfl rfl (by decide) (by decide) hk1 hFc hP1 hD1
    clear hPc hDc hKc hFc hz1 hk1 hP1 hK1 hD1
    generalize H1 = H at hP hS ⊢
    have hP : va_P (dC, dI) cls [(h0, .inr (8, [.ref tr, .ref (sg sa h0_sign), .int h0_place, .int h0_size, .long h0_value, .ref ss, .ref sp, .ref szs, .ref sv, .int h0_length, .int h0_at])), (tr, .inr (1, [.ref tx, .int tr_length])), (tx, .inl (ctx, 2000, .inl gtx))] H := hP
    have hD : va_D A [(h0, .inr (8, [.ref tr, .ref (sg sa h0_sign), .int h0_place, .int h0_size, .long h0_value, .ref ss, .ref sp, .ref szs, .ref sv, .int h0_length, .int h0_at])), (tr, .inr (1, [.ref tx, .int tr_length])), (tx, .inl (ctx, 2000, .inl gtx))] := hD
    refine lv_if_eq (tgt := 45) hx hb d_SC_readSign_35 (by decide) (fun c35 => ?_) (fun c35 => ?_)
    · have q35 := eqI c35
      refine lv_iload_n hx hb d_SC_readSign_45 rfl (lv_at hl 0 rfl) ?_
      have hPc := hP.sub (ws' := []) [] rfl
      have hDc := hD.sub (ws' := []) [] (by decide) rfl
      have hKc := hK.sub (tys' := []) [] rfl
      have hFc := va_free (wc := []) hD hS hA [] rfl
      refine va_calli (va_runS (As := [.int r1]) (rest := []) ⟨hx, hb, hml, hown, hts⟩ (c_SC_isDigit l dC dI H.size r1) ⟨callB_of 1 hts (gW kC_SC_isDigit) rfl rfl rfl (hts _ kI_SC) (hts _ kM_SC_90) (by decide +kernel) ⟨Nat.le_of_ble_eq_true rfl, Nat.le_of_ble_eq_true rfl⟩, hts _ kT_SC_isDigit⟩ ⟨fun a U g mk z => by obtain ⟨z0, z1, zP, zK, zD⟩ := z; exact ⟨z0, z1, zP, va_K.moved (u := U) (U := U.calling g mk a) (Vm.Alike.refl U.vm) zK, zD⟩, fun U hU hW => ⟨rfl, by rw [hU], by rw [hU]; exact hPc, va_K.moved hW.alike hKc, hDc.weaken (fun _ _ _ _ => trivial)⟩⟩ rfl rfl hl.1 rfl (lv_room (Nat.le_of_ble_eq_true rfl)) d_SC_readSign_46 ⟨(Nat.zero_le _), (Nat.zero_le _)⟩) hS (fun q _ h => hFc q h) hFc (fun r3 u t H1 locs ht hvm hw hB hz1 hk1 hS => ?_)
      try dsimp only at hw
      obtain ⟨br3, xr3⟩ := hw
      try clear hw
      have tr3 := b01 br3
      obtain ⟨hP1, hK1, hD1⟩ := hB
      rw [ht] at hP1
      obtain ⟨hP, hD⟩ := va_join (wr := [(h0, .inr (8, [.ref tr, .ref (sg sa h0_sign), .int h0_place, .int h0_size, .long h0_value, .ref ss, .ref sp, .ref szs, .ref sv, .int h0_length, .int h0_at])), (tr, .inr (1, [.ref tx, .int tr_length])), (tx, .inl (ctx, 2000, .inl gtx))]) (w1 := []) hP hD [] [0, 1, 2] rfl rfl (by decide) (by decide) hk1 hFc hP1 hD1
      clear hPc hDc hKc hFc hz1 hk1 hP1 hK1 hD1
      generalize H1 = H at hP hS ⊢
      have hP : va_P (dC, dI) cls [(h0, .inr (8, [.ref tr, .ref (sg sa h0_sign), .int h0_place, .int h0_size, .long h0_value, .ref ss, .ref sp, .ref szs, .ref sv, .int h0_length, .int h0_at])), (tr, .inr (1, [.ref tx, .int tr_length])), (tx, .inl (ctx, 2000, .inl gtx))] H := hP
      have hD : va_D A [(h0, .inr (8, [.ref tr, .ref (sg sa h0_sign), .int h0_place, .int h0_size, .long h0_value, .ref ss, .ref sp, .ref szs, .ref sv, .int h0_length, .int h0_at])), (tr, .inr (1, [.ref tx, .int tr_length])), (tx, .inl (ctx, 2000, .inl gtx))] := hD
      refine lv_if_eq (tgt := 59) hx hb d_SC_readSign_49 (by decide) (fun c49 => ?_) (fun c49 => ?_)
      · have q49 := eqI c49
        refine lv_aload_n hx hb d_SC_readSign_59 rfl (lv_at hl 1 rfl) ?_
        have hPc := hP.sub (ws' := [(h0, .inr (8, [.ref tr, .ref (sg sa h0_sign), .int h0_place, .int h0_size, .long h0_value, .ref ss, .ref sp, .ref szs, .ref sv, .int h0_length, .int h0_at])), (tr, .inr (1, [.ref tx, .int tr_length])), (tx, .inl (ctx, 2000, .inl gtx))]) [0, 1, 2] rfl
        have hDc := hD.sub (ws' := [(h0, .inr (8, [.ref tr, .ref (sg sa h0_sign), .int h0_place, .int h0_size, .long h0_value, .ref ss, .ref sp, .ref szs, .ref sv, .int h0_length, .int h0_at])), (tr, .inr (1, [.ref tx, .int tr_length])), (tx, .inl (ctx, 2000, .inl gtx))]) [0, 1, 2] (by decide) rfl
        have hKc := hK.sub (tys' := [(ctx, .byte)]) [0] rfl
        have hFc := va_free (wc := [(h0, .inr (8, [.ref tr, .ref (sg sa h0_sign), .int h0_place, .int h0_size, .long h0_value, .ref ss, .ref sp, .ref szs, .ref sv, .int h0_length, .int h0_at])), (tr, .inr (1, [.ref tx, .int tr_length])), (tx, .inl (ctx, 2000, .inl gtx))]) hD hS hA [0, 1, 2] rfl
        refine va_callv (va_runV (As := []) (rest := []) ⟨hx, hb, hml, hown, hts⟩ (c_SC_readMark l dC dI H.size sa h0 tr ss sp szs sv tx ctx h0_sign h0_place h0_size h0_value h0_length h0_at tr_length gtx (b_h0_sign) (b_h0_place) (b_h0_size) (b_tr_length) (by omega)) (cwV 0 hts (gV kM_SC_96 kV_SC_readMark kS_SC_readMark kI_SC kC_SC_readMark) rfl rfl rfl (by decide +kernel) ⟨Nat.le_of_ble_eq_true rfl, Nat.le_of_ble_eq_true rfl⟩) ⟨fun a U g mk z => by obtain ⟨z0, z1, zP, zK, zD, zS⟩ := z; exact ⟨z0, z1, zP, va_K.moved (u := U) (U := U.calling g mk a) (Vm.Alike.refl U.vm) zK, zD, sw.same (u := U) (U := U.calling g mk a) rfl zS⟩, va_recv hKc hPc (ci := 8) (q0 := 0) rfl rfl, fun U hU hW => ⟨rfl, by rw [hU], by rw [hU]; exact hPc, va_K.moved hW.alike hKc, hDc.weaken (fun _ _ _ _ => trivial), hSW.call hS hFc hW hU⟩⟩ rfl rfl hl.1 rfl (lv_room (Nat.le_of_ble_eq_true rfl)) d_SC_readSign_60 ⟨(Nat.zero_le _), (Nat.zero_le _)⟩) hS (fun q _ h => hFc q h) hFc (fun u t H1 locs ht hvm hw hB hz1 hk1 hS => ?_)
        obtain ⟨n5, n6⟩ := u
        try dsimp only at hw
        obtain ⟨bn5, bn6, xr4⟩ := hw
        try clear hw
        obtain ⟨hP1, hK1, hD1⟩ := hB
        rw [ht] at hP1
        obtain ⟨hP, hD⟩ := va_join (wr := []) (w1 := [(h0, .inr (8, [.ref tr, .ref (sg sa n5), .int h0_place, .int n6, .long h0_value, .ref ss, .ref sp, .ref szs, .ref sv, .int h0_length, .int h0_at])), (tr, .inr (1, [.ref tx, .int tr_length])), (tx, .inl (ctx, 2000, .inl gtx))]) hP hD [0, 1, 2] [] rfl rfl (by decide) (by decide) hk1 hFc hP1 hD1
        clear hPc hDc hKc hFc hz1 hk1 hP1 hK1 hD1
        generalize H1 = H at hP hS ⊢
        have hP : va_P (dC, dI) cls [(h0, .inr (8, [.ref tr, .ref (sg sa n5), .int h0_place, .int n6, .long h0_value, .ref ss, .ref sp, .ref szs, .ref sv, .int h0_length, .int h0_at])), (tr, .inr (1, [.ref tx, .int tr_length])), (tx, .inl (ctx, 2000, .inl gtx))] H := hP
        have hD : va_D A [(h0, .inr (8, [.ref tr, .ref (sg sa n5), .int h0_place, .int n6, .long h0_value, .ref ss, .ref sp, .ref szs, .ref sv, .int h0_length, .int h0_at])), (tr, .inr (1, [.ref tx, .int tr_length])), (tx, .inl (ctx, 2000, .inl gtx))] := hD
        have hP9 := hP.sub (ws' := [(h0, .inr (8, [.ref tr, .ref (sg sa n5), .int h0_place, .int n6, .long h0_value, .ref ss, .ref sp, .ref szs, .ref sv, .int h0_length, .int h0_at])), (tr, .inr (1, [.ref tx, .int tr_length])), (tx, .inl (ctx, 2000, .inl gtx))]) [0, 1, 2] rfl
        have hD9 := hD.sub (ws' := [(h0, .inr (8, [.ref tr, .ref (sg sa n5), .int h0_place, .int n6, .long h0_value, .ref ss, .ref sp, .ref szs, .ref sv, .int h0_length, .int h0_at])), (tr, .inr (1, [.ref tx, .int tr_length])), (tx, .inl (ctx, 2000, .inl gtx))]) [0, 1, 2] (by decide) rfl
        exact W.vret hx hb hr (fun t ht hW => ⟨⟨(n5, n6, h0_value), rfl, ⟨bn5, bn6, ⟨by (try dsimp only); omega, tkT_m bn5 (by rcases xr4 with z | z; exact Or.inl z; exact Or.inr ⟨z.1, z.2.1⟩)⟩⟩, by rw [ht]; exact hP9, va_K.moved hW.alike hK, hD9⟩, hS.F ht⟩) hS.2.2 d_SC_readSign_63
      · have q49 := neI c49
        have dg := xr3.1 (by rcases br3 with z7 | z7; (exfalso; rw [z7] at q49; exact q49 rfl); exact z7)
        rw [er1] at dg
        refine lv_aload_n hx hb d_SC_readSign_52 rfl (lv_at hl 1 rfl) ?_
        have hPc := hP.sub (ws' := [(h0, .inr (8, [.ref tr, .ref (sg sa h0_sign), .int h0_place, .int h0_size, .long h0_value, .ref ss, .ref sp, .ref szs, .ref sv, .int h0_length, .int h0_at])), (tr, .inr (1, [.ref tx, .int tr_length])), (tx, .inl (ctx, 2000, .inl gtx))]) [0, 1, 2] rfl
        have hDc := hD.sub (ws' := [(h0, .inr (8, [.ref tr, .ref (sg sa h0_sign), .int h0_place, .int h0_size, .long h0_value, .ref ss, .ref sp, .ref szs, .ref sv, .int h0_length, .int h0_at])), (tr, .inr (1, [.ref tx, .int tr_length])), (tx, .inl (ctx, 2000, .inl gtx))]) [0, 1, 2] (by decide) rfl
        have hKc := hK.sub (tys' := [(ctx, .byte)]) [0] rfl
        have hFc := va_free (wc := [(h0, .inr (8, [.ref tr, .ref (sg sa h0_sign), .int h0_place, .int h0_size, .long h0_value, .ref ss, .ref sp, .ref szs, .ref sv, .int h0_length, .int h0_at])), (tr, .inr (1, [.ref tx, .int tr_length])), (tx, .inl (ctx, 2000, .inl gtx))]) hD hS hA [0, 1, 2] rfl
        refine va_callv (va_runV (As := []) (rest := []) ⟨hx, hb, hml, hown, hts⟩ (c_SC_readInteger l dC dI H.size sa h0 tr ss sp szs sv tx ctx h0_sign h0_place h0_size h0_value h0_length h0_at tr_length gtx (b_h0_sign) (b_h0_place) (b_h0_size) (b_tr_length) (by omega) (dg)) (cwV 0 hts (gV kM_SC_93 kV_SC_readInteger kS_SC_readInteger kI_SC kC_SC_readInteger) rfl rfl rfl (by decide +kernel) ⟨Nat.le_of_ble_eq_true rfl, Nat.le_of_ble_eq_true rfl⟩) ⟨fun a U g mk z => by obtain ⟨z0, z1, zP, zK, zD, zS⟩ := z; exact ⟨z0, z1, zP, va_K.moved (u := U) (U := U.calling g mk a) (Vm.Alike.refl U.vm) zK, zD, sw.same (u := U) (U := U.calling g mk a) rfl zS⟩, va_recv hKc hPc (ci := 8) (q0 := 0) rfl rfl, fun U hU hW => ⟨rfl, by rw [hU], by rw [hU]; exact hPc, va_K.moved hW.alike hKc, hDc.weaken (fun _ _ _ _ => trivial), hSW.call hS hFc hW hU⟩⟩ rfl rfl hl.1 rfl (lv_room (Nat.le_of_ble_eq_true rfl)) d_SC_readSign_53 ⟨(Nat.zero_le _), (Nat.zero_le _)⟩) hS (fun q _ h => hFc q h) hFc (fun u t H1 locs ht hvm hw hB hz1 hk1 hS => ?_)
        obtain ⟨n8, n9, n10⟩ := u
        try dsimp only at hw
        obtain ⟨bn8, bn9, xr7⟩ := hw
        try clear hw
        obtain ⟨hP1, hK1, hD1⟩ := hB
        rw [ht] at hP1
        obtain ⟨hP, hD⟩ := va_join (wr := []) (w1 := [(h0, .inr (8, [.ref tr, .ref (sg sa n8), .int h0_place, .int n9, .long n10, .ref ss, .ref sp, .ref szs, .ref sv, .int h0_length, .int h0_at])), (tr, .inr (1, [.ref tx, .int tr_length])), (tx, .inl (ctx, 2000, .inl gtx))]) hP hD [0, 1, 2] [] rfl rfl (by decide) (by decide) hk1 hFc hP1 hD1
        clear hPc hDc hKc hFc hz1 hk1 hP1 hK1 hD1
        generalize H1 = H at hP hS ⊢
        have hP : va_P (dC, dI) cls [(h0, .inr (8, [.ref tr, .ref (sg sa n8), .int h0_place, .int n9, .long n10, .ref ss, .ref sp, .ref szs, .ref sv, .int h0_length, .int h0_at])), (tr, .inr (1, [.ref tx, .int tr_length])), (tx, .inl (ctx, 2000, .inl gtx))] H := hP
        have hD : va_D A [(h0, .inr (8, [.ref tr, .ref (sg sa n8), .int h0_place, .int n9, .long n10, .ref ss, .ref sp, .ref szs, .ref sv, .int h0_length, .int h0_at])), (tr, .inr (1, [.ref tx, .int tr_length])), (tx, .inl (ctx, 2000, .inl gtx))] := hD
        refine lv_goto (tgt := 63) hx hb d_SC_readSign_56 (by decide) ?_
        have hP9 := hP.sub (ws' := [(h0, .inr (8, [.ref tr, .ref (sg sa n8), .int h0_place, .int n9, .long n10, .ref ss, .ref sp, .ref szs, .ref sv, .int h0_length, .int h0_at])), (tr, .inr (1, [.ref tx, .int tr_length])), (tx, .inl (ctx, 2000, .inl gtx))]) [0, 1, 2] rfl
        have hD9 := hD.sub (ws' := [(h0, .inr (8, [.ref tr, .ref (sg sa n8), .int h0_place, .int n9, .long n10, .ref ss, .ref sp, .ref szs, .ref sv, .int h0_length, .int h0_at])), (tr, .inr (1, [.ref tx, .int tr_length])), (tx, .inl (ctx, 2000, .inl gtx))]) [0, 1, 2] (by decide) rfl
        exact W.vret hx hb hr (fun t ht hW => ⟨⟨(n8, n9, n10), rfl, ⟨bn8, bn9, ⟨xr7.1, tkT_i xr7.2⟩⟩, by rw [ht]; exact hP9, va_K.moved hW.alike hK, hD9⟩, hS.F ht⟩) hS.2.2 d_SC_readSign_63
    · have q35 := neI c35
      refine lv_aload_n hx hb d_SC_readSign_38 rfl (lv_at hl 1 rfl) ?_
      have hPc := hP.sub (ws' := [(h0, .inr (8, [.ref tr, .ref (sg sa h0_sign), .int h0_place, .int h0_size, .long h0_value, .ref ss, .ref sp, .ref szs, .ref sv, .int h0_length, .int h0_at])), (tr, .inr (1, [.ref tx, .int tr_length])), (tx, .inl (ctx, 2000, .inl gtx))]) [0, 1, 2] rfl
      have hDc := hD.sub (ws' := [(h0, .inr (8, [.ref tr, .ref (sg sa h0_sign), .int h0_place, .int h0_size, .long h0_value, .ref ss, .ref sp, .ref szs, .ref sv, .int h0_length, .int h0_at])), (tr, .inr (1, [.ref tx, .int tr_length])), (tx, .inl (ctx, 2000, .inl gtx))]) [0, 1, 2] (by decide) rfl
      have hKc := hK.sub (tys' := [(ctx, .byte)]) [0] rfl
      have hFc := va_free (wc := [(h0, .inr (8, [.ref tr, .ref (sg sa h0_sign), .int h0_place, .int h0_size, .long h0_value, .ref ss, .ref sp, .ref szs, .ref sv, .int h0_length, .int h0_at])), (tr, .inr (1, [.ref tx, .int tr_length])), (tx, .inl (ctx, 2000, .inl gtx))]) hD hS hA [0, 1, 2] rfl
      refine va_callv (va_runV (As := []) (rest := []) ⟨hx, hb, hml, hown, hts⟩ (c_SC_readName l dC dI H.size sa h0 tr ss sp szs sv tx ctx h0_sign h0_place h0_size h0_value h0_length h0_at tr_length gtx (b_h0_sign) (b_h0_place) (b_h0_size) (b_tr_length) (by omega)) (cwV 0 hts (gV kM_SC_87 kV_SC_readName kS_SC_readName kI_SC kC_SC_readName) rfl rfl rfl (by decide +kernel) ⟨Nat.le_of_ble_eq_true rfl, Nat.le_of_ble_eq_true rfl⟩) ⟨fun a U g mk z => by obtain ⟨z0, z1, zP, zK, zD, zS⟩ := z; exact ⟨z0, z1, zP, va_K.moved (u := U) (U := U.calling g mk a) (Vm.Alike.refl U.vm) zK, zD, sw.same (u := U) (U := U.calling g mk a) rfl zS⟩, va_recv hKc hPc (ci := 8) (q0 := 0) rfl rfl, fun U hU hW => ⟨rfl, by rw [hU], by rw [hU]; exact hPc, va_K.moved hW.alike hKc, hDc.weaken (fun _ _ _ _ => trivial), hSW.call hS hFc hW hU⟩⟩ rfl rfl hl.1 rfl (lv_room (Nat.le_of_ble_eq_true rfl)) d_SC_readSign_39 ⟨(Nat.zero_le _), (Nat.zero_le _)⟩) hS (fun q _ h => hFc q h) hFc (fun u t H1 locs ht hvm hw hB hz1 hk1 hS => ?_)
      obtain ⟨n12, n13⟩ := u
      try dsimp only at hw
      obtain ⟨bn12, bn13, xr11⟩ := hw
      try clear hw
      obtain ⟨hP1, hK1, hD1⟩ := hB
      rw [ht] at hP1
      obtain ⟨hP, hD⟩ := va_join (wr := []) (w1 := [(h0, .inr (8, [.ref tr, .ref (sg sa n12), .int h0_place, .int n13, .long h0_value, .ref ss, .ref sp, .ref szs, .ref sv, .int h0_length, .int h0_at])), (tr, .inr (1, [.ref tx, .int tr_length])), (tx, .inl (ctx, 2000, .inl gtx))]) hP hD [0, 1, 2] [] rfl rfl (by decide) (by decide) hk1 hFc hP1 hD1
      clear hPc hDc hKc hFc hz1 hk1 hP1 hK1 hD1
      generalize H1 = H at hP hS ⊢
      have hP : va_P (dC, dI) cls [(h0, .inr (8, [.ref tr, .ref (sg sa n12), .int h0_place, .int n13, .long h0_value, .ref ss, .ref sp, .ref szs, .ref sv, .int h0_length, .int h0_at])), (tr, .inr (1, [.ref tx, .int tr_length])), (tx, .inl (ctx, 2000, .inl gtx))] H := hP
      have hD : va_D A [(h0, .inr (8, [.ref tr, .ref (sg sa n12), .int h0_place, .int n13, .long h0_value, .ref ss, .ref sp, .ref szs, .ref sv, .int h0_length, .int h0_at])), (tr, .inr (1, [.ref tx, .int tr_length])), (tx, .inl (ctx, 2000, .inl gtx))] := hD
      refine lv_goto (tgt := 63) hx hb d_SC_readSign_42 (by decide) ?_
      have hP9 := hP.sub (ws' := [(h0, .inr (8, [.ref tr, .ref (sg sa n12), .int h0_place, .int n13, .long h0_value, .ref ss, .ref sp, .ref szs, .ref sv, .int h0_length, .int h0_at])), (tr, .inr (1, [.ref tx, .int tr_length])), (tx, .inl (ctx, 2000, .inl gtx))]) [0, 1, 2] rfl
      have hD9 := hD.sub (ws' := [(h0, .inr (8, [.ref tr, .ref (sg sa n12), .int h0_place, .int n13, .long h0_value, .ref ss, .ref sp, .ref szs, .ref sv, .int h0_length, .int h0_at])), (tr, .inr (1, [.ref tx, .int tr_length])), (tx, .inl (ctx, 2000, .inl gtx))]) [0, 1, 2] (by decide) rfl
      exact W.vret hx hb hr (fun t ht hW => ⟨⟨(n12, n13, h0_value), rfl, ⟨bn12, bn13, ⟨xr11.1.2, tkT_n xr11.1.1 xr11.2⟩⟩, by rw [ht]; exact hP9, va_K.moved hW.alike hK, hD9⟩, hS.F ht⟩) hS.2.2 d_SC_readSign_63
  · have q13 := nleI c13
    refine lv_aload_n hx hb d_SC_readSign_16 rfl (lv_at hl 1 rfl) ?_
    refine va_gets (C := "WaferForge$Sign") (n := "END") (d := "LWaferForge$Sign;") (v := .ref (sg sa 0)) hx hb ((hSW.2.2.2.1.1 0 (by decide)).1) hS hown (hts _ kF_SC_9) (fun _ h9 => h9) d_SC_readSign_17 ?_
    refine va_put (D := (dC, dI)) (ci := 8) (v := .ref (sg sa 0)) (ty := .object "WaferForge$Sign") (C := R_SC) (T := F_SC) (N := 11) hx hb hts i_SC t_SC t_SC_ok n_SC hown hK hP hD hS 0 rfl rfl 1 (by decide) (hts _ kF_SC_15) (fun _ h9 => h9) rfl (by decide +kernel) rfl rfl (Nat.le_of_ble_eq_true rfl) d_SC_readSign_20 (fun H locs hP hD hS => ?_)
    refine lv_aload_n hx hb d_SC_readSign_23 rfl (lv_at hl 1 rfl) ?_
    refine lv_iconst (v := 0) hx hb d_SC_readSign_24 (by decide) ?_
    refine va_put (D := (dC, dI)) (ci := 8) (v := .int 0) (ty := .int) (C := R_SC) (T := F_SC) (N := 11) hx hb hts i_SC t_SC t_SC_ok n_SC hown hK hP hD hS 0 rfl rfl 3 (by decide) (hts _ kF_SC_43) (fun _ h9 => h9) rfl (by decide +kernel) rfl rfl (Nat.le_of_ble_eq_true rfl) d_SC_readSign_25 (fun H locs hP hD hS => ?_)
    refine lv_goto (tgt := 63) hx hb d_SC_readSign_28 (by decide) ?_
    have hP9 := hP.sub (ws' := [(h0, .inr (8, [.ref tr, .ref (sg sa 0), .int h0_place, .int 0, .long h0_value, .ref ss, .ref sp, .ref szs, .ref sv, .int h0_length, .int h0_at])), (tr, .inr (1, [.ref tx, .int tr_length])), (tx, .inl (ctx, 2000, .inl gtx))]) [0, 1, 2] rfl
    have hD9 := hD.sub (ws' := [(h0, .inr (8, [.ref tr, .ref (sg sa 0), .int h0_place, .int 0, .long h0_value, .ref ss, .ref sp, .ref szs, .ref sv, .int h0_length, .int h0_at])), (tr, .inr (1, [.ref tx, .int tr_length])), (tx, .inl (ctx, 2000, .inl gtx))]) [0, 1, 2] (by decide) rfl
    exact W.vret hx hb hr (fun t ht hW => ⟨⟨(0, 0, h0_value), rfl, ⟨(by decide : 0 < 55), by (try dsimp only) <;> omega, ⟨by (try dsimp only); omega, tkT_0⟩⟩, by rw [ht]; exact hP9, va_K.moved hW.alike hK, hD9⟩, hS.F ht⟩) hS.2.2 d_SC_readSign_63
abbrev b_SC_keep : ByteArray := prog_10_method_5_code
def y_SC_keep : MethodName := ⟨R_SC, "keep", "()V"⟩
abbrev w_SC_keep : List Cond := .code y_SC_keep b_SC_keep 1 none :: lw_g
theorem kC_SC_keep : Cond.code y_SC_keep b_SC_keep 1 none ∈ lw_g := in_g 878 (by decide +kernel) rfl
theorem d_SC_keep_0 : decode b_SC_keep 0 = .ok (.aload_n 0, 1) := by decide +kernel
theorem d_SC_keep_1 : decode b_SC_keep 1 = .ok (.getfield 49, 3) := by decide +kernel
theorem d_SC_keep_4 : decode b_SC_keep 4 = .ok (.aload_n 0, 1) := by decide +kernel
theorem d_SC_keep_5 : decode b_SC_keep 5 = .ok (.getfield 20, 3) := by decide +kernel
theorem d_SC_keep_8 : decode b_SC_keep 8 = .ok (.arraylength, 1) := by decide +kernel
theorem d_SC_keep_9 : decode b_SC_keep 9 = .ok (.if_icmp .ge 65, 3) := by decide +kernel
theorem d_SC_keep_12 : decode b_SC_keep 12 = .ok (.aload_n 0, 1) := by decide +kernel
theorem d_SC_keep_13 : decode b_SC_keep 13 = .ok (.getfield 20, 3) := by decide +kernel
theorem d_SC_keep_16 : decode b_SC_keep 16 = .ok (.aload_n 0, 1) := by decide +kernel
theorem d_SC_keep_17 : decode b_SC_keep 17 = .ok (.getfield 49, 3) := by decide +kernel
theorem d_SC_keep_20 : decode b_SC_keep 20 = .ok (.aload_n 0, 1) := by decide +kernel
theorem d_SC_keep_21 : decode b_SC_keep 21 = .ok (.getfield 15, 3) := by decide +kernel
theorem d_SC_keep_24 : decode b_SC_keep 24 = .ok (.aastore, 1) := by decide +kernel
theorem d_SC_keep_25 : decode b_SC_keep 25 = .ok (.aload_n 0, 1) := by decide +kernel
theorem d_SC_keep_26 : decode b_SC_keep 26 = .ok (.getfield 24, 3) := by decide +kernel
theorem d_SC_keep_29 : decode b_SC_keep 29 = .ok (.aload_n 0, 1) := by decide +kernel
theorem d_SC_keep_30 : decode b_SC_keep 30 = .ok (.getfield 49, 3) := by decide +kernel
theorem d_SC_keep_33 : decode b_SC_keep 33 = .ok (.aload_n 0, 1) := by decide +kernel
theorem d_SC_keep_34 : decode b_SC_keep 34 = .ok (.getfield 39, 3) := by decide +kernel
theorem d_SC_keep_37 : decode b_SC_keep 37 = .ok (.iastore, 1) := by decide +kernel
theorem d_SC_keep_38 : decode b_SC_keep 38 = .ok (.aload_n 0, 1) := by decide +kernel
theorem d_SC_keep_39 : decode b_SC_keep 39 = .ok (.getfield 28, 3) := by decide +kernel
theorem d_SC_keep_42 : decode b_SC_keep 42 = .ok (.aload_n 0, 1) := by decide +kernel
theorem d_SC_keep_43 : decode b_SC_keep 43 = .ok (.getfield 49, 3) := by decide +kernel
theorem d_SC_keep_46 : decode b_SC_keep 46 = .ok (.aload_n 0, 1) := by decide +kernel
theorem d_SC_keep_47 : decode b_SC_keep 47 = .ok (.getfield 43, 3) := by decide +kernel
theorem d_SC_keep_50 : decode b_SC_keep 50 = .ok (.iastore, 1) := by decide +kernel
theorem d_SC_keep_51 : decode b_SC_keep 51 = .ok (.aload_n 0, 1) := by decide +kernel
theorem d_SC_keep_52 : decode b_SC_keep 52 = .ok (.getfield 31, 3) := by decide +kernel
theorem d_SC_keep_55 : decode b_SC_keep 55 = .ok (.aload_n 0, 1) := by decide +kernel
theorem d_SC_keep_56 : decode b_SC_keep 56 = .ok (.getfield 49, 3) := by decide +kernel
theorem d_SC_keep_59 : decode b_SC_keep 59 = .ok (.aload_n 0, 1) := by decide +kernel
theorem d_SC_keep_60 : decode b_SC_keep 60 = .ok (.getfield 70, 3) := by decide +kernel
theorem d_SC_keep_63 : decode b_SC_keep 63 = .ok (.lastore, 1) := by decide +kernel
theorem d_SC_keep_64 : decode b_SC_keep 64 = .ok (.aload_n 0, 1) := by decide +kernel
theorem d_SC_keep_65 : decode b_SC_keep 65 = .ok (.dup, 1) := by decide +kernel
theorem d_SC_keep_66 : decode b_SC_keep 66 = .ok (.getfield 49, 3) := by decide +kernel
theorem d_SC_keep_69 : decode b_SC_keep 69 = .ok (.iconst 1, 1) := by decide +kernel
theorem d_SC_keep_70 : decode b_SC_keep 70 = .ok (.iadd, 1) := by decide +kernel
theorem d_SC_keep_71 : decode b_SC_keep 71 = .ok (.putfield 49, 3) := by decide +kernel
theorem d_SC_keep_74 : decode b_SC_keep 74 = .ok (.return_, 1) := by decide +kernel
theorem kF_SC_49 : Cond.fieldLink R_SC 49 "WaferForge$Scanner" "length" "I" ∈ lw_g := in_g 278 (by decide +kernel) rfl
theorem kF_SC_20 : Cond.fieldLink R_SC 20 "WaferForge$Scanner" "signs" "[LWaferForge$Sign;" ∈ lw_g := in_g 274 (by decide +kernel) rfl
theorem kF_SC_24 : Cond.fieldLink R_SC 24 "WaferForge$Scanner" "places" "[I" ∈ lw_g := in_g 275 (by decide +kernel) rfl
theorem kF_SC_28 : Cond.fieldLink R_SC 28 "WaferForge$Scanner" "sizes" "[I" ∈ lw_g := in_g 276 (by decide +kernel) rfl
theorem kF_SC_31 : Cond.fieldLink R_SC 31 "WaferForge$Scanner" "values" "[J" ∈ lw_g := in_g 277 (by decide +kernel) rfl
abbrev at_SC_keep (dC : Nat → ClassId) (dI : Nat → Nat → Nat) (sa : Nat → Nat) (h0 tr ss sp szs sv : Nat) (css csp cszs csv : ClassId) (h0_sign : Nat) (h0_place : Int32) (h0_size : Int32) (h0_value : Int64) (h0_at : Int32) (A : Nat → Prop) (u : (Nat → Int32) × (Nat → Option Nat) × (Nat → Int64) × (Nat → Int32) × Int32) (t : State) : Prop := match u with | (gsp, gss, gsv, gszs, h0_length) => va_P (dC, dI) cls [(h0, .inr (8, [.ref tr, .ref (sg sa h0_sign), .int h0_place, .int h0_size, .long h0_value, .ref ss, .ref sp, .ref szs, .ref sv, .int h0_length, .int h0_at])), (ss, .inl (css, 2001, .inr (.inr (.inr (.inr (fun j => (gss j).map (sg sa))))))), (sp, .inl (csp, 2001, .inl gsp)), (szs, .inl (cszs, 2001, .inl gszs)), (sv, .inl (csv, 2001, .inr (.inl gsv)))] t.heap ∧ va_K (dC, dI) cls [(css, .object "WaferForge$Sign"), (csp, .int), (cszs, .int), (csv, .long)] t ∧ va_D A [(h0, .inr (8, [.ref tr, .ref (sg sa h0_sign), .int h0_place, .int h0_size, .long h0_value, .ref ss, .ref sp, .ref szs, .ref sv, .int h0_length, .int h0_at])), (ss, .inl (css, 2001, .inr (.inr (.inr (.inr (fun j => (gss j).map (sg sa))))))), (sp, .inl (csp, 2001, .inl gsp)), (szs, .inl (cszs, 2001, .inl gszs)), (sv, .inl (csv, 2001, .inr (.inl gsv)))]
set_option maxHeartbeats 4000000 in
set_option maxRecDepth 100000 in
theorem c_SC_keep (l : Launch) (dC : Nat → ClassId) (dI : Nat → Nat → Nat) (sz : Nat) (sa : Nat → Nat) (h0 tr ss sp szs sv : Nat) (css csp cszs csv : ClassId) (h0_sign : Nat) (h0_place : Int32) (h0_size : Int32) (h0_value : Int64) (h0_length : Int32) (h0_at : Int32) (gss : Nat → Option Nat) (gsp : Nat → Int32) (gszs : Nat → Int32) (gsv : Nat → Int64)  (b_h0_sign : h0_sign < 55) (b_h0_place : 0 ≤ h0_place.toInt ∧ h0_place.toInt ≤ 2000) (b_h0_size : 0 ≤ h0_size.toInt ∧ h0_size.toInt ≤ 2000) (b_h0_length : 0 ≤ h0_length.toInt ∧ h0_length.toInt ≤ 2001)   (hl : h0_length.toInt < 2001) : Met l y_SC_keep w_SC_keep ({ frames := 0, cells := 0, slots := 0, locals := 0 }) (va_Pc [.ref h0] (fun U => U.heap.size = sz ∧ va_P (dC, dI) cls [(h0, .inr (8, [.ref tr, .ref (sg sa h0_sign), .int h0_place, .int h0_size, .long h0_value, .ref ss, .ref sp, .ref szs, .ref sv, .int h0_length, .int h0_at])), (ss, .inl (css, 2001, .inr (.inr (.inr (.inr (fun j => (gss j).map (sg sa))))))), (sp, .inl (csp, 2001, .inl gsp)), (szs, .inl (cszs, 2001, .inl gszs)), (sv, .inl (csv, 2001, .inr (.inl gsv)))] U.heap ∧ va_K (dC, dI) cls [(css, .object "WaferForge$Sign"), (csp, .int), (cszs, .int), (csv, .long)] U ∧ va_D (fun _ => True) [(h0, .inr (8, [.ref tr, .ref (sg sa h0_sign), .int h0_place, .int h0_size, .long h0_value, .ref ss, .ref sp, .ref szs, .ref sv, .int h0_length, .int h0_at])), (ss, .inl (css, 2001, .inr (.inr (.inr (.inr (fun j => (gss j).map (sg sa))))))), (sp, .inl (csp, 2001, .inl gsp)), (szs, .inl (cszs, 2001, .inl gszs)), (sv, .inl (csv, 2001, .inr (.inl gsv)))] ∧ sw sa (va_A [(h0, .inr (8, [.ref tr, .ref (sg sa h0_sign), .int h0_place, .int h0_size, .long h0_value, .ref ss, .ref sp, .ref szs, .ref sv, .int h0_length, .int h0_at])), (ss, .inl (css, 2001, .inr (.inr (.inr (.inr (fun j => (gss j).map (sg sa))))))), (sp, .inl (csp, 2001, .inl gsp)), (szs, .inl (cszs, 2001, .inl gszs)), (sv, .inl (csv, 2001, .inr (.inl gsv)))] sz) U U.heap)) (va_Qv (fun (u : (Nat → Int32) × (Nat → Option Nat) × (Nat → Int64) × (Nat → Int32) × Int32) => match u with | (gsp2, gss2, gsv2, gszs2, h0_length2) => (0 ≤ h0_length2.toInt ∧ h0_length2.toInt ≤ 2001) ∧ (h0_length2.toInt = h0_length.toInt + 1 ∧ gss2 = va_up gss h0_length.toNatClampNeg (some h0_sign) ∧ gsp2 = upd gsp h0_length.toNatClampNeg h0_place ∧ gszs2 = upd gszs h0_length.toNatClampNeg h0_size ∧ gsv2 = vp_updL gsv h0_length.toNatClampNeg h0_value)) (at_SC_keep dC dI sa h0 tr ss sp szs sv css csp cszs csv h0_sign h0_place h0_size h0_value h0_at (va_A [(h0, .inr (8, [.ref tr, .ref (sg sa h0_sign), .int h0_place, .int h0_size, .long h0_value, .ref ss, .ref sp, .ref szs, .ref sv, .int h0_length, .int h0_at])), (ss, .inl (css, 2001, .inr (.inr (.inr (.inr (fun j => (gss j).map (sg sa))))))), (sp, .inl (csp, 2001, .inl gsp)), (szs, .inl (cszs, 2001, .inl gszs)), (sv, .inl (csv, 2001, .inr (.inl gsv)))] sz)) (va_A [(h0, .inr (8, [.ref tr, .ref (sg sa h0_sign), .int h0_place, .int h0_size, .long h0_value, .ref ss, .ref sp, .ref szs, .ref sv, .int h0_length, .int h0_at])), (ss, .inl (css, 2001, .inr (.inr (.inr (.inr (fun j => (gss j).map (sg sa))))))), (sp, .inl (csp, 2001, .inl gsp)), (szs, .inl (cszs, 2001, .inl gszs)), (sv, .inl (csv, 2001, .inr (.inl gsv)))] sz)) 0 0 (va_A [(h0, .inr (8, [.ref tr, .ref (sg sa h0_sign), .int h0_place, .int h0_size, .long h0_value, .ref ss, .ref sp, .ref szs, .ref sv, .int h0_length, .int h0_at])), (ss, .inl (css, 2001, .inr (.inr (.inr (.inr (fun j => (gss j).map (sg sa))))))), (sp, .inl (csp, 2001, .inl gsp)), (szs, .inl (cszs, 2001, .inl gszs)), (sv, .inl (csv, 2001, .inr (.inl gsv)))] sz) := by
  refine Met.ofW (cc := b_SC_keep) (maxL := 1) (ret := none) (by decide) rfl ?_
  intro p e s m args below meth c s₁ B hml hv
  obtain ⟨rfl, hsz, hP, hK, hD0, hSW⟩ := hv
  have hx := B.exec
  have hb := B.bytes
  have hr := B.returns
  have hts0 := atoms_spec (ws := w_SC_keep) B.pre
  have hts : ∀ w ∈ lw_g, w.before _ s = true := fun w h => hts0 w (List.mem_cons_of_mem _ h)
  have hown : s.vm.findClass R_SC = some m.cls := findClass_of_methodNamed B.named
  have hlocks := B.notSynchronized
  clear hts0
  subst hsz
  have hD := hD0.self (sz := s.heap.size)
  generalize hAe : va_A [(h0, .inr (8, [.ref tr, .ref (sg sa h0_sign), .int h0_place, .int h0_size, .long h0_value, .ref ss, .ref sp, .ref szs, .ref sv, .int h0_length, .int h0_at])), (ss, .inl (css, 2001, .inr (.inr (.inr (.inr (fun j => (gss j).map (sg sa))))))), (sp, .inl (csp, 2001, .inl gsp)), (szs, .inl (cszs, 2001, .inl gszs)), (sv, .inl (csv, 2001, .inr (.inl gsv)))] s.heap.size = A at hD hSW ⊢
  have hA : ∀ q : Nat, s.heap.size ≤ q → A q := fun q h => by rw [← hAe]; exact Or.inr h
  clear hAe
  have hP : va_P (dC, dI) cls [(h0, .inr (8, [.ref tr, .ref (sg sa h0_sign), .int h0_place, .int h0_size, .long h0_value, .ref ss, .ref sp, .ref szs, .ref sv, .int h0_length, .int h0_at])), (ss, .inl (css, 2001, .inr (.inr (.inr (.inr (fun j => (gss j).map (sg sa))))))), (sp, .inl (csp, 2001, .inl gsp)), (szs, .inl (cszs, 2001, .inl gszs)), (sv, .inl (csv, 2001, .inr (.inl gsv)))] s.heap := hP
  have hl := lv_entry ([.ref h0]) (n := 1) (Nat.le_of_ble_eq_true rfl)
  rw [lg_entry_eq]
  generalize (lg_sl ([.ref h0]) ++ List.replicate (1 - (lg_sl ([.ref h0])).length) Slot.unset).toArray = ls at hl ⊢
  have hl : lv_has ls 1 [(0, .ref h0)] := hl
  have k0 : (0 : Int32).toInt = 0 := by decide
  refine w_gen (A := A) hP (fun H locs hP hS => ?_)
  have k1 : (1 : Int32).toInt = 1 := by decide
  refine lv_aload_n hx hb d_SC_keep_0 rfl (lv_at hl 0 rfl) ?_
  refine va_get (D := (dC, dI)) (ci := 8) (v := .int h0_length) (C := R_SC) (T := F_SC) (N := 11) hx hb hts i_SC hown hK hP 0 rfl rfl 9 (by decide) (hts _ kF_SC_49) (fun _ h9 => h9) rfl d_SC_keep_1 ?_
  refine lv_aload_n hx hb d_SC_keep_4 rfl (lv_at hl 0 rfl) ?_
  refine va_get (D := (dC, dI)) (ci := 8) (v := .ref ss) (C := R_SC) (T := F_SC) (N := 11) hx hb hts i_SC hown hK hP 0 rfl rfl 5 (by decide) (hts _ kF_SC_20) (fun _ h9 => h9) rfl d_SC_keep_5 ?_
  refine va_alen hx hb hK hP 1 0 rfl rfl rfl d_SC_keep_8 ?_
  refine lv_topi (fun x1 ex1 => ?_)
  have tx1 : x1.toInt = 2001 := by rw [ex1]; exact i32_len (by omega)
  refine lv_icmp_ge (tgt := 74) hx hb d_SC_keep_9 (by decide) (fun c9 => absurd (leI c9) (by omega)) (fun c9 => ?_)
  have q9 := nleI c9
  refine lv_aload_n hx hb d_SC_keep_12 rfl (lv_at hl 0 rfl) ?_
  refine va_get (D := (dC, dI)) (ci := 8) (v := .ref ss) (C := R_SC) (T := F_SC) (N := 11) hx hb hts i_SC hown hK hP 0 rfl rfl 5 (by decide) (hts _ kF_SC_20) (fun _ h9 => h9) rfl d_SC_keep_13 ?_
  refine lv_aload_n hx hb d_SC_keep_16 rfl (lv_at hl 0 rfl) ?_
  refine va_get (D := (dC, dI)) (ci := 8) (v := .int h0_length) (C := R_SC) (T := F_SC) (N := 11) hx hb hts i_SC hown hK hP 0 rfl rfl 9 (by decide) (hts _ kF_SC_49) (fun _ h9 => h9) rfl d_SC_keep_17 ?_
  refine lv_aload_n hx hb d_SC_keep_20 rfl (lv_at hl 0 rfl) ?_
  refine va_get (D := (dC, dI)) (ci := 8) (v := .ref (sg sa h0_sign)) (C := R_SC) (T := F_SC) (N := 11) hx hb hts i_SC hown hK hP 0 rfl rfl 1 (by decide) (hts _ kF_SC_15) (fun _ h9 => h9) rfl d_SC_keep_21 ?_
  have g24 : vp_in h0_length 2001 := vp_in_iff.mpr ⟨by omega, by omega⟩
  refine va_astqM hx hb hK hP hD hS 1 0 rfl rfl (sg_any hSW hS b_h0_sign) g24 d_SC_keep_24 (fun H locs hP hD hS => ?_)
  rw [sg_up] at hP hD
  have hP : va_P (dC, dI) cls [(h0, .inr (8, [.ref tr, .ref (sg sa h0_sign), .int h0_place, .int h0_size, .long h0_value, .ref ss, .ref sp, .ref szs, .ref sv, .int h0_length, .int h0_at])), (ss, .inl (css, 2001, .inr (.inr (.inr (.inr (fun j => (((va_up gss h0_length.toNatClampNeg (some h0_sign))) j).map (sg sa))))))), (sp, .inl (csp, 2001, .inl gsp)), (szs, .inl (cszs, 2001, .inl gszs)), (sv, .inl (csv, 2001, .inr (.inl gsv)))] H := hP
  have hD : va_D A [(h0, .inr (8, [.ref tr, .ref (sg sa h0_sign), .int h0_place, .int h0_size, .long h0_value, .ref ss, .ref sp, .ref szs, .ref sv, .int h0_length, .int h0_at])), (ss, .inl (css, 2001, .inr (.inr (.inr (.inr (fun j => (((va_up gss h0_length.toNatClampNeg (some h0_sign))) j).map (sg sa))))))), (sp, .inl (csp, 2001, .inl gsp)), (szs, .inl (cszs, 2001, .inl gszs)), (sv, .inl (csv, 2001, .inr (.inl gsv)))] := hD
  generalize ef2 : va_up gss h0_length.toNatClampNeg (some h0_sign) = f2 at hP hD
  refine lv_aload_n hx hb d_SC_keep_25 rfl (lv_at hl 0 rfl) ?_
  refine va_get (D := (dC, dI)) (ci := 8) (v := .ref sp) (C := R_SC) (T := F_SC) (N := 11) hx hb hts i_SC hown hK hP 0 rfl rfl 6 (by decide) (hts _ kF_SC_24) (fun _ h9 => h9) rfl d_SC_keep_26 ?_
  refine lv_aload_n hx hb d_SC_keep_29 rfl (lv_at hl 0 rfl) ?_
  refine va_get (D := (dC, dI)) (ci := 8) (v := .int h0_length) (C := R_SC) (T := F_SC) (N := 11) hx hb hts i_SC hown hK hP 0 rfl rfl 9 (by decide) (hts _ kF_SC_49) (fun _ h9 => h9) rfl d_SC_keep_30 ?_
  refine lv_aload_n hx hb d_SC_keep_33 rfl (lv_at hl 0 rfl) ?_
  refine va_get (D := (dC, dI)) (ci := 8) (v := .int h0_place) (C := R_SC) (T := F_SC) (N := 11) hx hb hts i_SC hown hK hP 0 rfl rfl 2 (by decide) (hts _ kF_SC_39) (fun _ h9 => h9) rfl d_SC_keep_34 ?_
  have g37 : vp_in h0_length 2001 := vp_in_iff.mpr ⟨by omega, by omega⟩
  refine va_iast hx hb hK hP hD hS 2 1 rfl rfl g37 d_SC_keep_37 (fun H locs hP hD hS => ?_)
  generalize ef3 : upd gsp h0_length.toNatClampNeg h0_place = f3 at hP hD
  refine lv_aload_n hx hb d_SC_keep_38 rfl (lv_at hl 0 rfl) ?_
  refine va_get (D := (dC, dI)) (ci := 8) (v := .ref szs) (C := R_SC) (T := F_SC) (N := 11) hx hb hts i_SC hown hK hP 0 rfl rfl 7 (by decide) (hts _ kF_SC_28) (fun _ h9 => h9) rfl d_SC_keep_39 ?_
  refine lv_aload_n hx hb d_SC_keep_42 rfl (lv_at hl 0 rfl) ?_
  refine va_get (D := (dC, dI)) (ci := 8) (v := .int h0_length) (C := R_SC) (T := F_SC) (N := 11) hx hb hts i_SC hown hK hP 0 rfl rfl 9 (by decide) (hts _ kF_SC_49) (fun _ h9 => h9) rfl d_SC_keep_43 ?_
  refine lv_aload_n hx hb d_SC_keep_46 rfl (lv_at hl 0 rfl) ?_
  refine va_get (D := (dC, dI)) (ci := 8) (v := .int h0_size) (C := R_SC) (T := F_SC) (N := 11) hx hb hts i_SC hown hK hP 0 rfl rfl 3 (by decide) (hts _ kF_SC_43) (fun _ h9 => h9) rfl d_SC_keep_47 ?_
  have g50 : vp_in h0_length 2001 := vp_in_iff.mpr ⟨by omega, by omega⟩
  refine va_iast hx hb hK hP hD hS 3 2 rfl rfl g50 d_SC_keep_50 (fun H locs hP hD hS => ?_)
  generalize ef4 : upd gszs h0_length.toNatClampNeg h0_size = f4 at hP hD
  refine lv_aload_n hx hb d_SC_keep_51 rfl (lv_at hl 0 rfl) ?_
  refine va_get (D := (dC, dI)) (ci := 8) (v := .ref sv) (C := R_SC) (T := F_SC) (N := 11) hx hb hts i_SC hown hK hP 0 rfl rfl 8 (by decide) (hts _ kF_SC_31) (fun _ h9 => h9) rfl d_SC_keep_52 ?_
  refine lv_aload_n hx hb d_SC_keep_55 rfl (lv_at hl 0 rfl) ?_
  refine va_get (D := (dC, dI)) (ci := 8) (v := .int h0_length) (C := R_SC) (T := F_SC) (N := 11) hx hb hts i_SC hown hK hP 0 rfl rfl 9 (by decide) (hts _ kF_SC_49) (fun _ h9 => h9) rfl d_SC_keep_56 ?_
  refine lv_aload_n hx hb d_SC_keep_59 rfl (lv_at hl 0 rfl) ?_
  refine va_get (D := (dC, dI)) (ci := 8) (v := .long h0_value) (C := R_SC) (T := F_SC) (N := 11) hx hb hts i_SC hown hK hP 0 rfl rfl 4 (by decide) (hts _ kF_SC_70) (fun _ h9 => h9) rfl d_SC_keep_60 ?_
  have g63 : vp_in h0_length 2001 := vp_in_iff.mpr ⟨by omega, by omega⟩
  refine va_last hx hb hK hP hD hS 4 3 rfl rfl g63 d_SC_keep_63 (fun H locs hP hD hS => ?_)
  generalize ef5 : vp_updL gsv h0_length.toNatClampNeg h0_value = f5 at hP hD
  refine lv_aload_n hx hb d_SC_keep_64 rfl (lv_at hl 0 rfl) ?_
  refine lv_dup hx hb d_SC_keep_65 rfl ?_
  refine va_get (D := (dC, dI)) (ci := 8) (v := .int h0_length) (C := R_SC) (T := F_SC) (N := 11) hx hb hts i_SC hown hK hP 0 rfl rfl 9 (by decide) (hts _ kF_SC_49) (fun _ h9 => h9) rfl d_SC_keep_66 ?_
  refine lv_iconst (v := 1) hx hb d_SC_keep_69 (by decide) ?_
  refine lv_iadd hx hb d_SC_keep_70 ?_
  refine lv_topi (fun x6 ex6 => ?_)
  have tx6 : x6.toInt = h0_length.toInt + 1 := by have z := i32_add ex6 (by omega) (by omega); omega
  refine va_put (D := (dC, dI)) (ci := 8) (v := .int x6) (ty := .int) (C := R_SC) (T := F_SC) (N := 11) hx hb hts i_SC t_SC t_SC_ok n_SC hown hK hP hD hS 0 rfl rfl 9 (by decide) (hts _ kF_SC_49) (fun _ h9 => h9) rfl (by decide +kernel) rfl rfl (Nat.le_of_ble_eq_true rfl) d_SC_keep_71 (fun H locs hP hD hS => ?_)
  have hP9 := hP.sub (ws' := [(h0, .inr (8, [.ref tr, .ref (sg sa h0_sign), .int h0_place, .int h0_size, .long h0_value, .ref ss, .ref sp, .ref szs, .ref sv, .int x6, .int h0_at])), (ss, .inl (css, 2001, .inr (.inr (.inr (.inr (fun j => (f2 j).map (sg sa))))))), (sp, .inl (csp, 2001, .inl f3)), (szs, .inl (cszs, 2001, .inl f4)), (sv, .inl (csv, 2001, .inr (.inl f5)))]) [0, 1, 2, 3, 4] rfl
  have hD9 := hD.sub (ws' := [(h0, .inr (8, [.ref tr, .ref (sg sa h0_sign), .int h0_place, .int h0_size, .long h0_value, .ref ss, .ref sp, .ref szs, .ref sv, .int x6, .int h0_at])), (ss, .inl (css, 2001, .inr (.inr (.inr (.inr (fun j => (f2 j).map (sg sa))))))), (sp, .inl (csp, 2001, .inl f3)), (szs, .inl (cszs, 2001, .inl f4)), (sv, .inl (csv, 2001, .inr (.inl f5)))]) [0, 1, 2, 3, 4] (by decide) rfl
  exact W.vret hx hb hr (fun t ht hW => ⟨⟨(f3, f2, f5, f4, x6), rfl, ⟨by (try dsimp only) <;> omega, ⟨by (try dsimp only); omega, by (try dsimp only) <;> exact ef2.symm, by (try dsimp only) <;> exact ef3.symm, by (try dsimp only) <;> exact ef4.symm, by (try dsimp only) <;> exact ef5.symm⟩⟩, by rw [ht]; exact hP9, va_K.moved hW.alike hK, hD9⟩, hS.F ht⟩) hS.2.2 d_SC_keep_74
abbrev b_SC_next : ByteArray := prog_10_method_3_code
def y_SC_next : MethodName := ⟨R_SC, "next", "()V"⟩
abbrev w_SC_next : List Cond := .code y_SC_next b_SC_next 1 none :: lw_g
theorem kC_SC_next : Cond.code y_SC_next b_SC_next 1 none ∈ lw_g := in_g 882 (by decide +kernel) rfl
theorem d_SC_next_0 : decode b_SC_next 0 = .ok (.aload_n 0, 1) := by decide +kernel
theorem d_SC_next_1 : decode b_SC_next 1 = .ok (.getfield 64, 3) := by decide +kernel
theorem d_SC_next_4 : decode b_SC_next 4 = .ok (.iconst 1, 1) := by decide +kernel
theorem d_SC_next_5 : decode b_SC_next 5 = .ok (.iadd, 1) := by decide +kernel
theorem d_SC_next_6 : decode b_SC_next 6 = .ok (.aload_n 0, 1) := by decide +kernel
theorem d_SC_next_7 : decode b_SC_next 7 = .ok (.getfield 49, 3) := by decide +kernel
theorem d_SC_next_10 : decode b_SC_next 10 = .ok (.if_icmp .ge 65, 3) := by decide +kernel
theorem d_SC_next_13 : decode b_SC_next 13 = .ok (.aload_n 0, 1) := by decide +kernel
theorem d_SC_next_14 : decode b_SC_next 14 = .ok (.dup, 1) := by decide +kernel
theorem d_SC_next_15 : decode b_SC_next 15 = .ok (.getfield 64, 3) := by decide +kernel
theorem d_SC_next_18 : decode b_SC_next 18 = .ok (.iconst 1, 1) := by decide +kernel
theorem d_SC_next_19 : decode b_SC_next 19 = .ok (.iadd, 1) := by decide +kernel
theorem d_SC_next_20 : decode b_SC_next 20 = .ok (.putfield 64, 3) := by decide +kernel
theorem d_SC_next_23 : decode b_SC_next 23 = .ok (.aload_n 0, 1) := by decide +kernel
theorem d_SC_next_24 : decode b_SC_next 24 = .ok (.aload_n 0, 1) := by decide +kernel
theorem d_SC_next_25 : decode b_SC_next 25 = .ok (.getfield 20, 3) := by decide +kernel
theorem d_SC_next_28 : decode b_SC_next 28 = .ok (.aload_n 0, 1) := by decide +kernel
theorem d_SC_next_29 : decode b_SC_next 29 = .ok (.getfield 64, 3) := by decide +kernel
theorem d_SC_next_32 : decode b_SC_next 32 = .ok (.aaload, 1) := by decide +kernel
theorem d_SC_next_33 : decode b_SC_next 33 = .ok (.putfield 15, 3) := by decide +kernel
theorem d_SC_next_36 : decode b_SC_next 36 = .ok (.aload_n 0, 1) := by decide +kernel
theorem d_SC_next_37 : decode b_SC_next 37 = .ok (.aload_n 0, 1) := by decide +kernel
theorem d_SC_next_38 : decode b_SC_next 38 = .ok (.getfield 24, 3) := by decide +kernel
theorem d_SC_next_41 : decode b_SC_next 41 = .ok (.aload_n 0, 1) := by decide +kernel
theorem d_SC_next_42 : decode b_SC_next 42 = .ok (.getfield 64, 3) := by decide +kernel
theorem d_SC_next_45 : decode b_SC_next 45 = .ok (.iaload, 1) := by decide +kernel
theorem d_SC_next_46 : decode b_SC_next 46 = .ok (.putfield 39, 3) := by decide +kernel
theorem d_SC_next_49 : decode b_SC_next 49 = .ok (.aload_n 0, 1) := by decide +kernel
theorem d_SC_next_50 : decode b_SC_next 50 = .ok (.aload_n 0, 1) := by decide +kernel
theorem d_SC_next_51 : decode b_SC_next 51 = .ok (.getfield 28, 3) := by decide +kernel
theorem d_SC_next_54 : decode b_SC_next 54 = .ok (.aload_n 0, 1) := by decide +kernel
theorem d_SC_next_55 : decode b_SC_next 55 = .ok (.getfield 64, 3) := by decide +kernel
theorem d_SC_next_58 : decode b_SC_next 58 = .ok (.iaload, 1) := by decide +kernel
theorem d_SC_next_59 : decode b_SC_next 59 = .ok (.putfield 43, 3) := by decide +kernel
theorem d_SC_next_62 : decode b_SC_next 62 = .ok (.aload_n 0, 1) := by decide +kernel
theorem d_SC_next_63 : decode b_SC_next 63 = .ok (.aload_n 0, 1) := by decide +kernel
theorem d_SC_next_64 : decode b_SC_next 64 = .ok (.getfield 31, 3) := by decide +kernel
theorem d_SC_next_67 : decode b_SC_next 67 = .ok (.aload_n 0, 1) := by decide +kernel
theorem d_SC_next_68 : decode b_SC_next 68 = .ok (.getfield 64, 3) := by decide +kernel
theorem d_SC_next_71 : decode b_SC_next 71 = .ok (.laload, 1) := by decide +kernel
theorem d_SC_next_72 : decode b_SC_next 72 = .ok (.putfield 70, 3) := by decide +kernel
theorem d_SC_next_75 : decode b_SC_next 75 = .ok (.return_, 1) := by decide +kernel
theorem kF_SC_64 : Cond.fieldLink R_SC 64 "WaferForge$Scanner" "at" "I" ∈ lw_g := in_g 279 (by decide +kernel) rfl
abbrev at_SC_next (dC : Nat → ClassId) (dI : Nat → Nat → Nat) (sa : Nat → Nat) (h0 tr ss sp szs sv tx : Nat) (css csp cszs csv : ClassId) (h0_length : Int32) (tr_length : Int32) (gss : Nat → Option Nat) (gsp : Nat → Int32) (gszs : Nat → Int32) (gsv : Nat → Int64) (A : Nat → Prop) (u : Int32 × Int32 × Nat × Int32 × Int64) (t : State) : Prop := match u with | (h0_at, h0_place, h0_sign, h0_size, h0_value) => va_P (dC, dI) cls [(h0, .inr (8, [.ref tr, .ref (sg sa h0_sign), .int h0_place, .int h0_size, .long h0_value, .ref ss, .ref sp, .ref szs, .ref sv, .int h0_length, .int h0_at])), (tr, .inr (1, [.ref tx, .int tr_length])), (ss, .inl (css, 2001, .inr (.inr (.inr (.inr (fun j => (gss j).map (sg sa))))))), (sp, .inl (csp, 2001, .inl gsp)), (szs, .inl (cszs, 2001, .inl gszs)), (sv, .inl (csv, 2001, .inr (.inl gsv)))] t.heap ∧ va_K (dC, dI) cls [(css, .object "WaferForge$Sign"), (csp, .int), (cszs, .int), (csv, .long)] t ∧ va_D A [(h0, .inr (8, [.ref tr, .ref (sg sa h0_sign), .int h0_place, .int h0_size, .long h0_value, .ref ss, .ref sp, .ref szs, .ref sv, .int h0_length, .int h0_at])), (tr, .inr (1, [.ref tx, .int tr_length])), (ss, .inl (css, 2001, .inr (.inr (.inr (.inr (fun j => (gss j).map (sg sa))))))), (sp, .inl (csp, 2001, .inl gsp)), (szs, .inl (cszs, 2001, .inl gszs)), (sv, .inl (csv, 2001, .inr (.inl gsv)))]
set_option maxHeartbeats 4000000 in
set_option maxRecDepth 100000 in
theorem c_SC_next (l : Launch) (dC : Nat → ClassId) (dI : Nat → Nat → Nat) (sz : Nat) (sa : Nat → Nat) (h0 tr ss sp szs sv tx : Nat) (css csp cszs csv : ClassId) (h0_sign : Nat) (h0_place : Int32) (h0_size : Int32) (h0_value : Int64) (h0_length : Int32) (h0_at : Int32) (tr_length : Int32) (gss : Nat → Option Nat) (gsp : Nat → Int32) (gszs : Nat → Int32) (gsv : Nat → Int64)  (b_h0_sign : h0_sign < 55) (b_h0_place : 0 ≤ h0_place.toInt ∧ h0_place.toInt ≤ 2000) (b_h0_size : 0 ≤ h0_size.toInt ∧ h0_size.toInt ≤ 2000) (b_h0_length : 0 ≤ h0_length.toInt ∧ h0_length.toInt ≤ 2001) (b_h0_at : -1 ≤ h0_at.toInt ∧ h0_at.toInt ≤ 2000) (b_tr_length : 0 ≤ tr_length.toInt ∧ tr_length.toInt ≤ 2000)   (htk : tkP tr_length.toInt h0_length.toInt gss gsp gszs gsv) : Met l y_SC_next w_SC_next ({ frames := 0, cells := 0, slots := 0, locals := 0 }) (va_Pc [.ref h0] (fun U => U.heap.size = sz ∧ va_P (dC, dI) cls [(h0, .inr (8, [.ref tr, .ref (sg sa h0_sign), .int h0_place, .int h0_size, .long h0_value, .ref ss, .ref sp, .ref szs, .ref sv, .int h0_length, .int h0_at])), (tr, .inr (1, [.ref tx, .int tr_length])), (ss, .inl (css, 2001, .inr (.inr (.inr (.inr (fun j => (gss j).map (sg sa))))))), (sp, .inl (csp, 2001, .inl gsp)), (szs, .inl (cszs, 2001, .inl gszs)), (sv, .inl (csv, 2001, .inr (.inl gsv)))] U.heap ∧ va_K (dC, dI) cls [(css, .object "WaferForge$Sign"), (csp, .int), (cszs, .int), (csv, .long)] U ∧ va_D (fun _ => True) [(h0, .inr (8, [.ref tr, .ref (sg sa h0_sign), .int h0_place, .int h0_size, .long h0_value, .ref ss, .ref sp, .ref szs, .ref sv, .int h0_length, .int h0_at])), (tr, .inr (1, [.ref tx, .int tr_length])), (ss, .inl (css, 2001, .inr (.inr (.inr (.inr (fun j => (gss j).map (sg sa))))))), (sp, .inl (csp, 2001, .inl gsp)), (szs, .inl (cszs, 2001, .inl gszs)), (sv, .inl (csv, 2001, .inr (.inl gsv)))] ∧ sw sa (va_A [(h0, .inr (8, [.ref tr, .ref (sg sa h0_sign), .int h0_place, .int h0_size, .long h0_value, .ref ss, .ref sp, .ref szs, .ref sv, .int h0_length, .int h0_at])), (tr, .inr (1, [.ref tx, .int tr_length])), (ss, .inl (css, 2001, .inr (.inr (.inr (.inr (fun j => (gss j).map (sg sa))))))), (sp, .inl (csp, 2001, .inl gsp)), (szs, .inl (cszs, 2001, .inl gszs)), (sv, .inl (csv, 2001, .inr (.inl gsv)))] sz) U U.heap)) (va_Qv (fun (u : Int32 × Int32 × Nat × Int32 × Int64) => match u with | (h0_at2, h0_place2, h0_sign2, h0_size2, h0_value2) => (-1 ≤ h0_at2.toInt ∧ h0_at2.toInt ≤ 2000) ∧ (0 ≤ h0_place2.toInt ∧ h0_place2.toInt ≤ 2000) ∧ (h0_sign2 < 55) ∧ (0 ≤ h0_size2.toInt ∧ h0_size2.toInt ≤ 2000) ∧ ((h0_at.toInt + 1 < h0_length.toInt → h0_at2.toInt = h0_at.toInt + 1 ∧ gss h0_at2.toNatClampNeg = some h0_sign2 ∧ h0_place2 = gsp h0_at2.toNatClampNeg ∧ h0_size2 = gszs h0_at2.toNatClampNeg ∧ h0_value2 = gsv h0_at2.toNatClampNeg) ∧ (h0_length.toInt ≤ h0_at.toInt + 1 → h0_at2 = h0_at ∧ h0_sign2 = h0_sign ∧ h0_place2 = h0_place ∧ h0_size2 = h0_size ∧ h0_value2 = h0_value))) (at_SC_next dC dI sa h0 tr ss sp szs sv tx css csp cszs csv h0_length tr_length gss gsp gszs gsv (va_A [(h0, .inr (8, [.ref tr, .ref (sg sa h0_sign), .int h0_place, .int h0_size, .long h0_value, .ref ss, .ref sp, .ref szs, .ref sv, .int h0_length, .int h0_at])), (tr, .inr (1, [.ref tx, .int tr_length])), (ss, .inl (css, 2001, .inr (.inr (.inr (.inr (fun j => (gss j).map (sg sa))))))), (sp, .inl (csp, 2001, .inl gsp)), (szs, .inl (cszs, 2001, .inl gszs)), (sv, .inl (csv, 2001, .inr (.inl gsv)))] sz)) (va_A [(h0, .inr (8, [.ref tr, .ref (sg sa h0_sign), .int h0_place, .int h0_size, .long h0_value, .ref ss, .ref sp, .ref szs, .ref sv, .int h0_length, .int h0_at])), (tr, .inr (1, [.ref tx, .int tr_length])), (ss, .inl (css, 2001, .inr (.inr (.inr (.inr (fun j => (gss j).map (sg sa))))))), (sp, .inl (csp, 2001, .inl gsp)), (szs, .inl (cszs, 2001, .inl gszs)), (sv, .inl (csv, 2001, .inr (.inl gsv)))] sz)) 0 0 (va_A [(h0, .inr (8, [.ref tr, .ref (sg sa h0_sign), .int h0_place, .int h0_size, .long h0_value, .ref ss, .ref sp, .ref szs, .ref sv, .int h0_length, .int h0_at])), (tr, .inr (1, [.ref tx, .int tr_length])), (ss, .inl (css, 2001, .inr (.inr (.inr (.inr (fun j => (gss j).map (sg sa))))))), (sp, .inl (csp, 2001, .inl gsp)), (szs, .inl (cszs, 2001, .inl gszs)), (sv, .inl (csv, 2001, .inr (.inl gsv)))] sz) := by
  refine Met.ofW (cc := b_SC_next) (maxL := 1) (ret := none) (by decide) rfl ?_
  intro p e s m args below meth c s₁ B hml hv
  obtain ⟨rfl, hsz, hP, hK, hD0, hSW⟩ := hv
  have hx := B.exec
  have hb := B.bytes
  have hr := B.returns
  have hts0 := atoms_spec (ws := w_SC_next) B.pre
  have hts : ∀ w ∈ lw_g, w.before _ s = true := fun w h => hts0 w (List.mem_cons_of_mem _ h)
  have hown : s.vm.findClass R_SC = some m.cls := findClass_of_methodNamed B.named
  have hlocks := B.notSynchronized
  clear hts0
  subst hsz
  have hD := hD0.self (sz := s.heap.size)
  generalize hAe : va_A [(h0, .inr (8, [.ref tr, .ref (sg sa h0_sign), .int h0_place, .int h0_size, .long h0_value, .ref ss, .ref sp, .ref szs, .ref sv, .int h0_length, .int h0_at])), (tr, .inr (1, [.ref tx, .int tr_length])), (ss, .inl (css, 2001, .inr (.inr (.inr (.inr (fun j => (gss j).map (sg sa))))))), (sp, .inl (csp, 2001, .inl gsp)), (szs, .inl (cszs, 2001, .inl gszs)), (sv, .inl (csv, 2001, .inr (.inl gsv)))] s.heap.size = A at hD hSW ⊢
  have hA : ∀ q : Nat, s.heap.size ≤ q → A q := fun q h => by rw [← hAe]; exact Or.inr h
  clear hAe
  have hP : va_P (dC, dI) cls [(h0, .inr (8, [.ref tr, .ref (sg sa h0_sign), .int h0_place, .int h0_size, .long h0_value, .ref ss, .ref sp, .ref szs, .ref sv, .int h0_length, .int h0_at])), (tr, .inr (1, [.ref tx, .int tr_length])), (ss, .inl (css, 2001, .inr (.inr (.inr (.inr (fun j => (gss j).map (sg sa))))))), (sp, .inl (csp, 2001, .inl gsp)), (szs, .inl (cszs, 2001, .inl gszs)), (sv, .inl (csv, 2001, .inr (.inl gsv)))] s.heap := hP
  have hl := lv_entry ([.ref h0]) (n := 1) (Nat.le_of_ble_eq_true rfl)
  rw [lg_entry_eq]
  generalize (lg_sl ([.ref h0]) ++ List.replicate (1 - (lg_sl ([.ref h0])).length) Slot.unset).toArray = ls at hl ⊢
  have hl : lv_has ls 1 [(0, .ref h0)] := hl
  have k0 : (0 : Int32).toInt = 0 := by decide
  refine w_gen (A := A) hP (fun H locs hP hS => ?_)
  have k1 : (1 : Int32).toInt = 1 := by decide
  have hb2 : ∀ j : Nat, (j : Int) < h0_length.toInt → 0 ≤ (gsp j).toInt ∧ (gsp j).toInt ≤ 2000 ∧ 0 ≤ (gszs j).toInt ∧ (gszs j).toInt ≤ 2000 := fun j q => by obtain ⟨k9, -, -, h1, h2, h3, -⟩ := htk j q; exact ⟨h1, by omega, h2, by omega⟩
  refine lv_aload_n hx hb d_SC_next_0 rfl (lv_at hl 0 rfl) ?_
  refine va_get (D := (dC, dI)) (ci := 8) (v := .int h0_at) (C := R_SC) (T := F_SC) (N := 11) hx hb hts i_SC hown hK hP 0 rfl rfl 10 (by decide) (hts _ kF_SC_64) (fun _ h9 => h9) rfl d_SC_next_1 ?_
  refine lv_iconst (v := 1) hx hb d_SC_next_4 (by decide) ?_
  refine lv_iadd hx hb d_SC_next_5 ?_
  refine lv_topi (fun x1 ex1 => ?_)
  have tx1 : x1.toInt = h0_at.toInt + 1 := by have z := i32_add ex1 (by omega) (by omega); omega
  refine lv_aload_n hx hb d_SC_next_6 rfl (lv_at hl 0 rfl) ?_
  refine va_get (D := (dC, dI)) (ci := 8) (v := .int h0_length) (C := R_SC) (T := F_SC) (N := 11) hx hb hts i_SC hown hK hP 0 rfl rfl 9 (by decide) (hts _ kF_SC_49) (fun _ h9 => h9) rfl d_SC_next_7 ?_
  refine lv_icmp_ge (tgt := 75) hx hb d_SC_next_10 (by decide) (fun c10 => ?_) (fun c10 => ?_)
  · have q10 := leI c10
    have hP9 := hP.sub (ws' := [(h0, .inr (8, [.ref tr, .ref (sg sa h0_sign), .int h0_place, .int h0_size, .long h0_value, .ref ss, .ref sp, .ref szs, .ref sv, .int h0_length, .int h0_at])), (tr, .inr (1, [.ref tx, .int tr_length])), (ss, .inl (css, 2001, .inr (.inr (.inr (.inr (fun j => (gss j).map (sg sa))))))), (sp, .inl (csp, 2001, .inl gsp)), (szs, .inl (cszs, 2001, .inl gszs)), (sv, .inl (csv, 2001, .inr (.inl gsv)))]) [0, 1, 2, 3, 4, 5] rfl
    have hD9 := hD.sub (ws' := [(h0, .inr (8, [.ref tr, .ref (sg sa h0_sign), .int h0_place, .int h0_size, .long h0_value, .ref ss, .ref sp, .ref szs, .ref sv, .int h0_length, .int h0_at])), (tr, .inr (1, [.ref tx, .int tr_length])), (ss, .inl (css, 2001, .inr (.inr (.inr (.inr (fun j => (gss j).map (sg sa))))))), (sp, .inl (csp, 2001, .inl gsp)), (szs, .inl (cszs, 2001, .inl gszs)), (sv, .inl (csv, 2001, .inr (.inl gsv)))]) [0, 1, 2, 3, 4, 5] (by decide) rfl
    exact W.vret hx hb hr (fun t ht hW => ⟨⟨(h0_at, h0_place, h0_sign, h0_size, h0_value), rfl, ⟨b_h0_at, b_h0_place, b_h0_sign, b_h0_size, ⟨fun z => absurd z (by omega), fun _ => ⟨rfl, rfl, rfl, rfl, rfl⟩⟩⟩, by rw [ht]; exact hP9, va_K.moved hW.alike hK, hD9⟩, hS.F ht⟩) hS.2.2 d_SC_next_75
  · have q10 := nleI c10
    refine lv_aload_n hx hb d_SC_next_13 rfl (lv_at hl 0 rfl) ?_
    refine lv_dup hx hb d_SC_next_14 rfl ?_
    refine va_get (D := (dC, dI)) (ci := 8) (v := .int h0_at) (C := R_SC) (T := F_SC) (N := 11) hx hb hts i_SC hown hK hP 0 rfl rfl 10 (by decide) (hts _ kF_SC_64) (fun _ h9 => h9) rfl d_SC_next_15 ?_
    refine lv_iconst (v := 1) hx hb d_SC_next_18 (by decide) ?_
    refine lv_iadd hx hb d_SC_next_19 ?_
    refine lv_topi (fun x2 ex2 => ?_)
    have tx2 : x2.toInt = h0_at.toInt + 1 := by have z := i32_add ex2 (by omega) (by omega); omega
    refine va_put (D := (dC, dI)) (ci := 8) (v := .int x2) (ty := .int) (C := R_SC) (T := F_SC) (N := 11) hx hb hts i_SC t_SC t_SC_ok n_SC hown hK hP hD hS 0 rfl rfl 10 (by decide) (hts _ kF_SC_64) (fun _ h9 => h9) rfl (by decide +kernel) rfl rfl (Nat.le_of_ble_eq_true rfl) d_SC_next_20 (fun H locs hP hD hS => ?_)
    refine lv_aload_n hx hb d_SC_next_23 rfl (lv_at hl 0 rfl) ?_
    refine lv_aload_n hx hb d_SC_next_24 rfl (lv_at hl 0 rfl) ?_
    refine va_get (D := (dC, dI)) (ci := 8) (v := .ref ss) (C := R_SC) (T := F_SC) (N := 11) hx hb hts i_SC hown hK hP 0 rfl rfl 5 (by decide) (hts _ kF_SC_20) (fun _ h9 => h9) rfl d_SC_next_25 ?_
    refine lv_aload_n hx hb d_SC_next_28 rfl (lv_at hl 0 rfl) ?_
    refine va_get (D := (dC, dI)) (ci := 8) (v := .int x2) (C := R_SC) (T := F_SC) (N := 11) hx hb hts i_SC hown hK hP 0 rfl rfl 10 (by decide) (hts _ kF_SC_64) (fun _ h9 => h9) rfl d_SC_next_29 ?_
    have g32 : vp_in x2 2001 := vp_in_iff.mpr ⟨by omega, by omega⟩
    obtain ⟨k3, hk3, ek3⟩ : ∃ z : Nat, z < 55 ∧ gss x2.toNatClampNeg = some z := by obtain ⟨k9, hk9⟩ := htk x2.toNatClampNeg (by have := i32_clamp (x := x2) (by omega); omega); exact ⟨k9, hk9.1, hk9.2.1⟩
    refine va_aldq hx hb hK hP 2 0 rfl rfl g32 d_SC_next_32 ?_
    refine w_top (v2 := .ref (sg sa k3)) (by show va_rf ((gss x2.toNatClampNeg).map (sg sa)) = _; rw [ek3]; rfl) ?_
    refine va_put (D := (dC, dI)) (ci := 8) (v := .ref (sg sa k3)) (ty := .object "WaferForge$Sign") (C := R_SC) (T := F_SC) (N := 11) hx hb hts i_SC t_SC t_SC_ok n_SC hown hK hP hD hS 0 rfl rfl 1 (by decide) (hts _ kF_SC_15) (fun _ h9 => h9) rfl (by decide +kernel) rfl rfl (Nat.le_of_ble_eq_true rfl) d_SC_next_33 (fun H locs hP hD hS => ?_)
    refine lv_aload_n hx hb d_SC_next_36 rfl (lv_at hl 0 rfl) ?_
    refine lv_aload_n hx hb d_SC_next_37 rfl (lv_at hl 0 rfl) ?_
    refine va_get (D := (dC, dI)) (ci := 8) (v := .ref sp) (C := R_SC) (T := F_SC) (N := 11) hx hb hts i_SC hown hK hP 0 rfl rfl 6 (by decide) (hts _ kF_SC_24) (fun _ h9 => h9) rfl d_SC_next_38 ?_
    refine lv_aload_n hx hb d_SC_next_41 rfl (lv_at hl 0 rfl) ?_
    refine va_get (D := (dC, dI)) (ci := 8) (v := .int x2) (C := R_SC) (T := F_SC) (N := 11) hx hb hts i_SC hown hK hP 0 rfl rfl 10 (by decide) (hts _ kF_SC_64) (fun _ h9 => h9) rfl d_SC_next_42 ?_
    have g45 : vp_in x2 2001 := vp_in_iff.mpr ⟨by omega, by omega⟩
    refine va_iald hx hb hK hP 3 1 rfl rfl g45 d_SC_next_45 ?_
    refine lv_topi (fun x4 ex4 => ?_)
    have yx4 := hb2 x2.toNatClampNeg (by have := i32_clamp (x := x2) (by omega); omega)
    rw [← ex4] at yx4
    refine va_put (D := (dC, dI)) (ci := 8) (v := .int x4) (ty := .int) (C := R_SC) (T := F_SC) (N := 11) hx hb hts i_SC t_SC t_SC_ok n_SC hown hK hP hD hS 0 rfl rfl 2 (by decide) (hts _ kF_SC_39) (fun _ h9 => h9) rfl (by decide +kernel) rfl rfl (Nat.le_of_ble_eq_true rfl) d_SC_next_46 (fun H locs hP hD hS => ?_)
    refine lv_aload_n hx hb d_SC_next_49 rfl (lv_at hl 0 rfl) ?_
    refine lv_aload_n hx hb d_SC_next_50 rfl (lv_at hl 0 rfl) ?_
    refine va_get (D := (dC, dI)) (ci := 8) (v := .ref szs) (C := R_SC) (T := F_SC) (N := 11) hx hb hts i_SC hown hK hP 0 rfl rfl 7 (by decide) (hts _ kF_SC_28) (fun _ h9 => h9) rfl d_SC_next_51 ?_
    refine lv_aload_n hx hb d_SC_next_54 rfl (lv_at hl 0 rfl) ?_
    refine va_get (D := (dC, dI)) (ci := 8) (v := .int x2) (C := R_SC) (T := F_SC) (N := 11) hx hb hts i_SC hown hK hP 0 rfl rfl 10 (by decide) (hts _ kF_SC_64) (fun _ h9 => h9) rfl d_SC_next_55 ?_
    have g58 : vp_in x2 2001 := vp_in_iff.mpr ⟨by omega, by omega⟩
    refine va_iald hx hb hK hP 4 2 rfl rfl g58 d_SC_next_58 ?_
    refine lv_topi (fun x5 ex5 => ?_)
    have yx5 := hb2 x2.toNatClampNeg (by have := i32_clamp (x := x2) (by omega); omega)
    rw [← ex5] at yx5
    refine va_put (D := (dC, dI)) (ci := 8) (v := .int x5) (ty := .int) (C := R_SC) (T := F_SC) (N := 11) hx hb hts i_SC t_SC t_SC_ok n_SC hown hK hP hD hS 0 rfl rfl 3 (by decide) (hts _ kF_SC_43) (fun _ h9 => h9) rfl (by decide +kernel) rfl rfl (Nat.le_of_ble_eq_true rfl) d_SC_next_59 (fun H locs hP hD hS => ?_)
    refine lv_aload_n hx hb d_SC_next_62 rfl (lv_at hl 0 rfl) ?_
    refine lv_aload_n hx hb d_SC_next_63 rfl (lv_at hl 0 rfl) ?_
    refine va_get (D := (dC, dI)) (ci := 8) (v := .ref sv) (C := R_SC) (T := F_SC) (N := 11) hx hb hts i_SC hown hK hP 0 rfl rfl 8 (by decide) (hts _ kF_SC_31) (fun _ h9 => h9) rfl d_SC_next_64 ?_
    refine lv_aload_n hx hb d_SC_next_67 rfl (lv_at hl 0 rfl) ?_
    refine va_get (D := (dC, dI)) (ci := 8) (v := .int x2) (C := R_SC) (T := F_SC) (N := 11) hx hb hts i_SC hown hK hP 0 rfl rfl 10 (by decide) (hts _ kF_SC_64) (fun _ h9 => h9) rfl d_SC_next_68 ?_
    have g71 : vp_in x2 2001 := vp_in_iff.mpr ⟨by omega, by omega⟩
    refine va_lald hx hb hK hP 5 3 rfl rfl g71 d_SC_next_71 ?_
    refine lv_topl (fun x6 ex6 => ?_)
    refine va_put (D := (dC, dI)) (ci := 8) (v := .long x6) (ty := .long) (C := R_SC) (T := F_SC) (N := 11) hx hb hts i_SC t_SC t_SC_ok n_SC hown hK hP hD hS 0 rfl rfl 4 (by decide) (hts _ kF_SC_70) (fun _ h9 => h9) rfl (by decide +kernel) rfl rfl (Nat.le_of_ble_eq_true rfl) d_SC_next_72 (fun H locs hP hD hS => ?_)
    have hP9 := hP.sub (ws' := [(h0, .inr (8, [.ref tr, .ref (sg sa k3), .int x4, .int x5, .long x6, .ref ss, .ref sp, .ref szs, .ref sv, .int h0_length, .int x2])), (tr, .inr (1, [.ref tx, .int tr_length])), (ss, .inl (css, 2001, .inr (.inr (.inr (.inr (fun j => (gss j).map (sg sa))))))), (sp, .inl (csp, 2001, .inl gsp)), (szs, .inl (cszs, 2001, .inl gszs)), (sv, .inl (csv, 2001, .inr (.inl gsv)))]) [0, 1, 2, 3, 4, 5] rfl
    have hD9 := hD.sub (ws' := [(h0, .inr (8, [.ref tr, .ref (sg sa k3), .int x4, .int x5, .long x6, .ref ss, .ref sp, .ref szs, .ref sv, .int h0_length, .int x2])), (tr, .inr (1, [.ref tx, .int tr_length])), (ss, .inl (css, 2001, .inr (.inr (.inr (.inr (fun j => (gss j).map (sg sa))))))), (sp, .inl (csp, 2001, .inl gsp)), (szs, .inl (cszs, 2001, .inl gszs)), (sv, .inl (csv, 2001, .inr (.inl gsv)))]) [0, 1, 2, 3, 4, 5] (by decide) rfl
    exact W.vret hx hb hr (fun t ht hW => ⟨⟨(x2, x4, k3, x5, x6), rfl, ⟨by (try dsimp only) <;> omega, by (try dsimp only) <;> omega, hk3, by (try dsimp only) <;> omega, ⟨fun _ => ⟨by (try dsimp only); omega, ek3, ex4, ex5, ex6⟩, fun z => absurd z (by omega)⟩⟩, by rw [ht]; exact hP9, va_K.moved hW.alike hK, hD9⟩, hS.F ht⟩) hS.2.2 d_SC_next_75
abbrev b_SC_isBeforeAssign : ByteArray := prog_10_method_4_code
def y_SC_isBeforeAssign : MethodName := ⟨R_SC, "isBeforeAssign", "()Z"⟩
abbrev w_SC_isBeforeAssign : List Cond := .code y_SC_isBeforeAssign b_SC_isBeforeAssign 1 (Option.some .boolean) :: lw_g
theorem kC_SC_isBeforeAssign : Cond.code y_SC_isBeforeAssign b_SC_isBeforeAssign 1 (Option.some .boolean) ∈ lw_g := in_g 1072 (by decide +kernel) rfl
theorem d_SC_isBeforeAssign_0 : decode b_SC_isBeforeAssign 0 = .ok (.aload_n 0, 1) := by decide +kernel
theorem d_SC_isBeforeAssign_1 : decode b_SC_isBeforeAssign 1 = .ok (.getfield 64, 3) := by decide +kernel
theorem d_SC_isBeforeAssign_4 : decode b_SC_isBeforeAssign 4 = .ok (.iconst 1, 1) := by decide +kernel
theorem d_SC_isBeforeAssign_5 : decode b_SC_isBeforeAssign 5 = .ok (.iadd, 1) := by decide +kernel
theorem d_SC_isBeforeAssign_6 : decode b_SC_isBeforeAssign 6 = .ok (.aload_n 0, 1) := by decide +kernel
theorem d_SC_isBeforeAssign_7 : decode b_SC_isBeforeAssign 7 = .ok (.getfield 49, 3) := by decide +kernel
theorem d_SC_isBeforeAssign_10 : decode b_SC_isBeforeAssign 10 = .ok (.if_icmp .ge 24, 3) := by decide +kernel
theorem d_SC_isBeforeAssign_13 : decode b_SC_isBeforeAssign 13 = .ok (.aload_n 0, 1) := by decide +kernel
theorem d_SC_isBeforeAssign_14 : decode b_SC_isBeforeAssign 14 = .ok (.getfield 20, 3) := by decide +kernel
theorem d_SC_isBeforeAssign_17 : decode b_SC_isBeforeAssign 17 = .ok (.aload_n 0, 1) := by decide +kernel
theorem d_SC_isBeforeAssign_18 : decode b_SC_isBeforeAssign 18 = .ok (.getfield 64, 3) := by decide +kernel
theorem d_SC_isBeforeAssign_21 : decode b_SC_isBeforeAssign 21 = .ok (.iconst 1, 1) := by decide +kernel
theorem d_SC_isBeforeAssign_22 : decode b_SC_isBeforeAssign 22 = .ok (.iadd, 1) := by decide +kernel
theorem d_SC_isBeforeAssign_23 : decode b_SC_isBeforeAssign 23 = .ok (.aaload, 1) := by decide +kernel
theorem d_SC_isBeforeAssign_24 : decode b_SC_isBeforeAssign 24 = .ok (.getstatic 74, 3) := by decide +kernel
theorem d_SC_isBeforeAssign_27 : decode b_SC_isBeforeAssign 27 = .ok (.if_acmp .ne 7, 3) := by decide +kernel
theorem d_SC_isBeforeAssign_30 : decode b_SC_isBeforeAssign 30 = .ok (.iconst 1, 1) := by decide +kernel
theorem d_SC_isBeforeAssign_31 : decode b_SC_isBeforeAssign 31 = .ok (.goto 4, 3) := by decide +kernel
theorem d_SC_isBeforeAssign_34 : decode b_SC_isBeforeAssign 34 = .ok (.iconst 0, 1) := by decide +kernel
theorem d_SC_isBeforeAssign_35 : decode b_SC_isBeforeAssign 35 = .ok (.ireturn, 1) := by decide +kernel
theorem kF_SC_74 : Cond.fieldLink R_SC 74 "WaferForge$Sign" "ASSIGN" "LWaferForge$Sign;" ∈ lw_g := in_g 1073 (by decide +kernel) rfl
abbrev at_SC_isBeforeAssign (dC : Nat → ClassId) (dI : Nat → Nat → Nat) (sa : Nat → Nat) (h0 tr ss sp szs sv tx : Nat) (css csp cszs csv : ClassId) (h0_sign : Nat) (h0_place : Int32) (h0_size : Int32) (h0_value : Int64) (h0_length : Int32) (h0_at : Int32) (tr_length : Int32) (gss : Nat → Option Nat) (gsp : Nat → Int32) (gszs : Nat → Int32) (gsv : Nat → Int64) (A : Nat → Prop) (u : Unit) (t : State) : Prop := match u with | _ => va_P (dC, dI) cls [(h0, .inr (8, [.ref tr, .ref (sg sa h0_sign), .int h0_place, .int h0_size, .long h0_value, .ref ss, .ref sp, .ref szs, .ref sv, .int h0_length, .int h0_at])), (tr, .inr (1, [.ref tx, .int tr_length])), (ss, .inl (css, 2001, .inr (.inr (.inr (.inr (fun j => (gss j).map (sg sa))))))), (sp, .inl (csp, 2001, .inl gsp)), (szs, .inl (cszs, 2001, .inl gszs)), (sv, .inl (csv, 2001, .inr (.inl gsv)))] t.heap ∧ va_K (dC, dI) cls [(css, .object "WaferForge$Sign"), (csp, .int), (cszs, .int), (csv, .long)] t ∧ va_D A [(h0, .inr (8, [.ref tr, .ref (sg sa h0_sign), .int h0_place, .int h0_size, .long h0_value, .ref ss, .ref sp, .ref szs, .ref sv, .int h0_length, .int h0_at])), (tr, .inr (1, [.ref tx, .int tr_length])), (ss, .inl (css, 2001, .inr (.inr (.inr (.inr (fun j => (gss j).map (sg sa))))))), (sp, .inl (csp, 2001, .inl gsp)), (szs, .inl (cszs, 2001, .inl gszs)), (sv, .inl (csv, 2001, .inr (.inl gsv)))]
set_option maxHeartbeats 4000000 in
set_option maxRecDepth 100000 in
theorem c_SC_isBeforeAssign (l : Launch) (dC : Nat → ClassId) (dI : Nat → Nat → Nat) (sz : Nat) (sa : Nat → Nat) (h0 tr ss sp szs sv tx : Nat) (css csp cszs csv : ClassId) (h0_sign : Nat) (h0_place : Int32) (h0_size : Int32) (h0_value : Int64) (h0_length : Int32) (h0_at : Int32) (tr_length : Int32) (gss : Nat → Option Nat) (gsp : Nat → Int32) (gszs : Nat → Int32) (gsv : Nat → Int64)  (b_h0_length : 0 ≤ h0_length.toInt ∧ h0_length.toInt ≤ 2001) (b_h0_at : -1 ≤ h0_at.toInt ∧ h0_at.toInt ≤ 2000) (b_tr_length : 0 ≤ tr_length.toInt ∧ tr_length.toInt ≤ 2000)   (htk : tkP tr_length.toInt h0_length.toInt gss gsp gszs gsv) : Met l y_SC_isBeforeAssign w_SC_isBeforeAssign ({ frames := 0, cells := 0, slots := 0, locals := 0 }) (va_Pc [.ref h0] (fun U => U.heap.size = sz ∧ va_P (dC, dI) cls [(h0, .inr (8, [.ref tr, .ref (sg sa h0_sign), .int h0_place, .int h0_size, .long h0_value, .ref ss, .ref sp, .ref szs, .ref sv, .int h0_length, .int h0_at])), (tr, .inr (1, [.ref tx, .int tr_length])), (ss, .inl (css, 2001, .inr (.inr (.inr (.inr (fun j => (gss j).map (sg sa))))))), (sp, .inl (csp, 2001, .inl gsp)), (szs, .inl (cszs, 2001, .inl gszs)), (sv, .inl (csv, 2001, .inr (.inl gsv)))] U.heap ∧ va_K (dC, dI) cls [(css, .object "WaferForge$Sign"), (csp, .int), (cszs, .int), (csv, .long)] U ∧ va_D (fun _ => True) [(h0, .inr (8, [.ref tr, .ref (sg sa h0_sign), .int h0_place, .int h0_size, .long h0_value, .ref ss, .ref sp, .ref szs, .ref sv, .int h0_length, .int h0_at])), (tr, .inr (1, [.ref tx, .int tr_length])), (ss, .inl (css, 2001, .inr (.inr (.inr (.inr (fun j => (gss j).map (sg sa))))))), (sp, .inl (csp, 2001, .inl gsp)), (szs, .inl (cszs, 2001, .inl gszs)), (sv, .inl (csv, 2001, .inr (.inl gsv)))] ∧ sw sa (va_A [(h0, .inr (8, [.ref tr, .ref (sg sa h0_sign), .int h0_place, .int h0_size, .long h0_value, .ref ss, .ref sp, .ref szs, .ref sv, .int h0_length, .int h0_at])), (tr, .inr (1, [.ref tx, .int tr_length])), (ss, .inl (css, 2001, .inr (.inr (.inr (.inr (fun j => (gss j).map (sg sa))))))), (sp, .inl (csp, 2001, .inl gsp)), (szs, .inl (cszs, 2001, .inl gszs)), (sv, .inl (csv, 2001, .inr (.inl gsv)))] sz) U U.heap)) (va_Qi (fun (r : Int32) (u : Unit) => match u with | _ => (r = 0 ∨ r = 1) ∧ (r = 1 → h0_at.toInt + 1 < h0_length.toInt ∧ gss (h0_at.toInt + 1).toNat = some 33)) (at_SC_isBeforeAssign dC dI sa h0 tr ss sp szs sv tx css csp cszs csv h0_sign h0_place h0_size h0_value h0_length h0_at tr_length gss gsp gszs gsv (va_A [(h0, .inr (8, [.ref tr, .ref (sg sa h0_sign), .int h0_place, .int h0_size, .long h0_value, .ref ss, .ref sp, .ref szs, .ref sv, .int h0_length, .int h0_at])), (tr, .inr (1, [.ref tx, .int tr_length])), (ss, .inl (css, 2001, .inr (.inr (.inr (.inr (fun j => (gss j).map (sg sa))))))), (sp, .inl (csp, 2001, .inl gsp)), (szs, .inl (cszs, 2001, .inl gszs)), (sv, .inl (csv, 2001, .inr (.inl gsv)))] sz)) (va_A [(h0, .inr (8, [.ref tr, .ref (sg sa h0_sign), .int h0_place, .int h0_size, .long h0_value, .ref ss, .ref sp, .ref szs, .ref sv, .int h0_length, .int h0_at])), (tr, .inr (1, [.ref tx, .int tr_length])), (ss, .inl (css, 2001, .inr (.inr (.inr (.inr (fun j => (gss j).map (sg sa))))))), (sp, .inl (csp, 2001, .inl gsp)), (szs, .inl (cszs, 2001, .inl gszs)), (sv, .inl (csv, 2001, .inr (.inl gsv)))] sz)) 0 0 (va_A [(h0, .inr (8, [.ref tr, .ref (sg sa h0_sign), .int h0_place, .int h0_size, .long h0_value, .ref ss, .ref sp, .ref szs, .ref sv, .int h0_length, .int h0_at])), (tr, .inr (1, [.ref tx, .int tr_length])), (ss, .inl (css, 2001, .inr (.inr (.inr (.inr (fun j => (gss j).map (sg sa))))))), (sp, .inl (csp, 2001, .inl gsp)), (szs, .inl (cszs, 2001, .inl gszs)), (sv, .inl (csv, 2001, .inr (.inl gsv)))] sz) := by
  refine Met.ofW (cc := b_SC_isBeforeAssign) (maxL := 1) (ret := (Option.some .boolean)) (by decide) rfl ?_
  intro p e s m args below meth c s₁ B hml hv
  obtain ⟨rfl, hsz, hP, hK, hD0, hSW⟩ := hv
  have hx := B.exec
  have hb := B.bytes
  have hr := B.returns
  have hts0 := atoms_spec (ws := w_SC_isBeforeAssign) B.pre
  have hts : ∀ w ∈ lw_g, w.before _ s = true := fun w h => hts0 w (List.mem_cons_of_mem _ h)
  have hown : s.vm.findClass R_SC = some m.cls := findClass_of_methodNamed B.named
  have hlocks := B.notSynchronized
  clear hts0
  subst hsz
  have hD := hD0.self (sz := s.heap.size)
  generalize hAe : va_A [(h0, .inr (8, [.ref tr, .ref (sg sa h0_sign), .int h0_place, .int h0_size, .long h0_value, .ref ss, .ref sp, .ref szs, .ref sv, .int h0_length, .int h0_at])), (tr, .inr (1, [.ref tx, .int tr_length])), (ss, .inl (css, 2001, .inr (.inr (.inr (.inr (fun j => (gss j).map (sg sa))))))), (sp, .inl (csp, 2001, .inl gsp)), (szs, .inl (cszs, 2001, .inl gszs)), (sv, .inl (csv, 2001, .inr (.inl gsv)))] s.heap.size = A at hD hSW ⊢
  have hA : ∀ q : Nat, s.heap.size ≤ q → A q := fun q h => by rw [← hAe]; exact Or.inr h
  clear hAe
  have hP : va_P (dC, dI) cls [(h0, .inr (8, [.ref tr, .ref (sg sa h0_sign), .int h0_place, .int h0_size, .long h0_value, .ref ss, .ref sp, .ref szs, .ref sv, .int h0_length, .int h0_at])), (tr, .inr (1, [.ref tx, .int tr_length])), (ss, .inl (css, 2001, .inr (.inr (.inr (.inr (fun j => (gss j).map (sg sa))))))), (sp, .inl (csp, 2001, .inl gsp)), (szs, .inl (cszs, 2001, .inl gszs)), (sv, .inl (csv, 2001, .inr (.inl gsv)))] s.heap := hP
  have hl := lv_entry ([.ref h0]) (n := 1) (Nat.le_of_ble_eq_true rfl)
  rw [lg_entry_eq]
  generalize (lg_sl ([.ref h0]) ++ List.replicate (1 - (lg_sl ([.ref h0])).length) Slot.unset).toArray = ls at hl ⊢
  have hl : lv_has ls 1 [(0, .ref h0)] := hl
  have k0 : (0 : Int32).toInt = 0 := by decide
  refine w_gen (A := A) hP (fun H locs hP hS => ?_)
  have k1 : (1 : Int32).toInt = 1 := by decide
  refine lv_aload_n hx hb d_SC_isBeforeAssign_0 rfl (lv_at hl 0 rfl) ?_
  refine va_get (D := (dC, dI)) (ci := 8) (v := .int h0_at) (C := R_SC) (T := F_SC) (N := 11) hx hb hts i_SC hown hK hP 0 rfl rfl 10 (by decide) (hts _ kF_SC_64) (fun _ h9 => h9) rfl d_SC_isBeforeAssign_1 ?_
  refine lv_iconst (v := 1) hx hb d_SC_isBeforeAssign_4 (by decide) ?_
  refine lv_iadd hx hb d_SC_isBeforeAssign_5 ?_
  refine lv_topi (fun x1 ex1 => ?_)
  have tx1 : x1.toInt = h0_at.toInt + 1 := by have z := i32_add ex1 (by omega) (by omega); omega
  refine lv_aload_n hx hb d_SC_isBeforeAssign_6 rfl (lv_at hl 0 rfl) ?_
  refine va_get (D := (dC, dI)) (ci := 8) (v := .int h0_length) (C := R_SC) (T := F_SC) (N := 11) hx hb hts i_SC hown hK hP 0 rfl rfl 9 (by decide) (hts _ kF_SC_49) (fun _ h9 => h9) rfl d_SC_isBeforeAssign_7 ?_
  refine lv_icmp_ge (tgt := 34) hx hb d_SC_isBeforeAssign_10 (by decide) (fun c10 => ?_) (fun c10 => ?_)
  · have q10 := leI c10
    refine lv_iconst (v := 0) hx hb d_SC_isBeforeAssign_34 (by decide) ?_
    have hP9 := hP.sub (ws' := [(h0, .inr (8, [.ref tr, .ref (sg sa h0_sign), .int h0_place, .int h0_size, .long h0_value, .ref ss, .ref sp, .ref szs, .ref sv, .int h0_length, .int h0_at])), (tr, .inr (1, [.ref tx, .int tr_length])), (ss, .inl (css, 2001, .inr (.inr (.inr (.inr (fun j => (gss j).map (sg sa))))))), (sp, .inl (csp, 2001, .inl gsp)), (szs, .inl (cszs, 2001, .inl gszs)), (sv, .inl (csv, 2001, .inr (.inl gsv)))]) [0, 1, 2, 3, 4, 5] rfl
    have hD9 := hD.sub (ws' := [(h0, .inr (8, [.ref tr, .ref (sg sa h0_sign), .int h0_place, .int h0_size, .long h0_value, .ref ss, .ref sp, .ref szs, .ref sv, .int h0_length, .int h0_at])), (tr, .inr (1, [.ref tx, .int tr_length])), (ss, .inl (css, 2001, .inr (.inr (.inr (.inr (fun j => (gss j).map (sg sa))))))), (sp, .inl (csp, 2001, .inl gsp)), (szs, .inl (cszs, 2001, .inl gszs)), (sv, .inl (csv, 2001, .inr (.inl gsv)))]) [0, 1, 2, 3, 4, 5] (by decide) rfl
    exact W.zret (v := 0) hx hb hr (zn01 (Or.inl rfl)) (fun t ht hW => ⟨⟨0, (), rfl, ⟨Or.inl rfl, fun z => absurd z (by decide)⟩, by rw [ht]; exact hP9, va_K.moved hW.alike hK, hD9⟩, hS.F ht⟩) hS.2.2 d_SC_isBeforeAssign_35
  · have q10 := nleI c10
    refine lv_aload_n hx hb d_SC_isBeforeAssign_13 rfl (lv_at hl 0 rfl) ?_
    refine va_get (D := (dC, dI)) (ci := 8) (v := .ref ss) (C := R_SC) (T := F_SC) (N := 11) hx hb hts i_SC hown hK hP 0 rfl rfl 5 (by decide) (hts _ kF_SC_20) (fun _ h9 => h9) rfl d_SC_isBeforeAssign_14 ?_
    refine lv_aload_n hx hb d_SC_isBeforeAssign_17 rfl (lv_at hl 0 rfl) ?_
    refine va_get (D := (dC, dI)) (ci := 8) (v := .int h0_at) (C := R_SC) (T := F_SC) (N := 11) hx hb hts i_SC hown hK hP 0 rfl rfl 10 (by decide) (hts _ kF_SC_64) (fun _ h9 => h9) rfl d_SC_isBeforeAssign_18 ?_
    refine lv_iconst (v := 1) hx hb d_SC_isBeforeAssign_21 (by decide) ?_
    refine lv_iadd hx hb d_SC_isBeforeAssign_22 ?_
    refine lv_topi (fun x2 ex2 => ?_)
    have tx2 : x2.toInt = h0_at.toInt + 1 := by have z := i32_add ex2 (by omega) (by omega); omega
    have g23 : vp_in x2 2001 := vp_in_iff.mpr ⟨by omega, by omega⟩
    obtain ⟨k3, hk3, ek3⟩ : ∃ z : Nat, z < 55 ∧ gss x2.toNatClampNeg = some z := by obtain ⟨k9, hk9⟩ := htk x2.toNatClampNeg (by have := i32_clamp (x := x2) (by omega); omega); exact ⟨k9, hk9.1, hk9.2.1⟩
    refine va_aldq hx hb hK hP 2 0 rfl rfl g23 d_SC_isBeforeAssign_23 ?_
    refine w_top (v2 := .ref (sg sa k3)) (by show va_rf ((gss x2.toNatClampNeg).map (sg sa)) = _; rw [ek3]; rfl) ?_
    refine va_gets (C := "WaferForge$Sign") (n := "ASSIGN") (d := "LWaferForge$Sign;") (v := .ref (sg sa 33)) hx hb ((hSW.2.2.2.1.1 33 (by decide)).1) hS hown (hts _ kF_SC_74) (fun _ h9 => h9) d_SC_isBeforeAssign_24 ?_
    refine lv_acmp_ne (rx := some (sg sa k3)) (ry := some (sg sa 33)) (tgt := 34) hx hb d_SC_isBeforeAssign_27 (by decide) (fun c27 => ?_) (fun c27 => ?_)
    · have q27 : k3 ≠ 33 := fun z => c27 (by rw [z])
      refine lv_iconst (v := 0) hx hb d_SC_isBeforeAssign_34 (by decide) ?_
      have hP9 := hP.sub (ws' := [(h0, .inr (8, [.ref tr, .ref (sg sa h0_sign), .int h0_place, .int h0_size, .long h0_value, .ref ss, .ref sp, .ref szs, .ref sv, .int h0_length, .int h0_at])), (tr, .inr (1, [.ref tx, .int tr_length])), (ss, .inl (css, 2001, .inr (.inr (.inr (.inr (fun j => (gss j).map (sg sa))))))), (sp, .inl (csp, 2001, .inl gsp)), (szs, .inl (cszs, 2001, .inl gszs)), (sv, .inl (csv, 2001, .inr (.inl gsv)))]) [0, 1, 2, 3, 4, 5] rfl
      have hD9 := hD.sub (ws' := [(h0, .inr (8, [.ref tr, .ref (sg sa h0_sign), .int h0_place, .int h0_size, .long h0_value, .ref ss, .ref sp, .ref szs, .ref sv, .int h0_length, .int h0_at])), (tr, .inr (1, [.ref tx, .int tr_length])), (ss, .inl (css, 2001, .inr (.inr (.inr (.inr (fun j => (gss j).map (sg sa))))))), (sp, .inl (csp, 2001, .inl gsp)), (szs, .inl (cszs, 2001, .inl gszs)), (sv, .inl (csv, 2001, .inr (.inl gsv)))]) [0, 1, 2, 3, 4, 5] (by decide) rfl
      exact W.zret (v := 0) hx hb hr (zn01 (Or.inl rfl)) (fun t ht hW => ⟨⟨0, (), rfl, ⟨Or.inl rfl, fun z => absurd z (by decide)⟩, by rw [ht]; exact hP9, va_K.moved hW.alike hK, hD9⟩, hS.F ht⟩) hS.2.2 d_SC_isBeforeAssign_35
    · have q27 : k3 = 33 := hSW.2.2.2.1.2 k3 33 hk3 (by decide : 33 < 55) (Option.some.inj c27)
      refine lv_iconst (v := 1) hx hb d_SC_isBeforeAssign_30 (by decide) ?_
      refine lv_goto (tgt := 35) hx hb d_SC_isBeforeAssign_31 (by decide) ?_
      have hP9 := hP.sub (ws' := [(h0, .inr (8, [.ref tr, .ref (sg sa h0_sign), .int h0_place, .int h0_size, .long h0_value, .ref ss, .ref sp, .ref szs, .ref sv, .int h0_length, .int h0_at])), (tr, .inr (1, [.ref tx, .int tr_length])), (ss, .inl (css, 2001, .inr (.inr (.inr (.inr (fun j => (gss j).map (sg sa))))))), (sp, .inl (csp, 2001, .inl gsp)), (szs, .inl (cszs, 2001, .inl gszs)), (sv, .inl (csv, 2001, .inr (.inl gsv)))]) [0, 1, 2, 3, 4, 5] rfl
      have hD9 := hD.sub (ws' := [(h0, .inr (8, [.ref tr, .ref (sg sa h0_sign), .int h0_place, .int h0_size, .long h0_value, .ref ss, .ref sp, .ref szs, .ref sv, .int h0_length, .int h0_at])), (tr, .inr (1, [.ref tx, .int tr_length])), (ss, .inl (css, 2001, .inr (.inr (.inr (.inr (fun j => (gss j).map (sg sa))))))), (sp, .inl (csp, 2001, .inl gsp)), (szs, .inl (cszs, 2001, .inl gszs)), (sv, .inl (csv, 2001, .inr (.inl gsv)))]) [0, 1, 2, 3, 4, 5] (by decide) rfl
      exact W.zret (v := 1) hx hb hr (zn01 (Or.inr rfl)) (fun t ht hW => ⟨⟨1, (), rfl, ⟨Or.inr rfl, fun _ => ⟨by omega, by rw [← i32_natI (x := x2) (by omega)]; rw [q27] at ek3; exact ek3⟩⟩, by rw [ht]; exact hP9, va_K.moved hW.alike hK, hD9⟩, hS.F ht⟩) hS.2.2 d_SC_isBeforeAssign_35

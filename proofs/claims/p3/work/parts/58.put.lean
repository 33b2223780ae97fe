/-! ByteRow: a text put -/
theorem tk_succ {b : List Int32} {i : Nat} (h : i < b.length) : (b.take (i + 1)).map bn = (b.take i).map bn ++ [bn (b.getD i 0)] := by
  rw [List.take_succ, List.getElem?_eq_getElem h, List.map_append, List.getD_eq_getElem?_getD, List.getElem?_eq_getElem h]
  rfl
abbrev b_BR_putText : ByteArray := prog_3_method_8_code
def y_BR_putText : MethodName := ⟨R_BR, "putText", "(Ljava/lang/String;)V"⟩
abbrev w_BR_putText : List Cond := .code y_BR_putText b_BR_putText 3 none :: lw_g
theorem kC_BR_putText : Cond.code y_BR_putText b_BR_putText 3 none ∈ lw_g := in_g 1261 (by decide +kernel) rfl
theorem d_BR_putText_0 : decode b_BR_putText 0 = .ok (.iconst 0, 1) := by decide +kernel
theorem d_BR_putText_1 : decode b_BR_putText 1 = .ok (.istore_n 2, 1) := by decide +kernel
theorem d_BR_putText_2 : decode b_BR_putText 2 = .ok (.iload_n 2, 1) := by decide +kernel
theorem d_BR_putText_3 : decode b_BR_putText 3 = .ok (.aload_n 1, 1) := by decide +kernel
theorem d_BR_putText_4 : decode b_BR_putText 4 = .ok (.invokevirtual 27, 3) := by decide +kernel
theorem d_BR_putText_7 : decode b_BR_putText 7 = .ok (.if_icmp .ge 18, 3) := by decide +kernel
theorem d_BR_putText_10 : decode b_BR_putText 10 = .ok (.aload_n 0, 1) := by decide +kernel
theorem d_BR_putText_11 : decode b_BR_putText 11 = .ok (.aload_n 1, 1) := by decide +kernel
theorem d_BR_putText_12 : decode b_BR_putText 12 = .ok (.iload_n 2, 1) := by decide +kernel
theorem d_BR_putText_13 : decode b_BR_putText 13 = .ok (.invokevirtual 32, 3) := by decide +kernel
theorem d_BR_putText_16 : decode b_BR_putText 16 = .ok (.invokevirtual 17, 3) := by decide +kernel
theorem d_BR_putText_19 : decode b_BR_putText 19 = .ok (.iinc 2 1, 3) := by decide +kernel
theorem d_BR_putText_22 : decode b_BR_putText 22 = .ok (.goto (-20), 3) := by decide +kernel
theorem d_BR_putText_25 : decode b_BR_putText 25 = .ok (.return_, 1) := by decide +kernel
abbrev at_BR_putText (dC : Nat → ClassId) (dI : Nat → Nat → Nat) (sa : Nat → Nat) (h0 ax : Nat) (cax : ClassId) (nax : Nat) (A : Nat → Prop) (u : (Nat → Int32) × Int32) (t : State) : Prop := match u with | (gax, h0_length) => va_P (dC, dI) cls [(h0, .inr (1, [.ref ax, .int h0_length])), (ax, .inl (cax, nax, .inl gax))] t.heap ∧ va_K (dC, dI) cls [(cax, .byte)] t ∧ va_D A [(h0, .inr (1, [.ref ax, .int h0_length])), (ax, .inl (cax, nax, .inl gax))]
set_option maxHeartbeats 4000000 in
set_option maxRecDepth 100000 in
theorem c_BR_putText (l : Launch) (dC : Nat → ClassId) (dI : Nat → Nat → Nat) (sz : Nat) (sa : Nat → Nat) (wt wv : Nat) (wb : List Int32) (h0 ax : Nat) (cax : ClassId) (h0_length : Int32) (nax : Nat) (gax : Nat → Int32)     (hbr : 0 ≤ h0_length.toInt ∧ h0_length.toInt + (wb.length : Int) ≤ nax ∧ nax < 2147483648) (hbl : (wb.length : Int) < 65536) : Met l y_BR_putText w_BR_putText ({ frames := 4, cells := 0, slots := 0, locals := 85 }) (va_Pc [.ref h0, .ref wt] (fun U => U.heap.size = sz ∧ va_P (dC, dI) cls [(h0, .inr (1, [.ref ax, .int h0_length])), (ax, .inl (cax, nax, .inl gax))] U.heap ∧ va_K (dC, dI) cls [(cax, .byte)] U ∧ va_D (fun _ => True) [(h0, .inr (1, [.ref ax, .int h0_length])), (ax, .inl (cax, nax, .inl gax))] ∧ sw sa (va_A [(h0, .inr (1, [.ref ax, .int h0_length])), (ax, .inl (cax, nax, .inl gax))] sz) U U.heap ∧ sw_str wt wv wb (va_A [(h0, .inr (1, [.ref ax, .int h0_length])), (ax, .inl (cax, nax, .inl gax))] sz) U U.heap)) (va_Qv (fun (u : (Nat → Int32) × Int32) => match u with | (gax2, h0_length2) => (h0_length2.toInt = h0_length.toInt + (wb.length : Int) ∧ bl gax2 h0_length2.toNatClampNeg = bl gax h0_length.toNatClampNeg ++ wb.map bn)) (at_BR_putText dC dI sa h0 ax cax nax (va_A [(h0, .inr (1, [.ref ax, .int h0_length])), (ax, .inl (cax, nax, .inl gax))] sz)) (va_A [(h0, .inr (1, [.ref ax, .int h0_length])), (ax, .inl (cax, nax, .inl gax))] sz)) 0 0 (va_A [(h0, .inr (1, [.ref ax, .int h0_length])), (ax, .inl (cax, nax, .inl gax))] sz) := by
  refine Met.ofW (cc := b_BR_putText) (maxL := 3) (ret := none) (by decide) rfl ?_
  intro p e s m args below meth c s₁ B hml hv
  obtain ⟨rfl, hsz, hP, hK, hD0, hSW, hR0⟩ := hv
  have hx := B.exec
  have hb := B.bytes
  have hr := B.returns
  have hts0 := atoms_spec (ws := w_BR_putText) B.pre
  have hts : ∀ w ∈ lw_g, w.before _ s = true := fun w h => hts0 w (List.mem_cons_of_mem _ h)
  have hown : s.vm.findClass R_BR = some m.cls := findClass_of_methodNamed B.named
  have hlocks := B.notSynchronized
  clear hts0
  subst hsz
  have hD := hD0.self (sz := s.heap.size)
  generalize hAe : va_A [(h0, .inr (1, [.ref ax, .int h0_length])), (ax, .inl (cax, nax, .inl gax))] s.heap.size = A at hD hSW hR0 ⊢
  have hA : ∀ q : Nat, s.heap.size ≤ q → A q := fun q h => by rw [← hAe]; exact Or.inr h
  clear hAe
  have hP : va_P (dC, dI) cls [(h0, .inr (1, [.ref ax, .int h0_length])), (ax, .inl (cax, nax, .inl gax))] s.heap := hP
  have hl := lv_entry ([.ref h0, .ref wt]) (n := 3) (Nat.le_of_ble_eq_true rfl)
  rw [lg_entry_eq]
  generalize (lg_sl ([.ref h0, .ref wt]) ++ List.replicate (3 - (lg_sl ([.ref h0, .ref wt])).length) Slot.unset).toArray = ls at hl ⊢
  have hl : lv_has ls 3 [(0, .ref h0), (1, .ref wt)] := hl
  have k0 : (0 : Int32).toInt = 0 := by decide
  refine w_gen (A := A) hP (fun H locs hP hS => ?_)
  have k1 : (1 : Int32).toInt = 1 := by decide
  refine lv_iconst (v := 0) hx hb d_BR_putText_0 (by decide) ?_
  refine lv_istore_n (lv' := [(2, .int 0), (0, .ref h0), (1, .ref wt)]) hx hb d_BR_putText_1 rfl hl (by decide) rfl (fun ls hl => ?_)
  refine w_loop (σ := Int32 × (Nat → Int32) × Int32) (fun u H locs ls => match u with | (j2_l2, j2_ax, j2_h0_length) => (0 ≤ j2_l2.toInt ∧ j2_l2.toInt ≤ 65536) ∧ (j2_l2.toInt ≤ (wb.length : Int)) ∧ (j2_h0_length.toInt = h0_length.toInt + j2_l2.toInt) ∧ (bl j2_ax j2_h0_length.toNatClampNeg = bl gax h0_length.toNatClampNeg ++ (wb.take j2_l2.toNatClampNeg).map bn) ∧ va_P (dC, dI) cls [(h0, .inr (1, [.ref ax, .int j2_h0_length])), (ax, .inl (cax, nax, .inl j2_ax))] H ∧ va_D A [(h0, .inr (1, [.ref ax, .int j2_h0_length])), (ax, .inl (cax, nax, .inl j2_ax))] ∧ va_S A s.heap H locs ∧ lv_has ls 3 [(0, .ref h0), (1, .ref wt), (2, .int j2_l2)]) (fun u => match u with | (j2_l2, j2_ax, j2_h0_length) => ((wb.length : Int) - j2_l2.toInt).toNat) ?_ (0, gax, h0_length) ⟨by (try dsimp only) <;> omega, by (try dsimp only) <;> omega, by (try dsimp only) <;> omega, (by rw [show Int32.toNatClampNeg 0 = 0 from rfl]; simp), hP, hD, hS, lv_sub hl [1, 2, 0] rfl⟩
  intro N2 ih2 u H locs ls hN2 hI
  obtain ⟨j2_l2, j2_ax, j2_h0_length⟩ := u
  obtain ⟨b_j2_l2, v1, v2, v3, hP, hD, hS, hl⟩ := hI
  have hN2 : ((wb.length : Int) - j2_l2.toInt).toNat < N2 + 1 := hN2
  refine lv_iload_n hx hb d_BR_putText_2 rfl (lv_at hl 2 rfl) ?_
  refine lv_aload_n hx hb d_BR_putText_3 rfl (lv_at hl 1 rfl) ?_
  have hPc := hP.sub (ws' := []) [] rfl
  have hDc := hD.sub (ws' := []) [] (by decide) rfl
  have hKc := hK.sub (tys' := []) [] rfl
  have hFc := va_free (wc := []) hD hS hA [] rfl
  refine va_calli (va_runV (As := []) (rest := [.int j2_l2]) ⟨hx, hb, hml, hown, hts⟩ (c_JS_length l dC dI H.size sa wt wv wb (by omega)) (cwV 0 hts (gV kM_BR_27 kV_JS_length kS_JS_length kI_JS kC_JS_length) rfl rfl rfl (by decide +kernel) ⟨Nat.le_of_ble_eq_true rfl, Nat.le_of_ble_eq_true rfl⟩) ⟨fun a U g mk z => by obtain ⟨z0, z1, zP, zK, zD, zS, zR0⟩ := z; exact ⟨z0, z1, zP, va_K.moved (u := U) (U := U.calling g mk a) (Vm.Alike.refl U.vm) zK, zD, sw.same (u := U) (U := U.calling g mk a) rfl zS, zR0.moved (u := U) (U := U.calling g mk a) (Vm.Alike.refl U.vm)⟩, so_recv (hR0.1) hS, fun U hU hW => ⟨rfl, by rw [hU], by rw [hU]; exact hPc, va_K.moved hW.alike hKc, hDc.weaken (fun _ _ _ _ => trivial), hSW.call hS hFc hW hU, (hR0).call hS hFc hW hU⟩⟩ rfl rfl hl.1 rfl (lv_room (Nat.le_of_ble_eq_true rfl)) d_BR_putText_4 ⟨(Nat.zero_le _), (Nat.zero_le _)⟩) hS (fun q _ h => hFc q h) hFc (fun r1 u t H1 locs ht hvm hw hB hz1 hk1 hS => ?_)
  try dsimp only at hw
  have xr1 := hw
  try clear hw
  obtain ⟨hP1, hK1, hD1⟩ := hB
  rw [ht] at hP1
  obtain ⟨hP, hD⟩ := va_join (wr := [(h0, .inr (1, [.ref ax, .int j2_h0_length])), (ax, .inl (cax, nax, .inl j2_ax))]) (w1 := []) hP hD [] [0, 1] rfl rfl (by decide) (by decide) hk1 hFc hP1 hD1
  clear hPc hDc hKc hFc hz1 hk1 hP1 hK1 hD1
  generalize H1 = H at hP hS ⊢
  have hP : va_P (dC, dI) cls [(h0, .inr (1, [.ref ax, .int j2_h0_length])), (ax, .inl (cax, nax, .inl j2_ax))] H := hP
  have hD : va_D A [(h0, .inr (1, [.ref ax, .int j2_h0_length])), (ax, .inl (cax, nax, .inl j2_ax))] := hD
  refine lv_icmp_ge (tgt := 25) hx hb d_BR_putText_7 (by decide) (fun c7 => ?_) (fun c7 => ?_)
  · have q7 := leI c7
    have hP9 := hP.sub (ws' := [(h0, .inr (1, [.ref ax, .int j2_h0_length])), (ax, .inl (cax, nax, .inl j2_ax))]) [0, 1] rfl
    have hD9 := hD.sub (ws' := [(h0, .inr (1, [.ref ax, .int j2_h0_length])), (ax, .inl (cax, nax, .inl j2_ax))]) [0, 1] (by decide) rfl
    exact W.vret hx hb hr (fun t ht hW => ⟨⟨(j2_ax, j2_h0_length), rfl, (⟨by (try dsimp only) <;> omega, by (try dsimp only); rw [v3, List.take_of_length_le (by have := i32_clamp (x := j2_l2) (by omega); omega)]⟩), by rw [ht]; exact hP9, va_K.moved hW.alike hK, hD9⟩, hS.F ht⟩) hS.2.2 d_BR_putText_25
  · have q7 := nleI c7
    refine lv_aload_n hx hb d_BR_putText_10 rfl (lv_at hl 0 rfl) ?_
    refine lv_aload_n hx hb d_BR_putText_11 rfl (lv_at hl 1 rfl) ?_
    refine lv_iload_n hx hb d_BR_putText_12 rfl (lv_at hl 2 rfl) ?_
    have hPc := hP.sub (ws' := []) [] rfl
    have hDc := hD.sub (ws' := []) [] (by decide) rfl
    have hKc := hK.sub (tys' := []) [] rfl
    have hFc := va_free (wc := []) hD hS hA [] rfl
    refine va_calli (va_runV (As := [.int j2_l2]) (rest := [.ref h0]) ⟨hx, hb, hml, hown, hts⟩ (c_JS_charAt l dC dI H.size sa wt wv wb j2_l2 (by omega) (by omega)) (cwV 1 hts (gV kM_BR_32 kV_JS_charAt kS_JS_charAt kI_JS kC_JS_charAt) rfl rfl rfl (by decide +kernel) ⟨Nat.le_of_ble_eq_true rfl, Nat.le_of_ble_eq_true rfl⟩) ⟨fun a U g mk z => by obtain ⟨z0, z1, zP, zK, zD, zS, zR0⟩ := z; exact ⟨z0, z1, zP, va_K.moved (u := U) (U := U.calling g mk a) (Vm.Alike.refl U.vm) zK, zD, sw.same (u := U) (U := U.calling g mk a) rfl zS, zR0.moved (u := U) (U := U.calling g mk a) (Vm.Alike.refl U.vm)⟩, so_recv (hR0.1) hS, fun U hU hW => ⟨rfl, by rw [hU], by rw [hU]; exact hPc, va_K.moved hW.alike hKc, hDc.weaken (fun _ _ _ _ => trivial), hSW.call hS hFc hW hU, (hR0).call hS hFc hW hU⟩⟩ rfl rfl hl.1 rfl (lv_room (Nat.le_of_ble_eq_true rfl)) d_BR_putText_13 ⟨(Nat.zero_le _), (Nat.zero_le _)⟩) hS (fun q _ h => hFc q h) hFc (fun r2 u t H1 locs ht hvm hw hB hz1 hk1 hS => ?_)
    try dsimp only at hw
    have xr2 := hw
    try clear hw
    obtain ⟨hP1, hK1, hD1⟩ := hB
    rw [ht] at hP1
    obtain ⟨hP, hD⟩ := va_join (wr := [(h0, .inr (1, [.ref ax, .int j2_h0_length])), (ax, .inl (cax, nax, .inl j2_ax))]) (w1 := []) hP hD [] [0, 1] rfl rfl (by decide) (by decide) hk1 hFc hP1 hD1
    clear hPc hDc hKc hFc hz1 hk1 hP1 hK1 hD1
    generalize H1 = H at hP hS ⊢
    have hP : va_P (dC, dI) cls [(h0, .inr (1, [.ref ax, .int j2_h0_length])), (ax, .inl (cax, nax, .inl j2_ax))] H := hP
    have hD : va_D A [(h0, .inr (1, [.ref ax, .int j2_h0_length])), (ax, .inl (cax, nax, .inl j2_ax))] := hD
    have hPc := hP.sub (ws' := [(h0, .inr (1, [.ref ax, .int j2_h0_length])), (ax, .inl (cax, nax, .inl j2_ax))]) [0, 1] rfl
    have hDc := hD.sub (ws' := [(h0, .inr (1, [.ref ax, .int j2_h0_length])), (ax, .inl (cax, nax, .inl j2_ax))]) [0, 1] (by decide) rfl
    have hKc := hK.sub (tys' := [(cax, .byte)]) [0] rfl
    have hFc := va_free (wc := [(h0, .inr (1, [.ref ax, .int j2_h0_length])), (ax, .inl (cax, nax, .inl j2_ax))]) hD hS hA [0, 1] rfl
    refine va_callv (va_runV (As := [.int r2]) (rest := []) ⟨hx, hb, hml, hown, hts⟩ (c_BR_put l dC dI h0 ax H.size cax nax j2_h0_length j2_ax (by omega) (by omega) (by omega) r2) (cwV 1 hts (gV kM_BR_17 kV_BR_put kS_BR_put kI_BR kC_BR_put) rfl rfl rfl (by decide +kernel) ⟨Nat.le_of_ble_eq_true rfl, Nat.le_of_ble_eq_true rfl⟩) ⟨fun a U g mk z => by obtain ⟨z0, z1, zP, zK, zD⟩ := z; exact ⟨z0, z1, zP, va_K.moved (u := U) (U := U.calling g mk a) (Vm.Alike.refl U.vm) zK, zD⟩, va_recv hKc hPc (ci := 1) (q0 := 0) rfl rfl, fun U hU hW => ⟨rfl, by rw [hU], by rw [hU]; exact hPc, va_K.moved hW.alike hKc, hDc.weaken (fun _ _ _ _ => trivial)⟩⟩ rfl rfl hl.1 rfl (lv_room (Nat.le_of_ble_eq_true rfl)) d_BR_putText_16 ⟨(Nat.zero_le _), (Nat.zero_le _)⟩) hS (fun q _ h => hFc q h) hFc (fun u t H1 locs ht hvm hw hB hz1 hk1 hS => ?_)
    obtain ⟨n4, f5⟩ := u
    try dsimp only at hw
    have tn4 := br_put_in (by omega) (by omega) (by omega) hw
    have bn4 := br_put_bl (by omega) (by omega) (by omega) hw
    obtain ⟨hP1, hK1, hD1⟩ := hB
    rw [ht] at hP1
    obtain ⟨hP, hD⟩ := va_join (wr := []) (w1 := [(h0, .inr (1, [.ref ax, .int n4])), (ax, .inl (cax, nax, .inl f5))]) hP hD [0, 1] [] rfl rfl (by decide) (by decide) hk1 hFc hP1 hD1
    clear hPc hDc hKc hFc hz1 hk1 hP1 hK1 hD1
    generalize H1 = H at hP hS ⊢
    have hP : va_P (dC, dI) cls [(h0, .inr (1, [.ref ax, .int n4])), (ax, .inl (cax, nax, .inl f5))] H := hP
    have hD : va_D A [(h0, .inr (1, [.ref ax, .int n4])), (ax, .inl (cax, nax, .inl f5))] := hD
    obtain ⟨x6, ex6⟩ : ∃ z : Int32, z = j2_l2 + 1 := ⟨_, rfl⟩
    have tx6 : x6.toInt = j2_l2.toInt + 1 := by have z := i32_add ex6 (by omega) (by omega); omega
    refine lv_iinc (v := x6) (lv' := [(2, .int x6), (0, .ref h0), (1, .ref wt)]) hx hb d_BR_putText_19 hl (k := 2) rfl (by rw [ex6]; rfl) (by decide) rfl (fun ls hl => ?_)
    refine lv_goto (tgt := 2) hx hb d_BR_putText_22 (by decide) ?_
    have z1 := bn4 (by omega)
    have z8 := i32_clamp (x := j2_l2) (by omega)
    have z9 : bn r2 = bn (wb.getD j2_l2.toNatClampNeg 0) := by rw [xr2, bn_and, bn_nI (bn_lt _)]
    exact ih2 (x6, f5, n4) _ _ _ (by show ((wb.length : Int) - x6.toInt).toNat < N2; omega) ⟨by (try dsimp only) <;> omega, by (try dsimp only) <;> omega, by (try dsimp only) <;> omega, (by rw [z1, v3, z9, show x6.toNatClampNeg = j2_l2.toNatClampNeg + 1 from clampN (by omega), tk_succ (by omega), List.append_assoc]), hP, hD, hS, lv_sub hl [1, 2, 0] rfl⟩

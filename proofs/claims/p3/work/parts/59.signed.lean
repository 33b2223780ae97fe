/-! ByteRow: a signed number put -/
def sleb : Nat → Int → List Nat
  | 0, v => [(v % 128).toNat]
  | k + 1, v => if v < -64 ∨ 63 < v then ((v % 128).toNat + 128) :: sleb k (v / 128) else [(v % 128).toNat]
theorem sleb_len : ∀ (k : Nat) (v : Int), 1 ≤ (sleb k v).length ∧ (sleb k v).length ≤ k + 1
  | 0, v => by simp [sleb]
  | k + 1, v => by
    have := sleb_len k (v / 128)
    unfold sleb
    split
    · rw [List.length_cons]; omega
    · simp
theorem an7_nat (r : Int64) : (r &&& 127).toBitVec.toNat = r.toBitVec.toNat % 128 := by
  rw [Int64.toBitVec_and, BitVec.toNat_and]
  exact Nat.and_two_pow_sub_one_eq_mod r.toBitVec.toNat 7
theorem an7_mod (r : Int64) : (r.toInt % 128).toNat = r.toBitVec.toNat % 128 := by
  have h : r.toInt = r.toBitVec.toInt := rfl
  rw [h, BitVec.toInt_eq_toNat_cond]
  split <;> omega
theorem an7_32 (r : Int64) : (r &&& 127).toInt32.toBitVec.toNat = r.toBitVec.toNat % 128 := by
  rw [Int64.toBitVec_toInt32, BitVec.signExtend_eq_setWidth_of_le _ (by decide), BitVec.toNat_setWidth, an7_nat]
  omega
theorem bn_l (r : Int64) : bn (r &&& 127).toInt32 = (r.toInt % 128).toNat := by
  unfold bn
  rw [an7_32, an7_mod]
  omega
theorem bn_h (r : Int64) : bn ((r &&& 127).toInt32 ||| 128) = (r.toInt % 128).toNat + 128 := by
  have e : (r &&& 127).toInt32 &&& 127 = (r &&& 127).toInt32 := by
    apply Int32.toBitVec_inj.mp
    apply BitVec.eq_of_toNat_eq
    rw [Int32.toBitVec_and, BitVec.toNat_and, an7_32]
    have := Nat.and_two_pow_sub_one_eq_mod (r.toBitVec.toNat % 128) 7
    have e2 : (127 : Int32).toBitVec.toNat = 2 ^ 7 - 1 := rfl
    rw [e2, this]
    omega
  have q := bn_low (r &&& 127).toInt32
  rw [e] at q
  rw [q, an7_mod]
  have : un (r &&& 127).toInt32 = (r &&& 127).toInt32.toBitVec.toNat := rfl
  rw [this, an7_32]
  omega
theorem shr7 (r : Int64) : (r >>> ((7 : Int32).toInt64 &&& 63)).toInt = r.toInt / 128 := by
  have h : (r >>> ((7 : Int32).toInt64 &&& 63)).toInt = (r >>> ((7 : Int32).toInt64 &&& 63)).toBitVec.toInt := rfl
  have e : ((7 : Int32).toInt64 &&& 63 : Int64) = 7 := by decide
  rw [h, e, Int64.toBitVec_shiftRight]
  have e2 : ((7 : Int64).toBitVec.smod 64).toNat = 7 := by decide
  rw [BitVec.sshiftRight', e2, BitVec.toInt_sshiftRight, Int.shiftRight_eq_div_pow]
  rfl
theorem sleb_go {k : Nat} {v : Int} (h : v < -64 ∨ 63 < v) : sleb (k + 1) v = ((v % 128).toNat + 128) :: sleb k (v / 128) := by
  have : sleb (k + 1) v = if v < -64 ∨ 63 < v then ((v % 128).toNat + 128) :: sleb k (v / 128) else [(v % 128).toNat] := rfl
  rw [this, if_pos h]
theorem sleb_end {k : Nat} {v : Int} (h : k = 0 ∨ (-64 ≤ v ∧ v ≤ 63)) : sleb k v = [(v % 128).toNat] := by
  cases k with
  | zero => rfl
  | succ k =>
    have : sleb (k + 1) v = if v < -64 ∨ 63 < v then ((v % 128).toNat + 128) :: sleb k (v / 128) else [(v % 128).toNat] := rfl
    rw [this, if_neg (by omega)]
abbrev b_BR_putSigned : ByteArray := prog_3_method_7_code
def y_BR_putSigned : MethodName := ⟨R_BR, "putSigned", "(J)V"⟩
abbrev w_BR_putSigned : List Cond := .code y_BR_putSigned b_BR_putSigned 6 none :: lw_g
theorem kC_BR_putSigned : Cond.code y_BR_putSigned b_BR_putSigned 6 none ∈ lw_g := in_g 1114 (by decide +kernel) rfl
theorem d_BR_putSigned_0 : decode b_BR_putSigned 0 = .ok (.lload_n 1, 1) := by decide +kernel
theorem d_BR_putSigned_1 : decode b_BR_putSigned 1 = .ok (.lstore_n 3, 1) := by decide +kernel
theorem d_BR_putSigned_2 : decode b_BR_putSigned 2 = .ok (.iconst 0, 1) := by decide +kernel
theorem d_BR_putSigned_3 : decode b_BR_putSigned 3 = .ok (.istore 5, 2) := by decide +kernel
theorem d_BR_putSigned_5 : decode b_BR_putSigned 5 = .ok (.iload 5, 2) := by decide +kernel
theorem d_BR_putSigned_7 : decode b_BR_putSigned 7 = .ok (.bipush 10, 2) := by decide +kernel
theorem d_BR_putSigned_9 : decode b_BR_putSigned 9 = .ok (.if_icmp .ge 44, 3) := by decide +kernel
theorem d_BR_putSigned_12 : decode b_BR_putSigned 12 = .ok (.lload_n 3, 1) := by decide +kernel
theorem d_BR_putSigned_13 : decode b_BR_putSigned 13 = .ok (.ldc2_w 21, 3) := by decide +kernel
theorem d_BR_putSigned_16 : decode b_BR_putSigned 16 = .ok (.lcmp, 1) := by decide +kernel
theorem d_BR_putSigned_17 : decode b_BR_putSigned 17 = .ok (.ifCond .lt 11, 3) := by decide +kernel
theorem d_BR_putSigned_20 : decode b_BR_putSigned 20 = .ok (.lload_n 3, 1) := by decide +kernel
theorem d_BR_putSigned_21 : decode b_BR_putSigned 21 = .ok (.ldc2_w 23, 3) := by decide +kernel
theorem d_BR_putSigned_24 : decode b_BR_putSigned 24 = .ok (.lcmp, 1) := by decide +kernel
theorem d_BR_putSigned_25 : decode b_BR_putSigned 25 = .ok (.ifCond .le 28, 3) := by decide +kernel
theorem d_BR_putSigned_28 : decode b_BR_putSigned 28 = .ok (.aload_n 0, 1) := by decide +kernel
theorem d_BR_putSigned_29 : decode b_BR_putSigned 29 = .ok (.lload_n 3, 1) := by decide +kernel
theorem d_BR_putSigned_30 : decode b_BR_putSigned 30 = .ok (.ldc2_w 25, 3) := by decide +kernel
theorem d_BR_putSigned_33 : decode b_BR_putSigned 33 = .ok (.land, 1) := by decide +kernel
theorem d_BR_putSigned_34 : decode b_BR_putSigned 34 = .ok (.l2i, 1) := by decide +kernel
theorem d_BR_putSigned_35 : decode b_BR_putSigned 35 = .ok (.sipush 128, 3) := by decide +kernel
theorem d_BR_putSigned_38 : decode b_BR_putSigned 38 = .ok (.ior, 1) := by decide +kernel
theorem d_BR_putSigned_39 : decode b_BR_putSigned 39 = .ok (.invokevirtual 17, 3) := by decide +kernel
theorem d_BR_putSigned_42 : decode b_BR_putSigned 42 = .ok (.lload_n 3, 1) := by decide +kernel
theorem d_BR_putSigned_43 : decode b_BR_putSigned 43 = .ok (.bipush 7, 2) := by decide +kernel
theorem d_BR_putSigned_45 : decode b_BR_putSigned 45 = .ok (.lshr, 1) := by decide +kernel
theorem d_BR_putSigned_46 : decode b_BR_putSigned 46 = .ok (.lstore_n 3, 1) := by decide +kernel
theorem d_BR_putSigned_47 : decode b_BR_putSigned 47 = .ok (.iinc 5 1, 3) := by decide +kernel
theorem d_BR_putSigned_50 : decode b_BR_putSigned 50 = .ok (.goto (-45), 3) := by decide +kernel
theorem d_BR_putSigned_53 : decode b_BR_putSigned 53 = .ok (.aload_n 0, 1) := by decide +kernel
theorem d_BR_putSigned_54 : decode b_BR_putSigned 54 = .ok (.lload_n 3, 1) := by decide +kernel
theorem d_BR_putSigned_55 : decode b_BR_putSigned 55 = .ok (.ldc2_w 25, 3) := by decide +kernel
theorem d_BR_putSigned_58 : decode b_BR_putSigned 58 = .ok (.land, 1) := by decide +kernel
theorem d_BR_putSigned_59 : decode b_BR_putSigned 59 = .ok (.l2i, 1) := by decide +kernel
theorem d_BR_putSigned_60 : decode b_BR_putSigned 60 = .ok (.invokevirtual 17, 3) := by decide +kernel
theorem d_BR_putSigned_63 : decode b_BR_putSigned 63 = .ok (.return_, 1) := by decide +kernel
theorem kL_BR_25 : Cond.constantLong R_BR 25 (127) ∈ lw_g := in_g 1117 (by decide +kernel) rfl
theorem kL_BR_21 : Cond.constantLong R_BR 21 (-64) ∈ lw_g := in_g 1115 (by decide +kernel) rfl
theorem kL_BR_23 : Cond.constantLong R_BR 23 (63) ∈ lw_g := in_g 1116 (by decide +kernel) rfl
abbrev at_BR_putSigned (dC : Nat → ClassId) (dI : Nat → Nat → Nat) (h0 ax : Nat) (cax : ClassId) (nax : Nat) (A : Nat → Prop) (u : (Nat → Int32) × Int32) (t : State) : Prop := match u with | (gax, h0_length) => va_P (dC, dI) cls [(h0, .inr (1, [.ref ax, .int h0_length])), (ax, .inl (cax, nax, .inl gax))] t.heap ∧ va_K (dC, dI) cls [(cax, .byte)] t ∧ va_D A [(h0, .inr (1, [.ref ax, .int h0_length])), (ax, .inl (cax, nax, .inl gax))]
set_option maxHeartbeats 4000000 in
set_option maxRecDepth 100000 in
theorem c_BR_putSigned (l : Launch) (dC : Nat → ClassId) (dI : Nat → Nat → Nat) (sz : Nat) (h0 ax : Nat) (cax : ClassId) (h0_length : Int32) (nax : Nat) (gax : Nat → Int32)   (p0 : Int64)  (hbr : 0 ≤ h0_length.toInt ∧ h0_length.toInt + 11 ≤ nax ∧ nax < 2147483648) : Met l y_BR_putSigned w_BR_putSigned ({ frames := 1, cells := 0, slots := 0, locals := 21 }) (va_Pc [.ref h0, .long p0] (fun U => U.heap.size = sz ∧ va_P (dC, dI) cls [(h0, .inr (1, [.ref ax, .int h0_length])), (ax, .inl (cax, nax, .inl gax))] U.heap ∧ va_K (dC, dI) cls [(cax, .byte)] U ∧ va_D (fun _ => True) [(h0, .inr (1, [.ref ax, .int h0_length])), (ax, .inl (cax, nax, .inl gax))])) (va_Qv (fun (u : (Nat → Int32) × Int32) => match u with | (gax2, h0_length2) => (h0_length2.toInt = h0_length.toInt + (sleb 10 p0.toInt).length ∧ bl gax2 h0_length2.toNatClampNeg = bl gax h0_length.toNatClampNeg ++ sleb 10 p0.toInt)) (at_BR_putSigned dC dI h0 ax cax nax (va_A [(h0, .inr (1, [.ref ax, .int h0_length])), (ax, .inl (cax, nax, .inl gax))] sz)) (va_A [(h0, .inr (1, [.ref ax, .int h0_length])), (ax, .inl (cax, nax, .inl gax))] sz)) 0 0 (va_A [(h0, .inr (1, [.ref ax, .int h0_length])), (ax, .inl (cax, nax, .inl gax))] sz) := by
  refine Met.ofW (cc := b_BR_putSigned) (maxL := 6) (ret := none) (by decide) rfl ?_
  intro p e s m args below meth c s₁ B hml hv
  obtain ⟨rfl, hsz, hP, hK, hD0⟩ := hv
  have hx := B.exec
  have hb := B.bytes
  have hr := B.returns
  have hts0 := atoms_spec (ws := w_BR_putSigned) B.pre
  have hts : ∀ w ∈ lw_g, w.before _ s = true := fun w h => hts0 w (List.mem_cons_of_mem _ h)
  have hown : s.vm.findClass R_BR = some m.cls := findClass_of_methodNamed B.named
  have hlocks := B.notSynchronized
  clear hts0
  subst hsz
  have hD := hD0.self (sz := s.heap.size)
  generalize hAe : va_A [(h0, .inr (1, [.ref ax, .int h0_length])), (ax, .inl (cax, nax, .inl gax))] s.heap.size = A at hD ⊢
  have hA : ∀ q : Nat, s.heap.size ≤ q → A q := fun q h => by rw [← hAe]; exact Or.inr h
  clear hAe
  have hP : va_P (dC, dI) cls [(h0, .inr (1, [.ref ax, .int h0_length])), (ax, .inl (cax, nax, .inl gax))] s.heap := hP
  have hl := lv_entry ([.ref h0, .long p0]) (n := 6) (Nat.le_of_ble_eq_true rfl)
  rw [lg_entry_eq]
  generalize (lg_sl ([.ref h0, .long p0]) ++ List.replicate (6 - (lg_sl ([.ref h0, .long p0])).length) Slot.unset).toArray = ls at hl ⊢
  have hl : lv_has ls 6 [(0, .ref h0), (1, .long p0)] := hl
  have k0 : (0 : Int32).toInt = 0 := by decide
  refine w_gen (A := A) hP (fun H locs hP hS => ?_)
  have k1 : (1 : Int32).toInt = 1 := by decide
  have k7 : (7 : Int32).toInt = 7 := by decide
  have k10 : (10 : Int32).toInt = 10 := by decide
  have k128 : (128 : Int32).toInt = 128 := by decide
  refine lv_lload_n hx hb d_BR_putSigned_0 rfl (lv_at hl 1 rfl) ?_
  refine lv_lstore_n (lv' := [(3, .long p0), (0, .ref h0), (1, .long p0)]) hx hb d_BR_putSigned_1 rfl hl (by decide) rfl (fun ls hl => ?_)
  refine lv_iconst (v := 0) hx hb d_BR_putSigned_2 (by decide) ?_
  refine lv_istore (lv' := [(5, .int 0), (3, .long p0), (0, .ref h0), (1, .long p0)]) hx hb d_BR_putSigned_3 hl (by decide) rfl (fun ls hl => ?_)
  refine w_loop (σ := Int64 × Int32 × (Nat → Int32) × Int32) (fun u H locs ls => match u with | (j5_l3, j5_l5, j5_ax, j5_h0_length) => (0 ≤ j5_l5.toInt ∧ j5_l5.toInt ≤ 10) ∧ (j5_h0_length.toInt = h0_length.toInt + j5_l5.toInt) ∧ (bl j5_ax j5_h0_length.toNatClampNeg ++ sleb (10 - j5_l5.toInt).toNat j5_l3.toInt = bl gax h0_length.toNatClampNeg ++ sleb 10 p0.toInt) ∧ va_P (dC, dI) cls [(h0, .inr (1, [.ref ax, .int j5_h0_length])), (ax, .inl (cax, nax, .inl j5_ax))] H ∧ va_D A [(h0, .inr (1, [.ref ax, .int j5_h0_length])), (ax, .inl (cax, nax, .inl j5_ax))] ∧ va_S A s.heap H locs ∧ lv_has ls 6 [(0, .ref h0), (3, .long j5_l3), (5, .int j5_l5)]) (fun u => match u with | (j5_l3, j5_l5, j5_ax, j5_h0_length) => (10 - j5_l5.toInt).toNat) ?_ (p0, 0, gax, h0_length) ⟨by (try dsimp only) <;> omega, by (try dsimp only) <;> omega, rfl, hP, hD, hS, lv_sub hl [2, 1, 0] rfl⟩
  intro N5 ih5 u H locs ls hN5 hI
  obtain ⟨j5_l3, j5_l5, j5_ax, j5_h0_length⟩ := u
  obtain ⟨b_j5_l5, v2, v3, hP, hD, hS, hl⟩ := hI
  have hN5 : (10 - j5_l5.toInt).toNat < N5 + 1 := hN5
  refine lv_iload hx hb d_BR_putSigned_5 (lv_at hl 2 rfl) ?_
  refine lv_bipush (v := 10) hx hb d_BR_putSigned_7 (by decide) ?_
  refine w_cut (pc2 := 53) (σ := Unit) (fun u H locs ls => match u with | _ => (j5_l5.toInt = 10 ∨ (-64 ≤ j5_l3.toInt ∧ j5_l3.toInt ≤ 63)) ∧ va_P (dC, dI) cls [(h0, .inr (1, [.ref ax, .int j5_h0_length])), (ax, .inl (cax, nax, .inl j5_ax))] H ∧ va_D A [(h0, .inr (1, [.ref ax, .int j5_h0_length])), (ax, .inl (cax, nax, .inl j5_ax))] ∧ va_S A s.heap H locs ∧ lv_has ls 6 [(0, .ref h0), (3, .long j5_l3)]) (fun u => match u with | _ => []) ?_ (fun jn53 => ?_)
  · intro u H locs ls hI
    obtain ⟨y53, hP, hD, hS, hl⟩ := hI
    refine lv_aload_n hx hb d_BR_putSigned_53 rfl (lv_at hl 0 rfl) ?_
    refine lv_lload_n hx hb d_BR_putSigned_54 rfl (lv_at hl 1 rfl) ?_
    refine lv_ldc2 hx hb hown (hts _ kL_BR_25) d_BR_putSigned_55 ?_
    refine lv_topl (fun x1 ex1 => ?_)
    have tx1 : x1.toInt = 127 := by rw [ex1]; decide
    refine lv_land hx hb d_BR_putSigned_58 ?_
    refine lv_topl (fun x2 ex2 => ?_)
    refine lv_l2i hx hb d_BR_putSigned_59 rfl ?_
    refine lv_topi (fun x3 ex3 => ?_)
    have hPc := hP.sub (ws' := [(h0, .inr (1, [.ref ax, .int j5_h0_length])), (ax, .inl (cax, nax, .inl j5_ax))]) [0, 1] rfl
    have hDc := hD.sub (ws' := [(h0, .inr (1, [.ref ax, .int j5_h0_length])), (ax, .inl (cax, nax, .inl j5_ax))]) [0, 1] (by decide) rfl
    have hKc := hK.sub (tys' := [(cax, .byte)]) [0] rfl
    have hFc := va_free (wc := [(h0, .inr (1, [.ref ax, .int j5_h0_length])), (ax, .inl (cax, nax, .inl j5_ax))]) hD hS hA [0, 1] rfl
    refine va_callv (va_runV (As := [.int x3]) (rest := []) ⟨hx, hb, hml, hown, hts⟩ (c_BR_put l dC dI h0 ax H.size cax nax j5_h0_length j5_ax (by omega) (by omega) (by omega) x3) (cwV 1 hts (gV kM_BR_17 kV_BR_put kS_BR_put kI_BR kC_BR_put) rfl rfl rfl (by decide +kernel) ⟨Nat.le_of_ble_eq_true rfl, Nat.le_of_ble_eq_true rfl⟩) ⟨fun a U g mk z => by obtain ⟨z0, z1, zP, zK, zD⟩ := z; exact ⟨z0, z1, zP, va_K.moved (u := U) (U := U.calling g mk a) (Vm.Alike.refl U.vm) zK, zD⟩, va_recv hKc hPc (ci := 1) (q0 := 0) rfl rfl, fun U hU hW => ⟨rfl, by rw [hU], by rw [hU]; exact hPc, va_K.moved hW.alike hKc, hDc.weaken (fun _ _ _ _ => trivial)⟩⟩ rfl rfl hl.1 rfl (lv_room (Nat.le_of_ble_eq_true rfl)) d_BR_putSigned_60 ⟨(Nat.zero_le _), (Nat.zero_le _)⟩) hS (fun q _ h => hFc q h) hFc (fun u t H1 locs ht hvm hw hB hz1 hk1 hS => ?_)
    obtain ⟨n5, f6⟩ := u
    try dsimp only at hw
    have tn5 := br_put_in (by omega) (by omega) (by omega) hw
    have bn5 := br_put_bl (by omega) (by omega) (by omega) hw
    obtain ⟨hP1, hK1, hD1⟩ := hB
    rw [ht] at hP1
    obtain ⟨hP, hD⟩ := va_join (wr := []) (w1 := [(h0, .inr (1, [.ref ax, .int n5])), (ax, .inl (cax, nax, .inl f6))]) hP hD [0, 1] [] rfl rfl (by decide) (by decide) hk1 hFc hP1 hD1
    clear hPc hDc hKc hFc hz1 hk1 hP1 hK1 hD1
    generalize H1 = H at hP hS ⊢
    have hP : va_P (dC, dI) cls [(h0, .inr (1, [.ref ax, .int n5])), (ax, .inl (cax, nax, .inl f6))] H := hP
    have hD : va_D A [(h0, .inr (1, [.ref ax, .int n5])), (ax, .inl (cax, nax, .inl f6))] := hD
    have z1 := bn5 (by omega)
    have z2 : bn x3 = (j5_l3.toInt % 128).toNat := by rw [ex3, ex2, ex1]; exact bn_l j5_l3
    have z4 := sleb_end (k := (10 - j5_l5.toInt).toNat) (v := j5_l3.toInt) (by omega)
    have hP9 := hP.sub (ws' := [(h0, .inr (1, [.ref ax, .int n5])), (ax, .inl (cax, nax, .inl f6))]) [0, 1] rfl
    have hD9 := hD.sub (ws' := [(h0, .inr (1, [.ref ax, .int n5])), (ax, .inl (cax, nax, .inl f6))]) [0, 1] (by decide) rfl
    exact W.vret hx hb hr (fun t ht hW => ⟨⟨(f6, n5), rfl, ((by have z5 := v3; rw [z4] at z5; have z6 := congrArg List.length z5; rw [List.length_append, List.length_append, bl_len, bl_len, List.length_singleton] at z6; have z7 := i32_clamp (x := j5_h0_length) (by omega); have z8 := i32_clamp (x := h0_length) (by omega); exact ⟨by (try dsimp only) <;> omega, by rw [z1, z2]; exact z5⟩)), by rw [ht]; exact hP9, va_K.moved hW.alike hK, hD9⟩, hS.F ht⟩) hS.2.2 d_BR_putSigned_63
  · skip
    refine lv_icmp_ge (tgt := 53) hx hb d_BR_putSigned_9 (by decide) (fun c9 => ?_) (fun c9 => ?_)
    · have q9 := leI c9
      exact jn53 () _ _ _ ⟨by (try dsimp only) <;> omega, hP, hD, hS, lv_sub hl [0, 1] rfl⟩
    · have q9 := nleI c9
      refine lv_lload_n hx hb d_BR_putSigned_12 rfl (lv_at hl 1 rfl) ?_
      refine lv_ldc2 hx hb hown (hts _ kL_BR_21) d_BR_putSigned_13 ?_
      refine lv_topl (fun x7 ex7 => ?_)
      have tx7 : x7.toInt = -64 := by rw [ex7]; decide
      refine W.lcmp hx hb d_BR_putSigned_16 ?_
      refine lv_topi (fun x8 ex8 => ?_)
      have tx8 := lgc ex8
      refine w_cut (pc2 := 28) (σ := Unit) (fun u H locs ls => match u with | _ => (j5_l3.toInt < -64 ∨ 63 < j5_l3.toInt) ∧ va_P (dC, dI) cls [(h0, .inr (1, [.ref ax, .int j5_h0_length])), (ax, .inl (cax, nax, .inl j5_ax))] H ∧ va_D A [(h0, .inr (1, [.ref ax, .int j5_h0_length])), (ax, .inl (cax, nax, .inl j5_ax))] ∧ va_S A s.heap H locs ∧ lv_has ls 6 [(0, .ref h0), (3, .long j5_l3), (5, .int j5_l5)]) (fun u => match u with | _ => []) ?_ (fun jn28 => ?_)
      · intro u H locs ls hI
        obtain ⟨y28, hP, hD, hS, hl⟩ := hI
        refine lv_aload_n hx hb d_BR_putSigned_28 rfl (lv_at hl 0 rfl) ?_
        refine lv_lload_n hx hb d_BR_putSigned_29 rfl (lv_at hl 1 rfl) ?_
        refine lv_ldc2 hx hb hown (hts _ kL_BR_25) d_BR_putSigned_30 ?_
        refine lv_topl (fun x9 ex9 => ?_)
        have tx9 : x9.toInt = 127 := by rw [ex9]; decide
        refine lv_land hx hb d_BR_putSigned_33 ?_
        refine lv_topl (fun x10 ex10 => ?_)
        refine lv_l2i hx hb d_BR_putSigned_34 rfl ?_
        refine lv_topi (fun x11 ex11 => ?_)
        refine lv_sipush (v := 128) hx hb d_BR_putSigned_35 (by decide) ?_
        refine lv_ior hx hb d_BR_putSigned_38 ?_
        refine lv_topi (fun x12 ex12 => ?_)
        have hPc := hP.sub (ws' := [(h0, .inr (1, [.ref ax, .int j5_h0_length])), (ax, .inl (cax, nax, .inl j5_ax))]) [0, 1] rfl
        have hDc := hD.sub (ws' := [(h0, .inr (1, [.ref ax, .int j5_h0_length])), (ax, .inl (cax, nax, .inl j5_ax))]) [0, 1] (by decide) rfl
        have hKc := hK.sub (tys' := [(cax, .byte)]) [0] rfl
        have hFc := va_free (wc := [(h0, .inr (1, [.ref ax, .int j5_h0_length])), (ax, .inl (cax, nax, .inl j5_ax))]) hD hS hA [0, 1] rfl
        refine va_callv (va_runV (As := [.int x12]) (rest := []) ⟨hx, hb, hml, hown, hts⟩ (c_BR_put l dC dI h0 ax H.size cax nax j5_h0_length j5_ax (by omega) (by omega) (by omega) x12) (cwV 1 hts (gV kM_BR_17 kV_BR_put kS_BR_put kI_BR kC_BR_put) rfl rfl rfl (by decide +kernel) ⟨Nat.le_of_ble_eq_true rfl, Nat.le_of_ble_eq_true rfl⟩) ⟨fun a U g mk z => by obtain ⟨z0, z1, zP, zK, zD⟩ := z; exact ⟨z0, z1, zP, va_K.moved (u := U) (U := U.calling g mk a) (Vm.Alike.refl U.vm) zK, zD⟩, va_recv hKc hPc (ci := 1) (q0 := 0) rfl rfl, fun U hU hW => ⟨rfl, by rw [hU], by rw [hU]; exact hPc, va_K.moved hW.alike hKc, hDc.weaken (fun _ _ _ _ => trivial)⟩⟩ rfl rfl hl.1 rfl (lv_room (Nat.le_of_ble_eq_true rfl)) d_BR_putSigned_39 ⟨(Nat.zero_le _), (Nat.zero_le _)⟩) hS (fun q _ h => hFc q h) hFc (fun u t H1 locs ht hvm hw hB hz1 hk1 hS => ?_)
        obtain ⟨n14, f15⟩ := u
        try dsimp only at hw
        have tn14 := br_put_in (by omega) (by omega) (by omega) hw
        have bn14 := br_put_bl (by omega) (by omega) (by omega) hw
        obtain ⟨hP1, hK1, hD1⟩ := hB
        rw [ht] at hP1
        obtain ⟨hP, hD⟩ := va_join (wr := []) (w1 := [(h0, .inr (1, [.ref ax, .int n14])), (ax, .inl (cax, nax, .inl f15))]) hP hD [0, 1] [] rfl rfl (by decide) (by decide) hk1 hFc hP1 hD1
        clear hPc hDc hKc hFc hz1 hk1 hP1 hK1 hD1
        generalize H1 = H at hP hS ⊢
        have hP : va_P (dC, dI) cls [(h0, .inr (1, [.ref ax, .int n14])), (ax, .inl (cax, nax, .inl f15))] H := hP
        have hD : va_D A [(h0, .inr (1, [.ref ax, .int n14])), (ax, .inl (cax, nax, .inl f15))] := hD
        refine lv_lload_n hx hb d_BR_putSigned_42 rfl (lv_at hl 1 rfl) ?_
        refine lv_bipush (v := 7) hx hb d_BR_putSigned_43 (by decide) ?_
        refine lv_lshr hx hb d_BR_putSigned_45 rfl ?_
        refine lv_topl (fun x16 ex16 => ?_)
        refine lv_lstore_n (lv' := [(3, .long x16), (0, .ref h0), (5, .int j5_l5)]) hx hb d_BR_putSigned_46 rfl hl (by decide) rfl (fun ls hl => ?_)
        obtain ⟨x17, ex17⟩ : ∃ z : Int32, z = j5_l5 + 1 := ⟨_, rfl⟩
        have tx17 : x17.toInt = j5_l5.toInt + 1 := by have z := i32_add ex17 (by omega) (by omega); omega
        refine lv_iinc (v := x17) (lv' := [(5, .int x17), (3, .long x16), (0, .ref h0)]) hx hb d_BR_putSigned_47 hl (k := 2) rfl (by rw [ex17]; rfl) (by decide) rfl (fun ls hl => ?_)
        refine lv_goto (tgt := 5) hx hb d_BR_putSigned_50 (by decide) ?_
        have z1 := bn14 (by omega)
        have z2 : bn x12 = (j5_l3.toInt % 128).toNat + 128 := by rw [ex12, ex11, ex10, ex9]; exact bn_h j5_l3
        have z3 : x16.toInt = j5_l3.toInt / 128 := by rw [ex16]; exact shr7 j5_l3
        have z4 := sleb_go (k := (10 - x17.toInt).toNat) y28
        exact ih5 (x16, x17, f15, n14) _ _ _ (by show (10 - x17.toInt).toNat < N5; omega) ⟨by (try dsimp only) <;> omega, by (try dsimp only) <;> omega, (by rw [z1, z2, z3, List.append_assoc, List.singleton_append, ← z4, show (10 - x17.toInt).toNat + 1 = (10 - j5_l5.toInt).toNat from by omega]; exact v3), hP, hD, hS, lv_sub hl [2, 1, 0] rfl⟩
      · skip
        refine lv_if_lt (tgt := 28) hx hb d_BR_putSigned_17 (by decide) (fun c17 => ?_) (fun c17 => ?_)
        · have q17 := ltI c17
          exact jn28 () _ _ _ ⟨by (try dsimp only) <;> omega, hP, hD, hS, lv_sub hl [0, 1, 2] rfl⟩
        · have q17 := nltI c17
          refine lv_lload_n hx hb d_BR_putSigned_20 rfl (lv_at hl 1 rfl) ?_
          refine lv_ldc2 hx hb hown (hts _ kL_BR_23) d_BR_putSigned_21 ?_
          refine lv_topl (fun x18 ex18 => ?_)
          have tx18 : x18.toInt = 63 := by rw [ex18]; decide
          refine W.lcmp hx hb d_BR_putSigned_24 ?_
          refine lv_topi (fun x19 ex19 => ?_)
          have tx19 := lgc ex19
          refine lv_if_le (tgt := 53) hx hb d_BR_putSigned_25 (by decide) (fun c25 => ?_) (fun c25 => ?_)
          · have q25 := leI c25
            exact jn53 () _ _ _ ⟨by (try dsimp only) <;> omega, hP, hD, hS, lv_sub hl [0, 1] rfl⟩
          · have q25 := nleI c25
            exact jn28 () _ _ _ ⟨by (try dsimp only) <;> omega, hP, hD, hS, lv_sub hl [0, 1, 2] rfl⟩

/-! ByteRow: a row of bytes with a length -/
abbrev br_at (dC : Nat → ClassId) (dI : Nat → Nat → Nat) (h0 a : Nat) (cA : ClassId) (n : Nat) (A : Nat → Prop) (u : Int32 × (Nat → Int32)) (t : State) : Prop := match u with
  | (len, f) => va_P (dC, dI) cls [(h0, .inr (1, [.ref a, .int len])), (a, .inl (cA, n, .inl f))] t.heap ∧ va_K (dC, dI) cls [(cA, .byte)] t ∧ va_D A [(h0, .inr (1, [.ref a, .int len])), (a, .inl (cA, n, .inl f))]
/-- the byte at i without sign, or -1 -/
def br_get (f : Nat → Int32) (len i : Int32) : Int32 := if 0 ≤ i.toInt ∧ i.toInt < len.toInt then f i.toNatClampNeg &&& 255 else -1
theorem br_get_in (f : Nat → Int32) (len i : Int32) : -1 ≤ (br_get f len i).toInt ∧ (br_get f len i).toInt ≤ 255 ∧ (0 ≤ i.toInt → i.toInt < len.toInt → 0 ≤ (br_get f len i).toInt) := by
  unfold br_get
  split
  · have h := i32_and255 (f i.toNatClampNeg)
    omega
  · rename_i h
    have : (-1 : Int32).toInt = -1 := by decide
    omega
/-- one byte more, where there is room -/
def br_put (f : Nat → Int32) (n : Nat) (len v : Int32) : Int32 × (Nat → Int32) := if len.toInt < n then (len + 1, upd f len.toNatClampNeg v.toInt8.toInt32) else (len, f)
theorem br_put_in {f g : Nat → Int32} {n : Nat} {len v x : Int32} (hl0 : 0 ≤ len.toInt) (hl1 : len.toInt ≤ n) (hn : n < 2147483648) (h : (x, g) = br_put f n len v) : len.toInt ≤ x.toInt ∧ x.toInt ≤ n ∧ x.toInt ≤ len.toInt + 1 ∧ (len.toInt < n → x.toInt = len.toInt + 1) := by
  unfold br_put at h
  have k1 : (1 : Int32).toInt = 1 := by decide
  split at h
  · have h1 := (Prod.mk.inj h).1
    have h2 := i32_add h1 (by omega) (by omega)
    omega
  · have h1 := (Prod.mk.inj h).1
    rw [h1]
    omega
theorem br_put_bl {f g : Nat → Int32} {n : Nat} {len v x : Int32} (hl0 : 0 ≤ len.toInt) (hl1 : len.toInt ≤ n) (hn : n < 2147483648) (h : (x, g) = br_put f n len v) (hlt : len.toInt < n) : bl g x.toNatClampNeg = bl f len.toNatClampNeg ++ [bn v] := by
  have h3 := (br_put_in hl0 hl1 hn h).2.2.2 hlt
  unfold br_put at h
  rw [if_pos hlt] at h
  have h1 := (Prod.mk.inj h).2
  have h2 : x.toNatClampNeg = len.toNatClampNeg + 1 := clampN (by have := i32_clamp hl0; omega)
  rw [h1, h2, bl_put]
abbrev b_BR_at : ByteArray := prog_3_method_2_code
def y_BR_at : MethodName := ⟨R_BR, "at", "(I)I"⟩
abbrev w_BR_at : List Cond := .code y_BR_at b_BR_at 2 (Option.some .int) :: lw_g
theorem kC_BR_at : Cond.code y_BR_at b_BR_at 2 (Option.some .int) ∈ lw_g := in_g 650 (by decide +kernel) rfl
theorem d_BR_at_0 : decode b_BR_at 0 = .ok (.iload_n 1, 1) := by decide +kernel
theorem d_BR_at_1 : decode b_BR_at 1 = .ok (.ifCond .lt 24, 3) := by decide +kernel
theorem d_BR_at_4 : decode b_BR_at 4 = .ok (.iload_n 1, 1) := by decide +kernel
theorem d_BR_at_5 : decode b_BR_at 5 = .ok (.aload_n 0, 1) := by decide +kernel
theorem d_BR_at_6 : decode b_BR_at 6 = .ok (.getfield 13, 3) := by decide +kernel
theorem d_BR_at_9 : decode b_BR_at 9 = .ok (.if_icmp .ge 16, 3) := by decide +kernel
theorem d_BR_at_12 : decode b_BR_at 12 = .ok (.aload_n 0, 1) := by decide +kernel
theorem d_BR_at_13 : decode b_BR_at 13 = .ok (.getfield 7, 3) := by decide +kernel
theorem d_BR_at_16 : decode b_BR_at 16 = .ok (.iload_n 1, 1) := by decide +kernel
theorem d_BR_at_17 : decode b_BR_at 17 = .ok (.baload, 1) := by decide +kernel
theorem d_BR_at_18 : decode b_BR_at 18 = .ok (.sipush 255, 3) := by decide +kernel
theorem d_BR_at_21 : decode b_BR_at 21 = .ok (.iand, 1) := by decide +kernel
theorem d_BR_at_22 : decode b_BR_at 22 = .ok (.goto 4, 3) := by decide +kernel
theorem d_BR_at_25 : decode b_BR_at 25 = .ok (.iconst (-1), 1) := by decide +kernel
theorem d_BR_at_26 : decode b_BR_at 26 = .ok (.ireturn, 1) := by decide +kernel
theorem kF_BR_13 : Cond.fieldLink R_BR 13 "WaferForge$ByteRow" "length" "I" ∈ lw_g := in_g 58 (by decide +kernel) rfl
theorem kF_BR_7 : Cond.fieldLink R_BR 7 "WaferForge$ByteRow" "bytes" "[B" ∈ lw_g := in_g 55 (by decide +kernel) rfl
set_option maxHeartbeats 4000000 in
set_option maxRecDepth 100000 in
theorem c_BR_at (l : Launch) (dC : Nat → ClassId) (dI : Nat → Nat → Nat) (h0 a sz : Nat) (cA : ClassId) (n : Nat) (len : Int32) (f : Nat → Int32) (hl0 : 0 ≤ len.toInt) (hl1 : len.toInt ≤ n) (hn : n < 2147483648) (p0 : Int32) : Met l y_BR_at w_BR_at ({ frames := 0, cells := 0, slots := 0, locals := 0 }) (va_Pc [.ref h0, .int p0] (fun U => U.heap.size = sz ∧ va_P (dC, dI) cls [(h0, .inr (1, [.ref a, .int len])), (a, .inl (cA, n, .inl f))] U.heap ∧ va_K (dC, dI) cls [(cA, .byte)] U ∧ va_D (fun _ => True) [(h0, .inr (1, [.ref a, .int len])), (a, .inl (cA, n, .inl f))])) (va_Qi (fun (r : Int32) (u : Int32 × (Nat → Int32)) => r = br_get f len p0 ∧ u = (len, f)) (br_at dC dI h0 a cA n (va_A [(h0, .inr (1, [.ref a, .int len])), (a, .inl (cA, n, .inl f))] sz)) (va_A [(h0, .inr (1, [.ref a, .int len])), (a, .inl (cA, n, .inl f))] sz)) 0 0 (va_A [(h0, .inr (1, [.ref a, .int len])), (a, .inl (cA, n, .inl f))] sz) := by
  refine Met.ofW (cc := b_BR_at) (maxL := 2) (ret := (Option.some .int)) (by decide) rfl ?_
  intro p e s m args below meth c s₁ B hml hv
  obtain ⟨rfl, hsz, hP, hK, hD0⟩ := hv
  have hx := B.exec
  have hb := B.bytes
  have hr := B.returns
  have hts0 := atoms_spec (ws := w_BR_at) B.pre
  have hts : ∀ w ∈ lw_g, w.before _ s = true := fun w h => hts0 w (List.mem_cons_of_mem _ h)
  have hown : s.vm.findClass R_BR = some m.cls := findClass_of_methodNamed B.named
  have hlocks := B.notSynchronized
  clear hts0
  subst hsz
  have hD := hD0.self (sz := s.heap.size)
  generalize hAe : va_A [(h0, .inr (1, [.ref a, .int len])), (a, .inl (cA, n, .inl f))] s.heap.size = A at hD ⊢
  have hA : ∀ q : Nat, s.heap.size ≤ q → A q := fun q h => by rw [← hAe]; exact Or.inr h
  clear hAe
  have hP : va_P (dC, dI) cls [(h0, .inr (1, [.ref a, .int len])), (a, .inl (cA, n, .inl f))] s.heap := hP
  have hl := lv_entry ([.ref h0, .int p0]) (n := 2) (Nat.le_of_ble_eq_true rfl)
  rw [lg_entry_eq]
  generalize (lg_sl ([.ref h0, .int p0]) ++ List.replicate (2 - (lg_sl ([.ref h0, .int p0])).length) Slot.unset).toArray = ls at hl ⊢
  have hl : lv_has ls 2 [(0, .ref h0), (1, .int p0)] := hl
  have k0 : (0 : Int32).toInt = 0 := by decide
  refine w_gen (A := A) hP (fun H locs hP hS => ?_)
  have lo_p0 := i32_lo p0
  have hi_p0 := i32_hi p0
  refine lv_iload_n hx hb d_BR_at_0 rfl (lv_at hl 1 rfl) ?_
  refine lv_if_lt (tgt := 25) hx hb d_BR_at_1 (by decide) (fun c1 => ?_) (fun c1 => ?_)
  · have q1 := ltI c1
    refine lv_iconst (v := (-1)) hx hb d_BR_at_25 (by decide) ?_
    have km1 : (-1 : Int32).toInt = -1 := by decide
    have hP9 := hP.sub (ws' := [(h0, .inr (1, [.ref a, .int len])), (a, .inl (cA, n, .inl f))]) [0, 1] rfl
    have hD9 := hD.sub (ws' := [(h0, .inr (1, [.ref a, .int len])), (a, .inl (cA, n, .inl f))]) [0, 1] (by decide) rfl
    exact W.iret (v := ((-1))) hx hb hr (fun t ht hW => ⟨⟨(-1), (len, f), rfl, ⟨by first | (rw [br_get, if_neg (by omega)]) | (rw [br_get, if_pos (by omega), ex2, ex1]), rfl⟩, by rw [ht]; exact hP9, va_K.moved hW.alike hK, hD9⟩, hS.F ht⟩) hS.2.2 d_BR_at_26
  · have q1 := nltI c1
    refine lv_iload_n hx hb d_BR_at_4 rfl (lv_at hl 1 rfl) ?_
    refine lv_aload_n hx hb d_BR_at_5 rfl (lv_at hl 0 rfl) ?_
    refine va_get (D := (dC, dI)) (ci := 1) (v := .int len) (C := R_BR) (T := F_BR) (N := 2) hx hb hts i_BR hown hK hP 0 rfl rfl 1 (by decide) (hts _ kF_BR_13) (fun _ h9 => h9) rfl d_BR_at_6 ?_
    refine lv_icmp_ge (tgt := 25) hx hb d_BR_at_9 (by decide) (fun c9 => ?_) (fun c9 => ?_)
    · have q9 := leI c9
      refine lv_iconst (v := (-1)) hx hb d_BR_at_25 (by decide) ?_
      have km1 : (-1 : Int32).toInt = -1 := by decide
      have hP9 := hP.sub (ws' := [(h0, .inr (1, [.ref a, .int len])), (a, .inl (cA, n, .inl f))]) [0, 1] rfl
      have hD9 := hD.sub (ws' := [(h0, .inr (1, [.ref a, .int len])), (a, .inl (cA, n, .inl f))]) [0, 1] (by decide) rfl
      exact W.iret (v := ((-1))) hx hb hr (fun t ht hW => ⟨⟨(-1), (len, f), rfl, ⟨by first | (rw [br_get, if_neg (by omega)]) | (rw [br_get, if_pos (by omega), ex2, ex1]), rfl⟩, by rw [ht]; exact hP9, va_K.moved hW.alike hK, hD9⟩, hS.F ht⟩) hS.2.2 d_BR_at_26
    · have q9 := nleI c9
      refine lv_aload_n hx hb d_BR_at_12 rfl (lv_at hl 0 rfl) ?_
      refine va_get (D := (dC, dI)) (ci := 1) (v := .ref a) (C := R_BR) (T := F_BR) (N := 2) hx hb hts i_BR hown hK hP 0 rfl rfl 0 (by decide) (hts _ kF_BR_7) (fun _ h9 => h9) rfl d_BR_at_13 ?_
      refine lv_iload_n hx hb d_BR_at_16 rfl (lv_at hl 1 rfl) ?_
      have g17 : vp_in p0 n := vp_in_iff.mpr ⟨by omega, by omega⟩
      refine va_bald hx hb hK hP 1 0 rfl rfl g17 d_BR_at_17 ?_
      refine lv_topi (fun x1 ex1 => ?_)
      refine lv_sipush (v := 255) hx hb d_BR_at_18 (by decide) ?_
      have k255 : (255 : Int32).toInt = 255 := by decide
      refine lv_iand hx hb d_BR_at_21 ?_
      refine lv_topi (fun x2 ex2 => ?_)
      refine lv_goto (tgt := 26) hx hb d_BR_at_22 (by decide) ?_
      have hP9 := hP.sub (ws' := [(h0, .inr (1, [.ref a, .int len])), (a, .inl (cA, n, .inl f))]) [0, 1] rfl
      have hD9 := hD.sub (ws' := [(h0, .inr (1, [.ref a, .int len])), (a, .inl (cA, n, .inl f))]) [0, 1] (by decide) rfl
      exact W.iret (v := x2) hx hb hr (fun t ht hW => ⟨⟨x2, (len, f), rfl, ⟨by first | (rw [br_get, if_neg (by omega)]) | (rw [br_get, if_pos (by omega), ex2, ex1]), rfl⟩, by rw [ht]; exact hP9, va_K.moved hW.alike hK, hD9⟩, hS.F ht⟩) hS.2.2 d_BR_at_26
abbrev b_BR_put : ByteArray := prog_3_method_3_code
def y_BR_put : MethodName := ⟨R_BR, "put", "(I)V"⟩
abbrev w_BR_put : List Cond := .code y_BR_put b_BR_put 2 none :: lw_g
theorem kC_BR_put : Cond.code y_BR_put b_BR_put 2 none ∈ lw_g := in_g 733 (by decide +kernel) rfl
theorem d_BR_put_0 : decode b_BR_put 0 = .ok (.aload_n 0, 1) := by decide +kernel
theorem d_BR_put_1 : decode b_BR_put 1 = .ok (.getfield 13, 3) := by decide +kernel
theorem d_BR_put_4 : decode b_BR_put 4 = .ok (.aload_n 0, 1) := by decide +kernel
theorem d_BR_put_5 : decode b_BR_put 5 = .ok (.getfield 7, 3) := by decide +kernel
theorem d_BR_put_8 : decode b_BR_put 8 = .ok (.arraylength, 1) := by decide +kernel
theorem d_BR_put_9 : decode b_BR_put 9 = .ok (.if_icmp .ge 21, 3) := by decide +kernel
theorem d_BR_put_12 : decode b_BR_put 12 = .ok (.aload_n 0, 1) := by decide +kernel
theorem d_BR_put_13 : decode b_BR_put 13 = .ok (.getfield 7, 3) := by decide +kernel
theorem d_BR_put_16 : decode b_BR_put 16 = .ok (.aload_n 0, 1) := by decide +kernel
theorem d_BR_put_17 : decode b_BR_put 17 = .ok (.dup, 1) := by decide +kernel
theorem d_BR_put_18 : decode b_BR_put 18 = .ok (.getfield 13, 3) := by decide +kernel
theorem d_BR_put_21 : decode b_BR_put 21 = .ok (.dup_x1, 1) := by decide +kernel
theorem d_BR_put_22 : decode b_BR_put 22 = .ok (.iconst 1, 1) := by decide +kernel
theorem d_BR_put_23 : decode b_BR_put 23 = .ok (.iadd, 1) := by decide +kernel
theorem d_BR_put_24 : decode b_BR_put 24 = .ok (.putfield 13, 3) := by decide +kernel
theorem d_BR_put_27 : decode b_BR_put 27 = .ok (.iload_n 1, 1) := by decide +kernel
theorem d_BR_put_28 : decode b_BR_put 28 = .ok (.i2b, 1) := by decide +kernel
theorem d_BR_put_29 : decode b_BR_put 29 = .ok (.bastore, 1) := by decide +kernel
theorem d_BR_put_30 : decode b_BR_put 30 = .ok (.return_, 1) := by decide +kernel
set_option maxHeartbeats 4000000 in
set_option maxRecDepth 100000 in
theorem c_BR_put (l : Launch) (dC : Nat → ClassId) (dI : Nat → Nat → Nat) (h0 a sz : Nat) (cA : ClassId) (n : Nat) (len : Int32) (f : Nat → Int32) (hl0 : 0 ≤ len.toInt) (hl1 : len.toInt ≤ n) (hn : n < 2147483648) (p0 : Int32) : Met l y_BR_put w_BR_put ({ frames := 0, cells := 0, slots := 0, locals := 0 }) (va_Pc [.ref h0, .int p0] (fun U => U.heap.size = sz ∧ va_P (dC, dI) cls [(h0, .inr (1, [.ref a, .int len])), (a, .inl (cA, n, .inl f))] U.heap ∧ va_K (dC, dI) cls [(cA, .byte)] U ∧ va_D (fun _ => True) [(h0, .inr (1, [.ref a, .int len])), (a, .inl (cA, n, .inl f))])) (va_Qv (fun (u : Int32 × (Nat → Int32)) => u = br_put f n len p0) (br_at dC dI h0 a cA n (va_A [(h0, .inr (1, [.ref a, .int len])), (a, .inl (cA, n, .inl f))] sz)) (va_A [(h0, .inr (1, [.ref a, .int len])), (a, .inl (cA, n, .inl f))] sz)) 0 0 (va_A [(h0, .inr (1, [.ref a, .int len])), (a, .inl (cA, n, .inl f))] sz) := by
  refine Met.ofW (cc := b_BR_put) (maxL := 2) (ret := none) (by decide) rfl ?_
  intro p e s m args below meth c s₁ B hml hv
  obtain ⟨rfl, hsz, hP, hK, hD0⟩ := hv
  have hx := B.exec
  have hb := B.bytes
  have hr := B.returns
  have hts0 := atoms_spec (ws := w_BR_put) B.pre
  have hts : ∀ w ∈ lw_g, w.before _ s = true := fun w h => hts0 w (List.mem_cons_of_mem _ h)
  have hown : s.vm.findClass R_BR = some m.cls := findClass_of_methodNamed B.named
  have hlocks := B.notSynchronized
  clear hts0
  subst hsz
  have hD := hD0.self (sz := s.heap.size)
  generalize hAe : va_A [(h0, .inr (1, [.ref a, .int len])), (a, .inl (cA, n, .inl f))] s.heap.size = A at hD ⊢
  have hA : ∀ q : Nat, s.heap.size ≤ q → A q := fun q h => by rw [← hAe]; exact Or.inr h
  clear hAe
  have hP : va_P (dC, dI) cls [(h0, .inr (1, [.ref a, .int len])), (a, .inl (cA, n, .inl f))] s.heap := hP
  have hl := lv_entry ([.ref h0, .int p0]) (n := 2) (Nat.le_of_ble_eq_true rfl)
  rw [lg_entry_eq]
  generalize (lg_sl ([.ref h0, .int p0]) ++ List.replicate (2 - (lg_sl ([.ref h0, .int p0])).length) Slot.unset).toArray = ls at hl ⊢
  have hl : lv_has ls 2 [(0, .ref h0), (1, .int p0)] := hl
  have k0 : (0 : Int32).toInt = 0 := by decide
  refine w_gen (A := A) hP (fun H locs hP hS => ?_)
  have lo_p0 := i32_lo p0
  have hi_p0 := i32_hi p0
  refine lv_aload_n hx hb d_BR_put_0 rfl (lv_at hl 0 rfl) ?_
  refine va_get (D := (dC, dI)) (ci := 1) (v := .int len) (C := R_BR) (T := F_BR) (N := 2) hx hb hts i_BR hown hK hP 0 rfl rfl 1 (by decide) (hts _ kF_BR_13) (fun _ h9 => h9) rfl d_BR_put_1 ?_
  refine lv_aload_n hx hb d_BR_put_4 rfl (lv_at hl 0 rfl) ?_
  refine va_get (D := (dC, dI)) (ci := 1) (v := .ref a) (C := R_BR) (T := F_BR) (N := 2) hx hb hts i_BR hown hK hP 0 rfl rfl 0 (by decide) (hts _ kF_BR_7) (fun _ h9 => h9) rfl d_BR_put_5 ?_
  refine va_alen hx hb hK hP 1 0 rfl rfl rfl d_BR_put_8 ?_
  refine lv_topi (fun x1 ex1 => ?_)
  have tx1 : x1.toInt = n := by rw [ex1]; exact i32_len (by omega)
  refine lv_icmp_ge (tgt := 30) hx hb d_BR_put_9 (by decide) (fun c9 => ?_) (fun c9 => ?_)
  · have q9 := leI c9
    have hP9 := hP.sub (ws' := [(h0, .inr (1, [.ref a, .int len])), (a, .inl (cA, n, .inl f))]) [0, 1] rfl
    have hD9 := hD.sub (ws' := [(h0, .inr (1, [.ref a, .int len])), (a, .inl (cA, n, .inl f))]) [0, 1] (by decide) rfl
    exact W.vret hx hb hr (fun t ht hW => ⟨⟨(len, f), rfl, (by rw [br_put, if_neg (by omega)]), by rw [ht]; exact hP9, va_K.moved hW.alike hK, hD9⟩, hS.F ht⟩) hS.2.2 d_BR_put_30
  · have q9 := nleI c9
    refine lv_aload_n hx hb d_BR_put_12 rfl (lv_at hl 0 rfl) ?_
    refine va_get (D := (dC, dI)) (ci := 1) (v := .ref a) (C := R_BR) (T := F_BR) (N := 2) hx hb hts i_BR hown hK hP 0 rfl rfl 0 (by decide) (hts _ kF_BR_7) (fun _ h9 => h9) rfl d_BR_put_13 ?_
    refine lv_aload_n hx hb d_BR_put_16 rfl (lv_at hl 0 rfl) ?_
    refine lv_dup hx hb d_BR_put_17 rfl ?_
    refine va_get (D := (dC, dI)) (ci := 1) (v := .int len) (C := R_BR) (T := F_BR) (N := 2) hx hb hts i_BR hown hK hP 0 rfl rfl 1 (by decide) (hts _ kF_BR_13) (fun _ h9 => h9) rfl d_BR_put_18 ?_
    refine lv_dup_x1 hx hb d_BR_put_21 rfl rfl ?_
    refine lv_iconst (v := 1) hx hb d_BR_put_22 (by decide) ?_
    have k1 : (1 : Int32).toInt = 1 := by decide
    refine lv_iadd hx hb d_BR_put_23 ?_
    refine lv_topi (fun x2 ex2 => ?_)
    have tx2 : x2.toInt = len.toInt + 1 := by have z := i32_add ex2 (by omega) (by omega); omega
    refine va_put (D := (dC, dI)) (ci := 1) (v := .int x2) (ty := .int) (C := R_BR) (T := F_BR) (N := 2) hx hb hts i_BR t_BR t_BR_ok n_BR hown hK hP hD hS 0 rfl rfl 1 (by decide) (hts _ kF_BR_13) (fun _ h9 => h9) rfl (by decide +kernel) rfl rfl (Nat.le_of_ble_eq_true rfl) d_BR_put_24 (fun H locs hP hD hS => ?_)
    have hP : va_P (dC, dI) cls [(h0, .inr (1, [.ref a, .int x2])), (a, .inl (cA, n, .inl f))] H := hP
    have hD : va_D A [(h0, .inr (1, [.ref a, .int x2])), (a, .inl (cA, n, .inl f))] := hD
    refine lv_iload_n hx hb d_BR_put_27 rfl (lv_at hl 1 rfl) ?_
    refine lv_i2b hx hb d_BR_put_28 rfl ?_
    refine lv_topi (fun x3 ex3 => ?_)
    have g29 : vp_in len n := vp_in_iff.mpr ⟨by omega, by omega⟩
    refine va_bast hx hb hK hP hD hS 1 0 rfl rfl g29 d_BR_put_29 (fun H locs hP hD hS => ?_)
    have hP : va_P (dC, dI) cls [(h0, .inr (1, [.ref a, .int x2])), (a, .inl (cA, n, .inl (upd f len.toNatClampNeg (vp_nar .byte x3))))] H := hP
    have hD : va_D A [(h0, .inr (1, [.ref a, .int x2])), (a, .inl (cA, n, .inl (upd f len.toNatClampNeg (vp_nar .byte x3))))] := hD
    generalize ef4 : upd f len.toNatClampNeg (vp_nar .byte x3) = f4 at hP hD
    have hP9 := hP.sub (ws' := [(h0, .inr (1, [.ref a, .int x2])), (a, .inl (cA, n, .inl f4))]) [0, 1] rfl
    have hD9 := hD.sub (ws' := [(h0, .inr (1, [.ref a, .int x2])), (a, .inl (cA, n, .inl f4))]) [0, 1] (by decide) rfl
    exact W.vret hx hb hr (fun t ht hW => ⟨⟨(x2, f4), rfl, (by rw [br_put, if_pos (by omega), ← ex2, ← ef4, ex3, pk_vb]), by rw [ht]; exact hP9, va_K.moved hW.alike hK, hD9⟩, hS.F ht⟩) hS.2.2 d_BR_put_30
abbrev b_BR_putInt : ByteArray := prog_3_method_5_code
def y_BR_putInt : MethodName := ⟨R_BR, "putInt", "(I)V"⟩
abbrev w_BR_putInt : List Cond := .code y_BR_putInt b_BR_putInt 3 none :: lw_g
theorem kC_BR_putInt : Cond.code y_BR_putInt b_BR_putInt 3 none ∈ lw_g := in_g 729 (by decide +kernel) rfl
theorem d_BR_putInt_0 : decode b_BR_putInt 0 = .ok (.bipush 24, 2) := by decide +kernel
theorem d_BR_putInt_2 : decode b_BR_putInt 2 = .ok (.istore_n 2, 1) := by decide +kernel
theorem d_BR_putInt_3 : decode b_BR_putInt 3 = .ok (.iload_n 2, 1) := by decide +kernel
theorem d_BR_putInt_4 : decode b_BR_putInt 4 = .ok (.ifCond .lt 16, 3) := by decide +kernel
theorem d_BR_putInt_7 : decode b_BR_putInt 7 = .ok (.aload_n 0, 1) := by decide +kernel
theorem d_BR_putInt_8 : decode b_BR_putInt 8 = .ok (.iload_n 1, 1) := by decide +kernel
theorem d_BR_putInt_9 : decode b_BR_putInt 9 = .ok (.iload_n 2, 1) := by decide +kernel
theorem d_BR_putInt_10 : decode b_BR_putInt 10 = .ok (.iushr, 1) := by decide +kernel
theorem d_BR_putInt_11 : decode b_BR_putInt 11 = .ok (.invokevirtual 17, 3) := by decide +kernel
theorem d_BR_putInt_14 : decode b_BR_putInt 14 = .ok (.iinc 2 (-8), 3) := by decide +kernel
theorem d_BR_putInt_17 : decode b_BR_putInt 17 = .ok (.goto (-14), 3) := by decide +kernel
theorem d_BR_putInt_20 : decode b_BR_putInt 20 = .ok (.return_, 1) := by decide +kernel
theorem kM_BR_17 : Cond.methodLink R_BR 17 y_BR_put ∈ lw_g := in_g 730 (by decide +kernel) rfl
theorem kV_BR_put : Cond.instanceMethod y_BR_put ∈ lw_g := in_g 731 (by decide +kernel) rfl
theorem kS_BR_put : Cond.selects R_BR y_BR_put y_BR_put ∈ lw_g := in_g 732 (by decide +kernel) rfl
set_option maxHeartbeats 4000000 in
set_option maxRecDepth 100000 in
theorem c_BR_putInt (l : Launch) (dC : Nat → ClassId) (dI : Nat → Nat → Nat) (h0 a sz : Nat) (cA : ClassId) (n : Nat) (len : Int32) (f : Nat → Int32) (hl0 : 0 ≤ len.toInt) (hl1 : len.toInt ≤ n) (hn : n < 2147483648) (p0 : Int32) : Met l y_BR_putInt w_BR_putInt ({ frames := 1, cells := 0, slots := 0, locals := 21 }) (va_Pc [.ref h0, .int p0] (fun U => U.heap.size = sz ∧ va_P (dC, dI) cls [(h0, .inr (1, [.ref a, .int len])), (a, .inl (cA, n, .inl f))] U.heap ∧ va_K (dC, dI) cls [(cA, .byte)] U ∧ va_D (fun _ => True) [(h0, .inr (1, [.ref a, .int len])), (a, .inl (cA, n, .inl f))])) (va_Qv (fun (u : Int32 × (Nat → Int32)) => len.toInt ≤ u.1.toInt ∧ u.1.toInt ≤ n ∧ (len.toInt + 4 ≤ n → u.1.toInt = len.toInt + 4)) (br_at dC dI h0 a cA n (va_A [(h0, .inr (1, [.ref a, .int len])), (a, .inl (cA, n, .inl f))] sz)) (va_A [(h0, .inr (1, [.ref a, .int len])), (a, .inl (cA, n, .inl f))] sz)) 0 0 (va_A [(h0, .inr (1, [.ref a, .int len])), (a, .inl (cA, n, .inl f))] sz) := by
  refine Met.ofW (cc := b_BR_putInt) (maxL := 3) (ret := none) (by decide) rfl ?_
  intro p e s m args below meth c s₁ B hml hv
  obtain ⟨rfl, hsz, hP, hK, hD0⟩ := hv
  have hx := B.exec
  have hb := B.bytes
  have hr := B.returns
  have hts0 := atoms_spec (ws := w_BR_putInt) B.pre
  have hts : ∀ w ∈ lw_g, w.before _ s = true := fun w h => hts0 w (List.mem_cons_of_mem _ h)
  have hown : s.vm.findClass R_BR = some m.cls := findClass_of_methodNamed B.named
  have hlocks := B.notSynchronized
  clear hts0
  subst hsz
  have hD := hD0.self (sz := s.heap.size)
  generalize hAe : va_A [(h0, .inr (1, [.ref a, .int len])), (a, .inl (cA, n, .inl f))] s.heap.size = A at hD ⊢
  have hA : ∀ q : Nat, s.heap.size ≤ q → A q := fun q h => by rw [← hAe]; exact Or.inr h
  clear hAe
  have hP : va_P (dC, dI) cls [(h0, .inr (1, [.ref a, .int len])), (a, .inl (cA, n, .inl f))] s.heap := hP
  have hl := lv_entry ([.ref h0, .int p0]) (n := 3) (Nat.le_of_ble_eq_true rfl)
  rw [lg_entry_eq]
  generalize (lg_sl ([.ref h0, .int p0]) ++ List.replicate (3 - (lg_sl ([.ref h0, .int p0])).length) Slot.unset).toArray = ls at hl ⊢
  have hl : lv_has ls 3 [(0, .ref h0), (1, .int p0)] := hl
  have k0 : (0 : Int32).toInt = 0 := by decide
  refine w_gen (A := A) hP (fun H locs hP hS => ?_)
  have lo_p0 := i32_lo p0
  have hi_p0 := i32_hi p0
  refine lv_bipush (v := 24) hx hb d_BR_putInt_0 (by decide) ?_
  refine lv_topi (fun x1 ex1 => ?_)
  have tx1 : x1.toInt = 24 := by rw [ex1]; decide
  refine lv_istore_n (lv' := [(2, .int x1), (0, .ref h0), (1, .int p0)]) hx hb d_BR_putInt_2 rfl hl (by decide) rfl (fun ls hl => ?_)
  refine w_loop (σ := Int32 × Int32 × (Nat → Int32)) (fun u H locs ls => match u with | (i, y, g) => (len.toInt ≤ y.toInt ∧ y.toInt ≤ n) ∧ (-8 ≤ i.toInt ∧ i.toInt ≤ 24) ∧ (len.toInt + 4 ≤ n → 8 * y.toInt = 8 * len.toInt + 24 - i.toInt) ∧ va_P (dC, dI) cls [(h0, .inr (1, [.ref a, .int y])), (a, .inl (cA, n, .inl g))] H ∧ va_D A [(h0, .inr (1, [.ref a, .int y])), (a, .inl (cA, n, .inl g))] ∧ va_S A s.heap H locs ∧ lv_has ls 3 [(2, .int i), (0, .ref h0), (1, .int p0)]) (fun u => match u with | (i, y, g) => (i.toInt + 8).toNat) ?_ (x1, len, f) ⟨by omega, by omega, by omega, hP, hD, hS, lv_sub hl [0, 1, 2] rfl⟩
  intro N ih u H locs ls hN hI
  obtain ⟨i, y, g⟩ := u
  obtain ⟨v1, v2, v3, hP, hD, hS, hl⟩ := hI
  have hN : (i.toInt + 8).toNat < N + 1 := hN
  refine lv_iload_n hx hb d_BR_putInt_3 rfl (lv_at hl 0 rfl) ?_
  refine lv_if_lt (tgt := 20) hx hb d_BR_putInt_4 (by decide) (fun c4 => ?_) (fun c4 => ?_)
  · have q4 := ltI c4
    have hP9 := hP.sub (ws' := [(h0, .inr (1, [.ref a, .int y])), (a, .inl (cA, n, .inl g))]) [0, 1] rfl
    have hD9 := hD.sub (ws' := [(h0, .inr (1, [.ref a, .int y])), (a, .inl (cA, n, .inl g))]) [0, 1] (by decide) rfl
    exact W.vret hx hb hr (fun t ht hW => ⟨⟨(y, g), rfl, ⟨by dsimp only; omega, by dsimp only; omega, fun z => by dsimp only; omega⟩, by rw [ht]; exact hP9, va_K.moved hW.alike hK, hD9⟩, hS.F ht⟩) hS.2.2 d_BR_putInt_20
  · have q4 := nltI c4
    refine lv_aload_n hx hb d_BR_putInt_7 rfl (lv_at hl 1 rfl) ?_
    refine lv_iload_n hx hb d_BR_putInt_8 rfl (lv_at hl 2 rfl) ?_
    refine lv_iload_n hx hb d_BR_putInt_9 rfl (lv_at hl 0 rfl) ?_
    refine lv_iushr hx hb d_BR_putInt_10 rfl ?_
    refine lv_topi (fun x2 ex2 => ?_)
    have hPc := hP.sub (ws' := [(h0, .inr (1, [.ref a, .int y])), (a, .inl (cA, n, .inl g))]) [0, 1] rfl
    have hDc := hD.sub (ws' := [(h0, .inr (1, [.ref a, .int y])), (a, .inl (cA, n, .inl g))]) [0, 1] (by decide) rfl
    have hKc := hK.sub (tys' := [(cA, .byte)]) [0] rfl
    have hFc := va_free (wc := [(h0, .inr (1, [.ref a, .int y])), (a, .inl (cA, n, .inl g))]) hD hS hA [0, 1] rfl
    refine va_callv (va_runV (As := [.int x2]) (rest := []) ⟨hx, hb, hml, hown, hts⟩ (c_BR_put l dC dI h0 a H.size cA n y g (by omega) (by omega) (by omega) x2) (cwV 1 hts (gV kM_BR_17 kV_BR_put kS_BR_put kI_BR kC_BR_put) rfl rfl rfl (by decide +kernel) ⟨Nat.le_of_ble_eq_true rfl, Nat.le_of_ble_eq_true rfl⟩) ⟨fun a U g mk z => by obtain ⟨z0, z1, zP, zK, zD⟩ := z; exact ⟨z0, z1, zP, va_K.moved (u := U) (U := U.calling g mk a) (Vm.Alike.refl U.vm) zK, zD⟩, va_recv hKc hPc (ci := 1) (q0 := 0) rfl rfl, fun U hU hW => ⟨rfl, by rw [hU], by rw [hU]; exact hPc, va_K.moved hW.alike hKc, hDc.weaken (fun _ _ _ _ => trivial)⟩⟩ rfl rfl hl.1 rfl (lv_room (Nat.le_of_ble_eq_true rfl)) d_BR_putInt_11 ⟨(Nat.zero_le _), (Nat.zero_le _)⟩) hS (fun q _ h => hFc q h) hFc (fun u t H1 locs ht hvm hw hB hz1 hk1 hS => ?_)
    obtain ⟨n4, f5⟩ := u
    try dsimp only at hw
    have tn4 := br_put_in (by omega) (by omega) (by omega) hw
    have bn4 := br_put_bl (by omega) (by omega) (by omega) hw
    obtain ⟨hP1, hK1, hD1⟩ := hB
    rw [ht] at hP1
    obtain ⟨hP, hD⟩ := va_join (wr := []) (w1 := [(h0, .inr (1, [.ref a, .int n4])), (a, .inl (cA, n, .inl f5))]) hP hD [0, 1] [] rfl rfl (by decide) (by decide) hk1 hFc hP1 hD1
    clear hPc hDc hKc hFc hz1 hk1 hP1 hK1 hD1
    generalize H1 = H at hP hS ⊢
    have hP : va_P (dC, dI) cls [(h0, .inr (1, [.ref a, .int n4])), (a, .inl (cA, n, .inl f5))] H := hP
    have hD : va_D A [(h0, .inr (1, [.ref a, .int n4])), (a, .inl (cA, n, .inl f5))] := hD
    obtain ⟨x6, ex6⟩ : ∃ z : Int32, z = i + (-8) := ⟨_, rfl⟩
    have km8 : (-8 : Int32).toInt = -8 := by decide
    have tx6 : x6.toInt = i.toInt + (-8) := by have z := i32_add ex6 (by omega) (by omega); omega
    refine lv_iinc (v := x6) (lv' := [(2, .int x6), (0, .ref h0), (1, .int p0)]) hx hb d_BR_putInt_14 hl (k := 0) rfl (by rw [ex6]; rfl) (by decide) rfl (fun ls hl => ?_)
    refine lv_goto (tgt := 3) hx hb d_BR_putInt_17 (by decide) ?_
    skip
    exact ih (x6, n4, f5) _ _ _ (by show (x6.toInt + 8).toNat < N; omega) ⟨by omega, by omega, by omega, hP, hD, hS, lv_sub hl [0, 1, 2] rfl⟩
abbrev b_BR_putUnsigned : ByteArray := prog_3_method_6_code
def y_BR_putUnsigned : MethodName := ⟨R_BR, "putUnsigned", "(I)V"⟩
abbrev w_BR_putUnsigned : List Cond := .code y_BR_putUnsigned b_BR_putUnsigned 4 none :: lw_g
theorem kC_BR_putUnsigned : Cond.code y_BR_putUnsigned b_BR_putUnsigned 4 none ∈ lw_g := in_g 1129 (by decide +kernel) rfl
theorem d_BR_putUnsigned_0 : decode b_BR_putUnsigned 0 = .ok (.iload_n 1, 1) := by decide +kernel
theorem d_BR_putUnsigned_1 : decode b_BR_putUnsigned 1 = .ok (.istore_n 2, 1) := by decide +kernel
theorem d_BR_putUnsigned_2 : decode b_BR_putUnsigned 2 = .ok (.iconst 0, 1) := by decide +kernel
theorem d_BR_putUnsigned_3 : decode b_BR_putUnsigned 3 = .ok (.istore_n 3, 1) := by decide +kernel
theorem d_BR_putUnsigned_4 : decode b_BR_putUnsigned 4 = .ok (.iload_n 3, 1) := by decide +kernel
theorem d_BR_putUnsigned_5 : decode b_BR_putUnsigned 5 = .ok (.iconst 5, 1) := by decide +kernel
theorem d_BR_putUnsigned_6 : decode b_BR_putUnsigned 6 = .ok (.if_icmp .ge 33, 3) := by decide +kernel
theorem d_BR_putUnsigned_9 : decode b_BR_putUnsigned 9 = .ok (.iload_n 2, 1) := by decide +kernel
theorem d_BR_putUnsigned_10 : decode b_BR_putUnsigned 10 = .ok (.bipush 7, 2) := by decide +kernel
theorem d_BR_putUnsigned_12 : decode b_BR_putUnsigned 12 = .ok (.iushr, 1) := by decide +kernel
theorem d_BR_putUnsigned_13 : decode b_BR_putUnsigned 13 = .ok (.ifCond .eq 26, 3) := by decide +kernel
theorem d_BR_putUnsigned_16 : decode b_BR_putUnsigned 16 = .ok (.aload_n 0, 1) := by decide +kernel
theorem d_BR_putUnsigned_17 : decode b_BR_putUnsigned 17 = .ok (.iload_n 2, 1) := by decide +kernel
theorem d_BR_putUnsigned_18 : decode b_BR_putUnsigned 18 = .ok (.bipush 127, 2) := by decide +kernel
theorem d_BR_putUnsigned_20 : decode b_BR_putUnsigned 20 = .ok (.iand, 1) := by decide +kernel
theorem d_BR_putUnsigned_21 : decode b_BR_putUnsigned 21 = .ok (.sipush 128, 3) := by decide +kernel
theorem d_BR_putUnsigned_24 : decode b_BR_putUnsigned 24 = .ok (.ior, 1) := by decide +kernel
theorem d_BR_putUnsigned_25 : decode b_BR_putUnsigned 25 = .ok (.invokevirtual 17, 3) := by decide +kernel
theorem d_BR_putUnsigned_28 : decode b_BR_putUnsigned 28 = .ok (.iload_n 2, 1) := by decide +kernel
theorem d_BR_putUnsigned_29 : decode b_BR_putUnsigned 29 = .ok (.bipush 7, 2) := by decide +kernel
theorem d_BR_putUnsigned_31 : decode b_BR_putUnsigned 31 = .ok (.iushr, 1) := by decide +kernel
theorem d_BR_putUnsigned_32 : decode b_BR_putUnsigned 32 = .ok (.istore_n 2, 1) := by decide +kernel
theorem d_BR_putUnsigned_33 : decode b_BR_putUnsigned 33 = .ok (.iinc 3 1, 3) := by decide +kernel
theorem d_BR_putUnsigned_36 : decode b_BR_putUnsigned 36 = .ok (.goto (-32), 3) := by decide +kernel
theorem d_BR_putUnsigned_39 : decode b_BR_putUnsigned 39 = .ok (.aload_n 0, 1) := by decide +kernel
theorem d_BR_putUnsigned_40 : decode b_BR_putUnsigned 40 = .ok (.iload_n 2, 1) := by decide +kernel
theorem d_BR_putUnsigned_41 : decode b_BR_putUnsigned 41 = .ok (.invokevirtual 17, 3) := by decide +kernel
theorem d_BR_putUnsigned_44 : decode b_BR_putUnsigned 44 = .ok (.return_, 1) := by decide +kernel
set_option maxHeartbeats 4000000 in
set_option maxRecDepth 100000 in
theorem c_BR_putUnsigned (l : Launch) (dC : Nat → ClassId) (dI : Nat → Nat → Nat) (h0 a sz : Nat) (cA : ClassId) (n : Nat) (len : Int32) (f : Nat → Int32) (hl0 : 0 ≤ len.toInt) (hl1 : len.toInt ≤ n) (hn : n < 2147483648) (p0 : Int32) (hroom : len.toInt + 6 ≤ n) : Met l y_BR_putUnsigned w_BR_putUnsigned ({ frames := 1, cells := 0, slots := 0, locals := 21 }) (va_Pc [.ref h0, .int p0] (fun U => U.heap.size = sz ∧ va_P (dC, dI) cls [(h0, .inr (1, [.ref a, .int len])), (a, .inl (cA, n, .inl f))] U.heap ∧ va_K (dC, dI) cls [(cA, .byte)] U ∧ va_D (fun _ => True) [(h0, .inr (1, [.ref a, .int len])), (a, .inl (cA, n, .inl f))])) (va_Qv (fun (u : Int32 × (Nat → Int32)) => u.1.toInt = len.toInt + (leb 5 (un p0)).length ∧ bl u.2 u.1.toNatClampNeg = bl f len.toNatClampNeg ++ leb 5 (un p0)) (br_at dC dI h0 a cA n (va_A [(h0, .inr (1, [.ref a, .int len])), (a, .inl (cA, n, .inl f))] sz)) (va_A [(h0, .inr (1, [.ref a, .int len])), (a, .inl (cA, n, .inl f))] sz)) 0 0 (va_A [(h0, .inr (1, [.ref a, .int len])), (a, .inl (cA, n, .inl f))] sz) := by
  refine Met.ofW (cc := b_BR_putUnsigned) (maxL := 4) (ret := none) (by decide) rfl ?_
  intro p e s m args below meth c s₁ B hml hv
  obtain ⟨rfl, hsz, hP, hK, hD0⟩ := hv
  have hx := B.exec
  have hb := B.bytes
  have hr := B.returns
  have hts0 := atoms_spec (ws := w_BR_putUnsigned) B.pre
  have hts : ∀ w ∈ lw_g, w.before _ s = true := fun w h => hts0 w (List.mem_cons_of_mem _ h)
  have hown : s.vm.findClass R_BR = some m.cls := findClass_of_methodNamed B.named
  have hlocks := B.notSynchronized
  clear hts0
  subst hsz
  have hD := hD0.self (sz := s.heap.size)
  generalize hAe : va_A [(h0, .inr (1, [.ref a, .int len])), (a, .inl (cA, n, .inl f))] s.heap.size = A at hD ⊢
  have hA : ∀ q : Nat, s.heap.size ≤ q → A q := fun q h => by rw [← hAe]; exact Or.inr h
  clear hAe
  have hP : va_P (dC, dI) cls [(h0, .inr (1, [.ref a, .int len])), (a, .inl (cA, n, .inl f))] s.heap := hP
  have hl := lv_entry ([.ref h0, .int p0]) (n := 4) (Nat.le_of_ble_eq_true rfl)
  rw [lg_entry_eq]
  generalize (lg_sl ([.ref h0, .int p0]) ++ List.replicate (4 - (lg_sl ([.ref h0, .int p0])).length) Slot.unset).toArray = ls at hl ⊢
  have hl : lv_has ls 4 [(0, .ref h0), (1, .int p0)] := hl
  have k0 : (0 : Int32).toInt = 0 := by decide
  refine w_gen (A := A) hP (fun H locs hP hS => ?_)
  have lo_p0 := i32_lo p0
  have hi_p0 := i32_hi p0
  refine lv_iload_n hx hb d_BR_putUnsigned_0 rfl (lv_at hl 1 rfl) ?_
  refine lv_istore_n (lv' := [(2, .int p0), (0, .ref h0), (1, .int p0)]) hx hb d_BR_putUnsigned_1 rfl hl (by decide) rfl (fun ls hl => ?_)
  refine lv_iconst (v := 0) hx hb d_BR_putUnsigned_2 (by decide) ?_
  refine lv_topi (fun x1 ex1 => ?_)
  have tx1 : x1.toInt = 0 := by rw [ex1]; decide
  refine lv_istore_n (lv' := [(3, .int x1), (2, .int p0), (0, .ref h0), (1, .int p0)]) hx hb d_BR_putUnsigned_3 rfl hl (by decide) rfl (fun ls hl => ?_)
  refine w_loop (σ := Int32 × Int32 × Int32 × (Nat → Int32) × (List Nat)) (fun u H locs ls => match u with | (r, i, y, g, pre) => (0 ≤ i.toInt ∧ i.toInt ≤ 5) ∧ (y.toInt = len.toInt + i.toInt) ∧ (bl g y.toNatClampNeg = bl f len.toNatClampNeg ++ pre) ∧ (leb 5 (un p0) = pre ++ leb (5 - i.toInt).toNat (un r)) ∧ va_P (dC, dI) cls [(h0, .inr (1, [.ref a, .int y])), (a, .inl (cA, n, .inl g))] H ∧ va_D A [(h0, .inr (1, [.ref a, .int y])), (a, .inl (cA, n, .inl g))] ∧ va_S A s.heap H locs ∧ lv_has ls 4 [(3, .int i), (2, .int r), (0, .ref h0)]) (fun u => match u with | (r, i, y, g, pre) => (5 - i.toInt).toNat) ?_ (p0, x1, len, f, []) ⟨by omega, by omega, by simp, by rw [tx1]; rfl, hP, hD, hS, lv_sub hl [0, 1, 2] rfl⟩
  intro N ih u H locs ls hN hI
  obtain ⟨r, i, y, g, pre⟩ := u
  obtain ⟨v1, v2, v3, v4, hP, hD, hS, hl⟩ := hI
  have hN : (5 - i.toInt).toNat < N + 1 := hN
  refine lv_iload_n hx hb d_BR_putUnsigned_4 rfl (lv_at hl 0 rfl) ?_
  refine lv_iconst (v := 5) hx hb d_BR_putUnsigned_5 (by decide) ?_
  have k5 : (5 : Int32).toInt = 5 := by decide
  refine lv_icmp_ge (tgt := 39) hx hb d_BR_putUnsigned_6 (by decide) (fun c6 => ?_) (fun c6 => ?_)
  · have q6 := leI c6
    have w40 : leb (5 - i.toInt).toNat (un r) = [un r % 256] := by first | exact leb_end (by rw [← w10]; exact un_eq0.mp c13) | (rw [show (5 - i.toInt).toNat = 0 from by omega]; rfl)
    refine lv_aload_n hx hb d_BR_putUnsigned_39 rfl (lv_at hl 2 rfl) ?_
    refine lv_iload_n hx hb d_BR_putUnsigned_40 rfl (lv_at hl 1 rfl) ?_
    have hPc := hP.sub (ws' := [(h0, .inr (1, [.ref a, .int y])), (a, .inl (cA, n, .inl g))]) [0, 1] rfl
    have hDc := hD.sub (ws' := [(h0, .inr (1, [.ref a, .int y])), (a, .inl (cA, n, .inl g))]) [0, 1] (by decide) rfl
    have hKc := hK.sub (tys' := [(cA, .byte)]) [0] rfl
    have hFc := va_free (wc := [(h0, .inr (1, [.ref a, .int y])), (a, .inl (cA, n, .inl g))]) hD hS hA [0, 1] rfl
    refine va_callv (va_runV (As := [.int r]) (rest := []) ⟨hx, hb, hml, hown, hts⟩ (c_BR_put l dC dI h0 a H.size cA n y g (by omega) (by omega) (by omega) r) (cwV 1 hts (gV kM_BR_17 kV_BR_put kS_BR_put kI_BR kC_BR_put) rfl rfl rfl (by decide +kernel) ⟨Nat.le_of_ble_eq_true rfl, Nat.le_of_ble_eq_true rfl⟩) ⟨fun a U g mk z => by obtain ⟨z0, z1, zP, zK, zD⟩ := z; exact ⟨z0, z1, zP, va_K.moved (u := U) (U := U.calling g mk a) (Vm.Alike.refl U.vm) zK, zD⟩, va_recv hKc hPc (ci := 1) (q0 := 0) rfl rfl, fun U hU hW => ⟨rfl, by rw [hU], by rw [hU]; exact hPc, va_K.moved hW.alike hKc, hDc.weaken (fun _ _ _ _ => trivial)⟩⟩ rfl rfl hl.1 rfl (lv_room (Nat.le_of_ble_eq_true rfl)) d_BR_putUnsigned_41 ⟨(Nat.zero_le _), (Nat.zero_le _)⟩) hS (fun q _ h => hFc q h) hFc (fun u t H1 locs ht hvm hw hB hz1 hk1 hS => ?_)
    obtain ⟨n3, f4⟩ := u
    try dsimp only at hw
    have tn3 := br_put_in (by omega) (by omega) (by omega) hw
    have bn3 := br_put_bl (by omega) (by omega) (by omega) hw
    obtain ⟨hP1, hK1, hD1⟩ := hB
    rw [ht] at hP1
    obtain ⟨hP, hD⟩ := va_join (wr := []) (w1 := [(h0, .inr (1, [.ref a, .int n3])), (a, .inl (cA, n, .inl f4))]) hP hD [0, 1] [] rfl rfl (by decide) (by decide) hk1 hFc hP1 hD1
    clear hPc hDc hKc hFc hz1 hk1 hP1 hK1 hD1
    generalize H1 = H at hP hS ⊢
    have hP : va_P (dC, dI) cls [(h0, .inr (1, [.ref a, .int n3])), (a, .inl (cA, n, .inl f4))] H := hP
    have hD : va_D A [(h0, .inr (1, [.ref a, .int n3])), (a, .inl (cA, n, .inl f4))] := hD
    have z1 := bn3 (by omega)
    have z2 : bl f4 n3.toNatClampNeg = bl f len.toNatClampNeg ++ leb 5 (un p0) := by rw [z1, v3, v4, w40, List.append_assoc]; rfl
    have z3 := congrArg List.length z2
    rw [List.length_append, bl_len, bl_len] at z3
    have z4 := i32_clamp (x := n3) (by omega)
    have z5 := i32_clamp (x := len) (by omega)
    have hP9 := hP.sub (ws' := [(h0, .inr (1, [.ref a, .int n3])), (a, .inl (cA, n, .inl f4))]) [0, 1] rfl
    have hD9 := hD.sub (ws' := [(h0, .inr (1, [.ref a, .int n3])), (a, .inl (cA, n, .inl f4))]) [0, 1] (by decide) rfl
    exact W.vret hx hb hr (fun t ht hW => ⟨⟨(n3, f4), rfl, ⟨by dsimp only; omega, z2⟩, by rw [ht]; exact hP9, va_K.moved hW.alike hK, hD9⟩, hS.F ht⟩) hS.2.2 d_BR_putUnsigned_44
  · have q6 := nleI c6
    refine lv_iload_n hx hb d_BR_putUnsigned_9 rfl (lv_at hl 1 rfl) ?_
    refine lv_bipush (v := 7) hx hb d_BR_putUnsigned_10 (by decide) ?_
    have k7 : (7 : Int32).toInt = 7 := by decide
    refine lv_iushr hx hb d_BR_putUnsigned_12 rfl ?_
    refine lv_topi (fun x5 ex5 => ?_)
    have w10 : un x5 = un r / 128 := by rw [ex5]; exact un_ushr7 _
    refine lv_if_eq (tgt := 39) hx hb d_BR_putUnsigned_13 (by decide) (fun c13 => ?_) (fun c13 => ?_)
    · have q13 := eqI c13
      have w40 : leb (5 - i.toInt).toNat (un r) = [un r % 256] := by first | exact leb_end (by rw [← w10]; exact un_eq0.mp c13) | (rw [show (5 - i.toInt).toNat = 0 from by omega]; rfl)
      refine lv_aload_n hx hb d_BR_putUnsigned_39 rfl (lv_at hl 2 rfl) ?_
      refine lv_iload_n hx hb d_BR_putUnsigned_40 rfl (lv_at hl 1 rfl) ?_
      have hPc := hP.sub (ws' := [(h0, .inr (1, [.ref a, .int y])), (a, .inl (cA, n, .inl g))]) [0, 1] rfl
      have hDc := hD.sub (ws' := [(h0, .inr (1, [.ref a, .int y])), (a, .inl (cA, n, .inl g))]) [0, 1] (by decide) rfl
      have hKc := hK.sub (tys' := [(cA, .byte)]) [0] rfl
      have hFc := va_free (wc := [(h0, .inr (1, [.ref a, .int y])), (a, .inl (cA, n, .inl g))]) hD hS hA [0, 1] rfl
      refine va_callv (va_runV (As := [.int r]) (rest := []) ⟨hx, hb, hml, hown, hts⟩ (c_BR_put l dC dI h0 a H.size cA n y g (by omega) (by omega) (by omega) r) (cwV 1 hts (gV kM_BR_17 kV_BR_put kS_BR_put kI_BR kC_BR_put) rfl rfl rfl (by decide +kernel) ⟨Nat.le_of_ble_eq_true rfl, Nat.le_of_ble_eq_true rfl⟩) ⟨fun a U g mk z => by obtain ⟨z0, z1, zP, zK, zD⟩ := z; exact ⟨z0, z1, zP, va_K.moved (u := U) (U := U.calling g mk a) (Vm.Alike.refl U.vm) zK, zD⟩, va_recv hKc hPc (ci := 1) (q0 := 0) rfl rfl, fun U hU hW => ⟨rfl, by rw [hU], by rw [hU]; exact hPc, va_K.moved hW.alike hKc, hDc.weaken (fun _ _ _ _ => trivial)⟩⟩ rfl rfl hl.1 rfl (lv_room (Nat.le_of_ble_eq_true rfl)) d_BR_putUnsigned_41 ⟨(Nat.zero_le _), (Nat.zero_le _)⟩) hS (fun q _ h => hFc q h) hFc (fun u t H1 locs ht hvm hw hB hz1 hk1 hS => ?_)
      obtain ⟨n7, f8⟩ := u
      try dsimp only at hw
      have tn7 := br_put_in (by omega) (by omega) (by omega) hw
      have bn7 := br_put_bl (by omega) (by omega) (by omega) hw
      obtain ⟨hP1, hK1, hD1⟩ := hB
      rw [ht] at hP1
      obtain ⟨hP, hD⟩ := va_join (wr := []) (w1 := [(h0, .inr (1, [.ref a, .int n7])), (a, .inl (cA, n, .inl f8))]) hP hD [0, 1] [] rfl rfl (by decide) (by decide) hk1 hFc hP1 hD1
      clear hPc hDc hKc hFc hz1 hk1 hP1 hK1 hD1
      generalize H1 = H at hP hS ⊢
      have hP : va_P (dC, dI) cls [(h0, .inr (1, [.ref a, .int n7])), (a, .inl (cA, n, .inl f8))] H := hP
      have hD : va_D A [(h0, .inr (1, [.ref a, .int n7])), (a, .inl (cA, n, .inl f8))] := hD
      have z1 := bn7 (by omega)
      have z2 : bl f8 n7.toNatClampNeg = bl f len.toNatClampNeg ++ leb 5 (un p0) := by rw [z1, v3, v4, w40, List.append_assoc]; rfl
      have z3 := congrArg List.length z2
      rw [List.length_append, bl_len, bl_len] at z3
      have z4 := i32_clamp (x := n7) (by omega)
      have z5 := i32_clamp (x := len) (by omega)
      have hP9 := hP.sub (ws' := [(h0, .inr (1, [.ref a, .int n7])), (a, .inl (cA, n, .inl f8))]) [0, 1] rfl
      have hD9 := hD.sub (ws' := [(h0, .inr (1, [.ref a, .int n7])), (a, .inl (cA, n, .inl f8))]) [0, 1] (by decide) rfl
      exact W.vret hx hb hr (fun t ht hW => ⟨⟨(n7, f8), rfl, ⟨by dsimp only; omega, z2⟩, by rw [ht]; exact hP9, va_K.moved hW.alike hK, hD9⟩, hS.F ht⟩) hS.2.2 d_BR_putUnsigned_44
    · have q13 := neI c13
      have w13 : un r / 128 ≠ 0 := fun z => c13 (un_eq0.mpr (w10.trans z))
      refine lv_aload_n hx hb d_BR_putUnsigned_16 rfl (lv_at hl 2 rfl) ?_
      refine lv_iload_n hx hb d_BR_putUnsigned_17 rfl (lv_at hl 1 rfl) ?_
      refine lv_bipush (v := 127) hx hb d_BR_putUnsigned_18 (by decide) ?_
      have k127 : (127 : Int32).toInt = 127 := by decide
      refine lv_iand hx hb d_BR_putUnsigned_20 ?_
      refine lv_topi (fun x9 ex9 => ?_)
      refine lv_sipush (v := 128) hx hb d_BR_putUnsigned_21 (by decide) ?_
      have k128 : (128 : Int32).toInt = 128 := by decide
      refine lv_ior hx hb d_BR_putUnsigned_24 ?_
      refine lv_topi (fun x10 ex10 => ?_)
      have w12 : bn x10 = un r % 128 + 128 := by rw [ex10, ex9]; exact bn_low r
      have hPc := hP.sub (ws' := [(h0, .inr (1, [.ref a, .int y])), (a, .inl (cA, n, .inl g))]) [0, 1] rfl
      have hDc := hD.sub (ws' := [(h0, .inr (1, [.ref a, .int y])), (a, .inl (cA, n, .inl g))]) [0, 1] (by decide) rfl
      have hKc := hK.sub (tys' := [(cA, .byte)]) [0] rfl
      have hFc := va_free (wc := [(h0, .inr (1, [.ref a, .int y])), (a, .inl (cA, n, .inl g))]) hD hS hA [0, 1] rfl
      refine va_callv (va_runV (As := [.int x10]) (rest := []) ⟨hx, hb, hml, hown, hts⟩ (c_BR_put l dC dI h0 a H.size cA n y g (by omega) (by omega) (by omega) x10) (cwV 1 hts (gV kM_BR_17 kV_BR_put kS_BR_put kI_BR kC_BR_put) rfl rfl rfl (by decide +kernel) ⟨Nat.le_of_ble_eq_true rfl, Nat.le_of_ble_eq_true rfl⟩) ⟨fun a U g mk z => by obtain ⟨z0, z1, zP, zK, zD⟩ := z; exact ⟨z0, z1, zP, va_K.moved (u := U) (U := U.calling g mk a) (Vm.Alike.refl U.vm) zK, zD⟩, va_recv hKc hPc (ci := 1) (q0 := 0) rfl rfl, fun U hU hW => ⟨rfl, by rw [hU], by rw [hU]; exact hPc, va_K.moved hW.alike hKc, hDc.weaken (fun _ _ _ _ => trivial)⟩⟩ rfl rfl hl.1 rfl (lv_room (Nat.le_of_ble_eq_true rfl)) d_BR_putUnsigned_25 ⟨(Nat.zero_le _), (Nat.zero_le _)⟩) hS (fun q _ h => hFc q h) hFc (fun u t H1 locs ht hvm hw hB hz1 hk1 hS => ?_)
      obtain ⟨n12, f13⟩ := u
      try dsimp only at hw
      have tn12 := br_put_in (by omega) (by omega) (by omega) hw
      have bn12 := br_put_bl (by omega) (by omega) (by omega) hw
      obtain ⟨hP1, hK1, hD1⟩ := hB
      rw [ht] at hP1
      obtain ⟨hP, hD⟩ := va_join (wr := []) (w1 := [(h0, .inr (1, [.ref a, .int n12])), (a, .inl (cA, n, .inl f13))]) hP hD [0, 1] [] rfl rfl (by decide) (by decide) hk1 hFc hP1 hD1
      clear hPc hDc hKc hFc hz1 hk1 hP1 hK1 hD1
      generalize H1 = H at hP hS ⊢
      have hP : va_P (dC, dI) cls [(h0, .inr (1, [.ref a, .int n12])), (a, .inl (cA, n, .inl f13))] H := hP
      have hD : va_D A [(h0, .inr (1, [.ref a, .int n12])), (a, .inl (cA, n, .inl f13))] := hD
      refine lv_iload_n hx hb d_BR_putUnsigned_28 rfl (lv_at hl 1 rfl) ?_
      refine lv_bipush (v := 7) hx hb d_BR_putUnsigned_29 (by decide) ?_
      have k7 : (7 : Int32).toInt = 7 := by decide
      refine lv_iushr hx hb d_BR_putUnsigned_31 rfl ?_
      refine lv_topi (fun x14 ex14 => ?_)
      have w29 : un x14 = un r / 128 := by rw [ex14]; exact un_ushr7 _
      refine lv_istore_n (lv' := [(2, .int x14), (3, .int i), (0, .ref h0)]) hx hb d_BR_putUnsigned_32 rfl hl (by decide) rfl (fun ls hl => ?_)
      obtain ⟨x15, ex15⟩ : ∃ z : Int32, z = i + 1 := ⟨_, rfl⟩
      have k1 : (1 : Int32).toInt = 1 := by decide
      have tx15 : x15.toInt = i.toInt + 1 := by have z := i32_add ex15 (by omega) (by omega); omega
      refine lv_iinc (v := x15) (lv' := [(3, .int x15), (2, .int x14), (0, .ref h0)]) hx hb d_BR_putUnsigned_33 hl (k := 1) rfl (by rw [ex15]; rfl) (by decide) rfl (fun ls hl => ?_)
      refine lv_goto (tgt := 4) hx hb d_BR_putUnsigned_36 (by decide) ?_
      have z1 := bn12 (by omega)
      skip
      exact ih (x14, x15, n12, f13, pre ++ [un r % 128 + 128]) _ _ _ (by show (5 - x15.toInt).toNat < N; omega) ⟨by omega, by omega, by rw [z1, v3, w12, List.append_assoc], by rw [v4, show (5 - i.toInt).toNat = (5 - x15.toInt).toNat + 1 from by omega, leb_go w13, w29, List.append_assoc]; rfl, hP, hD, hS, lv_sub hl [0, 1, 2] rfl⟩
abbrev br_at2 (dC : Nat → ClassId) (dI : Nat → Nat → Nat) (h0 a h1 b : Nat) (cA cB : ClassId) (n n1 : Nat) (len1 : Int32) (f1 : Nat → Int32) (A : Nat → Prop) (u : Int32 × (Nat → Int32)) (t : State) : Prop := match u with
  | (len, f) => va_P (dC, dI) cls [(h0, .inr (1, [.ref a, .int len])), (a, .inl (cA, n, .inl f)), (h1, .inr (1, [.ref b, .int len1])), (b, .inl (cB, n1, .inl f1))] t.heap ∧ va_K (dC, dI) cls [(cA, .byte), (cB, .byte)] t ∧ va_D A [(h0, .inr (1, [.ref a, .int len])), (a, .inl (cA, n, .inl f)), (h1, .inr (1, [.ref b, .int len1])), (b, .inl (cB, n1, .inl f1))]
theorem br_get_bn {f : Nat → Int32} {len i r : Int32} (h : r = br_get f len i) (h0 : 0 ≤ i.toInt) (h1 : i.toInt < len.toInt) : bn r = bn (f i.toNatClampNeg) := by
  rw [h, br_get, if_pos ⟨h0, h1⟩, bn_and, bn_nI (bn_lt _)]
abbrev b_BR_putPart : ByteArray := prog_3_method_9_code
def y_BR_putPart : MethodName := ⟨R_BR, "putPart", "(LWaferForge$ByteRow;II)V"⟩
abbrev w_BR_putPart : List Cond := .code y_BR_putPart b_BR_putPart 5 none :: lw_g
theorem kC_BR_putPart : Cond.code y_BR_putPart b_BR_putPart 5 none ∈ lw_g := in_g 1220 (by decide +kernel) rfl
theorem d_BR_putPart_0 : decode b_BR_putPart 0 = .ok (.iconst 0, 1) := by decide +kernel
theorem d_BR_putPart_1 : decode b_BR_putPart 1 = .ok (.istore 4, 2) := by decide +kernel
theorem d_BR_putPart_3 : decode b_BR_putPart 3 = .ok (.iload 4, 2) := by decide +kernel
theorem d_BR_putPart_5 : decode b_BR_putPart 5 = .ok (.iload_n 3, 1) := by decide +kernel
theorem d_BR_putPart_6 : decode b_BR_putPart 6 = .ok (.if_icmp .ge 21, 3) := by decide +kernel
theorem d_BR_putPart_9 : decode b_BR_putPart 9 = .ok (.aload_n 0, 1) := by decide +kernel
theorem d_BR_putPart_10 : decode b_BR_putPart 10 = .ok (.aload_n 1, 1) := by decide +kernel
theorem d_BR_putPart_11 : decode b_BR_putPart 11 = .ok (.iload_n 2, 1) := by decide +kernel
theorem d_BR_putPart_12 : decode b_BR_putPart 12 = .ok (.iload 4, 2) := by decide +kernel
theorem d_BR_putPart_14 : decode b_BR_putPart 14 = .ok (.iadd, 1) := by decide +kernel
theorem d_BR_putPart_15 : decode b_BR_putPart 15 = .ok (.invokevirtual 36, 3) := by decide +kernel
theorem d_BR_putPart_18 : decode b_BR_putPart 18 = .ok (.invokevirtual 17, 3) := by decide +kernel
theorem d_BR_putPart_21 : decode b_BR_putPart 21 = .ok (.iinc 4 1, 3) := by decide +kernel
theorem d_BR_putPart_24 : decode b_BR_putPart 24 = .ok (.goto (-21), 3) := by decide +kernel
theorem d_BR_putPart_27 : decode b_BR_putPart 27 = .ok (.return_, 1) := by decide +kernel
theorem kM_BR_36 : Cond.methodLink R_BR 36 y_BR_at ∈ lw_g := in_g 821 (by decide +kernel) rfl
theorem kV_BR_at : Cond.instanceMethod y_BR_at ∈ lw_g := in_g 648 (by decide +kernel) rfl
theorem kS_BR_at : Cond.selects R_BR y_BR_at y_BR_at ∈ lw_g := in_g 649 (by decide +kernel) rfl
set_option maxHeartbeats 4000000 in
set_option maxRecDepth 100000 in
theorem c_BR_putPart (l : Launch) (dC : Nat → ClassId) (dI : Nat → Nat → Nat) (h0 a h1 b sz : Nat) (cA cB : ClassId) (n n1 : Nat) (len len1 : Int32) (f f1 : Nat → Int32) (hl0 : 0 ≤ len.toInt) (hl1 : len.toInt ≤ n) (hn : n < 2147483648) (hm0 : 0 ≤ len1.toInt) (hm1 : len1.toInt ≤ n1) (hn1 : n1 < 2147483648) (p1 p2 : Int32) (g1 : 0 ≤ p1.toInt) (g2 : 0 ≤ p2.toInt) (g3 : p1.toInt + p2.toInt ≤ len1.toInt) (g4 : len.toInt + p2.toInt ≤ n) : Met l y_BR_putPart w_BR_putPart ({ frames := 1, cells := 0, slots := 0, locals := 21 }) (va_Pc [.ref h0, .ref h1, .int p1, .int p2] (fun U => U.heap.size = sz ∧ va_P (dC, dI) cls [(h0, .inr (1, [.ref a, .int len])), (a, .inl (cA, n, .inl f)), (h1, .inr (1, [.ref b, .int len1])), (b, .inl (cB, n1, .inl f1))] U.heap ∧ va_K (dC, dI) cls [(cA, .byte), (cB, .byte)] U ∧ va_D (fun _ => True) [(h0, .inr (1, [.ref a, .int len])), (a, .inl (cA, n, .inl f)), (h1, .inr (1, [.ref b, .int len1])), (b, .inl (cB, n1, .inl f1))])) (va_Qv (fun (u : Int32 × (Nat → Int32)) => u.1.toInt = len.toInt + p2.toInt ∧ bl u.2 u.1.toNatClampNeg = bl f len.toNatClampNeg ++ ((bl f1 len1.toNatClampNeg).drop p1.toNatClampNeg).take p2.toNatClampNeg) (br_at2 dC dI h0 a h1 b cA cB n n1 len1 f1 (va_A [(h0, .inr (1, [.ref a, .int len])), (a, .inl (cA, n, .inl f)), (h1, .inr (1, [.ref b, .int len1])), (b, .inl (cB, n1, .inl f1))] sz)) (va_A [(h0, .inr (1, [.ref a, .int len])), (a, .inl (cA, n, .inl f)), (h1, .inr (1, [.ref b, .int len1])), (b, .inl (cB, n1, .inl f1))] sz)) 0 0 (va_A [(h0, .inr (1, [.ref a, .int len])), (a, .inl (cA, n, .inl f)), (h1, .inr (1, [.ref b, .int len1])), (b, .inl (cB, n1, .inl f1))] sz) := by
  refine Met.ofW (cc := b_BR_putPart) (maxL := 5) (ret := none) (by decide) rfl ?_
  intro p e s m args below meth c s₁ B hml hv
  obtain ⟨rfl, hsz, hP, hK, hD0⟩ := hv
  have hx := B.exec
  have hb := B.bytes
  have hr := B.returns
  have hts0 := atoms_spec (ws := w_BR_putPart) B.pre
  have hts : ∀ w ∈ lw_g, w.before _ s = true := fun w h => hts0 w (List.mem_cons_of_mem _ h)
  have hown : s.vm.findClass R_BR = some m.cls := findClass_of_methodNamed B.named
  have hlocks := B.notSynchronized
  clear hts0
  subst hsz
  have hD := hD0.self (sz := s.heap.size)
  generalize hAe : va_A [(h0, .inr (1, [.ref a, .int len])), (a, .inl (cA, n, .inl f)), (h1, .inr (1, [.ref b, .int len1])), (b, .inl (cB, n1, .inl f1))] s.heap.size = A at hD ⊢
  have hA : ∀ q : Nat, s.heap.size ≤ q → A q := fun q h => by rw [← hAe]; exact Or.inr h
  clear hAe
  have hP : va_P (dC, dI) cls [(h0, .inr (1, [.ref a, .int len])), (a, .inl (cA, n, .inl f)), (h1, .inr (1, [.ref b, .int len1])), (b, .inl (cB, n1, .inl f1))] s.heap := hP
  have hl := lv_entry ([.ref h0, .ref h1, .int p1, .int p2]) (n := 5) (Nat.le_of_ble_eq_true rfl)
  rw [lg_entry_eq]
  generalize (lg_sl ([.ref h0, .ref h1, .int p1, .int p2]) ++ List.replicate (5 - (lg_sl ([.ref h0, .ref h1, .int p1, .int p2])).length) Slot.unset).toArray = ls at hl ⊢
  have hl : lv_has ls 5 [(0, .ref h0), (1, .ref h1), (2, .int p1), (3, .int p2)] := hl
  have k0 : (0 : Int32).toInt = 0 := by decide
  refine w_gen (A := A) hP (fun H locs hP hS => ?_)
  have lo_p1 := i32_lo p1
  have hi_p1 := i32_hi p1
  have lo_p2 := i32_lo p2
  have hi_p2 := i32_hi p2
  refine lv_iconst (v := 0) hx hb d_BR_putPart_0 (by decide) ?_
  refine lv_topi (fun x1 ex1 => ?_)
  have tx1 : x1.toInt = 0 := by rw [ex1]; decide
  refine lv_istore (lv' := [(4, .int x1), (0, .ref h0), (1, .ref h1), (2, .int p1), (3, .int p2)]) hx hb d_BR_putPart_1 hl (by decide) rfl (fun ls hl => ?_)
  refine w_loop (σ := Int32 × Int32 × (Nat → Int32)) (fun u H locs ls => match u with | (i, y, g) => (0 ≤ i.toInt ∧ i.toInt ≤ p2.toInt) ∧ (y.toInt = len.toInt + i.toInt) ∧ (bl g y.toNatClampNeg = bl f len.toNatClampNeg ++ ((bl f1 len1.toNatClampNeg).drop p1.toNatClampNeg).take i.toNatClampNeg) ∧ va_P (dC, dI) cls [(h0, .inr (1, [.ref a, .int y])), (a, .inl (cA, n, .inl g)), (h1, .inr (1, [.ref b, .int len1])), (b, .inl (cB, n1, .inl f1))] H ∧ va_D A [(h0, .inr (1, [.ref a, .int y])), (a, .inl (cA, n, .inl g)), (h1, .inr (1, [.ref b, .int len1])), (b, .inl (cB, n1, .inl f1))] ∧ va_S A s.heap H locs ∧ lv_has ls 5 [(4, .int i), (0, .ref h0), (1, .ref h1), (2, .int p1), (3, .int p2)]) (fun u => match u with | (i, y, g) => (p2.toInt - i.toInt).toNat) ?_ (x1, len, f) ⟨by omega, by omega, by rw [show x1.toNatClampNeg = 0 from clampN (by omega)]; simp, hP, hD, hS, lv_sub hl [0, 1, 2, 3, 4] rfl⟩
  intro N ih u H locs ls hN hI
  obtain ⟨i, y, g⟩ := u
  obtain ⟨v1, v2, v3, hP, hD, hS, hl⟩ := hI
  have hN : (p2.toInt - i.toInt).toNat < N + 1 := hN
  refine lv_iload hx hb d_BR_putPart_3 (lv_at hl 0 rfl) ?_
  refine lv_iload_n hx hb d_BR_putPart_5 rfl (lv_at hl 4 rfl) ?_
  refine lv_icmp_ge (tgt := 27) hx hb d_BR_putPart_6 (by decide) (fun c6 => ?_) (fun c6 => ?_)
  · have q6 := leI c6
    have z0 : i.toInt = p2.toInt := by omega
    have z1 := i32_clamp (x := i) (by omega)
    have z2 := i32_clamp (x := p2) (by omega)
    have hP9 := hP.sub (ws' := [(h0, .inr (1, [.ref a, .int y])), (a, .inl (cA, n, .inl g)), (h1, .inr (1, [.ref b, .int len1])), (b, .inl (cB, n1, .inl f1))]) [0, 1, 2, 3] rfl
    have hD9 := hD.sub (ws' := [(h0, .inr (1, [.ref a, .int y])), (a, .inl (cA, n, .inl g)), (h1, .inr (1, [.ref b, .int len1])), (b, .inl (cB, n1, .inl f1))]) [0, 1, 2, 3] (by decide) rfl
    exact W.vret hx hb hr (fun t ht hW => ⟨⟨(y, g), rfl, ⟨by dsimp only; omega, by dsimp only; rw [v3, show i.toNatClampNeg = p2.toNatClampNeg from by omega]⟩, by rw [ht]; exact hP9, va_K.moved hW.alike hK, hD9⟩, hS.F ht⟩) hS.2.2 d_BR_putPart_27
  · have q6 := nleI c6
    refine lv_aload_n hx hb d_BR_putPart_9 rfl (lv_at hl 1 rfl) ?_
    refine lv_aload_n hx hb d_BR_putPart_10 rfl (lv_at hl 2 rfl) ?_
    refine lv_iload_n hx hb d_BR_putPart_11 rfl (lv_at hl 3 rfl) ?_
    refine lv_iload hx hb d_BR_putPart_12 (lv_at hl 0 rfl) ?_
    refine lv_iadd hx hb d_BR_putPart_14 ?_
    refine lv_topi (fun x2 ex2 => ?_)
    have tx2 : x2.toInt = p1.toInt + i.toInt := by have z := i32_add ex2 (by omega) (by omega); omega
    have hPc := hP.sub (ws' := [(h1, .inr (1, [.ref b, .int len1])), (b, .inl (cB, n1, .inl f1))]) [2, 3] rfl
    have hDc := hD.sub (ws' := [(h1, .inr (1, [.ref b, .int len1])), (b, .inl (cB, n1, .inl f1))]) [2, 3] (by decide) rfl
    have hKc := hK.sub (tys' := [(cB, .byte)]) [1] rfl
    have hFc := va_free (wc := [(h1, .inr (1, [.ref b, .int len1])), (b, .inl (cB, n1, .inl f1))]) hD hS hA [2, 3] rfl
    refine va_calli (va_runV (As := [.int x2]) (rest := [.ref h0]) ⟨hx, hb, hml, hown, hts⟩ (c_BR_at l dC dI h1 b H.size cB n1 len1 f1 (by omega) (by omega) (by omega) x2) (cwV 1 hts (gV kM_BR_36 kV_BR_at kS_BR_at kI_BR kC_BR_at) rfl rfl rfl (by decide +kernel) ⟨Nat.le_of_ble_eq_true rfl, Nat.le_of_ble_eq_true rfl⟩) ⟨fun a U g mk z => by obtain ⟨z0, z1, zP, zK, zD⟩ := z; exact ⟨z0, z1, zP, va_K.moved (u := U) (U := U.calling g mk a) (Vm.Alike.refl U.vm) zK, zD⟩, va_recv hKc hPc (ci := 1) (q0 := 0) rfl rfl, fun U hU hW => ⟨rfl, by rw [hU], by rw [hU]; exact hPc, va_K.moved hW.alike hKc, hDc.weaken (fun _ _ _ _ => trivial)⟩⟩ rfl rfl hl.1 rfl (lv_room (Nat.le_of_ble_eq_true rfl)) d_BR_putPart_15 ⟨(Nat.zero_le _), (Nat.zero_le _)⟩) hS (fun q _ h => hFc q h) hFc (fun r3 u t H1 locs ht hvm hw hB hz1 hk1 hS => ?_)
    obtain ⟨er3, rfl⟩ := hw
    have tr3 := br_get_in f1 len1 x2
    rw [← er3] at tr3
    obtain ⟨hP1, hK1, hD1⟩ := hB
    rw [ht] at hP1
    obtain ⟨hP, hD⟩ := va_join (wr := [(h0, .inr (1, [.ref a, .int y])), (a, .inl (cA, n, .inl g))]) (w1 := [(h1, .inr (1, [.ref b, .int len1])), (b, .inl (cB, n1, .inl f1))]) hP hD [2, 3] [0, 1] rfl rfl (by decide) (by decide) hk1 hFc hP1 hD1
    clear hPc hDc hKc hFc hz1 hk1 hP1 hK1 hD1
    generalize H1 = H at hP hS ⊢
    have hP : va_P (dC, dI) cls [(h0, .inr (1, [.ref a, .int y])), (a, .inl (cA, n, .inl g)), (h1, .inr (1, [.ref b, .int len1])), (b, .inl (cB, n1, .inl f1))] H := hP
    have hD : va_D A [(h0, .inr (1, [.ref a, .int y])), (a, .inl (cA, n, .inl g)), (h1, .inr (1, [.ref b, .int len1])), (b, .inl (cB, n1, .inl f1))] := hD
    have hPc := hP.sub (ws' := [(h0, .inr (1, [.ref a, .int y])), (a, .inl (cA, n, .inl g))]) [0, 1] rfl
    have hDc := hD.sub (ws' := [(h0, .inr (1, [.ref a, .int y])), (a, .inl (cA, n, .inl g))]) [0, 1] (by decide) rfl
    have hKc := hK.sub (tys' := [(cA, .byte)]) [0] rfl
    have hFc := va_free (wc := [(h0, .inr (1, [.ref a, .int y])), (a, .inl (cA, n, .inl g))]) hD hS hA [0, 1] rfl
    refine va_callv (va_runV (As := [.int r3]) (rest := []) ⟨hx, hb, hml, hown, hts⟩ (c_BR_put l dC dI h0 a H.size cA n y g (by omega) (by omega) (by omega) r3) (cwV 1 hts (gV kM_BR_17 kV_BR_put kS_BR_put kI_BR kC_BR_put) rfl rfl rfl (by decide +kernel) ⟨Nat.le_of_ble_eq_true rfl, Nat.le_of_ble_eq_true rfl⟩) ⟨fun a U g mk z => by obtain ⟨z0, z1, zP, zK, zD⟩ := z; exact ⟨z0, z1, zP, va_K.moved (u := U) (U := U.calling g mk a) (Vm.Alike.refl U.vm) zK, zD⟩, va_recv hKc hPc (ci := 1) (q0 := 0) rfl rfl, fun U hU hW => ⟨rfl, by rw [hU], by rw [hU]; exact hPc, va_K.moved hW.alike hKc, hDc.weaken (fun _ _ _ _ => trivial)⟩⟩ rfl rfl hl.1 rfl (lv_room (Nat.le_of_ble_eq_true rfl)) d_BR_putPart_18 ⟨(Nat.zero_le _), (Nat.zero_le _)⟩) hS (fun q _ h => hFc q h) hFc (fun u t H1 locs ht hvm hw hB hz1 hk1 hS => ?_)
    obtain ⟨n5, f6⟩ := u
    try dsimp only at hw
    have tn5 := br_put_in (by omega) (by omega) (by omega) hw
    have bn5 := br_put_bl (by omega) (by omega) (by omega) hw
    obtain ⟨hP1, hK1, hD1⟩ := hB
    rw [ht] at hP1
    obtain ⟨hP, hD⟩ := va_join (wr := [(h1, .inr (1, [.ref b, .int len1])), (b, .inl (cB, n1, .inl f1))]) (w1 := [(h0, .inr (1, [.ref a, .int n5])), (a, .inl (cA, n, .inl f6))]) hP hD [0, 1] [2, 3] rfl rfl (by decide) (by decide) hk1 hFc hP1 hD1
    clear hPc hDc hKc hFc hz1 hk1 hP1 hK1 hD1
    generalize H1 = H at hP hS ⊢
    have hP : va_P (dC, dI) cls [(h1, .inr (1, [.ref b, .int len1])), (b, .inl (cB, n1, .inl f1)), (h0, .inr (1, [.ref a, .int n5])), (a, .inl (cA, n, .inl f6))] H := hP
    have hD : va_D A [(h1, .inr (1, [.ref b, .int len1])), (b, .inl (cB, n1, .inl f1)), (h0, .inr (1, [.ref a, .int n5])), (a, .inl (cA, n, .inl f6))] := hD
    obtain ⟨x7, ex7⟩ : ∃ z : Int32, z = i + 1 := ⟨_, rfl⟩
    have k1 : (1 : Int32).toInt = 1 := by decide
    have tx7 : x7.toInt = i.toInt + 1 := by have z := i32_add ex7 (by omega) (by omega); omega
    refine lv_iinc (v := x7) (lv' := [(4, .int x7), (0, .ref h0), (1, .ref h1), (2, .int p1), (3, .int p2)]) hx hb d_BR_putPart_21 hl (k := 0) rfl (by rw [ex7]; rfl) (by decide) rfl (fun ls hl => ?_)
    refine lv_goto (tgt := 3) hx hb d_BR_putPart_24 (by decide) ?_
    have z1 := bn5 (by omega)
    have z6 := i32_clamp (x := len1) (by omega)
    have z7 := i32_clamp (x := p1) (by omega)
    have z8 := i32_clamp (x := i) (by omega)
    have z9 := i32_clamp (x := x2) (by omega)
    have z10 := br_get_bn er3 (by omega) (by omega)
    skip
    exact ih (x7, n5, f6) _ _ _ (by show (p2.toInt - x7.toInt).toNat < N; omega) ⟨by omega, by omega, by rw [z1, v3, show x7.toNatClampNeg = i.toNatClampNeg + 1 from clampN (by omega), bl_part f1 (by omega), z10, show x2.toNatClampNeg = p1.toNatClampNeg + i.toNatClampNeg from by omega, List.append_assoc], hP.sub [2, 3, 0, 1] rfl, hD.sub [2, 3, 0, 1] (by decide) rfl, hS, lv_sub hl [0, 1, 2, 3, 4] rfl⟩
abbrev b_BR_copy : ByteArray := prog_3_method_10_code
def y_BR_copy : MethodName := ⟨R_BR, "copy", "(LWaferForge$ByteRow;)V"⟩
abbrev w_BR_copy : List Cond := .code y_BR_copy b_BR_copy 2 none :: lw_g
theorem kC_BR_copy : Cond.code y_BR_copy b_BR_copy 2 none ∈ lw_g := in_g 1387 (by decide +kernel) rfl
theorem d_BR_copy_0 : decode b_BR_copy 0 = .ok (.aload_n 0, 1) := by decide +kernel
theorem d_BR_copy_1 : decode b_BR_copy 1 = .ok (.iconst 0, 1) := by decide +kernel
theorem d_BR_copy_2 : decode b_BR_copy 2 = .ok (.putfield 13, 3) := by decide +kernel
theorem d_BR_copy_5 : decode b_BR_copy 5 = .ok (.aload_n 0, 1) := by decide +kernel
theorem d_BR_copy_6 : decode b_BR_copy 6 = .ok (.aload_n 1, 1) := by decide +kernel
theorem d_BR_copy_7 : decode b_BR_copy 7 = .ok (.iconst 0, 1) := by decide +kernel
theorem d_BR_copy_8 : decode b_BR_copy 8 = .ok (.aload_n 1, 1) := by decide +kernel
theorem d_BR_copy_9 : decode b_BR_copy 9 = .ok (.getfield 13, 3) := by decide +kernel
theorem d_BR_copy_12 : decode b_BR_copy 12 = .ok (.invokevirtual 40, 3) := by decide +kernel
theorem d_BR_copy_15 : decode b_BR_copy 15 = .ok (.return_, 1) := by decide +kernel
theorem kM_BR_40 : Cond.methodLink R_BR 40 y_BR_putPart ∈ lw_g := in_g 1388 (by decide +kernel) rfl
theorem kV_BR_putPart : Cond.instanceMethod y_BR_putPart ∈ lw_g := in_g 1218 (by decide +kernel) rfl
theorem kS_BR_putPart : Cond.selects R_BR y_BR_putPart y_BR_putPart ∈ lw_g := in_g 1219 (by decide +kernel) rfl
set_option maxHeartbeats 4000000 in
set_option maxRecDepth 100000 in
theorem c_BR_copy (l : Launch) (dC : Nat → ClassId) (dI : Nat → Nat → Nat) (h0 a h1 b sz : Nat) (cA cB : ClassId) (n n1 : Nat) (len len1 : Int32) (f f1 : Nat → Int32) (hl0 : 0 ≤ len.toInt) (hl1 : len.toInt ≤ n) (hn : n < 2147483648) (hm0 : 0 ≤ len1.toInt) (hm1 : len1.toInt ≤ n1) (hn1 : n1 < 2147483648) (g4 : len1.toInt ≤ n) : Met l y_BR_copy w_BR_copy ({ frames := 2, cells := 0, slots := 0, locals := 45 }) (va_Pc [.ref h0, .ref h1] (fun U => U.heap.size = sz ∧ va_P (dC, dI) cls [(h0, .inr (1, [.ref a, .int len])), (a, .inl (cA, n, .inl f)), (h1, .inr (1, [.ref b, .int len1])), (b, .inl (cB, n1, .inl f1))] U.heap ∧ va_K (dC, dI) cls [(cA, .byte), (cB, .byte)] U ∧ va_D (fun _ => True) [(h0, .inr (1, [.ref a, .int len])), (a, .inl (cA, n, .inl f)), (h1, .inr (1, [.ref b, .int len1])), (b, .inl (cB, n1, .inl f1))])) (va_Qv (fun (u : Int32 × (Nat → Int32)) => u.1.toInt = len1.toInt ∧ bl u.2 u.1.toNatClampNeg = bl f1 len1.toNatClampNeg) (br_at2 dC dI h0 a h1 b cA cB n n1 len1 f1 (va_A [(h0, .inr (1, [.ref a, .int len])), (a, .inl (cA, n, .inl f)), (h1, .inr (1, [.ref b, .int len1])), (b, .inl (cB, n1, .inl f1))] sz)) (va_A [(h0, .inr (1, [.ref a, .int len])), (a, .inl (cA, n, .inl f)), (h1, .inr (1, [.ref b, .int len1])), (b, .inl (cB, n1, .inl f1))] sz)) 0 0 (va_A [(h0, .inr (1, [.ref a, .int len])), (a, .inl (cA, n, .inl f)), (h1, .inr (1, [.ref b, .int len1])), (b, .inl (cB, n1, .inl f1))] sz) := by
  refine Met.ofW (cc := b_BR_copy) (maxL := 2) (ret := none) (by decide) rfl ?_
  intro p e s m args below meth c s₁ B hml hv
  obtain ⟨rfl, hsz, hP, hK, hD0⟩ := hv
  have hx := B.exec
  have hb := B.bytes
  have hr := B.returns
  have hts0 := atoms_spec (ws := w_BR_copy) B.pre
  have hts : ∀ w ∈ lw_g, w.before _ s = true := fun w h => hts0 w (List.mem_cons_of_mem _ h)
  have hown : s.vm.findClass R_BR = some m.cls := findClass_of_methodNamed B.named
  have hlocks := B.notSynchronized
  clear hts0
  subst hsz
  have hD := hD0.self (sz := s.heap.size)
  generalize hAe : va_A [(h0, .inr (1, [.ref a, .int len])), (a, .inl (cA, n, .inl f)), (h1, .inr (1, [.ref b, .int len1])), (b, .inl (cB, n1, .inl f1))] s.heap.size = A at hD ⊢
  have hA : ∀ q : Nat, s.heap.size ≤ q → A q := fun q h => by rw [← hAe]; exact Or.inr h
  clear hAe
  have hP : va_P (dC, dI) cls [(h0, .inr (1, [.ref a, .int len])), (a, .inl (cA, n, .inl f)), (h1, .inr (1, [.ref b, .int len1])), (b, .inl (cB, n1, .inl f1))] s.heap := hP
  have hl := lv_entry ([.ref h0, .ref h1]) (n := 2) (Nat.le_of_ble_eq_true rfl)
  rw [lg_entry_eq]
  generalize (lg_sl ([.ref h0, .ref h1]) ++ List.replicate (2 - (lg_sl ([.ref h0, .ref h1])).length) Slot.unset).toArray = ls at hl ⊢
  have hl : lv_has ls 2 [(0, .ref h0), (1, .ref h1)] := hl
  have k0 : (0 : Int32).toInt = 0 := by decide
  refine w_gen (A := A) hP (fun H locs hP hS => ?_)
  refine lv_aload_n hx hb d_BR_copy_0 rfl (lv_at hl 0 rfl) ?_
  refine lv_iconst (v := 0) hx hb d_BR_copy_1 (by decide) ?_
  have k0 : (0 : Int32).toInt = 0 := by decide
  refine va_put (D := (dC, dI)) (ci := 1) (v := .int 0) (ty := .int) (C := R_BR) (T := F_BR) (N := 2) hx hb hts i_BR t_BR t_BR_ok n_BR hown hK hP hD hS 0 rfl rfl 1 (by decide) (hts _ kF_BR_13) (fun _ h9 => h9) rfl (by decide +kernel) rfl rfl (Nat.le_of_ble_eq_true rfl) d_BR_copy_2 (fun H locs hP hD hS => ?_)
  have hP : va_P (dC, dI) cls [(h0, .inr (1, [.ref a, .int 0])), (a, .inl (cA, n, .inl f)), (h1, .inr (1, [.ref b, .int len1])), (b, .inl (cB, n1, .inl f1))] H := hP
  have hD : va_D A [(h0, .inr (1, [.ref a, .int 0])), (a, .inl (cA, n, .inl f)), (h1, .inr (1, [.ref b, .int len1])), (b, .inl (cB, n1, .inl f1))] := hD
  refine lv_aload_n hx hb d_BR_copy_5 rfl (lv_at hl 0 rfl) ?_
  refine lv_aload_n hx hb d_BR_copy_6 rfl (lv_at hl 1 rfl) ?_
  refine lv_iconst (v := 0) hx hb d_BR_copy_7 (by decide) ?_
  have k0 : (0 : Int32).toInt = 0 := by decide
  refine lv_aload_n hx hb d_BR_copy_8 rfl (lv_at hl 1 rfl) ?_
  refine va_get (D := (dC, dI)) (ci := 1) (v := .int len1) (C := R_BR) (T := F_BR) (N := 2) hx hb hts i_BR hown hK hP 2 rfl rfl 1 (by decide) (hts _ kF_BR_13) (fun _ h9 => h9) rfl d_BR_copy_9 ?_
  have hPc := hP.sub (ws' := [(h0, .inr (1, [.ref a, .int 0])), (a, .inl (cA, n, .inl f)), (h1, .inr (1, [.ref b, .int len1])), (b, .inl (cB, n1, .inl f1))]) [0, 1, 2, 3] rfl
  have hDc := hD.sub (ws' := [(h0, .inr (1, [.ref a, .int 0])), (a, .inl (cA, n, .inl f)), (h1, .inr (1, [.ref b, .int len1])), (b, .inl (cB, n1, .inl f1))]) [0, 1, 2, 3] (by decide) rfl
  have hKc := hK.sub (tys' := [(cA, .byte), (cB, .byte)]) [0, 1] rfl
  have hFc := va_free (wc := [(h0, .inr (1, [.ref a, .int 0])), (a, .inl (cA, n, .inl f)), (h1, .inr (1, [.ref b, .int len1])), (b, .inl (cB, n1, .inl f1))]) hD hS hA [0, 1, 2, 3] rfl
  refine va_callv (va_runV (As := [.ref h1, .int 0, .int len1]) (rest := []) ⟨hx, hb, hml, hown, hts⟩ (c_BR_putPart l dC dI h0 a h1 b H.size cA cB n n1 0 len1 f f1 (by omega) (by omega) (by omega) (by omega) (by omega) (by omega) 0 len1 (by omega) (by omega) (by omega) (by omega)) (cwV 3 hts (gV kM_BR_40 kV_BR_putPart kS_BR_putPart kI_BR kC_BR_putPart) rfl rfl rfl (by decide +kernel) ⟨Nat.le_of_ble_eq_true rfl, Nat.le_of_ble_eq_true rfl⟩) ⟨fun a U g mk z => by obtain ⟨z0, z1, zP, zK, zD⟩ := z; exact ⟨z0, z1, zP, va_K.moved (u := U) (U := U.calling g mk a) (Vm.Alike.refl U.vm) zK, zD⟩, va_recv hKc hPc (ci := 1) (q0 := 0) rfl rfl, fun U hU hW => ⟨rfl, by rw [hU], by rw [hU]; exact hPc, va_K.moved hW.alike hKc, hDc.weaken (fun _ _ _ _ => trivial)⟩⟩ rfl rfl hl.1 rfl (lv_room (Nat.le_of_ble_eq_true rfl)) d_BR_copy_12 ⟨(Nat.zero_le _), (Nat.zero_le _)⟩) hS (fun q _ h => hFc q h) hFc (fun u t H1 locs ht hvm hw hB hz1 hk1 hS => ?_)
  obtain ⟨n2, f3⟩ := u
  try dsimp only at hw
  obtain ⟨tn2, bn2⟩ := hw
  obtain ⟨hP1, hK1, hD1⟩ := hB
  rw [ht] at hP1
  obtain ⟨hP, hD⟩ := va_join (wr := []) (w1 := [(h0, .inr (1, [.ref a, .int n2])), (a, .inl (cA, n, .inl f3)), (h1, .inr (1, [.ref b, .int len1])), (b, .inl (cB, n1, .inl f1))]) hP hD [0, 1, 2, 3] [] rfl rfl (by decide) (by decide) hk1 hFc hP1 hD1
  clear hPc hDc hKc hFc hz1 hk1 hP1 hK1 hD1
  generalize H1 = H at hP hS ⊢
  have hP : va_P (dC, dI) cls [(h0, .inr (1, [.ref a, .int n2])), (a, .inl (cA, n, .inl f3)), (h1, .inr (1, [.ref b, .int len1])), (b, .inl (cB, n1, .inl f1))] H := hP
  have hD : va_D A [(h0, .inr (1, [.ref a, .int n2])), (a, .inl (cA, n, .inl f3)), (h1, .inr (1, [.ref b, .int len1])), (b, .inl (cB, n1, .inl f1))] := hD
  have z2 := i32_clamp (x := len1) (by omega)
  have hP9 := hP.sub (ws' := [(h0, .inr (1, [.ref a, .int n2])), (a, .inl (cA, n, .inl f3)), (h1, .inr (1, [.ref b, .int len1])), (b, .inl (cB, n1, .inl f1))]) [0, 1, 2, 3] rfl
  have hD9 := hD.sub (ws' := [(h0, .inr (1, [.ref a, .int n2])), (a, .inl (cA, n, .inl f3)), (h1, .inr (1, [.ref b, .int len1])), (b, .inl (cB, n1, .inl f1))]) [0, 1, 2, 3] (by decide) rfl
  exact W.vret hx hb hr (fun t ht hW => ⟨⟨(n2, f3), rfl, ⟨by dsimp only; omega, by dsimp only; rw [bn2, show (0 : Int32).toNatClampNeg = 0 from by decide, List.drop_zero, List.take_of_length_le (by rw [bl_len]; exact Nat.le_refl _)]; rfl⟩, by rw [ht]; exact hP9, va_K.moved hW.alike hK, hD9⟩, hS.F ht⟩) hS.2.2 d_BR_copy_15
abbrev b_BR_samePart : ByteArray := prog_3_method_12_code
def y_BR_samePart : MethodName := ⟨R_BR, "samePart", "(III)Z"⟩
abbrev w_BR_samePart : List Cond := .code y_BR_samePart b_BR_samePart 5 (Option.some .boolean) :: lw_g
theorem kC_BR_samePart : Cond.code y_BR_samePart b_BR_samePart 5 (Option.some .boolean) ∈ lw_g := in_g 1093 (by decide +kernel) rfl
theorem d_BR_samePart_0 : decode b_BR_samePart 0 = .ok (.iload_n 1, 1) := by decide +kernel
theorem d_BR_samePart_1 : decode b_BR_samePart 1 = .ok (.ifCond .lt 27, 3) := by decide +kernel
theorem d_BR_samePart_4 : decode b_BR_samePart 4 = .ok (.iload_n 2, 1) := by decide +kernel
theorem d_BR_samePart_5 : decode b_BR_samePart 5 = .ok (.ifCond .lt 23, 3) := by decide +kernel
theorem d_BR_samePart_8 : decode b_BR_samePart 8 = .ok (.iload_n 1, 1) := by decide +kernel
theorem d_BR_samePart_9 : decode b_BR_samePart 9 = .ok (.aload_n 0, 1) := by decide +kernel
theorem d_BR_samePart_10 : decode b_BR_samePart 10 = .ok (.getfield 13, 3) := by decide +kernel
theorem d_BR_samePart_13 : decode b_BR_samePart 13 = .ok (.iload_n 3, 1) := by decide +kernel
theorem d_BR_samePart_14 : decode b_BR_samePart 14 = .ok (.isub, 1) := by decide +kernel
theorem d_BR_samePart_15 : decode b_BR_samePart 15 = .ok (.if_icmp .gt 13, 3) := by decide +kernel
theorem d_BR_samePart_18 : decode b_BR_samePart 18 = .ok (.iload_n 2, 1) := by decide +kernel
theorem d_BR_samePart_19 : decode b_BR_samePart 19 = .ok (.aload_n 0, 1) := by decide +kernel
theorem d_BR_samePart_20 : decode b_BR_samePart 20 = .ok (.getfield 13, 3) := by decide +kernel
theorem d_BR_samePart_23 : decode b_BR_samePart 23 = .ok (.iload_n 3, 1) := by decide +kernel
theorem d_BR_samePart_24 : decode b_BR_samePart 24 = .ok (.isub, 1) := by decide +kernel
theorem d_BR_samePart_25 : decode b_BR_samePart 25 = .ok (.if_icmp .le 5, 3) := by decide +kernel
theorem d_BR_samePart_28 : decode b_BR_samePart 28 = .ok (.iconst 0, 1) := by decide +kernel
theorem d_BR_samePart_29 : decode b_BR_samePart 29 = .ok (.ireturn, 1) := by decide +kernel
theorem d_BR_samePart_30 : decode b_BR_samePart 30 = .ok (.iconst 0, 1) := by decide +kernel
theorem d_BR_samePart_31 : decode b_BR_samePart 31 = .ok (.istore 4, 2) := by decide +kernel
theorem d_BR_samePart_33 : decode b_BR_samePart 33 = .ok (.iload 4, 2) := by decide +kernel
theorem d_BR_samePart_35 : decode b_BR_samePart 35 = .ok (.iload_n 3, 1) := by decide +kernel
theorem d_BR_samePart_36 : decode b_BR_samePart 36 = .ok (.if_icmp .ge 32, 3) := by decide +kernel
theorem d_BR_samePart_39 : decode b_BR_samePart 39 = .ok (.aload_n 0, 1) := by decide +kernel
theorem d_BR_samePart_40 : decode b_BR_samePart 40 = .ok (.getfield 7, 3) := by decide +kernel
theorem d_BR_samePart_43 : decode b_BR_samePart 43 = .ok (.iload_n 1, 1) := by decide +kernel
theorem d_BR_samePart_44 : decode b_BR_samePart 44 = .ok (.iload 4, 2) := by decide +kernel
theorem d_BR_samePart_46 : decode b_BR_samePart 46 = .ok (.iadd, 1) := by decide +kernel
theorem d_BR_samePart_47 : decode b_BR_samePart 47 = .ok (.baload, 1) := by decide +kernel
theorem d_BR_samePart_48 : decode b_BR_samePart 48 = .ok (.aload_n 0, 1) := by decide +kernel
theorem d_BR_samePart_49 : decode b_BR_samePart 49 = .ok (.getfield 7, 3) := by decide +kernel
theorem d_BR_samePart_52 : decode b_BR_samePart 52 = .ok (.iload_n 2, 1) := by decide +kernel
theorem d_BR_samePart_53 : decode b_BR_samePart 53 = .ok (.iload 4, 2) := by decide +kernel
theorem d_BR_samePart_55 : decode b_BR_samePart 55 = .ok (.iadd, 1) := by decide +kernel
theorem d_BR_samePart_56 : decode b_BR_samePart 56 = .ok (.baload, 1) := by decide +kernel
theorem d_BR_samePart_57 : decode b_BR_samePart 57 = .ok (.if_icmp .eq 5, 3) := by decide +kernel
theorem d_BR_samePart_60 : decode b_BR_samePart 60 = .ok (.iconst 0, 1) := by decide +kernel
theorem d_BR_samePart_61 : decode b_BR_samePart 61 = .ok (.ireturn, 1) := by decide +kernel
theorem d_BR_samePart_62 : decode b_BR_samePart 62 = .ok (.iinc 4 1, 3) := by decide +kernel
theorem d_BR_samePart_65 : decode b_BR_samePart 65 = .ok (.goto (-32), 3) := by decide +kernel
theorem d_BR_samePart_68 : decode b_BR_samePart 68 = .ok (.iconst 1, 1) := by decide +kernel
theorem d_BR_samePart_69 : decode b_BR_samePart 69 = .ok (.ireturn, 1) := by decide +kernel
set_option maxHeartbeats 4000000 in
set_option maxRecDepth 100000 in
theorem c_BR_samePart (l : Launch) (dC : Nat → ClassId) (dI : Nat → Nat → Nat) (h0 a sz : Nat) (cA : ClassId) (n : Nat) (len : Int32) (f : Nat → Int32) (hl0 : 0 ≤ len.toInt) (hl1 : len.toInt ≤ n) (hn : n < 2147483648) (p0 : Int32) (p1 : Int32) (p2 : Int32) (g2 : 0 ≤ p2.toInt) : Met l y_BR_samePart w_BR_samePart ({ frames := 0, cells := 0, slots := 0, locals := 0 }) (va_Pc [.ref h0, .int p0, .int p1, .int p2] (fun U => U.heap.size = sz ∧ va_P (dC, dI) cls [(h0, .inr (1, [.ref a, .int len])), (a, .inl (cA, n, .inl f))] U.heap ∧ va_K (dC, dI) cls [(cA, .byte)] U ∧ va_D (fun _ => True) [(h0, .inr (1, [.ref a, .int len])), (a, .inl (cA, n, .inl f))])) (va_Qi (fun (r : Int32) (u : Int32 × (Nat → Int32)) => (r = 0 ∨ r = 1) ∧ u = (len, f)) (br_at dC dI h0 a cA n (va_A [(h0, .inr (1, [.ref a, .int len])), (a, .inl (cA, n, .inl f))] sz)) (va_A [(h0, .inr (1, [.ref a, .int len])), (a, .inl (cA, n, .inl f))] sz)) 0 0 (va_A [(h0, .inr (1, [.ref a, .int len])), (a, .inl (cA, n, .inl f))] sz) := by
  refine Met.ofW (cc := b_BR_samePart) (maxL := 5) (ret := (Option.some .boolean)) (by decide) rfl ?_
  intro p e s m args below meth c s₁ B hml hv
  obtain ⟨rfl, hsz, hP, hK, hD0⟩ := hv
  have hx := B.exec
  have hb := B.bytes
  have hr := B.returns
  have hts0 := atoms_spec (ws := w_BR_samePart) B.pre
  have hts : ∀ w ∈ lw_g, w.before _ s = true := fun w h => hts0 w (List.mem_cons_of_mem _ h)
  have hown : s.vm.findClass R_BR = some m.cls := findClass_of_methodNamed B.named
  have hlocks := B.notSynchronized
  clear hts0
  subst hsz
  have hD := hD0.self (sz := s.heap.size)
  generalize hAe : va_A [(h0, .inr (1, [.ref a, .int len])), (a, .inl (cA, n, .inl f))] s.heap.size = A at hD ⊢
  have hA : ∀ q : Nat, s.heap.size ≤ q → A q := fun q h => by rw [← hAe]; exact Or.inr h
  clear hAe
  have hP : va_P (dC, dI) cls [(h0, .inr (1, [.ref a, .int len])), (a, .inl (cA, n, .inl f))] s.heap := hP
  have hl := lv_entry ([.ref h0, .int p0, .int p1, .int p2]) (n := 5) (Nat.le_of_ble_eq_true rfl)
  rw [lg_entry_eq]
  generalize (lg_sl ([.ref h0, .int p0, .int p1, .int p2]) ++ List.replicate (5 - (lg_sl ([.ref h0, .int p0, .int p1, .int p2])).length) Slot.unset).toArray = ls at hl ⊢
  have hl : lv_has ls 5 [(0, .ref h0), (1, .int p0), (2, .int p1), (3, .int p2)] := hl
  have k0 : (0 : Int32).toInt = 0 := by decide
  refine w_gen (A := A) hP (fun H locs hP hS => ?_)
  have lo_p0 := i32_lo p0
  have hi_p0 := i32_hi p0
  have lo_p1 := i32_lo p1
  have hi_p1 := i32_hi p1
  have lo_p2 := i32_lo p2
  have hi_p2 := i32_hi p2
  refine lv_iload_n hx hb d_BR_samePart_0 rfl (lv_at hl 1 rfl) ?_
  refine lv_if_lt (tgt := 28) hx hb d_BR_samePart_1 (by decide) (fun c1 => ?_) (fun c1 => ?_)
  · have q1 := ltI c1
    refine lv_iconst (v := 0) hx hb d_BR_samePart_28 (by decide) ?_
    have k0 : (0 : Int32).toInt = 0 := by decide
    have hP9 := hP.sub (ws' := [(h0, .inr (1, [.ref a, .int len])), (a, .inl (cA, n, .inl f))]) [0, 1] rfl
    have hD9 := hD.sub (ws' := [(h0, .inr (1, [.ref a, .int len])), (a, .inl (cA, n, .inl f))]) [0, 1] (by decide) rfl
    exact W.zret (v := 0) hx hb hr (zn01 (by first | exact Or.inl rfl | exact Or.inr rfl | exact hr0)) (fun t ht hW => ⟨⟨0, (len, f), rfl, ⟨by first | exact Or.inl rfl | exact Or.inr rfl, rfl⟩, by rw [ht]; exact hP9, va_K.moved hW.alike hK, hD9⟩, hS.F ht⟩) hS.2.2 d_BR_samePart_29
  · have q1 := nltI c1
    refine lv_iload_n hx hb d_BR_samePart_4 rfl (lv_at hl 2 rfl) ?_
    refine lv_if_lt (tgt := 28) hx hb d_BR_samePart_5 (by decide) (fun c5 => ?_) (fun c5 => ?_)
    · have q5 := ltI c5
      refine lv_iconst (v := 0) hx hb d_BR_samePart_28 (by decide) ?_
      have k0 : (0 : Int32).toInt = 0 := by decide
      have hP9 := hP.sub (ws' := [(h0, .inr (1, [.ref a, .int len])), (a, .inl (cA, n, .inl f))]) [0, 1] rfl
      have hD9 := hD.sub (ws' := [(h0, .inr (1, [.ref a, .int len])), (a, .inl (cA, n, .inl f))]) [0, 1] (by decide) rfl
      exact W.zret (v := 0) hx hb hr (zn01 (by first | exact Or.inl rfl | exact Or.inr rfl | exact hr0)) (fun t ht hW => ⟨⟨0, (len, f), rfl, ⟨by first | exact Or.inl rfl | exact Or.inr rfl, rfl⟩, by rw [ht]; exact hP9, va_K.moved hW.alike hK, hD9⟩, hS.F ht⟩) hS.2.2 d_BR_samePart_29
    · have q5 := nltI c5
      refine lv_iload_n hx hb d_BR_samePart_8 rfl (lv_at hl 1 rfl) ?_
      refine lv_aload_n hx hb d_BR_samePart_9 rfl (lv_at hl 0 rfl) ?_
      refine va_get (D := (dC, dI)) (ci := 1) (v := .int len) (C := R_BR) (T := F_BR) (N := 2) hx hb hts i_BR hown hK hP 0 rfl rfl 1 (by decide) (hts _ kF_BR_13) (fun _ h9 => h9) rfl d_BR_samePart_10 ?_
      refine lv_iload_n hx hb d_BR_samePart_13 rfl (lv_at hl 3 rfl) ?_
      refine lv_isub hx hb d_BR_samePart_14 ?_
      refine lv_topi (fun x1 ex1 => ?_)
      have tx1 : x1.toInt = len.toInt - p2.toInt := by have z := i32_sub ex1 (by omega) (by omega); omega
      refine lv_icmp_gt (tgt := 28) hx hb d_BR_samePart_15 (by decide) (fun c15 => ?_) (fun c15 => ?_)
      · have q15 := ltI c15
        refine lv_iconst (v := 0) hx hb d_BR_samePart_28 (by decide) ?_
        have k0 : (0 : Int32).toInt = 0 := by decide
        have hP9 := hP.sub (ws' := [(h0, .inr (1, [.ref a, .int len])), (a, .inl (cA, n, .inl f))]) [0, 1] rfl
        have hD9 := hD.sub (ws' := [(h0, .inr (1, [.ref a, .int len])), (a, .inl (cA, n, .inl f))]) [0, 1] (by decide) rfl
        exact W.zret (v := 0) hx hb hr (zn01 (by first | exact Or.inl rfl | exact Or.inr rfl | exact hr0)) (fun t ht hW => ⟨⟨0, (len, f), rfl, ⟨by first | exact Or.inl rfl | exact Or.inr rfl, rfl⟩, by rw [ht]; exact hP9, va_K.moved hW.alike hK, hD9⟩, hS.F ht⟩) hS.2.2 d_BR_samePart_29
      · have q15 := nltI c15
        refine lv_iload_n hx hb d_BR_samePart_18 rfl (lv_at hl 2 rfl) ?_
        refine lv_aload_n hx hb d_BR_samePart_19 rfl (lv_at hl 0 rfl) ?_
        refine va_get (D := (dC, dI)) (ci := 1) (v := .int len) (C := R_BR) (T := F_BR) (N := 2) hx hb hts i_BR hown hK hP 0 rfl rfl 1 (by decide) (hts _ kF_BR_13) (fun _ h9 => h9) rfl d_BR_samePart_20 ?_
        refine lv_iload_n hx hb d_BR_samePart_23 rfl (lv_at hl 3 rfl) ?_
        refine lv_isub hx hb d_BR_samePart_24 ?_
        refine lv_topi (fun x2 ex2 => ?_)
        have tx2 : x2.toInt = len.toInt - p2.toInt := by have z := i32_sub ex2 (by omega) (by omega); omega
        refine lv_icmp_le (tgt := 30) hx hb d_BR_samePart_25 (by decide) (fun c25 => ?_) (fun c25 => ?_)
        · have q25 := leI c25
          refine lv_iconst (v := 0) hx hb d_BR_samePart_30 (by decide) ?_
          refine lv_topi (fun x3 ex3 => ?_)
          have tx3 : x3.toInt = 0 := by rw [ex3]; decide
          refine lv_istore (lv' := [(4, .int x3), (0, .ref h0), (1, .int p0), (2, .int p1), (3, .int p2)]) hx hb d_BR_samePart_31 hl (by decide) rfl (fun ls hl => ?_)
          refine w_loop (σ := Int32) (fun u H locs ls => match u with | i => (0 ≤ i.toInt ∧ i.toInt ≤ p2.toInt) ∧ va_P (dC, dI) cls [(h0, .inr (1, [.ref a, .int len])), (a, .inl (cA, n, .inl f))] H ∧ va_D A [(h0, .inr (1, [.ref a, .int len])), (a, .inl (cA, n, .inl f))] ∧ va_S A s.heap H locs ∧ lv_has ls 5 [(4, .int i), (0, .ref h0), (1, .int p0), (2, .int p1), (3, .int p2)]) (fun u => match u with | i => (p2.toInt - i.toInt).toNat) ?_ (x3) ⟨by omega, hP, hD, hS, lv_sub hl [0, 1, 2, 3, 4] rfl⟩
          intro N ih u H locs ls hN hI
          obtain ⟨i, rfl⟩ : ∃ z, z = u := ⟨_, rfl⟩
          obtain ⟨v1, hP, hD, hS, hl⟩ := hI
          have hN : (p2.toInt - i.toInt).toNat < N + 1 := hN
          refine lv_iload hx hb d_BR_samePart_33 (lv_at hl 0 rfl) ?_
          refine lv_iload_n hx hb d_BR_samePart_35 rfl (lv_at hl 4 rfl) ?_
          refine lv_icmp_ge (tgt := 68) hx hb d_BR_samePart_36 (by decide) (fun c36 => ?_) (fun c36 => ?_)
          · have q36 := leI c36
            refine lv_iconst (v := 1) hx hb d_BR_samePart_68 (by decide) ?_
            have k1 : (1 : Int32).toInt = 1 := by decide
            have hP9 := hP.sub (ws' := [(h0, .inr (1, [.ref a, .int len])), (a, .inl (cA, n, .inl f))]) [0, 1] rfl
            have hD9 := hD.sub (ws' := [(h0, .inr (1, [.ref a, .int len])), (a, .inl (cA, n, .inl f))]) [0, 1] (by decide) rfl
            exact W.zret (v := 1) hx hb hr (zn01 (by first | exact Or.inl rfl | exact Or.inr rfl | exact hr1)) (fun t ht hW => ⟨⟨1, (len, f), rfl, ⟨by first | exact Or.inl rfl | exact Or.inr rfl, rfl⟩, by rw [ht]; exact hP9, va_K.moved hW.alike hK, hD9⟩, hS.F ht⟩) hS.2.2 d_BR_samePart_69
          · have q36 := nleI c36
            refine lv_aload_n hx hb d_BR_samePart_39 rfl (lv_at hl 1 rfl) ?_
            refine va_get (D := (dC, dI)) (ci := 1) (v := .ref a) (C := R_BR) (T := F_BR) (N := 2) hx hb hts i_BR hown hK hP 0 rfl rfl 0 (by decide) (hts _ kF_BR_7) (fun _ h9 => h9) rfl d_BR_samePart_40 ?_
            refine lv_iload_n hx hb d_BR_samePart_43 rfl (lv_at hl 2 rfl) ?_
            refine lv_iload hx hb d_BR_samePart_44 (lv_at hl 0 rfl) ?_
            refine lv_iadd hx hb d_BR_samePart_46 ?_
            refine lv_topi (fun x4 ex4 => ?_)
            have tx4 : x4.toInt = p0.toInt + i.toInt := by have z := i32_add ex4 (by omega) (by omega); omega
            have g47 : vp_in x4 n := vp_in_iff.mpr ⟨by omega, by omega⟩
            refine va_bald hx hb hK hP 1 0 rfl rfl g47 d_BR_samePart_47 ?_
            refine lv_topi (fun x5 ex5 => ?_)
            refine lv_aload_n hx hb d_BR_samePart_48 rfl (lv_at hl 1 rfl) ?_
            refine va_get (D := (dC, dI)) (ci := 1) (v := .ref a) (C := R_BR) (T := F_BR) (N := 2) hx hb hts i_BR hown hK hP 0 rfl rfl 0 (by decide) (hts _ kF_BR_7) (fun _ h9 => h9) rfl d_BR_samePart_49 ?_
            refine lv_iload_n hx hb d_BR_samePart_52 rfl (lv_at hl 3 rfl) ?_
            refine lv_iload hx hb d_BR_samePart_53 (lv_at hl 0 rfl) ?_
            refine lv_iadd hx hb d_BR_samePart_55 ?_
            refine lv_topi (fun x6 ex6 => ?_)
            have tx6 : x6.toInt = p1.toInt + i.toInt := by have z := i32_add ex6 (by omega) (by omega); omega
            have g56 : vp_in x6 n := vp_in_iff.mpr ⟨by omega, by omega⟩
            refine va_bald hx hb hK hP 1 0 rfl rfl g56 d_BR_samePart_56 ?_
            refine lv_topi (fun x7 ex7 => ?_)
            refine lv_icmp_eq (tgt := 62) hx hb d_BR_samePart_57 (by decide) (fun c57 => ?_) (fun c57 => ?_)
            · have q57 := eqI c57
              obtain ⟨x8, ex8⟩ : ∃ z : Int32, z = i + 1 := ⟨_, rfl⟩
              have k1 : (1 : Int32).toInt = 1 := by decide
              have tx8 : x8.toInt = i.toInt + 1 := by have z := i32_add ex8 (by omega) (by omega); omega
              refine lv_iinc (v := x8) (lv' := [(4, .int x8), (0, .ref h0), (1, .int p0), (2, .int p1), (3, .int p2)]) hx hb d_BR_samePart_62 hl (k := 0) rfl (by rw [ex8]; rfl) (by decide) rfl (fun ls hl => ?_)
              refine lv_goto (tgt := 33) hx hb d_BR_samePart_65 (by decide) ?_
              skip
              exact ih (x8) _ _ _ (by show (p2.toInt - x8.toInt).toNat < N; omega) ⟨by omega, hP, hD, hS, lv_sub hl [0, 1, 2, 3, 4] rfl⟩
            · have q57 := neI c57
              refine lv_iconst (v := 0) hx hb d_BR_samePart_60 (by decide) ?_
              have k0 : (0 : Int32).toInt = 0 := by decide
              have hP9 := hP.sub (ws' := [(h0, .inr (1, [.ref a, .int len])), (a, .inl (cA, n, .inl f))]) [0, 1] rfl
              have hD9 := hD.sub (ws' := [(h0, .inr (1, [.ref a, .int len])), (a, .inl (cA, n, .inl f))]) [0, 1] (by decide) rfl
              exact W.zret (v := 0) hx hb hr (zn01 (by first | exact Or.inl rfl | exact Or.inr rfl | exact hr0)) (fun t ht hW => ⟨⟨0, (len, f), rfl, ⟨by first | exact Or.inl rfl | exact Or.inr rfl, rfl⟩, by rw [ht]; exact hP9, va_K.moved hW.alike hK, hD9⟩, hS.F ht⟩) hS.2.2 d_BR_samePart_61
        · have q25 := nleI c25
          refine lv_iconst (v := 0) hx hb d_BR_samePart_28 (by decide) ?_
          have k0 : (0 : Int32).toInt = 0 := by decide
          have hP9 := hP.sub (ws' := [(h0, .inr (1, [.ref a, .int len])), (a, .inl (cA, n, .inl f))]) [0, 1] rfl
          have hD9 := hD.sub (ws' := [(h0, .inr (1, [.ref a, .int len])), (a, .inl (cA, n, .inl f))]) [0, 1] (by decide) rfl
          exact W.zret (v := 0) hx hb hr (zn01 (by first | exact Or.inl rfl | exact Or.inr rfl | exact hr0)) (fun t ht hW => ⟨⟨0, (len, f), rfl, ⟨by first | exact Or.inl rfl | exact Or.inr rfl, rfl⟩, by rw [ht]; exact hP9, va_K.moved hW.alike hK, hD9⟩, hS.F ht⟩) hS.2.2 d_BR_samePart_29
abbrev b_BR_change : ByteArray := prog_3_method_4_code
def y_BR_change : MethodName := ⟨R_BR, "change", "(II)V"⟩
abbrev w_BR_change : List Cond := .code y_BR_change b_BR_change 3 none :: lw_g
theorem kC_BR_change : Cond.code y_BR_change b_BR_change 3 none ∈ lw_g := in_g 1153 (by decide +kernel) rfl
theorem d_BR_change_0 : decode b_BR_change 0 = .ok (.iload_n 1, 1) := by decide +kernel
theorem d_BR_change_1 : decode b_BR_change 1 = .ok (.ifCond .lt 19, 3) := by decide +kernel
theorem d_BR_change_4 : decode b_BR_change 4 = .ok (.iload_n 1, 1) := by decide +kernel
theorem d_BR_change_5 : decode b_BR_change 5 = .ok (.aload_n 0, 1) := by decide +kernel
theorem d_BR_change_6 : decode b_BR_change 6 = .ok (.getfield 13, 3) := by decide +kernel
theorem d_BR_change_9 : decode b_BR_change 9 = .ok (.if_icmp .ge 11, 3) := by decide +kernel
theorem d_BR_change_12 : decode b_BR_change 12 = .ok (.aload_n 0, 1) := by decide +kernel
theorem d_BR_change_13 : decode b_BR_change 13 = .ok (.getfield 7, 3) := by decide +kernel
theorem d_BR_change_16 : decode b_BR_change 16 = .ok (.iload_n 1, 1) := by decide +kernel
theorem d_BR_change_17 : decode b_BR_change 17 = .ok (.iload_n 2, 1) := by decide +kernel
theorem d_BR_change_18 : decode b_BR_change 18 = .ok (.i2b, 1) := by decide +kernel
theorem d_BR_change_19 : decode b_BR_change 19 = .ok (.bastore, 1) := by decide +kernel
theorem d_BR_change_20 : decode b_BR_change 20 = .ok (.return_, 1) := by decide +kernel
set_option maxHeartbeats 4000000 in
set_option maxRecDepth 100000 in
theorem c_BR_change (l : Launch) (dC : Nat → ClassId) (dI : Nat → Nat → Nat) (h0 a sz : Nat) (cA : ClassId) (n : Nat) (len : Int32) (f : Nat → Int32) (hl0 : 0 ≤ len.toInt) (hl1 : len.toInt ≤ n) (hn : n < 2147483648) (p0 : Int32) (p1 : Int32) : Met l y_BR_change w_BR_change ({ frames := 0, cells := 0, slots := 0, locals := 0 }) (va_Pc [.ref h0, .int p0, .int p1] (fun U => U.heap.size = sz ∧ va_P (dC, dI) cls [(h0, .inr (1, [.ref a, .int len])), (a, .inl (cA, n, .inl f))] U.heap ∧ va_K (dC, dI) cls [(cA, .byte)] U ∧ va_D (fun _ => True) [(h0, .inr (1, [.ref a, .int len])), (a, .inl (cA, n, .inl f))])) (va_Qv (fun (u : Int32 × (Nat → Int32)) => u.1 = len ∧ (0 ≤ p0.toInt → p0.toInt < len.toInt → u.2 = upd f p0.toNatClampNeg p1.toInt8.toInt32) ∧ ((p0.toInt < 0 ∨ len.toInt ≤ p0.toInt) → u.2 = f)) (br_at dC dI h0 a cA n (va_A [(h0, .inr (1, [.ref a, .int len])), (a, .inl (cA, n, .inl f))] sz)) (va_A [(h0, .inr (1, [.ref a, .int len])), (a, .inl (cA, n, .inl f))] sz)) 0 0 (va_A [(h0, .inr (1, [.ref a, .int len])), (a, .inl (cA, n, .inl f))] sz) := by
  refine Met.ofW (cc := b_BR_change) (maxL := 3) (ret := none) (by decide) rfl ?_
  intro p e s m args below meth c s₁ B hml hv
  obtain ⟨rfl, hsz, hP, hK, hD0⟩ := hv
  have hx := B.exec
  have hb := B.bytes
  have hr := B.returns
  have hts0 := atoms_spec (ws := w_BR_change) B.pre
  have hts : ∀ w ∈ lw_g, w.before _ s = true := fun w h => hts0 w (List.mem_cons_of_mem _ h)
  have hown : s.vm.findClass R_BR = some m.cls := findClass_of_methodNamed B.named
  have hlocks := B.notSynchronized
  clear hts0
  subst hsz
  have hD := hD0.self (sz := s.heap.size)
  generalize hAe : va_A [(h0, .inr (1, [.ref a, .int len])), (a, .inl (cA, n, .inl f))] s.heap.size = A at hD ⊢
  have hA : ∀ q : Nat, s.heap.size ≤ q → A q := fun q h => by rw [← hAe]; exact Or.inr h
  clear hAe
  have hP : va_P (dC, dI) cls [(h0, .inr (1, [.ref a, .int len])), (a, .inl (cA, n, .inl f))] s.heap := hP
  have hl := lv_entry ([.ref h0, .int p0, .int p1]) (n := 3) (Nat.le_of_ble_eq_true rfl)
  rw [lg_entry_eq]
  generalize (lg_sl ([.ref h0, .int p0, .int p1]) ++ List.replicate (3 - (lg_sl ([.ref h0, .int p0, .int p1])).length) Slot.unset).toArray = ls at hl ⊢
  have hl : lv_has ls 3 [(0, .ref h0), (1, .int p0), (2, .int p1)] := hl
  have k0 : (0 : Int32).toInt = 0 := by decide
  refine w_gen (A := A) hP (fun H locs hP hS => ?_)
  have lo_p0 := i32_lo p0
  have hi_p0 := i32_hi p0
  have lo_p1 := i32_lo p1
  have hi_p1 := i32_hi p1
  refine lv_iload_n hx hb d_BR_change_0 rfl (lv_at hl 1 rfl) ?_
  refine lv_if_lt (tgt := 20) hx hb d_BR_change_1 (by decide) (fun c1 => ?_) (fun c1 => ?_)
  · have q1 := ltI c1
    have hP9 := hP.sub (ws' := [(h0, .inr (1, [.ref a, .int len])), (a, .inl (cA, n, .inl f))]) [0, 1] rfl
    have hD9 := hD.sub (ws' := [(h0, .inr (1, [.ref a, .int len])), (a, .inl (cA, n, .inl f))]) [0, 1] (by decide) rfl
    exact W.vret hx hb hr (fun t ht hW => ⟨⟨(len, f), rfl, ⟨rfl, fun z1 z2 => absurd z1 (by omega), fun z => rfl⟩, by rw [ht]; exact hP9, va_K.moved hW.alike hK, hD9⟩, hS.F ht⟩) hS.2.2 d_BR_change_20
  · have q1 := nltI c1
    refine lv_iload_n hx hb d_BR_change_4 rfl (lv_at hl 1 rfl) ?_
    refine lv_aload_n hx hb d_BR_change_5 rfl (lv_at hl 0 rfl) ?_
    refine va_get (D := (dC, dI)) (ci := 1) (v := .int len) (C := R_BR) (T := F_BR) (N := 2) hx hb hts i_BR hown hK hP 0 rfl rfl 1 (by decide) (hts _ kF_BR_13) (fun _ h9 => h9) rfl d_BR_change_6 ?_
    refine lv_icmp_ge (tgt := 20) hx hb d_BR_change_9 (by decide) (fun c9 => ?_) (fun c9 => ?_)
    · have q9 := leI c9
      have hP9 := hP.sub (ws' := [(h0, .inr (1, [.ref a, .int len])), (a, .inl (cA, n, .inl f))]) [0, 1] rfl
      have hD9 := hD.sub (ws' := [(h0, .inr (1, [.ref a, .int len])), (a, .inl (cA, n, .inl f))]) [0, 1] (by decide) rfl
      exact W.vret hx hb hr (fun t ht hW => ⟨⟨(len, f), rfl, ⟨rfl, fun z1 z2 => absurd z1 (by omega), fun z => rfl⟩, by rw [ht]; exact hP9, va_K.moved hW.alike hK, hD9⟩, hS.F ht⟩) hS.2.2 d_BR_change_20
    · have q9 := nleI c9
      refine lv_aload_n hx hb d_BR_change_12 rfl (lv_at hl 0 rfl) ?_
      refine va_get (D := (dC, dI)) (ci := 1) (v := .ref a) (C := R_BR) (T := F_BR) (N := 2) hx hb hts i_BR hown hK hP 0 rfl rfl 0 (by decide) (hts _ kF_BR_7) (fun _ h9 => h9) rfl d_BR_change_13 ?_
      refine lv_iload_n hx hb d_BR_change_16 rfl (lv_at hl 1 rfl) ?_
      refine lv_iload_n hx hb d_BR_change_17 rfl (lv_at hl 2 rfl) ?_
      refine lv_i2b hx hb d_BR_change_18 rfl ?_
      refine lv_topi (fun x1 ex1 => ?_)
      have g19 : vp_in p0 n := vp_in_iff.mpr ⟨by omega, by omega⟩
      refine va_bast hx hb hK hP hD hS 1 0 rfl rfl g19 d_BR_change_19 (fun H locs hP hD hS => ?_)
      have hP : va_P (dC, dI) cls [(h0, .inr (1, [.ref a, .int len])), (a, .inl (cA, n, .inl (upd f p0.toNatClampNeg (vp_nar .byte x1))))] H := hP
      have hD : va_D A [(h0, .inr (1, [.ref a, .int len])), (a, .inl (cA, n, .inl (upd f p0.toNatClampNeg (vp_nar .byte x1))))] := hD
      generalize ef2 : upd f p0.toNatClampNeg (vp_nar .byte x1) = f2 at hP hD
      have hP9 := hP.sub (ws' := [(h0, .inr (1, [.ref a, .int len])), (a, .inl (cA, n, .inl f2))]) [0, 1] rfl
      have hD9 := hD.sub (ws' := [(h0, .inr (1, [.ref a, .int len])), (a, .inl (cA, n, .inl f2))]) [0, 1] (by decide) rfl
      exact W.vret hx hb hr (fun t ht hW => ⟨⟨(len, f2), rfl, ⟨rfl, fun z1 z2 => by dsimp only; rw [← ef2, ex1, pk_vb], fun z => absurd z (by omega)⟩, by rw [ht]; exact hP9, va_K.moved hW.alike hK, hD9⟩, hS.F ht⟩) hS.2.2 d_BR_change_20

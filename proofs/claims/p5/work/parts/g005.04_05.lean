section q_04
/-! ByteRow: a row of bytes with a length -/
abbrev br_at (dC : Nat → ClassId) (dI : Nat → Nat → Nat) (h0 a : Nat) (cA : ClassId) (n : Nat) (A : Nat → Prop) (u : Int32 × (Nat → Int32)) (t : State) : Prop := match u with
  | (len, f) => va_P (dC, dI) cls [(h0, .inr (1, [.ref a, .int len])), (a, .inl (cA, n, .inl f))] t.heap ∧ va_K (dC, dI) cls [(cA, .byte)] t ∧ va_D A [(h0, .inr (1, [.ref a, .int len])), (a, .inl (cA, n, .inl f))]
/-- the byte at i without sign, or -1 -/
def br_get (f : Nat → Int32) (len i : Int32) : Int32 := if 0 ≤ i.toInt ∧ i.toInt < len.toInt then f i.toNatClampNeg &&& 255 else -1
theorem br_get_in (f : Nat → Int32) (len i : Int32) : -1 ≤ (br_get f len i).toInt ∧ (br_get f len i).toInt ≤ 255 ∧ (0 ≤ i.toInt → i.toInt < len.toInt → 0 ≤ (br_get f len i).toInt) := by
  unfold br_get
  split
  · have h := i32_and255 (f i.toNatClampNeg)
    (first | (apply Int.le_antisymm <;> omega) | omega)
  · rename_i h
    have : (-1 : Int32).toInt = -1 := by decide
    (first | (apply Int.le_antisymm <;> omega) | omega)
/-- one byte more, where there is room -/
def br_put (f : Nat → Int32) (n : Nat) (len v : Int32) : Int32 × (Nat → Int32) := if len.toInt < n then (len + 1, upd f len.toNatClampNeg v.toInt8.toInt32) else (len, f)
theorem br_put_in {f g : Nat → Int32} {n : Nat} {len v x : Int32} (hl0 : 0 ≤ len.toInt) (hl1 : len.toInt ≤ n) (hn : n < 2147483648) (h : (x, g) = br_put f n len v) : len.toInt ≤ x.toInt ∧ x.toInt ≤ n ∧ x.toInt ≤ len.toInt + 1 ∧ (len.toInt < n → x.toInt = len.toInt + 1) := by
  unfold br_put at h
  have k1 : (1 : Int32).toInt = 1 := by decide
  split at h
  · have h1 := (Prod.mk.inj h).1
    have h2 := i32_add h1 (by (first | (apply Int.le_antisymm <;> omega) | omega)) (by (first | (apply Int.le_antisymm <;> omega) | omega))
    (first | (apply Int.le_antisymm <;> omega) | omega)
  · have h1 := (Prod.mk.inj h).1
    rw [h1]
    (first | (apply Int.le_antisymm <;> omega) | omega)
theorem br_put_bl {f g : Nat → Int32} {n : Nat} {len v x : Int32} (hl0 : 0 ≤ len.toInt) (hl1 : len.toInt ≤ n) (hn : n < 2147483648) (h : (x, g) = br_put f n len v) (hlt : len.toInt < n) : bl g x.toNatClampNeg = bl f len.toNatClampNeg ++ [bn v] := by
  have h3 := (br_put_in hl0 hl1 hn h).2.2.2 hlt
  unfold br_put at h
  rw [if_pos hlt] at h
  have h1 := (Prod.mk.inj h).2
  have h2 : x.toNatClampNeg = len.toNatClampNeg + 1 := clampN (by have := i32_clamp hl0; (first | (apply Int.le_antisymm <;> omega) | omega))
  rw [h1, h2, bl_put]
abbrev b_BR_at : ByteArray := prog_3_method_2_code
def y_BR_at : MethodName := ⟨R_BR, "at", "(I)I"⟩
abbrev w_BR_at : List Cond := .code y_BR_at b_BR_at 2 (Option.some .int) :: lw_g
theorem kC_BR_at : Cond.code y_BR_at b_BR_at 2 (Option.some .int) ∈ lw_g := in_c3 170 rfl rfl
theorem d_BR_at_0 : decode b_BR_at 0 = .ok (.iload_n 1, 1) := bz_c27 (by decide +kernel)
theorem d_BR_at_1 : decode b_BR_at 1 = .ok (.ifCond .lt 24, 3) := bz_c155 (by decide +kernel)
theorem d_BR_at_4 : decode b_BR_at 4 = .ok (.iload_n 1, 1) := bz_c27 (by decide +kernel)
theorem d_BR_at_5 : decode b_BR_at 5 = .ok (.aload_n 0, 1) := bz_c42 (by decide +kernel)
theorem d_BR_at_6 : decode b_BR_at 6 = .ok (.getfield 13, 3) := bz_c180 (by decide +kernel)
theorem d_BR_at_9 : decode b_BR_at 9 = .ok (.if_icmp .ge 16, 3) := bz_c162 (by decide +kernel)
theorem d_BR_at_12 : decode b_BR_at 12 = .ok (.aload_n 0, 1) := bz_c42 (by decide +kernel)
theorem d_BR_at_13 : decode b_BR_at 13 = .ok (.getfield 7, 3) := bz_c180 (by decide +kernel)
theorem d_BR_at_16 : decode b_BR_at 16 = .ok (.iload_n 1, 1) := bz_c27 (by decide +kernel)
theorem d_BR_at_17 : decode b_BR_at 17 = .ok (.baload, 1) := bz_c51 (by decide +kernel)
theorem d_BR_at_18 : decode b_BR_at 18 = .ok (.sipush 255, 3) := bz_c17 (by decide +kernel)
theorem d_BR_at_21 : decode b_BR_at 21 = .ok (.iand, 1) := bz_c126 (by decide +kernel)
theorem d_BR_at_22 : decode b_BR_at 22 = .ok (.goto 4, 3) := bz_c167 (by decide +kernel)
theorem d_BR_at_25 : decode b_BR_at 25 = .ok (.iconst (-1), 1) := bz_c2 (by decide +kernel)
theorem d_BR_at_26 : decode b_BR_at 26 = .ok (.ireturn, 1) := bz_c172 (by decide +kernel)
theorem kF_BR_13 : Cond.fieldLink R_BR 13 "WaferForge$ByteRow" "length" "I" ∈ lw_g := in_c1 58 rfl rfl
theorem kF_BR_7 : Cond.fieldLink R_BR 7 "WaferForge$ByteRow" "bytes" "[B" ∈ lw_g := in_c1 55 rfl rfl
set_option maxHeartbeats 4000000 in
set_option maxRecDepth 100000 in
theorem c_BR_at (l : Launch) (dC : Nat → ClassId) (dI : Nat → Nat → Nat) (h0 a sz : Nat) (cA : ClassId) (n : Nat) (len : Int32) (f : Nat → Int32) (hl0 : 0 ≤ len.toInt) (hl1 : len.toInt ≤ n) (hn : n < 2147483648) (p0 : Int32) : Met l y_BR_at w_BR_at ({ frames := 0, cells := 0, slots := 0, locals := 0 }) (va_Pc [.ref h0, .int p0] (fun U => U.heap.size = sz ∧ va_P (dC, dI) cls [(h0, .inr (1, [.ref a, .int len])), (a, .inl (cA, n, .inl f))] U.heap ∧ va_K (dC, dI) cls [(cA, .byte)] U ∧ va_D (fun _ => True) [(h0, .inr (1, [.ref a, .int len])), (a, .inl (cA, n, .inl f))])) (va_Qi (fun (r : Int32) (u : Int32 × (Nat → Int32)) => r = br_get f len p0 ∧ u = (len, f)) (br_at dC dI h0 a cA n (va_A [(h0, .inr (1, [.ref a, .int len])), (a, .inl (cA, n, .inl f))] sz)) (va_A [(h0, .inr (1, [.ref a, .int len])), (a, .inl (cA, n, .inl f))] sz)) 0 0 (va_A [(h0, .inr (1, [.ref a, .int len])), (a, .inl (cA, n, .inl f))] sz) := by
  refine Met.ofW (cc := b_BR_at) (maxL := 2) (ret := (Option.some .int)) (by decide) rfl ?_
  intro p e s m args below meth c s₁ B hml hv
  obtain ⟨rfl, hsz, hP, hK, hD0⟩ := hv
  have hx := B.exec
  have hb := B.bytes
  have hr := B.returns
  have hts0 := atoms_spec (ws := w_BR_at) B.pre
  have hts : ∀ w ∈ lw_g, w.before _ s = true := fun w h => hts0 w (List.mem_cons_of_mem _ h)
  have hown : s.vm.findClass R_BR = some m.cls := findClass_of_methodNamed B.named
  have hlocks := B.notSynchronized
  clear hts0
  subst hsz
  have hD := hD0.self (sz := s.heap.size)
  generalize hAe : va_A [(h0, .inr (1, [.ref a, .int len])), (a, .inl (cA, n, .inl f))] s.heap.size = A at hD ⊢
  have hA : ∀ q : Nat, s.heap.size ≤ q → A q := fun q h => by rw [← hAe]; exact Or.inr h
  clear hAe
  have hP : va_P (dC, dI) cls [(h0, .inr (1, [.ref a, .int len])), (a, .inl (cA, n, .inl f))] s.heap := hP
  have hl := lv_entry ([.ref h0, .int p0]) (n := 2) (Nat.le_of_ble_eq_true rfl)
  rw [lg_entry_eq]
  generalize (lg_sl ([.ref h0, .int p0]) ++ List.replicate (2 - (lg_sl ([.ref h0, .int p0])).length) Slot.unset).toArray = ls at hl ⊢
  have hl : lv_has ls 2 [(0, .ref h0), (1, .int p0)] := hl
  have k0 : (0 : Int32).toInt = 0 := by decide
  refine w_gen (A := A) hP (fun H locs hP hS => ?_)
  have lo_p0 := i32_lo p0
  have hi_p0 := i32_hi p0
  refine lv_iload_n hx hb d_BR_at_0 rfl (lv_at hl 1 rfl) ?_
  refine lv_if_lt (tgt := 25) hx hb d_BR_at_1 (by decide) (fun c1 => ?_) (fun c1 => ?_)
  · have q1 := ltI c1
    refine lv_iconst (v := (-1)) hx hb d_BR_at_25 (by decide) ?_
    have km1 : (-1 : Int32).toInt = -1 := by decide
    have hP9 := hP.sb (wq := [(h0, .inr (1, [.ref a, .int len])), (a, .inl (cA, n, .inl f))]) [0, 1] rfl
    have hD9 := hD.sb (wq := [(h0, .inr (1, [.ref a, .int len])), (a, .inl (cA, n, .inl f))]) [0, 1] (by decide) rfl
    exact W.iret (v := ((-1))) hx hb hr (fun t ht hW => ⟨⟨(-1), (len, f), rfl, ⟨by first | (rw [br_get, if_neg (by (first | (apply Int.le_antisymm <;> omega) | omega))]) | (rw [br_get, if_pos (by (first | (apply Int.le_antisymm <;> omega) | omega)), ex2, ex1]), rfl⟩, va_P.he ht.symm hP9, va_K.moved hW.alike hK, hD9⟩, hS.F ht⟩) hS.2.2 d_BR_at_26
  · have q1 := nltI c1
    refine lv_iload_n hx hb d_BR_at_4 rfl (lv_at hl 1 rfl) ?_
    refine lv_aload_n hx hb d_BR_at_5 rfl (lv_at hl 0 rfl) ?_
    refine va_get (D := (dC, dI)) (ci := 1) (v := .int len) (C := R_BR) (T := F_BR) (N := 2) hx hb hts i_BR hown hK hP 0 rfl rfl 1 (by decide) (hts _ kF_BR_13) (fun _ h9 => h9) rfl d_BR_at_6 ?_
    refine lv_icmp_ge (tgt := 25) hx hb d_BR_at_9 (by decide) (fun c9 => ?_) (fun c9 => ?_)
    · have q9 := leI c9
      refine lv_iconst (v := (-1)) hx hb d_BR_at_25 (by decide) ?_
      have km1 : (-1 : Int32).toInt = -1 := by decide
      have hP9 := hP.sb (wq := [(h0, .inr (1, [.ref a, .int len])), (a, .inl (cA, n, .inl f))]) [0, 1] rfl
      have hD9 := hD.sb (wq := [(h0, .inr (1, [.ref a, .int len])), (a, .inl (cA, n, .inl f))]) [0, 1] (by decide) rfl
      exact W.iret (v := ((-1))) hx hb hr (fun t ht hW => ⟨⟨(-1), (len, f), rfl, ⟨by first | (rw [br_get, if_neg (by (first | (apply Int.le_antisymm <;> omega) | omega))]) | (rw [br_get, if_pos (by (first | (apply Int.le_antisymm <;> omega) | omega)), ex2, ex1]), rfl⟩, va_P.he ht.symm hP9, va_K.moved hW.alike hK, hD9⟩, hS.F ht⟩) hS.2.2 d_BR_at_26
    · have q9 := nleI c9
      refine lv_aload_n hx hb d_BR_at_12 rfl (lv_at hl 0 rfl) ?_
      refine va_get (D := (dC, dI)) (ci := 1) (v := .ref a) (C := R_BR) (T := F_BR) (N := 2) hx hb hts i_BR hown hK hP 0 rfl rfl 0 (by decide) (hts _ kF_BR_7) (fun _ h9 => h9) rfl d_BR_at_13 ?_
      refine lv_iload_n hx hb d_BR_at_16 rfl (lv_at hl 1 rfl) ?_
      have g17 : vp_in p0 n := vp_in_iff.mpr ⟨by (first | (apply Int.le_antisymm <;> omega) | omega), by (first | (apply Int.le_antisymm <;> omega) | omega)⟩
      refine va_bald hx hb hK hP 1 0 rfl rfl g17 d_BR_at_17 ?_
      refine lv_topi (fun x1 ex1 => ?_)
      refine lv_sipush (v := 255) hx hb d_BR_at_18 (by decide) ?_
      have k255 : (255 : Int32).toInt = 255 := by decide
      refine lv_iand hx hb d_BR_at_21 ?_
      refine lv_topi (fun x2 ex2 => ?_)
      refine lv_goto (tgt := 26) hx hb d_BR_at_22 (by decide) ?_
      have hP9 := hP.sb (wq := [(h0, .inr (1, [.ref a, .int len])), (a, .inl (cA, n, .inl f))]) [0, 1] rfl
      have hD9 := hD.sb (wq := [(h0, .inr (1, [.ref a, .int len])), (a, .inl (cA, n, .inl f))]) [0, 1] (by decide) rfl
      exact W.iret (v := x2) hx hb hr (fun t ht hW => ⟨⟨x2, (len, f), rfl, ⟨by first | (rw [br_get, if_neg (by (first | (apply Int.le_antisymm <;> omega) | omega))]) | (rw [br_get, if_pos (by (first | (apply Int.le_antisymm <;> omega) | omega)), ex2, ex1]), rfl⟩, va_P.he ht.symm hP9, va_K.moved hW.alike hK, hD9⟩, hS.F ht⟩) hS.2.2 d_BR_at_26
abbrev b_BR_put : ByteArray := prog_3_method_3_code
def y_BR_put : MethodName := ⟨R_BR, "put", "(I)V"⟩
abbrev w_BR_put : List Cond := .code y_BR_put b_BR_put 2 none :: lw_g
theorem kC_BR_put : Cond.code y_BR_put b_BR_put 2 none ∈ lw_g := in_c4 13 rfl rfl
theorem d_BR_put_0 : decode b_BR_put 0 = .ok (.aload_n 0, 1) := bz_c42 (by decide +kernel)
theorem d_BR_put_1 : decode b_BR_put 1 = .ok (.getfield 13, 3) := bz_c180 (by decide +kernel)
theorem d_BR_put_4 : decode b_BR_put 4 = .ok (.aload_n 0, 1) := bz_c42 (by decide +kernel)
theorem d_BR_put_5 : decode b_BR_put 5 = .ok (.getfield 7, 3) := bz_c180 (by decide +kernel)
theorem d_BR_put_8 : decode b_BR_put 8 = .ok (.arraylength, 1) := bz_c190 (by decide +kernel)
theorem d_BR_put_9 : decode b_BR_put 9 = .ok (.if_icmp .ge 21, 3) := bz_c162 (by decide +kernel)
theorem d_BR_put_12 : decode b_BR_put 12 = .ok (.aload_n 0, 1) := bz_c42 (by decide +kernel)
theorem d_BR_put_13 : decode b_BR_put 13 = .ok (.getfield 7, 3) := bz_c180 (by decide +kernel)
theorem d_BR_put_16 : decode b_BR_put 16 = .ok (.aload_n 0, 1) := bz_c42 (by decide +kernel)
theorem d_BR_put_17 : decode b_BR_put 17 = .ok (.dup, 1) := bz_c89 (by decide +kernel)
theorem d_BR_put_18 : decode b_BR_put 18 = .ok (.getfield 13, 3) := bz_c180 (by decide +kernel)
theorem d_BR_put_21 : decode b_BR_put 21 = .ok (.dup_x1, 1) := by decide +kernel
theorem d_BR_put_22 : decode b_BR_put 22 = .ok (.iconst 1, 1) := bz_c4 (by decide +kernel)
theorem d_BR_put_23 : decode b_BR_put 23 = .ok (.iadd, 1) := bz_c96 (by decide +kernel)
theorem d_BR_put_24 : decode b_BR_put 24 = .ok (.putfield 13, 3) := bz_c181 (by decide +kernel)
theorem d_BR_put_27 : decode b_BR_put 27 = .ok (.iload_n 1, 1) := bz_c27 (by decide +kernel)
theorem d_BR_put_28 : decode b_BR_put 28 = .ok (.i2b, 1) := by decide +kernel
theorem d_BR_put_29 : decode b_BR_put 29 = .ok (.bastore, 1) := bz_c84 (by decide +kernel)
theorem d_BR_put_30 : decode b_BR_put 30 = .ok (.return_, 1) := bz_c177 (by decide +kernel)
set_option maxHeartbeats 4000000 in
set_option maxRecDepth 100000 in
theorem c_BR_put (l : Launch) (dC : Nat → ClassId) (dI : Nat → Nat → Nat) (h0 a sz : Nat) (cA : ClassId) (n : Nat) (len : Int32) (f : Nat → Int32) (hl0 : 0 ≤ len.toInt) (hl1 : len.toInt ≤ n) (hn : n < 2147483648) (p0 : Int32) : Met l y_BR_put w_BR_put ({ frames := 0, cells := 0, slots := 0, locals := 0 }) (va_Pc [.ref h0, .int p0] (fun U => U.heap.size = sz ∧ va_P (dC, dI) cls [(h0, .inr (1, [.ref a, .int len])), (a, .inl (cA, n, .inl f))] U.heap ∧ va_K (dC, dI) cls [(cA, .byte)] U ∧ va_D (fun _ => True) [(h0, .inr (1, [.ref a, .int len])), (a, .inl (cA, n, .inl f))])) (va_Qv (fun (u : Int32 × (Nat → Int32)) => u = br_put f n len p0) (br_at dC dI h0 a cA n (va_A [(h0, .inr (1, [.ref a, .int len])), (a, .inl (cA, n, .inl f))] sz)) (va_A [(h0, .inr (1, [.ref a, .int len])), (a, .inl (cA, n, .inl f))] sz)) 0 0 (va_A [(h0, .inr (1, [.ref a, .int len])), (a, .inl (cA, n, .inl f))] sz) := by
  refine Met.ofW (cc := b_BR_put) (maxL := 2) (ret := none) (by decide) rfl ?_
  intro p e s m args below meth c s₁ B hml hv
  obtain ⟨rfl, hsz, hP, hK, hD0⟩ := hv
  have hx := B.exec
  have hb := B.bytes
  have hr := B.returns
  have hts0 := atoms_spec (ws := w_BR_put) B.pre
  have hts : ∀ w ∈ lw_g, w.before _ s = true := fun w h => hts0 w (List.mem_cons_of_mem _ h)
  have hown : s.vm.findClass R_BR = some m.cls := findClass_of_methodNamed B.named
  have hlocks := B.notSynchronized
  clear hts0
  subst hsz
  have hD := hD0.self (sz := s.heap.size)
  generalize hAe : va_A [(h0, .inr (1, [.ref a, .int len])), (a, .inl (cA, n, .inl f))] s.heap.size = A at hD ⊢
  have hA : ∀ q : Nat, s.heap.size ≤ q → A q := fun q h => by rw [← hAe]; exact Or.inr h
  clear hAe
  have hP : va_P (dC, dI) cls [(h0, .inr (1, [.ref a, .int len])), (a, .inl (cA, n, .inl f))] s.heap := hP
  have hl := lv_entry ([.ref h0, .int p0]) (n := 2) (Nat.le_of_ble_eq_true rfl)
  rw [lg_entry_eq]
  generalize (lg_sl ([.ref h0, .int p0]) ++ List.replicate (2 - (lg_sl ([.ref h0, .int p0])).length) Slot.unset).toArray = ls at hl ⊢
  have hl : lv_has ls 2 [(0, .ref h0), (1, .int p0)] := hl
  have k0 : (0 : Int32).toInt = 0 := by decide
  refine w_gen (A := A) hP (fun H locs hP hS => ?_)
  have lo_p0 := i32_lo p0
  have hi_p0 := i32_hi p0
  refine lv_aload_n hx hb d_BR_put_0 rfl (lv_at hl 0 rfl) ?_
  refine va_get (D := (dC, dI)) (ci := 1) (v := .int len) (C := R_BR) (T := F_BR) (N := 2) hx hb hts i_BR hown hK hP 0 rfl rfl 1 (by decide) (hts _ kF_BR_13) (fun _ h9 => h9) rfl d_BR_put_1 ?_
  refine lv_aload_n hx hb d_BR_put_4 rfl (lv_at hl 0 rfl) ?_
  refine va_get (D := (dC, dI)) (ci := 1) (v := .ref a) (C := R_BR) (T := F_BR) (N := 2) hx hb hts i_BR hown hK hP 0 rfl rfl 0 (by decide) (hts _ kF_BR_7) (fun _ h9 => h9) rfl d_BR_put_5 ?_
  refine va_alen hx hb hK hP 1 0 rfl rfl rfl d_BR_put_8 ?_
  refine lv_topi (fun x1 ex1 => ?_)
  have tx1 : x1.toInt = n := by rw [ex1]; exact i32_len (by (first | (apply Int.le_antisymm <;> omega) | omega))
  refine lv_icmp_ge (tgt := 30) hx hb d_BR_put_9 (by decide) (fun c9 => ?_) (fun c9 => ?_)
  · have q9 := leI c9
    have hP9 := hP.sb (wq := [(h0, .inr (1, [.ref a, .int len])), (a, .inl (cA, n, .inl f))]) [0, 1] rfl
    have hD9 := hD.sb (wq := [(h0, .inr (1, [.ref a, .int len])), (a, .inl (cA, n, .inl f))]) [0, 1] (by decide) rfl
    exact W.vret hx hb hr (fun t ht hW => ⟨⟨(len, f), rfl, (by rw [br_put, if_neg (by (first | (apply Int.le_antisymm <;> omega) | omega))]), va_P.he ht.symm hP9, va_K.moved hW.alike hK, hD9⟩, hS.F ht⟩) hS.2.2 d_BR_put_30
  · have q9 := nleI c9
    refine lv_aload_n hx hb d_BR_put_12 rfl (lv_at hl 0 rfl) ?_
    refine va_get (D := (dC, dI)) (ci := 1) (v := .ref a) (C := R_BR) (T := F_BR) (N := 2) hx hb hts i_BR hown hK hP 0 rfl rfl 0 (by decide) (hts _ kF_BR_7) (fun _ h9 => h9) rfl d_BR_put_13 ?_
    refine lv_aload_n hx hb d_BR_put_16 rfl (lv_at hl 0 rfl) ?_
    refine lv_dup hx hb d_BR_put_17 rfl ?_
    refine va_get (D := (dC, dI)) (ci := 1) (v := .int len) (C := R_BR) (T := F_BR) (N := 2) hx hb hts i_BR hown hK hP 0 rfl rfl 1 (by decide) (hts _ kF_BR_13) (fun _ h9 => h9) rfl d_BR_put_18 ?_
    refine lv_dup_x1 hx hb d_BR_put_21 rfl rfl ?_
    refine lv_iconst (v := 1) hx hb d_BR_put_22 (by decide) ?_
    have k1 : (1 : Int32).toInt = 1 := by decide
    refine lv_iadd hx hb d_BR_put_23 ?_
    refine lv_topi (fun x2 ex2 => ?_)
    have tx2 : x2.toInt = len.toInt + 1 := by have z := i32_add ex2 (by (first | (apply Int.le_antisymm <;> omega) | omega)) (by (first | (apply Int.le_antisymm <;> omega) | omega)); first | exact z | (first | (apply Int.le_antisymm <;> omega) | omega)
    refine va_put (D := (dC, dI)) (ci := 1) (v := .int x2) (ty := .int) (C := R_BR) (T := F_BR) (N := 2) hx hb hts i_BR t_BR t_BR_ok n_BR hown hK hP hD hS 0 rfl rfl 1 (by decide) (hts _ kF_BR_13) (fun _ h9 => h9) rfl (by decide +kernel) rfl rfl (Nat.le_of_ble_eq_true rfl) d_BR_put_24 (fun H locs hP hD hS => ?_)
    have hP : va_P (dC, dI) cls [(h0, .inr (1, [.ref a, .int x2])), (a, .inl (cA, n, .inl f))] H := hP
    have hD : va_D A [(h0, .inr (1, [.ref a, .int x2])), (a, .inl (cA, n, .inl f))] := hD
    refine lv_iload_n hx hb d_BR_put_27 rfl (lv_at hl 1 rfl) ?_
    refine lv_i2b hx hb d_BR_put_28 rfl ?_
    refine lv_topi (fun x3 ex3 => ?_)
    have g29 : vp_in len n := vp_in_iff.mpr ⟨by (first | (apply Int.le_antisymm <;> omega) | omega), by (first | (apply Int.le_antisymm <;> omega) | omega)⟩
    refine va_bast hx hb hK hP hD hS 1 0 rfl rfl g29 d_BR_put_29 (fun H locs hP hD hS => ?_)
    have hP : va_P (dC, dI) cls [(h0, .inr (1, [.ref a, .int x2])), (a, .inl (cA, n, .inl (upd f len.toNatClampNeg (vp_nar .byte x3))))] H := hP
    have hD : va_D A [(h0, .inr (1, [.ref a, .int x2])), (a, .inl (cA, n, .inl (upd f len.toNatClampNeg (vp_nar .byte x3))))] := hD
    generalize ef4 : upd f len.toNatClampNeg (vp_nar .byte x3) = f4 at hP hD
    have hP9 := hP.sb (wq := [(h0, .inr (1, [.ref a, .int x2])), (a, .inl (cA, n, .inl f4))]) [0, 1] rfl
    have hD9 := hD.sb (wq := [(h0, .inr (1, [.ref a, .int x2])), (a, .inl (cA, n, .inl f4))]) [0, 1] (by decide) rfl
    exact W.vret hx hb hr (fun t ht hW => ⟨⟨(x2, f4), rfl, (by rw [br_put, if_pos (by (first | (apply Int.le_antisymm <;> omega) | omega)), ← ex2, ← ef4, ex3, pk_vb]), va_P.he ht.symm hP9, va_K.moved hW.alike hK, hD9⟩, hS.F ht⟩) hS.2.2 d_BR_put_30
abbrev b_BR_putInt : ByteArray := prog_3_method_5_code
def y_BR_putInt : MethodName := ⟨R_BR, "putInt", "(I)V"⟩
abbrev w_BR_putInt : List Cond := .code y_BR_putInt b_BR_putInt 3 none :: lw_g
theorem kC_BR_putInt : Cond.code y_BR_putInt b_BR_putInt 3 none ∈ lw_g := in_c4 9 rfl rfl
theorem d_BR_putInt_0 : decode b_BR_putInt 0 = .ok (.bipush 24, 2) := bz_c16 (by decide +kernel)
theorem d_BR_putInt_2 : decode b_BR_putInt 2 = .ok (.istore_n 2, 1) := bz_c61 (by decide +kernel)
theorem d_BR_putInt_3 : decode b_BR_putInt 3 = .ok (.iload_n 2, 1) := bz_c28 (by decide +kernel)
theorem d_BR_putInt_4 : decode b_BR_putInt 4 = .ok (.ifCond .lt 16, 3) := bz_c155 (by decide +kernel)
theorem d_BR_putInt_7 : decode b_BR_putInt 7 = .ok (.aload_n 0, 1) := bz_c42 (by decide +kernel)
theorem d_BR_putInt_8 : decode b_BR_putInt 8 = .ok (.iload_n 1, 1) := bz_c27 (by decide +kernel)
theorem d_BR_putInt_9 : decode b_BR_putInt 9 = .ok (.iload_n 2, 1) := bz_c28 (by decide +kernel)
theorem d_BR_putInt_10 : decode b_BR_putInt 10 = .ok (.iushr, 1) := bz_c124 (by decide +kernel)
theorem d_BR_putInt_11 : decode b_BR_putInt 11 = .ok (.invokevirtual 17, 3) := bz_c182 (by decide +kernel)
theorem d_BR_putInt_14 : decode b_BR_putInt 14 = .ok (.iinc 2 (-8), 3) := by decide +kernel
theorem d_BR_putInt_17 : decode b_BR_putInt 17 = .ok (.goto (-14), 3) := bz_c167 (by decide +kernel)
theorem d_BR_putInt_20 : decode b_BR_putInt 20 = .ok (.return_, 1) := bz_c177 (by decide +kernel)
theorem kM_BR_17 : Cond.methodLink R_BR 17 y_BR_put ∈ lw_g := in_c4 10 rfl rfl
theorem kV_BR_put : Cond.instanceMethod y_BR_put ∈ lw_g := in_c4 11 rfl rfl
theorem kS_BR_put : Cond.selects R_BR y_BR_put y_BR_put ∈ lw_g := in_c4 12 rfl rfl
set_option maxHeartbeats 4000000 in
set_option maxRecDepth 100000 in
theorem c_BR_putInt (l : Launch) (dC : Nat → ClassId) (dI : Nat → Nat → Nat) (h0 a sz : Nat) (cA : ClassId) (n : Nat) (len : Int32) (f : Nat → Int32) (hl0 : 0 ≤ len.toInt) (hl1 : len.toInt ≤ n) (hn : n < 2147483648) (p0 : Int32) : Met l y_BR_putInt w_BR_putInt ({ frames := 1, cells := 0, slots := 0, locals := 21 }) (va_Pc [.ref h0, .int p0] (fun U => U.heap.size = sz ∧ va_P (dC, dI) cls [(h0, .inr (1, [.ref a, .int len])), (a, .inl (cA, n, .inl f))] U.heap ∧ va_K (dC, dI) cls [(cA, .byte)] U ∧ va_D (fun _ => True) [(h0, .inr (1, [.ref a, .int len])), (a, .inl (cA, n, .inl f))])) (va_Qv (fun (u : Int32 × (Nat → Int32)) => len.toInt ≤ u.1.toInt ∧ u.1.toInt ≤ n ∧ (len.toInt + 4 ≤ n → u.1.toInt = len.toInt + 4)) (br_at dC dI h0 a cA n (va_A [(h0, .inr (1, [.ref a, .int len])), (a, .inl (cA, n, .inl f))] sz)) (va_A [(h0, .inr (1, [.ref a, .int len])), (a, .inl (cA, n, .inl f))] sz)) 0 0 (va_A [(h0, .inr (1, [.ref a, .int len])), (a, .inl (cA, n, .inl f))] sz) := by
  refine Met.ofW (cc := b_BR_putInt) (maxL := 3) (ret := none) (by decide) rfl ?_
  intro p e s m args below meth c s₁ B hml hv
  obtain ⟨rfl, hsz, hP, hK, hD0⟩ := hv
  have hx := B.exec
  have hb := B.bytes
  have hr := B.returns
  have hts0 := atoms_spec (ws := w_BR_putInt) B.pre
  have hts : ∀ w ∈ lw_g, w.before _ s = true := fun w h => hts0 w (List.mem_cons_of_mem _ h)
  have hown : s.vm.findClass R_BR = some m.cls := findClass_of_methodNamed B.named
  have hlocks := B.notSynchronized
  clear hts0
  subst hsz
  have hD := hD0.self (sz := s.heap.size)
  generalize hAe : va_A [(h0, .inr (1, [.ref a, .int len])), (a, .inl (cA, n, .inl f))] s.heap.size = A at hD ⊢
  have hA : ∀ q : Nat, s.heap.size ≤ q → A q := fun q h => by rw [← hAe]; exact Or.inr h
  clear hAe
  have hP : va_P (dC, dI) cls [(h0, .inr (1, [.ref a, .int len])), (a, .inl (cA, n, .inl f))] s.heap := hP
  have hl := lv_entry ([.ref h0, .int p0]) (n := 3) (Nat.le_of_ble_eq_true rfl)
  rw [lg_entry_eq]
  generalize (lg_sl ([.ref h0, .int p0]) ++ List.replicate (3 - (lg_sl ([.ref h0, .int p0])).length) Slot.unset).toArray = ls at hl ⊢
  have hl : lv_has ls 3 [(0, .ref h0), (1, .int p0)] := hl
  have k0 : (0 : Int32).toInt = 0 := by decide
  refine w_gen (A := A) hP (fun H locs hP hS => ?_)
  have lo_p0 := i32_lo p0
  have hi_p0 := i32_hi p0
  refine lv_bipush (v := 24) hx hb d_BR_putInt_0 (by decide) ?_
  refine lv_topi (fun x1 ex1 => ?_)
  have tx1 : x1.toInt = 24 := by rw [ex1]; decide
  refine lv_istore_n (lv' := [(2, .int x1), (0, .ref h0), (1, .int p0)]) hx hb d_BR_putInt_2 rfl hl (by decide) rfl (fun ls hl => ?_)
  refine w_loop (σ := Int32 × Int32 × (Nat → Int32)) (fun u H locs ls => match u with | (i, y, g) => (len.toInt ≤ y.toInt ∧ y.toInt ≤ n) ∧ (-8 ≤ i.toInt ∧ i.toInt ≤ 24) ∧ (len.toInt + 4 ≤ n → 8 * y.toInt = 8 * len.toInt + 24 - i.toInt) ∧ va_P (dC, dI) cls [(h0, .inr (1, [.ref a, .int y])), (a, .inl (cA, n, .inl g))] H ∧ va_D A [(h0, .inr (1, [.ref a, .int y])), (a, .inl (cA, n, .inl g))] ∧ va_S A s.heap H locs ∧ lv_has ls 3 [(2, .int i), (0, .ref h0), (1, .int p0)]) (fun u => match u with | (i, y, g) => (i.toInt + 8).toNat) ?_ (x1, len, f) ⟨by (first | (apply Int.le_antisymm <;> omega) | omega), by (first | (apply Int.le_antisymm <;> omega) | omega), by (first | (apply Int.le_antisymm <;> omega) | omega), hP, hD, hS, lv_sub hl [0, 1, 2] rfl⟩
  intro N ih u H locs ls hN hI
  obtain ⟨i, y, g⟩ := u
  obtain ⟨v1, v2, v3, hP, hD, hS, hl⟩ := hI
  have hN : (i.toInt + 8).toNat < N + 1 := hN
  refine lv_iload_n hx hb d_BR_putInt_3 rfl (lv_at hl 0 rfl) ?_
  refine lv_if_lt (tgt := 20) hx hb d_BR_putInt_4 (by decide) (fun c4 => ?_) (fun c4 => ?_)
  · have q4 := ltI c4
    have hP9 := hP.sb (wq := [(h0, .inr (1, [.ref a, .int y])), (a, .inl (cA, n, .inl g))]) [0, 1] rfl
    have hD9 := hD.sb (wq := [(h0, .inr (1, [.ref a, .int y])), (a, .inl (cA, n, .inl g))]) [0, 1] (by decide) rfl
    exact W.vret hx hb hr (fun t ht hW => ⟨⟨(y, g), rfl, ⟨by dsimp only; (first | (apply Int.le_antisymm <;> omega) | omega), by dsimp only; (first | (apply Int.le_antisymm <;> omega) | omega), fun z => by dsimp only; (first | (apply Int.le_antisymm <;> omega) | omega)⟩, va_P.he ht.symm hP9, va_K.moved hW.alike hK, hD9⟩, hS.F ht⟩) hS.2.2 d_BR_putInt_20
  · have q4 := nltI c4
    refine lv_aload_n hx hb d_BR_putInt_7 rfl (lv_at hl 1 rfl) ?_
    refine lv_iload_n hx hb d_BR_putInt_8 rfl (lv_at hl 2 rfl) ?_
    refine lv_iload_n hx hb d_BR_putInt_9 rfl (lv_at hl 0 rfl) ?_
    refine lv_iushr hx hb d_BR_putInt_10 rfl ?_
    refine lv_topi (fun x2 ex2 => ?_)
    have hPc := hP.sb (wq := [(h0, .inr (1, [.ref a, .int y])), (a, .inl (cA, n, .inl g))]) [0, 1] rfl
    have hDc := hD.sb (wq := [(h0, .inr (1, [.ref a, .int y])), (a, .inl (cA, n, .inl g))]) [0, 1] (by decide) rfl
    have hKc := hK.sb (tyq := [(cA, .byte)]) [0] rfl
    have hFc := va_free (wc := [(h0, .inr (1, [.ref a, .int y])), (a, .inl (cA, n, .inl g))]) hD hS hA [0, 1] rfl
    refine va_callv (va_runV (As := [.int x2]) (rest := []) ⟨hx, hb, hml, hown, hts⟩ (c_BR_put l dC dI h0 a H.size cA n y g (by (first | (apply Int.le_antisymm <;> omega) | omega)) (by (first | (apply Int.le_antisymm <;> omega) | omega)) (by (first | (apply Int.le_antisymm <;> omega) | omega)) x2) (cwV 1 hts (gV kM_BR_17 kV_BR_put kS_BR_put kI_BR kC_BR_put) rfl rfl rfl (by decide +kernel) ⟨Nat.le_of_ble_eq_true rfl, Nat.le_of_ble_eq_true rfl⟩) ⟨fun a U g mk z => by obtain ⟨z0, z1, zP, zK, zD⟩ := z; exact ⟨z0, z1, zP, va_K.moved (u := U) (U := U.calling g mk a) (Vm.Alike.refl U.vm) zK, zD⟩, va_recv hKc hPc (ci := 1) (q0 := 0) rfl rfl, fun U hU hW => ⟨rfl, by rw [hU], va_P.he hU.symm hPc, va_K.moved hW.alike hKc, hDc.weaken (fun _ _ _ _ => trivial)⟩⟩ rfl rfl hl.1 rfl (lv_room (Nat.le_of_ble_eq_true rfl)) d_BR_putInt_11 ⟨(Nat.zero_le _), (Nat.zero_le _)⟩) hS (fun q _ h => hFc q h) hFc (fun u t H1 locs ht hvm hw hB hz1 hk1 hS => ?_)
    obtain ⟨n4, f5⟩ := u
    try dsimp only at hw
    have tn4 := br_put_in (by (first | (apply Int.le_antisymm <;> omega) | omega)) (by (first | (apply Int.le_antisymm <;> omega) | omega)) (by (first | (apply Int.le_antisymm <;> omega) | omega)) hw
    have bn4 := br_put_bl (by (first | (apply Int.le_antisymm <;> omega) | omega)) (by (first | (apply Int.le_antisymm <;> omega) | omega)) (by (first | (apply Int.le_antisymm <;> omega) | omega)) hw
    obtain ⟨hP1, hK1, hD1⟩ := hB
    replace hP1 := va_P.he ht hP1
    obtain ⟨hP, hD⟩ := va_join (wr := []) (w1 := [(h0, .inr (1, [.ref a, .int n4])), (a, .inl (cA, n, .inl f5))]) hP hD [0, 1] [] rfl rfl (by decide) (by decide) hk1 hFc hP1 hD1
    clear hPc hDc hKc hFc hz1 hk1 hP1 hK1 hD1
    rename Heap => H
    have hP : va_P (dC, dI) cls [(h0, .inr (1, [.ref a, .int n4])), (a, .inl (cA, n, .inl f5))] H := hP
    have hD : va_D A [(h0, .inr (1, [.ref a, .int n4])), (a, .inl (cA, n, .inl f5))] := hD
    obtain ⟨x6, ex6⟩ : ∃ z : Int32, z = i + (-8) := ⟨_, rfl⟩
    have km8 : (-8 : Int32).toInt = -8 := by decide
    have tx6 : x6.toInt = i.toInt + (-8) := by have z := i32_add ex6 (by (first | (apply Int.le_antisymm <;> omega) | omega)) (by (first | (apply Int.le_antisymm <;> omega) | omega)); first | exact z | (first | (apply Int.le_antisymm <;> omega) | omega)
    refine lv_iinc (v := x6) (lv' := [(2, .int x6), (0, .ref h0), (1, .int p0)]) hx hb d_BR_putInt_14 hl (k := 0) rfl (by rw [ex6]; rfl) (by decide) rfl (fun ls hl => ?_)
    refine lv_goto (tgt := 3) hx hb d_BR_putInt_17 (by decide) ?_
    skip
    exact ih (x6, n4, f5) _ _ _ (by show (x6.toInt + 8).toNat < N; (first | (apply Int.le_antisymm <;> omega) | omega)) ⟨by (first | (apply Int.le_antisymm <;> omega) | omega), by (first | (apply Int.le_antisymm <;> omega) | omega), by (first | (apply Int.le_antisymm <;> omega) | omega), hP, hD, hS, lv_sub hl [0, 1, 2] rfl⟩
abbrev b_BR_putUnsigned : ByteArray := prog_3_method_6_code
def y_BR_putUnsigned : MethodName := ⟨R_BR, "putUnsigned", "(I)V"⟩
abbrev w_BR_putUnsigned : List Cond := .code y_BR_putUnsigned b_BR_putUnsigned 4 none :: lw_g
theorem kC_BR_putUnsigned : Cond.code y_BR_putUnsigned b_BR_putUnsigned 4 none ∈ lw_g := in_c5 169 rfl rfl
theorem d_BR_putUnsigned_0 : decode b_BR_putUnsigned 0 = .ok (.iload_n 1, 1) := bz_c27 (by decide +kernel)
theorem d_BR_putUnsigned_1 : decode b_BR_putUnsigned 1 = .ok (.istore_n 2, 1) := bz_c61 (by decide +kernel)
theorem d_BR_putUnsigned_2 : decode b_BR_putUnsigned 2 = .ok (.iconst 0, 1) := bz_c3 (by decide +kernel)
theorem d_BR_putUnsigned_3 : decode b_BR_putUnsigned 3 = .ok (.istore_n 3, 1) := bz_c62 (by decide +kernel)
theorem d_BR_putUnsigned_4 : decode b_BR_putUnsigned 4 = .ok (.iload_n 3, 1) := bz_c29 (by decide +kernel)
theorem d_BR_putUnsigned_5 : decode b_BR_putUnsigned 5 = .ok (.iconst 5, 1) := bz_c8 (by decide +kernel)
theorem d_BR_putUnsigned_6 : decode b_BR_putUnsigned 6 = .ok (.if_icmp .ge 33, 3) := bz_c162 (by decide +kernel)
theorem d_BR_putUnsigned_9 : decode b_BR_putUnsigned 9 = .ok (.iload_n 2, 1) := bz_c28 (by decide +kernel)
theorem d_BR_putUnsigned_10 : decode b_BR_putUnsigned 10 = .ok (.bipush 7, 2) := bz_c16 (by decide +kernel)
theorem d_BR_putUnsigned_12 : decode b_BR_putUnsigned 12 = .ok (.iushr, 1) := bz_c124 (by decide +kernel)
theorem d_BR_putUnsigned_13 : decode b_BR_putUnsigned 13 = .ok (.ifCond .eq 26, 3) := bz_c153 (by decide +kernel)
theorem d_BR_putUnsigned_16 : decode b_BR_putUnsigned 16 = .ok (.aload_n 0, 1) := bz_c42 (by decide +kernel)
theorem d_BR_putUnsigned_17 : decode b_BR_putUnsigned 17 = .ok (.iload_n 2, 1) := bz_c28 (by decide +kernel)
theorem d_BR_putUnsigned_18 : decode b_BR_putUnsigned 18 = .ok (.bipush 127, 2) := bz_c16 (by decide +kernel)
theorem d_BR_putUnsigned_20 : decode b_BR_putUnsigned 20 = .ok (.iand, 1) := bz_c126 (by decide +kernel)
theorem d_BR_putUnsigned_21 : decode b_BR_putUnsigned 21 = .ok (.sipush 128, 3) := bz_c17 (by decide +kernel)
theorem d_BR_putUnsigned_24 : decode b_BR_putUnsigned 24 = .ok (.ior, 1) := by decide +kernel
theorem d_BR_putUnsigned_25 : decode b_BR_putUnsigned 25 = .ok (.invokevirtual 17, 3) := bz_c182 (by decide +kernel)
theorem d_BR_putUnsigned_28 : decode b_BR_putUnsigned 28 = .ok (.iload_n 2, 1) := bz_c28 (by decide +kernel)
theorem d_BR_putUnsigned_29 : decode b_BR_putUnsigned 29 = .ok (.bipush 7, 2) := bz_c16 (by decide +kernel)
theorem d_BR_putUnsigned_31 : decode b_BR_putUnsigned 31 = .ok (.iushr, 1) := bz_c124 (by decide +kernel)
theorem d_BR_putUnsigned_32 : decode b_BR_putUnsigned 32 = .ok (.istore_n 2, 1) := bz_c61 (by decide +kernel)
theorem d_BR_putUnsigned_33 : decode b_BR_putUnsigned 33 = .ok (.iinc 3 1, 3) := by decide +kernel
theorem d_BR_putUnsigned_36 : decode b_BR_putUnsigned 36 = .ok (.goto (-32), 3) := bz_c167 (by decide +kernel)
theorem d_BR_putUnsigned_39 : decode b_BR_putUnsigned 39 = .ok (.aload_n 0, 1) := bz_c42 (by decide +kernel)
theorem d_BR_putUnsigned_40 : decode b_BR_putUnsigned 40 = .ok (.iload_n 2, 1) := bz_c28 (by decide +kernel)
theorem d_BR_putUnsigned_41 : decode b_BR_putUnsigned 41 = .ok (.invokevirtual 17, 3) := bz_c182 (by decide +kernel)
theorem d_BR_putUnsigned_44 : decode b_BR_putUnsigned 44 = .ok (.return_, 1) := bz_c177 (by decide +kernel)
set_option maxHeartbeats 4000000 in
set_option maxRecDepth 100000 in
theorem c_BR_putUnsigned (l : Launch) (dC : Nat → ClassId) (dI : Nat → Nat → Nat) (h0 a sz : Nat) (cA : ClassId) (n : Nat) (len : Int32) (f : Nat → Int32) (hl0 : 0 ≤ len.toInt) (hl1 : len.toInt ≤ n) (hn : n < 2147483648) (p0 : Int32) (hroom : len.toInt + 6 ≤ n) : Met l y_BR_putUnsigned w_BR_putUnsigned ({ frames := 1, cells := 0, slots := 0, locals := 21 }) (va_Pc [.ref h0, .int p0] (fun U => U.heap.size = sz ∧ va_P (dC, dI) cls [(h0, .inr (1, [.ref a, .int len])), (a, .inl (cA, n, .inl f))] U.heap ∧ va_K (dC, dI) cls [(cA, .byte)] U ∧ va_D (fun _ => True) [(h0, .inr (1, [.ref a, .int len])), (a, .inl (cA, n, .inl f))])) (va_Qv (fun (u : Int32 × (Nat → Int32)) => u.1.toInt = len.toInt + (leb 5 (un p0)).length ∧ bl u.2 u.1.toNatClampNeg = bl f len.toNatClampNeg ++ leb 5 (un p0)) (br_at dC dI h0 a cA n (va_A [(h0, .inr (1, [.ref a, .int len])), (a, .inl (cA, n, .inl f))] sz)) (va_A [(h0, .inr (1, [.ref a, .int len])), (a, .inl (cA, n, .inl f))] sz)) 0 0 (va_A [(h0, .inr (1, [.ref a, .int len])), (a, .inl (cA, n, .inl f))] sz) := by
  refine Met.ofW (cc := b_BR_putUnsigned) (maxL := 4) (ret := none) (by decide) rfl ?_
  intro p e s m args below meth c s₁ B hml hv
  obtain ⟨rfl, hsz, hP, hK, hD0⟩ := hv
  have hx := B.exec
  have hb := B.bytes
  have hr := B.returns
  have hts0 := atoms_spec (ws := w_BR_putUnsigned) B.pre
  have hts : ∀ w ∈ lw_g, w.before _ s = true := fun w h => hts0 w (List.mem_cons_of_mem _ h)
  have hown : s.vm.findClass R_BR = some m.cls := findClass_of_methodNamed B.named
  have hlocks := B.notSynchronized
  clear hts0
  subst hsz
  have hD := hD0.self (sz := s.heap.size)
  generalize hAe : va_A [(h0, .inr (1, [.ref a, .int len])), (a, .inl (cA, n, .inl f))] s.heap.size = A at hD ⊢
  have hA : ∀ q : Nat, s.heap.size ≤ q → A q := fun q h => by rw [← hAe]; exact Or.inr h
  clear hAe
  have hP : va_P (dC, dI) cls [(h0, .inr (1, [.ref a, .int len])), (a, .inl (cA, n, .inl f))] s.heap := hP
  have hl := lv_entry ([.ref h0, .int p0]) (n := 4) (Nat.le_of_ble_eq_true rfl)
  rw [lg_entry_eq]
  generalize (lg_sl ([.ref h0, .int p0]) ++ List.replicate (4 - (lg_sl ([.ref h0, .int p0])).length) Slot.unset).toArray = ls at hl ⊢
  have hl : lv_has ls 4 [(0, .ref h0), (1, .int p0)] := hl
  have k0 : (0 : Int32).toInt = 0 := by decide
  refine w_gen (A := A) hP (fun H locs hP hS => ?_)
  have lo_p0 := i32_lo p0
  have hi_p0 := i32_hi p0
  refine lv_iload_n hx hb d_BR_putUnsigned_0 rfl (lv_at hl 1 rfl) ?_
  refine lv_istore_n (lv' := [(2, .int p0), (0, .ref h0), (1, .int p0)]) hx hb d_BR_putUnsigned_1 rfl hl (by decide) rfl (fun ls hl => ?_)
  refine lv_iconst (v := 0) hx hb d_BR_putUnsigned_2 (by decide) ?_
  refine lv_topi (fun x1 ex1 => ?_)
  have tx1 : x1.toInt = 0 := by rw [ex1]; decide
  refine lv_istore_n (lv' := [(3, .int x1), (2, .int p0), (0, .ref h0), (1, .int p0)]) hx hb d_BR_putUnsigned_3 rfl hl (by decide) rfl (fun ls hl => ?_)
  refine w_loop (σ := Int32 × Int32 × Int32 × (Nat → Int32) × (List Nat)) (fun u H locs ls => match u with | (r, i, y, g, pre) => (0 ≤ i.toInt ∧ i.toInt ≤ 5) ∧ (y.toInt = len.toInt + i.toInt) ∧ (bl g y.toNatClampNeg = bl f len.toNatClampNeg ++ pre) ∧ (leb 5 (un p0) = pre ++ leb (5 - i.toInt).toNat (un r)) ∧ va_P (dC, dI) cls [(h0, .inr (1, [.ref a, .int y])), (a, .inl (cA, n, .inl g))] H ∧ va_D A [(h0, .inr (1, [.ref a, .int y])), (a, .inl (cA, n, .inl g))] ∧ va_S A s.heap H locs ∧ lv_has ls 4 [(3, .int i), (2, .int r), (0, .ref h0)]) (fun u => match u with | (r, i, y, g, pre) => (5 - i.toInt).toNat) ?_ (p0, x1, len, f, []) ⟨by (first | (apply Int.le_antisymm <;> omega) | omega), by (first | (apply Int.le_antisymm <;> omega) | omega), by simp, by rw [tx1]; rfl, hP, hD, hS, lv_sub hl [0, 1, 2] rfl⟩
  intro N ih u H locs ls hN hI
  obtain ⟨r, i, y, g, pre⟩ := u
  obtain ⟨v1, v2, v3, v4, hP, hD, hS, hl⟩ := hI
  have hN : (5 - i.toInt).toNat < N + 1 := hN
  refine lv_iload_n hx hb d_BR_putUnsigned_4 rfl (lv_at hl 0 rfl) ?_
  refine lv_iconst (v := 5) hx hb d_BR_putUnsigned_5 (by decide) ?_
  have k5 : (5 : Int32).toInt = 5 := by decide
  refine lv_icmp_ge (tgt := 39) hx hb d_BR_putUnsigned_6 (by decide) (fun c6 => ?_) (fun c6 => ?_)
  · have q6 := leI c6
    have w40 : leb (5 - i.toInt).toNat (un r) = [un r % 256] := by first | exact leb_end (by rw [← w10]; exact un_eq0.mp c13) | (rw [show (5 - i.toInt).toNat = 0 from by (first | (apply Int.le_antisymm <;> omega) | omega)]; rfl)
    refine lv_aload_n hx hb d_BR_putUnsigned_39 rfl (lv_at hl 2 rfl) ?_
    refine lv_iload_n hx hb d_BR_putUnsigned_40 rfl (lv_at hl 1 rfl) ?_
    have hPc := hP.sb (wq := [(h0, .inr (1, [.ref a, .int y])), (a, .inl (cA, n, .inl g))]) [0, 1] rfl
    have hDc := hD.sb (wq := [(h0, .inr (1, [.ref a, .int y])), (a, .inl (cA, n, .inl g))]) [0, 1] (by decide) rfl
    have hKc := hK.sb (tyq := [(cA, .byte)]) [0] rfl
    have hFc := va_free (wc := [(h0, .inr (1, [.ref a, .int y])), (a, .inl (cA, n, .inl g))]) hD hS hA [0, 1] rfl
    refine va_callv (va_runV (As := [.int r]) (rest := []) ⟨hx, hb, hml, hown, hts⟩ (c_BR_put l dC dI h0 a H.size cA n y g (by (first | (apply Int.le_antisymm <;> omega) | omega)) (by (first | (apply Int.le_antisymm <;> omega) | omega)) (by (first | (apply Int.le_antisymm <;> omega) | omega)) r) (cwV 1 hts (gV kM_BR_17 kV_BR_put kS_BR_put kI_BR kC_BR_put) rfl rfl rfl (by decide +kernel) ⟨Nat.le_of_ble_eq_true rfl, Nat.le_of_ble_eq_true rfl⟩) ⟨fun a U g mk z => by obtain ⟨z0, z1, zP, zK, zD⟩ := z; exact ⟨z0, z1, zP, va_K.moved (u := U) (U := U.calling g mk a) (Vm.Alike.refl U.vm) zK, zD⟩, va_recv hKc hPc (ci := 1) (q0 := 0) rfl rfl, fun U hU hW => ⟨rfl, by rw [hU], va_P.he hU.symm hPc, va_K.moved hW.alike hKc, hDc.weaken (fun _ _ _ _ => trivial)⟩⟩ rfl rfl hl.1 rfl (lv_room (Nat.le_of_ble_eq_true rfl)) d_BR_putUnsigned_41 ⟨(Nat.zero_le _), (Nat.zero_le _)⟩) hS (fun q _ h => hFc q h) hFc (fun u t H1 locs ht hvm hw hB hz1 hk1 hS => ?_)
    obtain ⟨n3, f4⟩ := u
    try dsimp only at hw
    have tn3 := br_put_in (by (first | (apply Int.le_antisymm <;> omega) | omega)) (by (first | (apply Int.le_antisymm <;> omega) | omega)) (by (first | (apply Int.le_antisymm <;> omega) | omega)) hw
    have bn3 := br_put_bl (by (first | (apply Int.le_antisymm <;> omega) | omega)) (by (first | (apply Int.le_antisymm <;> omega) | omega)) (by (first | (apply Int.le_antisymm <;> omega) | omega)) hw
    obtain ⟨hP1, hK1, hD1⟩ := hB
    replace hP1 := va_P.he ht hP1
    obtain ⟨hP, hD⟩ := va_join (wr := []) (w1 := [(h0, .inr (1, [.ref a, .int n3])), (a, .inl (cA, n, .inl f4))]) hP hD [0, 1] [] rfl rfl (by decide) (by decide) hk1 hFc hP1 hD1
    clear hPc hDc hKc hFc hz1 hk1 hP1 hK1 hD1
    rename Heap => H
    have hP : va_P (dC, dI) cls [(h0, .inr (1, [.ref a, .int n3])), (a, .inl (cA, n, .inl f4))] H := hP
    have hD : va_D A [(h0, .inr (1, [.ref a, .int n3])), (a, .inl (cA, n, .inl f4))] := hD
    have z1 := bn3 (by (first | (apply Int.le_antisymm <;> omega) | omega))
    have z2 : bl f4 n3.toNatClampNeg = bl f len.toNatClampNeg ++ leb 5 (un p0) := by rw [z1, v3, v4, w40, List.append_assoc]; rfl
    have z3 := congrArg List.length z2
    rw [List.length_append, bl_len, bl_len] at z3
    have z4 := i32_clamp (x := n3) (by (first | (apply Int.le_antisymm <;> omega) | omega))
    have z5 := i32_clamp (x := len) (by (first | (apply Int.le_antisymm <;> omega) | omega))
    have hP9 := hP.sb (wq := [(h0, .inr (1, [.ref a, .int n3])), (a, .inl (cA, n, .inl f4))]) [0, 1] rfl
    have hD9 := hD.sb (wq := [(h0, .inr (1, [.ref a, .int n3])), (a, .inl (cA, n, .inl f4))]) [0, 1] (by decide) rfl
    exact W.vret hx hb hr (fun t ht hW => ⟨⟨(n3, f4), rfl, ⟨by dsimp only; (first | (apply Int.le_antisymm <;> omega) | omega), z2⟩, va_P.he ht.symm hP9, va_K.moved hW.alike hK, hD9⟩, hS.F ht⟩) hS.2.2 d_BR_putUnsigned_44
  · have q6 := nleI c6
    refine lv_iload_n hx hb d_BR_putUnsigned_9 rfl (lv_at hl 1 rfl) ?_
    refine lv_bipush (v := 7) hx hb d_BR_putUnsigned_10 (by decide) ?_
    have k7 : (7 : Int32).toInt = 7 := by decide
    refine lv_iushr hx hb d_BR_putUnsigned_12 rfl ?_
    refine lv_topi (fun x5 ex5 => ?_)
    have w10 : un x5 = un r / 128 := by rw [ex5]; exact un_ushr7 _
    refine lv_if_eq (tgt := 39) hx hb d_BR_putUnsigned_13 (by decide) (fun c13 => ?_) (fun c13 => ?_)
    · have q13 := eqI c13
      have w40 : leb (5 - i.toInt).toNat (un r) = [un r % 256] := by first | exact leb_end (by rw [← w10]; exact un_eq0.mp c13) | (rw [show (5 - i.toInt).toNat = 0 from by (first | (apply Int.le_antisymm <;> omega) | omega)]; rfl)
      refine lv_aload_n hx hb d_BR_putUnsigned_39 rfl (lv_at hl 2 rfl) ?_
      refine lv_iload_n hx hb d_BR_putUnsigned_40 rfl (lv_at hl 1 rfl) ?_
      have hPc := hP.sb (wq := [(h0, .inr (1, [.ref a, .int y])), (a, .inl (cA, n, .inl g))]) [0, 1] rfl
      have hDc := hD.sb (wq := [(h0, .inr (1, [.ref a, .int y])), (a, .inl (cA, n, .inl g))]) [0, 1] (by decide) rfl
      have hKc := hK.sb (tyq := [(cA, .byte)]) [0] rfl
      have hFc := va_free (wc := [(h0, .inr (1, [.ref a, .int y])), (a, .inl (cA, n, .inl g))]) hD hS hA [0, 1] rfl
      refine va_callv (va_runV (As := [.int r]) (rest := []) ⟨hx, hb, hml, hown, hts⟩ (c_BR_put l dC dI h0 a H.size cA n y g (by (first | (apply Int.le_antisymm <;> omega) | omega)) (by (first | (apply Int.le_antisymm <;> omega) | omega)) (by (first | (apply Int.le_antisymm <;> omega) | omega)) r) (cwV 1 hts (gV kM_BR_17 kV_BR_put kS_BR_put kI_BR kC_BR_put) rfl rfl rfl (by decide +kernel) ⟨Nat.le_of_ble_eq_true rfl, Nat.le_of_ble_eq_true rfl⟩) ⟨fun a U g mk z => by obtain ⟨z0, z1, zP, zK, zD⟩ := z; exact ⟨z0, z1, zP, va_K.moved (u := U) (U := U.calling g mk a) (Vm.Alike.refl U.vm) zK, zD⟩, va_recv hKc hPc (ci := 1) (q0 := 0) rfl rfl, fun U hU hW => ⟨rfl, by rw [hU], va_P.he hU.symm hPc, va_K.moved hW.alike hKc, hDc.weaken (fun _ _ _ _ => trivial)⟩⟩ rfl rfl hl.1 rfl (lv_room (Nat.le_of_ble_eq_true rfl)) d_BR_putUnsigned_41 ⟨(Nat.zero_le _), (Nat.zero_le _)⟩) hS (fun q _ h => hFc q h) hFc (fun u t H1 locs ht hvm hw hB hz1 hk1 hS => ?_)
      obtain ⟨n7, f8⟩ := u
      try dsimp only at hw
      have tn7 := br_put_in (by (first | (apply Int.le_antisymm <;> omega) | omega)) (by (first | (apply Int.le_antisymm <;> omega) | omega)) (by (first | (apply Int.le_antisymm <;> omega) | omega)) hw
      have bn7 := br_put_bl (by (first | (apply Int.le_antisymm <;> omega) | omega)) (by (first | (apply Int.le_antisymm <;> omega) | omega)) (by (first | (apply Int.le_antisymm <;> omega) | omega)) hw
      obtain ⟨hP1, hK1, hD1⟩ := hB
      replace hP1 := va_P.he ht hP1
      obtain ⟨hP, hD⟩ := va_join (wr := []) (w1 := [(h0, .inr (1, [.ref a, .int n7])), (a, .inl (cA, n, .inl f8))]) hP hD [0, 1] [] rfl rfl (by decide) (by decide) hk1 hFc hP1 hD1
      clear hPc hDc hKc hFc hz1 hk1 hP1 hK1 hD1
      rename Heap => H
      have hP : va_P (dC, dI) cls [(h0, .inr (1, [.ref a, .int n7])), (a, .inl (cA, n, .inl f8))] H := hP
      have hD : va_D A [(h0, .inr (1, [.ref a, .int n7])), (a, .inl (cA, n, .inl f8))] := hD
      have z1 := bn7 (by (first | (apply Int.le_antisymm <;> omega) | omega))
      have z2 : bl f8 n7.toNatClampNeg = bl f len.toNatClampNeg ++ leb 5 (un p0) := by rw [z1, v3, v4, w40, List.append_assoc]; rfl
      have z3 := congrArg List.length z2
      rw [List.length_append, bl_len, bl_len] at z3
      have z4 := i32_clamp (x := n7) (by (first | (apply Int.le_antisymm <;> omega) | omega))
      have z5 := i32_clamp (x := len) (by (first | (apply Int.le_antisymm <;> omega) | omega))
      have hP9 := hP.sb (wq := [(h0, .inr (1, [.ref a, .int n7])), (a, .inl (cA, n, .inl f8))]) [0, 1] rfl
      have hD9 := hD.sb (wq := [(h0, .inr (1, [.ref a, .int n7])), (a, .inl (cA, n, .inl f8))]) [0, 1] (by decide) rfl
      exact W.vret hx hb hr (fun t ht hW => ⟨⟨(n7, f8), rfl, ⟨by dsimp only; (first | (apply Int.le_antisymm <;> omega) | omega), z2⟩, va_P.he ht.symm hP9, va_K.moved hW.alike hK, hD9⟩, hS.F ht⟩) hS.2.2 d_BR_putUnsigned_44
    · have q13 := neI c13
      have w13 : un r / 128 ≠ 0 := fun z => c13 (un_eq0.mpr (w10.trans z))
      refine lv_aload_n hx hb d_BR_putUnsigned_16 rfl (lv_at hl 2 rfl) ?_
      refine lv_iload_n hx hb d_BR_putUnsigned_17 rfl (lv_at hl 1 rfl) ?_
      refine lv_bipush (v := 127) hx hb d_BR_putUnsigned_18 (by decide) ?_
      have k127 : (127 : Int32).toInt = 127 := by decide
      refine lv_iand hx hb d_BR_putUnsigned_20 ?_
      refine lv_topi (fun x9 ex9 => ?_)
      refine lv_sipush (v := 128) hx hb d_BR_putUnsigned_21 (by decide) ?_
      have k128 : (128 : Int32).toInt = 128 := by decide
      refine lv_ior hx hb d_BR_putUnsigned_24 ?_
      refine lv_topi (fun x10 ex10 => ?_)
      have w12 : bn x10 = un r % 128 + 128 := by rw [ex10, ex9]; exact bn_low r
      have hPc := hP.sb (wq := [(h0, .inr (1, [.ref a, .int y])), (a, .inl (cA, n, .inl g))]) [0, 1] rfl
      have hDc := hD.sb (wq := [(h0, .inr (1, [.ref a, .int y])), (a, .inl (cA, n, .inl g))]) [0, 1] (by decide) rfl
      have hKc := hK.sb (tyq := [(cA, .byte)]) [0] rfl
      have hFc := va_free (wc := [(h0, .inr (1, [.ref a, .int y])), (a, .inl (cA, n, .inl g))]) hD hS hA [0, 1] rfl
      refine va_callv (va_runV (As := [.int x10]) (rest := []) ⟨hx, hb, hml, hown, hts⟩ (c_BR_put l dC dI h0 a H.size cA n y g (by (first | (apply Int.le_antisymm <;> omega) | omega)) (by (first | (apply Int.le_antisymm <;> omega) | omega)) (by (first | (apply Int.le_antisymm <;> omega) | omega)) x10) (cwV 1 hts (gV kM_BR_17 kV_BR_put kS_BR_put kI_BR kC_BR_put) rfl rfl rfl (by decide +kernel) ⟨Nat.le_of_ble_eq_true rfl, Nat.le_of_ble_eq_true rfl⟩) ⟨fun a U g mk z => by obtain ⟨z0, z1, zP, zK, zD⟩ := z; exact ⟨z0, z1, zP, va_K.moved (u := U) (U := U.calling g mk a) (Vm.Alike.refl U.vm) zK, zD⟩, va_recv hKc hPc (ci := 1) (q0 := 0) rfl rfl, fun U hU hW => ⟨rfl, by rw [hU], va_P.he hU.symm hPc, va_K.moved hW.alike hKc, hDc.weaken (fun _ _ _ _ => trivial)⟩⟩ rfl rfl hl.1 rfl (lv_room (Nat.le_of_ble_eq_true rfl)) d_BR_putUnsigned_25 ⟨(Nat.zero_le _), (Nat.zero_le _)⟩) hS (fun q _ h => hFc q h) hFc (fun u t H1 locs ht hvm hw hB hz1 hk1 hS => ?_)
      obtain ⟨n12, f13⟩ := u
      try dsimp only at hw
      have tn12 := br_put_in (by (first | (apply Int.le_antisymm <;> omega) | omega)) (by (first | (apply Int.le_antisymm <;> omega) | omega)) (by (first | (apply Int.le_antisymm <;> omega) | omega)) hw
      have bn12 := br_put_bl (by (first | (apply Int.le_antisymm <;> omega) | omega)) (by (first | (apply Int.le_antisymm <;> omega) | omega)) (by (first | (apply Int.le_antisymm <;> omega) | omega)) hw
      obtain ⟨hP1, hK1, hD1⟩ := hB
      replace hP1 := va_P.he ht hP1
      obtain ⟨hP, hD⟩ := va_join (wr := []) (w1 := [(h0, .inr (1, [.ref a, .int n12])), (a, .inl (cA, n, .inl f13))]) hP hD [0, 1] [] rfl rfl (by decide) (by decide) hk1 hFc hP1 hD1
      clear hPc hDc hKc hFc hz1 hk1 hP1 hK1 hD1
      rename Heap => H
      have hP : va_P (dC, dI) cls [(h0, .inr (1, [.ref a, .int n12])), (a, .inl (cA, n, .inl f13))] H := hP
      have hD : va_D A [(h0, .inr (1, [.ref a, .int n12])), (a, .inl (cA, n, .inl f13))] := hD
      refine lv_iload_n hx hb d_BR_putUnsigned_28 rfl (lv_at hl 1 rfl) ?_
      refine lv_bipush (v := 7) hx hb d_BR_putUnsigned_29 (by decide) ?_
      have k7 : (7 : Int32).toInt = 7 := by decide
      refine lv_iushr hx hb d_BR_putUnsigned_31 rfl ?_
      refine lv_topi (fun x14 ex14 => ?_)
      have w29 : un x14 = un r / 128 := by rw [ex14]; exact un_ushr7 _
      refine lv_istore_n (lv' := [(2, .int x14), (3, .int i), (0, .ref h0)]) hx hb d_BR_putUnsigned_32 rfl hl (by decide) rfl (fun ls hl => ?_)
      obtain ⟨x15, ex15⟩ : ∃ z : Int32, z = i + 1 := ⟨_, rfl⟩
      have k1 : (1 : Int32).toInt = 1 := by decide
      have tx15 : x15.toInt = i.toInt + 1 := by have z := i32_add ex15 (by (first | (apply Int.le_antisymm <;> omega) | omega)) (by (first | (apply Int.le_antisymm <;> omega) | omega)); first | exact z | (first | (apply Int.le_antisymm <;> omega) | omega)
      refine lv_iinc (v := x15) (lv' := [(3, .int x15), (2, .int x14), (0, .ref h0)]) hx hb d_BR_putUnsigned_33 hl (k := 1) rfl (by rw [ex15]; rfl) (by decide) rfl (fun ls hl => ?_)
      refine lv_goto (tgt := 4) hx hb d_BR_putUnsigned_36 (by decide) ?_
      have z1 := bn12 (by (first | (apply Int.le_antisymm <;> omega) | omega))
      skip
      exact ih (x14, x15, n12, f13, pre ++ [un r % 128 + 128]) _ _ _ (by show (5 - x15.toInt).toNat < N; (first | (apply Int.le_antisymm <;> omega) | omega)) ⟨by (first | (apply Int.le_antisymm <;> omega) | omega), by (first | (apply Int.le_antisymm <;> omega) | omega), by rw [z1, v3, w12, List.append_assoc], by rw [v4, show (5 - i.toInt).toNat = (5 - x15.toInt).toNat + 1 from by (first | (apply Int.le_antisymm <;> omega) | omega), leb_go w13, w29, List.append_assoc]; rfl, hP, hD, hS, lv_sub hl [0, 1, 2] rfl⟩
abbrev br_at2 (dC : Nat → ClassId) (dI : Nat → Nat → Nat) (h0 a h1 b : Nat) (cA cB : ClassId) (n n1 : Nat) (len1 : Int32) (f1 : Nat → Int32) (A : Nat → Prop) (u : Int32 × (Nat → Int32)) (t : State) : Prop := match u with
  | (len, f) => va_P (dC, dI) cls (wz_0 h0 a len a cA n f h1 b len1 b cB n1 f1) t.heap ∧ va_K (dC, dI) cls [(cA, .byte), (cB, .byte)] t ∧ va_D A (wz_0 h0 a len a cA n f h1 b len1 b cB n1 f1)
theorem br_get_bn {f : Nat → Int32} {len i r : Int32} (h : r = br_get f len i) (h0 : 0 ≤ i.toInt) (h1 : i.toInt < len.toInt) : bn r = bn (f i.toNatClampNeg) := by
  rw [h, br_get, if_pos ⟨h0, h1⟩, bn_and, bn_nI (bn_lt _)]
abbrev b_BR_putPart : ByteArray := prog_3_method_9_code
def y_BR_putPart : MethodName := ⟨R_BR, "putPart", "(LWaferForge$ByteRow;II)V"⟩
abbrev w_BR_putPart : List Cond := .code y_BR_putPart b_BR_putPart 5 none :: lw_g
theorem kC_BR_putPart : Cond.code y_BR_putPart b_BR_putPart 5 none ∈ lw_g := in_c6 20 rfl rfl
theorem d_BR_putPart_0 : decode b_BR_putPart 0 = .ok (.iconst 0, 1) := bz_c3 (by decide +kernel)
theorem d_BR_putPart_1 : decode b_BR_putPart 1 = .ok (.istore 4, 2) := bz_c54 (by decide +kernel)
theorem d_BR_putPart_3 : decode b_BR_putPart 3 = .ok (.iload 4, 2) := bz_c21 (by decide +kernel)
theorem d_BR_putPart_5 : decode b_BR_putPart 5 = .ok (.iload_n 3, 1) := bz_c29 (by decide +kernel)
theorem d_BR_putPart_6 : decode b_BR_putPart 6 = .ok (.if_icmp .ge 21, 3) := bz_c162 (by decide +kernel)
theorem d_BR_putPart_9 : decode b_BR_putPart 9 = .ok (.aload_n 0, 1) := bz_c42 (by decide +kernel)
theorem d_BR_putPart_10 : decode b_BR_putPart 10 = .ok (.aload_n 1, 1) := bz_c43 (by decide +kernel)
theorem d_BR_putPart_11 : decode b_BR_putPart 11 = .ok (.iload_n 2, 1) := bz_c28 (by decide +kernel)
theorem d_BR_putPart_12 : decode b_BR_putPart 12 = .ok (.iload 4, 2) := bz_c21 (by decide +kernel)
theorem d_BR_putPart_14 : decode b_BR_putPart 14 = .ok (.iadd, 1) := bz_c96 (by decide +kernel)
theorem d_BR_putPart_15 : decode b_BR_putPart 15 = .ok (.invokevirtual 36, 3) := bz_c182 (by decide +kernel)
theorem d_BR_putPart_18 : decode b_BR_putPart 18 = .ok (.invokevirtual 17, 3) := bz_c182 (by decide +kernel)
theorem d_BR_putPart_21 : decode b_BR_putPart 21 = .ok (.iinc 4 1, 3) := by decide +kernel
theorem d_BR_putPart_24 : decode b_BR_putPart 24 = .ok (.goto (-21), 3) := bz_c167 (by decide +kernel)
theorem d_BR_putPart_27 : decode b_BR_putPart 27 = .ok (.return_, 1) := bz_c177 (by decide +kernel)
theorem kM_BR_36 : Cond.methodLink R_BR 36 y_BR_at ∈ lw_g := in_c4 101 rfl rfl
theorem kV_BR_at : Cond.instanceMethod y_BR_at ∈ lw_g := in_c3 168 rfl rfl
theorem kS_BR_at : Cond.selects R_BR y_BR_at y_BR_at ∈ lw_g := in_c3 169 rfl rfl
set_option maxHeartbeats 4000000 in
set_option maxRecDepth 100000 in
theorem c_BR_putPart (l : Launch) (dC : Nat → ClassId) (dI : Nat → Nat → Nat) (h0 a h1 b sz : Nat) (cA cB : ClassId) (n n1 : Nat) (len len1 : Int32) (f f1 : Nat → Int32) (hl0 : 0 ≤ len.toInt) (hl1 : len.toInt ≤ n) (hn : n < 2147483648) (hm0 : 0 ≤ len1.toInt) (hm1 : len1.toInt ≤ n1) (hn1 : n1 < 2147483648) (p1 p2 : Int32) (g1 : 0 ≤ p1.toInt) (g2 : 0 ≤ p2.toInt) (g3 : p1.toInt + p2.toInt ≤ len1.toInt) (g4 : len.toInt + p2.toInt ≤ n) : Met l y_BR_putPart w_BR_putPart ({ frames := 1, cells := 0, slots := 0, locals := 21 }) (va_Pc [.ref h0, .ref h1, .int p1, .int p2] (fun U => U.heap.size = sz ∧ va_P (dC, dI) cls (wz_0 h0 a len a cA n f h1 b len1 b cB n1 f1) U.heap ∧ va_K (dC, dI) cls [(cA, .byte), (cB, .byte)] U ∧ va_D (fun _ => True) (wz_0 h0 a len a cA n f h1 b len1 b cB n1 f1))) (va_Qv (fun (u : Int32 × (Nat → Int32)) => u.1.toInt = len.toInt + p2.toInt ∧ bl u.2 u.1.toNatClampNeg = bl f len.toNatClampNeg ++ ((bl f1 len1.toNatClampNeg).drop p1.toNatClampNeg).take p2.toNatClampNeg) (br_at2 dC dI h0 a h1 b cA cB n n1 len1 f1 (va_A (wz_0 h0 a len a cA n f h1 b len1 b cB n1 f1) sz)) (va_A (wz_0 h0 a len a cA n f h1 b len1 b cB n1 f1) sz)) 0 0 (va_A (wz_0 h0 a len a cA n f h1 b len1 b cB n1 f1) sz) := by
  refine Met.ofW (cc := b_BR_putPart) (maxL := 5) (ret := none) (by decide) rfl ?_
  intro p e s m args below meth c s₁ B hml hv
  obtain ⟨rfl, hsz, hP, hK, hD0⟩ := hv
  have hx := B.exec
  have hb := B.bytes
  have hr := B.returns
  have hts0 := atoms_spec (ws := w_BR_putPart) B.pre
  have hts : ∀ w ∈ lw_g, w.before _ s = true := fun w h => hts0 w (List.mem_cons_of_mem _ h)
  have hown : s.vm.findClass R_BR = some m.cls := findClass_of_methodNamed B.named
  have hlocks := B.notSynchronized
  clear hts0
  subst hsz
  have hD := hD0.self (sz := s.heap.size)
  generalize hAe : va_A (wz_0 h0 a len a cA n f h1 b len1 b cB n1 f1) s.heap.size = A at hD ⊢
  have hA : ∀ q : Nat, s.heap.size ≤ q → A q := fun q h => by rw [← hAe]; exact Or.inr h
  clear hAe
  have hP : va_P (dC, dI) cls (wz_0 h0 a len a cA n f h1 b len1 b cB n1 f1) s.heap := hP
  have hl := lv_entry ([.ref h0, .ref h1, .int p1, .int p2]) (n := 5) (Nat.le_of_ble_eq_true rfl)
  rw [lg_entry_eq]
  generalize (lg_sl ([.ref h0, .ref h1, .int p1, .int p2]) ++ List.replicate (5 - (lg_sl ([.ref h0, .ref h1, .int p1, .int p2])).length) Slot.unset).toArray = ls at hl ⊢
  have hl : lv_has ls 5 [(0, .ref h0), (1, .ref h1), (2, .int p1), (3, .int p2)] := hl
  have k0 : (0 : Int32).toInt = 0 := by decide
  refine w_gen (A := A) hP (fun H locs hP hS => ?_)
  have lo_p1 := i32_lo p1
  have hi_p1 := i32_hi p1
  have lo_p2 := i32_lo p2
  have hi_p2 := i32_hi p2
  refine lv_iconst (v := 0) hx hb d_BR_putPart_0 (by decide) ?_
  refine lv_topi (fun x1 ex1 => ?_)
  have tx1 : x1.toInt = 0 := by rw [ex1]; decide
  refine lv_istore (lv' := [(4, .int x1), (0, .ref h0), (1, .ref h1), (2, .int p1), (3, .int p2)]) hx hb d_BR_putPart_1 hl (by decide) rfl (fun ls hl => ?_)
  refine w_loop (σ := Int32 × Int32 × (Nat → Int32)) (fun u H locs ls => match u with | (i, y, g) => (0 ≤ i.toInt ∧ i.toInt ≤ p2.toInt) ∧ (y.toInt = len.toInt + i.toInt) ∧ (bl g y.toNatClampNeg = bl f len.toNatClampNeg ++ ((bl f1 len1.toNatClampNeg).drop p1.toNatClampNeg).take i.toNatClampNeg) ∧ va_P (dC, dI) cls (wz_0 h0 a y a cA n g h1 b len1 b cB n1 f1) H ∧ va_D A (wz_0 h0 a y a cA n g h1 b len1 b cB n1 f1) ∧ va_S A s.heap H locs ∧ lv_has ls 5 [(4, .int i), (0, .ref h0), (1, .ref h1), (2, .int p1), (3, .int p2)]) (fun u => match u with | (i, y, g) => (p2.toInt - i.toInt).toNat) ?_ (x1, len, f) ⟨by (first | (apply Int.le_antisymm <;> omega) | omega), by (first | (apply Int.le_antisymm <;> omega) | omega), by rw [show x1.toNatClampNeg = 0 from clampN (by (first | (apply Int.le_antisymm <;> omega) | omega))]; simp, hP, hD, hS, lv_sub hl [0, 1, 2, 3, 4] rfl⟩
  intro N ih u H locs ls hN hI
  obtain ⟨i, y, g⟩ := u
  obtain ⟨v1, v2, v3, hP, hD, hS, hl⟩ := hI
  have hN : (p2.toInt - i.toInt).toNat < N + 1 := hN
  refine lv_iload hx hb d_BR_putPart_3 (lv_at hl 0 rfl) ?_
  refine lv_iload_n hx hb d_BR_putPart_5 rfl (lv_at hl 4 rfl) ?_
  refine lv_icmp_ge (tgt := 27) hx hb d_BR_putPart_6 (by decide) (fun c6 => ?_) (fun c6 => ?_)
  · have q6 := leI c6
    have z0 : i.toInt = p2.toInt := by (first | (apply Int.le_antisymm <;> omega) | omega)
    have z1 := i32_clamp (x := i) (by (first | (apply Int.le_antisymm <;> omega) | omega))
    have z2 := i32_clamp (x := p2) (by (first | (apply Int.le_antisymm <;> omega) | omega))
    have hP9 := hP.sb (wq := (wz_0 h0 a y a cA n g h1 b len1 b cB n1 f1)) [0, 1, 2, 3] rfl
    have hD9 := hD.sb (wq := (wz_0 h0 a y a cA n g h1 b len1 b cB n1 f1)) [0, 1, 2, 3] (by decide) rfl
    exact W.vret hx hb hr (fun t ht hW => ⟨⟨(y, g), rfl, ⟨by dsimp only; (first | (apply Int.le_antisymm <;> omega) | omega), by dsimp only; rw [v3, show i.toNatClampNeg = p2.toNatClampNeg from by (first | (apply Int.le_antisymm <;> omega) | omega)]⟩, va_P.he ht.symm hP9, va_K.moved hW.alike hK, hD9⟩, hS.F ht⟩) hS.2.2 d_BR_putPart_27
  · have q6 := nleI c6
    refine lv_aload_n hx hb d_BR_putPart_9 rfl (lv_at hl 1 rfl) ?_
    refine lv_aload_n hx hb d_BR_putPart_10 rfl (lv_at hl 2 rfl) ?_
    refine lv_iload_n hx hb d_BR_putPart_11 rfl (lv_at hl 3 rfl) ?_
    refine lv_iload hx hb d_BR_putPart_12 (lv_at hl 0 rfl) ?_
    refine lv_iadd hx hb d_BR_putPart_14 ?_
    refine lv_topi (fun x2 ex2 => ?_)
    have tx2 : x2.toInt = p1.toInt + i.toInt := by have z := i32_add ex2 (by (first | (apply Int.le_antisymm <;> omega) | omega)) (by (first | (apply Int.le_antisymm <;> omega) | omega)); first | exact z | (first | (apply Int.le_antisymm <;> omega) | omega)
    have hPc := hP.sb (wq := [(h1, .inr (1, [.ref b, .int len1])), (b, .inl (cB, n1, .inl f1))]) [2, 3] rfl
    have hDc := hD.sb (wq := [(h1, .inr (1, [.ref b, .int len1])), (b, .inl (cB, n1, .inl f1))]) [2, 3] (by decide) rfl
    have hKc := hK.sb (tyq := [(cB, .byte)]) [1] rfl
    have hFc := va_free (wc := [(h1, .inr (1, [.ref b, .int len1])), (b, .inl (cB, n1, .inl f1))]) hD hS hA [2, 3] rfl
    refine va_calli (va_runV (As := [.int x2]) (rest := [.ref h0]) ⟨hx, hb, hml, hown, hts⟩ (c_BR_at l dC dI h1 b H.size cB n1 len1 f1 (by (first | (apply Int.le_antisymm <;> omega) | omega)) (by (first | (apply Int.le_antisymm <;> omega) | omega)) (by (first | (apply Int.le_antisymm <;> omega) | omega)) x2) (cwV 1 hts (gV kM_BR_36 kV_BR_at kS_BR_at kI_BR kC_BR_at) rfl rfl rfl (by decide +kernel) ⟨Nat.le_of_ble_eq_true rfl, Nat.le_of_ble_eq_true rfl⟩) ⟨fun a U g mk z => by obtain ⟨z0, z1, zP, zK, zD⟩ := z; exact ⟨z0, z1, zP, va_K.moved (u := U) (U := U.calling g mk a) (Vm.Alike.refl U.vm) zK, zD⟩, va_recv hKc hPc (ci := 1) (q0 := 0) rfl rfl, fun U hU hW => ⟨rfl, by rw [hU], va_P.he hU.symm hPc, va_K.moved hW.alike hKc, hDc.weaken (fun _ _ _ _ => trivial)⟩⟩ rfl rfl hl.1 rfl (lv_room (Nat.le_of_ble_eq_true rfl)) d_BR_putPart_15 ⟨(Nat.zero_le _), (Nat.zero_le _)⟩) hS (fun q _ h => hFc q h) hFc (fun r3 u t H1 locs ht hvm hw hB hz1 hk1 hS => ?_)
    obtain ⟨er3, rfl⟩ := hw
    have tr3 := br_get_in f1 len1 x2
    rw [← er3] at tr3
    obtain ⟨hP1, hK1, hD1⟩ := hB
    replace hP1 := va_P.he ht hP1
    obtain ⟨hP, hD⟩ := va_join (wr := [(h0, .inr (1, [.ref a, .int y])), (a, .inl (cA, n, .inl g))]) (w1 := [(h1, .inr (1, [.ref b, .int len1])), (b, .inl (cB, n1, .inl f1))]) hP hD [2, 3] [0, 1] rfl rfl (by decide) (by decide) hk1 hFc hP1 hD1
    clear hPc hDc hKc hFc hz1 hk1 hP1 hK1 hD1
    rename Heap => H
    have hP : va_P (dC, dI) cls (wz_0 h0 a y a cA n g h1 b len1 b cB n1 f1) H := hP
    have hD : va_D A (wz_0 h0 a y a cA n g h1 b len1 b cB n1 f1) := hD
    have hPc := hP.sb (wq := [(h0, .inr (1, [.ref a, .int y])), (a, .inl (cA, n, .inl g))]) [0, 1] rfl
    have hDc := hD.sb (wq := [(h0, .inr (1, [.ref a, .int y])), (a, .inl (cA, n, .inl g))]) [0, 1] (by decide) rfl
    have hKc := hK.sb (tyq := [(cA, .byte)]) [0] rfl
    have hFc := va_free (wc := [(h0, .inr (1, [.ref a, .int y])), (a, .inl (cA, n, .inl g))]) hD hS hA [0, 1] rfl
    refine va_callv (va_runV (As := [.int r3]) (rest := []) ⟨hx, hb, hml, hown, hts⟩ (c_BR_put l dC dI h0 a H.size cA n y g (by (first | (apply Int.le_antisymm <;> omega) | omega)) (by (first | (apply Int.le_antisymm <;> omega) | omega)) (by (first | (apply Int.le_antisymm <;> omega) | omega)) r3) (cwV 1 hts (gV kM_BR_17 kV_BR_put kS_BR_put kI_BR kC_BR_put) rfl rfl rfl (by decide +kernel) ⟨Nat.le_of_ble_eq_true rfl, Nat.le_of_ble_eq_true rfl⟩) ⟨fun a U g mk z => by obtain ⟨z0, z1, zP, zK, zD⟩ := z; exact ⟨z0, z1, zP, va_K.moved (u := U) (U := U.calling g mk a) (Vm.Alike.refl U.vm) zK, zD⟩, va_recv hKc hPc (ci := 1) (q0 := 0) rfl rfl, fun U hU hW => ⟨rfl, by rw [hU], va_P.he hU.symm hPc, va_K.moved hW.alike hKc, hDc.weaken (fun _ _ _ _ => trivial)⟩⟩ rfl rfl hl.1 rfl (lv_room (Nat.le_of_ble_eq_true rfl)) d_BR_putPart_18 ⟨(Nat.zero_le _), (Nat.zero_le _)⟩) hS (fun q _ h => hFc q h) hFc (fun u t H1 locs ht hvm hw hB hz1 hk1 hS => ?_)
    obtain ⟨n5, f6⟩ := u
    try dsimp only at hw
    have tn5 := br_put_in (by (first | (apply Int.le_antisymm <;> omega) | omega)) (by (first | (apply Int.le_antisymm <;> omega) | omega)) (by (first | (apply Int.le_antisymm <;> omega) | omega)) hw
    have bn5 := br_put_bl (by (first | (apply Int.le_antisymm <;> omega) | omega)) (by (first | (apply Int.le_antisymm <;> omega) | omega)) (by (first | (apply Int.le_antisymm <;> omega) | omega)) hw
    obtain ⟨hP1, hK1, hD1⟩ := hB
    replace hP1 := va_P.he ht hP1
    obtain ⟨hP, hD⟩ := va_join (wr := [(h1, .inr (1, [.ref b, .int len1])), (b, .inl (cB, n1, .inl f1))]) (w1 := [(h0, .inr (1, [.ref a, .int n5])), (a, .inl (cA, n, .inl f6))]) hP hD [0, 1] [2, 3] rfl rfl (by decide) (by decide) hk1 hFc hP1 hD1
    clear hPc hDc hKc hFc hz1 hk1 hP1 hK1 hD1
    rename Heap => H
    have hP : va_P (dC, dI) cls (wz_0 h1 b len1 b cB n1 f1 h0 a n5 a cA n f6) H := hP
    have hD : va_D A (wz_0 h1 b len1 b cB n1 f1 h0 a n5 a cA n f6) := hD
    obtain ⟨x7, ex7⟩ : ∃ z : Int32, z = i + 1 := ⟨_, rfl⟩
    have k1 : (1 : Int32).toInt = 1 := by decide
    have tx7 : x7.toInt = i.toInt + 1 := by have z := i32_add ex7 (by (first | (apply Int.le_antisymm <;> omega) | omega)) (by (first | (apply Int.le_antisymm <;> omega) | omega)); first | exact z | (first | (apply Int.le_antisymm <;> omega) | omega)
    refine lv_iinc (v := x7) (lv' := [(4, .int x7), (0, .ref h0), (1, .ref h1), (2, .int p1), (3, .int p2)]) hx hb d_BR_putPart_21 hl (k := 0) rfl (by rw [ex7]; rfl) (by decide) rfl (fun ls hl => ?_)
    refine lv_goto (tgt := 3) hx hb d_BR_putPart_24 (by decide) ?_
    have z1 := bn5 (by (first | (apply Int.le_antisymm <;> omega) | omega))
    have z6 := i32_clamp (x := len1) (by (first | (apply Int.le_antisymm <;> omega) | omega))
    have z7 := i32_clamp (x := p1) (by (first | (apply Int.le_antisymm <;> omega) | omega))
    have z8 := i32_clamp (x := i) (by (first | (apply Int.le_antisymm <;> omega) | omega))
    have z9 := i32_clamp (x := x2) (by (first | (apply Int.le_antisymm <;> omega) | omega))
    have z10 := br_get_bn er3 (by (first | (apply Int.le_antisymm <;> omega) | omega)) (by (first | (apply Int.le_antisymm <;> omega) | omega))
    skip
    exact ih (x7, n5, f6) _ _ _ (by show (p2.toInt - x7.toInt).toNat < N; (first | (apply Int.le_antisymm <;> omega) | omega)) ⟨by (first | (apply Int.le_antisymm <;> omega) | omega), by (first | (apply Int.le_antisymm <;> omega) | omega), by rw [z1, v3, show x7.toNatClampNeg = i.toNatClampNeg + 1 from clampN (by (first | (apply Int.le_antisymm <;> omega) | omega)), bl_part f1 (by (first | (apply Int.le_antisymm <;> omega) | omega)), z10, show x2.toNatClampNeg = p1.toNatClampNeg + i.toNatClampNeg from by (first | (apply Int.le_antisymm <;> omega) | omega), List.append_assoc], hP.sub [2, 3, 0, 1] rfl, hD.sub [2, 3, 0, 1] (by decide) rfl, hS, lv_sub hl [0, 1, 2, 3, 4] rfl⟩
abbrev b_BR_copy : ByteArray := prog_3_method_10_code
def y_BR_copy : MethodName := ⟨R_BR, "copy", "(LWaferForge$ByteRow;)V"⟩
abbrev w_BR_copy : List Cond := .code y_BR_copy b_BR_copy 2 none :: lw_g
theorem kC_BR_copy : Cond.code y_BR_copy b_BR_copy 2 none ∈ lw_g := in_c6 187 rfl rfl
theorem d_BR_copy_0 : decode b_BR_copy 0 = .ok (.aload_n 0, 1) := bz_c42 (by decide +kernel)
theorem d_BR_copy_1 : decode b_BR_copy 1 = .ok (.iconst 0, 1) := bz_c3 (by decide +kernel)
theorem d_BR_copy_2 : decode b_BR_copy 2 = .ok (.putfield 13, 3) := bz_c181 (by decide +kernel)
theorem d_BR_copy_5 : decode b_BR_copy 5 = .ok (.aload_n 0, 1) := bz_c42 (by decide +kernel)
theorem d_BR_copy_6 : decode b_BR_copy 6 = .ok (.aload_n 1, 1) := bz_c43 (by decide +kernel)
theorem d_BR_copy_7 : decode b_BR_copy 7 = .ok (.iconst 0, 1) := bz_c3 (by decide +kernel)
theorem d_BR_copy_8 : decode b_BR_copy 8 = .ok (.aload_n 1, 1) := bz_c43 (by decide +kernel)
theorem d_BR_copy_9 : decode b_BR_copy 9 = .ok (.getfield 13, 3) := bz_c180 (by decide +kernel)
theorem d_BR_copy_12 : decode b_BR_copy 12 = .ok (.invokevirtual 40, 3) := bz_c182 (by decide +kernel)
theorem d_BR_copy_15 : decode b_BR_copy 15 = .ok (.return_, 1) := bz_c177 (by decide +kernel)
theorem kM_BR_40 : Cond.methodLink R_BR 40 y_BR_putPart ∈ lw_g := in_c6 188 rfl rfl
theorem kV_BR_putPart : Cond.instanceMethod y_BR_putPart ∈ lw_g := in_c6 18 rfl rfl
theorem kS_BR_putPart : Cond.selects R_BR y_BR_putPart y_BR_putPart ∈ lw_g := in_c6 19 rfl rfl
set_option maxHeartbeats 4000000 in
set_option maxRecDepth 100000 in
theorem c_BR_copy (l : Launch) (dC : Nat → ClassId) (dI : Nat → Nat → Nat) (h0 a h1 b sz : Nat) (cA cB : ClassId) (n n1 : Nat) (len len1 : Int32) (f f1 : Nat → Int32) (hl0 : 0 ≤ len.toInt) (hl1 : len.toInt ≤ n) (hn : n < 2147483648) (hm0 : 0 ≤ len1.toInt) (hm1 : len1.toInt ≤ n1) (hn1 : n1 < 2147483648) (g4 : len1.toInt ≤ n) : Met l y_BR_copy w_BR_copy ({ frames := 2, cells := 0, slots := 0, locals := 45 }) (va_Pc [.ref h0, .ref h1] (fun U => U.heap.size = sz ∧ va_P (dC, dI) cls (wz_0 h0 a len a cA n f h1 b len1 b cB n1 f1) U.heap ∧ va_K (dC, dI) cls [(cA, .byte), (cB, .byte)] U ∧ va_D (fun _ => True) (wz_0 h0 a len a cA n f h1 b len1 b cB n1 f1))) (va_Qv (fun (u : Int32 × (Nat → Int32)) => u.1.toInt = len1.toInt ∧ bl u.2 u.1.toNatClampNeg = bl f1 len1.toNatClampNeg) (br_at2 dC dI h0 a h1 b cA cB n n1 len1 f1 (va_A (wz_0 h0 a len a cA n f h1 b len1 b cB n1 f1) sz)) (va_A (wz_0 h0 a len a cA n f h1 b len1 b cB n1 f1) sz)) 0 0 (va_A (wz_0 h0 a len a cA n f h1 b len1 b cB n1 f1) sz) := by
  refine Met.ofW (cc := b_BR_copy) (maxL := 2) (ret := none) (by decide) rfl ?_
  intro p e s m args below meth c s₁ B hml hv
  obtain ⟨rfl, hsz, hP, hK, hD0⟩ := hv
  have hx := B.exec
  have hb := B.bytes
  have hr := B.returns
  have hts0 := atoms_spec (ws := w_BR_copy) B.pre
  have hts : ∀ w ∈ lw_g, w.before _ s = true := fun w h => hts0 w (List.mem_cons_of_mem _ h)
  have hown : s.vm.findClass R_BR = some m.cls := findClass_of_methodNamed B.named
  have hlocks := B.notSynchronized
  clear hts0
  subst hsz
  have hD := hD0.self (sz := s.heap.size)
  generalize hAe : va_A (wz_0 h0 a len a cA n f h1 b len1 b cB n1 f1) s.heap.size = A at hD ⊢
  have hA : ∀ q : Nat, s.heap.size ≤ q → A q := fun q h => by rw [← hAe]; exact Or.inr h
  clear hAe
  have hP : va_P (dC, dI) cls (wz_0 h0 a len a cA n f h1 b len1 b cB n1 f1) s.heap := hP
  have hl := lv_entry ([.ref h0, .ref h1]) (n := 2) (Nat.le_of_ble_eq_true rfl)
  rw [lg_entry_eq]
  generalize (lg_sl ([.ref h0, .ref h1]) ++ List.replicate (2 - (lg_sl ([.ref h0, .ref h1])).length) Slot.unset).toArray = ls at hl ⊢
  have hl : lv_has ls 2 [(0, .ref h0), (1, .ref h1)] := hl
  have k0 : (0 : Int32).toInt = 0 := by decide
  refine w_gen (A := A) hP (fun H locs hP hS => ?_)
  refine lv_aload_n hx hb d_BR_copy_0 rfl (lv_at hl 0 rfl) ?_
  refine lv_iconst (v := 0) hx hb d_BR_copy_1 (by decide) ?_
  have k0 : (0 : Int32).toInt = 0 := by decide
  refine va_put (D := (dC, dI)) (ci := 1) (v := .int 0) (ty := .int) (C := R_BR) (T := F_BR) (N := 2) hx hb hts i_BR t_BR t_BR_ok n_BR hown hK hP hD hS 0 rfl rfl 1 (by decide) (hts _ kF_BR_13) (fun _ h9 => h9) rfl (by decide +kernel) rfl rfl (Nat.le_of_ble_eq_true rfl) d_BR_copy_2 (fun H locs hP hD hS => ?_)
  have hP : va_P (dC, dI) cls (wz_0 h0 a 0 a cA n f h1 b len1 b cB n1 f1) H := hP
  have hD : va_D A (wz_0 h0 a 0 a cA n f h1 b len1 b cB n1 f1) := hD
  refine lv_aload_n hx hb d_BR_copy_5 rfl (lv_at hl 0 rfl) ?_
  refine lv_aload_n hx hb d_BR_copy_6 rfl (lv_at hl 1 rfl) ?_
  refine lv_iconst (v := 0) hx hb d_BR_copy_7 (by decide) ?_
  have k0 : (0 : Int32).toInt = 0 := by decide
  refine lv_aload_n hx hb d_BR_copy_8 rfl (lv_at hl 1 rfl) ?_
  refine va_get (D := (dC, dI)) (ci := 1) (v := .int len1) (C := R_BR) (T := F_BR) (N := 2) hx hb hts i_BR hown hK hP 2 rfl rfl 1 (by decide) (hts _ kF_BR_13) (fun _ h9 => h9) rfl d_BR_copy_9 ?_
  have hPc := hP.sb (wq := (wz_0 h0 a 0 a cA n f h1 b len1 b cB n1 f1)) [0, 1, 2, 3] rfl
  have hDc := hD.sb (wq := (wz_0 h0 a 0 a cA n f h1 b len1 b cB n1 f1)) [0, 1, 2, 3] (by decide) rfl
  have hKc := hK.sb (tyq := [(cA, .byte), (cB, .byte)]) [0, 1] rfl
  have hFc := va_free (wc := (wz_0 h0 a 0 a cA n f h1 b len1 b cB n1 f1)) hD hS hA [0, 1, 2, 3] rfl
  refine va_callv (va_runV (As := [.ref h1, .int 0, .int len1]) (rest := []) ⟨hx, hb, hml, hown, hts⟩ (c_BR_putPart l dC dI h0 a h1 b H.size cA cB n n1 0 len1 f f1 (by (first | (apply Int.le_antisymm <;> omega) | omega)) (by (first | (apply Int.le_antisymm <;> omega) | omega)) (by (first | (apply Int.le_antisymm <;> omega) | omega)) (by (first | (apply Int.le_antisymm <;> omega) | omega)) (by (first | (apply Int.le_antisymm <;> omega) | omega)) (by (first | (apply Int.le_antisymm <;> omega) | omega)) 0 len1 (by (first | (apply Int.le_antisymm <;> omega) | omega)) (by (first | (apply Int.le_antisymm <;> omega) | omega)) (by (first | (apply Int.le_antisymm <;> omega) | omega)) (by (first | (apply Int.le_antisymm <;> omega) | omega))) (cwV 3 hts (gV kM_BR_40 kV_BR_putPart kS_BR_putPart kI_BR kC_BR_putPart) rfl rfl rfl (by decide +kernel) ⟨Nat.le_of_ble_eq_true rfl, Nat.le_of_ble_eq_true rfl⟩) ⟨fun a U g mk z => by obtain ⟨z0, z1, zP, zK, zD⟩ := z; exact ⟨z0, z1, zP, va_K.moved (u := U) (U := U.calling g mk a) (Vm.Alike.refl U.vm) zK, zD⟩, va_recv hKc hPc (ci := 1) (q0 := 0) rfl rfl, fun U hU hW => ⟨rfl, by rw [hU], va_P.he hU.symm hPc, va_K.moved hW.alike hKc, hDc.weaken (fun _ _ _ _ => trivial)⟩⟩ rfl rfl hl.1 rfl (lv_room (Nat.le_of_ble_eq_true rfl)) d_BR_copy_12 ⟨(Nat.zero_le _), (Nat.zero_le _)⟩) hS (fun q _ h => hFc q h) hFc (fun u t H1 locs ht hvm hw hB hz1 hk1 hS => ?_)
  obtain ⟨n2, f3⟩ := u
  try dsimp only at hw
  obtain ⟨tn2, bn2⟩ := hw
  obtain ⟨hP1, hK1, hD1⟩ := hB
  replace hP1 := va_P.he ht hP1
  obtain ⟨hP, hD⟩ := va_join (wr := []) (w1 := (wz_0 h0 a n2 a cA n f3 h1 b len1 b cB n1 f1)) hP hD [0, 1, 2, 3] [] rfl rfl (by decide) (by decide) hk1 hFc hP1 hD1
  clear hPc hDc hKc hFc hz1 hk1 hP1 hK1 hD1
  rename Heap => H
  have hP : va_P (dC, dI) cls (wz_0 h0 a n2 a cA n f3 h1 b len1 b cB n1 f1) H := hP
  have hD : va_D A (wz_0 h0 a n2 a cA n f3 h1 b len1 b cB n1 f1) := hD
  have z2 := i32_clamp (x := len1) (by (first | (apply Int.le_antisymm <;> omega) | omega))
  have hP9 := hP.sb (wq := (wz_0 h0 a n2 a cA n f3 h1 b len1 b cB n1 f1)) [0, 1, 2, 3] rfl
  have hD9 := hD.sb (wq := (wz_0 h0 a n2 a cA n f3 h1 b len1 b cB n1 f1)) [0, 1, 2, 3] (by decide) rfl
  exact W.vret hx hb hr (fun t ht hW => ⟨⟨(n2, f3), rfl, ⟨by dsimp only; (first | (apply Int.le_antisymm <;> omega) | omega), by dsimp only; rw [bn2, show (0 : Int32).toNatClampNeg = 0 from by decide, List.drop_zero, List.take_of_length_le (by rw [bl_len]; exact Nat.le_refl _)]; rfl⟩, va_P.he ht.symm hP9, va_K.moved hW.alike hK, hD9⟩, hS.F ht⟩) hS.2.2 d_BR_copy_15
abbrev b_BR_samePart : ByteArray := prog_3_method_12_code
def y_BR_samePart : MethodName := ⟨R_BR, "samePart", "(III)Z"⟩
abbrev w_BR_samePart : List Cond := .code y_BR_samePart b_BR_samePart 5 (Option.some .boolean) :: lw_g
theorem kC_BR_samePart : Cond.code y_BR_samePart b_BR_samePart 5 (Option.some .boolean) ∈ lw_g := in_c5 133 rfl rfl
theorem d_BR_samePart_0 : decode b_BR_samePart 0 = .ok (.iload_n 1, 1) := bz_c27 (by decide +kernel)
theorem d_BR_samePart_1 : decode b_BR_samePart 1 = .ok (.ifCond .lt 27, 3) := bz_c155 (by decide +kernel)
theorem d_BR_samePart_4 : decode b_BR_samePart 4 = .ok (.iload_n 2, 1) := bz_c28 (by decide +kernel)
theorem d_BR_samePart_5 : decode b_BR_samePart 5 = .ok (.ifCond .lt 23, 3) := bz_c155 (by decide +kernel)
theorem d_BR_samePart_8 : decode b_BR_samePart 8 = .ok (.iload_n 1, 1) := bz_c27 (by decide +kernel)
theorem d_BR_samePart_9 : decode b_BR_samePart 9 = .ok (.aload_n 0, 1) := bz_c42 (by decide +kernel)
theorem d_BR_samePart_10 : decode b_BR_samePart 10 = .ok (.getfield 13, 3) := bz_c180 (by decide +kernel)
theorem d_BR_samePart_13 : decode b_BR_samePart 13 = .ok (.iload_n 3, 1) := bz_c29 (by decide +kernel)
theorem d_BR_samePart_14 : decode b_BR_samePart 14 = .ok (.isub, 1) := bz_c100 (by decide +kernel)
theorem d_BR_samePart_15 : decode b_BR_samePart 15 = .ok (.if_icmp .gt 13, 3) := bz_c163 (by decide +kernel)
theorem d_BR_samePart_18 : decode b_BR_samePart 18 = .ok (.iload_n 2, 1) := bz_c28 (by decide +kernel)
theorem d_BR_samePart_19 : decode b_BR_samePart 19 = .ok (.aload_n 0, 1) := bz_c42 (by decide +kernel)
theorem d_BR_samePart_20 : decode b_BR_samePart 20 = .ok (.getfield 13, 3) := bz_c180 (by decide +kernel)
theorem d_BR_samePart_23 : decode b_BR_samePart 23 = .ok (.iload_n 3, 1) := bz_c29 (by decide +kernel)
theorem d_BR_samePart_24 : decode b_BR_samePart 24 = .ok (.isub, 1) := bz_c100 (by decide +kernel)
theorem d_BR_samePart_25 : decode b_BR_samePart 25 = .ok (.if_icmp .le 5, 3) := bz_c164 (by decide +kernel)
theorem d_BR_samePart_28 : decode b_BR_samePart 28 = .ok (.iconst 0, 1) := bz_c3 (by decide +kernel)
theorem d_BR_samePart_29 : decode b_BR_samePart 29 = .ok (.ireturn, 1) := bz_c172 (by decide +kernel)
theorem d_BR_samePart_30 : decode b_BR_samePart 30 = .ok (.iconst 0, 1) := bz_c3 (by decide +kernel)
theorem d_BR_samePart_31 : decode b_BR_samePart 31 = .ok (.istore 4, 2) := bz_c54 (by decide +kernel)
theorem d_BR_samePart_33 : decode b_BR_samePart 33 = .ok (.iload 4, 2) := bz_c21 (by decide +kernel)
theorem d_BR_samePart_35 : decode b_BR_samePart 35 = .ok (.iload_n 3, 1) := bz_c29 (by decide +kernel)
theorem d_BR_samePart_36 : decode b_BR_samePart 36 = .ok (.if_icmp .ge 32, 3) := bz_c162 (by decide +kernel)
theorem d_BR_samePart_39 : decode b_BR_samePart 39 = .ok (.aload_n 0, 1) := bz_c42 (by decide +kernel)
theorem d_BR_samePart_40 : decode b_BR_samePart 40 = .ok (.getfield 7, 3) := bz_c180 (by decide +kernel)
theorem d_BR_samePart_43 : decode b_BR_samePart 43 = .ok (.iload_n 1, 1) := bz_c27 (by decide +kernel)
theorem d_BR_samePart_44 : decode b_BR_samePart 44 = .ok (.iload 4, 2) := bz_c21 (by decide +kernel)
theorem d_BR_samePart_46 : decode b_BR_samePart 46 = .ok (.iadd, 1) := bz_c96 (by decide +kernel)
theorem d_BR_samePart_47 : decode b_BR_samePart 47 = .ok (.baload, 1) := bz_c51 (by decide +kernel)
theorem d_BR_samePart_48 : decode b_BR_samePart 48 = .ok (.aload_n 0, 1) := bz_c42 (by decide +kernel)
theorem d_BR_samePart_49 : decode b_BR_samePart 49 = .ok (.getfield 7, 3) := bz_c180 (by decide +kernel)
theorem d_BR_samePart_52 : decode b_BR_samePart 52 = .ok (.iload_n 2, 1) := bz_c28 (by decide +kernel)
theorem d_BR_samePart_53 : decode b_BR_samePart 53 = .ok (.iload 4, 2) := bz_c21 (by decide +kernel)
theorem d_BR_samePart_55 : decode b_BR_samePart 55 = .ok (.iadd, 1) := bz_c96 (by decide +kernel)
theorem d_BR_samePart_56 : decode b_BR_samePart 56 = .ok (.baload, 1) := bz_c51 (by decide +kernel)
theorem d_BR_samePart_57 : decode b_BR_samePart 57 = .ok (.if_icmp .eq 5, 3) := bz_c159 (by decide +kernel)
theorem d_BR_samePart_60 : decode b_BR_samePart 60 = .ok (.iconst 0, 1) := bz_c3 (by decide +kernel)
theorem d_BR_samePart_61 : decode b_BR_samePart 61 = .ok (.ireturn, 1) := bz_c172 (by decide +kernel)
theorem d_BR_samePart_62 : decode b_BR_samePart 62 = .ok (.iinc 4 1, 3) := by decide +kernel
theorem d_BR_samePart_65 : decode b_BR_samePart 65 = .ok (.goto (-32), 3) := bz_c167 (by decide +kernel)
theorem d_BR_samePart_68 : decode b_BR_samePart 68 = .ok (.iconst 1, 1) := bz_c4 (by decide +kernel)
theorem d_BR_samePart_69 : decode b_BR_samePart 69 = .ok (.ireturn, 1) := bz_c172 (by decide +kernel)
set_option maxHeartbeats 4000000 in
set_option maxRecDepth 100000 in
theorem c_BR_samePart (l : Launch) (dC : Nat → ClassId) (dI : Nat → Nat → Nat) (h0 a sz : Nat) (cA : ClassId) (n : Nat) (len : Int32) (f : Nat → Int32) (hl0 : 0 ≤ len.toInt) (hl1 : len.toInt ≤ n) (hn : n < 2147483648) (p0 : Int32) (p1 : Int32) (p2 : Int32) (g2 : 0 ≤ p2.toInt) : Met l y_BR_samePart w_BR_samePart ({ frames := 0, cells := 0, slots := 0, locals := 0 }) (va_Pc [.ref h0, .int p0, .int p1, .int p2] (fun U => U.heap.size = sz ∧ va_P (dC, dI) cls [(h0, .inr (1, [.ref a, .int len])), (a, .inl (cA, n, .inl f))] U.heap ∧ va_K (dC, dI) cls [(cA, .byte)] U ∧ va_D (fun _ => True) [(h0, .inr (1, [.ref a, .int len])), (a, .inl (cA, n, .inl f))])) (va_Qi (fun (r : Int32) (u : Int32 × (Nat → Int32)) => (r = 0 ∨ r = 1) ∧ u = (len, f)) (br_at dC dI h0 a cA n (va_A [(h0, .inr (1, [.ref a, .int len])), (a, .inl (cA, n, .inl f))] sz)) (va_A [(h0, .inr (1, [.ref a, .int len])), (a, .inl (cA, n, .inl f))] sz)) 0 0 (va_A [(h0, .inr (1, [.ref a, .int len])), (a, .inl (cA, n, .inl f))] sz) := by
  refine Met.ofW (cc := b_BR_samePart) (maxL := 5) (ret := (Option.some .boolean)) (by decide) rfl ?_
  intro p e s m args below meth c s₁ B hml hv
  obtain ⟨rfl, hsz, hP, hK, hD0⟩ := hv
  have hx := B.exec
  have hb := B.bytes
  have hr := B.returns
  have hts0 := atoms_spec (ws := w_BR_samePart) B.pre
  have hts : ∀ w ∈ lw_g, w.before _ s = true := fun w h => hts0 w (List.mem_cons_of_mem _ h)
  have hown : s.vm.findClass R_BR = some m.cls := findClass_of_methodNamed B.named
  have hlocks := B.notSynchronized
  clear hts0
  subst hsz
  have hD := hD0.self (sz := s.heap.size)
  generalize hAe : va_A [(h0, .inr (1, [.ref a, .int len])), (a, .inl (cA, n, .inl f))] s.heap.size = A at hD ⊢
  have hA : ∀ q : Nat, s.heap.size ≤ q → A q := fun q h => by rw [← hAe]; exact Or.inr h
  clear hAe
  have hP : va_P (dC, dI) cls [(h0, .inr (1, [.ref a, .int len])), (a, .inl (cA, n, .inl f))] s.heap := hP
  have hl := lv_entry ([.ref h0, .int p0, .int p1, .int p2]) (n := 5) (Nat.le_of_ble_eq_true rfl)
  rw [lg_entry_eq]
  generalize (lg_sl ([.ref h0, .int p0, .int p1, .int p2]) ++ List.replicate (5 - (lg_sl ([.ref h0, .int p0, .int p1, .int p2])).length) Slot.unset).toArray = ls at hl ⊢
  have hl : lv_has ls 5 [(0, .ref h0), (1, .int p0), (2, .int p1), (3, .int p2)] := hl
  have k0 : (0 : Int32).toInt = 0 := by decide
  refine w_gen (A := A) hP (fun H locs hP hS => ?_)
  have lo_p0 := i32_lo p0
  have hi_p0 := i32_hi p0
  have lo_p1 := i32_lo p1
  have hi_p1 := i32_hi p1
  have lo_p2 := i32_lo p2
  have hi_p2 := i32_hi p2
  refine lv_iload_n hx hb d_BR_samePart_0 rfl (lv_at hl 1 rfl) ?_
  refine lv_if_lt (tgt := 28) hx hb d_BR_samePart_1 (by decide) (fun c1 => ?_) (fun c1 => ?_)
  · have q1 := ltI c1
    refine lv_iconst (v := 0) hx hb d_BR_samePart_28 (by decide) ?_
    have k0 : (0 : Int32).toInt = 0 := by decide
    have hP9 := hP.sb (wq := [(h0, .inr (1, [.ref a, .int len])), (a, .inl (cA, n, .inl f))]) [0, 1] rfl
    have hD9 := hD.sb (wq := [(h0, .inr (1, [.ref a, .int len])), (a, .inl (cA, n, .inl f))]) [0, 1] (by decide) rfl
    exact W.zret (v := 0) hx hb hr (zn01 (by first | exact Or.inl rfl | exact Or.inr rfl | exact hr0)) (fun t ht hW => ⟨⟨0, (len, f), rfl, ⟨by first | exact Or.inl rfl | exact Or.inr rfl, rfl⟩, va_P.he ht.symm hP9, va_K.moved hW.alike hK, hD9⟩, hS.F ht⟩) hS.2.2 d_BR_samePart_29
  · have q1 := nltI c1
    refine lv_iload_n hx hb d_BR_samePart_4 rfl (lv_at hl 2 rfl) ?_
    refine lv_if_lt (tgt := 28) hx hb d_BR_samePart_5 (by decide) (fun c5 => ?_) (fun c5 => ?_)
    · have q5 := ltI c5
      refine lv_iconst (v := 0) hx hb d_BR_samePart_28 (by decide) ?_
      have k0 : (0 : Int32).toInt = 0 := by decide
      have hP9 := hP.sb (wq := [(h0, .inr (1, [.ref a, .int len])), (a, .inl (cA, n, .inl f))]) [0, 1] rfl
      have hD9 := hD.sb (wq := [(h0, .inr (1, [.ref a, .int len])), (a, .inl (cA, n, .inl f))]) [0, 1] (by decide) rfl
      exact W.zret (v := 0) hx hb hr (zn01 (by first | exact Or.inl rfl | exact Or.inr rfl | exact hr0)) (fun t ht hW => ⟨⟨0, (len, f), rfl, ⟨by first | exact Or.inl rfl | exact Or.inr rfl, rfl⟩, va_P.he ht.symm hP9, va_K.moved hW.alike hK, hD9⟩, hS.F ht⟩) hS.2.2 d_BR_samePart_29
    · have q5 := nltI c5
      refine lv_iload_n hx hb d_BR_samePart_8 rfl (lv_at hl 1 rfl) ?_
      refine lv_aload_n hx hb d_BR_samePart_9 rfl (lv_at hl 0 rfl) ?_
      refine va_get (D := (dC, dI)) (ci := 1) (v := .int len) (C := R_BR) (T := F_BR) (N := 2) hx hb hts i_BR hown hK hP 0 rfl rfl 1 (by decide) (hts _ kF_BR_13) (fun _ h9 => h9) rfl d_BR_samePart_10 ?_
      refine lv_iload_n hx hb d_BR_samePart_13 rfl (lv_at hl 3 rfl) ?_
      refine lv_isub hx hb d_BR_samePart_14 ?_
      refine lv_topi (fun x1 ex1 => ?_)
      have tx1 : x1.toInt = len.toInt - p2.toInt := by have z := i32_sub ex1 (by (first | (apply Int.le_antisymm <;> omega) | omega)) (by (first | (apply Int.le_antisymm <;> omega) | omega)); first | exact z | (first | (apply Int.le_antisymm <;> omega) | omega)
      refine lv_icmp_gt (tgt := 28) hx hb d_BR_samePart_15 (by decide) (fun c15 => ?_) (fun c15 => ?_)
      · have q15 := ltI c15
        refine lv_iconst (v := 0) hx hb d_BR_samePart_28 (by decide) ?_
        have k0 : (0 : Int32).toInt = 0 := by decide
        have hP9 := hP.sb (wq := [(h0, .inr (1, [.ref a, .int len])), (a, .inl (cA, n, .inl f))]) [0, 1] rfl
        have hD9 := hD.sb (wq := [(h0, .inr (1, [.ref a, .int len])), (a, .inl (cA, n, .inl f))]) [0, 1] (by decide) rfl
        exact W.zret (v := 0) hx hb hr (zn01 (by first | exact Or.inl rfl | exact Or.inr rfl | exact hr0)) (fun t ht hW => ⟨⟨0, (len, f), rfl, ⟨by first | exact Or.inl rfl | exact Or.inr rfl, rfl⟩, va_P.he ht.symm hP9, va_K.moved hW.alike hK, hD9⟩, hS.F ht⟩) hS.2.2 d_BR_samePart_29
      · have q15 := nltI c15
        refine lv_iload_n hx hb d_BR_samePart_18 rfl (lv_at hl 2 rfl) ?_
        refine lv_aload_n hx hb d_BR_samePart_19 rfl (lv_at hl 0 rfl) ?_
        refine va_get (D := (dC, dI)) (ci := 1) (v := .int len) (C := R_BR) (T := F_BR) (N := 2) hx hb hts i_BR hown hK hP 0 rfl rfl 1 (by decide) (hts _ kF_BR_13) (fun _ h9 => h9) rfl d_BR_samePart_20 ?_
        refine lv_iload_n hx hb d_BR_samePart_23 rfl (lv_at hl 3 rfl) ?_
        refine lv_isub hx hb d_BR_samePart_24 ?_
        refine lv_topi (fun x2 ex2 => ?_)
        have tx2 : x2.toInt = len.toInt - p2.toInt := by have z := i32_sub ex2 (by (first | (apply Int.le_antisymm <;> omega) | omega)) (by (first | (apply Int.le_antisymm <;> omega) | omega)); first | exact z | (first | (apply Int.le_antisymm <;> omega) | omega)
        refine lv_icmp_le (tgt := 30) hx hb d_BR_samePart_25 (by decide) (fun c25 => ?_) (fun c25 => ?_)
        · have q25 := leI c25
          refine lv_iconst (v := 0) hx hb d_BR_samePart_30 (by decide) ?_
          refine lv_topi (fun x3 ex3 => ?_)
          have tx3 : x3.toInt = 0 := by rw [ex3]; decide
          refine lv_istore (lv' := [(4, .int x3), (0, .ref h0), (1, .int p0), (2, .int p1), (3, .int p2)]) hx hb d_BR_samePart_31 hl (by decide) rfl (fun ls hl => ?_)
          refine w_loop (σ := Int32) (fun u H locs ls => match u with | i => (0 ≤ i.toInt ∧ i.toInt ≤ p2.toInt) ∧ va_P (dC, dI) cls [(h0, .inr (1, [.ref a, .int len])), (a, .inl (cA, n, .inl f))] H ∧ va_D A [(h0, .inr (1, [.ref a, .int len])), (a, .inl (cA, n, .inl f))] ∧ va_S A s.heap H locs ∧ lv_has ls 5 [(4, .int i), (0, .ref h0), (1, .int p0), (2, .int p1), (3, .int p2)]) (fun u => match u with | i => (p2.toInt - i.toInt).toNat) ?_ (x3) ⟨by (first | (apply Int.le_antisymm <;> omega) | omega), hP, hD, hS, lv_sub hl [0, 1, 2, 3, 4] rfl⟩
          intro N ih u H locs ls hN hI
          obtain ⟨i, rfl⟩ : ∃ z, z = u := ⟨_, rfl⟩
          obtain ⟨v1, hP, hD, hS, hl⟩ := hI
          have hN : (p2.toInt - i.toInt).toNat < N + 1 := hN
          refine lv_iload hx hb d_BR_samePart_33 (lv_at hl 0 rfl) ?_
          refine lv_iload_n hx hb d_BR_samePart_35 rfl (lv_at hl 4 rfl) ?_
          refine lv_icmp_ge (tgt := 68) hx hb d_BR_samePart_36 (by decide) (fun c36 => ?_) (fun c36 => ?_)
          · have q36 := leI c36
            refine lv_iconst (v := 1) hx hb d_BR_samePart_68 (by decide) ?_
            have k1 : (1 : Int32).toInt = 1 := by decide
            have hP9 := hP.sb (wq := [(h0, .inr (1, [.ref a, .int len])), (a, .inl (cA, n, .inl f))]) [0, 1] rfl
            have hD9 := hD.sb (wq := [(h0, .inr (1, [.ref a, .int len])), (a, .inl (cA, n, .inl f))]) [0, 1] (by decide) rfl
            exact W.zret (v := 1) hx hb hr (zn01 (by first | exact Or.inl rfl | exact Or.inr rfl | exact hr1)) (fun t ht hW => ⟨⟨1, (len, f), rfl, ⟨by first | exact Or.inl rfl | exact Or.inr rfl, rfl⟩, va_P.he ht.symm hP9, va_K.moved hW.alike hK, hD9⟩, hS.F ht⟩) hS.2.2 d_BR_samePart_69
          · have q36 := nleI c36
            refine lv_aload_n hx hb d_BR_samePart_39 rfl (lv_at hl 1 rfl) ?_
            refine va_get (D := (dC, dI)) (ci := 1) (v := .ref a) (C := R_BR) (T := F_BR) (N := 2) hx hb hts i_BR hown hK hP 0 rfl rfl 0 (by decide) (hts _ kF_BR_7) (fun _ h9 => h9) rfl d_BR_samePart_40 ?_
            refine lv_iload_n hx hb d_BR_samePart_43 rfl (lv_at hl 2 rfl) ?_
            refine lv_iload hx hb d_BR_samePart_44 (lv_at hl 0 rfl) ?_
            refine lv_iadd hx hb d_BR_samePart_46 ?_
            refine lv_topi (fun x4 ex4 => ?_)
            have tx4 : x4.toInt = p0.toInt + i.toInt := by have z := i32_add ex4 (by (first | (apply Int.le_antisymm <;> omega) | omega)) (by (first | (apply Int.le_antisymm <;> omega) | omega)); first | exact z | (first | (apply Int.le_antisymm <;> omega) | omega)
            have g47 : vp_in x4 n := vp_in_iff.mpr ⟨by (first | (apply Int.le_antisymm <;> omega) | omega), by (first | (apply Int.le_antisymm <;> omega) | omega)⟩
            refine va_bald hx hb hK hP 1 0 rfl rfl g47 d_BR_samePart_47 ?_
            refine lv_topi (fun x5 ex5 => ?_)
            refine lv_aload_n hx hb d_BR_samePart_48 rfl (lv_at hl 1 rfl) ?_
            refine va_get (D := (dC, dI)) (ci := 1) (v := .ref a) (C := R_BR) (T := F_BR) (N := 2) hx hb hts i_BR hown hK hP 0 rfl rfl 0 (by decide) (hts _ kF_BR_7) (fun _ h9 => h9) rfl d_BR_samePart_49 ?_
            refine lv_iload_n hx hb d_BR_samePart_52 rfl (lv_at hl 3 rfl) ?_
            refine lv_iload hx hb d_BR_samePart_53 (lv_at hl 0 rfl) ?_
            refine lv_iadd hx hb d_BR_samePart_55 ?_
            refine lv_topi (fun x6 ex6 => ?_)
            have tx6 : x6.toInt = p1.toInt + i.toInt := by have z := i32_add ex6 (by (first | (apply Int.le_antisymm <;> omega) | omega)) (by (first | (apply Int.le_antisymm <;> omega) | omega)); first | exact z | (first | (apply Int.le_antisymm <;> omega) | omega)
            have g56 : vp_in x6 n := vp_in_iff.mpr ⟨by (first | (apply Int.le_antisymm <;> omega) | omega), by (first | (apply Int.le_antisymm <;> omega) | omega)⟩
            refine va_bald hx hb hK hP 1 0 rfl rfl g56 d_BR_samePart_56 ?_
            refine lv_topi (fun x7 ex7 => ?_)
            refine lv_icmp_eq (tgt := 62) hx hb d_BR_samePart_57 (by decide) (fun c57 => ?_) (fun c57 => ?_)
            · have q57 := eqI c57
              obtain ⟨x8, ex8⟩ : ∃ z : Int32, z = i + 1 := ⟨_, rfl⟩
              have k1 : (1 : Int32).toInt = 1 := by decide
              have tx8 : x8.toInt = i.toInt + 1 := by have z := i32_add ex8 (by (first | (apply Int.le_antisymm <;> omega) | omega)) (by (first | (apply Int.le_antisymm <;> omega) | omega)); first | exact z | (first | (apply Int.le_antisymm <;> omega) | omega)
              refine lv_iinc (v := x8) (lv' := [(4, .int x8), (0, .ref h0), (1, .int p0), (2, .int p1), (3, .int p2)]) hx hb d_BR_samePart_62 hl (k := 0) rfl (by rw [ex8]; rfl) (by decide) rfl (fun ls hl => ?_)
              refine lv_goto (tgt := 33) hx hb d_BR_samePart_65 (by decide) ?_
              skip
              exact ih (x8) _ _ _ (by show (p2.toInt - x8.toInt).toNat < N; (first | (apply Int.le_antisymm <;> omega) | omega)) ⟨by (first | (apply Int.le_antisymm <;> omega) | omega), hP, hD, hS, lv_sub hl [0, 1, 2, 3, 4] rfl⟩
            · have q57 := neI c57
              refine lv_iconst (v := 0) hx hb d_BR_samePart_60 (by decide) ?_
              have k0 : (0 : Int32).toInt = 0 := by decide
              have hP9 := hP.sb (wq := [(h0, .inr (1, [.ref a, .int len])), (a, .inl (cA, n, .inl f))]) [0, 1] rfl
              have hD9 := hD.sb (wq := [(h0, .inr (1, [.ref a, .int len])), (a, .inl (cA, n, .inl f))]) [0, 1] (by decide) rfl
              exact W.zret (v := 0) hx hb hr (zn01 (by first | exact Or.inl rfl | exact Or.inr rfl | exact hr0)) (fun t ht hW => ⟨⟨0, (len, f), rfl, ⟨by first | exact Or.inl rfl | exact Or.inr rfl, rfl⟩, va_P.he ht.symm hP9, va_K.moved hW.alike hK, hD9⟩, hS.F ht⟩) hS.2.2 d_BR_samePart_61
        · have q25 := nleI c25
          refine lv_iconst (v := 0) hx hb d_BR_samePart_28 (by decide) ?_
          have k0 : (0 : Int32).toInt = 0 := by decide
          have hP9 := hP.sb (wq := [(h0, .inr (1, [.ref a, .int len])), (a, .inl (cA, n, .inl f))]) [0, 1] rfl
          have hD9 := hD.sb (wq := [(h0, .inr (1, [.ref a, .int len])), (a, .inl (cA, n, .inl f))]) [0, 1] (by decide) rfl
          exact W.zret (v := 0) hx hb hr (zn01 (by first | exact Or.inl rfl | exact Or.inr rfl | exact hr0)) (fun t ht hW => ⟨⟨0, (len, f), rfl, ⟨by first | exact Or.inl rfl | exact Or.inr rfl, rfl⟩, va_P.he ht.symm hP9, va_K.moved hW.alike hK, hD9⟩, hS.F ht⟩) hS.2.2 d_BR_samePart_29
abbrev b_BR_change : ByteArray := prog_3_method_4_code
def y_BR_change : MethodName := ⟨R_BR, "change", "(II)V"⟩
abbrev w_BR_change : List Cond := .code y_BR_change b_BR_change 3 none :: lw_g
theorem kC_BR_change : Cond.code y_BR_change b_BR_change 3 none ∈ lw_g := in_c5 193 rfl rfl
theorem d_BR_change_0 : decode b_BR_change 0 = .ok (.iload_n 1, 1) := bz_c27 (by decide +kernel)
theorem d_BR_change_1 : decode b_BR_change 1 = .ok (.ifCond .lt 19, 3) := bz_c155 (by decide +kernel)
theorem d_BR_change_4 : decode b_BR_change 4 = .ok (.iload_n 1, 1) := bz_c27 (by decide +kernel)
theorem d_BR_change_5 : decode b_BR_change 5 = .ok (.aload_n 0, 1) := bz_c42 (by decide +kernel)
theorem d_BR_change_6 : decode b_BR_change 6 = .ok (.getfield 13, 3) := bz_c180 (by decide +kernel)
theorem d_BR_change_9 : decode b_BR_change 9 = .ok (.if_icmp .ge 11, 3) := bz_c162 (by decide +kernel)
theorem d_BR_change_12 : decode b_BR_change 12 = .ok (.aload_n 0, 1) := bz_c42 (by decide +kernel)
theorem d_BR_change_13 : decode b_BR_change 13 = .ok (.getfield 7, 3) := bz_c180 (by decide +kernel)
theorem d_BR_change_16 : decode b_BR_change 16 = .ok (.iload_n 1, 1) := bz_c27 (by decide +kernel)
theorem d_BR_change_17 : decode b_BR_change 17 = .ok (.iload_n 2, 1) := bz_c28 (by decide +kernel)
theorem d_BR_change_18 : decode b_BR_change 18 = .ok (.i2b, 1) := by decide +kernel
theorem d_BR_change_19 : decode b_BR_change 19 = .ok (.bastore, 1) := bz_c84 (by decide +kernel)
theorem d_BR_change_20 : decode b_BR_change 20 = .ok (.return_, 1) := bz_c177 (by decide +kernel)
set_option maxHeartbeats 4000000 in
set_option maxRecDepth 100000 in
theorem c_BR_change (l : Launch) (dC : Nat → ClassId) (dI : Nat → Nat → Nat) (h0 a sz : Nat) (cA : ClassId) (n : Nat) (len : Int32) (f : Nat → Int32) (hl0 : 0 ≤ len.toInt) (hl1 : len.toInt ≤ n) (hn : n < 2147483648) (p0 : Int32) (p1 : Int32) : Met l y_BR_change w_BR_change ({ frames := 0, cells := 0, slots := 0, locals := 0 }) (va_Pc [.ref h0, .int p0, .int p1] (fun U => U.heap.size = sz ∧ va_P (dC, dI) cls [(h0, .inr (1, [.ref a, .int len])), (a, .inl (cA, n, .inl f))] U.heap ∧ va_K (dC, dI) cls [(cA, .byte)] U ∧ va_D (fun _ => True) [(h0, .inr (1, [.ref a, .int len])), (a, .inl (cA, n, .inl f))])) (va_Qv (fun (u : Int32 × (Nat → Int32)) => u.1 = len ∧ (0 ≤ p0.toInt → p0.toInt < len.toInt → u.2 = upd f p0.toNatClampNeg p1.toInt8.toInt32) ∧ ((p0.toInt < 0 ∨ len.toInt ≤ p0.toInt) → u.2 = f)) (br_at dC dI h0 a cA n (va_A [(h0, .inr (1, [.ref a, .int len])), (a, .inl (cA, n, .inl f))] sz)) (va_A [(h0, .inr (1, [.ref a, .int len])), (a, .inl (cA, n, .inl f))] sz)) 0 0 (va_A [(h0, .inr (1, [.ref a, .int len])), (a, .inl (cA, n, .inl f))] sz) := by
  refine Met.ofW (cc := b_BR_change) (maxL := 3) (ret := none) (by decide) rfl ?_
  intro p e s m args below meth c s₁ B hml hv
  obtain ⟨rfl, hsz, hP, hK, hD0⟩ := hv
  have hx := B.exec
  have hb := B.bytes
  have hr := B.returns
  have hts0 := atoms_spec (ws := w_BR_change) B.pre
  have hts : ∀ w ∈ lw_g, w.before _ s = true := fun w h => hts0 w (List.mem_cons_of_mem _ h)
  have hown : s.vm.findClass R_BR = some m.cls := findClass_of_methodNamed B.named
  have hlocks := B.notSynchronized
  clear hts0
  subst hsz
  have hD := hD0.self (sz := s.heap.size)
  generalize hAe : va_A [(h0, .inr (1, [.ref a, .int len])), (a, .inl (cA, n, .inl f))] s.heap.size = A at hD ⊢
  have hA : ∀ q : Nat, s.heap.size ≤ q → A q := fun q h => by rw [← hAe]; exact Or.inr h
  clear hAe
  have hP : va_P (dC, dI) cls [(h0, .inr (1, [.ref a, .int len])), (a, .inl (cA, n, .inl f))] s.heap := hP
  have hl := lv_entry ([.ref h0, .int p0, .int p1]) (n := 3) (Nat.le_of_ble_eq_true rfl)
  rw [lg_entry_eq]
  generalize (lg_sl ([.ref h0, .int p0, .int p1]) ++ List.replicate (3 - (lg_sl ([.ref h0, .int p0, .int p1])).length) Slot.unset).toArray = ls at hl ⊢
  have hl : lv_has ls 3 [(0, .ref h0), (1, .int p0), (2, .int p1)] := hl
  have k0 : (0 : Int32).toInt = 0 := by decide
  refine w_gen (A := A) hP (fun H locs hP hS => ?_)
  have lo_p0 := i32_lo p0
  have hi_p0 := i32_hi p0
  have lo_p1 := i32_lo p1
  have hi_p1 := i32_hi p1
  refine lv_iload_n hx hb d_BR_change_0 rfl (lv_at hl 1 rfl) ?_
  refine lv_if_lt (tgt := 20) hx hb d_BR_change_1 (by decide) (fun c1 => ?_) (fun c1 => ?_)
  · have q1 := ltI c1
    have hP9 := hP.sb (wq := [(h0, .inr (1, [.ref a, .int len])), (a, .inl (cA, n, .inl f))]) [0, 1] rfl
    have hD9 := hD.sb (wq := [(h0, .inr (1, [.ref a, .int len])), (a, .inl (cA, n, .inl f))]) [0, 1] (by decide) rfl
    exact W.vret hx hb hr (fun t ht hW => ⟨⟨(len, f), rfl, ⟨rfl, fun z1 z2 => absurd z1 (by (first | (apply Int.le_antisymm <;> omega) | omega)), fun z => rfl⟩, va_P.he ht.symm hP9, va_K.moved hW.alike hK, hD9⟩, hS.F ht⟩) hS.2.2 d_BR_change_20
  · have q1 := nltI c1
    refine lv_iload_n hx hb d_BR_change_4 rfl (lv_at hl 1 rfl) ?_
    refine lv_aload_n hx hb d_BR_change_5 rfl (lv_at hl 0 rfl) ?_
    refine va_get (D := (dC, dI)) (ci := 1) (v := .int len) (C := R_BR) (T := F_BR) (N := 2) hx hb hts i_BR hown hK hP 0 rfl rfl 1 (by decide) (hts _ kF_BR_13) (fun _ h9 => h9) rfl d_BR_change_6 ?_
    refine lv_icmp_ge (tgt := 20) hx hb d_BR_change_9 (by decide) (fun c9 => ?_) (fun c9 => ?_)
    · have q9 := leI c9
      have hP9 := hP.sb (wq := [(h0, .inr (1, [.ref a, .int len])), (a, .inl (cA, n, .inl f))]) [0, 1] rfl
      have hD9 := hD.sb (wq := [(h0, .inr (1, [.ref a, .int len])), (a, .inl (cA, n, .inl f))]) [0, 1] (by decide) rfl
      exact W.vret hx hb hr (fun t ht hW => ⟨⟨(len, f), rfl, ⟨rfl, fun z1 z2 => absurd z1 (by (first | (apply Int.le_antisymm <;> omega) | omega)), fun z => rfl⟩, va_P.he ht.symm hP9, va_K.moved hW.alike hK, hD9⟩, hS.F ht⟩) hS.2.2 d_BR_change_20
    · have q9 := nleI c9
      refine lv_aload_n hx hb d_BR_change_12 rfl (lv_at hl 0 rfl) ?_
      refine va_get (D := (dC, dI)) (ci := 1) (v := .ref a) (C := R_BR) (T := F_BR) (N := 2) hx hb hts i_BR hown hK hP 0 rfl rfl 0 (by decide) (hts _ kF_BR_7) (fun _ h9 => h9) rfl d_BR_change_13 ?_
      refine lv_iload_n hx hb d_BR_change_16 rfl (lv_at hl 1 rfl) ?_
      refine lv_iload_n hx hb d_BR_change_17 rfl (lv_at hl 2 rfl) ?_
      refine lv_i2b hx hb d_BR_change_18 rfl ?_
      refine lv_topi (fun x1 ex1 => ?_)
      have g19 : vp_in p0 n := vp_in_iff.mpr ⟨by (first | (apply Int.le_antisymm <;> omega) | omega), by (first | (apply Int.le_antisymm <;> omega) | omega)⟩
      refine va_bast hx hb hK hP hD hS 1 0 rfl rfl g19 d_BR_change_19 (fun H locs hP hD hS => ?_)
      have hP : va_P (dC, dI) cls [(h0, .inr (1, [.ref a, .int len])), (a, .inl (cA, n, .inl (upd f p0.toNatClampNeg (vp_nar .byte x1))))] H := hP
      have hD : va_D A [(h0, .inr (1, [.ref a, .int len])), (a, .inl (cA, n, .inl (upd f p0.toNatClampNeg (vp_nar .byte x1))))] := hD
      generalize ef2 : upd f p0.toNatClampNeg (vp_nar .byte x1) = f2 at hP hD
      have hP9 := hP.sb (wq := [(h0, .inr (1, [.ref a, .int len])), (a, .inl (cA, n, .inl f2))]) [0, 1] rfl
      have hD9 := hD.sb (wq := [(h0, .inr (1, [.ref a, .int len])), (a, .inl (cA, n, .inl f2))]) [0, 1] (by decide) rfl
      exact W.vret hx hb hr (fun t ht hW => ⟨⟨(len, f2), rfl, ⟨rfl, fun z1 z2 => by dsimp only; rw [← ef2, ex1, pk_vb], fun z => absurd z (by (first | (apply Int.le_antisymm <;> omega) | omega))⟩, va_P.he ht.symm hP9, va_K.moved hW.alike hK, hD9⟩, hS.F ht⟩) hS.2.2 d_BR_change_20
end q_04
section q_05
/-! Codes: what its functions of an op say -/
abbrev no_at (dC : Nat → ClassId) (dI : Nat → Nat → Nat) (A : Nat → Prop) (u : Unit) (t : State) : Prop := va_P (dC, dI) cls [] t.heap ∧ va_K (dC, dI) cls [] t ∧ va_D A []
abbrev b_CD_accessBytes : ByteArray := prog_5_method_3_code
def y_CD_accessBytes : MethodName := ⟨R_CD, "accessBytes", "(I)I"⟩
abbrev w_CD_accessBytes : List Cond := .code y_CD_accessBytes b_CD_accessBytes 1 (Option.some .int) :: lw_g
theorem kC_CD_accessBytes : Cond.code y_CD_accessBytes b_CD_accessBytes 1 (Option.some .int) ∈ lw_g := in_c5 217 rfl rfl
theorem d_CD_accessBytes_0 : decode b_CD_accessBytes 0 = .ok (.iload_n 0, 1) := bz_c26 (by decide +kernel)
theorem d_CD_accessBytes_1 : decode b_CD_accessBytes 1 = .ok (.tableswitch 98 40 58 #[93, 95, 98, 98, 91, 91, 98, 98, 98, 98, 98, 98, 98, 98, 93, 95, 98, 98, 91], 91) := by decide +kernel
theorem d_CD_accessBytes_92 : decode b_CD_accessBytes 92 = .ok (.iconst 1, 1) := bz_c4 (by decide +kernel)
theorem d_CD_accessBytes_93 : decode b_CD_accessBytes 93 = .ok (.ireturn, 1) := bz_c172 (by decide +kernel)
theorem d_CD_accessBytes_94 : decode b_CD_accessBytes 94 = .ok (.iconst 4, 1) := bz_c7 (by decide +kernel)
theorem d_CD_accessBytes_95 : decode b_CD_accessBytes 95 = .ok (.ireturn, 1) := bz_c172 (by decide +kernel)
theorem d_CD_accessBytes_96 : decode b_CD_accessBytes 96 = .ok (.bipush 8, 2) := bz_c16 (by decide +kernel)
theorem d_CD_accessBytes_98 : decode b_CD_accessBytes 98 = .ok (.ireturn, 1) := bz_c172 (by decide +kernel)
theorem d_CD_accessBytes_99 : decode b_CD_accessBytes 99 = .ok (.iconst 0, 1) := bz_c3 (by decide +kernel)
theorem d_CD_accessBytes_100 : decode b_CD_accessBytes 100 = .ok (.ireturn, 1) := bz_c172 (by decide +kernel)
set_option maxHeartbeats 4000000 in
set_option maxRecDepth 100000 in
theorem c_CD_accessBytes (l : Launch) (dC : Nat → ClassId) (dI : Nat → Nat → Nat) (sz : Nat) (p0 : Int32) : Met l y_CD_accessBytes w_CD_accessBytes ({ frames := 0, cells := 0, slots := 0, locals := 0 }) (va_Pc [.int p0] (fun U => U.heap.size = sz ∧ va_P (dC, dI) cls [] U.heap ∧ va_K (dC, dI) cls [] U ∧ va_D (fun _ => True) [])) (va_Qi (fun (r : Int32) (_ : Unit) => (r.toInt = 0 ∨ r.toInt = 1 ∨ r.toInt = 4 ∨ r.toInt = 8) ∧ (r.toInt = 1 ↔ p0.toInt = 44 ∨ p0.toInt = 45 ∨ p0.toInt = 58) ∧ (r.toInt = 4 ↔ p0.toInt = 40 ∨ p0.toInt = 54) ∧ (r.toInt = 8 ↔ p0.toInt = 41 ∨ p0.toInt = 55)) (no_at dC dI (va_A [] sz)) (va_A [] sz)) 0 0 (va_A [] sz) := by
  refine Met.ofW (cc := b_CD_accessBytes) (maxL := 1) (ret := (Option.some .int)) (by decide) rfl ?_
  intro p e s m args below meth c s₁ B hml hv
  obtain ⟨rfl, hsz, hP, hK, hD0⟩ := hv
  have hx := B.exec
  have hb := B.bytes
  have hr := B.returns
  have hts0 := atoms_spec (ws := w_CD_accessBytes) B.pre
  have hts : ∀ w ∈ lw_g, w.before _ s = true := fun w h => hts0 w (List.mem_cons_of_mem _ h)
  have hown : s.vm.findClass R_CD = some m.cls := findClass_of_methodNamed B.named
  have hlocks := B.notSynchronized
  clear hts0
  subst hsz
  have hD := hD0.self (sz := s.heap.size)
  generalize hAe : va_A [] s.heap.size = A at hD ⊢
  have hA : ∀ q : Nat, s.heap.size ≤ q → A q := fun q h => by rw [← hAe]; exact Or.inr h
  clear hAe
  have hP : va_P (dC, dI) cls [] s.heap := hP
  have hl := lv_entry ([.int p0]) (n := 1) (Nat.le_of_ble_eq_true rfl)
  rw [lg_entry_eq]
  generalize (lg_sl ([.int p0]) ++ List.replicate (1 - (lg_sl ([.int p0])).length) Slot.unset).toArray = ls at hl ⊢
  have hl : lv_has ls 1 [(0, .int p0)] := hl
  have k0 : (0 : Int32).toInt = 0 := by decide
  refine w_gen (A := A) hP (fun H locs hP hS => ?_)
  have lo_p0 := i32_lo p0
  have hi_p0 := i32_hi p0
  refine lv_iload_n hx hb d_CD_accessBytes_0 rfl (lv_at hl 0 rfl) ?_
  by_cases g1_94 : p0.toInt = 40 ∨ p0.toInt = 54
  · have ho1 : tab_off 98 40 58 #[93, 95, 98, 98, 91, 91, 98, 98, 98, 98, 98, 98, 98, 98, 93, 95, 98, 98, 91] p0.toInt = 93 := by rcases g1_94 with z | z <;> (rw [z]; rfl)
    refine lv_tab (tgt := 94) hx hb d_CD_accessBytes_1 (by decide) ho1 (by decide) ?_
    refine lv_iconst (v := 4) hx hb d_CD_accessBytes_94 (by decide) ?_
    have k4 : (4 : Int32).toInt = 4 := by decide
    have hP9 := hP.sb (wq := []) [] rfl
    have hD9 := hD.sb (wq := []) [] (by decide) rfl
    exact W.iret (v := 4) hx hb hr (fun t ht hW => ⟨⟨4, (), rfl, (by (try dsimp only); (first | (apply Int.le_antisymm <;> omega) | omega)), va_P.he ht.symm hP9, va_K.moved hW.alike hK, hD9⟩, hS.F ht⟩) hS.2.2 d_CD_accessBytes_95
  · skip
    by_cases g1_96 : p0.toInt = 41 ∨ p0.toInt = 55
    · have ho1 : tab_off 98 40 58 #[93, 95, 98, 98, 91, 91, 98, 98, 98, 98, 98, 98, 98, 98, 93, 95, 98, 98, 91] p0.toInt = 95 := by rcases g1_96 with z | z <;> (rw [z]; rfl)
      refine lv_tab (tgt := 96) hx hb d_CD_accessBytes_1 (by decide) ho1 (by decide) ?_
      refine lv_bipush (v := 8) hx hb d_CD_accessBytes_96 (by decide) ?_
      have k8 : (8 : Int32).toInt = 8 := by decide
      have hP9 := hP.sb (wq := []) [] rfl
      have hD9 := hD.sb (wq := []) [] (by decide) rfl
      exact W.iret (v := 8) hx hb hr (fun t ht hW => ⟨⟨8, (), rfl, (by (try dsimp only); (first | (apply Int.le_antisymm <;> omega) | omega)), va_P.he ht.symm hP9, va_K.moved hW.alike hK, hD9⟩, hS.F ht⟩) hS.2.2 d_CD_accessBytes_98
    · skip
      by_cases g1_92 : p0.toInt = 44 ∨ p0.toInt = 45 ∨ p0.toInt = 58
      · have ho1 : tab_off 98 40 58 #[93, 95, 98, 98, 91, 91, 98, 98, 98, 98, 98, 98, 98, 98, 93, 95, 98, 98, 91] p0.toInt = 91 := by rcases g1_92 with z | z | z <;> (rw [z]; rfl)
        refine lv_tab (tgt := 92) hx hb d_CD_accessBytes_1 (by decide) ho1 (by decide) ?_
        refine lv_iconst (v := 1) hx hb d_CD_accessBytes_92 (by decide) ?_
        have k1 : (1 : Int32).toInt = 1 := by decide
        have hP9 := hP.sb (wq := []) [] rfl
        have hD9 := hD.sb (wq := []) [] (by decide) rfl
        exact W.iret (v := 1) hx hb hr (fun t ht hW => ⟨⟨1, (), rfl, (by (try dsimp only); (first | (apply Int.le_antisymm <;> omega) | omega)), va_P.he ht.symm hP9, va_K.moved hW.alike hK, hD9⟩, hS.F ht⟩) hS.2.2 d_CD_accessBytes_93
      · skip
        have ho1 : tab_off 98 40 58 #[93, 95, 98, 98, 91, 91, 98, 98, 98, 98, 98, 98, 98, 98, 93, 95, 98, 98, 91] p0.toInt = 98 := by
          unfold tab_off
          split
          · rfl
          · rcases (by (first | (apply Int.le_antisymm <;> omega) | omega) : p0.toInt = 42 ∨ p0.toInt = 43 ∨ p0.toInt = 46 ∨ p0.toInt = 47 ∨ p0.toInt = 48 ∨ p0.toInt = 49 ∨ p0.toInt = 50 ∨ p0.toInt = 51 ∨ p0.toInt = 52 ∨ p0.toInt = 53 ∨ p0.toInt = 56 ∨ p0.toInt = 57) with z | z | z | z | z | z | z | z | z | z | z | z <;> (rw [z]; rfl)
        refine lv_tab (tgt := 99) hx hb d_CD_accessBytes_1 (by decide) ho1 (by decide) ?_
        refine lv_iconst (v := 0) hx hb d_CD_accessBytes_99 (by decide) ?_
        have k0 : (0 : Int32).toInt = 0 := by decide
        have hP9 := hP.sb (wq := []) [] rfl
        have hD9 := hD.sb (wq := []) [] (by decide) rfl
        exact W.iret (v := 0) hx hb hr (fun t ht hW => ⟨⟨0, (), rfl, (by (try dsimp only); (first | (apply Int.le_antisymm <;> omega) | omega)), va_P.he ht.symm hP9, va_K.moved hW.alike hK, hD9⟩, hS.F ht⟩) hS.2.2 d_CD_accessBytes_100
abbrev b_CD_isAccess : ByteArray := prog_5_method_2_code
def y_CD_isAccess : MethodName := ⟨R_CD, "isAccess", "(I)Z"⟩
abbrev w_CD_isAccess : List Cond := .code y_CD_isAccess b_CD_isAccess 1 (Option.some .boolean) :: lw_g
theorem kC_CD_isAccess : Cond.code y_CD_isAccess b_CD_isAccess 1 (Option.some .boolean) ∈ lw_g := in_c5 214 rfl rfl
theorem d_CD_isAccess_0 : decode b_CD_isAccess 0 = .ok (.iload_n 0, 1) := bz_c26 (by decide +kernel)
theorem d_CD_isAccess_1 : decode b_CD_isAccess 1 = .ok (.invokestatic 37, 3) := bz_c184 (by decide +kernel)
theorem d_CD_isAccess_4 : decode b_CD_isAccess 4 = .ok (.ifCond .le 7, 3) := bz_c158 (by decide +kernel)
theorem d_CD_isAccess_7 : decode b_CD_isAccess 7 = .ok (.iconst 1, 1) := bz_c4 (by decide +kernel)
theorem d_CD_isAccess_8 : decode b_CD_isAccess 8 = .ok (.goto 4, 3) := bz_c167 (by decide +kernel)
theorem d_CD_isAccess_11 : decode b_CD_isAccess 11 = .ok (.iconst 0, 1) := bz_c3 (by decide +kernel)
theorem d_CD_isAccess_12 : decode b_CD_isAccess 12 = .ok (.ireturn, 1) := bz_c172 (by decide +kernel)
theorem kM_CD_37 : Cond.methodLink R_CD 37 y_CD_accessBytes ∈ lw_g := in_c5 215 rfl rfl
theorem kT_CD_accessBytes : Cond.static y_CD_accessBytes ∈ lw_g := in_c5 216 rfl rfl
set_option maxHeartbeats 4000000 in
set_option maxRecDepth 100000 in
theorem c_CD_isAccess (l : Launch) (dC : Nat → ClassId) (dI : Nat → Nat → Nat) (sz : Nat) (p0 : Int32) : Met l y_CD_isAccess w_CD_isAccess ({ frames := 1, cells := 0, slots := 0, locals := 20 }) (va_Pc [.int p0] (fun U => U.heap.size = sz ∧ va_P (dC, dI) cls [] U.heap ∧ va_K (dC, dI) cls [] U ∧ va_D (fun _ => True) [])) (va_Qi (fun (r : Int32) (_ : Unit) => (r = 0 ∨ r = 1) ∧ (r.toInt ≠ 0 ↔ p0.toInt = 44 ∨ p0.toInt = 45 ∨ p0.toInt = 58 ∨ p0.toInt = 40 ∨ p0.toInt = 54 ∨ p0.toInt = 41 ∨ p0.toInt = 55)) (no_at dC dI (va_A [] sz)) (va_A [] sz)) 0 0 (va_A [] sz) := by
  refine Met.ofW (cc := b_CD_isAccess) (maxL := 1) (ret := (Option.some .boolean)) (by decide) rfl ?_
  intro p e s m args below meth c s₁ B hml hv
  obtain ⟨rfl, hsz, hP, hK, hD0⟩ := hv
  have hx := B.exec
  have hb := B.bytes
  have hr := B.returns
  have hts0 := atoms_spec (ws := w_CD_isAccess) B.pre
  have hts : ∀ w ∈ lw_g, w.before _ s = true := fun w h => hts0 w (List.mem_cons_of_mem _ h)
  have hown : s.vm.findClass R_CD = some m.cls := findClass_of_methodNamed B.named
  have hlocks := B.notSynchronized
  clear hts0
  subst hsz
  have hD := hD0.self (sz := s.heap.size)
  generalize hAe : va_A [] s.heap.size = A at hD ⊢
  have hA : ∀ q : Nat, s.heap.size ≤ q → A q := fun q h => by rw [← hAe]; exact Or.inr h
  clear hAe
  have hP : va_P (dC, dI) cls [] s.heap := hP
  have hl := lv_entry ([.int p0]) (n := 1) (Nat.le_of_ble_eq_true rfl)
  rw [lg_entry_eq]
  generalize (lg_sl ([.int p0]) ++ List.replicate (1 - (lg_sl ([.int p0])).length) Slot.unset).toArray = ls at hl ⊢
  have hl : lv_has ls 1 [(0, .int p0)] := hl
  have k0 : (0 : Int32).toInt = 0 := by decide
  refine w_gen (A := A) hP (fun H locs hP hS => ?_)
  have lo_p0 := i32_lo p0
  have hi_p0 := i32_hi p0
  refine lv_iload_n hx hb d_CD_isAccess_0 rfl (lv_at hl 0 rfl) ?_
  have hPc := hP.sb (wq := []) [] rfl
  have hDc := hD.sb (wq := []) [] (by decide) rfl
  have hKc := hK.sb (tyq := []) [] rfl
  have hFc := va_free (wc := []) hD hS hA [] rfl
  refine va_calli (va_runS (As := [.int p0]) (rest := []) ⟨hx, hb, hml, hown, hts⟩ (c_CD_accessBytes l dC dI H.size p0) ⟨callB_of 1 hts (gW kC_CD_accessBytes) rfl rfl rfl (hts _ kI_CD) (hts _ kM_CD_37) (by decide +kernel) ⟨Nat.le_of_ble_eq_true rfl, Nat.le_of_ble_eq_true rfl⟩, hts _ kT_CD_accessBytes⟩ ⟨fun a U g mk z => by obtain ⟨z0, z1, zP, zK, zD⟩ := z; exact ⟨z0, z1, zP, va_K.moved (u := U) (U := U.calling g mk a) (Vm.Alike.refl U.vm) zK, zD⟩, fun U hU hW => ⟨rfl, by rw [hU], va_P.he hU.symm hPc, va_K.moved hW.alike hKc, hDc.weaken (fun _ _ _ _ => trivial)⟩⟩ rfl rfl hl.1 rfl (lv_room (Nat.le_of_ble_eq_true rfl)) d_CD_isAccess_1 ⟨(Nat.zero_le _), (Nat.zero_le _)⟩) hS (fun q _ h => hFc q h) hFc (fun r1 u t H1 locs ht hvm hw hB hz1 hk1 hS => ?_)
  try dsimp only at hw
  have tr1 := hw
  obtain ⟨hP1, hK1, hD1⟩ := hB
  replace hP1 := va_P.he ht hP1
  obtain ⟨hP, hD⟩ := va_join (wr := []) (w1 := []) hP hD [] [] rfl rfl (by decide) (by decide) hk1 hFc hP1 hD1
  clear hPc hDc hKc hFc hz1 hk1 hP1 hK1 hD1
  rename Heap => H
  have hP : va_P (dC, dI) cls [] H := hP
  have hD : va_D A [] := hD
  refine lv_if_le (tgt := 11) hx hb d_CD_isAccess_4 (by decide) (fun c4 => ?_) (fun c4 => ?_)
  · have q4 := leI c4
    refine lv_iconst (v := 0) hx hb d_CD_isAccess_11 (by decide) ?_
    have k0 : (0 : Int32).toInt = 0 := by decide
    have hP9 := hP.sb (wq := []) [] rfl
    have hD9 := hD.sb (wq := []) [] (by decide) rfl
    exact W.zret (v := 0) hx hb hr (zn01 (by first | exact Or.inl rfl | exact Or.inr rfl | exact hr0)) (fun t ht hW => ⟨⟨0, (), rfl, ⟨by first | exact Or.inl rfl | exact Or.inr rfl, by (try dsimp only); (first | (apply Int.le_antisymm <;> omega) | omega)⟩, va_P.he ht.symm hP9, va_K.moved hW.alike hK, hD9⟩, hS.F ht⟩) hS.2.2 d_CD_isAccess_12
  · have q4 := nleI c4
    refine lv_iconst (v := 1) hx hb d_CD_isAccess_7 (by decide) ?_
    have k1 : (1 : Int32).toInt = 1 := by decide
    refine lv_goto (tgt := 12) hx hb d_CD_isAccess_8 (by decide) ?_
    have hP9 := hP.sb (wq := []) [] rfl
    have hD9 := hD.sb (wq := []) [] (by decide) rfl
    exact W.zret (v := 1) hx hb hr (zn01 (by first | exact Or.inl rfl | exact Or.inr rfl | exact hr1)) (fun t ht hW => ⟨⟨1, (), rfl, ⟨by first | exact Or.inl rfl | exact Or.inr rfl, by (try dsimp only); (first | (apply Int.le_antisymm <;> omega) | omega)⟩, va_P.he ht.symm hP9, va_K.moved hW.alike hK, hD9⟩, hS.F ht⟩) hS.2.2 d_CD_isAccess_12
abbrev b_CD_isStore : ByteArray := prog_5_method_5_code
def y_CD_isStore : MethodName := ⟨R_CD, "isStore", "(I)Z"⟩
abbrev w_CD_isStore : List Cond := .code y_CD_isStore b_CD_isStore 1 (Option.some .boolean) :: lw_g
theorem kC_CD_isStore : Cond.code y_CD_isStore b_CD_isStore 1 (Option.some .boolean) ∈ lw_g := in_c7 41 rfl rfl
theorem d_CD_isStore_0 : decode b_CD_isStore 0 = .ok (.iload_n 0, 1) := bz_c26 (by decide +kernel)
theorem d_CD_isStore_1 : decode b_CD_isStore 1 = .ok (.bipush 58, 2) := bz_c16 (by decide +kernel)
theorem d_CD_isStore_3 : decode b_CD_isStore 3 = .ok (.if_icmp .eq 15, 3) := bz_c159 (by decide +kernel)
theorem d_CD_isStore_6 : decode b_CD_isStore 6 = .ok (.iload_n 0, 1) := bz_c26 (by decide +kernel)
theorem d_CD_isStore_7 : decode b_CD_isStore 7 = .ok (.bipush 54, 2) := bz_c16 (by decide +kernel)
theorem d_CD_isStore_9 : decode b_CD_isStore 9 = .ok (.if_icmp .eq 9, 3) := bz_c159 (by decide +kernel)
theorem d_CD_isStore_12 : decode b_CD_isStore 12 = .ok (.iload_n 0, 1) := bz_c26 (by decide +kernel)
theorem d_CD_isStore_13 : decode b_CD_isStore 13 = .ok (.bipush 55, 2) := bz_c16 (by decide +kernel)
theorem d_CD_isStore_15 : decode b_CD_isStore 15 = .ok (.if_icmp .ne 7, 3) := bz_c160 (by decide +kernel)
theorem d_CD_isStore_18 : decode b_CD_isStore 18 = .ok (.iconst 1, 1) := bz_c4 (by decide +kernel)
theorem d_CD_isStore_19 : decode b_CD_isStore 19 = .ok (.goto 4, 3) := bz_c167 (by decide +kernel)
theorem d_CD_isStore_22 : decode b_CD_isStore 22 = .ok (.iconst 0, 1) := bz_c3 (by decide +kernel)
theorem d_CD_isStore_23 : decode b_CD_isStore 23 = .ok (.ireturn, 1) := bz_c172 (by decide +kernel)
set_option maxHeartbeats 4000000 in
set_option maxRecDepth 100000 in
theorem c_CD_isStore (l : Launch) (dC : Nat → ClassId) (dI : Nat → Nat → Nat) (sz : Nat) (p0 : Int32) : Met l y_CD_isStore w_CD_isStore ({ frames := 0, cells := 0, slots := 0, locals := 0 }) (va_Pc [.int p0] (fun U => U.heap.size = sz ∧ va_P (dC, dI) cls [] U.heap ∧ va_K (dC, dI) cls [] U ∧ va_D (fun _ => True) [])) (va_Qi (fun (r : Int32) (_ : Unit) => (r = 0 ∨ r = 1) ∧ (r.toInt ≠ 0 ↔ p0.toInt = 54 ∨ p0.toInt = 55 ∨ p0.toInt = 58)) (no_at dC dI (va_A [] sz)) (va_A [] sz)) 0 0 (va_A [] sz) := by
  refine Met.ofW (cc := b_CD_isStore) (maxL := 1) (ret := (Option.some .boolean)) (by decide) rfl ?_
  intro p e s m args below meth c s₁ B hml hv
  obtain ⟨rfl, hsz, hP, hK, hD0⟩ := hv
  have hx := B.exec
  have hb := B.bytes
  have hr := B.returns
  have hts0 := atoms_spec (ws := w_CD_isStore) B.pre
  have hts : ∀ w ∈ lw_g, w.before _ s = true := fun w h => hts0 w (List.mem_cons_of_mem _ h)
  have hown : s.vm.findClass R_CD = some m.cls := findClass_of_methodNamed B.named
  have hlocks := B.notSynchronized
  clear hts0
  subst hsz
  have hD := hD0.self (sz := s.heap.size)
  generalize hAe : va_A [] s.heap.size = A at hD ⊢
  have hA : ∀ q : Nat, s.heap.size ≤ q → A q := fun q h => by rw [← hAe]; exact Or.inr h
  clear hAe
  have hP : va_P (dC, dI) cls [] s.heap := hP
  have hl := lv_entry ([.int p0]) (n := 1) (Nat.le_of_ble_eq_true rfl)
  rw [lg_entry_eq]
  generalize (lg_sl ([.int p0]) ++ List.replicate (1 - (lg_sl ([.int p0])).length) Slot.unset).toArray = ls at hl ⊢
  have hl : lv_has ls 1 [(0, .int p0)] := hl
  have k0 : (0 : Int32).toInt = 0 := by decide
  refine w_gen (A := A) hP (fun H locs hP hS => ?_)
  have lo_p0 := i32_lo p0
  have hi_p0 := i32_hi p0
  refine lv_iload_n hx hb d_CD_isStore_0 rfl (lv_at hl 0 rfl) ?_
  refine lv_bipush (v := 58) hx hb d_CD_isStore_1 (by decide) ?_
  have k58 : (58 : Int32).toInt = 58 := by decide
  refine lv_icmp_eq (tgt := 18) hx hb d_CD_isStore_3 (by decide) (fun c3 => ?_) (fun c3 => ?_)
  · have q3 := eqI c3
    refine lv_iconst (v := 1) hx hb d_CD_isStore_18 (by decide) ?_
    have k1 : (1 : Int32).toInt = 1 := by decide
    refine lv_goto (tgt := 23) hx hb d_CD_isStore_19 (by decide) ?_
    have hP9 := hP.sb (wq := []) [] rfl
    have hD9 := hD.sb (wq := []) [] (by decide) rfl
    exact W.zret (v := 1) hx hb hr (zn01 (by first | exact Or.inl rfl | exact Or.inr rfl | exact hr1)) (fun t ht hW => ⟨⟨1, (), rfl, ⟨by first | exact Or.inl rfl | exact Or.inr rfl, by (try dsimp only); (first | (apply Int.le_antisymm <;> omega) | omega)⟩, va_P.he ht.symm hP9, va_K.moved hW.alike hK, hD9⟩, hS.F ht⟩) hS.2.2 d_CD_isStore_23
  · have q3 := neI c3
    refine lv_iload_n hx hb d_CD_isStore_6 rfl (lv_at hl 0 rfl) ?_
    refine lv_bipush (v := 54) hx hb d_CD_isStore_7 (by decide) ?_
    have k54 : (54 : Int32).toInt = 54 := by decide
    refine lv_icmp_eq (tgt := 18) hx hb d_CD_isStore_9 (by decide) (fun c9 => ?_) (fun c9 => ?_)
    · have q9 := eqI c9
      refine lv_iconst (v := 1) hx hb d_CD_isStore_18 (by decide) ?_
      have k1 : (1 : Int32).toInt = 1 := by decide
      refine lv_goto (tgt := 23) hx hb d_CD_isStore_19 (by decide) ?_
      have hP9 := hP.sb (wq := []) [] rfl
      have hD9 := hD.sb (wq := []) [] (by decide) rfl
      exact W.zret (v := 1) hx hb hr (zn01 (by first | exact Or.inl rfl | exact Or.inr rfl | exact hr1)) (fun t ht hW => ⟨⟨1, (), rfl, ⟨by first | exact Or.inl rfl | exact Or.inr rfl, by (try dsimp only); (first | (apply Int.le_antisymm <;> omega) | omega)⟩, va_P.he ht.symm hP9, va_K.moved hW.alike hK, hD9⟩, hS.F ht⟩) hS.2.2 d_CD_isStore_23
    · have q9 := neI c9
      refine lv_iload_n hx hb d_CD_isStore_12 rfl (lv_at hl 0 rfl) ?_
      refine lv_bipush (v := 55) hx hb d_CD_isStore_13 (by decide) ?_
      have k55 : (55 : Int32).toInt = 55 := by decide
      refine lv_icmp_ne (tgt := 22) hx hb d_CD_isStore_15 (by decide) (fun c15 => ?_) (fun c15 => ?_)
      · have q15 := neI c15
        refine lv_iconst (v := 0) hx hb d_CD_isStore_22 (by decide) ?_
        have k0 : (0 : Int32).toInt = 0 := by decide
        have hP9 := hP.sb (wq := []) [] rfl
        have hD9 := hD.sb (wq := []) [] (by decide) rfl
        exact W.zret (v := 0) hx hb hr (zn01 (by first | exact Or.inl rfl | exact Or.inr rfl | exact hr0)) (fun t ht hW => ⟨⟨0, (), rfl, ⟨by first | exact Or.inl rfl | exact Or.inr rfl, by (try dsimp only); (first | (apply Int.le_antisymm <;> omega) | omega)⟩, va_P.he ht.symm hP9, va_K.moved hW.alike hK, hD9⟩, hS.F ht⟩) hS.2.2 d_CD_isStore_23
      · have q15 := eqI c15
        refine lv_iconst (v := 1) hx hb d_CD_isStore_18 (by decide) ?_
        have k1 : (1 : Int32).toInt = 1 := by decide
        refine lv_goto (tgt := 23) hx hb d_CD_isStore_19 (by decide) ?_
        have hP9 := hP.sb (wq := []) [] rfl
        have hD9 := hD.sb (wq := []) [] (by decide) rfl
        exact W.zret (v := 1) hx hb hr (zn01 (by first | exact Or.inl rfl | exact Or.inr rfl | exact hr1)) (fun t ht hW => ⟨⟨1, (), rfl, ⟨by first | exact Or.inl rfl | exact Or.inr rfl, by (try dsimp only); (first | (apply Int.le_antisymm <;> omega) | omega)⟩, va_P.he ht.symm hP9, va_K.moved hW.alike hK, hD9⟩, hS.F ht⟩) hS.2.2 d_CD_isStore_23
abbrev b_CD_isNumeric : ByteArray := prog_5_method_6_code
def y_CD_isNumeric : MethodName := ⟨R_CD, "isNumeric", "(I)Z"⟩
abbrev w_CD_isNumeric : List Cond := .code y_CD_isNumeric b_CD_isNumeric 1 (Option.some .boolean) :: lw_g
theorem kC_CD_isNumeric : Cond.code y_CD_isNumeric b_CD_isNumeric 1 (Option.some .boolean) ∈ lw_g := in_c6 165 rfl rfl
theorem d_CD_isNumeric_0 : decode b_CD_isNumeric 0 = .ok (.iload_n 0, 1) := bz_c26 (by decide +kernel)
theorem d_CD_isNumeric_1 : decode b_CD_isNumeric 1 = .ok (.bipush 69, 2) := bz_c16 (by decide +kernel)
theorem d_CD_isNumeric_3 : decode b_CD_isNumeric 3 = .ok (.if_icmp .lt 9, 3) := bz_c161 (by decide +kernel)
theorem d_CD_isNumeric_6 : decode b_CD_isNumeric 6 = .ok (.iload_n 0, 1) := bz_c26 (by decide +kernel)
theorem d_CD_isNumeric_7 : decode b_CD_isNumeric 7 = .ok (.bipush 90, 2) := bz_c16 (by decide +kernel)
theorem d_CD_isNumeric_9 : decode b_CD_isNumeric 9 = .ok (.if_icmp .le 37, 3) := bz_c164 (by decide +kernel)
theorem d_CD_isNumeric_12 : decode b_CD_isNumeric 12 = .ok (.iload_n 0, 1) := bz_c26 (by decide +kernel)
theorem d_CD_isNumeric_13 : decode b_CD_isNumeric 13 = .ok (.bipush 103, 2) := bz_c16 (by decide +kernel)
theorem d_CD_isNumeric_15 : decode b_CD_isNumeric 15 = .ok (.if_icmp .lt 10, 3) := bz_c161 (by decide +kernel)
theorem d_CD_isNumeric_18 : decode b_CD_isNumeric 18 = .ok (.iload_n 0, 1) := bz_c26 (by decide +kernel)
theorem d_CD_isNumeric_19 : decode b_CD_isNumeric 19 = .ok (.sipush 138, 3) := bz_c17 (by decide +kernel)
theorem d_CD_isNumeric_22 : decode b_CD_isNumeric 22 = .ok (.if_icmp .le 24, 3) := bz_c164 (by decide +kernel)
theorem d_CD_isNumeric_25 : decode b_CD_isNumeric 25 = .ok (.iload_n 0, 1) := bz_c26 (by decide +kernel)
theorem d_CD_isNumeric_26 : decode b_CD_isNumeric 26 = .ok (.sipush 167, 3) := bz_c17 (by decide +kernel)
theorem d_CD_isNumeric_29 : decode b_CD_isNumeric 29 = .ok (.if_icmp .eq 17, 3) := bz_c159 (by decide +kernel)
theorem d_CD_isNumeric_32 : decode b_CD_isNumeric 32 = .ok (.iload_n 0, 1) := bz_c26 (by decide +kernel)
theorem d_CD_isNumeric_33 : decode b_CD_isNumeric 33 = .ok (.sipush 172, 3) := bz_c17 (by decide +kernel)
theorem d_CD_isNumeric_36 : decode b_CD_isNumeric 36 = .ok (.if_icmp .eq 10, 3) := bz_c159 (by decide +kernel)
theorem d_CD_isNumeric_39 : decode b_CD_isNumeric 39 = .ok (.iload_n 0, 1) := bz_c26 (by decide +kernel)
theorem d_CD_isNumeric_40 : decode b_CD_isNumeric 40 = .ok (.sipush 173, 3) := bz_c17 (by decide +kernel)
theorem d_CD_isNumeric_43 : decode b_CD_isNumeric 43 = .ok (.if_icmp .ne 7, 3) := bz_c160 (by decide +kernel)
theorem d_CD_isNumeric_46 : decode b_CD_isNumeric 46 = .ok (.iconst 1, 1) := bz_c4 (by decide +kernel)
theorem d_CD_isNumeric_47 : decode b_CD_isNumeric 47 = .ok (.goto 4, 3) := bz_c167 (by decide +kernel)
theorem d_CD_isNumeric_50 : decode b_CD_isNumeric 50 = .ok (.iconst 0, 1) := bz_c3 (by decide +kernel)
theorem d_CD_isNumeric_51 : decode b_CD_isNumeric 51 = .ok (.ireturn, 1) := bz_c172 (by decide +kernel)
set_option maxHeartbeats 4000000 in
set_option maxRecDepth 100000 in
theorem c_CD_isNumeric (l : Launch) (dC : Nat → ClassId) (dI : Nat → Nat → Nat) (sz : Nat) (p0 : Int32) : Met l y_CD_isNumeric w_CD_isNumeric ({ frames := 0, cells := 0, slots := 0, locals := 0 }) (va_Pc [.int p0] (fun U => U.heap.size = sz ∧ va_P (dC, dI) cls [] U.heap ∧ va_K (dC, dI) cls [] U ∧ va_D (fun _ => True) [])) (va_Qi (fun (r : Int32) (_ : Unit) => (r = 0 ∨ r = 1) ∧ (r.toInt ≠ 0 ↔ (69 ≤ p0.toInt ∧ p0.toInt ≤ 90) ∨ (103 ≤ p0.toInt ∧ p0.toInt ≤ 138) ∨ p0.toInt = 167 ∨ p0.toInt = 172 ∨ p0.toInt = 173)) (no_at dC dI (va_A [] sz)) (va_A [] sz)) 0 0 (va_A [] sz) := by
  refine Met.ofW (cc := b_CD_isNumeric) (maxL := 1) (ret := (Option.some .boolean)) (by decide) rfl ?_
  intro p e s m args below meth c s₁ B hml hv
  obtain ⟨rfl, hsz, hP, hK, hD0⟩ := hv
  have hx := B.exec
  have hb := B.bytes
  have hr := B.returns
  have hts0 := atoms_spec (ws := w_CD_isNumeric) B.pre
  have hts : ∀ w ∈ lw_g, w.before _ s = true := fun w h => hts0 w (List.mem_cons_of_mem _ h)
  have hown : s.vm.findClass R_CD = some m.cls := findClass_of_methodNamed B.named
  have hlocks := B.notSynchronized
  clear hts0
  subst hsz
  have hD := hD0.self (sz := s.heap.size)
  generalize hAe : va_A [] s.heap.size = A at hD ⊢
  have hA : ∀ q : Nat, s.heap.size ≤ q → A q := fun q h => by rw [← hAe]; exact Or.inr h
  clear hAe
  have hP : va_P (dC, dI) cls [] s.heap := hP
  have hl := lv_entry ([.int p0]) (n := 1) (Nat.le_of_ble_eq_true rfl)
  rw [lg_entry_eq]
  generalize (lg_sl ([.int p0]) ++ List.replicate (1 - (lg_sl ([.int p0])).length) Slot.unset).toArray = ls at hl ⊢
  have hl : lv_has ls 1 [(0, .int p0)] := hl
  have k0 : (0 : Int32).toInt = 0 := by decide
  refine w_gen (A := A) hP (fun H locs hP hS => ?_)
  have lo_p0 := i32_lo p0
  have hi_p0 := i32_hi p0
  refine lv_iload_n hx hb d_CD_isNumeric_0 rfl (lv_at hl 0 rfl) ?_
  refine lv_bipush (v := 69) hx hb d_CD_isNumeric_1 (by decide) ?_
  have k69 : (69 : Int32).toInt = 69 := by decide
  refine lv_icmp_lt (tgt := 12) hx hb d_CD_isNumeric_3 (by decide) (fun c3 => ?_) (fun c3 => ?_)
  · have q3 := ltI c3
    refine lv_iload_n hx hb d_CD_isNumeric_12 rfl (lv_at hl 0 rfl) ?_
    refine lv_bipush (v := 103) hx hb d_CD_isNumeric_13 (by decide) ?_
    have k103 : (103 : Int32).toInt = 103 := by decide
    refine lv_icmp_lt (tgt := 25) hx hb d_CD_isNumeric_15 (by decide) (fun c15 => ?_) (fun c15 => ?_)
    · have q15 := ltI c15
      refine lv_iload_n hx hb d_CD_isNumeric_25 rfl (lv_at hl 0 rfl) ?_
      refine lv_sipush (v := 167) hx hb d_CD_isNumeric_26 (by decide) ?_
      have k167 : (167 : Int32).toInt = 167 := by decide
      refine lv_icmp_eq (tgt := 46) hx hb d_CD_isNumeric_29 (by decide) (fun c29 => ?_) (fun c29 => ?_)
      · have q29 := eqI c29
        refine lv_iconst (v := 1) hx hb d_CD_isNumeric_46 (by decide) ?_
        have k1 : (1 : Int32).toInt = 1 := by decide
        refine lv_goto (tgt := 51) hx hb d_CD_isNumeric_47 (by decide) ?_
        have hP9 := hP.sb (wq := []) [] rfl
        have hD9 := hD.sb (wq := []) [] (by decide) rfl
        exact W.zret (v := 1) hx hb hr (zn01 (by first | exact Or.inl rfl | exact Or.inr rfl | exact hr1)) (fun t ht hW => ⟨⟨1, (), rfl, ⟨by first | exact Or.inl rfl | exact Or.inr rfl, by (try dsimp only); (first | (apply Int.le_antisymm <;> omega) | omega)⟩, va_P.he ht.symm hP9, va_K.moved hW.alike hK, hD9⟩, hS.F ht⟩) hS.2.2 d_CD_isNumeric_51
      · have q29 := neI c29
        refine lv_iload_n hx hb d_CD_isNumeric_32 rfl (lv_at hl 0 rfl) ?_
        refine lv_sipush (v := 172) hx hb d_CD_isNumeric_33 (by decide) ?_
        have k172 : (172 : Int32).toInt = 172 := by decide
        refine lv_icmp_eq (tgt := 46) hx hb d_CD_isNumeric_36 (by decide) (fun c36 => ?_) (fun c36 => ?_)
        · have q36 := eqI c36
          refine lv_iconst (v := 1) hx hb d_CD_isNumeric_46 (by decide) ?_
          have k1 : (1 : Int32).toInt = 1 := by decide
          refine lv_goto (tgt := 51) hx hb d_CD_isNumeric_47 (by decide) ?_
          have hP9 := hP.sb (wq := []) [] rfl
          have hD9 := hD.sb (wq := []) [] (by decide) rfl
          exact W.zret (v := 1) hx hb hr (zn01 (by first | exact Or.inl rfl | exact Or.inr rfl | exact hr1)) (fun t ht hW => ⟨⟨1, (), rfl, ⟨by first | exact Or.inl rfl | exact Or.inr rfl, by (try dsimp only); (first | (apply Int.le_antisymm <;> omega) | omega)⟩, va_P.he ht.symm hP9, va_K.moved hW.alike hK, hD9⟩, hS.F ht⟩) hS.2.2 d_CD_isNumeric_51
        · have q36 := neI c36
          refine lv_iload_n hx hb d_CD_isNumeric_39 rfl (lv_at hl 0 rfl) ?_
          refine lv_sipush (v := 173) hx hb d_CD_isNumeric_40 (by decide) ?_
          have k173 : (173 : Int32).toInt = 173 := by decide
          refine lv_icmp_ne (tgt := 50) hx hb d_CD_isNumeric_43 (by decide) (fun c43 => ?_) (fun c43 => ?_)
          · have q43 := neI c43
            refine lv_iconst (v := 0) hx hb d_CD_isNumeric_50 (by decide) ?_
            have k0 : (0 : Int32).toInt = 0 := by decide
            have hP9 := hP.sb (wq := []) [] rfl
            have hD9 := hD.sb (wq := []) [] (by decide) rfl
            exact W.zret (v := 0) hx hb hr (zn01 (by first | exact Or.inl rfl | exact Or.inr rfl | exact hr0)) (fun t ht hW => ⟨⟨0, (), rfl, ⟨by first | exact Or.inl rfl | exact Or.inr rfl, by (try dsimp only); (first | (apply Int.le_antisymm <;> omega) | omega)⟩, va_P.he ht.symm hP9, va_K.moved hW.alike hK, hD9⟩, hS.F ht⟩) hS.2.2 d_CD_isNumeric_51
          · have q43 := eqI c43
            refine lv_iconst (v := 1) hx hb d_CD_isNumeric_46 (by decide) ?_
            have k1 : (1 : Int32).toInt = 1 := by decide
            refine lv_goto (tgt := 51) hx hb d_CD_isNumeric_47 (by decide) ?_
            have hP9 := hP.sb (wq := []) [] rfl
            have hD9 := hD.sb (wq := []) [] (by decide) rfl
            exact W.zret (v := 1) hx hb hr (zn01 (by first | exact Or.inl rfl | exact Or.inr rfl | exact hr1)) (fun t ht hW => ⟨⟨1, (), rfl, ⟨by first | exact Or.inl rfl | exact Or.inr rfl, by (try dsimp only); (first | (apply Int.le_antisymm <;> omega) | omega)⟩, va_P.he ht.symm hP9, va_K.moved hW.alike hK, hD9⟩, hS.F ht⟩) hS.2.2 d_CD_isNumeric_51
    · have q15 := nltI c15
      refine lv_iload_n hx hb d_CD_isNumeric_18 rfl (lv_at hl 0 rfl) ?_
      refine lv_sipush (v := 138) hx hb d_CD_isNumeric_19 (by decide) ?_
      have k138 : (138 : Int32).toInt = 138 := by decide
      refine lv_icmp_le (tgt := 46) hx hb d_CD_isNumeric_22 (by decide) (fun c22 => ?_) (fun c22 => ?_)
      · have q22 := leI c22
        refine lv_iconst (v := 1) hx hb d_CD_isNumeric_46 (by decide) ?_
        have k1 : (1 : Int32).toInt = 1 := by decide
        refine lv_goto (tgt := 51) hx hb d_CD_isNumeric_47 (by decide) ?_
        have hP9 := hP.sb (wq := []) [] rfl
        have hD9 := hD.sb (wq := []) [] (by decide) rfl
        exact W.zret (v := 1) hx hb hr (zn01 (by first | exact Or.inl rfl | exact Or.inr rfl | exact hr1)) (fun t ht hW => ⟨⟨1, (), rfl, ⟨by first | exact Or.inl rfl | exact Or.inr rfl, by (try dsimp only); (first | (apply Int.le_antisymm <;> omega) | omega)⟩, va_P.he ht.symm hP9, va_K.moved hW.alike hK, hD9⟩, hS.F ht⟩) hS.2.2 d_CD_isNumeric_51
      · have q22 := nleI c22
        refine lv_iload_n hx hb d_CD_isNumeric_25 rfl (lv_at hl 0 rfl) ?_
        refine lv_sipush (v := 167) hx hb d_CD_isNumeric_26 (by decide) ?_
        have k167 : (167 : Int32).toInt = 167 := by decide
        refine lv_icmp_eq (tgt := 46) hx hb d_CD_isNumeric_29 (by decide) (fun c29 => ?_) (fun c29 => ?_)
        · have q29 := eqI c29
          refine lv_iconst (v := 1) hx hb d_CD_isNumeric_46 (by decide) ?_
          have k1 : (1 : Int32).toInt = 1 := by decide
          refine lv_goto (tgt := 51) hx hb d_CD_isNumeric_47 (by decide) ?_
          have hP9 := hP.sb (wq := []) [] rfl
          have hD9 := hD.sb (wq := []) [] (by decide) rfl
          exact W.zret (v := 1) hx hb hr (zn01 (by first | exact Or.inl rfl | exact Or.inr rfl | exact hr1)) (fun t ht hW => ⟨⟨1, (), rfl, ⟨by first | exact Or.inl rfl | exact Or.inr rfl, by (try dsimp only); (first | (apply Int.le_antisymm <;> omega) | omega)⟩, va_P.he ht.symm hP9, va_K.moved hW.alike hK, hD9⟩, hS.F ht⟩) hS.2.2 d_CD_isNumeric_51
        · have q29 := neI c29
          refine lv_iload_n hx hb d_CD_isNumeric_32 rfl (lv_at hl 0 rfl) ?_
          refine lv_sipush (v := 172) hx hb d_CD_isNumeric_33 (by decide) ?_
          have k172 : (172 : Int32).toInt = 172 := by decide
          refine lv_icmp_eq (tgt := 46) hx hb d_CD_isNumeric_36 (by decide) (fun c36 => ?_) (fun c36 => ?_)
          · have q36 := eqI c36
            refine lv_iconst (v := 1) hx hb d_CD_isNumeric_46 (by decide) ?_
            have k1 : (1 : Int32).toInt = 1 := by decide
            refine lv_goto (tgt := 51) hx hb d_CD_isNumeric_47 (by decide) ?_
            have hP9 := hP.sb (wq := []) [] rfl
            have hD9 := hD.sb (wq := []) [] (by decide) rfl
            exact W.zret (v := 1) hx hb hr (zn01 (by first | exact Or.inl rfl | exact Or.inr rfl | exact hr1)) (fun t ht hW => ⟨⟨1, (), rfl, ⟨by first | exact Or.inl rfl | exact Or.inr rfl, by (try dsimp only); (first | (apply Int.le_antisymm <;> omega) | omega)⟩, va_P.he ht.symm hP9, va_K.moved hW.alike hK, hD9⟩, hS.F ht⟩) hS.2.2 d_CD_isNumeric_51
          · have q36 := neI c36
            refine lv_iload_n hx hb d_CD_isNumeric_39 rfl (lv_at hl 0 rfl) ?_
            refine lv_sipush (v := 173) hx hb d_CD_isNumeric_40 (by decide) ?_
            have k173 : (173 : Int32).toInt = 173 := by decide
            refine lv_icmp_ne (tgt := 50) hx hb d_CD_isNumeric_43 (by decide) (fun c43 => ?_) (fun c43 => ?_)
            · have q43 := neI c43
              refine lv_iconst (v := 0) hx hb d_CD_isNumeric_50 (by decide) ?_
              have k0 : (0 : Int32).toInt = 0 := by decide
              have hP9 := hP.sb (wq := []) [] rfl
              have hD9 := hD.sb (wq := []) [] (by decide) rfl
              exact W.zret (v := 0) hx hb hr (zn01 (by first | exact Or.inl rfl | exact Or.inr rfl | exact hr0)) (fun t ht hW => ⟨⟨0, (), rfl, ⟨by first | exact Or.inl rfl | exact Or.inr rfl, by (try dsimp only); (first | (apply Int.le_antisymm <;> omega) | omega)⟩, va_P.he ht.symm hP9, va_K.moved hW.alike hK, hD9⟩, hS.F ht⟩) hS.2.2 d_CD_isNumeric_51
            · have q43 := eqI c43
              refine lv_iconst (v := 1) hx hb d_CD_isNumeric_46 (by decide) ?_
              have k1 : (1 : Int32).toInt = 1 := by decide
              refine lv_goto (tgt := 51) hx hb d_CD_isNumeric_47 (by decide) ?_
              have hP9 := hP.sb (wq := []) [] rfl
              have hD9 := hD.sb (wq := []) [] (by decide) rfl
              exact W.zret (v := 1) hx hb hr (zn01 (by first | exact Or.inl rfl | exact Or.inr rfl | exact hr1)) (fun t ht hW => ⟨⟨1, (), rfl, ⟨by first | exact Or.inl rfl | exact Or.inr rfl, by (try dsimp only); (first | (apply Int.le_antisymm <;> omega) | omega)⟩, va_P.he ht.symm hP9, va_K.moved hW.alike hK, hD9⟩, hS.F ht⟩) hS.2.2 d_CD_isNumeric_51
  · have q3 := nltI c3
    refine lv_iload_n hx hb d_CD_isNumeric_6 rfl (lv_at hl 0 rfl) ?_
    refine lv_bipush (v := 90) hx hb d_CD_isNumeric_7 (by decide) ?_
    have k90 : (90 : Int32).toInt = 90 := by decide
    refine lv_icmp_le (tgt := 46) hx hb d_CD_isNumeric_9 (by decide) (fun c9 => ?_) (fun c9 => ?_)
    · have q9 := leI c9
      refine lv_iconst (v := 1) hx hb d_CD_isNumeric_46 (by decide) ?_
      have k1 : (1 : Int32).toInt = 1 := by decide
      refine lv_goto (tgt := 51) hx hb d_CD_isNumeric_47 (by decide) ?_
      have hP9 := hP.sb (wq := []) [] rfl
      have hD9 := hD.sb (wq := []) [] (by decide) rfl
      exact W.zret (v := 1) hx hb hr (zn01 (by first | exact Or.inl rfl | exact Or.inr rfl | exact hr1)) (fun t ht hW => ⟨⟨1, (), rfl, ⟨by first | exact Or.inl rfl | exact Or.inr rfl, by (try dsimp only); (first | (apply Int.le_antisymm <;> omega) | omega)⟩, va_P.he ht.symm hP9, va_K.moved hW.alike hK, hD9⟩, hS.F ht⟩) hS.2.2 d_CD_isNumeric_51
    · have q9 := nleI c9
      refine lv_iload_n hx hb d_CD_isNumeric_12 rfl (lv_at hl 0 rfl) ?_
      refine lv_bipush (v := 103) hx hb d_CD_isNumeric_13 (by decide) ?_
      have k103 : (103 : Int32).toInt = 103 := by decide
      refine lv_icmp_lt (tgt := 25) hx hb d_CD_isNumeric_15 (by decide) (fun c15 => ?_) (fun c15 => ?_)
      · have q15 := ltI c15
        refine lv_iload_n hx hb d_CD_isNumeric_25 rfl (lv_at hl 0 rfl) ?_
        refine lv_sipush (v := 167) hx hb d_CD_isNumeric_26 (by decide) ?_
        have k167 : (167 : Int32).toInt = 167 := by decide
        refine lv_icmp_eq (tgt := 46) hx hb d_CD_isNumeric_29 (by decide) (fun c29 => ?_) (fun c29 => ?_)
        · have q29 := eqI c29
          refine lv_iconst (v := 1) hx hb d_CD_isNumeric_46 (by decide) ?_
          have k1 : (1 : Int32).toInt = 1 := by decide
          refine lv_goto (tgt := 51) hx hb d_CD_isNumeric_47 (by decide) ?_
          have hP9 := hP.sb (wq := []) [] rfl
          have hD9 := hD.sb (wq := []) [] (by decide) rfl
          exact W.zret (v := 1) hx hb hr (zn01 (by first | exact Or.inl rfl | exact Or.inr rfl | exact hr1)) (fun t ht hW => ⟨⟨1, (), rfl, ⟨by first | exact Or.inl rfl | exact Or.inr rfl, by (try dsimp only); (first | (apply Int.le_antisymm <;> omega) | omega)⟩, va_P.he ht.symm hP9, va_K.moved hW.alike hK, hD9⟩, hS.F ht⟩) hS.2.2 d_CD_isNumeric_51
        · have q29 := neI c29
          refine lv_iload_n hx hb d_CD_isNumeric_32 rfl (lv_at hl 0 rfl) ?_
          refine lv_sipush (v := 172) hx hb d_CD_isNumeric_33 (by decide) ?_
          have k172 : (172 : Int32).toInt = 172 := by decide
          refine lv_icmp_eq (tgt := 46) hx hb d_CD_isNumeric_36 (by decide) (fun c36 => ?_) (fun c36 => ?_)
          · have q36 := eqI c36
            refine lv_iconst (v := 1) hx hb d_CD_isNumeric_46 (by decide) ?_
            have k1 : (1 : Int32).toInt = 1 := by decide
            refine lv_goto (tgt := 51) hx hb d_CD_isNumeric_47 (by decide) ?_
            have hP9 := hP.sb (wq := []) [] rfl
            have hD9 := hD.sb (wq := []) [] (by decide) rfl
            exact W.zret (v := 1) hx hb hr (zn01 (by first | exact Or.inl rfl | exact Or.inr rfl | exact hr1)) (fun t ht hW => ⟨⟨1, (), rfl, ⟨by first | exact Or.inl rfl | exact Or.inr rfl, by (try dsimp only); (first | (apply Int.le_antisymm <;> omega) | omega)⟩, va_P.he ht.symm hP9, va_K.moved hW.alike hK, hD9⟩, hS.F ht⟩) hS.2.2 d_CD_isNumeric_51
          · have q36 := neI c36
            refine lv_iload_n hx hb d_CD_isNumeric_39 rfl (lv_at hl 0 rfl) ?_
            refine lv_sipush (v := 173) hx hb d_CD_isNumeric_40 (by decide) ?_
            have k173 : (173 : Int32).toInt = 173 := by decide
            refine lv_icmp_ne (tgt := 50) hx hb d_CD_isNumeric_43 (by decide) (fun c43 => ?_) (fun c43 => ?_)
            · have q43 := neI c43
              refine lv_iconst (v := 0) hx hb d_CD_isNumeric_50 (by decide) ?_
              have k0 : (0 : Int32).toInt = 0 := by decide
              have hP9 := hP.sb (wq := []) [] rfl
              have hD9 := hD.sb (wq := []) [] (by decide) rfl
              exact W.zret (v := 0) hx hb hr (zn01 (by first | exact Or.inl rfl | exact Or.inr rfl | exact hr0)) (fun t ht hW => ⟨⟨0, (), rfl, ⟨by first | exact Or.inl rfl | exact Or.inr rfl, by (try dsimp only); (first | (apply Int.le_antisymm <;> omega) | omega)⟩, va_P.he ht.symm hP9, va_K.moved hW.alike hK, hD9⟩, hS.F ht⟩) hS.2.2 d_CD_isNumeric_51
            · have q43 := eqI c43
              refine lv_iconst (v := 1) hx hb d_CD_isNumeric_46 (by decide) ?_
              have k1 : (1 : Int32).toInt = 1 := by decide
              refine lv_goto (tgt := 51) hx hb d_CD_isNumeric_47 (by decide) ?_
              have hP9 := hP.sb (wq := []) [] rfl
              have hD9 := hD.sb (wq := []) [] (by decide) rfl
              exact W.zret (v := 1) hx hb hr (zn01 (by first | exact Or.inl rfl | exact Or.inr rfl | exact hr1)) (fun t ht hW => ⟨⟨1, (), rfl, ⟨by first | exact Or.inl rfl | exact Or.inr rfl, by (try dsimp only); (first | (apply Int.le_antisymm <;> omega) | omega)⟩, va_P.he ht.symm hP9, va_K.moved hW.alike hK, hD9⟩, hS.F ht⟩) hS.2.2 d_CD_isNumeric_51
      · have q15 := nltI c15
        refine lv_iload_n hx hb d_CD_isNumeric_18 rfl (lv_at hl 0 rfl) ?_
        refine lv_sipush (v := 138) hx hb d_CD_isNumeric_19 (by decide) ?_
        have k138 : (138 : Int32).toInt = 138 := by decide
        refine lv_icmp_le (tgt := 46) hx hb d_CD_isNumeric_22 (by decide) (fun c22 => ?_) (fun c22 => ?_)
        · have q22 := leI c22
          refine lv_iconst (v := 1) hx hb d_CD_isNumeric_46 (by decide) ?_
          have k1 : (1 : Int32).toInt = 1 := by decide
          refine lv_goto (tgt := 51) hx hb d_CD_isNumeric_47 (by decide) ?_
          have hP9 := hP.sb (wq := []) [] rfl
          have hD9 := hD.sb (wq := []) [] (by decide) rfl
          exact W.zret (v := 1) hx hb hr (zn01 (by first | exact Or.inl rfl | exact Or.inr rfl | exact hr1)) (fun t ht hW => ⟨⟨1, (), rfl, ⟨by first | exact Or.inl rfl | exact Or.inr rfl, by (try dsimp only); (first | (apply Int.le_antisymm <;> omega) | omega)⟩, va_P.he ht.symm hP9, va_K.moved hW.alike hK, hD9⟩, hS.F ht⟩) hS.2.2 d_CD_isNumeric_51
        · have q22 := nleI c22
          refine lv_iload_n hx hb d_CD_isNumeric_25 rfl (lv_at hl 0 rfl) ?_
          refine lv_sipush (v := 167) hx hb d_CD_isNumeric_26 (by decide) ?_
          have k167 : (167 : Int32).toInt = 167 := by decide
          refine lv_icmp_eq (tgt := 46) hx hb d_CD_isNumeric_29 (by decide) (fun c29 => ?_) (fun c29 => ?_)
          · have q29 := eqI c29
            refine lv_iconst (v := 1) hx hb d_CD_isNumeric_46 (by decide) ?_
            have k1 : (1 : Int32).toInt = 1 := by decide
            refine lv_goto (tgt := 51) hx hb d_CD_isNumeric_47 (by decide) ?_
            have hP9 := hP.sb (wq := []) [] rfl
            have hD9 := hD.sb (wq := []) [] (by decide) rfl
            exact W.zret (v := 1) hx hb hr (zn01 (by first | exact Or.inl rfl | exact Or.inr rfl | exact hr1)) (fun t ht hW => ⟨⟨1, (), rfl, ⟨by first | exact Or.inl rfl | exact Or.inr rfl, by (try dsimp only); (first | (apply Int.le_antisymm <;> omega) | omega)⟩, va_P.he ht.symm hP9, va_K.moved hW.alike hK, hD9⟩, hS.F ht⟩) hS.2.2 d_CD_isNumeric_51
          · have q29 := neI c29
            refine lv_iload_n hx hb d_CD_isNumeric_32 rfl (lv_at hl 0 rfl) ?_
            refine lv_sipush (v := 172) hx hb d_CD_isNumeric_33 (by decide) ?_
            have k172 : (172 : Int32).toInt = 172 := by decide
            refine lv_icmp_eq (tgt := 46) hx hb d_CD_isNumeric_36 (by decide) (fun c36 => ?_) (fun c36 => ?_)
            · have q36 := eqI c36
              refine lv_iconst (v := 1) hx hb d_CD_isNumeric_46 (by decide) ?_
              have k1 : (1 : Int32).toInt = 1 := by decide
              refine lv_goto (tgt := 51) hx hb d_CD_isNumeric_47 (by decide) ?_
              have hP9 := hP.sb (wq := []) [] rfl
              have hD9 := hD.sb (wq := []) [] (by decide) rfl
              exact W.zret (v := 1) hx hb hr (zn01 (by first | exact Or.inl rfl | exact Or.inr rfl | exact hr1)) (fun t ht hW => ⟨⟨1, (), rfl, ⟨by first | exact Or.inl rfl | exact Or.inr rfl, by (try dsimp only); (first | (apply Int.le_antisymm <;> omega) | omega)⟩, va_P.he ht.symm hP9, va_K.moved hW.alike hK, hD9⟩, hS.F ht⟩) hS.2.2 d_CD_isNumeric_51
            · have q36 := neI c36
              refine lv_iload_n hx hb d_CD_isNumeric_39 rfl (lv_at hl 0 rfl) ?_
              refine lv_sipush (v := 173) hx hb d_CD_isNumeric_40 (by decide) ?_
              have k173 : (173 : Int32).toInt = 173 := by decide
              refine lv_icmp_ne (tgt := 50) hx hb d_CD_isNumeric_43 (by decide) (fun c43 => ?_) (fun c43 => ?_)
              · have q43 := neI c43
                refine lv_iconst (v := 0) hx hb d_CD_isNumeric_50 (by decide) ?_
                have k0 : (0 : Int32).toInt = 0 := by decide
                have hP9 := hP.sb (wq := []) [] rfl
                have hD9 := hD.sb (wq := []) [] (by decide) rfl
                exact W.zret (v := 0) hx hb hr (zn01 (by first | exact Or.inl rfl | exact Or.inr rfl | exact hr0)) (fun t ht hW => ⟨⟨0, (), rfl, ⟨by first | exact Or.inl rfl | exact Or.inr rfl, by (try dsimp only); (first | (apply Int.le_antisymm <;> omega) | omega)⟩, va_P.he ht.symm hP9, va_K.moved hW.alike hK, hD9⟩, hS.F ht⟩) hS.2.2 d_CD_isNumeric_51
              · have q43 := eqI c43
                refine lv_iconst (v := 1) hx hb d_CD_isNumeric_46 (by decide) ?_
                have k1 : (1 : Int32).toInt = 1 := by decide
                refine lv_goto (tgt := 51) hx hb d_CD_isNumeric_47 (by decide) ?_
                have hP9 := hP.sb (wq := []) [] rfl
                have hD9 := hD.sb (wq := []) [] (by decide) rfl
                exact W.zret (v := 1) hx hb hr (zn01 (by first | exact Or.inl rfl | exact Or.inr rfl | exact hr1)) (fun t ht hW => ⟨⟨1, (), rfl, ⟨by first | exact Or.inl rfl | exact Or.inr rfl, by (try dsimp only); (first | (apply Int.le_antisymm <;> omega) | omega)⟩, va_P.he ht.symm hP9, va_K.moved hW.alike hK, hD9⟩, hS.F ht⟩) hS.2.2 d_CD_isNumeric_51
abbrev b_CD_takesOne : ByteArray := prog_5_method_7_code
def y_CD_takesOne : MethodName := ⟨R_CD, "takesOne", "(I)Z"⟩
abbrev w_CD_takesOne : List Cond := .code y_CD_takesOne b_CD_takesOne 1 (Option.some .boolean) :: lw_g
theorem kC_CD_takesOne : Cond.code y_CD_takesOne b_CD_takesOne 1 (Option.some .boolean) ∈ lw_g := in_c7 51 rfl rfl
theorem d_CD_takesOne_0 : decode b_CD_takesOne 0 = .ok (.iload_n 0, 1) := bz_c26 (by decide +kernel)
theorem d_CD_takesOne_1 : decode b_CD_takesOne 1 = .ok (.bipush 69, 2) := bz_c16 (by decide +kernel)
theorem d_CD_takesOne_3 : decode b_CD_takesOne 3 = .ok (.if_icmp .eq 40, 3) := bz_c159 (by decide +kernel)
theorem d_CD_takesOne_6 : decode b_CD_takesOne 6 = .ok (.iload_n 0, 1) := bz_c26 (by decide +kernel)
theorem d_CD_takesOne_7 : decode b_CD_takesOne 7 = .ok (.bipush 80, 2) := bz_c16 (by decide +kernel)
theorem d_CD_takesOne_9 : decode b_CD_takesOne 9 = .ok (.if_icmp .eq 34, 3) := bz_c159 (by decide +kernel)
theorem d_CD_takesOne_12 : decode b_CD_takesOne 12 = .ok (.iload_n 0, 1) := bz_c26 (by decide +kernel)
theorem d_CD_takesOne_13 : decode b_CD_takesOne 13 = .ok (.bipush 103, 2) := bz_c16 (by decide +kernel)
theorem d_CD_takesOne_15 : decode b_CD_takesOne 15 = .ok (.if_icmp .lt 9, 3) := bz_c161 (by decide +kernel)
theorem d_CD_takesOne_18 : decode b_CD_takesOne 18 = .ok (.iload_n 0, 1) := bz_c26 (by decide +kernel)
theorem d_CD_takesOne_19 : decode b_CD_takesOne 19 = .ok (.bipush 106, 2) := bz_c16 (by decide +kernel)
theorem d_CD_takesOne_21 : decode b_CD_takesOne 21 = .ok (.if_icmp .lt 22, 3) := bz_c161 (by decide +kernel)
theorem d_CD_takesOne_24 : decode b_CD_takesOne 24 = .ok (.iload_n 0, 1) := bz_c26 (by decide +kernel)
theorem d_CD_takesOne_25 : decode b_CD_takesOne 25 = .ok (.bipush 121, 2) := bz_c16 (by decide +kernel)
theorem d_CD_takesOne_27 : decode b_CD_takesOne 27 = .ok (.if_icmp .lt 9, 3) := bz_c161 (by decide +kernel)
theorem d_CD_takesOne_30 : decode b_CD_takesOne 30 = .ok (.iload_n 0, 1) := bz_c26 (by decide +kernel)
theorem d_CD_takesOne_31 : decode b_CD_takesOne 31 = .ok (.bipush 124, 2) := bz_c16 (by decide +kernel)
theorem d_CD_takesOne_33 : decode b_CD_takesOne 33 = .ok (.if_icmp .lt 10, 3) := bz_c161 (by decide +kernel)
theorem d_CD_takesOne_36 : decode b_CD_takesOne 36 = .ok (.iload_n 0, 1) := bz_c26 (by decide +kernel)
theorem d_CD_takesOne_37 : decode b_CD_takesOne 37 = .ok (.sipush 138, 3) := bz_c17 (by decide +kernel)
theorem d_CD_takesOne_40 : decode b_CD_takesOne 40 = .ok (.if_icmp .le 7, 3) := bz_c164 (by decide +kernel)
theorem d_CD_takesOne_43 : decode b_CD_takesOne 43 = .ok (.iconst 1, 1) := bz_c4 (by decide +kernel)
theorem d_CD_takesOne_44 : decode b_CD_takesOne 44 = .ok (.goto 4, 3) := bz_c167 (by decide +kernel)
theorem d_CD_takesOne_47 : decode b_CD_takesOne 47 = .ok (.iconst 0, 1) := bz_c3 (by decide +kernel)
theorem d_CD_takesOne_48 : decode b_CD_takesOne 48 = .ok (.ireturn, 1) := bz_c172 (by decide +kernel)
set_option maxHeartbeats 4000000 in
set_option maxRecDepth 100000 in
theorem c_CD_takesOne (l : Launch) (dC : Nat → ClassId) (dI : Nat → Nat → Nat) (sz : Nat) (p0 : Int32) : Met l y_CD_takesOne w_CD_takesOne ({ frames := 0, cells := 0, slots := 0, locals := 0 }) (va_Pc [.int p0] (fun U => U.heap.size = sz ∧ va_P (dC, dI) cls [] U.heap ∧ va_K (dC, dI) cls [] U ∧ va_D (fun _ => True) [])) (va_Qi (fun (r : Int32) (_ : Unit) => (r = 0 ∨ r = 1) ∧ (r.toInt ≠ 0 ↔ p0.toInt = 69 ∨ p0.toInt = 80 ∨ (103 ≤ p0.toInt ∧ p0.toInt < 106) ∨ (121 ≤ p0.toInt ∧ p0.toInt < 124) ∨ 138 < p0.toInt)) (no_at dC dI (va_A [] sz)) (va_A [] sz)) 0 0 (va_A [] sz) := by
  refine Met.ofW (cc := b_CD_takesOne) (maxL := 1) (ret := (Option.some .boolean)) (by decide) rfl ?_
  intro p e s m args below meth c s₁ B hml hv
  obtain ⟨rfl, hsz, hP, hK, hD0⟩ := hv
  have hx := B.exec
  have hb := B.bytes
  have hr := B.returns
  have hts0 := atoms_spec (ws := w_CD_takesOne) B.pre
  have hts : ∀ w ∈ lw_g, w.before _ s = true := fun w h => hts0 w (List.mem_cons_of_mem _ h)
  have hown : s.vm.findClass R_CD = some m.cls := findClass_of_methodNamed B.named
  have hlocks := B.notSynchronized
  clear hts0
  subst hsz
  have hD := hD0.self (sz := s.heap.size)
  generalize hAe : va_A [] s.heap.size = A at hD ⊢
  have hA : ∀ q : Nat, s.heap.size ≤ q → A q := fun q h => by rw [← hAe]; exact Or.inr h
  clear hAe
  have hP : va_P (dC, dI) cls [] s.heap := hP
  have hl := lv_entry ([.int p0]) (n := 1) (Nat.le_of_ble_eq_true rfl)
  rw [lg_entry_eq]
  generalize (lg_sl ([.int p0]) ++ List.replicate (1 - (lg_sl ([.int p0])).length) Slot.unset).toArray = ls at hl ⊢
  have hl : lv_has ls 1 [(0, .int p0)] := hl
  have k0 : (0 : Int32).toInt = 0 := by decide
  refine w_gen (A := A) hP (fun H locs hP hS => ?_)
  have lo_p0 := i32_lo p0
  have hi_p0 := i32_hi p0
  refine lv_iload_n hx hb d_CD_takesOne_0 rfl (lv_at hl 0 rfl) ?_
  refine lv_bipush (v := 69) hx hb d_CD_takesOne_1 (by decide) ?_
  have k69 : (69 : Int32).toInt = 69 := by decide
  refine lv_icmp_eq (tgt := 43) hx hb d_CD_takesOne_3 (by decide) (fun c3 => ?_) (fun c3 => ?_)
  · have q3 := eqI c3
    refine lv_iconst (v := 1) hx hb d_CD_takesOne_43 (by decide) ?_
    have k1 : (1 : Int32).toInt = 1 := by decide
    refine lv_goto (tgt := 48) hx hb d_CD_takesOne_44 (by decide) ?_
    have hP9 := hP.sb (wq := []) [] rfl
    have hD9 := hD.sb (wq := []) [] (by decide) rfl
    exact W.zret (v := 1) hx hb hr (zn01 (by first | exact Or.inl rfl | exact Or.inr rfl | exact hr1)) (fun t ht hW => ⟨⟨1, (), rfl, ⟨by first | exact Or.inl rfl | exact Or.inr rfl, by (try dsimp only); (first | (apply Int.le_antisymm <;> omega) | omega)⟩, va_P.he ht.symm hP9, va_K.moved hW.alike hK, hD9⟩, hS.F ht⟩) hS.2.2 d_CD_takesOne_48
  · have q3 := neI c3
    refine lv_iload_n hx hb d_CD_takesOne_6 rfl (lv_at hl 0 rfl) ?_
    refine lv_bipush (v := 80) hx hb d_CD_takesOne_7 (by decide) ?_
    have k80 : (80 : Int32).toInt = 80 := by decide
    refine lv_icmp_eq (tgt := 43) hx hb d_CD_takesOne_9 (by decide) (fun c9 => ?_) (fun c9 => ?_)
    · have q9 := eqI c9
      refine lv_iconst (v := 1) hx hb d_CD_takesOne_43 (by decide) ?_
      have k1 : (1 : Int32).toInt = 1 := by decide
      refine lv_goto (tgt := 48) hx hb d_CD_takesOne_44 (by decide) ?_
      have hP9 := hP.sb (wq := []) [] rfl
      have hD9 := hD.sb (wq := []) [] (by decide) rfl
      exact W.zret (v := 1) hx hb hr (zn01 (by first | exact Or.inl rfl | exact Or.inr rfl | exact hr1)) (fun t ht hW => ⟨⟨1, (), rfl, ⟨by first | exact Or.inl rfl | exact Or.inr rfl, by (try dsimp only); (first | (apply Int.le_antisymm <;> omega) | omega)⟩, va_P.he ht.symm hP9, va_K.moved hW.alike hK, hD9⟩, hS.F ht⟩) hS.2.2 d_CD_takesOne_48
    · have q9 := neI c9
      refine lv_iload_n hx hb d_CD_takesOne_12 rfl (lv_at hl 0 rfl) ?_
      refine lv_bipush (v := 103) hx hb d_CD_takesOne_13 (by decide) ?_
      have k103 : (103 : Int32).toInt = 103 := by decide
      refine lv_icmp_lt (tgt := 24) hx hb d_CD_takesOne_15 (by decide) (fun c15 => ?_) (fun c15 => ?_)
      · have q15 := ltI c15
        refine lv_iload_n hx hb d_CD_takesOne_24 rfl (lv_at hl 0 rfl) ?_
        refine lv_bipush (v := 121) hx hb d_CD_takesOne_25 (by decide) ?_
        have k121 : (121 : Int32).toInt = 121 := by decide
        refine lv_icmp_lt (tgt := 36) hx hb d_CD_takesOne_27 (by decide) (fun c27 => ?_) (fun c27 => ?_)
        · have q27 := ltI c27
          refine lv_iload_n hx hb d_CD_takesOne_36 rfl (lv_at hl 0 rfl) ?_
          refine lv_sipush (v := 138) hx hb d_CD_takesOne_37 (by decide) ?_
          have k138 : (138 : Int32).toInt = 138 := by decide
          refine lv_icmp_le (tgt := 47) hx hb d_CD_takesOne_40 (by decide) (fun c40 => ?_) (fun c40 => ?_)
          · have q40 := leI c40
            refine lv_iconst (v := 0) hx hb d_CD_takesOne_47 (by decide) ?_
            have k0 : (0 : Int32).toInt = 0 := by decide
            have hP9 := hP.sb (wq := []) [] rfl
            have hD9 := hD.sb (wq := []) [] (by decide) rfl
            exact W.zret (v := 0) hx hb hr (zn01 (by first | exact Or.inl rfl | exact Or.inr rfl | exact hr0)) (fun t ht hW => ⟨⟨0, (), rfl, ⟨by first | exact Or.inl rfl | exact Or.inr rfl, by (try dsimp only); (first | (apply Int.le_antisymm <;> omega) | omega)⟩, va_P.he ht.symm hP9, va_K.moved hW.alike hK, hD9⟩, hS.F ht⟩) hS.2.2 d_CD_takesOne_48
          · have q40 := nleI c40
            refine lv_iconst (v := 1) hx hb d_CD_takesOne_43 (by decide) ?_
            have k1 : (1 : Int32).toInt = 1 := by decide
            refine lv_goto (tgt := 48) hx hb d_CD_takesOne_44 (by decide) ?_
            have hP9 := hP.sb (wq := []) [] rfl
            have hD9 := hD.sb (wq := []) [] (by decide) rfl
            exact W.zret (v := 1) hx hb hr (zn01 (by first | exact Or.inl rfl | exact Or.inr rfl | exact hr1)) (fun t ht hW => ⟨⟨1, (), rfl, ⟨by first | exact Or.inl rfl | exact Or.inr rfl, by (try dsimp only); (first | (apply Int.le_antisymm <;> omega) | omega)⟩, va_P.he ht.symm hP9, va_K.moved hW.alike hK, hD9⟩, hS.F ht⟩) hS.2.2 d_CD_takesOne_48
        · have q27 := nltI c27
          refine lv_iload_n hx hb d_CD_takesOne_30 rfl (lv_at hl 0 rfl) ?_
          refine lv_bipush (v := 124) hx hb d_CD_takesOne_31 (by decide) ?_
          have k124 : (124 : Int32).toInt = 124 := by decide
          refine lv_icmp_lt (tgt := 43) hx hb d_CD_takesOne_33 (by decide) (fun c33 => ?_) (fun c33 => ?_)
          · have q33 := ltI c33
            refine lv_iconst (v := 1) hx hb d_CD_takesOne_43 (by decide) ?_
            have k1 : (1 : Int32).toInt = 1 := by decide
            refine lv_goto (tgt := 48) hx hb d_CD_takesOne_44 (by decide) ?_
            have hP9 := hP.sb (wq := []) [] rfl
            have hD9 := hD.sb (wq := []) [] (by decide) rfl
            exact W.zret (v := 1) hx hb hr (zn01 (by first | exact Or.inl rfl | exact Or.inr rfl | exact hr1)) (fun t ht hW => ⟨⟨1, (), rfl, ⟨by first | exact Or.inl rfl | exact Or.inr rfl, by (try dsimp only); (first | (apply Int.le_antisymm <;> omega) | omega)⟩, va_P.he ht.symm hP9, va_K.moved hW.alike hK, hD9⟩, hS.F ht⟩) hS.2.2 d_CD_takesOne_48
          · have q33 := nltI c33
            refine lv_iload_n hx hb d_CD_takesOne_36 rfl (lv_at hl 0 rfl) ?_
            refine lv_sipush (v := 138) hx hb d_CD_takesOne_37 (by decide) ?_
            have k138 : (138 : Int32).toInt = 138 := by decide
            refine lv_icmp_le (tgt := 47) hx hb d_CD_takesOne_40 (by decide) (fun c40 => ?_) (fun c40 => ?_)
            · have q40 := leI c40
              refine lv_iconst (v := 0) hx hb d_CD_takesOne_47 (by decide) ?_
              have k0 : (0 : Int32).toInt = 0 := by decide
              have hP9 := hP.sb (wq := []) [] rfl
              have hD9 := hD.sb (wq := []) [] (by decide) rfl
              exact W.zret (v := 0) hx hb hr (zn01 (by first | exact Or.inl rfl | exact Or.inr rfl | exact hr0)) (fun t ht hW => ⟨⟨0, (), rfl, ⟨by first | exact Or.inl rfl | exact Or.inr rfl, by (try dsimp only); (first | (apply Int.le_antisymm <;> omega) | omega)⟩, va_P.he ht.symm hP9, va_K.moved hW.alike hK, hD9⟩, hS.F ht⟩) hS.2.2 d_CD_takesOne_48
            · have q40 := nleI c40
              refine lv_iconst (v := 1) hx hb d_CD_takesOne_43 (by decide) ?_
              have k1 : (1 : Int32).toInt = 1 := by decide
              refine lv_goto (tgt := 48) hx hb d_CD_takesOne_44 (by decide) ?_
              have hP9 := hP.sb (wq := []) [] rfl
              have hD9 := hD.sb (wq := []) [] (by decide) rfl
              exact W.zret (v := 1) hx hb hr (zn01 (by first | exact Or.inl rfl | exact Or.inr rfl | exact hr1)) (fun t ht hW => ⟨⟨1, (), rfl, ⟨by first | exact Or.inl rfl | exact Or.inr rfl, by (try dsimp only); (first | (apply Int.le_antisymm <;> omega) | omega)⟩, va_P.he ht.symm hP9, va_K.moved hW.alike hK, hD9⟩, hS.F ht⟩) hS.2.2 d_CD_takesOne_48
      · have q15 := nltI c15
        refine lv_iload_n hx hb d_CD_takesOne_18 rfl (lv_at hl 0 rfl) ?_
        refine lv_bipush (v := 106) hx hb d_CD_takesOne_19 (by decide) ?_
        have k106 : (106 : Int32).toInt = 106 := by decide
        refine lv_icmp_lt (tgt := 43) hx hb d_CD_takesOne_21 (by decide) (fun c21 => ?_) (fun c21 => ?_)
        · have q21 := ltI c21
          refine lv_iconst (v := 1) hx hb d_CD_takesOne_43 (by decide) ?_
          have k1 : (1 : Int32).toInt = 1 := by decide
          refine lv_goto (tgt := 48) hx hb d_CD_takesOne_44 (by decide) ?_
          have hP9 := hP.sb (wq := []) [] rfl
          have hD9 := hD.sb (wq := []) [] (by decide) rfl
          exact W.zret (v := 1) hx hb hr (zn01 (by first | exact Or.inl rfl | exact Or.inr rfl | exact hr1)) (fun t ht hW => ⟨⟨1, (), rfl, ⟨by first | exact Or.inl rfl | exact Or.inr rfl, by (try dsimp only); (first | (apply Int.le_antisymm <;> omega) | omega)⟩, va_P.he ht.symm hP9, va_K.moved hW.alike hK, hD9⟩, hS.F ht⟩) hS.2.2 d_CD_takesOne_48
        · have q21 := nltI c21
          refine lv_iload_n hx hb d_CD_takesOne_24 rfl (lv_at hl 0 rfl) ?_
          refine lv_bipush (v := 121) hx hb d_CD_takesOne_25 (by decide) ?_
          have k121 : (121 : Int32).toInt = 121 := by decide
          refine lv_icmp_lt (tgt := 36) hx hb d_CD_takesOne_27 (by decide) (fun c27 => ?_) (fun c27 => ?_)
          · have q27 := ltI c27
            refine lv_iload_n hx hb d_CD_takesOne_36 rfl (lv_at hl 0 rfl) ?_
            refine lv_sipush (v := 138) hx hb d_CD_takesOne_37 (by decide) ?_
            have k138 : (138 : Int32).toInt = 138 := by decide
            refine lv_icmp_le (tgt := 47) hx hb d_CD_takesOne_40 (by decide) (fun c40 => ?_) (fun c40 => ?_)
            · have q40 := leI c40
              refine lv_iconst (v := 0) hx hb d_CD_takesOne_47 (by decide) ?_
              have k0 : (0 : Int32).toInt = 0 := by decide
              have hP9 := hP.sb (wq := []) [] rfl
              have hD9 := hD.sb (wq := []) [] (by decide) rfl
              exact W.zret (v := 0) hx hb hr (zn01 (by first | exact Or.inl rfl | exact Or.inr rfl | exact hr0)) (fun t ht hW => ⟨⟨0, (), rfl, ⟨by first | exact Or.inl rfl | exact Or.inr rfl, by (try dsimp only); (first | (apply Int.le_antisymm <;> omega) | omega)⟩, va_P.he ht.symm hP9, va_K.moved hW.alike hK, hD9⟩, hS.F ht⟩) hS.2.2 d_CD_takesOne_48
            · have q40 := nleI c40
              refine lv_iconst (v := 1) hx hb d_CD_takesOne_43 (by decide) ?_
              have k1 : (1 : Int32).toInt = 1 := by decide
              refine lv_goto (tgt := 48) hx hb d_CD_takesOne_44 (by decide) ?_
              have hP9 := hP.sb (wq := []) [] rfl
              have hD9 := hD.sb (wq := []) [] (by decide) rfl
              exact W.zret (v := 1) hx hb hr (zn01 (by first | exact Or.inl rfl | exact Or.inr rfl | exact hr1)) (fun t ht hW => ⟨⟨1, (), rfl, ⟨by first | exact Or.inl rfl | exact Or.inr rfl, by (try dsimp only); (first | (apply Int.le_antisymm <;> omega) | omega)⟩, va_P.he ht.symm hP9, va_K.moved hW.alike hK, hD9⟩, hS.F ht⟩) hS.2.2 d_CD_takesOne_48
          · have q27 := nltI c27
            refine lv_iload_n hx hb d_CD_takesOne_30 rfl (lv_at hl 0 rfl) ?_
            refine lv_bipush (v := 124) hx hb d_CD_takesOne_31 (by decide) ?_
            have k124 : (124 : Int32).toInt = 124 := by decide
            refine lv_icmp_lt (tgt := 43) hx hb d_CD_takesOne_33 (by decide) (fun c33 => ?_) (fun c33 => ?_)
            · have q33 := ltI c33
              refine lv_iconst (v := 1) hx hb d_CD_takesOne_43 (by decide) ?_
              have k1 : (1 : Int32).toInt = 1 := by decide
              refine lv_goto (tgt := 48) hx hb d_CD_takesOne_44 (by decide) ?_
              have hP9 := hP.sb (wq := []) [] rfl
              have hD9 := hD.sb (wq := []) [] (by decide) rfl
              exact W.zret (v := 1) hx hb hr (zn01 (by first | exact Or.inl rfl | exact Or.inr rfl | exact hr1)) (fun t ht hW => ⟨⟨1, (), rfl, ⟨by first | exact Or.inl rfl | exact Or.inr rfl, by (try dsimp only); (first | (apply Int.le_antisymm <;> omega) | omega)⟩, va_P.he ht.symm hP9, va_K.moved hW.alike hK, hD9⟩, hS.F ht⟩) hS.2.2 d_CD_takesOne_48
            · have q33 := nltI c33
              refine lv_iload_n hx hb d_CD_takesOne_36 rfl (lv_at hl 0 rfl) ?_
              refine lv_sipush (v := 138) hx hb d_CD_takesOne_37 (by decide) ?_
              have k138 : (138 : Int32).toInt = 138 := by decide
              refine lv_icmp_le (tgt := 47) hx hb d_CD_takesOne_40 (by decide) (fun c40 => ?_) (fun c40 => ?_)
              · have q40 := leI c40
                refine lv_iconst (v := 0) hx hb d_CD_takesOne_47 (by decide) ?_
                have k0 : (0 : Int32).toInt = 0 := by decide
                have hP9 := hP.sb (wq := []) [] rfl
                have hD9 := hD.sb (wq := []) [] (by decide) rfl
                exact W.zret (v := 0) hx hb hr (zn01 (by first | exact Or.inl rfl | exact Or.inr rfl | exact hr0)) (fun t ht hW => ⟨⟨0, (), rfl, ⟨by first | exact Or.inl rfl | exact Or.inr rfl, by (try dsimp only); (first | (apply Int.le_antisymm <;> omega) | omega)⟩, va_P.he ht.symm hP9, va_K.moved hW.alike hK, hD9⟩, hS.F ht⟩) hS.2.2 d_CD_takesOne_48
              · have q40 := nleI c40
                refine lv_iconst (v := 1) hx hb d_CD_takesOne_43 (by decide) ?_
                have k1 : (1 : Int32).toInt = 1 := by decide
                refine lv_goto (tgt := 48) hx hb d_CD_takesOne_44 (by decide) ?_
                have hP9 := hP.sb (wq := []) [] rfl
                have hD9 := hD.sb (wq := []) [] (by decide) rfl
                exact W.zret (v := 1) hx hb hr (zn01 (by first | exact Or.inl rfl | exact Or.inr rfl | exact hr1)) (fun t ht hW => ⟨⟨1, (), rfl, ⟨by first | exact Or.inl rfl | exact Or.inr rfl, by (try dsimp only); (first | (apply Int.le_antisymm <;> omega) | omega)⟩, va_P.he ht.symm hP9, va_K.moved hW.alike hK, hD9⟩, hS.F ht⟩) hS.2.2 d_CD_takesOne_48
abbrev b_CD_operandType : ByteArray := prog_5_method_8_code
def y_CD_operandType : MethodName := ⟨R_CD, "operandType", "(I)I"⟩
abbrev w_CD_operandType : List Cond := .code y_CD_operandType b_CD_operandType 1 (Option.some .int) :: lw_g
theorem kC_CD_operandType : Cond.code y_CD_operandType b_CD_operandType 1 (Option.some .int) ∈ lw_g := in_c7 48 rfl rfl
theorem d_CD_operandType_0 : decode b_CD_operandType 0 = .ok (.iload_n 0, 1) := bz_c26 (by decide +kernel)
theorem d_CD_operandType_1 : decode b_CD_operandType 1 = .ok (.bipush 80, 2) := bz_c16 (by decide +kernel)
theorem d_CD_operandType_3 : decode b_CD_operandType 3 = .ok (.if_icmp .lt 9, 3) := bz_c161 (by decide +kernel)
theorem d_CD_operandType_6 : decode b_CD_operandType 6 = .ok (.iload_n 0, 1) := bz_c26 (by decide +kernel)
theorem d_CD_operandType_7 : decode b_CD_operandType 7 = .ok (.bipush 90, 2) := bz_c16 (by decide +kernel)
theorem d_CD_operandType_9 : decode b_CD_operandType 9 = .ok (.if_icmp .le 23, 3) := bz_c164 (by decide +kernel)
theorem d_CD_operandType_12 : decode b_CD_operandType 12 = .ok (.iload_n 0, 1) := bz_c26 (by decide +kernel)
theorem d_CD_operandType_13 : decode b_CD_operandType 13 = .ok (.bipush 121, 2) := bz_c16 (by decide +kernel)
theorem d_CD_operandType_15 : decode b_CD_operandType 15 = .ok (.if_icmp .lt 10, 3) := bz_c161 (by decide +kernel)
theorem d_CD_operandType_18 : decode b_CD_operandType 18 = .ok (.iload_n 0, 1) := bz_c26 (by decide +kernel)
theorem d_CD_operandType_19 : decode b_CD_operandType 19 = .ok (.sipush 138, 3) := bz_c17 (by decide +kernel)
theorem d_CD_operandType_22 : decode b_CD_operandType 22 = .ok (.if_icmp .le 10, 3) := bz_c164 (by decide +kernel)
theorem d_CD_operandType_25 : decode b_CD_operandType 25 = .ok (.iload_n 0, 1) := bz_c26 (by decide +kernel)
theorem d_CD_operandType_26 : decode b_CD_operandType 26 = .ok (.sipush 167, 3) := bz_c17 (by decide +kernel)
theorem d_CD_operandType_29 : decode b_CD_operandType 29 = .ok (.if_icmp .ne 8, 3) := bz_c160 (by decide +kernel)
theorem d_CD_operandType_32 : decode b_CD_operandType 32 = .ok (.bipush 126, 2) := bz_c16 (by decide +kernel)
theorem d_CD_operandType_34 : decode b_CD_operandType 34 = .ok (.goto 5, 3) := bz_c167 (by decide +kernel)
theorem d_CD_operandType_37 : decode b_CD_operandType 37 = .ok (.bipush 127, 2) := bz_c16 (by decide +kernel)
theorem d_CD_operandType_39 : decode b_CD_operandType 39 = .ok (.ireturn, 1) := bz_c172 (by decide +kernel)
set_option maxHeartbeats 4000000 in
set_option maxRecDepth 100000 in
theorem c_CD_operandType (l : Launch) (dC : Nat → ClassId) (dI : Nat → Nat → Nat) (sz : Nat) (p0 : Int32) : Met l y_CD_operandType w_CD_operandType ({ frames := 0, cells := 0, slots := 0, locals := 0 }) (va_Pc [.int p0] (fun U => U.heap.size = sz ∧ va_P (dC, dI) cls [] U.heap ∧ va_K (dC, dI) cls [] U ∧ va_D (fun _ => True) [])) (va_Qi (fun (r : Int32) (_ : Unit) => r.toInt = 126 ∨ r.toInt = 127) (no_at dC dI (va_A [] sz)) (va_A [] sz)) 0 0 (va_A [] sz) := by
  refine Met.ofW (cc := b_CD_operandType) (maxL := 1) (ret := (Option.some .int)) (by decide) rfl ?_
  intro p e s m args below meth c s₁ B hml hv
  obtain ⟨rfl, hsz, hP, hK, hD0⟩ := hv
  have hx := B.exec
  have hb := B.bytes
  have hr := B.returns
  have hts0 := atoms_spec (ws := w_CD_operandType) B.pre
  have hts : ∀ w ∈ lw_g, w.before _ s = true := fun w h => hts0 w (List.mem_cons_of_mem _ h)
  have hown : s.vm.findClass R_CD = some m.cls := findClass_of_methodNamed B.named
  have hlocks := B.notSynchronized
  clear hts0
  subst hsz
  have hD := hD0.self (sz := s.heap.size)
  generalize hAe : va_A [] s.heap.size = A at hD ⊢
  have hA : ∀ q : Nat, s.heap.size ≤ q → A q := fun q h => by rw [← hAe]; exact Or.inr h
  clear hAe
  have hP : va_P (dC, dI) cls [] s.heap := hP
  have hl := lv_entry ([.int p0]) (n := 1) (Nat.le_of_ble_eq_true rfl)
  rw [lg_entry_eq]
  generalize (lg_sl ([.int p0]) ++ List.replicate (1 - (lg_sl ([.int p0])).length) Slot.unset).toArray = ls at hl ⊢
  have hl : lv_has ls 1 [(0, .int p0)] := hl
  have k0 : (0 : Int32).toInt = 0 := by decide
  refine w_gen (A := A) hP (fun H locs hP hS => ?_)
  have lo_p0 := i32_lo p0
  have hi_p0 := i32_hi p0
  refine lv_iload_n hx hb d_CD_operandType_0 rfl (lv_at hl 0 rfl) ?_
  refine lv_bipush (v := 80) hx hb d_CD_operandType_1 (by decide) ?_
  have k80 : (80 : Int32).toInt = 80 := by decide
  refine lv_icmp_lt (tgt := 12) hx hb d_CD_operandType_3 (by decide) (fun c3 => ?_) (fun c3 => ?_)
  · have q3 := ltI c3
    refine lv_iload_n hx hb d_CD_operandType_12 rfl (lv_at hl 0 rfl) ?_
    refine lv_bipush (v := 121) hx hb d_CD_operandType_13 (by decide) ?_
    have k121 : (121 : Int32).toInt = 121 := by decide
    refine lv_icmp_lt (tgt := 25) hx hb d_CD_operandType_15 (by decide) (fun c15 => ?_) (fun c15 => ?_)
    · have q15 := ltI c15
      refine lv_iload_n hx hb d_CD_operandType_25 rfl (lv_at hl 0 rfl) ?_
      refine lv_sipush (v := 167) hx hb d_CD_operandType_26 (by decide) ?_
      have k167 : (167 : Int32).toInt = 167 := by decide
      refine lv_icmp_ne (tgt := 37) hx hb d_CD_operandType_29 (by decide) (fun c29 => ?_) (fun c29 => ?_)
      · have q29 := neI c29
        refine lv_bipush (v := 127) hx hb d_CD_operandType_37 (by decide) ?_
        have k127 : (127 : Int32).toInt = 127 := by decide
        have hP9 := hP.sb (wq := []) [] rfl
        have hD9 := hD.sb (wq := []) [] (by decide) rfl
        exact W.iret (v := 127) hx hb hr (fun t ht hW => ⟨⟨127, (), rfl, (by (try dsimp only); (first | (apply Int.le_antisymm <;> omega) | omega)), va_P.he ht.symm hP9, va_K.moved hW.alike hK, hD9⟩, hS.F ht⟩) hS.2.2 d_CD_operandType_39
      · have q29 := eqI c29
        refine lv_bipush (v := 126) hx hb d_CD_operandType_32 (by decide) ?_
        have k126 : (126 : Int32).toInt = 126 := by decide
        refine lv_goto (tgt := 39) hx hb d_CD_operandType_34 (by decide) ?_
        have hP9 := hP.sb (wq := []) [] rfl
        have hD9 := hD.sb (wq := []) [] (by decide) rfl
        exact W.iret (v := 126) hx hb hr (fun t ht hW => ⟨⟨126, (), rfl, (by (try dsimp only); (first | (apply Int.le_antisymm <;> omega) | omega)), va_P.he ht.symm hP9, va_K.moved hW.alike hK, hD9⟩, hS.F ht⟩) hS.2.2 d_CD_operandType_39
    · have q15 := nltI c15
      refine lv_iload_n hx hb d_CD_operandType_18 rfl (lv_at hl 0 rfl) ?_
      refine lv_sipush (v := 138) hx hb d_CD_operandType_19 (by decide) ?_
      have k138 : (138 : Int32).toInt = 138 := by decide
      refine lv_icmp_le (tgt := 32) hx hb d_CD_operandType_22 (by decide) (fun c22 => ?_) (fun c22 => ?_)
      · have q22 := leI c22
        refine lv_bipush (v := 126) hx hb d_CD_operandType_32 (by decide) ?_
        have k126 : (126 : Int32).toInt = 126 := by decide
        refine lv_goto (tgt := 39) hx hb d_CD_operandType_34 (by decide) ?_
        have hP9 := hP.sb (wq := []) [] rfl
        have hD9 := hD.sb (wq := []) [] (by decide) rfl
        exact W.iret (v := 126) hx hb hr (fun t ht hW => ⟨⟨126, (), rfl, (by (try dsimp only); (first | (apply Int.le_antisymm <;> omega) | omega)), va_P.he ht.symm hP9, va_K.moved hW.alike hK, hD9⟩, hS.F ht⟩) hS.2.2 d_CD_operandType_39
      · have q22 := nleI c22
        refine lv_iload_n hx hb d_CD_operandType_25 rfl (lv_at hl 0 rfl) ?_
        refine lv_sipush (v := 167) hx hb d_CD_operandType_26 (by decide) ?_
        have k167 : (167 : Int32).toInt = 167 := by decide
        refine lv_icmp_ne (tgt := 37) hx hb d_CD_operandType_29 (by decide) (fun c29 => ?_) (fun c29 => ?_)
        · have q29 := neI c29
          refine lv_bipush (v := 127) hx hb d_CD_operandType_37 (by decide) ?_
          have k127 : (127 : Int32).toInt = 127 := by decide
          have hP9 := hP.sb (wq := []) [] rfl
          have hD9 := hD.sb (wq := []) [] (by decide) rfl
          exact W.iret (v := 127) hx hb hr (fun t ht hW => ⟨⟨127, (), rfl, (by (try dsimp only); (first | (apply Int.le_antisymm <;> omega) | omega)), va_P.he ht.symm hP9, va_K.moved hW.alike hK, hD9⟩, hS.F ht⟩) hS.2.2 d_CD_operandType_39
        · have q29 := eqI c29
          refine lv_bipush (v := 126) hx hb d_CD_operandType_32 (by decide) ?_
          have k126 : (126 : Int32).toInt = 126 := by decide
          refine lv_goto (tgt := 39) hx hb d_CD_operandType_34 (by decide) ?_
          have hP9 := hP.sb (wq := []) [] rfl
          have hD9 := hD.sb (wq := []) [] (by decide) rfl
          exact W.iret (v := 126) hx hb hr (fun t ht hW => ⟨⟨126, (), rfl, (by (try dsimp only); (first | (apply Int.le_antisymm <;> omega) | omega)), va_P.he ht.symm hP9, va_K.moved hW.alike hK, hD9⟩, hS.F ht⟩) hS.2.2 d_CD_operandType_39
  · have q3 := nltI c3
    refine lv_iload_n hx hb d_CD_operandType_6 rfl (lv_at hl 0 rfl) ?_
    refine lv_bipush (v := 90) hx hb d_CD_operandType_7 (by decide) ?_
    have k90 : (90 : Int32).toInt = 90 := by decide
    refine lv_icmp_le (tgt := 32) hx hb d_CD_operandType_9 (by decide) (fun c9 => ?_) (fun c9 => ?_)
    · have q9 := leI c9
      refine lv_bipush (v := 126) hx hb d_CD_operandType_32 (by decide) ?_
      have k126 : (126 : Int32).toInt = 126 := by decide
      refine lv_goto (tgt := 39) hx hb d_CD_operandType_34 (by decide) ?_
      have hP9 := hP.sb (wq := []) [] rfl
      have hD9 := hD.sb (wq := []) [] (by decide) rfl
      exact W.iret (v := 126) hx hb hr (fun t ht hW => ⟨⟨126, (), rfl, (by (try dsimp only); (first | (apply Int.le_antisymm <;> omega) | omega)), va_P.he ht.symm hP9, va_K.moved hW.alike hK, hD9⟩, hS.F ht⟩) hS.2.2 d_CD_operandType_39
    · have q9 := nleI c9
      refine lv_iload_n hx hb d_CD_operandType_12 rfl (lv_at hl 0 rfl) ?_
      refine lv_bipush (v := 121) hx hb d_CD_operandType_13 (by decide) ?_
      have k121 : (121 : Int32).toInt = 121 := by decide
      refine lv_icmp_lt (tgt := 25) hx hb d_CD_operandType_15 (by decide) (fun c15 => ?_) (fun c15 => ?_)
      · have q15 := ltI c15
        refine lv_iload_n hx hb d_CD_operandType_25 rfl (lv_at hl 0 rfl) ?_
        refine lv_sipush (v := 167) hx hb d_CD_operandType_26 (by decide) ?_
        have k167 : (167 : Int32).toInt = 167 := by decide
        refine lv_icmp_ne (tgt := 37) hx hb d_CD_operandType_29 (by decide) (fun c29 => ?_) (fun c29 => ?_)
        · have q29 := neI c29
          refine lv_bipush (v := 127) hx hb d_CD_operandType_37 (by decide) ?_
          have k127 : (127 : Int32).toInt = 127 := by decide
          have hP9 := hP.sb (wq := []) [] rfl
          have hD9 := hD.sb (wq := []) [] (by decide) rfl
          exact W.iret (v := 127) hx hb hr (fun t ht hW => ⟨⟨127, (), rfl, (by (try dsimp only); (first | (apply Int.le_antisymm <;> omega) | omega)), va_P.he ht.symm hP9, va_K.moved hW.alike hK, hD9⟩, hS.F ht⟩) hS.2.2 d_CD_operandType_39
        · have q29 := eqI c29
          refine lv_bipush (v := 126) hx hb d_CD_operandType_32 (by decide) ?_
          have k126 : (126 : Int32).toInt = 126 := by decide
          refine lv_goto (tgt := 39) hx hb d_CD_operandType_34 (by decide) ?_
          have hP9 := hP.sb (wq := []) [] rfl
          have hD9 := hD.sb (wq := []) [] (by decide) rfl
          exact W.iret (v := 126) hx hb hr (fun t ht hW => ⟨⟨126, (), rfl, (by (try dsimp only); (first | (apply Int.le_antisymm <;> omega) | omega)), va_P.he ht.symm hP9, va_K.moved hW.alike hK, hD9⟩, hS.F ht⟩) hS.2.2 d_CD_operandType_39
      · have q15 := nltI c15
        refine lv_iload_n hx hb d_CD_operandType_18 rfl (lv_at hl 0 rfl) ?_
        refine lv_sipush (v := 138) hx hb d_CD_operandType_19 (by decide) ?_
        have k138 : (138 : Int32).toInt = 138 := by decide
        refine lv_icmp_le (tgt := 32) hx hb d_CD_operandType_22 (by decide) (fun c22 => ?_) (fun c22 => ?_)
        · have q22 := leI c22
          refine lv_bipush (v := 126) hx hb d_CD_operandType_32 (by decide) ?_
          have k126 : (126 : Int32).toInt = 126 := by decide
          refine lv_goto (tgt := 39) hx hb d_CD_operandType_34 (by decide) ?_
          have hP9 := hP.sb (wq := []) [] rfl
          have hD9 := hD.sb (wq := []) [] (by decide) rfl
          exact W.iret (v := 126) hx hb hr (fun t ht hW => ⟨⟨126, (), rfl, (by (try dsimp only); (first | (apply Int.le_antisymm <;> omega) | omega)), va_P.he ht.symm hP9, va_K.moved hW.alike hK, hD9⟩, hS.F ht⟩) hS.2.2 d_CD_operandType_39
        · have q22 := nleI c22
          refine lv_iload_n hx hb d_CD_operandType_25 rfl (lv_at hl 0 rfl) ?_
          refine lv_sipush (v := 167) hx hb d_CD_operandType_26 (by decide) ?_
          have k167 : (167 : Int32).toInt = 167 := by decide
          refine lv_icmp_ne (tgt := 37) hx hb d_CD_operandType_29 (by decide) (fun c29 => ?_) (fun c29 => ?_)
          · have q29 := neI c29
            refine lv_bipush (v := 127) hx hb d_CD_operandType_37 (by decide) ?_
            have k127 : (127 : Int32).toInt = 127 := by decide
            have hP9 := hP.sb (wq := []) [] rfl
            have hD9 := hD.sb (wq := []) [] (by decide) rfl
            exact W.iret (v := 127) hx hb hr (fun t ht hW => ⟨⟨127, (), rfl, (by (try dsimp only); (first | (apply Int.le_antisymm <;> omega) | omega)), va_P.he ht.symm hP9, va_K.moved hW.alike hK, hD9⟩, hS.F ht⟩) hS.2.2 d_CD_operandType_39
          · have q29 := eqI c29
            refine lv_bipush (v := 126) hx hb d_CD_operandType_32 (by decide) ?_
            have k126 : (126 : Int32).toInt = 126 := by decide
            refine lv_goto (tgt := 39) hx hb d_CD_operandType_34 (by decide) ?_
            have hP9 := hP.sb (wq := []) [] rfl
            have hD9 := hD.sb (wq := []) [] (by decide) rfl
            exact W.iret (v := 126) hx hb hr (fun t ht hW => ⟨⟨126, (), rfl, (by (try dsimp only); (first | (apply Int.le_antisymm <;> omega) | omega)), va_P.he ht.symm hP9, va_K.moved hW.alike hK, hD9⟩, hS.F ht⟩) hS.2.2 d_CD_operandType_39
abbrev b_CD_resultType : ByteArray := prog_5_method_9_code
def y_CD_resultType : MethodName := ⟨R_CD, "resultType", "(I)I"⟩
abbrev w_CD_resultType : List Cond := .code y_CD_resultType b_CD_resultType 1 (Option.some .int) :: lw_g
theorem kC_CD_resultType : Cond.code y_CD_resultType b_CD_resultType 1 (Option.some .int) ∈ lw_g := in_c7 54 rfl rfl
theorem d_CD_resultType_0 : decode b_CD_resultType 0 = .ok (.iload_n 0, 1) := bz_c26 (by decide +kernel)
theorem d_CD_resultType_1 : decode b_CD_resultType 1 = .ok (.bipush 120, 2) := bz_c16 (by decide +kernel)
theorem d_CD_resultType_3 : decode b_CD_resultType 3 = .ok (.if_icmp .le 10, 3) := bz_c164 (by decide +kernel)
theorem d_CD_resultType_6 : decode b_CD_resultType 6 = .ok (.iload_n 0, 1) := bz_c26 (by decide +kernel)
theorem d_CD_resultType_7 : decode b_CD_resultType 7 = .ok (.sipush 167, 3) := bz_c17 (by decide +kernel)
theorem d_CD_resultType_10 : decode b_CD_resultType 10 = .ok (.if_icmp .ne 8, 3) := bz_c160 (by decide +kernel)
theorem d_CD_resultType_13 : decode b_CD_resultType 13 = .ok (.bipush 127, 2) := bz_c16 (by decide +kernel)
theorem d_CD_resultType_15 : decode b_CD_resultType 15 = .ok (.goto 5, 3) := bz_c167 (by decide +kernel)
theorem d_CD_resultType_18 : decode b_CD_resultType 18 = .ok (.bipush 126, 2) := bz_c16 (by decide +kernel)
theorem d_CD_resultType_20 : decode b_CD_resultType 20 = .ok (.ireturn, 1) := bz_c172 (by decide +kernel)
set_option maxHeartbeats 4000000 in
set_option maxRecDepth 100000 in
theorem c_CD_resultType (l : Launch) (dC : Nat → ClassId) (dI : Nat → Nat → Nat) (sz : Nat) (p0 : Int32) : Met l y_CD_resultType w_CD_resultType ({ frames := 0, cells := 0, slots := 0, locals := 0 }) (va_Pc [.int p0] (fun U => U.heap.size = sz ∧ va_P (dC, dI) cls [] U.heap ∧ va_K (dC, dI) cls [] U ∧ va_D (fun _ => True) [])) (va_Qi (fun (r : Int32) (_ : Unit) => r.toInt = 126 ∨ r.toInt = 127) (no_at dC dI (va_A [] sz)) (va_A [] sz)) 0 0 (va_A [] sz) := by
  refine Met.ofW (cc := b_CD_resultType) (maxL := 1) (ret := (Option.some .int)) (by decide) rfl ?_
  intro p e s m args below meth c s₁ B hml hv
  obtain ⟨rfl, hsz, hP, hK, hD0⟩ := hv
  have hx := B.exec
  have hb := B.bytes
  have hr := B.returns
  have hts0 := atoms_spec (ws := w_CD_resultType) B.pre
  have hts : ∀ w ∈ lw_g, w.before _ s = true := fun w h => hts0 w (List.mem_cons_of_mem _ h)
  have hown : s.vm.findClass R_CD = some m.cls := findClass_of_methodNamed B.named
  have hlocks := B.notSynchronized
  clear hts0
  subst hsz
  have hD := hD0.self (sz := s.heap.size)
  generalize hAe : va_A [] s.heap.size = A at hD ⊢
  have hA : ∀ q : Nat, s.heap.size ≤ q → A q := fun q h => by rw [← hAe]; exact Or.inr h
  clear hAe
  have hP : va_P (dC, dI) cls [] s.heap := hP
  have hl := lv_entry ([.int p0]) (n := 1) (Nat.le_of_ble_eq_true rfl)
  rw [lg_entry_eq]
  generalize (lg_sl ([.int p0]) ++ List.replicate (1 - (lg_sl ([.int p0])).length) Slot.unset).toArray = ls at hl ⊢
  have hl : lv_has ls 1 [(0, .int p0)] := hl
  have k0 : (0 : Int32).toInt = 0 := by decide
  refine w_gen (A := A) hP (fun H locs hP hS => ?_)
  have lo_p0 := i32_lo p0
  have hi_p0 := i32_hi p0
  refine lv_iload_n hx hb d_CD_resultType_0 rfl (lv_at hl 0 rfl) ?_
  refine lv_bipush (v := 120) hx hb d_CD_resultType_1 (by decide) ?_
  have k120 : (120 : Int32).toInt = 120 := by decide
  refine lv_icmp_le (tgt := 13) hx hb d_CD_resultType_3 (by decide) (fun c3 => ?_) (fun c3 => ?_)
  · have q3 := leI c3
    refine lv_bipush (v := 127) hx hb d_CD_resultType_13 (by decide) ?_
    have k127 : (127 : Int32).toInt = 127 := by decide
    refine lv_goto (tgt := 20) hx hb d_CD_resultType_15 (by decide) ?_
    have hP9 := hP.sb (wq := []) [] rfl
    have hD9 := hD.sb (wq := []) [] (by decide) rfl
    exact W.iret (v := 127) hx hb hr (fun t ht hW => ⟨⟨127, (), rfl, (by (try dsimp only); (first | (apply Int.le_antisymm <;> omega) | omega)), va_P.he ht.symm hP9, va_K.moved hW.alike hK, hD9⟩, hS.F ht⟩) hS.2.2 d_CD_resultType_20
  · have q3 := nleI c3
    refine lv_iload_n hx hb d_CD_resultType_6 rfl (lv_at hl 0 rfl) ?_
    refine lv_sipush (v := 167) hx hb d_CD_resultType_7 (by decide) ?_
    have k167 : (167 : Int32).toInt = 167 := by decide
    refine lv_icmp_ne (tgt := 18) hx hb d_CD_resultType_10 (by decide) (fun c10 => ?_) (fun c10 => ?_)
    · have q10 := neI c10
      refine lv_bipush (v := 126) hx hb d_CD_resultType_18 (by decide) ?_
      have k126 : (126 : Int32).toInt = 126 := by decide
      have hP9 := hP.sb (wq := []) [] rfl
      have hD9 := hD.sb (wq := []) [] (by decide) rfl
      exact W.iret (v := 126) hx hb hr (fun t ht hW => ⟨⟨126, (), rfl, (by (try dsimp only); (first | (apply Int.le_antisymm <;> omega) | omega)), va_P.he ht.symm hP9, va_K.moved hW.alike hK, hD9⟩, hS.F ht⟩) hS.2.2 d_CD_resultType_20
    · have q10 := eqI c10
      refine lv_bipush (v := 127) hx hb d_CD_resultType_13 (by decide) ?_
      have k127 : (127 : Int32).toInt = 127 := by decide
      refine lv_goto (tgt := 20) hx hb d_CD_resultType_15 (by decide) ?_
      have hP9 := hP.sb (wq := []) [] rfl
      have hD9 := hD.sb (wq := []) [] (by decide) rfl
      exact W.iret (v := 127) hx hb hr (fun t ht hW => ⟨⟨127, (), rfl, (by (try dsimp only); (first | (apply Int.le_antisymm <;> omega) | omega)), va_P.he ht.symm hP9, va_K.moved hW.alike hK, hD9⟩, hS.F ht⟩) hS.2.2 d_CD_resultType_20
end q_05

/-! Coder: what waits -/
abbrev b_CO_push : ByteArray := prog_4_method_30_code
def y_CO_push : MethodName := ⟨R_CO, "push", "(I)V"⟩
abbrev w_CO_push : List Cond := .code y_CO_push b_CO_push 2 none :: lw_g
theorem kC_CO_push : Cond.code y_CO_push b_CO_push 2 none ∈ lw_g := in_g 1121 (by decide +kernel) rfl
theorem d_CO_push_0 : decode b_CO_push 0 = .ok (.aload_n 0, 1) := by decide +kernel
theorem d_CO_push_1 : decode b_CO_push 1 = .ok (.getfield 112, 3) := by decide +kernel
theorem d_CO_push_4 : decode b_CO_push 4 = .ok (.aload_n 0, 1) := by decide +kernel
theorem d_CO_push_5 : decode b_CO_push 5 = .ok (.getfield 15, 3) := by decide +kernel
theorem d_CO_push_8 : decode b_CO_push 8 = .ok (.arraylength, 1) := by decide +kernel
theorem d_CO_push_9 : decode b_CO_push 9 = .ok (.if_icmp .ge 20, 3) := by decide +kernel
theorem d_CO_push_12 : decode b_CO_push 12 = .ok (.aload_n 0, 1) := by decide +kernel
theorem d_CO_push_13 : decode b_CO_push 13 = .ok (.getfield 15, 3) := by decide +kernel
theorem d_CO_push_16 : decode b_CO_push 16 = .ok (.aload_n 0, 1) := by decide +kernel
theorem d_CO_push_17 : decode b_CO_push 17 = .ok (.dup, 1) := by decide +kernel
theorem d_CO_push_18 : decode b_CO_push 18 = .ok (.getfield 112, 3) := by decide +kernel
theorem d_CO_push_21 : decode b_CO_push 21 = .ok (.dup_x1, 1) := by decide +kernel
theorem d_CO_push_22 : decode b_CO_push 22 = .ok (.iconst 1, 1) := by decide +kernel
theorem d_CO_push_23 : decode b_CO_push 23 = .ok (.iadd, 1) := by decide +kernel
theorem d_CO_push_24 : decode b_CO_push 24 = .ok (.putfield 112, 3) := by decide +kernel
theorem d_CO_push_27 : decode b_CO_push 27 = .ok (.iload_n 1, 1) := by decide +kernel
theorem d_CO_push_28 : decode b_CO_push 28 = .ok (.iastore, 1) := by decide +kernel
theorem d_CO_push_29 : decode b_CO_push 29 = .ok (.return_, 1) := by decide +kernel
theorem kF_CO_112 : Cond.fieldLink R_CO 112 "WaferForge$Coder" "pendingCount" "I" ∈ lw_g := in_g 425 (by decide +kernel) rfl
theorem kF_CO_15 : Cond.fieldLink R_CO 15 "WaferForge$Coder" "pending" "[I" ∈ lw_g := in_g 424 (by decide +kernel) rfl
abbrev at_CO_push (dC : Nat → ClassId) (dI : Nat → Nat → Nat) (h0 h0_program_r h0_known_r lt pe to bo cs se : Nat) (cpe : ClassId) (h0_localCount : Int32) (h0_gives : Int32) (h0_depth : Int32) (h0_loopDepth : Int32) (A : Nat → Prop) (u : (Nat → Int32) × Int32) (t : State) : Prop := match u with | (gpe, h0_pendingCount) => va_P (dC, dI) cls [(h0, .inr (2, [.ref h0_program_r, .ref h0_known_r, .ref lt, .int h0_localCount, .ref pe, .int h0_pendingCount, .int h0_gives, .int h0_depth, .int h0_loopDepth, .ref to, .ref bo, .ref cs, .ref se])), (pe, .inl (cpe, 680, .inl gpe))] t.heap ∧ va_K (dC, dI) cls [(cpe, .int)] t ∧ va_D A [(h0, .inr (2, [.ref h0_program_r, .ref h0_known_r, .ref lt, .int h0_localCount, .ref pe, .int h0_pendingCount, .int h0_gives, .int h0_depth, .int h0_loopDepth, .ref to, .ref bo, .ref cs, .ref se])), (pe, .inl (cpe, 680, .inl gpe))]
set_option maxHeartbeats 4000000 in
set_option maxRecDepth 100000 in
theorem c_CO_push (l : Launch) (dC : Nat → ClassId) (dI : Nat → Nat → Nat) (sz : Nat) (h0 h0_program_r h0_known_r lt pe to bo cs se : Nat) (cpe : ClassId) (h0_localCount : Int32) (h0_pendingCount : Int32) (h0_gives : Int32) (h0_depth : Int32) (h0_loopDepth : Int32) (gpe : Nat → Int32)  (b_h0_pendingCount : 0 ≤ h0_pendingCount.toInt ∧ h0_pendingCount.toInt ≤ 680) (p0 : Int32)  (hpc : h0_pendingCount.toInt < 680) : Met l y_CO_push w_CO_push ({ frames := 0, cells := 0, slots := 0, locals := 0 }) (va_Pc [.ref h0, .int p0] (fun U => U.heap.size = sz ∧ va_P (dC, dI) cls [(h0, .inr (2, [.ref h0_program_r, .ref h0_known_r, .ref lt, .int h0_localCount, .ref pe, .int h0_pendingCount, .int h0_gives, .int h0_depth, .int h0_loopDepth, .ref to, .ref bo, .ref cs, .ref se])), (pe, .inl (cpe, 680, .inl gpe))] U.heap ∧ va_K (dC, dI) cls [(cpe, .int)] U ∧ va_D (fun _ => True) [(h0, .inr (2, [.ref h0_program_r, .ref h0_known_r, .ref lt, .int h0_localCount, .ref pe, .int h0_pendingCount, .int h0_gives, .int h0_depth, .int h0_loopDepth, .ref to, .ref bo, .ref cs, .ref se])), (pe, .inl (cpe, 680, .inl gpe))])) (va_Qv (fun (u : (Nat → Int32) × Int32) => match u with | (gpe2, h0_pendingCount2) => (0 ≤ h0_pendingCount2.toInt ∧ h0_pendingCount2.toInt ≤ 680) ∧ (h0_pendingCount2.toInt = h0_pendingCount.toInt + 1 ∧ gpe2 = upd gpe h0_pendingCount.toNatClampNeg p0)) (at_CO_push dC dI h0 h0_program_r h0_known_r lt pe to bo cs se cpe h0_localCount h0_gives h0_depth h0_loopDepth (va_A [(h0, .inr (2, [.ref h0_program_r, .ref h0_known_r, .ref lt, .int h0_localCount, .ref pe, .int h0_pendingCount, .int h0_gives, .int h0_depth, .int h0_loopDepth, .ref to, .ref bo, .ref cs, .ref se])), (pe, .inl (cpe, 680, .inl gpe))] sz)) (va_A [(h0, .inr (2, [.ref h0_program_r, .ref h0_known_r, .ref lt, .int h0_localCount, .ref pe, .int h0_pendingCount, .int h0_gives, .int h0_depth, .int h0_loopDepth, .ref to, .ref bo, .ref cs, .ref se])), (pe, .inl (cpe, 680, .inl gpe))] sz)) 0 0 (va_A [(h0, .inr (2, [.ref h0_program_r, .ref h0_known_r, .ref lt, .int h0_localCount, .ref pe, .int h0_pendingCount, .int h0_gives, .int h0_depth, .int h0_loopDepth, .ref to, .ref bo, .ref cs, .ref se])), (pe, .inl (cpe, 680, .inl gpe))] sz) := by
  refine Met.ofW (cc := b_CO_push) (maxL := 2) (ret := none) (by decide) rfl ?_
  intro p e s m args below meth c s₁ B hml hv
  obtain ⟨rfl, hsz, hP, hK, hD0⟩ := hv
  have hx := B.exec
  have hb := B.bytes
  have hr := B.returns
  have hts0 := atoms_spec (ws := w_CO_push) B.pre
  have hts : ∀ w ∈ lw_g, w.before _ s = true := fun w h => hts0 w (List.mem_cons_of_mem _ h)
  have hown : s.vm.findClass R_CO = some m.cls := findClass_of_methodNamed B.named
  have hlocks := B.notSynchronized
  clear hts0
  subst hsz
  have hD := hD0.self (sz := s.heap.size)
  generalize hAe : va_A [(h0, .inr (2, [.ref h0_program_r, .ref h0_known_r, .ref lt, .int h0_localCount, .ref pe, .int h0_pendingCount, .int h0_gives, .int h0_depth, .int h0_loopDepth, .ref to, .ref bo, .ref cs, .ref se])), (pe, .inl (cpe, 680, .inl gpe))] s.heap.size = A at hD ⊢
  have hA : ∀ q : Nat, s.heap.size ≤ q → A q := fun q h => by rw [← hAe]; exact Or.inr h
  clear hAe
  have hP : va_P (dC, dI) cls [(h0, .inr (2, [.ref h0_program_r, .ref h0_known_r, .ref lt, .int h0_localCount, .ref pe, .int h0_pendingCount, .int h0_gives, .int h0_depth, .int h0_loopDepth, .ref to, .ref bo, .ref cs, .ref se])), (pe, .inl (cpe, 680, .inl gpe))] s.heap := hP
  have hl := lv_entry ([.ref h0, .int p0]) (n := 2) (Nat.le_of_ble_eq_true rfl)
  rw [lg_entry_eq]
  generalize (lg_sl ([.ref h0, .int p0]) ++ List.replicate (2 - (lg_sl ([.ref h0, .int p0])).length) Slot.unset).toArray = ls at hl ⊢
  have hl : lv_has ls 2 [(0, .ref h0), (1, .int p0)] := hl
  have k0 : (0 : Int32).toInt = 0 := by decide
  refine w_gen (A := A) hP (fun H locs hP hS => ?_)
  have k1 : (1 : Int32).toInt = 1 := by decide
  have lo_p0 := i32_lo p0
  have hi_p0 := i32_hi p0
  refine lv_aload_n hx hb d_CO_push_0 rfl (lv_at hl 0 rfl) ?_
  refine va_get (D := (dC, dI)) (ci := 2) (v := .int h0_pendingCount) (C := R_CO) (T := F_CO) (N := 13) hx hb hts i_CO hown hK hP 0 rfl rfl 5 (by decide) (hts _ kF_CO_112) (fun _ h9 => h9) rfl d_CO_push_1 ?_
  refine lv_aload_n hx hb d_CO_push_4 rfl (lv_at hl 0 rfl) ?_
  refine va_get (D := (dC, dI)) (ci := 2) (v := .ref pe) (C := R_CO) (T := F_CO) (N := 13) hx hb hts i_CO hown hK hP 0 rfl rfl 4 (by decide) (hts _ kF_CO_15) (fun _ h9 => h9) rfl d_CO_push_5 ?_
  refine va_alen hx hb hK hP 1 0 rfl rfl rfl d_CO_push_8 ?_
  refine lv_topi (fun x1 ex1 => ?_)
  have tx1 : x1.toInt = 680 := by rw [ex1]; exact i32_len (by omega)
  refine lv_icmp_ge (tgt := 29) hx hb d_CO_push_9 (by decide) (fun c9 => absurd (leI c9) (by omega)) (fun c9 => ?_)
  have q9 := nleI c9
  refine lv_aload_n hx hb d_CO_push_12 rfl (lv_at hl 0 rfl) ?_
  refine va_get (D := (dC, dI)) (ci := 2) (v := .ref pe) (C := R_CO) (T := F_CO) (N := 13) hx hb hts i_CO hown hK hP 0 rfl rfl 4 (by decide) (hts _ kF_CO_15) (fun _ h9 => h9) rfl d_CO_push_13 ?_
  refine lv_aload_n hx hb d_CO_push_16 rfl (lv_at hl 0 rfl) ?_
  refine lv_dup hx hb d_CO_push_17 rfl ?_
  refine va_get (D := (dC, dI)) (ci := 2) (v := .int h0_pendingCount) (C := R_CO) (T := F_CO) (N := 13) hx hb hts i_CO hown hK hP 0 rfl rfl 5 (by decide) (hts _ kF_CO_112) (fun _ h9 => h9) rfl d_CO_push_18 ?_
  refine lv_dup_x1 hx hb d_CO_push_21 rfl rfl ?_
  refine lv_iconst (v := 1) hx hb d_CO_push_22 (by decide) ?_
  refine lv_iadd hx hb d_CO_push_23 ?_
  refine lv_topi (fun x2 ex2 => ?_)
  have tx2 : x2.toInt = h0_pendingCount.toInt + 1 := by have z := i32_add ex2 (by omega) (by omega); omega
  refine va_put (D := (dC, dI)) (ci := 2) (v := .int x2) (ty := .int) (C := R_CO) (T := F_CO) (N := 13) hx hb hts i_CO t_CO t_CO_ok n_CO hown hK hP hD hS 0 rfl rfl 5 (by decide) (hts _ kF_CO_112) (fun _ h9 => h9) rfl (by decide +kernel) rfl rfl (Nat.le_of_ble_eq_true rfl) d_CO_push_24 (fun H locs hP hD hS => ?_)
  refine lv_iload_n hx hb d_CO_push_27 rfl (lv_at hl 1 rfl) ?_
  have g28 : vp_in h0_pendingCount 680 := vp_in_iff.mpr ⟨by omega, by omega⟩
  refine va_iast hx hb hK hP hD hS 1 0 rfl rfl g28 d_CO_push_28 (fun H locs hP hD hS => ?_)
  generalize ef3 : upd gpe h0_pendingCount.toNatClampNeg p0 = f3 at hP hD
  have hP9 := hP.sub (ws' := [(h0, .inr (2, [.ref h0_program_r, .ref h0_known_r, .ref lt, .int h0_localCount, .ref pe, .int x2, .int h0_gives, .int h0_depth, .int h0_loopDepth, .ref to, .ref bo, .ref cs, .ref se])), (pe, .inl (cpe, 680, .inl f3))]) [0, 1] rfl
  have hD9 := hD.sub (ws' := [(h0, .inr (2, [.ref h0_program_r, .ref h0_known_r, .ref lt, .int h0_localCount, .ref pe, .int x2, .int h0_gives, .int h0_depth, .int h0_loopDepth, .ref to, .ref bo, .ref cs, .ref se])), (pe, .inl (cpe, 680, .inl f3))]) [0, 1] (by decide) rfl
  exact W.vret hx hb hr (fun t ht hW => ⟨⟨(f3, x2), rfl, ⟨by (try dsimp only) <;> omega, ⟨by (try dsimp only) <;> omega, by (try dsimp only) <;> exact ef3.symm⟩⟩, by rw [ht]; exact hP9, va_K.moved hW.alike hK, hD9⟩, hS.F ht⟩) hS.2.2 d_CO_push_29
abbrev b_CO_pop : ByteArray := prog_4_method_31_code
def y_CO_pop : MethodName := ⟨R_CO, "pop", "()I"⟩
abbrev w_CO_pop : List Cond := .code y_CO_pop b_CO_pop 1 (Option.some .int) :: lw_g
theorem kC_CO_pop : Cond.code y_CO_pop b_CO_pop 1 (Option.some .int) ∈ lw_g := in_g 1142 (by decide +kernel) rfl
theorem d_CO_pop_0 : decode b_CO_pop 0 = .ok (.aload_n 0, 1) := by decide +kernel
theorem d_CO_pop_1 : decode b_CO_pop 1 = .ok (.getfield 112, 3) := by decide +kernel
theorem d_CO_pop_4 : decode b_CO_pop 4 = .ok (.ifCond .le 22, 3) := by decide +kernel
theorem d_CO_pop_7 : decode b_CO_pop 7 = .ok (.aload_n 0, 1) := by decide +kernel
theorem d_CO_pop_8 : decode b_CO_pop 8 = .ok (.getfield 15, 3) := by decide +kernel
theorem d_CO_pop_11 : decode b_CO_pop 11 = .ok (.aload_n 0, 1) := by decide +kernel
theorem d_CO_pop_12 : decode b_CO_pop 12 = .ok (.dup, 1) := by decide +kernel
theorem d_CO_pop_13 : decode b_CO_pop 13 = .ok (.getfield 112, 3) := by decide +kernel
theorem d_CO_pop_16 : decode b_CO_pop 16 = .ok (.iconst 1, 1) := by decide +kernel
theorem d_CO_pop_17 : decode b_CO_pop 17 = .ok (.isub, 1) := by decide +kernel
theorem d_CO_pop_18 : decode b_CO_pop 18 = .ok (.dup_x1, 1) := by decide +kernel
theorem d_CO_pop_19 : decode b_CO_pop 19 = .ok (.putfield 112, 3) := by decide +kernel
theorem d_CO_pop_22 : decode b_CO_pop 22 = .ok (.iaload, 1) := by decide +kernel
theorem d_CO_pop_23 : decode b_CO_pop 23 = .ok (.goto 5, 3) := by decide +kernel
theorem d_CO_pop_26 : decode b_CO_pop 26 = .ok (.bipush 64, 2) := by decide +kernel
theorem d_CO_pop_28 : decode b_CO_pop 28 = .ok (.ireturn, 1) := by decide +kernel
abbrev at_CO_pop (dC : Nat → ClassId) (dI : Nat → Nat → Nat) (h0 h0_program_r h0_known_r lt pe to bo cs se : Nat) (cpe : ClassId) (h0_localCount : Int32) (h0_gives : Int32) (h0_depth : Int32) (h0_loopDepth : Int32) (gpe : Nat → Int32) (A : Nat → Prop) (u : Int32) (t : State) : Prop := match u with | h0_pendingCount => va_P (dC, dI) cls [(h0, .inr (2, [.ref h0_program_r, .ref h0_known_r, .ref lt, .int h0_localCount, .ref pe, .int h0_pendingCount, .int h0_gives, .int h0_depth, .int h0_loopDepth, .ref to, .ref bo, .ref cs, .ref se])), (pe, .inl (cpe, 680, .inl gpe))] t.heap ∧ va_K (dC, dI) cls [(cpe, .int)] t ∧ va_D A [(h0, .inr (2, [.ref h0_program_r, .ref h0_known_r, .ref lt, .int h0_localCount, .ref pe, .int h0_pendingCount, .int h0_gives, .int h0_depth, .int h0_loopDepth, .ref to, .ref bo, .ref cs, .ref se])), (pe, .inl (cpe, 680, .inl gpe))]
set_option maxHeartbeats 4000000 in
set_option maxRecDepth 100000 in
theorem c_CO_pop (l : Launch) (dC : Nat → ClassId) (dI : Nat → Nat → Nat) (sz : Nat) (h0 h0_program_r h0_known_r lt pe to bo cs se : Nat) (cpe : ClassId) (h0_localCount : Int32) (h0_pendingCount : Int32) (h0_gives : Int32) (h0_depth : Int32) (h0_loopDepth : Int32) (gpe : Nat → Int32)  (b_h0_pendingCount : 0 ≤ h0_pendingCount.toInt ∧ h0_pendingCount.toInt ≤ 680)   (hpc : 1 ≤ h0_pendingCount.toInt) : Met l y_CO_pop w_CO_pop ({ frames := 0, cells := 0, slots := 0, locals := 0 }) (va_Pc [.ref h0] (fun U => U.heap.size = sz ∧ va_P (dC, dI) cls [(h0, .inr (2, [.ref h0_program_r, .ref h0_known_r, .ref lt, .int h0_localCount, .ref pe, .int h0_pendingCount, .int h0_gives, .int h0_depth, .int h0_loopDepth, .ref to, .ref bo, .ref cs, .ref se])), (pe, .inl (cpe, 680, .inl gpe))] U.heap ∧ va_K (dC, dI) cls [(cpe, .int)] U ∧ va_D (fun _ => True) [(h0, .inr (2, [.ref h0_program_r, .ref h0_known_r, .ref lt, .int h0_localCount, .ref pe, .int h0_pendingCount, .int h0_gives, .int h0_depth, .int h0_loopDepth, .ref to, .ref bo, .ref cs, .ref se])), (pe, .inl (cpe, 680, .inl gpe))])) (va_Qi (fun (r : Int32) (u : Int32) => match u with | h0_pendingCount2 => (0 ≤ h0_pendingCount2.toInt ∧ h0_pendingCount2.toInt ≤ 680) ∧ (h0_pendingCount2.toInt = h0_pendingCount.toInt - 1 ∧ r = gpe h0_pendingCount2.toNatClampNeg)) (at_CO_pop dC dI h0 h0_program_r h0_known_r lt pe to bo cs se cpe h0_localCount h0_gives h0_depth h0_loopDepth gpe (va_A [(h0, .inr (2, [.ref h0_program_r, .ref h0_known_r, .ref lt, .int h0_localCount, .ref pe, .int h0_pendingCount, .int h0_gives, .int h0_depth, .int h0_loopDepth, .ref to, .ref bo, .ref cs, .ref se])), (pe, .inl (cpe, 680, .inl gpe))] sz)) (va_A [(h0, .inr (2, [.ref h0_program_r, .ref h0_known_r, .ref lt, .int h0_localCount, .ref pe, .int h0_pendingCount, .int h0_gives, .int h0_depth, .int h0_loopDepth, .ref to, .ref bo, .ref cs, .ref se])), (pe, .inl (cpe, 680, .inl gpe))] sz)) 0 0 (va_A [(h0, .inr (2, [.ref h0_program_r, .ref h0_known_r, .ref lt, .int h0_localCount, .ref pe, .int h0_pendingCount, .int h0_gives, .int h0_depth, .int h0_loopDepth, .ref to, .ref bo, .ref cs, .ref se])), (pe, .inl (cpe, 680, .inl gpe))] sz) := by
  refine Met.ofW (cc := b_CO_pop) (maxL := 1) (ret := (Option.some .int)) (by decide) rfl ?_
  intro p e s m args below meth c s₁ B hml hv
  obtain ⟨rfl, hsz, hP, hK, hD0⟩ := hv
  have hx := B.exec
  have hb := B.bytes
  have hr := B.returns
  have hts0 := atoms_spec (ws := w_CO_pop) B.pre
  have hts : ∀ w ∈ lw_g, w.before _ s = true := fun w h => hts0 w (List.mem_cons_of_mem _ h)
  have hown : s.vm.findClass R_CO = some m.cls := findClass_of_methodNamed B.named
  have hlocks := B.notSynchronized
  clear hts0
  subst hsz
  have hD := hD0.self (sz := s.heap.size)
  generalize hAe : va_A [(h0, .inr (2, [.ref h0_program_r, .ref h0_known_r, .ref lt, .int h0_localCount, .ref pe, .int h0_pendingCount, .int h0_gives, .int h0_depth, .int h0_loopDepth, .ref to, .ref bo, .ref cs, .ref se])), (pe, .inl (cpe, 680, .inl gpe))] s.heap.size = A at hD ⊢
  have hA : ∀ q : Nat, s.heap.size ≤ q → A q := fun q h => by rw [← hAe]; exact Or.inr h
  clear hAe
  have hP : va_P (dC, dI) cls [(h0, .inr (2, [.ref h0_program_r, .ref h0_known_r, .ref lt, .int h0_localCount, .ref pe, .int h0_pendingCount, .int h0_gives, .int h0_depth, .int h0_loopDepth, .ref to, .ref bo, .ref cs, .ref se])), (pe, .inl (cpe, 680, .inl gpe))] s.heap := hP
  have hl := lv_entry ([.ref h0]) (n := 1) (Nat.le_of_ble_eq_true rfl)
  rw [lg_entry_eq]
  generalize (lg_sl ([.ref h0]) ++ List.replicate (1 - (lg_sl ([.ref h0])).length) Slot.unset).toArray = ls at hl ⊢
  have hl : lv_has ls 1 [(0, .ref h0)] := hl
  have k0 : (0 : Int32).toInt = 0 := by decide
  refine w_gen (A := A) hP (fun H locs hP hS => ?_)
  have k1 : (1 : Int32).toInt = 1 := by decide
  have k64 : (64 : Int32).toInt = 64 := by decide
  refine lv_aload_n hx hb d_CO_pop_0 rfl (lv_at hl 0 rfl) ?_
  refine va_get (D := (dC, dI)) (ci := 2) (v := .int h0_pendingCount) (C := R_CO) (T := F_CO) (N := 13) hx hb hts i_CO hown hK hP 0 rfl rfl 5 (by decide) (hts _ kF_CO_112) (fun _ h9 => h9) rfl d_CO_pop_1 ?_
  refine lv_if_le (tgt := 26) hx hb d_CO_pop_4 (by decide) (fun c4 => absurd (leI c4) (by omega)) (fun c4 => ?_)
  have q4 := nleI c4
  refine lv_aload_n hx hb d_CO_pop_7 rfl (lv_at hl 0 rfl) ?_
  refine va_get (D := (dC, dI)) (ci := 2) (v := .ref pe) (C := R_CO) (T := F_CO) (N := 13) hx hb hts i_CO hown hK hP 0 rfl rfl 4 (by decide) (hts _ kF_CO_15) (fun _ h9 => h9) rfl d_CO_pop_8 ?_
  refine lv_aload_n hx hb d_CO_pop_11 rfl (lv_at hl 0 rfl) ?_
  refine lv_dup hx hb d_CO_pop_12 rfl ?_
  refine va_get (D := (dC, dI)) (ci := 2) (v := .int h0_pendingCount) (C := R_CO) (T := F_CO) (N := 13) hx hb hts i_CO hown hK hP 0 rfl rfl 5 (by decide) (hts _ kF_CO_112) (fun _ h9 => h9) rfl d_CO_pop_13 ?_
  refine lv_iconst (v := 1) hx hb d_CO_pop_16 (by decide) ?_
  refine lv_isub hx hb d_CO_pop_17 ?_
  refine lv_topi (fun x1 ex1 => ?_)
  have tx1 : x1.toInt = h0_pendingCount.toInt - 1 := by have z := i32_sub ex1 (by omega) (by omega); omega
  refine lv_dup_x1 hx hb d_CO_pop_18 rfl rfl ?_
  refine va_put (D := (dC, dI)) (ci := 2) (v := .int x1) (ty := .int) (C := R_CO) (T := F_CO) (N := 13) hx hb hts i_CO t_CO t_CO_ok n_CO hown hK hP hD hS 0 rfl rfl 5 (by decide) (hts _ kF_CO_112) (fun _ h9 => h9) rfl (by decide +kernel) rfl rfl (Nat.le_of_ble_eq_true rfl) d_CO_pop_19 (fun H locs hP hD hS => ?_)
  have g22 : vp_in x1 680 := vp_in_iff.mpr ⟨by omega, by omega⟩
  refine va_iald hx hb hK hP 1 0 rfl rfl g22 d_CO_pop_22 ?_
  refine lv_topi (fun x2 ex2 => ?_)
  refine lv_goto (tgt := 28) hx hb d_CO_pop_23 (by decide) ?_
  have hP9 := hP.sub (ws' := [(h0, .inr (2, [.ref h0_program_r, .ref h0_known_r, .ref lt, .int h0_localCount, .ref pe, .int x1, .int h0_gives, .int h0_depth, .int h0_loopDepth, .ref to, .ref bo, .ref cs, .ref se])), (pe, .inl (cpe, 680, .inl gpe))]) [0, 1] rfl
  have hD9 := hD.sub (ws' := [(h0, .inr (2, [.ref h0_program_r, .ref h0_known_r, .ref lt, .int h0_localCount, .ref pe, .int x1, .int h0_gives, .int h0_depth, .int h0_loopDepth, .ref to, .ref bo, .ref cs, .ref se])), (pe, .inl (cpe, 680, .inl gpe))]) [0, 1] (by decide) rfl
  exact W.iret (v := x2) hx hb hr (fun t ht hW => ⟨⟨x2, x1, rfl, ⟨by (try dsimp only) <;> omega, ⟨by (try dsimp only) <;> omega, ex2⟩⟩, by rw [ht]; exact hP9, va_K.moved hW.alike hK, hD9⟩, hS.F ht⟩) hS.2.2 d_CO_pop_28

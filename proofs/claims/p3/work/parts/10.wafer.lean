/-! Wafer: what a function takes and gives -/
abbrev b_WA_takes : ByteArray := prog_13_method_4_code
def y_WA_takes : MethodName := ⟨R_WA, "takes", "(I)I"⟩
abbrev w_WA_takes : List Cond := .code y_WA_takes b_WA_takes 2 (Option.some .int) :: lw_g
theorem kC_WA_takes : Cond.code y_WA_takes b_WA_takes 2 (Option.some .int) ∈ lw_g := in_g 1459 (by decide +kernel) rfl
theorem d_WA_takes_0 : decode b_WA_takes 0 = .ok (.aload_n 0, 1) := by decide +kernel
theorem d_WA_takes_1 : decode b_WA_takes 1 = .ok (.getfield 27, 3) := by decide +kernel
theorem d_WA_takes_4 : decode b_WA_takes 4 = .ok (.aload_n 0, 1) := by decide +kernel
theorem d_WA_takes_5 : decode b_WA_takes 5 = .ok (.getfield 37, 3) := by decide +kernel
theorem d_WA_takes_8 : decode b_WA_takes 8 = .ok (.iload_n 1, 1) := by decide +kernel
theorem d_WA_takes_9 : decode b_WA_takes 9 = .ok (.iaload, 1) := by decide +kernel
theorem d_WA_takes_10 : decode b_WA_takes 10 = .ok (.iaload, 1) := by decide +kernel
theorem d_WA_takes_11 : decode b_WA_takes 11 = .ok (.ireturn, 1) := by decide +kernel
theorem kF_WA_27 : Cond.fieldLink R_WA 27 "WaferForge$Wafer" "typeTakes" "[I" ∈ lw_g := in_g 152 (by decide +kernel) rfl
theorem kF_WA_37 : Cond.fieldLink R_WA 37 "WaferForge$Wafer" "functionType" "[I" ∈ lw_g := in_g 162 (by decide +kernel) rfl
abbrev at_WA_takes (dC : Nat → ClassId) (dI : Nat → Nat → Nat) (h0 af at_ : Nat) (cf ct : ClassId) (gf gt : Nat → Int32) (wf : List Value) (A : Nat → Prop) (_ : Unit) (t : State) : Prop := va_P (dC, dI) cls [(h0, .inr (10, wf)), (af, .inl (cf, 30, .inl gf)), (at_, .inl (ct, 20, .inl gt))] t.heap ∧ va_K (dC, dI) cls [(cf, .int), (ct, .int)] t ∧ va_D A [(h0, .inr (10, wf)), (af, .inl (cf, 30, .inl gf)), (at_, .inl (ct, 20, .inl gt))]
set_option maxHeartbeats 4000000 in
set_option maxRecDepth 100000 in
theorem c_WA_takes (l : Launch) (dC : Nat → ClassId) (dI : Nat → Nat → Nat) (h0 af at_ sz : Nat) (cf ct : ClassId) (gf gt : Nat → Int32) (wf : List Value) (pf : wf[7]? = some (.ref af)) (pt : wf[3]? = some (.ref at_)) (pl : wf.length = 21) (p0 : Int32) (hp : 0 ≤ p0.toInt ∧ p0.toInt < 30) (hf : 0 ≤ (gf p0.toNatClampNeg).toInt ∧ (gf p0.toNatClampNeg).toInt < 20) : Met l y_WA_takes w_WA_takes ({ frames := 0, cells := 0, slots := 0, locals := 0 }) (va_Pc [.ref h0, .int p0] (fun U => U.heap.size = sz ∧ va_P (dC, dI) cls [(h0, .inr (10, wf)), (af, .inl (cf, 30, .inl gf)), (at_, .inl (ct, 20, .inl gt))] U.heap ∧ va_K (dC, dI) cls [(cf, .int), (ct, .int)] U ∧ va_D (fun _ => True) [(h0, .inr (10, wf)), (af, .inl (cf, 30, .inl gf)), (at_, .inl (ct, 20, .inl gt))])) (va_Qi (fun (r : Int32) (_ : Unit) => r = gt (gf p0.toNatClampNeg).toNatClampNeg) (at_WA_takes dC dI h0 af at_ cf ct gf gt wf (va_A [(h0, .inr (10, wf)), (af, .inl (cf, 30, .inl gf)), (at_, .inl (ct, 20, .inl gt))] sz)) (va_A [(h0, .inr (10, wf)), (af, .inl (cf, 30, .inl gf)), (at_, .inl (ct, 20, .inl gt))] sz)) 0 0 (va_A [(h0, .inr (10, wf)), (af, .inl (cf, 30, .inl gf)), (at_, .inl (ct, 20, .inl gt))] sz) := by
  refine Met.ofW (cc := b_WA_takes) (maxL := 2) (ret := (Option.some .int)) (by decide) rfl ?_
  intro p e s m args below meth c s₁ B hml hv
  obtain ⟨rfl, hsz, hP, hK, hD0⟩ := hv
  have hx := B.exec
  have hb := B.bytes
  have hr := B.returns
  have hts0 := atoms_spec (ws := w_WA_takes) B.pre
  have hts : ∀ w ∈ lw_g, w.before _ s = true := fun w h => hts0 w (List.mem_cons_of_mem _ h)
  have hown : s.vm.findClass R_WA = some m.cls := findClass_of_methodNamed B.named
  have hlocks := B.notSynchronized
  clear hts0
  subst hsz
  have hD := hD0.self (sz := s.heap.size)
  generalize hAe : va_A [(h0, .inr (10, wf)), (af, .inl (cf, 30, .inl gf)), (at_, .inl (ct, 20, .inl gt))] s.heap.size = A at hD ⊢
  have hA : ∀ q : Nat, s.heap.size ≤ q → A q := fun q h => by rw [← hAe]; exact Or.inr h
  clear hAe
  have hP : va_P (dC, dI) cls [(h0, .inr (10, wf)), (af, .inl (cf, 30, .inl gf)), (at_, .inl (ct, 20, .inl gt))] s.heap := hP
  have hl := lv_entry ([.ref h0, .int p0]) (n := 2) (Nat.le_of_ble_eq_true rfl)
  rw [lg_entry_eq]
  generalize (lg_sl ([.ref h0, .int p0]) ++ List.replicate (2 - (lg_sl ([.ref h0, .int p0])).length) Slot.unset).toArray = ls at hl ⊢
  have hl : lv_has ls 2 [(0, .ref h0), (1, .int p0)] := hl
  have k0 : (0 : Int32).toInt = 0 := by decide
  refine w_gen (A := A) hP (fun H locs hP hS => ?_)
  have lo_p0 := i32_lo p0
  have hi_p0 := i32_hi p0
  refine lv_aload_n hx hb d_WA_takes_0 rfl (lv_at hl 0 rfl) ?_
  refine va_get (D := (dC, dI)) (ci := 10) (v := .ref at_) (C := R_WA) (T := F_WA) (N := 21) hx hb hts i_WA hown hK hP 0 rfl rfl 3 (by decide) (hts _ kF_WA_27) (fun _ h9 => h9) pt d_WA_takes_1 ?_
  refine lv_aload_n hx hb d_WA_takes_4 rfl (lv_at hl 0 rfl) ?_
  refine va_get (D := (dC, dI)) (ci := 10) (v := .ref af) (C := R_WA) (T := F_WA) (N := 21) hx hb hts i_WA hown hK hP 0 rfl rfl 7 (by decide) (hts _ kF_WA_37) (fun _ h9 => h9) pf d_WA_takes_5 ?_
  refine lv_iload_n hx hb d_WA_takes_8 rfl (lv_at hl 1 rfl) ?_
  have g9 : vp_in p0 30 := vp_in_iff.mpr ⟨by omega, by omega⟩
  refine va_iald hx hb hK hP 1 0 rfl rfl g9 d_WA_takes_9 ?_
  refine lv_topi (fun x1 ex1 => ?_)
  have yx1 := i32_clamp (x := p0) (by omega)
  have tx1 := hf
  rw [← ex1] at tx1
  have g10 : vp_in x1 20 := vp_in_iff.mpr ⟨by omega, by omega⟩
  refine va_iald hx hb hK hP 2 1 rfl rfl g10 d_WA_takes_10 ?_
  refine lv_topi (fun x2 ex2 => ?_)
  have hP9 := hP.sub (ws' := [(h0, .inr (10, wf)), (af, .inl (cf, 30, .inl gf)), (at_, .inl (ct, 20, .inl gt))]) [0, 1, 2] rfl
  have hD9 := hD.sub (ws' := [(h0, .inr (10, wf)), (af, .inl (cf, 30, .inl gf)), (at_, .inl (ct, 20, .inl gt))]) [0, 1, 2] (by decide) rfl
  exact W.iret (v := x2) hx hb hr (fun t ht hW => ⟨⟨x2, (), rfl, (by rw [ex2, ex1]), by rw [ht]; exact hP9, va_K.moved hW.alike hK, hD9⟩, hS.F ht⟩) hS.2.2 d_WA_takes_11
abbrev b_WA_gives : ByteArray := prog_13_method_5_code
def y_WA_gives : MethodName := ⟨R_WA, "gives", "(I)I"⟩
abbrev w_WA_gives : List Cond := .code y_WA_gives b_WA_gives 2 (Option.some .int) :: lw_g
theorem kC_WA_gives : Cond.code y_WA_gives b_WA_gives 2 (Option.some .int) ∈ lw_g := in_g 1411 (by decide +kernel) rfl
theorem d_WA_gives_0 : decode b_WA_gives 0 = .ok (.aload_n 0, 1) := by decide +kernel
theorem d_WA_gives_1 : decode b_WA_gives 1 = .ok (.getfield 34, 3) := by decide +kernel
theorem d_WA_gives_4 : decode b_WA_gives 4 = .ok (.aload_n 0, 1) := by decide +kernel
theorem d_WA_gives_5 : decode b_WA_gives 5 = .ok (.getfield 37, 3) := by decide +kernel
theorem d_WA_gives_8 : decode b_WA_gives 8 = .ok (.iload_n 1, 1) := by decide +kernel
theorem d_WA_gives_9 : decode b_WA_gives 9 = .ok (.iaload, 1) := by decide +kernel
theorem d_WA_gives_10 : decode b_WA_gives 10 = .ok (.iaload, 1) := by decide +kernel
theorem d_WA_gives_11 : decode b_WA_gives 11 = .ok (.ireturn, 1) := by decide +kernel
theorem kF_WA_34 : Cond.fieldLink R_WA 34 "WaferForge$Wafer" "typeGives" "[I" ∈ lw_g := in_g 156 (by decide +kernel) rfl
abbrev at_WA_gives (dC : Nat → ClassId) (dI : Nat → Nat → Nat) (h0 af at_ : Nat) (cf ct : ClassId) (gf gt : Nat → Int32) (wf : List Value) (A : Nat → Prop) (_ : Unit) (t : State) : Prop := va_P (dC, dI) cls [(h0, .inr (10, wf)), (af, .inl (cf, 30, .inl gf)), (at_, .inl (ct, 20, .inl gt))] t.heap ∧ va_K (dC, dI) cls [(cf, .int), (ct, .int)] t ∧ va_D A [(h0, .inr (10, wf)), (af, .inl (cf, 30, .inl gf)), (at_, .inl (ct, 20, .inl gt))]
set_option maxHeartbeats 4000000 in
set_option maxRecDepth 100000 in
theorem c_WA_gives (l : Launch) (dC : Nat → ClassId) (dI : Nat → Nat → Nat) (h0 af at_ sz : Nat) (cf ct : ClassId) (gf gt : Nat → Int32) (wf : List Value) (pf : wf[7]? = some (.ref af)) (pt : wf[5]? = some (.ref at_)) (pl : wf.length = 21) (p0 : Int32) (hp : 0 ≤ p0.toInt ∧ p0.toInt < 30) (hf : 0 ≤ (gf p0.toNatClampNeg).toInt ∧ (gf p0.toNatClampNeg).toInt < 20) : Met l y_WA_gives w_WA_gives ({ frames := 0, cells := 0, slots := 0, locals := 0 }) (va_Pc [.ref h0, .int p0] (fun U => U.heap.size = sz ∧ va_P (dC, dI) cls [(h0, .inr (10, wf)), (af, .inl (cf, 30, .inl gf)), (at_, .inl (ct, 20, .inl gt))] U.heap ∧ va_K (dC, dI) cls [(cf, .int), (ct, .int)] U ∧ va_D (fun _ => True) [(h0, .inr (10, wf)), (af, .inl (cf, 30, .inl gf)), (at_, .inl (ct, 20, .inl gt))])) (va_Qi (fun (r : Int32) (_ : Unit) => r = gt (gf p0.toNatClampNeg).toNatClampNeg) (at_WA_gives dC dI h0 af at_ cf ct gf gt wf (va_A [(h0, .inr (10, wf)), (af, .inl (cf, 30, .inl gf)), (at_, .inl (ct, 20, .inl gt))] sz)) (va_A [(h0, .inr (10, wf)), (af, .inl (cf, 30, .inl gf)), (at_, .inl (ct, 20, .inl gt))] sz)) 0 0 (va_A [(h0, .inr (10, wf)), (af, .inl (cf, 30, .inl gf)), (at_, .inl (ct, 20, .inl gt))] sz) := by
  refine Met.ofW (cc := b_WA_gives) (maxL := 2) (ret := (Option.some .int)) (by decide) rfl ?_
  intro p e s m args below meth c s₁ B hml hv
  obtain ⟨rfl, hsz, hP, hK, hD0⟩ := hv
  have hx := B.exec
  have hb := B.bytes
  have hr := B.returns
  have hts0 := atoms_spec (ws := w_WA_gives) B.pre
  have hts : ∀ w ∈ lw_g, w.before _ s = true := fun w h => hts0 w (List.mem_cons_of_mem _ h)
  have hown : s.vm.findClass R_WA = some m.cls := findClass_of_methodNamed B.named
  have hlocks := B.notSynchronized
  clear hts0
  subst hsz
  have hD := hD0.self (sz := s.heap.size)
  generalize hAe : va_A [(h0, .inr (10, wf)), (af, .inl (cf, 30, .inl gf)), (at_, .inl (ct, 20, .inl gt))] s.heap.size = A at hD ⊢
  have hA : ∀ q : Nat, s.heap.size ≤ q → A q := fun q h => by rw [← hAe]; exact Or.inr h
  clear hAe
  have hP : va_P (dC, dI) cls [(h0, .inr (10, wf)), (af, .inl (cf, 30, .inl gf)), (at_, .inl (ct, 20, .inl gt))] s.heap := hP
  have hl := lv_entry ([.ref h0, .int p0]) (n := 2) (Nat.le_of_ble_eq_true rfl)
  rw [lg_entry_eq]
  generalize (lg_sl ([.ref h0, .int p0]) ++ List.replicate (2 - (lg_sl ([.ref h0, .int p0])).length) Slot.unset).toArray = ls at hl ⊢
  have hl : lv_has ls 2 [(0, .ref h0), (1, .int p0)] := hl
  have k0 : (0 : Int32).toInt = 0 := by decide
  refine w_gen (A := A) hP (fun H locs hP hS => ?_)
  have lo_p0 := i32_lo p0
  have hi_p0 := i32_hi p0
  refine lv_aload_n hx hb d_WA_gives_0 rfl (lv_at hl 0 rfl) ?_
  refine va_get (D := (dC, dI)) (ci := 10) (v := .ref at_) (C := R_WA) (T := F_WA) (N := 21) hx hb hts i_WA hown hK hP 0 rfl rfl 5 (by decide) (hts _ kF_WA_34) (fun _ h9 => h9) pt d_WA_gives_1 ?_
  refine lv_aload_n hx hb d_WA_gives_4 rfl (lv_at hl 0 rfl) ?_
  refine va_get (D := (dC, dI)) (ci := 10) (v := .ref af) (C := R_WA) (T := F_WA) (N := 21) hx hb hts i_WA hown hK hP 0 rfl rfl 7 (by decide) (hts _ kF_WA_37) (fun _ h9 => h9) pf d_WA_gives_5 ?_
  refine lv_iload_n hx hb d_WA_gives_8 rfl (lv_at hl 1 rfl) ?_
  have g9 : vp_in p0 30 := vp_in_iff.mpr ⟨by omega, by omega⟩
  refine va_iald hx hb hK hP 1 0 rfl rfl g9 d_WA_gives_9 ?_
  refine lv_topi (fun x1 ex1 => ?_)
  have yx1 := i32_clamp (x := p0) (by omega)
  have tx1 := hf
  rw [← ex1] at tx1
  have g10 : vp_in x1 20 := vp_in_iff.mpr ⟨by omega, by omega⟩
  refine va_iald hx hb hK hP 2 1 rfl rfl g10 d_WA_gives_10 ?_
  refine lv_topi (fun x2 ex2 => ?_)
  have hP9 := hP.sub (ws' := [(h0, .inr (10, wf)), (af, .inl (cf, 30, .inl gf)), (at_, .inl (ct, 20, .inl gt))]) [0, 1, 2] rfl
  have hD9 := hD.sub (ws' := [(h0, .inr (10, wf)), (af, .inl (cf, 30, .inl gf)), (at_, .inl (ct, 20, .inl gt))]) [0, 1, 2] (by decide) rfl
  exact W.iret (v := x2) hx hb hr (fun t ht hW => ⟨⟨x2, (), rfl, (by rw [ex2, ex1]), by rw [ht]; exact hP9, va_K.moved hW.alike hK, hD9⟩, hS.F ht⟩) hS.2.2 d_WA_gives_11

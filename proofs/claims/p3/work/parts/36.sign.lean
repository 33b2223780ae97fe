/-! signs -/
theorem asg_aux (vm : Vm) (c : ClassId) (n : Nat) : vm.assignableAux (n + 1) c c = true := by
  rw [Vm.assignableAux, beq_self_eq_true, Bool.true_or]
theorem asg_refl (vm : Vm) (c : ClassId) : vm.assignable c c = true := asg_aux vm c 255
theorem sg_any {sa : Nat → Nat} {A : Nat → Prop} {s : State} {H : Heap} {locs : List Loc} {k : Nat} (hSW : sw sa A s s.heap) (hS : va_S A s.heap H locs) (hk : k < 55) : va_Any "WaferForge$Sign" s H (sg sa k) := by
  obtain ⟨cell, h1, h2, h3⟩ := va_recvE (i := k) hSW.2.2.2.1 hk hS
  obtain ⟨kC, hkC, -⟩ := Vm.findClass_spec h3
  exact ⟨cell, h1, h2, ⟨kC, hkC⟩, fun comp h => by rw [h3] at h; cases h; exact asg_refl _ _⟩
theorem sg_up {sa : Nat → Nat} {g : Nat → Option Nat} {i k : Nat} : va_up (fun j => (g j).map (sg sa)) i (some (sg sa k)) = fun j => (va_up g i (some k) j).map (sg sa) := by
  funext j
  unfold va_up
  by_cases e : j = i
  · rw [if_pos e, if_pos e]
    rfl
  · rw [if_neg e, if_neg e]
theorem w_top {p : Program} {l : Launch} {e : Env} {R : Room} {s : State} {m : MethodId} {args : Array Value} {below : List Frame} {meth : Method} {c : Code} {H : Heap} {locs : List Loc} {cells slots : Nat} {Q : State → Prop} {pc : Nat} {ls : Array Slot} {v v2 : Value} {rest : List Value} (h : v = v2) (k : W p l e R s m args below meth c H locs cells slots Q (F0 m pc ls (v2 :: rest))) : W p l e R s m args below meth c H locs cells slots Q (F0 m pc ls (v :: rest)) := by rw [h]; exact k
theorem va_us {α : Type} {f : Nat → α} {k : Nat} {x : α} : va_up f k x k = x := if_pos rfl
theorem va_un {α : Type} {f : Nat → α} {k j : Nat} {x : α} (h : j ≠ k) : va_up f k x j = f j := if_neg h
def R_SG : String := "WaferForge$Sign"
theorem kI_SG : Cond.initialized R_SG ∈ lw_g := in_g 8 (by decide +kernel) rfl
def R_JE : String := "java/lang/Enum"
theorem kI_JE : Cond.initialized R_JE ∈ lw_g := in_g 7 (by decide +kernel) rfl
abbrev b_SG_isPrefix : ByteArray := prog_11_method_6_code
def y_SG_isPrefix : MethodName := ⟨R_SG, "isPrefix", "()Z"⟩
abbrev w_SG_isPrefix : List Cond := .code y_SG_isPrefix b_SG_isPrefix 1 (Option.some .boolean) :: lw_g
theorem kC_SG_isPrefix : Cond.code y_SG_isPrefix b_SG_isPrefix 1 (Option.some .boolean) ∈ lw_g := in_g 1007 (by decide +kernel) rfl
theorem d_SG_isPrefix_0 : decode b_SG_isPrefix 0 = .ok (.aload_n 0, 1) := by decide +kernel
theorem d_SG_isPrefix_1 : decode b_SG_isPrefix 1 = .ok (.getstatic 159, 3) := by decide +kernel
theorem d_SG_isPrefix_4 : decode b_SG_isPrefix 4 = .ok (.if_acmp .eq 17, 3) := by decide +kernel
theorem d_SG_isPrefix_7 : decode b_SG_isPrefix 7 = .ok (.aload_n 0, 1) := by decide +kernel
theorem d_SG_isPrefix_8 : decode b_SG_isPrefix 8 = .ok (.getstatic 108, 3) := by decide +kernel
theorem d_SG_isPrefix_11 : decode b_SG_isPrefix 11 = .ok (.if_acmp .eq 10, 3) := by decide +kernel
theorem d_SG_isPrefix_14 : decode b_SG_isPrefix 14 = .ok (.aload_n 0, 1) := by decide +kernel
theorem d_SG_isPrefix_15 : decode b_SG_isPrefix 15 = .ok (.getstatic 111, 3) := by decide +kernel
theorem d_SG_isPrefix_18 : decode b_SG_isPrefix 18 = .ok (.if_acmp .ne 7, 3) := by decide +kernel
theorem d_SG_isPrefix_21 : decode b_SG_isPrefix 21 = .ok (.iconst 1, 1) := by decide +kernel
theorem d_SG_isPrefix_22 : decode b_SG_isPrefix 22 = .ok (.goto 4, 3) := by decide +kernel
theorem d_SG_isPrefix_25 : decode b_SG_isPrefix 25 = .ok (.iconst 0, 1) := by decide +kernel
theorem d_SG_isPrefix_26 : decode b_SG_isPrefix 26 = .ok (.ireturn, 1) := by decide +kernel
theorem kF_SG_159 : Cond.fieldLink R_SG 159 "WaferForge$Sign" "MINUS" "LWaferForge$Sign;" ∈ lw_g := in_g 1008 (by decide +kernel) rfl
theorem kF_SG_108 : Cond.fieldLink R_SG 108 "WaferForge$Sign" "NOT" "LWaferForge$Sign;" ∈ lw_g := in_g 1009 (by decide +kernel) rfl
theorem kF_SG_111 : Cond.fieldLink R_SG 111 "WaferForge$Sign" "INVERT" "LWaferForge$Sign;" ∈ lw_g := in_g 1011 (by decide +kernel) rfl
abbrev at_SG_isPrefix (dC : Nat → ClassId) (dI : Nat → Nat → Nat)  (A : Nat → Prop) (u : Unit) (t : State) : Prop := match u with | _ => va_P (dC, dI) cls [] t.heap ∧ va_K (dC, dI) cls [] t ∧ va_D A []
set_option maxHeartbeats 4000000 in
set_option maxRecDepth 100000 in
theorem c_SG_isPrefix (l : Launch) (dC : Nat → ClassId) (dI : Nat → Nat → Nat) (sz : Nat) (sa : Nat → Nat) (k : Nat) (hk : k < 55)       : Met l y_SG_isPrefix w_SG_isPrefix ({ frames := 0, cells := 0, slots := 0, locals := 0 }) (va_Pc [.ref (sg sa k)] (fun U => U.heap.size = sz ∧ va_P (dC, dI) cls [] U.heap ∧ va_K (dC, dI) cls [] U ∧ va_D (fun _ => True) [] ∧ sw sa (va_A [] sz) U U.heap)) (va_Qi (fun (r : Int32) (u : Unit) => match u with | _ => (r = 0 ∨ r = 1) ∧ ((r = 1 → k = 51 ∨ k = 34 ∨ k = 35) ∧ (r = 0 → k ≠ 51 ∧ k ≠ 34 ∧ k ≠ 35))) (at_SG_isPrefix dC dI  (va_A [] sz)) (va_A [] sz)) 0 0 (va_A [] sz) := by
  refine Met.ofW (cc := b_SG_isPrefix) (maxL := 1) (ret := (Option.some .boolean)) (by decide) rfl ?_
  intro p e s m args below meth c s₁ B hml hv
  obtain ⟨rfl, hsz, hP, hK, hD0, hSW⟩ := hv
  have hx := B.exec
  have hb := B.bytes
  have hr := B.returns
  have hts0 := atoms_spec (ws := w_SG_isPrefix) B.pre
  have hts : ∀ w ∈ lw_g, w.before _ s = true := fun w h => hts0 w (List.mem_cons_of_mem _ h)
  have hown : s.vm.findClass R_SG = some m.cls := findClass_of_methodNamed B.named
  have hlocks := B.notSynchronized
  clear hts0
  subst hsz
  have hD := hD0.self (sz := s.heap.size)
  generalize hAe : va_A [] s.heap.size = A at hD hSW ⊢
  have hA : ∀ q : Nat, s.heap.size ≤ q → A q := fun q h => by rw [← hAe]; exact Or.inr h
  clear hAe
  have hP : va_P (dC, dI) cls [] s.heap := hP
  have hl := lv_entry ([.ref (sg sa k)]) (n := 1) (Nat.le_of_ble_eq_true rfl)
  rw [lg_entry_eq]
  generalize (lg_sl ([.ref (sg sa k)]) ++ List.replicate (1 - (lg_sl ([.ref (sg sa k)])).length) Slot.unset).toArray = ls at hl ⊢
  have hl : lv_has ls 1 [(0, .ref (sg sa k))] := hl
  have k0 : (0 : Int32).toInt = 0 := by decide
  refine w_gen (A := A) hP (fun H locs hP hS => ?_)
  have k1 : (1 : Int32).toInt = 1 := by decide
  refine lv_aload_n hx hb d_SG_isPrefix_0 rfl (lv_at hl 0 rfl) ?_
  refine va_gets (C := "WaferForge$Sign") (n := "MINUS") (d := "LWaferForge$Sign;") (v := .ref (sg sa 51)) hx hb ((hSW.2.2.2.1.1 51 (by decide)).1) hS hown (hts _ kF_SG_159) (fun _ h9 => h9) d_SG_isPrefix_1 ?_
  refine lv_acmp_eq (rx := some (sg sa k)) (ry := some (sg sa 51)) (tgt := 21) hx hb d_SG_isPrefix_4 (by decide) (fun c4 => ?_) (fun c4 => ?_)
  · have q4 : k = 51 := hSW.2.2.2.1.2 k 51 hk (by decide : 51 < 55) (Option.some.inj c4)
    refine lv_iconst (v := 1) hx hb d_SG_isPrefix_21 (by decide) ?_
    refine lv_goto (tgt := 26) hx hb d_SG_isPrefix_22 (by decide) ?_
    have hP9 := hP.sub (ws' := []) [] rfl
    have hD9 := hD.sub (ws' := []) [] (by decide) rfl
    exact W.zret (v := 1) hx hb hr (zn01 (Or.inr rfl)) (fun t ht hW => ⟨⟨1, (), rfl, ⟨Or.inr rfl, ⟨fun _ => by omega, fun z => absurd z (by decide)⟩⟩, by rw [ht]; exact hP9, va_K.moved hW.alike hK, hD9⟩, hS.F ht⟩) hS.2.2 d_SG_isPrefix_26
  · have q4 : k ≠ 51 := fun z => c4 (by rw [z])
    refine lv_aload_n hx hb d_SG_isPrefix_7 rfl (lv_at hl 0 rfl) ?_
    refine va_gets (C := "WaferForge$Sign") (n := "NOT") (d := "LWaferForge$Sign;") (v := .ref (sg sa 34)) hx hb ((hSW.2.2.2.1.1 34 (by decide)).1) hS hown (hts _ kF_SG_108) (fun _ h9 => h9) d_SG_isPrefix_8 ?_
    refine lv_acmp_eq (rx := some (sg sa k)) (ry := some (sg sa 34)) (tgt := 21) hx hb d_SG_isPrefix_11 (by decide) (fun c11 => ?_) (fun c11 => ?_)
    · have q11 : k = 34 := hSW.2.2.2.1.2 k 34 hk (by decide : 34 < 55) (Option.some.inj c11)
      refine lv_iconst (v := 1) hx hb d_SG_isPrefix_21 (by decide) ?_
      refine lv_goto (tgt := 26) hx hb d_SG_isPrefix_22 (by decide) ?_
      have hP9 := hP.sub (ws' := []) [] rfl
      have hD9 := hD.sub (ws' := []) [] (by decide) rfl
      exact W.zret (v := 1) hx hb hr (zn01 (Or.inr rfl)) (fun t ht hW => ⟨⟨1, (), rfl, ⟨Or.inr rfl, ⟨fun _ => by omega, fun z => absurd z (by decide)⟩⟩, by rw [ht]; exact hP9, va_K.moved hW.alike hK, hD9⟩, hS.F ht⟩) hS.2.2 d_SG_isPrefix_26
    · have q11 : k ≠ 34 := fun z => c11 (by rw [z])
      refine lv_aload_n hx hb d_SG_isPrefix_14 rfl (lv_at hl 0 rfl) ?_
      refine va_gets (C := "WaferForge$Sign") (n := "INVERT") (d := "LWaferForge$Sign;") (v := .ref (sg sa 35)) hx hb ((hSW.2.2.2.1.1 35 (by decide)).1) hS hown (hts _ kF_SG_111) (fun _ h9 => h9) d_SG_isPrefix_15 ?_
      refine lv_acmp_ne (rx := some (sg sa k)) (ry := some (sg sa 35)) (tgt := 25) hx hb d_SG_isPrefix_18 (by decide) (fun c18 => ?_) (fun c18 => ?_)
      · have q18 : k ≠ 35 := fun z => c18 (by rw [z])
        refine lv_iconst (v := 0) hx hb d_SG_isPrefix_25 (by decide) ?_
        have hP9 := hP.sub (ws' := []) [] rfl
        have hD9 := hD.sub (ws' := []) [] (by decide) rfl
        exact W.zret (v := 0) hx hb hr (zn01 (Or.inl rfl)) (fun t ht hW => ⟨⟨0, (), rfl, ⟨Or.inl rfl, ⟨fun z => absurd z (by decide), fun _ => by omega⟩⟩, by rw [ht]; exact hP9, va_K.moved hW.alike hK, hD9⟩, hS.F ht⟩) hS.2.2 d_SG_isPrefix_26
      · have q18 : k = 35 := hSW.2.2.2.1.2 k 35 hk (by decide : 35 < 55) (Option.some.inj c18)
        refine lv_iconst (v := 1) hx hb d_SG_isPrefix_21 (by decide) ?_
        refine lv_goto (tgt := 26) hx hb d_SG_isPrefix_22 (by decide) ?_
        have hP9 := hP.sub (ws' := []) [] rfl
        have hD9 := hD.sub (ws' := []) [] (by decide) rfl
        exact W.zret (v := 1) hx hb hr (zn01 (Or.inr rfl)) (fun t ht hW => ⟨⟨1, (), rfl, ⟨Or.inr rfl, ⟨fun _ => by omega, fun z => absurd z (by decide)⟩⟩, by rw [ht]; exact hP9, va_K.moved hW.alike hK, hD9⟩, hS.F ht⟩) hS.2.2 d_SG_isPrefix_26
abbrev b_SG_type : ByteArray := prog_11_method_8_code
def y_SG_type : MethodName := ⟨R_SG, "type", "()I"⟩
abbrev w_SG_type : List Cond := .code y_SG_type b_SG_type 1 (Option.some .int) :: lw_g
theorem kC_SG_type : Cond.code y_SG_type b_SG_type 1 (Option.some .int) ∈ lw_g := in_g 933 (by decide +kernel) rfl
theorem d_SG_type_0 : decode b_SG_type 0 = .ok (.aload_n 0, 1) := by decide +kernel
theorem d_SG_type_1 : decode b_SG_type 1 = .ok (.getstatic 48, 3) := by decide +kernel
theorem d_SG_type_4 : decode b_SG_type 4 = .ok (.if_acmp .eq 10, 3) := by decide +kernel
theorem d_SG_type_7 : decode b_SG_type 7 = .ok (.aload_n 0, 1) := by decide +kernel
theorem d_SG_type_8 : decode b_SG_type 8 = .ok (.getstatic 15, 3) := by decide +kernel
theorem d_SG_type_11 : decode b_SG_type 11 = .ok (.if_acmp .ne 8, 3) := by decide +kernel
theorem d_SG_type_14 : decode b_SG_type 14 = .ok (.bipush 127, 2) := by decide +kernel
theorem d_SG_type_16 : decode b_SG_type 16 = .ok (.goto 5, 3) := by decide +kernel
theorem d_SG_type_19 : decode b_SG_type 19 = .ok (.bipush 126, 2) := by decide +kernel
theorem d_SG_type_21 : decode b_SG_type 21 = .ok (.ireturn, 1) := by decide +kernel
theorem kF_SG_48 : Cond.fieldLink R_SG 48 "WaferForge$Sign" "I32" "LWaferForge$Sign;" ∈ lw_g := in_g 934 (by decide +kernel) rfl
theorem kF_SG_15 : Cond.fieldLink R_SG 15 "WaferForge$Sign" "INTEGER" "LWaferForge$Sign;" ∈ lw_g := in_g 935 (by decide +kernel) rfl
abbrev at_SG_type (dC : Nat → ClassId) (dI : Nat → Nat → Nat)  (A : Nat → Prop) (u : Unit) (t : State) : Prop := match u with | _ => va_P (dC, dI) cls [] t.heap ∧ va_K (dC, dI) cls [] t ∧ va_D A []
set_option maxHeartbeats 4000000 in
set_option maxRecDepth 100000 in
theorem c_SG_type (l : Launch) (dC : Nat → ClassId) (dI : Nat → Nat → Nat) (sz : Nat) (sa : Nat → Nat) (k : Nat) (hk : k < 55)       : Met l y_SG_type w_SG_type ({ frames := 0, cells := 0, slots := 0, locals := 0 }) (va_Pc [.ref (sg sa k)] (fun U => U.heap.size = sz ∧ va_P (dC, dI) cls [] U.heap ∧ va_K (dC, dI) cls [] U ∧ va_D (fun _ => True) [] ∧ sw sa (va_A [] sz) U U.heap)) (va_Qi (fun (r : Int32) (u : Unit) => match u with | _ => ((r.toInt = 127 ∨ r.toInt = 126) ∧ (r.toInt = 127 ↔ (k = 14 ∨ k = 3)))) (at_SG_type dC dI  (va_A [] sz)) (va_A [] sz)) 0 0 (va_A [] sz) := by
  refine Met.ofW (cc := b_SG_type) (maxL := 1) (ret := (Option.some .int)) (by decide) rfl ?_
  intro p e s m args below meth c s₁ B hml hv
  obtain ⟨rfl, hsz, hP, hK, hD0, hSW⟩ := hv
  have hx := B.exec
  have hb := B.bytes
  have hr := B.returns
  have hts0 := atoms_spec (ws := w_SG_type) B.pre
  have hts : ∀ w ∈ lw_g, w.before _ s = true := fun w h => hts0 w (List.mem_cons_of_mem _ h)
  have hown : s.vm.findClass R_SG = some m.cls := findClass_of_methodNamed B.named
  have hlocks := B.notSynchronized
  clear hts0
  subst hsz
  have hD := hD0.self (sz := s.heap.size)
  generalize hAe : va_A [] s.heap.size = A at hD hSW ⊢
  have hA : ∀ q : Nat, s.heap.size ≤ q → A q := fun q h => by rw [← hAe]; exact Or.inr h
  clear hAe
  have hP : va_P (dC, dI) cls [] s.heap := hP
  have hl := lv_entry ([.ref (sg sa k)]) (n := 1) (Nat.le_of_ble_eq_true rfl)
  rw [lg_entry_eq]
  generalize (lg_sl ([.ref (sg sa k)]) ++ List.replicate (1 - (lg_sl ([.ref (sg sa k)])).length) Slot.unset).toArray = ls at hl ⊢
  have hl : lv_has ls 1 [(0, .ref (sg sa k))] := hl
  have k0 : (0 : Int32).toInt = 0 := by decide
  refine w_gen (A := A) hP (fun H locs hP hS => ?_)
  have k126 : (126 : Int32).toInt = 126 := by decide
  have k127 : (127 : Int32).toInt = 127 := by decide
  refine lv_aload_n hx hb d_SG_type_0 rfl (lv_at hl 0 rfl) ?_
  refine va_gets (C := "WaferForge$Sign") (n := "I32") (d := "LWaferForge$Sign;") (v := .ref (sg sa 14)) hx hb ((hSW.2.2.2.1.1 14 (by decide)).1) hS hown (hts _ kF_SG_48) (fun _ h9 => h9) d_SG_type_1 ?_
  refine lv_acmp_eq (rx := some (sg sa k)) (ry := some (sg sa 14)) (tgt := 14) hx hb d_SG_type_4 (by decide) (fun c4 => ?_) (fun c4 => ?_)
  · have q4 : k = 14 := hSW.2.2.2.1.2 k 14 hk (by decide : 14 < 55) (Option.some.inj c4)
    refine lv_bipush (v := 127) hx hb d_SG_type_14 (by decide) ?_
    refine lv_goto (tgt := 21) hx hb d_SG_type_16 (by decide) ?_
    have hP9 := hP.sub (ws' := []) [] rfl
    have hD9 := hD.sub (ws' := []) [] (by decide) rfl
    exact W.iret (v := 127) hx hb hr (fun t ht hW => ⟨⟨127, (), rfl, (by (try dsimp only) <;> omega), by rw [ht]; exact hP9, va_K.moved hW.alike hK, hD9⟩, hS.F ht⟩) hS.2.2 d_SG_type_21
  · have q4 : k ≠ 14 := fun z => c4 (by rw [z])
    refine lv_aload_n hx hb d_SG_type_7 rfl (lv_at hl 0 rfl) ?_
    refine va_gets (C := "WaferForge$Sign") (n := "INTEGER") (d := "LWaferForge$Sign;") (v := .ref (sg sa 3)) hx hb ((hSW.2.2.2.1.1 3 (by decide)).1) hS hown (hts _ kF_SG_15) (fun _ h9 => h9) d_SG_type_8 ?_
    refine lv_acmp_ne (rx := some (sg sa k)) (ry := some (sg sa 3)) (tgt := 19) hx hb d_SG_type_11 (by decide) (fun c11 => ?_) (fun c11 => ?_)
    · have q11 : k ≠ 3 := fun z => c11 (by rw [z])
      refine lv_bipush (v := 126) hx hb d_SG_type_19 (by decide) ?_
      have hP9 := hP.sub (ws' := []) [] rfl
      have hD9 := hD.sub (ws' := []) [] (by decide) rfl
      exact W.iret (v := 126) hx hb hr (fun t ht hW => ⟨⟨126, (), rfl, (by (try dsimp only) <;> omega), by rw [ht]; exact hP9, va_K.moved hW.alike hK, hD9⟩, hS.F ht⟩) hS.2.2 d_SG_type_21
    · have q11 : k = 3 := hSW.2.2.2.1.2 k 3 hk (by decide : 3 < 55) (Option.some.inj c11)
      refine lv_bipush (v := 127) hx hb d_SG_type_14 (by decide) ?_
      refine lv_goto (tgt := 21) hx hb d_SG_type_16 (by decide) ?_
      have hP9 := hP.sub (ws' := []) [] rfl
      have hD9 := hD.sub (ws' := []) [] (by decide) rfl
      exact W.iret (v := 127) hx hb hr (fun t ht hW => ⟨⟨127, (), rfl, (by (try dsimp only) <;> omega), by rw [ht]; exact hP9, va_K.moved hW.alike hK, hD9⟩, hS.F ht⟩) hS.2.2 d_SG_type_21
abbrev b_SG_takes : ByteArray := prog_11_method_7_code
def y_SG_takes : MethodName := ⟨R_SG, "takes", "()I"⟩
abbrev w_SG_takes : List Cond := .code y_SG_takes b_SG_takes 1 (Option.some .int) :: lw_g
theorem kC_SG_takes : Cond.code y_SG_takes b_SG_takes 1 (Option.some .int) ∈ lw_g := in_g 1171 (by decide +kernel) rfl
theorem d_SG_takes_0 : decode b_SG_takes 0 = .ok (.aload_n 0, 1) := by decide +kernel
theorem d_SG_takes_1 : decode b_SG_takes 1 = .ok (.getfield 207, 3) := by decide +kernel
theorem d_SG_takes_4 : decode b_SG_takes 4 = .ok (.bipush 64, 2) := by decide +kernel
theorem d_SG_takes_6 : decode b_SG_takes 6 = .ok (.if_icmp .ne 7, 3) := by decide +kernel
theorem d_SG_takes_9 : decode b_SG_takes 9 = .ok (.iconst 0, 1) := by decide +kernel
theorem d_SG_takes_10 : decode b_SG_takes 10 = .ok (.goto 17, 3) := by decide +kernel
theorem d_SG_takes_13 : decode b_SG_takes 13 = .ok (.aload_n 0, 1) := by decide +kernel
theorem d_SG_takes_14 : decode b_SG_takes 14 = .ok (.getfield 210, 3) := by decide +kernel
theorem d_SG_takes_17 : decode b_SG_takes 17 = .ok (.bipush 64, 2) := by decide +kernel
theorem d_SG_takes_19 : decode b_SG_takes 19 = .ok (.if_icmp .ne 7, 3) := by decide +kernel
theorem d_SG_takes_22 : decode b_SG_takes 22 = .ok (.iconst 1, 1) := by decide +kernel
theorem d_SG_takes_23 : decode b_SG_takes 23 = .ok (.goto 4, 3) := by decide +kernel
theorem d_SG_takes_26 : decode b_SG_takes 26 = .ok (.iconst 2, 1) := by decide +kernel
theorem d_SG_takes_27 : decode b_SG_takes 27 = .ok (.ireturn, 1) := by decide +kernel
theorem kF_SG_207 : Cond.fieldLink R_SG 207 "WaferForge$Sign" "takesFirst" "I" ∈ lw_g := in_g 3118 (by decide +kernel) rfl
theorem kF_SG_210 : Cond.fieldLink R_SG 210 "WaferForge$Sign" "takesSecond" "I" ∈ lw_g := in_g 3119 (by decide +kernel) rfl
abbrev at_SG_takes (dC : Nat → ClassId) (dI : Nat → Nat → Nat)  (A : Nat → Prop) (u : Unit) (t : State) : Prop := match u with | _ => va_P (dC, dI) cls [] t.heap ∧ va_K (dC, dI) cls [] t ∧ va_D A []
set_option maxHeartbeats 4000000 in
set_option maxRecDepth 100000 in
theorem c_SG_takes (l : Launch) (dC : Nat → ClassId) (dI : Nat → Nat → Nat) (sz : Nat) (sa : Nat → Nat) (k : Nat) (hk : k < 55)       : Met l y_SG_takes w_SG_takes ({ frames := 0, cells := 0, slots := 0, locals := 0 }) (va_Pc [.ref (sg sa k)] (fun U => U.heap.size = sz ∧ va_P (dC, dI) cls [] U.heap ∧ va_K (dC, dI) cls [] U ∧ va_D (fun _ => True) [] ∧ sw sa (va_A [] sz) U U.heap)) (va_Qi (fun (r : Int32) (u : Unit) => match u with | _ => ((r.toInt = 0 ∨ r.toInt = 1 ∨ r.toInt = 2) ∧ (r.toInt = 0 → (sg_takesFirst.getD k 0).toInt = 64) ∧ (r.toInt = 1 → (sg_takesFirst.getD k 0).toInt ≠ 64 ∧ (sg_takesSecond.getD k 0).toInt = 64) ∧ (r.toInt = 2 → (sg_takesFirst.getD k 0).toInt ≠ 64 ∧ (sg_takesSecond.getD k 0).toInt ≠ 64))) (at_SG_takes dC dI  (va_A [] sz)) (va_A [] sz)) 0 0 (va_A [] sz) := by
  refine Met.ofW (cc := b_SG_takes) (maxL := 1) (ret := (Option.some .int)) (by decide) rfl ?_
  intro p e s m args below meth c s₁ B hml hv
  obtain ⟨rfl, hsz, hP, hK, hD0, hSW⟩ := hv
  have hx := B.exec
  have hb := B.bytes
  have hr := B.returns
  have hts0 := atoms_spec (ws := w_SG_takes) B.pre
  have hts : ∀ w ∈ lw_g, w.before _ s = true := fun w h => hts0 w (List.mem_cons_of_mem _ h)
  have hown : s.vm.findClass R_SG = some m.cls := findClass_of_methodNamed B.named
  have hlocks := B.notSynchronized
  clear hts0
  subst hsz
  have hD := hD0.self (sz := s.heap.size)
  generalize hAe : va_A [] s.heap.size = A at hD hSW ⊢
  have hA : ∀ q : Nat, s.heap.size ≤ q → A q := fun q h => by rw [← hAe]; exact Or.inr h
  clear hAe
  have hP : va_P (dC, dI) cls [] s.heap := hP
  have hl := lv_entry ([.ref (sg sa k)]) (n := 1) (Nat.le_of_ble_eq_true rfl)
  rw [lg_entry_eq]
  generalize (lg_sl ([.ref (sg sa k)]) ++ List.replicate (1 - (lg_sl ([.ref (sg sa k)])).length) Slot.unset).toArray = ls at hl ⊢
  have hl : lv_has ls 1 [(0, .ref (sg sa k))] := hl
  have k0 : (0 : Int32).toInt = 0 := by decide
  refine w_gen (A := A) hP (fun H locs hP hS => ?_)
  have k1 : (1 : Int32).toInt = 1 := by decide
  have k2 : (2 : Int32).toInt = 2 := by decide
  have k64 : (64 : Int32).toInt = 64 := by decide
  refine lv_aload_n hx hb d_SG_takes_0 rfl (lv_at hl 0 rfl) ?_
  refine va_getE (i := k) (q := ("WaferForge$Sign", "takesFirst", "I", sg_takesFirst)) hx hb hSW.2.2.2.1 hk hS hown (List.mem_of_getElem? (i := 4) rfl) (hts _ kF_SG_207) (fun _ h9 => h9) d_SG_takes_1 ?_
  refine lv_topi (fun x1 ex1 => ?_)
  have ex1 : x1 = sg_takesFirst.getD k 0 := ex1
  have tx1 : x1.toInt = (sg_takesFirst.getD k 0).toInt := by rw [ex1]
  refine lv_bipush (v := 64) hx hb d_SG_takes_4 (by decide) ?_
  refine lv_icmp_ne (tgt := 13) hx hb d_SG_takes_6 (by decide) (fun c6 => ?_) (fun c6 => ?_)
  · have q6 := neI c6
    refine lv_aload_n hx hb d_SG_takes_13 rfl (lv_at hl 0 rfl) ?_
    refine va_getE (i := k) (q := ("WaferForge$Sign", "takesSecond", "I", sg_takesSecond)) hx hb hSW.2.2.2.1 hk hS hown (List.mem_of_getElem? (i := 5) rfl) (hts _ kF_SG_210) (fun _ h9 => h9) d_SG_takes_14 ?_
    refine lv_topi (fun x2 ex2 => ?_)
    have ex2 : x2 = sg_takesSecond.getD k 0 := ex2
    have tx2 : x2.toInt = (sg_takesSecond.getD k 0).toInt := by rw [ex2]
    refine lv_bipush (v := 64) hx hb d_SG_takes_17 (by decide) ?_
    refine lv_icmp_ne (tgt := 26) hx hb d_SG_takes_19 (by decide) (fun c19 => ?_) (fun c19 => ?_)
    · have q19 := neI c19
      refine lv_iconst (v := 2) hx hb d_SG_takes_26 (by decide) ?_
      have hP9 := hP.sub (ws' := []) [] rfl
      have hD9 := hD.sub (ws' := []) [] (by decide) rfl
      exact W.iret (v := 2) hx hb hr (fun t ht hW => ⟨⟨2, (), rfl, (by (try dsimp only) <;> omega), by rw [ht]; exact hP9, va_K.moved hW.alike hK, hD9⟩, hS.F ht⟩) hS.2.2 d_SG_takes_27
    · have q19 := eqI c19
      refine lv_iconst (v := 1) hx hb d_SG_takes_22 (by decide) ?_
      refine lv_goto (tgt := 27) hx hb d_SG_takes_23 (by decide) ?_
      have hP9 := hP.sub (ws' := []) [] rfl
      have hD9 := hD.sub (ws' := []) [] (by decide) rfl
      exact W.iret (v := 1) hx hb hr (fun t ht hW => ⟨⟨1, (), rfl, (by (try dsimp only) <;> omega), by rw [ht]; exact hP9, va_K.moved hW.alike hK, hD9⟩, hS.F ht⟩) hS.2.2 d_SG_takes_27
  · have q6 := eqI c6
    refine lv_iconst (v := 0) hx hb d_SG_takes_9 (by decide) ?_
    refine lv_goto (tgt := 27) hx hb d_SG_takes_10 (by decide) ?_
    have hP9 := hP.sub (ws' := []) [] rfl
    have hD9 := hD.sub (ws' := []) [] (by decide) rfl
    exact W.iret (v := 0) hx hb hr (fun t ht hW => ⟨⟨0, (), rfl, (by (try dsimp only) <;> omega), by rw [ht]; exact hP9, va_K.moved hW.alike hK, hD9⟩, hS.F ht⟩) hS.2.2 d_SG_takes_27
